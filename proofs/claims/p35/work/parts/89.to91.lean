section
/-! ===== the questions' answers are the same ===== -/
theorem add4 {F a G b : Int32} : (F + a) + (G + b) = (F + G) + (a + b) := by rw [Int32.add_assoc, Int32.add_assoc, ← Int32.add_assoc a, Int32.add_comm a G, Int32.add_assoc G]
theorem jsum_lin {f g h : Nat → Int32} {w z : Int32} : ∀ n, (∀ m, m < n → f m * w + g m * z = h m) → jsum f n * w + jsum g n * z = jsum h n
  | 0, _ => by rw [jsum, jsum, jsum, Int32.zero_mul, Int32.zero_mul, Int32.add_zero]
  | n + 1, hh => by
    rw [jsum, jsum, jsum, ← jsum_lin n (fun m hm => hh m (by omega)), ← hh n (by omega), Int32.add_mul, Int32.add_mul]
    exact add4
theorem fV_lin {w z x y e : Int32} : fV w z 2 x y e * w + fV w z 3 x y e * z = fV w z 1 x y e := by
  show jb (¬ x ≤ y) * w + jb (x = y) * z = if ¬ x ≤ y then w else if x = y then z else 0
  by_cases c : ¬ x ≤ y
  · have c2 : ¬ x = y := fun q => c (by rw [q]; exact Int32.le_refl y)
    rw [if_pos c, jb_t c, jb_f c2, Int32.one_mul, Int32.zero_mul, Int32.add_zero]
  · by_cases c2 : x = y
    · rw [if_neg c, if_pos c2, jb_f c, jb_t c2, Int32.zero_mul, Int32.one_mul, Int32.zero_add]
    · rw [if_neg c, if_neg c2, jb_f c, jb_f c2, Int32.zero_mul, Int32.zero_mul, Int32.add_zero]
theorem pa_sum {t : Nat} {dr : Bool} {A B : MM} (hL : rL t dr (lgC A 1) (B 95)) {q : Nat} (hq : q < 8) : gH B (nn t dr) (nI q) 2 * A 1 4 + gH B (nn t dr) (nI q) 3 * A 1 5 = gH B (nn t dr) (nI q) 1 := by
  have g4 : A 1 4 = B 95 3 := by
    obtain ⟨z, -, z1, z2⟩ := hL.2.2.2.2.2.2.2.2.2.1
    exact (show A 1 4 = nI z from z1).trans z2.symm
  have g5 : A 1 5 = B 95 4 := by
    obtain ⟨z, -, z1, z2⟩ := hL.2.2.2.2.2.2.2.2.2.2.1
    exact (show A 1 5 = nI z from z1).trans z2.symm
  rw [g4, g5]
  refine jsum_lin _ (fun m hm => ?_)
  cases dr with
  | false => exact absurd hm (Nat.not_lt_zero m)
  | true =>
    have ht := hL.1
    obtain ⟨h, a, h1, h2, h3, -, -, h6, h7⟩ := home_r hL hm
    have z0 : ∀ w z : Int32, (0 : Int32) * w + 0 * z = 0 := fun w z => by rw [Int32.zero_mul, Int32.zero_mul, Int32.add_zero]
    by_cases e : q = h
    · subst e
      rw [has_h h6 h7 (by omega), has_h h6 h7 (by omega), has_h h6 h7 (by omega)]
      by_cases p : ¬ jof B m 4 = 1
      · rw [if_pos p, if_pos p, if_pos p]; exact z0 _ _
      · rw [if_neg p, if_neg p, if_neg p]; exact fV_lin
    · by_cases e2 : q = a
      · subst e2
        rw [has_a h6 h7 (by omega) (by omega) h3, has_a h6 h7 (by omega) (by omega) h3, has_a h6 h7 (by omega) (by omega) h3]
        by_cases p : ¬ jof B m 4 = 1
        · rw [if_pos p, if_pos p, if_pos p]; exact z0 _ _
        · rw [if_neg p, if_neg p, if_neg p]; exact fV_lin
      · rw [has_0 h6 h7 (by omega) (by omega) hq e e2, has_0 h6 h7 (by omega) (by omega) hq e e2, has_0 h6 h7 (by omega) (by omega) hq e e2]; exact z0 _ _
theorem pw_r {t : Nat} {dr : Bool} {A B : MM} (hL : rL t dr (lgC A 1) (B 95)) : A 1 4 = B 95 3 := by
  obtain ⟨z, -, z1, z2⟩ := hL.2.2.2.2.2.2.2.2.2.1
  exact (show A 1 4 = nI z from z1).trans z2.symm
theorem R_pointsAgain {b : SBt} {Y : OUt} {M : MM} (I : Inv b M) (u : Int32) : Step b Y M yL_pointsAgain cL_pointsAgain 4 [(0, 9, 12, 45)] [.ref 0, .int u, .ref 102] yX6_pointsAgain cX6_pointsAgain 2 (some .int) [.ref 94, .int u] cmpI := by
  have hb := I.hb
  obtain ⟨t, dr, hL, hF⟩ := Inv_now I
  have ht := hL.1
  have hn := nn_le (dr := dr) ht
  have hm := jmc_r hL hF
  have hw := jwc_r hL hF
  have hz14 := zz_le (dr := dr) ht
  have h10 : M 1 0 = nI t := hL.2.1
  have h950 : M 95 0 = nI t := hL.2.2.1
  have h951 : M 95 1 = nI (zz t dr) := hL.2.2.2.2.2.2.1
  have h959 : M 95 9 = nI (nn t dr) := hL.2.2.2.2.2.2.2.1
  have hLc : rL t dr (lgC M 1) (jm (jcount M (nn t dr)) 94 19 0 95) := rL_cells hL (fun _ _ _ _ => rfl) (fun c _ => by rw [jm_n (by omega)]; exact jcount_n (by omega))
  have hL0 : rL t dr (lgC M 1) (jm M 94 19 0 95) := rL_cells hL (fun _ _ _ _ => rfl) (fun c _ => jm_n (by omega))
  have hta : ∀ (k q : Nat), 1 ≤ k → k ≤ 8 → q < 8 → jat 8 (jcount M (nn t dr) (75 + k)) (nI q) = gH (jm (jcount M (nn t dr)) 94 19 0) (nn t dr) (nI q) k := fun k q h1 h2 h3 => by rw [jat_nI h3 (by decide)]; exact tally_r hLc hF h1 h2 h3
  by_cases hT : ∃ q, q < t ∧ u = nI q
  · have hT1 := (in_q1 (x := u) (n := t) (by omega)).mpr hT
    obtain ⟨q, hq, rfl⟩ := hT
    rw [← h10] at hT1
    exact Step_q I (H_pointsAgain_r hb (c_pointsAgain (d := 14) (Y := Y) hb hT1 hn hm)) (cx_pointsAgain (d := 16) hb (by rw [jcount_n (by omega), h950]; exact (in_q2 (by omega)).mpr ⟨q, hq, rfl⟩) hn (by rw [jcount_n (by omega)]; exact h959)) (by decide) (by decide) qE_c tE_1 (cmp_eq jm_s (by rw [hta 2 q (by omega) (by omega) (by omega), hta 3 q (by omega) (by omega) (by omega), jcount_n (by omega), jcount_n (by omega)]; exact pa_sum hLc (by omega)))
  · have hT1 : ¬ (¬ u < 0 ∧ ¬ M 1 0 ≤ u) := by rw [h10]; exact fun z => hT ((in_q1 (by omega)).mp z)
    exact Step_q I (H_pointsAgain_t1 (d := 19) hb (c_pointsAgain_nt (d := 18) (Y := Y) hb hT1)) (cx_pointsAgain_nt (d := 18) hb (by rw [h950]; exact fun z => hT ((in_q2 (by omega)).mp z))) (by decide) (by decide) qE_0 tE_2 (cmp_no jm_s (by decide))
theorem R_most {b : SBt} {Y : OUt} {M : MM} (I : Inv b M) (u : Int32) : Step b Y M yL_most cL_most 4 [(0, 9, 12, 45)] [.ref 0, .int u, .ref 102] yX6_most cX6_most 2 (some .int) [.ref 94, .int u] cmpI := by
  have hb := I.hb
  obtain ⟨t, dr, hL, hF⟩ := Inv_now I
  have ht := hL.1
  have hn := nn_le (dr := dr) ht
  have hm := jmc_r hL hF
  have hw := jwc_r hL hF
  have hz14 := zz_le (dr := dr) ht
  have h10 : M 1 0 = nI t := hL.2.1
  have h950 : M 95 0 = nI t := hL.2.2.1
  have h951 : M 95 1 = nI (zz t dr) := hL.2.2.2.2.2.2.1
  have h959 : M 95 9 = nI (nn t dr) := hL.2.2.2.2.2.2.2.1
  have hLc : rL t dr (lgC M 1) (jm (jcount M (nn t dr)) 94 19 0 95) := rL_cells hL (fun _ _ _ _ => rfl) (fun c _ => by rw [jm_n (by omega)]; exact jcount_n (by omega))
  have hL0 : rL t dr (lgC M 1) (jm M 94 19 0 95) := rL_cells hL (fun _ _ _ _ => rfl) (fun c _ => jm_n (by omega))
  have hta : ∀ (k q : Nat), 1 ≤ k → k ≤ 8 → q < 8 → jat 8 (jcount M (nn t dr) (75 + k)) (nI q) = gH (jm (jcount M (nn t dr)) 94 19 0) (nn t dr) (nI q) k := fun k q h1 h2 h3 => by rw [jat_nI h3 (by decide)]; exact tally_r hLc hF h1 h2 h3
  by_cases hT : ∃ q, q < t ∧ u = nI q
  · have hT1 := (in_q1 (x := u) (n := t) (by omega)).mpr hT
    obtain ⟨q, hq, rfl⟩ := hT
    rw [← h10] at hT1
    exact Step_q I (H_most_r hb (c_most (d := 14) (Y := Y) hb hT1 hn hm)) (cx_most (d := 15) hb (by rw [jcount_n (by omega), h950]; exact (in_q2 (by omega)).mpr ⟨q, hq, rfl⟩) hn (by rw [jcount_n (by omega)]; exact h959)) (by decide) (by decide) qE_c tE_1 (cmp_eq jm_s (by rw [hta 1 q (by omega) (by omega) (by omega), hta 8 q (by omega) (by omega) (by omega), jcount_n (by omega)]; unfold gMost; rw [← pw_r hLc]))
  · have hT1 : ¬ (¬ u < 0 ∧ ¬ M 1 0 ≤ u) := by rw [h10]; exact fun z => hT ((in_q1 (by omega)).mp z)
    exact Step_q I (H_most_t1 (d := 19) hb (c_most_nt (d := 18) (Y := Y) hb hT1)) (cx_most_nt (d := 18) hb (by rw [h950]; exact fun z => hT ((in_q2 (by omega)).mp z))) (by decide) (by decide) qE_0 tE_2 (cmp_no jm_s (by decide))
theorem tied_r {t n : Nat} {M B : MM} {q : Nat} (ht : t ≤ 8) (hq : q < 8) (h : ∀ i, i < 8 → jat 8 (jcount M n 76) (nI i) = gH B n (nI i) 1) : ∀ w, w ≤ t → jtied (jcount M n) (nI q) w = gTied B n (nI q) w
  | 0, _ => rfl
  | w + 1, hw => by
    rw [jtied, gTied, tied_r ht hq h w (by omega), h w (by omega), h q hq]
theorem R_tied {b : SBt} {Y : OUt} {M : MM} (I : Inv b M) (u : Int32) : Step b Y M yL_tied cL_tied 4 [(0, 9, 12, 45)] [.ref 0, .int u, .ref 102] yX6_tied cX6_tied 2 (some .int) [.ref 94, .int u] cmpI := by
  have hb := I.hb
  obtain ⟨t, dr, hL, hF⟩ := Inv_now I
  have ht := hL.1
  have hn := nn_le (dr := dr) ht
  have hm := jmc_r hL hF
  have hw := jwc_r hL hF
  have hz14 := zz_le (dr := dr) ht
  have h10 : M 1 0 = nI t := hL.2.1
  have h950 : M 95 0 = nI t := hL.2.2.1
  have h951 : M 95 1 = nI (zz t dr) := hL.2.2.2.2.2.2.1
  have h959 : M 95 9 = nI (nn t dr) := hL.2.2.2.2.2.2.2.1
  have hLc : rL t dr (lgC M 1) (jm (jcount M (nn t dr)) 94 19 0 95) := rL_cells hL (fun _ _ _ _ => rfl) (fun c _ => by rw [jm_n (by omega)]; exact jcount_n (by omega))
  have hL0 : rL t dr (lgC M 1) (jm M 94 19 0 95) := rL_cells hL (fun _ _ _ _ => rfl) (fun c _ => jm_n (by omega))
  have hta : ∀ (k q : Nat), 1 ≤ k → k ≤ 8 → q < 8 → jat 8 (jcount M (nn t dr) (75 + k)) (nI q) = gH (jm (jcount M (nn t dr)) 94 19 0) (nn t dr) (nI q) k := fun k q h1 h2 h3 => by rw [jat_nI h3 (by decide)]; exact tally_r hLc hF h1 h2 h3
  by_cases hT : ∃ q, q < t ∧ u = nI q
  · have hT1 := (in_q1 (x := u) (n := t) (by omega)).mpr hT
    obtain ⟨q, hq, rfl⟩ := hT
    rw [← h10] at hT1
    exact Step_q I (H_tied_r hb (c_tied (d := 14) (Y := Y) hb hT1 hn hm ht h10)) (cx_tied (d := 15) hb (by rw [jcount_n (by omega), h950]; exact (in_q2 (by omega)).mpr ⟨q, hq, rfl⟩) hn (by rw [jcount_n (by omega)]; exact h959) ht (by rw [jcount_n (by omega)]; exact h950)) (by decide) (by decide) qE_c tE_1 (cmp_eq jm_s (tied_r ht (by omega) (fun i hi => hta 1 i (by omega) (by omega) hi) t (Nat.le_refl _)))
  · have hT1 : ¬ (¬ u < 0 ∧ ¬ M 1 0 ≤ u) := by rw [h10]; exact fun z => hT ((in_q1 (by omega)).mp z)
    exact Step_q I (H_tied_t1 (d := 19) hb (c_tied_nt (d := 18) (Y := Y) hb hT1)) (cx_tied_nt (d := 18) hb (by rw [h950]; exact fun z => hT ((in_q2 (by omega)).mp z))) (by decide) (by decide) qE_0 tE_2 (cmp_no jm_s (by decide))
theorem run_r {t : Nat} {M B : MM} (hL : rL t true (lgC M 1) (B 95)) (hF : rFix t M) (u : Int32) : ∀ m, m ≤ nT t → jrun M u m = gRun B u m
  | 0, _ => rfl
  | m + 1, hm => by
    obtain ⟨m1, m2⟩ := mt_q hL (show m < nT t by omega)
    obtain ⟨f1, f2, -⟩ := hF.2.2.1 m (by omega)
    have hh := mt_of.mp (hL.2.2.2.2.2.2.2.2.2.2.2.2 m (show m < nn t true from hm))
    rw [jrun, gRun, run_r hL hF u m (by omega)]
    by_cases c : M 5 m = -1
    · rw [if_pos c, if_pos (fun z => m1.mpr z c)]
    · rw [if_neg c, if_neg (show ¬ ¬ jof B m 4 = 1 from fun z => z (m1.mp c)), show M 70 m = jof B m 0 from f1.trans hh.1.symm, show M 71 m = jof B m 1 from f2.trans hh.2.1.symm]
      rcases hh.2.2.2.2.2 with ⟨p, g, g2, p1, p2, p3, p4, p5, p6⟩ | ⟨p, p3, p4⟩
      · rw [show M 5 m = jof B m 6 from p3.trans p4.symm, show M 6 m = jof B m 7 from p5.trans p6.symm]
      · exact absurd p3 c
theorem R_run {b : SBt} {Y : OUt} {M : MM} (I : Inv b M) (u : Int32) : Step b Y M yL_run cL_run 4 [(0, 9, 12, 45)] [.ref 0, .int u, .ref 102] yX6_run cX6_run 8 (some .int) [.ref 94, .int u] cmpI := by
  have hb := I.hb
  obtain ⟨t, dr, hL, hF⟩ := Inv_now I
  have ht := hL.1
  have hn := nn_le (dr := dr) ht
  have hm := jmc_r hL hF
  have hw := jwc_r hL hF
  have hz14 := zz_le (dr := dr) ht
  have h10 : M 1 0 = nI t := hL.2.1
  have h950 : M 95 0 = nI t := hL.2.2.1
  have h951 : M 95 1 = nI (zz t dr) := hL.2.2.2.2.2.2.1
  have h959 : M 95 9 = nI (nn t dr) := hL.2.2.2.2.2.2.2.1
  have hLc : rL t dr (lgC M 1) (jm (jcount M (nn t dr)) 94 19 0 95) := rL_cells hL (fun _ _ _ _ => rfl) (fun c _ => by rw [jm_n (by omega)]; exact jcount_n (by omega))
  have hL0 : rL t dr (lgC M 1) (jm M 94 19 0 95) := rL_cells hL (fun _ _ _ _ => rfl) (fun c _ => jm_n (by omega))
  have hta : ∀ (k q : Nat), 1 ≤ k → k ≤ 8 → q < 8 → jat 8 (jcount M (nn t dr) (75 + k)) (nI q) = gH (jm (jcount M (nn t dr)) 94 19 0) (nn t dr) (nI q) k := fun k q h1 h2 h3 => by rw [jat_nI h3 (by decide)]; exact tally_r hLc hF h1 h2 h3
  by_cases hT : ∃ q, q < t ∧ u = nI q
  · have hT1 := (in_q1 (x := u) (n := t) (by omega)).mpr hT
    obtain ⟨q, hq, rfl⟩ := hT
    rw [← h10] at hT1
    exact Step_q I (H_run_r hb (c_run (d := 16) (Y := Y) hb hT1 hn hm)) (cx_run (d := 17) hb (by rw [h950]; exact (in_q2 (by omega)).mpr ⟨q, hq, rfl⟩) hn h959) (by decide) (by decide) qE_0 tE_1 (cmp_eq jm_s (by
      cases dr with
      | false => rfl
      | true => exact congrArg Prod.fst (run_r hL0 (hF rfl) (nI q) (nT t) (Nat.le_refl _))))
  · have hT1 : ¬ (¬ u < 0 ∧ ¬ M 1 0 ≤ u) := by rw [h10]; exact fun z => hT ((in_q1 (by omega)).mp z)
    exact Step_q I (H_run_t1 (d := 19) hb (c_run_nt (d := 18) (Y := Y) hb hT1)) (cx_run_nt (d := 18) hb (by rw [h950]; exact fun z => hT ((in_q2 (by omega)).mp z))) (by decide) (by decide) qE_0 tE_2 (cmp_no jm_s (by decide))
theorem R_teamOf {b : SBt} {Y : OUt} {M : MM} (I : Inv b M) (u v : Int32) : Step b Y M yL_teamOf cL_teamOf 5 [(0, 10, 13, 45), (0, 10, 17, 47)] [.ref 0, .int u, .int v, .ref 102] yX6_teamOf cX6_teamOf 3 (some .int) [.ref 94, .int u, .int v] cmpI := by
  have hb := I.hb
  obtain ⟨t, dr, hL, hF⟩ := Inv_now I
  have ht := hL.1
  have hn := nn_le (dr := dr) ht
  have hm := jmc_r hL hF
  have hw := jwc_r hL hF
  have hz14 := zz_le (dr := dr) ht
  have h10 : M 1 0 = nI t := hL.2.1
  have h950 : M 95 0 = nI t := hL.2.2.1
  have h951 : M 95 1 = nI (zz t dr) := hL.2.2.2.2.2.2.1
  have h959 : M 95 9 = nI (nn t dr) := hL.2.2.2.2.2.2.2.1
  have hLc : rL t dr (lgC M 1) (jm (jcount M (nn t dr)) 94 19 0 95) := rL_cells hL (fun _ _ _ _ => rfl) (fun c _ => by rw [jm_n (by omega)]; exact jcount_n (by omega))
  have hL0 : rL t dr (lgC M 1) (jm M 94 19 0 95) := rL_cells hL (fun _ _ _ _ => rfl) (fun c _ => jm_n (by omega))
  have hta : ∀ (k q : Nat), 1 ≤ k → k ≤ 8 → q < 8 → jat 8 (jcount M (nn t dr) (75 + k)) (nI q) = gH (jm (jcount M (nn t dr)) 94 19 0) (nn t dr) (nI q) k := fun k q h1 h2 h3 => by rw [jat_nI h3 (by decide)]; exact tally_r hLc hF h1 h2 h3
  by_cases hT : ∃ q, q < t ∧ u = nI q
  · have hT1 := (in_q1 (x := u) (n := t) (by omega)).mpr hT
    obtain ⟨q, hq, rfl⟩ := hT
    rw [← h10] at hT1
    by_cases hx : ¬ v < 0 ∧ ¬ 8 < v
    · obtain ⟨z, hz, rfl⟩ := int_rng (u := v) (n := 8) (by decide) hx.1 hx.2
      rcases (show z = 0 ∨ z = 1 ∨ z = 2 ∨ z = 3 ∨ z = 4 ∨ z = 5 ∨ z = 6 ∨ z = 7 ∨ z = 8 by omega) with rfl | rfl | rfl | rfl | rfl | rfl | rfl | rfl | rfl
      · exact Step_q I (H_teamOf_r hb (c_teamOf_k0 (d := 14) (Y := Y) hb hT1 hn hm)) (cx_teamOf_k0 (d := 16) hb ht (by rw [jcount_n (by omega)]; exact h950) hq) (by decide) (by decide) qE_c tE_1 (cmp_eq jm_s (by rw [jat_nI (by omega) (by decide), jcount_n (by omega), jm_n (by omega), jcount_n (by omega)]; exact hL.2.2.2.1 q (by omega)))
      · exact Step_q I (H_teamOf_r hb (c_teamOf_k1 (d := 14) (Y := Y) hb hT1 hn hm)) (cx_teamOf_k1 (d := 16) hb (by rw [jcount_n (by omega), h950]; exact (in_q2 (by omega)).mpr ⟨q, hq, rfl⟩) hn (by rw [jcount_n (by omega)]; exact h959)) (by decide) (by decide) qE_c tE_1 (cmp_eq jm_s (hta 1 q (by omega) (by omega) (by omega)))
      · exact Step_q I (H_teamOf_r hb (c_teamOf_k2 (d := 14) (Y := Y) hb hT1 hn hm)) (cx_teamOf_k2 (d := 16) hb (by rw [jcount_n (by omega), h950]; exact (in_q2 (by omega)).mpr ⟨q, hq, rfl⟩) hn (by rw [jcount_n (by omega)]; exact h959)) (by decide) (by decide) qE_c tE_1 (cmp_eq jm_s (hta 2 q (by omega) (by omega) (by omega)))
      · exact Step_q I (H_teamOf_r hb (c_teamOf_k3 (d := 14) (Y := Y) hb hT1 hn hm)) (cx_teamOf_k3 (d := 16) hb (by rw [jcount_n (by omega), h950]; exact (in_q2 (by omega)).mpr ⟨q, hq, rfl⟩) hn (by rw [jcount_n (by omega)]; exact h959)) (by decide) (by decide) qE_c tE_1 (cmp_eq jm_s (hta 3 q (by omega) (by omega) (by omega)))
      · exact Step_q I (H_teamOf_r hb (c_teamOf_k4 (d := 14) (Y := Y) hb hT1 hn hm)) (cx_teamOf_k4 (d := 16) hb (by rw [jcount_n (by omega), h950]; exact (in_q2 (by omega)).mpr ⟨q, hq, rfl⟩) hn (by rw [jcount_n (by omega)]; exact h959)) (by decide) (by decide) qE_c tE_1 (cmp_eq jm_s (hta 4 q (by omega) (by omega) (by omega)))
      · exact Step_q I (H_teamOf_r hb (c_teamOf_k5 (d := 14) (Y := Y) hb hT1 hn hm)) (cx_teamOf_k5 (d := 16) hb (by rw [jcount_n (by omega), h950]; exact (in_q2 (by omega)).mpr ⟨q, hq, rfl⟩) hn (by rw [jcount_n (by omega)]; exact h959)) (by decide) (by decide) qE_c tE_1 (cmp_eq jm_s (hta 5 q (by omega) (by omega) (by omega)))
      · exact Step_q I (H_teamOf_r hb (c_teamOf_k6 (d := 14) (Y := Y) hb hT1 hn hm)) (cx_teamOf_k6 (d := 16) hb (by rw [jcount_n (by omega), h950]; exact (in_q2 (by omega)).mpr ⟨q, hq, rfl⟩) hn (by rw [jcount_n (by omega)]; exact h959)) (by decide) (by decide) qE_c tE_1 (cmp_eq jm_s (hta 6 q (by omega) (by omega) (by omega)))
      · exact Step_q I (H_teamOf_r hb (c_teamOf_k7 (d := 14) (Y := Y) hb hT1 hn hm)) (cx_teamOf_k7 (d := 16) hb (by rw [jcount_n (by omega), h950]; exact (in_q2 (by omega)).mpr ⟨q, hq, rfl⟩) hn (by rw [jcount_n (by omega)]; exact h959)) (by decide) (by decide) qE_c tE_1 (cmp_eq jm_s (hta 7 q (by omega) (by omega) (by omega)))
      · exact Step_q I (H_teamOf_r hb (c_teamOf_k8 (d := 14) (Y := Y) hb hT1 hn hm)) (cx_teamOf_k8 (d := 16) hb (by rw [jcount_n (by omega), h950]; exact (in_q2 (by omega)).mpr ⟨q, hq, rfl⟩) hn (by rw [jcount_n (by omega)]; exact h959)) (by decide) (by decide) qE_c tE_1 (cmp_eq jm_s (hta 8 q (by omega) (by omega) (by omega)))
    · exact Step_q I (H_teamOf_t2 (d := 19) hb (c_teamOf_bad (d := 18) (Y := Y) hb hT1 (le_n.mpr hx))) (cx_teamOf_bad (d := 18) hb (by rw [h950]; exact (in_q2 (by omega)).mpr ⟨q, hq, rfl⟩) hx) (by decide) (by decide) qE_0 tE_2 (cmp_no jm_s (by decide))
  · have hT1 : ¬ (¬ u < 0 ∧ ¬ M 1 0 ≤ u) := by rw [h10]; exact fun z => hT ((in_q1 (by omega)).mp z)
    exact Step_q I (H_teamOf_t1 (d := 19) hb (c_teamOf_nt (d := 18) (Y := Y) hb hT1)) (cx_teamOf_nt (d := 18) hb (by rw [h950]; exact fun z => hT ((in_q2 (by omega)).mp z))) (by decide) (by decide) qE_0 tE_2 (cmp_no jm_s (by decide))
theorem R_find {b : SBt} {Y : OUt} {M : MM} (I : Inv b M) (u v : Int32) : Step b Y M yL_find cL_find 5 [(0, 10, 13, 45), (0, 10, 17, 58)] [.ref 0, .int u, .int v, .ref 102] yX6_find cX6_find 4 (some .int) [.ref 94, .int u, .int v] cmpI := by
  have hb := I.hb
  obtain ⟨t, dr, hL, hF⟩ := Inv_now I
  have ht := hL.1
  have hn := nn_le (dr := dr) ht
  have hm := jmc_r hL hF
  have hw := jwc_r hL hF
  have hz14 := zz_le (dr := dr) ht
  have h10 : M 1 0 = nI t := hL.2.1
  have h950 : M 95 0 = nI t := hL.2.2.1
  have h951 : M 95 1 = nI (zz t dr) := hL.2.2.2.2.2.2.1
  have h959 : M 95 9 = nI (nn t dr) := hL.2.2.2.2.2.2.2.1
  have hLc : rL t dr (lgC M 1) (jm (jcount M (nn t dr)) 94 19 0 95) := rL_cells hL (fun _ _ _ _ => rfl) (fun c _ => by rw [jm_n (by omega)]; exact jcount_n (by omega))
  have hL0 : rL t dr (lgC M 1) (jm M 94 19 0 95) := rL_cells hL (fun _ _ _ _ => rfl) (fun c _ => jm_n (by omega))
  have hta : ∀ (k q : Nat), 1 ≤ k → k ≤ 8 → q < 8 → jat 8 (jcount M (nn t dr) (75 + k)) (nI q) = gH (jm (jcount M (nn t dr)) 94 19 0) (nn t dr) (nI q) k := fun k q h1 h2 h3 => by rw [jat_nI h3 (by decide)]; exact tally_r hLc hF h1 h2 h3
  have e2 : ∀ x : Int32, (¬ x < 0 ∧ ¬ M 1 0 ≤ x) ↔ (¬ x < 0 ∧ ¬ M 95 0 - 1 < x) := fun x => by rw [h10, h950, in_q1 (by omega), in_q2 (by omega)]
  have ef : jfst (fBet M u v) (nn t dr) = jfst (gBet (jm M 94 19 0) u v) (nn t dr) := jfst_c fun m hm => by
    cases dr with
    | false => exact absurd hm (Nat.not_lt_zero m)
    | true =>
      obtain ⟨f1, f2, -⟩ := (hF rfl).2.2.1 m hm
      have hh := mt_of.mp (hL0.2.2.2.2.2.2.2.2.2.2.2.2 m hm)
      unfold fBet gBet
      rw [f1, f2, hh.1, hh.2.1]
  by_cases hT : (¬ u < 0 ∧ ¬ M 1 0 ≤ u) ∧ (¬ v < 0 ∧ ¬ M 1 0 ≤ v)
  · have hU := (e2 u).mp hT.1
    have hV := (e2 v).mp hT.2
    by_cases h : jfst (fBet M u v) (nn t dr) = -1
    · exact Step_q I (H_find_t2 (d := 19) hb (c_find_no (d := 17) (Y := Y) hb hT.1 hT.2 hn hm h)) (cx_find_no (d := 18) hb hU hV hn h959 (ef.symm.trans h)) (by decide) (by decide) qE_0 tE_2 (cmp_no jm_s (by decide))
    · exact Step_q I (H_find_r hb (c_find_ok (d := 17) (Y := Y) hb hT.1 hT.2 hn hm h)) (cx_find_ok (d := 18) hb hU hV hn h959 (by rw [← ef]; exact h)) (by decide) (by decide) qE_0 tE_1 (cmp_eq jm_s ef)
  · exact Step_q I (H_find_t1 (d := 19) hb (c_find_nt (d := 18) (Y := Y) hb hT)) (cx_find_nt (d := 18) hb (fun z => hT ⟨(e2 u).mpr z.1, (e2 v).mpr z.2⟩)) (by decide) (by decide) qE_0 tE_2 (cmp_no jm_s (by decide))
theorem R_meetingOf {b : SBt} {Y : OUt} {M : MM} (I : Inv b M) (x v : Int32) : Step b Y M yL_meetingOf cL_meetingOf 5 [(0, 10, 13, 45), (0, 10, 17, 47)] [.ref 0, .int x, .int v, .ref 102] yX6_meetingOf cX6_meetingOf 3 (some .int) [.ref 94, .int x, .int v] cmpI := by
  have hb := I.hb
  obtain ⟨t, dr, hL, hF⟩ := Inv_now I
  have ht := hL.1
  have hn := nn_le (dr := dr) ht
  have hm := jmc_r hL hF
  have hw := jwc_r hL hF
  have hz14 := zz_le (dr := dr) ht
  have h10 : M 1 0 = nI t := hL.2.1
  have h950 : M 95 0 = nI t := hL.2.2.1
  have h951 : M 95 1 = nI (zz t dr) := hL.2.2.2.2.2.2.1
  have h959 : M 95 9 = nI (nn t dr) := hL.2.2.2.2.2.2.2.1
  have hLc : rL t dr (lgC M 1) (jm (jcount M (nn t dr)) 94 19 0 95) := rL_cells hL (fun _ _ _ _ => rfl) (fun c _ => by rw [jm_n (by omega)]; exact jcount_n (by omega))
  have hL0 : rL t dr (lgC M 1) (jm M 94 19 0 95) := rL_cells hL (fun _ _ _ _ => rfl) (fun c _ => jm_n (by omega))
  have hta : ∀ (k q : Nat), 1 ≤ k → k ≤ 8 → q < 8 → jat 8 (jcount M (nn t dr) (75 + k)) (nI q) = gH (jm (jcount M (nn t dr)) 94 19 0) (nn t dr) (nI q) k := fun k q h1 h2 h3 => by rw [jat_nI h3 (by decide)]; exact tally_r hLc hF h1 h2 h3
  by_cases hT : ∃ q, q < nn t dr ∧ x = nI q
  · have hT1 := (in_q1 (x := x) (n := nn t dr) (by omega)).mpr hT
    obtain ⟨q, hq, rfl⟩ := hT
    rw [← hm] at hT1
    have hd : dr = true := by
      cases dr with
      | true => rfl
      | false => exact absurd hq (Nat.not_lt_zero q)
    subst hd
    have hq56 : q < 56 := Nat.lt_of_lt_of_le hq hn
    have hf := (hF rfl).2.2.1 q hq
    have hh := mt_of.mp (hL0.2.2.2.2.2.2.2.2.2.2.2.2 q hq)
    have hm2 := (mt_q hL0 hq).2
    have hg : M 5 q = (if jof (jm M 94 19 0) q 4 = 1 then jof (jm M 94 19 0) q 6 else -1) ∧ M 6 q = (if jof (jm M 94 19 0) q 4 = 1 then jof (jm M 94 19 0) q 7 else -1) := by
      rcases hh.2.2.2.2.2 with ⟨p, g, g2, p1, p2, p3, p4, p5, p6⟩ | ⟨p, p3, p4⟩
      · rw [if_pos p, if_pos p]; exact ⟨p3.trans p4.symm, p5.trans p6.symm⟩
      · have p' : ¬ jof (jm M 94 19 0) q 4 = 1 := by rw [p]; decide
        rw [if_neg p', if_neg p']; exact ⟨p3, p4⟩
    by_cases hx : ¬ v < 0 ∧ ¬ 6 < v
    · obtain ⟨z, hz, rfl⟩ := int_rng (u := v) (n := 6) (by decide) hx.1 hx.2
      rcases (show z = 0 ∨ z = 1 ∨ z = 2 ∨ z = 3 ∨ z = 4 ∨ z = 5 ∨ z = 6 by omega) with rfl | rfl | rfl | rfl | rfl | rfl | rfl
      · exact Step_q I (H_meetingOf_r hb (c_meetingOf_k0 (d := 16) (Y := Y) hb hT1)) (cx_meetingOf_k0 (d := 16) hb hn h959 hq) (by decide) (by decide) qE_0 tE_1 (cmp_eq jm_s (by rw [jat_nI hq56 (by decide)]; exact hm2))
      · exact Step_q I (H_meetingOf_r hb (c_meetingOf_k1 (d := 16) (Y := Y) hb hT1)) (cx_meetingOf_k1 (d := 16) hb hn h959 hq) (by decide) (by decide) qE_0 tE_1 (cmp_eq jm_s (by rw [jat_nI hq56 (by decide)]; exact hf.1.trans hh.1.symm))
      · exact Step_q I (H_meetingOf_r hb (c_meetingOf_k2 (d := 16) (Y := Y) hb hT1)) (cx_meetingOf_k2 (d := 16) hb hn h959 hq) (by decide) (by decide) qE_0 tE_1 (cmp_eq jm_s (by rw [jat_nI hq56 (by decide)]; exact hf.2.1.trans hh.2.1.symm))
      · exact Step_q I (H_meetingOf_r hb (c_meetingOf_k3 (d := 16) (Y := Y) hb hT1)) (cx_meetingOf_k3 (d := 16) hb hn h959 hq) (by decide) (by decide) qE_0 tE_1 (cmp_eq jm_s (kind_r hL0 (hF rfl) hq))
      · exact Step_q I (H_meetingOf_r hb (c_meetingOf_k4 (d := 16) (Y := Y) hb hT1)) (cx_meetingOf_k4 (d := 16) hb hn h959 hq) (by decide) (by decide) qE_0 tE_1 (cmp_eq jm_s (by rw [jat_nI hq56 (by decide)]; exact hg.1))
      · exact Step_q I (H_meetingOf_r hb (c_meetingOf_k5 (d := 16) (Y := Y) hb hT1)) (cx_meetingOf_k5 (d := 16) hb hn h959 hq) (by decide) (by decide) qE_0 tE_1 (cmp_eq jm_s (by rw [jat_nI hq56 (by decide)]; exact hg.2))
      · exact Step_q I (H_meetingOf_r hb (c_meetingOf_k6 (d := 16) (Y := Y) hb hT1)) (cx_meetingOf_k6 (d := 16) hb hn h959 hq) (by decide) (by decide) qE_0 tE_1 (cmp_eq jm_s (by rw [jat_nI hq56 (by decide)]; exact hf.2.2.trans hh.2.2.1.symm))
    · refine Step_q I (H_meetingOf_t2 (d := 19) hb (c_meetingOf_bad (d := 17) (Y := Y) hb hT1 (le_n.mpr hx))) (cx_meetingOf_bad (d := 16) hb hn h959 hq ?_) (by decide) (by decide) qE_0 tE_2 (cmp_no jm_s (by decide))
      by_cases c : v < 0
      · exact Or.inl (by rw [Int32.lt_iff_toInt_lt] at c; exact c)
      · exact Or.inr (by
          have c2 : (6 : Int32) < v := Decidable.byContradiction fun z => hx ⟨c, z⟩
          rw [Int32.lt_iff_toInt_lt] at c2
          exact c2)
  · have hT1 : ¬ (¬ x < 0 ∧ ¬ jmc M ≤ x) := by rw [hm]; exact fun z => hT ((in_q1 (by omega)).mp z)
    exact Step_q I (H_meetingOf_t1 (d := 19) hb (c_meetingOf_nt (d := 17) (Y := Y) hb hT1)) (cx_meetingOf_nt (d := 18) hb (by rw [h959]; exact fun z => hT ((in_q2 hn).mp z))) (by decide) (by decide) qE_0 tE_2 (cmp_no jm_s (by decide))
theorem R_meetingsIn {b : SBt} {Y : OUt} {M : MM} (I : Inv b M) (x : Int32) : Step b Y M yL_meetingsIn cL_meetingsIn 4 [(0, 9, 12, 45)] [.ref 0, .int x, .ref 102] yX6_meetingsIn cX6_meetingsIn 4 (some .int) [.ref 94, .int x] cmpI := by
  have hb := I.hb
  obtain ⟨t, dr, hL, hF⟩ := Inv_now I
  have ht := hL.1
  have hn := nn_le (dr := dr) ht
  have hm := jmc_r hL hF
  have hw := jwc_r hL hF
  have hz14 := zz_le (dr := dr) ht
  have h10 : M 1 0 = nI t := hL.2.1
  have h950 : M 95 0 = nI t := hL.2.2.1
  have h951 : M 95 1 = nI (zz t dr) := hL.2.2.2.2.2.2.1
  have h959 : M 95 9 = nI (nn t dr) := hL.2.2.2.2.2.2.2.1
  have hLc : rL t dr (lgC M 1) (jm (jcount M (nn t dr)) 94 19 0 95) := rL_cells hL (fun _ _ _ _ => rfl) (fun c _ => by rw [jm_n (by omega)]; exact jcount_n (by omega))
  have hL0 : rL t dr (lgC M 1) (jm M 94 19 0 95) := rL_cells hL (fun _ _ _ _ => rfl) (fun c _ => jm_n (by omega))
  have hta : ∀ (k q : Nat), 1 ≤ k → k ≤ 8 → q < 8 → jat 8 (jcount M (nn t dr) (75 + k)) (nI q) = gH (jm (jcount M (nn t dr)) 94 19 0) (nn t dr) (nI q) k := fun k q h1 h2 h3 => by rw [jat_nI h3 (by decide)]; exact tally_r hLc hF h1 h2 h3
  have e2 : (¬ x < 0 ∧ ¬ jwc M ≤ x) ↔ (¬ x < 0 ∧ ¬ M 95 1 - 1 < x) := isW_r hL hF
  by_cases hT : ¬ x < 0 ∧ ¬ jwc M ≤ x
  · have hX := e2.mp hT
    exact Step_q I (H_meetingsIn_r hb (c_meetingsIn (d := 17) (Y := Y) hb hT hn hm)) (cx_meetingsIn (d := 18) hb hX hn h959) (by decide) (by decide) qE_0 tE_1 (cmp_eq jm_s (jsum_c fun m hm => by
      cases dr with
      | false => exact absurd hm (Nat.not_lt_zero m)
      | true => unfold fIn gIn; rw [(mt_q hL0 hm).2]))
  · exact Step_q I (H_meetingsIn_t1 (d := 19) hb (c_meetingsIn_nt (d := 17) (Y := Y) hb hT)) (cx_meetingsIn_nt (d := 18) hb (fun z => hT (e2.mpr z))) (by decide) (by decide) qE_0 tE_2 (cmp_no jm_s (by decide))
theorem pairs_r {t : Nat} {dr : Bool} {A B : MM} (h : rL t dr (lgC A 1) (B 95)) (hf : dr = true → rFix t A) (w : Int32) : jpairs A (nn t dr) w = gpairs B (nn t dr) w := by
  unfold jpairs gpairs
  rw [show jsum (fPair A (nn t dr) w) (nn t dr) = jsum (gPair B (nn t dr) w) (nn t dr) from jsum_c fun m hm => by
    unfold fPair gPair
    cases dr with
    | false => exact absurd hm (Nat.not_lt_zero m)
    | true => rw [(mt_q h hm).2, cl_r h hf hm]]
theorem R_clashes {b : SBt} {Y : OUt} {M : MM} (I : Inv b M) (x : Int32) : Step b Y M yL_clashes cL_clashes 4 [(0, 9, 12, 45)] [.ref 0, .int x, .ref 102] yX6_clashes_ cX6_clashes_ 2 (some .int) [.ref 94, .int x] cmpI := by
  have hb := I.hb
  obtain ⟨t, dr, hL, hF⟩ := Inv_now I
  have ht := hL.1
  have hn := nn_le (dr := dr) ht
  have hm := jmc_r hL hF
  have hw := jwc_r hL hF
  have hz14 := zz_le (dr := dr) ht
  have h10 : M 1 0 = nI t := hL.2.1
  have h950 : M 95 0 = nI t := hL.2.2.1
  have h951 : M 95 1 = nI (zz t dr) := hL.2.2.2.2.2.2.1
  have h959 : M 95 9 = nI (nn t dr) := hL.2.2.2.2.2.2.2.1
  have hLc : rL t dr (lgC M 1) (jm (jcount M (nn t dr)) 94 19 0 95) := rL_cells hL (fun _ _ _ _ => rfl) (fun c _ => by rw [jm_n (by omega)]; exact jcount_n (by omega))
  have hL0 : rL t dr (lgC M 1) (jm M 94 19 0 95) := rL_cells hL (fun _ _ _ _ => rfl) (fun c _ => jm_n (by omega))
  have hta : ∀ (k q : Nat), 1 ≤ k → k ≤ 8 → q < 8 → jat 8 (jcount M (nn t dr) (75 + k)) (nI q) = gH (jm (jcount M (nn t dr)) 94 19 0) (nn t dr) (nI q) k := fun k q h1 h2 h3 => by rw [jat_nI h3 (by decide)]; exact tally_r hLc hF h1 h2 h3
  have e2 : (¬ x < 0 ∧ ¬ jwc M ≤ x) ↔ (¬ x < 0 ∧ ¬ M 95 1 - 1 < x) := isW_r hL hF
  by_cases hT : ¬ x < 0 ∧ ¬ jwc M ≤ x
  · have hX := e2.mp hT
    exact Step_q I (H_clashes_r hb (c_clashes (d := 15) (Y := Y) hb hT hn hm)) (cx_clashesW (d := 16) hb hX hn h959 (hho_r hL)) (by decide) (by decide) qE_0 tE_1 (cmp_eq jm_s (pairs_r hL0 hF x))
  · exact Step_q I (H_clashes_t1 (d := 19) hb (c_clashes_nt (d := 17) (Y := Y) hb hT)) (cx_clashes_nt (d := 18) hb (fun z => hT (e2.mpr z))) (by decide) (by decide) qE_0 tE_2 (cmp_no jm_s (by decide))
theorem R_freeWeek {b : SBt} {Y : OUt} {M : MM} (I : Inv b M) (x : Int32) : Step b Y M yL_freeWeek cL_freeWeek 4 [(0, 9, 12, 45), (0, 9, 15, 58)] [.ref 0, .int x, .ref 102] yX6_freeWeek cX6_freeWeek 3 (some .int) [.ref 94, .int x] cmpI := by
  have hb := I.hb
  obtain ⟨t, dr, hL, hF⟩ := Inv_now I
  have ht := hL.1
  have hn := nn_le (dr := dr) ht
  have hm := jmc_r hL hF
  have hw := jwc_r hL hF
  have hz14 := zz_le (dr := dr) ht
  have h10 : M 1 0 = nI t := hL.2.1
  have h950 : M 95 0 = nI t := hL.2.2.1
  have h951 : M 95 1 = nI (zz t dr) := hL.2.2.2.2.2.2.1
  have h959 : M 95 9 = nI (nn t dr) := hL.2.2.2.2.2.2.2.1
  have hLc : rL t dr (lgC M 1) (jm (jcount M (nn t dr)) 94 19 0 95) := rL_cells hL (fun _ _ _ _ => rfl) (fun c _ => by rw [jm_n (by omega)]; exact jcount_n (by omega))
  have hL0 : rL t dr (lgC M 1) (jm M 94 19 0 95) := rL_cells hL (fun _ _ _ _ => rfl) (fun c _ => jm_n (by omega))
  have hta : ∀ (k q : Nat), 1 ≤ k → k ≤ 8 → q < 8 → jat 8 (jcount M (nn t dr) (75 + k)) (nI q) = gH (jm (jcount M (nn t dr)) 94 19 0) (nn t dr) (nI q) k := fun k q h1 h2 h3 => by rw [jat_nI h3 (by decide)]; exact tally_r hLc hF h1 h2 h3
  by_cases hT : ∃ q, q < nn t dr ∧ x = nI q
  · have hT1 := (in_q1 (x := x) (n := nn t dr) (by omega)).mpr hT
    obtain ⟨q, hq, rfl⟩ := hT
    rw [← hm] at hT1
    have hd : dr = true := by
      cases dr with
      | true => rfl
      | false => exact absurd hq (Nat.not_lt_zero q)
    subst hd
    obtain ⟨w0, w1, -, y2, -, y4, -⟩ := (mt_of.mp (hL.2.2.2.2.2.2.2.2.2.2.2.2 q hq)).2.2.2.2.1
    have y1 := (mt_q hL hq).2
    have hq56 : q < 56 := Nat.lt_of_lt_of_le hq hn
    have hat : jat 56 (M 4) (nI q) = nI w1 := by rw [jat_nI hq56 (by decide), y1]; exact y2
    have ef : jfree M (nn t true) (zz t true) w1 (nI q) = gfree M (nn t true) (zz t true) w1 q := by
      unfold jfree gfree
      rw [show (fun i => jb (jsum (fCl M (nI q) (nI (w1 + 1 + i))) (nn t true) = 0)) = (fun i => jb (jsum (gCl (jm M 94 19 0) q (nI (w1 + 1 + i))) (nn t true) = 0)) from funext fun i => by rw [cl_r hL0 hF hq]]
    by_cases h : jfree M (nn t true) (zz t true) w1 (nI q) = -1
    · exact Step_q I (H_freeWeek_t2 (d := 19) hb (c_freeWeek_no (d := 15) (Y := Y) hb hT1 hn hm hz14 hw hat y4 h)) (cx_freeWeek_no (d := 17) hb hn h959 hq (hho_r hL) hz14 h951 y2 y4 (ef.symm.trans h)) (by decide) (by decide) qE_0 tE_2 (cmp_no jm_s (by decide))
    · exact Step_q I (H_freeWeek_r hb (c_freeWeek_ok (d := 15) (Y := Y) hb hT1 hn hm hz14 hw hat y4 h)) (cx_freeWeek_ok (d := 17) hb hn h959 hq (hho_r hL) hz14 h951 y2 y4 (by rw [← ef]; exact h)) (by decide) (by decide) qE_0 tE_1 (cmp_eq jm_s (ef))
  · have hT1 : ¬ (¬ x < 0 ∧ ¬ jmc M ≤ x) := by rw [hm]; exact fun z => hT ((in_q1 (by omega)).mp z)
    exact Step_q I (H_freeWeek_t1 (d := 19) hb (c_freeWeek_nt (d := 17) (Y := Y) hb hT1)) (cx_freeWeek_nt (d := 18) hb (by rw [h959]; exact fun z => hT ((in_q2 hn).mp z))) (by decide) (by decide) qE_0 tE_2 (cmp_no jm_s (by decide))
theorem bye_all : ((List.range 9).all fun t => (List.range (wT t)).all fun w => decide (t < 2) || ((decide (nI t - nI t / 2 * 2 = 0) == decide (bye t w = -1)) && (decide (nI t - nI t / 2 * 2 = 0) || decide (bye t w = nI w - nI w / (gpl (nI t) - 1) * (gpl (nI t) - 1))))) = true := by decide +kernel
theorem bye_r {t w : Nat} (h2 : 2 ≤ t) (ht : t ≤ 8) (hw : w < wT t) : (nI t - nI t / 2 * 2 = 0 ↔ bye t w = -1) ∧ (¬ nI t - nI t / 2 * 2 = 0 → bye t w = nI w - nI w / (gpl (nI t) - 1) * (gpl (nI t) - 1)) := by
  have h := List.all_eq_true.mp (List.all_eq_true.mp bye_all t (List.mem_range.mpr (by omega))) w (List.mem_range.mpr hw)
  rw [decide_eq_false (by omega), Bool.false_or, Bool.and_eq_true, Bool.or_eq_true, beq_iff_eq, decide_eq_true_eq, decide_eq_true_eq, decide_eq_decide] at h
  exact ⟨h.1, fun q => h.2.resolve_left q⟩
theorem R_byeIn {b : SBt} {Y : OUt} {M : MM} (I : Inv b M) (x : Int32) : Step b Y M yL_byeIn cL_byeIn 4 [(0, 9, 12, 45), (0, 9, 15, 58)] [.ref 0, .int x, .ref 102] yX6_byeIn cX6_byeIn 2 (some .int) [.ref 94, .int x] cmpI := by
  have hb := I.hb
  obtain ⟨t, dr, hL, hF⟩ := Inv_now I
  have ht := hL.1
  have hn := nn_le (dr := dr) ht
  have hm := jmc_r hL hF
  have hw := jwc_r hL hF
  have hz14 := zz_le (dr := dr) ht
  have h10 : M 1 0 = nI t := hL.2.1
  have h950 : M 95 0 = nI t := hL.2.2.1
  have h951 : M 95 1 = nI (zz t dr) := hL.2.2.2.2.2.2.1
  have h959 : M 95 9 = nI (nn t dr) := hL.2.2.2.2.2.2.2.1
  have hLc : rL t dr (lgC M 1) (jm (jcount M (nn t dr)) 94 19 0 95) := rL_cells hL (fun _ _ _ _ => rfl) (fun c _ => by rw [jm_n (by omega)]; exact jcount_n (by omega))
  have hL0 : rL t dr (lgC M 1) (jm M 94 19 0 95) := rL_cells hL (fun _ _ _ _ => rfl) (fun c _ => jm_n (by omega))
  have hta : ∀ (k q : Nat), 1 ≤ k → k ≤ 8 → q < 8 → jat 8 (jcount M (nn t dr) (75 + k)) (nI q) = gH (jm (jcount M (nn t dr)) 94 19 0) (nn t dr) (nI q) k := fun k q h1 h2 h3 => by rw [jat_nI h3 (by decide)]; exact tally_r hLc hF h1 h2 h3
  have e2 : (¬ x < 0 ∧ ¬ jwc M ≤ x) ↔ (¬ x < 0 ∧ ¬ M 95 1 - 1 < x) := isW_r hL hF
  by_cases hT : ¬ x < 0 ∧ ¬ jwc M ≤ x
  · have hX := e2.mp hT
    have hd : dr = true := by
      cases dr with
      | true => rfl
      | false =>
        rw [hw] at hT
        obtain ⟨q, q1, -⟩ := (in_q1 (by omega)).mp hT
        exact absurd q1 (Nat.not_lt_zero q)
    subst hd
    have h2 := hL.2.2.2.2.1 rfl
    have hp : ¬ gpl (nI t) - 1 = 0 := by
      have := gP_le h2 ht
      rw [gpl_nI ht]
      obtain ⟨p, hp⟩ : ∃ p, gP t = p + 1 := ⟨gP t - 1, by omega⟩
      rw [hp, nI_pred]
      exact nI_ne0 (by omega) (by omega)
    obtain ⟨w, hw1, rfl⟩ : ∃ w, w < wT t ∧ x = nI w := by
      have hT2 := hT
      rw [hw] at hT2
      exact (in_q1 (n := wT t) (by have := wT_le ht; omega)).mp hT2
    have hw14 := wT_le ht
    have hbye : jat 14 (M 73) (nI w) = bye t w := by rw [jat_nI (by omega) (by decide)]; exact (hF rfl).2.2.2 w hw1
    obtain ⟨b1, b2⟩ := bye_r h2 ht hw1
    by_cases h : jat 14 (M 73) (nI w) = -1
    · exact Step_q I (H_byeIn_t2 (d := 19) hb (c_byeIn_no (d := 17) (Y := Y) hb hT h)) (cx_byeIn_no (d := 18) hb hX h950 (b1.mpr (hbye.symm.trans h))) (by decide) (by decide) qE_0 tE_2 (cmp_no jm_s (by decide))
    · have hne : ¬ nI t - nI t / 2 * 2 = 0 := fun z => h (hbye.trans (b1.mp z))
      exact Step_q I (H_byeIn_r hb (c_byeIn_ok (d := 17) (Y := Y) hb hT h)) (cx_byeIn_ok (d := 18) hb hX h950 hne hp) (by decide) (by decide) qE_0 tE_1 (cmp_eq jm_s (hbye.trans (b2 hne)))
  · exact Step_q I (H_byeIn_t1 (d := 19) hb (c_byeIn_nt (d := 17) (Y := Y) hb hT)) (cx_byeIn_nt (d := 18) hb (fun z => hT (e2.mpr z))) (by decide) (by decide) qE_0 tE_2 (cmp_no jm_s (by decide))
theorem jt1_go {t : Nat} {M B : MM} (hL : rL t true (lgC M 1) (B 95)) : ∀ m, m ≤ nT t → jt1 M m 75 1 = jsum (gGoals B) m
  | 0, _ => by simp [jt1, jclear, jfill, jm, jsum]
  | m + 1, hm => by
    have ih := jt1_go hL m (by omega)
    rw [jt1, jsum, ← ih]
    unfold gGoals
    rcases (mt_of.mp (hL.2.2.2.2.2.2.2.2.2.2.2.2 m (show m < nn t true from hm))).2.2.2.2.2 with ⟨p, g, g2, p1, p2, p3, p4, p5, p6⟩ | ⟨p, p3, p4⟩
    · rw [if_neg (by rw [p3]; exact nI_nm1 (by omega)), if_pos p, jpts_n (by omega), p3, p5, p4, p6]
      unfold jap
      rw [jraise_n (by omega), jag_n (by omega), jag_n (by omega), jm_n (by omega), jm_s]
    · rw [if_pos p3, if_neg (by rw [p]; decide), jraise_n (by omega), jraise_n (by omega), Int32.add_zero]
theorem jt1_hw {t : Nat} {M B : MM} (hL : rL t true (lgC M 1) (B 95)) : ∀ m, m ≤ nT t → jt1 M m 75 2 = jsum (gHw B) m
  | 0, _ => by simp [jt1, jclear, jfill, jm, jsum]
  | m + 1, hm => by
    have ih := jt1_hw hL m (by omega)
    rw [jt1, jsum, ← ih]
    unfold gHw
    rcases (mt_of.mp (hL.2.2.2.2.2.2.2.2.2.2.2.2 m (show m < nn t true from hm))).2.2.2.2.2 with ⟨p, g, g2, p1, p2, p3, p4, p5, p6⟩ | ⟨p, p3, p4⟩
    · rw [if_neg (by rw [p3]; exact nI_nm1 (by omega)), jpts_n (by omega), p3, p5, p4, p6]
      unfold jap
      rw [jraise_n (by omega), jag_n (by omega), jag_n (by omega), jm_s]
      congr 1
      by_cases c : ¬ nI g ≤ nI g2
      · rw [jb_t c, jb_t ⟨p, c⟩]
      · rw [jb_f c, jb_f (fun z => c z.2)]
    · rw [if_pos p3, jb_f (fun z => by rw [p] at z; exact absurd z.1 (by decide)), jraise_n (by omega), jraise_n (by omega), Int32.add_zero]
theorem go_r {t : Nat} {dr : Bool} {M B : MM} (hL : rL t dr (lgC M 1) (B 95)) : jcount M (nn t dr) 75 1 = jsum (gGoals B) (nn t dr) := by
  unfold jcount
  rw [jt2_n (by omega)]
  cases dr with
  | false => simp [nn, jt1, jclear, jfill, jm, jsum]
  | true => exact jt1_go hL _ (Nat.le_refl _)
theorem hw_r {t : Nat} {dr : Bool} {M B : MM} (hL : rL t dr (lgC M 1) (B 95)) : jcount M (nn t dr) 75 2 = jsum (gHw B) (nn t dr) := by
  unfold jcount
  rw [jt2_n (by omega)]
  cases dr with
  | false => simp [nn, jt1, jclear, jfill, jm, jsum]
  | true => exact jt1_hw hL _ (Nat.le_refl _)
theorem put_c {t : Nat} {dr : Bool} {A B : MM} (hL : rL t dr (lgC A 1) (B 95)) (hF : dr = true → rFix t A) : jsum (fPut A) (nn t dr) = jsum (gPutC B) (nn t dr) := jsum_c fun m hm => by
  cases dr with
  | false => exact absurd hm (Nat.not_lt_zero m)
  | true =>
    have hw := wT_le hL.1
    obtain ⟨h1, h2, h3, h4, ⟨w0, w1, k1, k2, k3, k4, k5⟩, h6⟩ := mt_of.mp (hL.2.2.2.2.2.2.2.2.2.2.2.2 m hm)
    have f3 := ((hF rfl).2.2.1 m hm).2.2
    unfold fPut gPutC jhow
    rcases h6 with ⟨p, g, g2, p1, p2, p3, p4, p5, p6⟩ | ⟨p, p3, p4⟩
    · rw [if_pos p, jb_f (fun z => by rw [p3] at z; exact nI_nm1 (by omega) z.1), jb_f (by decide)]
    · rw [if_neg (by rw [p]; decide), k5, f3, h4, k1, k2]
      by_cases c : w0 = w1
      · subst c; rw [if_pos rfl, jb_f (fun z => z.2 rfl), jb_f (by decide)]
      · rw [if_neg c, jb_t ⟨p3, fun z => c ((nI_eq (by omega) (by omega)).mp z).symm⟩, jb_t (by decide)]
theorem pd_r {t : Nat} {dr : Bool} {A B : MM} (hL : rL t dr (lgC A 1) (B 95)) : A 1 5 = B 95 4 := by
  obtain ⟨z, -, z1, z2⟩ := hL.2.2.2.2.2.2.2.2.2.2.1
  exact (show A 1 5 = nI z from z1).trans z2.symm
theorem R_account {b : SBt} {Y : OUt} {M : MM} (I : Inv b M) (x : Int32) : Step b Y M yL_account cL_account 4 [(0, 9, 12, 47)] [.ref 0, .int x, .ref 102] yX6_account cX6_account 4 (some .int) [.ref 94, .int x] cmpI := by
  have hb := I.hb
  obtain ⟨t, dr, hL, hF⟩ := Inv_now I
  have ht := hL.1
  have hn := nn_le (dr := dr) ht
  have hm := jmc_r hL hF
  have hw := jwc_r hL hF
  have hz14 := zz_le (dr := dr) ht
  have h10 : M 1 0 = nI t := hL.2.1
  have h950 : M 95 0 = nI t := hL.2.2.1
  have h951 : M 95 1 = nI (zz t dr) := hL.2.2.2.2.2.2.1
  have h959 : M 95 9 = nI (nn t dr) := hL.2.2.2.2.2.2.2.1
  have hLc : rL t dr (lgC M 1) (jm (jcount M (nn t dr)) 94 19 0 95) := rL_cells hL (fun _ _ _ _ => rfl) (fun c _ => by rw [jm_n (by omega)]; exact jcount_n (by omega))
  have hL0 : rL t dr (lgC M 1) (jm M 94 19 0 95) := rL_cells hL (fun _ _ _ _ => rfl) (fun c _ => jm_n (by omega))
  have hta : ∀ (k q : Nat), 1 ≤ k → k ≤ 8 → q < 8 → jat 8 (jcount M (nn t dr) (75 + k)) (nI q) = gH (jm (jcount M (nn t dr)) 94 19 0) (nn t dr) (nI q) k := fun k q h1 h2 h3 => by rw [jat_nI h3 (by decide)]; exact tally_r hLc hF h1 h2 h3
  have hLcc : rL t dr (lgC (jcount M (nn t dr)) 1) (jm (jcount M (nn t dr)) 94 19 0 95) := rL_cells hLc (fun i c _ _ => jcount_n (by omega)) (fun _ _ => rfl)
  have hFc : dr = true → rFix t (jcount M (nn t dr)) := fun q => rFix_c (hF q) (fun i c _ _ => jcount_n (by omega))
  have hw2 : jwc (jcount M (nn t dr)) = nI (zz t dr) := jwc_r hLcc hFc
  have hm2 : jmc (jcount M (nn t dr)) = nI (nn t dr) := jmc_r hLcc hFc
  have hdr : jb (¬ M 1 2 = 0) = jb (¬ M 95 1 ≤ 0) := by
    have h12 : M 1 2 = if dr = true then 1 else 0 := hL.2.2.2.2.2.1
    have hz := zz_0 hL.1 hL.2.2.2.2.1
    rw [h951]
    cases dr with
    | false => rw [jb_f (fun z => z h12), jb_f (fun z => by cases hz.2.mp z)]
    | true => rw [jb_t (by rw [h12]; decide), jb_t (hz.2.mpr rfl)]
  have hru : M 1 6 = M 95 5 := by
    obtain ⟨r, hr3, h6, h5, -⟩ := rL_rules hL
    exact h6.trans h5.symm
  obtain ⟨h13, h14⟩ : M 13 2 = M 94 3 ∧ M 86 0 = M 94 9 := by
    obtain ⟨τ, k, j, -, -, -, a4, a5, -, -, -, -, -, ⟨n2, -, t2, t3, -⟩, -⟩ := I.1
    exact ⟨a4.trans a5.symm, t2.trans t3.symm⟩
  by_cases hx : ¬ x < 0 ∧ ¬ 14 < x
  · obtain ⟨z, hz, rfl⟩ := int_rng (u := x) (n := 14) (by decide) hx.1 hx.2
    rcases (show z = 0 ∨ z = 1 ∨ z = 2 ∨ z = 3 ∨ z = 4 ∨ z = 5 ∨ z = 6 ∨ z = 7 ∨ z = 8 ∨ z = 9 ∨ z = 10 ∨ z = 11 ∨ z = 12 ∨ z = 13 ∨ z = 14 by omega) with rfl | rfl | rfl | rfl | rfl | rfl | rfl | rfl | rfl | rfl | rfl | rfl | rfl | rfl | rfl
    · exact Step_q I (H_account_r hb (c_account_k0 (d := 14) (Y := Y) hb hn hm)) (cx_account_q0 (d := 17) hb ) (by decide) (by decide) qE_c tE_1 (cmp_eq jm_s (by rw [jcount_n (by omega), jm_n (by omega), jcount_n (by omega)]; exact h10.trans h950.symm))
    · exact Step_q I (H_account_r hb (c_account_k1 (d := 14) (Y := Y) hb hn hm)) (cx_account_q1 (d := 17) hb ) (by decide) (by decide) qE_c tE_1 (cmp_eq jm_s (by rw [jcount_n (by omega), jm_n (by omega), jcount_n (by omega)]; exact hdr))
    · exact Step_q I (H_account_r hb (c_account_k2 (d := 14) (Y := Y) hb hn hm)) (cx_account_q2 (d := 17) hb ) (by decide) (by decide) qE_c tE_1 (cmp_eq jm_s (by rw [jm_n (by omega), jcount_n (by omega)]; exact hw2.trans h951.symm))
    · exact Step_q I (H_account_r hb (c_account_k3 (d := 14) (Y := Y) hb hn hm)) (cx_account_q3 (d := 17) hb ) (by decide) (by decide) qE_c tE_1 (cmp_eq jm_s (by rw [jcount_n (by omega), jm_n (by omega), jcount_n (by omega)]; exact wk_r hL))
    · exact Step_q I (H_account_r hb (c_account_k4 (d := 14) (Y := Y) hb hn hm)) (cx_account_q4 (d := 17) hb ) (by decide) (by decide) qE_c tE_1 (cmp_eq jm_s (by rw [jm_n (by omega), jcount_n (by omega)]; exact hm2.trans h959.symm))
    · exact Step_q I (H_account_r hb (c_account_k5 (d := 14) (Y := Y) hb hn hm)) (cx_account_q5 (d := 17) hb hn (by rw [jcount_n (by omega)]; exact h959)) (by decide) (by decide) qE_c tE_1 (cmp_eq jm_s (jcount_pl.trans (pl_r hLc)))
    · exact Step_q I (H_account_r hb (c_account_k6 (d := 14) (Y := Y) hb hn hm)) (cx_account_q6 (d := 17) hb hn (by rw [jcount_n (by omega)]; exact h959)) (by decide) (by decide) qE_c tE_1 (cmp_eq jm_s (put_c hLcc hFc))
    · exact Step_q I (H_account_r hb (c_account_k7 (d := 14) (Y := Y) hb hn hm)) (cx_account_q7 (d := 17) hb ) (by decide) (by decide) qE_c tE_1 (cmp_eq jm_s (by rw [jcount_n (by omega), jm_n (by omega), jcount_n (by omega)]; exact pw_r hL))
    · exact Step_q I (H_account_r hb (c_account_k8 (d := 14) (Y := Y) hb hn hm)) (cx_account_q8 (d := 17) hb ) (by decide) (by decide) qE_c tE_1 (cmp_eq jm_s (by rw [jcount_n (by omega), jm_n (by omega), jcount_n (by omega)]; exact pd_r hL))
    · exact Step_q I (H_account_r hb (c_account_k9 (d := 14) (Y := Y) hb hn hm)) (cx_account_q9 (d := 17) hb ) (by decide) (by decide) qE_c tE_1 (cmp_eq jm_s (by rw [jcount_n (by omega), jm_n (by omega), jcount_n (by omega)]; exact hru))
    · exact Step_q I (H_account_r hb (c_account_k10 (d := 14) (Y := Y) hb hn hm)) (cx_account_q10 (d := 17) hb hn (by rw [jcount_n (by omega)]; exact h959)) (by decide) (by decide) qE_c tE_1 (cmp_eq jm_s (go_r hLc))
    · exact Step_q I (H_account_r hb (c_account_k11 (d := 14) (Y := Y) hb hn hm ht h10)) (cx_account_q11 (d := 16) hb hn (by rw [jcount_n (by omega)]; exact h959) ht (by rw [jcount_n (by omega)]; exact h950)) (by decide) (by decide) qE_c tE_1 (cmp_eq jm_s (jsum_c fun i hi => hta 1 i (by omega) (by omega) (by omega)))
    · exact Step_q I (H_account_r hb (c_account_k12 (d := 14) (Y := Y) hb hn hm hz14 hw)) (cx_account_q12 (d := 16) hb hn (by rw [jcount_n (by omega)]; exact h959) (fun i hi => by unfold jof; rw [jcount_n (by omega)]; exact hho_r hL i hi) hz14 (by rw [jcount_n (by omega)]; exact h951)) (by decide) (by decide) qE_c tE_1 (cmp_eq jm_s (jsum_c fun i hi => pairs_r hLcc hFc _))
    · exact Step_q I (H_account_r hb (c_account_k13 (d := 14) (Y := Y) hb hn hm)) (cx_account_q13 (d := 17) hb ) (by decide) (by decide) qE_c tE_1 (cmp_eq jm_s (by rw [jcount_n (by omega), jm_n (by omega), jcount_n (by omega)]; exact h13))
    · exact Step_q I (H_account_r hb (c_account_k14 (d := 14) (Y := Y) hb hn hm)) (cx_account_q14 (d := 17) hb ) (by decide) (by decide) qE_c tE_1 (cmp_eq jm_s (by rw [jcount_n (by omega), jm_n (by omega), jcount_n (by omega)]; exact h14))
  · refine Step_q I (H_account_t1 (d := 19) hb (c_account_bad (d := 19) (Y := Y) hb (le_n.mpr hx))) (cx_account_bad (d := 18) hb ?_) (by decide) (by decide) qE_0 tE_2 (cmp_no jm_s (by decide))
    by_cases c : x < 0
    · exact Or.inl (by rw [Int32.lt_iff_toInt_lt] at c; exact c)
    · exact Or.inr (by
        have c2 : (14 : Int32) < x := Decidable.byContradiction fun z => hx ⟨c, z⟩
        rw [Int32.lt_iff_toInt_lt] at c2
        exact c2)
end

section
/-! ===== the order of the teams is the reference's ===== -/
theorem bt_or : ∀ w, w < 8 → ∀ S, S < 2 ^ w → nI S ||| ((1 : Int32) <<< (nI w &&& 31)) = nI (S + 2 ^ w) := by decide +kernel
theorem bt_get : ∀ a, a < 8 → ∀ S, S < 256 → ((nI S >>> (nI a &&& 31)) &&& 1 = 0 ↔ S / 2 ^ a % 2 = 0) := by decide +kernel
theorem bt_add : ∀ w, w < 8 → ∀ S, S < 2 ^ w → ∀ a, a < 8 → ((S + 2 ^ w) / 2 ^ a % 2 = 0 ↔ (¬ a = w ∧ S / 2 ^ a % 2 = 0)) := by decide +kernel
theorem bt_lt : ∀ w, w < 9 → 2 ^ w ≤ 256 := by decide
theorem tied_S {B : MM} {n : Nat} {u : Int32} : ∀ w, w ≤ 8 → ∃ S, S < 2 ^ w ∧ gTied B n u w = nI S ∧ ∀ a, a < 8 → (S / 2 ^ a % 2 = 0 ↔ ¬ (a < w ∧ gH B n (nI a) 1 = gH B n u 1))
  | 0, _ => ⟨0, by decide, rfl, fun a _ => ⟨fun _ z => Nat.not_lt_zero a z.1, fun _ => by rw [Nat.zero_div]⟩⟩
  | w + 1, hw => by
    obtain ⟨S, h1, h2, h3⟩ := tied_S w (by omega)
    rw [gTied]
    by_cases c : gH B n (nI w) 1 = gH B n u 1
    · refine ⟨S + 2 ^ w, by rw [Nat.pow_succ]; omega, by rw [if_pos c, h2]; exact bt_or w (by omega) S h1, fun a ha => ?_⟩
      rw [bt_add w (by omega) S h1 a ha, h3 a ha]
      constructor
      · rintro ⟨q1, q2⟩ ⟨q3, q4⟩
        exact q2 ⟨by omega, q4⟩
      · intro q
        exact ⟨fun z => q ⟨by omega, by rw [z]; exact c⟩, fun z => q ⟨by omega, z.2⟩⟩
    · refine ⟨S, by rw [Nat.pow_succ]; omega, by rw [if_neg c]; exact h2, fun a ha => ?_⟩
      rw [h3 a ha]
      constructor
      · rintro q1 ⟨q3, q4⟩
        by_cases e : a = w
        · subst e; exact c q4
        · exact q1 ⟨by omega, q4⟩
      · intro q z
        exact q ⟨by omega, z.2⟩
theorem tied_bit {B : MM} {n : Nat} {u : Int32} {a w : Nat} (hw : w ≤ 8) (ha : a < 8) : (gTied B n u w >>> (nI a &&& 31)) &&& 1 = 0 ↔ ¬ (a < w ∧ gH B n (nI a) 1 = gH B n u 1) := by
  obtain ⟨S, h1, h2, h3⟩ := tied_S (B := B) (n := n) (u := u) w hw
  rw [h2, bt_get a ha S (Nat.lt_of_lt_of_le h1 (bt_lt w (by omega)))]
  exact h3 a ha
theorem has_hs {B : MM} {m h a k : Nat} {s : Int32} (h0 : jof B m 0 = nI h) (h1 : jof B m 1 = nI a) (hb : ¬ (s >>> (nI a &&& 31)) &&& 1 = 0) : fHas B (nI h) k s m = if ¬ jof B m 4 = 1 then (if k = 8 then 1 else 0) else fV (B 95 3) (B 95 4) k (jof B m 6) (jof B m 7) 0 := by
  unfold fHas fV
  rw [if_neg (fun z => z.1 h0)]
  simp only [if_pos h0]
  rw [h1, if_neg hb]
theorem has_hz {B : MM} {m h a k : Nat} {s : Int32} (h0 : jof B m 0 = nI h) (h1 : jof B m 1 = nI a) (hb : (s >>> (nI a &&& 31)) &&& 1 = 0) : fHas B (nI h) k s m = 0 := by
  unfold fHas
  rw [if_neg (fun z => z.1 h0)]
  simp only [if_pos h0]
  rw [h1, if_pos hb]
theorem has_as {B : MM} {m h a k : Nat} {s : Int32} (h0 : jof B m 0 = nI h) (h1 : jof B m 1 = nI a) (hh : h < 8) (ha : a < 8) (hne : h ≠ a) (hb : ¬ (s >>> (nI h &&& 31)) &&& 1 = 0) : fHas B (nI a) k s m = if ¬ jof B m 4 = 1 then (if k = 8 then 1 else 0) else fV (B 95 3) (B 95 4) k (jof B m 7) (jof B m 6) (jof B m 7) := by
  have hn : ¬ jof B m 0 = nI a := by rw [h0]; exact fun z => hne ((nI_eq (by omega) (by omega)).mp z)
  unfold fHas fV
  rw [if_neg (fun z => z.2 h1)]
  simp only [if_neg hn]
  rw [h0, if_neg hb]
theorem has_az {B : MM} {m h a k : Nat} {s : Int32} (h0 : jof B m 0 = nI h) (h1 : jof B m 1 = nI a) (hh : h < 8) (ha : a < 8) (hne : h ≠ a) (hb : (s >>> (nI h &&& 31)) &&& 1 = 0) : fHas B (nI a) k s m = 0 := by
  have hn : ¬ jof B m 0 = nI a := by rw [h0]; exact fun z => hne ((nI_eq (by omega) (by omega)).mp z)
  unfold fHas
  rw [if_neg (fun z => z.2 h1)]
  simp only [if_neg hn]
  rw [h0, if_pos hb]
theorem has_0s {B : MM} {m h a k q : Nat} {s : Int32} (h0 : jof B m 0 = nI h) (h1 : jof B m 1 = nI a) (hh : h < 8) (ha : a < 8) (hq : q < 8) (n1 : q ≠ h) (n2 : q ≠ a) : fHas B (nI q) k s m = 0 := by
  unfold fHas
  rw [if_pos ⟨by rw [h0]; exact fun z => n1 ((nI_eq (by omega) (by omega)).mp z).symm, by rw [h1]; exact fun z => n2 ((nI_eq (by omega) (by omega)).mp z).symm⟩]
theorem has_s_or {t : Nat} {A B : MM} (hL : rL t true (lgC A 1) (B 95)) {q m k : Nat} {s : Int32} (hq : q < 8) (hm : m < nT t) : fHas B (nI q) k s m = 0 ∨ fHas B (nI q) k s m = fHas B (nI q) k (-1) m := by
  have ht := hL.1
  obtain ⟨h, a, h1, h2, h3, h4, h5, h6, h7⟩ := home_r hL hm
  by_cases e : q = h
  · subst e
    by_cases c : (s >>> (nI a &&& 31)) &&& 1 = 0
    · exact Or.inl (has_hz h6 h7 c)
    · exact Or.inr ((has_hs h6 h7 c).trans (has_h h6 h7 (by omega)).symm)
  · by_cases e2 : q = a
    · subst e2
      by_cases c : (s >>> (nI h &&& 31)) &&& 1 = 0
      · exact Or.inl (has_az h6 h7 (by omega) (by omega) h3 c)
      · exact Or.inr ((has_as h6 h7 (by omega) (by omega) h3 c).trans (has_a h6 h7 (by omega) (by omega) h3).symm)
    · exact Or.inl (has_0s h6 h7 (by omega) (by omega) hq e e2)
theorem has_np {B : MM} {m : Nat} {u s : Int32} (h : ¬ jof B m 4 = 1) : fHas B u 1 s m = 0 := by
  unfold fHas
  by_cases c : ¬ jof B m 0 = u ∧ ¬ jof B m 1 = u
  · rw [if_pos c]
  · rw [if_neg c, if_pos h, if_neg (show ¬ (1 : Nat) = 8 by decide), ite_self]
theorem pts_at {X : MM} {i h a g g2 q : Nat} {w z : Int32} (hh : h < 8) (ha : a < 8) (hne : h ≠ a) (hg : g ≤ 20) (hg2 : g2 ≤ 20) : jpts X i (nI h) (nI a) (nI g) (nI g2) w z i q = X i q + (if q = h then fV w z 1 (nI g) (nI g2) 0 else if q = a then fV w z 1 (nI g2) (nI g) (nI g2) else 0) := by
  have le1 : nI g ≤ nI g2 ↔ g ≤ g2 := by rw [Int32.le_iff_toInt_le, nI_toInt (by omega), nI_toInt (by omega)]; omega
  have le2 : nI g2 ≤ nI g ↔ g2 ≤ g := by rw [Int32.le_iff_toInt_le, nI_toInt (by omega), nI_toInt (by omega)]; omega
  have eq1 : nI g = nI g2 ↔ g = g2 := nI_eq (by omega) (by omega)
  have eq2 : nI g2 = nI g ↔ g2 = g := nI_eq (by omega) (by omega)
  unfold jpts fV
  rw [if_pos rfl, if_pos rfl]
  by_cases e : g = g2
  · have e1 : (if ¬ nI g ≤ nI g2 then w else if nI g = nI g2 then z else 0) = z := by rw [if_neg (fun y => y (le1.mpr (by omega))), if_pos (eq1.mpr e)]
    have e2 : (if ¬ nI g2 ≤ nI g then w else if nI g2 = nI g then z else 0) = z := by rw [if_neg (fun y => y (le2.mpr (by omega))), if_pos (eq2.mpr e.symm)]
    rw [e1, e2, if_pos ((nI_sub0 hg hg2).1.mpr e), raise_at ha, raise_at hh, if_ha hne]
  · rw [if_neg (fun y => e ((nI_sub0 hg hg2).1.mp y))]
    by_cases c : g ≤ g2
    · have e1 : (if ¬ nI g ≤ nI g2 then w else if nI g = nI g2 then z else 0) = 0 := by rw [if_neg (fun y => y (le1.mpr c)), if_neg (fun y => e (eq1.mp y))]
      have e2 : (if ¬ nI g2 ≤ nI g then w else if nI g2 = nI g then z else 0) = w := if_pos (fun y => by have := le2.mp y; omega)
      rw [e1, e2, if_pos ((nI_sub0 hg hg2).2.mpr c), raise_at ha]
      by_cases c1 : q = h
      · subst c1; rw [if_neg hne, if_pos rfl, Int32.add_zero]
      · rw [if_neg c1]
        by_cases c2 : q = a
        · rw [if_pos c2, if_pos c2]
        · rw [if_neg c2, if_neg c2, Int32.add_zero]
    · have e1 : (if ¬ nI g ≤ nI g2 then w else if nI g = nI g2 then z else 0) = w := if_pos (fun y => c (le1.mp y))
      have e2 : (if ¬ nI g2 ≤ nI g then w else if nI g2 = nI g then z else 0) = 0 := by rw [if_neg (fun y => y (le2.mpr (by omega))), if_neg (fun y => e (eq2.mp y).symm)]
      rw [e1, e2, if_neg (fun y => c ((nI_sub0 hg hg2).2.mp y)), raise_at hh]
      by_cases c1 : q = h
      · rw [if_pos c1, if_pos c1]
      · rw [if_neg c1, if_neg c1]
        by_cases c2 : q = a
        · rw [if_pos c2, Int32.add_zero]
        · rw [if_neg c2, Int32.add_zero]
theorem jt1_84 {A : MM} {q : Nat} (hq : q < 8) : ∀ m, jt1 A m 84 q = 0
  | 0 => jclear_r (by omega) hq
  | m + 1 => by
    rw [jt1]
    split
    · rw [jraise_n (by omega), jraise_n (by omega)]; exact jt1_84 hq m
    · rw [jpts_n (by omega), jap_n (by omega)]; exact jt1_84 hq m
/-- what a team has of the meetings with those that are tied with it -/
theorem dir_sum {t : Nat} {A B : MM} (hL : rL t true (lgC A 1) (B 95)) (hF : rFix t A) {q : Nat} (hq : q < 8) : ∀ m, m ≤ nT t → jt2 A (nT t) m 84 q = jsum (fHas B (nI q) 1 (gTied B (nT t) (nI q) t)) m
  | 0, _ => jt1_84 hq _
  | m + 1, hm => by
    have ih := dir_sum hL hF hq m (by omega)
    obtain ⟨h, a, h1, h2, h3, h4, h5, h6, h7⟩ := home_r hL (show m < nT t by omega)
    obtain ⟨f1, f2, -⟩ := hF.2.2.1 m (by omega)
    have ht := hL.1
    have g4 : A 1 4 = B 95 3 := by
      obtain ⟨z, -, z1, z2⟩ := hL.2.2.2.2.2.2.2.2.2.1
      exact (show A 1 4 = nI z from z1).trans z2.symm
    have g5 : A 1 5 = B 95 4 := by
      obtain ⟨z, -, z1, z2⟩ := hL.2.2.2.2.2.2.2.2.2.2.1
      exact (show A 1 5 = nI z from z1).trans z2.symm
    have hP : ∀ i, i < 8 → jat 8 (jt1 A (nT t) 76) (nI i) = gH B (nT t) (nI i) 1 := fun i hi => by
      rw [jat_nI hi (by decide)]
      exact tl_sum hL hF (k := 1) (by omega) (by omega) hi _ (Nat.le_refl _)
    have hb : ∀ x, x < 8 → ((gTied B (nT t) (nI q) t >>> (nI x &&& 31)) &&& 1 = 0 ↔ ¬ (x < t ∧ gH B (nT t) (nI x) 1 = gH B (nT t) (nI q) 1)) := fun x hx => tied_bit ht hx
    rw [jsum, ← ih]
    rcases (mt_of.mp (hL.2.2.2.2.2.2.2.2.2.2.2.2 m (show m < nn t true from hm))).2.2.2.2.2 with ⟨p, g, g2, p1, p2, p3, p4, p5, p6⟩ | ⟨p, p3, p4⟩
    · rw [jt2, if_neg (by rw [p3]; exact nI_nm1 (by omega)), f1.trans h4, f2.trans h5, hP h (by omega), hP a (by omega), p3, p5]
      by_cases e : gH B (nT t) (nI h) 1 = gH B (nT t) (nI a) 1
      · rw [if_pos e, pts_at (by omega) (by omega) h3 p1 p2]
        congr 1
        by_cases c : q = h
        · subst c; rw [if_pos rfl, has_hs h6 h7 (fun z => (hb a (by omega)).mp z ⟨by omega, e.symm⟩), if_neg (fun z => z p), g4, g5, p4, p6]
        · by_cases c2 : q = a
          · subst c2; rw [if_neg c, if_pos rfl, has_as h6 h7 (by omega) (by omega) h3 (fun z => (hb h (by omega)).mp z ⟨by omega, e⟩), if_neg (fun z => z p), g4, g5, p4, p6]
          · rw [if_neg c, if_neg c2, has_0s h6 h7 (by omega) (by omega) hq c c2]
      · rw [if_neg e]
        have h0 : fHas B (nI q) 1 (gTied B (nT t) (nI q) t) m = 0 := by
          by_cases c : q = h
          · subst c; exact has_hz h6 h7 ((hb a (by omega)).mpr (fun z => e z.2.symm))
          · by_cases c2 : q = a
            · subst c2; exact has_az h6 h7 (by omega) (by omega) h3 ((hb h (by omega)).mpr (fun z => e z.2))
            · exact has_0s h6 h7 (by omega) (by omega) hq c c2
        rw [h0, Int32.add_zero]
    · have p' : ¬ jof B m 4 = 1 := by rw [p]; decide
      rw [jt2, if_pos p3, has_np p', Int32.add_zero]
theorem dir_r {t : Nat} {dr : Bool} {A B : MM} (hL : rL t dr (lgC A 1) (B 95)) (hF : dr = true → rFix t A) {q : Nat} (hq : q < 8) : jcount A (nn t dr) 84 q = jsum (fHas B (nI q) 1 (gTied B (nn t dr) (nI q) t)) (nn t dr) := by
  unfold jcount
  cases dr with
  | false => exact jt1_84 hq 0
  | true => exact dir_sum hL (hF rfl) hq _ (Nat.le_refl _)
/-- what a rule counts of a team -/
theorem wo_r {t : Nat} {dr : Bool} {A B : MM} (hL : rL t dr (lgC A 1) (B 95)) (hF : dr = true → rFix t A) {q : Nat} (hq : q < 8) {v : Int32} (hv : r04 v) : jwo (jcount A (nn t dr)) (nI q) v = gRule B (nn t dr) t (nI q) v := by
  have hta : ∀ k, 1 ≤ k → k ≤ 8 → jat 8 (jcount A (nn t dr) (75 + k)) (nI q) = gH B (nn t dr) (nI q) k := fun k k1 k2 => by rw [jat_nI hq (by decide)]; exact tally_r hL hF k1 k2 hq
  have h77 : jat 8 (jcount A (nn t dr) 77) (nI q) = gH B (nn t dr) (nI q) 2 := hta 2 (by omega) (by omega)
  have h80 : jat 8 (jcount A (nn t dr) 80) (nI q) = gH B (nn t dr) (nI q) 5 := hta 5 (by omega) (by omega)
  have h81 : jat 8 (jcount A (nn t dr) 81) (nI q) = gH B (nn t dr) (nI q) 6 := hta 6 (by omega) (by omega)
  have h82 : jat 8 (jcount A (nn t dr) 82) (nI q) = gH B (nn t dr) (nI q) 7 := hta 7 (by omega) (by omega)
  have h84 : jat 8 (jcount A (nn t dr) 84) (nI q) = jsum (fHas B (nI q) 1 (gTied B (nn t dr) (nI q) t)) (nn t dr) := by rw [jat_nI hq (by decide)]; exact dir_r hL hF hq
  unfold jwo gRule
  rw [h77, h80, h81, h82, h84]
theorem sub_toInt {x y : Int32} (hx : -10000 < x.toInt ∧ x.toInt < 10000) (hy : -10000 < y.toInt ∧ y.toInt < 10000) : (x - y).toInt = x.toInt - y.toInt := by
  rw [Int32.toInt_sub]
  exact Int.bmod_eq_of_le (by omega) (by omega)
theorem gH_bd {t : Nat} {dr : Bool} {A B : MM} (hL : rL t dr (lgC A 1) (B 95)) {k q : Nat} (hq : q < 8) : -1 < (gH B (nn t dr) (nI q) k).toInt ∧ (gH B (nn t dr) (nI q) k).toInt < 10000 := by
  obtain ⟨v, h1, h2⟩ := gH_le hL (k := k) hq
  rw [h2, nI_toInt (by omega)]
  omega
theorem dir_bd {t : Nat} {dr : Bool} {A B : MM} (hL : rL t dr (lgC A 1) (B 95)) {q : Nat} {s : Int32} (hq : q < 8) : -1 < (jsum (fHas B (nI q) 1 s) (nn t dr)).toInt ∧ (jsum (fHas B (nI q) 1 s) (nn t dr)).toInt < 10000 := by
  have hn := nn_le (dr := dr) hL.1
  obtain ⟨v, h1, h2⟩ := jsum_le (f := fHas B (nI q) 1 s) (nn t dr) (fun m hm => by
    cases dr with
    | false => exact absurd hm (Nat.not_lt_zero m)
    | true =>
      rcases has_s_or (k := 1) (s := s) hL hq hm with e | e
      · exact ⟨0, by omega, e⟩
      · rw [e]; exact has_le hL hq hm)
  rw [h2, nI_toInt (by omega)]
  omega
theorem rule_bd {t : Nat} {dr : Bool} {A B : MM} (hL : rL t dr (lgC A 1) (B 95)) {q : Nat} (hq : q < 8) {v : Int32} (hv : r04 v) : -10000 < (gRule B (nn t dr) t (nI q) v).toInt ∧ (gRule B (nn t dr) t (nI q) v).toInt < 10000 := by
  have h2 := gH_bd (k := 2) hL hq
  have h5 := gH_bd (k := 5) hL hq
  have h6 := gH_bd (k := 6) hL hq
  have h7 := gH_bd (k := 7) hL hq
  have h8 := dir_bd (s := gTied B (nn t dr) (nI q) t) hL hq
  unfold gRule
  rcases hv with rfl | rfl | rfl | rfl | rfl
  · rw [if_pos rfl, sub_toInt (by omega) (by omega)]; omega
  · rw [if_neg (by decide), if_pos rfl]; omega
  · rw [if_neg (by decide), if_neg (by decide), if_pos rfl]; omega
  · rw [if_neg (by decide), if_neg (by decide), if_neg (by decide), if_pos rfl]; omega
  · rw [if_neg (by decide), if_neg (by decide), if_neg (by decide), if_neg (by decide)]; omega
theorem rL_ru {t : Nat} {dr : Bool} {M B : MM} (h : rL t dr (lgC M 1) (B 95)) {r : Nat} (hr : r ≤ 3) (h6 : M 1 6 = nI r) : ∀ i, i < r → M 3 i = B 95 (6 + i) ∧ r04 (M 3 i) := by
  obtain ⟨c, e1, e2, e3, e4⟩ := h.2.2.2.2.2.2.2.2.2.2.2.1
  have e5 : M 1 6 = nI c := e2
  have e : c = r := (nI_eq (by omega) (by omega)).mp (e5.symm.trans h6)
  subst e
  exact e4
theorem ah_r {t : Nat} {dr : Bool} {M B : MM} (hL : rL t dr (lgC M 1) (B 95)) (hF : dr = true → rFix t M) {r : Nat} (hru : ∀ i, i < r → M 3 i = B 95 (6 + i) ∧ r04 (M 3 i)) {u v : Nat} (hu : u < 8) (hv : v < 8) : jah (jcount M (nn t dr)) r (nI u) (nI v) = gAh B (nn t dr) t r (nI u) (nI v) := by
  have h76 : ∀ q, q < 8 → jat 8 (jcount M (nn t dr) 76) (nI q) = gH B (nn t dr) (nI q) 1 := fun q hq => by rw [jat_nI hq (by decide)]; exact tally_r (k := 1) hL hF (by omega) (by omega) hq
  have h : ∀ i, i ≤ r → jlead (jcount M (nn t dr)) (nI u) (nI v) i = gLead B (nn t dr) t (nI u) (nI v) i := by
    intro i
    induction i with
    | zero => intro _; rw [jlead, gLead, h76 u hu, h76 v hv]
    | succ i ih => intro hi; rw [jlead, gLead, ih (by omega), jcount_n (i := 3) (by omega), wo_r hL hF hu (hru i (by omega)).2, wo_r hL hF hv (hru i (by omega)).2, (hru i (by omega)).1]
  unfold jah gAh
  rw [h r (Nat.le_refl _)]
/-- a team's place in the order, as one number -/
def gKey (M : MM) (n w u : Nat) : Nat → Int
  | 0 => (gH M n (nI u) 1).toInt
  | i + 1 => gKey M n w u i * 100000 + (gRule M n w (nI u) (M 95 (6 + i))).toInt
def gK (M : MM) (n w r u : Nat) : Int := gKey M n w u r * 10 + (7 - (u : Int))
theorem lead_key {M : MM} {n w u v r : Nat} (h0 : -10000 < (gH M n (nI u) 1).toInt ∧ (gH M n (nI u) 1).toInt < 10000) (h1 : -10000 < (gH M n (nI v) 1).toInt ∧ (gH M n (nI v) 1).toInt < 10000)
    (hr : ∀ i, i < r → (-10000 < (gRule M n w (nI u) (M 95 (6 + i))).toInt ∧ (gRule M n w (nI u) (M 95 (6 + i))).toInt < 10000) ∧ (-10000 < (gRule M n w (nI v) (M 95 (6 + i))).toInt ∧ (gRule M n w (nI v) (M 95 (6 + i))).toInt < 10000)) :
    ∀ i, i ≤ r → (gLead M n w (nI u) (nI v) i = 0 ↔ gKey M n w u i = gKey M n w v i) ∧ (gLead M n w (nI u) (nI v) i ≤ 0 ↔ gKey M n w u i ≤ gKey M n w v i) := by
  have z0 : (0 : Int32).toInt = 0 := by decide
  intro i
  induction i with
  | zero =>
    intro _
    rw [gLead, gKey, gKey]
    refine ⟨?_, ?_⟩
    · rw [← Int32.toInt_inj, sub_toInt h0 h1, z0]; omega
    · rw [Int32.le_iff_toInt_le, sub_toInt h0 h1, z0]; omega
  | succ i ih =>
    intro hi
    obtain ⟨e1, e2⟩ := ih (by omega)
    obtain ⟨b1, b2⟩ := hr i (by omega)
    have s := sub_toInt b1 b2
    rw [gLead, gKey, gKey]
    by_cases c : gLead M n w (nI u) (nI v) i = 0
    · have k := e1.mp c
      rw [if_pos c, k]
      refine ⟨?_, ?_⟩
      · rw [← Int32.toInt_inj, s, z0]; omega
      · rw [Int32.le_iff_toInt_le, s, z0]; omega
    · have k : ¬ gKey M n w u i = gKey M n w v i := fun z => c (e1.mpr z)
      rw [if_neg c]
      refine ⟨⟨fun z => absurd z c, fun z => ?_⟩, ⟨fun z => ?_, fun z => ?_⟩⟩
      · exfalso; omega
      · have := e2.mp z; omega
      · exact e2.mpr (by omega)
theorem ah_K {t : Nat} {dr : Bool} {M B : MM} (hL : rL t dr (lgC M 1) (B 95)) {r : Nat} (hru : ∀ i, i < r → M 3 i = B 95 (6 + i) ∧ r04 (M 3 i)) {u v : Nat} (hu : u < 8) (hv : v < 8) : gAh B (nn t dr) t r (nI u) (nI v) = 0 ↔ gK B (nn t dr) t r u ≤ gK B (nn t dr) t r v := by
  have hbd : ∀ q, q < 8 → -10000 < (gH B (nn t dr) (nI q) 1).toInt ∧ (gH B (nn t dr) (nI q) 1).toInt < 10000 := fun q hq => by have := gH_bd (k := 1) hL hq; omega
  have h04 : ∀ i, i < r → r04 (B 95 (6 + i)) := fun i hi => by rw [← (hru i hi).1]; exact (hru i hi).2
  obtain ⟨e1, e2⟩ := lead_key (w := t) (r := r) (hbd u hu) (hbd v hv) (fun i hi => ⟨rule_bd hL hu (h04 i hi), rule_bd hL hv (h04 i hi)⟩) r (Nat.le_refl _)
  unfold gAh gK
  by_cases c : gLead B (nn t dr) t (nI u) (nI v) r = 0
  · have k := e1.mp c
    rw [if_pos c]
    by_cases d : nI v ≤ nI u
    · rw [jb_f (fun z => z d)]
      rw [Int32.le_iff_toInt_le, nI_toInt (by omega), nI_toInt (by omega)] at d
      exact ⟨fun _ => by omega, fun _ => rfl⟩
    · rw [jb_t d]
      rw [Int32.le_iff_toInt_le, nI_toInt (by omega), nI_toInt (by omega)] at d
      exact ⟨fun z => absurd z (by decide), fun z => by exfalso; omega⟩
  · have k : ¬ gKey B (nn t dr) t u r = gKey B (nn t dr) t v r := fun z => c (e1.mpr z)
    rw [if_neg c]
    by_cases d : gLead B (nn t dr) t (nI u) (nI v) r ≤ 0
    · rw [jb_f (fun z => z d)]
      have d2 := e2.mp d
      exact ⟨fun _ => by omega, fun _ => rfl⟩
    · rw [jb_t d]
      have d2 : ¬ gKey B (nn t dr) t u r ≤ gKey B (nn t dr) t v r := fun z => d (e2.mpr z)
      exact ⟨fun z => absurd z (by decide), fun z => by exfalso; omega⟩
theorem gK_inj {B : MM} {n t r u v : Nat} (hu : u < 8) (hv : v < 8) (h : gK B n t r u = gK B n t r v) : u = v := by
  unfold gK at h
  omega
theorem place_r {t : Nat} {dr : Bool} {M B : MM} (hL : rL t dr (lgC M 1) (B 95)) (hF : dr = true → rFix t M) {r : Nat} (hru : ∀ i, i < r → M 3 i = B 95 (6 + i) ∧ r04 (M 3 i)) {q : Nat} (hq : q < 8) : jsum (fPlace (jcount M (nn t dr)) r (nI q)) t = jsum (fgPl B (nn t dr) t r (nI q)) t := jsum_c fun i hi => by
  have ht := hL.1
  unfold fPlace fgPl
  rw [ah_r hL hF hru (by omega) hq]
  by_cases e : nI i = nI q
  · rw [e, if_pos ((ah_K hL hru hq hq).mpr (Int.le_refl _)), if_pos rfl]
  · rw [if_neg e]
/-! counting, and the place of each -/
def cnB (f : Nat → Bool) : Nat → Nat
  | 0 => 0
  | n + 1 => cnB f n + (if f n = true then 1 else 0)
theorem cn_le {f g : Nat → Bool} : ∀ n, (∀ k, k < n → f k = true → g k = true) → cnB f n ≤ cnB g n
  | 0, _ => Nat.le_refl _
  | n + 1, h => by
    have ih := cn_le n (fun k hk => h k (by omega))
    rw [cnB, cnB]
    by_cases c : f n = true
    · rw [if_pos c, if_pos (h n (by omega) c)]; omega
    · rw [if_neg c]; omega
theorem cn_lt {f g : Nat → Bool} : ∀ n, (∀ k, k < n → f k = true → g k = true) → ∀ i, i < n → ¬ f i = true → g i = true → cnB f n < cnB g n
  | 0, _, i, hi, _, _ => absurd hi (Nat.not_lt_zero i)
  | n + 1, h, i, hi, h1, h2 => by
    rw [cnB, cnB]
    by_cases e : i = n
    · subst e
      have ih := cn_le i (fun k hk => h k (by omega))
      rw [if_neg h1, if_pos h2]; omega
    · have ih := cn_lt n (fun k hk => h k (by omega)) i (by omega) h1 h2
      by_cases c : f n = true
      · rw [if_pos c, if_pos (h n (by omega) c)]; omega
      · rw [if_neg c]; omega
theorem cn_n {f : Nat → Bool} : ∀ n, cnB f n ≤ n
  | 0 => Nat.le_refl _
  | n + 1 => by
    have := cn_n (f := f) n
    rw [cnB]
    split <;> omega
def pos (K : Nat → Int) (j i : Nat) : Nat := cnB (fun k => decide (K i < K k)) j
theorem pos_s {K : Nat → Int} {j i : Nat} : pos K (j + 1) i = pos K j i + (if K i < K j then 1 else 0) := by
  unfold pos
  rw [cnB]
  by_cases c : K i < K j
  · rw [if_pos c, if_pos (decide_eq_true c)]
  · rw [if_neg c, if_neg (by rw [decide_eq_true_eq]; exact c)]
theorem pos_lt {K : Nat → Int} {j i i2 : Nat} (hi : i < j) (h : K i2 < K i) : pos K j i < pos K j i2 :=
  cn_lt j (fun k _ z => by rw [decide_eq_true_eq] at z ⊢; omega) i hi (by rw [decide_eq_true_eq]; omega) (by rw [decide_eq_true_eq]; exact h)
theorem pos_le {K : Nat → Int} {j i i2 : Nat} (h : K i2 ≤ K i) : pos K j i ≤ pos K j i2 :=
  cn_le j (fun k _ z => by rw [decide_eq_true_eq] at z ⊢; omega)
theorem pos_j {K : Nat → Int} {j i : Nat} : pos K j i ≤ j := cn_n j
theorem cn_all : ∀ n, cnB (fun _ => true) n = n
  | 0 => rfl
  | n + 1 => by rw [cnB, cn_all n, if_pos rfl]
theorem pos_ltj {K : Nat → Int} {j i : Nat} (hi : i < j) : pos K j i < j := by
  have h := cn_lt (f := fun k => decide (K i < K k)) (g := fun _ => true) j (fun _ _ _ => rfl) i hi (by rw [decide_eq_true_eq]; omega) rfl
  rw [cn_all] at h
  exact h
theorem jah_e {M N : MM} (h : ∀ i k, i ≠ 85 → N i k = M i k) {r : Nat} {u v : Int32} : jah N r u v = jah M r u v := by
  have e : ∀ i, i ≠ 85 → N i = M i := fun i hi => funext fun k => h i k hi
  have hl : ∀ i, jlead N u v i = jlead M u v i := by
    intro i
    induction i with
    | zero => rw [jlead, jlead, e 76 (by decide)]
    | succ i ih =>
      rw [jlead, jlead, ih]
      unfold jwo
      rw [e 3 (by decide), e 80 (by decide), e 81 (by decide), e 77 (by decide), e 84 (by decide), e 82 (by decide)]
  unfold jah
  rw [hl]
theorem jins_ok {K : Nat → Int} {r j : Nat} (hj : j < 8) (hI : ∀ u v, u < 8 → v < 8 → K u = K v → u = v) (hs : ∀ x, x < j → ∃ i, i < j ∧ pos K j i = x) : ∀ (q : Nat) (M : MM), (∀ u v, u < 8 → v < 8 → (jah M r (nI u) (nI v) = 0 ↔ K u ≤ K v)) → q ≤ j → pos K j j ≤ q →
    (∀ i, i < j → pos K j i < q → M 85 (pos K j i) = nI i) → (∀ i, i < j → q ≤ pos K j i → M 85 (pos K j i + 1) = nI i) →
    (∀ i, i < j → pos K j i < pos K j j → jins r j q M 85 (pos K j i) = nI i) ∧ (∀ i, i < j → pos K j j ≤ pos K j i → jins r j q M 85 (pos K j i + 1) = nI i) ∧ jins r j q M 85 (pos K j j) = nI j
  | 0, M, hK, hq, hp, h4, h5 => by
    rw [jins]
    refine ⟨fun i hi z => ?_, fun i hi z => ?_, ?_⟩
    · exact absurd z (by omega)
    · rw [jm_n (by omega)]; exact h5 i hi (by omega)
    · rw [show pos K j j = 0 by omega, jm_s]
  | q + 1, M, hK, hq, hp, h4, h5 => by
    rw [jins]
    obtain ⟨i, hi, e⟩ := hs q (by omega)
    have hM : M 85 q = nI i := by rw [← e]; exact h4 i hi (by omega)
    by_cases c : jah M r (nI j) (M 85 q) = 0
    · rw [if_pos c]
      rw [hM] at c
      have k1 := (hK j i hj (by omega)).mp c
      have k2 : K j < K i := by
        have := fun z => hI j i hj (by omega) z
        omega
      have k3 := pos_lt (j := j) hi k2
      refine ⟨fun i2 hi2 z => ?_, fun i2 hi2 z => ?_, ?_⟩
      · rw [jm_n (by omega)]; exact h4 i2 hi2 (by omega)
      · rw [jm_n (by omega)]; exact h5 i2 hi2 (by omega)
      · rw [show pos K j j = q + 1 by omega, jm_s]
    · rw [if_neg c]
      rw [hM] at c
      have k1 : ¬ K j ≤ K i := fun z => c ((hK j i hj (by omega)).mpr z)
      have k3 := pos_le (K := K) (j := j) (i := j) (i2 := i) (by omega)
      refine jins_ok hj hI hs q _ (fun u v hu hv => by rw [jah_e (M := M) (fun i k z => jm_n (by omega))]; exact hK u v hu hv) (by omega) (by omega) (fun i2 hi2 z => ?_) (fun i2 hi2 z => ?_)
      · rw [jm_n (by omega)]; exact h4 i2 hi2 (by omega)
      · by_cases e2 : pos K j i2 = q
        · have := h4 i2 hi2 (by omega)
          rw [e2] at this ⊢
          rw [jm_s]; exact this
        · rw [jm_n (by omega)]; exact h5 i2 hi2 (by omega)
theorem jso_ok {K : Nat → Int} {r : Nat} {M : MM} (hI : ∀ u v, u < 8 → v < 8 → K u = K v → u = v) (hK : ∀ u v, u < 8 → v < 8 → (jah M r (nI u) (nI v) = 0 ↔ K u ≤ K v)) : ∀ j, j ≤ 8 → (∀ i, i < j → jso M r j 85 (pos K j i) = nI i) ∧ ∀ x, x < j → ∃ i, i < j ∧ pos K j i = x
  | 0, _ => ⟨fun i hi => absurd hi (Nat.not_lt_zero i), fun i hi => absurd hi (Nat.not_lt_zero i)⟩
  | j + 1, hj => by
    obtain ⟨s1, s2⟩ := jso_ok hI hK j (by omega)
    obtain ⟨r1, r2, r3⟩ := jins_ok (K := K) (r := r) (by omega) hI s2 j (jso M r j) (fun u v hu hv => by rw [jah_e (M := M) (fun i k z => jso_n z j)]; exact hK u v hu hv) (Nat.le_refl _) pos_j (fun i hi _ => s1 i hi) (fun i hi z => absurd (pos_ltj (K := K) hi) (by omega))
    have hlt : ∀ i, i < j → (K i < K j ∨ K j < K i) := fun i hi => by
      have := fun z => hI i j (by omega) (by omega) z
      omega
    have pj : pos K (j + 1) j = pos K j j := by rw [pos_s, if_neg (by omega)]; rfl
    refine ⟨fun i hi => ?_, fun x hx => ?_⟩
    · rw [jso]
      by_cases e : i = j
      · subst e; rw [pj]; exact r3
      · rcases hlt i (by omega) with c | c
        · rw [pos_s, if_pos c]; exact r2 i (by omega) (pos_le (by omega))
        · rw [pos_s, if_neg (by omega)]; exact r1 i (by omega) (pos_lt (by omega) c)
    · rcases Nat.lt_trichotomy x (pos K j j) with c | c | c
      · obtain ⟨i, hi, e⟩ := s2 x (by have := pos_j (K := K) (j := j) (i := j); omega)
        refine ⟨i, by omega, ?_⟩
        rcases hlt i hi with d | d
        · have := pos_le (K := K) (j := j) (i := j) (i2 := i) (by omega); omega
        · rw [pos_s, if_neg (by omega)]; exact e
      · exact ⟨j, by omega, by rw [pj]; exact c.symm⟩
      · obtain ⟨i, hi, e⟩ := s2 (x - 1) (by omega)
        refine ⟨i, by omega, ?_⟩
        rcases hlt i hi with d | d
        · rw [pos_s, if_pos d, e]; omega
        · have := pos_lt (K := K) hi d; omega
theorem place_c {t : Nat} {dr : Bool} {M B : MM} (hL : rL t dr (lgC M 1) (B 95)) {r : Nat} (hru : ∀ i, i < r → M 3 i = B 95 (6 + i) ∧ r04 (M 3 i)) {i : Nat} (hi : i < t) : ∀ w, w ≤ t → jsum (fgPl B (nn t dr) t r (nI i)) w = nI (pos (gK B (nn t dr) t r) w i)
  | 0, _ => rfl
  | w + 1, hw => by
    have ht := hL.1
    rw [jsum, place_c hL hru hi w (by omega), pos_s]
    unfold fgPl
    by_cases c : gK B (nn t dr) t r i < gK B (nn t dr) t r w
    · have ne : ¬ nI w = nI i := fun z => by
        rw [(nI_eq (by omega) (by omega)).mp z] at c
        omega
      rw [if_pos c, if_neg ne, if_neg (fun z => by have := (ah_K hL hru (show w < 8 by omega) (show i < 8 by omega)).mp z; omega), nI_1]
    · rw [if_neg c, if_pos ((ah_K hL hru (show w < 8 by omega) (show i < 8 by omega)).mpr (by omega)), ite_self, Int32.add_zero, Nat.add_zero]
theorem jfst_none {f : Nat → Int32} : ∀ {n : Nat}, (∀ i, i < n → ¬ f i = 1) → jfst f n = -1
  | 0, _ => rfl
  | n + 1, h => jfst_no (jfst_none (n := n) fun i hi => h i (by omega)) (h n (by omega))
theorem jb_p1 {p : Prop} [Decidable p] (h : jb p = 1) : p := Decidable.byContradiction fun z => by
  rw [jb_f z] at h
  exact absurd h (by decide)
theorem ranked_no {t : Nat} {dr : Bool} {M B : MM} (hL : rL t dr (lgC M 1) (B 95)) {r : Nat} (hru : ∀ i, i < r → M 3 i = B 95 (6 + i) ∧ r04 (M 3 i)) {x : Int32} (hx : ∀ q, q < t → ¬ x = nI q) : jfst (fRank B (nn t dr) t r x) t = -1 := jfst_none fun i hi z => by
  unfold fRank at z
  have h := jb_p1 z
  rw [place_c hL hru hi t (Nat.le_refl _)] at h
  exact hx _ (pos_ltj hi) h.symm
theorem ranked_r {t : Nat} {dr : Bool} {M B : MM} (hL : rL t dr (lgC M 1) (B 95)) (hF : dr = true → rFix t M) {r : Nat} (hru : ∀ i, i < r → M 3 i = B 95 (6 + i) ∧ r04 (M 3 i)) {q : Nat} (hq : q < t) : ∃ i, i < t ∧ jfst (fRank B (nn t dr) t r (nI q)) t = nI i ∧ jso (jcount M (nn t dr)) r t 85 q = nI i := by
  have ht := hL.1
  have hI : ∀ u v, u < 8 → v < 8 → gK B (nn t dr) t r u = gK B (nn t dr) t r v → u = v := fun u v hu hv h => gK_inj hu hv h
  obtain ⟨s1, s2⟩ := jso_ok (M := jcount M (nn t dr)) hI (fun u v hu hv => by rw [ah_r hL hF hru hu hv]; exact ah_K hL hru hu hv) t ht
  obtain ⟨i, hi, e⟩ := s2 q hq
  refine ⟨i, hi, ?_, ?_⟩
  · refine jfst_at (jfst_none fun k hk z => ?_) ?_ (by omega) hi
    · unfold fRank at z
      have h := jb_p1 z
      rw [place_c hL hru (show k < t by omega) t (Nat.le_refl _)] at h
      have l1 := pos_ltj (K := gK B (nn t dr) t r) (show k < t by omega)
      have h2 := (nI_eq (by omega) (by omega)).mp h
      rcases Int.lt_trichotomy (gK B (nn t dr) t r k) (gK B (nn t dr) t r i) with d | d | d
      · have := pos_lt hi d; omega
      · have := hI k i (by omega) (by omega) d; omega
      · have := pos_lt (show k < t by omega) d; omega
    · unfold fRank
      rw [place_c hL hru hi t (Nat.le_refl _), e]
      exact jb_t rfl
  · rw [← e]; exact s1 i hi
theorem R_placeOf {b : SBt} {Y : OUt} {M : MM} (I : Inv b M) (u : Int32) : Step b Y M yL_placeOf cL_placeOf 4 [(0, 9, 12, 45)] [.ref 0, .int u, .ref 102] yX6_placeOf cX6_placeOf 2 (some .int) [.ref 94, .int u] cmpI := by
  have hb := I.hb
  obtain ⟨t, dr, hL, hF⟩ := Inv_now I
  have ht := hL.1
  have hn := nn_le (dr := dr) ht
  have hm := jmc_r hL hF
  have hw := jwc_r hL hF
  have hz14 := zz_le (dr := dr) ht
  have h10 : M 1 0 = nI t := hL.2.1
  have h950 : M 95 0 = nI t := hL.2.2.1
  have h951 : M 95 1 = nI (zz t dr) := hL.2.2.2.2.2.2.1
  have h959 : M 95 9 = nI (nn t dr) := hL.2.2.2.2.2.2.2.1
  have hLc : rL t dr (lgC M 1) (jm (jcount M (nn t dr)) 94 19 0 95) := rL_cells hL (fun _ _ _ _ => rfl) (fun c _ => by rw [jm_n (by omega)]; exact jcount_n (by omega))
  have hL0 : rL t dr (lgC M 1) (jm M 94 19 0 95) := rL_cells hL (fun _ _ _ _ => rfl) (fun c _ => jm_n (by omega))
  have hta : ∀ (k q : Nat), 1 ≤ k → k ≤ 8 → q < 8 → jat 8 (jcount M (nn t dr) (75 + k)) (nI q) = gH (jm (jcount M (nn t dr)) 94 19 0) (nn t dr) (nI q) k := fun k q h1 h2 h3 => by rw [jat_nI h3 (by decide)]; exact tally_r hLc hF h1 h2 h3
  obtain ⟨r, hr3, h6, h5, hru1, hru2⟩ := rL_rules hL
  by_cases hT : ∃ q, q < t ∧ u = nI q
  · have hT1 := (in_q1 (x := u) (n := t) (by omega)).mpr hT
    obtain ⟨q, hq, rfl⟩ := hT
    rw [← h10] at hT1
    exact Step_q I (H_placeOf_r hb (c_placeOf (d := 14) (Y := Y) hb hT1 hn hm ht h10 hr3 h6 hru1)) (cx_placeOf (d := 12) hb (by rw [jcount_n (by omega), h950]; exact (in_q2 (by omega)).mpr ⟨q, hq, rfl⟩) hn (by rw [jcount_n (by omega)]; exact h959) ht (by rw [jcount_n (by omega)]; exact h950) hr3 (by rw [jcount_n (by omega)]; exact h5) (fun i hi => by rw [jcount_n (by omega)]; exact hru2 i hi)) (by decide) (by decide) qE_c tE_1 (cmp_eq jm_s (place_r hLc hF (rL_ru hLc hr3 h6) (by omega)))
  · have hT1 : ¬ (¬ u < 0 ∧ ¬ M 1 0 ≤ u) := by rw [h10]; exact fun z => hT ((in_q1 (by omega)).mp z)
    exact Step_q I (H_placeOf_t1 (d := 19) hb (c_placeOf_nt (d := 18) (Y := Y) hb hT1)) (cx_placeOf_nt (d := 18) hb (by rw [h950]; exact fun z => hT ((in_q2 (by omega)).mp z))) (by decide) (by decide) qE_0 tE_2 (cmp_no jm_s (by decide))
theorem R_valueOf {b : SBt} {Y : OUt} {M : MM} (I : Inv b M) (u v : Int32) : Step b Y M yL_valueOf cL_valueOf 5 [(0, 10, 13, 45), (0, 10, 17, 47)] [.ref 0, .int u, .int v, .ref 102] yX6_valueOf cX6_valueOf 3 (some .int) [.ref 94, .int u, .int v] cmpI := by
  have hb := I.hb
  obtain ⟨t, dr, hL, hF⟩ := Inv_now I
  have ht := hL.1
  have hn := nn_le (dr := dr) ht
  have hm := jmc_r hL hF
  have hw := jwc_r hL hF
  have hz14 := zz_le (dr := dr) ht
  have h10 : M 1 0 = nI t := hL.2.1
  have h950 : M 95 0 = nI t := hL.2.2.1
  have h951 : M 95 1 = nI (zz t dr) := hL.2.2.2.2.2.2.1
  have h959 : M 95 9 = nI (nn t dr) := hL.2.2.2.2.2.2.2.1
  have hLc : rL t dr (lgC M 1) (jm (jcount M (nn t dr)) 94 19 0 95) := rL_cells hL (fun _ _ _ _ => rfl) (fun c _ => by rw [jm_n (by omega)]; exact jcount_n (by omega))
  have hL0 : rL t dr (lgC M 1) (jm M 94 19 0 95) := rL_cells hL (fun _ _ _ _ => rfl) (fun c _ => jm_n (by omega))
  have hta : ∀ (k q : Nat), 1 ≤ k → k ≤ 8 → q < 8 → jat 8 (jcount M (nn t dr) (75 + k)) (nI q) = gH (jm (jcount M (nn t dr)) 94 19 0) (nn t dr) (nI q) k := fun k q h1 h2 h3 => by rw [jat_nI h3 (by decide)]; exact tally_r hLc hF h1 h2 h3
  by_cases hT : ∃ q, q < t ∧ u = nI q
  · have hT1 := (in_q1 (x := u) (n := t) (by omega)).mpr hT
    obtain ⟨q, hq, rfl⟩ := hT
    rw [← h10] at hT1
    by_cases hx : ¬ v < 0 ∧ ¬ 4 < v
    · have hv := r04_of (t := v) ⟨fun z => hx.1 (Int32.lt_trans z (by decide)), hx.2⟩ (fun z => hx.1 (by rw [z]; decide))
      exact Step_q I (H_valueOf_r hb (c_valueOf (d := 14) (Y := Y) hb hT1 (fun z => le_n.mp z hx) hv.1 hn hm)) (cx_valueOf (d := 14) hb (by rw [jcount_n (by omega), h950]; exact (in_q2 (by omega)).mpr ⟨q, hq, rfl⟩) hn (by rw [jcount_n (by omega)]; exact h959) ht (by rw [jcount_n (by omega)]; exact h950) hx hv.1) (by decide) (by decide) qE_c tE_1 (cmp_eq jm_s (wo_r hLc hF (by omega) hv.1))
    · exact Step_q I (H_valueOf_t2 (d := 19) hb (c_valueOf_bad (d := 18) (Y := Y) hb hT1 (le_n.mpr hx))) (cx_valueOf_bad (d := 18) hb (by rw [h950]; exact (in_q2 (by omega)).mpr ⟨q, hq, rfl⟩) hx) (by decide) (by decide) qE_0 tE_2 (cmp_no jm_s (by decide))
  · have hT1 : ¬ (¬ u < 0 ∧ ¬ M 1 0 ≤ u) := by rw [h10]; exact fun z => hT ((in_q1 (by omega)).mp z)
    exact Step_q I (H_valueOf_t1 (d := 19) hb (c_valueOf_nt (d := 18) (Y := Y) hb hT1)) (cx_valueOf_nt (d := 18) hb (by rw [h950]; exact fun z => hT ((in_q2 (by omega)).mp z))) (by decide) (by decide) qE_0 tE_2 (cmp_no jm_s (by decide))
theorem R_ranked {b : SBt} {Y : OUt} {M : MM} (I : Inv b M) (x : Int32) : Step b Y M yL_ranked cL_ranked 4 [(0, 9, 12, 58)] [.ref 0, .int x, .ref 102] yX6_ranked cX6_ranked 3 (some .int) [.ref 94, .int x] cmpI := by
  have hb := I.hb
  obtain ⟨t, dr, hL, hF⟩ := Inv_now I
  have ht := hL.1
  have hn := nn_le (dr := dr) ht
  have hm := jmc_r hL hF
  have hw := jwc_r hL hF
  have hz14 := zz_le (dr := dr) ht
  have h10 : M 1 0 = nI t := hL.2.1
  have h950 : M 95 0 = nI t := hL.2.2.1
  have h951 : M 95 1 = nI (zz t dr) := hL.2.2.2.2.2.2.1
  have h959 : M 95 9 = nI (nn t dr) := hL.2.2.2.2.2.2.2.1
  have hLc : rL t dr (lgC M 1) (jm (jcount M (nn t dr)) 94 19 0 95) := rL_cells hL (fun _ _ _ _ => rfl) (fun c _ => by rw [jm_n (by omega)]; exact jcount_n (by omega))
  have hL0 : rL t dr (lgC M 1) (jm M 94 19 0 95) := rL_cells hL (fun _ _ _ _ => rfl) (fun c _ => jm_n (by omega))
  have hta : ∀ (k q : Nat), 1 ≤ k → k ≤ 8 → q < 8 → jat 8 (jcount M (nn t dr) (75 + k)) (nI q) = gH (jm (jcount M (nn t dr)) 94 19 0) (nn t dr) (nI q) k := fun k q h1 h2 h3 => by rw [jat_nI h3 (by decide)]; exact tally_r hLc hF h1 h2 h3
  obtain ⟨r, hr3, h6, h5, hru1, hru2⟩ := rL_rules hL
  by_cases hT : ¬ x < 0 ∧ x < M 1 0
  · have hq : qE M (jso (jcount M (nn t dr)) r t) := fun i c q => (jso_n (by omega) _).trans (jcount_n (by omega))
    have hLs : rL t dr (lgC M 1) (jm (jso (jcount M (nn t dr)) r t) 94 19 0 95) := rL_cells hL (fun _ _ _ _ => rfl) (fun c _ => by rw [jm_n (by omega)]; exact hq 95 c (by omega))
    have hT2 := hT
    rw [h10] at hT2
    obtain ⟨q, hq1, hx⟩ := (in_q1 (x := x) (n := t) (by omega)).mp ⟨hT2.1, Int32.not_le.mpr hT2.2⟩
    subst hx
    obtain ⟨i, hi, e1, e2⟩ := ranked_r hLs hF (rL_ru hLs hr3 h6) hq1
    exact Step_q I (H_ranked_r hb (c_ranked_ok (d := 14) (Y := Y) hb hT hn hm ht h10 hr3 h6 hru1)) (cx_ranked_ok (d := 11) hb hn ((hq 95 9 (by omega)).trans h959) ht ((hq 95 0 (by omega)).trans h950) hr3 ((hq 95 5 (by omega)).trans h5) (fun i hi => by rw [hq 95 _ (by omega)]; exact hru2 i hi) (by rw [e1]; exact nI_nm1 (by omega))) (by decide) (by decide) hq tE_1 (cmp_eq jm_s (by rw [jat_nI (by omega) (by decide), e2, e1]))
  · exact Step_q I (H_ranked_t1 (d := 19) hb (c_ranked_no (d := 18) (Y := Y) hb hT)) (cx_ranked_no (d := 11) hb hn h959 ht h950 hr3 h5 hru2 (ranked_no hL0 (rL_ru hL0 hr3 h6) (fun q hq z => hT (by
      have := (in_q1 (x := x) (n := t) (by omega)).mpr ⟨q, hq, z⟩
      exact ⟨this.1, by rw [h10]; exact Int32.not_le.mp this.2⟩)))) (by decide) (by decide) qE_0 tE_2 (cmp_no jm_s (by decide))
end

section
/-! ===== the means are the same ===== -/
def cmpF (k : Int32) (v : Value) (Y : OUt) (M : MM) : Prop := M 94 19 = k ∧ (k = 0 → ∃ w : UInt32, v = .float w ∧ Jvm.FP.Core.fIsNaN w = false ∧ Y.2 0 = FP.f2d w)
def cmpD (k : Int32) (v : Value) (Y : OUt) (M : MM) : Prop := M 94 19 = k ∧ (k = 0 → ∃ w : UInt64, v = .double w ∧ Jvm.FP.Core.dIsNaN w = false ∧ Y.2 0 = w)
theorem f2d_nn {v : UInt32} (h : Jvm.FP.Core.fIsNaN v = false) : Jvm.FP.Core.dIsNaN (FP.f2d v) = false := by
  unfold FP.f2d
  rw [h]
  exact Jvm.FP.Core.f2d_out h
theorem dcmp_0 {v w : UInt64} (h : v = w) (hn : Jvm.FP.Core.dIsNaN w = false) : Op.cmpValue (FP.dcmp v w) .l = 0 := by
  subst h
  have e : FP.dcmp v v = some .eq := Jvm.FP.Core.dcmp_self ((Jvm.FP.Core.notNaN_iff _).mp hn)
  rw [e]
  rfl
section JDCM
variable {p : Program} {l : Launch} {e : Env} {R : Room} {s : State} {m : MethodId} {args : Array Value} {below : List Frame} {meth : Method} {c : Code} {D : va_G} {tyc : Nat → ClassId} {A : Nat → Prop} {n0 : Nat} {ad0 : Nat → Nat} {nL : Nat} {Qs : State → Prop}
variable {own : String} {cc : ByteArray} {pc : Nat} {L : List (Option Value)} {st : List Value} {h : MH} {cells slots : Nat} {b : SBt} {Y : OUt} {M : MM}
theorem j_dcmp (x : j_X p l s m args meth c D tyc A own cc nL) {v w : UInt64} (hd : decode cc pc = .ok (.dcmp .l, 1)) (kk : JJ p l e R s m args below meth c D tyc A n0 ad0 nL Qs (pc + 1) L (.int (Op.cmpValue (FP.dcmp v w) .l) :: st) h cells slots) : JJ p l e R s m args below meth c D tyc A n0 ad0 nL Qs pc L (.double w :: .double v :: st) h cells slots := by
  intro ad ls H locs I
  exact lv_dcmp x.1 x.2.1 hd (kk ad ls H locs (I.st fun hs => j_ok_cons j_ok_int (j_ok_tl (j_ok_tl hs))))
theorem j_daload (x : j_X p l s m args meth c D tyc A own cc nL) {i : Nat} {k : Int32} {v : UInt64} (hd : decode cc pc = .ok (.daload, 1)) (hi : i < h.1) (ht : (h.2 i).1 = 105) (hk : vp_in k (h.2 i).2.1) (hv : (h.2 i).2.2 k.toNatClampNeg = .double v) (kk : JJ p l e R s m args below meth c D tyc A n0 ad0 nL Qs (pc + 1) L (.double v :: st) h cells slots) : JJ p l e R s m args below meth c D tyc A n0 ad0 nL Qs pc L (.int k :: .ref i :: st) h cells slots := by
  intro ad ls H locs I
  have he : (j_w tyc ad h)[i]? = some (ad i, .inl (tyc 105, (h.2 i).2.1, .inr (.inr (.inr (.inl fun j => j_dbl ((h.2 i).2.2 j)))))) := by rw [j_w_get hi, j_e_arr ht (by decide)]; rfl
  refine va_dald x.1 x.2.1 x.2.2.2.2.2.1 I.2.1 i 5 he rfl hk hd ?_
  rw [hv]
  exact kk ad ls H locs (I.st fun hs => j_ok_cons j_ok_double (j_ok_tl (j_ok_tl hs)))
theorem j2_dald (x : j_X p l s m args meth c D tyc A own cc nL) (hb : 104 ≤ b.2.1) (hd : decode cc pc = .ok (.daload, 1)) (kk : JJ p l e R s m args below meth c D tyc A n0 ad0 nL Qs (pc + 1) L (.double (Y.2 0) :: st) (HH b Y M) cells slots) : JJ p l e R s m args below meth c D tyc A n0 ad0 nL Qs pc L (.int 0 :: .ref 103 :: st) (HH b Y M) cells slots :=
  j_daload x hd (show 103 < b.2.1 by omega) rfl (by show vp_in 0 (hLen b 103); rw [hLen_lo (by omega)]; exact vp_c (by decide)) rfl kk
end JDCM
theorem yd {Y : OUt} {v w : UInt64} (h : v = w) : (Y.1, ju Y.2 0 v).2 0 = w := by
  subst h
  show ju Y.2 0 v 0 = v
  exact ju_s
theorem R_meanGoals {b : SBt} {Y : OUt} {M : MM} (I : Inv b M) : Step b Y M yL_meanGoals cL_meanGoals 3 [(0, 8, 11, 120)] [.ref 0, .ref 103] yX6_meanGoals cX6_meanGoals 1 (some .float) [.ref 94] cmpF := by
  have hb := I.hb
  obtain ⟨t, dr, hL, hF⟩ := Inv_now I
  have hn := nn_le (dr := dr) hL.1
  have hm := jmc_r hL hF
  have h959 : M 95 9 = nI (nn t dr) := hL.2.2.2.2.2.2.2.1
  have hLc : rL t dr (lgC M 1) (jm (jcount M (nn t dr)) 94 19 0 95) := rL_cells hL (fun _ _ _ _ => rfl) (fun c _ => by rw [jm_n (by omega)]; exact jcount_n (by omega))
  have e0 : jcount M (nn t dr) 75 0 = jsum (fun m => jof (jm (jcount M (nn t dr)) 94 19 0) m 4) (nn t dr) := jcount_pl.trans (pl_r hLc)
  have g9 : jcount M (nn t dr) 95 9 = nI (nn t dr) := by rw [jcount_n (by omega)]; exact h959
  have e1 : jcount M (nn t dr) 75 1 = jsum (gGoals (jm (jcount M (nn t dr)) 94 19 0)) (nn t dr) := go_r hLc
  by_cases h : jcount M (nn t dr) 75 0 = 0
  · exact Step_q I (H_meanGoals_t1 (d := 19) hb (c_meanGoals_no (d := 14) (Y := Y) hb hn hm h)) (cx_meanGoals_no (d := 18) hb hn g9 (e0.symm.trans h)) (by decide) (by decide) qE_c tE_2 ⟨jm_s, fun q => absurd q (by decide)⟩
  · have h2 : ¬ jsum (fun m => jof (jm (jcount M (nn t dr)) 94 19 0) m 4) (nn t dr) = 0 := fun z => h (e0.trans z)
    exact Step_q I (H_meanGoals_r (d := 19) hb (fdiv_ok h) (c_meanGoals_ok (d := 14) (Y := Y) hb hn hm h (n32_of (fdiv_ok h)))) (cx_meanGoals_ok (d := 17) hb hn g9 h2 (n32_of (fdiv_ok h2))) (by decide) (by decide) qE_c tE_1 ⟨jm_s, fun _ => ⟨_, rfl, fdiv_ok h2, yd (by rw [e0, e1])⟩⟩
theorem R_homeShare {b : SBt} {Y : OUt} {M : MM} (I : Inv b M) : Step b Y M yL_homeShare cL_homeShare 3 [(0, 7, 10, 120)] [.ref 0, .ref 103] yX6_homeShare cX6_homeShare 3 (some .double) [.ref 94] cmpD := by
  have hb := I.hb
  obtain ⟨t, dr, hL, hF⟩ := Inv_now I
  have hn := nn_le (dr := dr) hL.1
  have hm := jmc_r hL hF
  have h959 : M 95 9 = nI (nn t dr) := hL.2.2.2.2.2.2.2.1
  have hLc : rL t dr (lgC M 1) (jm (jcount M (nn t dr)) 94 19 0 95) := rL_cells hL (fun _ _ _ _ => rfl) (fun c _ => by rw [jm_n (by omega)]; exact jcount_n (by omega))
  have e0 : jcount M (nn t dr) 75 0 = jsum (fun m => jof (jm (jcount M (nn t dr)) 94 19 0) m 4) (nn t dr) := jcount_pl.trans (pl_r hLc)
  have g9 : jcount M (nn t dr) 95 9 = nI (nn t dr) := by rw [jcount_n (by omega)]; exact h959
  have e1 : jcount M (nn t dr) 75 2 = jsum (gHw (jm (jcount M (nn t dr)) 94 19 0)) (nn t dr) := hw_r hLc
  by_cases h : jcount M (nn t dr) 75 0 = 0
  · exact Step_q I (H_homeShare_t1 (d := 19) hb (c_homeShare_no (d := 14) (Y := Y) hb hn hm h)) (cx_homeShare_no (d := 18) hb hn g9 (e0.symm.trans h)) (by decide) (by decide) qE_c tE_2 ⟨jm_s, fun q => absurd q (by decide)⟩
  · have h2 : ¬ jsum (fun m => jof (jm (jcount M (nn t dr)) 94 19 0) m 4) (nn t dr) = 0 := fun z => h (e0.trans z)
    exact Step_q I (H_homeShare_r (d := 19) hb (c_homeShare_ok (d := 14) (Y := Y) hb hn hm h (n64_of (ddiv_ok h)))) (cx_homeShare_ok (d := 17) hb hn g9 h2 (n64_of (ddiv_ok h2))) (by decide) (by decide) qE_c tE_1 ⟨jm_s, fun _ => ⟨_, rfl, ddiv_ok h2, yd (by rw [e0, e1])⟩⟩
end

section
/-! THE CLAIM OUT OF ONE WALK OF THE LAW'S BODY. Your part is whole_start (and what it stands on); all else here is the same for every law, but numbers. -/
def R_law : String := "LeagueTablesLaw"
def lw_P (b : Addr) (xs : List Int32) (args : Array Value) (s : State) : Prop := args = #[.ref b] ∧ s.IntsAt b xs ∧ xs.length ≤ 2048 ∧ (Jvm.Cond.and given_1 narrow_1).before args s = true
/-- what a walk over the start with the record d0 says of its end, said of the start itself -/
theorem lw_closed {s t : State} {o : Outcome} {d0 : Drawn} {L : List Loc} {k n : Nat} (hd0 : s.drawn.sameBut d0 lw_cs) (hv : ∃ v, o = .returned v) (hW : (s.setDrawn d0).WarmedH t.vm) (hs : (s.setDrawn d0).sameButNew ({ t with vm := s.vm } : State) L k n) : State.butDraws s t lw_cs (fun t1 => Framed s o t1 L k n) := by
  have h2 : t.drawn = d0 := congrArg State.drawn hs.1
  refine ⟨⟨hv, hW, State.sameButNew.setDrawn hs s.drawn⟩, ?_, by decide⟩
  rw [h2]
  exact hd0
def lw_Q (_ : Array Value) (s : State) (o : Outcome) (t : State) : Prop := o = .returned (some (.int 1)) ∧ State.butDraws s t lw_cs (fun t1 => Framed s o t1 [] 603072 7202922)
def lw_Z (below : List Frame) (a : Array Value) (s : State) : State → Prop := fun t => ∃ o, t.status = .running ∧ Ended t below o ∧ lw_Q a s o t
/-- the law's own end, with 1 on the stack, nothing written that was there before, its room as the claim has it; d0: the record of draws at this point (at the entry s.drawn: begin with 'refine W.base ?_' and 'have hd0 := Drawn.sameBut.refl s.drawn lw_cs') -/
theorem lw_ret {p : Program} {l : Launch} {e : Env} {s : State} {m : MethodId} {below : List Frame} {meth : Method} {c : Code} {b : Nat} {d0 : Drawn} (hd0 : s.drawn.sameBut d0 lw_cs) (hx : p.tables.exec = Jvm.exec) (hb : c.code = code) (hr : meth.sig.returnType = ret) (hlocks : meth.locks = false) {pc : Nat} {H : Heap} {ls : Array Slot} (hdg : decode code pc = .ok (.ireturn, 1)) : W p l e room_1 (s.setDrawn d0) m #[Value.ref b] below meth c H [] 603072 7202922 (lw_Z below #[Value.ref b] s) (F0 m pc ls [.int 1]) := by
  intro T hT X
  obtain ⟨fs, hret, hrun, hended, hW, hframe⟩ := X.leave (v := some (.int 1)) (hlocks := hlocks) (fun h => by rw [hr] at h; cases h)
  have hmeth' : T.vm.method? m = some meth := X.method'
  refine ⟨T.setFrames fs, ?_, .returned (some (.int 1)), hrun, hended, rfl, lw_closed hd0 ⟨_, rfl⟩ hW hframe⟩
  jvm_step X.here [X.here.top, hx, hb, hdg, hmeth', hr, ret, narrow_b1]
  (try refine ⟨rfl, ?_⟩); (try refine ⟨rfl, ?_⟩)
  first | (intro acts; rw [hret _ acts rfl rfl rfl]) | rw [hret _ _ rfl rfl rfl]
  exact Steps.refl _
/-- what holds at the law's entry: the machine, the code, the tables' words (any of lw_tbl by 'hts w (by decide +kernel)'), the script of L ints xs at the cell b, what the Statement gives of the start (any of its parts by flat_of_before) -/
def lw_At (p : Program) (s : State) (m : MethodId) (meth : Method) (c : Code) (b L : Nat) (xs : Nat → Int32) : Prop :=
  p.tables.exec = Jvm.exec ∧ c.code = code ∧ meth.sig.returnType = ret ∧ c.maxLocals = 9 ∧ s.vm.findClass R_law = some m.cls ∧ (∀ w ∈ lw_tbl, w.before #[Value.ref b] s = true) ∧ va_X b L xs s s.heap ∧ b < s.heap.size ∧ meth.locks = false ∧ (Jvm.Cond.and given_1 narrow_1).before #[Value.ref b] s = true
-- ===== YOUR PART BEGINS =====
end

section
/-! ===== the world at the law's entry ===== -/
theorem tbl_of {w : Cond} (h : w ∈ j_all) (hn : (match w with | .selects .. => false | _ => true) = true) : w ∈ lw_tbl := by
  rcases List.mem_append.mp (List.mem_filter.mp h).1 with h | h
  · exact h
  · rcases List.mem_cons.mp h with rfl | h
    · cases hn
    · rcases List.mem_cons.mp h with rfl | h
      · cases hn
      · cases h
theorem sel_priv {s : State} {args : Array Value} {C : String} {y z : MethodName} {cC : ClassId} (hC : s.vm.findClass C = some cC) (hz : (Cond.selects C z z).before args s = true) (hzy : z.cls = y.cls) (hpriv : (Cond.privateMethod y).before args s = true) (hinst : (Cond.instanceMethod y).before args s = true) (hy : y.cls ≠ "java/lang/invoke/MethodHandle" ∧ y.cls ≠ "java/lang/invoke/VarHandle") : (Cond.selects C y y).before args s = true := by
  obtain ⟨mk, methM, hnamed, hmethM, -, -⟩ := Cond.instanceMethod_spec hinst
  obtain ⟨c2, r, m2, h1, h2, h3, h4, kk, h5, h6⟩ := Cond.selects_spec hz
  have hcls : m2.cls = mk.cls := by
    have e1 := findClass_of_methodNamed h3
    have e2 := findClass_of_methodNamed hnamed
    rw [hzy] at e1
    exact Option.some.inj (e1.symm.trans e2)
  have hfound : s.methodFound? y.cls y.name y.desc = some mk := State.methodFound?_of_named hnamed hy
  have hsel : selectMethod {} s.vm cC mk = .method mk := selectMethod_private hmethM (Cond.privateMethod_at hpriv mk methM hnamed hmethM)
  rw [hcls] at h5
  simp only [Cond.before, Cond.holds, Cond.value, hC, hfound, hnamed, hsel, h5]
  simp [h6]

theorem step_lt {P : Nat → Prop} {n : Nat} (h : ∀ j, j < n → P j) (hn : P n) : ∀ j, j < n + 1 → P j := fun j hj => by
  by_cases e : j = n
  · subst e; exact hn
  · exact h j (by omega)
theorem ext_ok {args : Array Value} {s : State} (hts : ∀ w ∈ lw_tbl, w.before args s = true) : ∀ w ∈ j_all, w.before args s = true := by
  intro w hw
  rcases List.mem_append.mp (List.mem_filter.mp hw).1 with h | h
  · exact hts w h
  · have hz := hts _ (List.mem_of_getElem? (i := 1192) (show lw_tbl[1192]? = some (.selects "java/lang/StringBuilder" yJ5_isLatin1_aae02 yJ5_isLatin1_aae02) by decide +kernel))
    have hC : ∃ cC, s.vm.findClass "java/lang/StringBuilder" = some cC := by
      obtain ⟨c2, -, -, h1, -⟩ := Cond.selects_spec hz
      exact ⟨c2, h1⟩
    obtain ⟨cC, hC⟩ := hC
    rcases List.mem_cons.mp h with rfl | h
    · exact sel_priv hC hz rfl (hts _ (List.mem_of_getElem? (i := 1161) (show lw_tbl[1161]? = some (.privateMethod yJ5_ensureCapacityInternal_d00df) by decide +kernel))) (hts _ (List.mem_of_getElem? (i := 1162) (show lw_tbl[1162]? = some (.instanceMethod yJ5_ensureCapacityInternal_d00df) by decide +kernel))) ⟨by decide +kernel, by decide +kernel⟩
    · rcases List.mem_cons.mp h with rfl | h
      · exact sel_priv hC hz rfl (hts _ (List.mem_of_getElem? (i := 1165) (show lw_tbl[1165]? = some (.privateMethod yJ5_newCapacity_0f7a4) by decide +kernel))) (hts _ (List.mem_of_getElem? (i := 1166) (show lw_tbl[1166]? = some (.instanceMethod yJ5_newCapacity_0f7a4) by decide +kernel))) ⟨by decide +kernel, by decide +kernel⟩
      · cases h
theorem len_100 {args : Array Value} {s : State} {t : Term} (h : (Term.length t).eval args s none [] s = some (.int (nI 100))) : ∃ a cell, t.eval args s none [] s = some (.ref a) ∧ s.arrayAt? a = some cell ∧ cell.slots.size = 100 := by
  simp only [Term.eval, Option.bind_eq_bind] at h
  cases ht : t.eval args s none [] s with
  | none => simp [ht] at h
  | some x =>
    cases x <;> simp [ht] at h
    case ref a =>
      obtain ⟨cell, hcell, h⟩ := Option.bind_eq_some_iff.mp h
      by_cases hn : cell.slots.size < 2147483648
      · rw [if_pos hn] at h
        have h1 : nI cell.slots.size = nI 100 := Value.int.inj (Option.some.inj h)
        exact ⟨a, cell, rfl, hcell, (nI_eq (by omega) (by omega)).mp h1⟩
      · rw [if_neg hn] at h; cases h
theorem law_tab {args : Array Value} {s : State} {n : String} {f : Nat → Int32} {A : Nat → Prop} (hl : (Cond.laysStatic "java/lang/Integer" n "[B").before args s = true) (hini : (Cond.initialized "java/lang/Integer").before args s = true) (harr : (Cond.arrayOf (.static "java/lang/Integer" n "[B") .byte).before args s = true) (hlen : (Term.length (.static "java/lang/Integer" n "[B")).eval args s none [] s = some (.int (nI 100)))
    (hel : ∀ j : Nat, j < 100 → (Term.elem (.static "java/lang/Integer" n "[B") (.int (nI j))).eval args s none [] s = some (.int (f j))) (hA : ∀ a : Nat, a < s.heap.size → ¬ A a) : j_tab n f A s s.heap := by
  obtain ⟨a, cell, ht, hat, hsz⟩ := len_100 hlen
  obtain ⟨hcell, hkn, -, -⟩ := State.arrayAt?_spec hat
  obtain ⟨hof, -⟩ := Cond.arrayOf_spec harr ht hcell
  have hal : a < s.heap.size := (Array.getElem?_eq_some_iff.mp hcell).1
  refine ⟨a, va_Zof hl hini ht hA, hA a hal, hal, cell, hcell, hof, hkn, hsz, fun j hj => ?_⟩
  obtain ⟨a2, i, cell2, h1, h2, h3, h4, h5⟩ := Term.elem_spec (hel j hj)
  cases ht.symm.trans h1
  cases hat.symm.trans h3
  have hi : i = nI j := by
    have e : (Term.int (nI j)).eval args s none [] s = some (.int (nI j)) := rfl
    cases h2.symm.trans e
    rfl
  rw [hi, nI_clamp (by omega)] at h5
  exact h5
theorem law_cls : ∀ (k : Nat) (q : vw_C), vwCl[k]? = some q → (∀ w ∈ u_ws q.1 q.2.1 q.2.2, w ∈ lw_tbl) ∧ ∃ n, Cond.instantiable q.1 n ∈ lw_tbl := by
  intro k q hq
  match k, hq with
  | 0, hq => cases hq; exact ⟨by decide +kernel, _, tbl_of wt_java_lang_String rfl⟩
  | 1, hq => cases hq; exact ⟨by decide +kernel, _, tbl_of wt_java_lang_StringBuilder rfl⟩
  | 2, hq => cases hq; exact ⟨by decide +kernel, _, tbl_of wt_java_lang_ArrayIndexOutOfBoundsException rfl⟩
  | 3, hq => cases hq; exact ⟨by decide +kernel, _, tbl_of wt_java_lang_StringIndexOutOfBoundsException rfl⟩
  | 4, hq => cases hq; exact ⟨by decide +kernel, _, tbl_of wt_LeagueTables_Fixtures rfl⟩
  | 5, hq => cases hq; exact ⟨by decide +kernel, _, tbl_of wt_LeagueTables_History rfl⟩
  | 6, hq => cases hq; exact ⟨by decide +kernel, _, tbl_of wt_LeagueTables_League rfl⟩
  | 7, hq => cases hq; exact ⟨by decide +kernel, _, tbl_of wt_LeagueTables_Tally rfl⟩
  | 8, hq => cases hq; exact ⟨by decide +kernel, _, tbl_of wt_LeagueTables_Text rfl⟩
  | 9, hq => cases hq; exact ⟨by decide +kernel, _, tbl_of wt_LeagueTables rfl⟩
  | 10, hq => cases hq; exact ⟨by decide +kernel, _, tbl_of wt_LeagueTablesModel rfl⟩
  | k + 11, hq => cases hq
theorem law_prim {args : Array Value} {s : State} {ty : FieldType} (h : (Cond.arrayClass ty).before args s = true) : ∃ cA : ClassId, ArrOfT s cA ty ∧ s.vm.findClass ("[" ++ ty.toString) = some cA := by
  obtain ⟨cA, kA, comp, h1, h2, h3⟩ := Cond.arrayClass_spec h
  exact ⟨cA, fun n z => ⟨fun k h => (by cases h), kA, h2, comp, h3⟩, h1⟩
theorem law_K {args : Array Value} {s : State} (hts : ∀ w ∈ lw_tbl, w.before args s = true) : ∃ (D : va_G) (tyc : Nat → ClassId), va_K D vwCl (j_tys tyc) s := by
  have hc : ∀ k : Nat, ∃ d : ClassId × (Nat → Nat), ∀ q : vw_C, vwCl[k]? = some q → u_Kn s q.1 q.2.1 q.2.2 d.1 d.2 := by
    intro k
    cases hk : vwCl[k]? with
    | none => exact ⟨(0, fun _ => 0), fun q hq => by cases hq⟩
    | some q =>
      obtain ⟨h1, n, h2⟩ := law_cls k q hk
      obtain ⟨cC, iS, h3⟩ := u_known (T := q.2.1) (N := q.2.2) hts h1 (hts _ h2)
      exact ⟨(cC, iS), fun q' hq' => by cases hq'; exact h3⟩
  obtain ⟨dd, hdd⟩ := Classical.skolem.mp hc
  obtain ⟨t0, a0, f0⟩ := law_prim (hts _ (tbl_of wa_int rfl))
  obtain ⟨t1, a1, f1⟩ := law_prim (hts _ (tbl_of wa_char rfl))
  obtain ⟨t2, a2, f2⟩ := law_prim (hts _ (tbl_of wa_byte rfl))
  obtain ⟨t4, a4, f4⟩ := law_prim (hts _ (tbl_of wa_long rfl))
  obtain ⟨t5, a5, f5⟩ := law_prim (hts _ (tbl_of wa_double rfl))
  obtain ⟨comp, t3, kA, g1, g2, g3, g4, g5⟩ := Cond.arrayOver_spec (hts (.arrayOver (.object j_R2)) (List.mem_of_getElem? (i := 203) (by decide +kernel)))
  refine ⟨(fun k => (dd k).1, fun k => (dd k).2), fun t => if t = 100 then t0 else if t = 101 then t1 else if t = 102 then t2 else if t = 103 then t3 else if t = 104 then t4 else t5, fun k q hq => hdd k q hq, fun k q hq => ?_⟩
  match k, hq with
  | 0, hq => cases hq; exact ⟨a0, f0⟩
  | 1, hq => cases hq; exact ⟨a1, f1⟩
  | 2, hq => cases hq; exact ⟨a2, f2⟩
  | 3, hq => cases hq; exact ⟨fun N z => ⟨(fun k h => by cases h), kA, g3, comp, g4⟩, kA, comp, g3, g4, g1, g5⟩
  | 4, hq => cases hq; exact ⟨a4, f4⟩
  | 5, hq => cases hq; exact ⟨a5, f5⟩
  | k + 6, hq => cases hq
theorem law_str {args : Array Value} {s : State} {own tx : String} {k : Nat} (h : (Cond.stringRef own k tx).before args s = true) : ∃ sa, vk_R own k tx sa s := by
  have h0 := h
  simp only [Cond.before, Cond.holds, Cond.value, State.resolvedAt?] at h
  cases hc : s.vm.findClass own with
  | none => simp [hc] at h
  | some c =>
    cases hk : s.vm.classes[c]? with
    | none => simp [hc, hk] at h
    | some kc =>
      cases hr : (kc.resolved[k]?).join with
      | none => simp [hc, hk, hr] at h
      | some r =>
        cases r with
        | string a => exact ⟨a, vk_R.of (A := args) h0 (by simp [Term.eval, hc, hk, hr])⟩
        | _ => simp [hc, hk, hr] at h
theorem law_eq {args : Array Value} {s : State} {t : Term} {v : Int32} (h : (Cond.eq t (.int v)).before args s = true) : t.eval args s none [] s = some (.int v) := by
  simp only [Cond.before, Cond.holds, Cond.value] at h
  have e1 : (Term.int v).eval args s none [] s = some (.int v) := rfl
  rw [e1] at h
  cases ht : t.eval args s none [] s with
  | none => simp [ht] at h
  | some w =>
    cases w with
    | int y =>
      rw [ht] at h
      simp at h
      rw [h]
    | _ => simp [ht] at h
theorem law_env {s : State} {b : Nat} (hts : ∀ w ∈ lw_tbl, w.before #[Value.ref b] s = true) (hgv : (Jvm.Cond.and given_1 narrow_1).before #[Value.ref b] s = true) : j_env (fun q => s.heap.size ≤ q) s s.heap := by
  have hs := flat_of_before _ hgv
  have hA : ∀ a : Nat, a < s.heap.size → ¬ (fun q => s.heap.size ≤ q) a := fun a h => Nat.not_le.mpr h
  refine ⟨fun w hw => va_Nw.of (j_soft_tab (List.mem_filter.mp hw).2) (hts w (List.mem_filter.mp hw).1), va_AO.of (hts (.arrayOver (.object j_R2)) (List.mem_of_getElem? (i := 203) (by decide +kernel))), fun q hq => ?_, ?_, ?_, ?_, fun q hq => ?_, ?_, ?_, ?_⟩
  · obtain ⟨w, hw, he⟩ := List.mem_filterMap.mp hq
    cases w with
    | stringRef c k t =>
      cases he
      exact law_str (hts _ hw)
    | _ => cases he
  · exact vx_Zqof (hts _ (List.mem_of_getElem? (i := 489) (by decide +kernel))) (hts _ (tbl_of wi_java_lang_Throwable rfl)) (hs _ (by decide +kernel)) hA
  · exact vx_Zqof (hts _ (List.mem_of_getElem? (i := 491) (by decide +kernel))) (hts _ (tbl_of wi_java_lang_Throwable rfl)) (hs _ (by decide +kernel)) hA
  · exact va_Zof (hts _ (List.mem_of_getElem? (i := 356) (by decide +kernel))) (hts _ (tbl_of wi_java_lang_String rfl)) (law_eq (hs (.eq (.static "java/lang/String" "COMPACT_STRINGS" "Z") (.int 1)) (by decide +kernel))) hA
  · have hq : q = ("java/lang/IllegalArgumentException", "java/lang/IndexOutOfBoundsException") ∨ q = ("java/util/NoSuchElementException", "java/lang/IndexOutOfBoundsException") ∨ q = ("java/lang/UnsupportedOperationException", "java/lang/IllegalArgumentException") ∨ q = ("java/util/NoSuchElementException", "java/lang/IllegalArgumentException") := by
      simpa [j_ncs] using hq
    rcases hq with rfl | rfl | rfl | rfl
    · exact va_Nc.of (hs (.not (.castable "java/lang/IllegalArgumentException" "java/lang/IndexOutOfBoundsException")) (by decide +kernel))
    · exact va_Nc.of (hs (.not (.castable "java/util/NoSuchElementException" "java/lang/IndexOutOfBoundsException")) (by decide +kernel))
    · exact va_Nc.of (hs (.not (.castable "java/lang/UnsupportedOperationException" "java/lang/IllegalArgumentException")) (by decide +kernel))
    · exact va_Nc.of (hs (.not (.castable "java/util/NoSuchElementException" "java/lang/IllegalArgumentException")) (by decide +kernel))
  · exact va_Zqof (hts _ (List.mem_of_getElem? (i := 1207) (by decide +kernel))) (hts _ (tbl_of wi_jdk_internal_util_Preconditions rfl)) (hs _ (by decide +kernel)) hA
  · have a0 : ∀ j : Nat, j < 0 → (Cond.eq (.elem (.static "java/lang/Integer" "DigitOnes" "[B") (.int (nI j))) (.int (j_ones j))).before #[Value.ref b] s = true := fun j hj => absurd hj (Nat.not_lt_zero j)
    have a1 := step_lt a0 (hs (.eq (.elem (.static "java/lang/Integer" "DigitOnes" "[B") (.int 0)) (.int 48)) (List.mem_of_getElem? (i := 14) (by decide +kernel)))
    have a2 := step_lt a1 (hs (.eq (.elem (.static "java/lang/Integer" "DigitOnes" "[B") (.int 1)) (.int 49)) (List.mem_of_getElem? (i := 15) (by decide +kernel)))
    have a3 := step_lt a2 (hs (.eq (.elem (.static "java/lang/Integer" "DigitOnes" "[B") (.int 2)) (.int 50)) (List.mem_of_getElem? (i := 16) (by decide +kernel)))
    have a4 := step_lt a3 (hs (.eq (.elem (.static "java/lang/Integer" "DigitOnes" "[B") (.int 3)) (.int 51)) (List.mem_of_getElem? (i := 17) (by decide +kernel)))
    have a5 := step_lt a4 (hs (.eq (.elem (.static "java/lang/Integer" "DigitOnes" "[B") (.int 4)) (.int 52)) (List.mem_of_getElem? (i := 18) (by decide +kernel)))
    have a6 := step_lt a5 (hs (.eq (.elem (.static "java/lang/Integer" "DigitOnes" "[B") (.int 5)) (.int 53)) (List.mem_of_getElem? (i := 19) (by decide +kernel)))
    have a7 := step_lt a6 (hs (.eq (.elem (.static "java/lang/Integer" "DigitOnes" "[B") (.int 6)) (.int 54)) (List.mem_of_getElem? (i := 20) (by decide +kernel)))
    have a8 := step_lt a7 (hs (.eq (.elem (.static "java/lang/Integer" "DigitOnes" "[B") (.int 7)) (.int 55)) (List.mem_of_getElem? (i := 21) (by decide +kernel)))
    have a9 := step_lt a8 (hs (.eq (.elem (.static "java/lang/Integer" "DigitOnes" "[B") (.int 8)) (.int 56)) (List.mem_of_getElem? (i := 22) (by decide +kernel)))
    have a10 := step_lt a9 (hs (.eq (.elem (.static "java/lang/Integer" "DigitOnes" "[B") (.int 9)) (.int 57)) (List.mem_of_getElem? (i := 23) (by decide +kernel)))
    have a11 := step_lt a10 (hs (.eq (.elem (.static "java/lang/Integer" "DigitOnes" "[B") (.int 10)) (.int 48)) (List.mem_of_getElem? (i := 24) (by decide +kernel)))
    have a12 := step_lt a11 (hs (.eq (.elem (.static "java/lang/Integer" "DigitOnes" "[B") (.int 11)) (.int 49)) (List.mem_of_getElem? (i := 25) (by decide +kernel)))
    have a13 := step_lt a12 (hs (.eq (.elem (.static "java/lang/Integer" "DigitOnes" "[B") (.int 12)) (.int 50)) (List.mem_of_getElem? (i := 26) (by decide +kernel)))
    have a14 := step_lt a13 (hs (.eq (.elem (.static "java/lang/Integer" "DigitOnes" "[B") (.int 13)) (.int 51)) (List.mem_of_getElem? (i := 27) (by decide +kernel)))
    have a15 := step_lt a14 (hs (.eq (.elem (.static "java/lang/Integer" "DigitOnes" "[B") (.int 14)) (.int 52)) (List.mem_of_getElem? (i := 28) (by decide +kernel)))
    have a16 := step_lt a15 (hs (.eq (.elem (.static "java/lang/Integer" "DigitOnes" "[B") (.int 15)) (.int 53)) (List.mem_of_getElem? (i := 29) (by decide +kernel)))
    have a17 := step_lt a16 (hs (.eq (.elem (.static "java/lang/Integer" "DigitOnes" "[B") (.int 16)) (.int 54)) (List.mem_of_getElem? (i := 30) (by decide +kernel)))
    have a18 := step_lt a17 (hs (.eq (.elem (.static "java/lang/Integer" "DigitOnes" "[B") (.int 17)) (.int 55)) (List.mem_of_getElem? (i := 31) (by decide +kernel)))
    have a19 := step_lt a18 (hs (.eq (.elem (.static "java/lang/Integer" "DigitOnes" "[B") (.int 18)) (.int 56)) (List.mem_of_getElem? (i := 32) (by decide +kernel)))
    have a20 := step_lt a19 (hs (.eq (.elem (.static "java/lang/Integer" "DigitOnes" "[B") (.int 19)) (.int 57)) (List.mem_of_getElem? (i := 33) (by decide +kernel)))
    have a21 := step_lt a20 (hs (.eq (.elem (.static "java/lang/Integer" "DigitOnes" "[B") (.int 20)) (.int 48)) (List.mem_of_getElem? (i := 34) (by decide +kernel)))
    have a22 := step_lt a21 (hs (.eq (.elem (.static "java/lang/Integer" "DigitOnes" "[B") (.int 21)) (.int 49)) (List.mem_of_getElem? (i := 35) (by decide +kernel)))
    have a23 := step_lt a22 (hs (.eq (.elem (.static "java/lang/Integer" "DigitOnes" "[B") (.int 22)) (.int 50)) (List.mem_of_getElem? (i := 36) (by decide +kernel)))
    have a24 := step_lt a23 (hs (.eq (.elem (.static "java/lang/Integer" "DigitOnes" "[B") (.int 23)) (.int 51)) (List.mem_of_getElem? (i := 37) (by decide +kernel)))
    have a25 := step_lt a24 (hs (.eq (.elem (.static "java/lang/Integer" "DigitOnes" "[B") (.int 24)) (.int 52)) (List.mem_of_getElem? (i := 38) (by decide +kernel)))
    have a26 := step_lt a25 (hs (.eq (.elem (.static "java/lang/Integer" "DigitOnes" "[B") (.int 25)) (.int 53)) (List.mem_of_getElem? (i := 39) (by decide +kernel)))
    have a27 := step_lt a26 (hs (.eq (.elem (.static "java/lang/Integer" "DigitOnes" "[B") (.int 26)) (.int 54)) (List.mem_of_getElem? (i := 40) (by decide +kernel)))
    have a28 := step_lt a27 (hs (.eq (.elem (.static "java/lang/Integer" "DigitOnes" "[B") (.int 27)) (.int 55)) (List.mem_of_getElem? (i := 41) (by decide +kernel)))
    have a29 := step_lt a28 (hs (.eq (.elem (.static "java/lang/Integer" "DigitOnes" "[B") (.int 28)) (.int 56)) (List.mem_of_getElem? (i := 42) (by decide +kernel)))
    have a30 := step_lt a29 (hs (.eq (.elem (.static "java/lang/Integer" "DigitOnes" "[B") (.int 29)) (.int 57)) (List.mem_of_getElem? (i := 43) (by decide +kernel)))
    have a31 := step_lt a30 (hs (.eq (.elem (.static "java/lang/Integer" "DigitOnes" "[B") (.int 30)) (.int 48)) (List.mem_of_getElem? (i := 44) (by decide +kernel)))
    have a32 := step_lt a31 (hs (.eq (.elem (.static "java/lang/Integer" "DigitOnes" "[B") (.int 31)) (.int 49)) (List.mem_of_getElem? (i := 45) (by decide +kernel)))
    have a33 := step_lt a32 (hs (.eq (.elem (.static "java/lang/Integer" "DigitOnes" "[B") (.int 32)) (.int 50)) (List.mem_of_getElem? (i := 46) (by decide +kernel)))
    have a34 := step_lt a33 (hs (.eq (.elem (.static "java/lang/Integer" "DigitOnes" "[B") (.int 33)) (.int 51)) (List.mem_of_getElem? (i := 47) (by decide +kernel)))
    have a35 := step_lt a34 (hs (.eq (.elem (.static "java/lang/Integer" "DigitOnes" "[B") (.int 34)) (.int 52)) (List.mem_of_getElem? (i := 48) (by decide +kernel)))
    have a36 := step_lt a35 (hs (.eq (.elem (.static "java/lang/Integer" "DigitOnes" "[B") (.int 35)) (.int 53)) (List.mem_of_getElem? (i := 49) (by decide +kernel)))
    have a37 := step_lt a36 (hs (.eq (.elem (.static "java/lang/Integer" "DigitOnes" "[B") (.int 36)) (.int 54)) (List.mem_of_getElem? (i := 50) (by decide +kernel)))
    have a38 := step_lt a37 (hs (.eq (.elem (.static "java/lang/Integer" "DigitOnes" "[B") (.int 37)) (.int 55)) (List.mem_of_getElem? (i := 51) (by decide +kernel)))
    have a39 := step_lt a38 (hs (.eq (.elem (.static "java/lang/Integer" "DigitOnes" "[B") (.int 38)) (.int 56)) (List.mem_of_getElem? (i := 52) (by decide +kernel)))
    have a40 := step_lt a39 (hs (.eq (.elem (.static "java/lang/Integer" "DigitOnes" "[B") (.int 39)) (.int 57)) (List.mem_of_getElem? (i := 53) (by decide +kernel)))
    have a41 := step_lt a40 (hs (.eq (.elem (.static "java/lang/Integer" "DigitOnes" "[B") (.int 40)) (.int 48)) (List.mem_of_getElem? (i := 54) (by decide +kernel)))
    have a42 := step_lt a41 (hs (.eq (.elem (.static "java/lang/Integer" "DigitOnes" "[B") (.int 41)) (.int 49)) (List.mem_of_getElem? (i := 55) (by decide +kernel)))
    have a43 := step_lt a42 (hs (.eq (.elem (.static "java/lang/Integer" "DigitOnes" "[B") (.int 42)) (.int 50)) (List.mem_of_getElem? (i := 56) (by decide +kernel)))
    have a44 := step_lt a43 (hs (.eq (.elem (.static "java/lang/Integer" "DigitOnes" "[B") (.int 43)) (.int 51)) (List.mem_of_getElem? (i := 57) (by decide +kernel)))
    have a45 := step_lt a44 (hs (.eq (.elem (.static "java/lang/Integer" "DigitOnes" "[B") (.int 44)) (.int 52)) (List.mem_of_getElem? (i := 58) (by decide +kernel)))
    have a46 := step_lt a45 (hs (.eq (.elem (.static "java/lang/Integer" "DigitOnes" "[B") (.int 45)) (.int 53)) (List.mem_of_getElem? (i := 59) (by decide +kernel)))
    have a47 := step_lt a46 (hs (.eq (.elem (.static "java/lang/Integer" "DigitOnes" "[B") (.int 46)) (.int 54)) (List.mem_of_getElem? (i := 60) (by decide +kernel)))
    have a48 := step_lt a47 (hs (.eq (.elem (.static "java/lang/Integer" "DigitOnes" "[B") (.int 47)) (.int 55)) (List.mem_of_getElem? (i := 61) (by decide +kernel)))
    have a49 := step_lt a48 (hs (.eq (.elem (.static "java/lang/Integer" "DigitOnes" "[B") (.int 48)) (.int 56)) (List.mem_of_getElem? (i := 62) (by decide +kernel)))
    have a50 := step_lt a49 (hs (.eq (.elem (.static "java/lang/Integer" "DigitOnes" "[B") (.int 49)) (.int 57)) (List.mem_of_getElem? (i := 63) (by decide +kernel)))
    have a51 := step_lt a50 (hs (.eq (.elem (.static "java/lang/Integer" "DigitOnes" "[B") (.int 50)) (.int 48)) (List.mem_of_getElem? (i := 64) (by decide +kernel)))
    have a52 := step_lt a51 (hs (.eq (.elem (.static "java/lang/Integer" "DigitOnes" "[B") (.int 51)) (.int 49)) (List.mem_of_getElem? (i := 65) (by decide +kernel)))
    have a53 := step_lt a52 (hs (.eq (.elem (.static "java/lang/Integer" "DigitOnes" "[B") (.int 52)) (.int 50)) (List.mem_of_getElem? (i := 66) (by decide +kernel)))
    have a54 := step_lt a53 (hs (.eq (.elem (.static "java/lang/Integer" "DigitOnes" "[B") (.int 53)) (.int 51)) (List.mem_of_getElem? (i := 67) (by decide +kernel)))
    have a55 := step_lt a54 (hs (.eq (.elem (.static "java/lang/Integer" "DigitOnes" "[B") (.int 54)) (.int 52)) (List.mem_of_getElem? (i := 68) (by decide +kernel)))
    have a56 := step_lt a55 (hs (.eq (.elem (.static "java/lang/Integer" "DigitOnes" "[B") (.int 55)) (.int 53)) (List.mem_of_getElem? (i := 69) (by decide +kernel)))
    have a57 := step_lt a56 (hs (.eq (.elem (.static "java/lang/Integer" "DigitOnes" "[B") (.int 56)) (.int 54)) (List.mem_of_getElem? (i := 70) (by decide +kernel)))
    have a58 := step_lt a57 (hs (.eq (.elem (.static "java/lang/Integer" "DigitOnes" "[B") (.int 57)) (.int 55)) (List.mem_of_getElem? (i := 71) (by decide +kernel)))
    have a59 := step_lt a58 (hs (.eq (.elem (.static "java/lang/Integer" "DigitOnes" "[B") (.int 58)) (.int 56)) (List.mem_of_getElem? (i := 72) (by decide +kernel)))
    have a60 := step_lt a59 (hs (.eq (.elem (.static "java/lang/Integer" "DigitOnes" "[B") (.int 59)) (.int 57)) (List.mem_of_getElem? (i := 73) (by decide +kernel)))
    have a61 := step_lt a60 (hs (.eq (.elem (.static "java/lang/Integer" "DigitOnes" "[B") (.int 60)) (.int 48)) (List.mem_of_getElem? (i := 74) (by decide +kernel)))
    have a62 := step_lt a61 (hs (.eq (.elem (.static "java/lang/Integer" "DigitOnes" "[B") (.int 61)) (.int 49)) (List.mem_of_getElem? (i := 75) (by decide +kernel)))
    have a63 := step_lt a62 (hs (.eq (.elem (.static "java/lang/Integer" "DigitOnes" "[B") (.int 62)) (.int 50)) (List.mem_of_getElem? (i := 76) (by decide +kernel)))
    have a64 := step_lt a63 (hs (.eq (.elem (.static "java/lang/Integer" "DigitOnes" "[B") (.int 63)) (.int 51)) (List.mem_of_getElem? (i := 77) (by decide +kernel)))
    have a65 := step_lt a64 (hs (.eq (.elem (.static "java/lang/Integer" "DigitOnes" "[B") (.int 64)) (.int 52)) (List.mem_of_getElem? (i := 78) (by decide +kernel)))
    have a66 := step_lt a65 (hs (.eq (.elem (.static "java/lang/Integer" "DigitOnes" "[B") (.int 65)) (.int 53)) (List.mem_of_getElem? (i := 79) (by decide +kernel)))
    have a67 := step_lt a66 (hs (.eq (.elem (.static "java/lang/Integer" "DigitOnes" "[B") (.int 66)) (.int 54)) (List.mem_of_getElem? (i := 80) (by decide +kernel)))
    have a68 := step_lt a67 (hs (.eq (.elem (.static "java/lang/Integer" "DigitOnes" "[B") (.int 67)) (.int 55)) (List.mem_of_getElem? (i := 81) (by decide +kernel)))
    have a69 := step_lt a68 (hs (.eq (.elem (.static "java/lang/Integer" "DigitOnes" "[B") (.int 68)) (.int 56)) (List.mem_of_getElem? (i := 82) (by decide +kernel)))
    have a70 := step_lt a69 (hs (.eq (.elem (.static "java/lang/Integer" "DigitOnes" "[B") (.int 69)) (.int 57)) (List.mem_of_getElem? (i := 83) (by decide +kernel)))
    have a71 := step_lt a70 (hs (.eq (.elem (.static "java/lang/Integer" "DigitOnes" "[B") (.int 70)) (.int 48)) (List.mem_of_getElem? (i := 84) (by decide +kernel)))
    have a72 := step_lt a71 (hs (.eq (.elem (.static "java/lang/Integer" "DigitOnes" "[B") (.int 71)) (.int 49)) (List.mem_of_getElem? (i := 85) (by decide +kernel)))
    have a73 := step_lt a72 (hs (.eq (.elem (.static "java/lang/Integer" "DigitOnes" "[B") (.int 72)) (.int 50)) (List.mem_of_getElem? (i := 86) (by decide +kernel)))
    have a74 := step_lt a73 (hs (.eq (.elem (.static "java/lang/Integer" "DigitOnes" "[B") (.int 73)) (.int 51)) (List.mem_of_getElem? (i := 87) (by decide +kernel)))
    have a75 := step_lt a74 (hs (.eq (.elem (.static "java/lang/Integer" "DigitOnes" "[B") (.int 74)) (.int 52)) (List.mem_of_getElem? (i := 88) (by decide +kernel)))
    have a76 := step_lt a75 (hs (.eq (.elem (.static "java/lang/Integer" "DigitOnes" "[B") (.int 75)) (.int 53)) (List.mem_of_getElem? (i := 89) (by decide +kernel)))
    have a77 := step_lt a76 (hs (.eq (.elem (.static "java/lang/Integer" "DigitOnes" "[B") (.int 76)) (.int 54)) (List.mem_of_getElem? (i := 90) (by decide +kernel)))
    have a78 := step_lt a77 (hs (.eq (.elem (.static "java/lang/Integer" "DigitOnes" "[B") (.int 77)) (.int 55)) (List.mem_of_getElem? (i := 91) (by decide +kernel)))
    have a79 := step_lt a78 (hs (.eq (.elem (.static "java/lang/Integer" "DigitOnes" "[B") (.int 78)) (.int 56)) (List.mem_of_getElem? (i := 92) (by decide +kernel)))
    have a80 := step_lt a79 (hs (.eq (.elem (.static "java/lang/Integer" "DigitOnes" "[B") (.int 79)) (.int 57)) (List.mem_of_getElem? (i := 93) (by decide +kernel)))
    have a81 := step_lt a80 (hs (.eq (.elem (.static "java/lang/Integer" "DigitOnes" "[B") (.int 80)) (.int 48)) (List.mem_of_getElem? (i := 94) (by decide +kernel)))
    have a82 := step_lt a81 (hs (.eq (.elem (.static "java/lang/Integer" "DigitOnes" "[B") (.int 81)) (.int 49)) (List.mem_of_getElem? (i := 95) (by decide +kernel)))
    have a83 := step_lt a82 (hs (.eq (.elem (.static "java/lang/Integer" "DigitOnes" "[B") (.int 82)) (.int 50)) (List.mem_of_getElem? (i := 96) (by decide +kernel)))
    have a84 := step_lt a83 (hs (.eq (.elem (.static "java/lang/Integer" "DigitOnes" "[B") (.int 83)) (.int 51)) (List.mem_of_getElem? (i := 97) (by decide +kernel)))
    have a85 := step_lt a84 (hs (.eq (.elem (.static "java/lang/Integer" "DigitOnes" "[B") (.int 84)) (.int 52)) (List.mem_of_getElem? (i := 98) (by decide +kernel)))
    have a86 := step_lt a85 (hs (.eq (.elem (.static "java/lang/Integer" "DigitOnes" "[B") (.int 85)) (.int 53)) (List.mem_of_getElem? (i := 99) (by decide +kernel)))
    have a87 := step_lt a86 (hs (.eq (.elem (.static "java/lang/Integer" "DigitOnes" "[B") (.int 86)) (.int 54)) (List.mem_of_getElem? (i := 100) (by decide +kernel)))
    have a88 := step_lt a87 (hs (.eq (.elem (.static "java/lang/Integer" "DigitOnes" "[B") (.int 87)) (.int 55)) (List.mem_of_getElem? (i := 101) (by decide +kernel)))
    have a89 := step_lt a88 (hs (.eq (.elem (.static "java/lang/Integer" "DigitOnes" "[B") (.int 88)) (.int 56)) (List.mem_of_getElem? (i := 102) (by decide +kernel)))
    have a90 := step_lt a89 (hs (.eq (.elem (.static "java/lang/Integer" "DigitOnes" "[B") (.int 89)) (.int 57)) (List.mem_of_getElem? (i := 103) (by decide +kernel)))
    have a91 := step_lt a90 (hs (.eq (.elem (.static "java/lang/Integer" "DigitOnes" "[B") (.int 90)) (.int 48)) (List.mem_of_getElem? (i := 104) (by decide +kernel)))
    have a92 := step_lt a91 (hs (.eq (.elem (.static "java/lang/Integer" "DigitOnes" "[B") (.int 91)) (.int 49)) (List.mem_of_getElem? (i := 105) (by decide +kernel)))
    have a93 := step_lt a92 (hs (.eq (.elem (.static "java/lang/Integer" "DigitOnes" "[B") (.int 92)) (.int 50)) (List.mem_of_getElem? (i := 106) (by decide +kernel)))
    have a94 := step_lt a93 (hs (.eq (.elem (.static "java/lang/Integer" "DigitOnes" "[B") (.int 93)) (.int 51)) (List.mem_of_getElem? (i := 107) (by decide +kernel)))
    have a95 := step_lt a94 (hs (.eq (.elem (.static "java/lang/Integer" "DigitOnes" "[B") (.int 94)) (.int 52)) (List.mem_of_getElem? (i := 108) (by decide +kernel)))
    have a96 := step_lt a95 (hs (.eq (.elem (.static "java/lang/Integer" "DigitOnes" "[B") (.int 95)) (.int 53)) (List.mem_of_getElem? (i := 109) (by decide +kernel)))
    have a97 := step_lt a96 (hs (.eq (.elem (.static "java/lang/Integer" "DigitOnes" "[B") (.int 96)) (.int 54)) (List.mem_of_getElem? (i := 110) (by decide +kernel)))
    have a98 := step_lt a97 (hs (.eq (.elem (.static "java/lang/Integer" "DigitOnes" "[B") (.int 97)) (.int 55)) (List.mem_of_getElem? (i := 111) (by decide +kernel)))
    have a99 := step_lt a98 (hs (.eq (.elem (.static "java/lang/Integer" "DigitOnes" "[B") (.int 98)) (.int 56)) (List.mem_of_getElem? (i := 112) (by decide +kernel)))
    have a100 := step_lt a99 (hs (.eq (.elem (.static "java/lang/Integer" "DigitOnes" "[B") (.int 99)) (.int 57)) (List.mem_of_getElem? (i := 113) (by decide +kernel)))
    exact law_tab (hts _ (List.mem_of_getElem? (i := 1277) (by decide +kernel))) (hts _ (tbl_of wi_java_lang_Integer rfl)) (hs _ (by decide +kernel)) (law_eq (hs (.eq (.length (.static "java/lang/Integer" "DigitOnes" "[B")) (.int (nI 100))) (by decide +kernel))) (fun j hj => law_eq (a100 j hj)) hA
  · have a0 : ∀ j : Nat, j < 0 → (Cond.eq (.elem (.static "java/lang/Integer" "DigitTens" "[B") (.int (nI j))) (.int (j_tens j))).before #[Value.ref b] s = true := fun j hj => absurd hj (Nat.not_lt_zero j)
    have a1 := step_lt a0 (hs (.eq (.elem (.static "java/lang/Integer" "DigitTens" "[B") (.int 0)) (.int 48)) (List.mem_of_getElem? (i := 117) (by decide +kernel)))
    have a2 := step_lt a1 (hs (.eq (.elem (.static "java/lang/Integer" "DigitTens" "[B") (.int 1)) (.int 48)) (List.mem_of_getElem? (i := 118) (by decide +kernel)))
    have a3 := step_lt a2 (hs (.eq (.elem (.static "java/lang/Integer" "DigitTens" "[B") (.int 2)) (.int 48)) (List.mem_of_getElem? (i := 119) (by decide +kernel)))
    have a4 := step_lt a3 (hs (.eq (.elem (.static "java/lang/Integer" "DigitTens" "[B") (.int 3)) (.int 48)) (List.mem_of_getElem? (i := 120) (by decide +kernel)))
    have a5 := step_lt a4 (hs (.eq (.elem (.static "java/lang/Integer" "DigitTens" "[B") (.int 4)) (.int 48)) (List.mem_of_getElem? (i := 121) (by decide +kernel)))
    have a6 := step_lt a5 (hs (.eq (.elem (.static "java/lang/Integer" "DigitTens" "[B") (.int 5)) (.int 48)) (List.mem_of_getElem? (i := 122) (by decide +kernel)))
    have a7 := step_lt a6 (hs (.eq (.elem (.static "java/lang/Integer" "DigitTens" "[B") (.int 6)) (.int 48)) (List.mem_of_getElem? (i := 123) (by decide +kernel)))
    have a8 := step_lt a7 (hs (.eq (.elem (.static "java/lang/Integer" "DigitTens" "[B") (.int 7)) (.int 48)) (List.mem_of_getElem? (i := 124) (by decide +kernel)))
    have a9 := step_lt a8 (hs (.eq (.elem (.static "java/lang/Integer" "DigitTens" "[B") (.int 8)) (.int 48)) (List.mem_of_getElem? (i := 125) (by decide +kernel)))
    have a10 := step_lt a9 (hs (.eq (.elem (.static "java/lang/Integer" "DigitTens" "[B") (.int 9)) (.int 48)) (List.mem_of_getElem? (i := 126) (by decide +kernel)))
    have a11 := step_lt a10 (hs (.eq (.elem (.static "java/lang/Integer" "DigitTens" "[B") (.int 10)) (.int 49)) (List.mem_of_getElem? (i := 127) (by decide +kernel)))
    have a12 := step_lt a11 (hs (.eq (.elem (.static "java/lang/Integer" "DigitTens" "[B") (.int 11)) (.int 49)) (List.mem_of_getElem? (i := 128) (by decide +kernel)))
    have a13 := step_lt a12 (hs (.eq (.elem (.static "java/lang/Integer" "DigitTens" "[B") (.int 12)) (.int 49)) (List.mem_of_getElem? (i := 129) (by decide +kernel)))
    have a14 := step_lt a13 (hs (.eq (.elem (.static "java/lang/Integer" "DigitTens" "[B") (.int 13)) (.int 49)) (List.mem_of_getElem? (i := 130) (by decide +kernel)))
    have a15 := step_lt a14 (hs (.eq (.elem (.static "java/lang/Integer" "DigitTens" "[B") (.int 14)) (.int 49)) (List.mem_of_getElem? (i := 131) (by decide +kernel)))
    have a16 := step_lt a15 (hs (.eq (.elem (.static "java/lang/Integer" "DigitTens" "[B") (.int 15)) (.int 49)) (List.mem_of_getElem? (i := 132) (by decide +kernel)))
    have a17 := step_lt a16 (hs (.eq (.elem (.static "java/lang/Integer" "DigitTens" "[B") (.int 16)) (.int 49)) (List.mem_of_getElem? (i := 133) (by decide +kernel)))
    have a18 := step_lt a17 (hs (.eq (.elem (.static "java/lang/Integer" "DigitTens" "[B") (.int 17)) (.int 49)) (List.mem_of_getElem? (i := 134) (by decide +kernel)))
    have a19 := step_lt a18 (hs (.eq (.elem (.static "java/lang/Integer" "DigitTens" "[B") (.int 18)) (.int 49)) (List.mem_of_getElem? (i := 135) (by decide +kernel)))
    have a20 := step_lt a19 (hs (.eq (.elem (.static "java/lang/Integer" "DigitTens" "[B") (.int 19)) (.int 49)) (List.mem_of_getElem? (i := 136) (by decide +kernel)))
    have a21 := step_lt a20 (hs (.eq (.elem (.static "java/lang/Integer" "DigitTens" "[B") (.int 20)) (.int 50)) (List.mem_of_getElem? (i := 137) (by decide +kernel)))
    have a22 := step_lt a21 (hs (.eq (.elem (.static "java/lang/Integer" "DigitTens" "[B") (.int 21)) (.int 50)) (List.mem_of_getElem? (i := 138) (by decide +kernel)))
    have a23 := step_lt a22 (hs (.eq (.elem (.static "java/lang/Integer" "DigitTens" "[B") (.int 22)) (.int 50)) (List.mem_of_getElem? (i := 139) (by decide +kernel)))
    have a24 := step_lt a23 (hs (.eq (.elem (.static "java/lang/Integer" "DigitTens" "[B") (.int 23)) (.int 50)) (List.mem_of_getElem? (i := 140) (by decide +kernel)))
    have a25 := step_lt a24 (hs (.eq (.elem (.static "java/lang/Integer" "DigitTens" "[B") (.int 24)) (.int 50)) (List.mem_of_getElem? (i := 141) (by decide +kernel)))
    have a26 := step_lt a25 (hs (.eq (.elem (.static "java/lang/Integer" "DigitTens" "[B") (.int 25)) (.int 50)) (List.mem_of_getElem? (i := 142) (by decide +kernel)))
    have a27 := step_lt a26 (hs (.eq (.elem (.static "java/lang/Integer" "DigitTens" "[B") (.int 26)) (.int 50)) (List.mem_of_getElem? (i := 143) (by decide +kernel)))
    have a28 := step_lt a27 (hs (.eq (.elem (.static "java/lang/Integer" "DigitTens" "[B") (.int 27)) (.int 50)) (List.mem_of_getElem? (i := 144) (by decide +kernel)))
    have a29 := step_lt a28 (hs (.eq (.elem (.static "java/lang/Integer" "DigitTens" "[B") (.int 28)) (.int 50)) (List.mem_of_getElem? (i := 145) (by decide +kernel)))
    have a30 := step_lt a29 (hs (.eq (.elem (.static "java/lang/Integer" "DigitTens" "[B") (.int 29)) (.int 50)) (List.mem_of_getElem? (i := 146) (by decide +kernel)))
    have a31 := step_lt a30 (hs (.eq (.elem (.static "java/lang/Integer" "DigitTens" "[B") (.int 30)) (.int 51)) (List.mem_of_getElem? (i := 147) (by decide +kernel)))
    have a32 := step_lt a31 (hs (.eq (.elem (.static "java/lang/Integer" "DigitTens" "[B") (.int 31)) (.int 51)) (List.mem_of_getElem? (i := 148) (by decide +kernel)))
    have a33 := step_lt a32 (hs (.eq (.elem (.static "java/lang/Integer" "DigitTens" "[B") (.int 32)) (.int 51)) (List.mem_of_getElem? (i := 149) (by decide +kernel)))
    have a34 := step_lt a33 (hs (.eq (.elem (.static "java/lang/Integer" "DigitTens" "[B") (.int 33)) (.int 51)) (List.mem_of_getElem? (i := 150) (by decide +kernel)))
    have a35 := step_lt a34 (hs (.eq (.elem (.static "java/lang/Integer" "DigitTens" "[B") (.int 34)) (.int 51)) (List.mem_of_getElem? (i := 151) (by decide +kernel)))
    have a36 := step_lt a35 (hs (.eq (.elem (.static "java/lang/Integer" "DigitTens" "[B") (.int 35)) (.int 51)) (List.mem_of_getElem? (i := 152) (by decide +kernel)))
    have a37 := step_lt a36 (hs (.eq (.elem (.static "java/lang/Integer" "DigitTens" "[B") (.int 36)) (.int 51)) (List.mem_of_getElem? (i := 153) (by decide +kernel)))
    have a38 := step_lt a37 (hs (.eq (.elem (.static "java/lang/Integer" "DigitTens" "[B") (.int 37)) (.int 51)) (List.mem_of_getElem? (i := 154) (by decide +kernel)))
    have a39 := step_lt a38 (hs (.eq (.elem (.static "java/lang/Integer" "DigitTens" "[B") (.int 38)) (.int 51)) (List.mem_of_getElem? (i := 155) (by decide +kernel)))
    have a40 := step_lt a39 (hs (.eq (.elem (.static "java/lang/Integer" "DigitTens" "[B") (.int 39)) (.int 51)) (List.mem_of_getElem? (i := 156) (by decide +kernel)))
    have a41 := step_lt a40 (hs (.eq (.elem (.static "java/lang/Integer" "DigitTens" "[B") (.int 40)) (.int 52)) (List.mem_of_getElem? (i := 157) (by decide +kernel)))
    have a42 := step_lt a41 (hs (.eq (.elem (.static "java/lang/Integer" "DigitTens" "[B") (.int 41)) (.int 52)) (List.mem_of_getElem? (i := 158) (by decide +kernel)))
    have a43 := step_lt a42 (hs (.eq (.elem (.static "java/lang/Integer" "DigitTens" "[B") (.int 42)) (.int 52)) (List.mem_of_getElem? (i := 159) (by decide +kernel)))
    have a44 := step_lt a43 (hs (.eq (.elem (.static "java/lang/Integer" "DigitTens" "[B") (.int 43)) (.int 52)) (List.mem_of_getElem? (i := 160) (by decide +kernel)))
    have a45 := step_lt a44 (hs (.eq (.elem (.static "java/lang/Integer" "DigitTens" "[B") (.int 44)) (.int 52)) (List.mem_of_getElem? (i := 161) (by decide +kernel)))
    have a46 := step_lt a45 (hs (.eq (.elem (.static "java/lang/Integer" "DigitTens" "[B") (.int 45)) (.int 52)) (List.mem_of_getElem? (i := 162) (by decide +kernel)))
    have a47 := step_lt a46 (hs (.eq (.elem (.static "java/lang/Integer" "DigitTens" "[B") (.int 46)) (.int 52)) (List.mem_of_getElem? (i := 163) (by decide +kernel)))
    have a48 := step_lt a47 (hs (.eq (.elem (.static "java/lang/Integer" "DigitTens" "[B") (.int 47)) (.int 52)) (List.mem_of_getElem? (i := 164) (by decide +kernel)))
    have a49 := step_lt a48 (hs (.eq (.elem (.static "java/lang/Integer" "DigitTens" "[B") (.int 48)) (.int 52)) (List.mem_of_getElem? (i := 165) (by decide +kernel)))
    have a50 := step_lt a49 (hs (.eq (.elem (.static "java/lang/Integer" "DigitTens" "[B") (.int 49)) (.int 52)) (List.mem_of_getElem? (i := 166) (by decide +kernel)))
    have a51 := step_lt a50 (hs (.eq (.elem (.static "java/lang/Integer" "DigitTens" "[B") (.int 50)) (.int 53)) (List.mem_of_getElem? (i := 167) (by decide +kernel)))
    have a52 := step_lt a51 (hs (.eq (.elem (.static "java/lang/Integer" "DigitTens" "[B") (.int 51)) (.int 53)) (List.mem_of_getElem? (i := 168) (by decide +kernel)))
    have a53 := step_lt a52 (hs (.eq (.elem (.static "java/lang/Integer" "DigitTens" "[B") (.int 52)) (.int 53)) (List.mem_of_getElem? (i := 169) (by decide +kernel)))
    have a54 := step_lt a53 (hs (.eq (.elem (.static "java/lang/Integer" "DigitTens" "[B") (.int 53)) (.int 53)) (List.mem_of_getElem? (i := 170) (by decide +kernel)))
    have a55 := step_lt a54 (hs (.eq (.elem (.static "java/lang/Integer" "DigitTens" "[B") (.int 54)) (.int 53)) (List.mem_of_getElem? (i := 171) (by decide +kernel)))
    have a56 := step_lt a55 (hs (.eq (.elem (.static "java/lang/Integer" "DigitTens" "[B") (.int 55)) (.int 53)) (List.mem_of_getElem? (i := 172) (by decide +kernel)))
    have a57 := step_lt a56 (hs (.eq (.elem (.static "java/lang/Integer" "DigitTens" "[B") (.int 56)) (.int 53)) (List.mem_of_getElem? (i := 173) (by decide +kernel)))
    have a58 := step_lt a57 (hs (.eq (.elem (.static "java/lang/Integer" "DigitTens" "[B") (.int 57)) (.int 53)) (List.mem_of_getElem? (i := 174) (by decide +kernel)))
    have a59 := step_lt a58 (hs (.eq (.elem (.static "java/lang/Integer" "DigitTens" "[B") (.int 58)) (.int 53)) (List.mem_of_getElem? (i := 175) (by decide +kernel)))
    have a60 := step_lt a59 (hs (.eq (.elem (.static "java/lang/Integer" "DigitTens" "[B") (.int 59)) (.int 53)) (List.mem_of_getElem? (i := 176) (by decide +kernel)))
    have a61 := step_lt a60 (hs (.eq (.elem (.static "java/lang/Integer" "DigitTens" "[B") (.int 60)) (.int 54)) (List.mem_of_getElem? (i := 177) (by decide +kernel)))
    have a62 := step_lt a61 (hs (.eq (.elem (.static "java/lang/Integer" "DigitTens" "[B") (.int 61)) (.int 54)) (List.mem_of_getElem? (i := 178) (by decide +kernel)))
    have a63 := step_lt a62 (hs (.eq (.elem (.static "java/lang/Integer" "DigitTens" "[B") (.int 62)) (.int 54)) (List.mem_of_getElem? (i := 179) (by decide +kernel)))
    have a64 := step_lt a63 (hs (.eq (.elem (.static "java/lang/Integer" "DigitTens" "[B") (.int 63)) (.int 54)) (List.mem_of_getElem? (i := 180) (by decide +kernel)))
    have a65 := step_lt a64 (hs (.eq (.elem (.static "java/lang/Integer" "DigitTens" "[B") (.int 64)) (.int 54)) (List.mem_of_getElem? (i := 181) (by decide +kernel)))
    have a66 := step_lt a65 (hs (.eq (.elem (.static "java/lang/Integer" "DigitTens" "[B") (.int 65)) (.int 54)) (List.mem_of_getElem? (i := 182) (by decide +kernel)))
    have a67 := step_lt a66 (hs (.eq (.elem (.static "java/lang/Integer" "DigitTens" "[B") (.int 66)) (.int 54)) (List.mem_of_getElem? (i := 183) (by decide +kernel)))
    have a68 := step_lt a67 (hs (.eq (.elem (.static "java/lang/Integer" "DigitTens" "[B") (.int 67)) (.int 54)) (List.mem_of_getElem? (i := 184) (by decide +kernel)))
    have a69 := step_lt a68 (hs (.eq (.elem (.static "java/lang/Integer" "DigitTens" "[B") (.int 68)) (.int 54)) (List.mem_of_getElem? (i := 185) (by decide +kernel)))
    have a70 := step_lt a69 (hs (.eq (.elem (.static "java/lang/Integer" "DigitTens" "[B") (.int 69)) (.int 54)) (List.mem_of_getElem? (i := 186) (by decide +kernel)))
    have a71 := step_lt a70 (hs (.eq (.elem (.static "java/lang/Integer" "DigitTens" "[B") (.int 70)) (.int 55)) (List.mem_of_getElem? (i := 187) (by decide +kernel)))
    have a72 := step_lt a71 (hs (.eq (.elem (.static "java/lang/Integer" "DigitTens" "[B") (.int 71)) (.int 55)) (List.mem_of_getElem? (i := 188) (by decide +kernel)))
    have a73 := step_lt a72 (hs (.eq (.elem (.static "java/lang/Integer" "DigitTens" "[B") (.int 72)) (.int 55)) (List.mem_of_getElem? (i := 189) (by decide +kernel)))
    have a74 := step_lt a73 (hs (.eq (.elem (.static "java/lang/Integer" "DigitTens" "[B") (.int 73)) (.int 55)) (List.mem_of_getElem? (i := 190) (by decide +kernel)))
    have a75 := step_lt a74 (hs (.eq (.elem (.static "java/lang/Integer" "DigitTens" "[B") (.int 74)) (.int 55)) (List.mem_of_getElem? (i := 191) (by decide +kernel)))
    have a76 := step_lt a75 (hs (.eq (.elem (.static "java/lang/Integer" "DigitTens" "[B") (.int 75)) (.int 55)) (List.mem_of_getElem? (i := 192) (by decide +kernel)))
    have a77 := step_lt a76 (hs (.eq (.elem (.static "java/lang/Integer" "DigitTens" "[B") (.int 76)) (.int 55)) (List.mem_of_getElem? (i := 193) (by decide +kernel)))
    have a78 := step_lt a77 (hs (.eq (.elem (.static "java/lang/Integer" "DigitTens" "[B") (.int 77)) (.int 55)) (List.mem_of_getElem? (i := 194) (by decide +kernel)))
    have a79 := step_lt a78 (hs (.eq (.elem (.static "java/lang/Integer" "DigitTens" "[B") (.int 78)) (.int 55)) (List.mem_of_getElem? (i := 195) (by decide +kernel)))
    have a80 := step_lt a79 (hs (.eq (.elem (.static "java/lang/Integer" "DigitTens" "[B") (.int 79)) (.int 55)) (List.mem_of_getElem? (i := 196) (by decide +kernel)))
    have a81 := step_lt a80 (hs (.eq (.elem (.static "java/lang/Integer" "DigitTens" "[B") (.int 80)) (.int 56)) (List.mem_of_getElem? (i := 197) (by decide +kernel)))
    have a82 := step_lt a81 (hs (.eq (.elem (.static "java/lang/Integer" "DigitTens" "[B") (.int 81)) (.int 56)) (List.mem_of_getElem? (i := 198) (by decide +kernel)))
    have a83 := step_lt a82 (hs (.eq (.elem (.static "java/lang/Integer" "DigitTens" "[B") (.int 82)) (.int 56)) (List.mem_of_getElem? (i := 199) (by decide +kernel)))
    have a84 := step_lt a83 (hs (.eq (.elem (.static "java/lang/Integer" "DigitTens" "[B") (.int 83)) (.int 56)) (List.mem_of_getElem? (i := 200) (by decide +kernel)))
    have a85 := step_lt a84 (hs (.eq (.elem (.static "java/lang/Integer" "DigitTens" "[B") (.int 84)) (.int 56)) (List.mem_of_getElem? (i := 201) (by decide +kernel)))
    have a86 := step_lt a85 (hs (.eq (.elem (.static "java/lang/Integer" "DigitTens" "[B") (.int 85)) (.int 56)) (List.mem_of_getElem? (i := 202) (by decide +kernel)))
    have a87 := step_lt a86 (hs (.eq (.elem (.static "java/lang/Integer" "DigitTens" "[B") (.int 86)) (.int 56)) (List.mem_of_getElem? (i := 203) (by decide +kernel)))
    have a88 := step_lt a87 (hs (.eq (.elem (.static "java/lang/Integer" "DigitTens" "[B") (.int 87)) (.int 56)) (List.mem_of_getElem? (i := 204) (by decide +kernel)))
    have a89 := step_lt a88 (hs (.eq (.elem (.static "java/lang/Integer" "DigitTens" "[B") (.int 88)) (.int 56)) (List.mem_of_getElem? (i := 205) (by decide +kernel)))
    have a90 := step_lt a89 (hs (.eq (.elem (.static "java/lang/Integer" "DigitTens" "[B") (.int 89)) (.int 56)) (List.mem_of_getElem? (i := 206) (by decide +kernel)))
    have a91 := step_lt a90 (hs (.eq (.elem (.static "java/lang/Integer" "DigitTens" "[B") (.int 90)) (.int 57)) (List.mem_of_getElem? (i := 207) (by decide +kernel)))
    have a92 := step_lt a91 (hs (.eq (.elem (.static "java/lang/Integer" "DigitTens" "[B") (.int 91)) (.int 57)) (List.mem_of_getElem? (i := 208) (by decide +kernel)))
    have a93 := step_lt a92 (hs (.eq (.elem (.static "java/lang/Integer" "DigitTens" "[B") (.int 92)) (.int 57)) (List.mem_of_getElem? (i := 209) (by decide +kernel)))
    have a94 := step_lt a93 (hs (.eq (.elem (.static "java/lang/Integer" "DigitTens" "[B") (.int 93)) (.int 57)) (List.mem_of_getElem? (i := 210) (by decide +kernel)))
    have a95 := step_lt a94 (hs (.eq (.elem (.static "java/lang/Integer" "DigitTens" "[B") (.int 94)) (.int 57)) (List.mem_of_getElem? (i := 211) (by decide +kernel)))
    have a96 := step_lt a95 (hs (.eq (.elem (.static "java/lang/Integer" "DigitTens" "[B") (.int 95)) (.int 57)) (List.mem_of_getElem? (i := 212) (by decide +kernel)))
    have a97 := step_lt a96 (hs (.eq (.elem (.static "java/lang/Integer" "DigitTens" "[B") (.int 96)) (.int 57)) (List.mem_of_getElem? (i := 213) (by decide +kernel)))
    have a98 := step_lt a97 (hs (.eq (.elem (.static "java/lang/Integer" "DigitTens" "[B") (.int 97)) (.int 57)) (List.mem_of_getElem? (i := 214) (by decide +kernel)))
    have a99 := step_lt a98 (hs (.eq (.elem (.static "java/lang/Integer" "DigitTens" "[B") (.int 98)) (.int 57)) (List.mem_of_getElem? (i := 215) (by decide +kernel)))
    have a100 := step_lt a99 (hs (.eq (.elem (.static "java/lang/Integer" "DigitTens" "[B") (.int 99)) (.int 57)) (List.mem_of_getElem? (i := 216) (by decide +kernel)))
    exact law_tab (hts _ (List.mem_of_getElem? (i := 1279) (by decide +kernel))) (hts _ (tbl_of wi_java_lang_Integer rfl)) (hs _ (by decide +kernel)) (law_eq (hs (.eq (.length (.static "java/lang/Integer" "DigitTens" "[B")) (.int (nI 100))) (by decide +kernel))) (fun j hj => law_eq (a100 j hj)) hA
end
