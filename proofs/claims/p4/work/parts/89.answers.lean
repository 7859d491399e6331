/-! ===== the questions' answers are the same ===== -/
theorem add4 {F a G b : Int32} : (F + a) + (G + b) = (F + G) + (a + b) := by rw [Int32.add_assoc, Int32.add_assoc, ← Int32.add_assoc a, Int32.add_comm a G, Int32.add_assoc G]
theorem jsum_lin {f g h : Nat → Int32} {w z : Int32} : ∀ n, (∀ m, m < n → f m * w + g m * z = h m) → jsum f n * w + jsum g n * z = jsum h n
  | 0, _ => by rw [jsum, jsum, jsum, Int32.zero_mul, Int32.zero_mul, Int32.add_zero]
  | n + 1, hh => by
    rw [jsum, jsum, jsum, ← jsum_lin n (fun m hm => hh m (by omega)), ← hh n (by omega), Int32.add_mul, Int32.add_mul]
    exact add4
theorem fV_lin {w z x y e : Int32} : fV w z 2 x y e * w + fV w z 3 x y e * z = fV w z 1 x y e := by
  show jb (¬ x ≤ y) * w + jb (x = y) * z = if ¬ x ≤ y then w else if x = y then z else 0
  by_cases c : ¬ x ≤ y
  · have c2 : ¬ x = y := fun q => c (by rw [q]; exact Int32.le_refl y)
    rw [if_pos c, jb_t c, jb_f c2, Int32.one_mul, Int32.zero_mul, Int32.add_zero]
  · by_cases c2 : x = y
    · rw [if_neg c, if_pos c2, jb_f c, jb_t c2, Int32.zero_mul, Int32.one_mul, Int32.zero_add]
    · rw [if_neg c, if_neg c2, jb_f c, jb_f c2, Int32.zero_mul, Int32.zero_mul, Int32.add_zero]
theorem pa_sum {t : Nat} {dr : Bool} {A B : MM} (hL : rL t dr (lgC A 1) (B 95)) {q : Nat} (hq : q < 8) : gH B (nn t dr) (nI q) 2 * A 1 4 + gH B (nn t dr) (nI q) 3 * A 1 5 = gH B (nn t dr) (nI q) 1 := by
  have g4 : A 1 4 = B 95 3 := by
    obtain ⟨z, -, z1, z2⟩ := hL.2.2.2.2.2.2.2.2.2.1
    exact (show A 1 4 = nI z from z1).trans z2.symm
  have g5 : A 1 5 = B 95 4 := by
    obtain ⟨z, -, z1, z2⟩ := hL.2.2.2.2.2.2.2.2.2.2.1
    exact (show A 1 5 = nI z from z1).trans z2.symm
  rw [g4, g5]
  refine jsum_lin _ (fun m hm => ?_)
  cases dr with
  | false => exact absurd hm (Nat.not_lt_zero m)
  | true =>
    have ht := hL.1
    obtain ⟨h, a, h1, h2, h3, -, -, h6, h7⟩ := home_r hL hm
    have z0 : ∀ w z : Int32, (0 : Int32) * w + 0 * z = 0 := fun w z => by rw [Int32.zero_mul, Int32.zero_mul, Int32.add_zero]
    by_cases e : q = h
    · subst e
      rw [has_h h6 h7 (by omega), has_h h6 h7 (by omega), has_h h6 h7 (by omega)]
      by_cases p : ¬ jof B m 4 = 1
      · rw [if_pos p, if_pos p, if_pos p]; exact z0 _ _
      · rw [if_neg p, if_neg p, if_neg p]; exact fV_lin
    · by_cases e2 : q = a
      · subst e2
        rw [has_a h6 h7 (by omega) (by omega) h3, has_a h6 h7 (by omega) (by omega) h3, has_a h6 h7 (by omega) (by omega) h3]
        by_cases p : ¬ jof B m 4 = 1
        · rw [if_pos p, if_pos p, if_pos p]; exact z0 _ _
        · rw [if_neg p, if_neg p, if_neg p]; exact fV_lin
      · rw [has_0 h6 h7 (by omega) (by omega) hq e e2, has_0 h6 h7 (by omega) (by omega) hq e e2, has_0 h6 h7 (by omega) (by omega) hq e e2]; exact z0 _ _
theorem pw_r {t : Nat} {dr : Bool} {A B : MM} (hL : rL t dr (lgC A 1) (B 95)) : A 1 4 = B 95 3 := by
  obtain ⟨z, -, z1, z2⟩ := hL.2.2.2.2.2.2.2.2.2.1
  exact (show A 1 4 = nI z from z1).trans z2.symm
theorem R_pointsAgain {b : SBt} {Y : OUt} {M : MM} (I : Inv b M) (u : Int32) : Step b Y M yL_pointsAgain cL_pointsAgain 4 [(0, 9, 12, 45)] [.ref 0, .int u, .ref 102] yX6_pointsAgain cX6_pointsAgain 2 (some .int) [.ref 94, .int u] cmpI := by
  have hb := I.hb
  obtain ⟨t, dr, hL, hF⟩ := Inv_now I
  have ht := hL.1
  have hn := nn_le (dr := dr) ht
  have hm := jmc_r hL hF
  have hw := jwc_r hL hF
  have hz14 := zz_le (dr := dr) ht
  have h10 : M 1 0 = nI t := hL.2.1
  have h950 : M 95 0 = nI t := hL.2.2.1
  have h951 : M 95 1 = nI (zz t dr) := hL.2.2.2.2.2.2.1
  have h959 : M 95 9 = nI (nn t dr) := hL.2.2.2.2.2.2.2.1
  have hLc : rL t dr (lgC M 1) (jm (jcount M (nn t dr)) 94 19 0 95) := rL_cells hL (fun _ _ _ _ => rfl) (fun c _ => by rw [jm_n (by omega)]; exact jcount_n (by omega))
  have hL0 : rL t dr (lgC M 1) (jm M 94 19 0 95) := rL_cells hL (fun _ _ _ _ => rfl) (fun c _ => jm_n (by omega))
  have hta : ∀ (k q : Nat), 1 ≤ k → k ≤ 8 → q < 8 → jat 8 (jcount M (nn t dr) (75 + k)) (nI q) = gH (jm (jcount M (nn t dr)) 94 19 0) (nn t dr) (nI q) k := fun k q h1 h2 h3 => by rw [jat_nI h3 (by decide)]; exact tally_r hLc hF h1 h2 h3
  by_cases hT : ∃ q, q < t ∧ u = nI q
  · have hT1 := (in_q1 (x := u) (n := t) (by omega)).mpr hT
    obtain ⟨q, hq, rfl⟩ := hT
    rw [← h10] at hT1
    exact Step_q I (H_pointsAgain_r hb (c_pointsAgain (d := 14) (Y := Y) hb hT1 hn hm)) (cx_pointsAgain (d := 16) hb (by rw [jcount_n (by omega), h950]; exact (in_q2 (by omega)).mpr ⟨q, hq, rfl⟩) hn (by rw [jcount_n (by omega)]; exact h959)) (by decide) (by decide) qE_c tE_1 (cmp_eq jm_s (by rw [hta 2 q (by omega) (by omega) (by omega), hta 3 q (by omega) (by omega) (by omega), jcount_n (by omega), jcount_n (by omega)]; exact pa_sum hLc (by omega)))
  · have hT1 : ¬ (¬ u < 0 ∧ ¬ M 1 0 ≤ u) := by rw [h10]; exact fun z => hT ((in_q1 (by omega)).mp z)
    exact Step_q I (H_pointsAgain_t1 (d := 19) hb (c_pointsAgain_nt (d := 18) (Y := Y) hb hT1)) (cx_pointsAgain_nt (d := 18) hb (by rw [h950]; exact fun z => hT ((in_q2 (by omega)).mp z))) (by decide) (by decide) qE_0 tE_2 (cmp_no jm_s (by decide))
theorem R_most {b : SBt} {Y : OUt} {M : MM} (I : Inv b M) (u : Int32) : Step b Y M yL_most cL_most 4 [(0, 9, 12, 45)] [.ref 0, .int u, .ref 102] yX6_most cX6_most 2 (some .int) [.ref 94, .int u] cmpI := by
  have hb := I.hb
  obtain ⟨t, dr, hL, hF⟩ := Inv_now I
  have ht := hL.1
  have hn := nn_le (dr := dr) ht
  have hm := jmc_r hL hF
  have hw := jwc_r hL hF
  have hz14 := zz_le (dr := dr) ht
  have h10 : M 1 0 = nI t := hL.2.1
  have h950 : M 95 0 = nI t := hL.2.2.1
  have h951 : M 95 1 = nI (zz t dr) := hL.2.2.2.2.2.2.1
  have h959 : M 95 9 = nI (nn t dr) := hL.2.2.2.2.2.2.2.1
  have hLc : rL t dr (lgC M 1) (jm (jcount M (nn t dr)) 94 19 0 95) := rL_cells hL (fun _ _ _ _ => rfl) (fun c _ => by rw [jm_n (by omega)]; exact jcount_n (by omega))
  have hL0 : rL t dr (lgC M 1) (jm M 94 19 0 95) := rL_cells hL (fun _ _ _ _ => rfl) (fun c _ => jm_n (by omega))
  have hta : ∀ (k q : Nat), 1 ≤ k → k ≤ 8 → q < 8 → jat 8 (jcount M (nn t dr) (75 + k)) (nI q) = gH (jm (jcount M (nn t dr)) 94 19 0) (nn t dr) (nI q) k := fun k q h1 h2 h3 => by rw [jat_nI h3 (by decide)]; exact tally_r hLc hF h1 h2 h3
  by_cases hT : ∃ q, q < t ∧ u = nI q
  · have hT1 := (in_q1 (x := u) (n := t) (by omega)).mpr hT
    obtain ⟨q, hq, rfl⟩ := hT
    rw [← h10] at hT1
    exact Step_q I (H_most_r hb (c_most (d := 14) (Y := Y) hb hT1 hn hm)) (cx_most (d := 15) hb (by rw [jcount_n (by omega), h950]; exact (in_q2 (by omega)).mpr ⟨q, hq, rfl⟩) hn (by rw [jcount_n (by omega)]; exact h959)) (by decide) (by decide) qE_c tE_1 (cmp_eq jm_s (by rw [hta 1 q (by omega) (by omega) (by omega), hta 8 q (by omega) (by omega) (by omega), jcount_n (by omega)]; unfold gMost; rw [← pw_r hLc]))
  · have hT1 : ¬ (¬ u < 0 ∧ ¬ M 1 0 ≤ u) := by rw [h10]; exact fun z => hT ((in_q1 (by omega)).mp z)
    exact Step_q I (H_most_t1 (d := 19) hb (c_most_nt (d := 18) (Y := Y) hb hT1)) (cx_most_nt (d := 18) hb (by rw [h950]; exact fun z => hT ((in_q2 (by omega)).mp z))) (by decide) (by decide) qE_0 tE_2 (cmp_no jm_s (by decide))
theorem tied_r {t n : Nat} {M B : MM} {q : Nat} (ht : t ≤ 8) (hq : q < 8) (h : ∀ i, i < 8 → jat 8 (jcount M n 76) (nI i) = gH B n (nI i) 1) : ∀ w, w ≤ t → jtied (jcount M n) (nI q) w = gTied B n (nI q) w
  | 0, _ => rfl
  | w + 1, hw => by
    rw [jtied, gTied, tied_r ht hq h w (by omega), h w (by omega), h q hq]
theorem R_tied {b : SBt} {Y : OUt} {M : MM} (I : Inv b M) (u : Int32) : Step b Y M yL_tied cL_tied 4 [(0, 9, 12, 45)] [.ref 0, .int u, .ref 102] yX6_tied cX6_tied 2 (some .int) [.ref 94, .int u] cmpI := by
  have hb := I.hb
  obtain ⟨t, dr, hL, hF⟩ := Inv_now I
  have ht := hL.1
  have hn := nn_le (dr := dr) ht
  have hm := jmc_r hL hF
  have hw := jwc_r hL hF
  have hz14 := zz_le (dr := dr) ht
  have h10 : M 1 0 = nI t := hL.2.1
  have h950 : M 95 0 = nI t := hL.2.2.1
  have h951 : M 95 1 = nI (zz t dr) := hL.2.2.2.2.2.2.1
  have h959 : M 95 9 = nI (nn t dr) := hL.2.2.2.2.2.2.2.1
  have hLc : rL t dr (lgC M 1) (jm (jcount M (nn t dr)) 94 19 0 95) := rL_cells hL (fun _ _ _ _ => rfl) (fun c _ => by rw [jm_n (by omega)]; exact jcount_n (by omega))
  have hL0 : rL t dr (lgC M 1) (jm M 94 19 0 95) := rL_cells hL (fun _ _ _ _ => rfl) (fun c _ => jm_n (by omega))
  have hta : ∀ (k q : Nat), 1 ≤ k → k ≤ 8 → q < 8 → jat 8 (jcount M (nn t dr) (75 + k)) (nI q) = gH (jm (jcount M (nn t dr)) 94 19 0) (nn t dr) (nI q) k := fun k q h1 h2 h3 => by rw [jat_nI h3 (by decide)]; exact tally_r hLc hF h1 h2 h3
  by_cases hT : ∃ q, q < t ∧ u = nI q
  · have hT1 := (in_q1 (x := u) (n := t) (by omega)).mpr hT
    obtain ⟨q, hq, rfl⟩ := hT
    rw [← h10] at hT1
    exact Step_q I (H_tied_r hb (c_tied (d := 14) (Y := Y) hb hT1 hn hm ht h10)) (cx_tied (d := 15) hb (by rw [jcount_n (by omega), h950]; exact (in_q2 (by omega)).mpr ⟨q, hq, rfl⟩) hn (by rw [jcount_n (by omega)]; exact h959) ht (by rw [jcount_n (by omega)]; exact h950)) (by decide) (by decide) qE_c tE_1 (cmp_eq jm_s (tied_r ht (by omega) (fun i hi => hta 1 i (by omega) (by omega) hi) t (Nat.le_refl _)))
  · have hT1 : ¬ (¬ u < 0 ∧ ¬ M 1 0 ≤ u) := by rw [h10]; exact fun z => hT ((in_q1 (by omega)).mp z)
    exact Step_q I (H_tied_t1 (d := 19) hb (c_tied_nt (d := 18) (Y := Y) hb hT1)) (cx_tied_nt (d := 18) hb (by rw [h950]; exact fun z => hT ((in_q2 (by omega)).mp z))) (by decide) (by decide) qE_0 tE_2 (cmp_no jm_s (by decide))
theorem run_r {t : Nat} {M B : MM} (hL : rL t true (lgC M 1) (B 95)) (hF : rFix t M) (u : Int32) : ∀ m, m ≤ nT t → jrun M u m = gRun B u m
  | 0, _ => rfl
  | m + 1, hm => by
    obtain ⟨m1, m2⟩ := mt_q hL (show m < nT t by omega)
    obtain ⟨f1, f2, -⟩ := hF.2.2.1 m (by omega)
    have hh := mt_of.mp (hL.2.2.2.2.2.2.2.2.2.2.2.2 m (show m < nn t true from hm))
    rw [jrun, gRun, run_r hL hF u m (by omega)]
    by_cases c : M 5 m = -1
    · rw [if_pos c, if_pos (fun z => m1.mpr z c)]
    · rw [if_neg c, if_neg (show ¬ ¬ jof B m 4 = 1 from fun z => z (m1.mp c)), show M 70 m = jof B m 0 from f1.trans hh.1.symm, show M 71 m = jof B m 1 from f2.trans hh.2.1.symm]
      rcases hh.2.2.2.2.2 with ⟨p, g, g2, p1, p2, p3, p4, p5, p6⟩ | ⟨p, p3, p4⟩
      · rw [show M 5 m = jof B m 6 from p3.trans p4.symm, show M 6 m = jof B m 7 from p5.trans p6.symm]
      · exact absurd p3 c
theorem R_run {b : SBt} {Y : OUt} {M : MM} (I : Inv b M) (u : Int32) : Step b Y M yL_run cL_run 4 [(0, 9, 12, 45)] [.ref 0, .int u, .ref 102] yX6_run cX6_run 8 (some .int) [.ref 94, .int u] cmpI := by
  have hb := I.hb
  obtain ⟨t, dr, hL, hF⟩ := Inv_now I
  have ht := hL.1
  have hn := nn_le (dr := dr) ht
  have hm := jmc_r hL hF
  have hw := jwc_r hL hF
  have hz14 := zz_le (dr := dr) ht
  have h10 : M 1 0 = nI t := hL.2.1
  have h950 : M 95 0 = nI t := hL.2.2.1
  have h951 : M 95 1 = nI (zz t dr) := hL.2.2.2.2.2.2.1
  have h959 : M 95 9 = nI (nn t dr) := hL.2.2.2.2.2.2.2.1
  have hLc : rL t dr (lgC M 1) (jm (jcount M (nn t dr)) 94 19 0 95) := rL_cells hL (fun _ _ _ _ => rfl) (fun c _ => by rw [jm_n (by omega)]; exact jcount_n (by omega))
  have hL0 : rL t dr (lgC M 1) (jm M 94 19 0 95) := rL_cells hL (fun _ _ _ _ => rfl) (fun c _ => jm_n (by omega))
  have hta : ∀ (k q : Nat), 1 ≤ k → k ≤ 8 → q < 8 → jat 8 (jcount M (nn t dr) (75 + k)) (nI q) = gH (jm (jcount M (nn t dr)) 94 19 0) (nn t dr) (nI q) k := fun k q h1 h2 h3 => by rw [jat_nI h3 (by decide)]; exact tally_r hLc hF h1 h2 h3
  by_cases hT : ∃ q, q < t ∧ u = nI q
  · have hT1 := (in_q1 (x := u) (n := t) (by omega)).mpr hT
    obtain ⟨q, hq, rfl⟩ := hT
    rw [← h10] at hT1
    exact Step_q I (H_run_r hb (c_run (d := 16) (Y := Y) hb hT1 hn hm)) (cx_run (d := 17) hb (by rw [h950]; exact (in_q2 (by omega)).mpr ⟨q, hq, rfl⟩) hn h959) (by decide) (by decide) qE_0 tE_1 (cmp_eq jm_s (by
      cases dr with
      | false => rfl
      | true => exact congrArg Prod.fst (run_r hL0 (hF rfl) (nI q) (nT t) (Nat.le_refl _))))
  · have hT1 : ¬ (¬ u < 0 ∧ ¬ M 1 0 ≤ u) := by rw [h10]; exact fun z => hT ((in_q1 (by omega)).mp z)
    exact Step_q I (H_run_t1 (d := 19) hb (c_run_nt (d := 18) (Y := Y) hb hT1)) (cx_run_nt (d := 18) hb (by rw [h950]; exact fun z => hT ((in_q2 (by omega)).mp z))) (by decide) (by decide) qE_0 tE_2 (cmp_no jm_s (by decide))
theorem R_teamOf {b : SBt} {Y : OUt} {M : MM} (I : Inv b M) (u v : Int32) : Step b Y M yL_teamOf cL_teamOf 5 [(0, 10, 13, 45), (0, 10, 17, 47)] [.ref 0, .int u, .int v, .ref 102] yX6_teamOf cX6_teamOf 3 (some .int) [.ref 94, .int u, .int v] cmpI := by
  have hb := I.hb
  obtain ⟨t, dr, hL, hF⟩ := Inv_now I
  have ht := hL.1
  have hn := nn_le (dr := dr) ht
  have hm := jmc_r hL hF
  have hw := jwc_r hL hF
  have hz14 := zz_le (dr := dr) ht
  have h10 : M 1 0 = nI t := hL.2.1
  have h950 : M 95 0 = nI t := hL.2.2.1
  have h951 : M 95 1 = nI (zz t dr) := hL.2.2.2.2.2.2.1
  have h959 : M 95 9 = nI (nn t dr) := hL.2.2.2.2.2.2.2.1
  have hLc : rL t dr (lgC M 1) (jm (jcount M (nn t dr)) 94 19 0 95) := rL_cells hL (fun _ _ _ _ => rfl) (fun c _ => by rw [jm_n (by omega)]; exact jcount_n (by omega))
  have hL0 : rL t dr (lgC M 1) (jm M 94 19 0 95) := rL_cells hL (fun _ _ _ _ => rfl) (fun c _ => jm_n (by omega))
  have hta : ∀ (k q : Nat), 1 ≤ k → k ≤ 8 → q < 8 → jat 8 (jcount M (nn t dr) (75 + k)) (nI q) = gH (jm (jcount M (nn t dr)) 94 19 0) (nn t dr) (nI q) k := fun k q h1 h2 h3 => by rw [jat_nI h3 (by decide)]; exact tally_r hLc hF h1 h2 h3
  by_cases hT : ∃ q, q < t ∧ u = nI q
  · have hT1 := (in_q1 (x := u) (n := t) (by omega)).mpr hT
    obtain ⟨q, hq, rfl⟩ := hT
    rw [← h10] at hT1
    by_cases hx : ¬ v < 0 ∧ ¬ 8 < v
    · obtain ⟨z, hz, rfl⟩ := int_rng (u := v) (n := 8) (by decide) hx.1 hx.2
      rcases (show z = 0 ∨ z = 1 ∨ z = 2 ∨ z = 3 ∨ z = 4 ∨ z = 5 ∨ z = 6 ∨ z = 7 ∨ z = 8 by omega) with rfl | rfl | rfl | rfl | rfl | rfl | rfl | rfl | rfl
      · exact Step_q I (H_teamOf_r hb (c_teamOf_k0 (d := 14) (Y := Y) hb hT1 hn hm)) (cx_teamOf_k0 (d := 16) hb ht (by rw [jcount_n (by omega)]; exact h950) hq) (by decide) (by decide) qE_c tE_1 (cmp_eq jm_s (by rw [jat_nI (by omega) (by decide), jcount_n (by omega), jm_n (by omega), jcount_n (by omega)]; exact hL.2.2.2.1 q (by omega)))
      · exact Step_q I (H_teamOf_r hb (c_teamOf_k1 (d := 14) (Y := Y) hb hT1 hn hm)) (cx_teamOf_k1 (d := 16) hb (by rw [jcount_n (by omega), h950]; exact (in_q2 (by omega)).mpr ⟨q, hq, rfl⟩) hn (by rw [jcount_n (by omega)]; exact h959)) (by decide) (by decide) qE_c tE_1 (cmp_eq jm_s (hta 1 q (by omega) (by omega) (by omega)))
      · exact Step_q I (H_teamOf_r hb (c_teamOf_k2 (d := 14) (Y := Y) hb hT1 hn hm)) (cx_teamOf_k2 (d := 16) hb (by rw [jcount_n (by omega), h950]; exact (in_q2 (by omega)).mpr ⟨q, hq, rfl⟩) hn (by rw [jcount_n (by omega)]; exact h959)) (by decide) (by decide) qE_c tE_1 (cmp_eq jm_s (hta 2 q (by omega) (by omega) (by omega)))
      · exact Step_q I (H_teamOf_r hb (c_teamOf_k3 (d := 14) (Y := Y) hb hT1 hn hm)) (cx_teamOf_k3 (d := 16) hb (by rw [jcount_n (by omega), h950]; exact (in_q2 (by omega)).mpr ⟨q, hq, rfl⟩) hn (by rw [jcount_n (by omega)]; exact h959)) (by decide) (by decide) qE_c tE_1 (cmp_eq jm_s (hta 3 q (by omega) (by omega) (by omega)))
      · exact Step_q I (H_teamOf_r hb (c_teamOf_k4 (d := 14) (Y := Y) hb hT1 hn hm)) (cx_teamOf_k4 (d := 16) hb (by rw [jcount_n (by omega), h950]; exact (in_q2 (by omega)).mpr ⟨q, hq, rfl⟩) hn (by rw [jcount_n (by omega)]; exact h959)) (by decide) (by decide) qE_c tE_1 (cmp_eq jm_s (hta 4 q (by omega) (by omega) (by omega)))
      · exact Step_q I (H_teamOf_r hb (c_teamOf_k5 (d := 14) (Y := Y) hb hT1 hn hm)) (cx_teamOf_k5 (d := 16) hb (by rw [jcount_n (by omega), h950]; exact (in_q2 (by omega)).mpr ⟨q, hq, rfl⟩) hn (by rw [jcount_n (by omega)]; exact h959)) (by decide) (by decide) qE_c tE_1 (cmp_eq jm_s (hta 5 q (by omega) (by omega) (by omega)))
      · exact Step_q I (H_teamOf_r hb (c_teamOf_k6 (d := 14) (Y := Y) hb hT1 hn hm)) (cx_teamOf_k6 (d := 16) hb (by rw [jcount_n (by omega), h950]; exact (in_q2 (by omega)).mpr ⟨q, hq, rfl⟩) hn (by rw [jcount_n (by omega)]; exact h959)) (by decide) (by decide) qE_c tE_1 (cmp_eq jm_s (hta 6 q (by omega) (by omega) (by omega)))
      · exact Step_q I (H_teamOf_r hb (c_teamOf_k7 (d := 14) (Y := Y) hb hT1 hn hm)) (cx_teamOf_k7 (d := 16) hb (by rw [jcount_n (by omega), h950]; exact (in_q2 (by omega)).mpr ⟨q, hq, rfl⟩) hn (by rw [jcount_n (by omega)]; exact h959)) (by decide) (by decide) qE_c tE_1 (cmp_eq jm_s (hta 7 q (by omega) (by omega) (by omega)))
      · exact Step_q I (H_teamOf_r hb (c_teamOf_k8 (d := 14) (Y := Y) hb hT1 hn hm)) (cx_teamOf_k8 (d := 16) hb (by rw [jcount_n (by omega), h950]; exact (in_q2 (by omega)).mpr ⟨q, hq, rfl⟩) hn (by rw [jcount_n (by omega)]; exact h959)) (by decide) (by decide) qE_c tE_1 (cmp_eq jm_s (hta 8 q (by omega) (by omega) (by omega)))
    · exact Step_q I (H_teamOf_t2 (d := 19) hb (c_teamOf_bad (d := 18) (Y := Y) hb hT1 (le_n.mpr hx))) (cx_teamOf_bad (d := 18) hb (by rw [h950]; exact (in_q2 (by omega)).mpr ⟨q, hq, rfl⟩) hx) (by decide) (by decide) qE_0 tE_2 (cmp_no jm_s (by decide))
  · have hT1 : ¬ (¬ u < 0 ∧ ¬ M 1 0 ≤ u) := by rw [h10]; exact fun z => hT ((in_q1 (by omega)).mp z)
    exact Step_q I (H_teamOf_t1 (d := 19) hb (c_teamOf_nt (d := 18) (Y := Y) hb hT1)) (cx_teamOf_nt (d := 18) hb (by rw [h950]; exact fun z => hT ((in_q2 (by omega)).mp z))) (by decide) (by decide) qE_0 tE_2 (cmp_no jm_s (by decide))
theorem R_find {b : SBt} {Y : OUt} {M : MM} (I : Inv b M) (u v : Int32) : Step b Y M yL_find cL_find 5 [(0, 10, 13, 45), (0, 10, 17, 58)] [.ref 0, .int u, .int v, .ref 102] yX6_find cX6_find 4 (some .int) [.ref 94, .int u, .int v] cmpI := by
  have hb := I.hb
  obtain ⟨t, dr, hL, hF⟩ := Inv_now I
  have ht := hL.1
  have hn := nn_le (dr := dr) ht
  have hm := jmc_r hL hF
  have hw := jwc_r hL hF
  have hz14 := zz_le (dr := dr) ht
  have h10 : M 1 0 = nI t := hL.2.1
  have h950 : M 95 0 = nI t := hL.2.2.1
  have h951 : M 95 1 = nI (zz t dr) := hL.2.2.2.2.2.2.1
  have h959 : M 95 9 = nI (nn t dr) := hL.2.2.2.2.2.2.2.1
  have hLc : rL t dr (lgC M 1) (jm (jcount M (nn t dr)) 94 19 0 95) := rL_cells hL (fun _ _ _ _ => rfl) (fun c _ => by rw [jm_n (by omega)]; exact jcount_n (by omega))
  have hL0 : rL t dr (lgC M 1) (jm M 94 19 0 95) := rL_cells hL (fun _ _ _ _ => rfl) (fun c _ => jm_n (by omega))
  have hta : ∀ (k q : Nat), 1 ≤ k → k ≤ 8 → q < 8 → jat 8 (jcount M (nn t dr) (75 + k)) (nI q) = gH (jm (jcount M (nn t dr)) 94 19 0) (nn t dr) (nI q) k := fun k q h1 h2 h3 => by rw [jat_nI h3 (by decide)]; exact tally_r hLc hF h1 h2 h3
  have e2 : ∀ x : Int32, (¬ x < 0 ∧ ¬ M 1 0 ≤ x) ↔ (¬ x < 0 ∧ ¬ M 95 0 - 1 < x) := fun x => by rw [h10, h950, in_q1 (by omega), in_q2 (by omega)]
  have ef : jfst (fBet M u v) (nn t dr) = jfst (gBet (jm M 94 19 0) u v) (nn t dr) := jfst_c fun m hm => by
    cases dr with
    | false => exact absurd hm (Nat.not_lt_zero m)
    | true =>
      obtain ⟨f1, f2, -⟩ := (hF rfl).2.2.1 m hm
      have hh := mt_of.mp (hL0.2.2.2.2.2.2.2.2.2.2.2.2 m hm)
      unfold fBet gBet
      rw [f1, f2, hh.1, hh.2.1]
  by_cases hT : (¬ u < 0 ∧ ¬ M 1 0 ≤ u) ∧ (¬ v < 0 ∧ ¬ M 1 0 ≤ v)
  · have hU := (e2 u).mp hT.1
    have hV := (e2 v).mp hT.2
    by_cases h : jfst (fBet M u v) (nn t dr) = -1
    · exact Step_q I (H_find_t2 (d := 19) hb (c_find_no (d := 17) (Y := Y) hb hT.1 hT.2 hn hm h)) (cx_find_no (d := 18) hb hU hV hn h959 (ef.symm.trans h)) (by decide) (by decide) qE_0 tE_2 (cmp_no jm_s (by decide))
    · exact Step_q I (H_find_r hb (c_find_ok (d := 17) (Y := Y) hb hT.1 hT.2 hn hm h)) (cx_find_ok (d := 18) hb hU hV hn h959 (by rw [← ef]; exact h)) (by decide) (by decide) qE_0 tE_1 (cmp_eq jm_s ef)
  · exact Step_q I (H_find_t1 (d := 19) hb (c_find_nt (d := 18) (Y := Y) hb hT)) (cx_find_nt (d := 18) hb (fun z => hT ⟨(e2 u).mpr z.1, (e2 v).mpr z.2⟩)) (by decide) (by decide) qE_0 tE_2 (cmp_no jm_s (by decide))
theorem R_meetingOf {b : SBt} {Y : OUt} {M : MM} (I : Inv b M) (x v : Int32) : Step b Y M yL_meetingOf cL_meetingOf 5 [(0, 10, 13, 45), (0, 10, 17, 47)] [.ref 0, .int x, .int v, .ref 102] yX6_meetingOf cX6_meetingOf 3 (some .int) [.ref 94, .int x, .int v] cmpI := by
  have hb := I.hb
  obtain ⟨t, dr, hL, hF⟩ := Inv_now I
  have ht := hL.1
  have hn := nn_le (dr := dr) ht
  have hm := jmc_r hL hF
  have hw := jwc_r hL hF
  have hz14 := zz_le (dr := dr) ht
  have h10 : M 1 0 = nI t := hL.2.1
  have h950 : M 95 0 = nI t := hL.2.2.1
  have h951 : M 95 1 = nI (zz t dr) := hL.2.2.2.2.2.2.1
  have h959 : M 95 9 = nI (nn t dr) := hL.2.2.2.2.2.2.2.1
  have hLc : rL t dr (lgC M 1) (jm (jcount M (nn t dr)) 94 19 0 95) := rL_cells hL (fun _ _ _ _ => rfl) (fun c _ => by rw [jm_n (by omega)]; exact jcount_n (by omega))
  have hL0 : rL t dr (lgC M 1) (jm M 94 19 0 95) := rL_cells hL (fun _ _ _ _ => rfl) (fun c _ => jm_n (by omega))
  have hta : ∀ (k q : Nat), 1 ≤ k → k ≤ 8 → q < 8 → jat 8 (jcount M (nn t dr) (75 + k)) (nI q) = gH (jm (jcount M (nn t dr)) 94 19 0) (nn t dr) (nI q) k := fun k q h1 h2 h3 => by rw [jat_nI h3 (by decide)]; exact tally_r hLc hF h1 h2 h3
  by_cases hT : ∃ q, q < nn t dr ∧ x = nI q
  · have hT1 := (in_q1 (x := x) (n := nn t dr) (by omega)).mpr hT
    obtain ⟨q, hq, rfl⟩ := hT
    rw [← hm] at hT1
    have hd : dr = true := by
      cases dr with
      | true => rfl
      | false => exact absurd hq (Nat.not_lt_zero q)
    subst hd
    have hq56 : q < 56 := Nat.lt_of_lt_of_le hq hn
    have hf := (hF rfl).2.2.1 q hq
    have hh := mt_of.mp (hL0.2.2.2.2.2.2.2.2.2.2.2.2 q hq)
    have hm2 := (mt_q hL0 hq).2
    have hg : M 5 q = (if jof (jm M 94 19 0) q 4 = 1 then jof (jm M 94 19 0) q 6 else -1) ∧ M 6 q = (if jof (jm M 94 19 0) q 4 = 1 then jof (jm M 94 19 0) q 7 else -1) := by
      rcases hh.2.2.2.2.2 with ⟨p, g, g2, p1, p2, p3, p4, p5, p6⟩ | ⟨p, p3, p4⟩
      · rw [if_pos p, if_pos p]; exact ⟨p3.trans p4.symm, p5.trans p6.symm⟩
      · have p' : ¬ jof (jm M 94 19 0) q 4 = 1 := by rw [p]; decide
        rw [if_neg p', if_neg p']; exact ⟨p3, p4⟩
    by_cases hx : ¬ v < 0 ∧ ¬ 6 < v
    · obtain ⟨z, hz, rfl⟩ := int_rng (u := v) (n := 6) (by decide) hx.1 hx.2
      rcases (show z = 0 ∨ z = 1 ∨ z = 2 ∨ z = 3 ∨ z = 4 ∨ z = 5 ∨ z = 6 by omega) with rfl | rfl | rfl | rfl | rfl | rfl | rfl
      · exact Step_q I (H_meetingOf_r hb (c_meetingOf_k0 (d := 16) (Y := Y) hb hT1)) (cx_meetingOf_k0 (d := 16) hb hn h959 hq) (by decide) (by decide) qE_0 tE_1 (cmp_eq jm_s (by rw [jat_nI hq56 (by decide)]; exact hm2))
      · exact Step_q I (H_meetingOf_r hb (c_meetingOf_k1 (d := 16) (Y := Y) hb hT1)) (cx_meetingOf_k1 (d := 16) hb hn h959 hq) (by decide) (by decide) qE_0 tE_1 (cmp_eq jm_s (by rw [jat_nI hq56 (by decide)]; exact hf.1.trans hh.1.symm))
      · exact Step_q I (H_meetingOf_r hb (c_meetingOf_k2 (d := 16) (Y := Y) hb hT1)) (cx_meetingOf_k2 (d := 16) hb hn h959 hq) (by decide) (by decide) qE_0 tE_1 (cmp_eq jm_s (by rw [jat_nI hq56 (by decide)]; exact hf.2.1.trans hh.2.1.symm))
      · exact Step_q I (H_meetingOf_r hb (c_meetingOf_k3 (d := 16) (Y := Y) hb hT1)) (cx_meetingOf_k3 (d := 16) hb hn h959 hq) (by decide) (by decide) qE_0 tE_1 (cmp_eq jm_s (kind_r hL0 (hF rfl) hq))
      · exact Step_q I (H_meetingOf_r hb (c_meetingOf_k4 (d := 16) (Y := Y) hb hT1)) (cx_meetingOf_k4 (d := 16) hb hn h959 hq) (by decide) (by decide) qE_0 tE_1 (cmp_eq jm_s (by rw [jat_nI hq56 (by decide)]; exact hg.1))
      · exact Step_q I (H_meetingOf_r hb (c_meetingOf_k5 (d := 16) (Y := Y) hb hT1)) (cx_meetingOf_k5 (d := 16) hb hn h959 hq) (by decide) (by decide) qE_0 tE_1 (cmp_eq jm_s (by rw [jat_nI hq56 (by decide)]; exact hg.2))
      · exact Step_q I (H_meetingOf_r hb (c_meetingOf_k6 (d := 16) (Y := Y) hb hT1)) (cx_meetingOf_k6 (d := 16) hb hn h959 hq) (by decide) (by decide) qE_0 tE_1 (cmp_eq jm_s (by rw [jat_nI hq56 (by decide)]; exact hf.2.2.trans hh.2.2.1.symm))
    · refine Step_q I (H_meetingOf_t2 (d := 19) hb (c_meetingOf_bad (d := 17) (Y := Y) hb hT1 (le_n.mpr hx))) (cx_meetingOf_bad (d := 16) hb hn h959 hq ?_) (by decide) (by decide) qE_0 tE_2 (cmp_no jm_s (by decide))
      by_cases c : v < 0
      · exact Or.inl (by rw [Int32.lt_iff_toInt_lt] at c; exact c)
      · exact Or.inr (by
          have c2 : (6 : Int32) < v := Decidable.byContradiction fun z => hx ⟨c, z⟩
          rw [Int32.lt_iff_toInt_lt] at c2
          exact c2)
  · have hT1 : ¬ (¬ x < 0 ∧ ¬ jmc M ≤ x) := by rw [hm]; exact fun z => hT ((in_q1 (by omega)).mp z)
    exact Step_q I (H_meetingOf_t1 (d := 19) hb (c_meetingOf_nt (d := 17) (Y := Y) hb hT1)) (cx_meetingOf_nt (d := 18) hb (by rw [h959]; exact fun z => hT ((in_q2 hn).mp z))) (by decide) (by decide) qE_0 tE_2 (cmp_no jm_s (by decide))
theorem R_meetingsIn {b : SBt} {Y : OUt} {M : MM} (I : Inv b M) (x : Int32) : Step b Y M yL_meetingsIn cL_meetingsIn 4 [(0, 9, 12, 45)] [.ref 0, .int x, .ref 102] yX6_meetingsIn cX6_meetingsIn 4 (some .int) [.ref 94, .int x] cmpI := by
  have hb := I.hb
  obtain ⟨t, dr, hL, hF⟩ := Inv_now I
  have ht := hL.1
  have hn := nn_le (dr := dr) ht
  have hm := jmc_r hL hF
  have hw := jwc_r hL hF
  have hz14 := zz_le (dr := dr) ht
  have h10 : M 1 0 = nI t := hL.2.1
  have h950 : M 95 0 = nI t := hL.2.2.1
  have h951 : M 95 1 = nI (zz t dr) := hL.2.2.2.2.2.2.1
  have h959 : M 95 9 = nI (nn t dr) := hL.2.2.2.2.2.2.2.1
  have hLc : rL t dr (lgC M 1) (jm (jcount M (nn t dr)) 94 19 0 95) := rL_cells hL (fun _ _ _ _ => rfl) (fun c _ => by rw [jm_n (by omega)]; exact jcount_n (by omega))
  have hL0 : rL t dr (lgC M 1) (jm M 94 19 0 95) := rL_cells hL (fun _ _ _ _ => rfl) (fun c _ => jm_n (by omega))
  have hta : ∀ (k q : Nat), 1 ≤ k → k ≤ 8 → q < 8 → jat 8 (jcount M (nn t dr) (75 + k)) (nI q) = gH (jm (jcount M (nn t dr)) 94 19 0) (nn t dr) (nI q) k := fun k q h1 h2 h3 => by rw [jat_nI h3 (by decide)]; exact tally_r hLc hF h1 h2 h3
  have e2 : (¬ x < 0 ∧ ¬ jwc M ≤ x) ↔ (¬ x < 0 ∧ ¬ M 95 1 - 1 < x) := isW_r hL hF
  by_cases hT : ¬ x < 0 ∧ ¬ jwc M ≤ x
  · have hX := e2.mp hT
    exact Step_q I (H_meetingsIn_r hb (c_meetingsIn (d := 17) (Y := Y) hb hT hn hm)) (cx_meetingsIn (d := 18) hb hX hn h959) (by decide) (by decide) qE_0 tE_1 (cmp_eq jm_s (jsum_c fun m hm => by
      cases dr with
      | false => exact absurd hm (Nat.not_lt_zero m)
      | true => unfold fIn gIn; rw [(mt_q hL0 hm).2]))
  · exact Step_q I (H_meetingsIn_t1 (d := 19) hb (c_meetingsIn_nt (d := 17) (Y := Y) hb hT)) (cx_meetingsIn_nt (d := 18) hb (fun z => hT (e2.mpr z))) (by decide) (by decide) qE_0 tE_2 (cmp_no jm_s (by decide))
theorem pairs_r {t : Nat} {dr : Bool} {A B : MM} (h : rL t dr (lgC A 1) (B 95)) (hf : dr = true → rFix t A) (w : Int32) : jpairs A (nn t dr) w = gpairs B (nn t dr) w := by
  unfold jpairs gpairs
  rw [show jsum (fPair A (nn t dr) w) (nn t dr) = jsum (gPair B (nn t dr) w) (nn t dr) from jsum_c fun m hm => by
    unfold fPair gPair
    cases dr with
    | false => exact absurd hm (Nat.not_lt_zero m)
    | true => rw [(mt_q h hm).2, cl_r h hf hm]]
theorem R_clashes {b : SBt} {Y : OUt} {M : MM} (I : Inv b M) (x : Int32) : Step b Y M yL_clashes cL_clashes 4 [(0, 9, 12, 45)] [.ref 0, .int x, .ref 102] yX6_clashes_ cX6_clashes_ 2 (some .int) [.ref 94, .int x] cmpI := by
  have hb := I.hb
  obtain ⟨t, dr, hL, hF⟩ := Inv_now I
  have ht := hL.1
  have hn := nn_le (dr := dr) ht
  have hm := jmc_r hL hF
  have hw := jwc_r hL hF
  have hz14 := zz_le (dr := dr) ht
  have h10 : M 1 0 = nI t := hL.2.1
  have h950 : M 95 0 = nI t := hL.2.2.1
  have h951 : M 95 1 = nI (zz t dr) := hL.2.2.2.2.2.2.1
  have h959 : M 95 9 = nI (nn t dr) := hL.2.2.2.2.2.2.2.1
  have hLc : rL t dr (lgC M 1) (jm (jcount M (nn t dr)) 94 19 0 95) := rL_cells hL (fun _ _ _ _ => rfl) (fun c _ => by rw [jm_n (by omega)]; exact jcount_n (by omega))
  have hL0 : rL t dr (lgC M 1) (jm M 94 19 0 95) := rL_cells hL (fun _ _ _ _ => rfl) (fun c _ => jm_n (by omega))
  have hta : ∀ (k q : Nat), 1 ≤ k → k ≤ 8 → q < 8 → jat 8 (jcount M (nn t dr) (75 + k)) (nI q) = gH (jm (jcount M (nn t dr)) 94 19 0) (nn t dr) (nI q) k := fun k q h1 h2 h3 => by rw [jat_nI h3 (by decide)]; exact tally_r hLc hF h1 h2 h3
  have e2 : (¬ x < 0 ∧ ¬ jwc M ≤ x) ↔ (¬ x < 0 ∧ ¬ M 95 1 - 1 < x) := isW_r hL hF
  by_cases hT : ¬ x < 0 ∧ ¬ jwc M ≤ x
  · have hX := e2.mp hT
    exact Step_q I (H_clashes_r hb (c_clashes (d := 15) (Y := Y) hb hT hn hm)) (cx_clashesW (d := 16) hb hX hn h959 (hho_r hL)) (by decide) (by decide) qE_0 tE_1 (cmp_eq jm_s (pairs_r hL0 hF x))
  · exact Step_q I (H_clashes_t1 (d := 19) hb (c_clashes_nt (d := 17) (Y := Y) hb hT)) (cx_clashes_nt (d := 18) hb (fun z => hT (e2.mpr z))) (by decide) (by decide) qE_0 tE_2 (cmp_no jm_s (by decide))
theorem R_freeWeek {b : SBt} {Y : OUt} {M : MM} (I : Inv b M) (x : Int32) : Step b Y M yL_freeWeek cL_freeWeek 4 [(0, 9, 12, 45), (0, 9, 15, 58)] [.ref 0, .int x, .ref 102] yX6_freeWeek cX6_freeWeek 3 (some .int) [.ref 94, .int x] cmpI := by
  have hb := I.hb
  obtain ⟨t, dr, hL, hF⟩ := Inv_now I
  have ht := hL.1
  have hn := nn_le (dr := dr) ht
  have hm := jmc_r hL hF
  have hw := jwc_r hL hF
  have hz14 := zz_le (dr := dr) ht
  have h10 : M 1 0 = nI t := hL.2.1
  have h950 : M 95 0 = nI t := hL.2.2.1
  have h951 : M 95 1 = nI (zz t dr) := hL.2.2.2.2.2.2.1
  have h959 : M 95 9 = nI (nn t dr) := hL.2.2.2.2.2.2.2.1
  have hLc : rL t dr (lgC M 1) (jm (jcount M (nn t dr)) 94 19 0 95) := rL_cells hL (fun _ _ _ _ => rfl) (fun c _ => by rw [jm_n (by omega)]; exact jcount_n (by omega))
  have hL0 : rL t dr (lgC M 1) (jm M 94 19 0 95) := rL_cells hL (fun _ _ _ _ => rfl) (fun c _ => jm_n (by omega))
  have hta : ∀ (k q : Nat), 1 ≤ k → k ≤ 8 → q < 8 → jat 8 (jcount M (nn t dr) (75 + k)) (nI q) = gH (jm (jcount M (nn t dr)) 94 19 0) (nn t dr) (nI q) k := fun k q h1 h2 h3 => by rw [jat_nI h3 (by decide)]; exact tally_r hLc hF h1 h2 h3
  by_cases hT : ∃ q, q < nn t dr ∧ x = nI q
  · have hT1 := (in_q1 (x := x) (n := nn t dr) (by omega)).mpr hT
    obtain ⟨q, hq, rfl⟩ := hT
    rw [← hm] at hT1
    have hd : dr = true := by
      cases dr with
      | true => rfl
      | false => exact absurd hq (Nat.not_lt_zero q)
    subst hd
    obtain ⟨w0, w1, -, y2, -, y4, -⟩ := (mt_of.mp (hL.2.2.2.2.2.2.2.2.2.2.2.2 q hq)).2.2.2.2.1
    have y1 := (mt_q hL hq).2
    have hq56 : q < 56 := Nat.lt_of_lt_of_le hq hn
    have hat : jat 56 (M 4) (nI q) = nI w1 := by rw [jat_nI hq56 (by decide), y1]; exact y2
    have ef : jfree M (nn t true) (zz t true) w1 (nI q) = gfree M (nn t true) (zz t true) w1 q := by
      unfold jfree gfree
      rw [show (fun i => jb (jsum (fCl M (nI q) (nI (w1 + 1 + i))) (nn t true) = 0)) = (fun i => jb (jsum (gCl (jm M 94 19 0) q (nI (w1 + 1 + i))) (nn t true) = 0)) from funext fun i => by rw [cl_r hL0 hF hq]]
    by_cases h : jfree M (nn t true) (zz t true) w1 (nI q) = -1
    · exact Step_q I (H_freeWeek_t2 (d := 19) hb (c_freeWeek_no (d := 15) (Y := Y) hb hT1 hn hm hz14 hw hat y4 h)) (cx_freeWeek_no (d := 17) hb hn h959 hq (hho_r hL) hz14 h951 y2 y4 (ef.symm.trans h)) (by decide) (by decide) qE_0 tE_2 (cmp_no jm_s (by decide))
    · exact Step_q I (H_freeWeek_r hb (c_freeWeek_ok (d := 15) (Y := Y) hb hT1 hn hm hz14 hw hat y4 h)) (cx_freeWeek_ok (d := 17) hb hn h959 hq (hho_r hL) hz14 h951 y2 y4 (by rw [← ef]; exact h)) (by decide) (by decide) qE_0 tE_1 (cmp_eq jm_s (ef))
  · have hT1 : ¬ (¬ x < 0 ∧ ¬ jmc M ≤ x) := by rw [hm]; exact fun z => hT ((in_q1 (by omega)).mp z)
    exact Step_q I (H_freeWeek_t1 (d := 19) hb (c_freeWeek_nt (d := 17) (Y := Y) hb hT1)) (cx_freeWeek_nt (d := 18) hb (by rw [h959]; exact fun z => hT ((in_q2 hn).mp z))) (by decide) (by decide) qE_0 tE_2 (cmp_no jm_s (by decide))
theorem bye_all : ((List.range 9).all fun t => (List.range (wT t)).all fun w => decide (t < 2) || ((decide (nI t - nI t / 2 * 2 = 0) == decide (bye t w = -1)) && (decide (nI t - nI t / 2 * 2 = 0) || decide (bye t w = nI w - nI w / (gpl (nI t) - 1) * (gpl (nI t) - 1))))) = true := by decide +kernel
theorem bye_r {t w : Nat} (h2 : 2 ≤ t) (ht : t ≤ 8) (hw : w < wT t) : (nI t - nI t / 2 * 2 = 0 ↔ bye t w = -1) ∧ (¬ nI t - nI t / 2 * 2 = 0 → bye t w = nI w - nI w / (gpl (nI t) - 1) * (gpl (nI t) - 1)) := by
  have h := List.all_eq_true.mp (List.all_eq_true.mp bye_all t (List.mem_range.mpr (by omega))) w (List.mem_range.mpr hw)
  rw [decide_eq_false (by omega), Bool.false_or, Bool.and_eq_true, Bool.or_eq_true, beq_iff_eq, decide_eq_true_eq, decide_eq_true_eq, decide_eq_decide] at h
  exact ⟨h.1, fun q => h.2.resolve_left q⟩
theorem R_byeIn {b : SBt} {Y : OUt} {M : MM} (I : Inv b M) (x : Int32) : Step b Y M yL_byeIn cL_byeIn 4 [(0, 9, 12, 45), (0, 9, 15, 58)] [.ref 0, .int x, .ref 102] yX6_byeIn cX6_byeIn 2 (some .int) [.ref 94, .int x] cmpI := by
  have hb := I.hb
  obtain ⟨t, dr, hL, hF⟩ := Inv_now I
  have ht := hL.1
  have hn := nn_le (dr := dr) ht
  have hm := jmc_r hL hF
  have hw := jwc_r hL hF
  have hz14 := zz_le (dr := dr) ht
  have h10 : M 1 0 = nI t := hL.2.1
  have h950 : M 95 0 = nI t := hL.2.2.1
  have h951 : M 95 1 = nI (zz t dr) := hL.2.2.2.2.2.2.1
  have h959 : M 95 9 = nI (nn t dr) := hL.2.2.2.2.2.2.2.1
  have hLc : rL t dr (lgC M 1) (jm (jcount M (nn t dr)) 94 19 0 95) := rL_cells hL (fun _ _ _ _ => rfl) (fun c _ => by rw [jm_n (by omega)]; exact jcount_n (by omega))
  have hL0 : rL t dr (lgC M 1) (jm M 94 19 0 95) := rL_cells hL (fun _ _ _ _ => rfl) (fun c _ => jm_n (by omega))
  have hta : ∀ (k q : Nat), 1 ≤ k → k ≤ 8 → q < 8 → jat 8 (jcount M (nn t dr) (75 + k)) (nI q) = gH (jm (jcount M (nn t dr)) 94 19 0) (nn t dr) (nI q) k := fun k q h1 h2 h3 => by rw [jat_nI h3 (by decide)]; exact tally_r hLc hF h1 h2 h3
  have e2 : (¬ x < 0 ∧ ¬ jwc M ≤ x) ↔ (¬ x < 0 ∧ ¬ M 95 1 - 1 < x) := isW_r hL hF
  by_cases hT : ¬ x < 0 ∧ ¬ jwc M ≤ x
  · have hX := e2.mp hT
    have hd : dr = true := by
      cases dr with
      | true => rfl
      | false =>
        rw [hw] at hT
        obtain ⟨q, q1, -⟩ := (in_q1 (by omega)).mp hT
        exact absurd q1 (Nat.not_lt_zero q)
    subst hd
    have h2 := hL.2.2.2.2.1 rfl
    have hp : ¬ gpl (nI t) - 1 = 0 := by
      have := gP_le h2 ht
      rw [gpl_nI ht]
      obtain ⟨p, hp⟩ : ∃ p, gP t = p + 1 := ⟨gP t - 1, by omega⟩
      rw [hp, nI_pred]
      exact nI_ne0 (by omega) (by omega)
    obtain ⟨w, hw1, rfl⟩ : ∃ w, w < wT t ∧ x = nI w := by
      have hT2 := hT
      rw [hw] at hT2
      exact (in_q1 (n := wT t) (by have := wT_le ht; omega)).mp hT2
    have hw14 := wT_le ht
    have hbye : jat 14 (M 73) (nI w) = bye t w := by rw [jat_nI (by omega) (by decide)]; exact (hF rfl).2.2.2 w hw1
    obtain ⟨b1, b2⟩ := bye_r h2 ht hw1
    by_cases h : jat 14 (M 73) (nI w) = -1
    · exact Step_q I (H_byeIn_t2 (d := 19) hb (c_byeIn_no (d := 17) (Y := Y) hb hT h)) (cx_byeIn_no (d := 18) hb hX h950 (b1.mpr (hbye.symm.trans h))) (by decide) (by decide) qE_0 tE_2 (cmp_no jm_s (by decide))
    · have hne : ¬ nI t - nI t / 2 * 2 = 0 := fun z => h (hbye.trans (b1.mp z))
      exact Step_q I (H_byeIn_r hb (c_byeIn_ok (d := 17) (Y := Y) hb hT h)) (cx_byeIn_ok (d := 18) hb hX h950 hne hp) (by decide) (by decide) qE_0 tE_1 (cmp_eq jm_s (hbye.trans (b2 hne)))
  · exact Step_q I (H_byeIn_t1 (d := 19) hb (c_byeIn_nt (d := 17) (Y := Y) hb hT)) (cx_byeIn_nt (d := 18) hb (fun z => hT (e2.mpr z))) (by decide) (by decide) qE_0 tE_2 (cmp_no jm_s (by decide))
theorem jt1_go {t : Nat} {M B : MM} (hL : rL t true (lgC M 1) (B 95)) : ∀ m, m ≤ nT t → jt1 M m 75 1 = jsum (gGoals B) m
  | 0, _ => by simp [jt1, jclear, jfill, jm, jsum]
  | m + 1, hm => by
    have ih := jt1_go hL m (by omega)
    rw [jt1, jsum, ← ih]
    unfold gGoals
    rcases (mt_of.mp (hL.2.2.2.2.2.2.2.2.2.2.2.2 m (show m < nn t true from hm))).2.2.2.2.2 with ⟨p, g, g2, p1, p2, p3, p4, p5, p6⟩ | ⟨p, p3, p4⟩
    · rw [if_neg (by rw [p3]; exact nI_nm1 (by omega)), if_pos p, jpts_n (by omega), p3, p5, p4, p6]
      unfold jap
      rw [jraise_n (by omega), jag_n (by omega), jag_n (by omega), jm_n (by omega), jm_s]
    · rw [if_pos p3, if_neg (by rw [p]; decide), jraise_n (by omega), jraise_n (by omega), Int32.add_zero]
theorem jt1_hw {t : Nat} {M B : MM} (hL : rL t true (lgC M 1) (B 95)) : ∀ m, m ≤ nT t → jt1 M m 75 2 = jsum (gHw B) m
  | 0, _ => by simp [jt1, jclear, jfill, jm, jsum]
  | m + 1, hm => by
    have ih := jt1_hw hL m (by omega)
    rw [jt1, jsum, ← ih]
    unfold gHw
    rcases (mt_of.mp (hL.2.2.2.2.2.2.2.2.2.2.2.2 m (show m < nn t true from hm))).2.2.2.2.2 with ⟨p, g, g2, p1, p2, p3, p4, p5, p6⟩ | ⟨p, p3, p4⟩
    · rw [if_neg (by rw [p3]; exact nI_nm1 (by omega)), jpts_n (by omega), p3, p5, p4, p6]
      unfold jap
      rw [jraise_n (by omega), jag_n (by omega), jag_n (by omega), jm_s]
      congr 1
      by_cases c : ¬ nI g ≤ nI g2
      · rw [jb_t c, jb_t ⟨p, c⟩]
      · rw [jb_f c, jb_f (fun z => c z.2)]
    · rw [if_pos p3, jb_f (fun z => by rw [p] at z; exact absurd z.1 (by decide)), jraise_n (by omega), jraise_n (by omega), Int32.add_zero]
theorem go_r {t : Nat} {dr : Bool} {M B : MM} (hL : rL t dr (lgC M 1) (B 95)) : jcount M (nn t dr) 75 1 = jsum (gGoals B) (nn t dr) := by
  unfold jcount
  rw [jt2_n (by omega)]
  cases dr with
  | false => simp [nn, jt1, jclear, jfill, jm, jsum]
  | true => exact jt1_go hL _ (Nat.le_refl _)
theorem hw_r {t : Nat} {dr : Bool} {M B : MM} (hL : rL t dr (lgC M 1) (B 95)) : jcount M (nn t dr) 75 2 = jsum (gHw B) (nn t dr) := by
  unfold jcount
  rw [jt2_n (by omega)]
  cases dr with
  | false => simp [nn, jt1, jclear, jfill, jm, jsum]
  | true => exact jt1_hw hL _ (Nat.le_refl _)
theorem put_c {t : Nat} {dr : Bool} {A B : MM} (hL : rL t dr (lgC A 1) (B 95)) (hF : dr = true → rFix t A) : jsum (fPut A) (nn t dr) = jsum (gPutC B) (nn t dr) := jsum_c fun m hm => by
  cases dr with
  | false => exact absurd hm (Nat.not_lt_zero m)
  | true =>
    have hw := wT_le hL.1
    obtain ⟨h1, h2, h3, h4, ⟨w0, w1, k1, k2, k3, k4, k5⟩, h6⟩ := mt_of.mp (hL.2.2.2.2.2.2.2.2.2.2.2.2 m hm)
    have f3 := ((hF rfl).2.2.1 m hm).2.2
    unfold fPut gPutC jhow
    rcases h6 with ⟨p, g, g2, p1, p2, p3, p4, p5, p6⟩ | ⟨p, p3, p4⟩
    · rw [if_pos p, jb_f (fun z => by rw [p3] at z; exact nI_nm1 (by omega) z.1), jb_f (by decide)]
    · rw [if_neg (by rw [p]; decide), k5, f3, h4, k1, k2]
      by_cases c : w0 = w1
      · subst c; rw [if_pos rfl, jb_f (fun z => z.2 rfl), jb_f (by decide)]
      · rw [if_neg c, jb_t ⟨p3, fun z => c ((nI_eq (by omega) (by omega)).mp z).symm⟩, jb_t (by decide)]
theorem pd_r {t : Nat} {dr : Bool} {A B : MM} (hL : rL t dr (lgC A 1) (B 95)) : A 1 5 = B 95 4 := by
  obtain ⟨z, -, z1, z2⟩ := hL.2.2.2.2.2.2.2.2.2.2.1
  exact (show A 1 5 = nI z from z1).trans z2.symm
theorem R_account {b : SBt} {Y : OUt} {M : MM} (I : Inv b M) (x : Int32) : Step b Y M yL_account cL_account 4 [(0, 9, 12, 47)] [.ref 0, .int x, .ref 102] yX6_account cX6_account 4 (some .int) [.ref 94, .int x] cmpI := by
  have hb := I.hb
  obtain ⟨t, dr, hL, hF⟩ := Inv_now I
  have ht := hL.1
  have hn := nn_le (dr := dr) ht
  have hm := jmc_r hL hF
  have hw := jwc_r hL hF
  have hz14 := zz_le (dr := dr) ht
  have h10 : M 1 0 = nI t := hL.2.1
  have h950 : M 95 0 = nI t := hL.2.2.1
  have h951 : M 95 1 = nI (zz t dr) := hL.2.2.2.2.2.2.1
  have h959 : M 95 9 = nI (nn t dr) := hL.2.2.2.2.2.2.2.1
  have hLc : rL t dr (lgC M 1) (jm (jcount M (nn t dr)) 94 19 0 95) := rL_cells hL (fun _ _ _ _ => rfl) (fun c _ => by rw [jm_n (by omega)]; exact jcount_n (by omega))
  have hL0 : rL t dr (lgC M 1) (jm M 94 19 0 95) := rL_cells hL (fun _ _ _ _ => rfl) (fun c _ => jm_n (by omega))
  have hta : ∀ (k q : Nat), 1 ≤ k → k ≤ 8 → q < 8 → jat 8 (jcount M (nn t dr) (75 + k)) (nI q) = gH (jm (jcount M (nn t dr)) 94 19 0) (nn t dr) (nI q) k := fun k q h1 h2 h3 => by rw [jat_nI h3 (by decide)]; exact tally_r hLc hF h1 h2 h3
  have hLcc : rL t dr (lgC (jcount M (nn t dr)) 1) (jm (jcount M (nn t dr)) 94 19 0 95) := rL_cells hLc (fun i c _ _ => jcount_n (by omega)) (fun _ _ => rfl)
  have hFc : dr = true → rFix t (jcount M (nn t dr)) := fun q => rFix_c (hF q) (fun i c _ _ => jcount_n (by omega))
  have hw2 : jwc (jcount M (nn t dr)) = nI (zz t dr) := jwc_r hLcc hFc
  have hm2 : jmc (jcount M (nn t dr)) = nI (nn t dr) := jmc_r hLcc hFc
  have hdr : jb (¬ M 1 2 = 0) = jb (¬ M 95 1 ≤ 0) := by
    have h12 : M 1 2 = if dr = true then 1 else 0 := hL.2.2.2.2.2.1
    have hz := zz_0 hL.1 hL.2.2.2.2.1
    rw [h951]
    cases dr with
    | false => rw [jb_f (fun z => z h12), jb_f (fun z => by cases hz.2.mp z)]
    | true => rw [jb_t (by rw [h12]; decide), jb_t (hz.2.mpr rfl)]
  have hru : M 1 6 = M 95 5 := by
    obtain ⟨r, hr3, h6, h5, -⟩ := rL_rules hL
    exact h6.trans h5.symm
  obtain ⟨h13, h14⟩ : M 13 2 = M 94 3 ∧ M 86 0 = M 94 9 := by
    obtain ⟨τ, k, j, -, -, -, a4, a5, -, -, -, -, -, ⟨n2, -, t2, t3, -⟩, -⟩ := I.1
    exact ⟨a4.trans a5.symm, t2.trans t3.symm⟩
  by_cases hx : ¬ x < 0 ∧ ¬ 14 < x
  · obtain ⟨z, hz, rfl⟩ := int_rng (u := x) (n := 14) (by decide) hx.1 hx.2
    rcases (show z = 0 ∨ z = 1 ∨ z = 2 ∨ z = 3 ∨ z = 4 ∨ z = 5 ∨ z = 6 ∨ z = 7 ∨ z = 8 ∨ z = 9 ∨ z = 10 ∨ z = 11 ∨ z = 12 ∨ z = 13 ∨ z = 14 by omega) with rfl | rfl | rfl | rfl | rfl | rfl | rfl | rfl | rfl | rfl | rfl | rfl | rfl | rfl | rfl
    · exact Step_q I (H_account_r hb (c_account_k0 (d := 14) (Y := Y) hb hn hm)) (cx_account_q0 (d := 17) hb ) (by decide) (by decide) qE_c tE_1 (cmp_eq jm_s (by rw [jcount_n (by omega), jm_n (by omega), jcount_n (by omega)]; exact h10.trans h950.symm))
    · exact Step_q I (H_account_r hb (c_account_k1 (d := 14) (Y := Y) hb hn hm)) (cx_account_q1 (d := 17) hb ) (by decide) (by decide) qE_c tE_1 (cmp_eq jm_s (by rw [jcount_n (by omega), jm_n (by omega), jcount_n (by omega)]; exact hdr))
    · exact Step_q I (H_account_r hb (c_account_k2 (d := 14) (Y := Y) hb hn hm)) (cx_account_q2 (d := 17) hb ) (by decide) (by decide) qE_c tE_1 (cmp_eq jm_s (by rw [jm_n (by omega), jcount_n (by omega)]; exact hw2.trans h951.symm))
    · exact Step_q I (H_account_r hb (c_account_k3 (d := 14) (Y := Y) hb hn hm)) (cx_account_q3 (d := 17) hb ) (by decide) (by decide) qE_c tE_1 (cmp_eq jm_s (by rw [jcount_n (by omega), jm_n (by omega), jcount_n (by omega)]; exact wk_r hL))
    · exact Step_q I (H_account_r hb (c_account_k4 (d := 14) (Y := Y) hb hn hm)) (cx_account_q4 (d := 17) hb ) (by decide) (by decide) qE_c tE_1 (cmp_eq jm_s (by rw [jm_n (by omega), jcount_n (by omega)]; exact hm2.trans h959.symm))
    · exact Step_q I (H_account_r hb (c_account_k5 (d := 14) (Y := Y) hb hn hm)) (cx_account_q5 (d := 17) hb hn (by rw [jcount_n (by omega)]; exact h959)) (by decide) (by decide) qE_c tE_1 (cmp_eq jm_s (jcount_pl.trans (pl_r hLc)))
    · exact Step_q I (H_account_r hb (c_account_k6 (d := 14) (Y := Y) hb hn hm)) (cx_account_q6 (d := 17) hb hn (by rw [jcount_n (by omega)]; exact h959)) (by decide) (by decide) qE_c tE_1 (cmp_eq jm_s (put_c hLcc hFc))
    · exact Step_q I (H_account_r hb (c_account_k7 (d := 14) (Y := Y) hb hn hm)) (cx_account_q7 (d := 17) hb ) (by decide) (by decide) qE_c tE_1 (cmp_eq jm_s (by rw [jcount_n (by omega), jm_n (by omega), jcount_n (by omega)]; exact pw_r hL))
    · exact Step_q I (H_account_r hb (c_account_k8 (d := 14) (Y := Y) hb hn hm)) (cx_account_q8 (d := 17) hb ) (by decide) (by decide) qE_c tE_1 (cmp_eq jm_s (by rw [jcount_n (by omega), jm_n (by omega), jcount_n (by omega)]; exact pd_r hL))
    · exact Step_q I (H_account_r hb (c_account_k9 (d := 14) (Y := Y) hb hn hm)) (cx_account_q9 (d := 17) hb ) (by decide) (by decide) qE_c tE_1 (cmp_eq jm_s (by rw [jcount_n (by omega), jm_n (by omega), jcount_n (by omega)]; exact hru))
    · exact Step_q I (H_account_r hb (c_account_k10 (d := 14) (Y := Y) hb hn hm)) (cx_account_q10 (d := 17) hb hn (by rw [jcount_n (by omega)]; exact h959)) (by decide) (by decide) qE_c tE_1 (cmp_eq jm_s (go_r hLc))
    · exact Step_q I (H_account_r hb (c_account_k11 (d := 14) (Y := Y) hb hn hm ht h10)) (cx_account_q11 (d := 16) hb hn (by rw [jcount_n (by omega)]; exact h959) ht (by rw [jcount_n (by omega)]; exact h950)) (by decide) (by decide) qE_c tE_1 (cmp_eq jm_s (jsum_c fun i hi => hta 1 i (by omega) (by omega) (by omega)))
    · exact Step_q I (H_account_r hb (c_account_k12 (d := 14) (Y := Y) hb hn hm hz14 hw)) (cx_account_q12 (d := 16) hb hn (by rw [jcount_n (by omega)]; exact h959) (fun i hi => by unfold jof; rw [jcount_n (by omega)]; exact hho_r hL i hi) hz14 (by rw [jcount_n (by omega)]; exact h951)) (by decide) (by decide) qE_c tE_1 (cmp_eq jm_s (jsum_c fun i hi => pairs_r hLcc hFc _))
    · exact Step_q I (H_account_r hb (c_account_k13 (d := 14) (Y := Y) hb hn hm)) (cx_account_q13 (d := 17) hb ) (by decide) (by decide) qE_c tE_1 (cmp_eq jm_s (by rw [jcount_n (by omega), jm_n (by omega), jcount_n (by omega)]; exact h13))
    · exact Step_q I (H_account_r hb (c_account_k14 (d := 14) (Y := Y) hb hn hm)) (cx_account_q14 (d := 17) hb ) (by decide) (by decide) qE_c tE_1 (cmp_eq jm_s (by rw [jcount_n (by omega), jm_n (by omega), jcount_n (by omega)]; exact h14))
  · refine Step_q I (H_account_t1 (d := 19) hb (c_account_bad (d := 19) (Y := Y) hb (le_n.mpr hx))) (cx_account_bad (d := 18) hb ?_) (by decide) (by decide) qE_0 tE_2 (cmp_no jm_s (by decide))
    by_cases c : x < 0
    · exact Or.inl (by rw [Int32.lt_iff_toInt_lt] at c; exact c)
    · exact Or.inr (by
        have c2 : (14 : Int32) < x := Decidable.byContradiction fun z => hx ⟨c, z⟩
        rw [Int32.lt_iff_toInt_lt] at c2
        exact c2)
