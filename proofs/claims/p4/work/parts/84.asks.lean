/-! ===== steps: questions (their answers are not compared here) ===== -/
def cmpT (_ : Int32) (_ : Value) (_ : OUt) (_ : MM) : Prop := True
def qE (M M1 : MM) : Prop := ∀ i k, i < 75 ∨ 85 < i → M1 i k = M i k
theorem qE_0 {M : MM} : qE M M := fun _ _ _ => rfl
theorem qE_c {M : MM} {n : Nat} : qE M (jcount M n) := fun i k q => jcount_n (by omega)
def tE (N N2 : MM) : Prop := ∀ i k, ¬ (i = 94 ∧ k = 19) → N2 i k = N i k
theorem tE_0 {N : MM} : tE N N := fun _ _ _ => rfl
theorem tE_1 {N : MM} {v : Int32} : tE N (jm N 94 19 v) := fun i k q => jm_n q
theorem tE_2 {N : MM} {v w : Int32} : tE N (jrai (jm N 94 19 v) w) := fun i k q => by
  unfold jrai; rw [jm_n q, jm_n q]
theorem Step_q {b : SBt} {Y Y1 : OUt} {M M1 M2 : MM} {yL : MethodName} {cL : ByteArray} {mL : Nat} {hh : List (Nat × Nat × Nat × Nat)} {asL : List Value} {y6 : MethodName} {c6 : ByteArray} {m6 : Nat} {r6 : Option FieldType} {as6 : List Value} {cmp : Int32 → Value → OUt → MM → Prop} {mc ms : Nat} {k : Int32} {v : Value}
    (I : Inv b M) (H : CMH 20 mc ms yL cL mL (some .int) hh asL b Y M k Y1 M1) (C : CM 20 0 0 y6 c6 m6 r6 as6 b Y1 M1 (.inl (some v)) M2) (hmc : mc ≤ 40) (hms : ms ≤ 9000) (h1 : qE M M1) (h2 : tE M1 M2) (hc : cmp k v Y1 M2) (hk : vK r6 v := by first | exact vK_i | exact vK_b | exact vK_c | exact vK_f | exact vK_d) : Step b Y M yL cL mL hh asL y6 c6 m6 r6 as6 cmp :=
  Step_of I H C hmc hms (fun i c q => h1 i c (by omega)) (fun i c q => h2 i c (by omega)) (Rel_c I.1 (fun i c q q2 => h1 i c (by omega)) (fun i c q => (h2 i c (by omega)).trans (h1 i c (by omega)))) hc hk
theorem Inv_now {b : SBt} {M : MM} (I : Inv b M) : ∃ t dr, rL t dr (lgC M 1) (M 95) ∧ (dr = true → rFix t M) := by
  obtain ⟨τ, k, j, hP⟩ := Rel_P.mp I.1
  exact ⟨(τ k).1, (τ k).2, hP.now, hP.fix⟩
theorem rL_rules {t : Nat} {dr : Bool} {M : MM} (h : rL t dr (lgC M 1) (M 95)) : ∃ c : Nat, c ≤ 3 ∧ M 1 6 = nI c ∧ M 95 5 = nI c ∧ (∀ i, i < c → r04 (M 3 i)) ∧ ∀ i, i < c → r04 (M 95 (6 + i)) := by
  obtain ⟨c, e1, e2, e3, e4⟩ := h.2.2.2.2.2.2.2.2.2.2.2.1
  exact ⟨c, e1, e2, e3, fun i hi => (e4 i hi).2, fun i hi => by
    have := e4 i hi
    rw [← this.1]
    exact this.2⟩
theorem S_pointsAgain {b : SBt} {Y : OUt} {M : MM} (I : Inv b M) (u : Int32) : Step b Y M yL_pointsAgain cL_pointsAgain 4 [(0, 9, 12, 45)] [.ref 0, .int u, .ref 102] yX6_pointsAgain cX6_pointsAgain 2 (some .int) [.ref 94, .int u] cmpT := by
  have hb := I.hb
  obtain ⟨t, dr, hL, hF⟩ := Inv_now I
  have ht := hL.1
  have hn := nn_le (dr := dr) ht
  have hm := jmc_r hL hF
  have hw := jwc_r hL hF
  have hz14 := zz_le (dr := dr) ht
  have h10 : M 1 0 = nI t := hL.2.1
  have h950 : M 95 0 = nI t := hL.2.2.1
  have h951 : M 95 1 = nI (zz t dr) := hL.2.2.2.2.2.2.1
  have h959 : M 95 9 = nI (nn t dr) := hL.2.2.2.2.2.2.2.1
  by_cases hT : ∃ q, q < t ∧ u = nI q
  · have hT1 := (in_q1 (x := u) (n := t) (by omega)).mpr hT
    obtain ⟨q, hq, rfl⟩ := hT
    rw [← h10] at hT1
    exact Step_q I (H_pointsAgain_r hb (c_pointsAgain (d := 14) (Y := Y) hb hT1 hn hm)) (cx_pointsAgain (d := 16) hb (by rw [jcount_n (by omega), h950]; exact (in_q2 (by omega)).mpr ⟨q, hq, rfl⟩) hn (by rw [jcount_n (by omega)]; exact h959)) (by decide) (by decide) qE_c tE_1 trivial
  · have hT1 : ¬ (¬ u < 0 ∧ ¬ M 1 0 ≤ u) := by rw [h10]; exact fun z => hT ((in_q1 (by omega)).mp z)
    exact Step_q I (H_pointsAgain_t1 (d := 19) hb (c_pointsAgain_nt (d := 18) (Y := Y) hb hT1)) (cx_pointsAgain_nt (d := 18) hb (by rw [h950]; exact fun z => hT ((in_q2 (by omega)).mp z))) (by decide) (by decide) qE_0 tE_2 trivial
theorem S_placeOf {b : SBt} {Y : OUt} {M : MM} (I : Inv b M) (u : Int32) : Step b Y M yL_placeOf cL_placeOf 4 [(0, 9, 12, 45)] [.ref 0, .int u, .ref 102] yX6_placeOf cX6_placeOf 2 (some .int) [.ref 94, .int u] cmpT := by
  have hb := I.hb
  obtain ⟨t, dr, hL, hF⟩ := Inv_now I
  have ht := hL.1
  have hn := nn_le (dr := dr) ht
  have hm := jmc_r hL hF
  have hw := jwc_r hL hF
  have hz14 := zz_le (dr := dr) ht
  have h10 : M 1 0 = nI t := hL.2.1
  have h950 : M 95 0 = nI t := hL.2.2.1
  have h951 : M 95 1 = nI (zz t dr) := hL.2.2.2.2.2.2.1
  have h959 : M 95 9 = nI (nn t dr) := hL.2.2.2.2.2.2.2.1
  obtain ⟨r, hr3, h6, h5, hru1, hru2⟩ := rL_rules hL
  by_cases hT : ∃ q, q < t ∧ u = nI q
  · have hT1 := (in_q1 (x := u) (n := t) (by omega)).mpr hT
    obtain ⟨q, hq, rfl⟩ := hT
    rw [← h10] at hT1
    exact Step_q I (H_placeOf_r hb (c_placeOf (d := 14) (Y := Y) hb hT1 hn hm ht h10 hr3 h6 hru1)) (cx_placeOf (d := 12) hb (by rw [jcount_n (by omega), h950]; exact (in_q2 (by omega)).mpr ⟨q, hq, rfl⟩) hn (by rw [jcount_n (by omega)]; exact h959) ht (by rw [jcount_n (by omega)]; exact h950) hr3 (by rw [jcount_n (by omega)]; exact h5) (fun i hi => by rw [jcount_n (by omega)]; exact hru2 i hi)) (by decide) (by decide) qE_c tE_1 trivial
  · have hT1 : ¬ (¬ u < 0 ∧ ¬ M 1 0 ≤ u) := by rw [h10]; exact fun z => hT ((in_q1 (by omega)).mp z)
    exact Step_q I (H_placeOf_t1 (d := 19) hb (c_placeOf_nt (d := 18) (Y := Y) hb hT1)) (cx_placeOf_nt (d := 18) hb (by rw [h950]; exact fun z => hT ((in_q2 (by omega)).mp z))) (by decide) (by decide) qE_0 tE_2 trivial
theorem S_tied {b : SBt} {Y : OUt} {M : MM} (I : Inv b M) (u : Int32) : Step b Y M yL_tied cL_tied 4 [(0, 9, 12, 45)] [.ref 0, .int u, .ref 102] yX6_tied cX6_tied 2 (some .int) [.ref 94, .int u] cmpT := by
  have hb := I.hb
  obtain ⟨t, dr, hL, hF⟩ := Inv_now I
  have ht := hL.1
  have hn := nn_le (dr := dr) ht
  have hm := jmc_r hL hF
  have hw := jwc_r hL hF
  have hz14 := zz_le (dr := dr) ht
  have h10 : M 1 0 = nI t := hL.2.1
  have h950 : M 95 0 = nI t := hL.2.2.1
  have h951 : M 95 1 = nI (zz t dr) := hL.2.2.2.2.2.2.1
  have h959 : M 95 9 = nI (nn t dr) := hL.2.2.2.2.2.2.2.1
  by_cases hT : ∃ q, q < t ∧ u = nI q
  · have hT1 := (in_q1 (x := u) (n := t) (by omega)).mpr hT
    obtain ⟨q, hq, rfl⟩ := hT
    rw [← h10] at hT1
    exact Step_q I (H_tied_r hb (c_tied (d := 14) (Y := Y) hb hT1 hn hm ht h10)) (cx_tied (d := 15) hb (by rw [jcount_n (by omega), h950]; exact (in_q2 (by omega)).mpr ⟨q, hq, rfl⟩) hn (by rw [jcount_n (by omega)]; exact h959) ht (by rw [jcount_n (by omega)]; exact h950)) (by decide) (by decide) qE_c tE_1 trivial
  · have hT1 : ¬ (¬ u < 0 ∧ ¬ M 1 0 ≤ u) := by rw [h10]; exact fun z => hT ((in_q1 (by omega)).mp z)
    exact Step_q I (H_tied_t1 (d := 19) hb (c_tied_nt (d := 18) (Y := Y) hb hT1)) (cx_tied_nt (d := 18) hb (by rw [h950]; exact fun z => hT ((in_q2 (by omega)).mp z))) (by decide) (by decide) qE_0 tE_2 trivial
theorem S_most {b : SBt} {Y : OUt} {M : MM} (I : Inv b M) (u : Int32) : Step b Y M yL_most cL_most 4 [(0, 9, 12, 45)] [.ref 0, .int u, .ref 102] yX6_most cX6_most 2 (some .int) [.ref 94, .int u] cmpT := by
  have hb := I.hb
  obtain ⟨t, dr, hL, hF⟩ := Inv_now I
  have ht := hL.1
  have hn := nn_le (dr := dr) ht
  have hm := jmc_r hL hF
  have hw := jwc_r hL hF
  have hz14 := zz_le (dr := dr) ht
  have h10 : M 1 0 = nI t := hL.2.1
  have h950 : M 95 0 = nI t := hL.2.2.1
  have h951 : M 95 1 = nI (zz t dr) := hL.2.2.2.2.2.2.1
  have h959 : M 95 9 = nI (nn t dr) := hL.2.2.2.2.2.2.2.1
  by_cases hT : ∃ q, q < t ∧ u = nI q
  · have hT1 := (in_q1 (x := u) (n := t) (by omega)).mpr hT
    obtain ⟨q, hq, rfl⟩ := hT
    rw [← h10] at hT1
    exact Step_q I (H_most_r hb (c_most (d := 14) (Y := Y) hb hT1 hn hm)) (cx_most (d := 15) hb (by rw [jcount_n (by omega), h950]; exact (in_q2 (by omega)).mpr ⟨q, hq, rfl⟩) hn (by rw [jcount_n (by omega)]; exact h959)) (by decide) (by decide) qE_c tE_1 trivial
  · have hT1 : ¬ (¬ u < 0 ∧ ¬ M 1 0 ≤ u) := by rw [h10]; exact fun z => hT ((in_q1 (by omega)).mp z)
    exact Step_q I (H_most_t1 (d := 19) hb (c_most_nt (d := 18) (Y := Y) hb hT1)) (cx_most_nt (d := 18) hb (by rw [h950]; exact fun z => hT ((in_q2 (by omega)).mp z))) (by decide) (by decide) qE_0 tE_2 trivial
theorem S_isSafe {b : SBt} {Y : OUt} {M : MM} (I : Inv b M) (u : Int32) : Step b Y M yL_isSafe cL_isSafe 4 [(0, 16, 19, 45)] [.ref 0, .int u, .ref 102] yX6_isSafe cX6_isSafe 2 (some .boolean) [.ref 94, .int u] cmpT := by
  have hb := I.hb
  obtain ⟨t, dr, hL, hF⟩ := Inv_now I
  have ht := hL.1
  have hn := nn_le (dr := dr) ht
  have hm := jmc_r hL hF
  have hw := jwc_r hL hF
  have hz14 := zz_le (dr := dr) ht
  have h10 : M 1 0 = nI t := hL.2.1
  have h950 : M 95 0 = nI t := hL.2.2.1
  have h951 : M 95 1 = nI (zz t dr) := hL.2.2.2.2.2.2.1
  have h959 : M 95 9 = nI (nn t dr) := hL.2.2.2.2.2.2.2.1
  by_cases hT : ∃ q, q < t ∧ u = nI q
  · have hT1 := (in_q1 (x := u) (n := t) (by omega)).mpr hT
    obtain ⟨q, hq, rfl⟩ := hT
    rw [← h10] at hT1
    exact Step_q I (H_isSafe_r hb (c_isSafe (d := 14) (Y := Y) hb hT1 hn hm ht h10)) (cx_isSafe (d := 14) hb (by rw [jcount_n (by omega), h950]; exact (in_q2 (by omega)).mpr ⟨q, hq, rfl⟩) hn (by rw [jcount_n (by omega)]; exact h959) ht (by rw [jcount_n (by omega)]; exact h950)) (by decide) (by decide) qE_c tE_1 trivial
  · have hT1 : ¬ (¬ u < 0 ∧ ¬ M 1 0 ≤ u) := by rw [h10]; exact fun z => hT ((in_q1 (by omega)).mp z)
    exact Step_q I (H_isSafe_t1 (d := 19) hb (c_isSafe_nt (d := 18) (Y := Y) hb hT1)) (cx_isSafe_nt (d := 18) hb (by rw [h950]; exact fun z => hT ((in_q2 (by omega)).mp z))) (by decide) (by decide) qE_0 tE_1 trivial
theorem S_isOut {b : SBt} {Y : OUt} {M : MM} (I : Inv b M) (u : Int32) : Step b Y M yL_isOut cL_isOut 4 [(0, 16, 19, 45)] [.ref 0, .int u, .ref 102] yX6_isOut cX6_isOut 2 (some .boolean) [.ref 94, .int u] cmpT := by
  have hb := I.hb
  obtain ⟨t, dr, hL, hF⟩ := Inv_now I
  have ht := hL.1
  have hn := nn_le (dr := dr) ht
  have hm := jmc_r hL hF
  have hw := jwc_r hL hF
  have hz14 := zz_le (dr := dr) ht
  have h10 : M 1 0 = nI t := hL.2.1
  have h950 : M 95 0 = nI t := hL.2.2.1
  have h951 : M 95 1 = nI (zz t dr) := hL.2.2.2.2.2.2.1
  have h959 : M 95 9 = nI (nn t dr) := hL.2.2.2.2.2.2.2.1
  by_cases hT : ∃ q, q < t ∧ u = nI q
  · have hT1 := (in_q1 (x := u) (n := t) (by omega)).mpr hT
    obtain ⟨q, hq, rfl⟩ := hT
    rw [← h10] at hT1
    exact Step_q I (H_isOut_r hb (c_isOut (d := 14) (Y := Y) hb hT1 hn hm ht h10)) (cx_isOut (d := 14) hb (by rw [jcount_n (by omega), h950]; exact (in_q2 (by omega)).mpr ⟨q, hq, rfl⟩) hn (by rw [jcount_n (by omega)]; exact h959) ht (by rw [jcount_n (by omega)]; exact h950)) (by decide) (by decide) qE_c tE_1 trivial
  · have hT1 : ¬ (¬ u < 0 ∧ ¬ M 1 0 ≤ u) := by rw [h10]; exact fun z => hT ((in_q1 (by omega)).mp z)
    exact Step_q I (H_isOut_t1 (d := 19) hb (c_isOut_nt (d := 18) (Y := Y) hb hT1)) (cx_isOut_nt (d := 18) hb (by rw [h950]; exact fun z => hT ((in_q2 (by omega)).mp z))) (by decide) (by decide) qE_0 tE_1 trivial
theorem S_run {b : SBt} {Y : OUt} {M : MM} (I : Inv b M) (u : Int32) : Step b Y M yL_run cL_run 4 [(0, 9, 12, 45)] [.ref 0, .int u, .ref 102] yX6_run cX6_run 8 (some .int) [.ref 94, .int u] cmpT := by
  have hb := I.hb
  obtain ⟨t, dr, hL, hF⟩ := Inv_now I
  have ht := hL.1
  have hn := nn_le (dr := dr) ht
  have hm := jmc_r hL hF
  have hw := jwc_r hL hF
  have hz14 := zz_le (dr := dr) ht
  have h10 : M 1 0 = nI t := hL.2.1
  have h950 : M 95 0 = nI t := hL.2.2.1
  have h951 : M 95 1 = nI (zz t dr) := hL.2.2.2.2.2.2.1
  have h959 : M 95 9 = nI (nn t dr) := hL.2.2.2.2.2.2.2.1
  by_cases hT : ∃ q, q < t ∧ u = nI q
  · have hT1 := (in_q1 (x := u) (n := t) (by omega)).mpr hT
    obtain ⟨q, hq, rfl⟩ := hT
    rw [← h10] at hT1
    exact Step_q I (H_run_r hb (c_run (d := 16) (Y := Y) hb hT1 hn hm)) (cx_run (d := 17) hb (by rw [h950]; exact (in_q2 (by omega)).mpr ⟨q, hq, rfl⟩) hn h959) (by decide) (by decide) qE_0 tE_1 trivial
  · have hT1 : ¬ (¬ u < 0 ∧ ¬ M 1 0 ≤ u) := by rw [h10]; exact fun z => hT ((in_q1 (by omega)).mp z)
    exact Step_q I (H_run_t1 (d := 19) hb (c_run_nt (d := 18) (Y := Y) hb hT1)) (cx_run_nt (d := 18) hb (by rw [h950]; exact fun z => hT ((in_q2 (by omega)).mp z))) (by decide) (by decide) qE_0 tE_2 trivial
theorem le_n {v : Int32} {n : Int32} : (v < 0 ∨ ¬ v ≤ n) ↔ ¬ (¬ v < 0 ∧ ¬ n < v) := by
  rw [Int32.not_le]
  constructor
  · rintro (h | h) ⟨h1, h2⟩
    · exact h1 h
    · exact h2 h
  · intro h
    by_cases c : v < 0
    · exact Or.inl c
    · exact Or.inr (Decidable.byContradiction fun z => h ⟨c, z⟩)
theorem S_valueOf {b : SBt} {Y : OUt} {M : MM} (I : Inv b M) (u v : Int32) : Step b Y M yL_valueOf cL_valueOf 5 [(0, 10, 13, 45), (0, 10, 17, 47)] [.ref 0, .int u, .int v, .ref 102] yX6_valueOf cX6_valueOf 3 (some .int) [.ref 94, .int u, .int v] cmpT := by
  have hb := I.hb
  obtain ⟨t, dr, hL, hF⟩ := Inv_now I
  have ht := hL.1
  have hn := nn_le (dr := dr) ht
  have hm := jmc_r hL hF
  have hw := jwc_r hL hF
  have hz14 := zz_le (dr := dr) ht
  have h10 : M 1 0 = nI t := hL.2.1
  have h950 : M 95 0 = nI t := hL.2.2.1
  have h951 : M 95 1 = nI (zz t dr) := hL.2.2.2.2.2.2.1
  have h959 : M 95 9 = nI (nn t dr) := hL.2.2.2.2.2.2.2.1
  by_cases hT : ∃ q, q < t ∧ u = nI q
  · have hT1 := (in_q1 (x := u) (n := t) (by omega)).mpr hT
    obtain ⟨q, hq, rfl⟩ := hT
    rw [← h10] at hT1
    by_cases hx : ¬ v < 0 ∧ ¬ 4 < v
    · have hv := r04_of (t := v) ⟨fun z => hx.1 (Int32.lt_trans z (by decide)), hx.2⟩ (fun z => hx.1 (by rw [z]; decide))
      exact Step_q I (H_valueOf_r hb (c_valueOf (d := 14) (Y := Y) hb hT1 (fun z => le_n.mp z hx) hv.1 hn hm)) (cx_valueOf (d := 14) hb (by rw [jcount_n (by omega), h950]; exact (in_q2 (by omega)).mpr ⟨q, hq, rfl⟩) hn (by rw [jcount_n (by omega)]; exact h959) ht (by rw [jcount_n (by omega)]; exact h950) hx hv.1) (by decide) (by decide) qE_c tE_1 trivial
    · exact Step_q I (H_valueOf_t2 (d := 19) hb (c_valueOf_bad (d := 18) (Y := Y) hb hT1 (le_n.mpr hx))) (cx_valueOf_bad (d := 18) hb (by rw [h950]; exact (in_q2 (by omega)).mpr ⟨q, hq, rfl⟩) hx) (by decide) (by decide) qE_0 tE_2 trivial
  · have hT1 : ¬ (¬ u < 0 ∧ ¬ M 1 0 ≤ u) := by rw [h10]; exact fun z => hT ((in_q1 (by omega)).mp z)
    exact Step_q I (H_valueOf_t1 (d := 19) hb (c_valueOf_nt (d := 18) (Y := Y) hb hT1)) (cx_valueOf_nt (d := 18) hb (by rw [h950]; exact fun z => hT ((in_q2 (by omega)).mp z))) (by decide) (by decide) qE_0 tE_2 trivial
theorem S_teamOf {b : SBt} {Y : OUt} {M : MM} (I : Inv b M) (u v : Int32) : Step b Y M yL_teamOf cL_teamOf 5 [(0, 10, 13, 45), (0, 10, 17, 47)] [.ref 0, .int u, .int v, .ref 102] yX6_teamOf cX6_teamOf 3 (some .int) [.ref 94, .int u, .int v] cmpT := by
  have hb := I.hb
  obtain ⟨t, dr, hL, hF⟩ := Inv_now I
  have ht := hL.1
  have hn := nn_le (dr := dr) ht
  have hm := jmc_r hL hF
  have hw := jwc_r hL hF
  have hz14 := zz_le (dr := dr) ht
  have h10 : M 1 0 = nI t := hL.2.1
  have h950 : M 95 0 = nI t := hL.2.2.1
  have h951 : M 95 1 = nI (zz t dr) := hL.2.2.2.2.2.2.1
  have h959 : M 95 9 = nI (nn t dr) := hL.2.2.2.2.2.2.2.1
  by_cases hT : ∃ q, q < t ∧ u = nI q
  · have hT1 := (in_q1 (x := u) (n := t) (by omega)).mpr hT
    obtain ⟨q, hq, rfl⟩ := hT
    rw [← h10] at hT1
    by_cases hx : ¬ v < 0 ∧ ¬ 8 < v
    · obtain ⟨z, hz, rfl⟩ := int_rng (u := v) (n := 8) (by decide) hx.1 hx.2
      rcases (show z = 0 ∨ z = 1 ∨ z = 2 ∨ z = 3 ∨ z = 4 ∨ z = 5 ∨ z = 6 ∨ z = 7 ∨ z = 8 by omega) with rfl | rfl | rfl | rfl | rfl | rfl | rfl | rfl | rfl
      · exact Step_q I (H_teamOf_r hb (c_teamOf_k0 (d := 14) (Y := Y) hb hT1 hn hm)) (cx_teamOf_k0 (d := 16) hb ht (by rw [jcount_n (by omega)]; exact h950) hq) (by decide) (by decide) qE_c tE_1 trivial
      · exact Step_q I (H_teamOf_r hb (c_teamOf_k1 (d := 14) (Y := Y) hb hT1 hn hm)) (cx_teamOf_k1 (d := 16) hb (by rw [jcount_n (by omega), h950]; exact (in_q2 (by omega)).mpr ⟨q, hq, rfl⟩) hn (by rw [jcount_n (by omega)]; exact h959)) (by decide) (by decide) qE_c tE_1 trivial
      · exact Step_q I (H_teamOf_r hb (c_teamOf_k2 (d := 14) (Y := Y) hb hT1 hn hm)) (cx_teamOf_k2 (d := 16) hb (by rw [jcount_n (by omega), h950]; exact (in_q2 (by omega)).mpr ⟨q, hq, rfl⟩) hn (by rw [jcount_n (by omega)]; exact h959)) (by decide) (by decide) qE_c tE_1 trivial
      · exact Step_q I (H_teamOf_r hb (c_teamOf_k3 (d := 14) (Y := Y) hb hT1 hn hm)) (cx_teamOf_k3 (d := 16) hb (by rw [jcount_n (by omega), h950]; exact (in_q2 (by omega)).mpr ⟨q, hq, rfl⟩) hn (by rw [jcount_n (by omega)]; exact h959)) (by decide) (by decide) qE_c tE_1 trivial
      · exact Step_q I (H_teamOf_r hb (c_teamOf_k4 (d := 14) (Y := Y) hb hT1 hn hm)) (cx_teamOf_k4 (d := 16) hb (by rw [jcount_n (by omega), h950]; exact (in_q2 (by omega)).mpr ⟨q, hq, rfl⟩) hn (by rw [jcount_n (by omega)]; exact h959)) (by decide) (by decide) qE_c tE_1 trivial
      · exact Step_q I (H_teamOf_r hb (c_teamOf_k5 (d := 14) (Y := Y) hb hT1 hn hm)) (cx_teamOf_k5 (d := 16) hb (by rw [jcount_n (by omega), h950]; exact (in_q2 (by omega)).mpr ⟨q, hq, rfl⟩) hn (by rw [jcount_n (by omega)]; exact h959)) (by decide) (by decide) qE_c tE_1 trivial
      · exact Step_q I (H_teamOf_r hb (c_teamOf_k6 (d := 14) (Y := Y) hb hT1 hn hm)) (cx_teamOf_k6 (d := 16) hb (by rw [jcount_n (by omega), h950]; exact (in_q2 (by omega)).mpr ⟨q, hq, rfl⟩) hn (by rw [jcount_n (by omega)]; exact h959)) (by decide) (by decide) qE_c tE_1 trivial
      · exact Step_q I (H_teamOf_r hb (c_teamOf_k7 (d := 14) (Y := Y) hb hT1 hn hm)) (cx_teamOf_k7 (d := 16) hb (by rw [jcount_n (by omega), h950]; exact (in_q2 (by omega)).mpr ⟨q, hq, rfl⟩) hn (by rw [jcount_n (by omega)]; exact h959)) (by decide) (by decide) qE_c tE_1 trivial
      · exact Step_q I (H_teamOf_r hb (c_teamOf_k8 (d := 14) (Y := Y) hb hT1 hn hm)) (cx_teamOf_k8 (d := 16) hb (by rw [jcount_n (by omega), h950]; exact (in_q2 (by omega)).mpr ⟨q, hq, rfl⟩) hn (by rw [jcount_n (by omega)]; exact h959)) (by decide) (by decide) qE_c tE_1 trivial
    · exact Step_q I (H_teamOf_t2 (d := 19) hb (c_teamOf_bad (d := 18) (Y := Y) hb hT1 (le_n.mpr hx))) (cx_teamOf_bad (d := 18) hb (by rw [h950]; exact (in_q2 (by omega)).mpr ⟨q, hq, rfl⟩) hx) (by decide) (by decide) qE_0 tE_2 trivial
  · have hT1 : ¬ (¬ u < 0 ∧ ¬ M 1 0 ≤ u) := by rw [h10]; exact fun z => hT ((in_q1 (by omega)).mp z)
    exact Step_q I (H_teamOf_t1 (d := 19) hb (c_teamOf_nt (d := 18) (Y := Y) hb hT1)) (cx_teamOf_nt (d := 18) hb (by rw [h950]; exact fun z => hT ((in_q2 (by omega)).mp z))) (by decide) (by decide) qE_0 tE_2 trivial
theorem S_find {b : SBt} {Y : OUt} {M : MM} (I : Inv b M) (u v : Int32) : Step b Y M yL_find cL_find 5 [(0, 10, 13, 45), (0, 10, 17, 58)] [.ref 0, .int u, .int v, .ref 102] yX6_find cX6_find 4 (some .int) [.ref 94, .int u, .int v] cmpT := by
  have hb := I.hb
  obtain ⟨t, dr, hL, hF⟩ := Inv_now I
  have ht := hL.1
  have hn := nn_le (dr := dr) ht
  have hm := jmc_r hL hF
  have hw := jwc_r hL hF
  have hz14 := zz_le (dr := dr) ht
  have h10 : M 1 0 = nI t := hL.2.1
  have h950 : M 95 0 = nI t := hL.2.2.1
  have h951 : M 95 1 = nI (zz t dr) := hL.2.2.2.2.2.2.1
  have h959 : M 95 9 = nI (nn t dr) := hL.2.2.2.2.2.2.2.1
  have e2 : ∀ x : Int32, (¬ x < 0 ∧ ¬ M 1 0 ≤ x) ↔ (¬ x < 0 ∧ ¬ M 95 0 - 1 < x) := fun x => by rw [h10, h950, in_q1 (by omega), in_q2 (by omega)]
  by_cases hT : (¬ u < 0 ∧ ¬ M 1 0 ≤ u) ∧ (¬ v < 0 ∧ ¬ M 1 0 ≤ v)
  · have hU := (e2 u).mp hT.1
    have hV := (e2 v).mp hT.2
    have hC : ∀ {Y1 : OUt}, ∃ (w : Int32) (M2 : MM), CM 20 0 0 yX6_find cX6_find 4 (some .int) [.ref 94, .int u, .int v] b Y1 M (.inl (some (.int w))) M2 ∧ tE M M2 := fun {Y1} => by
      by_cases h : jfst (gBet (jm M 94 19 0) u v) (nn t dr) = -1
      · exact ⟨_, _, cx_find_no (d := 18) hb hU hV hn h959 h, tE_2⟩
      · exact ⟨_, _, cx_find_ok (d := 18) hb hU hV hn h959 h, tE_1⟩
    by_cases h : jfst (fBet M u v) (nn t dr) = -1
    · obtain ⟨w, M2, C, hE⟩ := hC (Y1 := Y)
      exact Step_q I (H_find_t2 (d := 19) hb (c_find_no (d := 17) (Y := Y) hb hT.1 hT.2 hn hm h)) C (by decide) (by decide) qE_0 hE trivial
    · obtain ⟨w, M2, C, hE⟩ := hC (Y1 := (ju Y.1 0 (jfst (fBet M u v) (nn t dr)).toInt64, Y.2))
      exact Step_q I (H_find_r hb (c_find_ok (d := 17) (Y := Y) hb hT.1 hT.2 hn hm h)) C (by decide) (by decide) qE_0 hE trivial
  · exact Step_q I (H_find_t1 (d := 19) hb (c_find_nt (d := 18) (Y := Y) hb hT)) (cx_find_nt (d := 18) hb (fun z => hT ⟨(e2 u).mpr z.1, (e2 v).mpr z.2⟩)) (by decide) (by decide) qE_0 tE_2 trivial
theorem S_meetingOf {b : SBt} {Y : OUt} {M : MM} (I : Inv b M) (x v : Int32) : Step b Y M yL_meetingOf cL_meetingOf 5 [(0, 10, 13, 45), (0, 10, 17, 47)] [.ref 0, .int x, .int v, .ref 102] yX6_meetingOf cX6_meetingOf 3 (some .int) [.ref 94, .int x, .int v] cmpT := by
  have hb := I.hb
  obtain ⟨t, dr, hL, hF⟩ := Inv_now I
  have ht := hL.1
  have hn := nn_le (dr := dr) ht
  have hm := jmc_r hL hF
  have hw := jwc_r hL hF
  have hz14 := zz_le (dr := dr) ht
  have h10 : M 1 0 = nI t := hL.2.1
  have h950 : M 95 0 = nI t := hL.2.2.1
  have h951 : M 95 1 = nI (zz t dr) := hL.2.2.2.2.2.2.1
  have h959 : M 95 9 = nI (nn t dr) := hL.2.2.2.2.2.2.2.1
  by_cases hT : ∃ q, q < nn t dr ∧ x = nI q
  · have hT1 := (in_q1 (x := x) (n := nn t dr) (by omega)).mpr hT
    obtain ⟨q, hq, rfl⟩ := hT
    rw [← hm] at hT1
    by_cases hx : ¬ v < 0 ∧ ¬ 6 < v
    · obtain ⟨z, hz, rfl⟩ := int_rng (u := v) (n := 6) (by decide) hx.1 hx.2
      rcases (show z = 0 ∨ z = 1 ∨ z = 2 ∨ z = 3 ∨ z = 4 ∨ z = 5 ∨ z = 6 by omega) with rfl | rfl | rfl | rfl | rfl | rfl | rfl
      · exact Step_q I (H_meetingOf_r hb (c_meetingOf_k0 (d := 16) (Y := Y) hb hT1)) (cx_meetingOf_k0 (d := 16) hb hn h959 hq) (by decide) (by decide) qE_0 tE_1 trivial
      · exact Step_q I (H_meetingOf_r hb (c_meetingOf_k1 (d := 16) (Y := Y) hb hT1)) (cx_meetingOf_k1 (d := 16) hb hn h959 hq) (by decide) (by decide) qE_0 tE_1 trivial
      · exact Step_q I (H_meetingOf_r hb (c_meetingOf_k2 (d := 16) (Y := Y) hb hT1)) (cx_meetingOf_k2 (d := 16) hb hn h959 hq) (by decide) (by decide) qE_0 tE_1 trivial
      · exact Step_q I (H_meetingOf_r hb (c_meetingOf_k3 (d := 16) (Y := Y) hb hT1)) (cx_meetingOf_k3 (d := 16) hb hn h959 hq) (by decide) (by decide) qE_0 tE_1 trivial
      · exact Step_q I (H_meetingOf_r hb (c_meetingOf_k4 (d := 16) (Y := Y) hb hT1)) (cx_meetingOf_k4 (d := 16) hb hn h959 hq) (by decide) (by decide) qE_0 tE_1 trivial
      · exact Step_q I (H_meetingOf_r hb (c_meetingOf_k5 (d := 16) (Y := Y) hb hT1)) (cx_meetingOf_k5 (d := 16) hb hn h959 hq) (by decide) (by decide) qE_0 tE_1 trivial
      · exact Step_q I (H_meetingOf_r hb (c_meetingOf_k6 (d := 16) (Y := Y) hb hT1)) (cx_meetingOf_k6 (d := 16) hb hn h959 hq) (by decide) (by decide) qE_0 tE_1 trivial
    · refine Step_q I (H_meetingOf_t2 (d := 19) hb (c_meetingOf_bad (d := 17) (Y := Y) hb hT1 (le_n.mpr hx))) (cx_meetingOf_bad (d := 16) hb hn h959 hq ?_) (by decide) (by decide) qE_0 tE_2 trivial
      by_cases c : v < 0
      · exact Or.inl (by rw [Int32.lt_iff_toInt_lt] at c; exact c)
      · exact Or.inr (by
          have c2 : (6 : Int32) < v := Decidable.byContradiction fun z => hx ⟨c, z⟩
          rw [Int32.lt_iff_toInt_lt] at c2
          exact c2)
  · have hT1 : ¬ (¬ x < 0 ∧ ¬ jmc M ≤ x) := by rw [hm]; exact fun z => hT ((in_q1 (by omega)).mp z)
    exact Step_q I (H_meetingOf_t1 (d := 19) hb (c_meetingOf_nt (d := 17) (Y := Y) hb hT1)) (cx_meetingOf_nt (d := 18) hb (by rw [h959]; exact fun z => hT ((in_q2 hn).mp z))) (by decide) (by decide) qE_0 tE_2 trivial
theorem S_freeWeek {b : SBt} {Y : OUt} {M : MM} (I : Inv b M) (x : Int32) : Step b Y M yL_freeWeek cL_freeWeek 4 [(0, 9, 12, 45), (0, 9, 15, 58)] [.ref 0, .int x, .ref 102] yX6_freeWeek cX6_freeWeek 3 (some .int) [.ref 94, .int x] cmpT := by
  have hb := I.hb
  obtain ⟨t, dr, hL, hF⟩ := Inv_now I
  have ht := hL.1
  have hn := nn_le (dr := dr) ht
  have hm := jmc_r hL hF
  have hw := jwc_r hL hF
  have hz14 := zz_le (dr := dr) ht
  have h10 : M 1 0 = nI t := hL.2.1
  have h950 : M 95 0 = nI t := hL.2.2.1
  have h951 : M 95 1 = nI (zz t dr) := hL.2.2.2.2.2.2.1
  have h959 : M 95 9 = nI (nn t dr) := hL.2.2.2.2.2.2.2.1
  by_cases hT : ∃ q, q < nn t dr ∧ x = nI q
  · have hT1 := (in_q1 (x := x) (n := nn t dr) (by omega)).mpr hT
    obtain ⟨q, hq, rfl⟩ := hT
    rw [← hm] at hT1
    have hd : dr = true := by
      cases dr with
      | true => rfl
      | false => exact absurd hq (Nat.not_lt_zero q)
    subst hd
    obtain ⟨w0, w1, -, y2, -, y4, -⟩ := (mt_of.mp (hL.2.2.2.2.2.2.2.2.2.2.2.2 q hq)).2.2.2.2.1
    have y1 := (mt_q hL hq).2
    have hq56 : q < 56 := Nat.lt_of_lt_of_le hq hn
    have hat : jat 56 (M 4) (nI q) = nI w1 := by rw [jat_nI hq56 (by decide), y1]; exact y2
    have hC : ∀ {Y1 : OUt}, ∃ (w : Int32) (M2 : MM), CM 20 0 0 yX6_freeWeek cX6_freeWeek 3 (some .int) [.ref 94, .int (nI q)] b Y1 M (.inl (some (.int w))) M2 ∧ tE M M2 := fun {Y1} => by
      by_cases h : gfree M (nn t true) (zz t true) w1 q = -1
      · exact ⟨_, _, cx_freeWeek_no (d := 17) hb hn h959 hq (hho_r hL) hz14 h951 y2 y4 h, tE_2⟩
      · exact ⟨_, _, cx_freeWeek_ok (d := 17) hb hn h959 hq (hho_r hL) hz14 h951 y2 y4 h, tE_1⟩
    by_cases h : jfree M (nn t true) (zz t true) w1 (nI q) = -1
    · obtain ⟨w, M2, C, hE⟩ := hC (Y1 := Y)
      exact Step_q I (H_freeWeek_t2 (d := 19) hb (c_freeWeek_no (d := 15) (Y := Y) hb hT1 hn hm hz14 hw hat y4 h)) C (by decide) (by decide) qE_0 hE trivial
    · obtain ⟨w, M2, C, hE⟩ := hC (Y1 := (ju Y.1 0 (jfree M (nn t true) (zz t true) w1 (nI q)).toInt64, Y.2))
      exact Step_q I (H_freeWeek_r hb (c_freeWeek_ok (d := 15) (Y := Y) hb hT1 hn hm hz14 hw hat y4 h)) C (by decide) (by decide) qE_0 hE trivial
  · have hT1 : ¬ (¬ x < 0 ∧ ¬ jmc M ≤ x) := by rw [hm]; exact fun z => hT ((in_q1 (by omega)).mp z)
    exact Step_q I (H_freeWeek_t1 (d := 19) hb (c_freeWeek_nt (d := 17) (Y := Y) hb hT1)) (cx_freeWeek_nt (d := 18) hb (by rw [h959]; exact fun z => hT ((in_q2 hn).mp z))) (by decide) (by decide) qE_0 tE_2 trivial
theorem S_byeIn {b : SBt} {Y : OUt} {M : MM} (I : Inv b M) (x : Int32) : Step b Y M yL_byeIn cL_byeIn 4 [(0, 9, 12, 45), (0, 9, 15, 58)] [.ref 0, .int x, .ref 102] yX6_byeIn cX6_byeIn 2 (some .int) [.ref 94, .int x] cmpT := by
  have hb := I.hb
  obtain ⟨t, dr, hL, hF⟩ := Inv_now I
  have ht := hL.1
  have hn := nn_le (dr := dr) ht
  have hm := jmc_r hL hF
  have hw := jwc_r hL hF
  have hz14 := zz_le (dr := dr) ht
  have h10 : M 1 0 = nI t := hL.2.1
  have h950 : M 95 0 = nI t := hL.2.2.1
  have h951 : M 95 1 = nI (zz t dr) := hL.2.2.2.2.2.2.1
  have h959 : M 95 9 = nI (nn t dr) := hL.2.2.2.2.2.2.2.1
  have e2 : (¬ x < 0 ∧ ¬ jwc M ≤ x) ↔ (¬ x < 0 ∧ ¬ M 95 1 - 1 < x) := isW_r hL hF
  by_cases hT : ¬ x < 0 ∧ ¬ jwc M ≤ x
  · have hX := e2.mp hT
    have hd : dr = true := by
      cases dr with
      | true => rfl
      | false =>
        rw [hw] at hT
        obtain ⟨q, q1, -⟩ := (in_q1 (by omega)).mp hT
        exact absurd q1 (Nat.not_lt_zero q)
    have h2 := hL.2.2.2.2.1 hd
    have hp : ¬ gpl (nI t) - 1 = 0 := by
      have := gP_le h2 ht
      rw [gpl_nI ht]
      obtain ⟨p, hp⟩ : ∃ p, gP t = p + 1 := ⟨gP t - 1, by omega⟩
      rw [hp, nI_pred]
      exact nI_ne0 (by omega) (by omega)
    have hC : ∀ {Y1 : OUt}, ∃ (w : Int32) (M2 : MM), CM 20 0 0 yX6_byeIn cX6_byeIn 2 (some .int) [.ref 94, .int x] b Y1 M (.inl (some (.int w))) M2 ∧ tE M M2 := fun {Y1} => by
      by_cases h : nI t - nI t / 2 * 2 = 0
      · exact ⟨_, _, cx_byeIn_no (d := 18) hb hX h950 h, tE_2⟩
      · exact ⟨_, _, cx_byeIn_ok (d := 18) hb hX h950 h hp, tE_1⟩
    by_cases h : jat 14 (M 73) x = -1
    · obtain ⟨w, M2, C, hE⟩ := hC (Y1 := Y)
      exact Step_q I (H_byeIn_t2 (d := 19) hb (c_byeIn_no (d := 17) (Y := Y) hb hT h)) C (by decide) (by decide) qE_0 hE trivial
    · obtain ⟨w, M2, C, hE⟩ := hC (Y1 := (ju Y.1 0 (jat 14 (M 73) x).toInt64, Y.2))
      exact Step_q I (H_byeIn_r hb (c_byeIn_ok (d := 17) (Y := Y) hb hT h)) C (by decide) (by decide) qE_0 hE trivial
  · exact Step_q I (H_byeIn_t1 (d := 19) hb (c_byeIn_nt (d := 17) (Y := Y) hb hT)) (cx_byeIn_nt (d := 18) hb (fun z => hT (e2.mpr z))) (by decide) (by decide) qE_0 tE_2 trivial
theorem S_meetingsIn {b : SBt} {Y : OUt} {M : MM} (I : Inv b M) (x : Int32) : Step b Y M yL_meetingsIn cL_meetingsIn 4 [(0, 9, 12, 45)] [.ref 0, .int x, .ref 102] yX6_meetingsIn cX6_meetingsIn 4 (some .int) [.ref 94, .int x] cmpT := by
  have hb := I.hb
  obtain ⟨t, dr, hL, hF⟩ := Inv_now I
  have ht := hL.1
  have hn := nn_le (dr := dr) ht
  have hm := jmc_r hL hF
  have hw := jwc_r hL hF
  have hz14 := zz_le (dr := dr) ht
  have h10 : M 1 0 = nI t := hL.2.1
  have h950 : M 95 0 = nI t := hL.2.2.1
  have h951 : M 95 1 = nI (zz t dr) := hL.2.2.2.2.2.2.1
  have h959 : M 95 9 = nI (nn t dr) := hL.2.2.2.2.2.2.2.1
  have e2 : (¬ x < 0 ∧ ¬ jwc M ≤ x) ↔ (¬ x < 0 ∧ ¬ M 95 1 - 1 < x) := isW_r hL hF
  by_cases hT : ¬ x < 0 ∧ ¬ jwc M ≤ x
  · have hX := e2.mp hT
    exact Step_q I (H_meetingsIn_r hb (c_meetingsIn (d := 17) (Y := Y) hb hT hn hm)) (cx_meetingsIn (d := 18) hb hX hn h959) (by decide) (by decide) qE_0 tE_1 trivial
  · exact Step_q I (H_meetingsIn_t1 (d := 19) hb (c_meetingsIn_nt (d := 17) (Y := Y) hb hT)) (cx_meetingsIn_nt (d := 18) hb (fun z => hT (e2.mpr z))) (by decide) (by decide) qE_0 tE_2 trivial
theorem S_clashes {b : SBt} {Y : OUt} {M : MM} (I : Inv b M) (x : Int32) : Step b Y M yL_clashes cL_clashes 4 [(0, 9, 12, 45)] [.ref 0, .int x, .ref 102] yX6_clashes_ cX6_clashes_ 2 (some .int) [.ref 94, .int x] cmpT := by
  have hb := I.hb
  obtain ⟨t, dr, hL, hF⟩ := Inv_now I
  have ht := hL.1
  have hn := nn_le (dr := dr) ht
  have hm := jmc_r hL hF
  have hw := jwc_r hL hF
  have hz14 := zz_le (dr := dr) ht
  have h10 : M 1 0 = nI t := hL.2.1
  have h950 : M 95 0 = nI t := hL.2.2.1
  have h951 : M 95 1 = nI (zz t dr) := hL.2.2.2.2.2.2.1
  have h959 : M 95 9 = nI (nn t dr) := hL.2.2.2.2.2.2.2.1
  have e2 : (¬ x < 0 ∧ ¬ jwc M ≤ x) ↔ (¬ x < 0 ∧ ¬ M 95 1 - 1 < x) := isW_r hL hF
  by_cases hT : ¬ x < 0 ∧ ¬ jwc M ≤ x
  · have hX := e2.mp hT
    exact Step_q I (H_clashes_r hb (c_clashes (d := 15) (Y := Y) hb hT hn hm)) (cx_clashesW (d := 16) hb hX hn h959 (hho_r hL)) (by decide) (by decide) qE_0 tE_1 trivial
  · exact Step_q I (H_clashes_t1 (d := 19) hb (c_clashes_nt (d := 17) (Y := Y) hb hT)) (cx_clashes_nt (d := 18) hb (fun z => hT (e2.mpr z))) (by decide) (by decide) qE_0 tE_2 trivial
theorem S_ranked {b : SBt} {Y : OUt} {M : MM} (I : Inv b M) (x : Int32) : Step b Y M yL_ranked cL_ranked 4 [(0, 9, 12, 58)] [.ref 0, .int x, .ref 102] yX6_ranked cX6_ranked 3 (some .int) [.ref 94, .int x] cmpT := by
  have hb := I.hb
  obtain ⟨t, dr, hL, hF⟩ := Inv_now I
  have ht := hL.1
  have hn := nn_le (dr := dr) ht
  have hm := jmc_r hL hF
  have hw := jwc_r hL hF
  have hz14 := zz_le (dr := dr) ht
  have h10 : M 1 0 = nI t := hL.2.1
  have h950 : M 95 0 = nI t := hL.2.2.1
  have h951 : M 95 1 = nI (zz t dr) := hL.2.2.2.2.2.2.1
  have h959 : M 95 9 = nI (nn t dr) := hL.2.2.2.2.2.2.2.1
  obtain ⟨r, hr3, h6, h5, hru1, hru2⟩ := rL_rules hL
  have hC : ∀ {Y1 : OUt} {M1 : MM}, qE M M1 → ∃ (w : Int32) (M2 : MM), CM 20 0 0 yX6_ranked cX6_ranked 3 (some .int) [.ref 94, .int x] b Y1 M1 (.inl (some (.int w))) M2 ∧ tE M1 M2 := fun {Y1 M1} hE => by
    have g9 : M1 95 9 = nI (nn t dr) := (hE 95 9 (by omega)).trans h959
    have g0 : M1 95 0 = nI t := (hE 95 0 (by omega)).trans h950
    have g5 : M1 95 5 = nI r := (hE 95 5 (by omega)).trans h5
    have gr : ∀ i, i < r → r04 (M1 95 (6 + i)) := fun i hi => by rw [hE 95 _ (by omega)]; exact hru2 i hi
    by_cases h : jfst (fRank (jm M1 94 19 0) (nn t dr) t r x) t = -1
    · exact ⟨_, _, cx_ranked_no (d := 11) hb hn g9 ht g0 hr3 g5 gr h, tE_2⟩
    · exact ⟨_, _, cx_ranked_ok (d := 11) hb hn g9 ht g0 hr3 g5 gr h, tE_1⟩
  by_cases hT : ¬ x < 0 ∧ x < M 1 0
  · have hq : qE M (jso (jcount M (nn t dr)) r t) := fun i c q => (jso_n (by omega) _).trans (jcount_n (by omega))
    obtain ⟨w, M2, C, hE⟩ := hC (Y1 := (ju Y.1 0 (jat 8 (jso (jcount M (nn t dr)) r t 85) x).toInt64, Y.2)) hq
    exact Step_q I (H_ranked_r hb (c_ranked_ok (d := 14) (Y := Y) hb hT hn hm ht h10 hr3 h6 hru1)) C (by decide) (by decide) hq hE trivial
  · obtain ⟨w, M2, C, hE⟩ := hC (Y1 := Y) qE_0
    exact Step_q I (H_ranked_t1 (d := 19) hb (c_ranked_no (d := 18) (Y := Y) hb hT)) C (by decide) (by decide) qE_0 hE trivial
theorem S_reason {b : SBt} {Y : OUt} {M : MM} (I : Inv b M) (x : Int32) : Step b Y M yL_reason cL_reason 4 [(0, 9, 12, 47), (0, 9, 15, 58)] [.ref 0, .int x, .ref 102] yX6_reason cX6_reason 2 (some .int) [.ref 94, .int x] cmpI := by
  have hb := I.hb
  obtain ⟨r1, r2, r3, r4, r5, -⟩ : rRs M M := by
    obtain ⟨τ, k, j, -, -, -, -, -, -, -, -, -, -, -, h⟩ := I.1
    exact h
  by_cases hx : ¬ x < 0 ∧ ¬ 2 < x
  · by_cases h0 : M 0 9 = 0
    · exact Step_q I (H_reason_t2 (d := 19) hb (c_reason_no (d := 19) (Y := Y) hb (fun z => le_n.mp z hx) h0)) (cx_reason_0 (d := 19) hb hx (r1.symm.trans h0)) (by decide) (by decide) qE_0 tE_2 (cmp_no jm_s (by decide))
    · have h1 : ¬ M 94 14 = 0 := fun z => h0 (r1.trans z)
      obtain ⟨z, hz, rfl⟩ := int_rng (u := x) (n := 2) (by decide) hx.1 hx.2
      rcases (show z = 0 ∨ z = 1 ∨ z = 2 by omega) with rfl | rfl | rfl
      · exact Step_q I (H_reason_r hb (c_reason_0 (d := 19) (Y := Y) hb h0)) (cx_reason_k0 (d := 19) hb h1) (by decide) (by decide) qE_0 tE_1 (cmp_eq jm_s (by rw [jm_n (by omega)]; exact r1))
      · exact Step_q I (H_reason_r hb (c_reason_1 (d := 19) (Y := Y) hb h0)) (cx_reason_k1 (d := 19) hb h1) (by decide) (by decide) qE_0 tE_1 (cmp_eq jm_s (by rw [jm_n (by omega)]; exact r2))
      · exact Step_q I (H_reason_r hb (c_reason_2 (d := 19) (Y := Y) hb h0)) (cx_reason_k2 (d := 19) hb h1) (by decide) (by decide) qE_0 tE_1 (cmp_eq jm_s (by rw [jm_n (by omega)]; exact r3))
  · exact Step_q I (H_reason_t1 (d := 19) hb (c_reason_bad (d := 19) (Y := Y) hb (le_n.mpr hx))) (cx_reason_bad (d := 19) hb hx) (by decide) (by decide) qE_0 tE_2 (cmp_no jm_s (by decide))
theorem S_account {b : SBt} {Y : OUt} {M : MM} (I : Inv b M) (x : Int32) : Step b Y M yL_account cL_account 4 [(0, 9, 12, 47)] [.ref 0, .int x, .ref 102] yX6_account cX6_account 4 (some .int) [.ref 94, .int x] cmpT := by
  have hb := I.hb
  obtain ⟨t, dr, hL, hF⟩ := Inv_now I
  have ht := hL.1
  have hn := nn_le (dr := dr) ht
  have hm := jmc_r hL hF
  have hw := jwc_r hL hF
  have hz14 := zz_le (dr := dr) ht
  have h10 : M 1 0 = nI t := hL.2.1
  have h950 : M 95 0 = nI t := hL.2.2.1
  have h951 : M 95 1 = nI (zz t dr) := hL.2.2.2.2.2.2.1
  have h959 : M 95 9 = nI (nn t dr) := hL.2.2.2.2.2.2.2.1
  by_cases hx : ¬ x < 0 ∧ ¬ 14 < x
  · obtain ⟨z, hz, rfl⟩ := int_rng (u := x) (n := 14) (by decide) hx.1 hx.2
    rcases (show z = 0 ∨ z = 1 ∨ z = 2 ∨ z = 3 ∨ z = 4 ∨ z = 5 ∨ z = 6 ∨ z = 7 ∨ z = 8 ∨ z = 9 ∨ z = 10 ∨ z = 11 ∨ z = 12 ∨ z = 13 ∨ z = 14 by omega) with rfl | rfl | rfl | rfl | rfl | rfl | rfl | rfl | rfl | rfl | rfl | rfl | rfl | rfl | rfl
    · exact Step_q I (H_account_r hb (c_account_k0 (d := 14) (Y := Y) hb hn hm)) (cx_account_q0 (d := 17) hb ) (by decide) (by decide) qE_c tE_1 trivial
    · exact Step_q I (H_account_r hb (c_account_k1 (d := 14) (Y := Y) hb hn hm)) (cx_account_q1 (d := 17) hb ) (by decide) (by decide) qE_c tE_1 trivial
    · exact Step_q I (H_account_r hb (c_account_k2 (d := 14) (Y := Y) hb hn hm)) (cx_account_q2 (d := 17) hb ) (by decide) (by decide) qE_c tE_1 trivial
    · exact Step_q I (H_account_r hb (c_account_k3 (d := 14) (Y := Y) hb hn hm)) (cx_account_q3 (d := 17) hb ) (by decide) (by decide) qE_c tE_1 trivial
    · exact Step_q I (H_account_r hb (c_account_k4 (d := 14) (Y := Y) hb hn hm)) (cx_account_q4 (d := 17) hb ) (by decide) (by decide) qE_c tE_1 trivial
    · exact Step_q I (H_account_r hb (c_account_k5 (d := 14) (Y := Y) hb hn hm)) (cx_account_q5 (d := 17) hb hn (by rw [jcount_n (by omega)]; exact h959)) (by decide) (by decide) qE_c tE_1 trivial
    · exact Step_q I (H_account_r hb (c_account_k6 (d := 14) (Y := Y) hb hn hm)) (cx_account_q6 (d := 17) hb hn (by rw [jcount_n (by omega)]; exact h959)) (by decide) (by decide) qE_c tE_1 trivial
    · exact Step_q I (H_account_r hb (c_account_k7 (d := 14) (Y := Y) hb hn hm)) (cx_account_q7 (d := 17) hb ) (by decide) (by decide) qE_c tE_1 trivial
    · exact Step_q I (H_account_r hb (c_account_k8 (d := 14) (Y := Y) hb hn hm)) (cx_account_q8 (d := 17) hb ) (by decide) (by decide) qE_c tE_1 trivial
    · exact Step_q I (H_account_r hb (c_account_k9 (d := 14) (Y := Y) hb hn hm)) (cx_account_q9 (d := 17) hb ) (by decide) (by decide) qE_c tE_1 trivial
    · exact Step_q I (H_account_r hb (c_account_k10 (d := 14) (Y := Y) hb hn hm)) (cx_account_q10 (d := 17) hb hn (by rw [jcount_n (by omega)]; exact h959)) (by decide) (by decide) qE_c tE_1 trivial
    · exact Step_q I (H_account_r hb (c_account_k11 (d := 14) (Y := Y) hb hn hm ht h10)) (cx_account_q11 (d := 16) hb hn (by rw [jcount_n (by omega)]; exact h959) ht (by rw [jcount_n (by omega)]; exact h950)) (by decide) (by decide) qE_c tE_1 trivial
    · exact Step_q I (H_account_r hb (c_account_k12 (d := 14) (Y := Y) hb hn hm hz14 hw)) (cx_account_q12 (d := 16) hb hn (by rw [jcount_n (by omega)]; exact h959) (fun i hi => by unfold jof; rw [jcount_n (by omega)]; exact hho_r hL i hi) hz14 (by rw [jcount_n (by omega)]; exact h951)) (by decide) (by decide) qE_c tE_1 trivial
    · exact Step_q I (H_account_r hb (c_account_k13 (d := 14) (Y := Y) hb hn hm)) (cx_account_q13 (d := 17) hb ) (by decide) (by decide) qE_c tE_1 trivial
    · exact Step_q I (H_account_r hb (c_account_k14 (d := 14) (Y := Y) hb hn hm)) (cx_account_q14 (d := 17) hb ) (by decide) (by decide) qE_c tE_1 trivial
  · refine Step_q I (H_account_t1 (d := 19) hb (c_account_bad (d := 19) (Y := Y) hb (le_n.mpr hx))) (cx_account_bad (d := 18) hb ?_) (by decide) (by decide) qE_0 tE_2 trivial
    by_cases c : x < 0
    · exact Or.inl (by rw [Int32.lt_iff_toInt_lt] at c; exact c)
    · exact Or.inr (by
        have c2 : (14 : Int32) < x := Decidable.byContradiction fun z => hx ⟨c, z⟩
        rw [Int32.lt_iff_toInt_lt] at c2
        exact c2)
theorem S_character {b : SBt} {Y : OUt} {M : MM} (I : Inv b M) (x : Int32) : Step b Y M yL_character cL_character 4 [(0, 9, 12, 45)] [.ref 0, .int x, .ref 102] yX6_character cX6_character 2 (some .char) [.ref 94, .int x] cmpT := by
  have hb := I.hb
  obtain ⟨-, -, -, -, -, q, hq, h7⟩ : rRs M M := by
    obtain ⟨τ, k, j, -, -, -, -, -, -, -, -, -, -, -, h⟩ := I.1
    exact h
  have hC : ∀ {Y1 : OUt}, ∃ (w : Int32) (M2 : MM), CM 20 0 0 yX6_character cX6_character 2 (some .char) [.ref 94, .int x] b Y1 M (.inl (some (.int w))) M2 ∧ tE M M2 := fun {Y1} => by
    by_cases h : ¬ x < 0 ∧ ¬ M 94 7 - 1 < x
    · obtain ⟨i, h1, rfl⟩ := (in_q2 (x := x) (n := q) (by omega)).mp (by rw [← h7]; exact h)
      exact ⟨_, _, cx_character_ok (d := 19) hb (by omega) h rfl (i2c_nar _), tE_1⟩
    · exact ⟨_, _, cx_character_bad (d := 19) hb h, tE_1⟩
  obtain ⟨n, c, h1, h2, h3, h4, h5⟩ := I.2
  by_cases h : ¬ x < 0 ∧ ¬ nI c ≤ x
  · obtain ⟨i, g1, rfl⟩ := (in_q1 (by omega)).mp h
    obtain ⟨w, M2, C, hE⟩ := hC
    exact Step_q I (H_character_r hb (c_character (d := 15) (Y := Y) hb h1 h2 h3 g1 h5)) C (by decide) (by decide) qE_0 hE trivial
  · obtain ⟨w, M2, C, hE⟩ := hC
    exact Step_q I (H_character_t1 (d := 19) hb (c_character_bad (d := 17) (Y := Y) hb h3 (by omega) h)) C (by decide) (by decide) qE_0 hE trivial
