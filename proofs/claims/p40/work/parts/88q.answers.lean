/-! ===== what the questions answer ===== -/
def InvP (b : SBt) (A B : MM) : Prop := Rel A B ∧ SBp b A
theorem InvP.hb {b : SBt} {A B : MM} (I : InvP b A B) : 94 ≤ b.2.1 := by
  obtain ⟨-, n, c, h, -⟩ := I
  exact h.2.2.1
theorem InvP.q {b : SBt} {A A1 B : MM} (I : InvP b A B) (h : qE A A1) : InvP b A1 B :=
  ⟨Rel_c I.1 (fun i k q _ => h i k (by omega)) (fun _ _ _ => rfl), SBp_c I.2 (fun i k q => h i k (by omega))⟩
theorem InvP.now {b : SBt} {A B : MM} (I : InvP b A B) : ∃ t dr, rL t dr (lgC A 1) (B 95) ∧ (dr = true → rFix t A) := by
  obtain ⟨τ, k, j, hP⟩ := Rel_P.mp I.1
  exact ⟨(τ k).1, (τ k).2, hP.now, hP.fix⟩
/-- a helper's call that answers v and changes nothing but what is counted anew -/
def SPq (b : SBt) (Y : OUt) (A : MM) (yL : MethodName) (cL : ByteArray) (mL : Nat) (rt : Option FieldType) (hh : List (Nat × Nat × Nat × Nat)) (asL : List Value) (v : Value) : Prop :=
  ∃ mc ms, mc ≤ 1 ∧ ms ≤ 6 ∧ ConH 20 mc ms yL cL mL rt hh asL (HH b Y A) (fun o s => ∃ A1, o = .inl (some v) ∧ s = HH b Y A1 ∧ qE A A1)
theorem SPq.mk {b : SBt} {Y : OUt} {A A1 : MM} {yL : MethodName} {cL : ByteArray} {mL : Nat} {rt : Option FieldType} {hh : List (Nat × Nat × Nat × Nat)} {asL : List Value} {mc ms : Nat} {k w : Int32} (H : CMH 20 mc ms yL cL mL rt hh asL b Y A k Y A1) (hmc : mc ≤ 1) (hms : ms ≤ 6) (h1 : qE A A1) (e : k = w) : SPq b Y A yL cL mL rt hh asL (.int w) := by
  subst e
  exact ⟨mc, ms, hmc, hms, ConH.mono H fun o s q => ⟨A1, q.1, q.2, h1⟩⟩
def gReach (B : MM) (n q : Nat) : Int32 := gH B n (nI q) 1 + (if B 95 3 < B 95 4 then B 95 4 else B 95 3) * gH B n (nI q) 8
def gSafe (B : MM) (n t q : Nat) : Int32 := if jb (jfst (fun i => jb (¬ nI i = nI q ∧ ¬ gReach B n i < gH B n (nI q) 1)) t = -1) = 0 then 0 else 1
def gOut (B : MM) (n t q : Nat) : Int32 := if jb (¬ jfst (fun i => jb (¬ nI i = nI q ∧ ¬ gH B n (nI i) 1 ≤ gReach B n q)) t = -1) = 0 then 0 else 1
def gOr2 (v : Int32) : Int32 := if v = -1 then -1002 else v
theorem Q_teamOf_0 {t : Nat} {dr : Bool} {b : SBt} {Y : OUt} {A B : MM} (hb : 94 ≤ b.2.1) (hL : rL t dr (lgC A 1) (B 95)) (hF : dr = true → rFix t A) {q : Nat} (hq : q < t) : SPq b Y A yL_teamOf cL_teamOf 4 (some .int) [(0, 6, 7, 45), (0, 6, 12, 47)] [.ref 0, .int (nI q), .int 0] (.int (B 95 (10 + q))) := by
  have ht := hL.1
  have hn := nn_le (dr := dr) ht
  have hm := jmc_r hL hF
  have hw := jwc_r hL hF
  have hz14 := zz_le (dr := dr) ht
  have h10 : A 1 0 = nI t := hL.2.1
  have hT : ¬ nI q < 0 ∧ ¬ A 1 0 ≤ nI q := by rw [h10]; exact (in_q1 (by omega)).mpr ⟨q, hq, rfl⟩
  exact SPq.mk (H_teamOf_r hb (c_teamOf_k0 (d := 14) (Y := Y) hb hT hn hm)) (by decide) (by decide) qE_c (by rw [jat_nI (by omega) (by decide), jcount_n (by omega)]; exact hL.2.2.2.1 q (by omega))
theorem Q_teamOf_1 {t : Nat} {dr : Bool} {b : SBt} {Y : OUt} {A B : MM} (hb : 94 ≤ b.2.1) (hL : rL t dr (lgC A 1) (B 95)) (hF : dr = true → rFix t A) {q : Nat} (hq : q < t) : SPq b Y A yL_teamOf cL_teamOf 4 (some .int) [(0, 6, 7, 45), (0, 6, 12, 47)] [.ref 0, .int (nI q), .int 1] (.int (gH B (nn t dr) (nI q) 1)) := by
  have ht := hL.1
  have hn := nn_le (dr := dr) ht
  have hm := jmc_r hL hF
  have hw := jwc_r hL hF
  have hz14 := zz_le (dr := dr) ht
  have h10 : A 1 0 = nI t := hL.2.1
  have hta : ∀ (k q : Nat), 1 ≤ k → k ≤ 8 → q < 8 → jat 8 (jcount A (nn t dr) (75 + k)) (nI q) = gH B (nn t dr) (nI q) k := fun k q h1 h2 h3 => by rw [jat_nI h3 (by decide)]; exact tally_r hL hF h1 h2 h3
  have hT : ¬ nI q < 0 ∧ ¬ A 1 0 ≤ nI q := by rw [h10]; exact (in_q1 (by omega)).mpr ⟨q, hq, rfl⟩
  exact SPq.mk (H_teamOf_r hb (c_teamOf_k1 (d := 14) (Y := Y) hb hT hn hm)) (by decide) (by decide) qE_c (hta 1 q (by omega) (by omega) (by omega))
theorem Q_teamOf_2 {t : Nat} {dr : Bool} {b : SBt} {Y : OUt} {A B : MM} (hb : 94 ≤ b.2.1) (hL : rL t dr (lgC A 1) (B 95)) (hF : dr = true → rFix t A) {q : Nat} (hq : q < t) : SPq b Y A yL_teamOf cL_teamOf 4 (some .int) [(0, 6, 7, 45), (0, 6, 12, 47)] [.ref 0, .int (nI q), .int 2] (.int (gH B (nn t dr) (nI q) 2)) := by
  have ht := hL.1
  have hn := nn_le (dr := dr) ht
  have hm := jmc_r hL hF
  have hw := jwc_r hL hF
  have hz14 := zz_le (dr := dr) ht
  have h10 : A 1 0 = nI t := hL.2.1
  have hta : ∀ (k q : Nat), 1 ≤ k → k ≤ 8 → q < 8 → jat 8 (jcount A (nn t dr) (75 + k)) (nI q) = gH B (nn t dr) (nI q) k := fun k q h1 h2 h3 => by rw [jat_nI h3 (by decide)]; exact tally_r hL hF h1 h2 h3
  have hT : ¬ nI q < 0 ∧ ¬ A 1 0 ≤ nI q := by rw [h10]; exact (in_q1 (by omega)).mpr ⟨q, hq, rfl⟩
  exact SPq.mk (H_teamOf_r hb (c_teamOf_k2 (d := 14) (Y := Y) hb hT hn hm)) (by decide) (by decide) qE_c (hta 2 q (by omega) (by omega) (by omega))
theorem Q_teamOf_3 {t : Nat} {dr : Bool} {b : SBt} {Y : OUt} {A B : MM} (hb : 94 ≤ b.2.1) (hL : rL t dr (lgC A 1) (B 95)) (hF : dr = true → rFix t A) {q : Nat} (hq : q < t) : SPq b Y A yL_teamOf cL_teamOf 4 (some .int) [(0, 6, 7, 45), (0, 6, 12, 47)] [.ref 0, .int (nI q), .int 3] (.int (gH B (nn t dr) (nI q) 3)) := by
  have ht := hL.1
  have hn := nn_le (dr := dr) ht
  have hm := jmc_r hL hF
  have hw := jwc_r hL hF
  have hz14 := zz_le (dr := dr) ht
  have h10 : A 1 0 = nI t := hL.2.1
  have hta : ∀ (k q : Nat), 1 ≤ k → k ≤ 8 → q < 8 → jat 8 (jcount A (nn t dr) (75 + k)) (nI q) = gH B (nn t dr) (nI q) k := fun k q h1 h2 h3 => by rw [jat_nI h3 (by decide)]; exact tally_r hL hF h1 h2 h3
  have hT : ¬ nI q < 0 ∧ ¬ A 1 0 ≤ nI q := by rw [h10]; exact (in_q1 (by omega)).mpr ⟨q, hq, rfl⟩
  exact SPq.mk (H_teamOf_r hb (c_teamOf_k3 (d := 14) (Y := Y) hb hT hn hm)) (by decide) (by decide) qE_c (hta 3 q (by omega) (by omega) (by omega))
theorem Q_teamOf_4 {t : Nat} {dr : Bool} {b : SBt} {Y : OUt} {A B : MM} (hb : 94 ≤ b.2.1) (hL : rL t dr (lgC A 1) (B 95)) (hF : dr = true → rFix t A) {q : Nat} (hq : q < t) : SPq b Y A yL_teamOf cL_teamOf 4 (some .int) [(0, 6, 7, 45), (0, 6, 12, 47)] [.ref 0, .int (nI q), .int 4] (.int (gH B (nn t dr) (nI q) 4)) := by
  have ht := hL.1
  have hn := nn_le (dr := dr) ht
  have hm := jmc_r hL hF
  have hw := jwc_r hL hF
  have hz14 := zz_le (dr := dr) ht
  have h10 : A 1 0 = nI t := hL.2.1
  have hta : ∀ (k q : Nat), 1 ≤ k → k ≤ 8 → q < 8 → jat 8 (jcount A (nn t dr) (75 + k)) (nI q) = gH B (nn t dr) (nI q) k := fun k q h1 h2 h3 => by rw [jat_nI h3 (by decide)]; exact tally_r hL hF h1 h2 h3
  have hT : ¬ nI q < 0 ∧ ¬ A 1 0 ≤ nI q := by rw [h10]; exact (in_q1 (by omega)).mpr ⟨q, hq, rfl⟩
  exact SPq.mk (H_teamOf_r hb (c_teamOf_k4 (d := 14) (Y := Y) hb hT hn hm)) (by decide) (by decide) qE_c (hta 4 q (by omega) (by omega) (by omega))
theorem Q_teamOf_5 {t : Nat} {dr : Bool} {b : SBt} {Y : OUt} {A B : MM} (hb : 94 ≤ b.2.1) (hL : rL t dr (lgC A 1) (B 95)) (hF : dr = true → rFix t A) {q : Nat} (hq : q < t) : SPq b Y A yL_teamOf cL_teamOf 4 (some .int) [(0, 6, 7, 45), (0, 6, 12, 47)] [.ref 0, .int (nI q), .int 5] (.int (gH B (nn t dr) (nI q) 5)) := by
  have ht := hL.1
  have hn := nn_le (dr := dr) ht
  have hm := jmc_r hL hF
  have hw := jwc_r hL hF
  have hz14 := zz_le (dr := dr) ht
  have h10 : A 1 0 = nI t := hL.2.1
  have hta : ∀ (k q : Nat), 1 ≤ k → k ≤ 8 → q < 8 → jat 8 (jcount A (nn t dr) (75 + k)) (nI q) = gH B (nn t dr) (nI q) k := fun k q h1 h2 h3 => by rw [jat_nI h3 (by decide)]; exact tally_r hL hF h1 h2 h3
  have hT : ¬ nI q < 0 ∧ ¬ A 1 0 ≤ nI q := by rw [h10]; exact (in_q1 (by omega)).mpr ⟨q, hq, rfl⟩
  exact SPq.mk (H_teamOf_r hb (c_teamOf_k5 (d := 14) (Y := Y) hb hT hn hm)) (by decide) (by decide) qE_c (hta 5 q (by omega) (by omega) (by omega))
theorem Q_teamOf_6 {t : Nat} {dr : Bool} {b : SBt} {Y : OUt} {A B : MM} (hb : 94 ≤ b.2.1) (hL : rL t dr (lgC A 1) (B 95)) (hF : dr = true → rFix t A) {q : Nat} (hq : q < t) : SPq b Y A yL_teamOf cL_teamOf 4 (some .int) [(0, 6, 7, 45), (0, 6, 12, 47)] [.ref 0, .int (nI q), .int 6] (.int (gH B (nn t dr) (nI q) 6)) := by
  have ht := hL.1
  have hn := nn_le (dr := dr) ht
  have hm := jmc_r hL hF
  have hw := jwc_r hL hF
  have hz14 := zz_le (dr := dr) ht
  have h10 : A 1 0 = nI t := hL.2.1
  have hta : ∀ (k q : Nat), 1 ≤ k → k ≤ 8 → q < 8 → jat 8 (jcount A (nn t dr) (75 + k)) (nI q) = gH B (nn t dr) (nI q) k := fun k q h1 h2 h3 => by rw [jat_nI h3 (by decide)]; exact tally_r hL hF h1 h2 h3
  have hT : ¬ nI q < 0 ∧ ¬ A 1 0 ≤ nI q := by rw [h10]; exact (in_q1 (by omega)).mpr ⟨q, hq, rfl⟩
  exact SPq.mk (H_teamOf_r hb (c_teamOf_k6 (d := 14) (Y := Y) hb hT hn hm)) (by decide) (by decide) qE_c (hta 6 q (by omega) (by omega) (by omega))
theorem Q_teamOf_7 {t : Nat} {dr : Bool} {b : SBt} {Y : OUt} {A B : MM} (hb : 94 ≤ b.2.1) (hL : rL t dr (lgC A 1) (B 95)) (hF : dr = true → rFix t A) {q : Nat} (hq : q < t) : SPq b Y A yL_teamOf cL_teamOf 4 (some .int) [(0, 6, 7, 45), (0, 6, 12, 47)] [.ref 0, .int (nI q), .int 7] (.int (gH B (nn t dr) (nI q) 7)) := by
  have ht := hL.1
  have hn := nn_le (dr := dr) ht
  have hm := jmc_r hL hF
  have hw := jwc_r hL hF
  have hz14 := zz_le (dr := dr) ht
  have h10 : A 1 0 = nI t := hL.2.1
  have hta : ∀ (k q : Nat), 1 ≤ k → k ≤ 8 → q < 8 → jat 8 (jcount A (nn t dr) (75 + k)) (nI q) = gH B (nn t dr) (nI q) k := fun k q h1 h2 h3 => by rw [jat_nI h3 (by decide)]; exact tally_r hL hF h1 h2 h3
  have hT : ¬ nI q < 0 ∧ ¬ A 1 0 ≤ nI q := by rw [h10]; exact (in_q1 (by omega)).mpr ⟨q, hq, rfl⟩
  exact SPq.mk (H_teamOf_r hb (c_teamOf_k7 (d := 14) (Y := Y) hb hT hn hm)) (by decide) (by decide) qE_c (hta 7 q (by omega) (by omega) (by omega))
theorem Q_teamOf_8 {t : Nat} {dr : Bool} {b : SBt} {Y : OUt} {A B : MM} (hb : 94 ≤ b.2.1) (hL : rL t dr (lgC A 1) (B 95)) (hF : dr = true → rFix t A) {q : Nat} (hq : q < t) : SPq b Y A yL_teamOf cL_teamOf 4 (some .int) [(0, 6, 7, 45), (0, 6, 12, 47)] [.ref 0, .int (nI q), .int 8] (.int (gH B (nn t dr) (nI q) 8)) := by
  have ht := hL.1
  have hn := nn_le (dr := dr) ht
  have hm := jmc_r hL hF
  have hw := jwc_r hL hF
  have hz14 := zz_le (dr := dr) ht
  have h10 : A 1 0 = nI t := hL.2.1
  have hta : ∀ (k q : Nat), 1 ≤ k → k ≤ 8 → q < 8 → jat 8 (jcount A (nn t dr) (75 + k)) (nI q) = gH B (nn t dr) (nI q) k := fun k q h1 h2 h3 => by rw [jat_nI h3 (by decide)]; exact tally_r hL hF h1 h2 h3
  have hT : ¬ nI q < 0 ∧ ¬ A 1 0 ≤ nI q := by rw [h10]; exact (in_q1 (by omega)).mpr ⟨q, hq, rfl⟩
  exact SPq.mk (H_teamOf_r hb (c_teamOf_k8 (d := 14) (Y := Y) hb hT hn hm)) (by decide) (by decide) qE_c (hta 8 q (by omega) (by omega) (by omega))
theorem Q_teamOf_nt {t : Nat} {dr : Bool} {b : SBt} {Y : OUt} {A B : MM} (hb : 94 ≤ b.2.1) (hL : rL t dr (lgC A 1) (B 95)) (hF : dr = true → rFix t A) {x y : Int32} (hx : ¬ ∃ q, q < t ∧ x = nI q) : SPq b Y A yL_teamOf cL_teamOf 4 (some .int) [(0, 6, 7, 45), (0, 6, 12, 47)] [.ref 0, .int x, .int y] (.int (-1001)) := by
  have ht := hL.1
  have hn := nn_le (dr := dr) ht
  have hm := jmc_r hL hF
  have hw := jwc_r hL hF
  have hz14 := zz_le (dr := dr) ht
  have h10 : A 1 0 = nI t := hL.2.1
  have hN : ¬ (¬ x < 0 ∧ ¬ A 1 0 ≤ x) := by rw [h10]; exact fun z => hx ((in_q1 (by omega)).mp z)
  exact SPq.mk (H_teamOf_t1 hb (c_teamOf_nt (d := 18) (Y := Y) hb hN)) (by decide) (by decide) qE_0 (rfl)
theorem Q_teamOf_bad {t : Nat} {dr : Bool} {b : SBt} {Y : OUt} {A B : MM} (hb : 94 ≤ b.2.1) (hL : rL t dr (lgC A 1) (B 95)) (hF : dr = true → rFix t A) {q : Nat} (hq : q < t) {y : Int32} (hy : y < 0 ∨ ¬ y ≤ 8) : SPq b Y A yL_teamOf cL_teamOf 4 (some .int) [(0, 6, 7, 45), (0, 6, 12, 47)] [.ref 0, .int (nI q), .int y] (.int (-1002)) := by
  have ht := hL.1
  have hn := nn_le (dr := dr) ht
  have hm := jmc_r hL hF
  have hw := jwc_r hL hF
  have hz14 := zz_le (dr := dr) ht
  have h10 : A 1 0 = nI t := hL.2.1
  have hT : ¬ nI q < 0 ∧ ¬ A 1 0 ≤ nI q := by rw [h10]; exact (in_q1 (by omega)).mpr ⟨q, hq, rfl⟩
  exact SPq.mk (H_teamOf_t2 hb (c_teamOf_bad (d := 18) (Y := Y) hb hT hy)) (by decide) (by decide) qE_0 (rfl)
theorem Q_pointsAgain {t : Nat} {dr : Bool} {b : SBt} {Y : OUt} {A B : MM} (hb : 94 ≤ b.2.1) (hL : rL t dr (lgC A 1) (B 95)) (hF : dr = true → rFix t A) {q : Nat} (hq : q < t) : SPq b Y A yL_pointsAgain cL_pointsAgain 3 (some .int) [(0, 5, 6, 45)] [.ref 0, .int (nI q)] (.int (gH B (nn t dr) (nI q) 1)) := by
  have ht := hL.1
  have hn := nn_le (dr := dr) ht
  have hm := jmc_r hL hF
  have hw := jwc_r hL hF
  have hz14 := zz_le (dr := dr) ht
  have h10 : A 1 0 = nI t := hL.2.1
  have hta : ∀ (k q : Nat), 1 ≤ k → k ≤ 8 → q < 8 → jat 8 (jcount A (nn t dr) (75 + k)) (nI q) = gH B (nn t dr) (nI q) k := fun k q h1 h2 h3 => by rw [jat_nI h3 (by decide)]; exact tally_r hL hF h1 h2 h3
  have hT : ¬ nI q < 0 ∧ ¬ A 1 0 ≤ nI q := by rw [h10]; exact (in_q1 (by omega)).mpr ⟨q, hq, rfl⟩
  exact SPq.mk (H_pointsAgain_r hb (c_pointsAgain (d := 14) (Y := Y) hb hT hn hm)) (by decide) (by decide) qE_c (by rw [hta 2 q (by omega) (by omega) (by omega), hta 3 q (by omega) (by omega) (by omega), jcount_n (by omega), jcount_n (by omega)]; exact pa_sum hL (by omega))
theorem Q_placeOf {t : Nat} {dr : Bool} {b : SBt} {Y : OUt} {A B : MM} (hb : 94 ≤ b.2.1) (hL : rL t dr (lgC A 1) (B 95)) (hF : dr = true → rFix t A) {q : Nat} (hq : q < t) {r : Nat} (hr3 : r ≤ 3) (h6 : A 1 6 = nI r) : SPq b Y A yL_placeOf cL_placeOf 3 (some .int) [(0, 5, 6, 45)] [.ref 0, .int (nI q)] (.int (jsum (fgPl B (nn t dr) t r (nI q)) t)) := by
  have ht := hL.1
  have hn := nn_le (dr := dr) ht
  have hm := jmc_r hL hF
  have hw := jwc_r hL hF
  have hz14 := zz_le (dr := dr) ht
  have h10 : A 1 0 = nI t := hL.2.1
  have hT : ¬ nI q < 0 ∧ ¬ A 1 0 ≤ nI q := by rw [h10]; exact (in_q1 (by omega)).mpr ⟨q, hq, rfl⟩
  exact SPq.mk (H_placeOf_r hb (c_placeOf (d := 14) (Y := Y) hb hT hn hm ht h10 hr3 h6 (fun i hi => (rL_ru hL hr3 h6 i hi).2))) (by decide) (by decide) qE_c (place_r hL hF (rL_ru hL hr3 h6) (by omega))
theorem Q_ranked {t : Nat} {dr : Bool} {b : SBt} {Y : OUt} {A B : MM} (hb : 94 ≤ b.2.1) (hL : rL t dr (lgC A 1) (B 95)) (hF : dr = true → rFix t A) {q : Nat} (hq : q < t) {r : Nat} (hr3 : r ≤ 3) (h6 : A 1 6 = nI r) : SPq b Y A yL_ranked cL_ranked 3 (some .int) [(0, 5, 6, 58)] [.ref 0, .int (nI q)] (.int (jfst (fRank B (nn t dr) t r (nI q)) t)) := by
  have ht := hL.1
  have hn := nn_le (dr := dr) ht
  have hm := jmc_r hL hF
  have hw := jwc_r hL hF
  have hz14 := zz_le (dr := dr) ht
  have h10 : A 1 0 = nI t := hL.2.1
  have hT : ¬ nI q < 0 ∧ ¬ A 1 0 ≤ nI q := by rw [h10]; exact (in_q1 (by omega)).mpr ⟨q, hq, rfl⟩
  exact SPq.mk (H_ranked_r hb (c_ranked_ok (d := 14) (Y := Y) hb ⟨hT.1, Int32.not_le.mp hT.2⟩ hn hm ht h10 hr3 h6 (fun i hi => (rL_ru hL hr3 h6 i hi).2))) (by decide) (by decide) (fun i c z => (jso_n (by omega) _).trans (jcount_n (by omega))) (by
    obtain ⟨i, hi, e1, e2⟩ := ranked_r hL hF (rL_ru hL hr3 h6) hq
    rw [jat_nI (by omega) (by decide), e2, e1])
theorem Q_valueOf {t : Nat} {dr : Bool} {b : SBt} {Y : OUt} {A B : MM} (hb : 94 ≤ b.2.1) (hL : rL t dr (lgC A 1) (B 95)) (hF : dr = true → rFix t A) {q : Nat} (hq : q < t) {y : Int32} (hy : r04 y) : SPq b Y A yL_valueOf cL_valueOf 4 (some .int) [(0, 6, 7, 45), (0, 6, 12, 47)] [.ref 0, .int (nI q), .int y] (.int (gRule B (nn t dr) t (nI q) y)) := by
  have ht := hL.1
  have hn := nn_le (dr := dr) ht
  have hm := jmc_r hL hF
  have hw := jwc_r hL hF
  have hz14 := zz_le (dr := dr) ht
  have h10 : A 1 0 = nI t := hL.2.1
  have hT : ¬ nI q < 0 ∧ ¬ A 1 0 ≤ nI q := by rw [h10]; exact (in_q1 (by omega)).mpr ⟨q, hq, rfl⟩
  exact SPq.mk (H_valueOf_r hb (c_valueOf (d := 14) (Y := Y) hb hT (by rcases hy with rfl | rfl | rfl | rfl | rfl <;> decide) hy hn hm)) (by decide) (by decide) qE_c (wo_r hL hF (by omega) hy)
theorem Q_valueOf_nt {t : Nat} {dr : Bool} {b : SBt} {Y : OUt} {A B : MM} (hb : 94 ≤ b.2.1) (hL : rL t dr (lgC A 1) (B 95)) (hF : dr = true → rFix t A) {x y : Int32} (hx : ¬ ∃ q, q < t ∧ x = nI q) : SPq b Y A yL_valueOf cL_valueOf 4 (some .int) [(0, 6, 7, 45), (0, 6, 12, 47)] [.ref 0, .int x, .int y] (.int (-1001)) := by
  have ht := hL.1
  have hn := nn_le (dr := dr) ht
  have hm := jmc_r hL hF
  have hw := jwc_r hL hF
  have hz14 := zz_le (dr := dr) ht
  have h10 : A 1 0 = nI t := hL.2.1
  have hN : ¬ (¬ x < 0 ∧ ¬ A 1 0 ≤ x) := by rw [h10]; exact fun z => hx ((in_q1 (by omega)).mp z)
  exact SPq.mk (H_valueOf_t1 hb (c_valueOf_nt (d := 18) (Y := Y) hb hN)) (by decide) (by decide) qE_0 (rfl)
theorem Q_valueOf_bad {t : Nat} {dr : Bool} {b : SBt} {Y : OUt} {A B : MM} (hb : 94 ≤ b.2.1) (hL : rL t dr (lgC A 1) (B 95)) (hF : dr = true → rFix t A) {q : Nat} (hq : q < t) {y : Int32} (hy : y < 0 ∨ ¬ y ≤ 4) : SPq b Y A yL_valueOf cL_valueOf 4 (some .int) [(0, 6, 7, 45), (0, 6, 12, 47)] [.ref 0, .int (nI q), .int y] (.int (-1002)) := by
  have ht := hL.1
  have hn := nn_le (dr := dr) ht
  have hm := jmc_r hL hF
  have hw := jwc_r hL hF
  have hz14 := zz_le (dr := dr) ht
  have h10 : A 1 0 = nI t := hL.2.1
  have hT : ¬ nI q < 0 ∧ ¬ A 1 0 ≤ nI q := by rw [h10]; exact (in_q1 (by omega)).mpr ⟨q, hq, rfl⟩
  exact SPq.mk (H_valueOf_t2 hb (c_valueOf_bad (d := 18) (Y := Y) hb hT hy)) (by decide) (by decide) qE_0 (rfl)
theorem Q_tied {t : Nat} {dr : Bool} {b : SBt} {Y : OUt} {A B : MM} (hb : 94 ≤ b.2.1) (hL : rL t dr (lgC A 1) (B 95)) (hF : dr = true → rFix t A) {q : Nat} (hq : q < t) : SPq b Y A yL_tied cL_tied 3 (some .int) [(0, 5, 6, 45)] [.ref 0, .int (nI q)] (.int (gTied B (nn t dr) (nI q) t)) := by
  have ht := hL.1
  have hn := nn_le (dr := dr) ht
  have hm := jmc_r hL hF
  have hw := jwc_r hL hF
  have hz14 := zz_le (dr := dr) ht
  have h10 : A 1 0 = nI t := hL.2.1
  have hta : ∀ (k q : Nat), 1 ≤ k → k ≤ 8 → q < 8 → jat 8 (jcount A (nn t dr) (75 + k)) (nI q) = gH B (nn t dr) (nI q) k := fun k q h1 h2 h3 => by rw [jat_nI h3 (by decide)]; exact tally_r hL hF h1 h2 h3
  have hT : ¬ nI q < 0 ∧ ¬ A 1 0 ≤ nI q := by rw [h10]; exact (in_q1 (by omega)).mpr ⟨q, hq, rfl⟩
  exact SPq.mk (H_tied_r hb (c_tied (d := 14) (Y := Y) hb hT hn hm ht h10)) (by decide) (by decide) qE_c (tied_r ht (by omega) (fun i hi => hta 1 i (by omega) (by omega) hi) t (Nat.le_refl _))
theorem Q_most {t : Nat} {dr : Bool} {b : SBt} {Y : OUt} {A B : MM} (hb : 94 ≤ b.2.1) (hL : rL t dr (lgC A 1) (B 95)) (hF : dr = true → rFix t A) {q : Nat} (hq : q < t) : SPq b Y A yL_most cL_most 3 (some .int) [(0, 5, 6, 45)] [.ref 0, .int (nI q)] (.int (gMost B (nn t dr) (nI q))) := by
  have ht := hL.1
  have hn := nn_le (dr := dr) ht
  have hm := jmc_r hL hF
  have hw := jwc_r hL hF
  have hz14 := zz_le (dr := dr) ht
  have h10 : A 1 0 = nI t := hL.2.1
  have hta : ∀ (k q : Nat), 1 ≤ k → k ≤ 8 → q < 8 → jat 8 (jcount A (nn t dr) (75 + k)) (nI q) = gH B (nn t dr) (nI q) k := fun k q h1 h2 h3 => by rw [jat_nI h3 (by decide)]; exact tally_r hL hF h1 h2 h3
  have hT : ¬ nI q < 0 ∧ ¬ A 1 0 ≤ nI q := by rw [h10]; exact (in_q1 (by omega)).mpr ⟨q, hq, rfl⟩
  exact SPq.mk (H_most_r hb (c_most (d := 14) (Y := Y) hb hT hn hm)) (by decide) (by decide) qE_c (by rw [hta 1 q (by omega) (by omega) (by omega), hta 8 q (by omega) (by omega) (by omega), jcount_n (by omega)]; unfold gMost; rw [← pw_r hL])
theorem Q_isSafe {t : Nat} {dr : Bool} {b : SBt} {Y : OUt} {A B : MM} (hb : 94 ≤ b.2.1) (hL : rL t dr (lgC A 1) (B 95)) (hF : dr = true → rFix t A) {q : Nat} (hq : q < t) : SPq b Y A yL_isSafe cL_isSafe 3 (some .int) [(0, 13, 14, 45)] [.ref 0, .int (nI q)] (.int (gSafe B (nn t dr) t q)) := by
  have ht := hL.1
  have hn := nn_le (dr := dr) ht
  have hm := jmc_r hL hF
  have hw := jwc_r hL hF
  have hz14 := zz_le (dr := dr) ht
  have h10 : A 1 0 = nI t := hL.2.1
  have hta : ∀ (k q : Nat), 1 ≤ k → k ≤ 8 → q < 8 → jat 8 (jcount A (nn t dr) (75 + k)) (nI q) = gH B (nn t dr) (nI q) k := fun k q h1 h2 h3 => by rw [jat_nI h3 (by decide)]; exact tally_r hL hF h1 h2 h3
  have hT : ¬ nI q < 0 ∧ ¬ A 1 0 ≤ nI q := by rw [h10]; exact (in_q1 (by omega)).mpr ⟨q, hq, rfl⟩
  have hre : ∀ i, i < 8 → jreach (jcount A (nn t dr)) (nI i) = gReach B (nn t dr) i := fun i hi => by
    unfold jreach gReach
    rw [hta 1 i (by omega) (by omega) hi, hta 8 i (by omega) (by omega) hi, jcount_n (by omega), jcount_n (by omega), pw_r hL, pd_r hL]
  exact SPq.mk (H_isSafe_r hb (c_isSafe (d := 14) (Y := Y) hb hT hn hm ht h10)) (by decide) (by decide) qE_c (by
    unfold gSafe
    rw [jfst_c (f := fSafe (jcount A (nn t dr)) (nI q)) (g := fun i => jb (¬ nI i = nI q ∧ ¬ gReach B (nn t dr) i < gH B (nn t dr) (nI q) 1)) (fun i hi => by
      show jb (¬ nI i = nI q ∧ ¬ jreach (jcount A (nn t dr)) (nI i) < jat 8 (jcount A (nn t dr) 76) (nI q)) = _
      rw [hre i (by omega), hta 1 q (by omega) (by omega) (by omega)])])
theorem Q_isOut {t : Nat} {dr : Bool} {b : SBt} {Y : OUt} {A B : MM} (hb : 94 ≤ b.2.1) (hL : rL t dr (lgC A 1) (B 95)) (hF : dr = true → rFix t A) {q : Nat} (hq : q < t) : SPq b Y A yL_isOut cL_isOut 3 (some .int) [(0, 13, 14, 45)] [.ref 0, .int (nI q)] (.int (gOut B (nn t dr) t q)) := by
  have ht := hL.1
  have hn := nn_le (dr := dr) ht
  have hm := jmc_r hL hF
  have hw := jwc_r hL hF
  have hz14 := zz_le (dr := dr) ht
  have h10 : A 1 0 = nI t := hL.2.1
  have hta : ∀ (k q : Nat), 1 ≤ k → k ≤ 8 → q < 8 → jat 8 (jcount A (nn t dr) (75 + k)) (nI q) = gH B (nn t dr) (nI q) k := fun k q h1 h2 h3 => by rw [jat_nI h3 (by decide)]; exact tally_r hL hF h1 h2 h3
  have hT : ¬ nI q < 0 ∧ ¬ A 1 0 ≤ nI q := by rw [h10]; exact (in_q1 (by omega)).mpr ⟨q, hq, rfl⟩
  have hre : ∀ i, i < 8 → jreach (jcount A (nn t dr)) (nI i) = gReach B (nn t dr) i := fun i hi => by
    unfold jreach gReach
    rw [hta 1 i (by omega) (by omega) hi, hta 8 i (by omega) (by omega) hi, jcount_n (by omega), jcount_n (by omega), pw_r hL, pd_r hL]
  exact SPq.mk (H_isOut_r hb (c_isOut (d := 14) (Y := Y) hb hT hn hm ht h10)) (by decide) (by decide) qE_c (by
    unfold gOut
    rw [jfst_c (f := fOut (jcount A (nn t dr)) (nI q)) (g := fun i => jb (¬ nI i = nI q ∧ ¬ gH B (nn t dr) (nI i) 1 ≤ gReach B (nn t dr) q)) (fun i hi => by
      show jb (¬ nI i = nI q ∧ ¬ jat 8 (jcount A (nn t dr) 76) (nI i) ≤ jreach (jcount A (nn t dr)) (nI q)) = _
      rw [hre q (by omega), hta 1 i (by omega) (by omega) (by omega)])])
theorem Q_run {t : Nat} {dr : Bool} {b : SBt} {Y : OUt} {A B : MM} (hb : 94 ≤ b.2.1) (hL : rL t dr (lgC A 1) (B 95)) (hF : dr = true → rFix t A) {q : Nat} (hq : q < t) : SPq b Y A yL_run cL_run 3 (some .int) [(0, 5, 6, 45)] [.ref 0, .int (nI q)] (.int ((gRun B (nI q) (nn t dr)).1)) := by
  have ht := hL.1
  have hn := nn_le (dr := dr) ht
  have hm := jmc_r hL hF
  have hw := jwc_r hL hF
  have hz14 := zz_le (dr := dr) ht
  have h10 : A 1 0 = nI t := hL.2.1
  have hT : ¬ nI q < 0 ∧ ¬ A 1 0 ≤ nI q := by rw [h10]; exact (in_q1 (by omega)).mpr ⟨q, hq, rfl⟩
  exact SPq.mk (H_run_r hb (c_run (d := 16) (Y := Y) hb hT hn hm)) (by decide) (by decide) qE_0 (by
    cases dr with
    | false => rfl
    | true => exact congrArg Prod.fst (run_r hL (hF rfl) (nI q) (nT t) (Nat.le_refl _)))
theorem Q_pointsAgain_nt {t : Nat} {dr : Bool} {b : SBt} {Y : OUt} {A B : MM} (hb : 94 ≤ b.2.1) (hL : rL t dr (lgC A 1) (B 95)) (hF : dr = true → rFix t A) {x : Int32} (hx : ¬ ∃ q, q < t ∧ x = nI q) : SPq b Y A yL_pointsAgain cL_pointsAgain 3 (some .int) [(0, 5, 6, 45)] [.ref 0, .int x] (.int (-1001)) := by
  have ht := hL.1
  have hn := nn_le (dr := dr) ht
  have hm := jmc_r hL hF
  have hw := jwc_r hL hF
  have hz14 := zz_le (dr := dr) ht
  have h10 : A 1 0 = nI t := hL.2.1
  have hN : ¬ (¬ x < 0 ∧ ¬ A 1 0 ≤ x) := by rw [h10]; exact fun z => hx ((in_q1 (by omega)).mp z)
  exact SPq.mk (H_pointsAgain_t1 hb (c_pointsAgain_nt (d := 18) (Y := Y) hb hN)) (by decide) (by decide) qE_0 (rfl)
theorem Q_placeOf_nt {t : Nat} {dr : Bool} {b : SBt} {Y : OUt} {A B : MM} (hb : 94 ≤ b.2.1) (hL : rL t dr (lgC A 1) (B 95)) (hF : dr = true → rFix t A) {x : Int32} (hx : ¬ ∃ q, q < t ∧ x = nI q) : SPq b Y A yL_placeOf cL_placeOf 3 (some .int) [(0, 5, 6, 45)] [.ref 0, .int x] (.int (-1001)) := by
  have ht := hL.1
  have hn := nn_le (dr := dr) ht
  have hm := jmc_r hL hF
  have hw := jwc_r hL hF
  have hz14 := zz_le (dr := dr) ht
  have h10 : A 1 0 = nI t := hL.2.1
  have hN : ¬ (¬ x < 0 ∧ ¬ A 1 0 ≤ x) := by rw [h10]; exact fun z => hx ((in_q1 (by omega)).mp z)
  exact SPq.mk (H_placeOf_t1 hb (c_placeOf_nt (d := 18) (Y := Y) hb hN)) (by decide) (by decide) qE_0 (rfl)
theorem Q_tied_nt {t : Nat} {dr : Bool} {b : SBt} {Y : OUt} {A B : MM} (hb : 94 ≤ b.2.1) (hL : rL t dr (lgC A 1) (B 95)) (hF : dr = true → rFix t A) {x : Int32} (hx : ¬ ∃ q, q < t ∧ x = nI q) : SPq b Y A yL_tied cL_tied 3 (some .int) [(0, 5, 6, 45)] [.ref 0, .int x] (.int (-1001)) := by
  have ht := hL.1
  have hn := nn_le (dr := dr) ht
  have hm := jmc_r hL hF
  have hw := jwc_r hL hF
  have hz14 := zz_le (dr := dr) ht
  have h10 : A 1 0 = nI t := hL.2.1
  have hN : ¬ (¬ x < 0 ∧ ¬ A 1 0 ≤ x) := by rw [h10]; exact fun z => hx ((in_q1 (by omega)).mp z)
  exact SPq.mk (H_tied_t1 hb (c_tied_nt (d := 18) (Y := Y) hb hN)) (by decide) (by decide) qE_0 (rfl)
theorem Q_most_nt {t : Nat} {dr : Bool} {b : SBt} {Y : OUt} {A B : MM} (hb : 94 ≤ b.2.1) (hL : rL t dr (lgC A 1) (B 95)) (hF : dr = true → rFix t A) {x : Int32} (hx : ¬ ∃ q, q < t ∧ x = nI q) : SPq b Y A yL_most cL_most 3 (some .int) [(0, 5, 6, 45)] [.ref 0, .int x] (.int (-1001)) := by
  have ht := hL.1
  have hn := nn_le (dr := dr) ht
  have hm := jmc_r hL hF
  have hw := jwc_r hL hF
  have hz14 := zz_le (dr := dr) ht
  have h10 : A 1 0 = nI t := hL.2.1
  have hN : ¬ (¬ x < 0 ∧ ¬ A 1 0 ≤ x) := by rw [h10]; exact fun z => hx ((in_q1 (by omega)).mp z)
  exact SPq.mk (H_most_t1 hb (c_most_nt (d := 18) (Y := Y) hb hN)) (by decide) (by decide) qE_0 (rfl)
theorem Q_isSafe_nt {t : Nat} {dr : Bool} {b : SBt} {Y : OUt} {A B : MM} (hb : 94 ≤ b.2.1) (hL : rL t dr (lgC A 1) (B 95)) (hF : dr = true → rFix t A) {x : Int32} (hx : ¬ ∃ q, q < t ∧ x = nI q) : SPq b Y A yL_isSafe cL_isSafe 3 (some .int) [(0, 13, 14, 45)] [.ref 0, .int x] (.int (-1001)) := by
  have ht := hL.1
  have hn := nn_le (dr := dr) ht
  have hm := jmc_r hL hF
  have hw := jwc_r hL hF
  have hz14 := zz_le (dr := dr) ht
  have h10 : A 1 0 = nI t := hL.2.1
  have hN : ¬ (¬ x < 0 ∧ ¬ A 1 0 ≤ x) := by rw [h10]; exact fun z => hx ((in_q1 (by omega)).mp z)
  exact SPq.mk (H_isSafe_t1 hb (c_isSafe_nt (d := 18) (Y := Y) hb hN)) (by decide) (by decide) qE_0 (rfl)
theorem Q_isOut_nt {t : Nat} {dr : Bool} {b : SBt} {Y : OUt} {A B : MM} (hb : 94 ≤ b.2.1) (hL : rL t dr (lgC A 1) (B 95)) (hF : dr = true → rFix t A) {x : Int32} (hx : ¬ ∃ q, q < t ∧ x = nI q) : SPq b Y A yL_isOut cL_isOut 3 (some .int) [(0, 13, 14, 45)] [.ref 0, .int x] (.int (-1001)) := by
  have ht := hL.1
  have hn := nn_le (dr := dr) ht
  have hm := jmc_r hL hF
  have hw := jwc_r hL hF
  have hz14 := zz_le (dr := dr) ht
  have h10 : A 1 0 = nI t := hL.2.1
  have hN : ¬ (¬ x < 0 ∧ ¬ A 1 0 ≤ x) := by rw [h10]; exact fun z => hx ((in_q1 (by omega)).mp z)
  exact SPq.mk (H_isOut_t1 hb (c_isOut_nt (d := 18) (Y := Y) hb hN)) (by decide) (by decide) qE_0 (rfl)
theorem Q_run_nt {t : Nat} {dr : Bool} {b : SBt} {Y : OUt} {A B : MM} (hb : 94 ≤ b.2.1) (hL : rL t dr (lgC A 1) (B 95)) (hF : dr = true → rFix t A) {x : Int32} (hx : ¬ ∃ q, q < t ∧ x = nI q) : SPq b Y A yL_run cL_run 3 (some .int) [(0, 5, 6, 45)] [.ref 0, .int x] (.int (-1001)) := by
  have ht := hL.1
  have hn := nn_le (dr := dr) ht
  have hm := jmc_r hL hF
  have hw := jwc_r hL hF
  have hz14 := zz_le (dr := dr) ht
  have h10 : A 1 0 = nI t := hL.2.1
  have hN : ¬ (¬ x < 0 ∧ ¬ A 1 0 ≤ x) := by rw [h10]; exact fun z => hx ((in_q1 (by omega)).mp z)
  exact SPq.mk (H_run_t1 hb (c_run_nt (d := 18) (Y := Y) hb hN)) (by decide) (by decide) qE_0 (rfl)
theorem Q_ranked_no {t : Nat} {dr : Bool} {b : SBt} {Y : OUt} {A B : MM} (hb : 94 ≤ b.2.1) (hL : rL t dr (lgC A 1) (B 95)) (hF : dr = true → rFix t A) {x : Int32} (hx : ¬ ∃ q, q < t ∧ x = nI q) : SPq b Y A yL_ranked cL_ranked 3 (some .int) [(0, 5, 6, 58)] [.ref 0, .int x] (.int (-1001)) := by
  have ht := hL.1
  have hn := nn_le (dr := dr) ht
  have hm := jmc_r hL hF
  have hw := jwc_r hL hF
  have hz14 := zz_le (dr := dr) ht
  have h10 : A 1 0 = nI t := hL.2.1
  have hN : ¬ (¬ x < 0 ∧ ¬ A 1 0 ≤ x) := by rw [h10]; exact fun z => hx ((in_q1 (by omega)).mp z)
  exact SPq.mk (H_ranked_t1 hb (c_ranked_no (d := 18) (Y := Y) hb (fun z => hN ⟨z.1, Int32.not_le.mpr z.2⟩))) (by decide) (by decide) qE_0 (rfl)
theorem Q_meetingOf_0 {t : Nat} {b : SBt} {Y : OUt} {A B : MM} (hb : 94 ≤ b.2.1) (hL : rL t true (lgC A 1) (B 95)) (hF : true = true → rFix t A) {q : Nat} (hq : q < nn t true) : SPq b Y A yL_meetingOf cL_meetingOf 4 (some .int) [(0, 6, 7, 45), (0, 6, 12, 47)] [.ref 0, .int (nI q), .int 0] (.int (jof B q 2)) := by
  have ht := hL.1
  have hn := nn_le (dr := true) ht
  have hm := jmc_r hL hF
  have hw := jwc_r hL hF
  have hz14 := zz_le (dr := true) ht
  have h10 : A 1 0 = nI t := hL.2.1
  have hM : ¬ nI q < 0 ∧ ¬ jmc A ≤ nI q := by rw [hm]; exact (in_q1 (by omega)).mpr ⟨q, hq, rfl⟩
  have hq56 : q < 56 := Nat.lt_of_lt_of_le hq hn
  have hf := (hF rfl).2.2.1 q hq
  have hh := mt_of.mp (hL.2.2.2.2.2.2.2.2.2.2.2.2 q hq)
  have hm2 := (mt_q hL hq).2
  have hg : A 5 q = (if jof B q 4 = 1 then jof B q 6 else -1) ∧ A 6 q = (if jof B q 4 = 1 then jof B q 7 else -1) := by
    rcases hh.2.2.2.2.2 with ⟨p, g, g2, p1, p2, p3, p4, p5, p6⟩ | ⟨p, p3, p4⟩
    · rw [if_pos p, if_pos p]; exact ⟨p3.trans p4.symm, p5.trans p6.symm⟩
    · have p' : ¬ jof B q 4 = 1 := by rw [p]; decide
      rw [if_neg p', if_neg p']; exact ⟨p3, p4⟩
  exact SPq.mk (H_meetingOf_r hb (c_meetingOf_k0 (d := 16) (Y := Y) hb hM)) (by decide) (by decide) qE_0 (by rw [jat_nI hq56 (by decide)]; exact hm2)
theorem Q_meetingOf_1 {t : Nat} {b : SBt} {Y : OUt} {A B : MM} (hb : 94 ≤ b.2.1) (hL : rL t true (lgC A 1) (B 95)) (hF : true = true → rFix t A) {q : Nat} (hq : q < nn t true) : SPq b Y A yL_meetingOf cL_meetingOf 4 (some .int) [(0, 6, 7, 45), (0, 6, 12, 47)] [.ref 0, .int (nI q), .int 1] (.int (jof B q 0)) := by
  have ht := hL.1
  have hn := nn_le (dr := true) ht
  have hm := jmc_r hL hF
  have hw := jwc_r hL hF
  have hz14 := zz_le (dr := true) ht
  have h10 : A 1 0 = nI t := hL.2.1
  have hM : ¬ nI q < 0 ∧ ¬ jmc A ≤ nI q := by rw [hm]; exact (in_q1 (by omega)).mpr ⟨q, hq, rfl⟩
  have hq56 : q < 56 := Nat.lt_of_lt_of_le hq hn
  have hf := (hF rfl).2.2.1 q hq
  have hh := mt_of.mp (hL.2.2.2.2.2.2.2.2.2.2.2.2 q hq)
  have hm2 := (mt_q hL hq).2
  have hg : A 5 q = (if jof B q 4 = 1 then jof B q 6 else -1) ∧ A 6 q = (if jof B q 4 = 1 then jof B q 7 else -1) := by
    rcases hh.2.2.2.2.2 with ⟨p, g, g2, p1, p2, p3, p4, p5, p6⟩ | ⟨p, p3, p4⟩
    · rw [if_pos p, if_pos p]; exact ⟨p3.trans p4.symm, p5.trans p6.symm⟩
    · have p' : ¬ jof B q 4 = 1 := by rw [p]; decide
      rw [if_neg p', if_neg p']; exact ⟨p3, p4⟩
  exact SPq.mk (H_meetingOf_r hb (c_meetingOf_k1 (d := 16) (Y := Y) hb hM)) (by decide) (by decide) qE_0 (by rw [jat_nI hq56 (by decide)]; exact hf.1.trans hh.1.symm)
theorem Q_meetingOf_2 {t : Nat} {b : SBt} {Y : OUt} {A B : MM} (hb : 94 ≤ b.2.1) (hL : rL t true (lgC A 1) (B 95)) (hF : true = true → rFix t A) {q : Nat} (hq : q < nn t true) : SPq b Y A yL_meetingOf cL_meetingOf 4 (some .int) [(0, 6, 7, 45), (0, 6, 12, 47)] [.ref 0, .int (nI q), .int 2] (.int (jof B q 1)) := by
  have ht := hL.1
  have hn := nn_le (dr := true) ht
  have hm := jmc_r hL hF
  have hw := jwc_r hL hF
  have hz14 := zz_le (dr := true) ht
  have h10 : A 1 0 = nI t := hL.2.1
  have hM : ¬ nI q < 0 ∧ ¬ jmc A ≤ nI q := by rw [hm]; exact (in_q1 (by omega)).mpr ⟨q, hq, rfl⟩
  have hq56 : q < 56 := Nat.lt_of_lt_of_le hq hn
  have hf := (hF rfl).2.2.1 q hq
  have hh := mt_of.mp (hL.2.2.2.2.2.2.2.2.2.2.2.2 q hq)
  have hm2 := (mt_q hL hq).2
  have hg : A 5 q = (if jof B q 4 = 1 then jof B q 6 else -1) ∧ A 6 q = (if jof B q 4 = 1 then jof B q 7 else -1) := by
    rcases hh.2.2.2.2.2 with ⟨p, g, g2, p1, p2, p3, p4, p5, p6⟩ | ⟨p, p3, p4⟩
    · rw [if_pos p, if_pos p]; exact ⟨p3.trans p4.symm, p5.trans p6.symm⟩
    · have p' : ¬ jof B q 4 = 1 := by rw [p]; decide
      rw [if_neg p', if_neg p']; exact ⟨p3, p4⟩
  exact SPq.mk (H_meetingOf_r hb (c_meetingOf_k2 (d := 16) (Y := Y) hb hM)) (by decide) (by decide) qE_0 (by rw [jat_nI hq56 (by decide)]; exact hf.2.1.trans hh.2.1.symm)
theorem Q_meetingOf_3 {t : Nat} {b : SBt} {Y : OUt} {A B : MM} (hb : 94 ≤ b.2.1) (hL : rL t true (lgC A 1) (B 95)) (hF : true = true → rFix t A) {q : Nat} (hq : q < nn t true) : SPq b Y A yL_meetingOf cL_meetingOf 4 (some .int) [(0, 6, 7, 45), (0, 6, 12, 47)] [.ref 0, .int (nI q), .int 3] (.int (jhow B q)) := by
  have ht := hL.1
  have hn := nn_le (dr := true) ht
  have hm := jmc_r hL hF
  have hw := jwc_r hL hF
  have hz14 := zz_le (dr := true) ht
  have h10 : A 1 0 = nI t := hL.2.1
  have hM : ¬ nI q < 0 ∧ ¬ jmc A ≤ nI q := by rw [hm]; exact (in_q1 (by omega)).mpr ⟨q, hq, rfl⟩
  have hq56 : q < 56 := Nat.lt_of_lt_of_le hq hn
  have hf := (hF rfl).2.2.1 q hq
  have hh := mt_of.mp (hL.2.2.2.2.2.2.2.2.2.2.2.2 q hq)
  have hm2 := (mt_q hL hq).2
  have hg : A 5 q = (if jof B q 4 = 1 then jof B q 6 else -1) ∧ A 6 q = (if jof B q 4 = 1 then jof B q 7 else -1) := by
    rcases hh.2.2.2.2.2 with ⟨p, g, g2, p1, p2, p3, p4, p5, p6⟩ | ⟨p, p3, p4⟩
    · rw [if_pos p, if_pos p]; exact ⟨p3.trans p4.symm, p5.trans p6.symm⟩
    · have p' : ¬ jof B q 4 = 1 := by rw [p]; decide
      rw [if_neg p', if_neg p']; exact ⟨p3, p4⟩
  exact SPq.mk (H_meetingOf_r hb (c_meetingOf_k3 (d := 16) (Y := Y) hb hM)) (by decide) (by decide) qE_0 (kind_r hL (hF rfl) hq)
theorem Q_meetingOf_4 {t : Nat} {b : SBt} {Y : OUt} {A B : MM} (hb : 94 ≤ b.2.1) (hL : rL t true (lgC A 1) (B 95)) (hF : true = true → rFix t A) {q : Nat} (hq : q < nn t true) : SPq b Y A yL_meetingOf cL_meetingOf 4 (some .int) [(0, 6, 7, 45), (0, 6, 12, 47)] [.ref 0, .int (nI q), .int 4] (.int (if jof B q 4 = 1 then jof B q 6 else -1)) := by
  have ht := hL.1
  have hn := nn_le (dr := true) ht
  have hm := jmc_r hL hF
  have hw := jwc_r hL hF
  have hz14 := zz_le (dr := true) ht
  have h10 : A 1 0 = nI t := hL.2.1
  have hM : ¬ nI q < 0 ∧ ¬ jmc A ≤ nI q := by rw [hm]; exact (in_q1 (by omega)).mpr ⟨q, hq, rfl⟩
  have hq56 : q < 56 := Nat.lt_of_lt_of_le hq hn
  have hf := (hF rfl).2.2.1 q hq
  have hh := mt_of.mp (hL.2.2.2.2.2.2.2.2.2.2.2.2 q hq)
  have hm2 := (mt_q hL hq).2
  have hg : A 5 q = (if jof B q 4 = 1 then jof B q 6 else -1) ∧ A 6 q = (if jof B q 4 = 1 then jof B q 7 else -1) := by
    rcases hh.2.2.2.2.2 with ⟨p, g, g2, p1, p2, p3, p4, p5, p6⟩ | ⟨p, p3, p4⟩
    · rw [if_pos p, if_pos p]; exact ⟨p3.trans p4.symm, p5.trans p6.symm⟩
    · have p' : ¬ jof B q 4 = 1 := by rw [p]; decide
      rw [if_neg p', if_neg p']; exact ⟨p3, p4⟩
  exact SPq.mk (H_meetingOf_r hb (c_meetingOf_k4 (d := 16) (Y := Y) hb hM)) (by decide) (by decide) qE_0 (by rw [jat_nI hq56 (by decide)]; exact hg.1)
theorem Q_meetingOf_5 {t : Nat} {b : SBt} {Y : OUt} {A B : MM} (hb : 94 ≤ b.2.1) (hL : rL t true (lgC A 1) (B 95)) (hF : true = true → rFix t A) {q : Nat} (hq : q < nn t true) : SPq b Y A yL_meetingOf cL_meetingOf 4 (some .int) [(0, 6, 7, 45), (0, 6, 12, 47)] [.ref 0, .int (nI q), .int 5] (.int (if jof B q 4 = 1 then jof B q 7 else -1)) := by
  have ht := hL.1
  have hn := nn_le (dr := true) ht
  have hm := jmc_r hL hF
  have hw := jwc_r hL hF
  have hz14 := zz_le (dr := true) ht
  have h10 : A 1 0 = nI t := hL.2.1
  have hM : ¬ nI q < 0 ∧ ¬ jmc A ≤ nI q := by rw [hm]; exact (in_q1 (by omega)).mpr ⟨q, hq, rfl⟩
  have hq56 : q < 56 := Nat.lt_of_lt_of_le hq hn
  have hf := (hF rfl).2.2.1 q hq
  have hh := mt_of.mp (hL.2.2.2.2.2.2.2.2.2.2.2.2 q hq)
  have hm2 := (mt_q hL hq).2
  have hg : A 5 q = (if jof B q 4 = 1 then jof B q 6 else -1) ∧ A 6 q = (if jof B q 4 = 1 then jof B q 7 else -1) := by
    rcases hh.2.2.2.2.2 with ⟨p, g, g2, p1, p2, p3, p4, p5, p6⟩ | ⟨p, p3, p4⟩
    · rw [if_pos p, if_pos p]; exact ⟨p3.trans p4.symm, p5.trans p6.symm⟩
    · have p' : ¬ jof B q 4 = 1 := by rw [p]; decide
      rw [if_neg p', if_neg p']; exact ⟨p3, p4⟩
  exact SPq.mk (H_meetingOf_r hb (c_meetingOf_k5 (d := 16) (Y := Y) hb hM)) (by decide) (by decide) qE_0 (by rw [jat_nI hq56 (by decide)]; exact hg.2)
theorem Q_meetingOf_6 {t : Nat} {b : SBt} {Y : OUt} {A B : MM} (hb : 94 ≤ b.2.1) (hL : rL t true (lgC A 1) (B 95)) (hF : true = true → rFix t A) {q : Nat} (hq : q < nn t true) : SPq b Y A yL_meetingOf cL_meetingOf 4 (some .int) [(0, 6, 7, 45), (0, 6, 12, 47)] [.ref 0, .int (nI q), .int 6] (.int (jof B q 3)) := by
  have ht := hL.1
  have hn := nn_le (dr := true) ht
  have hm := jmc_r hL hF
  have hw := jwc_r hL hF
  have hz14 := zz_le (dr := true) ht
  have h10 : A 1 0 = nI t := hL.2.1
  have hM : ¬ nI q < 0 ∧ ¬ jmc A ≤ nI q := by rw [hm]; exact (in_q1 (by omega)).mpr ⟨q, hq, rfl⟩
  have hq56 : q < 56 := Nat.lt_of_lt_of_le hq hn
  have hf := (hF rfl).2.2.1 q hq
  have hh := mt_of.mp (hL.2.2.2.2.2.2.2.2.2.2.2.2 q hq)
  have hm2 := (mt_q hL hq).2
  have hg : A 5 q = (if jof B q 4 = 1 then jof B q 6 else -1) ∧ A 6 q = (if jof B q 4 = 1 then jof B q 7 else -1) := by
    rcases hh.2.2.2.2.2 with ⟨p, g, g2, p1, p2, p3, p4, p5, p6⟩ | ⟨p, p3, p4⟩
    · rw [if_pos p, if_pos p]; exact ⟨p3.trans p4.symm, p5.trans p6.symm⟩
    · have p' : ¬ jof B q 4 = 1 := by rw [p]; decide
      rw [if_neg p', if_neg p']; exact ⟨p3, p4⟩
  exact SPq.mk (H_meetingOf_r hb (c_meetingOf_k6 (d := 16) (Y := Y) hb hM)) (by decide) (by decide) qE_0 (by rw [jat_nI hq56 (by decide)]; exact hf.2.2.trans hh.2.2.1.symm)
theorem Q_meetingOf_nt {t : Nat} {dr : Bool} {b : SBt} {Y : OUt} {A B : MM} (hb : 94 ≤ b.2.1) (hL : rL t dr (lgC A 1) (B 95)) (hF : dr = true → rFix t A) {x y : Int32} (hx : ¬ ∃ q, q < nn t dr ∧ x = nI q) : SPq b Y A yL_meetingOf cL_meetingOf 4 (some .int) [(0, 6, 7, 45), (0, 6, 12, 47)] [.ref 0, .int x, .int y] (.int (-1001)) := by
  have ht := hL.1
  have hn := nn_le (dr := dr) ht
  have hm := jmc_r hL hF
  have hw := jwc_r hL hF
  have hz14 := zz_le (dr := dr) ht
  have h10 : A 1 0 = nI t := hL.2.1
  have hN : ¬ (¬ x < 0 ∧ ¬ jmc A ≤ x) := by rw [hm]; exact fun z => hx ((in_q1 (by omega)).mp z)
  exact SPq.mk (H_meetingOf_t1 hb (c_meetingOf_nt (d := 17) (Y := Y) hb hN)) (by decide) (by decide) qE_0 (rfl)
theorem Q_meetingOf_bad {t : Nat} {dr : Bool} {b : SBt} {Y : OUt} {A B : MM} (hb : 94 ≤ b.2.1) (hL : rL t dr (lgC A 1) (B 95)) (hF : dr = true → rFix t A) {q : Nat} (hq : q < nn t dr) {y : Int32} (hy : y < 0 ∨ ¬ y ≤ 6) : SPq b Y A yL_meetingOf cL_meetingOf 4 (some .int) [(0, 6, 7, 45), (0, 6, 12, 47)] [.ref 0, .int (nI q), .int y] (.int (-1002)) := by
  have ht := hL.1
  have hn := nn_le (dr := dr) ht
  have hm := jmc_r hL hF
  have hw := jwc_r hL hF
  have hz14 := zz_le (dr := dr) ht
  have h10 : A 1 0 = nI t := hL.2.1
  have hM : ¬ nI q < 0 ∧ ¬ jmc A ≤ nI q := by rw [hm]; exact (in_q1 (by omega)).mpr ⟨q, hq, rfl⟩
  exact SPq.mk (H_meetingOf_t2 hb (c_meetingOf_bad (d := 17) (Y := Y) hb hM hy)) (by decide) (by decide) qE_0 (rfl)
theorem Q_freeWeek_nt {t : Nat} {dr : Bool} {b : SBt} {Y : OUt} {A B : MM} (hb : 94 ≤ b.2.1) (hL : rL t dr (lgC A 1) (B 95)) (hF : dr = true → rFix t A) {x : Int32} (hx : ¬ ∃ q, q < nn t dr ∧ x = nI q) : SPq b Y A yL_freeWeek cL_freeWeek 3 (some .int) [(0, 5, 6, 45), (0, 5, 11, 58)] [.ref 0, .int x] (.int (-1001)) := by
  have ht := hL.1
  have hn := nn_le (dr := dr) ht
  have hm := jmc_r hL hF
  have hw := jwc_r hL hF
  have hz14 := zz_le (dr := dr) ht
  have h10 : A 1 0 = nI t := hL.2.1
  have hN : ¬ (¬ x < 0 ∧ ¬ jmc A ≤ x) := by rw [hm]; exact fun z => hx ((in_q1 (by omega)).mp z)
  exact SPq.mk (H_freeWeek_t1 hb (c_freeWeek_nt (d := 17) (Y := Y) hb hN)) (by decide) (by decide) qE_0 (rfl)
theorem Q_meetingsIn {t : Nat} {dr : Bool} {b : SBt} {Y : OUt} {A B : MM} (hb : 94 ≤ b.2.1) (hL : rL t dr (lgC A 1) (B 95)) (hF : dr = true → rFix t A) {q : Nat} (hq : q < zz t dr) : SPq b Y A yL_meetingsIn cL_meetingsIn 3 (some .int) [(0, 5, 6, 45)] [.ref 0, .int (nI q)] (.int (jsum (gIn B (nI q)) (nn t dr))) := by
  have ht := hL.1
  have hn := nn_le (dr := dr) ht
  have hm := jmc_r hL hF
  have hw := jwc_r hL hF
  have hz14 := zz_le (dr := dr) ht
  have h10 : A 1 0 = nI t := hL.2.1
  have hW : ¬ nI q < 0 ∧ ¬ jwc A ≤ nI q := by rw [hw]; exact (in_q1 (by omega)).mpr ⟨q, hq, rfl⟩
  exact SPq.mk (H_meetingsIn_r hb (c_meetingsIn (d := 17) (Y := Y) hb hW hn hm)) (by decide) (by decide) qE_0 (jsum_c fun m hm => by
    cases dr with
    | false => exact absurd hm (Nat.not_lt_zero m)
    | true => unfold fIn gIn; rw [(mt_q hL hm).2])
theorem Q_clashes {t : Nat} {dr : Bool} {b : SBt} {Y : OUt} {A B : MM} (hb : 94 ≤ b.2.1) (hL : rL t dr (lgC A 1) (B 95)) (hF : dr = true → rFix t A) {q : Nat} (hq : q < zz t dr) : SPq b Y A yL_clashes cL_clashes 3 (some .int) [(0, 5, 6, 45)] [.ref 0, .int (nI q)] (.int (gpairs B (nn t dr) (nI q))) := by
  have ht := hL.1
  have hn := nn_le (dr := dr) ht
  have hm := jmc_r hL hF
  have hw := jwc_r hL hF
  have hz14 := zz_le (dr := dr) ht
  have h10 : A 1 0 = nI t := hL.2.1
  have hW : ¬ nI q < 0 ∧ ¬ jwc A ≤ nI q := by rw [hw]; exact (in_q1 (by omega)).mpr ⟨q, hq, rfl⟩
  exact SPq.mk (H_clashes_r hb (c_clashes (d := 15) (Y := Y) hb hW hn hm)) (by decide) (by decide) qE_0 (pairs_r hL hF (nI q))
theorem Q_meetingsIn_nt {t : Nat} {dr : Bool} {b : SBt} {Y : OUt} {A B : MM} (hb : 94 ≤ b.2.1) (hL : rL t dr (lgC A 1) (B 95)) (hF : dr = true → rFix t A) {x : Int32} (hx : ¬ ∃ q, q < zz t dr ∧ x = nI q) : SPq b Y A yL_meetingsIn cL_meetingsIn 3 (some .int) [(0, 5, 6, 45)] [.ref 0, .int x] (.int (-1001)) := by
  have ht := hL.1
  have hn := nn_le (dr := dr) ht
  have hm := jmc_r hL hF
  have hw := jwc_r hL hF
  have hz14 := zz_le (dr := dr) ht
  have h10 : A 1 0 = nI t := hL.2.1
  have hN : ¬ (¬ x < 0 ∧ ¬ jwc A ≤ x) := by rw [hw]; exact fun z => hx ((in_q1 (by omega)).mp z)
  exact SPq.mk (H_meetingsIn_t1 hb (c_meetingsIn_nt (d := 17) (Y := Y) hb hN)) (by decide) (by decide) qE_0 (rfl)
theorem Q_clashes_nt {t : Nat} {dr : Bool} {b : SBt} {Y : OUt} {A B : MM} (hb : 94 ≤ b.2.1) (hL : rL t dr (lgC A 1) (B 95)) (hF : dr = true → rFix t A) {x : Int32} (hx : ¬ ∃ q, q < zz t dr ∧ x = nI q) : SPq b Y A yL_clashes cL_clashes 3 (some .int) [(0, 5, 6, 45)] [.ref 0, .int x] (.int (-1001)) := by
  have ht := hL.1
  have hn := nn_le (dr := dr) ht
  have hm := jmc_r hL hF
  have hw := jwc_r hL hF
  have hz14 := zz_le (dr := dr) ht
  have h10 : A 1 0 = nI t := hL.2.1
  have hN : ¬ (¬ x < 0 ∧ ¬ jwc A ≤ x) := by rw [hw]; exact fun z => hx ((in_q1 (by omega)).mp z)
  exact SPq.mk (H_clashes_t1 hb (c_clashes_nt (d := 17) (Y := Y) hb hN)) (by decide) (by decide) qE_0 (rfl)
theorem Q_byeIn_nt {t : Nat} {dr : Bool} {b : SBt} {Y : OUt} {A B : MM} (hb : 94 ≤ b.2.1) (hL : rL t dr (lgC A 1) (B 95)) (hF : dr = true → rFix t A) {x : Int32} (hx : ¬ ∃ q, q < zz t dr ∧ x = nI q) : SPq b Y A yL_byeIn cL_byeIn 3 (some .int) [(0, 5, 6, 45), (0, 5, 11, 58)] [.ref 0, .int x] (.int (-1001)) := by
  have ht := hL.1
  have hn := nn_le (dr := dr) ht
  have hm := jmc_r hL hF
  have hw := jwc_r hL hF
  have hz14 := zz_le (dr := dr) ht
  have h10 : A 1 0 = nI t := hL.2.1
  have hN : ¬ (¬ x < 0 ∧ ¬ jwc A ≤ x) := by rw [hw]; exact fun z => hx ((in_q1 (by omega)).mp z)
  exact SPq.mk (H_byeIn_t1 hb (c_byeIn_nt (d := 17) (Y := Y) hb hN)) (by decide) (by decide) qE_0 (rfl)
theorem Q_account_0 {t : Nat} {dr : Bool} {b : SBt} {Y : OUt} {A B : MM} (hb : 94 ≤ b.2.1) (hL : rL t dr (lgC A 1) (B 95)) (hF : dr = true → rFix t A) : SPq b Y A yL_account cL_account 3 (some .int) [(0, 5, 6, 47)] [.ref 0, .int 0] (.int (B 95 0)) := by
  have ht := hL.1
  have hn := nn_le (dr := dr) ht
  have hm := jmc_r hL hF
  have hw := jwc_r hL hF
  have hz14 := zz_le (dr := dr) ht
  have h10 : A 1 0 = nI t := hL.2.1
  have hta : ∀ (k q : Nat), 1 ≤ k → k ≤ 8 → q < 8 → jat 8 (jcount A (nn t dr) (75 + k)) (nI q) = gH B (nn t dr) (nI q) k := fun k q h1 h2 h3 => by rw [jat_nI h3 (by decide)]; exact tally_r hL hF h1 h2 h3
  have hLc : rL t dr (lgC (jcount A (nn t dr)) 1) (B 95) := rL_cells hL (fun i c _ _ => jcount_n (by omega)) (fun _ _ => rfl)
  have hFc : dr = true → rFix t (jcount A (nn t dr)) := fun z => rFix_c (hF z) (fun i c _ _ => jcount_n (by omega))
  have h951 : B 95 1 = nI (zz t dr) := hL.2.2.2.2.2.2.1
  have h959 : B 95 9 = nI (nn t dr) := hL.2.2.2.2.2.2.2.1
  have hdr : jb (¬ A 1 2 = 0) = jb (¬ B 95 1 ≤ 0) := by
    have h12 : A 1 2 = if dr = true then 1 else 0 := hL.2.2.2.2.2.1
    have hz := zz_0 hL.1 hL.2.2.2.2.1
    rw [h951]
    cases dr with
    | false => rw [jb_f (fun z => z h12), jb_f (fun z => by cases hz.2.mp z)]
    | true => rw [jb_t (by rw [h12]; decide), jb_t (hz.2.mpr rfl)]
  have hru : A 1 6 = B 95 5 := by
    obtain ⟨c, e1, e2, e3, e4⟩ := hL.2.2.2.2.2.2.2.2.2.2.2.1
    exact (show A 1 6 = nI c from e2).trans e3.symm
  exact SPq.mk (H_account_r hb (c_account_k0 (d := 14) (Y := Y) hb hn hm)) (by decide) (by decide) qE_c (by rw [jcount_n (by omega)]; exact hL.2.1.trans hL.2.2.1.symm)
theorem Q_account_1 {t : Nat} {dr : Bool} {b : SBt} {Y : OUt} {A B : MM} (hb : 94 ≤ b.2.1) (hL : rL t dr (lgC A 1) (B 95)) (hF : dr = true → rFix t A) : SPq b Y A yL_account cL_account 3 (some .int) [(0, 5, 6, 47)] [.ref 0, .int 1] (.int (jb (¬ B 95 1 ≤ 0))) := by
  have ht := hL.1
  have hn := nn_le (dr := dr) ht
  have hm := jmc_r hL hF
  have hw := jwc_r hL hF
  have hz14 := zz_le (dr := dr) ht
  have h10 : A 1 0 = nI t := hL.2.1
  have hta : ∀ (k q : Nat), 1 ≤ k → k ≤ 8 → q < 8 → jat 8 (jcount A (nn t dr) (75 + k)) (nI q) = gH B (nn t dr) (nI q) k := fun k q h1 h2 h3 => by rw [jat_nI h3 (by decide)]; exact tally_r hL hF h1 h2 h3
  have hLc : rL t dr (lgC (jcount A (nn t dr)) 1) (B 95) := rL_cells hL (fun i c _ _ => jcount_n (by omega)) (fun _ _ => rfl)
  have hFc : dr = true → rFix t (jcount A (nn t dr)) := fun z => rFix_c (hF z) (fun i c _ _ => jcount_n (by omega))
  have h951 : B 95 1 = nI (zz t dr) := hL.2.2.2.2.2.2.1
  have h959 : B 95 9 = nI (nn t dr) := hL.2.2.2.2.2.2.2.1
  have hdr : jb (¬ A 1 2 = 0) = jb (¬ B 95 1 ≤ 0) := by
    have h12 : A 1 2 = if dr = true then 1 else 0 := hL.2.2.2.2.2.1
    have hz := zz_0 hL.1 hL.2.2.2.2.1
    rw [h951]
    cases dr with
    | false => rw [jb_f (fun z => z h12), jb_f (fun z => by cases hz.2.mp z)]
    | true => rw [jb_t (by rw [h12]; decide), jb_t (hz.2.mpr rfl)]
  have hru : A 1 6 = B 95 5 := by
    obtain ⟨c, e1, e2, e3, e4⟩ := hL.2.2.2.2.2.2.2.2.2.2.2.1
    exact (show A 1 6 = nI c from e2).trans e3.symm
  exact SPq.mk (H_account_r hb (c_account_k1 (d := 14) (Y := Y) hb hn hm)) (by decide) (by decide) qE_c (by rw [jcount_n (by omega)]; exact hdr)
theorem Q_account_2 {t : Nat} {dr : Bool} {b : SBt} {Y : OUt} {A B : MM} (hb : 94 ≤ b.2.1) (hL : rL t dr (lgC A 1) (B 95)) (hF : dr = true → rFix t A) : SPq b Y A yL_account cL_account 3 (some .int) [(0, 5, 6, 47)] [.ref 0, .int 2] (.int (B 95 1)) := by
  have ht := hL.1
  have hn := nn_le (dr := dr) ht
  have hm := jmc_r hL hF
  have hw := jwc_r hL hF
  have hz14 := zz_le (dr := dr) ht
  have h10 : A 1 0 = nI t := hL.2.1
  have hta : ∀ (k q : Nat), 1 ≤ k → k ≤ 8 → q < 8 → jat 8 (jcount A (nn t dr) (75 + k)) (nI q) = gH B (nn t dr) (nI q) k := fun k q h1 h2 h3 => by rw [jat_nI h3 (by decide)]; exact tally_r hL hF h1 h2 h3
  have hLc : rL t dr (lgC (jcount A (nn t dr)) 1) (B 95) := rL_cells hL (fun i c _ _ => jcount_n (by omega)) (fun _ _ => rfl)
  have hFc : dr = true → rFix t (jcount A (nn t dr)) := fun z => rFix_c (hF z) (fun i c _ _ => jcount_n (by omega))
  have h951 : B 95 1 = nI (zz t dr) := hL.2.2.2.2.2.2.1
  have h959 : B 95 9 = nI (nn t dr) := hL.2.2.2.2.2.2.2.1
  have hdr : jb (¬ A 1 2 = 0) = jb (¬ B 95 1 ≤ 0) := by
    have h12 : A 1 2 = if dr = true then 1 else 0 := hL.2.2.2.2.2.1
    have hz := zz_0 hL.1 hL.2.2.2.2.1
    rw [h951]
    cases dr with
    | false => rw [jb_f (fun z => z h12), jb_f (fun z => by cases hz.2.mp z)]
    | true => rw [jb_t (by rw [h12]; decide), jb_t (hz.2.mpr rfl)]
  have hru : A 1 6 = B 95 5 := by
    obtain ⟨c, e1, e2, e3, e4⟩ := hL.2.2.2.2.2.2.2.2.2.2.2.1
    exact (show A 1 6 = nI c from e2).trans e3.symm
  exact SPq.mk (H_account_r hb (c_account_k2 (d := 14) (Y := Y) hb hn hm)) (by decide) (by decide) qE_c ((jwc_r hLc hFc).trans h951.symm)
theorem Q_account_3 {t : Nat} {dr : Bool} {b : SBt} {Y : OUt} {A B : MM} (hb : 94 ≤ b.2.1) (hL : rL t dr (lgC A 1) (B 95)) (hF : dr = true → rFix t A) : SPq b Y A yL_account cL_account 3 (some .int) [(0, 5, 6, 47)] [.ref 0, .int 3] (.int (B 95 2)) := by
  have ht := hL.1
  have hn := nn_le (dr := dr) ht
  have hm := jmc_r hL hF
  have hw := jwc_r hL hF
  have hz14 := zz_le (dr := dr) ht
  have h10 : A 1 0 = nI t := hL.2.1
  have hta : ∀ (k q : Nat), 1 ≤ k → k ≤ 8 → q < 8 → jat 8 (jcount A (nn t dr) (75 + k)) (nI q) = gH B (nn t dr) (nI q) k := fun k q h1 h2 h3 => by rw [jat_nI h3 (by decide)]; exact tally_r hL hF h1 h2 h3
  have hLc : rL t dr (lgC (jcount A (nn t dr)) 1) (B 95) := rL_cells hL (fun i c _ _ => jcount_n (by omega)) (fun _ _ => rfl)
  have hFc : dr = true → rFix t (jcount A (nn t dr)) := fun z => rFix_c (hF z) (fun i c _ _ => jcount_n (by omega))
  have h951 : B 95 1 = nI (zz t dr) := hL.2.2.2.2.2.2.1
  have h959 : B 95 9 = nI (nn t dr) := hL.2.2.2.2.2.2.2.1
  have hdr : jb (¬ A 1 2 = 0) = jb (¬ B 95 1 ≤ 0) := by
    have h12 : A 1 2 = if dr = true then 1 else 0 := hL.2.2.2.2.2.1
    have hz := zz_0 hL.1 hL.2.2.2.2.1
    rw [h951]
    cases dr with
    | false => rw [jb_f (fun z => z h12), jb_f (fun z => by cases hz.2.mp z)]
    | true => rw [jb_t (by rw [h12]; decide), jb_t (hz.2.mpr rfl)]
  have hru : A 1 6 = B 95 5 := by
    obtain ⟨c, e1, e2, e3, e4⟩ := hL.2.2.2.2.2.2.2.2.2.2.2.1
    exact (show A 1 6 = nI c from e2).trans e3.symm
  exact SPq.mk (H_account_r hb (c_account_k3 (d := 14) (Y := Y) hb hn hm)) (by decide) (by decide) qE_c (by rw [jcount_n (by omega)]; exact wk_r hL)
theorem Q_account_4 {t : Nat} {dr : Bool} {b : SBt} {Y : OUt} {A B : MM} (hb : 94 ≤ b.2.1) (hL : rL t dr (lgC A 1) (B 95)) (hF : dr = true → rFix t A) : SPq b Y A yL_account cL_account 3 (some .int) [(0, 5, 6, 47)] [.ref 0, .int 4] (.int (B 95 9)) := by
  have ht := hL.1
  have hn := nn_le (dr := dr) ht
  have hm := jmc_r hL hF
  have hw := jwc_r hL hF
  have hz14 := zz_le (dr := dr) ht
  have h10 : A 1 0 = nI t := hL.2.1
  have hta : ∀ (k q : Nat), 1 ≤ k → k ≤ 8 → q < 8 → jat 8 (jcount A (nn t dr) (75 + k)) (nI q) = gH B (nn t dr) (nI q) k := fun k q h1 h2 h3 => by rw [jat_nI h3 (by decide)]; exact tally_r hL hF h1 h2 h3
  have hLc : rL t dr (lgC (jcount A (nn t dr)) 1) (B 95) := rL_cells hL (fun i c _ _ => jcount_n (by omega)) (fun _ _ => rfl)
  have hFc : dr = true → rFix t (jcount A (nn t dr)) := fun z => rFix_c (hF z) (fun i c _ _ => jcount_n (by omega))
  have h951 : B 95 1 = nI (zz t dr) := hL.2.2.2.2.2.2.1
  have h959 : B 95 9 = nI (nn t dr) := hL.2.2.2.2.2.2.2.1
  have hdr : jb (¬ A 1 2 = 0) = jb (¬ B 95 1 ≤ 0) := by
    have h12 : A 1 2 = if dr = true then 1 else 0 := hL.2.2.2.2.2.1
    have hz := zz_0 hL.1 hL.2.2.2.2.1
    rw [h951]
    cases dr with
    | false => rw [jb_f (fun z => z h12), jb_f (fun z => by cases hz.2.mp z)]
    | true => rw [jb_t (by rw [h12]; decide), jb_t (hz.2.mpr rfl)]
  have hru : A 1 6 = B 95 5 := by
    obtain ⟨c, e1, e2, e3, e4⟩ := hL.2.2.2.2.2.2.2.2.2.2.2.1
    exact (show A 1 6 = nI c from e2).trans e3.symm
  exact SPq.mk (H_account_r hb (c_account_k4 (d := 14) (Y := Y) hb hn hm)) (by decide) (by decide) qE_c ((jmc_r hLc hFc).trans h959.symm)
theorem Q_account_5 {t : Nat} {dr : Bool} {b : SBt} {Y : OUt} {A B : MM} (hb : 94 ≤ b.2.1) (hL : rL t dr (lgC A 1) (B 95)) (hF : dr = true → rFix t A) : SPq b Y A yL_account cL_account 3 (some .int) [(0, 5, 6, 47)] [.ref 0, .int 5] (.int (jsum (fun m => jof B m 4) (nn t dr))) := by
  have ht := hL.1
  have hn := nn_le (dr := dr) ht
  have hm := jmc_r hL hF
  have hw := jwc_r hL hF
  have hz14 := zz_le (dr := dr) ht
  have h10 : A 1 0 = nI t := hL.2.1
  have hta : ∀ (k q : Nat), 1 ≤ k → k ≤ 8 → q < 8 → jat 8 (jcount A (nn t dr) (75 + k)) (nI q) = gH B (nn t dr) (nI q) k := fun k q h1 h2 h3 => by rw [jat_nI h3 (by decide)]; exact tally_r hL hF h1 h2 h3
  have hLc : rL t dr (lgC (jcount A (nn t dr)) 1) (B 95) := rL_cells hL (fun i c _ _ => jcount_n (by omega)) (fun _ _ => rfl)
  have hFc : dr = true → rFix t (jcount A (nn t dr)) := fun z => rFix_c (hF z) (fun i c _ _ => jcount_n (by omega))
  have h951 : B 95 1 = nI (zz t dr) := hL.2.2.2.2.2.2.1
  have h959 : B 95 9 = nI (nn t dr) := hL.2.2.2.2.2.2.2.1
  have hdr : jb (¬ A 1 2 = 0) = jb (¬ B 95 1 ≤ 0) := by
    have h12 : A 1 2 = if dr = true then 1 else 0 := hL.2.2.2.2.2.1
    have hz := zz_0 hL.1 hL.2.2.2.2.1
    rw [h951]
    cases dr with
    | false => rw [jb_f (fun z => z h12), jb_f (fun z => by cases hz.2.mp z)]
    | true => rw [jb_t (by rw [h12]; decide), jb_t (hz.2.mpr rfl)]
  have hru : A 1 6 = B 95 5 := by
    obtain ⟨c, e1, e2, e3, e4⟩ := hL.2.2.2.2.2.2.2.2.2.2.2.1
    exact (show A 1 6 = nI c from e2).trans e3.symm
  exact SPq.mk (H_account_r hb (c_account_k5 (d := 14) (Y := Y) hb hn hm)) (by decide) (by decide) qE_c (jcount_pl.trans (pl_r hL))
theorem Q_account_6 {t : Nat} {dr : Bool} {b : SBt} {Y : OUt} {A B : MM} (hb : 94 ≤ b.2.1) (hL : rL t dr (lgC A 1) (B 95)) (hF : dr = true → rFix t A) : SPq b Y A yL_account cL_account 3 (some .int) [(0, 5, 6, 47)] [.ref 0, .int 6] (.int (jsum (gPutC B) (nn t dr))) := by
  have ht := hL.1
  have hn := nn_le (dr := dr) ht
  have hm := jmc_r hL hF
  have hw := jwc_r hL hF
  have hz14 := zz_le (dr := dr) ht
  have h10 : A 1 0 = nI t := hL.2.1
  have hta : ∀ (k q : Nat), 1 ≤ k → k ≤ 8 → q < 8 → jat 8 (jcount A (nn t dr) (75 + k)) (nI q) = gH B (nn t dr) (nI q) k := fun k q h1 h2 h3 => by rw [jat_nI h3 (by decide)]; exact tally_r hL hF h1 h2 h3
  have hLc : rL t dr (lgC (jcount A (nn t dr)) 1) (B 95) := rL_cells hL (fun i c _ _ => jcount_n (by omega)) (fun _ _ => rfl)
  have hFc : dr = true → rFix t (jcount A (nn t dr)) := fun z => rFix_c (hF z) (fun i c _ _ => jcount_n (by omega))
  have h951 : B 95 1 = nI (zz t dr) := hL.2.2.2.2.2.2.1
  have h959 : B 95 9 = nI (nn t dr) := hL.2.2.2.2.2.2.2.1
  have hdr : jb (¬ A 1 2 = 0) = jb (¬ B 95 1 ≤ 0) := by
    have h12 : A 1 2 = if dr = true then 1 else 0 := hL.2.2.2.2.2.1
    have hz := zz_0 hL.1 hL.2.2.2.2.1
    rw [h951]
    cases dr with
    | false => rw [jb_f (fun z => z h12), jb_f (fun z => by cases hz.2.mp z)]
    | true => rw [jb_t (by rw [h12]; decide), jb_t (hz.2.mpr rfl)]
  have hru : A 1 6 = B 95 5 := by
    obtain ⟨c, e1, e2, e3, e4⟩ := hL.2.2.2.2.2.2.2.2.2.2.2.1
    exact (show A 1 6 = nI c from e2).trans e3.symm
  exact SPq.mk (H_account_r hb (c_account_k6 (d := 14) (Y := Y) hb hn hm)) (by decide) (by decide) qE_c (put_c hLc hFc)
theorem Q_account_7 {t : Nat} {dr : Bool} {b : SBt} {Y : OUt} {A B : MM} (hb : 94 ≤ b.2.1) (hL : rL t dr (lgC A 1) (B 95)) (hF : dr = true → rFix t A) : SPq b Y A yL_account cL_account 3 (some .int) [(0, 5, 6, 47)] [.ref 0, .int 7] (.int (B 95 3)) := by
  have ht := hL.1
  have hn := nn_le (dr := dr) ht
  have hm := jmc_r hL hF
  have hw := jwc_r hL hF
  have hz14 := zz_le (dr := dr) ht
  have h10 : A 1 0 = nI t := hL.2.1
  have hta : ∀ (k q : Nat), 1 ≤ k → k ≤ 8 → q < 8 → jat 8 (jcount A (nn t dr) (75 + k)) (nI q) = gH B (nn t dr) (nI q) k := fun k q h1 h2 h3 => by rw [jat_nI h3 (by decide)]; exact tally_r hL hF h1 h2 h3
  have hLc : rL t dr (lgC (jcount A (nn t dr)) 1) (B 95) := rL_cells hL (fun i c _ _ => jcount_n (by omega)) (fun _ _ => rfl)
  have hFc : dr = true → rFix t (jcount A (nn t dr)) := fun z => rFix_c (hF z) (fun i c _ _ => jcount_n (by omega))
  have h951 : B 95 1 = nI (zz t dr) := hL.2.2.2.2.2.2.1
  have h959 : B 95 9 = nI (nn t dr) := hL.2.2.2.2.2.2.2.1
  have hdr : jb (¬ A 1 2 = 0) = jb (¬ B 95 1 ≤ 0) := by
    have h12 : A 1 2 = if dr = true then 1 else 0 := hL.2.2.2.2.2.1
    have hz := zz_0 hL.1 hL.2.2.2.2.1
    rw [h951]
    cases dr with
    | false => rw [jb_f (fun z => z h12), jb_f (fun z => by cases hz.2.mp z)]
    | true => rw [jb_t (by rw [h12]; decide), jb_t (hz.2.mpr rfl)]
  have hru : A 1 6 = B 95 5 := by
    obtain ⟨c, e1, e2, e3, e4⟩ := hL.2.2.2.2.2.2.2.2.2.2.2.1
    exact (show A 1 6 = nI c from e2).trans e3.symm
  exact SPq.mk (H_account_r hb (c_account_k7 (d := 14) (Y := Y) hb hn hm)) (by decide) (by decide) qE_c (by rw [jcount_n (by omega)]; exact pw_r hL)
theorem Q_account_8 {t : Nat} {dr : Bool} {b : SBt} {Y : OUt} {A B : MM} (hb : 94 ≤ b.2.1) (hL : rL t dr (lgC A 1) (B 95)) (hF : dr = true → rFix t A) : SPq b Y A yL_account cL_account 3 (some .int) [(0, 5, 6, 47)] [.ref 0, .int 8] (.int (B 95 4)) := by
  have ht := hL.1
  have hn := nn_le (dr := dr) ht
  have hm := jmc_r hL hF
  have hw := jwc_r hL hF
  have hz14 := zz_le (dr := dr) ht
  have h10 : A 1 0 = nI t := hL.2.1
  have hta : ∀ (k q : Nat), 1 ≤ k → k ≤ 8 → q < 8 → jat 8 (jcount A (nn t dr) (75 + k)) (nI q) = gH B (nn t dr) (nI q) k := fun k q h1 h2 h3 => by rw [jat_nI h3 (by decide)]; exact tally_r hL hF h1 h2 h3
  have hLc : rL t dr (lgC (jcount A (nn t dr)) 1) (B 95) := rL_cells hL (fun i c _ _ => jcount_n (by omega)) (fun _ _ => rfl)
  have hFc : dr = true → rFix t (jcount A (nn t dr)) := fun z => rFix_c (hF z) (fun i c _ _ => jcount_n (by omega))
  have h951 : B 95 1 = nI (zz t dr) := hL.2.2.2.2.2.2.1
  have h959 : B 95 9 = nI (nn t dr) := hL.2.2.2.2.2.2.2.1
  have hdr : jb (¬ A 1 2 = 0) = jb (¬ B 95 1 ≤ 0) := by
    have h12 : A 1 2 = if dr = true then 1 else 0 := hL.2.2.2.2.2.1
    have hz := zz_0 hL.1 hL.2.2.2.2.1
    rw [h951]
    cases dr with
    | false => rw [jb_f (fun z => z h12), jb_f (fun z => by cases hz.2.mp z)]
    | true => rw [jb_t (by rw [h12]; decide), jb_t (hz.2.mpr rfl)]
  have hru : A 1 6 = B 95 5 := by
    obtain ⟨c, e1, e2, e3, e4⟩ := hL.2.2.2.2.2.2.2.2.2.2.2.1
    exact (show A 1 6 = nI c from e2).trans e3.symm
  exact SPq.mk (H_account_r hb (c_account_k8 (d := 14) (Y := Y) hb hn hm)) (by decide) (by decide) qE_c (by rw [jcount_n (by omega)]; exact pd_r hL)
theorem Q_account_9 {t : Nat} {dr : Bool} {b : SBt} {Y : OUt} {A B : MM} (hb : 94 ≤ b.2.1) (hL : rL t dr (lgC A 1) (B 95)) (hF : dr = true → rFix t A) : SPq b Y A yL_account cL_account 3 (some .int) [(0, 5, 6, 47)] [.ref 0, .int 9] (.int (B 95 5)) := by
  have ht := hL.1
  have hn := nn_le (dr := dr) ht
  have hm := jmc_r hL hF
  have hw := jwc_r hL hF
  have hz14 := zz_le (dr := dr) ht
  have h10 : A 1 0 = nI t := hL.2.1
  have hta : ∀ (k q : Nat), 1 ≤ k → k ≤ 8 → q < 8 → jat 8 (jcount A (nn t dr) (75 + k)) (nI q) = gH B (nn t dr) (nI q) k := fun k q h1 h2 h3 => by rw [jat_nI h3 (by decide)]; exact tally_r hL hF h1 h2 h3
  have hLc : rL t dr (lgC (jcount A (nn t dr)) 1) (B 95) := rL_cells hL (fun i c _ _ => jcount_n (by omega)) (fun _ _ => rfl)
  have hFc : dr = true → rFix t (jcount A (nn t dr)) := fun z => rFix_c (hF z) (fun i c _ _ => jcount_n (by omega))
  have h951 : B 95 1 = nI (zz t dr) := hL.2.2.2.2.2.2.1
  have h959 : B 95 9 = nI (nn t dr) := hL.2.2.2.2.2.2.2.1
  have hdr : jb (¬ A 1 2 = 0) = jb (¬ B 95 1 ≤ 0) := by
    have h12 : A 1 2 = if dr = true then 1 else 0 := hL.2.2.2.2.2.1
    have hz := zz_0 hL.1 hL.2.2.2.2.1
    rw [h951]
    cases dr with
    | false => rw [jb_f (fun z => z h12), jb_f (fun z => by cases hz.2.mp z)]
    | true => rw [jb_t (by rw [h12]; decide), jb_t (hz.2.mpr rfl)]
  have hru : A 1 6 = B 95 5 := by
    obtain ⟨c, e1, e2, e3, e4⟩ := hL.2.2.2.2.2.2.2.2.2.2.2.1
    exact (show A 1 6 = nI c from e2).trans e3.symm
  exact SPq.mk (H_account_r hb (c_account_k9 (d := 14) (Y := Y) hb hn hm)) (by decide) (by decide) qE_c (by rw [jcount_n (by omega)]; exact hru)
theorem Q_account_10 {t : Nat} {dr : Bool} {b : SBt} {Y : OUt} {A B : MM} (hb : 94 ≤ b.2.1) (hL : rL t dr (lgC A 1) (B 95)) (hF : dr = true → rFix t A) : SPq b Y A yL_account cL_account 3 (some .int) [(0, 5, 6, 47)] [.ref 0, .int 10] (.int (jsum (gGoals B) (nn t dr))) := by
  have ht := hL.1
  have hn := nn_le (dr := dr) ht
  have hm := jmc_r hL hF
  have hw := jwc_r hL hF
  have hz14 := zz_le (dr := dr) ht
  have h10 : A 1 0 = nI t := hL.2.1
  have hta : ∀ (k q : Nat), 1 ≤ k → k ≤ 8 → q < 8 → jat 8 (jcount A (nn t dr) (75 + k)) (nI q) = gH B (nn t dr) (nI q) k := fun k q h1 h2 h3 => by rw [jat_nI h3 (by decide)]; exact tally_r hL hF h1 h2 h3
  have hLc : rL t dr (lgC (jcount A (nn t dr)) 1) (B 95) := rL_cells hL (fun i c _ _ => jcount_n (by omega)) (fun _ _ => rfl)
  have hFc : dr = true → rFix t (jcount A (nn t dr)) := fun z => rFix_c (hF z) (fun i c _ _ => jcount_n (by omega))
  have h951 : B 95 1 = nI (zz t dr) := hL.2.2.2.2.2.2.1
  have h959 : B 95 9 = nI (nn t dr) := hL.2.2.2.2.2.2.2.1
  have hdr : jb (¬ A 1 2 = 0) = jb (¬ B 95 1 ≤ 0) := by
    have h12 : A 1 2 = if dr = true then 1 else 0 := hL.2.2.2.2.2.1
    have hz := zz_0 hL.1 hL.2.2.2.2.1
    rw [h951]
    cases dr with
    | false => rw [jb_f (fun z => z h12), jb_f (fun z => by cases hz.2.mp z)]
    | true => rw [jb_t (by rw [h12]; decide), jb_t (hz.2.mpr rfl)]
  have hru : A 1 6 = B 95 5 := by
    obtain ⟨c, e1, e2, e3, e4⟩ := hL.2.2.2.2.2.2.2.2.2.2.2.1
    exact (show A 1 6 = nI c from e2).trans e3.symm
  exact SPq.mk (H_account_r hb (c_account_k10 (d := 14) (Y := Y) hb hn hm)) (by decide) (by decide) qE_c (go_r hL)
theorem Q_account_11 {t : Nat} {dr : Bool} {b : SBt} {Y : OUt} {A B : MM} (hb : 94 ≤ b.2.1) (hL : rL t dr (lgC A 1) (B 95)) (hF : dr = true → rFix t A) : SPq b Y A yL_account cL_account 3 (some .int) [(0, 5, 6, 47)] [.ref 0, .int 11] (.int (jsum (fun i => gH B (nn t dr) (nI i) 1) t)) := by
  have ht := hL.1
  have hn := nn_le (dr := dr) ht
  have hm := jmc_r hL hF
  have hw := jwc_r hL hF
  have hz14 := zz_le (dr := dr) ht
  have h10 : A 1 0 = nI t := hL.2.1
  have hta : ∀ (k q : Nat), 1 ≤ k → k ≤ 8 → q < 8 → jat 8 (jcount A (nn t dr) (75 + k)) (nI q) = gH B (nn t dr) (nI q) k := fun k q h1 h2 h3 => by rw [jat_nI h3 (by decide)]; exact tally_r hL hF h1 h2 h3
  have hLc : rL t dr (lgC (jcount A (nn t dr)) 1) (B 95) := rL_cells hL (fun i c _ _ => jcount_n (by omega)) (fun _ _ => rfl)
  have hFc : dr = true → rFix t (jcount A (nn t dr)) := fun z => rFix_c (hF z) (fun i c _ _ => jcount_n (by omega))
  have h951 : B 95 1 = nI (zz t dr) := hL.2.2.2.2.2.2.1
  have h959 : B 95 9 = nI (nn t dr) := hL.2.2.2.2.2.2.2.1
  have hdr : jb (¬ A 1 2 = 0) = jb (¬ B 95 1 ≤ 0) := by
    have h12 : A 1 2 = if dr = true then 1 else 0 := hL.2.2.2.2.2.1
    have hz := zz_0 hL.1 hL.2.2.2.2.1
    rw [h951]
    cases dr with
    | false => rw [jb_f (fun z => z h12), jb_f (fun z => by cases hz.2.mp z)]
    | true => rw [jb_t (by rw [h12]; decide), jb_t (hz.2.mpr rfl)]
  have hru : A 1 6 = B 95 5 := by
    obtain ⟨c, e1, e2, e3, e4⟩ := hL.2.2.2.2.2.2.2.2.2.2.2.1
    exact (show A 1 6 = nI c from e2).trans e3.symm
  exact SPq.mk (H_account_r hb (c_account_k11 (d := 14) (Y := Y) hb hn hm ht h10)) (by decide) (by decide) qE_c (jsum_c fun i hi => hta 1 i (by omega) (by omega) (by omega))
theorem Q_account_12 {t : Nat} {dr : Bool} {b : SBt} {Y : OUt} {A B : MM} (hb : 94 ≤ b.2.1) (hL : rL t dr (lgC A 1) (B 95)) (hF : dr = true → rFix t A) : SPq b Y A yL_account cL_account 3 (some .int) [(0, 5, 6, 47)] [.ref 0, .int 12] (.int (jsum (fun w => gpairs B (nn t dr) (nI w)) (zz t dr))) := by
  have ht := hL.1
  have hn := nn_le (dr := dr) ht
  have hm := jmc_r hL hF
  have hw := jwc_r hL hF
  have hz14 := zz_le (dr := dr) ht
  have h10 : A 1 0 = nI t := hL.2.1
  have hta : ∀ (k q : Nat), 1 ≤ k → k ≤ 8 → q < 8 → jat 8 (jcount A (nn t dr) (75 + k)) (nI q) = gH B (nn t dr) (nI q) k := fun k q h1 h2 h3 => by rw [jat_nI h3 (by decide)]; exact tally_r hL hF h1 h2 h3
  have hLc : rL t dr (lgC (jcount A (nn t dr)) 1) (B 95) := rL_cells hL (fun i c _ _ => jcount_n (by omega)) (fun _ _ => rfl)
  have hFc : dr = true → rFix t (jcount A (nn t dr)) := fun z => rFix_c (hF z) (fun i c _ _ => jcount_n (by omega))
  have h951 : B 95 1 = nI (zz t dr) := hL.2.2.2.2.2.2.1
  have h959 : B 95 9 = nI (nn t dr) := hL.2.2.2.2.2.2.2.1
  have hdr : jb (¬ A 1 2 = 0) = jb (¬ B 95 1 ≤ 0) := by
    have h12 : A 1 2 = if dr = true then 1 else 0 := hL.2.2.2.2.2.1
    have hz := zz_0 hL.1 hL.2.2.2.2.1
    rw [h951]
    cases dr with
    | false => rw [jb_f (fun z => z h12), jb_f (fun z => by cases hz.2.mp z)]
    | true => rw [jb_t (by rw [h12]; decide), jb_t (hz.2.mpr rfl)]
  have hru : A 1 6 = B 95 5 := by
    obtain ⟨c, e1, e2, e3, e4⟩ := hL.2.2.2.2.2.2.2.2.2.2.2.1
    exact (show A 1 6 = nI c from e2).trans e3.symm
  exact SPq.mk (H_account_r hb (c_account_k12 (d := 14) (Y := Y) hb hn hm hz14 hw)) (by decide) (by decide) qE_c (jsum_c fun i hi => pairs_r hLc hFc _)
theorem Q_account_13 {t : Nat} {dr : Bool} {b : SBt} {Y : OUt} {A B : MM} (hb : 94 ≤ b.2.1) (hL : rL t dr (lgC A 1) (B 95)) (hF : dr = true → rFix t A) : SPq b Y A yL_account cL_account 3 (some .int) [(0, 5, 6, 47)] [.ref 0, .int 13] (.int (A 13 2)) := by
  have ht := hL.1
  have hn := nn_le (dr := dr) ht
  have hm := jmc_r hL hF
  have hw := jwc_r hL hF
  have hz14 := zz_le (dr := dr) ht
  have h10 : A 1 0 = nI t := hL.2.1
  have hta : ∀ (k q : Nat), 1 ≤ k → k ≤ 8 → q < 8 → jat 8 (jcount A (nn t dr) (75 + k)) (nI q) = gH B (nn t dr) (nI q) k := fun k q h1 h2 h3 => by rw [jat_nI h3 (by decide)]; exact tally_r hL hF h1 h2 h3
  have hLc : rL t dr (lgC (jcount A (nn t dr)) 1) (B 95) := rL_cells hL (fun i c _ _ => jcount_n (by omega)) (fun _ _ => rfl)
  have hFc : dr = true → rFix t (jcount A (nn t dr)) := fun z => rFix_c (hF z) (fun i c _ _ => jcount_n (by omega))
  have h951 : B 95 1 = nI (zz t dr) := hL.2.2.2.2.2.2.1
  have h959 : B 95 9 = nI (nn t dr) := hL.2.2.2.2.2.2.2.1
  have hdr : jb (¬ A 1 2 = 0) = jb (¬ B 95 1 ≤ 0) := by
    have h12 : A 1 2 = if dr = true then 1 else 0 := hL.2.2.2.2.2.1
    have hz := zz_0 hL.1 hL.2.2.2.2.1
    rw [h951]
    cases dr with
    | false => rw [jb_f (fun z => z h12), jb_f (fun z => by cases hz.2.mp z)]
    | true => rw [jb_t (by rw [h12]; decide), jb_t (hz.2.mpr rfl)]
  have hru : A 1 6 = B 95 5 := by
    obtain ⟨c, e1, e2, e3, e4⟩ := hL.2.2.2.2.2.2.2.2.2.2.2.1
    exact (show A 1 6 = nI c from e2).trans e3.symm
  exact SPq.mk (H_account_r hb (c_account_k13 (d := 14) (Y := Y) hb hn hm)) (by decide) (by decide) qE_c (jcount_n (by omega))
theorem Q_account_14 {t : Nat} {dr : Bool} {b : SBt} {Y : OUt} {A B : MM} (hb : 94 ≤ b.2.1) (hL : rL t dr (lgC A 1) (B 95)) (hF : dr = true → rFix t A) : SPq b Y A yL_account cL_account 3 (some .int) [(0, 5, 6, 47)] [.ref 0, .int 14] (.int (A 86 0)) := by
  have ht := hL.1
  have hn := nn_le (dr := dr) ht
  have hm := jmc_r hL hF
  have hw := jwc_r hL hF
  have hz14 := zz_le (dr := dr) ht
  have h10 : A 1 0 = nI t := hL.2.1
  have hta : ∀ (k q : Nat), 1 ≤ k → k ≤ 8 → q < 8 → jat 8 (jcount A (nn t dr) (75 + k)) (nI q) = gH B (nn t dr) (nI q) k := fun k q h1 h2 h3 => by rw [jat_nI h3 (by decide)]; exact tally_r hL hF h1 h2 h3
  have hLc : rL t dr (lgC (jcount A (nn t dr)) 1) (B 95) := rL_cells hL (fun i c _ _ => jcount_n (by omega)) (fun _ _ => rfl)
  have hFc : dr = true → rFix t (jcount A (nn t dr)) := fun z => rFix_c (hF z) (fun i c _ _ => jcount_n (by omega))
  have h951 : B 95 1 = nI (zz t dr) := hL.2.2.2.2.2.2.1
  have h959 : B 95 9 = nI (nn t dr) := hL.2.2.2.2.2.2.2.1
  have hdr : jb (¬ A 1 2 = 0) = jb (¬ B 95 1 ≤ 0) := by
    have h12 : A 1 2 = if dr = true then 1 else 0 := hL.2.2.2.2.2.1
    have hz := zz_0 hL.1 hL.2.2.2.2.1
    rw [h951]
    cases dr with
    | false => rw [jb_f (fun z => z h12), jb_f (fun z => by cases hz.2.mp z)]
    | true => rw [jb_t (by rw [h12]; decide), jb_t (hz.2.mpr rfl)]
  have hru : A 1 6 = B 95 5 := by
    obtain ⟨c, e1, e2, e3, e4⟩ := hL.2.2.2.2.2.2.2.2.2.2.2.1
    exact (show A 1 6 = nI c from e2).trans e3.symm
  exact SPq.mk (H_account_r hb (c_account_k14 (d := 14) (Y := Y) hb hn hm)) (by decide) (by decide) qE_c (jcount_n (by omega))
theorem Q_account_bad {t : Nat} {dr : Bool} {b : SBt} {Y : OUt} {A B : MM} (hb : 94 ≤ b.2.1) (hL : rL t dr (lgC A 1) (B 95)) (hF : dr = true → rFix t A) {x : Int32} (hx : x < 0 ∨ ¬ x ≤ 14) : SPq b Y A yL_account cL_account 3 (some .int) [(0, 5, 6, 47)] [.ref 0, .int x] (.int (-1001)) := by
  have ht := hL.1
  have hn := nn_le (dr := dr) ht
  have hm := jmc_r hL hF
  have hw := jwc_r hL hF
  have hz14 := zz_le (dr := dr) ht
  have h10 : A 1 0 = nI t := hL.2.1
  exact SPq.mk (H_account_t1 hb (c_account_bad (d := 19) (Y := Y) hb hx)) (by decide) (by decide) qE_0 (rfl)
theorem Q_freeWeek {t : Nat} {b : SBt} {Y : OUt} {A B : MM} (hb : 94 ≤ b.2.1) (hL : rL t true (lgC A 1) (B 95)) (hF : true = true → rFix t A) {q : Nat} (hq : q < nn t true) : SPq b Y A yL_freeWeek cL_freeWeek 3 (some .int) [(0, 5, 6, 45), (0, 5, 11, 58)] [.ref 0, .int (nI q)] (.int (gOr2 (gfree B (nn t true) (zz t true) (jof B q 2).toNatClampNeg q))) := by
  have ht := hL.1
  have hn := nn_le (dr := true) ht
  have hm := jmc_r hL hF
  have hw := jwc_r hL hF
  have hz14 := zz_le (dr := true) ht
  have h10 : A 1 0 = nI t := hL.2.1
  have hM : ¬ nI q < 0 ∧ ¬ jmc A ≤ nI q := by rw [hm]; exact (in_q1 (by omega)).mpr ⟨q, hq, rfl⟩
  have hq56 : q < 56 := Nat.lt_of_lt_of_le hq hn
  have hf := (hF rfl).2.2.1 q hq
  have hh := mt_of.mp (hL.2.2.2.2.2.2.2.2.2.2.2.2 q hq)
  have hm2 := (mt_q hL hq).2
  have hg : A 5 q = (if jof B q 4 = 1 then jof B q 6 else -1) ∧ A 6 q = (if jof B q 4 = 1 then jof B q 7 else -1) := by
    rcases hh.2.2.2.2.2 with ⟨p, g, g2, p1, p2, p3, p4, p5, p6⟩ | ⟨p, p3, p4⟩
    · rw [if_pos p, if_pos p]; exact ⟨p3.trans p4.symm, p5.trans p6.symm⟩
    · have p' : ¬ jof B q 4 = 1 := by rw [p]; decide
      rw [if_neg p', if_neg p']; exact ⟨p3, p4⟩
  obtain ⟨w0, w1, -, y2, -, y4, -⟩ := hh.2.2.2.2.1
  have hw1 : w1 < 2 ^ 31 := by have : w1 < zz t true := y4; omega
  have hat : jat 56 (A 4) (nI q) = nI w1 := by rw [jat_nI hq56 (by decide), hm2]; exact y2
  have hj : (jof B q 2).toNatClampNeg = w1 := by rw [show jof B q 2 = nI w1 from y2]; exact nI_clamp hw1
  have he : jfree A (nn t true) (zz t true) w1 (nI q) = gfree B (nn t true) (zz t true) (jof B q 2).toNatClampNeg q := by
    rw [hj]
    unfold jfree gfree
    rw [show (fun i => jb (jsum (fCl A (nI q) (nI (w1 + 1 + i))) (nn t true) = 0)) = (fun i => jb (jsum (gCl (jm B 94 19 0) q (nI (w1 + 1 + i))) (nn t true) = 0)) from funext fun i => by rw [cl_r hL hF hq]; rfl]
  by_cases h : jfree A (nn t true) (zz t true) w1 (nI q) = -1
  · exact SPq.mk (H_freeWeek_t2 hb (c_freeWeek_no (d := 15) (Y := Y) hb hM hn hm hz14 hw hat y4 h)) (by decide) (by decide) qE_0 (by rw [← he, h]; rfl)
  · exact SPq.mk (H_freeWeek_r hb (c_freeWeek_ok (d := 15) (Y := Y) hb hM hn hm hz14 hw hat y4 h)) (by decide) (by decide) qE_0 (by rw [← he]; exact (if_neg h).symm)
theorem Q_find {t : Nat} {b : SBt} {Y : OUt} {A B : MM} (hb : 94 ≤ b.2.1) (hL : rL t true (lgC A 1) (B 95)) (hF : true = true → rFix t A) {q q2 : Nat} (hq : q < t) (hq2 : q2 < t) : SPq b Y A yL_find cL_find 4 (some .int) [(0, 6, 7, 45), (0, 6, 12, 58)] [.ref 0, .int (nI q), .int (nI q2)] (.int (gOr2 (jfst (gBet B (nI q) (nI q2)) (nn t true)))) := by
  have ht := hL.1
  have hn := nn_le (dr := true) ht
  have hm := jmc_r hL hF
  have hw := jwc_r hL hF
  have hz14 := zz_le (dr := true) ht
  have h10 : A 1 0 = nI t := hL.2.1
  have hU : ¬ nI q < 0 ∧ ¬ A 1 0 ≤ nI q := by rw [h10]; exact (in_q1 (by omega)).mpr ⟨q, hq, rfl⟩
  have hV : ¬ nI q2 < 0 ∧ ¬ A 1 0 ≤ nI q2 := by rw [h10]; exact (in_q1 (by omega)).mpr ⟨q2, hq2, rfl⟩
  have he : jfst (fBet A (nI q) (nI q2)) (nn t true) = jfst (gBet B (nI q) (nI q2)) (nn t true) := jfst_c fun m hm => by
    obtain ⟨f1, f2, -⟩ := (hF rfl).2.2.1 m hm
    have hh := mt_of.mp (hL.2.2.2.2.2.2.2.2.2.2.2.2 m hm)
    unfold fBet gBet
    rw [f1, f2, hh.1, hh.2.1]
  by_cases h : jfst (fBet A (nI q) (nI q2)) (nn t true) = -1
  · exact SPq.mk (H_find_t2 hb (c_find_no (d := 17) (Y := Y) hb hU hV hn hm h)) (by decide) (by decide) qE_0 (by rw [← he, h]; rfl)
  · exact SPq.mk (H_find_r hb (c_find_ok (d := 17) (Y := Y) hb hU hV hn hm h)) (by decide) (by decide) qE_0 (by rw [← he]; exact (if_neg h).symm)
theorem Q_find_nt {t : Nat} {dr : Bool} {b : SBt} {Y : OUt} {A B : MM} (hb : 94 ≤ b.2.1) (hL : rL t dr (lgC A 1) (B 95)) (hF : dr = true → rFix t A) {x y : Int32} (hx : ¬ ((∃ q, q < t ∧ x = nI q) ∧ ∃ q, q < t ∧ y = nI q)) : SPq b Y A yL_find cL_find 4 (some .int) [(0, 6, 7, 45), (0, 6, 12, 58)] [.ref 0, .int x, .int y] (.int (-1001)) := by
  have ht := hL.1
  have hn := nn_le (dr := dr) ht
  have hm := jmc_r hL hF
  have hw := jwc_r hL hF
  have hz14 := zz_le (dr := dr) ht
  have h10 : A 1 0 = nI t := hL.2.1
  have hN : ¬ ((¬ x < 0 ∧ ¬ A 1 0 ≤ x) ∧ (¬ y < 0 ∧ ¬ A 1 0 ≤ y)) := by rw [h10]; exact fun z => hx ⟨(in_q1 (by omega)).mp z.1, (in_q1 (by omega)).mp z.2⟩
  exact SPq.mk (H_find_t1 hb (c_find_nt (d := 18) (Y := Y) hb hN)) (by decide) (by decide) qE_0 (rfl)
theorem Q_byeIn {t : Nat} {b : SBt} {Y : OUt} {A B : MM} (hb : 94 ≤ b.2.1) (hL : rL t true (lgC A 1) (B 95)) (hF : true = true → rFix t A) {q : Nat} (hq : q < zz t true) : SPq b Y A yL_byeIn cL_byeIn 3 (some .int) [(0, 5, 6, 45), (0, 5, 11, 58)] [.ref 0, .int (nI q)] (.int (gOr2 (bye t q))) := by
  have ht := hL.1
  have hn := nn_le (dr := true) ht
  have hm := jmc_r hL hF
  have hw := jwc_r hL hF
  have hz14 := zz_le (dr := true) ht
  have h10 : A 1 0 = nI t := hL.2.1
  have hW : ¬ nI q < 0 ∧ ¬ jwc A ≤ nI q := by rw [hw]; exact (in_q1 (by omega)).mpr ⟨q, hq, rfl⟩
  have hzw : zz t true = wT t := rfl
  have he : jat 14 (A 73) (nI q) = bye t q := by rw [jat_nI (by omega) (by decide)]; exact (hF rfl).2.2.2 q hq
  by_cases h : jat 14 (A 73) (nI q) = -1
  · exact SPq.mk (H_byeIn_t2 hb (c_byeIn_no (d := 17) (Y := Y) hb hW h)) (by decide) (by decide) qE_0 (by rw [← he, h]; rfl)
  · exact SPq.mk (H_byeIn_r hb (c_byeIn_ok (d := 17) (Y := Y) hb hW h)) (by decide) (by decide) qE_0 (by rw [← he]; exact (if_neg h).symm)
