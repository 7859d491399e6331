/-! ===== the order of the teams is the reference's ===== -/
theorem bt_or : ∀ w, w < 8 → ∀ S, S < 2 ^ w → nI S ||| ((1 : Int32) <<< (nI w &&& 31)) = nI (S + 2 ^ w) := by decide +kernel
theorem bt_get : ∀ a, a < 8 → ∀ S, S < 256 → ((nI S >>> (nI a &&& 31)) &&& 1 = 0 ↔ S / 2 ^ a % 2 = 0) := by decide +kernel
theorem bt_add : ∀ w, w < 8 → ∀ S, S < 2 ^ w → ∀ a, a < 8 → ((S + 2 ^ w) / 2 ^ a % 2 = 0 ↔ (¬ a = w ∧ S / 2 ^ a % 2 = 0)) := by decide +kernel
theorem bt_lt : ∀ w, w < 9 → 2 ^ w ≤ 256 := by decide
theorem tied_S {B : MM} {n : Nat} {u : Int32} : ∀ w, w ≤ 8 → ∃ S, S < 2 ^ w ∧ gTied B n u w = nI S ∧ ∀ a, a < 8 → (S / 2 ^ a % 2 = 0 ↔ ¬ (a < w ∧ gH B n (nI a) 1 = gH B n u 1))
  | 0, _ => ⟨0, by decide, rfl, fun a _ => ⟨fun _ z => Nat.not_lt_zero a z.1, fun _ => by rw [Nat.zero_div]⟩⟩
  | w + 1, hw => by
    obtain ⟨S, h1, h2, h3⟩ := tied_S w (by omega)
    rw [gTied]
    by_cases c : gH B n (nI w) 1 = gH B n u 1
    · refine ⟨S + 2 ^ w, by rw [Nat.pow_succ]; omega, by rw [if_pos c, h2]; exact bt_or w (by omega) S h1, fun a ha => ?_⟩
      rw [bt_add w (by omega) S h1 a ha, h3 a ha]
      constructor
      · rintro ⟨q1, q2⟩ ⟨q3, q4⟩
        exact q2 ⟨by omega, q4⟩
      · intro q
        exact ⟨fun z => q ⟨by omega, by rw [z]; exact c⟩, fun z => q ⟨by omega, z.2⟩⟩
    · refine ⟨S, by rw [Nat.pow_succ]; omega, by rw [if_neg c]; exact h2, fun a ha => ?_⟩
      rw [h3 a ha]
      constructor
      · rintro q1 ⟨q3, q4⟩
        by_cases e : a = w
        · subst e; exact c q4
        · exact q1 ⟨by omega, q4⟩
      · intro q z
        exact q ⟨by omega, z.2⟩
theorem tied_bit {B : MM} {n : Nat} {u : Int32} {a w : Nat} (hw : w ≤ 8) (ha : a < 8) : (gTied B n u w >>> (nI a &&& 31)) &&& 1 = 0 ↔ ¬ (a < w ∧ gH B n (nI a) 1 = gH B n u 1) := by
  obtain ⟨S, h1, h2, h3⟩ := tied_S (B := B) (n := n) (u := u) w hw
  rw [h2, bt_get a ha S (Nat.lt_of_lt_of_le h1 (bt_lt w (by omega)))]
  exact h3 a ha
theorem has_hs {B : MM} {m h a k : Nat} {s : Int32} (h0 : jof B m 0 = nI h) (h1 : jof B m 1 = nI a) (hb : ¬ (s >>> (nI a &&& 31)) &&& 1 = 0) : fHas B (nI h) k s m = if ¬ jof B m 4 = 1 then (if k = 8 then 1 else 0) else fV (B 95 3) (B 95 4) k (jof B m 6) (jof B m 7) 0 := by
  unfold fHas fV
  rw [if_neg (fun z => z.1 h0)]
  simp only [if_pos h0]
  rw [h1, if_neg hb]
theorem has_hz {B : MM} {m h a k : Nat} {s : Int32} (h0 : jof B m 0 = nI h) (h1 : jof B m 1 = nI a) (hb : (s >>> (nI a &&& 31)) &&& 1 = 0) : fHas B (nI h) k s m = 0 := by
  unfold fHas
  rw [if_neg (fun z => z.1 h0)]
  simp only [if_pos h0]
  rw [h1, if_pos hb]
theorem has_as {B : MM} {m h a k : Nat} {s : Int32} (h0 : jof B m 0 = nI h) (h1 : jof B m 1 = nI a) (hh : h < 8) (ha : a < 8) (hne : h ≠ a) (hb : ¬ (s >>> (nI h &&& 31)) &&& 1 = 0) : fHas B (nI a) k s m = if ¬ jof B m 4 = 1 then (if k = 8 then 1 else 0) else fV (B 95 3) (B 95 4) k (jof B m 7) (jof B m 6) (jof B m 7) := by
  have hn : ¬ jof B m 0 = nI a := by rw [h0]; exact fun z => hne ((nI_eq (by omega) (by omega)).mp z)
  unfold fHas fV
  rw [if_neg (fun z => z.2 h1)]
  simp only [if_neg hn]
  rw [h0, if_neg hb]
theorem has_az {B : MM} {m h a k : Nat} {s : Int32} (h0 : jof B m 0 = nI h) (h1 : jof B m 1 = nI a) (hh : h < 8) (ha : a < 8) (hne : h ≠ a) (hb : (s >>> (nI h &&& 31)) &&& 1 = 0) : fHas B (nI a) k s m = 0 := by
  have hn : ¬ jof B m 0 = nI a := by rw [h0]; exact fun z => hne ((nI_eq (by omega) (by omega)).mp z)
  unfold fHas
  rw [if_neg (fun z => z.2 h1)]
  simp only [if_neg hn]
  rw [h0, if_pos hb]
theorem has_0s {B : MM} {m h a k q : Nat} {s : Int32} (h0 : jof B m 0 = nI h) (h1 : jof B m 1 = nI a) (hh : h < 8) (ha : a < 8) (hq : q < 8) (n1 : q ≠ h) (n2 : q ≠ a) : fHas B (nI q) k s m = 0 := by
  unfold fHas
  rw [if_pos ⟨by rw [h0]; exact fun z => n1 ((nI_eq (by omega) (by omega)).mp z).symm, by rw [h1]; exact fun z => n2 ((nI_eq (by omega) (by omega)).mp z).symm⟩]
theorem has_s_or {t : Nat} {A B : MM} (hL : rL t true (lgC A 1) (B 95)) {q m k : Nat} {s : Int32} (hq : q < 8) (hm : m < nT t) : fHas B (nI q) k s m = 0 ∨ fHas B (nI q) k s m = fHas B (nI q) k (-1) m := by
  have ht := hL.1
  obtain ⟨h, a, h1, h2, h3, h4, h5, h6, h7⟩ := home_r hL hm
  by_cases e : q = h
  · subst e
    by_cases c : (s >>> (nI a &&& 31)) &&& 1 = 0
    · exact Or.inl (has_hz h6 h7 c)
    · exact Or.inr ((has_hs h6 h7 c).trans (has_h h6 h7 (by omega)).symm)
  · by_cases e2 : q = a
    · subst e2
      by_cases c : (s >>> (nI h &&& 31)) &&& 1 = 0
      · exact Or.inl (has_az h6 h7 (by omega) (by omega) h3 c)
      · exact Or.inr ((has_as h6 h7 (by omega) (by omega) h3 c).trans (has_a h6 h7 (by omega) (by omega) h3).symm)
    · exact Or.inl (has_0s h6 h7 (by omega) (by omega) hq e e2)
theorem has_np {B : MM} {m : Nat} {u s : Int32} (h : ¬ jof B m 4 = 1) : fHas B u 1 s m = 0 := by
  unfold fHas
  by_cases c : ¬ jof B m 0 = u ∧ ¬ jof B m 1 = u
  · rw [if_pos c]
  · rw [if_neg c, if_pos h, if_neg (show ¬ (1 : Nat) = 8 by decide), ite_self]
theorem pts_at {X : MM} {i h a g g2 q : Nat} {w z : Int32} (hh : h < 8) (ha : a < 8) (hne : h ≠ a) (hg : g ≤ 20) (hg2 : g2 ≤ 20) : jpts X i (nI h) (nI a) (nI g) (nI g2) w z i q = X i q + (if q = h then fV w z 1 (nI g) (nI g2) 0 else if q = a then fV w z 1 (nI g2) (nI g) (nI g2) else 0) := by
  have le1 : nI g ≤ nI g2 ↔ g ≤ g2 := by rw [Int32.le_iff_toInt_le, nI_toInt (by omega), nI_toInt (by omega)]; omega
  have le2 : nI g2 ≤ nI g ↔ g2 ≤ g := by rw [Int32.le_iff_toInt_le, nI_toInt (by omega), nI_toInt (by omega)]; omega
  have eq1 : nI g = nI g2 ↔ g = g2 := nI_eq (by omega) (by omega)
  have eq2 : nI g2 = nI g ↔ g2 = g := nI_eq (by omega) (by omega)
  unfold jpts fV
  rw [if_pos rfl, if_pos rfl]
  by_cases e : g = g2
  · have e1 : (if ¬ nI g ≤ nI g2 then w else if nI g = nI g2 then z else 0) = z := by rw [if_neg (fun y => y (le1.mpr (by omega))), if_pos (eq1.mpr e)]
    have e2 : (if ¬ nI g2 ≤ nI g then w else if nI g2 = nI g then z else 0) = z := by rw [if_neg (fun y => y (le2.mpr (by omega))), if_pos (eq2.mpr e.symm)]
    rw [e1, e2, if_pos ((nI_sub0 hg hg2).1.mpr e), raise_at ha, raise_at hh, if_ha hne]
  · rw [if_neg (fun y => e ((nI_sub0 hg hg2).1.mp y))]
    by_cases c : g ≤ g2
    · have e1 : (if ¬ nI g ≤ nI g2 then w else if nI g = nI g2 then z else 0) = 0 := by rw [if_neg (fun y => y (le1.mpr c)), if_neg (fun y => e (eq1.mp y))]
      have e2 : (if ¬ nI g2 ≤ nI g then w else if nI g2 = nI g then z else 0) = w := if_pos (fun y => by have := le2.mp y; omega)
      rw [e1, e2, if_pos ((nI_sub0 hg hg2).2.mpr c), raise_at ha]
      by_cases c1 : q = h
      · subst c1; rw [if_neg hne, if_pos rfl, Int32.add_zero]
      · rw [if_neg c1]
        by_cases c2 : q = a
        · rw [if_pos c2, if_pos c2]
        · rw [if_neg c2, if_neg c2, Int32.add_zero]
    · have e1 : (if ¬ nI g ≤ nI g2 then w else if nI g = nI g2 then z else 0) = w := if_pos (fun y => c (le1.mp y))
      have e2 : (if ¬ nI g2 ≤ nI g then w else if nI g2 = nI g then z else 0) = 0 := by rw [if_neg (fun y => y (le2.mpr (by omega))), if_neg (fun y => e (eq2.mp y).symm)]
      rw [e1, e2, if_neg (fun y => c ((nI_sub0 hg hg2).2.mp y)), raise_at hh]
      by_cases c1 : q = h
      · rw [if_pos c1, if_pos c1]
      · rw [if_neg c1, if_neg c1]
        by_cases c2 : q = a
        · rw [if_pos c2, Int32.add_zero]
        · rw [if_neg c2, Int32.add_zero]
theorem jt1_84 {A : MM} {q : Nat} (hq : q < 8) : ∀ m, jt1 A m 84 q = 0
  | 0 => jclear_r (by omega) hq
  | m + 1 => by
    rw [jt1]
    split
    · rw [jraise_n (by omega), jraise_n (by omega)]; exact jt1_84 hq m
    · rw [jpts_n (by omega), jap_n (by omega)]; exact jt1_84 hq m
/-- what a team has of the meetings with those that are tied with it -/
theorem dir_sum {t : Nat} {A B : MM} (hL : rL t true (lgC A 1) (B 95)) (hF : rFix t A) {q : Nat} (hq : q < 8) : ∀ m, m ≤ nT t → jt2 A (nT t) m 84 q = jsum (fHas B (nI q) 1 (gTied B (nT t) (nI q) t)) m
  | 0, _ => jt1_84 hq _
  | m + 1, hm => by
    have ih := dir_sum hL hF hq m (by omega)
    obtain ⟨h, a, h1, h2, h3, h4, h5, h6, h7⟩ := home_r hL (show m < nT t by omega)
    obtain ⟨f1, f2, -⟩ := hF.2.2.1 m (by omega)
    have ht := hL.1
    have g4 : A 1 4 = B 95 3 := by
      obtain ⟨z, -, z1, z2⟩ := hL.2.2.2.2.2.2.2.2.2.1
      exact (show A 1 4 = nI z from z1).trans z2.symm
    have g5 : A 1 5 = B 95 4 := by
      obtain ⟨z, -, z1, z2⟩ := hL.2.2.2.2.2.2.2.2.2.2.1
      exact (show A 1 5 = nI z from z1).trans z2.symm
    have hP : ∀ i, i < 8 → jat 8 (jt1 A (nT t) 76) (nI i) = gH B (nT t) (nI i) 1 := fun i hi => by
      rw [jat_nI hi (by decide)]
      exact tl_sum hL hF (k := 1) (by omega) (by omega) hi _ (Nat.le_refl _)
    have hb : ∀ x, x < 8 → ((gTied B (nT t) (nI q) t >>> (nI x &&& 31)) &&& 1 = 0 ↔ ¬ (x < t ∧ gH B (nT t) (nI x) 1 = gH B (nT t) (nI q) 1)) := fun x hx => tied_bit ht hx
    rw [jsum, ← ih]
    rcases (mt_of.mp (hL.2.2.2.2.2.2.2.2.2.2.2.2 m (show m < nn t true from hm))).2.2.2.2.2 with ⟨p, g, g2, p1, p2, p3, p4, p5, p6⟩ | ⟨p, p3, p4⟩
    · rw [jt2, if_neg (by rw [p3]; exact nI_nm1 (by omega)), f1.trans h4, f2.trans h5, hP h (by omega), hP a (by omega), p3, p5]
      by_cases e : gH B (nT t) (nI h) 1 = gH B (nT t) (nI a) 1
      · rw [if_pos e, pts_at (by omega) (by omega) h3 p1 p2]
        congr 1
        by_cases c : q = h
        · subst c; rw [if_pos rfl, has_hs h6 h7 (fun z => (hb a (by omega)).mp z ⟨by omega, e.symm⟩), if_neg (fun z => z p), g4, g5, p4, p6]
        · by_cases c2 : q = a
          · subst c2; rw [if_neg c, if_pos rfl, has_as h6 h7 (by omega) (by omega) h3 (fun z => (hb h (by omega)).mp z ⟨by omega, e⟩), if_neg (fun z => z p), g4, g5, p4, p6]
          · rw [if_neg c, if_neg c2, has_0s h6 h7 (by omega) (by omega) hq c c2]
      · rw [if_neg e]
        have h0 : fHas B (nI q) 1 (gTied B (nT t) (nI q) t) m = 0 := by
          by_cases c : q = h
          · subst c; exact has_hz h6 h7 ((hb a (by omega)).mpr (fun z => e z.2.symm))
          · by_cases c2 : q = a
            · subst c2; exact has_az h6 h7 (by omega) (by omega) h3 ((hb h (by omega)).mpr (fun z => e z.2))
            · exact has_0s h6 h7 (by omega) (by omega) hq c c2
        rw [h0, Int32.add_zero]
    · have p' : ¬ jof B m 4 = 1 := by rw [p]; decide
      rw [jt2, if_pos p3, has_np p', Int32.add_zero]
theorem dir_r {t : Nat} {dr : Bool} {A B : MM} (hL : rL t dr (lgC A 1) (B 95)) (hF : dr = true → rFix t A) {q : Nat} (hq : q < 8) : jcount A (nn t dr) 84 q = jsum (fHas B (nI q) 1 (gTied B (nn t dr) (nI q) t)) (nn t dr) := by
  unfold jcount
  cases dr with
  | false => exact jt1_84 hq 0
  | true => exact dir_sum hL (hF rfl) hq _ (Nat.le_refl _)
/-- what a rule counts of a team -/
theorem wo_r {t : Nat} {dr : Bool} {A B : MM} (hL : rL t dr (lgC A 1) (B 95)) (hF : dr = true → rFix t A) {q : Nat} (hq : q < 8) {v : Int32} (hv : r04 v) : jwo (jcount A (nn t dr)) (nI q) v = gRule B (nn t dr) t (nI q) v := by
  have hta : ∀ k, 1 ≤ k → k ≤ 8 → jat 8 (jcount A (nn t dr) (75 + k)) (nI q) = gH B (nn t dr) (nI q) k := fun k k1 k2 => by rw [jat_nI hq (by decide)]; exact tally_r hL hF k1 k2 hq
  have h77 : jat 8 (jcount A (nn t dr) 77) (nI q) = gH B (nn t dr) (nI q) 2 := hta 2 (by omega) (by omega)
  have h80 : jat 8 (jcount A (nn t dr) 80) (nI q) = gH B (nn t dr) (nI q) 5 := hta 5 (by omega) (by omega)
  have h81 : jat 8 (jcount A (nn t dr) 81) (nI q) = gH B (nn t dr) (nI q) 6 := hta 6 (by omega) (by omega)
  have h82 : jat 8 (jcount A (nn t dr) 82) (nI q) = gH B (nn t dr) (nI q) 7 := hta 7 (by omega) (by omega)
  have h84 : jat 8 (jcount A (nn t dr) 84) (nI q) = jsum (fHas B (nI q) 1 (gTied B (nn t dr) (nI q) t)) (nn t dr) := by rw [jat_nI hq (by decide)]; exact dir_r hL hF hq
  unfold jwo gRule
  rw [h77, h80, h81, h82, h84]
theorem sub_toInt {x y : Int32} (hx : -10000 < x.toInt ∧ x.toInt < 10000) (hy : -10000 < y.toInt ∧ y.toInt < 10000) : (x - y).toInt = x.toInt - y.toInt := by
  rw [Int32.toInt_sub]
  exact Int.bmod_eq_of_le (by omega) (by omega)
theorem gH_bd {t : Nat} {dr : Bool} {A B : MM} (hL : rL t dr (lgC A 1) (B 95)) {k q : Nat} (hq : q < 8) : -1 < (gH B (nn t dr) (nI q) k).toInt ∧ (gH B (nn t dr) (nI q) k).toInt < 10000 := by
  obtain ⟨v, h1, h2⟩ := gH_le hL (k := k) hq
  rw [h2, nI_toInt (by omega)]
  omega
theorem dir_bd {t : Nat} {dr : Bool} {A B : MM} (hL : rL t dr (lgC A 1) (B 95)) {q : Nat} {s : Int32} (hq : q < 8) : -1 < (jsum (fHas B (nI q) 1 s) (nn t dr)).toInt ∧ (jsum (fHas B (nI q) 1 s) (nn t dr)).toInt < 10000 := by
  have hn := nn_le (dr := dr) hL.1
  obtain ⟨v, h1, h2⟩ := jsum_le (f := fHas B (nI q) 1 s) (nn t dr) (fun m hm => by
    cases dr with
    | false => exact absurd hm (Nat.not_lt_zero m)
    | true =>
      rcases has_s_or (k := 1) (s := s) hL hq hm with e | e
      · exact ⟨0, by omega, e⟩
      · rw [e]; exact has_le hL hq hm)
  rw [h2, nI_toInt (by omega)]
  omega
theorem rule_bd {t : Nat} {dr : Bool} {A B : MM} (hL : rL t dr (lgC A 1) (B 95)) {q : Nat} (hq : q < 8) {v : Int32} (hv : r04 v) : -10000 < (gRule B (nn t dr) t (nI q) v).toInt ∧ (gRule B (nn t dr) t (nI q) v).toInt < 10000 := by
  have h2 := gH_bd (k := 2) hL hq
  have h5 := gH_bd (k := 5) hL hq
  have h6 := gH_bd (k := 6) hL hq
  have h7 := gH_bd (k := 7) hL hq
  have h8 := dir_bd (s := gTied B (nn t dr) (nI q) t) hL hq
  unfold gRule
  rcases hv with rfl | rfl | rfl | rfl | rfl
  · rw [if_pos rfl, sub_toInt (by omega) (by omega)]; omega
  · rw [if_neg (by decide), if_pos rfl]; omega
  · rw [if_neg (by decide), if_neg (by decide), if_pos rfl]; omega
  · rw [if_neg (by decide), if_neg (by decide), if_neg (by decide), if_pos rfl]; omega
  · rw [if_neg (by decide), if_neg (by decide), if_neg (by decide), if_neg (by decide)]; omega
theorem rL_ru {t : Nat} {dr : Bool} {M B : MM} (h : rL t dr (lgC M 1) (B 95)) {r : Nat} (hr : r ≤ 3) (h6 : M 1 6 = nI r) : ∀ i, i < r → M 3 i = B 95 (6 + i) ∧ r04 (M 3 i) := by
  obtain ⟨c, e1, e2, e3, e4⟩ := h.2.2.2.2.2.2.2.2.2.2.2.1
  have e5 : M 1 6 = nI c := e2
  have e : c = r := (nI_eq (by omega) (by omega)).mp (e5.symm.trans h6)
  subst e
  exact e4
theorem ah_r {t : Nat} {dr : Bool} {M B : MM} (hL : rL t dr (lgC M 1) (B 95)) (hF : dr = true → rFix t M) {r : Nat} (hru : ∀ i, i < r → M 3 i = B 95 (6 + i) ∧ r04 (M 3 i)) {u v : Nat} (hu : u < 8) (hv : v < 8) : jah (jcount M (nn t dr)) r (nI u) (nI v) = gAh B (nn t dr) t r (nI u) (nI v) := by
  have h76 : ∀ q, q < 8 → jat 8 (jcount M (nn t dr) 76) (nI q) = gH B (nn t dr) (nI q) 1 := fun q hq => by rw [jat_nI hq (by decide)]; exact tally_r (k := 1) hL hF (by omega) (by omega) hq
  have h : ∀ i, i ≤ r → jlead (jcount M (nn t dr)) (nI u) (nI v) i = gLead B (nn t dr) t (nI u) (nI v) i := by
    intro i
    induction i with
    | zero => intro _; rw [jlead, gLead, h76 u hu, h76 v hv]
    | succ i ih => intro hi; rw [jlead, gLead, ih (by omega), jcount_n (i := 3) (by omega), wo_r hL hF hu (hru i (by omega)).2, wo_r hL hF hv (hru i (by omega)).2, (hru i (by omega)).1]
  unfold jah gAh
  rw [h r (Nat.le_refl _)]
/-- a team's place in the order, as one number -/
def gKey (M : MM) (n w u : Nat) : Nat → Int
  | 0 => (gH M n (nI u) 1).toInt
  | i + 1 => gKey M n w u i * 100000 + (gRule M n w (nI u) (M 95 (6 + i))).toInt
def gK (M : MM) (n w r u : Nat) : Int := gKey M n w u r * 10 + (7 - (u : Int))
theorem lead_key {M : MM} {n w u v r : Nat} (h0 : -10000 < (gH M n (nI u) 1).toInt ∧ (gH M n (nI u) 1).toInt < 10000) (h1 : -10000 < (gH M n (nI v) 1).toInt ∧ (gH M n (nI v) 1).toInt < 10000)
    (hr : ∀ i, i < r → (-10000 < (gRule M n w (nI u) (M 95 (6 + i))).toInt ∧ (gRule M n w (nI u) (M 95 (6 + i))).toInt < 10000) ∧ (-10000 < (gRule M n w (nI v) (M 95 (6 + i))).toInt ∧ (gRule M n w (nI v) (M 95 (6 + i))).toInt < 10000)) :
    ∀ i, i ≤ r → (gLead M n w (nI u) (nI v) i = 0 ↔ gKey M n w u i = gKey M n w v i) ∧ (gLead M n w (nI u) (nI v) i ≤ 0 ↔ gKey M n w u i ≤ gKey M n w v i) := by
  have z0 : (0 : Int32).toInt = 0 := by decide
  intro i
  induction i with
  | zero =>
    intro _
    rw [gLead, gKey, gKey]
    refine ⟨?_, ?_⟩
    · rw [← Int32.toInt_inj, sub_toInt h0 h1, z0]; omega
    · rw [Int32.le_iff_toInt_le, sub_toInt h0 h1, z0]; omega
  | succ i ih =>
    intro hi
    obtain ⟨e1, e2⟩ := ih (by omega)
    obtain ⟨b1, b2⟩ := hr i (by omega)
    have s := sub_toInt b1 b2
    rw [gLead, gKey, gKey]
    by_cases c : gLead M n w (nI u) (nI v) i = 0
    · have k := e1.mp c
      rw [if_pos c, k]
      refine ⟨?_, ?_⟩
      · rw [← Int32.toInt_inj, s, z0]; omega
      · rw [Int32.le_iff_toInt_le, s, z0]; omega
    · have k : ¬ gKey M n w u i = gKey M n w v i := fun z => c (e1.mpr z)
      rw [if_neg c]
      refine ⟨⟨fun z => absurd z c, fun z => ?_⟩, ⟨fun z => ?_, fun z => ?_⟩⟩
      · exfalso; omega
      · have := e2.mp z; omega
      · exact e2.mpr (by omega)
theorem ah_K {t : Nat} {dr : Bool} {M B : MM} (hL : rL t dr (lgC M 1) (B 95)) {r : Nat} (hru : ∀ i, i < r → M 3 i = B 95 (6 + i) ∧ r04 (M 3 i)) {u v : Nat} (hu : u < 8) (hv : v < 8) : gAh B (nn t dr) t r (nI u) (nI v) = 0 ↔ gK B (nn t dr) t r u ≤ gK B (nn t dr) t r v := by
  have hbd : ∀ q, q < 8 → -10000 < (gH B (nn t dr) (nI q) 1).toInt ∧ (gH B (nn t dr) (nI q) 1).toInt < 10000 := fun q hq => by have := gH_bd (k := 1) hL hq; omega
  have h04 : ∀ i, i < r → r04 (B 95 (6 + i)) := fun i hi => by rw [← (hru i hi).1]; exact (hru i hi).2
  obtain ⟨e1, e2⟩ := lead_key (w := t) (r := r) (hbd u hu) (hbd v hv) (fun i hi => ⟨rule_bd hL hu (h04 i hi), rule_bd hL hv (h04 i hi)⟩) r (Nat.le_refl _)
  unfold gAh gK
  by_cases c : gLead B (nn t dr) t (nI u) (nI v) r = 0
  · have k := e1.mp c
    rw [if_pos c]
    by_cases d : nI v ≤ nI u
    · rw [jb_f (fun z => z d)]
      rw [Int32.le_iff_toInt_le, nI_toInt (by omega), nI_toInt (by omega)] at d
      exact ⟨fun _ => by omega, fun _ => rfl⟩
    · rw [jb_t d]
      rw [Int32.le_iff_toInt_le, nI_toInt (by omega), nI_toInt (by omega)] at d
      exact ⟨fun z => absurd z (by decide), fun z => by exfalso; omega⟩
  · have k : ¬ gKey B (nn t dr) t u r = gKey B (nn t dr) t v r := fun z => c (e1.mpr z)
    rw [if_neg c]
    by_cases d : gLead B (nn t dr) t (nI u) (nI v) r ≤ 0
    · rw [jb_f (fun z => z d)]
      have d2 := e2.mp d
      exact ⟨fun _ => by omega, fun _ => rfl⟩
    · rw [jb_t d]
      have d2 : ¬ gKey B (nn t dr) t u r ≤ gKey B (nn t dr) t v r := fun z => d (e2.mpr z)
      exact ⟨fun z => absurd z (by decide), fun z => by exfalso; omega⟩
theorem gK_inj {B : MM} {n t r u v : Nat} (hu : u < 8) (hv : v < 8) (h : gK B n t r u = gK B n t r v) : u = v := by
  unfold gK at h
  omega
theorem place_r {t : Nat} {dr : Bool} {M B : MM} (hL : rL t dr (lgC M 1) (B 95)) (hF : dr = true → rFix t M) {r : Nat} (hru : ∀ i, i < r → M 3 i = B 95 (6 + i) ∧ r04 (M 3 i)) {q : Nat} (hq : q < 8) : jsum (fPlace (jcount M (nn t dr)) r (nI q)) t = jsum (fgPl B (nn t dr) t r (nI q)) t := jsum_c fun i hi => by
  have ht := hL.1
  unfold fPlace fgPl
  rw [ah_r hL hF hru (by omega) hq]
  by_cases e : nI i = nI q
  · rw [e, if_pos ((ah_K hL hru hq hq).mpr (Int.le_refl _)), if_pos rfl]
  · rw [if_neg e]
/-! counting, and the place of each -/
def cnB (f : Nat → Bool) : Nat → Nat
  | 0 => 0
  | n + 1 => cnB f n + (if f n = true then 1 else 0)
theorem cn_le {f g : Nat → Bool} : ∀ n, (∀ k, k < n → f k = true → g k = true) → cnB f n ≤ cnB g n
  | 0, _ => Nat.le_refl _
  | n + 1, h => by
    have ih := cn_le n (fun k hk => h k (by omega))
    rw [cnB, cnB]
    by_cases c : f n = true
    · rw [if_pos c, if_pos (h n (by omega) c)]; omega
    · rw [if_neg c]; omega
theorem cn_lt {f g : Nat → Bool} : ∀ n, (∀ k, k < n → f k = true → g k = true) → ∀ i, i < n → ¬ f i = true → g i = true → cnB f n < cnB g n
  | 0, _, i, hi, _, _ => absurd hi (Nat.not_lt_zero i)
  | n + 1, h, i, hi, h1, h2 => by
    rw [cnB, cnB]
    by_cases e : i = n
    · subst e
      have ih := cn_le i (fun k hk => h k (by omega))
      rw [if_neg h1, if_pos h2]; omega
    · have ih := cn_lt n (fun k hk => h k (by omega)) i (by omega) h1 h2
      by_cases c : f n = true
      · rw [if_pos c, if_pos (h n (by omega) c)]; omega
      · rw [if_neg c]; omega
theorem cn_n {f : Nat → Bool} : ∀ n, cnB f n ≤ n
  | 0 => Nat.le_refl _
  | n + 1 => by
    have := cn_n (f := f) n
    rw [cnB]
    split <;> omega
def pos (K : Nat → Int) (j i : Nat) : Nat := cnB (fun k => decide (K i < K k)) j
theorem pos_s {K : Nat → Int} {j i : Nat} : pos K (j + 1) i = pos K j i + (if K i < K j then 1 else 0) := by
  unfold pos
  rw [cnB]
  by_cases c : K i < K j
  · rw [if_pos c, if_pos (decide_eq_true c)]
  · rw [if_neg c, if_neg (by rw [decide_eq_true_eq]; exact c)]
theorem pos_lt {K : Nat → Int} {j i i2 : Nat} (hi : i < j) (h : K i2 < K i) : pos K j i < pos K j i2 :=
  cn_lt j (fun k _ z => by rw [decide_eq_true_eq] at z ⊢; omega) i hi (by rw [decide_eq_true_eq]; omega) (by rw [decide_eq_true_eq]; exact h)
theorem pos_le {K : Nat → Int} {j i i2 : Nat} (h : K i2 ≤ K i) : pos K j i ≤ pos K j i2 :=
  cn_le j (fun k _ z => by rw [decide_eq_true_eq] at z ⊢; omega)
theorem pos_j {K : Nat → Int} {j i : Nat} : pos K j i ≤ j := cn_n j
theorem cn_all : ∀ n, cnB (fun _ => true) n = n
  | 0 => rfl
  | n + 1 => by rw [cnB, cn_all n, if_pos rfl]
theorem pos_ltj {K : Nat → Int} {j i : Nat} (hi : i < j) : pos K j i < j := by
  have h := cn_lt (f := fun k => decide (K i < K k)) (g := fun _ => true) j (fun _ _ _ => rfl) i hi (by rw [decide_eq_true_eq]; omega) rfl
  rw [cn_all] at h
  exact h
theorem jah_e {M N : MM} (h : ∀ i k, i ≠ 85 → N i k = M i k) {r : Nat} {u v : Int32} : jah N r u v = jah M r u v := by
  have e : ∀ i, i ≠ 85 → N i = M i := fun i hi => funext fun k => h i k hi
  have hl : ∀ i, jlead N u v i = jlead M u v i := by
    intro i
    induction i with
    | zero => rw [jlead, jlead, e 76 (by decide)]
    | succ i ih =>
      rw [jlead, jlead, ih]
      unfold jwo
      rw [e 3 (by decide), e 80 (by decide), e 81 (by decide), e 77 (by decide), e 84 (by decide), e 82 (by decide)]
  unfold jah
  rw [hl]
theorem jins_ok {K : Nat → Int} {r j : Nat} (hj : j < 8) (hI : ∀ u v, u < 8 → v < 8 → K u = K v → u = v) (hs : ∀ x, x < j → ∃ i, i < j ∧ pos K j i = x) : ∀ (q : Nat) (M : MM), (∀ u v, u < 8 → v < 8 → (jah M r (nI u) (nI v) = 0 ↔ K u ≤ K v)) → q ≤ j → pos K j j ≤ q →
    (∀ i, i < j → pos K j i < q → M 85 (pos K j i) = nI i) → (∀ i, i < j → q ≤ pos K j i → M 85 (pos K j i + 1) = nI i) →
    (∀ i, i < j → pos K j i < pos K j j → jins r j q M 85 (pos K j i) = nI i) ∧ (∀ i, i < j → pos K j j ≤ pos K j i → jins r j q M 85 (pos K j i + 1) = nI i) ∧ jins r j q M 85 (pos K j j) = nI j
  | 0, M, hK, hq, hp, h4, h5 => by
    rw [jins]
    refine ⟨fun i hi z => ?_, fun i hi z => ?_, ?_⟩
    · exact absurd z (by omega)
    · rw [jm_n (by omega)]; exact h5 i hi (by omega)
    · rw [show pos K j j = 0 by omega, jm_s]
  | q + 1, M, hK, hq, hp, h4, h5 => by
    rw [jins]
    obtain ⟨i, hi, e⟩ := hs q (by omega)
    have hM : M 85 q = nI i := by rw [← e]; exact h4 i hi (by omega)
    by_cases c : jah M r (nI j) (M 85 q) = 0
    · rw [if_pos c]
      rw [hM] at c
      have k1 := (hK j i hj (by omega)).mp c
      have k2 : K j < K i := by
        have := fun z => hI j i hj (by omega) z
        omega
      have k3 := pos_lt (j := j) hi k2
      refine ⟨fun i2 hi2 z => ?_, fun i2 hi2 z => ?_, ?_⟩
      · rw [jm_n (by omega)]; exact h4 i2 hi2 (by omega)
      · rw [jm_n (by omega)]; exact h5 i2 hi2 (by omega)
      · rw [show pos K j j = q + 1 by omega, jm_s]
    · rw [if_neg c]
      rw [hM] at c
      have k1 : ¬ K j ≤ K i := fun z => c ((hK j i hj (by omega)).mpr z)
      have k3 := pos_le (K := K) (j := j) (i := j) (i2 := i) (by omega)
      refine jins_ok hj hI hs q _ (fun u v hu hv => by rw [jah_e (M := M) (fun i k z => jm_n (by omega))]; exact hK u v hu hv) (by omega) (by omega) (fun i2 hi2 z => ?_) (fun i2 hi2 z => ?_)
      · rw [jm_n (by omega)]; exact h4 i2 hi2 (by omega)
      · by_cases e2 : pos K j i2 = q
        · have := h4 i2 hi2 (by omega)
          rw [e2] at this ⊢
          rw [jm_s]; exact this
        · rw [jm_n (by omega)]; exact h5 i2 hi2 (by omega)
theorem jso_ok {K : Nat → Int} {r : Nat} {M : MM} (hI : ∀ u v, u < 8 → v < 8 → K u = K v → u = v) (hK : ∀ u v, u < 8 → v < 8 → (jah M r (nI u) (nI v) = 0 ↔ K u ≤ K v)) : ∀ j, j ≤ 8 → (∀ i, i < j → jso M r j 85 (pos K j i) = nI i) ∧ ∀ x, x < j → ∃ i, i < j ∧ pos K j i = x
  | 0, _ => ⟨fun i hi => absurd hi (Nat.not_lt_zero i), fun i hi => absurd hi (Nat.not_lt_zero i)⟩
  | j + 1, hj => by
    obtain ⟨s1, s2⟩ := jso_ok hI hK j (by omega)
    obtain ⟨r1, r2, r3⟩ := jins_ok (K := K) (r := r) (by omega) hI s2 j (jso M r j) (fun u v hu hv => by rw [jah_e (M := M) (fun i k z => jso_n z j)]; exact hK u v hu hv) (Nat.le_refl _) pos_j (fun i hi _ => s1 i hi) (fun i hi z => absurd (pos_ltj (K := K) hi) (by omega))
    have hlt : ∀ i, i < j → (K i < K j ∨ K j < K i) := fun i hi => by
      have := fun z => hI i j (by omega) (by omega) z
      omega
    have pj : pos K (j + 1) j = pos K j j := by rw [pos_s, if_neg (by omega)]; rfl
    refine ⟨fun i hi => ?_, fun x hx => ?_⟩
    · rw [jso]
      by_cases e : i = j
      · subst e; rw [pj]; exact r3
      · rcases hlt i (by omega) with c | c
        · rw [pos_s, if_pos c]; exact r2 i (by omega) (pos_le (by omega))
        · rw [pos_s, if_neg (by omega)]; exact r1 i (by omega) (pos_lt (by omega) c)
    · rcases Nat.lt_trichotomy x (pos K j j) with c | c | c
      · obtain ⟨i, hi, e⟩ := s2 x (by have := pos_j (K := K) (j := j) (i := j); omega)
        refine ⟨i, by omega, ?_⟩
        rcases hlt i hi with d | d
        · have := pos_le (K := K) (j := j) (i := j) (i2 := i) (by omega); omega
        · rw [pos_s, if_neg (by omega)]; exact e
      · exact ⟨j, by omega, by rw [pj]; exact c.symm⟩
      · obtain ⟨i, hi, e⟩ := s2 (x - 1) (by omega)
        refine ⟨i, by omega, ?_⟩
        rcases hlt i hi with d | d
        · rw [pos_s, if_pos d, e]; omega
        · have := pos_lt (K := K) hi d; omega
theorem place_c {t : Nat} {dr : Bool} {M B : MM} (hL : rL t dr (lgC M 1) (B 95)) {r : Nat} (hru : ∀ i, i < r → M 3 i = B 95 (6 + i) ∧ r04 (M 3 i)) {i : Nat} (hi : i < t) : ∀ w, w ≤ t → jsum (fgPl B (nn t dr) t r (nI i)) w = nI (pos (gK B (nn t dr) t r) w i)
  | 0, _ => rfl
  | w + 1, hw => by
    have ht := hL.1
    rw [jsum, place_c hL hru hi w (by omega), pos_s]
    unfold fgPl
    by_cases c : gK B (nn t dr) t r i < gK B (nn t dr) t r w
    · have ne : ¬ nI w = nI i := fun z => by
        rw [(nI_eq (by omega) (by omega)).mp z] at c
        omega
      rw [if_pos c, if_neg ne, if_neg (fun z => by have := (ah_K hL hru (show w < 8 by omega) (show i < 8 by omega)).mp z; omega), nI_1]
    · rw [if_neg c, if_pos ((ah_K hL hru (show w < 8 by omega) (show i < 8 by omega)).mpr (by omega)), ite_self, Int32.add_zero, Nat.add_zero]
theorem jfst_none {f : Nat → Int32} : ∀ {n : Nat}, (∀ i, i < n → ¬ f i = 1) → jfst f n = -1
  | 0, _ => rfl
  | n + 1, h => jfst_no (jfst_none (n := n) fun i hi => h i (by omega)) (h n (by omega))
theorem jb_p1 {p : Prop} [Decidable p] (h : jb p = 1) : p := Decidable.byContradiction fun z => by
  rw [jb_f z] at h
  exact absurd h (by decide)
theorem ranked_no {t : Nat} {dr : Bool} {M B : MM} (hL : rL t dr (lgC M 1) (B 95)) {r : Nat} (hru : ∀ i, i < r → M 3 i = B 95 (6 + i) ∧ r04 (M 3 i)) {x : Int32} (hx : ∀ q, q < t → ¬ x = nI q) : jfst (fRank B (nn t dr) t r x) t = -1 := jfst_none fun i hi z => by
  unfold fRank at z
  have h := jb_p1 z
  rw [place_c hL hru hi t (Nat.le_refl _)] at h
  exact hx _ (pos_ltj hi) h.symm
theorem ranked_r {t : Nat} {dr : Bool} {M B : MM} (hL : rL t dr (lgC M 1) (B 95)) (hF : dr = true → rFix t M) {r : Nat} (hru : ∀ i, i < r → M 3 i = B 95 (6 + i) ∧ r04 (M 3 i)) {q : Nat} (hq : q < t) : ∃ i, i < t ∧ jfst (fRank B (nn t dr) t r (nI q)) t = nI i ∧ jso (jcount M (nn t dr)) r t 85 q = nI i := by
  have ht := hL.1
  have hI : ∀ u v, u < 8 → v < 8 → gK B (nn t dr) t r u = gK B (nn t dr) t r v → u = v := fun u v hu hv h => gK_inj hu hv h
  obtain ⟨s1, s2⟩ := jso_ok (M := jcount M (nn t dr)) hI (fun u v hu hv => by rw [ah_r hL hF hru hu hv]; exact ah_K hL hru hu hv) t ht
  obtain ⟨i, hi, e⟩ := s2 q hq
  refine ⟨i, hi, ?_, ?_⟩
  · refine jfst_at (jfst_none fun k hk z => ?_) ?_ (by omega) hi
    · unfold fRank at z
      have h := jb_p1 z
      rw [place_c hL hru (show k < t by omega) t (Nat.le_refl _)] at h
      have l1 := pos_ltj (K := gK B (nn t dr) t r) (show k < t by omega)
      have h2 := (nI_eq (by omega) (by omega)).mp h
      rcases Int.lt_trichotomy (gK B (nn t dr) t r k) (gK B (nn t dr) t r i) with d | d | d
      · have := pos_lt hi d; omega
      · have := hI k i (by omega) (by omega) d; omega
      · have := pos_lt (show k < t by omega) d; omega
    · unfold fRank
      rw [place_c hL hru hi t (Nat.le_refl _), e]
      exact jb_t rfl
  · rw [← e]; exact s1 i hi
theorem R_placeOf {b : SBt} {Y : OUt} {M : MM} (I : Inv b M) (u : Int32) : Step b Y M yL_placeOf cL_placeOf 4 [(0, 9, 12, 45)] [.ref 0, .int u, .ref 102] yX6_placeOf cX6_placeOf 2 (some .int) [.ref 94, .int u] cmpI := by
  have hb := I.hb
  obtain ⟨t, dr, hL, hF⟩ := Inv_now I
  have ht := hL.1
  have hn := nn_le (dr := dr) ht
  have hm := jmc_r hL hF
  have hw := jwc_r hL hF
  have hz14 := zz_le (dr := dr) ht
  have h10 : M 1 0 = nI t := hL.2.1
  have h950 : M 95 0 = nI t := hL.2.2.1
  have h951 : M 95 1 = nI (zz t dr) := hL.2.2.2.2.2.2.1
  have h959 : M 95 9 = nI (nn t dr) := hL.2.2.2.2.2.2.2.1
  have hLc : rL t dr (lgC M 1) (jm (jcount M (nn t dr)) 94 19 0 95) := rL_cells hL (fun _ _ _ _ => rfl) (fun c _ => by rw [jm_n (by omega)]; exact jcount_n (by omega))
  have hL0 : rL t dr (lgC M 1) (jm M 94 19 0 95) := rL_cells hL (fun _ _ _ _ => rfl) (fun c _ => jm_n (by omega))
  have hta : ∀ (k q : Nat), 1 ≤ k → k ≤ 8 → q < 8 → jat 8 (jcount M (nn t dr) (75 + k)) (nI q) = gH (jm (jcount M (nn t dr)) 94 19 0) (nn t dr) (nI q) k := fun k q h1 h2 h3 => by rw [jat_nI h3 (by decide)]; exact tally_r hLc hF h1 h2 h3
  obtain ⟨r, hr3, h6, h5, hru1, hru2⟩ := rL_rules hL
  by_cases hT : ∃ q, q < t ∧ u = nI q
  · have hT1 := (in_q1 (x := u) (n := t) (by omega)).mpr hT
    obtain ⟨q, hq, rfl⟩ := hT
    rw [← h10] at hT1
    exact Step_q I (H_placeOf_r hb (c_placeOf (d := 14) (Y := Y) hb hT1 hn hm ht h10 hr3 h6 hru1)) (cx_placeOf (d := 12) hb (by rw [jcount_n (by omega), h950]; exact (in_q2 (by omega)).mpr ⟨q, hq, rfl⟩) hn (by rw [jcount_n (by omega)]; exact h959) ht (by rw [jcount_n (by omega)]; exact h950) hr3 (by rw [jcount_n (by omega)]; exact h5) (fun i hi => by rw [jcount_n (by omega)]; exact hru2 i hi)) (by decide) (by decide) qE_c tE_1 (cmp_eq jm_s (place_r hLc hF (rL_ru hLc hr3 h6) (by omega)))
  · have hT1 : ¬ (¬ u < 0 ∧ ¬ M 1 0 ≤ u) := by rw [h10]; exact fun z => hT ((in_q1 (by omega)).mp z)
    exact Step_q I (H_placeOf_t1 (d := 19) hb (c_placeOf_nt (d := 18) (Y := Y) hb hT1)) (cx_placeOf_nt (d := 18) hb (by rw [h950]; exact fun z => hT ((in_q2 (by omega)).mp z))) (by decide) (by decide) qE_0 tE_2 (cmp_no jm_s (by decide))
theorem R_valueOf {b : SBt} {Y : OUt} {M : MM} (I : Inv b M) (u v : Int32) : Step b Y M yL_valueOf cL_valueOf 5 [(0, 10, 13, 45), (0, 10, 17, 47)] [.ref 0, .int u, .int v, .ref 102] yX6_valueOf cX6_valueOf 3 (some .int) [.ref 94, .int u, .int v] cmpI := by
  have hb := I.hb
  obtain ⟨t, dr, hL, hF⟩ := Inv_now I
  have ht := hL.1
  have hn := nn_le (dr := dr) ht
  have hm := jmc_r hL hF
  have hw := jwc_r hL hF
  have hz14 := zz_le (dr := dr) ht
  have h10 : M 1 0 = nI t := hL.2.1
  have h950 : M 95 0 = nI t := hL.2.2.1
  have h951 : M 95 1 = nI (zz t dr) := hL.2.2.2.2.2.2.1
  have h959 : M 95 9 = nI (nn t dr) := hL.2.2.2.2.2.2.2.1
  have hLc : rL t dr (lgC M 1) (jm (jcount M (nn t dr)) 94 19 0 95) := rL_cells hL (fun _ _ _ _ => rfl) (fun c _ => by rw [jm_n (by omega)]; exact jcount_n (by omega))
  have hL0 : rL t dr (lgC M 1) (jm M 94 19 0 95) := rL_cells hL (fun _ _ _ _ => rfl) (fun c _ => jm_n (by omega))
  have hta : ∀ (k q : Nat), 1 ≤ k → k ≤ 8 → q < 8 → jat 8 (jcount M (nn t dr) (75 + k)) (nI q) = gH (jm (jcount M (nn t dr)) 94 19 0) (nn t dr) (nI q) k := fun k q h1 h2 h3 => by rw [jat_nI h3 (by decide)]; exact tally_r hLc hF h1 h2 h3
  by_cases hT : ∃ q, q < t ∧ u = nI q
  · have hT1 := (in_q1 (x := u) (n := t) (by omega)).mpr hT
    obtain ⟨q, hq, rfl⟩ := hT
    rw [← h10] at hT1
    by_cases hx : ¬ v < 0 ∧ ¬ 4 < v
    · have hv := r04_of (t := v) ⟨fun z => hx.1 (Int32.lt_trans z (by decide)), hx.2⟩ (fun z => hx.1 (by rw [z]; decide))
      exact Step_q I (H_valueOf_r hb (c_valueOf (d := 14) (Y := Y) hb hT1 (fun z => le_n.mp z hx) hv.1 hn hm)) (cx_valueOf (d := 14) hb (by rw [jcount_n (by omega), h950]; exact (in_q2 (by omega)).mpr ⟨q, hq, rfl⟩) hn (by rw [jcount_n (by omega)]; exact h959) ht (by rw [jcount_n (by omega)]; exact h950) hx hv.1) (by decide) (by decide) qE_c tE_1 (cmp_eq jm_s (wo_r hLc hF (by omega) hv.1))
    · exact Step_q I (H_valueOf_t2 (d := 19) hb (c_valueOf_bad (d := 18) (Y := Y) hb hT1 (le_n.mpr hx))) (cx_valueOf_bad (d := 18) hb (by rw [h950]; exact (in_q2 (by omega)).mpr ⟨q, hq, rfl⟩) hx) (by decide) (by decide) qE_0 tE_2 (cmp_no jm_s (by decide))
  · have hT1 : ¬ (¬ u < 0 ∧ ¬ M 1 0 ≤ u) := by rw [h10]; exact fun z => hT ((in_q1 (by omega)).mp z)
    exact Step_q I (H_valueOf_t1 (d := 19) hb (c_valueOf_nt (d := 18) (Y := Y) hb hT1)) (cx_valueOf_nt (d := 18) hb (by rw [h950]; exact fun z => hT ((in_q2 (by omega)).mp z))) (by decide) (by decide) qE_0 tE_2 (cmp_no jm_s (by decide))
theorem R_ranked {b : SBt} {Y : OUt} {M : MM} (I : Inv b M) (x : Int32) : Step b Y M yL_ranked cL_ranked 4 [(0, 9, 12, 58)] [.ref 0, .int x, .ref 102] yX6_ranked cX6_ranked 3 (some .int) [.ref 94, .int x] cmpI := by
  have hb := I.hb
  obtain ⟨t, dr, hL, hF⟩ := Inv_now I
  have ht := hL.1
  have hn := nn_le (dr := dr) ht
  have hm := jmc_r hL hF
  have hw := jwc_r hL hF
  have hz14 := zz_le (dr := dr) ht
  have h10 : M 1 0 = nI t := hL.2.1
  have h950 : M 95 0 = nI t := hL.2.2.1
  have h951 : M 95 1 = nI (zz t dr) := hL.2.2.2.2.2.2.1
  have h959 : M 95 9 = nI (nn t dr) := hL.2.2.2.2.2.2.2.1
  have hLc : rL t dr (lgC M 1) (jm (jcount M (nn t dr)) 94 19 0 95) := rL_cells hL (fun _ _ _ _ => rfl) (fun c _ => by rw [jm_n (by omega)]; exact jcount_n (by omega))
  have hL0 : rL t dr (lgC M 1) (jm M 94 19 0 95) := rL_cells hL (fun _ _ _ _ => rfl) (fun c _ => jm_n (by omega))
  have hta : ∀ (k q : Nat), 1 ≤ k → k ≤ 8 → q < 8 → jat 8 (jcount M (nn t dr) (75 + k)) (nI q) = gH (jm (jcount M (nn t dr)) 94 19 0) (nn t dr) (nI q) k := fun k q h1 h2 h3 => by rw [jat_nI h3 (by decide)]; exact tally_r hLc hF h1 h2 h3
  obtain ⟨r, hr3, h6, h5, hru1, hru2⟩ := rL_rules hL
  by_cases hT : ¬ x < 0 ∧ x < M 1 0
  · have hq : qE M (jso (jcount M (nn t dr)) r t) := fun i c q => (jso_n (by omega) _).trans (jcount_n (by omega))
    have hLs : rL t dr (lgC M 1) (jm (jso (jcount M (nn t dr)) r t) 94 19 0 95) := rL_cells hL (fun _ _ _ _ => rfl) (fun c _ => by rw [jm_n (by omega)]; exact hq 95 c (by omega))
    have hT2 := hT
    rw [h10] at hT2
    obtain ⟨q, hq1, hx⟩ := (in_q1 (x := x) (n := t) (by omega)).mp ⟨hT2.1, Int32.not_le.mpr hT2.2⟩
    subst hx
    obtain ⟨i, hi, e1, e2⟩ := ranked_r hLs hF (rL_ru hLs hr3 h6) hq1
    exact Step_q I (H_ranked_r hb (c_ranked_ok (d := 14) (Y := Y) hb hT hn hm ht h10 hr3 h6 hru1)) (cx_ranked_ok (d := 11) hb hn ((hq 95 9 (by omega)).trans h959) ht ((hq 95 0 (by omega)).trans h950) hr3 ((hq 95 5 (by omega)).trans h5) (fun i hi => by rw [hq 95 _ (by omega)]; exact hru2 i hi) (by rw [e1]; exact nI_nm1 (by omega))) (by decide) (by decide) hq tE_1 (cmp_eq jm_s (by rw [jat_nI (by omega) (by decide), e2, e1]))
  · exact Step_q I (H_ranked_t1 (d := 19) hb (c_ranked_no (d := 18) (Y := Y) hb hT)) (cx_ranked_no (d := 11) hb hn h959 ht h950 hr3 h5 hru2 (ranked_no hL0 (rL_ru hL0 hr3 h6) (fun q hq z => hT (by
      have := (in_q1 (x := x) (n := t) (by omega)).mpr ⟨q, hq, z⟩
      exact ⟨this.1, by rw [h10]; exact Int32.not_le.mp this.2⟩)))) (by decide) (by decide) qE_0 tE_2 (cmp_no jm_s (by decide))
