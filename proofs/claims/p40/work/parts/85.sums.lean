/-! ===== the tally is the reference's sums ===== -/
def fV (w z : Int32) (k : Nat) (x y e : Int32) : Int32 := if k = 1 then (if ¬ x ≤ y then w else if x = y then z else 0) else if k = 2 then jb (¬ x ≤ y) else if k = 3 then jb (x = y) else if k = 4 then jb (¬ y ≤ x) else if k = 5 then x else if k = 6 then y else if k = 7 then e else 0
theorem m1_bit : ∀ a : Nat, a < 8 → ¬ ((-1 : Int32) >>> (nI a &&& 31)) &&& 1 = 0 := by decide +kernel
theorem has_h {B : MM} {m h a k : Nat} (h0 : jof B m 0 = nI h) (h1 : jof B m 1 = nI a) (ha : a < 8) : fHas B (nI h) k (-1) m = if ¬ jof B m 4 = 1 then (if k = 8 then 1 else 0) else fV (B 95 3) (B 95 4) k (jof B m 6) (jof B m 7) 0 := by
  unfold fHas fV
  rw [if_neg (fun z => z.1 h0)]
  simp only [if_pos h0]
  rw [h1, if_neg (m1_bit a ha)]
theorem has_a {B : MM} {m h a k : Nat} (h0 : jof B m 0 = nI h) (h1 : jof B m 1 = nI a) (hh : h < 8) (ha : a < 8) (hne : h ≠ a) : fHas B (nI a) k (-1) m = if ¬ jof B m 4 = 1 then (if k = 8 then 1 else 0) else fV (B 95 3) (B 95 4) k (jof B m 7) (jof B m 6) (jof B m 7) := by
  have hn : ¬ jof B m 0 = nI a := by rw [h0]; exact fun z => hne ((nI_eq (by omega) (by omega)).mp z)
  unfold fHas fV
  rw [if_neg (fun z => z.2 h1)]
  simp only [if_neg hn]
  rw [h0, if_neg (m1_bit h hh)]
theorem has_0 {B : MM} {m h a k q : Nat} (h0 : jof B m 0 = nI h) (h1 : jof B m 1 = nI a) (hh : h < 8) (ha : a < 8) (hq : q < 8) (n1 : q ≠ h) (n2 : q ≠ a) : fHas B (nI q) k (-1) m = 0 := by
  unfold fHas
  rw [if_pos ⟨by rw [h0]; exact fun z => n1 ((nI_eq (by omega) (by omega)).mp z).symm, by rw [h1]; exact fun z => n2 ((nI_eq (by omega) (by omega)).mp z).symm⟩]
theorem raise_at {X : MM} {i h q : Nat} {v : Int32} (hh : h < 8) : jraise X i (nI h) v i q = if q = h then X i q + v else X i q := by
  unfold jraise
  rw [jput_nI hh (by decide), nI_clamp (by omega)]
  by_cases e : q = h
  · subst e; rw [jm_s, if_pos rfl]
  · rw [jm_n (by omega), if_neg e]
theorem ag_77 {X : MM} {h q : Nat} {u v : Int32} (hh : h < 8) : jag X (nI h) u v 77 q = if q = h then X 77 q + jb (¬ u ≤ v) else X 77 q := by
  unfold jag; rw [jraise_n (by omega), jraise_n (by omega), raise_at hh, jraise_n (by omega), jraise_n (by omega)]
theorem ag_78 {X : MM} {h q : Nat} {u v : Int32} (hh : h < 8) : jag X (nI h) u v 78 q = if q = h then X 78 q + jb (u = v) else X 78 q := by
  unfold jag; rw [jraise_n (by omega), raise_at hh, jraise_n (by omega), jraise_n (by omega), jraise_n (by omega)]
theorem ag_79 {X : MM} {h q : Nat} {u v : Int32} (hh : h < 8) : jag X (nI h) u v 79 q = if q = h then X 79 q + jb (¬ v ≤ u) else X 79 q := by
  unfold jag; rw [raise_at hh, jraise_n (by omega), jraise_n (by omega), jraise_n (by omega), jraise_n (by omega)]
theorem ag_80 {X : MM} {h q : Nat} {u v : Int32} (hh : h < 8) : jag X (nI h) u v 80 q = if q = h then X 80 q + u else X 80 q := by
  unfold jag; rw [jraise_n (by omega), jraise_n (by omega), jraise_n (by omega), jraise_n (by omega), raise_at hh]
theorem ag_81 {X : MM} {h q : Nat} {u v : Int32} (hh : h < 8) : jag X (nI h) u v 81 q = if q = h then X 81 q + v else X 81 q := by
  unfold jag; rw [jraise_n (by omega), jraise_n (by omega), jraise_n (by omega), raise_at hh, jraise_n (by omega)]
theorem if_ha {h a q : Nat} {S x y : Int32} (hne : h ≠ a) : (if q = a then (if q = h then S + x else S) + y else if q = h then S + x else S) = S + (if q = h then x else if q = a then y else 0) := by
  by_cases e : q = h
  · subst e; rw [if_neg hne, if_pos rfl, if_pos rfl]
  · by_cases e2 : q = a
    · subst e2; rw [if_pos rfl, if_neg e, if_neg e, if_pos rfl]
    · rw [if_neg e2, if_neg e, if_neg e, if_neg e2, Int32.add_zero]
theorem nI_sub0 {g g2 : Nat} (h : g ≤ 20) (h2 : g2 ≤ 20) : (nI g - nI g2 = 0 ↔ g = g2) ∧ (nI g - nI g2 ≤ 0 ↔ g ≤ g2) := by
  have key : ∀ g, g < 21 → ∀ g2, g2 < 21 → (nI g - nI g2 = 0 ↔ g = g2) ∧ (nI g - nI g2 ≤ 0 ↔ g ≤ g2) := by decide +kernel
  exact key g (by omega) g2 (by omega)
theorem tl_y {M : MM} {m h a g g2 k q : Nat} (hh : h < 8) (ha : a < 8) (hne : h ≠ a) (h70 : M 70 m = nI h) (h71 : M 71 m = nI a) (h5 : M 5 m = nI g) (h6 : M 6 m = nI g2) (hg : g ≤ 20) (hg2 : g2 ≤ 20) (hk : 1 ≤ k) (hk8 : k ≤ 8) :
    jt1 M (m + 1) (75 + k) q = jt1 M m (75 + k) q + (if q = h then fV (M 1 4) (M 1 5) k (nI g) (nI g2) 0 else if q = a then fV (M 1 4) (M 1 5) k (nI g2) (nI g) (nI g2) else 0) := by
  rw [jt1, if_neg (by rw [h5]; exact nI_nm1 (by omega)), h70, h71, h5, h6]
  have le1 : nI g ≤ nI g2 ↔ g ≤ g2 := by rw [Int32.le_iff_toInt_le, nI_toInt (by omega), nI_toInt (by omega)]; omega
  have le2 : nI g2 ≤ nI g ↔ g2 ≤ g := by rw [Int32.le_iff_toInt_le, nI_toInt (by omega), nI_toInt (by omega)]; omega
  have eq1 : nI g = nI g2 ↔ g = g2 := nI_eq (by omega) (by omega)
  have eq2 : nI g2 = nI g ↔ g2 = g := nI_eq (by omega) (by omega)
  rcases (show k = 1 ∨ k = 2 ∨ k = 3 ∨ k = 4 ∨ k = 5 ∨ k = 6 ∨ k = 7 ∨ k = 8 by omega) with rfl | rfl | rfl | rfl | rfl | rfl | rfl | rfl
  · show jpts _ 76 _ _ _ _ _ _ 76 q = jt1 M m 76 q + _
    unfold jpts fV
    rw [if_pos rfl, if_pos rfl]
    by_cases e : g = g2
    · have e1 : (if ¬ nI g ≤ nI g2 then M 1 4 else if nI g = nI g2 then M 1 5 else 0) = M 1 5 := by rw [if_neg (fun z => z (le1.mpr (by omega))), if_pos (eq1.mpr e)]
      have e2 : (if ¬ nI g2 ≤ nI g then M 1 4 else if nI g2 = nI g then M 1 5 else 0) = M 1 5 := by rw [if_neg (fun z => z (le2.mpr (by omega))), if_pos (eq2.mpr e.symm)]
      rw [e1, e2, if_pos ((nI_sub0 hg hg2).1.mpr e), raise_at ha, raise_at hh, jap_n (by omega), if_ha hne]
    · rw [if_neg (fun z => e ((nI_sub0 hg hg2).1.mp z))]
      by_cases c : g ≤ g2
      · have e1 : (if ¬ nI g ≤ nI g2 then M 1 4 else if nI g = nI g2 then M 1 5 else 0) = 0 := by rw [if_neg (fun z => z (le1.mpr c)), if_neg (fun z => e (eq1.mp z))]
        have e2 : (if ¬ nI g2 ≤ nI g then M 1 4 else if nI g2 = nI g then M 1 5 else 0) = M 1 4 := if_pos (fun z => by have := le2.mp z; omega)
        rw [e1, e2, if_pos ((nI_sub0 hg hg2).2.mpr c), raise_at ha, jap_n (by omega)]
        by_cases c1 : q = h
        · subst c1; rw [if_neg hne, if_pos rfl, Int32.add_zero]
        · rw [if_neg c1]
          by_cases c2 : q = a
          · rw [if_pos c2, if_pos c2]
          · rw [if_neg c2, if_neg c2, Int32.add_zero]
      · have e1 : (if ¬ nI g ≤ nI g2 then M 1 4 else if nI g = nI g2 then M 1 5 else 0) = M 1 4 := if_pos (fun z => c (le1.mp z))
        have e2 : (if ¬ nI g2 ≤ nI g then M 1 4 else if nI g2 = nI g then M 1 5 else 0) = 0 := by rw [if_neg (fun z => z (le2.mpr (by omega))), if_neg (fun z => e (eq2.mp z).symm)]
        rw [e1, e2, if_neg (fun z => c ((nI_sub0 hg hg2).2.mp z)), raise_at hh, jap_n (by omega)]
        by_cases c1 : q = h
        · rw [if_pos c1, if_pos c1]
        · rw [if_neg c1, if_neg c1]
          by_cases c2 : q = a
          · rw [if_pos c2, Int32.add_zero]
          · rw [if_neg c2, Int32.add_zero]
  · show jpts _ 76 _ _ _ _ _ _ 77 q = jt1 M m 77 q + _
    rw [jpts_n (by omega)]; unfold jap; rw [jraise_n (by omega), ag_77 ha, ag_77 hh, jm_n (by omega), jm_n (by omega), jm_n (by omega), if_ha hne]; rfl
  · show jpts _ 76 _ _ _ _ _ _ 78 q = jt1 M m 78 q + _
    rw [jpts_n (by omega)]; unfold jap; rw [jraise_n (by omega), ag_78 ha, ag_78 hh, jm_n (by omega), jm_n (by omega), jm_n (by omega), if_ha hne]; rfl
  · show jpts _ 76 _ _ _ _ _ _ 79 q = jt1 M m 79 q + _
    rw [jpts_n (by omega)]; unfold jap; rw [jraise_n (by omega), ag_79 ha, ag_79 hh, jm_n (by omega), jm_n (by omega), jm_n (by omega), if_ha hne]; rfl
  · show jpts _ 76 _ _ _ _ _ _ 80 q = jt1 M m 80 q + _
    rw [jpts_n (by omega)]; unfold jap; rw [jraise_n (by omega), ag_80 ha, ag_80 hh, jm_n (by omega), jm_n (by omega), jm_n (by omega), if_ha hne]; rfl
  · show jpts _ 76 _ _ _ _ _ _ 81 q = jt1 M m 81 q + _
    rw [jpts_n (by omega)]; unfold jap; rw [jraise_n (by omega), ag_81 ha, ag_81 hh, jm_n (by omega), jm_n (by omega), jm_n (by omega), if_ha hne]; rfl
  · show jpts _ 76 _ _ _ _ _ _ 82 q = jt1 M m 82 q + _
    rw [jpts_n (by omega)]; unfold jap; rw [raise_at ha, jag_n (by omega), jag_n (by omega), jm_n (by omega), jm_n (by omega), jm_n (by omega)]
    show _ = jt1 M m 82 q + (if q = h then 0 else if q = a then nI g2 else 0)
    by_cases c1 : q = h
    · subst c1; rw [if_neg hne, if_pos rfl, Int32.add_zero]
    · rw [if_neg c1]
      by_cases c2 : q = a
      · rw [if_pos c2, if_pos c2]
      · rw [if_neg c2, if_neg c2, Int32.add_zero]
  · show jpts _ 76 _ _ _ _ _ _ 83 q = jt1 M m 83 q + (if q = h then 0 else if q = a then 0 else 0)
    rw [jpts_n (by omega), jap_n (by omega)]
    by_cases c1 : q = h
    · rw [if_pos c1, Int32.add_zero]
    · by_cases c2 : q = a
      · rw [if_neg c1, if_pos c2, Int32.add_zero]
      · rw [if_neg c1, if_neg c2, Int32.add_zero]
theorem tl_n {M : MM} {m h a k q : Nat} (hh : h < 8) (ha : a < 8) (hne : h ≠ a) (h70 : M 70 m = nI h) (h71 : M 71 m = nI a) (h5 : M 5 m = -1) (hk : 1 ≤ k) (hk8 : k ≤ 8) :
    jt1 M (m + 1) (75 + k) q = jt1 M m (75 + k) q + (if q = h then (if k = 8 then 1 else 0) else if q = a then (if k = 8 then 1 else 0) else 0) := by
  rw [jt1, if_pos h5, h70, h71]
  by_cases e : k = 8
  · subst e
    show jraise (jraise (jt1 M m) 83 (nI h) 1) 83 (nI a) 1 83 q = jt1 M m 83 q + _
    rw [raise_at ha, raise_at hh, if_ha hne]; rfl
  · rw [jraise_n (by omega), jraise_n (by omega), if_neg e]
    by_cases c1 : q = h
    · rw [if_pos c1, Int32.add_zero]
    · by_cases c2 : q = a
      · rw [if_neg c1, if_pos c2, Int32.add_zero]
      · rw [if_neg c1, if_neg c2, Int32.add_zero]
theorem jclear_r {M : MM} {i q : Nat} (hi : 76 ≤ i ∧ i ≤ 84) (hq : q < 8) : jclear M i q = 0 := by
  rcases (show i = 76 ∨ i = 77 ∨ i = 78 ∨ i = 79 ∨ i = 80 ∨ i = 81 ∨ i = 82 ∨ i = 83 ∨ i = 84 by omega) with rfl | rfl | rfl | rfl | rfl | rfl | rfl | rfl | rfl <;> simp [jclear, jfill, hq]
theorem tl_sum {t : Nat} {A B : MM} (hL : rL t true (lgC A 1) (B 95)) (hF : rFix t A) {k q : Nat} (hk : 1 ≤ k) (hk8 : k ≤ 8) (hq : q < 8) : ∀ m, m ≤ nT t → jt1 A m (75 + k) q = jsum (fHas B (nI q) k (-1)) m
  | 0, _ => jclear_r (by omega) hq
  | m + 1, hm => by
    have ih := tl_sum hL hF hk hk8 hq m (by omega)
    obtain ⟨h, a, h1, h2, h3, h4, h5, h6, h7⟩ := home_r hL (show m < nT t by omega)
    obtain ⟨f1, f2, -⟩ := hF.2.2.1 m (by omega)
    have ht := hL.1
    have g4 : A 1 4 = B 95 3 := by
      obtain ⟨z, -, z1, z2⟩ := hL.2.2.2.2.2.2.2.2.2.1
      exact (show A 1 4 = nI z from z1).trans z2.symm
    have g5 : A 1 5 = B 95 4 := by
      obtain ⟨z, -, z1, z2⟩ := hL.2.2.2.2.2.2.2.2.2.2.1
      exact (show A 1 5 = nI z from z1).trans z2.symm
    rw [jsum, ← ih]
    rcases (mt_of.mp (hL.2.2.2.2.2.2.2.2.2.2.2.2 m (show m < nn t true from hm))).2.2.2.2.2 with ⟨p, g, g2, p1, p2, p3, p4, p5, p6⟩ | ⟨p, p3, p4⟩
    · rw [tl_y (by omega) (by omega) h3 (f1.trans h4) (f2.trans h5) p3 p5 p1 p2 hk hk8]
      congr 1
      by_cases e : q = h
      · subst e; rw [if_pos rfl, has_h h6 h7 (by omega), if_neg (fun z => z p), g4, g5, p4, p6]
      · by_cases e2 : q = a
        · subst e2; rw [if_neg e, if_pos rfl, has_a h6 h7 (by omega) (by omega) h3, if_neg (fun z => z p), g4, g5, p4, p6]
        · rw [if_neg e, if_neg e2, has_0 h6 h7 (by omega) (by omega) hq e e2]
    · have p' : ¬ jof B m 4 = 1 := by rw [p]; decide
      rw [tl_n (by omega) (by omega) h3 (f1.trans h4) (f2.trans h5) p3 hk hk8]
      congr 1
      by_cases e : q = h
      · subst e; rw [if_pos rfl, has_h h6 h7 (by omega), if_pos p']
      · by_cases e2 : q = a
        · subst e2; rw [if_neg e, if_pos rfl, has_a h6 h7 (by omega) (by omega) h3, if_pos p']
        · rw [if_neg e, if_neg e2, has_0 h6 h7 (by omega) (by omega) hq e e2]
/-- the tally after a count, whether drawn or not -/
theorem tally_r {t : Nat} {dr : Bool} {A B : MM} (hL : rL t dr (lgC A 1) (B 95)) (hF : dr = true → rFix t A) {k q : Nat} (hk : 1 ≤ k) (hk8 : k ≤ 8) (hq : q < 8) : jcount A (nn t dr) (75 + k) q = gH B (nn t dr) (nI q) k := by
  unfold jcount gH
  rw [jt2_n (by omega)]
  cases dr with
  | false => exact jclear_r (by omega) hq
  | true => exact tl_sum hL (hF rfl) hk hk8 hq _ (Nat.le_refl _)
theorem fV_le {w z : Nat} {g g2 k : Nat} (hw : w ≤ 20) (hz : z ≤ 20) (hg : g ≤ 20) (hg2 : g2 ≤ 20) {e : Int32} (he : e = 0 ∨ e = nI g) : ∃ v, v ≤ 20 ∧ fV (nI w) (nI z) k (nI g) (nI g2) e = nI v := by
  have hj : ∀ (p : Prop) [Decidable p], ∃ v, v ≤ 20 ∧ jb p = nI v := fun p _ => by
    by_cases c : p
    · exact ⟨1, by omega, jb_t c⟩
    · exact ⟨0, by omega, jb_f c⟩
  unfold fV
  split
  · split
    · exact ⟨w, hw, rfl⟩
    · split
      · exact ⟨z, hz, rfl⟩
      · exact ⟨0, by omega, rfl⟩
  · split
    · exact hj _
    · split
      · exact hj _
      · split
        · exact hj _
        · split
          · exact ⟨g, hg, rfl⟩
          · split
            · exact ⟨g2, hg2, rfl⟩
            · split
              · rcases he with rfl | rfl
                · exact ⟨0, by omega, rfl⟩
                · exact ⟨g, hg, rfl⟩
              · exact ⟨0, by omega, rfl⟩
theorem has_le {t : Nat} {A B : MM} (hL : rL t true (lgC A 1) (B 95)) {k q m : Nat} (hq : q < 8) (hm : m < nT t) : ∃ v, v ≤ 20 ∧ fHas B (nI q) k (-1) m = nI v := by
  have ht := hL.1
  obtain ⟨h, a, h1, h2, h3, h4, h5, h6, h7⟩ := home_r hL hm
  obtain ⟨w, w1, -, w2⟩ := hL.2.2.2.2.2.2.2.2.2.1
  obtain ⟨z, z1, -, z2⟩ := hL.2.2.2.2.2.2.2.2.2.2.1
  have h8 : ∃ v, v ≤ 20 ∧ (if k = 8 then (1 : Int32) else 0) = nI v := by
    split
    · exact ⟨1, by omega, rfl⟩
    · exact ⟨0, by omega, rfl⟩
  rcases (mt_of.mp (hL.2.2.2.2.2.2.2.2.2.2.2.2 m (show m < nn t true from hm))).2.2.2.2.2 with ⟨p, g, g2, p1, p2, p3, p4, p5, p6⟩ | ⟨p, p3, p4⟩
  · by_cases e : q = h
    · subst e; rw [has_h h6 h7 (by omega), if_neg (fun z => z p), w2, z2, p4, p6]; exact fV_le (by omega) (by omega) p1 p2 (Or.inl rfl)
    · by_cases e2 : q = a
      · subst e2; rw [has_a h6 h7 (by omega) (by omega) h3, if_neg (fun z => z p), w2, z2, p4, p6]; exact fV_le (by omega) (by omega) p2 p1 (Or.inr rfl)
      · rw [has_0 h6 h7 (by omega) (by omega) hq e e2]; exact ⟨0, by omega, rfl⟩
  · have p' : ¬ jof B m 4 = 1 := by rw [p]; decide
    by_cases e : q = h
    · subst e; rw [has_h h6 h7 (by omega), if_pos p']; exact h8
    · by_cases e2 : q = a
      · subst e2; rw [has_a h6 h7 (by omega) (by omega) h3, if_pos p']; exact h8
      · rw [has_0 h6 h7 (by omega) (by omega) hq e e2]; exact ⟨0, by omega, rfl⟩
theorem jsum_le {f : Nat → Int32} : ∀ n, (∀ m, m < n → ∃ v, v ≤ 20 ∧ f m = nI v) → ∃ v, v ≤ 20 * n ∧ jsum f n = nI v
  | 0, _ => ⟨0, by omega, rfl⟩
  | n + 1, h => by
    obtain ⟨v, h1, h2⟩ := jsum_le n (fun m hm => h m (by omega))
    obtain ⟨w, h3, h4⟩ := h n (by omega)
    exact ⟨v + w, by omega, by rw [jsum, h2, h4, nI_add]⟩
theorem gH_le {t : Nat} {dr : Bool} {A B : MM} (hL : rL t dr (lgC A 1) (B 95)) {k q : Nat} (hq : q < 8) : ∃ v, v < 10000 ∧ gH B (nn t dr) (nI q) k = nI v := by
  have hn := nn_le (dr := dr) hL.1
  unfold gH
  obtain ⟨v, h1, h2⟩ := jsum_le (f := fHas B (nI q) k (-1)) (nn t dr) (fun m hm => by
    cases dr with
    | false => exact absurd hm (Nat.not_lt_zero m)
    | true => exact has_le hL hq hm)
  exact ⟨v, by omega, h2⟩
