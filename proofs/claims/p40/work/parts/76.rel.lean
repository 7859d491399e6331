/-! ===== class and reference: what holds between them (A: the class's cells, B: the reference's) ===== -/
def lgC (A : MM) (a : Nat) : Nat → Nat → Int32 := fun i => A (a + i)
def rwR (B : MM) (r f : Nat) : Nat → Int32 := fun k => B r (f + k)
def zz (t : Nat) (dr : Bool) : Nat := if dr = true then wT t else 0
def nn (t : Nat) (dr : Bool) : Nat := if dr = true then nT t else 0
abbrev r04 (r : Int32) : Prop := r = 0 ∨ r = 1 ∨ r = 2 ∨ r = 3 ∨ r = 4
def mtR (t : Nat) (C : Nat → Nat → Int32) (R : Nat → Int32) (m : Nat) : Prop :=
  R (18 + 8 * m + 0) = TB t m 0 ∧ R (18 + 8 * m + 1) = TB t m 1 ∧ R (18 + 8 * m + 3) = TB t m 3 ∧ C 3 m = R (18 + 8 * m + 2) ∧
  (∃ w0 w1 : Nat, TB t m 3 = nI w0 ∧ R (18 + 8 * m + 2) = nI w1 ∧ w0 ≤ w1 ∧ w1 < wT t ∧ R (18 + 8 * m + 5) = if w0 = w1 then 0 else 1) ∧
  ((R (18 + 8 * m + 4) = 1 ∧ ∃ g h : Nat, g ≤ 20 ∧ h ≤ 20 ∧ C 4 m = nI g ∧ R (18 + 8 * m + 6) = nI g ∧ C 5 m = nI h ∧ R (18 + 8 * m + 7) = nI h) ∨ (R (18 + 8 * m + 4) = 0 ∧ C 4 m = -1 ∧ C 5 m = -1))
def rL (t : Nat) (dr : Bool) (C : Nat → Nat → Int32) (R : Nat → Int32) : Prop :=
  t ≤ 8 ∧ C 0 0 = nI t ∧ R 0 = nI t ∧ (∀ i, i < 8 → C 1 i = R (10 + i)) ∧ (dr = true → 2 ≤ t) ∧ C 0 2 = (if dr = true then 1 else 0) ∧ R 1 = nI (zz t dr) ∧ R 9 = nI (nn t dr) ∧
  (∃ w : Nat, (dr = false → w = 0) ∧ C 0 3 = nI w ∧ R 2 = nI w ∧ (dr = true → w < wT t)) ∧ (∃ q : Nat, q ≤ 5 ∧ C 0 4 = nI q ∧ R 3 = nI q) ∧ (∃ q : Nat, q ≤ 3 ∧ C 0 5 = nI q ∧ R 4 = nI q) ∧
  (∃ c : Nat, c ≤ 3 ∧ C 0 6 = nI c ∧ R 5 = nI c ∧ ∀ i, i < c → C 2 i = R (6 + i) ∧ r04 (C 2 i)) ∧ ∀ m, m < nn t dr → mtR t C R m
theorem nn_le {t : Nat} {dr : Bool} (ht : t ≤ 8) : nn t dr ≤ 56 := by
  unfold nn
  split
  · exact nT_le ht
  · omega
theorem zz_le {t : Nat} {dr : Bool} (ht : t ≤ 8) : zz t dr ≤ 14 := by
  unfold zz
  split
  · exact wT_le ht
  · omega
theorem rL_c {t : Nat} {dr : Bool} {C C2 : Nat → Nat → Int32} {R R2 : Nat → Int32} (h : rL t dr C R) (h0 : ∀ k, k = 0 ∨ k = 2 ∨ k = 3 ∨ k = 4 ∨ k = 5 ∨ k = 6 → C2 0 k = C 0 k) (h1 : ∀ i, i < 8 → C2 1 i = C 1 i) (h2 : ∀ i, i < 3 → C2 2 i = C 2 i) (h3 : ∀ i, i = 3 ∨ i = 4 ∨ i = 5 → ∀ m, m < 56 → C2 i m = C i m) (hR : ∀ k, k < 466 → R2 k = R k) : rL t dr C2 R2 := by
  obtain ⟨a1, a2, a3, a4, a5, a6, a7, a8, ⟨w, b1, b2, b3, b4⟩, ⟨q, c1, c2, c3⟩, ⟨q2, d1, d2, d3⟩, ⟨c, e1, e2, e3, e4⟩, f⟩ := h
  have hn := nn_le (dr := dr) a1
  refine ⟨a1, by rw [h0 0 (by omega)]; exact a2, by rw [hR 0 (by omega)]; exact a3, fun i hi => by rw [h1 i hi, hR (10 + i) (by omega)]; exact a4 i hi, a5, by rw [h0 2 (by omega)]; exact a6, by rw [hR 1 (by omega)]; exact a7, by rw [hR 9 (by omega)]; exact a8,
    ⟨w, b1, by rw [h0 3 (by omega)]; exact b2, by rw [hR 2 (by omega)]; exact b3, b4⟩, ⟨q, c1, by rw [h0 4 (by omega)]; exact c2, by rw [hR 3 (by omega)]; exact c3⟩, ⟨q2, d1, by rw [h0 5 (by omega)]; exact d2, by rw [hR 4 (by omega)]; exact d3⟩,
    ⟨c, e1, by rw [h0 6 (by omega)]; exact e2, by rw [hR 5 (by omega)]; exact e3, fun i hi => by rw [h2 i (by omega), hR (6 + i) (by omega)]; exact e4 i hi⟩, fun m hm => ?_⟩
  have hm := f m hm
  unfold mtR at hm ⊢
  rw [h3 3 (by omega) m (by omega), h3 4 (by omega) m (by omega), h3 5 (by omega) m (by omega), hR _ (show 18 + 8 * m + 0 < 466 by omega), hR _ (show 18 + 8 * m + 1 < 466 by omega), hR _ (show 18 + 8 * m + 2 < 466 by omega), hR _ (show 18 + 8 * m + 3 < 466 by omega), hR _ (show 18 + 8 * m + 4 < 466 by omega), hR _ (show 18 + 8 * m + 5 < 466 by omega), hR _ (show 18 + 8 * m + 6 < 466 by omega), hR _ (show 18 + 8 * m + 7 < 466 by omega)]
  exact hm
/-- the same league in other cells -/
theorem rL_cells {t : Nat} {dr : Bool} {A A2 : MM} {a : Nat} {R R2 : Nat → Int32} (h : rL t dr (lgC A a) R) (hA : ∀ i k, a ≤ i → i ≤ a + 5 → A2 i k = A i k) (hR : ∀ k, k < 466 → R2 k = R k) : rL t dr (lgC A2 a) R2 :=
  rL_c h (fun k _ => hA (a + 0) k (by omega) (by omega)) (fun i _ => hA (a + 1) i (by omega) (by omega)) (fun i _ => hA (a + 2) i (by omega) (by omega)) (fun i hi m _ => hA (a + i) m (by omega) (by omega)) hR
theorem jlg_at {M : MM} {a g : Nat} {k : Nat} : (∀ k, k = 0 ∨ k = 2 ∨ k = 3 ∨ k = 4 ∨ k = 5 ∨ k = 6 → jlg M a g g k = M a k) ∧ (k < 8 → jlg M a g (g + 1) k = M (a + 1) k) ∧ (k < 3 → jlg M a g (g + 2) k = M (a + 2) k) ∧ (k < 56 → jlg M a g (g + 3) k = M (a + 3) k ∧ jlg M a g (g + 4) k = M (a + 4) k ∧ jlg M a g (g + 5) k = M (a + 5) k) := by
  refine ⟨fun k h => ?_, fun h => ?_, fun h => ?_, fun h => ⟨?_, ?_, ?_⟩⟩
  · unfold jlg; rw [if_pos ⟨rfl, by omega⟩]
  · unfold jlg; rw [if_neg (by omega), if_pos ⟨rfl, h⟩]
  · unfold jlg; rw [if_neg (by omega), if_neg (by omega), if_pos ⟨rfl, h⟩]
  · unfold jlg; rw [if_neg (by omega), if_neg (by omega), if_neg (by omega), if_pos ⟨rfl, h⟩]
  · unfold jlg; rw [if_neg (by omega), if_neg (by omega), if_neg (by omega), if_neg (by omega), if_pos ⟨rfl, h⟩]
  · unfold jlg; rw [if_neg (by omega), if_neg (by omega), if_neg (by omega), if_neg (by omega), if_neg (by omega), if_pos ⟨rfl, h⟩]
/-- a league copied from a to g -/
theorem rL_copy {t : Nat} {dr : Bool} {A A2 : MM} {a g : Nat} {R R2 : Nat → Int32} (h : rL t dr (lgC A a) R) (hA : ∀ i k, g ≤ i → i ≤ g + 5 → A2 i k = jlg A a g i k) (hR : ∀ k, k < 466 → R2 k = R k) : rL t dr (lgC A2 g) R2 := by
  refine rL_c h (fun k hk => ?_) (fun i hi => ?_) (fun i hi => ?_) (fun i hi m hm => ?_) hR
  · exact (hA g k (by omega) (by omega)).trans ((jlg_at (k := 0)).1 k hk)
  · exact (hA (g + 1) i (by omega) (by omega)).trans (jlg_at.2.1 hi)
  · exact (hA (g + 2) i (by omega) (by omega)).trans (jlg_at.2.2.1 hi)
  · have := (jlg_at (M := A) (a := a) (g := g) (k := m)).2.2.2 hm
    rcases hi with rfl | rfl | rfl
    · exact (hA (g + 3) m (by omega) (by omega)).trans this.1
    · exact (hA (g + 4) m (by omega) (by omega)).trans this.2.1
    · exact (hA (g + 5) m (by omega) (by omega)).trans this.2.2
/-! history -/
def rH (τ : Nat → Nat × Bool) (k j : Nat) (A B : MM) : Prop := ∀ i, i < k → rL (τ i).1 (τ i).2 (lgC A (15 + 6 * ((j + 9 - k + i) % 9))) (rwR B 97 (466 * i))
def rCh (τ : Nat → Nat × Bool) (k : Nat) : Prop := ∀ i, i < k → (τ i).2 = true → τ (i + 1) = τ i
def rSv (A B : MM) : Prop := (A 0 2 = 0 ∧ B 94 5 = 0) ∨ (A 0 2 = 1 ∧ B 94 5 = 1 ∧ ∃ t dr, rL t dr (lgC A 7) (B 98))
def rTx (A B : MM) : Prop := ∃ n : Nat, n ≤ 60 ∧ A 86 0 = nI n ∧ B 94 9 = nI n ∧ ∀ i, i < n → A 87 i = B 100 i ∧ ∃ q : Nat, q < 65536 ∧ B 100 i = nI q
def rRs (A B : MM) : Prop := A 0 9 = B 94 14 ∧ A 0 10 = B 94 15 ∧ A 0 11 = B 94 17 ∧ A 0 8 = B 94 13 ∧ A 0 12 = 0 ∧ ∃ q : Nat, q ≤ 36 ∧ B 94 7 = nI q
def Rel (A B : MM) : Prop := ∃ (τ : Nat → Nat × Bool) (k j : Nat), j < 9 ∧ k ≤ 8 ∧ A 13 1 = nI j ∧ A 13 2 = nI k ∧ B 94 3 = nI k ∧ rL (τ k).1 (τ k).2 (lgC A 1) (B 95) ∧ rH τ k j A B ∧ rCh τ k ∧ ((τ k).2 = true → rFix (τ k).1 A) ∧ rSv A B ∧ rTx A B ∧ rRs A B
theorem rFix_c {t : Nat} {A A2 : MM} (h : rFix t A) (hA : ∀ i k, 69 ≤ i → i ≤ 73 → A2 i k = A i k) : rFix t A2 := by
  obtain ⟨h1, h2, h3, h4⟩ := h
  exact ⟨(hA 69 0 (by omega) (by omega)).trans h1, (hA 69 1 (by omega) (by omega)).trans h2, fun m hm => by rw [hA 70 m (by omega) (by omega), hA 71 m (by omega) (by omega), hA 72 m (by omega) (by omega)]; exact h3 m hm, fun w hw => (hA 73 w (by omega) (by omega)).trans (h4 w hw)⟩
/-- other cells don't matter -/
theorem Rel_c {A A2 B B2 : MM} (h : Rel A B) (hA : ∀ i k, i < 75 ∨ i = 86 ∨ i = 87 → ¬ (i = 86 ∧ (k = 1 ∨ k = 2)) → A2 i k = A i k) (hB : ∀ i k, (i = 94 ∧ k ≠ 10 ∧ k ≠ 11 ∧ k ≠ 16 ∧ k ≠ 18 ∧ k ≠ 19) ∨ i = 95 ∨ i = 97 ∨ i = 98 ∨ i = 100 → B2 i k = B i k) : Rel A2 B2 := by
  obtain ⟨τ, k, j, a1, a2, a3, a4, a5, a6, a7, a8, a9, a10, ⟨n, t1, t2, t3, t4⟩, ⟨r1, r2, r3, r4, r5, q, r6, r7⟩⟩ := h
  refine ⟨τ, k, j, a1, a2, (hA 13 1 (by omega) (by omega)).trans a3, (hA 13 2 (by omega) (by omega)).trans a4, (hB 94 3 (by omega)).trans a5, rL_cells a6 (fun i k _ _ => hA i k (by omega) (by omega)) (fun k _ => hB 95 k (by omega)), fun i hi => rL_cells (a7 i hi) (fun i2 k _ _ => hA i2 k (by omega) (by omega)) (fun k _ => hB 97 _ (by omega)), a8, fun hd => rFix_c (a9 hd) (fun i k _ _ => hA i k (by omega) (by omega)), ?_, ⟨n, t1, (hA 86 0 (by omega) (by omega)).trans t2, (hB 94 9 (by omega)).trans t3, fun i hi => by rw [hA 87 i (by omega) (by omega), hB 100 i (by omega)]; exact t4 i hi⟩, ⟨?_, ?_, ?_, ?_, ?_, q, r6, (hB 94 7 (by omega)).trans r7⟩⟩
  · rcases a10 with ⟨s1, s2⟩ | ⟨s1, s2, t, dr, s3⟩
    · exact Or.inl ⟨(hA 0 2 (by omega) (by omega)).trans s1, (hB 94 5 (by omega)).trans s2⟩
    · exact Or.inr ⟨(hA 0 2 (by omega) (by omega)).trans s1, (hB 94 5 (by omega)).trans s2, t, dr, rL_cells s3 (fun i k _ _ => hA i k (by omega) (by omega)) (fun k _ => hB 98 k (by omega))⟩
  · rw [hA 0 9 (by omega) (by omega), hB 94 14 (by omega)]; exact r1
  · rw [hA 0 10 (by omega) (by omega), hB 94 15 (by omega)]; exact r2
  · rw [hA 0 11 (by omega) (by omega), hB 94 17 (by omega)]; exact r3
  · rw [hA 0 8 (by omega) (by omega), hB 94 13 (by omega)]; exact r4
  · rw [hA 0 12 (by omega) (by omega)]; exact r5
theorem jkeep_slot {M : MM} {j k i c : Nat} (hj : j < 9) (h : 15 + 6 * j ≤ i) (h2 : i ≤ 15 + 6 * j + 5) : jkeep M j k i c = jlg M 1 (15 + 6 * j) i c := by
  unfold jkeep jkh
  rw [jm_n (by omega), jm_n (by omega)]
theorem jkeep_old {M : MM} {j k i c : Nat} (h : i < 15 + 6 * j ∨ 15 + 6 * j + 5 < i) (h2 : i ≠ 13) : jkeep M j k i c = M i c := by
  unfold jkeep jkh
  rw [jm_n (by omega), jm_n (by omega), jlg_n (by omega)]
theorem jkeep_13 {M : MM} {j k : Nat} : jkeep M j k 13 1 = nI ((j + 1) % 9) ∧ jkeep M j k 13 2 = nI (min (k + 1) 8) := by
  unfold jkeep jkh
  exact ⟨by rw [jm_n (by omega), jm_s], by rw [jm_s]⟩
theorem jkpg_97 {N : MM} {k i c : Nat} (hk : k ≤ 8) (hi : i < min (k + 1) 8) (hc : c < 466) : jkpg N k 97 (466 * i + c) = if i = min k 7 then N 96 c else if k = 8 then N 97 (466 * (i + 1) + c) else N 97 (466 * i + c) := by
  unfold jkpg
  by_cases h8 : k < 8
  · rw [if_pos h8, if_neg (show ¬ k = 8 by omega)]
    unfold jkp
    rw [jm_n (by omega)]
    by_cases e : i = min k 7
    · rw [if_pos e, show i = k by omega, jcp_at hc, Nat.zero_add]
    · rw [if_neg e, jcp_out (by omega)]
  · rw [if_neg h8, if_pos (show k = 8 by omega)]
    unfold jkp8 jkp
    rw [jm_n (by omega)]
    by_cases e : i = min k 7
    · rw [if_pos e, show i = 7 by omega, jcp_at hc, Nat.zero_add, jm_n (by omega), jcp_n (by omega)]
    · rw [if_neg e, jcp_out (by omega), jm_n (by omega), show 466 * i + c = 0 + (466 * i + c) by omega, jcp_at (by omega)]
      congr 1
      omega
theorem jkpg_n {N : MM} {k i c : Nat} (hi : i ≠ 97) (h : ¬ (i = 94 ∧ c = 3)) : jkpg N k i c = N i c := by
  unfold jkpg
  split
  · unfold jkp; rw [jm_n h, jcp_n hi]
  · unfold jkp8 jkp; rw [jm_n h, jcp_n hi, jm_n h, jcp_n hi]
theorem jkpg_3 {N : MM} {k : Nat} (hk : k ≤ 8) : jkpg N k 94 3 = nI (min (k + 1) 8) := by
  unfold jkpg
  split
  · unfold jkp; rw [jm_s]; congr 1; omega
  · unfold jkp8 jkp; rw [jm_s]; congr 1; omega
/-- a change that is kept: the history behind it -/
theorem push_H {τ : Nat → Nat × Bool} {k j : Nat} {A A2 B B2 N : MM} {x : Nat × Bool} (hj : j < 9) (hk : k ≤ 8) (h0 : rL (τ k).1 (τ k).2 (lgC A 1) (B 95)) (h : rH τ k j A B) (hc : rCh τ k) (hx : (τ k).2 = true → x = τ k)
    (hA : ∀ i c, 15 ≤ i → i < 69 → A2 i c = jkeep A j k i c) (hB : ∀ c, B2 97 c = jkpg N k 97 c) (h96 : ∀ c, c < 466 → N 96 c = B 95 c) (h97 : ∀ c, N 97 c = B 97 c) :
    ∃ τ2 : Nat → Nat × Bool, rH τ2 (min (k + 1) 8) ((j + 1) % 9) A2 B2 ∧ rCh τ2 (min (k + 1) 8) ∧ τ2 (min (k + 1) 8) = x := by
  -- the entry that is pushed
  have hnew : ∀ R : Nat → Int32, (∀ c, c < 466 → R c = B 95 c) → rL (τ k).1 (τ k).2 (lgC A2 (15 + 6 * j)) R := fun R hR =>
    rL_copy h0 (fun i c h1 h2 => (hA i c (by omega) (by omega)).trans (jkeep_slot hj h1 h2)) hR
  have hold : ∀ (i s : Nat) (R : Nat → Int32), i < k → s = (j + 9 - k + i) % 9 → s ≠ j → (∀ c, c < 466 → R c = B 97 (466 * i + c)) → rL (τ i).1 (τ i).2 (lgC A2 (15 + 6 * s)) R := fun i s R hi hs hsj hR => by
    have h1 := h i hi
    rw [← hs] at h1
    have hs9 : s < 9 := by omega
    exact rL_cells h1 (fun i2 c q1 q2 => (hA i2 c (by omega) (by omega)).trans (jkeep_old (by omega) (by omega))) hR
  by_cases h8 : k < 8
  · have em : min (k + 1) 8 = k + 1 := by omega
    refine ⟨fun i => if i ≤ k then τ i else x, ?_, ?_, ?_⟩
    · rw [em]
      intro i hi
      have hR : ∀ c, c < 466 → rwR B2 97 (466 * i) c = if i = k then B 95 c else B 97 (466 * i + c) := fun c hc1 => by
        show B2 97 (466 * i + c) = _
        rw [hB, jkpg_97 hk (by omega) hc1]
        by_cases e : i = k
        · rw [if_pos (by omega), if_pos e]; exact h96 c hc1
        · rw [if_neg (by omega), if_neg (by omega), if_neg e]; exact h97 _
      show rL (if i ≤ k then τ i else x).1 (if i ≤ k then τ i else x).2 _ _
      rw [if_pos (by omega)]
      by_cases e : i = k
      · subst e
        rw [show ((j + 1) % 9 + 9 - (i + 1) + i) % 9 = j by omega]
        exact hnew _ (fun c hc1 => by rw [hR c hc1, if_pos rfl])
      · exact hold i _ _ (by omega) (by omega) (by omega) (fun c hc1 => by rw [hR c hc1, if_neg e])
    · rw [em]
      intro i hi hd
      have hd2 : (τ i).2 = true := by
        have : (if i ≤ k then τ i else x).2 = true := hd
        rwa [if_pos (by omega)] at this
      show (if i + 1 ≤ k then τ (i + 1) else x) = (if i ≤ k then τ i else x)
      rw [if_pos (show i ≤ k by omega)]
      by_cases e : i = k
      · subst e; rw [if_neg (by omega)]; exact hx hd2
      · rw [if_pos (by omega)]; exact hc i (by omega) hd2
    · rw [em]; exact if_neg (by omega)
  · have hk8 : k = 8 := by omega
    subst hk8
    refine ⟨fun i => if i < 8 then τ (i + 1) else x, ?_, ?_, ?_⟩
    · show rH _ 8 _ _ _
      intro i hi
      have hR : ∀ c, c < 466 → rwR B2 97 (466 * i) c = if i = 7 then B 95 c else B 97 (466 * (i + 1) + c) := fun c hc1 => by
        show B2 97 (466 * i + c) = _
        rw [hB, jkpg_97 hk (by omega) hc1]
        by_cases e : i = 7
        · rw [if_pos (by omega), if_pos e]; exact h96 c hc1
        · rw [if_neg (by omega), if_pos rfl, if_neg e]; exact h97 _
      show rL (if i < 8 then τ (i + 1) else x).1 (if i < 8 then τ (i + 1) else x).2 _ _
      rw [if_pos hi]
      by_cases e : i = 7
      · subst e
        rw [show ((j + 1) % 9 + 9 - 8 + 7) % 9 = j by omega]
        exact hnew _ (fun c hc1 => by rw [hR c hc1, if_pos rfl])
      · exact hold (i + 1) _ _ (by omega) (by omega) (by omega) (fun c hc1 => by rw [hR c hc1, if_neg e])
    · show rCh _ 8
      intro i hi hd
      have hd : (τ (i + 1)).2 = true := by
        have : (if i < 8 then τ (i + 1) else x).2 = true := hd
        rwa [if_pos hi] at this
      show (if i + 1 < 8 then τ (i + 1 + 1) else x) = (if i < 8 then τ (i + 1) else x)
      rw [if_pos hi]
      by_cases e : i = 7
      · subst e; rw [if_neg (by omega)]; exact hx hd
      · rw [if_pos (by omega)]; exact hc (i + 1) (by omega) hd
    · show (if 8 < 8 then _ else x) = x
      exact if_neg (by omega)
