/-! ===== changes of the league that stands: class and reference alike ===== -/
theorem rL_up {t : Nat} {dr : Bool} {C C2 : Nat → Nat → Int32} {R R2 : Nat → Int32} (h : rL t dr C R) (h0 : ∀ k, k = 0 ∨ k = 2 ∨ k = 3 ∨ k = 4 ∨ k = 5 ∨ k = 6 → C2 0 k = C 0 k) (h1 : ∀ i, i < 8 → C2 1 i = C 1 i) (h2 : ∀ i, i < 3 → C2 2 i = C 2 i) (hR : ∀ k, k < 18 → R2 k = R k) (hm : ∀ m, m < nn t dr → mtR t C R m → mtR t C2 R2 m) : rL t dr C2 R2 := by
  obtain ⟨a1, a2, a3, a4, a5, a6, a7, a8, ⟨w, b1, b2, b3, b4⟩, ⟨q, c1, c2, c3⟩, ⟨q2, d1, d2, d3⟩, ⟨c, e1, e2, e3, e4⟩, f⟩ := h
  exact ⟨a1, by rw [h0 0 (by omega)]; exact a2, by rw [hR 0 (by omega)]; exact a3, fun i hi => by rw [h1 i hi, hR (10 + i) (by omega)]; exact a4 i hi, a5, by rw [h0 2 (by omega)]; exact a6, by rw [hR 1 (by omega)]; exact a7, by rw [hR 9 (by omega)]; exact a8,
    ⟨w, b1, by rw [h0 3 (by omega)]; exact b2, by rw [hR 2 (by omega)]; exact b3, b4⟩, ⟨q, c1, by rw [h0 4 (by omega)]; exact c2, by rw [hR 3 (by omega)]; exact c3⟩, ⟨q2, d1, by rw [h0 5 (by omega)]; exact d2, by rw [hR 4 (by omega)]; exact d3⟩,
    ⟨c, e1, by rw [h0 6 (by omega)]; exact e2, by rw [hR 5 (by omega)]; exact e3, fun i hi => by rw [h2 i (by omega), hR (6 + i) (by omega)]; exact e4 i hi⟩, fun m hmn => hm m hmn (f m hmn)⟩
theorem jof_R {N : MM} {m w : Nat} : N 95 (18 + 8 * m + w) = jof N m w := rfl
/-- a meeting as cells 4, 5, 6 of the class and the reference's now have it -/
theorem mt_of {t : Nat} {X N : MM} {m : Nat} : mtR t (lgC X 1) (N 95) m ↔ (jof N m 0 = TB t m 0 ∧ jof N m 1 = TB t m 1 ∧ jof N m 3 = TB t m 3 ∧ X 4 m = jof N m 2 ∧
  (∃ w0 w1 : Nat, TB t m 3 = nI w0 ∧ jof N m 2 = nI w1 ∧ w0 ≤ w1 ∧ w1 < wT t ∧ jof N m 5 = if w0 = w1 then 0 else 1) ∧
  ((jof N m 4 = 1 ∧ ∃ g h : Nat, g ≤ 20 ∧ h ≤ 20 ∧ X 5 m = nI g ∧ jof N m 6 = nI g ∧ X 6 m = nI h ∧ jof N m 7 = nI h) ∨ (jof N m 4 = 0 ∧ X 5 m = -1 ∧ X 6 m = -1))) := Iff.rfl
theorem jsetg_nI {X : MM} {q : Nat} {u v : Int32} (hq : q < 56) : jsetg X 1 (nI q) u v = jm (jm X 5 q u) 6 q v := by
  unfold jsetg
  rw [jput_nI hq (by decide), jput_nI hq (by decide)]
theorem now_res {t q gu gv : Nat} {X N : MM} (h : rL t true (lgC X 1) (N 95)) (hq : q < nT t) (hu : gu ≤ 20) (hv : gv ≤ 20) : rL t true (lgC (jsetg X 1 (nI q) (nI gu) (nI gv)) 1) (gResS N q (nI gu) (nI gv) 95) := by
  have hn := nT_le h.1
  rw [jsetg_nI (by omega)]
  refine rL_up h (fun k _ => ?_) (fun i _ => ?_) (fun i _ => ?_) (fun k hk => ?_) (fun m hm hh => ?_)
  · show jm (jm X 5 q _) 6 q _ 1 k = X 1 k; rw [jm_n (by omega), jm_n (by omega)]
  · show jm (jm X 5 q _) 6 q _ 2 i = X 2 i; rw [jm_n (by omega), jm_n (by omega)]
  · show jm (jm X 5 q _) 6 q _ 3 i = X 3 i; rw [jm_n (by omega), jm_n (by omega)]
  · unfold gResS; rw [jsets_n (by omega), jsets_n (by omega), jsets_n (by omega)]
  · rw [mt_of] at hh ⊢
    obtain ⟨h1, h2, h3, h4, h5, h6⟩ := hh
    unfold gResS
    rw [jsets_of (w2 := 0) (by omega) (by omega) (by omega), jsets_of (w2 := 0) (by omega) (by omega) (by omega), jsets_of (w2 := 0) (by omega) (by omega) (by omega), jsets_of (w2 := 1) (by omega) (by omega) (by omega), jsets_of (w2 := 1) (by omega) (by omega) (by omega), jsets_of (w2 := 1) (by omega) (by omega) (by omega),
      jsets_of (w2 := 2) (by omega) (by omega) (by omega), jsets_of (w2 := 2) (by omega) (by omega) (by omega), jsets_of (w2 := 2) (by omega) (by omega) (by omega), jsets_of (w2 := 3) (by omega) (by omega) (by omega), jsets_of (w2 := 3) (by omega) (by omega) (by omega), jsets_of (w2 := 3) (by omega) (by omega) (by omega),
      jsets_of (w2 := 5) (by omega) (by omega) (by omega), jsets_of (w2 := 5) (by omega) (by omega) (by omega), jsets_of (w2 := 5) (by omega) (by omega) (by omega)]
    refine ⟨h1, h2, h3, by rw [jm_n (by omega), jm_n (by omega)]; exact h4, h5, ?_⟩
    by_cases e : m = q
    · subst e
      exact Or.inl ⟨by rw [jsets_of (by omega) (by omega) (by omega), jsets_of (by omega) (by omega) (by omega), jsets_s], gu, gv, hu, hv, by rw [jm_n (by omega), jm_s], by rw [jsets_of (by omega) (by omega) (by omega), jsets_s], by rw [jm_s], by rw [jsets_s]⟩
    · rw [jsets_of (w2 := 4) (by omega) (by omega) (by omega), jsets_of (w2 := 4) (by omega) (by omega) (by omega), jsets_of (w2 := 4) (by omega) (by omega) (by omega), jsets_of (w2 := 6) (by omega) (by omega) (by omega), jsets_of (w2 := 6) (by omega) (by omega) (by omega), jsets_of (w2 := 6) (by omega) (by omega) (by omega), jsets_of (w2 := 7) (by omega) (by omega) (by omega), jsets_of (w2 := 7) (by omega) (by omega) (by omega), jsets_of (w2 := 7) (by omega) (by omega) (by omega),
        jm_n (show ¬ (5 = 6 ∧ m = q) by omega), jm_n (show ¬ (5 = 5 ∧ m = q) by omega), jm_n (show ¬ (6 = 6 ∧ m = q) by omega), jm_n (show ¬ (6 = 5 ∧ m = q) by omega)]
      exact h6
theorem now_back {t q : Nat} {X N : MM} (h : rL t true (lgC X 1) (N 95)) (hq : q < nT t) : rL t true (lgC (jsetg X 1 (nI q) (-1) (-1)) 1) (gBackS N q 95) := by
  have hn := nT_le h.1
  rw [jsetg_nI (by omega)]
  refine rL_up h (fun k _ => ?_) (fun i _ => ?_) (fun i _ => ?_) (fun k hk => ?_) (fun m hm hh => ?_)
  · show jm (jm X 5 q _) 6 q _ 1 k = X 1 k; rw [jm_n (by omega), jm_n (by omega)]
  · show jm (jm X 5 q _) 6 q _ 2 i = X 2 i; rw [jm_n (by omega), jm_n (by omega)]
  · show jm (jm X 5 q _) 6 q _ 3 i = X 3 i; rw [jm_n (by omega), jm_n (by omega)]
  · unfold gBackS; rw [jsets_n (by omega), jsets_n (by omega), jsets_n (by omega)]
  · rw [mt_of] at hh ⊢
    obtain ⟨h1, h2, h3, h4, h5, h6⟩ := hh
    unfold gBackS
    rw [jsets_of (w2 := 0) (by omega) (by omega) (by omega), jsets_of (w2 := 0) (by omega) (by omega) (by omega), jsets_of (w2 := 0) (by omega) (by omega) (by omega), jsets_of (w2 := 1) (by omega) (by omega) (by omega), jsets_of (w2 := 1) (by omega) (by omega) (by omega), jsets_of (w2 := 1) (by omega) (by omega) (by omega),
      jsets_of (w2 := 2) (by omega) (by omega) (by omega), jsets_of (w2 := 2) (by omega) (by omega) (by omega), jsets_of (w2 := 2) (by omega) (by omega) (by omega), jsets_of (w2 := 3) (by omega) (by omega) (by omega), jsets_of (w2 := 3) (by omega) (by omega) (by omega), jsets_of (w2 := 3) (by omega) (by omega) (by omega),
      jsets_of (w2 := 5) (by omega) (by omega) (by omega), jsets_of (w2 := 5) (by omega) (by omega) (by omega), jsets_of (w2 := 5) (by omega) (by omega) (by omega)]
    refine ⟨h1, h2, h3, by rw [jm_n (by omega), jm_n (by omega)]; exact h4, h5, ?_⟩
    by_cases e : m = q
    · subst e
      exact Or.inr ⟨by rw [jsets_of (by omega) (by omega) (by omega), jsets_of (by omega) (by omega) (by omega), jsets_s], by rw [jm_n (by omega), jm_s], by rw [jm_s]⟩
    · rw [jsets_of (w2 := 4) (by omega) (by omega) (by omega), jsets_of (w2 := 4) (by omega) (by omega) (by omega), jsets_of (w2 := 4) (by omega) (by omega) (by omega), jsets_of (w2 := 6) (by omega) (by omega) (by omega), jsets_of (w2 := 6) (by omega) (by omega) (by omega), jsets_of (w2 := 6) (by omega) (by omega) (by omega), jsets_of (w2 := 7) (by omega) (by omega) (by omega), jsets_of (w2 := 7) (by omega) (by omega) (by omega), jsets_of (w2 := 7) (by omega) (by omega) (by omega),
        jm_n (show ¬ (5 = 6 ∧ m = q) by omega), jm_n (show ¬ (5 = 5 ∧ m = q) by omega), jm_n (show ¬ (6 = 6 ∧ m = q) by omega), jm_n (show ¬ (6 = 5 ∧ m = q) by omega)]
      exact h6
theorem now_put {t q w e : Nat} {X N : MM} (h : rL t true (lgC X 1) (N 95)) (hq : q < nT t) (hw : X 1 3 = nI w) (hw2 : N 95 2 = nI w) (he : 1 ≤ e) (hz : w + e < wT t) (h2 : jof N q 2 = nI w) : rL t true (lgC (jput 56 X 4 (nI q) (X 1 3 + nI e)) 1) (gPutS N q (nI e) 95) := by
  have hn := nT_le h.1
  have hw14 := wT_le h.1
  rw [jput_nI (by omega) (by decide), hw]
  unfold gPutS
  rw [hw2, nI_add]
  refine rL_up h (fun k _ => ?_) (fun i _ => ?_) (fun i _ => ?_) (fun k hk => ?_) (fun m hm hh => ?_)
  · show jm X 4 q _ 1 k = X 1 k; rw [jm_n (by omega)]
  · show jm X 4 q _ 2 i = X 2 i; rw [jm_n (by omega)]
  · show jm X 4 q _ 3 i = X 3 i; rw [jm_n (by omega)]
  · rw [jsets_n (by omega), jsets_n (by omega)]
  · rw [mt_of] at hh ⊢
    obtain ⟨h1, h3, h4, h5, ⟨w0, w1, k1, k2, k3, k4, k5⟩, h6⟩ := hh
    rw [jsets_of (w2 := 0) (by omega) (by omega) (by omega), jsets_of (w2 := 0) (by omega) (by omega) (by omega), jsets_of (w2 := 1) (by omega) (by omega) (by omega), jsets_of (w2 := 1) (by omega) (by omega) (by omega), jsets_of (w2 := 3) (by omega) (by omega) (by omega), jsets_of (w2 := 3) (by omega) (by omega) (by omega), jsets_of (w2 := 4) (by omega) (by omega) (by omega), jsets_of (w2 := 4) (by omega) (by omega) (by omega),
      jsets_of (w2 := 6) (by omega) (by omega) (by omega), jsets_of (w2 := 6) (by omega) (by omega) (by omega), jsets_of (w2 := 7) (by omega) (by omega) (by omega), jsets_of (w2 := 7) (by omega) (by omega) (by omega), jm_n (show ¬ (5 = 4 ∧ m = q) by omega), jm_n (show ¬ (6 = 4 ∧ m = q) by omega)]
    refine ⟨h1, h3, h4, ?_, ?_, h6⟩
    · by_cases e1 : m = q
      · subst e1; rw [jm_s, jsets_of (by omega) (by omega) (by omega), jsets_s]
      · rw [jm_n (by omega), jsets_of (by omega) (by omega) (by omega), jsets_of (by omega) (by omega) (by omega)]; exact h5
    · by_cases e1 : m = q
      · subst e1
        have e2 : w1 = w := (nI_eq (by omega) (by omega)).mp (k2.symm.trans h2)
        subst e2
        exact ⟨w0, w1 + e, k1, by rw [jsets_of (by omega) (by omega) (by omega), jsets_s], by omega, hz, by rw [jsets_s, if_neg (by omega)]⟩
      · rw [jsets_of (w2 := 2) (by omega) (by omega) (by omega), jsets_of (w2 := 2) (by omega) (by omega) (by omega), jsets_of (w2 := 5) (by omega) (by omega) (by omega), jsets_of (w2 := 5) (by omega) (by omega) (by omega)]
        exact ⟨w0, w1, k1, k2, k3, k4, k5⟩
theorem now_next {t w : Nat} {X N : MM} (h : rL t true (lgC X 1) (N 95)) (hw : X 1 3 = nI w) (hw2 : N 95 2 = nI w) (hz : w + 1 < wT t) : rL t true (lgC (jm X 1 3 (X 1 3 + 1)) 1) (jm N 95 2 (N 95 2 + 1) 95) := by
  obtain ⟨a1, a2, a3, a4, a5, a6, a7, a8, -, ⟨q, c1, c2, c3⟩, ⟨q2, d1, d2, d3⟩, ⟨c, e1, e2, e3, e4⟩, f⟩ := h
  have hA : ∀ i k, ¬ (i = 1 ∧ k = 3) → jm X 1 3 (X 1 3 + 1) i k = X i k := fun i k hh => jm_n hh
  have hB : ∀ k, k ≠ 2 → jm N 95 2 (N 95 2 + 1) 95 k = N 95 k := fun k hh => jm_n (by omega)
  refine ⟨a1, (hA 1 0 (by omega)).trans a2, (hB 0 (by omega)).trans a3, fun i hi => ?_, a5, (hA 1 2 (by omega)).trans a6, (hB 1 (by omega)).trans a7, (hB 9 (by omega)).trans a8, ⟨w + 1, ?_, ?_, ?_, fun _ => hz⟩, ⟨q, c1, (hA 1 4 (by omega)).trans c2, (hB 3 (by omega)).trans c3⟩, ⟨q2, d1, (hA 1 5 (by omega)).trans d2, (hB 4 (by omega)).trans d3⟩, ⟨c, e1, (hA 1 6 (by omega)).trans e2, (hB 5 (by omega)).trans e3, fun i hi => ?_⟩, fun m hm => ?_⟩
  · rw [hB (10 + i) (by omega)]; exact (hA 2 i (by omega)).trans (a4 i hi)
  · intro z; cases z
  · show jm X 1 3 (X 1 3 + 1) 1 3 = _; rw [jm_s, hw, nI_1]
  · show jm N 95 2 (N 95 2 + 1) 95 2 = _; rw [jm_s, hw2, nI_1]
  · show jm X 1 3 (X 1 3 + 1) 3 i = _ ∧ r04 (jm X 1 3 (X 1 3 + 1) 3 i)
    rw [hA 3 i (by omega), hB (6 + i) (by omega)]; exact e4 i hi
  · have hm := f m hm
    unfold mtR at hm ⊢
    rw [hB _ (by omega), hB _ (by omega), hB _ (by omega), hB _ (by omega), hB _ (by omega), hB _ (by omega), hB _ (by omega), hB _ (by omega)]
    show _ ∧ _ ∧ _ ∧ jm X 1 3 _ 4 m = _ ∧ _ ∧ ((_ ∧ ∃ g h : Nat, g ≤ 20 ∧ h ≤ 20 ∧ jm X 1 3 _ 5 m = nI g ∧ _ ∧ jm X 1 3 _ 6 m = nI h ∧ _) ∨ (_ ∧ jm X 1 3 _ 5 m = -1 ∧ jm X 1 3 _ 6 m = -1))
    rw [hA 4 m (by omega), hA 5 m (by omega), hA 6 m (by omega)]
    exact hm
/-- rules: what one more does on both sides -/
def rRu (X N : MM) (c : Nat) : Prop := X 1 6 = nI c ∧ N 95 5 = nI c ∧ ∀ i, i < c → X 3 i = N 95 (6 + i) ∧ r04 (X 3 i)
theorem r04_of {t : Int32} (h : ¬ t < -1 ∧ ¬ 4 < t) (h2 : ¬ t = -1) : r04 t ∧ ¬ t < 0 := by
  have h0 : ¬ t < 0 := by
    intro q
    rw [Int32.lt_iff_toInt_lt] at q
    have h1 := h.1
    rw [Int32.lt_iff_toInt_lt, show (-1 : Int32).toInt = -1 from rfl] at h1
    rw [Int32.toInt_zero] at q
    exact h2 (Int32.toInt_inj.mp (by rw [show (-1 : Int32).toInt = -1 from rfl]; omega))
  obtain ⟨j, hj, rfl⟩ := nI_of2 (M := 4) (n := 4) rfl h0 (Int32.not_lt.mp h.2)
  refine ⟨?_, h0⟩
  rcases (show j = 0 ∨ j = 1 ∨ j = 2 ∨ j = 3 ∨ j = 4 by omega) with rfl | rfl | rfl | rfl | rfl
  · exact Or.inl rfl
  · exact Or.inr (Or.inl rfl)
  · exact Or.inr (Or.inr (Or.inl rfl))
  · exact Or.inr (Or.inr (Or.inr (Or.inl rfl)))
  · exact Or.inr (Or.inr (Or.inr (Or.inr rfl)))
theorem rRu_s {X N : MM} {c i : Nat} {t : Int32} (h : rRu X N c) (hc : c ≤ i) (hi : i ≤ 2) (ht : ¬ t < -1 ∧ ¬ 4 < t) : ∃ c2, c2 ≤ i + 1 ∧ rRu (jaddr X 1 t) (jxr N t) c2 := by
  obtain ⟨h1, h2, h3⟩ := h
  by_cases e : t = -1
  · refine ⟨c, by omega, ?_⟩
    rw [jaddr, if_pos e, jxr, if_pos (by rw [e]; decide)]
    exact ⟨h1, h2, h3⟩
  · obtain ⟨hr, h0⟩ := r04_of ht e
    refine ⟨c + 1, by omega, ?_⟩
    rw [jaddr, if_neg e, jxr, if_neg h0, h1, h2, jput_nI (by omega) (by decide), nI_clamp (by omega)]
    refine ⟨by rw [jm_s, nI_1], by rw [jm_n (by omega), jm_s, nI_1], fun k hk => ?_⟩
    rw [jm_n (by omega)]
    by_cases ek : k = c
    · subst ek; rw [jm_s, jm_s]; exact ⟨rfl, hr⟩
    · rw [jm_n (by omega), jm_n (by omega), jm_n (by omega)]; exact h3 k (by omega)
theorem now_rules {T : Nat} {dr : Bool} {X N : MM} {t u v : Int32} (h : rL T dr (lgC X 1) (N 95)) (hr : rRules t u v = none) : rL T dr (lgC (jsetr X 1 t u v) 1) (jxR N t u v 95) ∧ jsetr X 1 t u v 1 6 = jxR N t u v 95 5 := by
  have hok : (¬ t < -1 ∧ ¬ 4 < t) ∧ (¬ u < -1 ∧ ¬ 4 < u) ∧ (¬ v < -1 ∧ ¬ 4 < v) := by
    unfold rRules at hr
    by_cases q : ¬ ((¬ t < -1 ∧ ¬ 4 < t) ∧ (¬ u < -1 ∧ ¬ 4 < u) ∧ (¬ v < -1 ∧ ¬ 4 < v))
    · rw [if_pos q] at hr; cases hr
    · exact Decidable.not_not.mp q
  have s0 : rRu (jm X 1 6 0) (jm N 95 5 0) 0 := ⟨jm_s, jm_s, fun i hi => absurd hi (Nat.not_lt_zero i)⟩
  obtain ⟨c1, k1, s1⟩ := rRu_s s0 (Nat.le_refl 0) (by omega) hok.1
  obtain ⟨c2, k2, s2⟩ := rRu_s s1 k1 (by omega) hok.2.1
  obtain ⟨c3, k3, s3⟩ := rRu_s s2 k2 (by omega) hok.2.2
  obtain ⟨e2, e3, e4⟩ := s3
  obtain ⟨a1, a2, a3, a4, a5, a6, a7, a8, ⟨w, b1, b2, b3, b4⟩, ⟨q, f1, f2, f3⟩, ⟨q2, d1, d2, d3⟩, -, f⟩ := h
  have hA1 : ∀ (Z : MM) (t : Int32) (i k : Nat), ¬ (i = 1 ∧ k = 6) → i ≠ 3 → jaddr Z 1 t i k = Z i k := fun Z t i k p1 p2 => by
    unfold jaddr
    split
    · rfl
    · rw [jm_n p1, m_put (by omega)]
  have hA : ∀ i k, ¬ (i = 1 ∧ k = 6) → i ≠ 3 → jsetr X 1 t u v i k = X i k := fun i k p1 p2 => by
    unfold jsetr
    rw [hA1 _ _ _ _ p1 p2, hA1 _ _ _ _ p1 p2, hA1 _ _ _ _ p1 p2, jm_n p1]
  have hB : ∀ k, k < 5 ∨ 8 < k → jxR N t u v 95 k = N 95 k := fun k p => jxR_n (by omega)
  refine ⟨⟨a1, (hA 1 0 (by omega) (by omega)).trans a2, (hB 0 (by omega)).trans a3, fun i hi => ?_, a5, (hA 1 2 (by omega) (by omega)).trans a6, (hB 1 (by omega)).trans a7, (hB 9 (by omega)).trans a8, ⟨w, b1, (hA 1 3 (by omega) (by omega)).trans b2, (hB 2 (by omega)).trans b3, b4⟩, ⟨q, f1, (hA 1 4 (by omega) (by omega)).trans f2, (hB 3 (by omega)).trans f3⟩, ⟨q2, d1, (hA 1 5 (by omega) (by omega)).trans d2, (hB 4 (by omega)).trans d3⟩, ⟨c3, by omega, e2, e3, e4⟩, fun m hm => ?_⟩, ?_⟩
  · rw [hB (10 + i) (by omega)]; exact (hA 2 i (by omega) (by omega)).trans (a4 i hi)
  · have hm := f m hm
    unfold mtR at hm ⊢
    rw [hB _ (by omega), hB _ (by omega), hB _ (by omega), hB _ (by omega), hB _ (by omega), hB _ (by omega), hB _ (by omega), hB _ (by omega)]
    show _ ∧ _ ∧ _ ∧ jsetr X 1 t u v 4 m = _ ∧ _ ∧ ((_ ∧ ∃ g h : Nat, g ≤ 20 ∧ h ≤ 20 ∧ jsetr X 1 t u v 5 m = nI g ∧ _ ∧ jsetr X 1 t u v 6 m = nI h ∧ _) ∨ (_ ∧ jsetr X 1 t u v 5 m = -1 ∧ jsetr X 1 t u v 6 m = -1))
    rw [hA 4 m (by omega) (by omega), hA 5 m (by omega) (by omega), hA 6 m (by omega) (by omega)]
    exact hm
  · exact e2.trans e3.symm
