/-! ===== refusals and counts: class and reference alike ===== -/
theorem in_q1 {x : Int32} {n : Nat} (hn : n < 2 ^ 31) : (¬ x < 0 ∧ ¬ nI n ≤ x) ↔ ∃ q, q < n ∧ x = nI q := by
  constructor
  · intro h
    rcases pk_ix x hn with k | k | ⟨j, hj, rfl⟩
    · exact absurd k h.1
    · exact absurd k h.2
    · exact ⟨j, hj, rfl⟩
  · rintro ⟨q, h1, rfl⟩
    exact ⟨nI_pos (by omega), nI_ge h1 hn⟩
theorem in_q2 {x : Int32} {n : Nat} (hn : n ≤ 56) : (¬ x < 0 ∧ ¬ nI n - 1 < x) ↔ ∃ q, q < n ∧ x = nI q := by
  constructor
  · exact nI_q hn
  · rintro ⟨q, h1, rfl⟩
    refine ⟨nI_pos (by omega), ?_⟩
    obtain ⟨k, rfl⟩ : ∃ k, n = k + 1 := ⟨n - 1, by omega⟩
    rw [nI_pred]
    exact nI_nlt (by omega) (by omega)
section SAME
variable {t : Nat} {dr : Bool} {A B : MM}
theorem jmc_r (h : rL t dr (lgC A 1) (B 95)) (hf : dr = true → rFix t A) : jmc A = nI (nn t dr) := by
  obtain ⟨a1, a2, a3, a4, a5, a6, -⟩ := h
  have a6 : A 1 2 = (if dr = true then 1 else 0) := a6
  cases dr with
  | false => unfold jmc; rw [show A 1 2 = 0 from a6, if_pos rfl]; rfl
  | true => unfold jmc; rw [a6, if_neg (by decide)]; exact (hf rfl).2.1
theorem jwc_r (h : rL t dr (lgC A 1) (B 95)) (hf : dr = true → rFix t A) : jwc A = nI (zz t dr) := by
  obtain ⟨a1, a2, a3, a4, a5, a6, -⟩ := h
  have a6 : A 1 2 = (if dr = true then 1 else 0) := a6
  cases dr with
  | false => unfold jwc; rw [show A 1 2 = 0 from a6, if_pos rfl]; rfl
  | true => unfold jwc; rw [a6, if_neg (by decide)]; exact (hf rfl).1
theorem wT_pos (h : 2 ≤ t) : 2 ≤ wT t := by unfold wT gP; omega
theorem zz_0 (ht : t ≤ 8) (h2 : dr = true → 2 ≤ t) : (nI (zz t dr) = 0 ↔ dr = false) ∧ (¬ nI (zz t dr) ≤ 0 ↔ dr = true) := by
  have h14 := zz_le (dr := dr) ht
  cases dr with
  | false => exact ⟨⟨fun _ => rfl, fun _ => rfl⟩, ⟨fun h => absurd (show nI 0 ≤ 0 by decide) h, fun h => by cases h⟩⟩
  | true =>
    have := wT_pos (h2 rfl)
    have e : zz t true = wT t := rfl
    rw [e] at h14 ⊢
    exact ⟨⟨fun h => absurd h (nI_ne0 (by omega) (by omega)), fun h => by cases h⟩, ⟨fun _ => rfl, fun _ => nI_nle (by omega) (by omega)⟩⟩
theorem mt_q (h : rL t true (lgC A 1) (B 95)) {q : Nat} (hq : q < nT t) : ((¬ A 5 q = -1) ↔ jof B q 4 = 1) ∧ A 4 q = jof B q 2 := by
  have hm := mt_of.mp (h.2.2.2.2.2.2.2.2.2.2.2.2 q hq)
  obtain ⟨h1, h2, h3, h4, h5, h6⟩ := hm
  refine ⟨?_, h4⟩
  rcases h6 with ⟨k, g, h, g1, g2, g3, -⟩ | ⟨k, g3, -⟩
  · exact ⟨fun _ => k, fun _ => by rw [g3]; exact nI_nm1 (by omega)⟩
  · exact ⟨fun z => absurd g3 z, fun z => by rw [k] at z; exact absurd z (by decide)⟩
theorem wk_r (h : rL t dr (lgC A 1) (B 95)) : A 1 3 = B 95 2 := by
  obtain ⟨w, -, h1, h2, -⟩ := h.2.2.2.2.2.2.2.2.1
  exact (show A 1 3 = nI w from h1).trans h2.symm
theorem noM_r (h : rL t dr (lgC A 1) (B 95)) (hf : dr = true → rFix t A) {x : Int32} : (dr = false ∧ rNoM A x = some (5, 0) ∧ ∀ q, gNo B x q = some (5, 0)) ∨ (dr = true ∧ (¬ ∃ q, q < nT t ∧ x = nI q) ∧ rNoM A x = some (3, x) ∧ ∀ q, gNo B x q = some (3, x)) ∨ (dr = true ∧ ∃ q, q < nT t ∧ x = nI q ∧ rNoM A x = none ∧ ∀ z, gNo B x z = z) := by
  have hj := jmc_r h hf
  have hz := zz_0 h.1 h.2.2.2.2.1
  have b1 : B 95 1 = nI (zz t dr) := h.2.2.2.2.2.2.1
  have b9 : B 95 9 = nI (nn t dr) := h.2.2.2.2.2.2.2.1
  have a6 : A 1 2 = (if dr = true then 1 else 0) := h.2.2.2.2.2.1
  have hn := nn_le (dr := dr) h.1
  cases dr with
  | false =>
    refine Or.inl ⟨rfl, ?_, fun q => ?_⟩
    · unfold rNoM; rw [show A 1 2 = 0 from a6, if_pos rfl]
    · unfold gNo; rw [b1, if_pos (hz.1.mpr rfl)]
  | true =>
    have e : nn t true = nT t := rfl
    rw [e] at hj b9 hn
    have hA : ¬ A 1 2 = 0 := by rw [a6]; decide
    have hB : ¬ B 95 1 = 0 := by rw [b1]; exact fun q => by cases hz.1.mp q
    by_cases hx : ∃ q, q < nT t ∧ x = nI q
    · obtain ⟨q, h1, h2⟩ := hx
      refine Or.inr (Or.inr ⟨rfl, q, h1, h2, ?_, fun z => ?_⟩)
      · unfold rNoM; rw [if_neg hA, hj, if_neg (fun z => z ((in_q1 (by omega)).mpr ⟨q, h1, h2⟩))]
      · unfold gNo; rw [if_neg hB, b9, if_neg (fun z => z ((in_q2 hn).mpr ⟨q, h1, h2⟩))]
    · refine Or.inr (Or.inl ⟨rfl, hx, ?_, fun z => ?_⟩)
      · unfold rNoM; rw [if_neg hA, hj, if_pos (fun z => hx ((in_q1 (by omega)).mp z))]
      · unfold gNo; rw [if_neg hB, b9, if_pos (fun z => hx ((in_q2 hn).mp z))]
theorem res_r (h : rL t dr (lgC A 1) (B 95)) (hf : dr = true → rFix t A) {x u v : Int32} : rRes A x u v = gNo B x (gRes B x.toNatClampNeg u v) := by
  unfold rRes
  rcases noM_r h hf (x := x) with ⟨h1, h2, h3⟩ | ⟨h1, -, h2, h3⟩ | ⟨h1, q, hq, hx, h2, h3⟩
  · rw [h2, h3]
  · rw [h2, h3]
  · subst h1
    subst hx
    have hn := nT_le h.1
    obtain ⟨m1, m2⟩ := mt_q h hq
    rw [h2, h3, nI_clamp (by omega)]
    show (if _ then _ else if ¬ jat 56 (A 5) (nI q) = -1 then _ else rOth A (nI q)) = _
    unfold gRes rOth
    rw [jat_nI (by omega) (by decide), jat_nI (by omega) (by decide), m2, wk_r h]
    by_cases c1 : ¬ ((¬ u < 0 ∧ ¬ 20 < u) ∧ (¬ v < 0 ∧ ¬ 20 < v))
    · rw [if_pos c1, if_pos c1]
    · rw [if_neg c1, if_neg c1]
      by_cases c2 : ¬ A 5 q = -1
      · rw [if_pos c2, if_pos (m1.mp c2)]
      · rw [if_neg c2, if_neg (fun z => c2 (m1.mpr z))]
        by_cases c3 : jof B q 2 = B 95 2
        · rw [if_pos c3, if_neg (fun z => z c3)]
        · rw [if_neg c3, if_pos c3]
theorem kind_r (h : rL t true (lgC A 1) (B 95)) (hf : rFix t A) {q : Nat} (hq : q < nT t) : jkind A (nI q) = jhow B q := by
  have hn := nT_le h.1
  have hw := wT_le h.1
  obtain ⟨m1, m2⟩ := mt_q h hq
  have hm := mt_of.mp (h.2.2.2.2.2.2.2.2.2.2.2.2 q hq)
  obtain ⟨h1, h2, h3, h4, ⟨w0, w1, k1, k2, k3, k4, k5⟩, h6⟩ := hm
  unfold jkind jhow
  rw [jat_nI (by omega) (by decide), jat_nI (by omega) (by decide), jat_nI (by omega) (by decide)]
  by_cases c2 : ¬ A 5 q = -1
  · rw [if_pos c2, if_pos (m1.mp c2)]
  · rw [if_neg c2, if_neg (fun z => c2 (m1.mpr z)), k5, m2, k2, (hf.2.2.1 q hq).2.2, k1]
    by_cases e : w0 = w1
    · rw [if_pos (by rw [e]), if_pos e]; rfl
    · rw [if_neg (fun z => e ((nI_eq (by omega) (by omega)).mp z).symm), if_neg e]; rfl
theorem back_r (h : rL t dr (lgC A 1) (B 95)) (hf : dr = true → rFix t A) {x : Int32} : rBack A x = gNo B x (gBack B x.toNatClampNeg) := by
  unfold rBack
  rcases noM_r h hf (x := x) with ⟨h1, h2, h3⟩ | ⟨h1, -, h2, h3⟩ | ⟨h1, q, hq, hx, h2, h3⟩
  · rw [h2, h3]
  · rw [h2, h3]
  · subst h1
    subst hx
    have hn := nT_le h.1
    obtain ⟨m1, m2⟩ := mt_q h hq
    rw [h2, h3, nI_clamp (by omega)]
    show (if jat 56 (A 5) (nI q) = -1 then some (9, jkind A (nI q)) else rOth A (nI q)) = _
    unfold gBack rOth
    rw [jat_nI (by omega) (by decide), jat_nI (by omega) (by decide), m2, wk_r h, kind_r h (hf rfl) hq]
    by_cases c2 : A 5 q = -1
    · rw [if_pos c2, if_pos (show ¬ jof B q 4 = 1 from fun z => m1.mpr z c2)]
    · rw [if_neg c2, if_neg (show ¬ ¬ jof B q 4 = 1 from fun z => z (m1.mp c2))]
      by_cases c3 : jof B q 2 = B 95 2
      · rw [if_pos c3, if_neg (fun z => z c3)]
      · rw [if_neg c3, if_pos c3]
theorem isW_r (h : rL t dr (lgC A 1) (B 95)) (hf : dr = true → rFix t A) {x : Int32} : (¬ x < 0 ∧ ¬ jwc A ≤ x) ↔ (¬ x < 0 ∧ ¬ B 95 1 - 1 < x) := by
  have h14 := zz_le (dr := dr) h.1
  rw [jwc_r h hf, show B 95 1 = nI (zz t dr) from h.2.2.2.2.2.2.1, in_q1 (by omega), in_q2 (by omega)]
theorem le_9 {u : Int32} : (u < 1 ∨ ¬ u ≤ 9) ↔ ¬ (¬ u < 1 ∧ ¬ 9 < u) := by
  rw [Int32.not_le]
  constructor
  · rintro (h | h) ⟨h1, h2⟩
    · exact h1 h
    · exact h2 h
  · intro h
    by_cases c : u < 1
    · exact Or.inl c
    · exact Or.inr (Decidable.byContradiction fun z => h ⟨c, z⟩)
theorem put_r (h : rL t dr (lgC A 1) (B 95)) (hf : dr = true → rFix t A) {x u : Int32} : rPut A x u = gNo B x (gPut B x.toNatClampNeg u) := by
  unfold rPut
  rcases noM_r h hf (x := x) with ⟨h1, h2, h3⟩ | ⟨h1, -, h2, h3⟩ | ⟨h1, q, hq, hx, h2, h3⟩
  · rw [h2, h3]
  · rw [h2, h3]
  · subst h1
    subst hx
    have hn := nT_le h.1
    obtain ⟨m1, m2⟩ := mt_q h hq
    rw [h2, h3, nI_clamp (by omega)]
    show (if u < 1 ∨ ¬ u ≤ 9 then some (1, 0) else if ¬ jat 56 (A 5) (nI q) = -1 then some (8, 0) else match rOth A (nI q) with
    | some z => some z
    | none => if ¬ (¬ A 1 3 + u < 0 ∧ ¬ jwc A ≤ A 1 3 + u) then some (10, A 1 3 + u) else none) = _
    unfold gPut rOth
    rw [jat_nI (by omega) (by decide), jat_nI (by omega) (by decide), m2, wk_r h]
    have hw := isW_r h hf (x := B 95 2 + u)
    by_cases c1 : u < 1 ∨ ¬ u ≤ 9
    · rw [if_pos c1, if_pos (le_9.mp c1)]
    · rw [if_neg c1, if_neg (fun z => c1 (le_9.mpr z))]
      by_cases c2 : ¬ A 5 q = -1
      · rw [if_pos c2, if_pos (m1.mp c2)]
      · rw [if_neg c2, if_neg (fun z => c2 (m1.mpr z))]
        by_cases c3 : jof B q 2 = B 95 2
        · rw [if_pos c3, if_neg (show ¬ ¬ jof B q 2 = B 95 2 from fun z => z c3)]
          by_cases c4 : ¬ B 95 2 + u < 0 ∧ ¬ jwc A ≤ B 95 2 + u
          · rw [if_neg (show ¬ ¬ (¬ B 95 2 + u < 0 ∧ ¬ B 95 1 - 1 < B 95 2 + u) from fun z => z (hw.mp c4))]
            exact if_neg (show ¬ ¬ (¬ B 95 2 + u < 0 ∧ ¬ jwc A ≤ B 95 2 + u) from fun z => z c4)
          · rw [if_pos (show ¬ (¬ B 95 2 + u < 0 ∧ ¬ B 95 1 - 1 < B 95 2 + u) from fun z => c4 (hw.mpr z))]
            exact if_pos c4
        · rw [if_neg c3, if_pos c3]
theorem now_c (h : rL t dr (lgC A 1) (B 95)) {m : Nat} (hm : m < nn t dr) : fNow A m = gLeft B m := by
  unfold fNow gLeft
  cases dr with
  | false => exact absurd hm (Nat.not_lt_zero m)
  | true =>
    obtain ⟨m1, m2⟩ := mt_q h hm
    rw [m2, wk_r h]
    by_cases c : jof B m 2 = B 95 2 ∧ A 5 m = -1
    · rw [jb_t c, jb_t ⟨c.1, fun z => m1.mpr z c.2⟩]
    · rw [jb_f c, jb_f (fun z => c ⟨z.1, Decidable.byContradiction fun y => z.2 (m1.mp y)⟩)]
theorem left_r (h : rL t dr (lgC A 1) (B 95)) : jsum (fNow A) (nn t dr) = jsum (gLeft B) (nn t dr) := jsum_c fun m hm => now_c h hm
theorem next_r (h : rL t dr (lgC A 1) (B 95)) (hf : dr = true → rFix t A) : rNext A (nn t dr) = (if B 95 1 = 0 then some (5, 0) else gNext B (nn t dr)) := by
  have hz := zz_0 h.1 h.2.2.2.2.1
  have b1 : B 95 1 = nI (zz t dr) := h.2.2.2.2.2.2.1
  have a6 : A 1 2 = (if dr = true then 1 else 0) := h.2.2.2.2.2.1
  unfold rNext gNext
  cases dr with
  | false => rw [show A 1 2 = 0 from a6, if_pos rfl, b1, if_pos (hz.1.mpr rfl)]
  | true =>
    have h14 := wT_le h.1
    have h2 := wT_pos (h.2.2.2.2.1 rfl)
    obtain ⟨w, -, w1, w2, w3⟩ := h.2.2.2.2.2.2.2.2.1
    have w1 : A 1 3 = nI w := w1
    have w3 := w3 rfl
    have e : jfst (fNow A) (nn t true) = jfst (gLeft B) (nn t true) := jfst_c fun m hm => now_c h hm
    rw [if_neg (show ¬ A 1 2 = 0 by rw [a6]; decide), if_neg (show ¬ B 95 1 = 0 by rw [b1]; exact fun q => by cases hz.1.mp q), e, jwc_r h hf, b1, w1, w2, nI_1, show zz t true = wT t from rfl]
    have hnx : (¬ nI (w + 1) < 0 ∧ ¬ nI (wT t) ≤ nI (w + 1)) ↔ ¬ nI w = nI (wT t) - 1 := by
      obtain ⟨k, hk⟩ : ∃ k, wT t = k + 1 := ⟨wT t - 1, by omega⟩
      rw [hk, nI_pred, in_q1 (by omega), nI_eq (by omega) (by omega)]
      constructor
      · rintro ⟨q, q1, q2⟩
        have := (nI_eq (by omega) (by omega)).mp q2
        omega
      · intro hh
        exact ⟨w + 1, by omega, rfl⟩
    by_cases c1 : ¬ jfst (gLeft B) (nn t true) = -1
    · rw [if_pos c1, if_pos c1]
    · rw [if_neg c1, if_neg c1]
      by_cases c2 : nI w = nI (wT t) - 1
      · rw [if_pos c2]
        exact if_pos (fun z => hnx.mp z c2)
      · rw [if_neg c2]
        exact if_neg (fun z => z (hnx.mpr c2))
theorem home_r (h : rL t true (lgC A 1) (B 95)) {q : Nat} (hq : q < nT t) : ∃ i a : Nat, i < t ∧ a < t ∧ i ≠ a ∧ TB t q 0 = nI i ∧ TB t q 1 = nI a ∧ jof B q 0 = nI i ∧ jof B q 1 = nI a := by
  obtain ⟨i, a, w, h1, h2, h3, h4, h5, h6, -⟩ := TB_ok h.1 hq
  have hm := mt_of.mp (h.2.2.2.2.2.2.2.2.2.2.2.2 q hq)
  exact ⟨i, a, h1, h2, h3, h5, h6, hm.1.trans h5, hm.2.1.trans h6⟩
theorem hho_r (h : rL t dr (lgC A 1) (B 95)) : ∀ i, i < nn t dr → ∃ k, k < 8 ∧ jof B i 0 = nI k := fun i hi => by
  have ht := h.1
  cases dr with
  | false => exact absurd hi (Nat.not_lt_zero i)
  | true =>
    obtain ⟨k, a, h1, -, -, -, -, h2, -⟩ := home_r h hi
    exact ⟨k, by omega, h2⟩
theorem gr_r (h : rL t true (lgC A 1) (B 95)) (hf : rFix t A) {q : Nat} (hq : q < nT t) : jgr A (nI q) = gGr B q := by
  have hn := nT_le h.1
  have ht := h.1
  obtain ⟨k, a, h1, -, -, h2, -, h3, -⟩ := home_r h hq
  unfold jgr gGr
  rw [jat_nI (by omega) (by decide), (hf.2.2.1 q hq).1, h2, h3, jat_nI (by omega) (by decide), nI_clamp (by omega)]
  exact h.2.2.2.1 k (by omega)
theorem cl_r (h : rL t dr (lgC A 1) (B 95)) (hf : dr = true → rFix t A) {q : Nat} (hq : q < nn t dr) {w : Int32} : jsum (fCl A (nI q) w) (nn t dr) = jsum (gCl B q w) (nn t dr) := by
  refine jsum_c fun m hm => ?_
  have hn := nn_le (dr := dr) h.1
  unfold fCl gCl
  cases dr with
  | false => exact absurd hm (Nat.not_lt_zero m)
  | true =>
    rw [(mt_q h hm).2, gr_r h (hf rfl) hm, gr_r h (hf rfl) hq]
    by_cases c : ¬ m = q ∧ jof B m 2 = w ∧ gGr B m = gGr B q
    · rw [jb_t c, jb_t ⟨fun z => c.1 ((nI_eq (by omega) (by omega)).mp z), c.2⟩]
    · rw [jb_f c, jb_f (fun z => c ⟨fun y => z.1 (by rw [y]), z.2⟩)]
/-- how many are played -/
def fPl (A : MM) (m : Nat) : Int32 := if A 5 m = -1 then 0 else 1
theorem jt1_pl {M : MM} : ∀ n, jt1 M n 75 0 = jsum (fPl M) n
  | 0 => jclear_0
  | n + 1 => by
    rw [jt1, jsum, fPl]
    split
    · rw [jraise_n (by omega), jraise_n (by omega), jt1_pl n, Int32.add_zero]
    · rw [jpts_n (by omega)]
      unfold jap
      rw [jraise_n (by omega), jag_n (by omega), jag_n (by omega), jm_n (by omega), jm_n (by omega), jm_s, jt1_pl n]
theorem jcount_pl {M : MM} {n : Nat} : jcount M n 75 0 = jsum (fPl M) n := by
  unfold jcount
  rw [jt2_n (by omega), jt1_pl]
theorem pl_r (h : rL t dr (lgC A 1) (B 95)) : jsum (fPl A) (nn t dr) = jsum (fun m => jof B m 4) (nn t dr) := by
  refine jsum_c fun m hm => ?_
  cases dr with
  | false => exact absurd hm (Nat.not_lt_zero m)
  | true =>
    have hm1 := (mt_of.mp (h.2.2.2.2.2.2.2.2.2.2.2.2 m hm)).2.2.2.2.2
    unfold fPl
    rcases hm1 with ⟨k, g, i, g1, g2, g3, -⟩ | ⟨k, g3, -⟩
    · show _ = jof B m 4; rw [k, g3, if_neg (nI_nm1 (by omega))]
    · show _ = jof B m 4; rw [k, g3, if_pos rfl]
end SAME
