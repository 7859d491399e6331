/-! ===== one command on both sides ===== -/
section ONE
variable {t : Nat} {dr : Bool} {X N : MM}
theorem one_res {x u v : Int32} (h : rL t dr (lgC X 1) (N 95)) (hf : dr = true → rFix t X) (hr : rRes X x u v = none) : rL t dr (lgC (jsetg X 1 x u v) 1) (gResS N x.toNatClampNeg u v 95) := by
  have hRR := res_r h hf (x := x) (u := u) (v := v)
  rw [hr] at hRR
  rcases noM_r h hf (x := x) with ⟨h1, h2, h3⟩ | ⟨h1, h4, h2, h3⟩ | ⟨h1, q, hq, hx, h2, h3⟩
  · rw [h3] at hRR; cases hRR
  · rw [h3] at hRR; cases hRR
  · subst h1
    subst hx
    have hn := nT_le h.1
    rw [h3, nI_clamp (by omega)] at hRR
    have hr := hRR.symm
    have huv : (¬ u < 0 ∧ ¬ 20 < u) ∧ (¬ v < 0 ∧ ¬ 20 < v) := by
      apply Decidable.byContradiction
      intro z
      unfold gRes at hr
      rw [if_pos z] at hr
      cases hr
    obtain ⟨g1, k1, rfl⟩ := int_rng (u := u) (n := 20) (by decide) huv.1.1 huv.1.2
    obtain ⟨g2, k2, rfl⟩ := int_rng (u := v) (n := 20) (by decide) huv.2.1 huv.2.2
    rw [nI_clamp (by omega)]
    exact now_res h hq k1 k2
theorem one_back {x : Int32} (h : rL t dr (lgC X 1) (N 95)) (hf : dr = true → rFix t X) (hr : rBack X x = none) : rL t dr (lgC (jsetg X 1 x (-1) (-1)) 1) (gBackS N x.toNatClampNeg 95) := by
  have hRR := back_r h hf (x := x)
  rw [hr] at hRR
  rcases noM_r h hf (x := x) with ⟨h1, h2, h3⟩ | ⟨h1, h4, h2, h3⟩ | ⟨h1, q, hq, hx, h2, h3⟩
  · rw [h3] at hRR; cases hRR
  · rw [h3] at hRR; cases hRR
  · subst h1
    subst hx
    have hn := nT_le h.1
    rw [nI_clamp (by omega)]
    exact now_back h hq
theorem one_put {x u : Int32} (h : rL t dr (lgC X 1) (N 95)) (hf : dr = true → rFix t X) (hr : rPut X x u = none) : rL t dr (lgC (jput 56 X 4 x (X 1 3 + u)) 1) (gPutS N x.toNatClampNeg u 95) := by
  have hRR := put_r h hf (x := x) (u := u)
  rw [hr] at hRR
  rcases noM_r h hf (x := x) with ⟨h1, h2, h3⟩ | ⟨h1, h4, h2, h3⟩ | ⟨h1, q, hq, hx, h2, h3⟩
  · rw [h3] at hRR; cases hRR
  · rw [h3] at hRR; cases hRR
  · subst h1
    subst hx
    have hn := nT_le h.1
    rw [h3, nI_clamp (by omega)] at hRR
    have hr := hRR.symm
    obtain ⟨h1, h2, h3⟩ : (¬ u < 1 ∧ ¬ 9 < u) ∧ jof N q 2 = N 95 2 ∧ (¬ N 95 2 + u < 0 ∧ ¬ N 95 1 - 1 < N 95 2 + u) := by
      unfold gPut at hr
      by_cases z1 : ¬ (¬ u < 1 ∧ ¬ 9 < u)
      · rw [if_pos z1] at hr; cases hr
      · rw [if_neg z1] at hr
        by_cases z2 : jof N q 4 = 1
        · rw [if_pos z2] at hr; cases hr
        · rw [if_neg z2] at hr
          by_cases z3 : ¬ jof N q 2 = N 95 2
          · rw [if_pos z3] at hr; cases hr
          · rw [if_neg z3] at hr
            by_cases z4 : ¬ (¬ N 95 2 + u < 0 ∧ ¬ N 95 1 - 1 < N 95 2 + u)
            · rw [if_pos z4] at hr; cases hr
            · exact ⟨Decidable.not_not.mp z1, Decidable.not_not.mp z3, Decidable.not_not.mp z4⟩
    obtain ⟨e, k1, rfl⟩ := int_rng (u := u) (n := 9) (by decide) (fun z => h1.1 (Int32.lt_trans z (by decide))) h1.2
    have he : 1 ≤ e := by
      rcases Nat.eq_zero_or_pos e with z | z
      · subst z; exact absurd (by decide) h1.1
      · exact z
    obtain ⟨w, -, w1, w2, w3⟩ := id h.2.2.2.2.2.2.2.2.1
    have w1 : X 1 3 = nI w := w1
    have hw3 := w3 rfl
    have hw14 := wT_le h.1
    have h951 : N 95 1 = nI (zz t true) := h.2.2.2.2.2.2.1
    have hwe : w + e < wT t := by
      rw [w2, h951, nI_add, in_q2 (show zz t true ≤ 56 by show wT t ≤ 56; omega)] at h3
      obtain ⟨q', y1, y2⟩ := h3
      have y1 : q' < wT t := y1
      have := (nI_eq (by omega) (by omega)).mp y2
      omega
    rw [nI_clamp (by omega)]
    exact now_put h hq w1 w2 he hwe (h2.trans w2)
theorem one_next (h : rL t dr (lgC X 1) (N 95)) (hf : dr = true → rFix t X) (hr : rNext X (nn t dr) = none) : rL t dr (lgC (jm X 1 3 (X 1 3 + 1)) 1) (jm N 95 2 (N 95 2 + 1) 95) := by
  have hRR := next_r h hf
  rw [hr] at hRR
  have h951 : N 95 1 = nI (zz t dr) := h.2.2.2.2.2.2.1
  have hz := zz_0 h.1 h.2.2.2.2.1
  cases dr with
  | false => rw [if_pos (by rw [h951]; rfl)] at hRR; cases hRR
  | true =>
    rw [if_neg (fun z => hz.2.mpr rfl (by rw [← h951, z]; exact Int32.le_refl 0))] at hRR
    have hr := hRR.symm
    obtain ⟨w, -, w1, w2, w3⟩ := id h.2.2.2.2.2.2.2.2.1
    have w1 : X 1 3 = nI w := w1
    have hw3 := w3 rfl
    have hw14 := wT_le h.1
    have hw1 : w + 1 < wT t := by
      have hne : ¬ N 95 2 = N 95 1 - 1 := by
        intro z
        unfold gNext at hr
        by_cases y : ¬ jfst (gLeft N) (nn t true) = -1
        · rw [if_pos y] at hr; cases hr
        · rw [if_neg y, if_pos z] at hr; cases hr
      rw [w2, h951, show zz t true = wT t from rfl] at hne
      obtain ⟨k1, hk1⟩ : ∃ k1, wT t = k1 + 1 := ⟨wT t - 1, by omega⟩
      rw [hk1, nI_pred, nI_eq (by omega) (by omega)] at hne
      omega
    exact now_next h w1 w2 hw1
theorem carry_ref {u v w z v2 w2 z2 : Int32} (h : rL t dr (lgC X 1) (N 95)) (hf : dr = true → rFix t X) (e1 : ¬ u = 110 → v2 = v) (e2 : u = 109 ∨ u = 111 ∨ u = 116 → w2 = w) (e3 : u = 109 ∨ u = 116 → z2 = z) (hl : isLet u) : cref X (nn t dr) u v w z = gcref N (nn t dr) u v2 w2 z2 := by
  unfold cref gcref
  rcases hl with rfl | rfl | rfl | rfl | rfl
  · rw [if_pos rfl, if_pos rfl, e1 (by decide), e2 (Or.inl rfl), e3 (Or.inl rfl)]; exact res_r h hf
  · rw [if_neg (by decide), if_pos rfl, if_neg (by decide), if_pos rfl, e1 (by decide)]; exact back_r h hf
  · rw [if_neg (by decide), if_neg (by decide), if_pos rfl, if_neg (by decide), if_neg (by decide), if_pos rfl, e1 (by decide), e2 (Or.inr (Or.inl rfl))]; exact put_r h hf
  · rw [if_neg (by decide), if_neg (by decide), if_neg (by decide), if_pos rfl, if_neg (by decide), if_neg (by decide), if_neg (by decide), if_pos rfl]; exact next_r h hf
  · rw [if_neg (by decide), if_neg (by decide), if_neg (by decide), if_neg (by decide), if_neg (by decide), if_neg (by decide), if_neg (by decide), if_neg (by decide), e1 (by decide), e2 (Or.inr (Or.inr rfl)), e3 (Or.inr rfl)]
theorem carry_app {u v w z v2 w2 z2 : Int32} (h : rL t dr (lgC X 1) (N 95)) (hf : dr = true → rFix t X) (e1 : ¬ u = 110 → v2 = v) (e2 : u = 109 ∨ u = 111 ∨ u = 116 → w2 = w) (e3 : u = 109 ∨ u = 116 → z2 = z) (hl : isLet u) (hr : cref X (nn t dr) u v w z = none) : rL t dr (lgC (capp X u v w z) 1) (gcapp N (nn t dr) u v2 w2 z2 95) := by
  have up : ∀ {K : MM} {y : Int32} {C : Nat → Nat → Int32}, rL t dr C (K 95) → rL t dr C (jm K 94 18 y 95) := fun {K y C} hh => by rw [show jm K 94 18 y 95 = K 95 from jm_row (by decide)]; exact hh
  unfold cref at hr
  unfold capp gcapp
  rcases hl with rfl | rfl | rfl | rfl | rfl
  · rw [if_pos rfl] at hr
    rw [if_pos rfl, if_pos rfl, e1 (by decide), e2 (Or.inl rfl), e3 (Or.inl rfl)]
    exact up (one_res h hf hr)
  · rw [if_neg (by decide), if_pos rfl] at hr
    rw [if_neg (by decide), if_pos rfl, if_neg (by decide), if_pos rfl, e1 (by decide)]
    exact up (one_back h hf hr)
  · rw [if_neg (by decide), if_neg (by decide), if_pos rfl] at hr
    rw [if_neg (by decide), if_neg (by decide), if_pos rfl, if_neg (by decide), if_neg (by decide), if_pos rfl, e1 (by decide), e2 (Or.inr (Or.inl rfl))]
    exact up (one_put h hf hr)
  · rw [if_neg (by decide), if_neg (by decide), if_neg (by decide), if_pos rfl] at hr
    rw [if_neg (by decide), if_neg (by decide), if_neg (by decide), if_pos rfl, if_neg (by decide), if_neg (by decide), if_neg (by decide), if_pos rfl]
    exact up (one_next h hf hr)
  · rw [if_neg (by decide), if_neg (by decide), if_neg (by decide), if_neg (by decide)] at hr
    rw [if_neg (by decide), if_neg (by decide), if_neg (by decide), if_neg (by decide), if_neg (by decide), if_neg (by decide), if_neg (by decide), if_neg (by decide), e1 (by decide), e2 (Or.inr (Or.inr rfl)), e3 (Or.inr rfl)]
    exact up (now_rules h hr).1
end ONE
/-! the text: the same on both sides below its length -/
section TEQ
variable {T T2 : Nat → Int32} {n : Nat}
theorem tsg_e (h : ∀ i, i < n → T i = T2 i) : tsg T n = tsg T2 n := funext fun a => by
  unfold tsg
  by_cases c : a < n
  · rw [if_pos c, if_pos c]; exact h a c
  · rw [if_neg c, if_neg c]
theorem tdg_e (h : tsg T n = tsg T2 n) : tdg T n = tdg T2 n := funext fun a => funext fun u => by simp only [tdg, tdc, h]
theorem tda_e (h : tsg T n = tsg T2 n) : tda T n = tda T2 n := funext fun a => funext fun u => by simp only [tda, tdc, h]
theorem tnv_e (h : tsg T n = tsg T2 n) : tnv T n = tnv T2 n := funext fun a => by simp only [tnv, tdg_e h]
theorem tna_e (h : tsg T n = tsg T2 n) : tna T n = tna T2 n := funext fun a => by simp only [tna, tdg_e h]
theorem pF_e (h : tsg T n = tsg T2 n) : pF T n = pF T2 n := funext fun a => by simp only [pF, rFm, rFb, rFo, h, tnv_e h, tna_e h]
theorem pN_e (h : tsg T n = tsg T2 n) : pN T n = pN T2 n := funext fun a => by simp only [pN, h, tda_e h, tna_e h]
theorem p1_e (h : tsg T n = tsg T2 n) : p1 T n = p1 T2 n := funext fun a => by simp only [p1, h, tdg_e h, tnv_e h]
theorem p2_e (h : tsg T n = tsg T2 n) : p2 T n = p2 T2 n := funext fun a => by simp only [p2, h, tdg_e h, tda_e h, tnv_e h, tna_e h]
theorem p3_e (h : tsg T n = tsg T2 n) : p3 T n = p3 T2 n := funext fun a => by simp only [p3, h, tdg_e h, tda_e h, tnv_e h, tna_e h]
theorem ppo_e (h : tsg T n = tsg T2 n) : ∀ i, ppo T n i = ppo T2 n i
  | 0 => rfl
  | i + 1 => by rw [ppo, ppo, ppo_e h i, pN_e h]
theorem pgo_e (h : tsg T n = tsg T2 n) {i : Nat} : pgo T n i ↔ pgo T2 n i := by
  unfold pgo
  rw [ppo_e h, pF_e h, pN_e h, h]
end TEQ
