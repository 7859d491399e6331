/-! ===== steps: the text's commands ===== -/
theorem first_stop (T : Nat → Int32) (n : Nat) : ∀ m, (∀ j, j < m → pgo T n j) ∨ ∃ i, i < m ∧ (∀ j, j < i → pgo T n j) ∧ ¬ pgo T n i
  | 0 => Or.inl fun j hj => absurd hj (Nat.not_lt_zero j)
  | m + 1 => by
    rcases first_stop T n m with h | ⟨i, h1, h2, h3⟩
    · by_cases c : pgo T n m
      · refine Or.inl fun j hj => ?_
        by_cases e : j = m
        · subst e; exact c
        · exact h j (by omega)
      · exact Or.inr ⟨m, by omega, h, c⟩
    · exact Or.inr ⟨i, by omega, h2, h3⟩
theorem RelP.txt {τ : Nat → Nat × Bool} {k j : Nat} {A A2 B B2 : MM} (h : RelP τ k j A B) (hA : ∀ i c, i < 75 → ¬ (i = 0 ∧ c = 8) → A2 i c = A i c) (hB : ∀ i c, (i = 94 ∧ c ≠ 9 ∧ c ≠ 10 ∧ c ≠ 11 ∧ c ≠ 13 ∧ c ≠ 16 ∧ c ≠ 18 ∧ c ≠ 19) ∨ i = 95 ∨ i = 97 ∨ i = 98 → B2 i c = B i c) (h1 : A2 86 0 = 0) (h2 : B2 94 9 = 0) (h3 : A2 0 8 = B2 94 13) : RelP τ k j A2 B2 := by
  obtain ⟨a1, a2, a3, a4, a5, a6, a7, a8, a9, a10, -, ⟨r1, r2, r3, r4, r5, q, r6, r7⟩⟩ := h
  refine ⟨a1, a2, (hA 13 1 (by omega) (by omega)).trans a3, (hA 13 2 (by omega) (by omega)).trans a4, (hB 94 3 (by omega)).trans a5, rL_cells a6 (fun i c _ _ => hA i c (by omega) (by omega)) (fun c _ => hB 95 c (by omega)), fun i hi => rL_cells (a7 i hi) (fun i2 c _ _ => hA i2 c (by omega) (by omega)) (fun c _ => hB 97 _ (by omega)), a8, fun hd => rFix_c (a9 hd) (fun i c _ _ => hA i c (by omega) (by omega)), rSv_c a10 (fun i c q => hA i c (by omega) (by omega)) (fun i c q => hB i c (by omega)), ⟨0, by omega, h1, h2, fun i hi => absurd hi (Nat.not_lt_zero i)⟩, ⟨?_, ?_, ?_, h3, ?_, q, r6, (hB 94 7 (by omega)).trans r7⟩⟩
  · rw [hA 0 9 (by omega) (by omega), hB 94 14 (by omega)]; exact r1
  · rw [hA 0 10 (by omega) (by omega), hB 94 15 (by omega)]; exact r2
  · rw [hA 0 11 (by omega) (by omega), hB 94 17 (by omega)]; exact r3
  · rw [hA 0 12 (by omega) (by omega)]; exact r5
def cmF (N : MM) (q : Nat) : MM := jm (jm N 86 0 0) 0 8 (nI q)
theorem fault_step {b : SBt} {Y : OUt} {M N : MM} {q : Nat} (I : Inv b M) (hN : ∀ i k, i < 86 ∨ i = 87 ∨ 91 < i → N i k = M i k) (hq : N 86 1 = nI q) (C : CM 18 0 0 yX4_isParsed cX4_isParsed 2 (some .boolean) [.ref 86] b Y M (.inl (some (.int 0))) N)
    (hr : ∃ N2, gLike (jtr (cmF N q)) N2 ∧ CM 20 0 0 yX6_commands cX6_commands 4 (some .int) [.ref 94] b Y (cmF N q) (.inl (some (.int 0))) (jrai (jm (jm N2 94 13 (nI q)) 94 9 0) 1)) : Step b Y M yL_commands cL_commands 3 [(0, 8, 11, 47), (0, 8, 14, 13)] [.ref 0, .ref 102] yX6_commands cX6_commands 4 (some .int) [.ref 94] cmpI := by
  have hb := I.hb
  obtain ⟨τ, k, j, hP⟩ := Rel_P.mp I.1
  have hc := c_commands_fault (d := 13) hb C
  rw [hq] at hc
  have hhi : hiE M (cmF N q) := fun i c z => by unfold cmF; rw [jm_n (by omega), jm_n (by omega)]; exact hN i c (by omega)
  obtain ⟨N2, g1, g2⟩ := hr
  have hN2 : ∀ i c, ¬ (i = 94 ∧ (c = 9 ∨ c = 10 ∨ c = 11 ∨ c = 13 ∨ c = 16 ∨ c = 19)) → i ≠ 96 → i ≠ 101 → jrai (jm (jm N2 94 13 (nI q)) 94 9 0) 1 i c = cmF N q i c := fun i c z1 z2 z3 => by
    unfold jrai
    rw [jm_n (by omega), jm_n (by omega), jm_n (by omega), g1 i c (by omega) z3]
    exact jtr_at z2 (by omega)
  refine Step_of I (H_commands_t1 (d := 19) hb hc) g2 (by decide) (by decide) hhi (fun i c z => hN2 i c (by omega) (by omega) (by omega)) ⟨τ, k, j, hP.txt (fun i c z1 z2 => ?_) (fun i c z => ?_) ?_ ?_ ?_⟩ (cmp_no jm_s (by decide))
  · rw [jm_n (by omega), jm_n (by omega)]; exact hN i c (by omega)
  · exact (hN2 i c (by omega) (by omega) (by omega)).trans (hhi i c (by omega))
  · rw [jm_n (by omega), jm_s]
  · unfold jrai; rw [jm_n (by omega), jm_s]
  · unfold jrai; rw [jm_s, jm_n (by omega), jm_n (by omega), jm_s]
def cm0 (M : MM) (n i j : Nat) : MM := jlg (jm (jm (jcm M n i) 86 0 0) 0 8 (-1)) 1 (15 + 6 * j)
theorem cm0_n {M : MM} {n i j a c : Nat} (hj : j < 9) (h : a < 15 ∨ 69 ≤ a) (h0 : ¬ (a = 0 ∧ c = 8)) (h2 : a < 86 ∨ a = 87 ∨ 91 < a) : cm0 M n i j a c = M a c := by
  unfold cm0
  rw [jlg_n (by omega), jm_n (by omega), jm_n (by omega), jcm_n (by omega)]
theorem cm0_2 {M : MM} {n i j : Nat} (hj : j < 9) : cm0 M n i j 86 2 = nI (i + 1) := by
  unfold cm0
  rw [jlg_n (by omega), jm_n (by omega), jm_n (by omega), jcm_c]
theorem cm0_rows {M : MM} {n i j c : Nat} (hj : j < 9) (hc : c < i + 1) : jrows (cm0 M n i j) (M 87) n c := by
  have h := jcm_rows (M := M) (n := n) (i := i) hc
  have e : ∀ a, 88 ≤ a → a ≤ 91 → cm0 M n i j a c = jcm M n i a c := fun a h1 h2 => by unfold cm0; rw [jlg_n (by omega), jm_n (by omega), jm_n (by omega)]
  unfold jrows at h ⊢
  rw [e 88 (by omega) (by omega), e 89 (by omega) (by omega), e 90 (by omega) (by omega), e 91 (by omega) (by omega)]
  exact h
theorem gqp_95 {B0 : MM} {n ct c : Nat} : gqp B0 n ct c 95 = gse B0 n ct c 95 := funext fun k => by
  unfold gqp
  rw [jm_n (by omega)]
  exact gcm_like 95 k (by omega) (by omega)
theorem gqp_101 {B0 : MM} {n ct c k : Nat} : gqp B0 n ct c 101 k = gcm (gse B0 n ct c) n (ppo (B0 100) n c) 101 k := jm_n (by omega)
/-- class and reference carry out the same -/
theorem carry_inv {t : Nat} {dr : Bool} {M M1 : MM} {n i j : Nat} (hL : rL t dr (lgC M 1) (M 95)) (hF : dr = true → rFix t M) (h1 : hiE M M1) (hj : j < 9) (hT : tsg (M 87) n = tsg (M 100) n) (hlet : ∀ c, c < i + 1 → pF (M 87) n (ppo (M 87) n c) = none) : ∀ c, c ≤ i + 1 →
    (∀ e, e < c → cref (jat12 (cm0 M n i j) e) (nn t dr) (cm0 M n i j 88 e) (cm0 M n i j 89 e) (cm0 M n i j 90 e) (cm0 M n i j 91 e) = none) →
    rL t dr (lgC (jac (cm0 M n i j) c) 1) (gse (gB0 M1 n i) n (nn t dr) c 95) ∧
    (c < i + 1 → cref (jat12 (cm0 M n i j) c) (nn t dr) (cm0 M n i j 88 c) (cm0 M n i j 89 c) (cm0 M n i j 90 c) (cm0 M n i j 91 c) = gcR (gB0 M1 n i) n (nn t dr) c ∧
      (cref (jat12 (cm0 M n i j) c) (nn t dr) (cm0 M n i j 88 c) (cm0 M n i j 89 c) (cm0 M n i j 90 c) (cm0 M n i j 91 c) = none → rL t dr (lgC (jac (cm0 M n i j) (c + 1)) 1) (gcS (gB0 M1 n i) n (nn t dr) c 95))) := by
  have e100 : gB0 M1 n i 100 = M 100 := by rw [gB0_t]; funext k; exact (jtr_at (by omega) (by omega)).trans (h1 100 k (by omega))
  -- what one command gives, once the leagues agree before it
  have one : ∀ c, c < i + 1 → rL t dr (lgC (jac (cm0 M n i j) c) 1) (gse (gB0 M1 n i) n (nn t dr) c 95) → cref (jat12 (cm0 M n i j) c) (nn t dr) (cm0 M n i j 88 c) (cm0 M n i j 89 c) (cm0 M n i j 90 c) (cm0 M n i j 91 c) = gcR (gB0 M1 n i) n (nn t dr) c ∧
      (cref (jat12 (cm0 M n i j) c) (nn t dr) (cm0 M n i j 88 c) (cm0 M n i j 89 c) (cm0 M n i j 90 c) (cm0 M n i j 91 c) = none → rL t dr (lgC (jac (cm0 M n i j) (c + 1)) 1) (gcS (gB0 M1 n i) n (nn t dr) c 95)) := fun c hc hR => by
    have hX : rL t dr (lgC (jat12 (cm0 M n i j) c) 1) (gqp (gB0 M1 n i) n (nn t dr) c 95) := rL_cells hR (fun a k _ _ => jm_n (by omega)) (fun k _ => by rw [gqp_95])
    have hfX : dr = true → rFix t (jat12 (cm0 M n i j) c) := fun hd => rFix_c (hF hd) (fun a k z1 z2 => (jat12_n (by omega)).trans (cm0_n hj (by omega) (by omega) (by omega)))
    obtain ⟨r1, r2, r3, r4⟩ := cm0_rows (M := M) (n := n) (i := i) hj hc
    have hl := pF_let (hlet c hc)
    have eT : tsg (gB0 M1 n i 100) n = tsg (M 87) n := by rw [e100]; exact hT.symm
    have ep : ppo (gB0 M1 n i 100) n c = ppo (M 87) n c := ppo_e eT c
    have ou : gqp (gB0 M1 n i) n (nn t dr) c 94 11 = tsg (M 87) n (ppo (M 87) n c) := by rw [gqp_o, ep, eT]
    have eS : tsg (gse (gB0 M1 n i) n (nn t dr) c 100) n = tsg (M 87) n := by rw [gse_t]; exact eT
    have o1 : ¬ tsg (M 87) n (ppo (M 87) n c) = 110 → gqp (gB0 M1 n i) n (nn t dr) c 101 0 = p1 (M 87) n (ppo (M 87) n c) := fun z => by
      rw [gqp_101, gcm_0, ep, eS, if_neg z, p1_e eS]
    have o2 : tsg (M 87) n (ppo (M 87) n c) = 109 ∨ tsg (M 87) n (ppo (M 87) n c) = 111 ∨ tsg (M 87) n (ppo (M 87) n c) = 116 → gqp (gB0 M1 n i) n (nn t dr) c 101 1 = p2 (M 87) n (ppo (M 87) n c) := fun z => by
      rw [gqp_101, gcm_1, ep, eS, if_neg (fun y => by rcases z with z | z | z <;> rcases y with y | y <;> (rw [z] at y; exact absurd y (by decide))), p2_e eS]
    have o3 : tsg (M 87) n (ppo (M 87) n c) = 109 ∨ tsg (M 87) n (ppo (M 87) n c) = 116 → gqp (gB0 M1 n i) n (nn t dr) c 101 2 = p3 (M 87) n (ppo (M 87) n c) := fun z => by
      rw [gqp_101, gcm_2, ep, eS, if_pos z, p3_e eS]
    rw [r1, r2, r3, r4]
    refine ⟨?_, fun hn => ?_⟩
    · unfold gcR
      rw [ou]
      exact carry_ref hX hfX o1 o2 o3 hl
    · have hA := carry_app hX hfX o1 o2 o3 hl hn
      unfold gcS
      rw [ou]
      refine rL_cells hA (fun a k _ _ => ?_) (fun _ _ => rfl)
      rw [jac_step, jat12_n (by omega), jat12_n (by omega), jat12_n (by omega), jat12_n (by omega), r1, r2, r3, r4]
  have all : ∀ c, c ≤ i + 1 → (∀ e, e < c → cref (jat12 (cm0 M n i j) e) (nn t dr) (cm0 M n i j 88 e) (cm0 M n i j 89 e) (cm0 M n i j 90 e) (cm0 M n i j 91 e) = none) → rL t dr (lgC (jac (cm0 M n i j) c) 1) (gse (gB0 M1 n i) n (nn t dr) c 95) := by
    intro c
    induction c with
    | zero =>
      intro _ _
      refine rL_cells hL (fun a k z1 z2 => cm0_n hj (by omega) (by omega) (by omega)) (fun k _ => ?_)
      show gB0 M1 n i 95 k = M 95 k
      rw [gB0_n (by omega) (by omega), jtr_at (by omega) (by omega)]
      exact h1 95 k (by omega)
    | succ c ih =>
      intro hc he
      have h := (one c (by omega) (ih (by omega) (fun e z => he e (by omega)))).2 (he c (by omega))
      refine rL_cells h (fun _ _ _ _ => rfl) (fun k _ => ?_)
      rw [gse_s, jm_n (by omega)]
  exact fun c hc he => ⟨all c hc he, fun hc2 => one c hc2 (all c hc he)⟩
theorem first_no (f : Nat → Option (Int32 × Int32)) : ∀ m, (∀ e, e < m → f e = none) ∨ ∃ e r z, e < m ∧ (∀ e2, e2 < e → f e2 = none) ∧ f e = some (r, z)
  | 0 => Or.inl fun e h => absurd h (Nat.not_lt_zero e)
  | m + 1 => by
    rcases first_no f m with h | ⟨e, r, z, h1, h2, h3⟩
    · cases c : f m with
      | none =>
        refine Or.inl fun e he => ?_
        by_cases q : e = m
        · subst q; exact c
        · exact h e (by omega)
      | some w => exact Or.inr ⟨m, w.1, w.2, by omega, h, c⟩
    · exact Or.inr ⟨e, r, z, by omega, h2, h3⟩
theorem jlg_row {Z W : MM} {a g i c : Nat} (h : ∀ q k, a ≤ q → q ≤ a + 5 → Z q k = W q k) (hi : Z i c = W i c) : jlg Z a g i c = jlg W a g i c := by
  unfold jlg
  rw [h a c (by omega) (by omega), h (a + 1) c (by omega) (by omega), h (a + 2) c (by omega) (by omega), h (a + 3) c (by omega) (by omega), h (a + 4) c (by omega) (by omega), h (a + 5) c (by omega) (by omega), hi]
theorem S_commands {b : SBt} {Y : OUt} {M : MM} (I : Inv b M) : Step b Y M yL_commands cL_commands 3 [(0, 8, 11, 47), (0, 8, 14, 13)] [.ref 0, .ref 102] yX6_commands cX6_commands 4 (some .int) [.ref 94] cmpI := by
  have hb := I.hb
  obtain ⟨τ, k, j, hP⟩ := Rel_P.mp I.1
  have hL := hP.now
  have hF := hP.fix
  obtain ⟨t, et⟩ : ∃ t, (τ k).1 = t := ⟨_, rfl⟩
  obtain ⟨dr, ed⟩ : ∃ dr, (τ k).2 = dr := ⟨_, rfl⟩
  have hX : (t, dr) = τ k := by rw [← et, ← ed]
  rw [et, ed] at hL hF
  have hj := hP.1
  have hk := hP.2.1
  obtain ⟨n, t1, t2, t3, t4⟩ : rTx M M := hP.2.2.2.2.2.2.2.2.2.2.1
  have hT : tsg (M 87) n = tsg (M 100) n := tsg_e (fun i hi => (t4 i hi).1)
  have e100 : ∀ N : MM, hiE M N → jtr N 100 = M 100 := fun N hN => funext fun c => (jtr_at (by omega) (by omega)).trans (hN 100 c (by omega))
  have hi9 : ∀ N : MM, hiE M N → jtr N 94 9 = nI n := fun N hN => (jtr_at (by omega) (by omega)).trans ((hN 94 9 (by omega)).trans t3)
  have hch : ∀ i, i < n → ∃ q, q < 65536 ∧ M 100 i = nI q := fun i hi => (t4 i hi).2
  have hp0 := ppo_e hT
  -- a fault where a command can't be read: the reference's part
  have faultA : ∀ (i q : Nat) (N : MM), hiE M N → (∀ j, j < i → pgo (M 87) n j) → pF (M 87) n (ppo (M 87) n i) = some q → ∃ N2, gLike (jtr N) N2 ∧ CM 20 0 0 yX6_commands cX6_commands 4 (some .int) [.ref 94] b Y N (.inl (some (.int 0))) (jrai (jm (jm N2 94 13 (nI q)) 94 9 0) 1) := fun i q N hN hg hFq => by
    have hg2 : ∀ j, j < i → pgo (jtr N 100) n j := fun j hj => by rw [e100 N hN]; exact (pgo_e hT).mp (hg j hj)
    have hple : ppo (jtr N 100) n i ≤ n := ppo_le hg2
    obtain ⟨N2, k1, k2, k3⟩ := cx_first_no (d := 17) (Y := Y) (M := jtr N) (i := i) (q := q) hb t1 (hi9 N hN) hple (by rw [e100 N hN]; exact hch) (by rw [e100 N hN, ← hp0, ← pF_e hT]; exact hFq)
    refine ⟨N2, k1, ?_⟩
    cases i with
    | zero =>
      have hg := cx_commands_A0 (d := 15) (M := N) (N := N2) (Y := Y) hb t1 ((hN 94 9 (by omega)).trans t3) k3
      rw [k2] at hg
      exact hg
    | succ i =>
      have hg := cx_commands_A (d := 15) (M := N) (N := N2) (Y := Y) hb t1 ((hN 94 9 (by omega)).trans t3) hg2 (fun j hj => (hg2 j hj).1) k3
      rw [k2] at hg
      exact hg
  have hcm : ∀ (N : MM) (q : Nat), (∀ i k, i < 86 ∨ i = 87 ∨ 91 < i → N i k = M i k) → hiE M (cmF N q) := fun N q hN i c z => by
    unfold cmF; rw [jm_n (by omega), jm_n (by omega)]; exact hN i c (by omega)
  rcases first_stop (M 87) n 30 with hg | ⟨i, hi, hg, hng⟩
  · -- thirty commands, and the text goes on
    have hle := ppo_le hg
    have hge := ppo_ge (T := M 87) (n := n) (i := 30)
    have hn60 : n = 60 ∧ ppo (M 87) n 30 = n := by omega
    have hF30 : pF (M 87) n (ppo (M 87) n 30) = some (ppo (M 87) n 30) := by
      have e : tsg (M 87) n (ppo (M 87) n 30) = -1 := by unfold tsg; rw [if_neg (by omega)]
      unfold pF
      rw [e, if_neg (by decide), if_neg (by decide), if_neg (by decide), if_neg (by decide), if_neg (by decide)]
    have hN : ∀ i k, i < 86 ∨ i = 87 ∨ 91 < i → jpa M n 30 i k = M i k := fun i k z => jpa_n (by omega) 30
    exact fault_step I hN (jpa_p 30) (c_isParsed_D (d := 13) hb t1 t2 hg) (faultA 30 _ _ (hcm _ _ hN) hg hF30)
  · cases hFi : pF (M 87) n (ppo (M 87) n i) with
    | some q =>
      have hN : ∀ a c, a < 86 ∨ a = 87 ∨ 91 < a → jpos (jpa M n i) q a c = M a c := fun a c z => (jpos_n (by omega)).trans (jpa_n (by omega) i)
      exact fault_step I hN jpos_s (c_isParsed_A (d := 13) hb t1 t2 hi hg hFi) (faultA i q _ (hcm _ _ hN) hg hFi)
    | none =>
      have hE59 : ¬ tsg (M 87) n (pN (M 87) n (ppo (M 87) n i)) = 59 := fun z => hng ⟨hFi, z⟩
      have hN : ∀ a c, a < 86 ∨ a = 87 ∨ 91 < a → jcm M n i a c = M a c := fun a c z => jcm_n (by omega)
      have hok : ∀ c, c < i + 1 → pF (M 87) n (ppo (M 87) n c) = none := fun c hc => by
        by_cases e : c = i
        · subst e; exact hFi
        · exact (hg c (by omega)).1
      by_cases hE : tsg (M 87) n (pN (M 87) n (ppo (M 87) n i)) = -1
      · -- all are read: they are carried out
        have hn := nn_le (dr := dr) hL.1
        have hmc := jmc_r hL hF
        have hz := zz_0 hL.1 hL.2.2.2.2.1
        have h951 : M 95 1 = nI (zz t dr) := hL.2.2.2.2.2.2.1
        have h959 : M 95 9 = nI (nn t dr) := hL.2.2.2.2.2.2.2.1
        have hpN : ∀ N : MM, hiE M N → n ≤ pN (jtr N 100) n (ppo (jtr N 100) n i) := fun N hN => by
          rw [e100 N hN, ← hp0, ← pN_e hT]
          apply Nat.le_of_not_lt
          intro z
          obtain ⟨e1, q, e2, e3⟩ := t4 _ z
          unfold tsg at hE
          rw [if_pos z, e1, e3] at hE
          exact nI_nm1 (by omega) hE
        have hg2 : ∀ N : MM, hiE M N → ∀ c, c < i → pgo (jtr N 100) n c := fun N hN c hc => by rw [e100 N hN]; exact (pgo_e hT).mp (hg c hc)
        have hok2 : ∀ N : MM, hiE M N → ∀ c, c < i + 1 → pF (jtr N 100) n (ppo (jtr N 100) n c) = none := fun N hN c hc => by rw [e100 N hN, ← hp0, ← pF_e hT]; exact hok c hc
        have hzz : ∀ N : MM, hiE M N → N 95 1 = 0 ∨ ¬ N 95 1 ≤ 0 := fun N hN => by
          rw [hN 95 1 (by omega), h951]
          cases dr with
          | false => exact Or.inl rfl
          | true => exact Or.inr (hz.2.mpr rfl)
        have hho : ∀ N : MM, hiE M N → ∀ c, c < nn t dr → ∃ h, h < 8 ∧ jof N c 0 = nI h := fun N hN c hc => by
          unfold jof; rw [hN 95 _ (by omega)]; exact hho_r hL c hc
        have hC := c_isParsed_B (d := 13) (Y := Y) hb t1 t2 hi hg hFi hE
        have hjc : jmc (cm0 M n i j) = nI (nn t dr) := by
          rw [← hmc]; unfold jmc; rw [cm0_n hj (by omega) (by omega) (by omega), cm0_n hj (by omega) (by omega) (by omega)]
        have hlet : ∀ c, c < i + 1 → isLet (cm0 M n i j 88 c) := fun c hc => by
          rw [(cm0_rows (M := M) (n := n) (i := i) hj hc).1]; exact pF_let (hok c hc)
        have h13 : ∀ c, cm0 M n i j 13 c = M 13 c := fun c => cm0_n hj (by omega) (by omega) (by omega)
        have hZ : ∀ q c, q < 75 → ¬ (q = 0 ∧ c = 8) → jm (jm (jcm M n i) 86 0 0) 0 8 (-1) q c = M q c := fun q c z1 z2 => by rw [jm_n (by omega), jm_n (by omega)]; exact hN q c (by omega)
        have r5 : M 0 12 = 0 := hP.2.2.2.2.2.2.2.2.2.2.2.2.2.2.2.1
        rcases first_no (fun c => cref (jat12 (cm0 M n i j) c) (nn t dr) (cm0 M n i j 88 c) (cm0 M n i j 89 c) (cm0 M n i j 90 c) (cm0 M n i j 91 c)) (i + 1) with hall | ⟨i0, r, z, hi0, hbef, hat⟩
        · -- all are carried out
          have C2 := c_areCarriedOut_ok (d := 13) (b := b) (Y := Y) (M := cm0 M n i j) hb hn hjc (show i + 1 ≤ 30 by omega) (cm0_2 hj) hlet hall
          have hc := c_commands_ok (d := 13) (Y := Y) (k := k) hb hC hj hk ((hN 13 1 (by omega)).trans hP.2.2.1) (by rw [hN 1 2 (by omega)]; exact rL_z hL) C2 (by rw [jm_n (by omega), jac_n (by omega), h13]; exact hP.2.2.1) (by rw [jm_n (by omega), jac_n (by omega), h13]; exact hP.2.2.2.1)
          obtain ⟨A2, eA⟩ : ∃ A2, jkh (jm (jac (cm0 M n i j) (i + 1)) 0 12 0) j k = A2 := ⟨_, rfl⟩
          have hval : A2 86 2 = nI (i + 1) := by
            rw [← eA]; unfold jkh; rw [jm_n (by omega), jm_n (by omega), jm_n (by omega), jac_n (by omega)]; exact cm0_2 hj
          have hlow : ∀ a c, a ≠ 13 → ¬ (a = 0 ∧ c = 12) → A2 a c = jac (cm0 M n i j) (i + 1) a c := fun a c z1 z2 => by
            rw [← eA]; unfold jkh; rw [jm_n (by omega), jm_n (by omega), jm_n (by omega)]
          have hhi : hiE M A2 := fun a c q => by
            rw [hlow a c (by omega) (by omega), jac_n (by omega)]
            exact cm0_n hj (by omega) (by omega) (by omega)
          rw [eA, hval] at hc
          have hinv := carry_inv (M1 := A2) (i := i) hL hF hhi hj hT hok
          have hgR : ∀ c, c < i + 1 → gcR (gB0 A2 n i) n (nn t dr) c = none := fun c hc => by
            rw [← ((hinv c (by omega) (fun e he => hall e (by omega))).2 hc).1]; exact hall c hc
          have hlast := ((hinv i (by omega) (fun e he => hall e (by omega))).2 (by omega)).2 (hall i (by omega))
          have hg := cx_commands_ok (d := 14) (Y := (ju Y.1 0 (nI (i + 1)).toInt64, Y.2)) (M := A2) (i := i) hb t1 ((hhi 94 9 (by omega)).trans t3) (hg2 A2 hhi) (hok2 A2 hhi) (hpN A2 hhi) hn ((hhi 95 9 (by omega)).trans h959) (hzz A2 hhi) (hho A2 hhi) hk ((hhi 94 3 (by omega)).trans hP.2.2.2.2.1) hgR
          have hB0 : ∀ a c, gKeep a c → ¬ (a = 94 ∧ (c = 10 ∨ c = 11 ∨ c = 13)) → a ≠ 101 → gcS (gB0 A2 n i) n (nn t dr) i a c = jtr A2 a c := fun a c z1 z2 z3 => (gcS_n z1).trans (gB0_n z2 z3)
          have hP3 : RelP τ k j (jm (jm M 86 0 0) 0 8 (-1)) (jm (jm A2 94 9 0) 94 13 (-1)) := hP.txt (fun a c z1 z2 => by rw [jm_n (by omega), jm_n (by omega)]) (fun a c z1 => by rw [jm_n (by omega), jm_n (by omega)]; exact hhi a c (by omega)) (by rw [jm_n (by omega), jm_s]) (by rw [jm_n (by omega), jm_s]) (by rw [jm_s, jm_s])
          refine Step_of I (H_commands_r hb hc) hg (by decide) (by decide) hhi (lo_kp (lo_jm (fun a c q => ?_) (by omega) (by omega))) ?_ (cmp_eq ?_ rfl)
          · rw [hB0 a c (Or.inl (by omega)) (by omega) (by omega)]; exact jtr_at (by omega) (by omega)
          · refine rel_push (x := (t, dr)) hP3 (fun _ => hX) (rL_cells hlast (fun a c z1 z2 => hlow _ _ (by omega) (by omega)) (fun c _ => jm_n (by omega))) (fun q => rFix_c (hF q) (fun a c z1 z2 => (hlow a c (by omega) (by omega)).trans ((jac_n (by omega) _).trans (cm0_n hj (by omega) (by omega) (by omega))))) (fun a c q => ?_) (fun a c q => ?_) (fun c q => ?_)
            · unfold jkeep
              rw [← eA]
              unfold jkh
              by_cases c1 : a = 13 ∧ c = 2
              · obtain ⟨rfl, rfl⟩ := c1; rw [jm_s, jm_s]
              · rw [jm_n c1, jm_n c1]
                by_cases c2 : a = 13 ∧ c = 1
                · obtain ⟨rfl, rfl⟩ := c2; rw [jm_s, jm_s]
                · rw [jm_n c2, jm_n c2]
                  by_cases c3 : a = 0 ∧ c = 12
                  · obtain ⟨rfl, rfl⟩ := c3
                    rw [jm_s, jlg_n (by omega), jm_n (by omega), jm_n (by omega)]; exact r5.symm
                  · rw [jm_n c3, jac_n (by omega)]
                    unfold cm0
                    refine jlg_row (fun q2 c2 z1 z2 => ?_) ?_
                    · rw [hZ q2 c2 (by omega) (by omega), jm_n (by omega), jm_n (by omega)]
                    · by_cases c4 : a = 0 ∧ c = 8
                      · obtain ⟨rfl, rfl⟩ := c4; rw [jm_s, jm_s]
                      · rw [jm_n c4, jm_n c4]
                        by_cases c5 : a = 86 ∧ c = 0
                        · obtain ⟨rfl, rfl⟩ := c5; rw [jm_s, jm_s]
                        · rw [jm_n c5, jm_n c5]; exact hN a c (by omega)
            · by_cases c1 : a = 94 ∧ c = 9
              · obtain ⟨rfl, rfl⟩ := c1; rw [jm_s, jm_n (by omega), jm_s]
              · rw [jm_n c1]
                by_cases c2 : a = 94 ∧ c = 13
                · obtain ⟨rfl, rfl⟩ := c2
                  rw [jm_s, gcS_n (Or.inr (Or.inl (by omega)))]
                  unfold gB0
                  rw [jm_n (by omega), jm_s]
                · rw [jm_n c2, jm_n (by omega), hB0 a c (by unfold gKeep; omega) (by omega) (by omega)]
                  exact jtr_at (by omega) (by omega)
            · rw [jm_n (by omega), hB0 96 c (Or.inl (by omega)) (by omega) (by omega), jtr_96 q, jm_n (by omega), jm_n (by omega)]
          · rw [kp_19, jm_n (by omega), hB0 94 19 (Or.inr (Or.inl (by omega))) (by omega) (by omega)]; exact jtr_19
        · -- one is refused
          have C2 := c_areCarriedOut_no (d := 13) (b := b) (Y := Y) (M := cm0 M n i j) hb hn hjc (show i + 1 ≤ 30 by omega) (cm0_2 hj) hlet hi0 hbef hat
          have hN2 : ∀ a c, ¬ (a = 0 ∧ (c = 9 ∨ c = 10 ∨ c = 11 ∨ c = 12)) → 6 < a ∨ a = 0 → jm (jref (jat12 (cm0 M n i j) i0) r z) 0 12 0 a c = cm0 M n i j a c := fun a c z1 z2 => by
            unfold jref
            rw [jm_n (by omega), jm_n (by omega), jm_n (by omega), jm_n (by omega)]
            exact jat12_n (by omega)
          have hslot : ∀ {R : Nat → Int32}, (∀ c, c < 466 → R c = M 95 c) → rL t dr (lgC (jm (jref (jat12 (cm0 M n i j) i0) r z) 0 12 0) (15 + 6 * j)) R := fun {R} hR => by
            refine rL_copy (A := jm (jm (jcm M n i) 86 0 0) 0 8 (-1)) (a := 1) (g := 15 + 6 * j) (R := M 95) (rL_cells hL (fun a c z1 z2 => hZ a c (by omega) (by omega)) (fun _ _ => rfl)) (fun a c z1 z2 => hN2 a c (by omega) (by omega)) hR
          have hc := c_commands_no (d := 13) (Y := Y) hb hC hj hk ((hN 13 1 (by omega)).trans hP.2.2.1) (by rw [hN 1 2 (by omega)]; exact rL_z hL) C2 ((hN2 13 1 (by omega) (by omega)).trans ((h13 1).trans hP.2.2.1)) (rL_z (hslot fun _ _ => rfl))
          obtain ⟨A2, eA⟩ : ∃ A2, jlg (jm (jref (jat12 (cm0 M n i j) i0) r z) 0 12 0) (15 + 6 * j) 1 = A2 := ⟨_, rfl⟩
          have hA2 : ∀ a c, (a < 1 ∨ 6 < a) → A2 a c = jm (jref (jat12 (cm0 M n i j) i0) r z) 0 12 0 a c := fun a c q => by rw [← eA]; exact jlg_n (by omega)
          have hlow : ∀ a c, (a = 0 ∨ (6 < a ∧ a < 15) ∨ (69 ≤ a ∧ a < 86) ∨ 91 < a) → ¬ (a = 0 ∧ (c = 8 ∨ c = 9 ∨ c = 10 ∨ c = 11 ∨ c = 12)) → A2 a c = M a c := fun a c z1 z2 => by
            rw [hA2 a c (by omega), hN2 a c (by omega) (by omega)]
            exact cm0_n hj (by omega) (by omega) (by omega)
          have hhi : hiE M A2 := fun a c q => hlow a c (by omega) (by omega)
          rw [eA] at hc
          have hinv := carry_inv (M1 := A2) (i := i) hL hF hhi hj hT hok
          have hgR : ∀ c, c < i0 → gcR (gB0 A2 n i) n (nn t dr) c = none := fun c hc => by
            rw [← ((hinv c (by omega) (fun e he => hbef e (by omega))).2 (by omega)).1]; exact hbef c hc
          have hgN : gcR (gB0 A2 n i) n (nn t dr) i0 = some (r, z) := by
            rw [← ((hinv i0 (by omega) hbef).2 hi0).1]; exact hat
          have hg := cx_commands_no (d := 14) (Y := Y) (M := A2) (i := i) hb t1 ((hhi 94 9 (by omega)).trans t3) (hg2 A2 hhi) (hok2 A2 hhi) (hpN A2 hhi) hn ((hhi 95 9 (by omega)).trans h959) (hzz A2 hhi) (hho A2 hhi) hi0 hgR hgN
          have hB0 : ∀ a c, gKeep a c → ¬ (a = 94 ∧ (c = 10 ∨ c = 11 ∨ c = 13)) → a ≠ 101 → gqp (gB0 A2 n i) n (nn t dr) i0 a c = jtr A2 a c := fun a c z1 z2 z3 => (gqp_n z1).trans (gB0_n z2 z3)
          have hK : ∀ a c, a ≠ 95 → ¬ (a = 94 ∧ (c = 9 ∨ c = 14 ∨ c = 15 ∨ c = 17 ∨ c = 19)) → jrai (jcp (jm (jrefu (gqp (gB0 A2 n i) n (nn t dr) i0) r z) 94 9 0) 96 0 95 0 466) 2 a c = gqp (gB0 A2 n i) n (nn t dr) i0 a c := fun a c z1 z2 => by
            unfold jrai jrefu
            rw [jm_n (by omega), jcp_n z1, jm_n (by omega), jm_n (by omega), jm_n (by omega), jm_n (by omega)]
          have hK2 : ∀ a c, (a = 94 ∧ (c = 3 ∨ c = 5 ∨ c = 7)) ∨ a = 97 ∨ a = 98 → jrai (jcp (jm (jrefu (gqp (gB0 A2 n i) n (nn t dr) i0) r z) 94 9 0) 96 0 95 0 466) 2 a c = M a c := fun a c q => by
            rw [hK a c (by omega) (by omega), hB0 a c (by unfold gKeep; omega) (by omega) (by omega), jtr_at (by omega) (by omega)]
            exact hhi a c (by omega)
          have hP2 := hP
          obtain ⟨a1, a2, a3, a4, a5, a6, a7, a8, a9, a10, -, ⟨-, -, -, -, -, q7, q8, q9⟩⟩ := hP2
          refine Step_of I (H_commands_t2 (d := 19) hb hc) hg (by decide) (by decide) hhi (fun a c q => ?_) ⟨τ, k, j, a1, a2, (hlow 13 1 (by omega) (by omega)).trans a3, (hlow 13 2 (by omega) (by omega)).trans a4, (hK2 94 3 (by omega)).trans a5, ?_, fun c hc => ?_, a8, fun hd => rFix_c (a9 hd) (fun a c _ _ => hlow a c (by omega) (by omega)), rSv_c a10 (fun a c q => hlow a c (by omega) (by omega)) (fun a c q => hK2 a c (by omega)), ⟨0, by omega, ?_, ?_, fun c hc => absurd hc (Nat.not_lt_zero c)⟩, ⟨?_, ?_, ?_, ?_, ?_, q7, q8, (hK2 94 7 (by omega)).trans q9⟩⟩ (cmp_no jm_s (by decide))
          · rw [hK a c (by omega) (by omega), hB0 a c (Or.inl (by omega)) (by omega) (by omega)]; exact jtr_at (by omega) (by omega)
          · rw [et, ed]
            refine rL_copy (hslot fun _ _ => rfl) (fun a c z1 z2 => by rw [← eA]) (fun c hc => ?_)
            unfold jrai
            rw [jm_n (by omega), show jcp (jm (jrefu (gqp (gB0 A2 n i) n (nn t dr) i0) r z) 94 9 0) 96 0 95 0 466 95 c = jcp (jm (jrefu (gqp (gB0 A2 n i) n (nn t dr) i0) r z) 94 9 0) 96 0 95 0 466 95 (0 + c) by rw [Nat.zero_add], jcp_at hc, Nat.zero_add]
            unfold jrefu
            rw [jm_n (by omega), jm_n (by omega), jm_n (by omega), jm_n (by omega), hB0 96 c (Or.inl (by omega)) (by omega) (by omega), jtr_96 hc]
            exact hhi 95 c (by omega)
          · refine rL_cells (a7 c hc) (fun a q z1 z2 => ?_) (fun q _ => hK2 97 _ (by omega))
            rw [hA2 a q (by omega), hN2 a q (by omega) (by omega)]
            unfold cm0
            rw [jlg_n (by omega)]
            exact hZ a q (by omega) (by omega)
          · rw [hA2 86 0 (by omega), hN2 86 0 (by omega) (by omega)]
            unfold cm0
            rw [jlg_n (by omega), jm_n (by omega), jm_s]
            rfl
          · unfold jrai; rw [jm_n (by omega), jcp_n (by omega), jm_s]; rfl
          · rw [hA2 0 9 (by omega)]
            unfold jref jrai jrefu
            rw [jm_n (by omega), jm_n (by omega), jm_n (by omega), jm_s, jm_n (by omega), jcp_n (by omega), jm_n (by omega), jm_n (by omega), jm_n (by omega), jm_s]
          · rw [hA2 0 10 (by omega)]
            unfold jref jrai jrefu
            rw [jm_n (by omega), jm_n (by omega), jm_s, jm_n (by omega), jcp_n (by omega), jm_n (by omega), jm_n (by omega), jm_s]
          · rw [hA2 0 11 (by omega)]
            unfold jref jrai jrefu
            rw [jm_n (by omega), jm_s, jm_n (by omega), jcp_n (by omega), jm_n (by omega), jm_s]
            unfold gqp
            rw [jm_s]
            exact jm_s
          · rw [hA2 0 8 (by omega), hN2 0 8 (by omega) (by omega), hK 94 13 (by omega) (by omega), gqp_n (Or.inr (Or.inl (by omega)))]
            unfold cm0 gB0
            rw [jlg_n (by omega), jm_s, jm_n (by omega), jm_s]
          · rw [hA2 0 12 (by omega), jm_s]
      · exact fault_step I hN jcm_p (c_isParsed_C (d := 13) hb t1 t2 hi hg hFi hE hE59) ⟨gce (jtr (cmF (jcm M n i) _)) n i, gce_like, by
          have hh := hcm _ (pN (M 87) n (ppo (M 87) n i)) hN
          have hg := cx_commands_C (d := 15) (M := cmF (jcm M n i) (pN (M 87) n (ppo (M 87) n i))) (Y := Y) (i := i) hb t1 ((hh 94 9 (by omega)).trans t3) (fun j hj => by rw [e100 _ hh]; exact (pgo_e hT).mp (hg j hj)) (fun j hj => by rw [e100 _ hh, ← hp0, ← pF_e hT]; exact hok j hj) (by rw [e100 _ hh, ← hp0, ← pN_e hT, ← hT]; exact hE) (by rw [e100 _ hh, ← hp0, ← pN_e hT, ← hT]; exact hE59)
          rw [e100 _ hh, ← hp0, ← pN_e hT] at hg
          exact hg⟩
