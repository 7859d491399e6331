/-! ===== what holds before and after every call ===== -/
def RelP (τ : Nat → Nat × Bool) (k j : Nat) (A B : MM) : Prop := j < 9 ∧ k ≤ 8 ∧ A 13 1 = nI j ∧ A 13 2 = nI k ∧ B 94 3 = nI k ∧ rL (τ k).1 (τ k).2 (lgC A 1) (B 95) ∧ rH τ k j A B ∧ rCh τ k ∧ ((τ k).2 = true → rFix (τ k).1 A) ∧ rSv A B ∧ rTx A B ∧ rRs A B
theorem Rel_P {A B : MM} : Rel A B ↔ ∃ τ k j, RelP τ k j A B := Iff.rfl
def hiE (M N : MM) : Prop := ∀ i k, 92 ≤ i → N i k = M i k
theorem hiE_0 {M : MM} : hiE M M := fun _ _ _ => rfl
theorem Rel_hi {A B B2 : MM} (h : Rel A B) (hB : hiE B B2) : Rel A B2 := Rel_c h (fun _ _ _ _ => rfl) (fun i k q => hB i k (by omega))
def SBp (b : SBt) (M : MM) : Prop := ∃ n c, sbI b M n ∧ n ≤ 202 ∧ M 92 3 = nI c ∧ c ≤ 100 ∧ c ≤ n
theorem SBp_c {b : SBt} {M N : MM} (h : SBp b M) (hN : ∀ i k, ¬ (i < 92 ∨ (93 < i ∧ i < 94)) → N i k = M i k) : SBp b N := by
  obtain ⟨n, c, h1, h2, h3, h4, h5⟩ := h
  exact ⟨n, c, sbI_c h1 hN, h2, by rw [hN 92 3 (by omega)]; exact h3, h4, h5⟩
def vK (r : Option FieldType) (v : Value) : Prop := (r = some .float ∧ ∃ w, v = .float w) ∨ (r = some .double ∧ ∃ w, v = .double w) ∨ ((r = some .int ∨ r = some .boolean ∨ r = some .char) ∧ ∃ w : Int32, v = .int w)
theorem vK_i {w : Int32} : vK (some .int) (.int w) := Or.inr (Or.inr ⟨Or.inl rfl, w, rfl⟩)
theorem vK_b {w : Int32} : vK (some .boolean) (.int w) := Or.inr (Or.inr ⟨Or.inr (Or.inl rfl), w, rfl⟩)
theorem vK_c {w : Int32} : vK (some .char) (.int w) := Or.inr (Or.inr ⟨Or.inr (Or.inr rfl), w, rfl⟩)
theorem vK_f {w : UInt32} : vK (some .float) (.float w) := Or.inl ⟨rfl, w, rfl⟩
theorem vK_d {w : UInt64} : vK (some .double) (.double w) := Or.inr (Or.inl ⟨rfl, w, rfl⟩)
theorem vK_int {r : Option FieldType} {v : Value} (h : vK r v) (h1 : r ≠ some .float) (h2 : r ≠ some .double) : ∃ w : Int32, v = .int w := by
  rcases h with ⟨h, -⟩ | ⟨h, -⟩ | ⟨-, h⟩
  · exact absurd h h1
  · exact absurd h h2
  · exact h
theorem vK_fl {v : Value} (h : vK (some .float) v) : ∃ w, v = .float w := by
  rcases h with ⟨-, h⟩ | ⟨h, -⟩ | ⟨h, -⟩
  · exact h
  · cases h
  · rcases h with h | h | h <;> cases h
theorem vK_db {v : Value} (h : vK (some .double) v) : ∃ w, v = .double w := by
  rcases h with ⟨h, -⟩ | ⟨-, h⟩ | ⟨h, -⟩
  · cases h
  · exact h
  · rcases h with h | h | h <;> cases h
theorem ConH.mono {d mc ms : Nat} {y : MethodName} {cc : ByteArray} {maxL : Nat} {ret : Option FieldType} {hh : List (Nat × Nat × Nat × Nat)} {as : List Value} {h : MH} {Q Q2 : MO → MH → Prop} (C : ConH d mc ms y cc maxL ret hh as h Q) (hQ : ∀ o k, Q o k → Q2 o k) : ConH d mc ms y cc maxL ret hh as h Q2 := by
  intro l D tyc ad sz hl hh0 ha p e hA hB hC s m args below hf happ hP hT
  obtain ⟨k, o, h1, h2, h3, h4⟩ := C l D tyc ad sz hl hh0 ha p e hA hB hC s m args below hf happ hP hT
  refine ⟨k, o, h1, h2, h3, ?_⟩
  rcases h4 with ⟨⟨v, k1, ad1, e1, e2, e3⟩, e4⟩ | ⟨q, e0, E, ce, Lc, ⟨k1, ad1, e2, e3⟩, e4⟩
  · exact Or.inl ⟨⟨v, k1, ad1, e1, hQ _ _ e2, e3⟩, e4⟩
  · exact Or.inr ⟨q, e0, E, ce, Lc, ⟨k1, ad1, hQ _ _ e2, e3⟩, e4⟩
theorem rSv_c {A A2 B B2 : MM} (h : rSv A B) (hA : ∀ i k, (i = 0 ∧ k = 2) ∨ (7 ≤ i ∧ i ≤ 12) → A2 i k = A i k) (hB : ∀ i k, (i = 94 ∧ k = 5) ∨ i = 98 → B2 i k = B i k) : rSv A2 B2 := by
  rcases h with ⟨s1, s2⟩ | ⟨s1, s2, t, dr, s3⟩
  · exact Or.inl ⟨(hA 0 2 (by omega)).trans s1, (hB 94 5 (by omega)).trans s2⟩
  · exact Or.inr ⟨(hA 0 2 (by omega)).trans s1, (hB 94 5 (by omega)).trans s2, t, dr, rL_cells s3 (fun i k _ _ => hA i k (by omega)) (fun k _ => hB 98 k (by omega))⟩
theorem rTx_c {A A2 B B2 : MM} (h : rTx A B) (hA : ∀ i k, (i = 86 ∧ k = 0) ∨ i = 87 → A2 i k = A i k) (hB : ∀ i k, (i = 94 ∧ k = 9) ∨ i = 100 → B2 i k = B i k) : rTx A2 B2 := by
  obtain ⟨n, t1, t2, t3, t4⟩ := h
  exact ⟨n, t1, (hA 86 0 (by omega)).trans t2, (hB 94 9 (by omega)).trans t3, fun i hi => by rw [hA 87 i (by omega), hB 100 i (by omega)]; exact t4 i hi⟩
theorem rRs_c {A A2 B B2 : MM} (h : rRs A B) (hA : ∀ k, k = 8 ∨ k = 9 ∨ k = 10 ∨ k = 11 ∨ k = 12 → A2 0 k = A 0 k) (hB : ∀ k, k = 7 ∨ k = 13 ∨ k = 14 ∨ k = 15 ∨ k = 17 → B2 94 k = B 94 k) : rRs A2 B2 := by
  obtain ⟨r1, r2, r3, r4, r5, q, r6, r7⟩ := h
  refine ⟨?_, ?_, ?_, ?_, ?_, q, r6, (hB 7 (by omega)).trans r7⟩
  · rw [hA 9 (by omega), hB 14 (by omega)]; exact r1
  · rw [hA 10 (by omega), hB 15 (by omega)]; exact r2
  · rw [hA 11 (by omega), hB 17 (by omega)]; exact r3
  · rw [hA 8 (by omega), hB 13 (by omega)]; exact r4
  · rw [hA 12 (by omega)]; exact r5
theorem Rel_x {A A2 B B2 : MM} (h : Rel A B) (hA : ∀ i k, i < 75 ∨ i = 86 ∨ i = 87 → ¬ (i = 86 ∧ (k = 1 ∨ k = 2)) → ¬ (i = 0 ∧ 8 ≤ k) → A2 i k = A i k) (hB : ∀ i k, (i = 94 ∧ (k = 3 ∨ k = 5 ∨ k = 9)) ∨ i = 95 ∨ i = 97 ∨ i = 98 ∨ i = 100 → B2 i k = B i k) (hr : rRs A2 B2) : Rel A2 B2 := by
  obtain ⟨τ, k, j, a1, a2, a3, a4, a5, a6, a7, a8, a9, a10, a11, -⟩ := h
  exact ⟨τ, k, j, a1, a2, (hA 13 1 (by omega) (by omega) (by omega)).trans a3, (hA 13 2 (by omega) (by omega) (by omega)).trans a4, (hB 94 3 (by omega)).trans a5, rL_cells a6 (fun i k _ _ => hA i k (by omega) (by omega) (by omega)) (fun k _ => hB 95 k (by omega)), fun i hi => rL_cells (a7 i hi) (fun i2 k _ _ => hA i2 k (by omega) (by omega) (by omega)) (fun k _ => hB 97 _ (by omega)), a8,
    fun hd => rFix_c (a9 hd) (fun i k _ _ => hA i k (by omega) (by omega) (by omega)), rSv_c a10 (fun i k q => hA i k (by omega) (by omega) (by omega)) (fun i k q => hB i k (by omega)), rTx_c a11 (fun i k q => hA i k (by omega) (by omega) (by omega)) (fun i k q => hB i k (by omega)), hr⟩
theorem rel_push {τ : Nat → Nat × Bool} {k j : Nat} {A B A2 N : MM} {x : Nat × Bool} (h : RelP τ k j A B) (hx : (τ k).2 = true → x = τ k) (hnow : rL x.1 x.2 (lgC A2 1) (N 95)) (hf : x.2 = true → rFix x.1 A2) (hA : ∀ i c, i = 0 ∨ (7 ≤ i ∧ i < 69) ∨ (i = 86 ∧ c = 0) ∨ i = 87 → A2 i c = jkeep A j k i c)
    (hN : ∀ i c, (i = 94 ∧ c ≠ 10 ∧ c ≠ 11 ∧ c ≠ 16 ∧ c ≠ 18 ∧ c ≠ 19) ∨ i = 97 ∨ i = 98 ∨ i = 100 → N i c = B i c) (h96 : ∀ c, c < 466 → N 96 c = B 95 c) : Rel A2 (jkpg N k) := by
  obtain ⟨a1, a2, a3, a4, a5, a6, a7, a8, a9, a10, a11, a12⟩ := h
  obtain ⟨τ2, q1, q2, q3⟩ := push_H (A2 := A2) (B2 := jkpg N k) (N := N) (x := x) a1 a2 a6 a7 a8 hx (fun i c h1 h2 => hA i c (by omega)) (fun c => rfl) h96 (fun c => hN 97 c (by omega))
  have hlow : ∀ i c, i = 0 ∨ (7 ≤ i ∧ i < 13) ∨ (i = 86 ∧ c = 0) ∨ i = 87 → A2 i c = A i c := fun i c hh => (hA i c (by omega)).trans (jkeep_old (by omega) (by omega))
  have hup : ∀ i c, (i = 94 ∧ c ≠ 3 ∧ c ≠ 10 ∧ c ≠ 11 ∧ c ≠ 16 ∧ c ≠ 18 ∧ c ≠ 19) ∨ i = 98 ∨ i = 100 → jkpg N k i c = B i c := fun i c hh => (jkpg_n (by omega) (by omega)).trans (hN i c (by omega))
  have e95 : jkpg N k 95 = N 95 := funext fun c => jkpg_n (by omega) (by omega)
  refine ⟨τ2, min (k + 1) 8, (j + 1) % 9, by omega, by omega, (hA 13 1 (by omega)).trans jkeep_13.1, (hA 13 2 (by omega)).trans jkeep_13.2, jkpg_3 a2, ?_, q1, q2, ?_, rSv_c a10 (fun i c q => hlow i c (by omega)) (fun i c q => hup i c (by omega)), rTx_c a11 (fun i c q => hlow i c (by omega)) (fun i c q => hup i c (by omega)), rRs_c a12 (fun c q => hlow 0 c (by omega)) (fun c q => hup 94 c (by omega))⟩
  · rw [q3, e95]; exact hnow
  · rw [q3]; exact hf
theorem jtr_at {N : MM} {i c : Nat} (h : i ≠ 96) (h2 : ¬ (i = 94 ∧ (c = 16 ∨ c = 19))) : jtr N i c = N i c := by
  unfold jtr
  rw [jcp_n h, jm_n (by omega), jm_n (by omega)]
theorem jtr_95 {N : MM} : jtr N 95 = N 95 := funext fun c => jtr_at (by omega) (by omega)
theorem jtr_96 {N : MM} {c : Nat} (h : c < 466) : jtr N 96 c = N 95 c := by
  unfold jtr
  rw [show c = 0 + c by omega, jcp_at h, Nat.zero_add, jm_n (by omega), jm_n (by omega)]
theorem jtr_16 {N : MM} : jtr N 94 16 = 0 := by
  unfold jtr
  rw [jcp_n (by omega), jm_s]
theorem rel_ref {A B : MM} {r z : Int32} (h : Rel A B) : Rel (jref A r z) (jrai (jrefu (jtr B) r z) 1) := by
  have hr : rRs A B := by
    obtain ⟨τ, k, j, -, -, -, -, -, -, -, -, -, -, -, hr⟩ := h
    exact hr
  refine Rel_x h (fun i k q _ q2 => ?_) (fun i k q => ?_) ?_
  · unfold jref; rw [jm_n (by omega), jm_n (by omega), jm_n (by omega)]
  · unfold jrai jrefu; rw [jm_n (by omega), jm_n (by omega), jm_n (by omega), jm_n (by omega), jtr_at (by omega) (by omega)]
  · obtain ⟨r1, r2, r3, r4, r5, q, r6, r7⟩ := hr
    unfold jref jrai jrefu
    refine ⟨?_, ?_, ?_, ?_, ?_, q, r6, ?_⟩
    · rw [jm_n (by omega), jm_n (by omega), jm_s, jm_n (by omega), jm_n (by omega), jm_n (by omega), jm_s]
    · rw [jm_n (by omega), jm_s, jm_n (by omega), jm_n (by omega), jm_s]
    · rw [jm_s, jm_n (by omega), jm_s, r5, jtr_16]
    · rw [jm_n (by omega), jm_n (by omega), jm_n (by omega), jm_n (by omega), jm_n (by omega), jm_n (by omega), jm_n (by omega), jtr_at (by omega) (by omega)]; exact r4
    · rw [jm_n (by omega), jm_n (by omega), jm_n (by omega)]; exact r5
    · rw [jm_n (by omega), jm_n (by omega), jm_n (by omega), jm_n (by omega), jtr_at (by omega) (by omega)]; exact r7
theorem hi_ref {M : MM} {r z : Int32} : hiE M (jref M r z) := fun i k q => by
  unfold jref; rw [jm_n (by omega), jm_n (by omega), jm_n (by omega)]
theorem rel_19 {A B : MM} {v : Int32} (h : Rel A B) : Rel A (jm B 94 19 v) := Rel_c h (fun _ _ _ _ => rfl) (fun i k q => jm_n (by omega))
theorem rel_19t {A B : MM} {v w : Int32} (h : Rel A B) : Rel A (jrai (jm B 94 19 v) w) := by
  unfold jrai
  exact rel_19 (rel_19 h)
theorem rel_count {A B : MM} {n : Nat} (h : Rel A B) : Rel (jcount A n) B := Rel_c h (fun i k q _ => jcount_n (by omega)) (fun _ _ _ => rfl)
theorem hi_count {M : MM} {n : Nat} : hiE M (jcount M n) := fun i k q => jcount_n (by omega)
theorem hi_keep {M : MM} {j k : Nat} (hj : j < 9) : hiE M (jkeep M j k) := fun i c q => jkeep_old (by omega) (by omega)
theorem hi_jm {M N : MM} {a k : Nat} {v : Int32} (h : hiE M N) (ha : a < 92) : hiE M (jm N a k v) := fun i c q => by
  rw [jm_n (by omega)]; exact h i c q
theorem hi_put {M N : MM} {n a : Nat} {t v : Int32} (h : hiE M N) (ha : a < 92) : hiE M (jput n N a t v) := fun i c q => by
  rw [m_put (by omega)]; exact h i c q
theorem hi_t {M N K : MM} (h : hiE M N) (h2 : hiE N K) : hiE M K := fun i c q => (h2 i c q).trans (h i c q)
theorem hi_lg {M N : MM} {a g : Nat} (h : hiE M N) (hg : g + 5 < 92) : hiE M (jlg N a g) := fun i c q => by
  rw [jlg_n (by omega)]; exact h i c q
theorem RelP.now {τ : Nat → Nat × Bool} {k j : Nat} {A B : MM} (h : RelP τ k j A B) : rL (τ k).1 (τ k).2 (lgC A 1) (B 95) := h.2.2.2.2.2.1
theorem RelP.fix {τ : Nat → Nat × Bool} {k j : Nat} {A B : MM} (h : RelP τ k j A B) : (τ k).2 = true → rFix (τ k).1 A := h.2.2.2.2.2.2.2.2.1
theorem RelP.hi {τ : Nat → Nat × Bool} {k j : Nat} {A B B2 : MM} (h : RelP τ k j A B) (hB : hiE B B2) : RelP τ k j A B2 := by
  obtain ⟨a1, a2, a3, a4, a5, a6, a7, a8, a9, a10, a11, a12⟩ := h
  exact ⟨a1, a2, a3, a4, (hB 94 3 (by omega)).trans a5, rL_cells a6 (fun _ _ _ _ => rfl) (fun k _ => hB 95 k (by omega)), fun i hi => rL_cells (a7 i hi) (fun _ _ _ _ => rfl) (fun k _ => hB 97 _ (by omega)), a8, a9, rSv_c a10 (fun _ _ _ => rfl) (fun i c q => hB i c (by omega)), rTx_c a11 (fun _ _ _ => rfl) (fun i c q => hB i c (by omega)), rRs_c a12 (fun _ _ => rfl) (fun c q => hB 94 c (by omega))⟩
theorem rL_z {t : Nat} {dr : Bool} {A : MM} {a : Nat} {R : Nat → Int32} (h : rL t dr (lgC A a) R) : A a 2 = 0 ∨ A a 2 = 1 := by
  have h2 : A a 2 = if dr = true then 1 else 0 := h.2.2.2.2.2.1
  cases dr with
  | false => exact Or.inl h2
  | true => exact Or.inr h2

