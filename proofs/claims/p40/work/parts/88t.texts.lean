/-! ===== undo, save, restore, append, commands: what they do to the ghost ===== -/
theorem c_append_full {d : Nat} {b : SBt} {Y : OUt} {M : MM} (hb : 94 ≤ b.2.1) {v : Int32} (h0 : M 86 0 = 60) : CM (d + 1) 1 6 yX5_append cX5_append 2 (some .int) [.ref 0, .int v] b Y M (.inr "java/lang/IllegalStateException") (M) := by
  refine Con.of (by decide +kernel) (Nat.le_of_ble_eq_true rfl) rfl fun p l e s m args below meth c D tyc A ad0 x hr htab hname => ?_
  change JJ _ _ _ _ _ _ _ _ _ _ _ _ _ _ _ _ _ 0 [some (.ref 0), some (.int v)] [] _ 0 0
  refine j_aload_n x dX5_append_0 rfl ?_
  refine j2_getr (k := 7) (r := 86) x hb dX5_append_1 jc_9 wfX5_47 (by decide) rfl ?_
  refine j2_callVi x hb dX5_append_4 m_X4_isFull (CM_v (c_isFull (d := d) hb) (jb_t (show ¬ M 86 0 < 60 by rw [h0]; decide))) wmX5_302 jc_8 rfl rfl rfl (Nat.le_of_ble_eq_true rfl) (j_fit_rm (by omega) (by omega) (by omega)) rfl ?_
  refine j_if_eq (tgt := 21) x dX5_append_7 (by decide) (fun hc => absurd hc (by decide)) (fun hc => ?_)
  exact j_throwSW x exX5_305 wsX5_307 dX5_append_10 dX5_append_13 dX5_append_14 dX5_append_17 dX5_append_20 htab (by omega) (by omega) ⟨rfl, rfl⟩
theorem PU_no {b : SBt} {Y : OUt} {A B : MM} (I : InvP b A B) (h : B 94 3 = 0) : SPc b Y A B yL_undo cL_undo 2 [(0, 4, 5, 101)] [.ref 0] (fun y B1 => y = -1001 ∧ B1 = B) := by
  have hb := I.hb
  obtain ⟨τ, k, j, hP⟩ := Rel_P.mp I.1
  have hk := hP.2.1
  have e : k = 0 := (nI_eq (by omega) (by omega)).mp (hP.2.2.2.2.1.symm.trans h)
  subst e
  exact SPc.mk I (H_undo_t1 (d := 19) hb (c_undo_no (d := 19) (Y := Y) hb hP.2.2.2.1)) (by decide) (by decide) hiE_0 I.1 ⟨rfl, rfl⟩
def UndoB (B B1 : MM) (k : Nat) : Prop := (∀ c, c < 466 → B1 95 c = B 97 (466 * k + c)) ∧ (∀ c, B1 97 c = B 97 c) ∧ (∀ c, B1 98 c = B 98 c) ∧ B1 94 3 = nI k ∧ B1 94 5 = B 94 5
theorem PU_ok {b : SBt} {Y : OUt} {A B : MM} (I : InvP b A B) {k : Nat} (hk : k < 8) (h : B 94 3 = nI (k + 1)) : SPc b Y A B yL_undo cL_undo 2 [(0, 4, 5, 101)] [.ref 0] (fun y B1 => y = nI k ∧ UndoB B B1 k) := by
  have hb := I.hb
  obtain ⟨τ, k2, j, hP⟩ := Rel_P.mp I.1
  have hj := hP.1
  have hk2 := hP.2.1
  have e : k2 = k + 1 := (nI_eq (by omega) (by omega)).mp (hP.2.2.2.2.1.symm.trans h)
  subst e
  have hs := hP.2.2.2.2.2.2.1 k (Nat.lt_succ_self k)
  rw [show (j + 9 - (k + 1) + k) % 9 = (j + 8) % 9 by omega] at hs
  have hhi : hiE A (jgl A j (k + 1)) := hi_lg (hi_jm (hi_jm hiE_0 (by omega)) (by omega)) (by omega)
  have hc := c_undo_ok (d := 15) (Y := Y) hb hj (Nat.succ_pos k) hk2 hP.2.2.1 hP.2.2.2.1 (rL_z hs)
  refine SPc.mk (B1 := gUndo B k) I (H_undo_r hb hc) (by decide) (by decide) hhi (rel_undo hP) ⟨rfl, fun c hc => gUndo_95 hc, fun c => gUndo_at (by omega) (by omega), fun c => gUndo_at (by omega) (by omega), ?_, gUndo_at (by omega) (by omega)⟩
  unfold gUndo
  rw [jcp_n (by omega), jm_s]
theorem PW_no {b : SBt} {Y : OUt} {A B : MM} (I : InvP b A B) (h : B 94 5 = 0) : SPc b Y A B yL_restore cL_restore 2 [(0, 4, 5, 101)] [.ref 0] (fun y B1 => y = -1001 ∧ B1 = B) := by
  have hb := I.hb
  have hsv : rSv A B := by
    obtain ⟨τ, k, j, -, -, -, -, -, -, -, -, -, h, -⟩ := I.1
    exact h
  rcases hsv with ⟨s1, s2⟩ | ⟨s1, s2, -⟩
  · exact SPc.mk I (H_restore_t1 (d := 19) hb (c_restore_no (d := 19) (Y := Y) hb s1)) (by decide) (by decide) hiE_0 I.1 ⟨rfl, rfl⟩
  · rw [h] at s2
    exact absurd s2 (by decide)
def RestB (B B1 : MM) : Prop := (∀ c, c < 466 → B1 95 c = B 98 c) ∧ (∀ c, B1 97 c = B 97 c) ∧ (∀ c, B1 98 c = B 98 c) ∧ B1 94 3 = 0 ∧ B1 94 5 = B 94 5
theorem restB {B : MM} : RestB B (gRest B) := ⟨fun c hc => gRest_95 hc, fun c => gRest_at (by omega) (by omega), fun c => gRest_at (by omega) (by omega), by unfold gRest; rw [jm_s], gRest_at (by omega) (by omega)⟩
theorem PW_ok {b : SBt} {Y : OUt} {A B : MM} (I : InvP b A B) (h : B 94 5 = 1) : SPc b Y A B yL_restore cL_restore 2 [(0, 4, 5, 101)] [.ref 0] (fun y B1 => y = B 98 0 ∧ RestB B B1) := by
  have hb := I.hb
  have hsv : rSv A B := by
    obtain ⟨τ, k, j, -, -, -, -, -, -, -, -, -, h, -⟩ := I.1
    exact h
  rcases hsv with ⟨s1, s2⟩ | ⟨s1, s2, t, dr, hs⟩
  · rw [h] at s2
    exact absurd s2 (by decide)
  · have ht := hs.1
    have h70 : A 7 0 = nI t := hs.2.1
    have h72 : A 7 2 = if dr = true then 1 else 0 := hs.2.2.2.2.2.1
    have hr1 : hiE A (jres1 A) := hi_jm (hi_lg hiE_0 (by omega)) (by omega)
    have hs0 : ¬ A 0 2 = 0 := by rw [s1]; decide
    have hv : nI t = B 98 0 := hs.2.2.1.symm
    cases dr with
    | false =>
      have hc := c_restore_un (d := 15) (Y := Y) hb hs0 (rL_z hs) h72
      rw [h70] at hc
      exact SPc.mk (B1 := gRest B) I (H_restore_r hb hc) (by decide) (by decide) hr1 (rel_rest I.1 hs (fun _ _ _ => rfl) (fun i c q => by unfold jres1; rw [jm_n (by omega), jlg_n (by omega)]) (fun z => by cases z)) ⟨hv, restB⟩
    | true =>
      have h2 : 2 ≤ t := hs.2.2.2.2.1 rfl
      have hl : (t % 2 = 0 ∧ gP t - 1 + 1 = t) ∨ (t % 2 = 1 ∧ gP t - 1 = t) := by unfold gP; omega
      have hc := c_restore_dr (d := 15) (Y := Y) hb hs0 (rL_z hs) (by rw [h72]; decide) h70 hl (by unfold gP; omega) ht
      have hhi : hiE A (jly t (gP t - 1) (jres1 A) (2 * (gP t - 1))) := hi_ly hr1
      exact SPc.mk (B1 := gRest B) I (H_restore_r hb hc) (by decide) (by decide) hhi (rel_rest I.1 hs (fun i c q => jly_n (by omega) _) (fun i c q => by rw [jly_n (by omega)]; unfold jres1; rw [jm_n (by omega), jlg_n (by omega)]) (fun _ => jly_fix h2 ht)) ⟨hv, restB⟩
def AppB (B B1 : MM) (n q : Nat) : Prop := Same B B1 ∧ B1 94 9 = nI (n + 1) ∧ (∀ i, B1 100 i = if i = n then nI q else B 100 i) ∧ B1 94 13 = B 94 13 ∧ B1 94 14 = B 94 14 ∧ B1 94 15 = B 94 15 ∧ B1 94 17 = B 94 17
theorem PA_ok {b : SBt} {Y : OUt} {A B : MM} (I : InvP b A B) {n q : Nat} (hn : n < 60) (h : B 94 9 = nI n) (hq : q < 65536) : SPc b Y A B yL_append cL_append 3 [(0, 5, 6, 101)] [.ref 0, .int (nI q)] (fun y B1 => y = nI (n + 1) ∧ AppB B B1 n q) := by
  have hb := I.hb
  obtain ⟨n2, t1, t2, t3, -⟩ : rTx A B := by
    obtain ⟨τ, k, j, -, -, -, -, -, -, -, -, -, -, h, -⟩ := I.1
    exact h
  have e : n2 = n := (nI_eq (by omega) (by omega)).mp (t3.symm.trans h)
  subst e
  have hv : vp_nar .char (nI q) = nI q := by
    unfold vp_nar
    rw [(pk_charN hq).1]
  have hhi : hiE A (jm (jm A 87 n2 (nI q)) 86 0 (nI (n2 + 1))) := hi_jm (hi_jm hiE_0 (by omega)) (by omega)
  have hc := c_append_ok (d := 18) (Y := Y) hb hn t2 hv
  refine SPc.mk (B1 := jm (jm (jm B 94 19 0) 94 9 (nI (n2 + 1))) 100 n2 (nI q)) I (H_append_r hb hc) (by decide) (by decide) hhi (rel_app I.1 hn t2 t3 hq) ⟨rfl, ⟨fun c _ => ?_, fun c => ?_, fun c => ?_, ?_, ?_⟩, ?_, fun i => ?_, ?_, ?_, ?_, ?_⟩
  · rw [jm_n (by omega), jm_n (by omega), jm_n (by omega)]
  · rw [jm_n (by omega), jm_n (by omega), jm_n (by omega)]
  · rw [jm_n (by omega), jm_n (by omega), jm_n (by omega)]
  · rw [jm_n (by omega), jm_n (by omega), jm_n (by omega)]
  · rw [jm_n (by omega), jm_n (by omega), jm_n (by omega)]
  · rw [jm_n (by omega), jm_s]
  · by_cases c : i = n2
    · subst c; rw [jm_s, if_pos rfl]
    · rw [jm_n (by omega), jm_n (by omega), jm_n (by omega), if_neg c]
  · rw [jm_n (by omega), jm_n (by omega), jm_n (by omega)]
  · rw [jm_n (by omega), jm_n (by omega), jm_n (by omega)]
  · rw [jm_n (by omega), jm_n (by omega), jm_n (by omega)]
  · rw [jm_n (by omega), jm_n (by omega), jm_n (by omega)]
theorem PA_no {b : SBt} {Y : OUt} {A B : MM} (I : InvP b A B) (h : B 94 9 = nI 60) {v : Int32} : SPc b Y A B yL_append cL_append 3 [(0, 5, 6, 101)] [.ref 0, .int v] (fun y B1 => y = -1001 ∧ B1 = B) := by
  have hb := I.hb
  obtain ⟨n2, t1, t2, t3, -⟩ : rTx A B := by
    obtain ⟨τ, k, j, -, -, -, -, -, -, -, -, -, -, h, -⟩ := I.1
    exact h
  have e : n2 = 60 := (nI_eq (by omega) (by omega)).mp (t3.symm.trans h)
  subst e
  exact SPc.mk I (H_append_t1 (d := 19) hb (c_append_full (d := 18) (Y := Y) hb t2)) (by decide) (by decide) hiE_0 I.1 ⟨rfl, rfl⟩
/-- class and reference carry out the same (the reference as numbers alone) -/
theorem carry_invG {t : Nat} {dr : Bool} {A B : MM} {n i j : Nat} (hL : rL t dr (lgC A 1) (B 95)) (hF : dr = true → rFix t A) (hj : j < 9) (hT : tsg (A 87) n = tsg (B 100) n) (hlet : ∀ c, c < i + 1 → pF (A 87) n (ppo (A 87) n c) = none) : ∀ c, c ≤ i + 1 →
    (∀ e, e < c → cref (jat12 (cm0 A n i j) e) (nn t dr) (cm0 A n i j 88 e) (cm0 A n i j 89 e) (cm0 A n i j 90 e) (cm0 A n i j 91 e) = none) →
    rL t dr (lgC (jac (cm0 A n i j) c) 1) (gse (gB0 B n i) n (nn t dr) c 95) ∧
    (c < i + 1 → cref (jat12 (cm0 A n i j) c) (nn t dr) (cm0 A n i j 88 c) (cm0 A n i j 89 c) (cm0 A n i j 90 c) (cm0 A n i j 91 c) = gcR (gB0 B n i) n (nn t dr) c ∧
      (cref (jat12 (cm0 A n i j) c) (nn t dr) (cm0 A n i j 88 c) (cm0 A n i j 89 c) (cm0 A n i j 90 c) (cm0 A n i j 91 c) = none → rL t dr (lgC (jac (cm0 A n i j) (c + 1)) 1) (gcS (gB0 B n i) n (nn t dr) c 95))) := by
  have e100 : gB0 B n i 100 = B 100 := by rw [gB0_t]; funext k; exact jtr_at (by omega) (by omega)
  -- what one command gives, once the leagues agree before it
  have one : ∀ c, c < i + 1 → rL t dr (lgC (jac (cm0 A n i j) c) 1) (gse (gB0 B n i) n (nn t dr) c 95) → cref (jat12 (cm0 A n i j) c) (nn t dr) (cm0 A n i j 88 c) (cm0 A n i j 89 c) (cm0 A n i j 90 c) (cm0 A n i j 91 c) = gcR (gB0 B n i) n (nn t dr) c ∧
      (cref (jat12 (cm0 A n i j) c) (nn t dr) (cm0 A n i j 88 c) (cm0 A n i j 89 c) (cm0 A n i j 90 c) (cm0 A n i j 91 c) = none → rL t dr (lgC (jac (cm0 A n i j) (c + 1)) 1) (gcS (gB0 B n i) n (nn t dr) c 95)) := fun c hc hR => by
    have hX : rL t dr (lgC (jat12 (cm0 A n i j) c) 1) (gqp (gB0 B n i) n (nn t dr) c 95) := rL_cells hR (fun a k _ _ => jm_n (by omega)) (fun k _ => by rw [gqp_95])
    have hfX : dr = true → rFix t (jat12 (cm0 A n i j) c) := fun hd => rFix_c (hF hd) (fun a k z1 z2 => (jat12_n (by omega)).trans (cm0_n hj (by omega) (by omega) (by omega)))
    obtain ⟨r1, r2, r3, r4⟩ := cm0_rows (M := A) (n := n) (i := i) hj hc
    have hl := pF_let (hlet c hc)
    have eT : tsg (gB0 B n i 100) n = tsg (A 87) n := by rw [e100]; exact hT.symm
    have ep : ppo (gB0 B n i 100) n c = ppo (A 87) n c := ppo_e eT c
    have ou : gqp (gB0 B n i) n (nn t dr) c 94 11 = tsg (A 87) n (ppo (A 87) n c) := by rw [gqp_o, ep, eT]
    have eS : tsg (gse (gB0 B n i) n (nn t dr) c 100) n = tsg (A 87) n := by rw [gse_t]; exact eT
    have o1 : ¬ tsg (A 87) n (ppo (A 87) n c) = 110 → gqp (gB0 B n i) n (nn t dr) c 101 0 = p1 (A 87) n (ppo (A 87) n c) := fun z => by
      rw [gqp_101, gcm_0, ep, eS, if_neg z, p1_e eS]
    have o2 : tsg (A 87) n (ppo (A 87) n c) = 109 ∨ tsg (A 87) n (ppo (A 87) n c) = 111 ∨ tsg (A 87) n (ppo (A 87) n c) = 116 → gqp (gB0 B n i) n (nn t dr) c 101 1 = p2 (A 87) n (ppo (A 87) n c) := fun z => by
      rw [gqp_101, gcm_1, ep, eS, if_neg (fun y => by rcases z with z | z | z <;> rcases y with y | y <;> (rw [z] at y; exact absurd y (by decide))), p2_e eS]
    have o3 : tsg (A 87) n (ppo (A 87) n c) = 109 ∨ tsg (A 87) n (ppo (A 87) n c) = 116 → gqp (gB0 B n i) n (nn t dr) c 101 2 = p3 (A 87) n (ppo (A 87) n c) := fun z => by
      rw [gqp_101, gcm_2, ep, eS, if_pos z, p3_e eS]
    rw [r1, r2, r3, r4]
    refine ⟨?_, fun hn => ?_⟩
    · unfold gcR
      rw [ou]
      exact carry_ref hX hfX o1 o2 o3 hl
    · have hA := carry_app hX hfX o1 o2 o3 hl hn
      unfold gcS
      rw [ou]
      refine rL_cells hA (fun a k _ _ => ?_) (fun _ _ => rfl)
      rw [jac_step, jat12_n (by omega), jat12_n (by omega), jat12_n (by omega), jat12_n (by omega), r1, r2, r3, r4]
  have all : ∀ c, c ≤ i + 1 → (∀ e, e < c → cref (jat12 (cm0 A n i j) e) (nn t dr) (cm0 A n i j 88 e) (cm0 A n i j 89 e) (cm0 A n i j 90 e) (cm0 A n i j 91 e) = none) → rL t dr (lgC (jac (cm0 A n i j) c) 1) (gse (gB0 B n i) n (nn t dr) c 95) := by
    intro c
    induction c with
    | zero =>
      intro _ _
      refine rL_cells hL (fun a k z1 z2 => cm0_n hj (by omega) (by omega) (by omega)) (fun k _ => ?_)
      show gB0 B n i 95 k = B 95 k
      rw [gB0_n (by omega) (by omega), jtr_at (by omega) (by omega)]
    | succ c ih =>
      intro hc he
      have h := (one c (by omega) (ih (by omega) (fun e z => he e (by omega)))).2 (he c (by omega))
      refine rL_cells h (fun _ _ _ _ => rfl) (fun k _ => ?_)
      rw [gse_s, jm_n (by omega)]
  exact fun c hc he => ⟨all c hc he, fun hc2 => one c hc2 (all c hc he)⟩
def FltB (B B1 : MM) (q : Nat) : Prop := Same B B1 ∧ B1 94 9 = 0 ∧ B1 94 13 = nI q ∧ B1 94 14 = B 94 14 ∧ B1 94 15 = B 94 15 ∧ B1 94 17 = B 94 17
theorem PC_fault {b : SBt} {Y : OUt} {A B : MM} (I : InvP b A B) {N : MM} {q : Nat} (hN : ∀ i k, i < 86 ∨ i = 87 ∨ 91 < i → N i k = A i k) (hq : N 86 1 = nI q) (C : CM 18 0 0 yX4_isParsed cX4_isParsed 2 (some .boolean) [.ref 86] b Y A (.inl (some (.int 0))) N) : SPc b Y A B yL_commands cL_commands 2 [(0, 4, 5, 47), (0, 4, 10, 13)] [.ref 0] (fun y B1 => y = -1001 ∧ FltB B B1 q) := by
  have hb := I.hb
  obtain ⟨τ, k, j, hP⟩ := Rel_P.mp I.1
  have hc := c_commands_fault (d := 13) hb C
  rw [hq] at hc
  have hhi : hiE A (cmF N q) := fun i c z => by unfold cmF; rw [jm_n (by omega), jm_n (by omega)]; exact hN i c (by omega)
  refine SPc.mk (B1 := jm (jm B 94 13 (nI q)) 94 9 0) I (H_commands_t1 (d := 19) hb hc) (by decide) (by decide) hhi ⟨τ, k, j, hP.txt (fun i c z1 z2 => ?_) (fun i c z => ?_) ?_ ?_ ?_⟩ ⟨rfl, ⟨fun c _ => ?_, fun c => ?_, fun c => ?_, ?_, ?_⟩, ?_, ?_, ?_, ?_, ?_⟩
  · rw [jm_n (by omega), jm_n (by omega)]; exact hN i c (by omega)
  · rw [jm_n (by omega), jm_n (by omega)]
  · rw [jm_n (by omega), jm_s]
  · rw [jm_s]
  · rw [jm_s, jm_n (by omega), jm_s]
  · rw [jm_n (by omega), jm_n (by omega)]
  · rw [jm_n (by omega), jm_n (by omega)]
  · rw [jm_n (by omega), jm_n (by omega)]
  · rw [jm_n (by omega), jm_n (by omega)]
  · rw [jm_n (by omega), jm_n (by omega)]
  · rw [jm_s]
  · rw [jm_n (by omega), jm_s]
  · rw [jm_n (by omega), jm_n (by omega)]
  · rw [jm_n (by omega), jm_n (by omega)]
  · rw [jm_n (by omega), jm_n (by omega)]
/-- a text of n signs: what each command says (the ghost's signs) -/
abbrev cmdU (T : Nat → Int32) (n c : Nat) : Nat := ppo T n c
theorem PC_A {b : SBt} {Y : OUt} {A B : MM} (I : InvP b A B) {n i q : Nat} (h9 : B 94 9 = nI n) (hn60 : n ≤ 60) (hi : i < 30) (hg : ∀ j, j < i → pgo (B 100) n j) (hq : pF (B 100) n (ppo (B 100) n i) = some q) : SPc b Y A B yL_commands cL_commands 2 [(0, 4, 5, 47), (0, 4, 10, 13)] [.ref 0] (fun y B1 => y = -1001 ∧ FltB B B1 q) := by
  have hb := I.hb
  obtain ⟨τ, k, j, hP⟩ := Rel_P.mp I.1
  obtain ⟨n2, t1, t2, t3, t4⟩ : rTx A B := hP.2.2.2.2.2.2.2.2.2.2.1
  have e : n2 = n := (nI_eq (by omega) (by omega)).mp (t3.symm.trans h9)
  subst e
  have hT : tsg (A 87) n2 = tsg (B 100) n2 := tsg_e (fun i hi => (t4 i hi).1)
  have hg : ∀ j, j < i → pgo (A 87) n2 j := fun j hj => (pgo_e hT).mpr (hg j hj)
  have hq : pF (A 87) n2 (ppo (A 87) n2 i) = some q := by rw [ppo_e hT, pF_e hT]; exact hq
  have hN : ∀ a c, a < 86 ∨ a = 87 ∨ 91 < a → jpos (jpa A n2 i) q a c = A a c := fun a c z => (jpos_n (by omega)).trans (jpa_n (by omega) i)
  exact PC_fault I hN jpos_s (c_isParsed_A (d := 13) hb t1 t2 hi hg hq)
/-- the commands are read; one is refused -/
def RefI (B B1 : MM) (r z : Int32) (i : Nat) : Prop := Same B B1 ∧ B1 94 9 = 0 ∧ B1 94 13 = -1 ∧ B1 94 14 = r ∧ B1 94 15 = z ∧ B1 94 17 = nI i
def cmB (B : MM) : MM := jm (jm B 94 9 0) 94 13 (-1)
def cmR (B : MM) (r z : Int32) (i : Nat) : MM := jm (jm (jm (cmB B) 94 14 r) 94 15 z) 94 17 (nI i)
def cmN (B : MM) (R : Nat → Int32) : MM := fun a c => if a = 95 then R c else if a = 96 then B 95 c else cmB B a c
def OkB' (B B1 : MM) (R : Nat → Int32) : Prop := PushB B B1 ∧ B1 95 = R
theorem PC_B {b : SBt} {Y : OUt} {A B : MM} (I : InvP b A B) {n i : Nat} (h9 : B 94 9 = nI n) (hn60 : n ≤ 60) (hi : i < 30) (hg : ∀ j, j < i → pgo (B 100) n j) (hFi : pF (B 100) n (ppo (B 100) n i) = none) (hE : tsg (B 100) n (pN (B 100) n (ppo (B 100) n i)) = -1) : SPc b Y A B yL_commands cL_commands 2 [(0, 4, 5, 47), (0, 4, 10, 13)] [.ref 0] (fun y B1 => (∃ i0 r z n2, i0 < i + 1 ∧ B 95 9 = nI n2 ∧ n2 ≤ 56 ∧ (∀ c, c < i0 → gcR (gB0 B n i) n n2 c = none) ∧ gcR (gB0 B n i) n n2 i0 = some (r, z) ∧ y = -1002 ∧ RefI B B1 r z i0) ∨ (y = nI (i + 1) ∧ (∃ n2, B 95 9 = nI n2 ∧ ∀ c, c < i + 1 → gcR (gB0 B n i) n n2 c = none) ∧ (∃ R, OkB' B B1 R ∧ R 1 = B 95 1 ∧ R 0 = B 95 0 ∧ ∀ c, c < 8 → R (10 + c) = B 95 (10 + c)))) := by
  have hb := I.hb
  obtain ⟨τ, k, j, hP⟩ := Rel_P.mp I.1
  have hL := hP.now
  have hF := hP.fix
  obtain ⟨t, et⟩ : ∃ t, (τ k).1 = t := ⟨_, rfl⟩
  obtain ⟨dr, ed⟩ : ∃ dr, (τ k).2 = dr := ⟨_, rfl⟩
  have hX : (t, dr) = τ k := by rw [← et, ← ed]
  rw [et, ed] at hL hF
  have hj := hP.1
  have hk := hP.2.1
  have h943 : B 94 3 = nI k := hP.2.2.2.2.1
  obtain ⟨n2, t1, t2, t3, t4⟩ : rTx A B := hP.2.2.2.2.2.2.2.2.2.2.1
  have e : n2 = n := (nI_eq (by omega) (by omega)).mp (t3.symm.trans h9)
  subst e
  have hT : tsg (A 87) n2 = tsg (B 100) n2 := tsg_e (fun i hi => (t4 i hi).1)
  have hg : ∀ j, j < i → pgo (A 87) n2 j := fun j hj => (pgo_e hT).mpr (hg j hj)
  have hFi : pF (A 87) n2 (ppo (A 87) n2 i) = none := by rw [ppo_e hT, pF_e hT]; exact hFi
  have hE : tsg (A 87) n2 (pN (A 87) n2 (ppo (A 87) n2 i)) = -1 := by rw [ppo_e hT, pN_e hT, hT]; exact hE
  have hN : ∀ a c, a < 86 ∨ a = 87 ∨ 91 < a → jcm A n2 i a c = A a c := fun a c z => jcm_n (by omega)
  have hok : ∀ c, c < i + 1 → pF (A 87) n2 (ppo (A 87) n2 c) = none := fun c hc => by
    by_cases e : c = i
    · subst e; exact hFi
    · exact (hg c (by omega)).1
  have hn := nn_le (dr := dr) hL.1
  have hmc := jmc_r hL hF
  have h959 : B 95 9 = nI (nn t dr) := hL.2.2.2.2.2.2.2.1
  have hC := c_isParsed_B (d := 13) (Y := Y) hb t1 t2 hi hg hFi hE
  have hjc : jmc (cm0 A n2 i j) = nI (nn t dr) := by
    rw [← hmc]; unfold jmc; rw [cm0_n hj (by omega) (by omega) (by omega), cm0_n hj (by omega) (by omega) (by omega)]
  have hlet : ∀ c, c < i + 1 → isLet (cm0 A n2 i j 88 c) := fun c hc => by
    rw [(cm0_rows (M := A) (n := n2) (i := i) hj hc).1]; exact pF_let (hok c hc)
  have h13 : ∀ c, cm0 A n2 i j 13 c = A 13 c := fun c => cm0_n hj (by omega) (by omega) (by omega)
  have hZ : ∀ q c, q < 75 → ¬ (q = 0 ∧ c = 8) → jm (jm (jcm A n2 i) 86 0 0) 0 8 (-1) q c = A q c := fun q c z1 z2 => by rw [jm_n (by omega), jm_n (by omega)]; exact hN q c (by omega)
  have r5 : A 0 12 = 0 := hP.2.2.2.2.2.2.2.2.2.2.2.2.2.2.2.1
  have hinv := carry_invG (A := A) (B := B) (n := n2) (i := i) hL hF hj hT hok
  have hB95 : cmB B 95 = B 95 := funext fun c => by unfold cmB; rw [jm_n (by omega), jm_n (by omega)]
  have hP3 : RelP τ k j (jm (jm A 86 0 0) 0 8 (-1)) (cmB B) := hP.txt (fun a c z1 z2 => by rw [jm_n (by omega), jm_n (by omega)]) (fun a c z1 => by unfold cmB; rw [jm_n (by omega), jm_n (by omega)]) (by rw [jm_n (by omega), jm_s]) (by unfold cmB; rw [jm_n (by omega), jm_s]) (by unfold cmB; rw [jm_s, jm_s])
  rcases first_no (fun c => cref (jat12 (cm0 A n2 i j) c) (nn t dr) (cm0 A n2 i j 88 c) (cm0 A n2 i j 89 c) (cm0 A n2 i j 90 c) (cm0 A n2 i j 91 c)) (i + 1) with hall | ⟨i0, r, z, hi0, hbef, hat⟩
  · -- all are carried out
    have C2 := c_areCarriedOut_ok (d := 13) (b := b) (Y := Y) (M := cm0 A n2 i j) hb hn hjc (show i + 1 ≤ 30 by omega) (cm0_2 hj) hlet hall
    have hc := c_commands_ok (d := 13) (Y := Y) (k := k) hb hC hj hk ((hN 13 1 (by omega)).trans hP.2.2.1) (by rw [hN 1 2 (by omega)]; exact rL_z hL) C2 (by rw [jm_n (by omega), jac_n (by omega), h13]; exact hP.2.2.1) (by rw [jm_n (by omega), jac_n (by omega), h13]; exact hP.2.2.2.1)
    obtain ⟨A2, eA⟩ : ∃ A2, jkh (jm (jac (cm0 A n2 i j) (i + 1)) 0 12 0) j k = A2 := ⟨_, rfl⟩
    have hval : A2 86 2 = nI (i + 1) := by
      rw [← eA]; unfold jkh; rw [jm_n (by omega), jm_n (by omega), jm_n (by omega), jac_n (by omega)]; exact cm0_2 hj
    have hlow : ∀ a c, a ≠ 13 → ¬ (a = 0 ∧ c = 12) → A2 a c = jac (cm0 A n2 i j) (i + 1) a c := fun a c z1 z2 => by
      rw [← eA]; unfold jkh; rw [jm_n (by omega), jm_n (by omega), jm_n (by omega)]
    have hhi : hiE A A2 := fun a c q => by
      rw [hlow a c (by omega) (by omega), jac_n (by omega)]
      exact cm0_n hj (by omega) (by omega) (by omega)
    rw [eA, hval] at hc
    have hlast := ((hinv i (by omega) (fun e he => hall e (by omega))).2 (by omega)).2 (hall i (by omega))
    obtain ⟨R, eR⟩ : ∃ R, gcS (gB0 B n2 i) n2 (nn t dr) i 95 = R := ⟨_, rfl⟩
    rw [eR] at hlast
    have hN5 : ∀ a c, (a = 94 ∧ c ≠ 10 ∧ c ≠ 11 ∧ c ≠ 16 ∧ c ≠ 18 ∧ c ≠ 19) ∨ a = 97 ∨ a = 98 ∨ a = 100 → cmN B R a c = cmB B a c := fun a c z => by unfold cmN; rw [if_neg (by omega), if_neg (by omega)]
    have h96 : ∀ c, c < 466 → cmN B R 96 c = cmB B 95 c := fun c _ => by unfold cmN; rw [if_neg (by omega), if_pos rfl, hB95]
    have e95 : cmN B R 95 = R := funext fun c => by unfold cmN; rw [if_pos rfl]
    have hpb := push_B (B := cmB B) (N := cmN B R) (R := R) hk (hP3.2.2.2.2.1) hN5 h96 e95
    refine SPc.mk (B1 := jkpg (cmN B R) k) I (H_commands_r hb hc) (by decide) (by decide) hhi ?_ (Or.inr ⟨rfl, ⟨nn t dr, h959, fun c hc => by rw [← ((hinv c (by omega) (fun e he => hall e (by omega))).2 (by omega)).1]; exact hall c hc⟩, R, ⟨?_, hpb.2.1⟩, hlast.2.2.2.2.2.2.1.trans hL.2.2.2.2.2.2.1.symm, hlast.2.2.1.trans hL.2.2.1.symm, fun c hc => (hlast.2.2.2.1 c hc).symm.trans ((jac_n (by omega) _).trans ((cm0_n hj (by omega) (by omega) (by omega)).trans (hL.2.2.2.1 c hc)))⟩)
    · refine rel_push (x := (t, dr)) hP3 (fun _ => hX) (rL_cells hlast (fun a c z1 z2 => hlow _ _ (by omega) (by omega)) (fun c _ => by rw [e95])) (fun q => rFix_c (hF q) (fun a c z1 z2 => (hlow a c (by omega) (by omega)).trans ((jac_n (by omega) _).trans (cm0_n hj (by omega) (by omega) (by omega))))) (fun a c q => ?_) hN5 h96
      unfold jkeep
      rw [← eA]
      unfold jkh
      by_cases c1 : a = 13 ∧ c = 2
      · obtain ⟨rfl, rfl⟩ := c1; rw [jm_s, jm_s]
      · rw [jm_n c1, jm_n c1]
        by_cases c2 : a = 13 ∧ c = 1
        · obtain ⟨rfl, rfl⟩ := c2; rw [jm_s, jm_s]
        · rw [jm_n c2, jm_n c2]
          by_cases c3 : a = 0 ∧ c = 12
          · obtain ⟨rfl, rfl⟩ := c3
            rw [jm_s, jlg_n (by omega), jm_n (by omega), jm_n (by omega)]; exact r5.symm
          · rw [jm_n c3, jac_n (by omega)]
            unfold cm0
            refine jlg_row (fun q2 c2 z1 z2 => ?_) ?_
            · rw [hZ q2 c2 (by omega) (by omega), jm_n (by omega), jm_n (by omega)]
            · by_cases c4 : a = 0 ∧ c = 8
              · obtain ⟨rfl, rfl⟩ := c4; rw [jm_s, jm_s]
              · rw [jm_n c4, jm_n c4]
                by_cases c5 : a = 86 ∧ c = 0
                · obtain ⟨rfl, rfl⟩ := c5; rw [jm_s, jm_s]
                · rw [jm_n c5, jm_n c5]; exact hN a c (by omega)
    · obtain ⟨k2, p1, p2, p3, p4, p5, p6⟩ := hpb.1
      have hcm : ∀ a c, ¬ (a = 94 ∧ (c = 9 ∨ c = 13)) → cmB B a c = B a c := fun a c z => by unfold cmB; rw [jm_n (by omega), jm_n (by omega)]
      refine ⟨k2, p1, (hcm 94 3 (by omega)).symm.trans p2, p3, fun i c hi hc => ?_, fun c => (p5 c).trans (hcm 98 c (by omega)), p6.trans (hcm 94 5 (by omega))⟩
      rw [p4 i c hi hc, hcm 95 c (by omega), hcm 97 _ (by omega), hcm 97 _ (by omega)]
  · -- one is refused
    have C2 := c_areCarriedOut_no (d := 13) (b := b) (Y := Y) (M := cm0 A n2 i j) hb hn hjc (show i + 1 ≤ 30 by omega) (cm0_2 hj) hlet hi0 hbef hat
    have hN2 : ∀ a c, ¬ (a = 0 ∧ (c = 9 ∨ c = 10 ∨ c = 11 ∨ c = 12)) → 6 < a ∨ a = 0 → jm (jref (jat12 (cm0 A n2 i j) i0) r z) 0 12 0 a c = cm0 A n2 i j a c := fun a c z1 z2 => by
      unfold jref
      rw [jm_n (by omega), jm_n (by omega), jm_n (by omega), jm_n (by omega)]
      exact jat12_n (by omega)
    have hslot : ∀ {R : Nat → Int32}, (∀ c, c < 466 → R c = B 95 c) → rL t dr (lgC (jm (jref (jat12 (cm0 A n2 i j) i0) r z) 0 12 0) (15 + 6 * j)) R := fun {R} hR => by
      refine rL_copy (A := jm (jm (jcm A n2 i) 86 0 0) 0 8 (-1)) (a := 1) (g := 15 + 6 * j) (R := B 95) (rL_cells hL (fun a c z1 z2 => hZ a c (by omega) (by omega)) (fun _ _ => rfl)) (fun a c z1 z2 => hN2 a c (by omega) (by omega)) hR
    have hc := c_commands_no (d := 13) (Y := Y) hb hC hj hk ((hN 13 1 (by omega)).trans hP.2.2.1) (by rw [hN 1 2 (by omega)]; exact rL_z hL) C2 ((hN2 13 1 (by omega) (by omega)).trans ((h13 1).trans hP.2.2.1)) (rL_z (hslot fun _ _ => rfl))
    obtain ⟨A2, eA⟩ : ∃ A2, jlg (jm (jref (jat12 (cm0 A n2 i j) i0) r z) 0 12 0) (15 + 6 * j) 1 = A2 := ⟨_, rfl⟩
    have hA2 : ∀ a c, (a < 1 ∨ 6 < a) → A2 a c = jm (jref (jat12 (cm0 A n2 i j) i0) r z) 0 12 0 a c := fun a c q => by rw [← eA]; exact jlg_n (by omega)
    have hlow : ∀ a c, (a = 0 ∨ (6 < a ∧ a < 15) ∨ (69 ≤ a ∧ a < 86) ∨ 91 < a) → ¬ (a = 0 ∧ (c = 8 ∨ c = 9 ∨ c = 10 ∨ c = 11 ∨ c = 12)) → A2 a c = A a c := fun a c z1 z2 => by
      rw [hA2 a c (by omega), hN2 a c (by omega) (by omega)]
      exact cm0_n hj (by omega) (by omega) (by omega)
    have hhi : hiE A A2 := fun a c q => hlow a c (by omega) (by omega)
    rw [eA] at hc
    have hgR : ∀ c, c < i0 → gcR (gB0 B n2 i) n2 (nn t dr) c = none := fun c hc => by
      rw [← ((hinv c (by omega) (fun e he => hbef e (by omega))).2 (by omega)).1]; exact hbef c hc
    have hgN : gcR (gB0 B n2 i) n2 (nn t dr) i0 = some (r, z) := by
      rw [← ((hinv i0 (by omega) hbef).2 hi0).1]; exact hat
    have hK : ∀ a c, ¬ (a = 94 ∧ (c = 9 ∨ c = 13 ∨ c = 14 ∨ c = 15 ∨ c = 17)) → cmR B r z i0 a c = B a c := fun a c z1 => by
      unfold cmR cmB
      rw [jm_n (by omega), jm_n (by omega), jm_n (by omega), jm_n (by omega), jm_n (by omega)]
    have hP2 := hP
    obtain ⟨a1, a2, a3, a4, a5, a6, a7, a8, a9, a10, -, ⟨-, -, -, -, -, q7, q8, q9⟩⟩ := hP2
    refine SPc.mk (B1 := cmR B r z i0) I (H_commands_t2 (d := 19) hb hc) (by decide) (by decide) hhi ⟨τ, k, j, a1, a2, (hlow 13 1 (by omega) (by omega)).trans a3, (hlow 13 2 (by omega) (by omega)).trans a4, (hK 94 3 (by omega)).trans a5, ?_, fun c hc => ?_, a8, fun hd => rFix_c (a9 hd) (fun a c _ _ => hlow a c (by omega) (by omega)), rSv_c a10 (fun a c q => hlow a c (by omega) (by omega)) (fun a c q => hK a c (by omega)), ⟨0, by omega, ?_, ?_, fun c hc => absurd hc (Nat.not_lt_zero c)⟩, ⟨?_, ?_, ?_, ?_, ?_, q7, q8, (hK 94 7 (by omega)).trans q9⟩⟩ (Or.inl ⟨i0, r, z, nn t dr, hi0, h959, hn, hgR, hgN, rfl, ⟨fun c _ => hK 95 c (by omega), fun c => hK 97 c (by omega), fun c => hK 98 c (by omega), hK 94 3 (by omega), hK 94 5 (by omega)⟩, ?_, ?_, ?_, ?_, ?_⟩)
    · rw [et, ed]
      exact rL_copy (hslot fun _ _ => rfl) (fun a c z1 z2 => by rw [← eA]) (fun c hc => hK 95 c (by omega))
    · refine rL_cells (a7 c hc) (fun a q z1 z2 => ?_) (fun q _ => hK 97 _ (by omega))
      rw [hA2 a q (by omega), hN2 a q (by omega) (by omega)]
      unfold cm0
      rw [jlg_n (by omega)]
      exact hZ a q (by omega) (by omega)
    · rw [hA2 86 0 (by omega), hN2 86 0 (by omega) (by omega)]
      unfold cm0
      rw [jlg_n (by omega), jm_n (by omega), jm_s]
      rfl
    · unfold cmR cmB; rw [jm_n (by omega), jm_n (by omega), jm_n (by omega), jm_n (by omega), jm_s]; rfl
    · rw [hA2 0 9 (by omega)]
      unfold jref cmR
      rw [jm_n (by omega), jm_n (by omega), jm_n (by omega), jm_s, jm_n (by omega), jm_n (by omega), jm_s]
    · rw [hA2 0 10 (by omega)]
      unfold jref cmR
      rw [jm_n (by omega), jm_n (by omega), jm_s, jm_n (by omega), jm_s]
    · rw [hA2 0 11 (by omega)]
      unfold jref cmR
      rw [jm_n (by omega), jm_s, jm_s]
      exact jm_s
    · rw [hA2 0 8 (by omega), hN2 0 8 (by omega) (by omega)]
      unfold cm0 cmR cmB
      rw [jlg_n (by omega), jm_s, jm_n (by omega), jm_n (by omega), jm_n (by omega), jm_s]
    · rw [hA2 0 12 (by omega), jm_s]
    · unfold cmR cmB; rw [jm_n (by omega), jm_n (by omega), jm_n (by omega), jm_n (by omega), jm_s]
    · unfold cmR cmB; rw [jm_n (by omega), jm_n (by omega), jm_n (by omega), jm_s]
    · unfold cmR; rw [jm_n (by omega), jm_n (by omega), jm_s]
    · unfold cmR; rw [jm_n (by omega), jm_s]
    · unfold cmR; rw [jm_s]
/-- any text: fault, refusal, or carried out -/
def CmdZ (B : MM) (y : Int32) (B1 : MM) : Prop := (y < 0 ∧ Same B B1) ∨ (¬ y < 0 ∧ PushB B B1 ∧ B1 95 1 = B 95 1 ∧ B1 95 0 = B 95 0 ∧ ∀ c, c < 8 → B1 95 (10 + c) = B 95 (10 + c))
theorem P_commands {b : SBt} {Y : OUt} {A B : MM} (I : InvP b A B) : SPc b Y A B yL_commands cL_commands 2 [(0, 4, 5, 47), (0, 4, 10, 13)] [.ref 0] (CmdZ B) := by
  have hb := I.hb
  obtain ⟨τ, k, j, hP⟩ := Rel_P.mp I.1
  obtain ⟨n, t1, t2, t3, t4⟩ : rTx A B := hP.2.2.2.2.2.2.2.2.2.2.1
  have hT : tsg (A 87) n = tsg (B 100) n := tsg_e (fun i hi => (t4 i hi).1)
  have flt : ∀ {q : Nat} {y : Int32} {B1 : MM}, (y = -1001 ∧ FltB B B1 q) → CmdZ B y B1 := fun z => Or.inl ⟨by rw [z.1]; decide, z.2.1⟩
  rcases first_stop (A 87) n 30 with hg | ⟨i, hi, hg, hng⟩
  · have hN : ∀ i k, i < 86 ∨ i = 87 ∨ 91 < i → jpa A n 30 i k = A i k := fun i k z => jpa_n (by omega) 30
    exact (PC_fault I hN (jpa_p 30) (c_isParsed_D (d := 13) hb t1 t2 hg)).mono fun y B1 z => flt z
  · cases hFi : pF (A 87) n (ppo (A 87) n i) with
    | some q =>
      have hN : ∀ a c, a < 86 ∨ a = 87 ∨ 91 < a → jpos (jpa A n i) q a c = A a c := fun a c z => (jpos_n (by omega)).trans (jpa_n (by omega) i)
      exact (PC_fault I hN jpos_s (c_isParsed_A (d := 13) hb t1 t2 hi hg hFi)).mono fun y B1 z => flt z
    | none =>
      have hE59 : ¬ tsg (A 87) n (pN (A 87) n (ppo (A 87) n i)) = 59 := fun z => hng ⟨hFi, z⟩
      by_cases hE : tsg (A 87) n (pN (A 87) n (ppo (A 87) n i)) = -1
      · refine (PC_B I t3 t1 hi (fun j hj => (pgo_e hT).mp (hg j hj)) (by rw [← ppo_e hT, ← pF_e hT]; exact hFi) (by rw [← ppo_e hT, ← pN_e hT, ← hT]; exact hE)).mono fun y B1 z => ?_
        rcases z with ⟨i0, r, z2, n2, -, -, -, -, -, hy, hR, -⟩ | ⟨hy, -, R, hR, h1, h0, h10⟩
        · exact Or.inl ⟨by rw [hy]; decide, hR⟩
        · exact Or.inr ⟨by rw [hy]; exact nI_pos (by omega), hR.1, by rw [hR.2]; exact h1, by rw [hR.2]; exact h0, fun c hc => by rw [hR.2]; exact h10 c hc⟩
      · have hN : ∀ a c, a < 86 ∨ a = 87 ∨ 91 < a → jcm A n i a c = A a c := fun a c z => jcm_n (by omega)
        exact (PC_fault I hN jcm_p (c_isParsed_C (d := 13) hb t1 t2 hi hg hFi hE hE59)).mono fun y B1 z => flt z
