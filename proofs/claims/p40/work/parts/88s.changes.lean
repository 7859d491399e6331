/-! ===== changes: what they do to the ghost ===== -/
/-- the league, what is kept, what is saved: as they were -/
def Same (B B1 : MM) : Prop := (∀ c, c < 466 → B1 95 c = B 95 c) ∧ (∀ c, B1 97 c = B 97 c) ∧ (∀ c, B1 98 c = B 98 c) ∧ B1 94 3 = B 94 3 ∧ B1 94 5 = B 94 5
theorem Same_0 {B : MM} : Same B B := ⟨fun _ _ => rfl, fun _ => rfl, fun _ => rfl, rfl, rfl⟩
theorem Same_t {B B1 B2 : MM} (h : Same B B1) (k : Same B1 B2) : Same B B2 := ⟨fun c hc => (k.1 c hc).trans (h.1 c hc), fun c => (k.2.1 c).trans (h.2.1 c), fun c => (k.2.2.1 c).trans (h.2.2.1 c), k.2.2.2.1.trans h.2.2.2.1, k.2.2.2.2.trans h.2.2.2.2⟩
/-- refused: the reason, its detail; no text's command -/
def RefB (B B1 : MM) (r z : Int32) : Prop := Same B B1 ∧ B1 94 14 = r ∧ B1 94 15 = z ∧ B1 94 17 = 0 ∧ B1 94 9 = B 94 9 ∧ B1 94 13 = B 94 13
theorem refB {B : MM} {r z : Int32} : RefB B (jrai (jrefu (jtr B) r z) 1) r z := by
  unfold jrai jrefu
  refine ⟨⟨fun c _ => ?_, fun c => ?_, fun c => ?_, ?_, ?_⟩, ?_, ?_, ?_, ?_, ?_⟩
  · rw [jm_n (by omega), jm_n (by omega), jm_n (by omega), jm_n (by omega), jtr_95]
  · rw [jm_n (by omega), jm_n (by omega), jm_n (by omega), jm_n (by omega)]; exact jtr_at (by omega) (by omega)
  · rw [jm_n (by omega), jm_n (by omega), jm_n (by omega), jm_n (by omega)]; exact jtr_at (by omega) (by omega)
  · rw [jm_n (by omega), jm_n (by omega), jm_n (by omega), jm_n (by omega)]; exact jtr_at (by omega) (by omega)
  · rw [jm_n (by omega), jm_n (by omega), jm_n (by omega), jm_n (by omega)]; exact jtr_at (by omega) (by omega)
  · rw [jm_n (by omega), jm_n (by omega), jm_n (by omega), jm_s]
  · rw [jm_n (by omega), jm_n (by omega), jm_s]
  · rw [jm_n (by omega), jm_s, jtr_16]
  · rw [jm_n (by omega), jm_n (by omega), jm_n (by omega), jm_n (by omega)]; exact jtr_at (by omega) (by omega)
  · rw [jm_n (by omega), jm_n (by omega), jm_n (by omega), jm_n (by omega)]; exact jtr_at (by omega) (by omega)
/-- a change that is kept -/
def PushB (B B1 : MM) : Prop := ∃ k, k ≤ 8 ∧ B 94 3 = nI k ∧ B1 94 3 = nI (min (k + 1) 8) ∧ (∀ i c, i < min (k + 1) 8 → c < 466 → B1 97 (466 * i + c) = if i = min k 7 then B 95 c else if k = 8 then B 97 (466 * (i + 1) + c) else B 97 (466 * i + c)) ∧ (∀ c, B1 98 c = B 98 c) ∧ B1 94 5 = B 94 5
def OkB (B B1 : MM) (R : Nat → Int32) : Prop := PushB B B1 ∧ B1 95 = R ∧ B1 94 9 = B 94 9 ∧ B1 94 13 = B 94 13
theorem push_B {B N : MM} {k : Nat} {R : Nat → Int32} (hk : k ≤ 8) (h3 : B 94 3 = nI k) (hN : ∀ i c, (i = 94 ∧ c ≠ 10 ∧ c ≠ 11 ∧ c ≠ 16 ∧ c ≠ 18 ∧ c ≠ 19) ∨ i = 97 ∨ i = 98 ∨ i = 100 → N i c = B i c) (h96 : ∀ c, c < 466 → N 96 c = B 95 c) (hR : N 95 = R) : OkB B (jkpg N k) R := by
  refine ⟨⟨k, hk, h3, jkpg_3 hk, fun i c hi hc => ?_, fun c => (jkpg_n (by omega) (by omega)).trans (hN 98 c (by omega)), (jkpg_n (by omega) (by omega)).trans (hN 94 5 (by omega))⟩, ?_, (jkpg_n (by omega) (by omega)).trans (hN 94 9 (by omega)), (jkpg_n (by omega) (by omega)).trans (hN 94 13 (by omega))⟩
  · rw [jkpg_97 hk hi hc, h96 c hc, hN 97 _ (by omega), hN 97 _ (by omega)]
  · rw [← hR]
    exact funext fun c => jkpg_n (by omega) (by omega)
theorem jm_95 {N N2 : MM} {k : Nat} {v : Int32} (h : N 95 = N2 95) : jm N 95 k v 95 = jm N2 95 k v 95 := funext fun c => by
  by_cases e : c = k
  · subst e; rw [jm_s, jm_s]
  · rw [jm_n (by omega), jm_n (by omega), h]
/-- a helper's call that changes the league, or is refused -/
def SPc (b : SBt) (Y : OUt) (A B : MM) (yL : MethodName) (cL : ByteArray) (mL : Nat) (hh : List (Nat × Nat × Nat × Nat)) (asL : List Value) (Z : Int32 → MM → Prop) : Prop :=
  ∃ mc ms, mc ≤ 1 ∧ ms ≤ 6 ∧ ConH 20 mc ms yL cL mL (some .int) hh asL (HH b Y A) (fun o s => ∃ v A1 B1, o = .inl (some (.int v)) ∧ s = HH b Y A1 ∧ InvP b A1 B1 ∧ Z v B1)
theorem SPc.mk {b : SBt} {Y : OUt} {A A1 B B1 : MM} {yL : MethodName} {cL : ByteArray} {mL : Nat} {hh : List (Nat × Nat × Nat × Nat)} {asL : List Value} {mc ms : Nat} {k : Int32} {Z : Int32 → MM → Prop} (I : InvP b A B) (H : CMH 20 mc ms yL cL mL (some .int) hh asL b Y A k Y A1) (hmc : mc ≤ 1) (hms : ms ≤ 6) (h1 : hiE A A1) (h3 : Rel A1 B1) (hZ : Z k B1) : SPc b Y A B yL cL mL hh asL Z :=
  ⟨mc, ms, hmc, hms, ConH.mono H fun o s q => ⟨k, A1, B1, q.1, q.2, ⟨h3, SBp_c I.2 fun i c z => h1 i c (by omega)⟩, hZ⟩⟩
theorem SPc.mono {b : SBt} {Y : OUt} {A B : MM} {yL : MethodName} {cL : ByteArray} {mL : Nat} {hh : List (Nat × Nat × Nat × Nat)} {asL : List Value} {Z Z2 : Int32 → MM → Prop} (h : SPc b Y A B yL cL mL hh asL Z) (hz : ∀ v B1, Z v B1 → Z2 v B1) : SPc b Y A B yL cL mL hh asL Z2 := by
  obtain ⟨mc, ms, h1, h2, h3⟩ := h
  exact ⟨mc, ms, h1, h2, ConH.mono h3 fun o s ⟨v, A1, B1, q1, q2, q3, q4⟩ => ⟨v, A1, B1, q1, q2, q3, hz _ _ q4⟩⟩
theorem jsum_01 {f : Nat → Int32} (h : ∀ i, f i = 0 ∨ f i = 1) : ∀ n, ∃ m, m ≤ n ∧ jsum f n = nI m
  | 0 => ⟨0, Nat.le_refl _, rfl⟩
  | n + 1 => by
    obtain ⟨m, h1, h2⟩ := jsum_01 h n
    rcases h n with e | e
    · exact ⟨m, by omega, by rw [jsum, h2, e, Int32.add_zero]⟩
    · exact ⟨m + 1, by omega, by rw [jsum, h2, e, nI_1]⟩
theorem jb_01 {p : Prop} [Decidable p] : jb p = 0 ∨ jb p = 1 := by
  by_cases h : p
  · exact Or.inr (jb_t h)
  · exact Or.inl (jb_f h)
theorem nI_m1001 {m : Nat} (h : m < 2 ^ 31) : ¬ nI m = -1001 := fun z => nI_pos h (by rw [z]; decide)
theorem PR_team {b : SBt} {Y : OUt} {A B : MM} (I : InvP b A B) {u r z : Int32} (hr : rTeam A u = some (r, z)) : SPc b Y A B yL_team cL_team 3 [(0, 5, 6, 13)] [.ref 0, .int u] (fun y B1 => y = -1001 ∧ RefB B B1 r z) :=
  SPc.mk I (H_team_t1 (d := 19) I.hb (c_team_no (d := 17) I.hb hr)) (by decide) (by decide) hi_ref (rel_ref I.1) ⟨rfl, refB⟩
theorem PR_ground {b : SBt} {Y : OUt} {A B : MM} (I : InvP b A B) {u v r z : Int32} (hr : rGround A u v = some (r, z)) : SPc b Y A B yL_ground cL_ground 4 [(0, 6, 7, 13)] [.ref 0, .int u, .int v] (fun y B1 => y = -1001 ∧ RefB B B1 r z) :=
  SPc.mk I (H_ground_t1 (d := 19) I.hb (c_ground_no (d := 17) I.hb hr)) (by decide) (by decide) hi_ref (rel_ref I.1) ⟨rfl, refB⟩
theorem PR_draw {b : SBt} {Y : OUt} {A B : MM} (I : InvP b A B) {r z : Int32} (hr : rDraw A = some (r, z)) : SPc b Y A B yL_draw cL_draw 2 [(0, 4, 5, 13)] [.ref 0] (fun y B1 => y = -1001 ∧ RefB B B1 r z) :=
  SPc.mk I (H_draw_t1 (d := 19) I.hb (c_draw_no (d := 17) I.hb hr)) (by decide) (by decide) hi_ref (rel_ref I.1) ⟨rfl, refB⟩
theorem PR_rules {b : SBt} {Y : OUt} {A B : MM} (I : InvP b A B) {u v w r z : Int32} (hr : rRules u v w = some (r, z)) : SPc b Y A B yL_rules cL_rules 5 [(0, 7, 8, 13)] [.ref 0, .int u, .int v, .int w] (fun y B1 => y = -1001 ∧ RefB B B1 r z) :=
  SPc.mk I (H_rules_t1 (d := 19) I.hb (c_rules_no (d := 17) I.hb hr)) (by decide) (by decide) hi_ref (rel_ref I.1) ⟨rfl, refB⟩
theorem PR_result {b : SBt} {Y : OUt} {A B : MM} (I : InvP b A B) {u v w r z : Int32} (hr : rRes A u v w = some (r, z)) : SPc b Y A B yL_result cL_result 5 [(0, 7, 8, 13)] [.ref 0, .int u, .int v, .int w] (fun y B1 => y = -1001 ∧ RefB B B1 r z) :=
  SPc.mk I (H_result_t1 (d := 19) I.hb (c_result_no (d := 15) I.hb hr)) (by decide) (by decide) hi_ref (rel_ref I.1) ⟨rfl, refB⟩
theorem PR_back {b : SBt} {Y : OUt} {A B : MM} (I : InvP b A B) {u r z : Int32} (hr : rBack A u = some (r, z)) : SPc b Y A B yL_back cL_back 3 [(0, 5, 6, 13)] [.ref 0, .int u] (fun y B1 => y = -1001 ∧ RefB B B1 r z) :=
  SPc.mk I (H_back_t1 (d := 19) I.hb (c_back_no (d := 15) I.hb hr)) (by decide) (by decide) hi_ref (rel_ref I.1) ⟨rfl, refB⟩
theorem PR_putOff {b : SBt} {Y : OUt} {A B : MM} (I : InvP b A B) {u v r z : Int32} (hr : rPut A u v = some (r, z)) : SPc b Y A B yL_putOff cL_putOff 4 [(0, 6, 7, 13)] [.ref 0, .int u, .int v] (fun y B1 => y = -1001 ∧ RefB B B1 r z) :=
  SPc.mk I (H_putOff_t1 (d := 19) I.hb (c_putOff_no (d := 15) I.hb hr)) (by decide) (by decide) hi_ref (rel_ref I.1) ⟨rfl, refB⟩
theorem PR_next {b : SBt} {Y : OUt} {A B : MM} (I : InvP b A B) (hd : ¬ B 95 1 = 0) {n : Nat} (hn9 : B 95 9 = nI n) (hn56 : n ≤ 56) {r z : Int32} (hr : gNext B n = some (r, z)) : SPc b Y A B yL_next cL_next 2 [(0, 4, 5, 13)] [.ref 0] (fun y B1 => y = -1001 ∧ RefB B B1 r z) := by
  have hb := I.hb
  obtain ⟨τ, k, j, hP⟩ := Rel_P.mp I.1
  have hL := hP.now
  have hF := hP.fix
  obtain ⟨t, et⟩ : ∃ t, (τ k).1 = t := ⟨_, rfl⟩
  obtain ⟨dr, ed⟩ : ∃ dr, (τ k).2 = dr := ⟨_, rfl⟩
  have hX : (τ k).2 = true → (t, dr) = τ k := fun _ => by rw [← et, ← ed]
  rw [et, ed] at hL hF
  have ht := hL.1
  have hn := nn_le (dr := dr) ht
  have hm := jmc_r hL hF
  have hz := zz_0 hL.1 hL.2.2.2.2.1
  have h951 : B 95 1 = nI (zz t dr) := hL.2.2.2.2.2.2.1
  have h959 : B 95 9 = nI (nn t dr) := hL.2.2.2.2.2.2.2.1
  have h10 : A 1 0 = nI t := hL.2.1
  have h950 : B 95 0 = nI t := hL.2.2.1
  have h12 : A 1 2 = if dr = true then 1 else 0 := hL.2.2.2.2.2.1
  have hj := hP.1
  have hk := hP.2.1
  have h943 : B 94 3 = nI k := hP.2.2.2.2.1
  have hdr : dr = true := by
    cases dr with
    | true => rfl
    | false => exact absurd h951 hd
  subst hdr
  have e : n = nn t true := (nI_eq (by omega) (by omega)).mp (hn9.symm.trans h959)
  subst e
  have hRR := next_r hL hF
  rw [if_neg hd, hr] at hRR
  exact SPc.mk I (H_next_t1 (d := 19) hb (c_next_no (d := 15) hb hn hm hRR)) (by decide) (by decide) hi_ref (rel_ref I.1) ⟨rfl, refB⟩
theorem PO_team {b : SBt} {Y : OUt} {A B : MM} (I : InvP b A B) (hd : B 95 1 = 0) {q : Nat} (hq : B 95 0 = nI q) (h8 : q < 8) {u : Int32} (hu : ¬ u < 0 ∧ ¬ 9 < u) : SPc b Y A B yL_team cL_team 3 [(0, 5, 6, 13)] [.ref 0, .int u] (fun y B1 => y = nI q ∧ OkB B B1 (jm (jm B 95 0 (nI (q + 1))) 95 (10 + q) u 95)) := by
  have hb := I.hb
  obtain ⟨τ, k, j, hP⟩ := Rel_P.mp I.1
  have hL := hP.now
  have hF := hP.fix
  obtain ⟨t, et⟩ : ∃ t, (τ k).1 = t := ⟨_, rfl⟩
  obtain ⟨dr, ed⟩ : ∃ dr, (τ k).2 = dr := ⟨_, rfl⟩
  have hX : (τ k).2 = true → (t, dr) = τ k := fun _ => by rw [← et, ← ed]
  rw [et, ed] at hL hF
  have ht := hL.1
  have hn := nn_le (dr := dr) ht
  have hm := jmc_r hL hF
  have hz := zz_0 hL.1 hL.2.2.2.2.1
  have h951 : B 95 1 = nI (zz t dr) := hL.2.2.2.2.2.2.1
  have h959 : B 95 9 = nI (nn t dr) := hL.2.2.2.2.2.2.2.1
  have h10 : A 1 0 = nI t := hL.2.1
  have h950 : B 95 0 = nI t := hL.2.2.1
  have h12 : A 1 2 = if dr = true then 1 else 0 := hL.2.2.2.2.2.1
  have hj := hP.1
  have hk := hP.2.1
  have h943 : B 94 3 = nI k := hP.2.2.2.2.1
  have hdr : dr = false := by
    cases dr with
    | false => rfl
    | true =>
      have := wT_pos (hL.2.2.2.2.1 rfl)
      have h14 := wT_le ht
      rw [hd] at h951
      exact absurd h951.symm (nI_ne0 (n := wT t) (by omega) (by omega))
  subst hdr
  have e : q = t := (nI_eq (by omega) (by omega)).mp (hq.symm.trans h950)
  subst e
  have hr : rTeam A u = none := by
    unfold rTeam
    rw [if_neg (fun z => z hu), if_neg (by rw [h12]; decide), if_neg (fun z => z (by rw [h10]; exact (nI_lt h8 (by decide) : nI q < nI 8)))]
  have hm : jteam A j k u = jm (jm (jkeep A j k) 2 q u) 1 0 (nI (q + 1)) := by
    unfold jteam
    rw [keep_lo (by omega) hj, h10, jput_nI h8 (by decide), jm_n (by omega), keep_lo (by omega) hj, h10, nI_1]
  have hhi : hiE A (jteam A j k u) := by rw [hm]; exact hi_jm (hi_jm (hi_keep hj) (by omega)) (by omega)
  have hc := c_team_ok (d := 15) (Y := Y) hb hr hj hk hP.2.2.1 hP.2.2.2.1 (rL_z hL)
  have hN : ∀ i c, (i = 94 ∧ c ≠ 10 ∧ c ≠ 11 ∧ c ≠ 16 ∧ c ≠ 18 ∧ c ≠ 19) ∨ i = 97 ∨ i = 98 ∨ i = 100 → gTeam B q u i c = B i c := fun i c z => by unfold gTeam; rw [jm_n (by omega), jm_n (by omega)]; exact jtr_at (by omega) (by omega)
  have h96 : ∀ c, c < 466 → gTeam B q u 96 c = B 95 c := fun c z => by unfold gTeam; rw [jm_n (by omega), jm_n (by omega)]; exact jtr_96 z
  refine SPc.mk (B1 := jkpg (gTeam B q u) k) I (H_team_r hb hc) (by decide) (by decide) hhi ?_ ⟨?_, push_B hk h943 hN h96 (jm_95 (jm_95 jtr_95))⟩
  · refine rel_push (x := (q + 1, false)) hP (fun z => by rw [ed] at z; cases z) ?_ (fun z => by cases z) (fun i c z => ?_) hN h96
    · rw [hm]
      exact now_team (keep_now hj hL (fun c _ => by rw [jtr_95])) h8
    · rw [hm, jm_n (by omega), jm_n (by omega)]
  · rw [hm, jm_s]; exact nI_pred q
theorem PO_ground {b : SBt} {Y : OUt} {A B : MM} (I : InvP b A B) {t q : Nat} (h0 : B 95 0 = nI t) (ht8 : t ≤ 8) (hq : q < t) {v : Int32} (hx : ¬ v < 0 ∧ ¬ 9 < v) : SPc b Y A B yL_ground cL_ground 4 [(0, 6, 7, 13)] [.ref 0, .int (nI q), .int v] (fun y B1 => y = B 95 (10 + q) ∧ OkB B B1 (jm B 95 (10 + q) v 95)) := by
  have hb := I.hb
  obtain ⟨τ, k, j, hP⟩ := Rel_P.mp I.1
  have hL := hP.now
  have hF := hP.fix
  obtain ⟨t2, et⟩ : ∃ t, (τ k).1 = t := ⟨_, rfl⟩
  obtain ⟨dr, ed⟩ : ∃ dr, (τ k).2 = dr := ⟨_, rfl⟩
  have hX : (τ k).2 = true → (t2, dr) = τ k := fun _ => by rw [← et, ← ed]
  rw [et, ed] at hL hF
  have ht := hL.1
  have hn := nn_le (dr := dr) ht
  have hm := jmc_r hL hF
  have hz := zz_0 hL.1 hL.2.2.2.2.1
  have h951 : B 95 1 = nI (zz t2 dr) := hL.2.2.2.2.2.2.1
  have h959 : B 95 9 = nI (nn t2 dr) := hL.2.2.2.2.2.2.2.1
  have h10 : A 1 0 = nI t2 := hL.2.1
  have h950 : B 95 0 = nI t2 := hL.2.2.1
  have h12 : A 1 2 = if dr = true then 1 else 0 := hL.2.2.2.2.2.1
  have hj := hP.1
  have hk := hP.2.1
  have h943 : B 94 3 = nI k := hP.2.2.2.2.1
  have e : t = t2 := (nI_eq (by omega) (by omega)).mp (h0.symm.trans h950)
  subst e
  have hT1 := (in_q1 (x := nI q) (n := t) (by omega)).mpr ⟨q, hq, rfl⟩
  rw [← h10] at hT1
  have hr : rGround A (nI q) v = none := by unfold rGround; rw [if_neg (fun z => z hT1), if_neg (fun z => z hx)]
  have hm : jground A j k (nI q) v = jm (jkeep A j k) 2 q v := by unfold jground; rw [jput_nI (by omega) (by decide)]
  have hhi : hiE A (jground A j k (nI q) v) := by rw [hm]; exact hi_jm (hi_keep hj) (by omega)
  have hc := c_ground_ok (d := 13) (Y := Y) hb hr hj hk hP.2.2.1 hP.2.2.2.1 (rL_z hL)
  have hN : ∀ i c, (i = 94 ∧ c ≠ 10 ∧ c ≠ 11 ∧ c ≠ 16 ∧ c ≠ 18 ∧ c ≠ 19) ∨ i = 97 ∨ i = 98 ∨ i = 100 → gGround B q v i c = B i c := fun i c z => by unfold gGround; rw [jm_n (by omega)]; exact jtr_at (by omega) (by omega)
  have h96 : ∀ c, c < 466 → gGround B q v 96 c = B 95 c := fun c z => by unfold gGround; rw [jm_n (by omega)]; exact jtr_96 z
  refine SPc.mk (B1 := jkpg (gGround B q v) k) I (H_ground_r hb hc) (by decide) (by decide) hhi ?_ ⟨?_, push_B hk h943 hN h96 (jm_95 jtr_95)⟩
  · refine rel_push (x := (t, dr)) hP hX ?_ (fun z => rFix_c (hF z) (fun i c q1 q2 => ?_)) (fun i c z => ?_) hN h96
    · rw [hm]
      exact now_ground (keep_now hj hL (fun c _ => by rw [jtr_95])) (by omega)
    · rw [hm, jm_n (by omega)]; exact keep_lo (by omega) hj
    · rw [hm, jm_n (by omega)]
  · rw [jat_nI (by omega) (by decide), keep_lo (by omega) hj]; exact hL.2.2.2.1 q (by omega)
theorem gz_95 {N N2 : MM} {c : Nat} (h : N 95 = N2 95) : ∀ i, gz N c i 95 = gz N2 c i 95
  | 0 => h
  | i + 1 => jm_95 (gz_95 h i)
theorem gadd_95 {N N2 : MM} {c t w j : Nat} (h : N 95 = N2 95) : gadd N c t w j 95 = gadd N2 c t w j 95 := jm_95 (jm_95 (jm_95 (jm_95 (gz_95 (jm_95 h) 8))))
theorem gdj_95 {N N2 : MM} {t w : Nat} (h : N 95 = N2 95) : ∀ j, gdj N t w j 95 = gdj N2 t w j 95
  | 0 => h
  | j + 1 => by
    rw [gdj, gdj]
    split
    · exact gadd_95 (gdj_95 h j)
    · exact gdj_95 h j
theorem gdw_95 {N N2 : MM} {t : Nat} (h : N 95 = N2 95) : ∀ w, gdw N t w 95 = gdw N2 t w 95
  | 0 => jm_95 h
  | w + 1 => by rw [gdw, gdw]; exact gdj_95 (gdw_95 h w) t
theorem PO_draw {b : SBt} {Y : OUt} {A B : MM} (I : InvP b A B) (hd : B 95 1 = 0) {t : Nat} (h0 : B 95 0 = nI t) (h2 : 2 ≤ t) (ht8 : t ≤ 8) : SPc b Y A B yL_draw cL_draw 2 [(0, 4, 5, 13)] [.ref 0] (fun y B1 => y = nI (wT t) ∧ OkB B B1 (gdw B t (wT t) 95)) := by
  have hb := I.hb
  obtain ⟨τ, k, j, hP⟩ := Rel_P.mp I.1
  have hL := hP.now
  have hF := hP.fix
  obtain ⟨t2, et⟩ : ∃ t, (τ k).1 = t := ⟨_, rfl⟩
  obtain ⟨dr, ed⟩ : ∃ dr, (τ k).2 = dr := ⟨_, rfl⟩
  have hX : (τ k).2 = true → (t2, dr) = τ k := fun _ => by rw [← et, ← ed]
  rw [et, ed] at hL hF
  have ht := hL.1
  have hn := nn_le (dr := dr) ht
  have hm := jmc_r hL hF
  have hz := zz_0 hL.1 hL.2.2.2.2.1
  have h951 : B 95 1 = nI (zz t2 dr) := hL.2.2.2.2.2.2.1
  have h959 : B 95 9 = nI (nn t2 dr) := hL.2.2.2.2.2.2.2.1
  have h10 : A 1 0 = nI t2 := hL.2.1
  have h950 : B 95 0 = nI t2 := hL.2.2.1
  have h12 : A 1 2 = if dr = true then 1 else 0 := hL.2.2.2.2.2.1
  have hj := hP.1
  have hk := hP.2.1
  have h943 : B 94 3 = nI k := hP.2.2.2.2.1
  have e : t = t2 := (nI_eq (by omega) (by omega)).mp (h0.symm.trans h950)
  subst e
  have hdr : dr = false := by
    cases dr with
    | false => rfl
    | true =>
      have := wT_pos (hL.2.2.2.2.1 rfl)
      have h14 := wT_le ht
      rw [hd] at h951
      exact absurd h951.symm (nI_ne0 (n := wT t) (by omega) (by omega))
  subst hdr
  have hr : rDraw A = none := by
    unfold rDraw
    rw [if_neg (by rw [h12]; decide), if_neg (fun z => z (by rw [h10]; exact (nI_le h2 (by omega) : nI 2 ≤ nI t)))]
  have hl : (t % 2 = 0 ∧ gP t - 1 + 1 = t) ∨ (t % 2 = 1 ∧ gP t - 1 = t) := by unfold gP; omega
  have hhi : hiE A (jdraw A j k t (gP t - 1)) := hi_start (hi_ly (hi_keep hj))
  have hc := c_draw_ok (d := 13) (Y := Y) hb hr h10 hl (by unfold gP; omega) ht hj hk hP.2.2.1 hP.2.2.2.1 (rL_z hL)
  have hnow := now_draw (X := jkeep A j k) (N := jtr B) (keep_now hj hL (fun c _ => by rw [jtr_95])) h2 ht
  have hN : ∀ i c, (i = 94 ∧ c ≠ 10 ∧ c ≠ 11 ∧ c ≠ 16 ∧ c ≠ 18 ∧ c ≠ 19) ∨ i = 97 ∨ i = 98 ∨ i = 100 → gdw (jtr B) t (wT t) i c = B i c := fun i c z => by rw [gdw_n (by omega)]; exact jtr_at (by omega) (by omega)
  have h96 : ∀ c, c < 466 → gdw (jtr B) t (wT t) 96 c = B 95 c := fun c z => by rw [gdw_n (by omega)]; exact jtr_96 z
  refine SPc.mk (B1 := jkpg (gdw (jtr B) t (wT t)) k) I (H_draw_r hb hc) (by decide) (by decide) hhi ?_ ⟨rfl, push_B hk h943 hN h96 (gdw_95 jtr_95 _)⟩
  refine rel_push (x := (t, true)) hP (fun z => by rw [ed] at z; cases z) hnow (fun _ => rFix_c (jly_fix (X := jkeep A j k) h2 ht) (fun i c z1 z2 => jstart_n (by omega))) (fun i c z => ?_) hN h96
  unfold jdraw; rw [jstart_n (by omega), jly_n (by omega)]
theorem P_give {b : SBt} {Y : OUt} {A B : MM} (I : InvP b A B) (u v : Int32) : SPc b Y A B yL_give cL_give 4 [(0, 6, 7, 13)] [.ref 0, .int u, .int v] (fun y B1 => (y = -1001 ∧ ∃ r z, RefB B B1 r z ∧ ((u < 1 ∨ 5 < u ∨ v < 0 ∨ ¬ v ≤ 3) → r = 1 ∧ z = 0)) ∨ (¬ y = -1001 ∧ OkB B B1 (jm (jm B 95 3 u) 95 4 v 95))) := by
  have hb := I.hb
  obtain ⟨τ, k, j, hP⟩ := Rel_P.mp I.1
  have hL := hP.now
  have hF := hP.fix
  obtain ⟨t, et⟩ : ∃ t, (τ k).1 = t := ⟨_, rfl⟩
  obtain ⟨dr, ed⟩ : ∃ dr, (τ k).2 = dr := ⟨_, rfl⟩
  have hX : (τ k).2 = true → (t, dr) = τ k := fun _ => by rw [← et, ← ed]
  rw [et, ed] at hL hF
  have ht := hL.1
  have hn := nn_le (dr := dr) ht
  have hm := jmc_r hL hF
  have hz := zz_0 hL.1 hL.2.2.2.2.1
  have h951 : B 95 1 = nI (zz t dr) := hL.2.2.2.2.2.2.1
  have h959 : B 95 9 = nI (nn t dr) := hL.2.2.2.2.2.2.2.1
  have h10 : A 1 0 = nI t := hL.2.1
  have h950 : B 95 0 = nI t := hL.2.2.1
  have h12 : A 1 2 = if dr = true then 1 else 0 := hL.2.2.2.2.2.1
  have hj := hP.1
  have hk := hP.2.1
  have h943 : B 94 3 = nI k := hP.2.2.2.2.1
  by_cases hx2 : u < 1 ∨ 5 < u ∨ v < 0 ∨ ¬ v ≤ 3
  · exact SPc.mk I (H_give_t1 (d := 19) hb (c_give_bad (d := 14) hb hx2)) (by decide) (by decide) hi_ref (rel_ref I.1) (Or.inl ⟨rfl, _, _, refB, fun _ => ⟨rfl, rfl⟩⟩)
  by_cases h3 : jcount A (nn t dr) 75 0 ≤ 0
  · obtain ⟨q1, g1, rfl⟩ := int_rng (u := u) (n := 5) (by decide) (fun z => hx2 (Or.inl (Int32.lt_trans z (by decide)))) (fun z => hx2 (Or.inr (Or.inl z)))
    obtain ⟨q2, g2, rfl⟩ := int_rng (u := v) (n := 3) (by decide) (fun z => hx2 (Or.inr (Or.inr (Or.inl z)))) (fun z => hx2 (Or.inr (Or.inr (Or.inr (Int32.not_le.mpr z)))))
    have hhi : hiE A (jgiven A j k (nn t dr) (nI q1) (nI q2)) := hi_jm (hi_jm (hi_t hi_count (hi_keep hj)) (by omega)) (by omega)
    have hc := c_give_ok (d := 13) (Y := Y) hb hn hm hx2 h3 hj hk hP.2.2.1 hP.2.2.2.1 (rL_z hL)
    have hL2 : rL t dr (lgC (jcount A (nn t dr)) 1) (B 95) := rL_cells hL (fun i c _ _ => jcount_n (by omega)) (fun _ _ => rfl)
    have hN : ∀ i c, (i = 94 ∧ c ≠ 10 ∧ c ≠ 11 ∧ c ≠ 16 ∧ c ≠ 18 ∧ c ≠ 19) ∨ i = 97 ∨ i = 98 ∨ i = 100 → gGive B (nI q1) (nI q2) i c = B i c := fun i c z => by unfold gGive; rw [jm_n (by omega), jm_n (by omega)]; exact jtr_at (by omega) (by omega)
    have h96 : ∀ c, c < 466 → gGive B (nI q1) (nI q2) 96 c = B 95 c := fun c z => by unfold gGive; rw [jm_n (by omega), jm_n (by omega)]; exact jtr_96 z
    refine SPc.mk (B1 := jkpg (gGive B (nI q1) (nI q2)) k) I (H_give_r hb hc) (by decide) (by decide) hhi ?_ (Or.inr ⟨?_, push_B hk h943 hN h96 (jm_95 (jm_95 jtr_95))⟩)
    · refine rel_push (x := (t, dr)) (hP.cnt (n := nn t dr)) hX (now_give (keep_now hj hL2 (fun c _ => by rw [jtr_95])) g1 g2) (fun q => rFix_c (hF q) (fun i c z1 z2 => ?_)) (fun i c z => ?_) hN h96
      · unfold jgiven; rw [jm_n (by omega), jm_n (by omega), keep_lo (by omega) hj]; exact jcount_n (by omega)
      · unfold jgiven; rw [jm_n (by omega), jm_n (by omega)]
    · rw [keep_lo (by omega) hj, keep_lo (by omega) hj, jcount_n (by omega), jcount_n (by omega)]
      obtain ⟨-, -, -, -, -, -, -, -, -, ⟨y1, c1, c2, -⟩, ⟨y2, d1, d2, -⟩, -⟩ := hL
      rw [show A 1 4 = nI y1 from c2, show A 1 5 = nI y2 from d2, show (10 : Int32) = nI 10 from rfl, nI_mul, nI_add]
      exact nI_m1001 (by omega)
  · have hc := c_give_no (d := 13) (Y := Y) hb hn hm hx2 h3
    exact SPc.mk I (H_give_t1 (d := 19) hb hc) (by decide) (by decide) (hi_t hi_count hi_ref) (rel_ref (rel_count I.1)) (Or.inl ⟨rfl, _, _, refB, fun z => absurd z hx2⟩)
theorem jxr_95 {N N2 : MM} {t : Int32} (h : N 95 = N2 95) : jxr N t 95 = jxr N2 t 95 := by
  unfold jxr
  split
  · exact h
  · rw [h]; exact jm_95 (jm_95 h)
theorem jxR_95 {N N2 : MM} {t u v : Int32} (h : N 95 = N2 95) : jxR N t u v 95 = jxR N2 t u v 95 := jxr_95 (jxr_95 (jxr_95 (jm_95 h)))
theorem PO_rules {b : SBt} {Y : OUt} {A B : MM} (I : InvP b A B) {u v w : Int32} (hr : rRules u v w = none) : SPc b Y A B yL_rules cL_rules 5 [(0, 7, 8, 13)] [.ref 0, .int u, .int v, .int w] (fun y B1 => y = jxR B u v w 95 5 ∧ (∃ m, m ≤ 3 ∧ y = nI m) ∧ OkB B B1 (jm (jxR B u v w) 94 18 0 95)) := by
  have hb := I.hb
  obtain ⟨τ, k, j, hP⟩ := Rel_P.mp I.1
  have hL := hP.now
  have hF := hP.fix
  obtain ⟨t, et⟩ : ∃ t, (τ k).1 = t := ⟨_, rfl⟩
  obtain ⟨dr, ed⟩ : ∃ dr, (τ k).2 = dr := ⟨_, rfl⟩
  have hX : (τ k).2 = true → (t, dr) = τ k := fun _ => by rw [← et, ← ed]
  rw [et, ed] at hL hF
  have ht := hL.1
  have hn := nn_le (dr := dr) ht
  have hm := jmc_r hL hF
  have hz := zz_0 hL.1 hL.2.2.2.2.1
  have h951 : B 95 1 = nI (zz t dr) := hL.2.2.2.2.2.2.1
  have h959 : B 95 9 = nI (nn t dr) := hL.2.2.2.2.2.2.2.1
  have h10 : A 1 0 = nI t := hL.2.1
  have h950 : B 95 0 = nI t := hL.2.2.1
  have h12 : A 1 2 = if dr = true then 1 else 0 := hL.2.2.2.2.2.1
  have hj := hP.1
  have hk := hP.2.1
  have h943 : B 94 3 = nI k := hP.2.2.2.2.1
  have hhi : hiE A (jrules A j k u v w) := hi_addr (hi_addr (hi_addr (hi_jm (hi_keep hj) (by omega)) (by omega)) (by omega)) (by omega)
  have hc := c_rules_ok (d := 15) (Y := Y) hb hr hj hk hP.2.2.1 hP.2.2.2.1 (rL_z hL)
  obtain ⟨n1, n2⟩ := now_rules (X := jkeep A j k) (N := jtr B) (keep_now hj hL (fun c _ => by rw [jtr_95])) hr
  have e95 : jxR (jtr B) u v w 95 = jxR B u v w 95 := jxR_95 jtr_95
  have hN : ∀ i c, (i = 94 ∧ c ≠ 10 ∧ c ≠ 11 ∧ c ≠ 16 ∧ c ≠ 18 ∧ c ≠ 19) ∨ i = 97 ∨ i = 98 ∨ i = 100 → jm (jxR (jtr B) u v w) 94 18 0 i c = B i c := fun i c z => by rw [jm_n (by omega), jxR_n (by omega)]; exact jtr_at (by omega) (by omega)
  have h96 : ∀ c, c < 466 → jm (jxR (jtr B) u v w) 94 18 0 96 c = B 95 c := fun c z => by rw [jm_n (by omega), jxR_n (by omega)]; exact jtr_96 z
  have r94 : ∀ N : MM, jm N 94 18 0 95 = N 95 := fun N => funext fun c => jm_n (by omega)
  refine SPc.mk (B1 := jkpg (jm (jxR (jtr B) u v w) 94 18 0) k) I (H_rules_r hb hc) (by decide) (by decide) hhi ?_ ⟨?_, ?_, push_B hk h943 hN h96 (by rw [r94, r94, e95])⟩
  · refine rel_push (x := (t, dr)) hP hX (rL_cells n1 (fun _ _ _ _ => rfl) (fun c _ => jm_n (by omega))) (fun q => rFix_c (hF q) (fun i c q1 q2 => ?_)) (fun i c q => setr_n (by omega) (by omega)) hN h96
    exact (setr_n (by omega) (by omega)).trans (keep_lo (by omega) hj)
  · rw [← e95]; exact n2
  · obtain ⟨c, e1, e2, -⟩ := n1.2.2.2.2.2.2.2.2.2.2.2.1
    exact ⟨c, e1, e2⟩
theorem PO_result {b : SBt} {Y : OUt} {A B : MM} (I : InvP b A B) (hd : ¬ B 95 1 = 0) {n q : Nat} (h9 : B 95 9 = nI n) (hn56 : n ≤ 56) (hq : q < n) {u v : Int32} (hr : gRes B q u v = none) : SPc b Y A B yL_result cL_result 5 [(0, 7, 8, 13)] [.ref 0, .int (nI q), .int u, .int v] (fun y B1 => y = jsum (gLeft (gResS B q u v)) n ∧ OkB B B1 (gResS B q u v 95)) := by
  have hb := I.hb
  obtain ⟨τ, k, j, hP⟩ := Rel_P.mp I.1
  have hL := hP.now
  have hF := hP.fix
  obtain ⟨t, et⟩ : ∃ t, (τ k).1 = t := ⟨_, rfl⟩
  obtain ⟨dr, ed⟩ : ∃ dr, (τ k).2 = dr := ⟨_, rfl⟩
  have hX : (τ k).2 = true → (t, dr) = τ k := fun _ => by rw [← et, ← ed]
  rw [et, ed] at hL hF
  have ht := hL.1
  have hn := nn_le (dr := dr) ht
  have hm := jmc_r hL hF
  have hz := zz_0 hL.1 hL.2.2.2.2.1
  have h951 : B 95 1 = nI (zz t dr) := hL.2.2.2.2.2.2.1
  have h959 : B 95 9 = nI (nn t dr) := hL.2.2.2.2.2.2.2.1
  have h10 : A 1 0 = nI t := hL.2.1
  have h950 : B 95 0 = nI t := hL.2.2.1
  have h12 : A 1 2 = if dr = true then 1 else 0 := hL.2.2.2.2.2.1
  have hj := hP.1
  have hk := hP.2.1
  have h943 : B 94 3 = nI k := hP.2.2.2.2.1
  have hdr : dr = true := by
    cases dr with
    | true => rfl
    | false => exact absurd h951 hd
  subst hdr
  have e : n = nn t true := (nI_eq (by omega) (by omega)).mp (h9.symm.trans h959)
  subst e
  have hq56 : q < 56 := Nat.lt_of_lt_of_le hq hn
  have hRR : rRes A (nI q) u v = none := by
    rw [res_r hL hF, nI_clamp (by omega), hr]
    unfold gNo
    rw [if_neg hd, h959, if_neg (fun z => z ((in_q2 hn).mpr ⟨q, hq, rfl⟩))]
  have huv : (¬ u < 0 ∧ ¬ 20 < u) ∧ (¬ v < 0 ∧ ¬ 20 < v) := by
    apply Decidable.byContradiction
    intro z
    unfold gRes at hr
    rw [if_pos z] at hr
    cases hr
  obtain ⟨g1, k1, rfl⟩ := int_rng (u := u) (n := 20) (by decide) huv.1.1 huv.1.2
  obtain ⟨g2, k2, rfl⟩ := int_rng (u := v) (n := 20) (by decide) huv.2.1 huv.2.2
  have hhi : hiE A (jresult A j k (nI q) (nI g1) (nI g2)) := hi_setg (hi_keep hj) hq56
  have hc := c_result_ok (d := 13) (Y := Y) hb hRR hn hm hj hk hP.2.2.1 hP.2.2.2.1 (rL_z hL)
  have hnow := now_res (X := jkeep A j k) (N := B) (keep_now hj hL (fun c _ => rfl)) hq k1 k2
  have e95 : gResS (jtr B) q (nI g1) (nI g2) 95 = gResS B q (nI g1) (nI g2) 95 := jm_95 (jm_95 (jm_95 jtr_95))
  have r94 : ∀ N : MM, jm N 94 18 0 95 = N 95 := fun N => funext fun c => jm_n (by omega)
  have hN : ∀ i c, (i = 94 ∧ c ≠ 10 ∧ c ≠ 11 ∧ c ≠ 16 ∧ c ≠ 18 ∧ c ≠ 19) ∨ i = 97 ∨ i = 98 ∨ i = 100 → gResS (jtr B) q (nI g1) (nI g2) i c = B i c := fun i c z => by unfold gResS; rw [jsets_n (by omega), jsets_n (by omega), jsets_n (by omega)]; exact jtr_at (by omega) (by omega)
  have h96 : ∀ c, c < 466 → gResS (jtr B) q (nI g1) (nI g2) 96 c = B 95 c := fun c z => by unfold gResS; rw [jsets_n (by omega), jsets_n (by omega), jsets_n (by omega)]; exact jtr_96 z
  refine SPc.mk (B1 := jkpg (gResS (jtr B) q (nI g1) (nI g2)) k) I (H_result_r hb hc) (by decide) (by decide) hhi ?_ ⟨left_r (A := jresult A j k (nI q) (nI g1) (nI g2)) hnow, push_B hk h943 hN h96 e95⟩
  refine rel_push (x := (t, true)) hP hX (rL_cells hnow (fun _ _ _ _ => rfl) (fun c _ => by rw [e95])) (fun z => rFix_c (hF rfl) (fun i c z1 z2 => ?_)) (fun i c z => setg_n hq56 (by omega)) hN h96
  exact (setg_n hq56 (by omega)).trans (keep_lo (by omega) hj)
theorem PO_back {b : SBt} {Y : OUt} {A B : MM} (I : InvP b A B) (hd : ¬ B 95 1 = 0) {n q : Nat} (h9 : B 95 9 = nI n) (hn56 : n ≤ 56) (hq : q < n) (hr : gBack B q = none) : SPc b Y A B yL_back cL_back 3 [(0, 5, 6, 13)] [.ref 0, .int (nI q)] (fun y B1 => y = jsum (gLeft (gBackS B q)) n ∧ OkB B B1 (gBackS B q 95)) := by
  have hb := I.hb
  obtain ⟨τ, k, j, hP⟩ := Rel_P.mp I.1
  have hL := hP.now
  have hF := hP.fix
  obtain ⟨t, et⟩ : ∃ t, (τ k).1 = t := ⟨_, rfl⟩
  obtain ⟨dr, ed⟩ : ∃ dr, (τ k).2 = dr := ⟨_, rfl⟩
  have hX : (τ k).2 = true → (t, dr) = τ k := fun _ => by rw [← et, ← ed]
  rw [et, ed] at hL hF
  have ht := hL.1
  have hn := nn_le (dr := dr) ht
  have hm := jmc_r hL hF
  have hz := zz_0 hL.1 hL.2.2.2.2.1
  have h951 : B 95 1 = nI (zz t dr) := hL.2.2.2.2.2.2.1
  have h959 : B 95 9 = nI (nn t dr) := hL.2.2.2.2.2.2.2.1
  have h10 : A 1 0 = nI t := hL.2.1
  have h950 : B 95 0 = nI t := hL.2.2.1
  have h12 : A 1 2 = if dr = true then 1 else 0 := hL.2.2.2.2.2.1
  have hj := hP.1
  have hk := hP.2.1
  have h943 : B 94 3 = nI k := hP.2.2.2.2.1
  have hdr : dr = true := by
    cases dr with
    | true => rfl
    | false => exact absurd h951 hd
  subst hdr
  have e : n = nn t true := (nI_eq (by omega) (by omega)).mp (h9.symm.trans h959)
  subst e
  have hq56 : q < 56 := Nat.lt_of_lt_of_le hq hn
  have hRR : rBack A (nI q) = none := by
    rw [back_r hL hF, nI_clamp (by omega), hr]
    unfold gNo
    rw [if_neg hd, h959, if_neg (fun z => z ((in_q2 hn).mpr ⟨q, hq, rfl⟩))]
  have hhi : hiE A (jresult A j k (nI q) (-1) (-1)) := hi_setg (hi_keep hj) hq56
  have hc := c_back_ok (d := 13) (Y := Y) hb hRR hn hm hj hk hP.2.2.1 hP.2.2.2.1 (rL_z hL)
  have hnow := now_back (X := jkeep A j k) (N := B) (keep_now hj hL (fun c _ => rfl)) hq
  have e95 : gBackS (jtr B) q 95 = gBackS B q 95 := jm_95 (jm_95 (jm_95 jtr_95))
  have hN : ∀ i c, (i = 94 ∧ c ≠ 10 ∧ c ≠ 11 ∧ c ≠ 16 ∧ c ≠ 18 ∧ c ≠ 19) ∨ i = 97 ∨ i = 98 ∨ i = 100 → gBackS (jtr B) q i c = B i c := fun i c z => by unfold gBackS; rw [jsets_n (by omega), jsets_n (by omega), jsets_n (by omega)]; exact jtr_at (by omega) (by omega)
  have h96 : ∀ c, c < 466 → gBackS (jtr B) q 96 c = B 95 c := fun c z => by unfold gBackS; rw [jsets_n (by omega), jsets_n (by omega), jsets_n (by omega)]; exact jtr_96 z
  refine SPc.mk (B1 := jkpg (gBackS (jtr B) q) k) I (H_back_r hb hc) (by decide) (by decide) hhi ?_ ⟨left_r (A := jresult A j k (nI q) (-1) (-1)) hnow, push_B hk h943 hN h96 e95⟩
  refine rel_push (x := (t, true)) hP hX (rL_cells hnow (fun _ _ _ _ => rfl) (fun c _ => by rw [e95])) (fun z => rFix_c (hF rfl) (fun i c z1 z2 => ?_)) (fun i c z => setg_n hq56 (by omega)) hN h96
  exact (setg_n hq56 (by omega)).trans (keep_lo (by omega) hj)
theorem PO_putOff {b : SBt} {Y : OUt} {A B : MM} (I : InvP b A B) (hd : ¬ B 95 1 = 0) {n q : Nat} (h9 : B 95 9 = nI n) (hn56 : n ≤ 56) (hq : q < n) {u : Int32} (hr : gPut B q u = none) : SPc b Y A B yL_putOff cL_putOff 4 [(0, 6, 7, 13)] [.ref 0, .int (nI q), .int u] (fun y B1 => y = jsum (gCl (gPutS B q u) q (B 95 2 + u)) n ∧ OkB B B1 (gPutS B q u 95)) := by
  have hb := I.hb
  obtain ⟨τ, k, j, hP⟩ := Rel_P.mp I.1
  have hL := hP.now
  have hF := hP.fix
  obtain ⟨t, et⟩ : ∃ t, (τ k).1 = t := ⟨_, rfl⟩
  obtain ⟨dr, ed⟩ : ∃ dr, (τ k).2 = dr := ⟨_, rfl⟩
  have hX : (τ k).2 = true → (t, dr) = τ k := fun _ => by rw [← et, ← ed]
  rw [et, ed] at hL hF
  have ht := hL.1
  have hn := nn_le (dr := dr) ht
  have hm := jmc_r hL hF
  have hz := zz_0 hL.1 hL.2.2.2.2.1
  have h951 : B 95 1 = nI (zz t dr) := hL.2.2.2.2.2.2.1
  have h959 : B 95 9 = nI (nn t dr) := hL.2.2.2.2.2.2.2.1
  have h10 : A 1 0 = nI t := hL.2.1
  have h950 : B 95 0 = nI t := hL.2.2.1
  have h12 : A 1 2 = if dr = true then 1 else 0 := hL.2.2.2.2.2.1
  have hj := hP.1
  have hk := hP.2.1
  have h943 : B 94 3 = nI k := hP.2.2.2.2.1
  have hdr : dr = true := by
    cases dr with
    | true => rfl
    | false => exact absurd h951 hd
  subst hdr
  have e : n = nn t true := (nI_eq (by omega) (by omega)).mp (h9.symm.trans h959)
  subst e
  have hq56 : q < 56 := Nat.lt_of_lt_of_le hq hn
  have hRR : rPut A (nI q) u = none := by
    rw [put_r hL hF, nI_clamp (by omega), hr]
    unfold gNo
    rw [if_neg hd, h959, if_neg (fun z => z ((in_q2 hn).mpr ⟨q, hq, rfl⟩))]
  obtain ⟨h1, h2, h3⟩ : (¬ u < 1 ∧ ¬ 9 < u) ∧ jof B q 2 = B 95 2 ∧ (¬ B 95 2 + u < 0 ∧ ¬ B 95 1 - 1 < B 95 2 + u) := by
    unfold gPut at hr
    by_cases z1 : ¬ (¬ u < 1 ∧ ¬ 9 < u)
    · rw [if_pos z1] at hr; cases hr
    · rw [if_neg z1] at hr
      by_cases z2 : jof B q 4 = 1
      · rw [if_pos z2] at hr; cases hr
      · rw [if_neg z2] at hr
        by_cases z3 : ¬ jof B q 2 = B 95 2
        · rw [if_pos z3] at hr; cases hr
        · rw [if_neg z3] at hr
          by_cases z4 : ¬ (¬ B 95 2 + u < 0 ∧ ¬ B 95 1 - 1 < B 95 2 + u)
          · rw [if_pos z4] at hr; cases hr
          · exact ⟨Decidable.not_not.mp z1, Decidable.not_not.mp z3, Decidable.not_not.mp z4⟩
  obtain ⟨e, k1, rfl⟩ := int_rng (u := u) (n := 9) (by decide) (fun z => h1.1 (Int32.lt_trans z (by decide))) h1.2
  have he : 1 ≤ e := by
    rcases Nat.eq_zero_or_pos e with z | z
    · subst z; exact absurd (by decide) h1.1
    · exact z
  obtain ⟨w, -, w1, w2, w3⟩ := id hL.2.2.2.2.2.2.2.2.1
  have w1 : A 1 3 = nI w := w1
  have hw3 := w3 rfl
  have hw14 := wT_le ht
  have hwe : w + e < wT t := by
    rw [w2, h951, nI_add, in_q2 (show zz t true ≤ 56 by show wT t ≤ 56; omega)] at h3
    obtain ⟨q', y1, y2⟩ := h3
    have := (nI_eq (by omega) (by have : q' < wT t := y1; omega)).mp y2
    have : q' < wT t := y1
    omega
  have hhi : hiE A (jputoff A j k (nI q) (nI e)) := hi_put (hi_keep hj) (by omega)
  have hc := c_putOff_ok (d := 13) (Y := Y) hb hRR hn hm hj hk hP.2.2.1 hP.2.2.2.1 (rL_z hL)
  have hnow := now_put (X := jkeep A j k) (N := B) (keep_now hj hL (fun c _ => rfl)) hq (by rw [keep_lo (by omega) hj]; exact w1) w2 he hwe (h2.trans w2)
  have hfix : rFix t (jputoff A j k (nI q) (nI e)) := rFix_c (hF rfl) (fun i c z1 z2 => (m_put (by omega)).trans (keep_lo (by omega) hj))
  have e95 : gPutS (jtr B) q (nI e) 95 = gPutS B q (nI e) 95 := by
    unfold gPutS
    rw [jtr_95]
    exact jm_95 (jm_95 jtr_95)
  have hN : ∀ i c, (i = 94 ∧ c ≠ 10 ∧ c ≠ 11 ∧ c ≠ 16 ∧ c ≠ 18 ∧ c ≠ 19) ∨ i = 97 ∨ i = 98 ∨ i = 100 → gPutS (jtr B) q (nI e) i c = B i c := fun i c z => by unfold gPutS; rw [jsets_n (by omega), jsets_n (by omega)]; exact jtr_at (by omega) (by omega)
  have h96 : ∀ c, c < 466 → gPutS (jtr B) q (nI e) 96 c = B 95 c := fun c z => by unfold gPutS; rw [jsets_n (by omega), jsets_n (by omega)]; exact jtr_96 z
  refine SPc.mk (B1 := jkpg (gPutS (jtr B) q (nI e)) k) I (H_putOff_r hb hc) (by decide) (by decide) hhi ?_ ⟨?_, push_B hk h943 hN h96 e95⟩
  · exact rel_push (x := (t, true)) hP hX (rL_cells hnow (fun _ _ _ _ => rfl) (fun c _ => by rw [e95])) (fun _ => hfix) (fun i c z => m_put (by omega)) hN h96
  · rw [cl_r (A := jputoff A j k (nI q) (nI e)) hnow (fun _ => hfix) hq, keep_lo (by omega) hj, wk_r hL]
theorem PO_next {b : SBt} {Y : OUt} {A B : MM} (I : InvP b A B) (hd : ¬ B 95 1 = 0) {n : Nat} (h9 : B 95 9 = nI n) (hn56 : n ≤ 56) (hr : gNext B n = none) : SPc b Y A B yL_next cL_next 2 [(0, 4, 5, 13)] [.ref 0] (fun y B1 => y = B 95 2 + 1 ∧ OkB B B1 (jm B 95 2 (B 95 2 + 1) 95)) := by
  have hb := I.hb
  obtain ⟨τ, k, j, hP⟩ := Rel_P.mp I.1
  have hL := hP.now
  have hF := hP.fix
  obtain ⟨t, et⟩ : ∃ t, (τ k).1 = t := ⟨_, rfl⟩
  obtain ⟨dr, ed⟩ : ∃ dr, (τ k).2 = dr := ⟨_, rfl⟩
  have hX : (τ k).2 = true → (t, dr) = τ k := fun _ => by rw [← et, ← ed]
  rw [et, ed] at hL hF
  have ht := hL.1
  have hn := nn_le (dr := dr) ht
  have hm := jmc_r hL hF
  have hz := zz_0 hL.1 hL.2.2.2.2.1
  have h951 : B 95 1 = nI (zz t dr) := hL.2.2.2.2.2.2.1
  have h959 : B 95 9 = nI (nn t dr) := hL.2.2.2.2.2.2.2.1
  have h10 : A 1 0 = nI t := hL.2.1
  have h950 : B 95 0 = nI t := hL.2.2.1
  have h12 : A 1 2 = if dr = true then 1 else 0 := hL.2.2.2.2.2.1
  have hj := hP.1
  have hk := hP.2.1
  have h943 : B 94 3 = nI k := hP.2.2.2.2.1
  have hdr : dr = true := by
    cases dr with
    | true => rfl
    | false => exact absurd h951 hd
  subst hdr
  have e : n = nn t true := (nI_eq (by omega) (by omega)).mp (h9.symm.trans h959)
  subst e
  have hRR := next_r hL hF
  rw [if_neg hd, hr] at hRR
  obtain ⟨w, -, w1, w2, w3⟩ := id hL.2.2.2.2.2.2.2.2.1
  have w1 : A 1 3 = nI w := w1
  have hw3 := w3 rfl
  have hw14 := wT_le ht
  have hw1 : w + 1 < wT t := by
    have hne : ¬ B 95 2 = B 95 1 - 1 := by
      intro z
      unfold gNext at hr
      by_cases y : ¬ jfst (gLeft B) (nn t true) = -1
      · rw [if_pos y] at hr; cases hr
      · rw [if_neg y, if_pos z] at hr; cases hr
    rw [w2, h951, show zz t true = wT t from rfl] at hne
    obtain ⟨k1, hk1⟩ : ∃ k1, wT t = k1 + 1 := ⟨wT t - 1, by omega⟩
    rw [hk1, nI_pred, nI_eq (by omega) (by omega)] at hne
    omega
  have hhi : hiE A (jnext A j k) := hi_jm (hi_keep hj) (by omega)
  have hc := c_next_ok (d := 13) (Y := Y) hb hn hm hRR hj hk hP.2.2.1 hP.2.2.2.1 (rL_z hL)
  have hnow := now_next (X := jkeep A j k) (N := B) (keep_now hj hL (fun c _ => rfl)) (by rw [keep_lo (by omega) hj]; exact w1) w2 hw1
  have e95 : jm (jtr B) 95 2 (B 95 2 + 1) 95 = jm B 95 2 (B 95 2 + 1) 95 := jm_95 jtr_95
  have hN : ∀ i c, (i = 94 ∧ c ≠ 10 ∧ c ≠ 11 ∧ c ≠ 16 ∧ c ≠ 18 ∧ c ≠ 19) ∨ i = 97 ∨ i = 98 ∨ i = 100 → jm (jtr B) 95 2 (B 95 2 + 1) i c = B i c := fun i c z => by rw [jm_n (by omega)]; exact jtr_at (by omega) (by omega)
  have h96 : ∀ c, c < 466 → jm (jtr B) 95 2 (B 95 2 + 1) 96 c = B 95 c := fun c z => by rw [jm_n (by omega)]; exact jtr_96 z
  refine SPc.mk (B1 := jkpg (jm (jtr B) 95 2 (B 95 2 + 1)) k) I (H_next_r hb hc) (by decide) (by decide) hhi ?_ ⟨?_, push_B hk h943 hN h96 e95⟩
  · exact rel_push (x := (t, true)) hP hX (rL_cells hnow (fun _ _ _ _ => rfl) (fun c _ => by rw [e95])) (fun _ => rFix_c (hF rfl) (fun i c z1 z2 => (jm_n (by omega)).trans (keep_lo (by omega) hj))) (fun i c z => jm_n (by omega)) hN h96
  · rw [← wk_r hL]
    unfold jnext
    rw [jm_s, keep_lo (by omega) hj]
