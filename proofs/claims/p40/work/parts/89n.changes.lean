/-! ===== what a change answers, what stays ===== -/
def Kp (B B1 : MM) : Prop := B1 95 0 = B 95 0 ∧ B1 95 1 = B 95 1 ∧ (Gd (B 95) → Gd (B1 95))
def ChZ0 (B : MM) (y : Int32) (B1 : MM) : Prop := (y = -1001 ∧ Same B B1) ∨ (¬ y = -1001 ∧ PushB B B1 ∧ Kp B B1)
def ChZ (B : MM) (y : Int32) (B1 : MM) : Prop := (y = 0 ∧ Same B B1) ∨ (y = 1 ∧ PushB B B1 ∧ Kp B B1)
theorem ch_no {B B1 : MM} {y : Int32} (hv : y = -1001) (h : ChZ0 B y B1) : Same B B1 := h.elim (fun z => z.2) (fun z => absurd hv z.1)
theorem ch_ok {B B1 : MM} {y : Int32} (hv : ¬ y = -1001) (h : ChZ0 B y B1) : PushB B B1 ∧ Kp B B1 := h.elim (fun z => absurd z.1 hv) (fun z => z.2)
theorem Kp_of {B B1 : MM} {R : Nat → Int32} (hO : OkB B B1 R) (h0 : R 0 = B 95 0) (h1 : R 1 = B 95 1) (hg : ∀ c, c < 8 → R (10 + c) = B 95 (10 + c)) : PushB B B1 ∧ Kp B B1 :=
  ⟨hO.1, by rw [hO.2.1]; exact h0, by rw [hO.2.1]; exact h1, fun h => Gd_c h fun c hc => by rw [hO.2.1]; exact hg c hc⟩
theorem InvP.ok {b : SBt} {Y : OUt} {A B : MM} (I : InvP b A B) : j_okH (HH b Y A) := by
  obtain ⟨-, n, c, h, -⟩ := I
  exact HH_ok h.2.1 h.2.2.1
section CH
variable {b : SBt} {Y : OUt} {A B : MM} {t : Nat} {yL : MethodName} {cL : ByteArray} {mL : Nat} {hh : List (Nat × Nat × Nat × Nat)} {asL : List Value}
theorem T_ref {r z : Int32} (S : SPc b Y A B yL cL mL hh asL (fun y B1 => y = -1001 ∧ RefB B B1 r z)) : SPc b Y A B yL cL mL hh asL (ChZ0 B) := S.mono fun _ _ z => Or.inl ⟨z.1, z.2.1⟩
theorem T_team (I : InvP b A B) (D : Dr B t) (u : Int32) : SPc b Y A B yL_team cL_team 3 [(0, 5, 6, 13)] [.ref 0, .int u] (ChZ0 B) := by
  by_cases h : ¬ (¬ u < 0 ∧ ¬ 9 < u)
  · exact T_ref (PR_team I (rTeam_b h))
  · exact T_ref (PR_team (r := 4) (z := 0) I (by unfold rTeam; rw [if_neg h, if_pos (I.d1 D)]))
theorem T_draw (I : InvP b A B) (D : Dr B t) : SPc b Y A B yL_draw cL_draw 2 [(0, 4, 5, 13)] [.ref 0] (ChZ0 B) := T_ref (PR_draw I (rDraw_d I D))
theorem T_ground (I : InvP b A B) (D : Dr B t) (hG : Gd (B 95)) {q : Nat} (hq : q ≤ t) (v : Int32) : SPc b Y A B yL_ground cL_ground 4 [(0, 6, 7, 13)] [.ref 0, .int (nI q), .int v] (ChZ0 B) := by
  have h8 := D.2.1
  by_cases c : q = t
  · subst c
    exact T_ref (PR_ground I (rGround_t I D))
  · by_cases hx : ¬ v < 0 ∧ ¬ 9 < v
    · refine (PO_ground I D.1 D.2.1 (q := q) (by omega) hx).mono fun y B1 z => Or.inr ⟨by rw [z.1]; exact hG q (by omega), z.2.1, ?_, ?_, fun h e he => ?_⟩
      · rw [z.2.2.1, jm_n (by omega)]
      · rw [z.2.2.1, jm_n (by omega)]
      · rw [z.2.2.1]
        by_cases w : e = q
        · subst w; rw [jm_s]
          exact fun z => hx.1 (by rw [z]; decide)
        · rw [jm_n (by omega)]; exact h e he
    · refine T_ref (PR_ground (r := 1) (z := 0) I ?_)
      unfold rGround
      rw [show A 1 0 = nI t from (I.dr D).1.2.1, if_neg (fun z => z ((in_q1 (by omega)).mpr ⟨q, by omega, rfl⟩)), if_pos hx]
theorem T_give (I : InvP b A B) (u v : Int32) : SPc b Y A B yL_give cL_give 4 [(0, 6, 7, 13)] [.ref 0, .int u, .int v] (ChZ0 B) := (P_give I u v).mono fun y B1 z => by
  rcases z with ⟨h1, r, z, h2, -⟩ | ⟨h1, h2⟩
  · exact Or.inl ⟨h1, h2.1⟩
  · exact Or.inr ⟨h1, Kp_of h2 (by rw [jm_n (by omega), jm_n (by omega)]) (by rw [jm_n (by omega), jm_n (by omega)]) (fun c hc => by rw [jm_n (by omega), jm_n (by omega)])⟩
theorem T_rules (I : InvP b A B) (u v w : Int32) : SPc b Y A B yL_rules cL_rules 5 [(0, 7, 8, 13)] [.ref 0, .int u, .int v, .int w] (ChZ0 B) := by
  cases hr : rRules u v w with
  | some q => exact T_ref (PR_rules I (r := q.1) (z := q.2) hr)
  | none =>
    refine (PO_rules I hr).mono fun y B1 z => ?_
    obtain ⟨-, ⟨m, hm, rfl⟩, hO⟩ := z
    exact Or.inr ⟨nI_m1001 (by omega), Kp_of hO (by rw [jm_n (by omega), jxR_n (by omega)]) (by rw [jm_n (by omega), jxR_n (by omega)]) (fun c hc => by rw [jm_n (by omega), jxR_n (by omega)])⟩
theorem T_result (I : InvP b A B) (D : Dr B t) {q : Nat} (hq : q ≤ nn t true) (u v : Int32) : SPc b Y A B yL_result cL_result 5 [(0, 7, 8, 13)] [.ref 0, .int (nI q), .int u, .int v] (ChZ0 B) := by
  by_cases c : q = nn t true
  · subst c
    exact T_ref (PR_result I (rRes_out I D))
  · have h : q < nn t true := by omega
    cases hr : gRes B q u v with
    | some z => exact T_ref (PR_result I (r := z.1) (z := z.2) ((rRes_in I D h).trans hr))
    | none =>
      refine (PO_result I D.2.2 (I.h9 D).1 (I.h9 D).2.1 h hr).mono fun y B1 z => ?_
      obtain ⟨rfl, hO⟩ := z
      obtain ⟨k, hk, e⟩ := jsum_01 (f := gLeft (gResS B q u v)) (fun i => jb_01) (nn t true)
      have h56 := (I.h9 D).2.1
      exact Or.inr ⟨by rw [e]; exact nI_m1001 (by omega), Kp_of hO (by unfold gResS; rw [jsets_n (by omega), jsets_n (by omega), jsets_n (by omega)]) (by unfold gResS; rw [jsets_n (by omega), jsets_n (by omega), jsets_n (by omega)]) (fun c hc => by unfold gResS; rw [jsets_n (by omega), jsets_n (by omega), jsets_n (by omega)])⟩
theorem T_back (I : InvP b A B) (D : Dr B t) {q : Nat} (hq : q ≤ nn t true) : SPc b Y A B yL_back cL_back 3 [(0, 5, 6, 13)] [.ref 0, .int (nI q)] (ChZ0 B) := by
  by_cases c : q = nn t true
  · subst c
    refine T_ref (PR_back (r := 3) (z := nI (nn t true)) I ?_)
    rw [back_r (I.dr D).1 (I.dr D).2, gNo_out I D (nI_out (by have := (I.h9 D).2.1; omega))]
  · have h : q < nn t true := by omega
    cases hr : gBack B q with
    | some z => exact T_ref (PR_back I (r := z.1) (z := z.2) ((rBack_in I D h).trans hr))
    | none =>
      refine (PO_back I D.2.2 (I.h9 D).1 (I.h9 D).2.1 h hr).mono fun y B1 z => ?_
      obtain ⟨rfl, hO⟩ := z
      obtain ⟨k, hk, e⟩ := jsum_01 (f := gLeft (gBackS B q)) (fun i => jb_01) (nn t true)
      have h56 := (I.h9 D).2.1
      exact Or.inr ⟨by rw [e]; exact nI_m1001 (by omega), Kp_of hO (by unfold gBackS; rw [jsets_n (by omega), jsets_n (by omega), jsets_n (by omega)]) (by unfold gBackS; rw [jsets_n (by omega), jsets_n (by omega), jsets_n (by omega)]) (fun c hc => by unfold gBackS; rw [jsets_n (by omega), jsets_n (by omega), jsets_n (by omega)])⟩
theorem T_putOff (I : InvP b A B) (D : Dr B t) {q : Nat} (hq : q ≤ nn t true) (u : Int32) : SPc b Y A B yL_putOff cL_putOff 4 [(0, 6, 7, 13)] [.ref 0, .int (nI q), .int u] (ChZ0 B) := by
  by_cases c : q = nn t true
  · subst c
    exact T_ref (PR_putOff I (rPut_out I D))
  · have h : q < nn t true := by omega
    cases hr : gPut B q u with
    | some z => exact T_ref (PR_putOff I (r := z.1) (z := z.2) ((rPut_in I D h).trans hr))
    | none =>
      refine (PO_putOff I D.2.2 (I.h9 D).1 (I.h9 D).2.1 h hr).mono fun y B1 z => ?_
      obtain ⟨rfl, hO⟩ := z
      obtain ⟨k, hk, e⟩ := jsum_01 (f := gCl (gPutS B q u) q (B 95 2 + u)) (fun i => jb_01) (nn t true)
      have h56 := (I.h9 D).2.1
      exact Or.inr ⟨by rw [e]; exact nI_m1001 (by omega), Kp_of hO (by unfold gPutS; rw [jsets_n (by omega), jsets_n (by omega)]) (by unfold gPutS; rw [jsets_n (by omega), jsets_n (by omega)]) (fun c hc => by unfold gPutS; rw [jsets_n (by omega), jsets_n (by omega)])⟩
theorem T_next (I : InvP b A B) (D : Dr B t) : SPc b Y A B yL_next cL_next 2 [(0, 4, 5, 13)] [.ref 0] (ChZ0 B) := by
  cases hr : gNext B (nn t true) with
  | some z => exact T_ref (PR_next I D.2.2 (I.h9 D).1 (I.h9 D).2.1 (r := z.1) (z := z.2) hr)
  | none =>
    refine (PO_next I D.2.2 (I.h9 D).1 (I.h9 D).2.1 hr).mono fun y B1 z => ?_
    obtain ⟨rfl, hO⟩ := z
    obtain ⟨w, -, -, w3, w4⟩ := (I.dr D).1.2.2.2.2.2.2.2.2.1
    have h14 := wT_le D.2.1
    have w4 := w4 rfl
    exact Or.inr ⟨by rw [w3, nI_1]; exact nI_m1001 (by omega), Kp_of hO (by rw [jm_n (by omega)]) (by rw [jm_n (by omega)]) (fun c hc => by rw [jm_n (by omega)])⟩
end CH
theorem rem_nI {a n : Nat} (ha : a < 1000) (hn : n < 1000) : nI a - nI a / nI n * nI n = nI (a % n) := by
  rw [sm_ofInt (by omega), nI_toInt (by omega), ← Int.ofNat_tmod]
  exact Int32.ofInt_eq_ofNat
theorem dgx_1 {v : Nat} (h : v < 10) : dg v = 1 := if_pos h
theorem dgx_2 {v : Nat} (h : v < 100) : dg v ≤ 2 := by
  unfold dg
  by_cases c : v < 10
  · rw [if_pos c]; decide
  · rw [if_neg c, if_pos h]; decide
section JCut
variable {p : Program} {l : Launch} {e : Env} {R : Room} {s : State} {m : MethodId} {args : Array Value} {below : List Frame} {meth : Method} {c : Code} {D : va_G} {tyc : Nat → ClassId} {A : Nat → Prop} {n0 : Nat} {ad0 : Nat → Nat} {nL : Nat} {Qs : State → Prop}
variable {pc : Nat} {L : List (Option Value)} {st : List Value} {h : MH} {cells slots : Nat}
/-- a place to which several ways lead -/
theorem j_cut (pc2 : Nat) (Lf : Nat → List (Option Value)) (st2 : List Value) (Z : Nat → MH → Nat → Nat → Prop) (cut : ∀ i h c1 s1, Z i h c1 s1 → JJ p l e R s m args below meth c D tyc A n0 ad0 nL Qs pc2 (Lf i) st2 h c1 s1) (kk : (∀ i h c1 s1, Z i h c1 s1 → JJ p l e R s m args below meth c D tyc A n0 ad0 nL Qs pc2 (Lf i) st2 h c1 s1) → JJ p l e R s m args below meth c D tyc A n0 ad0 nL Qs pc L st h cells slots) : JJ p l e R s m args below meth c D tyc A n0 ad0 nL Qs pc L st h cells slots := kk cut
end JCut
section JC2
variable {p : Program} {l : Launch} {e : Env} {R : Room} {s : State} {m : MethodId} {args : Array Value} {below : List Frame} {meth : Method} {c : Code} {D : va_G} {tyc : Nat → ClassId} {A : Nat → Prop} {n0 : Nat} {ad0 : Nat → Nat} {nL : Nat} {Qs : State → Prop}
variable {own : String} {cc : ByteArray} {pc : Nat} {L : List (Option Value)} {st : List Value} {g h : MH} {cells slots d1 mc1 ms1 maxL idx n : Nat} {y : MethodName} {bytes : ByteArray}
/-- a text that has been built is read -/
theorem j_cat2 {b : SBt} {Y : OUt} {A1 : MM} {Z : Int32 → MM → MM → Prop} (x : j_X p l s m args meth c D tyc A own cc nL) (hd : decode cc pc = .ok (.invokestatic idx, 3)) (k1 : h.1 = 4) (k2 : (h.2 2).1 = 0) (k3 : (h.2 2).2.1 = 4) (k4 : (h.2 2).2.2 0 = .ref 3) (k5 : (h.2 2).2.2 1 = .int 0) (k6 : (h.2 3).1 = 102) (k7 : (h.2 3).2.1 = n)
    (hcon : ∀ a v xs, ConP d1 mc1 ms1 y bytes maxL (some .int) [.ref 0, .retAddr a] (HH b Y A1) (kstr a v n xs) (fun o k => ∃ y A2 B2, o = .inl (some (.int y)) ∧ k = HH b Y A2 ∧ Z y A2 B2)) (hm : j_mS y bytes maxL (some .int) 2) (hw : Cond.methodLink own idx y ∈ j_all) (hg : j_okH (HH b Y A1)) (hb : 94 ≤ b.2.1)
    (hst : st.length ≤ 4) (hfit : j_fit R d1 mc1 ms1 cells slots)
    (kk : ∀ (y : Int32) (g1 : MH), (∃ A2 B2, g1 = HH b Y A2 ∧ Z y A2 B2) → JJ p l e R s m args below meth c D tyc A n0 ad0 nL Qs (pc + 3) L (.int y :: st) (jcat g1 h) (cells + mc1) (slots + ms1)) : JJ p l e R s m args below meth c D tyc A n0 ad0 nL Qs pc L (.ref (b.2.1 + 2) :: .ref 0 :: st) (jcat (HH b Y A1) h) cells slots := by
  have c2 : (jcat (HH b Y A1) h).2 (b.2.1 + 2) = j_shc b.2.1 (h.2 2) := jcat_R.2 2 (by omega)
  have c3 : (jcat (HH b Y A1) h).2 (b.2.1 + 3) = j_shc b.2.1 (h.2 3) := jcat_R.2 3 (by omega)
  have e1 : (jcat (HH b Y A1) h).1 = b.2.1 + h.1 := rfl
  refine j_callSX (n := n) (g := HH b Y A1) (h := h) (i := b.2.1 + 2) (r := b.2.1 + 3) x hd ⟨by show b.2.1 ≤ _; omega, by omega⟩ ⟨by show b.2.1 ≤ _; omega, by omega⟩ (by rw [c2]; exact k2) (by rw [c2]; exact k3) (by rw [c2]; show j_shv b.2.1 ((h.2 2).2.2 0) = _; rw [k4]; rfl) (by rw [c2]; show j_shv b.2.1 ((h.2 2).2.2 1) = _; rw [k5]; rfl) (by rw [c3]; exact k6) (by rw [c3]; exact k7) hcon hm hw hg (show 0 < b.2.1 by omega) hst hfit (fun E k z => ?_) (fun o k z => ?_) (fun v g1 z => ?_) (fun v k z => ?_)
  · obtain ⟨_, _, _, z, _⟩ := z
    cases z
  · obtain ⟨_, _, _, _, rfl, _⟩ := z
    rfl
  · obtain ⟨y1, A2, B2, z1, z2, z3⟩ := z
    cases z1
    exact kk v g1 ⟨A2, B2, z2, z3⟩
  · obtain ⟨y1, A2, B2, z1, z2, z3⟩ := z
    cases z1
    exact ⟨y1, rfl⟩
end JC2
set_option maxHeartbeats 20000000 in
theorem c_changes {d : Nat} {b : SBt} {Y : OUt} {A B : MM} {u : Int32} (I : InvP b A B) {t : Nat} (D : Dr B t) (hG : Gd (B 95)) : Con (d + 22) 300 2000 yL_changes cL_changes 5 (some .boolean) [.ref 0, .int u] (HH b Y A) (fun o k => ∃ y A1 B1, o = .inl (some (.int y)) ∧ k = HH b Y A1 ∧ InvP b A1 B1 ∧ ChZ B y B1) := by
  have h8 := D.2.1
  have h2 := I.t2 D
  have n56 := (I.h9 D).2.1
  have nn0 := I.n0 D
  refine Con.of (by decide +kernel) (Nat.le_of_ble_eq_true rfl) rfl fun p l e s m args below meth c D0 tyc A0 ad0 x hr htab hname => ?_
  obtain ⟨adK, adV, hS, hK⟩ := x.cst
  change JJ _ _ _ _ _ _ _ _ _ _ _ _ _ _ _ _ _ 0 [some (.ref 0), some (.int u), none, none, none] [] _ 0 0
  refine j_cut 69 (fun q => [some (.ref 0), some (.int u), some (.int (nI (nn t true))), some (.int (nI q)), none]) [] (fun q h1 c1 s1 => q ≤ nn t true ∧ (∃ A1, h1 = HH b Y A1 ∧ InvP b A1 B) ∧ c1 ≤ 150 ∧ s1 ≤ 900) (fun q h1 c1 s1 hz => ?_) (fun K => ?_)
  · obtain ⟨hq, ⟨A1, rfl, I⟩, hc1, hs1⟩ := hz
    refine j_okd fun hok _ _ => ?_
    have hn0 : (HH b Y A).1 ≤ (HH b Y A1).1 := Nat.le_refl _
    have hLok : ∀ v, some v ∈ [some (.ref 0), some (.int u), some (.int (nI (nn t true))), some (.int (nI q)), none] → j_ok (HH b Y A1).1 v := fun v hv => by
      simp only [List.mem_cons, Option.some.injEq, List.not_mem_nil, or_false, reduceCtorEq] at hv
      rcases hv with rfl | rfl | rfl | rfl
      · exact j_ok_ref (show 0 < b.2.1 by have := I.hb; omega)
      · exact j_ok_int
      · exact j_ok_int
      · exact j_ok_int
    refine j_iload_n x dL_changes_69 rfl ?_
    refine j_bipush (v := 18) x dL_changes_70 (by decide) ?_
    refine j_callS x dL_changes_72 (c_some (d := 0) (by decide)) m_L_some wmL_165 rfl (Nat.le_of_ble_eq_true rfl) (j_fit_rm (by omega) (by omega) (by omega)) rfl (fun E k z => by cases z.1) (fun v k z => ?_)
    obtain ⟨z1, rfl⟩ := z
    cases z1
    obtain ⟨a0, ha0, z2⟩ := sm_in _ (n := 18) (by decide) (by decide)
    refine j_top z2 ?_
    clear z2
    rcases (show a0 = 0 ∨ a0 = 1 ∨ a0 = 2 ∨ a0 = 3 ∨ a0 = 4 ∨ a0 = 5 ∨ a0 = 6 ∨ a0 = 7 ∨ a0 = 8 ∨ a0 = 9 ∨ a0 = 10 ∨ a0 = 11 ∨ a0 = 12 ∨ a0 = 13 ∨ a0 = 14 ∨ a0 = 15 ∨ a0 = 16 ∨ a0 = 17 by omega) with rfl | rfl | rfl | rfl | rfl | rfl | rfl | rfl | rfl | rfl | rfl | rfl | rfl | rfl | rfl | rfl | rfl | rfl
    · refine j_tableIn (tgt := 152) (off := 77) x dL_changes_75 (by decide) (by decide) (by decide) (by decide) ?_
      refine j_aload_n x dL_changes_152 rfl ?_
      refine j_iload_n x dL_changes_153 rfl ?_
      refine j_iconst (v := 4) x dL_changes_154 (by decide) ?_
      refine j_ishr x dL_changes_155 ?_
      refine j_bipush (v := 12) x dL_changes_156 (by decide) ?_
      refine j_callS x dL_changes_158 (c_some (d := 0) (by decide)) m_L_some wmL_165 rfl (Nat.le_of_ble_eq_true rfl) (j_fit_rm (by omega) (by omega) (by omega)) rfl (fun E k z => by cases z.1) (fun v k z => ?_)
      obtain ⟨z1, rfl⟩ := z
      cases z1
      obtain ⟨a1, ha1, z2⟩ := sm_in _ (n := 12) (by decide) (by decide)
      refine j_top z2 ?_
      clear z2
      refine j_iconst (v := 1) x dL_changes_161 (by decide) ?_
      refine j_isub x dL_changes_162 ?_
      refine c_call x (T_team (Y := Y) I D (nI a1 - 1)) dL_changes_163 m_L_team (by decide) wmL_168 rfl (Nat.le_of_ble_eq_true rfl) (fun mc ms z1 z2 => j_fit_rm (by omega) (by omega) (by omega)) rfl (fun v A2 B2 I2 hc => ?_)
      refine j_sipush (v := (-1001)) x dL_changes_166 (by decide) ?_
      refine j_icmp_eq (tgt := 176) x dL_changes_169 (by decide) (fun hv => ?_) (fun hv => ?_)
      · refine j_iconst (v := 0) x dL_changes_176 (by decide) ?_
        exact j_zreturn x hr dL_changes_177 (by first | decide | with_reducible exact jb_nar | with_reducible exact jisS_nar | with_reducible exact gno_nar) (by omega) (by omega) ⟨_, A2, B2, rfl, rfl, I2, Or.inl ⟨rfl, ch_no hv hc⟩⟩
      · refine j_iconst (v := 1) x dL_changes_172 (by decide) ?_
        refine j_goto (tgt := 177) x dL_changes_173 (by decide) ?_
        exact j_zreturn x hr dL_changes_177 (by first | decide | with_reducible exact jb_nar | with_reducible exact jisS_nar | with_reducible exact gno_nar) (by omega) (by omega) ⟨_, A2, B2, rfl, rfl, I2, Or.inr ⟨rfl, ch_ok hv hc⟩⟩
    · refine j_tableIn (tgt := 178) (off := 103) x dL_changes_75 (by decide) (by decide) (by decide) (by decide) ?_
      refine j_aload_n x dL_changes_178 rfl ?_
      refine j_iload_n x dL_changes_179 rfl ?_
      refine j_iconst (v := 4) x dL_changes_180 (by decide) ?_
      refine j_ishr x dL_changes_181 ?_
      refine j_aload_n x dL_changes_182 rfl ?_
      refine j_iconst (v := 0) x dL_changes_183 (by decide) ?_
      refine q_call x I (Q_n0 (Y := Y) I D) dL_changes_184 m_L_account (by decide) wmL_172 rfl (Nat.le_of_ble_eq_true rfl) (fun mc ms z1 z2 => j_fit_rm (by omega) (by omega) (by omega)) rfl (fun A I => ?_)
      refine j_iconst (v := 1) x dL_changes_187 (by decide) ?_
      refine j_iadd x dL_changes_188 ?_
      refine j_top (nI_1 t) ?_
      refine j_callS x dL_changes_189 (c_some (d := 0) (nI_ne0 (by omega) (by omega))) m_L_some wmL_165 rfl (Nat.le_of_ble_eq_true rfl) (j_fit_rm (by omega) (by omega) (by omega)) rfl (fun E k z => by cases z.1) (fun v k z => ?_)
      obtain ⟨z1, rfl⟩ := z
      cases z1
      obtain ⟨a1, ha1, z2⟩ := sm_in _ (n := t + 1) (by omega) (by omega)
      refine j_top z2 ?_
      clear z2
      refine j_iload_n x dL_changes_192 rfl ?_
      refine j_bipush (v := 7) x dL_changes_193 (by decide) ?_
      refine j_ishr x dL_changes_195 ?_
      refine j_bipush (v := 12) x dL_changes_196 (by decide) ?_
      refine j_callS x dL_changes_198 (c_some (d := 0) (by decide)) m_L_some wmL_165 rfl (Nat.le_of_ble_eq_true rfl) (j_fit_rm (by omega) (by omega) (by omega)) rfl (fun E k z => by cases z.1) (fun v k z => ?_)
      obtain ⟨z1, rfl⟩ := z
      cases z1
      obtain ⟨a2, ha2, z2⟩ := sm_in _ (n := 12) (by decide) (by decide)
      refine j_top z2 ?_
      clear z2
      refine j_iconst (v := 1) x dL_changes_201 (by decide) ?_
      refine j_isub x dL_changes_202 ?_
      refine c_call x (T_ground (Y := Y) I D hG (q := a1) (by omega) (nI a2 - 1)) dL_changes_203 m_L_ground (by decide) wmL_234 rfl (Nat.le_of_ble_eq_true rfl) (fun mc ms z1 z2 => j_fit_rm (by omega) (by omega) (by omega)) rfl (fun v A2 B2 I2 hc => ?_)
      refine j_sipush (v := (-1001)) x dL_changes_206 (by decide) ?_
      refine j_icmp_eq (tgt := 216) x dL_changes_209 (by decide) (fun hv => ?_) (fun hv => ?_)
      · refine j_iconst (v := 0) x dL_changes_216 (by decide) ?_
        exact j_zreturn x hr dL_changes_217 (by first | decide | with_reducible exact jb_nar | with_reducible exact jisS_nar | with_reducible exact gno_nar) (by omega) (by omega) ⟨_, A2, B2, rfl, rfl, I2, Or.inl ⟨rfl, ch_no hv hc⟩⟩
      · refine j_iconst (v := 1) x dL_changes_212 (by decide) ?_
        refine j_goto (tgt := 217) x dL_changes_213 (by decide) ?_
        exact j_zreturn x hr dL_changes_217 (by first | decide | with_reducible exact jb_nar | with_reducible exact jisS_nar | with_reducible exact gno_nar) (by omega) (by omega) ⟨_, A2, B2, rfl, rfl, I2, Or.inr ⟨rfl, ch_ok hv hc⟩⟩
    · refine j_tableIn (tgt := 218) (off := 143) x dL_changes_75 (by decide) (by decide) (by decide) (by decide) ?_
      refine j_aload_n x dL_changes_218 rfl ?_
      refine j_iload_n x dL_changes_219 rfl ?_
      refine j_iconst (v := 4) x dL_changes_220 (by decide) ?_
      refine j_ishr x dL_changes_221 ?_
      refine j_bipush (v := 7) x dL_changes_222 (by decide) ?_
      refine j_callS x dL_changes_224 (c_some (d := 0) (by decide)) m_L_some wmL_165 rfl (Nat.le_of_ble_eq_true rfl) (j_fit_rm (by omega) (by omega) (by omega)) rfl (fun E k z => by cases z.1) (fun v k z => ?_)
      obtain ⟨z1, rfl⟩ := z
      cases z1
      obtain ⟨a1, ha1, z2⟩ := sm_in _ (n := 7) (by decide) (by decide)
      refine j_top z2 ?_
      clear z2
      refine j_iload_n x dL_changes_227 rfl ?_
      refine j_bipush (v := 7) x dL_changes_228 (by decide) ?_
      refine j_ishr x dL_changes_230 ?_
      refine j_iconst (v := 5) x dL_changes_231 (by decide) ?_
      refine j_callS x dL_changes_232 (c_some (d := 0) (by decide)) m_L_some wmL_165 rfl (Nat.le_of_ble_eq_true rfl) (j_fit_rm (by omega) (by omega) (by omega)) rfl (fun E k z => by cases z.1) (fun v k z => ?_)
      obtain ⟨z1, rfl⟩ := z
      cases z1
      obtain ⟨a2, ha2, z2⟩ := sm_in _ (n := 5) (by decide) (by decide)
      refine j_top z2 ?_
      clear z2
      refine c_call x (T_give (Y := Y) I (nI a1) (nI a2)) dL_changes_235 m_L_give (by decide) wmL_236 rfl (Nat.le_of_ble_eq_true rfl) (fun mc ms z1 z2 => j_fit_rm (by omega) (by omega) (by omega)) rfl (fun v A2 B2 I2 hc => ?_)
      refine j_sipush (v := (-1001)) x dL_changes_238 (by decide) ?_
      refine j_icmp_eq (tgt := 248) x dL_changes_241 (by decide) (fun hv => ?_) (fun hv => ?_)
      · refine j_iconst (v := 0) x dL_changes_248 (by decide) ?_
        exact j_zreturn x hr dL_changes_249 (by first | decide | with_reducible exact jb_nar | with_reducible exact jisS_nar | with_reducible exact gno_nar) (by omega) (by omega) ⟨_, A2, B2, rfl, rfl, I2, Or.inl ⟨rfl, ch_no hv hc⟩⟩
      · refine j_iconst (v := 1) x dL_changes_244 (by decide) ?_
        refine j_goto (tgt := 249) x dL_changes_245 (by decide) ?_
        exact j_zreturn x hr dL_changes_249 (by first | decide | with_reducible exact jb_nar | with_reducible exact jisS_nar | with_reducible exact gno_nar) (by omega) (by omega) ⟨_, A2, B2, rfl, rfl, I2, Or.inr ⟨rfl, ch_ok hv hc⟩⟩
    · refine j_tableIn (tgt := 250) (off := 175) x dL_changes_75 (by decide) (by decide) (by decide) (by decide) ?_
      refine j_aload_n x dL_changes_250 rfl ?_
      refine j_iload_n x dL_changes_251 rfl ?_
      refine j_iconst (v := 4) x dL_changes_252 (by decide) ?_
      refine j_ishr x dL_changes_253 ?_
      refine j_bipush (v := 8) x dL_changes_254 (by decide) ?_
      refine j_callS x dL_changes_256 (c_some (d := 0) (by decide)) m_L_some wmL_165 rfl (Nat.le_of_ble_eq_true rfl) (j_fit_rm (by omega) (by omega) (by omega)) rfl (fun E k z => by cases z.1) (fun v k z => ?_)
      obtain ⟨z1, rfl⟩ := z
      cases z1
      obtain ⟨a1, ha1, z2⟩ := sm_in _ (n := 8) (by decide) (by decide)
      refine j_top z2 ?_
      clear z2
      refine j_iconst (v := 2) x dL_changes_259 (by decide) ?_
      refine j_isub x dL_changes_260 ?_
      refine j_iload_n x dL_changes_261 rfl ?_
      refine j_bipush (v := 6) x dL_changes_262 (by decide) ?_
      refine j_ishr x dL_changes_264 ?_
      refine j_bipush (v := 7) x dL_changes_265 (by decide) ?_
      refine j_callS x dL_changes_267 (c_some (d := 0) (by decide)) m_L_some wmL_165 rfl (Nat.le_of_ble_eq_true rfl) (j_fit_rm (by omega) (by omega) (by omega)) rfl (fun E k z => by cases z.1) (fun v k z => ?_)
      obtain ⟨z1, rfl⟩ := z
      cases z1
      obtain ⟨a2, ha2, z2⟩ := sm_in _ (n := 7) (by decide) (by decide)
      refine j_top z2 ?_
      clear z2
      refine j_iconst (v := 1) x dL_changes_270 (by decide) ?_
      refine j_isub x dL_changes_271 ?_
      refine j_iload_n x dL_changes_272 rfl ?_
      refine j_bipush (v := 8) x dL_changes_273 (by decide) ?_
      refine j_ishr x dL_changes_275 ?_
      refine j_bipush (v := 7) x dL_changes_276 (by decide) ?_
      refine j_callS x dL_changes_278 (c_some (d := 0) (by decide)) m_L_some wmL_165 rfl (Nat.le_of_ble_eq_true rfl) (j_fit_rm (by omega) (by omega) (by omega)) rfl (fun E k z => by cases z.1) (fun v k z => ?_)
      obtain ⟨z1, rfl⟩ := z
      cases z1
      obtain ⟨a3, ha3, z2⟩ := sm_in _ (n := 7) (by decide) (by decide)
      refine j_top z2 ?_
      clear z2
      refine j_iconst (v := 1) x dL_changes_281 (by decide) ?_
      refine j_isub x dL_changes_282 ?_
      refine c_call x (T_rules (Y := Y) I (nI a1 - 2) (nI a2 - 1) (nI a3 - 1)) dL_changes_283 m_L_rules (by decide) wmL_238 rfl (Nat.le_of_ble_eq_true rfl) (fun mc ms z1 z2 => j_fit_rm (by omega) (by omega) (by omega)) rfl (fun v A2 B2 I2 hc => ?_)
      refine j_sipush (v := (-1001)) x dL_changes_286 (by decide) ?_
      refine j_icmp_eq (tgt := 296) x dL_changes_289 (by decide) (fun hv => ?_) (fun hv => ?_)
      · refine j_iconst (v := 0) x dL_changes_296 (by decide) ?_
        exact j_zreturn x hr dL_changes_297 (by first | decide | with_reducible exact jb_nar | with_reducible exact jisS_nar | with_reducible exact gno_nar) (by omega) (by omega) ⟨_, A2, B2, rfl, rfl, I2, Or.inl ⟨rfl, ch_no hv hc⟩⟩
      · refine j_iconst (v := 1) x dL_changes_292 (by decide) ?_
        refine j_goto (tgt := 297) x dL_changes_293 (by decide) ?_
        exact j_zreturn x hr dL_changes_297 (by first | decide | with_reducible exact jb_nar | with_reducible exact jisS_nar | with_reducible exact gno_nar) (by omega) (by omega) ⟨_, A2, B2, rfl, rfl, I2, Or.inr ⟨rfl, ch_ok hv hc⟩⟩
    · refine j_tableIn (tgt := 298) (off := 223) x dL_changes_75 (by decide) (by decide) (by decide) (by decide) ?_
      refine j_aload_n x dL_changes_298 rfl ?_
      refine j_iload_n x dL_changes_299 rfl ?_
      refine j_iload_n x dL_changes_300 rfl ?_
      refine j_iconst (v := 5) x dL_changes_301 (by decide) ?_
      refine j_ishr x dL_changes_302 ?_
      refine j_bipush (v := 22) x dL_changes_303 (by decide) ?_
      refine j_callS x dL_changes_305 (c_some (d := 0) (by decide)) m_L_some wmL_165 rfl (Nat.le_of_ble_eq_true rfl) (j_fit_rm (by omega) (by omega) (by omega)) rfl (fun E k z => by cases z.1) (fun v k z => ?_)
      obtain ⟨z1, rfl⟩ := z
      cases z1
      obtain ⟨a1, ha1, z2⟩ := sm_in _ (n := 22) (by decide) (by decide)
      refine j_top z2 ?_
      clear z2
      refine j_iload_n x dL_changes_308 rfl ?_
      refine j_bipush (v := 7) x dL_changes_309 (by decide) ?_
      refine j_ishr x dL_changes_311 ?_
      refine j_bipush (v := 22) x dL_changes_312 (by decide) ?_
      refine j_callS x dL_changes_314 (c_some (d := 0) (by decide)) m_L_some wmL_165 rfl (Nat.le_of_ble_eq_true rfl) (j_fit_rm (by omega) (by omega) (by omega)) rfl (fun E k z => by cases z.1) (fun v k z => ?_)
      obtain ⟨z1, rfl⟩ := z
      cases z1
      obtain ⟨a2, ha2, z2⟩ := sm_in _ (n := 22) (by decide) (by decide)
      refine j_top z2 ?_
      clear z2
      refine c_call x (T_result (Y := Y) I D hq (nI a1) (nI a2)) dL_changes_317 m_L_result (by decide) wmL_179 rfl (Nat.le_of_ble_eq_true rfl) (fun mc ms z1 z2 => j_fit_rm (by omega) (by omega) (by omega)) rfl (fun v A2 B2 I2 hc => ?_)
      refine j_sipush (v := (-1001)) x dL_changes_320 (by decide) ?_
      refine j_icmp_eq (tgt := 330) x dL_changes_323 (by decide) (fun hv => ?_) (fun hv => ?_)
      · refine j_iconst (v := 0) x dL_changes_330 (by decide) ?_
        exact j_zreturn x hr dL_changes_331 (by first | decide | with_reducible exact jb_nar | with_reducible exact jisS_nar | with_reducible exact gno_nar) (by omega) (by omega) ⟨_, A2, B2, rfl, rfl, I2, Or.inl ⟨rfl, ch_no hv hc⟩⟩
      · refine j_iconst (v := 1) x dL_changes_326 (by decide) ?_
        refine j_goto (tgt := 331) x dL_changes_327 (by decide) ?_
        exact j_zreturn x hr dL_changes_331 (by first | decide | with_reducible exact jb_nar | with_reducible exact jisS_nar | with_reducible exact gno_nar) (by omega) (by omega) ⟨_, A2, B2, rfl, rfl, I2, Or.inr ⟨rfl, ch_ok hv hc⟩⟩
    · refine j_tableIn (tgt := 298) (off := 223) x dL_changes_75 (by decide) (by decide) (by decide) (by decide) ?_
      refine j_aload_n x dL_changes_298 rfl ?_
      refine j_iload_n x dL_changes_299 rfl ?_
      refine j_iload_n x dL_changes_300 rfl ?_
      refine j_iconst (v := 5) x dL_changes_301 (by decide) ?_
      refine j_ishr x dL_changes_302 ?_
      refine j_bipush (v := 22) x dL_changes_303 (by decide) ?_
      refine j_callS x dL_changes_305 (c_some (d := 0) (by decide)) m_L_some wmL_165 rfl (Nat.le_of_ble_eq_true rfl) (j_fit_rm (by omega) (by omega) (by omega)) rfl (fun E k z => by cases z.1) (fun v k z => ?_)
      obtain ⟨z1, rfl⟩ := z
      cases z1
      obtain ⟨a1, ha1, z2⟩ := sm_in _ (n := 22) (by decide) (by decide)
      refine j_top z2 ?_
      clear z2
      refine j_iload_n x dL_changes_308 rfl ?_
      refine j_bipush (v := 7) x dL_changes_309 (by decide) ?_
      refine j_ishr x dL_changes_311 ?_
      refine j_bipush (v := 22) x dL_changes_312 (by decide) ?_
      refine j_callS x dL_changes_314 (c_some (d := 0) (by decide)) m_L_some wmL_165 rfl (Nat.le_of_ble_eq_true rfl) (j_fit_rm (by omega) (by omega) (by omega)) rfl (fun E k z => by cases z.1) (fun v k z => ?_)
      obtain ⟨z1, rfl⟩ := z
      cases z1
      obtain ⟨a2, ha2, z2⟩ := sm_in _ (n := 22) (by decide) (by decide)
      refine j_top z2 ?_
      clear z2
      refine c_call x (T_result (Y := Y) I D hq (nI a1) (nI a2)) dL_changes_317 m_L_result (by decide) wmL_179 rfl (Nat.le_of_ble_eq_true rfl) (fun mc ms z1 z2 => j_fit_rm (by omega) (by omega) (by omega)) rfl (fun v A2 B2 I2 hc => ?_)
      refine j_sipush (v := (-1001)) x dL_changes_320 (by decide) ?_
      refine j_icmp_eq (tgt := 330) x dL_changes_323 (by decide) (fun hv => ?_) (fun hv => ?_)
      · refine j_iconst (v := 0) x dL_changes_330 (by decide) ?_
        exact j_zreturn x hr dL_changes_331 (by first | decide | with_reducible exact jb_nar | with_reducible exact jisS_nar | with_reducible exact gno_nar) (by omega) (by omega) ⟨_, A2, B2, rfl, rfl, I2, Or.inl ⟨rfl, ch_no hv hc⟩⟩
      · refine j_iconst (v := 1) x dL_changes_326 (by decide) ?_
        refine j_goto (tgt := 331) x dL_changes_327 (by decide) ?_
        exact j_zreturn x hr dL_changes_331 (by first | decide | with_reducible exact jb_nar | with_reducible exact jisS_nar | with_reducible exact gno_nar) (by omega) (by omega) ⟨_, A2, B2, rfl, rfl, I2, Or.inr ⟨rfl, ch_ok hv hc⟩⟩
    · refine j_tableIn (tgt := 298) (off := 223) x dL_changes_75 (by decide) (by decide) (by decide) (by decide) ?_
      refine j_aload_n x dL_changes_298 rfl ?_
      refine j_iload_n x dL_changes_299 rfl ?_
      refine j_iload_n x dL_changes_300 rfl ?_
      refine j_iconst (v := 5) x dL_changes_301 (by decide) ?_
      refine j_ishr x dL_changes_302 ?_
      refine j_bipush (v := 22) x dL_changes_303 (by decide) ?_
      refine j_callS x dL_changes_305 (c_some (d := 0) (by decide)) m_L_some wmL_165 rfl (Nat.le_of_ble_eq_true rfl) (j_fit_rm (by omega) (by omega) (by omega)) rfl (fun E k z => by cases z.1) (fun v k z => ?_)
      obtain ⟨z1, rfl⟩ := z
      cases z1
      obtain ⟨a1, ha1, z2⟩ := sm_in _ (n := 22) (by decide) (by decide)
      refine j_top z2 ?_
      clear z2
      refine j_iload_n x dL_changes_308 rfl ?_
      refine j_bipush (v := 7) x dL_changes_309 (by decide) ?_
      refine j_ishr x dL_changes_311 ?_
      refine j_bipush (v := 22) x dL_changes_312 (by decide) ?_
      refine j_callS x dL_changes_314 (c_some (d := 0) (by decide)) m_L_some wmL_165 rfl (Nat.le_of_ble_eq_true rfl) (j_fit_rm (by omega) (by omega) (by omega)) rfl (fun E k z => by cases z.1) (fun v k z => ?_)
      obtain ⟨z1, rfl⟩ := z
      cases z1
      obtain ⟨a2, ha2, z2⟩ := sm_in _ (n := 22) (by decide) (by decide)
      refine j_top z2 ?_
      clear z2
      refine c_call x (T_result (Y := Y) I D hq (nI a1) (nI a2)) dL_changes_317 m_L_result (by decide) wmL_179 rfl (Nat.le_of_ble_eq_true rfl) (fun mc ms z1 z2 => j_fit_rm (by omega) (by omega) (by omega)) rfl (fun v A2 B2 I2 hc => ?_)
      refine j_sipush (v := (-1001)) x dL_changes_320 (by decide) ?_
      refine j_icmp_eq (tgt := 330) x dL_changes_323 (by decide) (fun hv => ?_) (fun hv => ?_)
      · refine j_iconst (v := 0) x dL_changes_330 (by decide) ?_
        exact j_zreturn x hr dL_changes_331 (by first | decide | with_reducible exact jb_nar | with_reducible exact jisS_nar | with_reducible exact gno_nar) (by omega) (by omega) ⟨_, A2, B2, rfl, rfl, I2, Or.inl ⟨rfl, ch_no hv hc⟩⟩
      · refine j_iconst (v := 1) x dL_changes_326 (by decide) ?_
        refine j_goto (tgt := 331) x dL_changes_327 (by decide) ?_
        exact j_zreturn x hr dL_changes_331 (by first | decide | with_reducible exact jb_nar | with_reducible exact jisS_nar | with_reducible exact gno_nar) (by omega) (by omega) ⟨_, A2, B2, rfl, rfl, I2, Or.inr ⟨rfl, ch_ok hv hc⟩⟩
    · refine j_tableIn (tgt := 298) (off := 223) x dL_changes_75 (by decide) (by decide) (by decide) (by decide) ?_
      refine j_aload_n x dL_changes_298 rfl ?_
      refine j_iload_n x dL_changes_299 rfl ?_
      refine j_iload_n x dL_changes_300 rfl ?_
      refine j_iconst (v := 5) x dL_changes_301 (by decide) ?_
      refine j_ishr x dL_changes_302 ?_
      refine j_bipush (v := 22) x dL_changes_303 (by decide) ?_
      refine j_callS x dL_changes_305 (c_some (d := 0) (by decide)) m_L_some wmL_165 rfl (Nat.le_of_ble_eq_true rfl) (j_fit_rm (by omega) (by omega) (by omega)) rfl (fun E k z => by cases z.1) (fun v k z => ?_)
      obtain ⟨z1, rfl⟩ := z
      cases z1
      obtain ⟨a1, ha1, z2⟩ := sm_in _ (n := 22) (by decide) (by decide)
      refine j_top z2 ?_
      clear z2
      refine j_iload_n x dL_changes_308 rfl ?_
      refine j_bipush (v := 7) x dL_changes_309 (by decide) ?_
      refine j_ishr x dL_changes_311 ?_
      refine j_bipush (v := 22) x dL_changes_312 (by decide) ?_
      refine j_callS x dL_changes_314 (c_some (d := 0) (by decide)) m_L_some wmL_165 rfl (Nat.le_of_ble_eq_true rfl) (j_fit_rm (by omega) (by omega) (by omega)) rfl (fun E k z => by cases z.1) (fun v k z => ?_)
      obtain ⟨z1, rfl⟩ := z
      cases z1
      obtain ⟨a2, ha2, z2⟩ := sm_in _ (n := 22) (by decide) (by decide)
      refine j_top z2 ?_
      clear z2
      refine c_call x (T_result (Y := Y) I D hq (nI a1) (nI a2)) dL_changes_317 m_L_result (by decide) wmL_179 rfl (Nat.le_of_ble_eq_true rfl) (fun mc ms z1 z2 => j_fit_rm (by omega) (by omega) (by omega)) rfl (fun v A2 B2 I2 hc => ?_)
      refine j_sipush (v := (-1001)) x dL_changes_320 (by decide) ?_
      refine j_icmp_eq (tgt := 330) x dL_changes_323 (by decide) (fun hv => ?_) (fun hv => ?_)
      · refine j_iconst (v := 0) x dL_changes_330 (by decide) ?_
        exact j_zreturn x hr dL_changes_331 (by first | decide | with_reducible exact jb_nar | with_reducible exact jisS_nar | with_reducible exact gno_nar) (by omega) (by omega) ⟨_, A2, B2, rfl, rfl, I2, Or.inl ⟨rfl, ch_no hv hc⟩⟩
      · refine j_iconst (v := 1) x dL_changes_326 (by decide) ?_
        refine j_goto (tgt := 331) x dL_changes_327 (by decide) ?_
        exact j_zreturn x hr dL_changes_331 (by first | decide | with_reducible exact jb_nar | with_reducible exact jisS_nar | with_reducible exact gno_nar) (by omega) (by omega) ⟨_, A2, B2, rfl, rfl, I2, Or.inr ⟨rfl, ch_ok hv hc⟩⟩
    · refine j_tableIn (tgt := 332) (off := 257) x dL_changes_75 (by decide) (by decide) (by decide) (by decide) ?_
      refine j_aload_n x dL_changes_332 rfl ?_
      refine j_iload_n x dL_changes_333 rfl ?_
      refine c_call x (T_back (Y := Y) I D hq) dL_changes_334 m_L_back (by decide) wmL_240 rfl (Nat.le_of_ble_eq_true rfl) (fun mc ms z1 z2 => j_fit_rm (by omega) (by omega) (by omega)) rfl (fun v A2 B2 I2 hc => ?_)
      refine j_sipush (v := (-1001)) x dL_changes_337 (by decide) ?_
      refine j_icmp_eq (tgt := 347) x dL_changes_340 (by decide) (fun hv => ?_) (fun hv => ?_)
      · refine j_iconst (v := 0) x dL_changes_347 (by decide) ?_
        exact j_zreturn x hr dL_changes_348 (by first | decide | with_reducible exact jb_nar | with_reducible exact jisS_nar | with_reducible exact gno_nar) (by omega) (by omega) ⟨_, A2, B2, rfl, rfl, I2, Or.inl ⟨rfl, ch_no hv hc⟩⟩
      · refine j_iconst (v := 1) x dL_changes_343 (by decide) ?_
        refine j_goto (tgt := 348) x dL_changes_344 (by decide) ?_
        exact j_zreturn x hr dL_changes_348 (by first | decide | with_reducible exact jb_nar | with_reducible exact jisS_nar | with_reducible exact gno_nar) (by omega) (by omega) ⟨_, A2, B2, rfl, rfl, I2, Or.inr ⟨rfl, ch_ok hv hc⟩⟩
    · refine j_tableIn (tgt := 332) (off := 257) x dL_changes_75 (by decide) (by decide) (by decide) (by decide) ?_
      refine j_aload_n x dL_changes_332 rfl ?_
      refine j_iload_n x dL_changes_333 rfl ?_
      refine c_call x (T_back (Y := Y) I D hq) dL_changes_334 m_L_back (by decide) wmL_240 rfl (Nat.le_of_ble_eq_true rfl) (fun mc ms z1 z2 => j_fit_rm (by omega) (by omega) (by omega)) rfl (fun v A2 B2 I2 hc => ?_)
      refine j_sipush (v := (-1001)) x dL_changes_337 (by decide) ?_
      refine j_icmp_eq (tgt := 347) x dL_changes_340 (by decide) (fun hv => ?_) (fun hv => ?_)
      · refine j_iconst (v := 0) x dL_changes_347 (by decide) ?_
        exact j_zreturn x hr dL_changes_348 (by first | decide | with_reducible exact jb_nar | with_reducible exact jisS_nar | with_reducible exact gno_nar) (by omega) (by omega) ⟨_, A2, B2, rfl, rfl, I2, Or.inl ⟨rfl, ch_no hv hc⟩⟩
      · refine j_iconst (v := 1) x dL_changes_343 (by decide) ?_
        refine j_goto (tgt := 348) x dL_changes_344 (by decide) ?_
        exact j_zreturn x hr dL_changes_348 (by first | decide | with_reducible exact jb_nar | with_reducible exact jisS_nar | with_reducible exact gno_nar) (by omega) (by omega) ⟨_, A2, B2, rfl, rfl, I2, Or.inr ⟨rfl, ch_ok hv hc⟩⟩
    · refine j_tableIn (tgt := 349) (off := 274) x dL_changes_75 (by decide) (by decide) (by decide) (by decide) ?_
      refine j_aload_n x dL_changes_349 rfl ?_
      refine j_iload_n x dL_changes_350 rfl ?_
      refine j_iload_n x dL_changes_351 rfl ?_
      refine j_iconst (v := 5) x dL_changes_352 (by decide) ?_
      refine j_ishr x dL_changes_353 ?_
      refine j_bipush (v := 11) x dL_changes_354 (by decide) ?_
      refine j_callS x dL_changes_356 (c_some (d := 0) (by decide)) m_L_some wmL_165 rfl (Nat.le_of_ble_eq_true rfl) (j_fit_rm (by omega) (by omega) (by omega)) rfl (fun E k z => by cases z.1) (fun v k z => ?_)
      obtain ⟨z1, rfl⟩ := z
      cases z1
      obtain ⟨a1, ha1, z2⟩ := sm_in _ (n := 11) (by decide) (by decide)
      refine j_top z2 ?_
      clear z2
      refine c_call x (T_putOff (Y := Y) I D hq (nI a1)) dL_changes_359 m_L_putOff (by decide) wmL_177 rfl (Nat.le_of_ble_eq_true rfl) (fun mc ms z1 z2 => j_fit_rm (by omega) (by omega) (by omega)) rfl (fun v A2 B2 I2 hc => ?_)
      refine j_sipush (v := (-1001)) x dL_changes_362 (by decide) ?_
      refine j_icmp_eq (tgt := 372) x dL_changes_365 (by decide) (fun hv => ?_) (fun hv => ?_)
      · refine j_iconst (v := 0) x dL_changes_372 (by decide) ?_
        exact j_zreturn x hr dL_changes_373 (by first | decide | with_reducible exact jb_nar | with_reducible exact jisS_nar | with_reducible exact gno_nar) (by omega) (by omega) ⟨_, A2, B2, rfl, rfl, I2, Or.inl ⟨rfl, ch_no hv hc⟩⟩
      · refine j_iconst (v := 1) x dL_changes_368 (by decide) ?_
        refine j_goto (tgt := 373) x dL_changes_369 (by decide) ?_
        exact j_zreturn x hr dL_changes_373 (by first | decide | with_reducible exact jb_nar | with_reducible exact jisS_nar | with_reducible exact gno_nar) (by omega) (by omega) ⟨_, A2, B2, rfl, rfl, I2, Or.inr ⟨rfl, ch_ok hv hc⟩⟩
    · refine j_tableIn (tgt := 349) (off := 274) x dL_changes_75 (by decide) (by decide) (by decide) (by decide) ?_
      refine j_aload_n x dL_changes_349 rfl ?_
      refine j_iload_n x dL_changes_350 rfl ?_
      refine j_iload_n x dL_changes_351 rfl ?_
      refine j_iconst (v := 5) x dL_changes_352 (by decide) ?_
      refine j_ishr x dL_changes_353 ?_
      refine j_bipush (v := 11) x dL_changes_354 (by decide) ?_
      refine j_callS x dL_changes_356 (c_some (d := 0) (by decide)) m_L_some wmL_165 rfl (Nat.le_of_ble_eq_true rfl) (j_fit_rm (by omega) (by omega) (by omega)) rfl (fun E k z => by cases z.1) (fun v k z => ?_)
      obtain ⟨z1, rfl⟩ := z
      cases z1
      obtain ⟨a1, ha1, z2⟩ := sm_in _ (n := 11) (by decide) (by decide)
      refine j_top z2 ?_
      clear z2
      refine c_call x (T_putOff (Y := Y) I D hq (nI a1)) dL_changes_359 m_L_putOff (by decide) wmL_177 rfl (Nat.le_of_ble_eq_true rfl) (fun mc ms z1 z2 => j_fit_rm (by omega) (by omega) (by omega)) rfl (fun v A2 B2 I2 hc => ?_)
      refine j_sipush (v := (-1001)) x dL_changes_362 (by decide) ?_
      refine j_icmp_eq (tgt := 372) x dL_changes_365 (by decide) (fun hv => ?_) (fun hv => ?_)
      · refine j_iconst (v := 0) x dL_changes_372 (by decide) ?_
        exact j_zreturn x hr dL_changes_373 (by first | decide | with_reducible exact jb_nar | with_reducible exact jisS_nar | with_reducible exact gno_nar) (by omega) (by omega) ⟨_, A2, B2, rfl, rfl, I2, Or.inl ⟨rfl, ch_no hv hc⟩⟩
      · refine j_iconst (v := 1) x dL_changes_368 (by decide) ?_
        refine j_goto (tgt := 373) x dL_changes_369 (by decide) ?_
        exact j_zreturn x hr dL_changes_373 (by first | decide | with_reducible exact jb_nar | with_reducible exact jisS_nar | with_reducible exact gno_nar) (by omega) (by omega) ⟨_, A2, B2, rfl, rfl, I2, Or.inr ⟨rfl, ch_ok hv hc⟩⟩
    · refine j_tableIn (tgt := 374) (off := 299) x dL_changes_75 (by decide) (by decide) (by decide) (by decide) ?_
      refine j_aload_n x dL_changes_374 rfl ?_
      refine c_call x (T_next (Y := Y) I D) dL_changes_375 m_L_next (by decide) wmL_182 rfl (Nat.le_of_ble_eq_true rfl) (fun mc ms z1 z2 => j_fit_rm (by omega) (by omega) (by omega)) rfl (fun v A2 B2 I2 hc => ?_)
      refine j_sipush (v := (-1001)) x dL_changes_378 (by decide) ?_
      refine j_icmp_eq (tgt := 388) x dL_changes_381 (by decide) (fun hv => ?_) (fun hv => ?_)
      · refine j_iconst (v := 0) x dL_changes_388 (by decide) ?_
        exact j_zreturn x hr dL_changes_389 (by first | decide | with_reducible exact jb_nar | with_reducible exact jisS_nar | with_reducible exact gno_nar) (by omega) (by omega) ⟨_, A2, B2, rfl, rfl, I2, Or.inl ⟨rfl, ch_no hv hc⟩⟩
      · refine j_iconst (v := 1) x dL_changes_384 (by decide) ?_
        refine j_goto (tgt := 389) x dL_changes_385 (by decide) ?_
        exact j_zreturn x hr dL_changes_389 (by first | decide | with_reducible exact jb_nar | with_reducible exact jisS_nar | with_reducible exact gno_nar) (by omega) (by omega) ⟨_, A2, B2, rfl, rfl, I2, Or.inr ⟨rfl, ch_ok hv hc⟩⟩
    · refine j_tableIn (tgt := 374) (off := 299) x dL_changes_75 (by decide) (by decide) (by decide) (by decide) ?_
      refine j_aload_n x dL_changes_374 rfl ?_
      refine c_call x (T_next (Y := Y) I D) dL_changes_375 m_L_next (by decide) wmL_182 rfl (Nat.le_of_ble_eq_true rfl) (fun mc ms z1 z2 => j_fit_rm (by omega) (by omega) (by omega)) rfl (fun v A2 B2 I2 hc => ?_)
      refine j_sipush (v := (-1001)) x dL_changes_378 (by decide) ?_
      refine j_icmp_eq (tgt := 388) x dL_changes_381 (by decide) (fun hv => ?_) (fun hv => ?_)
      · refine j_iconst (v := 0) x dL_changes_388 (by decide) ?_
        exact j_zreturn x hr dL_changes_389 (by first | decide | with_reducible exact jb_nar | with_reducible exact jisS_nar | with_reducible exact gno_nar) (by omega) (by omega) ⟨_, A2, B2, rfl, rfl, I2, Or.inl ⟨rfl, ch_no hv hc⟩⟩
      · refine j_iconst (v := 1) x dL_changes_384 (by decide) ?_
        refine j_goto (tgt := 389) x dL_changes_385 (by decide) ?_
        exact j_zreturn x hr dL_changes_389 (by first | decide | with_reducible exact jb_nar | with_reducible exact jisS_nar | with_reducible exact gno_nar) (by omega) (by omega) ⟨_, A2, B2, rfl, rfl, I2, Or.inr ⟨rfl, ch_ok hv hc⟩⟩
    · refine j_tableIn (tgt := 374) (off := 299) x dL_changes_75 (by decide) (by decide) (by decide) (by decide) ?_
      refine j_aload_n x dL_changes_374 rfl ?_
      refine c_call x (T_next (Y := Y) I D) dL_changes_375 m_L_next (by decide) wmL_182 rfl (Nat.le_of_ble_eq_true rfl) (fun mc ms z1 z2 => j_fit_rm (by omega) (by omega) (by omega)) rfl (fun v A2 B2 I2 hc => ?_)
      refine j_sipush (v := (-1001)) x dL_changes_378 (by decide) ?_
      refine j_icmp_eq (tgt := 388) x dL_changes_381 (by decide) (fun hv => ?_) (fun hv => ?_)
      · refine j_iconst (v := 0) x dL_changes_388 (by decide) ?_
        exact j_zreturn x hr dL_changes_389 (by first | decide | with_reducible exact jb_nar | with_reducible exact jisS_nar | with_reducible exact gno_nar) (by omega) (by omega) ⟨_, A2, B2, rfl, rfl, I2, Or.inl ⟨rfl, ch_no hv hc⟩⟩
      · refine j_iconst (v := 1) x dL_changes_384 (by decide) ?_
        refine j_goto (tgt := 389) x dL_changes_385 (by decide) ?_
        exact j_zreturn x hr dL_changes_389 (by first | decide | with_reducible exact jb_nar | with_reducible exact jisS_nar | with_reducible exact gno_nar) (by omega) (by omega) ⟨_, A2, B2, rfl, rfl, I2, Or.inr ⟨rfl, ch_ok hv hc⟩⟩
    · refine j_tableIn (tgt := 390) (off := 315) x dL_changes_75 (by decide) (by decide) (by decide) (by decide) ?_
      refine j_aload_n x dL_changes_390 rfl ?_
      refine c_call x (T_draw (Y := Y) I D) dL_changes_391 m_L_draw (by decide) wmL_170 rfl (Nat.le_of_ble_eq_true rfl) (fun mc ms z1 z2 => j_fit_rm (by omega) (by omega) (by omega)) rfl (fun v A2 B2 I2 hc => ?_)
      refine j_sipush (v := (-1001)) x dL_changes_394 (by decide) ?_
      refine j_icmp_eq (tgt := 404) x dL_changes_397 (by decide) (fun hv => ?_) (fun hv => ?_)
      · refine j_iconst (v := 0) x dL_changes_404 (by decide) ?_
        exact j_zreturn x hr dL_changes_405 (by first | decide | with_reducible exact jb_nar | with_reducible exact jisS_nar | with_reducible exact gno_nar) (by omega) (by omega) ⟨_, A2, B2, rfl, rfl, I2, Or.inl ⟨rfl, ch_no hv hc⟩⟩
      · refine j_iconst (v := 1) x dL_changes_400 (by decide) ?_
        refine j_goto (tgt := 405) x dL_changes_401 (by decide) ?_
        exact j_zreturn x hr dL_changes_405 (by first | decide | with_reducible exact jb_nar | with_reducible exact jisS_nar | with_reducible exact gno_nar) (by omega) (by omega) ⟨_, A2, B2, rfl, rfl, I2, Or.inr ⟨rfl, ch_ok hv hc⟩⟩
    · refine j_tableOut (tgt := 406) x dL_changes_75 (Or.inr (by decide)) (by decide) ?_
      refine j_aload_n x dL_changes_406 rfl ?_
      refine j_iload_n x dL_changes_407 rfl ?_
      refine j_bipush (v := 6) x dL_changes_408 (by decide) ?_
      refine j_ishr x dL_changes_410 ?_
      refine j_iconst (v := 1) x dL_changes_411 (by decide) ?_
      refine j_iand x dL_changes_412 ?_
      refine j_if_ne (tgt := 476) x dL_changes_413 (by decide) (fun hb => ?_) (fun hb => ?_)
      · refine j_newR x dL_changes_476 wcL_242 (by simp only [j_rm]; omega) (by simp only [j_rm]; omega) ?_
        refine j_dup x dL_changes_479 rfl ?_
        refine j_callIR2 x dL_changes_480 (c_sbNew (d := 0) (Y := Y)) m_J4_init_da8c8 wmL_244 (by decide) (Nat.le_of_ble_eq_true rfl) (j_fit_rm (by omega) (by omega) (by omega)) (fun E k z => by cases z.1) (fun v k z => ?_)
        obtain ⟨z1, rfl⟩ := z
        cases z1
        have hN0 := LB_0
        refine j_ldcWS x (hK 4 (by decide)) dL_changes_483 ?_
        refine j_callVR2 kstr_pin (kst_of hS (i := 4) (by decide)) x dL_changes_486 (c_appSP (d := 0) (Y := Y) (n := 1) (xs := fun j => ((j_cs.map fun q => q.2.2).getD 4 []).getD j 0) hN0 (by unfold okx; decide +kernel) (by omega)) m_J4_append_15ec4 wmL_247 jc_1 rfl (show 0 < 2 by decide) rfl (fun v hv => by rw [List.mem_singleton.mp hv]; exact j_ok_raw) rfl (Nat.le_of_ble_eq_true rfl) (j_fit_rm (by omega) (by omega) (by omega)) rfl (fun E k z => by cases z.1) (fun v k z => ?_)
        obtain ⟨z1, N1, rfl, hN1⟩ := z
        cases z1
        refine j_iload_n x dL_changes_489 rfl ?_
        refine j_iconst (v := 3) x dL_changes_490 (by decide) ?_
        refine j_ishr x dL_changes_491 ?_
        refine j_iconst (v := 5) x dL_changes_492 (by decide) ?_
        refine j_callS x dL_changes_493 (c_some (d := 0) (by decide)) m_L_some wmL_165 rfl (Nat.le_of_ble_eq_true rfl) (j_fit_rm (by omega) (by omega) (by omega)) rfl (fun E k z => by cases z.1) (fun v k z => ?_)
        obtain ⟨z1, rfl⟩ := z
        cases z1
        obtain ⟨a1, ha1, z2⟩ := sm_in _ (n := 5) (by decide) (by decide)
        refine j_top z2 ?_
        clear z2
        have hdg2 := dgx_1 (v := a1) (by omega)
        refine j_callVR2 j_pin_T trivial x dL_changes_496 (Con.toP (c_appN (d := 0) (Y := Y) (v1 := a1) hN1 (by omega) (by omega))) m_J4_append_bf812 wmL_250 jc_1 rfl (show 0 < 2 by decide) rfl (fun v hv => by rw [List.mem_singleton.mp hv]; exact j_ok_int) rfl (Nat.le_of_ble_eq_true rfl) (j_fit_rm (by omega) (by omega) (by omega)) rfl (fun E k z => by cases z.1) (fun v k z => ?_)
        obtain ⟨z1, N2, rfl, hN2⟩ := z
        cases z1
        refine j_iload_n x dL_changes_499 rfl ?_
        refine j_iconst (v := 5) x dL_changes_500 (by decide) ?_
        refine j_ishr x dL_changes_501 ?_
        refine j_iconst (v := 5) x dL_changes_502 (by decide) ?_
        refine j_callS x dL_changes_503 (c_some (d := 0) (by decide)) m_L_some wmL_165 rfl (Nat.le_of_ble_eq_true rfl) (j_fit_rm (by omega) (by omega) (by omega)) rfl (fun E k z => by cases z.1) (fun v k z => ?_)
        obtain ⟨z1, rfl⟩ := z
        cases z1
        obtain ⟨a2, ha2, z2⟩ := sm_in _ (n := 5) (by decide) (by decide)
        refine j_top z2 ?_
        clear z2
        have hdg3 := dgx_1 (v := a2) (by omega)
        refine j_callVR2 j_pin_T trivial x dL_changes_506 (Con.toP (c_appN (d := 0) (Y := Y) (v1 := a2) hN2 (by omega) (by omega))) m_J4_append_bf812 wmL_250 jc_1 rfl (show 0 < 2 by decide) rfl (fun v hv => by rw [List.mem_singleton.mp hv]; exact j_ok_int) rfl (Nat.le_of_ble_eq_true rfl) (j_fit_rm (by omega) (by omega) (by omega)) rfl (fun E k z => by cases z.1) (fun v k z => ?_)
        obtain ⟨z1, N3, rfl, hN3⟩ := z
        cases z1
        refine j_ldcWS x (hK 5 (by decide)) dL_changes_509 ?_
        refine j_callVR2 kstr_pin (kst_of hS (i := 5) (by decide)) x dL_changes_512 (c_appSP (d := 0) (Y := Y) (n := 2) (xs := fun j => ((j_cs.map fun q => q.2.2).getD 5 []).getD j 0) hN3 (by unfold okx; decide +kernel) (by omega)) m_J4_append_15ec4 wmL_247 jc_1 rfl (show 0 < 2 by decide) rfl (fun v hv => by rw [List.mem_singleton.mp hv]; exact j_ok_raw) rfl (Nat.le_of_ble_eq_true rfl) (j_fit_rm (by omega) (by omega) (by omega)) rfl (fun E k z => by cases z.1) (fun v k z => ?_)
        obtain ⟨z1, N4, rfl, hN4⟩ := z
        cases z1
        refine j_iload_n x dL_changes_515 rfl ?_
        have hdg5 := dgx_2 (v := q) (by omega)
        refine j_callVR2 j_pin_T trivial x dL_changes_516 (Con.toP (c_appN (d := 0) (Y := Y) (v1 := q) hN4 (by omega) (by omega))) m_J4_append_bf812 wmL_250 jc_1 rfl (show 0 < 2 by decide) rfl (fun v hv => by rw [List.mem_singleton.mp hv]; exact j_ok_int) rfl (Nat.le_of_ble_eq_true rfl) (j_fit_rm (by omega) (by omega) (by omega)) rfl (fun E k z => by cases z.1) (fun v k z => ?_)
        obtain ⟨z1, N5, rfl, hN5⟩ := z
        cases z1
        refine j_ldcWS x (hK 6 (by decide)) dL_changes_519 ?_
        refine j_callVR2 kstr_pin (kst_of hS (i := 6) (by decide)) x dL_changes_522 (c_appSP (d := 0) (Y := Y) (n := 1) (xs := fun j => ((j_cs.map fun q => q.2.2).getD 6 []).getD j 0) hN5 (by unfold okx; decide +kernel) (by omega)) m_J4_append_15ec4 wmL_247 jc_1 rfl (show 0 < 2 by decide) rfl (fun v hv => by rw [List.mem_singleton.mp hv]; exact j_ok_raw) rfl (Nat.le_of_ble_eq_true rfl) (j_fit_rm (by omega) (by omega) (by omega)) rfl (fun E k z => by cases z.1) (fun v k z => ?_)
        obtain ⟨z1, N6, rfl, hN6⟩ := z
        cases z1
        refine j_iload_n x dL_changes_525 rfl ?_
        refine j_bipush (v := 7) x dL_changes_526 (by decide) ?_
        refine j_ishr x dL_changes_528 ?_
        refine j_iconst (v := 4) x dL_changes_529 (by decide) ?_
        refine j_callS x dL_changes_530 (c_some (d := 0) (by decide)) m_L_some wmL_165 rfl (Nat.le_of_ble_eq_true rfl) (j_fit_rm (by omega) (by omega) (by omega)) rfl (fun E k z => by cases z.1) (fun v k z => ?_)
        obtain ⟨z1, rfl⟩ := z
        cases z1
        obtain ⟨a3, ha3, z2⟩ := sm_in _ (n := 4) (by decide) (by decide)
        refine j_top z2 ?_
        clear z2
        have hdg7 := dgx_1 (v := a3) (by omega)
        refine j_callVR2 j_pin_T trivial x dL_changes_533 (Con.toP (c_appN (d := 0) (Y := Y) (v1 := a3) hN6 (by omega) (by omega))) m_J4_append_bf812 wmL_250 jc_1 rfl (show 0 < 2 by decide) rfl (fun v hv => by rw [List.mem_singleton.mp hv]; exact j_ok_int) rfl (Nat.le_of_ble_eq_true rfl) (j_fit_rm (by omega) (by omega) (by omega)) rfl (fun E k z => by cases z.1) (fun v k z => ?_)
        obtain ⟨z1, N7, rfl, hN7⟩ := z
        cases z1
        refine j_callVR2 j_pin_T trivial x dL_changes_536 (Con.toP (c_toStr (d := 0) (SBh_of (Y := Y) hN7 (by omega)))) m_J4_toString_0e30d wmL_259 jc_1 rfl (show 0 < 2 by decide) rfl (fun v hv => by cases hv) rfl (Nat.le_of_ble_eq_true rfl) (j_fit_rm (by omega) (by omega) (by omega)) rfl (fun E k z => by cases z.1) (fun v k z => ?_)
        obtain ⟨z1, k1, k2, k3, k4, k5, k6, k7⟩ := z
        cases z1
        refine j_cat2 (Z := fun y A2 B2 => InvP b A2 B2 ∧ CmdZ B y B2) x dL_changes_539 k1 k2 k3 k4 k5 k6 k7 (fun a v xs => c_reads_z (d := 0) (by omega) I) m_L_reads wmL_269 hok I.hb (Nat.le_of_ble_eq_true rfl) (j_fit_rm (by omega) (by omega) (by omega)) (fun y g1 hz => ?_)
        obtain ⟨A2, B2, rfl, I2, hz⟩ := hz
        refine j_if_lt (tgt := 549) x dL_changes_542 (by decide) (fun hv => ?_) (fun hv => ?_)
        · refine j_iconst (v := 0) x dL_changes_549 (by decide) ?_
          refine j_forget hn0 (fun v hv => by rw [List.mem_singleton.mp hv]; exact j_ok_int) (fun v hv => hLok v hv) I2.ok ?_
          exact j_zreturn x hr dL_changes_550 (by decide) (by omega) (by omega) ⟨_, A2, B2, rfl, rfl, I2, Or.inl ⟨rfl, hz.elim (fun z => z.2) (fun z => absurd hv z.1)⟩⟩
        · refine j_iconst (v := 1) x dL_changes_545 (by decide) ?_
          refine j_goto (tgt := 550) x dL_changes_546 (by decide) ?_
          refine j_forget hn0 (fun v hv => by rw [List.mem_singleton.mp hv]; exact j_ok_int) (fun v hv => hLok v hv) I2.ok ?_
          exact j_zreturn x hr dL_changes_550 (by decide) (by omega) (by omega) ⟨_, A2, B2, rfl, rfl, I2, Or.inr ⟨rfl, hz.elim (fun z => absurd z.1 hv) (fun z => ⟨z.2.1, z.2.2.2.1, z.2.2.1, fun h => Gd_c h z.2.2.2.2⟩)⟩⟩
      · refine j_newR x dL_changes_416 wcL_242 (by simp only [j_rm]; omega) (by simp only [j_rm]; omega) ?_
        refine j_dup x dL_changes_419 rfl ?_
        refine j_callIR2 x dL_changes_420 (c_sbNew (d := 0) (Y := Y)) m_J4_init_da8c8 wmL_244 (by decide) (Nat.le_of_ble_eq_true rfl) (j_fit_rm (by omega) (by omega) (by omega)) (fun E k z => by cases z.1) (fun v k z => ?_)
        obtain ⟨z1, rfl⟩ := z
        cases z1
        have hN0 := LB_0
        refine j_ldcS x (hK 0 (by decide)) dL_changes_423 ?_
        refine j_callVR2 kstr_pin (kst_of hS (i := 0) (by decide)) x dL_changes_425 (c_appSP (d := 0) (Y := Y) (n := 1) (xs := fun j => ((j_cs.map fun q => q.2.2).getD 0 []).getD j 0) hN0 (by unfold okx; decide +kernel) (by omega)) m_J4_append_15ec4 wmL_247 jc_1 rfl (show 0 < 2 by decide) rfl (fun v hv => by rw [List.mem_singleton.mp hv]; exact j_ok_raw) rfl (Nat.le_of_ble_eq_true rfl) (j_fit_rm (by omega) (by omega) (by omega)) rfl (fun E k z => by cases z.1) (fun v k z => ?_)
        obtain ⟨z1, N1, rfl, hN1⟩ := z
        cases z1
        refine j_iload_n x dL_changes_428 rfl ?_
        have hdg2 := dgx_2 (v := q) (by omega)
        refine j_callVR2 j_pin_T trivial x dL_changes_429 (Con.toP (c_appN (d := 0) (Y := Y) (v1 := q) hN1 (by omega) (by omega))) m_J4_append_bf812 wmL_250 jc_1 rfl (show 0 < 2 by decide) rfl (fun v hv => by rw [List.mem_singleton.mp hv]; exact j_ok_int) rfl (Nat.le_of_ble_eq_true rfl) (j_fit_rm (by omega) (by omega) (by omega)) rfl (fun E k z => by cases z.1) (fun v k z => ?_)
        obtain ⟨z1, N2, rfl, hN2⟩ := z
        cases z1
        refine j_ldcS x (hK 1 (by decide)) dL_changes_432 ?_
        refine j_callVR2 kstr_pin (kst_of hS (i := 1) (by decide)) x dL_changes_434 (c_appSP (d := 0) (Y := Y) (n := 1) (xs := fun j => ((j_cs.map fun q => q.2.2).getD 1 []).getD j 0) hN2 (by unfold okx; decide +kernel) (by omega)) m_J4_append_15ec4 wmL_247 jc_1 rfl (show 0 < 2 by decide) rfl (fun v hv => by rw [List.mem_singleton.mp hv]; exact j_ok_raw) rfl (Nat.le_of_ble_eq_true rfl) (j_fit_rm (by omega) (by omega) (by omega)) rfl (fun E k z => by cases z.1) (fun v k z => ?_)
        obtain ⟨z1, N3, rfl, hN3⟩ := z
        cases z1
        refine j_iload_n x dL_changes_437 rfl ?_
        refine j_iconst (v := 3) x dL_changes_438 (by decide) ?_
        refine j_ishr x dL_changes_439 ?_
        refine j_bipush (v := 9) x dL_changes_440 (by decide) ?_
        refine j_callS x dL_changes_442 (c_some (d := 0) (by decide)) m_L_some wmL_165 rfl (Nat.le_of_ble_eq_true rfl) (j_fit_rm (by omega) (by omega) (by omega)) rfl (fun E k z => by cases z.1) (fun v k z => ?_)
        obtain ⟨z1, rfl⟩ := z
        cases z1
        obtain ⟨a1, ha1, z2⟩ := sm_in _ (n := 9) (by decide) (by decide)
        refine j_top z2 ?_
        clear z2
        have hdg4 := dgx_1 (v := a1) (by omega)
        refine j_callVR2 j_pin_T trivial x dL_changes_445 (Con.toP (c_appN (d := 0) (Y := Y) (v1 := a1) hN3 (by omega) (by omega))) m_J4_append_bf812 wmL_250 jc_1 rfl (show 0 < 2 by decide) rfl (fun v hv => by rw [List.mem_singleton.mp hv]; exact j_ok_int) rfl (Nat.le_of_ble_eq_true rfl) (j_fit_rm (by omega) (by omega) (by omega)) rfl (fun E k z => by cases z.1) (fun v k z => ?_)
        obtain ⟨z1, N4, rfl, hN4⟩ := z
        cases z1
        refine j_ldcS x (hK 2 (by decide)) dL_changes_448 ?_
        refine j_callVR2 kstr_pin (kst_of hS (i := 2) (by decide)) x dL_changes_450 (c_appSP (d := 0) (Y := Y) (n := 1) (xs := fun j => ((j_cs.map fun q => q.2.2).getD 2 []).getD j 0) hN4 (by unfold okx; decide +kernel) (by omega)) m_J4_append_15ec4 wmL_247 jc_1 rfl (show 0 < 2 by decide) rfl (fun v hv => by rw [List.mem_singleton.mp hv]; exact j_ok_raw) rfl (Nat.le_of_ble_eq_true rfl) (j_fit_rm (by omega) (by omega) (by omega)) rfl (fun E k z => by cases z.1) (fun v k z => ?_)
        obtain ⟨z1, N5, rfl, hN5⟩ := z
        cases z1
        refine j_iload_n x dL_changes_453 rfl ?_
        refine j_iconst (v := 5) x dL_changes_454 (by decide) ?_
        refine j_ishr x dL_changes_455 ?_
        refine j_bipush (v := 9) x dL_changes_456 (by decide) ?_
        refine j_callS x dL_changes_458 (c_some (d := 0) (by decide)) m_L_some wmL_165 rfl (Nat.le_of_ble_eq_true rfl) (j_fit_rm (by omega) (by omega) (by omega)) rfl (fun E k z => by cases z.1) (fun v k z => ?_)
        obtain ⟨z1, rfl⟩ := z
        cases z1
        obtain ⟨a2, ha2, z2⟩ := sm_in _ (n := 9) (by decide) (by decide)
        refine j_top z2 ?_
        clear z2
        have hdg6 := dgx_1 (v := a2) (by omega)
        refine j_callVR2 j_pin_T trivial x dL_changes_461 (Con.toP (c_appN (d := 0) (Y := Y) (v1 := a2) hN5 (by omega) (by omega))) m_J4_append_bf812 wmL_250 jc_1 rfl (show 0 < 2 by decide) rfl (fun v hv => by rw [List.mem_singleton.mp hv]; exact j_ok_int) rfl (Nat.le_of_ble_eq_true rfl) (j_fit_rm (by omega) (by omega) (by omega)) rfl (fun E k z => by cases z.1) (fun v k z => ?_)
        obtain ⟨z1, N6, rfl, hN6⟩ := z
        cases z1
        refine j_ldcWS x (hK 3 (by decide)) dL_changes_464 ?_
        refine j_callVR2 kstr_pin (kst_of hS (i := 3) (by decide)) x dL_changes_467 (c_appSP (d := 0) (Y := Y) (n := 2) (xs := fun j => ((j_cs.map fun q => q.2.2).getD 3 []).getD j 0) hN6 (by unfold okx; decide +kernel) (by omega)) m_J4_append_15ec4 wmL_247 jc_1 rfl (show 0 < 2 by decide) rfl (fun v hv => by rw [List.mem_singleton.mp hv]; exact j_ok_raw) rfl (Nat.le_of_ble_eq_true rfl) (j_fit_rm (by omega) (by omega) (by omega)) rfl (fun E k z => by cases z.1) (fun v k z => ?_)
        obtain ⟨z1, N7, rfl, hN7⟩ := z
        cases z1
        refine j_callVR2 j_pin_T trivial x dL_changes_470 (Con.toP (c_toStr (d := 0) (SBh_of (Y := Y) hN7 (by omega)))) m_J4_toString_0e30d wmL_259 jc_1 rfl (show 0 < 2 by decide) rfl (fun v hv => by cases hv) rfl (Nat.le_of_ble_eq_true rfl) (j_fit_rm (by omega) (by omega) (by omega)) rfl (fun E k z => by cases z.1) (fun v k z => ?_)
        obtain ⟨z1, k1, k2, k3, k4, k5, k6, k7⟩ := z
        cases z1
        refine j_goto (tgt := 539) x dL_changes_473 (by decide) ?_
        refine j_cat2 (Z := fun y A2 B2 => InvP b A2 B2 ∧ CmdZ B y B2) x dL_changes_539 k1 k2 k3 k4 k5 k6 k7 (fun a v xs => c_reads_z (d := 0) (by omega) I) m_L_reads wmL_269 hok I.hb (Nat.le_of_ble_eq_true rfl) (j_fit_rm (by omega) (by omega) (by omega)) (fun y g1 hz => ?_)
        obtain ⟨A2, B2, rfl, I2, hz⟩ := hz
        refine j_if_lt (tgt := 549) x dL_changes_542 (by decide) (fun hv => ?_) (fun hv => ?_)
        · refine j_iconst (v := 0) x dL_changes_549 (by decide) ?_
          refine j_forget hn0 (fun v hv => by rw [List.mem_singleton.mp hv]; exact j_ok_int) (fun v hv => hLok v hv) I2.ok ?_
          exact j_zreturn x hr dL_changes_550 (by decide) (by omega) (by omega) ⟨_, A2, B2, rfl, rfl, I2, Or.inl ⟨rfl, hz.elim (fun z => z.2) (fun z => absurd hv z.1)⟩⟩
        · refine j_iconst (v := 1) x dL_changes_545 (by decide) ?_
          refine j_goto (tgt := 550) x dL_changes_546 (by decide) ?_
          refine j_forget hn0 (fun v hv => by rw [List.mem_singleton.mp hv]; exact j_ok_int) (fun v hv => hLok v hv) I2.ok ?_
          exact j_zreturn x hr dL_changes_550 (by decide) (by omega) (by omega) ⟨_, A2, B2, rfl, rfl, I2, Or.inr ⟨rfl, hz.elim (fun z => absurd z.1 hv) (fun z => ⟨z.2.1, z.2.2.2.1, z.2.2.1, fun h => Gd_c h z.2.2.2.2⟩)⟩⟩
    · refine j_tableOut (tgt := 406) x dL_changes_75 (Or.inr (by decide)) (by decide) ?_
      refine j_aload_n x dL_changes_406 rfl ?_
      refine j_iload_n x dL_changes_407 rfl ?_
      refine j_bipush (v := 6) x dL_changes_408 (by decide) ?_
      refine j_ishr x dL_changes_410 ?_
      refine j_iconst (v := 1) x dL_changes_411 (by decide) ?_
      refine j_iand x dL_changes_412 ?_
      refine j_if_ne (tgt := 476) x dL_changes_413 (by decide) (fun hb => ?_) (fun hb => ?_)
      · refine j_newR x dL_changes_476 wcL_242 (by simp only [j_rm]; omega) (by simp only [j_rm]; omega) ?_
        refine j_dup x dL_changes_479 rfl ?_
        refine j_callIR2 x dL_changes_480 (c_sbNew (d := 0) (Y := Y)) m_J4_init_da8c8 wmL_244 (by decide) (Nat.le_of_ble_eq_true rfl) (j_fit_rm (by omega) (by omega) (by omega)) (fun E k z => by cases z.1) (fun v k z => ?_)
        obtain ⟨z1, rfl⟩ := z
        cases z1
        have hN0 := LB_0
        refine j_ldcWS x (hK 4 (by decide)) dL_changes_483 ?_
        refine j_callVR2 kstr_pin (kst_of hS (i := 4) (by decide)) x dL_changes_486 (c_appSP (d := 0) (Y := Y) (n := 1) (xs := fun j => ((j_cs.map fun q => q.2.2).getD 4 []).getD j 0) hN0 (by unfold okx; decide +kernel) (by omega)) m_J4_append_15ec4 wmL_247 jc_1 rfl (show 0 < 2 by decide) rfl (fun v hv => by rw [List.mem_singleton.mp hv]; exact j_ok_raw) rfl (Nat.le_of_ble_eq_true rfl) (j_fit_rm (by omega) (by omega) (by omega)) rfl (fun E k z => by cases z.1) (fun v k z => ?_)
        obtain ⟨z1, N1, rfl, hN1⟩ := z
        cases z1
        refine j_iload_n x dL_changes_489 rfl ?_
        refine j_iconst (v := 3) x dL_changes_490 (by decide) ?_
        refine j_ishr x dL_changes_491 ?_
        refine j_iconst (v := 5) x dL_changes_492 (by decide) ?_
        refine j_callS x dL_changes_493 (c_some (d := 0) (by decide)) m_L_some wmL_165 rfl (Nat.le_of_ble_eq_true rfl) (j_fit_rm (by omega) (by omega) (by omega)) rfl (fun E k z => by cases z.1) (fun v k z => ?_)
        obtain ⟨z1, rfl⟩ := z
        cases z1
        obtain ⟨a1, ha1, z2⟩ := sm_in _ (n := 5) (by decide) (by decide)
        refine j_top z2 ?_
        clear z2
        have hdg2 := dgx_1 (v := a1) (by omega)
        refine j_callVR2 j_pin_T trivial x dL_changes_496 (Con.toP (c_appN (d := 0) (Y := Y) (v1 := a1) hN1 (by omega) (by omega))) m_J4_append_bf812 wmL_250 jc_1 rfl (show 0 < 2 by decide) rfl (fun v hv => by rw [List.mem_singleton.mp hv]; exact j_ok_int) rfl (Nat.le_of_ble_eq_true rfl) (j_fit_rm (by omega) (by omega) (by omega)) rfl (fun E k z => by cases z.1) (fun v k z => ?_)
        obtain ⟨z1, N2, rfl, hN2⟩ := z
        cases z1
        refine j_iload_n x dL_changes_499 rfl ?_
        refine j_iconst (v := 5) x dL_changes_500 (by decide) ?_
        refine j_ishr x dL_changes_501 ?_
        refine j_iconst (v := 5) x dL_changes_502 (by decide) ?_
        refine j_callS x dL_changes_503 (c_some (d := 0) (by decide)) m_L_some wmL_165 rfl (Nat.le_of_ble_eq_true rfl) (j_fit_rm (by omega) (by omega) (by omega)) rfl (fun E k z => by cases z.1) (fun v k z => ?_)
        obtain ⟨z1, rfl⟩ := z
        cases z1
        obtain ⟨a2, ha2, z2⟩ := sm_in _ (n := 5) (by decide) (by decide)
        refine j_top z2 ?_
        clear z2
        have hdg3 := dgx_1 (v := a2) (by omega)
        refine j_callVR2 j_pin_T trivial x dL_changes_506 (Con.toP (c_appN (d := 0) (Y := Y) (v1 := a2) hN2 (by omega) (by omega))) m_J4_append_bf812 wmL_250 jc_1 rfl (show 0 < 2 by decide) rfl (fun v hv => by rw [List.mem_singleton.mp hv]; exact j_ok_int) rfl (Nat.le_of_ble_eq_true rfl) (j_fit_rm (by omega) (by omega) (by omega)) rfl (fun E k z => by cases z.1) (fun v k z => ?_)
        obtain ⟨z1, N3, rfl, hN3⟩ := z
        cases z1
        refine j_ldcWS x (hK 5 (by decide)) dL_changes_509 ?_
        refine j_callVR2 kstr_pin (kst_of hS (i := 5) (by decide)) x dL_changes_512 (c_appSP (d := 0) (Y := Y) (n := 2) (xs := fun j => ((j_cs.map fun q => q.2.2).getD 5 []).getD j 0) hN3 (by unfold okx; decide +kernel) (by omega)) m_J4_append_15ec4 wmL_247 jc_1 rfl (show 0 < 2 by decide) rfl (fun v hv => by rw [List.mem_singleton.mp hv]; exact j_ok_raw) rfl (Nat.le_of_ble_eq_true rfl) (j_fit_rm (by omega) (by omega) (by omega)) rfl (fun E k z => by cases z.1) (fun v k z => ?_)
        obtain ⟨z1, N4, rfl, hN4⟩ := z
        cases z1
        refine j_iload_n x dL_changes_515 rfl ?_
        have hdg5 := dgx_2 (v := q) (by omega)
        refine j_callVR2 j_pin_T trivial x dL_changes_516 (Con.toP (c_appN (d := 0) (Y := Y) (v1 := q) hN4 (by omega) (by omega))) m_J4_append_bf812 wmL_250 jc_1 rfl (show 0 < 2 by decide) rfl (fun v hv => by rw [List.mem_singleton.mp hv]; exact j_ok_int) rfl (Nat.le_of_ble_eq_true rfl) (j_fit_rm (by omega) (by omega) (by omega)) rfl (fun E k z => by cases z.1) (fun v k z => ?_)
        obtain ⟨z1, N5, rfl, hN5⟩ := z
        cases z1
        refine j_ldcWS x (hK 6 (by decide)) dL_changes_519 ?_
        refine j_callVR2 kstr_pin (kst_of hS (i := 6) (by decide)) x dL_changes_522 (c_appSP (d := 0) (Y := Y) (n := 1) (xs := fun j => ((j_cs.map fun q => q.2.2).getD 6 []).getD j 0) hN5 (by unfold okx; decide +kernel) (by omega)) m_J4_append_15ec4 wmL_247 jc_1 rfl (show 0 < 2 by decide) rfl (fun v hv => by rw [List.mem_singleton.mp hv]; exact j_ok_raw) rfl (Nat.le_of_ble_eq_true rfl) (j_fit_rm (by omega) (by omega) (by omega)) rfl (fun E k z => by cases z.1) (fun v k z => ?_)
        obtain ⟨z1, N6, rfl, hN6⟩ := z
        cases z1
        refine j_iload_n x dL_changes_525 rfl ?_
        refine j_bipush (v := 7) x dL_changes_526 (by decide) ?_
        refine j_ishr x dL_changes_528 ?_
        refine j_iconst (v := 4) x dL_changes_529 (by decide) ?_
        refine j_callS x dL_changes_530 (c_some (d := 0) (by decide)) m_L_some wmL_165 rfl (Nat.le_of_ble_eq_true rfl) (j_fit_rm (by omega) (by omega) (by omega)) rfl (fun E k z => by cases z.1) (fun v k z => ?_)
        obtain ⟨z1, rfl⟩ := z
        cases z1
        obtain ⟨a3, ha3, z2⟩ := sm_in _ (n := 4) (by decide) (by decide)
        refine j_top z2 ?_
        clear z2
        have hdg7 := dgx_1 (v := a3) (by omega)
        refine j_callVR2 j_pin_T trivial x dL_changes_533 (Con.toP (c_appN (d := 0) (Y := Y) (v1 := a3) hN6 (by omega) (by omega))) m_J4_append_bf812 wmL_250 jc_1 rfl (show 0 < 2 by decide) rfl (fun v hv => by rw [List.mem_singleton.mp hv]; exact j_ok_int) rfl (Nat.le_of_ble_eq_true rfl) (j_fit_rm (by omega) (by omega) (by omega)) rfl (fun E k z => by cases z.1) (fun v k z => ?_)
        obtain ⟨z1, N7, rfl, hN7⟩ := z
        cases z1
        refine j_callVR2 j_pin_T trivial x dL_changes_536 (Con.toP (c_toStr (d := 0) (SBh_of (Y := Y) hN7 (by omega)))) m_J4_toString_0e30d wmL_259 jc_1 rfl (show 0 < 2 by decide) rfl (fun v hv => by cases hv) rfl (Nat.le_of_ble_eq_true rfl) (j_fit_rm (by omega) (by omega) (by omega)) rfl (fun E k z => by cases z.1) (fun v k z => ?_)
        obtain ⟨z1, k1, k2, k3, k4, k5, k6, k7⟩ := z
        cases z1
        refine j_cat2 (Z := fun y A2 B2 => InvP b A2 B2 ∧ CmdZ B y B2) x dL_changes_539 k1 k2 k3 k4 k5 k6 k7 (fun a v xs => c_reads_z (d := 0) (by omega) I) m_L_reads wmL_269 hok I.hb (Nat.le_of_ble_eq_true rfl) (j_fit_rm (by omega) (by omega) (by omega)) (fun y g1 hz => ?_)
        obtain ⟨A2, B2, rfl, I2, hz⟩ := hz
        refine j_if_lt (tgt := 549) x dL_changes_542 (by decide) (fun hv => ?_) (fun hv => ?_)
        · refine j_iconst (v := 0) x dL_changes_549 (by decide) ?_
          refine j_forget hn0 (fun v hv => by rw [List.mem_singleton.mp hv]; exact j_ok_int) (fun v hv => hLok v hv) I2.ok ?_
          exact j_zreturn x hr dL_changes_550 (by decide) (by omega) (by omega) ⟨_, A2, B2, rfl, rfl, I2, Or.inl ⟨rfl, hz.elim (fun z => z.2) (fun z => absurd hv z.1)⟩⟩
        · refine j_iconst (v := 1) x dL_changes_545 (by decide) ?_
          refine j_goto (tgt := 550) x dL_changes_546 (by decide) ?_
          refine j_forget hn0 (fun v hv => by rw [List.mem_singleton.mp hv]; exact j_ok_int) (fun v hv => hLok v hv) I2.ok ?_
          exact j_zreturn x hr dL_changes_550 (by decide) (by omega) (by omega) ⟨_, A2, B2, rfl, rfl, I2, Or.inr ⟨rfl, hz.elim (fun z => absurd z.1 hv) (fun z => ⟨z.2.1, z.2.2.2.1, z.2.2.1, fun h => Gd_c h z.2.2.2.2⟩)⟩⟩
      · refine j_newR x dL_changes_416 wcL_242 (by simp only [j_rm]; omega) (by simp only [j_rm]; omega) ?_
        refine j_dup x dL_changes_419 rfl ?_
        refine j_callIR2 x dL_changes_420 (c_sbNew (d := 0) (Y := Y)) m_J4_init_da8c8 wmL_244 (by decide) (Nat.le_of_ble_eq_true rfl) (j_fit_rm (by omega) (by omega) (by omega)) (fun E k z => by cases z.1) (fun v k z => ?_)
        obtain ⟨z1, rfl⟩ := z
        cases z1
        have hN0 := LB_0
        refine j_ldcS x (hK 0 (by decide)) dL_changes_423 ?_
        refine j_callVR2 kstr_pin (kst_of hS (i := 0) (by decide)) x dL_changes_425 (c_appSP (d := 0) (Y := Y) (n := 1) (xs := fun j => ((j_cs.map fun q => q.2.2).getD 0 []).getD j 0) hN0 (by unfold okx; decide +kernel) (by omega)) m_J4_append_15ec4 wmL_247 jc_1 rfl (show 0 < 2 by decide) rfl (fun v hv => by rw [List.mem_singleton.mp hv]; exact j_ok_raw) rfl (Nat.le_of_ble_eq_true rfl) (j_fit_rm (by omega) (by omega) (by omega)) rfl (fun E k z => by cases z.1) (fun v k z => ?_)
        obtain ⟨z1, N1, rfl, hN1⟩ := z
        cases z1
        refine j_iload_n x dL_changes_428 rfl ?_
        have hdg2 := dgx_2 (v := q) (by omega)
        refine j_callVR2 j_pin_T trivial x dL_changes_429 (Con.toP (c_appN (d := 0) (Y := Y) (v1 := q) hN1 (by omega) (by omega))) m_J4_append_bf812 wmL_250 jc_1 rfl (show 0 < 2 by decide) rfl (fun v hv => by rw [List.mem_singleton.mp hv]; exact j_ok_int) rfl (Nat.le_of_ble_eq_true rfl) (j_fit_rm (by omega) (by omega) (by omega)) rfl (fun E k z => by cases z.1) (fun v k z => ?_)
        obtain ⟨z1, N2, rfl, hN2⟩ := z
        cases z1
        refine j_ldcS x (hK 1 (by decide)) dL_changes_432 ?_
        refine j_callVR2 kstr_pin (kst_of hS (i := 1) (by decide)) x dL_changes_434 (c_appSP (d := 0) (Y := Y) (n := 1) (xs := fun j => ((j_cs.map fun q => q.2.2).getD 1 []).getD j 0) hN2 (by unfold okx; decide +kernel) (by omega)) m_J4_append_15ec4 wmL_247 jc_1 rfl (show 0 < 2 by decide) rfl (fun v hv => by rw [List.mem_singleton.mp hv]; exact j_ok_raw) rfl (Nat.le_of_ble_eq_true rfl) (j_fit_rm (by omega) (by omega) (by omega)) rfl (fun E k z => by cases z.1) (fun v k z => ?_)
        obtain ⟨z1, N3, rfl, hN3⟩ := z
        cases z1
        refine j_iload_n x dL_changes_437 rfl ?_
        refine j_iconst (v := 3) x dL_changes_438 (by decide) ?_
        refine j_ishr x dL_changes_439 ?_
        refine j_bipush (v := 9) x dL_changes_440 (by decide) ?_
        refine j_callS x dL_changes_442 (c_some (d := 0) (by decide)) m_L_some wmL_165 rfl (Nat.le_of_ble_eq_true rfl) (j_fit_rm (by omega) (by omega) (by omega)) rfl (fun E k z => by cases z.1) (fun v k z => ?_)
        obtain ⟨z1, rfl⟩ := z
        cases z1
        obtain ⟨a1, ha1, z2⟩ := sm_in _ (n := 9) (by decide) (by decide)
        refine j_top z2 ?_
        clear z2
        have hdg4 := dgx_1 (v := a1) (by omega)
        refine j_callVR2 j_pin_T trivial x dL_changes_445 (Con.toP (c_appN (d := 0) (Y := Y) (v1 := a1) hN3 (by omega) (by omega))) m_J4_append_bf812 wmL_250 jc_1 rfl (show 0 < 2 by decide) rfl (fun v hv => by rw [List.mem_singleton.mp hv]; exact j_ok_int) rfl (Nat.le_of_ble_eq_true rfl) (j_fit_rm (by omega) (by omega) (by omega)) rfl (fun E k z => by cases z.1) (fun v k z => ?_)
        obtain ⟨z1, N4, rfl, hN4⟩ := z
        cases z1
        refine j_ldcS x (hK 2 (by decide)) dL_changes_448 ?_
        refine j_callVR2 kstr_pin (kst_of hS (i := 2) (by decide)) x dL_changes_450 (c_appSP (d := 0) (Y := Y) (n := 1) (xs := fun j => ((j_cs.map fun q => q.2.2).getD 2 []).getD j 0) hN4 (by unfold okx; decide +kernel) (by omega)) m_J4_append_15ec4 wmL_247 jc_1 rfl (show 0 < 2 by decide) rfl (fun v hv => by rw [List.mem_singleton.mp hv]; exact j_ok_raw) rfl (Nat.le_of_ble_eq_true rfl) (j_fit_rm (by omega) (by omega) (by omega)) rfl (fun E k z => by cases z.1) (fun v k z => ?_)
        obtain ⟨z1, N5, rfl, hN5⟩ := z
        cases z1
        refine j_iload_n x dL_changes_453 rfl ?_
        refine j_iconst (v := 5) x dL_changes_454 (by decide) ?_
        refine j_ishr x dL_changes_455 ?_
        refine j_bipush (v := 9) x dL_changes_456 (by decide) ?_
        refine j_callS x dL_changes_458 (c_some (d := 0) (by decide)) m_L_some wmL_165 rfl (Nat.le_of_ble_eq_true rfl) (j_fit_rm (by omega) (by omega) (by omega)) rfl (fun E k z => by cases z.1) (fun v k z => ?_)
        obtain ⟨z1, rfl⟩ := z
        cases z1
        obtain ⟨a2, ha2, z2⟩ := sm_in _ (n := 9) (by decide) (by decide)
        refine j_top z2 ?_
        clear z2
        have hdg6 := dgx_1 (v := a2) (by omega)
        refine j_callVR2 j_pin_T trivial x dL_changes_461 (Con.toP (c_appN (d := 0) (Y := Y) (v1 := a2) hN5 (by omega) (by omega))) m_J4_append_bf812 wmL_250 jc_1 rfl (show 0 < 2 by decide) rfl (fun v hv => by rw [List.mem_singleton.mp hv]; exact j_ok_int) rfl (Nat.le_of_ble_eq_true rfl) (j_fit_rm (by omega) (by omega) (by omega)) rfl (fun E k z => by cases z.1) (fun v k z => ?_)
        obtain ⟨z1, N6, rfl, hN6⟩ := z
        cases z1
        refine j_ldcWS x (hK 3 (by decide)) dL_changes_464 ?_
        refine j_callVR2 kstr_pin (kst_of hS (i := 3) (by decide)) x dL_changes_467 (c_appSP (d := 0) (Y := Y) (n := 2) (xs := fun j => ((j_cs.map fun q => q.2.2).getD 3 []).getD j 0) hN6 (by unfold okx; decide +kernel) (by omega)) m_J4_append_15ec4 wmL_247 jc_1 rfl (show 0 < 2 by decide) rfl (fun v hv => by rw [List.mem_singleton.mp hv]; exact j_ok_raw) rfl (Nat.le_of_ble_eq_true rfl) (j_fit_rm (by omega) (by omega) (by omega)) rfl (fun E k z => by cases z.1) (fun v k z => ?_)
        obtain ⟨z1, N7, rfl, hN7⟩ := z
        cases z1
        refine j_callVR2 j_pin_T trivial x dL_changes_470 (Con.toP (c_toStr (d := 0) (SBh_of (Y := Y) hN7 (by omega)))) m_J4_toString_0e30d wmL_259 jc_1 rfl (show 0 < 2 by decide) rfl (fun v hv => by cases hv) rfl (Nat.le_of_ble_eq_true rfl) (j_fit_rm (by omega) (by omega) (by omega)) rfl (fun E k z => by cases z.1) (fun v k z => ?_)
        obtain ⟨z1, k1, k2, k3, k4, k5, k6, k7⟩ := z
        cases z1
        refine j_goto (tgt := 539) x dL_changes_473 (by decide) ?_
        refine j_cat2 (Z := fun y A2 B2 => InvP b A2 B2 ∧ CmdZ B y B2) x dL_changes_539 k1 k2 k3 k4 k5 k6 k7 (fun a v xs => c_reads_z (d := 0) (by omega) I) m_L_reads wmL_269 hok I.hb (Nat.le_of_ble_eq_true rfl) (j_fit_rm (by omega) (by omega) (by omega)) (fun y g1 hz => ?_)
        obtain ⟨A2, B2, rfl, I2, hz⟩ := hz
        refine j_if_lt (tgt := 549) x dL_changes_542 (by decide) (fun hv => ?_) (fun hv => ?_)
        · refine j_iconst (v := 0) x dL_changes_549 (by decide) ?_
          refine j_forget hn0 (fun v hv => by rw [List.mem_singleton.mp hv]; exact j_ok_int) (fun v hv => hLok v hv) I2.ok ?_
          exact j_zreturn x hr dL_changes_550 (by decide) (by omega) (by omega) ⟨_, A2, B2, rfl, rfl, I2, Or.inl ⟨rfl, hz.elim (fun z => z.2) (fun z => absurd hv z.1)⟩⟩
        · refine j_iconst (v := 1) x dL_changes_545 (by decide) ?_
          refine j_goto (tgt := 550) x dL_changes_546 (by decide) ?_
          refine j_forget hn0 (fun v hv => by rw [List.mem_singleton.mp hv]; exact j_ok_int) (fun v hv => hLok v hv) I2.ok ?_
          exact j_zreturn x hr dL_changes_550 (by decide) (by omega) (by omega) ⟨_, A2, B2, rfl, rfl, I2, Or.inr ⟨rfl, hz.elim (fun z => absurd z.1 hv) (fun z => ⟨z.2.1, z.2.2.2.1, z.2.2.1, fun h => Gd_c h z.2.2.2.2⟩)⟩⟩
  · refine j_aload_n x dL_changes_0 rfl ?_
    refine j_iconst (v := 4) x dL_changes_1 (by decide) ?_
    refine q_call x I (Q_n4 (Y := Y) I D) dL_changes_2 m_L_account (by decide) wmL_172 rfl (Nat.le_of_ble_eq_true rfl) (fun mc ms z1 z2 => j_fit_rm (by omega) (by omega) (by omega)) rfl (fun A I => ?_)
    refine j_istore_n x dL_changes_5 (by decide) rfl ?_
    refine j_iload_n x dL_changes_6 rfl ?_
    refine j_iconst (v := 4) x dL_changes_7 (by decide) ?_
    refine j_ishr x dL_changes_8 ?_
    refine j_iload_n x dL_changes_9 rfl ?_
    refine j_iconst (v := 1) x dL_changes_10 (by decide) ?_
    refine j_iadd x dL_changes_11 ?_
    refine j_top (nI_1 (nn t true)) ?_
    refine j_callS x dL_changes_12 (c_some (d := 0) (nI_ne0 (by omega) (by omega))) m_L_some wmL_165 rfl (Nat.le_of_ble_eq_true rfl) (j_fit_rm (by omega) (by omega) (by omega)) rfl (fun E k z => by cases z.1) (fun v k z => ?_)
    obtain ⟨z1, rfl⟩ := z
    cases z1
    obtain ⟨q0, hq0, z2⟩ := sm_in _ (n := (nn t true + 1)) (by omega) (by omega)
    refine j_top z2 ?_
    clear z2
    refine j_istore_n x dL_changes_15 (by decide) rfl ?_
    refine j_iconst (v := 0) x dL_changes_16 (by decide) ?_
    refine j_istore x dL_changes_17 (by decide) rfl ?_
    refine c_loop ((nn t true)) (fun j => [some (.ref 0), some (.int u), some (.int (nI (nn t true))), some (.int (nI q0)), some (.int (nI j))]) (fun j B9 => B9 = B) (0 + 1) (0 + 6) 2 12 I (rfl) (wk_c rfl (wk_c rfl (wk_c rfl (wk_c rfl (wk_c rfl wk_0))))) (by omega) (by omega) (fun j0 hj0 A B I hz kk0 => ?_) (fun A B I hz => ?_)
    · have I9 := I
      obtain rfl := hz
      have I := I9
      refine j_iload x dL_changes_19 rfl ?_
      refine j_iload_n x dL_changes_21 rfl ?_
      refine j_icmp_ge (tgt := 69) x dL_changes_22 (by decide) (fun hc => absurd hc (nI_ge hj0 (by omega))) (fun _ => ?_)
      refine j_iload_n x dL_changes_25 rfl ?_
      refine j_bipush (v := 9) x dL_changes_26 (by decide) ?_
      refine j_ishr x dL_changes_28 ?_
      refine j_iconst (v := 1) x dL_changes_29 (by decide) ?_
      refine j_iand x dL_changes_30 ?_
      refine j_if_ne (tgt := 69) x dL_changes_31 (by decide) (fun hb1 => ?_) (fun hb1 => ?_)
      · exact j_locW (wk_c rfl (wk_c rfl (wk_c rfl (wk_c rfl (wk_n wk_0))))) (K q0 _ _ _ ⟨by omega, ⟨_, rfl, I⟩, by omega, by omega⟩)
      · refine j_aload_n x dL_changes_34 rfl ?_
        refine j_iload_n x dL_changes_35 rfl ?_
        refine j_iload x dL_changes_36 rfl ?_
        refine j_iadd x dL_changes_38 ?_; rw [nI_add]
        refine j_iload_n x dL_changes_39 rfl ?_
        refine j_irem x dL_changes_40 (nI_ne0 (by omega) (by omega)) ?_; rw [rem_nI (by omega) (by omega)]
        refine j_iconst (v := 0) x dL_changes_41 (by decide) ?_
        refine q_call x I (Q_me (k := 0) (m := (q0 + j0) % nn t true) (Y := Y) I.hb (I.L D) (I.F D) (Nat.mod_lt _ (by omega)) (by decide)) dL_changes_42 m_L_meetingOf (by decide) wmL_174 rfl (Nat.le_of_ble_eq_true rfl) (fun mc ms z1 z2 => j_fit_rm (by omega) (by omega) (by omega)) rfl (fun A I => ?_)
        refine j_aload_n x dL_changes_45 rfl ?_
        refine j_iconst (v := 3) x dL_changes_46 (by decide) ?_
        refine q_call x I (Q_ac (k := 3) (Y := Y) I.hb (I.L D) (I.F D) (by decide)) dL_changes_47 m_L_account (by decide) wmL_172 rfl (Nat.le_of_ble_eq_true rfl) (fun mc ms z1 z2 => j_fit_rm (by omega) (by omega) (by omega)) rfl (fun A I => ?_)
        refine j_icmp_ne (tgt := 63) x dL_changes_50 (by decide) (fun hb2 => ?_) (fun hb2 => ?_)
        · refine j_iinc x dL_changes_63 rfl (by decide) rfl ?_
          refine j_goto (tgt := 19) x dL_changes_66 (by decide) ?_
          exact kk0 _ _ _ _ _ I rfl (wk_c rfl (wk_c rfl (wk_c rfl (wk_c rfl (wk_c (congrArg (fun z => some (Value.int z)) (nI_1 _)) wk_0))))) (by omega) (by omega)
        · refine j_iload_n x dL_changes_53 rfl ?_
          refine j_iload x dL_changes_54 rfl ?_
          refine j_iadd x dL_changes_56 ?_; rw [nI_add]
          refine j_iload_n x dL_changes_57 rfl ?_
          refine j_irem x dL_changes_58 (nI_ne0 (by omega) (by omega)) ?_; rw [rem_nI (by omega) (by omega)]
          refine j_istore_n x dL_changes_59 (by decide) rfl ?_
          refine j_goto (tgt := 69) x dL_changes_60 (by decide) ?_
          have hlt := Nat.mod_lt (q0 + j0) nn0
          exact j_locW (wk_c rfl (wk_c rfl (wk_c rfl (wk_c rfl (wk_n wk_0))))) (K ((q0 + j0) % nn t true) _ _ _ ⟨by omega, ⟨_, rfl, I⟩, by omega, by omega⟩)
    · have I9 := I
      obtain rfl := hz
      have I := I9
      refine j_iload x dL_changes_19 rfl ?_
      refine j_iload_n x dL_changes_21 rfl ?_
      refine j_icmp_ge (tgt := 69) x dL_changes_22 (by decide) (fun _ => ?_) (fun hc => absurd ((nI_le (Nat.le_refl _) (by omega))) hc)
      exact j_locW (wk_c rfl (wk_c rfl (wk_c rfl (wk_c rfl (wk_n wk_0))))) (K q0 _ _ _ ⟨by omega, ⟨_, rfl, I⟩, by omega, by omega⟩)
