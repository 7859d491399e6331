theorem j_fit_room {d1 mc1 ms1 cells slots : Nat} (h : d1 ≤ 100) (h1 : cells + mc1 ≤ 600390) (h2 : slots + ms1 ≤ 7289640) : j_fit room_1 d1 mc1 ms1 cells slots :=
  ⟨fun maxL hm => by simp only [j_rm, room_1]; omega, h1, h2⟩
section JLW
variable {p : Program} {l : Launch} {e : Env} {s : State} {m : MethodId} {below : List Frame} {meth : Method} {c : Code} {D : va_G} {tyc : Nat → ClassId} {sb : Nat} {xs : Nat → Int32} {ad0 : Nat → Nat}
/-- the law's judgement -/
abbrev LJ (p : Program) (l : Launch) (e : Env) (s : State) (m : MethodId) (below : List Frame) (meth : Method) (c : Code) (D : va_G) (tyc : Nat → ClassId) (sb : Nat) (ad0 : Nat → Nat) (pc : Nat) (L : List (Option Value)) (st : List Value) (h : MH) (cells slots : Nat) : Prop :=
  JJ p l e room_1 s m #[Value.ref sb] below meth c D tyc (fun q => s.heap.size ≤ q) 0 ad0 11 (lw_Z below #[Value.ref sb] s) pc L st h cells slots
/-- what is known in the law -/
def LX (p : Program) (l : Launch) (s : State) (m : MethodId) (meth : Method) (c : Code) (D : va_G) (tyc : Nat → ClassId) (sb N : Nat) (xs : Nat → Int32) : Prop :=
  j_X p l s m #[Value.ref sb] meth c D tyc (fun q => s.heap.size ≤ q) "LeagueTablesLaw" cL_law 11 ∧ meth.sig.returnType = ret ∧ va_X sb N xs s s.heap ∧ sb < s.heap.size ∧ ¬ (fun q => s.heap.size ≤ q) sb
theorem law_ret {N : Nat} (X : LX p l s m meth c D tyc sb N xs) {L : List (Option Value)} {h : MH} {cells slots : Nat} (hc : cells ≤ 600390) (hs : slots ≤ 7289640) : LJ p l e s m below meth c D tyc sb ad0 895 L [] h cells slots := by
  obtain ⟨x, hr, -⟩ := X
  refine j_iconst (v := 1) x dL_law_895 (by decide) ?_
  refine j_goto (tgt := 900) x dL_law_896 (by decide) ?_
  intro ad ls H locs I
  refine W.base ?_
  refine W.widen hc hs ?_
  refine va_forget (fun q hq => I.2.2.2.1.2.2 q hq) ?_
  exact lw_ret (Drawn.sameBut.refl s.drawn lw_cs) x.1 x.2.1 hr x.2.2.2.2.2.2.2.1 dL_law_900
/-- the rows of the first league -/
def R0 : Nat → Int32 := MB0 95
def R1 : Nat → Int32 := up R0 5 0
def SavR (B : MM) : Prop := B 94 5 = 1 ∧ ∀ c, c < 466 → B 98 c = R0 c
theorem SavR_s {B B1 : MM} (h : SavR B) (hs : Same B B1) : SavR B1 := ⟨hs.2.2.2.2.trans h.1, fun c hc => (hs.2.2.1 c).trans (h.2 c hc)⟩
theorem SavR_p {B B1 : MM} (h : SavR B) (hp : PushB B B1) : SavR B1 := by
  obtain ⟨k, -, -, -, -, h5, h6⟩ := hp
  exact ⟨h6.trans h.1, fun c hc => (h5 c).trans (h.2 c hc)⟩
theorem cnt_p {B B1 : MM} {k : Nat} (hk : k ≤ 8) (h : B 94 3 = nI k) (hp : PushB B B1) : B1 94 3 = nI (min (k + 1) 8) := by
  obtain ⟨k2, h1, h2, h3, -⟩ := hp
  obtain rfl : k2 = k := (nI_eq (by omega) (by omega)).mp (h2.symm.trans h)
  exact h3
theorem At_s2 {B B1 : MM} {R : Nat → Int32} (h : At B R) (hs : SavB B B1) : At B1 R := fun c hc => (hs.1 c hc).trans (h c hc)
theorem jxr_m1 {B : MM} : jxr B (-1) = B := if_pos (by decide)
theorem jxR_0 {B : MM} : jxR B (-1) (-1) (-1) = jm B 95 5 0 := by
  unfold jxR
  rw [jxr_m1, jxr_m1, jxr_m1]
/-- made; nothing to undo, to restore; saved; its rules taken away -/
theorem law_e1 {N : Nat} (X : LX p l s m meth c D tyc sb N xs) (KK : ∀ A B, InvP b0 A B → At B R1 → SavR B → B 94 9 = 0 → B 94 3 = nI 1 → LJ p l e s m below meth c D tyc sb ad0 56 [some (.retAddr sb), some (.ref 0), none, none, none, none, none, none, none, none, none] [] (HH b0 Y0 A) 100 2700) : LJ p l e s m below meth c D tyc sb ad0 0 [some (.retAddr sb), none, none, none, none, none, none, none, none, none, none] [] (HS 0 fun _ _ => .null) 0 0 := by
  obtain ⟨x, hr, hX, hb1, hb2⟩ := id X
  refine j3_new x dL_law_0 jc_9 wcL_8 wt_LeagueTables wi_LeagueTables rfl rfl (by decide) (by decide) ?_
  refine j_dup x dL_law_3 rfl ?_
  refine j3_init x dL_law_4 m_X5_init (k_LT (d := 0)) wmL_288 (by decide) rfl (Nat.le_of_ble_eq_true rfl) (j_fit_room (by decide) (by decide) (by decide)) rfl ?_
  refine j_astore_n x dL_law_7 (by decide) rfl ?_
  refine j3_eq (b := b0) (Y := Y0) (M := M0) rfl rfl (by decide) F0_ok ?_
  have I := InvP_0
  refine j_widen (c2 := 94) (s2 := 2613) (by decide) (by decide) ?_
  refine j_aload_n x dL_law_8 rfl ?_
  refine c_call x (PU_no (Y := Y0) I rfl) dL_law_9 m_L_undo (by decide) wmL_289 rfl (Nat.le_of_ble_eq_true rfl) (fun mc ms z1 z2 => j_fit_room (by decide) (by omega) (by omega)) rfl (fun v A B1 I1 hc1 => ?_)
  obtain ⟨rfl, rfl⟩ := hc1
  refine j_sipush (v := (-1001)) x dL_law_12 (by decide) ?_
  refine j_icmp_ne (tgt := 54) x dL_law_15 (by decide) (fun hc => absurd hc (fun z => z rfl)) (fun hc => ?_)
  refine j_aload_n x dL_law_18 rfl ?_
  refine c_call x (PW_no (Y := Y0) I1 rfl) dL_law_19 m_L_restore (by decide) wmL_291 rfl (Nat.le_of_ble_eq_true rfl) (fun mc ms z1 z2 => j_fit_room (by decide) (by omega) (by omega)) rfl (fun v A B2 I2 hc2 => ?_)
  obtain ⟨rfl, rfl⟩ := hc2
  refine j_sipush (v := (-1001)) x dL_law_22 (by decide) ?_
  refine j_icmp_ne (tgt := 54) x dL_law_25 (by decide) (fun hc => absurd hc (fun z => z rfl)) (fun hc => ?_)
  refine j_aload_n x dL_law_28 rfl ?_
  refine j_callV x dL_law_29 (c_saveP (d := 0) (Y := Y0) I2) m_X5_save wmL_293 jc_9 rfl (show 0 < 94 by decide) rfl rfl (Nat.le_of_ble_eq_true rfl) (j_fit_room (by decide) (by omega) (by omega)) rfl (fun E k z => by obtain ⟨_, _, q, _⟩ := z; cases q) (fun v k z => ?_)
  obtain ⟨A, B3, z1, rfl, I3, hs3⟩ := z
  cases z1
  refine j_if_ne (tgt := 54) x dL_law_32 (by decide) (fun hc => absurd hc (fun z => z rfl)) (fun hc => ?_)
  refine j_aload_n x dL_law_35 rfl ?_
  refine j_iconst (v := (-1)) x dL_law_36 (by decide) ?_
  refine j_iconst (v := (-1)) x dL_law_37 (by decide) ?_
  refine j_iconst (v := (-1)) x dL_law_38 (by decide) ?_
  refine c_call x (PO_rules (Y := Y0) (u := -1) (v := -1) (w := -1) I3 (by decide)) dL_law_39 m_L_rules (by decide) wmL_238 rfl (Nat.le_of_ble_eq_true rfl) (fun mc ms z1 z2 => j_fit_room (by decide) (by omega) (by omega)) rfl (fun v A B4 I4 hc4 => ?_)
  obtain ⟨ey, -, hO⟩ := hc4
  rw [jxR_0] at ey hO
  rw [jm_s] at ey
  refine j_top ey ?_
  have hA1 : At B4 R1 := fun c hc => by
    rw [hO.2.1, jm_n (by omega)]
    exact At_jm (At_s2 (fun _ _ => rfl) hs3) c hc
  refine j_if_ne (tgt := 54) x dL_law_42 (by decide) (fun hc => absurd hc (fun z => z rfl)) (fun hc => ?_)
  refine j_aload_n x dL_law_45 rfl ?_
  refine j_bipush (v := 9) x dL_law_46 (by decide) ?_
  obtain ⟨t9, dr9, hL9, hF9⟩ := I4.now
  refine q_call x I4 (Q_account_9 (Y := Y0) I4.hb hL9 hF9) dL_law_48 m_L_account (by decide) wmL_172 rfl (Nat.le_of_ble_eq_true rfl) (fun mc ms z1 z2 => j_fit_room (by decide) (by omega) (by omega)) rfl (fun A I4 => ?_)
  refine j_top (hA1 5 (by decide)) ?_
  refine j_if_eq (tgt := 56) x dL_law_51 (by decide) (fun hc => ?_) (fun hc => absurd (rfl) hc)
  exact j_widen (by omega) (by omega) (KK _ _ I4 hA1 (SavR_p ⟨hs3.2.2.2.2.1, hs3.2.2.1⟩ hO.1) (hO.2.2.1.trans hs3.2.2.2.2.2) (cnt_p (k := 0) (by decide) hs3.2.2.2.1 hO.1))
theorem i2c_sm {q : Nat} (h : q < 65536) : ((nI q).toUInt32 % 65536).toInt32 = nI q := Value.int.inj (show narrow .char (.int (nI q)) = _ from (pk_charN h).1)
theorem pF_65 {T : Nat → Int32} (h : T 0 = nI 65) : pF T 60 (ppo T 60 0) = some 0 := by
  have e : tsg T 60 0 = nI 65 := (if_pos (by decide)).trans h
  show pF T 60 0 = some 0
  unfold pF
  rw [e, if_neg (by decide), if_neg (by decide), if_neg (by decide), if_neg (by decide), if_neg (by decide)]
theorem InvP.t14 {b : SBt} {A B : MM} (I : InvP b A B) : A 86 0 = B 94 9 := by
  obtain ⟨n, -, t2, t3, -⟩ := I.tx
  exact t2.trans t3.symm
set_option maxHeartbeats 20000000 in
theorem law_e2 {N : Nat} (X : LX p l s m meth c D tyc sb N xs) {A B : MM} (I : InvP b0 A B) (hA : At B R1) (hS : SavR B) (h9 : B 94 9 = 0) (h3 : B 94 3 = nI 1) (KK : ∀ A B, InvP b0 A B → At B R1 → SavR B → B 94 9 = 0 → B 94 3 = nI 1 → LJ p l e s m below meth c D tyc sb ad0 138 [some (.retAddr sb), some (.ref 0), none, none, none, none, none, none, none, none, none] [] (HH b0 Y0 A) 200 3300) : LJ p l e s m below meth c D tyc sb ad0 56 [some (.retAddr sb), some (.ref 0), none, none, none, none, none, none, none, none, none] [] (HH b0 Y0 A) 100 2700 := by
  obtain ⟨x, hr, hX, hb1, hb2⟩ := id X
  refine j_iconst (v := 0) x dL_law_56 (by decide) ?_
  refine j_istore_n x dL_law_57 (by decide) rfl ?_
  refine c_loop (60) (fun j => [some (.retAddr sb), some (.ref 0), some (.int (nI j)), none, none, none, none, none, none, none, none]) (fun j B => At B R1 ∧ SavR B ∧ B 94 9 = nI j ∧ B 94 3 = nI 1 ∧ (0 < j → B 100 0 = nI 65)) (100 + 0) (2700 + 0) 1 6 I (⟨hA, hS, h9, h3, fun z => absurd z (by decide)⟩) (wk_c rfl (wk_c rfl (wk_c rfl (wk_n (wk_n (wk_n (wk_n (wk_n (wk_n (wk_n (wk_n wk_0))))))))))) (by omega) (by omega) (fun j0 hj0 A B I hz kk0 => ?_) (fun A B I hz => ?_)
  · obtain ⟨z1, z2, z3, z4, z5⟩ := hz
    refine j_iload_n x dL_law_58 rfl ?_
    refine j_bipush (v := 60) x dL_law_59 (by decide) ?_
    refine j_icmp_ge (tgt := 87) x dL_law_61 (by decide) (fun hc => absurd hc ((nI_ge hj0 (by decide) : ¬ nI 60 ≤ nI j0))) (fun _ => ?_)
    refine j_aload_n x dL_law_64 rfl ?_
    refine j_bipush (v := 65) x dL_law_65 (by decide) ?_
    refine j_iload_n x dL_law_67 rfl ?_
    refine j_iadd x dL_law_68 ?_
    refine j_top (show (65 : Int32) + nI j0 = nI (65 + j0) from nI_add 65 j0) ?_
    refine j_i2c x dL_law_69 ?_
    refine j_top (i2c_sm (by omega)) ?_
    refine c_call x (PA_ok (Y := Y0) I (n := j0) (q := 65 + j0) (by omega) z3 (by omega)) dL_law_70 m_L_append (by decide) wmL_146 rfl (Nat.le_of_ble_eq_true rfl) (fun mc ms z1 z2 => j_fit_room (by decide) (by omega) (by omega)) rfl (fun v A B1 I1 hc1 => ?_)
    obtain ⟨rfl, hAp⟩ := hc1
    refine j_iload_n x dL_law_73 rfl ?_
    refine j_iconst (v := 1) x dL_law_74 (by decide) ?_
    refine j_iadd x dL_law_75 ?_
    refine j_icmp_eq (tgt := 81) x dL_law_76 (by decide) (fun hc => ?_) (fun hc => absurd ((nI_1 j0).symm) hc)
    refine j_iinc x dL_law_81 rfl (by decide) rfl ?_
    refine j_goto (tgt := 58) x dL_law_84 (by decide) ?_
    exact kk0 _ _ _ _ _ I1 ⟨At_s z1 hAp.1, SavR_s z2 hAp.1, hAp.2.1, hAp.1.2.2.2.1.trans z4, fun _ => by rw [hAp.2.2.1 0]; by_cases e : 0 = j0; (subst e; rw [if_pos rfl]); (rw [if_neg e]; exact z5 (by omega))⟩ (wk_c rfl (wk_c rfl (wk_c (congrArg (fun z => some (Value.int z)) (nI_1 _)) (wk_n (wk_n (wk_n (wk_n (wk_n (wk_n (wk_n (wk_n wk_0))))))))))) (by omega) (by omega)
  · obtain ⟨z1, z2, z3, z4, z5⟩ := hz
    refine j_iload_n x dL_law_58 rfl ?_
    refine j_bipush (v := 60) x dL_law_59 (by decide) ?_
    refine j_icmp_ge (tgt := 87) x dL_law_61 (by decide) (fun _ => ?_) (fun hc => absurd ((nI_le (Nat.le_refl 60) (by decide) : nI 60 ≤ nI 60)) hc)
    refine j_aload_n x dL_law_87 rfl ?_
    refine j_bipush (v := 110) x dL_law_88 (by decide) ?_
    refine c_call x (PA_no (Y := Y0) I z3) dL_law_90 m_L_append (by decide) wmL_146 rfl (Nat.le_of_ble_eq_true rfl) (fun mc ms z1 z2 => j_fit_room (by decide) (by omega) (by omega)) rfl (fun v A B2 I2 hc2 => ?_)
    obtain ⟨rfl, rfl⟩ := hc2
    refine j_sipush (v := (-1001)) x dL_law_93 (by decide) ?_
    refine j_icmp_ne (tgt := 136) x dL_law_96 (by decide) (fun hc => absurd hc (fun z => z rfl)) (fun hc => ?_)
    refine j_aload_n x dL_law_99 rfl ?_
    refine j_bipush (v := 14) x dL_law_100 (by decide) ?_
    have I0 := I2
    obtain ⟨t9, dr9, hL9, hF9⟩ := I2.now
    refine q_call x I2 (Q_account_14 (Y := Y0) I2.hb hL9 hF9) dL_law_102 m_L_account (by decide) wmL_172 rfl (Nat.le_of_ble_eq_true rfl) (fun mc ms z1 z2 => j_fit_room (by decide) (by omega) (by omega)) rfl (fun A I2 => ?_)
    refine j_top (I0.t14.trans (z3)) ?_
    refine j_bipush (v := 60) x dL_law_105 (by decide) ?_
    refine j_icmp_ne (tgt := 136) x dL_law_107 (by decide) (fun hc => absurd hc (fun z => z rfl)) (fun hc => ?_)
    refine j_aload_n x dL_law_110 rfl ?_
    refine c_call x (PC_A (Y := Y0) (n := 60) (i := 0) (q := 0) I2 z3 (by decide) (by decide) (fun j hj => absurd hj (Nat.not_lt_zero j)) (pF_65 (z5 (by decide)))) dL_law_111 m_L_commands (by decide) wmL_151 rfl (Nat.le_of_ble_eq_true rfl) (fun mc ms z1 z2 => j_fit_room (by decide) (by omega) (by omega)) rfl (fun v A B3 I3 hc3 => ?_)
    obtain ⟨rfl, hFl⟩ := hc3
    refine j_sipush (v := (-1001)) x dL_law_114 (by decide) ?_
    refine j_icmp_ne (tgt := 136) x dL_law_117 (by decide) (fun hc => absurd hc (fun z => z rfl)) (fun hc => ?_)
    refine j_aload_n x dL_law_120 rfl ?_
    refine j2_callVi x I3.hb dL_law_121 m_X5_faultPosition (c_faultPosition (d := 0) (Y := Y0) I3.hb) wmL_283 jc_9 rfl rfl rfl (Nat.le_of_ble_eq_true rfl) (j_fit_room (by decide) (by omega) (by omega)) rfl ?_
    refine j_top (I3.rs.2.2.2.1.trans hFl.2.2.1) ?_
    refine j_if_ne (tgt := 136) x dL_law_124 (by decide) (fun hc => absurd hc (fun z => z rfl)) (fun hc => ?_)
    refine j_aload_n x dL_law_127 rfl ?_
    refine j_bipush (v := 14) x dL_law_128 (by decide) ?_
    have I00 := I3
    obtain ⟨t9, dr9, hL9, hF9⟩ := I3.now
    refine q_call x I3 (Q_account_14 (Y := Y0) I3.hb hL9 hF9) dL_law_130 m_L_account (by decide) wmL_172 rfl (Nat.le_of_ble_eq_true rfl) (fun mc ms z1 z2 => j_fit_room (by decide) (by omega) (by omega)) rfl (fun A I3 => ?_)
    refine j_top (I00.t14.trans (hFl.2.1)) ?_
    refine j_if_eq (tgt := 138) x dL_law_133 (by decide) (fun hc => ?_) (fun hc => absurd (rfl) hc)
    exact j_locW (wk_c rfl (wk_c rfl (wk_n (wk_n (wk_n (wk_n (wk_n (wk_n (wk_n (wk_n (wk_n wk_0))))))))))) (j_widen (by omega) (by omega) (KK _ _ I3 (At_s z1 hFl.1) (SavR_s z2 hFl.1) hFl.2.1 (hFl.1.2.2.2.1.trans z4)))
def RT (k : Nat) (c : Nat) : Int32 := if c = 0 then nI k else R1 c
def R2 : Nat → Int32 := up (RT 8) 17 9
def R3 : Nat → Int32 := eD R2
theorem R1_g : ∀ j, j < 8 → R1 (10 + j) = 0 := by decide +kernel
theorem RT_0 {B : MM} (h : At B R1) : At B (RT 0) := fun c hc => by
  rw [h c hc]
  unfold RT
  by_cases e : c = 0
  · subst e; rfl
  · rw [if_neg e]
theorem RT_s {B : MM} {j : Nat} (hj : j < 8) (h : At B (RT j)) : At (jm (jm B 95 0 (nI (j + 1))) 95 (10 + j) 0) (RT (j + 1)) := fun c hc => by
  by_cases e : c = 10 + j
  · subst e
    rw [jm_s]
    unfold RT
    rw [if_neg (by omega), R1_g j hj]
  · by_cases e0 : c = 0
    · subst e0
      rw [jm_n (by omega), jm_s]
      rfl
    · rw [jm_n (by omega), jm_n (by omega), h c hc]
      unfold RT
      rw [if_neg e0, if_neg e0]
theorem InvP.k13 {b : SBt} {A B : MM} (I : InvP b A B) : A 13 2 = B 94 3 := by
  obtain ⟨τ, k, j, -, -, -, h4, h5, -⟩ := I.1
  exact h4.trans h5.symm
theorem rTeam_8 {b : SBt} {A B : MM} (I : InvP b A B) (h1 : B 95 1 = 0) (h0 : B 95 0 = nI 8) : rTeam A 0 = some (2, 8) := by
  obtain ⟨t, hL⟩ := I.un h1
  have e2 : A 1 2 = if false = true then 1 else 0 := hL.2.2.2.2.2.1
  rw [if_neg (by decide)] at e2
  have e0 : A 1 0 = nI 8 := hL.2.1.trans (hL.2.2.1.symm.trans h0)
  unfold rTeam
  rw [if_neg (fun z => z (by decide)), e2, e0, if_neg (fun z => z rfl), if_pos (by decide)]
set_option maxHeartbeats 20000000 in
theorem law_e3 {N : Nat} (X : LX p l s m meth c D tyc sb N xs) {A B : MM} (I : InvP b0 A B) (hA : At B R1) (hS : SavR B) (h9 : B 94 9 = 0) (h3 : B 94 3 = nI 1) (KK : ∀ A B, InvP b0 A B → At B R3 ∧ SavR B ∧ B 94 9 = 0 ∧ B 94 3 = nI 8 → LJ p l e s m below meth c D tyc sb ad0 228 [some (.retAddr sb), some (.ref 0), none, none, none, none, none, none, none, none, none] [] (HH b0 Y0 A) 300 3900) : LJ p l e s m below meth c D tyc sb ad0 138 [some (.retAddr sb), some (.ref 0), none, none, none, none, none, none, none, none, none] [] (HH b0 Y0 A) 200 3300 := by
  obtain ⟨x, hr, hX, hb1, hb2⟩ := id X
  refine j_iconst (v := 0) x dL_law_138 (by decide) ?_
  refine j_istore_n x dL_law_139 (by decide) rfl ?_
  refine c_loop (8) (fun j => [some (.retAddr sb), some (.ref 0), some (.int (nI j)), none, none, none, none, none, none, none, none]) (fun j B => At B (RT j) ∧ SavR B ∧ B 94 9 = 0 ∧ B 94 3 = nI (min (1 + j) 8)) (200 + 0) (3300 + 0) 1 6 I (⟨RT_0 hA, hS, h9, h3⟩) (wk_c rfl (wk_c rfl (wk_c rfl (wk_n (wk_n (wk_n (wk_n (wk_n (wk_n (wk_n (wk_n wk_0))))))))))) (by omega) (by omega) (fun j0 hj0 A B I hz kk0 => ?_) (fun A B I hz => ?_)
  · obtain ⟨z1, z2, z3, z4⟩ := hz
    refine j_iload_n x dL_law_140 rfl ?_
    refine j_bipush (v := 8) x dL_law_141 (by decide) ?_
    refine j_icmp_ge (tgt := 163) x dL_law_143 (by decide) (fun hc => absurd hc ((nI_ge hj0 (by decide) : ¬ nI 8 ≤ nI j0))) (fun _ => ?_)
    refine j_aload_n x dL_law_146 rfl ?_
    refine j_iconst (v := 0) x dL_law_147 (by decide) ?_
    refine c_call x (PO_team (Y := Y0) I (z1 1 (by decide)) (q := j0) (z1 0 (by decide)) hj0 (u := 0) ⟨by decide, by decide⟩) dL_law_148 m_L_team (by decide) wmL_168 rfl (Nat.le_of_ble_eq_true rfl) (fun mc ms z1 z2 => j_fit_room (by decide) (by omega) (by omega)) rfl (fun v A B1 I1 hc1 => ?_)
    obtain ⟨rfl, hO⟩ := hc1
    refine j_iload_n x dL_law_151 rfl ?_
    refine j_icmp_eq (tgt := 157) x dL_law_152 (by decide) (fun hc => ?_) (fun hc => absurd (rfl) hc)
    refine j_iinc x dL_law_157 rfl (by decide) rfl ?_
    refine j_goto (tgt := 140) x dL_law_160 (by decide) ?_
    exact kk0 _ _ _ _ _ I1 ⟨At_o hO (RT_s hj0 z1), SavR_p z2 hO.1, hO.2.2.1.trans z3, by have h := cnt_p (by omega) z4 hO.1; rw [h]; congr 1; omega⟩ (wk_c rfl (wk_c rfl (wk_c (congrArg (fun z => some (Value.int z)) (nI_1 _)) (wk_n (wk_n (wk_n (wk_n (wk_n (wk_n (wk_n (wk_n wk_0))))))))))) (by omega) (by omega)
  · obtain ⟨z1, z2, z3, z4⟩ := hz
    refine j_iload_n x dL_law_140 rfl ?_
    refine j_bipush (v := 8) x dL_law_141 (by decide) ?_
    refine j_icmp_ge (tgt := 163) x dL_law_143 (by decide) (fun _ => ?_) (fun hc => absurd ((nI_le (Nat.le_refl 8) (by decide) : nI 8 ≤ nI 8)) hc)
    refine j_aload_n x dL_law_163 rfl ?_
    refine j_iconst (v := 0) x dL_law_164 (by decide) ?_
    refine c_call x (PR_team (Y := Y0) I (rTeam_8 I (z1 1 (by decide)) (z1 0 (by decide)))) dL_law_165 m_L_team (by decide) wmL_168 rfl (Nat.le_of_ble_eq_true rfl) (fun mc ms z1 z2 => j_fit_room (by decide) (by omega) (by omega)) rfl (fun v A B2 I2 hc2 => ?_)
    obtain ⟨rfl, hR⟩ := hc2
    have y1 := At_s z1 hR.1
    refine j_sipush (v := (-1001)) x dL_law_168 (by decide) ?_
    refine j_icmp_ne (tgt := 226) x dL_law_171 (by decide) (fun hc => absurd hc (fun z => z rfl)) (fun hc => ?_)
    refine j_aload_n x dL_law_174 rfl ?_
    refine j_iconst (v := 2) x dL_law_175 (by decide) ?_
    refine j_bipush (v := 8) x dL_law_176 (by decide) ?_
    refine j_iconst (v := 0) x dL_law_178 (by decide) ?_
    refine j_callS x dL_law_179 (c_is (d := 0) (Y := Y0) I2 (by decide) hR.2.1 hR.2.2.1 hR.2.2.2.1) m_L_is wmL_277 rfl (Nat.le_of_ble_eq_true rfl) (j_fit_room (by decide) (by omega) (by omega)) rfl (fun E k z => by obtain ⟨_, q, _⟩ := z; cases q) (fun v k z => ?_)
    obtain ⟨A, z1, rfl, I2⟩ := z
    cases z1
    refine j_if_eq (tgt := 226) x dL_law_182 (by decide) (fun hc => absurd hc (by decide)) (fun hc => ?_)
    refine j_aload_n x dL_law_185 rfl ?_
    refine j_bipush (v := 7) x dL_law_186 (by decide) ?_
    refine j_bipush (v := 9) x dL_law_188 (by decide) ?_
    refine c_call x (PO_ground (Y := Y0) I2 (t := 8) (q := 7) (v := 9) (y1 0 (by decide)) (by decide) (by decide) ⟨by decide, by decide⟩) dL_law_190 m_L_ground (by decide) wmL_234 rfl (Nat.le_of_ble_eq_true rfl) (fun mc ms z1 z2 => j_fit_room (by decide) (by omega) (by omega)) rfl (fun v A B3 I3 hc3 => ?_)
    obtain ⟨ey, hO⟩ := hc3
    refine j_top (ey.trans (y1 17 (by decide))) ?_
    have w1 : At B3 R2 := At_o hO (At_jm y1)
    have w4 := cnt_p (k := 8) (by decide) ((hR.1.2.2.2.1).trans z4) hO.1
    refine j_if_ne (tgt := 226) x dL_law_193 (by decide) (fun hc => absurd hc (fun z => z rfl)) (fun hc => ?_)
    refine j_aload_n x dL_law_196 rfl ?_
    refine c_call x (PO_draw (Y := Y0) I3 (w1 1 (by decide)) (t := 8) (w1 0 (by decide)) (by decide) (by decide)) dL_law_197 m_L_draw (by decide) wmL_170 rfl (Nat.le_of_ble_eq_true rfl) (fun mc ms z1 z2 => j_fit_room (by decide) (by omega) (by omega)) rfl (fun v A B4 I4 hc4 => ?_)
    obtain ⟨ey, hO2⟩ := hc4
    refine j_top (ey.trans (congrArg nI e8_56.2.1)) ?_
    have v1 : At B4 R3 := At_o hO2 (At_draw w1 (w1 9 (by decide)))
    have v4 := cnt_p (k := 8) (by decide) w4 hO2.1
    have D8 : Dr B4 8 := ⟨v1 0 (by decide), by decide, by rw [v1 1 (by decide)]; decide⟩
    refine j_bipush (v := 14) x dL_law_200 (by decide) ?_
    refine j_icmp_ne (tgt := 226) x dL_law_202 (by decide) (fun hc => absurd hc (fun z => z rfl)) (fun hc => ?_)
    refine j_aload_n x dL_law_205 rfl ?_
    refine j_iconst (v := 4) x dL_law_206 (by decide) ?_
    refine q_call x I4 (Q_n4 (Y := Y0) I4 D8) dL_law_207 m_L_account (by decide) wmL_172 rfl (Nat.le_of_ble_eq_true rfl) (fun mc ms z1 z2 => j_fit_room (by decide) (by omega) (by omega)) rfl (fun A I4 => ?_)
    refine j_top (congrArg nI e8_56.2.2) ?_
    refine j_bipush (v := 56) x dL_law_210 (by decide) ?_
    refine j_icmp_ne (tgt := 226) x dL_law_212 (by decide) (fun hc => absurd hc (fun z => z rfl)) (fun hc => ?_)
    refine j_aload_n x dL_law_215 rfl ?_
    refine j_bipush (v := 13) x dL_law_216 (by decide) ?_
    have I13 := I4
    refine q_call x I4 (Q_account_13 (Y := Y0) I4.hb (I4.dr D8).1 (I4.dr D8).2) dL_law_218 m_L_account (by decide) wmL_172 rfl (Nat.le_of_ble_eq_true rfl) (fun mc ms z1 z2 => j_fit_room (by decide) (by omega) (by omega)) rfl (fun A I4 => ?_)
    refine j_top (I13.k13.trans v4) ?_
    refine j_bipush (v := 8) x dL_law_221 (by decide) ?_
    refine j_icmp_eq (tgt := 228) x dL_law_223 (by decide) (fun hc => ?_) (fun hc => absurd (rfl) hc)
    exact j_locW (wk_c rfl (wk_c rfl (wk_n (wk_n (wk_n (wk_n (wk_n (wk_n (wk_n (wk_n (wk_n wk_0))))))))))) (j_widen (by omega) (by omega) (KK _ _ I4 ⟨v1, SavR_p (SavR_p (SavR_s z2 hR.1) hO.1) hO2.1, hO2.2.2.1.trans (hO.2.2.1.trans (hR.2.2.2.2.1.trans z3)), v4⟩))
end JLW
