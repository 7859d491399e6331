theorem j_fit_room {d1 mc1 ms1 cells slots : Nat} (h : d1 ≤ 100) (h1 : cells + mc1 ≤ 600390) (h2 : slots + ms1 ≤ 7289640) : j_fit room_1 d1 mc1 ms1 cells slots :=
  ⟨fun maxL hm => by simp only [j_rm, room_1]; omega, h1, h2⟩
section JLW
variable {p : Program} {l : Launch} {e : Env} {s : State} {m : MethodId} {below : List Frame} {meth : Method} {c : Code} {D : va_G} {tyc : Nat → ClassId} {sb : Nat} {xs : Nat → Int32} {ad0 : Nat → Nat}
/-- the law's judgement -/
abbrev LJ (p : Program) (l : Launch) (e : Env) (s : State) (m : MethodId) (below : List Frame) (meth : Method) (c : Code) (D : va_G) (tyc : Nat → ClassId) (sb : Nat) (ad0 : Nat → Nat) (pc : Nat) (L : List (Option Value)) (st : List Value) (h : MH) (cells slots : Nat) : Prop :=
  JJ p l e room_1 s m #[Value.ref sb] below meth c D tyc (fun q => s.heap.size ≤ q) 0 ad0 11 (lw_Z below #[Value.ref sb] s) pc L st h cells slots
/-- what is known in the law -/
def LX (p : Program) (l : Launch) (s : State) (m : MethodId) (meth : Method) (c : Code) (D : va_G) (tyc : Nat → ClassId) (sb N : Nat) (xs : Nat → Int32) : Prop :=
  j_X p l s m #[Value.ref sb] meth c D tyc (fun q => s.heap.size ≤ q) "LeagueTablesLaw" cL_law 11 ∧ meth.sig.returnType = ret ∧ va_X sb N xs s s.heap ∧ sb < s.heap.size ∧ ¬ (fun q => s.heap.size ≤ q) sb
theorem law_ret {N : Nat} (X : LX p l s m meth c D tyc sb N xs) {L : List (Option Value)} {h : MH} {cells slots : Nat} (hc : cells ≤ 600390) (hs : slots ≤ 7289640) : LJ p l e s m below meth c D tyc sb ad0 895 L [] h cells slots := by
  obtain ⟨x, hr, -⟩ := X
  refine j_iconst (v := 1) x dL_law_895 (by decide) ?_
  refine j_goto (tgt := 900) x dL_law_896 (by decide) ?_
  intro ad ls H locs I
  refine W.base ?_
  refine W.widen hc hs ?_
  refine va_forget (fun q hq => I.2.2.2.1.2.2 q hq) ?_
  exact lw_ret (Drawn.sameBut.refl s.drawn lw_cs) x.1 x.2.1 hr x.2.2.2.2.2.2.2.1 dL_law_900
/-- the rows of the first league -/
def R0 : Nat → Int32 := MB0 95
def R1 : Nat → Int32 := up R0 5 0
def SavR (B : MM) : Prop := B 94 5 = 1 ∧ ∀ c, c < 466 → B 98 c = R0 c
theorem SavR_s {B B1 : MM} (h : SavR B) (hs : Same B B1) : SavR B1 := ⟨hs.2.2.2.2.trans h.1, fun c hc => (hs.2.2.1 c).trans (h.2 c hc)⟩
theorem SavR_p {B B1 : MM} (h : SavR B) (hp : PushB B B1) : SavR B1 := by
  obtain ⟨k, -, -, -, -, h5, h6⟩ := hp
  exact ⟨h6.trans h.1, fun c hc => (h5 c).trans (h.2 c hc)⟩
theorem cnt_p {B B1 : MM} {k : Nat} (hk : k ≤ 8) (h : B 94 3 = nI k) (hp : PushB B B1) : B1 94 3 = nI (min (k + 1) 8) := by
  obtain ⟨k2, h1, h2, h3, -⟩ := hp
  obtain rfl : k2 = k := (nI_eq (by omega) (by omega)).mp (h2.symm.trans h)
  exact h3
theorem At_s2 {B B1 : MM} {R : Nat → Int32} (h : At B R) (hs : SavB B B1) : At B1 R := fun c hc => (hs.1 c hc).trans (h c hc)
theorem jxr_m1 {B : MM} : jxr B (-1) = B := if_pos (by decide)
theorem jxR_0 {B : MM} : jxR B (-1) (-1) (-1) = jm B 95 5 0 := by
  unfold jxR
  rw [jxr_m1, jxr_m1, jxr_m1]
/-- made; nothing to undo, to restore; saved; its rules taken away -/
theorem law_e1 {N : Nat} (X : LX p l s m meth c D tyc sb N xs) (KK : ∀ A B, InvP b0 A B → At B R1 → SavR B → B 94 9 = 0 → B 94 3 = nI 1 → LJ p l e s m below meth c D tyc sb ad0 56 [some (.retAddr sb), some (.ref 0), none, none, none, none, none, none, none, none, none] [] (HH b0 Y0 A) 100 2700) : LJ p l e s m below meth c D tyc sb ad0 0 [some (.retAddr sb), none, none, none, none, none, none, none, none, none, none] [] (HS 0 fun _ _ => .null) 0 0 := by
  obtain ⟨x, hr, hX, hb1, hb2⟩ := id X
  refine j3_new x dL_law_0 jc_9 wcL_8 wt_LeagueTables wi_LeagueTables rfl rfl (by decide) (by decide) ?_
  refine j_dup x dL_law_3 rfl ?_
  refine j3_init x dL_law_4 m_X5_init (k_LT (d := 0)) wmL_288 (by decide) rfl (Nat.le_of_ble_eq_true rfl) (j_fit_room (by decide) (by decide) (by decide)) rfl ?_
  refine j_astore_n x dL_law_7 (by decide) rfl ?_
  refine j3_eq (b := b0) (Y := Y0) (M := M0) rfl rfl (by decide) F0_ok ?_
  have I := InvP_0
  refine j_widen (c2 := 94) (s2 := 2613) (by decide) (by decide) ?_
  refine j_aload_n x dL_law_8 rfl ?_
  refine c_call x (PU_no (Y := Y0) I rfl) dL_law_9 m_L_undo (by decide) wmL_289 rfl (Nat.le_of_ble_eq_true rfl) (fun mc ms z1 z2 => j_fit_room (by decide) (by omega) (by omega)) rfl (fun v A B1 I1 hc1 => ?_)
  obtain ⟨rfl, rfl⟩ := hc1
  refine j_sipush (v := (-1001)) x dL_law_12 (by decide) ?_
  refine j_icmp_ne (tgt := 54) x dL_law_15 (by decide) (fun hc => absurd hc (fun z => z rfl)) (fun hc => ?_)
  refine j_aload_n x dL_law_18 rfl ?_
  refine c_call x (PW_no (Y := Y0) I1 rfl) dL_law_19 m_L_restore (by decide) wmL_291 rfl (Nat.le_of_ble_eq_true rfl) (fun mc ms z1 z2 => j_fit_room (by decide) (by omega) (by omega)) rfl (fun v A B2 I2 hc2 => ?_)
  obtain ⟨rfl, rfl⟩ := hc2
  refine j_sipush (v := (-1001)) x dL_law_22 (by decide) ?_
  refine j_icmp_ne (tgt := 54) x dL_law_25 (by decide) (fun hc => absurd hc (fun z => z rfl)) (fun hc => ?_)
  refine j_aload_n x dL_law_28 rfl ?_
  refine j_callV x dL_law_29 (c_saveP (d := 0) (Y := Y0) I2) m_X5_save wmL_293 jc_9 rfl (show 0 < 94 by decide) rfl rfl (Nat.le_of_ble_eq_true rfl) (j_fit_room (by decide) (by omega) (by omega)) rfl (fun E k z => by obtain ⟨_, _, q, _⟩ := z; cases q) (fun v k z => ?_)
  obtain ⟨A, B3, z1, rfl, I3, hs3⟩ := z
  cases z1
  refine j_if_ne (tgt := 54) x dL_law_32 (by decide) (fun hc => absurd hc (fun z => z rfl)) (fun hc => ?_)
  refine j_aload_n x dL_law_35 rfl ?_
  refine j_iconst (v := (-1)) x dL_law_36 (by decide) ?_
  refine j_iconst (v := (-1)) x dL_law_37 (by decide) ?_
  refine j_iconst (v := (-1)) x dL_law_38 (by decide) ?_
  refine c_call x (PO_rules (Y := Y0) (u := -1) (v := -1) (w := -1) I3 (by decide)) dL_law_39 m_L_rules (by decide) wmL_238 rfl (Nat.le_of_ble_eq_true rfl) (fun mc ms z1 z2 => j_fit_room (by decide) (by omega) (by omega)) rfl (fun v A B4 I4 hc4 => ?_)
  obtain ⟨ey, -, hO⟩ := hc4
  rw [jxR_0] at ey hO
  rw [jm_s] at ey
  refine j_top ey ?_
  have hA1 : At B4 R1 := fun c hc => by
    rw [hO.2.1, jm_n (by omega)]
    exact At_jm (At_s2 (fun _ _ => rfl) hs3) c hc
  refine j_if_ne (tgt := 54) x dL_law_42 (by decide) (fun hc => absurd hc (fun z => z rfl)) (fun hc => ?_)
  refine j_aload_n x dL_law_45 rfl ?_
  refine j_bipush (v := 9) x dL_law_46 (by decide) ?_
  obtain ⟨t9, dr9, hL9, hF9⟩ := I4.now
  refine q_call x I4 (Q_account_9 (Y := Y0) I4.hb hL9 hF9) dL_law_48 m_L_account (by decide) wmL_172 rfl (Nat.le_of_ble_eq_true rfl) (fun mc ms z1 z2 => j_fit_room (by decide) (by omega) (by omega)) rfl (fun A I4 => ?_)
  refine j_top (hA1 5 (by decide)) ?_
  refine j_if_eq (tgt := 56) x dL_law_51 (by decide) (fun hc => ?_) (fun hc => absurd (rfl) hc)
  exact j_widen (by omega) (by omega) (KK _ _ I4 hA1 (SavR_p ⟨hs3.2.2.2.2.1, hs3.2.2.1⟩ hO.1) (hO.2.2.1.trans hs3.2.2.2.2.2) (cnt_p (k := 0) (by decide) hs3.2.2.2.1 hO.1))
theorem i2c_sm {q : Nat} (h : q < 65536) : ((nI q).toUInt32 % 65536).toInt32 = nI q := Value.int.inj (show narrow .char (.int (nI q)) = _ from (pk_charN h).1)
theorem pF_65 {T : Nat → Int32} (h : T 0 = nI 65) : pF T 60 (ppo T 60 0) = some 0 := by
  have e : tsg T 60 0 = nI 65 := (if_pos (by decide)).trans h
  show pF T 60 0 = some 0
  unfold pF
  rw [e, if_neg (by decide), if_neg (by decide), if_neg (by decide), if_neg (by decide), if_neg (by decide)]
theorem InvP.t14 {b : SBt} {A B : MM} (I : InvP b A B) : A 86 0 = B 94 9 := by
  obtain ⟨n, -, t2, t3, -⟩ := I.tx
  exact t2.trans t3.symm
theorem law_e2 {N : Nat} (X : LX p l s m meth c D tyc sb N xs) {A B : MM} (I : InvP b0 A B) (hA : At B R1) (hS : SavR B) (h9 : B 94 9 = 0) (h3 : B 94 3 = nI 1) (KK : ∀ A B, InvP b0 A B → At B R1 → SavR B → B 94 9 = 0 → B 94 3 = nI 1 → LJ p l e s m below meth c D tyc sb ad0 138 [some (.retAddr sb), some (.ref 0), none, none, none, none, none, none, none, none, none] [] (HH b0 Y0 A) 200 3300) : LJ p l e s m below meth c D tyc sb ad0 56 [some (.retAddr sb), some (.ref 0), none, none, none, none, none, none, none, none, none] [] (HH b0 Y0 A) 100 2700 := by
  obtain ⟨x, hr, hX, hb1, hb2⟩ := id X
  refine j_iconst (v := 0) x dL_law_56 (by decide) ?_
  refine j_istore_n x dL_law_57 (by decide) rfl ?_
  refine c_loop (60) (fun j => [some (.retAddr sb), some (.ref 0), some (.int (nI j)), none, none, none, none, none, none, none, none]) (fun j B => At B R1 ∧ SavR B ∧ B 94 9 = nI j ∧ B 94 3 = nI 1 ∧ (0 < j → B 100 0 = nI 65)) (100 + 0) (2700 + 0) 1 6 I (⟨hA, hS, h9, h3, fun z => absurd z (by decide)⟩) (wk_c rfl (wk_c rfl (wk_c rfl (wk_n (wk_n (wk_n (wk_n (wk_n (wk_n (wk_n (wk_n wk_0))))))))))) (by omega) (by omega) (fun j0 hj0 A B I hz kk0 => ?_) (fun A B I hz => ?_)
  · obtain ⟨z1, z2, z3, z4, z5⟩ := hz
    refine j_iload_n x dL_law_58 rfl ?_
    refine j_bipush (v := 60) x dL_law_59 (by decide) ?_
    refine j_icmp_ge (tgt := 87) x dL_law_61 (by decide) (fun hc => absurd hc ((nI_ge hj0 (by decide) : ¬ nI 60 ≤ nI j0))) (fun _ => ?_)
    refine j_aload_n x dL_law_64 rfl ?_
    refine j_bipush (v := 65) x dL_law_65 (by decide) ?_
    refine j_iload_n x dL_law_67 rfl ?_
    refine j_iadd x dL_law_68 ?_
    refine j_top (show (65 : Int32) + nI j0 = nI (65 + j0) from nI_add 65 j0) ?_
    refine j_i2c x dL_law_69 ?_
    refine j_top (i2c_sm (by omega)) ?_
    refine c_call x (PA_ok (Y := Y0) I (n := j0) (q := 65 + j0) (by omega) z3 (by omega)) dL_law_70 m_L_append (by decide) wmL_146 rfl (Nat.le_of_ble_eq_true rfl) (fun mc ms z1 z2 => j_fit_room (by decide) (by omega) (by omega)) rfl (fun v A B1 I1 hc1 => ?_)
    obtain ⟨rfl, hAp⟩ := hc1
    refine j_iload_n x dL_law_73 rfl ?_
    refine j_iconst (v := 1) x dL_law_74 (by decide) ?_
    refine j_iadd x dL_law_75 ?_
    refine j_icmp_eq (tgt := 81) x dL_law_76 (by decide) (fun hc => ?_) (fun hc => absurd ((nI_1 j0).symm) hc)
    refine j_iinc x dL_law_81 rfl (by decide) rfl ?_
    refine j_goto (tgt := 58) x dL_law_84 (by decide) ?_
    exact kk0 _ _ _ _ _ I1 ⟨At_s z1 hAp.1, SavR_s z2 hAp.1, hAp.2.1, hAp.1.2.2.2.1.trans z4, fun _ => by rw [hAp.2.2.1 0]; by_cases e : 0 = j0; (subst e; rw [if_pos rfl]); (rw [if_neg e]; exact z5 (by omega))⟩ (wk_c rfl (wk_c rfl (wk_c (congrArg (fun z => some (Value.int z)) (nI_1 _)) (wk_n (wk_n (wk_n (wk_n (wk_n (wk_n (wk_n (wk_n wk_0))))))))))) (by omega) (by omega)
  · obtain ⟨z1, z2, z3, z4, z5⟩ := hz
    refine j_iload_n x dL_law_58 rfl ?_
    refine j_bipush (v := 60) x dL_law_59 (by decide) ?_
    refine j_icmp_ge (tgt := 87) x dL_law_61 (by decide) (fun _ => ?_) (fun hc => absurd ((nI_le (Nat.le_refl 60) (by decide) : nI 60 ≤ nI 60)) hc)
    refine j_aload_n x dL_law_87 rfl ?_
    refine j_bipush (v := 110) x dL_law_88 (by decide) ?_
    refine c_call x (PA_no (Y := Y0) I z3) dL_law_90 m_L_append (by decide) wmL_146 rfl (Nat.le_of_ble_eq_true rfl) (fun mc ms z1 z2 => j_fit_room (by decide) (by omega) (by omega)) rfl (fun v A B2 I2 hc2 => ?_)
    obtain ⟨rfl, rfl⟩ := hc2
    refine j_sipush (v := (-1001)) x dL_law_93 (by decide) ?_
    refine j_icmp_ne (tgt := 136) x dL_law_96 (by decide) (fun hc => absurd hc (fun z => z rfl)) (fun hc => ?_)
    refine j_aload_n x dL_law_99 rfl ?_
    refine j_bipush (v := 14) x dL_law_100 (by decide) ?_
    have I0 := I2
    obtain ⟨t9, dr9, hL9, hF9⟩ := I2.now
    refine q_call x I2 (Q_account_14 (Y := Y0) I2.hb hL9 hF9) dL_law_102 m_L_account (by decide) wmL_172 rfl (Nat.le_of_ble_eq_true rfl) (fun mc ms z1 z2 => j_fit_room (by decide) (by omega) (by omega)) rfl (fun A I2 => ?_)
    refine j_top (I0.t14.trans (z3)) ?_
    refine j_bipush (v := 60) x dL_law_105 (by decide) ?_
    refine j_icmp_ne (tgt := 136) x dL_law_107 (by decide) (fun hc => absurd hc (fun z => z rfl)) (fun hc => ?_)
    refine j_aload_n x dL_law_110 rfl ?_
    refine c_call x (PC_A (Y := Y0) (n := 60) (i := 0) (q := 0) I2 z3 (by decide) (by decide) (fun j hj => absurd hj (Nat.not_lt_zero j)) (pF_65 (z5 (by decide)))) dL_law_111 m_L_commands (by decide) wmL_151 rfl (Nat.le_of_ble_eq_true rfl) (fun mc ms z1 z2 => j_fit_room (by decide) (by omega) (by omega)) rfl (fun v A B3 I3 hc3 => ?_)
    obtain ⟨rfl, hFl⟩ := hc3
    refine j_sipush (v := (-1001)) x dL_law_114 (by decide) ?_
    refine j_icmp_ne (tgt := 136) x dL_law_117 (by decide) (fun hc => absurd hc (fun z => z rfl)) (fun hc => ?_)
    refine j_aload_n x dL_law_120 rfl ?_
    refine j2_callVi x I3.hb dL_law_121 m_X5_faultPosition (c_faultPosition (d := 0) (Y := Y0) I3.hb) wmL_283 jc_9 rfl rfl rfl (Nat.le_of_ble_eq_true rfl) (j_fit_room (by decide) (by omega) (by omega)) rfl ?_
    refine j_top (I3.rs.2.2.2.1.trans hFl.2.2.1) ?_
    refine j_if_ne (tgt := 136) x dL_law_124 (by decide) (fun hc => absurd hc (fun z => z rfl)) (fun hc => ?_)
    refine j_aload_n x dL_law_127 rfl ?_
    refine j_bipush (v := 14) x dL_law_128 (by decide) ?_
    have I00 := I3
    obtain ⟨t9, dr9, hL9, hF9⟩ := I3.now
    refine q_call x I3 (Q_account_14 (Y := Y0) I3.hb hL9 hF9) dL_law_130 m_L_account (by decide) wmL_172 rfl (Nat.le_of_ble_eq_true rfl) (fun mc ms z1 z2 => j_fit_room (by decide) (by omega) (by omega)) rfl (fun A I3 => ?_)
    refine j_top (I00.t14.trans (hFl.2.1)) ?_
    refine j_if_eq (tgt := 138) x dL_law_133 (by decide) (fun hc => ?_) (fun hc => absurd (rfl) hc)
    exact j_locW (wk_c rfl (wk_c rfl (wk_n (wk_n (wk_n (wk_n (wk_n (wk_n (wk_n (wk_n (wk_n wk_0))))))))))) (j_widen (by omega) (by omega) (KK _ _ I3 (At_s z1 hFl.1) (SavR_s z2 hFl.1) hFl.2.1 (hFl.1.2.2.2.1.trans z4)))
end JLW
