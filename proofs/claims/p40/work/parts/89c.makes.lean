/-! ===== the law's making of a league, walked ===== -/
set_option maxHeartbeats 20000000 in
theorem c_makes {d : Nat} {b : SBt} {Y : OUt} {A B : MM} {a N : Nat} {xs : Nat → Int32} (hN : N < 1000) (I : InvP b A B) (h0 : B 95 0 = 0) (h1 : B 95 1 = 0) (h9 : B 94 9 = 0) (h5 : B 94 5 = 0) (hG : Gd (B 95)) : ConS (d + 21) 4100 25000 yL_makes cL_makes 7 (some .boolean) [.ref 0, .retAddr a] (HH b Y A) a N xs (fun o k => ∃ A1 B1 t, o = .inl (some (.int 1)) ∧ k = HH b Y A1 ∧ InvP b A1 B1 ∧ Dr B1 t ∧ 2 ≤ t ∧ B1 94 9 = 0 ∧ B1 94 5 = 0 ∧ Gd (B1 95)) := by
  refine ConS.of (by decide +kernel) (Nat.le_of_ble_eq_true rfl) rfl fun p l e s m args below meth c D0 tyc A0 ad0 x hr htab hname hS => ?_
  change JJ _ _ _ _ _ _ _ _ _ _ _ _ _ _ _ _ _ 0 [some (.ref 0), some (.retAddr a), none, none, none, none, none] [] _ 0 0
  refine j_iconst (v := 2) x dL_makes_0 (by decide) ?_
  refine j_aload_nR x dL_makes_1 rfl ?_
  refine j_iconst (v := 0) x dL_makes_2 (by decide) ?_
  refine j_callSS x hS dL_makes_3 (c_atS (d := 0) (j := 0) hN (by omega)) m_L_at wmL_161 rfl (Nat.le_of_ble_eq_true rfl) (j_fit_rm (by omega) (by omega) (by omega)) rfl (fun E k z => by cases z.1) (fun v k z => ?_)
  obtain ⟨z1, rfl⟩ := z
  cases z1
  refine j_bipush (v := 7) x dL_makes_6 (by decide) ?_
  refine j_callS x dL_makes_8 (c_some (d := 0) (by decide)) m_L_some wmL_165 rfl (Nat.le_of_ble_eq_true rfl) (j_fit_rm (by omega) (by omega) (by omega)) rfl (fun E k z => by cases z.1) (fun v k z => ?_)
  obtain ⟨z1, rfl⟩ := z
  cases z1
  obtain ⟨q0, hq0, z2⟩ := sm_in _ (n := 7) (by decide) (by decide)
  refine j_top z2 ?_
  clear z2
  refine j_iadd x dL_makes_11 ?_
  refine j_top (show (2 : Int32) + nI q0 = nI (2 + q0) from nI_add 2 q0) ?_
  refine j_istore_n x dL_makes_12 (by decide) rfl ?_
  refine j_iconst (v := 0) x dL_makes_13 (by decide) ?_
  refine j_istore_n x dL_makes_14 (by decide) rfl ?_
  refine c_loop ((2 + q0)) (fun j => [some (.ref 0), some (.retAddr a), some (.int (nI (2 + q0))), some (.int (nI j)), none, none, none]) (fun j B => ZT j B) (0 + 0) (0 + 0) 1 6 I (⟨h0, h1, h9, h5, hG⟩) (wk_c rfl (wk_c rfl (wk_c rfl (wk_c rfl (wk_n (wk_n (wk_n wk_0))))))) (by omega) (by omega) (fun j0 hj0 A B I hz kk0 => ?_) (fun A B I hz => ?_)
  · refine j_iload_n x dL_makes_15 rfl ?_
    refine j_iload_n x dL_makes_16 rfl ?_
    refine j_icmp_ge (tgt := 62) x dL_makes_17 (by decide) (fun hc => absurd hc (nI_ge hj0 (by omega))) (fun _ => ?_)
    refine j_aload_n x dL_makes_20 rfl ?_
    refine j_aload_nR x dL_makes_21 rfl ?_
    refine j_iconst (v := 1) x dL_makes_22 (by decide) ?_
    refine j_iload_n x dL_makes_23 rfl ?_
    refine j_iadd x dL_makes_24 ?_
    refine j_top (show (1 : Int32) + nI j0 = nI (1 + j0) from nI_add 1 j0) ?_
    refine j_callSS x hS dL_makes_25 (c_atS (d := 0) (j := (1 + j0)) hN (by omega)) m_L_at wmL_161 rfl (Nat.le_of_ble_eq_true rfl) (j_fit_rm (by omega) (by omega) (by omega)) rfl (fun E k z => by cases z.1) (fun v k z => ?_)
    obtain ⟨z1, rfl⟩ := z
    cases z1
    refine j_aload_nR x dL_makes_28 rfl ?_
    refine j_iconst (v := 1) x dL_makes_29 (by decide) ?_
    refine j_callSS x hS dL_makes_30 (c_atS (d := 0) (j := 1) hN (by omega)) m_L_at wmL_161 rfl (Nat.le_of_ble_eq_true rfl) (j_fit_rm (by omega) (by omega) (by omega)) rfl (fun E k z => by cases z.1) (fun v k z => ?_)
    obtain ⟨z1, rfl⟩ := z
    cases z1
    refine j_iconst (v := 1) x dL_makes_33 (by decide) ?_
    refine j_iand x dL_makes_34 ?_
    refine j_if_ne (tgt := 42) x dL_makes_35 (by decide) (fun hc => ?_) (fun hc => ?_)
    · refine j_bipush (v := 10) x dL_makes_42 (by decide) ?_
      refine j_callS x dL_makes_44 (c_some (d := 0) (by decide)) m_L_some wmL_165 rfl (Nat.le_of_ble_eq_true rfl) (j_fit_rm (by omega) (by omega) (by omega)) rfl (fun E k z => by cases z.1) (fun v k z => ?_)
      obtain ⟨z1, rfl⟩ := z
      cases z1
      obtain ⟨q1, hq1, z2⟩ := sm_in _ (n := 10) (by decide) (by decide)
      refine j_top z2 ?_
      clear z2
      refine c_call x (PO_team (Y := Y) I hz.2.1 hz.1 (show j0 < 8 by omega) (u := nI q1) ⟨nI_pos (by omega), nI_nlt (a := 9) (b := q1) (by omega) (by decide)⟩) dL_makes_47 m_L_team (by decide) wmL_168 rfl (Nat.le_of_ble_eq_true rfl) (fun mc ms z1 z2 => j_fit_rm (by omega) (by omega) (by omega)) rfl (fun v A B1 I1 hc1 => ?_)
      obtain ⟨rfl, hO⟩ := hc1
      refine j_iload_n x dL_makes_50 rfl ?_
      refine j_icmp_eq (tgt := 56) x dL_makes_51 (by decide) (fun hc => ?_) (fun hc => absurd (rfl) hc)
      refine j_iinc x dL_makes_56 rfl (by decide) rfl ?_
      refine j_goto (tgt := 15) x dL_makes_59 (by decide) ?_
      exact kk0 _ _ _ _ _ I1 (mk_team (nI_m1001 (by omega)) hz hO) (wk_c rfl (wk_c rfl (wk_c rfl (wk_c (congrArg (fun z => some (Value.int z)) (nI_1 _)) (wk_n (wk_n (wk_n wk_0))))))) (by omega) (by omega)
    · refine j_iconst (v := 3) x dL_makes_38 (by decide) ?_
      refine j_goto (tgt := 44) x dL_makes_39 (by decide) ?_
      refine j_callS x dL_makes_44 (c_some (d := 0) (by decide)) m_L_some wmL_165 rfl (Nat.le_of_ble_eq_true rfl) (j_fit_rm (by omega) (by omega) (by omega)) rfl (fun E k z => by cases z.1) (fun v k z => ?_)
      obtain ⟨z1, rfl⟩ := z
      cases z1
      obtain ⟨q1, hq1, z2⟩ := sm_in _ (n := 3) (by decide) (by decide)
      refine j_top z2 ?_
      clear z2
      refine c_call x (PO_team (Y := Y) I hz.2.1 hz.1 (show j0 < 8 by omega) (u := nI q1) ⟨nI_pos (by omega), nI_nlt (a := 9) (b := q1) (by omega) (by decide)⟩) dL_makes_47 m_L_team (by decide) wmL_168 rfl (Nat.le_of_ble_eq_true rfl) (fun mc ms z1 z2 => j_fit_rm (by omega) (by omega) (by omega)) rfl (fun v A B2 I2 hc2 => ?_)
      obtain ⟨rfl, hO⟩ := hc2
      refine j_iload_n x dL_makes_50 rfl ?_
      refine j_icmp_eq (tgt := 56) x dL_makes_51 (by decide) (fun hc => ?_) (fun hc => absurd (rfl) hc)
      refine j_iinc x dL_makes_56 rfl (by decide) rfl ?_
      refine j_goto (tgt := 15) x dL_makes_59 (by decide) ?_
      exact kk0 _ _ _ _ _ I2 (mk_team (nI_m1001 (by omega)) hz hO) (wk_c rfl (wk_c rfl (wk_c rfl (wk_c (congrArg (fun z => some (Value.int z)) (nI_1 _)) (wk_n (wk_n (wk_n wk_0))))))) (by omega) (by omega)
  · refine j_iload_n x dL_makes_15 rfl ?_
    refine j_iload_n x dL_makes_16 rfl ?_
    refine j_icmp_ge (tgt := 62) x dL_makes_17 (by decide) (fun _ => ?_) (fun hc => absurd (nI_le (Nat.le_refl _) (by omega)) hc)
    refine j_aload_n x dL_makes_62 rfl ?_
    refine c_call x (PO_draw (Y := Y) I hz.2.1 hz.1 (by omega) (by omega)) dL_makes_63 m_L_draw (by decide) wmL_170 rfl (Nat.le_of_ble_eq_true rfl) (fun mc ms z1 z2 => j_fit_rm (by omega) (by omega) (by omega)) rfl (fun v A B3 I3 hc3 => ?_)
    obtain ⟨rfl, hO⟩ := hc3
    have hw3 := mk_draw I hz (by omega) (by omega) hO
    have D3 := hw3.1
    refine j_iconst (v := 2) x dL_makes_66 (by decide) ?_
    refine j_iload_n x dL_makes_67 rfl ?_
    refine j_iload_n x dL_makes_68 rfl ?_
    refine j_iconst (v := 2) x dL_makes_69 (by decide) ?_
    refine j_irem x dL_makes_70 (by decide) ?_
    refine j_iadd x dL_makes_71 ?_
    refine j_iconst (v := 1) x dL_makes_72 (by decide) ?_
    refine j_isub x dL_makes_73 ?_
    refine j_imul x dL_makes_74 ?_
    refine j_icmp_eq (tgt := 80) x dL_makes_75 (by decide) (fun hc => ?_) (fun hc => absurd ((mk_weeks (2 + q0) (by omega) (by omega)).symm) hc)
    refine j_aload_nR x dL_makes_80 rfl ?_
    refine j_bipush (v := 9) x dL_makes_81 (by decide) ?_
    refine j_callSS x hS dL_makes_83 (c_atS (d := 0) (j := 9) hN (by omega)) m_L_at wmL_161 rfl (Nat.le_of_ble_eq_true rfl) (j_fit_rm (by omega) (by omega) (by omega)) rfl (fun E k z => by cases z.1) (fun v k z => ?_)
    obtain ⟨z1, rfl⟩ := z
    cases z1
    refine j_aload_n x dL_makes_86 rfl ?_
    refine j_iconst (v := 2) x dL_makes_87 (by decide) ?_
    refine q_call x I3 (Q_n2 (Y := Y) I3 D3) dL_makes_88 m_L_account (by decide) wmL_172 rfl (Nat.le_of_ble_eq_true rfl) (fun mc ms z1 z2 => j_fit_rm (by omega) (by omega) (by omega)) rfl (fun A I3 => ?_)
    have hz14 := (I3.h9 D3).2.2.2
    refine j_callS x dL_makes_91 (c_some (d := 0) (nI_ne0 (by omega) (by omega))) m_L_some wmL_165 rfl (Nat.le_of_ble_eq_true rfl) (j_fit_rm (by omega) (by omega) (by omega)) rfl (fun E k z => by cases z.1) (fun v k z => ?_)
    obtain ⟨z1, rfl⟩ := z
    cases z1
    obtain ⟨q2, hq2, z2⟩ := sm_in _ (n := (zz (2 + q0) true)) (by omega) (by omega)
    refine j_top z2 ?_
    clear z2
    refine j_istore_n x dL_makes_94 (by decide) rfl ?_
    refine j_iconst (v := 0) x dL_makes_95 (by decide) ?_
    refine j_istore x dL_makes_96 (by decide) rfl ?_
    refine c_loop (q2) (fun j => [some (.ref 0), some (.retAddr a), some (.int (nI (2 + q0))), some (.int (nI q2)), some (.int (nI j)), none, none]) (fun j B => ZW (2 + q0) j B) ((0 + 0) + ((2 + q0)) * 1 + 2) ((0 + 0) + ((2 + q0)) * 6 + 12) 283 1698 I3 (hw3) (wk_c rfl (wk_c rfl (wk_c rfl (wk_c rfl (wk_c rfl (wk_n (wk_n wk_0))))))) (by omega) (by omega) (fun j0 hj0 A B I hz kk0 => ?_) (fun A B I hz => ?_)
    · refine j_iload x dL_makes_98 rfl ?_
      refine j_iload_n x dL_makes_100 rfl ?_
      refine j_icmp_ge (tgt := 259) x dL_makes_101 (by decide) (fun hc => absurd hc (nI_ge hj0 (by omega))) (fun _ => ?_)
      refine j_iconst (v := 0) x dL_makes_104 (by decide) ?_
      refine j_istore x dL_makes_105 (by decide) rfl ?_
      refine c_loop ((nn (2 + q0) true)) (fun j => [some (.ref 0), some (.retAddr a), some (.int (nI (2 + q0))), some (.int (nI q2)), some (.int (nI j0)), some (.int (nI j)), none]) (fun j B => ZM (2 + q0) j0 j B) (((0 + 0) + ((2 + q0)) * 1 + 2) + j0 * 283 + 0) (((0 + 0) + ((2 + q0)) * 6 + 12) + j0 * 1698 + 0) 5 30 I (ZM_0 hz) (wk_c rfl (wk_c rfl (wk_c rfl (wk_c rfl (wk_c rfl (wk_c rfl (wk_n wk_0))))))) (by omega) (by omega) (fun j1 hj1 A B I hz kk1 => ?_) (fun A B I hz => ?_)
      · have D := hz.1.1
        have n56 := (I.h9 D).2.1
        refine j_iload x dL_makes_107 rfl ?_
        refine j_aload_n x dL_makes_109 rfl ?_
        refine j_iconst (v := 4) x dL_makes_110 (by decide) ?_
        refine q_call x I (Q_n4 (Y := Y) I D) dL_makes_111 m_L_account (by decide) wmL_172 rfl (Nat.le_of_ble_eq_true rfl) (fun mc ms z1 z2 => j_fit_rm (by omega) (by omega) (by omega)) rfl (fun A I => ?_)
        refine j_icmp_ge (tgt := 228) x dL_makes_114 (by decide) (fun hc => absurd hc (nI_ge hj1 (by omega))) (fun _ => ?_)
        refine j_aload_n x dL_makes_117 rfl ?_
        refine j_iload x dL_makes_118 rfl ?_
        refine j_iconst (v := 0) x dL_makes_120 (by decide) ?_
        refine q_call x I (Q_me (k := 0) (Y := Y) I.hb (I.L D) (I.F D) hj1 (by decide)) dL_makes_121 m_L_meetingOf (by decide) wmL_174 rfl (Nat.le_of_ble_eq_true rfl) (fun mc ms z1 z2 => j_fit_rm (by omega) (by omega) (by omega)) rfl (fun A I => ?_)
        refine j_top (w := jof B j1 2) (jof_cn (by omega) (by decide)) ?_
        refine j_iload x dL_makes_124 rfl ?_
        refine j_icmp_ne (tgt := 222) x dL_makes_126 (by decide) (fun hw2 => ?_) (fun hw2 => ?_)
        · refine j_iinc x dL_makes_222 rfl (by decide) rfl ?_
          refine j_goto (tgt := 107) x dL_makes_225 (by decide) ?_
          exact kk1 _ _ _ _ _ I (mk_skip hz fun z => absurd z hw2) (wk_c rfl (wk_c rfl (wk_c rfl (wk_c rfl (wk_c rfl (wk_c (congrArg (fun z => some (Value.int z)) (nI_1 _)) (wk_n wk_0))))))) (by omega) (by omega)
        · refine j_aload_n x dL_makes_129 rfl ?_
          refine j_iload x dL_makes_130 rfl ?_
          refine j_iconst (v := 3) x dL_makes_132 (by decide) ?_
          refine q_call x I (Q_me (k := 3) (Y := Y) I.hb (I.L D) (I.F D) hj1 (by decide)) dL_makes_133 m_L_meetingOf (by decide) wmL_174 rfl (Nat.le_of_ble_eq_true rfl) (fun mc ms z1 z2 => j_fit_rm (by omega) (by omega) (by omega)) rfl (fun A I => ?_)
          refine j_top (w := jhow B j1) (jhow_cn (by omega)) ?_
          refine j_iconst (v := 1) x dL_makes_136 (by decide) ?_
          refine j_icmp_ne (tgt := 143) x dL_makes_137 (by decide) (fun hp => ?_) (fun hp => ?_)
          · have hp4 : ¬ jof B j1 4 = 1 := fun z => hp ((jhow_1 (I.dr D).1 hj1).mpr z)
            refine j_aload_nR x dL_makes_143 rfl ?_
            refine j_bipush (v := 10) x dL_makes_144 (by decide) ?_
            refine j_iload x dL_makes_146 rfl ?_
            refine j_bipush (v := 20) x dL_makes_148 (by decide) ?_
            refine j_irem x dL_makes_150 (by decide) ?_
            refine j_top (show nI j1 - nI j1 / 20 * 20 = nI (j1 % 20) from nI_rem (d := 20) (by omega) (by decide) (by decide)) ?_
            refine j_iadd x dL_makes_151 ?_
            refine j_top (show (10 : Int32) + nI (j1 % 20) = nI (10 + j1 % 20) from nI_add 10 _) ?_
            refine j_callSS x hS dL_makes_152 (c_atS (d := 0) (j := (10 + j1 % 20)) hN (by omega)) m_L_at wmL_161 rfl (Nat.le_of_ble_eq_true rfl) (j_fit_rm (by omega) (by omega) (by omega)) rfl (fun E k z => by cases z.1) (fun v k z => ?_)
            obtain ⟨z1, rfl⟩ := z
            cases z1
            refine j_iload x dL_makes_155 rfl ?_
            refine j_sipush (v := 7919) x dL_makes_157 (by decide) ?_
            refine j_imul x dL_makes_160 ?_
            refine j_ixor x dL_makes_161 ?_
            refine j_istore x dL_makes_162 (by decide) rfl ?_
            refine j_iload x dL_makes_164 rfl ?_
            refine j_bipush (v := 15) x dL_makes_166 (by decide) ?_
            refine j_iand x dL_makes_168 ?_
            refine j_if_ne (tgt := 194) x dL_makes_169 (by decide) (fun hb15 => ?_) (fun hb15 => ?_)
            · refine j_aload_n x dL_makes_194 rfl ?_
              refine j_iload x dL_makes_195 rfl ?_
              refine j_iload x dL_makes_197 rfl ?_
              refine j_iconst (v := 5) x dL_makes_199 (by decide) ?_
              refine j_ishr x dL_makes_200 ?_
              refine j_iconst (v := 4) x dL_makes_201 (by decide) ?_
              refine j_callS x dL_makes_202 (c_some (d := 0) (by decide)) m_L_some wmL_165 rfl (Nat.le_of_ble_eq_true rfl) (j_fit_rm (by omega) (by omega) (by omega)) rfl (fun E k z => by cases z.1) (fun v k z => ?_)
              obtain ⟨z1, rfl⟩ := z
              cases z1
              obtain ⟨g1, hg1, z2⟩ := sm_in _ (n := 4) (by decide) (by decide)
              refine j_top z2 ?_
              clear z2
              refine j_iload x dL_makes_205 rfl ?_
              refine j_bipush (v := 8) x dL_makes_207 (by decide) ?_
              refine j_ishr x dL_makes_209 ?_
              refine j_iconst (v := 4) x dL_makes_210 (by decide) ?_
              refine j_callS x dL_makes_211 (c_some (d := 0) (by decide)) m_L_some wmL_165 rfl (Nat.le_of_ble_eq_true rfl) (j_fit_rm (by omega) (by omega) (by omega)) rfl (fun E k z => by cases z.1) (fun v k z => ?_)
              obtain ⟨z1, rfl⟩ := z
              cases z1
              obtain ⟨g2, hg2, z2⟩ := sm_in _ (n := 4) (by decide) (by decide)
              refine j_top z2 ?_
              clear z2
              refine c_call x (PO_result (Y := Y) I D.2.2 (I.h9 D).1 (I.h9 D).2.1 hj1 (mk_gres hz hw2 hp4 hg1 hg2)) dL_makes_214 m_L_result (by decide) wmL_179 rfl (Nat.le_of_ble_eq_true rfl) (fun mc ms z1 z2 => j_fit_rm (by omega) (by omega) (by omega)) rfl (fun v A B4 I4 hc4 => ?_)
              obtain ⟨rfl, hO⟩ := hc4
              obtain ⟨k5, hk5, e5⟩ := jsum_01 (f := gLeft (gResS B j1 (nI g1) (nI g2))) (fun i => jb_01) (nn (2 + q0) true)
              refine j_top e5 ?_
              clear e5
              refine j_if_ge (tgt := 222) x dL_makes_217 (by decide) (fun hc => ?_) (fun hc => absurd (nI_pos' (by omega)) hc)
              refine j_iinc x dL_makes_222 rfl (by decide) rfl ?_
              refine j_goto (tgt := 107) x dL_makes_225 (by decide) ?_
              exact kk1 _ _ _ _ _ I4 (mk_res hz hO) (wk_c rfl (wk_c rfl (wk_c rfl (wk_c rfl (wk_c rfl (wk_c (congrArg (fun z => some (Value.int z)) (nI_1 _)) (wk_n wk_0))))))) (by omega) (by omega)
            · refine j_aload_n x dL_makes_172 rfl ?_
              refine j_iload x dL_makes_173 rfl ?_
              refine j_iconst (v := 1) x dL_makes_175 (by decide) ?_
              refine j_iload x dL_makes_176 rfl ?_
              refine j_iconst (v := 4) x dL_makes_178 (by decide) ?_
              refine j_ishr x dL_makes_179 ?_
              refine j_iconst (v := 3) x dL_makes_180 (by decide) ?_
              refine j_callS x dL_makes_181 (c_some (d := 0) (by decide)) m_L_some wmL_165 rfl (Nat.le_of_ble_eq_true rfl) (j_fit_rm (by omega) (by omega) (by omega)) rfl (fun E k z => by cases z.1) (fun v k z => ?_)
              obtain ⟨z1, rfl⟩ := z
              cases z1
              obtain ⟨e1, he1, z2⟩ := sm_in _ (n := 3) (by decide) (by decide)
              refine j_top z2 ?_
              clear z2
              refine j_iadd x dL_makes_184 ?_
              refine j_top (show (1 : Int32) + nI e1 = nI (1 + e1) from nI_add 1 e1) ?_
              cases hr : gPut B j1 (nI (1 + e1)) with
              | some rz =>
                obtain ⟨r, z⟩ := rz
                refine c_call x (PR_putOff (Y := Y) I ((rPut_in I D hj1).trans hr)) dL_makes_185 m_L_putOff (by decide) wmL_177 rfl (Nat.le_of_ble_eq_true rfl) (fun mc ms z1 z2 => j_fit_rm (by omega) (by omega) (by omega)) rfl (fun v A B5 I5 hc5 => ?_)
                obtain ⟨rfl, hR⟩ := hc5
                have hy5 := mk_same hz (by omega) hR.1 hR.2.2.2.2.1
                have D5 := hy5.1.1
                have hw5 := (hR.1.1 (18 + 8 * j1 + 2) (by omega)).trans hw2
                have hp5 : ¬ jof B5 j1 4 = 1 := by rw [show jof B5 j1 4 = _ from hR.1.1 (18 + 8 * j1 + 4) (by omega)]; exact hp4
                refine j_if_lt (tgt := 194) x dL_makes_188 (by decide) (fun hc => ?_) (fun hc => absurd (by decide) hc)
                refine j_aload_n x dL_makes_194 rfl ?_
                refine j_iload x dL_makes_195 rfl ?_
                refine j_iload x dL_makes_197 rfl ?_
                refine j_iconst (v := 5) x dL_makes_199 (by decide) ?_
                refine j_ishr x dL_makes_200 ?_
                refine j_iconst (v := 4) x dL_makes_201 (by decide) ?_
                refine j_callS x dL_makes_202 (c_some (d := 0) (by decide)) m_L_some wmL_165 rfl (Nat.le_of_ble_eq_true rfl) (j_fit_rm (by omega) (by omega) (by omega)) rfl (fun E k z => by cases z.1) (fun v k z => ?_)
                obtain ⟨z1, rfl⟩ := z
                cases z1
                obtain ⟨g1, hg1, z2⟩ := sm_in _ (n := 4) (by decide) (by decide)
                refine j_top z2 ?_
                clear z2
                refine j_iload x dL_makes_205 rfl ?_
                refine j_bipush (v := 8) x dL_makes_207 (by decide) ?_
                refine j_ishr x dL_makes_209 ?_
                refine j_iconst (v := 4) x dL_makes_210 (by decide) ?_
                refine j_callS x dL_makes_211 (c_some (d := 0) (by decide)) m_L_some wmL_165 rfl (Nat.le_of_ble_eq_true rfl) (j_fit_rm (by omega) (by omega) (by omega)) rfl (fun E k z => by cases z.1) (fun v k z => ?_)
                obtain ⟨z1, rfl⟩ := z
                cases z1
                obtain ⟨g2, hg2, z2⟩ := sm_in _ (n := 4) (by decide) (by decide)
                refine j_top z2 ?_
                clear z2
                refine c_call x (PO_result (Y := Y) I5 D5.2.2 (I5.h9 D5).1 (I5.h9 D5).2.1 hj1 (mk_gres hy5 hw5 hp5 hg1 hg2)) dL_makes_214 m_L_result (by decide) wmL_179 rfl (Nat.le_of_ble_eq_true rfl) (fun mc ms z1 z2 => j_fit_rm (by omega) (by omega) (by omega)) rfl (fun v A B6 I6 hc6 => ?_)
                obtain ⟨rfl, hO⟩ := hc6
                obtain ⟨k5, hk5, e5⟩ := jsum_01 (f := gLeft (gResS B5 j1 (nI g1) (nI g2))) (fun i => jb_01) (nn (2 + q0) true)
                refine j_top e5 ?_
                clear e5
                refine j_if_ge (tgt := 222) x dL_makes_217 (by decide) (fun hc => ?_) (fun hc => absurd (nI_pos' (by omega)) hc)
                refine j_iinc x dL_makes_222 rfl (by decide) rfl ?_
                refine j_goto (tgt := 107) x dL_makes_225 (by decide) ?_
                exact kk1 _ _ _ _ _ I6 (mk_res hy5 hO) (wk_c rfl (wk_c rfl (wk_c rfl (wk_c rfl (wk_c rfl (wk_c (congrArg (fun z => some (Value.int z)) (nI_1 _)) (wk_n wk_0))))))) (by omega) (by omega)
              | none =>
                refine c_call x (PO_putOff (Y := Y) I D.2.2 (I.h9 D).1 (I.h9 D).2.1 hj1 hr) dL_makes_185 m_L_putOff (by decide) wmL_177 rfl (Nat.le_of_ble_eq_true rfl) (fun mc ms z1 z2 => j_fit_rm (by omega) (by omega) (by omega)) rfl (fun v A B7 I7 hc7 => ?_)
                obtain ⟨rfl, hO⟩ := hc7
                obtain ⟨k5, hk5, e5⟩ := jsum_01 (f := gCl (gPutS B j1 (nI (1 + e1))) j1 (B 95 2 + nI (1 + e1))) (fun i => jb_01) (nn (2 + q0) true)
                refine j_top e5 ?_
                clear e5
                refine j_if_lt (tgt := 194) x dL_makes_188 (by decide) (fun hc => absurd hc (nI_pos (by omega))) (fun hc => ?_)
                refine j_goto (tgt := 222) x dL_makes_191 (by decide) ?_
                refine j_iinc x dL_makes_222 rfl (by decide) rfl ?_
                refine j_goto (tgt := 107) x dL_makes_225 (by decide) ?_
                exact kk1 _ _ _ _ _ I7 (mk_put hz (by omega) (by omega) (by omega) hO) (wk_c rfl (wk_c rfl (wk_c rfl (wk_c rfl (wk_c rfl (wk_c (congrArg (fun z => some (Value.int z)) (nI_1 _)) (wk_n wk_0))))))) (by omega) (by omega)
          · refine j_goto (tgt := 222) x dL_makes_140 (by decide) ?_
            refine j_iinc x dL_makes_222 rfl (by decide) rfl ?_
            refine j_goto (tgt := 107) x dL_makes_225 (by decide) ?_
            exact kk1 _ _ _ _ _ I (mk_skip hz fun _ => (jhow_1 (I.dr D).1 hj1).mp hp) (wk_c rfl (wk_c rfl (wk_c rfl (wk_c rfl (wk_c rfl (wk_c (congrArg (fun z => some (Value.int z)) (nI_1 _)) (wk_n wk_0))))))) (by omega) (by omega)
      · have D := hz.1.1
        have n56 := (I.h9 D).2.1
        refine j_iload x dL_makes_107 rfl ?_
        refine j_aload_n x dL_makes_109 rfl ?_
        refine j_iconst (v := 4) x dL_makes_110 (by decide) ?_
        refine q_call x I (Q_n4 (Y := Y) I D) dL_makes_111 m_L_account (by decide) wmL_172 rfl (Nat.le_of_ble_eq_true rfl) (fun mc ms z1 z2 => j_fit_rm (by omega) (by omega) (by omega)) rfl (fun A I => ?_)
        refine j_icmp_ge (tgt := 228) x dL_makes_114 (by decide) (fun _ => ?_) (fun hc => absurd (nI_le (Nat.le_refl _) (by omega)) hc)
        refine j_iload x dL_makes_228 rfl ?_
        refine j_iconst (v := 1) x dL_makes_230 (by decide) ?_
        refine j_iadd x dL_makes_231 ?_
        refine j_aload_n x dL_makes_232 rfl ?_
        refine j_iconst (v := 2) x dL_makes_233 (by decide) ?_
        refine q_call x I (Q_n2 (Y := Y) I D) dL_makes_234 m_L_account (by decide) wmL_172 rfl (Nat.le_of_ble_eq_true rfl) (fun mc ms z1 z2 => j_fit_rm (by omega) (by omega) (by omega)) rfl (fun A I => ?_)
        refine j_icmp_ge (tgt := 253) x dL_makes_237 (by decide) (fun hc => absurd hc (by rw [show nI j0 + 1 = nI (j0 + 1) from nI_1 j0]; exact nI_ge (by omega) (by omega))) (fun _ => ?_)
        refine j_aload_n x dL_makes_240 rfl ?_
        refine c_call x (PO_next (Y := Y) I D.2.2 (I.h9 D).1 (I.h9 D).2.1 (mk_gnext hz (I.h9 D).2.2.1 (I.h9 D).2.2.2.2 (by omega))) dL_makes_241 m_L_next (by decide) wmL_182 rfl (Nat.le_of_ble_eq_true rfl) (fun mc ms z1 z2 => j_fit_rm (by omega) (by omega) (by omega)) rfl (fun v A B8 I8 hc8 => ?_)
        obtain ⟨rfl, hO⟩ := hc8
        refine j_iload x dL_makes_244 rfl ?_
        refine j_iconst (v := 1) x dL_makes_246 (by decide) ?_
        refine j_iadd x dL_makes_247 ?_
        refine j_icmp_eq (tgt := 253) x dL_makes_248 (by decide) (fun hc => ?_) (fun hc => absurd (by rw [hz.1.2.2.1]) hc)
        refine j_iinc x dL_makes_253 rfl (by decide) rfl ?_
        refine j_goto (tgt := 98) x dL_makes_256 (by decide) ?_
        exact kk0 _ _ _ _ _ I8 (mk_next hz hO) (wk_c rfl (wk_c rfl (wk_c rfl (wk_c rfl (wk_c (congrArg (fun z => some (Value.int z)) (nI_1 _)) (wk_n (wk_n wk_0))))))) (by omega) (by omega)
    · refine j_iload x dL_makes_98 rfl ?_
      refine j_iload_n x dL_makes_100 rfl ?_
      refine j_icmp_ge (tgt := 259) x dL_makes_101 (by decide) (fun _ => ?_) (fun hc => absurd (nI_le (Nat.le_refl _) (by omega)) hc)
      refine j_iconst (v := 1) x dL_makes_259 (by decide) ?_
      exact j_zreturn x hr dL_makes_260 (by first | decide | with_reducible exact jb_nar | with_reducible exact jisS_nar | with_reducible exact gno_nar) (by omega) (by omega) ⟨_, _, (2 + q0), rfl, rfl, I, hz.1, hz.2.1, hz.2.2.2.1, hz.2.2.2.2.1, hz.2.2.2.2.2⟩
