/-! ===== the law's questions, walked ===== -/
set_option maxHeartbeats 20000000 in
theorem c_asks {d : Nat} {b : SBt} {Y : OUt} {A B : MM} (I : InvP b A B) {t : Nat} (D : Dr B t) : Con (d + 21) 1050 28300 yL_asks cL_asks 6 (some .long) [.ref 0] (HH b Y A) (fun o k => ∃ b1 A1, o = .inl (some (.long (VA (cn B) t))) ∧ k = HH b1 Y A1 ∧ InvP b1 A1 B) := by
  have ht : t ≤ 8 := D.2.1
  have hn := nn_le (dr := true) ht
  have hz := zz_le (dr := true) ht
  refine Con.of (by decide +kernel) (Nat.le_of_ble_eq_true rfl) rfl fun p l e s m args below meth c D0 tyc A0 ad0 x hr htab hname => ?_
  change JJ _ _ _ _ _ _ _ _ _ _ _ _ _ _ _ _ _ 0 [some (.ref 0), none, none, none, none, none] [] _ 0 0
  refine j_ldc2 x dL_asks_0 wlL_184 ?_
  refine j_aload_n x dL_asks_3 rfl ?_
  refine q_call x I (Q_homeShare (Y := Y) I.hb (I.L D) (I.F D)) dL_asks_4 m_L_homeShare (by decide) wmL_186 rfl (Nat.le_of_ble_eq_true rfl) (fun mc ms z1 z2 => j_fit_rm (by omega) (by omega) (by omega)) rfl (fun A I => ?_)
  refine j_callS x dL_asks_7 (c_dlbJ (d := 0)) m_Jxe99ae_doubleToLongBits_ccdee wmL_189 rfl (Nat.le_of_ble_eq_true rfl) (j_fit_rm (by omega) (by omega) (by omega)) rfl (fun E k z => by cases z.1) (fun v k z => ?_)
  obtain ⟨z1, rfl⟩ := z
  cases z1
  refine j_lmul x dL_asks_10 ?_
  refine j_aload_n x dL_asks_11 rfl ?_
  refine q_call x I (Q_meanGoals (Y := Y) I.hb (I.L D) (I.F D)) dL_asks_12 m_L_meanGoals (by decide) wmL_195 rfl (Nat.le_of_ble_eq_true rfl) (fun mc ms z1 z2 => j_fit_rm (by omega) (by omega) (by omega)) rfl (fun A I => ?_)
  refine j_callS x dL_asks_15 (c_flbJ (d := 0)) m_Jxf58ca_floatToIntBits_5c35a wmL_198 rfl (Nat.le_of_ble_eq_true rfl) (j_fit_rm (by omega) (by omega) (by omega)) rfl (fun E k z => by cases z.1) (fun v k z => ?_)
  obtain ⟨z1, rfl⟩ := z
  cases z1
  refine j_i2l x dL_asks_18 ?_
  refine j_ladd x dL_asks_19 ?_
  refine j_lstore_n x dL_asks_20 (by decide) rfl ?_
  refine j_iconst (v := 0) x dL_asks_21 (by decide) ?_
  refine j_istore_n x dL_asks_22 (by decide) rfl ?_
  refine q_loop (13) (fun j => [some (.ref 0), some (.long (fo (vAc (cn B) t) (vS0 (cn B) t) j)), none, some (.int (nI j)), none, none]) (0 + 2) (0 + 12) 1 6 I (wk_c rfl (wk_c (w_fo0 (f := (vAc (cn B) t)) (s := vS0 (cn B) t)) (wk_n (wk_c rfl (wk_n (wk_n wk_0)))))) (by omega) (by omega) (fun j0 hj0 b A I kk0 => ?_) (fun b A I => ?_)
  · refine j_iload_n x dL_asks_23 rfl ?_
    refine j_bipush (v := 13) x dL_asks_24 (by decide) ?_
    refine j_icmp_ge (tgt := 48) x dL_asks_26 (by decide) (fun hc => absurd hc ((nI_ge hj0 (by decide) : ¬ nI 13 ≤ nI j0))) (fun _ => ?_)
    refine j_ldc2 x dL_asks_29 wlL_184 ?_
    refine j_lload_n x dL_asks_32 rfl ?_
    refine j_lmul x dL_asks_33 ?_
    refine j_aload_n x dL_asks_34 rfl ?_
    refine j_iload_n x dL_asks_35 rfl ?_
    refine q_call x I (Q_ac (Y := Y) I.hb (I.L D) (I.F D) hj0) dL_asks_36 m_L_account (by decide) wmL_172 rfl (Nat.le_of_ble_eq_true rfl) (fun mc ms z1 z2 => j_fit_rm (by omega) (by omega) (by omega)) rfl (fun A I => ?_)
    refine j_i2l x dL_asks_39 ?_
    refine j_ladd x dL_asks_40 ?_
    refine j_lstore_n x dL_asks_41 (by decide) rfl ?_
    refine j_iinc x dL_asks_42 rfl (by decide) rfl ?_
    refine j_goto (tgt := 23) x dL_asks_45 (by decide) ?_
    exact kk0 _ _ _ _ _ I (wk_c rfl (wk_c (w_fo1 (vAc (cn B) t)) (wk_n (wk_c (congrArg (fun z => some (Value.int z)) (nI_1 _)) (wk_n (wk_n wk_0)))))) (by omega) (by omega)
  · refine j_iload_n x dL_asks_23 rfl ?_
    refine j_bipush (v := 13) x dL_asks_24 (by decide) ?_
    refine j_icmp_ge (tgt := 48) x dL_asks_26 (by decide) (fun _ => ?_) (fun hc => absurd ((nI_le (Nat.le_refl 13) (by decide) : nI 13 ≤ nI 13)) hc)
    refine j_iconst (v := 0) x dL_asks_48 (by decide) ?_
    refine j_istore_n x dL_asks_49 (by decide) rfl ?_
    refine q_loop (t) (fun j => [some (.ref 0), some (.long ((fL (vTe (cn B) t) (fo (vAc (cn B) t) (vS0 (cn B) t) 13) j))), none, some (.int (nI j)), none, none]) ((0 + 2) + (13) * 1 + 0) ((0 + 12) + (13) * 6 + 0) 37 2966 I (wk_c rfl (wk_c (w_fL0 (vTe (cn B) t)) (wk_n (wk_c rfl (wk_n (wk_n wk_0)))))) (by omega) (by omega) (fun j0 hj0 b A I kk0 => ?_) (fun b A I => ?_)
    · refine j_iload_n x dL_asks_50 rfl ?_
      refine j_aload_n x dL_asks_51 rfl ?_
      refine j_iconst (v := 0) x dL_asks_52 (by decide) ?_
      refine q_call x I (Q_n0 (Y := Y) I D) dL_asks_53 m_L_account (by decide) wmL_172 rfl (Nat.le_of_ble_eq_true rfl) (fun mc ms z1 z2 => j_fit_rm (by omega) (by omega) (by omega)) rfl (fun A I => ?_)
      refine j_icmp_ge (tgt := 255) x dL_asks_56 (by decide) (fun hc => absurd hc (nI_ge hj0 (by omega))) (fun _ => ?_)
      refine j_iconst (v := 0) x dL_asks_59 (by decide) ?_
      refine j_istore x dL_asks_60 (by decide) rfl ?_
      refine q_loop (9) (fun j => [some (.ref 0), some (.long (fo (vTm (cn B) t j0) (fL (vTe (cn B) t) (fo (vAc (cn B) t) (vS0 (cn B) t) 13) j0) j)), none, some (.int (nI j0)), some (.int (nI j)), none]) (((0 + 2) + (13) * 1 + 0) + j0 * 37 + 1) (((0 + 12) + (13) * 6 + 0) + j0 * 2966 + 6) 1 6 I (wk_c rfl (wk_c (w_fo0 (f := (vTm (cn B) t j0))) (wk_n (wk_c rfl (wk_c rfl (wk_n wk_0)))))) (by omega) (by omega) (fun j1 hj1 b A I kk1 => ?_) (fun b A I => ?_)
      · refine j_iload x dL_asks_62 rfl ?_
        refine j_bipush (v := 9) x dL_asks_64 (by decide) ?_
        refine j_icmp_ge (tgt := 90) x dL_asks_66 (by decide) (fun hc => absurd hc ((nI_ge hj1 (by decide) : ¬ nI 9 ≤ nI j1))) (fun _ => ?_)
        refine j_ldc2 x dL_asks_69 wlL_184 ?_
        refine j_lload_n x dL_asks_72 rfl ?_
        refine j_lmul x dL_asks_73 ?_
        refine j_aload_n x dL_asks_74 rfl ?_
        refine j_iload_n x dL_asks_75 rfl ?_
        refine j_iload x dL_asks_76 rfl ?_
        refine q_call x I (Q_te (Y := Y) I.hb (I.L D) (I.F D) hj0 hj1) dL_asks_78 m_L_teamOf (by decide) wmL_204 rfl (Nat.le_of_ble_eq_true rfl) (fun mc ms z1 z2 => j_fit_rm (by omega) (by omega) (by omega)) rfl (fun A I => ?_)
        refine j_i2l x dL_asks_81 ?_
        refine j_ladd x dL_asks_82 ?_
        refine j_lstore_n x dL_asks_83 (by decide) rfl ?_
        refine j_iinc x dL_asks_84 rfl (by decide) rfl ?_
        refine j_goto (tgt := 62) x dL_asks_87 (by decide) ?_
        exact kk1 _ _ _ _ _ I (wk_c rfl (wk_c (w_fo1 (vTm (cn B) t j0)) (wk_n (wk_c rfl (wk_c (congrArg (fun z => some (Value.int z)) (nI_1 _)) (wk_n wk_0)))))) (by omega) (by omega)
      · refine j_iload x dL_asks_62 rfl ?_
        refine j_bipush (v := 9) x dL_asks_64 (by decide) ?_
        refine j_icmp_ge (tgt := 90) x dL_asks_66 (by decide) (fun _ => ?_) (fun hc => absurd ((nI_le (Nat.le_refl 9) (by decide) : nI 9 ≤ nI 9)) hc)
        refine j_iconst (v := 0) x dL_asks_90 (by decide) ?_
        refine j_istore x dL_asks_91 (by decide) rfl ?_
        refine q_loop (5) (fun j => [some (.ref 0), some (.long (fo (fun r => gRule (cn B) (nn t true) t (nI j0) (nI r)) (fo (vTm (cn B) t j0) (fL (vTe (cn B) t) (fo (vAc (cn B) t) (vS0 (cn B) t) 13) j0) 9) j)), none, some (.int (nI j0)), some (.int (nI j)), none]) ((((0 + 2) + (13) * 1 + 0) + j0 * 37 + 1) + (9) * 1 + 0) ((((0 + 12) + (13) * 6 + 0) + j0 * 2966 + 6) + (9) * 6 + 0) 1 6 I (wk_c rfl (wk_c (w_fo0 (f := (fun r => gRule (cn B) (nn t true) t (nI j0) (nI r)))) (wk_n (wk_c rfl (wk_c rfl (wk_n wk_0)))))) (by omega) (by omega) (fun j1 hj1 b A I kk1 => ?_) (fun b A I => ?_)
        · refine j_iload x dL_asks_93 rfl ?_
          refine j_iconst (v := 5) x dL_asks_95 (by decide) ?_
          refine j_icmp_ge (tgt := 120) x dL_asks_96 (by decide) (fun hc => absurd hc ((nI_ge hj1 (by decide) : ¬ nI 5 ≤ nI j1))) (fun _ => ?_)
          refine j_ldc2 x dL_asks_99 wlL_184 ?_
          refine j_lload_n x dL_asks_102 rfl ?_
          refine j_lmul x dL_asks_103 ?_
          refine j_aload_n x dL_asks_104 rfl ?_
          refine j_iload_n x dL_asks_105 rfl ?_
          refine j_iload x dL_asks_106 rfl ?_
          refine q_call x I (Q_valueOf (Y := Y) I.hb (I.L D) (I.F D) hj0 (r04_n hj1)) dL_asks_108 m_L_valueOf (by decide) wmL_206 rfl (Nat.le_of_ble_eq_true rfl) (fun mc ms z1 z2 => j_fit_rm (by omega) (by omega) (by omega)) rfl (fun A I => ?_)
          refine j_i2l x dL_asks_111 ?_
          refine j_ladd x dL_asks_112 ?_
          refine j_lstore_n x dL_asks_113 (by decide) rfl ?_
          refine j_iinc x dL_asks_114 rfl (by decide) rfl ?_
          refine j_goto (tgt := 93) x dL_asks_117 (by decide) ?_
          exact kk1 _ _ _ _ _ I (wk_c rfl (wk_c (w_fo1 (fun r => gRule (cn B) (nn t true) t (nI j0) (nI r))) (wk_n (wk_c rfl (wk_c (congrArg (fun z => some (Value.int z)) (nI_1 _)) (wk_n wk_0)))))) (by omega) (by omega)
        · refine j_iload x dL_asks_93 rfl ?_
          refine j_iconst (v := 5) x dL_asks_95 (by decide) ?_
          refine j_icmp_ge (tgt := 120) x dL_asks_96 (by decide) (fun _ => ?_) (fun hc => absurd ((nI_le (Nat.le_refl 5) (by decide) : nI 5 ≤ nI 5)) hc)
          refine j_ldc2 x dL_asks_120 wlL_184 ?_
          refine j_ldc2 x dL_asks_123 wlL_184 ?_
          refine j_ldc2 x dL_asks_126 wlL_184 ?_
          refine j_ldc2 x dL_asks_129 wlL_184 ?_
          refine j_ldc2 x dL_asks_132 wlL_184 ?_
          refine j_lload_n x dL_asks_135 rfl ?_
          refine j_lmul x dL_asks_136 ?_
          refine j_aload_n x dL_asks_137 rfl ?_
          refine j_iload_n x dL_asks_138 rfl ?_
          refine q_call x I (Q_pointsAgain (Y := Y) I.hb (I.L D) (I.F D) hj0) dL_asks_139 m_L_pointsAgain (by decide) wmL_208 rfl (Nat.le_of_ble_eq_true rfl) (fun mc ms z1 z2 => j_fit_rm (by omega) (by omega) (by omega)) rfl (fun A I => ?_)
          refine j_i2l x dL_asks_142 ?_
          refine j_ladd x dL_asks_143 ?_
          refine j_lmul x dL_asks_144 ?_
          refine j_aload_n x dL_asks_145 rfl ?_
          refine j_iload_n x dL_asks_146 rfl ?_
          refine q_call x I (Q_placeOf (Y := Y) I.hb (I.L D) (I.F D) hj0 (vRn_of (I.L D)).1 (vRn_of (I.L D)).2) dL_asks_147 m_L_placeOf (by decide) wmL_210 rfl (Nat.le_of_ble_eq_true rfl) (fun mc ms z1 z2 => j_fit_rm (by omega) (by omega) (by omega)) rfl (fun A I => ?_)
          refine j_i2l x dL_asks_150 ?_
          refine j_ladd x dL_asks_151 ?_
          refine j_lmul x dL_asks_152 ?_
          refine j_aload_n x dL_asks_153 rfl ?_
          refine j_iload_n x dL_asks_154 rfl ?_
          refine q_call x I (Q_ranked (Y := Y) I.hb (I.L D) (I.F D) hj0 (vRn_of (I.L D)).1 (vRn_of (I.L D)).2) dL_asks_155 m_L_ranked (by decide) wmL_212 rfl (Nat.le_of_ble_eq_true rfl) (fun mc ms z1 z2 => j_fit_rm (by omega) (by omega) (by omega)) rfl (fun A I => ?_)
          refine j_i2l x dL_asks_158 ?_
          refine j_ladd x dL_asks_159 ?_
          refine j_lmul x dL_asks_160 ?_
          refine j_aload_n x dL_asks_161 rfl ?_
          refine j_iload_n x dL_asks_162 rfl ?_
          refine q_call x I (Q_tied (Y := Y) I.hb (I.L D) (I.F D) hj0) dL_asks_163 m_L_tied (by decide) wmL_214 rfl (Nat.le_of_ble_eq_true rfl) (fun mc ms z1 z2 => j_fit_rm (by omega) (by omega) (by omega)) rfl (fun A I => ?_)
          refine j_i2l x dL_asks_166 ?_
          refine j_ladd x dL_asks_167 ?_
          refine j_lmul x dL_asks_168 ?_
          refine j_aload_n x dL_asks_169 rfl ?_
          refine j_iload_n x dL_asks_170 rfl ?_
          refine q_call x I (Q_most (Y := Y) I.hb (I.L D) (I.F D) hj0) dL_asks_171 m_L_most (by decide) wmL_216 rfl (Nat.le_of_ble_eq_true rfl) (fun mc ms z1 z2 => j_fit_rm (by omega) (by omega) (by omega)) rfl (fun A I => ?_)
          refine j_i2l x dL_asks_174 ?_
          refine j_ladd x dL_asks_175 ?_
          refine j_lstore_n x dL_asks_176 (by decide) rfl ?_
          refine j_ldc2 x dL_asks_177 wlL_184 ?_
          refine j_ldc2 x dL_asks_180 wlL_184 ?_
          refine j_ldc2 x dL_asks_183 wlL_184 ?_
          refine j_lload_n x dL_asks_186 rfl ?_
          refine j_lmul x dL_asks_187 ?_
          refine j_aload_n x dL_asks_188 rfl ?_
          refine j_iload_n x dL_asks_189 rfl ?_
          refine q_call x I (Q_isSafe (Y := Y) I.hb (I.L D) (I.F D) hj0) dL_asks_190 m_L_isSafe (by decide) wmL_218 rfl (Nat.le_of_ble_eq_true rfl) (fun mc ms z1 z2 => j_fit_rm (by omega) (by omega) (by omega)) rfl (fun A I => ?_)
          refine j_i2l x dL_asks_193 ?_
          refine j_ladd x dL_asks_194 ?_
          refine j_lmul x dL_asks_195 ?_
          refine j_aload_n x dL_asks_196 rfl ?_
          refine j_iload_n x dL_asks_197 rfl ?_
          refine q_call x I (Q_isOut (Y := Y) I.hb (I.L D) (I.F D) hj0) dL_asks_198 m_L_isOut (by decide) wmL_220 rfl (Nat.le_of_ble_eq_true rfl) (fun mc ms z1 z2 => j_fit_rm (by omega) (by omega) (by omega)) rfl (fun A I => ?_)
          refine j_i2l x dL_asks_201 ?_
          refine j_ladd x dL_asks_202 ?_
          refine j_lmul x dL_asks_203 ?_
          refine j_aload_n x dL_asks_204 rfl ?_
          refine j_iload_n x dL_asks_205 rfl ?_
          refine q_call x I (Q_run (Y := Y) I.hb (I.L D) (I.F D) hj0) dL_asks_206 m_L_run (by decide) wmL_222 rfl (Nat.le_of_ble_eq_true rfl) (fun mc ms z1 z2 => j_fit_rm (by omega) (by omega) (by omega)) rfl (fun A I => ?_)
          refine j_i2l x dL_asks_209 ?_
          refine j_ladd x dL_asks_210 ?_
          refine j_lstore_n x dL_asks_211 (by decide) rfl ?_
          refine j_aload_n x dL_asks_212 rfl ?_
          refine j_iload_n x dL_asks_213 rfl ?_
          refine j_callSH x dL_asks_214 (Q_line (Y := Y) I (I.L D) (I.F D) hj0) m_L_line wmL_157 rfl (Nat.le_of_ble_eq_true rfl) (j_fit_rm (by omega) (by omega) (by omega)) rfl (fun E k z => by obtain ⟨_, _, q, _⟩ := z; cases q) (fun v k z => ?_)
          obtain ⟨b, A, z1, rfl, I, hLn, hln⟩ := z
          cases z1
          refine j_istore x dL_asks_217 (by decide) rfl ?_
          refine j_iconst (v := 0) x dL_asks_219 (by decide) ?_
          refine j_istore x dL_asks_220 (by decide) rfl ?_
          refine j_loop (vLn (cn B) (nn t true) t j0).1 (fun j L h c1 s1 => wkL [some (.ref 0), some (.long (fo (fun k => lch ((vLn (cn B) (nn t true) t j0).2 k)) (vT9 (cn B) t (fL (vTe (cn B) t) (fo (vAc (cn B) t) (vS0 (cn B) t) 13) j0) j0) j)), none, some (.int (nI j0)), some (.int (nI (vLn (cn B) (nn t true) t j0).1)), some (.int (nI j))] L ∧ h = HH b Y A ∧ c1 ≤ (((((0 + 2) + (13) * 1 + 0) + j0 * 37 + 1) + (9) * 1 + 0) + (5) * 1 + 22) ∧ s1 ≤ (((((0 + 12) + (13) * 6 + 0) + j0 * 2966 + 6) + (9) * 6 + 0) + (5) * 6 + 2876)) ⟨(wk_c rfl (wk_c (w_fo0 (f := (fun k => lch ((vLn (cn B) (nn t true) t j0).2 k))) (s := vT9 (cn B) t (fL (vTe (cn B) t) (fo (vAc (cn B) t) (vS0 (cn B) t) 13) j0) j0)) (wk_n (wk_c rfl (wk_c rfl (wk_c rfl wk_0)))))), rfl, by omega, by omega⟩ (fun j1 hj1 L h c1 s1 hV kk1 => ?_) (fun L h c1 s1 hV => ?_)
          · obtain ⟨hw, rfl, h1, h2⟩ := hV
            refine j_locW hw ?_
            refine j_iload x dL_asks_222 rfl ?_
            refine j_iload x dL_asks_224 rfl ?_
            refine j_icmp_ge (tgt := 249) x dL_asks_226 (by decide) (fun hc => absurd hc (nI_ge hj1 (by omega))) (fun _ => ?_)
            refine j_ldc2 x dL_asks_229 wlL_184 ?_
            refine j_lload_n x dL_asks_232 rfl ?_
            refine j_lmul x dL_asks_233 ?_
            refine j_aload_n x dL_asks_234 rfl ?_
            refine j_iload x dL_asks_235 rfl ?_
            refine j_callSH x dL_asks_237 (Q_character (Y := Y) I.hb hLn hj1) m_L_character wmL_159 rfl (Nat.le_of_ble_eq_true rfl) (j_fit_rm (by omega) (by omega) (by omega)) rfl (fun E k z => by cases z.1) (fun v k z => ?_)
            obtain ⟨z1, rfl⟩ := z
            cases z1
            refine j_i2l x dL_asks_240 ?_
            refine j_ladd x dL_asks_241 ?_
            refine j_lstore_n x dL_asks_242 (by decide) rfl ?_
            refine j_iinc x dL_asks_243 rfl (by decide) rfl ?_
            refine j_goto (tgt := 222) x dL_asks_246 (by decide) ?_
            exact kk1 _ _ _ _ ⟨(wk_c rfl (wk_c (w_fo1 (fun k => lch ((vLn (cn B) (nn t true) t j0).2 k))) (wk_n (wk_c rfl (wk_c rfl (wk_c (congrArg (fun z => some (Value.int z)) (nI_1 _)) wk_0)))))), rfl, by omega, by omega⟩
          · obtain ⟨hw, rfl, h1, h2⟩ := hV
            refine j_locW hw (j_widen h1 h2 ?_)
            refine j_iload x dL_asks_222 rfl ?_
            refine j_iload x dL_asks_224 rfl ?_
            refine j_icmp_ge (tgt := 249) x dL_asks_226 (by decide) (fun _ => ?_) (fun hc => absurd (nI_le (Nat.le_refl _) (by omega)) hc)
            refine j_iinc x dL_asks_249 rfl (by decide) rfl ?_
            refine j_goto (tgt := 50) x dL_asks_252 (by decide) ?_
            exact kk0 _ _ _ _ _ I (wk_c rfl (wk_c (w_fL1 (vTe (cn B) t)) (wk_n (wk_c (congrArg (fun z => some (Value.int z)) (nI_1 _)) (wk_n (wk_n wk_0)))))) (by omega) (by omega)
    · refine j_iload_n x dL_asks_50 rfl ?_
      refine j_aload_n x dL_asks_51 rfl ?_
      refine j_iconst (v := 0) x dL_asks_52 (by decide) ?_
      refine q_call x I (Q_n0 (Y := Y) I D) dL_asks_53 m_L_account (by decide) wmL_172 rfl (Nat.le_of_ble_eq_true rfl) (fun mc ms z1 z2 => j_fit_rm (by omega) (by omega) (by omega)) rfl (fun A I => ?_)
      refine j_icmp_ge (tgt := 255) x dL_asks_56 (by decide) (fun _ => ?_) (fun hc => absurd (nI_le (Nat.le_refl _) (by omega)) hc)
      refine j_iconst (v := 0) x dL_asks_255 (by decide) ?_
      refine j_istore_n x dL_asks_256 (by decide) rfl ?_
      refine q_loop (nn t true) (fun j => [some (.ref 0), some (.long ((fL (vMe (cn B) t) (fL (vTe (cn B) t) (fo (vAc (cn B) t) (vS0 (cn B) t) 13) t) j))), none, some (.int (nI j)), none, none]) (((0 + 2) + (13) * 1 + 0) + (t) * 37 + 1) (((0 + 12) + (13) * 6 + 0) + (t) * 2966 + 6) 12 72 I (wk_c rfl (wk_c (w_fL0 (vMe (cn B) t)) (wk_n (wk_c rfl (wk_n (wk_n wk_0)))))) (by omega) (by omega) (fun j0 hj0 b A I kk0 => ?_) (fun b A I => ?_)
      · refine j_iload_n x dL_asks_257 rfl ?_
        refine j_aload_n x dL_asks_258 rfl ?_
        refine j_iconst (v := 4) x dL_asks_259 (by decide) ?_
        refine q_call x I (Q_n4 (Y := Y) I D) dL_asks_260 m_L_account (by decide) wmL_172 rfl (Nat.le_of_ble_eq_true rfl) (fun mc ms z1 z2 => j_fit_rm (by omega) (by omega) (by omega)) rfl (fun A I => ?_)
        refine j_icmp_ge (tgt := 338) x dL_asks_263 (by decide) (fun hc => absurd hc (nI_ge hj0 (by omega))) (fun _ => ?_)
        refine j_iconst (v := 0) x dL_asks_266 (by decide) ?_
        refine j_istore x dL_asks_267 (by decide) rfl ?_
        refine q_loop (7) (fun j => [some (.ref 0), some (.long (fo (vMt (cn B) j0) (fL (vMe (cn B) t) (fL (vTe (cn B) t) (fo (vAc (cn B) t) (vS0 (cn B) t) 13) t) j0) j)), none, some (.int (nI j0)), some (.int (nI j)), none]) ((((0 + 2) + (13) * 1 + 0) + (t) * 37 + 1) + j0 * 12 + 1) ((((0 + 12) + (13) * 6 + 0) + (t) * 2966 + 6) + j0 * 72 + 6) 1 6 I (wk_c rfl (wk_c (w_fo0 (f := (vMt (cn B) j0))) (wk_n (wk_c rfl (wk_c rfl (wk_n wk_0)))))) (by omega) (by omega) (fun j1 hj1 b A I kk1 => ?_) (fun b A I => ?_)
        · refine j_iload x dL_asks_269 rfl ?_
          refine j_bipush (v := 7) x dL_asks_271 (by decide) ?_
          refine j_icmp_ge (tgt := 297) x dL_asks_273 (by decide) (fun hc => absurd hc ((nI_ge hj1 (by decide) : ¬ nI 7 ≤ nI j1))) (fun _ => ?_)
          refine j_ldc2 x dL_asks_276 wlL_184 ?_
          refine j_lload_n x dL_asks_279 rfl ?_
          refine j_lmul x dL_asks_280 ?_
          refine j_aload_n x dL_asks_281 rfl ?_
          refine j_iload_n x dL_asks_282 rfl ?_
          refine j_iload x dL_asks_283 rfl ?_
          refine q_call x I (Q_me (Y := Y) I.hb (I.L D) (I.F D) hj0 hj1) dL_asks_285 m_L_meetingOf (by decide) wmL_174 rfl (Nat.le_of_ble_eq_true rfl) (fun mc ms z1 z2 => j_fit_rm (by omega) (by omega) (by omega)) rfl (fun A I => ?_)
          refine j_i2l x dL_asks_288 ?_
          refine j_ladd x dL_asks_289 ?_
          refine j_lstore_n x dL_asks_290 (by decide) rfl ?_
          refine j_iinc x dL_asks_291 rfl (by decide) rfl ?_
          refine j_goto (tgt := 269) x dL_asks_294 (by decide) ?_
          exact kk1 _ _ _ _ _ I (wk_c rfl (wk_c (w_fo1 (vMt (cn B) j0)) (wk_n (wk_c rfl (wk_c (congrArg (fun z => some (Value.int z)) (nI_1 _)) (wk_n wk_0)))))) (by omega) (by omega)
        · refine j_iload x dL_asks_269 rfl ?_
          refine j_bipush (v := 7) x dL_asks_271 (by decide) ?_
          refine j_icmp_ge (tgt := 297) x dL_asks_273 (by decide) (fun _ => ?_) (fun hc => absurd ((nI_le (Nat.le_refl 7) (by decide) : nI 7 ≤ nI 7)) hc)
          refine j_ldc2 x dL_asks_297 wlL_184 ?_
          refine j_ldc2 x dL_asks_300 wlL_184 ?_
          refine j_lload_n x dL_asks_303 rfl ?_
          refine j_lmul x dL_asks_304 ?_
          refine j_aload_n x dL_asks_305 rfl ?_
          refine j_iload_n x dL_asks_306 rfl ?_
          refine q_call x I (Q_freeWeek (Y := Y) I.hb (I.L D) (I.F D) hj0) dL_asks_307 m_L_freeWeek (by decide) wmL_224 rfl (Nat.le_of_ble_eq_true rfl) (fun mc ms z1 z2 => j_fit_rm (by omega) (by omega) (by omega)) rfl (fun A I => ?_)
          refine j_i2l x dL_asks_310 ?_
          refine j_ladd x dL_asks_311 ?_
          refine j_lmul x dL_asks_312 ?_
          refine j_aload_n x dL_asks_313 rfl ?_
          refine j_aload_n x dL_asks_314 rfl ?_
          refine j_iload_n x dL_asks_315 rfl ?_
          refine j_iconst (v := 1) x dL_asks_316 (by decide) ?_
          refine q_call x I (Q_me (k := 1) (Y := Y) I.hb (I.L D) (I.F D) hj0 (by decide)) dL_asks_317 m_L_meetingOf (by decide) wmL_174 rfl (Nat.le_of_ble_eq_true rfl) (fun mc ms z1 z2 => j_fit_rm (by omega) (by omega) (by omega)) rfl (fun A I => ?_)
          refine j_aload_n x dL_asks_320 rfl ?_
          refine j_iload_n x dL_asks_321 rfl ?_
          refine j_iconst (v := 2) x dL_asks_322 (by decide) ?_
          refine q_call x I (Q_me (k := 2) (Y := Y) I.hb (I.L D) (I.F D) hj0 (by decide)) dL_asks_323 m_L_meetingOf (by decide) wmL_174 rfl (Nat.le_of_ble_eq_true rfl) (fun mc ms z1 z2 => j_fit_rm (by omega) (by omega) (by omega)) rfl (fun A I => ?_)
          refine q_call x I (Q_fd (Y := Y) I.hb (I.L D) (I.F D) hj0) dL_asks_326 m_L_find (by decide) wmL_226 rfl (Nat.le_of_ble_eq_true rfl) (fun mc ms z1 z2 => j_fit_rm (by omega) (by omega) (by omega)) rfl (fun A I => ?_)
          refine j_i2l x dL_asks_329 ?_
          refine j_ladd x dL_asks_330 ?_
          refine j_lstore_n x dL_asks_331 (by decide) rfl ?_
          refine j_iinc x dL_asks_332 rfl (by decide) rfl ?_
          refine j_goto (tgt := 257) x dL_asks_335 (by decide) ?_
          exact kk0 _ _ _ _ _ I (wk_c rfl (wk_c (w_fL1 (vMe (cn B) t)) (wk_n (wk_c (congrArg (fun z => some (Value.int z)) (nI_1 _)) (wk_n (wk_n wk_0)))))) (by omega) (by omega)
      · refine j_iload_n x dL_asks_257 rfl ?_
        refine j_aload_n x dL_asks_258 rfl ?_
        refine j_iconst (v := 4) x dL_asks_259 (by decide) ?_
        refine q_call x I (Q_n4 (Y := Y) I D) dL_asks_260 m_L_account (by decide) wmL_172 rfl (Nat.le_of_ble_eq_true rfl) (fun mc ms z1 z2 => j_fit_rm (by omega) (by omega) (by omega)) rfl (fun A I => ?_)
        refine j_icmp_ge (tgt := 338) x dL_asks_263 (by decide) (fun _ => ?_) (fun hc => absurd (nI_le (Nat.le_refl _) (by omega)) hc)
        refine j_iconst (v := 0) x dL_asks_338 (by decide) ?_
        refine j_istore_n x dL_asks_339 (by decide) rfl ?_
        refine q_loop (zz t true) (fun j => [some (.ref 0), some (.long ((fL (vWe (cn B) t) (fL (vMe (cn B) t) (fL (vTe (cn B) t) (fo (vAc (cn B) t) (vS0 (cn B) t) 13) t) (nn t true)) j))), none, some (.int (nI j)), none, none]) ((((0 + 2) + (13) * 1 + 0) + (t) * 37 + 1) + (nn t true) * 12 + 1) ((((0 + 12) + (13) * 6 + 0) + (t) * 2966 + 6) + (nn t true) * 72 + 6) 4 24 I (wk_c rfl (wk_c (w_fL0 (vWe (cn B) t)) (wk_n (wk_c rfl (wk_n (wk_n wk_0)))))) (by omega) (by omega) (fun j0 hj0 b A I kk0 => ?_) (fun b A I => ?_)
        · refine j_iload_n x dL_asks_340 rfl ?_
          refine j_aload_n x dL_asks_341 rfl ?_
          refine j_iconst (v := 2) x dL_asks_342 (by decide) ?_
          refine q_call x I (Q_n2 (Y := Y) I D) dL_asks_343 m_L_account (by decide) wmL_172 rfl (Nat.le_of_ble_eq_true rfl) (fun mc ms z1 z2 => j_fit_rm (by omega) (by omega) (by omega)) rfl (fun A I => ?_)
          refine j_icmp_ge (tgt := 390) x dL_asks_346 (by decide) (fun hc => absurd hc (nI_ge hj0 (by omega))) (fun _ => ?_)
          refine j_ldc2 x dL_asks_349 wlL_184 ?_
          refine j_ldc2 x dL_asks_352 wlL_184 ?_
          refine j_ldc2 x dL_asks_355 wlL_184 ?_
          refine j_lload_n x dL_asks_358 rfl ?_
          refine j_lmul x dL_asks_359 ?_
          refine j_aload_n x dL_asks_360 rfl ?_
          refine j_iload_n x dL_asks_361 rfl ?_
          refine q_call x I (Q_byeIn (Y := Y) I.hb (I.L D) (I.F D) hj0) dL_asks_362 m_L_byeIn (by decide) wmL_228 rfl (Nat.le_of_ble_eq_true rfl) (fun mc ms z1 z2 => j_fit_rm (by omega) (by omega) (by omega)) rfl (fun A I => ?_)
          refine j_i2l x dL_asks_365 ?_
          refine j_ladd x dL_asks_366 ?_
          refine j_lmul x dL_asks_367 ?_
          refine j_aload_n x dL_asks_368 rfl ?_
          refine j_iload_n x dL_asks_369 rfl ?_
          refine q_call x I (Q_meetingsIn (Y := Y) I.hb (I.L D) (I.F D) hj0) dL_asks_370 m_L_meetingsIn (by decide) wmL_230 rfl (Nat.le_of_ble_eq_true rfl) (fun mc ms z1 z2 => j_fit_rm (by omega) (by omega) (by omega)) rfl (fun A I => ?_)
          refine j_i2l x dL_asks_373 ?_
          refine j_ladd x dL_asks_374 ?_
          refine j_lmul x dL_asks_375 ?_
          refine j_aload_n x dL_asks_376 rfl ?_
          refine j_iload_n x dL_asks_377 rfl ?_
          refine q_call x I (Q_clashes (Y := Y) I.hb (I.L D) (I.F D) hj0) dL_asks_378 m_L_clashes (by decide) wmL_232 rfl (Nat.le_of_ble_eq_true rfl) (fun mc ms z1 z2 => j_fit_rm (by omega) (by omega) (by omega)) rfl (fun A I => ?_)
          refine j_i2l x dL_asks_381 ?_
          refine j_ladd x dL_asks_382 ?_
          refine j_lstore_n x dL_asks_383 (by decide) rfl ?_
          refine j_iinc x dL_asks_384 rfl (by decide) rfl ?_
          refine j_goto (tgt := 340) x dL_asks_387 (by decide) ?_
          exact kk0 _ _ _ _ _ I (wk_c rfl (wk_c (w_fL1 (vWe (cn B) t)) (wk_n (wk_c (congrArg (fun z => some (Value.int z)) (nI_1 _)) (wk_n (wk_n wk_0)))))) (by omega) (by omega)
        · refine j_iload_n x dL_asks_340 rfl ?_
          refine j_aload_n x dL_asks_341 rfl ?_
          refine j_iconst (v := 2) x dL_asks_342 (by decide) ?_
          refine q_call x I (Q_n2 (Y := Y) I D) dL_asks_343 m_L_account (by decide) wmL_172 rfl (Nat.le_of_ble_eq_true rfl) (fun mc ms z1 z2 => j_fit_rm (by omega) (by omega) (by omega)) rfl (fun A I => ?_)
          refine j_icmp_ge (tgt := 390) x dL_asks_346 (by decide) (fun _ => ?_) (fun hc => absurd (nI_le (Nat.le_refl _) (by omega)) hc)
          refine j_lload_n x dL_asks_390 rfl ?_
          exact j_lreturn x hr dL_asks_391 (by omega) (by omega) ⟨_, _, rfl, rfl, I⟩
