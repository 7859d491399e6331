/-! ===== refused, walked ===== -/
theorem Zr_b {B0 B B1 : MM} {t : Nat} {f r z i : Int32} (h : Zr B0 B t) (hR : BadZ B B1 f r z i) : Zr B0 B1 t := ⟨Same_t h.1 hR.1, hR.2.1, Dr_same hR.1 h.2.2⟩
theorem lcmp_0 {v : Int64} : lg_cmp v v = 0 := by unfold lg_cmp; rw [if_neg (show ¬ v > v from Int64.lt_irrefl), if_pos rfl]
section JLdS
variable {p : Program} {l : Launch} {e : Env} {R : Room} {s : State} {m : MethodId} {args : Array Value} {below : List Frame} {meth : Method} {c : Code} {H : Heap} {locs : List Loc} {cells slots : Nat} {Q : State → Prop} {cc : ByteArray} {pc : Nat} {ls : Array Slot} {rest : List Value}
theorem va_ldcWS (hexec : p.tables.exec = Jvm.exec) (hb : c.code = cc) {own tx : String} {index q : Nat} (hown : s.vm.findClass own = some m.cls) (hZ : vk_R own index tx q s) (hdg : decode cc pc = .ok (.ldc_w index, 3))
    (k : W p l e R s m args below meth c H locs cells slots Q (F0 m (pc + 3) ls (.ref q :: rest))) : W p l e R s m args below meth c H locs cells slots Q (F0 m pc ls rest) := by
  intro T hT X
  obtain ⟨t, a1, b1⟩ := k T hT X
  exact ⟨t, X.ldcStringW hexec hown (text := tx) (a := q) hZ.1 hZ.2 (g := F0 m pc ls rest) rfl (by rw [hb]; exact hdg) t a1, b1⟩
variable {D : va_G} {tyc : Nat → ClassId} {A : Nat → Prop} {n0 : Nat} {ad0 : Nat → Nat} {nL : Nat} {own : String} {L : List (Option Value)} {st : List Value} {h : MH} {idx a : Nat} {tx : String}
theorem j_ldcWS (x : j_X p l s m args meth c D tyc A own cc nL) (hZ : vk_R own idx tx a s) (hd : decode cc pc = .ok (.ldc_w idx, 3)) (kk : JJ p l e R s m args below meth c D tyc A n0 ad0 nL Q (pc + 3) L (.retAddr a :: st) h cells slots) : JJ p l e R s m args below meth c D tyc A n0 ad0 nL Q pc L st h cells slots := by
  intro ad ls H locs I
  exact va_ldcWS x.1 x.2.1 x.2.2.2.1 hZ hd (kk ad ls H locs (I.st fun hs => j_ok_cons j_ok_raw hs))
theorem j_ldcS (x : j_X p l s m args meth c D tyc A own cc nL) (hZ : vk_R own idx tx a s) (hd : decode cc pc = .ok (.ldc idx, 2)) (kk : JJ p l e R s m args below meth c D tyc A n0 ad0 nL Q (pc + 2) L (.retAddr a :: st) h cells slots) : JJ p l e R s m args below meth c D tyc A n0 ad0 nL Q pc L st h cells slots := by
  intro ad ls H locs I
  exact va_ldcS x.1 x.2.1 x.2.2.2.1 hZ hd (kk ad ls H locs (I.st fun hs => j_ok_cons j_ok_raw hs))
/-- the constant i -/
theorem kst_of {adK adV : Nat → Nat} {B : Nat → Prop} {U : State} {G : Heap} (hS : vk_S 9 (j_cs.map fun q => q.2.2.length) (j_cs.map fun q => q.2.2) adK adV B U G) {i : Nat} (hi : i < 9) : kstr (adK i) (adV i) ((j_cs.map fun q => q.2.2.length).getD i 0) (fun j => ((j_cs.map fun q => q.2.2).getD i []).getD j 0) B U G := hS.1 i hi
theorem j_pc {pc2 : Nat} (e1 : pc = pc2) (kk : JJ p l e R s m args below meth c D tyc A n0 ad0 nL Q pc2 L st h cells slots) : JJ p l e R s m args below meth c D tyc A n0 ad0 nL Q pc L st h cells slots := by
  rw [e1]; exact kk
theorem j_X.cst (x : j_X p l s m args meth c D tyc A own cc nL) : j_cst A s s.heap := x.2.2.2.2.2.2.2.2.2.2.2.2.2.2.2.2.2.2.2
end JLdS
set_option maxHeartbeats 20000000 in
theorem c_refused {d : Nat} {b : SBt} {Y : OUt} {A B : MM} (I : InvP b A B) {t : Nat} (D : Dr B t) (h9 : B 94 9 = 0) : Con (d + 22) 2350 57900 yL_refused cL_refused 7 (some .boolean) [.ref 0] (HH b Y A) (fun o k => ∃ b1 A1 B1, o = .inl (some (.int 1)) ∧ k = HH b1 Y A1 ∧ InvP b1 A1 B1 ∧ Same B B1 ∧ B1 94 9 = 0) := by
  have S0 : Zr B B t := Zr_0 D h9
  have h8 := D.2.1
  have h2 := I.t2 D
  have n56 := (I.h9 D).2.1
  have z14 := (I.h9 D).2.2.2.2
  refine Con.of (by decide +kernel) (Nat.le_of_ble_eq_true rfl) rfl fun p l e s m args below meth c D0 tyc A0 ad0 x hr htab hname => ?_
  obtain ⟨adK, adV, hS, hK⟩ := x.cst
  have hX7 : kstr (adK 7) (adV 7) 1 (fun j => [113].getD j 0) A0 s s.heap := kst_of hS (by decide)
  have hX8 : kstr (adK 8) (adV 8) 5 (fun j => [116, 59, 116, 49, 49].getD j 0) A0 s s.heap := kst_of hS (by decide)
  change JJ _ _ _ _ _ _ _ _ _ _ _ _ _ _ _ _ _ 0 [some (.ref 0), none, none, none, none, none, none] [] _ 0 0
  refine j_aload_n x dL_refused_0 rfl ?_
  refine j_callS x dL_refused_1 (c_asks (d := 0) (Y := Y) I D) m_L_asks wmL_273 rfl (Nat.le_of_ble_eq_true rfl) (j_fit_rm (by omega) (by omega) (by omega)) rfl (fun E k z => by obtain ⟨_, _, q, _⟩ := z; cases q) (fun v k z => ?_)
  obtain ⟨b, A, z1, rfl, I⟩ := z
  cases z1
  refine j_pc (pc2 := 4) rfl ?_
  refine j_lstore_n x dL_refused_4 (by decide) rfl ?_
  refine j_aload_n x dL_refused_5 rfl ?_
  refine j_iconst (v := 4) x dL_refused_6 (by decide) ?_
  refine q_call x I (Q_n4 (Y := Y) I D) dL_refused_7 m_L_account (by decide) wmL_172 rfl (Nat.le_of_ble_eq_true rfl) (fun mc ms z1 z2 => j_fit_rm (by omega) (by omega) (by omega)) rfl (fun A I => ?_)
  refine j_pc (pc2 := 10) rfl ?_
  refine j_istore_n x dL_refused_10 (by decide) rfl ?_
  refine j_aload_n x dL_refused_11 rfl ?_
  refine j_iconst (v := 0) x dL_refused_12 (by decide) ?_
  refine q_call x I (Q_n0 (Y := Y) I D) dL_refused_13 m_L_account (by decide) wmL_172 rfl (Nat.le_of_ble_eq_true rfl) (fun mc ms z1 z2 => j_fit_rm (by omega) (by omega) (by omega)) rfl (fun A I => ?_)
  refine j_pc (pc2 := 16) rfl ?_
  refine j_istore x dL_refused_16 (by decide) rfl ?_
  refine j_aload_n x dL_refused_18 rfl ?_
  refine j_iconst (v := 2) x dL_refused_19 (by decide) ?_
  refine q_call x I (Q_n2 (Y := Y) I D) dL_refused_20 m_L_account (by decide) wmL_172 rfl (Nat.le_of_ble_eq_true rfl) (fun mc ms z1 z2 => j_fit_rm (by omega) (by omega) (by omega)) rfl (fun A I => ?_)
  refine j_pc (pc2 := 23) rfl ?_
  refine j_istore x dL_refused_23 (by decide) rfl ?_
  refine j_aload_n x dL_refused_25 rfl ?_
  refine j_iconst (v := (-1)) x dL_refused_26 (by decide) ?_
  refine c_call x (PR_team (u := -1) (Y := Y) I (rTeam_b (by decide))) dL_refused_27 m_L_team (by decide) wmL_168 rfl (Nat.le_of_ble_eq_true rfl) (fun mc ms z1 z2 => j_fit_rm (by omega) (by omega) (by omega)) rfl (fun v A B1 I1 hc1 => ?_)
  obtain ⟨rfl, hR1⟩ := hc1
  have S1 := Zr_r S0 hR1
  refine j_pc (pc2 := 30) rfl ?_
  refine j_sipush (v := (-1001)) x dL_refused_30 (by decide) ?_
  refine j_icmp_ne (tgt := 446) x dL_refused_33 (by decide) (fun hc => absurd hc (fun z => z rfl)) (fun hc => ?_)
  refine j_aload_n x dL_refused_36 rfl ?_
  refine j_iconst (v := 1) x dL_refused_37 (by decide) ?_
  refine j_iconst (v := 0) x dL_refused_38 (by decide) ?_
  refine j_iconst (v := 0) x dL_refused_39 (by decide) ?_
  refine j_callS x dL_refused_40 (c_is (d := 0) (Y := Y) I1 (by decide) hR1.2.1 hR1.2.2.1 hR1.2.2.2.1) m_L_is wmL_277 rfl (Nat.le_of_ble_eq_true rfl) (j_fit_rm (by omega) (by omega) (by omega)) rfl (fun E k z => by obtain ⟨_, q, _⟩ := z; cases q) (fun v k z => ?_)
  obtain ⟨A, z1, rfl, I1⟩ := z
  cases z1
  refine j_pc (pc2 := 43) rfl ?_
  refine j_if_eq (tgt := 446) x dL_refused_43 (by decide) (fun hc => absurd hc (by decide)) (fun hc => ?_)
  refine j_aload_n x dL_refused_46 rfl ?_
  refine j_bipush (v := 10) x dL_refused_47 (by decide) ?_
  refine c_call x (PR_team (u := 10) (Y := Y) I1 (rTeam_b (by decide))) dL_refused_49 m_L_team (by decide) wmL_168 rfl (Nat.le_of_ble_eq_true rfl) (fun mc ms z1 z2 => j_fit_rm (by omega) (by omega) (by omega)) rfl (fun v A B2 I2 hc2 => ?_)
  obtain ⟨rfl, hR2⟩ := hc2
  have S2 := Zr_r S1 hR2
  refine j_pc (pc2 := 52) rfl ?_
  refine j_sipush (v := (-1001)) x dL_refused_52 (by decide) ?_
  refine j_icmp_ne (tgt := 446) x dL_refused_55 (by decide) (fun hc => absurd hc (fun z => z rfl)) (fun hc => ?_)
  refine j_aload_n x dL_refused_58 rfl ?_
  refine j_iconst (v := 0) x dL_refused_59 (by decide) ?_
  refine c_call x (PR_team (u := 0) (Y := Y) I2 (rTeam_d I2 S2.2.2)) dL_refused_60 m_L_team (by decide) wmL_168 rfl (Nat.le_of_ble_eq_true rfl) (fun mc ms z1 z2 => j_fit_rm (by omega) (by omega) (by omega)) rfl (fun v A B3 I3 hc3 => ?_)
  obtain ⟨rfl, hR3⟩ := hc3
  have S3 := Zr_r S2 hR3
  refine j_pc (pc2 := 63) rfl ?_
  refine j_sipush (v := (-1001)) x dL_refused_63 (by decide) ?_
  refine j_icmp_ne (tgt := 446) x dL_refused_66 (by decide) (fun hc => absurd hc (fun z => z rfl)) (fun hc => ?_)
  refine j_aload_n x dL_refused_69 rfl ?_
  refine j_iconst (v := 4) x dL_refused_70 (by decide) ?_
  refine j_iconst (v := 0) x dL_refused_71 (by decide) ?_
  refine j_iconst (v := 0) x dL_refused_72 (by decide) ?_
  refine j_callS x dL_refused_73 (c_is (d := 0) (Y := Y) I3 (by decide) hR3.2.1 hR3.2.2.1 hR3.2.2.2.1) m_L_is wmL_277 rfl (Nat.le_of_ble_eq_true rfl) (j_fit_rm (by omega) (by omega) (by omega)) rfl (fun E k z => by obtain ⟨_, q, _⟩ := z; cases q) (fun v k z => ?_)
  obtain ⟨A, z1, rfl, I3⟩ := z
  cases z1
  refine j_pc (pc2 := 76) rfl ?_
  refine j_if_eq (tgt := 446) x dL_refused_76 (by decide) (fun hc => absurd hc (by decide)) (fun hc => ?_)
  refine j_aload_n x dL_refused_79 rfl ?_
  refine j_iload x dL_refused_80 rfl ?_
  refine j_bipush (v := 99) x dL_refused_82 (by decide) ?_
  refine c_call x (PR_ground (u := nI t) (v := 99) (Y := Y) I3 (rGround_t I3 S3.2.2)) dL_refused_84 m_L_ground (by decide) wmL_234 rfl (Nat.le_of_ble_eq_true rfl) (fun mc ms z1 z2 => j_fit_rm (by omega) (by omega) (by omega)) rfl (fun v A B4 I4 hc4 => ?_)
  obtain ⟨rfl, hR4⟩ := hc4
  have S4 := Zr_r S3 hR4
  refine j_pc (pc2 := 87) rfl ?_
  refine j_sipush (v := (-1001)) x dL_refused_87 (by decide) ?_
  refine j_icmp_ne (tgt := 446) x dL_refused_90 (by decide) (fun hc => absurd hc (fun z => z rfl)) (fun hc => ?_)
  refine j_aload_n x dL_refused_93 rfl ?_
  refine j_iconst (v := 3) x dL_refused_94 (by decide) ?_
  refine j_iload x dL_refused_95 rfl ?_
  refine j_iconst (v := 0) x dL_refused_97 (by decide) ?_
  refine j_callS x dL_refused_98 (c_is (d := 0) (Y := Y) I4 (by decide) hR4.2.1 hR4.2.2.1 hR4.2.2.2.1) m_L_is wmL_277 rfl (Nat.le_of_ble_eq_true rfl) (j_fit_rm (by omega) (by omega) (by omega)) rfl (fun E k z => by obtain ⟨_, q, _⟩ := z; cases q) (fun v k z => ?_)
  obtain ⟨A, z1, rfl, I4⟩ := z
  cases z1
  refine j_pc (pc2 := 101) rfl ?_
  refine j_if_eq (tgt := 446) x dL_refused_101 (by decide) (fun hc => absurd hc (by decide)) (fun hc => ?_)
  refine j_aload_n x dL_refused_104 rfl ?_
  refine j_iconst (v := 0) x dL_refused_105 (by decide) ?_
  refine j_bipush (v := 10) x dL_refused_106 (by decide) ?_
  refine c_call x (PR_ground (u := 0) (v := 10) (Y := Y) I4 (rGround_b I4 S4.2.2 (by decide))) dL_refused_108 m_L_ground (by decide) wmL_234 rfl (Nat.le_of_ble_eq_true rfl) (fun mc ms z1 z2 => j_fit_rm (by omega) (by omega) (by omega)) rfl (fun v A B5 I5 hc5 => ?_)
  obtain ⟨rfl, hR5⟩ := hc5
  have S5 := Zr_r S4 hR5
  refine j_pc (pc2 := 111) rfl ?_
  refine j_sipush (v := (-1001)) x dL_refused_111 (by decide) ?_
  refine j_icmp_ne (tgt := 446) x dL_refused_114 (by decide) (fun hc => absurd hc (fun z => z rfl)) (fun hc => ?_)
  refine j_aload_n x dL_refused_117 rfl ?_
  refine j_iconst (v := 0) x dL_refused_118 (by decide) ?_
  refine j_iconst (v := (-1)) x dL_refused_119 (by decide) ?_
  refine c_call x (PR_ground (u := 0) (v := -1) (Y := Y) I5 (rGround_b I5 S5.2.2 (by decide))) dL_refused_120 m_L_ground (by decide) wmL_234 rfl (Nat.le_of_ble_eq_true rfl) (fun mc ms z1 z2 => j_fit_rm (by omega) (by omega) (by omega)) rfl (fun v A B6 I6 hc6 => ?_)
  obtain ⟨rfl, hR6⟩ := hc6
  have S6 := Zr_r S5 hR6
  refine j_pc (pc2 := 123) rfl ?_
  refine j_sipush (v := (-1001)) x dL_refused_123 (by decide) ?_
  refine j_icmp_ne (tgt := 446) x dL_refused_126 (by decide) (fun hc => absurd hc (fun z => z rfl)) (fun hc => ?_)
  refine j_aload_n x dL_refused_129 rfl ?_
  refine j_iconst (v := 1) x dL_refused_130 (by decide) ?_
  refine j_iconst (v := 0) x dL_refused_131 (by decide) ?_
  refine j_iconst (v := 0) x dL_refused_132 (by decide) ?_
  refine j_callS x dL_refused_133 (c_is (d := 0) (Y := Y) I6 (by decide) hR6.2.1 hR6.2.2.1 hR6.2.2.2.1) m_L_is wmL_277 rfl (Nat.le_of_ble_eq_true rfl) (j_fit_rm (by omega) (by omega) (by omega)) rfl (fun E k z => by obtain ⟨_, q, _⟩ := z; cases q) (fun v k z => ?_)
  obtain ⟨A, z1, rfl, I6⟩ := z
  cases z1
  refine j_pc (pc2 := 136) rfl ?_
  refine j_if_eq (tgt := 446) x dL_refused_136 (by decide) (fun hc => absurd hc (by decide)) (fun hc => ?_)
  refine j_aload_n x dL_refused_139 rfl ?_
  refine c_call x (PR_draw (Y := Y) I6 (rDraw_d I6 S6.2.2)) dL_refused_140 m_L_draw (by decide) wmL_170 rfl (Nat.le_of_ble_eq_true rfl) (fun mc ms z1 z2 => j_fit_rm (by omega) (by omega) (by omega)) rfl (fun v A B7 I7 hc7 => ?_)
  obtain ⟨rfl, hR7⟩ := hc7
  have S7 := Zr_r S6 hR7
  refine j_pc (pc2 := 143) rfl ?_
  refine j_sipush (v := (-1001)) x dL_refused_143 (by decide) ?_
  refine j_icmp_ne (tgt := 446) x dL_refused_146 (by decide) (fun hc => absurd hc (fun z => z rfl)) (fun hc => ?_)
  refine j_aload_n x dL_refused_149 rfl ?_
  refine j_iconst (v := 4) x dL_refused_150 (by decide) ?_
  refine j_iconst (v := 0) x dL_refused_151 (by decide) ?_
  refine j_iconst (v := 0) x dL_refused_152 (by decide) ?_
  refine j_callS x dL_refused_153 (c_is (d := 0) (Y := Y) I7 (by decide) hR7.2.1 hR7.2.2.1 hR7.2.2.2.1) m_L_is wmL_277 rfl (Nat.le_of_ble_eq_true rfl) (j_fit_rm (by omega) (by omega) (by omega)) rfl (fun E k z => by obtain ⟨_, q, _⟩ := z; cases q) (fun v k z => ?_)
  obtain ⟨A, z1, rfl, I7⟩ := z
  cases z1
  refine j_pc (pc2 := 156) rfl ?_
  refine j_if_eq (tgt := 446) x dL_refused_156 (by decide) (fun hc => absurd hc (by decide)) (fun hc => ?_)
  refine j_aload_n x dL_refused_159 rfl ?_
  refine j_iconst (v := 0) x dL_refused_160 (by decide) ?_
  refine j_iconst (v := 0) x dL_refused_161 (by decide) ?_
  refine c_call x (PR_give (u := 0) (v := 0) (Y := Y) I7 (by decide)) dL_refused_162 m_L_give (by decide) wmL_236 rfl (Nat.le_of_ble_eq_true rfl) (fun mc ms z1 z2 => j_fit_rm (by omega) (by omega) (by omega)) rfl (fun v A B8 I8 hc8 => ?_)
  obtain ⟨rfl, hR8⟩ := hc8
  have S8 := Zr_r S7 hR8
  refine j_pc (pc2 := 165) rfl ?_
  refine j_sipush (v := (-1001)) x dL_refused_165 (by decide) ?_
  refine j_icmp_ne (tgt := 446) x dL_refused_168 (by decide) (fun hc => absurd hc (fun z => z rfl)) (fun hc => ?_)
  refine j_aload_n x dL_refused_171 rfl ?_
  refine j_bipush (v := 6) x dL_refused_172 (by decide) ?_
  refine j_iconst (v := 0) x dL_refused_174 (by decide) ?_
  refine c_call x (PR_give (u := 6) (v := 0) (Y := Y) I8 (by decide)) dL_refused_175 m_L_give (by decide) wmL_236 rfl (Nat.le_of_ble_eq_true rfl) (fun mc ms z1 z2 => j_fit_rm (by omega) (by omega) (by omega)) rfl (fun v A B9 I9 hc9 => ?_)
  obtain ⟨rfl, hR9⟩ := hc9
  have S9 := Zr_r S8 hR9
  refine j_pc (pc2 := 178) rfl ?_
  refine j_sipush (v := (-1001)) x dL_refused_178 (by decide) ?_
  refine j_icmp_ne (tgt := 446) x dL_refused_181 (by decide) (fun hc => absurd hc (fun z => z rfl)) (fun hc => ?_)
  refine j_aload_n x dL_refused_184 rfl ?_
  refine j_iconst (v := 1) x dL_refused_185 (by decide) ?_
  refine j_iconst (v := 4) x dL_refused_186 (by decide) ?_
  refine c_call x (PR_give (u := 1) (v := 4) (Y := Y) I9 (by decide)) dL_refused_187 m_L_give (by decide) wmL_236 rfl (Nat.le_of_ble_eq_true rfl) (fun mc ms z1 z2 => j_fit_rm (by omega) (by omega) (by omega)) rfl (fun v A B10 I10 hc10 => ?_)
  obtain ⟨rfl, hR10⟩ := hc10
  have S10 := Zr_r S9 hR10
  refine j_pc (pc2 := 190) rfl ?_
  refine j_sipush (v := (-1001)) x dL_refused_190 (by decide) ?_
  refine j_icmp_ne (tgt := 446) x dL_refused_193 (by decide) (fun hc => absurd hc (fun z => z rfl)) (fun hc => ?_)
  refine j_aload_n x dL_refused_196 rfl ?_
  refine j_iconst (v := 1) x dL_refused_197 (by decide) ?_
  refine j_iconst (v := (-1)) x dL_refused_198 (by decide) ?_
  refine c_call x (PR_give (u := 1) (v := -1) (Y := Y) I10 (by decide)) dL_refused_199 m_L_give (by decide) wmL_236 rfl (Nat.le_of_ble_eq_true rfl) (fun mc ms z1 z2 => j_fit_rm (by omega) (by omega) (by omega)) rfl (fun v A B11 I11 hc11 => ?_)
  obtain ⟨rfl, hR11⟩ := hc11
  have S11 := Zr_r S10 hR11
  refine j_pc (pc2 := 202) rfl ?_
  refine j_sipush (v := (-1001)) x dL_refused_202 (by decide) ?_
  refine j_icmp_ne (tgt := 446) x dL_refused_205 (by decide) (fun hc => absurd hc (fun z => z rfl)) (fun hc => ?_)
  refine j_aload_n x dL_refused_208 rfl ?_
  refine j_iconst (v := 1) x dL_refused_209 (by decide) ?_
  refine j_iconst (v := 0) x dL_refused_210 (by decide) ?_
  refine j_iconst (v := 0) x dL_refused_211 (by decide) ?_
  refine j_callS x dL_refused_212 (c_is (d := 0) (Y := Y) I11 (by decide) hR11.2.1 hR11.2.2.1 hR11.2.2.2.1) m_L_is wmL_277 rfl (Nat.le_of_ble_eq_true rfl) (j_fit_rm (by omega) (by omega) (by omega)) rfl (fun E k z => by obtain ⟨_, q, _⟩ := z; cases q) (fun v k z => ?_)
  obtain ⟨A, z1, rfl, I11⟩ := z
  cases z1
  refine j_pc (pc2 := 215) rfl ?_
  refine j_if_eq (tgt := 446) x dL_refused_215 (by decide) (fun hc => absurd hc (by decide)) (fun hc => ?_)
  refine j_aload_n x dL_refused_218 rfl ?_
  refine j_bipush (v := (-2)) x dL_refused_219 (by decide) ?_
  refine j_iconst (v := 0) x dL_refused_221 (by decide) ?_
  refine j_iconst (v := 0) x dL_refused_222 (by decide) ?_
  refine c_call x (PR_rules (u := -2) (v := 0) (w := 0) (r := 1) (z := 0) (Y := Y) I11 (by decide)) dL_refused_223 m_L_rules (by decide) wmL_238 rfl (Nat.le_of_ble_eq_true rfl) (fun mc ms z1 z2 => j_fit_rm (by omega) (by omega) (by omega)) rfl (fun v A B12 I12 hc12 => ?_)
  obtain ⟨rfl, hR12⟩ := hc12
  have S12 := Zr_r S11 hR12
  refine j_pc (pc2 := 226) rfl ?_
  refine j_sipush (v := (-1001)) x dL_refused_226 (by decide) ?_
  refine j_icmp_ne (tgt := 446) x dL_refused_229 (by decide) (fun hc => absurd hc (fun z => z rfl)) (fun hc => ?_)
  refine j_aload_n x dL_refused_232 rfl ?_
  refine j_iconst (v := 0) x dL_refused_233 (by decide) ?_
  refine j_iconst (v := 5) x dL_refused_234 (by decide) ?_
  refine j_iconst (v := 0) x dL_refused_235 (by decide) ?_
  refine c_call x (PR_rules (u := 0) (v := 5) (w := 0) (r := 1) (z := 0) (Y := Y) I12 (by decide)) dL_refused_236 m_L_rules (by decide) wmL_238 rfl (Nat.le_of_ble_eq_true rfl) (fun mc ms z1 z2 => j_fit_rm (by omega) (by omega) (by omega)) rfl (fun v A B13 I13 hc13 => ?_)
  obtain ⟨rfl, hR13⟩ := hc13
  have S13 := Zr_r S12 hR13
  refine j_pc (pc2 := 239) rfl ?_
  refine j_sipush (v := (-1001)) x dL_refused_239 (by decide) ?_
  refine j_icmp_ne (tgt := 446) x dL_refused_242 (by decide) (fun hc => absurd hc (fun z => z rfl)) (fun hc => ?_)
  refine j_aload_n x dL_refused_245 rfl ?_
  refine j_iconst (v := 1) x dL_refused_246 (by decide) ?_
  refine j_iconst (v := 0) x dL_refused_247 (by decide) ?_
  refine j_iconst (v := 0) x dL_refused_248 (by decide) ?_
  refine j_callS x dL_refused_249 (c_is (d := 0) (Y := Y) I13 (by decide) hR13.2.1 hR13.2.2.1 hR13.2.2.2.1) m_L_is wmL_277 rfl (Nat.le_of_ble_eq_true rfl) (j_fit_rm (by omega) (by omega) (by omega)) rfl (fun E k z => by obtain ⟨_, q, _⟩ := z; cases q) (fun v k z => ?_)
  obtain ⟨A, z1, rfl, I13⟩ := z
  cases z1
  refine j_pc (pc2 := 252) rfl ?_
  refine j_if_eq (tgt := 446) x dL_refused_252 (by decide) (fun hc => absurd hc (by decide)) (fun hc => ?_)
  refine j_aload_n x dL_refused_255 rfl ?_
  refine j_iconst (v := 0) x dL_refused_256 (by decide) ?_
  refine j_iconst (v := 1) x dL_refused_257 (by decide) ?_
  refine j_iconst (v := 0) x dL_refused_258 (by decide) ?_
  refine c_call x (PR_rules (u := 0) (v := 1) (w := 0) (r := 13) (z := 0) (Y := Y) I13 (by decide)) dL_refused_259 m_L_rules (by decide) wmL_238 rfl (Nat.le_of_ble_eq_true rfl) (fun mc ms z1 z2 => j_fit_rm (by omega) (by omega) (by omega)) rfl (fun v A B14 I14 hc14 => ?_)
  obtain ⟨rfl, hR14⟩ := hc14
  have S14 := Zr_r S13 hR14
  refine j_pc (pc2 := 262) rfl ?_
  refine j_sipush (v := (-1001)) x dL_refused_262 (by decide) ?_
  refine j_icmp_ne (tgt := 446) x dL_refused_265 (by decide) (fun hc => absurd hc (fun z => z rfl)) (fun hc => ?_)
  refine j_aload_n x dL_refused_268 rfl ?_
  refine j_bipush (v := 13) x dL_refused_269 (by decide) ?_
  refine j_iconst (v := 0) x dL_refused_271 (by decide) ?_
  refine j_iconst (v := 0) x dL_refused_272 (by decide) ?_
  refine j_callS x dL_refused_273 (c_is (d := 0) (Y := Y) I14 (by decide) hR14.2.1 hR14.2.2.1 hR14.2.2.2.1) m_L_is wmL_277 rfl (Nat.le_of_ble_eq_true rfl) (j_fit_rm (by omega) (by omega) (by omega)) rfl (fun E k z => by obtain ⟨_, q, _⟩ := z; cases q) (fun v k z => ?_)
  obtain ⟨A, z1, rfl, I14⟩ := z
  cases z1
  refine j_pc (pc2 := 276) rfl ?_
  refine j_if_eq (tgt := 446) x dL_refused_276 (by decide) (fun hc => absurd hc (by decide)) (fun hc => ?_)
  refine j_aload_n x dL_refused_279 rfl ?_
  refine j_iconst (v := (-1)) x dL_refused_280 (by decide) ?_
  refine j_iconst (v := 4) x dL_refused_281 (by decide) ?_
  refine j_iconst (v := 4) x dL_refused_282 (by decide) ?_
  refine c_call x (PR_rules (u := -1) (v := 4) (w := 4) (r := 13) (z := 4) (Y := Y) I14 (by decide)) dL_refused_283 m_L_rules (by decide) wmL_238 rfl (Nat.le_of_ble_eq_true rfl) (fun mc ms z1 z2 => j_fit_rm (by omega) (by omega) (by omega)) rfl (fun v A B15 I15 hc15 => ?_)
  obtain ⟨rfl, hR15⟩ := hc15
  have S15 := Zr_r S14 hR15
  refine j_pc (pc2 := 286) rfl ?_
  refine j_sipush (v := (-1001)) x dL_refused_286 (by decide) ?_
  refine j_icmp_ne (tgt := 446) x dL_refused_289 (by decide) (fun hc => absurd hc (fun z => z rfl)) (fun hc => ?_)
  refine j_aload_n x dL_refused_292 rfl ?_
  refine j_bipush (v := 13) x dL_refused_293 (by decide) ?_
  refine j_iconst (v := 4) x dL_refused_295 (by decide) ?_
  refine j_iconst (v := 0) x dL_refused_296 (by decide) ?_
  refine j_callS x dL_refused_297 (c_is (d := 0) (Y := Y) I15 (by decide) hR15.2.1 hR15.2.2.1 hR15.2.2.2.1) m_L_is wmL_277 rfl (Nat.le_of_ble_eq_true rfl) (j_fit_rm (by omega) (by omega) (by omega)) rfl (fun E k z => by obtain ⟨_, q, _⟩ := z; cases q) (fun v k z => ?_)
  obtain ⟨A, z1, rfl, I15⟩ := z
  cases z1
  refine j_pc (pc2 := 300) rfl ?_
  refine j_if_eq (tgt := 446) x dL_refused_300 (by decide) (fun hc => absurd hc (by decide)) (fun hc => ?_)
  refine j_aload_n x dL_refused_303 rfl ?_
  refine j_iload_n x dL_refused_304 rfl ?_
  refine j_bipush (v := 99) x dL_refused_305 (by decide) ?_
  refine j_iconst (v := 0) x dL_refused_307 (by decide) ?_
  refine c_call x (PR_result (u := nI (nn t true)) (v := 99) (w := 0) (Y := Y) I15 (rRes_out I15 S15.2.2)) dL_refused_308 m_L_result (by decide) wmL_179 rfl (Nat.le_of_ble_eq_true rfl) (fun mc ms z1 z2 => j_fit_rm (by omega) (by omega) (by omega)) rfl (fun v A B16 I16 hc16 => ?_)
  obtain ⟨rfl, hR16⟩ := hc16
  have S16 := Zr_r S15 hR16
  refine j_pc (pc2 := 311) rfl ?_
  refine j_sipush (v := (-1001)) x dL_refused_311 (by decide) ?_
  refine j_icmp_ne (tgt := 446) x dL_refused_314 (by decide) (fun hc => absurd hc (fun z => z rfl)) (fun hc => ?_)
  refine j_aload_n x dL_refused_317 rfl ?_
  refine j_iconst (v := 3) x dL_refused_318 (by decide) ?_
  refine j_iload_n x dL_refused_319 rfl ?_
  refine j_iconst (v := 0) x dL_refused_320 (by decide) ?_
  refine j_callS x dL_refused_321 (c_is (d := 0) (Y := Y) I16 (by decide) hR16.2.1 hR16.2.2.1 hR16.2.2.2.1) m_L_is wmL_277 rfl (Nat.le_of_ble_eq_true rfl) (j_fit_rm (by omega) (by omega) (by omega)) rfl (fun E k z => by obtain ⟨_, q, _⟩ := z; cases q) (fun v k z => ?_)
  obtain ⟨A, z1, rfl, I16⟩ := z
  cases z1
  refine j_pc (pc2 := 324) rfl ?_
  refine j_if_eq (tgt := 446) x dL_refused_324 (by decide) (fun hc => absurd hc (by decide)) (fun hc => ?_)
  refine j_aload_n x dL_refused_327 rfl ?_
  refine j_iconst (v := 0) x dL_refused_328 (by decide) ?_
  refine j_bipush (v := 21) x dL_refused_329 (by decide) ?_
  refine j_iconst (v := 0) x dL_refused_331 (by decide) ?_
  refine c_call x (PR_result (u := 0) (v := 21) (w := 0) (Y := Y) I16 (rRes_b I16 S16.2.2 (by decide))) dL_refused_332 m_L_result (by decide) wmL_179 rfl (Nat.le_of_ble_eq_true rfl) (fun mc ms z1 z2 => j_fit_rm (by omega) (by omega) (by omega)) rfl (fun v A B17 I17 hc17 => ?_)
  obtain ⟨rfl, hR17⟩ := hc17
  have S17 := Zr_r S16 hR17
  refine j_pc (pc2 := 335) rfl ?_
  refine j_sipush (v := (-1001)) x dL_refused_335 (by decide) ?_
  refine j_icmp_ne (tgt := 446) x dL_refused_338 (by decide) (fun hc => absurd hc (fun z => z rfl)) (fun hc => ?_)
  refine j_aload_n x dL_refused_341 rfl ?_
  refine j_iconst (v := 0) x dL_refused_342 (by decide) ?_
  refine j_iconst (v := 0) x dL_refused_343 (by decide) ?_
  refine j_iconst (v := (-1)) x dL_refused_344 (by decide) ?_
  refine c_call x (PR_result (u := 0) (v := 0) (w := -1) (Y := Y) I17 (rRes_b I17 S17.2.2 (by decide))) dL_refused_345 m_L_result (by decide) wmL_179 rfl (Nat.le_of_ble_eq_true rfl) (fun mc ms z1 z2 => j_fit_rm (by omega) (by omega) (by omega)) rfl (fun v A B18 I18 hc18 => ?_)
  obtain ⟨rfl, hR18⟩ := hc18
  have S18 := Zr_r S17 hR18
  refine j_pc (pc2 := 348) rfl ?_
  refine j_sipush (v := (-1001)) x dL_refused_348 (by decide) ?_
  refine j_icmp_ne (tgt := 446) x dL_refused_351 (by decide) (fun hc => absurd hc (fun z => z rfl)) (fun hc => ?_)
  refine j_aload_n x dL_refused_354 rfl ?_
  refine j_iconst (v := 1) x dL_refused_355 (by decide) ?_
  refine j_iconst (v := 0) x dL_refused_356 (by decide) ?_
  refine j_iconst (v := 0) x dL_refused_357 (by decide) ?_
  refine j_callS x dL_refused_358 (c_is (d := 0) (Y := Y) I18 (by decide) hR18.2.1 hR18.2.2.1 hR18.2.2.2.1) m_L_is wmL_277 rfl (Nat.le_of_ble_eq_true rfl) (j_fit_rm (by omega) (by omega) (by omega)) rfl (fun E k z => by obtain ⟨_, q, _⟩ := z; cases q) (fun v k z => ?_)
  obtain ⟨A, z1, rfl, I18⟩ := z
  cases z1
  refine j_pc (pc2 := 361) rfl ?_
  refine j_if_eq (tgt := 446) x dL_refused_361 (by decide) (fun hc => absurd hc (by decide)) (fun hc => ?_)
  refine j_aload_n x dL_refused_364 rfl ?_
  refine j_iconst (v := (-1)) x dL_refused_365 (by decide) ?_
  refine c_call x (PR_back (u := -1) (Y := Y) I18 (rBack_out I18 S18.2.2)) dL_refused_366 m_L_back (by decide) wmL_240 rfl (Nat.le_of_ble_eq_true rfl) (fun mc ms z1 z2 => j_fit_rm (by omega) (by omega) (by omega)) rfl (fun v A B19 I19 hc19 => ?_)
  obtain ⟨rfl, hR19⟩ := hc19
  have S19 := Zr_r S18 hR19
  refine j_pc (pc2 := 369) rfl ?_
  refine j_sipush (v := (-1001)) x dL_refused_369 (by decide) ?_
  refine j_icmp_ne (tgt := 446) x dL_refused_372 (by decide) (fun hc => absurd hc (fun z => z rfl)) (fun hc => ?_)
  refine j_aload_n x dL_refused_375 rfl ?_
  refine j_iconst (v := 3) x dL_refused_376 (by decide) ?_
  refine j_iconst (v := (-1)) x dL_refused_377 (by decide) ?_
  refine j_iconst (v := 0) x dL_refused_378 (by decide) ?_
  refine j_callS x dL_refused_379 (c_is (d := 0) (Y := Y) I19 (by decide) hR19.2.1 hR19.2.2.1 hR19.2.2.2.1) m_L_is wmL_277 rfl (Nat.le_of_ble_eq_true rfl) (j_fit_rm (by omega) (by omega) (by omega)) rfl (fun E k z => by obtain ⟨_, q, _⟩ := z; cases q) (fun v k z => ?_)
  obtain ⟨A, z1, rfl, I19⟩ := z
  cases z1
  refine j_pc (pc2 := 382) rfl ?_
  refine j_if_eq (tgt := 446) x dL_refused_382 (by decide) (fun hc => absurd hc (by decide)) (fun hc => ?_)
  refine j_aload_n x dL_refused_385 rfl ?_
  refine j_iload_n x dL_refused_386 rfl ?_
  refine j_iconst (v := 0) x dL_refused_387 (by decide) ?_
  refine c_call x (PR_putOff (u := nI (nn t true)) (v := 0) (Y := Y) I19 (rPut_out I19 S19.2.2)) dL_refused_388 m_L_putOff (by decide) wmL_177 rfl (Nat.le_of_ble_eq_true rfl) (fun mc ms z1 z2 => j_fit_rm (by omega) (by omega) (by omega)) rfl (fun v A B20 I20 hc20 => ?_)
  obtain ⟨rfl, hR20⟩ := hc20
  have S20 := Zr_r S19 hR20
  refine j_pc (pc2 := 391) rfl ?_
  refine j_sipush (v := (-1001)) x dL_refused_391 (by decide) ?_
  refine j_icmp_ne (tgt := 446) x dL_refused_394 (by decide) (fun hc => absurd hc (fun z => z rfl)) (fun hc => ?_)
  refine j_aload_n x dL_refused_397 rfl ?_
  refine j_iconst (v := 3) x dL_refused_398 (by decide) ?_
  refine j_iload_n x dL_refused_399 rfl ?_
  refine j_iconst (v := 0) x dL_refused_400 (by decide) ?_
  refine j_callS x dL_refused_401 (c_is (d := 0) (Y := Y) I20 (by decide) hR20.2.1 hR20.2.2.1 hR20.2.2.2.1) m_L_is wmL_277 rfl (Nat.le_of_ble_eq_true rfl) (j_fit_rm (by omega) (by omega) (by omega)) rfl (fun E k z => by obtain ⟨_, q, _⟩ := z; cases q) (fun v k z => ?_)
  obtain ⟨A, z1, rfl, I20⟩ := z
  cases z1
  refine j_pc (pc2 := 404) rfl ?_
  refine j_if_eq (tgt := 446) x dL_refused_404 (by decide) (fun hc => absurd hc (by decide)) (fun hc => ?_)
  refine j_aload_n x dL_refused_407 rfl ?_
  refine j_iconst (v := 0) x dL_refused_408 (by decide) ?_
  refine j_iconst (v := 0) x dL_refused_409 (by decide) ?_
  refine c_call x (PR_putOff (u := 0) (v := 0) (Y := Y) I20 (rPut_b I20 S20.2.2 (by decide))) dL_refused_410 m_L_putOff (by decide) wmL_177 rfl (Nat.le_of_ble_eq_true rfl) (fun mc ms z1 z2 => j_fit_rm (by omega) (by omega) (by omega)) rfl (fun v A B21 I21 hc21 => ?_)
  obtain ⟨rfl, hR21⟩ := hc21
  have S21 := Zr_r S20 hR21
  refine j_pc (pc2 := 413) rfl ?_
  refine j_sipush (v := (-1001)) x dL_refused_413 (by decide) ?_
  refine j_icmp_ne (tgt := 446) x dL_refused_416 (by decide) (fun hc => absurd hc (fun z => z rfl)) (fun hc => ?_)
  refine j_aload_n x dL_refused_419 rfl ?_
  refine j_iconst (v := 0) x dL_refused_420 (by decide) ?_
  refine j_bipush (v := 10) x dL_refused_421 (by decide) ?_
  refine c_call x (PR_putOff (u := 0) (v := 10) (Y := Y) I21 (rPut_b I21 S21.2.2 (by decide))) dL_refused_423 m_L_putOff (by decide) wmL_177 rfl (Nat.le_of_ble_eq_true rfl) (fun mc ms z1 z2 => j_fit_rm (by omega) (by omega) (by omega)) rfl (fun v A B22 I22 hc22 => ?_)
  obtain ⟨rfl, hR22⟩ := hc22
  have S22 := Zr_r S21 hR22
  refine j_pc (pc2 := 426) rfl ?_
  refine j_sipush (v := (-1001)) x dL_refused_426 (by decide) ?_
  refine j_icmp_ne (tgt := 446) x dL_refused_429 (by decide) (fun hc => absurd hc (fun z => z rfl)) (fun hc => ?_)
  refine j_aload_n x dL_refused_432 rfl ?_
  refine j_iconst (v := 1) x dL_refused_433 (by decide) ?_
  refine j_iconst (v := 0) x dL_refused_434 (by decide) ?_
  refine j_iconst (v := 0) x dL_refused_435 (by decide) ?_
  refine j_callS x dL_refused_436 (c_is (d := 0) (Y := Y) I22 (by decide) hR22.2.1 hR22.2.2.1 hR22.2.2.2.1) m_L_is wmL_277 rfl (Nat.le_of_ble_eq_true rfl) (j_fit_rm (by omega) (by omega) (by omega)) rfl (fun E k z => by obtain ⟨_, q, _⟩ := z; cases q) (fun v k z => ?_)
  obtain ⟨A, z1, rfl, I22⟩ := z
  cases z1
  refine j_pc (pc2 := 439) rfl ?_
  refine j_if_eq (tgt := 446) x dL_refused_439 (by decide) (fun hc => absurd hc (by decide)) (fun hc => ?_)
  refine j_iconst (v := 1) x dL_refused_442 (by decide) ?_
  refine j_goto (tgt := 447) x dL_refused_443 (by decide) ?_
  refine j_istore x dL_refused_447 (by decide) rfl ?_
  refine j_iload x dL_refused_449 rfl ?_
  refine j_if_eq (tgt := 861) x dL_refused_451 (by decide) (fun hc => absurd hc (by decide)) (fun hc => ?_)
  refine j_aload_n x dL_refused_454 rfl ?_
  refine j_iload x dL_refused_455 rfl ?_
  refine j_bipush (v := 9) x dL_refused_457 (by decide) ?_
  refine q_call x I22 (Q_teamOf_nt (Y := Y) (x := nI t) (y := 9) I22.hb (I22.L S22.2.2) (I22.F S22.2.2) (nI_out (by omega))) dL_refused_459 m_L_teamOf (by decide) wmL_204 rfl (Nat.le_of_ble_eq_true rfl) (fun mc ms z1 z2 => j_fit_rm (by omega) (by omega) (by omega)) rfl (fun A I22 => ?_)
  refine j_pc (pc2 := 462) rfl ?_
  refine j_sipush (v := (-1001)) x dL_refused_462 (by decide) ?_
  refine j_icmp_ne (tgt := 861) x dL_refused_465 (by decide) (fun hc => absurd hc (fun z => z rfl)) (fun hc => ?_)
  refine j_aload_n x dL_refused_468 rfl ?_
  refine j_iconst (v := 0) x dL_refused_469 (by decide) ?_
  refine j_bipush (v := 9) x dL_refused_470 (by decide) ?_
  refine q_call x I22 (Q_teamOf_bad (Y := Y) (q := 0) (y := 9) I22.hb (I22.L S22.2.2) (I22.F S22.2.2) (by omega) (by decide)) dL_refused_472 m_L_teamOf (by decide) wmL_204 rfl (Nat.le_of_ble_eq_true rfl) (fun mc ms z1 z2 => j_fit_rm (by omega) (by omega) (by omega)) rfl (fun A I22 => ?_)
  refine j_pc (pc2 := 475) rfl ?_
  refine j_sipush (v := (-1002)) x dL_refused_475 (by decide) ?_
  refine j_icmp_ne (tgt := 861) x dL_refused_478 (by decide) (fun hc => absurd hc (fun z => z rfl)) (fun hc => ?_)
  refine j_aload_n x dL_refused_481 rfl ?_
  refine j_iconst (v := 0) x dL_refused_482 (by decide) ?_
  refine j_iconst (v := (-1)) x dL_refused_483 (by decide) ?_
  refine q_call x I22 (Q_teamOf_bad (Y := Y) (q := 0) (y := -1) I22.hb (I22.L S22.2.2) (I22.F S22.2.2) (by omega) (by decide)) dL_refused_484 m_L_teamOf (by decide) wmL_204 rfl (Nat.le_of_ble_eq_true rfl) (fun mc ms z1 z2 => j_fit_rm (by omega) (by omega) (by omega)) rfl (fun A I22 => ?_)
  refine j_pc (pc2 := 487) rfl ?_
  refine j_sipush (v := (-1002)) x dL_refused_487 (by decide) ?_
  refine j_icmp_ne (tgt := 861) x dL_refused_490 (by decide) (fun hc => absurd hc (fun z => z rfl)) (fun hc => ?_)
  refine j_aload_n x dL_refused_493 rfl ?_
  refine j_iload x dL_refused_494 rfl ?_
  refine q_call x I22 (Q_pointsAgain_nt (Y := Y) (x := nI t) I22.hb (I22.L S22.2.2) (I22.F S22.2.2) (nI_out (by omega))) dL_refused_496 m_L_pointsAgain (by decide) wmL_208 rfl (Nat.le_of_ble_eq_true rfl) (fun mc ms z1 z2 => j_fit_rm (by omega) (by omega) (by omega)) rfl (fun A I22 => ?_)
  refine j_pc (pc2 := 499) rfl ?_
  refine j_sipush (v := (-1001)) x dL_refused_499 (by decide) ?_
  refine j_icmp_ne (tgt := 861) x dL_refused_502 (by decide) (fun hc => absurd hc (fun z => z rfl)) (fun hc => ?_)
  refine j_aload_n x dL_refused_505 rfl ?_
  refine j_iload_n x dL_refused_506 rfl ?_
  refine j_bipush (v := 9) x dL_refused_507 (by decide) ?_
  refine q_call x I22 (Q_meetingOf_nt (Y := Y) (x := nI (nn t true)) (y := 9) I22.hb (I22.L S22.2.2) (I22.F S22.2.2) (nI_out (by omega))) dL_refused_509 m_L_meetingOf (by decide) wmL_174 rfl (Nat.le_of_ble_eq_true rfl) (fun mc ms z1 z2 => j_fit_rm (by omega) (by omega) (by omega)) rfl (fun A I22 => ?_)
  refine j_pc (pc2 := 512) rfl ?_
  refine j_sipush (v := (-1001)) x dL_refused_512 (by decide) ?_
  refine j_icmp_ne (tgt := 861) x dL_refused_515 (by decide) (fun hc => absurd hc (fun z => z rfl)) (fun hc => ?_)
  refine j_aload_n x dL_refused_518 rfl ?_
  refine j_iconst (v := 0) x dL_refused_519 (by decide) ?_
  refine j_bipush (v := 7) x dL_refused_520 (by decide) ?_
  refine q_call x I22 (Q_meetingOf_bad (Y := Y) (q := 0) (y := 7) I22.hb (I22.L S22.2.2) (I22.F S22.2.2) (I22.n0 S22.2.2) (by decide)) dL_refused_522 m_L_meetingOf (by decide) wmL_174 rfl (Nat.le_of_ble_eq_true rfl) (fun mc ms z1 z2 => j_fit_rm (by omega) (by omega) (by omega)) rfl (fun A I22 => ?_)
  refine j_pc (pc2 := 525) rfl ?_
  refine j_sipush (v := (-1002)) x dL_refused_525 (by decide) ?_
  refine j_icmp_ne (tgt := 861) x dL_refused_528 (by decide) (fun hc => absurd hc (fun z => z rfl)) (fun hc => ?_)
  refine j_aload_n x dL_refused_531 rfl ?_
  refine j_iconst (v := 0) x dL_refused_532 (by decide) ?_
  refine j_iconst (v := (-1)) x dL_refused_533 (by decide) ?_
  refine q_call x I22 (Q_meetingOf_bad (Y := Y) (q := 0) (y := -1) I22.hb (I22.L S22.2.2) (I22.F S22.2.2) (I22.n0 S22.2.2) (by decide)) dL_refused_534 m_L_meetingOf (by decide) wmL_174 rfl (Nat.le_of_ble_eq_true rfl) (fun mc ms z1 z2 => j_fit_rm (by omega) (by omega) (by omega)) rfl (fun A I22 => ?_)
  refine j_pc (pc2 := 537) rfl ?_
  refine j_sipush (v := (-1002)) x dL_refused_537 (by decide) ?_
  refine j_icmp_ne (tgt := 861) x dL_refused_540 (by decide) (fun hc => absurd hc (fun z => z rfl)) (fun hc => ?_)
  refine j_aload_n x dL_refused_543 rfl ?_
  refine j_iload x dL_refused_544 rfl ?_
  refine j_iconst (v := 0) x dL_refused_546 (by decide) ?_
  refine q_call x I22 (Q_find_nt (Y := Y) (x := nI t) (y := 0) I22.hb (I22.L S22.2.2) (I22.F S22.2.2) (fun z => (nI_out (by omega)) z.1)) dL_refused_547 m_L_find (by decide) wmL_226 rfl (Nat.le_of_ble_eq_true rfl) (fun mc ms z1 z2 => j_fit_rm (by omega) (by omega) (by omega)) rfl (fun A I22 => ?_)
  refine j_pc (pc2 := 550) rfl ?_
  refine j_sipush (v := (-1001)) x dL_refused_550 (by decide) ?_
  refine j_icmp_ne (tgt := 861) x dL_refused_553 (by decide) (fun hc => absurd hc (fun z => z rfl)) (fun hc => ?_)
  refine j_aload_n x dL_refused_556 rfl ?_
  refine j_iconst (v := 0) x dL_refused_557 (by decide) ?_
  refine j_iconst (v := (-1)) x dL_refused_558 (by decide) ?_
  refine q_call x I22 (Q_find_nt (Y := Y) (x := 0) (y := -1) I22.hb (I22.L S22.2.2) (I22.F S22.2.2) (fun z => (m1_out (by omega)) z.2)) dL_refused_559 m_L_find (by decide) wmL_226 rfl (Nat.le_of_ble_eq_true rfl) (fun mc ms z1 z2 => j_fit_rm (by omega) (by omega) (by omega)) rfl (fun A I22 => ?_)
  refine j_pc (pc2 := 562) rfl ?_
  refine j_sipush (v := (-1001)) x dL_refused_562 (by decide) ?_
  refine j_icmp_ne (tgt := 861) x dL_refused_565 (by decide) (fun hc => absurd hc (fun z => z rfl)) (fun hc => ?_)
  refine j_aload_n x dL_refused_568 rfl ?_
  refine j_iconst (v := 1) x dL_refused_569 (by decide) ?_
  refine j_iconst (v := 1) x dL_refused_570 (by decide) ?_
  refine q_call x I22 (Q_find_11 (Y := Y) I22 S22.2.2) dL_refused_571 m_L_find (by decide) wmL_226 rfl (Nat.le_of_ble_eq_true rfl) (fun mc ms z1 z2 => j_fit_rm (by omega) (by omega) (by omega)) rfl (fun A I22 => ?_)
  refine j_pc (pc2 := 574) rfl ?_
  refine j_sipush (v := (-1002)) x dL_refused_574 (by decide) ?_
  refine j_icmp_ne (tgt := 861) x dL_refused_577 (by decide) (fun hc => absurd hc (fun z => z rfl)) (fun hc => ?_)
  refine j_aload_n x dL_refused_580 rfl ?_
  refine j_iload x dL_refused_581 rfl ?_
  refine q_call x I22 (Q_byeIn_nt (Y := Y) (x := nI (zz t true)) I22.hb (I22.L S22.2.2) (I22.F S22.2.2) (nI_out (by omega))) dL_refused_583 m_L_byeIn (by decide) wmL_228 rfl (Nat.le_of_ble_eq_true rfl) (fun mc ms z1 z2 => j_fit_rm (by omega) (by omega) (by omega)) rfl (fun A I22 => ?_)
  refine j_pc (pc2 := 586) rfl ?_
  refine j_sipush (v := (-1001)) x dL_refused_586 (by decide) ?_
  refine j_icmp_ne (tgt := 861) x dL_refused_589 (by decide) (fun hc => absurd hc (fun z => z rfl)) (fun hc => ?_)
  refine j_aload_n x dL_refused_592 rfl ?_
  refine j_iconst (v := (-1)) x dL_refused_593 (by decide) ?_
  refine q_call x I22 (Q_byeIn_nt (Y := Y) (x := -1) I22.hb (I22.L S22.2.2) (I22.F S22.2.2) (m1_out (by omega))) dL_refused_594 m_L_byeIn (by decide) wmL_228 rfl (Nat.le_of_ble_eq_true rfl) (fun mc ms z1 z2 => j_fit_rm (by omega) (by omega) (by omega)) rfl (fun A I22 => ?_)
  refine j_pc (pc2 := 597) rfl ?_
  refine j_sipush (v := (-1001)) x dL_refused_597 (by decide) ?_
  refine j_icmp_ne (tgt := 861) x dL_refused_600 (by decide) (fun hc => absurd hc (fun z => z rfl)) (fun hc => ?_)
  refine j_aload_n x dL_refused_603 rfl ?_
  refine j_iload x dL_refused_604 rfl ?_
  refine q_call x I22 (Q_meetingsIn_nt (Y := Y) (x := nI (zz t true)) I22.hb (I22.L S22.2.2) (I22.F S22.2.2) (nI_out (by omega))) dL_refused_606 m_L_meetingsIn (by decide) wmL_230 rfl (Nat.le_of_ble_eq_true rfl) (fun mc ms z1 z2 => j_fit_rm (by omega) (by omega) (by omega)) rfl (fun A I22 => ?_)
  refine j_pc (pc2 := 609) rfl ?_
  refine j_sipush (v := (-1001)) x dL_refused_609 (by decide) ?_
  refine j_icmp_ne (tgt := 861) x dL_refused_612 (by decide) (fun hc => absurd hc (fun z => z rfl)) (fun hc => ?_)
  refine j_aload_n x dL_refused_615 rfl ?_
  refine j_iconst (v := (-1)) x dL_refused_616 (by decide) ?_
  refine q_call x I22 (Q_clashes_nt (Y := Y) (x := -1) I22.hb (I22.L S22.2.2) (I22.F S22.2.2) (m1_out (by omega))) dL_refused_617 m_L_clashes (by decide) wmL_232 rfl (Nat.le_of_ble_eq_true rfl) (fun mc ms z1 z2 => j_fit_rm (by omega) (by omega) (by omega)) rfl (fun A I22 => ?_)
  refine j_pc (pc2 := 620) rfl ?_
  refine j_sipush (v := (-1001)) x dL_refused_620 (by decide) ?_
  refine j_icmp_ne (tgt := 861) x dL_refused_623 (by decide) (fun hc => absurd hc (fun z => z rfl)) (fun hc => ?_)
  refine j_aload_n x dL_refused_626 rfl ?_
  refine j_iload_n x dL_refused_627 rfl ?_
  refine q_call x I22 (Q_freeWeek_nt (Y := Y) (x := nI (nn t true)) I22.hb (I22.L S22.2.2) (I22.F S22.2.2) (nI_out (by omega))) dL_refused_628 m_L_freeWeek (by decide) wmL_224 rfl (Nat.le_of_ble_eq_true rfl) (fun mc ms z1 z2 => j_fit_rm (by omega) (by omega) (by omega)) rfl (fun A I22 => ?_)
  refine j_pc (pc2 := 631) rfl ?_
  refine j_sipush (v := (-1001)) x dL_refused_631 (by decide) ?_
  refine j_icmp_ne (tgt := 861) x dL_refused_634 (by decide) (fun hc => absurd hc (fun z => z rfl)) (fun hc => ?_)
  refine j_aload_n x dL_refused_637 rfl ?_
  refine j_iload x dL_refused_638 rfl ?_
  refine q_call x I22 (Q_ranked_no (Y := Y) (x := nI t) I22.hb (I22.L S22.2.2) (I22.F S22.2.2) (nI_out (by omega))) dL_refused_640 m_L_ranked (by decide) wmL_212 rfl (Nat.le_of_ble_eq_true rfl) (fun mc ms z1 z2 => j_fit_rm (by omega) (by omega) (by omega)) rfl (fun A I22 => ?_)
  refine j_pc (pc2 := 643) rfl ?_
  refine j_sipush (v := (-1001)) x dL_refused_643 (by decide) ?_
  refine j_icmp_ne (tgt := 861) x dL_refused_646 (by decide) (fun hc => absurd hc (fun z => z rfl)) (fun hc => ?_)
  refine j_aload_n x dL_refused_649 rfl ?_
  refine j_iconst (v := (-1)) x dL_refused_650 (by decide) ?_
  refine q_call x I22 (Q_ranked_no (Y := Y) (x := -1) I22.hb (I22.L S22.2.2) (I22.F S22.2.2) (m1_out (by omega))) dL_refused_651 m_L_ranked (by decide) wmL_212 rfl (Nat.le_of_ble_eq_true rfl) (fun mc ms z1 z2 => j_fit_rm (by omega) (by omega) (by omega)) rfl (fun A I22 => ?_)
  refine j_pc (pc2 := 654) rfl ?_
  refine j_sipush (v := (-1001)) x dL_refused_654 (by decide) ?_
  refine j_icmp_ne (tgt := 861) x dL_refused_657 (by decide) (fun hc => absurd hc (fun z => z rfl)) (fun hc => ?_)
  refine j_aload_n x dL_refused_660 rfl ?_
  refine j_iconst (v := (-1)) x dL_refused_661 (by decide) ?_
  refine q_call x I22 (Q_placeOf_nt (Y := Y) (x := -1) I22.hb (I22.L S22.2.2) (I22.F S22.2.2) (m1_out (by omega))) dL_refused_662 m_L_placeOf (by decide) wmL_210 rfl (Nat.le_of_ble_eq_true rfl) (fun mc ms z1 z2 => j_fit_rm (by omega) (by omega) (by omega)) rfl (fun A I22 => ?_)
  refine j_pc (pc2 := 665) rfl ?_
  refine j_sipush (v := (-1001)) x dL_refused_665 (by decide) ?_
  refine j_icmp_ne (tgt := 861) x dL_refused_668 (by decide) (fun hc => absurd hc (fun z => z rfl)) (fun hc => ?_)
  refine j_aload_n x dL_refused_671 rfl ?_
  refine j_iload x dL_refused_672 rfl ?_
  refine j_bipush (v := 9) x dL_refused_674 (by decide) ?_
  refine q_call x I22 (Q_valueOf_nt (Y := Y) (x := nI t) (y := 9) I22.hb (I22.L S22.2.2) (I22.F S22.2.2) (nI_out (by omega))) dL_refused_676 m_L_valueOf (by decide) wmL_206 rfl (Nat.le_of_ble_eq_true rfl) (fun mc ms z1 z2 => j_fit_rm (by omega) (by omega) (by omega)) rfl (fun A I22 => ?_)
  refine j_pc (pc2 := 679) rfl ?_
  refine j_sipush (v := (-1001)) x dL_refused_679 (by decide) ?_
  refine j_icmp_ne (tgt := 861) x dL_refused_682 (by decide) (fun hc => absurd hc (fun z => z rfl)) (fun hc => ?_)
  refine j_aload_n x dL_refused_685 rfl ?_
  refine j_iconst (v := 0) x dL_refused_686 (by decide) ?_
  refine j_iconst (v := 5) x dL_refused_687 (by decide) ?_
  refine q_call x I22 (Q_valueOf_bad (Y := Y) (q := 0) (y := 5) I22.hb (I22.L S22.2.2) (I22.F S22.2.2) (by omega) (by decide)) dL_refused_688 m_L_valueOf (by decide) wmL_206 rfl (Nat.le_of_ble_eq_true rfl) (fun mc ms z1 z2 => j_fit_rm (by omega) (by omega) (by omega)) rfl (fun A I22 => ?_)
  refine j_pc (pc2 := 691) rfl ?_
  refine j_sipush (v := (-1002)) x dL_refused_691 (by decide) ?_
  refine j_icmp_ne (tgt := 861) x dL_refused_694 (by decide) (fun hc => absurd hc (fun z => z rfl)) (fun hc => ?_)
  refine j_aload_n x dL_refused_697 rfl ?_
  refine j_iconst (v := 0) x dL_refused_698 (by decide) ?_
  refine j_iconst (v := (-1)) x dL_refused_699 (by decide) ?_
  refine q_call x I22 (Q_valueOf_bad (Y := Y) (q := 0) (y := -1) I22.hb (I22.L S22.2.2) (I22.F S22.2.2) (by omega) (by decide)) dL_refused_700 m_L_valueOf (by decide) wmL_206 rfl (Nat.le_of_ble_eq_true rfl) (fun mc ms z1 z2 => j_fit_rm (by omega) (by omega) (by omega)) rfl (fun A I22 => ?_)
  refine j_pc (pc2 := 703) rfl ?_
  refine j_sipush (v := (-1002)) x dL_refused_703 (by decide) ?_
  refine j_icmp_ne (tgt := 861) x dL_refused_706 (by decide) (fun hc => absurd hc (fun z => z rfl)) (fun hc => ?_)
  refine j_aload_n x dL_refused_709 rfl ?_
  refine j_iload x dL_refused_710 rfl ?_
  refine q_call x I22 (Q_tied_nt (Y := Y) (x := nI t) I22.hb (I22.L S22.2.2) (I22.F S22.2.2) (nI_out (by omega))) dL_refused_712 m_L_tied (by decide) wmL_214 rfl (Nat.le_of_ble_eq_true rfl) (fun mc ms z1 z2 => j_fit_rm (by omega) (by omega) (by omega)) rfl (fun A I22 => ?_)
  refine j_pc (pc2 := 715) rfl ?_
  refine j_sipush (v := (-1001)) x dL_refused_715 (by decide) ?_
  refine j_icmp_ne (tgt := 861) x dL_refused_718 (by decide) (fun hc => absurd hc (fun z => z rfl)) (fun hc => ?_)
  refine j_aload_n x dL_refused_721 rfl ?_
  refine j_iconst (v := (-1)) x dL_refused_722 (by decide) ?_
  refine q_call x I22 (Q_most_nt (Y := Y) (x := -1) I22.hb (I22.L S22.2.2) (I22.F S22.2.2) (m1_out (by omega))) dL_refused_723 m_L_most (by decide) wmL_216 rfl (Nat.le_of_ble_eq_true rfl) (fun mc ms z1 z2 => j_fit_rm (by omega) (by omega) (by omega)) rfl (fun A I22 => ?_)
  refine j_pc (pc2 := 726) rfl ?_
  refine j_sipush (v := (-1001)) x dL_refused_726 (by decide) ?_
  refine j_icmp_ne (tgt := 861) x dL_refused_729 (by decide) (fun hc => absurd hc (fun z => z rfl)) (fun hc => ?_)
  refine j_aload_n x dL_refused_732 rfl ?_
  refine j_iload x dL_refused_733 rfl ?_
  refine q_call x I22 (Q_isSafe_nt (Y := Y) (x := nI t) I22.hb (I22.L S22.2.2) (I22.F S22.2.2) (nI_out (by omega))) dL_refused_735 m_L_isSafe (by decide) wmL_218 rfl (Nat.le_of_ble_eq_true rfl) (fun mc ms z1 z2 => j_fit_rm (by omega) (by omega) (by omega)) rfl (fun A I22 => ?_)
  refine j_pc (pc2 := 738) rfl ?_
  refine j_sipush (v := (-1001)) x dL_refused_738 (by decide) ?_
  refine j_icmp_ne (tgt := 861) x dL_refused_741 (by decide) (fun hc => absurd hc (fun z => z rfl)) (fun hc => ?_)
  refine j_aload_n x dL_refused_744 rfl ?_
  refine j_iconst (v := (-1)) x dL_refused_745 (by decide) ?_
  refine q_call x I22 (Q_isOut_nt (Y := Y) (x := -1) I22.hb (I22.L S22.2.2) (I22.F S22.2.2) (m1_out (by omega))) dL_refused_746 m_L_isOut (by decide) wmL_220 rfl (Nat.le_of_ble_eq_true rfl) (fun mc ms z1 z2 => j_fit_rm (by omega) (by omega) (by omega)) rfl (fun A I22 => ?_)
  refine j_pc (pc2 := 749) rfl ?_
  refine j_sipush (v := (-1001)) x dL_refused_749 (by decide) ?_
  refine j_icmp_ne (tgt := 861) x dL_refused_752 (by decide) (fun hc => absurd hc (fun z => z rfl)) (fun hc => ?_)
  refine j_aload_n x dL_refused_755 rfl ?_
  refine j_iload x dL_refused_756 rfl ?_
  refine q_call x I22 (Q_run_nt (Y := Y) (x := nI t) I22.hb (I22.L S22.2.2) (I22.F S22.2.2) (nI_out (by omega))) dL_refused_758 m_L_run (by decide) wmL_222 rfl (Nat.le_of_ble_eq_true rfl) (fun mc ms z1 z2 => j_fit_rm (by omega) (by omega) (by omega)) rfl (fun A I22 => ?_)
  refine j_pc (pc2 := 761) rfl ?_
  refine j_sipush (v := (-1001)) x dL_refused_761 (by decide) ?_
  refine j_icmp_ne (tgt := 861) x dL_refused_764 (by decide) (fun hc => absurd hc (fun z => z rfl)) (fun hc => ?_)
  refine j_aload_n x dL_refused_767 rfl ?_
  refine j_iload x dL_refused_768 rfl ?_
  refine q_call x I22 (Q_line_nt (Y := Y) (u := nI t) I22 S22.2.2 (nI_out (by omega))) dL_refused_770 m_L_line (by decide) wmL_157 rfl (Nat.le_of_ble_eq_true rfl) (fun mc ms z1 z2 => j_fit_rm (by omega) (by omega) (by omega)) rfl (fun A I22 => ?_)
  refine j_pc (pc2 := 773) rfl ?_
  refine j_sipush (v := (-1001)) x dL_refused_773 (by decide) ?_
  refine j_icmp_ne (tgt := 861) x dL_refused_776 (by decide) (fun hc => absurd hc (fun z => z rfl)) (fun hc => ?_)
  refine j_aload_n x dL_refused_779 rfl ?_
  refine j_iconst (v := (-1)) x dL_refused_780 (by decide) ?_
  refine q_call x I22 (Q_character_bad (Y := Y) (u := -1) I22 (Or.inl rfl)) dL_refused_781 m_L_character (by decide) wmL_159 rfl (Nat.le_of_ble_eq_true rfl) (fun mc ms z1 z2 => j_fit_rm (by omega) (by omega) (by omega)) rfl (fun A I22 => ?_)
  refine j_pc (pc2 := 784) rfl ?_
  refine j_sipush (v := (-1001)) x dL_refused_784 (by decide) ?_
  refine j_icmp_ne (tgt := 861) x dL_refused_787 (by decide) (fun hc => absurd hc (fun z => z rfl)) (fun hc => ?_)
  refine j_aload_n x dL_refused_790 rfl ?_
  refine j_bipush (v := 40) x dL_refused_791 (by decide) ?_
  refine q_call x I22 (Q_character_bad (Y := Y) (u := 40) I22 (Or.inr rfl)) dL_refused_793 m_L_character (by decide) wmL_159 rfl (Nat.le_of_ble_eq_true rfl) (fun mc ms z1 z2 => j_fit_rm (by omega) (by omega) (by omega)) rfl (fun A I22 => ?_)
  refine j_pc (pc2 := 796) rfl ?_
  refine j_sipush (v := (-1001)) x dL_refused_796 (by decide) ?_
  refine j_icmp_ne (tgt := 861) x dL_refused_799 (by decide) (fun hc => absurd hc (fun z => z rfl)) (fun hc => ?_)
  refine j_aload_n x dL_refused_802 rfl ?_
  refine j_bipush (v := 15) x dL_refused_803 (by decide) ?_
  refine q_call x I22 (Q_account_bad (Y := Y) (x := 15) I22.hb (I22.L S22.2.2) (I22.F S22.2.2) (by decide)) dL_refused_805 m_L_account (by decide) wmL_172 rfl (Nat.le_of_ble_eq_true rfl) (fun mc ms z1 z2 => j_fit_rm (by omega) (by omega) (by omega)) rfl (fun A I22 => ?_)
  refine j_pc (pc2 := 808) rfl ?_
  refine j_sipush (v := (-1001)) x dL_refused_808 (by decide) ?_
  refine j_icmp_ne (tgt := 861) x dL_refused_811 (by decide) (fun hc => absurd hc (fun z => z rfl)) (fun hc => ?_)
  refine j_aload_n x dL_refused_814 rfl ?_
  refine j_iconst (v := (-1)) x dL_refused_815 (by decide) ?_
  refine q_call x I22 (Q_account_bad (Y := Y) (x := -1) I22.hb (I22.L S22.2.2) (I22.F S22.2.2) (by decide)) dL_refused_816 m_L_account (by decide) wmL_172 rfl (Nat.le_of_ble_eq_true rfl) (fun mc ms z1 z2 => j_fit_rm (by omega) (by omega) (by omega)) rfl (fun A I22 => ?_)
  refine j_pc (pc2 := 819) rfl ?_
  refine j_sipush (v := (-1001)) x dL_refused_819 (by decide) ?_
  refine j_icmp_ne (tgt := 861) x dL_refused_822 (by decide) (fun hc => absurd hc (fun z => z rfl)) (fun hc => ?_)
  refine j_aload_n x dL_refused_825 rfl ?_
  refine j_iconst (v := 3) x dL_refused_826 (by decide) ?_
  refine q_call x I22 (Q_reason_bad (Y := Y) (u := 3) I22 (by decide)) dL_refused_827 m_L_reason (by decide) wmL_154 rfl (Nat.le_of_ble_eq_true rfl) (fun mc ms z1 z2 => j_fit_rm (by omega) (by omega) (by omega)) rfl (fun A I22 => ?_)
  refine j_pc (pc2 := 830) rfl ?_
  refine j_sipush (v := (-1001)) x dL_refused_830 (by decide) ?_
  refine j_icmp_ne (tgt := 861) x dL_refused_833 (by decide) (fun hc => absurd hc (fun z => z rfl)) (fun hc => ?_)
  refine j_aload_n x dL_refused_836 rfl ?_
  refine j_iconst (v := (-1)) x dL_refused_837 (by decide) ?_
  refine q_call x I22 (Q_reason_bad (Y := Y) (u := -1) I22 (by decide)) dL_refused_838 m_L_reason (by decide) wmL_154 rfl (Nat.le_of_ble_eq_true rfl) (fun mc ms z1 z2 => j_fit_rm (by omega) (by omega) (by omega)) rfl (fun A I22 => ?_)
  refine j_pc (pc2 := 841) rfl ?_
  refine j_sipush (v := (-1001)) x dL_refused_841 (by decide) ?_
  refine j_icmp_ne (tgt := 861) x dL_refused_844 (by decide) (fun hc => absurd hc (fun z => z rfl)) (fun hc => ?_)
  refine j_aload_n x dL_refused_847 rfl ?_
  refine j_iconst (v := 1) x dL_refused_848 (by decide) ?_
  refine j_iconst (v := 0) x dL_refused_849 (by decide) ?_
  refine j_iconst (v := 0) x dL_refused_850 (by decide) ?_
  refine j_callS x dL_refused_851 (c_is (d := 0) (Y := Y) I22 (by decide) hR22.2.1 hR22.2.2.1 hR22.2.2.2.1) m_L_is wmL_277 rfl (Nat.le_of_ble_eq_true rfl) (j_fit_rm (by omega) (by omega) (by omega)) rfl (fun E k z => by obtain ⟨_, q, _⟩ := z; cases q) (fun v k z => ?_)
  obtain ⟨A, z1, rfl, I22⟩ := z
  cases z1
  refine j_pc (pc2 := 854) rfl ?_
  refine j_if_eq (tgt := 861) x dL_refused_854 (by decide) (fun hc => absurd hc (by decide)) (fun hc => ?_)
  refine j_iconst (v := 1) x dL_refused_857 (by decide) ?_
  refine j_goto (tgt := 862) x dL_refused_858 (by decide) ?_
  refine j_istore x dL_refused_862 (by decide) rfl ?_
  refine j_iload x dL_refused_864 rfl ?_
  refine j_if_eq (tgt := 944) x dL_refused_866 (by decide) (fun hc => absurd hc (by decide)) (fun hc => ?_)
  refine j_aload_n x dL_refused_869 rfl ?_
  refine j_ldcWS x (hK 7 (by decide)) dL_refused_870 ?_
  refine j_callSP kstr_pin hX7 x dL_refused_873 (c_reads_q (d := 0) (Y := Y) (by decide +kernel) I22 S22.2.1) m_L_reads wmL_269 rfl (Nat.le_of_ble_eq_true rfl) (j_fit_rm (by omega) (by omega) (by omega)) rfl (fun E k z => by obtain ⟨_, _, _, q, _⟩ := z; cases q) (fun v k z => ?_)
  obtain ⟨y23, A, B23, z1, rfl, I23, rfl, hZ23⟩ := z
  cases z1
  have S23 := Zr_b S22 hZ23
  refine j_pc (pc2 := 876) rfl ?_
  refine j_sipush (v := (-1001)) x dL_refused_876 (by decide) ?_
  refine j_icmp_ne (tgt := 944) x dL_refused_879 (by decide) (fun hc => absurd hc (fun z => z rfl)) (fun hc => ?_)
  refine j_aload_n x dL_refused_882 rfl ?_
  refine j2_callVi x I23.hb dL_refused_883 m_X5_faultPosition (c_faultPosition (d := 0) (Y := Y) I23.hb) wmL_283 jc_9 rfl rfl rfl (Nat.le_of_ble_eq_true rfl) (j_fit_rm (by omega) (by omega) (by omega)) rfl ?_
  refine j_top (I23.rs.2.2.2.1.trans hZ23.2.2.1) ?_
  refine j_pc (pc2 := 886) rfl ?_
  refine j_if_ne (tgt := 944) x dL_refused_886 (by decide) (fun hc => absurd hc (fun z => z rfl)) (fun hc => ?_)
  refine j_aload_n x dL_refused_889 rfl ?_
  refine j_iconst (v := 1) x dL_refused_890 (by decide) ?_
  refine j_iconst (v := 0) x dL_refused_891 (by decide) ?_
  refine j_iconst (v := 0) x dL_refused_892 (by decide) ?_
  refine j_callS x dL_refused_893 (c_is (d := 0) (Y := Y) I23 (by decide) (hZ23.2.2.2.1.trans (hR22.2.1)) (hZ23.2.2.2.2.1.trans (hR22.2.2.1)) (hZ23.2.2.2.2.2.trans (hR22.2.2.2.1))) m_L_is wmL_277 rfl (Nat.le_of_ble_eq_true rfl) (j_fit_rm (by omega) (by omega) (by omega)) rfl (fun E k z => by obtain ⟨_, q, _⟩ := z; cases q) (fun v k z => ?_)
  obtain ⟨A, z1, rfl, I23⟩ := z
  cases z1
  refine j_pc (pc2 := 896) rfl ?_
  refine j_if_eq (tgt := 944) x dL_refused_896 (by decide) (fun hc => absurd hc (by decide)) (fun hc => ?_)
  refine j_aload_n x dL_refused_899 rfl ?_
  refine j_ldcWS x (hK 8 (by decide)) dL_refused_900 ?_
  refine j_callSP kstr_pin hX8 x dL_refused_903 (c_reads_t (d := 0) (Y := Y) (by decide +kernel) I23 S23.2.1) m_L_reads wmL_269 rfl (Nat.le_of_ble_eq_true rfl) (j_fit_rm (by omega) (by omega) (by omega)) rfl (fun E k z => by obtain ⟨_, _, _, q, _⟩ := z; cases q) (fun v k z => ?_)
  obtain ⟨y24, A, B24, z1, rfl, I24, rfl, hZ24⟩ := z
  cases z1
  have S24 := Zr_b S23 hZ24
  refine j_pc (pc2 := 906) rfl ?_
  refine j_sipush (v := (-1002)) x dL_refused_906 (by decide) ?_
  refine j_icmp_ne (tgt := 944) x dL_refused_909 (by decide) (fun hc => absurd hc (fun z => z rfl)) (fun hc => ?_)
  refine j_aload_n x dL_refused_912 rfl ?_
  refine j_bipush (v := 13) x dL_refused_913 (by decide) ?_
  refine j_iconst (v := 1) x dL_refused_915 (by decide) ?_
  refine j_iconst (v := 1) x dL_refused_916 (by decide) ?_
  refine j_callS x dL_refused_917 (c_is (d := 0) (Y := Y) I24 (by decide) hZ24.2.2.2.1 hZ24.2.2.2.2.1 hZ24.2.2.2.2.2) m_L_is wmL_277 rfl (Nat.le_of_ble_eq_true rfl) (j_fit_rm (by omega) (by omega) (by omega)) rfl (fun E k z => by obtain ⟨_, q, _⟩ := z; cases q) (fun v k z => ?_)
  obtain ⟨A, z1, rfl, I24⟩ := z
  cases z1
  refine j_pc (pc2 := 920) rfl ?_
  refine j_if_eq (tgt := 944) x dL_refused_920 (by decide) (fun hc => absurd hc (by decide)) (fun hc => ?_)
  refine j_aload_n x dL_refused_923 rfl ?_
  refine j2_callVi x I24.hb dL_refused_924 m_X5_faultPosition (c_faultPosition (d := 0) (Y := Y) I24.hb) wmL_283 jc_9 rfl rfl rfl (Nat.le_of_ble_eq_true rfl) (j_fit_rm (by omega) (by omega) (by omega)) rfl ?_
  refine j_top (I24.rs.2.2.2.1.trans hZ24.2.2.1) ?_
  refine j_pc (pc2 := 927) rfl ?_
  refine j_iconst (v := (-1)) x dL_refused_927 (by decide) ?_
  refine j_icmp_ne (tgt := 944) x dL_refused_928 (by decide) (fun hc => absurd hc (fun z => z rfl)) (fun hc => ?_)
  refine j_aload_n x dL_refused_931 rfl ?_
  refine j_callS x dL_refused_932 (c_asks (d := 0) (Y := Y) I24 S24.2.2) m_L_asks wmL_273 rfl (Nat.le_of_ble_eq_true rfl) (j_fit_rm (by omega) (by omega) (by omega)) rfl (fun E k z => by obtain ⟨_, _, q, _⟩ := z; cases q) (fun v k z => ?_)
  obtain ⟨b, A, z1, rfl, I24⟩ := z
  cases z1
  refine j_pc (pc2 := 935) rfl ?_
  refine j_lload_n x dL_refused_935 rfl ?_
  refine j_lcmp x dL_refused_936 ?_
  rw [show VA (cn B24) t = VA (cn B) t from congrArg (fun z => VA z t) (Zr_cn S24)]
  refine j_if_ne (tgt := 944) x dL_refused_937 (by decide) (fun hc => absurd hc (fun z => z lcmp_0)) (fun hc => ?_)
  refine j_iconst (v := 1) x dL_refused_940 (by decide) ?_
  refine j_goto (tgt := 945) x dL_refused_941 (by decide) ?_
  exact j_zreturn x hr dL_refused_945 (by first | decide | with_reducible exact jb_nar | with_reducible exact jisS_nar | with_reducible exact gno_nar) (by omega) (by omega) ⟨_, A, B24, rfl, rfl, I24, S24.1, S24.2.1⟩
