/-! ===== is, walked ===== -/
theorem c_is {d : Nat} {b : SBt} {Y : OUt} {A B : MM} {w u v : Int32} (I : InvP b A B) (h0 : ¬ w = 0) (h1 : B 94 14 = w) (h2 : B 94 15 = u) (h3 : B 94 17 = v) : Con (d + 21) 3 18 yL_is cL_is 4 (some .boolean) [.ref 0, .int w, .int u, .int v] (HH b Y A) (fun o k => ∃ A1, o = .inl (some (.int 1)) ∧ k = HH b Y A1 ∧ InvP b A1 B) := by
  refine Con.of (by decide +kernel) (Nat.le_of_ble_eq_true rfl) rfl fun p l e s m args below meth c D tyc A0 ad0 x hr htab hname => ?_
  change JJ _ _ _ _ _ _ _ _ _ _ _ _ _ _ _ _ _ 0 [some (.ref 0), some (.int w), some (.int u), some (.int v)] [] _ 0 0
  refine j_aload_n x dL_is_0 rfl ?_
  refine j_iconst (v := 0) x dL_is_1 (by decide) ?_
  refine q_call x I (Q_reason_0 (Y := Y) I (fun z => h0 (h1.symm.trans z))) dL_is_2 m_L_reason (by decide) wmL_154 rfl (Nat.le_of_ble_eq_true rfl) (fun mc ms z1 z2 => j_fit_rm (by omega) (by omega) (by omega)) rfl (fun A I => ?_)
  refine j_top h1 ?_
  refine j_iload_n x dL_is_5 rfl ?_
  refine j_icmp_ne (tgt := 31) x dL_is_6 (by decide) (fun hc => absurd hc (fun z => z rfl)) (fun hc => ?_)
  refine j_aload_n x dL_is_9 rfl ?_
  refine j_iconst (v := 1) x dL_is_10 (by decide) ?_
  refine q_call x I (Q_reason_1 (Y := Y) I (fun z => h0 (h1.symm.trans z))) dL_is_11 m_L_reason (by decide) wmL_154 rfl (Nat.le_of_ble_eq_true rfl) (fun mc ms z1 z2 => j_fit_rm (by omega) (by omega) (by omega)) rfl (fun A I => ?_)
  refine j_top h2 ?_
  refine j_iload_n x dL_is_14 rfl ?_
  refine j_icmp_ne (tgt := 31) x dL_is_15 (by decide) (fun hc => absurd hc (fun z => z rfl)) (fun hc => ?_)
  refine j_aload_n x dL_is_18 rfl ?_
  refine j_iconst (v := 2) x dL_is_19 (by decide) ?_
  refine q_call x I (Q_reason_2 (Y := Y) I (fun z => h0 (h1.symm.trans z))) dL_is_20 m_L_reason (by decide) wmL_154 rfl (Nat.le_of_ble_eq_true rfl) (fun mc ms z1 z2 => j_fit_rm (by omega) (by omega) (by omega)) rfl (fun A I => ?_)
  refine j_top h3 ?_
  refine j_iload_n x dL_is_23 rfl ?_
  refine j_icmp_ne (tgt := 31) x dL_is_24 (by decide) (fun hc => absurd hc (fun z => z rfl)) (fun hc => ?_)
  refine j_iconst (v := 1) x dL_is_27 (by decide) ?_
  refine j_goto (tgt := 32) x dL_is_28 (by decide) ?_
  exact j_zreturn x hr dL_is_32 (by first | decide | with_reducible exact jb_nar | with_reducible exact jisS_nar | with_reducible exact gno_nar) (by omega) (by omega) ⟨_, rfl, rfl, I⟩
