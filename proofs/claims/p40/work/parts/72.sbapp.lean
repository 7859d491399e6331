/-! ===== the StringBuilder: appending, reading ===== -/
def sbG (M N : MM) : Prop := ∀ i k, (i < 92 ∨ (93 < i ∧ i < 94)) → N i k = M i k
theorem sbG_F {M N : MM} (h : sbF M N) : sbG M N := fun i k z => h i k (by omega)
theorem sbG_t {M N N2 : MM} (h : sbG M N) (h2 : sbG N N2) : sbG M N2 := fun i k z => (h2 i k z).trans (h i k z)
theorem isB_ne {i : Nat} (h : isB i) : i ≠ 92 ∧ ¬ i < 92 ∧ ¬ (93 < i ∧ i < 94) := by unfold isB at h; omega
theorem sbI_w {b : SBt} {N : MM} {n k : Nat} {v w : Int32} (h : sbI b N n) : sbI b (jm (jm N 92 3 v) b.1 k (vp_nar .byte w)) n := by
  obtain ⟨h1, h2, h3, h4, h5, h6⟩ := h
  have := isB_ne h1
  exact ⟨h1, h2, h3, h4, by rw [jm_n (by omega), jm_n (by omega)]; exact h5, fit_jm (fun c => by rw [jm_n (by omega)]; exact h6 c)⟩
theorem sbG_w {b : SBt} {M N : MM} {k : Nat} {v w : Int32} (hB : isB b.1) (h : sbG M N) : sbG M (jm (jm N 92 3 v) b.1 k w) := fun i j z => by
  have := isB_ne hB
  rw [jm_n (by omega), jm_n (by omega)]; exact h i j z
theorem sbC_w {b : SBt} {N : MM} {k : Nat} {v w : Int32} (hB : isB b.1) : jm (jm N 92 3 v) b.1 k w 92 3 = v := by
  have := isB_ne hB
  rw [jm_n (by omega), jm_s]
theorem c_canEncode {d : Nat} {b : SBt} {Y : OUt} {M : MM} (hb : 94 ≤ b.2.1) {t : Int32} (ht : ¬ 255 < t) : CM (d) 0 0 yJ1_canEncode_fc78d cJ1_canEncode_fc78d 1 (some .boolean) [.int t] b Y M (.inl (some (.int 1))) (M) := by
  refine Con.of (by decide +kernel) (Nat.le_of_ble_eq_true rfl) rfl fun p l e s m args below meth c D tyc A ad0 x hr htab hname => ?_
  change JJ _ _ _ _ _ _ _ _ _ _ _ _ _ _ _ _ _ 0 [some (.int t)] [] _ 0 0
  refine j_iload_n x dJ1_canEncode_fc78d_0 rfl ?_
  refine j_sipush (v := 255) x dJ1_canEncode_fc78d_1 (by decide) ?_
  refine j_icmp_gt (tgt := 11) x dJ1_canEncode_fc78d_4 (by decide) (fun hc => absurd hc (ht)) (fun hc => ?_)
  refine j_iconst (v := 1) x dJ1_canEncode_fc78d_7 (by decide) ?_
  refine j_goto (tgt := 12) x dJ1_canEncode_fc78d_8 (by decide) ?_
  exact j_zreturn x hr dJ1_canEncode_fc78d_12 (by first | decide | with_reducible exact jb_nar | with_reducible exact jisS_nar | with_reducible exact gno_nar) (by omega) (by omega) ⟨rfl, rfl⟩
theorem c_appC5 {d : Nat} {b : SBt} {Y : OUt} {M : MM} (hb : 94 ≤ b.2.1) {n : Nat} (hI : sbI b M n) (hn : n ≤ 202) {c1 : Nat} (hc : M 92 3 = nI c1) (hcn : c1 ≤ n) (hc1 : c1 < 100) {t : Int32} (ht : ¬ 255 < t) : Con (d + 4) 1 202 yJ5_append_3fe6f cJ5_append_3fe6f 2 (some (FieldType.object "java/lang/AbstractStringBuilder")) [.ref 92, .int t] (HH b Y M) (fun o k => o = .inl (some (.ref 92)) ∧ ∃ b2 N n2, k = HH b2 Y N ∧ sbI b2 N n2 ∧ n2 ≤ 202 ∧ c1 + 1 ≤ n2 ∧ sbG M N ∧ N 92 3 = nI (c1 + 1) ∧ (∀ k, k < c1 → N b2.1 k = M b.1 k) ∧ N b2.1 c1 = vp_nar .byte t) := by
  refine Con.of (by decide +kernel) (Nat.le_of_ble_eq_true rfl) rfl fun p l e s m args below meth c D tyc A ad0 x hr htab hname => ?_
  change JJ _ _ _ _ _ _ _ _ _ _ _ _ _ _ _ _ _ 0 [some (.ref 92), some (.int t)] [] _ 0 0
  refine j_aload_n x dJ5_append_3fe6f_0 rfl ?_
  refine j_aload_n x dJ5_append_3fe6f_1 rfl ?_
  refine j2_geti (k := 3) x hb dJ5_append_3fe6f_2 jc_1 wfJ5_79 (by decide) rfl ?_; rw [hc]
  refine j_iconst (v := 1) x dJ5_append_3fe6f_5 (by decide) ?_
  refine j_iadd x dJ5_append_3fe6f_6 ?_; rw [nI_1]
  refine j_callVU x dJ5_append_3fe6f_7 (c_ensure (d := d) (Y := Y) hb hI hn (m1 := c1 + 1) (by omega)) mU_ensure wmJ5_100 jc_1 rfl (show 92 < _ from Nat.lt_of_lt_of_le (by decide) hb) rfl rfl (Nat.le_of_ble_eq_true rfl) (j_fit_rm (by omega) (Nat.le_of_ble_eq_true rfl) (Nat.le_of_ble_eq_true rfl)) rfl (fun E k z => by cases z.1) (fun v h1 hQ => ?_)
  obtain ⟨ho, b1, N1, n1, rfl, hI1, hm1, hn1, hF1, hT1⟩ := hQ
  cases ho
  change JJ _ _ _ _ _ _ _ _ _ _ _ _ _ _ _ _ _ _ _ [] (HH b1 Y N1) _ _
  have hb1 : 94 ≤ b1.2.1 := hI1.2.2.1
  have hc2 : N1 92 3 = nI c1 := (hF1 92 3 (by omega)).trans hc
  refine j_aload_n x dJ5_append_3fe6f_10 rfl ?_
  refine j_callVU x dJ5_append_3fe6f_11 (c_isLatin1 (d := d) (Y := Y) hb1 hI1.2.2.2.2.1) mU_latin wmJ5_83 jc_1 rfl (show 92 < _ from Nat.lt_of_lt_of_le (by decide) hb1) rfl rfl (Nat.le_of_ble_eq_true rfl) (j_fit_rm (by omega) (by omega) (by omega)) rfl jres_no (fun v h1 hQ => ?_); obtain ⟨rfl, rfl⟩ : v = some (.int 1) ∧ h1 = HH b1 Y N1 := ⟨by have := hQ.1; cases this; rfl, hQ.2⟩; change JJ _ _ _ _ _ _ _ _ _ _ _ _ _ _ _ _ _ _ _ (.int 1 :: []) (HH b1 Y N1) _ _
  refine j_if_eq (tgt := 45) x dJ5_append_3fe6f_14 (by decide) (fun hc => absurd hc (by decide)) (fun hc => ?_)
  refine j_iload_n x dJ5_append_3fe6f_17 rfl ?_
  refine j2_callSi x hb1 dJ5_append_3fe6f_18 m_J1_canEncode_fc78d (c_canEncode (d := d) hb1 ht) wmJ5_191 rfl (Nat.le_of_ble_eq_true rfl) (j_fit_rm (by omega) (by omega) (by omega)) rfl ?_
  refine j_if_eq (tgt := 45) x dJ5_append_3fe6f_21 (by decide) (fun hc => absurd hc (by decide)) (fun hc => ?_)
  refine j_aload_n x dJ5_append_3fe6f_24 rfl ?_
  refine j2_vget x hb1 dJ5_append_3fe6f_25 wfJ5_15 ?_
  refine j_aload_n x dJ5_append_3fe6f_28 rfl ?_
  refine j_dup x dJ5_append_3fe6f_29 rfl ?_
  refine j2_geti (k := 3) x hb1 dJ5_append_3fe6f_30 jc_1 wfJ5_79 (by decide) rfl ?_; rw [hc2]
  refine j_dup_x1 x dJ5_append_3fe6f_33 rfl rfl ?_
  refine j_iconst (v := 1) x dJ5_append_3fe6f_34 (by decide) ?_
  refine j_iadd x dJ5_append_3fe6f_35 ?_; rw [nI_1]
  refine j2_puti (k := 3) x hb1 dJ5_append_3fe6f_36 jc_1 wfJ5_79 (by decide) rfl rfl rfl rfl ?_
  refine j_iload_n x dJ5_append_3fe6f_39 rfl ?_
  refine j_i2b x dJ5_append_3fe6f_40 ?_
  refine j2_bst x hI1.1 hI1.2.1 hI1.2.2.2.1 dJ5_append_3fe6f_41 (vp_in_nI (show c1 < n1 by omega) (by omega)) rfl ?_; rw [nI_clamp (by omega)]
  refine j_goto (tgt := 75) x dJ5_append_3fe6f_42 (by decide) ?_
  refine j_aload_n x dJ5_append_3fe6f_75 rfl ?_
  exact j_areturn x hr (Or.inl ⟨_, rfl⟩) dJ5_append_3fe6f_76 (Nat.le_of_ble_eq_true rfl) (Nat.le_of_ble_eq_true rfl) ⟨rfl, b1, _, n1, rfl, sbI_w hI1, hn1, hm1, sbG_w hI1.1 (sbG_F hF1), sbC_w hI1.1, fun k hk => by have := isB_ne hI1.1; rw [jm_n (by omega), jm_n (by omega)]; exact hT1 k (by omega), jm_s.trans (show t.toInt8.toInt32.toInt8.toInt32 = t.toInt8.toInt32 by simp)⟩
theorem c_appI5 {d : Nat} {b : SBt} {Y : OUt} {M : MM} (hb : 94 ≤ b.2.1) {n : Nat} (hI : sbI b M n) (hn : n ≤ 202) {c1 : Nat} (hc : M 92 3 = nI c1) (hcn : c1 ≤ n) (hc1 : c1 < 90) {v1 : Nat} (hv : v1 < 10000) : Con (d + 4) 1 202 yJ5_append_c97b9 cJ5_append_c97b9 4 (some (FieldType.object "java/lang/AbstractStringBuilder")) [.ref 92, .int (nI v1)] (HH b Y M) (fun o k => o = .inl (some (.ref 92)) ∧ ∃ b2 N n2, k = HH b2 Y N ∧ sbI b2 N n2 ∧ n2 ≤ 202 ∧ c1 + dg v1 ≤ n2 ∧ sbG M N ∧ N 92 3 = nI (c1 + dg v1) ∧ (∀ k, k < c1 → N b2.1 k = M b.1 k) ∧ ∀ j, j < dg v1 → N b2.1 (c1 + j) = dgB v1 j) := by
  have hdg := dg_le v1
  refine Con.of (by decide +kernel) (Nat.le_of_ble_eq_true rfl) rfl fun p l e s m args below meth c D tyc A ad0 x hr htab hname => ?_
  change JJ _ _ _ _ _ _ _ _ _ _ _ _ _ _ _ _ _ 0 [some (.ref 92), some (.int (nI v1)), none, none] [] _ 0 0
  refine j_aload_n x dJ5_append_c97b9_0 rfl ?_
  refine j2_geti (k := 3) x hb dJ5_append_c97b9_1 jc_1 wfJ5_79 (by decide) rfl ?_; rw [hc]
  refine j_istore_n x dJ5_append_c97b9_4 (by decide) rfl ?_
  refine j_iload_n x dJ5_append_c97b9_5 rfl ?_
  refine j_iload_n x dJ5_append_c97b9_6 rfl ?_
  refine j2_callSi x hb dJ5_append_c97b9_7 m_J6_stringSize_0f7a4 (c_stringSize (d := d) hb hv) wmJ5_245 rfl (Nat.le_of_ble_eq_true rfl) (j_fit_rm (by omega) (by omega) (by omega)) rfl ?_
  refine j_iadd x dJ5_append_c97b9_10 ?_; rw [nI_add]
  refine j_istore_n x dJ5_append_c97b9_11 (by decide) rfl ?_
  refine j_aload_n x dJ5_append_c97b9_12 rfl ?_
  refine j_iload_n x dJ5_append_c97b9_13 rfl ?_
  refine j_callVU x dJ5_append_c97b9_14 (c_ensure (d := d) (Y := Y) hb hI hn (m1 := c1 + dg v1) (by omega)) mU_ensure wmJ5_100 jc_1 rfl (show 92 < _ from Nat.lt_of_lt_of_le (by decide) hb) rfl rfl (Nat.le_of_ble_eq_true rfl) (j_fit_rm (by omega) (Nat.le_of_ble_eq_true rfl) (Nat.le_of_ble_eq_true rfl)) rfl (fun E k z => by cases z.1) (fun v h1 hQ => ?_)
  obtain ⟨ho, b1, N1, n1, rfl, hI1, hm1, hn1, hF1, hT1⟩ := hQ
  cases ho
  change JJ _ _ _ _ _ _ _ _ _ _ _ _ _ _ _ _ _ _ _ [] (HH b1 Y N1) _ _
  have hb1 : 94 ≤ b1.2.1 := hI1.2.2.1
  have hc2 : N1 92 3 = nI c1 := (hF1 92 3 (by omega)).trans hc
  have hB1 := isB_ne hI1.1
  obtain ⟨N2, w2, hN2, hf2, hR2, hC2⟩ := c_getChars (d := d) (Y := Y) (M := N1) (v := v1) (e1 := c1 + dg v1) hb1 hI1 (by omega) (Nat.le_add_left _ _) hm1 hv
  refine j_aload_n x dJ5_append_c97b9_17 rfl ?_
  refine j_callVU x dJ5_append_c97b9_18 (c_isLatin1 (d := d) (Y := Y) hb1 hI1.2.2.2.2.1) mU_latin wmJ5_83 jc_1 rfl (show 92 < _ from Nat.lt_of_lt_of_le (by decide) hb1) rfl rfl (Nat.le_of_ble_eq_true rfl) (j_fit_rm (by omega) (by omega) (by omega)) rfl jres_no (fun v h1 hQ => ?_); obtain ⟨rfl, rfl⟩ : v = some (.int 1) ∧ h1 = HH b1 Y N1 := ⟨by have := hQ.1; cases this; rfl, hQ.2⟩; change JJ _ _ _ _ _ _ _ _ _ _ _ _ _ _ _ _ _ _ _ (.int 1 :: []) (HH b1 Y N1) _ _
  refine j_if_eq (tgt := 37) x dJ5_append_c97b9_21 (by decide) (fun hc => absurd hc (by decide)) (fun hc => ?_)
  refine j_iload_n x dJ5_append_c97b9_24 rfl ?_
  refine j_iload_n x dJ5_append_c97b9_25 rfl ?_
  refine j_aload_n x dJ5_append_c97b9_26 rfl ?_
  refine j2_vget x hb1 dJ5_append_c97b9_27 wfJ5_15 ?_
  refine j2_callSi x hb1 dJ5_append_c97b9_30 m_J6_getChars_ba4f3 hC2 wmJ5_248 rfl (Nat.le_of_ble_eq_true rfl) (j_fit_rm (by omega) (by omega) (by omega)) rfl ?_
  refine j_pop x dJ5_append_c97b9_33 rfl ?_
  refine j_goto (tgt := 48) x dJ5_append_c97b9_34 (by decide) ?_
  refine j_aload_n x dJ5_append_c97b9_48 rfl ?_
  refine j_iload_n x dJ5_append_c97b9_49 rfl ?_
  refine j2_puti (k := 3) x hb1 dJ5_append_c97b9_50 jc_1 wfJ5_79 (by decide) rfl rfl rfl rfl ?_
  refine j_aload_n x dJ5_append_c97b9_53 rfl ?_
  exact j_areturn x hr (Or.inl ⟨_, rfl⟩) dJ5_append_c97b9_54 (Nat.le_of_ble_eq_true rfl) (Nat.le_of_ble_eq_true rfl) ⟨rfl, b1, _, n1, rfl, ⟨hI1.1, hI1.2.1, hb1, hI1.2.2.2.1, by rw [jm_n (by omega), hN2 92 1 (by omega)]; exact hI1.2.2.2.2.1, fun k => by rw [jm_n (by omega)]; exact hf2 k⟩, hn1, hm1, fun i k z => by rw [jm_n (by omega), hN2 i k (by omega)]; exact sbG_F hF1 i k z, jm_s, fun k hk => by rw [jm_n (by omega), hR2 k, if_neg (by omega)]; exact hT1 k (by omega), fun j hj => by rw [jm_n (by omega), hR2 (c1 + j), if_pos (by omega), show c1 + j - (c1 + dg v1 - dg v1) = j by omega]⟩
theorem c_appC {d : Nat} {b : SBt} {Y : OUt} {M : MM} (hb : 94 ≤ b.2.1) {n : Nat} (hI : sbI b M n) (hn : n ≤ 202) {c1 : Nat} (hc : M 92 3 = nI c1) (hcn : c1 ≤ n) (hc1 : c1 < 100) {t : Int32} (ht : ¬ 255 < t) : Con (d + 5) 1 202 yJ4_append_cf468 cJ4_append_cf468 2 (some (FieldType.object "java/lang/StringBuilder")) [.ref 92, .int t] (HH b Y M) (fun o k => o = .inl (some (.ref 92)) ∧ ∃ b2 N n2, k = HH b2 Y N ∧ sbI b2 N n2 ∧ n2 ≤ 202 ∧ c1 + 1 ≤ n2 ∧ sbG M N ∧ N 92 3 = nI (c1 + 1) ∧ (∀ k, k < c1 → N b2.1 k = M b.1 k) ∧ N b2.1 c1 = vp_nar .byte t) := by
  refine Con.of (by decide +kernel) (Nat.le_of_ble_eq_true rfl) rfl fun p l e s m args below meth c D tyc A ad0 x hr htab hname => ?_
  change JJ _ _ _ _ _ _ _ _ _ _ _ _ _ _ _ _ _ 0 [some (.ref 92), some (.int t)] [] _ 0 0
  refine j_aload_n x dJ4_append_cf468_0 rfl ?_
  refine j_iload_n x dJ4_append_cf468_1 rfl ?_
  refine j_callSU x dJ4_append_cf468_2 (c_appC5 (d := d) (Y := Y) hb hI hn hc hcn hc1 ht) ⟨wsame_J5_append_3fe6f, wsup_J4, t_J5_append_3fe6f, wi_java_lang_AbstractStringBuilder, q_J5_append_3fe6f, ⟨by decide, (by show _ = some 1; decide +kernel)⟩, by decide⟩ wmJ4_50 jc_1 (show 92 < b.2.1 by omega) rfl rfl (Nat.le_of_ble_eq_true rfl) (j_fit_rm (by omega) (Nat.le_of_ble_eq_true rfl) (Nat.le_of_ble_eq_true rfl)) rfl (fun E k z => by cases z.1) (fun v h1 hQ => ?_)
  obtain ⟨ho, b1, N1, n1, rfl, hI1, hn1, hm1, hG1, hc2⟩ := hQ
  cases ho
  change JJ _ _ _ _ _ _ _ _ _ _ _ _ _ _ _ _ _ _ _ [.ref 92] (HH b1 Y N1) _ _
  refine j_pop x dJ4_append_cf468_5 rfl ?_
  refine j_aload_n x dJ4_append_cf468_6 rfl ?_
  exact j_areturn x hr (Or.inl ⟨_, rfl⟩) dJ4_append_cf468_7 (Nat.le_of_ble_eq_true rfl) (Nat.le_of_ble_eq_true rfl) ⟨rfl, b1, N1, n1, rfl, hI1, hn1, hm1, hG1, hc2⟩
theorem c_appI {d : Nat} {b : SBt} {Y : OUt} {M : MM} (hb : 94 ≤ b.2.1) {n : Nat} (hI : sbI b M n) (hn : n ≤ 202) {c1 : Nat} (hc : M 92 3 = nI c1) (hcn : c1 ≤ n) (hc1 : c1 < 90) {v1 : Nat} (hv : v1 < 10000) : Con (d + 5) 1 202 yJ4_append_bf812 cJ4_append_bf812 2 (some (FieldType.object "java/lang/StringBuilder")) [.ref 92, .int (nI v1)] (HH b Y M) (fun o k => o = .inl (some (.ref 92)) ∧ ∃ b2 N n2, k = HH b2 Y N ∧ sbI b2 N n2 ∧ n2 ≤ 202 ∧ c1 + dg v1 ≤ n2 ∧ sbG M N ∧ N 92 3 = nI (c1 + dg v1) ∧ (∀ k, k < c1 → N b2.1 k = M b.1 k) ∧ ∀ j, j < dg v1 → N b2.1 (c1 + j) = dgB v1 j) := by
  refine Con.of (by decide +kernel) (Nat.le_of_ble_eq_true rfl) rfl fun p l e s m args below meth c D tyc A ad0 x hr htab hname => ?_
  change JJ _ _ _ _ _ _ _ _ _ _ _ _ _ _ _ _ _ 0 [some (.ref 92), some (.int (nI v1))] [] _ 0 0
  refine j_aload_n x dJ4_append_bf812_0 rfl ?_
  refine j_iload_n x dJ4_append_bf812_1 rfl ?_
  refine j_callSU x dJ4_append_bf812_2 (c_appI5 (d := d) (Y := Y) hb hI hn hc hcn hc1 hv) ⟨wsame_J5_append_c97b9, wsup_J4, t_J5_append_c97b9, wi_java_lang_AbstractStringBuilder, q_J5_append_c97b9, ⟨by decide, (by show _ = some 1; decide +kernel)⟩, by decide⟩ wmJ4_53 jc_1 (show 92 < b.2.1 by omega) rfl rfl (Nat.le_of_ble_eq_true rfl) (j_fit_rm (by omega) (Nat.le_of_ble_eq_true rfl) (Nat.le_of_ble_eq_true rfl)) rfl (fun E k z => by cases z.1) (fun v h1 hQ => ?_)
  obtain ⟨ho, b1, N1, n1, rfl, hI1, hn1, hm1, hG1, hc2⟩ := hQ
  cases ho
  change JJ _ _ _ _ _ _ _ _ _ _ _ _ _ _ _ _ _ _ _ [.ref 92] (HH b1 Y N1) _ _
  refine j_pop x dJ4_append_bf812_5 rfl ?_
  refine j_aload_n x dJ4_append_bf812_6 rfl ?_
  exact j_areturn x hr (Or.inl ⟨_, rfl⟩) dJ4_append_bf812_7 (Nat.le_of_ble_eq_true rfl) (Nat.le_of_ble_eq_true rfl) ⟨rfl, b1, N1, n1, rfl, hI1, hn1, hm1, hG1, hc2⟩
theorem c_setLen5 {d : Nat} {b : SBt} {Y : OUt} {M : MM} (hb : 94 ≤ b.2.1) {n : Nat} (hI : sbI b M n) (hn : n ≤ 202) {c1 : Nat} (hc : M 92 3 = nI c1) (hc1 : c1 < 2 ^ 31)  : Con (d + 2) 0 0 yJ5_setLength_d00df cJ5_setLength_d00df 2 none [.ref 92, .int 0] (HH b Y M) (fun o k => o = .inl none ∧ ∃ N, k = HH b Y N ∧ sbI b N n ∧ sbG M N ∧ N 92 3 = 0) := by
  have hc3 : c1 < 2 ^ 31 := hc1
  have hcx := hc
  have hB1 := isB_ne hI.1
  refine Con.of (by decide +kernel) (Nat.le_of_ble_eq_true rfl) rfl fun p l e s m args below meth c D tyc A ad0 x hr htab hname => ?_
  change JJ _ _ _ _ _ _ _ _ _ _ _ _ _ _ _ _ _ 0 [some (.ref 92), some (.int 0)] [] _ 0 0
  refine j_iload_n x dJ5_setLength_d00df_0 rfl ?_
  refine j_if_ge (tgt := 13) x dJ5_setLength_d00df_1 (by decide) (fun hc => ?_) (fun hc => absurd (by decide) hc)
  refine j_aload_n x dJ5_setLength_d00df_13 rfl ?_
  refine j_iload_n x dJ5_setLength_d00df_14 rfl ?_
  refine j_callVU x dJ5_setLength_d00df_15 (c_ensure_no (d := d) (Y := Y) (m1 := 0) hb hI (Nat.zero_le n) (by omega)) mU_ensure wmJ5_100 jc_1 rfl (show 92 < _ from Nat.lt_of_lt_of_le (by decide) hb) rfl rfl (Nat.le_of_ble_eq_true rfl) (j_fit_rm (by omega) (by omega) (by omega)) rfl jres_no (fun v h1 hQ => ?_); obtain ⟨rfl, rfl⟩ : v = none ∧ h1 = HH b Y M := ⟨by have := hQ.1; cases this; rfl, hQ.2⟩; change JJ _ _ _ _ _ _ _ _ _ _ _ _ _ _ _ _ _ _ _ [] (HH b Y M) _ _
  refine j_aload_n x dJ5_setLength_d00df_18 rfl ?_
  refine j2_geti (k := 3) x hb dJ5_setLength_d00df_19 jc_1 wfJ5_79 (by decide) rfl ?_; rw [hcx]
  refine j_iload_n x dJ5_setLength_d00df_22 rfl ?_
  refine j_icmp_ge (tgt := 63) x dJ5_setLength_d00df_23 (by decide) (fun hc => ?_) (fun hc => absurd (nI_pos' (by omega)) hc)
  refine j_aload_n x dJ5_setLength_d00df_63 rfl ?_
  refine j2_geti (k := 3) x hb dJ5_setLength_d00df_64 jc_1 wfJ5_79 (by decide) rfl ?_; rw [hcx]
  refine j_iload_n x dJ5_setLength_d00df_67 rfl ?_
  refine j_icmp_le (tgt := 76) x dJ5_setLength_d00df_68 (by decide) (fun g1 => ?_) (fun g1 => ?_)
  · refine j_aload_n x dJ5_setLength_d00df_76 rfl ?_
    refine j_iload_n x dJ5_setLength_d00df_77 rfl ?_
    refine j2_puti (k := 3) x hb dJ5_setLength_d00df_78 jc_1 wfJ5_79 (by decide) rfl rfl rfl rfl ?_
    exact j_return x hr dJ5_setLength_d00df_81 (by omega) (by omega) ⟨rfl, _, rfl, ⟨hI.1, hI.2.1, hI.2.2.1, hI.2.2.2.1, (jm_n (by omega)).trans hI.2.2.2.2.1, fun k => by rw [jm_n (by omega)]; exact hI.2.2.2.2.2 k⟩, fun i k z => jm_n (by omega), jm_s⟩
  · refine j_aload_n x dJ5_setLength_d00df_71 rfl ?_
    refine j_iconst (v := 1) x dJ5_setLength_d00df_72 (by decide) ?_
    refine j2_puti (k := 2) x hb dJ5_setLength_d00df_73 jc_1 wfJ5_73 (by decide) rfl rfl rfl rfl ?_
    refine j_aload_n x dJ5_setLength_d00df_76 rfl ?_
    refine j_iload_n x dJ5_setLength_d00df_77 rfl ?_
    refine j2_puti (k := 3) x hb dJ5_setLength_d00df_78 jc_1 wfJ5_79 (by decide) rfl rfl rfl rfl ?_
    exact j_return x hr dJ5_setLength_d00df_81 (by omega) (by omega) ⟨rfl, _, rfl, ⟨hI.1, hI.2.1, hI.2.2.1, hI.2.2.2.1, (jm_n (by omega)).trans ((jm_n (by omega)).trans hI.2.2.2.2.1), fun k => by rw [jm_n (by omega), jm_n (by omega)]; exact hI.2.2.2.2.2 k⟩, fun i k z => (jm_n (by omega)).trans (jm_n (by omega)), jm_s⟩
theorem c_setLen {d : Nat} {b : SBt} {Y : OUt} {M : MM} (hb : 94 ≤ b.2.1) {n : Nat} (hI : sbI b M n) (hn : n ≤ 202) {c1 : Nat} (hc : M 92 3 = nI c1) (hc1 : c1 < 2 ^ 31) : Con (d + 3) 0 0 yJ4_setLength_d00df cJ4_setLength_d00df 2 none [.ref 92, .int 0] (HH b Y M) (fun o k => o = .inl none ∧ ∃ N, k = HH b Y N ∧ sbI b N n ∧ sbG M N ∧ N 92 3 = 0) := by
  refine Con.of (by decide +kernel) (Nat.le_of_ble_eq_true rfl) rfl fun p l e s m args below meth c D tyc A ad0 x hr htab hname => ?_
  change JJ _ _ _ _ _ _ _ _ _ _ _ _ _ _ _ _ _ 0 [some (.ref 92), some (.int 0)] [] _ 0 0
  refine j_aload_n x dJ4_setLength_d00df_0 rfl ?_
  refine j_iload_n x dJ4_setLength_d00df_1 rfl ?_
  refine j_callSU x dJ4_setLength_d00df_2 (c_setLen5 (d := d) (Y := Y) hb hI hn hc hc1) ⟨wsame_J5_setLength_d00df, wsup_J4, t_J5_setLength_d00df, wi_java_lang_AbstractStringBuilder, q_J5_setLength_d00df, ⟨by decide, (by show _ = some 1; decide +kernel)⟩, by decide⟩ wmJ4_333 jc_1 (show 92 < b.2.1 by omega) rfl rfl (Nat.le_of_ble_eq_true rfl) (j_fit_rm (by omega) (by omega) (by omega)) rfl (fun E k z => by cases z.1) (fun v h1 hQ => ?_)
  obtain ⟨ho, N1, rfl, hI1, hG1, hc2⟩ := hQ
  cases ho
  change JJ _ _ _ _ _ _ _ _ _ _ _ _ _ _ _ _ _ _ _ [] (HH b Y N1) _ _
  exact j_return x hr dJ4_setLength_d00df_5 (by omega) (by omega) ⟨rfl, N1, rfl, hI1, hG1, hc2⟩
theorem c_pcheck_n {d : Nat} {b : SBt} {Y : OUt} {M : MM} (hb : 94 ≤ b.2.1) {i1 n1 : Nat} (h : i1 < n1) (hn : n1 < 1000) : CM (d) 0 0 yJ3_checkIndex_8e157 cJ3_checkIndex_8e157 3 (some .int) [.int (nI i1), .int (nI n1), .null] b Y M (.inl (some (.int (nI i1)))) (M) := by
  refine Con.of (by decide +kernel) (Nat.le_of_ble_eq_true rfl) rfl fun p l e s m args below meth c D tyc A ad0 x hr htab hname => ?_
  change JJ _ _ _ _ _ _ _ _ _ _ _ _ _ _ _ _ _ 0 [some (.int (nI i1)), some (.int (nI n1)), some (.null)] [] _ 0 0
  refine j_iload_n x dJ3_checkIndex_8e157_0 rfl ?_
  refine j_if_lt (tgt := 9) x dJ3_checkIndex_8e157_1 (by decide) (fun hc => absurd hc (nI_pos (by omega))) (fun hc => ?_)
  refine j_iload_n x dJ3_checkIndex_8e157_4 rfl ?_
  refine j_iload_n x dJ3_checkIndex_8e157_5 rfl ?_
  refine j_icmp_lt (tgt := 16) x dJ3_checkIndex_8e157_6 (by decide) (fun hc => ?_) (fun hc => absurd (nI_lt h (by omega)) hc)
  refine j_iload_n x dJ3_checkIndex_8e157_16 rfl ?_
  exact j_ireturn x hr dJ3_checkIndex_8e157_17 (by omega) (by omega) ⟨rfl, rfl⟩
theorem c_pcheck_r {d : Nat} {b : SBt} {Y : OUt} {M : MM} (hb : 94 ≤ b.2.1) {a1 : Nat} {i1 n1 : Nat} (h : i1 < n1) (hn : n1 < 1000) : CM (d) 0 0 yJ3_checkIndex_8e157 cJ3_checkIndex_8e157 3 (some .int) [.int (nI i1), .int (nI n1), .retAddr a1] b Y M (.inl (some (.int (nI i1)))) (M) := by
  refine Con.of (by decide +kernel) (Nat.le_of_ble_eq_true rfl) rfl fun p l e s m args below meth c D tyc A ad0 x hr htab hname => ?_
  change JJ _ _ _ _ _ _ _ _ _ _ _ _ _ _ _ _ _ 0 [some (.int (nI i1)), some (.int (nI n1)), some (.retAddr a1)] [] _ 0 0
  refine j_iload_n x dJ3_checkIndex_8e157_0 rfl ?_
  refine j_if_lt (tgt := 9) x dJ3_checkIndex_8e157_1 (by decide) (fun hc => absurd hc (nI_pos (by omega))) (fun hc => ?_)
  refine j_iload_n x dJ3_checkIndex_8e157_4 rfl ?_
  refine j_iload_n x dJ3_checkIndex_8e157_5 rfl ?_
  refine j_icmp_lt (tgt := 16) x dJ3_checkIndex_8e157_6 (by decide) (fun hc => ?_) (fun hc => absurd (nI_lt h (by omega)) hc)
  refine j_iload_n x dJ3_checkIndex_8e157_16 rfl ?_
  exact j_ireturn x hr dJ3_checkIndex_8e157_17 (by omega) (by omega) ⟨rfl, rfl⟩
theorem c_check {d : Nat} {b : SBt} {Y : OUt} {M : MM} (hb : 94 ≤ b.2.1) {i1 n1 : Nat} (h : i1 < n1) (hn : n1 < 1000) : CM (d + 1) 0 0 yJ0_checkIndex_df160 cJ0_checkIndex_df160 2 none [.int (nI i1), .int (nI n1)] b Y M (.inl none) (M) := by
  refine Con.of (by decide +kernel) (Nat.le_of_ble_eq_true rfl) rfl fun p l e s m args below meth c D tyc A ad0 x hr htab hname => ?_
  change JJ _ _ _ _ _ _ _ _ _ _ _ _ _ _ _ _ _ 0 [some (.int (nI i1)), some (.int (nI n1))] [] _ 0 0
  refine j_iload_n x dJ0_checkIndex_df160_0 rfl ?_
  refine j_iload_n x dJ0_checkIndex_df160_1 rfl ?_
  rcases x.2.2.2.2.2.2.2.2.2.2.2.2.2.2.2.2.1 with hZ | ⟨a1, hZ⟩
  · refine j_getsN x dJ0_checkIndex_df160_2 hZ wfJ0_1053 ?_
    refine j2_callSi x hb dJ0_checkIndex_df160_5 m_J3_checkIndex_8e157 (c_pcheck_n (d := d) hb h hn) wmJ0_1059 rfl (Nat.le_of_ble_eq_true rfl) (j_fit_rm (by omega) (by omega) (by omega)) rfl ?_
    refine j_pop x dJ0_checkIndex_df160_8 rfl ?_
    exact j_return x hr dJ0_checkIndex_df160_9 (by omega) (by omega) ⟨rfl, rfl⟩
  · refine j_getsR x dJ0_checkIndex_df160_2 hZ wfJ0_1053 ?_
    refine j2_callSi x hb dJ0_checkIndex_df160_5 m_J3_checkIndex_8e157 (c_pcheck_r (d := d) hb h hn) wmJ0_1059 rfl (Nat.le_of_ble_eq_true rfl) (j_fit_rm (by omega) (by omega) (by omega)) rfl ?_
    refine j_pop x dJ0_checkIndex_df160_8 rfl ?_
    exact j_return x hr dJ0_checkIndex_df160_9 (by omega) (by omega) ⟨rfl, rfl⟩
theorem i2c_n (v : Int32) : ∃ q, q < 65536 ∧ (v.toUInt32 % 65536).toInt32 = nI q := by
  refine ⟨(v.toUInt32 % 65536).toNat, ?_, ?_⟩
  · rw [UInt32.toNat_mod]; exact Nat.mod_lt _ (by decide)
  · have h : ∀ u : UInt32, u.toInt32 = Int32.ofNat u.toNat := fun u => by
      apply Int32.toBitVec_inj.mp
      show u.toBitVec = BitVec.ofNat 32 u.toBitVec.toNat
      simp
    exact h _
theorem i2c_nar (v : Int32) : narrow .char (.int ((v.toUInt32 % 65536).toInt32)) = .int ((v.toUInt32 % 65536).toInt32) := by
  obtain ⟨q, h1, h2⟩ := i2c_n v
  rw [h2]; exact (pk_charN h1).1
theorem c_charAt5 {d : Nat} {b : SBt} {Y : OUt} {M : MM} (hb : 94 ≤ b.2.1) {n : Nat} (hI : sbI b M n) (hn : n ≤ 202) {c1 : Nat} (hc : M 92 3 = nI c1) {i1 : Nat} (h1 : i1 < c1) (h2 : c1 ≤ n) : CM (d + 2) 0 0 yJ5_charAt_5068e cJ5_charAt_5068e 5 (some .char) [.ref 92, .int (nI i1)] b Y M (.inl (some (.int (((M b.1 i1 &&& 255).toUInt32 % 65536).toInt32)))) (M) := by
  refine Con.of (by decide +kernel) (Nat.le_of_ble_eq_true rfl) rfl fun p l e s m args below meth c D tyc A ad0 x hr htab hname => ?_
  change JJ _ _ _ _ _ _ _ _ _ _ _ _ _ _ _ _ _ 0 [some (.ref 92), some (.int (nI i1)), none, none, none] [] _ 0 0
  refine j_aload_n x dJ5_charAt_5068e_0 rfl ?_
  refine j2_geti (k := 1) x hb dJ5_charAt_5068e_1 jc_1 wfJ5_22 (by decide) rfl ?_; rw [hI.2.2.2.2.1]
  refine j_istore_n x dJ5_charAt_5068e_4 (by decide) rfl ?_
  refine j_aload_n x dJ5_charAt_5068e_5 rfl ?_
  refine j2_vget x hb dJ5_charAt_5068e_6 wfJ5_15 ?_
  refine j_astore_n x dJ5_charAt_5068e_9 (by decide) rfl ?_
  refine j_aload_n x dJ5_charAt_5068e_10 rfl ?_
  refine j2_geti (k := 3) x hb dJ5_charAt_5068e_11 jc_1 wfJ5_79 (by decide) rfl ?_; rw [hc]
  refine j_aload_n x dJ5_charAt_5068e_14 rfl ?_
  refine j2_blen x hI.1 hI.2.1 hI.2.2.2.1 dJ5_charAt_5068e_15 ?_
  refine j_iload_n x dJ5_charAt_5068e_16 rfl ?_
  refine j_ishr x dJ5_charAt_5068e_17 ?_; rw [shr0]
  refine j_min x wmath dJ5_charAt_5068e_18 wmJ5_138 (Nat.le_of_ble_eq_true rfl) (Nat.zero_le _) (Nat.zero_le _) ?_; rw [if_neg (nI_nlt h2 (by omega))]
  refine j_istore x dJ5_charAt_5068e_21 (by decide) rfl ?_
  refine j_iload_n x dJ5_charAt_5068e_23 rfl ?_
  refine j_iload x dJ5_charAt_5068e_24 rfl ?_
  refine j2_callSv x hb dJ5_charAt_5068e_26 m_J0_checkIndex_df160 (c_check (d := d) hb h1 (by omega)) wmJ5_144 rfl (Nat.le_of_ble_eq_true rfl) (j_fit_rm (by omega) (by omega) (by omega)) rfl ?_
  refine j_iload_n x dJ5_charAt_5068e_29 rfl ?_
  refine j_if_ne (tgt := 42) x dJ5_charAt_5068e_30 (by decide) (fun hc => absurd hc (fun q => q rfl)) (fun hc => ?_)
  refine j_aload_n x dJ5_charAt_5068e_33 rfl ?_
  refine j_iload_n x dJ5_charAt_5068e_34 rfl ?_
  refine j2_bld x hI.1 hI.2.1 hI.2.2.2.1 dJ5_charAt_5068e_35 (vp_in_nI (show i1 < n by omega) (by omega)) (by rw [nI_clamp (by omega)]) ?_
  refine j_sipush (v := 255) x dJ5_charAt_5068e_36 (by decide) ?_
  refine j_iand x dJ5_charAt_5068e_39 ?_
  refine j_i2c x dJ5_charAt_5068e_40 ?_
  exact j_zreturn x hr dJ5_charAt_5068e_41 (i2c_nar _) (by omega) (by omega) ⟨rfl, rfl⟩
theorem c_charAt {d : Nat} {b : SBt} {Y : OUt} {M : MM} (hb : 94 ≤ b.2.1) {n : Nat} (hI : sbI b M n) (hn : n ≤ 202) {c1 : Nat} (hc : M 92 3 = nI c1) {i1 : Nat} (h1 : i1 < c1) (h2 : c1 ≤ n) : CM (d + 3) 0 0 yJ4_charAt_5068e cJ4_charAt_5068e 2 (some .char) [.ref 92, .int (nI i1)] b Y M (.inl (some (.int (((M b.1 i1 &&& 255).toUInt32 % 65536).toInt32)))) (M) := by
  refine Con.of (by decide +kernel) (Nat.le_of_ble_eq_true rfl) rfl fun p l e s m args below meth c D tyc A ad0 x hr htab hname => ?_
  change JJ _ _ _ _ _ _ _ _ _ _ _ _ _ _ _ _ _ 0 [some (.ref 92), some (.int (nI i1))] [] _ 0 0
  refine j_aload_n x dJ4_charAt_5068e_0 rfl ?_
  refine j_iload_n x dJ4_charAt_5068e_1 rfl ?_
  refine j_callSU x dJ4_charAt_5068e_2 (c_charAt5 (d := d) (Y := Y) hb hI hn hc h1 h2) ⟨wsame_J5_charAt_5068e, wsup_J4, t_J5_charAt_5068e, wi_java_lang_AbstractStringBuilder, q_J5_charAt_5068e, ⟨by decide, (by show _ = some 1; decide +kernel)⟩, by decide⟩ wmJ4_329 jc_1 (show 92 < b.2.1 by omega) rfl rfl (Nat.le_of_ble_eq_true rfl) (j_fit_rm (by omega) (by omega) (by omega)) rfl jres_no (fun v h1 hQ => ?_)
  obtain ⟨rfl, rfl⟩ : v = some (.int (((M b.1 i1 &&& 255).toUInt32 % 65536).toInt32)) ∧ h1 = HH b Y M := ⟨by have := hQ.1; cases this; rfl, hQ.2⟩
  exact j_zreturn x hr dJ4_charAt_5068e_5 (i2c_nar _) (by omega) (by omega) ⟨rfl, rfl⟩
