/-! ===== the law's own StringBuilder: made, read ===== -/
theorem jc_0 : j_cls 0 (RJ0, TJ0, 4) tyJ0 := ⟨rfl, by decide, by decide +kernel, tyJ0_ok, nmJ0⟩
theorem wt_String : Cond.instantiable "java/lang/String" 4 ∈ j_all := j_wd 706 (by decide +kernel) rfl
def g0 : MH := (1, fun _ => (1, 4, fun k => defaultValue (tyJ4 k)))
def bG : SBt := (1, 2, fun _ => 16)
def MG : MM := fun _ _ => 0
theorem LB_0 : LB bG MG 0 := ⟨⟨Or.inl rfl, by decide, by decide, rfl, rfl, fun k => by show fits .byte (.int 0) = true; decide⟩, rfl⟩
theorem HHG_0 {Y : OUt} : ∀ i, i < 2 → (HHG bG Y MG).2 i = (j_fld (j_fld (j_push g0 (102, 16, fun _ => .int 0)) 0 0 (.ref 1)) 0 1 (.int 0)).2 i := fun i hi => by
  rcases (show i = 0 ∨ i = 1 by omega) with rfl | rfl
  · refine Prod.ext rfl (Prod.ext rfl (funext fun k => ?_))
    match k with
    | 0 => rfl
    | 1 => rfl
    | 2 => rfl
    | k + 3 => rfl
  · refine Prod.ext rfl (Prod.ext rfl (funext fun k => ?_))
    exact congrFun (isB_fG (Or.inl rfl) bG Y MG) k
theorem c_asbNew {d : Nat} {Y : OUt} : Con d 1 16 yJ5_init_d00df cJ5_init_d00df 2 none [.ref 0, .int 16] g0 (fun o k => o = .inl none ∧ k = HHG bG Y MG) := by
  refine Con.of (by decide +kernel) (Nat.le_of_ble_eq_true rfl) rfl fun p l e s m args below meth c D tyc A ad0 x hr htab hname => ?_
  change JJ _ _ _ _ _ _ _ _ _ _ _ _ _ _ _ _ _ 0 [some (.ref 0), some (.int 16)] [] _ 0 0
  refine j_aload_n x dJ5_init_d00df_0 rfl ?_
  refine j_objInit x dJ5_init_d00df_1 wmJ5_3 wo_inst wo_code (Nat.le_of_ble_eq_true rfl) (by show 1 ≤ 12 + _; omega) (by show 20 ≤ 150 + 60 * _; omega) ?_
  refine j_gets x dJ5_init_d00df_4 x.2.2.2.2.2.2.2.2.2.2.2.2.2.2.1 wfJ5_18 ?_
  refine j_if_eq (tgt := 25) x dJ5_init_d00df_7 (by decide) (fun hc => absurd hc (by decide)) (fun hc => ?_)
  refine j_aload_n x dJ5_init_d00df_10 rfl ?_
  refine j_iload_n x dJ5_init_d00df_11 rfl ?_
  refine j_newa_byte (N := 16) x dJ5_init_d00df_12 wa_byte (by decide) (by decide) (by decide) (Nat.le_of_ble_eq_true rfl) (Nat.le_of_ble_eq_true rfl) ?_
  refine j_put (i := 0) (k := 0) (v := .ref 1) x dJ5_init_d00df_14 jc_1 wfJ5_15 (by decide) rfl rfl rfl (show 0 < 2 by decide) rfl rfl ?_
  refine j_aload_n x dJ5_init_d00df_17 rfl ?_
  refine j_iconst (v := 0) x dJ5_init_d00df_18 (by decide) ?_
  refine j_put (i := 0) (k := 1) (v := .int 0) x dJ5_init_d00df_19 jc_1 wfJ5_22 (by decide) rfl rfl rfl (show 0 < 2 by decide) rfl rfl ?_
  refine j_goto (tgt := 38) x dJ5_init_d00df_22 (by decide) ?_
  refine j_same (h' := HHG bG Y MG) rfl HHG_0 ?_
  exact j_return x hr dJ5_init_d00df_38 (Nat.le_of_ble_eq_true rfl) (Nat.le_of_ble_eq_true rfl) ⟨rfl, rfl⟩
theorem c_sbNew {d : Nat} {Y : OUt} : Con (d + 1) 1 16 yJ4_init_da8c8 cJ4_init_da8c8 1 none [.ref 0] g0 (fun o k => o = .inl none ∧ k = HHG bG Y MG) := by
  refine Con.of (by decide +kernel) (Nat.le_of_ble_eq_true rfl) rfl fun p l e s m args below meth c D tyc A ad0 x hr htab hname => ?_
  change JJ _ _ _ _ _ _ _ _ _ _ _ _ _ _ _ _ _ 0 [some (.ref 0)] [] _ 0 0
  refine j_aload_n x dJ4_init_da8c8_0 rfl ?_
  refine j_bipush (v := 16) x dJ4_init_da8c8_1 (by decide) ?_
  refine j_callI x dJ4_init_da8c8_3 (c_asbNew (d := d) (Y := Y)) m_J5_init_d00df wmJ4_1 (show 0 < 1 by decide) rfl (Nat.le_of_ble_eq_true rfl) (j_fit_rm (by omega) (Nat.le_of_ble_eq_true rfl) (Nat.le_of_ble_eq_true rfl)) rfl (fun E k z => by cases z.1) (fun v k z => ?_)
  obtain ⟨z1, z2⟩ := z
  obtain rfl := z2.symm
  cases z1
  exact j_return x hr dJ4_init_da8c8_6 (Nat.le_of_ble_eq_true rfl) (Nat.le_of_ble_eq_true rfl) ⟨rfl, rfl⟩
/-- the builder at cell 0 of a store: its row r, c signs -/
def SBh (h : MH) (r c : Nat) : Prop := r < h.1 ∧ (h.2 0).1 = 1 ∧ (h.2 0).2.1 = 4 ∧ (h.2 0).2.2 0 = .ref r ∧ (h.2 0).2.2 1 = .int 0 ∧ (h.2 0).2.2 3 = .int (nI c) ∧ (h.2 r).1 = 102 ∧ (h.2 r).2.1 = 16 ∧ (∀ k, fits .byte (.int (j_int ((h.2 r).2.2 k))) = true) ∧ c < 16
theorem SBh_of {b : SBt} {Y : OUt} {M : MM} {c : Nat} (h : LB b M c) (hc : c < 16) : SBh (HHG b Y M) b.1 c := by
  obtain ⟨⟨h1, h2, h3, h4, h5, h6⟩, h7⟩ := h
  refine ⟨h2, rfl, rfl, rfl, ?_, ?_, isB_tG h1, h4, fun k => ?_, hc⟩
  · show hFG b Y M 0 1 = .int 0
    exact congrArg Value.int h5
  · show hFG b Y M 0 3 = .int (nI c)
    exact congrArg Value.int h7
  · show fits .byte (.int (j_int (hFG b Y M b.1 k))) = true
    rw [isB_fG h1]
    exact h6 k
theorem c_getValH {d : Nat} {h : MH} {r n : Nat} (H : SBh h r n) : Con d 0 0 yJ5_getValue_6d5f1 cJ5_getValue_6d5f1 1 (some (.array .byte)) [.ref 0] h (fun o k => o = .inl (some (.ref r)) ∧ k = h) := by
  refine Con.of (by decide +kernel) (Nat.le_of_ble_eq_true rfl) rfl fun p l e s m args below meth c D tyc A ad0 x hr htab hname => ?_
  change JJ _ _ _ _ _ _ _ _ _ _ _ _ _ _ _ _ _ 0 [some (.ref 0)] [] _ 0 0
  refine j_aload_n x dJ5_getValue_6d5f1_0 rfl ?_
  refine j_get (k := 0) x dJ5_getValue_6d5f1_1 jc_1 wfJ5_15 (by decide) (by have := H.1; omega) H.2.1 H.2.2.1 ?_
  rw [H.2.2.2.1]
  exact j_areturn x hr (Or.inr ⟨_, rfl⟩) dJ5_getValue_6d5f1_4 (Nat.le_refl _) (Nat.le_refl _) ⟨rfl, rfl⟩
theorem c_len5H {d : Nat} {h : MH} {r n : Nat} (H : SBh h r n) : Con d 0 0 yJ5_length_8abf5 cJ5_length_8abf5 1 (some .int) [.ref 0] h (fun o k => o = .inl (some (.int (nI n))) ∧ k = h) := by
  refine Con.of (by decide +kernel) (Nat.le_of_ble_eq_true rfl) rfl fun p l e s m args below meth c D tyc A ad0 x hr htab hname => ?_
  change JJ _ _ _ _ _ _ _ _ _ _ _ _ _ _ _ _ _ 0 [some (.ref 0)] [] _ 0 0
  refine j_aload_n x dJ5_length_8abf5_0 rfl ?_
  refine j_get (k := 3) x dJ5_length_8abf5_1 jc_1 wfJ5_79 (by decide) (by have := H.1; omega) H.2.1 H.2.2.1 ?_
  rw [H.2.2.2.2.2.1]
  exact j_ireturn x hr dJ5_length_8abf5_4 (Nat.le_refl _) (Nat.le_refl _) ⟨rfl, rfl⟩
theorem c_len4H {d : Nat} {h : MH} {r n : Nat} (H : SBh h r n) : Con (d + 1) 0 0 yJ4_length_8abf5 cJ4_length_8abf5 1 (some .int) [.ref 0] h (fun o k => o = .inl (some (.int (nI n))) ∧ k = h) := by
  refine Con.of (by decide +kernel) (Nat.le_of_ble_eq_true rfl) rfl fun p l e s m args below meth c D tyc A ad0 x hr htab hname => ?_
  change JJ _ _ _ _ _ _ _ _ _ _ _ _ _ _ _ _ _ 0 [some (.ref 0)] [] _ 0 0
  refine j_aload_n x dJ4_length_8abf5_0 rfl ?_
  refine j_callSU x dJ4_length_8abf5_1 (c_len5H (d := d) H) ⟨wsame_J5_length_8abf5, wsup_J4, t_J5_length_8abf5, wi_java_lang_AbstractStringBuilder, q_J5_length_8abf5, ⟨by decide, (by show _ = some 0; decide +kernel)⟩, by decide⟩ wmJ4_343 jc_1 (by have := H.1; omega) H.2.1 rfl (Nat.le_of_ble_eq_true rfl) (j_fit_rm (by omega) (by omega) (by omega)) rfl (fun E k z => by cases z.1) (fun v k z => ?_)
  obtain ⟨z1, z2⟩ := z
  obtain rfl := z2.symm
  cases z1
  exact j_ireturn x hr dJ4_length_8abf5_4 (Nat.le_refl _) (Nat.le_refl _) ⟨rfl, rfl⟩
theorem c_latH {d : Nat} {h : MH} {r n : Nat} (H : SBh h r n) : Con d 0 0 yJ5_isLatin1_aae02 cJ5_isLatin1_aae02 1 (some .boolean) [.ref 0] h (fun o k => o = .inl (some (.int 1)) ∧ k = h) := by
  refine Con.of (by decide +kernel) (Nat.le_of_ble_eq_true rfl) rfl fun p l e s m args below meth c D tyc A ad0 x hr htab hname => ?_
  change JJ _ _ _ _ _ _ _ _ _ _ _ _ _ _ _ _ _ 0 [some (.ref 0)] [] _ 0 0
  refine j_gets x dJ5_isLatin1_aae02_0 x.2.2.2.2.2.2.2.2.2.2.2.2.2.2.1 wfJ5_18 ?_
  refine j_if_eq (tgt := 17) x dJ5_isLatin1_aae02_3 (by decide) (fun hc => absurd hc (by decide)) (fun hc => ?_)
  refine j_aload_n x dJ5_isLatin1_aae02_6 rfl ?_
  refine j_get (k := 1) x dJ5_isLatin1_aae02_7 jc_1 wfJ5_22 (by decide) (by have := H.1; omega) H.2.1 H.2.2.1 ?_
  rw [H.2.2.2.2.1]
  refine j_if_ne (tgt := 17) x dJ5_isLatin1_aae02_10 (by decide) (fun hc => absurd hc (fun q => q rfl)) (fun hc => ?_)
  refine j_iconst (v := 1) x dJ5_isLatin1_aae02_13 (by decide) ?_
  refine j_goto (tgt := 18) x dJ5_isLatin1_aae02_14 (by decide) ?_
  exact j_zreturn x hr dJ5_isLatin1_aae02_18 (by decide) (Nat.le_refl _) (Nat.le_refl _) ⟨rfl, rfl⟩
theorem c_chkLen {d : Nat} {h : MH} {n : Nat} (hn : n < 1000) : Con d 0 0 yJ7_checkLength_df160 cJ7_checkLength_df160 2 none [.int 0, .int (nI n)] h (fun o k => o = .inl none ∧ k = h) := by
  refine Con.of (by decide +kernel) (Nat.le_of_ble_eq_true rfl) rfl fun p l e s m args below meth c D tyc A ad0 x hr htab hname => ?_
  change JJ _ _ _ _ _ _ _ _ _ _ _ _ _ _ _ _ _ 0 [some (.int 0), some (.int (nI n))] [] _ 0 0
  refine j_iload_n x dJ7_checkLength_df160_0 rfl ?_
  refine j_iload_n x dJ7_checkLength_df160_1 rfl ?_
  refine j_icmp_ge (tgt := 37) x dJ7_checkLength_df160_2 (by decide) (fun _ => ?_) (fun hc => absurd (nI_pos' (by omega)) hc)
  exact j_return x hr dJ7_checkLength_df160_37 (Nat.le_refl _) (Nat.le_refl _) ⟨rfl, rfl⟩
/-- a new row of n behind the store h -/
def NewRow (h k : MH) (n : Nat) : Prop := k.1 = h.1 + 1 ∧ (∀ i, i < h.1 → k.2 i = h.2 i) ∧ (k.2 h.1).1 = 102 ∧ (k.2 h.1).2.1 = n
theorem c_copyB {d : Nat} {h : MH} {r n : Nat} (hr0 : r < h.1) (ht : (h.2 r).1 = 102) (hl : (h.2 r).2.1 = 16) (hfit : ∀ k, fits .byte (.int (j_int ((h.2 r).2.2 k))) = true) (hn : n < 16) : Con (d + 1) 1 16 yJ7_copyOfRangeByte_39247 cJ7_copyOfRangeByte_39247 5 (some (.array .byte)) [.ref r, .int 0, .int (nI n)] h (fun o k => o = .inl (some (.ref h.1)) ∧ NewRow h k n) := by
  refine Con.of (by decide +kernel) (Nat.le_of_ble_eq_true rfl) rfl fun p l e s m args below meth c D tyc A ad0 x hr htab hname => ?_
  change JJ _ _ _ _ _ _ _ _ _ _ _ _ _ _ _ _ _ 0 [some (.ref r), some (.int 0), some (.int (nI n)), none, none] [] _ 0 0
  have e1 : ju h.2 h.1 ((102, n, fun _ => .int 0) : MC) r = h.2 r := ju_n (by omega)
  refine j_iload_n x dJ7_copyOfRangeByte_39247_0 rfl ?_
  refine j_iload_n x dJ7_copyOfRangeByte_39247_1 rfl ?_
  refine j_callS x dJ7_copyOfRangeByte_39247_2 (c_chkLen (d := d) (n := n) (by omega)) m_J7_checkLength_df160 wmJ7_343 rfl (Nat.le_of_ble_eq_true rfl) (j_fit_rm (by omega) (by omega) (by omega)) rfl (fun E k z => by cases z.1) (fun v k z => ?_)
  obtain ⟨z1, z2⟩ := z
  obtain rfl := z2.symm
  cases z1
  refine j_iload_n x dJ7_copyOfRangeByte_39247_5 rfl ?_
  refine j_iload_n x dJ7_copyOfRangeByte_39247_6 rfl ?_
  refine j_isub x dJ7_copyOfRangeByte_39247_7 ?_; rw [Int32.sub_zero]
  refine j_istore_n x dJ7_copyOfRangeByte_39247_8 (by decide) rfl ?_
  refine j_iload_n x dJ7_copyOfRangeByte_39247_9 rfl ?_
  refine j_newa_byte (N := n) x dJ7_copyOfRangeByte_39247_10 wa_byte (nI_pos (by omega)) (nI_clamp (by omega)) (by omega) (Nat.le_of_ble_eq_true rfl) (by show 0 + n ≤ 16; omega) ?_
  refine j_astore x dJ7_copyOfRangeByte_39247_12 (by decide) rfl ?_
  refine j_aload_n x dJ7_copyOfRangeByte_39247_14 rfl ?_
  refine j_iload_n x dJ7_copyOfRangeByte_39247_15 rfl ?_
  refine j_aload x dJ7_copyOfRangeByte_39247_16 rfl ?_
  refine j_iconst (v := 0) x dJ7_copyOfRangeByte_39247_18 (by decide) ?_
  refine j_aload_n x dJ7_copyOfRangeByte_39247_19 rfl ?_
  refine j_alen (v := 16) (t := 102) x dJ7_copyOfRangeByte_39247_20 (show r < h.1 + 1 by omega) (by show (ju h.2 h.1 _ r).1 = 102; rw [e1]; exact ht) (by decide) (by decide) (by show Int32.ofNat (ju h.2 h.1 _ r).2.1 = 16; rw [e1, hl]; rfl) ?_
  refine j_iload_n x dJ7_copyOfRangeByte_39247_21 rfl ?_
  refine j_isub x dJ7_copyOfRangeByte_39247_22 ?_; rw [Int32.sub_zero]
  refine j_iload_n x dJ7_copyOfRangeByte_39247_23 rfl ?_
  refine j_min x wmath dJ7_copyOfRangeByte_39247_24 wmJ7_304 (Nat.le_of_ble_eq_true rfl) (Nat.le_of_ble_eq_true rfl) (by show 0 + n ≤ 16; omega) ?_
  rw [if_pos (show nI n < 16 from nI_lt (b := 16) hn (by decide))]
  refine j_copyB x dJ7_copyOfRangeByte_39247_27 wmJ7_150 (Nat.le_of_ble_eq_true rfl) (show r < h.1 + 1 by omega) (by show (ju h.2 h.1 _ r).1 = 102; rw [e1]; exact ht) (show h.1 < h.1 + 1 by omega) (by show (ju h.2 h.1 _ h.1).1 = 102; rw [ju_s]) (fun k => by show fits .byte (.int (j_int ((ju h.2 h.1 _ r).2.2 k))) = true; rw [e1]; exact hfit k) (nI_pos (by omega)) (by rw [nI_clamp (by omega)]; show n ≤ (ju h.2 h.1 _ r).2.1; rw [e1, hl]; omega) (by rw [nI_clamp (by omega)]; show n ≤ (ju h.2 h.1 _ h.1).2.1; rw [ju_s]; exact Nat.le_refl _) ?_
  refine j_aload x dJ7_copyOfRangeByte_39247_30 rfl ?_
  refine j_areturn x hr (Or.inr ⟨_, rfl⟩) dJ7_copyOfRangeByte_39247_32 (Nat.le_of_ble_eq_true rfl) (by show 0 + n ≤ 16; omega) ⟨rfl, rfl, fun i hi => ?_, ?_, ?_⟩
  · show ju (ju h.2 h.1 _) h.1 _ i = h.2 i
    rw [ju_n (by omega), ju_n (by omega)]
  · show (ju (ju h.2 h.1 _) h.1 _ h.1).1 = 102
    rw [ju_s]
    show (ju h.2 h.1 _ h.1).1 = 102
    rw [ju_s]
  · show (ju (ju h.2 h.1 _) h.1 _ h.1).2.1 = n
    rw [ju_s]
    show (ju h.2 h.1 _ h.1).2.1 = n
    rw [ju_s]
theorem c_copyR {d : Nat} {h : MH} {r n : Nat} (hr0 : r < h.1) (ht : (h.2 r).1 = 102) (hl : (h.2 r).2.1 = 16) (hfit : ∀ k, fits .byte (.int (j_int ((h.2 r).2.2 k))) = true) (hn : n < 16) : Con (d + 2) 1 16 yJ7_copyOfRange_39247 cJ7_copyOfRange_39247 3 (some (.array .byte)) [.ref r, .int 0, .int (nI n)] h (fun o k => o = .inl (some (.ref h.1)) ∧ NewRow h k n) := by
  refine Con.of (by decide +kernel) (Nat.le_of_ble_eq_true rfl) rfl fun p l e s m args below meth c D tyc A ad0 x hr htab hname => ?_
  change JJ _ _ _ _ _ _ _ _ _ _ _ _ _ _ _ _ _ 0 [some (.ref r), some (.int 0), some (.int (nI n))] [] _ 0 0
  refine j_iload_n x dJ7_copyOfRange_39247_0 rfl ?_
  refine j_if_ne (tgt := 10) x dJ7_copyOfRange_39247_1 (by decide) (fun hc => absurd hc (fun q => q rfl)) (fun hc => ?_)
  refine j_iload_n x dJ7_copyOfRange_39247_4 rfl ?_
  refine j_aload_n x dJ7_copyOfRange_39247_5 rfl ?_
  refine j_alen (v := 16) (t := 102) x dJ7_copyOfRange_39247_6 hr0 ht (by decide) (by decide) (by rw [hl]; rfl) ?_
  refine j_icmp_eq (tgt := 17) x dJ7_copyOfRange_39247_7 (by decide) (fun hc => absurd ((nI_eq (b := 16) (by omega) (by decide)).mp hc) (by omega)) (fun hc => ?_)
  refine j_aload_n x dJ7_copyOfRange_39247_10 rfl ?_
  refine j_iload_n x dJ7_copyOfRange_39247_11 rfl ?_
  refine j_iload_n x dJ7_copyOfRange_39247_12 rfl ?_
  refine j_callS x dJ7_copyOfRange_39247_13 (c_copyB (d := d) hr0 ht hl hfit hn) m_J7_copyOfRangeByte_39247 wmJ7_339 rfl (Nat.le_of_ble_eq_true rfl) (j_fit_rm (by omega) (Nat.le_of_ble_eq_true rfl) (Nat.le_of_ble_eq_true rfl)) rfl (fun E k z => by cases z.1) (fun v k z => ?_)
  obtain ⟨z1, hN⟩ := z
  cases z1
  exact j_areturn x hr (Or.inr ⟨_, rfl⟩) dJ7_copyOfRange_39247_16 (Nat.le_of_ble_eq_true rfl) (Nat.le_of_ble_eq_true rfl) ⟨rfl, hN⟩
/-- a String at cell q, its n signs at cell q + 1, behind the store h -/
def NewStr (h k : MH) (n : Nat) : Prop := k.1 = h.1 + 2 ∧ (k.2 h.1).1 = 0 ∧ (k.2 h.1).2.1 = 4 ∧ (k.2 h.1).2.2 0 = .ref (h.1 + 1) ∧ (k.2 h.1).2.2 1 = .int 0 ∧ (k.2 (h.1 + 1)).1 = 102 ∧ (k.2 (h.1 + 1)).2.1 = n
theorem mU_getVal : j_mU yJ5_getValue_6d5f1 cJ5_getValue_6d5f1 1 (some (.array .byte)) 0 := ⟨wsame_J5_getValue_6d5f1, t_J5_getValue_6d5f1, wi_java_lang_AbstractStringBuilder, q_J5_getValue_6d5f1, ⟨by decide +kernel, by decide +kernel, by decide +kernel⟩, by decide, j_wd 1343 (by decide +kernel) rfl⟩
theorem wsel_len : Cond.selects "java/lang/StringBuilder" yJ5_length_8abf5 yJ4_length_8abf5 ∈ j_all := j_wd 1348 (by decide +kernel) rfl
theorem SBh_push {h : MH} {r n : Nat} {c : MC} (H : SBh h r n) : SBh (j_push h c) r n := by
  have e0 : (j_push h c).2 0 = h.2 0 := ju_n (by have := H.1; omega)
  have er : (j_push h c).2 r = h.2 r := ju_n (by have := H.1; omega)
  unfold SBh at H ⊢
  rw [e0, er]
  exact ⟨Nat.lt_succ_of_lt H.1, H.2⟩
theorem j_fld_o {h : MH} {i k j : Nat} {v : Value} (hj : j ≠ i) : (j_fld h i k v).2 j = h.2 j := ju_n hj
theorem j_fld_s {h : MH} {i k : Nat} {v : Value} : (j_fld h i k v).2 i = ((h.2 i).1, (h.2 i).2.1, ju (h.2 i).2.2 k v) := ju_s
theorem SBh_fld {h : MH} {r n i k : Nat} {v : Value} (H : SBh h r n) (h0 : i ≠ 0) (hi : i ≠ r) : SBh (j_fld h i k v) r n := by
  unfold SBh at H ⊢
  rw [j_fld_o (fun z => h0 z.symm), j_fld_o (fun z => hi z.symm)]
  exact H
theorem c_strNew {d : Nat} {h0 : MH} {r n : Nat} (H0 : SBh h0 r n) : Con (d + 3) 1 16 yJ0_init_db425 cJ0_init_db425 5 none [.ref h0.1, .ref 0, .null] (j_push h0 (0, 4, fun k => defaultValue (tyJ0 k))) (fun o k => o = .inl none ∧ NewStr h0 k n) := by
  obtain ⟨h, eh⟩ : ∃ h, j_push h0 (0, 4, fun k => defaultValue (tyJ0 k)) = h := ⟨_, rfl⟩
  have H : SBh h r n := eh ▸ SBh_push H0
  have q1 : h.1 = h0.1 + 1 := by rw [← eh]; rfl
  have q2 : h.2 h0.1 = (0, 4, fun k => defaultValue (tyJ0 k)) := by rw [← eh]; exact ju_s
  have q3 : h0.1 < h.1 := by omega
  have hr1 := H0.1
  have hn16 : n < 16 := H.2.2.2.2.2.2.2.2.2
  rw [eh]
  refine Con.of (by decide +kernel) (Nat.le_of_ble_eq_true rfl) rfl fun p l e s m args below meth c D tyc A ad0 x hr htab hname => ?_
  change JJ _ _ _ _ _ _ _ _ _ _ _ _ _ _ _ _ _ 0 [some (.ref h0.1), some (.ref 0), some .null, none, none] [] _ 0 0
  refine j_aload_n x dJ0_init_db425_0 rfl ?_
  refine j_objInit x dJ0_init_db425_1 wmJ0_1 wo_inst wo_code (Nat.le_of_ble_eq_true rfl) (by show 1 ≤ 12 + _; omega) (by show 20 ≤ 150 + 60 * _; omega) ?_
  refine j_aload_n x dJ0_init_db425_4 rfl ?_
  refine j_callVU x dJ0_init_db425_5 (c_getValH (d := d) H) mU_getVal wmJ0_552 jc_1 rfl (by omega) H.2.1 rfl (Nat.le_of_ble_eq_true rfl) (j_fit_rm (by omega) (by omega) (by omega)) rfl (fun E k z => by cases z.1) (fun v k z => ?_)
  obtain ⟨z1, z2⟩ := z
  obtain rfl := z2.symm
  cases z1
  refine j_astore_n x dJ0_init_db425_8 (by decide) rfl ?_
  refine j_aload_n x dJ0_init_db425_9 rfl ?_
  refine j_callVO x dJ0_init_db425_10 (c_len4H (d := d) H) ⟨wsame_J5_length_8abf5, t_J4_length_8abf5, wi_java_lang_StringBuilder, q_J4_length_8abf5, ⟨by decide +kernel, by decide +kernel, (by show _ = some 0; decide +kernel)⟩, by decide, wsel_len⟩ ⟨t_J5_length_8abf5, q_J5_length_8abf5⟩ wmJ0_549 jc_1 rfl (by omega) H.2.1 rfl (Nat.le_of_ble_eq_true rfl) (j_fit_rm (by omega) (by omega) (by omega)) rfl (fun E k z => by cases z.1) (fun v k z => ?_)
  obtain ⟨z1, z2⟩ := z
  obtain rfl := z2.symm
  cases z1
  refine j_istore x dJ0_init_db425_13 (by decide) rfl ?_
  refine j_aload_n x dJ0_init_db425_15 rfl ?_
  refine j_callVU x dJ0_init_db425_16 (c_latH (d := d) H) mU_latin wmJ0_1047 jc_1 rfl (by omega) H.2.1 rfl (Nat.le_of_ble_eq_true rfl) (j_fit_rm (by omega) (by omega) (by omega)) rfl (fun E k z => by cases z.1) (fun v k z => ?_)
  obtain ⟨z1, z2⟩ := z
  obtain rfl := z2.symm
  cases z1
  refine j_if_eq (tgt := 41) x dJ0_init_db425_19 (by decide) (fun hc => absurd hc (by decide)) (fun hc => ?_)
  refine j_aload_n x dJ0_init_db425_22 rfl ?_
  refine j_iconst (v := 0) x dJ0_init_db425_23 (by decide) ?_
  refine j_putF (i := h0.1) (k := 1) (v := .int 0) x hname dJ0_init_db425_24 jc_0 wfJ0_15 (by decide) rfl rfl rfl rfl q3 (by rw [q2]) (by rw [q2]) ?_
  have H1 : SBh (j_fld h h0.1 1 (.int 0)) r n := SBh_fld H (by omega) (by omega)
  refine j_aload_n x dJ0_init_db425_27 rfl ?_
  refine j_aload_n x dJ0_init_db425_28 rfl ?_
  refine j_iconst (v := 0) x dJ0_init_db425_29 (by decide) ?_
  refine j_iload x dJ0_init_db425_30 rfl ?_
  refine j_callS x dJ0_init_db425_32 (c_copyR (d := d) H1.1 H1.2.2.2.2.2.2.1 H1.2.2.2.2.2.2.2.1 H1.2.2.2.2.2.2.2.2.1 hn16) m_J7_copyOfRange_39247 wmJ0_54 rfl (Nat.le_of_ble_eq_true rfl) (j_fit_rm (by omega) (Nat.le_of_ble_eq_true rfl) (Nat.le_of_ble_eq_true rfl)) rfl (fun E k z => by cases z.1) (fun v k z => ?_)
  obtain ⟨z1, n1, n2, n3, n4⟩ := z
  cases z1
  have n1 : k.1 = h.1 + 1 := n1
  have n2 : ∀ i, i < h.1 → k.2 i = (j_fld h h0.1 1 (.int 0)).2 i := n2
  have n3 : (k.2 h.1).1 = 102 := n3
  have n4 : (k.2 h.1).2.1 = n := n4
  have e1 : k.2 h0.1 = (0, 4, ju (fun k => defaultValue (tyJ0 k)) 1 (.int 0)) := by rw [n2 _ q3, j_fld_s, q2]
  change JJ _ _ _ _ _ _ _ _ _ _ _ _ _ _ _ _ _ _ _ (.ref h.1 :: .ref h0.1 :: _) k _ _
  refine j_putF (i := h0.1) (k := 0) (v := .ref h.1) x hname dJ0_init_db425_35 jc_0 wfJ0_9 (by decide) rfl rfl rfl rfl (by omega) (by rw [e1]) (by rw [e1]) ?_
  refine j_goto (tgt := 97) x dJ0_init_db425_38 (by decide) ?_
  refine j_return x hr dJ0_init_db425_97 (Nat.le_of_ble_eq_true rfl) (Nat.le_of_ble_eq_true rfl) ⟨rfl, ?_, ?_, ?_, ?_, ?_, ?_, ?_⟩
  · show k.1 = h0.1 + 2; omega
  · rw [j_fld_s, e1]
  · rw [j_fld_s, e1]
  · rw [j_fld_s, e1, q1]
    show ju (ju (fun k => defaultValue (tyJ0 k)) 1 (.int 0)) 0 (.ref (h0.1 + 1)) 0 = .ref (h0.1 + 1)
    exact ju_s
  · rw [j_fld_s, e1]
    show ju (ju (fun k => defaultValue (tyJ0 k)) 1 (.int 0)) 0 (.ref h.1) 1 = .int 0
    rw [ju_n (by decide), ju_s]
  · rw [j_fld_o (by omega), ← q1]; exact n3
  · rw [j_fld_o (by omega), ← q1]; exact n4
theorem m_J0_init_81219 : j_mI yJ0_init_81219 cJ0_init_81219 2 1 := ⟨t_J0_init_81219, wi_java_lang_String, q_J0_init_81219, ⟨by decide +kernel, by decide +kernel, by decide +kernel⟩, Nat.le_of_ble_eq_true rfl, rfl⟩
theorem m_J0_init_db425 : j_mI yJ0_init_db425 cJ0_init_db425 5 2 := ⟨t_J0_init_db425, wi_java_lang_String, q_J0_init_db425, ⟨by decide +kernel, by decide +kernel, by decide +kernel⟩, Nat.le_of_ble_eq_true rfl, rfl⟩
theorem c_strNew1 {d : Nat} {h0 : MH} {r n : Nat} (H0 : SBh h0 r n) : Con (d + 4) 1 16 yJ0_init_81219 cJ0_init_81219 2 none [.ref h0.1, .ref 0] (j_push h0 (0, 4, fun k => defaultValue (tyJ0 k))) (fun o k => o = .inl none ∧ NewStr h0 k n) := by
  refine Con.of (by decide +kernel) (Nat.le_of_ble_eq_true rfl) rfl fun p l e s m args below meth c D tyc A ad0 x hr htab hname => ?_
  change JJ _ _ _ _ _ _ _ _ _ _ _ _ _ _ _ _ _ 0 [some (.ref h0.1), some (.ref 0)] [] _ 0 0
  refine j_aload_n x dJ0_init_81219_0 rfl ?_
  refine j_aload_n x dJ0_init_81219_1 rfl ?_
  refine j_null x dJ0_init_81219_2 ?_
  refine j_callI x dJ0_init_81219_3 (c_strNew (d := d) H0) m_J0_init_db425 wmJ0_489 (show h0.1 < h0.1 + 1 by omega) rfl (Nat.le_of_ble_eq_true rfl) (j_fit_rm (by omega) (Nat.le_of_ble_eq_true rfl) (Nat.le_of_ble_eq_true rfl)) rfl (fun E k z => by cases z.1) (fun v k z => ?_)
  obtain ⟨z1, hN⟩ := z
  cases z1
  exact j_return x hr dJ0_init_81219_6 (Nat.le_of_ble_eq_true rfl) (Nat.le_of_ble_eq_true rfl) ⟨rfl, hN⟩
theorem c_toStr {d : Nat} {h0 : MH} {r n : Nat} (H0 : SBh h0 r n) : Con (d + 5) 2 20 yJ4_toString_0e30d cJ4_toString_0e30d 1 (some (FieldType.object "java/lang/String")) [.ref 0] h0 (fun o k => o = .inl (some (.ref h0.1)) ∧ NewStr h0 k n) := by
  refine Con.of (by decide +kernel) (Nat.le_of_ble_eq_true rfl) rfl fun p l e s m args below meth c D tyc A ad0 x hr htab hname => ?_
  change JJ _ _ _ _ _ _ _ _ _ _ _ _ _ _ _ _ _ 0 [some (.ref 0)] [] _ 0 0
  refine j_new x dJ4_toString_0e30d_0 jc_0 wcJ4_18 wt_String wi_java_lang_String (Nat.le_of_ble_eq_true rfl) (Nat.le_of_ble_eq_true rfl) ?_
  refine j_dup x dJ4_toString_0e30d_3 rfl ?_
  refine j_aload_n x dJ4_toString_0e30d_4 rfl ?_
  refine j_callI x dJ4_toString_0e30d_5 (c_strNew1 (d := d) H0) m_J0_init_81219 wmJ4_137 (show h0.1 < h0.1 + 1 by omega) rfl (Nat.le_of_ble_eq_true rfl) (j_fit_rm (by omega) (Nat.le_of_ble_eq_true rfl) (Nat.le_of_ble_eq_true rfl)) rfl (fun E k z => by cases z.1) (fun v k z => ?_)
  obtain ⟨z1, hN⟩ := z
  cases z1
  exact j_areturn x hr (Or.inl ⟨_, rfl⟩) dJ4_toString_0e30d_8 (Nat.le_of_ble_eq_true rfl) (Nat.le_of_ble_eq_true rfl) ⟨rfl, hN⟩
