/-! ===== the law's own StringBuilder: a String, a number appended, where there is room ===== -/
section JCpR
variable {p : Program} {l : Launch} {e : Env} {s : State} {m : MethodId} {args : Array Value} {below : List Frame} {meth : Method} {c : Code} {D : va_G} {tyc : Nat → ClassId} {A : Nat → Prop} {n0 : Nat} {ad0 : Nat → Nat} {nL : Nat} {Qs : State → Prop}
variable {own : String} {cc : ByteArray} {pc : Nat} {L : List (Option Value)} {st : List Value} {h : MH} {cells slots idx a v n : Nat} {xs : Nat → Int32} {R : Room}
theorem j_ifnonnullR (x : j_X p l s m args meth c D tyc A own cc nL) {off : Int} {tgt : Nat} (hd : decode cc pc = .ok (.ifnonnull off, 3)) (ht : (pc : Int) + off = (tgt : Int)) (kk : JJ p l e R s m args below meth c D tyc A n0 ad0 nL Qs tgt L st h cells slots) : JJ p l e R s m args below meth c D tyc A n0 ad0 nL Qs pc L (.retAddr a :: st) h cells slots := by
  intro ad ls H locs I
  exact lv_ifnonnull x.1 x.2.1 hd ht (kk ad ls H locs (I.st fun hs => j_ok_tl hs))
theorem j_copyR {d mc ms : Nat} (x : j_X p l s m args meth c D tyc A own cc nL) (hX : kstr a v n xs A s s.heap) {i dp : Nat} (hd : decode cc pc = .ok (.invokestatic idx, 3)) (hw : Cond.methodLink own idx arraycopyName ∈ j_all) (hst : st.length ≤ 4) (hb : i < h.1) (htb : (h.2 i).1 = 102) (hfit : ∀ k, k < n → fits .byte (.int (xs k)) = true) (hn : n < 1000) (hdp : dp < 1000) (h5 : dp + n ≤ (h.2 i).2.1)
    (kk : JJ p l e (j_rm d mc ms) s m args below meth c D tyc A n0 ad0 nL Qs (pc + 3) L st (j_wr h i ((h.2 i).1, (h.2 i).2.1, jcpy (fun j => .int (xs j)) (h.2 i).2.2 0 dp n)) cells slots) :
    JJ p l e (j_rm d mc ms) s m args below meth c D tyc A n0 ad0 nL Qs pc L (.int (nI n) :: .int (nI dp) :: .ref i :: .int 0 :: .retAddr v :: st) h cells slots := by
  intro ad ls H locs I
  have hm := wcp
  have h8 := j_room (ad := ad) hst
  have heb : (j_w tyc ad h)[i]? = some (ad i, .inl (tyc 102, (h.2 i).2.1, .inl fun j => j_int ((h.2 i).2.2 j))) := by rw [j_w_get hb, j_e_arr htb (by decide), j_arr_i (by decide) (by decide) (by decide)]
  have hnw : nativeFrameWords "java/lang/System" "arraycopy" 5 ≤ 100 := by decide +kernel
  have en : (nI n).toNatClampNeg = n := nI_clamp (by omega)
  have ed : (nI dp).toNatClampNeg = dp := nI_clamp (by omega)
  have e0 : (0 : Int32).toNatClampNeg = 0 := rfl
  refine vk_copyt x.1 x.2.1 (by rw [x.2.2.1]; exact I.1.1.symm) x.2.2.2.1 (x.2.2.2.2.1 _ hw) (x.2.2.2.2.1 _ hm.1) (x.2.2.2.2.1 _ hm.2.1) (x.2.2.2.2.1 _ hm.2.2) x.2.2.2.2.2.1 I.2.1 I.2.2.1 I.2.2.2.1 (f := xs) hX.2.2.2 i 2 heb rfl (sp := 0) (dp := nI dp) (n := nI n) (by decide) (nI_pos (by omega)) (nI_pos (by omega)) (by rw [en, e0]; omega) (by rw [en, ed]; exact h5) (fun k hk => by rw [en] at hk; rw [e0, Nat.zero_add]; exact hfit k hk) (by simp only [j_rm]; omega) (by simp only [j_rm]; omega) hd (fun H1 locs1 hP hD hS => ?_)
  have e1 : va_cpy xs (fun j => j_int ((h.2 i).2.2 j)) (0 : Int32).toNatClampNeg (nI dp).toNatClampNeg (nI n).toNatClampNeg = fun j => j_int (jcpy (fun j => .int (xs j)) (h.2 i).2.2 0 dp n j) := funext fun j => by
    rw [en, ed, e0]
    simp only [va_cpy, jcpy]
    split <;> rfl
  have e2 : j_e tyc ad ((h.2 i).1, (h.2 i).2.1, jcpy (fun j => .int (xs j)) (h.2 i).2.2 0 dp n) = .inl (tyc 102, (h.2 i).2.1, .inl fun j => j_int (jcpy (fun j => .int (xs j)) (h.2 i).2.2 0 dp n j)) := Eq.trans (j_e_arr (ad := ad) (tyc := tyc) (c := (_, _, _)) (t := 102) htb (by decide)) (by rw [j_arr_i (by decide) (by decide) (by decide)])
  rw [e1, ← e2] at hP hD
  refine kk ad ls H1 locs1 (I.wr (fun hs => j_ok_tl (j_ok_tl (j_ok_tl (j_ok_tl (j_ok_tl hs))))) hb (fun j => ?_) hP hD hS)
  show j_ok h.1 (jcpy (fun j => .int (xs j)) (h.2 i).2.2 0 dp n j)
  unfold jcpy
  split
  · exact j_ok_int
  · exact I.2.2.2.2.2.1 i hb j
end JCpR
theorem HH_cprG {b : SBt} {Y : OUt} {M : MM} {i dp n : Nat} {xs : Nat → Int32} (hi : isBG i) : j_wr (HHG b Y M) i (((HHG b Y M).2 i).1, ((HHG b Y M).2 i).2.1, jcpy (fun j => .int (xs j)) ((HHG b Y M).2 i).2.2 0 dp n) = HHG b Y (mz M i fun k => if dp ≤ k ∧ k < dp + n then xs (k - dp) else M i k) := by
  unfold j_wr HHG
  refine Prod.ext rfl (funext fun c => ?_)
  show ju (fun i => (hTG i, hLenG b i, hFG b Y M i)) i (hTG i, hLenG b i, jcpy (fun j => .int (xs j)) (hFG b Y M i) 0 dp n) c = (hTG c, hLenG b c, hFG b Y (mz M i fun k => if dp ≤ k ∧ k < dp + n then xs (k - dp) else M i k) c)
  by_cases hc : c = i
  · subst hc
    rw [ju_s, isB_fG hi, isB_fG hi]
    refine congrArg (fun z => (hTG c, hLenG b c, z)) (funext fun k => ?_)
    rw [mz_s]
    unfold jcpy
    by_cases hk : dp ≤ k ∧ k < dp + n
    · rw [if_pos hk, if_pos hk, Nat.zero_add]; rfl
    · rw [if_neg hk, if_neg hk]
  · rw [ju_n hc, hF_mzG hc]
/-- the builder holds c signs, there is room for 16 -/
def LB (b : SBt) (M : MM) (c : Nat) : Prop := sbIG b M 16 ∧ M 0 3 = nI c
def okx (n : Nat) (xs : Nat → Int32) : Prop := ∀ k, k < n → fits .byte (.int (xs k)) = true
theorem c_inflP {d : Nat} {b : SBt} {Y : OUt} {M : MM} {c1 : Nat} (hI : LB b M c1) {a v n : Nat} {xs : Nat → Int32} : ConP (d + 1) 0 0 yJ5_inflateIfNeededFor_a7421 cJ5_inflateIfNeededFor_a7421 2 none [.ref 0, .retAddr a] (HHG b Y M) (kstr a v n xs) (fun o k => o = .inl none ∧ k = HHG b Y M) := by
  have hb : 1 ≤ b.2.1 := hI.1.2.2.1
  refine ConP.of (by decide +kernel) (Nat.le_of_ble_eq_true rfl) rfl fun p l e s m args below meth c D tyc A ad0 x hr htab hname hX => ?_
  change JJ _ _ _ _ _ _ _ _ _ _ _ _ _ _ _ _ _ 0 [some (.ref 0), some (.retAddr a)] [] _ 0 0
  refine j_gets x dJ5_inflateIfNeededFor_a7421_0 x.2.2.2.2.2.2.2.2.2.2.2.2.2.2.1 wfJ5_18 ?_
  refine j_if_eq (tgt := 21) x dJ5_inflateIfNeededFor_a7421_3 (by decide) (fun hc => absurd hc (by decide)) (fun hc => ?_)
  refine j_aload_n x dJ5_inflateIfNeededFor_a7421_6 rfl ?_
  refine j2_getiG (k := 1) x hb dJ5_inflateIfNeededFor_a7421_7 jc_1 wfJ5_22 (by decide) rfl ?_; rw [hI.1.2.2.2.2.1]
  refine j_aload_nR x dJ5_inflateIfNeededFor_a7421_10 rfl ?_
  refine j_callK hX x dJ5_inflateIfNeededFor_a7421_11 (c_scoder (d := d)) m_J0_coder_7d493 wmJ5_40 rfl rfl (Nat.le_of_ble_eq_true rfl) (j_fit_rm (by omega) (by omega) (by omega)) rfl (fun E k z => by cases z.1) (fun v k z => ?_)
  obtain ⟨z1, rfl⟩ := z
  cases z1
  refine j_icmp_eq (tgt := 21) x dJ5_inflateIfNeededFor_a7421_14 (by decide) (fun hc => ?_) (fun hc => absurd rfl hc)
  exact j_return x hr dJ5_inflateIfNeededFor_a7421_21 (Nat.le_refl _) (Nat.le_refl _) ⟨rfl, rfl⟩
def putx (M : MM) (r c n : Nat) (xs : Nat → Int32) : MM := mz M r fun k => if c ≤ k ∧ k < c + n then xs (k - c) else M r k
theorem putx_I {b : SBt} {M : MM} {c n : Nat} {xs : Nat → Int32} (h : sbIG b M 16) (hx : okx n xs) : sbIG b (putx M b.1 c n xs) 16 := by
  obtain ⟨h1, h2, h3, h4, h5, h6⟩ := h
  have h0 : ¬ b.1 = 0 := by unfold isBG at h1; omega
  refine ⟨h1, h2, h3, h4, ?_, fun k => ?_⟩
  · unfold putx
    rw [mz_n (fun z => h0 z.symm)]
    exact h5
  · unfold putx
    rw [mz_s]
    by_cases z : c ≤ k ∧ k < c + n
    · rw [if_pos z]; exact hx _ (by omega)
    · rw [if_neg z]; exact h6 k
theorem c_getBytesP {d : Nat} {b : SBt} {Y : OUt} {M : MM} {c1 : Nat} (hI : LB b M c1) {a v n : Nat} {xs : Nat → Int32} (hx : okx n xs) (hf : c1 + n ≤ 16) : ConP (d + 1) 0 0 yJ0_getBytes_840e7 cJ0_getBytes_840e7 4 none [.retAddr a, .ref b.1, .int (nI c1), .int 0] (HHG b Y M) (kstr a v n xs) (fun o k => o = .inl none ∧ k = HHG b Y (putx M b.1 c1 n xs)) := by
  have hb : 1 ≤ b.2.1 := hI.1.2.2.1
  refine ConP.of (by decide +kernel) (Nat.le_of_ble_eq_true rfl) rfl fun p l e s m args below meth c D tyc A ad0 x hr htab hname hX => ?_
  change JJ _ _ _ _ _ _ _ _ _ _ _ _ _ _ _ _ _ 0 [some (.retAddr a), some (.ref b.1), some (.int (nI c1)), some (.int 0)] [] _ 0 0
  refine j_aload_nR x dJ0_getBytes_840e7_0 rfl ?_
  refine j_callK hX x dJ0_getBytes_840e7_1 (c_scoder (d := d)) m_J0_coder_7d493 wmJ0_335 rfl rfl (Nat.le_of_ble_eq_true rfl) (j_fit_rm (by omega) (by omega) (by omega)) rfl (fun E k z => by cases z.1) (fun v k z => ?_)
  obtain ⟨z1, rfl⟩ := z
  cases z1
  refine j_iload_n x dJ0_getBytes_840e7_4 rfl ?_
  refine j_icmp_ne (tgt := 28) x dJ0_getBytes_840e7_5 (by decide) (fun hc => absurd rfl hc) (fun hc => ?_)
  refine j_aload_nR x dJ0_getBytes_840e7_8 rfl ?_
  refine j_kval x hX dJ0_getBytes_840e7_9 wfJ0_9 ?_
  refine j_iconst (v := 0) x dJ0_getBytes_840e7_12 (by decide) ?_
  refine j_aload_n x dJ0_getBytes_840e7_13 rfl ?_
  refine j_iload_n x dJ0_getBytes_840e7_14 rfl ?_
  refine j_iload_n x dJ0_getBytes_840e7_15 rfl ?_
  refine j_ishl x dJ0_getBytes_840e7_16 ?_; rw [shl0]
  refine j_aload_nR x dJ0_getBytes_840e7_17 rfl ?_
  refine j_kval x hX dJ0_getBytes_840e7_18 wfJ0_9 ?_
  refine j_klen x hX dJ0_getBytes_840e7_21 ?_
  refine j_copyR x hX dJ0_getBytes_840e7_22 wmJ0_212 (Nat.le_of_ble_eq_true rfl) (show b.1 < b.2.1 from hI.1.2.1) (isB_tG hI.1.1) hx (by omega) (by omega) (show c1 + n ≤ hLenG b b.1 by rw [hI.1.2.2.2.1]; exact hf) ?_
  rw [HH_cprG hI.1.1]
  refine j_goto (tgt := 43) x dJ0_getBytes_840e7_25 (by decide) ?_
  exact j_return x hr dJ0_getBytes_840e7_43 (Nat.le_refl _) (Nat.le_refl _) ⟨rfl, rfl⟩
theorem mU_put : j_mU yJ5_putStringAt_47b60 cJ5_putStringAt_47b60 3 none 2 := ⟨wsame_J5_putStringAt_47b60, t_J5_putStringAt_47b60, wi_java_lang_AbstractStringBuilder, q_J5_putStringAt_47b60, ⟨by decide +kernel, by decide +kernel, by decide +kernel⟩, by decide, j_wx 2 rfl rfl⟩
theorem mU_inf : j_mU yJ5_inflateIfNeededFor_a7421 cJ5_inflateIfNeededFor_a7421 2 none 1 := ⟨wsame_J5_inflateIfNeededFor_a7421, t_J5_inflateIfNeededFor_a7421, wi_java_lang_AbstractStringBuilder, q_J5_inflateIfNeededFor_a7421, ⟨by decide +kernel, by decide +kernel, by decide +kernel⟩, by decide, j_wx 3 rfl rfl⟩
theorem c_putStrP {d : Nat} {b : SBt} {Y : OUt} {M : MM} {c1 : Nat} (hI : LB b M c1) {a v n : Nat} {xs : Nat → Int32} (hx : okx n xs) (hf : c1 + n ≤ 16) : ConP (d + 2) 0 0 yJ5_putStringAt_47b60 cJ5_putStringAt_47b60 3 none [.ref 0, .int (nI c1), .retAddr a] (HHG b Y M) (kstr a v n xs) (fun o k => o = .inl none ∧ k = HHG b Y (putx M b.1 c1 n xs)) := by
  have hb : 1 ≤ b.2.1 := hI.1.2.2.1
  refine ConP.of (by decide +kernel) (Nat.le_of_ble_eq_true rfl) rfl fun p l e s m args below meth c D tyc A ad0 x hr htab hname hX => ?_
  change JJ _ _ _ _ _ _ _ _ _ _ _ _ _ _ _ _ _ 0 [some (.ref 0), some (.int (nI c1)), some (.retAddr a)] [] _ 0 0
  refine j_aload_n x dJ5_putStringAt_47b60_0 rfl ?_
  refine j_aload_nR x dJ5_putStringAt_47b60_1 rfl ?_
  refine j_callVUP kstr_pin hX x dJ5_putStringAt_47b60_2 (c_inflP (d := d) (Y := Y) hI) mU_inf wmJ5_397 jc_1 rfl (show 0 < b.2.1 by omega) rfl rfl (Nat.le_of_ble_eq_true rfl) (j_fit_rm (by omega) (by omega) (by omega)) rfl (fun E k z => by cases z.1) (fun v k z => ?_)
  obtain ⟨z1, rfl⟩ := z
  cases z1
  refine j_aload_nR x dJ5_putStringAt_47b60_5 rfl ?_
  refine j_aload_n x dJ5_putStringAt_47b60_6 rfl ?_
  refine j2_vgetG x hb dJ5_putStringAt_47b60_7 wfJ5_15 ?_
  refine j_iload_n x dJ5_putStringAt_47b60_10 rfl ?_
  refine j_aload_n x dJ5_putStringAt_47b60_11 rfl ?_
  refine j2_getiG (k := 1) x hb dJ5_putStringAt_47b60_12 jc_1 wfJ5_22 (by decide) rfl ?_; rw [hI.1.2.2.2.2.1]
  refine j_callK hX x dJ5_putStringAt_47b60_15 (c_getBytesP (d := d) (Y := Y) hI hx hf) m_J0_getBytes_840e7 wmJ5_399 rfl rfl (Nat.le_of_ble_eq_true rfl) (j_fit_rm (by omega) (by omega) (by omega)) rfl (fun E k z => by cases z.1) (fun v k z => ?_)
  obtain ⟨z1, rfl⟩ := z
  cases z1
  exact j_return x hr dJ5_putStringAt_47b60_18 (Nat.le_refl _) (Nat.le_refl _) ⟨rfl, rfl⟩
theorem LB_put {b : SBt} {M : MM} {c1 n : Nat} {xs : Nat → Int32} (hI : LB b M c1) (hx : okx n xs) : LB b (jm (putx M b.1 c1 n xs) 0 3 (nI (c1 + n))) (c1 + n) := by
  have h0 : ¬ b.1 = 0 := by have := hI.1.1; unfold isBG at this; omega
  obtain ⟨h1, h2, h3, h4, h5, h6⟩ := putx_I (c := c1) hI.1 hx
  exact ⟨⟨h1, h2, h3, h4, by rw [jm_n (by omega)]; exact h5, fun k => by rw [jm_n (by omega)]; exact h6 k⟩, jm_s⟩
theorem c_appS5P {d : Nat} {b : SBt} {Y : OUt} {M : MM} {c1 : Nat} (hI : LB b M c1) {a v n : Nat} {xs : Nat → Int32} (hx : okx n xs) (hf : c1 + n ≤ 16) : ConP (d + 3) 0 0 yJ5_append_cf1ce cJ5_append_cf1ce 3 (some (FieldType.object "java/lang/AbstractStringBuilder")) [.ref 0, .retAddr a] (HHG b Y M) (kstr a v n xs) (fun o k => o = .inl (some (.ref 0)) ∧ ∃ N, k = HHG b Y N ∧ LB b N (c1 + n)) := by
  have hb : 1 ≤ b.2.1 := hI.1.2.2.1
  have h0 : ¬ b.1 = 0 := by have := hI.1.1; unfold isBG at this; omega
  refine ConP.of (by decide +kernel) (Nat.le_of_ble_eq_true rfl) rfl fun p l e s m args below meth c D tyc A ad0 x hr htab hname hX => ?_
  change JJ _ _ _ _ _ _ _ _ _ _ _ _ _ _ _ _ _ 0 [some (.ref 0), some (.retAddr a), none] [] _ 0 0
  refine j_aload_nR x dJ5_append_cf1ce_0 rfl ?_
  refine j_ifnonnullR (tgt := 9) x dJ5_append_cf1ce_1 (by decide) ?_
  refine j_aload_nR x dJ5_append_cf1ce_9 rfl ?_
  refine j_callK hX x dJ5_append_cf1ce_10 (c_slength (d := d)) m_J0_length_8abf5 wmJ5_32 rfl rfl (Nat.le_of_ble_eq_true rfl) (j_fit_rm (by omega) (by omega) (by omega)) rfl (fun E k z => by cases z.1) (fun v k z => ?_)
  obtain ⟨z1, rfl⟩ := z
  cases z1
  refine j_istore_n x dJ5_append_cf1ce_13 (by decide) rfl ?_
  refine j_aload_n x dJ5_append_cf1ce_14 rfl ?_
  refine j_aload_n x dJ5_append_cf1ce_15 rfl ?_
  refine j2_getiG (k := 3) x hb dJ5_append_cf1ce_16 jc_1 wfJ5_79 (by decide) rfl ?_; rw [hI.2]
  refine j_iload_n x dJ5_append_cf1ce_19 rfl ?_
  refine j_iadd x dJ5_append_cf1ce_20 ?_; rw [nI_add]
  refine j_callVU x dJ5_append_cf1ce_21 (c_ensure_noG (d := d) (Y := Y) hb hI.1 (m1 := c1 + n) hf (by omega)) mU_ensure wmJ5_100 jc_1 rfl (show 0 < b.2.1 by omega) rfl rfl (Nat.le_of_ble_eq_true rfl) (j_fit_rm (by omega) (by omega) (by omega)) rfl (fun E k z => by cases z.1) (fun v k z => ?_)
  obtain ⟨z1, rfl⟩ := z
  cases z1
  refine j_aload_n x dJ5_append_cf1ce_24 rfl ?_
  refine j_aload_n x dJ5_append_cf1ce_25 rfl ?_
  refine j2_getiG (k := 3) x hb dJ5_append_cf1ce_26 jc_1 wfJ5_79 (by decide) rfl ?_; rw [hI.2]
  refine j_aload_nR x dJ5_append_cf1ce_29 rfl ?_
  refine j_callVUP kstr_pin hX x dJ5_append_cf1ce_30 (c_putStrP (d := d) (Y := Y) hI hx hf) mU_put wmJ5_208 jc_1 rfl (show 0 < b.2.1 by omega) rfl rfl (Nat.le_of_ble_eq_true rfl) (j_fit_rm (by omega) (by omega) (by omega)) rfl (fun E k z => by cases z.1) (fun v k z => ?_)
  obtain ⟨z1, rfl⟩ := z
  cases z1
  refine j_aload_n x dJ5_append_cf1ce_33 rfl ?_
  refine j_dup x dJ5_append_cf1ce_34 rfl ?_
  refine j2_getiG (k := 3) x hb dJ5_append_cf1ce_35 jc_1 wfJ5_79 (by decide) rfl ?_
  rw [show putx M b.1 c1 n xs 0 3 = nI c1 from (mz_n (fun z => h0 z.symm)).trans hI.2]
  refine j_iload_n x dJ5_append_cf1ce_38 rfl ?_
  refine j_iadd x dJ5_append_cf1ce_39 ?_; rw [nI_add]
  refine j2_putiG (k := 3) x hb dJ5_append_cf1ce_40 jc_1 wfJ5_79 (by decide) rfl rfl rfl rfl ?_
  refine j_aload_n x dJ5_append_cf1ce_43 rfl ?_
  exact j_areturn x hr (Or.inl ⟨_, rfl⟩) dJ5_append_cf1ce_44 (Nat.le_refl _) (Nat.le_refl _) ⟨rfl, _, rfl, LB_put hI hx⟩
theorem c_appSP {d : Nat} {b : SBt} {Y : OUt} {M : MM} {c1 : Nat} (hI : LB b M c1) {a v n : Nat} {xs : Nat → Int32} (hx : okx n xs) (hf : c1 + n ≤ 16) : ConP (d + 4) 0 0 yJ4_append_15ec4 cJ4_append_15ec4 2 (some (FieldType.object "java/lang/StringBuilder")) [.ref 0, .retAddr a] (HHG b Y M) (kstr a v n xs) (fun o k => o = .inl (some (.ref 0)) ∧ ∃ N, k = HHG b Y N ∧ LB b N (c1 + n)) := by
  have hb : 1 ≤ b.2.1 := hI.1.2.2.1
  refine ConP.of (by decide +kernel) (Nat.le_of_ble_eq_true rfl) rfl fun p l e s m args below meth c D tyc A ad0 x hr htab hname hX => ?_
  change JJ _ _ _ _ _ _ _ _ _ _ _ _ _ _ _ _ _ 0 [some (.ref 0), some (.retAddr a)] [] _ 0 0
  refine j_aload_n x dJ4_append_15ec4_0 rfl ?_
  refine j_aload_nR x dJ4_append_15ec4_1 rfl ?_
  refine j_callSUP kstr_pin hX x dJ4_append_15ec4_2 (c_appS5P (d := d) (Y := Y) hI hx hf) ⟨wsame_J5_append_cf1ce, wsup_J4, t_J5_append_cf1ce, wi_java_lang_AbstractStringBuilder, q_J5_append_cf1ce, ⟨by decide, (by show _ = some 1; decide +kernel)⟩, by decide⟩ wmJ4_29 jc_1 (show 0 < b.2.1 by omega) rfl rfl (Nat.le_of_ble_eq_true rfl) (j_fit_rm (by omega) (by omega) (by omega)) rfl (fun E k z => by cases z.1) (fun v k z => ?_)
  obtain ⟨z1, N, rfl, hN⟩ := z
  cases z1
  refine j_pop x dJ4_append_15ec4_5 rfl ?_
  refine j_aload_n x dJ4_append_15ec4_6 rfl ?_
  exact j_areturn x hr (Or.inl ⟨_, rfl⟩) dJ4_append_15ec4_7 (Nat.le_refl _) (Nat.le_refl _) ⟨rfl, N, rfl, hN⟩
theorem c_appN5 {d : Nat} {b : SBt} {Y : OUt} {M : MM} {c1 : Nat} (hI : LB b M c1) {v1 : Nat} (hv : v1 < 10000) (hf : c1 + dg v1 ≤ 16) : Con (d + 4) 0 0 yJ5_append_c97b9 cJ5_append_c97b9 4 (some (FieldType.object "java/lang/AbstractStringBuilder")) [.ref 0, .int (nI v1)] (HHG b Y M) (fun o k => o = .inl (some (.ref 0)) ∧ ∃ N, k = HHG b Y N ∧ LB b N (c1 + dg v1)) := by
  have hb : 1 ≤ b.2.1 := hI.1.2.2.1
  have h0 : ¬ b.1 = 0 := by have := hI.1.1; unfold isBG at this; omega
  obtain ⟨N2, w2, hN2, hf2, hR2, hC2⟩ := c_getCharsG (d := d) (Y := Y) (M := M) (v := v1) (e1 := c1 + dg v1) hb hI.1 (by omega) (Nat.le_add_left _ _) hf hv
  refine Con.of (by decide +kernel) (Nat.le_of_ble_eq_true rfl) rfl fun p l e s m args below meth c D tyc A ad0 x hr htab hname => ?_
  change JJ _ _ _ _ _ _ _ _ _ _ _ _ _ _ _ _ _ 0 [some (.ref 0), some (.int (nI v1)), none, none] [] _ 0 0
  refine j_aload_n x dJ5_append_c97b9_0 rfl ?_
  refine j2_getiG (k := 3) x hb dJ5_append_c97b9_1 jc_1 wfJ5_79 (by decide) rfl ?_; rw [hI.2]
  refine j_istore_n x dJ5_append_c97b9_4 (by decide) rfl ?_
  refine j_iload_n x dJ5_append_c97b9_5 rfl ?_
  refine j_iload_n x dJ5_append_c97b9_6 rfl ?_
  refine j2_callSiG x hb dJ5_append_c97b9_7 m_J6_stringSize_0f7a4 (c_stringSizeG (d := d) hb hv) wmJ5_245 rfl (Nat.le_of_ble_eq_true rfl) (j_fit_rm (by omega) (by omega) (by omega)) rfl ?_
  refine j_iadd x dJ5_append_c97b9_10 ?_; rw [nI_add]
  refine j_istore_n x dJ5_append_c97b9_11 (by decide) rfl ?_
  refine j_aload_n x dJ5_append_c97b9_12 rfl ?_
  refine j_iload_n x dJ5_append_c97b9_13 rfl ?_
  refine j_callVU x dJ5_append_c97b9_14 (c_ensure_noG (d := d) (Y := Y) hb hI.1 (m1 := c1 + dg v1) hf (by omega)) mU_ensure wmJ5_100 jc_1 rfl (show 0 < b.2.1 by omega) rfl rfl (Nat.le_of_ble_eq_true rfl) (j_fit_rm (by omega) (by omega) (by omega)) rfl (fun E k z => by cases z.1) (fun v k z => ?_)
  obtain ⟨z1, rfl⟩ := z
  cases z1
  refine j_aload_n x dJ5_append_c97b9_17 rfl ?_
  refine j_callVU x dJ5_append_c97b9_18 (c_isLatin1G (d := d) (Y := Y) hb hI.1.2.2.2.2.1) mU_latin wmJ5_83 jc_1 rfl (show 0 < b.2.1 by omega) rfl rfl (Nat.le_of_ble_eq_true rfl) (j_fit_rm (by omega) (by omega) (by omega)) rfl (fun E k z => by cases z.1) (fun v k z => ?_)
  obtain ⟨z1, rfl⟩ := z
  cases z1
  refine j_if_eq (tgt := 37) x dJ5_append_c97b9_21 (by decide) (fun hc => absurd hc (by decide)) (fun hc => ?_)
  refine j_iload_n x dJ5_append_c97b9_24 rfl ?_
  refine j_iload_n x dJ5_append_c97b9_25 rfl ?_
  refine j_aload_n x dJ5_append_c97b9_26 rfl ?_
  refine j2_vgetG x hb dJ5_append_c97b9_27 wfJ5_15 ?_
  refine j2_callSiG x hb dJ5_append_c97b9_30 m_J6_getChars_ba4f3 hC2 wmJ5_248 rfl (Nat.le_of_ble_eq_true rfl) (j_fit_rm (by omega) (by omega) (by omega)) rfl ?_
  refine j_pop x dJ5_append_c97b9_33 rfl ?_
  refine j_goto (tgt := 48) x dJ5_append_c97b9_34 (by decide) ?_
  refine j_aload_n x dJ5_append_c97b9_48 rfl ?_
  refine j_iload_n x dJ5_append_c97b9_49 rfl ?_
  refine j2_putiG (k := 3) x hb dJ5_append_c97b9_50 jc_1 wfJ5_79 (by decide) rfl rfl rfl rfl ?_
  refine j_aload_n x dJ5_append_c97b9_53 rfl ?_
  exact j_areturn x hr (Or.inl ⟨_, rfl⟩) dJ5_append_c97b9_54 (Nat.le_refl _) (Nat.le_refl _) ⟨rfl, _, rfl, ⟨hI.1.1, hI.1.2.1, hb, hI.1.2.2.2.1, by rw [jm_n (by omega), hN2 0 1 (fun z => h0 z.symm)]; exact hI.1.2.2.2.2.1, fun k => by rw [jm_n (by omega)]; exact hf2 k⟩, jm_s⟩
theorem c_appN {d : Nat} {b : SBt} {Y : OUt} {M : MM} {c1 : Nat} (hI : LB b M c1) {v1 : Nat} (hv : v1 < 10000) (hf : c1 + dg v1 ≤ 16) : Con (d + 5) 0 0 yJ4_append_bf812 cJ4_append_bf812 2 (some (FieldType.object "java/lang/StringBuilder")) [.ref 0, .int (nI v1)] (HHG b Y M) (fun o k => o = .inl (some (.ref 0)) ∧ ∃ N, k = HHG b Y N ∧ LB b N (c1 + dg v1)) := by
  have hb : 1 ≤ b.2.1 := hI.1.2.2.1
  refine Con.of (by decide +kernel) (Nat.le_of_ble_eq_true rfl) rfl fun p l e s m args below meth c D tyc A ad0 x hr htab hname => ?_
  change JJ _ _ _ _ _ _ _ _ _ _ _ _ _ _ _ _ _ 0 [some (.ref 0), some (.int (nI v1))] [] _ 0 0
  refine j_aload_n x dJ4_append_bf812_0 rfl ?_
  refine j_iload_n x dJ4_append_bf812_1 rfl ?_
  refine j_callSU x dJ4_append_bf812_2 (c_appN5 (d := d) (Y := Y) hI hv hf) ⟨wsame_J5_append_c97b9, wsup_J4, t_J5_append_c97b9, wi_java_lang_AbstractStringBuilder, q_J5_append_c97b9, ⟨by decide, (by show _ = some 1; decide +kernel)⟩, by decide⟩ wmJ4_53 jc_1 (show 0 < b.2.1 by omega) rfl rfl (Nat.le_of_ble_eq_true rfl) (j_fit_rm (by omega) (by omega) (by omega)) rfl (fun E k z => by cases z.1) (fun v k z => ?_)
  obtain ⟨z1, N, rfl, hN⟩ := z
  cases z1
  refine j_pop x dJ4_append_bf812_5 rfl ?_
  refine j_aload_n x dJ4_append_bf812_6 rfl ?_
  exact j_areturn x hr (Or.inl ⟨_, rfl⟩) dJ4_append_bf812_7 (Nat.le_refl _) (Nat.le_refl _) ⟨rfl, N, rfl, hN⟩
