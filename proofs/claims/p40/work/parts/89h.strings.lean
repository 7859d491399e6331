/-! ===== a String that nobody writes: at a, its bytes at v ===== -/
def kstr (a v n : Nat) (xs : Nat → Int32) (A : Nat → Prop) (U : State) (H : Heap) : Prop := va_O "java/lang/String" a A U H ∧ va_OF "java/lang/String" "coder" "B" (.int 0) a A U H ∧ va_OF "java/lang/String" "value" "[B" (.ref v) a A U H ∧ va_T .byte v n (fun j => .int (xs j)) A U H
theorem kstr_pin {a v n : Nat} {xs : Nat → Int32} : j_pin (kstr a v n xs) :=
  ⟨fun A U H g mk ar h => ⟨va_O.moved (u := U) (U := U.calling g mk ar) (Vm.Alike.refl U.vm) h.1, va_OF.moved (u := U) (U := U.calling g mk ar) (Vm.Alike.refl U.vm) h.2.1, va_OF.moved (u := U) (U := U.calling g mk ar) (Vm.Alike.refl U.vm) h.2.2.1, va_T.moved (u := U) (U := U.calling g mk ar) (Vm.Alike.refl U.vm) h.2.2.2⟩,
   fun A B s U H H1 h hW hq hAB => ⟨((h.1.moved hW.alike).kept hq).narrow hAB, ((h.2.1.moved hW.alike).kept hq).narrow hAB, ((h.2.2.1.moved hW.alike).kept hq).narrow hAB, ((h.2.2.2.moved hW.alike).kept hq).narrow hAB⟩⟩
section JStr
variable {p : Program} {l : Launch} {e : Env} {R : Room} {s : State} {m : MethodId} {args : Array Value} {below : List Frame} {meth : Method} {c : Code} {D : va_G} {tyc : Nat → ClassId} {A : Nat → Prop} {n0 : Nat} {ad0 : Nat → Nat} {nL : Nat} {Qs : State → Prop}
variable {own : String} {cc : ByteArray} {pc : Nat} {L : List (Option Value)} {st : List Value} {h : MH} {cells slots idx a v n : Nat} {xs : Nat → Int32}
theorem j_kval (x : j_X p l s m args meth c D tyc A own cc nL) (hX : kstr a v n xs A s s.heap) (hd : decode cc pc = .ok (.getfield idx, 3)) (hw : Cond.fieldLink own idx "java/lang/String" "value" "[B" ∈ j_all) (kk : JJ p l e R s m args below meth c D tyc A n0 ad0 nL Qs (pc + 3) L (.retAddr v :: st) h cells slots) : JJ p l e R s m args below meth c D tyc A n0 ad0 nL Qs pc L (.retAddr a :: st) h cells slots := by
  intro ad ls H locs I
  exact vk_getf x.1 x.2.1 hX.2.2.1 I.2.2.2.1 x.2.2.2.1 (x.2.2.2.2.1 _ hw) (fun _ h => h) hd (kk ad ls H locs (I.st fun hs => j_ok_cons j_ok_raw (j_ok_tl hs)))
theorem j_kcod (x : j_X p l s m args meth c D tyc A own cc nL) (hX : kstr a v n xs A s s.heap) (hd : decode cc pc = .ok (.getfield idx, 3)) (hw : Cond.fieldLink own idx "java/lang/String" "coder" "B" ∈ j_all) (kk : JJ p l e R s m args below meth c D tyc A n0 ad0 nL Qs (pc + 3) L (.int 0 :: st) h cells slots) : JJ p l e R s m args below meth c D tyc A n0 ad0 nL Qs pc L (.retAddr a :: st) h cells slots := by
  intro ad ls H locs I
  exact vk_getf x.1 x.2.1 hX.2.1 I.2.2.2.1 x.2.2.2.1 (x.2.2.2.2.1 _ hw) (fun _ h => h) hd (kk ad ls H locs (I.st fun hs => j_ok_cons j_ok_int (j_ok_tl hs)))
theorem j_klen (x : j_X p l s m args meth c D tyc A own cc nL) (hX : kstr a v n xs A s s.heap) (hd : decode cc pc = .ok (.arraylength, 1)) (kk : JJ p l e R s m args below meth c D tyc A n0 ad0 nL Qs (pc + 1) L (.int (nI n) :: st) h cells slots) : JJ p l e R s m args below meth c D tyc A n0 ad0 nL Qs pc L (.retAddr v :: st) h cells slots := by
  intro ad ls H locs I
  exact va_tlen x.1 x.2.1 hX.2.2.2 I.2.2.2.1 (v := nI n) rfl hd (kk ad ls H locs (I.st fun hs => j_ok_cons j_ok_int (j_ok_tl hs)))
theorem j_kld (x : j_X p l s m args meth c D tyc A own cc nL) (hX : kstr a v n xs A s s.heap) {k : Nat} (hk : k < n) (hn : n < 1000) (hd : decode cc pc = .ok (.baload, 1)) (kk : JJ p l e R s m args below meth c D tyc A n0 ad0 nL Qs (pc + 1) L (.int (xs k) :: st) h cells slots) : JJ p l e R s m args below meth c D tyc A n0 ad0 nL Qs pc L (.int (nI k) :: .retAddr v :: st) h cells slots := by
  intro ad ls H locs I
  exact va_tb x.1 x.2.1 hX.2.2.2 I.2.2.2.1 (vp_in_nI hk (by omega)) (v := .int (xs k)) (by rw [nI_clamp (by omega)]) hd (kk ad ls H locs (I.st fun hs => j_ok_cons j_ok_int (j_ok_tl (j_ok_tl hs))))
theorem j_krec (hX : kstr a v n xs A s s.heap) : ∀ (H : Heap) (locs : List Loc), va_S A s.heap H locs → ∃ cell : Cell, H[a]? = some cell ∧ cell.vm.isStatics = false ∧ s.vm.findClass "java/lang/String" = some cell.cls := fun H locs hS => by
  obtain ⟨cell, h1, h2, h3, -⟩ := hX.1.kept hS.2.1
  exact ⟨cell, h1, h2, h3⟩
variable {d1 mc1 ms1 maxL k : Nat} {y : MethodName} {bytes : ByteArray} {ret : Option FieldType} {Q1 : MO → MH → Prop} {as st0 : List Value}
/-- a method of the String's -/
theorem j_callK (hX : kstr a v n xs A s s.heap) (x : j_X p l s m args meth c D tyc A own cc nL) (hd : decode cc pc = .ok (.invokevirtual idx, 3)) (hcon : ConP d1 mc1 ms1 y bytes maxL ret (.retAddr a :: as) h (kstr a v n xs) Q1) (hm : j_mV y bytes maxL ret k) (hw : Cond.methodLink own idx y ∈ j_all) (hy : y.cls = "java/lang/String")
    (hn : as.length = k) (hst : st.length ≤ 4) (hfit : j_fit R d1 mc1 ms1 cells slots) (h0 : st0 = as.reverse ++ .retAddr a :: st) (hx : ∀ E k, ¬ Q1 (.inr E) k)
    (kk : ∀ (v : Option Value) (h1 : MH), Q1 (.inl v) h1 → JJ p l e R s m args below meth c D tyc A n0 ad0 nL Qs (pc + 3) L (v.toList ++ st) h1 (cells + mc1) (slots + ms1)) : JJ p l e R s m args below meth c D tyc A n0 ad0 nL Qs pc L st0 h cells slots :=
  j_callRP kstr_pin hX x hd hcon hm hw (by rw [hy]; exact j_krec hX) hn hst hfit h0 (j_no hx (H := #[])) kk
end JStr
theorem c_scoder {d : Nat} {h : MH} {a v n : Nat} {xs : Nat → Int32} : ConP d 0 0 yJ0_coder_7d493 cJ0_coder_7d493 1 (some .byte) [.retAddr a] h (kstr a v n xs) (fun o k => o = .inl (some (.int 0)) ∧ k = h) := by
  refine ConP.of (by decide +kernel) (Nat.le_of_ble_eq_true rfl) rfl fun p l e s m args below meth c D tyc A ad0 x hr htab hname hX => ?_
  change JJ _ _ _ _ _ _ _ _ _ _ _ _ _ _ _ _ _ 0 [some (.retAddr a)] [] _ 0 0
  refine j_gets x dJ0_coder_7d493_0 x.2.2.2.2.2.2.2.2.2.2.2.2.2.2.1 wfJ0_38 ?_
  refine j_if_eq (tgt := 13) x dJ0_coder_7d493_3 (by decide) (fun hc => absurd hc (by decide)) (fun hc => ?_)
  refine j_aload_nR x dJ0_coder_7d493_6 rfl ?_
  refine j_kcod x hX dJ0_coder_7d493_7 wfJ0_15 ?_
  refine j_goto (tgt := 14) x dJ0_coder_7d493_10 (by decide) ?_
  exact j_zreturn x hr dJ0_coder_7d493_14 (by decide) (Nat.le_refl _) (Nat.le_refl _) ⟨rfl, rfl⟩
theorem c_slatin {d : Nat} {h : MH} {a v n : Nat} {xs : Nat → Int32} : ConP d 0 0 yJ0_isLatin1_aae02 cJ0_isLatin1_aae02 1 (some .boolean) [.retAddr a] h (kstr a v n xs) (fun o k => o = .inl (some (.int 1)) ∧ k = h) := by
  refine ConP.of (by decide +kernel) (Nat.le_of_ble_eq_true rfl) rfl fun p l e s m args below meth c D tyc A ad0 x hr htab hname hX => ?_
  change JJ _ _ _ _ _ _ _ _ _ _ _ _ _ _ _ _ _ 0 [some (.retAddr a)] [] _ 0 0
  refine j_gets x dJ0_isLatin1_aae02_0 x.2.2.2.2.2.2.2.2.2.2.2.2.2.2.1 wfJ0_38 ?_
  refine j_if_eq (tgt := 17) x dJ0_isLatin1_aae02_3 (by decide) (fun hc => absurd hc (by decide)) (fun hc => ?_)
  refine j_aload_nR x dJ0_isLatin1_aae02_6 rfl ?_
  refine j_kcod x hX dJ0_isLatin1_aae02_7 wfJ0_15 ?_
  refine j_if_ne (tgt := 17) x dJ0_isLatin1_aae02_10 (by decide) (fun hc => absurd hc (fun q => q rfl)) (fun hc => ?_)
  refine j_iconst (v := 1) x dJ0_isLatin1_aae02_13 (by decide) ?_
  refine j_goto (tgt := 18) x dJ0_isLatin1_aae02_14 (by decide) ?_
  exact j_zreturn x hr dJ0_isLatin1_aae02_18 (by decide) (Nat.le_refl _) (Nat.le_refl _) ⟨rfl, rfl⟩
theorem c_slength {d : Nat} {h : MH} {a v n : Nat} {xs : Nat → Int32} : ConP (d + 1) 0 0 yJ0_length_8abf5 cJ0_length_8abf5 1 (some .int) [.retAddr a] h (kstr a v n xs) (fun o k => o = .inl (some (.int (nI n))) ∧ k = h) := by
  refine ConP.of (by decide +kernel) (Nat.le_of_ble_eq_true rfl) rfl fun p l e s m args below meth c D tyc A ad0 x hr htab hname hX => ?_
  change JJ _ _ _ _ _ _ _ _ _ _ _ _ _ _ _ _ _ 0 [some (.retAddr a)] [] _ 0 0
  refine j_aload_nR x dJ0_length_8abf5_0 rfl ?_
  refine j_kval x hX dJ0_length_8abf5_1 wfJ0_9 ?_
  refine j_klen x hX dJ0_length_8abf5_4 ?_
  refine j_aload_nR x dJ0_length_8abf5_5 rfl ?_
  refine j_callK hX x dJ0_length_8abf5_6 (c_scoder (d := d)) m_J0_coder_7d493 wmJ0_335 rfl rfl (Nat.le_of_ble_eq_true rfl) (j_fit_rm (by omega) (by omega) (by omega)) rfl (fun E k z => by cases z.1) (fun v k z => ?_)
  obtain ⟨z1, rfl⟩ := z
  cases z1
  refine j_ishr x dJ0_length_8abf5_9 ?_; rw [shr0]
  exact j_ireturn x hr dJ0_length_8abf5_10 (Nat.le_refl _) (Nat.le_refl _) ⟨rfl, rfl⟩
def sch (v : Int32) : Int32 := ((v &&& 255).toUInt32 % 65536).toInt32
theorem c_lchar {d : Nat} {b : SBt} {Y : OUt} {M : MM} (hb : 94 ≤ b.2.1) {a v n : Nat} {xs : Nat → Int32} {i : Nat} (hi : i < n) (hn : n < 1000) : ConP (d + 2) 0 0 yJ1_charAt_3b067 cJ1_charAt_3b067 2 (some .char) [.retAddr v, .int (nI i)] (HH b Y M) (kstr a v n xs) (fun o k => o = .inl (some (.int (sch (xs i)))) ∧ k = HH b Y M) := by
  refine ConP.of (by decide +kernel) (Nat.le_of_ble_eq_true rfl) rfl fun p l e s m args below meth c D tyc A ad0 x hr htab hname hX => ?_
  change JJ _ _ _ _ _ _ _ _ _ _ _ _ _ _ _ _ _ 0 [some (.retAddr v), some (.int (nI i))] [] _ 0 0
  refine j_iload_n x dJ1_charAt_3b067_0 rfl ?_
  refine j_aload_nR x dJ1_charAt_3b067_1 rfl ?_
  refine j_klen x hX dJ1_charAt_3b067_2 ?_
  refine j2_callSv x hb dJ1_charAt_3b067_3 m_J0_checkIndex_df160 (c_check (d := d) hb hi hn) wmJ1_9 rfl (Nat.le_of_ble_eq_true rfl) (j_fit_rm (by omega) (by omega) (by omega)) rfl ?_
  refine j_aload_nR x dJ1_charAt_3b067_6 rfl ?_
  refine j_iload_n x dJ1_charAt_3b067_7 rfl ?_
  refine j_kld x hX hi hn dJ1_charAt_3b067_8 ?_
  refine j_sipush (v := 255) x dJ1_charAt_3b067_9 (by decide) ?_
  refine j_iand x dJ1_charAt_3b067_12 ?_
  refine j_i2c x dJ1_charAt_3b067_13 ?_
  exact j_zreturn x hr dJ1_charAt_3b067_14 (i2c_nar _) (Nat.le_refl _) (Nat.le_refl _) ⟨rfl, rfl⟩
theorem c_schar {d : Nat} {b : SBt} {Y : OUt} {M : MM} (hb : 94 ≤ b.2.1) {a v n : Nat} {xs : Nat → Int32} {i : Nat} (hi : i < n) (hn : n < 1000) : ConP (d + 3) 0 0 yJ0_charAt_5068e cJ0_charAt_5068e 2 (some .char) [.retAddr a, .int (nI i)] (HH b Y M) (kstr a v n xs) (fun o k => o = .inl (some (.int (sch (xs i)))) ∧ k = HH b Y M) := by
  refine ConP.of (by decide +kernel) (Nat.le_of_ble_eq_true rfl) rfl fun p l e s m args below meth c D tyc A ad0 x hr htab hname hX => ?_
  change JJ _ _ _ _ _ _ _ _ _ _ _ _ _ _ _ _ _ 0 [some (.retAddr a), some (.int (nI i))] [] _ 0 0
  refine j_aload_nR x dJ0_charAt_5068e_0 rfl ?_
  refine j_callK hX x dJ0_charAt_5068e_1 (c_slatin (d := d)) m_J0_isLatin1_aae02 wmJ0_492 rfl rfl (Nat.le_of_ble_eq_true rfl) (j_fit_rm (by omega) (by omega) (by omega)) rfl (fun E k z => by cases z.1) (fun v k z => ?_)
  obtain ⟨z1, rfl⟩ := z
  cases z1
  refine j_if_eq (tgt := 16) x dJ0_charAt_5068e_4 (by decide) (fun hc => absurd hc (by decide)) (fun hc => ?_)
  refine j_aload_nR x dJ0_charAt_5068e_7 rfl ?_
  refine j_kval x hX dJ0_charAt_5068e_8 wfJ0_9 ?_
  refine j_iload_n x dJ0_charAt_5068e_11 rfl ?_
  refine j_callSP kstr_pin hX x dJ0_charAt_5068e_12 (c_lchar (d := d) (a := a) hb hi hn) m_J1_charAt_3b067 wmJ0_495 rfl (Nat.le_of_ble_eq_true rfl) (j_fit_rm (by omega) (by omega) (by omega)) rfl (fun E k z => by cases z.1) (fun v k z => ?_)
  obtain ⟨z1, rfl⟩ := z
  cases z1
  exact j_zreturn x hr dJ0_charAt_5068e_15 (i2c_nar _) (Nat.le_refl _) (Nat.le_refl _) ⟨rfl, rfl⟩
