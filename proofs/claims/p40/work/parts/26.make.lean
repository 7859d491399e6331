/-! ===== a store in the making: the first n cells, of the shape that they will have ===== -/
def HS (n : Nat) (f : Nat → Nat → Value) : MH := (n, fun i => (hT i, hN i, f i))
def fw (f : Nat → Nat → Value) (i k : Nat) (v : Value) : Nat → Nat → Value := ju f i (ju (f i) k v)
def fz (f : Nat → Nat → Value) (n : Nat) (v : Value) : Nat → Nat → Value := ju f n fun _ => v
theorem fw_s {f : Nat → Nat → Value} {i k : Nat} {v : Value} : fw f i k v i k = v := by unfold fw; rw [ju_s, ju_s]
theorem fw_n {f : Nat → Nat → Value} {i k a b : Nat} {v : Value} (h : ¬ (a = i ∧ b = k)) : fw f i k v a b = f a b := by
  unfold fw
  by_cases h1 : a = i
  · subst h1
    rw [ju_s, ju_n (fun q => h ⟨rfl, q⟩)]
  · rw [ju_n h1]
theorem fz_n {f : Nat → Nat → Value} {i a b : Nat} {v : Value} (h : a ≠ i) : fz f i v a b = f a b := by unfold fz; rw [ju_n h]
theorem HS_push {n t N : Nat} {f : Nat → Nat → Value} {g : Nat → Value} (ht : hT n = t) (hn : hN n = N) : j_push (HS n f) (t, N, g) = HS (n + 1) (ju f n g) := by
  subst ht
  subst hn
  refine Prod.ext rfl (funext fun i => ?_)
  show ju (fun i => (hT i, hN i, f i)) n (hT n, hN n, g) i = (hT i, hN i, ju f n g i)
  by_cases h : i = n
  · subst h
    rw [ju_s, ju_s]
  · rw [ju_n h, ju_n h]
theorem HS_fld {n i k : Nat} {f : Nat → Nat → Value} {v : Value} : j_fld (HS n f) i k v = HS n (fw f i k v) := by
  refine Prod.ext rfl (funext fun z => ?_)
  show ju (fun i => (hT i, hN i, f i)) i (hT i, hN i, ju (f i) k v) z = (hT z, hN z, ju f i (ju (f i) k v) z)
  by_cases h : z = i
  · subst h
    rw [ju_s, ju_s]
  · rw [ju_n h, ju_n h]
abbrev CI (d mc ms : Nat) (y : MethodName) (cc : ByteArray) (maxL : Nat) (as : List Value) (n : Nat) (f : Nat → Nat → Value) (n1 : Nat) (f1 : Nat → Nat → Value) : Prop := Con d mc ms y cc maxL none as (HS n f) (fun o k => o = .inl none ∧ k = HS n1 f1)
section J4
variable {p : Program} {l : Launch} {e : Env} {R : Room} {s : State} {m : MethodId} {args : Array Value} {below : List Frame} {meth : Method} {c : Code} {D : va_G} {tyc : Nat → ClassId} {A : Nat → Prop} {n0 : Nat} {ad0 : Nat → Nat} {nL : Nat} {Q : State → Prop}
variable {own : String} {cc : ByteArray} {pc : Nat} {L : List (Option Value)} {st : List Value} {n : Nat} {f : Nat → Nat → Value} {cells slots : Nat}
theorem j3_put (x : j_X p l s m args meth c D tyc A own cc nL) {i k idx ci : Nat} {q : vw_C} {ty : Nat → FieldType} {v : Value} (hd : decode cc pc = .ok (.putfield idx, 3)) (hq : j_cls ci q ty) (hw : Cond.fieldLink own idx (q.2.1 k).1 (q.2.1 k).2.1 (q.2.1 k).2.2.1 ∈ j_all) (hk : k < q.2.2)
    (hfin : (q.2.1 k).2.2.2 = false) (hna : narrow (ty k) v = v) (hfi : fits (ty k) v = true) (hi : i < n) (ht : hT i = ci) (hn : hN i = q.2.2) (kk : JJ p l e R s m args below meth c D tyc A n0 ad0 nL Q (pc + 3) L st (HS n (fw f i k v)) cells slots) : JJ p l e R s m args below meth c D tyc A n0 ad0 nL Q pc L (v :: .ref i :: st) (HS n f) cells slots := by
  refine j_put x hd hq hw hk hfin hna hfi hi ht hn ?_
  rw [HS_fld]
  exact kk
theorem j3_putF (x : j_X p l s m args meth c D tyc A own cc nL) {i k idx ci : Nat} {q : vw_C} {ty : Nat → FieldType} {v : Value} (hin : meth.name = "<init>") (hd : decode cc pc = .ok (.putfield idx, 3)) (hq : j_cls ci q ty) (hw : Cond.fieldLink own idx (q.2.1 k).1 (q.2.1 k).2.1 (q.2.1 k).2.2.1 ∈ j_all) (hk : k < q.2.2)
    (hfin : (q.2.1 k).2.2.2 = true) (hdecl : (q.2.1 k).1 = own) (hna : narrow (ty k) v = v) (hfi : fits (ty k) v = true) (hi : i < n) (ht : hT i = ci) (hn : hN i = q.2.2) (kk : JJ p l e R s m args below meth c D tyc A n0 ad0 nL Q (pc + 3) L st (HS n (fw f i k v)) cells slots) : JJ p l e R s m args below meth c D tyc A n0 ad0 nL Q pc L (v :: .ref i :: st) (HS n f) cells slots := by
  refine j_putF x hin hd hq hw hk hfin hdecl hna hfi hi ht hn ?_
  rw [HS_fld]
  exact kk
theorem j3_get (x : j_X p l s m args meth c D tyc A own cc nL) {i k idx ci : Nat} {q : vw_C} {ty : Nat → FieldType} {v : Value} (hd : decode cc pc = .ok (.getfield idx, 3)) (hq : j_cls ci q ty) (hw : Cond.fieldLink own idx (q.2.1 k).1 (q.2.1 k).2.1 (q.2.1 k).2.2.1 ∈ j_all) (hk : k < q.2.2)
    (hi : i < n) (ht : hT i = ci) (hn : hN i = q.2.2) (hv : f i k = v) (kk : JJ p l e R s m args below meth c D tyc A n0 ad0 nL Q (pc + 3) L (v :: st) (HS n f) cells slots) : JJ p l e R s m args below meth c D tyc A n0 ad0 nL Q pc L (.ref i :: st) (HS n f) cells slots := by
  subst hv
  exact j_get x hd hq hw hk hi ht hn kk
theorem j3_new (x : j_X p l s m args meth c D tyc A own cc nL) {idx ci : Nat} {q : vw_C} {ty : Nat → FieldType} (hd : decode cc pc = .ok (.new idx, 3)) (hq : j_cls ci q ty) (hw : Cond.classLink own idx q.1 ∈ j_all) (hw2 : Cond.instantiable q.1 q.2.2 ∈ j_all) (hw3 : Cond.initialized q.1 ∈ j_all) (ht : hT n = ci) (hn : hN n = q.2.2) (hc1 : cells + 1 ≤ R.cells) (hs1 : slots + q.2.2 ≤ R.slots)
    (kk : JJ p l e R s m args below meth c D tyc A n0 ad0 nL Q (pc + 3) L (.ref n :: st) (HS (n + 1) (ju f n fun k => defaultValue (ty k))) (cells + 1) (slots + q.2.2)) : JJ p l e R s m args below meth c D tyc A n0 ad0 nL Q pc L st (HS n f) cells slots := by
  refine j_new x hd hq hw hw2 hw3 hc1 hs1 ?_
  rw [HS_push ht hn]
  exact kk
theorem j3_newa_int (x : j_X p l s m args meth c D tyc A own cc nL) {v : Int32} {N : Nat} (hd : decode cc pc = .ok (.newarray .int, 2)) (hv : ¬ v < 0) (hN1 : v.toNatClampNeg = N) (hsm : N * 8 ≤ 536870912) (ht : hT n = 100) (hn : hN n = N) (hc1 : cells + 1 ≤ R.cells) (hs1 : slots + N ≤ R.slots)
    (kk : JJ p l e R s m args below meth c D tyc A n0 ad0 nL Q (pc + 2) L (.ref n :: st) (HS (n + 1) (fz f n (.int 0))) (cells + 1) (slots + N)) : JJ p l e R s m args below meth c D tyc A n0 ad0 nL Q pc L (.int v :: st) (HS n f) cells slots := by
  refine j_newa_int x hd wa_int hv hN1 hsm hc1 hs1 ?_
  rw [HS_push ht hn]
  exact kk
theorem j3_newa_char (x : j_X p l s m args meth c D tyc A own cc nL) {v : Int32} {N : Nat} (hd : decode cc pc = .ok (.newarray .char, 2)) (hv : ¬ v < 0) (hN1 : v.toNatClampNeg = N) (hsm : N * 8 ≤ 536870912) (ht : hT n = 101) (hn : hN n = N) (hc1 : cells + 1 ≤ R.cells) (hs1 : slots + N ≤ R.slots)
    (kk : JJ p l e R s m args below meth c D tyc A n0 ad0 nL Q (pc + 2) L (.ref n :: st) (HS (n + 1) (fz f n (.int 0))) (cells + 1) (slots + N)) : JJ p l e R s m args below meth c D tyc A n0 ad0 nL Q pc L (.int v :: st) (HS n f) cells slots := by
  refine j_newa_char x hd wa_char hv hN1 hsm hc1 hs1 ?_
  rw [HS_push ht hn]
  exact kk
theorem j3_newa_byte (x : j_X p l s m args meth c D tyc A own cc nL) {v : Int32} {N : Nat} (hd : decode cc pc = .ok (.newarray .byte, 2)) (hv : ¬ v < 0) (hN1 : v.toNatClampNeg = N) (hsm : N * 8 ≤ 536870912) (ht : hT n = 102) (hn : hN n = N) (hc1 : cells + 1 ≤ R.cells) (hs1 : slots + N ≤ R.slots)
    (kk : JJ p l e R s m args below meth c D tyc A n0 ad0 nL Q (pc + 2) L (.ref n :: st) (HS (n + 1) (fz f n (.int 0))) (cells + 1) (slots + N)) : JJ p l e R s m args below meth c D tyc A n0 ad0 nL Q pc L (.int v :: st) (HS n f) cells slots := by
  refine j_newa_byte x hd wa_byte hv hN1 hsm hc1 hs1 ?_
  rw [HS_push ht hn]
  exact kk
theorem j3_anewa (x : j_X p l s m args meth c D tyc A own cc nL) {idx : Nat} {v : Int32} {N : Nat} (hd : decode cc pc = .ok (.anewarray idx, 3)) (hw : Cond.classLink own idx j_R2 ∈ j_all) (hv : ¬ v < 0) (hN1 : v.toNatClampNeg = N) (hsm : N * 4 ≤ 536870912) (ht : hT n = 103) (hn : hN n = N) (hc1 : cells + 1 ≤ R.cells) (hs1 : slots + N ≤ R.slots)
    (kk : JJ p l e R s m args below meth c D tyc A n0 ad0 nL Q (pc + 3) L (.ref n :: st) (HS (n + 1) (fz f n .null)) (cells + 1) (slots + N)) : JJ p l e R s m args below meth c D tyc A n0 ad0 nL Q pc L (.int v :: st) (HS n f) cells slots := by
  refine j_anewa x hd hw hv hN1 hsm hc1 hs1 ?_
  rw [HS_push ht hn]
  exact kk
theorem j3_iast (x : j_X p l s m args meth c D tyc A own cc nL) {i j N : Nat} {k v : Int32} (hd : decode cc pc = .ok (.iastore, 1)) (hi : i < n) (ht : hT i = 100) (hn : hN i = N) (hk : vp_in k N) (hj : k.toNatClampNeg = j) (kk : JJ p l e R s m args below meth c D tyc A n0 ad0 nL Q (pc + 1) L st (HS n (fw f i j (.int v))) cells slots) : JJ p l e R s m args below meth c D tyc A n0 ad0 nL Q pc L (.int v :: .int k :: .ref i :: st) (HS n f) cells slots := by
  subst hn
  subst hj
  refine j_iastore x hd hi ht hk ?_
  rw [HS_fld]
  exact kk
theorem j3_aast (x : j_X p l s m args meth c D tyc A own cc nL) {i j b N : Nat} {k : Int32} (hd : decode cc pc = .ok (.aastore, 1)) (hi : i < n) (ht : hT i = 103) (hn : hN i = N) (hk : vp_in k N) (hj : k.toNatClampNeg = j) (hb : b < n) (htb : hT b = 6) (kk : JJ p l e R s m args below meth c D tyc A n0 ad0 nL Q (pc + 1) L st (HS n (fw f i j (.ref b))) cells slots) : JJ p l e R s m args below meth c D tyc A n0 ad0 nL Q pc L (.ref b :: .int k :: .ref i :: st) (HS n f) cells slots := by
  subst hn
  subst hj
  refine j_aastore x hd rfl rfl hi ht hk hb htb ?_
  rw [HS_fld]
  exact kk
theorem j3_initN (x : j_X p l s m args meth c D tyc A own cc nL) {d1 mc1 ms1 idx N maxL b n1 : Nat} {y : MethodName} {bytes : ByteArray} {as st0 : List Value} {f1 : Nat → Nat → Value} {host : String} (hd : decode cc pc = .ok (.invokespecial idx, 3)) (hm : j_mI y bytes maxL N) (hcon : CI d1 mc1 ms1 y bytes maxL (.ref b :: as) n f n1 f1) (hw : Cond.methodLinkNest own idx y host ∈ j_nw)
    (hb : b < n) (hn : as.length = N) (hst : st.length ≤ 4) (hfit : j_fit R d1 mc1 ms1 cells slots) (h0 : st0 = as.reverse ++ .ref b :: st) (kk : JJ p l e R s m args below meth c D tyc A n0 ad0 nL Q (pc + 3) L st (HS n1 f1) (cells + mc1) (slots + ms1)) : JJ p l e R s m args below meth c D tyc A n0 ad0 nL Q pc L st0 (HS n f) cells slots :=
  j_callIN x hd hcon hm hw hb hn hst hfit h0 (fun E k h => by cases h.1) (fun v h1 hq => by
    obtain ⟨e1, rfl⟩ := hq
    cases e1
    exact kk)
theorem j3_init (x : j_X p l s m args meth c D tyc A own cc nL) {d1 mc1 ms1 idx N maxL b n1 : Nat} {y : MethodName} {bytes : ByteArray} {as st0 : List Value} {f1 : Nat → Nat → Value} (hd : decode cc pc = .ok (.invokespecial idx, 3)) (hm : j_mI y bytes maxL N) (hcon : CI d1 mc1 ms1 y bytes maxL (.ref b :: as) n f n1 f1) (hw : Cond.methodLink own idx y ∈ j_all)
    (hb : b < n) (hn : as.length = N) (hst : st.length ≤ 4) (hfit : j_fit R d1 mc1 ms1 cells slots) (h0 : st0 = as.reverse ++ .ref b :: st) (kk : JJ p l e R s m args below meth c D tyc A n0 ad0 nL Q (pc + 3) L st (HS n1 f1) (cells + mc1) (slots + ms1)) : JJ p l e R s m args below meth c D tyc A n0 ad0 nL Q pc L st0 (HS n f) cells slots :=
  j_callI x hd hcon hm hw hb hn hst hfit h0 (fun E k h => by cases h.1) (fun v h1 hq => by
    obtain ⟨e1, rfl⟩ := hq
    cases e1
    exact kk)
end J4
theorem fI_t {i k ci N : Nat} (h : fI i k ci N = true) : hT i = ci ∧ hN i = N := by
  simp only [fI, Bool.and_eq_true, beq_iff_eq] at h
  exact ⟨h.1.1.1.2, h.1.1.2⟩
theorem fA_t {i t N : Nat} (h : fA i t N = true) : hT i = t ∧ hN i = N := by
  simp only [fA, Bool.and_eq_true, beq_iff_eq] at h
  exact ⟨h.1.1.1.2, h.1.1.2⟩
def fLg (f : Nat → Nat → Value) (i : Nat) : Nat → Nat → Value := fw (fz (fw (fz (fw (fz (fw (fw (fw (fw (fz (fw (fw (fw (fw (fz (f) (i + 1) (.int 0)) (i) 1 (.ref (i + 1))) (i) 4 (.int (3))) (i) 5 (.int (1))) (i) 6 (.int (2))) (i + 2) (.int 0)) (i + 2) 0 (.int (0))) (i + 2) 1 (.int (1))) (i + 2) 2 (.int (-1))) (i) 7 (.ref (i + 2))) (i + 3) (.int 0)) (i) 8 (.ref (i + 3))) (i + 4) (.int 0)) (i) 9 (.ref (i + 4))) (i + 5) (.int 0)) (i) 10 (.ref (i + 5))
theorem k_Lg {d : Nat} {f : Nat → Nat → Value} {i : Nat} (hi : isLg i = true) : CI (d) 5 179 yX2_init cX2_init 1 [.ref (i)] (i + 1) f (i + 6) (fLg f i) := by
  refine Con.of (by decide +kernel) (Nat.le_of_ble_eq_true rfl) rfl fun p l e s m args below meth c D tyc A ad0 x hr htab hname => ?_
  change JJ _ _ _ _ _ _ _ _ _ _ _ _ _ _ _ _ _ 0 [some (.ref (i))] [] (HS (i + 1) f) 0 0
  refine j_aload_n x dX2_init_0 rfl ?_
  refine j_objInit x dX2_init_1 wmX2_3 wo_inst wo_code (Nat.le_of_ble_eq_true rfl) (by show 1 ≤ 12 + _; omega) (by show 20 ≤ 150 + 60 * _; omega) ?_
  refine j_aload_n x dX2_init_4 rfl ?_
  refine j_bipush (v := 8) x dX2_init_5 (by decide) ?_
  refine j3_newa_int (N := 8) x dX2_init_7 (by decide) (by decide) (by decide) ((fA_t (lgA1 hi)).1) ((fA_t (lgA1 hi)).2) (Nat.le_of_ble_eq_true rfl) (Nat.le_of_ble_eq_true rfl) ?_
  refine j3_putF (k := 1) x hname dX2_init_9 jc_6 wfX2_9 (by decide) rfl rfl rfl rfl (by omega) ((fI_t (lg0 hi)).1) ((fI_t (lg0 hi)).2) ?_
  refine j_aload_n x dX2_init_12 rfl ?_
  refine j_iconst (v := 3) x dX2_init_13 (by decide) ?_
  refine j3_put (k := 4) x dX2_init_14 jc_6 wfX2_15 (by decide) rfl rfl rfl (by omega) ((fI_t (lg0 hi)).1) ((fI_t (lg0 hi)).2) ?_
  refine j_aload_n x dX2_init_17 rfl ?_
  refine j_iconst (v := 1) x dX2_init_18 (by decide) ?_
  refine j3_put (k := 5) x dX2_init_19 jc_6 wfX2_19 (by decide) rfl rfl rfl (by omega) ((fI_t (lg0 hi)).1) ((fI_t (lg0 hi)).2) ?_
  refine j_aload_n x dX2_init_22 rfl ?_
  refine j_iconst (v := 2) x dX2_init_23 (by decide) ?_
  refine j3_put (k := 6) x dX2_init_24 jc_6 wfX2_22 (by decide) rfl rfl rfl (by omega) ((fI_t (lg0 hi)).1) ((fI_t (lg0 hi)).2) ?_
  refine j_aload_n x dX2_init_27 rfl ?_
  refine j_iconst (v := 3) x dX2_init_28 (by decide) ?_
  refine j3_newa_int (N := 3) x dX2_init_29 (by decide) (by decide) (by decide) ((fA_t (lgA2 hi)).1) ((fA_t (lgA2 hi)).2) (Nat.le_of_ble_eq_true rfl) (Nat.le_of_ble_eq_true rfl) ?_
  refine j_dup x dX2_init_31 rfl ?_
  refine j_iconst (v := 0) x dX2_init_32 (by decide) ?_
  refine j_iconst (v := 0) x dX2_init_33 (by decide) ?_
  refine j3_iast (j := 0) x dX2_init_34 (by omega) ((fA_t (lgA2 hi)).1) ((fA_t (lgA2 hi)).2) (vp_c (by decide)) (by decide) ?_
  refine j_dup x dX2_init_35 rfl ?_
  refine j_iconst (v := 1) x dX2_init_36 (by decide) ?_
  refine j_iconst (v := 1) x dX2_init_37 (by decide) ?_
  refine j3_iast (j := 1) x dX2_init_38 (by omega) ((fA_t (lgA2 hi)).1) ((fA_t (lgA2 hi)).2) (vp_c (by decide)) (by decide) ?_
  refine j_dup x dX2_init_39 rfl ?_
  refine j_iconst (v := 2) x dX2_init_40 (by decide) ?_
  refine j_iconst (v := (-1)) x dX2_init_41 (by decide) ?_
  refine j3_iast (j := 2) x dX2_init_42 (by omega) ((fA_t (lgA2 hi)).1) ((fA_t (lgA2 hi)).2) (vp_c (by decide)) (by decide) ?_
  refine j3_putF (k := 7) x hname dX2_init_43 jc_6 wfX2_25 (by decide) rfl rfl rfl rfl (by omega) ((fI_t (lg0 hi)).1) ((fI_t (lg0 hi)).2) ?_
  refine j_aload_n x dX2_init_46 rfl ?_
  refine j_bipush (v := 56) x dX2_init_47 (by decide) ?_
  refine j3_newa_int (N := 56) x dX2_init_49 (by decide) (by decide) (by decide) ((fA_t (lgA3 hi)).1) ((fA_t (lgA3 hi)).2) (Nat.le_of_ble_eq_true rfl) (Nat.le_of_ble_eq_true rfl) ?_
  refine j3_putF (k := 8) x hname dX2_init_51 jc_6 wfX2_28 (by decide) rfl rfl rfl rfl (by omega) ((fI_t (lg0 hi)).1) ((fI_t (lg0 hi)).2) ?_
  refine j_aload_n x dX2_init_54 rfl ?_
  refine j_bipush (v := 56) x dX2_init_55 (by decide) ?_
  refine j3_newa_int (N := 56) x dX2_init_57 (by decide) (by decide) (by decide) ((fA_t (lgA4 hi)).1) ((fA_t (lgA4 hi)).2) (Nat.le_of_ble_eq_true rfl) (Nat.le_of_ble_eq_true rfl) ?_
  refine j3_putF (k := 9) x hname dX2_init_59 jc_6 wfX2_31 (by decide) rfl rfl rfl rfl (by omega) ((fI_t (lg0 hi)).1) ((fI_t (lg0 hi)).2) ?_
  refine j_aload_n x dX2_init_62 rfl ?_
  refine j_bipush (v := 56) x dX2_init_63 (by decide) ?_
  refine j3_newa_int (N := 56) x dX2_init_65 (by decide) (by decide) (by decide) ((fA_t (lgA5 hi)).1) ((fA_t (lgA5 hi)).2) (Nat.le_of_ble_eq_true rfl) (Nat.le_of_ble_eq_true rfl) ?_
  refine j3_putF (k := 10) x hname dX2_init_67 jc_6 wfX2_34 (by decide) rfl rfl rfl rfl (by omega) ((fI_t (lg0 hi)).1) ((fI_t (lg0 hi)).2) ?_
  exact j_return x hr dX2_init_70 (Nat.le_of_ble_eq_true rfl) (Nat.le_of_ble_eq_true rfl) ⟨rfl, rfl⟩
theorem fLg_n {f : Nat → Nat → Value} {i a b : Nat} (h : a < i) : fLg f i a b = f a b := by
  unfold fLg
  repeat (first | rw [fw_n (by omega)] | rw [fz_n (by omega)])
def fHi (f : Nat → Nat → Value) : Nat → Nat → Value := fw (fLg (ju (fw (fLg (ju (fw (fLg (ju (fw (fLg (ju (fw (fLg (ju (fw (fLg (ju (fw (fLg (ju (fw (fLg (ju (fw (fLg (ju (fw (fz (f) (14) .null) (13) 0 (.ref (14))) (15) (fun k => defaultValue (tyX2 k))) (15)) (14) 0 (.ref (15))) (21) (fun k => defaultValue (tyX2 k))) (21)) (14) 1 (.ref (21))) (27) (fun k => defaultValue (tyX2 k))) (27)) (14) 2 (.ref (27))) (33) (fun k => defaultValue (tyX2 k))) (33)) (14) 3 (.ref (33))) (39) (fun k => defaultValue (tyX2 k))) (39)) (14) 4 (.ref (39))) (45) (fun k => defaultValue (tyX2 k))) (45)) (14) 5 (.ref (45))) (51) (fun k => defaultValue (tyX2 k))) (51)) (14) 6 (.ref (51))) (57) (fun k => defaultValue (tyX2 k))) (57)) (14) 7 (.ref (57))) (63) (fun k => defaultValue (tyX2 k))) (63)) (14) 8 (.ref (63))
theorem k_Hi {d : Nat} {f : Nat → Nat → Value} : CI (d + 1) 55 1719 yX1_init cX1_init 2 [.ref 13] (14) f (69) (fHi f) := by
  refine Con.of (by decide +kernel) (Nat.le_of_ble_eq_true rfl) rfl fun p l e s m args below meth c D tyc A ad0 x hr htab hname => ?_
  change JJ _ _ _ _ _ _ _ _ _ _ _ _ _ _ _ _ _ 0 [some (.ref 13), none] [] (HS (14) f) 0 0
  refine j_aload_n x dX1_init_0 rfl ?_
  refine j_objInit x dX1_init_1 wmX1_3 wo_inst wo_code (Nat.le_of_ble_eq_true rfl) (by show 1 ≤ 12 + _; omega) (by show 20 ≤ 150 + 60 * _; omega) ?_
  refine j_aload_n x dX1_init_4 rfl ?_
  refine j_bipush (v := 9) x dX1_init_5 (by decide) ?_
  refine j3_anewa (N := 9) x dX1_init_7 wcX1_11 (by decide) (by decide) (by decide) rfl rfl (Nat.le_of_ble_eq_true rfl) (Nat.le_of_ble_eq_true rfl) ?_
  refine j3_putF (k := 0) x hname dX1_init_10 jc_5 wfX1_13 (by decide) rfl rfl rfl rfl (by omega) (rfl) (rfl) ?_
  refine j_iconst (v := 0) x dX1_init_13 (by decide) ?_
  refine j_istore_n x dX1_init_14 (by decide) rfl ?_
  refine j_iload_n x dX1_init_15 rfl ?_
  refine j_aload_n x dX1_init_16 rfl ?_
  refine j3_get (k := 0) (v := .ref 14) x dX1_init_17 jc_5 wfX1_13 (by decide) (by decide) rfl rfl (by repeat (first | rw [fw_n (by omega)] | rw [fz_n (by omega)] | rw [fLg_n (by omega)] | rw [ju_n (by omega)] | rw [fw_s])) ?_
  refine j_alen (t := 103) (v := 9) x dX1_init_20 (Nat.le_of_ble_eq_true rfl) rfl (by decide) (by decide) rfl ?_
  refine j_icmp_ge (tgt := 43) x dX1_init_21 (by decide) (fun hc => absurd hc (by decide)) (fun hc => ?_)
  refine j_aload_n x dX1_init_24 rfl ?_
  refine j3_get (k := 0) (v := .ref 14) x dX1_init_25 jc_5 wfX1_13 (by decide) (by decide) rfl rfl (by repeat (first | rw [fw_n (by omega)] | rw [fz_n (by omega)] | rw [fLg_n (by omega)] | rw [ju_n (by omega)] | rw [fw_s])) ?_
  refine j_iload_n x dX1_init_28 rfl ?_
  refine j3_new x dX1_init_29 jc_6 wcX1_11 wt_LeagueTables_League wi_LeagueTables_League rfl rfl (Nat.le_of_ble_eq_true rfl) (Nat.le_of_ble_eq_true rfl) ?_
  refine j_dup x dX1_init_32 rfl ?_
  refine j3_initN x dX1_init_33 m_X2_init (k_Lg (d := d) (i := 15) rfl) wnX1_17 (by decide) rfl (Nat.le_of_ble_eq_true rfl) (j_fit_rm (by omega) (Nat.le_of_ble_eq_true rfl) (Nat.le_of_ble_eq_true rfl)) rfl ?_
  refine j3_aast (j := 0) x dX1_init_36 (by decide) rfl rfl (vp_c (by decide)) (by decide) (by decide) rfl ?_
  refine j_iinc x dX1_init_37 rfl (by decide) rfl ?_
  refine j_goto (tgt := 15) x dX1_init_40 (by decide) ?_
  refine j_iload_n x dX1_init_15 rfl ?_
  refine j_aload_n x dX1_init_16 rfl ?_
  refine j3_get (k := 0) (v := .ref 14) x dX1_init_17 jc_5 wfX1_13 (by decide) (by decide) rfl rfl (by repeat (first | rw [fw_n (by omega)] | rw [fz_n (by omega)] | rw [fLg_n (by omega)] | rw [ju_n (by omega)] | rw [fw_s])) ?_
  refine j_alen (t := 103) (v := 9) x dX1_init_20 (Nat.le_of_ble_eq_true rfl) rfl (by decide) (by decide) rfl ?_
  refine j_icmp_ge (tgt := 43) x dX1_init_21 (by decide) (fun hc => absurd hc (by decide)) (fun hc => ?_)
  refine j_aload_n x dX1_init_24 rfl ?_
  refine j3_get (k := 0) (v := .ref 14) x dX1_init_25 jc_5 wfX1_13 (by decide) (by decide) rfl rfl (by repeat (first | rw [fw_n (by omega)] | rw [fz_n (by omega)] | rw [fLg_n (by omega)] | rw [ju_n (by omega)] | rw [fw_s])) ?_
  refine j_iload_n x dX1_init_28 rfl ?_
  refine j3_new x dX1_init_29 jc_6 wcX1_11 wt_LeagueTables_League wi_LeagueTables_League rfl rfl (Nat.le_of_ble_eq_true rfl) (Nat.le_of_ble_eq_true rfl) ?_
  refine j_dup x dX1_init_32 rfl ?_
  refine j3_initN x dX1_init_33 m_X2_init (k_Lg (d := d) (i := 21) rfl) wnX1_17 (by decide) rfl (Nat.le_of_ble_eq_true rfl) (j_fit_rm (by omega) (Nat.le_of_ble_eq_true rfl) (Nat.le_of_ble_eq_true rfl)) rfl ?_
  refine j3_aast (j := 1) x dX1_init_36 (by decide) rfl rfl (vp_c (by decide)) (by decide) (by decide) rfl ?_
  refine j_iinc x dX1_init_37 rfl (by decide) rfl ?_
  refine j_goto (tgt := 15) x dX1_init_40 (by decide) ?_
  refine j_iload_n x dX1_init_15 rfl ?_
  refine j_aload_n x dX1_init_16 rfl ?_
  refine j3_get (k := 0) (v := .ref 14) x dX1_init_17 jc_5 wfX1_13 (by decide) (by decide) rfl rfl (by repeat (first | rw [fw_n (by omega)] | rw [fz_n (by omega)] | rw [fLg_n (by omega)] | rw [ju_n (by omega)] | rw [fw_s])) ?_
  refine j_alen (t := 103) (v := 9) x dX1_init_20 (Nat.le_of_ble_eq_true rfl) rfl (by decide) (by decide) rfl ?_
  refine j_icmp_ge (tgt := 43) x dX1_init_21 (by decide) (fun hc => absurd hc (by decide)) (fun hc => ?_)
  refine j_aload_n x dX1_init_24 rfl ?_
  refine j3_get (k := 0) (v := .ref 14) x dX1_init_25 jc_5 wfX1_13 (by decide) (by decide) rfl rfl (by repeat (first | rw [fw_n (by omega)] | rw [fz_n (by omega)] | rw [fLg_n (by omega)] | rw [ju_n (by omega)] | rw [fw_s])) ?_
  refine j_iload_n x dX1_init_28 rfl ?_
  refine j3_new x dX1_init_29 jc_6 wcX1_11 wt_LeagueTables_League wi_LeagueTables_League rfl rfl (Nat.le_of_ble_eq_true rfl) (Nat.le_of_ble_eq_true rfl) ?_
  refine j_dup x dX1_init_32 rfl ?_
  refine j3_initN x dX1_init_33 m_X2_init (k_Lg (d := d) (i := 27) rfl) wnX1_17 (by decide) rfl (Nat.le_of_ble_eq_true rfl) (j_fit_rm (by omega) (Nat.le_of_ble_eq_true rfl) (Nat.le_of_ble_eq_true rfl)) rfl ?_
  refine j3_aast (j := 2) x dX1_init_36 (by decide) rfl rfl (vp_c (by decide)) (by decide) (by decide) rfl ?_
  refine j_iinc x dX1_init_37 rfl (by decide) rfl ?_
  refine j_goto (tgt := 15) x dX1_init_40 (by decide) ?_
  refine j_iload_n x dX1_init_15 rfl ?_
  refine j_aload_n x dX1_init_16 rfl ?_
  refine j3_get (k := 0) (v := .ref 14) x dX1_init_17 jc_5 wfX1_13 (by decide) (by decide) rfl rfl (by repeat (first | rw [fw_n (by omega)] | rw [fz_n (by omega)] | rw [fLg_n (by omega)] | rw [ju_n (by omega)] | rw [fw_s])) ?_
  refine j_alen (t := 103) (v := 9) x dX1_init_20 (Nat.le_of_ble_eq_true rfl) rfl (by decide) (by decide) rfl ?_
  refine j_icmp_ge (tgt := 43) x dX1_init_21 (by decide) (fun hc => absurd hc (by decide)) (fun hc => ?_)
  refine j_aload_n x dX1_init_24 rfl ?_
  refine j3_get (k := 0) (v := .ref 14) x dX1_init_25 jc_5 wfX1_13 (by decide) (by decide) rfl rfl (by repeat (first | rw [fw_n (by omega)] | rw [fz_n (by omega)] | rw [fLg_n (by omega)] | rw [ju_n (by omega)] | rw [fw_s])) ?_
  refine j_iload_n x dX1_init_28 rfl ?_
  refine j3_new x dX1_init_29 jc_6 wcX1_11 wt_LeagueTables_League wi_LeagueTables_League rfl rfl (Nat.le_of_ble_eq_true rfl) (Nat.le_of_ble_eq_true rfl) ?_
  refine j_dup x dX1_init_32 rfl ?_
  refine j3_initN x dX1_init_33 m_X2_init (k_Lg (d := d) (i := 33) rfl) wnX1_17 (by decide) rfl (Nat.le_of_ble_eq_true rfl) (j_fit_rm (by omega) (Nat.le_of_ble_eq_true rfl) (Nat.le_of_ble_eq_true rfl)) rfl ?_
  refine j3_aast (j := 3) x dX1_init_36 (by decide) rfl rfl (vp_c (by decide)) (by decide) (by decide) rfl ?_
  refine j_iinc x dX1_init_37 rfl (by decide) rfl ?_
  refine j_goto (tgt := 15) x dX1_init_40 (by decide) ?_
  refine j_iload_n x dX1_init_15 rfl ?_
  refine j_aload_n x dX1_init_16 rfl ?_
  refine j3_get (k := 0) (v := .ref 14) x dX1_init_17 jc_5 wfX1_13 (by decide) (by decide) rfl rfl (by repeat (first | rw [fw_n (by omega)] | rw [fz_n (by omega)] | rw [fLg_n (by omega)] | rw [ju_n (by omega)] | rw [fw_s])) ?_
  refine j_alen (t := 103) (v := 9) x dX1_init_20 (Nat.le_of_ble_eq_true rfl) rfl (by decide) (by decide) rfl ?_
  refine j_icmp_ge (tgt := 43) x dX1_init_21 (by decide) (fun hc => absurd hc (by decide)) (fun hc => ?_)
  refine j_aload_n x dX1_init_24 rfl ?_
  refine j3_get (k := 0) (v := .ref 14) x dX1_init_25 jc_5 wfX1_13 (by decide) (by decide) rfl rfl (by repeat (first | rw [fw_n (by omega)] | rw [fz_n (by omega)] | rw [fLg_n (by omega)] | rw [ju_n (by omega)] | rw [fw_s])) ?_
  refine j_iload_n x dX1_init_28 rfl ?_
  refine j3_new x dX1_init_29 jc_6 wcX1_11 wt_LeagueTables_League wi_LeagueTables_League rfl rfl (Nat.le_of_ble_eq_true rfl) (Nat.le_of_ble_eq_true rfl) ?_
  refine j_dup x dX1_init_32 rfl ?_
  refine j3_initN x dX1_init_33 m_X2_init (k_Lg (d := d) (i := 39) rfl) wnX1_17 (by decide) rfl (Nat.le_of_ble_eq_true rfl) (j_fit_rm (by omega) (Nat.le_of_ble_eq_true rfl) (Nat.le_of_ble_eq_true rfl)) rfl ?_
  refine j3_aast (j := 4) x dX1_init_36 (by decide) rfl rfl (vp_c (by decide)) (by decide) (by decide) rfl ?_
  refine j_iinc x dX1_init_37 rfl (by decide) rfl ?_
  refine j_goto (tgt := 15) x dX1_init_40 (by decide) ?_
  refine j_iload_n x dX1_init_15 rfl ?_
  refine j_aload_n x dX1_init_16 rfl ?_
  refine j3_get (k := 0) (v := .ref 14) x dX1_init_17 jc_5 wfX1_13 (by decide) (by decide) rfl rfl (by repeat (first | rw [fw_n (by omega)] | rw [fz_n (by omega)] | rw [fLg_n (by omega)] | rw [ju_n (by omega)] | rw [fw_s])) ?_
  refine j_alen (t := 103) (v := 9) x dX1_init_20 (Nat.le_of_ble_eq_true rfl) rfl (by decide) (by decide) rfl ?_
  refine j_icmp_ge (tgt := 43) x dX1_init_21 (by decide) (fun hc => absurd hc (by decide)) (fun hc => ?_)
  refine j_aload_n x dX1_init_24 rfl ?_
  refine j3_get (k := 0) (v := .ref 14) x dX1_init_25 jc_5 wfX1_13 (by decide) (by decide) rfl rfl (by repeat (first | rw [fw_n (by omega)] | rw [fz_n (by omega)] | rw [fLg_n (by omega)] | rw [ju_n (by omega)] | rw [fw_s])) ?_
  refine j_iload_n x dX1_init_28 rfl ?_
  refine j3_new x dX1_init_29 jc_6 wcX1_11 wt_LeagueTables_League wi_LeagueTables_League rfl rfl (Nat.le_of_ble_eq_true rfl) (Nat.le_of_ble_eq_true rfl) ?_
  refine j_dup x dX1_init_32 rfl ?_
  refine j3_initN x dX1_init_33 m_X2_init (k_Lg (d := d) (i := 45) rfl) wnX1_17 (by decide) rfl (Nat.le_of_ble_eq_true rfl) (j_fit_rm (by omega) (Nat.le_of_ble_eq_true rfl) (Nat.le_of_ble_eq_true rfl)) rfl ?_
  refine j3_aast (j := 5) x dX1_init_36 (by decide) rfl rfl (vp_c (by decide)) (by decide) (by decide) rfl ?_
  refine j_iinc x dX1_init_37 rfl (by decide) rfl ?_
  refine j_goto (tgt := 15) x dX1_init_40 (by decide) ?_
  refine j_iload_n x dX1_init_15 rfl ?_
  refine j_aload_n x dX1_init_16 rfl ?_
  refine j3_get (k := 0) (v := .ref 14) x dX1_init_17 jc_5 wfX1_13 (by decide) (by decide) rfl rfl (by repeat (first | rw [fw_n (by omega)] | rw [fz_n (by omega)] | rw [fLg_n (by omega)] | rw [ju_n (by omega)] | rw [fw_s])) ?_
  refine j_alen (t := 103) (v := 9) x dX1_init_20 (Nat.le_of_ble_eq_true rfl) rfl (by decide) (by decide) rfl ?_
  refine j_icmp_ge (tgt := 43) x dX1_init_21 (by decide) (fun hc => absurd hc (by decide)) (fun hc => ?_)
  refine j_aload_n x dX1_init_24 rfl ?_
  refine j3_get (k := 0) (v := .ref 14) x dX1_init_25 jc_5 wfX1_13 (by decide) (by decide) rfl rfl (by repeat (first | rw [fw_n (by omega)] | rw [fz_n (by omega)] | rw [fLg_n (by omega)] | rw [ju_n (by omega)] | rw [fw_s])) ?_
  refine j_iload_n x dX1_init_28 rfl ?_
  refine j3_new x dX1_init_29 jc_6 wcX1_11 wt_LeagueTables_League wi_LeagueTables_League rfl rfl (Nat.le_of_ble_eq_true rfl) (Nat.le_of_ble_eq_true rfl) ?_
  refine j_dup x dX1_init_32 rfl ?_
  refine j3_initN x dX1_init_33 m_X2_init (k_Lg (d := d) (i := 51) rfl) wnX1_17 (by decide) rfl (Nat.le_of_ble_eq_true rfl) (j_fit_rm (by omega) (Nat.le_of_ble_eq_true rfl) (Nat.le_of_ble_eq_true rfl)) rfl ?_
  refine j3_aast (j := 6) x dX1_init_36 (by decide) rfl rfl (vp_c (by decide)) (by decide) (by decide) rfl ?_
  refine j_iinc x dX1_init_37 rfl (by decide) rfl ?_
  refine j_goto (tgt := 15) x dX1_init_40 (by decide) ?_
  refine j_iload_n x dX1_init_15 rfl ?_
  refine j_aload_n x dX1_init_16 rfl ?_
  refine j3_get (k := 0) (v := .ref 14) x dX1_init_17 jc_5 wfX1_13 (by decide) (by decide) rfl rfl (by repeat (first | rw [fw_n (by omega)] | rw [fz_n (by omega)] | rw [fLg_n (by omega)] | rw [ju_n (by omega)] | rw [fw_s])) ?_
  refine j_alen (t := 103) (v := 9) x dX1_init_20 (Nat.le_of_ble_eq_true rfl) rfl (by decide) (by decide) rfl ?_
  refine j_icmp_ge (tgt := 43) x dX1_init_21 (by decide) (fun hc => absurd hc (by decide)) (fun hc => ?_)
  refine j_aload_n x dX1_init_24 rfl ?_
  refine j3_get (k := 0) (v := .ref 14) x dX1_init_25 jc_5 wfX1_13 (by decide) (by decide) rfl rfl (by repeat (first | rw [fw_n (by omega)] | rw [fz_n (by omega)] | rw [fLg_n (by omega)] | rw [ju_n (by omega)] | rw [fw_s])) ?_
  refine j_iload_n x dX1_init_28 rfl ?_
  refine j3_new x dX1_init_29 jc_6 wcX1_11 wt_LeagueTables_League wi_LeagueTables_League rfl rfl (Nat.le_of_ble_eq_true rfl) (Nat.le_of_ble_eq_true rfl) ?_
  refine j_dup x dX1_init_32 rfl ?_
  refine j3_initN x dX1_init_33 m_X2_init (k_Lg (d := d) (i := 57) rfl) wnX1_17 (by decide) rfl (Nat.le_of_ble_eq_true rfl) (j_fit_rm (by omega) (Nat.le_of_ble_eq_true rfl) (Nat.le_of_ble_eq_true rfl)) rfl ?_
  refine j3_aast (j := 7) x dX1_init_36 (by decide) rfl rfl (vp_c (by decide)) (by decide) (by decide) rfl ?_
  refine j_iinc x dX1_init_37 rfl (by decide) rfl ?_
  refine j_goto (tgt := 15) x dX1_init_40 (by decide) ?_
  refine j_iload_n x dX1_init_15 rfl ?_
  refine j_aload_n x dX1_init_16 rfl ?_
  refine j3_get (k := 0) (v := .ref 14) x dX1_init_17 jc_5 wfX1_13 (by decide) (by decide) rfl rfl (by repeat (first | rw [fw_n (by omega)] | rw [fz_n (by omega)] | rw [fLg_n (by omega)] | rw [ju_n (by omega)] | rw [fw_s])) ?_
  refine j_alen (t := 103) (v := 9) x dX1_init_20 (Nat.le_of_ble_eq_true rfl) rfl (by decide) (by decide) rfl ?_
  refine j_icmp_ge (tgt := 43) x dX1_init_21 (by decide) (fun hc => absurd hc (by decide)) (fun hc => ?_)
  refine j_aload_n x dX1_init_24 rfl ?_
  refine j3_get (k := 0) (v := .ref 14) x dX1_init_25 jc_5 wfX1_13 (by decide) (by decide) rfl rfl (by repeat (first | rw [fw_n (by omega)] | rw [fz_n (by omega)] | rw [fLg_n (by omega)] | rw [ju_n (by omega)] | rw [fw_s])) ?_
  refine j_iload_n x dX1_init_28 rfl ?_
  refine j3_new x dX1_init_29 jc_6 wcX1_11 wt_LeagueTables_League wi_LeagueTables_League rfl rfl (Nat.le_of_ble_eq_true rfl) (Nat.le_of_ble_eq_true rfl) ?_
  refine j_dup x dX1_init_32 rfl ?_
  refine j3_initN x dX1_init_33 m_X2_init (k_Lg (d := d) (i := 63) rfl) wnX1_17 (by decide) rfl (Nat.le_of_ble_eq_true rfl) (j_fit_rm (by omega) (Nat.le_of_ble_eq_true rfl) (Nat.le_of_ble_eq_true rfl)) rfl ?_
  refine j3_aast (j := 8) x dX1_init_36 (by decide) rfl rfl (vp_c (by decide)) (by decide) (by decide) rfl ?_
  refine j_iinc x dX1_init_37 rfl (by decide) rfl ?_
  refine j_goto (tgt := 15) x dX1_init_40 (by decide) ?_
  refine j_iload_n x dX1_init_15 rfl ?_
  refine j_aload_n x dX1_init_16 rfl ?_
  refine j3_get (k := 0) (v := .ref 14) x dX1_init_17 jc_5 wfX1_13 (by decide) (by decide) rfl rfl (by repeat (first | rw [fw_n (by omega)] | rw [fz_n (by omega)] | rw [fLg_n (by omega)] | rw [ju_n (by omega)] | rw [fw_s])) ?_
  refine j_alen (t := 103) (v := 9) x dX1_init_20 (Nat.le_of_ble_eq_true rfl) rfl (by decide) (by decide) rfl ?_
  refine j_icmp_ge (tgt := 43) x dX1_init_21 (by decide) (fun hc => ?_) (fun hc => absurd (by decide) hc)
  exact j_return x hr dX1_init_43 (Nat.le_of_ble_eq_true rfl) (Nat.le_of_ble_eq_true rfl) ⟨rfl, rfl⟩
def fFx (f : Nat → Nat → Value) : Nat → Nat → Value := fw (fz (fw (fz (fw (fz (fw (fz (fw (fz (f) (70) (.int 0)) (69) 2 (.ref (70))) (71) (.int 0)) (69) 3 (.ref (71))) (72) (.int 0)) (69) 4 (.ref (72))) (73) (.int 0)) (69) 5 (.ref (73))) (74) (.int 0)) (69) 6 (.ref (74))
theorem k_Fx {d : Nat} {f : Nat → Nat → Value} : CI (d) 5 190 yX0_init cX0_init 1 [.ref 69] (70) f (75) (fFx f) := by
  refine Con.of (by decide +kernel) (Nat.le_of_ble_eq_true rfl) rfl fun p l e s m args below meth c D tyc A ad0 x hr htab hname => ?_
  change JJ _ _ _ _ _ _ _ _ _ _ _ _ _ _ _ _ _ 0 [some (.ref 69)] [] (HS (70) f) 0 0
  refine j_aload_n x dX0_init_0 rfl ?_
  refine j_objInit x dX0_init_1 wmX0_3 wo_inst wo_code (Nat.le_of_ble_eq_true rfl) (by show 1 ≤ 12 + _; omega) (by show 20 ≤ 150 + 60 * _; omega) ?_
  refine j_aload_n x dX0_init_4 rfl ?_
  refine j_bipush (v := 56) x dX0_init_5 (by decide) ?_
  refine j3_newa_int (N := 56) x dX0_init_7 (by decide) (by decide) (by decide) (rfl) (rfl) (Nat.le_of_ble_eq_true rfl) (Nat.le_of_ble_eq_true rfl) ?_
  refine j3_putF (k := 2) x hname dX0_init_9 jc_4 wfX0_9 (by decide) rfl rfl rfl rfl (by omega) (rfl) (rfl) ?_
  refine j_aload_n x dX0_init_12 rfl ?_
  refine j_bipush (v := 56) x dX0_init_13 (by decide) ?_
  refine j3_newa_int (N := 56) x dX0_init_15 (by decide) (by decide) (by decide) (rfl) (rfl) (Nat.le_of_ble_eq_true rfl) (Nat.le_of_ble_eq_true rfl) ?_
  refine j3_putF (k := 3) x hname dX0_init_17 jc_4 wfX0_15 (by decide) rfl rfl rfl rfl (by omega) (rfl) (rfl) ?_
  refine j_aload_n x dX0_init_20 rfl ?_
  refine j_bipush (v := 56) x dX0_init_21 (by decide) ?_
  refine j3_newa_int (N := 56) x dX0_init_23 (by decide) (by decide) (by decide) (rfl) (rfl) (Nat.le_of_ble_eq_true rfl) (Nat.le_of_ble_eq_true rfl) ?_
  refine j3_putF (k := 4) x hname dX0_init_25 jc_4 wfX0_18 (by decide) rfl rfl rfl rfl (by omega) (rfl) (rfl) ?_
  refine j_aload_n x dX0_init_28 rfl ?_
  refine j_bipush (v := 14) x dX0_init_29 (by decide) ?_
  refine j3_newa_int (N := 14) x dX0_init_31 (by decide) (by decide) (by decide) (rfl) (rfl) (Nat.le_of_ble_eq_true rfl) (Nat.le_of_ble_eq_true rfl) ?_
  refine j3_putF (k := 5) x hname dX0_init_33 jc_4 wfX0_21 (by decide) rfl rfl rfl rfl (by omega) (rfl) (rfl) ?_
  refine j_aload_n x dX0_init_36 rfl ?_
  refine j_bipush (v := 8) x dX0_init_37 (by decide) ?_
  refine j3_newa_int (N := 8) x dX0_init_39 (by decide) (by decide) (by decide) (rfl) (rfl) (Nat.le_of_ble_eq_true rfl) (Nat.le_of_ble_eq_true rfl) ?_
  refine j3_putF (k := 6) x hname dX0_init_41 jc_4 wfX0_24 (by decide) rfl rfl rfl rfl (by omega) (rfl) (rfl) ?_
  exact j_return x hr dX0_init_44 (Nat.le_of_ble_eq_true rfl) (Nat.le_of_ble_eq_true rfl) ⟨rfl, rfl⟩
def fTl (f : Nat → Nat → Value) : Nat → Nat → Value := fw (fz (fw (fz (fw (fz (fw (fz (fw (fz (fw (fz (fw (fz (fw (fz (fw (fz (f) (76) (.int 0)) (75) 3 (.ref (76))) (77) (.int 0)) (75) 4 (.ref (77))) (78) (.int 0)) (75) 5 (.ref (78))) (79) (.int 0)) (75) 6 (.ref (79))) (80) (.int 0)) (75) 7 (.ref (80))) (81) (.int 0)) (75) 8 (.ref (81))) (82) (.int 0)) (75) 9 (.ref (82))) (83) (.int 0)) (75) 10 (.ref (83))) (84) (.int 0)) (75) 11 (.ref (84))
theorem k_Tl {d : Nat} {f : Nat → Nat → Value} : CI (d) 9 72 yX3_init cX3_init 1 [.ref 75] (76) f (85) (fTl f) := by
  refine Con.of (by decide +kernel) (Nat.le_of_ble_eq_true rfl) rfl fun p l e s m args below meth c D tyc A ad0 x hr htab hname => ?_
  change JJ _ _ _ _ _ _ _ _ _ _ _ _ _ _ _ _ _ 0 [some (.ref 75)] [] (HS (76) f) 0 0
  refine j_aload_n x dX3_init_0 rfl ?_
  refine j_objInit x dX3_init_1 wmX3_3 wo_inst wo_code (Nat.le_of_ble_eq_true rfl) (by show 1 ≤ 12 + _; omega) (by show 20 ≤ 150 + 60 * _; omega) ?_
  refine j_aload_n x dX3_init_4 rfl ?_
  refine j_bipush (v := 8) x dX3_init_5 (by decide) ?_
  refine j3_newa_int (N := 8) x dX3_init_7 (by decide) (by decide) (by decide) (rfl) (rfl) (Nat.le_of_ble_eq_true rfl) (Nat.le_of_ble_eq_true rfl) ?_
  refine j3_putF (k := 3) x hname dX3_init_9 jc_7 wfX3_9 (by decide) rfl rfl rfl rfl (by omega) (rfl) (rfl) ?_
  refine j_aload_n x dX3_init_12 rfl ?_
  refine j_bipush (v := 8) x dX3_init_13 (by decide) ?_
  refine j3_newa_int (N := 8) x dX3_init_15 (by decide) (by decide) (by decide) (rfl) (rfl) (Nat.le_of_ble_eq_true rfl) (Nat.le_of_ble_eq_true rfl) ?_
  refine j3_putF (k := 4) x hname dX3_init_17 jc_7 wfX3_15 (by decide) rfl rfl rfl rfl (by omega) (rfl) (rfl) ?_
  refine j_aload_n x dX3_init_20 rfl ?_
  refine j_bipush (v := 8) x dX3_init_21 (by decide) ?_
  refine j3_newa_int (N := 8) x dX3_init_23 (by decide) (by decide) (by decide) (rfl) (rfl) (Nat.le_of_ble_eq_true rfl) (Nat.le_of_ble_eq_true rfl) ?_
  refine j3_putF (k := 5) x hname dX3_init_25 jc_7 wfX3_18 (by decide) rfl rfl rfl rfl (by omega) (rfl) (rfl) ?_
  refine j_aload_n x dX3_init_28 rfl ?_
  refine j_bipush (v := 8) x dX3_init_29 (by decide) ?_
  refine j3_newa_int (N := 8) x dX3_init_31 (by decide) (by decide) (by decide) (rfl) (rfl) (Nat.le_of_ble_eq_true rfl) (Nat.le_of_ble_eq_true rfl) ?_
  refine j3_putF (k := 6) x hname dX3_init_33 jc_7 wfX3_21 (by decide) rfl rfl rfl rfl (by omega) (rfl) (rfl) ?_
  refine j_aload_n x dX3_init_36 rfl ?_
  refine j_bipush (v := 8) x dX3_init_37 (by decide) ?_
  refine j3_newa_int (N := 8) x dX3_init_39 (by decide) (by decide) (by decide) (rfl) (rfl) (Nat.le_of_ble_eq_true rfl) (Nat.le_of_ble_eq_true rfl) ?_
  refine j3_putF (k := 7) x hname dX3_init_41 jc_7 wfX3_24 (by decide) rfl rfl rfl rfl (by omega) (rfl) (rfl) ?_
  refine j_aload_n x dX3_init_44 rfl ?_
  refine j_bipush (v := 8) x dX3_init_45 (by decide) ?_
  refine j3_newa_int (N := 8) x dX3_init_47 (by decide) (by decide) (by decide) (rfl) (rfl) (Nat.le_of_ble_eq_true rfl) (Nat.le_of_ble_eq_true rfl) ?_
  refine j3_putF (k := 8) x hname dX3_init_49 jc_7 wfX3_27 (by decide) rfl rfl rfl rfl (by omega) (rfl) (rfl) ?_
  refine j_aload_n x dX3_init_52 rfl ?_
  refine j_bipush (v := 8) x dX3_init_53 (by decide) ?_
  refine j3_newa_int (N := 8) x dX3_init_55 (by decide) (by decide) (by decide) (rfl) (rfl) (Nat.le_of_ble_eq_true rfl) (Nat.le_of_ble_eq_true rfl) ?_
  refine j3_putF (k := 9) x hname dX3_init_57 jc_7 wfX3_30 (by decide) rfl rfl rfl rfl (by omega) (rfl) (rfl) ?_
  refine j_aload_n x dX3_init_60 rfl ?_
  refine j_bipush (v := 8) x dX3_init_61 (by decide) ?_
  refine j3_newa_int (N := 8) x dX3_init_63 (by decide) (by decide) (by decide) (rfl) (rfl) (Nat.le_of_ble_eq_true rfl) (Nat.le_of_ble_eq_true rfl) ?_
  refine j3_putF (k := 10) x hname dX3_init_65 jc_7 wfX3_33 (by decide) rfl rfl rfl rfl (by omega) (rfl) (rfl) ?_
  refine j_aload_n x dX3_init_68 rfl ?_
  refine j_bipush (v := 8) x dX3_init_69 (by decide) ?_
  refine j3_newa_int (N := 8) x dX3_init_71 (by decide) (by decide) (by decide) (rfl) (rfl) (Nat.le_of_ble_eq_true rfl) (Nat.le_of_ble_eq_true rfl) ?_
  refine j3_putF (k := 11) x hname dX3_init_73 jc_7 wfX3_36 (by decide) rfl rfl rfl rfl (by omega) (rfl) (rfl) ?_
  exact j_return x hr dX3_init_76 (Nat.le_of_ble_eq_true rfl) (Nat.le_of_ble_eq_true rfl) ⟨rfl, rfl⟩
def fTx (f : Nat → Nat → Value) : Nat → Nat → Value := fw (fz (fw (fz (fw (fz (fw (fz (fw (fz (f) (87) (.int 0)) (86) 3 (.ref (87))) (88) (.int 0)) (86) 4 (.ref (88))) (89) (.int 0)) (86) 5 (.ref (89))) (90) (.int 0)) (86) 6 (.ref (90))) (91) (.int 0)) (86) 7 (.ref (91))
theorem k_Tx {d : Nat} {f : Nat → Nat → Value} : CI (d) 5 180 yX4_init cX4_init 1 [.ref 86] (87) f (92) (fTx f) := by
  refine Con.of (by decide +kernel) (Nat.le_of_ble_eq_true rfl) rfl fun p l e s m args below meth c D tyc A ad0 x hr htab hname => ?_
  change JJ _ _ _ _ _ _ _ _ _ _ _ _ _ _ _ _ _ 0 [some (.ref 86)] [] (HS (87) f) 0 0
  refine j_aload_n x dX4_init_0 rfl ?_
  refine j_objInit x dX4_init_1 wmX4_3 wo_inst wo_code (Nat.le_of_ble_eq_true rfl) (by show 1 ≤ 12 + _; omega) (by show 20 ≤ 150 + 60 * _; omega) ?_
  refine j_aload_n x dX4_init_4 rfl ?_
  refine j_bipush (v := 60) x dX4_init_5 (by decide) ?_
  refine j3_newa_char (N := 60) x dX4_init_7 (by decide) (by decide) (by decide) (rfl) (rfl) (Nat.le_of_ble_eq_true rfl) (Nat.le_of_ble_eq_true rfl) ?_
  refine j3_putF (k := 3) x hname dX4_init_9 jc_8 wfX4_9 (by decide) rfl rfl rfl rfl (by omega) (rfl) (rfl) ?_
  refine j_aload_n x dX4_init_12 rfl ?_
  refine j_bipush (v := 30) x dX4_init_13 (by decide) ?_
  refine j3_newa_int (N := 30) x dX4_init_15 (by decide) (by decide) (by decide) (rfl) (rfl) (Nat.le_of_ble_eq_true rfl) (Nat.le_of_ble_eq_true rfl) ?_
  refine j3_putF (k := 4) x hname dX4_init_17 jc_8 wfX4_15 (by decide) rfl rfl rfl rfl (by omega) (rfl) (rfl) ?_
  refine j_aload_n x dX4_init_20 rfl ?_
  refine j_bipush (v := 30) x dX4_init_21 (by decide) ?_
  refine j3_newa_int (N := 30) x dX4_init_23 (by decide) (by decide) (by decide) (rfl) (rfl) (Nat.le_of_ble_eq_true rfl) (Nat.le_of_ble_eq_true rfl) ?_
  refine j3_putF (k := 5) x hname dX4_init_25 jc_8 wfX4_19 (by decide) rfl rfl rfl rfl (by omega) (rfl) (rfl) ?_
  refine j_aload_n x dX4_init_28 rfl ?_
  refine j_bipush (v := 30) x dX4_init_29 (by decide) ?_
  refine j3_newa_int (N := 30) x dX4_init_31 (by decide) (by decide) (by decide) (rfl) (rfl) (Nat.le_of_ble_eq_true rfl) (Nat.le_of_ble_eq_true rfl) ?_
  refine j3_putF (k := 6) x hname dX4_init_33 jc_8 wfX4_22 (by decide) rfl rfl rfl rfl (by omega) (rfl) (rfl) ?_
  refine j_aload_n x dX4_init_36 rfl ?_
  refine j_bipush (v := 30) x dX4_init_37 (by decide) ?_
  refine j3_newa_int (N := 30) x dX4_init_39 (by decide) (by decide) (by decide) (rfl) (rfl) (Nat.le_of_ble_eq_true rfl) (Nat.le_of_ble_eq_true rfl) ?_
  refine j3_putF (k := 7) x hname dX4_init_41 jc_8 wfX4_25 (by decide) rfl rfl rfl rfl (by omega) (rfl) (rfl) ?_
  exact j_return x hr dX4_init_44 (Nat.le_of_ble_eq_true rfl) (Nat.le_of_ble_eq_true rfl) ⟨rfl, rfl⟩
def fSb (f : Nat → Nat → Value) : Nat → Nat → Value := fw (fw (fz (f) (93) (.int 0)) (92) 0 (.ref (93))) (92) 1 (.int (0))
theorem k_Asb {d : Nat} {f : Nat → Nat → Value} : CI (d) 1 16 yJ5_init_d00df cJ5_init_d00df 2 [.ref 92, .int 16] (93) f (94) (fSb f) := by
  refine Con.of (by decide +kernel) (Nat.le_of_ble_eq_true rfl) rfl fun p l e s m args below meth c D tyc A ad0 x hr htab hname => ?_
  change JJ _ _ _ _ _ _ _ _ _ _ _ _ _ _ _ _ _ 0 [some (.ref 92), some (.int 16)] [] (HS (93) f) 0 0
  refine j_aload_n x dJ5_init_d00df_0 rfl ?_
  refine j_objInit x dJ5_init_d00df_1 wmJ5_3 wo_inst wo_code (Nat.le_of_ble_eq_true rfl) (by show 1 ≤ 12 + _; omega) (by show 20 ≤ 150 + 60 * _; omega) ?_
  refine j_gets x dJ5_init_d00df_4 x.2.2.2.2.2.2.2.2.2.2.2.2.2.2.1 wfJ5_18 ?_
  refine j_if_eq (tgt := 25) x dJ5_init_d00df_7 (by decide) (fun hc => absurd hc (by decide)) (fun hc => ?_)
  refine j_aload_n x dJ5_init_d00df_10 rfl ?_
  refine j_iload_n x dJ5_init_d00df_11 rfl ?_
  refine j3_newa_byte (N := 16) x dJ5_init_d00df_12 (by decide) (by decide) (by decide) (rfl) (rfl) (Nat.le_of_ble_eq_true rfl) (Nat.le_of_ble_eq_true rfl) ?_
  refine j3_put (k := 0) x dJ5_init_d00df_14 jc_1 wfJ5_15 (by decide) rfl rfl rfl (by omega) (rfl) (rfl) ?_
  refine j_aload_n x dJ5_init_d00df_17 rfl ?_
  refine j_iconst (v := 0) x dJ5_init_d00df_18 (by decide) ?_
  refine j3_put (k := 1) x dJ5_init_d00df_19 jc_1 wfJ5_22 (by decide) rfl rfl rfl (by omega) (rfl) (rfl) ?_
  refine j_goto (tgt := 38) x dJ5_init_d00df_22 (by decide) ?_
  exact j_return x hr dJ5_init_d00df_38 (Nat.le_of_ble_eq_true rfl) (Nat.le_of_ble_eq_true rfl) ⟨rfl, rfl⟩
def fSb1 (f : Nat → Nat → Value) : Nat → Nat → Value := fSb (f)
theorem k_Sb {d : Nat} {f : Nat → Nat → Value} : CI (d + 1) 1 16 yJ4_init_da8c8 cJ4_init_da8c8 1 [.ref 92] (93) f (94) (fSb1 f) := by
  refine Con.of (by decide +kernel) (Nat.le_of_ble_eq_true rfl) rfl fun p l e s m args below meth c D tyc A ad0 x hr htab hname => ?_
  change JJ _ _ _ _ _ _ _ _ _ _ _ _ _ _ _ _ _ 0 [some (.ref 92)] [] (HS (93) f) 0 0
  refine j_aload_n x dJ4_init_da8c8_0 rfl ?_
  refine j_bipush (v := 16) x dJ4_init_da8c8_1 (by decide) ?_
  refine j3_init x dJ4_init_da8c8_3 m_J5_init_d00df (k_Asb (d := d)) wmJ4_1 (by decide) rfl (Nat.le_of_ble_eq_true rfl) (j_fit_rm (by omega) (Nat.le_of_ble_eq_true rfl) (Nat.le_of_ble_eq_true rfl)) rfl ?_
  exact j_return x hr dJ4_init_da8c8_6 (Nat.le_of_ble_eq_true rfl) (Nat.le_of_ble_eq_true rfl) ⟨rfl, rfl⟩
def fLT (f : Nat → Nat → Value) : Nat → Nat → Value := fw (fSb1 (ju (fw (fw (fTx (ju (fw (fz (fw (fTl (ju (fw (fFx (ju (fw (fHi (ju (fw (fLg (ju (fw (fLg (ju (f) (1) (fun k => defaultValue (tyX2 k))) (1)) (0) 0 (.ref (1))) (7) (fun k => defaultValue (tyX2 k))) (7)) (0) 1 (.ref (7))) (13) (fun k => defaultValue (tyX1 k)))) (0) 3 (.ref (13))) (69) (fun k => defaultValue (tyX0 k)))) (0) 4 (.ref (69))) (75) (fun k => defaultValue (tyX3 k)))) (0) 5 (.ref (75))) (85) (.int 0)) (0) 6 (.ref (85))) (86) (fun k => defaultValue (tyX4 k)))) (0) 7 (.ref (86))) (0) 8 (.int (-1))) (92) (fun k => defaultValue (tyJ4 k)))) (0) 13 (.ref (92))
theorem k_LT {d : Nat} {f : Nat → Nat → Value} : CI (d + 2) 93 2599 yX5_init cX5_init 1 [.ref 0] (1) f (94) (fLT f) := by
  refine Con.of (by decide +kernel) (Nat.le_of_ble_eq_true rfl) rfl fun p l e s m args below meth c D tyc A ad0 x hr htab hname => ?_
  change JJ _ _ _ _ _ _ _ _ _ _ _ _ _ _ _ _ _ 0 [some (.ref 0)] [] (HS (1) f) 0 0
  refine j_aload_n x dX5_init_0 rfl ?_
  refine j_objInit x dX5_init_1 wmX5_1 wo_inst wo_code (Nat.le_of_ble_eq_true rfl) (by show 1 ≤ 12 + _; omega) (by show 20 ≤ 150 + 60 * _; omega) ?_
  refine j_aload_n x dX5_init_4 rfl ?_
  refine j3_new x dX5_init_5 jc_6 wcX5_7 wt_LeagueTables_League wi_LeagueTables_League rfl rfl (Nat.le_of_ble_eq_true rfl) (Nat.le_of_ble_eq_true rfl) ?_
  refine j_dup x dX5_init_8 rfl ?_
  refine j3_initN x dX5_init_9 m_X2_init (k_Lg (d := d) (i := 1) rfl) wnX5_9 (by decide) rfl (Nat.le_of_ble_eq_true rfl) (j_fit_rm (by omega) (Nat.le_of_ble_eq_true rfl) (Nat.le_of_ble_eq_true rfl)) rfl ?_
  refine j3_putF (k := 0) x hname dX5_init_12 jc_9 wfX5_10 (by decide) rfl rfl rfl rfl (by omega) (rfl) (rfl) ?_
  refine j_aload_n x dX5_init_15 rfl ?_
  refine j3_new x dX5_init_16 jc_6 wcX5_7 wt_LeagueTables_League wi_LeagueTables_League rfl rfl (Nat.le_of_ble_eq_true rfl) (Nat.le_of_ble_eq_true rfl) ?_
  refine j_dup x dX5_init_19 rfl ?_
  refine j3_initN x dX5_init_20 m_X2_init (k_Lg (d := d) (i := 7) rfl) wnX5_9 (by decide) rfl (Nat.le_of_ble_eq_true rfl) (j_fit_rm (by omega) (Nat.le_of_ble_eq_true rfl) (Nat.le_of_ble_eq_true rfl)) rfl ?_
  refine j3_putF (k := 1) x hname dX5_init_23 jc_9 wfX5_16 (by decide) rfl rfl rfl rfl (by omega) (rfl) (rfl) ?_
  refine j_aload_n x dX5_init_26 rfl ?_
  refine j3_new x dX5_init_27 jc_5 wcX5_19 wt_LeagueTables_History wi_LeagueTables_History rfl rfl (Nat.le_of_ble_eq_true rfl) (Nat.le_of_ble_eq_true rfl) ?_
  refine j_dup x dX5_init_30 rfl ?_
  refine j3_init x dX5_init_31 m_X1_init (k_Hi (d := d)) wmX5_21 (by decide) rfl (Nat.le_of_ble_eq_true rfl) (j_fit_rm (by omega) (Nat.le_of_ble_eq_true rfl) (Nat.le_of_ble_eq_true rfl)) rfl ?_
  refine j3_putF (k := 3) x hname dX5_init_34 jc_9 wfX5_22 (by decide) rfl rfl rfl rfl (by omega) (rfl) (rfl) ?_
  refine j_aload_n x dX5_init_37 rfl ?_
  refine j3_new x dX5_init_38 jc_4 wcX5_26 wt_LeagueTables_Fixtures wi_LeagueTables_Fixtures rfl rfl (Nat.le_of_ble_eq_true rfl) (Nat.le_of_ble_eq_true rfl) ?_
  refine j_dup x dX5_init_41 rfl ?_
  refine j3_initN x dX5_init_42 m_X0_init (k_Fx (d := d)) wnX5_28 (by decide) rfl (Nat.le_of_ble_eq_true rfl) (j_fit_rm (by omega) (Nat.le_of_ble_eq_true rfl) (Nat.le_of_ble_eq_true rfl)) rfl ?_
  refine j3_putF (k := 4) x hname dX5_init_45 jc_9 wfX5_29 (by decide) rfl rfl rfl rfl (by omega) (rfl) (rfl) ?_
  refine j_aload_n x dX5_init_48 rfl ?_
  refine j3_new x dX5_init_49 jc_7 wcX5_33 wt_LeagueTables_Tally wi_LeagueTables_Tally rfl rfl (Nat.le_of_ble_eq_true rfl) (Nat.le_of_ble_eq_true rfl) ?_
  refine j_dup x dX5_init_52 rfl ?_
  refine j3_initN x dX5_init_53 m_X3_init (k_Tl (d := d)) wnX5_35 (by decide) rfl (Nat.le_of_ble_eq_true rfl) (j_fit_rm (by omega) (Nat.le_of_ble_eq_true rfl) (Nat.le_of_ble_eq_true rfl)) rfl ?_
  refine j3_putF (k := 5) x hname dX5_init_56 jc_9 wfX5_36 (by decide) rfl rfl rfl rfl (by omega) (rfl) (rfl) ?_
  refine j_aload_n x dX5_init_59 rfl ?_
  refine j_bipush (v := 8) x dX5_init_60 (by decide) ?_
  refine j3_newa_int (N := 8) x dX5_init_62 (by decide) (by decide) (by decide) (rfl) (rfl) (Nat.le_of_ble_eq_true rfl) (Nat.le_of_ble_eq_true rfl) ?_
  refine j3_putF (k := 6) x hname dX5_init_64 jc_9 wfX5_40 (by decide) rfl rfl rfl rfl (by omega) (rfl) (rfl) ?_
  refine j_aload_n x dX5_init_67 rfl ?_
  refine j3_new x dX5_init_68 jc_8 wcX5_44 wt_LeagueTables_Text wi_LeagueTables_Text rfl rfl (Nat.le_of_ble_eq_true rfl) (Nat.le_of_ble_eq_true rfl) ?_
  refine j_dup x dX5_init_71 rfl ?_
  refine j3_initN x dX5_init_72 m_X4_init (k_Tx (d := d)) wnX5_46 (by decide) rfl (Nat.le_of_ble_eq_true rfl) (j_fit_rm (by omega) (Nat.le_of_ble_eq_true rfl) (Nat.le_of_ble_eq_true rfl)) rfl ?_
  refine j3_putF (k := 7) x hname dX5_init_75 jc_9 wfX5_47 (by decide) rfl rfl rfl rfl (by omega) (rfl) (rfl) ?_
  refine j_aload_n x dX5_init_78 rfl ?_
  refine j_iconst (v := (-1)) x dX5_init_79 (by decide) ?_
  refine j3_put (k := 8) x dX5_init_80 jc_9 wfX5_51 (by decide) rfl rfl rfl (by omega) (rfl) (rfl) ?_
  refine j_aload_n x dX5_init_83 rfl ?_
  refine j3_new x dX5_init_84 jc_1 wcX5_55 wt_java_lang_StringBuilder wi_java_lang_StringBuilder rfl rfl (Nat.le_of_ble_eq_true rfl) (Nat.le_of_ble_eq_true rfl) ?_
  refine j_dup x dX5_init_87 rfl ?_
  refine j3_init x dX5_init_88 m_J4_init_da8c8 (k_Sb (d := d)) wmX5_57 (by decide) rfl (Nat.le_of_ble_eq_true rfl) (j_fit_rm (by omega) (Nat.le_of_ble_eq_true rfl) (Nat.le_of_ble_eq_true rfl)) rfl ?_
  refine j3_putF (k := 13) x hname dX5_init_91 jc_9 wfX5_58 (by decide) rfl rfl rfl rfl (by omega) (rfl) (rfl) ?_
  exact j_return x hr dX5_init_94 (Nat.le_of_ble_eq_true rfl) (Nat.le_of_ble_eq_true rfl) ⟨rfl, rfl⟩
