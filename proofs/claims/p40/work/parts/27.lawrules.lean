/-! ===== methods with a table of their own ===== -/
theorem j_ok_raw {n a : Nat} : j_ok n (.retAddr a) := fun _ h => by cases h
theorem ConH.of {d mc ms : Nat} {y : MethodName} {cc : ByteArray} {maxL : Nat} {ret : Option FieldType} {hh : List (Nat × Nat × Nat × Nat)} {as : List Value} {h : MH} {Q : MO → MH → Prop} (hy : plainName y.cls = true) (hn : as.length ≤ maxL) (hc : as.all (fun v => v.category == 1) = true)
    (body : ∀ (p : Program) (l : Launch) (e : Env) (s : State) (m : MethodId) (args : Array Value) (below : List Frame) (meth : Method) (c : Code) (D : va_G) (tyc : Nat → ClassId) (A : Nat → Prop) (ad0 : Nat → Nat), j_X p l s m args meth c D tyc A y.cls cc maxL → meth.sig.returnType = ret → c.exceptionTable.toList = tableOf hh → meth.name = y.name →
      JJ p l e (j_rm d mc ms) s m args below meth c D tyc A h.1 ad0 maxL (vx_MQ below (j_Qc D tyc A h.1 ad0 Q) (j_XC D tyc A h.1 ad0 Q) args s mc ms A) 0 (j_L0 maxL as) [] h 0 0) : ConH d mc ms y cc maxL ret hh as h Q := by
  intro l D tyc ad sz hl hh0 ha
  have hc : ∀ v ∈ as, v.category = 1 := fun v hv => by simpa using List.all_eq_true.mp hc v hv
  refine vx_ofWH (cc := cc) (maxL := maxL) (ret := ret) hy rfl ?_
  intro p e s m args below meth c s₁ B hml hv
  obtain ⟨rfl, hsz, hP, hK, hD0, hE⟩ := hv
  have hts := atoms_spec (ws := Cond.codeWith y cc maxL ret hh :: j_all) B.pre
  have htab := vx_table (x := y) B (hts _ List.mem_cons_self)
  subst hsz
  have hD := hD0.self (sz := s.heap.size)
  have hA : ∀ q : Nat, s.heap.size ≤ q → va_A (j_w tyc ad h) s.heap.size q := fun q h => Or.inr h
  have hl0 := lv_entry (as.map (j_cv ad)) (n := maxL) (by
    have e1 : ∀ (vs : List Value), (∀ v ∈ vs, v.category = 1) → (lg_sl (vs.map (j_cv ad))).length = vs.length := by
      intro vs
      induction vs with
      | nil => intro _; rfl
      | cons v vs ih =>
        intro hc
        have hv : ¬ (j_cv ad v).category = 2 := by rw [j_cv_cat, hc v List.mem_cons_self]; decide
        simp only [lg_sl, List.map_cons, List.flatMap_cons, if_neg hv, List.length_append, List.length_cons, List.length_nil]
        have := ih (fun w hw => hc w (List.mem_cons_of_mem _ hw))
        simp only [lg_sl] at this
        omega
    rw [e1 as hc]
    exact hn)
  rw [lg_entry_eq]
  have key := body p l e s m ((as.map (j_cv ad)).toArray) below meth c D tyc (va_A (j_w tyc ad h) s.heap.size) ad ⟨B.exec, B.bytes, hml, findClass_of_methodNamed B.named, fun w hw => hts w (List.mem_cons_of_mem _ hw), hK, hA, B.notSynchronized, hl, hE⟩ B.returns htab (name_of_methodNamed B.named B.method).1
  exact key ad _ s.heap [] ⟨j_L.entry hn hc hl0, hP, hD, va_S.rf, ⟨Nat.le_refl _, fun _ _ => rfl⟩, hh0, fun v hv => (by cases hv), fun v hv => ha v (by
    obtain ⟨i, hi⟩ := List.getElem?_of_mem hv
    exact List.mem_of_getElem? (j_L0_get hi))⟩
def j_mH (y : MethodName) (bytes : ByteArray) (maxL : Nat) (ret : Option FieldType) (hh : List (Nat × Nat × Nat × Nat)) (n : Nat) : Prop :=
  Cond.static y ∈ j_all ∧ Cond.initialized y.cls ∈ j_all ∧ Cond.codeWith y bytes maxL ret hh ∈ j_all ∧ (y.cls ≠ "java/lang/invoke/MethodHandle" ∧ y.cls ≠ "java/lang/invoke/VarHandle" ∧ (parseMethodDescriptor y.desc).map (fun d => d.parameters.length) = some n) ∧ maxL ≤ 40
section JLaw
variable {p : Program} {l : Launch} {e : Env} {R : Room} {s : State} {m : MethodId} {args : Array Value} {below : List Frame} {meth : Method} {c : Code} {D : va_G} {tyc : Nat → ClassId} {A : Nat → Prop} {n0 : Nat} {ad0 : Nat → Nat} {nL : Nat} {Qs : State → Prop}
variable {own : String} {cc : ByteArray} {pc : Nat} {L : List (Option Value)} {st : List Value} {h : MH} {cells slots d1 mc1 ms1 maxL idx n : Nat} {y : MethodName} {bytes : ByteArray} {ret : Option FieldType} {Q1 : MO → MH → Prop} {as st0 : List Value}
theorem j_callSH (x : j_X p l s m args meth c D tyc A own cc nL) {hh : List (Nat × Nat × Nat × Nat)} (hd : decode cc pc = .ok (.invokestatic idx, 3)) (hcon : ConH d1 mc1 ms1 y bytes maxL ret hh as h Q1) (hm : j_mH y bytes maxL ret hh n) (hw : Cond.methodLink own idx y ∈ j_all)
    (hn : as.length = n) (hst : st.length ≤ 4) (hfit : j_fit R d1 mc1 ms1 cells slots) (h0 : st0 = as.reverse ++ st) (hx : ∀ E k, ¬ Q1 (.inr E) k)
    (kk : ∀ (v : Option Value) (h1 : MH), Q1 (.inl v) h1 → JJ p l e R s m args below meth c D tyc A n0 ad0 nL Qs (pc + 3) L (v.toList ++ st) h1 (cells + mc1) (slots + ms1)) : JJ p l e R s m args below meth c D tyc A n0 ad0 nL Qs pc L st0 h cells slots := by
  subst h0
  intro ad ls H locs I
  obtain ⟨w1, w3, w4, w5, w6⟩ := hm
  have e0 : (as.reverse ++ st).map (j_cv ad) = (as.map (j_cv ad)).reverse ++ st.map (j_cv ad) := by rw [List.map_append, List.map_reverse]
  have hargs : ∀ v ∈ as, j_ok h.1 v := fun v hv => I.2.2.2.2.2.2.1 v (List.mem_append_left _ (List.mem_reverse.mpr hv))
  have hM := hcon l D tyc ad H.size x.2.2.2.2.2.2.2.2.1 I.2.2.2.2.2.1 hargs
  rw [e0]
  refine j_run (a := (as.map (j_cv ad)).toArray) x I (vx_runSX (As := as.map (j_cv ad)) ⟨x.1, x.2.1, x.2.2.1, x.2.2.2.1, x.2.2.2.2.1⟩ hM (vx_cwSW n x.2.2.2.2.1 (j_good ?_) rfl rfl rfl w5 (hfit.1 maxL w6)) ⟨j_B.blind, fun U hU hW => ⟨rfl, j_pre x I hU hW⟩⟩ rfl (by rw [List.length_map]; exact hn) I.1.1 rfl (lv_room (j_room hst)) hd ⟨hfit.2.1, hfit.2.2⟩) (fun E h1 ad1 => j_no hx (H := #[]) E h1 ad1 ls) kk
  exact j_mem_cons (ws := [Cond.static y, Cond.initialized y.cls] ++ (Cond.codeWith y bytes maxL ret hh :: j_all)) hw (j_mem_cons w1 (j_mem_cons w3 (j_mem_cons w4 fun _ h => h)))
theorem j_aload_nR (x : j_X p l s m args meth c D tyc A own cc nL) {k : Fin 4} {a : Nat} (hd : decode cc pc = .ok (.aload_n k, 1)) (hL : L[(k : Nat)]? = some (some (.retAddr a))) (kk : JJ p l e R s m args below meth c D tyc A n0 ad0 nL Qs (pc + 1) L (.retAddr a :: st) h cells slots) : JJ p l e R s m args below meth c D tyc A n0 ad0 nL Qs pc L st h cells slots := by
  intro ad ls H locs I
  exact lv_aload_n x.1 x.2.1 hd rfl (I.1.at hL) (kk ad ls H locs (I.st fun hs => j_ok_cons j_ok_raw hs))
theorem j_astore_nR (x : j_X p l s m args meth c D tyc A own cc nL) {k : Fin 4} {a : Nat} (hd : decode cc pc = .ok (.astore_n k, 1)) (hn : (k : Nat) < nL) (hc : j_c1 L (k : Nat) = true) (kk : JJ p l e R s m args below meth c D tyc A n0 ad0 nL Qs (pc + 1) (L.set (k : Nat) (some (.retAddr a))) st h cells slots) : JJ p l e R s m args below meth c D tyc A n0 ad0 nL Qs pc L (.retAddr a :: st) h cells slots := by
  intro ad ls H locs I
  exact lv_astore_n x.1 x.2.1 hd rfl I.1.has hn rfl (fun ls2 hl2 => kk ad ls2 H locs (I.lo j_ok_tl (I.1.store (v := .retAddr a) hn hc hl2) (j_ok_set I.2.2.2.2.2.2.2 j_ok_raw)))
theorem j_astoreR (x : j_X p l s m args meth c D tyc A own cc nL) {i : Nat} {a : Nat} (hd : decode cc pc = .ok (.astore i, 2)) (hn : i < nL) (hc : j_c1 L i = true) (kk : JJ p l e R s m args below meth c D tyc A n0 ad0 nL Qs (pc + 2) (L.set i (some (.retAddr a))) st h cells slots) : JJ p l e R s m args below meth c D tyc A n0 ad0 nL Qs pc L (.retAddr a :: st) h cells slots := by
  intro ad ls H locs I
  exact lv_astore x.1 x.2.1 hd I.1.has hn rfl (fun ls2 hl2 => kk ad ls2 H locs (I.lo j_ok_tl (I.1.store (v := .retAddr a) hn hc hl2) (j_ok_set I.2.2.2.2.2.2.2 j_ok_raw)))
theorem j_slen (x : j_X p l s m args meth c D tyc A own cc nL) {b N : Nat} {xs : Nat → Int32} (hX : va_X b N xs s s.heap) (hbl : b < s.heap.size) (hbA : ¬ A b) (hd : decode cc pc = .ok (.arraylength, 1)) (kk : JJ p l e R s m args below meth c D tyc A n0 ad0 nL Qs (pc + 1) L (.int (Int32.ofNat N) :: st) h cells slots) : JJ p l e R s m args below meth c D tyc A n0 ad0 nL Qs pc L (.retAddr b :: st) h cells slots := by
  intro ad ls H locs I
  exact va_slen x.1 x.2.1 hX hbl hbA I.2.2.2.1 hd (kk ad ls H locs (I.st fun hs => j_ok_cons j_ok_int (j_ok_tl hs)))
theorem j_sld (x : j_X p l s m args meth c D tyc A own cc nL) {b N j : Nat} {xs : Nat → Int32} {i : Int32} (hX : va_X b N xs s s.heap) (hbl : b < s.heap.size) (hbA : ¬ A b) (hd : decode cc pc = .ok (.iaload, 1)) (hin : vp_in i N) (hj : i.toNatClampNeg = j) (kk : JJ p l e R s m args below meth c D tyc A n0 ad0 nL Qs (pc + 1) L (.int (xs j) :: st) h cells slots) : JJ p l e R s m args below meth c D tyc A n0 ad0 nL Qs pc L (.int i :: .retAddr b :: st) h cells slots := by
  subst hj
  intro ad ls H locs I
  exact va_sld x.1 x.2.1 hX hbl hbA I.2.2.2.1 hin hd (kk ad ls H locs (I.st fun hs => j_ok_cons j_ok_int (j_ok_tl (j_ok_tl hs))))
theorem j_laload (x : j_X p l s m args meth c D tyc A own cc nL) {i : Nat} {k : Int32} {v : Int64} (hd : decode cc pc = .ok (.laload, 1)) (hi : i < h.1) (ht : (h.2 i).1 = 104) (hk : vp_in k (h.2 i).2.1) (hv : (h.2 i).2.2 k.toNatClampNeg = .long v) (kk : JJ p l e R s m args below meth c D tyc A n0 ad0 nL Qs (pc + 1) L (.long v :: st) h cells slots) : JJ p l e R s m args below meth c D tyc A n0 ad0 nL Qs pc L (.int k :: .ref i :: st) h cells slots := by
  intro ad ls H locs I
  have he : (j_w tyc ad h)[i]? = some (ad i, .inl (tyc 104, (h.2 i).2.1, .inr (.inl fun j => j_lng ((h.2 i).2.2 j)))) := by rw [j_w_get hi, j_e_arr ht (by decide)]; rfl
  refine va_lald x.1 x.2.1 x.2.2.2.2.2.1 I.2.1 i 4 he rfl hk hd ?_
  rw [hv]
  exact kk ad ls H locs (I.st fun hs => j_ok_cons j_ok_long (j_ok_tl (j_ok_tl hs)))
theorem j_lastore (x : j_X p l s m args meth c D tyc A own cc nL) {i : Nat} {k : Int32} {v : Int64} (hd : decode cc pc = .ok (.lastore, 1)) (hi : i < h.1) (ht : (h.2 i).1 = 104) (hk : vp_in k (h.2 i).2.1) (kk : JJ p l e R s m args below meth c D tyc A n0 ad0 nL Qs (pc + 1) L st (j_fld h i k.toNatClampNeg (.long v)) cells slots) : JJ p l e R s m args below meth c D tyc A n0 ad0 nL Qs pc L (.long v :: .int k :: .ref i :: st) h cells slots := by
  intro ad ls H locs I
  have he : (j_w tyc ad h)[i]? = some (ad i, .inl (tyc 104, (h.2 i).2.1, .inr (.inl fun j => j_lng ((h.2 i).2.2 j)))) := by rw [j_w_get hi, j_e_arr ht (by decide)]; rfl
  refine va_last x.1 x.2.1 x.2.2.2.2.2.1 I.2.1 I.2.2.1 I.2.2.2.1 i 4 he rfl hk hd (fun H1 locs1 hP hD hS => ?_)
  have e1 : vp_updL (fun j => j_lng ((h.2 i).2.2 j)) k.toNatClampNeg v = fun j => j_lng (ju (h.2 i).2.2 k.toNatClampNeg (.long v) j) := funext fun j => by
    by_cases e : j = k.toNatClampNeg <;> simp [vp_updL, ju, e, j_lng]
  have e2 : j_e tyc ad ((h.2 i).1, (h.2 i).2.1, ju (h.2 i).2.2 k.toNatClampNeg (.long v)) = .inl (tyc 104, (h.2 i).2.1, .inr (.inl fun j => j_lng (ju (h.2 i).2.2 k.toNatClampNeg (.long v) j))) := Eq.trans (j_e_arr (ad := ad) (tyc := tyc) (c := (_, _, _)) (t := 104) ht (by decide)) rfl
  rw [e1, ← e2] at hP hD
  exact kk ad ls H1 locs1 (I.wr (fun hs => j_ok_tl (j_ok_tl (j_ok_tl hs))) hi (fun j => by
    show j_ok h.1 (ju (h.2 i).2.2 k.toNatClampNeg (.long v) j)
    by_cases e : j = k.toNatClampNeg
    · subst e; rw [ju_s]; exact j_ok_long
    · rw [ju_n e]; exact I.2.2.2.2.2.1 i hi j) hP hD hS)
theorem j_dstore (x : j_X p l s m args meth c D tyc A own cc nL) {i : Nat} {v : UInt64} (hd : decode cc pc = .ok (.dstore i, 2)) (hn : i + 1 < nL) (hc : j_c1 L i = true) (kk : JJ p l e R s m args below meth c D tyc A n0 ad0 nL Qs (pc + 2) ((L.set i (some (.double v))).set (i + 1) none) st h cells slots) : JJ p l e R s m args below meth c D tyc A n0 ad0 nL Qs pc L (.double v :: st) h cells slots := by
  intro ad ls H locs I
  refine lv_dstore x.1 x.2.1 hd I.1.has hn rfl (fun ls2 hs => kk ad ls2 H locs (I.lo j_ok_tl ⟨hs.1, hs.2.1, by rw [List.length_set, List.length_set]; exact I.1.2.2.1, fun j w hj => ?_⟩ (fun w hw => ?_)))
  · by_cases e0 : j = i + 1
    · subst e0
      rw [List.getElem?_set_self (by rw [List.length_set, I.1.2.2.1]; exact hn)] at hj
      cases hj
    rw [List.getElem?_set_ne (Ne.symm e0)] at hj
    by_cases e : j = i
    · subst e
      rw [List.getElem?_set_self (by rw [I.1.2.2.1]; omega)] at hj
      cases hj
      exact hs.2.2 _ List.mem_cons_self
    · rw [List.getElem?_set_ne (Ne.symm e)] at hj
      refine hs.2.2 (j, j_cv ad w) (List.mem_cons_of_mem _ (List.mem_filter.mpr ⟨j_lv_mem hj, ?_⟩))
      have e1 : (j == i) = false := beq_false_of_ne e
      have e4 : (j == i + 1) = false := beq_false_of_ne e0
      show (!(j == i) && (!(j == i + 1) && !(j + 1 == i && (j_cv ad w).category == 2))) = true
      rw [e1, e4]
      by_cases e2 : j + 1 = i
      · rw [j_cv_cat, j_c1_spec hc e2 hj]
        simp
      · simp [e2]
  · rcases List.mem_or_eq_of_mem_set hw with hw | hw
    · rcases List.mem_or_eq_of_mem_set hw with hw | hw
      · exact I.2.2.2.2.2.2.2 w hw
      · cases hw; exact j_ok_double
    · cases hw
end JLaw
section JLaw2
variable {p : Program} {l : Launch} {e : Env} {R : Room} {s : State} {m : MethodId} {args : Array Value} {below : List Frame} {meth : Method} {c : Code} {D : va_G} {tyc : Nat → ClassId} {A : Nat → Prop} {n0 : Nat} {ad0 : Nat → Nat} {nL : Nat} {Qs : State → Prop}
variable {own : String} {cc : ByteArray} {pc : Nat} {L : List (Option Value)} {st : List Value} {cells slots d1 mc1 ms1 maxL idx n : Nat} {y : MethodName} {bytes : ByteArray} {ret : Option FieldType} {as st0 : List Value} {b : SBt} {Y Y1 : OUt} {M M1 : MM}
abbrev CMH (d mc ms : Nat) (y : MethodName) (cc : ByteArray) (maxL : Nat) (ret : Option FieldType) (hh : List (Nat × Nat × Nat × Nat)) (as : List Value) (b : SBt) (Y : OUt) (M : MM) (v : Int32) (Y1 : OUt) (M1 : MM) : Prop := ConH d mc ms y cc maxL ret hh as (HH b Y M) (fun o k => o = .inl (some (.int v)) ∧ k = HH b Y1 M1)
theorem j2_callH (x : j_X p l s m args meth c D tyc A own cc nL) {v : Int32} {hh : List (Nat × Nat × Nat × Nat)} (hd : decode cc pc = .ok (.invokestatic idx, 3)) (hm : j_mH y bytes maxL ret hh n) (hcon : CMH d1 mc1 ms1 y bytes maxL ret hh as b Y M v Y1 M1) (hw : Cond.methodLink own idx y ∈ j_all) (hn : as.length = n) (hst : st.length ≤ 4) (hfit : j_fit R d1 mc1 ms1 cells slots) (h0 : st0 = as.reverse ++ st)
    (kk : JJ p l e R s m args below meth c D tyc A n0 ad0 nL Qs (pc + 3) L (.int v :: st) (HH b Y1 M1) (cells + mc1) (slots + ms1)) : JJ p l e R s m args below meth c D tyc A n0 ad0 nL Qs pc L st0 (HH b Y M) cells slots :=
  j_callSH x hd hcon hm hw hn hst hfit h0 (fun E k h => by cases h.1) (fun v1 h1 hq => by
    obtain ⟨e1, rfl⟩ := hq
    cases e1
    exact kk)
theorem j2_callC (x : j_X p l s m args meth c D tyc A own cc nL) (hb : 94 ≤ b.2.1) {i ci : Nat} {q : vw_C} {ty : Nat → FieldType} {E name : String} {hpc : Nat} (hd : decode cc pc = .ok (.invokevirtual idx, 3)) (hm : j_mV y bytes maxL ret n) (hcon : CM d1 mc1 ms1 y bytes maxL ret (.ref i :: as) b Y M (.inr E) M1) (hw : Cond.methodLink own idx y ∈ j_all) (hq : j_cls ci q ty) (hqy : q.1 = y.cls) (hi : fT i ci = true) (hn : as.length = n) (hst : st.length ≤ 4) (hfit : j_fit R d1 mc1 ms1 cells slots) (h0 : st0 = as.reverse ++ .ref i :: st)
    (pre : List ExceptionTableEntry) (z : ExceptionTableEntry) (suf : List ExceptionTableEntry) (htab : c.exceptionTable.toList = pre ++ z :: suf) (hpass : ∀ y ∈ pre, covers y pc = false ∨ (y.catchType ≠ 0 ∧ ∃ nm : String, Cond.classLink own y.catchType nm ∈ j_all ∧ (E, nm) ∈ j_ncs))
    (hcv : covers z pc = true) (hz0 : z.catchType ≠ 0) (hlink : Cond.classLink own z.catchType name ∈ j_all) (hcast : Cond.castable E name ∈ j_nw) (hz : z.handlerPc = hpc)
    (kk : ∀ a : Nat, JJ p l e R s m args below meth c D tyc A n0 ad0 nL Qs hpc L [.retAddr a] (HH b Y M1) (cells + mc1) (slots + ms1)) : JJ p l e R s m args below meth c D tyc A n0 ad0 nL Qs pc L st0 (HH b Y M) cells slots := by
  subst hz
  have hi2 : i < 94 ∧ hT i = ci := by
    simp only [fT, Bool.and_eq_true, decide_eq_true_eq, beq_iff_eq] at hi
    exact hi
  refine j_callVX x hd hcon hm hw hq hqy (show i < b.2.1 by omega) hi2.2 hn hst hfit h0 (fun E1 h1 ad1 ls H1 locs1 q1 ce hQ I hcell hv hcl => ?_) (fun v h1 hq => by cases hq.1)
  obtain ⟨e1, rfl⟩ := hQ
  cases e1
  refine vx_catch x.2.2.2.1 pre z suf htab (fun w hw => ?_) hcv hz0 (x.2.2.2.2.1 _ hlink) (va_Nw.use rfl (x.2.2.2.2.2.2.2.2.2.1 _ hcast)) hcell hv hcl (kk q1 ad1 ls H1 locs1 (I.st fun _ v hv => by
    rcases List.mem_cons.mp hv with rfl | hv
    · exact j_ok_raw
    · cases hv))
  rcases hpass w hw with h | ⟨h, nm, h2, h3⟩
  · exact Or.inl h
  · exact Or.inr ⟨h, nm, x.2.2.2.2.1 _ h2, x.2.2.2.2.2.2.2.2.2.2.2.2.2.2.2.1 _ h3⟩
theorem j2_callVw (x : j_X p l s m args meth c D tyc A own cc nL) (hb : 94 ≤ b.2.1) {i ci : Nat} {q : vw_C} {ty : Nat → FieldType} {v : Value} (hd : decode cc pc = .ok (.invokevirtual idx, 3)) (hm : j_mV y bytes maxL ret n) (hcon : CM d1 mc1 ms1 y bytes maxL ret (.ref i :: as) b Y M (.inl (some v)) M1) (hw : Cond.methodLink own idx y ∈ j_all) (hq : j_cls ci q ty) (hqy : q.1 = y.cls) (hi : fT i ci = true) (hn : as.length = n) (hst : st.length ≤ 4) (hfit : j_fit R d1 mc1 ms1 cells slots) (h0 : st0 = as.reverse ++ .ref i :: st)
    (kk : JJ p l e R s m args below meth c D tyc A n0 ad0 nL Qs (pc + 3) L (v :: st) (HH b Y M1) (cells + mc1) (slots + ms1)) : JJ p l e R s m args below meth c D tyc A n0 ad0 nL Qs pc L st0 (HH b Y M) cells slots := by
  have hi2 : i < 94 ∧ hT i = ci := by
    simp only [fT, Bool.and_eq_true, decide_eq_true_eq, beq_iff_eq] at hi
    exact hi
  refine j_callV x hd hcon hm hw hq hqy (show i < b.2.1 by omega) hi2.2 hn hst hfit h0 jres_no (fun v1 h1 hq => ?_)
  obtain ⟨e1, rfl⟩ := hq
  cases e1
  exact kk
end JLaw2

