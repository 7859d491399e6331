/-! ===== calls where the String, the builder lie behind the class's cells ===== -/
theorem Con.toP {d mc ms : Nat} {y : MethodName} {cc : ByteArray} {maxL : Nat} {ret : Option FieldType} {as : List Value} {h : MH} {F : (Nat → Prop) → State → Heap → Prop} {Q : MO → MH → Prop} (C : Con d mc ms y cc maxL ret as h Q) : ConP d mc ms y cc maxL ret as h F Q := by
  intro l D tyc ad sz hl hh ha p e hA hB hC s m args below hf happ hP hT
  exact C l D tyc ad sz hl hh ha p e hA hB hC s m args below hf happ ⟨hP.1, hP.2.1⟩ hT
theorem j_pin_T : j_pin (fun _ _ _ => True) := ⟨fun _ _ _ _ _ _ _ => trivial, fun _ _ _ _ _ _ _ _ _ _ => trivial⟩
/-- a contract whose condition speaks of the addresses, too -/
def ConX (d mc ms : Nat) (y : MethodName) (cc : ByteArray) (maxL : Nat) (ret : Option FieldType) (as : List Value) (h : MH) (G : (Nat → ClassId) → (Nat → Nat) → Nat → State → Prop) (Q : MO → MH → Prop) : Prop :=
  ∀ (l : Launch) (D : va_G) (tyc : Nat → ClassId) (ad : Nat → Nat) (sz : Nat), l.stackTraces = false → j_okH h → (∀ v ∈ as, j_ok h.1 v) →
    vx_Met l y (Cond.code y cc maxL ret :: j_all) (j_rm d mc ms) (va_Pc (as.map (j_cv ad)) (fun U => j_B D tyc ad h sz U ∧ G tyc ad sz U)) (j_Qc D tyc (va_A (j_w tyc ad h) sz) h.1 ad Q) (j_XC D tyc (va_A (j_w tyc ad h) sz) h.1 ad Q) mc ms (va_A (j_w tyc ad h) sz)
/-- what a method does that reads a String that nobody writes, of a String behind the part g -/
theorem ConX.of {d mc ms : Nat} {y : MethodName} {cc : ByteArray} {maxL : Nat} {ret : Option FieldType} {g k : MH} {i r n : Nat} {xs : Nat → Int32} {Q : MO → MH → Prop} (C : ∀ a v, ConP d mc ms y cc maxL ret [.ref 0, .retAddr a] g (kstr a v n xs) Q) (hin : j_in 0 g k) (hh : j_okH g) (h0 : 0 < g.1) (hg : ∀ o h1, Q o h1 → h1.1 = g.1) : ConX d mc ms y cc maxL ret [.ref 0, .ref i] k (fun tyc ad sz U => kstr (ad i) (ad r) n xs (va_A (j_w tyc ad g) sz) U U.heap) (j_atQ 0 g k Q) := by
  intro l D tyc ad sz hl hk hak p e hA hB hC s m args below hf happ hP hT
  have ea : (fun j => ad (0 + j)) = ad := funext fun j => by rw [Nat.zero_add]
  have hB0 := j_in_B hin hP.2.1
  rw [ea] at hB0
  have hP1 : va_Pc ([.ref 0, .retAddr (ad i)].map (j_cv ad)) (j_BP D tyc ad g sz (kstr (ad i) (ad r) n xs)) args s := ⟨hP.1, hB0, hP.2.2⟩
  have haa : ∀ v ∈ [Value.ref 0, .retAddr (ad i)], j_ok g.1 v := fun v hv => by
    rcases List.mem_cons.mp hv with rfl | hv
    · exact j_ok_ref h0
    · rw [List.mem_singleton.mp hv]; exact j_ok_raw
  obtain ⟨kk, o, h1, h2, h3, h4⟩ := C (ad i) (ad r) l D tyc ad sz hl hh haa p e hA hB hC s m args below hf happ hP1 hT
  have hE0 : ∀ k1 ad1 t, g.1 ≤ k1.1 → (k1.1 = g.1 ∨ k.1 = 0 + g.1) → j_E D tyc (va_A (j_w tyc ad g) sz) g.1 ad k1 ad1 s t → j_E D tyc (va_A (j_w tyc ad k) sz) k.1 ad (j_rep 0 g.1 k1 k) (fun j => if 0 ≤ j ∧ j < 0 + k1.1 then ad1 (j - 0) else ad j) s t := fun k1 ad1 t _ hgk hE => j_E_at hin hk hP.2.1.1 (by exact hP.2.1.2.1) hP.2.1.2.2.2.1 hgk (by rw [ea]; exact hE)
  have iA : ∀ q, va_A (j_w tyc ad g) sz q → va_A (j_w tyc ad k) sz q := fun q hq => j_in_A hin q (by rw [ea]; exact hq)
  refine ⟨kk, o, h1, h2, h3, ?_⟩
  rcases h4 with ⟨⟨v, k1, ad1, e1, e2, e3, e5⟩, L, e4, e6⟩ | ⟨q, e0, E, ce, Lc, ⟨k1, ad1, e2, e3⟩, e4, e5, e6, e7, e8, e9⟩
  · exact Or.inl ⟨⟨v.map (j_shv 0), j_rep 0 g.1 k1 k, _, by rw [e1, j_at_v (ad := ad) (a := 0) e3], ⟨.inl v, k1, e2, e5.1.1, rfl, rfl⟩, fun w hw => by
      cases v with
      | none => cases hw
      | some u => cases hw; exact j_at_ok (e3 u rfl) (by show 0 + k1.1 ≤ k.1 + (k1.1 - g.1); have := e5.1.1; have := hin.1; omega), hE0 k1 ad1 _ e5.1.1 (Or.inl (hg _ _ e2)) e5⟩, L, e4, fun q hq => iA _ (e6 q hq)⟩
  · exact Or.inr ⟨q, e0, E, ce, Lc, ⟨j_rep 0 g.1 k1 k, _, ⟨.inr E, k1, e2, e3.1.1, rfl, rfl⟩, hE0 k1 ad1 _ e3.1.1 (Or.inl (hg _ _ e2)) e3⟩, e4, e5, e6, e7, e8, fun z hz => iA _ (e9 z hz)⟩
section JFr
variable {p : Program} {l : Launch} {e : Env} {R : Room} {s : State} {m : MethodId} {args : Array Value} {below : List Frame} {meth : Method} {c : Code} {D : va_G} {tyc : Nat → ClassId} {A : Nat → Prop} {n0 : Nat} {ad0 : Nat → Nat} {nL : Nat} {Qs : State → Prop}
variable {own : String} {cc : ByteArray} {pc : Nat} {L : List (Option Value)} {st : List Value} {g h k : MH} {cells slots d1 mc1 ms1 maxL idx n : Nat} {y : MethodName} {bytes : ByteArray} {ret : Option FieldType} {Q1 : MO → MH → Prop} {as st0 : List Value} {F : (Nat → Prop) → State → Heap → Prop}
/-- a String's cells, seen from beside -/
theorem kstr_I (x : j_X p l s m args meth c D tyc A own cc nL) {ad : Nat → Nat} {ls : Array Slot} {H : Heap} {locs : List Loc} (hin : j_in 0 g k) (I : j_I s D tyc A n0 ad0 nL ad L st k ls H locs) {i r : Nat} (hi : g.1 ≤ i ∧ i < k.1) (hr : g.1 ≤ r ∧ r < k.1) (c1 : (k.2 i).1 = 0) (c2 : (k.2 i).2.1 = 4) (c3 : (k.2 i).2.2 0 = .ref r) (c4 : (k.2 i).2.2 1 = .int 0) (c5 : (k.2 r).1 = 102) (c6 : (k.2 r).2.1 = n) : kstr (ad i) (ad r) n (fun j => j_int ((k.2 r).2.2 j)) (va_A (j_w tyc ad g) H.size) s H := by
  have hi0 : (j_w tyc ad k)[i]? = some (ad i, .inr (0, (List.range 4).map fun z => j_cv ad ((k.2 i).2.2 z))) := by rw [j_w_get hi.2, j_e_obj c1 (by decide), c2]
  have hr0 : (j_w tyc ad k)[r]? = some (ad r, .inl (tyc 102, n, .inl fun j => j_int ((k.2 r).2.2 j))) := by rw [j_w_get hr.2, j_e_arr c5 (by decide), j_arr_i (by decide) (by decide) (by decide), c6]
  have nA : ∀ q, g.1 ≤ q → q < k.1 → ¬ va_A (j_w tyc ad g) H.size (ad q) := fun q q1 q2 hA => by
    rcases hA with ⟨j, e, hj⟩ | hA
    · obtain ⟨hj1, hj2⟩ := j_w_inv hj
      have hjk : j < k.1 := by have := hin.1; omega
      have e2 := I.2.2.1.1 q j _ _ (j_w_get q2) (j_w_get hjk) (show ad q = ad j from congrArg Prod.fst hj2)
      omega
    · exact absurd (I.2.1 q _ (j_w_get q2)).lt (Nat.not_lt.mpr hA)
  obtain ⟨cell, o1, o2, o3⟩ := va_recv x.2.2.2.2.2.1 I.2.1 jc_0.1 hi0
  obtain ⟨q', h1, cell2, g1, g2, g3, g4⟩ := I.2.1 i _ hi0
  have hq : q' = (RJ0, TJ0, 4) := Option.some.inj (h1.symm.trans jc_0.1)
  subst hq
  obtain ⟨hS, hfc, kC, hkC, hkind⟩ := x.2.2.2.2.2.1.1 0 _ jc_0.1
  have fld : ∀ z, z < 4 → ∀ v, ((List.range 4).map fun z => j_cv ad ((k.2 i).2.2 z))[z]? = some v → va_OF (TJ0 z).1 (TJ0 z).2.1 (TJ0 z).2.2.1 v (ad i) (va_A (j_w tyc ad g) H.size) s H := fun z hz v hv => by
    obtain ⟨cf, kf, fi, f, hi9, hsl⟩ := hS z hz
    exact ⟨cf, kf, fi, f, cell2, hi9, (u_facts hfc hkC (u_lays (args := args) x.2.2.2.2.1 jc_0.2.2.1 hz) hi9).1, g1, (by rw [g3]; exact (fun h => by cases h)), by rw [hsl, g4 z hz]; simp [vp_V, hv], nA i hi.1 hi.2⟩
  refine ⟨⟨cell, o1, o2, o3, nA i hi.1 hi.2⟩, fld 1 (by decide) (.int 0) (by rw [j_fs_get (by decide), c4]; rfl), fld 0 (by decide) (.ref (ad r)) (by rw [j_fs_get (by decide), c3]; rfl), ?_⟩
  refine ⟨arrV (tyc 102) n (fun j => .int (j_int ((k.2 r).2.2 j))), I.2.1 r _ hr0, (x.2.2.2.2.2.1.2 2 (tyc 102, .byte) rfl).1 n _, (fun z => by cases z), ?_, ?_, fun j hj => arrV_read _ _ hj, nA r hr.1 hr.2⟩
  · rw [arrV_size]; exact Nat.le_refl _
  · rw [arrV_size]
/-- a static method on the first part, which does not grow, and on a String of the second -/
theorem j_callSX (x : j_X p l s m args meth c D tyc A own cc nL) (hd : decode cc pc = .ok (.invokestatic idx, 3)) {i r : Nat} (hi : g.1 ≤ i ∧ i < (jcat g h).1) (hr : g.1 ≤ r ∧ r < (jcat g h).1) (c1 : ((jcat g h).2 i).1 = 0) (c2 : ((jcat g h).2 i).2.1 = 4) (c3 : ((jcat g h).2 i).2.2 0 = .ref r) (c4 : ((jcat g h).2 i).2.2 1 = .int 0) (c5 : ((jcat g h).2 r).1 = 102) (c6 : ((jcat g h).2 r).2.1 = n)
    (hcon : ∀ a v xs, ConP d1 mc1 ms1 y bytes maxL ret [.ref 0, .retAddr a] g (kstr a v n xs) Q1) (hm : j_mS y bytes maxL ret 2) (hw : Cond.methodLink own idx y ∈ j_all) (hg : j_okH g) (h00 : 0 < g.1)
    (hst : st.length ≤ 4) (hfit : j_fit R d1 mc1 ms1 cells slots) (hx : ∀ E k, ¬ Q1 (.inr E) k) (h1 : ∀ o k, Q1 o k → k.1 = g.1)
    (kk : ∀ (v : Int32) (g1 : MH), Q1 (.inl (some (.int v))) g1 → JJ p l e R s m args below meth c D tyc A n0 ad0 nL Qs (pc + 3) L (.int v :: st) (jcat g1 h) (cells + mc1) (slots + ms1)) (hv : ∀ v k, Q1 (.inl v) k → ∃ w : Int32, v = some (.int w)) : JJ p l e R s m args below meth c D tyc A n0 ad0 nL Qs pc L (.ref i :: .ref 0 :: st) (jcat g h) cells slots := by
  intro ad ls H locs I
  obtain ⟨w1, w3, w4, w5, w6⟩ := hm
  have e0 : (Value.ref i :: .ref 0 :: st).map (j_cv ad) = ([Value.ref 0, .ref i].map (j_cv ad)).reverse ++ st.map (j_cv ad) := rfl
  have hargs : ∀ v ∈ [Value.ref 0, .ref i], j_ok (jcat g h).1 v := fun v hv => I.2.2.2.2.2.2.1 v (by
    rcases List.mem_cons.mp hv with rfl | hv
    · exact List.mem_cons_of_mem _ List.mem_cons_self
    · rw [List.mem_singleton.mp hv]; exact List.mem_cons_self)
  have hK := kstr_I x jcat_L I hi hr c1 c2 c3 c4 c5 c6
  have C := ConX.of (k := jcat g h) (i := i) (r := r) (xs := fun j => j_int (((jcat g h).2 r).2.2 j)) (fun a v => hcon a v _) (jcat_L (h := h)) hg h00 h1
  have hM := C l D tyc ad H.size x.2.2.2.2.2.2.2.2.1 I.2.2.2.2.2.1 hargs
  rw [e0]
  refine j_run (a := ([Value.ref 0, .ref i].map (j_cv ad)).toArray) x (st := st) (as := [.ref i, .ref 0]) I (vx_runS (As := [Value.ref 0, .ref i].map (j_cv ad)) ⟨x.1, x.2.1, x.2.2.1, x.2.2.2.1, x.2.2.2.2.1⟩ hM (va_cwS 2 x.2.2.2.2.1 (j_good ?_) rfl rfl rfl w5 (hfit.1 maxL w6)) ⟨fun a U gg mk q => ?_, fun U hU hW => ⟨rfl, j_pre x I hU hW, ?_⟩⟩ rfl rfl I.1.1 rfl (lv_room (j_room hst)) hd ⟨hfit.2.1, hfit.2.2⟩) (fun E h1 ad1 => j_no (fun E k z => ?_) (H := #[]) E h1 ad1 ls) (fun v k1 z => ?_)
  · exact j_mem_cons (ws := [Cond.static y, Cond.initialized y.cls] ++ (Cond.code y bytes maxL ret :: j_all)) hw (j_mem_cons w1 (j_mem_cons w3 (j_mem_cons w4 fun _ h => h)))
  · obtain ⟨q0, ⟨q1, qP, qK, qD, qE⟩, qX⟩ := q
    exact ⟨q0, ⟨q1, qP, va_K.moved (u := U) (U := U.calling gg mk a) (Vm.Alike.refl U.vm) qK, qD, qE.blind⟩, kstr_pin.1 _ _ _ _ _ _ qX⟩
  · show kstr (ad i) (ad r) n (fun j => j_int (((jcat g h).2 r).2.2 j)) (va_A (j_w tyc ad g) H.size) U U.heap
    rw [hU]
    exact kstr_pin.2 _ _ _ _ _ _ hK hW (fun _ _ _ => rfl) (fun _ q => q)
  · obtain ⟨o1, h1, q1, q2, q3, -⟩ := z
    cases o1 with
    | inl v => cases q3
    | inr E1 => exact hx E1 h1 q1
  · obtain ⟨o1, g1, q1, q2, q3, rfl⟩ := z
    cases o1 with
    | inr E1 => cases q3
    | inl v1 =>
      cases q3
      obtain ⟨w, rfl⟩ := hv _ _ q1
      obtain ⟨r1, r2⟩ := jrep_L (h := h) (h1 _ _ q1)
      exact j_same r1.symm (by rw [r1]; exact r2) (kk w g1 q1)
/-- a method of the class of the object that is the second part's first cell -/
theorem j_callVR2 (hF : j_pin F) (hX : F A s s.heap) (x : j_X p l s m args meth c D tyc A own cc nL) {ci : Nat} {q : vw_C} {ty : Nat → FieldType} (hd : decode cc pc = .ok (.invokevirtual idx, 3)) (hcon : ConP d1 mc1 ms1 y bytes maxL ret (.ref 0 :: as) h F Q1) (hm : j_mV y bytes maxL ret n) (hw : Cond.methodLink own idx y ∈ j_all) (hq : j_cls ci q ty) (hqy : q.1 = y.cls)
    (hb : 0 < h.1) (htb : (h.2 0).1 = ci) (ha : ∀ v ∈ as, j_ok h.1 v) (hn : as.length = n) (hst : st.length ≤ 4) (hfit : j_fit R d1 mc1 ms1 cells slots) (h0 : st0 = (as.map (j_shv g.1)).reverse ++ .ref g.1 :: st) (hx : ∀ E k, ¬ Q1 (.inr E) k)
    (kk : ∀ (v : Option Value) (h1 : MH), Q1 (.inl v) h1 → JJ p l e R s m args below meth c D tyc A n0 ad0 nL Qs (pc + 3) L ((v.map (j_shv g.1)).toList ++ st) (jcat g h1) (cells + mc1) (slots + ms1)) : JJ p l e R s m args below meth c D tyc A n0 ad0 nL Qs pc L st0 (jcat g h) cells slots := by
  refine j_okd fun k1 _ _ => ?_
  have hcat : (jcat g h).2 g.1 = j_shc g.1 (h.2 0) := jcat_R.2 0 hb
  have C := ConP.at (a := g.1) hF hcon jcat_R (jcat_okR k1) (fun v hv => by
    rcases List.mem_cons.mp hv with rfl | hv
    · exact j_ok_ref hb
    · exact ha v hv) (fun _ _ _ => Or.inr rfl)
  refine j_callVXP hF hX x hd (b := g.1) (as := as.map (j_shv g.1)) C hm hw hq hqy (show g.1 < g.1 + h.1 by omega) (by rw [hcat]; exact htb) (by rw [List.length_map]; exact hn) hst hfit h0 (j_no (fun E k z => ?_) (H := #[])) (fun v k z => ?_)
  · obtain ⟨o1, h1, q1, q2, q3, -⟩ := z
    cases o1 with
    | inl v => cases q3
    | inr E1 => exact hx E1 h1 q1
  · obtain ⟨o1, h1, q1, q2, q3, rfl⟩ := z
    cases o1 with
    | inr E1 => cases q3
    | inl v1 =>
      cases q3
      obtain ⟨r1, r2⟩ := jrep_R (g := g) q2
      exact j_same r1.symm (by rw [r1]; exact r2) (kk v1 h1 q1)
/-- a constructor of the second part's first cell -/
theorem j_callIR2 (x : j_X p l s m args meth c D tyc A own cc nL) (hd : decode cc pc = .ok (.invokespecial idx, 3)) (hcon : Con d1 mc1 ms1 y bytes maxL none [.ref 0] h Q1) (hm : j_mI y bytes maxL 0) (hw : Cond.methodLink own idx y ∈ j_all)
    (hb : 0 < h.1) (hst : st.length ≤ 4) (hfit : j_fit R d1 mc1 ms1 cells slots) (hx : ∀ E k, ¬ Q1 (.inr E) k)
    (kk : ∀ (v : Option Value) (h1 : MH), Q1 (.inl v) h1 → JJ p l e R s m args below meth c D tyc A n0 ad0 nL Qs (pc + 3) L ((v.map (j_shv g.1)).toList ++ st) (jcat g h1) (cells + mc1) (slots + ms1)) : JJ p l e R s m args below meth c D tyc A n0 ad0 nL Qs pc L (.ref g.1 :: st) (jcat g h) cells slots := by
  refine j_okd fun k1 _ _ => ?_
  have C := Con.at (a := g.1) hcon jcat_R (jcat_okR k1) (fun v hv => by rw [List.mem_singleton.mp hv]; exact j_ok_ref hb) (fun _ _ _ => Or.inr rfl)
  refine j_callI x hd (b := g.1) (as := []) C hm hw (show g.1 < g.1 + h.1 by omega) rfl hst hfit rfl (fun E k z => ?_) (fun v k z => ?_)
  · obtain ⟨o1, h1, q1, q2, q3, -⟩ := z
    cases o1 with
    | inl v => cases q3
    | inr E1 => exact hx E1 h1 q1
  · obtain ⟨o1, h1, q1, q2, q3, rfl⟩ := z
    cases o1 with
    | inr E1 => cases q3
    | inl v1 =>
      cases q3
      obtain ⟨r1, r2⟩ := jrep_R (g := g) q2
      exact j_same r1.symm (by rw [r1]; exact r2) (kk v1 h1 q1)
/-- an object made: a part of its own -/
theorem j_newR (x : j_X p l s m args meth c D tyc A own cc nL) (hd : decode cc pc = .ok (.new idx, 3)) (hw : Cond.classLink own idx "java/lang/StringBuilder" ∈ j_all) (hc1 : cells + 1 ≤ R.cells) (hs1 : slots + 4 ≤ R.slots) (kk : JJ p l e R s m args below meth c D tyc A n0 ad0 nL Qs (pc + 3) L (.ref g.1 :: st) (jcat g g0) (cells + 1) (slots + 4)) : JJ p l e R s m args below meth c D tyc A n0 ad0 nL Qs pc L st g cells slots := by
  refine j_new x hd jc_1 hw wt_java_lang_StringBuilder wi_java_lang_StringBuilder hc1 hs1 (j_same (h' := jcat g g0) rfl (fun i hi => ?_) kk)
  have hi : i < g.1 + 1 := hi
  by_cases c : i < g.1
  · rw [show (jcat g g0).2 i = g.2 i from by have := jcat_L (g := g) (h := g0); exact (by have e := this.2 i c; rw [Nat.zero_add] at e; rw [e]; exact j_shc_0)]
    exact (ju_n (by omega)).symm
  · obtain rfl : i = g.1 := by omega
    rw [show (jcat g g0).2 g.1 = j_shc g.1 (g0.2 0) from jcat_R.2 0 (by decide)]
    refine Eq.trans ?_ (show _ = ju g.2 g.1 _ g.1 from ju_s.symm)
    refine Prod.ext rfl (Prod.ext rfl (funext fun k => ?_))
    match k with
    | 0 => rfl
    | 1 => rfl
    | 2 => rfl
    | k + 3 => rfl
/-- the second part is forgotten -/
theorem j_forget (hn : n0 ≤ g.1) (hs : ∀ v ∈ st, j_ok g.1 v) (hL : ∀ v, some v ∈ L → j_ok g.1 v) (hok : j_okH g) (kk : JJ p l e R s m args below meth c D tyc A n0 ad0 nL Qs pc L st g cells slots) : JJ p l e R s m args below meth c D tyc A n0 ad0 nL Qs pc L st (jcat g h) cells slots :=
  j_view (fun i => i) (fun i hi => by have : (jcat g h).1 = g.1 + h.1 := rfl; omega) (fun i j _ _ h => h) (fun i hi => by
    have e := (jcat_L (g := g) (h := h)).2 i hi
    rw [Nat.zero_add] at e
    rw [e, j_shc_0]
    exact j_rnc_id.symm) hn (fun _ _ => rfl) hok rfl (fun i v hv => by rw [hv]; exact congrArg (fun z => some (some z)) j_rnv_id.symm) (by rw [show (j_rnv fun i => i) = id from funext fun v => j_rnv_id, List.map_id]) hs hL kk
end JFr
