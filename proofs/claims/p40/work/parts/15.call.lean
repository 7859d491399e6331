/-! ===== calls ===== -/
/-- what the tables say of a method that is called on an object; of a static one; of a constructor -/
def j_mV (y : MethodName) (bytes : ByteArray) (maxL : Nat) (ret : Option FieldType) (n : Nat) : Prop :=
  Cond.instanceMethod y ∈ j_all ∧ Cond.selects y.cls y y ∈ j_all ∧ Cond.initialized y.cls ∈ j_all ∧ Cond.code y bytes maxL ret ∈ j_all ∧ (y.cls ≠ "java/lang/invoke/MethodHandle" ∧ y.cls ≠ "java/lang/invoke/VarHandle" ∧ (parseMethodDescriptor y.desc).map (fun d => d.parameters.length) = some n) ∧ maxL ≤ 40
def j_mS (y : MethodName) (bytes : ByteArray) (maxL : Nat) (ret : Option FieldType) (n : Nat) : Prop :=
  Cond.static y ∈ j_all ∧ Cond.initialized y.cls ∈ j_all ∧ Cond.code y bytes maxL ret ∈ j_all ∧ (y.cls ≠ "java/lang/invoke/MethodHandle" ∧ y.cls ≠ "java/lang/invoke/VarHandle" ∧ (parseMethodDescriptor y.desc).map (fun d => d.parameters.length) = some n) ∧ maxL ≤ 40
def j_mI (y : MethodName) (bytes : ByteArray) (maxL : Nat) (n : Nat) : Prop :=
  Cond.instanceMethod y ∈ j_all ∧ Cond.initialized y.cls ∈ j_all ∧ Cond.code y bytes maxL none ∈ j_all ∧ (y.cls ≠ "java/lang/invoke/MethodHandle" ∧ y.cls ≠ "java/lang/invoke/VarHandle" ∧ (parseMethodDescriptor y.desc).map (fun d => d.parameters.length) = some n) ∧ maxL ≤ 40 ∧ y.name = "<init>"
theorem j_mem_cons {w : Cond} {ws : List Cond} (h : w ∈ j_all) (t : ∀ v ∈ ws, v ∈ j_all) : ∀ v ∈ w :: ws, v ∈ j_all := fun v hv => (List.mem_cons.mp hv).elim (fun e => by rw [e]; exact h) (t v)
theorem j_rm_ok {d d1 mc ms maxL mc1 ms1 : Nat} (h : d1 + 1 ≤ d) (hm : maxL ≤ 40) : (j_rm d1 mc1 ms1).frames + 1 ≤ (j_rm d mc ms).frames ∧ 8 + (maxL + 11) + (j_rm d1 mc1 ms1).locals ≤ (j_rm d mc ms).locals := by
  simp only [j_rm]
  omega
section JK
variable {p : Program} {l : Launch} {e : Env} {R : Room} {s : State} {m : MethodId} {args : Array Value} {below : List Frame} {meth : Method} {c : Code} {D : va_G} {tyc : Nat → ClassId} {A : Nat → Prop} {n0 : Nat} {ad0 : Nat → Nat} {nL : Nat} {Qs : State → Prop}
variable {own : String} {cc : ByteArray} {pc : Nat} {L : List (Option Value)} {st : List Value} {h : MH} {cells slots : Nat} {d1 mc1 ms1 maxL idx n : Nat} {y : MethodName} {bytes : ByteArray} {ret : Option FieldType} {Q1 : MO → MH → Prop} {as st0 : List Value} {b : Nat}
/-- the room that a caller has left for a callee of height d1 -/
def j_fit (R : Room) (d1 mc1 ms1 cells slots : Nat) : Prop := (∀ maxL, maxL ≤ 40 → (j_rm d1 mc1 ms1).frames + 1 ≤ R.frames ∧ 8 + (maxL + 11) + (j_rm d1 mc1 ms1).locals ≤ R.locals) ∧ cells + mc1 ≤ R.cells ∧ slots + ms1 ≤ R.slots
theorem j_fit_rm {d d1 mc ms mc1 ms1 cells slots : Nat} (h : d1 + 1 ≤ d) (h1 : cells + mc1 ≤ mc) (h2 : slots + ms1 ≤ ms) : j_fit (j_rm d mc ms) d1 mc1 ms1 cells slots := ⟨fun _ hm => j_rm_ok h hm, h1, h2⟩
/-- an exception that no callee throws -/
theorem j_no {Q1 : MO → MH → Prop} {s : State} {L : List (Option Value)} {st : List Value} {H : Heap} {c1 s1 : Nat} (hx : ∀ E k, ¬ Q1 (.inr E) k) : ∀ (E : String) (h1 : MH) (ad1 : Nat → Nat) (ls : Array Slot) (H1 : Heap) (locs1 : List Loc) (q : Addr) (ce : Cell), Q1 (.inr E) h1 → j_I s D tyc A n0 ad0 nL ad1 L st h1 ls H1 locs1 → H1[q]? = some ce → ce.vm = .none → s.vm.findClass E = some ce.cls → vx_W p l e R s m args below meth c H1 locs1 c1 s1 Qs (F0 m pc ls (st.map (j_cv ad1))) q :=
  fun E h1 _ _ _ _ _ _ hq => absurd hq (hx E h1)
theorem j_callVX (x : j_X p l s m args meth c D tyc A own cc nL) {ci : Nat} {q : vw_C} {ty : Nat → FieldType} (hd : decode cc pc = .ok (.invokevirtual idx, 3)) (hcon : Con d1 mc1 ms1 y bytes maxL ret (.ref b :: as) h Q1) (hm : j_mV y bytes maxL ret n) (hw : Cond.methodLink own idx y ∈ j_all) (hq : j_cls ci q ty) (hqy : q.1 = y.cls)
    (hb : b < h.1) (htb : (h.2 b).1 = ci) (hn : as.length = n) (hst : st.length ≤ 4) (hfit : j_fit R d1 mc1 ms1 cells slots) (h0 : st0 = as.reverse ++ .ref b :: st)
    (kx : ∀ (E : String) (h1 : MH) (ad1 : Nat → Nat) (ls : Array Slot) (H1 : Heap) (locs1 : List Loc) (q : Addr) (ce : Cell), Q1 (.inr E) h1 → j_I s D tyc A n0 ad0 nL ad1 L st h1 ls H1 locs1 → H1[q]? = some ce → ce.vm = .none → s.vm.findClass E = some ce.cls → vx_W p l e R s m args below meth c H1 locs1 (cells + mc1) (slots + ms1) Qs (F0 m pc ls (st.map (j_cv ad1))) q)
    (kk : ∀ (v : Option Value) (h1 : MH), Q1 (.inl v) h1 → JJ p l e R s m args below meth c D tyc A n0 ad0 nL Qs (pc + 3) L (v.toList ++ st) h1 (cells + mc1) (slots + ms1)) : JJ p l e R s m args below meth c D tyc A n0 ad0 nL Qs pc L st0 h cells slots := by
  subst h0
  intro ad ls H locs I
  obtain ⟨w1, w2, w3, w4, w5, w6⟩ := hm
  have e0 : (as.reverse ++ .ref b :: st).map (j_cv ad) = (as.map (j_cv ad)).reverse ++ Value.ref (ad b) :: st.map (j_cv ad) := by rw [List.map_append, List.map_reverse]; rfl
  have I2 : j_I s D tyc A n0 ad0 nL ad L ((as.reverse ++ [.ref b]) ++ st) h ls H locs := by rw [List.append_assoc]; exact I
  have hargs : ∀ v ∈ Value.ref b :: as, j_ok h.1 v := fun v hv => (List.mem_cons.mp hv).elim (fun e => by rw [e]; exact j_ok_ref hb) (fun hv => I.2.2.2.2.2.2.1 v (List.mem_append_left _ (List.mem_reverse.mpr hv)))
  have hM := hcon l D tyc ad H.size x.2.2.2.2.2.2.2.2.1 I.2.2.2.2.2.1 hargs
  have he : (j_w tyc ad h)[b]? = some (ad b, .inr (ci, (List.range (h.2 b).2.1).map fun k => j_cv ad ((h.2 b).2.2 k))) := by rw [j_w_get hb, j_e_obj htb hq.2.1]
  rw [e0]
  refine j_run (a := (Value.ref (ad b) :: as.map (j_cv ad)).toArray) x I2 (vx_runV (C := q.1) (As := as.map (j_cv ad)) ⟨x.1, x.2.1, x.2.2.1, x.2.2.2.1, x.2.2.2.2.1⟩ hM (cwV n x.2.2.2.2.1 (j_good ?_) rfl rfl rfl ⟨hqy.symm, w5⟩ (hfit.1 maxL w6)) ⟨j_B.blind, va_recv x.2.2.2.2.2.1 I.2.1 hq.1 he, fun U hU hW => ⟨rfl, j_pre x I hU hW⟩⟩ rfl (by rw [List.length_map]; exact hn) I.1.1 rfl (lv_room (j_room hst)) hd ⟨hfit.2.1, hfit.2.2⟩) (fun E h1 ad1 => kx E h1 ad1 ls) kk
  rw [hqy]
  exact j_mem_cons (ws := [Cond.instanceMethod y, Cond.selects y.cls y y, Cond.initialized y.cls] ++ (Cond.code y bytes maxL ret :: j_all)) hw (j_mem_cons w1 (j_mem_cons w2 (j_mem_cons w3 (j_mem_cons w4 fun _ h => h))))
theorem j_callV (x : j_X p l s m args meth c D tyc A own cc nL) {ci : Nat} {q : vw_C} {ty : Nat → FieldType} (hd : decode cc pc = .ok (.invokevirtual idx, 3)) (hcon : Con d1 mc1 ms1 y bytes maxL ret (.ref b :: as) h Q1) (hm : j_mV y bytes maxL ret n) (hw : Cond.methodLink own idx y ∈ j_all) (hq : j_cls ci q ty) (hqy : q.1 = y.cls)
    (hb : b < h.1) (htb : (h.2 b).1 = ci) (hn : as.length = n) (hst : st.length ≤ 4) (hfit : j_fit R d1 mc1 ms1 cells slots) (h0 : st0 = as.reverse ++ .ref b :: st) (hx : ∀ E k, ¬ Q1 (.inr E) k)
    (kk : ∀ (v : Option Value) (h1 : MH), Q1 (.inl v) h1 → JJ p l e R s m args below meth c D tyc A n0 ad0 nL Qs (pc + 3) L (v.toList ++ st) h1 (cells + mc1) (slots + ms1)) : JJ p l e R s m args below meth c D tyc A n0 ad0 nL Qs pc L st0 h cells slots :=
  j_callVX x hd hcon hm hw hq hqy hb htb hn hst hfit h0 (j_no hx (H := #[])) kk
theorem j_callS (x : j_X p l s m args meth c D tyc A own cc nL) (hd : decode cc pc = .ok (.invokestatic idx, 3)) (hcon : Con d1 mc1 ms1 y bytes maxL ret as h Q1) (hm : j_mS y bytes maxL ret n) (hw : Cond.methodLink own idx y ∈ j_all)
    (hn : as.length = n) (hst : st.length ≤ 4) (hfit : j_fit R d1 mc1 ms1 cells slots) (h0 : st0 = as.reverse ++ st) (hx : ∀ E k, ¬ Q1 (.inr E) k)
    (kk : ∀ (v : Option Value) (h1 : MH), Q1 (.inl v) h1 → JJ p l e R s m args below meth c D tyc A n0 ad0 nL Qs (pc + 3) L (v.toList ++ st) h1 (cells + mc1) (slots + ms1)) : JJ p l e R s m args below meth c D tyc A n0 ad0 nL Qs pc L st0 h cells slots := by
  subst h0
  intro ad ls H locs I
  obtain ⟨w1, w3, w4, w5, w6⟩ := hm
  have e0 : (as.reverse ++ st).map (j_cv ad) = (as.map (j_cv ad)).reverse ++ st.map (j_cv ad) := by rw [List.map_append, List.map_reverse]
  have hargs : ∀ v ∈ as, j_ok h.1 v := fun v hv => I.2.2.2.2.2.2.1 v (List.mem_append_left _ (List.mem_reverse.mpr hv))
  have hM := hcon l D tyc ad H.size x.2.2.2.2.2.2.2.2.1 I.2.2.2.2.2.1 hargs
  rw [e0]
  refine j_run (a := (as.map (j_cv ad)).toArray) x I (vx_runS (As := as.map (j_cv ad)) ⟨x.1, x.2.1, x.2.2.1, x.2.2.2.1, x.2.2.2.2.1⟩ hM (va_cwS n x.2.2.2.2.1 (j_good ?_) rfl rfl rfl w5 (hfit.1 maxL w6)) ⟨j_B.blind, fun U hU hW => ⟨rfl, j_pre x I hU hW⟩⟩ rfl (by rw [List.length_map]; exact hn) I.1.1 rfl (lv_room (j_room hst)) hd ⟨hfit.2.1, hfit.2.2⟩) (fun E h1 ad1 => j_no hx (H := #[]) E h1 ad1 ls) kk
  exact j_mem_cons (ws := [Cond.static y, Cond.initialized y.cls] ++ (Cond.code y bytes maxL ret :: j_all)) hw (j_mem_cons w1 (j_mem_cons w3 (j_mem_cons w4 fun _ h => h)))
/-- a static method of a nest mate, private there -/
theorem j_callSN (x : j_X p l s m args meth c D tyc A own cc nL) {host : String} (hd : decode cc pc = .ok (.invokestatic idx, 3)) (hcon : Con d1 mc1 ms1 y bytes maxL ret as h Q1) (hm : j_mS y bytes maxL ret n) (hw : Cond.methodLinkNest own idx y host ∈ j_nw)
    (hn : as.length = n) (hst : st.length ≤ 4) (hfit : j_fit R d1 mc1 ms1 cells slots) (h0 : st0 = as.reverse ++ st) (hx : ∀ E k, ¬ Q1 (.inr E) k)
    (kk : ∀ (v : Option Value) (h1 : MH), Q1 (.inl v) h1 → JJ p l e R s m args below meth c D tyc A n0 ad0 nL Qs (pc + 3) L (v.toList ++ st) h1 (cells + mc1) (slots + ms1)) : JJ p l e R s m args below meth c D tyc A n0 ad0 nL Qs pc L st0 h cells slots := by
  subst h0
  intro ad ls H locs I
  obtain ⟨w1, w3, w4, w5, w6⟩ := hm
  have e0 : (as.reverse ++ st).map (j_cv ad) = (as.map (j_cv ad)).reverse ++ st.map (j_cv ad) := by rw [List.map_append, List.map_reverse]
  have hargs : ∀ v ∈ as, j_ok h.1 v := fun v hv => I.2.2.2.2.2.2.1 v (List.mem_append_left _ (List.mem_reverse.mpr hv))
  have hM := hcon l D tyc ad H.size x.2.2.2.2.2.2.2.2.1 I.2.2.2.2.2.1 hargs
  rw [e0]
  refine j_run (a := (as.map (j_cv ad)).toArray) x I (vx_runSN (As := as.map (j_cv ad)) ⟨x.1, x.2.1, x.2.2.1, x.2.2.2.1, x.2.2.2.2.1⟩ hM ⟨va_cnB n x.2.2.2.2.1 (j_good ?_) rfl rfl rfl (x.2.2.2.2.2.2.2.2.2.1 _ hw) (x.2.2.2.2.1 _ w3) w5 (hfit.1 maxL w6), x.2.2.2.2.1 _ w1, trivial⟩ ⟨j_B.blind, fun U hU hW => ⟨rfl, j_pre x I hU hW⟩⟩ rfl (by rw [List.length_map]; exact hn) I.1.1 rfl (lv_room (j_room hst)) hd ⟨hfit.2.1, hfit.2.2⟩) (fun E h1 ad1 => j_no hx (H := #[]) E h1 ad1 ls) kk
  exact j_mem_cons w4 fun _ h => h
theorem j_callI (x : j_X p l s m args meth c D tyc A own cc nL) (hd : decode cc pc = .ok (.invokespecial idx, 3)) (hcon : Con d1 mc1 ms1 y bytes maxL none (.ref b :: as) h Q1) (hm : j_mI y bytes maxL n) (hw : Cond.methodLink own idx y ∈ j_all)
    (hb : b < h.1) (hn : as.length = n) (hst : st.length ≤ 4) (hfit : j_fit R d1 mc1 ms1 cells slots) (h0 : st0 = as.reverse ++ .ref b :: st) (hx : ∀ E k, ¬ Q1 (.inr E) k)
    (kk : ∀ (v : Option Value) (h1 : MH), Q1 (.inl v) h1 → JJ p l e R s m args below meth c D tyc A n0 ad0 nL Qs (pc + 3) L (v.toList ++ st) h1 (cells + mc1) (slots + ms1)) : JJ p l e R s m args below meth c D tyc A n0 ad0 nL Qs pc L st0 h cells slots := by
  subst h0
  intro ad ls H locs I
  obtain ⟨w1, w3, w4, w5, w6, w7⟩ := hm
  have e0 : (as.reverse ++ .ref b :: st).map (j_cv ad) = (as.map (j_cv ad)).reverse ++ Value.ref (ad b) :: st.map (j_cv ad) := by rw [List.map_append, List.map_reverse]; rfl
  have I2 : j_I s D tyc A n0 ad0 nL ad L ((as.reverse ++ [.ref b]) ++ st) h ls H locs := by rw [List.append_assoc]; exact I
  have hargs : ∀ v ∈ Value.ref b :: as, j_ok h.1 v := fun v hv => (List.mem_cons.mp hv).elim (fun e => by rw [e]; exact j_ok_ref hb) (fun hv => I.2.2.2.2.2.2.1 v (List.mem_append_left _ (List.mem_reverse.mpr hv)))
  have hM := hcon l D tyc ad H.size x.2.2.2.2.2.2.2.2.1 I.2.2.2.2.2.1 hargs
  rw [e0]
  refine j_run (a := (Value.ref (ad b) :: as.map (j_cv ad)).toArray) x I2 (vx_runI (b := ad b) (As := as.map (j_cv ad)) ⟨x.1, x.2.1, x.2.2.1, x.2.2.2.1, x.2.2.2.2.1⟩ hM (cwI n x.2.2.2.2.1 (j_good ?_) rfl rfl rfl (x.2.2.2.2.1 _ w3) (x.2.2.2.2.1 _ hw) (x.2.2.2.2.1 _ w1) w7 w5 (hfit.1 maxL w6)) ⟨j_B.blind, fun U hU hW => ⟨rfl, j_pre x I hU hW⟩⟩ rfl (by rw [List.length_map]; exact hn) I.1.1 rfl (lv_room (j_room hst)) hd ⟨hfit.2.1, hfit.2.2⟩) (fun E h1 ad1 => j_no hx (H := #[]) E h1 ad1 ls) kk
  exact j_mem_cons w4 fun _ h => h
theorem j_callIN (x : j_X p l s m args meth c D tyc A own cc nL) {host : String} (hd : decode cc pc = .ok (.invokespecial idx, 3)) (hcon : Con d1 mc1 ms1 y bytes maxL none (.ref b :: as) h Q1) (hm : j_mI y bytes maxL n) (hw : Cond.methodLinkNest own idx y host ∈ j_nw)
    (hb : b < h.1) (hn : as.length = n) (hst : st.length ≤ 4) (hfit : j_fit R d1 mc1 ms1 cells slots) (h0 : st0 = as.reverse ++ .ref b :: st) (hx : ∀ E k, ¬ Q1 (.inr E) k)
    (kk : ∀ (v : Option Value) (h1 : MH), Q1 (.inl v) h1 → JJ p l e R s m args below meth c D tyc A n0 ad0 nL Qs (pc + 3) L (v.toList ++ st) h1 (cells + mc1) (slots + ms1)) : JJ p l e R s m args below meth c D tyc A n0 ad0 nL Qs pc L st0 h cells slots := by
  subst h0
  intro ad ls H locs I
  obtain ⟨w1, w3, w4, w5, w6, w7⟩ := hm
  have e0 : (as.reverse ++ .ref b :: st).map (j_cv ad) = (as.map (j_cv ad)).reverse ++ Value.ref (ad b) :: st.map (j_cv ad) := by rw [List.map_append, List.map_reverse]; rfl
  have I2 : j_I s D tyc A n0 ad0 nL ad L ((as.reverse ++ [.ref b]) ++ st) h ls H locs := by rw [List.append_assoc]; exact I
  have hargs : ∀ v ∈ Value.ref b :: as, j_ok h.1 v := fun v hv => (List.mem_cons.mp hv).elim (fun e => by rw [e]; exact j_ok_ref hb) (fun hv => I.2.2.2.2.2.2.1 v (List.mem_append_left _ (List.mem_reverse.mpr hv)))
  have hM := hcon l D tyc ad H.size x.2.2.2.2.2.2.2.2.1 I.2.2.2.2.2.1 hargs
  rw [e0]
  refine j_run (a := (Value.ref (ad b) :: as.map (j_cv ad)).toArray) x I2 (vx_runIN (b := ad b) (As := as.map (j_cv ad)) ⟨x.1, x.2.1, x.2.2.1, x.2.2.2.1, x.2.2.2.2.1⟩ hM ⟨va_cnB n x.2.2.2.2.1 (j_good ?_) rfl rfl rfl (x.2.2.2.2.2.2.2.2.2.1 _ hw) (x.2.2.2.2.1 _ w3) w5 (hfit.1 maxL w6), w7, x.2.2.2.2.1 _ w1⟩ ⟨j_B.blind, fun U hU hW => ⟨rfl, j_pre x I hU hW⟩⟩ rfl (by rw [List.length_map]; exact hn) I.1.1 rfl (lv_room (j_room hst)) hd ⟨hfit.2.1, hfit.2.2⟩) (fun E h1 ad1 => j_no hx (H := #[]) E h1 ad1 ls) kk
  exact j_mem_cons w4 fun _ h => h
end JK
