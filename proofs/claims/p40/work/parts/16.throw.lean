/-! ===== throws, Math, arraycopy, super ===== -/
theorem j_hat {args : Array Value} {s : State} {ws : List Cond} (h1 : ∀ w ∈ j_all, w.before args s = true) (h2 : ∀ w ∈ j_nw, va_Nw w s) (h : ∀ w ∈ ws, w ∈ j_all ∨ w ∈ j_nw) : ∀ w ∈ ws, w.before args s = true := by
  intro w hw
  rcases h w hw with h | h
  · exact h1 w h
  · exact va_Nw.use (j_soft_tab (List.mem_filter.mp h).2) (h2 w h)
theorem j_ot {w : Cond} (h : w ∈ j_all ∨ w ∈ j_nw) : vx_ot w = true := by
  unfold vx_ot
  rw [Bool.or_eq_true]
  rcases h with h | h
  · exact Or.inr (List.mem_filter.mp h).2
  · exact Or.inl (j_soft_tab (List.mem_filter.mp h).2)
/-- an exception's class, the classes between it and Throwable, the words of its making in the class own, its constructor at ic -/
def j_exS (own : String) (ik ic : Nat) (cls : String) (names : List String) : Prop := Bundle.fit cls = true ∧ (∀ n ∈ names, Bundle.fit n = true) ∧ Cond.classLink own ik cls ∈ j_all ∧ Cond.initialized cls ∈ j_all ∧ (∀ w ∈ vx_atS own ic cls names, w ∈ j_all ∨ w ∈ j_nw) ∧ names.length ≤ 5
section JT
variable {p : Program} {l : Launch} {e : Env} {s : State} {m : MethodId} {args : Array Value} {below : List Frame} {meth : Method} {c : Code} {D : va_G} {tyc : Nat → ClassId} {A : Nat → Prop} {n0 : Nat} {ad0 : Nat → Nat} {nL : Nat} {Qs : State → Prop}
variable {own : String} {cc : ByteArray} {pc : Nat} {L : List (Option Value)} {st : List Value} {h : MH} {cells slots d mc ms : Nat} {Q : MO → MH → Prop}
theorem j_E.out {ad : Nat → Nat} {ls : Array Slot} {H : Heap} {locs : List Loc} {t : State} (I : j_I s D tyc A n0 ad0 nL ad L st h ls H locs) (h1 : H.size ≤ t.heap.size) (h2 : ∀ q : Nat, q < H.size → t.heap[q]? = H[q]?) : j_E D tyc A n0 ad0 h ad s t :=
  ⟨I.2.2.2.2.1, I.2.1.kept fun k q hq => h2 q.1 (I.2.1 k q hq).lt, I.2.2.1, I.2.2.2.2.2.1, ⟨Nat.le_trans I.2.2.2.1.1 h1, fun q q1 q2 => by rw [h2 q (Nat.lt_of_lt_of_le q1 I.2.2.2.1.1)]; exact I.2.2.2.1.2.1 q q1 q2⟩⟩
theorem j_throwS (x : j_X p l s m args meth c D tyc A own cc nL) {cls text : String} {names : List String} {ik is ic : Nat} (hE : j_exS own ik ic cls names) (hstr : (own, is, text) ∈ j_strs)
    (d0 : decode cc pc = .ok (.new ik, 3)) (d3 : decode cc (pc + 3) = .ok (.dup, 1)) (d4 : decode cc (pc + 4) = .ok (.ldc is, 2)) (d6 : decode cc (pc + 6) = .ok (.invokespecial ic, 3)) (d9 : decode cc (pc + 9) = .ok (.athrow, 1))
    (htab : ∀ z ∈ c.exceptionTable.toList, False) (hc : cells + 1 ≤ mc) (hs : slots + 6 ≤ ms) (hq : Q (.inr cls) h) : JJ p l e (j_rm d mc ms) s m args below meth c D tyc A n0 ad0 nL (vx_MQ below (j_Qc D tyc A n0 ad0 Q) (j_XC D tyc A n0 ad0 Q) args s mc ms A) pc L [] h cells slots := by
  intro ad ls H locs I
  obtain ⟨e1, e2, e3, e4, e5, e6⟩ := hE
  obtain ⟨sa, hsa⟩ := x.2.2.2.2.2.2.2.2.2.2.2.1 _ hstr
  have env := x.2.2.2.2.2.2.2.2.2
  refine vx_throwS (sa := sa) (names := names) x.1 x.2.1 x.2.2.2.2.2.2.2.2.1 x.2.2.2.1 e1 e2 (x.2.2.2.2.1 _ e3) (x.2.2.2.2.1 _ e4) hsa (j_hat x.2.2.2.2.1 env.1 e5) (fun w hw => j_ot ?_) env.2.2.2.1 env.2.2.2.2.1 I.2.2.2.1 (by rw [x.2.2.1]; exact I.1.1) d0 d3 d4 d6 d9 (fun z hz => (htab z hz).elim) ?_ ?_ hc hs x.2.2.2.2.2.2.2.1 (fun t _ t1 t2 => ⟨h, ad, hq, .out I t1 t2⟩) I.2.2.2.1.2.2 hc hs
  · rcases List.mem_cons.mp hw with rfl | hw
    · exact Or.inl e3
    · rcases List.mem_cons.mp hw with rfl | hw
      · exact Or.inl e4
      · exact e5 w hw
  · simp only [j_rm]; omega
  · simp only [j_rm, List.map_nil, List.sum_nil]; omega
theorem j_throwSW (x : j_X p l s m args meth c D tyc A own cc nL) {cls text : String} {names : List String} {ik is ic : Nat} (hE : j_exS own ik ic cls names) (hstr : (own, is, text) ∈ j_strs)
    (d0 : decode cc pc = .ok (.new ik, 3)) (d3 : decode cc (pc + 3) = .ok (.dup, 1)) (d4 : decode cc (pc + 4) = .ok (.ldc_w is, 3)) (d7 : decode cc (pc + 7) = .ok (.invokespecial ic, 3)) (d10 : decode cc (pc + 10) = .ok (.athrow, 1))
    (htab : ∀ z ∈ c.exceptionTable.toList, False) (hc : cells + 1 ≤ mc) (hs : slots + 6 ≤ ms) (hq : Q (.inr cls) h) : JJ p l e (j_rm d mc ms) s m args below meth c D tyc A n0 ad0 nL (vx_MQ below (j_Qc D tyc A n0 ad0 Q) (j_XC D tyc A n0 ad0 Q) args s mc ms A) pc L [] h cells slots := by
  intro ad ls H locs I
  obtain ⟨e1, e2, e3, e4, e5, e6⟩ := hE
  obtain ⟨sa, hsa⟩ := x.2.2.2.2.2.2.2.2.2.2.2.1 _ hstr
  have env := x.2.2.2.2.2.2.2.2.2
  refine vx_throwSW (sa := sa) (names := names) x.1 x.2.1 x.2.2.2.2.2.2.2.2.1 x.2.2.2.1 e1 e2 (x.2.2.2.2.1 _ e3) (x.2.2.2.2.1 _ e4) hsa (j_hat x.2.2.2.2.1 env.1 e5) (fun w hw => j_ot ?_) env.2.2.2.1 env.2.2.2.2.1 I.2.2.2.1 (by rw [x.2.2.1]; exact I.1.1) d0 d3 d4 d7 d10 (fun z hz => (htab z hz).elim) ?_ ?_ hc hs x.2.2.2.2.2.2.2.1 (fun t _ t1 t2 => ⟨h, ad, hq, .out I t1 t2⟩) I.2.2.2.1.2.2 hc hs
  · rcases List.mem_cons.mp hw with rfl | hw
    · exact Or.inl e3
    · rcases List.mem_cons.mp hw with rfl | hw
      · exact Or.inl e4
      · exact e5 w hw
  · simp only [j_rm]; omega
  · simp only [j_rm, List.map_nil, List.sum_nil]; omega
end JT
section JM
variable {p : Program} {l : Launch} {e : Env} {R : Room} {s : State} {m : MethodId} {args : Array Value} {below : List Frame} {meth : Method} {c : Code} {D : va_G} {tyc : Nat → ClassId} {A : Nat → Prop} {n0 : Nat} {ad0 : Nat → Nat} {nL : Nat} {Qs : State → Prop}
variable {own : String} {cc : ByteArray} {pc : Nat} {L : List (Option Value)} {st : List Value} {h : MH} {cells slots d mc ms : Nat}
def j_math : Prop := (Cond.static Lib.Math.min.name ∈ j_all ∧ Cond.code Lib.Math.min.name Lib.Math.min.code 2 (some .int) ∈ j_all) ∧ (Cond.static Lib.Math.max.name ∈ j_all ∧ Cond.code Lib.Math.max.name Lib.Math.max.code 2 (some .int) ∈ j_all) ∧ Cond.initialized "java/lang/Math" ∈ j_all
theorem j_min (x : j_X p l s m args meth c D tyc A own cc nL) {idx : Nat} {v w : Int32} (hm : j_math) (hd : decode cc pc = .ok (.invokestatic idx, 3)) (hw : Cond.methodLink own idx Lib.Math.min.name ∈ j_all) (hst : st.length ≤ 4) (hc : cells ≤ mc) (hs : slots ≤ ms)
    (kk : JJ p l e (j_rm d mc ms) s m args below meth c D tyc A n0 ad0 nL Qs (pc + 3) L (.int (if w < v then w else v) :: st) h cells slots) : JJ p l e (j_rm d mc ms) s m args below meth c D tyc A n0 ad0 nL Qs pc L (.int w :: .int v :: st) h cells slots := by
  intro ad ls H locs I
  have h8 := j_room (ad := ad) hst
  exact va_mmin x.1 x.2.1 (by rw [x.2.2.1]; exact I.1.1.symm) x.2.2.2.1 (x.2.2.2.2.1 _ hw) (x.2.2.2.2.1 _ hm.1.1) (x.2.2.2.2.1 _ hm.2.2) (x.2.2.2.2.1 _ hm.1.2) (by simp only [j_rm]; omega) (by simp only [j_rm]; omega) hc hs hd (kk ad ls H locs (I.st fun hs => j_ok_cons j_ok_int (j_ok_tl (j_ok_tl hs))))
theorem j_max (x : j_X p l s m args meth c D tyc A own cc nL) {idx : Nat} {v w : Int32} (hm : j_math) (hd : decode cc pc = .ok (.invokestatic idx, 3)) (hw : Cond.methodLink own idx Lib.Math.max.name ∈ j_all) (hst : st.length ≤ 4) (hc : cells ≤ mc) (hs : slots ≤ ms)
    (kk : JJ p l e (j_rm d mc ms) s m args below meth c D tyc A n0 ad0 nL Qs (pc + 3) L (.int (if v < w then w else v) :: st) h cells slots) : JJ p l e (j_rm d mc ms) s m args below meth c D tyc A n0 ad0 nL Qs pc L (.int w :: .int v :: st) h cells slots := by
  intro ad ls H locs I
  have h8 := j_room (ad := ad) hst
  exact va_mmax x.1 x.2.1 (by rw [x.2.2.1]; exact I.1.1.symm) x.2.2.2.1 (x.2.2.2.2.1 _ hw) (x.2.2.2.2.1 _ hm.2.1.1) (x.2.2.2.2.1 _ hm.2.2) (x.2.2.2.2.1 _ hm.2.1.2) (by simp only [j_rm]; omega) (by simp only [j_rm]; omega) hc hs hd (kk ad ls H locs (I.st fun hs => j_ok_cons j_ok_int (j_ok_tl (j_ok_tl hs))))
def j_cpw : Prop := Cond.native arraycopyName ∈ j_all ∧ Cond.static arraycopyName ∈ j_all ∧ Cond.initialized "java/lang/System" ∈ j_all
/-- an int row copied onto another, or onto itself -/
def jcpy (f g : Nat → Value) (sp dp n : Nat) : Nat → Value := fun k => if dp ≤ k ∧ k < dp + n then .int (j_int (f (sp + (k - dp)))) else g k
theorem j_copy (x : j_X p l s m args meth c D tyc A own cc nL) {idx a b : Nat} {sp dp n : Int32} (hm : j_cpw) (hd : decode cc pc = .ok (.invokestatic idx, 3)) (hw : Cond.methodLink own idx arraycopyName ∈ j_all) (hst : st.length ≤ 4) (ha : a < h.1) (hta : (h.2 a).1 = 100) (hb : b < h.1) (htb : (h.2 b).1 = 100)
    (h1 : ¬ sp < 0) (h2 : ¬ dp < 0) (h3 : ¬ n < 0) (h4 : sp.toNatClampNeg + n.toNatClampNeg ≤ (h.2 a).2.1) (h5 : dp.toNatClampNeg + n.toNatClampNeg ≤ (h.2 b).2.1)
    (kk : JJ p l e (j_rm d mc ms) s m args below meth c D tyc A n0 ad0 nL Qs (pc + 3) L st (j_wr h b ((h.2 b).1, (h.2 b).2.1, jcpy (h.2 a).2.2 (h.2 b).2.2 sp.toNatClampNeg dp.toNatClampNeg n.toNatClampNeg)) cells slots) :
    JJ p l e (j_rm d mc ms) s m args below meth c D tyc A n0 ad0 nL Qs pc L (.int n :: .int dp :: .ref b :: .int sp :: .ref a :: st) h cells slots := by
  intro ad ls H locs I
  have h8 := j_room (ad := ad) hst
  have hea : (j_w tyc ad h)[a]? = some (ad a, .inl (tyc 100, (h.2 a).2.1, .inl fun j => j_int ((h.2 a).2.2 j))) := by rw [j_w_get ha, j_e_arr hta (by decide), j_arr_i (by decide) (by decide) (by decide)]
  have heb : (j_w tyc ad h)[b]? = some (ad b, .inl (tyc 100, (h.2 b).2.1, .inl fun j => j_int ((h.2 b).2.2 j))) := by rw [j_w_get hb, j_e_arr htb (by decide), j_arr_i (by decide) (by decide) (by decide)]
  have hnw : nativeFrameWords "java/lang/System" "arraycopy" 5 ≤ 100 := by decide +kernel
  refine va_copyi x.1 x.2.1 (by rw [x.2.2.1]; exact I.1.1.symm) x.2.2.2.1 (x.2.2.2.2.1 _ hw) (x.2.2.2.2.1 _ hm.1) (x.2.2.2.2.1 _ hm.2.1) (x.2.2.2.2.1 _ hm.2.2) x.2.2.2.2.2.1 I.2.1 I.2.2.1 I.2.2.2.1 a b 0 0 hea heb (ty := .int) rfl rfl rfl h1 h2 h3 h4 h5 (fun _ _ => rfl) (by simp only [j_rm]; omega) (by simp only [j_rm]; omega) hd (fun H1 locs1 hP hD hS => ?_)
  have e1 : va_cpy (fun j => j_int ((h.2 a).2.2 j)) (fun j => j_int ((h.2 b).2.2 j)) sp.toNatClampNeg dp.toNatClampNeg n.toNatClampNeg = fun j => j_int (jcpy (h.2 a).2.2 (h.2 b).2.2 sp.toNatClampNeg dp.toNatClampNeg n.toNatClampNeg j) := funext fun j => by
    simp only [va_cpy, jcpy]
    split <;> rfl
  have e2 : j_e tyc ad ((h.2 b).1, (h.2 b).2.1, jcpy (h.2 a).2.2 (h.2 b).2.2 sp.toNatClampNeg dp.toNatClampNeg n.toNatClampNeg) = .inl (tyc 100, (h.2 b).2.1, .inl fun j => j_int (jcpy (h.2 a).2.2 (h.2 b).2.2 sp.toNatClampNeg dp.toNatClampNeg n.toNatClampNeg j)) := Eq.trans (j_e_arr (ad := ad) (tyc := tyc) (c := (_, _, _)) (t := 100) htb (by decide)) (by rw [j_arr_i (by decide) (by decide) (by decide)])
  rw [e1, ← e2] at hP hD
  refine kk ad ls H1 locs1 (I.wr (fun hs => j_ok_tl (j_ok_tl (j_ok_tl (j_ok_tl (j_ok_tl hs))))) hb (fun j => ?_) hP hD hS)
  show j_ok h.1 (jcpy _ _ _ _ _ j)
  unfold jcpy
  split
  · exact j_ok_int
  · exact I.2.2.2.2.2.1 b hb j
variable {d1 mc1 ms1 maxL idx n : Nat} {y : MethodName} {bytes : ByteArray} {ret : Option FieldType} {Q1 : MO → MH → Prop} {as st0 : List Value} {b : Nat}
/-- super.m(..) -/
theorem j_callSU (x : j_X p l s m args meth c D tyc A own cc nL) {ci : Nat} {q : vw_C} {ty : Nat → FieldType} (hd : decode cc pc = .ok (.invokespecial idx, 3)) (hcon : Con d1 mc1 ms1 y bytes maxL ret (.ref b :: as) h Q1)
    (hm : Cond.sameMethod y.cls y.cls y.name y.desc ∈ j_all ∧ Cond.superclass own y.cls ∈ j_all ∧ Cond.instanceMethod y ∈ j_all ∧ Cond.initialized y.cls ∈ j_all ∧ Cond.code y bytes maxL ret ∈ j_all ∧ (y.name ≠ "<init>" ∧ (parseMethodDescriptor y.desc).map (fun d => d.parameters.length) = some n) ∧ maxL ≤ 40) (hw : Cond.methodLink own idx y ∈ j_all) (hq : j_cls ci q ty)
    (hb : b < h.1) (htb : (h.2 b).1 = ci) (hn : as.length = n) (hst : st.length ≤ 4) (hfit : j_fit R d1 mc1 ms1 cells slots) (h0 : st0 = as.reverse ++ .ref b :: st) (hx : ∀ E k, ¬ Q1 (.inr E) k)
    (kk : ∀ (v : Option Value) (h1 : MH), Q1 (.inl v) h1 → JJ p l e R s m args below meth c D tyc A n0 ad0 nL Qs (pc + 3) L (v.toList ++ st) h1 (cells + mc1) (slots + ms1)) : JJ p l e R s m args below meth c D tyc A n0 ad0 nL Qs pc L st0 h cells slots := by
  subst h0
  intro ad ls H locs I
  obtain ⟨w1, w2, w3, w4, w5, w6, w7⟩ := hm
  have e0 : (as.reverse ++ .ref b :: st).map (j_cv ad) = (as.map (j_cv ad)).reverse ++ Value.ref (ad b) :: st.map (j_cv ad) := by rw [List.map_append, List.map_reverse]; rfl
  have I2 : j_I s D tyc A n0 ad0 nL ad L ((as.reverse ++ [.ref b]) ++ st) h ls H locs := by rw [List.append_assoc]; exact I
  have hargs : ∀ v ∈ Value.ref b :: as, j_ok h.1 v := fun v hv => (List.mem_cons.mp hv).elim (fun e => by rw [e]; exact j_ok_ref hb) (fun hv => I.2.2.2.2.2.2.1 v (List.mem_append_left _ (List.mem_reverse.mpr hv)))
  have hM := hcon l D tyc ad H.size x.2.2.2.2.2.2.2.2.1 I.2.2.2.2.2.1 hargs
  have he : (j_w tyc ad h)[b]? = some (ad b, .inr (ci, (List.range (h.2 b).2.1).map fun k => j_cv ad ((h.2 b).2.2 k))) := by rw [j_w_get hb, j_e_obj htb hq.2.1]
  rw [e0]
  refine j_run (a := (Value.ref (ad b) :: as.map (j_cv ad)).toArray) x I2 (vx_runSU (C := q.1) (As := as.map (j_cv ad)) (x.2.2.2.2.2.1.1 ci q hq.1).2 ⟨x.1, x.2.1, x.2.2.1, x.2.2.2.1, x.2.2.2.2.1⟩ hM (va_cwSU n x.2.2.2.2.1 (j_good ?_) rfl rfl rfl w6 (hfit.1 maxL w7)) ⟨j_B.blind, va_recv x.2.2.2.2.2.1 I.2.1 hq.1 he, fun U hU hW => ⟨rfl, j_pre x I hU hW⟩⟩ rfl (by rw [List.length_map]; exact hn) I.1.1 rfl (lv_room (j_room hst)) hd ⟨hfit.2.1, hfit.2.2⟩) (fun E h1 ad1 => j_no hx (H := #[]) E h1 ad1 ls) kk
  exact j_mem_cons (ws := [Cond.sameMethod y.cls y.cls y.name y.desc, Cond.superclass own y.cls, Cond.instanceMethod y, Cond.initialized y.cls] ++ (Cond.code y bytes maxL ret :: j_all)) hw (j_mem_cons w1 (j_mem_cons w2 (j_mem_cons w3 (j_mem_cons w4 (j_mem_cons w5 fun _ h => h)))))
/-- a static final int of a class -/
theorem j_gets (x : j_X p l s m args meth c D tyc A own cc nL) {C f dsc : String} {v : Int32} (hd : decode cc pc = .ok (.getstatic idx, 3)) (hZ : va_Z C f dsc (.int v) A s s.heap) (hw : Cond.fieldLink own idx C f dsc ∈ j_all)
    (kk : JJ p l e R s m args below meth c D tyc A n0 ad0 nL Qs (pc + 3) L (.int v :: st) h cells slots) : JJ p l e R s m args below meth c D tyc A n0 ad0 nL Qs pc L st h cells slots := by
  intro ad ls H locs I
  exact va_gets x.1 x.2.1 hZ I.2.2.2.1 x.2.2.2.1 (x.2.2.2.2.1 _ hw) (fun _ h9 => h9) hd (kk ad ls H locs (I.st fun hs => j_ok_cons j_ok_int hs))
end JM
