/-! ===== longs: in locals, sums, constants, as an answer (clean over p33's task) ===== -/
theorem j_L.store2 {ls ls' : Array Slot} {nL : Nat} {ad : Nat → Nat} {L : List (Option Value)} {i : Nat} {v : Value} (h : j_L ls nL ad L) (hi : i + 1 < nL) (hc : j_c1 L i = true)
    (hs : lv_has ls' nL ((i, j_cv ad v) :: (j_lv ad L).filter (fun q => !(q.1 == i) && (!(q.1 == i + 1) && !(q.1 + 1 == i && q.2.category == 2))))) : j_L ls' nL ad ((L.set i (some v)).set (i + 1) none) := by
  refine ⟨hs.1, hs.2.1, by rw [List.length_set, List.length_set]; exact h.2.2.1, fun j w hj => ?_⟩
  by_cases e' : j = i + 1
  · subst e'
    rw [List.getElem?_set_self (by rw [List.length_set, h.2.2.1]; exact hi)] at hj
    cases hj
  · rw [List.getElem?_set_ne (Ne.symm e')] at hj
    by_cases e : j = i
    · subst e
      rw [List.getElem?_set_self (by rw [h.2.2.1]; omega)] at hj
      cases hj
      exact hs.2.2 _ List.mem_cons_self
    · rw [List.getElem?_set_ne (Ne.symm e)] at hj
      refine hs.2.2 (j, j_cv ad w) (List.mem_cons_of_mem _ (List.mem_filter.mpr ⟨j_lv_mem hj, ?_⟩))
      have e1 : (j == i) = false := beq_false_of_ne e
      have e3 : (j == i + 1) = false := beq_false_of_ne e'
      show (!(j == i) && (!(j == i + 1) && !(j + 1 == i && (j_cv ad w).category == 2))) = true
      rw [e1, e3]
      by_cases e2 : j + 1 = i
      · rw [j_cv_cat, j_c1_spec hc e2 hj]
        simp
      · simp [e2]
theorem j_ok_setN {n i : Nat} {L : List (Option Value)} (h : ∀ w, some w ∈ L → j_ok n w) : ∀ w, some w ∈ L.set i none → j_ok n w := by
  intro w hw
  rcases List.mem_or_eq_of_mem_set hw with h1 | h1
  · exact h w h1
  · cases h1
section JL
variable {p : Program} {l : Launch} {e : Env} {R : Room} {s : State} {m : MethodId} {args : Array Value} {below : List Frame} {meth : Method} {c : Code} {D : va_G} {tyc : Nat → ClassId} {A : Nat → Prop} {n0 : Nat} {ad0 : Nat → Nat} {nL : Nat} {Q : State → Prop}
variable {own : String} {cc : ByteArray} {pc : Nat} {L : List (Option Value)} {st : List Value} {h : MH} {cells slots : Nat}
theorem j_lload_n (x : j_X p l s m args meth c D tyc A own cc nL) {k : Fin 4} {v : Int64} (hd : decode cc pc = .ok (.lload_n k, 1)) (hL : L[(k : Nat)]? = some (some (.long v))) (kk : JJ p l e R s m args below meth c D tyc A n0 ad0 nL Q (pc + 1) (L) (.long v :: st) (h) (cells) (slots)) : JJ p l e R s m args below meth c D tyc A n0 ad0 nL Q (pc) (L) (st) (h) (cells) (slots) := by
  intro ad ls H locs I
  exact lv_lload_n x.1 x.2.1 hd rfl (I.1.at hL) (kk ad ls H locs (I.st fun hs => j_ok_cons (I.2.2.2.2.2.2.2 _ (List.mem_of_getElem? hL)) hs))
theorem j_lload (x : j_X p l s m args meth c D tyc A own cc nL) {i : Nat} {v : Int64} (hd : decode cc pc = .ok (.lload i, 2)) (hL : L[i]? = some (some (.long v))) (kk : JJ p l e R s m args below meth c D tyc A n0 ad0 nL Q (pc + 2) (L) (.long v :: st) (h) (cells) (slots)) : JJ p l e R s m args below meth c D tyc A n0 ad0 nL Q (pc) (L) (st) (h) (cells) (slots) := by
  intro ad ls H locs I
  exact lv_lload x.1 x.2.1 hd (I.1.at hL) (kk ad ls H locs (I.st fun hs => j_ok_cons (I.2.2.2.2.2.2.2 _ (List.mem_of_getElem? hL)) hs))
theorem j_lstore_n (x : j_X p l s m args meth c D tyc A own cc nL) {k : Fin 4} {v : Int64} (hd : decode cc pc = .ok (.lstore_n k, 1)) (hn : (k : Nat) + 1 < nL) (hc : j_c1 L (k : Nat) = true) (kk : JJ p l e R s m args below meth c D tyc A n0 ad0 nL Q (pc + 1) ((L.set (k : Nat) (some (.long v))).set ((k : Nat) + 1) none) (st) (h) (cells) (slots)) : JJ p l e R s m args below meth c D tyc A n0 ad0 nL Q (pc) (L) (.long v :: st) (h) (cells) (slots) := by
  intro ad ls H locs I
  exact lv_lstore_n x.1 x.2.1 hd rfl I.1.has hn rfl (fun ls2 hl2 => kk ad ls2 H locs (I.lo j_ok_tl (I.1.store2 hn hc hl2) (j_ok_setN (j_ok_set I.2.2.2.2.2.2.2 (I.2.2.2.2.2.2.1 _ List.mem_cons_self)))))
theorem j_lstore (x : j_X p l s m args meth c D tyc A own cc nL) {i : Nat} {v : Int64} (hd : decode cc pc = .ok (.lstore i, 2)) (hn : i + 1 < nL) (hc : j_c1 L i = true) (kk : JJ p l e R s m args below meth c D tyc A n0 ad0 nL Q (pc + 2) ((L.set i (some (.long v))).set (i + 1) none) (st) (h) (cells) (slots)) : JJ p l e R s m args below meth c D tyc A n0 ad0 nL Q (pc) (L) (.long v :: st) (h) (cells) (slots) := by
  intro ad ls H locs I
  exact lv_lstore x.1 x.2.1 hd I.1.has hn rfl (fun ls2 hl2 => kk ad ls2 H locs (I.lo j_ok_tl (I.1.store2 hn hc hl2) (j_ok_setN (j_ok_set I.2.2.2.2.2.2.2 (I.2.2.2.2.2.2.1 _ List.mem_cons_self)))))
theorem j_ladd (x : j_X p l s m args meth c D tyc A own cc nL) {v w : Int64} (hd : decode cc pc = .ok (.ladd, 1)) (kk : JJ p l e R s m args below meth c D tyc A n0 ad0 nL Q (pc + 1) (L) (.long (v + w) :: st) (h) (cells) (slots)) : JJ p l e R s m args below meth c D tyc A n0 ad0 nL Q (pc) (L) (.long w :: .long v :: st) (h) (cells) (slots) := by
  intro ad ls H locs I
  exact lv_ladd x.1 x.2.1 hd (kk ad ls H locs (I.st fun hs => j_ok_cons j_ok_long (j_ok_tl (j_ok_tl hs))))
theorem j_lmul (x : j_X p l s m args meth c D tyc A own cc nL) {v w : Int64} (hd : decode cc pc = .ok (.lmul, 1)) (kk : JJ p l e R s m args below meth c D tyc A n0 ad0 nL Q (pc + 1) (L) (.long (v * w) :: st) (h) (cells) (slots)) : JJ p l e R s m args below meth c D tyc A n0 ad0 nL Q (pc) (L) (.long w :: .long v :: st) (h) (cells) (slots) := by
  intro ad ls H locs I
  exact lv_lmul x.1 x.2.1 hd (kk ad ls H locs (I.st fun hs => j_ok_cons j_ok_long (j_ok_tl (j_ok_tl hs))))
theorem j_ldc2 (x : j_X p l s m args meth c D tyc A own cc nL) {i : Nat} {v : Int64} (hd : decode cc pc = .ok (.ldc2_w i, 3)) (hw : Cond.constantLong own i v ∈ j_all) (kk : JJ p l e R s m args below meth c D tyc A n0 ad0 nL Q (pc + 3) (L) (.long v :: st) (h) (cells) (slots)) : JJ p l e R s m args below meth c D tyc A n0 ad0 nL Q (pc) (L) (st) (h) (cells) (slots) := by
  intro ad ls H locs I
  exact lv_ldc2 x.1 x.2.1 x.2.2.2.1 (x.2.2.2.2.1 _ hw) hd (kk ad ls H locs (I.st fun hs => j_ok_cons j_ok_long hs))
theorem W_lret {Qc : Array Value → State → Outcome → State → Prop} {free : Addr → Prop} {v : Int64} {H : Heap} {locs : List Loc} (hexec : p.tables.exec = Jvm.exec) (hb : c.code = cc) (hr : meth.sig.returnType = some .long)
    (hq : ∀ t : State, t.heap = H → s.WarmedH t.vm → Qc args s (.returned (some (.long v))) t) (hf : ∀ q ∈ locs, free q.base)
    {ls : Array Slot} (hdg : decode cc pc = .ok (.lreturn, 1)) (hlocks : meth.locks = false := by assumption) : W p l e R s m args below meth c H locs cells slots (MQ below Qc args s cells slots free) (F0 m pc ls [.long v]) := by
  intro T hT X
  obtain ⟨fs, hret, hrun, hended, hW, hframe⟩ := X.leave (v := some (.long v)) (fun z => by rw [hr] at z; cases z)
  have hm' : T.vm.method? m = some meth := X.method'
  refine ⟨T.setFrames fs, ?_, .returned (some (.long v)), hrun, hended, hq _ hT hW, locs, ⟨⟨_, rfl⟩, hW, hframe⟩, hf⟩
  jvm_step X.here [X.here.top, hexec, hb, hdg, hm', hr, narrow]
  (try refine ⟨rfl, ?_⟩); (try refine ⟨rfl, ?_⟩)
  first | (intro acts; rw [hret _ acts rfl rfl rfl]) | rw [hret _ _ rfl rfl rfl]
  exact Steps.refl _
theorem j_lreturn (x : j_X p l s m args meth c D tyc A own cc nL) {mc ms : Nat} {Q : MO → MH → Prop} {v : Int64} (hr : meth.sig.returnType = some .long) (hd : decode cc pc = .ok (.lreturn, 1)) (hc : cells ≤ mc) (hs : slots ≤ ms) (hq : Q (.inl (some (.long v))) h) : JJ p l e R s m args below meth c D tyc A n0 ad0 nL (vx_MQ below (j_Qc D tyc A n0 ad0 Q) (j_XC D tyc A n0 ad0 Q) args s mc ms A) pc L [.long v] h cells slots := by
  intro ad ls H locs I
  refine vx_ret (W.widen hc hs ?_)
  exact W_lret x.1 x.2.1 hr (fun t ht hW => ⟨some (.long v), h, ad, rfl, hq, fun w hw => by cases hw; exact j_ok_long, .of I ht⟩) I.2.2.2.1.2.2 hd x.2.2.2.2.2.2.2.1
end JL
