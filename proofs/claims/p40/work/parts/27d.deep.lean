/-! ===== a call of a static method with a table of handlers, up to eight values left on the stack below its arguments ===== -/
section VXD
variable {p : Program} {l : Launch} {e : Env} {R : Room} {s : State} {m : MethodId} {args : Array Value} {below : List Frame} {meth : Method} {c : Code} {H : Heap} {locs : List Loc} {cells slots : Nat}
variable {y : MethodName} {bytes cc : ByteArray} {maxL nL mc ms n index : Nat} {ret : Option FieldType} {ws : List Cond} {rm : Room} {Pc : Array Value → State → Prop} {Qc : Array Value → State → Outcome → State → Prop} {XC : String → State → State → Prop} {free : Addr → Prop} {Ts : List Cond} {own : String} {As rest : List Value} {g : JFrame}
theorem vx_runSXD {hh : List (Nat × Nat × Nat × Nat)} (S : CallFix p m c cc nL s args Ts own) (hM : vx_Met l y ws rm Pc Qc XC mc ms free) (cw : vx_CSW R s args own index y bytes maxL ret hh ws rm mc ms n) (hD : 16 + (maxL + 11) + rm.locals ≤ R.locals) (hp : PreS s H Pc As)
    (hg : g.method = m) (hn : As.length = n) (hsize : g.locals.size = nL) (hstack : g.stack = As.reverse ++ rest) (hW : 2 * g.monitorRoom + (rest.map fun v => v.category).sum ≤ 16) (hdg : decode cc g.pc = .ok (.invokestatic index, 3)) (hf : cells + mc ≤ R.cells ∧ slots + ms ≤ R.slots) :
    vx_Run p l e R s m args below meth c H locs cells slots mc ms g rest (Qc As.toArray) XC free := by
  obtain ⟨⟨hrc, hrs, hfr, -, hws, hcw⟩, hcode, hini, hy, hlen, hl, hstt⟩ := cw
  have hK : vx_Back l R p e below s args y 3 16 (PreOf R mc ms Pc) (PostOf Qc mc ms free) (vx_Post XC mc ms free) := vx_backW (hh := hh) (bytes := bytes) (maxL := maxL) (ret := ret) hM hp.1 hrc hrs hfr hD hws hcw (fun a' U hW => word_at hW (Or.inl (by first | rfl | simp [Cond.onTables, Cond.keeps, Cond.steady])) hini)
  obtain ⟨hx, hb, hml, ho, -⟩ := S
  intro T hT X
  rcases vx_callSX X hx (hh := hh) (bytes := bytes) (maxL := maxL) (ret := ret) ho hl hstt hini hcode hy hK hg (hsize.trans hml.symm) (argsL := As) (rest := rest) (fun sig h => hn.trans (hlen sig h)) hstack hW (by rw [hb]; exact hdg)
    (fun vm₁ hW₁ => ⟨hf.1, hf.2, hp.2 (T.setVm vm₁) hT hW₁⟩) with ⟨v, vm₁, ⟨U', l2, c2, s2⟩, hW₁, X', ⟨g', mk, t, L, e1, e2, hq, h1, hL, h2, h3⟩, st⟩ | ⟨q, vm₁, ⟨U', l2, c2, s2⟩, hW₁, X', ⟨g', mk, t, L, E, ce, e1, e2, hq, hce, hcv, hcl, h1, hL, h2, h3⟩, st⟩
  · dsimp only [Pt.U, Pt.locs, Pt.cells, Pt.slots] at X' e1 e2 h1 h2 h3 st
    subst h1; subst h2; subst h3
    exact Or.inl ⟨v, (T.setVm vm₁).calling g' mk As.toArray, t, U', L, hT, X', hL, e1, e2, hq, st⟩
  · dsimp only [Pt.U, Pt.locs, Pt.cells, Pt.slots] at X' e1 e2 h1 h2 h3 st hcl
    subst h1; subst h2; subst h3
    exact Or.inr ⟨q, (T.setVm vm₁).calling g' mk As.toArray, t, U', L, E, ce, hT, X', hL, e1, e2, hq, hce, hcv, vx_cls hW₁ hcl, st⟩
end VXD
theorem j_room16 {ad : Nat → Nat} {st : List Value} (h : st.length ≤ 8) : ((st.map (j_cv ad)).map fun v => v.category).sum ≤ 16 := by
  have key : ∀ (st : List Value), ((st.map (j_cv ad)).map fun v => v.category).sum ≤ 2 * st.length := by
    intro st
    induction st with
    | nil => simp
    | cons v st ih =>
      simp only [List.map_cons, List.sum_cons, List.length_cons]
      rcases lv_cat (j_cv ad v) with h | h <;> omega
  have := key st
  omega
section JDeep
variable {p : Program} {l : Launch} {e : Env} {R : Room} {s : State} {m : MethodId} {args : Array Value} {below : List Frame} {meth : Method} {c : Code} {D : va_G} {tyc : Nat → ClassId} {A : Nat → Prop} {n0 : Nat} {ad0 : Nat → Nat} {nL : Nat} {Qs : State → Prop}
variable {own : String} {cc : ByteArray} {pc : Nat} {L : List (Option Value)} {st : List Value} {h : MH} {cells slots d1 mc1 ms1 maxL idx n : Nat} {y : MethodName} {bytes : ByteArray} {ret : Option FieldType} {Q1 : MO → MH → Prop} {as st0 : List Value}
theorem j_callSHD (x : j_X p l s m args meth c D tyc A own cc nL) {hh : List (Nat × Nat × Nat × Nat)} (hd : decode cc pc = .ok (.invokestatic idx, 3)) (hcon : ConH d1 mc1 ms1 y bytes maxL ret hh as h Q1) (hm : j_mH y bytes maxL ret hh n) (hm2 : maxL ≤ 32) (hw : Cond.methodLink own idx y ∈ j_all)
    (hn : as.length = n) (hst : st.length ≤ 8) (hfit : j_fit R d1 mc1 ms1 cells slots) (h0 : st0 = as.reverse ++ st) (hx : ∀ E k, ¬ Q1 (.inr E) k)
    (kk : ∀ (v : Option Value) (h1 : MH), Q1 (.inl v) h1 → JJ p l e R s m args below meth c D tyc A n0 ad0 nL Qs (pc + 3) L (v.toList ++ st) h1 (cells + mc1) (slots + ms1)) : JJ p l e R s m args below meth c D tyc A n0 ad0 nL Qs pc L st0 h cells slots := by
  subst h0
  intro ad ls H locs I
  obtain ⟨w1, w3, w4, w5, w6⟩ := hm
  have e0 : (as.reverse ++ st).map (j_cv ad) = (as.map (j_cv ad)).reverse ++ st.map (j_cv ad) := by rw [List.map_append, List.map_reverse]
  have hargs : ∀ v ∈ as, j_ok h.1 v := fun v hv => I.2.2.2.2.2.2.1 v (List.mem_append_left _ (List.mem_reverse.mpr hv))
  have hM := hcon l D tyc ad H.size x.2.2.2.2.2.2.2.2.1 I.2.2.2.2.2.1 hargs
  have hD : 16 + (maxL + 11) + (j_rm d1 mc1 ms1).locals ≤ R.locals := by have := (hfit.1 (maxL + 8) (by omega)).2; omega
  have h16 : 2 * (F0 m pc ls ((as.map (j_cv ad)).reverse ++ st.map (j_cv ad))).monitorRoom + ((st.map (j_cv ad)).map fun v => v.category).sum ≤ 16 := by
    have := j_room16 (ad := ad) hst
    show 2 * 0 + _ ≤ 16
    omega
  rw [e0]
  refine j_run (a := (as.map (j_cv ad)).toArray) x I (vx_runSXD (As := as.map (j_cv ad)) ⟨x.1, x.2.1, x.2.2.1, x.2.2.2.1, x.2.2.2.2.1⟩ hM (vx_cwSW n x.2.2.2.2.1 (j_good ?_) rfl rfl rfl w5 (hfit.1 maxL w6)) hD ⟨j_B.blind, fun U hU hW => ⟨rfl, j_pre x I hU hW⟩⟩ rfl (by rw [List.length_map]; exact hn) I.1.1 rfl h16 hd ⟨hfit.2.1, hfit.2.2⟩) (fun E h1 ad1 => j_no hx (H := #[]) E h1 ad1 ls) kk
  exact j_mem_cons (ws := [Cond.static y, Cond.initialized y.cls] ++ (Cond.codeWith y bytes maxL ret hh :: j_all)) hw (j_mem_cons w1 (j_mem_cons w3 (j_mem_cons w4 fun _ h => h)))
end JDeep
