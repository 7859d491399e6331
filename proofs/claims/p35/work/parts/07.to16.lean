section
theorem dJ5_init_d00df_0 : decode cJ5_init_d00df 0 = .ok (.aload_n 0, 1) := by decide +kernel
theorem dJ5_init_d00df_1 : decode cJ5_init_d00df 1 = .ok (.invokespecial 3, 3) := by decide +kernel
theorem dJ5_init_d00df_4 : decode cJ5_init_d00df 4 = .ok (.getstatic 18, 3) := by decide +kernel
theorem dJ5_init_d00df_7 : decode cJ5_init_d00df 7 = .ok (.ifCond .eq 18, 3) := by decide +kernel
theorem dJ5_init_d00df_10 : decode cJ5_init_d00df 10 = .ok (.aload_n 0, 1) := by decide +kernel
theorem dJ5_init_d00df_11 : decode cJ5_init_d00df 11 = .ok (.iload_n 1, 1) := by decide +kernel
theorem dJ5_init_d00df_12 : decode cJ5_init_d00df 12 = .ok (.newarray .byte, 2) := by decide +kernel
theorem dJ5_init_d00df_14 : decode cJ5_init_d00df 14 = .ok (.putfield 15, 3) := by decide +kernel
theorem dJ5_init_d00df_17 : decode cJ5_init_d00df 17 = .ok (.aload_n 0, 1) := by decide +kernel
theorem dJ5_init_d00df_18 : decode cJ5_init_d00df 18 = .ok (.iconst 0, 1) := by decide +kernel
theorem dJ5_init_d00df_19 : decode cJ5_init_d00df 19 = .ok (.putfield 22, 3) := by decide +kernel
theorem dJ5_init_d00df_22 : decode cJ5_init_d00df 22 = .ok (.goto 16, 3) := by decide +kernel
theorem dJ5_init_d00df_38 : decode cJ5_init_d00df 38 = .ok (.return_, 1) := by decide +kernel
theorem dJ5_length_8abf5_0 : decode cJ5_length_8abf5 0 = .ok (.aload_n 0, 1) := by decide +kernel
theorem dJ5_length_8abf5_1 : decode cJ5_length_8abf5 1 = .ok (.getfield 79, 3) := by decide +kernel
theorem dJ5_length_8abf5_4 : decode cJ5_length_8abf5 4 = .ok (.ireturn, 1) := by decide +kernel
theorem dJ4_init_da8c8_0 : decode cJ4_init_da8c8 0 = .ok (.aload_n 0, 1) := by decide +kernel
theorem dJ4_init_da8c8_1 : decode cJ4_init_da8c8 1 = .ok (.bipush 16, 2) := by decide +kernel
theorem dJ4_init_da8c8_3 : decode cJ4_init_da8c8 3 = .ok (.invokespecial 1, 3) := by decide +kernel
theorem dJ4_init_da8c8_6 : decode cJ4_init_da8c8 6 = .ok (.return_, 1) := by decide +kernel
theorem dJ4_length_8abf5_0 : decode cJ4_length_8abf5 0 = .ok (.aload_n 0, 1) := by decide +kernel
theorem dJ4_length_8abf5_1 : decode cJ4_length_8abf5 1 = .ok (.invokespecial 343, 3) := by decide +kernel
theorem dJ4_length_8abf5_4 : decode cJ4_length_8abf5 4 = .ok (.ireturn, 1) := by decide +kernel
end

section
/-! ===== BEGIN a constructor that throws (launches without stack traces) ===== -/
section VXIA
variable {p : Program} {l : Launch} {e : Env} {R : Room} {s : State} {m : MethodId} {args : Array Value} {below : List Frame} {meth : Method} {c : Code} {T : State} {locs : List Loc} {cells slots : Nat}
theorem vx_callI (X : Stand p l e R s m args below meth c T locs cells slots) (hexec : p.tables.exec = Jvm.exec) {own : String} {index : Nat} {y : MethodName} {bytes : ByteArray} {maxL : Nat}
    (hown : s.vm.findClass own = some m.cls) (hy1 : y.name = "<init>") (hlink : (Cond.methodLink own index y).before args s = true) (hinst : (Cond.instanceMethod y).before args s = true)
    (hcode : (Cond.code y bytes maxL none).before args s = true) (hy : y.cls ≠ "java/lang/invoke/MethodHandle" ∧ y.cls ≠ "java/lang/invoke/VarHandle")
    {W9 : Nat} {Pre : Pt → Array Value → Prop} {Post : Pt → Array Value → Option Value → Pt → Prop} {PostX : Pt → Array Value → Addr → Pt → Prop} (hK : vx_Back l R p e below s args y 3 W9 Pre Post PostX)
    {g : JFrame} (hg : g.method = m) (hsize : g.locals.size = c.maxLocals) {a : Addr} {argsL rest : List Value} (hlen : ∀ sig, parseMethodDescriptor y.desc = some sig → argsL.length = sig.parameters.length)
    (hstack : g.stack = argsL.reverse ++ .ref a :: rest) (hW : 2 * g.monitorRoom + (rest.map fun v => v.category).sum ≤ W9) (hdg : decode c.code g.pc = .ok (.invokespecial index, 3))
    (hpre : ∀ vm₁, s.WarmedH vm₁ → Pre ⟨T.setVm vm₁, locs, cells, slots⟩ (Value.ref a :: argsL).toArray) :
    (∃ (v : Option Value) (vm₁ : Vm) (B : Pt), s.WarmedH vm₁ ∧ Stand p l e R s m args below meth c B.U B.locs B.cells B.slots ∧ Post ⟨T.setVm vm₁, locs, cells, slots⟩ (Value.ref a :: argsL).toArray v B ∧
      ∀ target, Steps p.tables e below (B.U.setTop { g with pc := g.pc + 3, stack := v.toList ++ rest }) target → Steps p.tables e below (T.setTop g) target) ∨
    (∃ (q : Addr) (vm₁ : Vm) (B : Pt), s.WarmedH vm₁ ∧ Stand p l e R s m args below meth c B.U B.locs B.cells B.slots ∧ PostX ⟨T.setVm vm₁, locs, cells, slots⟩ (Value.ref a :: argsL).toArray q B ∧
      Steps p.tables e below (T.setTop g) ((B.U.setTop { g with stack := rest }).pushFrame (.throwing q))) := by
  subst hg
  have hpl : e.platform.magicAccessors = ({} : Platform).magicAccessors := by rw [X.admits.platform]
  obtain ⟨mk, methM, cM, kP, vm₁, hnamed, hmethM, hcodeM, -, hlocalsM, -, hkP, -, hW₁, hstep₁⟩ := Steps.initColdArgs (e := e) X.here hexec X.warmed hpl hown hy1 hy hlink hinst hcode (f := g) rfl hlen hstack hdg
  have X₁ := X.noted hW₁
  rcases hK g.method meth c ⟨T.setVm vm₁, locs, cells, slots⟩ { g with stack := rest } (.invokespecial index) mk (Value.ref a :: argsL).toArray X₁ rfl hsize hdg hW (X₁.named hnamed) (hpre vm₁ X₁.warmed) with ⟨v, B, X', hpost, hsteps⟩ | ⟨q, B, X', hpost, hsteps⟩
  · exact Or.inl ⟨v, vm₁, B, X₁.warmed, X', hpost, fun target h => hstep₁ _ fun acts => by rw [doInvoke_state]; exact hsteps.trans h⟩
  · exact Or.inr ⟨q, vm₁, B, X₁.warmed, X', hpost, hstep₁ _ fun acts => by rw [doInvoke_state]; exact hsteps⟩
end VXIA
section VXIB
variable {p : Program} {l : Launch} {e : Env} {R : Room} {s : State} {m : MethodId} {args : Array Value} {below : List Frame} {meth : Method} {c : Code} {H : Heap} {locs : List Loc} {cells slots : Nat}
variable {y : MethodName} {bytes cc : ByteArray} {maxL nL mc ms n index : Nat} {ret : Option FieldType} {ws : List Cond} {rm : Room} {Pc : Array Value → State → Prop} {Qc : Array Value → State → Outcome → State → Prop} {XC : String → State → State → Prop} {free : Addr → Prop} {Ts : List Cond} {own C : String} {b : Addr} {As rest : List Value} {g : JFrame}
theorem vx_runI (S : CallFix p m c cc nL s args Ts own) (hM : vx_Met l y ws rm Pc Qc XC mc ms free) (cw : CallB R s args own index y bytes maxL none ws rm mc ms n ∧ y.name = "<init>" ∧ (Cond.instanceMethod y).before args s = true) (hp : PreS s H Pc (.ref b :: As))
    (hg : g.method = m) (hn : As.length = n) (hsize : g.locals.size = nL) (hstack : g.stack = As.reverse ++ .ref b :: rest) (hW : 2 * g.monitorRoom + (rest.map fun v => v.category).sum ≤ 8) (hdg : decode cc g.pc = .ok (.invokespecial index, 3)) (hf : cells + mc ≤ R.cells ∧ slots + ms ≤ R.slots) :
    vx_Run p l e R s m args below meth c H locs cells slots mc ms g rest (Qc (Value.ref b :: As).toArray) XC free := by
  have hK : vx_Back l R p e below s args y 3 8 (PreOf R mc ms Pc) (PostOf Qc mc ms free) (vx_Post XC mc ms free) := vx_callBack cw.1 hM hp.1
  obtain ⟨⟨-, -, -, -, -, -, hcode, -, hy, hlen, hl⟩, hy1, hin⟩ := cw
  obtain ⟨hx, hb, hml, ho, -⟩ := S
  have hPc := hp.2
  intro T hT X
  rcases vx_callI X hx (bytes := bytes) (maxL := maxL) ho hy1 hl hin hcode hy hK hg (hsize.trans hml.symm) (a := b) (argsL := As) (rest := rest) (fun sig h => hn.trans (hlen sig h)) hstack hW (by rw [hb]; exact hdg)
    (fun vm₁ hW₁ => ⟨hf.1, hf.2, hPc (T.setVm vm₁) hT hW₁⟩) with ⟨v, vm₁, ⟨U', l2, c2, s2⟩, hW₁, X', ⟨g', mk, t, L, e1, e2, hq, h1, hL, h2, h3⟩, st⟩ | ⟨q, vm₁, ⟨U', l2, c2, s2⟩, hW₁, X', ⟨g', mk, t, L, E, ce, e1, e2, hq, hce, hcv, hcl, h1, hL, h2, h3⟩, st⟩
  · dsimp only [Pt.U, Pt.locs, Pt.cells, Pt.slots] at X' e1 e2 h1 h2 h3 st
    subst h1; subst h2; subst h3
    exact Or.inl ⟨v, (T.setVm vm₁).calling g' mk (Value.ref b :: As).toArray, t, U', L, hT, X', hL, e1, e2, hq, st⟩
  · dsimp only [Pt.U, Pt.locs, Pt.cells, Pt.slots] at X' e1 e2 h1 h2 h3 st hcl
    subst h1; subst h2; subst h3
    exact Or.inr ⟨q, (T.setVm vm₁).calling g' mk (Value.ref b :: As).toArray, t, U', L, E, ce, hT, X', hL, e1, e2, hq, hce, hcv, vx_cls hW₁ hcl, st⟩
end VXIB
/-! ===== END ===== -/
/-! ===== BEGIN a private constructor of a nest mate that throws ===== -/
section VXIC
variable {p : Program} {l : Launch} {e : Env} {R : Room} {s : State} {m : MethodId} {args : Array Value} {below : List Frame} {meth : Method} {c : Code} {T : State} {locs : List Loc} {cells slots : Nat}
theorem vx_callIN (X : Stand p l e R s m args below meth c T locs cells slots) (hexec : p.tables.exec = Jvm.exec) {own : String} {index : Nat} {host : String} {y : MethodName} {bytes : ByteArray} {maxL : Nat}
    (hown : s.vm.findClass own = some m.cls) (hy1 : y.name = "<init>") (hlink : (Cond.methodLinkNest own index y host).before args s = true) (hinst : (Cond.instanceMethod y).before args s = true)
    (hcode : (Cond.code y bytes maxL none).before args s = true) (hy : y.cls ≠ "java/lang/invoke/MethodHandle" ∧ y.cls ≠ "java/lang/invoke/VarHandle")
    {W9 : Nat} {Pre : Pt → Array Value → Prop} {Post : Pt → Array Value → Option Value → Pt → Prop} {PostX : Pt → Array Value → Addr → Pt → Prop} (hK : vx_Back l R p e below s args y 3 W9 Pre Post PostX)
    {g : JFrame} (hg : g.method = m) (hsize : g.locals.size = c.maxLocals) {a : Addr} {argsL rest : List Value} (hlen : ∀ sig, parseMethodDescriptor y.desc = some sig → argsL.length = sig.parameters.length)
    (hstack : g.stack = argsL.reverse ++ .ref a :: rest) (hW : 2 * g.monitorRoom + (rest.map fun v => v.category).sum ≤ W9) (hdg : decode c.code g.pc = .ok (.invokespecial index, 3))
    (hpre : ∀ vm₁, s.WarmedH vm₁ → Pre ⟨T.setVm vm₁, locs, cells, slots⟩ (Value.ref a :: argsL).toArray) :
    (∃ (v : Option Value) (vm₁ : Vm) (B : Pt), s.WarmedH vm₁ ∧ Stand p l e R s m args below meth c B.U B.locs B.cells B.slots ∧ Post ⟨T.setVm vm₁, locs, cells, slots⟩ (Value.ref a :: argsL).toArray v B ∧
      ∀ target, Steps p.tables e below (B.U.setTop { g with pc := g.pc + 3, stack := v.toList ++ rest }) target → Steps p.tables e below (T.setTop g) target) ∨
    (∃ (q : Addr) (vm₁ : Vm) (B : Pt), s.WarmedH vm₁ ∧ Stand p l e R s m args below meth c B.U B.locs B.cells B.slots ∧ PostX ⟨T.setVm vm₁, locs, cells, slots⟩ (Value.ref a :: argsL).toArray q B ∧
      Steps p.tables e below (T.setTop g) ((B.U.setTop { g with stack := rest }).pushFrame (.throwing q))) := by
  subst hg
  have hpl : e.platform.magicAccessors = ({} : Platform).magicAccessors := by rw [X.admits.platform]
  obtain ⟨mk, methM, cM, kP, vm₁, hnamed, hmethM, hcodeM, -, hlocalsM, -, hkP, -, hW₁, hstep₁⟩ := Steps.initColdArgsNest (e := e) X.here hexec X.warmed hpl hown hy1 hy hlink hinst hcode (f := g) rfl hlen hstack hdg
  have X₁ := X.noted hW₁
  rcases hK g.method meth c ⟨T.setVm vm₁, locs, cells, slots⟩ { g with stack := rest } (.invokespecial index) mk (Value.ref a :: argsL).toArray X₁ rfl hsize hdg hW (X₁.named hnamed) (hpre vm₁ X₁.warmed) with ⟨v, B, X', hpost, hsteps⟩ | ⟨q, B, X', hpost, hsteps⟩
  · exact Or.inl ⟨v, vm₁, B, X₁.warmed, X', hpost, fun target h => hstep₁ _ fun acts => by rw [doInvoke_state]; exact hsteps.trans h⟩
  · exact Or.inr ⟨q, vm₁, B, X₁.warmed, X', hpost, hstep₁ _ fun acts => by rw [doInvoke_state]; exact hsteps⟩
end VXIC
section VXID
variable {p : Program} {l : Launch} {e : Env} {R : Room} {s : State} {m : MethodId} {args : Array Value} {below : List Frame} {meth : Method} {c : Code} {H : Heap} {locs : List Loc} {cells slots : Nat}
theorem vx_runIN {y : MethodName} {bytes cc : ByteArray} {maxL nL mc ms n index : Nat} {ws : List Cond} {rm : Room} {Pc : Array Value → State → Prop} {Qc : Array Value → State → Outcome → State → Prop} {XC : String → State → State → Prop} {free : Addr → Prop} {Ts : List Cond} {own host : String} {b : Addr} {As rest : List Value} {g : JFrame}
    (S : CallFix p m c cc nL s args Ts own) (hM : vx_Met l y ws rm Pc Qc XC mc ms free) (cw : va_CN R s args own index y host bytes maxL none ws rm mc ms n ∧ y.name = "<init>" ∧ (Cond.instanceMethod y).before args s = true) (hp : PreS s H Pc (.ref b :: As))
    (hg : g.method = m) (hn : As.length = n) (hsize : g.locals.size = nL) (hstack : g.stack = As.reverse ++ .ref b :: rest) (hW : 2 * g.monitorRoom + (rest.map fun v => v.category).sum ≤ 8) (hdg : decode cc g.pc = .ok (.invokespecial index, 3)) (hf : cells + mc ≤ R.cells ∧ slots + ms ≤ R.slots) :
    vx_Run p l e R s m args below meth c H locs cells slots mc ms g rest (Qc (Value.ref b :: As).toArray) XC free := by
  obtain ⟨⟨⟨hrc, hrs, hfr, hlo, hws, hcw⟩, hcode, hini, hy, hlen, hl⟩, hx1, hx2⟩ := cw
  have hK : vx_Back l R p e below s args y 3 8 (PreOf R mc ms Pc) (PostOf Qc mc ms free) (vx_Post XC mc ms free) := vx_back (bytes := bytes) (maxL := maxL) (ret := none) hM hp.1 hrc hrs hfr hlo hws hcw (fun a' U hW => word_at hW (Or.inl (by first | rfl | simp [Cond.onTables, Cond.keeps, Cond.steady])) hini)
  obtain ⟨hx, hb, hml, ho, -⟩ := S
  have hPc := hp.2
  intro T hT X
  rcases vx_callIN X hx (bytes := bytes) (maxL := maxL) ho hx1 hl hx2 hcode hy hK hg (hsize.trans hml.symm) (a := b) (argsL := As) (rest := rest) (fun sig h => hn.trans (hlen sig h)) hstack hW (by rw [hb]; exact hdg)
    (fun vm₁ hW₁ => ⟨hf.1, hf.2, hPc (T.setVm vm₁) hT hW₁⟩) with ⟨v, vm₁, ⟨U', l2, c2, s2⟩, hW₁, X', ⟨g', mk, t, L, e1, e2, hq, h1, hL, h2, h3⟩, st⟩ | ⟨q, vm₁, ⟨U', l2, c2, s2⟩, hW₁, X', ⟨g', mk, t, L, E, ce, e1, e2, hq, hce, hcv, hcl, h1, hL, h2, h3⟩, st⟩
  · dsimp only [Pt.U, Pt.locs, Pt.cells, Pt.slots] at X' e1 e2 h1 h2 h3 st
    subst h1; subst h2; subst h3
    exact Or.inl ⟨v, (T.setVm vm₁).calling g' mk (Value.ref b :: As).toArray, t, U', L, hT, X', hL, e1, e2, hq, st⟩
  · dsimp only [Pt.U, Pt.locs, Pt.cells, Pt.slots] at X' e1 e2 h1 h2 h3 st hcl
    subst h1; subst h2; subst h3
    exact Or.inr ⟨q, (T.setVm vm₁).calling g' mk (Value.ref b :: As).toArray, t, U', L, E, ce, hT, X', hL, e1, e2, hq, hce, hcv, vx_cls hW₁ hcl, st⟩
end VXID
/-! ===== END ===== -/
/-! ===== BEGIN super.m(..) that may throw (follows va_callSU, va_runSU) ===== -/
section
variable {p : Program} {l : Launch} {e : Env} {R : Room} {s : State} {m : MethodId} {args : Array Value} {below : List Frame} {meth : Method} {c : Code} {H : Heap} {locs : List Loc} {cells slots : Nat}
theorem vx_callSU {T : State} {locs : List Loc} {cells slots : Nat} (X : Stand p l e R s m args below meth c T locs cells slots) (hexec : p.tables.exec = Jvm.exec) {own : String} {index : Nat} {y : MethodName} {bytes : ByteArray} {maxL : Nat} {ret : Option FieldType}
    (hown : s.vm.findClass own = some m.cls) (hlink : (Cond.methodLink own index y).before args s = true) (hsame : (Cond.sameMethod y.cls y.cls y.name y.desc).before args s = true) (hsup : (Cond.superclass own y.cls).before args s = true)
    (hinst : (Cond.instanceMethod y).before args s = true) (hcode : (Cond.code y bytes maxL ret).before args s = true) (hno : y.name ≠ "<init>")
    {W : Nat} {Pre : Pt → Array Value → Prop} {Post : Pt → Array Value → Option Value → Pt → Prop} {PostX : Pt → Array Value → Addr → Pt → Prop} (hK : vx_Back l R p e below s args y 3 W Pre Post PostX)
    {b : Addr} {cellB : Cell} {kB : Class} (hcell : T.heap[b]? = some cellB) (hobj : cellB.vm.isStatics = false) (hkB : s.vm.classes[cellB.cls]? = some kB)
    {g : JFrame} (hg : g.method = m) (hsize : g.locals.size = c.maxLocals) {argsL rest : List Value} (hlen : ∀ sig, parseMethodDescriptor y.desc = some sig → argsL.length = sig.parameters.length)
    (hstack : g.stack = argsL.reverse ++ .ref b :: rest) (hW : 2 * g.monitorRoom + (rest.map fun v => v.category).sum ≤ W) (hdg : decode c.code g.pc = .ok (.invokespecial index, 3))
    (hpre : ∀ vm₁, s.WarmedH vm₁ → Pre ⟨T.setVm vm₁, locs, cells, slots⟩ (Value.ref b :: argsL).toArray) :
    (∃ (v : Option Value) (vm₁ : Vm) (B : Pt), s.WarmedH vm₁ ∧ Stand p l e R s m args below meth c B.U B.locs B.cells B.slots ∧ Post ⟨T.setVm vm₁, locs, cells, slots⟩ (Value.ref b :: argsL).toArray v B ∧
      ∀ target, Steps p.tables e below (B.U.setTop { g with pc := g.pc + 3, stack := v.toList ++ rest }) target → Steps p.tables e below (T.setTop g) target) ∨
    (∃ (q : Addr) (vm₁ : Vm) (B : Pt), s.WarmedH vm₁ ∧ Stand p l e R s m args below meth c B.U B.locs B.cells B.slots ∧ PostX ⟨T.setVm vm₁, locs, cells, slots⟩ (Value.ref b :: argsL).toArray q B ∧
      Steps p.tables e below (T.setTop g) ((B.U.setTop { g with stack := rest }).pushFrame (.throwing q))) := by
  obtain ⟨mk, methM, hnamed, hmethM, hstM, habM⟩ := Cond.instanceMethod_spec hinst
  obtain ⟨methM', cM, hmethM', -, -, -, -, -, -, hsigM⟩ := Cond.code_spec hnamed hcode
  cases hmethM.symm.trans hmethM'
  obtain ⟨ps, dk, kp, hps, hdk, hkp, hsuper, -, -, hnid⟩ := Cond.superclass_spec hown hsup
  have hn : s.methodNamed? ⟨y.cls, y.name, y.desc⟩ = some mk := hnamed
  have hpm : ps = mk.cls := Option.some.inj (hps.symm.trans (findClass_of_methodNamed hnamed))
  have hsub : s.vm.isSubclass ps mk.cls = true := by rw [hpm]; simp [Vm.isSubclass, Vm.isSubclassAux]
  obtain ⟨vm₁, X₁, hstep₁⟩ := X.invokespecialUp hexec hown hlink hsame hn hmethM hstM habM hno hdk hnid hps hsuper hsub (a := b) (cell := cellB) hcell
    (fun z h => by rw [h] at hobj; cases hobj) hkB (g := g) hg (argsL := argsL) (rest := rest) (hlen _ hsigM) hstack hdg
  rcases hK m meth c ⟨T.setVm vm₁, locs, cells, slots⟩ { g with stack := rest } (.invokespecial index) mk (Value.ref b :: argsL).toArray X₁ hg hsize hdg hW (X₁.named hnamed) (hpre vm₁ X₁.warmed) with ⟨v, B, X', hpost, hsteps⟩ | ⟨q, B, X', hpost, hsteps⟩
  · exact Or.inl ⟨v, vm₁, B, X₁.warmed, X', hpost, fun target h => hstep₁ _ (by rw [doInvoke_state]; exact hsteps.trans h)⟩
  · exact Or.inr ⟨q, vm₁, B, X₁.warmed, X', hpost, hstep₁ _ (by rw [doInvoke_state]; exact hsteps)⟩
theorem vx_runSU {y : MethodName} {bytes cc : ByteArray} {maxL nL mc ms n index : Nat} {ret : Option FieldType} {ws : List Cond} {rm : Room} {Pc : Array Value → State → Prop} {Qc : Array Value → State → Outcome → State → Prop} {XC : String → State → State → Prop} {free : Addr → Prop} {Ts : List Cond} {own C : String} {cC : ClassId} {b : Addr} {As rest : List Value} {g : JFrame}
    (hat : ClassAt s C cC) (S : CallFix p m c cc nL s args Ts own) (hM : vx_Met l y ws rm Pc Qc XC mc ms free) (cw : va_CS R s args own index y bytes maxL ret ws rm mc ms n) (hp : PreV s H C b Pc As)
    (hg : g.method = m) (hn : As.length = n) (hsize : g.locals.size = nL) (hstack : g.stack = As.reverse ++ .ref b :: rest) (hW : 2 * g.monitorRoom + (rest.map fun v => v.category).sum ≤ 8) (hdg : decode cc g.pc = .ok (.invokespecial index, 3)) (hf : cells + mc ≤ R.cells ∧ slots + ms ≤ R.slots) :
    vx_Run p l e R s m args below meth c H locs cells slots mc ms g rest (Qc (Value.ref b :: As).toArray) XC free := by
  obtain ⟨⟨hrc, hrs, hfr, hlo, hws, hcw⟩, hl1, hl2, hl3, hl4, hini, hcode, hno, hlen⟩ := cw
  have hK : vx_Back l R p e below s args y 3 8 (PreOf R mc ms Pc) (PostOf Qc mc ms free) (vx_Post XC mc ms free) := vx_back (bytes := bytes) (maxL := maxL) (ret := ret) hM hp.1 hrc hrs hfr hlo hws hcw (fun a' U hW => word_at hW (Or.inl (by first | rfl | simp [Cond.onTables, Cond.keeps, Cond.steady])) hini)
  obtain ⟨hx, hb, hml, ho, -⟩ := S
  obtain ⟨-, ⟨cellB, hcB, hoB, hclB⟩, hPc⟩ := hp
  obtain ⟨hfc, kB, hkB, -⟩ := hat
  cases hfc.symm.trans hclB
  intro T hT X
  rcases vx_callSU X hx (bytes := bytes) (maxL := maxL) (ret := ret) ho hl1 hl2 hl3 hl4 hcode hno hK (by rw [hT]; exact hcB) hoB hkB hg (hsize.trans hml.symm) (argsL := As) (rest := rest) (fun sig h => hn.trans (hlen sig h)) hstack hW (by rw [hb]; exact hdg)
    (fun vm₁ hW₁ => ⟨hf.1, hf.2, hPc (T.setVm vm₁) hT hW₁⟩) with ⟨v, vm₁, ⟨U', l2, c2, s2⟩, hW₁, X', ⟨g', mk, t, L, e1, e2, hq, h1, hL, h2, h3⟩, st⟩ | ⟨q, vm₁, ⟨U', l2, c2, s2⟩, hW₁, X', ⟨g', mk, t, L, E, ce, e1, e2, hq, hce, hcv, hcl, h1, hL, h2, h3⟩, st⟩
  · dsimp only [Pt.U, Pt.locs, Pt.cells, Pt.slots] at X' e1 e2 h1 h2 h3 st
    subst h1; subst h2; subst h3
    exact Or.inl ⟨v, (T.setVm vm₁).calling g' mk (Value.ref b :: As).toArray, t, U', L, hT, X', hL, e1, e2, hq, st⟩
  · dsimp only [Pt.U, Pt.locs, Pt.cells, Pt.slots] at X' e1 e2 h1 h2 h3 st hcl
    subst h1; subst h2; subst h3
    exact Or.inr ⟨q, (T.setVm vm₁).calling g' mk (Value.ref b :: As).toArray, t, U', L, E, ce, hT, X', hL, e1, e2, hq, hce, hcv, vx_cls hW₁ hcl, st⟩
end
/-! ===== END ===== -/
/-! ===== BEGIN a private method of a nest mate that may throw (follows va_callVN, va_callSN, va_runVN, va_runSN) ===== -/
section
variable {p : Program} {l : Launch} {e : Env} {R : Room} {s : State} {m : MethodId} {args : Array Value} {below : List Frame} {meth : Method} {c : Code} {H : Heap} {locs : List Loc} {cells slots : Nat}
variable {T : State}
theorem vx_callVN (X : Stand p l e R s m args below meth c T locs cells slots) (hexec : p.tables.exec = Jvm.exec) {own C : String} {index : Nat} {host : String} {y : MethodName} {bytes : ByteArray} {maxL : Nat} {ret : Option FieldType}
    (hown : s.vm.findClass own = some m.cls) (hlink : (Cond.methodLinkNest own index y host).before args s = true) (hinst : (Cond.instanceMethod y).before args s = true) (hsel : (Cond.selects C y y).before args s = true)
    (hcode : (Cond.code y bytes maxL ret).before args s = true) (hy : y.cls ≠ "java/lang/invoke/MethodHandle" ∧ y.cls ≠ "java/lang/invoke/VarHandle")
    {W : Nat} {Pre : Pt → Array Value → Prop} {Post : Pt → Array Value → Option Value → Pt → Prop} {PostX : Pt → Array Value → Addr → Pt → Prop} (hK : vx_Back l R p e below s args y 3 W Pre Post PostX)
    {b : Addr} {cellB : Cell} (hcell : T.heap[b]? = some cellB) (hobj : cellB.vm.isStatics = false) (hcls : s.vm.findClass C = some cellB.cls)
    {g : JFrame} (hg : g.method = m) (hsize : g.locals.size = c.maxLocals) {argsL rest : List Value} (hlen : ∀ sig, parseMethodDescriptor y.desc = some sig → argsL.length = sig.parameters.length)
    (hstack : g.stack = argsL.reverse ++ .ref b :: rest) (hW : 2 * g.monitorRoom + (rest.map fun v => v.category).sum ≤ W) (hdg : decode c.code g.pc = .ok (.invokevirtual index, 3))
    (hpre : ∀ vm₁, s.WarmedH vm₁ → Pre ⟨T.setVm vm₁, locs, cells, slots⟩ (Value.ref b :: argsL).toArray) :
    (∃ (v : Option Value) (vm₁ : Vm) (B : Pt), s.WarmedH vm₁ ∧ Stand p l e R s m args below meth c B.U B.locs B.cells B.slots ∧ Post ⟨T.setVm vm₁, locs, cells, slots⟩ (Value.ref b :: argsL).toArray v B ∧
      ∀ target, Steps p.tables e below (B.U.setTop { g with pc := g.pc + 3, stack := v.toList ++ rest }) target → Steps p.tables e below (T.setTop g) target) ∨
    (∃ (q : Addr) (vm₁ : Vm) (B : Pt), s.WarmedH vm₁ ∧ Stand p l e R s m args below meth c B.U B.locs B.cells B.slots ∧ PostX ⟨T.setVm vm₁, locs, cells, slots⟩ (Value.ref b :: argsL).toArray q B ∧
      Steps p.tables e below (T.setTop g) ((B.U.setTop { g with stack := rest }).pushFrame (.throwing q))) := by
  obtain ⟨mk, methM, hnamed, hmethM, hstM, habM⟩ := Cond.instanceMethod_spec hinst
  obtain ⟨methM', cM, hmethM', -, -, -, -, -, -, hsigM⟩ := Cond.code_spec hnamed hcode
  cases hmethM.symm.trans hmethM'
  obtain ⟨c2, r2, m2, q1, q2, q3, q4, kP, hkP, hkPi⟩ := Cond.selects_spec hsel
  cases hcls.symm.trans q1
  cases (State.methodFound?_of_named hnamed hy).symm.trans q2
  cases hnamed.symm.trans q3
  have hselP : selectMethod e.platform s.vm cellB.cls mk = .method mk := by rw [Launch.admits_selectMethod X.admits]; exact q4
  obtain ⟨vm₁, X₁, hstep₁⟩ := X.invokevirtualNest hexec hown hlink hnamed hmethM hstM hkP hkPi hy (a := b) (cell := cellB) hcell
    (fun z h => by rw [h] at hobj; cases hobj) hselP hmethM habM hkP hkPi (g := g) hg (argsL := argsL) (rest := rest) (hlen _ hsigM) hstack hdg
  rcases hK m meth c ⟨T.setVm vm₁, locs, cells, slots⟩ { g with stack := rest } (.invokevirtual index) mk (Value.ref b :: argsL).toArray X₁ hg hsize hdg hW (X₁.named hnamed) (hpre vm₁ X₁.warmed) with ⟨v, B, X', hpost, hsteps⟩ | ⟨q, B, X', hpost, hsteps⟩
  · exact Or.inl ⟨v, vm₁, B, X₁.warmed, X', hpost, fun target h => hstep₁ _ fun acts => by rw [doInvoke_state]; exact hsteps.trans h⟩
  · exact Or.inr ⟨q, vm₁, B, X₁.warmed, X', hpost, hstep₁ _ fun acts => by rw [doInvoke_state]; exact hsteps⟩
theorem vx_callSN (X : Stand p l e R s m args below meth c T locs cells slots) (hexec : p.tables.exec = Jvm.exec) {own : String} {index : Nat} {host : String} {y : MethodName} {bytes : ByteArray} {maxL : Nat} {ret : Option FieldType}
    (hown : s.vm.findClass own = some m.cls) (hlink : (Cond.methodLinkNest own index y host).before args s = true) (hstat : (Cond.static y).before args s = true) (hinit : (Cond.initialized y.cls).before args s = true)
    (hcode : (Cond.code y bytes maxL ret).before args s = true) (hy : y.cls ≠ "java/lang/invoke/MethodHandle" ∧ y.cls ≠ "java/lang/invoke/VarHandle")
    {W : Nat} {Pre : Pt → Array Value → Prop} {Post : Pt → Array Value → Option Value → Pt → Prop} {PostX : Pt → Array Value → Addr → Pt → Prop} (hK : vx_Back l R p e below s args y 3 W Pre Post PostX)
    {g : JFrame} (hg : g.method = m) (hsize : g.locals.size = c.maxLocals) {argsL rest : List Value} (hlen : ∀ sig, parseMethodDescriptor y.desc = some sig → argsL.length = sig.parameters.length)
    (hstack : g.stack = argsL.reverse ++ rest) (hW : 2 * g.monitorRoom + (rest.map fun v => v.category).sum ≤ W) (hdg : decode c.code g.pc = .ok (.invokestatic index, 3))
    (hpre : ∀ vm₁, s.WarmedH vm₁ → Pre ⟨T.setVm vm₁, locs, cells, slots⟩ argsL.toArray) :
    (∃ (v : Option Value) (vm₁ : Vm) (B : Pt), s.WarmedH vm₁ ∧ Stand p l e R s m args below meth c B.U B.locs B.cells B.slots ∧ Post ⟨T.setVm vm₁, locs, cells, slots⟩ argsL.toArray v B ∧
      ∀ target, Steps p.tables e below (B.U.setTop { g with pc := g.pc + 3, stack := v.toList ++ rest }) target → Steps p.tables e below (T.setTop g) target) ∨
    (∃ (q : Addr) (vm₁ : Vm) (B : Pt), s.WarmedH vm₁ ∧ Stand p l e R s m args below meth c B.U B.locs B.cells B.slots ∧ PostX ⟨T.setVm vm₁, locs, cells, slots⟩ argsL.toArray q B ∧
      Steps p.tables e below (T.setTop g) ((B.U.setTop { g with stack := rest }).pushFrame (.throwing q))) := by
  obtain ⟨mk, hnamed⟩ := Cond.code_named hcode
  obtain ⟨methM, cM, hmethM, -, -, -, -, -, -, hsigM⟩ := Cond.code_spec hnamed hcode
  have hstatic : methM.isStatic = true := Cond.static_spec hnamed hmethM hstat
  obtain ⟨kP, hkP, -⟩ := className_of_methodNamed hnamed
  have hinitP : kP.init = .initialized := Cond.initialized_spec (findClass_of_methodNamed hnamed) hkP hinit
  obtain ⟨vm₁, X₁, hstep₁⟩ := X.invokestaticNest hexec hown hlink hnamed hmethM hstatic hkP hinitP hy (g := g) hg (argsL := argsL) (rest := rest) (hlen _ hsigM) hstack hdg
  rcases hK m meth c ⟨T.setVm vm₁, locs, cells, slots⟩ { g with stack := rest } (.invokestatic index) mk argsL.toArray X₁ hg hsize hdg hW (X₁.named hnamed) (hpre vm₁ X₁.warmed) with ⟨v, B, X', hpost, hsteps⟩ | ⟨q, B, X', hpost, hsteps⟩
  · exact Or.inl ⟨v, vm₁, B, X₁.warmed, X', hpost, fun target h => hstep₁ _ fun acts => by rw [doInvoke_state]; exact hsteps.trans h⟩
  · exact Or.inr ⟨q, vm₁, B, X₁.warmed, X', hpost, hstep₁ _ fun acts => by rw [doInvoke_state]; exact hsteps⟩
theorem vx_runVN {y : MethodName} {bytes cc : ByteArray} {maxL nL mc ms n index : Nat} {ret : Option FieldType} {ws : List Cond} {rm : Room} {Pc : Array Value → State → Prop} {Qc : Array Value → State → Outcome → State → Prop} {XC : String → State → State → Prop} {free : Addr → Prop} {Ts : List Cond} {own C host : String} {b : Addr} {As rest : List Value} {g : JFrame}
    (S : CallFix p m c cc nL s args Ts own) (hM : vx_Met l y ws rm Pc Qc XC mc ms free) (cw : va_CN R s args own index y host bytes maxL ret ws rm mc ms n ∧ (Cond.instanceMethod y).before args s = true ∧ (Cond.selects C y y).before args s = true) (hp : PreV s H C b Pc As)
    (hg : g.method = m) (hn : As.length = n) (hsize : g.locals.size = nL) (hstack : g.stack = As.reverse ++ .ref b :: rest) (hW : 2 * g.monitorRoom + (rest.map fun v => v.category).sum ≤ 8) (hdg : decode cc g.pc = .ok (.invokevirtual index, 3)) (hf : cells + mc ≤ R.cells ∧ slots + ms ≤ R.slots) :
    vx_Run p l e R s m args below meth c H locs cells slots mc ms g rest (Qc (Value.ref b :: As).toArray) XC free := by
  obtain ⟨⟨⟨hrc, hrs, hfr, hlo, hws, hcw⟩, hcode, hini, hy, hlen, hl⟩, hx1, hx2⟩ := cw
  have hK : vx_Back l R p e below s args y 3 8 (PreOf R mc ms Pc) (PostOf Qc mc ms free) (vx_Post XC mc ms free) := vx_back (bytes := bytes) (maxL := maxL) (ret := ret) hM hp.1 hrc hrs hfr hlo hws hcw (fun a' U hW => word_at hW (Or.inl (by first | rfl | simp [Cond.onTables, Cond.keeps, Cond.steady])) hini)
  obtain ⟨hx, hb, hml, ho, -⟩ := S
  obtain ⟨-, ⟨cellB, hcB, hoB, hclB⟩, hPc⟩ := hp
  intro T hT X
  rcases vx_callVN X hx (C := C) (bytes := bytes) (maxL := maxL) (ret := ret) ho hl hx1 hx2 hcode hy hK (by rw [hT]; exact hcB) hoB hclB hg (hsize.trans hml.symm) (argsL := As) (rest := rest) (fun sig h => hn.trans (hlen sig h)) hstack hW (by rw [hb]; exact hdg)
    (fun vm₁ hW₁ => ⟨hf.1, hf.2, hPc (T.setVm vm₁) hT hW₁⟩) with ⟨v, vm₁, ⟨U', l2, c2, s2⟩, hW₁, X', ⟨g', mk, t, L, e1, e2, hq, h1, hL, h2, h3⟩, st⟩ | ⟨q, vm₁, ⟨U', l2, c2, s2⟩, hW₁, X', ⟨g', mk, t, L, E, ce, e1, e2, hq, hce, hcv, hcl, h1, hL, h2, h3⟩, st⟩
  · dsimp only [Pt.U, Pt.locs, Pt.cells, Pt.slots] at X' e1 e2 h1 h2 h3 st
    subst h1; subst h2; subst h3
    exact Or.inl ⟨v, (T.setVm vm₁).calling g' mk (Value.ref b :: As).toArray, t, U', L, hT, X', hL, e1, e2, hq, st⟩
  · dsimp only [Pt.U, Pt.locs, Pt.cells, Pt.slots] at X' e1 e2 h1 h2 h3 st hcl
    subst h1; subst h2; subst h3
    exact Or.inr ⟨q, (T.setVm vm₁).calling g' mk (Value.ref b :: As).toArray, t, U', L, E, ce, hT, X', hL, e1, e2, hq, hce, hcv, vx_cls hW₁ hcl, st⟩
theorem vx_runSN {y : MethodName} {bytes cc : ByteArray} {maxL nL mc ms n index : Nat} {ret : Option FieldType} {ws : List Cond} {rm : Room} {Pc : Array Value → State → Prop} {Qc : Array Value → State → Outcome → State → Prop} {XC : String → State → State → Prop} {free : Addr → Prop} {Ts : List Cond} {own host : String} {As rest : List Value} {g : JFrame}
    (S : CallFix p m c cc nL s args Ts own) (hM : vx_Met l y ws rm Pc Qc XC mc ms free) (cw : va_CN R s args own index y host bytes maxL ret ws rm mc ms n ∧ (Cond.static y).before args s = true ∧ True) (hp : PreS s H Pc As)
    (hg : g.method = m) (hn : As.length = n) (hsize : g.locals.size = nL) (hstack : g.stack = As.reverse ++ rest) (hW : 2 * g.monitorRoom + (rest.map fun v => v.category).sum ≤ 8) (hdg : decode cc g.pc = .ok (.invokestatic index, 3)) (hf : cells + mc ≤ R.cells ∧ slots + ms ≤ R.slots) :
    vx_Run p l e R s m args below meth c H locs cells slots mc ms g rest (Qc As.toArray) XC free := by
  obtain ⟨⟨⟨hrc, hrs, hfr, hlo, hws, hcw⟩, hcode, hini, hy, hlen, hl⟩, hx1, hx2⟩ := cw
  have hK : vx_Back l R p e below s args y 3 8 (PreOf R mc ms Pc) (PostOf Qc mc ms free) (vx_Post XC mc ms free) := vx_back (bytes := bytes) (maxL := maxL) (ret := ret) hM hp.1 hrc hrs hfr hlo hws hcw (fun a' U hW => word_at hW (Or.inl (by first | rfl | simp [Cond.onTables, Cond.keeps, Cond.steady])) hini)
  obtain ⟨hx, hb, hml, ho, -⟩ := S
  have hPc := hp.2
  intro T hT X
  rcases vx_callSN X hx (bytes := bytes) (maxL := maxL) (ret := ret) ho hl hx1 hini hcode hy hK hg (hsize.trans hml.symm) (argsL := As) (rest := rest) (fun sig h => hn.trans (hlen sig h)) hstack hW (by rw [hb]; exact hdg)
    (fun vm₁ hW₁ => ⟨hf.1, hf.2, hPc (T.setVm vm₁) hT hW₁⟩) with ⟨v, vm₁, ⟨U', l2, c2, s2⟩, hW₁, X', ⟨g', mk, t, L, e1, e2, hq, h1, hL, h2, h3⟩, st⟩ | ⟨q, vm₁, ⟨U', l2, c2, s2⟩, hW₁, X', ⟨g', mk, t, L, E, ce, e1, e2, hq, hce, hcv, hcl, h1, hL, h2, h3⟩, st⟩
  · dsimp only [Pt.U, Pt.locs, Pt.cells, Pt.slots] at X' e1 e2 h1 h2 h3 st
    subst h1; subst h2; subst h3
    exact Or.inl ⟨v, (T.setVm vm₁).calling g' mk As.toArray, t, U', L, hT, X', hL, e1, e2, hq, st⟩
  · dsimp only [Pt.U, Pt.locs, Pt.cells, Pt.slots] at X' e1 e2 h1 h2 h3 st hcl
    subst h1; subst h2; subst h3
    exact Or.inr ⟨q, (T.setVm vm₁).calling g' mk As.toArray, t, U', L, E, ce, hT, X', hL, e1, e2, hq, hce, hcv, vx_cls hW₁ hcl, st⟩
end
/-! ===== END ===== -/
end

section
/-! ===== the store: cells by number; a cell is its kind (under 100: an object of vwCl, from 100 on: an array), its length, what its places hold; a reference is a cell's number ===== -/
abbrev MC : Type := Nat × Nat × (Nat → Value)
abbrev MH : Type := Nat × (Nat → MC)
abbrev MO : Type := Option Value ⊕ String
def ju {α : Type} (f : Nat → α) (k : Nat) (v : α) : Nat → α := fun j => if j = k then v else f j
theorem ju_s {α : Type} {f : Nat → α} {k : Nat} {v : α} : ju f k v k = v := by simp [ju]
theorem ju_n {α : Type} {f : Nat → α} {k j : Nat} {v : α} (h : j ≠ k) : ju f k v j = f j := by simp [ju, h]
def j_cv (ad : Nat → Nat) (v : Value) : Value := match v with
  | .ref k => .ref (ad k)
  | .retAddr a => .ref a
  | w => w
theorem j_cv_cat (ad : Nat → Nat) (v : Value) : (j_cv ad v).category = v.category := by cases v <;> rfl
def j_ok (n : Nat) (v : Value) : Prop := ∀ k, v = .ref k → k < n
theorem j_ok_int {n : Nat} {x : Int32} : j_ok n (.int x) := fun _ h => by cases h
theorem j_ok_long {n : Nat} {x : Int64} : j_ok n (.long x) := fun _ h => by cases h
theorem j_ok_float {n : Nat} {x : UInt32} : j_ok n (.float x) := fun _ h => by cases h
theorem j_ok_double {n : Nat} {x : UInt64} : j_ok n (.double x) := fun _ h => by cases h
theorem j_ok_null {n : Nat} : j_ok n .null := fun _ h => by cases h
theorem j_ok_ref {n k : Nat} (h : k < n) : j_ok n (.ref k) := fun _ e => by cases e; exact h
theorem j_ok_mono {n n' : Nat} {v : Value} (h : j_ok n v) (hn : n ≤ n') : j_ok n' v := fun k e => Nat.lt_of_lt_of_le (h k e) hn
theorem j_cv_eq {ad ad' : Nat → Nat} {n : Nat} {v : Value} (h : ∀ i, i < n → ad' i = ad i) (hv : j_ok n v) : j_cv ad' v = j_cv ad v := by
  cases v with
  | ref k => simp only [j_cv]; rw [h k (hv k rfl)]
  | _ => rfl
def j_int (v : Value) : Int32 := match v with
  | .int x => x
  | _ => 0
def j_lng (v : Value) : Int64 := match v with
  | .long x => x
  | _ => 0
def j_dbl (v : Value) : UInt64 := match v with
  | .double x => x
  | _ => 0
def j_opt (ad : Nat → Nat) (v : Value) : Option Nat := match v with
  | .ref k => some (ad k)
  | .retAddr a => some a
  | _ => none
def j_arr (ad : Nat → Nat) (t : Nat) (f : Nat → Value) : (Nat → Int32) ⊕ (Nat → Int64) ⊕ (Nat → UInt32) ⊕ (Nat → UInt64) ⊕ (Nat → Option Nat) :=
  if t = 103 then .inr (.inr (.inr (.inr fun j => j_opt ad (f j)))) else if t = 104 then .inr (.inl fun j => j_lng (f j)) else if t = 105 then .inr (.inr (.inr (.inl fun j => j_dbl (f j)))) else .inl fun j => j_int (f j)
def j_e (tyc : Nat → ClassId) (ad : Nat → Nat) (c : MC) : va_E := if c.1 < 100 then .inr (c.1, (List.range c.2.1).map fun k => j_cv ad (c.2.2 k)) else .inl (tyc c.1, c.2.1, j_arr ad c.1 c.2.2)
def j_w (tyc : Nat → ClassId) (ad : Nat → Nat) (h : MH) : va_W := (List.range h.1).map fun i => (ad i, j_e tyc ad (h.2 i))
theorem j_w_get {tyc : Nat → ClassId} {ad : Nat → Nat} {h : MH} {i : Nat} (hi : i < h.1) : (j_w tyc ad h)[i]? = some (ad i, j_e tyc ad (h.2 i)) := by simp [j_w, hi]
theorem j_w_len {tyc : Nat → ClassId} {ad : Nat → Nat} {h : MH} : (j_w tyc ad h).length = h.1 := by simp [j_w]
def j_wr (h : MH) (i : Nat) (c : MC) : MH := (h.1, ju h.2 i c)
def j_fld (h : MH) (i k : Nat) (v : Value) : MH := j_wr h i ((h.2 i).1, (h.2 i).2.1, ju (h.2 i).2.2 k v)
def j_push (h : MH) (c : MC) : MH := (h.1 + 1, ju h.2 h.1 c)
theorem j_w_set {tyc : Nat → ClassId} {ad : Nat → Nat} {h : MH} {i : Nat} {c : MC} (hi : i < h.1) : (j_w tyc ad h).set i (ad i, j_e tyc ad c) = j_w tyc ad (j_wr h i c) := by
  apply List.ext_getElem?
  intro k
  by_cases hk : k = i
  · subst hk
    rw [List.getElem?_set_self (by rw [j_w_len]; exact hi), j_w_get (h := j_wr h k c) hi]
    show _ = some (ad k, j_e tyc ad (ju h.2 k c k))
    rw [ju_s]
  · rw [List.getElem?_set_ne (Ne.symm hk)]
    by_cases hl : k < h.1
    · rw [j_w_get hl, j_w_get (h := j_wr h i c) hl]
      show _ = some (ad k, j_e tyc ad (ju h.2 i c k))
      rw [ju_n hk]
    · rw [List.getElem?_eq_none (by rw [j_w_len]; omega), List.getElem?_eq_none (by rw [j_w_len]; show h.1 ≤ k; omega)]
def j_okH (h : MH) : Prop := ∀ i, i < h.1 → ∀ j, j_ok h.1 ((h.2 i).2.2 j)
theorem j_e_ad {tyc : Nat → ClassId} {ad ad' : Nat → Nat} {n : Nat} {c : MC} (had : ∀ i, i < n → ad' i = ad i) (hc : ∀ j, j_ok n (c.2.2 j)) : j_e tyc ad' c = j_e tyc ad c := by
  have h1 : (fun k => j_cv ad' (c.2.2 k)) = fun k => j_cv ad (c.2.2 k) := funext fun k => j_cv_eq had (hc k)
  have h2 : (fun j => j_opt ad' (c.2.2 j)) = fun j => j_opt ad (c.2.2 j) := funext fun j => by
    cases hv : c.2.2 j with
    | ref k => simp only [j_opt]; rw [had k (hc j k hv)]
    | _ => rfl
  unfold j_e j_arr
  rw [h1, h2]
theorem j_w_ad {tyc : Nat → ClassId} {ad ad' : Nat → Nat} {h : MH} (hh : j_okH h) (had : ∀ i, i < h.1 → ad' i = ad i) : j_w tyc ad' h = j_w tyc ad h := by
  unfold j_w
  apply List.map_congr_left
  intro i hi
  have hi := List.mem_range.mp hi
  rw [had i hi, j_e_ad had (hh i hi)]
theorem j_w_push {tyc : Nat → ClassId} {ad : Nat → Nat} {h : MH} {c : MC} {q : Nat} (hh : j_okH h) (hc : ∀ j, j_ok h.1 (c.2.2 j)) : j_w tyc (ju ad h.1 q) (j_push h c) = j_w tyc ad h ++ [(q, j_e tyc ad c)] := by
  have had : ∀ i, i < h.1 → ju ad h.1 q i = ad i := fun i hi => ju_n (Nat.ne_of_lt hi)
  show (List.range (h.1 + 1)).map (fun i => (ju ad h.1 q i, j_e tyc (ju ad h.1 q) (ju h.2 h.1 c i))) = _
  rw [List.range_succ, List.map_append]
  congr 1
  · apply List.map_congr_left
    intro i hi
    have hi := List.mem_range.mp hi
    rw [had i hi, ju_n (Nat.ne_of_lt hi), j_e_ad had (hh i hi)]
  · simp only [List.map_cons, List.map_nil]
    rw [ju_s, ju_s, j_e_ad had hc]
theorem j_okH_wr {h : MH} {i : Nat} {c : MC} (hh : j_okH h) (hc : ∀ j, j_ok h.1 (c.2.2 j)) : j_okH (j_wr h i c) := by
  intro k hk j
  show j_ok h.1 ((ju h.2 i c k).2.2 j)
  by_cases e : k = i
  · subst e
    rw [ju_s]
    exact hc j
  · rw [ju_n e]
    exact hh k hk j
theorem j_okH_fld {h : MH} {i k : Nat} {v : Value} (hh : j_okH h) (hi : i < h.1) (hv : j_ok h.1 v) : j_okH (j_fld h i k v) := by
  refine j_okH_wr hh fun j => ?_
  show j_ok h.1 (ju (h.2 i).2.2 k v j)
  by_cases e : j = k
  · subst e
    rw [ju_s]
    exact hv
  · rw [ju_n e]
    exact hh i hi j
theorem j_okH_push {h : MH} {c : MC} (hh : j_okH h) (hc : ∀ j, j_ok h.1 (c.2.2 j)) : j_okH (j_push h c) := by
  intro k hk j
  have hk : k < h.1 + 1 := hk
  show j_ok (h.1 + 1) ((ju h.2 h.1 c k).2.2 j)
  by_cases e : k = h.1
  · subst e
    rw [ju_s]
    exact j_ok_mono (hc j) (Nat.le_succ _)
  · rw [ju_n e]
    exact j_ok_mono (hh k (by omega) j) (Nat.le_succ _)
/-! ===== locals ===== -/
def j_L (ls : Array Slot) (nL : Nat) (ad : Nat → Nat) (L : List (Option Value)) : Prop := ls.size = nL ∧ lv_wf ls ∧ L.length = nL ∧ ∀ (i : Nat) (v : Value), L[i]? = some (some v) → ls[i]? = some (.val (j_cv ad v))
theorem j_L.at {ls : Array Slot} {nL : Nat} {ad : Nat → Nat} {L : List (Option Value)} (h : j_L ls nL ad L) {i : Nat} {v : Value} (hv : L[i]? = some (some v)) : ls[i]? = some (.val (j_cv ad v)) := h.2.2.2 i v hv
def j_lv (ad : Nat → Nat) (L : List (Option Value)) : List (Nat × Value) := (List.range L.length).filterMap fun i => (L[i]?.join).map fun v => (i, j_cv ad v)
theorem j_lv_mem {ad : Nat → Nat} {L : List (Option Value)} {i : Nat} {v : Value} (h : L[i]? = some (some v)) : (i, j_cv ad v) ∈ j_lv ad L := by
  have hi : i < L.length := (List.getElem?_eq_some_iff.mp h).1
  refine List.mem_filterMap.mpr ⟨i, List.mem_range.mpr hi, ?_⟩
  rw [h]
  rfl
theorem j_L.has {ls : Array Slot} {nL : Nat} {ad : Nat → Nat} {L : List (Option Value)} (h : j_L ls nL ad L) : lv_has ls nL (j_lv ad L) := by
  refine ⟨h.1, h.2.1, fun q hq => ?_⟩
  obtain ⟨i, -, hi⟩ := List.mem_filterMap.mp hq
  cases hL : L[i]? with
  | none => rw [hL] at hi; cases hi
  | some o =>
    cases o with
    | none => rw [hL] at hi; cases hi
    | some v =>
      rw [hL] at hi
      cases hi
      exact h.2.2.2 i v hL
/-- no long or double ends at the place i -/
def j_c1 (L : List (Option Value)) (i : Nat) : Bool := match i with
  | 0 => true
  | j + 1 => match L[j]? with
    | some (some (.long _)) => false
    | some (some (.double _)) => false
    | _ => true
theorem j_c1_spec {L : List (Option Value)} {i j : Nat} {w : Value} (h : j_c1 L i = true) (hj : j + 1 = i) (hw : L[j]? = some (some w)) : w.category = 1 := by
  subst hj
  simp only [j_c1] at h
  rw [hw] at h
  cases w <;> first | rfl | cases h
theorem j_L.store {ls ls' : Array Slot} {nL : Nat} {ad : Nat → Nat} {L : List (Option Value)} {i : Nat} {v : Value} (h : j_L ls nL ad L) (hi : i < nL) (hc : j_c1 L i = true)
    (hs : lv_has ls' nL ((i, j_cv ad v) :: (j_lv ad L).filter (fun q => !(q.1 == i) && !(q.1 + 1 == i && q.2.category == 2)))) : j_L ls' nL ad (L.set i (some v)) := by
  refine ⟨hs.1, hs.2.1, by rw [List.length_set]; exact h.2.2.1, fun j w hj => ?_⟩
  by_cases e : j = i
  · subst e
    rw [List.getElem?_set_self (by rw [h.2.2.1]; exact hi)] at hj
    cases hj
    exact hs.2.2 _ List.mem_cons_self
  · rw [List.getElem?_set_ne (Ne.symm e)] at hj
    refine hs.2.2 (j, j_cv ad w) (List.mem_cons_of_mem _ (List.mem_filter.mpr ⟨j_lv_mem hj, ?_⟩))
    have e1 : (j == i) = false := beq_false_of_ne e
    show (!(j == i) && !(j + 1 == i && (j_cv ad w).category == 2)) = true
    rw [e1]
    by_cases e2 : j + 1 = i
    · rw [j_cv_cat, j_c1_spec hc e2 hj]
      simp
    · simp [e2]
theorem j_L.ad {ls : Array Slot} {nL : Nat} {ad ad' : Nat → Nat} {L : List (Option Value)} {n : Nat} (h : j_L ls nL ad L) (had : ∀ i, i < n → ad' i = ad i) (hL : ∀ v, some v ∈ L → j_ok n v) : j_L ls nL ad' L := by
  refine ⟨h.1, h.2.1, h.2.2.1, fun i v hv => ?_⟩
  rw [j_cv_eq had (hL v (List.mem_of_getElem? hv))]
  exact h.2.2.2 i v hv
theorem j_args_get : ∀ (vs : List Value) (k i : Nat) (v : Value), (∀ w ∈ vs, w.category = 1) → vs[i]? = some v → (k + i, v) ∈ lv_args k vs := by
  intro vs
  induction vs with
  | nil => intro k i v _ h; simp at h
  | cons w vs ih =>
    intro k i v hc h
    have hw : ¬ w.category = 2 := by rw [hc w List.mem_cons_self]; decide
    simp only [lv_args, if_neg hw]
    cases i with
    | zero =>
      simp only [List.getElem?_cons_zero, Option.some.injEq] at h
      subst h
      exact List.mem_cons_self
    | succ i =>
      have h2 : vs[i]? = some v := by simpa using h
      have := ih (k + 1) i v (fun u hu => hc u (List.mem_cons_of_mem _ hu)) h2
      rw [show k + (i + 1) = k + 1 + i by omega]
      exact List.mem_cons_of_mem _ this
/-- the locals with which a method begins, its arguments all of one slot -/
def j_L0 (nL : Nat) (as : List Value) : List (Option Value) := as.map some ++ List.replicate (nL - as.length) none
theorem j_L0_get {nL : Nat} {as : List Value} {i : Nat} {v : Value} (h : (j_L0 nL as)[i]? = some (some v)) : as[i]? = some v := by
  unfold j_L0 at h
  by_cases hi : i < as.length
  · rw [List.getElem?_append_left (by simpa using hi)] at h
    simpa using h
  · rw [List.getElem?_append_right (by simpa using hi)] at h
    have := List.mem_of_getElem? h
    have := List.eq_of_mem_replicate this
    cases this
theorem j_L.entry {ls : Array Slot} {nL : Nat} {ad : Nat → Nat} {as : List Value} (hn : as.length ≤ nL) (hc : ∀ v ∈ as, v.category = 1) (h : lv_has ls nL (lv_args 0 (as.map (j_cv ad)))) : j_L ls nL ad (j_L0 nL as) := by
  refine ⟨h.1, h.2.1, by simp [j_L0]; omega, fun i v hv => ?_⟩
  have h1 := j_L0_get hv
  have h2 : (as.map (j_cv ad))[i]? = some (j_cv ad v) := by rw [List.getElem?_map, h1]; rfl
  have h3 := j_args_get (as.map (j_cv ad)) 0 i (j_cv ad v) (fun w hw => by
    obtain ⟨u, hu, rfl⟩ := List.mem_map.mp hw
    rw [j_cv_cat]
    exact hc u hu) h2
  rw [Nat.zero_add] at h3
  exact h.2.2 _ h3
end

section
/-! ===== the words: those that a call carries along, those that hold by the tables alone ===== -/
/-- private methods of AbstractStringBuilder's, on a StringBuilder -/
def j_ext : List Cond := [.selects "java/lang/StringBuilder" yJ5_ensureCapacityInternal_d00df yJ5_ensureCapacityInternal_d00df, .selects "java/lang/StringBuilder" yJ5_newCapacity_0f7a4 yJ5_newCapacity_0f7a4]
def j_all : List Cond := (lw_tbl ++ j_ext).filter goodWord
theorem j_wd {w : Cond} (i : Nat) (h : lw_tbl[i]? = some w) (g : goodWord w = true) : w ∈ j_all := List.mem_filter.mpr ⟨List.mem_append_left _ (List.mem_of_getElem? h), g⟩
theorem j_wx {w : Cond} (i : Nat) (h : j_ext[i]? = some w) (g : goodWord w = true) : w ∈ j_all := List.mem_filter.mpr ⟨List.mem_append_right _ (List.mem_of_getElem? h), g⟩
theorem j_all_good {w : Cond} (h : w ∈ j_all) : w ∈ j_all ∧ ((w.onTables && w.keeps) = true ∨ ∃ ty, w = .arrayClass ty) := ⟨h, good_of_word (List.mem_filter.mp h).2⟩
theorem j_good {ws : List Cond} (h : ∀ w ∈ ws, w ∈ j_all) : GoodIn j_all ws := fun w hw => j_all_good (h w hw)
def j_soft (w : Cond) : Bool := match w with
  | .methodLinkNest .. => true
  | .castable .. => true
  | .declares .. => true
  | _ => false
def j_nw : List Cond := lw_tbl.filter j_soft
theorem j_nwd {w : Cond} (i : Nat) (h : lw_tbl[i]? = some w) (g : j_soft w = true) : w ∈ j_nw := List.mem_filter.mpr ⟨List.mem_of_getElem? h, g⟩
theorem j_soft_tab {w : Cond} (h : j_soft w = true) : w.onTables = true := by
  cases w <;> first | rfl | cases h
theorem j_soft_warm {w : Cond} {s U : State} (hW : s.WarmedH U.vm) (h : j_soft w = true) (hw : va_Nw w s) : va_Nw w U := by
  cases w <;> first | exact va_Nw.warmM hW hw | exact va_Nw.warmC hW hw | exact va_Nw.warmD hW hw | exact absurd h (by decide) | cases h
/-- String constants: the class, the place, the text -/
def j_strs : List (String × Nat × String) := lw_tbl.filterMap fun w => match w with
  | .stringRef c k t => some (c, k, t)
  | _ => none
theorem j_strd {c t : String} {k : Nat} (i : Nat) (h : lw_tbl[i]? = some (.stringRef c k t)) : (c, k, t) ∈ j_strs := List.mem_filterMap.mpr ⟨_, List.mem_of_getElem? h, rfl⟩
abbrev j_R2 : String := "LeagueTables$League"
/-- exceptions that pass a handler of the law's -/
def j_ncs : List (String × String) := [("java/lang/IllegalArgumentException", "java/lang/IndexOutOfBoundsException"), ("java/util/NoSuchElementException", "java/lang/IndexOutOfBoundsException"), ("java/lang/UnsupportedOperationException", "java/lang/IllegalArgumentException"), ("java/util/NoSuchElementException", "java/lang/IllegalArgumentException")]
/-- a static row of bytes of java/lang/Integer's -/
def j_tab (n : String) (f : Nat → Int32) (A : Nat → Prop) (U : State) (H : Heap) : Prop := ∃ a : Nat, va_Z "java/lang/Integer" n "[B" (.ref a) A U H ∧ ¬ A a ∧ a < H.size ∧ ∃ cell : Cell, H[a]? = some cell ∧ U.isArrayOf cell .byte ∧ cell.vm ≠ .unknown ∧ cell.slots.size = 100 ∧ ∀ j : Nat, j < 100 → cell.slots[j]? = some (.int (f j))
def j_ones (k : Nat) : Int32 := Int32.ofNat (48 + k % 10)
def j_tens (k : Nat) : Int32 := Int32.ofNat (48 + k / 10)
theorem j_tab.moved {n : String} {f : Nat → Int32} {A : Nat → Prop} {u U : State} {H : Heap} (hvm : u.vm.Alike U.vm) (h : j_tab n f A u H) : j_tab n f A U H := by
  obtain ⟨a, h1, h2, h3, cell, h4, h5, h6⟩ := h
  exact ⟨a, h1.moved hvm, h2, h3, cell, h4, State.isArrayOf_alike hvm h5, h6⟩
theorem j_tab.kept {n : String} {f : Nat → Int32} {A : Nat → Prop} {U : State} {H H1 : Heap} (h : j_tab n f A U H) (hq : ∀ a : Nat, a < H.size → ¬ A a → H1[a]? = H[a]?) : j_tab n f A U H1 := by
  obtain ⟨a, h1, h2, h3, cell, h4, h5⟩ := h
  have e := hq a h3 h2
  rw [h4] at e
  exact ⟨a, h1.kept hq, h2, (Array.getElem?_eq_some_iff.mp e).1, cell, e, h5⟩
theorem j_tab.narrow {n : String} {f : Nat → Int32} {A B : Nat → Prop} {U : State} {H : Heap} (h : j_tab n f A U H) (hAB : ∀ q, B q → A q) : j_tab n f B U H := by
  obtain ⟨a, h1, h2, h3⟩ := h
  exact ⟨a, h1.narrow hAB, fun q => h2 (hAB a q), h3⟩
def j_env (A : Nat → Prop) (U : State) (H : Heap) : Prop :=
  (∀ w ∈ j_nw, va_Nw w U) ∧ va_AO j_R2 U ∧ (∀ q ∈ j_strs, ∃ sa, vk_R q.1 q.2.1 q.2.2 sa U) ∧
  vx_Zq Bundle.tN "UNASSIGNED_STACK" Bundle.steD A U H ∧ vx_Zq Bundle.tN "SUPPRESSED_SENTINEL" Bundle.listD A U H ∧ va_Z "java/lang/String" "COMPACT_STRINGS" "Z" (.int 1) A U H ∧ (∀ q ∈ j_ncs, va_Nc q.1 q.2 U) ∧ va_Zq "jdk/internal/util/Preconditions" "SIOOBE_FORMATTER" "Ljava/util/function/BiFunction;" A U H ∧ j_tab "DigitOnes" j_ones A U H ∧ j_tab "DigitTens" j_tens A U H
theorem j_env.go {A B : Nat → Prop} {s U : State} {H H1 : Heap} (h : j_env A s H) (hW : s.WarmedH U.vm) (hq : ∀ a : Nat, a < H.size → ¬ A a → H1[a]? = H[a]?) (hAB : ∀ q, B q → A q) : j_env B U H1 := by
  obtain ⟨h1, h2, h3, h4, h5, h6, h7, h8, h9, h10⟩ := h
  refine ⟨fun w hw => j_soft_warm hW (List.mem_filter.mp hw).2 (h1 w hw), va_AO.moved hW.alike h2, fun q hq => ?_, ((h4.moved hW.alike).kept hq).narrow hAB, ((h5.moved hW.alike).kept hq).narrow hAB, ((h6.moved hW.alike).kept hq).narrow hAB, fun q hq => (h7 q hq).moved hW.alike, ((h8.moved hW.alike).kept hq).narrow hAB, ((h9.moved hW.alike).kept hq).narrow hAB, ((h10.moved hW.alike).kept hq).narrow hAB⟩
  obtain ⟨sa, hs⟩ := h3 q hq
  exact ⟨sa, vk_R.warm hW hs⟩
theorem j_env.blind {A : Nat → Prop} {U : State} {H : Heap} {g : JFrame} {mk : MethodId} {a : Array Value} (h : j_env A U H) : j_env A (U.calling g mk a) H :=
  ⟨fun w hw => va_Nw.same (j_soft_tab (List.mem_filter.mp hw).2) (u := U) (U := U.calling g mk a) rfl (h.1 w hw), va_AO.moved (u := U) (U := U.calling g mk a) (Vm.Alike.refl U.vm) h.2.1,
    fun q hq => by obtain ⟨sa, hs⟩ := h.2.2.1 q hq; exact ⟨sa, vk_R.same (u := U) (U := U.calling g mk a) rfl hs⟩,
    vx_Zq.moved (u := U) (U := U.calling g mk a) (Vm.Alike.refl U.vm) h.2.2.2.1, vx_Zq.moved (u := U) (U := U.calling g mk a) (Vm.Alike.refl U.vm) h.2.2.2.2.1, va_Z.moved (u := U) (U := U.calling g mk a) (Vm.Alike.refl U.vm) h.2.2.2.2.2.1, fun q hq => va_Nc.moved (u := U) (U := U.calling g mk a) (Vm.Alike.refl U.vm) (h.2.2.2.2.2.2.1 q hq), va_Zq.moved (u := U) (U := U.calling g mk a) (Vm.Alike.refl U.vm) h.2.2.2.2.2.2.2.1, j_tab.moved (u := U) (U := U.calling g mk a) (Vm.Alike.refl U.vm) h.2.2.2.2.2.2.2.2.1, j_tab.moved (u := U) (U := U.calling g mk a) (Vm.Alike.refl U.vm) h.2.2.2.2.2.2.2.2.2⟩
def j_tys (tyc : Nat → ClassId) : List (ClassId × FieldType) := [(tyc 100, .int), (tyc 101, .char), (tyc 102, .byte), (tyc 103, .object j_R2), (tyc 104, .long), (tyc 105, .double)]
/-! ===== the judgement ===== -/
/-- what holds of the machine all through a method: its code, its words, the tables, the room -/
def j_X (p : Program) (l : Launch) (s : State) (m : MethodId) (args : Array Value) (meth : Method) (c : Code) (D : va_G) (tyc : Nat → ClassId) (A : Nat → Prop) (own : String) (cc : ByteArray) (nL : Nat) : Prop :=
  p.tables.exec = Jvm.exec ∧ c.code = cc ∧ c.maxLocals = nL ∧ s.vm.findClass own = some m.cls ∧ (∀ w ∈ j_all, w.before args s = true) ∧ va_K D vwCl (j_tys tyc) s ∧ (∀ q, s.heap.size ≤ q → A q) ∧ meth.locks = false ∧ l.stackTraces = false ∧ j_env A s s.heap
def j_I (s : State) (D : va_G) (tyc : Nat → ClassId) (A : Nat → Prop) (n0 : Nat) (ad0 : Nat → Nat) (nL : Nat) (ad : Nat → Nat) (L : List (Option Value)) (st : List Value) (h : MH) (ls : Array Slot) (H : Heap) (locs : List Loc) : Prop :=
  j_L ls nL ad L ∧ va_P D vwCl (j_w tyc ad h) H ∧ va_D A (j_w tyc ad h) ∧ va_S A s.heap H locs ∧ (n0 ≤ h.1 ∧ ∀ i, i < n0 → ad i = ad0 i) ∧ j_okH h ∧ (∀ v ∈ st, j_ok h.1 v) ∧ ∀ v, some v ∈ L → j_ok h.1 v
def JJ (p : Program) (l : Launch) (e : Env) (R : Room) (s : State) (m : MethodId) (args : Array Value) (below : List Frame) (meth : Method) (c : Code) (D : va_G) (tyc : Nat → ClassId) (A : Nat → Prop) (n0 : Nat) (ad0 : Nat → Nat) (nL : Nat) (Q : State → Prop)
    (pc : Nat) (L : List (Option Value)) (st : List Value) (h : MH) (cells slots : Nat) : Prop :=
  ∀ (ad : Nat → Nat) (ls : Array Slot) (H : Heap) (locs : List Loc), j_I s D tyc A n0 ad0 nL ad L st h ls H locs → W p l e R s m args below meth c H locs cells slots Q (F0 m pc ls (st.map (j_cv ad)))
/-- the same world, another stack -/
theorem j_I.st {s : State} {D : va_G} {tyc : Nat → ClassId} {A : Nat → Prop} {n0 : Nat} {ad0 : Nat → Nat} {nL : Nat} {ad : Nat → Nat} {L : List (Option Value)} {st st' : List Value} {h : MH} {ls : Array Slot} {H : Heap} {locs : List Loc}
    (I : j_I s D tyc A n0 ad0 nL ad L st h ls H locs) (hs : (∀ v ∈ st, j_ok h.1 v) → ∀ v ∈ st', j_ok h.1 v) : j_I s D tyc A n0 ad0 nL ad L st' h ls H locs :=
  ⟨I.1, I.2.1, I.2.2.1, I.2.2.2.1, I.2.2.2.2.1, I.2.2.2.2.2.1, hs I.2.2.2.2.2.2.1, I.2.2.2.2.2.2.2⟩
theorem j_I.lo {s : State} {D : va_G} {tyc : Nat → ClassId} {A : Nat → Prop} {n0 : Nat} {ad0 : Nat → Nat} {nL : Nat} {ad : Nat → Nat} {L L' : List (Option Value)} {st st' : List Value} {h : MH} {ls ls' : Array Slot} {H : Heap} {locs : List Loc}
    (I : j_I s D tyc A n0 ad0 nL ad L st h ls H locs) (hs : (∀ v ∈ st, j_ok h.1 v) → ∀ v ∈ st', j_ok h.1 v) (hl : j_L ls' nL ad L') (hL : ∀ v, some v ∈ L' → j_ok h.1 v) : j_I s D tyc A n0 ad0 nL ad L' st' h ls' H locs :=
  ⟨hl, I.2.1, I.2.2.1, I.2.2.2.1, I.2.2.2.2.1, I.2.2.2.2.2.1, hs I.2.2.2.2.2.2.1, hL⟩
theorem j_ok_set {n i : Nat} {L : List (Option Value)} {v : Value} (h : ∀ w, some w ∈ L → j_ok n w) (hv : j_ok n v) : ∀ w, some w ∈ L.set i (some v) → j_ok n w := by
  intro w hw
  rcases List.mem_or_eq_of_mem_set hw with h1 | h1
  · exact h w h1
  · cases h1
    exact hv
theorem j_ok_tl {n : Nat} {v : Value} {st : List Value} (h : ∀ w ∈ v :: st, j_ok n w) : ∀ w ∈ st, j_ok n w := fun w hw => h w (List.mem_cons_of_mem _ hw)
theorem j_ok_cons {n : Nat} {v : Value} {st : List Value} (hv : j_ok n v) (h : ∀ w ∈ st, j_ok n w) : ∀ w ∈ v :: st, j_ok n w := fun w hw => (List.mem_cons.mp hw).elim (fun e => by rw [e]; exact hv) (h w)
end

section
section JR
variable {p : Program} {l : Launch} {e : Env} {R : Room} {s : State} {m : MethodId} {args : Array Value} {below : List Frame} {meth : Method} {c : Code} {D : va_G} {tyc : Nat → ClassId} {A : Nat → Prop} {n0 : Nat} {ad0 : Nat → Nat} {nL : Nat} {Q : State → Prop}
variable {own : String} {cc : ByteArray} {pc : Nat} {L : List (Option Value)} {st : List Value} {h : MH} {cells slots : Nat}
theorem j_iload_n (x : j_X p l s m args meth c D tyc A own cc nL) {k : Fin 4} {v : Int32} (hd : decode cc pc = .ok (.iload_n k, 1)) (hL : L[(k : Nat)]? = some (some (.int v))) (kk : JJ p l e R s m args below meth c D tyc A n0 ad0 nL Q (pc + 1) (L) (.int v :: st) (h) (cells) (slots)) : JJ p l e R s m args below meth c D tyc A n0 ad0 nL Q (pc) (L) (st) (h) (cells) (slots) := by
  intro ad ls H locs I
  exact lv_iload_n x.1 x.2.1 hd rfl (I.1.at hL) (kk ad ls H locs (I.st fun hs => j_ok_cons (I.2.2.2.2.2.2.2 _ (List.mem_of_getElem? hL)) hs))
theorem j_fload_n (x : j_X p l s m args meth c D tyc A own cc nL) {k : Fin 4} {v : UInt32} (hd : decode cc pc = .ok (.fload_n k, 1)) (hL : L[(k : Nat)]? = some (some (.float v))) (kk : JJ p l e R s m args below meth c D tyc A n0 ad0 nL Q (pc + 1) (L) (.float v :: st) (h) (cells) (slots)) : JJ p l e R s m args below meth c D tyc A n0 ad0 nL Q (pc) (L) (st) (h) (cells) (slots) := by
  intro ad ls H locs I
  exact lv_fload_n x.1 x.2.1 hd rfl (I.1.at hL) (kk ad ls H locs (I.st fun hs => j_ok_cons (I.2.2.2.2.2.2.2 _ (List.mem_of_getElem? hL)) hs))
theorem j_dload_n (x : j_X p l s m args meth c D tyc A own cc nL) {k : Fin 4} {v : UInt64} (hd : decode cc pc = .ok (.dload_n k, 1)) (hL : L[(k : Nat)]? = some (some (.double v))) (kk : JJ p l e R s m args below meth c D tyc A n0 ad0 nL Q (pc + 1) (L) (.double v :: st) (h) (cells) (slots)) : JJ p l e R s m args below meth c D tyc A n0 ad0 nL Q (pc) (L) (st) (h) (cells) (slots) := by
  intro ad ls H locs I
  exact lv_dload_n x.1 x.2.1 hd rfl (I.1.at hL) (kk ad ls H locs (I.st fun hs => j_ok_cons (I.2.2.2.2.2.2.2 _ (List.mem_of_getElem? hL)) hs))
theorem j_iload (x : j_X p l s m args meth c D tyc A own cc nL) {i : Nat} {v : Int32} (hd : decode cc pc = .ok (.iload i, 2)) (hL : L[i]? = some (some (.int v))) (kk : JJ p l e R s m args below meth c D tyc A n0 ad0 nL Q (pc + 2) (L) (.int v :: st) (h) (cells) (slots)) : JJ p l e R s m args below meth c D tyc A n0 ad0 nL Q (pc) (L) (st) (h) (cells) (slots) := by
  intro ad ls H locs I
  exact lv_iload x.1 x.2.1 hd (I.1.at hL) (kk ad ls H locs (I.st fun hs => j_ok_cons (I.2.2.2.2.2.2.2 _ (List.mem_of_getElem? hL)) hs))
theorem j_fload (x : j_X p l s m args meth c D tyc A own cc nL) {i : Nat} {v : UInt32} (hd : decode cc pc = .ok (.fload i, 2)) (hL : L[i]? = some (some (.float v))) (kk : JJ p l e R s m args below meth c D tyc A n0 ad0 nL Q (pc + 2) (L) (.float v :: st) (h) (cells) (slots)) : JJ p l e R s m args below meth c D tyc A n0 ad0 nL Q (pc) (L) (st) (h) (cells) (slots) := by
  intro ad ls H locs I
  exact lv_fload x.1 x.2.1 hd (I.1.at hL) (kk ad ls H locs (I.st fun hs => j_ok_cons (I.2.2.2.2.2.2.2 _ (List.mem_of_getElem? hL)) hs))
theorem j_dload (x : j_X p l s m args meth c D tyc A own cc nL) {i : Nat} {v : UInt64} (hd : decode cc pc = .ok (.dload i, 2)) (hL : L[i]? = some (some (.double v))) (kk : JJ p l e R s m args below meth c D tyc A n0 ad0 nL Q (pc + 2) (L) (.double v :: st) (h) (cells) (slots)) : JJ p l e R s m args below meth c D tyc A n0 ad0 nL Q (pc) (L) (st) (h) (cells) (slots) := by
  intro ad ls H locs I
  exact lv_dload x.1 x.2.1 hd (I.1.at hL) (kk ad ls H locs (I.st fun hs => j_ok_cons (I.2.2.2.2.2.2.2 _ (List.mem_of_getElem? hL)) hs))
theorem j_aload_n (x : j_X p l s m args meth c D tyc A own cc nL) {k : Fin 4} {a : Nat} (hd : decode cc pc = .ok (.aload_n k, 1)) (hL : L[(k : Nat)]? = some (some (.ref a))) (kk : JJ p l e R s m args below meth c D tyc A n0 ad0 nL Q (pc + 1) (L) (.ref a :: st) (h) (cells) (slots)) : JJ p l e R s m args below meth c D tyc A n0 ad0 nL Q (pc) (L) (st) (h) (cells) (slots) := by
  intro ad ls H locs I
  exact lv_aload_n x.1 x.2.1 hd rfl (I.1.at hL) (kk ad ls H locs (I.st fun hs => j_ok_cons (I.2.2.2.2.2.2.2 _ (List.mem_of_getElem? hL)) hs))
theorem j_aload_nN (x : j_X p l s m args meth c D tyc A own cc nL) {k : Fin 4} (hd : decode cc pc = .ok (.aload_n k, 1)) (hL : L[(k : Nat)]? = some (some .null)) (kk : JJ p l e R s m args below meth c D tyc A n0 ad0 nL Q (pc + 1) (L) (.null :: st) (h) (cells) (slots)) : JJ p l e R s m args below meth c D tyc A n0 ad0 nL Q (pc) (L) (st) (h) (cells) (slots) := by
  intro ad ls H locs I
  exact lv_aload_nN x.1 x.2.1 hd rfl (I.1.at hL) (kk ad ls H locs (I.st fun hs => j_ok_cons (I.2.2.2.2.2.2.2 _ (List.mem_of_getElem? hL)) hs))
theorem j_aload (x : j_X p l s m args meth c D tyc A own cc nL) {i : Nat} {a : Nat} (hd : decode cc pc = .ok (.aload i, 2)) (hL : L[i]? = some (some (.ref a))) (kk : JJ p l e R s m args below meth c D tyc A n0 ad0 nL Q (pc + 2) (L) (.ref a :: st) (h) (cells) (slots)) : JJ p l e R s m args below meth c D tyc A n0 ad0 nL Q (pc) (L) (st) (h) (cells) (slots) := by
  intro ad ls H locs I
  exact lv_aload x.1 x.2.1 hd (I.1.at hL) (kk ad ls H locs (I.st fun hs => j_ok_cons (I.2.2.2.2.2.2.2 _ (List.mem_of_getElem? hL)) hs))
theorem j_aloadN (x : j_X p l s m args meth c D tyc A own cc nL) {i : Nat} (hd : decode cc pc = .ok (.aload i, 2)) (hL : L[i]? = some (some .null)) (kk : JJ p l e R s m args below meth c D tyc A n0 ad0 nL Q (pc + 2) (L) (.null :: st) (h) (cells) (slots)) : JJ p l e R s m args below meth c D tyc A n0 ad0 nL Q (pc) (L) (st) (h) (cells) (slots) := by
  intro ad ls H locs I
  exact lv_aloadN x.1 x.2.1 hd (I.1.at hL) (kk ad ls H locs (I.st fun hs => j_ok_cons (I.2.2.2.2.2.2.2 _ (List.mem_of_getElem? hL)) hs))
theorem j_istore_n (x : j_X p l s m args meth c D tyc A own cc nL) {k : Fin 4} {v : Int32} (hd : decode cc pc = .ok (.istore_n k, 1)) (hn : (k : Nat) < nL) (hc : j_c1 L (k : Nat) = true) (kk : JJ p l e R s m args below meth c D tyc A n0 ad0 nL Q (pc + 1) (L.set (k : Nat) (some (.int v))) (st) (h) (cells) (slots)) : JJ p l e R s m args below meth c D tyc A n0 ad0 nL Q (pc) (L) (.int v :: st) (h) (cells) (slots) := by
  intro ad ls H locs I
  exact lv_istore_n x.1 x.2.1 hd rfl I.1.has hn rfl (fun ls2 hl2 => kk ad ls2 H locs (I.lo j_ok_tl (I.1.store hn hc hl2) (j_ok_set I.2.2.2.2.2.2.2 (I.2.2.2.2.2.2.1 _ List.mem_cons_self))))
theorem j_istore (x : j_X p l s m args meth c D tyc A own cc nL) {i : Nat} {v : Int32} (hd : decode cc pc = .ok (.istore i, 2)) (hn : i < nL) (hc : j_c1 L i = true) (kk : JJ p l e R s m args below meth c D tyc A n0 ad0 nL Q (pc + 2) (L.set i (some (.int v))) (st) (h) (cells) (slots)) : JJ p l e R s m args below meth c D tyc A n0 ad0 nL Q (pc) (L) (.int v :: st) (h) (cells) (slots) := by
  intro ad ls H locs I
  exact lv_istore x.1 x.2.1 hd I.1.has hn rfl (fun ls2 hl2 => kk ad ls2 H locs (I.lo j_ok_tl (I.1.store hn hc hl2) (j_ok_set I.2.2.2.2.2.2.2 (I.2.2.2.2.2.2.1 _ List.mem_cons_self))))
theorem j_astore_n (x : j_X p l s m args meth c D tyc A own cc nL) {k : Fin 4} {v : Nat} (hd : decode cc pc = .ok (.astore_n k, 1)) (hn : (k : Nat) < nL) (hc : j_c1 L (k : Nat) = true) (kk : JJ p l e R s m args below meth c D tyc A n0 ad0 nL Q (pc + 1) (L.set (k : Nat) (some (.ref v))) (st) (h) (cells) (slots)) : JJ p l e R s m args below meth c D tyc A n0 ad0 nL Q (pc) (L) (.ref v :: st) (h) (cells) (slots) := by
  intro ad ls H locs I
  exact lv_astore_n x.1 x.2.1 hd rfl I.1.has hn rfl (fun ls2 hl2 => kk ad ls2 H locs (I.lo j_ok_tl (I.1.store hn hc hl2) (j_ok_set I.2.2.2.2.2.2.2 (I.2.2.2.2.2.2.1 _ List.mem_cons_self))))
theorem j_astore (x : j_X p l s m args meth c D tyc A own cc nL) {i : Nat} {v : Nat} (hd : decode cc pc = .ok (.astore i, 2)) (hn : i < nL) (hc : j_c1 L i = true) (kk : JJ p l e R s m args below meth c D tyc A n0 ad0 nL Q (pc + 2) (L.set i (some (.ref v))) (st) (h) (cells) (slots)) : JJ p l e R s m args below meth c D tyc A n0 ad0 nL Q (pc) (L) (.ref v :: st) (h) (cells) (slots) := by
  intro ad ls H locs I
  exact lv_astore x.1 x.2.1 hd I.1.has hn rfl (fun ls2 hl2 => kk ad ls2 H locs (I.lo j_ok_tl (I.1.store hn hc hl2) (j_ok_set I.2.2.2.2.2.2.2 (I.2.2.2.2.2.2.1 _ List.mem_cons_self))))
theorem j_fstore (x : j_X p l s m args meth c D tyc A own cc nL) {i : Nat} {v : UInt32} (hd : decode cc pc = .ok (.fstore i, 2)) (hn : i < nL) (hc : j_c1 L i = true) (kk : JJ p l e R s m args below meth c D tyc A n0 ad0 nL Q (pc + 2) (L.set i (some (.float v))) (st) (h) (cells) (slots)) : JJ p l e R s m args below meth c D tyc A n0 ad0 nL Q (pc) (L) (.float v :: st) (h) (cells) (slots) := by
  intro ad ls H locs I
  exact lv_fstore x.1 x.2.1 hd I.1.has hn rfl (fun ls2 hl2 => kk ad ls2 H locs (I.lo j_ok_tl (I.1.store hn hc hl2) (j_ok_set I.2.2.2.2.2.2.2 (I.2.2.2.2.2.2.1 _ List.mem_cons_self))))
theorem j_astore_nN (x : j_X p l s m args meth c D tyc A own cc nL) {k : Fin 4}  (hd : decode cc pc = .ok (.astore_n k, 1)) (hn : (k : Nat) < nL) (hc : j_c1 L (k : Nat) = true) (kk : JJ p l e R s m args below meth c D tyc A n0 ad0 nL Q (pc + 1) (L.set (k : Nat) (some (.null))) (st) (h) (cells) (slots)) : JJ p l e R s m args below meth c D tyc A n0 ad0 nL Q (pc) (L) (.null :: st) (h) (cells) (slots) := by
  intro ad ls H locs I
  exact lv_astore_nN x.1 x.2.1 hd rfl I.1.has hn rfl (fun ls2 hl2 => kk ad ls2 H locs (I.lo j_ok_tl (I.1.store hn hc hl2) (j_ok_set I.2.2.2.2.2.2.2 (I.2.2.2.2.2.2.1 _ List.mem_cons_self))))
theorem j_iinc (x : j_X p l s m args meth c D tyc A own cc nL) {i : Nat} {n : Int} {v : Int32} (hd : decode cc pc = .ok (.iinc i n, 3)) (hL : L[i]? = some (some (.int v))) (hn : i < nL) (hc : j_c1 L i = true) (kk : JJ p l e R s m args below meth c D tyc A n0 ad0 nL Q (pc + 3) (L.set i (some (.int (v + Int32.ofInt n)))) (st) (h) (cells) (slots)) : JJ p l e R s m args below meth c D tyc A n0 ad0 nL Q (pc) (L) (st) (h) (cells) (slots) := by
  intro ad ls H locs I
  obtain ⟨k, hk⟩ := List.getElem?_of_mem (j_lv_mem (ad := ad) hL)
  exact lv_iinc x.1 x.2.1 hd I.1.has hk rfl hn rfl (fun ls2 hl2 => kk ad ls2 H locs (I.lo id (I.1.store (v := .int (v + Int32.ofInt n)) hn hc hl2) (j_ok_set I.2.2.2.2.2.2.2 j_ok_int)))
theorem j_iconst (x : j_X p l s m args meth c D tyc A own cc nL) {n : Int} {v : Int32} (hd : decode cc pc = .ok (.iconst n, 1)) (hv : Int32.ofInt n = v) (kk : JJ p l e R s m args below meth c D tyc A n0 ad0 nL Q (pc + 1) (L) (.int v :: st) (h) (cells) (slots)) : JJ p l e R s m args below meth c D tyc A n0 ad0 nL Q (pc) (L) (st) (h) (cells) (slots) := by
  intro ad ls H locs I
  exact lv_iconst x.1 x.2.1 hd hv (kk ad ls H locs (I.st fun hs => j_ok_cons j_ok_int hs))
theorem j_bipush (x : j_X p l s m args meth c D tyc A own cc nL) {n : Int} {v : Int32} (hd : decode cc pc = .ok (.bipush n, 2)) (hv : (Int8.ofInt n).toInt32 = v) (kk : JJ p l e R s m args below meth c D tyc A n0 ad0 nL Q (pc + 2) (L) (.int v :: st) (h) (cells) (slots)) : JJ p l e R s m args below meth c D tyc A n0 ad0 nL Q (pc) (L) (st) (h) (cells) (slots) := by
  intro ad ls H locs I
  exact lv_bipush x.1 x.2.1 hd hv (kk ad ls H locs (I.st fun hs => j_ok_cons j_ok_int hs))
theorem j_sipush (x : j_X p l s m args meth c D tyc A own cc nL) {n : Int} {v : Int32} (hd : decode cc pc = .ok (.sipush n, 3)) (hv : (Int16.ofInt n).toInt32 = v) (kk : JJ p l e R s m args below meth c D tyc A n0 ad0 nL Q (pc + 3) (L) (.int v :: st) (h) (cells) (slots)) : JJ p l e R s m args below meth c D tyc A n0 ad0 nL Q (pc) (L) (st) (h) (cells) (slots) := by
  intro ad ls H locs I
  exact lv_sipush x.1 x.2.1 hd hv (kk ad ls H locs (I.st fun hs => j_ok_cons j_ok_int hs))
theorem j_lconst (x : j_X p l s m args meth c D tyc A own cc nL) {n : Fin 2} {v : Int64} (hd : decode cc pc = .ok (.lconst n, 1)) (hv : Int64.ofNat (n : Nat) = v) (kk : JJ p l e R s m args below meth c D tyc A n0 ad0 nL Q (pc + 1) (L) (.long v :: st) (h) (cells) (slots)) : JJ p l e R s m args below meth c D tyc A n0 ad0 nL Q (pc) (L) (st) (h) (cells) (slots) := by
  intro ad ls H locs I
  exact lv_lconst x.1 x.2.1 hd hv (kk ad ls H locs (I.st fun hs => j_ok_cons j_ok_long hs))
theorem j_null (x : j_X p l s m args meth c D tyc A own cc nL) (hd : decode cc pc = .ok (.aconst_null, 1)) (kk : JJ p l e R s m args below meth c D tyc A n0 ad0 nL Q (pc + 1) (L) (.null :: st) (h) (cells) (slots)) : JJ p l e R s m args below meth c D tyc A n0 ad0 nL Q (pc) (L) (st) (h) (cells) (slots) := by
  intro ad ls H locs I
  exact lv_null x.1 x.2.1 hd (kk ad ls H locs (I.st fun hs => j_ok_cons j_ok_null hs))
theorem j_ldci (x : j_X p l s m args meth c D tyc A own cc nL) {i : Nat} {v : Int32} (hd : decode cc pc = .ok (.ldc i, 2)) (hw : Cond.constant own i v ∈ j_all) (kk : JJ p l e R s m args below meth c D tyc A n0 ad0 nL Q (pc + 2) (L) (.int v :: st) (h) (cells) (slots)) : JJ p l e R s m args below meth c D tyc A n0 ad0 nL Q (pc) (L) (st) (h) (cells) (slots) := by
  intro ad ls H locs I
  exact lv_ldc x.1 x.2.1 x.2.2.2.1 (x.2.2.2.2.1 _ hw) hd (kk ad ls H locs (I.st fun hs => j_ok_cons j_ok_int hs))
theorem j_ldcwi (x : j_X p l s m args meth c D tyc A own cc nL) {i : Nat} {v : Int32} (hd : decode cc pc = .ok (.ldc_w i, 3)) (hw : Cond.constant own i v ∈ j_all) (kk : JJ p l e R s m args below meth c D tyc A n0 ad0 nL Q (pc + 3) (L) (.int v :: st) (h) (cells) (slots)) : JJ p l e R s m args below meth c D tyc A n0 ad0 nL Q (pc) (L) (st) (h) (cells) (slots) := by
  intro ad ls H locs I
  exact lv_ldcw x.1 x.2.1 x.2.2.2.1 (x.2.2.2.2.1 _ hw) hd (kk ad ls H locs (I.st fun hs => j_ok_cons j_ok_int hs))
theorem j_iadd (x : j_X p l s m args meth c D tyc A own cc nL) {v w : Int32} (hd : decode cc pc = .ok (.iadd, 1)) (kk : JJ p l e R s m args below meth c D tyc A n0 ad0 nL Q (pc + 1) (L) (.int (v + w) :: st) (h) (cells) (slots)) : JJ p l e R s m args below meth c D tyc A n0 ad0 nL Q (pc) (L) (.int w :: .int v :: st) (h) (cells) (slots) := by
  intro ad ls H locs I
  exact lv_iadd x.1 x.2.1 hd (kk ad ls H locs (I.st fun hs => j_ok_cons j_ok_int (j_ok_tl (j_ok_tl hs))))
theorem j_isub (x : j_X p l s m args meth c D tyc A own cc nL) {v w : Int32} (hd : decode cc pc = .ok (.isub, 1)) (kk : JJ p l e R s m args below meth c D tyc A n0 ad0 nL Q (pc + 1) (L) (.int (v - w) :: st) (h) (cells) (slots)) : JJ p l e R s m args below meth c D tyc A n0 ad0 nL Q (pc) (L) (.int w :: .int v :: st) (h) (cells) (slots) := by
  intro ad ls H locs I
  exact lv_isub x.1 x.2.1 hd (kk ad ls H locs (I.st fun hs => j_ok_cons j_ok_int (j_ok_tl (j_ok_tl hs))))
theorem j_imul (x : j_X p l s m args meth c D tyc A own cc nL) {v w : Int32} (hd : decode cc pc = .ok (.imul, 1)) (kk : JJ p l e R s m args below meth c D tyc A n0 ad0 nL Q (pc + 1) (L) (.int (v * w) :: st) (h) (cells) (slots)) : JJ p l e R s m args below meth c D tyc A n0 ad0 nL Q (pc) (L) (.int w :: .int v :: st) (h) (cells) (slots) := by
  intro ad ls H locs I
  exact lv_imul x.1 x.2.1 hd (kk ad ls H locs (I.st fun hs => j_ok_cons j_ok_int (j_ok_tl (j_ok_tl hs))))
theorem j_iand (x : j_X p l s m args meth c D tyc A own cc nL) {v w : Int32} (hd : decode cc pc = .ok (.iand, 1)) (kk : JJ p l e R s m args below meth c D tyc A n0 ad0 nL Q (pc + 1) (L) (.int (v &&& w) :: st) (h) (cells) (slots)) : JJ p l e R s m args below meth c D tyc A n0 ad0 nL Q (pc) (L) (.int w :: .int v :: st) (h) (cells) (slots) := by
  intro ad ls H locs I
  exact lv_iand x.1 x.2.1 hd (kk ad ls H locs (I.st fun hs => j_ok_cons j_ok_int (j_ok_tl (j_ok_tl hs))))
theorem j_ior (x : j_X p l s m args meth c D tyc A own cc nL) {v w : Int32} (hd : decode cc pc = .ok (.ior, 1)) (kk : JJ p l e R s m args below meth c D tyc A n0 ad0 nL Q (pc + 1) (L) (.int (v ||| w) :: st) (h) (cells) (slots)) : JJ p l e R s m args below meth c D tyc A n0 ad0 nL Q (pc) (L) (.int w :: .int v :: st) (h) (cells) (slots) := by
  intro ad ls H locs I
  exact lv_ior x.1 x.2.1 hd (kk ad ls H locs (I.st fun hs => j_ok_cons j_ok_int (j_ok_tl (j_ok_tl hs))))
theorem j_ixor (x : j_X p l s m args meth c D tyc A own cc nL) {v w : Int32} (hd : decode cc pc = .ok (.ixor, 1)) (kk : JJ p l e R s m args below meth c D tyc A n0 ad0 nL Q (pc + 1) (L) (.int (v ^^^ w) :: st) (h) (cells) (slots)) : JJ p l e R s m args below meth c D tyc A n0 ad0 nL Q (pc) (L) (.int w :: .int v :: st) (h) (cells) (slots) := by
  intro ad ls H locs I
  exact lv_ixor x.1 x.2.1 hd (kk ad ls H locs (I.st fun hs => j_ok_cons j_ok_int (j_ok_tl (j_ok_tl hs))))
theorem j_ishl (x : j_X p l s m args meth c D tyc A own cc nL) {v w : Int32} (hd : decode cc pc = .ok (.ishl, 1)) (kk : JJ p l e R s m args below meth c D tyc A n0 ad0 nL Q (pc + 1) (L) (.int (v <<< (w &&& 31)) :: st) (h) (cells) (slots)) : JJ p l e R s m args below meth c D tyc A n0 ad0 nL Q (pc) (L) (.int w :: .int v :: st) (h) (cells) (slots) := by
  intro ad ls H locs I
  exact lv_ishl x.1 x.2.1 hd (kk ad ls H locs (I.st fun hs => j_ok_cons j_ok_int (j_ok_tl (j_ok_tl hs))))
theorem j_ishr (x : j_X p l s m args meth c D tyc A own cc nL) {v w : Int32} (hd : decode cc pc = .ok (.ishr, 1)) (kk : JJ p l e R s m args below meth c D tyc A n0 ad0 nL Q (pc + 1) (L) (.int (v >>> (w &&& 31)) :: st) (h) (cells) (slots)) : JJ p l e R s m args below meth c D tyc A n0 ad0 nL Q (pc) (L) (.int w :: .int v :: st) (h) (cells) (slots) := by
  intro ad ls H locs I
  exact lv_ishr x.1 x.2.1 hd (kk ad ls H locs (I.st fun hs => j_ok_cons j_ok_int (j_ok_tl (j_ok_tl hs))))
theorem j_idiv (x : j_X p l s m args meth c D tyc A own cc nL) {v w : Int32} (hd : decode cc pc = .ok (.idiv, 1)) (h0 : ¬ w = 0) (kk : JJ p l e R s m args below meth c D tyc A n0 ad0 nL Q (pc + 1) (L) (.int (v / w) :: st) (h) (cells) (slots)) : JJ p l e R s m args below meth c D tyc A n0 ad0 nL Q (pc) (L) (.int w :: .int v :: st) (h) (cells) (slots) := by
  intro ad ls H locs I
  exact lv_idiv x.1 x.2.1 hd h0 (kk ad ls H locs (I.st fun hs => j_ok_cons j_ok_int (j_ok_tl (j_ok_tl hs))))
theorem j_irem (x : j_X p l s m args meth c D tyc A own cc nL) {v w : Int32} (hd : decode cc pc = .ok (.irem, 1)) (h0 : ¬ w = 0) (kk : JJ p l e R s m args below meth c D tyc A n0 ad0 nL Q (pc + 1) (L) (.int (v - v / w * w) :: st) (h) (cells) (slots)) : JJ p l e R s m args below meth c D tyc A n0 ad0 nL Q (pc) (L) (.int w :: .int v :: st) (h) (cells) (slots) := by
  intro ad ls H locs I
  exact lv_irem x.1 x.2.1 hd h0 (kk ad ls H locs (I.st fun hs => j_ok_cons j_ok_int (j_ok_tl (j_ok_tl hs))))
theorem j_iushr (x : j_X p l s m args meth c D tyc A own cc nL) {v w : Int32} (hd : decode cc pc = .ok (.iushr, 1)) (kk : JJ p l e R s m args below meth c D tyc A n0 ad0 nL Q (pc + 1) (L) (.int ((v.toUInt32 >>> (w.toUInt32 &&& Int32.toUInt32 31)).toInt32) :: st) (h) (cells) (slots)) : JJ p l e R s m args below meth c D tyc A n0 ad0 nL Q (pc) (L) (.int w :: .int v :: st) (h) (cells) (slots) := by
  intro ad ls H locs I
  exact lv_iushr x.1 x.2.1 hd rfl (kk ad ls H locs (I.st fun hs => j_ok_cons j_ok_int (j_ok_tl (j_ok_tl hs))))
theorem j_ineg (x : j_X p l s m args meth c D tyc A own cc nL) {v : Int32} (hd : decode cc pc = .ok (.ineg, 1)) (kk : JJ p l e R s m args below meth c D tyc A n0 ad0 nL Q (pc + 1) (L) (.int (-v) :: st) (h) (cells) (slots)) : JJ p l e R s m args below meth c D tyc A n0 ad0 nL Q (pc) (L) (.int v :: st) (h) (cells) (slots) := by
  intro ad ls H locs I
  exact lv_ineg x.1 x.2.1 hd (kk ad ls H locs (I.st fun hs => j_ok_cons j_ok_int (j_ok_tl hs)))
theorem j_i2c (x : j_X p l s m args meth c D tyc A own cc nL) {v : Int32} (hd : decode cc pc = .ok (.i2c, 1)) (kk : JJ p l e R s m args below meth c D tyc A n0 ad0 nL Q (pc + 1) (L) (.int ((v.toUInt32 % 65536).toInt32) :: st) (h) (cells) (slots)) : JJ p l e R s m args below meth c D tyc A n0 ad0 nL Q (pc) (L) (.int v :: st) (h) (cells) (slots) := by
  intro ad ls H locs I
  exact lv_i2c x.1 x.2.1 hd rfl (kk ad ls H locs (I.st fun hs => j_ok_cons j_ok_int (j_ok_tl hs)))
theorem j_i2b (x : j_X p l s m args meth c D tyc A own cc nL) {v : Int32} (hd : decode cc pc = .ok (.i2b, 1)) (kk : JJ p l e R s m args below meth c D tyc A n0 ad0 nL Q (pc + 1) (L) (.int (v.toInt8.toInt32) :: st) (h) (cells) (slots)) : JJ p l e R s m args below meth c D tyc A n0 ad0 nL Q (pc) (L) (.int v :: st) (h) (cells) (slots) := by
  intro ad ls H locs I
  exact lv_i2b x.1 x.2.1 hd rfl (kk ad ls H locs (I.st fun hs => j_ok_cons j_ok_int (j_ok_tl hs)))
theorem j_i2l (x : j_X p l s m args meth c D tyc A own cc nL) {v : Int32} (hd : decode cc pc = .ok (.i2l, 1)) (kk : JJ p l e R s m args below meth c D tyc A n0 ad0 nL Q (pc + 1) (L) (.long v.toInt64 :: st) (h) (cells) (slots)) : JJ p l e R s m args below meth c D tyc A n0 ad0 nL Q (pc) (L) (.int v :: st) (h) (cells) (slots) := by
  intro ad ls H locs I
  exact lv_i2l x.1 x.2.1 hd rfl (kk ad ls H locs (I.st fun hs => j_ok_cons j_ok_long (j_ok_tl hs)))
theorem j_i2d (x : j_X p l s m args meth c D tyc A own cc nL) {v : Int32} (hd : decode cc pc = .ok (.i2d, 1)) (kk : JJ p l e R s m args below meth c D tyc A n0 ad0 nL Q (pc + 1) (L) (.double (FP.i2d v) :: st) (h) (cells) (slots)) : JJ p l e R s m args below meth c D tyc A n0 ad0 nL Q (pc) (L) (.int v :: st) (h) (cells) (slots) := by
  intro ad ls H locs I
  exact lv_i2d x.1 x.2.1 hd (kk ad ls H locs (I.st fun hs => j_ok_cons j_ok_double (j_ok_tl hs)))
theorem j_i2f (x : j_X p l s m args meth c D tyc A own cc nL) {v : Int32} (hd : decode cc pc = .ok (.i2f, 1)) (kk : JJ p l e R s m args below meth c D tyc A n0 ad0 nL Q (pc + 1) (L) (.float (FP.i2f v) :: st) (h) (cells) (slots)) : JJ p l e R s m args below meth c D tyc A n0 ad0 nL Q (pc) (L) (.int v :: st) (h) (cells) (slots) := by
  intro ad ls H locs I
  exact lv_i2f x.1 x.2.1 hd (kk ad ls H locs (I.st fun hs => j_ok_cons j_ok_float (j_ok_tl hs)))
theorem j_lcmp (x : j_X p l s m args meth c D tyc A own cc nL) {v w : Int64} (hd : decode cc pc = .ok (.lcmp, 1)) (kk : JJ p l e R s m args below meth c D tyc A n0 ad0 nL Q (pc + 1) (L) (.int (lg_cmp v w) :: st) (h) (cells) (slots)) : JJ p l e R s m args below meth c D tyc A n0 ad0 nL Q (pc) (L) (.long w :: .long v :: st) (h) (cells) (slots) := by
  intro ad ls H locs I
  exact W.lcmp x.1 x.2.1 hd (kk ad ls H locs (I.st fun hs => j_ok_cons j_ok_int (j_ok_tl (j_ok_tl hs))))
theorem j_pop (x : j_X p l s m args meth c D tyc A own cc nL) {v : Value} (hd : decode cc pc = .ok (.pop, 1)) (hv : v.category = 1) (kk : JJ p l e R s m args below meth c D tyc A n0 ad0 nL Q (pc + 1) (L) (st) (h) (cells) (slots)) : JJ p l e R s m args below meth c D tyc A n0 ad0 nL Q (pc) (L) (v :: st) (h) (cells) (slots) := by
  intro ad ls H locs I
  exact lv_pop x.1 x.2.1 hd ((j_cv_cat ad v).trans hv) (kk ad ls H locs (I.st j_ok_tl))
theorem j_dup (x : j_X p l s m args meth c D tyc A own cc nL) {v : Value} (hd : decode cc pc = .ok (.dup, 1)) (hv : v.category = 1) (kk : JJ p l e R s m args below meth c D tyc A n0 ad0 nL Q (pc + 1) (L) (v :: v :: st) (h) (cells) (slots)) : JJ p l e R s m args below meth c D tyc A n0 ad0 nL Q (pc) (L) (v :: st) (h) (cells) (slots) := by
  intro ad ls H locs I
  exact lv_dup x.1 x.2.1 hd ((j_cv_cat ad v).trans hv) (kk ad ls H locs (I.st fun hs => j_ok_cons (hs _ List.mem_cons_self) hs))
theorem j_dup_x1 (x : j_X p l s m args meth c D tyc A own cc nL) {v w : Value} (hd : decode cc pc = .ok (.dup_x1, 1)) (hv : v.category = 1) (hw : w.category = 1) (kk : JJ p l e R s m args below meth c D tyc A n0 ad0 nL Q (pc + 1) (L) (v :: w :: v :: st) (h) (cells) (slots)) : JJ p l e R s m args below meth c D tyc A n0 ad0 nL Q (pc) (L) (v :: w :: st) (h) (cells) (slots) := by
  intro ad ls H locs I
  exact lv_dup_x1 x.1 x.2.1 hd ((j_cv_cat ad v).trans hv) ((j_cv_cat ad w).trans hw) (kk ad ls H locs (I.st fun hs => j_ok_cons (hs _ List.mem_cons_self) (j_ok_cons (j_ok_tl hs _ List.mem_cons_self) (j_ok_cons (hs _ List.mem_cons_self) (j_ok_tl (j_ok_tl hs))))))
theorem j_dup_x2 (x : j_X p l s m args meth c D tyc A own cc nL) {v w u : Value} (hd : decode cc pc = .ok (.dup_x2, 1)) (hv : v.category = 1) (hw : w.category = 1) (hu : u.category = 1) (kk : JJ p l e R s m args below meth c D tyc A n0 ad0 nL Q (pc + 1) (L) (v :: w :: u :: v :: st) (h) (cells) (slots)) : JJ p l e R s m args below meth c D tyc A n0 ad0 nL Q (pc) (L) (v :: w :: u :: st) (h) (cells) (slots) := by
  intro ad ls H locs I
  exact lv_dup_x2 x.1 x.2.1 hd ((j_cv_cat ad v).trans hv) ((j_cv_cat ad w).trans hw) ((j_cv_cat ad u).trans hu) (kk ad ls H locs (I.st fun hs => j_ok_cons (hs _ List.mem_cons_self) (j_ok_cons (j_ok_tl hs _ List.mem_cons_self) (j_ok_cons (j_ok_tl (j_ok_tl hs) _ List.mem_cons_self) (j_ok_cons (hs _ List.mem_cons_self) (j_ok_tl (j_ok_tl (j_ok_tl hs))))))))
theorem j_dup2 (x : j_X p l s m args meth c D tyc A own cc nL) {v w : Value} (hd : decode cc pc = .ok (.dup2, 1)) (hv : v.category = 1) (hw : w.category = 1) (kk : JJ p l e R s m args below meth c D tyc A n0 ad0 nL Q (pc + 1) (L) (v :: w :: v :: w :: st) (h) (cells) (slots)) : JJ p l e R s m args below meth c D tyc A n0 ad0 nL Q (pc) (L) (v :: w :: st) (h) (cells) (slots) := by
  intro ad ls H locs I
  exact lv_dup2_11 x.1 x.2.1 hd ((j_cv_cat ad v).trans hv) ((j_cv_cat ad w).trans hw) (kk ad ls H locs (I.st fun hs => j_ok_cons (hs _ List.mem_cons_self) (j_ok_cons (j_ok_tl hs _ List.mem_cons_self) hs)))
theorem j_if_eq (x : j_X p l s m args meth c D tyc A own cc nL) {v : Int32} {off : Int} {tgt : Nat} (hd : decode cc pc = .ok (.ifCond .eq off, 3)) (ht : (pc : Int) + off = (tgt : Int)) (kt : v = 0 → JJ p l e R s m args below meth c D tyc A n0 ad0 nL Q (tgt) (L) (st) (h) (cells) (slots)) (kf : ¬ v = 0 → JJ p l e R s m args below meth c D tyc A n0 ad0 nL Q (pc + 3) (L) (st) (h) (cells) (slots)) : JJ p l e R s m args below meth c D tyc A n0 ad0 nL Q (pc) (L) (.int v :: st) (h) (cells) (slots) := by
  intro ad ls H locs I
  exact lv_if_eq x.1 x.2.1 hd ht (fun hc => kt hc ad ls H locs (I.st j_ok_tl)) (fun hc => kf hc ad ls H locs (I.st j_ok_tl))
theorem j_icmp_eq (x : j_X p l s m args meth c D tyc A own cc nL) {v w : Int32} {off : Int} {tgt : Nat} (hd : decode cc pc = .ok (.if_icmp .eq off, 3)) (ht : (pc : Int) + off = (tgt : Int)) (kt : v = w → JJ p l e R s m args below meth c D tyc A n0 ad0 nL Q (tgt) (L) (st) (h) (cells) (slots)) (kf : ¬ v = w → JJ p l e R s m args below meth c D tyc A n0 ad0 nL Q (pc + 3) (L) (st) (h) (cells) (slots)) : JJ p l e R s m args below meth c D tyc A n0 ad0 nL Q (pc) (L) (.int w :: .int v :: st) (h) (cells) (slots) := by
  intro ad ls H locs I
  exact lv_icmp_eq x.1 x.2.1 hd ht (fun hc => kt hc ad ls H locs (I.st fun hs => j_ok_tl (j_ok_tl hs))) (fun hc => kf hc ad ls H locs (I.st fun hs => j_ok_tl (j_ok_tl hs)))
theorem j_if_ne (x : j_X p l s m args meth c D tyc A own cc nL) {v : Int32} {off : Int} {tgt : Nat} (hd : decode cc pc = .ok (.ifCond .ne off, 3)) (ht : (pc : Int) + off = (tgt : Int)) (kt : ¬ v = 0 → JJ p l e R s m args below meth c D tyc A n0 ad0 nL Q (tgt) (L) (st) (h) (cells) (slots)) (kf : v = 0 → JJ p l e R s m args below meth c D tyc A n0 ad0 nL Q (pc + 3) (L) (st) (h) (cells) (slots)) : JJ p l e R s m args below meth c D tyc A n0 ad0 nL Q (pc) (L) (.int v :: st) (h) (cells) (slots) := by
  intro ad ls H locs I
  exact lv_if_ne x.1 x.2.1 hd ht (fun hc => kt hc ad ls H locs (I.st j_ok_tl)) (fun hc => kf hc ad ls H locs (I.st j_ok_tl))
theorem j_icmp_ne (x : j_X p l s m args meth c D tyc A own cc nL) {v w : Int32} {off : Int} {tgt : Nat} (hd : decode cc pc = .ok (.if_icmp .ne off, 3)) (ht : (pc : Int) + off = (tgt : Int)) (kt : ¬ v = w → JJ p l e R s m args below meth c D tyc A n0 ad0 nL Q (tgt) (L) (st) (h) (cells) (slots)) (kf : v = w → JJ p l e R s m args below meth c D tyc A n0 ad0 nL Q (pc + 3) (L) (st) (h) (cells) (slots)) : JJ p l e R s m args below meth c D tyc A n0 ad0 nL Q (pc) (L) (.int w :: .int v :: st) (h) (cells) (slots) := by
  intro ad ls H locs I
  exact lv_icmp_ne x.1 x.2.1 hd ht (fun hc => kt hc ad ls H locs (I.st fun hs => j_ok_tl (j_ok_tl hs))) (fun hc => kf hc ad ls H locs (I.st fun hs => j_ok_tl (j_ok_tl hs)))
theorem j_if_lt (x : j_X p l s m args meth c D tyc A own cc nL) {v : Int32} {off : Int} {tgt : Nat} (hd : decode cc pc = .ok (.ifCond .lt off, 3)) (ht : (pc : Int) + off = (tgt : Int)) (kt : v < 0 → JJ p l e R s m args below meth c D tyc A n0 ad0 nL Q (tgt) (L) (st) (h) (cells) (slots)) (kf : ¬ v < 0 → JJ p l e R s m args below meth c D tyc A n0 ad0 nL Q (pc + 3) (L) (st) (h) (cells) (slots)) : JJ p l e R s m args below meth c D tyc A n0 ad0 nL Q (pc) (L) (.int v :: st) (h) (cells) (slots) := by
  intro ad ls H locs I
  exact lv_if_lt x.1 x.2.1 hd ht (fun hc => kt hc ad ls H locs (I.st j_ok_tl)) (fun hc => kf hc ad ls H locs (I.st j_ok_tl))
theorem j_icmp_lt (x : j_X p l s m args meth c D tyc A own cc nL) {v w : Int32} {off : Int} {tgt : Nat} (hd : decode cc pc = .ok (.if_icmp .lt off, 3)) (ht : (pc : Int) + off = (tgt : Int)) (kt : v < w → JJ p l e R s m args below meth c D tyc A n0 ad0 nL Q (tgt) (L) (st) (h) (cells) (slots)) (kf : ¬ v < w → JJ p l e R s m args below meth c D tyc A n0 ad0 nL Q (pc + 3) (L) (st) (h) (cells) (slots)) : JJ p l e R s m args below meth c D tyc A n0 ad0 nL Q (pc) (L) (.int w :: .int v :: st) (h) (cells) (slots) := by
  intro ad ls H locs I
  exact lv_icmp_lt x.1 x.2.1 hd ht (fun hc => kt hc ad ls H locs (I.st fun hs => j_ok_tl (j_ok_tl hs))) (fun hc => kf hc ad ls H locs (I.st fun hs => j_ok_tl (j_ok_tl hs)))
theorem j_if_ge (x : j_X p l s m args meth c D tyc A own cc nL) {v : Int32} {off : Int} {tgt : Nat} (hd : decode cc pc = .ok (.ifCond .ge off, 3)) (ht : (pc : Int) + off = (tgt : Int)) (kt : 0 ≤ v → JJ p l e R s m args below meth c D tyc A n0 ad0 nL Q (tgt) (L) (st) (h) (cells) (slots)) (kf : ¬ 0 ≤ v → JJ p l e R s m args below meth c D tyc A n0 ad0 nL Q (pc + 3) (L) (st) (h) (cells) (slots)) : JJ p l e R s m args below meth c D tyc A n0 ad0 nL Q (pc) (L) (.int v :: st) (h) (cells) (slots) := by
  intro ad ls H locs I
  exact lv_if_ge x.1 x.2.1 hd ht (fun hc => kt hc ad ls H locs (I.st j_ok_tl)) (fun hc => kf hc ad ls H locs (I.st j_ok_tl))
theorem j_icmp_ge (x : j_X p l s m args meth c D tyc A own cc nL) {v w : Int32} {off : Int} {tgt : Nat} (hd : decode cc pc = .ok (.if_icmp .ge off, 3)) (ht : (pc : Int) + off = (tgt : Int)) (kt : w ≤ v → JJ p l e R s m args below meth c D tyc A n0 ad0 nL Q (tgt) (L) (st) (h) (cells) (slots)) (kf : ¬ w ≤ v → JJ p l e R s m args below meth c D tyc A n0 ad0 nL Q (pc + 3) (L) (st) (h) (cells) (slots)) : JJ p l e R s m args below meth c D tyc A n0 ad0 nL Q (pc) (L) (.int w :: .int v :: st) (h) (cells) (slots) := by
  intro ad ls H locs I
  exact lv_icmp_ge x.1 x.2.1 hd ht (fun hc => kt hc ad ls H locs (I.st fun hs => j_ok_tl (j_ok_tl hs))) (fun hc => kf hc ad ls H locs (I.st fun hs => j_ok_tl (j_ok_tl hs)))
theorem j_if_gt (x : j_X p l s m args meth c D tyc A own cc nL) {v : Int32} {off : Int} {tgt : Nat} (hd : decode cc pc = .ok (.ifCond .gt off, 3)) (ht : (pc : Int) + off = (tgt : Int)) (kt : 0 < v → JJ p l e R s m args below meth c D tyc A n0 ad0 nL Q (tgt) (L) (st) (h) (cells) (slots)) (kf : ¬ 0 < v → JJ p l e R s m args below meth c D tyc A n0 ad0 nL Q (pc + 3) (L) (st) (h) (cells) (slots)) : JJ p l e R s m args below meth c D tyc A n0 ad0 nL Q (pc) (L) (.int v :: st) (h) (cells) (slots) := by
  intro ad ls H locs I
  exact lv_if_gt x.1 x.2.1 hd ht (fun hc => kt hc ad ls H locs (I.st j_ok_tl)) (fun hc => kf hc ad ls H locs (I.st j_ok_tl))
theorem j_icmp_gt (x : j_X p l s m args meth c D tyc A own cc nL) {v w : Int32} {off : Int} {tgt : Nat} (hd : decode cc pc = .ok (.if_icmp .gt off, 3)) (ht : (pc : Int) + off = (tgt : Int)) (kt : w < v → JJ p l e R s m args below meth c D tyc A n0 ad0 nL Q (tgt) (L) (st) (h) (cells) (slots)) (kf : ¬ w < v → JJ p l e R s m args below meth c D tyc A n0 ad0 nL Q (pc + 3) (L) (st) (h) (cells) (slots)) : JJ p l e R s m args below meth c D tyc A n0 ad0 nL Q (pc) (L) (.int w :: .int v :: st) (h) (cells) (slots) := by
  intro ad ls H locs I
  exact lv_icmp_gt x.1 x.2.1 hd ht (fun hc => kt hc ad ls H locs (I.st fun hs => j_ok_tl (j_ok_tl hs))) (fun hc => kf hc ad ls H locs (I.st fun hs => j_ok_tl (j_ok_tl hs)))
theorem j_if_le (x : j_X p l s m args meth c D tyc A own cc nL) {v : Int32} {off : Int} {tgt : Nat} (hd : decode cc pc = .ok (.ifCond .le off, 3)) (ht : (pc : Int) + off = (tgt : Int)) (kt : v ≤ 0 → JJ p l e R s m args below meth c D tyc A n0 ad0 nL Q (tgt) (L) (st) (h) (cells) (slots)) (kf : ¬ v ≤ 0 → JJ p l e R s m args below meth c D tyc A n0 ad0 nL Q (pc + 3) (L) (st) (h) (cells) (slots)) : JJ p l e R s m args below meth c D tyc A n0 ad0 nL Q (pc) (L) (.int v :: st) (h) (cells) (slots) := by
  intro ad ls H locs I
  exact lv_if_le x.1 x.2.1 hd ht (fun hc => kt hc ad ls H locs (I.st j_ok_tl)) (fun hc => kf hc ad ls H locs (I.st j_ok_tl))
theorem j_icmp_le (x : j_X p l s m args meth c D tyc A own cc nL) {v w : Int32} {off : Int} {tgt : Nat} (hd : decode cc pc = .ok (.if_icmp .le off, 3)) (ht : (pc : Int) + off = (tgt : Int)) (kt : v ≤ w → JJ p l e R s m args below meth c D tyc A n0 ad0 nL Q (tgt) (L) (st) (h) (cells) (slots)) (kf : ¬ v ≤ w → JJ p l e R s m args below meth c D tyc A n0 ad0 nL Q (pc + 3) (L) (st) (h) (cells) (slots)) : JJ p l e R s m args below meth c D tyc A n0 ad0 nL Q (pc) (L) (.int w :: .int v :: st) (h) (cells) (slots) := by
  intro ad ls H locs I
  exact lv_icmp_le x.1 x.2.1 hd ht (fun hc => kt hc ad ls H locs (I.st fun hs => j_ok_tl (j_ok_tl hs))) (fun hc => kf hc ad ls H locs (I.st fun hs => j_ok_tl (j_ok_tl hs)))
theorem j_goto (x : j_X p l s m args meth c D tyc A own cc nL) {off : Int} {tgt : Nat} (hd : decode cc pc = .ok (.goto off, 3)) (ht : (pc : Int) + off = (tgt : Int)) (kk : JJ p l e R s m args below meth c D tyc A n0 ad0 nL Q (tgt) (L) (st) (h) (cells) (slots)) : JJ p l e R s m args below meth c D tyc A n0 ad0 nL Q (pc) (L) (st) (h) (cells) (slots) := by
  intro ad ls H locs I
  exact lv_goto x.1 x.2.1 hd ht (kk ad ls H locs I)
theorem j_ifnull (x : j_X p l s m args meth c D tyc A own cc nL) {a : Nat} {off : Int} (hd : decode cc pc = .ok (.ifnull off, 3)) (kk : JJ p l e R s m args below meth c D tyc A n0 ad0 nL Q (pc + 3) (L) (st) (h) (cells) (slots)) : JJ p l e R s m args below meth c D tyc A n0 ad0 nL Q (pc) (L) (.ref a :: st) (h) (cells) (slots) := by
  intro ad ls H locs I
  exact lv_ifnull x.1 x.2.1 hd (kk ad ls H locs (I.st j_ok_tl))
theorem j_ifnullN (x : j_X p l s m args meth c D tyc A own cc nL) {off : Int} {tgt : Nat} (hd : decode cc pc = .ok (.ifnull off, 3)) (ht : (pc : Int) + off = (tgt : Int)) (kk : JJ p l e R s m args below meth c D tyc A n0 ad0 nL Q (tgt) (L) (st) (h) (cells) (slots)) : JJ p l e R s m args below meth c D tyc A n0 ad0 nL Q (pc) (L) (.null :: st) (h) (cells) (slots) := by
  intro ad ls H locs I
  exact lv_ifnullN x.1 x.2.1 hd ht (kk ad ls H locs (I.st j_ok_tl))
theorem j_ifnonnull (x : j_X p l s m args meth c D tyc A own cc nL) {a : Nat} {off : Int} {tgt : Nat} (hd : decode cc pc = .ok (.ifnonnull off, 3)) (ht : (pc : Int) + off = (tgt : Int)) (kk : JJ p l e R s m args below meth c D tyc A n0 ad0 nL Q (tgt) (L) (st) (h) (cells) (slots)) : JJ p l e R s m args below meth c D tyc A n0 ad0 nL Q (pc) (L) (.ref a :: st) (h) (cells) (slots) := by
  intro ad ls H locs I
  exact lv_ifnonnull x.1 x.2.1 hd ht (kk ad ls H locs (I.st j_ok_tl))
theorem j_tableIn (x : j_X p l s m args meth c D tyc A own cc nL) {dflt lo hi : Int} {offs : Array Int} {len : Nat} {v : Int32} {off : Int} {tgt : Nat} (hd : decode cc pc = .ok (.tableswitch dflt lo hi offs, len)) (h1 : ¬ v.toInt < lo) (h2 : ¬ hi < v.toInt) (ho : offs[(v.toInt - lo).toNat]? = some off) (ht : (pc : Int) + off = (tgt : Int)) (kk : JJ p l e R s m args below meth c D tyc A n0 ad0 nL Q (tgt) (L) (st) (h) (cells) (slots)) : JJ p l e R s m args below meth c D tyc A n0 ad0 nL Q (pc) (L) (.int v :: st) (h) (cells) (slots) := by
  intro ad ls H locs I
  exact lv_tableIn x.1 x.2.1 hd h1 h2 ho ht (kk ad ls H locs (I.st j_ok_tl))
theorem j_tableOut (x : j_X p l s m args meth c D tyc A own cc nL) {dflt lo hi : Int} {offs : Array Int} {len : Nat} {v : Int32} {tgt : Nat} (hd : decode cc pc = .ok (.tableswitch dflt lo hi offs, len)) (h1 : v.toInt < lo ∨ hi < v.toInt) (ht : (pc : Int) + dflt = (tgt : Int)) (kk : JJ p l e R s m args below meth c D tyc A n0 ad0 nL Q (tgt) (L) (st) (h) (cells) (slots)) : JJ p l e R s m args below meth c D tyc A n0 ad0 nL Q (pc) (L) (.int v :: st) (h) (cells) (slots) := by
  intro ad ls H locs I
  exact lv_tableOut x.1 x.2.1 hd h1 ht (kk ad ls H locs (I.st j_ok_tl))
theorem j_lookup (x : j_X p l s m args meth c D tyc A own cc nL) {dflt : Int} {ps : Array (Int × Int)} {len : Nat} {v : Int32} {off : Int} {tgt : Nat} (hd : decode cc pc = .ok (.lookupswitch dflt ps, len)) (hp : (ps.toList.zip (ps.toList.drop 1)).all (fun (a, next) => a.1 < next.1) = true) (ho : Op.lookupswitch.offset ps.toList dflt v.toInt = off) (ht : (pc : Int) + off = (tgt : Int)) (kk : JJ p l e R s m args below meth c D tyc A n0 ad0 nL Q (tgt) (L) (st) (h) (cells) (slots)) : JJ p l e R s m args below meth c D tyc A n0 ad0 nL Q (pc) (L) (.int v :: st) (h) (cells) (slots) := by
  intro ad ls H locs I
  exact lv_lookup x.1 x.2.1 hd hp ho ht (kk ad ls H locs (I.st j_ok_tl))
end JR
end

section
/-! ===== classes of objects, by their numbers in vwCl ===== -/
def j_cls (ci : Nat) (q : vw_C) (ty : Nat → FieldType) : Prop := vwCl[ci]? = some q ∧ ci < 100 ∧ (∀ w ∈ u_ws q.1 q.2.1 q.2.2, w ∈ j_all) ∧ (∀ k, k < q.2.2 → parseFieldDescriptor (q.2.1 k).2.2.1 = some (ty k)) ∧ ∀ a, a < q.2.2 → ∀ b, b < q.2.2 → a ≠ b → (q.2.1 a).2.1 ≠ (q.2.1 b).2.1
theorem j_e_obj {tyc : Nat → ClassId} {ad : Nat → Nat} {c : MC} {ci : Nat} (ht : c.1 = ci) (hci : ci < 100) : j_e tyc ad c = .inr (ci, (List.range c.2.1).map fun k => j_cv ad (c.2.2 k)) := by
  unfold j_e
  rw [if_pos (by rw [ht]; exact hci), ht]
theorem j_e_arr {tyc : Nat → ClassId} {ad : Nat → Nat} {c : MC} {t : Nat} (ht : c.1 = t) (h1 : 100 ≤ t) : j_e tyc ad c = .inl (tyc t, c.2.1, j_arr ad t c.2.2) := by
  unfold j_e
  rw [if_neg (by rw [ht]; omega), ht]
theorem j_arr_i {ad : Nat → Nat} {t : Nat} {f : Nat → Value} (h1 : t ≠ 103) (h2 : t ≠ 104) (h3 : t ≠ 105) : j_arr ad t f = .inl fun j => j_int (f j) := by
  unfold j_arr
  rw [if_neg h1, if_neg h2, if_neg h3]
theorem j_fs_get {ad : Nat → Nat} {N k : Nat} {f : Nat → Value} (hk : k < N) : ((List.range N).map fun j => j_cv ad (f j))[k]? = some (j_cv ad (f k)) := by simp [hk]
theorem j_fs_set {ad : Nat → Nat} {N k : Nat} {f : Nat → Value} {v : Value} (hk : k < N) : ((List.range N).map fun j => j_cv ad (f j)).set k (j_cv ad v) = (List.range N).map fun j => j_cv ad (ju f k v j) := by
  apply List.ext_getElem?
  intro j
  by_cases e : j = k
  · subst e
    rw [List.getElem?_set_self (by simpa using hk), j_fs_get hk, ju_s]
  · rw [List.getElem?_set_ne (Ne.symm e)]
    by_cases hj : j < N
    · rw [j_fs_get hj, j_fs_get hj, ju_n e]
    · rw [List.getElem?_eq_none (by simpa using hj), List.getElem?_eq_none (by simpa using hj)]
theorem j_nar {ty : FieldType} {v : Value} {ad : Nat → Nat} (h : narrow ty v = v) : narrow ty (j_cv ad v) = j_cv ad v := by
  cases v with
  | ref k => cases ty <;> rfl
  | retAddr k => cases ty <;> rfl
  | _ => exact h
theorem j_fits {ty : FieldType} {v : Value} {ad : Nat → Nat} (h : fits ty v = true) : fits ty (j_cv ad v) = true := by
  cases v with
  | ref k => cases ty <;> first | rfl | cases h
  | retAddr k => cases ty <;> first | rfl | cases h
  | _ => exact h
/-- what follows a store: the new world, the frame -/
theorem j_I.wr {s : State} {D : va_G} {tyc : Nat → ClassId} {A : Nat → Prop} {n0 : Nat} {ad0 : Nat → Nat} {nL : Nat} {ad : Nat → Nat} {L : List (Option Value)} {st st' : List Value} {h : MH} {ls : Array Slot} {H H1 : Heap} {locs locs1 : List Loc} {i : Nat} {c : MC}
    (I : j_I s D tyc A n0 ad0 nL ad L st h ls H locs) (hs : (∀ v ∈ st, j_ok h.1 v) → ∀ v ∈ st', j_ok h.1 v) (hi : i < h.1) (hc : ∀ j, j_ok h.1 (c.2.2 j))
    (hP : va_P D vwCl ((j_w tyc ad h).set i (ad i, j_e tyc ad c)) H1) (hD : va_D A ((j_w tyc ad h).set i (ad i, j_e tyc ad c))) (hS : va_S A s.heap H1 locs1) : j_I s D tyc A n0 ad0 nL ad L st' (j_wr h i c) ls H1 locs1 := by
  rw [j_w_set hi] at hP hD
  exact ⟨I.1, hP, hD, hS, I.2.2.2.2.1, j_okH_wr I.2.2.2.2.2.1 hc, hs I.2.2.2.2.2.2.1, I.2.2.2.2.2.2.2⟩
section JH
variable {p : Program} {l : Launch} {e : Env} {R : Room} {s : State} {m : MethodId} {args : Array Value} {below : List Frame} {meth : Method} {c : Code} {D : va_G} {tyc : Nat → ClassId} {A : Nat → Prop} {n0 : Nat} {ad0 : Nat → Nat} {nL : Nat} {Q : State → Prop}
variable {own : String} {cc : ByteArray} {pc : Nat} {L : List (Option Value)} {st : List Value} {h : MH} {cells slots : Nat}
theorem j_get (x : j_X p l s m args meth c D tyc A own cc nL) {i k idx ci : Nat} {q : vw_C} {ty : Nat → FieldType} (hd : decode cc pc = .ok (.getfield idx, 3)) (hq : j_cls ci q ty) (hw : Cond.fieldLink own idx (q.2.1 k).1 (q.2.1 k).2.1 (q.2.1 k).2.2.1 ∈ j_all) (hk : k < q.2.2)
    (hi : i < h.1) (ht : (h.2 i).1 = ci) (hn : (h.2 i).2.1 = q.2.2) (kk : JJ p l e R s m args below meth c D tyc A n0 ad0 nL Q (pc + 3) L ((h.2 i).2.2 k :: st) h cells slots) : JJ p l e R s m args below meth c D tyc A n0 ad0 nL Q pc L (.ref i :: st) h cells slots := by
  intro ad ls H locs I
  have he : (j_w tyc ad h)[i]? = some (ad i, .inr (ci, (List.range (h.2 i).2.1).map fun k => j_cv ad ((h.2 i).2.2 k))) := by rw [j_w_get hi, j_e_obj ht hq.2.1]
  exact va_get (C := q.1) (T := q.2.1) (N := q.2.2) x.1 x.2.1 x.2.2.2.2.1 hq.2.2.1 x.2.2.2.1 x.2.2.2.2.2.1 I.2.1 i he hq.1 k hk (x.2.2.2.2.1 _ hw) (fun _ h9 => h9) (j_fs_get (by rw [hn]; exact hk)) hd
    (kk ad ls H locs (I.st fun hs => j_ok_cons (I.2.2.2.2.2.1 i hi k) (j_ok_tl hs)))
theorem j_put (x : j_X p l s m args meth c D tyc A own cc nL) {i k idx ci : Nat} {q : vw_C} {ty : Nat → FieldType} {v : Value} (hd : decode cc pc = .ok (.putfield idx, 3)) (hq : j_cls ci q ty) (hw : Cond.fieldLink own idx (q.2.1 k).1 (q.2.1 k).2.1 (q.2.1 k).2.2.1 ∈ j_all) (hk : k < q.2.2)
    (hfin : (q.2.1 k).2.2.2 = false) (hna : narrow (ty k) v = v) (hfi : fits (ty k) v = true) (hi : i < h.1) (ht : (h.2 i).1 = ci) (hn : (h.2 i).2.1 = q.2.2) (kk : JJ p l e R s m args below meth c D tyc A n0 ad0 nL Q (pc + 3) L st (j_fld h i k v) cells slots) : JJ p l e R s m args below meth c D tyc A n0 ad0 nL Q pc L (v :: .ref i :: st) h cells slots := by
  intro ad ls H locs I
  have he : (j_w tyc ad h)[i]? = some (ad i, .inr (ci, (List.range (h.2 i).2.1).map fun k => j_cv ad ((h.2 i).2.2 k))) := by rw [j_w_get hi, j_e_obj ht hq.2.1]
  refine va_put (C := q.1) (T := q.2.1) (N := q.2.2) (ty := ty k) x.1 x.2.1 x.2.2.2.2.1 hq.2.2.1 ty hq.2.2.2.1 hq.2.2.2.2 x.2.2.2.1 x.2.2.2.2.2.1 I.2.1 I.2.2.1 I.2.2.2.1 i he hq.1 k hk (x.2.2.2.2.1 _ hw) (fun _ h9 => h9) hfin (hq.2.2.2.1 k hk) (j_nar hna) (j_fits hfi) (by rw [List.length_map, List.length_range, hn]; exact hk) hd (fun H1 locs1 hP hD hS => ?_)
  rw [j_fs_set (by rw [hn]; exact hk)] at hP hD
  have e2 : j_e tyc ad ((h.2 i).1, (h.2 i).2.1, ju (h.2 i).2.2 k v) = .inr (ci, (List.range (h.2 i).2.1).map fun j => j_cv ad (ju (h.2 i).2.2 k v j)) := j_e_obj ht hq.2.1
  rw [← e2] at hP hD
  exact kk ad ls H1 locs1 (I.wr (fun hs => j_ok_tl (j_ok_tl hs)) hi (fun j => by
    show j_ok h.1 (ju (h.2 i).2.2 k v j)
    by_cases e : j = k
    · subst e; rw [ju_s]; exact I.2.2.2.2.2.2.1 _ List.mem_cons_self
    · rw [ju_n e]; exact I.2.2.2.2.2.1 i hi j) hP hD hS)
theorem j_putF (x : j_X p l s m args meth c D tyc A own cc nL) {i k idx ci : Nat} {q : vw_C} {ty : Nat → FieldType} {v : Value} (hin : meth.name = "<init>") (hd : decode cc pc = .ok (.putfield idx, 3)) (hq : j_cls ci q ty) (hw : Cond.fieldLink own idx (q.2.1 k).1 (q.2.1 k).2.1 (q.2.1 k).2.2.1 ∈ j_all) (hk : k < q.2.2)
    (hfin : (q.2.1 k).2.2.2 = true) (hdecl : (q.2.1 k).1 = own) (hna : narrow (ty k) v = v) (hfi : fits (ty k) v = true) (hi : i < h.1) (ht : (h.2 i).1 = ci) (hn : (h.2 i).2.1 = q.2.2) (kk : JJ p l e R s m args below meth c D tyc A n0 ad0 nL Q (pc + 3) L st (j_fld h i k v) cells slots) : JJ p l e R s m args below meth c D tyc A n0 ad0 nL Q pc L (v :: .ref i :: st) h cells slots := by
  intro ad ls H locs I
  have he : (j_w tyc ad h)[i]? = some (ad i, .inr (ci, (List.range (h.2 i).2.1).map fun k => j_cv ad ((h.2 i).2.2 k))) := by rw [j_w_get hi, j_e_obj ht hq.2.1]
  refine va_putF (C := q.1) (T := q.2.1) (N := q.2.2) (ty := ty k) x.1 x.2.1 x.2.2.2.2.1 hq.2.2.1 ty hq.2.2.2.1 hq.2.2.2.2 x.2.2.2.1 x.2.2.2.2.2.1 I.2.1 I.2.2.1 I.2.2.2.1 i he hq.1 k hk (x.2.2.2.2.1 _ hw) (fun _ h9 => h9) hfin hin hdecl (hq.2.2.2.1 k hk) (j_nar hna) (j_fits hfi) (by rw [List.length_map, List.length_range, hn]; exact hk) hd (fun H1 locs1 hP hD hS => ?_)
  rw [j_fs_set (by rw [hn]; exact hk)] at hP hD
  have e2 : j_e tyc ad ((h.2 i).1, (h.2 i).2.1, ju (h.2 i).2.2 k v) = .inr (ci, (List.range (h.2 i).2.1).map fun j => j_cv ad (ju (h.2 i).2.2 k v j)) := j_e_obj ht hq.2.1
  rw [← e2] at hP hD
  exact kk ad ls H1 locs1 (I.wr (fun hs => j_ok_tl (j_ok_tl hs)) hi (fun j => by
    show j_ok h.1 (ju (h.2 i).2.2 k v j)
    by_cases e : j = k
    · subst e; rw [ju_s]; exact I.2.2.2.2.2.2.1 _ List.mem_cons_self
    · rw [ju_n e]; exact I.2.2.2.2.2.1 i hi j) hP hD hS)
theorem j_iaload (x : j_X p l s m args meth c D tyc A own cc nL) {i : Nat} {k v : Int32} (hd : decode cc pc = .ok (.iaload, 1)) (hi : i < h.1) (ht : (h.2 i).1 = 100) (hk : vp_in k (h.2 i).2.1) (hv : (h.2 i).2.2 k.toNatClampNeg = .int v) (kk : JJ p l e R s m args below meth c D tyc A n0 ad0 nL Q (pc + 1) (L) (.int v :: st) (h) (cells) (slots)) : JJ p l e R s m args below meth c D tyc A n0 ad0 nL Q (pc) (L) (.int k :: .ref i :: st) (h) (cells) (slots) := by
  intro ad ls H locs I
  have he : (j_w tyc ad h)[i]? = some (ad i, .inl (tyc 100, (h.2 i).2.1, .inl fun j => j_int ((h.2 i).2.2 j))) := by rw [j_w_get hi, j_e_arr ht (by decide), j_arr_i (by decide) (by decide) (by decide)]
  refine va_iald x.1 x.2.1 x.2.2.2.2.2.1 I.2.1 i 0 he rfl hk hd ?_
  rw [hv]
  exact kk ad ls H locs (I.st fun hs => j_ok_cons j_ok_int (j_ok_tl (j_ok_tl hs)))
theorem j_caload (x : j_X p l s m args meth c D tyc A own cc nL) {i : Nat} {k v : Int32} (hd : decode cc pc = .ok (.caload, 1)) (hi : i < h.1) (ht : (h.2 i).1 = 101) (hk : vp_in k (h.2 i).2.1) (hv : (h.2 i).2.2 k.toNatClampNeg = .int v) (kk : JJ p l e R s m args below meth c D tyc A n0 ad0 nL Q (pc + 1) (L) (.int v :: st) (h) (cells) (slots)) : JJ p l e R s m args below meth c D tyc A n0 ad0 nL Q (pc) (L) (.int k :: .ref i :: st) (h) (cells) (slots) := by
  intro ad ls H locs I
  have he : (j_w tyc ad h)[i]? = some (ad i, .inl (tyc 101, (h.2 i).2.1, .inl fun j => j_int ((h.2 i).2.2 j))) := by rw [j_w_get hi, j_e_arr ht (by decide), j_arr_i (by decide) (by decide) (by decide)]
  refine va_cald x.1 x.2.1 x.2.2.2.2.2.1 I.2.1 i 1 he rfl hk hd ?_
  rw [hv]
  exact kk ad ls H locs (I.st fun hs => j_ok_cons j_ok_int (j_ok_tl (j_ok_tl hs)))
theorem j_baload (x : j_X p l s m args meth c D tyc A own cc nL) {i : Nat} {k v : Int32} (hd : decode cc pc = .ok (.baload, 1)) (hi : i < h.1) (ht : (h.2 i).1 = 102) (hk : vp_in k (h.2 i).2.1) (hv : (h.2 i).2.2 k.toNatClampNeg = .int v) (kk : JJ p l e R s m args below meth c D tyc A n0 ad0 nL Q (pc + 1) (L) (.int v :: st) (h) (cells) (slots)) : JJ p l e R s m args below meth c D tyc A n0 ad0 nL Q (pc) (L) (.int k :: .ref i :: st) (h) (cells) (slots) := by
  intro ad ls H locs I
  have he : (j_w tyc ad h)[i]? = some (ad i, .inl (tyc 102, (h.2 i).2.1, .inl fun j => j_int ((h.2 i).2.2 j))) := by rw [j_w_get hi, j_e_arr ht (by decide), j_arr_i (by decide) (by decide) (by decide)]
  refine va_bald x.1 x.2.1 x.2.2.2.2.2.1 I.2.1 i 2 he rfl hk hd ?_
  rw [hv]
  exact kk ad ls H locs (I.st fun hs => j_ok_cons j_ok_int (j_ok_tl (j_ok_tl hs)))
theorem j_iastore (x : j_X p l s m args meth c D tyc A own cc nL) {i : Nat} {k v : Int32} (hd : decode cc pc = .ok (.iastore, 1)) (hi : i < h.1) (ht : (h.2 i).1 = 100) (hk : vp_in k (h.2 i).2.1) (kk : JJ p l e R s m args below meth c D tyc A n0 ad0 nL Q (pc + 1) (L) (st) (j_fld h i k.toNatClampNeg (.int v)) (cells) (slots)) : JJ p l e R s m args below meth c D tyc A n0 ad0 nL Q (pc) (L) (.int v :: .int k :: .ref i :: st) (h) (cells) (slots) := by
  intro ad ls H locs I
  have he : (j_w tyc ad h)[i]? = some (ad i, .inl (tyc 100, (h.2 i).2.1, .inl fun j => j_int ((h.2 i).2.2 j))) := by rw [j_w_get hi, j_e_arr ht (by decide), j_arr_i (by decide) (by decide) (by decide)]
  refine va_iast x.1 x.2.1 x.2.2.2.2.2.1 I.2.1 I.2.2.1 I.2.2.2.1 i 0 he rfl hk hd (fun H1 locs1 hP hD hS => ?_)
  have e1 : upd (fun j => j_int ((h.2 i).2.2 j)) k.toNatClampNeg v = fun j => j_int (ju (h.2 i).2.2 k.toNatClampNeg (.int v) j) := funext fun j => by
    by_cases e : j = k.toNatClampNeg <;> simp [upd, ju, e, j_int]
  have e2 : j_e tyc ad ((h.2 i).1, (h.2 i).2.1, ju (h.2 i).2.2 k.toNatClampNeg (.int v)) = .inl (tyc 100, (h.2 i).2.1, .inl fun j => j_int (ju (h.2 i).2.2 k.toNatClampNeg (.int v) j)) := Eq.trans (j_e_arr (ad := ad) (tyc := tyc) (c := (_, _, _)) (t := 100) ht (by decide)) (by rw [j_arr_i (by decide) (by decide) (by decide)])
  rw [e1, ← e2] at hP hD
  exact kk ad ls H1 locs1 (I.wr (fun hs => j_ok_tl (j_ok_tl (j_ok_tl hs))) hi (fun j => by
    show j_ok h.1 (ju (h.2 i).2.2 k.toNatClampNeg (.int v) j)
    by_cases e : j = k.toNatClampNeg
    · subst e; rw [ju_s]; exact j_ok_int
    · rw [ju_n e]; exact I.2.2.2.2.2.1 i hi j) hP hD hS)
theorem j_castore (x : j_X p l s m args meth c D tyc A own cc nL) {i : Nat} {k v w : Int32} (hd : decode cc pc = .ok (.castore, 1)) (hi : i < h.1) (ht : (h.2 i).1 = 101) (hk : vp_in k (h.2 i).2.1) (hw : vp_nar .char v = w) (kk : JJ p l e R s m args below meth c D tyc A n0 ad0 nL Q (pc + 1) (L) (st) (j_fld h i k.toNatClampNeg (.int w)) (cells) (slots)) : JJ p l e R s m args below meth c D tyc A n0 ad0 nL Q (pc) (L) (.int v :: .int k :: .ref i :: st) (h) (cells) (slots) := by
  subst hw
  intro ad ls H locs I
  have he : (j_w tyc ad h)[i]? = some (ad i, .inl (tyc 101, (h.2 i).2.1, .inl fun j => j_int ((h.2 i).2.2 j))) := by rw [j_w_get hi, j_e_arr ht (by decide), j_arr_i (by decide) (by decide) (by decide)]
  refine va_cast x.1 x.2.1 x.2.2.2.2.2.1 I.2.1 I.2.2.1 I.2.2.2.1 i 1 he rfl hk hd (fun H1 locs1 hP hD hS => ?_)
  have e1 : upd (fun j => j_int ((h.2 i).2.2 j)) k.toNatClampNeg (vp_nar .char v) = fun j => j_int (ju (h.2 i).2.2 k.toNatClampNeg (.int (vp_nar .char v)) j) := funext fun j => by
    by_cases e : j = k.toNatClampNeg <;> simp [upd, ju, e, j_int]
  have e2 : j_e tyc ad ((h.2 i).1, (h.2 i).2.1, ju (h.2 i).2.2 k.toNatClampNeg (.int (vp_nar .char v))) = .inl (tyc 101, (h.2 i).2.1, .inl fun j => j_int (ju (h.2 i).2.2 k.toNatClampNeg (.int (vp_nar .char v)) j)) := Eq.trans (j_e_arr (ad := ad) (tyc := tyc) (c := (_, _, _)) (t := 101) ht (by decide)) (by rw [j_arr_i (by decide) (by decide) (by decide)])
  rw [e1, ← e2] at hP hD
  exact kk ad ls H1 locs1 (I.wr (fun hs => j_ok_tl (j_ok_tl (j_ok_tl hs))) hi (fun j => by
    show j_ok h.1 (ju (h.2 i).2.2 k.toNatClampNeg (.int (vp_nar .char v)) j)
    by_cases e : j = k.toNatClampNeg
    · subst e; rw [ju_s]; exact j_ok_int
    · rw [ju_n e]; exact I.2.2.2.2.2.1 i hi j) hP hD hS)
theorem j_bastore (x : j_X p l s m args meth c D tyc A own cc nL) {i : Nat} {k v w : Int32} (hd : decode cc pc = .ok (.bastore, 1)) (hi : i < h.1) (ht : (h.2 i).1 = 102) (hk : vp_in k (h.2 i).2.1) (hw : vp_nar .byte v = w) (kk : JJ p l e R s m args below meth c D tyc A n0 ad0 nL Q (pc + 1) (L) (st) (j_fld h i k.toNatClampNeg (.int w)) (cells) (slots)) : JJ p l e R s m args below meth c D tyc A n0 ad0 nL Q (pc) (L) (.int v :: .int k :: .ref i :: st) (h) (cells) (slots) := by
  subst hw
  intro ad ls H locs I
  have he : (j_w tyc ad h)[i]? = some (ad i, .inl (tyc 102, (h.2 i).2.1, .inl fun j => j_int ((h.2 i).2.2 j))) := by rw [j_w_get hi, j_e_arr ht (by decide), j_arr_i (by decide) (by decide) (by decide)]
  refine va_bast x.1 x.2.1 x.2.2.2.2.2.1 I.2.1 I.2.2.1 I.2.2.2.1 i 2 he rfl hk hd (fun H1 locs1 hP hD hS => ?_)
  have e1 : upd (fun j => j_int ((h.2 i).2.2 j)) k.toNatClampNeg (vp_nar .byte v) = fun j => j_int (ju (h.2 i).2.2 k.toNatClampNeg (.int (vp_nar .byte v)) j) := funext fun j => by
    by_cases e : j = k.toNatClampNeg <;> simp [upd, ju, e, j_int]
  have e2 : j_e tyc ad ((h.2 i).1, (h.2 i).2.1, ju (h.2 i).2.2 k.toNatClampNeg (.int (vp_nar .byte v))) = .inl (tyc 102, (h.2 i).2.1, .inl fun j => j_int (ju (h.2 i).2.2 k.toNatClampNeg (.int (vp_nar .byte v)) j)) := Eq.trans (j_e_arr (ad := ad) (tyc := tyc) (c := (_, _, _)) (t := 102) ht (by decide)) (by rw [j_arr_i (by decide) (by decide) (by decide)])
  rw [e1, ← e2] at hP hD
  exact kk ad ls H1 locs1 (I.wr (fun hs => j_ok_tl (j_ok_tl (j_ok_tl hs))) hi (fun j => by
    show j_ok h.1 (ju (h.2 i).2.2 k.toNatClampNeg (.int (vp_nar .byte v)) j)
    by_cases e : j = k.toNatClampNeg
    · subst e; rw [ju_s]; exact j_ok_int
    · rw [ju_n e]; exact I.2.2.2.2.2.1 i hi j) hP hD hS)
theorem j_aaload (x : j_X p l s m args meth c D tyc A own cc nL) {i : Nat} {k : Int32} {r : Nat} (hd : decode cc pc = .ok (.aaload, 1)) (hi : i < h.1) (ht : (h.2 i).1 = 103) (hk : vp_in k (h.2 i).2.1) (hv : (h.2 i).2.2 k.toNatClampNeg = .ref r) (kk : JJ p l e R s m args below meth c D tyc A n0 ad0 nL Q (pc + 1) (L) (.ref r :: st) (h) (cells) (slots)) : JJ p l e R s m args below meth c D tyc A n0 ad0 nL Q (pc) (L) (.int k :: .ref i :: st) (h) (cells) (slots) := by
  intro ad ls H locs I
  have he : (j_w tyc ad h)[i]? = some (ad i, .inl (tyc 103, (h.2 i).2.1, .inr (.inr (.inr (.inr fun j => j_opt ad ((h.2 i).2.2 j)))))) := by rw [j_w_get hi, j_e_arr ht (by decide)]; rfl
  refine va_aldq x.1 x.2.1 x.2.2.2.2.2.1 I.2.1 i 3 he rfl hk hd ?_
  have e1 : va_rf (j_opt ad ((h.2 i).2.2 k.toNatClampNeg)) = j_cv ad (.ref r) := by rw [hv]; rfl
  rw [e1]
  exact kk ad ls H locs (I.st fun hs => j_ok_cons (by rw [← hv]; exact I.2.2.2.2.2.1 i hi _) (j_ok_tl (j_ok_tl hs)))
theorem j_aastore (x : j_X p l s m args meth c D tyc A own cc nL) {i b : Nat} {k : Int32} {q : vw_C} (hd : decode cc pc = .ok (.aastore, 1)) (hq : vwCl[6]? = some q) (hq2 : q.1 = j_R2) (hi : i < h.1) (ht : (h.2 i).1 = 103) (hk : vp_in k (h.2 i).2.1) (hb : b < h.1) (htb : (h.2 b).1 = 6) (kk : JJ p l e R s m args below meth c D tyc A n0 ad0 nL Q (pc + 1) (L) (st) (j_fld h i k.toNatClampNeg (.ref b)) (cells) (slots)) : JJ p l e R s m args below meth c D tyc A n0 ad0 nL Q (pc) (L) (.ref b :: .int k :: .ref i :: st) (h) (cells) (slots) := by
  intro ad ls H locs I
  have he : (j_w tyc ad h)[i]? = some (ad i, .inl (tyc 103, (h.2 i).2.1, .inr (.inr (.inr (.inr fun j => j_opt ad ((h.2 i).2.2 j)))))) := by rw [j_w_get hi, j_e_arr ht (by decide)]; rfl
  have hv : (j_w tyc ad h)[b]? = some (ad b, .inr (6, (List.range (h.2 b).2.1).map fun k => j_cv ad ((h.2 b).2.2 k))) := by rw [j_w_get hb, j_e_obj htb (by decide)]
  refine va_astq x.1 x.2.1 x.2.2.2.2.2.1 I.2.1 I.2.2.1 I.2.2.2.1 i 3 b 6 he (r := q) (by rw [hq2]; rfl) hv hq hk hd (fun H1 locs1 hP hD hS => ?_)
  have e1 : va_up (fun j => j_opt ad ((h.2 i).2.2 j)) k.toNatClampNeg (some (ad b)) = fun j => j_opt ad (ju (h.2 i).2.2 k.toNatClampNeg (.ref b) j) := funext fun j => by
    by_cases e : j = k.toNatClampNeg <;> simp [va_up, ju, e, j_opt]
  have e2 : j_e tyc ad ((h.2 i).1, (h.2 i).2.1, ju (h.2 i).2.2 k.toNatClampNeg (.ref b)) = .inl (tyc 103, (h.2 i).2.1, .inr (.inr (.inr (.inr fun j => j_opt ad (ju (h.2 i).2.2 k.toNatClampNeg (.ref b) j))))) := Eq.trans (j_e_arr (ad := ad) (tyc := tyc) (c := (_, _, _)) (t := 103) ht (by decide)) rfl
  rw [e1, ← e2] at hP hD
  exact kk ad ls H1 locs1 (I.wr (fun hs => j_ok_tl (j_ok_tl (j_ok_tl hs))) hi (fun j => by
    show j_ok h.1 (ju (h.2 i).2.2 k.toNatClampNeg (.ref b) j)
    by_cases e : j = k.toNatClampNeg
    · subst e; rw [ju_s]; exact j_ok_ref hb
    · rw [ju_n e]; exact I.2.2.2.2.2.1 i hi j) hP hD hS)
theorem j_tys_at {tyc : Nat → ClassId} {t : Nat} (h1 : 100 ≤ t) (h2 : t < 106) : ∃ ty, (j_tys tyc)[t - 100]? = some (tyc t, ty) := by
  rcases (show t = 100 ∨ t = 101 ∨ t = 102 ∨ t = 103 ∨ t = 104 ∨ t = 105 by omega) with rfl | rfl | rfl | rfl | rfl | rfl <;> exact ⟨_, rfl⟩
theorem j_alen (x : j_X p l s m args meth c D tyc A own cc nL) {i t : Nat} {v : Int32} (hd : decode cc pc = .ok (.arraylength, 1)) (hi : i < h.1) (ht : (h.2 i).1 = t) (h1 : 100 ≤ t) (h2 : t < 106) (hv : Int32.ofNat (h.2 i).2.1 = v) (kk : JJ p l e R s m args below meth c D tyc A n0 ad0 nL Q (pc + 1) (L) (.int v :: st) (h) (cells) (slots)) : JJ p l e R s m args below meth c D tyc A n0 ad0 nL Q (pc) (L) (.ref i :: st) (h) (cells) (slots) := by
  intro ad ls H locs I
  have he : (j_w tyc ad h)[i]? = some (ad i, .inl (tyc t, (h.2 i).2.1, j_arr ad t (h.2 i).2.2)) := by rw [j_w_get hi, j_e_arr ht h1]
  obtain ⟨ty, hty⟩ := j_tys_at (tyc := tyc) h1 h2
  exact va_alen x.1 x.2.1 x.2.2.2.2.2.1 I.2.1 i (t - 100) he hty hv hd (kk ad ls H locs (I.st fun hs => j_ok_cons j_ok_int (j_ok_tl hs)))
/-- what follows the making of a cell -/
theorem j_I.pu {s : State} {D : va_G} {tyc : Nat → ClassId} {A : Nat → Prop} {n0 : Nat} {ad0 : Nat → Nat} {nL : Nat} {ad : Nat → Nat} {L : List (Option Value)} {st st' : List Value} {h : MH} {ls : Array Slot} {H H1 : Heap} {locs locs1 : List Loc} {c : MC} {a : Nat}
    (I : j_I s D tyc A n0 ad0 nL ad L st h ls H locs) (hs : (∀ v ∈ st, j_ok h.1 v) → ∀ v ∈ st', j_ok h.1 v) (hc : ∀ j, j_ok h.1 (c.2.2 j))
    (hP : va_P D vwCl (j_w tyc ad h ++ [(a, j_e tyc ad c)]) H1) (hD : va_D A (j_w tyc ad h ++ [(a, j_e tyc ad c)])) (hS : va_S A s.heap H1 locs1) :
    j_I s D tyc A n0 ad0 nL (ju ad h.1 a) L (.ref h.1 :: st') (j_push h c) ls H1 locs1 ∧ (.ref a :: st'.map (j_cv ad)) = (Value.ref h.1 :: st').map (j_cv (ju ad h.1 a)) := by
  rw [← j_w_push I.2.2.2.2.2.1 hc] at hP hD
  have had : ∀ i, i < h.1 → ju ad h.1 a i = ad i := fun i hi => ju_n (Nat.ne_of_lt hi)
  have hst := hs I.2.2.2.2.2.2.1
  refine ⟨⟨I.1.ad had I.2.2.2.2.2.2.2, hP, hD, hS, ⟨Nat.le_trans I.2.2.2.2.1.1 (Nat.le_succ _), fun i hi => ?_⟩, j_okH_push I.2.2.2.2.2.1 hc, ?_, fun v hv => j_ok_mono (I.2.2.2.2.2.2.2 v hv) (Nat.le_succ _)⟩, ?_⟩
  · rw [had i (Nat.lt_of_lt_of_le hi I.2.2.2.2.1.1)]
    exact I.2.2.2.2.1.2 i hi
  · exact j_ok_cons (j_ok_ref (Nat.lt_succ_self _)) (fun w hw => j_ok_mono (hst w hw) (Nat.le_succ _))
  · show _ = Value.ref (ju ad h.1 a h.1) :: _
    rw [ju_s]
    congr 1
    exact List.map_congr_left fun v hv => (j_cv_eq had (hst v hv)).symm
theorem j_newa_int (x : j_X p l s m args meth c D tyc A own cc nL) {n : Int32} {N : Nat} (hd : decode cc pc = .ok (.newarray .int, 2)) (hw : Cond.arrayClass .int ∈ j_all) (hn : ¬ n < 0) (hN : n.toNatClampNeg = N) (hsm : N * 8 ≤ 536870912) (hc1 : cells + 1 ≤ R.cells) (hs1 : slots + N ≤ R.slots) (kk : JJ p l e R s m args below meth c D tyc A n0 ad0 nL Q (pc + 2) (L) (.ref h.1 :: st) (j_push h (100, N, fun _ => .int 0)) (cells + 1) (slots + N)) : JJ p l e R s m args below meth c D tyc A n0 ad0 nL Q (pc) (L) (.int n :: st) (h) (cells) (slots) := by
  intro ad ls H locs I
  refine va_newa (atype := .int) (ty := .int) (a0 := (N, (.inl fun _ => 0))) x.1 x.2.1 (x.2.2.2.2.1 _ hw) rfl x.2.2.2.2.2.1 I.2.1 I.2.2.1 I.2.2.2.1 x.2.2.2.2.2.2.1 (fun _ => rfl) hn hN (Nat.le_trans (Nat.mul_le_mul_left N (by decide)) hsm) hc1 hs1 hd (fun a cA H1 hK hP hD hS => ?_)
  have hcA : cA = tyc 100 := by
    have f1 := (hK.2 6 (cA, .int) rfl).2
    have f2 := (x.2.2.2.2.2.1.2 0 (tyc 100, .int) rfl).2
    exact Option.some.inj (f1.symm.trans f2)
  subst hcA
  have e2 : j_e tyc ad (100, N, fun _ => .int 0) = .inl (tyc 100, N, (.inl fun _ => 0)) := by rw [j_e_arr (t := 100) rfl (by decide)]; rfl
  rw [← e2] at hP hD
  obtain ⟨I2, e3⟩ := I.pu (st' := st) (c := (100, N, fun _ => .int 0)) j_ok_tl (fun _ _ hh => by cases hh) hP hD hS
  rw [e3]
  exact kk _ ls H1 locs I2
theorem j_newa_char (x : j_X p l s m args meth c D tyc A own cc nL) {n : Int32} {N : Nat} (hd : decode cc pc = .ok (.newarray .char, 2)) (hw : Cond.arrayClass .char ∈ j_all) (hn : ¬ n < 0) (hN : n.toNatClampNeg = N) (hsm : N * 8 ≤ 536870912) (hc1 : cells + 1 ≤ R.cells) (hs1 : slots + N ≤ R.slots) (kk : JJ p l e R s m args below meth c D tyc A n0 ad0 nL Q (pc + 2) (L) (.ref h.1 :: st) (j_push h (101, N, fun _ => .int 0)) (cells + 1) (slots + N)) : JJ p l e R s m args below meth c D tyc A n0 ad0 nL Q (pc) (L) (.int n :: st) (h) (cells) (slots) := by
  intro ad ls H locs I
  refine va_newa (atype := .char) (ty := .char) (a0 := (N, (.inl fun _ => 0))) x.1 x.2.1 (x.2.2.2.2.1 _ hw) rfl x.2.2.2.2.2.1 I.2.1 I.2.2.1 I.2.2.2.1 x.2.2.2.2.2.2.1 (fun _ => rfl) hn hN (Nat.le_trans (Nat.mul_le_mul_left N (by decide)) hsm) hc1 hs1 hd (fun a cA H1 hK hP hD hS => ?_)
  have hcA : cA = tyc 101 := by
    have f1 := (hK.2 6 (cA, .char) rfl).2
    have f2 := (x.2.2.2.2.2.1.2 1 (tyc 101, .char) rfl).2
    exact Option.some.inj (f1.symm.trans f2)
  subst hcA
  have e2 : j_e tyc ad (101, N, fun _ => .int 0) = .inl (tyc 101, N, (.inl fun _ => 0)) := by rw [j_e_arr (t := 101) rfl (by decide)]; rfl
  rw [← e2] at hP hD
  obtain ⟨I2, e3⟩ := I.pu (st' := st) (c := (101, N, fun _ => .int 0)) j_ok_tl (fun _ _ hh => by cases hh) hP hD hS
  rw [e3]
  exact kk _ ls H1 locs I2
theorem j_newa_byte (x : j_X p l s m args meth c D tyc A own cc nL) {n : Int32} {N : Nat} (hd : decode cc pc = .ok (.newarray .byte, 2)) (hw : Cond.arrayClass .byte ∈ j_all) (hn : ¬ n < 0) (hN : n.toNatClampNeg = N) (hsm : N * 8 ≤ 536870912) (hc1 : cells + 1 ≤ R.cells) (hs1 : slots + N ≤ R.slots) (kk : JJ p l e R s m args below meth c D tyc A n0 ad0 nL Q (pc + 2) (L) (.ref h.1 :: st) (j_push h (102, N, fun _ => .int 0)) (cells + 1) (slots + N)) : JJ p l e R s m args below meth c D tyc A n0 ad0 nL Q (pc) (L) (.int n :: st) (h) (cells) (slots) := by
  intro ad ls H locs I
  refine va_newa (atype := .byte) (ty := .byte) (a0 := (N, (.inl fun _ => 0))) x.1 x.2.1 (x.2.2.2.2.1 _ hw) rfl x.2.2.2.2.2.1 I.2.1 I.2.2.1 I.2.2.2.1 x.2.2.2.2.2.2.1 (fun _ => rfl) hn hN (Nat.le_trans (Nat.mul_le_mul_left N (by decide)) hsm) hc1 hs1 hd (fun a cA H1 hK hP hD hS => ?_)
  have hcA : cA = tyc 102 := by
    have f1 := (hK.2 6 (cA, .byte) rfl).2
    have f2 := (x.2.2.2.2.2.1.2 2 (tyc 102, .byte) rfl).2
    exact Option.some.inj (f1.symm.trans f2)
  subst hcA
  have e2 : j_e tyc ad (102, N, fun _ => .int 0) = .inl (tyc 102, N, (.inl fun _ => 0)) := by rw [j_e_arr (t := 102) rfl (by decide)]; rfl
  rw [← e2] at hP hD
  obtain ⟨I2, e3⟩ := I.pu (st' := st) (c := (102, N, fun _ => .int 0)) j_ok_tl (fun _ _ hh => by cases hh) hP hD hS
  rw [e3]
  exact kk _ ls H1 locs I2
theorem j_newa_long (x : j_X p l s m args meth c D tyc A own cc nL) {n : Int32} {N : Nat} (hd : decode cc pc = .ok (.newarray .long, 2)) (hw : Cond.arrayClass .long ∈ j_all) (hn : ¬ n < 0) (hN : n.toNatClampNeg = N) (hsm : N * 8 ≤ 536870912) (hc1 : cells + 1 ≤ R.cells) (hs1 : slots + N ≤ R.slots) (kk : JJ p l e R s m args below meth c D tyc A n0 ad0 nL Q (pc + 2) (L) (.ref h.1 :: st) (j_push h (104, N, fun _ => .long 0)) (cells + 1) (slots + N)) : JJ p l e R s m args below meth c D tyc A n0 ad0 nL Q (pc) (L) (.int n :: st) (h) (cells) (slots) := by
  intro ad ls H locs I
  refine va_newa (atype := .long) (ty := .long) (a0 := (N, (.inr (.inl fun _ => 0)))) x.1 x.2.1 (x.2.2.2.2.1 _ hw) rfl x.2.2.2.2.2.1 I.2.1 I.2.2.1 I.2.2.2.1 x.2.2.2.2.2.2.1 (fun _ => rfl) hn hN (Nat.le_trans (Nat.mul_le_mul_left N (by decide)) hsm) hc1 hs1 hd (fun a cA H1 hK hP hD hS => ?_)
  have hcA : cA = tyc 104 := by
    have f1 := (hK.2 6 (cA, .long) rfl).2
    have f2 := (x.2.2.2.2.2.1.2 4 (tyc 104, .long) rfl).2
    exact Option.some.inj (f1.symm.trans f2)
  subst hcA
  have e2 : j_e tyc ad (104, N, fun _ => .long 0) = .inl (tyc 104, N, (.inr (.inl fun _ => 0))) := by rw [j_e_arr (t := 104) rfl (by decide)]; rfl
  rw [← e2] at hP hD
  obtain ⟨I2, e3⟩ := I.pu (st' := st) (c := (104, N, fun _ => .long 0)) j_ok_tl (fun _ _ hh => by cases hh) hP hD hS
  rw [e3]
  exact kk _ ls H1 locs I2
theorem j_newa_double (x : j_X p l s m args meth c D tyc A own cc nL) {n : Int32} {N : Nat} (hd : decode cc pc = .ok (.newarray .double, 2)) (hw : Cond.arrayClass .double ∈ j_all) (hn : ¬ n < 0) (hN : n.toNatClampNeg = N) (hsm : N * 8 ≤ 536870912) (hc1 : cells + 1 ≤ R.cells) (hs1 : slots + N ≤ R.slots) (kk : JJ p l e R s m args below meth c D tyc A n0 ad0 nL Q (pc + 2) (L) (.ref h.1 :: st) (j_push h (105, N, fun _ => .double 0)) (cells + 1) (slots + N)) : JJ p l e R s m args below meth c D tyc A n0 ad0 nL Q (pc) (L) (.int n :: st) (h) (cells) (slots) := by
  intro ad ls H locs I
  refine va_newa (atype := .double) (ty := .double) (a0 := (N, (.inr (.inr (.inr (.inl fun _ => 0)))))) x.1 x.2.1 (x.2.2.2.2.1 _ hw) rfl x.2.2.2.2.2.1 I.2.1 I.2.2.1 I.2.2.2.1 x.2.2.2.2.2.2.1 (fun _ => rfl) hn hN (Nat.le_trans (Nat.mul_le_mul_left N (by decide)) hsm) hc1 hs1 hd (fun a cA H1 hK hP hD hS => ?_)
  have hcA : cA = tyc 105 := by
    have f1 := (hK.2 6 (cA, .double) rfl).2
    have f2 := (x.2.2.2.2.2.1.2 5 (tyc 105, .double) rfl).2
    exact Option.some.inj (f1.symm.trans f2)
  subst hcA
  have e2 : j_e tyc ad (105, N, fun _ => .double 0) = .inl (tyc 105, N, (.inr (.inr (.inr (.inl fun _ => 0))))) := by rw [j_e_arr (t := 105) rfl (by decide)]; rfl
  rw [← e2] at hP hD
  obtain ⟨I2, e3⟩ := I.pu (st' := st) (c := (105, N, fun _ => .double 0)) j_ok_tl (fun _ _ hh => by cases hh) hP hD hS
  rw [e3]
  exact kk _ ls H1 locs I2
theorem j_anewa (x : j_X p l s m args meth c D tyc A own cc nL) {idx : Nat} {n : Int32} {N : Nat} (hd : decode cc pc = .ok (.anewarray idx, 3)) (hw : Cond.classLink own idx j_R2 ∈ j_all) (hn : ¬ n < 0) (hN : n.toNatClampNeg = N) (hsm : N * 4 ≤ 536870912) (hc1 : cells + 1 ≤ R.cells) (hs1 : slots + N ≤ R.slots) (kk : JJ p l e R s m args below meth c D tyc A n0 ad0 nL Q (pc + 3) (L) (.ref h.1 :: st) (j_push h (103, N, fun _ => .null)) (cells + 1) (slots + N)) : JJ p l e R s m args below meth c D tyc A n0 ad0 nL Q (pc) (L) (.int n :: st) (h) (cells) (slots) := by
  intro ad ls H locs I
  refine va_newq (C := j_R2) x.1 x.2.1 x.2.2.2.1 (x.2.2.2.2.1 _ hw) x.2.2.2.2.2.2.2.2.2.2.1 x.2.2.2.2.2.1 I.2.1 I.2.2.1 I.2.2.2.1 x.2.2.2.2.2.2.1 hn hN hsm hc1 hs1 hd (fun a cA H1 hK hP hD hS => ?_)
  have hcA : cA = tyc 103 := by
    obtain ⟨_, _, _, _, _, f1⟩ := (hK.2 6 (cA, .object j_R2) rfl).2
    obtain ⟨_, _, _, _, _, f2⟩ := (x.2.2.2.2.2.1.2 3 (tyc 103, .object j_R2) rfl).2
    exact Option.some.inj (f1.symm.trans f2)
  subst hcA
  have e2 : j_e tyc ad (103, N, fun _ => .null) = .inl (tyc 103, N, .inr (.inr (.inr (.inr fun _ => none)))) := by rw [j_e_arr (t := 103) rfl (by decide)]; rfl
  rw [← e2] at hP hD
  obtain ⟨I2, e3⟩ := I.pu (st' := st) (c := (103, N, fun _ => .null)) j_ok_tl (fun _ _ hh => by cases hh) hP hD hS
  rw [e3]
  exact kk _ ls H1 locs I2
theorem j_room {ad : Nat → Nat} {st : List Value} (h : st.length ≤ 4) : ((st.map (j_cv ad)).map fun v => v.category).sum ≤ 8 := by
  have key : ∀ (st : List Value), ((st.map (j_cv ad)).map fun v => v.category).sum ≤ 2 * st.length := by
    intro st
    induction st with
    | nil => simp
    | cons v st ih =>
      simp only [List.map_cons, List.sum_cons, List.length_cons]
      rcases lv_cat (j_cv ad v) with h | h <;> omega
  have := key st
  omega
theorem j_dv {ad : Nat → Nat} (ty : FieldType) : j_cv ad (defaultValue ty) = defaultValue ty := by cases ty <;> rfl
theorem j_dv_ok {n : Nat} (ty : FieldType) : j_ok n (defaultValue ty) := by intro k hk; cases ty <;> cases hk
theorem j_new (x : j_X p l s m args meth c D tyc A own cc nL) {idx ci : Nat} {q : vw_C} {ty : Nat → FieldType} (hd : decode cc pc = .ok (.new idx, 3)) (hq : j_cls ci q ty) (hw : Cond.classLink own idx q.1 ∈ j_all) (hw2 : Cond.instantiable q.1 q.2.2 ∈ j_all) (hw3 : Cond.initialized q.1 ∈ j_all) (hc1 : cells + 1 ≤ R.cells) (hs1 : slots + q.2.2 ≤ R.slots) (kk : JJ p l e R s m args below meth c D tyc A n0 ad0 nL Q (pc + 3) (L) (.ref h.1 :: st) (j_push h (ci, q.2.2, fun k => defaultValue (ty k))) (cells + 1) (slots + q.2.2)) : JJ p l e R s m args below meth c D tyc A n0 ad0 nL Q (pc) (L) (st) (h) (cells) (slots) := by
  intro ad ls H locs I
  refine va_new (ci := ci) (fs := (List.range q.2.2).map fun k => j_cv ad (defaultValue (ty k))) (C := q.1) (T := q.2.1) (N := q.2.2) x.1 x.2.1 x.2.2.2.2.1 hq.2.2.1 ty hq.2.2.2.1 x.2.2.2.1 (x.2.2.2.2.1 _ hw) (x.2.2.2.2.1 _ hw2) (x.2.2.2.2.1 _ hw3) x.2.2.2.2.2.1 I.2.1 I.2.2.1 I.2.2.2.1 x.2.2.2.2.2.2.1 hq.1 (fun j hj => by
    show _ = (List.map (fun k => j_cv ad (defaultValue (ty k))) (List.range q.2.2)).getD j .null
    rw [List.getD_eq_getElem?_getD, j_fs_get (f := fun k => defaultValue (ty k)) hj, j_dv]
    rfl) hc1 hs1 hd (fun a H1 hP hD hS => ?_)
  have e2 : j_e tyc ad (ci, q.2.2, fun k => defaultValue (ty k)) = .inr (ci, (List.range q.2.2).map fun k => j_cv ad (defaultValue (ty k))) := j_e_obj rfl hq.2.1
  rw [← e2] at hP hD
  obtain ⟨I2, e3⟩ := I.pu (st' := st) (c := (ci, q.2.2, fun k => defaultValue (ty k))) id (fun j => j_dv_ok (ty j)) hP hD hS
  rw [e3]
  exact kk _ ls H1 locs I2
theorem j_objInit (x : j_X p l s m args meth c D tyc A own cc nL) {idx i : Nat} (hd : decode cc pc = .ok (.invokespecial idx, 3)) (hw : Cond.methodLink own idx Lib.objectInit ∈ j_all) (hw2 : Cond.instanceMethod Lib.objectInit ∈ j_all) (hw3 : Cond.code Lib.objectInit ⟨#[0xb1]⟩ 1 none ∈ j_all) (hst : st.length ≤ 4) (hf : 1 ≤ R.frames) (hlo : 20 ≤ R.locals) (kk : JJ p l e R s m args below meth c D tyc A n0 ad0 nL Q (pc + 3) (L) (st) (h) (cells) (slots)) : JJ p l e R s m args below meth c D tyc A n0 ad0 nL Q (pc) (L) (.ref i :: st) (h) (cells) (slots) := by
  intro ad ls H locs I
  have h8 := j_room (ad := ad) hst
  refine W.objInit x.1 x.2.1 x.2.2.2.1 (x.2.2.2.2.1 _ hw) (x.2.2.2.2.1 _ hw2) (x.2.2.2.2.1 _ hw3) rfl (by rw [x.2.2.1]; exact I.1.1) rfl hd hf (Nat.le_trans (Nat.add_le_add_right (lv_room (m := m) (pc := pc) (ls := ls) (rest := .ref (ad i) :: st.map (j_cv ad)) h8) 12) hlo) ?_
  exact kk ad ls H locs (I.st j_ok_tl)
end JH
end

section
/-! ===== contracts ===== -/
/-- the room that a method of height d has: frames and words enough for what it calls, cells and slots as it says -/
def j_rm (d mc ms : Nat) : Room := { frames := 12 + d, cells := mc, slots := ms, locals := 150 + 60 * d }
def j_E (D : va_G) (tyc : Nat → ClassId) (A : Nat → Prop) (n0 : Nat) (ad0 : Nat → Nat) (h1 : MH) (ad1 : Nat → Nat) (s t : State) : Prop :=
  (n0 ≤ h1.1 ∧ ∀ i, i < n0 → ad1 i = ad0 i) ∧ va_P D vwCl (j_w tyc ad1 h1) t.heap ∧ va_D A (j_w tyc ad1 h1) ∧ j_okH h1 ∧ va_F A s t
def j_Qc (D : va_G) (tyc : Nat → ClassId) (A : Nat → Prop) (n0 : Nat) (ad0 : Nat → Nat) (Q : MO → MH → Prop) : Array Value → State → Outcome → State → Prop := fun _ s oc t =>
  ∃ (v : Option Value) (h1 : MH) (ad1 : Nat → Nat), oc = .returned (v.map (j_cv ad1)) ∧ Q (.inl v) h1 ∧ (∀ w, v = some w → j_ok h1.1 w) ∧ j_E D tyc A n0 ad0 h1 ad1 s t
def j_XC (D : va_G) (tyc : Nat → ClassId) (A : Nat → Prop) (n0 : Nat) (ad0 : Nat → Nat) (Q : MO → MH → Prop) : String → State → State → Prop := fun E s t =>
  ∃ (h1 : MH) (ad1 : Nat → Nat), Q (.inr E) h1 ∧ j_E D tyc A n0 ad0 h1 ad1 s t
def j_B (D : va_G) (tyc : Nat → ClassId) (ad : Nat → Nat) (h : MH) (sz : Nat) (U : State) : Prop := U.heap.size = sz ∧ va_P D vwCl (j_w tyc ad h) U.heap ∧ va_K D vwCl (j_tys tyc) U ∧ va_D (fun _ => True) (j_w tyc ad h) ∧ j_env (va_A (j_w tyc ad h) sz) U U.heap
theorem j_B.blind {D : va_G} {tyc : Nat → ClassId} {ad : Nat → Nat} {h : MH} {sz : Nat} {as : List Value} : FrameBlind (va_Pc as (j_B D tyc ad h sz)) := fun a U g mk q => by
  obtain ⟨q0, q1, qP, qK, qD, qE⟩ := q
  exact ⟨q0, q1, qP, va_K.moved (u := U) (U := U.calling g mk a) (Vm.Alike.refl U.vm) qK, qD, qE.blind⟩
/-- a contract: from the store h and the arguments as, method y comes to an end (.inl v: it returns v; .inr E: it throws an E) and a store of which Q holds -/
def Con (d mc ms : Nat) (y : MethodName) (cc : ByteArray) (maxL : Nat) (ret : Option FieldType) (as : List Value) (h : MH) (Q : MO → MH → Prop) : Prop :=
  ∀ (l : Launch) (D : va_G) (tyc : Nat → ClassId) (ad : Nat → Nat) (sz : Nat), l.stackTraces = false → j_okH h → (∀ v ∈ as, j_ok h.1 v) →
    vx_Met l y (Cond.code y cc maxL ret :: j_all) (j_rm d mc ms) (va_Pc (as.map (j_cv ad)) (j_B D tyc ad h sz)) (j_Qc D tyc (va_A (j_w tyc ad h) sz) h.1 ad Q) (j_XC D tyc (va_A (j_w tyc ad h) sz) h.1 ad Q) mc ms (va_A (j_w tyc ad h) sz)
/-- a method with a table of its own -/
def ConH (d mc ms : Nat) (y : MethodName) (cc : ByteArray) (maxL : Nat) (ret : Option FieldType) (hh : List (Nat × Nat × Nat × Nat)) (as : List Value) (h : MH) (Q : MO → MH → Prop) : Prop :=
  ∀ (l : Launch) (D : va_G) (tyc : Nat → ClassId) (ad : Nat → Nat) (sz : Nat), l.stackTraces = false → j_okH h → (∀ v ∈ as, j_ok h.1 v) →
    vx_Met l y (Cond.codeWith y cc maxL ret hh :: j_all) (j_rm d mc ms) (va_Pc (as.map (j_cv ad)) (j_B D tyc ad h sz)) (j_Qc D tyc (va_A (j_w tyc ad h) sz) h.1 ad Q) (j_XC D tyc (va_A (j_w tyc ad h) sz) h.1 ad Q) mc ms (va_A (j_w tyc ad h) sz)
theorem Con.mono {d mc ms : Nat} {y : MethodName} {cc : ByteArray} {maxL : Nat} {ret : Option FieldType} {as : List Value} {h : MH} {Q Q2 : MO → MH → Prop} (C : Con d mc ms y cc maxL ret as h Q) (hQ : ∀ o k, Q o k → Q2 o k) : Con d mc ms y cc maxL ret as h Q2 := by
  intro l D tyc ad sz hl hh ha p e hA hB hC s m args below hf happ hP hT
  obtain ⟨k, o, h1, h2, h3, h4⟩ := C l D tyc ad sz hl hh ha p e hA hB hC s m args below hf happ hP hT
  refine ⟨k, o, h1, h2, h3, ?_⟩
  rcases h4 with ⟨⟨v, k1, ad1, e1, e2, e3⟩, e4⟩ | ⟨q, e0, E, ce, Lc, ⟨k1, ad1, e2, e3⟩, e4⟩
  · exact Or.inl ⟨⟨v, k1, ad1, e1, hQ _ _ e2, e3⟩, e4⟩
  · exact Or.inr ⟨q, e0, E, ce, Lc, ⟨k1, ad1, hQ _ _ e2, e3⟩, e4⟩
theorem Con.of {d mc ms : Nat} {y : MethodName} {cc : ByteArray} {maxL : Nat} {ret : Option FieldType} {as : List Value} {h : MH} {Q : MO → MH → Prop} (hy : plainName y.cls = true) (hn : as.length ≤ maxL) (hc : as.all (fun v => v.category == 1) = true)
    (body : ∀ (p : Program) (l : Launch) (e : Env) (s : State) (m : MethodId) (args : Array Value) (below : List Frame) (meth : Method) (c : Code) (D : va_G) (tyc : Nat → ClassId) (A : Nat → Prop) (ad0 : Nat → Nat), j_X p l s m args meth c D tyc A y.cls cc maxL → meth.sig.returnType = ret → (∀ z ∈ c.exceptionTable.toList, False) → meth.name = y.name →
      JJ p l e (j_rm d mc ms) s m args below meth c D tyc A h.1 ad0 maxL (vx_MQ below (j_Qc D tyc A h.1 ad0 Q) (j_XC D tyc A h.1 ad0 Q) args s mc ms A) 0 (j_L0 maxL as) [] h 0 0) : Con d mc ms y cc maxL ret as h Q := by
  intro l D tyc ad sz hl hh ha
  have hc : ∀ v ∈ as, v.category = 1 := fun v hv => by simpa using List.all_eq_true.mp hc v hv
  refine vx_ofW (cc := cc) (maxL := maxL) (ret := ret) hy rfl ?_
  intro p e s m args below meth c s₁ B hml htab hv
  obtain ⟨rfl, hsz, hP, hK, hD0, hE⟩ := hv
  have hts := atoms_spec (ws := Cond.code y cc maxL ret :: j_all) B.pre
  subst hsz
  have hD := hD0.self (sz := s.heap.size)
  have hA : ∀ q : Nat, s.heap.size ≤ q → va_A (j_w tyc ad h) s.heap.size q := fun q h => Or.inr h
  have hl0 := lv_entry (as.map (j_cv ad)) (n := maxL) (by
    have e1 : ∀ (vs : List Value), (∀ v ∈ vs, v.category = 1) → (lg_sl (vs.map (j_cv ad))).length = vs.length := by
      intro vs
      induction vs with
      | nil => intro _; rfl
      | cons v vs ih =>
        intro hc
        have hv : ¬ (j_cv ad v).category = 2 := by rw [j_cv_cat, hc v List.mem_cons_self]; decide
        simp only [lg_sl, List.map_cons, List.flatMap_cons, if_neg hv, List.length_append, List.length_cons, List.length_nil]
        have := ih (fun w hw => hc w (List.mem_cons_of_mem _ hw))
        simp only [lg_sl] at this
        omega
    rw [e1 as hc]
    exact hn)
  rw [lg_entry_eq]
  have key := body p l e s m ((as.map (j_cv ad)).toArray) below meth c D tyc (va_A (j_w tyc ad h) s.heap.size) ad ⟨B.exec, B.bytes, hml, findClass_of_methodNamed B.named, fun w hw => hts w (List.mem_cons_of_mem _ hw), hK, hA, B.notSynchronized, hl, hE⟩ B.returns htab (name_of_methodNamed B.named B.method).1
  exact key ad _ s.heap [] ⟨j_L.entry hn hc hl0, hP, hD, va_S.rf, ⟨Nat.le_refl _, fun _ _ => rfl⟩, hh, fun v hv => (by cases hv), fun v hv => ha v (by
    obtain ⟨i, hi⟩ := List.getElem?_of_mem hv
    exact List.mem_of_getElem? (j_L0_get hi))⟩
section JC
variable {p : Program} {l : Launch} {e : Env} {R : Room} {s : State} {m : MethodId} {args : Array Value} {below : List Frame} {meth : Method} {c : Code} {D : va_G} {tyc : Nat → ClassId} {A : Nat → Prop} {n0 : Nat} {ad0 : Nat → Nat} {nL : Nat} {Qs : State → Prop}
variable {own : String} {cc : ByteArray} {pc : Nat} {L : List (Option Value)} {st : List Value} {h : MH} {cells slots mc ms : Nat} {Q : MO → MH → Prop}
theorem j_E.of {ad : Nat → Nat} {ls : Array Slot} {H : Heap} {locs : List Loc} {t : State} (I : j_I s D tyc A n0 ad0 nL ad L st h ls H locs) (ht : t.heap = H) : j_E D tyc A n0 ad0 h ad s t :=
  ⟨I.2.2.2.2.1, by rw [ht]; exact I.2.1, I.2.2.1, I.2.2.2.2.2.1, I.2.2.2.1.F ht⟩
theorem j_ireturn (x : j_X p l s m args meth c D tyc A own cc nL) {v : Int32} (hr : meth.sig.returnType = some .int) (hd : decode cc pc = .ok (.ireturn, 1)) (hc : cells ≤ mc) (hs : slots ≤ ms) (hq : Q (.inl (some (.int v))) h) : JJ p l e R s m args below meth c D tyc A n0 ad0 nL (vx_MQ below (j_Qc D tyc A n0 ad0 Q) (j_XC D tyc A n0 ad0 Q) args s mc ms A) pc L [.int v] h cells slots := by
  intro ad ls H locs I
  refine vx_ret (W.widen hc hs ?_)
  exact W.iret x.1 x.2.1 hr (fun t ht hW => ⟨some (.int v), h, ad, rfl, hq, fun w hw => by cases hw; exact j_ok_int, .of I ht⟩) I.2.2.2.1.2.2 hd x.2.2.2.2.2.2.2.1
theorem j_zreturn (x : j_X p l s m args meth c D tyc A own cc nL) {v : Int32} {ty : FieldType} (hr : meth.sig.returnType = some ty) (hd : decode cc pc = .ok (.ireturn, 1)) (hn : narrow ty (.int v) = .int v) (hc : cells ≤ mc) (hs : slots ≤ ms) (hq : Q (.inl (some (.int v))) h) : JJ p l e R s m args below meth c D tyc A n0 ad0 nL (vx_MQ below (j_Qc D tyc A n0 ad0 Q) (j_XC D tyc A n0 ad0 Q) args s mc ms A) pc L [.int v] h cells slots := by
  intro ad ls H locs I
  refine vx_ret (W.widen hc hs ?_)
  exact W.zret x.1 x.2.1 hr hn (fun t ht hW => ⟨some (.int v), h, ad, rfl, hq, fun w hw => by cases hw; exact j_ok_int, .of I ht⟩) I.2.2.2.1.2.2 hd x.2.2.2.2.2.2.2.1
theorem j_return (x : j_X p l s m args meth c D tyc A own cc nL) (hr : meth.sig.returnType = none) (hd : decode cc pc = .ok (.return_, 1)) (hc : cells ≤ mc) (hs : slots ≤ ms) (hq : Q (.inl none) h) : JJ p l e R s m args below meth c D tyc A n0 ad0 nL (vx_MQ below (j_Qc D tyc A n0 ad0 Q) (j_XC D tyc A n0 ad0 Q) args s mc ms A) pc L [] h cells slots := by
  intro ad ls H locs I
  refine vx_ret (W.widen hc hs ?_)
  exact W.vret x.1 x.2.1 hr (fun t ht hW => ⟨none, h, ad, rfl, hq, fun w hw => (by cases hw), .of I ht⟩) I.2.2.2.1.2.2 hd x.2.2.2.2.2.2.2.1
theorem j_areturn (x : j_X p l s m args meth c D tyc A own cc nL) {a : Nat} {rt : FieldType} (hr : meth.sig.returnType = some rt) (hrt : (∃ n, rt = .object n) ∨ ∃ t, rt = .array t) (hd : decode cc pc = .ok (.areturn, 1)) (hc : cells ≤ mc) (hs : slots ≤ ms) (hq : Q (.inl (some (.ref a))) h) : JJ p l e R s m args below meth c D tyc A n0 ad0 nL (vx_MQ below (j_Qc D tyc A n0 ad0 Q) (j_XC D tyc A n0 ad0 Q) args s mc ms A) pc L [.ref a] h cells slots := by
  intro ad ls H locs I
  refine vx_ret (W.widen hc hs ?_)
  exact W.aret x.1 x.2.1 hr hrt (Or.inr ⟨_, rfl⟩) (fun t ht hW => ⟨some (.ref a), h, ad, rfl, hq, fun w hw => by cases hw; exact I.2.2.2.2.2.2.1 _ List.mem_cons_self, .of I ht⟩) I.2.2.2.1.2.2 hd x.2.2.2.2.2.2.2.1
/-- behind a call -/
theorem j_run (x : j_X p l s m args meth c D tyc A own cc nL) {ad : Nat → Nat} {ls : Array Slot} {H : Heap} {locs : List Loc} {as : List Value} {a : Array Value} {mc1 ms1 : Nat} {Q1 : MO → MH → Prop} (I : j_I s D tyc A n0 ad0 nL ad L (as ++ st) h ls H locs) {st0 : List Value}
    (hr : vx_Run p l e R s m args below meth c H locs cells slots mc1 ms1 (F0 m pc ls st0) (st.map (j_cv ad)) (j_Qc D tyc (va_A (j_w tyc ad h) H.size) h.1 ad Q1 a) (j_XC D tyc (va_A (j_w tyc ad h) H.size) h.1 ad Q1) (va_A (j_w tyc ad h) H.size))
    (kx : ∀ (E : String) (h1 : MH) (ad1 : Nat → Nat) (H1 : Heap) (locs1 : List Loc) (q : Addr) (ce : Cell), Q1 (.inr E) h1 → j_I s D tyc A n0 ad0 nL ad1 L st h1 ls H1 locs1 → H1[q]? = some ce → ce.vm = .none → s.vm.findClass E = some ce.cls → vx_W p l e R s m args below meth c H1 locs1 (cells + mc1) (slots + ms1) Qs (F0 m pc ls (st.map (j_cv ad1))) q)
    (kk : ∀ (v : Option Value) (h1 : MH), Q1 (.inl v) h1 → JJ p l e R s m args below meth c D tyc A n0 ad0 nL Qs (pc + 3) L (v.toList ++ st) h1 (cells + mc1) (slots + ms1)) : W p l e R s m args below meth c H locs cells slots Qs (F0 m pc ls st0) := by
  have hA : ∀ q, va_A (j_w tyc ad h) H.size q → A q := by
    intro q hq
    rcases hq with ⟨k, e, hk⟩ | hq
    · exact I.2.2.1.2 k _ hk
    · exact x.2.2.2.2.2.2.1 q (Nat.le_trans I.2.2.2.1.1 hq)
  have hst : ∀ v ∈ st, j_ok h.1 v := fun v hv => I.2.2.2.2.2.2.1 v (List.mem_append_right _ hv)
  -- the invariant behind the call
  have next : ∀ (h1 : MH) (ad1 : Nat → Nat) (st₀ t T' : State) (Lc : List Loc) (w : List Value), st₀.heap = H → T'.heap = t.heap → (∀ q ∈ Lc, va_A (j_w tyc ad h) H.size q.base) → (∀ v ∈ w, j_ok h1.1 v) → j_E D tyc (va_A (j_w tyc ad h) H.size) h.1 ad h1 ad1 st₀ t → j_I s D tyc A n0 ad0 nL ad1 L (w ++ st) h1 ls T'.heap (locs ++ Lc) := by
    intro h1 ad1 st₀ t T' Lc w h0 e1 hLc hw E
    obtain ⟨⟨hn, had⟩, hP, hD, hok, hF⟩ := E
    have hS := I.2.2.2.1
    obtain ⟨k1, k2⟩ := hF
    rw [h0] at k1 k2
    refine ⟨I.1.ad had I.2.2.2.2.2.2.2, by rw [e1]; exact hP, hD.weaken (fun _ _ _ hq => hA _ hq), ⟨Nat.le_trans hS.1 (by rw [e1]; exact k1), fun q q1 q2 => ?_, fun q hq => ?_⟩, ⟨Nat.le_trans I.2.2.2.2.1.1 hn, fun i hi => ?_⟩, hok, fun v hv => ?_, fun v hv => j_ok_mono (I.2.2.2.2.2.2.2 v hv) hn⟩
    · rw [e1, k2 q (Nat.lt_of_lt_of_le q1 hS.1) (fun z => q2 (hA q z))]
      exact hS.2.1 q q1 q2
    · rcases List.mem_append.mp hq with hq | hq
      · exact hS.2.2 q hq
      · exact hA _ (hLc q hq)
    · rw [had i (Nat.lt_of_lt_of_le hi I.2.2.2.2.1.1)]
      exact I.2.2.2.2.1.2 i hi
    · rcases List.mem_append.mp hv with hv | hv
      · exact hw v hv
      · exact j_ok_mono (hst v hv) hn
  intro T hT X
  rcases hr T hT X with ⟨v0, st₀, t, T', Lc, h0, X', hLc, e1, e2, ⟨v, h1, ad1, ev, hq, hok, E⟩, go⟩ | ⟨q, st₀, t, T', Lc, E, ce, h0, X', hLc, e1, e2, ⟨h1, ad1, hq, E9⟩, hce, hcv, hcl, go⟩
  · have ev : v0 = v.map (j_cv ad1) := Outcome.returned.inj ev
    have I2 := next h1 ad1 st₀ t T' Lc v.toList h0 e1 hLc (fun w hw => hok w (by cases v with
      | none => cases hw
      | some u => rw [Option.toList_some, List.mem_singleton] at hw; rw [hw])) E
    obtain ⟨tt, a1, b1⟩ := kk v h1 hq ad1 ls T'.heap (locs ++ Lc) I2 T' rfl X'
    refine ⟨tt, go tt ?_, b1⟩
    have es : v0.toList ++ st.map (j_cv ad) = (v.toList ++ st).map (j_cv ad1) := by
      rw [ev, List.map_append]
      congr 1
      · cases v <;> rfl
      · exact List.map_congr_left fun w hw => (j_cv_eq E.1.2 (hst w hw)).symm
    rw [es]
    exact a1
  · have I2 := next h1 ad1 st₀ t T' Lc [] h0 e1 hLc (fun w hw => by cases hw) E9
    obtain ⟨tt, a1, b1⟩ := kx E h1 ad1 T'.heap (locs ++ Lc) q ce hq I2 (by rw [e1]; exact hce) hcv hcl T' rfl X'
    refine ⟨tt, go.trans ?_, b1⟩
    have es : st.map (j_cv ad) = st.map (j_cv ad1) := List.map_congr_left fun w hw => (j_cv_eq E9.1.2 (hst w hw)).symm
    rw [es]
    exact a1
/-- what a callee's start asks -/
theorem j_pre (x : j_X p l s m args meth c D tyc A own cc nL) {ad : Nat → Nat} {ls : Array Slot} {H : Heap} {locs : List Loc} (I : j_I s D tyc A n0 ad0 nL ad L st h ls H locs) {U : State} (hU : U.heap = H) (hW : s.WarmedH U.vm) : j_B D tyc ad h H.size U := by
  refine ⟨by rw [hU], by rw [hU]; exact I.2.1, va_K.moved hW.alike x.2.2.2.2.2.1, I.2.2.1.weaken (fun _ _ _ _ => trivial), ?_⟩
  rw [hU]
  refine x.2.2.2.2.2.2.2.2.2.go hW (fun q q1 q2 => I.2.2.2.1.2.1 q q1 q2) ?_
  intro q hq
  rcases hq with ⟨k, e, hk⟩ | hq
  · exact I.2.2.1.2 k _ hk
  · exact x.2.2.2.2.2.2.1 q (Nat.le_trans I.2.2.2.1.1 hq)
end JC
end

section
/-! ===== calls ===== -/
/-- what the tables say of a method that is called on an object; of a static one; of a constructor -/
def j_mV (y : MethodName) (bytes : ByteArray) (maxL : Nat) (ret : Option FieldType) (n : Nat) : Prop :=
  Cond.instanceMethod y ∈ j_all ∧ Cond.selects y.cls y y ∈ j_all ∧ Cond.initialized y.cls ∈ j_all ∧ Cond.code y bytes maxL ret ∈ j_all ∧ (y.cls ≠ "java/lang/invoke/MethodHandle" ∧ y.cls ≠ "java/lang/invoke/VarHandle" ∧ (parseMethodDescriptor y.desc).map (fun d => d.parameters.length) = some n) ∧ maxL ≤ 40
def j_mS (y : MethodName) (bytes : ByteArray) (maxL : Nat) (ret : Option FieldType) (n : Nat) : Prop :=
  Cond.static y ∈ j_all ∧ Cond.initialized y.cls ∈ j_all ∧ Cond.code y bytes maxL ret ∈ j_all ∧ (y.cls ≠ "java/lang/invoke/MethodHandle" ∧ y.cls ≠ "java/lang/invoke/VarHandle" ∧ (parseMethodDescriptor y.desc).map (fun d => d.parameters.length) = some n) ∧ maxL ≤ 40
def j_mI (y : MethodName) (bytes : ByteArray) (maxL : Nat) (n : Nat) : Prop :=
  Cond.instanceMethod y ∈ j_all ∧ Cond.initialized y.cls ∈ j_all ∧ Cond.code y bytes maxL none ∈ j_all ∧ (y.cls ≠ "java/lang/invoke/MethodHandle" ∧ y.cls ≠ "java/lang/invoke/VarHandle" ∧ (parseMethodDescriptor y.desc).map (fun d => d.parameters.length) = some n) ∧ maxL ≤ 40 ∧ y.name = "<init>"
theorem j_mem_cons {w : Cond} {ws : List Cond} (h : w ∈ j_all) (t : ∀ v ∈ ws, v ∈ j_all) : ∀ v ∈ w :: ws, v ∈ j_all := fun v hv => (List.mem_cons.mp hv).elim (fun e => by rw [e]; exact h) (t v)
theorem j_rm_ok {d d1 mc ms maxL mc1 ms1 : Nat} (h : d1 + 1 ≤ d) (hm : maxL ≤ 40) : (j_rm d1 mc1 ms1).frames + 1 ≤ (j_rm d mc ms).frames ∧ 8 + (maxL + 11) + (j_rm d1 mc1 ms1).locals ≤ (j_rm d mc ms).locals := by
  simp only [j_rm]
  omega
section JK
variable {p : Program} {l : Launch} {e : Env} {R : Room} {s : State} {m : MethodId} {args : Array Value} {below : List Frame} {meth : Method} {c : Code} {D : va_G} {tyc : Nat → ClassId} {A : Nat → Prop} {n0 : Nat} {ad0 : Nat → Nat} {nL : Nat} {Qs : State → Prop}
variable {own : String} {cc : ByteArray} {pc : Nat} {L : List (Option Value)} {st : List Value} {h : MH} {cells slots : Nat} {d1 mc1 ms1 maxL idx n : Nat} {y : MethodName} {bytes : ByteArray} {ret : Option FieldType} {Q1 : MO → MH → Prop} {as st0 : List Value} {b : Nat}
/-- the room that a caller has left for a callee of height d1 -/
def j_fit (R : Room) (d1 mc1 ms1 cells slots : Nat) : Prop := (∀ maxL, maxL ≤ 40 → (j_rm d1 mc1 ms1).frames + 1 ≤ R.frames ∧ 8 + (maxL + 11) + (j_rm d1 mc1 ms1).locals ≤ R.locals) ∧ cells + mc1 ≤ R.cells ∧ slots + ms1 ≤ R.slots
theorem j_fit_rm {d d1 mc ms mc1 ms1 cells slots : Nat} (h : d1 + 1 ≤ d) (h1 : cells + mc1 ≤ mc) (h2 : slots + ms1 ≤ ms) : j_fit (j_rm d mc ms) d1 mc1 ms1 cells slots := ⟨fun _ hm => j_rm_ok h hm, h1, h2⟩
/-- an exception that no callee throws -/
theorem j_no {Q1 : MO → MH → Prop} {s : State} {L : List (Option Value)} {st : List Value} {H : Heap} {c1 s1 : Nat} (hx : ∀ E k, ¬ Q1 (.inr E) k) : ∀ (E : String) (h1 : MH) (ad1 : Nat → Nat) (ls : Array Slot) (H1 : Heap) (locs1 : List Loc) (q : Addr) (ce : Cell), Q1 (.inr E) h1 → j_I s D tyc A n0 ad0 nL ad1 L st h1 ls H1 locs1 → H1[q]? = some ce → ce.vm = .none → s.vm.findClass E = some ce.cls → vx_W p l e R s m args below meth c H1 locs1 c1 s1 Qs (F0 m pc ls (st.map (j_cv ad1))) q :=
  fun E h1 _ _ _ _ _ _ hq => absurd hq (hx E h1)
theorem j_callVX (x : j_X p l s m args meth c D tyc A own cc nL) {ci : Nat} {q : vw_C} {ty : Nat → FieldType} (hd : decode cc pc = .ok (.invokevirtual idx, 3)) (hcon : Con d1 mc1 ms1 y bytes maxL ret (.ref b :: as) h Q1) (hm : j_mV y bytes maxL ret n) (hw : Cond.methodLink own idx y ∈ j_all) (hq : j_cls ci q ty) (hqy : q.1 = y.cls)
    (hb : b < h.1) (htb : (h.2 b).1 = ci) (hn : as.length = n) (hst : st.length ≤ 4) (hfit : j_fit R d1 mc1 ms1 cells slots) (h0 : st0 = as.reverse ++ .ref b :: st)
    (kx : ∀ (E : String) (h1 : MH) (ad1 : Nat → Nat) (ls : Array Slot) (H1 : Heap) (locs1 : List Loc) (q : Addr) (ce : Cell), Q1 (.inr E) h1 → j_I s D tyc A n0 ad0 nL ad1 L st h1 ls H1 locs1 → H1[q]? = some ce → ce.vm = .none → s.vm.findClass E = some ce.cls → vx_W p l e R s m args below meth c H1 locs1 (cells + mc1) (slots + ms1) Qs (F0 m pc ls (st.map (j_cv ad1))) q)
    (kk : ∀ (v : Option Value) (h1 : MH), Q1 (.inl v) h1 → JJ p l e R s m args below meth c D tyc A n0 ad0 nL Qs (pc + 3) L (v.toList ++ st) h1 (cells + mc1) (slots + ms1)) : JJ p l e R s m args below meth c D tyc A n0 ad0 nL Qs pc L st0 h cells slots := by
  subst h0
  intro ad ls H locs I
  obtain ⟨w1, w2, w3, w4, w5, w6⟩ := hm
  have e0 : (as.reverse ++ .ref b :: st).map (j_cv ad) = (as.map (j_cv ad)).reverse ++ Value.ref (ad b) :: st.map (j_cv ad) := by rw [List.map_append, List.map_reverse]; rfl
  have I2 : j_I s D tyc A n0 ad0 nL ad L ((as.reverse ++ [.ref b]) ++ st) h ls H locs := by rw [List.append_assoc]; exact I
  have hargs : ∀ v ∈ Value.ref b :: as, j_ok h.1 v := fun v hv => (List.mem_cons.mp hv).elim (fun e => by rw [e]; exact j_ok_ref hb) (fun hv => I.2.2.2.2.2.2.1 v (List.mem_append_left _ (List.mem_reverse.mpr hv)))
  have hM := hcon l D tyc ad H.size x.2.2.2.2.2.2.2.2.1 I.2.2.2.2.2.1 hargs
  have he : (j_w tyc ad h)[b]? = some (ad b, .inr (ci, (List.range (h.2 b).2.1).map fun k => j_cv ad ((h.2 b).2.2 k))) := by rw [j_w_get hb, j_e_obj htb hq.2.1]
  rw [e0]
  refine j_run (a := (Value.ref (ad b) :: as.map (j_cv ad)).toArray) x I2 (vx_runV (C := q.1) (As := as.map (j_cv ad)) ⟨x.1, x.2.1, x.2.2.1, x.2.2.2.1, x.2.2.2.2.1⟩ hM (cwV n x.2.2.2.2.1 (j_good ?_) rfl rfl rfl ⟨hqy.symm, w5⟩ (hfit.1 maxL w6)) ⟨j_B.blind, va_recv x.2.2.2.2.2.1 I.2.1 hq.1 he, fun U hU hW => ⟨rfl, j_pre x I hU hW⟩⟩ rfl (by rw [List.length_map]; exact hn) I.1.1 rfl (lv_room (j_room hst)) hd ⟨hfit.2.1, hfit.2.2⟩) (fun E h1 ad1 => kx E h1 ad1 ls) kk
  rw [hqy]
  exact j_mem_cons (ws := [Cond.instanceMethod y, Cond.selects y.cls y y, Cond.initialized y.cls] ++ (Cond.code y bytes maxL ret :: j_all)) hw (j_mem_cons w1 (j_mem_cons w2 (j_mem_cons w3 (j_mem_cons w4 fun _ h => h))))
theorem j_callV (x : j_X p l s m args meth c D tyc A own cc nL) {ci : Nat} {q : vw_C} {ty : Nat → FieldType} (hd : decode cc pc = .ok (.invokevirtual idx, 3)) (hcon : Con d1 mc1 ms1 y bytes maxL ret (.ref b :: as) h Q1) (hm : j_mV y bytes maxL ret n) (hw : Cond.methodLink own idx y ∈ j_all) (hq : j_cls ci q ty) (hqy : q.1 = y.cls)
    (hb : b < h.1) (htb : (h.2 b).1 = ci) (hn : as.length = n) (hst : st.length ≤ 4) (hfit : j_fit R d1 mc1 ms1 cells slots) (h0 : st0 = as.reverse ++ .ref b :: st) (hx : ∀ E k, ¬ Q1 (.inr E) k)
    (kk : ∀ (v : Option Value) (h1 : MH), Q1 (.inl v) h1 → JJ p l e R s m args below meth c D tyc A n0 ad0 nL Qs (pc + 3) L (v.toList ++ st) h1 (cells + mc1) (slots + ms1)) : JJ p l e R s m args below meth c D tyc A n0 ad0 nL Qs pc L st0 h cells slots :=
  j_callVX x hd hcon hm hw hq hqy hb htb hn hst hfit h0 (j_no hx (H := #[])) kk
theorem j_callS (x : j_X p l s m args meth c D tyc A own cc nL) (hd : decode cc pc = .ok (.invokestatic idx, 3)) (hcon : Con d1 mc1 ms1 y bytes maxL ret as h Q1) (hm : j_mS y bytes maxL ret n) (hw : Cond.methodLink own idx y ∈ j_all)
    (hn : as.length = n) (hst : st.length ≤ 4) (hfit : j_fit R d1 mc1 ms1 cells slots) (h0 : st0 = as.reverse ++ st) (hx : ∀ E k, ¬ Q1 (.inr E) k)
    (kk : ∀ (v : Option Value) (h1 : MH), Q1 (.inl v) h1 → JJ p l e R s m args below meth c D tyc A n0 ad0 nL Qs (pc + 3) L (v.toList ++ st) h1 (cells + mc1) (slots + ms1)) : JJ p l e R s m args below meth c D tyc A n0 ad0 nL Qs pc L st0 h cells slots := by
  subst h0
  intro ad ls H locs I
  obtain ⟨w1, w3, w4, w5, w6⟩ := hm
  have e0 : (as.reverse ++ st).map (j_cv ad) = (as.map (j_cv ad)).reverse ++ st.map (j_cv ad) := by rw [List.map_append, List.map_reverse]
  have hargs : ∀ v ∈ as, j_ok h.1 v := fun v hv => I.2.2.2.2.2.2.1 v (List.mem_append_left _ (List.mem_reverse.mpr hv))
  have hM := hcon l D tyc ad H.size x.2.2.2.2.2.2.2.2.1 I.2.2.2.2.2.1 hargs
  rw [e0]
  refine j_run (a := (as.map (j_cv ad)).toArray) x I (vx_runS (As := as.map (j_cv ad)) ⟨x.1, x.2.1, x.2.2.1, x.2.2.2.1, x.2.2.2.2.1⟩ hM (va_cwS n x.2.2.2.2.1 (j_good ?_) rfl rfl rfl w5 (hfit.1 maxL w6)) ⟨j_B.blind, fun U hU hW => ⟨rfl, j_pre x I hU hW⟩⟩ rfl (by rw [List.length_map]; exact hn) I.1.1 rfl (lv_room (j_room hst)) hd ⟨hfit.2.1, hfit.2.2⟩) (fun E h1 ad1 => j_no hx (H := #[]) E h1 ad1 ls) kk
  exact j_mem_cons (ws := [Cond.static y, Cond.initialized y.cls] ++ (Cond.code y bytes maxL ret :: j_all)) hw (j_mem_cons w1 (j_mem_cons w3 (j_mem_cons w4 fun _ h => h)))
/-- a static method of a nest mate, private there -/
theorem j_callSN (x : j_X p l s m args meth c D tyc A own cc nL) {host : String} (hd : decode cc pc = .ok (.invokestatic idx, 3)) (hcon : Con d1 mc1 ms1 y bytes maxL ret as h Q1) (hm : j_mS y bytes maxL ret n) (hw : Cond.methodLinkNest own idx y host ∈ j_nw)
    (hn : as.length = n) (hst : st.length ≤ 4) (hfit : j_fit R d1 mc1 ms1 cells slots) (h0 : st0 = as.reverse ++ st) (hx : ∀ E k, ¬ Q1 (.inr E) k)
    (kk : ∀ (v : Option Value) (h1 : MH), Q1 (.inl v) h1 → JJ p l e R s m args below meth c D tyc A n0 ad0 nL Qs (pc + 3) L (v.toList ++ st) h1 (cells + mc1) (slots + ms1)) : JJ p l e R s m args below meth c D tyc A n0 ad0 nL Qs pc L st0 h cells slots := by
  subst h0
  intro ad ls H locs I
  obtain ⟨w1, w3, w4, w5, w6⟩ := hm
  have e0 : (as.reverse ++ st).map (j_cv ad) = (as.map (j_cv ad)).reverse ++ st.map (j_cv ad) := by rw [List.map_append, List.map_reverse]
  have hargs : ∀ v ∈ as, j_ok h.1 v := fun v hv => I.2.2.2.2.2.2.1 v (List.mem_append_left _ (List.mem_reverse.mpr hv))
  have hM := hcon l D tyc ad H.size x.2.2.2.2.2.2.2.2.1 I.2.2.2.2.2.1 hargs
  rw [e0]
  refine j_run (a := (as.map (j_cv ad)).toArray) x I (vx_runSN (As := as.map (j_cv ad)) ⟨x.1, x.2.1, x.2.2.1, x.2.2.2.1, x.2.2.2.2.1⟩ hM ⟨va_cnB n x.2.2.2.2.1 (j_good ?_) rfl rfl rfl (x.2.2.2.2.2.2.2.2.2.1 _ hw) (x.2.2.2.2.1 _ w3) w5 (hfit.1 maxL w6), x.2.2.2.2.1 _ w1, trivial⟩ ⟨j_B.blind, fun U hU hW => ⟨rfl, j_pre x I hU hW⟩⟩ rfl (by rw [List.length_map]; exact hn) I.1.1 rfl (lv_room (j_room hst)) hd ⟨hfit.2.1, hfit.2.2⟩) (fun E h1 ad1 => j_no hx (H := #[]) E h1 ad1 ls) kk
  exact j_mem_cons w4 fun _ h => h
theorem j_callI (x : j_X p l s m args meth c D tyc A own cc nL) (hd : decode cc pc = .ok (.invokespecial idx, 3)) (hcon : Con d1 mc1 ms1 y bytes maxL none (.ref b :: as) h Q1) (hm : j_mI y bytes maxL n) (hw : Cond.methodLink own idx y ∈ j_all)
    (hb : b < h.1) (hn : as.length = n) (hst : st.length ≤ 4) (hfit : j_fit R d1 mc1 ms1 cells slots) (h0 : st0 = as.reverse ++ .ref b :: st) (hx : ∀ E k, ¬ Q1 (.inr E) k)
    (kk : ∀ (v : Option Value) (h1 : MH), Q1 (.inl v) h1 → JJ p l e R s m args below meth c D tyc A n0 ad0 nL Qs (pc + 3) L (v.toList ++ st) h1 (cells + mc1) (slots + ms1)) : JJ p l e R s m args below meth c D tyc A n0 ad0 nL Qs pc L st0 h cells slots := by
  subst h0
  intro ad ls H locs I
  obtain ⟨w1, w3, w4, w5, w6, w7⟩ := hm
  have e0 : (as.reverse ++ .ref b :: st).map (j_cv ad) = (as.map (j_cv ad)).reverse ++ Value.ref (ad b) :: st.map (j_cv ad) := by rw [List.map_append, List.map_reverse]; rfl
  have I2 : j_I s D tyc A n0 ad0 nL ad L ((as.reverse ++ [.ref b]) ++ st) h ls H locs := by rw [List.append_assoc]; exact I
  have hargs : ∀ v ∈ Value.ref b :: as, j_ok h.1 v := fun v hv => (List.mem_cons.mp hv).elim (fun e => by rw [e]; exact j_ok_ref hb) (fun hv => I.2.2.2.2.2.2.1 v (List.mem_append_left _ (List.mem_reverse.mpr hv)))
  have hM := hcon l D tyc ad H.size x.2.2.2.2.2.2.2.2.1 I.2.2.2.2.2.1 hargs
  rw [e0]
  refine j_run (a := (Value.ref (ad b) :: as.map (j_cv ad)).toArray) x I2 (vx_runI (b := ad b) (As := as.map (j_cv ad)) ⟨x.1, x.2.1, x.2.2.1, x.2.2.2.1, x.2.2.2.2.1⟩ hM (cwI n x.2.2.2.2.1 (j_good ?_) rfl rfl rfl (x.2.2.2.2.1 _ w3) (x.2.2.2.2.1 _ hw) (x.2.2.2.2.1 _ w1) w7 w5 (hfit.1 maxL w6)) ⟨j_B.blind, fun U hU hW => ⟨rfl, j_pre x I hU hW⟩⟩ rfl (by rw [List.length_map]; exact hn) I.1.1 rfl (lv_room (j_room hst)) hd ⟨hfit.2.1, hfit.2.2⟩) (fun E h1 ad1 => j_no hx (H := #[]) E h1 ad1 ls) kk
  exact j_mem_cons w4 fun _ h => h
theorem j_callIN (x : j_X p l s m args meth c D tyc A own cc nL) {host : String} (hd : decode cc pc = .ok (.invokespecial idx, 3)) (hcon : Con d1 mc1 ms1 y bytes maxL none (.ref b :: as) h Q1) (hm : j_mI y bytes maxL n) (hw : Cond.methodLinkNest own idx y host ∈ j_nw)
    (hb : b < h.1) (hn : as.length = n) (hst : st.length ≤ 4) (hfit : j_fit R d1 mc1 ms1 cells slots) (h0 : st0 = as.reverse ++ .ref b :: st) (hx : ∀ E k, ¬ Q1 (.inr E) k)
    (kk : ∀ (v : Option Value) (h1 : MH), Q1 (.inl v) h1 → JJ p l e R s m args below meth c D tyc A n0 ad0 nL Qs (pc + 3) L (v.toList ++ st) h1 (cells + mc1) (slots + ms1)) : JJ p l e R s m args below meth c D tyc A n0 ad0 nL Qs pc L st0 h cells slots := by
  subst h0
  intro ad ls H locs I
  obtain ⟨w1, w3, w4, w5, w6, w7⟩ := hm
  have e0 : (as.reverse ++ .ref b :: st).map (j_cv ad) = (as.map (j_cv ad)).reverse ++ Value.ref (ad b) :: st.map (j_cv ad) := by rw [List.map_append, List.map_reverse]; rfl
  have I2 : j_I s D tyc A n0 ad0 nL ad L ((as.reverse ++ [.ref b]) ++ st) h ls H locs := by rw [List.append_assoc]; exact I
  have hargs : ∀ v ∈ Value.ref b :: as, j_ok h.1 v := fun v hv => (List.mem_cons.mp hv).elim (fun e => by rw [e]; exact j_ok_ref hb) (fun hv => I.2.2.2.2.2.2.1 v (List.mem_append_left _ (List.mem_reverse.mpr hv)))
  have hM := hcon l D tyc ad H.size x.2.2.2.2.2.2.2.2.1 I.2.2.2.2.2.1 hargs
  rw [e0]
  refine j_run (a := (Value.ref (ad b) :: as.map (j_cv ad)).toArray) x I2 (vx_runIN (b := ad b) (As := as.map (j_cv ad)) ⟨x.1, x.2.1, x.2.2.1, x.2.2.2.1, x.2.2.2.2.1⟩ hM ⟨va_cnB n x.2.2.2.2.1 (j_good ?_) rfl rfl rfl (x.2.2.2.2.2.2.2.2.2.1 _ hw) (x.2.2.2.2.1 _ w3) w5 (hfit.1 maxL w6), w7, x.2.2.2.2.1 _ w1⟩ ⟨j_B.blind, fun U hU hW => ⟨rfl, j_pre x I hU hW⟩⟩ rfl (by rw [List.length_map]; exact hn) I.1.1 rfl (lv_room (j_room hst)) hd ⟨hfit.2.1, hfit.2.2⟩) (fun E h1 ad1 => j_no hx (H := #[]) E h1 ad1 ls) kk
  exact j_mem_cons w4 fun _ h => h
end JK
end

section
/-! ===== throws, Math, arraycopy, super ===== -/
theorem j_hat {args : Array Value} {s : State} {ws : List Cond} (h1 : ∀ w ∈ j_all, w.before args s = true) (h2 : ∀ w ∈ j_nw, va_Nw w s) (h : ∀ w ∈ ws, w ∈ j_all ∨ w ∈ j_nw) : ∀ w ∈ ws, w.before args s = true := by
  intro w hw
  rcases h w hw with h | h
  · exact h1 w h
  · exact va_Nw.use (j_soft_tab (List.mem_filter.mp h).2) (h2 w h)
theorem j_ot {w : Cond} (h : w ∈ j_all ∨ w ∈ j_nw) : vx_ot w = true := by
  unfold vx_ot
  rw [Bool.or_eq_true]
  rcases h with h | h
  · exact Or.inr (List.mem_filter.mp h).2
  · exact Or.inl (j_soft_tab (List.mem_filter.mp h).2)
/-- an exception's class, the classes between it and Throwable, the words of its making in the class own, its constructor at ic -/
def j_exS (own : String) (ik ic : Nat) (cls : String) (names : List String) : Prop := Bundle.fit cls = true ∧ (∀ n ∈ names, Bundle.fit n = true) ∧ Cond.classLink own ik cls ∈ j_all ∧ Cond.initialized cls ∈ j_all ∧ (∀ w ∈ vx_atS own ic cls names, w ∈ j_all ∨ w ∈ j_nw) ∧ names.length ≤ 5
section JT
variable {p : Program} {l : Launch} {e : Env} {s : State} {m : MethodId} {args : Array Value} {below : List Frame} {meth : Method} {c : Code} {D : va_G} {tyc : Nat → ClassId} {A : Nat → Prop} {n0 : Nat} {ad0 : Nat → Nat} {nL : Nat} {Qs : State → Prop}
variable {own : String} {cc : ByteArray} {pc : Nat} {L : List (Option Value)} {st : List Value} {h : MH} {cells slots d mc ms : Nat} {Q : MO → MH → Prop}
theorem j_E.out {ad : Nat → Nat} {ls : Array Slot} {H : Heap} {locs : List Loc} {t : State} (I : j_I s D tyc A n0 ad0 nL ad L st h ls H locs) (h1 : H.size ≤ t.heap.size) (h2 : ∀ q : Nat, q < H.size → t.heap[q]? = H[q]?) : j_E D tyc A n0 ad0 h ad s t :=
  ⟨I.2.2.2.2.1, I.2.1.kept fun k q hq => h2 q.1 (I.2.1 k q hq).lt, I.2.2.1, I.2.2.2.2.2.1, ⟨Nat.le_trans I.2.2.2.1.1 h1, fun q q1 q2 => by rw [h2 q (Nat.lt_of_lt_of_le q1 I.2.2.2.1.1)]; exact I.2.2.2.1.2.1 q q1 q2⟩⟩
theorem j_throwS (x : j_X p l s m args meth c D tyc A own cc nL) {cls text : String} {names : List String} {ik is ic : Nat} (hE : j_exS own ik ic cls names) (hstr : (own, is, text) ∈ j_strs)
    (d0 : decode cc pc = .ok (.new ik, 3)) (d3 : decode cc (pc + 3) = .ok (.dup, 1)) (d4 : decode cc (pc + 4) = .ok (.ldc is, 2)) (d6 : decode cc (pc + 6) = .ok (.invokespecial ic, 3)) (d9 : decode cc (pc + 9) = .ok (.athrow, 1))
    (htab : ∀ z ∈ c.exceptionTable.toList, False) (hc : cells + 1 ≤ mc) (hs : slots + 6 ≤ ms) (hq : Q (.inr cls) h) : JJ p l e (j_rm d mc ms) s m args below meth c D tyc A n0 ad0 nL (vx_MQ below (j_Qc D tyc A n0 ad0 Q) (j_XC D tyc A n0 ad0 Q) args s mc ms A) pc L [] h cells slots := by
  intro ad ls H locs I
  obtain ⟨e1, e2, e3, e4, e5, e6⟩ := hE
  obtain ⟨sa, hsa⟩ := x.2.2.2.2.2.2.2.2.2.2.2.1 _ hstr
  have env := x.2.2.2.2.2.2.2.2.2
  refine vx_throwS (sa := sa) (names := names) x.1 x.2.1 x.2.2.2.2.2.2.2.2.1 x.2.2.2.1 e1 e2 (x.2.2.2.2.1 _ e3) (x.2.2.2.2.1 _ e4) hsa (j_hat x.2.2.2.2.1 env.1 e5) (fun w hw => j_ot ?_) env.2.2.2.1 env.2.2.2.2.1 I.2.2.2.1 (by rw [x.2.2.1]; exact I.1.1) d0 d3 d4 d6 d9 (fun z hz => (htab z hz).elim) ?_ ?_ hc hs x.2.2.2.2.2.2.2.1 (fun t _ t1 t2 => ⟨h, ad, hq, .out I t1 t2⟩) I.2.2.2.1.2.2 hc hs
  · rcases List.mem_cons.mp hw with rfl | hw
    · exact Or.inl e3
    · rcases List.mem_cons.mp hw with rfl | hw
      · exact Or.inl e4
      · exact e5 w hw
  · simp only [j_rm]; omega
  · simp only [j_rm, List.map_nil, List.sum_nil]; omega
theorem j_throwSW (x : j_X p l s m args meth c D tyc A own cc nL) {cls text : String} {names : List String} {ik is ic : Nat} (hE : j_exS own ik ic cls names) (hstr : (own, is, text) ∈ j_strs)
    (d0 : decode cc pc = .ok (.new ik, 3)) (d3 : decode cc (pc + 3) = .ok (.dup, 1)) (d4 : decode cc (pc + 4) = .ok (.ldc_w is, 3)) (d7 : decode cc (pc + 7) = .ok (.invokespecial ic, 3)) (d10 : decode cc (pc + 10) = .ok (.athrow, 1))
    (htab : ∀ z ∈ c.exceptionTable.toList, False) (hc : cells + 1 ≤ mc) (hs : slots + 6 ≤ ms) (hq : Q (.inr cls) h) : JJ p l e (j_rm d mc ms) s m args below meth c D tyc A n0 ad0 nL (vx_MQ below (j_Qc D tyc A n0 ad0 Q) (j_XC D tyc A n0 ad0 Q) args s mc ms A) pc L [] h cells slots := by
  intro ad ls H locs I
  obtain ⟨e1, e2, e3, e4, e5, e6⟩ := hE
  obtain ⟨sa, hsa⟩ := x.2.2.2.2.2.2.2.2.2.2.2.1 _ hstr
  have env := x.2.2.2.2.2.2.2.2.2
  refine vx_throwSW (sa := sa) (names := names) x.1 x.2.1 x.2.2.2.2.2.2.2.2.1 x.2.2.2.1 e1 e2 (x.2.2.2.2.1 _ e3) (x.2.2.2.2.1 _ e4) hsa (j_hat x.2.2.2.2.1 env.1 e5) (fun w hw => j_ot ?_) env.2.2.2.1 env.2.2.2.2.1 I.2.2.2.1 (by rw [x.2.2.1]; exact I.1.1) d0 d3 d4 d7 d10 (fun z hz => (htab z hz).elim) ?_ ?_ hc hs x.2.2.2.2.2.2.2.1 (fun t _ t1 t2 => ⟨h, ad, hq, .out I t1 t2⟩) I.2.2.2.1.2.2 hc hs
  · rcases List.mem_cons.mp hw with rfl | hw
    · exact Or.inl e3
    · rcases List.mem_cons.mp hw with rfl | hw
      · exact Or.inl e4
      · exact e5 w hw
  · simp only [j_rm]; omega
  · simp only [j_rm, List.map_nil, List.sum_nil]; omega
end JT
section JM
variable {p : Program} {l : Launch} {e : Env} {R : Room} {s : State} {m : MethodId} {args : Array Value} {below : List Frame} {meth : Method} {c : Code} {D : va_G} {tyc : Nat → ClassId} {A : Nat → Prop} {n0 : Nat} {ad0 : Nat → Nat} {nL : Nat} {Qs : State → Prop}
variable {own : String} {cc : ByteArray} {pc : Nat} {L : List (Option Value)} {st : List Value} {h : MH} {cells slots d mc ms : Nat}
def j_math : Prop := (Cond.static Lib.Math.min.name ∈ j_all ∧ Cond.code Lib.Math.min.name Lib.Math.min.code 2 (some .int) ∈ j_all) ∧ (Cond.static Lib.Math.max.name ∈ j_all ∧ Cond.code Lib.Math.max.name Lib.Math.max.code 2 (some .int) ∈ j_all) ∧ Cond.initialized "java/lang/Math" ∈ j_all
theorem j_min (x : j_X p l s m args meth c D tyc A own cc nL) {idx : Nat} {v w : Int32} (hm : j_math) (hd : decode cc pc = .ok (.invokestatic idx, 3)) (hw : Cond.methodLink own idx Lib.Math.min.name ∈ j_all) (hst : st.length ≤ 4) (hc : cells ≤ mc) (hs : slots ≤ ms)
    (kk : JJ p l e (j_rm d mc ms) s m args below meth c D tyc A n0 ad0 nL Qs (pc + 3) L (.int (if w < v then w else v) :: st) h cells slots) : JJ p l e (j_rm d mc ms) s m args below meth c D tyc A n0 ad0 nL Qs pc L (.int w :: .int v :: st) h cells slots := by
  intro ad ls H locs I
  have h8 := j_room (ad := ad) hst
  exact va_mmin x.1 x.2.1 (by rw [x.2.2.1]; exact I.1.1.symm) x.2.2.2.1 (x.2.2.2.2.1 _ hw) (x.2.2.2.2.1 _ hm.1.1) (x.2.2.2.2.1 _ hm.2.2) (x.2.2.2.2.1 _ hm.1.2) (by simp only [j_rm]; omega) (by simp only [j_rm]; omega) hc hs hd (kk ad ls H locs (I.st fun hs => j_ok_cons j_ok_int (j_ok_tl (j_ok_tl hs))))
theorem j_max (x : j_X p l s m args meth c D tyc A own cc nL) {idx : Nat} {v w : Int32} (hm : j_math) (hd : decode cc pc = .ok (.invokestatic idx, 3)) (hw : Cond.methodLink own idx Lib.Math.max.name ∈ j_all) (hst : st.length ≤ 4) (hc : cells ≤ mc) (hs : slots ≤ ms)
    (kk : JJ p l e (j_rm d mc ms) s m args below meth c D tyc A n0 ad0 nL Qs (pc + 3) L (.int (if v < w then w else v) :: st) h cells slots) : JJ p l e (j_rm d mc ms) s m args below meth c D tyc A n0 ad0 nL Qs pc L (.int w :: .int v :: st) h cells slots := by
  intro ad ls H locs I
  have h8 := j_room (ad := ad) hst
  exact va_mmax x.1 x.2.1 (by rw [x.2.2.1]; exact I.1.1.symm) x.2.2.2.1 (x.2.2.2.2.1 _ hw) (x.2.2.2.2.1 _ hm.2.1.1) (x.2.2.2.2.1 _ hm.2.2) (x.2.2.2.2.1 _ hm.2.1.2) (by simp only [j_rm]; omega) (by simp only [j_rm]; omega) hc hs hd (kk ad ls H locs (I.st fun hs => j_ok_cons j_ok_int (j_ok_tl (j_ok_tl hs))))
def j_cpw : Prop := Cond.native arraycopyName ∈ j_all ∧ Cond.static arraycopyName ∈ j_all ∧ Cond.initialized "java/lang/System" ∈ j_all
/-- an int row copied onto another, or onto itself -/
def jcpy (f g : Nat → Value) (sp dp n : Nat) : Nat → Value := fun k => if dp ≤ k ∧ k < dp + n then .int (j_int (f (sp + (k - dp)))) else g k
theorem j_copy (x : j_X p l s m args meth c D tyc A own cc nL) {idx a b : Nat} {sp dp n : Int32} (hm : j_cpw) (hd : decode cc pc = .ok (.invokestatic idx, 3)) (hw : Cond.methodLink own idx arraycopyName ∈ j_all) (hst : st.length ≤ 4) (ha : a < h.1) (hta : (h.2 a).1 = 100) (hb : b < h.1) (htb : (h.2 b).1 = 100)
    (h1 : ¬ sp < 0) (h2 : ¬ dp < 0) (h3 : ¬ n < 0) (h4 : sp.toNatClampNeg + n.toNatClampNeg ≤ (h.2 a).2.1) (h5 : dp.toNatClampNeg + n.toNatClampNeg ≤ (h.2 b).2.1)
    (kk : JJ p l e (j_rm d mc ms) s m args below meth c D tyc A n0 ad0 nL Qs (pc + 3) L st (j_wr h b ((h.2 b).1, (h.2 b).2.1, jcpy (h.2 a).2.2 (h.2 b).2.2 sp.toNatClampNeg dp.toNatClampNeg n.toNatClampNeg)) cells slots) :
    JJ p l e (j_rm d mc ms) s m args below meth c D tyc A n0 ad0 nL Qs pc L (.int n :: .int dp :: .ref b :: .int sp :: .ref a :: st) h cells slots := by
  intro ad ls H locs I
  have h8 := j_room (ad := ad) hst
  have hea : (j_w tyc ad h)[a]? = some (ad a, .inl (tyc 100, (h.2 a).2.1, .inl fun j => j_int ((h.2 a).2.2 j))) := by rw [j_w_get ha, j_e_arr hta (by decide), j_arr_i (by decide) (by decide) (by decide)]
  have heb : (j_w tyc ad h)[b]? = some (ad b, .inl (tyc 100, (h.2 b).2.1, .inl fun j => j_int ((h.2 b).2.2 j))) := by rw [j_w_get hb, j_e_arr htb (by decide), j_arr_i (by decide) (by decide) (by decide)]
  have hnw : nativeFrameWords "java/lang/System" "arraycopy" 5 ≤ 100 := by decide +kernel
  refine va_copyi x.1 x.2.1 (by rw [x.2.2.1]; exact I.1.1.symm) x.2.2.2.1 (x.2.2.2.2.1 _ hw) (x.2.2.2.2.1 _ hm.1) (x.2.2.2.2.1 _ hm.2.1) (x.2.2.2.2.1 _ hm.2.2) x.2.2.2.2.2.1 I.2.1 I.2.2.1 I.2.2.2.1 a b 0 0 hea heb (ty := .int) rfl rfl rfl h1 h2 h3 h4 h5 (fun _ _ => rfl) (by simp only [j_rm]; omega) (by simp only [j_rm]; omega) hd (fun H1 locs1 hP hD hS => ?_)
  have e1 : va_cpy (fun j => j_int ((h.2 a).2.2 j)) (fun j => j_int ((h.2 b).2.2 j)) sp.toNatClampNeg dp.toNatClampNeg n.toNatClampNeg = fun j => j_int (jcpy (h.2 a).2.2 (h.2 b).2.2 sp.toNatClampNeg dp.toNatClampNeg n.toNatClampNeg j) := funext fun j => by
    simp only [va_cpy, jcpy]
    split <;> rfl
  have e2 : j_e tyc ad ((h.2 b).1, (h.2 b).2.1, jcpy (h.2 a).2.2 (h.2 b).2.2 sp.toNatClampNeg dp.toNatClampNeg n.toNatClampNeg) = .inl (tyc 100, (h.2 b).2.1, .inl fun j => j_int (jcpy (h.2 a).2.2 (h.2 b).2.2 sp.toNatClampNeg dp.toNatClampNeg n.toNatClampNeg j)) := Eq.trans (j_e_arr (ad := ad) (tyc := tyc) (c := (_, _, _)) (t := 100) htb (by decide)) (by rw [j_arr_i (by decide) (by decide) (by decide)])
  rw [e1, ← e2] at hP hD
  refine kk ad ls H1 locs1 (I.wr (fun hs => j_ok_tl (j_ok_tl (j_ok_tl (j_ok_tl (j_ok_tl hs))))) hb (fun j => ?_) hP hD hS)
  show j_ok h.1 (jcpy _ _ _ _ _ j)
  unfold jcpy
  split
  · exact j_ok_int
  · exact I.2.2.2.2.2.1 b hb j
variable {d1 mc1 ms1 maxL idx n : Nat} {y : MethodName} {bytes : ByteArray} {ret : Option FieldType} {Q1 : MO → MH → Prop} {as st0 : List Value} {b : Nat}
/-- super.m(..) -/
theorem j_callSU (x : j_X p l s m args meth c D tyc A own cc nL) {ci : Nat} {q : vw_C} {ty : Nat → FieldType} (hd : decode cc pc = .ok (.invokespecial idx, 3)) (hcon : Con d1 mc1 ms1 y bytes maxL ret (.ref b :: as) h Q1)
    (hm : Cond.sameMethod y.cls y.cls y.name y.desc ∈ j_all ∧ Cond.superclass own y.cls ∈ j_all ∧ Cond.instanceMethod y ∈ j_all ∧ Cond.initialized y.cls ∈ j_all ∧ Cond.code y bytes maxL ret ∈ j_all ∧ (y.name ≠ "<init>" ∧ (parseMethodDescriptor y.desc).map (fun d => d.parameters.length) = some n) ∧ maxL ≤ 40) (hw : Cond.methodLink own idx y ∈ j_all) (hq : j_cls ci q ty)
    (hb : b < h.1) (htb : (h.2 b).1 = ci) (hn : as.length = n) (hst : st.length ≤ 4) (hfit : j_fit R d1 mc1 ms1 cells slots) (h0 : st0 = as.reverse ++ .ref b :: st) (hx : ∀ E k, ¬ Q1 (.inr E) k)
    (kk : ∀ (v : Option Value) (h1 : MH), Q1 (.inl v) h1 → JJ p l e R s m args below meth c D tyc A n0 ad0 nL Qs (pc + 3) L (v.toList ++ st) h1 (cells + mc1) (slots + ms1)) : JJ p l e R s m args below meth c D tyc A n0 ad0 nL Qs pc L st0 h cells slots := by
  subst h0
  intro ad ls H locs I
  obtain ⟨w1, w2, w3, w4, w5, w6, w7⟩ := hm
  have e0 : (as.reverse ++ .ref b :: st).map (j_cv ad) = (as.map (j_cv ad)).reverse ++ Value.ref (ad b) :: st.map (j_cv ad) := by rw [List.map_append, List.map_reverse]; rfl
  have I2 : j_I s D tyc A n0 ad0 nL ad L ((as.reverse ++ [.ref b]) ++ st) h ls H locs := by rw [List.append_assoc]; exact I
  have hargs : ∀ v ∈ Value.ref b :: as, j_ok h.1 v := fun v hv => (List.mem_cons.mp hv).elim (fun e => by rw [e]; exact j_ok_ref hb) (fun hv => I.2.2.2.2.2.2.1 v (List.mem_append_left _ (List.mem_reverse.mpr hv)))
  have hM := hcon l D tyc ad H.size x.2.2.2.2.2.2.2.2.1 I.2.2.2.2.2.1 hargs
  have he : (j_w tyc ad h)[b]? = some (ad b, .inr (ci, (List.range (h.2 b).2.1).map fun k => j_cv ad ((h.2 b).2.2 k))) := by rw [j_w_get hb, j_e_obj htb hq.2.1]
  rw [e0]
  refine j_run (a := (Value.ref (ad b) :: as.map (j_cv ad)).toArray) x I2 (vx_runSU (C := q.1) (As := as.map (j_cv ad)) (x.2.2.2.2.2.1.1 ci q hq.1).2 ⟨x.1, x.2.1, x.2.2.1, x.2.2.2.1, x.2.2.2.2.1⟩ hM (va_cwSU n x.2.2.2.2.1 (j_good ?_) rfl rfl rfl w6 (hfit.1 maxL w7)) ⟨j_B.blind, va_recv x.2.2.2.2.2.1 I.2.1 hq.1 he, fun U hU hW => ⟨rfl, j_pre x I hU hW⟩⟩ rfl (by rw [List.length_map]; exact hn) I.1.1 rfl (lv_room (j_room hst)) hd ⟨hfit.2.1, hfit.2.2⟩) (fun E h1 ad1 => j_no hx (H := #[]) E h1 ad1 ls) kk
  exact j_mem_cons (ws := [Cond.sameMethod y.cls y.cls y.name y.desc, Cond.superclass own y.cls, Cond.instanceMethod y, Cond.initialized y.cls] ++ (Cond.code y bytes maxL ret :: j_all)) hw (j_mem_cons w1 (j_mem_cons w2 (j_mem_cons w3 (j_mem_cons w4 (j_mem_cons w5 fun _ h => h)))))
/-- a static final int of a class -/
theorem j_gets (x : j_X p l s m args meth c D tyc A own cc nL) {C f dsc : String} {v : Int32} (hd : decode cc pc = .ok (.getstatic idx, 3)) (hZ : va_Z C f dsc (.int v) A s s.heap) (hw : Cond.fieldLink own idx C f dsc ∈ j_all)
    (kk : JJ p l e R s m args below meth c D tyc A n0 ad0 nL Qs (pc + 3) L (.int v :: st) h cells slots) : JJ p l e R s m args below meth c D tyc A n0 ad0 nL Qs pc L st h cells slots := by
  intro ad ls H locs I
  exact va_gets x.1 x.2.1 hZ I.2.2.2.1 x.2.2.2.1 (x.2.2.2.2.1 _ hw) (fun _ h9 => h9) hd (kk ad ls H locs (I.st fun hs => j_ok_cons j_ok_int hs))
end JM
end
