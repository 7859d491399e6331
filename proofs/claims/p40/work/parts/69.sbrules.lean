/-! ===== BEGIN a method of a class above, found by the receiver, that may throw (follows va_callVU, va_runU of this kit) ===== -/
section
variable {p : Program} {l : Launch} {e : Env} {R : Room} {s : State} {m : MethodId} {args : Array Value} {below : List Frame} {meth : Method} {c : Code} {H : Heap} {locs : List Loc} {cells slots : Nat}
theorem vx_callVU {T : State} {locs : List Loc} {cells slots : Nat} (X : Stand p l e R s m args below meth c T locs cells slots) (hexec : p.tables.exec = Jvm.exec) {own C owner : String} {index : Nat} {x y : MethodName} {bytes : ByteArray} {maxL : Nat} {ret : Option FieldType}
    (hown : s.vm.findClass own = some m.cls) (hlink : (Cond.methodLink own index x).before args s = true) (hsame : (Cond.sameMethod x.cls owner x.name x.desc).before args s = true)
    (hd0 : va_Decl s ⟨owner, x.name, x.desc⟩) (howner : owner ≠ "java/lang/invoke/MethodHandle" ∧ owner ≠ "java/lang/invoke/VarHandle")
    (hsel : (Cond.selects C x y).before args s = true) (hinst : (Cond.instanceMethod y).before args s = true) (hcode : (Cond.code y bytes maxL ret).before args s = true)
    {W : Nat} {Pre : Pt → Array Value → Prop} {Post : Pt → Array Value → Option Value → Pt → Prop} {PostX : Pt → Array Value → Addr → Pt → Prop} (hK : vx_Back l R p e below s args y 3 W Pre Post PostX)
    {b : Addr} {cellB : Cell} (hcell : T.heap[b]? = some cellB) (hobj : cellB.vm.isStatics = false) (hcls : s.vm.findClass C = some cellB.cls)
    {g : JFrame} (hg : g.method = m) (hsize : g.locals.size = c.maxLocals) {argsL rest : List Value} (hlen : ∀ sig, parseMethodDescriptor x.desc = some sig → argsL.length = sig.parameters.length)
    (hstack : g.stack = argsL.reverse ++ .ref b :: rest) (hW : 2 * g.monitorRoom + (rest.map fun v => v.category).sum ≤ W) (hdg : decode c.code g.pc = .ok (.invokevirtual index, 3))
    (hpre : ∀ vm₁, s.WarmedH vm₁ → Pre ⟨T.setVm vm₁, locs, cells, slots⟩ (Value.ref b :: argsL).toArray) :
    (∃ (v : Option Value) (vm₁ : Vm) (B : Pt), s.WarmedH vm₁ ∧ Stand p l e R s m args below meth c B.U B.locs B.cells B.slots ∧ Post ⟨T.setVm vm₁, locs, cells, slots⟩ (Value.ref b :: argsL).toArray v B ∧
      ∀ target, Steps p.tables e below (B.U.setTop { g with pc := g.pc + 3, stack := v.toList ++ rest }) target → Steps p.tables e below (T.setTop g) target) ∨
    (∃ (q : Addr) (vm₁ : Vm) (B : Pt), s.WarmedH vm₁ ∧ Stand p l e R s m args below meth c B.U B.locs B.cells B.slots ∧ PostX ⟨T.setVm vm₁, locs, cells, slots⟩ (Value.ref b :: argsL).toArray q B ∧
      Steps p.tables e below (T.setTop g) ((B.U.setTop { g with stack := rest }).pushFrame (.throwing q))) := by
  obtain ⟨r0, r, hn, hrm, hstR, hsigR⟩ := hd0
  obtain ⟨cn, ck, r1, hcn, hck, hni, hf, hn1⟩ := Cond.sameMethod_found hsame
  cases hn.symm.trans hn1
  obtain ⟨mk, methM, hnamed, hmethM, -, habM⟩ := Cond.instanceMethod_spec hinst
  obtain ⟨c2, r2, m2, q1, q2, q3, q4, kP, hkP, hkPi⟩ := Cond.selects_spec hsel
  cases hcls.symm.trans q1
  cases hf.symm.trans q2
  cases hnamed.symm.trans q3
  have hselP : selectMethod e.platform s.vm cellB.cls r0 = .method mk := by rw [Launch.admits_selectMethod X.admits]; exact q4
  obtain ⟨vm₁, X₁, hstep₁⟩ := X.invokevirtualUp hexec hown hlink hsame howner hn hrm hstR (a := b) (cell := cellB) hcell
    (fun z h => by rw [h] at hobj; cases hobj) hselP hmethM habM hkP hkPi (g := g) hg (argsL := argsL) (rest := rest) (hlen _ hsigR) hstack hdg
  rcases hK m meth c ⟨T.setVm vm₁, locs, cells, slots⟩ { g with stack := rest } (.invokevirtual index) mk (Value.ref b :: argsL).toArray X₁ hg hsize hdg hW (X₁.named hnamed) (hpre vm₁ X₁.warmed) with ⟨v, B, X', hpost, hsteps⟩ | ⟨q, B, X', hpost, hsteps⟩
  · exact Or.inl ⟨v, vm₁, B, X₁.warmed, X', hpost, fun target h => hstep₁ _ fun acts => by rw [doInvoke_state]; exact hsteps.trans h⟩
  · exact Or.inr ⟨q, vm₁, B, X₁.warmed, X', hpost, hstep₁ _ fun acts => by rw [doInvoke_state]; exact hsteps⟩
theorem vx_runU {x y : MethodName} {bytes cc : ByteArray} {maxL nL mc ms n index : Nat} {ret : Option FieldType} {ws : List Cond} {rm : Room} {Pc : Array Value → State → Prop} {Qc : Array Value → State → Outcome → State → Prop} {XC : String → State → State → Prop} {free : Addr → Prop} {Ts : List Cond} {own C owner : String} {b : Addr} {As rest : List Value} {g : JFrame}
    (S : CallFix p m c cc nL s args Ts own) (hM : vx_Met l y ws rm Pc Qc XC mc ms free) (cw : va_CU R s args own C owner index x y bytes maxL ret ws rm mc ms n) (hp : PreV s H C b Pc As)
    (hg : g.method = m) (hn : As.length = n) (hsize : g.locals.size = nL) (hstack : g.stack = As.reverse ++ .ref b :: rest) (hW : 2 * g.monitorRoom + (rest.map fun v => v.category).sum ≤ 8) (hdg : decode cc g.pc = .ok (.invokevirtual index, 3)) (hf : cells + mc ≤ R.cells ∧ slots + ms ≤ R.slots) :
    vx_Run p l e R s m args below meth c H locs cells slots mc ms g rest (Qc (Value.ref b :: As).toArray) XC free := by
  obtain ⟨hrc, hrs, hfr, hlo, hws, hcw⟩ := cw.back
  have hini := cw.init
  have hK : vx_Back l R p e below s args y 3 8 (PreOf R mc ms Pc) (PostOf Qc mc ms free) (vx_Post XC mc ms free) := vx_back (bytes := bytes) (maxL := maxL) (ret := ret) hM hp.1 hrc hrs hfr hlo hws hcw (fun a' U hW => word_at hW (Or.inl (by first | rfl | simp [Cond.onTables, Cond.keeps, Cond.steady])) hini)
  obtain ⟨hx, hb, hml, ho, -⟩ := S
  obtain ⟨-, ⟨cellB, hcB, hoB, hclB⟩, hPc⟩ := hp
  intro T hT X
  rcases vx_callVU X hx (C := C) (owner := owner) (bytes := bytes) (maxL := maxL) (ret := ret) ho cw.link cw.same cw.decl cw.notMH cw.sel cw.inst cw.code hK (by rw [hT]; exact hcB) hoB hclB hg (hsize.trans hml.symm) (argsL := As) (rest := rest) (fun sig h => hn.trans (cw.len sig h)) hstack hW (by rw [hb]; exact hdg)
    (fun vm₁ hW₁ => ⟨hf.1, hf.2, hPc (T.setVm vm₁) hT hW₁⟩) with ⟨v, vm₁, ⟨U', l2, c2, s2⟩, hW₁, X', ⟨g', mk, t, L, e1, e2, hq, h1, hL, h2, h3⟩, st⟩ | ⟨q, vm₁, ⟨U', l2, c2, s2⟩, hW₁, X', ⟨g', mk, t, L, E, ce, e1, e2, hq, hce, hcv, hcl, h1, hL, h2, h3⟩, st⟩
  · dsimp only [Pt.U, Pt.locs, Pt.cells, Pt.slots] at X' e1 e2 h1 h2 h3 st
    subst h1; subst h2; subst h3
    exact Or.inl ⟨v, (T.setVm vm₁).calling g' mk (Value.ref b :: As).toArray, t, U', L, hT, X', hL, e1, e2, hq, st⟩
  · dsimp only [Pt.U, Pt.locs, Pt.cells, Pt.slots] at X' e1 e2 h1 h2 h3 st hcl
    subst h1; subst h2; subst h3
    exact Or.inr ⟨q, (T.setVm vm₁).calling g' mk (Value.ref b :: As).toArray, t, U', L, E, ce, hT, X', hL, e1, e2, hq, hce, hcv, vx_cls hW₁ hcl, st⟩
end
/-! ===== END ===== -/
/-! ===== calls of private methods of a class above ===== -/
def j_mU (y : MethodName) (bytes : ByteArray) (maxL : Nat) (ret : Option FieldType) (n : Nat) : Prop :=
  Cond.sameMethod y.cls y.cls y.name y.desc ∈ j_all ∧ Cond.instanceMethod y ∈ j_all ∧ Cond.initialized y.cls ∈ j_all ∧ Cond.code y bytes maxL ret ∈ j_all ∧ (y.cls ≠ "java/lang/invoke/MethodHandle" ∧ y.cls ≠ "java/lang/invoke/VarHandle" ∧ (parseMethodDescriptor y.desc).map (fun d => d.parameters.length) = some n) ∧ maxL ≤ 40 ∧ Cond.selects "java/lang/StringBuilder" y y ∈ j_all
section JU
variable {p : Program} {l : Launch} {e : Env} {R : Room} {s : State} {m : MethodId} {args : Array Value} {below : List Frame} {meth : Method} {c : Code} {D : va_G} {tyc : Nat → ClassId} {A : Nat → Prop} {n0 : Nat} {ad0 : Nat → Nat} {nL : Nat} {Qs : State → Prop} {own : String} {cc : ByteArray} {pc : Nat} {L : List (Option Value)} {st : List Value} {b : SBt} {Y : OUt} {M : MM} {h : MH} {cells slots : Nat}
variable {d1 mc1 ms1 maxL idx n : Nat} {y : MethodName} {bytes : ByteArray} {ret : Option FieldType} {Q1 : MO → MH → Prop} {as st0 : List Value} {bb : Nat}
theorem j_callVU (x : j_X p l s m args meth c D tyc A own cc nL) {ci : Nat} {q : vw_C} {ty : Nat → FieldType} (hd : decode cc pc = .ok (.invokevirtual idx, 3)) (hcon : Con d1 mc1 ms1 y bytes maxL ret (.ref bb :: as) h Q1)
    (hm : j_mU y bytes maxL ret n) (hw : Cond.methodLink own idx y ∈ j_all) (hq : j_cls ci q ty) (hqy : q.1 = "java/lang/StringBuilder")
    (hb : bb < h.1) (htb : (h.2 bb).1 = ci) (hn : as.length = n) (hst : st.length ≤ 4) (hfit : j_fit R d1 mc1 ms1 cells slots) (h0 : st0 = as.reverse ++ .ref bb :: st) (hx : ∀ E k, ¬ Q1 (.inr E) k)
    (kk : ∀ (v : Option Value) (h1 : MH), Q1 (.inl v) h1 → JJ p l e R s m args below meth c D tyc A n0 ad0 nL Qs (pc + 3) L (v.toList ++ st) h1 (cells + mc1) (slots + ms1)) : JJ p l e R s m args below meth c D tyc A n0 ad0 nL Qs pc L st0 h cells slots := by
  subst h0
  intro ad ls H locs I
  obtain ⟨w1, w2, w3, w4, w5, w6, w7⟩ := hm
  have e0 : (as.reverse ++ .ref bb :: st).map (j_cv ad) = (as.map (j_cv ad)).reverse ++ Value.ref (ad bb) :: st.map (j_cv ad) := by rw [List.map_append, List.map_reverse]; rfl
  have I2 : j_I s D tyc A n0 ad0 nL ad L ((as.reverse ++ [.ref bb]) ++ st) h ls H locs := by rw [List.append_assoc]; exact I
  have hargs : ∀ v ∈ Value.ref bb :: as, j_ok h.1 v := fun v hv => (List.mem_cons.mp hv).elim (fun e => by rw [e]; exact j_ok_ref hb) (fun hv => I.2.2.2.2.2.2.1 v (List.mem_append_left _ (List.mem_reverse.mpr hv)))
  have hM := hcon l D tyc ad H.size x.2.2.2.2.2.2.2.2.1 I.2.2.2.2.2.1 hargs
  have he : (j_w tyc ad h)[bb]? = some (ad bb, .inr (ci, (List.range (h.2 bb).2.1).map fun k => j_cv ad ((h.2 bb).2.2 k))) := by rw [j_w_get hb, j_e_obj htb hq.2.1]
  have hsel : (Cond.selects q.1 y y).before args s = true := by
    rw [hqy]
    exact x.2.2.2.2.1 _ w7
  have hG : GoodIn j_all (Cond.code y bytes maxL ret :: j_all) := j_good (j_mem_cons w4 (fun _ h => h))
  have hdec : va_Decl s y := va_Decl.of (x.2.2.2.2.1 _ w2) (x.2.2.2.2.1 _ w4)
  rw [e0]
  refine j_run (a := (Value.ref (ad bb) :: as.map (j_cv ad)).toArray) x I2 (vx_runU (n := n) (C := q.1) (owner := y.cls) (x := y) (As := as.map (j_cv ad)) ⟨x.1, x.2.1, x.2.2.1, x.2.2.2.1, x.2.2.2.2.1⟩ hM ⟨⟨rfl, rfl, (hfit.1 maxL w6).1, (hfit.1 maxL w6).2, pay_in x.2.2.2.2.1 hG, List.mem_cons_self⟩, x.2.2.2.2.1 _ w4, x.2.2.2.2.1 _ w3, ⟨w5.1, w5.2.1⟩, fun sig hs => ?_, x.2.2.2.2.1 _ hw, x.2.2.2.2.1 _ w1, hdec, hsel, x.2.2.2.2.1 _ w2⟩ ⟨j_B.blind, va_recv x.2.2.2.2.2.1 I.2.1 hq.1 he, fun U hU hW => ⟨rfl, j_pre x I hU hW⟩⟩ rfl (by rw [List.length_map]; exact hn) I.1.1 rfl (lv_room (j_room hst)) hd ⟨hfit.2.1, hfit.2.2⟩) (fun E h1 ad1 => j_no hx (H := #[]) E h1 ad1 ls) kk
  have h2 := w5.2.2
  rw [hs] at h2
  exact (Option.some.inj h2).symm
/-! ===== the bytes of the line ===== -/
def isB (i : Nat) : Prop := i = 93 ∨ 94 ≤ i
theorem isB_t {i : Nat} (h : isB i) : hT i = 102 := by
  rcases h with rfl | h
  · rfl
  · rw [hT, List.getD_eq_getElem?_getD, List.getElem?_eq_none (show hTl.length ≤ i by rw [show hTl.length = 94 from rfl]; exact h)]; rfl
theorem isB_r {i k : Nat} (h : isB i) : hR i k = none := by
  rcases h with rfl | h
  · rfl
  · rw [hR, List.getD_eq_getElem?_getD, List.getElem?_eq_none (Nat.le_trans (show hRl.length ≤ 94 by decide) h)]; rfl
theorem isB_f {i : Nat} (h : isB i) (b : SBt) (Y : OUt) (M : MM) : hF b Y M i = fun k => .int (M i k) := funext fun k => by
  have h1 : (¬ i + 1 = 0) ∧ (¬ i + 2 = 0) ∧ i ≠ 92 := by unfold isB at h; omega
  rw [hF, if_neg h1.1, if_neg h1.2.1, if_neg (fun z => h1.2.2 z.1), isB_r h]
theorem HH_wrb {b : SBt} {Y : OUt} {M : MM} {i k : Nat} {v : Int32} (h : isB i) : j_fld (HH b Y M) i k (.int v) = HH b Y (jm M i k v) := by
  unfold j_fld j_wr HH
  refine Prod.ext rfl (funext fun a => ?_)
  show ju (fun i => (hT i, hLen b i, hF b Y M i)) i (hT i, hLen b i, ju (hF b Y M i) k (.int v)) a = (hT a, hLen b a, hF b Y (jm M i k v) a)
  by_cases ha : a = i
  · subst ha
    rw [ju_s, isB_f h, isB_f h]
    refine congrArg (fun z => (hT a, hLen b a, z)) (funext fun c => ?_)
    by_cases hc : c = k
    · subst hc; rw [ju_s, jm_s]
    · rw [ju_n hc, jm_n (by omega)]
  · rw [ju_n ha]
    refine congrArg (fun z => (hT a, hLen b a, z)) (funext fun c => ?_)
    unfold hF
    split
    · rfl
    · split
      · rfl
      · split
        · rfl
        · split
          · rfl
          · rw [jm_n (by omega)]
def sbp (b : SBt) (N : Nat) : SBt := (b.1, b.2.1 + 1, fun i => if i = b.2.1 then N else b.2.2 i)
def mz (M : MM) (i : Nat) (f : Nat → Int32) : MM := fun a k => if a = i then f k else M a k
theorem mz_n {M : MM} {i a k : Nat} {f : Nat → Int32} (h : a ≠ i) : mz M i f a k = M a k := if_neg h
theorem mz_s {M : MM} {i k : Nat} {f : Nat → Int32} : mz M i f i k = f k := if_pos rfl
theorem hF_mz {b : SBt} {Y : OUt} {M : MM} {i a : Nat} {f : Nat → Int32} (h : a ≠ i) : hF b Y (mz M i f) a = hF b Y M a := funext fun k => by
  unfold hF
  split
  · rfl
  · split
    · rfl
    · split
      · rfl
      · split
        · rfl
        · rw [mz_n h]
theorem HH_push {b : SBt} {Y : OUt} {M : MM} {N : Nat} (hb : 94 ≤ b.2.1) : j_push (HH b Y M) (102, N, fun _ => .int 0) = HH (sbp b N) Y (mz M b.2.1 fun _ => 0) := by
  unfold j_push HH sbp
  refine Prod.ext rfl (funext fun a => ?_)
  show ju (fun i => (hT i, hLen b i, hF b Y M i)) b.2.1 (102, N, fun _ => .int 0) a = _
  by_cases ha : a = b.2.1
  · subst ha
    have hB : isB b.2.1 := Or.inr hb
    rw [ju_s]
    show _ = (hT b.2.1, hLen (b.1, b.2.1 + 1, fun i => if i = b.2.1 then N else b.2.2 i) b.2.1, hF _ Y (mz M b.2.1 fun _ => 0) b.2.1)
    rw [isB_t hB, isB_f hB, hLen, if_neg (by omega)]
    show _ = (102, (if b.2.1 = b.2.1 then N else b.2.2 b.2.1), fun k => Value.int (mz M b.2.1 (fun _ => 0) b.2.1 k))
    rw [if_pos rfl]
    exact congrArg (fun z => (102, N, z)) (funext fun k => by rw [mz_s])
  · rw [ju_n ha]
    show _ = (hT a, hLen (b.1, b.2.1 + 1, fun i => if i = b.2.1 then N else b.2.2 i) a, hF (b.1, b.2.1 + 1, fun i => if i = b.2.1 then N else b.2.2 i) Y (mz M b.2.1 fun _ => 0) a)
    have e1 : hLen (b.1, b.2.1 + 1, fun i => if i = b.2.1 then N else b.2.2 i) a = hLen b a := by
      unfold hLen
      split
      · rfl
      · exact if_neg ha
    rw [e1, hF_mz ha]
    rfl
theorem HH_val {b : SBt} {Y : OUt} {M : MM} {r : Nat} : j_fld (HH b Y M) 92 0 (.ref r) = HH (r, b.2.1, b.2.2) Y M := by
  unfold j_fld j_wr HH
  refine Prod.ext rfl (funext fun a => ?_)
  show ju (fun i => (hT i, hLen b i, hF b Y M i)) 92 (hT 92, hLen b 92, ju (hF b Y M 92) 0 (.ref r)) a = (hT a, hLen (r, b.2.1, b.2.2) a, hF (r, b.2.1, b.2.2) Y M a)
  by_cases ha : a = 92
  · subst ha
    rw [ju_s]
    refine congrArg (fun z => (hT 92, hLen b 92, z)) (funext fun c => ?_)
    by_cases hc : c = 0
    · subst hc; rw [ju_s]; rfl
    · rw [ju_n hc]
      unfold hF
      rw [if_neg (by decide), if_neg (by decide), if_neg (by omega), if_neg (by decide), if_neg (by decide), if_neg (by omega)]
  · rw [ju_n ha]
    refine congrArg (fun z => (hT a, hLen b a, z)) (funext fun c => ?_)
    unfold hF
    rw [if_neg (c := a = 92 ∧ c = 0) (fun z => ha z.1), if_neg (c := a = 92 ∧ c = 0) (fun z => ha z.1)]
theorem HH_cpb {b : SBt} {Y : OUt} {M : MM} {a i n : Nat} (ha : isB a) (hi : isB i) : j_wr (HH b Y M) i (((HH b Y M).2 i).1, ((HH b Y M).2 i).2.1, jcpy ((HH b Y M).2 a).2.2 ((HH b Y M).2 i).2.2 0 0 n) = HH b Y (mz M i fun k => if k < n then M a k else M i k) := by
  unfold j_wr HH
  refine Prod.ext rfl (funext fun c => ?_)
  show ju (fun i => (hT i, hLen b i, hF b Y M i)) i (hT i, hLen b i, jcpy (hF b Y M a) (hF b Y M i) 0 0 n) c = (hT c, hLen b c, hF b Y (mz M i fun k => if k < n then M a k else M i k) c)
  by_cases hc : c = i
  · subst hc
    rw [ju_s, isB_f ha, isB_f hi, isB_f hi]
    refine congrArg (fun z => (hT c, hLen b c, z)) (funext fun k => ?_)
    rw [mz_s]
    unfold jcpy
    by_cases hk : k < n
    · rw [if_pos hk, if_pos (by omega)]; rw [Nat.sub_zero, Nat.zero_add]; rfl
    · rw [if_neg hk, if_neg (by omega)]
  · rw [ju_n hc, hF_mz hc]
end JU
