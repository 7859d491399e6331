section
/-! ===== BEGIN a method of a class above, found by the receiver, that may throw (follows va_callVU, va_runU of this kit) ===== -/
section
variable {p : Program} {l : Launch} {e : Env} {R : Room} {s : State} {m : MethodId} {args : Array Value} {below : List Frame} {meth : Method} {c : Code} {H : Heap} {locs : List Loc} {cells slots : Nat}
theorem vx_callVU {T : State} {locs : List Loc} {cells slots : Nat} (X : Stand p l e R s m args below meth c T locs cells slots) (hexec : p.tables.exec = Jvm.exec) {own C owner : String} {index : Nat} {x y : MethodName} {bytes : ByteArray} {maxL : Nat} {ret : Option FieldType}
    (hown : s.vm.findClass own = some m.cls) (hlink : (Cond.methodLink own index x).before args s = true) (hsame : (Cond.sameMethod x.cls owner x.name x.desc).before args s = true)
    (hd0 : va_Decl s ⟨owner, x.name, x.desc⟩) (howner : owner ≠ "java/lang/invoke/MethodHandle" ∧ owner ≠ "java/lang/invoke/VarHandle")
    (hsel : (Cond.selects C x y).before args s = true) (hinst : (Cond.instanceMethod y).before args s = true) (hcode : (Cond.code y bytes maxL ret).before args s = true)
    {W : Nat} {Pre : Pt → Array Value → Prop} {Post : Pt → Array Value → Option Value → Pt → Prop} {PostX : Pt → Array Value → Addr → Pt → Prop} (hK : vx_Back l R p e below s args y 3 W Pre Post PostX)
    {b : Addr} {cellB : Cell} (hcell : T.heap[b]? = some cellB) (hobj : cellB.vm.isStatics = false) (hcls : s.vm.findClass C = some cellB.cls)
    {g : JFrame} (hg : g.method = m) (hsize : g.locals.size = c.maxLocals) {argsL rest : List Value} (hlen : ∀ sig, parseMethodDescriptor x.desc = some sig → argsL.length = sig.parameters.length)
    (hstack : g.stack = argsL.reverse ++ .ref b :: rest) (hW : 2 * g.monitorRoom + (rest.map fun v => v.category).sum ≤ W) (hdg : decode c.code g.pc = .ok (.invokevirtual index, 3))
    (hpre : ∀ vm₁, s.WarmedH vm₁ → Pre ⟨T.setVm vm₁, locs, cells, slots⟩ (Value.ref b :: argsL).toArray) :
    (∃ (v : Option Value) (vm₁ : Vm) (B : Pt), s.WarmedH vm₁ ∧ Stand p l e R s m args below meth c B.U B.locs B.cells B.slots ∧ Post ⟨T.setVm vm₁, locs, cells, slots⟩ (Value.ref b :: argsL).toArray v B ∧
      ∀ target, Steps p.tables e below (B.U.setTop { g with pc := g.pc + 3, stack := v.toList ++ rest }) target → Steps p.tables e below (T.setTop g) target) ∨
    (∃ (q : Addr) (vm₁ : Vm) (B : Pt), s.WarmedH vm₁ ∧ Stand p l e R s m args below meth c B.U B.locs B.cells B.slots ∧ PostX ⟨T.setVm vm₁, locs, cells, slots⟩ (Value.ref b :: argsL).toArray q B ∧
      Steps p.tables e below (T.setTop g) ((B.U.setTop { g with stack := rest }).pushFrame (.throwing q))) := by
  obtain ⟨r0, r, hn, hrm, hstR, hsigR⟩ := hd0
  obtain ⟨cn, ck, r1, hcn, hck, hni, hf, hn1⟩ := Cond.sameMethod_found hsame
  cases hn.symm.trans hn1
  obtain ⟨mk, methM, hnamed, hmethM, -, habM⟩ := Cond.instanceMethod_spec hinst
  obtain ⟨c2, r2, m2, q1, q2, q3, q4, kP, hkP, hkPi⟩ := Cond.selects_spec hsel
  cases hcls.symm.trans q1
  cases hf.symm.trans q2
  cases hnamed.symm.trans q3
  have hselP : selectMethod e.platform s.vm cellB.cls r0 = .method mk := by rw [Launch.admits_selectMethod X.admits]; exact q4
  obtain ⟨vm₁, X₁, hstep₁⟩ := X.invokevirtualUp hexec hown hlink hsame howner hn hrm hstR (a := b) (cell := cellB) hcell
    (fun z h => by rw [h] at hobj; cases hobj) hselP hmethM habM hkP hkPi (g := g) hg (argsL := argsL) (rest := rest) (hlen _ hsigR) hstack hdg
  rcases hK m meth c ⟨T.setVm vm₁, locs, cells, slots⟩ { g with stack := rest } (.invokevirtual index) mk (Value.ref b :: argsL).toArray X₁ hg hsize hdg hW (X₁.named hnamed) (hpre vm₁ X₁.warmed) with ⟨v, B, X', hpost, hsteps⟩ | ⟨q, B, X', hpost, hsteps⟩
  · exact Or.inl ⟨v, vm₁, B, X₁.warmed, X', hpost, fun target h => hstep₁ _ fun acts => by rw [doInvoke_state]; exact hsteps.trans h⟩
  · exact Or.inr ⟨q, vm₁, B, X₁.warmed, X', hpost, hstep₁ _ fun acts => by rw [doInvoke_state]; exact hsteps⟩
theorem vx_runU {x y : MethodName} {bytes cc : ByteArray} {maxL nL mc ms n index : Nat} {ret : Option FieldType} {ws : List Cond} {rm : Room} {Pc : Array Value → State → Prop} {Qc : Array Value → State → Outcome → State → Prop} {XC : String → State → State → Prop} {free : Addr → Prop} {Ts : List Cond} {own C owner : String} {b : Addr} {As rest : List Value} {g : JFrame}
    (S : CallFix p m c cc nL s args Ts own) (hM : vx_Met l y ws rm Pc Qc XC mc ms free) (cw : va_CU R s args own C owner index x y bytes maxL ret ws rm mc ms n) (hp : PreV s H C b Pc As)
    (hg : g.method = m) (hn : As.length = n) (hsize : g.locals.size = nL) (hstack : g.stack = As.reverse ++ .ref b :: rest) (hW : 2 * g.monitorRoom + (rest.map fun v => v.category).sum ≤ 8) (hdg : decode cc g.pc = .ok (.invokevirtual index, 3)) (hf : cells + mc ≤ R.cells ∧ slots + ms ≤ R.slots) :
    vx_Run p l e R s m args below meth c H locs cells slots mc ms g rest (Qc (Value.ref b :: As).toArray) XC free := by
  obtain ⟨hrc, hrs, hfr, hlo, hws, hcw⟩ := cw.back
  have hini := cw.init
  have hK : vx_Back l R p e below s args y 3 8 (PreOf R mc ms Pc) (PostOf Qc mc ms free) (vx_Post XC mc ms free) := vx_back (bytes := bytes) (maxL := maxL) (ret := ret) hM hp.1 hrc hrs hfr hlo hws hcw (fun a' U hW => word_at hW (Or.inl (by first | rfl | simp [Cond.onTables, Cond.keeps, Cond.steady])) hini)
  obtain ⟨hx, hb, hml, ho, -⟩ := S
  obtain ⟨-, ⟨cellB, hcB, hoB, hclB⟩, hPc⟩ := hp
  intro T hT X
  rcases vx_callVU X hx (C := C) (owner := owner) (bytes := bytes) (maxL := maxL) (ret := ret) ho cw.link cw.same cw.decl cw.notMH cw.sel cw.inst cw.code hK (by rw [hT]; exact hcB) hoB hclB hg (hsize.trans hml.symm) (argsL := As) (rest := rest) (fun sig h => hn.trans (cw.len sig h)) hstack hW (by rw [hb]; exact hdg)
    (fun vm₁ hW₁ => ⟨hf.1, hf.2, hPc (T.setVm vm₁) hT hW₁⟩) with ⟨v, vm₁, ⟨U', l2, c2, s2⟩, hW₁, X', ⟨g', mk, t, L, e1, e2, hq, h1, hL, h2, h3⟩, st⟩ | ⟨q, vm₁, ⟨U', l2, c2, s2⟩, hW₁, X', ⟨g', mk, t, L, E, ce, e1, e2, hq, hce, hcv, hcl, h1, hL, h2, h3⟩, st⟩
  · dsimp only [Pt.U, Pt.locs, Pt.cells, Pt.slots] at X' e1 e2 h1 h2 h3 st
    subst h1; subst h2; subst h3
    exact Or.inl ⟨v, (T.setVm vm₁).calling g' mk (Value.ref b :: As).toArray, t, U', L, hT, X', hL, e1, e2, hq, st⟩
  · dsimp only [Pt.U, Pt.locs, Pt.cells, Pt.slots] at X' e1 e2 h1 h2 h3 st hcl
    subst h1; subst h2; subst h3
    exact Or.inr ⟨q, (T.setVm vm₁).calling g' mk (Value.ref b :: As).toArray, t, U', L, E, ce, hT, X', hL, e1, e2, hq, hce, hcv, vx_cls hW₁ hcl, st⟩
end
/-! ===== END ===== -/
/-! ===== calls of private methods of a class above ===== -/
def j_mU (y : MethodName) (bytes : ByteArray) (maxL : Nat) (ret : Option FieldType) (n : Nat) : Prop :=
  Cond.sameMethod y.cls y.cls y.name y.desc ∈ j_all ∧ Cond.instanceMethod y ∈ j_all ∧ Cond.initialized y.cls ∈ j_all ∧ Cond.code y bytes maxL ret ∈ j_all ∧ (y.cls ≠ "java/lang/invoke/MethodHandle" ∧ y.cls ≠ "java/lang/invoke/VarHandle" ∧ (parseMethodDescriptor y.desc).map (fun d => d.parameters.length) = some n) ∧ maxL ≤ 40 ∧ Cond.selects "java/lang/StringBuilder" y y ∈ j_all
section JU
variable {p : Program} {l : Launch} {e : Env} {R : Room} {s : State} {m : MethodId} {args : Array Value} {below : List Frame} {meth : Method} {c : Code} {D : va_G} {tyc : Nat → ClassId} {A : Nat → Prop} {n0 : Nat} {ad0 : Nat → Nat} {nL : Nat} {Qs : State → Prop} {own : String} {cc : ByteArray} {pc : Nat} {L : List (Option Value)} {st : List Value} {b : SBt} {Y : OUt} {M : MM} {h : MH} {cells slots : Nat}
variable {d1 mc1 ms1 maxL idx n : Nat} {y : MethodName} {bytes : ByteArray} {ret : Option FieldType} {Q1 : MO → MH → Prop} {as st0 : List Value} {bb : Nat}
theorem j_callVU (x : j_X p l s m args meth c D tyc A own cc nL) {ci : Nat} {q : vw_C} {ty : Nat → FieldType} (hd : decode cc pc = .ok (.invokevirtual idx, 3)) (hcon : Con d1 mc1 ms1 y bytes maxL ret (.ref bb :: as) h Q1)
    (hm : j_mU y bytes maxL ret n) (hw : Cond.methodLink own idx y ∈ j_all) (hq : j_cls ci q ty) (hqy : q.1 = "java/lang/StringBuilder")
    (hb : bb < h.1) (htb : (h.2 bb).1 = ci) (hn : as.length = n) (hst : st.length ≤ 4) (hfit : j_fit R d1 mc1 ms1 cells slots) (h0 : st0 = as.reverse ++ .ref bb :: st) (hx : ∀ E k, ¬ Q1 (.inr E) k)
    (kk : ∀ (v : Option Value) (h1 : MH), Q1 (.inl v) h1 → JJ p l e R s m args below meth c D tyc A n0 ad0 nL Qs (pc + 3) L (v.toList ++ st) h1 (cells + mc1) (slots + ms1)) : JJ p l e R s m args below meth c D tyc A n0 ad0 nL Qs pc L st0 h cells slots := by
  subst h0
  intro ad ls H locs I
  obtain ⟨w1, w2, w3, w4, w5, w6, w7⟩ := hm
  have e0 : (as.reverse ++ .ref bb :: st).map (j_cv ad) = (as.map (j_cv ad)).reverse ++ Value.ref (ad bb) :: st.map (j_cv ad) := by rw [List.map_append, List.map_reverse]; rfl
  have I2 : j_I s D tyc A n0 ad0 nL ad L ((as.reverse ++ [.ref bb]) ++ st) h ls H locs := by rw [List.append_assoc]; exact I
  have hargs : ∀ v ∈ Value.ref bb :: as, j_ok h.1 v := fun v hv => (List.mem_cons.mp hv).elim (fun e => by rw [e]; exact j_ok_ref hb) (fun hv => I.2.2.2.2.2.2.1 v (List.mem_append_left _ (List.mem_reverse.mpr hv)))
  have hM := hcon l D tyc ad H.size x.2.2.2.2.2.2.2.2.1 I.2.2.2.2.2.1 hargs
  have he : (j_w tyc ad h)[bb]? = some (ad bb, .inr (ci, (List.range (h.2 bb).2.1).map fun k => j_cv ad ((h.2 bb).2.2 k))) := by rw [j_w_get hb, j_e_obj htb hq.2.1]
  have hsel : (Cond.selects q.1 y y).before args s = true := by
    rw [hqy]
    exact x.2.2.2.2.1 _ w7
  have hG : GoodIn j_all (Cond.code y bytes maxL ret :: j_all) := j_good (j_mem_cons w4 (fun _ h => h))
  have hdec : va_Decl s y := va_Decl.of (x.2.2.2.2.1 _ w2) (x.2.2.2.2.1 _ w4)
  rw [e0]
  refine j_run (a := (Value.ref (ad bb) :: as.map (j_cv ad)).toArray) x I2 (vx_runU (n := n) (C := q.1) (owner := y.cls) (x := y) (As := as.map (j_cv ad)) ⟨x.1, x.2.1, x.2.2.1, x.2.2.2.1, x.2.2.2.2.1⟩ hM ⟨⟨rfl, rfl, (hfit.1 maxL w6).1, (hfit.1 maxL w6).2, pay_in x.2.2.2.2.1 hG, List.mem_cons_self⟩, x.2.2.2.2.1 _ w4, x.2.2.2.2.1 _ w3, ⟨w5.1, w5.2.1⟩, fun sig hs => ?_, x.2.2.2.2.1 _ hw, x.2.2.2.2.1 _ w1, hdec, hsel, x.2.2.2.2.1 _ w2⟩ ⟨j_B.blind, va_recv x.2.2.2.2.2.1 I.2.1 hq.1 he, fun U hU hW => ⟨rfl, j_pre x I hU hW⟩⟩ rfl (by rw [List.length_map]; exact hn) I.1.1 rfl (lv_room (j_room hst)) hd ⟨hfit.2.1, hfit.2.2⟩) (fun E h1 ad1 => j_no hx (H := #[]) E h1 ad1 ls) kk
  have h2 := w5.2.2
  rw [hs] at h2
  exact (Option.some.inj h2).symm
/-! ===== the bytes of the line ===== -/
def isB (i : Nat) : Prop := i = 93 ∨ 104 ≤ i
theorem isB_t {i : Nat} (h : isB i) : hT i = 102 := by
  rcases h with rfl | h
  · rfl
  · rw [hT, List.getD_eq_getElem?_getD, List.getElem?_eq_none (show hTl.length ≤ i by rw [show hTl.length = 104 from rfl]; exact h)]; rfl
theorem isB_r {i k : Nat} (h : isB i) : hR i k = none := by
  rcases h with rfl | h
  · rfl
  · rw [hR, List.getD_eq_getElem?_getD, List.getElem?_eq_none (Nat.le_trans (show hRl.length ≤ 104 by decide) h)]; rfl
theorem isB_f {i : Nat} (h : isB i) (b : SBt) (Y : OUt) (M : MM) : hF b Y M i = fun k => .int (M i k) := funext fun k => by
  have h1 : i ≠ 102 ∧ i ≠ 103 ∧ i ≠ 92 := by unfold isB at h; omega
  rw [hF, if_neg h1.1, if_neg h1.2.1, if_neg (fun z => h1.2.2 z.1), isB_r h]
theorem HH_wrb {b : SBt} {Y : OUt} {M : MM} {i k : Nat} {v : Int32} (h : isB i) : j_fld (HH b Y M) i k (.int v) = HH b Y (jm M i k v) := by
  unfold j_fld j_wr HH
  refine Prod.ext rfl (funext fun a => ?_)
  show ju (fun i => (hT i, hLen b i, hF b Y M i)) i (hT i, hLen b i, ju (hF b Y M i) k (.int v)) a = (hT a, hLen b a, hF b Y (jm M i k v) a)
  by_cases ha : a = i
  · subst ha
    rw [ju_s, isB_f h, isB_f h]
    refine congrArg (fun z => (hT a, hLen b a, z)) (funext fun c => ?_)
    by_cases hc : c = k
    · subst hc; rw [ju_s, jm_s]
    · rw [ju_n hc, jm_n (by omega)]
  · rw [ju_n ha]
    refine congrArg (fun z => (hT a, hLen b a, z)) (funext fun c => ?_)
    unfold hF
    split
    · rfl
    · split
      · rfl
      · split
        · rfl
        · split
          · rfl
          · rw [jm_n (by omega)]
def sbp (b : SBt) (N : Nat) : SBt := (b.1, b.2.1 + 1, fun i => if i = b.2.1 then N else b.2.2 i)
def mz (M : MM) (i : Nat) (f : Nat → Int32) : MM := fun a k => if a = i then f k else M a k
theorem mz_n {M : MM} {i a k : Nat} {f : Nat → Int32} (h : a ≠ i) : mz M i f a k = M a k := if_neg h
theorem mz_s {M : MM} {i k : Nat} {f : Nat → Int32} : mz M i f i k = f k := if_pos rfl
theorem hF_mz {b : SBt} {Y : OUt} {M : MM} {i a : Nat} {f : Nat → Int32} (h : a ≠ i) : hF b Y (mz M i f) a = hF b Y M a := funext fun k => by
  unfold hF
  split
  · rfl
  · split
    · rfl
    · split
      · rfl
      · split
        · rfl
        · rw [mz_n h]
theorem HH_push {b : SBt} {Y : OUt} {M : MM} {N : Nat} (hb : 104 ≤ b.2.1) : j_push (HH b Y M) (102, N, fun _ => .int 0) = HH (sbp b N) Y (mz M b.2.1 fun _ => 0) := by
  unfold j_push HH sbp
  refine Prod.ext rfl (funext fun a => ?_)
  show ju (fun i => (hT i, hLen b i, hF b Y M i)) b.2.1 (102, N, fun _ => .int 0) a = _
  by_cases ha : a = b.2.1
  · subst ha
    have hB : isB b.2.1 := Or.inr hb
    rw [ju_s]
    show _ = (hT b.2.1, hLen (b.1, b.2.1 + 1, fun i => if i = b.2.1 then N else b.2.2 i) b.2.1, hF _ Y (mz M b.2.1 fun _ => 0) b.2.1)
    rw [isB_t hB, isB_f hB, hLen, if_neg (by omega)]
    show _ = (102, (if b.2.1 = b.2.1 then N else b.2.2 b.2.1), fun k => Value.int (mz M b.2.1 (fun _ => 0) b.2.1 k))
    rw [if_pos rfl]
    exact congrArg (fun z => (102, N, z)) (funext fun k => by rw [mz_s])
  · rw [ju_n ha]
    show _ = (hT a, hLen (b.1, b.2.1 + 1, fun i => if i = b.2.1 then N else b.2.2 i) a, hF (b.1, b.2.1 + 1, fun i => if i = b.2.1 then N else b.2.2 i) Y (mz M b.2.1 fun _ => 0) a)
    have e1 : hLen (b.1, b.2.1 + 1, fun i => if i = b.2.1 then N else b.2.2 i) a = hLen b a := by
      unfold hLen
      split
      · rfl
      · exact if_neg ha
    rw [e1, hF_mz ha]
    rfl
theorem HH_val {b : SBt} {Y : OUt} {M : MM} {r : Nat} : j_fld (HH b Y M) 92 0 (.ref r) = HH (r, b.2.1, b.2.2) Y M := by
  unfold j_fld j_wr HH
  refine Prod.ext rfl (funext fun a => ?_)
  show ju (fun i => (hT i, hLen b i, hF b Y M i)) 92 (hT 92, hLen b 92, ju (hF b Y M 92) 0 (.ref r)) a = (hT a, hLen (r, b.2.1, b.2.2) a, hF (r, b.2.1, b.2.2) Y M a)
  by_cases ha : a = 92
  · subst ha
    rw [ju_s]
    refine congrArg (fun z => (hT 92, hLen b 92, z)) (funext fun c => ?_)
    by_cases hc : c = 0
    · subst hc; rw [ju_s]; rfl
    · rw [ju_n hc]
      unfold hF
      rw [if_neg (by decide), if_neg (by decide), if_neg (by omega), if_neg (by decide), if_neg (by decide), if_neg (by omega)]
  · rw [ju_n ha]
    refine congrArg (fun z => (hT a, hLen b a, z)) (funext fun c => ?_)
    unfold hF
    rw [if_neg (c := a = 92 ∧ c = 0) (fun z => ha z.1), if_neg (c := a = 92 ∧ c = 0) (fun z => ha z.1)]
theorem HH_cpb {b : SBt} {Y : OUt} {M : MM} {a i n : Nat} (ha : isB a) (hi : isB i) : j_wr (HH b Y M) i (((HH b Y M).2 i).1, ((HH b Y M).2 i).2.1, jcpy ((HH b Y M).2 a).2.2 ((HH b Y M).2 i).2.2 0 0 n) = HH b Y (mz M i fun k => if k < n then M a k else M i k) := by
  unfold j_wr HH
  refine Prod.ext rfl (funext fun c => ?_)
  show ju (fun i => (hT i, hLen b i, hF b Y M i)) i (hT i, hLen b i, jcpy (hF b Y M a) (hF b Y M i) 0 0 n) c = (hT c, hLen b c, hF b Y (mz M i fun k => if k < n then M a k else M i k) c)
  by_cases hc : c = i
  · subst hc
    rw [ju_s, isB_f ha, isB_f hi, isB_f hi]
    refine congrArg (fun z => (hT c, hLen b c, z)) (funext fun k => ?_)
    rw [mz_s]
    unfold jcpy
    by_cases hk : k < n
    · rw [if_pos hk, if_pos (by omega)]; rw [Nat.sub_zero, Nat.zero_add]; rfl
    · rw [if_neg hk, if_neg (by omega)]
  · rw [ju_n hc, hF_mz hc]
end JU
end

section
/-! ===== the StringBuilder: rows ===== -/
section JSB
variable {p : Program} {l : Launch} {e : Env} {R : Room} {s : State} {m : MethodId} {args : Array Value} {below : List Frame} {meth : Method} {c : Code} {D : va_G} {tyc : Nat → ClassId} {A : Nat → Prop} {n0 : Nat} {ad0 : Nat → Nat} {nL : Nat} {Qs : State → Prop} {own : String} {cc : ByteArray} {pc : Nat} {L : List (Option Value)} {st : List Value} {b : SBt} {Y : OUt} {M : MM} {h : MH} {cells slots idx : Nat}
theorem j2_vget (x : j_X p l s m args meth c D tyc A own cc nL) (hb : 104 ≤ b.2.1) (hd : decode cc pc = .ok (.getfield idx, 3)) (hw : Cond.fieldLink own idx "java/lang/AbstractStringBuilder" "value" "[B" ∈ j_all) (kk : JJ p l e R s m args below meth c D tyc A n0 ad0 nL Qs (pc + 3) L (.ref b.1 :: st) (HH b Y M) cells slots) : JJ p l e R s m args below meth c D tyc A n0 ad0 nL Qs pc L (.ref 92 :: st) (HH b Y M) cells slots := by
  refine j_get (i := 92) (k := 0) x hd jc_1 hw (by decide) (show 92 < b.2.1 by omega) rfl (show hLen b 92 = 4 from hLen_lo (b := b) (by decide)) ?_
  show JJ p l e R s m args below meth c D tyc A n0 ad0 nL Qs (pc + 3) L (hF b Y M 92 0 :: st) (HH b Y M) cells slots
  exact kk
theorem j2_vput (x : j_X p l s m args meth c D tyc A own cc nL) (hb : 104 ≤ b.2.1) {r : Nat} (hd : decode cc pc = .ok (.putfield idx, 3)) (hw : Cond.fieldLink own idx "java/lang/AbstractStringBuilder" "value" "[B" ∈ j_all) (kk : JJ p l e R s m args below meth c D tyc A n0 ad0 nL Qs (pc + 3) L st (HH (r, b.2.1, b.2.2) Y M) cells slots) : JJ p l e R s m args below meth c D tyc A n0 ad0 nL Qs pc L (.ref r :: .ref 92 :: st) (HH b Y M) cells slots := by
  refine j_put (i := 92) (k := 0) (v := .ref r) x hd jc_1 hw (by decide) rfl rfl rfl (show 92 < b.2.1 by omega) rfl (show hLen b 92 = 4 from hLen_lo (b := b) (by decide)) ?_
  rw [HH_val]
  exact kk
theorem j2_bst (x : j_X p l s m args meth c D tyc A own cc nL) {i n : Nat} {k v w : Int32} (hB : isB i) (hi : i < b.2.1) (hl : hLen b i = n) (hd : decode cc pc = .ok (.bastore, 1)) (hk : vp_in k n) (hw : vp_nar .byte v = w) (kk : JJ p l e R s m args below meth c D tyc A n0 ad0 nL Qs (pc + 1) L st (HH b Y (jm M i k.toNatClampNeg w)) cells slots) : JJ p l e R s m args below meth c D tyc A n0 ad0 nL Qs pc L (.int v :: .int k :: .ref i :: st) (HH b Y M) cells slots := by
  refine j_bastore x hd hi (isB_t hB) (by show vp_in k (hLen b i); rw [hl]; exact hk) hw ?_
  rw [HH_wrb hB]
  exact kk
theorem j2_bld (x : j_X p l s m args meth c D tyc A own cc nL) {i n : Nat} {k v : Int32} (hB : isB i) (hi : i < b.2.1) (hl : hLen b i = n) (hd : decode cc pc = .ok (.baload, 1)) (hk : vp_in k n) (hv : M i k.toNatClampNeg = v) (kk : JJ p l e R s m args below meth c D tyc A n0 ad0 nL Qs (pc + 1) L (.int v :: st) (HH b Y M) cells slots) : JJ p l e R s m args below meth c D tyc A n0 ad0 nL Qs pc L (.int k :: .ref i :: st) (HH b Y M) cells slots := by
  refine j_baload x hd hi (isB_t hB) (by show vp_in k (hLen b i); rw [hl]; exact hk) ?_ kk
  show hF b Y M i k.toNatClampNeg = _
  rw [isB_f hB]
  show Value.int (M i k.toNatClampNeg) = _
  rw [hv]
theorem j2_blen (x : j_X p l s m args meth c D tyc A own cc nL) {i n : Nat} (hB : isB i) (hi : i < b.2.1) (hl : hLen b i = n) (hd : decode cc pc = .ok (.arraylength, 1)) (kk : JJ p l e R s m args below meth c D tyc A n0 ad0 nL Qs (pc + 1) L (.int (nI n) :: st) (HH b Y M) cells slots) : JJ p l e R s m args below meth c D tyc A n0 ad0 nL Qs pc L (.ref i :: st) (HH b Y M) cells slots :=
  j_alen x hd hi (isB_t hB) (by decide) (by decide) (by show Int32.ofNat (hLen b i) = _; rw [hl]; rfl) kk
theorem j2_bnew (x : j_X p l s m args meth c D tyc A own cc nL) (hb : 104 ≤ b.2.1) {n : Nat} (hd : decode cc pc = .ok (.newarray .byte, 2)) (hw : Cond.arrayClass .byte ∈ j_all) (hn : n < 1000) (hc1 : cells + 1 ≤ R.cells) (hs1 : slots + n ≤ R.slots) (kk : JJ p l e R s m args below meth c D tyc A n0 ad0 nL Qs (pc + 2) L (.ref b.2.1 :: st) (HH (sbp b n) Y (mz M b.2.1 fun _ => 0)) (cells + 1) (slots + n)) : JJ p l e R s m args below meth c D tyc A n0 ad0 nL Qs pc L (.int (nI n) :: st) (HH b Y M) cells slots := by
  refine j_newa_byte x hd hw (nI_pos (by omega)) (nI_clamp (by omega)) (by omega) hc1 hs1 ?_
  rw [HH_push hb]
  exact kk
/-- a table of java/lang/Integer's -/
theorem j_tabT {n : String} {f : Nat → Int32} (h : j_tab n f A s s.heap) : ∃ a : Nat, va_Z "java/lang/Integer" n "[B" (.ref a) A s s.heap ∧ va_T .byte a 100 (fun j => .int (f j)) A s s.heap := by
  obtain ⟨a, h1, h2, h3, cell, h4, h5, h6, h7, h8⟩ := h
  exact ⟨a, h1, cell, h4, h5, h6, Nat.le_of_eq h7.symm, by rw [h7], h8, h2⟩
theorem j_getsR (x : j_X p l s m args meth c D tyc A own cc nL) {C f dsc : String} {a : Nat} (hd : decode cc pc = .ok (.getstatic idx, 3)) (hZ : va_Z C f dsc (.ref a) A s s.heap) (hw : Cond.fieldLink own idx C f dsc ∈ j_all) (kk : JJ p l e R s m args below meth c D tyc A n0 ad0 nL Qs (pc + 3) L (.retAddr a :: st) h cells slots) : JJ p l e R s m args below meth c D tyc A n0 ad0 nL Qs pc L st h cells slots := by
  intro ad ls H locs I
  exact va_gets x.1 x.2.1 hZ I.2.2.2.1 x.2.2.2.1 (x.2.2.2.2.1 _ hw) (fun _ h9 => h9) hd (kk ad ls H locs (I.st fun hs => j_ok_cons j_ok_raw hs))
theorem j_getsN (x : j_X p l s m args meth c D tyc A own cc nL) {C f dsc : String} (hd : decode cc pc = .ok (.getstatic idx, 3)) (hZ : va_Z C f dsc .null A s s.heap) (hw : Cond.fieldLink own idx C f dsc ∈ j_all) (kk : JJ p l e R s m args below meth c D tyc A n0 ad0 nL Qs (pc + 3) L (.null :: st) h cells slots) : JJ p l e R s m args below meth c D tyc A n0 ad0 nL Qs pc L st h cells slots := by
  intro ad ls H locs I
  exact va_gets x.1 x.2.1 hZ I.2.2.2.1 x.2.2.2.1 (x.2.2.2.2.1 _ hw) (fun _ h9 => h9) hd (kk ad ls H locs (I.st fun hs => j_ok_cons j_ok_null hs))
theorem j_tld (x : j_X p l s m args meth c D tyc A own cc nL) {a k : Nat} {f : Nat → Int32} (hT : va_T .byte a 100 (fun j => .int (f j)) A s s.heap) (hk : k < 100) (hd : decode cc pc = .ok (.baload, 1)) (kk : JJ p l e R s m args below meth c D tyc A n0 ad0 nL Qs (pc + 1) L (.int (f k) :: st) h cells slots) : JJ p l e R s m args below meth c D tyc A n0 ad0 nL Qs pc L (.int (nI k) :: .retAddr a :: st) h cells slots := by
  intro ad ls H locs I
  exact va_tb x.1 x.2.1 hT I.2.2.2.1 (vp_in_nI hk (by decide)) (v := .int (f k)) (by rw [nI_clamp (by omega)]) hd (kk ad ls H locs (I.st fun hs => j_ok_cons j_ok_int (j_ok_tl (j_ok_tl hs))))
theorem j_copyB {d mc ms : Nat} (x : j_X p l s m args meth c D tyc A own cc nL) {a i : Nat} {n : Int32} (hd : decode cc pc = .ok (.invokestatic idx, 3)) (hw : Cond.methodLink own idx arraycopyName ∈ j_all) (hst : st.length ≤ 4) (ha : a < h.1) (hta : (h.2 a).1 = 102) (hb : i < h.1) (htb : (h.2 i).1 = 102) (hfit : ∀ k, fits .byte (.int (j_int ((h.2 a).2.2 k))) = true)
    (h3 : ¬ n < 0) (h4 : n.toNatClampNeg ≤ (h.2 a).2.1) (h5 : n.toNatClampNeg ≤ (h.2 i).2.1)
    (kk : JJ p l e (j_rm d mc ms) s m args below meth c D tyc A n0 ad0 nL Qs (pc + 3) L st (j_wr h i ((h.2 i).1, (h.2 i).2.1, jcpy (h.2 a).2.2 (h.2 i).2.2 0 0 n.toNatClampNeg)) cells slots) :
    JJ p l e (j_rm d mc ms) s m args below meth c D tyc A n0 ad0 nL Qs pc L (.int n :: .int 0 :: .ref i :: .int 0 :: .ref a :: st) h cells slots := by
  intro ad ls H locs I
  have hm := wcp
  have h8 := j_room (ad := ad) hst
  have hea : (j_w tyc ad h)[a]? = some (ad a, .inl (tyc 102, (h.2 a).2.1, .inl fun j => j_int ((h.2 a).2.2 j))) := by rw [j_w_get ha, j_e_arr hta (by decide), j_arr_i (by decide) (by decide) (by decide)]
  have heb : (j_w tyc ad h)[i]? = some (ad i, .inl (tyc 102, (h.2 i).2.1, .inl fun j => j_int ((h.2 i).2.2 j))) := by rw [j_w_get hb, j_e_arr htb (by decide), j_arr_i (by decide) (by decide) (by decide)]
  have hnw : nativeFrameWords "java/lang/System" "arraycopy" 5 ≤ 100 := by decide +kernel
  refine va_copyi x.1 x.2.1 (by rw [x.2.2.1]; exact I.1.1.symm) x.2.2.2.1 (x.2.2.2.2.1 _ hw) (x.2.2.2.2.1 _ hm.1) (x.2.2.2.2.1 _ hm.2.1) (x.2.2.2.2.1 _ hm.2.2) x.2.2.2.2.2.1 I.2.1 I.2.2.1 I.2.2.2.1 a i 2 2 hea heb (ty := .byte) rfl rfl rfl (sp := 0) (dp := 0) (by decide) (by decide) h3 (by rw [show (0 : Int32).toNatClampNeg = 0 from rfl, Nat.zero_add]; exact h4) (by rw [show (0 : Int32).toNatClampNeg = 0 from rfl, Nat.zero_add]; exact h5) (fun _ _ => hfit _) (by simp only [j_rm]; omega) (by simp only [j_rm]; omega) hd (fun H1 locs1 hP hD hS => ?_)
  have e1 : va_cpy (fun j => j_int ((h.2 a).2.2 j)) (fun j => j_int ((h.2 i).2.2 j)) (0 : Int32).toNatClampNeg (0 : Int32).toNatClampNeg n.toNatClampNeg = fun j => j_int (jcpy (h.2 a).2.2 (h.2 i).2.2 0 0 n.toNatClampNeg j) := funext fun j => by
    simp only [va_cpy, jcpy, show (0 : Int32).toNatClampNeg = 0 from rfl]
    split <;> rfl
  have e2 : j_e tyc ad ((h.2 i).1, (h.2 i).2.1, jcpy (h.2 a).2.2 (h.2 i).2.2 0 0 n.toNatClampNeg) = .inl (tyc 102, (h.2 i).2.1, .inl fun j => j_int (jcpy (h.2 a).2.2 (h.2 i).2.2 0 0 n.toNatClampNeg j)) := Eq.trans (j_e_arr (ad := ad) (tyc := tyc) (c := (_, _, _)) (t := 102) htb (by decide)) (by rw [j_arr_i (by decide) (by decide) (by decide)])
  rw [e1, ← e2] at hP hD
  refine kk ad ls H1 locs1 (I.wr (fun hs => j_ok_tl (j_ok_tl (j_ok_tl (j_ok_tl (j_ok_tl hs))))) hb (fun j => ?_) hP hD hS)
  show j_ok h.1 (jcpy _ _ _ _ _ j)
  unfold jcpy
  split
  · exact j_ok_int
  · exact I.2.2.2.2.2.1 i hb j
end JSB
end

section
/-! ===== the StringBuilder: its methods (Latin-1 alone) ===== -/
def sbI (b : SBt) (M : MM) (n : Nat) : Prop := isB b.1 ∧ b.1 < b.2.1 ∧ 104 ≤ b.2.1 ∧ hLen b b.1 = n ∧ M 92 1 = 0 ∧ ∀ k, fits .byte (.int (M b.1 k)) = true
theorem fit_n (v : Int32) : fits .byte (.int (vp_nar .byte v)) = true := pk_fb v
theorem fit_jm {M : MM} {i a : Nat} {v : Int32} (h : ∀ k, fits .byte (.int (M i k)) = true) : ∀ k, fits .byte (.int (jm M i a (vp_nar .byte v) i k)) = true := fun k => by
  by_cases e : k = a
  · subst e; rw [jm_s]; exact fit_n v
  · rw [jm_n (by omega)]; exact h k
theorem c_isLatin1 {d : Nat} {b : SBt} {Y : OUt} {M : MM} (hb : 104 ≤ b.2.1) (hc0 : M 92 1 = 0) : CM (d) 0 0 yJ5_isLatin1_aae02 cJ5_isLatin1_aae02 1 (some .boolean) [.ref 92] b Y M (.inl (some (.int 1))) (M) := by
  refine Con.of (by decide +kernel) (Nat.le_of_ble_eq_true rfl) rfl fun p l e s m args below meth c D tyc A ad0 x hr htab hname => ?_
  change JJ _ _ _ _ _ _ _ _ _ _ _ _ _ _ _ _ _ 0 [some (.ref 92)] [] _ 0 0
  refine j_gets x dJ5_isLatin1_aae02_0 x.2.2.2.2.2.2.2.2.2.2.2.2.2.2.1 wfJ5_18 ?_
  refine j_if_eq (tgt := 17) x dJ5_isLatin1_aae02_3 (by decide) (fun hc => absurd hc (by decide)) (fun hc => ?_)
  refine j_aload_n x dJ5_isLatin1_aae02_6 rfl ?_
  refine j2_geti (k := 1) x hb dJ5_isLatin1_aae02_7 jc_1 wfJ5_22 (by decide) rfl ?_
  refine j_if_ne (tgt := 17) x dJ5_isLatin1_aae02_10 (by decide) (fun hc => absurd hc (fun q => q hc0)) (fun hc => ?_)
  refine j_iconst (v := 1) x dJ5_isLatin1_aae02_13 (by decide) ?_
  refine j_goto (tgt := 18) x dJ5_isLatin1_aae02_14 (by decide) ?_
  exact j_zreturn x hr dJ5_isLatin1_aae02_18 (by first | decide | with_reducible exact jb_nar | with_reducible exact jisS_nar | with_reducible exact gno_nar) (by omega) (by omega) ⟨rfl, rfl⟩
theorem neg_le {v k : Nat} (hv : v < 2 ^ 31) (hk : k < 2 ^ 31) : -nI v ≤ -nI k ↔ k ≤ v := by
  have h1 : (-nI v).toInt = -(v : Int) := by
    rw [Int32.toInt_neg, nI_toInt hv]
    exact Int.bmod_eq_of_le (by omega) (by omega)
  have h2 : (-nI k).toInt = -(k : Int) := by
    rw [Int32.toInt_neg, nI_toInt hk]
    exact Int.bmod_eq_of_le (by omega) (by omega)
  rw [Int32.le_iff_toInt_le, h1, h2]
  omega
theorem neg_div100 {v : Nat} (hv : v < 2 ^ 31) : -nI v / 100 = -nI (v / 100) := by
  apply Int32.toInt_inj.mp
  have h1 : (-nI v).toInt = -(v : Int) := by
    rw [Int32.toInt_neg, nI_toInt hv]
    exact Int.bmod_eq_of_le (by omega) (by omega)
  have h2 : (-nI (v / 100)).toInt = -((v / 100 : Nat) : Int) := by
    rw [Int32.toInt_neg, nI_toInt (by omega)]
    exact Int.bmod_eq_of_le (by omega) (by omega)
  rw [Int32.toInt_div, h1, h2, show (100 : Int32).toInt = 100 from rfl, Int.neg_tdiv, Int.tdiv_eq_ediv_of_nonneg (by omega)]
  have e : (v : Int) / 100 = ((v / 100 : Nat) : Int) := by omega
  rw [e]
  exact Int.bmod_eq_of_le (by omega) (by omega)
theorem neg_mod100 {v : Nat} (hv : v < 2 ^ 31) : -nI (v / 100) * 100 - -nI v = nI (v % 100) := by
  have h1 : nI v = nI (v / 100) * 100 + nI (v % 100) := by
    rw [show (100 : Int32) = nI 100 from rfl, nI_mul, nI_add]
    congr 1
    omega
  rw [h1, Int32.neg_mul, Int32.sub_neg, ← Int32.add_assoc, Int32.add_left_neg, Int32.zero_add]
def dg (v : Nat) : Nat := if v < 10 then 1 else if v < 100 then 2 else if v < 1000 then 3 else 4
theorem dg_le (v : Nat) : 1 ≤ dg v ∧ dg v ≤ 4 := by unfold dg; split <;> (try split) <;> (try split) <;> omega
theorem c_stringSize_1 {d : Nat} {b : SBt} {Y : OUt} {M : MM} (hb : 104 ≤ b.2.1) {v : Nat} (hv : v < 10) : CM (d) 0 0 yJ6_stringSize_0f7a4 cJ6_stringSize_0f7a4 4 (some .int) [.int (nI v)] b Y M (.inl (some (.int (nI 1)))) (M) := by
  refine Con.of (by decide +kernel) (Nat.le_of_ble_eq_true rfl) rfl fun p l e s m args below meth c D tyc A ad0 x hr htab hname => ?_
  change JJ _ _ _ _ _ _ _ _ _ _ _ _ _ _ _ _ _ 0 [some (.int (nI v)), none, none, none] [] _ 0 0
  refine j_iconst (v := 1) x dJ6_stringSize_0f7a4_0 (by decide) ?_
  refine j_istore_n x dJ6_stringSize_0f7a4_1 (by decide) rfl ?_
  refine j_iload_n x dJ6_stringSize_0f7a4_2 rfl ?_
  refine j_if_lt (tgt := 11) x dJ6_stringSize_0f7a4_3 (by decide) (fun hc => absurd hc (nI_pos (by omega))) (fun hc => ?_)
  refine j_iconst (v := 0) x dJ6_stringSize_0f7a4_6 (by decide) ?_
  refine j_istore_n x dJ6_stringSize_0f7a4_7 (by decide) rfl ?_
  refine j_iload_n x dJ6_stringSize_0f7a4_8 rfl ?_
  refine j_ineg x dJ6_stringSize_0f7a4_9 ?_
  refine j_istore_n x dJ6_stringSize_0f7a4_10 (by decide) rfl ?_
  refine j_bipush (v := (-10)) x dJ6_stringSize_0f7a4_11 (by decide) ?_
  refine j_istore_n x dJ6_stringSize_0f7a4_13 (by decide) rfl ?_
  refine j_iconst (v := 1) x dJ6_stringSize_0f7a4_14 (by decide) ?_
  refine j_istore_n x dJ6_stringSize_0f7a4_15 (by decide) rfl ?_
  refine j_iload_n x dJ6_stringSize_0f7a4_16 rfl ?_
  refine j_bipush (v := 10) x dJ6_stringSize_0f7a4_17 (by decide) ?_
  refine j_icmp_ge (tgt := 42) x dJ6_stringSize_0f7a4_19 (by decide) (fun hc => absurd hc (by decide)) (fun hc => ?_)
  refine j_iload_n x dJ6_stringSize_0f7a4_22 rfl ?_
  refine j_iload_n x dJ6_stringSize_0f7a4_23 rfl ?_
  refine j_icmp_le (tgt := 31) x dJ6_stringSize_0f7a4_24 (by decide) (fun hc => absurd hc (fun q => absurd ((neg_le (v := v) (by omega) (k := 10) (by decide)).mp q) (by omega))) (fun hc => ?_)
  refine j_iload_n x dJ6_stringSize_0f7a4_27 rfl ?_
  refine j_iload_n x dJ6_stringSize_0f7a4_28 rfl ?_
  refine j_iadd x dJ6_stringSize_0f7a4_29 ?_
  exact j_ireturn x hr dJ6_stringSize_0f7a4_30 (by omega) (by omega) ⟨congrArg (fun z => Sum.inl (some (Value.int z))) (by decide), rfl⟩
theorem c_stringSize_2 {d : Nat} {b : SBt} {Y : OUt} {M : MM} (hb : 104 ≤ b.2.1) {v : Nat} (h0 : 10 ≤ v) (hv : v < 100) : CM (d) 0 0 yJ6_stringSize_0f7a4 cJ6_stringSize_0f7a4 4 (some .int) [.int (nI v)] b Y M (.inl (some (.int (nI 2)))) (M) := by
  refine Con.of (by decide +kernel) (Nat.le_of_ble_eq_true rfl) rfl fun p l e s m args below meth c D tyc A ad0 x hr htab hname => ?_
  change JJ _ _ _ _ _ _ _ _ _ _ _ _ _ _ _ _ _ 0 [some (.int (nI v)), none, none, none] [] _ 0 0
  refine j_iconst (v := 1) x dJ6_stringSize_0f7a4_0 (by decide) ?_
  refine j_istore_n x dJ6_stringSize_0f7a4_1 (by decide) rfl ?_
  refine j_iload_n x dJ6_stringSize_0f7a4_2 rfl ?_
  refine j_if_lt (tgt := 11) x dJ6_stringSize_0f7a4_3 (by decide) (fun hc => absurd hc (nI_pos (by omega))) (fun hc => ?_)
  refine j_iconst (v := 0) x dJ6_stringSize_0f7a4_6 (by decide) ?_
  refine j_istore_n x dJ6_stringSize_0f7a4_7 (by decide) rfl ?_
  refine j_iload_n x dJ6_stringSize_0f7a4_8 rfl ?_
  refine j_ineg x dJ6_stringSize_0f7a4_9 ?_
  refine j_istore_n x dJ6_stringSize_0f7a4_10 (by decide) rfl ?_
  refine j_bipush (v := (-10)) x dJ6_stringSize_0f7a4_11 (by decide) ?_
  refine j_istore_n x dJ6_stringSize_0f7a4_13 (by decide) rfl ?_
  refine j_iconst (v := 1) x dJ6_stringSize_0f7a4_14 (by decide) ?_
  refine j_istore_n x dJ6_stringSize_0f7a4_15 (by decide) rfl ?_
  refine j_iload_n x dJ6_stringSize_0f7a4_16 rfl ?_
  refine j_bipush (v := 10) x dJ6_stringSize_0f7a4_17 (by decide) ?_
  refine j_icmp_ge (tgt := 42) x dJ6_stringSize_0f7a4_19 (by decide) (fun hc => absurd hc (by decide)) (fun hc => ?_)
  refine j_iload_n x dJ6_stringSize_0f7a4_22 rfl ?_
  refine j_iload_n x dJ6_stringSize_0f7a4_23 rfl ?_
  refine j_icmp_le (tgt := 31) x dJ6_stringSize_0f7a4_24 (by decide) (fun hc => ?_) (fun hc => absurd ((neg_le (v := v) (by omega) (k := 10) (by decide)).mpr (by omega)) hc)
  refine j_bipush (v := 10) x dJ6_stringSize_0f7a4_31 (by decide) ?_
  refine j_iload_n x dJ6_stringSize_0f7a4_33 rfl ?_
  refine j_imul x dJ6_stringSize_0f7a4_34 ?_; rw [show (10 : Int32) * -10 = -100 from by decide]
  refine j_istore_n x dJ6_stringSize_0f7a4_35 (by decide) rfl ?_
  refine j_iinc x dJ6_stringSize_0f7a4_36 rfl (by decide) rfl ?_
  refine j_goto (tgt := 16) x dJ6_stringSize_0f7a4_39 (by decide) ?_
  refine j_iload_n x dJ6_stringSize_0f7a4_16 rfl ?_
  refine j_bipush (v := 10) x dJ6_stringSize_0f7a4_17 (by decide) ?_
  refine j_icmp_ge (tgt := 42) x dJ6_stringSize_0f7a4_19 (by decide) (fun hc => absurd hc (by decide)) (fun hc => ?_)
  refine j_iload_n x dJ6_stringSize_0f7a4_22 rfl ?_
  refine j_iload_n x dJ6_stringSize_0f7a4_23 rfl ?_
  refine j_icmp_le (tgt := 31) x dJ6_stringSize_0f7a4_24 (by decide) (fun hc => absurd hc (fun q => absurd ((neg_le (v := v) (by omega) (k := 100) (by decide)).mp q) (by omega))) (fun hc => ?_)
  refine j_iload_n x dJ6_stringSize_0f7a4_27 rfl ?_
  refine j_iload_n x dJ6_stringSize_0f7a4_28 rfl ?_
  refine j_iadd x dJ6_stringSize_0f7a4_29 ?_
  exact j_ireturn x hr dJ6_stringSize_0f7a4_30 (by omega) (by omega) ⟨congrArg (fun z => Sum.inl (some (Value.int z))) (by decide), rfl⟩
theorem c_stringSize_3 {d : Nat} {b : SBt} {Y : OUt} {M : MM} (hb : 104 ≤ b.2.1) {v : Nat} (h0 : 100 ≤ v) (hv : v < 1000) : CM (d) 0 0 yJ6_stringSize_0f7a4 cJ6_stringSize_0f7a4 4 (some .int) [.int (nI v)] b Y M (.inl (some (.int (nI 3)))) (M) := by
  refine Con.of (by decide +kernel) (Nat.le_of_ble_eq_true rfl) rfl fun p l e s m args below meth c D tyc A ad0 x hr htab hname => ?_
  change JJ _ _ _ _ _ _ _ _ _ _ _ _ _ _ _ _ _ 0 [some (.int (nI v)), none, none, none] [] _ 0 0
  refine j_iconst (v := 1) x dJ6_stringSize_0f7a4_0 (by decide) ?_
  refine j_istore_n x dJ6_stringSize_0f7a4_1 (by decide) rfl ?_
  refine j_iload_n x dJ6_stringSize_0f7a4_2 rfl ?_
  refine j_if_lt (tgt := 11) x dJ6_stringSize_0f7a4_3 (by decide) (fun hc => absurd hc (nI_pos (by omega))) (fun hc => ?_)
  refine j_iconst (v := 0) x dJ6_stringSize_0f7a4_6 (by decide) ?_
  refine j_istore_n x dJ6_stringSize_0f7a4_7 (by decide) rfl ?_
  refine j_iload_n x dJ6_stringSize_0f7a4_8 rfl ?_
  refine j_ineg x dJ6_stringSize_0f7a4_9 ?_
  refine j_istore_n x dJ6_stringSize_0f7a4_10 (by decide) rfl ?_
  refine j_bipush (v := (-10)) x dJ6_stringSize_0f7a4_11 (by decide) ?_
  refine j_istore_n x dJ6_stringSize_0f7a4_13 (by decide) rfl ?_
  refine j_iconst (v := 1) x dJ6_stringSize_0f7a4_14 (by decide) ?_
  refine j_istore_n x dJ6_stringSize_0f7a4_15 (by decide) rfl ?_
  refine j_iload_n x dJ6_stringSize_0f7a4_16 rfl ?_
  refine j_bipush (v := 10) x dJ6_stringSize_0f7a4_17 (by decide) ?_
  refine j_icmp_ge (tgt := 42) x dJ6_stringSize_0f7a4_19 (by decide) (fun hc => absurd hc (by decide)) (fun hc => ?_)
  refine j_iload_n x dJ6_stringSize_0f7a4_22 rfl ?_
  refine j_iload_n x dJ6_stringSize_0f7a4_23 rfl ?_
  refine j_icmp_le (tgt := 31) x dJ6_stringSize_0f7a4_24 (by decide) (fun hc => ?_) (fun hc => absurd ((neg_le (v := v) (by omega) (k := 10) (by decide)).mpr (by omega)) hc)
  refine j_bipush (v := 10) x dJ6_stringSize_0f7a4_31 (by decide) ?_
  refine j_iload_n x dJ6_stringSize_0f7a4_33 rfl ?_
  refine j_imul x dJ6_stringSize_0f7a4_34 ?_; rw [show (10 : Int32) * -10 = -100 from by decide]
  refine j_istore_n x dJ6_stringSize_0f7a4_35 (by decide) rfl ?_
  refine j_iinc x dJ6_stringSize_0f7a4_36 rfl (by decide) rfl ?_
  refine j_goto (tgt := 16) x dJ6_stringSize_0f7a4_39 (by decide) ?_
  refine j_iload_n x dJ6_stringSize_0f7a4_16 rfl ?_
  refine j_bipush (v := 10) x dJ6_stringSize_0f7a4_17 (by decide) ?_
  refine j_icmp_ge (tgt := 42) x dJ6_stringSize_0f7a4_19 (by decide) (fun hc => absurd hc (by decide)) (fun hc => ?_)
  refine j_iload_n x dJ6_stringSize_0f7a4_22 rfl ?_
  refine j_iload_n x dJ6_stringSize_0f7a4_23 rfl ?_
  refine j_icmp_le (tgt := 31) x dJ6_stringSize_0f7a4_24 (by decide) (fun hc => ?_) (fun hc => absurd ((neg_le (v := v) (by omega) (k := 100) (by decide)).mpr (by omega)) hc)
  refine j_bipush (v := 10) x dJ6_stringSize_0f7a4_31 (by decide) ?_
  refine j_iload_n x dJ6_stringSize_0f7a4_33 rfl ?_
  refine j_imul x dJ6_stringSize_0f7a4_34 ?_; rw [show (10 : Int32) * -100 = -1000 from by decide]
  refine j_istore_n x dJ6_stringSize_0f7a4_35 (by decide) rfl ?_
  refine j_iinc x dJ6_stringSize_0f7a4_36 rfl (by decide) rfl ?_
  refine j_goto (tgt := 16) x dJ6_stringSize_0f7a4_39 (by decide) ?_
  refine j_iload_n x dJ6_stringSize_0f7a4_16 rfl ?_
  refine j_bipush (v := 10) x dJ6_stringSize_0f7a4_17 (by decide) ?_
  refine j_icmp_ge (tgt := 42) x dJ6_stringSize_0f7a4_19 (by decide) (fun hc => absurd hc (by decide)) (fun hc => ?_)
  refine j_iload_n x dJ6_stringSize_0f7a4_22 rfl ?_
  refine j_iload_n x dJ6_stringSize_0f7a4_23 rfl ?_
  refine j_icmp_le (tgt := 31) x dJ6_stringSize_0f7a4_24 (by decide) (fun hc => absurd hc (fun q => absurd ((neg_le (v := v) (by omega) (k := 1000) (by decide)).mp q) (by omega))) (fun hc => ?_)
  refine j_iload_n x dJ6_stringSize_0f7a4_27 rfl ?_
  refine j_iload_n x dJ6_stringSize_0f7a4_28 rfl ?_
  refine j_iadd x dJ6_stringSize_0f7a4_29 ?_
  exact j_ireturn x hr dJ6_stringSize_0f7a4_30 (by omega) (by omega) ⟨congrArg (fun z => Sum.inl (some (Value.int z))) (by decide), rfl⟩
theorem c_stringSize_4 {d : Nat} {b : SBt} {Y : OUt} {M : MM} (hb : 104 ≤ b.2.1) {v : Nat} (h0 : 1000 ≤ v) (hv : v < 10000) : CM (d) 0 0 yJ6_stringSize_0f7a4 cJ6_stringSize_0f7a4 4 (some .int) [.int (nI v)] b Y M (.inl (some (.int (nI 4)))) (M) := by
  refine Con.of (by decide +kernel) (Nat.le_of_ble_eq_true rfl) rfl fun p l e s m args below meth c D tyc A ad0 x hr htab hname => ?_
  change JJ _ _ _ _ _ _ _ _ _ _ _ _ _ _ _ _ _ 0 [some (.int (nI v)), none, none, none] [] _ 0 0
  refine j_iconst (v := 1) x dJ6_stringSize_0f7a4_0 (by decide) ?_
  refine j_istore_n x dJ6_stringSize_0f7a4_1 (by decide) rfl ?_
  refine j_iload_n x dJ6_stringSize_0f7a4_2 rfl ?_
  refine j_if_lt (tgt := 11) x dJ6_stringSize_0f7a4_3 (by decide) (fun hc => absurd hc (nI_pos (by omega))) (fun hc => ?_)
  refine j_iconst (v := 0) x dJ6_stringSize_0f7a4_6 (by decide) ?_
  refine j_istore_n x dJ6_stringSize_0f7a4_7 (by decide) rfl ?_
  refine j_iload_n x dJ6_stringSize_0f7a4_8 rfl ?_
  refine j_ineg x dJ6_stringSize_0f7a4_9 ?_
  refine j_istore_n x dJ6_stringSize_0f7a4_10 (by decide) rfl ?_
  refine j_bipush (v := (-10)) x dJ6_stringSize_0f7a4_11 (by decide) ?_
  refine j_istore_n x dJ6_stringSize_0f7a4_13 (by decide) rfl ?_
  refine j_iconst (v := 1) x dJ6_stringSize_0f7a4_14 (by decide) ?_
  refine j_istore_n x dJ6_stringSize_0f7a4_15 (by decide) rfl ?_
  refine j_iload_n x dJ6_stringSize_0f7a4_16 rfl ?_
  refine j_bipush (v := 10) x dJ6_stringSize_0f7a4_17 (by decide) ?_
  refine j_icmp_ge (tgt := 42) x dJ6_stringSize_0f7a4_19 (by decide) (fun hc => absurd hc (by decide)) (fun hc => ?_)
  refine j_iload_n x dJ6_stringSize_0f7a4_22 rfl ?_
  refine j_iload_n x dJ6_stringSize_0f7a4_23 rfl ?_
  refine j_icmp_le (tgt := 31) x dJ6_stringSize_0f7a4_24 (by decide) (fun hc => ?_) (fun hc => absurd ((neg_le (v := v) (by omega) (k := 10) (by decide)).mpr (by omega)) hc)
  refine j_bipush (v := 10) x dJ6_stringSize_0f7a4_31 (by decide) ?_
  refine j_iload_n x dJ6_stringSize_0f7a4_33 rfl ?_
  refine j_imul x dJ6_stringSize_0f7a4_34 ?_; rw [show (10 : Int32) * -10 = -100 from by decide]
  refine j_istore_n x dJ6_stringSize_0f7a4_35 (by decide) rfl ?_
  refine j_iinc x dJ6_stringSize_0f7a4_36 rfl (by decide) rfl ?_
  refine j_goto (tgt := 16) x dJ6_stringSize_0f7a4_39 (by decide) ?_
  refine j_iload_n x dJ6_stringSize_0f7a4_16 rfl ?_
  refine j_bipush (v := 10) x dJ6_stringSize_0f7a4_17 (by decide) ?_
  refine j_icmp_ge (tgt := 42) x dJ6_stringSize_0f7a4_19 (by decide) (fun hc => absurd hc (by decide)) (fun hc => ?_)
  refine j_iload_n x dJ6_stringSize_0f7a4_22 rfl ?_
  refine j_iload_n x dJ6_stringSize_0f7a4_23 rfl ?_
  refine j_icmp_le (tgt := 31) x dJ6_stringSize_0f7a4_24 (by decide) (fun hc => ?_) (fun hc => absurd ((neg_le (v := v) (by omega) (k := 100) (by decide)).mpr (by omega)) hc)
  refine j_bipush (v := 10) x dJ6_stringSize_0f7a4_31 (by decide) ?_
  refine j_iload_n x dJ6_stringSize_0f7a4_33 rfl ?_
  refine j_imul x dJ6_stringSize_0f7a4_34 ?_; rw [show (10 : Int32) * -100 = -1000 from by decide]
  refine j_istore_n x dJ6_stringSize_0f7a4_35 (by decide) rfl ?_
  refine j_iinc x dJ6_stringSize_0f7a4_36 rfl (by decide) rfl ?_
  refine j_goto (tgt := 16) x dJ6_stringSize_0f7a4_39 (by decide) ?_
  refine j_iload_n x dJ6_stringSize_0f7a4_16 rfl ?_
  refine j_bipush (v := 10) x dJ6_stringSize_0f7a4_17 (by decide) ?_
  refine j_icmp_ge (tgt := 42) x dJ6_stringSize_0f7a4_19 (by decide) (fun hc => absurd hc (by decide)) (fun hc => ?_)
  refine j_iload_n x dJ6_stringSize_0f7a4_22 rfl ?_
  refine j_iload_n x dJ6_stringSize_0f7a4_23 rfl ?_
  refine j_icmp_le (tgt := 31) x dJ6_stringSize_0f7a4_24 (by decide) (fun hc => ?_) (fun hc => absurd ((neg_le (v := v) (by omega) (k := 1000) (by decide)).mpr (by omega)) hc)
  refine j_bipush (v := 10) x dJ6_stringSize_0f7a4_31 (by decide) ?_
  refine j_iload_n x dJ6_stringSize_0f7a4_33 rfl ?_
  refine j_imul x dJ6_stringSize_0f7a4_34 ?_; rw [show (10 : Int32) * -1000 = -10000 from by decide]
  refine j_istore_n x dJ6_stringSize_0f7a4_35 (by decide) rfl ?_
  refine j_iinc x dJ6_stringSize_0f7a4_36 rfl (by decide) rfl ?_
  refine j_goto (tgt := 16) x dJ6_stringSize_0f7a4_39 (by decide) ?_
  refine j_iload_n x dJ6_stringSize_0f7a4_16 rfl ?_
  refine j_bipush (v := 10) x dJ6_stringSize_0f7a4_17 (by decide) ?_
  refine j_icmp_ge (tgt := 42) x dJ6_stringSize_0f7a4_19 (by decide) (fun hc => absurd hc (by decide)) (fun hc => ?_)
  refine j_iload_n x dJ6_stringSize_0f7a4_22 rfl ?_
  refine j_iload_n x dJ6_stringSize_0f7a4_23 rfl ?_
  refine j_icmp_le (tgt := 31) x dJ6_stringSize_0f7a4_24 (by decide) (fun hc => absurd hc (fun q => absurd ((neg_le (v := v) (by omega) (k := 10000) (by decide)).mp q) (by omega))) (fun hc => ?_)
  refine j_iload_n x dJ6_stringSize_0f7a4_27 rfl ?_
  refine j_iload_n x dJ6_stringSize_0f7a4_28 rfl ?_
  refine j_iadd x dJ6_stringSize_0f7a4_29 ?_
  exact j_ireturn x hr dJ6_stringSize_0f7a4_30 (by omega) (by omega) ⟨congrArg (fun z => Sum.inl (some (Value.int z))) (by decide), rfl⟩
theorem c_stringSize {d : Nat} {b : SBt} {Y : OUt} {M : MM} (hb : 104 ≤ b.2.1) {v : Nat} (hv : v < 10000) : CM d 0 0 yJ6_stringSize_0f7a4 cJ6_stringSize_0f7a4 4 (some .int) [.int (nI v)] b Y M (.inl (some (.int (nI (dg v))))) M := by
  unfold dg
  split
  · exact c_stringSize_1 hb (by omega)
  · split
    · exact c_stringSize_2 hb (by omega) (by omega)
    · split
      · exact c_stringSize_3 hb (by omega) (by omega)
      · exact c_stringSize_4 hb (by omega) (by omega)
theorem nI_dn3 {e : Nat} (h : 0 < e) : nI e + Int32.ofInt (-1) = nI (e - 1) := by
  obtain ⟨k, rfl⟩ : ∃ k, e = k + 1 := ⟨e - 1, by omega⟩
  exact nI_dn2 k
theorem neg_lt {v k : Nat} (hv : v < 2 ^ 31) (hk : k < 2 ^ 31) : -nI k < -nI v ↔ v < k := by
  rw [← Int32.not_le, neg_le hv hk]; omega
theorem shl0 (v : Int32) : v <<< ((0 : Int32) &&& 31) = v := by rw [show (0 : Int32) &&& 31 = 0 from by decide]; exact Int32.shiftLeft_zero
theorem shr0 (v : Int32) : v >>> ((0 : Int32) &&& 31) = v := by rw [show (0 : Int32) &&& 31 = 0 from by decide]; exact Int32.shiftRight_zero
theorem nI_subS {a d : Nat} (h : d ≤ a) : nI a - nI d = nI (a - d) := nI_sub h
theorem c_getChars_1 {d : Nat} {b : SBt} {Y : OUt} {M : MM} (hb : 104 ≤ b.2.1) {v e1 n : Nat} (hI : sbI b M n) (hn : n < 1000) (he : 1 ≤ e1) (hen : e1 ≤ n) (hv : v < 10) : CM (d) 0 0 yJ6_getChars_ba4f3 cJ6_getChars_ba4f3 7 (some .int) [.int (nI v), .int (nI e1), .ref b.1] b Y M (.inl (some (.int (nI (e1 - 1))))) (jm (M) b.1 (e1 - 1) (vp_nar .byte (j_ones (v)))) := by
  refine Con.of (by decide +kernel) (Nat.le_of_ble_eq_true rfl) rfl fun p l e s m args below meth c D tyc A ad0 x hr htab hname => ?_
  change JJ _ _ _ _ _ _ _ _ _ _ _ _ _ _ _ _ _ 0 [some (.int (nI v)), some (.int (nI e1)), some (.ref b.1), none, none, none, none] [] _ 0 0
  obtain ⟨hB, hlt, -, hl, -⟩ := hI
  obtain ⟨ta, hZa, hTa⟩ := j_tabT x.2.2.2.2.2.2.2.2.2.2.2.2.2.2.2.2.2.1
  obtain ⟨tb, hZb, hTb⟩ := j_tabT x.2.2.2.2.2.2.2.2.2.2.2.2.2.2.2.2.2.2
  refine j_iload_n x dJ6_getChars_ba4f3_0 rfl ?_
  refine j_istore x dJ6_getChars_ba4f3_1 (by decide) rfl ?_
  refine j_iload_n x dJ6_getChars_ba4f3_3 rfl ?_
  refine j_if_ge (tgt := 11) x dJ6_getChars_ba4f3_4 (by decide) (fun hc => ?_) (fun hc => absurd (nI_pos' (by omega)) hc)
  refine j_iconst (v := 0) x dJ6_getChars_ba4f3_11 (by decide) ?_
  refine j_istore x dJ6_getChars_ba4f3_12 (by decide) rfl ?_
  refine j_iload x dJ6_getChars_ba4f3_14 rfl ?_
  refine j_if_ne (tgt := 22) x dJ6_getChars_ba4f3_16 (by decide) (fun hc => absurd hc (fun q => q rfl)) (fun hc => ?_)
  refine j_iload_n x dJ6_getChars_ba4f3_19 rfl ?_
  refine j_ineg x dJ6_getChars_ba4f3_20 ?_
  refine j_istore_n x dJ6_getChars_ba4f3_21 (by decide) rfl ?_
  refine j_iload_n x dJ6_getChars_ba4f3_22 rfl ?_
  refine j_bipush (v := (-100)) x dJ6_getChars_ba4f3_23 (by decide) ?_
  refine j_icmp_gt (tgt := 72) x dJ6_getChars_ba4f3_25 (by decide) (fun hc => ?_) (fun hc => absurd ((neg_lt (v := v) (by omega) (k := 100) (by decide)).mpr (by omega)) hc)
  refine j_aload_n x dJ6_getChars_ba4f3_72 rfl ?_
  refine j_iinc x dJ6_getChars_ba4f3_73 rfl (by decide) rfl ?_; rw [nI_dn3 (by omega)]
  refine j_iload x dJ6_getChars_ba4f3_76 rfl ?_
  refine j_getsR x dJ6_getChars_ba4f3_78 hZa wfJ6_83 ?_
  refine j_iload_n x dJ6_getChars_ba4f3_81 rfl ?_
  refine j_ineg x dJ6_getChars_ba4f3_82 ?_; rw [Int32.neg_neg]
  refine j_tld x hTa (k := v) (by omega) dJ6_getChars_ba4f3_83 ?_
  refine j2_bst x hB hlt hl dJ6_getChars_ba4f3_84 (vp_in_nI (by omega) (by omega)) rfl ?_; rw [nI_clamp (by omega)]
  refine j_iload_n x dJ6_getChars_ba4f3_85 rfl ?_
  refine j_bipush (v := (-9)) x dJ6_getChars_ba4f3_86 (by decide) ?_
  refine j_icmp_ge (tgt := 104) x dJ6_getChars_ba4f3_88 (by decide) (fun hc => ?_) (fun hc => absurd ((neg_le (v := 9) (by decide) (k := v) (by omega)).mpr (by omega)) hc)
  refine j_iload x dJ6_getChars_ba4f3_104 rfl ?_
  refine j_if_eq (tgt := 118) x dJ6_getChars_ba4f3_106 (by decide) (fun hc => ?_) (fun hc => absurd (rfl) hc)
  refine j_iload x dJ6_getChars_ba4f3_118 rfl ?_
  exact j_ireturn x hr dJ6_getChars_ba4f3_120 (by omega) (by omega) ⟨rfl, rfl⟩
theorem c_getChars_2 {d : Nat} {b : SBt} {Y : OUt} {M : MM} (hb : 104 ≤ b.2.1) {v e1 n : Nat} (hI : sbI b M n) (hn : n < 1000) (he : 2 ≤ e1) (hen : e1 ≤ n) (h0 : 10 ≤ v) (hv : v < 100) : CM (d) 0 0 yJ6_getChars_ba4f3 cJ6_getChars_ba4f3 7 (some .int) [.int (nI v), .int (nI e1), .ref b.1] b Y M (.inl (some (.int (nI (e1 - 1 - 1))))) (jm (jm (M) b.1 (e1 - 1) (vp_nar .byte (j_ones (v)))) b.1 (e1 - 1 - 1) (vp_nar .byte (j_tens (v)))) := by
  refine Con.of (by decide +kernel) (Nat.le_of_ble_eq_true rfl) rfl fun p l e s m args below meth c D tyc A ad0 x hr htab hname => ?_
  change JJ _ _ _ _ _ _ _ _ _ _ _ _ _ _ _ _ _ 0 [some (.int (nI v)), some (.int (nI e1)), some (.ref b.1), none, none, none, none] [] _ 0 0
  obtain ⟨hB, hlt, -, hl, -⟩ := hI
  obtain ⟨ta, hZa, hTa⟩ := j_tabT x.2.2.2.2.2.2.2.2.2.2.2.2.2.2.2.2.2.1
  obtain ⟨tb, hZb, hTb⟩ := j_tabT x.2.2.2.2.2.2.2.2.2.2.2.2.2.2.2.2.2.2
  refine j_iload_n x dJ6_getChars_ba4f3_0 rfl ?_
  refine j_istore x dJ6_getChars_ba4f3_1 (by decide) rfl ?_
  refine j_iload_n x dJ6_getChars_ba4f3_3 rfl ?_
  refine j_if_ge (tgt := 11) x dJ6_getChars_ba4f3_4 (by decide) (fun hc => ?_) (fun hc => absurd (nI_pos' (by omega)) hc)
  refine j_iconst (v := 0) x dJ6_getChars_ba4f3_11 (by decide) ?_
  refine j_istore x dJ6_getChars_ba4f3_12 (by decide) rfl ?_
  refine j_iload x dJ6_getChars_ba4f3_14 rfl ?_
  refine j_if_ne (tgt := 22) x dJ6_getChars_ba4f3_16 (by decide) (fun hc => absurd hc (fun q => q rfl)) (fun hc => ?_)
  refine j_iload_n x dJ6_getChars_ba4f3_19 rfl ?_
  refine j_ineg x dJ6_getChars_ba4f3_20 ?_
  refine j_istore_n x dJ6_getChars_ba4f3_21 (by decide) rfl ?_
  refine j_iload_n x dJ6_getChars_ba4f3_22 rfl ?_
  refine j_bipush (v := (-100)) x dJ6_getChars_ba4f3_23 (by decide) ?_
  refine j_icmp_gt (tgt := 72) x dJ6_getChars_ba4f3_25 (by decide) (fun hc => ?_) (fun hc => absurd ((neg_lt (v := v) (by omega) (k := 100) (by decide)).mpr (by omega)) hc)
  refine j_aload_n x dJ6_getChars_ba4f3_72 rfl ?_
  refine j_iinc x dJ6_getChars_ba4f3_73 rfl (by decide) rfl ?_; rw [nI_dn3 (by omega)]
  refine j_iload x dJ6_getChars_ba4f3_76 rfl ?_
  refine j_getsR x dJ6_getChars_ba4f3_78 hZa wfJ6_83 ?_
  refine j_iload_n x dJ6_getChars_ba4f3_81 rfl ?_
  refine j_ineg x dJ6_getChars_ba4f3_82 ?_; rw [Int32.neg_neg]
  refine j_tld x hTa (k := v) (by omega) dJ6_getChars_ba4f3_83 ?_
  refine j2_bst x hB hlt hl dJ6_getChars_ba4f3_84 (vp_in_nI (by omega) (by omega)) rfl ?_; rw [nI_clamp (by omega)]
  refine j_iload_n x dJ6_getChars_ba4f3_85 rfl ?_
  refine j_bipush (v := (-9)) x dJ6_getChars_ba4f3_86 (by decide) ?_
  refine j_icmp_ge (tgt := 104) x dJ6_getChars_ba4f3_88 (by decide) (fun hc => absurd hc (fun q => absurd ((neg_le (v := 9) (by decide) (k := v) (by omega)).mp q) (by omega))) (fun hc => ?_)
  refine j_aload_n x dJ6_getChars_ba4f3_91 rfl ?_
  refine j_iinc x dJ6_getChars_ba4f3_92 rfl (by decide) rfl ?_; rw [nI_dn3 (by omega)]
  refine j_iload x dJ6_getChars_ba4f3_95 rfl ?_
  refine j_getsR x dJ6_getChars_ba4f3_97 hZb wfJ6_87 ?_
  refine j_iload_n x dJ6_getChars_ba4f3_100 rfl ?_
  refine j_ineg x dJ6_getChars_ba4f3_101 ?_; rw [Int32.neg_neg]
  refine j_tld x hTb (k := v) (by omega) dJ6_getChars_ba4f3_102 ?_
  refine j2_bst x hB hlt hl dJ6_getChars_ba4f3_103 (vp_in_nI (by omega) (by omega)) rfl ?_; rw [nI_clamp (by omega)]
  refine j_iload x dJ6_getChars_ba4f3_104 rfl ?_
  refine j_if_eq (tgt := 118) x dJ6_getChars_ba4f3_106 (by decide) (fun hc => ?_) (fun hc => absurd (rfl) hc)
  refine j_iload x dJ6_getChars_ba4f3_118 rfl ?_
  exact j_ireturn x hr dJ6_getChars_ba4f3_120 (by omega) (by omega) ⟨rfl, rfl⟩
theorem c_getChars_3 {d : Nat} {b : SBt} {Y : OUt} {M : MM} (hb : 104 ≤ b.2.1) {v e1 n : Nat} (hI : sbI b M n) (hn : n < 1000) (he : 3 ≤ e1) (hen : e1 ≤ n) (h0 : 100 ≤ v) (hv : v < 1000) : CM (d) 0 0 yJ6_getChars_ba4f3 cJ6_getChars_ba4f3 7 (some .int) [.int (nI v), .int (nI e1), .ref b.1] b Y M (.inl (some (.int (nI (e1 - 1 - 1 - 1))))) (jm (jm (jm (M) b.1 (e1 - 1) (vp_nar .byte (j_ones (v % 100)))) b.1 (e1 - 1 - 1) (vp_nar .byte (j_tens (v % 100)))) b.1 (e1 - 1 - 1 - 1) (vp_nar .byte (j_ones (v / 100)))) := by
  refine Con.of (by decide +kernel) (Nat.le_of_ble_eq_true rfl) rfl fun p l e s m args below meth c D tyc A ad0 x hr htab hname => ?_
  change JJ _ _ _ _ _ _ _ _ _ _ _ _ _ _ _ _ _ 0 [some (.int (nI v)), some (.int (nI e1)), some (.ref b.1), none, none, none, none] [] _ 0 0
  obtain ⟨hB, hlt, -, hl, -⟩ := hI
  obtain ⟨ta, hZa, hTa⟩ := j_tabT x.2.2.2.2.2.2.2.2.2.2.2.2.2.2.2.2.2.1
  obtain ⟨tb, hZb, hTb⟩ := j_tabT x.2.2.2.2.2.2.2.2.2.2.2.2.2.2.2.2.2.2
  refine j_iload_n x dJ6_getChars_ba4f3_0 rfl ?_
  refine j_istore x dJ6_getChars_ba4f3_1 (by decide) rfl ?_
  refine j_iload_n x dJ6_getChars_ba4f3_3 rfl ?_
  refine j_if_ge (tgt := 11) x dJ6_getChars_ba4f3_4 (by decide) (fun hc => ?_) (fun hc => absurd (nI_pos' (by omega)) hc)
  refine j_iconst (v := 0) x dJ6_getChars_ba4f3_11 (by decide) ?_
  refine j_istore x dJ6_getChars_ba4f3_12 (by decide) rfl ?_
  refine j_iload x dJ6_getChars_ba4f3_14 rfl ?_
  refine j_if_ne (tgt := 22) x dJ6_getChars_ba4f3_16 (by decide) (fun hc => absurd hc (fun q => q rfl)) (fun hc => ?_)
  refine j_iload_n x dJ6_getChars_ba4f3_19 rfl ?_
  refine j_ineg x dJ6_getChars_ba4f3_20 ?_
  refine j_istore_n x dJ6_getChars_ba4f3_21 (by decide) rfl ?_
  refine j_iload_n x dJ6_getChars_ba4f3_22 rfl ?_
  refine j_bipush (v := (-100)) x dJ6_getChars_ba4f3_23 (by decide) ?_
  refine j_icmp_gt (tgt := 72) x dJ6_getChars_ba4f3_25 (by decide) (fun hc => absurd hc (fun q => absurd ((neg_lt (v := v) (by omega) (k := 100) (by decide)).mp q) (by omega))) (fun hc => ?_)
  refine j_iload_n x dJ6_getChars_ba4f3_28 rfl ?_
  refine j_bipush (v := 100) x dJ6_getChars_ba4f3_29 (by decide) ?_
  refine j_idiv x dJ6_getChars_ba4f3_31 (by decide) ?_; rw [neg_div100 (by omega)]
  refine j_istore_n x dJ6_getChars_ba4f3_32 (by decide) rfl ?_
  refine j_iload_n x dJ6_getChars_ba4f3_33 rfl ?_
  refine j_bipush (v := 100) x dJ6_getChars_ba4f3_34 (by decide) ?_
  refine j_imul x dJ6_getChars_ba4f3_36 ?_
  refine j_iload_n x dJ6_getChars_ba4f3_37 rfl ?_
  refine j_isub x dJ6_getChars_ba4f3_38 ?_; rw [neg_mod100 (by omega)]
  refine j_istore x dJ6_getChars_ba4f3_39 (by decide) rfl ?_
  refine j_iload_n x dJ6_getChars_ba4f3_41 rfl ?_
  refine j_istore_n x dJ6_getChars_ba4f3_42 (by decide) rfl ?_
  refine j_aload_n x dJ6_getChars_ba4f3_43 rfl ?_
  refine j_iinc x dJ6_getChars_ba4f3_44 rfl (by decide) rfl ?_; rw [nI_dn3 (by omega)]
  refine j_iload x dJ6_getChars_ba4f3_47 rfl ?_
  refine j_getsR x dJ6_getChars_ba4f3_49 hZa wfJ6_83 ?_
  refine j_iload x dJ6_getChars_ba4f3_52 rfl ?_
  refine j_tld x hTa (k := v % 100) (by omega) dJ6_getChars_ba4f3_54 ?_
  refine j2_bst x hB hlt hl dJ6_getChars_ba4f3_55 (vp_in_nI (by omega) (by omega)) rfl ?_; rw [nI_clamp (by omega)]
  refine j_aload_n x dJ6_getChars_ba4f3_56 rfl ?_
  refine j_iinc x dJ6_getChars_ba4f3_57 rfl (by decide) rfl ?_; rw [nI_dn3 (by omega)]
  refine j_iload x dJ6_getChars_ba4f3_60 rfl ?_
  refine j_getsR x dJ6_getChars_ba4f3_62 hZb wfJ6_87 ?_
  refine j_iload x dJ6_getChars_ba4f3_65 rfl ?_
  refine j_tld x hTb (k := v % 100) (by omega) dJ6_getChars_ba4f3_67 ?_
  refine j2_bst x hB hlt hl dJ6_getChars_ba4f3_68 (vp_in_nI (by omega) (by omega)) rfl ?_; rw [nI_clamp (by omega)]
  refine j_goto (tgt := 22) x dJ6_getChars_ba4f3_69 (by decide) ?_
  refine j_iload_n x dJ6_getChars_ba4f3_22 rfl ?_
  refine j_bipush (v := (-100)) x dJ6_getChars_ba4f3_23 (by decide) ?_
  refine j_icmp_gt (tgt := 72) x dJ6_getChars_ba4f3_25 (by decide) (fun hc => ?_) (fun hc => absurd ((neg_lt (v := v / 100) (by omega) (k := 100) (by decide)).mpr (by omega)) hc)
  refine j_aload_n x dJ6_getChars_ba4f3_72 rfl ?_
  refine j_iinc x dJ6_getChars_ba4f3_73 rfl (by decide) rfl ?_; rw [nI_dn3 (by omega)]
  refine j_iload x dJ6_getChars_ba4f3_76 rfl ?_
  refine j_getsR x dJ6_getChars_ba4f3_78 hZa wfJ6_83 ?_
  refine j_iload_n x dJ6_getChars_ba4f3_81 rfl ?_
  refine j_ineg x dJ6_getChars_ba4f3_82 ?_; rw [Int32.neg_neg]
  refine j_tld x hTa (k := v / 100) (by omega) dJ6_getChars_ba4f3_83 ?_
  refine j2_bst x hB hlt hl dJ6_getChars_ba4f3_84 (vp_in_nI (by omega) (by omega)) rfl ?_; rw [nI_clamp (by omega)]
  refine j_iload_n x dJ6_getChars_ba4f3_85 rfl ?_
  refine j_bipush (v := (-9)) x dJ6_getChars_ba4f3_86 (by decide) ?_
  refine j_icmp_ge (tgt := 104) x dJ6_getChars_ba4f3_88 (by decide) (fun hc => ?_) (fun hc => absurd ((neg_le (v := 9) (by decide) (k := v / 100) (by omega)).mpr (by omega)) hc)
  refine j_iload x dJ6_getChars_ba4f3_104 rfl ?_
  refine j_if_eq (tgt := 118) x dJ6_getChars_ba4f3_106 (by decide) (fun hc => ?_) (fun hc => absurd (rfl) hc)
  refine j_iload x dJ6_getChars_ba4f3_118 rfl ?_
  exact j_ireturn x hr dJ6_getChars_ba4f3_120 (by omega) (by omega) ⟨rfl, rfl⟩
theorem c_getChars_4 {d : Nat} {b : SBt} {Y : OUt} {M : MM} (hb : 104 ≤ b.2.1) {v e1 n : Nat} (hI : sbI b M n) (hn : n < 1000) (he : 4 ≤ e1) (hen : e1 ≤ n) (h0 : 1000 ≤ v) (hv : v < 10000) : CM (d) 0 0 yJ6_getChars_ba4f3 cJ6_getChars_ba4f3 7 (some .int) [.int (nI v), .int (nI e1), .ref b.1] b Y M (.inl (some (.int (nI (e1 - 1 - 1 - 1 - 1))))) (jm (jm (jm (jm (M) b.1 (e1 - 1) (vp_nar .byte (j_ones (v % 100)))) b.1 (e1 - 1 - 1) (vp_nar .byte (j_tens (v % 100)))) b.1 (e1 - 1 - 1 - 1) (vp_nar .byte (j_ones (v / 100)))) b.1 (e1 - 1 - 1 - 1 - 1) (vp_nar .byte (j_tens (v / 100)))) := by
  refine Con.of (by decide +kernel) (Nat.le_of_ble_eq_true rfl) rfl fun p l e s m args below meth c D tyc A ad0 x hr htab hname => ?_
  change JJ _ _ _ _ _ _ _ _ _ _ _ _ _ _ _ _ _ 0 [some (.int (nI v)), some (.int (nI e1)), some (.ref b.1), none, none, none, none] [] _ 0 0
  obtain ⟨hB, hlt, -, hl, -⟩ := hI
  obtain ⟨ta, hZa, hTa⟩ := j_tabT x.2.2.2.2.2.2.2.2.2.2.2.2.2.2.2.2.2.1
  obtain ⟨tb, hZb, hTb⟩ := j_tabT x.2.2.2.2.2.2.2.2.2.2.2.2.2.2.2.2.2.2
  refine j_iload_n x dJ6_getChars_ba4f3_0 rfl ?_
  refine j_istore x dJ6_getChars_ba4f3_1 (by decide) rfl ?_
  refine j_iload_n x dJ6_getChars_ba4f3_3 rfl ?_
  refine j_if_ge (tgt := 11) x dJ6_getChars_ba4f3_4 (by decide) (fun hc => ?_) (fun hc => absurd (nI_pos' (by omega)) hc)
  refine j_iconst (v := 0) x dJ6_getChars_ba4f3_11 (by decide) ?_
  refine j_istore x dJ6_getChars_ba4f3_12 (by decide) rfl ?_
  refine j_iload x dJ6_getChars_ba4f3_14 rfl ?_
  refine j_if_ne (tgt := 22) x dJ6_getChars_ba4f3_16 (by decide) (fun hc => absurd hc (fun q => q rfl)) (fun hc => ?_)
  refine j_iload_n x dJ6_getChars_ba4f3_19 rfl ?_
  refine j_ineg x dJ6_getChars_ba4f3_20 ?_
  refine j_istore_n x dJ6_getChars_ba4f3_21 (by decide) rfl ?_
  refine j_iload_n x dJ6_getChars_ba4f3_22 rfl ?_
  refine j_bipush (v := (-100)) x dJ6_getChars_ba4f3_23 (by decide) ?_
  refine j_icmp_gt (tgt := 72) x dJ6_getChars_ba4f3_25 (by decide) (fun hc => absurd hc (fun q => absurd ((neg_lt (v := v) (by omega) (k := 100) (by decide)).mp q) (by omega))) (fun hc => ?_)
  refine j_iload_n x dJ6_getChars_ba4f3_28 rfl ?_
  refine j_bipush (v := 100) x dJ6_getChars_ba4f3_29 (by decide) ?_
  refine j_idiv x dJ6_getChars_ba4f3_31 (by decide) ?_; rw [neg_div100 (by omega)]
  refine j_istore_n x dJ6_getChars_ba4f3_32 (by decide) rfl ?_
  refine j_iload_n x dJ6_getChars_ba4f3_33 rfl ?_
  refine j_bipush (v := 100) x dJ6_getChars_ba4f3_34 (by decide) ?_
  refine j_imul x dJ6_getChars_ba4f3_36 ?_
  refine j_iload_n x dJ6_getChars_ba4f3_37 rfl ?_
  refine j_isub x dJ6_getChars_ba4f3_38 ?_; rw [neg_mod100 (by omega)]
  refine j_istore x dJ6_getChars_ba4f3_39 (by decide) rfl ?_
  refine j_iload_n x dJ6_getChars_ba4f3_41 rfl ?_
  refine j_istore_n x dJ6_getChars_ba4f3_42 (by decide) rfl ?_
  refine j_aload_n x dJ6_getChars_ba4f3_43 rfl ?_
  refine j_iinc x dJ6_getChars_ba4f3_44 rfl (by decide) rfl ?_; rw [nI_dn3 (by omega)]
  refine j_iload x dJ6_getChars_ba4f3_47 rfl ?_
  refine j_getsR x dJ6_getChars_ba4f3_49 hZa wfJ6_83 ?_
  refine j_iload x dJ6_getChars_ba4f3_52 rfl ?_
  refine j_tld x hTa (k := v % 100) (by omega) dJ6_getChars_ba4f3_54 ?_
  refine j2_bst x hB hlt hl dJ6_getChars_ba4f3_55 (vp_in_nI (by omega) (by omega)) rfl ?_; rw [nI_clamp (by omega)]
  refine j_aload_n x dJ6_getChars_ba4f3_56 rfl ?_
  refine j_iinc x dJ6_getChars_ba4f3_57 rfl (by decide) rfl ?_; rw [nI_dn3 (by omega)]
  refine j_iload x dJ6_getChars_ba4f3_60 rfl ?_
  refine j_getsR x dJ6_getChars_ba4f3_62 hZb wfJ6_87 ?_
  refine j_iload x dJ6_getChars_ba4f3_65 rfl ?_
  refine j_tld x hTb (k := v % 100) (by omega) dJ6_getChars_ba4f3_67 ?_
  refine j2_bst x hB hlt hl dJ6_getChars_ba4f3_68 (vp_in_nI (by omega) (by omega)) rfl ?_; rw [nI_clamp (by omega)]
  refine j_goto (tgt := 22) x dJ6_getChars_ba4f3_69 (by decide) ?_
  refine j_iload_n x dJ6_getChars_ba4f3_22 rfl ?_
  refine j_bipush (v := (-100)) x dJ6_getChars_ba4f3_23 (by decide) ?_
  refine j_icmp_gt (tgt := 72) x dJ6_getChars_ba4f3_25 (by decide) (fun hc => ?_) (fun hc => absurd ((neg_lt (v := v / 100) (by omega) (k := 100) (by decide)).mpr (by omega)) hc)
  refine j_aload_n x dJ6_getChars_ba4f3_72 rfl ?_
  refine j_iinc x dJ6_getChars_ba4f3_73 rfl (by decide) rfl ?_; rw [nI_dn3 (by omega)]
  refine j_iload x dJ6_getChars_ba4f3_76 rfl ?_
  refine j_getsR x dJ6_getChars_ba4f3_78 hZa wfJ6_83 ?_
  refine j_iload_n x dJ6_getChars_ba4f3_81 rfl ?_
  refine j_ineg x dJ6_getChars_ba4f3_82 ?_; rw [Int32.neg_neg]
  refine j_tld x hTa (k := v / 100) (by omega) dJ6_getChars_ba4f3_83 ?_
  refine j2_bst x hB hlt hl dJ6_getChars_ba4f3_84 (vp_in_nI (by omega) (by omega)) rfl ?_; rw [nI_clamp (by omega)]
  refine j_iload_n x dJ6_getChars_ba4f3_85 rfl ?_
  refine j_bipush (v := (-9)) x dJ6_getChars_ba4f3_86 (by decide) ?_
  refine j_icmp_ge (tgt := 104) x dJ6_getChars_ba4f3_88 (by decide) (fun hc => absurd hc (fun q => absurd ((neg_le (v := 9) (by decide) (k := v / 100) (by omega)).mp q) (by omega))) (fun hc => ?_)
  refine j_aload_n x dJ6_getChars_ba4f3_91 rfl ?_
  refine j_iinc x dJ6_getChars_ba4f3_92 rfl (by decide) rfl ?_; rw [nI_dn3 (by omega)]
  refine j_iload x dJ6_getChars_ba4f3_95 rfl ?_
  refine j_getsR x dJ6_getChars_ba4f3_97 hZb wfJ6_87 ?_
  refine j_iload_n x dJ6_getChars_ba4f3_100 rfl ?_
  refine j_ineg x dJ6_getChars_ba4f3_101 ?_; rw [Int32.neg_neg]
  refine j_tld x hTb (k := v / 100) (by omega) dJ6_getChars_ba4f3_102 ?_
  refine j2_bst x hB hlt hl dJ6_getChars_ba4f3_103 (vp_in_nI (by omega) (by omega)) rfl ?_; rw [nI_clamp (by omega)]
  refine j_iload x dJ6_getChars_ba4f3_104 rfl ?_
  refine j_if_eq (tgt := 118) x dJ6_getChars_ba4f3_106 (by decide) (fun hc => ?_) (fun hc => absurd (rfl) hc)
  refine j_iload x dJ6_getChars_ba4f3_118 rfl ?_
  exact j_ireturn x hr dJ6_getChars_ba4f3_120 (by omega) (by omega) ⟨rfl, rfl⟩
theorem c_getChars {d : Nat} {b : SBt} {Y : OUt} {M : MM} (hb : 104 ≤ b.2.1) {v e1 n : Nat} (hI : sbI b M n) (hn : n < 1000) (he : dg v ≤ e1) (hen : e1 ≤ n) (hv : v < 10000) : ∃ N w, (∀ i k, i ≠ b.1 → N i k = M i k) ∧ (∀ k, fits .byte (.int (N b.1 k)) = true) ∧ CM d 0 0 yJ6_getChars_ba4f3 cJ6_getChars_ba4f3 7 (some .int) [.int (nI v), .int (nI e1), .ref b.1] b Y M (.inl (some (.int w))) N := by
  unfold dg at he
  by_cases h1 : v < 10
  · rw [if_pos h1] at he
    exact ⟨_, _, fun i k h => by rw [jm_n (by omega)], fit_jm (hI.2.2.2.2.2), c_getChars_1 hb hI hn he hen h1⟩
  · rw [if_neg h1] at he
    by_cases h2 : v < 100
    · rw [if_pos h2] at he
      exact ⟨_, _, fun i k h => by rw [jm_n (by omega), jm_n (by omega)], fit_jm (fit_jm (hI.2.2.2.2.2)), c_getChars_2 hb hI hn he hen (by omega) h2⟩
    · rw [if_neg h2] at he
      by_cases h3 : v < 1000
      · rw [if_pos h3] at he
        exact ⟨_, _, fun i k h => by rw [jm_n (by omega), jm_n (by omega), jm_n (by omega)], fit_jm (fit_jm (fit_jm (hI.2.2.2.2.2))), c_getChars_3 hb hI hn he hen (by omega) h3⟩
      · rw [if_neg h3] at he
        exact ⟨_, _, fun i k h => by rw [jm_n (by omega), jm_n (by omega), jm_n (by omega), jm_n (by omega)], fit_jm (fit_jm (fit_jm (fit_jm (hI.2.2.2.2.2)))), c_getChars_4 hb hI hn he hen (by omega) hv⟩
theorem if_mx {a c : Nat} (ha : a < 2 ^ 31) (hc : c < 2 ^ 31) : (if nI a < nI c then nI c else nI a) = nI (if a < c then c else a) := by
  by_cases h : a < c
  · rw [if_pos h, if_pos (nI_lt h hc)]
  · rw [if_neg h, if_neg (nI_nlt (by omega) ha)]
def sbc (n m : Nat) : Nat := n + (if m - n < n + 2 then n + 2 else m - n)
theorem c_newLength {d : Nat} {b : SBt} {Y : OUt} {M : MM} (hb : 104 ≤ b.2.1) {n m1 : Nat} (hm : n < m1) (hm2 : m1 < 1000) : CM (d) 0 0 yJ8_newLength_cabcc cJ8_newLength_cabcc 4 (some .int) [.int (nI n), .int (nI (m1 - n)), .int (nI (n + 2))] b Y M (.inl (some (.int (nI (sbc n m1))))) (M) := by
  have hc1 : 0 < sbc n m1 ∧ sbc n m1 < 3000 := by unfold sbc; split <;> omega
  obtain ⟨hc1, hc2⟩ := hc1
  refine Con.of (by decide +kernel) (Nat.le_of_ble_eq_true rfl) rfl fun p l e s m args below meth c D tyc A ad0 x hr htab hname => ?_
  change JJ _ _ _ _ _ _ _ _ _ _ _ _ _ _ _ _ _ 0 [some (.int (nI n)), some (.int (nI (m1 - n))), some (.int (nI (n + 2))), none] [] _ 0 0
  refine j_iload_n x dJ8_newLength_cabcc_0 rfl ?_
  refine j_iload_n x dJ8_newLength_cabcc_1 rfl ?_
  refine j_iload_n x dJ8_newLength_cabcc_2 rfl ?_
  refine j_max x wmath dJ8_newLength_cabcc_3 wmJ8_194 (Nat.le_of_ble_eq_true rfl) (Nat.zero_le _) (Nat.zero_le _) ?_; rw [if_mx (show m1 - n < 2 ^ 31 by omega) (show n + 2 < 2 ^ 31 by omega)]
  refine j_iadd x dJ8_newLength_cabcc_6 ?_; rw [nI_add, show n + (if m1 - n < n + 2 then n + 2 else m1 - n) = sbc n m1 from rfl]
  refine j_istore_n x dJ8_newLength_cabcc_7 (by decide) rfl ?_
  refine j_iconst (v := 0) x dJ8_newLength_cabcc_8 (by decide) ?_
  refine j_iload_n x dJ8_newLength_cabcc_9 rfl ?_
  refine j_icmp_ge (tgt := 21) x dJ8_newLength_cabcc_10 (by decide) (fun hc => absurd hc (nI_nle hc1 (by omega))) (fun hc => ?_)
  refine j_iload_n x dJ8_newLength_cabcc_13 rfl ?_
  refine j_ldci x dJ8_newLength_cabcc_14 wkJ8_200 ?_
  refine j_icmp_gt (tgt := 21) x dJ8_newLength_cabcc_16 (by decide) (fun hc => absurd hc (show ¬ nI 2147483639 < nI (sbc n m1) from nI_nlt (by omega) (by decide))) (fun hc => ?_)
  refine j_iload_n x dJ8_newLength_cabcc_19 rfl ?_
  exact j_ireturn x hr dJ8_newLength_cabcc_20 (by omega) (by omega) ⟨rfl, rfl⟩
theorem c_newCapacity {d : Nat} {b : SBt} {Y : OUt} {M : MM} (hb : 104 ≤ b.2.1) {n : Nat} (hI : sbI b M n) {m1 : Nat} (hm : n < m1) (hm2 : m1 < 1000) : CM (d + 1) 0 0 yJ5_newCapacity_0f7a4 cJ5_newCapacity_0f7a4 6 (some .int) [.ref 92, .int (nI m1)] b Y M (.inl (some (.int (nI (sbc n m1))))) (M) := by
  have hc1 : 0 < sbc n m1 ∧ sbc n m1 < 3000 := by unfold sbc; split <;> omega
  refine Con.of (by decide +kernel) (Nat.le_of_ble_eq_true rfl) rfl fun p l e s m args below meth c D tyc A ad0 x hr htab hname => ?_
  change JJ _ _ _ _ _ _ _ _ _ _ _ _ _ _ _ _ _ 0 [some (.ref 92), some (.int (nI m1)), none, none, none, none] [] _ 0 0
  refine j_aload_n x dJ5_newCapacity_0f7a4_0 rfl ?_
  refine j2_vget x hb dJ5_newCapacity_0f7a4_1 wfJ5_15 ?_
  refine j2_blen x hI.1 hI.2.1 hI.2.2.2.1 dJ5_newCapacity_0f7a4_4 ?_
  refine j_istore_n x dJ5_newCapacity_0f7a4_5 (by decide) rfl ?_
  refine j_iload_n x dJ5_newCapacity_0f7a4_6 rfl ?_
  refine j_aload_n x dJ5_newCapacity_0f7a4_7 rfl ?_
  refine j2_geti (k := 1) x hb dJ5_newCapacity_0f7a4_8 jc_1 wfJ5_22 (by decide) rfl ?_; rw [hI.2.2.2.2.1]
  refine j_ishl x dJ5_newCapacity_0f7a4_11 ?_; rw [shl0]
  refine j_istore_n x dJ5_newCapacity_0f7a4_12 (by decide) rfl ?_
  refine j_iload_n x dJ5_newCapacity_0f7a4_13 rfl ?_
  refine j_iload_n x dJ5_newCapacity_0f7a4_14 rfl ?_
  refine j_isub x dJ5_newCapacity_0f7a4_15 ?_; rw [nI_sub (Nat.le_of_lt hm)]
  refine j_istore x dJ5_newCapacity_0f7a4_16 (by decide) rfl ?_
  refine j_iload_n x dJ5_newCapacity_0f7a4_18 rfl ?_
  refine j_iload x dJ5_newCapacity_0f7a4_19 rfl ?_
  refine j_iload_n x dJ5_newCapacity_0f7a4_21 rfl ?_
  refine j_iconst (v := 2) x dJ5_newCapacity_0f7a4_22 (by decide) ?_
  refine j_aload_n x dJ5_newCapacity_0f7a4_23 rfl ?_
  refine j2_geti (k := 1) x hb dJ5_newCapacity_0f7a4_24 jc_1 wfJ5_22 (by decide) rfl ?_; rw [hI.2.2.2.2.1]
  refine j_ishl x dJ5_newCapacity_0f7a4_27 ?_; rw [shl0]
  refine j_iadd x dJ5_newCapacity_0f7a4_28 ?_; rw [show (2 : Int32) = nI 2 from rfl, nI_add]
  refine j2_callSi x hb dJ5_newCapacity_0f7a4_29 m_J8_newLength_cabcc (c_newLength (d := d) hb hm hm2) wmJ5_114 rfl (Nat.le_of_ble_eq_true rfl) (j_fit_rm (by omega) (by omega) (by omega)) rfl ?_
  refine j_istore x dJ5_newCapacity_0f7a4_32 (by decide) rfl ?_
  refine j_iload x dJ5_newCapacity_0f7a4_34 rfl ?_
  refine j_ldci x dJ5_newCapacity_0f7a4_36 wkJ5_39 ?_
  refine j_icmp_ne (tgt := 51) x dJ5_newCapacity_0f7a4_38 (by decide) (fun hc => ?_) (fun hc => absurd hc (fun q => absurd ((nI_eq (by omega) (by decide)).mp (show nI (sbc n m1) = nI 2147483647 from q)) (by omega)))
  refine j_iload x dJ5_newCapacity_0f7a4_51 rfl ?_
  refine j_aload_n x dJ5_newCapacity_0f7a4_53 rfl ?_
  refine j2_geti (k := 1) x hb dJ5_newCapacity_0f7a4_54 jc_1 wfJ5_22 (by decide) rfl ?_; rw [hI.2.2.2.2.1]
  refine j_ishr x dJ5_newCapacity_0f7a4_57 ?_; rw [shr0]
  exact j_ireturn x hr dJ5_newCapacity_0f7a4_58 (by omega) (by omega) ⟨rfl, rfl⟩
theorem hLen_sbp {b : SBt} {c1 i : Nat} (h : i < b.2.1) : hLen (sbp b c1) i = hLen b i := by
  unfold hLen sbp
  split
  · rfl
  · exact if_neg (by omega)
theorem hLen_new {b : SBt} {c1 : Nat} (hb : 104 ≤ b.2.1) : hLen (sbp b c1) b.2.1 = c1 := by
  unfold hLen sbp
  rw [if_neg (by omega)]
  exact if_pos rfl
def sbN (b : SBt) (M : MM) (n : Nat) : MM := mz (mz M b.2.1 fun _ => 0) b.2.1 fun k => if k < n then (mz M b.2.1 fun _ => 0) b.1 k else (mz M b.2.1 fun _ => 0) b.2.1 k
theorem sbN_n {b : SBt} {M : MM} {n i k : Nat} (h : i ≠ b.2.1) : sbN b M n i k = M i k := by rw [sbN, mz_n h, mz_n h]
theorem sbN_fit {b : SBt} {M : MM} {n : Nat} (hI : sbI b M n) : ∀ k, fits .byte (.int (sbN b M n b.2.1 k)) = true := fun k => by
  rw [sbN, mz_s]
  split
  · rw [mz_n (Nat.ne_of_lt hI.2.1)]; exact hI.2.2.2.2.2 k
  · rw [mz_s]; decide
theorem c_copyOf {d : Nat} {b : SBt} {Y : OUt} {M : MM} (hb : 104 ≤ b.2.1) {n : Nat} (hI : sbI b M n) {c1 : Nat} (hcc : n < c1) (hc2 : c1 ≤ 202) : Con (d) 1 202 yJ7_copyOf_9075b cJ7_copyOf_9075b 3 (some (FieldType.array FieldType.byte)) [.ref b.1, .int (nI c1)] (HH b Y M) (fun o k => o = .inl (some (.ref b.2.1)) ∧ k = HH (sbp b c1) Y (sbN b M n)) := by
  refine Con.of (by decide +kernel) (Nat.le_of_ble_eq_true rfl) rfl fun p l e s m args below meth c D tyc A ad0 x hr htab hname => ?_
  change JJ _ _ _ _ _ _ _ _ _ _ _ _ _ _ _ _ _ 0 [some (.ref b.1), some (.int (nI c1)), none] [] _ 0 0
  refine j_iload_n x dJ7_copyOf_9075b_0 rfl ?_
  refine j_aload_n x dJ7_copyOf_9075b_1 rfl ?_
  refine j2_blen x hI.1 hI.2.1 hI.2.2.2.1 dJ7_copyOf_9075b_2 ?_
  refine j_icmp_ne (tgt := 14) x dJ7_copyOf_9075b_3 (by decide) (fun hc => ?_) (fun hc => absurd hc (fun q => absurd ((nI_eq (by omega) (by omega)).mp q) (by omega)))
  refine j_iload_n x dJ7_copyOf_9075b_14 rfl ?_
  refine j2_bnew x hb dJ7_copyOf_9075b_15 wa_byte (by omega) (Nat.le_of_ble_eq_true rfl) (by simp only [j_rm]; omega) ?_
  refine j_astore_n x dJ7_copyOf_9075b_17 (by decide) rfl ?_
  refine j_aload_n x dJ7_copyOf_9075b_18 rfl ?_
  refine j_iconst (v := 0) x dJ7_copyOf_9075b_19 (by decide) ?_
  refine j_aload_n x dJ7_copyOf_9075b_20 rfl ?_
  refine j_iconst (v := 0) x dJ7_copyOf_9075b_21 (by decide) ?_
  refine j_aload_n x dJ7_copyOf_9075b_22 rfl ?_
  refine j2_blen (n := n) x hI.1 (show b.1 < b.2.1 + 1 from Nat.lt_succ_of_lt hI.2.1) ((hLen_sbp hI.2.1).trans hI.2.2.2.1) dJ7_copyOf_9075b_23 ?_
  refine j_iload_n x dJ7_copyOf_9075b_24 rfl ?_
  refine j_min x wmath dJ7_copyOf_9075b_25 wmJ7_304 (Nat.le_of_ble_eq_true rfl) (Nat.le_of_ble_eq_true rfl) (by omega) ?_; rw [if_neg (nI_nlt (Nat.le_of_lt hcc) (by omega))]
  refine j_copyB x dJ7_copyOf_9075b_28 wmJ7_150 (Nat.le_of_ble_eq_true rfl) (show b.1 < b.2.1 + 1 from Nat.lt_succ_of_lt hI.2.1) (isB_t hI.1) (show b.2.1 < b.2.1 + 1 from Nat.lt_succ_self _) (isB_t (Or.inr hb)) (fun k => by show fits .byte (.int (j_int (hF _ Y _ b.1 k))) = true; rw [isB_f hI.1]; show fits .byte (.int (mz M b.2.1 (fun _ => 0) b.1 k)) = true; rw [mz_n (Nat.ne_of_lt hI.2.1)]; exact hI.2.2.2.2.2 k) (nI_pos (by omega)) (by rw [nI_clamp (by omega)]; show n ≤ hLen (sbp b c1) b.1; rw [hLen_sbp hI.2.1, hI.2.2.2.1]; exact Nat.le_refl _) (by rw [nI_clamp (by omega)]; show n ≤ hLen (sbp b c1) b.2.1; rw [hLen_new hb]; omega) ?_; rw [nI_clamp (by omega), HH_cpb hI.1 (Or.inr hb)]
  refine j_aload_n x dJ7_copyOf_9075b_31 rfl ?_
  exact j_areturn x hr (Or.inr ⟨_, rfl⟩) dJ7_copyOf_9075b_32 (Nat.le_of_ble_eq_true rfl) (by omega) ⟨rfl, rfl⟩
def sbF (M N : MM) : Prop := ∀ i k, (i < 92 ∨ (93 < i ∧ i < 104) ∨ (i = 92 ∧ k = 3)) → N i k = M i k
theorem sbF_t {M N N2 : MM} (h : sbF M N) (h2 : sbF N N2) : sbF M N2 := fun i k z => (h2 i k z).trans (h i k z)
theorem sbF_0 {M : MM} : sbF M M := fun _ _ _ => rfl
theorem mU_ensure : j_mU yJ5_ensureCapacityInternal_d00df cJ5_ensureCapacityInternal_d00df 3 none 1 := ⟨wsame_J5_ensureCapacityInternal_d00df, t_J5_ensureCapacityInternal_d00df, wi_java_lang_AbstractStringBuilder, q_J5_ensureCapacityInternal_d00df, ⟨by decide +kernel, by decide +kernel, by decide +kernel⟩, by decide, j_wx 0 rfl rfl⟩
theorem mU_newCap : j_mU yJ5_newCapacity_0f7a4 cJ5_newCapacity_0f7a4 6 (some .int) 1 := ⟨wsame_J5_newCapacity_0f7a4, t_J5_newCapacity_0f7a4, wi_java_lang_AbstractStringBuilder, q_J5_newCapacity_0f7a4, ⟨by decide +kernel, by decide +kernel, by decide +kernel⟩, by decide, j_wx 1 rfl rfl⟩
theorem mU_latin : j_mU yJ5_isLatin1_aae02 cJ5_isLatin1_aae02 1 (some .boolean) 0 := ⟨wsame_J5_isLatin1_aae02, t_J5_isLatin1_aae02, wi_java_lang_AbstractStringBuilder, q_J5_isLatin1_aae02, ⟨by decide +kernel, by decide +kernel, by decide +kernel⟩, by decide, j_wd 1192 (by decide +kernel) rfl⟩
theorem sub_le0 {a c : Nat} (h : a ≤ c) (hc : c < 2 ^ 31) : nI a - nI c ≤ 0 := by
  rw [Int32.le_iff_toInt_le, Int32.toInt_sub, nI_toInt (by omega), nI_toInt hc, Int32.toInt_zero, Int.bmod_def]
  split <;> omega
theorem c_ensure_no {d : Nat} {b : SBt} {Y : OUt} {M : MM} (hb : 104 ≤ b.2.1) {n : Nat} (hI : sbI b M n) {m1 : Nat} (hm : m1 ≤ n) (hm2 : n < 1000) : CM (d) 0 0 yJ5_ensureCapacityInternal_d00df cJ5_ensureCapacityInternal_d00df 3 none [.ref 92, .int (nI m1)] b Y M (.inl none) (M) := by
  refine Con.of (by decide +kernel) (Nat.le_of_ble_eq_true rfl) rfl fun p l e s m args below meth c D tyc A ad0 x hr htab hname => ?_
  change JJ _ _ _ _ _ _ _ _ _ _ _ _ _ _ _ _ _ 0 [some (.ref 92), some (.int (nI m1)), none] [] _ 0 0
  refine j_aload_n x dJ5_ensureCapacityInternal_d00df_0 rfl ?_
  refine j2_vget x hb dJ5_ensureCapacityInternal_d00df_1 wfJ5_15 ?_
  refine j2_blen x hI.1 hI.2.1 hI.2.2.2.1 dJ5_ensureCapacityInternal_d00df_4 ?_
  refine j_aload_n x dJ5_ensureCapacityInternal_d00df_5 rfl ?_
  refine j2_geti (k := 1) x hb dJ5_ensureCapacityInternal_d00df_6 jc_1 wfJ5_22 (by decide) rfl ?_; rw [hI.2.2.2.2.1]
  refine j_ishr x dJ5_ensureCapacityInternal_d00df_9 ?_; rw [shr0]
  refine j_istore_n x dJ5_ensureCapacityInternal_d00df_10 (by decide) rfl ?_
  refine j_iload_n x dJ5_ensureCapacityInternal_d00df_11 rfl ?_
  refine j_iload_n x dJ5_ensureCapacityInternal_d00df_12 rfl ?_
  refine j_isub x dJ5_ensureCapacityInternal_d00df_13 ?_
  refine j_if_le (tgt := 38) x dJ5_ensureCapacityInternal_d00df_14 (by decide) (fun hc => ?_) (fun hc => absurd (sub_le0 hm (by omega)) hc)
  exact j_return x hr dJ5_ensureCapacityInternal_d00df_38 (by omega) (by omega) ⟨rfl, rfl⟩
theorem c_ensure_up {d : Nat} {b : SBt} {Y : OUt} {M : MM} (hb : 104 ≤ b.2.1) {n : Nat} (hI : sbI b M n) {m1 : Nat} (hm : n < m1) (hm2 : m1 < 1000) (hm3 : m1 ≤ 100) : Con (d + 3) 1 202 yJ5_ensureCapacityInternal_d00df cJ5_ensureCapacityInternal_d00df 3 none [.ref 92, .int (nI m1)] (HH b Y M) (fun o k => o = .inl none ∧ ∃ b2 N n2, k = HH b2 Y N ∧ sbI b2 N n2 ∧ m1 ≤ n2 ∧ n2 ≤ 202 ∧ sbF M N) := by
  refine Con.of (by decide +kernel) (Nat.le_of_ble_eq_true rfl) rfl fun p l e s m args below meth c D tyc A ad0 x hr htab hname => ?_
  change JJ _ _ _ _ _ _ _ _ _ _ _ _ _ _ _ _ _ 0 [some (.ref 92), some (.int (nI m1)), none] [] _ 0 0
  have hc9 : n < sbc n m1 ∧ sbc n m1 < 1000 := by unfold sbc; split <;> omega
  have hc8 : m1 ≤ sbc n m1 := by unfold sbc; split <;> omega
  have hc7 : sbc n m1 ≤ 202 := by unfold sbc; split <;> omega
  refine j_aload_n x dJ5_ensureCapacityInternal_d00df_0 rfl ?_
  refine j2_vget x hb dJ5_ensureCapacityInternal_d00df_1 wfJ5_15 ?_
  refine j2_blen x hI.1 hI.2.1 hI.2.2.2.1 dJ5_ensureCapacityInternal_d00df_4 ?_
  refine j_aload_n x dJ5_ensureCapacityInternal_d00df_5 rfl ?_
  refine j2_geti (k := 1) x hb dJ5_ensureCapacityInternal_d00df_6 jc_1 wfJ5_22 (by decide) rfl ?_; rw [hI.2.2.2.2.1]
  refine j_ishr x dJ5_ensureCapacityInternal_d00df_9 ?_; rw [shr0]
  refine j_istore_n x dJ5_ensureCapacityInternal_d00df_10 (by decide) rfl ?_
  refine j_iload_n x dJ5_ensureCapacityInternal_d00df_11 rfl ?_
  refine j_iload_n x dJ5_ensureCapacityInternal_d00df_12 rfl ?_
  refine j_isub x dJ5_ensureCapacityInternal_d00df_13 ?_; rw [nI_sub (Nat.le_of_lt hm)]
  refine j_if_le (tgt := 38) x dJ5_ensureCapacityInternal_d00df_14 (by decide) (fun hc => absurd hc (nI_nle (by omega) (by omega))) (fun hc => ?_)
  refine j_aload_n x dJ5_ensureCapacityInternal_d00df_17 rfl ?_
  refine j_aload_n x dJ5_ensureCapacityInternal_d00df_18 rfl ?_
  refine j2_vget x hb dJ5_ensureCapacityInternal_d00df_19 wfJ5_15 ?_
  refine j_aload_n x dJ5_ensureCapacityInternal_d00df_22 rfl ?_
  refine j_iload_n x dJ5_ensureCapacityInternal_d00df_23 rfl ?_
  refine j_callVU x dJ5_ensureCapacityInternal_d00df_24 (c_newCapacity (d := d + 1) hb hI hm hm2) mU_newCap wmJ5_104 jc_1 rfl (show 92 < _ from Nat.lt_of_lt_of_le (by decide) hb) rfl rfl (Nat.le_of_ble_eq_true rfl) (j_fit_rm (by omega) (by omega) (by omega)) rfl jres_no (fun v h1 hQ => ?_)
  obtain ⟨rfl, rfl⟩ : v = some (.int (nI (sbc n m1))) ∧ h1 = HH b Y M := ⟨by have := hQ.1; cases this; rfl, hQ.2⟩
  change JJ _ _ _ _ _ _ _ _ _ _ _ _ _ _ _ _ _ _ _ (.int (nI (sbc n m1)) :: _) (HH b Y M) _ _
  refine j_aload_n x dJ5_ensureCapacityInternal_d00df_27 rfl ?_
  refine j2_geti (k := 1) x hb dJ5_ensureCapacityInternal_d00df_28 jc_1 wfJ5_22 (by decide) rfl ?_; rw [hI.2.2.2.2.1]
  refine j_ishl x dJ5_ensureCapacityInternal_d00df_31 ?_; rw [shl0]
  refine j_callS x dJ5_ensureCapacityInternal_d00df_32 (c_copyOf (d := d + 1) (Y := Y) hb hI hc9.1 hc7) m_J7_copyOf_9075b wmJ5_108 rfl (Nat.le_of_ble_eq_true rfl) (j_fit_rm (by omega) (Nat.le_of_ble_eq_true rfl) (Nat.le_of_ble_eq_true rfl)) rfl (fun E k z => by cases z.1) (fun v h1 hQ => ?_)
  obtain ⟨rfl, rfl⟩ : v = some (.ref b.2.1) ∧ h1 = HH (sbp b (sbc n m1)) Y (sbN b M n) := ⟨by have := hQ.1; cases this; rfl, hQ.2⟩
  change JJ _ _ _ _ _ _ _ _ _ _ _ _ _ _ _ _ _ _ _ (.ref b.2.1 :: .ref 92 :: _) (HH (sbp b (sbc n m1)) Y (sbN b M n)) _ _
  refine j2_vput x (show 104 ≤ b.2.1 + 1 by omega) dJ5_ensureCapacityInternal_d00df_35 wfJ5_15 ?_
  exact j_return x hr dJ5_ensureCapacityInternal_d00df_38 (Nat.le_of_ble_eq_true rfl) (Nat.le_of_ble_eq_true rfl) ⟨rfl, _, _, sbc n m1, rfl, ⟨Or.inr hb, Nat.lt_succ_self _, Nat.le_succ_of_le hb, hLen_new hb, (sbN_n (by omega)).trans hI.2.2.2.2.1, sbN_fit hI⟩, hc8, hc7, fun i k h => sbN_n (by omega)⟩
theorem Con.wide {d mc ms mc2 ms2 : Nat} {y : MethodName} {cc : ByteArray} {maxL : Nat} {ret : Option FieldType} {as : List Value} {h : MH} {Q : MO → MH → Prop} (C : Con d mc ms y cc maxL ret as h Q) (h1 : mc = mc2) (h2 : ms = ms2) : Con d mc2 ms2 y cc maxL ret as h Q := by
  subst h1; subst h2; exact C
theorem c_ensure_n1 {d : Nat} {b : SBt} {Y : OUt} {M : MM} (hb : 104 ≤ b.2.1) {n : Nat} (hI : sbI b M n) {m1 : Nat} (hm : m1 ≤ n) (hm2 : n ≤ 202) : Con (d + 3) 1 202 yJ5_ensureCapacityInternal_d00df cJ5_ensureCapacityInternal_d00df 3 none [.ref 92, .int (nI m1)] (HH b Y M) (fun o k => o = .inl none ∧ ∃ b2 N n2, k = HH b2 Y N ∧ sbI b2 N n2 ∧ m1 ≤ n2 ∧ n2 ≤ 202 ∧ sbF M N) := by
  refine Con.of (by decide +kernel) (Nat.le_of_ble_eq_true rfl) rfl fun p l e s m args below meth c D tyc A ad0 x hr htab hname => ?_
  change JJ _ _ _ _ _ _ _ _ _ _ _ _ _ _ _ _ _ 0 [some (.ref 92), some (.int (nI m1)), none] [] _ 0 0
  refine j_aload_n x dJ5_ensureCapacityInternal_d00df_0 rfl ?_
  refine j2_vget x hb dJ5_ensureCapacityInternal_d00df_1 wfJ5_15 ?_
  refine j2_blen x hI.1 hI.2.1 hI.2.2.2.1 dJ5_ensureCapacityInternal_d00df_4 ?_
  refine j_aload_n x dJ5_ensureCapacityInternal_d00df_5 rfl ?_
  refine j2_geti (k := 1) x hb dJ5_ensureCapacityInternal_d00df_6 jc_1 wfJ5_22 (by decide) rfl ?_; rw [hI.2.2.2.2.1]
  refine j_ishr x dJ5_ensureCapacityInternal_d00df_9 ?_; rw [shr0]
  refine j_istore_n x dJ5_ensureCapacityInternal_d00df_10 (by decide) rfl ?_
  refine j_iload_n x dJ5_ensureCapacityInternal_d00df_11 rfl ?_
  refine j_iload_n x dJ5_ensureCapacityInternal_d00df_12 rfl ?_
  refine j_isub x dJ5_ensureCapacityInternal_d00df_13 ?_
  refine j_if_le (tgt := 38) x dJ5_ensureCapacityInternal_d00df_14 (by decide) (fun hc => ?_) (fun hc => absurd (sub_le0 hm (by omega)) hc)
  exact j_return x hr dJ5_ensureCapacityInternal_d00df_38 (by omega) (by omega) ⟨rfl, b, M, n, rfl, hI, hm, hm2, sbF_0⟩
theorem c_ensure {d : Nat} {b : SBt} {Y : OUt} {M : MM} (hb : 104 ≤ b.2.1) {n : Nat} (hI : sbI b M n) (hn : n ≤ 202) {m1 : Nat} (hm3 : m1 ≤ 100) : Con (d + 3) 1 202 yJ5_ensureCapacityInternal_d00df cJ5_ensureCapacityInternal_d00df 3 none [.ref 92, .int (nI m1)] (HH b Y M) (fun o k => o = .inl none ∧ ∃ b2 N n2, k = HH b2 Y N ∧ sbI b2 N n2 ∧ m1 ≤ n2 ∧ n2 ≤ 202 ∧ sbF M N) := by
  by_cases h : m1 ≤ n
  · exact c_ensure_n1 hb hI h hn
  · exact c_ensure_up hb hI (by omega) (by omega) hm3
end

section
/-! ===== the StringBuilder: appending, reading ===== -/
def sbG (M N : MM) : Prop := ∀ i k, (i < 92 ∨ (93 < i ∧ i < 104)) → N i k = M i k
theorem sbG_F {M N : MM} (h : sbF M N) : sbG M N := fun i k z => h i k (by omega)
theorem sbG_t {M N N2 : MM} (h : sbG M N) (h2 : sbG N N2) : sbG M N2 := fun i k z => (h2 i k z).trans (h i k z)
theorem isB_ne {i : Nat} (h : isB i) : i ≠ 92 ∧ ¬ i < 92 ∧ ¬ (93 < i ∧ i < 104) := by unfold isB at h; omega
theorem sbI_w {b : SBt} {N : MM} {n k : Nat} {v w : Int32} (h : sbI b N n) : sbI b (jm (jm N 92 3 v) b.1 k (vp_nar .byte w)) n := by
  obtain ⟨h1, h2, h3, h4, h5, h6⟩ := h
  have := isB_ne h1
  exact ⟨h1, h2, h3, h4, by rw [jm_n (by omega), jm_n (by omega)]; exact h5, fit_jm (fun c => by rw [jm_n (by omega)]; exact h6 c)⟩
theorem sbG_w {b : SBt} {M N : MM} {k : Nat} {v w : Int32} (hB : isB b.1) (h : sbG M N) : sbG M (jm (jm N 92 3 v) b.1 k w) := fun i j z => by
  have := isB_ne hB
  rw [jm_n (by omega), jm_n (by omega)]; exact h i j z
theorem sbC_w {b : SBt} {N : MM} {k : Nat} {v w : Int32} (hB : isB b.1) : jm (jm N 92 3 v) b.1 k w 92 3 = v := by
  have := isB_ne hB
  rw [jm_n (by omega), jm_s]
theorem c_canEncode {d : Nat} {b : SBt} {Y : OUt} {M : MM} (hb : 104 ≤ b.2.1) {t : Int32} (ht : ¬ 255 < t) : CM (d) 0 0 yJ1_canEncode_fc78d cJ1_canEncode_fc78d 1 (some .boolean) [.int t] b Y M (.inl (some (.int 1))) (M) := by
  refine Con.of (by decide +kernel) (Nat.le_of_ble_eq_true rfl) rfl fun p l e s m args below meth c D tyc A ad0 x hr htab hname => ?_
  change JJ _ _ _ _ _ _ _ _ _ _ _ _ _ _ _ _ _ 0 [some (.int t)] [] _ 0 0
  refine j_iload_n x dJ1_canEncode_fc78d_0 rfl ?_
  refine j_sipush (v := 255) x dJ1_canEncode_fc78d_1 (by decide) ?_
  refine j_icmp_gt (tgt := 11) x dJ1_canEncode_fc78d_4 (by decide) (fun hc => absurd hc (ht)) (fun hc => ?_)
  refine j_iconst (v := 1) x dJ1_canEncode_fc78d_7 (by decide) ?_
  refine j_goto (tgt := 12) x dJ1_canEncode_fc78d_8 (by decide) ?_
  exact j_zreturn x hr dJ1_canEncode_fc78d_12 (by first | decide | with_reducible exact jb_nar | with_reducible exact jisS_nar | with_reducible exact gno_nar) (by omega) (by omega) ⟨rfl, rfl⟩
theorem c_appC5 {d : Nat} {b : SBt} {Y : OUt} {M : MM} (hb : 104 ≤ b.2.1) {n : Nat} (hI : sbI b M n) (hn : n ≤ 202) {c1 : Nat} (hc : M 92 3 = nI c1) (hc1 : c1 < 100) {t : Int32} (ht : ¬ 255 < t) : Con (d + 4) 1 202 yJ5_append_3fe6f cJ5_append_3fe6f 2 (some (FieldType.object "java/lang/AbstractStringBuilder")) [.ref 92, .int t] (HH b Y M) (fun o k => o = .inl (some (.ref 92)) ∧ ∃ b2 N n2, k = HH b2 Y N ∧ sbI b2 N n2 ∧ n2 ≤ 202 ∧ c1 + 1 ≤ n2 ∧ sbG M N ∧ N 92 3 = nI (c1 + 1)) := by
  refine Con.of (by decide +kernel) (Nat.le_of_ble_eq_true rfl) rfl fun p l e s m args below meth c D tyc A ad0 x hr htab hname => ?_
  change JJ _ _ _ _ _ _ _ _ _ _ _ _ _ _ _ _ _ 0 [some (.ref 92), some (.int t)] [] _ 0 0
  refine j_aload_n x dJ5_append_3fe6f_0 rfl ?_
  refine j_aload_n x dJ5_append_3fe6f_1 rfl ?_
  refine j2_geti (k := 3) x hb dJ5_append_3fe6f_2 jc_1 wfJ5_79 (by decide) rfl ?_; rw [hc]
  refine j_iconst (v := 1) x dJ5_append_3fe6f_5 (by decide) ?_
  refine j_iadd x dJ5_append_3fe6f_6 ?_; rw [nI_1]
  refine j_callVU x dJ5_append_3fe6f_7 (c_ensure (d := d) (Y := Y) hb hI hn (m1 := c1 + 1) (by omega)) mU_ensure wmJ5_100 jc_1 rfl (show 92 < _ from Nat.lt_of_lt_of_le (by decide) hb) rfl rfl (Nat.le_of_ble_eq_true rfl) (j_fit_rm (by omega) (Nat.le_of_ble_eq_true rfl) (Nat.le_of_ble_eq_true rfl)) rfl (fun E k z => by cases z.1) (fun v h1 hQ => ?_)
  obtain ⟨ho, b1, N1, n1, rfl, hI1, hm1, hn1, hF1⟩ := hQ
  cases ho
  change JJ _ _ _ _ _ _ _ _ _ _ _ _ _ _ _ _ _ _ _ [] (HH b1 Y N1) _ _
  have hb1 : 104 ≤ b1.2.1 := hI1.2.2.1
  have hc2 : N1 92 3 = nI c1 := (hF1 92 3 (by omega)).trans hc
  refine j_aload_n x dJ5_append_3fe6f_10 rfl ?_
  refine j_callVU x dJ5_append_3fe6f_11 (c_isLatin1 (d := d) (Y := Y) hb1 hI1.2.2.2.2.1) mU_latin wmJ5_83 jc_1 rfl (show 92 < _ from Nat.lt_of_lt_of_le (by decide) hb1) rfl rfl (Nat.le_of_ble_eq_true rfl) (j_fit_rm (by omega) (by omega) (by omega)) rfl jres_no (fun v h1 hQ => ?_); obtain ⟨rfl, rfl⟩ : v = some (.int 1) ∧ h1 = HH b1 Y N1 := ⟨by have := hQ.1; cases this; rfl, hQ.2⟩; change JJ _ _ _ _ _ _ _ _ _ _ _ _ _ _ _ _ _ _ _ (.int 1 :: []) (HH b1 Y N1) _ _
  refine j_if_eq (tgt := 45) x dJ5_append_3fe6f_14 (by decide) (fun hc => absurd hc (by decide)) (fun hc => ?_)
  refine j_iload_n x dJ5_append_3fe6f_17 rfl ?_
  refine j2_callSi x hb1 dJ5_append_3fe6f_18 m_J1_canEncode_fc78d (c_canEncode (d := d) hb1 ht) wmJ5_191 rfl (Nat.le_of_ble_eq_true rfl) (j_fit_rm (by omega) (by omega) (by omega)) rfl ?_
  refine j_if_eq (tgt := 45) x dJ5_append_3fe6f_21 (by decide) (fun hc => absurd hc (by decide)) (fun hc => ?_)
  refine j_aload_n x dJ5_append_3fe6f_24 rfl ?_
  refine j2_vget x hb1 dJ5_append_3fe6f_25 wfJ5_15 ?_
  refine j_aload_n x dJ5_append_3fe6f_28 rfl ?_
  refine j_dup x dJ5_append_3fe6f_29 rfl ?_
  refine j2_geti (k := 3) x hb1 dJ5_append_3fe6f_30 jc_1 wfJ5_79 (by decide) rfl ?_; rw [hc2]
  refine j_dup_x1 x dJ5_append_3fe6f_33 rfl rfl ?_
  refine j_iconst (v := 1) x dJ5_append_3fe6f_34 (by decide) ?_
  refine j_iadd x dJ5_append_3fe6f_35 ?_; rw [nI_1]
  refine j2_puti (k := 3) x hb1 dJ5_append_3fe6f_36 jc_1 wfJ5_79 (by decide) rfl rfl rfl rfl ?_
  refine j_iload_n x dJ5_append_3fe6f_39 rfl ?_
  refine j_i2b x dJ5_append_3fe6f_40 ?_
  refine j2_bst x hI1.1 hI1.2.1 hI1.2.2.2.1 dJ5_append_3fe6f_41 (vp_in_nI (show c1 < n1 by omega) (by omega)) rfl ?_
  refine j_goto (tgt := 75) x dJ5_append_3fe6f_42 (by decide) ?_
  refine j_aload_n x dJ5_append_3fe6f_75 rfl ?_
  exact j_areturn x hr (Or.inl ⟨_, rfl⟩) dJ5_append_3fe6f_76 (Nat.le_of_ble_eq_true rfl) (Nat.le_of_ble_eq_true rfl) ⟨rfl, b1, _, n1, rfl, sbI_w hI1, hn1, hm1, sbG_w hI1.1 (sbG_F hF1), sbC_w hI1.1⟩
theorem c_appI5 {d : Nat} {b : SBt} {Y : OUt} {M : MM} (hb : 104 ≤ b.2.1) {n : Nat} (hI : sbI b M n) (hn : n ≤ 202) {c1 : Nat} (hc : M 92 3 = nI c1) (hc1 : c1 < 90) {v1 : Nat} (hv : v1 < 10000) : Con (d + 4) 1 202 yJ5_append_c97b9 cJ5_append_c97b9 4 (some (FieldType.object "java/lang/AbstractStringBuilder")) [.ref 92, .int (nI v1)] (HH b Y M) (fun o k => o = .inl (some (.ref 92)) ∧ ∃ b2 N n2, k = HH b2 Y N ∧ sbI b2 N n2 ∧ n2 ≤ 202 ∧ c1 + dg v1 ≤ n2 ∧ sbG M N ∧ N 92 3 = nI (c1 + dg v1)) := by
  have hdg := dg_le v1
  refine Con.of (by decide +kernel) (Nat.le_of_ble_eq_true rfl) rfl fun p l e s m args below meth c D tyc A ad0 x hr htab hname => ?_
  change JJ _ _ _ _ _ _ _ _ _ _ _ _ _ _ _ _ _ 0 [some (.ref 92), some (.int (nI v1)), none, none] [] _ 0 0
  refine j_aload_n x dJ5_append_c97b9_0 rfl ?_
  refine j2_geti (k := 3) x hb dJ5_append_c97b9_1 jc_1 wfJ5_79 (by decide) rfl ?_; rw [hc]
  refine j_istore_n x dJ5_append_c97b9_4 (by decide) rfl ?_
  refine j_iload_n x dJ5_append_c97b9_5 rfl ?_
  refine j_iload_n x dJ5_append_c97b9_6 rfl ?_
  refine j2_callSi x hb dJ5_append_c97b9_7 m_J6_stringSize_0f7a4 (c_stringSize (d := d) hb hv) wmJ5_245 rfl (Nat.le_of_ble_eq_true rfl) (j_fit_rm (by omega) (by omega) (by omega)) rfl ?_
  refine j_iadd x dJ5_append_c97b9_10 ?_; rw [nI_add]
  refine j_istore_n x dJ5_append_c97b9_11 (by decide) rfl ?_
  refine j_aload_n x dJ5_append_c97b9_12 rfl ?_
  refine j_iload_n x dJ5_append_c97b9_13 rfl ?_
  refine j_callVU x dJ5_append_c97b9_14 (c_ensure (d := d) (Y := Y) hb hI hn (m1 := c1 + dg v1) (by omega)) mU_ensure wmJ5_100 jc_1 rfl (show 92 < _ from Nat.lt_of_lt_of_le (by decide) hb) rfl rfl (Nat.le_of_ble_eq_true rfl) (j_fit_rm (by omega) (Nat.le_of_ble_eq_true rfl) (Nat.le_of_ble_eq_true rfl)) rfl (fun E k z => by cases z.1) (fun v h1 hQ => ?_)
  obtain ⟨ho, b1, N1, n1, rfl, hI1, hm1, hn1, hF1⟩ := hQ
  cases ho
  change JJ _ _ _ _ _ _ _ _ _ _ _ _ _ _ _ _ _ _ _ [] (HH b1 Y N1) _ _
  have hb1 : 104 ≤ b1.2.1 := hI1.2.2.1
  have hc2 : N1 92 3 = nI c1 := (hF1 92 3 (by omega)).trans hc
  have hB1 := isB_ne hI1.1
  obtain ⟨N2, w2, hN2, hf2, hC2⟩ := c_getChars (d := d) (Y := Y) (M := N1) (v := v1) (e1 := c1 + dg v1) hb1 hI1 (by omega) (Nat.le_add_left _ _) hm1 hv
  refine j_aload_n x dJ5_append_c97b9_17 rfl ?_
  refine j_callVU x dJ5_append_c97b9_18 (c_isLatin1 (d := d) (Y := Y) hb1 hI1.2.2.2.2.1) mU_latin wmJ5_83 jc_1 rfl (show 92 < _ from Nat.lt_of_lt_of_le (by decide) hb1) rfl rfl (Nat.le_of_ble_eq_true rfl) (j_fit_rm (by omega) (by omega) (by omega)) rfl jres_no (fun v h1 hQ => ?_); obtain ⟨rfl, rfl⟩ : v = some (.int 1) ∧ h1 = HH b1 Y N1 := ⟨by have := hQ.1; cases this; rfl, hQ.2⟩; change JJ _ _ _ _ _ _ _ _ _ _ _ _ _ _ _ _ _ _ _ (.int 1 :: []) (HH b1 Y N1) _ _
  refine j_if_eq (tgt := 37) x dJ5_append_c97b9_21 (by decide) (fun hc => absurd hc (by decide)) (fun hc => ?_)
  refine j_iload_n x dJ5_append_c97b9_24 rfl ?_
  refine j_iload_n x dJ5_append_c97b9_25 rfl ?_
  refine j_aload_n x dJ5_append_c97b9_26 rfl ?_
  refine j2_vget x hb1 dJ5_append_c97b9_27 wfJ5_15 ?_
  refine j2_callSi x hb1 dJ5_append_c97b9_30 m_J6_getChars_ba4f3 hC2 wmJ5_248 rfl (Nat.le_of_ble_eq_true rfl) (j_fit_rm (by omega) (by omega) (by omega)) rfl ?_
  refine j_pop x dJ5_append_c97b9_33 rfl ?_
  refine j_goto (tgt := 48) x dJ5_append_c97b9_34 (by decide) ?_
  refine j_aload_n x dJ5_append_c97b9_48 rfl ?_
  refine j_iload_n x dJ5_append_c97b9_49 rfl ?_
  refine j2_puti (k := 3) x hb1 dJ5_append_c97b9_50 jc_1 wfJ5_79 (by decide) rfl rfl rfl rfl ?_
  refine j_aload_n x dJ5_append_c97b9_53 rfl ?_
  exact j_areturn x hr (Or.inl ⟨_, rfl⟩) dJ5_append_c97b9_54 (Nat.le_of_ble_eq_true rfl) (Nat.le_of_ble_eq_true rfl) ⟨rfl, b1, _, n1, rfl, ⟨hI1.1, hI1.2.1, hb1, hI1.2.2.2.1, by rw [jm_n (by omega), hN2 92 1 (by omega)]; exact hI1.2.2.2.2.1, fun k => by rw [jm_n (by omega)]; exact hf2 k⟩, hn1, hm1, fun i k z => by rw [jm_n (by omega), hN2 i k (by omega)]; exact sbG_F hF1 i k z, jm_s⟩
theorem c_appC {d : Nat} {b : SBt} {Y : OUt} {M : MM} (hb : 104 ≤ b.2.1) {n : Nat} (hI : sbI b M n) (hn : n ≤ 202) {c1 : Nat} (hc : M 92 3 = nI c1) (hc1 : c1 < 100) {t : Int32} (ht : ¬ 255 < t) : Con (d + 5) 1 202 yJ4_append_cf468 cJ4_append_cf468 2 (some (FieldType.object "java/lang/StringBuilder")) [.ref 92, .int t] (HH b Y M) (fun o k => o = .inl (some (.ref 92)) ∧ ∃ b2 N n2, k = HH b2 Y N ∧ sbI b2 N n2 ∧ n2 ≤ 202 ∧ c1 + 1 ≤ n2 ∧ sbG M N ∧ N 92 3 = nI (c1 + 1)) := by
  refine Con.of (by decide +kernel) (Nat.le_of_ble_eq_true rfl) rfl fun p l e s m args below meth c D tyc A ad0 x hr htab hname => ?_
  change JJ _ _ _ _ _ _ _ _ _ _ _ _ _ _ _ _ _ 0 [some (.ref 92), some (.int t)] [] _ 0 0
  refine j_aload_n x dJ4_append_cf468_0 rfl ?_
  refine j_iload_n x dJ4_append_cf468_1 rfl ?_
  refine j_callSU x dJ4_append_cf468_2 (c_appC5 (d := d) (Y := Y) hb hI hn hc hc1 ht) ⟨wsame_J5_append_3fe6f, wsup_J4, t_J5_append_3fe6f, wi_java_lang_AbstractStringBuilder, q_J5_append_3fe6f, ⟨by decide, (by show _ = some 1; decide +kernel)⟩, by decide⟩ wmJ4_50 jc_1 (show 92 < b.2.1 by omega) rfl rfl (Nat.le_of_ble_eq_true rfl) (j_fit_rm (by omega) (Nat.le_of_ble_eq_true rfl) (Nat.le_of_ble_eq_true rfl)) rfl (fun E k z => by cases z.1) (fun v h1 hQ => ?_)
  obtain ⟨ho, b1, N1, n1, rfl, hI1, hn1, hm1, hG1, hc2⟩ := hQ
  cases ho
  change JJ _ _ _ _ _ _ _ _ _ _ _ _ _ _ _ _ _ _ _ [.ref 92] (HH b1 Y N1) _ _
  refine j_pop x dJ4_append_cf468_5 rfl ?_
  refine j_aload_n x dJ4_append_cf468_6 rfl ?_
  exact j_areturn x hr (Or.inl ⟨_, rfl⟩) dJ4_append_cf468_7 (Nat.le_of_ble_eq_true rfl) (Nat.le_of_ble_eq_true rfl) ⟨rfl, b1, N1, n1, rfl, hI1, hn1, hm1, hG1, hc2⟩
theorem c_appI {d : Nat} {b : SBt} {Y : OUt} {M : MM} (hb : 104 ≤ b.2.1) {n : Nat} (hI : sbI b M n) (hn : n ≤ 202) {c1 : Nat} (hc : M 92 3 = nI c1) (hc1 : c1 < 90) {v1 : Nat} (hv : v1 < 10000) : Con (d + 5) 1 202 yJ4_append_bf812 cJ4_append_bf812 2 (some (FieldType.object "java/lang/StringBuilder")) [.ref 92, .int (nI v1)] (HH b Y M) (fun o k => o = .inl (some (.ref 92)) ∧ ∃ b2 N n2, k = HH b2 Y N ∧ sbI b2 N n2 ∧ n2 ≤ 202 ∧ c1 + dg v1 ≤ n2 ∧ sbG M N ∧ N 92 3 = nI (c1 + dg v1)) := by
  refine Con.of (by decide +kernel) (Nat.le_of_ble_eq_true rfl) rfl fun p l e s m args below meth c D tyc A ad0 x hr htab hname => ?_
  change JJ _ _ _ _ _ _ _ _ _ _ _ _ _ _ _ _ _ 0 [some (.ref 92), some (.int (nI v1))] [] _ 0 0
  refine j_aload_n x dJ4_append_bf812_0 rfl ?_
  refine j_iload_n x dJ4_append_bf812_1 rfl ?_
  refine j_callSU x dJ4_append_bf812_2 (c_appI5 (d := d) (Y := Y) hb hI hn hc hc1 hv) ⟨wsame_J5_append_c97b9, wsup_J4, t_J5_append_c97b9, wi_java_lang_AbstractStringBuilder, q_J5_append_c97b9, ⟨by decide, (by show _ = some 1; decide +kernel)⟩, by decide⟩ wmJ4_53 jc_1 (show 92 < b.2.1 by omega) rfl rfl (Nat.le_of_ble_eq_true rfl) (j_fit_rm (by omega) (Nat.le_of_ble_eq_true rfl) (Nat.le_of_ble_eq_true rfl)) rfl (fun E k z => by cases z.1) (fun v h1 hQ => ?_)
  obtain ⟨ho, b1, N1, n1, rfl, hI1, hn1, hm1, hG1, hc2⟩ := hQ
  cases ho
  change JJ _ _ _ _ _ _ _ _ _ _ _ _ _ _ _ _ _ _ _ [.ref 92] (HH b1 Y N1) _ _
  refine j_pop x dJ4_append_bf812_5 rfl ?_
  refine j_aload_n x dJ4_append_bf812_6 rfl ?_
  exact j_areturn x hr (Or.inl ⟨_, rfl⟩) dJ4_append_bf812_7 (Nat.le_of_ble_eq_true rfl) (Nat.le_of_ble_eq_true rfl) ⟨rfl, b1, N1, n1, rfl, hI1, hn1, hm1, hG1, hc2⟩
theorem c_setLen5 {d : Nat} {b : SBt} {Y : OUt} {M : MM} (hb : 104 ≤ b.2.1) {n : Nat} (hI : sbI b M n) (hn : n ≤ 202) {c1 : Nat} (hc : M 92 3 = nI c1) (hc1 : c1 < 2 ^ 31)  : Con (d + 2) 0 0 yJ5_setLength_d00df cJ5_setLength_d00df 2 none [.ref 92, .int 0] (HH b Y M) (fun o k => o = .inl none ∧ ∃ N, k = HH b Y N ∧ sbI b N n ∧ sbG M N ∧ N 92 3 = 0) := by
  have hc3 : c1 < 2 ^ 31 := hc1
  have hcx := hc
  have hB1 := isB_ne hI.1
  refine Con.of (by decide +kernel) (Nat.le_of_ble_eq_true rfl) rfl fun p l e s m args below meth c D tyc A ad0 x hr htab hname => ?_
  change JJ _ _ _ _ _ _ _ _ _ _ _ _ _ _ _ _ _ 0 [some (.ref 92), some (.int 0)] [] _ 0 0
  refine j_iload_n x dJ5_setLength_d00df_0 rfl ?_
  refine j_if_ge (tgt := 13) x dJ5_setLength_d00df_1 (by decide) (fun hc => ?_) (fun hc => absurd (by decide) hc)
  refine j_aload_n x dJ5_setLength_d00df_13 rfl ?_
  refine j_iload_n x dJ5_setLength_d00df_14 rfl ?_
  refine j_callVU x dJ5_setLength_d00df_15 (c_ensure_no (d := d) (Y := Y) (m1 := 0) hb hI (Nat.zero_le n) (by omega)) mU_ensure wmJ5_100 jc_1 rfl (show 92 < _ from Nat.lt_of_lt_of_le (by decide) hb) rfl rfl (Nat.le_of_ble_eq_true rfl) (j_fit_rm (by omega) (by omega) (by omega)) rfl jres_no (fun v h1 hQ => ?_); obtain ⟨rfl, rfl⟩ : v = none ∧ h1 = HH b Y M := ⟨by have := hQ.1; cases this; rfl, hQ.2⟩; change JJ _ _ _ _ _ _ _ _ _ _ _ _ _ _ _ _ _ _ _ [] (HH b Y M) _ _
  refine j_aload_n x dJ5_setLength_d00df_18 rfl ?_
  refine j2_geti (k := 3) x hb dJ5_setLength_d00df_19 jc_1 wfJ5_79 (by decide) rfl ?_; rw [hcx]
  refine j_iload_n x dJ5_setLength_d00df_22 rfl ?_
  refine j_icmp_ge (tgt := 63) x dJ5_setLength_d00df_23 (by decide) (fun hc => ?_) (fun hc => absurd (nI_pos' (by omega)) hc)
  refine j_aload_n x dJ5_setLength_d00df_63 rfl ?_
  refine j2_geti (k := 3) x hb dJ5_setLength_d00df_64 jc_1 wfJ5_79 (by decide) rfl ?_; rw [hcx]
  refine j_iload_n x dJ5_setLength_d00df_67 rfl ?_
  refine j_icmp_le (tgt := 76) x dJ5_setLength_d00df_68 (by decide) (fun g1 => ?_) (fun g1 => ?_)
  · refine j_aload_n x dJ5_setLength_d00df_76 rfl ?_
    refine j_iload_n x dJ5_setLength_d00df_77 rfl ?_
    refine j2_puti (k := 3) x hb dJ5_setLength_d00df_78 jc_1 wfJ5_79 (by decide) rfl rfl rfl rfl ?_
    exact j_return x hr dJ5_setLength_d00df_81 (by omega) (by omega) ⟨rfl, _, rfl, ⟨hI.1, hI.2.1, hI.2.2.1, hI.2.2.2.1, (jm_n (by omega)).trans hI.2.2.2.2.1, fun k => by rw [jm_n (by omega)]; exact hI.2.2.2.2.2 k⟩, fun i k z => jm_n (by omega), jm_s⟩
  · refine j_aload_n x dJ5_setLength_d00df_71 rfl ?_
    refine j_iconst (v := 1) x dJ5_setLength_d00df_72 (by decide) ?_
    refine j2_puti (k := 2) x hb dJ5_setLength_d00df_73 jc_1 wfJ5_73 (by decide) rfl rfl rfl rfl ?_
    refine j_aload_n x dJ5_setLength_d00df_76 rfl ?_
    refine j_iload_n x dJ5_setLength_d00df_77 rfl ?_
    refine j2_puti (k := 3) x hb dJ5_setLength_d00df_78 jc_1 wfJ5_79 (by decide) rfl rfl rfl rfl ?_
    exact j_return x hr dJ5_setLength_d00df_81 (by omega) (by omega) ⟨rfl, _, rfl, ⟨hI.1, hI.2.1, hI.2.2.1, hI.2.2.2.1, (jm_n (by omega)).trans ((jm_n (by omega)).trans hI.2.2.2.2.1), fun k => by rw [jm_n (by omega), jm_n (by omega)]; exact hI.2.2.2.2.2 k⟩, fun i k z => (jm_n (by omega)).trans (jm_n (by omega)), jm_s⟩
theorem c_setLen {d : Nat} {b : SBt} {Y : OUt} {M : MM} (hb : 104 ≤ b.2.1) {n : Nat} (hI : sbI b M n) (hn : n ≤ 202) {c1 : Nat} (hc : M 92 3 = nI c1) (hc1 : c1 < 2 ^ 31) : Con (d + 3) 0 0 yJ4_setLength_d00df cJ4_setLength_d00df 2 none [.ref 92, .int 0] (HH b Y M) (fun o k => o = .inl none ∧ ∃ N, k = HH b Y N ∧ sbI b N n ∧ sbG M N ∧ N 92 3 = 0) := by
  refine Con.of (by decide +kernel) (Nat.le_of_ble_eq_true rfl) rfl fun p l e s m args below meth c D tyc A ad0 x hr htab hname => ?_
  change JJ _ _ _ _ _ _ _ _ _ _ _ _ _ _ _ _ _ 0 [some (.ref 92), some (.int 0)] [] _ 0 0
  refine j_aload_n x dJ4_setLength_d00df_0 rfl ?_
  refine j_iload_n x dJ4_setLength_d00df_1 rfl ?_
  refine j_callSU x dJ4_setLength_d00df_2 (c_setLen5 (d := d) (Y := Y) hb hI hn hc hc1) ⟨wsame_J5_setLength_d00df, wsup_J4, t_J5_setLength_d00df, wi_java_lang_AbstractStringBuilder, q_J5_setLength_d00df, ⟨by decide, (by show _ = some 1; decide +kernel)⟩, by decide⟩ wmJ4_333 jc_1 (show 92 < b.2.1 by omega) rfl rfl (Nat.le_of_ble_eq_true rfl) (j_fit_rm (by omega) (by omega) (by omega)) rfl (fun E k z => by cases z.1) (fun v h1 hQ => ?_)
  obtain ⟨ho, N1, rfl, hI1, hG1, hc2⟩ := hQ
  cases ho
  change JJ _ _ _ _ _ _ _ _ _ _ _ _ _ _ _ _ _ _ _ [] (HH b Y N1) _ _
  exact j_return x hr dJ4_setLength_d00df_5 (by omega) (by omega) ⟨rfl, N1, rfl, hI1, hG1, hc2⟩
theorem c_pcheck_n {d : Nat} {b : SBt} {Y : OUt} {M : MM} (hb : 104 ≤ b.2.1) {i1 n1 : Nat} (h : i1 < n1) (hn : n1 < 1000) : CM (d) 0 0 yJ3_checkIndex_8e157 cJ3_checkIndex_8e157 3 (some .int) [.int (nI i1), .int (nI n1), .null] b Y M (.inl (some (.int (nI i1)))) (M) := by
  refine Con.of (by decide +kernel) (Nat.le_of_ble_eq_true rfl) rfl fun p l e s m args below meth c D tyc A ad0 x hr htab hname => ?_
  change JJ _ _ _ _ _ _ _ _ _ _ _ _ _ _ _ _ _ 0 [some (.int (nI i1)), some (.int (nI n1)), some (.null)] [] _ 0 0
  refine j_iload_n x dJ3_checkIndex_8e157_0 rfl ?_
  refine j_if_lt (tgt := 9) x dJ3_checkIndex_8e157_1 (by decide) (fun hc => absurd hc (nI_pos (by omega))) (fun hc => ?_)
  refine j_iload_n x dJ3_checkIndex_8e157_4 rfl ?_
  refine j_iload_n x dJ3_checkIndex_8e157_5 rfl ?_
  refine j_icmp_lt (tgt := 16) x dJ3_checkIndex_8e157_6 (by decide) (fun hc => ?_) (fun hc => absurd (nI_lt h (by omega)) hc)
  refine j_iload_n x dJ3_checkIndex_8e157_16 rfl ?_
  exact j_ireturn x hr dJ3_checkIndex_8e157_17 (by omega) (by omega) ⟨rfl, rfl⟩
theorem c_pcheck_r {d : Nat} {b : SBt} {Y : OUt} {M : MM} (hb : 104 ≤ b.2.1) {a1 : Nat} {i1 n1 : Nat} (h : i1 < n1) (hn : n1 < 1000) : CM (d) 0 0 yJ3_checkIndex_8e157 cJ3_checkIndex_8e157 3 (some .int) [.int (nI i1), .int (nI n1), .retAddr a1] b Y M (.inl (some (.int (nI i1)))) (M) := by
  refine Con.of (by decide +kernel) (Nat.le_of_ble_eq_true rfl) rfl fun p l e s m args below meth c D tyc A ad0 x hr htab hname => ?_
  change JJ _ _ _ _ _ _ _ _ _ _ _ _ _ _ _ _ _ 0 [some (.int (nI i1)), some (.int (nI n1)), some (.retAddr a1)] [] _ 0 0
  refine j_iload_n x dJ3_checkIndex_8e157_0 rfl ?_
  refine j_if_lt (tgt := 9) x dJ3_checkIndex_8e157_1 (by decide) (fun hc => absurd hc (nI_pos (by omega))) (fun hc => ?_)
  refine j_iload_n x dJ3_checkIndex_8e157_4 rfl ?_
  refine j_iload_n x dJ3_checkIndex_8e157_5 rfl ?_
  refine j_icmp_lt (tgt := 16) x dJ3_checkIndex_8e157_6 (by decide) (fun hc => ?_) (fun hc => absurd (nI_lt h (by omega)) hc)
  refine j_iload_n x dJ3_checkIndex_8e157_16 rfl ?_
  exact j_ireturn x hr dJ3_checkIndex_8e157_17 (by omega) (by omega) ⟨rfl, rfl⟩
theorem c_check {d : Nat} {b : SBt} {Y : OUt} {M : MM} (hb : 104 ≤ b.2.1) {i1 n1 : Nat} (h : i1 < n1) (hn : n1 < 1000) : CM (d + 1) 0 0 yJ0_checkIndex_df160 cJ0_checkIndex_df160 2 none [.int (nI i1), .int (nI n1)] b Y M (.inl none) (M) := by
  refine Con.of (by decide +kernel) (Nat.le_of_ble_eq_true rfl) rfl fun p l e s m args below meth c D tyc A ad0 x hr htab hname => ?_
  change JJ _ _ _ _ _ _ _ _ _ _ _ _ _ _ _ _ _ 0 [some (.int (nI i1)), some (.int (nI n1))] [] _ 0 0
  refine j_iload_n x dJ0_checkIndex_df160_0 rfl ?_
  refine j_iload_n x dJ0_checkIndex_df160_1 rfl ?_
  rcases x.2.2.2.2.2.2.2.2.2.2.2.2.2.2.2.2.1 with hZ | ⟨a1, hZ⟩
  · refine j_getsN x dJ0_checkIndex_df160_2 hZ wfJ0_1053 ?_
    refine j2_callSi x hb dJ0_checkIndex_df160_5 m_J3_checkIndex_8e157 (c_pcheck_n (d := d) hb h hn) wmJ0_1059 rfl (Nat.le_of_ble_eq_true rfl) (j_fit_rm (by omega) (by omega) (by omega)) rfl ?_
    refine j_pop x dJ0_checkIndex_df160_8 rfl ?_
    exact j_return x hr dJ0_checkIndex_df160_9 (by omega) (by omega) ⟨rfl, rfl⟩
  · refine j_getsR x dJ0_checkIndex_df160_2 hZ wfJ0_1053 ?_
    refine j2_callSi x hb dJ0_checkIndex_df160_5 m_J3_checkIndex_8e157 (c_pcheck_r (d := d) hb h hn) wmJ0_1059 rfl (Nat.le_of_ble_eq_true rfl) (j_fit_rm (by omega) (by omega) (by omega)) rfl ?_
    refine j_pop x dJ0_checkIndex_df160_8 rfl ?_
    exact j_return x hr dJ0_checkIndex_df160_9 (by omega) (by omega) ⟨rfl, rfl⟩
theorem i2c_n (v : Int32) : ∃ q, q < 65536 ∧ (v.toUInt32 % 65536).toInt32 = nI q := by
  refine ⟨(v.toUInt32 % 65536).toNat, ?_, ?_⟩
  · rw [UInt32.toNat_mod]; exact Nat.mod_lt _ (by decide)
  · have h : ∀ u : UInt32, u.toInt32 = Int32.ofNat u.toNat := fun u => by
      apply Int32.toBitVec_inj.mp
      show u.toBitVec = BitVec.ofNat 32 u.toBitVec.toNat
      simp
    exact h _
theorem i2c_nar (v : Int32) : narrow .char (.int ((v.toUInt32 % 65536).toInt32)) = .int ((v.toUInt32 % 65536).toInt32) := by
  obtain ⟨q, h1, h2⟩ := i2c_n v
  rw [h2]; exact (pk_charN h1).1
theorem c_charAt5 {d : Nat} {b : SBt} {Y : OUt} {M : MM} (hb : 104 ≤ b.2.1) {n : Nat} (hI : sbI b M n) (hn : n ≤ 202) {c1 : Nat} (hc : M 92 3 = nI c1) {i1 : Nat} (h1 : i1 < c1) (h2 : c1 ≤ n) : CM (d + 2) 0 0 yJ5_charAt_5068e cJ5_charAt_5068e 5 (some .char) [.ref 92, .int (nI i1)] b Y M (.inl (some (.int (((M b.1 i1 &&& 255).toUInt32 % 65536).toInt32)))) (M) := by
  refine Con.of (by decide +kernel) (Nat.le_of_ble_eq_true rfl) rfl fun p l e s m args below meth c D tyc A ad0 x hr htab hname => ?_
  change JJ _ _ _ _ _ _ _ _ _ _ _ _ _ _ _ _ _ 0 [some (.ref 92), some (.int (nI i1)), none, none, none] [] _ 0 0
  refine j_aload_n x dJ5_charAt_5068e_0 rfl ?_
  refine j2_geti (k := 1) x hb dJ5_charAt_5068e_1 jc_1 wfJ5_22 (by decide) rfl ?_; rw [hI.2.2.2.2.1]
  refine j_istore_n x dJ5_charAt_5068e_4 (by decide) rfl ?_
  refine j_aload_n x dJ5_charAt_5068e_5 rfl ?_
  refine j2_vget x hb dJ5_charAt_5068e_6 wfJ5_15 ?_
  refine j_astore_n x dJ5_charAt_5068e_9 (by decide) rfl ?_
  refine j_aload_n x dJ5_charAt_5068e_10 rfl ?_
  refine j2_geti (k := 3) x hb dJ5_charAt_5068e_11 jc_1 wfJ5_79 (by decide) rfl ?_; rw [hc]
  refine j_aload_n x dJ5_charAt_5068e_14 rfl ?_
  refine j2_blen x hI.1 hI.2.1 hI.2.2.2.1 dJ5_charAt_5068e_15 ?_
  refine j_iload_n x dJ5_charAt_5068e_16 rfl ?_
  refine j_ishr x dJ5_charAt_5068e_17 ?_; rw [shr0]
  refine j_min x wmath dJ5_charAt_5068e_18 wmJ5_138 (Nat.le_of_ble_eq_true rfl) (Nat.zero_le _) (Nat.zero_le _) ?_; rw [if_neg (nI_nlt h2 (by omega))]
  refine j_istore x dJ5_charAt_5068e_21 (by decide) rfl ?_
  refine j_iload_n x dJ5_charAt_5068e_23 rfl ?_
  refine j_iload x dJ5_charAt_5068e_24 rfl ?_
  refine j2_callSv x hb dJ5_charAt_5068e_26 m_J0_checkIndex_df160 (c_check (d := d) hb h1 (by omega)) wmJ5_144 rfl (Nat.le_of_ble_eq_true rfl) (j_fit_rm (by omega) (by omega) (by omega)) rfl ?_
  refine j_iload_n x dJ5_charAt_5068e_29 rfl ?_
  refine j_if_ne (tgt := 42) x dJ5_charAt_5068e_30 (by decide) (fun hc => absurd hc (fun q => q rfl)) (fun hc => ?_)
  refine j_aload_n x dJ5_charAt_5068e_33 rfl ?_
  refine j_iload_n x dJ5_charAt_5068e_34 rfl ?_
  refine j2_bld x hI.1 hI.2.1 hI.2.2.2.1 dJ5_charAt_5068e_35 (vp_in_nI (show i1 < n by omega) (by omega)) (by rw [nI_clamp (by omega)]) ?_
  refine j_sipush (v := 255) x dJ5_charAt_5068e_36 (by decide) ?_
  refine j_iand x dJ5_charAt_5068e_39 ?_
  refine j_i2c x dJ5_charAt_5068e_40 ?_
  exact j_zreturn x hr dJ5_charAt_5068e_41 (i2c_nar _) (by omega) (by omega) ⟨rfl, rfl⟩
theorem c_charAt {d : Nat} {b : SBt} {Y : OUt} {M : MM} (hb : 104 ≤ b.2.1) {n : Nat} (hI : sbI b M n) (hn : n ≤ 202) {c1 : Nat} (hc : M 92 3 = nI c1) {i1 : Nat} (h1 : i1 < c1) (h2 : c1 ≤ n) : CM (d + 3) 0 0 yJ4_charAt_5068e cJ4_charAt_5068e 2 (some .char) [.ref 92, .int (nI i1)] b Y M (.inl (some (.int (((M b.1 i1 &&& 255).toUInt32 % 65536).toInt32)))) (M) := by
  refine Con.of (by decide +kernel) (Nat.le_of_ble_eq_true rfl) rfl fun p l e s m args below meth c D tyc A ad0 x hr htab hname => ?_
  change JJ _ _ _ _ _ _ _ _ _ _ _ _ _ _ _ _ _ 0 [some (.ref 92), some (.int (nI i1))] [] _ 0 0
  refine j_aload_n x dJ4_charAt_5068e_0 rfl ?_
  refine j_iload_n x dJ4_charAt_5068e_1 rfl ?_
  refine j_callSU x dJ4_charAt_5068e_2 (c_charAt5 (d := d) (Y := Y) hb hI hn hc h1 h2) ⟨wsame_J5_charAt_5068e, wsup_J4, t_J5_charAt_5068e, wi_java_lang_AbstractStringBuilder, q_J5_charAt_5068e, ⟨by decide, (by show _ = some 1; decide +kernel)⟩, by decide⟩ wmJ4_329 jc_1 (show 92 < b.2.1 by omega) rfl rfl (Nat.le_of_ble_eq_true rfl) (j_fit_rm (by omega) (by omega) (by omega)) rfl jres_no (fun v h1 hQ => ?_)
  obtain ⟨rfl, rfl⟩ : v = some (.int (((M b.1 i1 &&& 255).toUInt32 % 65536).toInt32)) ∧ h1 = HH b Y M := ⟨by have := hQ.1; cases this; rfl, hQ.2⟩
  exact j_zreturn x hr dJ4_charAt_5068e_5 (i2c_nar _) (by omega) (by omega) ⟨rfl, rfl⟩
end

section
/-! ===== the class's line; a character of it ===== -/
theorem sbI_c {b : SBt} {M N : MM} {n : Nat} (h : sbI b M n) (hN : ∀ i k, ¬ (i < 92 ∨ (93 < i ∧ i < 104)) → N i k = M i k) : sbI b N n := by
  obtain ⟨h1, h2, h3, h4, h5, h6⟩ := h
  have := isB_ne h1
  exact ⟨h1, h2, h3, h4, by rw [hN 92 1 (by omega)]; exact h5, fun k => by rw [hN b.1 k (by omega)]; exact h6 k⟩
theorem c_line {d : Nat} {b : SBt} {Y : OUt} {M : MM} (hb : 104 ≤ b.2.1) {t0 : Nat} (ht0 : t0 < 8) (hT : ¬ nI t0 < 0 ∧ ¬ M 1 0 ≤ nI t0) {n : Nat} (hn : n ≤ 56) (hm : jmc M = nI n) {w : Nat} (hw : w ≤ 8) (h0 : M 1 0 = nI w) {z0 : Nat} (hI : sbI b M z0) (hz : z0 ≤ 202) {c1 : Nat} (hc : M 92 3 = nI c1) (hc1 : c1 < 2 ^ 31) (hv : ∀ i, 76 ≤ i → i ≤ 81 → ∃ v, v < 10000 ∧ jat 8 (jcount M n i) (nI t0) = nI v) : Con (d + 6) 14 2828 yX5_line cX5_line 2 (some .int) [.ref 0, .int (nI t0)] (HH b Y M) (fun o k => ∃ c1 b2 N n2, c1 ≤ 100 ∧ o = .inl (some (.int (nI c1))) ∧ k = HH b2 Y N ∧ sbI b2 N n2 ∧ n2 ≤ 202 ∧ c1 ≤ n2 ∧ sbG (jcount M n) N ∧ N 92 3 = nI c1) := by
  have hb0 := hb
  obtain ⟨v76, w76, hv76⟩ := hv 76 (by omega) (by omega)
  obtain ⟨v77, w77, hv77⟩ := hv 77 (by omega) (by omega)
  obtain ⟨v78, w78, hv78⟩ := hv 78 (by omega) (by omega)
  obtain ⟨v79, w79, hv79⟩ := hv 79 (by omega) (by omega)
  obtain ⟨v80, w80, hv80⟩ := hv 80 (by omega) (by omega)
  obtain ⟨v81, w81, hv81⟩ := hv 81 (by omega) (by omega)
  have d0 := dg_le t0
  have d76 := dg_le v76
  have d77 := dg_le v77
  have d78 := dg_le v78
  have d79 := dg_le v79
  have d80 := dg_le v80
  have d81 := dg_le v81
  have hI0 : sbI b (jcount M n) z0 := sbI_c hI fun i k q => jcount_n (by omega)
  have hn0 := hz
  have hc0 : jcount M n 92 3 = nI c1 := by rw [jcount_n (by omega)]; exact hc
  refine Con.of (by decide +kernel) (Nat.le_of_ble_eq_true rfl) rfl fun p l e s m args below meth c D tyc A ad0 x hr htab hname => ?_
  change JJ _ _ _ _ _ _ _ _ _ _ _ _ _ _ _ _ _ 0 [some (.ref 0), some (.int (nI t0))] [] _ 0 0
  refine j_aload_n x dX5_line_0 rfl ?_
  refine j_iload_n x dX5_line_1 rfl ?_
  refine j2_callVi x hb0 dX5_line_2 m_X5_isTeam (CM_v (c_isTeam (d := d) hb) (jb_t hT)) wmX5_174 jc_9 rfl rfl rfl (Nat.le_of_ble_eq_true rfl) (j_fit_rm (by omega) (by omega) (by omega)) rfl ?_
  refine j_if_ne (tgt := 18) x dX5_line_5 (by decide) (fun hc => ?_) (fun hc => absurd hc (by decide))
  refine j_aload_n x dX5_line_18 rfl ?_
  refine j2_callVv x hb0 dX5_line_19 m_X5_count (c_count (d := d) hb0 hn hm) wmX5_187 jc_9 rfl rfl rfl (Nat.le_of_ble_eq_true rfl) (j_fit_rm (by omega) (by omega) (by omega)) rfl ?_
  refine j_aload_n x dX5_line_22 rfl ?_
  refine j2_getr (k := 13) (r := 92) x hb0 dX5_line_23 jc_9 wfX5_58 (by decide) rfl ?_
  refine j_iconst (v := 0) x dX5_line_26 (by decide) ?_
  refine j_callV x dX5_line_27 (c_setLen (d := d) (Y := Y) hb0 hI0 hn0 hc0 hc1) m_J4_setLength_d00df wmX5_354 jc_1 rfl (show 92 < _ from Nat.lt_of_lt_of_le (by decide) hb0) rfl rfl (Nat.le_of_ble_eq_true rfl) (j_fit_rm (by omega) (by omega) (by omega)) rfl (fun E k z => by cases z.1) (fun v h1 hQ => ?_)
  obtain ⟨ho, N1, rfl, hI1, hG1, hc1⟩ := hQ
  cases ho
  change JJ _ _ _ _ _ _ _ _ _ _ _ _ _ _ _ _ _ _ _ [] (HH b Y N1) _ _
  have hb1 := hb0
  have hn1 := hn0
  have hc1 : N1 92 3 = nI 0 := hc1
  refine j_aload_n x dX5_line_30 rfl ?_
  refine j2_getr (k := 13) (r := 92) x hb1 dX5_line_31 jc_9 wfX5_58 (by decide) rfl ?_
  refine j_iload_n x dX5_line_34 rfl ?_
  refine j_callV x dX5_line_35 (c_appI (d := d) (Y := Y) hb1 hI1 hn1 hc1 (by omega) (v1 := t0) (by omega)) m_J4_append_bf812 wmX5_357 jc_1 rfl (show 92 < _ from Nat.lt_of_lt_of_le (by decide) hb1) rfl rfl (Nat.le_of_ble_eq_true rfl) (j_fit_rm (by omega) (Nat.le_of_ble_eq_true rfl) (Nat.le_of_ble_eq_true rfl)) rfl (fun E k z => by cases z.1) (fun v h1 hQ => ?_)
  obtain ⟨ho, b2, N2, n2, rfl, hI2, hn2, hm2, hF2, hc2⟩ := hQ
  cases ho
  change JJ _ _ _ _ _ _ _ _ _ _ _ _ _ _ _ _ _ _ _ [.ref 92] (HH b2 Y N2) _ _
  have hb2 : 104 ≤ b2.2.1 := hI2.2.2.1
  have hG2 := sbG_t hG1 hF2
  refine j_bipush (v := 58) x dX5_line_38 (by decide) ?_
  refine j_callV x dX5_line_40 (c_appC (d := d) (Y := Y) hb2 hI2 hn2 hc2 (by omega) (t := 58) (by decide)) m_J4_append_cf468 wmX5_361 jc_1 rfl (show 92 < _ from Nat.lt_of_lt_of_le (by decide) hb2) rfl rfl (Nat.le_of_ble_eq_true rfl) (j_fit_rm (by omega) (Nat.le_of_ble_eq_true rfl) (Nat.le_of_ble_eq_true rfl)) rfl (fun E k z => by cases z.1) (fun v h1 hQ => ?_)
  obtain ⟨ho, b3, N3, n3, rfl, hI3, hn3, hm3, hF3, hc3⟩ := hQ
  cases ho
  change JJ _ _ _ _ _ _ _ _ _ _ _ _ _ _ _ _ _ _ _ [.ref 92] (HH b3 Y N3) _ _
  have hb3 : 104 ≤ b3.2.1 := hI3.2.2.1
  have hG3 := sbG_t hG2 hF3
  refine j_aload_n x dX5_line_43 rfl ?_
  refine j2_getr (k := 5) (r := 75) x hb3 dX5_line_44 jc_9 wfX5_36 (by decide) rfl ?_
  refine j2_getr (k := 3) (r := 76) x hb3 dX5_line_47 jc_7 wfX5_190 (by decide) rfl ?_
  refine j_iload_n x dX5_line_50 rfl ?_
  refine j2_callSi x hb3 dX5_line_51 m_X5_at (c_at (d := d) hb3 fa_76 (by decide)) wmX5_93 rfl (Nat.le_of_ble_eq_true rfl) (j_fit_rm (by omega) (Nat.le_of_ble_eq_true rfl) (Nat.le_of_ble_eq_true rfl)) rfl ?_
  rw [show jat 8 (N3 76) (nI t0) = nI v76 from (congrArg (fun f => jat 8 f (nI t0)) (funext fun q => hG3 76 q (by omega))).trans hv76]
  refine j_callV x dX5_line_54 (c_appI (d := d) (Y := Y) hb3 hI3 hn3 hc3 (by omega) (v1 := v76) (by omega)) m_J4_append_bf812 wmX5_357 jc_1 rfl (show 92 < _ from Nat.lt_of_lt_of_le (by decide) hb3) rfl rfl (Nat.le_of_ble_eq_true rfl) (j_fit_rm (by omega) (Nat.le_of_ble_eq_true rfl) (Nat.le_of_ble_eq_true rfl)) rfl (fun E k z => by cases z.1) (fun v h1 hQ => ?_)
  obtain ⟨ho, b4, N4, n4, rfl, hI4, hn4, hm4, hF4, hc4⟩ := hQ
  cases ho
  change JJ _ _ _ _ _ _ _ _ _ _ _ _ _ _ _ _ _ _ _ [.ref 92] (HH b4 Y N4) _ _
  have hb4 : 104 ≤ b4.2.1 := hI4.2.2.1
  have hG4 := sbG_t hG3 hF4
  refine j_pop x dX5_line_57 rfl ?_
  refine j_aload_n x dX5_line_58 rfl ?_
  refine j2_getr (k := 13) (r := 92) x hb4 dX5_line_59 jc_9 wfX5_58 (by decide) rfl ?_
  refine j_bipush (v := 32) x dX5_line_62 (by decide) ?_
  refine j_callV x dX5_line_64 (c_appC (d := d) (Y := Y) hb4 hI4 hn4 hc4 (by omega) (t := 32) (by decide)) m_J4_append_cf468 wmX5_361 jc_1 rfl (show 92 < _ from Nat.lt_of_lt_of_le (by decide) hb4) rfl rfl (Nat.le_of_ble_eq_true rfl) (j_fit_rm (by omega) (Nat.le_of_ble_eq_true rfl) (Nat.le_of_ble_eq_true rfl)) rfl (fun E k z => by cases z.1) (fun v h1 hQ => ?_)
  obtain ⟨ho, b5, N5, n5, rfl, hI5, hn5, hm5, hF5, hc5⟩ := hQ
  cases ho
  change JJ _ _ _ _ _ _ _ _ _ _ _ _ _ _ _ _ _ _ _ [.ref 92] (HH b5 Y N5) _ _
  have hb5 : 104 ≤ b5.2.1 := hI5.2.2.1
  have hG5 := sbG_t hG4 hF5
  refine j_aload_n x dX5_line_67 rfl ?_
  refine j2_getr (k := 5) (r := 75) x hb5 dX5_line_68 jc_9 wfX5_36 (by decide) rfl ?_
  refine j2_getr (k := 4) (r := 77) x hb5 dX5_line_71 jc_7 wfX5_193 (by decide) rfl ?_
  refine j_iload_n x dX5_line_74 rfl ?_
  refine j2_callSi x hb5 dX5_line_75 m_X5_at (c_at (d := d) hb5 fa_77 (by decide)) wmX5_93 rfl (Nat.le_of_ble_eq_true rfl) (j_fit_rm (by omega) (Nat.le_of_ble_eq_true rfl) (Nat.le_of_ble_eq_true rfl)) rfl ?_
  rw [show jat 8 (N5 77) (nI t0) = nI v77 from (congrArg (fun f => jat 8 f (nI t0)) (funext fun q => hG5 77 q (by omega))).trans hv77]
  refine j_callV x dX5_line_78 (c_appI (d := d) (Y := Y) hb5 hI5 hn5 hc5 (by omega) (v1 := v77) (by omega)) m_J4_append_bf812 wmX5_357 jc_1 rfl (show 92 < _ from Nat.lt_of_lt_of_le (by decide) hb5) rfl rfl (Nat.le_of_ble_eq_true rfl) (j_fit_rm (by omega) (Nat.le_of_ble_eq_true rfl) (Nat.le_of_ble_eq_true rfl)) rfl (fun E k z => by cases z.1) (fun v h1 hQ => ?_)
  obtain ⟨ho, b6, N6, n6, rfl, hI6, hn6, hm6, hF6, hc6⟩ := hQ
  cases ho
  change JJ _ _ _ _ _ _ _ _ _ _ _ _ _ _ _ _ _ _ _ [.ref 92] (HH b6 Y N6) _ _
  have hb6 : 104 ≤ b6.2.1 := hI6.2.2.1
  have hG6 := sbG_t hG5 hF6
  refine j_pop x dX5_line_81 rfl ?_
  refine j_aload_n x dX5_line_82 rfl ?_
  refine j2_getr (k := 13) (r := 92) x hb6 dX5_line_83 jc_9 wfX5_58 (by decide) rfl ?_
  refine j_bipush (v := 45) x dX5_line_86 (by decide) ?_
  refine j_callV x dX5_line_88 (c_appC (d := d) (Y := Y) hb6 hI6 hn6 hc6 (by omega) (t := 45) (by decide)) m_J4_append_cf468 wmX5_361 jc_1 rfl (show 92 < _ from Nat.lt_of_lt_of_le (by decide) hb6) rfl rfl (Nat.le_of_ble_eq_true rfl) (j_fit_rm (by omega) (Nat.le_of_ble_eq_true rfl) (Nat.le_of_ble_eq_true rfl)) rfl (fun E k z => by cases z.1) (fun v h1 hQ => ?_)
  obtain ⟨ho, b7, N7, n7, rfl, hI7, hn7, hm7, hF7, hc7⟩ := hQ
  cases ho
  change JJ _ _ _ _ _ _ _ _ _ _ _ _ _ _ _ _ _ _ _ [.ref 92] (HH b7 Y N7) _ _
  have hb7 : 104 ≤ b7.2.1 := hI7.2.2.1
  have hG7 := sbG_t hG6 hF7
  refine j_aload_n x dX5_line_91 rfl ?_
  refine j2_getr (k := 5) (r := 75) x hb7 dX5_line_92 jc_9 wfX5_36 (by decide) rfl ?_
  refine j2_getr (k := 5) (r := 78) x hb7 dX5_line_95 jc_7 wfX5_196 (by decide) rfl ?_
  refine j_iload_n x dX5_line_98 rfl ?_
  refine j2_callSi x hb7 dX5_line_99 m_X5_at (c_at (d := d) hb7 fa_78 (by decide)) wmX5_93 rfl (Nat.le_of_ble_eq_true rfl) (j_fit_rm (by omega) (Nat.le_of_ble_eq_true rfl) (Nat.le_of_ble_eq_true rfl)) rfl ?_
  rw [show jat 8 (N7 78) (nI t0) = nI v78 from (congrArg (fun f => jat 8 f (nI t0)) (funext fun q => hG7 78 q (by omega))).trans hv78]
  refine j_callV x dX5_line_102 (c_appI (d := d) (Y := Y) hb7 hI7 hn7 hc7 (by omega) (v1 := v78) (by omega)) m_J4_append_bf812 wmX5_357 jc_1 rfl (show 92 < _ from Nat.lt_of_lt_of_le (by decide) hb7) rfl rfl (Nat.le_of_ble_eq_true rfl) (j_fit_rm (by omega) (Nat.le_of_ble_eq_true rfl) (Nat.le_of_ble_eq_true rfl)) rfl (fun E k z => by cases z.1) (fun v h1 hQ => ?_)
  obtain ⟨ho, b8, N8, n8, rfl, hI8, hn8, hm8, hF8, hc8⟩ := hQ
  cases ho
  change JJ _ _ _ _ _ _ _ _ _ _ _ _ _ _ _ _ _ _ _ [.ref 92] (HH b8 Y N8) _ _
  have hb8 : 104 ≤ b8.2.1 := hI8.2.2.1
  have hG8 := sbG_t hG7 hF8
  refine j_pop x dX5_line_105 rfl ?_
  refine j_aload_n x dX5_line_106 rfl ?_
  refine j2_getr (k := 13) (r := 92) x hb8 dX5_line_107 jc_9 wfX5_58 (by decide) rfl ?_
  refine j_bipush (v := 45) x dX5_line_110 (by decide) ?_
  refine j_callV x dX5_line_112 (c_appC (d := d) (Y := Y) hb8 hI8 hn8 hc8 (by omega) (t := 45) (by decide)) m_J4_append_cf468 wmX5_361 jc_1 rfl (show 92 < _ from Nat.lt_of_lt_of_le (by decide) hb8) rfl rfl (Nat.le_of_ble_eq_true rfl) (j_fit_rm (by omega) (Nat.le_of_ble_eq_true rfl) (Nat.le_of_ble_eq_true rfl)) rfl (fun E k z => by cases z.1) (fun v h1 hQ => ?_)
  obtain ⟨ho, b9, N9, n9, rfl, hI9, hn9, hm9, hF9, hc9⟩ := hQ
  cases ho
  change JJ _ _ _ _ _ _ _ _ _ _ _ _ _ _ _ _ _ _ _ [.ref 92] (HH b9 Y N9) _ _
  have hb9 : 104 ≤ b9.2.1 := hI9.2.2.1
  have hG9 := sbG_t hG8 hF9
  refine j_aload_n x dX5_line_115 rfl ?_
  refine j2_getr (k := 5) (r := 75) x hb9 dX5_line_116 jc_9 wfX5_36 (by decide) rfl ?_
  refine j2_getr (k := 6) (r := 79) x hb9 dX5_line_119 jc_7 wfX5_199 (by decide) rfl ?_
  refine j_iload_n x dX5_line_122 rfl ?_
  refine j2_callSi x hb9 dX5_line_123 m_X5_at (c_at (d := d) hb9 fa_79 (by decide)) wmX5_93 rfl (Nat.le_of_ble_eq_true rfl) (j_fit_rm (by omega) (Nat.le_of_ble_eq_true rfl) (Nat.le_of_ble_eq_true rfl)) rfl ?_
  rw [show jat 8 (N9 79) (nI t0) = nI v79 from (congrArg (fun f => jat 8 f (nI t0)) (funext fun q => hG9 79 q (by omega))).trans hv79]
  refine j_callV x dX5_line_126 (c_appI (d := d) (Y := Y) hb9 hI9 hn9 hc9 (by omega) (v1 := v79) (by omega)) m_J4_append_bf812 wmX5_357 jc_1 rfl (show 92 < _ from Nat.lt_of_lt_of_le (by decide) hb9) rfl rfl (Nat.le_of_ble_eq_true rfl) (j_fit_rm (by omega) (Nat.le_of_ble_eq_true rfl) (Nat.le_of_ble_eq_true rfl)) rfl (fun E k z => by cases z.1) (fun v h1 hQ => ?_)
  obtain ⟨ho, b10, N10, n10, rfl, hI10, hn10, hm10, hF10, hc10⟩ := hQ
  cases ho
  change JJ _ _ _ _ _ _ _ _ _ _ _ _ _ _ _ _ _ _ _ [.ref 92] (HH b10 Y N10) _ _
  have hb10 : 104 ≤ b10.2.1 := hI10.2.2.1
  have hG10 := sbG_t hG9 hF10
  refine j_pop x dX5_line_129 rfl ?_
  refine j_aload_n x dX5_line_130 rfl ?_
  refine j2_getr (k := 13) (r := 92) x hb10 dX5_line_131 jc_9 wfX5_58 (by decide) rfl ?_
  refine j_bipush (v := 32) x dX5_line_134 (by decide) ?_
  refine j_callV x dX5_line_136 (c_appC (d := d) (Y := Y) hb10 hI10 hn10 hc10 (by omega) (t := 32) (by decide)) m_J4_append_cf468 wmX5_361 jc_1 rfl (show 92 < _ from Nat.lt_of_lt_of_le (by decide) hb10) rfl rfl (Nat.le_of_ble_eq_true rfl) (j_fit_rm (by omega) (Nat.le_of_ble_eq_true rfl) (Nat.le_of_ble_eq_true rfl)) rfl (fun E k z => by cases z.1) (fun v h1 hQ => ?_)
  obtain ⟨ho, b11, N11, n11, rfl, hI11, hn11, hm11, hF11, hc11⟩ := hQ
  cases ho
  change JJ _ _ _ _ _ _ _ _ _ _ _ _ _ _ _ _ _ _ _ [.ref 92] (HH b11 Y N11) _ _
  have hb11 : 104 ≤ b11.2.1 := hI11.2.2.1
  have hG11 := sbG_t hG10 hF11
  refine j_aload_n x dX5_line_139 rfl ?_
  refine j2_getr (k := 5) (r := 75) x hb11 dX5_line_140 jc_9 wfX5_36 (by decide) rfl ?_
  refine j2_getr (k := 7) (r := 80) x hb11 dX5_line_143 jc_7 wfX5_202 (by decide) rfl ?_
  refine j_iload_n x dX5_line_146 rfl ?_
  refine j2_callSi x hb11 dX5_line_147 m_X5_at (c_at (d := d) hb11 fa_80 (by decide)) wmX5_93 rfl (Nat.le_of_ble_eq_true rfl) (j_fit_rm (by omega) (Nat.le_of_ble_eq_true rfl) (Nat.le_of_ble_eq_true rfl)) rfl ?_
  rw [show jat 8 (N11 80) (nI t0) = nI v80 from (congrArg (fun f => jat 8 f (nI t0)) (funext fun q => hG11 80 q (by omega))).trans hv80]
  refine j_callV x dX5_line_150 (c_appI (d := d) (Y := Y) hb11 hI11 hn11 hc11 (by omega) (v1 := v80) (by omega)) m_J4_append_bf812 wmX5_357 jc_1 rfl (show 92 < _ from Nat.lt_of_lt_of_le (by decide) hb11) rfl rfl (Nat.le_of_ble_eq_true rfl) (j_fit_rm (by omega) (Nat.le_of_ble_eq_true rfl) (Nat.le_of_ble_eq_true rfl)) rfl (fun E k z => by cases z.1) (fun v h1 hQ => ?_)
  obtain ⟨ho, b12, N12, n12, rfl, hI12, hn12, hm12, hF12, hc12⟩ := hQ
  cases ho
  change JJ _ _ _ _ _ _ _ _ _ _ _ _ _ _ _ _ _ _ _ [.ref 92] (HH b12 Y N12) _ _
  have hb12 : 104 ≤ b12.2.1 := hI12.2.2.1
  have hG12 := sbG_t hG11 hF12
  refine j_pop x dX5_line_153 rfl ?_
  refine j_aload_n x dX5_line_154 rfl ?_
  refine j2_getr (k := 13) (r := 92) x hb12 dX5_line_155 jc_9 wfX5_58 (by decide) rfl ?_
  refine j_bipush (v := 58) x dX5_line_158 (by decide) ?_
  refine j_callV x dX5_line_160 (c_appC (d := d) (Y := Y) hb12 hI12 hn12 hc12 (by omega) (t := 58) (by decide)) m_J4_append_cf468 wmX5_361 jc_1 rfl (show 92 < _ from Nat.lt_of_lt_of_le (by decide) hb12) rfl rfl (Nat.le_of_ble_eq_true rfl) (j_fit_rm (by omega) (Nat.le_of_ble_eq_true rfl) (Nat.le_of_ble_eq_true rfl)) rfl (fun E k z => by cases z.1) (fun v h1 hQ => ?_)
  obtain ⟨ho, b13, N13, n13, rfl, hI13, hn13, hm13, hF13, hc13⟩ := hQ
  cases ho
  change JJ _ _ _ _ _ _ _ _ _ _ _ _ _ _ _ _ _ _ _ [.ref 92] (HH b13 Y N13) _ _
  have hb13 : 104 ≤ b13.2.1 := hI13.2.2.1
  have hG13 := sbG_t hG12 hF13
  refine j_aload_n x dX5_line_163 rfl ?_
  refine j2_getr (k := 5) (r := 75) x hb13 dX5_line_164 jc_9 wfX5_36 (by decide) rfl ?_
  refine j2_getr (k := 8) (r := 81) x hb13 dX5_line_167 jc_7 wfX5_205 (by decide) rfl ?_
  refine j_iload_n x dX5_line_170 rfl ?_
  refine j2_callSi x hb13 dX5_line_171 m_X5_at (c_at (d := d) hb13 fa_81 (by decide)) wmX5_93 rfl (Nat.le_of_ble_eq_true rfl) (j_fit_rm (by omega) (Nat.le_of_ble_eq_true rfl) (Nat.le_of_ble_eq_true rfl)) rfl ?_
  rw [show jat 8 (N13 81) (nI t0) = nI v81 from (congrArg (fun f => jat 8 f (nI t0)) (funext fun q => hG13 81 q (by omega))).trans hv81]
  refine j_callV x dX5_line_174 (c_appI (d := d) (Y := Y) hb13 hI13 hn13 hc13 (by omega) (v1 := v81) (by omega)) m_J4_append_bf812 wmX5_357 jc_1 rfl (show 92 < _ from Nat.lt_of_lt_of_le (by decide) hb13) rfl rfl (Nat.le_of_ble_eq_true rfl) (j_fit_rm (by omega) (Nat.le_of_ble_eq_true rfl) (Nat.le_of_ble_eq_true rfl)) rfl (fun E k z => by cases z.1) (fun v h1 hQ => ?_)
  obtain ⟨ho, b14, N14, n14, rfl, hI14, hn14, hm14, hF14, hc14⟩ := hQ
  cases ho
  change JJ _ _ _ _ _ _ _ _ _ _ _ _ _ _ _ _ _ _ _ [.ref 92] (HH b14 Y N14) _ _
  have hb14 : 104 ≤ b14.2.1 := hI14.2.2.1
  have hG14 := sbG_t hG13 hF14
  refine j_pop x dX5_line_177 rfl ?_
  refine j_aload_n x dX5_line_178 rfl ?_
  refine j_iload_n x dX5_line_179 rfl ?_
  refine j2_callVi x hb14 dX5_line_180 m_X5_isBeyondOthers (c_isBeyondOthers (d := d) hb14 hw (by rw [hG14 1 0 (by omega), jcount_n (by omega)]; exact h0)) wmX5_282 jc_9 rfl rfl rfl (Nat.le_of_ble_eq_true rfl) (j_fit_rm (by omega) (Nat.le_of_ble_eq_true rfl) (Nat.le_of_ble_eq_true rfl)) rfl ?_
  refine j_if_eq (tgt := 199) x dX5_line_183 (by decide) (fun g1 => ?_) (fun g1 => ?_)
  · refine j_aload_n x dX5_line_199 rfl ?_
    refine j_iload_n x dX5_line_200 rfl ?_
    refine j2_callVi x hb14 dX5_line_201 m_X5_isBehindAnother (c_isBehindAnother (d := d) hb14 hw (by rw [hG14 1 0 (by omega), jcount_n (by omega)]; exact h0)) wmX5_285 jc_9 rfl rfl rfl (Nat.le_of_ble_eq_true rfl) (j_fit_rm (by omega) (Nat.le_of_ble_eq_true rfl) (Nat.le_of_ble_eq_true rfl)) rfl ?_
    refine j_if_eq (tgt := 217) x dX5_line_204 (by decide) (fun g2 => ?_) (fun g2 => ?_)
    · refine j_aload_n x dX5_line_217 rfl ?_
      refine j2_getr (k := 13) (r := 92) x hb14 dX5_line_218 jc_9 wfX5_58 (by decide) rfl ?_
      refine j2_callVi x hb14 dX5_line_221 m_J4_length_8abf5 (CM_v (c_sbLength (d := d) hb14) hc14) wmX5_364 jc_1 rfl rfl rfl (Nat.le_of_ble_eq_true rfl) (j_fit_rm (by omega) (Nat.le_of_ble_eq_true rfl) (Nat.le_of_ble_eq_true rfl)) rfl ?_
      exact j_ireturn x hr dX5_line_224 (Nat.le_of_ble_eq_true rfl) (Nat.le_of_ble_eq_true rfl) ⟨0 + dg t0 + 1 + dg v76 + 1 + dg v77 + 1 + dg v78 + 1 + dg v79 + 1 + dg v80 + 1 + dg v81, b14, N14, n14, by omega, rfl, rfl, hI14, hn14, hm14, hG14, hc14⟩
    · refine j_aload_n x dX5_line_207 rfl ?_
      refine j2_getr (k := 13) (r := 92) x hb14 dX5_line_208 jc_9 wfX5_58 (by decide) rfl ?_
      refine j_bipush (v := 120) x dX5_line_211 (by decide) ?_
      refine j_callV x dX5_line_213 (c_appC (d := d) (Y := Y) hb14 hI14 hn14 hc14 (by omega) (t := 120) (by decide)) m_J4_append_cf468 wmX5_361 jc_1 rfl (show 92 < _ from Nat.lt_of_lt_of_le (by decide) hb14) rfl rfl (Nat.le_of_ble_eq_true rfl) (j_fit_rm (by omega) (Nat.le_of_ble_eq_true rfl) (Nat.le_of_ble_eq_true rfl)) rfl (fun E k z => by cases z.1) (fun v h1 hQ => ?_)
      obtain ⟨ho, b15, N15, n15, rfl, hI15, hn15, hm15, hF15, hc15⟩ := hQ
      cases ho
      change JJ _ _ _ _ _ _ _ _ _ _ _ _ _ _ _ _ _ _ _ [.ref 92] (HH b15 Y N15) _ _
      have hb15 : 104 ≤ b15.2.1 := hI15.2.2.1
      have hG15 := sbG_t hG14 hF15
      refine j_pop x dX5_line_216 rfl ?_
      refine j_aload_n x dX5_line_217 rfl ?_
      refine j2_getr (k := 13) (r := 92) x hb15 dX5_line_218 jc_9 wfX5_58 (by decide) rfl ?_
      refine j2_callVi x hb15 dX5_line_221 m_J4_length_8abf5 (CM_v (c_sbLength (d := d) hb15) hc15) wmX5_364 jc_1 rfl rfl rfl (Nat.le_of_ble_eq_true rfl) (j_fit_rm (by omega) (Nat.le_of_ble_eq_true rfl) (Nat.le_of_ble_eq_true rfl)) rfl ?_
      exact j_ireturn x hr dX5_line_224 (Nat.le_of_ble_eq_true rfl) (Nat.le_of_ble_eq_true rfl) ⟨0 + dg t0 + 1 + dg v76 + 1 + dg v77 + 1 + dg v78 + 1 + dg v79 + 1 + dg v80 + 1 + dg v81 + 1, b15, N15, n15, by omega, rfl, rfl, hI15, hn15, hm15, hG15, hc15⟩
  · refine j_aload_n x dX5_line_186 rfl ?_
    refine j2_getr (k := 13) (r := 92) x hb14 dX5_line_187 jc_9 wfX5_58 (by decide) rfl ?_
    refine j_bipush (v := 42) x dX5_line_190 (by decide) ?_
    refine j_callV x dX5_line_192 (c_appC (d := d) (Y := Y) hb14 hI14 hn14 hc14 (by omega) (t := 42) (by decide)) m_J4_append_cf468 wmX5_361 jc_1 rfl (show 92 < _ from Nat.lt_of_lt_of_le (by decide) hb14) rfl rfl (Nat.le_of_ble_eq_true rfl) (j_fit_rm (by omega) (Nat.le_of_ble_eq_true rfl) (Nat.le_of_ble_eq_true rfl)) rfl (fun E k z => by cases z.1) (fun v h1 hQ => ?_)
    obtain ⟨ho, b15, N15, n15, rfl, hI15, hn15, hm15, hF15, hc15⟩ := hQ
    cases ho
    change JJ _ _ _ _ _ _ _ _ _ _ _ _ _ _ _ _ _ _ _ [.ref 92] (HH b15 Y N15) _ _
    have hb15 : 104 ≤ b15.2.1 := hI15.2.2.1
    have hG15 := sbG_t hG14 hF15
    refine j_pop x dX5_line_195 rfl ?_
    refine j_goto (tgt := 217) x dX5_line_196 (by decide) ?_
    refine j_aload_n x dX5_line_217 rfl ?_
    refine j2_getr (k := 13) (r := 92) x hb15 dX5_line_218 jc_9 wfX5_58 (by decide) rfl ?_
    refine j2_callVi x hb15 dX5_line_221 m_J4_length_8abf5 (CM_v (c_sbLength (d := d) hb15) hc15) wmX5_364 jc_1 rfl rfl rfl (Nat.le_of_ble_eq_true rfl) (j_fit_rm (by omega) (Nat.le_of_ble_eq_true rfl) (Nat.le_of_ble_eq_true rfl)) rfl ?_
    exact j_ireturn x hr dX5_line_224 (Nat.le_of_ble_eq_true rfl) (Nat.le_of_ble_eq_true rfl) ⟨0 + dg t0 + 1 + dg v76 + 1 + dg v77 + 1 + dg v78 + 1 + dg v79 + 1 + dg v80 + 1 + dg v81 + 1, b15, N15, n15, by omega, rfl, rfl, hI15, hn15, hm15, hG15, hc15⟩
theorem c_character {d : Nat} {b : SBt} {Y : OUt} {M : MM} (hb : 104 ≤ b.2.1) {n : Nat} (hI : sbI b M n) (hn : n ≤ 202) {c1 : Nat} (hcl : M 92 3 = nI c1) {i1 : Nat} (h1 : i1 < c1) (h2 : c1 ≤ n) : CM (d + 4) 0 0 yX5_character cX5_character 2 (some .char) [.ref 0, .int (nI i1)] b Y M (.inl (some (.int (((M b.1 i1 &&& 255).toUInt32 % 65536).toInt32)))) (M) := by
  refine Con.of (by decide +kernel) (Nat.le_of_ble_eq_true rfl) rfl fun p l e s m args below meth c D tyc A ad0 x hr htab hname => ?_
  change JJ _ _ _ _ _ _ _ _ _ _ _ _ _ _ _ _ _ 0 [some (.ref 0), some (.int (nI i1))] [] _ 0 0
  refine j_iload_n x dX5_character_0 rfl ?_
  refine j_if_lt (tgt := 15) x dX5_character_1 (by decide) (fun hc => absurd hc (nI_pos (by omega))) (fun hc => ?_)
  refine j_iload_n x dX5_character_4 rfl ?_
  refine j_aload_n x dX5_character_5 rfl ?_
  refine j2_getr (k := 13) (r := 92) x hb dX5_character_6 jc_9 wfX5_58 (by decide) rfl ?_
  refine j2_callVi x hb dX5_character_9 m_J4_length_8abf5 (CM_v (c_sbLength (d := d) hb) hcl) wmX5_364 jc_1 rfl rfl rfl (Nat.le_of_ble_eq_true rfl) (j_fit_rm (by omega) (by omega) (by omega)) rfl ?_
  refine j_icmp_lt (tgt := 26) x dX5_character_12 (by decide) (fun hc => ?_) (fun hc => absurd (nI_lt h1 (by omega)) hc)
  refine j_aload_n x dX5_character_26 rfl ?_
  refine j2_getr (k := 13) (r := 92) x hb dX5_character_27 jc_9 wfX5_58 (by decide) rfl ?_
  refine j_iload_n x dX5_character_30 rfl ?_
  refine j2_callVi x hb dX5_character_31 m_J4_charAt_5068e (c_charAt (d := d) hb hI hn hcl h1 h2) wmX5_368 jc_1 rfl rfl rfl (Nat.le_of_ble_eq_true rfl) (j_fit_rm (by omega) (by omega) (by omega)) rfl ?_
  exact j_zreturn x hr dX5_character_34 (i2c_nar _) (by omega) (by omega) ⟨rfl, rfl⟩
theorem c_character_bad {d : Nat} {b : SBt} {Y : OUt} {M : MM} (hb : 104 ≤ b.2.1) {c1 : Nat} (hcl : M 92 3 = nI c1) (hc1 : c1 < 2 ^ 31) {t : Int32} (ht : ¬ (¬ t < 0 ∧ ¬ nI c1 ≤ t)) : CM (d + 2) 1 6 yX5_character cX5_character 2 (some .char) [.ref 0, .int t] b Y M (.inr "java/lang/IndexOutOfBoundsException") (M) := by
  refine Con.of (by decide +kernel) (Nat.le_of_ble_eq_true rfl) rfl fun p l e s m args below meth c D tyc A ad0 x hr htab hname => ?_
  change JJ _ _ _ _ _ _ _ _ _ _ _ _ _ _ _ _ _ 0 [some (.ref 0), some (.int t)] [] _ 0 0
  refine j_iload_n x dX5_character_0 rfl ?_
  refine j_if_lt (tgt := 15) x dX5_character_1 (by decide) (fun g1 => ?_) (fun g1 => ?_)
  · exact j_throwSW x exX5_177 wsX5_366 dX5_character_15 dX5_character_18 dX5_character_19 dX5_character_22 dX5_character_25 htab (by omega) (by omega) ⟨rfl, rfl⟩
  · refine j_iload_n x dX5_character_4 rfl ?_
    refine j_aload_n x dX5_character_5 rfl ?_
    refine j2_getr (k := 13) (r := 92) x hb dX5_character_6 jc_9 wfX5_58 (by decide) rfl ?_
    refine j2_callVi x hb dX5_character_9 m_J4_length_8abf5 (CM_v (c_sbLength (d := d) hb) hcl) wmX5_364 jc_1 rfl rfl rfl (Nat.le_of_ble_eq_true rfl) (j_fit_rm (by omega) (by omega) (by omega)) rfl ?_
    refine j_icmp_lt (tgt := 26) x dX5_character_12 (by decide) (fun hc => absurd hc (fun q => ht ⟨g1, Int32.not_le.mpr q⟩)) (fun hc => ?_)
    exact j_throwSW x exX5_177 wsX5_366 dX5_character_15 dX5_character_18 dX5_character_19 dX5_character_22 dX5_character_25 htab (by omega) (by omega) ⟨rfl, rfl⟩
end
