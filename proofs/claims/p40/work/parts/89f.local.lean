/-! ===== a StringBuilder of the law's own: cell 0, its rows from 1 on ===== -/
def hTlG : List Nat := [1]
def hNlG : List Nat := [4]
def hRlG : List (List (Nat × Nat)) := [[]]
def hTG (i : Nat) : Nat := hTlG.getD i 102
def hNG (i : Nat) : Nat := hNlG.getD i 0
def hRG (i k : Nat) : Option Nat := (hRlG.getD i []).lookup k
def hLenG (b : SBt) (i : Nat) : Nat := if i < 1 then hNG i else b.2.2 i
def hFG (b : SBt) (Y : OUt) (M : MM) (i k : Nat) : Value := if i + 1 = 0 then .long (Y.1 k) else if i + 2 = 0 then .double (Y.2 k) else if i = 0 ∧ k = 0 then .ref b.1 else match hRG i k with
  | some r => .ref r
  | none => .int (M i k)
def HHG (b : SBt) (Y : OUt) (M : MM) : MH := (b.2.1, fun i => (hTG i, hLenG b i, hFG b Y M i))
def fIG (i k ci N : Nat) : Bool := decide (i < 1) && (hTG i == ci) && (hNG i == N) && !(i == 0 && k == 0) && (hRG i k).isNone
def fTG (i ci : Nat) : Bool := decide (i < 1) && (hTG i == ci)
theorem fI_specG {i k ci N : Nat} (h : fIG i k ci N = true) (b : SBt) (Y : OUt) (M : MM) : i < 1 ∧ hTG i = ci ∧ hNG i = N ∧ hFG b Y M i k = .int (M i k) ∧ ¬ (i = 0 ∧ k = 0) ∧ hRG i k = none := by
  simp only [fIG, Bool.and_eq_true, decide_eq_true_eq, beq_iff_eq, Bool.not_eq_true', Bool.and_eq_false_iff, beq_eq_false_iff_ne, Option.isNone_iff_eq_none] at h
  obtain ⟨⟨⟨⟨h1, h2⟩, h3⟩, h4⟩, h5⟩ := h
  have h6 : ¬ (i = 0 ∧ k = 0) := fun q => h4.elim (fun z => z q.1) (fun z => z q.2)
  refine ⟨h1, h2, h3, ?_, h6, h5⟩
  unfold hFG
  rw [if_neg (by omega), if_neg (by omega), if_neg h6, h5]
theorem hLen_loG {b : SBt} {i : Nat} (h : i < 1) : hLenG b i = hNG i := if_pos h
theorem HH_wrG {b : SBt} {Y : OUt} {M : MM} {i k : Nat} {v : Int32} (h : ¬ (i = 0 ∧ k = 0)) (h1 : i < 1) (hr : hRG i k = none) : j_fld (HHG b Y M) i k (.int v) = HHG b Y (jm M i k v) := by
  refine Prod.ext rfl (funext fun a => ?_)
  show ju (HHG b Y M).2 i _ a = _
  by_cases ha : a = i
  · subst ha
    rw [ju_s]
    show (hTG a, hLenG b a, ju (hFG b Y M a) k (.int v)) = (hTG a, hLenG b a, hFG b Y (jm M a k v) a)
    congr 2
    funext j
    by_cases hj : j = k
    · subst hj
      rw [ju_s]
      unfold hFG
      rw [if_neg (by omega), if_neg (by omega), if_neg h, hr]
      simp [jm]
    · rw [ju_n hj]
      unfold hFG
      rw [jm_n (fun q => hj q.2)]
  · rw [ju_n ha]
    show (hTG a, hLenG b a, hFG b Y M a) = (hTG a, hLenG b a, hFG b Y (jm M i k v) a)
    congr 2
    funext j
    unfold hFG
    rw [jm_n (fun q => ha q.1)]
def jresG (b : SBt) (Y : OUt) (o0 : MO) (M1 : MM) : MO → MH → Prop := fun o k => o = o0 ∧ k = HHG b Y M1
abbrev CMG (d mc ms : Nat) (y : MethodName) (cc : ByteArray) (maxL : Nat) (ret : Option FieldType) (as : List Value) (b : SBt) (Y : OUt) (M : MM) (o : MO) (M1 : MM) : Prop := Con d mc ms y cc maxL ret as (HHG b Y M) (jresG b Y o M1)
theorem jres_noG {b : SBt} {Y : OUt} {v : Option Value} {M1 : MM} : ∀ E k, ¬ jresG b Y (.inl v) M1 (.inr E) k := fun _ _ h => by cases h.1
section GS
variable {p : Program} {l : Launch} {e : Env} {R : Room} {s : State} {m : MethodId} {args : Array Value} {below : List Frame} {meth : Method} {c : Code} {D : va_G} {tyc : Nat → ClassId} {A : Nat → Prop} {n0 : Nat} {ad0 : Nat → Nat} {nL : Nat} {Q : State → Prop}
variable {own : String} {cc : ByteArray} {pc : Nat} {L : List (Option Value)} {st : List Value} {b : SBt} {Y : OUt} {M : MM} {cells slots : Nat}
theorem j2_getiG (x : j_X p l s m args meth c D tyc A own cc nL) (hb : 1 ≤ b.2.1) {i k idx ci : Nat} {q : vw_C} {ty : Nat → FieldType} (hd : decode cc pc = .ok (.getfield idx, 3)) (hq : j_cls ci q ty) (hw : Cond.fieldLink own idx (q.2.1 k).1 (q.2.1 k).2.1 (q.2.1 k).2.2.1 ∈ j_all) (hk : k < q.2.2) (hf : fIG i k ci q.2.2 = true) (kk : JJ p l e R s m args below meth c D tyc A n0 ad0 nL Q (pc + 3) (L) (.int (M i k) :: st) (HHG b Y (M)) (cells) (slots)) : JJ p l e R s m args below meth c D tyc A n0 ad0 nL Q (pc) (L) (.ref i :: st) (HHG b Y (M)) (cells) (slots) := by
  obtain ⟨h1, h2, h3, h4, -⟩ := fI_specG hf b Y M
  refine j_get x hd hq hw hk (show i < b.2.1 by omega) h2 ((hLen_loG (by omega)).trans h3) ?_
  show JJ p l e R s m args below meth c D tyc A n0 ad0 nL Q (pc + 3) L (hFG b Y M i k :: st) (HHG b Y M) cells slots
  rw [h4]
  exact kk
theorem j2_putiG (x : j_X p l s m args meth c D tyc A own cc nL) (hb : 1 ≤ b.2.1) {i k idx ci : Nat} {q : vw_C} {ty : Nat → FieldType} {v : Int32} (hd : decode cc pc = .ok (.putfield idx, 3)) (hq : j_cls ci q ty) (hw : Cond.fieldLink own idx (q.2.1 k).1 (q.2.1 k).2.1 (q.2.1 k).2.2.1 ∈ j_all) (hk : k < q.2.2) (hfin : (q.2.1 k).2.2.2 = false) (hna : narrow (ty k) (.int v) = .int v) (hfi : fits (ty k) (.int v) = true) (hf : fIG i k ci q.2.2 = true) (kk : JJ p l e R s m args below meth c D tyc A n0 ad0 nL Q (pc + 3) (L) (st) (HHG b Y (jm M i k v)) (cells) (slots)) : JJ p l e R s m args below meth c D tyc A n0 ad0 nL Q (pc) (L) (.int v :: .ref i :: st) (HHG b Y (M)) (cells) (slots) := by
  obtain ⟨h1, h2, h3, h4, h5, h6⟩ := fI_specG hf b Y M
  refine j_put x hd hq hw hk hfin hna hfi (show i < b.2.1 by omega) h2 ((hLen_loG (by omega)).trans h3) ?_
  rw [HH_wrG h5 h1 h6]
  exact kk
end GS
section GS
variable {p : Program} {l : Launch} {e : Env} {R : Room} {s : State} {m : MethodId} {args : Array Value} {below : List Frame} {meth : Method} {c : Code} {D : va_G} {tyc : Nat → ClassId} {A : Nat → Prop} {n0 : Nat} {ad0 : Nat → Nat} {nL : Nat} {Q : State → Prop}
variable {own : String} {cc : ByteArray} {pc : Nat} {L : List (Option Value)} {st : List Value} {b : SBt} {Y : OUt} {M : MM} {cells slots : Nat}
variable {d1 mc1 ms1 maxL idx n : Nat} {y : MethodName} {bytes : ByteArray} {ret : Option FieldType} {as st0 : List Value} {i : Nat} {M1 : MM}
theorem j2_callViG (x : j_X p l s m args meth c D tyc A own cc nL) (hb : 1 ≤ b.2.1) {v : Int32} {ci : Nat} {q : vw_C} {ty : Nat → FieldType} (hd : decode cc pc = .ok (.invokevirtual idx, 3)) (hm : j_mV y bytes maxL ret n) (hcon : CMG d1 mc1 ms1 y bytes maxL ret (.ref i :: as) b Y M (.inl (some (.int v))) M1) (hw : Cond.methodLink own idx y ∈ j_all) (hq : j_cls ci q ty) (hqy : q.1 = y.cls) (hi : fTG i ci = true) (hn : as.length = n) (hst : st.length ≤ 4) (hfit : j_fit R d1 mc1 ms1 cells slots) (h0 : st0 = as.reverse ++ .ref i :: st) (kk : JJ p l e R s m args below meth c D tyc A n0 ad0 nL Q (pc + 3) (L) (.int v :: st) (HHG b Y (M1)) (cells + mc1) (slots + ms1)) : JJ p l e R s m args below meth c D tyc A n0 ad0 nL Q (pc) (L) (st0) (HHG b Y (M)) (cells) (slots) := by
  simp only [fTG, Bool.and_eq_true, decide_eq_true_eq, beq_iff_eq] at hi
  refine j_callV x hd hcon hm hw hq hqy (show i < b.2.1 by omega) hi.2 hn hst hfit h0 jres_noG fun v1 h1 hq1 => ?_
  obtain ⟨e1, rfl⟩ := hq1
  cases e1
  exact kk
theorem j2_callSiG (x : j_X p l s m args meth c D tyc A own cc nL) (hb : 1 ≤ b.2.1) {v : Int32} (hd : decode cc pc = .ok (.invokestatic idx, 3)) (hm : j_mS y bytes maxL ret n) (hcon : CMG d1 mc1 ms1 y bytes maxL ret as b Y M (.inl (some (.int v))) M1) (hw : Cond.methodLink own idx y ∈ j_all) (hn : as.length = n) (hst : st.length ≤ 4) (hfit : j_fit R d1 mc1 ms1 cells slots) (h0 : st0 = as.reverse ++ st) (kk : JJ p l e R s m args below meth c D tyc A n0 ad0 nL Q (pc + 3) (L) (.int v :: st) (HHG b Y (M1)) (cells + mc1) (slots + ms1)) : JJ p l e R s m args below meth c D tyc A n0 ad0 nL Q (pc) (L) (st0) (HHG b Y (M)) (cells) (slots) := by
  refine j_callS x hd hcon hm hw hn hst hfit h0 jres_noG fun v1 h1 hq1 => ?_
  obtain ⟨e1, rfl⟩ := hq1
  cases e1
  exact kk
theorem j2_callVvG (x : j_X p l s m args meth c D tyc A own cc nL) (hb : 1 ≤ b.2.1)  {ci : Nat} {q : vw_C} {ty : Nat → FieldType} (hd : decode cc pc = .ok (.invokevirtual idx, 3)) (hm : j_mV y bytes maxL ret n) (hcon : CMG d1 mc1 ms1 y bytes maxL ret (.ref i :: as) b Y M (.inl (none)) M1) (hw : Cond.methodLink own idx y ∈ j_all) (hq : j_cls ci q ty) (hqy : q.1 = y.cls) (hi : fTG i ci = true) (hn : as.length = n) (hst : st.length ≤ 4) (hfit : j_fit R d1 mc1 ms1 cells slots) (h0 : st0 = as.reverse ++ .ref i :: st) (kk : JJ p l e R s m args below meth c D tyc A n0 ad0 nL Q (pc + 3) (L) (st) (HHG b Y (M1)) (cells + mc1) (slots + ms1)) : JJ p l e R s m args below meth c D tyc A n0 ad0 nL Q (pc) (L) (st0) (HHG b Y (M)) (cells) (slots) := by
  simp only [fTG, Bool.and_eq_true, decide_eq_true_eq, beq_iff_eq] at hi
  refine j_callV x hd hcon hm hw hq hqy (show i < b.2.1 by omega) hi.2 hn hst hfit h0 jres_noG fun v1 h1 hq1 => ?_
  obtain ⟨e1, rfl⟩ := hq1
  cases e1
  exact kk
end GS
section GS
variable {p : Program} {l : Launch} {e : Env} {R : Room} {s : State} {m : MethodId} {args : Array Value} {below : List Frame} {meth : Method} {c : Code} {H : Heap} {locs : List Loc} {cells slots : Nat}
theorem vx_runUG {x y : MethodName} {bytes cc : ByteArray} {maxL nL mc ms n index : Nat} {ret : Option FieldType} {ws : List Cond} {rm : Room} {Pc : Array Value → State → Prop} {Qc : Array Value → State → Outcome → State → Prop} {XC : String → State → State → Prop} {free : Addr → Prop} {Ts : List Cond} {own C owner : String} {b : Addr} {As rest : List Value} {g : JFrame}
    (S : CallFix p m c cc nL s args Ts own) (hM : vx_Met l y ws rm Pc Qc XC mc ms free) (cw : va_CU R s args own C owner index x y bytes maxL ret ws rm mc ms n) (hp : PreV s H C b Pc As)
    (hg : g.method = m) (hn : As.length = n) (hsize : g.locals.size = nL) (hstack : g.stack = As.reverse ++ .ref b :: rest) (hW : 2 * g.monitorRoom + (rest.map fun v => v.category).sum ≤ 8) (hdg : decode cc g.pc = .ok (.invokevirtual index, 3)) (hf : cells + mc ≤ R.cells ∧ slots + ms ≤ R.slots) :
    vx_Run p l e R s m args below meth c H locs cells slots mc ms g rest (Qc (Value.ref b :: As).toArray) XC free := by
  obtain ⟨hrc, hrs, hfr, hlo, hws, hcw⟩ := cw.back
  have hini := cw.init
  have hK : vx_Back l R p e below s args y 3 8 (PreOf R mc ms Pc) (PostOf Qc mc ms free) (vx_Post XC mc ms free) := vx_back (bytes := bytes) (maxL := maxL) (ret := ret) hM hp.1 hrc hrs hfr hlo hws hcw (fun a' U hW => word_at hW (Or.inl (by first | rfl | simp [Cond.onTables, Cond.keeps, Cond.steady])) hini)
  obtain ⟨hx, hb, hml, ho, -⟩ := S
  obtain ⟨-, ⟨cellB, hcB, hoB, hclB⟩, hPc⟩ := hp
  intro T hTG X
  rcases vx_callVU X hx (C := C) (owner := owner) (bytes := bytes) (maxL := maxL) (ret := ret) ho cw.link cw.same cw.decl cw.notMH cw.sel cw.inst cw.code hK (by rw [hTG]; exact hcB) hoB hclB hg (hsize.trans hml.symm) (argsL := As) (rest := rest) (fun sig h => hn.trans (cw.len sig h)) hstack hW (by rw [hb]; exact hdg)
    (fun vm₁ hW₁ => ⟨hf.1, hf.2, hPc (T.setVm vm₁) hTG hW₁⟩) with ⟨v, vm₁, ⟨U', l2, c2, s2⟩, hW₁, X', ⟨g', mk, t, L, e1, e2, hq, h1, hL, h2, h3⟩, st⟩ | ⟨q, vm₁, ⟨U', l2, c2, s2⟩, hW₁, X', ⟨g', mk, t, L, E, ce, e1, e2, hq, hce, hcv, hcl, h1, hL, h2, h3⟩, st⟩
  · dsimp only [Pt.U, Pt.locs, Pt.cells, Pt.slots] at X' e1 e2 h1 h2 h3 st
    subst h1; subst h2; subst h3
    exact Or.inl ⟨v, (T.setVm vm₁).calling g' mk (Value.ref b :: As).toArray, t, U', L, hTG, X', hL, e1, e2, hq, st⟩
  · dsimp only [Pt.U, Pt.locs, Pt.cells, Pt.slots] at X' e1 e2 h1 h2 h3 st hcl
    subst h1; subst h2; subst h3
    exact Or.inr ⟨q, (T.setVm vm₁).calling g' mk (Value.ref b :: As).toArray, t, U', L, E, ce, hTG, X', hL, e1, e2, hq, hce, hcv, vx_cls hW₁ hcl, st⟩
end GS
section GS
variable {p : Program} {l : Launch} {e : Env} {R : Room} {s : State} {m : MethodId} {args : Array Value} {below : List Frame} {meth : Method} {c : Code} {D : va_G} {tyc : Nat → ClassId} {A : Nat → Prop} {n0 : Nat} {ad0 : Nat → Nat} {nL : Nat} {Qs : State → Prop} {own : String} {cc : ByteArray} {pc : Nat} {L : List (Option Value)} {st : List Value} {b : SBt} {Y : OUt} {M : MM} {h : MH} {cells slots : Nat}
variable {d1 mc1 ms1 maxL idx n : Nat} {y : MethodName} {bytes : ByteArray} {ret : Option FieldType} {Q1 : MO → MH → Prop} {as st0 : List Value} {bb : Nat}
theorem j_callVUG (x : j_X p l s m args meth c D tyc A own cc nL) {ci : Nat} {q : vw_C} {ty : Nat → FieldType} (hd : decode cc pc = .ok (.invokevirtual idx, 3)) (hcon : Con d1 mc1 ms1 y bytes maxL ret (.ref bb :: as) h Q1)
    (hm : j_mU y bytes maxL ret n) (hw : Cond.methodLink own idx y ∈ j_all) (hq : j_cls ci q ty) (hqy : q.1 = "java/lang/StringBuilder")
    (hb : bb < h.1) (htb : (h.2 bb).1 = ci) (hn : as.length = n) (hst : st.length ≤ 4) (hfit : j_fit R d1 mc1 ms1 cells slots) (h0 : st0 = as.reverse ++ .ref bb :: st) (hx : ∀ E k, ¬ Q1 (.inr E) k)
    (kk : ∀ (v : Option Value) (h1 : MH), Q1 (.inl v) h1 → JJ p l e R s m args below meth c D tyc A n0 ad0 nL Qs (pc + 3) L (v.toList ++ st) h1 (cells + mc1) (slots + ms1)) : JJ p l e R s m args below meth c D tyc A n0 ad0 nL Qs pc L st0 h cells slots := by
  subst h0
  intro ad ls H locs I
  obtain ⟨w1, w2, w3, w4, w5, w6, w7⟩ := hm
  have e0 : (as.reverse ++ .ref bb :: st).map (j_cv ad) = (as.map (j_cv ad)).reverse ++ Value.ref (ad bb) :: st.map (j_cv ad) := by rw [List.map_append, List.map_reverse]; rfl
  have I2 : j_I s D tyc A n0 ad0 nL ad L ((as.reverse ++ [.ref bb]) ++ st) h ls H locs := by rw [List.append_assoc]; exact I
  have hargs : ∀ v ∈ Value.ref bb :: as, j_ok h.1 v := fun v hv => (List.mem_cons.mp hv).elim (fun e => by rw [e]; exact j_ok_ref hb) (fun hv => I.2.2.2.2.2.2.1 v (List.mem_append_left _ (List.mem_reverse.mpr hv)))
  have hM := hcon l D tyc ad H.size x.2.2.2.2.2.2.2.2.1 I.2.2.2.2.2.1 hargs
  have he : (j_w tyc ad h)[bb]? = some (ad bb, .inr (ci, (List.range (h.2 bb).2.1).map fun k => j_cv ad ((h.2 bb).2.2 k))) := by rw [j_w_get hb, j_e_obj htb hq.2.1]
  have hsel : (Cond.selects q.1 y y).before args s = true := by
    rw [hqy]
    exact x.2.2.2.2.1 _ w7
  have hG : GoodIn j_all (Cond.code y bytes maxL ret :: j_all) := j_good (j_mem_cons w4 (fun _ h => h))
  have hdec : va_Decl s y := va_Decl.of (x.2.2.2.2.1 _ w2) (x.2.2.2.2.1 _ w4)
  rw [e0]
  refine j_run (a := (Value.ref (ad bb) :: as.map (j_cv ad)).toArray) x I2 (vx_runUG (n := n) (C := q.1) (owner := y.cls) (x := y) (As := as.map (j_cv ad)) ⟨x.1, x.2.1, x.2.2.1, x.2.2.2.1, x.2.2.2.2.1⟩ hM ⟨⟨rfl, rfl, (hfit.1 maxL w6).1, (hfit.1 maxL w6).2, pay_in x.2.2.2.2.1 hG, List.mem_cons_self⟩, x.2.2.2.2.1 _ w4, x.2.2.2.2.1 _ w3, ⟨w5.1, w5.2.1⟩, fun sig hs => ?_, x.2.2.2.2.1 _ hw, x.2.2.2.2.1 _ w1, hdec, hsel, x.2.2.2.2.1 _ w2⟩ ⟨j_B.blind, va_recv x.2.2.2.2.2.1 I.2.1 hq.1 he, fun U hU hW => ⟨rfl, j_pre x I hU hW⟩⟩ rfl (by rw [List.length_map]; exact hn) I.1.1 rfl (lv_room (j_room hst)) hd ⟨hfit.2.1, hfit.2.2⟩) (fun E h1 ad1 => j_no hx (H := #[]) E h1 ad1 ls) kk
  have h2 := w5.2.2
  rw [hs] at h2
  exact (Option.some.inj h2).symm
def isBG (i : Nat) : Prop := i = 1 ∨ 1 ≤ i
theorem isB_tG {i : Nat} (h : isBG i) : hTG i = 102 := by
  rcases h with rfl | h
  · rfl
  · rw [hTG, List.getD_eq_getElem?_getD, List.getElem?_eq_none (show hTlG.length ≤ i by rw [show hTlG.length = 1 from rfl]; exact h)]; rfl
theorem isB_rG {i k : Nat} (h : isBG i) : hRG i k = none := by
  rcases h with rfl | h
  · rfl
  · rw [hRG, List.getD_eq_getElem?_getD, List.getElem?_eq_none (Nat.le_trans (show hRlG.length ≤ 1 by decide) h)]; rfl
theorem isB_fG {i : Nat} (h : isBG i) (b : SBt) (Y : OUt) (M : MM) : hFG b Y M i = fun k => .int (M i k) := funext fun k => by
  have h1 : (¬ i + 1 = 0) ∧ (¬ i + 2 = 0) ∧ i ≠ 0 := by unfold isBG at h; omega
  rw [hFG, if_neg h1.1, if_neg h1.2.1, if_neg (fun z => h1.2.2 z.1), isB_rG h]
theorem HH_wrbG {b : SBt} {Y : OUt} {M : MM} {i k : Nat} {v : Int32} (h : isBG i) : j_fld (HHG b Y M) i k (.int v) = HHG b Y (jm M i k v) := by
  unfold j_fld j_wr HHG
  refine Prod.ext rfl (funext fun a => ?_)
  show ju (fun i => (hTG i, hLenG b i, hFG b Y M i)) i (hTG i, hLenG b i, ju (hFG b Y M i) k (.int v)) a = (hTG a, hLenG b a, hFG b Y (jm M i k v) a)
  by_cases ha : a = i
  · subst ha
    rw [ju_s, isB_fG h, isB_fG h]
    refine congrArg (fun z => (hTG a, hLenG b a, z)) (funext fun c => ?_)
    by_cases hc : c = k
    · subst hc; rw [ju_s, jm_s]
    · rw [ju_n hc, jm_n (by omega)]
  · rw [ju_n ha]
    refine congrArg (fun z => (hTG a, hLenG b a, z)) (funext fun c => ?_)
    unfold hFG
    split
    · rfl
    · split
      · rfl
      · split
        · rfl
        · split
          · rfl
          · rw [jm_n (by omega)]
theorem hF_mzG {b : SBt} {Y : OUt} {M : MM} {i a : Nat} {f : Nat → Int32} (h : a ≠ i) : hFG b Y (mz M i f) a = hFG b Y M a := funext fun k => by
  unfold hFG
  split
  · rfl
  · split
    · rfl
    · split
      · rfl
      · split
        · rfl
        · rw [mz_n h]
theorem HH_pushG {b : SBt} {Y : OUt} {M : MM} {N : Nat} (hb : 1 ≤ b.2.1) : j_push (HHG b Y M) (102, N, fun _ => .int 0) = HHG (sbp b N) Y (mz M b.2.1 fun _ => 0) := by
  unfold j_push HHG sbp
  refine Prod.ext rfl (funext fun a => ?_)
  show ju (fun i => (hTG i, hLenG b i, hFG b Y M i)) b.2.1 (102, N, fun _ => .int 0) a = _
  by_cases ha : a = b.2.1
  · subst ha
    have hB : isBG b.2.1 := Or.inr hb
    rw [ju_s]
    show _ = (hTG b.2.1, hLenG (b.1, b.2.1 + 1, fun i => if i = b.2.1 then N else b.2.2 i) b.2.1, hFG _ Y (mz M b.2.1 fun _ => 0) b.2.1)
    rw [isB_tG hB, isB_fG hB, hLenG, if_neg (by omega)]
    show _ = (102, (if b.2.1 = b.2.1 then N else b.2.2 b.2.1), fun k => Value.int (mz M b.2.1 (fun _ => 0) b.2.1 k))
    rw [if_pos rfl]
    exact congrArg (fun z => (102, N, z)) (funext fun k => by rw [mz_s])
  · rw [ju_n ha]
    show _ = (hTG a, hLenG (b.1, b.2.1 + 1, fun i => if i = b.2.1 then N else b.2.2 i) a, hFG (b.1, b.2.1 + 1, fun i => if i = b.2.1 then N else b.2.2 i) Y (mz M b.2.1 fun _ => 0) a)
    have e1 : hLenG (b.1, b.2.1 + 1, fun i => if i = b.2.1 then N else b.2.2 i) a = hLenG b a := by
      unfold hLenG
      split
      · rfl
      · exact if_neg ha
    rw [e1, hF_mzG ha]
    rfl
theorem HH_valG {b : SBt} {Y : OUt} {M : MM} {r : Nat} : j_fld (HHG b Y M) 0 0 (.ref r) = HHG (r, b.2.1, b.2.2) Y M := by
  unfold j_fld j_wr HHG
  refine Prod.ext rfl (funext fun a => ?_)
  show ju (fun i => (hTG i, hLenG b i, hFG b Y M i)) 0 (hTG 0, hLenG b 0, ju (hFG b Y M 0) 0 (.ref r)) a = (hTG a, hLenG (r, b.2.1, b.2.2) a, hFG (r, b.2.1, b.2.2) Y M a)
  by_cases ha : a = 0
  · subst ha
    rw [ju_s]
    refine congrArg (fun z => (hTG 0, hLenG b 0, z)) (funext fun c => ?_)
    by_cases hc : c = 0
    · subst hc; rw [ju_s]; rfl
    · rw [ju_n hc]
      unfold hFG
      rw [if_neg (by decide), if_neg (by decide), if_neg (by omega), if_neg (by decide), if_neg (by decide), if_neg (by omega)]
  · rw [ju_n ha]
    refine congrArg (fun z => (hTG a, hLenG b a, z)) (funext fun c => ?_)
    unfold hFG
    rw [if_neg (c := a = 0 ∧ c = 0) (fun z => ha z.1), if_neg (c := a = 0 ∧ c = 0) (fun z => ha z.1)]
theorem HH_cpbG {b : SBt} {Y : OUt} {M : MM} {a i n : Nat} (ha : isBG a) (hi : isBG i) : j_wr (HHG b Y M) i (((HHG b Y M).2 i).1, ((HHG b Y M).2 i).2.1, jcpy ((HHG b Y M).2 a).2.2 ((HHG b Y M).2 i).2.2 0 0 n) = HHG b Y (mz M i fun k => if k < n then M a k else M i k) := by
  unfold j_wr HHG
  refine Prod.ext rfl (funext fun c => ?_)
  show ju (fun i => (hTG i, hLenG b i, hFG b Y M i)) i (hTG i, hLenG b i, jcpy (hFG b Y M a) (hFG b Y M i) 0 0 n) c = (hTG c, hLenG b c, hFG b Y (mz M i fun k => if k < n then M a k else M i k) c)
  by_cases hc : c = i
  · subst hc
    rw [ju_s, isB_fG ha, isB_fG hi, isB_fG hi]
    refine congrArg (fun z => (hTG c, hLenG b c, z)) (funext fun k => ?_)
    rw [mz_s]
    unfold jcpy
    by_cases hk : k < n
    · rw [if_pos hk, if_pos (by omega)]; rw [Nat.sub_zero, Nat.zero_add]; rfl
    · rw [if_neg hk, if_neg (by omega)]
  · rw [ju_n hc, hF_mzG hc]
end GS
section GS
variable {p : Program} {l : Launch} {e : Env} {R : Room} {s : State} {m : MethodId} {args : Array Value} {below : List Frame} {meth : Method} {c : Code} {D : va_G} {tyc : Nat → ClassId} {A : Nat → Prop} {n0 : Nat} {ad0 : Nat → Nat} {nL : Nat} {Qs : State → Prop} {own : String} {cc : ByteArray} {pc : Nat} {L : List (Option Value)} {st : List Value} {b : SBt} {Y : OUt} {M : MM} {h : MH} {cells slots idx : Nat}
theorem j2_vgetG (x : j_X p l s m args meth c D tyc A own cc nL) (hb : 1 ≤ b.2.1) (hd : decode cc pc = .ok (.getfield idx, 3)) (hw : Cond.fieldLink own idx "java/lang/AbstractStringBuilder" "value" "[B" ∈ j_all) (kk : JJ p l e R s m args below meth c D tyc A n0 ad0 nL Qs (pc + 3) L (.ref b.1 :: st) (HHG b Y M) cells slots) : JJ p l e R s m args below meth c D tyc A n0 ad0 nL Qs pc L (.ref 0 :: st) (HHG b Y M) cells slots := by
  refine j_get (i := 0) (k := 0) x hd jc_1 hw (by decide) (show 0 < b.2.1 by omega) rfl (show hLenG b 0 = 4 from hLen_loG (b := b) (by decide)) ?_
  show JJ p l e R s m args below meth c D tyc A n0 ad0 nL Qs (pc + 3) L (hFG b Y M 0 0 :: st) (HHG b Y M) cells slots
  exact kk
theorem j2_vputG (x : j_X p l s m args meth c D tyc A own cc nL) (hb : 1 ≤ b.2.1) {r : Nat} (hd : decode cc pc = .ok (.putfield idx, 3)) (hw : Cond.fieldLink own idx "java/lang/AbstractStringBuilder" "value" "[B" ∈ j_all) (kk : JJ p l e R s m args below meth c D tyc A n0 ad0 nL Qs (pc + 3) L st (HHG (r, b.2.1, b.2.2) Y M) cells slots) : JJ p l e R s m args below meth c D tyc A n0 ad0 nL Qs pc L (.ref r :: .ref 0 :: st) (HHG b Y M) cells slots := by
  refine j_put (i := 0) (k := 0) (v := .ref r) x hd jc_1 hw (by decide) rfl rfl rfl (show 0 < b.2.1 by omega) rfl (show hLenG b 0 = 4 from hLen_loG (b := b) (by decide)) ?_
  rw [HH_valG]
  exact kk
theorem j2_bstG (x : j_X p l s m args meth c D tyc A own cc nL) {i n : Nat} {k v w : Int32} (hB : isBG i) (hi : i < b.2.1) (hl : hLenG b i = n) (hd : decode cc pc = .ok (.bastore, 1)) (hk : vp_in k n) (hw : vp_nar .byte v = w) (kk : JJ p l e R s m args below meth c D tyc A n0 ad0 nL Qs (pc + 1) L st (HHG b Y (jm M i k.toNatClampNeg w)) cells slots) : JJ p l e R s m args below meth c D tyc A n0 ad0 nL Qs pc L (.int v :: .int k :: .ref i :: st) (HHG b Y M) cells slots := by
  refine j_bastore x hd hi (isB_tG hB) (by show vp_in k (hLenG b i); rw [hl]; exact hk) hw ?_
  rw [HH_wrbG hB]
  exact kk
theorem j2_bldG (x : j_X p l s m args meth c D tyc A own cc nL) {i n : Nat} {k v : Int32} (hB : isBG i) (hi : i < b.2.1) (hl : hLenG b i = n) (hd : decode cc pc = .ok (.baload, 1)) (hk : vp_in k n) (hv : M i k.toNatClampNeg = v) (kk : JJ p l e R s m args below meth c D tyc A n0 ad0 nL Qs (pc + 1) L (.int v :: st) (HHG b Y M) cells slots) : JJ p l e R s m args below meth c D tyc A n0 ad0 nL Qs pc L (.int k :: .ref i :: st) (HHG b Y M) cells slots := by
  refine j_baload x hd hi (isB_tG hB) (by show vp_in k (hLenG b i); rw [hl]; exact hk) ?_ kk
  show hFG b Y M i k.toNatClampNeg = _
  rw [isB_fG hB]
  show Value.int (M i k.toNatClampNeg) = _
  rw [hv]
theorem j2_blenG (x : j_X p l s m args meth c D tyc A own cc nL) {i n : Nat} (hB : isBG i) (hi : i < b.2.1) (hl : hLenG b i = n) (hd : decode cc pc = .ok (.arraylength, 1)) (kk : JJ p l e R s m args below meth c D tyc A n0 ad0 nL Qs (pc + 1) L (.int (nI n) :: st) (HHG b Y M) cells slots) : JJ p l e R s m args below meth c D tyc A n0 ad0 nL Qs pc L (.ref i :: st) (HHG b Y M) cells slots :=
  j_alen x hd hi (isB_tG hB) (by decide) (by decide) (by show Int32.ofNat (hLenG b i) = _; rw [hl]; rfl) kk
theorem j2_bnewG (x : j_X p l s m args meth c D tyc A own cc nL) (hb : 1 ≤ b.2.1) {n : Nat} (hd : decode cc pc = .ok (.newarray .byte, 2)) (hw : Cond.arrayClass .byte ∈ j_all) (hn : n < 1000) (hc1 : cells + 1 ≤ R.cells) (hs1 : slots + n ≤ R.slots) (kk : JJ p l e R s m args below meth c D tyc A n0 ad0 nL Qs (pc + 2) L (.ref b.2.1 :: st) (HHG (sbp b n) Y (mz M b.2.1 fun _ => 0)) (cells + 1) (slots + n)) : JJ p l e R s m args below meth c D tyc A n0 ad0 nL Qs pc L (.int (nI n) :: st) (HHG b Y M) cells slots := by
  refine j_newa_byte x hd hw (nI_pos (by omega)) (nI_clamp (by omega)) (by omega) hc1 hs1 ?_
  rw [HH_pushG hb]
  exact kk
theorem j_tldG (x : j_X p l s m args meth c D tyc A own cc nL) {a k : Nat} {f : Nat → Int32} (hTG : va_T .byte a 100 (fun j => .int (f j)) A s s.heap) (hk : k < 100) (hd : decode cc pc = .ok (.baload, 1)) (kk : JJ p l e R s m args below meth c D tyc A n0 ad0 nL Qs (pc + 1) L (.int (f k) :: st) h cells slots) : JJ p l e R s m args below meth c D tyc A n0 ad0 nL Qs pc L (.int (nI k) :: .retAddr a :: st) h cells slots := by
  intro ad ls H locs I
  exact va_tb x.1 x.2.1 hTG I.2.2.2.1 (vp_in_nI hk (by decide)) (v := .int (f k)) (by rw [nI_clamp (by omega)]) hd (kk ad ls H locs (I.st fun hs => j_ok_cons j_ok_int (j_ok_tl (j_ok_tl hs))))
end GS
def sbIG (b : SBt) (M : MM) (n : Nat) : Prop := isBG b.1 ∧ b.1 < b.2.1 ∧ 1 ≤ b.2.1 ∧ hLenG b b.1 = n ∧ M 0 1 = 0 ∧ ∀ k, fits .byte (.int (M b.1 k)) = true
theorem c_isLatin1G {d : Nat} {b : SBt} {Y : OUt} {M : MM} (hb : 1 ≤ b.2.1) (hc0 : M 0 1 = 0) : CMG (d) 0 0 yJ5_isLatin1_aae02 cJ5_isLatin1_aae02 1 (some .boolean) [.ref 0] b Y M (.inl (some (.int 1))) (M) := by
  refine Con.of (by decide +kernel) (Nat.le_of_ble_eq_true rfl) rfl fun p l e s m args below meth c D tyc A ad0 x hr htab hname => ?_
  change JJ _ _ _ _ _ _ _ _ _ _ _ _ _ _ _ _ _ 0 [some (.ref 0)] [] _ 0 0
  refine j_gets x dJ5_isLatin1_aae02_0 x.2.2.2.2.2.2.2.2.2.2.2.2.2.2.1 wfJ5_18 ?_
  refine j_if_eq (tgt := 17) x dJ5_isLatin1_aae02_3 (by decide) (fun hc => absurd hc (by decide)) (fun hc => ?_)
  refine j_aload_n x dJ5_isLatin1_aae02_6 rfl ?_
  refine j2_getiG (k := 1) x hb dJ5_isLatin1_aae02_7 jc_1 wfJ5_22 (by decide) rfl ?_
  refine j_if_ne (tgt := 17) x dJ5_isLatin1_aae02_10 (by decide) (fun hc => absurd hc (fun q => q hc0)) (fun hc => ?_)
  refine j_iconst (v := 1) x dJ5_isLatin1_aae02_13 (by decide) ?_
  refine j_goto (tgt := 18) x dJ5_isLatin1_aae02_14 (by decide) ?_
  exact j_zreturn x hr dJ5_isLatin1_aae02_18 (by first | decide | with_reducible exact jb_nar | with_reducible exact jisS_nar | with_reducible exact gno_nar) (by omega) (by omega) ⟨rfl, rfl⟩
theorem c_stringSize_1G {d : Nat} {b : SBt} {Y : OUt} {M : MM} (hb : 1 ≤ b.2.1) {v : Nat} (hv : v < 10) : CMG (d) 0 0 yJ6_stringSize_0f7a4 cJ6_stringSize_0f7a4 4 (some .int) [.int (nI v)] b Y M (.inl (some (.int (nI 1)))) (M) := by
  refine Con.of (by decide +kernel) (Nat.le_of_ble_eq_true rfl) rfl fun p l e s m args below meth c D tyc A ad0 x hr htab hname => ?_
  change JJ _ _ _ _ _ _ _ _ _ _ _ _ _ _ _ _ _ 0 [some (.int (nI v)), none, none, none] [] _ 0 0
  refine j_iconst (v := 1) x dJ6_stringSize_0f7a4_0 (by decide) ?_
  refine j_istore_n x dJ6_stringSize_0f7a4_1 (by decide) rfl ?_
  refine j_iload_n x dJ6_stringSize_0f7a4_2 rfl ?_
  refine j_if_lt (tgt := 11) x dJ6_stringSize_0f7a4_3 (by decide) (fun hc => absurd hc (nI_pos (by omega))) (fun hc => ?_)
  refine j_iconst (v := 0) x dJ6_stringSize_0f7a4_6 (by decide) ?_
  refine j_istore_n x dJ6_stringSize_0f7a4_7 (by decide) rfl ?_
  refine j_iload_n x dJ6_stringSize_0f7a4_8 rfl ?_
  refine j_ineg x dJ6_stringSize_0f7a4_9 ?_
  refine j_istore_n x dJ6_stringSize_0f7a4_10 (by decide) rfl ?_
  refine j_bipush (v := (-10)) x dJ6_stringSize_0f7a4_11 (by decide) ?_
  refine j_istore_n x dJ6_stringSize_0f7a4_13 (by decide) rfl ?_
  refine j_iconst (v := 1) x dJ6_stringSize_0f7a4_14 (by decide) ?_
  refine j_istore_n x dJ6_stringSize_0f7a4_15 (by decide) rfl ?_
  refine j_iload_n x dJ6_stringSize_0f7a4_16 rfl ?_
  refine j_bipush (v := 10) x dJ6_stringSize_0f7a4_17 (by decide) ?_
  refine j_icmp_ge (tgt := 42) x dJ6_stringSize_0f7a4_19 (by decide) (fun hc => absurd hc (by decide)) (fun hc => ?_)
  refine j_iload_n x dJ6_stringSize_0f7a4_22 rfl ?_
  refine j_iload_n x dJ6_stringSize_0f7a4_23 rfl ?_
  refine j_icmp_le (tgt := 31) x dJ6_stringSize_0f7a4_24 (by decide) (fun hc => absurd hc (fun q => absurd ((neg_le (v := v) (by omega) (k := 10) (by decide)).mp q) (by omega))) (fun hc => ?_)
  refine j_iload_n x dJ6_stringSize_0f7a4_27 rfl ?_
  refine j_iload_n x dJ6_stringSize_0f7a4_28 rfl ?_
  refine j_iadd x dJ6_stringSize_0f7a4_29 ?_
  exact j_ireturn x hr dJ6_stringSize_0f7a4_30 (by omega) (by omega) ⟨congrArg (fun z => Sum.inl (some (Value.int z))) (by decide), rfl⟩
theorem c_stringSize_2G {d : Nat} {b : SBt} {Y : OUt} {M : MM} (hb : 1 ≤ b.2.1) {v : Nat} (h0 : 10 ≤ v) (hv : v < 100) : CMG (d) 0 0 yJ6_stringSize_0f7a4 cJ6_stringSize_0f7a4 4 (some .int) [.int (nI v)] b Y M (.inl (some (.int (nI 2)))) (M) := by
  refine Con.of (by decide +kernel) (Nat.le_of_ble_eq_true rfl) rfl fun p l e s m args below meth c D tyc A ad0 x hr htab hname => ?_
  change JJ _ _ _ _ _ _ _ _ _ _ _ _ _ _ _ _ _ 0 [some (.int (nI v)), none, none, none] [] _ 0 0
  refine j_iconst (v := 1) x dJ6_stringSize_0f7a4_0 (by decide) ?_
  refine j_istore_n x dJ6_stringSize_0f7a4_1 (by decide) rfl ?_
  refine j_iload_n x dJ6_stringSize_0f7a4_2 rfl ?_
  refine j_if_lt (tgt := 11) x dJ6_stringSize_0f7a4_3 (by decide) (fun hc => absurd hc (nI_pos (by omega))) (fun hc => ?_)
  refine j_iconst (v := 0) x dJ6_stringSize_0f7a4_6 (by decide) ?_
  refine j_istore_n x dJ6_stringSize_0f7a4_7 (by decide) rfl ?_
  refine j_iload_n x dJ6_stringSize_0f7a4_8 rfl ?_
  refine j_ineg x dJ6_stringSize_0f7a4_9 ?_
  refine j_istore_n x dJ6_stringSize_0f7a4_10 (by decide) rfl ?_
  refine j_bipush (v := (-10)) x dJ6_stringSize_0f7a4_11 (by decide) ?_
  refine j_istore_n x dJ6_stringSize_0f7a4_13 (by decide) rfl ?_
  refine j_iconst (v := 1) x dJ6_stringSize_0f7a4_14 (by decide) ?_
  refine j_istore_n x dJ6_stringSize_0f7a4_15 (by decide) rfl ?_
  refine j_iload_n x dJ6_stringSize_0f7a4_16 rfl ?_
  refine j_bipush (v := 10) x dJ6_stringSize_0f7a4_17 (by decide) ?_
  refine j_icmp_ge (tgt := 42) x dJ6_stringSize_0f7a4_19 (by decide) (fun hc => absurd hc (by decide)) (fun hc => ?_)
  refine j_iload_n x dJ6_stringSize_0f7a4_22 rfl ?_
  refine j_iload_n x dJ6_stringSize_0f7a4_23 rfl ?_
  refine j_icmp_le (tgt := 31) x dJ6_stringSize_0f7a4_24 (by decide) (fun hc => ?_) (fun hc => absurd ((neg_le (v := v) (by omega) (k := 10) (by decide)).mpr (by omega)) hc)
  refine j_bipush (v := 10) x dJ6_stringSize_0f7a4_31 (by decide) ?_
  refine j_iload_n x dJ6_stringSize_0f7a4_33 rfl ?_
  refine j_imul x dJ6_stringSize_0f7a4_34 ?_; rw [show (10 : Int32) * -10 = -100 from by decide]
  refine j_istore_n x dJ6_stringSize_0f7a4_35 (by decide) rfl ?_
  refine j_iinc x dJ6_stringSize_0f7a4_36 rfl (by decide) rfl ?_
  refine j_goto (tgt := 16) x dJ6_stringSize_0f7a4_39 (by decide) ?_
  refine j_iload_n x dJ6_stringSize_0f7a4_16 rfl ?_
  refine j_bipush (v := 10) x dJ6_stringSize_0f7a4_17 (by decide) ?_
  refine j_icmp_ge (tgt := 42) x dJ6_stringSize_0f7a4_19 (by decide) (fun hc => absurd hc (by decide)) (fun hc => ?_)
  refine j_iload_n x dJ6_stringSize_0f7a4_22 rfl ?_
  refine j_iload_n x dJ6_stringSize_0f7a4_23 rfl ?_
  refine j_icmp_le (tgt := 31) x dJ6_stringSize_0f7a4_24 (by decide) (fun hc => absurd hc (fun q => absurd ((neg_le (v := v) (by omega) (k := 100) (by decide)).mp q) (by omega))) (fun hc => ?_)
  refine j_iload_n x dJ6_stringSize_0f7a4_27 rfl ?_
  refine j_iload_n x dJ6_stringSize_0f7a4_28 rfl ?_
  refine j_iadd x dJ6_stringSize_0f7a4_29 ?_
  exact j_ireturn x hr dJ6_stringSize_0f7a4_30 (by omega) (by omega) ⟨congrArg (fun z => Sum.inl (some (Value.int z))) (by decide), rfl⟩
theorem c_stringSize_3G {d : Nat} {b : SBt} {Y : OUt} {M : MM} (hb : 1 ≤ b.2.1) {v : Nat} (h0 : 100 ≤ v) (hv : v < 1000) : CMG (d) 0 0 yJ6_stringSize_0f7a4 cJ6_stringSize_0f7a4 4 (some .int) [.int (nI v)] b Y M (.inl (some (.int (nI 3)))) (M) := by
  refine Con.of (by decide +kernel) (Nat.le_of_ble_eq_true rfl) rfl fun p l e s m args below meth c D tyc A ad0 x hr htab hname => ?_
  change JJ _ _ _ _ _ _ _ _ _ _ _ _ _ _ _ _ _ 0 [some (.int (nI v)), none, none, none] [] _ 0 0
  refine j_iconst (v := 1) x dJ6_stringSize_0f7a4_0 (by decide) ?_
  refine j_istore_n x dJ6_stringSize_0f7a4_1 (by decide) rfl ?_
  refine j_iload_n x dJ6_stringSize_0f7a4_2 rfl ?_
  refine j_if_lt (tgt := 11) x dJ6_stringSize_0f7a4_3 (by decide) (fun hc => absurd hc (nI_pos (by omega))) (fun hc => ?_)
  refine j_iconst (v := 0) x dJ6_stringSize_0f7a4_6 (by decide) ?_
  refine j_istore_n x dJ6_stringSize_0f7a4_7 (by decide) rfl ?_
  refine j_iload_n x dJ6_stringSize_0f7a4_8 rfl ?_
  refine j_ineg x dJ6_stringSize_0f7a4_9 ?_
  refine j_istore_n x dJ6_stringSize_0f7a4_10 (by decide) rfl ?_
  refine j_bipush (v := (-10)) x dJ6_stringSize_0f7a4_11 (by decide) ?_
  refine j_istore_n x dJ6_stringSize_0f7a4_13 (by decide) rfl ?_
  refine j_iconst (v := 1) x dJ6_stringSize_0f7a4_14 (by decide) ?_
  refine j_istore_n x dJ6_stringSize_0f7a4_15 (by decide) rfl ?_
  refine j_iload_n x dJ6_stringSize_0f7a4_16 rfl ?_
  refine j_bipush (v := 10) x dJ6_stringSize_0f7a4_17 (by decide) ?_
  refine j_icmp_ge (tgt := 42) x dJ6_stringSize_0f7a4_19 (by decide) (fun hc => absurd hc (by decide)) (fun hc => ?_)
  refine j_iload_n x dJ6_stringSize_0f7a4_22 rfl ?_
  refine j_iload_n x dJ6_stringSize_0f7a4_23 rfl ?_
  refine j_icmp_le (tgt := 31) x dJ6_stringSize_0f7a4_24 (by decide) (fun hc => ?_) (fun hc => absurd ((neg_le (v := v) (by omega) (k := 10) (by decide)).mpr (by omega)) hc)
  refine j_bipush (v := 10) x dJ6_stringSize_0f7a4_31 (by decide) ?_
  refine j_iload_n x dJ6_stringSize_0f7a4_33 rfl ?_
  refine j_imul x dJ6_stringSize_0f7a4_34 ?_; rw [show (10 : Int32) * -10 = -100 from by decide]
  refine j_istore_n x dJ6_stringSize_0f7a4_35 (by decide) rfl ?_
  refine j_iinc x dJ6_stringSize_0f7a4_36 rfl (by decide) rfl ?_
  refine j_goto (tgt := 16) x dJ6_stringSize_0f7a4_39 (by decide) ?_
  refine j_iload_n x dJ6_stringSize_0f7a4_16 rfl ?_
  refine j_bipush (v := 10) x dJ6_stringSize_0f7a4_17 (by decide) ?_
  refine j_icmp_ge (tgt := 42) x dJ6_stringSize_0f7a4_19 (by decide) (fun hc => absurd hc (by decide)) (fun hc => ?_)
  refine j_iload_n x dJ6_stringSize_0f7a4_22 rfl ?_
  refine j_iload_n x dJ6_stringSize_0f7a4_23 rfl ?_
  refine j_icmp_le (tgt := 31) x dJ6_stringSize_0f7a4_24 (by decide) (fun hc => ?_) (fun hc => absurd ((neg_le (v := v) (by omega) (k := 100) (by decide)).mpr (by omega)) hc)
  refine j_bipush (v := 10) x dJ6_stringSize_0f7a4_31 (by decide) ?_
  refine j_iload_n x dJ6_stringSize_0f7a4_33 rfl ?_
  refine j_imul x dJ6_stringSize_0f7a4_34 ?_; rw [show (10 : Int32) * -100 = -1000 from by decide]
  refine j_istore_n x dJ6_stringSize_0f7a4_35 (by decide) rfl ?_
  refine j_iinc x dJ6_stringSize_0f7a4_36 rfl (by decide) rfl ?_
  refine j_goto (tgt := 16) x dJ6_stringSize_0f7a4_39 (by decide) ?_
  refine j_iload_n x dJ6_stringSize_0f7a4_16 rfl ?_
  refine j_bipush (v := 10) x dJ6_stringSize_0f7a4_17 (by decide) ?_
  refine j_icmp_ge (tgt := 42) x dJ6_stringSize_0f7a4_19 (by decide) (fun hc => absurd hc (by decide)) (fun hc => ?_)
  refine j_iload_n x dJ6_stringSize_0f7a4_22 rfl ?_
  refine j_iload_n x dJ6_stringSize_0f7a4_23 rfl ?_
  refine j_icmp_le (tgt := 31) x dJ6_stringSize_0f7a4_24 (by decide) (fun hc => absurd hc (fun q => absurd ((neg_le (v := v) (by omega) (k := 1000) (by decide)).mp q) (by omega))) (fun hc => ?_)
  refine j_iload_n x dJ6_stringSize_0f7a4_27 rfl ?_
  refine j_iload_n x dJ6_stringSize_0f7a4_28 rfl ?_
  refine j_iadd x dJ6_stringSize_0f7a4_29 ?_
  exact j_ireturn x hr dJ6_stringSize_0f7a4_30 (by omega) (by omega) ⟨congrArg (fun z => Sum.inl (some (Value.int z))) (by decide), rfl⟩
theorem c_stringSize_4G {d : Nat} {b : SBt} {Y : OUt} {M : MM} (hb : 1 ≤ b.2.1) {v : Nat} (h0 : 1000 ≤ v) (hv : v < 10000) : CMG (d) 0 0 yJ6_stringSize_0f7a4 cJ6_stringSize_0f7a4 4 (some .int) [.int (nI v)] b Y M (.inl (some (.int (nI 4)))) (M) := by
  refine Con.of (by decide +kernel) (Nat.le_of_ble_eq_true rfl) rfl fun p l e s m args below meth c D tyc A ad0 x hr htab hname => ?_
  change JJ _ _ _ _ _ _ _ _ _ _ _ _ _ _ _ _ _ 0 [some (.int (nI v)), none, none, none] [] _ 0 0
  refine j_iconst (v := 1) x dJ6_stringSize_0f7a4_0 (by decide) ?_
  refine j_istore_n x dJ6_stringSize_0f7a4_1 (by decide) rfl ?_
  refine j_iload_n x dJ6_stringSize_0f7a4_2 rfl ?_
  refine j_if_lt (tgt := 11) x dJ6_stringSize_0f7a4_3 (by decide) (fun hc => absurd hc (nI_pos (by omega))) (fun hc => ?_)
  refine j_iconst (v := 0) x dJ6_stringSize_0f7a4_6 (by decide) ?_
  refine j_istore_n x dJ6_stringSize_0f7a4_7 (by decide) rfl ?_
  refine j_iload_n x dJ6_stringSize_0f7a4_8 rfl ?_
  refine j_ineg x dJ6_stringSize_0f7a4_9 ?_
  refine j_istore_n x dJ6_stringSize_0f7a4_10 (by decide) rfl ?_
  refine j_bipush (v := (-10)) x dJ6_stringSize_0f7a4_11 (by decide) ?_
  refine j_istore_n x dJ6_stringSize_0f7a4_13 (by decide) rfl ?_
  refine j_iconst (v := 1) x dJ6_stringSize_0f7a4_14 (by decide) ?_
  refine j_istore_n x dJ6_stringSize_0f7a4_15 (by decide) rfl ?_
  refine j_iload_n x dJ6_stringSize_0f7a4_16 rfl ?_
  refine j_bipush (v := 10) x dJ6_stringSize_0f7a4_17 (by decide) ?_
  refine j_icmp_ge (tgt := 42) x dJ6_stringSize_0f7a4_19 (by decide) (fun hc => absurd hc (by decide)) (fun hc => ?_)
  refine j_iload_n x dJ6_stringSize_0f7a4_22 rfl ?_
  refine j_iload_n x dJ6_stringSize_0f7a4_23 rfl ?_
  refine j_icmp_le (tgt := 31) x dJ6_stringSize_0f7a4_24 (by decide) (fun hc => ?_) (fun hc => absurd ((neg_le (v := v) (by omega) (k := 10) (by decide)).mpr (by omega)) hc)
  refine j_bipush (v := 10) x dJ6_stringSize_0f7a4_31 (by decide) ?_
  refine j_iload_n x dJ6_stringSize_0f7a4_33 rfl ?_
  refine j_imul x dJ6_stringSize_0f7a4_34 ?_; rw [show (10 : Int32) * -10 = -100 from by decide]
  refine j_istore_n x dJ6_stringSize_0f7a4_35 (by decide) rfl ?_
  refine j_iinc x dJ6_stringSize_0f7a4_36 rfl (by decide) rfl ?_
  refine j_goto (tgt := 16) x dJ6_stringSize_0f7a4_39 (by decide) ?_
  refine j_iload_n x dJ6_stringSize_0f7a4_16 rfl ?_
  refine j_bipush (v := 10) x dJ6_stringSize_0f7a4_17 (by decide) ?_
  refine j_icmp_ge (tgt := 42) x dJ6_stringSize_0f7a4_19 (by decide) (fun hc => absurd hc (by decide)) (fun hc => ?_)
  refine j_iload_n x dJ6_stringSize_0f7a4_22 rfl ?_
  refine j_iload_n x dJ6_stringSize_0f7a4_23 rfl ?_
  refine j_icmp_le (tgt := 31) x dJ6_stringSize_0f7a4_24 (by decide) (fun hc => ?_) (fun hc => absurd ((neg_le (v := v) (by omega) (k := 100) (by decide)).mpr (by omega)) hc)
  refine j_bipush (v := 10) x dJ6_stringSize_0f7a4_31 (by decide) ?_
  refine j_iload_n x dJ6_stringSize_0f7a4_33 rfl ?_
  refine j_imul x dJ6_stringSize_0f7a4_34 ?_; rw [show (10 : Int32) * -100 = -1000 from by decide]
  refine j_istore_n x dJ6_stringSize_0f7a4_35 (by decide) rfl ?_
  refine j_iinc x dJ6_stringSize_0f7a4_36 rfl (by decide) rfl ?_
  refine j_goto (tgt := 16) x dJ6_stringSize_0f7a4_39 (by decide) ?_
  refine j_iload_n x dJ6_stringSize_0f7a4_16 rfl ?_
  refine j_bipush (v := 10) x dJ6_stringSize_0f7a4_17 (by decide) ?_
  refine j_icmp_ge (tgt := 42) x dJ6_stringSize_0f7a4_19 (by decide) (fun hc => absurd hc (by decide)) (fun hc => ?_)
  refine j_iload_n x dJ6_stringSize_0f7a4_22 rfl ?_
  refine j_iload_n x dJ6_stringSize_0f7a4_23 rfl ?_
  refine j_icmp_le (tgt := 31) x dJ6_stringSize_0f7a4_24 (by decide) (fun hc => ?_) (fun hc => absurd ((neg_le (v := v) (by omega) (k := 1000) (by decide)).mpr (by omega)) hc)
  refine j_bipush (v := 10) x dJ6_stringSize_0f7a4_31 (by decide) ?_
  refine j_iload_n x dJ6_stringSize_0f7a4_33 rfl ?_
  refine j_imul x dJ6_stringSize_0f7a4_34 ?_; rw [show (10 : Int32) * -1000 = -10000 from by decide]
  refine j_istore_n x dJ6_stringSize_0f7a4_35 (by decide) rfl ?_
  refine j_iinc x dJ6_stringSize_0f7a4_36 rfl (by decide) rfl ?_
  refine j_goto (tgt := 16) x dJ6_stringSize_0f7a4_39 (by decide) ?_
  refine j_iload_n x dJ6_stringSize_0f7a4_16 rfl ?_
  refine j_bipush (v := 10) x dJ6_stringSize_0f7a4_17 (by decide) ?_
  refine j_icmp_ge (tgt := 42) x dJ6_stringSize_0f7a4_19 (by decide) (fun hc => absurd hc (by decide)) (fun hc => ?_)
  refine j_iload_n x dJ6_stringSize_0f7a4_22 rfl ?_
  refine j_iload_n x dJ6_stringSize_0f7a4_23 rfl ?_
  refine j_icmp_le (tgt := 31) x dJ6_stringSize_0f7a4_24 (by decide) (fun hc => absurd hc (fun q => absurd ((neg_le (v := v) (by omega) (k := 10000) (by decide)).mp q) (by omega))) (fun hc => ?_)
  refine j_iload_n x dJ6_stringSize_0f7a4_27 rfl ?_
  refine j_iload_n x dJ6_stringSize_0f7a4_28 rfl ?_
  refine j_iadd x dJ6_stringSize_0f7a4_29 ?_
  exact j_ireturn x hr dJ6_stringSize_0f7a4_30 (by omega) (by omega) ⟨congrArg (fun z => Sum.inl (some (Value.int z))) (by decide), rfl⟩
theorem c_stringSizeG {d : Nat} {b : SBt} {Y : OUt} {M : MM} (hb : 1 ≤ b.2.1) {v : Nat} (hv : v < 10000) : CMG d 0 0 yJ6_stringSize_0f7a4 cJ6_stringSize_0f7a4 4 (some .int) [.int (nI v)] b Y M (.inl (some (.int (nI (dg v))))) M := by
  unfold dg
  split
  · exact c_stringSize_1G hb (by omega)
  · split
    · exact c_stringSize_2G hb (by omega) (by omega)
    · split
      · exact c_stringSize_3G hb (by omega) (by omega)
      · exact c_stringSize_4G hb (by omega) (by omega)
theorem c_getChars_1G {d : Nat} {b : SBt} {Y : OUt} {M : MM} (hb : 1 ≤ b.2.1) {v e1 n : Nat} (hI : sbIG b M n) (hn : n < 1000) (he : 1 ≤ e1) (hen : e1 ≤ n) (hv : v < 10) : CMG (d) 0 0 yJ6_getChars_ba4f3 cJ6_getChars_ba4f3 7 (some .int) [.int (nI v), .int (nI e1), .ref b.1] b Y M (.inl (some (.int (nI (e1 - 1))))) (jm (M) b.1 (e1 - 1) (vp_nar .byte (j_ones (v)))) := by
  refine Con.of (by decide +kernel) (Nat.le_of_ble_eq_true rfl) rfl fun p l e s m args below meth c D tyc A ad0 x hr htab hname => ?_
  change JJ _ _ _ _ _ _ _ _ _ _ _ _ _ _ _ _ _ 0 [some (.int (nI v)), some (.int (nI e1)), some (.ref b.1), none, none, none, none] [] _ 0 0
  obtain ⟨hB, hlt, -, hl, -⟩ := hI
  obtain ⟨ta, hZa, hTa⟩ := j_tabT x.2.2.2.2.2.2.2.2.2.2.2.2.2.2.2.2.2.1
  obtain ⟨tb, hZb, hTb⟩ := j_tabT x.2.2.2.2.2.2.2.2.2.2.2.2.2.2.2.2.2.2.1
  refine j_iload_n x dJ6_getChars_ba4f3_0 rfl ?_
  refine j_istore x dJ6_getChars_ba4f3_1 (by decide) rfl ?_
  refine j_iload_n x dJ6_getChars_ba4f3_3 rfl ?_
  refine j_if_ge (tgt := 11) x dJ6_getChars_ba4f3_4 (by decide) (fun hc => ?_) (fun hc => absurd (nI_pos' (by omega)) hc)
  refine j_iconst (v := 0) x dJ6_getChars_ba4f3_11 (by decide) ?_
  refine j_istore x dJ6_getChars_ba4f3_12 (by decide) rfl ?_
  refine j_iload x dJ6_getChars_ba4f3_14 rfl ?_
  refine j_if_ne (tgt := 22) x dJ6_getChars_ba4f3_16 (by decide) (fun hc => absurd hc (fun q => q rfl)) (fun hc => ?_)
  refine j_iload_n x dJ6_getChars_ba4f3_19 rfl ?_
  refine j_ineg x dJ6_getChars_ba4f3_20 ?_
  refine j_istore_n x dJ6_getChars_ba4f3_21 (by decide) rfl ?_
  refine j_iload_n x dJ6_getChars_ba4f3_22 rfl ?_
  refine j_bipush (v := (-100)) x dJ6_getChars_ba4f3_23 (by decide) ?_
  refine j_icmp_gt (tgt := 72) x dJ6_getChars_ba4f3_25 (by decide) (fun hc => ?_) (fun hc => absurd ((neg_lt (v := v) (by omega) (k := 100) (by decide)).mpr (by omega)) hc)
  refine j_aload_n x dJ6_getChars_ba4f3_72 rfl ?_
  refine j_iinc x dJ6_getChars_ba4f3_73 rfl (by decide) rfl ?_; rw [nI_dn3 (by omega)]
  refine j_iload x dJ6_getChars_ba4f3_76 rfl ?_
  refine j_getsR x dJ6_getChars_ba4f3_78 hZa wfJ6_83 ?_
  refine j_iload_n x dJ6_getChars_ba4f3_81 rfl ?_
  refine j_ineg x dJ6_getChars_ba4f3_82 ?_; rw [Int32.neg_neg]
  refine j_tldG x hTa (k := v) (by omega) dJ6_getChars_ba4f3_83 ?_
  refine j2_bstG x hB hlt hl dJ6_getChars_ba4f3_84 (vp_in_nI (by omega) (by omega)) rfl ?_; rw [nI_clamp (by omega)]
  refine j_iload_n x dJ6_getChars_ba4f3_85 rfl ?_
  refine j_bipush (v := (-9)) x dJ6_getChars_ba4f3_86 (by decide) ?_
  refine j_icmp_ge (tgt := 104) x dJ6_getChars_ba4f3_88 (by decide) (fun hc => ?_) (fun hc => absurd ((neg_le (v := 9) (by decide) (k := v) (by omega)).mpr (by omega)) hc)
  refine j_iload x dJ6_getChars_ba4f3_104 rfl ?_
  refine j_if_eq (tgt := 118) x dJ6_getChars_ba4f3_106 (by decide) (fun hc => ?_) (fun hc => absurd (rfl) hc)
  refine j_iload x dJ6_getChars_ba4f3_118 rfl ?_
  exact j_ireturn x hr dJ6_getChars_ba4f3_120 (by omega) (by omega) ⟨rfl, rfl⟩
theorem c_getChars_2G {d : Nat} {b : SBt} {Y : OUt} {M : MM} (hb : 1 ≤ b.2.1) {v e1 n : Nat} (hI : sbIG b M n) (hn : n < 1000) (he : 2 ≤ e1) (hen : e1 ≤ n) (h0 : 10 ≤ v) (hv : v < 100) : CMG (d) 0 0 yJ6_getChars_ba4f3 cJ6_getChars_ba4f3 7 (some .int) [.int (nI v), .int (nI e1), .ref b.1] b Y M (.inl (some (.int (nI (e1 - 1 - 1))))) (jm (jm (M) b.1 (e1 - 1) (vp_nar .byte (j_ones (v)))) b.1 (e1 - 1 - 1) (vp_nar .byte (j_tens (v)))) := by
  refine Con.of (by decide +kernel) (Nat.le_of_ble_eq_true rfl) rfl fun p l e s m args below meth c D tyc A ad0 x hr htab hname => ?_
  change JJ _ _ _ _ _ _ _ _ _ _ _ _ _ _ _ _ _ 0 [some (.int (nI v)), some (.int (nI e1)), some (.ref b.1), none, none, none, none] [] _ 0 0
  obtain ⟨hB, hlt, -, hl, -⟩ := hI
  obtain ⟨ta, hZa, hTa⟩ := j_tabT x.2.2.2.2.2.2.2.2.2.2.2.2.2.2.2.2.2.1
  obtain ⟨tb, hZb, hTb⟩ := j_tabT x.2.2.2.2.2.2.2.2.2.2.2.2.2.2.2.2.2.2.1
  refine j_iload_n x dJ6_getChars_ba4f3_0 rfl ?_
  refine j_istore x dJ6_getChars_ba4f3_1 (by decide) rfl ?_
  refine j_iload_n x dJ6_getChars_ba4f3_3 rfl ?_
  refine j_if_ge (tgt := 11) x dJ6_getChars_ba4f3_4 (by decide) (fun hc => ?_) (fun hc => absurd (nI_pos' (by omega)) hc)
  refine j_iconst (v := 0) x dJ6_getChars_ba4f3_11 (by decide) ?_
  refine j_istore x dJ6_getChars_ba4f3_12 (by decide) rfl ?_
  refine j_iload x dJ6_getChars_ba4f3_14 rfl ?_
  refine j_if_ne (tgt := 22) x dJ6_getChars_ba4f3_16 (by decide) (fun hc => absurd hc (fun q => q rfl)) (fun hc => ?_)
  refine j_iload_n x dJ6_getChars_ba4f3_19 rfl ?_
  refine j_ineg x dJ6_getChars_ba4f3_20 ?_
  refine j_istore_n x dJ6_getChars_ba4f3_21 (by decide) rfl ?_
  refine j_iload_n x dJ6_getChars_ba4f3_22 rfl ?_
  refine j_bipush (v := (-100)) x dJ6_getChars_ba4f3_23 (by decide) ?_
  refine j_icmp_gt (tgt := 72) x dJ6_getChars_ba4f3_25 (by decide) (fun hc => ?_) (fun hc => absurd ((neg_lt (v := v) (by omega) (k := 100) (by decide)).mpr (by omega)) hc)
  refine j_aload_n x dJ6_getChars_ba4f3_72 rfl ?_
  refine j_iinc x dJ6_getChars_ba4f3_73 rfl (by decide) rfl ?_; rw [nI_dn3 (by omega)]
  refine j_iload x dJ6_getChars_ba4f3_76 rfl ?_
  refine j_getsR x dJ6_getChars_ba4f3_78 hZa wfJ6_83 ?_
  refine j_iload_n x dJ6_getChars_ba4f3_81 rfl ?_
  refine j_ineg x dJ6_getChars_ba4f3_82 ?_; rw [Int32.neg_neg]
  refine j_tldG x hTa (k := v) (by omega) dJ6_getChars_ba4f3_83 ?_
  refine j2_bstG x hB hlt hl dJ6_getChars_ba4f3_84 (vp_in_nI (by omega) (by omega)) rfl ?_; rw [nI_clamp (by omega)]
  refine j_iload_n x dJ6_getChars_ba4f3_85 rfl ?_
  refine j_bipush (v := (-9)) x dJ6_getChars_ba4f3_86 (by decide) ?_
  refine j_icmp_ge (tgt := 104) x dJ6_getChars_ba4f3_88 (by decide) (fun hc => absurd hc (fun q => absurd ((neg_le (v := 9) (by decide) (k := v) (by omega)).mp q) (by omega))) (fun hc => ?_)
  refine j_aload_n x dJ6_getChars_ba4f3_91 rfl ?_
  refine j_iinc x dJ6_getChars_ba4f3_92 rfl (by decide) rfl ?_; rw [nI_dn3 (by omega)]
  refine j_iload x dJ6_getChars_ba4f3_95 rfl ?_
  refine j_getsR x dJ6_getChars_ba4f3_97 hZb wfJ6_87 ?_
  refine j_iload_n x dJ6_getChars_ba4f3_100 rfl ?_
  refine j_ineg x dJ6_getChars_ba4f3_101 ?_; rw [Int32.neg_neg]
  refine j_tldG x hTb (k := v) (by omega) dJ6_getChars_ba4f3_102 ?_
  refine j2_bstG x hB hlt hl dJ6_getChars_ba4f3_103 (vp_in_nI (by omega) (by omega)) rfl ?_; rw [nI_clamp (by omega)]
  refine j_iload x dJ6_getChars_ba4f3_104 rfl ?_
  refine j_if_eq (tgt := 118) x dJ6_getChars_ba4f3_106 (by decide) (fun hc => ?_) (fun hc => absurd (rfl) hc)
  refine j_iload x dJ6_getChars_ba4f3_118 rfl ?_
  exact j_ireturn x hr dJ6_getChars_ba4f3_120 (by omega) (by omega) ⟨rfl, rfl⟩
theorem c_getChars_3G {d : Nat} {b : SBt} {Y : OUt} {M : MM} (hb : 1 ≤ b.2.1) {v e1 n : Nat} (hI : sbIG b M n) (hn : n < 1000) (he : 3 ≤ e1) (hen : e1 ≤ n) (h0 : 100 ≤ v) (hv : v < 1000) : CMG (d) 0 0 yJ6_getChars_ba4f3 cJ6_getChars_ba4f3 7 (some .int) [.int (nI v), .int (nI e1), .ref b.1] b Y M (.inl (some (.int (nI (e1 - 1 - 1 - 1))))) (jm (jm (jm (M) b.1 (e1 - 1) (vp_nar .byte (j_ones (v % 100)))) b.1 (e1 - 1 - 1) (vp_nar .byte (j_tens (v % 100)))) b.1 (e1 - 1 - 1 - 1) (vp_nar .byte (j_ones (v / 100)))) := by
  refine Con.of (by decide +kernel) (Nat.le_of_ble_eq_true rfl) rfl fun p l e s m args below meth c D tyc A ad0 x hr htab hname => ?_
  change JJ _ _ _ _ _ _ _ _ _ _ _ _ _ _ _ _ _ 0 [some (.int (nI v)), some (.int (nI e1)), some (.ref b.1), none, none, none, none] [] _ 0 0
  obtain ⟨hB, hlt, -, hl, -⟩ := hI
  obtain ⟨ta, hZa, hTa⟩ := j_tabT x.2.2.2.2.2.2.2.2.2.2.2.2.2.2.2.2.2.1
  obtain ⟨tb, hZb, hTb⟩ := j_tabT x.2.2.2.2.2.2.2.2.2.2.2.2.2.2.2.2.2.2.1
  refine j_iload_n x dJ6_getChars_ba4f3_0 rfl ?_
  refine j_istore x dJ6_getChars_ba4f3_1 (by decide) rfl ?_
  refine j_iload_n x dJ6_getChars_ba4f3_3 rfl ?_
  refine j_if_ge (tgt := 11) x dJ6_getChars_ba4f3_4 (by decide) (fun hc => ?_) (fun hc => absurd (nI_pos' (by omega)) hc)
  refine j_iconst (v := 0) x dJ6_getChars_ba4f3_11 (by decide) ?_
  refine j_istore x dJ6_getChars_ba4f3_12 (by decide) rfl ?_
  refine j_iload x dJ6_getChars_ba4f3_14 rfl ?_
  refine j_if_ne (tgt := 22) x dJ6_getChars_ba4f3_16 (by decide) (fun hc => absurd hc (fun q => q rfl)) (fun hc => ?_)
  refine j_iload_n x dJ6_getChars_ba4f3_19 rfl ?_
  refine j_ineg x dJ6_getChars_ba4f3_20 ?_
  refine j_istore_n x dJ6_getChars_ba4f3_21 (by decide) rfl ?_
  refine j_iload_n x dJ6_getChars_ba4f3_22 rfl ?_
  refine j_bipush (v := (-100)) x dJ6_getChars_ba4f3_23 (by decide) ?_
  refine j_icmp_gt (tgt := 72) x dJ6_getChars_ba4f3_25 (by decide) (fun hc => absurd hc (fun q => absurd ((neg_lt (v := v) (by omega) (k := 100) (by decide)).mp q) (by omega))) (fun hc => ?_)
  refine j_iload_n x dJ6_getChars_ba4f3_28 rfl ?_
  refine j_bipush (v := 100) x dJ6_getChars_ba4f3_29 (by decide) ?_
  refine j_idiv x dJ6_getChars_ba4f3_31 (by decide) ?_; rw [neg_div100 (by omega)]
  refine j_istore_n x dJ6_getChars_ba4f3_32 (by decide) rfl ?_
  refine j_iload_n x dJ6_getChars_ba4f3_33 rfl ?_
  refine j_bipush (v := 100) x dJ6_getChars_ba4f3_34 (by decide) ?_
  refine j_imul x dJ6_getChars_ba4f3_36 ?_
  refine j_iload_n x dJ6_getChars_ba4f3_37 rfl ?_
  refine j_isub x dJ6_getChars_ba4f3_38 ?_; rw [neg_mod100 (by omega)]
  refine j_istore x dJ6_getChars_ba4f3_39 (by decide) rfl ?_
  refine j_iload_n x dJ6_getChars_ba4f3_41 rfl ?_
  refine j_istore_n x dJ6_getChars_ba4f3_42 (by decide) rfl ?_
  refine j_aload_n x dJ6_getChars_ba4f3_43 rfl ?_
  refine j_iinc x dJ6_getChars_ba4f3_44 rfl (by decide) rfl ?_; rw [nI_dn3 (by omega)]
  refine j_iload x dJ6_getChars_ba4f3_47 rfl ?_
  refine j_getsR x dJ6_getChars_ba4f3_49 hZa wfJ6_83 ?_
  refine j_iload x dJ6_getChars_ba4f3_52 rfl ?_
  refine j_tldG x hTa (k := v % 100) (by omega) dJ6_getChars_ba4f3_54 ?_
  refine j2_bstG x hB hlt hl dJ6_getChars_ba4f3_55 (vp_in_nI (by omega) (by omega)) rfl ?_; rw [nI_clamp (by omega)]
  refine j_aload_n x dJ6_getChars_ba4f3_56 rfl ?_
  refine j_iinc x dJ6_getChars_ba4f3_57 rfl (by decide) rfl ?_; rw [nI_dn3 (by omega)]
  refine j_iload x dJ6_getChars_ba4f3_60 rfl ?_
  refine j_getsR x dJ6_getChars_ba4f3_62 hZb wfJ6_87 ?_
  refine j_iload x dJ6_getChars_ba4f3_65 rfl ?_
  refine j_tldG x hTb (k := v % 100) (by omega) dJ6_getChars_ba4f3_67 ?_
  refine j2_bstG x hB hlt hl dJ6_getChars_ba4f3_68 (vp_in_nI (by omega) (by omega)) rfl ?_; rw [nI_clamp (by omega)]
  refine j_goto (tgt := 22) x dJ6_getChars_ba4f3_69 (by decide) ?_
  refine j_iload_n x dJ6_getChars_ba4f3_22 rfl ?_
  refine j_bipush (v := (-100)) x dJ6_getChars_ba4f3_23 (by decide) ?_
  refine j_icmp_gt (tgt := 72) x dJ6_getChars_ba4f3_25 (by decide) (fun hc => ?_) (fun hc => absurd ((neg_lt (v := v / 100) (by omega) (k := 100) (by decide)).mpr (by omega)) hc)
  refine j_aload_n x dJ6_getChars_ba4f3_72 rfl ?_
  refine j_iinc x dJ6_getChars_ba4f3_73 rfl (by decide) rfl ?_; rw [nI_dn3 (by omega)]
  refine j_iload x dJ6_getChars_ba4f3_76 rfl ?_
  refine j_getsR x dJ6_getChars_ba4f3_78 hZa wfJ6_83 ?_
  refine j_iload_n x dJ6_getChars_ba4f3_81 rfl ?_
  refine j_ineg x dJ6_getChars_ba4f3_82 ?_; rw [Int32.neg_neg]
  refine j_tldG x hTa (k := v / 100) (by omega) dJ6_getChars_ba4f3_83 ?_
  refine j2_bstG x hB hlt hl dJ6_getChars_ba4f3_84 (vp_in_nI (by omega) (by omega)) rfl ?_; rw [nI_clamp (by omega)]
  refine j_iload_n x dJ6_getChars_ba4f3_85 rfl ?_
  refine j_bipush (v := (-9)) x dJ6_getChars_ba4f3_86 (by decide) ?_
  refine j_icmp_ge (tgt := 104) x dJ6_getChars_ba4f3_88 (by decide) (fun hc => ?_) (fun hc => absurd ((neg_le (v := 9) (by decide) (k := v / 100) (by omega)).mpr (by omega)) hc)
  refine j_iload x dJ6_getChars_ba4f3_104 rfl ?_
  refine j_if_eq (tgt := 118) x dJ6_getChars_ba4f3_106 (by decide) (fun hc => ?_) (fun hc => absurd (rfl) hc)
  refine j_iload x dJ6_getChars_ba4f3_118 rfl ?_
  exact j_ireturn x hr dJ6_getChars_ba4f3_120 (by omega) (by omega) ⟨rfl, rfl⟩
theorem c_getChars_4G {d : Nat} {b : SBt} {Y : OUt} {M : MM} (hb : 1 ≤ b.2.1) {v e1 n : Nat} (hI : sbIG b M n) (hn : n < 1000) (he : 4 ≤ e1) (hen : e1 ≤ n) (h0 : 1000 ≤ v) (hv : v < 10000) : CMG (d) 0 0 yJ6_getChars_ba4f3 cJ6_getChars_ba4f3 7 (some .int) [.int (nI v), .int (nI e1), .ref b.1] b Y M (.inl (some (.int (nI (e1 - 1 - 1 - 1 - 1))))) (jm (jm (jm (jm (M) b.1 (e1 - 1) (vp_nar .byte (j_ones (v % 100)))) b.1 (e1 - 1 - 1) (vp_nar .byte (j_tens (v % 100)))) b.1 (e1 - 1 - 1 - 1) (vp_nar .byte (j_ones (v / 100)))) b.1 (e1 - 1 - 1 - 1 - 1) (vp_nar .byte (j_tens (v / 100)))) := by
  refine Con.of (by decide +kernel) (Nat.le_of_ble_eq_true rfl) rfl fun p l e s m args below meth c D tyc A ad0 x hr htab hname => ?_
  change JJ _ _ _ _ _ _ _ _ _ _ _ _ _ _ _ _ _ 0 [some (.int (nI v)), some (.int (nI e1)), some (.ref b.1), none, none, none, none] [] _ 0 0
  obtain ⟨hB, hlt, -, hl, -⟩ := hI
  obtain ⟨ta, hZa, hTa⟩ := j_tabT x.2.2.2.2.2.2.2.2.2.2.2.2.2.2.2.2.2.1
  obtain ⟨tb, hZb, hTb⟩ := j_tabT x.2.2.2.2.2.2.2.2.2.2.2.2.2.2.2.2.2.2.1
  refine j_iload_n x dJ6_getChars_ba4f3_0 rfl ?_
  refine j_istore x dJ6_getChars_ba4f3_1 (by decide) rfl ?_
  refine j_iload_n x dJ6_getChars_ba4f3_3 rfl ?_
  refine j_if_ge (tgt := 11) x dJ6_getChars_ba4f3_4 (by decide) (fun hc => ?_) (fun hc => absurd (nI_pos' (by omega)) hc)
  refine j_iconst (v := 0) x dJ6_getChars_ba4f3_11 (by decide) ?_
  refine j_istore x dJ6_getChars_ba4f3_12 (by decide) rfl ?_
  refine j_iload x dJ6_getChars_ba4f3_14 rfl ?_
  refine j_if_ne (tgt := 22) x dJ6_getChars_ba4f3_16 (by decide) (fun hc => absurd hc (fun q => q rfl)) (fun hc => ?_)
  refine j_iload_n x dJ6_getChars_ba4f3_19 rfl ?_
  refine j_ineg x dJ6_getChars_ba4f3_20 ?_
  refine j_istore_n x dJ6_getChars_ba4f3_21 (by decide) rfl ?_
  refine j_iload_n x dJ6_getChars_ba4f3_22 rfl ?_
  refine j_bipush (v := (-100)) x dJ6_getChars_ba4f3_23 (by decide) ?_
  refine j_icmp_gt (tgt := 72) x dJ6_getChars_ba4f3_25 (by decide) (fun hc => absurd hc (fun q => absurd ((neg_lt (v := v) (by omega) (k := 100) (by decide)).mp q) (by omega))) (fun hc => ?_)
  refine j_iload_n x dJ6_getChars_ba4f3_28 rfl ?_
  refine j_bipush (v := 100) x dJ6_getChars_ba4f3_29 (by decide) ?_
  refine j_idiv x dJ6_getChars_ba4f3_31 (by decide) ?_; rw [neg_div100 (by omega)]
  refine j_istore_n x dJ6_getChars_ba4f3_32 (by decide) rfl ?_
  refine j_iload_n x dJ6_getChars_ba4f3_33 rfl ?_
  refine j_bipush (v := 100) x dJ6_getChars_ba4f3_34 (by decide) ?_
  refine j_imul x dJ6_getChars_ba4f3_36 ?_
  refine j_iload_n x dJ6_getChars_ba4f3_37 rfl ?_
  refine j_isub x dJ6_getChars_ba4f3_38 ?_; rw [neg_mod100 (by omega)]
  refine j_istore x dJ6_getChars_ba4f3_39 (by decide) rfl ?_
  refine j_iload_n x dJ6_getChars_ba4f3_41 rfl ?_
  refine j_istore_n x dJ6_getChars_ba4f3_42 (by decide) rfl ?_
  refine j_aload_n x dJ6_getChars_ba4f3_43 rfl ?_
  refine j_iinc x dJ6_getChars_ba4f3_44 rfl (by decide) rfl ?_; rw [nI_dn3 (by omega)]
  refine j_iload x dJ6_getChars_ba4f3_47 rfl ?_
  refine j_getsR x dJ6_getChars_ba4f3_49 hZa wfJ6_83 ?_
  refine j_iload x dJ6_getChars_ba4f3_52 rfl ?_
  refine j_tldG x hTa (k := v % 100) (by omega) dJ6_getChars_ba4f3_54 ?_
  refine j2_bstG x hB hlt hl dJ6_getChars_ba4f3_55 (vp_in_nI (by omega) (by omega)) rfl ?_; rw [nI_clamp (by omega)]
  refine j_aload_n x dJ6_getChars_ba4f3_56 rfl ?_
  refine j_iinc x dJ6_getChars_ba4f3_57 rfl (by decide) rfl ?_; rw [nI_dn3 (by omega)]
  refine j_iload x dJ6_getChars_ba4f3_60 rfl ?_
  refine j_getsR x dJ6_getChars_ba4f3_62 hZb wfJ6_87 ?_
  refine j_iload x dJ6_getChars_ba4f3_65 rfl ?_
  refine j_tldG x hTb (k := v % 100) (by omega) dJ6_getChars_ba4f3_67 ?_
  refine j2_bstG x hB hlt hl dJ6_getChars_ba4f3_68 (vp_in_nI (by omega) (by omega)) rfl ?_; rw [nI_clamp (by omega)]
  refine j_goto (tgt := 22) x dJ6_getChars_ba4f3_69 (by decide) ?_
  refine j_iload_n x dJ6_getChars_ba4f3_22 rfl ?_
  refine j_bipush (v := (-100)) x dJ6_getChars_ba4f3_23 (by decide) ?_
  refine j_icmp_gt (tgt := 72) x dJ6_getChars_ba4f3_25 (by decide) (fun hc => ?_) (fun hc => absurd ((neg_lt (v := v / 100) (by omega) (k := 100) (by decide)).mpr (by omega)) hc)
  refine j_aload_n x dJ6_getChars_ba4f3_72 rfl ?_
  refine j_iinc x dJ6_getChars_ba4f3_73 rfl (by decide) rfl ?_; rw [nI_dn3 (by omega)]
  refine j_iload x dJ6_getChars_ba4f3_76 rfl ?_
  refine j_getsR x dJ6_getChars_ba4f3_78 hZa wfJ6_83 ?_
  refine j_iload_n x dJ6_getChars_ba4f3_81 rfl ?_
  refine j_ineg x dJ6_getChars_ba4f3_82 ?_; rw [Int32.neg_neg]
  refine j_tldG x hTa (k := v / 100) (by omega) dJ6_getChars_ba4f3_83 ?_
  refine j2_bstG x hB hlt hl dJ6_getChars_ba4f3_84 (vp_in_nI (by omega) (by omega)) rfl ?_; rw [nI_clamp (by omega)]
  refine j_iload_n x dJ6_getChars_ba4f3_85 rfl ?_
  refine j_bipush (v := (-9)) x dJ6_getChars_ba4f3_86 (by decide) ?_
  refine j_icmp_ge (tgt := 104) x dJ6_getChars_ba4f3_88 (by decide) (fun hc => absurd hc (fun q => absurd ((neg_le (v := 9) (by decide) (k := v / 100) (by omega)).mp q) (by omega))) (fun hc => ?_)
  refine j_aload_n x dJ6_getChars_ba4f3_91 rfl ?_
  refine j_iinc x dJ6_getChars_ba4f3_92 rfl (by decide) rfl ?_; rw [nI_dn3 (by omega)]
  refine j_iload x dJ6_getChars_ba4f3_95 rfl ?_
  refine j_getsR x dJ6_getChars_ba4f3_97 hZb wfJ6_87 ?_
  refine j_iload_n x dJ6_getChars_ba4f3_100 rfl ?_
  refine j_ineg x dJ6_getChars_ba4f3_101 ?_; rw [Int32.neg_neg]
  refine j_tldG x hTb (k := v / 100) (by omega) dJ6_getChars_ba4f3_102 ?_
  refine j2_bstG x hB hlt hl dJ6_getChars_ba4f3_103 (vp_in_nI (by omega) (by omega)) rfl ?_; rw [nI_clamp (by omega)]
  refine j_iload x dJ6_getChars_ba4f3_104 rfl ?_
  refine j_if_eq (tgt := 118) x dJ6_getChars_ba4f3_106 (by decide) (fun hc => ?_) (fun hc => absurd (rfl) hc)
  refine j_iload x dJ6_getChars_ba4f3_118 rfl ?_
  exact j_ireturn x hr dJ6_getChars_ba4f3_120 (by omega) (by omega) ⟨rfl, rfl⟩
theorem c_getCharsG {d : Nat} {b : SBt} {Y : OUt} {M : MM} (hb : 1 ≤ b.2.1) {v e1 n : Nat} (hI : sbIG b M n) (hn : n < 1000) (he : dg v ≤ e1) (hen : e1 ≤ n) (hv : v < 10000) : ∃ N w, (∀ i k, i ≠ b.1 → N i k = M i k) ∧ (∀ k, fits .byte (.int (N b.1 k)) = true) ∧ (∀ k, N b.1 k = if e1 - dg v ≤ k ∧ k < e1 then dgB v (k - (e1 - dg v)) else M b.1 k) ∧ CMG d 0 0 yJ6_getChars_ba4f3 cJ6_getChars_ba4f3 7 (some .int) [.int (nI v), .int (nI e1), .ref b.1] b Y M (.inl (some (.int w))) N := by
  unfold dg at he
  by_cases h1 : v < 10
  · rw [if_pos h1] at he
    exact ⟨_, _, fun i k h => by rw [jm_n (by omega)], fit_jm (hI.2.2.2.2.2), (by rw [show dg v = 1 from by unfold dg; rw [if_pos h1]]; exact gc_row1 he h1), c_getChars_1G hb hI hn he hen h1⟩
  · rw [if_neg h1] at he
    by_cases h2 : v < 100
    · rw [if_pos h2] at he
      exact ⟨_, _, fun i k h => by rw [jm_n (by omega), jm_n (by omega)], fit_jm (fit_jm (hI.2.2.2.2.2)), (by rw [show dg v = 2 from by unfold dg; rw [if_neg h1, if_pos h2]]; exact gc_row2 he (by omega) h2), c_getChars_2G hb hI hn he hen (by omega) h2⟩
    · rw [if_neg h2] at he
      by_cases h3 : v < 1000
      · rw [if_pos h3] at he
        exact ⟨_, _, fun i k h => by rw [jm_n (by omega), jm_n (by omega), jm_n (by omega)], fit_jm (fit_jm (fit_jm (hI.2.2.2.2.2))), (by rw [show dg v = 3 from by unfold dg; rw [if_neg h1, if_neg h2, if_pos h3]]; exact gc_row3 he (by omega) h3), c_getChars_3G hb hI hn he hen (by omega) h3⟩
      · rw [if_neg h3] at he
        exact ⟨_, _, fun i k h => by rw [jm_n (by omega), jm_n (by omega), jm_n (by omega), jm_n (by omega)], fit_jm (fit_jm (fit_jm (fit_jm (hI.2.2.2.2.2)))), (by rw [show dg v = 4 from by unfold dg; rw [if_neg h1, if_neg h2, if_neg h3]]; exact gc_row4 he (by omega)), c_getChars_4G hb hI hn he hen (by omega) hv⟩
theorem c_newLengthG {d : Nat} {b : SBt} {Y : OUt} {M : MM} (hb : 1 ≤ b.2.1) {n m1 : Nat} (hm : n < m1) (hm2 : m1 < 1000) : CMG (d) 0 0 yJ8_newLength_cabcc cJ8_newLength_cabcc 4 (some .int) [.int (nI n), .int (nI (m1 - n)), .int (nI (n + 2))] b Y M (.inl (some (.int (nI (sbc n m1))))) (M) := by
  have hc1 : 0 < sbc n m1 ∧ sbc n m1 < 3000 := by unfold sbc; split <;> omega
  obtain ⟨hc1, hc2⟩ := hc1
  refine Con.of (by decide +kernel) (Nat.le_of_ble_eq_true rfl) rfl fun p l e s m args below meth c D tyc A ad0 x hr htab hname => ?_
  change JJ _ _ _ _ _ _ _ _ _ _ _ _ _ _ _ _ _ 0 [some (.int (nI n)), some (.int (nI (m1 - n))), some (.int (nI (n + 2))), none] [] _ 0 0
  refine j_iload_n x dJ8_newLength_cabcc_0 rfl ?_
  refine j_iload_n x dJ8_newLength_cabcc_1 rfl ?_
  refine j_iload_n x dJ8_newLength_cabcc_2 rfl ?_
  refine j_max x wmath dJ8_newLength_cabcc_3 wmJ8_194 (Nat.le_of_ble_eq_true rfl) (Nat.zero_le _) (Nat.zero_le _) ?_; rw [if_mx (show m1 - n < 2 ^ 31 by omega) (show n + 2 < 2 ^ 31 by omega)]
  refine j_iadd x dJ8_newLength_cabcc_6 ?_; rw [nI_add, show n + (if m1 - n < n + 2 then n + 2 else m1 - n) = sbc n m1 from rfl]
  refine j_istore_n x dJ8_newLength_cabcc_7 (by decide) rfl ?_
  refine j_iconst (v := 0) x dJ8_newLength_cabcc_8 (by decide) ?_
  refine j_iload_n x dJ8_newLength_cabcc_9 rfl ?_
  refine j_icmp_ge (tgt := 21) x dJ8_newLength_cabcc_10 (by decide) (fun hc => absurd hc (nI_nle hc1 (by omega))) (fun hc => ?_)
  refine j_iload_n x dJ8_newLength_cabcc_13 rfl ?_
  refine j_ldci x dJ8_newLength_cabcc_14 wkJ8_200 ?_
  refine j_icmp_gt (tgt := 21) x dJ8_newLength_cabcc_16 (by decide) (fun hc => absurd hc (show ¬ nI 2147483639 < nI (sbc n m1) from nI_nlt (by omega) (by decide))) (fun hc => ?_)
  refine j_iload_n x dJ8_newLength_cabcc_19 rfl ?_
  exact j_ireturn x hr dJ8_newLength_cabcc_20 (by omega) (by omega) ⟨rfl, rfl⟩
theorem c_newCapacityG {d : Nat} {b : SBt} {Y : OUt} {M : MM} (hb : 1 ≤ b.2.1) {n : Nat} (hI : sbIG b M n) {m1 : Nat} (hm : n < m1) (hm2 : m1 < 1000) : CMG (d + 1) 0 0 yJ5_newCapacity_0f7a4 cJ5_newCapacity_0f7a4 6 (some .int) [.ref 0, .int (nI m1)] b Y M (.inl (some (.int (nI (sbc n m1))))) (M) := by
  have hc1 : 0 < sbc n m1 ∧ sbc n m1 < 3000 := by unfold sbc; split <;> omega
  refine Con.of (by decide +kernel) (Nat.le_of_ble_eq_true rfl) rfl fun p l e s m args below meth c D tyc A ad0 x hr htab hname => ?_
  change JJ _ _ _ _ _ _ _ _ _ _ _ _ _ _ _ _ _ 0 [some (.ref 0), some (.int (nI m1)), none, none, none, none] [] _ 0 0
  refine j_aload_n x dJ5_newCapacity_0f7a4_0 rfl ?_
  refine j2_vgetG x hb dJ5_newCapacity_0f7a4_1 wfJ5_15 ?_
  refine j2_blenG x hI.1 hI.2.1 hI.2.2.2.1 dJ5_newCapacity_0f7a4_4 ?_
  refine j_istore_n x dJ5_newCapacity_0f7a4_5 (by decide) rfl ?_
  refine j_iload_n x dJ5_newCapacity_0f7a4_6 rfl ?_
  refine j_aload_n x dJ5_newCapacity_0f7a4_7 rfl ?_
  refine j2_getiG (k := 1) x hb dJ5_newCapacity_0f7a4_8 jc_1 wfJ5_22 (by decide) rfl ?_; rw [hI.2.2.2.2.1]
  refine j_ishl x dJ5_newCapacity_0f7a4_11 ?_; rw [shl0]
  refine j_istore_n x dJ5_newCapacity_0f7a4_12 (by decide) rfl ?_
  refine j_iload_n x dJ5_newCapacity_0f7a4_13 rfl ?_
  refine j_iload_n x dJ5_newCapacity_0f7a4_14 rfl ?_
  refine j_isub x dJ5_newCapacity_0f7a4_15 ?_; rw [nI_sub (Nat.le_of_lt hm)]
  refine j_istore x dJ5_newCapacity_0f7a4_16 (by decide) rfl ?_
  refine j_iload_n x dJ5_newCapacity_0f7a4_18 rfl ?_
  refine j_iload x dJ5_newCapacity_0f7a4_19 rfl ?_
  refine j_iload_n x dJ5_newCapacity_0f7a4_21 rfl ?_
  refine j_iconst (v := 2) x dJ5_newCapacity_0f7a4_22 (by decide) ?_
  refine j_aload_n x dJ5_newCapacity_0f7a4_23 rfl ?_
  refine j2_getiG (k := 1) x hb dJ5_newCapacity_0f7a4_24 jc_1 wfJ5_22 (by decide) rfl ?_; rw [hI.2.2.2.2.1]
  refine j_ishl x dJ5_newCapacity_0f7a4_27 ?_; rw [shl0]
  refine j_iadd x dJ5_newCapacity_0f7a4_28 ?_; rw [show (2 : Int32) = nI 2 from rfl, nI_add]
  refine j2_callSiG x hb dJ5_newCapacity_0f7a4_29 m_J8_newLength_cabcc (c_newLengthG (d := d) hb hm hm2) wmJ5_114 rfl (Nat.le_of_ble_eq_true rfl) (j_fit_rm (by omega) (by omega) (by omega)) rfl ?_
  refine j_istore x dJ5_newCapacity_0f7a4_32 (by decide) rfl ?_
  refine j_iload x dJ5_newCapacity_0f7a4_34 rfl ?_
  refine j_ldci x dJ5_newCapacity_0f7a4_36 wkJ5_39 ?_
  refine j_icmp_ne (tgt := 51) x dJ5_newCapacity_0f7a4_38 (by decide) (fun hc => ?_) (fun hc => absurd hc (fun q => absurd ((nI_eq (by omega) (by decide)).mp (show nI (sbc n m1) = nI 2147483647 from q)) (by omega)))
  refine j_iload x dJ5_newCapacity_0f7a4_51 rfl ?_
  refine j_aload_n x dJ5_newCapacity_0f7a4_53 rfl ?_
  refine j2_getiG (k := 1) x hb dJ5_newCapacity_0f7a4_54 jc_1 wfJ5_22 (by decide) rfl ?_; rw [hI.2.2.2.2.1]
  refine j_ishr x dJ5_newCapacity_0f7a4_57 ?_; rw [shr0]
  exact j_ireturn x hr dJ5_newCapacity_0f7a4_58 (by omega) (by omega) ⟨rfl, rfl⟩
theorem hLen_sbpG {b : SBt} {c1 i : Nat} (h : i < b.2.1) : hLenG (sbp b c1) i = hLenG b i := by
  unfold hLenG sbp
  split
  · rfl
  · exact if_neg (by omega)
theorem hLen_newG {b : SBt} {c1 : Nat} (hb : 1 ≤ b.2.1) : hLenG (sbp b c1) b.2.1 = c1 := by
  unfold hLenG sbp
  rw [if_neg (by omega)]
  exact if_pos rfl
theorem sbN_fitG {b : SBt} {M : MM} {n : Nat} (hI : sbIG b M n) : ∀ k, fits .byte (.int (sbN b M n b.2.1 k)) = true := fun k => by
  rw [sbN, mz_s]
  split
  · rw [mz_n (Nat.ne_of_lt hI.2.1)]; exact hI.2.2.2.2.2 k
  · rw [mz_s]; decide
theorem c_copyOfG {d : Nat} {b : SBt} {Y : OUt} {M : MM} (hb : 1 ≤ b.2.1) {n : Nat} (hI : sbIG b M n) {c1 : Nat} (hcc : n < c1) (hc2 : c1 ≤ 202) : Con (d) 1 202 yJ7_copyOf_9075b cJ7_copyOf_9075b 3 (some (FieldType.array FieldType.byte)) [.ref b.1, .int (nI c1)] (HHG b Y M) (fun o k => o = .inl (some (.ref b.2.1)) ∧ k = HHG (sbp b c1) Y (sbN b M n)) := by
  refine Con.of (by decide +kernel) (Nat.le_of_ble_eq_true rfl) rfl fun p l e s m args below meth c D tyc A ad0 x hr htab hname => ?_
  change JJ _ _ _ _ _ _ _ _ _ _ _ _ _ _ _ _ _ 0 [some (.ref b.1), some (.int (nI c1)), none] [] _ 0 0
  refine j_iload_n x dJ7_copyOf_9075b_0 rfl ?_
  refine j_aload_n x dJ7_copyOf_9075b_1 rfl ?_
  refine j2_blenG x hI.1 hI.2.1 hI.2.2.2.1 dJ7_copyOf_9075b_2 ?_
  refine j_icmp_ne (tgt := 14) x dJ7_copyOf_9075b_3 (by decide) (fun hc => ?_) (fun hc => absurd hc (fun q => absurd ((nI_eq (by omega) (by omega)).mp q) (by omega)))
  refine j_iload_n x dJ7_copyOf_9075b_14 rfl ?_
  refine j2_bnewG x hb dJ7_copyOf_9075b_15 wa_byte (by omega) (Nat.le_of_ble_eq_true rfl) (by simp only [j_rm]; omega) ?_
  refine j_astore_n x dJ7_copyOf_9075b_17 (by decide) rfl ?_
  refine j_aload_n x dJ7_copyOf_9075b_18 rfl ?_
  refine j_iconst (v := 0) x dJ7_copyOf_9075b_19 (by decide) ?_
  refine j_aload_n x dJ7_copyOf_9075b_20 rfl ?_
  refine j_iconst (v := 0) x dJ7_copyOf_9075b_21 (by decide) ?_
  refine j_aload_n x dJ7_copyOf_9075b_22 rfl ?_
  refine j2_blenG (n := n) x hI.1 (show b.1 < b.2.1 + 1 from Nat.lt_succ_of_lt hI.2.1) ((hLen_sbpG hI.2.1).trans hI.2.2.2.1) dJ7_copyOf_9075b_23 ?_
  refine j_iload_n x dJ7_copyOf_9075b_24 rfl ?_
  refine j_min x wmath dJ7_copyOf_9075b_25 wmJ7_304 (Nat.le_of_ble_eq_true rfl) (Nat.le_of_ble_eq_true rfl) (by omega) ?_; rw [if_neg (nI_nlt (Nat.le_of_lt hcc) (by omega))]
  refine j_copyB x dJ7_copyOf_9075b_28 wmJ7_150 (Nat.le_of_ble_eq_true rfl) (show b.1 < b.2.1 + 1 from Nat.lt_succ_of_lt hI.2.1) (isB_tG hI.1) (show b.2.1 < b.2.1 + 1 from Nat.lt_succ_self _) (isB_tG (Or.inr hb)) (fun k => by show fits .byte (.int (j_int (hFG _ Y _ b.1 k))) = true; rw [isB_fG hI.1]; show fits .byte (.int (mz M b.2.1 (fun _ => 0) b.1 k)) = true; rw [mz_n (Nat.ne_of_lt hI.2.1)]; exact hI.2.2.2.2.2 k) (nI_pos (by omega)) (by rw [nI_clamp (by omega)]; show n ≤ hLenG (sbp b c1) b.1; rw [hLen_sbpG hI.2.1, hI.2.2.2.1]; exact Nat.le_refl _) (by rw [nI_clamp (by omega)]; show n ≤ hLenG (sbp b c1) b.2.1; rw [hLen_newG hb]; omega) ?_; rw [nI_clamp (by omega), HH_cpbG hI.1 (Or.inr hb)]
  refine j_aload_n x dJ7_copyOf_9075b_31 rfl ?_
  exact j_areturn x hr (Or.inr ⟨_, rfl⟩) dJ7_copyOf_9075b_32 (Nat.le_of_ble_eq_true rfl) (by omega) ⟨rfl, rfl⟩
def sbFG (M N : MM) : Prop := ∀ i k, (i < 0 ∨ (1 < i ∧ i < 1) ∨ (i = 0 ∧ k = 3)) → N i k = M i k
theorem sbF_0G {M : MM} : sbFG M M := fun _ _ _ => rfl
theorem c_ensure_noG {d : Nat} {b : SBt} {Y : OUt} {M : MM} (hb : 1 ≤ b.2.1) {n : Nat} (hI : sbIG b M n) {m1 : Nat} (hm : m1 ≤ n) (hm2 : n < 1000) : CMG (d) 0 0 yJ5_ensureCapacityInternal_d00df cJ5_ensureCapacityInternal_d00df 3 none [.ref 0, .int (nI m1)] b Y M (.inl none) (M) := by
  refine Con.of (by decide +kernel) (Nat.le_of_ble_eq_true rfl) rfl fun p l e s m args below meth c D tyc A ad0 x hr htab hname => ?_
  change JJ _ _ _ _ _ _ _ _ _ _ _ _ _ _ _ _ _ 0 [some (.ref 0), some (.int (nI m1)), none] [] _ 0 0
  refine j_aload_n x dJ5_ensureCapacityInternal_d00df_0 rfl ?_
  refine j2_vgetG x hb dJ5_ensureCapacityInternal_d00df_1 wfJ5_15 ?_
  refine j2_blenG x hI.1 hI.2.1 hI.2.2.2.1 dJ5_ensureCapacityInternal_d00df_4 ?_
  refine j_aload_n x dJ5_ensureCapacityInternal_d00df_5 rfl ?_
  refine j2_getiG (k := 1) x hb dJ5_ensureCapacityInternal_d00df_6 jc_1 wfJ5_22 (by decide) rfl ?_; rw [hI.2.2.2.2.1]
  refine j_ishr x dJ5_ensureCapacityInternal_d00df_9 ?_; rw [shr0]
  refine j_istore_n x dJ5_ensureCapacityInternal_d00df_10 (by decide) rfl ?_
  refine j_iload_n x dJ5_ensureCapacityInternal_d00df_11 rfl ?_
  refine j_iload_n x dJ5_ensureCapacityInternal_d00df_12 rfl ?_
  refine j_isub x dJ5_ensureCapacityInternal_d00df_13 ?_
  refine j_if_le (tgt := 38) x dJ5_ensureCapacityInternal_d00df_14 (by decide) (fun hc => ?_) (fun hc => absurd (sub_le0 hm (by omega)) hc)
  exact j_return x hr dJ5_ensureCapacityInternal_d00df_38 (by omega) (by omega) ⟨rfl, rfl⟩
theorem c_ensure_upG {d : Nat} {b : SBt} {Y : OUt} {M : MM} (hb : 1 ≤ b.2.1) {n : Nat} (hI : sbIG b M n) {m1 : Nat} (hm : n < m1) (hm2 : m1 < 1000) (hm3 : m1 ≤ 100) : Con (d + 3) 1 202 yJ5_ensureCapacityInternal_d00df cJ5_ensureCapacityInternal_d00df 3 none [.ref 0, .int (nI m1)] (HHG b Y M) (fun o k => o = .inl none ∧ ∃ b2 N n2, k = HHG b2 Y N ∧ sbIG b2 N n2 ∧ m1 ≤ n2 ∧ n2 ≤ 202 ∧ sbFG M N ∧ ∀ k, k < n → N b2.1 k = M b.1 k) := by
  refine Con.of (by decide +kernel) (Nat.le_of_ble_eq_true rfl) rfl fun p l e s m args below meth c D tyc A ad0 x hr htab hname => ?_
  change JJ _ _ _ _ _ _ _ _ _ _ _ _ _ _ _ _ _ 0 [some (.ref 0), some (.int (nI m1)), none] [] _ 0 0
  have hc9 : n < sbc n m1 ∧ sbc n m1 < 1000 := by unfold sbc; split <;> omega
  have hc8 : m1 ≤ sbc n m1 := by unfold sbc; split <;> omega
  have hc7 : sbc n m1 ≤ 202 := by unfold sbc; split <;> omega
  refine j_aload_n x dJ5_ensureCapacityInternal_d00df_0 rfl ?_
  refine j2_vgetG x hb dJ5_ensureCapacityInternal_d00df_1 wfJ5_15 ?_
  refine j2_blenG x hI.1 hI.2.1 hI.2.2.2.1 dJ5_ensureCapacityInternal_d00df_4 ?_
  refine j_aload_n x dJ5_ensureCapacityInternal_d00df_5 rfl ?_
  refine j2_getiG (k := 1) x hb dJ5_ensureCapacityInternal_d00df_6 jc_1 wfJ5_22 (by decide) rfl ?_; rw [hI.2.2.2.2.1]
  refine j_ishr x dJ5_ensureCapacityInternal_d00df_9 ?_; rw [shr0]
  refine j_istore_n x dJ5_ensureCapacityInternal_d00df_10 (by decide) rfl ?_
  refine j_iload_n x dJ5_ensureCapacityInternal_d00df_11 rfl ?_
  refine j_iload_n x dJ5_ensureCapacityInternal_d00df_12 rfl ?_
  refine j_isub x dJ5_ensureCapacityInternal_d00df_13 ?_; rw [nI_sub (Nat.le_of_lt hm)]
  refine j_if_le (tgt := 38) x dJ5_ensureCapacityInternal_d00df_14 (by decide) (fun hc => absurd hc (nI_nle (by omega) (by omega))) (fun hc => ?_)
  refine j_aload_n x dJ5_ensureCapacityInternal_d00df_17 rfl ?_
  refine j_aload_n x dJ5_ensureCapacityInternal_d00df_18 rfl ?_
  refine j2_vgetG x hb dJ5_ensureCapacityInternal_d00df_19 wfJ5_15 ?_
  refine j_aload_n x dJ5_ensureCapacityInternal_d00df_22 rfl ?_
  refine j_iload_n x dJ5_ensureCapacityInternal_d00df_23 rfl ?_
  refine j_callVUG x dJ5_ensureCapacityInternal_d00df_24 (c_newCapacityG (d := d + 1) hb hI hm hm2) mU_newCap wmJ5_104 jc_1 rfl (show 0 < _ from Nat.lt_of_lt_of_le (by decide) hb) rfl rfl (Nat.le_of_ble_eq_true rfl) (j_fit_rm (by omega) (by omega) (by omega)) rfl jres_noG (fun v h1 hQ => ?_)
  obtain ⟨rfl, rfl⟩ : v = some (.int (nI (sbc n m1))) ∧ h1 = HHG b Y M := ⟨by have := hQ.1; cases this; rfl, hQ.2⟩
  change JJ _ _ _ _ _ _ _ _ _ _ _ _ _ _ _ _ _ _ _ (.int (nI (sbc n m1)) :: _) (HHG b Y M) _ _
  refine j_aload_n x dJ5_ensureCapacityInternal_d00df_27 rfl ?_
  refine j2_getiG (k := 1) x hb dJ5_ensureCapacityInternal_d00df_28 jc_1 wfJ5_22 (by decide) rfl ?_; rw [hI.2.2.2.2.1]
  refine j_ishl x dJ5_ensureCapacityInternal_d00df_31 ?_; rw [shl0]
  refine j_callS x dJ5_ensureCapacityInternal_d00df_32 (c_copyOfG (d := d + 1) (Y := Y) hb hI hc9.1 hc7) m_J7_copyOf_9075b wmJ5_108 rfl (Nat.le_of_ble_eq_true rfl) (j_fit_rm (by omega) (Nat.le_of_ble_eq_true rfl) (Nat.le_of_ble_eq_true rfl)) rfl (fun E k z => by cases z.1) (fun v h1 hQ => ?_)
  obtain ⟨rfl, rfl⟩ : v = some (.ref b.2.1) ∧ h1 = HHG (sbp b (sbc n m1)) Y (sbN b M n) := ⟨by have := hQ.1; cases this; rfl, hQ.2⟩
  change JJ _ _ _ _ _ _ _ _ _ _ _ _ _ _ _ _ _ _ _ (.ref b.2.1 :: .ref 0 :: _) (HHG (sbp b (sbc n m1)) Y (sbN b M n)) _ _
  refine j2_vputG x (show 1 ≤ b.2.1 + 1 by omega) dJ5_ensureCapacityInternal_d00df_35 wfJ5_15 ?_
  exact j_return x hr dJ5_ensureCapacityInternal_d00df_38 (Nat.le_of_ble_eq_true rfl) (Nat.le_of_ble_eq_true rfl) ⟨rfl, _, _, sbc n m1, rfl, ⟨Or.inr hb, Nat.lt_succ_self _, Nat.le_succ_of_le hb, hLen_newG hb, (sbN_n (by omega)).trans hI.2.2.2.2.1, sbN_fitG hI⟩, hc8, hc7, fun i k h => sbN_n (by omega), fun k hk => by show sbN b M n b.2.1 k = M b.1 k; rw [sbN, mz_s, if_pos hk, mz_n (Nat.ne_of_lt hI.2.1)]⟩
theorem c_ensure_n1G {d : Nat} {b : SBt} {Y : OUt} {M : MM} (hb : 1 ≤ b.2.1) {n : Nat} (hI : sbIG b M n) {m1 : Nat} (hm : m1 ≤ n) (hm2 : n ≤ 202) : Con (d + 3) 1 202 yJ5_ensureCapacityInternal_d00df cJ5_ensureCapacityInternal_d00df 3 none [.ref 0, .int (nI m1)] (HHG b Y M) (fun o k => o = .inl none ∧ ∃ b2 N n2, k = HHG b2 Y N ∧ sbIG b2 N n2 ∧ m1 ≤ n2 ∧ n2 ≤ 202 ∧ sbFG M N ∧ ∀ k, k < n → N b2.1 k = M b.1 k) := by
  refine Con.of (by decide +kernel) (Nat.le_of_ble_eq_true rfl) rfl fun p l e s m args below meth c D tyc A ad0 x hr htab hname => ?_
  change JJ _ _ _ _ _ _ _ _ _ _ _ _ _ _ _ _ _ 0 [some (.ref 0), some (.int (nI m1)), none] [] _ 0 0
  refine j_aload_n x dJ5_ensureCapacityInternal_d00df_0 rfl ?_
  refine j2_vgetG x hb dJ5_ensureCapacityInternal_d00df_1 wfJ5_15 ?_
  refine j2_blenG x hI.1 hI.2.1 hI.2.2.2.1 dJ5_ensureCapacityInternal_d00df_4 ?_
  refine j_aload_n x dJ5_ensureCapacityInternal_d00df_5 rfl ?_
  refine j2_getiG (k := 1) x hb dJ5_ensureCapacityInternal_d00df_6 jc_1 wfJ5_22 (by decide) rfl ?_; rw [hI.2.2.2.2.1]
  refine j_ishr x dJ5_ensureCapacityInternal_d00df_9 ?_; rw [shr0]
  refine j_istore_n x dJ5_ensureCapacityInternal_d00df_10 (by decide) rfl ?_
  refine j_iload_n x dJ5_ensureCapacityInternal_d00df_11 rfl ?_
  refine j_iload_n x dJ5_ensureCapacityInternal_d00df_12 rfl ?_
  refine j_isub x dJ5_ensureCapacityInternal_d00df_13 ?_
  refine j_if_le (tgt := 38) x dJ5_ensureCapacityInternal_d00df_14 (by decide) (fun hc => ?_) (fun hc => absurd (sub_le0 hm (by omega)) hc)
  exact j_return x hr dJ5_ensureCapacityInternal_d00df_38 (by omega) (by omega) ⟨rfl, b, M, n, rfl, hI, hm, hm2, sbF_0G, fun _ _ => rfl⟩
theorem c_ensureG {d : Nat} {b : SBt} {Y : OUt} {M : MM} (hb : 1 ≤ b.2.1) {n : Nat} (hI : sbIG b M n) (hn : n ≤ 202) {m1 : Nat} (hm3 : m1 ≤ 100) : Con (d + 3) 1 202 yJ5_ensureCapacityInternal_d00df cJ5_ensureCapacityInternal_d00df 3 none [.ref 0, .int (nI m1)] (HHG b Y M) (fun o k => o = .inl none ∧ ∃ b2 N n2, k = HHG b2 Y N ∧ sbIG b2 N n2 ∧ m1 ≤ n2 ∧ n2 ≤ 202 ∧ sbFG M N ∧ ∀ k, k < n → N b2.1 k = M b.1 k) := by
  by_cases h : m1 ≤ n
  · exact c_ensure_n1G hb hI h hn
  · exact c_ensure_upG hb hI (by omega) (by omega) hm3

def sbGG (M N : MM) : Prop := ∀ i k, (i < 0 ∨ (1 < i ∧ i < 1)) → N i k = M i k
theorem sbG_FG {M N : MM} (h : sbFG M N) : sbGG M N := fun i k z => h i k (by omega)
theorem isB_neG {i : Nat} (h : isBG i) : i ≠ 0 ∧ ¬ i < 0 ∧ ¬ (1 < i ∧ i < 1) := by unfold isBG at h; omega
theorem sbI_wG {b : SBt} {N : MM} {n k : Nat} {v w : Int32} (h : sbIG b N n) : sbIG b (jm (jm N 0 3 v) b.1 k (vp_nar .byte w)) n := by
  obtain ⟨h1, h2, h3, h4, h5, h6⟩ := h
  have := isB_neG h1
  exact ⟨h1, h2, h3, h4, by rw [jm_n (by omega), jm_n (by omega)]; exact h5, fit_jm (fun c => by rw [jm_n (by omega)]; exact h6 c)⟩
theorem sbG_wG {b : SBt} {M N : MM} {k : Nat} {v w : Int32} (hB : isBG b.1) (h : sbGG M N) : sbGG M (jm (jm N 0 3 v) b.1 k w) := fun i j z => by
  have := isB_neG hB
  rw [jm_n (by omega), jm_n (by omega)]; exact h i j z
theorem c_appI5G {d : Nat} {b : SBt} {Y : OUt} {M : MM} (hb : 1 ≤ b.2.1) {n : Nat} (hI : sbIG b M n) (hn : n ≤ 202) {c1 : Nat} (hc : M 0 3 = nI c1) (hcn : c1 ≤ n) (hc1 : c1 < 90) {v1 : Nat} (hv : v1 < 10000) : Con (d + 4) 1 202 yJ5_append_c97b9 cJ5_append_c97b9 4 (some (FieldType.object "java/lang/AbstractStringBuilder")) [.ref 0, .int (nI v1)] (HHG b Y M) (fun o k => o = .inl (some (.ref 0)) ∧ ∃ b2 N n2, k = HHG b2 Y N ∧ sbIG b2 N n2 ∧ n2 ≤ 202 ∧ c1 + dg v1 ≤ n2 ∧ sbGG M N ∧ N 0 3 = nI (c1 + dg v1) ∧ (∀ k, k < c1 → N b2.1 k = M b.1 k) ∧ ∀ j, j < dg v1 → N b2.1 (c1 + j) = dgB v1 j) := by
  have hdg := dg_le v1
  refine Con.of (by decide +kernel) (Nat.le_of_ble_eq_true rfl) rfl fun p l e s m args below meth c D tyc A ad0 x hr htab hname => ?_
  change JJ _ _ _ _ _ _ _ _ _ _ _ _ _ _ _ _ _ 0 [some (.ref 0), some (.int (nI v1)), none, none] [] _ 0 0
  refine j_aload_n x dJ5_append_c97b9_0 rfl ?_
  refine j2_getiG (k := 3) x hb dJ5_append_c97b9_1 jc_1 wfJ5_79 (by decide) rfl ?_; rw [hc]
  refine j_istore_n x dJ5_append_c97b9_4 (by decide) rfl ?_
  refine j_iload_n x dJ5_append_c97b9_5 rfl ?_
  refine j_iload_n x dJ5_append_c97b9_6 rfl ?_
  refine j2_callSiG x hb dJ5_append_c97b9_7 m_J6_stringSize_0f7a4 (c_stringSizeG (d := d) hb hv) wmJ5_245 rfl (Nat.le_of_ble_eq_true rfl) (j_fit_rm (by omega) (by omega) (by omega)) rfl ?_
  refine j_iadd x dJ5_append_c97b9_10 ?_; rw [nI_add]
  refine j_istore_n x dJ5_append_c97b9_11 (by decide) rfl ?_
  refine j_aload_n x dJ5_append_c97b9_12 rfl ?_
  refine j_iload_n x dJ5_append_c97b9_13 rfl ?_
  refine j_callVUG x dJ5_append_c97b9_14 (c_ensureG (d := d) (Y := Y) hb hI hn (m1 := c1 + dg v1) (by omega)) mU_ensure wmJ5_100 jc_1 rfl (show 0 < _ from Nat.lt_of_lt_of_le (by decide) hb) rfl rfl (Nat.le_of_ble_eq_true rfl) (j_fit_rm (by omega) (Nat.le_of_ble_eq_true rfl) (Nat.le_of_ble_eq_true rfl)) rfl (fun E k z => by cases z.1) (fun v h1 hQ => ?_)
  obtain ⟨ho, b1, N1, n1, rfl, hI1, hm1, hn1, hF1, hT1⟩ := hQ
  cases ho
  change JJ _ _ _ _ _ _ _ _ _ _ _ _ _ _ _ _ _ _ _ [] (HHG b1 Y N1) _ _
  have hb1 : 1 ≤ b1.2.1 := hI1.2.2.1
  have hc2 : N1 0 3 = nI c1 := (hF1 0 3 (by omega)).trans hc
  have hB1 := isB_neG hI1.1
  obtain ⟨N2, w2, hN2, hf2, hR2, hC2⟩ := c_getCharsG (d := d) (Y := Y) (M := N1) (v := v1) (e1 := c1 + dg v1) hb1 hI1 (by omega) (Nat.le_add_left _ _) hm1 hv
  refine j_aload_n x dJ5_append_c97b9_17 rfl ?_
  refine j_callVUG x dJ5_append_c97b9_18 (c_isLatin1G (d := d) (Y := Y) hb1 hI1.2.2.2.2.1) mU_latin wmJ5_83 jc_1 rfl (show 0 < _ from Nat.lt_of_lt_of_le (by decide) hb1) rfl rfl (Nat.le_of_ble_eq_true rfl) (j_fit_rm (by omega) (by omega) (by omega)) rfl jres_noG (fun v h1 hQ => ?_); obtain ⟨rfl, rfl⟩ : v = some (.int 1) ∧ h1 = HHG b1 Y N1 := ⟨by have := hQ.1; cases this; rfl, hQ.2⟩; change JJ _ _ _ _ _ _ _ _ _ _ _ _ _ _ _ _ _ _ _ (.int 1 :: []) (HHG b1 Y N1) _ _
  refine j_if_eq (tgt := 37) x dJ5_append_c97b9_21 (by decide) (fun hc => absurd hc (by decide)) (fun hc => ?_)
  refine j_iload_n x dJ5_append_c97b9_24 rfl ?_
  refine j_iload_n x dJ5_append_c97b9_25 rfl ?_
  refine j_aload_n x dJ5_append_c97b9_26 rfl ?_
  refine j2_vgetG x hb1 dJ5_append_c97b9_27 wfJ5_15 ?_
  refine j2_callSiG x hb1 dJ5_append_c97b9_30 m_J6_getChars_ba4f3 hC2 wmJ5_248 rfl (Nat.le_of_ble_eq_true rfl) (j_fit_rm (by omega) (by omega) (by omega)) rfl ?_
  refine j_pop x dJ5_append_c97b9_33 rfl ?_
  refine j_goto (tgt := 48) x dJ5_append_c97b9_34 (by decide) ?_
  refine j_aload_n x dJ5_append_c97b9_48 rfl ?_
  refine j_iload_n x dJ5_append_c97b9_49 rfl ?_
  refine j2_putiG (k := 3) x hb1 dJ5_append_c97b9_50 jc_1 wfJ5_79 (by decide) rfl rfl rfl rfl ?_
  refine j_aload_n x dJ5_append_c97b9_53 rfl ?_
  exact j_areturn x hr (Or.inl ⟨_, rfl⟩) dJ5_append_c97b9_54 (Nat.le_of_ble_eq_true rfl) (Nat.le_of_ble_eq_true rfl) ⟨rfl, b1, _, n1, rfl, ⟨hI1.1, hI1.2.1, hb1, hI1.2.2.2.1, by rw [jm_n (by omega), hN2 0 1 (by omega)]; exact hI1.2.2.2.2.1, fun k => by rw [jm_n (by omega)]; exact hf2 k⟩, hn1, hm1, fun i k z => by rw [jm_n (by omega), hN2 i k (by omega)]; exact sbG_FG hF1 i k z, jm_s, fun k hk => by rw [jm_n (by omega), hR2 k, if_neg (by omega)]; exact hT1 k (by omega), fun j hj => by rw [jm_n (by omega), hR2 (c1 + j), if_pos (by omega), show c1 + j - (c1 + dg v1 - dg v1) = j by omega]⟩
theorem c_appIG {d : Nat} {b : SBt} {Y : OUt} {M : MM} (hb : 1 ≤ b.2.1) {n : Nat} (hI : sbIG b M n) (hn : n ≤ 202) {c1 : Nat} (hc : M 0 3 = nI c1) (hcn : c1 ≤ n) (hc1 : c1 < 90) {v1 : Nat} (hv : v1 < 10000) : Con (d + 5) 1 202 yJ4_append_bf812 cJ4_append_bf812 2 (some (FieldType.object "java/lang/StringBuilder")) [.ref 0, .int (nI v1)] (HHG b Y M) (fun o k => o = .inl (some (.ref 0)) ∧ ∃ b2 N n2, k = HHG b2 Y N ∧ sbIG b2 N n2 ∧ n2 ≤ 202 ∧ c1 + dg v1 ≤ n2 ∧ sbGG M N ∧ N 0 3 = nI (c1 + dg v1) ∧ (∀ k, k < c1 → N b2.1 k = M b.1 k) ∧ ∀ j, j < dg v1 → N b2.1 (c1 + j) = dgB v1 j) := by
  refine Con.of (by decide +kernel) (Nat.le_of_ble_eq_true rfl) rfl fun p l e s m args below meth c D tyc A ad0 x hr htab hname => ?_
  change JJ _ _ _ _ _ _ _ _ _ _ _ _ _ _ _ _ _ 0 [some (.ref 0), some (.int (nI v1))] [] _ 0 0
  refine j_aload_n x dJ4_append_bf812_0 rfl ?_
  refine j_iload_n x dJ4_append_bf812_1 rfl ?_
  refine j_callSU x dJ4_append_bf812_2 (c_appI5G (d := d) (Y := Y) hb hI hn hc hcn hc1 hv) ⟨wsame_J5_append_c97b9, wsup_J4, t_J5_append_c97b9, wi_java_lang_AbstractStringBuilder, q_J5_append_c97b9, ⟨by decide, (by show _ = some 1; decide +kernel)⟩, by decide⟩ wmJ4_53 jc_1 (show 0 < b.2.1 by omega) rfl rfl (Nat.le_of_ble_eq_true rfl) (j_fit_rm (by omega) (Nat.le_of_ble_eq_true rfl) (Nat.le_of_ble_eq_true rfl)) rfl (fun E k z => by cases z.1) (fun v h1 hQ => ?_)
  obtain ⟨ho, b1, N1, n1, rfl, hI1, hn1, hm1, hG1, hc2⟩ := hQ
  cases ho
  change JJ _ _ _ _ _ _ _ _ _ _ _ _ _ _ _ _ _ _ _ [.ref 0] (HHG b1 Y N1) _ _
  refine j_pop x dJ4_append_bf812_5 rfl ?_
  refine j_aload_n x dJ4_append_bf812_6 rfl ?_
  exact j_areturn x hr (Or.inl ⟨_, rfl⟩) dJ4_append_bf812_7 (Nat.le_of_ble_eq_true rfl) (Nat.le_of_ble_eq_true rfl) ⟨rfl, b1, N1, n1, rfl, hI1, hn1, hm1, hG1, hc2⟩
