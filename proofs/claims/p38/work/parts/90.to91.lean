section
/-! THE CLAIM OUT OF ONE WALK OF THE LAW'S BODY. Your part is whole_start (and what it stands on); all else here is the same for every law, but numbers. -/
def R_law : String := "LeagueTablesLaw"
def lw_P (b : Addr) (xs : List Int32) (args : Array Value) (s : State) : Prop := args = #[.ref b] ∧ s.IntsAt b xs ∧ xs.length ≤ 2048 ∧ (Jvm.Cond.and given_1 narrow_1).before args s = true
/-- what a walk over the start with the record d0 says of its end, said of the start itself -/
theorem lw_closed {s t : State} {o : Outcome} {d0 : Drawn} {L : List Loc} {k n : Nat} (hd0 : s.drawn.sameBut d0 lw_cs) (hv : ∃ v, o = .returned v) (hW : (s.setDrawn d0).WarmedH t.vm) (hs : (s.setDrawn d0).sameButNew ({ t with vm := s.vm } : State) L k n) : State.butDraws s t lw_cs (fun t1 => Framed s o t1 L k n) := by
  have h2 : t.drawn = d0 := congrArg State.drawn hs.1
  refine ⟨⟨hv, hW, State.sameButNew.setDrawn hs s.drawn⟩, ?_, by decide⟩
  rw [h2]
  exact hd0
def lw_Q (_ : Array Value) (s : State) (o : Outcome) (t : State) : Prop := o = .returned (some (.int 1)) ∧ State.butDraws s t lw_cs (fun t1 => Framed s o t1 [] 603072 7202922)
def lw_Z (below : List Frame) (a : Array Value) (s : State) : State → Prop := fun t => ∃ o, t.status = .running ∧ Ended t below o ∧ lw_Q a s o t
/-- the law's own end, with 1 on the stack, nothing written that was there before, its room as the claim has it; d0: the record of draws at this point (at the entry s.drawn: begin with 'refine W.base ?_' and 'have hd0 := Drawn.sameBut.refl s.drawn lw_cs') -/
theorem lw_ret {p : Program} {l : Launch} {e : Env} {s : State} {m : MethodId} {below : List Frame} {meth : Method} {c : Code} {b : Nat} {d0 : Drawn} (hd0 : s.drawn.sameBut d0 lw_cs) (hx : p.tables.exec = Jvm.exec) (hb : c.code = code) (hr : meth.sig.returnType = ret) (hlocks : meth.locks = false) {pc : Nat} {H : Heap} {ls : Array Slot} (hdg : decode code pc = .ok (.ireturn, 1)) : W p l e room_1 (s.setDrawn d0) m #[Value.ref b] below meth c H [] 603072 7202922 (lw_Z below #[Value.ref b] s) (F0 m pc ls [.int 1]) := by
  intro T hT X
  obtain ⟨fs, hret, hrun, hended, hW, hframe⟩ := X.leave (v := some (.int 1)) (hlocks := hlocks) (fun h => by rw [hr] at h; cases h)
  have hmeth' : T.vm.method? m = some meth := X.method'
  refine ⟨T.setFrames fs, ?_, .returned (some (.int 1)), hrun, hended, rfl, lw_closed hd0 ⟨_, rfl⟩ hW hframe⟩
  jvm_step X.here [X.here.top, hx, hb, hdg, hmeth', hr, ret, narrow_b1]
  (try refine ⟨rfl, ?_⟩); (try refine ⟨rfl, ?_⟩)
  first | (intro acts; rw [hret _ acts rfl rfl rfl]) | rw [hret _ _ rfl rfl rfl]
  exact Steps.refl _
/-- what holds at the law's entry: the machine, the code, the tables' words (any of lw_tbl by 'hts w (by decide +kernel)'), the script of L ints xs at the cell b, what the Statement gives of the start (any of its parts by flat_of_before) -/
def lw_At (p : Program) (s : State) (m : MethodId) (meth : Method) (c : Code) (b L : Nat) (xs : Nat → Int32) : Prop :=
  p.tables.exec = Jvm.exec ∧ c.code = code ∧ meth.sig.returnType = ret ∧ c.maxLocals = 9 ∧ s.vm.findClass R_law = some m.cls ∧ (∀ w ∈ lw_tbl, w.before #[Value.ref b] s = true) ∧ va_X b L xs s s.heap ∧ b < s.heap.size ∧ meth.locks = false ∧ (Jvm.Cond.and given_1 narrow_1).before #[Value.ref b] s = true
-- ===== YOUR PART BEGINS =====
end

section
/-! ===== the world at the law's entry ===== -/
theorem tbl_of {w : Cond} (h : w ∈ j_all) (hn : (match w with | .selects .. => false | _ => true) = true) : w ∈ lw_tbl := by
  rcases List.mem_append.mp (List.mem_filter.mp h).1 with h | h
  · exact h
  · rcases List.mem_cons.mp h with rfl | h
    · cases hn
    · rcases List.mem_cons.mp h with rfl | h
      · cases hn
      · cases h
theorem sel_priv {s : State} {args : Array Value} {C : String} {y z : MethodName} {cC : ClassId} (hC : s.vm.findClass C = some cC) (hz : (Cond.selects C z z).before args s = true) (hzy : z.cls = y.cls) (hpriv : (Cond.privateMethod y).before args s = true) (hinst : (Cond.instanceMethod y).before args s = true) (hy : y.cls ≠ "java/lang/invoke/MethodHandle" ∧ y.cls ≠ "java/lang/invoke/VarHandle") : (Cond.selects C y y).before args s = true := by
  obtain ⟨mk, methM, hnamed, hmethM, -, -⟩ := Cond.instanceMethod_spec hinst
  obtain ⟨c2, r, m2, h1, h2, h3, h4, kk, h5, h6⟩ := Cond.selects_spec hz
  have hcls : m2.cls = mk.cls := by
    have e1 := findClass_of_methodNamed h3
    have e2 := findClass_of_methodNamed hnamed
    rw [hzy] at e1
    exact Option.some.inj (e1.symm.trans e2)
  have hfound : s.methodFound? y.cls y.name y.desc = some mk := State.methodFound?_of_named hnamed hy
  have hsel : selectMethod {} s.vm cC mk = .method mk := selectMethod_private hmethM (Cond.privateMethod_at hpriv mk methM hnamed hmethM)
  rw [hcls] at h5
  simp only [Cond.before, Cond.holds, Cond.value, hC, hfound, hnamed, hsel, h5]
  simp [h6]

theorem step_lt {P : Nat → Prop} {n : Nat} (h : ∀ j, j < n → P j) (hn : P n) : ∀ j, j < n + 1 → P j := fun j hj => by
  by_cases e : j = n
  · subst e; exact hn
  · exact h j (by omega)
theorem ext_ok {args : Array Value} {s : State} (hts : ∀ w ∈ lw_tbl, w.before args s = true) : ∀ w ∈ j_all, w.before args s = true := by
  intro w hw
  rcases List.mem_append.mp (List.mem_filter.mp hw).1 with h | h
  · exact hts w h
  · have hz := hts _ (List.mem_of_getElem? (i := 1192) (show lw_tbl[1192]? = some (.selects "java/lang/StringBuilder" yJ5_isLatin1_aae02 yJ5_isLatin1_aae02) by decide +kernel))
    have hC : ∃ cC, s.vm.findClass "java/lang/StringBuilder" = some cC := by
      obtain ⟨c2, -, -, h1, -⟩ := Cond.selects_spec hz
      exact ⟨c2, h1⟩
    obtain ⟨cC, hC⟩ := hC
    rcases List.mem_cons.mp h with rfl | h
    · exact sel_priv hC hz rfl (hts _ (List.mem_of_getElem? (i := 1161) (show lw_tbl[1161]? = some (.privateMethod yJ5_ensureCapacityInternal_d00df) by decide +kernel))) (hts _ (List.mem_of_getElem? (i := 1162) (show lw_tbl[1162]? = some (.instanceMethod yJ5_ensureCapacityInternal_d00df) by decide +kernel))) ⟨by decide +kernel, by decide +kernel⟩
    · rcases List.mem_cons.mp h with rfl | h
      · exact sel_priv hC hz rfl (hts _ (List.mem_of_getElem? (i := 1165) (show lw_tbl[1165]? = some (.privateMethod yJ5_newCapacity_0f7a4) by decide +kernel))) (hts _ (List.mem_of_getElem? (i := 1166) (show lw_tbl[1166]? = some (.instanceMethod yJ5_newCapacity_0f7a4) by decide +kernel))) ⟨by decide +kernel, by decide +kernel⟩
      · cases h
theorem len_100 {args : Array Value} {s : State} {t : Term} (h : (Term.length t).eval args s none [] s = some (.int (nI 100))) : ∃ a cell, t.eval args s none [] s = some (.ref a) ∧ s.arrayAt? a = some cell ∧ cell.slots.size = 100 := by
  simp only [Term.eval, Option.bind_eq_bind] at h
  cases ht : t.eval args s none [] s with
  | none => simp [ht] at h
  | some x =>
    cases x <;> simp [ht] at h
    case ref a =>
      obtain ⟨cell, hcell, h⟩ := Option.bind_eq_some_iff.mp h
      by_cases hn : cell.slots.size < 2147483648
      · rw [if_pos hn] at h
        have h1 : nI cell.slots.size = nI 100 := Value.int.inj (Option.some.inj h)
        exact ⟨a, cell, rfl, hcell, (nI_eq (by omega) (by omega)).mp h1⟩
      · rw [if_neg hn] at h; cases h
theorem law_tab {args : Array Value} {s : State} {n : String} {f : Nat → Int32} {A : Nat → Prop} (hl : (Cond.laysStatic "java/lang/Integer" n "[B").before args s = true) (hini : (Cond.initialized "java/lang/Integer").before args s = true) (harr : (Cond.arrayOf (.static "java/lang/Integer" n "[B") .byte).before args s = true) (hlen : (Term.length (.static "java/lang/Integer" n "[B")).eval args s none [] s = some (.int (nI 100)))
    (hel : ∀ j : Nat, j < 100 → (Term.elem (.static "java/lang/Integer" n "[B") (.int (nI j))).eval args s none [] s = some (.int (f j))) (hA : ∀ a : Nat, a < s.heap.size → ¬ A a) : j_tab n f A s s.heap := by
  obtain ⟨a, cell, ht, hat, hsz⟩ := len_100 hlen
  obtain ⟨hcell, hkn, -, -⟩ := State.arrayAt?_spec hat
  obtain ⟨hof, -⟩ := Cond.arrayOf_spec harr ht hcell
  have hal : a < s.heap.size := (Array.getElem?_eq_some_iff.mp hcell).1
  refine ⟨a, va_Zof hl hini ht hA, hA a hal, hal, cell, hcell, hof, hkn, hsz, fun j hj => ?_⟩
  obtain ⟨a2, i, cell2, h1, h2, h3, h4, h5⟩ := Term.elem_spec (hel j hj)
  cases ht.symm.trans h1
  cases hat.symm.trans h3
  have hi : i = nI j := by
    have e : (Term.int (nI j)).eval args s none [] s = some (.int (nI j)) := rfl
    cases h2.symm.trans e
    rfl
  rw [hi, nI_clamp (by omega)] at h5
  exact h5
theorem law_cls : ∀ (k : Nat) (q : vw_C), vwCl[k]? = some q → (∀ w ∈ u_ws q.1 q.2.1 q.2.2, w ∈ lw_tbl) ∧ ∃ n, Cond.instantiable q.1 n ∈ lw_tbl := by
  intro k q hq
  match k, hq with
  | 0, hq => cases hq; exact ⟨by decide +kernel, _, tbl_of wt_java_lang_String rfl⟩
  | 1, hq => cases hq; exact ⟨by decide +kernel, _, tbl_of wt_java_lang_StringBuilder rfl⟩
  | 2, hq => cases hq; exact ⟨by decide +kernel, _, tbl_of wt_java_lang_ArrayIndexOutOfBoundsException rfl⟩
  | 3, hq => cases hq; exact ⟨by decide +kernel, _, tbl_of wt_java_lang_StringIndexOutOfBoundsException rfl⟩
  | 4, hq => cases hq; exact ⟨by decide +kernel, _, tbl_of wt_LeagueTables_Fixtures rfl⟩
  | 5, hq => cases hq; exact ⟨by decide +kernel, _, tbl_of wt_LeagueTables_History rfl⟩
  | 6, hq => cases hq; exact ⟨by decide +kernel, _, tbl_of wt_LeagueTables_League rfl⟩
  | 7, hq => cases hq; exact ⟨by decide +kernel, _, tbl_of wt_LeagueTables_Tally rfl⟩
  | 8, hq => cases hq; exact ⟨by decide +kernel, _, tbl_of wt_LeagueTables_Text rfl⟩
  | 9, hq => cases hq; exact ⟨by decide +kernel, _, tbl_of wt_LeagueTables rfl⟩
  | 10, hq => cases hq; exact ⟨by decide +kernel, _, tbl_of wt_LeagueTablesModel rfl⟩
  | k + 11, hq => cases hq
theorem law_prim {args : Array Value} {s : State} {ty : FieldType} (h : (Cond.arrayClass ty).before args s = true) : ∃ cA : ClassId, ArrOfT s cA ty ∧ s.vm.findClass ("[" ++ ty.toString) = some cA := by
  obtain ⟨cA, kA, comp, h1, h2, h3⟩ := Cond.arrayClass_spec h
  exact ⟨cA, fun n z => ⟨fun k h => (by cases h), kA, h2, comp, h3⟩, h1⟩
theorem law_K {args : Array Value} {s : State} (hts : ∀ w ∈ lw_tbl, w.before args s = true) : ∃ (D : va_G) (tyc : Nat → ClassId), va_K D vwCl (j_tys tyc) s := by
  have hc : ∀ k : Nat, ∃ d : ClassId × (Nat → Nat), ∀ q : vw_C, vwCl[k]? = some q → u_Kn s q.1 q.2.1 q.2.2 d.1 d.2 := by
    intro k
    cases hk : vwCl[k]? with
    | none => exact ⟨(0, fun _ => 0), fun q hq => by cases hq⟩
    | some q =>
      obtain ⟨h1, n, h2⟩ := law_cls k q hk
      obtain ⟨cC, iS, h3⟩ := u_known (T := q.2.1) (N := q.2.2) hts h1 (hts _ h2)
      exact ⟨(cC, iS), fun q' hq' => by cases hq'; exact h3⟩
  obtain ⟨dd, hdd⟩ := Classical.skolem.mp hc
  obtain ⟨t0, a0, f0⟩ := law_prim (hts _ (tbl_of wa_int rfl))
  obtain ⟨t1, a1, f1⟩ := law_prim (hts _ (tbl_of wa_char rfl))
  obtain ⟨t2, a2, f2⟩ := law_prim (hts _ (tbl_of wa_byte rfl))
  obtain ⟨t4, a4, f4⟩ := law_prim (hts _ (tbl_of wa_long rfl))
  obtain ⟨t5, a5, f5⟩ := law_prim (hts _ (tbl_of wa_double rfl))
  obtain ⟨comp, t3, kA, g1, g2, g3, g4, g5⟩ := Cond.arrayOver_spec (hts (.arrayOver (.object j_R2)) (List.mem_of_getElem? (i := 203) (by decide +kernel)))
  refine ⟨(fun k => (dd k).1, fun k => (dd k).2), fun t => if t = 100 then t0 else if t = 101 then t1 else if t = 102 then t2 else if t = 103 then t3 else if t = 104 then t4 else t5, fun k q hq => hdd k q hq, fun k q hq => ?_⟩
  match k, hq with
  | 0, hq => cases hq; exact ⟨a0, f0⟩
  | 1, hq => cases hq; exact ⟨a1, f1⟩
  | 2, hq => cases hq; exact ⟨a2, f2⟩
  | 3, hq => cases hq; exact ⟨fun N z => ⟨(fun k h => by cases h), kA, g3, comp, g4⟩, kA, comp, g3, g4, g1, g5⟩
  | 4, hq => cases hq; exact ⟨a4, f4⟩
  | 5, hq => cases hq; exact ⟨a5, f5⟩
  | k + 6, hq => cases hq
theorem law_str {args : Array Value} {s : State} {own tx : String} {k : Nat} (h : (Cond.stringRef own k tx).before args s = true) : ∃ sa, vk_R own k tx sa s := by
  have h0 := h
  simp only [Cond.before, Cond.holds, Cond.value, State.resolvedAt?] at h
  cases hc : s.vm.findClass own with
  | none => simp [hc] at h
  | some c =>
    cases hk : s.vm.classes[c]? with
    | none => simp [hc, hk] at h
    | some kc =>
      cases hr : (kc.resolved[k]?).join with
      | none => simp [hc, hk, hr] at h
      | some r =>
        cases r with
        | string a => exact ⟨a, vk_R.of (A := args) h0 (by simp [Term.eval, hc, hk, hr])⟩
        | _ => simp [hc, hk, hr] at h
theorem law_eq {args : Array Value} {s : State} {t : Term} {v : Int32} (h : (Cond.eq t (.int v)).before args s = true) : t.eval args s none [] s = some (.int v) := by
  simp only [Cond.before, Cond.holds, Cond.value] at h
  have e1 : (Term.int v).eval args s none [] s = some (.int v) := rfl
  rw [e1] at h
  cases ht : t.eval args s none [] s with
  | none => simp [ht] at h
  | some w =>
    cases w with
    | int y =>
      rw [ht] at h
      simp at h
      rw [h]
    | _ => simp [ht] at h
theorem law_env {s : State} {b : Nat} (hts : ∀ w ∈ lw_tbl, w.before #[Value.ref b] s = true) (hgv : (Jvm.Cond.and given_1 narrow_1).before #[Value.ref b] s = true) : j_env (fun q => s.heap.size ≤ q) s s.heap := by
  have hs := flat_of_before _ hgv
  have hA : ∀ a : Nat, a < s.heap.size → ¬ (fun q => s.heap.size ≤ q) a := fun a h => Nat.not_le.mpr h
  refine ⟨fun w hw => va_Nw.of (j_soft_tab (List.mem_filter.mp hw).2) (hts w (List.mem_filter.mp hw).1), va_AO.of (hts (.arrayOver (.object j_R2)) (List.mem_of_getElem? (i := 203) (by decide +kernel))), fun q hq => ?_, ?_, ?_, ?_, fun q hq => ?_, ?_, ?_, ?_⟩
  · obtain ⟨w, hw, he⟩ := List.mem_filterMap.mp hq
    cases w with
    | stringRef c k t =>
      cases he
      exact law_str (hts _ hw)
    | _ => cases he
  · exact vx_Zqof (hts _ (List.mem_of_getElem? (i := 489) (by decide +kernel))) (hts _ (tbl_of wi_java_lang_Throwable rfl)) (hs _ (by decide +kernel)) hA
  · exact vx_Zqof (hts _ (List.mem_of_getElem? (i := 491) (by decide +kernel))) (hts _ (tbl_of wi_java_lang_Throwable rfl)) (hs _ (by decide +kernel)) hA
  · exact va_Zof (hts _ (List.mem_of_getElem? (i := 356) (by decide +kernel))) (hts _ (tbl_of wi_java_lang_String rfl)) (law_eq (hs (.eq (.static "java/lang/String" "COMPACT_STRINGS" "Z") (.int 1)) (by decide +kernel))) hA
  · have hq : q = ("java/lang/IllegalArgumentException", "java/lang/IndexOutOfBoundsException") ∨ q = ("java/util/NoSuchElementException", "java/lang/IndexOutOfBoundsException") ∨ q = ("java/lang/UnsupportedOperationException", "java/lang/IllegalArgumentException") ∨ q = ("java/util/NoSuchElementException", "java/lang/IllegalArgumentException") := by
      simpa [j_ncs] using hq
    rcases hq with rfl | rfl | rfl | rfl
    · exact va_Nc.of (hs (.not (.castable "java/lang/IllegalArgumentException" "java/lang/IndexOutOfBoundsException")) (by decide +kernel))
    · exact va_Nc.of (hs (.not (.castable "java/util/NoSuchElementException" "java/lang/IndexOutOfBoundsException")) (by decide +kernel))
    · exact va_Nc.of (hs (.not (.castable "java/lang/UnsupportedOperationException" "java/lang/IllegalArgumentException")) (by decide +kernel))
    · exact va_Nc.of (hs (.not (.castable "java/util/NoSuchElementException" "java/lang/IllegalArgumentException")) (by decide +kernel))
  · exact va_Zqof (hts _ (List.mem_of_getElem? (i := 1207) (by decide +kernel))) (hts _ (tbl_of wi_jdk_internal_util_Preconditions rfl)) (hs _ (by decide +kernel)) hA
  · have a0 : ∀ j : Nat, j < 0 → (Cond.eq (.elem (.static "java/lang/Integer" "DigitOnes" "[B") (.int (nI j))) (.int (j_ones j))).before #[Value.ref b] s = true := fun j hj => absurd hj (Nat.not_lt_zero j)
    have a1 := step_lt a0 (hs (.eq (.elem (.static "java/lang/Integer" "DigitOnes" "[B") (.int 0)) (.int 48)) (List.mem_of_getElem? (i := 14) (by decide +kernel)))
    have a2 := step_lt a1 (hs (.eq (.elem (.static "java/lang/Integer" "DigitOnes" "[B") (.int 1)) (.int 49)) (List.mem_of_getElem? (i := 15) (by decide +kernel)))
    have a3 := step_lt a2 (hs (.eq (.elem (.static "java/lang/Integer" "DigitOnes" "[B") (.int 2)) (.int 50)) (List.mem_of_getElem? (i := 16) (by decide +kernel)))
    have a4 := step_lt a3 (hs (.eq (.elem (.static "java/lang/Integer" "DigitOnes" "[B") (.int 3)) (.int 51)) (List.mem_of_getElem? (i := 17) (by decide +kernel)))
    have a5 := step_lt a4 (hs (.eq (.elem (.static "java/lang/Integer" "DigitOnes" "[B") (.int 4)) (.int 52)) (List.mem_of_getElem? (i := 18) (by decide +kernel)))
    have a6 := step_lt a5 (hs (.eq (.elem (.static "java/lang/Integer" "DigitOnes" "[B") (.int 5)) (.int 53)) (List.mem_of_getElem? (i := 19) (by decide +kernel)))
    have a7 := step_lt a6 (hs (.eq (.elem (.static "java/lang/Integer" "DigitOnes" "[B") (.int 6)) (.int 54)) (List.mem_of_getElem? (i := 20) (by decide +kernel)))
    have a8 := step_lt a7 (hs (.eq (.elem (.static "java/lang/Integer" "DigitOnes" "[B") (.int 7)) (.int 55)) (List.mem_of_getElem? (i := 21) (by decide +kernel)))
    have a9 := step_lt a8 (hs (.eq (.elem (.static "java/lang/Integer" "DigitOnes" "[B") (.int 8)) (.int 56)) (List.mem_of_getElem? (i := 22) (by decide +kernel)))
    have a10 := step_lt a9 (hs (.eq (.elem (.static "java/lang/Integer" "DigitOnes" "[B") (.int 9)) (.int 57)) (List.mem_of_getElem? (i := 23) (by decide +kernel)))
    have a11 := step_lt a10 (hs (.eq (.elem (.static "java/lang/Integer" "DigitOnes" "[B") (.int 10)) (.int 48)) (List.mem_of_getElem? (i := 24) (by decide +kernel)))
    have a12 := step_lt a11 (hs (.eq (.elem (.static "java/lang/Integer" "DigitOnes" "[B") (.int 11)) (.int 49)) (List.mem_of_getElem? (i := 25) (by decide +kernel)))
    have a13 := step_lt a12 (hs (.eq (.elem (.static "java/lang/Integer" "DigitOnes" "[B") (.int 12)) (.int 50)) (List.mem_of_getElem? (i := 26) (by decide +kernel)))
    have a14 := step_lt a13 (hs (.eq (.elem (.static "java/lang/Integer" "DigitOnes" "[B") (.int 13)) (.int 51)) (List.mem_of_getElem? (i := 27) (by decide +kernel)))
    have a15 := step_lt a14 (hs (.eq (.elem (.static "java/lang/Integer" "DigitOnes" "[B") (.int 14)) (.int 52)) (List.mem_of_getElem? (i := 28) (by decide +kernel)))
    have a16 := step_lt a15 (hs (.eq (.elem (.static "java/lang/Integer" "DigitOnes" "[B") (.int 15)) (.int 53)) (List.mem_of_getElem? (i := 29) (by decide +kernel)))
    have a17 := step_lt a16 (hs (.eq (.elem (.static "java/lang/Integer" "DigitOnes" "[B") (.int 16)) (.int 54)) (List.mem_of_getElem? (i := 30) (by decide +kernel)))
    have a18 := step_lt a17 (hs (.eq (.elem (.static "java/lang/Integer" "DigitOnes" "[B") (.int 17)) (.int 55)) (List.mem_of_getElem? (i := 31) (by decide +kernel)))
    have a19 := step_lt a18 (hs (.eq (.elem (.static "java/lang/Integer" "DigitOnes" "[B") (.int 18)) (.int 56)) (List.mem_of_getElem? (i := 32) (by decide +kernel)))
    have a20 := step_lt a19 (hs (.eq (.elem (.static "java/lang/Integer" "DigitOnes" "[B") (.int 19)) (.int 57)) (List.mem_of_getElem? (i := 33) (by decide +kernel)))
    have a21 := step_lt a20 (hs (.eq (.elem (.static "java/lang/Integer" "DigitOnes" "[B") (.int 20)) (.int 48)) (List.mem_of_getElem? (i := 34) (by decide +kernel)))
    have a22 := step_lt a21 (hs (.eq (.elem (.static "java/lang/Integer" "DigitOnes" "[B") (.int 21)) (.int 49)) (List.mem_of_getElem? (i := 35) (by decide +kernel)))
    have a23 := step_lt a22 (hs (.eq (.elem (.static "java/lang/Integer" "DigitOnes" "[B") (.int 22)) (.int 50)) (List.mem_of_getElem? (i := 36) (by decide +kernel)))
    have a24 := step_lt a23 (hs (.eq (.elem (.static "java/lang/Integer" "DigitOnes" "[B") (.int 23)) (.int 51)) (List.mem_of_getElem? (i := 37) (by decide +kernel)))
    have a25 := step_lt a24 (hs (.eq (.elem (.static "java/lang/Integer" "DigitOnes" "[B") (.int 24)) (.int 52)) (List.mem_of_getElem? (i := 38) (by decide +kernel)))
    have a26 := step_lt a25 (hs (.eq (.elem (.static "java/lang/Integer" "DigitOnes" "[B") (.int 25)) (.int 53)) (List.mem_of_getElem? (i := 39) (by decide +kernel)))
    have a27 := step_lt a26 (hs (.eq (.elem (.static "java/lang/Integer" "DigitOnes" "[B") (.int 26)) (.int 54)) (List.mem_of_getElem? (i := 40) (by decide +kernel)))
    have a28 := step_lt a27 (hs (.eq (.elem (.static "java/lang/Integer" "DigitOnes" "[B") (.int 27)) (.int 55)) (List.mem_of_getElem? (i := 41) (by decide +kernel)))
    have a29 := step_lt a28 (hs (.eq (.elem (.static "java/lang/Integer" "DigitOnes" "[B") (.int 28)) (.int 56)) (List.mem_of_getElem? (i := 42) (by decide +kernel)))
    have a30 := step_lt a29 (hs (.eq (.elem (.static "java/lang/Integer" "DigitOnes" "[B") (.int 29)) (.int 57)) (List.mem_of_getElem? (i := 43) (by decide +kernel)))
    have a31 := step_lt a30 (hs (.eq (.elem (.static "java/lang/Integer" "DigitOnes" "[B") (.int 30)) (.int 48)) (List.mem_of_getElem? (i := 44) (by decide +kernel)))
    have a32 := step_lt a31 (hs (.eq (.elem (.static "java/lang/Integer" "DigitOnes" "[B") (.int 31)) (.int 49)) (List.mem_of_getElem? (i := 45) (by decide +kernel)))
    have a33 := step_lt a32 (hs (.eq (.elem (.static "java/lang/Integer" "DigitOnes" "[B") (.int 32)) (.int 50)) (List.mem_of_getElem? (i := 46) (by decide +kernel)))
    have a34 := step_lt a33 (hs (.eq (.elem (.static "java/lang/Integer" "DigitOnes" "[B") (.int 33)) (.int 51)) (List.mem_of_getElem? (i := 47) (by decide +kernel)))
    have a35 := step_lt a34 (hs (.eq (.elem (.static "java/lang/Integer" "DigitOnes" "[B") (.int 34)) (.int 52)) (List.mem_of_getElem? (i := 48) (by decide +kernel)))
    have a36 := step_lt a35 (hs (.eq (.elem (.static "java/lang/Integer" "DigitOnes" "[B") (.int 35)) (.int 53)) (List.mem_of_getElem? (i := 49) (by decide +kernel)))
    have a37 := step_lt a36 (hs (.eq (.elem (.static "java/lang/Integer" "DigitOnes" "[B") (.int 36)) (.int 54)) (List.mem_of_getElem? (i := 50) (by decide +kernel)))
    have a38 := step_lt a37 (hs (.eq (.elem (.static "java/lang/Integer" "DigitOnes" "[B") (.int 37)) (.int 55)) (List.mem_of_getElem? (i := 51) (by decide +kernel)))
    have a39 := step_lt a38 (hs (.eq (.elem (.static "java/lang/Integer" "DigitOnes" "[B") (.int 38)) (.int 56)) (List.mem_of_getElem? (i := 52) (by decide +kernel)))
    have a40 := step_lt a39 (hs (.eq (.elem (.static "java/lang/Integer" "DigitOnes" "[B") (.int 39)) (.int 57)) (List.mem_of_getElem? (i := 53) (by decide +kernel)))
    have a41 := step_lt a40 (hs (.eq (.elem (.static "java/lang/Integer" "DigitOnes" "[B") (.int 40)) (.int 48)) (List.mem_of_getElem? (i := 54) (by decide +kernel)))
    have a42 := step_lt a41 (hs (.eq (.elem (.static "java/lang/Integer" "DigitOnes" "[B") (.int 41)) (.int 49)) (List.mem_of_getElem? (i := 55) (by decide +kernel)))
    have a43 := step_lt a42 (hs (.eq (.elem (.static "java/lang/Integer" "DigitOnes" "[B") (.int 42)) (.int 50)) (List.mem_of_getElem? (i := 56) (by decide +kernel)))
    have a44 := step_lt a43 (hs (.eq (.elem (.static "java/lang/Integer" "DigitOnes" "[B") (.int 43)) (.int 51)) (List.mem_of_getElem? (i := 57) (by decide +kernel)))
    have a45 := step_lt a44 (hs (.eq (.elem (.static "java/lang/Integer" "DigitOnes" "[B") (.int 44)) (.int 52)) (List.mem_of_getElem? (i := 58) (by decide +kernel)))
    have a46 := step_lt a45 (hs (.eq (.elem (.static "java/lang/Integer" "DigitOnes" "[B") (.int 45)) (.int 53)) (List.mem_of_getElem? (i := 59) (by decide +kernel)))
    have a47 := step_lt a46 (hs (.eq (.elem (.static "java/lang/Integer" "DigitOnes" "[B") (.int 46)) (.int 54)) (List.mem_of_getElem? (i := 60) (by decide +kernel)))
    have a48 := step_lt a47 (hs (.eq (.elem (.static "java/lang/Integer" "DigitOnes" "[B") (.int 47)) (.int 55)) (List.mem_of_getElem? (i := 61) (by decide +kernel)))
    have a49 := step_lt a48 (hs (.eq (.elem (.static "java/lang/Integer" "DigitOnes" "[B") (.int 48)) (.int 56)) (List.mem_of_getElem? (i := 62) (by decide +kernel)))
    have a50 := step_lt a49 (hs (.eq (.elem (.static "java/lang/Integer" "DigitOnes" "[B") (.int 49)) (.int 57)) (List.mem_of_getElem? (i := 63) (by decide +kernel)))
    have a51 := step_lt a50 (hs (.eq (.elem (.static "java/lang/Integer" "DigitOnes" "[B") (.int 50)) (.int 48)) (List.mem_of_getElem? (i := 64) (by decide +kernel)))
    have a52 := step_lt a51 (hs (.eq (.elem (.static "java/lang/Integer" "DigitOnes" "[B") (.int 51)) (.int 49)) (List.mem_of_getElem? (i := 65) (by decide +kernel)))
    have a53 := step_lt a52 (hs (.eq (.elem (.static "java/lang/Integer" "DigitOnes" "[B") (.int 52)) (.int 50)) (List.mem_of_getElem? (i := 66) (by decide +kernel)))
    have a54 := step_lt a53 (hs (.eq (.elem (.static "java/lang/Integer" "DigitOnes" "[B") (.int 53)) (.int 51)) (List.mem_of_getElem? (i := 67) (by decide +kernel)))
    have a55 := step_lt a54 (hs (.eq (.elem (.static "java/lang/Integer" "DigitOnes" "[B") (.int 54)) (.int 52)) (List.mem_of_getElem? (i := 68) (by decide +kernel)))
    have a56 := step_lt a55 (hs (.eq (.elem (.static "java/lang/Integer" "DigitOnes" "[B") (.int 55)) (.int 53)) (List.mem_of_getElem? (i := 69) (by decide +kernel)))
    have a57 := step_lt a56 (hs (.eq (.elem (.static "java/lang/Integer" "DigitOnes" "[B") (.int 56)) (.int 54)) (List.mem_of_getElem? (i := 70) (by decide +kernel)))
    have a58 := step_lt a57 (hs (.eq (.elem (.static "java/lang/Integer" "DigitOnes" "[B") (.int 57)) (.int 55)) (List.mem_of_getElem? (i := 71) (by decide +kernel)))
    have a59 := step_lt a58 (hs (.eq (.elem (.static "java/lang/Integer" "DigitOnes" "[B") (.int 58)) (.int 56)) (List.mem_of_getElem? (i := 72) (by decide +kernel)))
    have a60 := step_lt a59 (hs (.eq (.elem (.static "java/lang/Integer" "DigitOnes" "[B") (.int 59)) (.int 57)) (List.mem_of_getElem? (i := 73) (by decide +kernel)))
    have a61 := step_lt a60 (hs (.eq (.elem (.static "java/lang/Integer" "DigitOnes" "[B") (.int 60)) (.int 48)) (List.mem_of_getElem? (i := 74) (by decide +kernel)))
    have a62 := step_lt a61 (hs (.eq (.elem (.static "java/lang/Integer" "DigitOnes" "[B") (.int 61)) (.int 49)) (List.mem_of_getElem? (i := 75) (by decide +kernel)))
    have a63 := step_lt a62 (hs (.eq (.elem (.static "java/lang/Integer" "DigitOnes" "[B") (.int 62)) (.int 50)) (List.mem_of_getElem? (i := 76) (by decide +kernel)))
    have a64 := step_lt a63 (hs (.eq (.elem (.static "java/lang/Integer" "DigitOnes" "[B") (.int 63)) (.int 51)) (List.mem_of_getElem? (i := 77) (by decide +kernel)))
    have a65 := step_lt a64 (hs (.eq (.elem (.static "java/lang/Integer" "DigitOnes" "[B") (.int 64)) (.int 52)) (List.mem_of_getElem? (i := 78) (by decide +kernel)))
    have a66 := step_lt a65 (hs (.eq (.elem (.static "java/lang/Integer" "DigitOnes" "[B") (.int 65)) (.int 53)) (List.mem_of_getElem? (i := 79) (by decide +kernel)))
    have a67 := step_lt a66 (hs (.eq (.elem (.static "java/lang/Integer" "DigitOnes" "[B") (.int 66)) (.int 54)) (List.mem_of_getElem? (i := 80) (by decide +kernel)))
    have a68 := step_lt a67 (hs (.eq (.elem (.static "java/lang/Integer" "DigitOnes" "[B") (.int 67)) (.int 55)) (List.mem_of_getElem? (i := 81) (by decide +kernel)))
    have a69 := step_lt a68 (hs (.eq (.elem (.static "java/lang/Integer" "DigitOnes" "[B") (.int 68)) (.int 56)) (List.mem_of_getElem? (i := 82) (by decide +kernel)))
    have a70 := step_lt a69 (hs (.eq (.elem (.static "java/lang/Integer" "DigitOnes" "[B") (.int 69)) (.int 57)) (List.mem_of_getElem? (i := 83) (by decide +kernel)))
    have a71 := step_lt a70 (hs (.eq (.elem (.static "java/lang/Integer" "DigitOnes" "[B") (.int 70)) (.int 48)) (List.mem_of_getElem? (i := 84) (by decide +kernel)))
    have a72 := step_lt a71 (hs (.eq (.elem (.static "java/lang/Integer" "DigitOnes" "[B") (.int 71)) (.int 49)) (List.mem_of_getElem? (i := 85) (by decide +kernel)))
    have a73 := step_lt a72 (hs (.eq (.elem (.static "java/lang/Integer" "DigitOnes" "[B") (.int 72)) (.int 50)) (List.mem_of_getElem? (i := 86) (by decide +kernel)))
    have a74 := step_lt a73 (hs (.eq (.elem (.static "java/lang/Integer" "DigitOnes" "[B") (.int 73)) (.int 51)) (List.mem_of_getElem? (i := 87) (by decide +kernel)))
    have a75 := step_lt a74 (hs (.eq (.elem (.static "java/lang/Integer" "DigitOnes" "[B") (.int 74)) (.int 52)) (List.mem_of_getElem? (i := 88) (by decide +kernel)))
    have a76 := step_lt a75 (hs (.eq (.elem (.static "java/lang/Integer" "DigitOnes" "[B") (.int 75)) (.int 53)) (List.mem_of_getElem? (i := 89) (by decide +kernel)))
    have a77 := step_lt a76 (hs (.eq (.elem (.static "java/lang/Integer" "DigitOnes" "[B") (.int 76)) (.int 54)) (List.mem_of_getElem? (i := 90) (by decide +kernel)))
    have a78 := step_lt a77 (hs (.eq (.elem (.static "java/lang/Integer" "DigitOnes" "[B") (.int 77)) (.int 55)) (List.mem_of_getElem? (i := 91) (by decide +kernel)))
    have a79 := step_lt a78 (hs (.eq (.elem (.static "java/lang/Integer" "DigitOnes" "[B") (.int 78)) (.int 56)) (List.mem_of_getElem? (i := 92) (by decide +kernel)))
    have a80 := step_lt a79 (hs (.eq (.elem (.static "java/lang/Integer" "DigitOnes" "[B") (.int 79)) (.int 57)) (List.mem_of_getElem? (i := 93) (by decide +kernel)))
    have a81 := step_lt a80 (hs (.eq (.elem (.static "java/lang/Integer" "DigitOnes" "[B") (.int 80)) (.int 48)) (List.mem_of_getElem? (i := 94) (by decide +kernel)))
    have a82 := step_lt a81 (hs (.eq (.elem (.static "java/lang/Integer" "DigitOnes" "[B") (.int 81)) (.int 49)) (List.mem_of_getElem? (i := 95) (by decide +kernel)))
    have a83 := step_lt a82 (hs (.eq (.elem (.static "java/lang/Integer" "DigitOnes" "[B") (.int 82)) (.int 50)) (List.mem_of_getElem? (i := 96) (by decide +kernel)))
    have a84 := step_lt a83 (hs (.eq (.elem (.static "java/lang/Integer" "DigitOnes" "[B") (.int 83)) (.int 51)) (List.mem_of_getElem? (i := 97) (by decide +kernel)))
    have a85 := step_lt a84 (hs (.eq (.elem (.static "java/lang/Integer" "DigitOnes" "[B") (.int 84)) (.int 52)) (List.mem_of_getElem? (i := 98) (by decide +kernel)))
    have a86 := step_lt a85 (hs (.eq (.elem (.static "java/lang/Integer" "DigitOnes" "[B") (.int 85)) (.int 53)) (List.mem_of_getElem? (i := 99) (by decide +kernel)))
    have a87 := step_lt a86 (hs (.eq (.elem (.static "java/lang/Integer" "DigitOnes" "[B") (.int 86)) (.int 54)) (List.mem_of_getElem? (i := 100) (by decide +kernel)))
    have a88 := step_lt a87 (hs (.eq (.elem (.static "java/lang/Integer" "DigitOnes" "[B") (.int 87)) (.int 55)) (List.mem_of_getElem? (i := 101) (by decide +kernel)))
    have a89 := step_lt a88 (hs (.eq (.elem (.static "java/lang/Integer" "DigitOnes" "[B") (.int 88)) (.int 56)) (List.mem_of_getElem? (i := 102) (by decide +kernel)))
    have a90 := step_lt a89 (hs (.eq (.elem (.static "java/lang/Integer" "DigitOnes" "[B") (.int 89)) (.int 57)) (List.mem_of_getElem? (i := 103) (by decide +kernel)))
    have a91 := step_lt a90 (hs (.eq (.elem (.static "java/lang/Integer" "DigitOnes" "[B") (.int 90)) (.int 48)) (List.mem_of_getElem? (i := 104) (by decide +kernel)))
    have a92 := step_lt a91 (hs (.eq (.elem (.static "java/lang/Integer" "DigitOnes" "[B") (.int 91)) (.int 49)) (List.mem_of_getElem? (i := 105) (by decide +kernel)))
    have a93 := step_lt a92 (hs (.eq (.elem (.static "java/lang/Integer" "DigitOnes" "[B") (.int 92)) (.int 50)) (List.mem_of_getElem? (i := 106) (by decide +kernel)))
    have a94 := step_lt a93 (hs (.eq (.elem (.static "java/lang/Integer" "DigitOnes" "[B") (.int 93)) (.int 51)) (List.mem_of_getElem? (i := 107) (by decide +kernel)))
    have a95 := step_lt a94 (hs (.eq (.elem (.static "java/lang/Integer" "DigitOnes" "[B") (.int 94)) (.int 52)) (List.mem_of_getElem? (i := 108) (by decide +kernel)))
    have a96 := step_lt a95 (hs (.eq (.elem (.static "java/lang/Integer" "DigitOnes" "[B") (.int 95)) (.int 53)) (List.mem_of_getElem? (i := 109) (by decide +kernel)))
    have a97 := step_lt a96 (hs (.eq (.elem (.static "java/lang/Integer" "DigitOnes" "[B") (.int 96)) (.int 54)) (List.mem_of_getElem? (i := 110) (by decide +kernel)))
    have a98 := step_lt a97 (hs (.eq (.elem (.static "java/lang/Integer" "DigitOnes" "[B") (.int 97)) (.int 55)) (List.mem_of_getElem? (i := 111) (by decide +kernel)))
    have a99 := step_lt a98 (hs (.eq (.elem (.static "java/lang/Integer" "DigitOnes" "[B") (.int 98)) (.int 56)) (List.mem_of_getElem? (i := 112) (by decide +kernel)))
    have a100 := step_lt a99 (hs (.eq (.elem (.static "java/lang/Integer" "DigitOnes" "[B") (.int 99)) (.int 57)) (List.mem_of_getElem? (i := 113) (by decide +kernel)))
    exact law_tab (hts _ (List.mem_of_getElem? (i := 1277) (by decide +kernel))) (hts _ (tbl_of wi_java_lang_Integer rfl)) (hs _ (by decide +kernel)) (law_eq (hs (.eq (.length (.static "java/lang/Integer" "DigitOnes" "[B")) (.int (nI 100))) (by decide +kernel))) (fun j hj => law_eq (a100 j hj)) hA
  · have a0 : ∀ j : Nat, j < 0 → (Cond.eq (.elem (.static "java/lang/Integer" "DigitTens" "[B") (.int (nI j))) (.int (j_tens j))).before #[Value.ref b] s = true := fun j hj => absurd hj (Nat.not_lt_zero j)
    have a1 := step_lt a0 (hs (.eq (.elem (.static "java/lang/Integer" "DigitTens" "[B") (.int 0)) (.int 48)) (List.mem_of_getElem? (i := 117) (by decide +kernel)))
    have a2 := step_lt a1 (hs (.eq (.elem (.static "java/lang/Integer" "DigitTens" "[B") (.int 1)) (.int 48)) (List.mem_of_getElem? (i := 118) (by decide +kernel)))
    have a3 := step_lt a2 (hs (.eq (.elem (.static "java/lang/Integer" "DigitTens" "[B") (.int 2)) (.int 48)) (List.mem_of_getElem? (i := 119) (by decide +kernel)))
    have a4 := step_lt a3 (hs (.eq (.elem (.static "java/lang/Integer" "DigitTens" "[B") (.int 3)) (.int 48)) (List.mem_of_getElem? (i := 120) (by decide +kernel)))
    have a5 := step_lt a4 (hs (.eq (.elem (.static "java/lang/Integer" "DigitTens" "[B") (.int 4)) (.int 48)) (List.mem_of_getElem? (i := 121) (by decide +kernel)))
    have a6 := step_lt a5 (hs (.eq (.elem (.static "java/lang/Integer" "DigitTens" "[B") (.int 5)) (.int 48)) (List.mem_of_getElem? (i := 122) (by decide +kernel)))
    have a7 := step_lt a6 (hs (.eq (.elem (.static "java/lang/Integer" "DigitTens" "[B") (.int 6)) (.int 48)) (List.mem_of_getElem? (i := 123) (by decide +kernel)))
    have a8 := step_lt a7 (hs (.eq (.elem (.static "java/lang/Integer" "DigitTens" "[B") (.int 7)) (.int 48)) (List.mem_of_getElem? (i := 124) (by decide +kernel)))
    have a9 := step_lt a8 (hs (.eq (.elem (.static "java/lang/Integer" "DigitTens" "[B") (.int 8)) (.int 48)) (List.mem_of_getElem? (i := 125) (by decide +kernel)))
    have a10 := step_lt a9 (hs (.eq (.elem (.static "java/lang/Integer" "DigitTens" "[B") (.int 9)) (.int 48)) (List.mem_of_getElem? (i := 126) (by decide +kernel)))
    have a11 := step_lt a10 (hs (.eq (.elem (.static "java/lang/Integer" "DigitTens" "[B") (.int 10)) (.int 49)) (List.mem_of_getElem? (i := 127) (by decide +kernel)))
    have a12 := step_lt a11 (hs (.eq (.elem (.static "java/lang/Integer" "DigitTens" "[B") (.int 11)) (.int 49)) (List.mem_of_getElem? (i := 128) (by decide +kernel)))
    have a13 := step_lt a12 (hs (.eq (.elem (.static "java/lang/Integer" "DigitTens" "[B") (.int 12)) (.int 49)) (List.mem_of_getElem? (i := 129) (by decide +kernel)))
    have a14 := step_lt a13 (hs (.eq (.elem (.static "java/lang/Integer" "DigitTens" "[B") (.int 13)) (.int 49)) (List.mem_of_getElem? (i := 130) (by decide +kernel)))
    have a15 := step_lt a14 (hs (.eq (.elem (.static "java/lang/Integer" "DigitTens" "[B") (.int 14)) (.int 49)) (List.mem_of_getElem? (i := 131) (by decide +kernel)))
    have a16 := step_lt a15 (hs (.eq (.elem (.static "java/lang/Integer" "DigitTens" "[B") (.int 15)) (.int 49)) (List.mem_of_getElem? (i := 132) (by decide +kernel)))
    have a17 := step_lt a16 (hs (.eq (.elem (.static "java/lang/Integer" "DigitTens" "[B") (.int 16)) (.int 49)) (List.mem_of_getElem? (i := 133) (by decide +kernel)))
    have a18 := step_lt a17 (hs (.eq (.elem (.static "java/lang/Integer" "DigitTens" "[B") (.int 17)) (.int 49)) (List.mem_of_getElem? (i := 134) (by decide +kernel)))
    have a19 := step_lt a18 (hs (.eq (.elem (.static "java/lang/Integer" "DigitTens" "[B") (.int 18)) (.int 49)) (List.mem_of_getElem? (i := 135) (by decide +kernel)))
    have a20 := step_lt a19 (hs (.eq (.elem (.static "java/lang/Integer" "DigitTens" "[B") (.int 19)) (.int 49)) (List.mem_of_getElem? (i := 136) (by decide +kernel)))
    have a21 := step_lt a20 (hs (.eq (.elem (.static "java/lang/Integer" "DigitTens" "[B") (.int 20)) (.int 50)) (List.mem_of_getElem? (i := 137) (by decide +kernel)))
    have a22 := step_lt a21 (hs (.eq (.elem (.static "java/lang/Integer" "DigitTens" "[B") (.int 21)) (.int 50)) (List.mem_of_getElem? (i := 138) (by decide +kernel)))
    have a23 := step_lt a22 (hs (.eq (.elem (.static "java/lang/Integer" "DigitTens" "[B") (.int 22)) (.int 50)) (List.mem_of_getElem? (i := 139) (by decide +kernel)))
    have a24 := step_lt a23 (hs (.eq (.elem (.static "java/lang/Integer" "DigitTens" "[B") (.int 23)) (.int 50)) (List.mem_of_getElem? (i := 140) (by decide +kernel)))
    have a25 := step_lt a24 (hs (.eq (.elem (.static "java/lang/Integer" "DigitTens" "[B") (.int 24)) (.int 50)) (List.mem_of_getElem? (i := 141) (by decide +kernel)))
    have a26 := step_lt a25 (hs (.eq (.elem (.static "java/lang/Integer" "DigitTens" "[B") (.int 25)) (.int 50)) (List.mem_of_getElem? (i := 142) (by decide +kernel)))
    have a27 := step_lt a26 (hs (.eq (.elem (.static "java/lang/Integer" "DigitTens" "[B") (.int 26)) (.int 50)) (List.mem_of_getElem? (i := 143) (by decide +kernel)))
    have a28 := step_lt a27 (hs (.eq (.elem (.static "java/lang/Integer" "DigitTens" "[B") (.int 27)) (.int 50)) (List.mem_of_getElem? (i := 144) (by decide +kernel)))
    have a29 := step_lt a28 (hs (.eq (.elem (.static "java/lang/Integer" "DigitTens" "[B") (.int 28)) (.int 50)) (List.mem_of_getElem? (i := 145) (by decide +kernel)))
    have a30 := step_lt a29 (hs (.eq (.elem (.static "java/lang/Integer" "DigitTens" "[B") (.int 29)) (.int 50)) (List.mem_of_getElem? (i := 146) (by decide +kernel)))
    have a31 := step_lt a30 (hs (.eq (.elem (.static "java/lang/Integer" "DigitTens" "[B") (.int 30)) (.int 51)) (List.mem_of_getElem? (i := 147) (by decide +kernel)))
    have a32 := step_lt a31 (hs (.eq (.elem (.static "java/lang/Integer" "DigitTens" "[B") (.int 31)) (.int 51)) (List.mem_of_getElem? (i := 148) (by decide +kernel)))
    have a33 := step_lt a32 (hs (.eq (.elem (.static "java/lang/Integer" "DigitTens" "[B") (.int 32)) (.int 51)) (List.mem_of_getElem? (i := 149) (by decide +kernel)))
    have a34 := step_lt a33 (hs (.eq (.elem (.static "java/lang/Integer" "DigitTens" "[B") (.int 33)) (.int 51)) (List.mem_of_getElem? (i := 150) (by decide +kernel)))
    have a35 := step_lt a34 (hs (.eq (.elem (.static "java/lang/Integer" "DigitTens" "[B") (.int 34)) (.int 51)) (List.mem_of_getElem? (i := 151) (by decide +kernel)))
    have a36 := step_lt a35 (hs (.eq (.elem (.static "java/lang/Integer" "DigitTens" "[B") (.int 35)) (.int 51)) (List.mem_of_getElem? (i := 152) (by decide +kernel)))
    have a37 := step_lt a36 (hs (.eq (.elem (.static "java/lang/Integer" "DigitTens" "[B") (.int 36)) (.int 51)) (List.mem_of_getElem? (i := 153) (by decide +kernel)))
    have a38 := step_lt a37 (hs (.eq (.elem (.static "java/lang/Integer" "DigitTens" "[B") (.int 37)) (.int 51)) (List.mem_of_getElem? (i := 154) (by decide +kernel)))
    have a39 := step_lt a38 (hs (.eq (.elem (.static "java/lang/Integer" "DigitTens" "[B") (.int 38)) (.int 51)) (List.mem_of_getElem? (i := 155) (by decide +kernel)))
    have a40 := step_lt a39 (hs (.eq (.elem (.static "java/lang/Integer" "DigitTens" "[B") (.int 39)) (.int 51)) (List.mem_of_getElem? (i := 156) (by decide +kernel)))
    have a41 := step_lt a40 (hs (.eq (.elem (.static "java/lang/Integer" "DigitTens" "[B") (.int 40)) (.int 52)) (List.mem_of_getElem? (i := 157) (by decide +kernel)))
    have a42 := step_lt a41 (hs (.eq (.elem (.static "java/lang/Integer" "DigitTens" "[B") (.int 41)) (.int 52)) (List.mem_of_getElem? (i := 158) (by decide +kernel)))
    have a43 := step_lt a42 (hs (.eq (.elem (.static "java/lang/Integer" "DigitTens" "[B") (.int 42)) (.int 52)) (List.mem_of_getElem? (i := 159) (by decide +kernel)))
    have a44 := step_lt a43 (hs (.eq (.elem (.static "java/lang/Integer" "DigitTens" "[B") (.int 43)) (.int 52)) (List.mem_of_getElem? (i := 160) (by decide +kernel)))
    have a45 := step_lt a44 (hs (.eq (.elem (.static "java/lang/Integer" "DigitTens" "[B") (.int 44)) (.int 52)) (List.mem_of_getElem? (i := 161) (by decide +kernel)))
    have a46 := step_lt a45 (hs (.eq (.elem (.static "java/lang/Integer" "DigitTens" "[B") (.int 45)) (.int 52)) (List.mem_of_getElem? (i := 162) (by decide +kernel)))
    have a47 := step_lt a46 (hs (.eq (.elem (.static "java/lang/Integer" "DigitTens" "[B") (.int 46)) (.int 52)) (List.mem_of_getElem? (i := 163) (by decide +kernel)))
    have a48 := step_lt a47 (hs (.eq (.elem (.static "java/lang/Integer" "DigitTens" "[B") (.int 47)) (.int 52)) (List.mem_of_getElem? (i := 164) (by decide +kernel)))
    have a49 := step_lt a48 (hs (.eq (.elem (.static "java/lang/Integer" "DigitTens" "[B") (.int 48)) (.int 52)) (List.mem_of_getElem? (i := 165) (by decide +kernel)))
    have a50 := step_lt a49 (hs (.eq (.elem (.static "java/lang/Integer" "DigitTens" "[B") (.int 49)) (.int 52)) (List.mem_of_getElem? (i := 166) (by decide +kernel)))
    have a51 := step_lt a50 (hs (.eq (.elem (.static "java/lang/Integer" "DigitTens" "[B") (.int 50)) (.int 53)) (List.mem_of_getElem? (i := 167) (by decide +kernel)))
    have a52 := step_lt a51 (hs (.eq (.elem (.static "java/lang/Integer" "DigitTens" "[B") (.int 51)) (.int 53)) (List.mem_of_getElem? (i := 168) (by decide +kernel)))
    have a53 := step_lt a52 (hs (.eq (.elem (.static "java/lang/Integer" "DigitTens" "[B") (.int 52)) (.int 53)) (List.mem_of_getElem? (i := 169) (by decide +kernel)))
    have a54 := step_lt a53 (hs (.eq (.elem (.static "java/lang/Integer" "DigitTens" "[B") (.int 53)) (.int 53)) (List.mem_of_getElem? (i := 170) (by decide +kernel)))
    have a55 := step_lt a54 (hs (.eq (.elem (.static "java/lang/Integer" "DigitTens" "[B") (.int 54)) (.int 53)) (List.mem_of_getElem? (i := 171) (by decide +kernel)))
    have a56 := step_lt a55 (hs (.eq (.elem (.static "java/lang/Integer" "DigitTens" "[B") (.int 55)) (.int 53)) (List.mem_of_getElem? (i := 172) (by decide +kernel)))
    have a57 := step_lt a56 (hs (.eq (.elem (.static "java/lang/Integer" "DigitTens" "[B") (.int 56)) (.int 53)) (List.mem_of_getElem? (i := 173) (by decide +kernel)))
    have a58 := step_lt a57 (hs (.eq (.elem (.static "java/lang/Integer" "DigitTens" "[B") (.int 57)) (.int 53)) (List.mem_of_getElem? (i := 174) (by decide +kernel)))
    have a59 := step_lt a58 (hs (.eq (.elem (.static "java/lang/Integer" "DigitTens" "[B") (.int 58)) (.int 53)) (List.mem_of_getElem? (i := 175) (by decide +kernel)))
    have a60 := step_lt a59 (hs (.eq (.elem (.static "java/lang/Integer" "DigitTens" "[B") (.int 59)) (.int 53)) (List.mem_of_getElem? (i := 176) (by decide +kernel)))
    have a61 := step_lt a60 (hs (.eq (.elem (.static "java/lang/Integer" "DigitTens" "[B") (.int 60)) (.int 54)) (List.mem_of_getElem? (i := 177) (by decide +kernel)))
    have a62 := step_lt a61 (hs (.eq (.elem (.static "java/lang/Integer" "DigitTens" "[B") (.int 61)) (.int 54)) (List.mem_of_getElem? (i := 178) (by decide +kernel)))
    have a63 := step_lt a62 (hs (.eq (.elem (.static "java/lang/Integer" "DigitTens" "[B") (.int 62)) (.int 54)) (List.mem_of_getElem? (i := 179) (by decide +kernel)))
    have a64 := step_lt a63 (hs (.eq (.elem (.static "java/lang/Integer" "DigitTens" "[B") (.int 63)) (.int 54)) (List.mem_of_getElem? (i := 180) (by decide +kernel)))
    have a65 := step_lt a64 (hs (.eq (.elem (.static "java/lang/Integer" "DigitTens" "[B") (.int 64)) (.int 54)) (List.mem_of_getElem? (i := 181) (by decide +kernel)))
    have a66 := step_lt a65 (hs (.eq (.elem (.static "java/lang/Integer" "DigitTens" "[B") (.int 65)) (.int 54)) (List.mem_of_getElem? (i := 182) (by decide +kernel)))
    have a67 := step_lt a66 (hs (.eq (.elem (.static "java/lang/Integer" "DigitTens" "[B") (.int 66)) (.int 54)) (List.mem_of_getElem? (i := 183) (by decide +kernel)))
    have a68 := step_lt a67 (hs (.eq (.elem (.static "java/lang/Integer" "DigitTens" "[B") (.int 67)) (.int 54)) (List.mem_of_getElem? (i := 184) (by decide +kernel)))
    have a69 := step_lt a68 (hs (.eq (.elem (.static "java/lang/Integer" "DigitTens" "[B") (.int 68)) (.int 54)) (List.mem_of_getElem? (i := 185) (by decide +kernel)))
    have a70 := step_lt a69 (hs (.eq (.elem (.static "java/lang/Integer" "DigitTens" "[B") (.int 69)) (.int 54)) (List.mem_of_getElem? (i := 186) (by decide +kernel)))
    have a71 := step_lt a70 (hs (.eq (.elem (.static "java/lang/Integer" "DigitTens" "[B") (.int 70)) (.int 55)) (List.mem_of_getElem? (i := 187) (by decide +kernel)))
    have a72 := step_lt a71 (hs (.eq (.elem (.static "java/lang/Integer" "DigitTens" "[B") (.int 71)) (.int 55)) (List.mem_of_getElem? (i := 188) (by decide +kernel)))
    have a73 := step_lt a72 (hs (.eq (.elem (.static "java/lang/Integer" "DigitTens" "[B") (.int 72)) (.int 55)) (List.mem_of_getElem? (i := 189) (by decide +kernel)))
    have a74 := step_lt a73 (hs (.eq (.elem (.static "java/lang/Integer" "DigitTens" "[B") (.int 73)) (.int 55)) (List.mem_of_getElem? (i := 190) (by decide +kernel)))
    have a75 := step_lt a74 (hs (.eq (.elem (.static "java/lang/Integer" "DigitTens" "[B") (.int 74)) (.int 55)) (List.mem_of_getElem? (i := 191) (by decide +kernel)))
    have a76 := step_lt a75 (hs (.eq (.elem (.static "java/lang/Integer" "DigitTens" "[B") (.int 75)) (.int 55)) (List.mem_of_getElem? (i := 192) (by decide +kernel)))
    have a77 := step_lt a76 (hs (.eq (.elem (.static "java/lang/Integer" "DigitTens" "[B") (.int 76)) (.int 55)) (List.mem_of_getElem? (i := 193) (by decide +kernel)))
    have a78 := step_lt a77 (hs (.eq (.elem (.static "java/lang/Integer" "DigitTens" "[B") (.int 77)) (.int 55)) (List.mem_of_getElem? (i := 194) (by decide +kernel)))
    have a79 := step_lt a78 (hs (.eq (.elem (.static "java/lang/Integer" "DigitTens" "[B") (.int 78)) (.int 55)) (List.mem_of_getElem? (i := 195) (by decide +kernel)))
    have a80 := step_lt a79 (hs (.eq (.elem (.static "java/lang/Integer" "DigitTens" "[B") (.int 79)) (.int 55)) (List.mem_of_getElem? (i := 196) (by decide +kernel)))
    have a81 := step_lt a80 (hs (.eq (.elem (.static "java/lang/Integer" "DigitTens" "[B") (.int 80)) (.int 56)) (List.mem_of_getElem? (i := 197) (by decide +kernel)))
    have a82 := step_lt a81 (hs (.eq (.elem (.static "java/lang/Integer" "DigitTens" "[B") (.int 81)) (.int 56)) (List.mem_of_getElem? (i := 198) (by decide +kernel)))
    have a83 := step_lt a82 (hs (.eq (.elem (.static "java/lang/Integer" "DigitTens" "[B") (.int 82)) (.int 56)) (List.mem_of_getElem? (i := 199) (by decide +kernel)))
    have a84 := step_lt a83 (hs (.eq (.elem (.static "java/lang/Integer" "DigitTens" "[B") (.int 83)) (.int 56)) (List.mem_of_getElem? (i := 200) (by decide +kernel)))
    have a85 := step_lt a84 (hs (.eq (.elem (.static "java/lang/Integer" "DigitTens" "[B") (.int 84)) (.int 56)) (List.mem_of_getElem? (i := 201) (by decide +kernel)))
    have a86 := step_lt a85 (hs (.eq (.elem (.static "java/lang/Integer" "DigitTens" "[B") (.int 85)) (.int 56)) (List.mem_of_getElem? (i := 202) (by decide +kernel)))
    have a87 := step_lt a86 (hs (.eq (.elem (.static "java/lang/Integer" "DigitTens" "[B") (.int 86)) (.int 56)) (List.mem_of_getElem? (i := 203) (by decide +kernel)))
    have a88 := step_lt a87 (hs (.eq (.elem (.static "java/lang/Integer" "DigitTens" "[B") (.int 87)) (.int 56)) (List.mem_of_getElem? (i := 204) (by decide +kernel)))
    have a89 := step_lt a88 (hs (.eq (.elem (.static "java/lang/Integer" "DigitTens" "[B") (.int 88)) (.int 56)) (List.mem_of_getElem? (i := 205) (by decide +kernel)))
    have a90 := step_lt a89 (hs (.eq (.elem (.static "java/lang/Integer" "DigitTens" "[B") (.int 89)) (.int 56)) (List.mem_of_getElem? (i := 206) (by decide +kernel)))
    have a91 := step_lt a90 (hs (.eq (.elem (.static "java/lang/Integer" "DigitTens" "[B") (.int 90)) (.int 57)) (List.mem_of_getElem? (i := 207) (by decide +kernel)))
    have a92 := step_lt a91 (hs (.eq (.elem (.static "java/lang/Integer" "DigitTens" "[B") (.int 91)) (.int 57)) (List.mem_of_getElem? (i := 208) (by decide +kernel)))
    have a93 := step_lt a92 (hs (.eq (.elem (.static "java/lang/Integer" "DigitTens" "[B") (.int 92)) (.int 57)) (List.mem_of_getElem? (i := 209) (by decide +kernel)))
    have a94 := step_lt a93 (hs (.eq (.elem (.static "java/lang/Integer" "DigitTens" "[B") (.int 93)) (.int 57)) (List.mem_of_getElem? (i := 210) (by decide +kernel)))
    have a95 := step_lt a94 (hs (.eq (.elem (.static "java/lang/Integer" "DigitTens" "[B") (.int 94)) (.int 57)) (List.mem_of_getElem? (i := 211) (by decide +kernel)))
    have a96 := step_lt a95 (hs (.eq (.elem (.static "java/lang/Integer" "DigitTens" "[B") (.int 95)) (.int 57)) (List.mem_of_getElem? (i := 212) (by decide +kernel)))
    have a97 := step_lt a96 (hs (.eq (.elem (.static "java/lang/Integer" "DigitTens" "[B") (.int 96)) (.int 57)) (List.mem_of_getElem? (i := 213) (by decide +kernel)))
    have a98 := step_lt a97 (hs (.eq (.elem (.static "java/lang/Integer" "DigitTens" "[B") (.int 97)) (.int 57)) (List.mem_of_getElem? (i := 214) (by decide +kernel)))
    have a99 := step_lt a98 (hs (.eq (.elem (.static "java/lang/Integer" "DigitTens" "[B") (.int 98)) (.int 57)) (List.mem_of_getElem? (i := 215) (by decide +kernel)))
    have a100 := step_lt a99 (hs (.eq (.elem (.static "java/lang/Integer" "DigitTens" "[B") (.int 99)) (.int 57)) (List.mem_of_getElem? (i := 216) (by decide +kernel)))
    exact law_tab (hts _ (List.mem_of_getElem? (i := 1279) (by decide +kernel))) (hts _ (tbl_of wi_java_lang_Integer rfl)) (hs _ (by decide +kernel)) (law_eq (hs (.eq (.length (.static "java/lang/Integer" "DigitTens" "[B")) (.int (nI 100))) (by decide +kernel))) (fun j hj => law_eq (a100 j hj)) hA
end
