/-! ===== the world at the law's entry ===== -/
theorem law_cls : ∀ (k : Nat) (q : vw_C), vwCl[k]? = some q → (∀ w ∈ u_ws q.1 q.2.1 q.2.2, w ∈ lw_tbl) ∧ ∃ n, Cond.instantiable q.1 n ∈ lw_tbl := by
  have tb : ∀ {w : Cond}, w ∈ j_all → w ∈ lw_tbl := fun h => (List.mem_filter.mp h).1
  intro k q hq
  match k, hq with
  | 0, hq => cases hq; exact ⟨by decide +kernel, _, tb wt_java_lang_String⟩
  | 1, hq => cases hq; exact ⟨by decide +kernel, _, tb wt_java_lang_StringBuilder⟩
  | 2, hq => cases hq; exact ⟨by decide +kernel, _, tb wt_java_lang_ArrayIndexOutOfBoundsException⟩
  | 3, hq => cases hq; exact ⟨by decide +kernel, _, tb wt_java_lang_StringIndexOutOfBoundsException⟩
  | 4, hq => cases hq; exact ⟨by decide +kernel, _, tb wt_LeagueTables_Fixtures⟩
  | 5, hq => cases hq; exact ⟨by decide +kernel, _, tb wt_LeagueTables_History⟩
  | 6, hq => cases hq; exact ⟨by decide +kernel, _, tb wt_LeagueTables_League⟩
  | 7, hq => cases hq; exact ⟨by decide +kernel, _, tb wt_LeagueTables_Tally⟩
  | 8, hq => cases hq; exact ⟨by decide +kernel, _, tb wt_LeagueTables_Text⟩
  | 9, hq => cases hq; exact ⟨by decide +kernel, _, tb wt_LeagueTables⟩
  | 10, hq => cases hq; exact ⟨by decide +kernel, _, tb wt_LeagueTablesModel⟩
  | k + 11, hq => cases hq
theorem law_prim {args : Array Value} {s : State} {ty : FieldType} (h : (Cond.arrayClass ty).before args s = true) : ∃ cA : ClassId, ArrOfT s cA ty ∧ s.vm.findClass ("[" ++ ty.toString) = some cA := by
  obtain ⟨cA, kA, comp, h1, h2, h3⟩ := Cond.arrayClass_spec h
  exact ⟨cA, fun n z => ⟨fun k h => (by cases h), kA, h2, comp, h3⟩, h1⟩
theorem law_K {args : Array Value} {s : State} (hts : ∀ w ∈ lw_tbl, w.before args s = true) : ∃ (D : va_G) (tyc : Nat → ClassId), va_K D vwCl (j_tys tyc) s := by
  have tb : ∀ {w : Cond}, w ∈ j_all → w ∈ lw_tbl := fun h => (List.mem_filter.mp h).1
  have hc : ∀ k : Nat, ∃ d : ClassId × (Nat → Nat), ∀ q : vw_C, vwCl[k]? = some q → u_Kn s q.1 q.2.1 q.2.2 d.1 d.2 := by
    intro k
    cases hk : vwCl[k]? with
    | none => exact ⟨(0, fun _ => 0), fun q hq => by cases hq⟩
    | some q =>
      obtain ⟨h1, n, h2⟩ := law_cls k q hk
      obtain ⟨cC, iS, h3⟩ := u_known (T := q.2.1) (N := q.2.2) hts h1 (hts _ h2)
      exact ⟨(cC, iS), fun q' hq' => by cases hq'; exact h3⟩
  obtain ⟨dd, hdd⟩ := Classical.skolem.mp hc
  obtain ⟨t0, a0, f0⟩ := law_prim (hts _ (tb wa_int))
  obtain ⟨t1, a1, f1⟩ := law_prim (hts _ (tb wa_char))
  obtain ⟨t2, a2, f2⟩ := law_prim (hts _ (tb wa_byte))
  obtain ⟨t4, a4, f4⟩ := law_prim (hts _ (tb wa_long))
  obtain ⟨t5, a5, f5⟩ := law_prim (hts _ (tb wa_double))
  obtain ⟨comp, t3, kA, g1, g2, g3, g4, g5⟩ := Cond.arrayOver_spec (hts (.arrayOver (.object j_R2)) (List.mem_of_getElem? (i := 203) (by decide +kernel)))
  refine ⟨(fun k => (dd k).1, fun k => (dd k).2), fun t => if t = 100 then t0 else if t = 101 then t1 else if t = 102 then t2 else if t = 103 then t3 else if t = 104 then t4 else t5, fun k q hq => hdd k q hq, fun k q hq => ?_⟩
  match k, hq with
  | 0, hq => cases hq; exact ⟨a0, f0⟩
  | 1, hq => cases hq; exact ⟨a1, f1⟩
  | 2, hq => cases hq; exact ⟨a2, f2⟩
  | 3, hq => cases hq; exact ⟨fun N z => ⟨(fun k h => by cases h), kA, g3, comp, g4⟩, kA, comp, g3, g4, g1, g5⟩
  | 4, hq => cases hq; exact ⟨a4, f4⟩
  | 5, hq => cases hq; exact ⟨a5, f5⟩
  | k + 6, hq => cases hq
theorem law_str {args : Array Value} {s : State} {own tx : String} {k : Nat} (h : (Cond.stringRef own k tx).before args s = true) : ∃ sa, vk_R own k tx sa s := by
  have h0 := h
  simp only [Cond.before, Cond.holds, Cond.value, State.resolvedAt?] at h
  cases hc : s.vm.findClass own with
  | none => simp [hc] at h
  | some c =>
    cases hk : s.vm.classes[c]? with
    | none => simp [hc, hk] at h
    | some kc =>
      cases hr : (kc.resolved[k]?).join with
      | none => simp [hc, hk, hr] at h
      | some r =>
        cases r with
        | string a => exact ⟨a, vk_R.of (A := args) h0 (by simp [Term.eval, hc, hk, hr])⟩
        | _ => simp [hc, hk, hr] at h
theorem law_eq {args : Array Value} {s : State} {t : Term} {v : Int32} (h : (Cond.eq t (.int v)).before args s = true) : t.eval args s none [] s = some (.int v) := by
  simp only [Cond.before, Cond.holds, Cond.value] at h
  have e1 : (Term.int v).eval args s none [] s = some (.int v) := rfl
  rw [e1] at h
  cases ht : t.eval args s none [] s with
  | none => simp [ht] at h
  | some w =>
    cases w with
    | int y =>
      rw [ht] at h
      simp at h
      rw [h]
    | _ => simp [ht] at h
theorem law_env {s : State} {b : Nat} (hts : ∀ w ∈ lw_tbl, w.before #[Value.ref b] s = true) (hgv : (Jvm.Cond.and given_1 narrow_1).before #[Value.ref b] s = true) : j_env (fun q => s.heap.size ≤ q) s s.heap := by
  have hs := flat_of_before _ hgv
  have tb : ∀ {w : Cond}, w ∈ j_all → w ∈ lw_tbl := fun h => (List.mem_filter.mp h).1
  have hA : ∀ a : Nat, a < s.heap.size → ¬ (fun q => s.heap.size ≤ q) a := fun a h => Nat.not_le.mpr h
  refine ⟨fun w hw => va_Nw.of (j_soft_tab (List.mem_filter.mp hw).2) (hts w (List.mem_filter.mp hw).1), va_AO.of (hts (.arrayOver (.object j_R2)) (List.mem_of_getElem? (i := 203) (by decide +kernel))), fun q hq => ?_, ?_, ?_, ?_, fun q hq => ?_⟩
  · obtain ⟨w, hw, he⟩ := List.mem_filterMap.mp hq
    cases w with
    | stringRef c k t =>
      cases he
      exact law_str (hts _ hw)
    | _ => cases he
  · exact vx_Zqof (hts _ (List.mem_of_getElem? (i := 489) (by decide +kernel))) (hts _ (tb wi_java_lang_Throwable)) (hs _ (by decide +kernel)) hA
  · exact vx_Zqof (hts _ (List.mem_of_getElem? (i := 491) (by decide +kernel))) (hts _ (tb wi_java_lang_Throwable)) (hs _ (by decide +kernel)) hA
  · exact va_Zof (hts _ (List.mem_of_getElem? (i := 356) (by decide +kernel))) (hts _ (tb wi_java_lang_String)) (law_eq (hs (.eq (.static "java/lang/String" "COMPACT_STRINGS" "Z") (.int 1)) (by decide +kernel))) hA
  · have hq : q = ("java/lang/IllegalArgumentException", "java/lang/IndexOutOfBoundsException") ∨ q = ("java/util/NoSuchElementException", "java/lang/IndexOutOfBoundsException") ∨ q = ("java/lang/UnsupportedOperationException", "java/lang/IllegalArgumentException") ∨ q = ("java/util/NoSuchElementException", "java/lang/IllegalArgumentException") := by
      simpa [j_ncs] using hq
    rcases hq with rfl | rfl | rfl | rfl
    · exact va_Nc.of (hs (.not (.castable "java/lang/IllegalArgumentException" "java/lang/IndexOutOfBoundsException")) (by decide +kernel))
    · exact va_Nc.of (hs (.not (.castable "java/util/NoSuchElementException" "java/lang/IndexOutOfBoundsException")) (by decide +kernel))
    · exact va_Nc.of (hs (.not (.castable "java/lang/UnsupportedOperationException" "java/lang/IllegalArgumentException")) (by decide +kernel))
    · exact va_Nc.of (hs (.not (.castable "java/util/NoSuchElementException" "java/lang/IllegalArgumentException")) (by decide +kernel))
