/-! ===== the words: those that a call carries along, those that hold by the tables alone ===== -/
/-- private methods of AbstractStringBuilder's, on a StringBuilder -/
def j_ext : List Cond := [.selects "java/lang/StringBuilder" yJ5_ensureCapacityInternal_d00df yJ5_ensureCapacityInternal_d00df, .selects "java/lang/StringBuilder" yJ5_newCapacity_0f7a4 yJ5_newCapacity_0f7a4]
def j_all : List Cond := (lw_tbl ++ j_ext).filter goodWord
theorem j_wd {w : Cond} (i : Nat) (h : lw_tbl[i]? = some w) (g : goodWord w = true) : w ∈ j_all := List.mem_filter.mpr ⟨List.mem_append_left _ (List.mem_of_getElem? h), g⟩
theorem j_wx {w : Cond} (i : Nat) (h : j_ext[i]? = some w) (g : goodWord w = true) : w ∈ j_all := List.mem_filter.mpr ⟨List.mem_append_right _ (List.mem_of_getElem? h), g⟩
theorem j_all_good {w : Cond} (h : w ∈ j_all) : w ∈ j_all ∧ ((w.onTables && w.keeps) = true ∨ ∃ ty, w = .arrayClass ty) := ⟨h, good_of_word (List.mem_filter.mp h).2⟩
theorem j_good {ws : List Cond} (h : ∀ w ∈ ws, w ∈ j_all) : GoodIn j_all ws := fun w hw => j_all_good (h w hw)
def j_soft (w : Cond) : Bool := match w with
  | .methodLinkNest .. => true
  | .castable .. => true
  | .declares .. => true
  | _ => false
def j_nw : List Cond := lw_tbl.filter j_soft
theorem j_nwd {w : Cond} (i : Nat) (h : lw_tbl[i]? = some w) (g : j_soft w = true) : w ∈ j_nw := List.mem_filter.mpr ⟨List.mem_of_getElem? h, g⟩
theorem j_soft_tab {w : Cond} (h : j_soft w = true) : w.onTables = true := by
  cases w <;> first | rfl | cases h
theorem j_soft_warm {w : Cond} {s U : State} (hW : s.WarmedH U.vm) (h : j_soft w = true) (hw : va_Nw w s) : va_Nw w U := by
  cases w <;> first | exact va_Nw.warmM hW hw | exact va_Nw.warmC hW hw | exact va_Nw.warmD hW hw | exact absurd h (by decide) | cases h
/-- String constants: the class, the place, the text -/
def j_strs : List (String × Nat × String) := lw_tbl.filterMap fun w => match w with
  | .stringRef c k t => some (c, k, t)
  | _ => none
theorem j_strd {c t : String} {k : Nat} (i : Nat) (h : lw_tbl[i]? = some (.stringRef c k t)) : (c, k, t) ∈ j_strs := List.mem_filterMap.mpr ⟨_, List.mem_of_getElem? h, rfl⟩
abbrev j_R2 : String := "LeagueTables$League"
/-- exceptions that pass a handler of the law's -/
def j_ncs : List (String × String) := [("java/lang/IllegalArgumentException", "java/lang/IndexOutOfBoundsException"), ("java/util/NoSuchElementException", "java/lang/IndexOutOfBoundsException"), ("java/lang/UnsupportedOperationException", "java/lang/IllegalArgumentException"), ("java/util/NoSuchElementException", "java/lang/IllegalArgumentException")]
/-- a static row of bytes of java/lang/Integer's -/
def j_tab (n : String) (f : Nat → Int32) (A : Nat → Prop) (U : State) (H : Heap) : Prop := ∃ a : Nat, va_Z "java/lang/Integer" n "[B" (.ref a) A U H ∧ ¬ A a ∧ a < H.size ∧ ∃ cell : Cell, H[a]? = some cell ∧ U.isArrayOf cell .byte ∧ cell.vm ≠ .unknown ∧ cell.slots.size = 100 ∧ ∀ j : Nat, j < 100 → cell.slots[j]? = some (.int (f j))
def j_ones (k : Nat) : Int32 := Int32.ofNat (48 + k % 10)
def j_tens (k : Nat) : Int32 := Int32.ofNat (48 + k / 10)
theorem j_tab.moved {n : String} {f : Nat → Int32} {A : Nat → Prop} {u U : State} {H : Heap} (hvm : u.vm.Alike U.vm) (h : j_tab n f A u H) : j_tab n f A U H := by
  obtain ⟨a, h1, h2, h3, cell, h4, h5, h6⟩ := h
  exact ⟨a, h1.moved hvm, h2, h3, cell, h4, State.isArrayOf_alike hvm h5, h6⟩
theorem j_tab.kept {n : String} {f : Nat → Int32} {A : Nat → Prop} {U : State} {H H1 : Heap} (h : j_tab n f A U H) (hq : ∀ a : Nat, a < H.size → ¬ A a → H1[a]? = H[a]?) : j_tab n f A U H1 := by
  obtain ⟨a, h1, h2, h3, cell, h4, h5⟩ := h
  have e := hq a h3 h2
  rw [h4] at e
  exact ⟨a, h1.kept hq, h2, (Array.getElem?_eq_some_iff.mp e).1, cell, e, h5⟩
theorem j_tab.narrow {n : String} {f : Nat → Int32} {A B : Nat → Prop} {U : State} {H : Heap} (h : j_tab n f A U H) (hAB : ∀ q, B q → A q) : j_tab n f B U H := by
  obtain ⟨a, h1, h2, h3⟩ := h
  exact ⟨a, h1.narrow hAB, fun q => h2 (hAB a q), h3⟩
/-- the law's String constants: entry, text, bytes -/
def j_cs : List (Nat × String × List Int32) := [(245, "m", [109]), (253, "=", [61]), (255, ":", [58]), (257, ";n", [59, 110]), (263, "t", [116]), (265, ";o", [59, 111]), (267, "+", [43]), (281, "q", [113]), (286, "t;t11", [116, 59, 116, 49, 49])]
def j_csn (i : Nat) : Nat := (j_cs.getD i (0, "", [])).1
def j_cst (A : Nat → Prop) (U : State) (H : Heap) : Prop := ∃ adK adV : Nat → Nat, vk_S 9 (j_cs.map fun q => q.2.2.length) (j_cs.map fun q => q.2.2) adK adV A U H ∧ ∀ i, i < 9 → vk_R "LeagueTablesLaw" (j_csn i) (j_cs.getD i (0, "", [])).2.1 (adK i) U
theorem j_cst.go {A B : Nat → Prop} {s U : State} {H H1 : Heap} (h : j_cst A s H) (hW : s.WarmedH U.vm) (hq : ∀ a : Nat, a < H.size → ¬ A a → H1[a]? = H[a]?) (hAB : ∀ q, B q → A q) : j_cst B U H1 := by
  obtain ⟨adK, adV, h1, h2⟩ := h
  exact ⟨adK, adV, ((h1.moved hW.alike).kept hq).narrow hAB, fun i hi => vk_R.warm hW (h2 i hi)⟩
theorem j_cst.blind {A : Nat → Prop} {U : State} {H : Heap} {g : JFrame} {mk : MethodId} {a : Array Value} (h : j_cst A U H) : j_cst A (U.calling g mk a) H := by
  obtain ⟨adK, adV, h1, h2⟩ := h
  exact ⟨adK, adV, vk_S.moved (u := U) (U := U.calling g mk a) (Vm.Alike.refl U.vm) h1, fun i hi => vk_R.same (u := U) (U := U.calling g mk a) rfl (h2 i hi)⟩
def j_env (A : Nat → Prop) (U : State) (H : Heap) : Prop :=
  (∀ w ∈ j_nw, va_Nw w U) ∧ va_AO j_R2 U ∧ (∀ q ∈ j_strs, ∃ sa, vk_R q.1 q.2.1 q.2.2 sa U) ∧
  vx_Zq Bundle.tN "UNASSIGNED_STACK" Bundle.steD A U H ∧ vx_Zq Bundle.tN "SUPPRESSED_SENTINEL" Bundle.listD A U H ∧ va_Z "java/lang/String" "COMPACT_STRINGS" "Z" (.int 1) A U H ∧ (∀ q ∈ j_ncs, va_Nc q.1 q.2 U) ∧ va_Zq "jdk/internal/util/Preconditions" "SIOOBE_FORMATTER" "Ljava/util/function/BiFunction;" A U H ∧ j_tab "DigitOnes" j_ones A U H ∧ j_tab "DigitTens" j_tens A U H ∧ j_cst A U H
theorem j_env.go {A B : Nat → Prop} {s U : State} {H H1 : Heap} (h : j_env A s H) (hW : s.WarmedH U.vm) (hq : ∀ a : Nat, a < H.size → ¬ A a → H1[a]? = H[a]?) (hAB : ∀ q, B q → A q) : j_env B U H1 := by
  obtain ⟨h1, h2, h3, h4, h5, h6, h7, h8, h9, h10, h11⟩ := h
  refine ⟨fun w hw => j_soft_warm hW (List.mem_filter.mp hw).2 (h1 w hw), va_AO.moved hW.alike h2, fun q hq => ?_, ((h4.moved hW.alike).kept hq).narrow hAB, ((h5.moved hW.alike).kept hq).narrow hAB, ((h6.moved hW.alike).kept hq).narrow hAB, fun q hq => (h7 q hq).moved hW.alike, ((h8.moved hW.alike).kept hq).narrow hAB, ((h9.moved hW.alike).kept hq).narrow hAB, ((h10.moved hW.alike).kept hq).narrow hAB, h11.go hW hq hAB⟩
  obtain ⟨sa, hs⟩ := h3 q hq
  exact ⟨sa, vk_R.warm hW hs⟩
theorem j_env.blind {A : Nat → Prop} {U : State} {H : Heap} {g : JFrame} {mk : MethodId} {a : Array Value} (h : j_env A U H) : j_env A (U.calling g mk a) H :=
  ⟨fun w hw => va_Nw.same (j_soft_tab (List.mem_filter.mp hw).2) (u := U) (U := U.calling g mk a) rfl (h.1 w hw), va_AO.moved (u := U) (U := U.calling g mk a) (Vm.Alike.refl U.vm) h.2.1,
    fun q hq => by obtain ⟨sa, hs⟩ := h.2.2.1 q hq; exact ⟨sa, vk_R.same (u := U) (U := U.calling g mk a) rfl hs⟩,
    vx_Zq.moved (u := U) (U := U.calling g mk a) (Vm.Alike.refl U.vm) h.2.2.2.1, vx_Zq.moved (u := U) (U := U.calling g mk a) (Vm.Alike.refl U.vm) h.2.2.2.2.1, va_Z.moved (u := U) (U := U.calling g mk a) (Vm.Alike.refl U.vm) h.2.2.2.2.2.1, fun q hq => va_Nc.moved (u := U) (U := U.calling g mk a) (Vm.Alike.refl U.vm) (h.2.2.2.2.2.2.1 q hq), va_Zq.moved (u := U) (U := U.calling g mk a) (Vm.Alike.refl U.vm) h.2.2.2.2.2.2.2.1, j_tab.moved (u := U) (U := U.calling g mk a) (Vm.Alike.refl U.vm) h.2.2.2.2.2.2.2.2.1, j_tab.moved (u := U) (U := U.calling g mk a) (Vm.Alike.refl U.vm) h.2.2.2.2.2.2.2.2.2.1, h.2.2.2.2.2.2.2.2.2.2.blind⟩
def j_tys (tyc : Nat → ClassId) : List (ClassId × FieldType) := [(tyc 100, .int), (tyc 101, .char), (tyc 102, .byte), (tyc 103, .object j_R2), (tyc 104, .long), (tyc 105, .double)]
/-! ===== the judgement ===== -/
/-- what holds of the machine all through a method: its code, its words, the tables, the room -/
def j_X (p : Program) (l : Launch) (s : State) (m : MethodId) (args : Array Value) (meth : Method) (c : Code) (D : va_G) (tyc : Nat → ClassId) (A : Nat → Prop) (own : String) (cc : ByteArray) (nL : Nat) : Prop :=
  p.tables.exec = Jvm.exec ∧ c.code = cc ∧ c.maxLocals = nL ∧ s.vm.findClass own = some m.cls ∧ (∀ w ∈ j_all, w.before args s = true) ∧ va_K D vwCl (j_tys tyc) s ∧ (∀ q, s.heap.size ≤ q → A q) ∧ meth.locks = false ∧ l.stackTraces = false ∧ j_env A s s.heap
def j_I (s : State) (D : va_G) (tyc : Nat → ClassId) (A : Nat → Prop) (n0 : Nat) (ad0 : Nat → Nat) (nL : Nat) (ad : Nat → Nat) (L : List (Option Value)) (st : List Value) (h : MH) (ls : Array Slot) (H : Heap) (locs : List Loc) : Prop :=
  j_L ls nL ad L ∧ va_P D vwCl (j_w tyc ad h) H ∧ va_D A (j_w tyc ad h) ∧ va_S A s.heap H locs ∧ (n0 ≤ h.1 ∧ ∀ i, i < n0 → ad i = ad0 i) ∧ j_okH h ∧ (∀ v ∈ st, j_ok h.1 v) ∧ ∀ v, some v ∈ L → j_ok h.1 v
def JJ (p : Program) (l : Launch) (e : Env) (R : Room) (s : State) (m : MethodId) (args : Array Value) (below : List Frame) (meth : Method) (c : Code) (D : va_G) (tyc : Nat → ClassId) (A : Nat → Prop) (n0 : Nat) (ad0 : Nat → Nat) (nL : Nat) (Q : State → Prop)
    (pc : Nat) (L : List (Option Value)) (st : List Value) (h : MH) (cells slots : Nat) : Prop :=
  ∀ (ad : Nat → Nat) (ls : Array Slot) (H : Heap) (locs : List Loc), j_I s D tyc A n0 ad0 nL ad L st h ls H locs → W p l e R s m args below meth c H locs cells slots Q (F0 m pc ls (st.map (j_cv ad)))
/-- the same world, another stack -/
theorem j_I.st {s : State} {D : va_G} {tyc : Nat → ClassId} {A : Nat → Prop} {n0 : Nat} {ad0 : Nat → Nat} {nL : Nat} {ad : Nat → Nat} {L : List (Option Value)} {st st' : List Value} {h : MH} {ls : Array Slot} {H : Heap} {locs : List Loc}
    (I : j_I s D tyc A n0 ad0 nL ad L st h ls H locs) (hs : (∀ v ∈ st, j_ok h.1 v) → ∀ v ∈ st', j_ok h.1 v) : j_I s D tyc A n0 ad0 nL ad L st' h ls H locs :=
  ⟨I.1, I.2.1, I.2.2.1, I.2.2.2.1, I.2.2.2.2.1, I.2.2.2.2.2.1, hs I.2.2.2.2.2.2.1, I.2.2.2.2.2.2.2⟩
theorem j_I.lo {s : State} {D : va_G} {tyc : Nat → ClassId} {A : Nat → Prop} {n0 : Nat} {ad0 : Nat → Nat} {nL : Nat} {ad : Nat → Nat} {L L' : List (Option Value)} {st st' : List Value} {h : MH} {ls ls' : Array Slot} {H : Heap} {locs : List Loc}
    (I : j_I s D tyc A n0 ad0 nL ad L st h ls H locs) (hs : (∀ v ∈ st, j_ok h.1 v) → ∀ v ∈ st', j_ok h.1 v) (hl : j_L ls' nL ad L') (hL : ∀ v, some v ∈ L' → j_ok h.1 v) : j_I s D tyc A n0 ad0 nL ad L' st' h ls' H locs :=
  ⟨hl, I.2.1, I.2.2.1, I.2.2.2.1, I.2.2.2.2.1, I.2.2.2.2.2.1, hs I.2.2.2.2.2.2.1, hL⟩
theorem j_ok_set {n i : Nat} {L : List (Option Value)} {v : Value} (h : ∀ w, some w ∈ L → j_ok n w) (hv : j_ok n v) : ∀ w, some w ∈ L.set i (some v) → j_ok n w := by
  intro w hw
  rcases List.mem_or_eq_of_mem_set hw with h1 | h1
  · exact h w h1
  · cases h1
    exact hv
theorem j_ok_tl {n : Nat} {v : Value} {st : List Value} (h : ∀ w ∈ v :: st, j_ok n w) : ∀ w ∈ st, j_ok n w := fun w hw => h w (List.mem_cons_of_mem _ hw)
theorem j_ok_cons {n : Nat} {v : Value} {st : List Value} (hv : j_ok n v) (h : ∀ w ∈ st, j_ok n w) : ∀ w ∈ v :: st, j_ok n w := fun w hw => (List.mem_cons.mp hw).elim (fun e => by rw [e]; exact hv) (h w)
