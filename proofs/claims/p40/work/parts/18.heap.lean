/-! ===== the store of the running law: the class 0 to 93; behind it what the StringBuilder has grown to ===== -/
def hTl : List Nat := [9, 6, 100, 100, 100, 100, 100, 6, 100, 100, 100, 100, 100, 5, 103, 6, 100, 100, 100, 100, 100, 6, 100, 100, 100, 100, 100, 6, 100, 100, 100, 100, 100, 6, 100, 100, 100, 100, 100, 6, 100, 100, 100, 100, 100, 6, 100, 100, 100, 100, 100, 6, 100, 100, 100, 100, 100, 6, 100, 100, 100, 100, 100, 6, 100, 100, 100, 100, 100, 4, 100, 100, 100, 100, 100, 7, 100, 100, 100, 100, 100, 100, 100, 100, 100, 100, 8, 101, 100, 100, 100, 100, 1, 102]
def hNl : List Nat := [14, 11, 8, 3, 56, 56, 56, 11, 8, 3, 56, 56, 56, 3, 9, 11, 8, 3, 56, 56, 56, 11, 8, 3, 56, 56, 56, 11, 8, 3, 56, 56, 56, 11, 8, 3, 56, 56, 56, 11, 8, 3, 56, 56, 56, 11, 8, 3, 56, 56, 56, 11, 8, 3, 56, 56, 56, 11, 8, 3, 56, 56, 56, 11, 8, 3, 56, 56, 56, 7, 56, 56, 56, 14, 8, 12, 8, 8, 8, 8, 8, 8, 8, 8, 8, 8, 8, 60, 30, 30, 30, 30, 4, 16]
def hRl : List (List (Nat × Nat)) := [[(0, 1), (1, 7), (3, 13), (4, 69), (5, 75), (6, 85), (7, 86), (13, 92)], [(1, 2), (7, 3), (8, 4), (9, 5), (10, 6)], [], [], [], [], [], [(1, 8), (7, 9), (8, 10), (9, 11), (10, 12)], [], [], [], [], [], [(0, 14)], [(0, 15), (1, 21), (2, 27), (3, 33), (4, 39), (5, 45), (6, 51), (7, 57), (8, 63)], [(1, 16), (7, 17), (8, 18), (9, 19), (10, 20)], [], [], [], [], [], [(1, 22), (7, 23), (8, 24), (9, 25), (10, 26)], [], [], [], [], [], [(1, 28), (7, 29), (8, 30), (9, 31), (10, 32)], [], [], [], [], [], [(1, 34), (7, 35), (8, 36), (9, 37), (10, 38)], [], [], [], [], [], [(1, 40), (7, 41), (8, 42), (9, 43), (10, 44)], [], [], [], [], [], [(1, 46), (7, 47), (8, 48), (9, 49), (10, 50)], [], [], [], [], [], [(1, 52), (7, 53), (8, 54), (9, 55), (10, 56)], [], [], [], [], [], [(1, 58), (7, 59), (8, 60), (9, 61), (10, 62)], [], [], [], [], [], [(1, 64), (7, 65), (8, 66), (9, 67), (10, 68)], [], [], [], [], [], [(2, 70), (3, 71), (4, 72), (5, 73), (6, 74)], [], [], [], [], [], [(3, 76), (4, 77), (5, 78), (6, 79), (7, 80), (8, 81), (9, 82), (10, 83), (11, 84)], [], [], [], [], [], [], [], [], [], [], [(3, 87), (4, 88), (5, 89), (6, 90), (7, 91)], [], [], [], [], [], [], []]
def hT (i : Nat) : Nat := hTl.getD i 102
def hN (i : Nat) : Nat := hNl.getD i 0
def hR (i k : Nat) : Option Nat := (hRl.getD i []).lookup k
abbrev SBt : Type := Nat × Nat × (Nat → Nat)
abbrev OUt : Type := (Nat → Int64) × (Nat → UInt64)
abbrev MM : Type := Nat → Nat → Int32
def jm (M : MM) (i k : Nat) (v : Int32) : MM := fun a b => if a = i ∧ b = k then v else M a b
theorem jm_s {M : MM} {i k : Nat} {v : Int32} : jm M i k v i k = v := by simp [jm]
theorem jm_n {M : MM} {i k a b : Nat} {v : Int32} (h : ¬ (a = i ∧ b = k)) : jm M i k v a b = M a b := by simp [jm, h]
def hLen (b : SBt) (i : Nat) : Nat := if i < 94 then hN i else b.2.2 i
def hF (b : SBt) (Y : OUt) (M : MM) (i k : Nat) : Value := if i + 1 = 0 then .long (Y.1 k) else if i + 2 = 0 then .double (Y.2 k) else if i = 92 ∧ k = 0 then .ref b.1 else match hR i k with
  | some r => .ref r
  | none => .int (M i k)
def HH (b : SBt) (Y : OUt) (M : MM) : MH := (b.2.1, fun i => (hT i, hLen b i, hF b Y M i))
/-- an int field; a field that holds a cell; a row of ints or characters -/
def fI (i k ci N : Nat) : Bool := decide (i < 94) && (hT i == ci) && (hN i == N) && !(i == 92 && k == 0) && (hR i k).isNone
def fR (i k ci N r : Nat) : Bool := decide (i < 94) && (hT i == ci) && (hN i == N) && !(i == 92 && k == 0) && (hR i k == some r)
def fA (i t n : Nat) : Bool := decide (i < 94) && (hT i == t) && (hN i == n) && !(i == 92) && (hRl.getD i []).isEmpty
def fT (i ci : Nat) : Bool := decide (i < 94) && (hT i == ci)
theorem fI_spec {i k ci N : Nat} (h : fI i k ci N = true) (b : SBt) (Y : OUt) (M : MM) : i < 94 ∧ hT i = ci ∧ hN i = N ∧ hF b Y M i k = .int (M i k) ∧ ¬ (i = 92 ∧ k = 0) ∧ hR i k = none := by
  simp only [fI, Bool.and_eq_true, decide_eq_true_eq, beq_iff_eq, Bool.not_eq_true', Bool.and_eq_false_iff, beq_eq_false_iff_ne, Option.isNone_iff_eq_none] at h
  obtain ⟨⟨⟨⟨h1, h2⟩, h3⟩, h4⟩, h5⟩ := h
  have h6 : ¬ (i = 92 ∧ k = 0) := fun q => h4.elim (fun z => z q.1) (fun z => z q.2)
  refine ⟨h1, h2, h3, ?_, h6, h5⟩
  unfold hF
  rw [if_neg (by omega), if_neg (by omega), if_neg h6, h5]
theorem fR_spec {i k ci N r : Nat} (h : fR i k ci N r = true) (b : SBt) (Y : OUt) (M : MM) : i < 94 ∧ hT i = ci ∧ hN i = N ∧ hF b Y M i k = .ref r := by
  simp only [fR, Bool.and_eq_true, decide_eq_true_eq, beq_iff_eq, Bool.not_eq_true', Bool.and_eq_false_iff, beq_eq_false_iff_ne] at h
  obtain ⟨⟨⟨⟨h1, h2⟩, h3⟩, h4⟩, h5⟩ := h
  have h6 : ¬ (i = 92 ∧ k = 0) := fun q => h4.elim (fun z => z q.1) (fun z => z q.2)
  refine ⟨h1, h2, h3, ?_⟩
  unfold hF
  rw [if_neg (by omega), if_neg (by omega), if_neg h6, h5]
theorem fA_spec {i t n : Nat} (h : fA i t n = true) (b : SBt) (Y : OUt) (M : MM) : i < 94 ∧ hT i = t ∧ hN i = n ∧ i ≠ 92 ∧ (∀ k, hR i k = none) ∧ hF b Y M i = fun k => .int (M i k) := by
  simp only [fA, Bool.and_eq_true, decide_eq_true_eq, beq_iff_eq, Bool.not_eq_true', beq_eq_false_iff_ne, List.isEmpty_iff] at h
  obtain ⟨⟨⟨⟨h1, h2⟩, h3⟩, h4⟩, h5⟩ := h
  have h6 : ∀ k, hR i k = none := fun k => by unfold hR; rw [h5]; rfl
  refine ⟨h1, h2, h3, h4, h6, funext fun k => ?_⟩
  unfold hF
  rw [if_neg (by omega), if_neg (by omega), if_neg (fun q => h4 q.1), h6 k]
theorem hLen_lo {b : SBt} {i : Nat} (h : i < 94) : hLen b i = hN i := if_pos h
theorem HH_wr {b : SBt} {Y : OUt} {M : MM} {i k : Nat} {v : Int32} (h : ¬ (i = 92 ∧ k = 0)) (h1 : i < 94) (hr : hR i k = none) : j_fld (HH b Y M) i k (.int v) = HH b Y (jm M i k v) := by
  refine Prod.ext rfl (funext fun a => ?_)
  show ju (HH b Y M).2 i _ a = _
  by_cases ha : a = i
  · subst ha
    rw [ju_s]
    show (hT a, hLen b a, ju (hF b Y M a) k (.int v)) = (hT a, hLen b a, hF b Y (jm M a k v) a)
    congr 2
    funext j
    by_cases hj : j = k
    · subst hj
      rw [ju_s]
      unfold hF
      rw [if_neg (by omega), if_neg (by omega), if_neg h, hr]
      simp [jm]
    · rw [ju_n hj]
      unfold hF
      rw [jm_n (fun q => hj q.2)]
  · rw [ju_n ha]
    show (hT a, hLen b a, hF b Y M a) = (hT a, hLen b a, hF b Y (jm M i k v) a)
    congr 2
    funext j
    unfold hF
    rw [jm_n (fun q => ha q.1)]
/-- a method that comes to an end o, from the store M to the store M1 -/
def jres (b : SBt) (Y : OUt) (o0 : MO) (M1 : MM) : MO → MH → Prop := fun o k => o = o0 ∧ k = HH b Y M1
abbrev CM (d mc ms : Nat) (y : MethodName) (cc : ByteArray) (maxL : Nat) (ret : Option FieldType) (as : List Value) (b : SBt) (Y : OUt) (M : MM) (o : MO) (M1 : MM) : Prop := Con d mc ms y cc maxL ret as (HH b Y M) (jres b Y o M1)
theorem jres_no {b : SBt} {Y : OUt} {v : Option Value} {M1 : MM} : ∀ E k, ¬ jres b Y (.inl v) M1 (.inr E) k := fun _ _ h => by cases h.1
/-- stores that agree on all that their cells hold -/
def hEq (b : SBt) (M M1 : MM) : Prop := ∀ i, i < b.2.1 → ∀ k, k < hLen b i → M i k = M1 i k
section J2
variable {p : Program} {l : Launch} {e : Env} {R : Room} {s : State} {m : MethodId} {args : Array Value} {below : List Frame} {meth : Method} {c : Code} {D : va_G} {tyc : Nat → ClassId} {A : Nat → Prop} {n0 : Nat} {ad0 : Nat → Nat} {nL : Nat} {Q : State → Prop}
variable {own : String} {cc : ByteArray} {pc : Nat} {L : List (Option Value)} {st : List Value} {b : SBt} {Y : OUt} {M : MM} {cells slots : Nat}
theorem j2_geti (x : j_X p l s m args meth c D tyc A own cc nL) (hb : 94 ≤ b.2.1) {i k idx ci : Nat} {q : vw_C} {ty : Nat → FieldType} (hd : decode cc pc = .ok (.getfield idx, 3)) (hq : j_cls ci q ty) (hw : Cond.fieldLink own idx (q.2.1 k).1 (q.2.1 k).2.1 (q.2.1 k).2.2.1 ∈ j_all) (hk : k < q.2.2) (hf : fI i k ci q.2.2 = true) (kk : JJ p l e R s m args below meth c D tyc A n0 ad0 nL Q (pc + 3) (L) (.int (M i k) :: st) (HH b Y (M)) (cells) (slots)) : JJ p l e R s m args below meth c D tyc A n0 ad0 nL Q (pc) (L) (.ref i :: st) (HH b Y (M)) (cells) (slots) := by
  obtain ⟨h1, h2, h3, h4, -⟩ := fI_spec hf b Y M
  refine j_get x hd hq hw hk (show i < b.2.1 by omega) h2 ((hLen_lo (by omega)).trans h3) ?_
  show JJ p l e R s m args below meth c D tyc A n0 ad0 nL Q (pc + 3) L (hF b Y M i k :: st) (HH b Y M) cells slots
  rw [h4]
  exact kk
theorem j2_getr (x : j_X p l s m args meth c D tyc A own cc nL) (hb : 94 ≤ b.2.1) {i k idx ci r : Nat} {q : vw_C} {ty : Nat → FieldType} (hd : decode cc pc = .ok (.getfield idx, 3)) (hq : j_cls ci q ty) (hw : Cond.fieldLink own idx (q.2.1 k).1 (q.2.1 k).2.1 (q.2.1 k).2.2.1 ∈ j_all) (hk : k < q.2.2) (hf : fR i k ci q.2.2 r = true) (kk : JJ p l e R s m args below meth c D tyc A n0 ad0 nL Q (pc + 3) (L) (.ref r :: st) (HH b Y (M)) (cells) (slots)) : JJ p l e R s m args below meth c D tyc A n0 ad0 nL Q (pc) (L) (.ref i :: st) (HH b Y (M)) (cells) (slots) := by
  obtain ⟨h1, h2, h3, h4⟩ := fR_spec hf b Y M
  refine j_get x hd hq hw hk (show i < b.2.1 by omega) h2 ((hLen_lo (by omega)).trans h3) ?_
  show JJ p l e R s m args below meth c D tyc A n0 ad0 nL Q (pc + 3) L (hF b Y M i k :: st) (HH b Y M) cells slots
  rw [h4]
  exact kk
theorem j2_puti (x : j_X p l s m args meth c D tyc A own cc nL) (hb : 94 ≤ b.2.1) {i k idx ci : Nat} {q : vw_C} {ty : Nat → FieldType} {v : Int32} (hd : decode cc pc = .ok (.putfield idx, 3)) (hq : j_cls ci q ty) (hw : Cond.fieldLink own idx (q.2.1 k).1 (q.2.1 k).2.1 (q.2.1 k).2.2.1 ∈ j_all) (hk : k < q.2.2) (hfin : (q.2.1 k).2.2.2 = false) (hna : narrow (ty k) (.int v) = .int v) (hfi : fits (ty k) (.int v) = true) (hf : fI i k ci q.2.2 = true) (kk : JJ p l e R s m args below meth c D tyc A n0 ad0 nL Q (pc + 3) (L) (st) (HH b Y (jm M i k v)) (cells) (slots)) : JJ p l e R s m args below meth c D tyc A n0 ad0 nL Q (pc) (L) (.int v :: .ref i :: st) (HH b Y (M)) (cells) (slots) := by
  obtain ⟨h1, h2, h3, h4, h5, h6⟩ := fI_spec hf b Y M
  refine j_put x hd hq hw hk hfin hna hfi (show i < b.2.1 by omega) h2 ((hLen_lo (by omega)).trans h3) ?_
  rw [HH_wr h5 h1 h6]
  exact kk
theorem j2_iald (x : j_X p l s m args meth c D tyc A own cc nL) (hb : 94 ≤ b.2.1) {i n : Nat} {k v : Int32} (hd : decode cc pc = .ok (.iaload, 1)) (hf : fA i 100 n = true) (hk : vp_in k n) (hv : M i k.toNatClampNeg = v) (kk : JJ p l e R s m args below meth c D tyc A n0 ad0 nL Q (pc + 1) (L) (.int v :: st) (HH b Y (M)) (cells) (slots)) : JJ p l e R s m args below meth c D tyc A n0 ad0 nL Q (pc) (L) (.int k :: .ref i :: st) (HH b Y (M)) (cells) (slots) := by
  obtain ⟨h1, h2, h3, -, -, h4⟩ := fA_spec hf b Y M
  refine j_iaload x hd (show i < b.2.1 by omega) h2 (by show vp_in k (hLen b i); rw [hLen_lo (by omega), h3]; exact hk) ?_ kk
  show hF b Y M i k.toNatClampNeg = _
  rw [h4]
  exact congrArg Value.int hv
theorem j2_cald (x : j_X p l s m args meth c D tyc A own cc nL) (hb : 94 ≤ b.2.1) {i n : Nat} {k v : Int32} (hd : decode cc pc = .ok (.caload, 1)) (hf : fA i 101 n = true) (hk : vp_in k n) (hv : M i k.toNatClampNeg = v) (kk : JJ p l e R s m args below meth c D tyc A n0 ad0 nL Q (pc + 1) (L) (.int v :: st) (HH b Y (M)) (cells) (slots)) : JJ p l e R s m args below meth c D tyc A n0 ad0 nL Q (pc) (L) (.int k :: .ref i :: st) (HH b Y (M)) (cells) (slots) := by
  obtain ⟨h1, h2, h3, -, -, h4⟩ := fA_spec hf b Y M
  refine j_caload x hd (show i < b.2.1 by omega) h2 (by show vp_in k (hLen b i); rw [hLen_lo (by omega), h3]; exact hk) ?_ kk
  show hF b Y M i k.toNatClampNeg = _
  rw [h4]
  exact congrArg Value.int hv
theorem j2_iast (x : j_X p l s m args meth c D tyc A own cc nL) (hb : 94 ≤ b.2.1) {i n : Nat} {k v : Int32} (hd : decode cc pc = .ok (.iastore, 1)) (hf : fA i 100 n = true) (hk : vp_in k n) (kk : JJ p l e R s m args below meth c D tyc A n0 ad0 nL Q (pc + 1) (L) (st) (HH b Y (jm M i k.toNatClampNeg v)) (cells) (slots)) : JJ p l e R s m args below meth c D tyc A n0 ad0 nL Q (pc) (L) (.int v :: .int k :: .ref i :: st) (HH b Y (M)) (cells) (slots) := by
  obtain ⟨h1, h2, h3, h5, h6, h4⟩ := fA_spec hf b Y M
  refine j_iastore x hd (show i < b.2.1 by omega) h2 (by show vp_in k (hLen b i); rw [hLen_lo (by omega), h3]; exact hk) ?_
  rw [HH_wr (fun q => h5 q.1) h1 (h6 _)]
  exact kk
theorem j2_cast (x : j_X p l s m args meth c D tyc A own cc nL) (hb : 94 ≤ b.2.1) {i n : Nat} {k v w : Int32} (hd : decode cc pc = .ok (.castore, 1)) (hf : fA i 101 n = true) (hk : vp_in k n) (hv : vp_nar .char v = w) (kk : JJ p l e R s m args below meth c D tyc A n0 ad0 nL Q (pc + 1) (L) (st) (HH b Y (jm M i k.toNatClampNeg w)) (cells) (slots)) : JJ p l e R s m args below meth c D tyc A n0 ad0 nL Q (pc) (L) (.int v :: .int k :: .ref i :: st) (HH b Y (M)) (cells) (slots) := by
  obtain ⟨h1, h2, h3, h5, h6, h4⟩ := fA_spec hf b Y M
  refine j_castore x hd (show i < b.2.1 by omega) h2 (by show vp_in k (hLen b i); rw [hLen_lo (by omega), h3]; exact hk) hv ?_
  rw [HH_wr (fun q => h5 q.1) h1 (h6 _)]
  exact kk
theorem j2_alen (x : j_X p l s m args meth c D tyc A own cc nL) (hb : 94 ≤ b.2.1) {i t n : Nat} {v : Int32} (hd : decode cc pc = .ok (.arraylength, 1)) (hf : fA i t n = true) (ht : 100 ≤ t ∧ t < 106) (hv : Int32.ofNat n = v) (kk : JJ p l e R s m args below meth c D tyc A n0 ad0 nL Q (pc + 1) (L) (.int v :: st) (HH b Y (M)) (cells) (slots)) : JJ p l e R s m args below meth c D tyc A n0 ad0 nL Q (pc) (L) (.ref i :: st) (HH b Y (M)) (cells) (slots) := by
  obtain ⟨h1, h2, h3, -⟩ := fA_spec hf b Y M
  exact j_alen x hd (show i < b.2.1 by omega) h2 ht.1 ht.2 (by show Int32.ofNat (hLen b i) = v; rw [hLen_lo (by omega), h3]; exact hv) kk
/-- the row of the leagues that are kept -/
theorem j2_ring (x : j_X p l s m args meth c D tyc A own cc nL) (hb : 94 ≤ b.2.1) {k : Int32} {j : Nat} (hd : decode cc pc = .ok (.aaload, 1)) (hj : j < 9) (hk : k = nI j) (kk : JJ p l e R s m args below meth c D tyc A n0 ad0 nL Q (pc + 1) (L) (.ref (15 + 6 * j) :: st) (HH b Y (M)) (cells) (slots)) : JJ p l e R s m args below meth c D tyc A n0 ad0 nL Q (pc) (L) (.int k :: .ref 14 :: st) (HH b Y (M)) (cells) (slots) := by
  subst hk
  have h9 : ∀ j, j < 9 → hR 14 j = some (15 + 6 * j) := by decide +kernel
  refine j_aaload x hd (show 14 < b.2.1 by omega) rfl (by show vp_in (nI j) (hLen b 14); rw [hLen_lo (by omega)]; exact vp_in_nI (show j < 9 from hj) (by decide)) ?_ kk
  show hF b Y M 14 (nI j).toNatClampNeg = _
  rw [nI_clamp (by omega)]
  unfold hF
  rw [if_neg (by omega), if_neg (by omega), if_neg (by omega), h9 j hj]
theorem j2_alenr (x : j_X p l s m args meth c D tyc A own cc nL) (hb : 94 ≤ b.2.1) {v : Int32} (hd : decode cc pc = .ok (.arraylength, 1)) (hv : v = 9) (kk : JJ p l e R s m args below meth c D tyc A n0 ad0 nL Q (pc + 1) (L) (.int v :: st) (HH b Y (M)) (cells) (slots)) : JJ p l e R s m args below meth c D tyc A n0 ad0 nL Q (pc) (L) (.ref 14 :: st) (HH b Y (M)) (cells) (slots) := by
  subst hv
  exact j_alen x hd (show 14 < b.2.1 by omega) (t := 103) rfl (by decide) (by decide) (by show Int32.ofNat (hLen b 14) = 9; rw [hLen_lo (by omega)]; rfl) kk
/-- a store that agrees with this one on all that is read -/
theorem j2_eq {M1 : MM} (he : hEq b M M1) (kk : JJ p l e R s m args below meth c D tyc A n0 ad0 nL Q (pc) (L) (st) (HH b Y (M1)) (cells) (slots)) : JJ p l e R s m args below meth c D tyc A n0 ad0 nL Q (pc) (L) (st) (HH b Y (M)) (cells) (slots) := by
  intro ad ls H locs I
  have hc : ∀ i, i < b.2.1 → ∀ k, k < hLen b i → hF b Y M i k = hF b Y M1 i k := fun i hi k hk => by
    unfold hF
    rw [he i hi k hk]
  have hx : ∀ (H : Heap) (i : Nat), i < b.2.1 → va_at D vwCl (ad i, j_e tyc ad (hT i, hLen b i, hF b Y M i)) H → va_at D vwCl (ad i, j_e tyc ad (hT i, hLen b i, hF b Y M1 i)) H := by
    intro H i hi hv
    by_cases ht : hT i < 100
    · rw [j_e_obj (ci := hT i) rfl ht] at hv ⊢
      have e1 : (List.range (hLen b i)).map (fun k => j_cv ad (hF b Y M i k)) = (List.range (hLen b i)).map (fun k => j_cv ad (hF b Y M1 i k)) := List.map_congr_left fun k hk => by rw [hc i hi k (List.mem_range.mp hk)]
      show va_at D vwCl (ad i, .inr (hT i, (List.range (hLen b i)).map (fun k => j_cv ad (hF b Y M1 i k)))) H
      rw [← e1]
      exact hv
    · rw [j_e_arr (t := hT i) rfl (by omega)] at hv ⊢
      have key : ∀ (f g : Nat → Value), (∀ k, k < hLen b i → f k = g k) → vp_cell (tyc (hT i)) (hLen b i, j_arr ad (hT i) f) = vp_cell (tyc (hT i)) (hLen b i, j_arr ad (hT i) g) := by
        intro f g hfg
        have arr : ∀ (u v : Nat → Value), (∀ k, k < hLen b i → u k = v k) → arrV (tyc (hT i)) (hLen b i) u = arrV (tyc (hT i)) (hLen b i) v := fun u v huv => by
          unfold arrV
          congr 2
          funext j
          exact huv j.val j.isLt
        unfold j_arr
        split
        · exact arr (fun j => va_rf (j_opt ad (f j))) (fun j => va_rf (j_opt ad (g j))) fun k hk => by show va_rf (j_opt ad (f k)) = va_rf (j_opt ad (g k)); rw [hfg k hk]
        · split
          · exact arr (fun j => .long (j_lng (f j))) (fun j => .long (j_lng (g j))) fun k hk => by show Value.long (j_lng (f k)) = .long (j_lng (g k)); rw [hfg k hk]
          · split
            · exact arr (fun j => .double (j_dbl (f j))) (fun j => .double (j_dbl (g j))) fun k hk => by show Value.double (j_dbl (f k)) = .double (j_dbl (g k)); rw [hfg k hk]
            · exact arr (fun j => .int (j_int (f j))) (fun j => .int (j_int (g j))) fun k hk => by show Value.int (j_int (f k)) = .int (j_int (g k)); rw [hfg k hk]
      have hv : H[ad i]? = some (vp_cell (tyc (hT i)) (hLen b i, j_arr ad (hT i) (hF b Y M i))) := hv
      show H[ad i]? = some (vp_cell (tyc (hT i)) (hLen b i, j_arr ad (hT i) (hF b Y M1 i)))
      rw [← key _ _ (hc i hi)]
      exact hv
  obtain ⟨i1, i2, i3, i4, i5, i6, i7, i8⟩ := I
  refine kk ad ls H locs ⟨i1, ?_, ?_, i4, i5, ?_, i7, i8⟩
  · intro k q hk
    have hkl : k < b.2.1 := by
      have := (List.getElem?_eq_some_iff.mp hk).1
      rw [j_w_len] at this
      exact this
    rw [j_w_get (h := HH b Y M1) hkl] at hk
    cases hk
    exact hx H k hkl (i2 k _ (j_w_get (h := HH b Y M) hkl))
  · have same : ∀ (k : Nat) (q : Nat × va_E), (j_w tyc ad (HH b Y M1))[k]? = some q → ∃ q0, (j_w tyc ad (HH b Y M))[k]? = some q0 ∧ q0.1 = q.1 := by
      intro k q hk
      have hkl : k < b.2.1 := by
        have := (List.getElem?_eq_some_iff.mp hk).1
        rw [j_w_len] at this
        exact this
      rw [j_w_get (h := HH b Y M1) hkl] at hk
      cases hk
      exact ⟨_, j_w_get (h := HH b Y M) hkl, rfl⟩
    refine ⟨fun i j u v hi hj huv => ?_, fun k q hk => ?_⟩
    · obtain ⟨u0, a1, a2⟩ := same i u hi
      obtain ⟨v0, b1, b2⟩ := same j v hj
      exact i3.1 i j u0 v0 a1 b1 (a2.trans (huv.trans b2.symm))
    · obtain ⟨q0, a1, a2⟩ := same k q hk
      rw [← a2]
      exact i3.2 k q0 a1
  · intro i hi j k hk
    refine i6 i hi j k ?_
    have hk : hF b Y M1 i j = .ref k := hk
    show hF b Y M i j = .ref k
    unfold hF at hk ⊢
    split at hk
    · cases hk
    · split at hk
      · cases hk
      · split at hk
        · rw [if_neg (by assumption), if_neg (by assumption), if_pos (by assumption)]
          exact hk
        · rw [if_neg (by assumption), if_neg (by assumption), if_neg (by assumption)]
          split at hk
          · exact hk
          · cases hk
variable {d1 mc1 ms1 maxL idx n : Nat} {y : MethodName} {bytes : ByteArray} {ret : Option FieldType} {as st0 : List Value} {i : Nat} {M1 : MM}
theorem j2_callVi (x : j_X p l s m args meth c D tyc A own cc nL) (hb : 94 ≤ b.2.1) {v : Int32} {ci : Nat} {q : vw_C} {ty : Nat → FieldType} (hd : decode cc pc = .ok (.invokevirtual idx, 3)) (hm : j_mV y bytes maxL ret n) (hcon : CM d1 mc1 ms1 y bytes maxL ret (.ref i :: as) b Y M (.inl (some (.int v))) M1) (hw : Cond.methodLink own idx y ∈ j_all) (hq : j_cls ci q ty) (hqy : q.1 = y.cls) (hi : fT i ci = true) (hn : as.length = n) (hst : st.length ≤ 4) (hfit : j_fit R d1 mc1 ms1 cells slots) (h0 : st0 = as.reverse ++ .ref i :: st) (kk : JJ p l e R s m args below meth c D tyc A n0 ad0 nL Q (pc + 3) (L) (.int v :: st) (HH b Y (M1)) (cells + mc1) (slots + ms1)) : JJ p l e R s m args below meth c D tyc A n0 ad0 nL Q (pc) (L) (st0) (HH b Y (M)) (cells) (slots) := by
  simp only [fT, Bool.and_eq_true, decide_eq_true_eq, beq_iff_eq] at hi
  refine j_callV x hd hcon hm hw hq hqy (show i < b.2.1 by omega) hi.2 hn hst hfit h0 jres_no fun v1 h1 hq1 => ?_
  obtain ⟨e1, rfl⟩ := hq1
  cases e1
  exact kk
theorem j2_callSi (x : j_X p l s m args meth c D tyc A own cc nL) (hb : 94 ≤ b.2.1) {v : Int32} (hd : decode cc pc = .ok (.invokestatic idx, 3)) (hm : j_mS y bytes maxL ret n) (hcon : CM d1 mc1 ms1 y bytes maxL ret as b Y M (.inl (some (.int v))) M1) (hw : Cond.methodLink own idx y ∈ j_all) (hn : as.length = n) (hst : st.length ≤ 4) (hfit : j_fit R d1 mc1 ms1 cells slots) (h0 : st0 = as.reverse ++ st) (kk : JJ p l e R s m args below meth c D tyc A n0 ad0 nL Q (pc + 3) (L) (.int v :: st) (HH b Y (M1)) (cells + mc1) (slots + ms1)) : JJ p l e R s m args below meth c D tyc A n0 ad0 nL Q (pc) (L) (st0) (HH b Y (M)) (cells) (slots) := by
  refine j_callS x hd hcon hm hw hn hst hfit h0 jres_no fun v1 h1 hq1 => ?_
  obtain ⟨e1, rfl⟩ := hq1
  cases e1
  exact kk
theorem j2_callSNi (x : j_X p l s m args meth c D tyc A own cc nL) (hb : 94 ≤ b.2.1) {v : Int32} (hd : decode cc pc = .ok (.invokestatic idx, 3)) (hm : j_mS y bytes maxL ret n) (hcon : CM d1 mc1 ms1 y bytes maxL ret as b Y M (.inl (some (.int v))) M1) {host : String} (hw : Cond.methodLinkNest own idx y host ∈ j_nw) (hn : as.length = n) (hst : st.length ≤ 4) (hfit : j_fit R d1 mc1 ms1 cells slots) (h0 : st0 = as.reverse ++ st) (kk : JJ p l e R s m args below meth c D tyc A n0 ad0 nL Q (pc + 3) (L) (.int v :: st) (HH b Y (M1)) (cells + mc1) (slots + ms1)) : JJ p l e R s m args below meth c D tyc A n0 ad0 nL Q (pc) (L) (st0) (HH b Y (M)) (cells) (slots) := by
  refine j_callSN x hd hcon hm hw hn hst hfit h0 jres_no fun v1 h1 hq1 => ?_
  obtain ⟨e1, rfl⟩ := hq1
  cases e1
  exact kk
theorem j2_callVv (x : j_X p l s m args meth c D tyc A own cc nL) (hb : 94 ≤ b.2.1)  {ci : Nat} {q : vw_C} {ty : Nat → FieldType} (hd : decode cc pc = .ok (.invokevirtual idx, 3)) (hm : j_mV y bytes maxL ret n) (hcon : CM d1 mc1 ms1 y bytes maxL ret (.ref i :: as) b Y M (.inl (none)) M1) (hw : Cond.methodLink own idx y ∈ j_all) (hq : j_cls ci q ty) (hqy : q.1 = y.cls) (hi : fT i ci = true) (hn : as.length = n) (hst : st.length ≤ 4) (hfit : j_fit R d1 mc1 ms1 cells slots) (h0 : st0 = as.reverse ++ .ref i :: st) (kk : JJ p l e R s m args below meth c D tyc A n0 ad0 nL Q (pc + 3) (L) (st) (HH b Y (M1)) (cells + mc1) (slots + ms1)) : JJ p l e R s m args below meth c D tyc A n0 ad0 nL Q (pc) (L) (st0) (HH b Y (M)) (cells) (slots) := by
  simp only [fT, Bool.and_eq_true, decide_eq_true_eq, beq_iff_eq] at hi
  refine j_callV x hd hcon hm hw hq hqy (show i < b.2.1 by omega) hi.2 hn hst hfit h0 jres_no fun v1 h1 hq1 => ?_
  obtain ⟨e1, rfl⟩ := hq1
  cases e1
  exact kk
theorem j2_callSv (x : j_X p l s m args meth c D tyc A own cc nL) (hb : 94 ≤ b.2.1)  (hd : decode cc pc = .ok (.invokestatic idx, 3)) (hm : j_mS y bytes maxL ret n) (hcon : CM d1 mc1 ms1 y bytes maxL ret as b Y M (.inl (none)) M1) (hw : Cond.methodLink own idx y ∈ j_all) (hn : as.length = n) (hst : st.length ≤ 4) (hfit : j_fit R d1 mc1 ms1 cells slots) (h0 : st0 = as.reverse ++ st) (kk : JJ p l e R s m args below meth c D tyc A n0 ad0 nL Q (pc + 3) (L) (st) (HH b Y (M1)) (cells + mc1) (slots + ms1)) : JJ p l e R s m args below meth c D tyc A n0 ad0 nL Q (pc) (L) (st0) (HH b Y (M)) (cells) (slots) := by
  refine j_callS x hd hcon hm hw hn hst hfit h0 jres_no fun v1 h1 hq1 => ?_
  obtain ⟨e1, rfl⟩ := hq1
  cases e1
  exact kk
theorem j2_callSNv (x : j_X p l s m args meth c D tyc A own cc nL) (hb : 94 ≤ b.2.1)  (hd : decode cc pc = .ok (.invokestatic idx, 3)) (hm : j_mS y bytes maxL ret n) (hcon : CM d1 mc1 ms1 y bytes maxL ret as b Y M (.inl (none)) M1) {host : String} (hw : Cond.methodLinkNest own idx y host ∈ j_nw) (hn : as.length = n) (hst : st.length ≤ 4) (hfit : j_fit R d1 mc1 ms1 cells slots) (h0 : st0 = as.reverse ++ st) (kk : JJ p l e R s m args below meth c D tyc A n0 ad0 nL Q (pc + 3) (L) (st) (HH b Y (M1)) (cells + mc1) (slots + ms1)) : JJ p l e R s m args below meth c D tyc A n0 ad0 nL Q (pc) (L) (st0) (HH b Y (M)) (cells) (slots) := by
  refine j_callSN x hd hcon hm hw hn hst hfit h0 jres_no fun v1 h1 hq1 => ?_
  obtain ⟨e1, rfl⟩ := hq1
  cases e1
  exact kk
theorem j2_callVr (x : j_X p l s m args meth c D tyc A own cc nL) (hb : 94 ≤ b.2.1) {r : Nat} {ci : Nat} {q : vw_C} {ty : Nat → FieldType} (hd : decode cc pc = .ok (.invokevirtual idx, 3)) (hm : j_mV y bytes maxL ret n) (hcon : CM d1 mc1 ms1 y bytes maxL ret (.ref i :: as) b Y M (.inl (some (.ref r))) M1) (hw : Cond.methodLink own idx y ∈ j_all) (hq : j_cls ci q ty) (hqy : q.1 = y.cls) (hi : fT i ci = true) (hn : as.length = n) (hst : st.length ≤ 4) (hfit : j_fit R d1 mc1 ms1 cells slots) (h0 : st0 = as.reverse ++ .ref i :: st) (kk : JJ p l e R s m args below meth c D tyc A n0 ad0 nL Q (pc + 3) (L) (.ref r :: st) (HH b Y (M1)) (cells + mc1) (slots + ms1)) : JJ p l e R s m args below meth c D tyc A n0 ad0 nL Q (pc) (L) (st0) (HH b Y (M)) (cells) (slots) := by
  simp only [fT, Bool.and_eq_true, decide_eq_true_eq, beq_iff_eq] at hi
  refine j_callV x hd hcon hm hw hq hqy (show i < b.2.1 by omega) hi.2 hn hst hfit h0 jres_no fun v1 h1 hq1 => ?_
  obtain ⟨e1, rfl⟩ := hq1
  cases e1
  exact kk
theorem j2_callSr (x : j_X p l s m args meth c D tyc A own cc nL) (hb : 94 ≤ b.2.1) {r : Nat} (hd : decode cc pc = .ok (.invokestatic idx, 3)) (hm : j_mS y bytes maxL ret n) (hcon : CM d1 mc1 ms1 y bytes maxL ret as b Y M (.inl (some (.ref r))) M1) (hw : Cond.methodLink own idx y ∈ j_all) (hn : as.length = n) (hst : st.length ≤ 4) (hfit : j_fit R d1 mc1 ms1 cells slots) (h0 : st0 = as.reverse ++ st) (kk : JJ p l e R s m args below meth c D tyc A n0 ad0 nL Q (pc + 3) (L) (.ref r :: st) (HH b Y (M1)) (cells + mc1) (slots + ms1)) : JJ p l e R s m args below meth c D tyc A n0 ad0 nL Q (pc) (L) (st0) (HH b Y (M)) (cells) (slots) := by
  refine j_callS x hd hcon hm hw hn hst hfit h0 jres_no fun v1 h1 hq1 => ?_
  obtain ⟨e1, rfl⟩ := hq1
  cases e1
  exact kk
theorem j2_callSNr (x : j_X p l s m args meth c D tyc A own cc nL) (hb : 94 ≤ b.2.1) {r : Nat} (hd : decode cc pc = .ok (.invokestatic idx, 3)) (hm : j_mS y bytes maxL ret n) (hcon : CM d1 mc1 ms1 y bytes maxL ret as b Y M (.inl (some (.ref r))) M1) {host : String} (hw : Cond.methodLinkNest own idx y host ∈ j_nw) (hn : as.length = n) (hst : st.length ≤ 4) (hfit : j_fit R d1 mc1 ms1 cells slots) (h0 : st0 = as.reverse ++ st) (kk : JJ p l e R s m args below meth c D tyc A n0 ad0 nL Q (pc + 3) (L) (.ref r :: st) (HH b Y (M1)) (cells + mc1) (slots + ms1)) : JJ p l e R s m args below meth c D tyc A n0 ad0 nL Q (pc) (L) (st0) (HH b Y (M)) (cells) (slots) := by
  refine j_callSN x hd hcon hm hw hn hst hfit h0 jres_no fun v1 h1 hq1 => ?_
  obtain ⟨e1, rfl⟩ := hq1
  cases e1
  exact kk
end J2
