/-! ===== the reference as numbers (no cells of its own here) ===== -/
def jof (M : MM) (m w : Nat) : Int32 := M 95 (18 + 8 * m + w)
def jsets (M : MM) (m w : Nat) (v : Int32) : MM := jm M 95 (18 + 8 * m + w) v
def jhow (M : MM) (m : Nat) : Int32 := if jof M m 4 = 1 then 1 else 2 * jof M m 5
def gLeft (M : MM) (m : Nat) : Int32 := jb (jof M m 2 = M 95 2 ∧ ¬ jof M m 4 = 1)
def gGr (M : MM) (m : Nat) : Int32 := M 95 (10 + (jof M m 0).toNatClampNeg)
def gCl (M : MM) (q : Nat) (w : Int32) (m : Nat) : Int32 := jb (¬ m = q ∧ jof M m 2 = w ∧ gGr M m = gGr M q)
def gPair (M : MM) (n : Nat) (w : Int32) (m : Nat) : Int32 := if jof M m 2 = w then jsum (gCl M m w) n else 0
def gpairs (M : MM) (n : Nat) (w : Int32) : Int32 := jsum (gPair M n w) n / 2
def fHas (M : MM) (t : Int32) (k : Nat) (s : Int32) (m : Nat) : Int32 :=
  if ¬ jof M m 0 = t ∧ ¬ jof M m 1 = t then 0
  else if (s >>> ((if jof M m 0 = t then jof M m 1 else jof M m 0) &&& 31)) &&& 1 = 0 then 0
  else if ¬ jof M m 4 = 1 then (if k = 8 then 1 else 0)
  else if k = 1 then (if ¬ (if jof M m 0 = t then jof M m 6 else jof M m 7) ≤ (if jof M m 0 = t then jof M m 7 else jof M m 6) then M 95 3 else if (if jof M m 0 = t then jof M m 6 else jof M m 7) = (if jof M m 0 = t then jof M m 7 else jof M m 6) then M 95 4 else 0)
  else if k = 2 then jb (¬ (if jof M m 0 = t then jof M m 6 else jof M m 7) ≤ (if jof M m 0 = t then jof M m 7 else jof M m 6))
  else if k = 3 then jb ((if jof M m 0 = t then jof M m 6 else jof M m 7) = (if jof M m 0 = t then jof M m 7 else jof M m 6))
  else if k = 4 then jb (¬ (if jof M m 0 = t then jof M m 7 else jof M m 6) ≤ (if jof M m 0 = t then jof M m 6 else jof M m 7))
  else if k = 5 then (if jof M m 0 = t then jof M m 6 else jof M m 7)
  else if k = 6 then (if jof M m 0 = t then jof M m 7 else jof M m 6)
  else if k = 7 then (if jof M m 0 = t then 0 else jof M m 7)
  else 0
def gH (M : MM) (n : Nat) (t : Int32) (k : Nat) : Int32 := jsum (fHas M t k (-1)) n
def gTied (M : MM) (n : Nat) (t : Int32) : Nat → Int32
  | 0 => 0
  | i + 1 => if gH M n (nI i) 1 = gH M n t 1 then gTied M n t i ||| (1 <<< (nI i &&& 31)) else gTied M n t i
def gRule (M : MM) (n w : Nat) (t r : Int32) : Int32 := if r = 0 then gH M n t 5 - gH M n t 6 else if r = 1 then gH M n t 5 else if r = 2 then gH M n t 2 else if r = 3 then jsum (fHas M t 1 (gTied M n t w)) n else gH M n t 7
def gLead (M : MM) (n w : Nat) (u v : Int32) : Nat → Int32
  | 0 => gH M n u 1 - gH M n v 1
  | i + 1 => if gLead M n w u v i = 0 then gRule M n w u (M 95 (6 + i)) - gRule M n w v (M 95 (6 + i)) else gLead M n w u v i
theorem gLead_keep {M : MM} {n w : Nat} {u v : Int32} {i : Nat} (h : ¬ gLead M n w u v i = 0) : ∀ {r : Nat}, i ≤ r → gLead M n w u v r = gLead M n w u v i
  | 0, h1 => by rw [show i = 0 by omega]
  | r + 1, h1 => by
    by_cases hr : i = r + 1
    · rw [hr]
    · have h2 := gLead_keep h (r := r) (by omega)
      rw [gLead, h2, if_neg h]
def gAh (M : MM) (n w r : Nat) (u v : Int32) : Int32 := if gLead M n w u v r = 0 then jb (¬ v ≤ u) else jb (¬ gLead M n w u v r ≤ 0)
def fgPl (M : MM) (n w r : Nat) (t : Int32) (i : Nat) : Int32 := if nI i = t then 0 else if gAh M n w r (nI i) t = 0 then 0 else 1
def gMost (M : MM) (n : Nat) (t : Int32) : Int32 := gH M n t 1 + M 95 3 * gH M n t 8
def fgS (M : MM) (n : Nat) (t : Int32) (i : Nat) : Int32 := jb (¬ nI i = t ∧ ¬ gMost M n (nI i) < gH M n t 1)
def fgO (M : MM) (n : Nat) (t : Int32) (i : Nat) : Int32 := jb (¬ nI i = t ∧ ¬ gH M n (nI i) 1 ≤ gMost M n t)
def gno (q : Option (Int32 × Int32)) : Int32 := match q with
  | some _ => 0
  | none => 1
def gst (M : MM) (q : Option (Int32 × Int32)) (S : MM) : MM := match q with
  | some z => jrefu M z.1 z.2
  | none => S
theorem gno_nar {q : Option (Int32 × Int32)} : narrow .boolean (.int (gno q)) = .int (gno q) := by
  cases q with
  | none => decide
  | some v => exact (show narrow .boolean (.int 0) = .int 0 by decide)
def gRes (M : MM) (q : Nat) (u v : Int32) : Option (Int32 × Int32) := if ¬ ((¬ u < 0 ∧ ¬ 20 < u) ∧ (¬ v < 0 ∧ ¬ 20 < v)) then some (1, 0) else if jof M q 4 = 1 then some (8, 0) else if ¬ jof M q 2 = M 95 2 then some (7, jof M q 2) else none
def gResS (M : MM) (q : Nat) (u v : Int32) : MM := jsets (jsets (jsets M q 4 1) q 6 u) q 7 v
def gBack (M : MM) (q : Nat) : Option (Int32 × Int32) := if ¬ jof M q 4 = 1 then some (9, jhow M q) else if ¬ jof M q 2 = M 95 2 then some (7, jof M q 2) else none
def gBackS (M : MM) (q : Nat) : MM := jsets (jsets (jsets M q 4 0) q 6 0) q 7 0
def gPut (M : MM) (q : Nat) (u : Int32) : Option (Int32 × Int32) := if ¬ (¬ u < 1 ∧ ¬ 9 < u) then some (1, 0) else if jof M q 4 = 1 then some (8, 0) else if ¬ jof M q 2 = M 95 2 then some (7, jof M q 2) else if ¬ (¬ M 95 2 + u < 0 ∧ ¬ M 95 1 - 1 < M 95 2 + u) then some (10, M 95 2 + u) else none
def gPutS (M : MM) (q : Nat) (u : Int32) : MM := jsets (jsets M q 2 (M 95 2 + u)) q 5 1
def gNext (M : MM) (n : Nat) : Option (Int32 × Int32) := if ¬ jfst (gLeft M) n = -1 then some (11, jfst (gLeft M) n) else if M 95 2 = M 95 1 - 1 then some (14, M 95 2) else none
theorem jsets_n {M : MM} {m1 w1 i z : Nat} {v : Int32} (h : i ≠ 95 ∨ z < 18 ∨ z ≠ 18 + 8 * m1 + w1) : jsets M m1 w1 v i z = M i z := jm_n (by omega)
theorem jsets_of {M : MM} {m1 w1 m2 w2 : Nat} {v : Int32} (h : m1 ≠ m2 ∨ w1 ≠ w2) (h1 : w1 < 8) (h2 : w2 < 8) : jof (jsets M m1 w1 v) m2 w2 = jof M m2 w2 := by
  unfold jof
  exact jsets_n (by omega)
theorem jsets_s {M : MM} {m1 w1 : Nat} {v : Int32} : jof (jsets M m1 w1 v) m1 w1 = v := jm_s
def jkp8 (M : MM) : MM := jkp (jm (jcp M 97 466 97 0 3262) 94 3 (nI 7)) 7
def jkpg (M : MM) (k : Nat) : MM := if k < 8 then jkp M k else jkp8 M
def gTeam (M : MM) (t : Nat) (u : Int32) : MM := jm (jm (jtr M) 95 0 (nI (t + 1))) 95 (10 + t) u
def gGround (M : MM) (t : Nat) (u : Int32) : MM := jm (jtr M) 95 (10 + t) u
def gGive (M : MM) (t u : Int32) : MM := jm (jm (jtr M) 95 3 t) 95 4 u
theorem jx_ofW {l : Launch} {y : MethodName} {ws ws' : List Cond} {rm : Room} {Pc : Array Value → State → Prop} {Qc : Array Value → State → Outcome → State → Prop} {XC : String → State → State → Prop} {mc ms : Nat} {free : Addr → Prop} {cc : ByteArray} {maxL : Nat} {ret : Option FieldType}
    (hy : plainFor y = true) (hw : ws = Cond.code y cc maxL ret :: ws')
    (body : ∀ p e s m args below meth c s₁, BodyLoose p l y (headSpec ws rm) cc maxL ret e s m args below meth c s₁ → c.maxLocals = maxL → (∀ x ∈ c.exceptionTable.toList, False) → Pc args s →
      W p l e (headSpec ws rm).room s m args below meth c s.heap [] 0 0 (vx_MQ below Qc XC args s mc ms free) (entryFrame m args maxL)) : vx_Met l y ws rm Pc Qc XC mc ms free := by
  refine MetFree.of_bodySF (code := cc) (maxLocals := maxL) (ret := ret) hy ?_ ?_
  · intro args s m h hn
    obtain ⟨meth, c, h1, h2, h3, h4, h5, h6, -, -⟩ := Cond.code_spec hn (atoms_spec (ws := ws) h _ (by rw [hw]; exact List.mem_cons_self))
    exact ⟨meth, c, h1, h2, h3, h4, h5, h6⟩
  · intro p e s m args below meth c s₁ B hml hP _
    have hh0 : s₁.heap = s.heap := by rw [B.state]; rfl
    have ht : ∀ x ∈ c.exceptionTable.toList, False := by
      obtain ⟨meth9, c9, h1, h2, -, -, -, -, h7, -⟩ := Cond.code_spec B.named (atoms_spec (ws := ws) B.pre _ (by rw [hw]; exact List.mem_cons_self))
      cases Option.some.inj (h1.symm.trans B.method)
      cases Option.some.inj (h2.symm.trans (Stand.of_body B).code)
      intro x hx
      rw [Array.isEmpty_iff.mp h7] at hx
      cases hx
    obtain ⟨t, a1, o, b1, b2, b3⟩ := body p e s m args below meth c s₁ B hml ht hP s₁ hh0 (Stand.of_body B)
    exact ⟨t, o, a1, b1, b2, b3⟩
def gfm (v w : Int32) : Int32 := if ¬ 0 ≤ v ^^^ w ∧ ¬ v - v / w * w = 0 then v - v / w * w + w else v - v / w * w
def gpl (v : Int32) : Int32 := v + (v - v / 2 * 2)
def gRiv (p t w : Int32) : Int32 := if t = p - 1 then w else if t = w then p - 1 else gfm (2 * w - t) (p - 1)
def gHm (p t w : Int32) : Int32 := if t = p - 1 then jb (w - w / 2 * 2 = 1) else if t = w then jb (w - w / 2 * 2 = 0) else if p / 2 - 1 < gfm (t - w) (p - 1) then jb ((p - 1 - gfm (t - w) (p - 1)) - (p - 1 - gfm (t - w) (p - 1)) / 2 * 2 = 1) else jb (gfm (t - w) (p - 1) - gfm (t - w) (p - 1) / 2 * 2 = 0)
def gwk (p w : Int32) : Int32 := if jb (¬ p - 1 ≤ w) = 0 then w - p + 1 else w
def gP (t : Nat) : Nat := t + t % 2
def gother (t w j : Nat) : Int32 := gRiv (nI (gP t)) (nI j) (gwk (nI (gP t)) (nI w))
def gcond (t w j : Nat) : Prop := (¬ gother t w j < 0 ∧ ¬ nI t - 1 < gother t w j) ∧ gHm (nI (gP t)) (nI j) (gwk (nI (gP t)) (nI w)) = jb (¬ nI (gP t) - 1 ≤ nI w)
def gcondb (t w j : Nat) : Bool := (!decide (gother t w j < 0) && !decide (nI t - 1 < gother t w j)) && (gHm (nI (gP t)) (nI j) (gwk (nI (gP t)) (nI w)) == jb (¬ nI (gP t) - 1 ≤ nI w))
theorem gcond_b {t w j : Nat} : gcondb t w j = true ↔ gcond t w j := by
  unfold gcondb gcond
  simp only [Bool.and_eq_true, Bool.not_eq_true', decide_eq_false_iff_not, beq_iff_eq]
def gin (t w : Nat) : Nat → Nat
  | 0 => 0
  | j + 1 => gin t w j + (if gcondb t w j = true then 1 else 0)
def gbase (t : Nat) : Nat → Nat
  | 0 => 0
  | w + 1 => gbase t w + gin t w t
theorem gin_all : ((List.range 9).all fun t => (List.range (2 * (gP t - 1))).all fun w => (List.range 9).all fun j => decide (gbase t w + gin t w j ≤ 56)) = true := by decide +kernel
theorem gin_le {t w j : Nat} (ht : t ≤ 8) (hw : w < 2 * (gP t - 1)) (hj : j ≤ 8) : gbase t w + gin t w j ≤ 56 :=
  of_decide_eq_true (List.all_eq_true.mp (List.all_eq_true.mp (List.all_eq_true.mp gin_all t (List.mem_range.mpr (by omega))) w (List.mem_range.mpr hw)) j (List.mem_range.mpr (by omega)))
theorem gin_y {t w j : Nat} (h : gcond t w j) : gin t w (j + 1) = gin t w j + 1 := by rw [gin, if_pos (gcond_b.mpr h)]
theorem gin_n {t w j : Nat} (h : ¬ gcond t w j) : gin t w (j + 1) = gin t w j := by rw [gin, if_neg (fun q => h (gcond_b.mp q)), Nat.add_zero]
def gz (N : MM) (c : Nat) : Nat → MM
  | 0 => N
  | k + 1 => jsets (gz N c k) c k 0
def gadd (N : MM) (c t w j : Nat) : MM := jsets (jsets (jsets (jsets (gz (jm N 95 9 (nI (c + 1))) c 8) c 0 (nI j)) c 1 (gother t w j)) c 2 (nI w)) c 3 (nI w)
def gdj (N : MM) (t w : Nat) : Nat → MM
  | 0 => N
  | j + 1 => if gcondb t w j = true then gadd (gdj N t w j) (gbase t w + gin t w j) t w j else gdj N t w j
def gdw (N : MM) (t : Nat) : Nat → MM
  | 0 => jm N 95 1 (nI (2 * (gP t - 1)))
  | w + 1 => gdj (gdw N t w) t w t
theorem gz_n {N : MM} {c i z : Nat} (h : i ≠ 95 ∨ z < 18) : ∀ k, gz N c k i z = N i z
  | 0 => rfl
  | k + 1 => by rw [gz, jsets_n (by omega)]; exact gz_n h k
theorem gadd_n {N : MM} {c t w j i z : Nat} (h : i ≠ 95 ∨ (z < 18 ∧ z ≠ 9)) : gadd N c t w j i z = N i z := by
  unfold gadd
  rw [jsets_n (by omega), jsets_n (by omega), jsets_n (by omega), jsets_n (by omega), gz_n (by omega), jm_n (by omega)]
theorem gadd_9 {N : MM} {c t w j : Nat} : gadd N c t w j 95 9 = nI (c + 1) := by
  unfold gadd
  rw [jsets_n (by omega), jsets_n (by omega), jsets_n (by omega), jsets_n (by omega), gz_n (by omega), jm_s]
theorem gdj_n {N : MM} {t w i z : Nat} (h : i ≠ 95 ∨ (z < 18 ∧ z ≠ 9)) : ∀ j, gdj N t w j i z = N i z
  | 0 => rfl
  | j + 1 => by
    rw [gdj]
    split
    · rw [gadd_n h]; exact gdj_n h j
    · exact gdj_n h j
theorem gdj_9 {N : MM} {t w : Nat} (h : N 95 9 = nI (gbase t w)) : ∀ j, gdj N t w j 95 9 = nI (gbase t w + gin t w j)
  | 0 => h
  | j + 1 => by
    rw [gdj, gin]
    split
    · rw [gadd_9]; rfl
    · exact gdj_9 h j
theorem gdw_n {N : MM} {t i z : Nat} (h : i ≠ 95 ∨ (z < 18 ∧ z ≠ 9 ∧ z ≠ 1)) : ∀ w, gdw N t w i z = N i z
  | 0 => jm_n (by omega)
  | w + 1 => by rw [gdw, gdj_n (by omega)]; exact gdw_n h w
theorem gdw_1 {N : MM} {t : Nat} : ∀ w, gdw N t w 95 1 = nI (2 * (gP t - 1))
  | 0 => jm_s
  | w + 1 => by rw [gdw, gdj_n (by omega)]; exact gdw_1 w
theorem gdw_9 {N : MM} {t : Nat} (h : N 95 9 = 0) : ∀ w, gdw N t w 95 9 = nI (gbase t w)
  | 0 => by rw [gdw, jm_n (by omega), h]; rfl
  | w + 1 => by rw [gdw]; exact gdj_9 (gdw_9 h w) t
theorem gpl_all : ((List.range 9).all fun t => decide (gpl (nI t) = nI (gP t))) = true := by decide +kernel
theorem gpl_nI {t : Nat} (ht : t ≤ 8) : gpl (nI t) = nI (gP t) := of_decide_eq_true (List.all_eq_true.mp gpl_all t (List.mem_range.mpr (by omega)))
theorem gP_le {t : Nat} (h2 : 2 ≤ t) (ht : t ≤ 8) : 2 ≤ gP t ∧ gP t ≤ 8 := by unfold gP; omega
def gUndo (M : MM) (k : Nat) : MM := jcp (jm (jm M 94 19 0) 94 3 (nI k)) 97 (466 * k) 95 0 466
def gRest (M : MM) : MM := jm (jcp (jm M 94 19 0) 98 0 95 0 466) 94 3 0
def gBet (M : MM) (u v : Int32) (m : Nat) : Int32 := jb (jof M m 0 = u ∧ jof M m 1 = v)
def gIn (M : MM) (t : Int32) (m : Nat) : Int32 := jb (jof M m 2 = t)
def gfree (M : MM) (n z q0 q : Nat) : Int32 := if jfst (fun i => jb (jsum (gCl (jm M 94 19 0) q (nI (q0 + 1 + i))) n = 0)) (z - (q0 + 1)) = -1 then -1 else nI (q0 + 1) + jfst (fun i => jb (jsum (gCl (jm M 94 19 0) q (nI (q0 + 1 + i))) n = 0)) (z - (q0 + 1))
def fRank (M : MM) (n w r : Nat) (t : Int32) (i : Nat) : Int32 := jb (jsum (fgPl M n w r (nI i)) w = t)
def gRun (M : MM) (t : Int32) : Nat → Int32 × Int32
  | 0 => (0, 0)
  | m + 1 => if ¬ jof M m 4 = 1 then gRun M t m else if ¬ (jof M m 0 = t ∨ jof M m 1 = t) then gRun M t m else
    let g : Int32 := if (if jof M m 0 = t then jb (¬ 0 ≤ jof M m 6 - jof M m 7) else jb (¬ jof M m 6 - jof M m 7 ≤ 0)) = 0 then (gRun M t m).2 + 1 else 0
    ((if (gRun M t m).1 < g then g else (gRun M t m).1), g)
def gGoals (M : MM) (m : Nat) : Int32 := if jof M m 4 = 1 then jof M m 6 + jof M m 7 else 0
def gPutC (M : MM) (m : Nat) : Int32 := jb (jhow M m = 2)
def gN0 (M : MM) (k : Nat) : MM := jm M 101 k 0
def gN1 (M : MM) (k a : Nat) : MM := jm (jm (gN0 M k) 94 10 ((gN0 M k) 94 10 + 1)) 101 k (10 * (gN0 M k) 101 k + M 100 a - 48)
abbrev isD (lo hi v : Int32) : Prop := ¬ v < lo ∧ ¬ hi < v
theorem gN0_at {M : MM} {k : Nat} : gN0 M k 94 10 = M 94 10 := jm_n (by omega)
theorem gN0_len {M : MM} {k : Nat} : gN0 M k 94 9 = M 94 9 := jm_n (by omega)
theorem gN0_tx {M : MM} {k a : Nat} : gN0 M k 100 a = M 100 a := jm_n (by omega)
theorem gN1_at {M : MM} {k a c1 : Nat} (hat : M 94 10 = nI c1) : gN1 M k a 94 10 = nI (c1 + 1) := by unfold gN1; rw [jm_n (by omega), jm_s, gN0_at, hat, nI_1]
theorem gN1_len {M : MM} {k a : Nat} : gN1 M k a 94 9 = M 94 9 := by unfold gN1; rw [jm_n (by omega), jm_n (by omega), gN0_len]
theorem gN1_tx {M : MM} {k a c1 : Nat} : gN1 M k a 100 c1 = M 100 c1 := by unfold gN1; rw [jm_n (by omega), jm_n (by omega), gN0_tx]
def gN2 (M : MM) (k a : Nat) : MM := jm (jm (gN1 M k a) 94 10 ((gN1 M k a) 94 10 + 1)) 101 k (10 * (gN1 M k a) 101 k + M 100 (a + 1) - 48)
def gDa (M : MM) (n a : Nat) : Nat → Nat
  | 0 => a
  | j + 1 => if gDa M n a j < n ∧ isD 48 52 (M 100 (gDa M n a j)) then gDa M n a j + 1 else gDa M n a j
def gDs (M : MM) (n a : Nat) : Nat → MM
  | 0 => M
  | j + 1 => if gDa M n a j < n ∧ isD 48 52 (M 100 (gDa M n a j)) then jm (jm (gDs M n a j) 94 10 ((gDs M n a j) 94 10 + 1)) 101 j (M 100 (gDa M n a j) - 48) else jm (gDs M n a j) 101 j (-1)
theorem gDa_le {M : MM} {n a : Nat} (ha : a ≤ n) : ∀ j, gDa M n a j ≤ n
  | 0 => ha
  | j + 1 => by have h := gDa_le (M := M) ha j; rw [gDa]; split <;> omega
theorem gDs_at {M : MM} {n a : Nat} (hat : M 94 10 = nI a) : ∀ j, gDs M n a j 94 10 = nI (gDa M n a j)
  | 0 => hat
  | j + 1 => by
    have h := gDs_at (n := n) hat j
    rw [gDs, gDa]; split
    · rw [jm_n (by omega), jm_s, h, nI_1]
    · rw [jm_n (by omega), h]
theorem gDs_len {M : MM} {n a : Nat} : ∀ j, gDs M n a j 94 9 = M 94 9
  | 0 => rfl
  | j + 1 => by
    have h := gDs_len (M := M) (n := n) (a := a) j
    rw [gDs]; split
    · rw [jm_n (by omega), jm_n (by omega), h]
    · rw [jm_n (by omega), h]
theorem gDs_tx {M : MM} {n a i : Nat} : ∀ j, gDs M n a j 100 i = M 100 i
  | 0 => rfl
  | j + 1 => by
    have h := gDs_tx (M := M) (n := n) (a := a) (i := i) j
    rw [gDs]; split
    · rw [jm_n (by omega), jm_n (by omega), h]
    · rw [jm_n (by omega), h]
def gW (M : MM) (q v : Nat) : MM := jm (jm M 94 7 (nI (q + 1))) 99 q (nI (48 + v % 10))
def gHw (M : MM) (m : Nat) : Int32 := jb (jof M m 4 = 1 ∧ ¬ jof M m 6 ≤ jof M m 7)
theorem i32_48 {v : Int32} {q : Nat} (hq : q < 100) : (¬ v < 48 ∧ ¬ nI (48 + q) < v) ↔ (¬ v - 48 < 0 ∧ ¬ nI q < v - 48) := by
  have h1 := Int32.le_toInt v
  have h2 := Int32.toInt_lt v
  have h3 : (v - 48).toInt = (v.toInt - 48).bmod (2 ^ 32) := Int32.toInt_sub v 48
  rw [Int32.lt_iff_toInt_lt, Int32.lt_iff_toInt_lt, Int32.lt_iff_toInt_lt, Int32.lt_iff_toInt_lt, h3, nI_toInt (by omega), nI_toInt (by omega), show (48 : Int32).toInt = 48 from rfl, Int32.toInt_zero]
  rw [Int.bmod_def]
  split <;> omega
theorem isD_9 {T : Nat → Int32} {n a : Nat} (ha : a < n) : isD 48 57 (T a) ↔ tdc T n a 9 := by
  have h := i32_48 (v := T a) (q := 9) (by decide)
  unfold tdc tsg
  rw [if_pos ha]
  exact h
theorem isD_4 {T : Nat → Int32} {n a : Nat} (ha : a < n) : isD 48 52 (T a) ↔ tdc T n a 4 := by
  have h := i32_48 (v := T a) (q := 4) (by decide)
  unfold tdc tsg
  rw [if_pos ha]
  exact h
theorem tdg_v {T : Nat → Int32} {n a q : Nat} (hq : q < 100) (h : tdc T n a (nI q)) : ∃ r, r ≤ q ∧ tsg T n a - 48 = nI r := nI_of2 (nI_toInt (by omega)) h.1 (Int32.not_lt.mp h.2)
theorem tnv_9 {T : Nat → Int32} {n a : Nat} (h : tdc T n a 9) : ¬ tnv T n a = -1 := by
  obtain ⟨r, h1, h2⟩ := tdg_v (q := 9) (by decide) h
  have h0 : tdg T n a 9 = nI r := by rw [tdg, if_pos h, h2]
  unfold tnv
  rw [h0, if_neg (nI_nm1 (by omega))]
  split
  · exact nI_nm1 (by omega)
  · obtain ⟨s, h3, h4⟩ := tdg_v (q := 9) (by decide) (tdg_c (by assumption : ¬ tdg T n (a + 1) 9 = -1))
    have h5 : tdg T n (a + 1) 9 = nI s := by rw [tdg, if_pos (tdg_c (by assumption)), h4]
    rw [h5, show (10 : Int32) * nI r = nI (10 * r) from nI_mul 10 r, nI_add]
    exact nI_nm1 (by omega)
def gNm (M : MM) (n k a : Nat) : MM := jm (jm M 94 10 (nI (tna (M 100) n a))) 101 k (if tnv (M 100) n a = -1 then 0 else tnv (M 100) n a)
theorem jm_sw {M : MM} {i k i2 k2 : Nat} {v w : Int32} (h : ¬ (i = i2 ∧ k = k2)) : jm (jm M i k v) i2 k2 w = jm (jm M i2 k2 w) i k v := funext fun a => funext fun c => by
  by_cases h1 : a = i ∧ c = k
  · obtain ⟨rfl, rfl⟩ := h1
    rw [jm_n h, jm_s, jm_s]
  · by_cases h2 : a = i2 ∧ c = k2
    · obtain ⟨rfl, rfl⟩ := h2
      rw [jm_s, jm_n h1, jm_s]
    · rw [jm_n h2, jm_n h1, jm_n h1, jm_n h2]
def gD3 (M : MM) (n a : Nat) : MM := jm (jm (jm (jm M 94 10 (nI (tda (M 100) n (tda (M 100) n (tda (M 100) n a 4) 4) 4))) 101 0 (tdg (M 100) n a 4)) 101 1 (tdg (M 100) n (tda (M 100) n a 4) 4)) 101 2 (tdg (M 100) n (tda (M 100) n (tda (M 100) n a 4) 4) 4)
theorem gDa_s {M : MM} {n a j : Nat} : gDa M n a (j + 1) = tda (M 100) n (gDa M n a j) 4 := by
  rw [gDa, tda]
  by_cases h : tdc (M 100) n (gDa M n a j) 4
  · rw [if_pos h, if_pos ⟨tdc_lt h, (isD_4 (tdc_lt h)).mpr h⟩]
  · rw [if_neg h, if_neg (fun q => h ((isD_4 q.1).mp q.2))]
theorem gDs_s {M : MM} {n a j : Nat} (hat : M 94 10 = nI a) : gDs M n a (j + 1) = jm (jm (gDs M n a j) 94 10 (nI (gDa M n a (j + 1)))) 101 j (tdg (M 100) n (gDa M n a j) 4) := by
  rw [gDs, gDa, tdg]
  by_cases h : tdc (M 100) n (gDa M n a j) 4
  · rw [if_pos h, if_pos ⟨tdc_lt h, (isD_4 (tdc_lt h)).mpr h⟩, if_pos ⟨tdc_lt h, (isD_4 (tdc_lt h)).mpr h⟩, gDs_at hat, nI_1, tsg, if_pos (tdc_lt h)]
  · rw [if_neg h, if_neg (fun q => h ((isD_4 q.1).mp q.2)), if_neg (fun q => h ((isD_4 q.1).mp q.2)), jm_id (gDs_at hat j)]
theorem gDs_3 {M : MM} {n a : Nat} (hat : M 94 10 = nI a) : gDs M n a 3 = gD3 M n a := by
  have e1 : gDa M n a 1 = tda (M 100) n a 4 := gDa_s
  have e2 : gDa M n a 2 = tda (M 100) n (tda (M 100) n a 4) 4 := by rw [← e1]; exact gDa_s (j := 1)
  have e3 : gDa M n a 3 = tda (M 100) n (tda (M 100) n (tda (M 100) n a 4) 4) 4 := by rw [← e2]; exact gDa_s (j := 2)
  have s1 : gDs M n a 1 = jm (jm M 94 10 (nI (gDa M n a 1))) 101 0 (tdg (M 100) n a 4) := gDs_s (j := 0) hat
  have s2 : gDs M n a 2 = jm (jm (gDs M n a 1) 94 10 (nI (gDa M n a 2))) 101 1 (tdg (M 100) n (gDa M n a 1) 4) := gDs_s (j := 1) hat
  have s3 : gDs M n a 3 = jm (jm (gDs M n a 2) 94 10 (nI (gDa M n a 3))) 101 2 (tdg (M 100) n (gDa M n a 2) 4) := gDs_s (j := 2) hat
  rw [s3, s2, s1, e3, e2, e1, jm_sw (M := jm M 94 10 _) (i := 101) (k := 0) (i2 := 94) (by omega), jm_jm, jm_sw (M := jm (jm M 94 10 _) 101 0 _) (i := 101) (k := 1) (i2 := 94) (by omega), jm_sw (M := jm M 94 10 _) (i := 101) (k := 0) (i2 := 94) (by omega), jm_jm]
  rfl
def gcm (M : MM) (n a : Nat) : MM := jm (jm (jm (jm (jm M 94 10 (nI (pN (M 100) n a))) 94 11 (tsg (M 100) n a)) 101 0 (if tsg (M 100) n a = 110 then M 101 0 else p1 (M 100) n a)) 101 1 (if tsg (M 100) n a = 110 ∨ tsg (M 100) n a = 98 then M 101 1 else p2 (M 100) n a)) 101 2 (if tsg (M 100) n a = 109 ∨ tsg (M 100) n a = 116 then p3 (M 100) n a else M 101 2)
def gLike (M N : MM) : Prop := ∀ i k, ¬ (i = 94 ∧ (k = 10 ∨ k = 11)) → i ≠ 101 → N i k = M i k
theorem gcm_like {M : MM} {n a : Nat} : gLike M (gcm M n a) := fun i k h1 h2 => by
  rw [gcm, jm_n (by omega), jm_n (by omega), jm_n (by omega), jm_n (by omega), jm_n (by omega)]
theorem gcm_t {M : MM} {n a : Nat} : gcm M n a 100 = M 100 := funext fun k => gcm_like 100 k (by omega) (by omega)
theorem gcm_p {M : MM} {n a : Nat} : gcm M n a 94 10 = nI (pN (M 100) n a) := by rw [gcm, jm_n (by omega), jm_n (by omega), jm_n (by omega), jm_n (by omega), jm_s]
theorem gcm_o {M : MM} {n a : Nat} : gcm M n a 94 11 = tsg (M 100) n a := by rw [gcm, jm_n (by omega), jm_n (by omega), jm_n (by omega), jm_s]
theorem gcm_0 {M : MM} {n a : Nat} : gcm M n a 101 0 = if tsg (M 100) n a = 110 then M 101 0 else p1 (M 100) n a := by rw [gcm, jm_n (by omega), jm_n (by omega), jm_s]
theorem gcm_1 {M : MM} {n a : Nat} : gcm M n a 101 1 = if tsg (M 100) n a = 110 ∨ tsg (M 100) n a = 98 then M 101 1 else p2 (M 100) n a := by rw [gcm, jm_n (by omega), jm_s]
theorem gcm_2 {M : MM} {n a : Nat} : gcm M n a 101 2 = if tsg (M 100) n a = 109 ∨ tsg (M 100) n a = 116 then p3 (M 100) n a else M 101 2 := by rw [gcm, jm_s]
theorem gNm_t {M : MM} {n k a : Nat} : gNm M n k a 100 = M 100 := funext fun c => by rw [gNm, jm_n (by omega), jm_n (by omega)]
theorem gNm_n {M : MM} {n k a i c : Nat} (h : i ≠ 101) (h2 : ¬ (i = 94 ∧ c = 10)) : gNm M n k a i c = M i c := by rw [gNm, jm_n (by omega), jm_n (by omega)]
theorem gNm_p {M : MM} {n k a : Nat} : gNm M n k a 94 10 = nI (tna (M 100) n a) := by rw [gNm, jm_n (by omega), jm_s]
theorem gNm_g {M : MM} {n k a c : Nat} (h : c ≠ k) : gNm M n k a 101 c = M 101 c := by rw [gNm, jm_n (by omega), jm_n (by omega)]
theorem gNm_s {M : MM} {n k a : Nat} (h : ¬ tnv (M 100) n a = -1) : gNm M n k a 101 k = tnv (M 100) n a := by rw [gNm, jm_s, if_neg h]
theorem jmt {M : MM} {v : Int32} {k : Nat} : jm M 94 k v 100 = M 100 := jm_row (by decide)
theorem gcm_eq {M N : MM} {n a : Nat} (hl : gLike M N) (hp : N 94 10 = nI (pN (M 100) n a)) (ho : N 94 11 = tsg (M 100) n a) (h0 : N 101 0 = gcm M n a 101 0) (h1 : N 101 1 = gcm M n a 101 1) (h2 : N 101 2 = gcm M n a 101 2) (h3 : ∀ k, 3 ≤ k → N 101 k = M 101 k) : N = gcm M n a := funext fun i => funext fun k => by
  by_cases a1 : i = 94 ∧ (k = 10 ∨ k = 11)
  · obtain ⟨rfl, rfl | rfl⟩ := a1
    · rw [hp, gcm_p]
    · rw [ho, gcm_o]
  · by_cases a2 : i = 101
    · subst a2
      rcases (show k = 0 ∨ k = 1 ∨ k = 2 ∨ 3 ≤ k by omega) with rfl | rfl | rfl | h
      · exact h0
      · exact h1
      · exact h2
      · rw [h3 k h, gcm, jm_n (by omega), jm_n (by omega), jm_n (by omega), jm_n (by omega), jm_n (by omega)]
    · rw [hl i k a1 a2, gcm_like i k a1 a2]
def gB (M : MM) (a : Nat) (u : Int32) : MM := jm (jm M 94 11 u) 94 10 (nI (a + 1))
theorem gB_t {M : MM} {a : Nat} {u : Int32} : gB M a u 100 = M 100 := by rw [gB, jmt, jmt]
theorem gB_p {M : MM} {a : Nat} {u : Int32} : gB M a u 94 10 = nI (a + 1) := jm_s
theorem gB_o {M : MM} {a : Nat} {u : Int32} : gB M a u 94 11 = u := by rw [gB, jm_n (by omega), jm_s]
theorem gB_n {M : MM} {a i k : Nat} {u : Int32} (h : ¬ (i = 94 ∧ (k = 10 ∨ k = 11))) : gB M a u i k = M i k := by rw [gB, jm_n (by omega), jm_n (by omega)]
def gM1 (M : MM) (n a : Nat) (u : Int32) : MM := gNm (gB M a u) n 0 (a + 1)
def gM2 (M : MM) (n a : Nat) (u : Int32) : MM := gNm (jm (gM1 M n a u) 94 10 (nI (tna (M 100) n (a + 1) + 1))) n 1 (tna (M 100) n (a + 1) + 1)
def gM3 (M : MM) (n a : Nat) (u : Int32) : MM := gNm (jm (gM2 M n a u) 94 10 (nI (tna (M 100) n (tna (M 100) n (a + 1) + 1) + 1))) n 2 (tna (M 100) n (tna (M 100) n (a + 1) + 1) + 1)
theorem gM1_t {M : MM} {n a : Nat} {u : Int32} : gM1 M n a u 100 = M 100 := by rw [gM1, gNm_t, gB_t]
theorem gM2_t {M : MM} {n a : Nat} {u : Int32} : gM2 M n a u 100 = M 100 := by rw [gM2, gNm_t, jmt, gM1_t]
theorem gM3_t {M : MM} {n a : Nat} {u : Int32} : gM3 M n a u 100 = M 100 := by rw [gM3, gNm_t, jmt, gM2_t]
theorem gM1_p {M : MM} {n a : Nat} {u : Int32} : gM1 M n a u 94 10 = nI (tna (M 100) n (a + 1)) := by rw [gM1, gNm_p, gB_t]
theorem gM2_p {M : MM} {n a : Nat} {u : Int32} : gM2 M n a u 94 10 = nI (tna (M 100) n (tna (M 100) n (a + 1) + 1)) := by rw [gM2, gNm_p, jmt, gM1_t]
theorem gM3_p {M : MM} {n a : Nat} {u : Int32} : gM3 M n a u 94 10 = nI (tna (M 100) n (tna (M 100) n (tna (M 100) n (a + 1) + 1) + 1)) := by rw [gM3, gNm_p, jmt, gM2_t]
theorem gM1_n {M : MM} {n a i k : Nat} {u : Int32} (h : ¬ (i = 94 ∧ (k = 10 ∨ k = 11))) (h2 : i ≠ 101) : gM1 M n a u i k = M i k := by rw [gM1, gNm_n h2 (by omega), gB_n h]
theorem gM2_n {M : MM} {n a i k : Nat} {u : Int32} (h : ¬ (i = 94 ∧ (k = 10 ∨ k = 11))) (h2 : i ≠ 101) : gM2 M n a u i k = M i k := by rw [gM2, gNm_n h2 (by omega), jm_n (by omega), gM1_n h h2]
theorem gM3_n {M : MM} {n a i k : Nat} {u : Int32} (h : ¬ (i = 94 ∧ (k = 10 ∨ k = 11))) (h2 : i ≠ 101) : gM3 M n a u i k = M i k := by rw [gM3, gNm_n h2 (by omega), jm_n (by omega), gM2_n h h2]
theorem gM1_o {M : MM} {n a : Nat} {u : Int32} : gM1 M n a u 94 11 = u := by rw [gM1, gNm_n (by omega) (by omega), gB_o]
theorem gM2_o {M : MM} {n a : Nat} {u : Int32} : gM2 M n a u 94 11 = u := by rw [gM2, gNm_n (by omega) (by omega), jm_n (by omega), gM1_o]
theorem gM3_o {M : MM} {n a : Nat} {u : Int32} : gM3 M n a u 94 11 = u := by rw [gM3, gNm_n (by omega) (by omega), jm_n (by omega), gM2_o]
theorem gM1_0 {M : MM} {n a : Nat} {u : Int32} (h : ¬ tnv (M 100) n (a + 1) = -1) : gM1 M n a u 101 0 = tnv (M 100) n (a + 1) := by rw [gM1, gNm_s (by rw [gB_t]; exact h), gB_t]
theorem gM1_k {M : MM} {n a k : Nat} {u : Int32} (h : k ≠ 0) : gM1 M n a u 101 k = M 101 k := by rw [gM1, gNm_g h, gB_n (by omega)]
theorem gM2_1 {M : MM} {n a : Nat} {u : Int32} (h : ¬ tnv (M 100) n (tna (M 100) n (a + 1) + 1) = -1) : gM2 M n a u 101 1 = tnv (M 100) n (tna (M 100) n (a + 1) + 1) := by rw [gM2, gNm_s (by rw [jmt, gM1_t]; exact h), jmt, gM1_t]
theorem gM2_k {M : MM} {n a k : Nat} {u : Int32} (h : k ≠ 1) : gM2 M n a u 101 k = gM1 M n a u 101 k := by rw [gM2, gNm_g h, jm_n (by omega)]
theorem gM3_2 {M : MM} {n a : Nat} {u : Int32} (h : ¬ tnv (M 100) n (tna (M 100) n (tna (M 100) n (a + 1) + 1) + 1) = -1) : gM3 M n a u 101 2 = tnv (M 100) n (tna (M 100) n (tna (M 100) n (a + 1) + 1) + 1) := by rw [gM3, gNm_s (by rw [jmt, gM2_t]; exact h), jmt, gM2_t]
theorem gM3_k {M : MM} {n a k : Nat} {u : Int32} (h : k ≠ 2) : gM3 M n a u 101 k = gM2 M n a u 101 k := by rw [gM3, gNm_g h, jm_n (by omega)]
theorem gM1_like {M : MM} {n a : Nat} {u : Int32} : gLike M (gM1 M n a u) := fun i k h1 h2 => gM1_n h1 h2
theorem gM2_like {M : MM} {n a : Nat} {u : Int32} : gLike M (gM2 M n a u) := fun i k h1 h2 => gM2_n h1 h2
theorem gM3_like {M : MM} {n a : Nat} {u : Int32} : gLike M (gM3 M n a u) := fun i k h1 h2 => gM3_n h1 h2
theorem nI_q {t : Int32} {n : Nat} (hn : n ≤ 56) (h : ¬ t < 0 ∧ ¬ nI n - 1 < t) : ∃ q, q < n ∧ t = nI q := by
  cases n with
  | zero => exact absurd (show nI 0 - 1 < t from by
      have h1 := Int32.not_lt.mp h.1
      rw [Int32.le_iff_toInt_le] at h1
      rw [Int32.lt_iff_toInt_lt]
      have h2 : (nI 0 - 1).toInt = -1 := by decide
      have h3 : (0 : Int32).toInt = 0 := rfl
      omega) h.2
  | succ n =>
    rw [nI_pred] at h
    obtain ⟨q, h1, h2⟩ := nI_of2 (nI_toInt (show n < 2 ^ 31 by omega)) h.1 (Int32.not_lt.mp h.2)
    exact ⟨q, by omega, h2⟩
def gNo (M : MM) (t : Int32) (q : Option (Int32 × Int32)) : Option (Int32 × Int32) := if M 95 1 = 0 then some (5, 0) else if ¬ (¬ t < 0 ∧ ¬ M 95 9 - 1 < t) then some (3, t) else q
def gcref (M : MM) (n : Nat) (u v w z : Int32) : Option (Int32 × Int32) := if u = 109 then gNo M v (gRes M v.toNatClampNeg w z) else if u = 98 then gNo M v (gBack M v.toNatClampNeg) else if u = 111 then gNo M v (gPut M v.toNatClampNeg w) else if u = 110 then (if M 95 1 = 0 then some (5, 0) else gNext M n) else rRules v w z
def gcapp (M : MM) (n : Nat) (u v w z : Int32) : MM := if u = 109 then jm (gResS M v.toNatClampNeg w z) 94 18 (jsum (gLeft (gResS M v.toNatClampNeg w z)) n) else if u = 98 then jm (gBackS M v.toNatClampNeg) 94 18 (jsum (gLeft (gBackS M v.toNatClampNeg)) n) else if u = 111 then jm (gPutS M v.toNatClampNeg w) 94 18 (jsum (gCl (gPutS M v.toNatClampNeg w) v.toNatClampNeg (M 95 2 + w)) n) else if u = 110 then jm (jm M 95 2 (M 95 2 + 1)) 94 18 (M 95 2 + 1) else jm (jxR M v w z) 94 18 (jxR M v w z 95 5)
theorem jxr_n {M : MM} {t : Int32} {c1 : Nat} (h : c5 c1 M) (hc : c1 ≤ 2) {i k : Nat} (hk : i ≠ 95 ∨ k < 5 ∨ 8 < k) : jxr M t i k = M i k := by
  obtain ⟨c, h1, h2⟩ := h
  unfold jxr
  split
  · rfl
  · rw [h2, nI_clamp (by omega), jm_n (by omega), jm_n (by omega)]
theorem jxR_n {M : MM} {t u v : Int32} {i k : Nat} (hk : i ≠ 95 ∨ k < 5 ∨ 8 < k) : jxR M t u v i k = M i k := by
  rw [jxR, jxr_n (c5_s (c5_s c5_0)) (by decide) hk, jxr_n (c5_s c5_0) (by decide) hk, jxr_n c5_0 (by decide) hk, jm_n (by omega)]
theorem jsets_m {M : MM} {m1 w1 i k : Nat} {v : Int32} (hw : 0 < w1 ∧ w1 < 8) (h : i ≠ 95 ∨ k < 18 ∨ (k - 18) % 8 = 0) : jsets M m1 w1 v i k = M i k := by
  rw [jsets, jm_n]
  omega
theorem gcapp_n {M : MM} {n : Nat} {u v w z : Int32} {i k : Nat} (h : (i ≠ 95 ∧ (i ≠ 94 ∨ k ≠ 18)) ∨ (i = 95 ∧ k ≠ 2 ∧ (k < 5 ∨ 8 < k) ∧ (k < 18 ∨ (k - 18) % 8 = 0))) : gcapp M n u v w z i k = M i k := by
  have h9 : ¬ (i = 94 ∧ k = 18) := by omega
  unfold gcapp
  split
  · rw [jm_n h9, gResS, jsets_m (by omega) (by omega), jsets_m (by omega) (by omega), jsets_m (by omega) (by omega)]
  · split
    · rw [jm_n h9, gBackS, jsets_m (by omega) (by omega), jsets_m (by omega) (by omega), jsets_m (by omega) (by omega)]
    · split
      · rw [jm_n h9, gPutS, jsets_m (by omega) (by omega), jsets_m (by omega) (by omega)]
      · split
        · rw [jm_n h9, jm_n (by omega)]
        · rw [jm_n h9, jxR_n (by omega)]
theorem pF_let {T : Nat → Int32} {n a : Nat} (h : pF T n a = none) : isLet (tsg T n a) := by
  unfold pF at h
  by_cases h1 : tsg T n a = 109
  · exact Or.inl h1
  · by_cases h2 : tsg T n a = 98
    · exact Or.inr (Or.inl h2)
    · by_cases h3 : tsg T n a = 111
      · exact Or.inr (Or.inr (Or.inl h3))
      · by_cases h4 : tsg T n a = 110
        · exact Or.inr (Or.inr (Or.inr (Or.inl h4)))
        · by_cases h5 : tsg T n a = 116
          · exact Or.inr (Or.inr (Or.inr (Or.inr h5)))
          · rw [if_neg h1, if_neg h2, if_neg h3, if_neg h4, if_neg h5] at h; cases h
def gpa (M : MM) (n : Nat) : Nat → MM
  | 0 => jm M 94 10 0
  | i + 1 => jm (gcm (gpa M n i) n (ppo (M 100) n i)) 94 10 (nI (ppo (M 100) n (i + 1)))
def gce (M : MM) (n i : Nat) : MM := gcm (gpa M n i) n (ppo (M 100) n i)
theorem gpa_like {M : MM} {n : Nat} : ∀ i, gLike M (gpa M n i)
  | 0 => fun i k h1 h2 => jm_n (by omega)
  | j + 1 => fun i k h1 h2 => by rw [gpa, jm_n (by omega), gcm_like i k h1 h2]; exact gpa_like j i k h1 h2
theorem gpa_t {M : MM} {n i : Nat} : gpa M n i 100 = M 100 := funext fun k => gpa_like i 100 k (by omega) (by omega)
theorem gpa_p {M : MM} {n : Nat} : ∀ i, gpa M n i 94 10 = nI (ppo (M 100) n i)
  | 0 => jm_s
  | _ + 1 => jm_s
theorem gce_like {M : MM} {n i : Nat} : gLike M (gce M n i) := fun j k h1 h2 => by rw [gce, gcm_like j k h1 h2]; exact gpa_like i j k h1 h2
theorem gce_t {M : MM} {n i : Nat} : gce M n i 100 = M 100 := funext fun k => gce_like 100 k (by omega) (by omega)
theorem gce_p {M : MM} {n i : Nat} : gce M n i 94 10 = nI (pN (M 100) n (ppo (M 100) n i)) := by rw [gce, gcm_p, gpa_t]
def gse (M : MM) (n ct : Nat) : Nat → MM
  | 0 => M
  | j + 1 => jm (gcapp (jm (gcm (gse M n ct j) n (ppo (M 100) n j)) 94 16 (nI j)) ct (gcm (gse M n ct j) n (ppo (M 100) n j) 94 11) (gcm (gse M n ct j) n (ppo (M 100) n j) 101 0) (gcm (gse M n ct j) n (ppo (M 100) n j) 101 1) (gcm (gse M n ct j) n (ppo (M 100) n j) 101 2)) 94 10 (nI (ppo (M 100) n (j + 1)))
def gqp (M : MM) (n ct j : Nat) : MM := jm (gcm (gse M n ct j) n (ppo (M 100) n j)) 94 16 (nI j)
def gcR (M : MM) (n ct j : Nat) : Option (Int32 × Int32) := gcref (gqp M n ct j) ct (gqp M n ct j 94 11) (gqp M n ct j 101 0) (gqp M n ct j 101 1) (gqp M n ct j 101 2)
def gcS (M : MM) (n ct j : Nat) : MM := gcapp (gqp M n ct j) ct (gqp M n ct j 94 11) (gqp M n ct j 101 0) (gqp M n ct j 101 1) (gqp M n ct j 101 2)
theorem gse_s {M : MM} {n ct j : Nat} : gse M n ct (j + 1) = jm (gcS M n ct j) 94 10 (nI (ppo (M 100) n (j + 1))) := by
  have e : ∀ i k, ¬ (i = 94 ∧ k = 16) → gqp M n ct j i k = gcm (gse M n ct j) n (ppo (M 100) n j) i k := fun i k h => jm_n h
  rw [gse, gcS, e 94 11 (by omega), e 101 0 (by omega), e 101 1 (by omega), e 101 2 (by omega)]
  rfl
def gKeep (i k : Nat) : Prop := (i ≠ 95 ∧ i ≠ 94 ∧ i ≠ 101) ∨ (i = 94 ∧ k ≠ 10 ∧ k ≠ 11 ∧ k ≠ 16 ∧ k ≠ 18) ∨ (i = 95 ∧ k ≠ 2 ∧ (k < 5 ∨ 8 < k) ∧ (k < 18 ∨ (k - 18) % 8 = 0))
theorem gse_n {M : MM} {n ct i k : Nat} (h : gKeep i k) : ∀ j, gse M n ct j i k = M i k
  | 0 => rfl
  | j + 1 => by
    unfold gKeep at h
    rw [gse_s, jm_n (by omega), gcS, gcapp_n (by omega), gqp, jm_n (by omega), gcm_like i k (by omega) (by omega)]
    exact gse_n (by unfold gKeep; exact h) j
theorem gse_t {M : MM} {n ct j : Nat} : gse M n ct j 100 = M 100 := funext fun k => gse_n (Or.inl (by omega)) j
theorem gse_p {M : MM} {n ct : Nat} (h0 : M 94 10 = 0) : ∀ j, gse M n ct j 94 10 = nI (ppo (M 100) n j)
  | 0 => h0
  | _ + 1 => jm_s
theorem gqp_n {M : MM} {n ct j i k : Nat} (h : gKeep i k) : gqp M n ct j i k = M i k := by
  have h0 := h
  unfold gKeep at h
  rw [gqp, jm_n (by omega), gcm_like i k (by omega) (by omega)]
  exact gse_n h0 j
theorem gqp_t {M : MM} {n ct j : Nat} : gqp M n ct j 100 = M 100 := funext fun k => gqp_n (Or.inl (by omega))
theorem gqp_p {M : MM} {n ct j : Nat} : gqp M n ct j 94 10 = nI (pN (M 100) n (ppo (M 100) n j)) := by rw [gqp, jm_n (by omega), gcm_p, gse_t]
theorem gqp_o {M : MM} {n ct j : Nat} : gqp M n ct j 94 11 = tsg (M 100) n (ppo (M 100) n j) := by rw [gqp, jm_n (by omega), gcm_o, gse_t]
theorem gcS_n {M : MM} {n ct j i k : Nat} (h : gKeep i k) : gcS M n ct j i k = M i k := by
  have h0 := h
  unfold gKeep at h
  rw [gcS, gcapp_n (by omega), gqp_n h0]
theorem gcS_t {M : MM} {n ct j : Nat} : gcS M n ct j 100 = M 100 := funext fun k => gcS_n (Or.inl (by omega))
theorem gcS_p {M : MM} {n ct j : Nat} : gcS M n ct j 94 10 = nI (pN (M 100) n (ppo (M 100) n j)) := by rw [gcS, gcapp_n (by omega), gqp_p]
theorem jtr_m {M : MM} {i k : Nat} (h : i ≠ 96 ∧ ¬ (i = 94 ∧ (k = 19 ∨ k = 16))) : jtr M i k = M i k := by
  rw [jtr, jcp_n (by omega), jm_n (by omega), jm_n (by omega)]
def gB0 (M : MM) (n i : Nat) : MM := jm (jm (gce (jtr M) n i) 94 13 (-1)) 94 10 0
theorem gB0_n {M : MM} {n i a k : Nat} (h : ¬ (a = 94 ∧ (k = 10 ∨ k = 11 ∨ k = 13))) (h2 : a ≠ 101) : gB0 M n i a k = jtr M a k := by
  rw [gB0, jm_n (by omega), jm_n (by omega), gce_like a k (by omega) h2]
theorem gB0_t {M : MM} {n i : Nat} : gB0 M n i 100 = jtr M 100 := funext fun k => gB0_n (by omega) (by omega)
def gLn (M N : MM) : Prop := ∀ i k, i ≠ 99 → ¬ (i = 94 ∧ k = 7) → N i k = M i k
theorem gW_ln {M N : MM} {q v : Nat} (h : gLn M N) : gLn M (gW N q v) := fun i k h1 h2 => by rw [gW, jm_n (by omega), jm_n (by omega)]; exact h i k h1 h2
theorem gW_7 {M : MM} {q v : Nat} : gW M q v 94 7 = nI (q + 1) := by rw [gW, jm_n (by omega), jm_s]
theorem gLn_0 {M : MM} : gLn M M := fun _ _ _ _ => rfl
theorem gLn_w {M N : MM} {q : Nat} {v w : Int32} (h : gLn M N) : gLn M (jm (jm N 94 7 v) 99 q w) := fun i k h1 h2 => by rw [jm_n (by omega), jm_n (by omega)]; exact h i k h1 h2
theorem gLn_t {M N N2 : MM} (h : gLn M N) (h2 : gLn N N2) : gLn M N2 := fun i k h3 h4 => (h2 i k h3 h4).trans (h i k h3 h4)
theorem fHas_c {M N : MM} (h : ∀ k, N 95 k = M 95 k) {t : Int32} {k : Nat} {s : Int32} : fHas N t k s = fHas M t k s := funext fun m => by
  have e : ∀ m w, jof N m w = jof M m w := fun m w => h _
  unfold fHas
  simp only [e, h]
