/-! ===== what the law's questions sum up to, as numbers of a league ===== -/
/-- the league alone -/
def cn (B : MM) : MM := fun i k => if i = 95 ∧ k < 466 then B 95 k else 0
theorem cn_95 {B : MM} {k : Nat} (h : k < 466) : cn B 95 k = B 95 k := if_pos ⟨rfl, h⟩
theorem cn_eq {B B1 : MM} (h : ∀ c, c < 466 → B1 95 c = B 95 c) : cn B1 = cn B := funext fun i => funext fun k => by
  unfold cn
  by_cases c : i = 95 ∧ k < 466
  · rw [if_pos c, if_pos c]; exact h k c.2
  · rw [if_neg c, if_neg c]
theorem rL_cn {t : Nat} {dr : Bool} {C : Nat → Nat → Int32} {B : MM} (h : rL t dr C (B 95)) : rL t dr C (cn B 95) := rL_c h (fun _ _ => rfl) (fun _ _ => rfl) (fun _ _ => rfl) (fun _ _ _ _ => rfl) (fun k hk => cn_95 hk)
/-- a league of t teams that is drawn -/
def Dr (B : MM) (t : Nat) : Prop := B 95 0 = nI t ∧ t ≤ 8 ∧ ¬ B 95 1 = 0
theorem InvP.dr {b : SBt} {A B : MM} (I : InvP b A B) {t : Nat} (D : Dr B t) : rL t true (lgC A 1) (B 95) ∧ (true = true → rFix t A) := by
  obtain ⟨t2, dr, hL, hF⟩ := I.now
  have e : t2 = t := (nI_eq (by have := hL.1; omega) (by have := D.2.1; omega)).mp (hL.2.2.1.symm.trans D.1)
  subst e
  cases dr with
  | true => exact ⟨hL, hF⟩
  | false => exact absurd hL.2.2.2.2.2.2.1 D.2.2
theorem InvP.L {b : SBt} {A B : MM} (I : InvP b A B) {t : Nat} (D : Dr B t) : rL t true (lgC A 1) (cn B 95) := rL_cn (I.dr D).1
theorem InvP.F {b : SBt} {A B : MM} (I : InvP b A B) {t : Nat} (D : Dr B t) : true = true → rFix t A := (I.dr D).2
/-! sums -/
def a31 (s : Int64) (v : Int32) : Int64 := 31 * s + v.toInt64
def fo (f : Nat → Int32) (s : Int64) : Nat → Int64
  | 0 => s
  | k + 1 => a31 (fo f s k) (f k)
def fL (f : Int64 → Nat → Int64) (s : Int64) : Nat → Int64
  | 0 => s
  | k + 1 => f (fL f s k) k
def vAc (N : MM) (t k : Nat) : Int32 := if k = 0 then N 95 0 else if k = 1 then jb (¬ N 95 1 ≤ 0) else if k = 2 then N 95 1 else if k = 3 then N 95 2 else if k = 4 then N 95 9 else if k = 5 then jsum (fun m => jof N m 4) (nn t true) else if k = 6 then jsum (gPutC N) (nn t true) else if k = 7 then N 95 3 else if k = 8 then N 95 4 else if k = 9 then N 95 5 else if k = 10 then jsum (gGoals N) (nn t true) else if k = 11 then jsum (fun i => gH N (nn t true) (nI i) 1) t else jsum (fun w => gpairs N (nn t true) (nI w)) (zz t true)
def vTm (N : MM) (t i k : Nat) : Int32 := if k = 0 then N 95 (10 + i) else gH N (nn t true) (nI i) k
def vRn (N : MM) : Nat := (N 95 5).toNatClampNeg
def vPl (N : MM) (t i : Nat) : Int32 := jsum (fgPl N (nn t true) t (vRn N) (nI i)) t
def vRk (N : MM) (t i : Nat) : Int32 := jfst (fRank N (nn t true) t (vRn N) (nI i)) t
def vMt (N : MM) (m k : Nat) : Int32 := if k = 0 then jof N m 2 else if k = 1 then jof N m 0 else if k = 2 then jof N m 1 else if k = 3 then jhow N m else if k = 4 then (if jof N m 4 = 1 then jof N m 6 else -1) else if k = 5 then (if jof N m 4 = 1 then jof N m 7 else -1) else jof N m 3
def vFr (N : MM) (t m : Nat) : Int32 := gOr2 (gfree N (nn t true) (zz t true) (jof N m 2).toNatClampNeg m)
def vFd (N : MM) (t m : Nat) : Int32 := gOr2 (jfst (gBet N (jof N m 0) (jof N m 1)) (nn t true))
/-- one team, one meeting, one week -/
def vT5 (N : MM) (t : Nat) (s : Int64) (i : Nat) : Int64 := fo (fun r => gRule N (nn t true) t (nI i) (nI r)) (fo (vTm N t i) s 9) 5
def vT8 (N : MM) (t : Nat) (s : Int64) (i : Nat) : Int64 := a31 (a31 (a31 (a31 (a31 (vT5 N t s i) (gH N (nn t true) (nI i) 1)) (vPl N t i)) (vRk N t i)) (gTied N (nn t true) (nI i) t)) (gMost N (nn t true) (nI i))
def vT9 (N : MM) (t : Nat) (s : Int64) (i : Nat) : Int64 := a31 (a31 (a31 (vT8 N t s i) (gSafe N (nn t true) t i)) (gOut N (nn t true) t i)) (gRun N (nI i) (nn t true)).1
def vTe (N : MM) (t : Nat) (s : Int64) (i : Nat) : Int64 := fo (fun k => lch ((vLn N (nn t true) t i).2 k)) (vT9 N t s i) (vLn N (nn t true) t i).1
def vMe (N : MM) (t : Nat) (s : Int64) (m : Nat) : Int64 := a31 (a31 (fo (vMt N m) s 7) (vFr N t m)) (vFd N t m)
def vWe (N : MM) (t : Nat) (s : Int64) (w : Nat) : Int64 := a31 (a31 (a31 s (gOr2 (bye t w))) (jsum (gIn N (nI w)) (nn t true))) (gpairs N (nn t true) (nI w))
def vS0 (N : MM) (t : Nat) : Int64 := 31 * dlb (gShare N (nn t true)) + (flb (gMean N (nn t true))).toInt64
def VA (N : MM) (t : Nat) : Int64 := fL (vWe N t) (fL (vMe N t) (fL (vTe N t) (fo (vAc N t) (vS0 N t) 13) t) (nn t true)) (zz t true)
theorem w_fo0 {f : Nat → Int32} {s : Int64} : some (Value.long s) = some (Value.long (fo f s 0)) := rfl
theorem w_fo1 {s : Int64} {k : Nat} (f : Nat → Int32) : some (Value.long (31 * fo f s k + (f k).toInt64)) = some (Value.long (fo f s (k + 1))) := rfl
theorem w_fL0 {s : Int64} (f : Int64 → Nat → Int64) : some (Value.long s) = some (Value.long (fL f s 0)) := rfl
theorem w_fL1 {s : Int64} {k : Nat} (f : Int64 → Nat → Int64) : some (Value.long (f (fL f s k) k)) = some (Value.long (fL f s (k + 1))) := rfl
/-! the calls, by their numbers -/
section QN
variable {t : Nat} {b : SBt} {Y : OUt} {A N : MM}
theorem Q_ac (hb : 94 ≤ b.2.1) (hL : rL t true (lgC A 1) (N 95)) (hF : true = true → rFix t A) {k : Nat} (hk : k < 13) : SPq b Y A yL_account cL_account 3 (some .int) [(0, 5, 6, 47)] [.ref 0, .int (nI k)] (.int (vAc N t k)) := by
  rcases (show k = 0 ∨ k = 1 ∨ k = 2 ∨ k = 3 ∨ k = 4 ∨ k = 5 ∨ k = 6 ∨ k = 7 ∨ k = 8 ∨ k = 9 ∨ k = 10 ∨ k = 11 ∨ k = 12 by omega) with rfl | rfl | rfl | rfl | rfl | rfl | rfl | rfl | rfl | rfl | rfl | rfl | rfl
  · exact Q_account_0 hb hL hF
  · exact Q_account_1 hb hL hF
  · exact Q_account_2 hb hL hF
  · exact Q_account_3 hb hL hF
  · exact Q_account_4 hb hL hF
  · exact Q_account_5 hb hL hF
  · exact Q_account_6 hb hL hF
  · exact Q_account_7 hb hL hF
  · exact Q_account_8 hb hL hF
  · exact Q_account_9 hb hL hF
  · exact Q_account_10 hb hL hF
  · exact Q_account_11 hb hL hF
  · exact Q_account_12 hb hL hF
theorem Q_te (hb : 94 ≤ b.2.1) (hL : rL t true (lgC A 1) (N 95)) (hF : true = true → rFix t A) {i k : Nat} (hi : i < t) (hk : k < 9) : SPq b Y A yL_teamOf cL_teamOf 4 (some .int) [(0, 6, 7, 45), (0, 6, 12, 47)] [.ref 0, .int (nI i), .int (nI k)] (.int (vTm N t i k)) := by
  rcases (show k = 0 ∨ k = 1 ∨ k = 2 ∨ k = 3 ∨ k = 4 ∨ k = 5 ∨ k = 6 ∨ k = 7 ∨ k = 8 by omega) with rfl | rfl | rfl | rfl | rfl | rfl | rfl | rfl | rfl
  · exact Q_teamOf_0 hb hL hF hi
  · exact Q_teamOf_1 hb hL hF hi
  · exact Q_teamOf_2 hb hL hF hi
  · exact Q_teamOf_3 hb hL hF hi
  · exact Q_teamOf_4 hb hL hF hi
  · exact Q_teamOf_5 hb hL hF hi
  · exact Q_teamOf_6 hb hL hF hi
  · exact Q_teamOf_7 hb hL hF hi
  · exact Q_teamOf_8 hb hL hF hi
theorem r04_n {r : Nat} (h : r < 5) : r04 (nI r) := by
  rcases (show r = 0 ∨ r = 1 ∨ r = 2 ∨ r = 3 ∨ r = 4 by omega) with rfl | rfl | rfl | rfl | rfl
  · exact Or.inl rfl
  · exact Or.inr (Or.inl rfl)
  · exact Or.inr (Or.inr (Or.inl rfl))
  · exact Or.inr (Or.inr (Or.inr (Or.inl rfl)))
  · exact Or.inr (Or.inr (Or.inr (Or.inr rfl)))
theorem vRn_of (hL : rL t true (lgC A 1) (N 95)) : vRn N ≤ 3 ∧ A 1 6 = nI (vRn N) := by
  obtain ⟨c, e1, e2, e3, -⟩ := hL.2.2.2.2.2.2.2.2.2.2.2.1
  have e : vRn N = c := by
    unfold vRn
    rw [e3]
    exact nI_clamp (by omega)
  rw [e]
  exact ⟨e1, e2⟩
theorem Q_me (hb : 94 ≤ b.2.1) (hL : rL t true (lgC A 1) (N 95)) (hF : true = true → rFix t A) {m k : Nat} (hm : m < nn t true) (hk : k < 7) : SPq b Y A yL_meetingOf cL_meetingOf 4 (some .int) [(0, 6, 7, 45), (0, 6, 12, 47)] [.ref 0, .int (nI m), .int (nI k)] (.int (vMt N m k)) := by
  rcases (show k = 0 ∨ k = 1 ∨ k = 2 ∨ k = 3 ∨ k = 4 ∨ k = 5 ∨ k = 6 by omega) with rfl | rfl | rfl | rfl | rfl | rfl | rfl
  · exact Q_meetingOf_0 hb hL hF hm
  · exact Q_meetingOf_1 hb hL hF hm
  · exact Q_meetingOf_2 hb hL hF hm
  · exact Q_meetingOf_3 hb hL hF hm
  · exact Q_meetingOf_4 hb hL hF hm
  · exact Q_meetingOf_5 hb hL hF hm
  · exact Q_meetingOf_6 hb hL hF hm
theorem Q_fd (hb : 94 ≤ b.2.1) (hL : rL t true (lgC A 1) (N 95)) (hF : true = true → rFix t A) {m : Nat} (hm : m < nn t true) : SPq b Y A yL_find cL_find 4 (some .int) [(0, 6, 7, 45), (0, 6, 12, 58)] [.ref 0, .int (jof N m 0), .int (jof N m 1)] (.int (vFd N t m)) := by
  obtain ⟨i, a, h1, h2, -, -, -, h5, h6⟩ := home_r hL hm
  unfold vFd
  rw [h5, h6]
  exact Q_find hb hL hF h1 h2
end QN
theorem Q_n0 {t : Nat} {b : SBt} {Y : OUt} {A B : MM} (I : InvP b A B) (D : Dr B t) : SPq b Y A yL_account cL_account 3 (some .int) [(0, 5, 6, 47)] [.ref 0, .int 0] (.int (nI t)) := by
  have h := Q_account_0 (Y := Y) I.hb (I.L D) (I.F D)
  rw [(I.L D).2.2.1] at h
  exact h
theorem Q_n2 {t : Nat} {b : SBt} {Y : OUt} {A B : MM} (I : InvP b A B) (D : Dr B t) : SPq b Y A yL_account cL_account 3 (some .int) [(0, 5, 6, 47)] [.ref 0, .int 2] (.int (nI (zz t true))) := by
  have h := Q_account_2 (Y := Y) I.hb (I.L D) (I.F D)
  rw [(I.L D).2.2.2.2.2.2.1] at h
  exact h
theorem Q_n4 {t : Nat} {b : SBt} {Y : OUt} {A B : MM} (I : InvP b A B) (D : Dr B t) : SPq b Y A yL_account cL_account 3 (some .int) [(0, 5, 6, 47)] [.ref 0, .int 4] (.int (nI (nn t true))) := by
  have h := Q_account_4 (Y := Y) I.hb (I.L D) (I.F D)
  rw [(I.L D).2.2.2.2.2.2.2.1] at h
  exact h
theorem vAc_0 {N : MM} {t : Nat} : vMt N t 1 = jof N t 0 ∧ vMt N t 2 = jof N t 1 := ⟨rfl, rfl⟩
/-! a helper's call, in the walk of a method of the law's -/
section QCALL
variable {p : Program} {l : Launch} {e : Env} {R : Room} {s : State} {m : MethodId} {args : Array Value} {below : List Frame} {meth : Method} {c : Code} {D : va_G} {tyc : Nat → ClassId} {A0 : Nat → Prop} {n0 : Nat} {ad0 : Nat → Nat} {nL : Nat} {Qs : State → Prop}
variable {own : String} {cc : ByteArray} {pc : Nat} {L L' : List (Option Value)} {st : List Value} {h : MH} {cells slots idx n : Nat} {as st0 : List Value} {b : SBt} {Y : OUt} {A B : MM} {yL : MethodName} {cL : ByteArray} {mL : Nat} {hh : List (Nat × Nat × Nat × Nat)} {rt : Option FieldType}
theorem q_call (x : j_X p l s m args meth c D tyc A0 own cc nL) {v : Value} (I : InvP b A B) (S : SPq b Y A yL cL mL rt hh as v) (hd : decode cc pc = .ok (.invokestatic idx, 3)) (hm : j_mH yL cL mL rt hh n) (hm2 : mL ≤ 32) (hw : Cond.methodLink own idx yL ∈ j_all) (hn : as.length = n) (hst : st.length ≤ 8)
    (hfit : ∀ mc ms, mc ≤ 1 → ms ≤ 6 → j_fit R 20 mc ms cells slots) (h0 : st0 = as.reverse ++ st)
    (kk : ∀ A1, InvP b A1 B → JJ p l e R s m args below meth c D tyc A0 n0 ad0 nL Qs (pc + 3) L (v :: st) (HH b Y A1) (cells + 1) (slots + 6)) : JJ p l e R s m args below meth c D tyc A0 n0 ad0 nL Qs pc L st0 (HH b Y A) cells slots := by
  obtain ⟨mc, ms, h1, h2, h3⟩ := S
  refine j_callSHD x hd h3 hm hm2 hw hn hst (hfit mc ms h1 h2) h0 (fun E k z => by obtain ⟨_, q, _⟩ := z; cases q) (fun v1 k z => ?_)
  obtain ⟨A1, q1, rfl, q2⟩ := z
  cases q1
  exact j_widen (by omega) (by omega) (kk A1 (I.q q2))
theorem c_call (x : j_X p l s m args meth c D tyc A0 own cc nL) {Z : Int32 → MM → Prop} (S : SPc b Y A B yL cL mL hh as Z) (hd : decode cc pc = .ok (.invokestatic idx, 3)) (hm : j_mH yL cL mL (some .int) hh n) (hm2 : mL ≤ 32) (hw : Cond.methodLink own idx yL ∈ j_all) (hn : as.length = n) (hst : st.length ≤ 8)
    (hfit : ∀ mc ms, mc ≤ 1 → ms ≤ 6 → j_fit R 20 mc ms cells slots) (h0 : st0 = as.reverse ++ st)
    (kk : ∀ v A1 B1, InvP b A1 B1 → Z v B1 → JJ p l e R s m args below meth c D tyc A0 n0 ad0 nL Qs (pc + 3) L (.int v :: st) (HH b Y A1) (cells + 1) (slots + 6)) : JJ p l e R s m args below meth c D tyc A0 n0 ad0 nL Qs pc L st0 (HH b Y A) cells slots := by
  obtain ⟨mc, ms, h1, h2, h3⟩ := S
  refine j_callSHD x hd h3 hm hm2 hw hn hst (hfit mc ms h1 h2) h0 (fun E k z => by obtain ⟨_, _, _, q, _⟩ := z; cases q) (fun v1 k z => ?_)
  obtain ⟨v, A1, B1, q1, rfl, q2, q3⟩ := z
  cases q1
  exact j_widen (by omega) (by omega) (kk v A1 B1 q2 q3)
theorem j_locW (hw : wkL L' L) (kk : JJ p l e R s m args below meth c D tyc A0 n0 ad0 nL Qs pc L' st h cells slots) : JJ p l e R s m args below meth c D tyc A0 n0 ad0 nL Qs pc L st h cells slots :=
  j_locs (wkL_spec _ _ hw).1 (wkL_spec _ _ hw).2 kk
/-- a loop that changes no league -/
theorem q_loop (n : Nat) (Lf : Nat → List (Option Value)) (cb sb K S : Nat) (I : InvP b A B) (h0 : wkL (Lf 0) L) (hc : cells ≤ cb) (hs : slots ≤ sb)
    (step : ∀ j, j < n → ∀ b A, InvP b A B → (∀ b2 A2 L2 c2 s2, InvP b2 A2 B → wkL (Lf (j + 1)) L2 → c2 ≤ cb + (j + 1) * K → s2 ≤ sb + (j + 1) * S → JJ p l e R s m args below meth c D tyc A0 n0 ad0 nL Qs pc L2 st (HH b2 Y A2) c2 s2) → JJ p l e R s m args below meth c D tyc A0 n0 ad0 nL Qs pc (Lf j) st (HH b Y A) (cb + j * K) (sb + j * S))
    (last : ∀ b A, InvP b A B → JJ p l e R s m args below meth c D tyc A0 n0 ad0 nL Qs pc (Lf n) st (HH b Y A) (cb + n * K) (sb + n * S)) : JJ p l e R s m args below meth c D tyc A0 n0 ad0 nL Qs pc L st (HH b Y A) cells slots := by
  refine j_loop n (fun j L h c1 s1 => ∃ b A, InvP b A B ∧ wkL (Lf j) L ∧ h = HH b Y A ∧ c1 ≤ cb + j * K ∧ s1 ≤ sb + j * S) ⟨b, A, I, h0, rfl, by rw [Nat.zero_mul]; exact hc, by rw [Nat.zero_mul]; exact hs⟩ (fun j hj L h c1 s1 hV kk => ?_) (fun L h c1 s1 hV => ?_)
  · obtain ⟨b, A, I, hw, rfl, h1, h2⟩ := hV
    exact j_locW hw (j_widen h1 h2 (step j hj b A I fun b2 A2 L2 c2 s2 I2 w2 e1 e2 => kk L2 _ c2 s2 ⟨b2, A2, I2, w2, rfl, e1, e2⟩))
  · obtain ⟨b, A, I, hw, rfl, h1, h2⟩ := hV
    exact j_locW hw (j_widen h1 h2 (last b A I))
end QCALL
