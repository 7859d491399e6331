/-! ===== loops; the fixtures that the class lays ===== -/
theorem j_for {p : Program} {l : Launch} {e : Env} {R : Room} {s : State} {m : MethodId} {args : Array Value} {below : List Frame} {meth : Method} {c : Code} {D : va_G} {tyc : Nat → ClassId} {A : Nat → Prop} {n0 : Nat} {ad0 : Nat → Nat} {nL : Nat} {Q : State → Prop} {pc : Nat} {L : List (Option Value)} {st : List Value} {b : SBt} {Y : OUt} {M : MM} {cells slots : Nat} (n : Nat) (Lf : Nat → List (Option Value)) (Mf : Nat → MM) (P : Nat → Prop) (hL : Lf 0 = L) (hM : Mf 0 = M) (h0 : P 0)
    (step : ∀ j, j < n → P j → (P (j + 1) → JJ p l e R s m args below meth c D tyc A n0 ad0 nL Q pc (Lf (j + 1)) st (HH b Y (Mf (j + 1))) cells slots) → JJ p l e R s m args below meth c D tyc A n0 ad0 nL Q pc (Lf j) st (HH b Y (Mf j)) cells slots)
    (last : P n → JJ p l e R s m args below meth c D tyc A n0 ad0 nL Q pc (Lf n) st (HH b Y (Mf n)) cells slots) : JJ p l e R s m args below meth c D tyc A n0 ad0 nL Q pc L st (HH b Y M) cells slots := by
  subst hL
  subst hM
  have key : ∀ r j, j + r = n → P j → JJ p l e R s m args below meth c D tyc A n0 ad0 nL Q pc (Lf j) st (HH b Y (Mf j)) cells slots := by
    intro r
    induction r with
    | zero =>
      intro j hj hP
      have hjn : j = n := by omega
      subst hjn
      exact last hP
    | succ r ih =>
      intro j hj hP
      exact step j (by omega) hP (fun h => ih (j + 1) (by omega) h)
  exact key n 0 (by omega) h0
def wkL : List (Option Value) → List (Option Value) → Prop
  | [], [] => True
  | none :: a, _ :: b => wkL a b
  | some v :: a, w :: b => w = some v ∧ wkL a b
  | _, _ => False
theorem wkL_spec : ∀ (a b : List (Option Value)), wkL a b → a.length = b.length ∧ ∀ (i : Nat) (v : Value), a[i]? = some (some v) → b[i]? = some (some v)
  | [], [], _ => ⟨rfl, fun _ _ h => h⟩
  | [], _ :: _, h => h.elim
  | none :: a, [], h => h.elim
  | some _ :: a, [], h => h.elim
  | none :: a, w :: b, h => by
    obtain ⟨h1, h2⟩ := wkL_spec a b h
    refine ⟨by simp [h1], fun i v hi => ?_⟩
    cases i with
    | zero => cases hi
    | succ i => exact h2 i v hi
  | some u :: a, w :: b, h => by
    obtain ⟨h0, h⟩ := h
    obtain ⟨h1, h2⟩ := wkL_spec a b h
    refine ⟨by simp [h1], fun i v hi => ?_⟩
    cases i with
    | zero => subst h0; exact hi
    | succ i => exact h2 i v hi
theorem wk_c {v : Value} {w : Option Value} {a b : List (Option Value)} (h : w = some v) (k : wkL a b) : wkL (some v :: a) (w :: b) := ⟨h, k⟩
theorem wk_n {w : Option Value} {a b : List (Option Value)} (k : wkL a b) : wkL (none :: a) (w :: b) := k
theorem wk_0 : wkL [] [] := trivial
theorem j_goal {p : Program} {l : Launch} {e : Env} {R : Room} {s : State} {m : MethodId} {args : Array Value} {below : List Frame} {meth : Method} {c : Code} {D : va_G} {tyc : Nat → ClassId} {A : Nat → Prop} {n0 : Nat} {ad0 : Nat → Nat} {nL : Nat} {Q : State → Prop} {pc : Nat} {L : List (Option Value)} {st : List Value} {b : SBt} {Y : OUt} {M : MM} {cells slots : Nat} {L1 : List (Option Value)} {M1 : MM} (k : JJ p l e R s m args below meth c D tyc A n0 ad0 nL Q pc L1 st (HH b Y M1) cells slots) (hL : wkL L1 L) (hM : M1 = M) : JJ p l e R s m args below meth c D tyc A n0 ad0 nL Q pc L st (HH b Y M) cells slots := by
  subst hM
  obtain ⟨h1, h2⟩ := wkL_spec _ _ hL
  intro ad ls H locs I
  refine k ad ls H locs ⟨⟨I.1.1, I.1.2.1, h1.trans I.1.2.2.1, fun i v hv => I.1.2.2.2 i v (h2 i v hv)⟩, I.2.1, I.2.2.1, I.2.2.2.1, I.2.2.2.2.1, I.2.2.2.2.2.1, I.2.2.2.2.2.2.1, fun v hv => ?_⟩
  obtain ⟨i, hi⟩ := List.getElem?_of_mem hv
  exact I.2.2.2.2.2.2.2 v (List.mem_of_getElem? (h2 i v hi))
theorem nI_rem {a d : Nat} (ha : a < 2 ^ 31) (hd : 0 < d) (hd2 : d < 2 ^ 31) : nI a - nI a / nI d * nI d = nI (a % d) := by
  have h1 : nI a / nI d = nI (a / d) := by
    apply Int32.toInt_inj.mp
    have hq : a / d < 2 ^ 31 := Nat.lt_of_le_of_lt (Nat.div_le_self a d) ha
    rw [Int32.toInt_div, nI_toInt ha, nI_toInt hd2, nI_toInt hq, Int.tdiv_eq_ediv_of_nonneg (by omega), ← Int.natCast_ediv]
    generalize a / d = q at hq ⊢
    exact Int.bmod_eq_of_le (by omega) (by omega)
  rw [h1]
  have h2 : nI (a / d) * nI d = nI (a / d * d) := (Int32.ofNat_mul _ _).symm
  rw [h2]
  have h3 : a / d * d + a % d = a := by rw [Nat.mul_comm]; exact Nat.div_add_mod a d
  have h4 : nI a = nI (a / d * d) + nI (a % d) := by rw [nI_add, h3]
  rw [h4, Int32.add_comm]
  exact Int32.add_sub_cancel _ _
theorem nI_sub {a d : Nat} (h : d ≤ a) : nI a - nI d = nI (a - d) := by
  have h1 : nI a = nI (a - d) + nI d := by rw [nI_add]; congr 1; omega
  rw [h1]
  exact Int32.add_sub_cancel _ _
theorem nI_mul (a d : Nat) : nI a * nI d = nI (a * d) := (Int32.ofNat_mul a d).symm
theorem nI_div2 {a d : Nat} (ha : a < 2 ^ 31) (hd : 0 < d) (hd2 : d < 2 ^ 31) : nI a / nI d = nI (a / d) := by
  apply Int32.toInt_inj.mp
  have hq : a / d < 2 ^ 31 := Nat.lt_of_le_of_lt (Nat.div_le_self a d) ha
  rw [Int32.toInt_div, nI_toInt ha, nI_toInt hd2, nI_toInt hq, Int.tdiv_eq_ediv_of_nonneg (by omega), ← Int.natCast_ediv]
  generalize a / d = q at hq ⊢
  exact Int.bmod_eq_of_le (by omega) (by omega)
section JB
variable {p : Program} {l : Launch} {e : Env} {R : Room} {s : State} {m : MethodId} {args : Array Value} {below : List Frame} {meth : Method} {c : Code} {D : va_G} {tyc : Nat → ClassId} {A : Nat → Prop} {n0 : Nat} {ad0 : Nat → Nat} {nL : Nat} {Q : State → Prop} {own : String} {cc : ByteArray} {pc : Nat} {L : List (Option Value)} {st : List Value} {h : MH} {cells slots : Nat}
theorem j_b_if_eq (x : j_X p l s m args meth c D tyc A own cc nL) {v : Int32} {off off2 : Int} {T E : Nat} (hd : decode cc pc = .ok (.ifCond .eq off, 3)) (ht : (pc : Int) + off = (T : Int)) (d1 : decode cc (pc + 3) = .ok (.iconst 1, 1)) (d2 : decode cc (pc + 3 + 1) = .ok (.goto off2, 3)) (ht2 : ((pc + 3 + 1 : Nat) : Int) + off2 = (E : Int)) (d3 : decode cc T = .ok (.iconst 0, 1)) (hE : T + 1 = E)
    (kk : JJ p l e R s m args below meth c D tyc A n0 ad0 nL Q E L (.int (jb (¬ v = 0)) :: st) h cells slots) : JJ p l e R s m args below meth c D tyc A n0 ad0 nL Q pc L (.int v :: st) h cells slots := by
  refine j_if_eq x hd ht (fun hc => ?_) (fun hc => ?_)
  · refine j_iconst (v := 0) x d3 (by decide) ?_
    rw [hE]
    rw [jb_f (fun q => q hc)] at kk
    exact kk
  · refine j_iconst (v := 1) x d1 (by decide) ?_
    refine j_goto (tgt := E) x d2 ht2 ?_
    rw [jb_t hc] at kk
    exact kk
theorem j_b_if_ne (x : j_X p l s m args meth c D tyc A own cc nL) {v : Int32} {off off2 : Int} {T E : Nat} (hd : decode cc pc = .ok (.ifCond .ne off, 3)) (ht : (pc : Int) + off = (T : Int)) (d1 : decode cc (pc + 3) = .ok (.iconst 1, 1)) (d2 : decode cc (pc + 3 + 1) = .ok (.goto off2, 3)) (ht2 : ((pc + 3 + 1 : Nat) : Int) + off2 = (E : Int)) (d3 : decode cc T = .ok (.iconst 0, 1)) (hE : T + 1 = E)
    (kk : JJ p l e R s m args below meth c D tyc A n0 ad0 nL Q E L (.int (jb (v = 0)) :: st) h cells slots) : JJ p l e R s m args below meth c D tyc A n0 ad0 nL Q pc L (.int v :: st) h cells slots := by
  refine j_if_ne x hd ht (fun hc => ?_) (fun hc => ?_)
  · refine j_iconst (v := 0) x d3 (by decide) ?_
    rw [hE]
    rw [jb_f (fun q => hc q)] at kk
    exact kk
  · refine j_iconst (v := 1) x d1 (by decide) ?_
    refine j_goto (tgt := E) x d2 ht2 ?_
    rw [jb_t hc] at kk
    exact kk
theorem j_b_if_lt (x : j_X p l s m args meth c D tyc A own cc nL) {v : Int32} {off off2 : Int} {T E : Nat} (hd : decode cc pc = .ok (.ifCond .lt off, 3)) (ht : (pc : Int) + off = (T : Int)) (d1 : decode cc (pc + 3) = .ok (.iconst 1, 1)) (d2 : decode cc (pc + 3 + 1) = .ok (.goto off2, 3)) (ht2 : ((pc + 3 + 1 : Nat) : Int) + off2 = (E : Int)) (d3 : decode cc T = .ok (.iconst 0, 1)) (hE : T + 1 = E)
    (kk : JJ p l e R s m args below meth c D tyc A n0 ad0 nL Q E L (.int (jb (¬ v < 0)) :: st) h cells slots) : JJ p l e R s m args below meth c D tyc A n0 ad0 nL Q pc L (.int v :: st) h cells slots := by
  refine j_if_lt x hd ht (fun hc => ?_) (fun hc => ?_)
  · refine j_iconst (v := 0) x d3 (by decide) ?_
    rw [hE]
    rw [jb_f (fun q => q hc)] at kk
    exact kk
  · refine j_iconst (v := 1) x d1 (by decide) ?_
    refine j_goto (tgt := E) x d2 ht2 ?_
    rw [jb_t hc] at kk
    exact kk
theorem j_b_if_ge (x : j_X p l s m args meth c D tyc A own cc nL) {v : Int32} {off off2 : Int} {T E : Nat} (hd : decode cc pc = .ok (.ifCond .ge off, 3)) (ht : (pc : Int) + off = (T : Int)) (d1 : decode cc (pc + 3) = .ok (.iconst 1, 1)) (d2 : decode cc (pc + 3 + 1) = .ok (.goto off2, 3)) (ht2 : ((pc + 3 + 1 : Nat) : Int) + off2 = (E : Int)) (d3 : decode cc T = .ok (.iconst 0, 1)) (hE : T + 1 = E)
    (kk : JJ p l e R s m args below meth c D tyc A n0 ad0 nL Q E L (.int (jb (¬ 0 ≤ v)) :: st) h cells slots) : JJ p l e R s m args below meth c D tyc A n0 ad0 nL Q pc L (.int v :: st) h cells slots := by
  refine j_if_ge x hd ht (fun hc => ?_) (fun hc => ?_)
  · refine j_iconst (v := 0) x d3 (by decide) ?_
    rw [hE]
    rw [jb_f (fun q => q hc)] at kk
    exact kk
  · refine j_iconst (v := 1) x d1 (by decide) ?_
    refine j_goto (tgt := E) x d2 ht2 ?_
    rw [jb_t hc] at kk
    exact kk
theorem j_b_if_gt (x : j_X p l s m args meth c D tyc A own cc nL) {v : Int32} {off off2 : Int} {T E : Nat} (hd : decode cc pc = .ok (.ifCond .gt off, 3)) (ht : (pc : Int) + off = (T : Int)) (d1 : decode cc (pc + 3) = .ok (.iconst 1, 1)) (d2 : decode cc (pc + 3 + 1) = .ok (.goto off2, 3)) (ht2 : ((pc + 3 + 1 : Nat) : Int) + off2 = (E : Int)) (d3 : decode cc T = .ok (.iconst 0, 1)) (hE : T + 1 = E)
    (kk : JJ p l e R s m args below meth c D tyc A n0 ad0 nL Q E L (.int (jb (¬ 0 < v)) :: st) h cells slots) : JJ p l e R s m args below meth c D tyc A n0 ad0 nL Q pc L (.int v :: st) h cells slots := by
  refine j_if_gt x hd ht (fun hc => ?_) (fun hc => ?_)
  · refine j_iconst (v := 0) x d3 (by decide) ?_
    rw [hE]
    rw [jb_f (fun q => q hc)] at kk
    exact kk
  · refine j_iconst (v := 1) x d1 (by decide) ?_
    refine j_goto (tgt := E) x d2 ht2 ?_
    rw [jb_t hc] at kk
    exact kk
theorem j_b_if_le (x : j_X p l s m args meth c D tyc A own cc nL) {v : Int32} {off off2 : Int} {T E : Nat} (hd : decode cc pc = .ok (.ifCond .le off, 3)) (ht : (pc : Int) + off = (T : Int)) (d1 : decode cc (pc + 3) = .ok (.iconst 1, 1)) (d2 : decode cc (pc + 3 + 1) = .ok (.goto off2, 3)) (ht2 : ((pc + 3 + 1 : Nat) : Int) + off2 = (E : Int)) (d3 : decode cc T = .ok (.iconst 0, 1)) (hE : T + 1 = E)
    (kk : JJ p l e R s m args below meth c D tyc A n0 ad0 nL Q E L (.int (jb (¬ v ≤ 0)) :: st) h cells slots) : JJ p l e R s m args below meth c D tyc A n0 ad0 nL Q pc L (.int v :: st) h cells slots := by
  refine j_if_le x hd ht (fun hc => ?_) (fun hc => ?_)
  · refine j_iconst (v := 0) x d3 (by decide) ?_
    rw [hE]
    rw [jb_f (fun q => q hc)] at kk
    exact kk
  · refine j_iconst (v := 1) x d1 (by decide) ?_
    refine j_goto (tgt := E) x d2 ht2 ?_
    rw [jb_t hc] at kk
    exact kk
theorem j_b_icmp_eq (x : j_X p l s m args meth c D tyc A own cc nL) {v w : Int32} {off off2 : Int} {T E : Nat} (hd : decode cc pc = .ok (.if_icmp .eq off, 3)) (ht : (pc : Int) + off = (T : Int)) (d1 : decode cc (pc + 3) = .ok (.iconst 1, 1)) (d2 : decode cc (pc + 3 + 1) = .ok (.goto off2, 3)) (ht2 : ((pc + 3 + 1 : Nat) : Int) + off2 = (E : Int)) (d3 : decode cc T = .ok (.iconst 0, 1)) (hE : T + 1 = E)
    (kk : JJ p l e R s m args below meth c D tyc A n0 ad0 nL Q E L (.int (jb (¬ v = w)) :: st) h cells slots) : JJ p l e R s m args below meth c D tyc A n0 ad0 nL Q pc L (.int w :: .int v :: st) h cells slots := by
  refine j_icmp_eq x hd ht (fun hc => ?_) (fun hc => ?_)
  · refine j_iconst (v := 0) x d3 (by decide) ?_
    rw [hE]
    rw [jb_f (fun q => q hc)] at kk
    exact kk
  · refine j_iconst (v := 1) x d1 (by decide) ?_
    refine j_goto (tgt := E) x d2 ht2 ?_
    rw [jb_t hc] at kk
    exact kk
theorem j_b_icmp_ne (x : j_X p l s m args meth c D tyc A own cc nL) {v w : Int32} {off off2 : Int} {T E : Nat} (hd : decode cc pc = .ok (.if_icmp .ne off, 3)) (ht : (pc : Int) + off = (T : Int)) (d1 : decode cc (pc + 3) = .ok (.iconst 1, 1)) (d2 : decode cc (pc + 3 + 1) = .ok (.goto off2, 3)) (ht2 : ((pc + 3 + 1 : Nat) : Int) + off2 = (E : Int)) (d3 : decode cc T = .ok (.iconst 0, 1)) (hE : T + 1 = E)
    (kk : JJ p l e R s m args below meth c D tyc A n0 ad0 nL Q E L (.int (jb (v = w)) :: st) h cells slots) : JJ p l e R s m args below meth c D tyc A n0 ad0 nL Q pc L (.int w :: .int v :: st) h cells slots := by
  refine j_icmp_ne x hd ht (fun hc => ?_) (fun hc => ?_)
  · refine j_iconst (v := 0) x d3 (by decide) ?_
    rw [hE]
    rw [jb_f (fun q => hc q)] at kk
    exact kk
  · refine j_iconst (v := 1) x d1 (by decide) ?_
    refine j_goto (tgt := E) x d2 ht2 ?_
    rw [jb_t hc] at kk
    exact kk
theorem j_b_icmp_lt (x : j_X p l s m args meth c D tyc A own cc nL) {v w : Int32} {off off2 : Int} {T E : Nat} (hd : decode cc pc = .ok (.if_icmp .lt off, 3)) (ht : (pc : Int) + off = (T : Int)) (d1 : decode cc (pc + 3) = .ok (.iconst 1, 1)) (d2 : decode cc (pc + 3 + 1) = .ok (.goto off2, 3)) (ht2 : ((pc + 3 + 1 : Nat) : Int) + off2 = (E : Int)) (d3 : decode cc T = .ok (.iconst 0, 1)) (hE : T + 1 = E)
    (kk : JJ p l e R s m args below meth c D tyc A n0 ad0 nL Q E L (.int (jb (¬ v < w)) :: st) h cells slots) : JJ p l e R s m args below meth c D tyc A n0 ad0 nL Q pc L (.int w :: .int v :: st) h cells slots := by
  refine j_icmp_lt x hd ht (fun hc => ?_) (fun hc => ?_)
  · refine j_iconst (v := 0) x d3 (by decide) ?_
    rw [hE]
    rw [jb_f (fun q => q hc)] at kk
    exact kk
  · refine j_iconst (v := 1) x d1 (by decide) ?_
    refine j_goto (tgt := E) x d2 ht2 ?_
    rw [jb_t hc] at kk
    exact kk
theorem j_b_icmp_ge (x : j_X p l s m args meth c D tyc A own cc nL) {v w : Int32} {off off2 : Int} {T E : Nat} (hd : decode cc pc = .ok (.if_icmp .ge off, 3)) (ht : (pc : Int) + off = (T : Int)) (d1 : decode cc (pc + 3) = .ok (.iconst 1, 1)) (d2 : decode cc (pc + 3 + 1) = .ok (.goto off2, 3)) (ht2 : ((pc + 3 + 1 : Nat) : Int) + off2 = (E : Int)) (d3 : decode cc T = .ok (.iconst 0, 1)) (hE : T + 1 = E)
    (kk : JJ p l e R s m args below meth c D tyc A n0 ad0 nL Q E L (.int (jb (¬ w ≤ v)) :: st) h cells slots) : JJ p l e R s m args below meth c D tyc A n0 ad0 nL Q pc L (.int w :: .int v :: st) h cells slots := by
  refine j_icmp_ge x hd ht (fun hc => ?_) (fun hc => ?_)
  · refine j_iconst (v := 0) x d3 (by decide) ?_
    rw [hE]
    rw [jb_f (fun q => q hc)] at kk
    exact kk
  · refine j_iconst (v := 1) x d1 (by decide) ?_
    refine j_goto (tgt := E) x d2 ht2 ?_
    rw [jb_t hc] at kk
    exact kk
theorem j_b_icmp_gt (x : j_X p l s m args meth c D tyc A own cc nL) {v w : Int32} {off off2 : Int} {T E : Nat} (hd : decode cc pc = .ok (.if_icmp .gt off, 3)) (ht : (pc : Int) + off = (T : Int)) (d1 : decode cc (pc + 3) = .ok (.iconst 1, 1)) (d2 : decode cc (pc + 3 + 1) = .ok (.goto off2, 3)) (ht2 : ((pc + 3 + 1 : Nat) : Int) + off2 = (E : Int)) (d3 : decode cc T = .ok (.iconst 0, 1)) (hE : T + 1 = E)
    (kk : JJ p l e R s m args below meth c D tyc A n0 ad0 nL Q E L (.int (jb (¬ w < v)) :: st) h cells slots) : JJ p l e R s m args below meth c D tyc A n0 ad0 nL Q pc L (.int w :: .int v :: st) h cells slots := by
  refine j_icmp_gt x hd ht (fun hc => ?_) (fun hc => ?_)
  · refine j_iconst (v := 0) x d3 (by decide) ?_
    rw [hE]
    rw [jb_f (fun q => q hc)] at kk
    exact kk
  · refine j_iconst (v := 1) x d1 (by decide) ?_
    refine j_goto (tgt := E) x d2 ht2 ?_
    rw [jb_t hc] at kk
    exact kk
theorem j_b_icmp_le (x : j_X p l s m args meth c D tyc A own cc nL) {v w : Int32} {off off2 : Int} {T E : Nat} (hd : decode cc pc = .ok (.if_icmp .le off, 3)) (ht : (pc : Int) + off = (T : Int)) (d1 : decode cc (pc + 3) = .ok (.iconst 1, 1)) (d2 : decode cc (pc + 3 + 1) = .ok (.goto off2, 3)) (ht2 : ((pc + 3 + 1 : Nat) : Int) + off2 = (E : Int)) (d3 : decode cc T = .ok (.iconst 0, 1)) (hE : T + 1 = E)
    (kk : JJ p l e R s m args below meth c D tyc A n0 ad0 nL Q E L (.int (jb (¬ v ≤ w)) :: st) h cells slots) : JJ p l e R s m args below meth c D tyc A n0 ad0 nL Q pc L (.int w :: .int v :: st) h cells slots := by
  refine j_icmp_le x hd ht (fun hc => ?_) (fun hc => ?_)
  · refine j_iconst (v := 0) x d3 (by decide) ?_
    rw [hE]
    rw [jb_f (fun q => q hc)] at kk
    exact kk
  · refine j_iconst (v := 1) x d1 (by decide) ?_
    refine j_goto (tgt := E) x d2 ht2 ?_
    rw [jb_t hc] at kk
    exact kk
end JB
