section
/-! ===== what the changes leave as it was ===== -/
theorem m_ref {M : MM} {r t : Int32} {i k : Nat} (h : 94 ≤ i) : jref M r t i k = M i k := by
  unfold jref
  rw [jm_n (by omega), jm_n (by omega), jm_n (by omega)]
theorem m_lg {M : MM} {a g i k : Nat} (h : g + 5 < i) : jlg M a g i k = M i k := by
  unfold jlg
  rw [if_neg (by omega), if_neg (by omega), if_neg (by omega), if_neg (by omega), if_neg (by omega), if_neg (by omega)]
theorem m_keep {M : MM} {j q i k : Nat} (hj : j < 9) (h : 94 ≤ i) : jkeep M j q i k = M i k := by
  unfold jkeep jkh
  rw [jm_n (by omega), jm_n (by omega), m_lg (by omega)]
theorem m_put {M : MM} {n a : Nat} {t v : Int32} {i k : Nat} (h : i ≠ a) : jput n M a t v i k = M i k := by
  unfold jput
  split
  · rfl
  · rw [jm_n (fun q => h q.1)]
theorem m_addr {M : MM} {g i k : Nat} {t : Int32} (h : g + 2 < i) : jaddr M g t i k = M i k := by
  unfold jaddr
  split
  · rfl
  · rw [jm_n (by omega), m_put (by omega)]
theorem m_setr {M : MM} {g i k : Nat} {t u v : Int32} (h : g + 2 < i) : jsetr M g t u v i k = M i k := by
  unfold jsetr
  rw [m_addr h, m_addr h, m_addr h, jm_n (by omega)]
theorem m_team {M : MM} {j q i k : Nat} {u : Int32} (hj : j < 9) (h : 94 ≤ i) : jteam M j q u i k = M i k := by
  unfold jteam
  rw [jm_n (by omega), m_put (by omega), m_keep hj h]
theorem m_rules {M : MM} {j q i k : Nat} {t u v : Int32} (hj : j < 9) (h : 94 ≤ i) : jrules M j q t u v i k = M i k := by
  unfold jrules
  rw [m_setr (by omega), m_keep hj h]
theorem m_clear {M : MM} {i k : Nat} (h : 94 ≤ i) : jclear M i k = M i k := jclear_n (by omega)
theorem m_give {M : MM} {j q i k : Nat} {t u : Int32} (hj : j < 9) (h : 94 ≤ i) : jgive M j q t u i k = M i k := by
  unfold jgive
  rw [jm_n (by omega), jm_n (by omega), m_keep hj h, m_clear h]
theorem m_nocmd {M : MM} {i k : Nat} (h : 94 ≤ i) : jnocmd M i k = M i k := by
  unfold jnocmd
  rw [jm_n (by omega), jm_n (by omega), jm_n (by omega), jm_n (by omega)]
theorem x_addr {M : MM} {g : Nat} {t : Int32} : jaddr M g t g 6 = if t = -1 then M g 6 else M g 6 + 1 := by
  unfold jaddr
  split
  · rfl
  · rw [jm_s]
theorem x_xr {M : MM} {t : Int32} : jxr M t 95 5 = if t < 0 then M 95 5 else (if 6 + (M 95 5).toNatClampNeg = 5 then t else M 95 5 + 1) := by
  unfold jxr
  split
  · rfl
  · rw [jm]
    by_cases h : 6 + (M 95 5).toNatClampNeg = 5
    · omega
    · rw [if_neg (fun q => h q.2.symm), jm_s, if_neg h]
theorem x_rule {M N : MM} {g : Nat} {t : Int32} (h : M g 6 = N 95 5) (h1 : ¬ t < -1) : jaddr M g t g 6 = jxr N t 95 5 := by
  rw [x_addr, x_xr, h]
  by_cases ht : t < 0
  · rw [if_pos (i_neg1 h1 ht), if_pos ht]
  · rw [if_neg (fun q => ht (by rw [q]; decide)), if_neg ht, if_neg (by omega)]
theorem x_rules {M N : MM} {g : Nat} {t u v : Int32} (h : rRules t u v = none) : jsetr M g t u v g 6 = jxR N t u v 95 5 := by
  have hk : (¬ t < (-1) ∧ ¬ 4 < t) ∧ (¬ u < (-1) ∧ ¬ 4 < u) ∧ (¬ v < (-1) ∧ ¬ 4 < v) := by
    apply Decidable.byContradiction
    intro q
    rw [rRules, if_pos q] at h
    cases h
  unfold jsetr jxR
  exact x_rule (x_rule (x_rule (by rw [jm_s, jm_s]) hk.1.1) hk.2.1.1) hk.2.2.1
theorem x_R {t u v : Int32} : ∀ N : MM, jxR N t u v 94 3 = N 94 3 := by
  intro N
  have h : ∀ (M : MM) (t : Int32), jxr M t 94 3 = M 94 3 := fun M t => by
    unfold jxr
    split
    · rfl
    · rw [jm_n (by omega), jm_n (by omega)]
  unfold jxR
  rw [h, h, h, jm_n (by omega)]
end

section
/-! ===== loops; the fixtures that the class lays ===== -/
theorem j_for {p : Program} {l : Launch} {e : Env} {R : Room} {s : State} {m : MethodId} {args : Array Value} {below : List Frame} {meth : Method} {c : Code} {D : va_G} {tyc : Nat → ClassId} {A : Nat → Prop} {n0 : Nat} {ad0 : Nat → Nat} {nL : Nat} {Q : State → Prop} {pc : Nat} {L : List (Option Value)} {st : List Value} {b : SBt} {Y : OUt} {M : MM} {cells slots : Nat} (n : Nat) (Lf : Nat → List (Option Value)) (Mf : Nat → MM) (P : Nat → Prop) (hL : Lf 0 = L) (hM : Mf 0 = M) (h0 : P 0)
    (step : ∀ j, j < n → P j → (P (j + 1) → JJ p l e R s m args below meth c D tyc A n0 ad0 nL Q pc (Lf (j + 1)) st (HH b Y (Mf (j + 1))) cells slots) → JJ p l e R s m args below meth c D tyc A n0 ad0 nL Q pc (Lf j) st (HH b Y (Mf j)) cells slots)
    (last : P n → JJ p l e R s m args below meth c D tyc A n0 ad0 nL Q pc (Lf n) st (HH b Y (Mf n)) cells slots) : JJ p l e R s m args below meth c D tyc A n0 ad0 nL Q pc L st (HH b Y M) cells slots := by
  subst hL
  subst hM
  have key : ∀ r j, j + r = n → P j → JJ p l e R s m args below meth c D tyc A n0 ad0 nL Q pc (Lf j) st (HH b Y (Mf j)) cells slots := by
    intro r
    induction r with
    | zero =>
      intro j hj hP
      have hjn : j = n := by omega
      subst hjn
      exact last hP
    | succ r ih =>
      intro j hj hP
      exact step j (by omega) hP (fun h => ih (j + 1) (by omega) h)
  exact key n 0 (by omega) h0
def wkL : List (Option Value) → List (Option Value) → Prop
  | [], [] => True
  | none :: a, _ :: b => wkL a b
  | some v :: a, w :: b => w = some v ∧ wkL a b
  | _, _ => False
theorem wkL_spec : ∀ (a b : List (Option Value)), wkL a b → a.length = b.length ∧ ∀ (i : Nat) (v : Value), a[i]? = some (some v) → b[i]? = some (some v)
  | [], [], _ => ⟨rfl, fun _ _ h => h⟩
  | [], _ :: _, h => h.elim
  | none :: a, [], h => h.elim
  | some _ :: a, [], h => h.elim
  | none :: a, w :: b, h => by
    obtain ⟨h1, h2⟩ := wkL_spec a b h
    refine ⟨by simp [h1], fun i v hi => ?_⟩
    cases i with
    | zero => cases hi
    | succ i => exact h2 i v hi
  | some u :: a, w :: b, h => by
    obtain ⟨h0, h⟩ := h
    obtain ⟨h1, h2⟩ := wkL_spec a b h
    refine ⟨by simp [h1], fun i v hi => ?_⟩
    cases i with
    | zero => subst h0; exact hi
    | succ i => exact h2 i v hi
theorem wk_c {v : Value} {w : Option Value} {a b : List (Option Value)} (h : w = some v) (k : wkL a b) : wkL (some v :: a) (w :: b) := ⟨h, k⟩
theorem wk_n {w : Option Value} {a b : List (Option Value)} (k : wkL a b) : wkL (none :: a) (w :: b) := k
theorem wk_0 : wkL [] [] := trivial
theorem j_goal {p : Program} {l : Launch} {e : Env} {R : Room} {s : State} {m : MethodId} {args : Array Value} {below : List Frame} {meth : Method} {c : Code} {D : va_G} {tyc : Nat → ClassId} {A : Nat → Prop} {n0 : Nat} {ad0 : Nat → Nat} {nL : Nat} {Q : State → Prop} {pc : Nat} {L : List (Option Value)} {st : List Value} {b : SBt} {Y : OUt} {M : MM} {cells slots : Nat} {L1 : List (Option Value)} {M1 : MM} (k : JJ p l e R s m args below meth c D tyc A n0 ad0 nL Q pc L1 st (HH b Y M1) cells slots) (hL : wkL L1 L) (hM : M1 = M) : JJ p l e R s m args below meth c D tyc A n0 ad0 nL Q pc L st (HH b Y M) cells slots := by
  subst hM
  obtain ⟨h1, h2⟩ := wkL_spec _ _ hL
  intro ad ls H locs I
  refine k ad ls H locs ⟨⟨I.1.1, I.1.2.1, h1.trans I.1.2.2.1, fun i v hv => I.1.2.2.2 i v (h2 i v hv)⟩, I.2.1, I.2.2.1, I.2.2.2.1, I.2.2.2.2.1, I.2.2.2.2.2.1, I.2.2.2.2.2.2.1, fun v hv => ?_⟩
  obtain ⟨i, hi⟩ := List.getElem?_of_mem hv
  exact I.2.2.2.2.2.2.2 v (List.mem_of_getElem? (h2 i v hi))
theorem nI_rem {a d : Nat} (ha : a < 2 ^ 31) (hd : 0 < d) (hd2 : d < 2 ^ 31) : nI a - nI a / nI d * nI d = nI (a % d) := by
  have h1 : nI a / nI d = nI (a / d) := by
    apply Int32.toInt_inj.mp
    have hq : a / d < 2 ^ 31 := Nat.lt_of_le_of_lt (Nat.div_le_self a d) ha
    rw [Int32.toInt_div, nI_toInt ha, nI_toInt hd2, nI_toInt hq, Int.tdiv_eq_ediv_of_nonneg (by omega), ← Int.natCast_ediv]
    generalize a / d = q at hq ⊢
    exact Int.bmod_eq_of_le (by omega) (by omega)
  rw [h1]
  have h2 : nI (a / d) * nI d = nI (a / d * d) := (Int32.ofNat_mul _ _).symm
  rw [h2]
  have h3 : a / d * d + a % d = a := by rw [Nat.mul_comm]; exact Nat.div_add_mod a d
  have h4 : nI a = nI (a / d * d) + nI (a % d) := by rw [nI_add, h3]
  rw [h4, Int32.add_comm]
  exact Int32.add_sub_cancel _ _
theorem nI_sub {a d : Nat} (h : d ≤ a) : nI a - nI d = nI (a - d) := by
  have h1 : nI a = nI (a - d) + nI d := by rw [nI_add]; congr 1; omega
  rw [h1]
  exact Int32.add_sub_cancel _ _
theorem nI_mul (a d : Nat) : nI a * nI d = nI (a * d) := (Int32.ofNat_mul a d).symm
theorem nI_div2 {a d : Nat} (ha : a < 2 ^ 31) (hd : 0 < d) (hd2 : d < 2 ^ 31) : nI a / nI d = nI (a / d) := by
  apply Int32.toInt_inj.mp
  have hq : a / d < 2 ^ 31 := Nat.lt_of_le_of_lt (Nat.div_le_self a d) ha
  rw [Int32.toInt_div, nI_toInt ha, nI_toInt hd2, nI_toInt hq, Int.tdiv_eq_ediv_of_nonneg (by omega), ← Int.natCast_ediv]
  generalize a / d = q at hq ⊢
  exact Int.bmod_eq_of_le (by omega) (by omega)
section JB
variable {p : Program} {l : Launch} {e : Env} {R : Room} {s : State} {m : MethodId} {args : Array Value} {below : List Frame} {meth : Method} {c : Code} {D : va_G} {tyc : Nat → ClassId} {A : Nat → Prop} {n0 : Nat} {ad0 : Nat → Nat} {nL : Nat} {Q : State → Prop} {own : String} {cc : ByteArray} {pc : Nat} {L : List (Option Value)} {st : List Value} {h : MH} {cells slots : Nat}
theorem j_b_if_eq (x : j_X p l s m args meth c D tyc A own cc nL) {v : Int32} {off off2 : Int} {T E : Nat} (hd : decode cc pc = .ok (.ifCond .eq off, 3)) (ht : (pc : Int) + off = (T : Int)) (d1 : decode cc (pc + 3) = .ok (.iconst 1, 1)) (d2 : decode cc (pc + 3 + 1) = .ok (.goto off2, 3)) (ht2 : ((pc + 3 + 1 : Nat) : Int) + off2 = (E : Int)) (d3 : decode cc T = .ok (.iconst 0, 1)) (hE : T + 1 = E)
    (kk : JJ p l e R s m args below meth c D tyc A n0 ad0 nL Q E L (.int (jb (¬ v = 0)) :: st) h cells slots) : JJ p l e R s m args below meth c D tyc A n0 ad0 nL Q pc L (.int v :: st) h cells slots := by
  refine j_if_eq x hd ht (fun hc => ?_) (fun hc => ?_)
  · refine j_iconst (v := 0) x d3 (by decide) ?_
    rw [hE]
    rw [jb_f (fun q => q hc)] at kk
    exact kk
  · refine j_iconst (v := 1) x d1 (by decide) ?_
    refine j_goto (tgt := E) x d2 ht2 ?_
    rw [jb_t hc] at kk
    exact kk
theorem j_b_if_ne (x : j_X p l s m args meth c D tyc A own cc nL) {v : Int32} {off off2 : Int} {T E : Nat} (hd : decode cc pc = .ok (.ifCond .ne off, 3)) (ht : (pc : Int) + off = (T : Int)) (d1 : decode cc (pc + 3) = .ok (.iconst 1, 1)) (d2 : decode cc (pc + 3 + 1) = .ok (.goto off2, 3)) (ht2 : ((pc + 3 + 1 : Nat) : Int) + off2 = (E : Int)) (d3 : decode cc T = .ok (.iconst 0, 1)) (hE : T + 1 = E)
    (kk : JJ p l e R s m args below meth c D tyc A n0 ad0 nL Q E L (.int (jb (v = 0)) :: st) h cells slots) : JJ p l e R s m args below meth c D tyc A n0 ad0 nL Q pc L (.int v :: st) h cells slots := by
  refine j_if_ne x hd ht (fun hc => ?_) (fun hc => ?_)
  · refine j_iconst (v := 0) x d3 (by decide) ?_
    rw [hE]
    rw [jb_f (fun q => hc q)] at kk
    exact kk
  · refine j_iconst (v := 1) x d1 (by decide) ?_
    refine j_goto (tgt := E) x d2 ht2 ?_
    rw [jb_t hc] at kk
    exact kk
theorem j_b_if_lt (x : j_X p l s m args meth c D tyc A own cc nL) {v : Int32} {off off2 : Int} {T E : Nat} (hd : decode cc pc = .ok (.ifCond .lt off, 3)) (ht : (pc : Int) + off = (T : Int)) (d1 : decode cc (pc + 3) = .ok (.iconst 1, 1)) (d2 : decode cc (pc + 3 + 1) = .ok (.goto off2, 3)) (ht2 : ((pc + 3 + 1 : Nat) : Int) + off2 = (E : Int)) (d3 : decode cc T = .ok (.iconst 0, 1)) (hE : T + 1 = E)
    (kk : JJ p l e R s m args below meth c D tyc A n0 ad0 nL Q E L (.int (jb (¬ v < 0)) :: st) h cells slots) : JJ p l e R s m args below meth c D tyc A n0 ad0 nL Q pc L (.int v :: st) h cells slots := by
  refine j_if_lt x hd ht (fun hc => ?_) (fun hc => ?_)
  · refine j_iconst (v := 0) x d3 (by decide) ?_
    rw [hE]
    rw [jb_f (fun q => q hc)] at kk
    exact kk
  · refine j_iconst (v := 1) x d1 (by decide) ?_
    refine j_goto (tgt := E) x d2 ht2 ?_
    rw [jb_t hc] at kk
    exact kk
theorem j_b_if_ge (x : j_X p l s m args meth c D tyc A own cc nL) {v : Int32} {off off2 : Int} {T E : Nat} (hd : decode cc pc = .ok (.ifCond .ge off, 3)) (ht : (pc : Int) + off = (T : Int)) (d1 : decode cc (pc + 3) = .ok (.iconst 1, 1)) (d2 : decode cc (pc + 3 + 1) = .ok (.goto off2, 3)) (ht2 : ((pc + 3 + 1 : Nat) : Int) + off2 = (E : Int)) (d3 : decode cc T = .ok (.iconst 0, 1)) (hE : T + 1 = E)
    (kk : JJ p l e R s m args below meth c D tyc A n0 ad0 nL Q E L (.int (jb (¬ 0 ≤ v)) :: st) h cells slots) : JJ p l e R s m args below meth c D tyc A n0 ad0 nL Q pc L (.int v :: st) h cells slots := by
  refine j_if_ge x hd ht (fun hc => ?_) (fun hc => ?_)
  · refine j_iconst (v := 0) x d3 (by decide) ?_
    rw [hE]
    rw [jb_f (fun q => q hc)] at kk
    exact kk
  · refine j_iconst (v := 1) x d1 (by decide) ?_
    refine j_goto (tgt := E) x d2 ht2 ?_
    rw [jb_t hc] at kk
    exact kk
theorem j_b_if_gt (x : j_X p l s m args meth c D tyc A own cc nL) {v : Int32} {off off2 : Int} {T E : Nat} (hd : decode cc pc = .ok (.ifCond .gt off, 3)) (ht : (pc : Int) + off = (T : Int)) (d1 : decode cc (pc + 3) = .ok (.iconst 1, 1)) (d2 : decode cc (pc + 3 + 1) = .ok (.goto off2, 3)) (ht2 : ((pc + 3 + 1 : Nat) : Int) + off2 = (E : Int)) (d3 : decode cc T = .ok (.iconst 0, 1)) (hE : T + 1 = E)
    (kk : JJ p l e R s m args below meth c D tyc A n0 ad0 nL Q E L (.int (jb (¬ 0 < v)) :: st) h cells slots) : JJ p l e R s m args below meth c D tyc A n0 ad0 nL Q pc L (.int v :: st) h cells slots := by
  refine j_if_gt x hd ht (fun hc => ?_) (fun hc => ?_)
  · refine j_iconst (v := 0) x d3 (by decide) ?_
    rw [hE]
    rw [jb_f (fun q => q hc)] at kk
    exact kk
  · refine j_iconst (v := 1) x d1 (by decide) ?_
    refine j_goto (tgt := E) x d2 ht2 ?_
    rw [jb_t hc] at kk
    exact kk
theorem j_b_if_le (x : j_X p l s m args meth c D tyc A own cc nL) {v : Int32} {off off2 : Int} {T E : Nat} (hd : decode cc pc = .ok (.ifCond .le off, 3)) (ht : (pc : Int) + off = (T : Int)) (d1 : decode cc (pc + 3) = .ok (.iconst 1, 1)) (d2 : decode cc (pc + 3 + 1) = .ok (.goto off2, 3)) (ht2 : ((pc + 3 + 1 : Nat) : Int) + off2 = (E : Int)) (d3 : decode cc T = .ok (.iconst 0, 1)) (hE : T + 1 = E)
    (kk : JJ p l e R s m args below meth c D tyc A n0 ad0 nL Q E L (.int (jb (¬ v ≤ 0)) :: st) h cells slots) : JJ p l e R s m args below meth c D tyc A n0 ad0 nL Q pc L (.int v :: st) h cells slots := by
  refine j_if_le x hd ht (fun hc => ?_) (fun hc => ?_)
  · refine j_iconst (v := 0) x d3 (by decide) ?_
    rw [hE]
    rw [jb_f (fun q => q hc)] at kk
    exact kk
  · refine j_iconst (v := 1) x d1 (by decide) ?_
    refine j_goto (tgt := E) x d2 ht2 ?_
    rw [jb_t hc] at kk
    exact kk
theorem j_b_icmp_eq (x : j_X p l s m args meth c D tyc A own cc nL) {v w : Int32} {off off2 : Int} {T E : Nat} (hd : decode cc pc = .ok (.if_icmp .eq off, 3)) (ht : (pc : Int) + off = (T : Int)) (d1 : decode cc (pc + 3) = .ok (.iconst 1, 1)) (d2 : decode cc (pc + 3 + 1) = .ok (.goto off2, 3)) (ht2 : ((pc + 3 + 1 : Nat) : Int) + off2 = (E : Int)) (d3 : decode cc T = .ok (.iconst 0, 1)) (hE : T + 1 = E)
    (kk : JJ p l e R s m args below meth c D tyc A n0 ad0 nL Q E L (.int (jb (¬ v = w)) :: st) h cells slots) : JJ p l e R s m args below meth c D tyc A n0 ad0 nL Q pc L (.int w :: .int v :: st) h cells slots := by
  refine j_icmp_eq x hd ht (fun hc => ?_) (fun hc => ?_)
  · refine j_iconst (v := 0) x d3 (by decide) ?_
    rw [hE]
    rw [jb_f (fun q => q hc)] at kk
    exact kk
  · refine j_iconst (v := 1) x d1 (by decide) ?_
    refine j_goto (tgt := E) x d2 ht2 ?_
    rw [jb_t hc] at kk
    exact kk
theorem j_b_icmp_ne (x : j_X p l s m args meth c D tyc A own cc nL) {v w : Int32} {off off2 : Int} {T E : Nat} (hd : decode cc pc = .ok (.if_icmp .ne off, 3)) (ht : (pc : Int) + off = (T : Int)) (d1 : decode cc (pc + 3) = .ok (.iconst 1, 1)) (d2 : decode cc (pc + 3 + 1) = .ok (.goto off2, 3)) (ht2 : ((pc + 3 + 1 : Nat) : Int) + off2 = (E : Int)) (d3 : decode cc T = .ok (.iconst 0, 1)) (hE : T + 1 = E)
    (kk : JJ p l e R s m args below meth c D tyc A n0 ad0 nL Q E L (.int (jb (v = w)) :: st) h cells slots) : JJ p l e R s m args below meth c D tyc A n0 ad0 nL Q pc L (.int w :: .int v :: st) h cells slots := by
  refine j_icmp_ne x hd ht (fun hc => ?_) (fun hc => ?_)
  · refine j_iconst (v := 0) x d3 (by decide) ?_
    rw [hE]
    rw [jb_f (fun q => hc q)] at kk
    exact kk
  · refine j_iconst (v := 1) x d1 (by decide) ?_
    refine j_goto (tgt := E) x d2 ht2 ?_
    rw [jb_t hc] at kk
    exact kk
theorem j_b_icmp_lt (x : j_X p l s m args meth c D tyc A own cc nL) {v w : Int32} {off off2 : Int} {T E : Nat} (hd : decode cc pc = .ok (.if_icmp .lt off, 3)) (ht : (pc : Int) + off = (T : Int)) (d1 : decode cc (pc + 3) = .ok (.iconst 1, 1)) (d2 : decode cc (pc + 3 + 1) = .ok (.goto off2, 3)) (ht2 : ((pc + 3 + 1 : Nat) : Int) + off2 = (E : Int)) (d3 : decode cc T = .ok (.iconst 0, 1)) (hE : T + 1 = E)
    (kk : JJ p l e R s m args below meth c D tyc A n0 ad0 nL Q E L (.int (jb (¬ v < w)) :: st) h cells slots) : JJ p l e R s m args below meth c D tyc A n0 ad0 nL Q pc L (.int w :: .int v :: st) h cells slots := by
  refine j_icmp_lt x hd ht (fun hc => ?_) (fun hc => ?_)
  · refine j_iconst (v := 0) x d3 (by decide) ?_
    rw [hE]
    rw [jb_f (fun q => q hc)] at kk
    exact kk
  · refine j_iconst (v := 1) x d1 (by decide) ?_
    refine j_goto (tgt := E) x d2 ht2 ?_
    rw [jb_t hc] at kk
    exact kk
theorem j_b_icmp_ge (x : j_X p l s m args meth c D tyc A own cc nL) {v w : Int32} {off off2 : Int} {T E : Nat} (hd : decode cc pc = .ok (.if_icmp .ge off, 3)) (ht : (pc : Int) + off = (T : Int)) (d1 : decode cc (pc + 3) = .ok (.iconst 1, 1)) (d2 : decode cc (pc + 3 + 1) = .ok (.goto off2, 3)) (ht2 : ((pc + 3 + 1 : Nat) : Int) + off2 = (E : Int)) (d3 : decode cc T = .ok (.iconst 0, 1)) (hE : T + 1 = E)
    (kk : JJ p l e R s m args below meth c D tyc A n0 ad0 nL Q E L (.int (jb (¬ w ≤ v)) :: st) h cells slots) : JJ p l e R s m args below meth c D tyc A n0 ad0 nL Q pc L (.int w :: .int v :: st) h cells slots := by
  refine j_icmp_ge x hd ht (fun hc => ?_) (fun hc => ?_)
  · refine j_iconst (v := 0) x d3 (by decide) ?_
    rw [hE]
    rw [jb_f (fun q => q hc)] at kk
    exact kk
  · refine j_iconst (v := 1) x d1 (by decide) ?_
    refine j_goto (tgt := E) x d2 ht2 ?_
    rw [jb_t hc] at kk
    exact kk
theorem j_b_icmp_gt (x : j_X p l s m args meth c D tyc A own cc nL) {v w : Int32} {off off2 : Int} {T E : Nat} (hd : decode cc pc = .ok (.if_icmp .gt off, 3)) (ht : (pc : Int) + off = (T : Int)) (d1 : decode cc (pc + 3) = .ok (.iconst 1, 1)) (d2 : decode cc (pc + 3 + 1) = .ok (.goto off2, 3)) (ht2 : ((pc + 3 + 1 : Nat) : Int) + off2 = (E : Int)) (d3 : decode cc T = .ok (.iconst 0, 1)) (hE : T + 1 = E)
    (kk : JJ p l e R s m args below meth c D tyc A n0 ad0 nL Q E L (.int (jb (¬ w < v)) :: st) h cells slots) : JJ p l e R s m args below meth c D tyc A n0 ad0 nL Q pc L (.int w :: .int v :: st) h cells slots := by
  refine j_icmp_gt x hd ht (fun hc => ?_) (fun hc => ?_)
  · refine j_iconst (v := 0) x d3 (by decide) ?_
    rw [hE]
    rw [jb_f (fun q => q hc)] at kk
    exact kk
  · refine j_iconst (v := 1) x d1 (by decide) ?_
    refine j_goto (tgt := E) x d2 ht2 ?_
    rw [jb_t hc] at kk
    exact kk
theorem j_b_icmp_le (x : j_X p l s m args meth c D tyc A own cc nL) {v w : Int32} {off off2 : Int} {T E : Nat} (hd : decode cc pc = .ok (.if_icmp .le off, 3)) (ht : (pc : Int) + off = (T : Int)) (d1 : decode cc (pc + 3) = .ok (.iconst 1, 1)) (d2 : decode cc (pc + 3 + 1) = .ok (.goto off2, 3)) (ht2 : ((pc + 3 + 1 : Nat) : Int) + off2 = (E : Int)) (d3 : decode cc T = .ok (.iconst 0, 1)) (hE : T + 1 = E)
    (kk : JJ p l e R s m args below meth c D tyc A n0 ad0 nL Q E L (.int (jb (¬ v ≤ w)) :: st) h cells slots) : JJ p l e R s m args below meth c D tyc A n0 ad0 nL Q pc L (.int w :: .int v :: st) h cells slots := by
  refine j_icmp_le x hd ht (fun hc => ?_) (fun hc => ?_)
  · refine j_iconst (v := 0) x d3 (by decide) ?_
    rw [hE]
    rw [jb_f (fun q => q hc)] at kk
    exact kk
  · refine j_iconst (v := 1) x d1 (by decide) ?_
    refine j_goto (tgt := E) x d2 ht2 ?_
    rw [jb_t hc] at kk
    exact kk
end JB
end

section
/-! ===== a drawn league: goals, the start, the fixtures ===== -/
theorem c_areGoals {d : Nat} {b : SBt} {Y : OUt} {M : MM} (hb : 104 ≤ b.2.1) {t : Int32} : CM (d) 0 0 yX5_areGoals cX5_areGoals 1 (some .boolean) [.int t] b Y M (.inl (some (.int (jb (¬ t < 0 ∧ ¬ 20 < t))))) (M) := by
  refine Con.of (by decide +kernel) (Nat.le_of_ble_eq_true rfl) rfl fun p l e s m args below meth c D tyc A ad0 x hr htab hname => ?_
  change JJ _ _ _ _ _ _ _ _ _ _ _ _ _ _ _ _ _ 0 [some (.int t)] [] _ 0 0
  refine j_iload_n x dX5_areGoals_0 rfl ?_
  refine j_if_lt (tgt := 14) x dX5_areGoals_1 (by decide) (fun h1 => ?_) (fun h1 => ?_)
  · refine j_iconst (v := 0) x dX5_areGoals_14 (by decide) ?_
    exact j_zreturn x hr dX5_areGoals_15 (by first | decide | exact jisS_nar | exact jb_nar) (by omega) (by omega) ⟨by rw [jb_f (fun q => q.1 h1)], rfl⟩
  · refine j_iload_n x dX5_areGoals_4 rfl ?_
    refine j_bipush (v := 20) x dX5_areGoals_5 (by decide) ?_
    refine j_icmp_gt (tgt := 14) x dX5_areGoals_7 (by decide) (fun h2 => ?_) (fun h2 => ?_)
    · refine j_iconst (v := 0) x dX5_areGoals_14 (by decide) ?_
      exact j_zreturn x hr dX5_areGoals_15 (by first | decide | exact jisS_nar | exact jb_nar) (by omega) (by omega) ⟨by rw [jb_f (fun q => q.2 h2)], rfl⟩
    · refine j_iconst (v := 1) x dX5_areGoals_10 (by decide) ?_
      refine j_goto (tgt := 15) x dX5_areGoals_11 (by decide) ?_
      exact j_zreturn x hr dX5_areGoals_15 (by first | decide | exact jisS_nar | exact jb_nar) (by omega) (by omega) ⟨by rw [jb_t ⟨h1, h2⟩], rfl⟩
theorem c_isPlayed {d : Nat} {b : SBt} {Y : OUt} {M : MM} (hb : 104 ≤ b.2.1) {a : Nat} {t : Int32} (ha : isLg a = true) : CM (d + 1) 0 0 yX2_isPlayed cX2_isPlayed 2 (some .boolean) [.ref a, .int t] b Y M (.inl (some (.int (jb (¬ jat 56 (M (a + 4)) t = -1))))) (M) := by
  refine Con.of (by decide +kernel) (Nat.le_of_ble_eq_true rfl) rfl fun p l e s m args below meth c D tyc A ad0 x hr htab hname => ?_
  change JJ _ _ _ _ _ _ _ _ _ _ _ _ _ _ _ _ _ 0 [some (.ref a), some (.int t)] [] _ 0 0
  refine j_aload_n x dX2_isPlayed_0 rfl ?_
  refine j2_getr (k := 9) (r := a + 4) x hb dX2_isPlayed_1 jc_6 wfX2_31 (by decide) (lg9 ha) ?_
  refine j_iload_n x dX2_isPlayed_4 rfl ?_
  refine j2_callSNi x hb dX2_isPlayed_5 m_X5_at (c_at (d := d) hb (lgA4 ha) (by decide)) wnX2_68 rfl (Nat.le_of_ble_eq_true rfl) (j_fit_rm (by omega) (by omega) (by omega)) rfl ?_
  refine j_iconst (v := (-1)) x dX2_isPlayed_8 (by decide) ?_
  refine j_b_icmp_eq (T := 16) (E := 17) x dX2_isPlayed_9 (by decide) dX2_isPlayed_12 dX2_isPlayed_13 (by decide) dX2_isPlayed_16 (by decide) ?_
  exact j_zreturn x hr dX2_isPlayed_17 (by first | decide | exact jisS_nar | exact jb_nar) (by omega) (by omega) ⟨rfl, rfl⟩
def jsetg (M : MM) (a : Nat) (t u v : Int32) : MM := jput 56 (jput 56 M (a + 4) t u) (a + 5) t v
theorem c_setGoals {d : Nat} {b : SBt} {Y : OUt} {M : MM} (hb : 104 ≤ b.2.1) {a : Nat} {t u v : Int32} (ha : isLg a = true) : CM (d + 1) 0 0 yX2_setGoals cX2_setGoals 4 none [.ref a, .int t, .int u, .int v] b Y M (.inl none) (jsetg M a t u v) := by
  refine Con.of (by decide +kernel) (Nat.le_of_ble_eq_true rfl) rfl fun p l e s m args below meth c D tyc A ad0 x hr htab hname => ?_
  change JJ _ _ _ _ _ _ _ _ _ _ _ _ _ _ _ _ _ 0 [some (.ref a), some (.int t), some (.int u), some (.int v)] [] _ 0 0
  refine j_aload_n x dX2_setGoals_0 rfl ?_
  refine j2_getr (k := 9) (r := a + 4) x hb dX2_setGoals_1 jc_6 wfX2_31 (by decide) (lg9 ha) ?_
  refine j_iload_n x dX2_setGoals_4 rfl ?_
  refine j_iload_n x dX2_setGoals_5 rfl ?_
  refine j2_callSNv x hb dX2_setGoals_6 m_X5_put (c_put (d := d) hb (lgA4 ha) (by decide)) wnX2_64 rfl (Nat.le_of_ble_eq_true rfl) (j_fit_rm (by omega) (by omega) (by omega)) rfl ?_
  refine j_aload_n x dX2_setGoals_9 rfl ?_
  refine j2_getr (k := 10) (r := a + 5) x hb dX2_setGoals_10 jc_6 wfX2_34 (by decide) (lg10 ha) ?_
  refine j_iload_n x dX2_setGoals_13 rfl ?_
  refine j_iload_n x dX2_setGoals_14 rfl ?_
  refine j2_callSNv x hb dX2_setGoals_15 m_X5_put (c_put (d := d) hb (lgA5 ha) (by decide)) wnX2_64 rfl (Nat.le_of_ble_eq_true rfl) (j_fit_rm (by omega) (by omega) (by omega)) rfl ?_
  exact j_return x hr dX2_setGoals_18 (by omega) (by omega) ⟨rfl, rfl⟩
def jstart (M : MM) (a : Nat) : MM := jfill (jfill (jrow (jm (jm M a 2 1) a 3 0) 72 (a + 3) 56) (a + 4) 56 (-1)) (a + 5) 56 (-1)
theorem c_start {d : Nat} {b : SBt} {Y : OUt} {M : MM} (hb : 104 ≤ b.2.1) {a : Nat} (ha : isLg a = true) : CM (d + 1) 0 0 yX2_start cX2_start 2 none [.ref a, .ref 69] b Y M (.inl none) (jstart M a) := by
  refine Con.of (by decide +kernel) (Nat.le_of_ble_eq_true rfl) rfl fun p l e s m args below meth c D tyc A ad0 x hr htab hname => ?_
  change JJ _ _ _ _ _ _ _ _ _ _ _ _ _ _ _ _ _ 0 [some (.ref a), some (.ref 69)] [] _ 0 0
  refine j_aload_n x dX2_start_0 rfl ?_
  refine j_iconst (v := 1) x dX2_start_1 (by decide) ?_
  refine j2_puti (k := 2) x hb dX2_start_2 jc_6 wfX2_44 (by decide) rfl rfl rfl (lg2 ha) ?_
  refine j_aload_n x dX2_start_5 rfl ?_
  refine j_iconst (v := 0) x dX2_start_6 (by decide) ?_
  refine j2_puti (k := 3) x hb dX2_start_7 jc_6 wfX2_48 (by decide) rfl rfl rfl (lg3 ha) ?_
  refine j_aload_n x dX2_start_10 rfl ?_
  refine j2_getr (k := 4) (r := 72) x hb dX2_start_11 jc_4 wfX2_51 (by decide) rfl ?_
  refine j_aload_n x dX2_start_14 rfl ?_
  refine j2_getr (k := 8) (r := a + 3) x hb dX2_start_15 jc_6 wfX2_28 (by decide) (lg8 ha) ?_
  refine j2_callSNv x hb dX2_start_18 m_X5_copyRow (c_copyRow (d := d) hb fa_72 (lgA3 ha) (by decide)) wnX2_40 rfl (Nat.le_of_ble_eq_true rfl) (j_fit_rm (by omega) (by omega) (by omega)) rfl ?_
  refine j_aload_n x dX2_start_21 rfl ?_
  refine j2_getr (k := 9) (r := a + 4) x hb dX2_start_22 jc_6 wfX2_31 (by decide) (lg9 ha) ?_
  refine j_iconst (v := (-1)) x dX2_start_25 (by decide) ?_
  refine j2_callSNv x hb dX2_start_26 m_X5_fillRow (c_fillRow (d := d) hb (lgA4 ha) (by decide)) wnX2_56 rfl (Nat.le_of_ble_eq_true rfl) (j_fit_rm (by omega) (by omega) (by omega)) rfl ?_
  refine j_aload_n x dX2_start_29 rfl ?_
  refine j2_getr (k := 10) (r := a + 5) x hb dX2_start_30 jc_6 wfX2_34 (by decide) (lg10 ha) ?_
  refine j_iconst (v := (-1)) x dX2_start_33 (by decide) ?_
  refine j2_callSNv x hb dX2_start_34 m_X5_fillRow (c_fillRow (d := d) hb (lgA5 ha) (by decide)) wnX2_56 rfl (Nat.le_of_ble_eq_true rfl) (j_fit_rm (by omega) (by omega) (by omega)) rfl ?_
  exact j_return x hr dX2_start_37 (by omega) (by omega) ⟨rfl, rfl⟩
def jhost (M : MM) (u v z : Int32) : MM := if z = 0 then jput 8 M 74 v u else jput 8 M 74 u v
theorem c_host {d : Nat} {b : SBt} {Y : OUt} {M : MM} (hb : 104 ≤ b.2.1) {u v z : Int32} : CM (d + 1) 0 0 yX0_host cX0_host 4 none [.ref 69, .int u, .int v, .int z] b Y M (.inl none) (jhost M u v z) := by
  refine Con.of (by decide +kernel) (Nat.le_of_ble_eq_true rfl) rfl fun p l e s m args below meth c D tyc A ad0 x hr htab hname => ?_
  change JJ _ _ _ _ _ _ _ _ _ _ _ _ _ _ _ _ _ 0 [some (.ref 69), some (.int u), some (.int v), some (.int z)] [] _ 0 0
  refine j_aload_n x dX0_host_0 rfl ?_
  refine j2_getr (k := 6) (r := 74) x hb dX0_host_1 jc_4 wfX0_24 (by decide) rfl ?_
  refine j_iload_n x dX0_host_4 rfl ?_
  refine j_if_eq (tgt := 12) x dX0_host_5 (by decide) (fun h1 => ?_) (fun h1 => ?_)
  · refine j_iload_n x dX0_host_12 rfl ?_
    refine j_iload_n x dX0_host_13 rfl ?_
    refine j_if_eq (tgt := 21) x dX0_host_14 (by decide) (fun hc => ?_) (fun hc => absurd (h1) hc)
    refine j_iload_n x dX0_host_21 rfl ?_
    refine j2_callSNv x hb dX0_host_22 m_X5_put (c_put (d := d) hb fa_74 (by decide)) wnX0_42 rfl (Nat.le_of_ble_eq_true rfl) (j_fit_rm (by omega) (by omega) (by omega)) rfl ?_
    exact j_return x hr dX0_host_25 (by omega) (by omega) ⟨rfl, by rw [jhost, if_pos h1]⟩
  · refine j_iload_n x dX0_host_8 rfl ?_
    refine j_goto (tgt := 13) x dX0_host_9 (by decide) ?_
    refine j_iload_n x dX0_host_13 rfl ?_
    refine j_if_eq (tgt := 21) x dX0_host_14 (by decide) (fun hc => absurd hc (h1)) (fun hc => ?_)
    refine j_iload_n x dX0_host_17 rfl ?_
    refine j_goto (tgt := 22) x dX0_host_18 (by decide) ?_
    refine j2_callSNv x hb dX0_host_22 m_X5_put (c_put (d := d) hb fa_74 (by decide)) wnX0_42 rfl (Nat.le_of_ble_eq_true rfl) (j_fit_rm (by omega) (by omega) (by omega)) rfl ?_
    exact j_return x hr dX0_host_25 (by omega) (by omega) ⟨rfl, by rw [jhost, if_neg h1]⟩
def jpl (r q : Nat) (z : Int32) (M : MM) : Nat → MM
  | 0 => jhost M (nI r) (nI q) (jb (¬ jb (nI (r % 2) = 0) = z))
  | k + 1 => jhost (jpl r q z M k) (nI ((r + (k + 1)) % q)) (nI ((r + q - (k + 1)) % q)) (jb (¬ jb (nI ((k + 1) % 2) = 0) = z))
theorem c_pairPlaces {d : Nat} {b : SBt} {Y : OUt} {M : MM} (hb : 104 ≤ b.2.1) {r q : Nat} {z : Int32} (hr : r < 1000) (hq0 : 1 ≤ q) (hq : q < 1000) : CM (d + 2) 0 0 yX0_pairPlaces cX0_pairPlaces 7 none [.ref 69, .int (nI r), .int (nI q), .int z] b Y M (.inl none) (jpl r q z M (q / 2)) := by
  refine Con.of (by decide +kernel) (Nat.le_of_ble_eq_true rfl) rfl fun p l e s m args below meth c D tyc A ad0 x hr htab hname => ?_
  change JJ _ _ _ _ _ _ _ _ _ _ _ _ _ _ _ _ _ 0 [some (.ref 69), some (.int (nI r)), some (.int (nI q)), some (.int z), none, none, none] [] _ 0 0
  refine j_iload_n x dX0_pairPlaces_0 rfl ?_
  refine j_iconst (v := 1) x dX0_pairPlaces_1 (by decide) ?_
  refine j_icmp_ge (tgt := 6) x dX0_pairPlaces_2 (by decide) (fun hc => ?_) (fun hc => absurd (show (1 : Int32) ≤ nI q from nI_le (a := 1) hq0 (by omega)) hc)
  refine j_aload_n x dX0_pairPlaces_6 rfl ?_
  refine j_iload_n x dX0_pairPlaces_7 rfl ?_
  refine j_iload_n x dX0_pairPlaces_8 rfl ?_
  refine j_iload_n x dX0_pairPlaces_9 rfl ?_
  refine j_iconst (v := 2) x dX0_pairPlaces_10 (by decide) ?_
  refine j_irem x dX0_pairPlaces_11 (by decide) ?_; rw [show (nI (r) - nI (r) / 2 * 2 : Int32) = nI ((r) % 2) from nI_rem (d := 2) (by omega) (by decide) (by decide)]
  refine j_b_if_ne (T := 19) (E := 20) x dX0_pairPlaces_12 (by decide) dX0_pairPlaces_15 dX0_pairPlaces_16 (by decide) dX0_pairPlaces_19 (by decide) ?_
  refine j_iload_n x dX0_pairPlaces_20 rfl ?_
  refine j_b_icmp_eq (T := 28) (E := 29) x dX0_pairPlaces_21 (by decide) dX0_pairPlaces_24 dX0_pairPlaces_25 (by decide) dX0_pairPlaces_28 (by decide) ?_
  refine j2_callVv x hb dX0_pairPlaces_29 m_X0_host (c_host (d := d) hb) wmX0_50 jc_4 rfl rfl rfl (Nat.le_of_ble_eq_true rfl) (j_fit_rm (by omega) (by omega) (by omega)) rfl ?_
  refine j_iconst (v := 1) x dX0_pairPlaces_32 (by decide) ?_
  refine j_istore x dX0_pairPlaces_33 (by decide) rfl ?_
  refine j_for (q / 2) (fun j => [some (.ref 69), some (.int (nI r)), some (.int (nI q)), some (.int z), some (.int (nI (j + 1))), none, none]) (fun j => jpl r q z M j) (fun j => True) (rfl) (rfl) (trivial) (fun j hj hP ih => ?_) (fun hP => ?_)
  · refine j_iload x dX0_pairPlaces_35 rfl ?_
    refine j_iload_n x dX0_pairPlaces_37 rfl ?_
    refine j_iconst (v := 2) x dX0_pairPlaces_38 (by decide) ?_
    refine j_idiv x dX0_pairPlaces_39 (by decide) ?_; rw [show (nI q / 2 : Int32) = nI (q / 2) from nI_div2 (d := 2) (by omega) (by decide) (by decide)]
    refine j_icmp_gt (tgt := 96) x dX0_pairPlaces_40 (by decide) (fun hc => absurd hc (nI_nlt (by omega) (by omega))) (fun hc => ?_)
    refine j_iload_n x dX0_pairPlaces_43 rfl ?_
    refine j_iload x dX0_pairPlaces_44 rfl ?_
    refine j_iadd x dX0_pairPlaces_46 ?_
    refine j_iload_n x dX0_pairPlaces_47 rfl ?_
    refine j_irem x dX0_pairPlaces_48 (nI_ne0 (by omega) (by omega)) ?_; rw [nI_add, nI_rem (by omega) (by omega) (by omega)]
    refine j_istore x dX0_pairPlaces_49 (by decide) rfl ?_
    refine j_iload_n x dX0_pairPlaces_51 rfl ?_
    refine j_iload_n x dX0_pairPlaces_52 rfl ?_
    refine j_iadd x dX0_pairPlaces_53 ?_
    refine j_iload x dX0_pairPlaces_54 rfl ?_
    refine j_isub x dX0_pairPlaces_56 ?_
    refine j_iload_n x dX0_pairPlaces_57 rfl ?_
    refine j_irem x dX0_pairPlaces_58 (nI_ne0 (by omega) (by omega)) ?_; rw [nI_add, nI_sub (by omega), nI_rem (by omega) (by omega) (by omega)]
    refine j_istore x dX0_pairPlaces_59 (by decide) rfl ?_
    refine j_aload_n x dX0_pairPlaces_61 rfl ?_
    refine j_iload x dX0_pairPlaces_62 rfl ?_
    refine j_iload x dX0_pairPlaces_64 rfl ?_
    refine j_iload x dX0_pairPlaces_66 rfl ?_
    refine j_iconst (v := 2) x dX0_pairPlaces_68 (by decide) ?_
    refine j_irem x dX0_pairPlaces_69 (by decide) ?_; rw [show (nI (j + 1) - nI (j + 1) / 2 * 2 : Int32) = nI ((j + 1) % 2) from nI_rem (d := 2) (by omega) (by decide) (by decide)]
    refine j_b_if_ne (T := 77) (E := 78) x dX0_pairPlaces_70 (by decide) dX0_pairPlaces_73 dX0_pairPlaces_74 (by decide) dX0_pairPlaces_77 (by decide) ?_
    refine j_iload_n x dX0_pairPlaces_78 rfl ?_
    refine j_b_icmp_eq (T := 86) (E := 87) x dX0_pairPlaces_79 (by decide) dX0_pairPlaces_82 dX0_pairPlaces_83 (by decide) dX0_pairPlaces_86 (by decide) ?_
    refine j2_callVv x hb dX0_pairPlaces_87 m_X0_host (c_host (d := d) hb) wmX0_50 jc_4 rfl rfl rfl (Nat.le_of_ble_eq_true rfl) (j_fit_rm (by omega) (by omega) (by omega)) rfl ?_
    refine j_iinc x dX0_pairPlaces_90 rfl (by decide) rfl ?_
    refine j_goto (tgt := 35) x dX0_pairPlaces_93 (by decide) ?_
    exact j_goal (ih (trivial)) (wk_c rfl (wk_c rfl (wk_c rfl (wk_c rfl (wk_c (congrArg (fun z => some (Value.int z)) (nI_1 _)) (wk_n (wk_n (wk_0)))))))) (rfl)
  refine j_iload x dX0_pairPlaces_35 rfl ?_
  refine j_iload_n x dX0_pairPlaces_37 rfl ?_
  refine j_iconst (v := 2) x dX0_pairPlaces_38 (by decide) ?_
  refine j_idiv x dX0_pairPlaces_39 (by decide) ?_; rw [show (nI q / 2 : Int32) = nI (q / 2) from nI_div2 (d := 2) (by omega) (by decide) (by decide)]
  refine j_icmp_gt (tgt := 96) x dX0_pairPlaces_40 (by decide) (fun hc => ?_) (fun hc => absurd (nI_lt (by omega) (by omega)) hc)
  exact j_return x hr dX0_pairPlaces_96 (by omega) (by omega) ⟨rfl, rfl⟩
theorem jhost_n {M : MM} {u v z : Int32} {i k : Nat} (h : i ≠ 74) : jhost M u v z i k = M i k := by
  unfold jhost
  split <;> exact m_put h
theorem jpl_n {M : MM} {r q : Nat} {z : Int32} {i k : Nat} (h : i ≠ 74) : ∀ n, jpl r q z M n i k = M i k
  | 0 => jhost_n h
  | n + 1 => by rw [jpl, jhost_n h]; exact jpl_n h n
def jaw (w t : Nat) (M : MM) : Nat → MM
  | 0 => M
  | j + 1 => if jaw w t M j 74 j = -1 then jaw w t M j else if nI t ≤ jaw w t M j 74 j then jaw w t M j else
    jm (jput 56 (jput 56 (jput 56 (jaw w t M j) 70 (jaw w t M j 69 1) (nI j)) 71 (jaw w t M j 69 1) (jaw w t M j 74 j)) 72 (jaw w t M j 69 1) (nI w)) 69 1 (jaw w t M j 69 1 + 1)
theorem jaw_n {w t : Nat} {M : MM} {i k : Nat} (h : i < 69 ∨ 72 < i ∨ (i = 69 ∧ k ≠ 1)) : ∀ n, jaw w t M n i k = M i k
  | 0 => rfl
  | n + 1 => by
    rw [jaw]
    split
    · exact jaw_n h n
    · split
      · exact jaw_n h n
      · rw [jm_n (by omega), m_put (by omega), m_put (by omega), m_put (by omega)]
        exact jaw_n h n
theorem c_addWeek {d : Nat} {b : SBt} {Y : OUt} {M : MM} (hb : 104 ≤ b.2.1) {w t : Nat} (ht : t ≤ 8) : CM (d + 1) 0 0 yX0_addWeek cX0_addWeek 5 none [.ref 69, .int (nI w), .int (nI t)] b Y M (.inl none) (jaw w t M t) := by
  refine Con.of (by decide +kernel) (Nat.le_of_ble_eq_true rfl) rfl fun p l e s m args below meth c D tyc A ad0 x hr htab hname => ?_
  change JJ _ _ _ _ _ _ _ _ _ _ _ _ _ _ _ _ _ 0 [some (.ref 69), some (.int (nI w)), some (.int (nI t)), none, none] [] _ 0 0
  refine j_iconst (v := 0) x dX0_addWeek_0 (by decide) ?_
  refine j_istore_n x dX0_addWeek_1 (by decide) rfl ?_
  refine j_for (t) (fun j => [some (.ref 69), some (.int (nI w)), some (.int (nI t)), some (.int (nI j)), none]) (fun j => jaw w t M j) (fun j => True) (rfl) (rfl) (trivial) (fun j hj hP ih => ?_) (fun hP => ?_)
  · refine j_iload_n x dX0_addWeek_2 rfl ?_
    refine j_iload_n x dX0_addWeek_3 rfl ?_
    refine j_icmp_ge (tgt := 82) x dX0_addWeek_4 (by decide) (fun hc => absurd hc (nI_ge hj (by omega))) (fun hc => ?_)
    refine j_aload_n x dX0_addWeek_7 rfl ?_
    refine j2_getr (k := 6) (r := 74) x hb dX0_addWeek_8 jc_4 wfX0_24 (by decide) rfl ?_
    refine j_iload_n x dX0_addWeek_11 rfl ?_
    refine j2_callSNi x hb dX0_addWeek_12 m_X5_at (c_at (d := d) hb fa_74 (by decide)) wnX0_53 rfl (Nat.le_of_ble_eq_true rfl) (j_fit_rm (by omega) (by omega) (by omega)) rfl ?_
    rw [jat_nI (by omega) (by decide)]
    refine j_istore x dX0_addWeek_15 (by decide) rfl ?_
    refine j_iload x dX0_addWeek_17 rfl ?_
    refine j_iconst (v := (-1)) x dX0_addWeek_19 (by decide) ?_
    refine j_icmp_eq (tgt := 76) x dX0_addWeek_20 (by decide) (fun h1 => ?_) (fun h1 => ?_)
    · refine j_iinc x dX0_addWeek_76 rfl (by decide) rfl ?_
      refine j_goto (tgt := 2) x dX0_addWeek_79 (by decide) ?_
      exact j_goal (ih (trivial)) (wk_c rfl (wk_c rfl (wk_c rfl (wk_c (congrArg (fun z => some (Value.int z)) (nI_1 _)) (wk_n (wk_0)))))) (by rw [jaw, if_pos h1])
    · refine j_iload x dX0_addWeek_23 rfl ?_
      refine j_iload_n x dX0_addWeek_25 rfl ?_
      refine j_icmp_ge (tgt := 76) x dX0_addWeek_26 (by decide) (fun h2 => ?_) (fun h2 => ?_)
      · refine j_iinc x dX0_addWeek_76 rfl (by decide) rfl ?_
        refine j_goto (tgt := 2) x dX0_addWeek_79 (by decide) ?_
        exact j_goal (ih (trivial)) (wk_c rfl (wk_c rfl (wk_c rfl (wk_c (congrArg (fun z => some (Value.int z)) (nI_1 _)) (wk_n (wk_0)))))) (by rw [jaw, if_neg h1, if_pos h2])
      · refine j_aload_n x dX0_addWeek_29 rfl ?_
        refine j2_getr (k := 2) (r := 70) x hb dX0_addWeek_30 jc_4 wfX0_9 (by decide) rfl ?_
        refine j_aload_n x dX0_addWeek_33 rfl ?_
        refine j2_geti (k := 1) x hb dX0_addWeek_34 jc_4 wfX0_31 (by decide) rfl ?_
        refine j_iload_n x dX0_addWeek_37 rfl ?_
        refine j2_callSNv x hb dX0_addWeek_38 m_X5_put (c_put (d := d) hb fa_70 (by decide)) wnX0_42 rfl (Nat.le_of_ble_eq_true rfl) (j_fit_rm (by omega) (by omega) (by omega)) rfl ?_
        refine j_aload_n x dX0_addWeek_41 rfl ?_
        refine j2_getr (k := 3) (r := 71) x hb dX0_addWeek_42 jc_4 wfX0_15 (by decide) rfl ?_
        refine j_aload_n x dX0_addWeek_45 rfl ?_
        refine j2_geti (k := 1) x hb dX0_addWeek_46 jc_4 wfX0_31 (by decide) rfl ?_; rw [m_put (by omega)]
        refine j_iload x dX0_addWeek_49 rfl ?_
        refine j2_callSNv x hb dX0_addWeek_51 m_X5_put (c_put (d := d) hb fa_71 (by decide)) wnX0_42 rfl (Nat.le_of_ble_eq_true rfl) (j_fit_rm (by omega) (by omega) (by omega)) rfl ?_
        refine j_aload_n x dX0_addWeek_54 rfl ?_
        refine j2_getr (k := 4) (r := 72) x hb dX0_addWeek_55 jc_4 wfX0_18 (by decide) rfl ?_
        refine j_aload_n x dX0_addWeek_58 rfl ?_
        refine j2_geti (k := 1) x hb dX0_addWeek_59 jc_4 wfX0_31 (by decide) rfl ?_; rw [m_put (by omega), m_put (by omega)]
        refine j_iload_n x dX0_addWeek_62 rfl ?_
        refine j2_callSNv x hb dX0_addWeek_63 m_X5_put (c_put (d := d) hb fa_72 (by decide)) wnX0_42 rfl (Nat.le_of_ble_eq_true rfl) (j_fit_rm (by omega) (by omega) (by omega)) rfl ?_
        refine j_aload_n x dX0_addWeek_66 rfl ?_
        refine j_dup x dX0_addWeek_67 rfl ?_
        refine j2_geti (k := 1) x hb dX0_addWeek_68 jc_4 wfX0_31 (by decide) rfl ?_; rw [m_put (by omega), m_put (by omega), m_put (by omega)]
        refine j_iconst (v := 1) x dX0_addWeek_71 (by decide) ?_
        refine j_iadd x dX0_addWeek_72 ?_
        refine j2_puti (k := 1) x hb dX0_addWeek_73 jc_4 wfX0_31 (by decide) rfl rfl rfl rfl ?_
        refine j_iinc x dX0_addWeek_76 rfl (by decide) rfl ?_
        refine j_goto (tgt := 2) x dX0_addWeek_79 (by decide) ?_
        exact j_goal (ih (trivial)) (wk_c rfl (wk_c rfl (wk_c rfl (wk_c (congrArg (fun z => some (Value.int z)) (nI_1 _)) (wk_n (wk_0)))))) (by rw [jaw, if_neg h1, if_neg h2])
  refine j_iload_n x dX0_addWeek_2 rfl ?_
  refine j_iload_n x dX0_addWeek_3 rfl ?_
  refine j_icmp_ge (tgt := 82) x dX0_addWeek_4 (by decide) (fun hc => ?_) (fun hc => absurd (nI_le (Nat.le_refl _) (by omega)) hc)
  exact j_return x hr dX0_addWeek_82 (by omega) (by omega) ⟨rfl, rfl⟩
/-- the round of a week: its place in its half; whether the places are turned -/
def jrd (q w : Nat) : Nat := if w < q then w else w - q
def jly (t q : Nat) (M : MM) : Nat → MM
  | 0 => jm (jm M 69 0 (nI (2 * q))) 69 1 0
  | w + 1 => jaw w t (jput 14 (jpl (jrd q w) q (if w < q then 0 else 1) (jfill (jly t q M w) 74 8 (-1)) (q / 2)) 73 (nI w) (if q = t then nI (jrd q w) else -1)) t
theorem jfill_n {M : MM} {a n i k : Nat} {v : Int32} (h : i ≠ a) : jfill M a n v i k = M i k := by
  unfold jfill
  rw [if_neg (fun q => h q.1)]
theorem jly_w {t q : Nat} {M : MM} : ∀ n, jly t q M n 69 0 = nI (2 * q)
  | 0 => by rw [jly, jm_n (by omega), jm_s]
  | n + 1 => by
    rw [jly, jaw_n (by omega), m_put (by omega), jpl_n (by omega), jfill_n (by omega)]
    exact jly_w n
theorem jly_n {t q : Nat} {M : MM} {i k : Nat} (h : i < 69 ∨ 74 < i) : ∀ n, jly t q M n i k = M i k
  | 0 => by rw [jly, jm_n (by omega), jm_n (by omega)]
  | n + 1 => by
    rw [jly, jaw_n (by omega), m_put (by omega), jpl_n (by omega), jfill_n (by omega)]
    exact jly_n h n
theorem c_lay {d : Nat} {b : SBt} {Y : OUt} {M : MM} (hb : 104 ≤ b.2.1) {t q : Nat} (hl : (t % 2 = 0 ∧ q + 1 = t) ∨ (t % 2 = 1 ∧ q = t)) (hq0 : 1 ≤ q) (ht : t ≤ 8) : CM (d + 3) 0 0 yX0_lay cX0_lay 6 none [.ref 69, .int (nI t)] b Y M (.inl none) (jly t q M (2 * q)) := by
  refine Con.of (by decide +kernel) (Nat.le_of_ble_eq_true rfl) rfl fun p l e s m args below meth c D tyc A ad0 x hr htab hname => ?_
  change JJ _ _ _ _ _ _ _ _ _ _ _ _ _ _ _ _ _ 0 [some (.ref 69), some (.int (nI t)), none, none, none, none] [] _ 0 0
  refine j_iload_n x dX0_lay_0 rfl ?_
  refine j_iconst (v := 2) x dX0_lay_1 (by decide) ?_
  refine j_irem x dX0_lay_2 (by decide) ?_; rw [show (nI (t) - nI (t) / 2 * 2 : Int32) = nI ((t) % 2) from nI_rem (d := 2) (by omega) (by decide) (by decide)]
  refine j_if_ne (tgt := 12) x dX0_lay_3 (by decide) (fun hA => ?_) (fun hA => ?_)
  · obtain rfl : q = t := hl.elim (fun z => absurd (show nI (t % 2) = 0 by rw [z.1]; rfl) hA) (fun z => z.2); refine j_iload_n x dX0_lay_12 rfl ?_
    refine j_istore_n x dX0_lay_13 (by decide) rfl ?_
    refine j_aload_n x dX0_lay_14 rfl ?_
    refine j_iconst (v := 2) x dX0_lay_15 (by decide) ?_
    refine j_iload_n x dX0_lay_16 rfl ?_
    refine j_imul x dX0_lay_17 ?_; rw [show (2 : Int32) * nI q = nI (2 * q) from nI_mul 2 q]
    refine j2_puti (k := 0) x hb dX0_lay_18 jc_4 wfX0_27 (by decide) rfl rfl rfl rfl ?_
    refine j_aload_n x dX0_lay_21 rfl ?_
    refine j_iconst (v := 0) x dX0_lay_22 (by decide) ?_
    refine j2_puti (k := 1) x hb dX0_lay_23 jc_4 wfX0_31 (by decide) rfl rfl rfl rfl ?_
    refine j_iconst (v := 0) x dX0_lay_26 (by decide) ?_
    refine j_istore_n x dX0_lay_27 (by decide) rfl ?_
    refine j_for (2 * q) (fun j => [some (.ref 69), some (.int (nI q)), some (.int (nI q)), some (.int (nI j)), none, none]) (fun j => jly (q) q M j) (fun j => True) (rfl) (rfl) (trivial) (fun j hj hP ih => ?_) (fun hP => ?_)
    · refine j_iload_n x dX0_lay_28 rfl ?_
      refine j_aload_n x dX0_lay_29 rfl ?_
      refine j2_geti (k := 0) x hb dX0_lay_30 jc_4 wfX0_27 (by decide) rfl ?_; rw [jly_w]
      refine j_icmp_ge (tgt := 110) x dX0_lay_33 (by decide) (fun hc => absurd hc (nI_ge hj (by omega))) (fun hc => ?_)
      have hcase : j < q ∨ ¬ j < q := Decidable.em _; refine j_iload_n x dX0_lay_36 rfl ?_
      refine j_iload_n x dX0_lay_37 rfl ?_
      refine j_icmp_lt (tgt := 45) x dX0_lay_38 (by decide) (fun h1 => ?_) (fun h1 => ?_)
      · have h3 : j < q := (nI_ltI (by omega) (by omega)).mp h1; refine j_iconst (v := 0) x dX0_lay_45 (by decide) ?_
        refine j_istore x dX0_lay_46 (by decide) rfl ?_
        refine j_iload x dX0_lay_48 rfl ?_
        refine j_if_eq (tgt := 59) x dX0_lay_50 (by decide) (fun hc => ?_) (fun hc => absurd (rfl) hc)
        refine j_iload_n x dX0_lay_59 rfl ?_
        refine j_istore x dX0_lay_60 (by decide) rfl ?_
        refine j_aload_n x dX0_lay_62 rfl ?_
        refine j2_getr (k := 6) (r := 74) x hb dX0_lay_63 jc_4 wfX0_24 (by decide) rfl ?_
        refine j_iconst (v := (-1)) x dX0_lay_66 (by decide) ?_
        refine j2_callSNv x hb dX0_lay_67 m_X5_fillRow (c_fillRow (d := d) hb fa_74 (by decide)) wnX0_34 rfl (Nat.le_of_ble_eq_true rfl) (j_fit_rm (by omega) (by omega) (by omega)) rfl ?_
        refine j_aload_n x dX0_lay_70 rfl ?_
        refine j_iload x dX0_lay_71 rfl ?_
        refine j_iload_n x dX0_lay_73 rfl ?_
        refine j_iload x dX0_lay_74 rfl ?_
        refine j2_callVv x hb dX0_lay_76 m_X0_pairPlaces (c_pairPlaces (d := d) (r := j) hb (by omega) (by omega) (by omega)) wmX0_38 jc_4 rfl rfl rfl (Nat.le_of_ble_eq_true rfl) (j_fit_rm (by omega) (by omega) (by omega)) rfl ?_
        refine j_aload_n x dX0_lay_79 rfl ?_
        refine j2_getr (k := 5) (r := 73) x hb dX0_lay_80 jc_4 wfX0_21 (by decide) rfl ?_
        refine j_iload_n x dX0_lay_83 rfl ?_
        refine j_iload_n x dX0_lay_84 rfl ?_
        refine j_iload_n x dX0_lay_85 rfl ?_
        refine j_icmp_ne (tgt := 94) x dX0_lay_86 (by decide) (fun hc => absurd hc (fun z => z rfl)) (fun hc => ?_)
        refine j_iload x dX0_lay_89 rfl ?_
        refine j_goto (tgt := 95) x dX0_lay_91 (by decide) ?_
        refine j2_callSNv x hb dX0_lay_95 m_X5_put (c_put (d := d) hb fa_73 (by decide)) wnX0_42 rfl (Nat.le_of_ble_eq_true rfl) (j_fit_rm (by omega) (by omega) (by omega)) rfl ?_
        refine j_aload_n x dX0_lay_98 rfl ?_
        refine j_iload_n x dX0_lay_99 rfl ?_
        refine j_iload_n x dX0_lay_100 rfl ?_
        refine j2_callVv x hb dX0_lay_101 m_X0_addWeek (c_addWeek (d := d) hb (by omega)) wmX0_46 jc_4 rfl rfl rfl (Nat.le_of_ble_eq_true rfl) (j_fit_rm (by omega) (by omega) (by omega)) rfl ?_
        refine j_iinc x dX0_lay_104 rfl (by decide) rfl ?_
        refine j_goto (tgt := 28) x dX0_lay_107 (by decide) ?_
        exact j_goal (ih (trivial)) (wk_c rfl (wk_c rfl (wk_c rfl (wk_c (congrArg (fun z => some (Value.int z)) (nI_1 _)) (wk_n (wk_n (wk_0))))))) (by rw [jly]; simp only [jrd, if_pos h3, if_true])
      · have h3 : ¬ j < q := fun z => h1 ((nI_ltI (by omega) (by omega)).mpr z); refine j_iconst (v := 1) x dX0_lay_41 (by decide) ?_
        refine j_goto (tgt := 46) x dX0_lay_42 (by decide) ?_
        refine j_istore x dX0_lay_46 (by decide) rfl ?_
        refine j_iload x dX0_lay_48 rfl ?_
        refine j_if_eq (tgt := 59) x dX0_lay_50 (by decide) (fun hc => absurd hc (by decide)) (fun hc => ?_)
        refine j_iload_n x dX0_lay_53 rfl ?_
        refine j_iload_n x dX0_lay_54 rfl ?_
        refine j_isub x dX0_lay_55 ?_; rw [nI_sub (by omega)]
        refine j_goto (tgt := 60) x dX0_lay_56 (by decide) ?_
        refine j_istore x dX0_lay_60 (by decide) rfl ?_
        refine j_aload_n x dX0_lay_62 rfl ?_
        refine j2_getr (k := 6) (r := 74) x hb dX0_lay_63 jc_4 wfX0_24 (by decide) rfl ?_
        refine j_iconst (v := (-1)) x dX0_lay_66 (by decide) ?_
        refine j2_callSNv x hb dX0_lay_67 m_X5_fillRow (c_fillRow (d := d) hb fa_74 (by decide)) wnX0_34 rfl (Nat.le_of_ble_eq_true rfl) (j_fit_rm (by omega) (by omega) (by omega)) rfl ?_
        refine j_aload_n x dX0_lay_70 rfl ?_
        refine j_iload x dX0_lay_71 rfl ?_
        refine j_iload_n x dX0_lay_73 rfl ?_
        refine j_iload x dX0_lay_74 rfl ?_
        refine j2_callVv x hb dX0_lay_76 m_X0_pairPlaces (c_pairPlaces (d := d) (r := j - q) hb (by omega) (by omega) (by omega)) wmX0_38 jc_4 rfl rfl rfl (Nat.le_of_ble_eq_true rfl) (j_fit_rm (by omega) (by omega) (by omega)) rfl ?_
        refine j_aload_n x dX0_lay_79 rfl ?_
        refine j2_getr (k := 5) (r := 73) x hb dX0_lay_80 jc_4 wfX0_21 (by decide) rfl ?_
        refine j_iload_n x dX0_lay_83 rfl ?_
        refine j_iload_n x dX0_lay_84 rfl ?_
        refine j_iload_n x dX0_lay_85 rfl ?_
        refine j_icmp_ne (tgt := 94) x dX0_lay_86 (by decide) (fun hc => absurd hc (fun z => z rfl)) (fun hc => ?_)
        refine j_iload x dX0_lay_89 rfl ?_
        refine j_goto (tgt := 95) x dX0_lay_91 (by decide) ?_
        refine j2_callSNv x hb dX0_lay_95 m_X5_put (c_put (d := d) hb fa_73 (by decide)) wnX0_42 rfl (Nat.le_of_ble_eq_true rfl) (j_fit_rm (by omega) (by omega) (by omega)) rfl ?_
        refine j_aload_n x dX0_lay_98 rfl ?_
        refine j_iload_n x dX0_lay_99 rfl ?_
        refine j_iload_n x dX0_lay_100 rfl ?_
        refine j2_callVv x hb dX0_lay_101 m_X0_addWeek (c_addWeek (d := d) hb (by omega)) wmX0_46 jc_4 rfl rfl rfl (Nat.le_of_ble_eq_true rfl) (j_fit_rm (by omega) (by omega) (by omega)) rfl ?_
        refine j_iinc x dX0_lay_104 rfl (by decide) rfl ?_
        refine j_goto (tgt := 28) x dX0_lay_107 (by decide) ?_
        exact j_goal (ih (trivial)) (wk_c rfl (wk_c rfl (wk_c rfl (wk_c (congrArg (fun z => some (Value.int z)) (nI_1 _)) (wk_n (wk_n (wk_0))))))) (by rw [jly]; simp only [jrd, if_neg h3, if_true])
    refine j_iload_n x dX0_lay_28 rfl ?_
    refine j_aload_n x dX0_lay_29 rfl ?_
    refine j2_geti (k := 0) x hb dX0_lay_30 jc_4 wfX0_27 (by decide) rfl ?_; rw [jly_w]
    refine j_icmp_ge (tgt := 110) x dX0_lay_33 (by decide) (fun hc => ?_) (fun hc => absurd (nI_le (Nat.le_refl _) (by omega)) hc)
    exact j_return x hr dX0_lay_110 (by omega) (by omega) ⟨rfl, rfl⟩
  · obtain rfl : t = q + 1 := hl.elim (fun z => z.2.symm) (fun z => absurd hA (by rw [z.1]; decide)); refine j_iload_n x dX0_lay_6 rfl ?_
    refine j_iconst (v := 1) x dX0_lay_7 (by decide) ?_
    refine j_isub x dX0_lay_8 ?_; rw [nI_pred]
    refine j_goto (tgt := 13) x dX0_lay_9 (by decide) ?_
    refine j_istore_n x dX0_lay_13 (by decide) rfl ?_
    refine j_aload_n x dX0_lay_14 rfl ?_
    refine j_iconst (v := 2) x dX0_lay_15 (by decide) ?_
    refine j_iload_n x dX0_lay_16 rfl ?_
    refine j_imul x dX0_lay_17 ?_; rw [show (2 : Int32) * nI q = nI (2 * q) from nI_mul 2 q]
    refine j2_puti (k := 0) x hb dX0_lay_18 jc_4 wfX0_27 (by decide) rfl rfl rfl rfl ?_
    refine j_aload_n x dX0_lay_21 rfl ?_
    refine j_iconst (v := 0) x dX0_lay_22 (by decide) ?_
    refine j2_puti (k := 1) x hb dX0_lay_23 jc_4 wfX0_31 (by decide) rfl rfl rfl rfl ?_
    refine j_iconst (v := 0) x dX0_lay_26 (by decide) ?_
    refine j_istore_n x dX0_lay_27 (by decide) rfl ?_
    refine j_for (2 * q) (fun j => [some (.ref 69), some (.int (nI (q + 1))), some (.int (nI q)), some (.int (nI j)), none, none]) (fun j => jly ((q + 1)) q M j) (fun j => True) (rfl) (rfl) (trivial) (fun j hj hP ih => ?_) (fun hP => ?_)
    · refine j_iload_n x dX0_lay_28 rfl ?_
      refine j_aload_n x dX0_lay_29 rfl ?_
      refine j2_geti (k := 0) x hb dX0_lay_30 jc_4 wfX0_27 (by decide) rfl ?_; rw [jly_w]
      refine j_icmp_ge (tgt := 110) x dX0_lay_33 (by decide) (fun hc => absurd hc (nI_ge hj (by omega))) (fun hc => ?_)
      have hcase : j < q ∨ ¬ j < q := Decidable.em _; refine j_iload_n x dX0_lay_36 rfl ?_
      refine j_iload_n x dX0_lay_37 rfl ?_
      refine j_icmp_lt (tgt := 45) x dX0_lay_38 (by decide) (fun h1 => ?_) (fun h1 => ?_)
      · have h3 : j < q := (nI_ltI (by omega) (by omega)).mp h1; refine j_iconst (v := 0) x dX0_lay_45 (by decide) ?_
        refine j_istore x dX0_lay_46 (by decide) rfl ?_
        refine j_iload x dX0_lay_48 rfl ?_
        refine j_if_eq (tgt := 59) x dX0_lay_50 (by decide) (fun hc => ?_) (fun hc => absurd (rfl) hc)
        refine j_iload_n x dX0_lay_59 rfl ?_
        refine j_istore x dX0_lay_60 (by decide) rfl ?_
        refine j_aload_n x dX0_lay_62 rfl ?_
        refine j2_getr (k := 6) (r := 74) x hb dX0_lay_63 jc_4 wfX0_24 (by decide) rfl ?_
        refine j_iconst (v := (-1)) x dX0_lay_66 (by decide) ?_
        refine j2_callSNv x hb dX0_lay_67 m_X5_fillRow (c_fillRow (d := d) hb fa_74 (by decide)) wnX0_34 rfl (Nat.le_of_ble_eq_true rfl) (j_fit_rm (by omega) (by omega) (by omega)) rfl ?_
        refine j_aload_n x dX0_lay_70 rfl ?_
        refine j_iload x dX0_lay_71 rfl ?_
        refine j_iload_n x dX0_lay_73 rfl ?_
        refine j_iload x dX0_lay_74 rfl ?_
        refine j2_callVv x hb dX0_lay_76 m_X0_pairPlaces (c_pairPlaces (d := d) (r := j) hb (by omega) (by omega) (by omega)) wmX0_38 jc_4 rfl rfl rfl (Nat.le_of_ble_eq_true rfl) (j_fit_rm (by omega) (by omega) (by omega)) rfl ?_
        refine j_aload_n x dX0_lay_79 rfl ?_
        refine j2_getr (k := 5) (r := 73) x hb dX0_lay_80 jc_4 wfX0_21 (by decide) rfl ?_
        refine j_iload_n x dX0_lay_83 rfl ?_
        refine j_iload_n x dX0_lay_84 rfl ?_
        refine j_iload_n x dX0_lay_85 rfl ?_
        refine j_icmp_ne (tgt := 94) x dX0_lay_86 (by decide) (fun hc => ?_) (fun hc => absurd hc (fun z => absurd ((nI_eq (by omega) (by omega)).mp z) (by omega)))
        refine j_iconst (v := (-1)) x dX0_lay_94 (by decide) ?_
        refine j2_callSNv x hb dX0_lay_95 m_X5_put (c_put (d := d) hb fa_73 (by decide)) wnX0_42 rfl (Nat.le_of_ble_eq_true rfl) (j_fit_rm (by omega) (by omega) (by omega)) rfl ?_
        refine j_aload_n x dX0_lay_98 rfl ?_
        refine j_iload_n x dX0_lay_99 rfl ?_
        refine j_iload_n x dX0_lay_100 rfl ?_
        refine j2_callVv x hb dX0_lay_101 m_X0_addWeek (c_addWeek (d := d) hb (by omega)) wmX0_46 jc_4 rfl rfl rfl (Nat.le_of_ble_eq_true rfl) (j_fit_rm (by omega) (by omega) (by omega)) rfl ?_
        refine j_iinc x dX0_lay_104 rfl (by decide) rfl ?_
        refine j_goto (tgt := 28) x dX0_lay_107 (by decide) ?_
        exact j_goal (ih (trivial)) (wk_c rfl (wk_c rfl (wk_c rfl (wk_c (congrArg (fun z => some (Value.int z)) (nI_1 _)) (wk_n (wk_n (wk_0))))))) (by rw [jly]; simp only [jrd, if_pos h3, show ¬ q = q + 1 from by omega, if_false])
      · have h3 : ¬ j < q := fun z => h1 ((nI_ltI (by omega) (by omega)).mpr z); refine j_iconst (v := 1) x dX0_lay_41 (by decide) ?_
        refine j_goto (tgt := 46) x dX0_lay_42 (by decide) ?_
        refine j_istore x dX0_lay_46 (by decide) rfl ?_
        refine j_iload x dX0_lay_48 rfl ?_
        refine j_if_eq (tgt := 59) x dX0_lay_50 (by decide) (fun hc => absurd hc (by decide)) (fun hc => ?_)
        refine j_iload_n x dX0_lay_53 rfl ?_
        refine j_iload_n x dX0_lay_54 rfl ?_
        refine j_isub x dX0_lay_55 ?_; rw [nI_sub (by omega)]
        refine j_goto (tgt := 60) x dX0_lay_56 (by decide) ?_
        refine j_istore x dX0_lay_60 (by decide) rfl ?_
        refine j_aload_n x dX0_lay_62 rfl ?_
        refine j2_getr (k := 6) (r := 74) x hb dX0_lay_63 jc_4 wfX0_24 (by decide) rfl ?_
        refine j_iconst (v := (-1)) x dX0_lay_66 (by decide) ?_
        refine j2_callSNv x hb dX0_lay_67 m_X5_fillRow (c_fillRow (d := d) hb fa_74 (by decide)) wnX0_34 rfl (Nat.le_of_ble_eq_true rfl) (j_fit_rm (by omega) (by omega) (by omega)) rfl ?_
        refine j_aload_n x dX0_lay_70 rfl ?_
        refine j_iload x dX0_lay_71 rfl ?_
        refine j_iload_n x dX0_lay_73 rfl ?_
        refine j_iload x dX0_lay_74 rfl ?_
        refine j2_callVv x hb dX0_lay_76 m_X0_pairPlaces (c_pairPlaces (d := d) (r := j - q) hb (by omega) (by omega) (by omega)) wmX0_38 jc_4 rfl rfl rfl (Nat.le_of_ble_eq_true rfl) (j_fit_rm (by omega) (by omega) (by omega)) rfl ?_
        refine j_aload_n x dX0_lay_79 rfl ?_
        refine j2_getr (k := 5) (r := 73) x hb dX0_lay_80 jc_4 wfX0_21 (by decide) rfl ?_
        refine j_iload_n x dX0_lay_83 rfl ?_
        refine j_iload_n x dX0_lay_84 rfl ?_
        refine j_iload_n x dX0_lay_85 rfl ?_
        refine j_icmp_ne (tgt := 94) x dX0_lay_86 (by decide) (fun hc => ?_) (fun hc => absurd hc (fun z => absurd ((nI_eq (by omega) (by omega)).mp z) (by omega)))
        refine j_iconst (v := (-1)) x dX0_lay_94 (by decide) ?_
        refine j2_callSNv x hb dX0_lay_95 m_X5_put (c_put (d := d) hb fa_73 (by decide)) wnX0_42 rfl (Nat.le_of_ble_eq_true rfl) (j_fit_rm (by omega) (by omega) (by omega)) rfl ?_
        refine j_aload_n x dX0_lay_98 rfl ?_
        refine j_iload_n x dX0_lay_99 rfl ?_
        refine j_iload_n x dX0_lay_100 rfl ?_
        refine j2_callVv x hb dX0_lay_101 m_X0_addWeek (c_addWeek (d := d) hb (by omega)) wmX0_46 jc_4 rfl rfl rfl (Nat.le_of_ble_eq_true rfl) (j_fit_rm (by omega) (by omega) (by omega)) rfl ?_
        refine j_iinc x dX0_lay_104 rfl (by decide) rfl ?_
        refine j_goto (tgt := 28) x dX0_lay_107 (by decide) ?_
        exact j_goal (ih (trivial)) (wk_c rfl (wk_c rfl (wk_c rfl (wk_c (congrArg (fun z => some (Value.int z)) (nI_1 _)) (wk_n (wk_n (wk_0))))))) (by rw [jly]; simp only [jrd, if_neg h3, show ¬ q = q + 1 from by omega, if_false])
    refine j_iload_n x dX0_lay_28 rfl ?_
    refine j_aload_n x dX0_lay_29 rfl ?_
    refine j2_geti (k := 0) x hb dX0_lay_30 jc_4 wfX0_27 (by decide) rfl ?_; rw [jly_w]
    refine j_icmp_ge (tgt := 110) x dX0_lay_33 (by decide) (fun hc => ?_) (fun hc => absurd (nI_le (Nat.le_refl _) (by omega)) hc)
    exact j_return x hr dX0_lay_110 (by omega) (by omega) ⟨rfl, rfl⟩
end

section
/-! ===== the tally ===== -/
def jraise (M : MM) (i : Nat) (t v : Int32) : MM := jput 8 M i t (M i t.toNatClampNeg + v)
theorem jraise_n {M : MM} {a : Nat} {t v : Int32} {i k : Nat} (h : i ≠ a) : jraise M a t v i k = M i k := m_put h
def jag (M : MM) (t u v : Int32) : MM := jraise (jraise (jraise (jraise (jraise M 80 t u) 81 t v) 77 t (jb (¬ u ≤ v))) 78 t (jb (u = v))) 79 t (jb (¬ v ≤ u))
theorem c_addGoals {d : Nat} {b : SBt} {Y : OUt} {M : MM} (hb : 104 ≤ b.2.1) {t u v : Int32} : CM (d + 1) 0 0 yX3_addGoals cX3_addGoals 4 none [.ref 75, .int t, .int u, .int v] b Y M (.inl none) (jag M t u v) := by
  refine Con.of (by decide +kernel) (Nat.le_of_ble_eq_true rfl) rfl fun p l e s m args below meth c D tyc A ad0 x hr htab hname => ?_
  change JJ _ _ _ _ _ _ _ _ _ _ _ _ _ _ _ _ _ 0 [some (.ref 75), some (.int t), some (.int u), some (.int v)] [] _ 0 0
  refine j_aload_n x dX3_addGoals_0 rfl ?_
  refine j2_getr (k := 7) (r := 80) x hb dX3_addGoals_1 jc_7 wfX3_24 (by decide) rfl ?_
  refine j_iload_n x dX3_addGoals_4 rfl ?_
  refine j_iload_n x dX3_addGoals_5 rfl ?_
  refine j2_callSNv x hb dX3_addGoals_6 m_X5_raise (c_raise (d := d) hb fa_80 (by decide)) wnX3_74 rfl (Nat.le_of_ble_eq_true rfl) (j_fit_rm (by omega) (by omega) (by omega)) rfl ?_
  refine j_aload_n x dX3_addGoals_9 rfl ?_
  refine j2_getr (k := 8) (r := 81) x hb dX3_addGoals_10 jc_7 wfX3_27 (by decide) rfl ?_
  refine j_iload_n x dX3_addGoals_13 rfl ?_
  refine j_iload_n x dX3_addGoals_14 rfl ?_
  refine j2_callSNv x hb dX3_addGoals_15 m_X5_raise (c_raise (d := d) hb fa_81 (by decide)) wnX3_74 rfl (Nat.le_of_ble_eq_true rfl) (j_fit_rm (by omega) (by omega) (by omega)) rfl ?_
  refine j_aload_n x dX3_addGoals_18 rfl ?_
  refine j2_getr (k := 4) (r := 77) x hb dX3_addGoals_19 jc_7 wfX3_15 (by decide) rfl ?_
  refine j_iload_n x dX3_addGoals_22 rfl ?_
  refine j_iload_n x dX3_addGoals_23 rfl ?_
  refine j_iload_n x dX3_addGoals_24 rfl ?_
  refine j_b_icmp_le (T := 32) (E := 33) x dX3_addGoals_25 (by decide) dX3_addGoals_28 dX3_addGoals_29 (by decide) dX3_addGoals_32 (by decide) ?_
  refine j2_callSNv x hb dX3_addGoals_33 m_X5_raise (c_raise (d := d) hb fa_77 (by decide)) wnX3_74 rfl (Nat.le_of_ble_eq_true rfl) (j_fit_rm (by omega) (by omega) (by omega)) rfl ?_
  refine j_aload_n x dX3_addGoals_36 rfl ?_
  refine j2_getr (k := 5) (r := 78) x hb dX3_addGoals_37 jc_7 wfX3_18 (by decide) rfl ?_
  refine j_iload_n x dX3_addGoals_40 rfl ?_
  refine j_iload_n x dX3_addGoals_41 rfl ?_
  refine j_iload_n x dX3_addGoals_42 rfl ?_
  refine j_b_icmp_ne (T := 50) (E := 51) x dX3_addGoals_43 (by decide) dX3_addGoals_46 dX3_addGoals_47 (by decide) dX3_addGoals_50 (by decide) ?_
  refine j2_callSNv x hb dX3_addGoals_51 m_X5_raise (c_raise (d := d) hb fa_78 (by decide)) wnX3_74 rfl (Nat.le_of_ble_eq_true rfl) (j_fit_rm (by omega) (by omega) (by omega)) rfl ?_
  refine j_aload_n x dX3_addGoals_54 rfl ?_
  refine j2_getr (k := 6) (r := 79) x hb dX3_addGoals_55 jc_7 wfX3_21 (by decide) rfl ?_
  refine j_iload_n x dX3_addGoals_58 rfl ?_
  refine j_iload_n x dX3_addGoals_59 rfl ?_
  refine j_iload_n x dX3_addGoals_60 rfl ?_
  refine j_b_icmp_ge (T := 68) (E := 69) x dX3_addGoals_61 (by decide) dX3_addGoals_64 dX3_addGoals_65 (by decide) dX3_addGoals_68 (by decide) ?_
  refine j2_callSNv x hb dX3_addGoals_69 m_X5_raise (c_raise (d := d) hb fa_79 (by decide)) wnX3_74 rfl (Nat.le_of_ble_eq_true rfl) (j_fit_rm (by omega) (by omega) (by omega)) rfl ?_
  exact j_return x hr dX3_addGoals_72 (by omega) (by omega) ⟨rfl, rfl⟩
def jap (M : MM) (t u v w : Int32) : MM := jraise (jag (jag (jm (jm (jm M 75 0 (M 75 0 + 1)) 75 1 (M 75 1 + (v + w))) 75 2 (M 75 2 + jb (¬ v ≤ w))) t v w) u w v) 82 u w
theorem c_addPlayed {d : Nat} {b : SBt} {Y : OUt} {M : MM} (hb : 104 ≤ b.2.1) {t u v w : Int32} : CM (d + 2) 0 0 yX3_addPlayed cX3_addPlayed 5 none [.ref 75, .int t, .int u, .int v, .int w] b Y M (.inl none) (jap M t u v w) := by
  refine Con.of (by decide +kernel) (Nat.le_of_ble_eq_true rfl) rfl fun p l e s m args below meth c D tyc A ad0 x hr htab hname => ?_
  change JJ _ _ _ _ _ _ _ _ _ _ _ _ _ _ _ _ _ 0 [some (.ref 75), some (.int t), some (.int u), some (.int v), some (.int w)] [] _ 0 0
  refine j_aload_n x dX3_addPlayed_0 rfl ?_
  refine j_dup x dX3_addPlayed_1 rfl ?_
  refine j2_geti (k := 0) x hb dX3_addPlayed_2 jc_7 wfX3_78 (by decide) rfl ?_
  refine j_iconst (v := 1) x dX3_addPlayed_5 (by decide) ?_
  refine j_iadd x dX3_addPlayed_6 ?_
  refine j2_puti (k := 0) x hb dX3_addPlayed_7 jc_7 wfX3_78 (by decide) rfl rfl rfl rfl ?_
  refine j_aload_n x dX3_addPlayed_10 rfl ?_
  refine j_dup x dX3_addPlayed_11 rfl ?_
  refine j2_geti (k := 1) x hb dX3_addPlayed_12 jc_7 wfX3_82 (by decide) rfl ?_; rw [jm_n (by omega)]
  refine j_iload_n x dX3_addPlayed_15 rfl ?_
  refine j_iload x dX3_addPlayed_16 rfl ?_
  refine j_iadd x dX3_addPlayed_18 ?_
  refine j_iadd x dX3_addPlayed_19 ?_
  refine j2_puti (k := 1) x hb dX3_addPlayed_20 jc_7 wfX3_82 (by decide) rfl rfl rfl rfl ?_
  refine j_aload_n x dX3_addPlayed_23 rfl ?_
  refine j_dup x dX3_addPlayed_24 rfl ?_
  refine j2_geti (k := 2) x hb dX3_addPlayed_25 jc_7 wfX3_85 (by decide) rfl ?_; rw [jm_n (by omega), jm_n (by omega)]
  refine j_iload_n x dX3_addPlayed_28 rfl ?_
  refine j_iload x dX3_addPlayed_29 rfl ?_
  refine j_b_icmp_le (T := 38) (E := 39) x dX3_addPlayed_31 (by decide) dX3_addPlayed_34 dX3_addPlayed_35 (by decide) dX3_addPlayed_38 (by decide) ?_
  refine j_iadd x dX3_addPlayed_39 ?_
  refine j2_puti (k := 2) x hb dX3_addPlayed_40 jc_7 wfX3_85 (by decide) rfl rfl rfl rfl ?_
  refine j_aload_n x dX3_addPlayed_43 rfl ?_
  refine j_iload_n x dX3_addPlayed_44 rfl ?_
  refine j_iload_n x dX3_addPlayed_45 rfl ?_
  refine j_iload x dX3_addPlayed_46 rfl ?_
  refine j2_callVv x hb dX3_addPlayed_48 m_X3_addGoals (c_addGoals (d := d) hb) wmX3_92 jc_7 rfl rfl rfl (Nat.le_of_ble_eq_true rfl) (j_fit_rm (by omega) (by omega) (by omega)) rfl ?_
  refine j_aload_n x dX3_addPlayed_51 rfl ?_
  refine j_iload_n x dX3_addPlayed_52 rfl ?_
  refine j_iload x dX3_addPlayed_53 rfl ?_
  refine j_iload_n x dX3_addPlayed_55 rfl ?_
  refine j2_callVv x hb dX3_addPlayed_56 m_X3_addGoals (c_addGoals (d := d) hb) wmX3_92 jc_7 rfl rfl rfl (Nat.le_of_ble_eq_true rfl) (j_fit_rm (by omega) (by omega) (by omega)) rfl ?_
  refine j_aload_n x dX3_addPlayed_59 rfl ?_
  refine j2_getr (k := 9) (r := 82) x hb dX3_addPlayed_60 jc_7 wfX3_30 (by decide) rfl ?_
  refine j_iload_n x dX3_addPlayed_63 rfl ?_
  refine j_iload x dX3_addPlayed_64 rfl ?_
  refine j2_callSNv x hb dX3_addPlayed_66 m_X5_raise (c_raise (d := d) hb fa_82 (by decide)) wnX3_74 rfl (Nat.le_of_ble_eq_true rfl) (j_fit_rm (by omega) (by omega) (by omega)) rfl ?_
  exact j_return x hr dX3_addPlayed_69 (by omega) (by omega) ⟨rfl, rfl⟩
/-- the points of a meeting that ended u : v, w for a win, z for a draw, into the row i -/
def jpts (M : MM) (i : Nat) (t y u v w z : Int32) : MM := if u - v = 0 then jraise (jraise M i t z) i y z else jraise M i (if u - v ≤ 0 then y else t) w
theorem c_addPoints {d : Nat} {b : SBt} {Y : OUt} {M : MM} (hb : 104 ≤ b.2.1) {i n : Nat} {t y : Int32} (hi : fA i 100 8 = true) (hi1 : i ≠ 1) (hn : n < 56) : CM (d + 1) 0 0 yX3_addPoints cX3_addPoints 6 none [.ref i, .int t, .int y, .ref 1, .int (nI n)] b Y M (.inl none) (jpts M i t y (M 5 n) (M 6 n) (M 1 4) (M 1 5)) := by
  refine Con.of (by decide +kernel) (Nat.le_of_ble_eq_true rfl) rfl fun p l e s m args below meth c D tyc A ad0 x hr htab hname => ?_
  change JJ _ _ _ _ _ _ _ _ _ _ _ _ _ _ _ _ _ 0 [some (.ref i), some (.int t), some (.int y), some (.ref 1), some (.int (nI n)), none] [] _ 0 0
  refine j_aload_n x dX3_addPoints_0 rfl ?_
  refine j2_getr (k := 9) (r := 5) x hb dX3_addPoints_1 jc_6 wfX3_60 (by decide) rfl ?_
  refine j_iload x dX3_addPoints_4 rfl ?_
  refine j2_callSNi x hb dX3_addPoints_6 m_X5_at (c_at (d := d) hb fa_5 (by decide)) wnX3_47 rfl (Nat.le_of_ble_eq_true rfl) (j_fit_rm (by omega) (by omega) (by omega)) rfl ?_
  rw [jat_nI hn (by decide)]
  refine j_aload_n x dX3_addPoints_9 rfl ?_
  refine j2_getr (k := 10) (r := 6) x hb dX3_addPoints_10 jc_6 wfX3_63 (by decide) rfl ?_
  refine j_iload x dX3_addPoints_13 rfl ?_
  refine j2_callSNi x hb dX3_addPoints_15 m_X5_at (c_at (d := d) hb fa_6 (by decide)) wnX3_47 rfl (Nat.le_of_ble_eq_true rfl) (j_fit_rm (by omega) (by omega) (by omega)) rfl ?_
  rw [jat_nI hn (by decide)]
  refine j_isub x dX3_addPoints_18 ?_
  refine j_istore x dX3_addPoints_19 (by decide) rfl ?_
  refine j_iload x dX3_addPoints_21 rfl ?_
  refine j_if_ne (tgt := 47) x dX3_addPoints_23 (by decide) (fun h1 => ?_) (fun h1 => ?_)
  · refine j_aload_n x dX3_addPoints_47 rfl ?_
    refine j_iload x dX3_addPoints_48 rfl ?_
    refine j_if_le (tgt := 57) x dX3_addPoints_50 (by decide) (fun h2 => ?_) (fun h2 => ?_)
    · refine j_iload_n x dX3_addPoints_57 rfl ?_
      refine j_aload_n x dX3_addPoints_58 rfl ?_
      refine j2_geti (k := 4) x hb dX3_addPoints_59 jc_6 wfX3_99 (by decide) rfl ?_
      refine j2_callSNv x hb dX3_addPoints_62 m_X5_raise (c_raise (d := d) hb hi (by decide)) wnX3_74 rfl (Nat.le_of_ble_eq_true rfl) (j_fit_rm (by omega) (by omega) (by omega)) rfl ?_
      exact j_return x hr dX3_addPoints_65 (by omega) (by omega) ⟨rfl, by rw [jpts, if_neg h1, if_pos h2]; rfl⟩
    · refine j_iload_n x dX3_addPoints_53 rfl ?_
      refine j_goto (tgt := 58) x dX3_addPoints_54 (by decide) ?_
      refine j_aload_n x dX3_addPoints_58 rfl ?_
      refine j2_geti (k := 4) x hb dX3_addPoints_59 jc_6 wfX3_99 (by decide) rfl ?_
      refine j2_callSNv x hb dX3_addPoints_62 m_X5_raise (c_raise (d := d) hb hi (by decide)) wnX3_74 rfl (Nat.le_of_ble_eq_true rfl) (j_fit_rm (by omega) (by omega) (by omega)) rfl ?_
      exact j_return x hr dX3_addPoints_65 (by omega) (by omega) ⟨rfl, by rw [jpts, if_neg h1, if_neg h2]; rfl⟩
  · refine j_aload_n x dX3_addPoints_26 rfl ?_
    refine j_iload_n x dX3_addPoints_27 rfl ?_
    refine j_aload_n x dX3_addPoints_28 rfl ?_
    refine j2_geti (k := 5) x hb dX3_addPoints_29 jc_6 wfX3_96 (by decide) rfl ?_
    refine j2_callSNv x hb dX3_addPoints_32 m_X5_raise (c_raise (d := d) hb hi (by decide)) wnX3_74 rfl (Nat.le_of_ble_eq_true rfl) (j_fit_rm (by omega) (by omega) (by omega)) rfl ?_
    refine j_aload_n x dX3_addPoints_35 rfl ?_
    refine j_iload_n x dX3_addPoints_36 rfl ?_
    refine j_aload_n x dX3_addPoints_37 rfl ?_
    refine j2_geti (k := 5) x hb dX3_addPoints_38 jc_6 wfX3_96 (by decide) rfl ?_; rw [m_put (Ne.symm hi1)]
    refine j2_callSNv x hb dX3_addPoints_41 m_X5_raise (c_raise (d := d) hb hi (by decide)) wnX3_74 rfl (Nat.le_of_ble_eq_true rfl) (j_fit_rm (by omega) (by omega) (by omega)) rfl ?_
    refine j_goto (tgt := 65) x dX3_addPoints_44 (by decide) ?_
    exact j_return x hr dX3_addPoints_65 (by omega) (by omega) ⟨rfl, by rw [jpts, if_pos h1]; rfl⟩
def jwo (M : MM) (t r : Int32) : Int32 := if r = 0 then jat 8 (M 80) t - jat 8 (M 81) t else if r = 1 then jat 8 (M 80) t else if r = 2 then jat 8 (M 77) t else if r = 3 then jat 8 (M 84) t else jat 8 (M 82) t
theorem c_worth_0 {d : Nat} {b : SBt} {Y : OUt} {M : MM} (hb : 104 ≤ b.2.1) {t : Int32} : CM (d + 1) 0 0 yX3_worth cX3_worth 3 (some .int) [.ref 75, .int t, .int 0] b Y M (.inl (some (.int (jwo M t 0)))) (M) := by
  refine Con.of (by decide +kernel) (Nat.le_of_ble_eq_true rfl) rfl fun p l e s m args below meth c D tyc A ad0 x hr htab hname => ?_
  change JJ _ _ _ _ _ _ _ _ _ _ _ _ _ _ _ _ _ 0 [some (.ref 75), some (.int t), some (.int 0)] [] _ 0 0
  refine j_iload_n x dX3_worth_0 rfl ?_
  refine j_tableIn (tgt := 32) x dX3_worth_1 (by decide) (by decide) rfl (by decide) ?_
  refine j_aload_n x dX3_worth_32 rfl ?_
  refine j2_getr (k := 7) (r := 80) x hb dX3_worth_33 jc_7 wfX3_24 (by decide) rfl ?_
  refine j_iload_n x dX3_worth_36 rfl ?_
  refine j2_callSNi x hb dX3_worth_37 m_X5_at (c_at (d := d) hb fa_80 (by decide)) wnX3_47 rfl (Nat.le_of_ble_eq_true rfl) (j_fit_rm (by omega) (by omega) (by omega)) rfl ?_
  refine j_aload_n x dX3_worth_40 rfl ?_
  refine j2_getr (k := 8) (r := 81) x hb dX3_worth_41 jc_7 wfX3_27 (by decide) rfl ?_
  refine j_iload_n x dX3_worth_44 rfl ?_
  refine j2_callSNi x hb dX3_worth_45 m_X5_at (c_at (d := d) hb fa_81 (by decide)) wnX3_47 rfl (Nat.le_of_ble_eq_true rfl) (j_fit_rm (by omega) (by omega) (by omega)) rfl ?_
  refine j_isub x dX3_worth_48 ?_
  exact j_ireturn x hr dX3_worth_49 (by omega) (by omega) ⟨rfl, rfl⟩
theorem c_worth_1 {d : Nat} {b : SBt} {Y : OUt} {M : MM} (hb : 104 ≤ b.2.1) {t : Int32} : CM (d + 1) 0 0 yX3_worth cX3_worth 3 (some .int) [.ref 75, .int t, .int 1] b Y M (.inl (some (.int (jwo M t 1)))) (M) := by
  refine Con.of (by decide +kernel) (Nat.le_of_ble_eq_true rfl) rfl fun p l e s m args below meth c D tyc A ad0 x hr htab hname => ?_
  change JJ _ _ _ _ _ _ _ _ _ _ _ _ _ _ _ _ _ 0 [some (.ref 75), some (.int t), some (.int 1)] [] _ 0 0
  refine j_iload_n x dX3_worth_0 rfl ?_
  refine j_tableIn (tgt := 50) x dX3_worth_1 (by decide) (by decide) rfl (by decide) ?_
  refine j_aload_n x dX3_worth_50 rfl ?_
  refine j2_getr (k := 7) (r := 80) x hb dX3_worth_51 jc_7 wfX3_24 (by decide) rfl ?_
  refine j_iload_n x dX3_worth_54 rfl ?_
  refine j2_callSNi x hb dX3_worth_55 m_X5_at (c_at (d := d) hb fa_80 (by decide)) wnX3_47 rfl (Nat.le_of_ble_eq_true rfl) (j_fit_rm (by omega) (by omega) (by omega)) rfl ?_
  exact j_ireturn x hr dX3_worth_58 (by omega) (by omega) ⟨rfl, rfl⟩
theorem c_worth_2 {d : Nat} {b : SBt} {Y : OUt} {M : MM} (hb : 104 ≤ b.2.1) {t : Int32} : CM (d + 1) 0 0 yX3_worth cX3_worth 3 (some .int) [.ref 75, .int t, .int 2] b Y M (.inl (some (.int (jwo M t 2)))) (M) := by
  refine Con.of (by decide +kernel) (Nat.le_of_ble_eq_true rfl) rfl fun p l e s m args below meth c D tyc A ad0 x hr htab hname => ?_
  change JJ _ _ _ _ _ _ _ _ _ _ _ _ _ _ _ _ _ 0 [some (.ref 75), some (.int t), some (.int 2)] [] _ 0 0
  refine j_iload_n x dX3_worth_0 rfl ?_
  refine j_tableIn (tgt := 59) x dX3_worth_1 (by decide) (by decide) rfl (by decide) ?_
  refine j_aload_n x dX3_worth_59 rfl ?_
  refine j2_getr (k := 4) (r := 77) x hb dX3_worth_60 jc_7 wfX3_15 (by decide) rfl ?_
  refine j_iload_n x dX3_worth_63 rfl ?_
  refine j2_callSNi x hb dX3_worth_64 m_X5_at (c_at (d := d) hb fa_77 (by decide)) wnX3_47 rfl (Nat.le_of_ble_eq_true rfl) (j_fit_rm (by omega) (by omega) (by omega)) rfl ?_
  exact j_ireturn x hr dX3_worth_67 (by omega) (by omega) ⟨rfl, rfl⟩
theorem c_worth_3 {d : Nat} {b : SBt} {Y : OUt} {M : MM} (hb : 104 ≤ b.2.1) {t : Int32} : CM (d + 1) 0 0 yX3_worth cX3_worth 3 (some .int) [.ref 75, .int t, .int 3] b Y M (.inl (some (.int (jwo M t 3)))) (M) := by
  refine Con.of (by decide +kernel) (Nat.le_of_ble_eq_true rfl) rfl fun p l e s m args below meth c D tyc A ad0 x hr htab hname => ?_
  change JJ _ _ _ _ _ _ _ _ _ _ _ _ _ _ _ _ _ 0 [some (.ref 75), some (.int t), some (.int 3)] [] _ 0 0
  refine j_iload_n x dX3_worth_0 rfl ?_
  refine j_tableIn (tgt := 68) x dX3_worth_1 (by decide) (by decide) rfl (by decide) ?_
  refine j_aload_n x dX3_worth_68 rfl ?_
  refine j2_getr (k := 11) (r := 84) x hb dX3_worth_69 jc_7 wfX3_36 (by decide) rfl ?_
  refine j_iload_n x dX3_worth_72 rfl ?_
  refine j2_callSNi x hb dX3_worth_73 m_X5_at (c_at (d := d) hb fa_84 (by decide)) wnX3_47 rfl (Nat.le_of_ble_eq_true rfl) (j_fit_rm (by omega) (by omega) (by omega)) rfl ?_
  exact j_ireturn x hr dX3_worth_76 (by omega) (by omega) ⟨rfl, rfl⟩
theorem c_worth_4 {d : Nat} {b : SBt} {Y : OUt} {M : MM} (hb : 104 ≤ b.2.1) {t : Int32} : CM (d + 1) 0 0 yX3_worth cX3_worth 3 (some .int) [.ref 75, .int t, .int 4] b Y M (.inl (some (.int (jwo M t 4)))) (M) := by
  refine Con.of (by decide +kernel) (Nat.le_of_ble_eq_true rfl) rfl fun p l e s m args below meth c D tyc A ad0 x hr htab hname => ?_
  change JJ _ _ _ _ _ _ _ _ _ _ _ _ _ _ _ _ _ 0 [some (.ref 75), some (.int t), some (.int 4)] [] _ 0 0
  refine j_iload_n x dX3_worth_0 rfl ?_
  refine j_tableOut (tgt := 77) x dX3_worth_1 (by decide) (by decide) ?_
  refine j_aload_n x dX3_worth_77 rfl ?_
  refine j2_getr (k := 9) (r := 82) x hb dX3_worth_78 jc_7 wfX3_30 (by decide) rfl ?_
  refine j_iload_n x dX3_worth_81 rfl ?_
  refine j2_callSNi x hb dX3_worth_82 m_X5_at (c_at (d := d) hb fa_82 (by decide)) wnX3_47 rfl (Nat.le_of_ble_eq_true rfl) (j_fit_rm (by omega) (by omega) (by omega)) rfl ?_
  exact j_ireturn x hr dX3_worth_85 (by omega) (by omega) ⟨rfl, rfl⟩
theorem jpts_n {M : MM} {a : Nat} {t y u v w z : Int32} {i k : Nat} (h : i ≠ a) : jpts M a t y u v w z i k = M i k := by
  unfold jpts
  split
  · rw [jraise_n h, jraise_n h]
  · rw [jraise_n h]
theorem jag_n {M : MM} {t u v : Int32} {i k : Nat} (h : i < 77 ∨ 81 < i) : jag M t u v i k = M i k := by
  unfold jag
  rw [jraise_n (by omega), jraise_n (by omega), jraise_n (by omega), jraise_n (by omega), jraise_n (by omega)]
theorem jap_n {M : MM} {t u v w : Int32} {i k : Nat} (h : i < 75 ∨ i = 76 ∨ 82 < i) : jap M t u v w i k = M i k := by
  unfold jap
  rw [jraise_n (by omega), jag_n (by omega), jag_n (by omega), jm_n (by omega), jm_n (by omega), jm_n (by omega)]
def jt1 (M : MM) : Nat → MM
  | 0 => jclear M
  | m + 1 => if M 5 m = -1 then jraise (jraise (jt1 M m) 83 (M 70 m) 1) 83 (M 71 m) 1 else jpts (jap (jt1 M m) (M 70 m) (M 71 m) (M 5 m) (M 6 m)) 76 (M 70 m) (M 71 m) (M 5 m) (M 6 m) (M 1 4) (M 1 5)
theorem jt1_n {M : MM} {i k : Nat} (h : i < 75 ∨ 84 < i) : ∀ n, jt1 M n i k = M i k
  | 0 => jclear_n h
  | n + 1 => by
    rw [jt1]
    split
    · rw [jraise_n (by omega), jraise_n (by omega)]; exact jt1_n h n
    · rw [jpts_n (by omega), jap_n (by omega)]; exact jt1_n h n
def jt2 (M : MM) (n : Nat) : Nat → MM
  | 0 => jt1 M n
  | m + 1 => if M 5 m = -1 then jt2 M n m else if jat 8 (jt1 M n 76) (M 70 m) = jat 8 (jt1 M n 76) (M 71 m) then jpts (jt2 M n m) 84 (M 70 m) (M 71 m) (M 5 m) (M 6 m) (M 1 4) (M 1 5) else jt2 M n m
theorem jt2_n {M : MM} {i k n : Nat} (h : i ≠ 84) : ∀ m, jt2 M n m i k = jt1 M n i k
  | 0 => rfl
  | m + 1 => by
    rw [jt2]
    split
    · exact jt2_n h m
    · split
      · rw [jpts_n (by omega)]; exact jt2_n h m
      · exact jt2_n h m
theorem jt2_o {M : MM} {i k n : Nat} (h : i < 75 ∨ 84 < i) (m : Nat) : jt2 M n m i k = M i k := by rw [jt2_n (by omega), jt1_n h]
theorem c_tallyTake {d : Nat} {b : SBt} {Y : OUt} {M : MM} (hb : 104 ≤ b.2.1) {n : Nat} (hn : n ≤ 56) : CM (d + 3) 0 0 yX3_take cX3_take 7 none [.ref 75, .ref 1, .ref 69, .int (nI n)] b Y M (.inl none) (jt2 M n n) := by
  refine Con.of (by decide +kernel) (Nat.le_of_ble_eq_true rfl) rfl fun p l e s m args below meth c D tyc A ad0 x hr htab hname => ?_
  change JJ _ _ _ _ _ _ _ _ _ _ _ _ _ _ _ _ _ 0 [some (.ref 75), some (.ref 1), some (.ref 69), some (.int (nI n)), none, none, none] [] _ 0 0
  refine j_aload_n x dX3_take_0 rfl ?_
  refine j2_callVv x hb dX3_take_1 m_X3_clear (c_clear (d := d) hb) wmX3_39 jc_7 rfl rfl rfl (Nat.le_of_ble_eq_true rfl) (j_fit_rm (by omega) (by omega) (by omega)) rfl ?_
  refine j_iconst (v := 0) x dX3_take_4 (by decide) ?_
  refine j_istore x dX3_take_5 (by decide) rfl ?_
  refine j_for (n) (fun j => [some (.ref 75), some (.ref 1), some (.ref 69), some (.int (nI n)), some (.int (nI j)), none, none]) (fun j => jt1 M j) (fun j => True) (rfl) (rfl) (trivial) (fun j hj hP ih => ?_) (fun hP => ?_)
  · refine j_iload x dX3_take_7 rfl ?_
    refine j_iload_n x dX3_take_9 rfl ?_
    refine j_icmp_ge (tgt := 113) x dX3_take_10 (by decide) (fun hc => absurd hc (nI_ge hj (by omega))) (fun hc => ?_)
    refine j_aload_n x dX3_take_13 rfl ?_
    refine j2_getr (k := 2) (r := 70) x hb dX3_take_14 jc_4 wfX3_42 (by decide) rfl ?_
    refine j_iload x dX3_take_17 rfl ?_
    refine j2_callSNi x hb dX3_take_19 m_X5_at (CM_v (c_at (d := d) hb fa_70 (by decide)) (show jat 56 _ (nI j) = M 70 j by rw [jat_nI (by omega) (by decide), jt1_n (by omega)])) wnX3_47 rfl (Nat.le_of_ble_eq_true rfl) (j_fit_rm (by omega) (by omega) (by omega)) rfl ?_
    refine j_istore x dX3_take_22 (by decide) rfl ?_
    refine j_aload_n x dX3_take_24 rfl ?_
    refine j2_getr (k := 3) (r := 71) x hb dX3_take_25 jc_4 wfX3_51 (by decide) rfl ?_
    refine j_iload x dX3_take_28 rfl ?_
    refine j2_callSNi x hb dX3_take_30 m_X5_at (CM_v (c_at (d := d) hb fa_71 (by decide)) (show jat 56 _ (nI j) = M 71 j by rw [jat_nI (by omega) (by decide), jt1_n (by omega)])) wnX3_47 rfl (Nat.le_of_ble_eq_true rfl) (j_fit_rm (by omega) (by omega) (by omega)) rfl ?_
    refine j_istore x dX3_take_33 (by decide) rfl ?_
    refine j_aload_n x dX3_take_35 rfl ?_
    refine j_iload x dX3_take_36 rfl ?_
    refine j2_callVi x hb dX3_take_38 m_X2_isPlayed (CM_v (c_isPlayed (d := d) (a := 1) hb rfl) (show _ = jb (¬ M 5 j = -1) by rw [jat_nI (by omega) (by decide), jt1_n (by omega)])) wmX3_54 jc_6 rfl rfl rfl (Nat.le_of_ble_eq_true rfl) (j_fit_rm (by omega) (by omega) (by omega)) rfl ?_
    refine j_if_eq (tgt := 87) x dX3_take_41 (by decide) (fun h1 => ?_) (fun h1 => ?_)
    · refine j_aload_n x dX3_take_87 rfl ?_
      refine j2_getr (k := 10) (r := 83) x hb dX3_take_88 jc_7 wfX3_33 (by decide) rfl ?_
      refine j_iload x dX3_take_91 rfl ?_
      refine j_iconst (v := 1) x dX3_take_93 (by decide) ?_
      refine j2_callSNv x hb dX3_take_94 m_X5_raise (c_raise (d := d) hb fa_83 (by decide)) wnX3_74 rfl (Nat.le_of_ble_eq_true rfl) (j_fit_rm (by omega) (by omega) (by omega)) rfl ?_
      refine j_aload_n x dX3_take_97 rfl ?_
      refine j2_getr (k := 10) (r := 83) x hb dX3_take_98 jc_7 wfX3_33 (by decide) rfl ?_
      refine j_iload x dX3_take_101 rfl ?_
      refine j_iconst (v := 1) x dX3_take_103 (by decide) ?_
      refine j2_callSNv x hb dX3_take_104 m_X5_raise (c_raise (d := d) hb fa_83 (by decide)) wnX3_74 rfl (Nat.le_of_ble_eq_true rfl) (j_fit_rm (by omega) (by omega) (by omega)) rfl ?_
      refine j_iinc x dX3_take_107 rfl (by decide) rfl ?_
      refine j_goto (tgt := 7) x dX3_take_110 (by decide) ?_
      exact j_goal (ih (trivial)) (wk_c rfl (wk_c rfl (wk_c rfl (wk_c rfl (wk_c (congrArg (fun z => some (Value.int z)) (nI_1 _)) (wk_n (wk_n (wk_0)))))))) (by rw [jt1, if_pos (Decidable.not_not.mp (jb_0.mp h1))]; rfl)
    · refine j_aload_n x dX3_take_44 rfl ?_
      refine j_iload x dX3_take_45 rfl ?_
      refine j_iload x dX3_take_47 rfl ?_
      refine j_aload_n x dX3_take_49 rfl ?_
      refine j2_getr (k := 9) (r := 5) x hb dX3_take_50 jc_6 wfX3_60 (by decide) rfl ?_
      refine j_iload x dX3_take_53 rfl ?_
      refine j2_callSNi x hb dX3_take_55 m_X5_at (CM_v (c_at (d := d) hb fa_5 (by decide)) (show jat 56 _ (nI j) = M 5 j by rw [jat_nI (by omega) (by decide), jt1_n (by omega)])) wnX3_47 rfl (Nat.le_of_ble_eq_true rfl) (j_fit_rm (by omega) (by omega) (by omega)) rfl ?_
      refine j_aload_n x dX3_take_58 rfl ?_
      refine j2_getr (k := 10) (r := 6) x hb dX3_take_59 jc_6 wfX3_63 (by decide) rfl ?_
      refine j_iload x dX3_take_62 rfl ?_
      refine j2_callSNi x hb dX3_take_64 m_X5_at (CM_v (c_at (d := d) hb fa_6 (by decide)) (show jat 56 _ (nI j) = M 6 j by rw [jat_nI (by omega) (by decide), jt1_n (by omega)])) wnX3_47 rfl (Nat.le_of_ble_eq_true rfl) (j_fit_rm (by omega) (by omega) (by omega)) rfl ?_
      refine j2_callVv x hb dX3_take_67 m_X3_addPlayed (c_addPlayed (d := d) hb) wmX3_66 jc_7 rfl rfl rfl (Nat.le_of_ble_eq_true rfl) (j_fit_rm (by omega) (by omega) (by omega)) rfl ?_
      refine j_aload_n x dX3_take_70 rfl ?_
      refine j2_getr (k := 3) (r := 76) x hb dX3_take_71 jc_7 wfX3_9 (by decide) rfl ?_
      refine j_iload x dX3_take_74 rfl ?_
      refine j_iload x dX3_take_76 rfl ?_
      refine j_aload_n x dX3_take_78 rfl ?_
      refine j_iload x dX3_take_79 rfl ?_
      refine j2_callSv x hb dX3_take_81 m_X3_addPoints (show CM (d + 1) 0 0 _ _ _ _ _ b Y (jap (jt1 M j) (M 70 j) (M 71 j) (M 5 j) (M 6 j)) (.inl none) (jpts (jap (jt1 M j) (M 70 j) (M 71 j) (M 5 j) (M 6 j)) 76 (M 70 j) (M 71 j) (M 5 j) (M 6 j) (M 1 4) (M 1 5)) from by have q := c_addPoints (d := d) (Y := Y) (M := (jap (jt1 M j) (M 70 j) (M 71 j) (M 5 j) (M 6 j))) hb (i := 76) (n := j) (t := M 70 j) (y := M 71 j) fa_76 (by decide) (by omega); rw [jap_n (by omega), jap_n (by omega), jap_n (by omega), jap_n (by omega), jt1_n (by omega), jt1_n (by omega), jt1_n (by omega), jt1_n (by omega)] at q; exact q) wmX3_70 rfl (Nat.le_of_ble_eq_true rfl) (j_fit_rm (by omega) (by omega) (by omega)) rfl ?_
      refine j_goto (tgt := 107) x dX3_take_84 (by decide) ?_
      refine j_iinc x dX3_take_107 rfl (by decide) rfl ?_
      refine j_goto (tgt := 7) x dX3_take_110 (by decide) ?_
      exact j_goal (ih (trivial)) (wk_c rfl (wk_c rfl (wk_c rfl (wk_c rfl (wk_c (congrArg (fun z => some (Value.int z)) (nI_1 _)) (wk_n (wk_n (wk_0)))))))) (by rw [jt1, if_neg (jb_nz.mp h1)])
  refine j_iload x dX3_take_7 rfl ?_
  refine j_iload_n x dX3_take_9 rfl ?_
  refine j_icmp_ge (tgt := 113) x dX3_take_10 (by decide) (fun hc => ?_) (fun hc => absurd (nI_le (Nat.le_refl _) (by omega)) hc)
  refine j_iconst (v := 0) x dX3_take_113 (by decide) ?_
  refine j_istore x dX3_take_114 (by decide) rfl ?_
  refine j_for (n) (fun j => [some (.ref 75), some (.ref 1), some (.ref 69), some (.int (nI n)), some (.int (nI j)), none, none]) (fun j => jt2 M n j) (fun j => True) (rfl) (rfl) (trivial) (fun j hj hP ih => ?_) (fun hP => ?_)
  · refine j_iload x dX3_take_116 rfl ?_
    refine j_iload_n x dX3_take_118 rfl ?_
    refine j_icmp_ge (tgt := 194) x dX3_take_119 (by decide) (fun hc => absurd hc (nI_ge hj (by omega))) (fun hc => ?_)
    refine j_aload_n x dX3_take_122 rfl ?_
    refine j2_getr (k := 2) (r := 70) x hb dX3_take_123 jc_4 wfX3_42 (by decide) rfl ?_
    refine j_iload x dX3_take_126 rfl ?_
    refine j2_callSNi x hb dX3_take_128 m_X5_at (CM_v (c_at (d := d) hb fa_70 (by decide)) (show jat 56 _ (nI j) = M 70 j by rw [jat_nI (by omega) (by decide), jt2_o (by omega)])) wnX3_47 rfl (Nat.le_of_ble_eq_true rfl) (j_fit_rm (by omega) (by omega) (by omega)) rfl ?_
    refine j_istore x dX3_take_131 (by decide) rfl ?_
    refine j_aload_n x dX3_take_133 rfl ?_
    refine j2_getr (k := 3) (r := 71) x hb dX3_take_134 jc_4 wfX3_51 (by decide) rfl ?_
    refine j_iload x dX3_take_137 rfl ?_
    refine j2_callSNi x hb dX3_take_139 m_X5_at (CM_v (c_at (d := d) hb fa_71 (by decide)) (show jat 56 _ (nI j) = M 71 j by rw [jat_nI (by omega) (by decide), jt2_o (by omega)])) wnX3_47 rfl (Nat.le_of_ble_eq_true rfl) (j_fit_rm (by omega) (by omega) (by omega)) rfl ?_
    refine j_istore x dX3_take_142 (by decide) rfl ?_
    refine j_aload_n x dX3_take_144 rfl ?_
    refine j_iload x dX3_take_145 rfl ?_
    refine j2_callVi x hb dX3_take_147 m_X2_isPlayed (CM_v (c_isPlayed (d := d) (a := 1) hb rfl) (show _ = jb (¬ M 5 j = -1) by rw [jat_nI (by omega) (by decide), jt2_o (by omega)])) wmX3_54 jc_6 rfl rfl rfl (Nat.le_of_ble_eq_true rfl) (j_fit_rm (by omega) (by omega) (by omega)) rfl ?_
    refine j_if_eq (tgt := 188) x dX3_take_150 (by decide) (fun h1 => ?_) (fun h1 => ?_)
    · refine j_iinc x dX3_take_188 rfl (by decide) rfl ?_
      refine j_goto (tgt := 116) x dX3_take_191 (by decide) ?_
      exact j_goal (ih (trivial)) (wk_c rfl (wk_c rfl (wk_c rfl (wk_c rfl (wk_c (congrArg (fun z => some (Value.int z)) (nI_1 _)) (wk_n (wk_n (wk_0)))))))) (by rw [jt2, if_pos (Decidable.not_not.mp (jb_0.mp h1))])
    · refine j_aload_n x dX3_take_153 rfl ?_
      refine j2_getr (k := 3) (r := 76) x hb dX3_take_154 jc_7 wfX3_9 (by decide) rfl ?_
      refine j_iload x dX3_take_157 rfl ?_
      refine j2_callSNi x hb dX3_take_159 m_X5_at (CM_v (c_at (d := d) hb fa_76 (by decide)) (show _ = jat 8 (jt1 M n 76) (M 70 j) by rw [show jt2 M n j 76 = jt1 M n 76 from funext fun k => jt2_n (by omega) j])) wnX3_47 rfl (Nat.le_of_ble_eq_true rfl) (j_fit_rm (by omega) (by omega) (by omega)) rfl ?_
      refine j_aload_n x dX3_take_162 rfl ?_
      refine j2_getr (k := 3) (r := 76) x hb dX3_take_163 jc_7 wfX3_9 (by decide) rfl ?_
      refine j_iload x dX3_take_166 rfl ?_
      refine j2_callSNi x hb dX3_take_168 m_X5_at (CM_v (c_at (d := d) hb fa_76 (by decide)) (show _ = jat 8 (jt1 M n 76) (M 71 j) by rw [show jt2 M n j 76 = jt1 M n 76 from funext fun k => jt2_n (by omega) j])) wnX3_47 rfl (Nat.le_of_ble_eq_true rfl) (j_fit_rm (by omega) (by omega) (by omega)) rfl ?_
      refine j_icmp_ne (tgt := 188) x dX3_take_171 (by decide) (fun h2 => ?_) (fun h2 => ?_)
      · refine j_iinc x dX3_take_188 rfl (by decide) rfl ?_
        refine j_goto (tgt := 116) x dX3_take_191 (by decide) ?_
        exact j_goal (ih (trivial)) (wk_c rfl (wk_c rfl (wk_c rfl (wk_c rfl (wk_c (congrArg (fun z => some (Value.int z)) (nI_1 _)) (wk_n (wk_n (wk_0)))))))) (by rw [jt2, if_neg (jb_nz.mp h1), if_neg h2])
      · refine j_aload_n x dX3_take_174 rfl ?_
        refine j2_getr (k := 11) (r := 84) x hb dX3_take_175 jc_7 wfX3_36 (by decide) rfl ?_
        refine j_iload x dX3_take_178 rfl ?_
        refine j_iload x dX3_take_180 rfl ?_
        refine j_aload_n x dX3_take_182 rfl ?_
        refine j_iload x dX3_take_183 rfl ?_
        refine j2_callSv x hb dX3_take_185 m_X3_addPoints (show CM (d + 1) 0 0 _ _ _ _ _ b Y (jt2 M n j) (.inl none) (jpts (jt2 M n j) 84 (M 70 j) (M 71 j) (M 5 j) (M 6 j) (M 1 4) (M 1 5)) from by have q := c_addPoints (d := d) (Y := Y) (M := (jt2 M n j)) hb (i := 84) (n := j) (t := M 70 j) (y := M 71 j) fa_84 (by decide) (by omega); rw [jt2_o (by omega), jt2_o (by omega), jt2_o (by omega), jt2_o (by omega)] at q; exact q) wmX3_70 rfl (Nat.le_of_ble_eq_true rfl) (j_fit_rm (by omega) (by omega) (by omega)) rfl ?_
        refine j_iinc x dX3_take_188 rfl (by decide) rfl ?_
        refine j_goto (tgt := 116) x dX3_take_191 (by decide) ?_
        exact j_goal (ih (trivial)) (wk_c rfl (wk_c rfl (wk_c rfl (wk_c rfl (wk_c (congrArg (fun z => some (Value.int z)) (nI_1 _)) (wk_n (wk_n (wk_0)))))))) (by rw [jt2, if_neg (jb_nz.mp h1), if_pos h2])
  refine j_iload x dX3_take_116 rfl ?_
  refine j_iload_n x dX3_take_118 rfl ?_
  refine j_icmp_ge (tgt := 194) x dX3_take_119 (by decide) (fun hc => ?_) (fun hc => absurd (nI_le (Nat.le_refl _) (by omega)) hc)
  exact j_return x hr dX3_take_194 (by omega) (by omega) ⟨rfl, rfl⟩
def jcount (M : MM) (n : Nat) : MM := jt2 M n n
theorem c_count {d : Nat} {b : SBt} {Y : OUt} {M : MM} (hb : 104 ≤ b.2.1) {n : Nat} (hn : n ≤ 56) (hm : jmc M = nI n) : CM (d + 4) 0 0 yX5_count cX5_count 1 none [.ref 0] b Y M (.inl none) (jcount M n) := by
  refine Con.of (by decide +kernel) (Nat.le_of_ble_eq_true rfl) rfl fun p l e s m args below meth c D tyc A ad0 x hr htab hname => ?_
  change JJ _ _ _ _ _ _ _ _ _ _ _ _ _ _ _ _ _ 0 [some (.ref 0)] [] _ 0 0
  refine j_aload_n x dX5_count_0 rfl ?_
  refine j2_getr (k := 5) (r := 75) x hb dX5_count_1 jc_9 wfX5_36 (by decide) rfl ?_
  refine j_aload_n x dX5_count_4 rfl ?_
  refine j2_getr (k := 0) (r := 1) x hb dX5_count_5 jc_9 wfX5_10 (by decide) rfl ?_
  refine j_aload_n x dX5_count_8 rfl ?_
  refine j2_getr (k := 4) (r := 69) x hb dX5_count_9 jc_9 wfX5_29 (by decide) rfl ?_
  refine j_aload_n x dX5_count_12 rfl ?_
  refine j2_callVi x hb dX5_count_13 m_X5_meetingCount (CM_v (c_meetingCount (d := d) hb) hm) wmX5_258 jc_9 rfl rfl rfl (Nat.le_of_ble_eq_true rfl) (j_fit_rm (by omega) (by omega) (by omega)) rfl ?_
  refine j2_callVv x hb dX5_count_16 m_X3_take (c_tallyTake (d := d) hb hn) wmX5_466 jc_7 rfl rfl rfl (Nat.le_of_ble_eq_true rfl) (j_fit_rm (by omega) (by omega) (by omega)) rfl ?_
  exact j_return x hr dX5_count_19 (by omega) (by omega) ⟨rfl, rfl⟩
theorem jcount_n {M : MM} {i k n : Nat} (h : i < 75 ∨ 84 < i) : jcount M n i k = M i k := jt2_o h n
end

section
/-! ===== meetings: counts, searches, refusals ===== -/
def jsum (f : Nat → Int32) : Nat → Int32
  | 0 => 0
  | n + 1 => jsum f n + f n
theorem jsum_v {f : Nat → Int32} {n : Nat} {v : Int32} (h : f n = v) : jsum f n + v = jsum f (n + 1) := by rw [jsum, h]
theorem jsum_f {f : Nat → Int32} {n : Nat} (h : f n = 0) : jsum f n = jsum f (n + 1) := by rw [jsum, h, Int32.add_zero]
theorem jsum_c {f g : Nat → Int32} : ∀ {n : Nat}, (∀ i, i < n → f i = g i) → jsum f n = jsum g n
  | 0, _ => rfl
  | n + 1, h => by rw [jsum, jsum, jsum_c (n := n) (fun i hi => h i (by omega)), h n (by omega)]
/-- the first place below n where f is 1, else -1 -/
def jfst (f : Nat → Int32) : Nat → Int32
  | 0 => -1
  | n + 1 => if jfst f n = -1 then (if f n = 1 then nI n else -1) else jfst f n
theorem nI_nm1 {n : Nat} (h : n < 2 ^ 31) : ¬ nI n = -1 := fun q => nI_pos h (by rw [q]; decide)
theorem jfst_no {f : Nat → Int32} {n : Nat} (h : jfst f n = -1) (h1 : ¬ f n = 1) : jfst f (n + 1) = -1 := by rw [jfst, if_pos h, if_neg h1]
theorem jfst_at {f : Nat → Int32} {j : Nat} (h : jfst f j = -1) (h1 : f j = 1) (hj : j < 2 ^ 31) : ∀ {n : Nat}, j < n → jfst f n = nI j
  | 0, h2 => absurd h2 (Nat.not_lt_zero j)
  | n + 1, h2 => by
    by_cases hn : j = n
    · subst hn; rw [jfst, if_pos h, if_pos h1]
    · have h3 := jfst_at h h1 hj (n := n) (by omega)
      rw [jfst, h3, if_neg (nI_nm1 hj)]
theorem jfst_c {f g : Nat → Int32} : ∀ {n : Nat}, (∀ i, i < n → f i = g i) → jfst f n = jfst g n
  | 0, _ => rfl
  | n + 1, h => by rw [jfst, jfst, jfst_c (n := n) (fun i hi => h i (by omega)), h n (by omega)]
def jkind (M : MM) (t : Int32) : Int32 := if ¬ jat 56 (M 5) t = -1 then 1 else if jat 56 (M 4) t = jat 56 (M 72) t then 0 else 2
def jgr (M : MM) (t : Int32) : Int32 := jat 8 (M 2) (jat 56 (M 70) t)
def fNow (M : MM) (m : Nat) : Int32 := jb (M 4 m = M 1 3 ∧ M 5 m = -1)
def fPut (M : MM) (m : Nat) : Int32 := jb (M 5 m = -1 ∧ ¬ M 4 m = M 72 m)
def fBet (M : MM) (u v : Int32) (m : Nat) : Int32 := jb (M 70 m = u ∧ M 71 m = v)
def fCl (M : MM) (t w : Int32) (m : Nat) : Int32 := jb (¬ nI m = t ∧ M 4 m = w ∧ jgr M (nI m) = jgr M t)
def fPair (M : MM) (n : Nat) (w : Int32) (m : Nat) : Int32 := if M 4 m = w then jsum (fCl M (nI m) w) n else 0
def jpairs (M : MM) (n : Nat) (w : Int32) : Int32 := jsum (fPair M n w) n / 2
theorem c_kindOf {d : Nat} {b : SBt} {Y : OUt} {M : MM} (hb : 104 ≤ b.2.1) {t : Int32} : CM (d + 2) 0 0 yX5_kindOf cX5_kindOf 2 (some .int) [.ref 0, .int t] b Y M (.inl (some (.int (jkind M t)))) (M) := by
  refine Con.of (by decide +kernel) (Nat.le_of_ble_eq_true rfl) rfl fun p l e s m args below meth c D tyc A ad0 x hr htab hname => ?_
  change JJ _ _ _ _ _ _ _ _ _ _ _ _ _ _ _ _ _ 0 [some (.ref 0), some (.int t)] [] _ 0 0
  refine j_aload_n x dX5_kindOf_0 rfl ?_
  refine j2_getr (k := 0) (r := 1) x hb dX5_kindOf_1 jc_9 wfX5_10 (by decide) rfl ?_
  refine j_iload_n x dX5_kindOf_4 rfl ?_
  refine j2_callVi x hb dX5_kindOf_5 m_X2_isPlayed (c_isPlayed (d := d) (a := 1) hb rfl) wmX5_288 jc_6 rfl rfl rfl (Nat.le_of_ble_eq_true rfl) (j_fit_rm (by omega) (by omega) (by omega)) rfl ?_
  refine j_if_eq (tgt := 13) x dX5_kindOf_8 (by decide) (fun h1 => ?_) (fun h1 => ?_)
  · refine j_aload_n x dX5_kindOf_13 rfl ?_
    refine j2_getr (k := 0) (r := 1) x hb dX5_kindOf_14 jc_9 wfX5_10 (by decide) rfl ?_
    refine j2_getr (k := 8) (r := 4) x hb dX5_kindOf_17 jc_6 wfX5_163 (by decide) rfl ?_
    refine j_iload_n x dX5_kindOf_20 rfl ?_
    refine j2_callSi x hb dX5_kindOf_21 m_X5_at (c_at (d := d) hb fa_4 (by decide)) wmX5_93 rfl (Nat.le_of_ble_eq_true rfl) (j_fit_rm (by omega) (by omega) (by omega)) rfl ?_
    refine j_aload_n x dX5_kindOf_24 rfl ?_
    refine j2_getr (k := 4) (r := 69) x hb dX5_kindOf_25 jc_9 wfX5_29 (by decide) rfl ?_
    refine j2_getr (k := 4) (r := 72) x hb dX5_kindOf_28 jc_4 wfX5_237 (by decide) rfl ?_
    refine j_iload_n x dX5_kindOf_31 rfl ?_
    refine j2_callSi x hb dX5_kindOf_32 m_X5_at (c_at (d := d) hb fa_72 (by decide)) wmX5_93 rfl (Nat.le_of_ble_eq_true rfl) (j_fit_rm (by omega) (by omega) (by omega)) rfl ?_
    refine j_icmp_ne (tgt := 42) x dX5_kindOf_35 (by decide) (fun h2 => ?_) (fun h2 => ?_)
    · refine j_iconst (v := 2) x dX5_kindOf_42 (by decide) ?_
      exact j_ireturn x hr dX5_kindOf_43 (by omega) (by omega) ⟨by rw [jkind, if_neg (jb_0.mp h1), if_neg h2], rfl⟩
    · refine j_iconst (v := 0) x dX5_kindOf_38 (by decide) ?_
      refine j_goto (tgt := 43) x dX5_kindOf_39 (by decide) ?_
      exact j_ireturn x hr dX5_kindOf_43 (by omega) (by omega) ⟨by rw [jkind, if_neg (jb_0.mp h1), if_pos h2], rfl⟩
  · refine j_iconst (v := 1) x dX5_kindOf_11 (by decide) ?_
    exact j_ireturn x hr dX5_kindOf_12 (by omega) (by omega) ⟨by rw [jkind, if_pos (jb_nz.mp h1)], rfl⟩
theorem c_isIn {d : Nat} {b : SBt} {Y : OUt} {M : MM} (hb : 104 ≤ b.2.1) {t : Int32} {m1 : Nat} (hm1 : m1 < 56) : CM (d + 1) 0 0 yX5_isIn cX5_isIn 3 (some .boolean) [.ref 0, .int t, .int (nI m1)] b Y M (.inl (some (.int (jb (M 70 m1 = t ∨ M 71 m1 = t))))) (M) := by
  refine Con.of (by decide +kernel) (Nat.le_of_ble_eq_true rfl) rfl fun p l e s m args below meth c D tyc A ad0 x hr htab hname => ?_
  change JJ _ _ _ _ _ _ _ _ _ _ _ _ _ _ _ _ _ 0 [some (.ref 0), some (.int t), some (.int (nI m1))] [] _ 0 0
  refine j_aload_n x dX5_isIn_0 rfl ?_
  refine j2_getr (k := 4) (r := 69) x hb dX5_isIn_1 jc_9 wfX5_29 (by decide) rfl ?_
  refine j2_getr (k := 2) (r := 70) x hb dX5_isIn_4 jc_4 wfX5_221 (by decide) rfl ?_
  refine j_iload_n x dX5_isIn_7 rfl ?_
  refine j2_callSi x hb dX5_isIn_8 m_X5_at (CM_v (c_at (d := d) hb fa_70 (by decide)) (jat_nI hm1 (by decide))) wmX5_93 rfl (Nat.le_of_ble_eq_true rfl) (j_fit_rm (by omega) (by omega) (by omega)) rfl ?_
  refine j_iload_n x dX5_isIn_11 rfl ?_
  refine j_icmp_eq (tgt := 30) x dX5_isIn_12 (by decide) (fun h1 => ?_) (fun h1 => ?_)
  · refine j_iconst (v := 1) x dX5_isIn_30 (by decide) ?_
    refine j_goto (tgt := 35) x dX5_isIn_31 (by decide) ?_
    exact j_zreturn x hr dX5_isIn_35 (by first | decide | with_reducible exact jb_nar | with_reducible exact jisS_nar | with_reducible exact gno_nar) (by omega) (by omega) ⟨by rw [jb_t (Or.inl h1)], rfl⟩
  · refine j_aload_n x dX5_isIn_15 rfl ?_
    refine j2_getr (k := 4) (r := 69) x hb dX5_isIn_16 jc_9 wfX5_29 (by decide) rfl ?_
    refine j2_getr (k := 3) (r := 71) x hb dX5_isIn_19 jc_4 wfX5_224 (by decide) rfl ?_
    refine j_iload_n x dX5_isIn_22 rfl ?_
    refine j2_callSi x hb dX5_isIn_23 m_X5_at (CM_v (c_at (d := d) hb fa_71 (by decide)) (jat_nI hm1 (by decide))) wmX5_93 rfl (Nat.le_of_ble_eq_true rfl) (j_fit_rm (by omega) (by omega) (by omega)) rfl ?_
    refine j_iload_n x dX5_isIn_26 rfl ?_
    refine j_icmp_ne (tgt := 34) x dX5_isIn_27 (by decide) (fun h2 => ?_) (fun h2 => ?_)
    · refine j_iconst (v := 0) x dX5_isIn_34 (by decide) ?_
      exact j_zreturn x hr dX5_isIn_35 (by first | decide | with_reducible exact jb_nar | with_reducible exact jisS_nar | with_reducible exact gno_nar) (by omega) (by omega) ⟨by rw [jb_f (fun q => q.elim h1 h2)], rfl⟩
    · refine j_iconst (v := 1) x dX5_isIn_30 (by decide) ?_
      refine j_goto (tgt := 35) x dX5_isIn_31 (by decide) ?_
      exact j_zreturn x hr dX5_isIn_35 (by first | decide | with_reducible exact jb_nar | with_reducible exact jisS_nar | with_reducible exact gno_nar) (by omega) (by omega) ⟨by rw [jb_t (Or.inr h2)], rfl⟩
theorem c_hasLost {d : Nat} {b : SBt} {Y : OUt} {M : MM} (hb : 104 ≤ b.2.1) {t : Int32} {m1 : Nat} (hm1 : m1 < 56) : CM (d + 1) 0 0 yX5_hasLost cX5_hasLost 4 (some .boolean) [.ref 0, .int t, .int (nI m1)] b Y M (.inl (some (.int (if M 70 m1 = t then jb (¬ 0 ≤ M 5 m1 - M 6 m1) else jb (¬ M 5 m1 - M 6 m1 ≤ 0))))) (M) := by
  refine Con.of (by decide +kernel) (Nat.le_of_ble_eq_true rfl) rfl fun p l e s m args below meth c D tyc A ad0 x hr htab hname => ?_
  change JJ _ _ _ _ _ _ _ _ _ _ _ _ _ _ _ _ _ 0 [some (.ref 0), some (.int t), some (.int (nI m1)), none] [] _ 0 0
  refine j_aload_n x dX5_hasLost_0 rfl ?_
  refine j2_getr (k := 0) (r := 1) x hb dX5_hasLost_1 jc_9 wfX5_10 (by decide) rfl ?_
  refine j2_getr (k := 9) (r := 5) x hb dX5_hasLost_4 jc_6 wfX5_231 (by decide) rfl ?_
  refine j_iload_n x dX5_hasLost_7 rfl ?_
  refine j2_callSi x hb dX5_hasLost_8 m_X5_at (CM_v (c_at (d := d) hb fa_5 (by decide)) (jat_nI hm1 (by decide))) wmX5_93 rfl (Nat.le_of_ble_eq_true rfl) (j_fit_rm (by omega) (by omega) (by omega)) rfl ?_
  refine j_aload_n x dX5_hasLost_11 rfl ?_
  refine j2_getr (k := 0) (r := 1) x hb dX5_hasLost_12 jc_9 wfX5_10 (by decide) rfl ?_
  refine j2_getr (k := 10) (r := 6) x hb dX5_hasLost_15 jc_6 wfX5_234 (by decide) rfl ?_
  refine j_iload_n x dX5_hasLost_18 rfl ?_
  refine j2_callSi x hb dX5_hasLost_19 m_X5_at (CM_v (c_at (d := d) hb fa_6 (by decide)) (jat_nI hm1 (by decide))) wmX5_93 rfl (Nat.le_of_ble_eq_true rfl) (j_fit_rm (by omega) (by omega) (by omega)) rfl ?_
  refine j_isub x dX5_hasLost_22 ?_
  refine j_istore_n x dX5_hasLost_23 (by decide) rfl ?_
  refine j_aload_n x dX5_hasLost_24 rfl ?_
  refine j2_getr (k := 4) (r := 69) x hb dX5_hasLost_25 jc_9 wfX5_29 (by decide) rfl ?_
  refine j2_getr (k := 2) (r := 70) x hb dX5_hasLost_28 jc_4 wfX5_221 (by decide) rfl ?_
  refine j_iload_n x dX5_hasLost_31 rfl ?_
  refine j2_callSi x hb dX5_hasLost_32 m_X5_at (CM_v (c_at (d := d) hb fa_70 (by decide)) (jat_nI hm1 (by decide))) wmX5_93 rfl (Nat.le_of_ble_eq_true rfl) (j_fit_rm (by omega) (by omega) (by omega)) rfl ?_
  refine j_iload_n x dX5_hasLost_35 rfl ?_
  refine j_icmp_ne (tgt := 51) x dX5_hasLost_36 (by decide) (fun h1 => ?_) (fun h1 => ?_)
  · refine j_iload_n x dX5_hasLost_51 rfl ?_
    refine j_if_le (tgt := 59) x dX5_hasLost_52 (by decide) (fun h2 => ?_) (fun h2 => ?_)
    · refine j_iconst (v := 0) x dX5_hasLost_59 (by decide) ?_
      exact j_zreturn x hr dX5_hasLost_60 (by first | decide | with_reducible exact jb_nar | with_reducible exact jisS_nar | with_reducible exact gno_nar) (by omega) (by omega) ⟨by rw [if_neg h1, jb_f (fun q => q h2)], rfl⟩
    · refine j_iconst (v := 1) x dX5_hasLost_55 (by decide) ?_
      refine j_goto (tgt := 60) x dX5_hasLost_56 (by decide) ?_
      exact j_zreturn x hr dX5_hasLost_60 (by first | decide | with_reducible exact jb_nar | with_reducible exact jisS_nar | with_reducible exact gno_nar) (by omega) (by omega) ⟨by rw [if_neg h1, jb_t h2], rfl⟩
  · refine j_iload_n x dX5_hasLost_39 rfl ?_
    refine j_if_ge (tgt := 47) x dX5_hasLost_40 (by decide) (fun h2 => ?_) (fun h2 => ?_)
    · refine j_iconst (v := 0) x dX5_hasLost_47 (by decide) ?_
      refine j_goto (tgt := 60) x dX5_hasLost_48 (by decide) ?_
      exact j_zreturn x hr dX5_hasLost_60 (by first | decide | with_reducible exact jb_nar | with_reducible exact jisS_nar | with_reducible exact gno_nar) (by omega) (by omega) ⟨by rw [if_pos h1, jb_f (fun q => q h2)], rfl⟩
    · refine j_iconst (v := 1) x dX5_hasLost_43 (by decide) ?_
      refine j_goto (tgt := 60) x dX5_hasLost_44 (by decide) ?_
      exact j_zreturn x hr dX5_hasLost_60 (by first | decide | with_reducible exact jb_nar | with_reducible exact jisS_nar | with_reducible exact gno_nar) (by omega) (by omega) ⟨by rw [if_pos h1, jb_t h2], rfl⟩
theorem c_meetingBetween {d : Nat} {b : SBt} {Y : OUt} {M : MM} (hb : 104 ≤ b.2.1) {u v : Int32} {n : Nat} (hn : n ≤ 56) (hm : jmc M = nI n) : CM (d + 1) 0 0 yX5_meetingBetween cX5_meetingBetween 4 (some .int) [.ref 0, .int u, .int v] b Y M (.inl (some (.int (jfst (fBet M u v) n)))) (M) := by
  refine Con.of (by decide +kernel) (Nat.le_of_ble_eq_true rfl) rfl fun p l e s m args below meth c D tyc A ad0 x hr htab hname => ?_
  change JJ _ _ _ _ _ _ _ _ _ _ _ _ _ _ _ _ _ 0 [some (.ref 0), some (.int u), some (.int v), none] [] _ 0 0
  refine j_iconst (v := 0) x dX5_meetingBetween_0 (by decide) ?_
  refine j_istore_n x dX5_meetingBetween_1 (by decide) rfl ?_
  refine j_for (n) (fun z0 => [some (.ref 0), some (.int u), some (.int v), some (.int (nI z0))]) (fun z0 => M) (fun z0 => jfst (fBet M u v) z0 = -1) (rfl) (rfl) (rfl) (fun j hj hP ih => ?_) (fun hP => ?_)
  · refine j_iload_n x dX5_meetingBetween_2 rfl ?_
    refine j_aload_n x dX5_meetingBetween_3 rfl ?_
    refine j2_callVi x hb dX5_meetingBetween_4 m_X5_meetingCount (CM_v (c_meetingCount (d := d) hb) hm) wmX5_258 jc_9 rfl rfl rfl (Nat.le_of_ble_eq_true rfl) (j_fit_rm (by omega) (by omega) (by omega)) rfl ?_
    refine j_icmp_ge (tgt := 48) x dX5_meetingBetween_7 (by decide) (fun hc => absurd hc (nI_ge hj (by omega))) (fun hc => ?_)
    refine j_aload_n x dX5_meetingBetween_10 rfl ?_
    refine j2_getr (k := 4) (r := 69) x hb dX5_meetingBetween_11 jc_9 wfX5_29 (by decide) rfl ?_
    refine j2_getr (k := 2) (r := 70) x hb dX5_meetingBetween_14 jc_4 wfX5_221 (by decide) rfl ?_
    refine j_iload_n x dX5_meetingBetween_17 rfl ?_
    refine j2_callSi x hb dX5_meetingBetween_18 m_X5_at (CM_v (c_at (d := d) hb fa_70 (by decide)) (jat_nI (show j < 56 by omega) (by decide))) wmX5_93 rfl (Nat.le_of_ble_eq_true rfl) (j_fit_rm (by omega) (by omega) (by omega)) rfl ?_
    refine j_iload_n x dX5_meetingBetween_21 rfl ?_
    refine j_icmp_ne (tgt := 42) x dX5_meetingBetween_22 (by decide) (fun h1 => ?_) (fun h1 => ?_)
    · refine j_iinc x dX5_meetingBetween_42 rfl (by decide) rfl ?_
      refine j_goto (tgt := 2) x dX5_meetingBetween_45 (by decide) ?_
      exact j_goal (ih (jfst_no hP (by rw [show fBet M u v j = 0 from jb_f (fun q => h1 q.1)]; decide))) (wk_c rfl (wk_c rfl (wk_c rfl (wk_c (congrArg (fun z => some (Value.int z)) (nI_1 _)) (wk_0))))) (rfl)
    · refine j_aload_n x dX5_meetingBetween_25 rfl ?_
      refine j2_getr (k := 4) (r := 69) x hb dX5_meetingBetween_26 jc_9 wfX5_29 (by decide) rfl ?_
      refine j2_getr (k := 3) (r := 71) x hb dX5_meetingBetween_29 jc_4 wfX5_224 (by decide) rfl ?_
      refine j_iload_n x dX5_meetingBetween_32 rfl ?_
      refine j2_callSi x hb dX5_meetingBetween_33 m_X5_at (CM_v (c_at (d := d) hb fa_71 (by decide)) (jat_nI (show j < 56 by omega) (by decide))) wmX5_93 rfl (Nat.le_of_ble_eq_true rfl) (j_fit_rm (by omega) (by omega) (by omega)) rfl ?_
      refine j_iload_n x dX5_meetingBetween_36 rfl ?_
      refine j_icmp_ne (tgt := 42) x dX5_meetingBetween_37 (by decide) (fun h2 => ?_) (fun h2 => ?_)
      · refine j_iinc x dX5_meetingBetween_42 rfl (by decide) rfl ?_
        refine j_goto (tgt := 2) x dX5_meetingBetween_45 (by decide) ?_
        exact j_goal (ih (jfst_no hP (by rw [show fBet M u v j = 0 from jb_f (fun q => h2 q.2)]; decide))) (wk_c rfl (wk_c rfl (wk_c rfl (wk_c (congrArg (fun z => some (Value.int z)) (nI_1 _)) (wk_0))))) (rfl)
      · refine j_iload_n x dX5_meetingBetween_40 rfl ?_
        exact j_ireturn x hr dX5_meetingBetween_41 (by omega) (by omega) ⟨by rw [jfst_at hP (show fBet M u v j = 1 from jb_t ⟨h1, h2⟩) (by omega) hj], rfl⟩
  refine j_iload_n x dX5_meetingBetween_2 rfl ?_
  refine j_aload_n x dX5_meetingBetween_3 rfl ?_
  refine j2_callVi x hb dX5_meetingBetween_4 m_X5_meetingCount (CM_v (c_meetingCount (d := d) hb) hm) wmX5_258 jc_9 rfl rfl rfl (Nat.le_of_ble_eq_true rfl) (j_fit_rm (by omega) (by omega) (by omega)) rfl ?_
  refine j_icmp_ge (tgt := 48) x dX5_meetingBetween_7 (by decide) (fun hc => ?_) (fun hc => absurd (nI_le (Nat.le_refl _) (by omega)) hc)
  refine j_iconst (v := (-1)) x dX5_meetingBetween_48 (by decide) ?_
  exact j_ireturn x hr dX5_meetingBetween_49 (by omega) (by omega) ⟨by rw [hP], rfl⟩
theorem c_firstNotPlayedNow {d : Nat} {b : SBt} {Y : OUt} {M : MM} (hb : 104 ≤ b.2.1)  {n : Nat} (hn : n ≤ 56) (hm : jmc M = nI n) : CM (d + 2) 0 0 yX5_firstNotPlayedNow cX5_firstNotPlayedNow 2 (some .int) [.ref 0] b Y M (.inl (some (.int (jfst (fNow M) n)))) (M) := by
  refine Con.of (by decide +kernel) (Nat.le_of_ble_eq_true rfl) rfl fun p l e s m args below meth c D tyc A ad0 x hr htab hname => ?_
  change JJ _ _ _ _ _ _ _ _ _ _ _ _ _ _ _ _ _ 0 [some (.ref 0), none] [] _ 0 0
  refine j_iconst (v := 0) x dX5_firstNotPlayedNow_0 (by decide) ?_
  refine j_istore_n x dX5_firstNotPlayedNow_1 (by decide) rfl ?_
  refine j_for (n) (fun z0 => [some (.ref 0), some (.int (nI z0))]) (fun z0 => M) (fun z0 => jfst (fNow M) z0 = -1) (rfl) (rfl) (rfl) (fun j hj hP ih => ?_) (fun hP => ?_)
  · refine j_iload_n x dX5_firstNotPlayedNow_2 rfl ?_
    refine j_aload_n x dX5_firstNotPlayedNow_3 rfl ?_
    refine j2_callVi x hb dX5_firstNotPlayedNow_4 m_X5_meetingCount (CM_v (c_meetingCount (d := d) hb) hm) wmX5_258 jc_9 rfl rfl rfl (Nat.le_of_ble_eq_true rfl) (j_fit_rm (by omega) (by omega) (by omega)) rfl ?_
    refine j_icmp_ge (tgt := 50) x dX5_firstNotPlayedNow_7 (by decide) (fun hc => absurd hc (nI_ge hj (by omega))) (fun hc => ?_)
    refine j_aload_n x dX5_firstNotPlayedNow_10 rfl ?_
    refine j2_getr (k := 0) (r := 1) x hb dX5_firstNotPlayedNow_11 jc_9 wfX5_10 (by decide) rfl ?_
    refine j2_getr (k := 8) (r := 4) x hb dX5_firstNotPlayedNow_14 jc_6 wfX5_163 (by decide) rfl ?_
    refine j_iload_n x dX5_firstNotPlayedNow_17 rfl ?_
    refine j2_callSi x hb dX5_firstNotPlayedNow_18 m_X5_at (CM_v (c_at (d := d) hb fa_4 (by decide)) (jat_nI (show j < 56 by omega) (by decide))) wmX5_93 rfl (Nat.le_of_ble_eq_true rfl) (j_fit_rm (by omega) (by omega) (by omega)) rfl ?_
    refine j_aload_n x dX5_firstNotPlayedNow_21 rfl ?_
    refine j2_getr (k := 0) (r := 1) x hb dX5_firstNotPlayedNow_22 jc_9 wfX5_10 (by decide) rfl ?_
    refine j2_geti (k := 3) x hb dX5_firstNotPlayedNow_25 jc_6 wfX5_160 (by decide) rfl ?_
    refine j_icmp_ne (tgt := 44) x dX5_firstNotPlayedNow_28 (by decide) (fun h1 => ?_) (fun h1 => ?_)
    · refine j_iinc x dX5_firstNotPlayedNow_44 rfl (by decide) rfl ?_
      refine j_goto (tgt := 2) x dX5_firstNotPlayedNow_47 (by decide) ?_
      exact j_goal (ih (jfst_no hP (by rw [show fNow M j = 0 from jb_f (fun q => h1 q.1)]; decide))) (wk_c rfl (wk_c (congrArg (fun z => some (Value.int z)) (nI_1 _)) (wk_0))) (rfl)
    · refine j_aload_n x dX5_firstNotPlayedNow_31 rfl ?_
      refine j2_getr (k := 0) (r := 1) x hb dX5_firstNotPlayedNow_32 jc_9 wfX5_10 (by decide) rfl ?_
      refine j_iload_n x dX5_firstNotPlayedNow_35 rfl ?_
      refine j2_callVi x hb dX5_firstNotPlayedNow_36 m_X2_isPlayed (CM_v (c_isPlayed (d := d) (a := 1) hb rfl) (show _ = jb (¬ M 5 j = -1) by rw [jat_nI (show j < 56 by omega) (by decide)])) wmX5_288 jc_6 rfl rfl rfl (Nat.le_of_ble_eq_true rfl) (j_fit_rm (by omega) (by omega) (by omega)) rfl ?_
      refine j_if_ne (tgt := 44) x dX5_firstNotPlayedNow_39 (by decide) (fun h2 => ?_) (fun h2 => ?_)
      · refine j_iinc x dX5_firstNotPlayedNow_44 rfl (by decide) rfl ?_
        refine j_goto (tgt := 2) x dX5_firstNotPlayedNow_47 (by decide) ?_
        exact j_goal (ih (jfst_no hP (by rw [show fNow M j = 0 from jb_f (fun q => jb_nz.mp h2 q.2)]; decide))) (wk_c rfl (wk_c (congrArg (fun z => some (Value.int z)) (nI_1 _)) (wk_0))) (rfl)
      · refine j_iload_n x dX5_firstNotPlayedNow_42 rfl ?_
        exact j_ireturn x hr dX5_firstNotPlayedNow_43 (by omega) (by omega) ⟨by rw [jfst_at hP (show fNow M j = 1 from jb_t ⟨h1, Decidable.not_not.mp (jb_0.mp h2)⟩) (by omega) hj], rfl⟩
  refine j_iload_n x dX5_firstNotPlayedNow_2 rfl ?_
  refine j_aload_n x dX5_firstNotPlayedNow_3 rfl ?_
  refine j2_callVi x hb dX5_firstNotPlayedNow_4 m_X5_meetingCount (CM_v (c_meetingCount (d := d) hb) hm) wmX5_258 jc_9 rfl rfl rfl (Nat.le_of_ble_eq_true rfl) (j_fit_rm (by omega) (by omega) (by omega)) rfl ?_
  refine j_icmp_ge (tgt := 50) x dX5_firstNotPlayedNow_7 (by decide) (fun hc => ?_) (fun hc => absurd (nI_le (Nat.le_refl _) (by omega)) hc)
  refine j_iconst (v := (-1)) x dX5_firstNotPlayedNow_50 (by decide) ?_
  exact j_ireturn x hr dX5_firstNotPlayedNow_51 (by omega) (by omega) ⟨by rw [hP], rfl⟩
theorem c_notPlayedNow {d : Nat} {b : SBt} {Y : OUt} {M : MM} (hb : 104 ≤ b.2.1)  {n : Nat} (hn : n ≤ 56) (hm : jmc M = nI n) : CM (d + 2) 0 0 yX5_notPlayedNow cX5_notPlayedNow 3 (some .int) [.ref 0] b Y M (.inl (some (.int (jsum (fNow M) n)))) (M) := by
  refine Con.of (by decide +kernel) (Nat.le_of_ble_eq_true rfl) rfl fun p l e s m args below meth c D tyc A ad0 x hr htab hname => ?_
  change JJ _ _ _ _ _ _ _ _ _ _ _ _ _ _ _ _ _ 0 [some (.ref 0), none, none] [] _ 0 0
  refine j_iconst (v := 0) x dX5_notPlayedNow_0 (by decide) ?_
  refine j_istore_n x dX5_notPlayedNow_1 (by decide) rfl ?_
  refine j_iconst (v := 0) x dX5_notPlayedNow_2 (by decide) ?_
  refine j_istore_n x dX5_notPlayedNow_3 (by decide) rfl ?_
  refine j_for (n) (fun z0 => [some (.ref 0), some (.int (jsum (fNow M) z0)), some (.int (nI z0))]) (fun z0 => M) (fun z0 => True) (rfl) (rfl) (trivial) (fun j hj hP ih => ?_) (fun hP => ?_)
  · refine j_iload_n x dX5_notPlayedNow_4 rfl ?_
    refine j_aload_n x dX5_notPlayedNow_5 rfl ?_
    refine j2_callVi x hb dX5_notPlayedNow_6 m_X5_meetingCount (CM_v (c_meetingCount (d := d) hb) hm) wmX5_258 jc_9 rfl rfl rfl (Nat.le_of_ble_eq_true rfl) (j_fit_rm (by omega) (by omega) (by omega)) rfl ?_
    refine j_icmp_ge (tgt := 53) x dX5_notPlayedNow_9 (by decide) (fun hc => absurd hc (nI_ge hj (by omega))) (fun hc => ?_)
    refine j_aload_n x dX5_notPlayedNow_12 rfl ?_
    refine j2_getr (k := 0) (r := 1) x hb dX5_notPlayedNow_13 jc_9 wfX5_10 (by decide) rfl ?_
    refine j2_getr (k := 8) (r := 4) x hb dX5_notPlayedNow_16 jc_6 wfX5_163 (by decide) rfl ?_
    refine j_iload_n x dX5_notPlayedNow_19 rfl ?_
    refine j2_callSi x hb dX5_notPlayedNow_20 m_X5_at (CM_v (c_at (d := d) hb fa_4 (by decide)) (jat_nI (show j < 56 by omega) (by decide))) wmX5_93 rfl (Nat.le_of_ble_eq_true rfl) (j_fit_rm (by omega) (by omega) (by omega)) rfl ?_
    refine j_aload_n x dX5_notPlayedNow_23 rfl ?_
    refine j2_getr (k := 0) (r := 1) x hb dX5_notPlayedNow_24 jc_9 wfX5_10 (by decide) rfl ?_
    refine j2_geti (k := 3) x hb dX5_notPlayedNow_27 jc_6 wfX5_160 (by decide) rfl ?_
    refine j_icmp_ne (tgt := 47) x dX5_notPlayedNow_30 (by decide) (fun h1 => ?_) (fun h1 => ?_)
    · refine j_iinc x dX5_notPlayedNow_47 rfl (by decide) rfl ?_
      refine j_goto (tgt := 4) x dX5_notPlayedNow_50 (by decide) ?_
      exact j_goal (ih (trivial)) (wk_c rfl (wk_c (congrArg (fun z => some (Value.int z)) (jsum_f (jb_f (fun q => h1 q.1)))) (wk_c (congrArg (fun z => some (Value.int z)) (nI_1 _)) (wk_0)))) (rfl)
    · refine j_aload_n x dX5_notPlayedNow_33 rfl ?_
      refine j2_getr (k := 0) (r := 1) x hb dX5_notPlayedNow_34 jc_9 wfX5_10 (by decide) rfl ?_
      refine j_iload_n x dX5_notPlayedNow_37 rfl ?_
      refine j2_callVi x hb dX5_notPlayedNow_38 m_X2_isPlayed (CM_v (c_isPlayed (d := d) (a := 1) hb rfl) (show _ = jb (¬ M 5 j = -1) by rw [jat_nI (show j < 56 by omega) (by decide)])) wmX5_288 jc_6 rfl rfl rfl (Nat.le_of_ble_eq_true rfl) (j_fit_rm (by omega) (by omega) (by omega)) rfl ?_
      refine j_if_ne (tgt := 47) x dX5_notPlayedNow_41 (by decide) (fun h2 => ?_) (fun h2 => ?_)
      · refine j_iinc x dX5_notPlayedNow_47 rfl (by decide) rfl ?_
        refine j_goto (tgt := 4) x dX5_notPlayedNow_50 (by decide) ?_
        exact j_goal (ih (trivial)) (wk_c rfl (wk_c (congrArg (fun z => some (Value.int z)) (jsum_f (jb_f (fun q => jb_nz.mp h2 q.2)))) (wk_c (congrArg (fun z => some (Value.int z)) (nI_1 _)) (wk_0)))) (rfl)
      · refine j_iinc x dX5_notPlayedNow_44 rfl (by decide) rfl ?_
        refine j_iinc x dX5_notPlayedNow_47 rfl (by decide) rfl ?_
        refine j_goto (tgt := 4) x dX5_notPlayedNow_50 (by decide) ?_
        exact j_goal (ih (trivial)) (wk_c rfl (wk_c (congrArg (fun z => some (Value.int z)) (jsum_v (jb_t ⟨h1, Decidable.not_not.mp (jb_0.mp h2)⟩))) (wk_c (congrArg (fun z => some (Value.int z)) (nI_1 _)) (wk_0)))) (rfl)
  refine j_iload_n x dX5_notPlayedNow_4 rfl ?_
  refine j_aload_n x dX5_notPlayedNow_5 rfl ?_
  refine j2_callVi x hb dX5_notPlayedNow_6 m_X5_meetingCount (CM_v (c_meetingCount (d := d) hb) hm) wmX5_258 jc_9 rfl rfl rfl (Nat.le_of_ble_eq_true rfl) (j_fit_rm (by omega) (by omega) (by omega)) rfl ?_
  refine j_icmp_ge (tgt := 53) x dX5_notPlayedNow_9 (by decide) (fun hc => ?_) (fun hc => absurd (nI_le (Nat.le_refl _) (by omega)) hc)
  refine j_iload_n x dX5_notPlayedNow_53 rfl ?_
  exact j_ireturn x hr dX5_notPlayedNow_54 (by omega) (by omega) ⟨rfl, rfl⟩
theorem c_putOffCount {d : Nat} {b : SBt} {Y : OUt} {M : MM} (hb : 104 ≤ b.2.1)  {n : Nat} (hn : n ≤ 56) (hm : jmc M = nI n) : CM (d + 3) 0 0 yX5_putOffCount cX5_putOffCount 3 (some .int) [.ref 0] b Y M (.inl (some (.int (jsum (fPut M) n)))) (M) := by
  refine Con.of (by decide +kernel) (Nat.le_of_ble_eq_true rfl) rfl fun p l e s m args below meth c D tyc A ad0 x hr htab hname => ?_
  change JJ _ _ _ _ _ _ _ _ _ _ _ _ _ _ _ _ _ 0 [some (.ref 0), none, none] [] _ 0 0
  refine j_iconst (v := 0) x dX5_putOffCount_0 (by decide) ?_
  refine j_istore_n x dX5_putOffCount_1 (by decide) rfl ?_
  refine j_iconst (v := 0) x dX5_putOffCount_2 (by decide) ?_
  refine j_istore_n x dX5_putOffCount_3 (by decide) rfl ?_
  refine j_for (n) (fun z0 => [some (.ref 0), some (.int (jsum (fPut M) z0)), some (.int (nI z0))]) (fun z0 => M) (fun z0 => True) (rfl) (rfl) (trivial) (fun j hj hP ih => ?_) (fun hP => ?_)
  · refine j_iload_n x dX5_putOffCount_4 rfl ?_
    refine j_aload_n x dX5_putOffCount_5 rfl ?_
    refine j2_callVi x hb dX5_putOffCount_6 m_X5_meetingCount (CM_v (c_meetingCount (d := d) hb) hm) wmX5_258 jc_9 rfl rfl rfl (Nat.le_of_ble_eq_true rfl) (j_fit_rm (by omega) (by omega) (by omega)) rfl ?_
    refine j_icmp_ge (tgt := 30) x dX5_putOffCount_9 (by decide) (fun hc => absurd hc (nI_ge hj (by omega))) (fun hc => ?_)
    refine j_aload_n x dX5_putOffCount_12 rfl ?_
    refine j_iload_n x dX5_putOffCount_13 rfl ?_
    refine j2_callVi x hb dX5_putOffCount_14 m_X5_kindOf (CM_v (c_kindOf (d := d) hb) (show _ = (if ¬ M 5 j = -1 then (1 : Int32) else if M 4 j = M 72 j then 0 else 2) by rw [jkind, jat_nI (show j < 56 by omega) (by decide), jat_nI (show j < 56 by omega) (by decide), jat_nI (show j < 56 by omega) (by decide)])) wmX5_227 jc_9 rfl rfl rfl (Nat.le_of_ble_eq_true rfl) (j_fit_rm (by omega) (by omega) (by omega)) rfl ?_
    refine j_iconst (v := 2) x dX5_putOffCount_17 (by decide) ?_
    refine j_icmp_ne (tgt := 24) x dX5_putOffCount_18 (by decide) (fun h1 => ?_) (fun h1 => ?_)
    · refine j_iinc x dX5_putOffCount_24 rfl (by decide) rfl ?_
      refine j_goto (tgt := 4) x dX5_putOffCount_27 (by decide) ?_
      exact j_goal (ih (trivial)) (wk_c rfl (wk_c (congrArg (fun z => some (Value.int z)) (jsum_f (jb_f (fun q => h1 (by rw [if_neg (fun z => z q.1), if_neg q.2]))))) (wk_c (congrArg (fun z => some (Value.int z)) (nI_1 _)) (wk_0)))) (rfl)
    · refine j_iinc x dX5_putOffCount_21 rfl (by decide) rfl ?_
      refine j_iinc x dX5_putOffCount_24 rfl (by decide) rfl ?_
      refine j_goto (tgt := 4) x dX5_putOffCount_27 (by decide) ?_
      exact j_goal (ih (trivial)) (wk_c rfl (wk_c (congrArg (fun z => some (Value.int z)) (jsum_v (jb_t (by by_cases q1 : M 5 j = -1; by_cases q2 : M 4 j = M 72 j; rw [if_neg (fun z => z q1), if_pos q2] at h1; exact absurd h1 (by decide); exact ⟨q1, q2⟩; rw [if_pos q1] at h1; exact absurd h1 (by decide))))) (wk_c (congrArg (fun z => some (Value.int z)) (nI_1 _)) (wk_0)))) (rfl)
  refine j_iload_n x dX5_putOffCount_4 rfl ?_
  refine j_aload_n x dX5_putOffCount_5 rfl ?_
  refine j2_callVi x hb dX5_putOffCount_6 m_X5_meetingCount (CM_v (c_meetingCount (d := d) hb) hm) wmX5_258 jc_9 rfl rfl rfl (Nat.le_of_ble_eq_true rfl) (j_fit_rm (by omega) (by omega) (by omega)) rfl ?_
  refine j_icmp_ge (tgt := 30) x dX5_putOffCount_9 (by decide) (fun hc => ?_) (fun hc => absurd (nI_le (Nat.le_refl _) (by omega)) hc)
  refine j_iload_n x dX5_putOffCount_30 rfl ?_
  exact j_ireturn x hr dX5_putOffCount_31 (by omega) (by omega) ⟨rfl, rfl⟩
theorem c_groundOf {d : Nat} {b : SBt} {Y : OUt} {M : MM} (hb : 104 ≤ b.2.1) {t : Int32} : CM (d + 1) 0 0 yX5_groundOf cX5_groundOf 2 (some .int) [.ref 0, .int t] b Y M (.inl (some (.int (jgr M t)))) (M) := by
  refine Con.of (by decide +kernel) (Nat.le_of_ble_eq_true rfl) rfl fun p l e s m args below meth c D tyc A ad0 x hr htab hname => ?_
  change JJ _ _ _ _ _ _ _ _ _ _ _ _ _ _ _ _ _ 0 [some (.ref 0), some (.int t)] [] _ 0 0
  refine j_aload_n x dX5_groundOf_0 rfl ?_
  refine j2_getr (k := 0) (r := 1) x hb dX5_groundOf_1 jc_9 wfX5_10 (by decide) rfl ?_
  refine j2_getr (k := 1) (r := 2) x hb dX5_groundOf_4 jc_6 wfX5_77 (by decide) rfl ?_
  refine j_aload_n x dX5_groundOf_7 rfl ?_
  refine j2_getr (k := 4) (r := 69) x hb dX5_groundOf_8 jc_9 wfX5_29 (by decide) rfl ?_
  refine j2_getr (k := 2) (r := 70) x hb dX5_groundOf_11 jc_4 wfX5_221 (by decide) rfl ?_
  refine j_iload_n x dX5_groundOf_14 rfl ?_
  refine j2_callSi x hb dX5_groundOf_15 m_X5_at (c_at (d := d) hb fa_70 (by decide)) wmX5_93 rfl (Nat.le_of_ble_eq_true rfl) (j_fit_rm (by omega) (by omega) (by omega)) rfl ?_
  refine j2_callSi x hb dX5_groundOf_18 m_X5_at (c_at (d := d) hb fa_2 (by decide)) wmX5_93 rfl (Nat.le_of_ble_eq_true rfl) (j_fit_rm (by omega) (by omega) (by omega)) rfl ?_
  exact j_ireturn x hr dX5_groundOf_21 (by omega) (by omega) ⟨rfl, rfl⟩
theorem c_clashesOf {d : Nat} {b : SBt} {Y : OUt} {M : MM} (hb : 104 ≤ b.2.1) {t w : Int32} {n : Nat} (hn : n ≤ 56) (hm : jmc M = nI n) : CM (d + 2) 0 0 yX5_clashesOf cX5_clashesOf 5 (some .int) [.ref 0, .int t, .int w] b Y M (.inl (some (.int (jsum (fCl M t w) n)))) (M) := by
  refine Con.of (by decide +kernel) (Nat.le_of_ble_eq_true rfl) rfl fun p l e s m args below meth c D tyc A ad0 x hr htab hname => ?_
  change JJ _ _ _ _ _ _ _ _ _ _ _ _ _ _ _ _ _ 0 [some (.ref 0), some (.int t), some (.int w), none, none] [] _ 0 0
  refine j_iconst (v := 0) x dX5_clashesOf_0 (by decide) ?_
  refine j_istore_n x dX5_clashesOf_1 (by decide) rfl ?_
  refine j_iconst (v := 0) x dX5_clashesOf_2 (by decide) ?_
  refine j_istore x dX5_clashesOf_3 (by decide) rfl ?_
  refine j_for (n) (fun z0 => [some (.ref 0), some (.int t), some (.int w), some (.int (jsum (fCl M t w) z0)), some (.int (nI z0))]) (fun z0 => M) (fun z0 => True) (rfl) (rfl) (trivial) (fun j hj hP ih => ?_) (fun hP => ?_)
  · refine j_iload x dX5_clashesOf_5 rfl ?_
    refine j_aload_n x dX5_clashesOf_7 rfl ?_
    refine j2_callVi x hb dX5_clashesOf_8 m_X5_meetingCount (CM_v (c_meetingCount (d := d) hb) hm) wmX5_258 jc_9 rfl rfl rfl (Nat.le_of_ble_eq_true rfl) (j_fit_rm (by omega) (by omega) (by omega)) rfl ?_
    refine j_icmp_ge (tgt := 59) x dX5_clashesOf_11 (by decide) (fun hc => absurd hc (nI_ge hj (by omega))) (fun hc => ?_)
    refine j_iload x dX5_clashesOf_14 rfl ?_
    refine j_iload_n x dX5_clashesOf_16 rfl ?_
    refine j_icmp_eq (tgt := 53) x dX5_clashesOf_17 (by decide) (fun h1 => ?_) (fun h1 => ?_)
    · refine j_iinc x dX5_clashesOf_53 rfl (by decide) rfl ?_
      refine j_goto (tgt := 5) x dX5_clashesOf_56 (by decide) ?_
      exact j_goal (ih (trivial)) (wk_c rfl (wk_c rfl (wk_c rfl (wk_c (congrArg (fun z => some (Value.int z)) (jsum_f (jb_f (fun q => q.1 h1)))) (wk_c (congrArg (fun z => some (Value.int z)) (nI_1 _)) (wk_0)))))) (rfl)
    · refine j_aload_n x dX5_clashesOf_20 rfl ?_
      refine j2_getr (k := 0) (r := 1) x hb dX5_clashesOf_21 jc_9 wfX5_10 (by decide) rfl ?_
      refine j2_getr (k := 8) (r := 4) x hb dX5_clashesOf_24 jc_6 wfX5_163 (by decide) rfl ?_
      refine j_iload x dX5_clashesOf_27 rfl ?_
      refine j2_callSi x hb dX5_clashesOf_29 m_X5_at (CM_v (c_at (d := d) hb fa_4 (by decide)) (jat_nI (show j < 56 by omega) (by decide))) wmX5_93 rfl (Nat.le_of_ble_eq_true rfl) (j_fit_rm (by omega) (by omega) (by omega)) rfl ?_
      refine j_iload_n x dX5_clashesOf_32 rfl ?_
      refine j_icmp_ne (tgt := 53) x dX5_clashesOf_33 (by decide) (fun h2 => ?_) (fun h2 => ?_)
      · refine j_iinc x dX5_clashesOf_53 rfl (by decide) rfl ?_
        refine j_goto (tgt := 5) x dX5_clashesOf_56 (by decide) ?_
        exact j_goal (ih (trivial)) (wk_c rfl (wk_c rfl (wk_c rfl (wk_c (congrArg (fun z => some (Value.int z)) (jsum_f (jb_f (fun q => h2 q.2.1)))) (wk_c (congrArg (fun z => some (Value.int z)) (nI_1 _)) (wk_0)))))) (rfl)
      · refine j_aload_n x dX5_clashesOf_36 rfl ?_
        refine j_iload x dX5_clashesOf_37 rfl ?_
        refine j2_callVi x hb dX5_clashesOf_39 m_X5_groundOf (c_groundOf (d := d) hb) wmX5_463 jc_9 rfl rfl rfl (Nat.le_of_ble_eq_true rfl) (j_fit_rm (by omega) (by omega) (by omega)) rfl ?_
        refine j_aload_n x dX5_clashesOf_42 rfl ?_
        refine j_iload_n x dX5_clashesOf_43 rfl ?_
        refine j2_callVi x hb dX5_clashesOf_44 m_X5_groundOf (c_groundOf (d := d) hb) wmX5_463 jc_9 rfl rfl rfl (Nat.le_of_ble_eq_true rfl) (j_fit_rm (by omega) (by omega) (by omega)) rfl ?_
        refine j_icmp_ne (tgt := 53) x dX5_clashesOf_47 (by decide) (fun h3 => ?_) (fun h3 => ?_)
        · refine j_iinc x dX5_clashesOf_53 rfl (by decide) rfl ?_
          refine j_goto (tgt := 5) x dX5_clashesOf_56 (by decide) ?_
          exact j_goal (ih (trivial)) (wk_c rfl (wk_c rfl (wk_c rfl (wk_c (congrArg (fun z => some (Value.int z)) (jsum_f (jb_f (fun q => h3 q.2.2)))) (wk_c (congrArg (fun z => some (Value.int z)) (nI_1 _)) (wk_0)))))) (rfl)
        · refine j_iinc x dX5_clashesOf_50 rfl (by decide) rfl ?_
          refine j_iinc x dX5_clashesOf_53 rfl (by decide) rfl ?_
          refine j_goto (tgt := 5) x dX5_clashesOf_56 (by decide) ?_
          exact j_goal (ih (trivial)) (wk_c rfl (wk_c rfl (wk_c rfl (wk_c (congrArg (fun z => some (Value.int z)) (jsum_v (jb_t ⟨h1, h2, h3⟩))) (wk_c (congrArg (fun z => some (Value.int z)) (nI_1 _)) (wk_0)))))) (rfl)
  refine j_iload x dX5_clashesOf_5 rfl ?_
  refine j_aload_n x dX5_clashesOf_7 rfl ?_
  refine j2_callVi x hb dX5_clashesOf_8 m_X5_meetingCount (CM_v (c_meetingCount (d := d) hb) hm) wmX5_258 jc_9 rfl rfl rfl (Nat.le_of_ble_eq_true rfl) (j_fit_rm (by omega) (by omega) (by omega)) rfl ?_
  refine j_icmp_ge (tgt := 59) x dX5_clashesOf_11 (by decide) (fun hc => ?_) (fun hc => absurd (nI_le (Nat.le_refl _) (by omega)) hc)
  refine j_iload_n x dX5_clashesOf_59 rfl ?_
  exact j_ireturn x hr dX5_clashesOf_60 (by omega) (by omega) ⟨rfl, rfl⟩
theorem c_clashingPairs {d : Nat} {b : SBt} {Y : OUt} {M : MM} (hb : 104 ≤ b.2.1) {w : Int32} {n : Nat} (hn : n ≤ 56) (hm : jmc M = nI n) : CM (d + 3) 0 0 yX5_clashingPairs cX5_clashingPairs 4 (some .int) [.ref 0, .int w] b Y M (.inl (some (.int (jpairs M n w)))) (M) := by
  refine Con.of (by decide +kernel) (Nat.le_of_ble_eq_true rfl) rfl fun p l e s m args below meth c D tyc A ad0 x hr htab hname => ?_
  change JJ _ _ _ _ _ _ _ _ _ _ _ _ _ _ _ _ _ 0 [some (.ref 0), some (.int w), none, none] [] _ 0 0
  refine j_iconst (v := 0) x dX5_clashingPairs_0 (by decide) ?_
  refine j_istore_n x dX5_clashingPairs_1 (by decide) rfl ?_
  refine j_iconst (v := 0) x dX5_clashingPairs_2 (by decide) ?_
  refine j_istore_n x dX5_clashingPairs_3 (by decide) rfl ?_
  refine j_for (n) (fun z0 => [some (.ref 0), some (.int w), some (.int (jsum (fPair M n w) z0)), some (.int (nI z0))]) (fun z0 => M) (fun z0 => True) (rfl) (rfl) (trivial) (fun j hj hP ih => ?_) (fun hP => ?_)
  · refine j_iload_n x dX5_clashingPairs_4 rfl ?_
    refine j_aload_n x dX5_clashingPairs_5 rfl ?_
    refine j2_callVi x hb dX5_clashingPairs_6 m_X5_meetingCount (CM_v (c_meetingCount (d := d) hb) hm) wmX5_258 jc_9 rfl rfl rfl (Nat.le_of_ble_eq_true rfl) (j_fit_rm (by omega) (by omega) (by omega)) rfl ?_
    refine j_icmp_ge (tgt := 42) x dX5_clashingPairs_9 (by decide) (fun hc => absurd hc (nI_ge hj (by omega))) (fun hc => ?_)
    refine j_aload_n x dX5_clashingPairs_12 rfl ?_
    refine j2_getr (k := 0) (r := 1) x hb dX5_clashingPairs_13 jc_9 wfX5_10 (by decide) rfl ?_
    refine j2_getr (k := 8) (r := 4) x hb dX5_clashingPairs_16 jc_6 wfX5_163 (by decide) rfl ?_
    refine j_iload_n x dX5_clashingPairs_19 rfl ?_
    refine j2_callSi x hb dX5_clashingPairs_20 m_X5_at (CM_v (c_at (d := d) hb fa_4 (by decide)) (jat_nI (show j < 56 by omega) (by decide))) wmX5_93 rfl (Nat.le_of_ble_eq_true rfl) (j_fit_rm (by omega) (by omega) (by omega)) rfl ?_
    refine j_iload_n x dX5_clashingPairs_23 rfl ?_
    refine j_icmp_ne (tgt := 36) x dX5_clashingPairs_24 (by decide) (fun h1 => ?_) (fun h1 => ?_)
    · refine j_iinc x dX5_clashingPairs_36 rfl (by decide) rfl ?_
      refine j_goto (tgt := 4) x dX5_clashingPairs_39 (by decide) ?_
      exact j_goal (ih (trivial)) (wk_c rfl (wk_c rfl (wk_c (congrArg (fun z => some (Value.int z)) (jsum_f (if_neg h1))) (wk_c (congrArg (fun z => some (Value.int z)) (nI_1 _)) (wk_0))))) (rfl)
    · refine j_iload_n x dX5_clashingPairs_27 rfl ?_
      refine j_aload_n x dX5_clashingPairs_28 rfl ?_
      refine j_iload_n x dX5_clashingPairs_29 rfl ?_
      refine j_iload_n x dX5_clashingPairs_30 rfl ?_
      refine j2_callVi x hb dX5_clashingPairs_31 m_X5_clashesOf (c_clashesOf (d := d) hb hn hm) wmX5_165 jc_9 rfl rfl rfl (Nat.le_of_ble_eq_true rfl) (j_fit_rm (by omega) (by omega) (by omega)) rfl ?_
      refine j_iadd x dX5_clashingPairs_34 ?_
      refine j_istore_n x dX5_clashingPairs_35 (by decide) rfl ?_
      refine j_iinc x dX5_clashingPairs_36 rfl (by decide) rfl ?_
      refine j_goto (tgt := 4) x dX5_clashingPairs_39 (by decide) ?_
      exact j_goal (ih (trivial)) (wk_c rfl (wk_c rfl (wk_c (congrArg (fun z => some (Value.int z)) (jsum_v (if_pos h1))) (wk_c (congrArg (fun z => some (Value.int z)) (nI_1 _)) (wk_0))))) (rfl)
  refine j_iload_n x dX5_clashingPairs_4 rfl ?_
  refine j_aload_n x dX5_clashingPairs_5 rfl ?_
  refine j2_callVi x hb dX5_clashingPairs_6 m_X5_meetingCount (CM_v (c_meetingCount (d := d) hb) hm) wmX5_258 jc_9 rfl rfl rfl (Nat.le_of_ble_eq_true rfl) (j_fit_rm (by omega) (by omega) (by omega)) rfl ?_
  refine j_icmp_ge (tgt := 42) x dX5_clashingPairs_9 (by decide) (fun hc => ?_) (fun hc => absurd (nI_le (Nat.le_refl _) (by omega)) hc)
  refine j_iload_n x dX5_clashingPairs_42 rfl ?_
  refine j_iconst (v := 2) x dX5_clashingPairs_43 (by decide) ?_
  refine j_idiv x dX5_clashingPairs_44 (by decide) ?_
  exact j_ireturn x hr dX5_clashingPairs_45 (by omega) (by omega) ⟨rfl, rfl⟩
theorem c_allClashes {d : Nat} {b : SBt} {Y : OUt} {M : MM} (hb : 104 ≤ b.2.1)  {n z : Nat} (hn : n ≤ 56) (hm : jmc M = nI n) (hz : z ≤ 14) (hw : jwc M = nI z) : CM (d + 4) 0 0 yX5_allClashes cX5_allClashes 3 (some .int) [.ref 0] b Y M (.inl (some (.int (jsum (fun w => jpairs M n (nI w)) z)))) (M) := by
  refine Con.of (by decide +kernel) (Nat.le_of_ble_eq_true rfl) rfl fun p l e s m args below meth c D tyc A ad0 x hr htab hname => ?_
  change JJ _ _ _ _ _ _ _ _ _ _ _ _ _ _ _ _ _ 0 [some (.ref 0), none, none] [] _ 0 0
  refine j_iconst (v := 0) x dX5_allClashes_0 (by decide) ?_
  refine j_istore_n x dX5_allClashes_1 (by decide) rfl ?_
  refine j_iconst (v := 0) x dX5_allClashes_2 (by decide) ?_
  refine j_istore_n x dX5_allClashes_3 (by decide) rfl ?_
  refine j_for (z) (fun z0 => [some (.ref 0), some (.int (jsum (fun w => jpairs M n (nI w)) z0)), some (.int (nI z0))]) (fun z0 => M) (fun z0 => True) (rfl) (rfl) (trivial) (fun j hj hP ih => ?_) (fun hP => ?_)
  · refine j_iload_n x dX5_allClashes_4 rfl ?_
    refine j_aload_n x dX5_allClashes_5 rfl ?_
    refine j2_callVi x hb dX5_allClashes_6 m_X5_weekCount (CM_v (c_weekCount (d := d) hb) hw) wmX5_392 jc_9 rfl rfl rfl (Nat.le_of_ble_eq_true rfl) (j_fit_rm (by omega) (by omega) (by omega)) rfl ?_
    refine j_icmp_ge (tgt := 26) x dX5_allClashes_9 (by decide) (fun hc => absurd hc (nI_ge hj (by omega))) (fun hc => ?_)
    refine j_iload_n x dX5_allClashes_12 rfl ?_
    refine j_aload_n x dX5_allClashes_13 rfl ?_
    refine j_iload_n x dX5_allClashes_14 rfl ?_
    refine j2_callVi x hb dX5_allClashes_15 m_X5_clashingPairs (c_clashingPairs (d := d) hb hn hm) wmX5_261 jc_9 rfl rfl rfl (Nat.le_of_ble_eq_true rfl) (j_fit_rm (by omega) (by omega) (by omega)) rfl ?_
    refine j_iadd x dX5_allClashes_18 ?_
    refine j_istore_n x dX5_allClashes_19 (by decide) rfl ?_
    refine j_iinc x dX5_allClashes_20 rfl (by decide) rfl ?_
    refine j_goto (tgt := 4) x dX5_allClashes_23 (by decide) ?_
    exact j_goal (ih (trivial)) (wk_c rfl (wk_c (congrArg (fun z => some (Value.int z)) (jsum_v rfl)) (wk_c (congrArg (fun z => some (Value.int z)) (nI_1 _)) (wk_0)))) (rfl)
  refine j_iload_n x dX5_allClashes_4 rfl ?_
  refine j_aload_n x dX5_allClashes_5 rfl ?_
  refine j2_callVi x hb dX5_allClashes_6 m_X5_weekCount (CM_v (c_weekCount (d := d) hb) hw) wmX5_392 jc_9 rfl rfl rfl (Nat.le_of_ble_eq_true rfl) (j_fit_rm (by omega) (by omega) (by omega)) rfl ?_
  refine j_icmp_ge (tgt := 26) x dX5_allClashes_9 (by decide) (fun hc => ?_) (fun hc => absurd (nI_le (Nat.le_refl _) (by omega)) hc)
  refine j_iload_n x dX5_allClashes_26 rfl ?_
  exact j_ireturn x hr dX5_allClashes_27 (by omega) (by omega) ⟨rfl, rfl⟩
end

section
/-! ===== refusals of a drawn league; a free week ===== -/
theorem jisS_nar {q : Option (Int32 × Int32)} : narrow .boolean (.int (jisS q)) = .int (jisS q) := by
  cases q with
  | none => decide
  | some v => exact (show narrow .boolean (.int 1) = .int 1 by decide)
def rNoM (M : MM) (t : Int32) : Option (Int32 × Int32) := if M 1 2 = 0 then some (5, 0) else if ¬ (¬ t < 0 ∧ ¬ jmc M ≤ t) then some (3, t) else none
def rOth (M : MM) (t : Int32) : Option (Int32 × Int32) := if jat 56 (M 4) t = M 1 3 then none else some (7, jat 56 (M 4) t)
def okG (t : Int32) : Prop := ¬ t < 0 ∧ ¬ 20 < t
def rRes (M : MM) (t u v : Int32) : Option (Int32 × Int32) := match rNoM M t with
  | some z => some z
  | none => if ¬ ((¬ u < 0 ∧ ¬ 20 < u) ∧ (¬ v < 0 ∧ ¬ 20 < v)) then some (1, 0) else if ¬ jat 56 (M 5) t = -1 then some (8, 0) else rOth M t
def rBack (M : MM) (t : Int32) : Option (Int32 × Int32) := match rNoM M t with
  | some z => some z
  | none => if jat 56 (M 5) t = -1 then some (9, jkind M t) else rOth M t
def rPut (M : MM) (t u : Int32) : Option (Int32 × Int32) := match rNoM M t with
  | some z => some z
  | none => if u < 1 ∨ ¬ u ≤ 9 then some (1, 0) else if ¬ jat 56 (M 5) t = -1 then some (8, 0) else match rOth M t with
    | some z => some z
    | none => if ¬ (¬ M 1 3 + u < 0 ∧ ¬ jwc M ≤ M 1 3 + u) then some (10, M 1 3 + u) else none
def rNext (M : MM) (n : Nat) : Option (Int32 × Int32) := if M 1 2 = 0 then some (5, 0) else if ¬ jfst (fNow M) n = -1 then some (11, jfst (fNow M) n) else if ¬ (¬ M 1 3 + 1 < 0 ∧ ¬ jwc M ≤ M 1 3 + 1) then some (14, M 1 3) else none
theorem CM_q {d mc ms : Nat} {y : MethodName} {cc : ByteArray} {maxL : Nat} {ret : Option FieldType} {as : List Value} {b : SBt} {Y : OUt} {M : MM} {q q2 : Option (Int32 × Int32)} (C : CM d mc ms y cc maxL ret as b Y M (.inl (some (.int (jisS q)))) (jrf M q)) (h : q = q2) : CM d mc ms y cc maxL ret as b Y M (.inl (some (.int (jisS q2)))) (jrf M q2) := by
  subst h
  exact C
theorem c_isNoMeetingRefused {d : Nat} {b : SBt} {Y : OUt} {M : MM} (hb : 104 ≤ b.2.1) {t : Int32} : CM (d + 2) 0 0 yX5_isNoMeetingRefused cX5_isNoMeetingRefused 2 (some .boolean) [.ref 0, .int t] b Y M (.inl (some (.int (jisS (rNoM M t))))) (jrf M (rNoM M t)) := by
  refine Con.of (by decide +kernel) (Nat.le_of_ble_eq_true rfl) rfl fun p l e s m args below meth c D tyc A ad0 x hr htab hname => ?_
  change JJ _ _ _ _ _ _ _ _ _ _ _ _ _ _ _ _ _ 0 [some (.ref 0), some (.int t)] [] _ 0 0
  refine j_aload_n x dX5_isNoMeetingRefused_0 rfl ?_
  refine j2_getr (k := 0) (r := 1) x hb dX5_isNoMeetingRefused_1 jc_9 wfX5_10 (by decide) rfl ?_
  refine j2_geti (k := 2) x hb dX5_isNoMeetingRefused_4 jc_6 wfX5_388 (by decide) rfl ?_
  refine j_if_ne (tgt := 17) x dX5_isNoMeetingRefused_7 (by decide) (fun h1 => ?_) (fun h1 => ?_)
  · refine j_aload_n x dX5_isNoMeetingRefused_17 rfl ?_
    refine j_iload_n x dX5_isNoMeetingRefused_18 rfl ?_
    refine j2_callVi x hb dX5_isNoMeetingRefused_19 m_X5_isMeeting (c_isMeeting (d := d) hb) wmX5_214 jc_9 rfl rfl rfl (Nat.le_of_ble_eq_true rfl) (j_fit_rm (by omega) (by omega) (by omega)) rfl ?_
    refine j_if_ne (tgt := 38) x dX5_isNoMeetingRefused_22 (by decide) (fun h2 => ?_) (fun h2 => ?_)
    · refine j_iconst (v := 0) x dX5_isNoMeetingRefused_38 (by decide) ?_
      exact j_zreturn x hr dX5_isNoMeetingRefused_39 (by first | decide | exact jisS_nar | exact jb_nar) (by omega) (by omega) ⟨by rw [show rNoM M t = none from (if_neg h1).trans (if_neg (fun q => q (jb_nz.mp h2)))]; rfl, by rw [show rNoM M t = none from (if_neg h1).trans (if_neg (fun q => q (jb_nz.mp h2)))]; rfl⟩
    · refine j_aload_n x dX5_isNoMeetingRefused_25 rfl ?_
      refine j_iconst (v := 3) x dX5_isNoMeetingRefused_26 (by decide) ?_
      refine j_iload_n x dX5_isNoMeetingRefused_27 rfl ?_
      refine j2_callVi x hb dX5_isNoMeetingRefused_28 m_X5_refuse (c_refuse (d := d) hb) wmX5_426 jc_9 rfl rfl rfl (Nat.le_of_ble_eq_true rfl) (j_fit_rm (by omega) (by omega) (by omega)) rfl ?_
      refine j_if_eq (tgt := 38) x dX5_isNoMeetingRefused_31 (by decide) (fun hc => absurd hc (by decide)) (fun hc => ?_)
      refine j_iconst (v := 1) x dX5_isNoMeetingRefused_34 (by decide) ?_
      refine j_goto (tgt := 39) x dX5_isNoMeetingRefused_35 (by decide) ?_
      exact j_zreturn x hr dX5_isNoMeetingRefused_39 (by first | decide | exact jisS_nar | exact jb_nar) (by omega) (by omega) ⟨by rw [show rNoM M t = some (3, t) from (if_neg h1).trans (if_pos (jb_0.mp h2))]; rfl, by rw [show rNoM M t = some (3, t) from (if_neg h1).trans (if_pos (jb_0.mp h2))]; rfl⟩
  · refine j_aload_n x dX5_isNoMeetingRefused_10 rfl ?_
    refine j_iconst (v := 5) x dX5_isNoMeetingRefused_11 (by decide) ?_
    refine j_iconst (v := 0) x dX5_isNoMeetingRefused_12 (by decide) ?_
    refine j2_callVi x hb dX5_isNoMeetingRefused_13 m_X5_refuse (c_refuse (d := d) hb) wmX5_426 jc_9 rfl rfl rfl (Nat.le_of_ble_eq_true rfl) (j_fit_rm (by omega) (by omega) (by omega)) rfl ?_
    exact j_zreturn x hr dX5_isNoMeetingRefused_16 (by first | decide | exact jisS_nar | exact jb_nar) (by omega) (by omega) ⟨by rw [show rNoM M t = some (5, 0) from if_pos h1]; rfl, by rw [show rNoM M t = some (5, 0) from if_pos h1]; rfl⟩
theorem c_isOtherWeekRefused {d : Nat} {b : SBt} {Y : OUt} {M : MM} (hb : 104 ≤ b.2.1) {t : Int32} : CM (d + 1) 0 0 yX5_isOtherWeekRefused cX5_isOtherWeekRefused 3 (some .boolean) [.ref 0, .int t] b Y M (.inl (some (.int (jisS (rOth M t))))) (jrf M (rOth M t)) := by
  refine Con.of (by decide +kernel) (Nat.le_of_ble_eq_true rfl) rfl fun p l e s m args below meth c D tyc A ad0 x hr htab hname => ?_
  change JJ _ _ _ _ _ _ _ _ _ _ _ _ _ _ _ _ _ 0 [some (.ref 0), some (.int t), none] [] _ 0 0
  refine j_aload_n x dX5_isOtherWeekRefused_0 rfl ?_
  refine j2_getr (k := 0) (r := 1) x hb dX5_isOtherWeekRefused_1 jc_9 wfX5_10 (by decide) rfl ?_
  refine j2_getr (k := 8) (r := 4) x hb dX5_isOtherWeekRefused_4 jc_6 wfX5_163 (by decide) rfl ?_
  refine j_iload_n x dX5_isOtherWeekRefused_7 rfl ?_
  refine j2_callSi x hb dX5_isOtherWeekRefused_8 m_X5_at (c_at (d := d) hb fa_4 (by decide)) wmX5_93 rfl (Nat.le_of_ble_eq_true rfl) (j_fit_rm (by omega) (by omega) (by omega)) rfl ?_
  refine j_istore_n x dX5_isOtherWeekRefused_11 (by decide) rfl ?_
  refine j_iload_n x dX5_isOtherWeekRefused_12 rfl ?_
  refine j_aload_n x dX5_isOtherWeekRefused_13 rfl ?_
  refine j2_getr (k := 0) (r := 1) x hb dX5_isOtherWeekRefused_14 jc_9 wfX5_10 (by decide) rfl ?_
  refine j2_geti (k := 3) x hb dX5_isOtherWeekRefused_17 jc_6 wfX5_160 (by decide) rfl ?_
  refine j_icmp_eq (tgt := 37) x dX5_isOtherWeekRefused_20 (by decide) (fun h1 => ?_) (fun h1 => ?_)
  · refine j_iconst (v := 0) x dX5_isOtherWeekRefused_37 (by decide) ?_
    exact j_zreturn x hr dX5_isOtherWeekRefused_38 (by first | decide | exact jisS_nar | exact jb_nar) (by omega) (by omega) ⟨by rw [show rOth M t = none from if_pos h1]; rfl, by rw [show rOth M t = none from if_pos h1]; rfl⟩
  · refine j_aload_n x dX5_isOtherWeekRefused_23 rfl ?_
    refine j_bipush (v := 7) x dX5_isOtherWeekRefused_24 (by decide) ?_
    refine j_iload_n x dX5_isOtherWeekRefused_26 rfl ?_
    refine j2_callVi x hb dX5_isOtherWeekRefused_27 m_X5_refuse (c_refuse (d := d) hb) wmX5_426 jc_9 rfl rfl rfl (Nat.le_of_ble_eq_true rfl) (j_fit_rm (by omega) (by omega) (by omega)) rfl ?_
    refine j_if_eq (tgt := 37) x dX5_isOtherWeekRefused_30 (by decide) (fun hc => absurd hc (by decide)) (fun hc => ?_)
    refine j_iconst (v := 1) x dX5_isOtherWeekRefused_33 (by decide) ?_
    refine j_goto (tgt := 38) x dX5_isOtherWeekRefused_34 (by decide) ?_
    exact j_zreturn x hr dX5_isOtherWeekRefused_38 (by first | decide | exact jisS_nar | exact jb_nar) (by omega) (by omega) ⟨by rw [show rOth M t = some (7, jat 56 (M 4) t) from if_neg h1]; rfl, by rw [show rOth M t = some (7, jat 56 (M 4) t) from if_neg h1]; rfl⟩
theorem c_isResultRefused_s {d : Nat} {b : SBt} {Y : OUt} {M : MM} (hb : 104 ≤ b.2.1) {t u v : Int32} {r z : Int32} (h0 : rNoM M t = some (r, z)) : CM (d + 3) 0 0 yX5_isResultRefused cX5_isResultRefused 4 (some .boolean) [.ref 0, .int t, .int u, .int v] b Y M (.inl (some (.int (jisS (rRes M t u v))))) (jrf M (rRes M t u v)) := by
  refine Con.of (by decide +kernel) (Nat.le_of_ble_eq_true rfl) rfl fun p l e s m args below meth c D tyc A ad0 x hr htab hname => ?_
  change JJ _ _ _ _ _ _ _ _ _ _ _ _ _ _ _ _ _ 0 [some (.ref 0), some (.int t), some (.int u), some (.int v)] [] _ 0 0
  refine j_aload_n x dX5_isResultRefused_0 rfl ?_
  refine j_iload_n x dX5_isResultRefused_1 rfl ?_
  refine j2_callVi x hb dX5_isResultRefused_2 m_X5_isNoMeetingRefused (CM_s (c_isNoMeetingRefused (d := d) hb) h0) wmX5_432 jc_9 rfl rfl rfl (Nat.le_of_ble_eq_true rfl) (j_fit_rm (by omega) (by omega) (by omega)) rfl ?_
  refine j_if_eq (tgt := 10) x dX5_isResultRefused_5 (by decide) (fun hc => absurd hc (by decide)) (fun hc => ?_)
  refine j_iconst (v := 1) x dX5_isResultRefused_8 (by decide) ?_
  exact j_zreturn x hr dX5_isResultRefused_9 (by first | decide | exact jisS_nar | exact jb_nar) (by omega) (by omega) ⟨by rw [show rRes M t u v = some (r, z) from by unfold rRes; rw [h0]]; rfl, by rw [show rRes M t u v = some (r, z) from by unfold rRes; rw [h0]]; rfl⟩
theorem c_isResultRefused_n {d : Nat} {b : SBt} {Y : OUt} {M : MM} (hb : 104 ≤ b.2.1) {t u v : Int32} (h0 : rNoM M t = none) : CM (d + 3) 0 0 yX5_isResultRefused cX5_isResultRefused 4 (some .boolean) [.ref 0, .int t, .int u, .int v] b Y M (.inl (some (.int (jisS (rRes M t u v))))) (jrf M (rRes M t u v)) := by
  refine Con.of (by decide +kernel) (Nat.le_of_ble_eq_true rfl) rfl fun p l e s m args below meth c D tyc A ad0 x hr htab hname => ?_
  change JJ _ _ _ _ _ _ _ _ _ _ _ _ _ _ _ _ _ 0 [some (.ref 0), some (.int t), some (.int u), some (.int v)] [] _ 0 0
  refine j_aload_n x dX5_isResultRefused_0 rfl ?_
  refine j_iload_n x dX5_isResultRefused_1 rfl ?_
  refine j2_callVi x hb dX5_isResultRefused_2 m_X5_isNoMeetingRefused (CM_n (c_isNoMeetingRefused (d := d) hb) h0) wmX5_432 jc_9 rfl rfl rfl (Nat.le_of_ble_eq_true rfl) (j_fit_rm (by omega) (by omega) (by omega)) rfl ?_
  refine j_if_eq (tgt := 10) x dX5_isResultRefused_5 (by decide) (fun hc => ?_) (fun hc => absurd (rfl) hc)
  refine j_iload_n x dX5_isResultRefused_10 rfl ?_
  refine j2_callSi x hb dX5_isResultRefused_11 m_X5_areGoals (c_areGoals (d := d) hb) wmX5_435 rfl (Nat.le_of_ble_eq_true rfl) (j_fit_rm (by omega) (by omega) (by omega)) rfl ?_
  refine j_if_eq (tgt := 24) x dX5_isResultRefused_14 (by decide) (fun h1 => ?_) (fun h1 => ?_)
  · refine j_aload_n x dX5_isResultRefused_24 rfl ?_
    refine j_iconst (v := 1) x dX5_isResultRefused_25 (by decide) ?_
    refine j_iconst (v := 0) x dX5_isResultRefused_26 (by decide) ?_
    refine j2_callVi x hb dX5_isResultRefused_27 m_X5_refuse (c_refuse (d := d) hb) wmX5_426 jc_9 rfl rfl rfl (Nat.le_of_ble_eq_true rfl) (j_fit_rm (by omega) (by omega) (by omega)) rfl ?_
    exact j_zreturn x hr dX5_isResultRefused_30 (by first | decide | exact jisS_nar | exact jb_nar) (by omega) (by omega) ⟨by rw [show rRes M t u v = some (1, 0) from by unfold rRes; rw [h0]; exact if_pos (fun q => jb_0.mp h1 q.1)]; rfl, by rw [show rRes M t u v = some (1, 0) from by unfold rRes; rw [h0]; exact if_pos (fun q => jb_0.mp h1 q.1)]; rfl⟩
  · refine j_iload_n x dX5_isResultRefused_17 rfl ?_
    refine j2_callSi x hb dX5_isResultRefused_18 m_X5_areGoals (c_areGoals (d := d) hb) wmX5_435 rfl (Nat.le_of_ble_eq_true rfl) (j_fit_rm (by omega) (by omega) (by omega)) rfl ?_
    refine j_if_ne (tgt := 31) x dX5_isResultRefused_21 (by decide) (fun h2 => ?_) (fun h2 => ?_)
    · refine j_aload_n x dX5_isResultRefused_31 rfl ?_
      refine j2_getr (k := 0) (r := 1) x hb dX5_isResultRefused_32 jc_9 wfX5_10 (by decide) rfl ?_
      refine j_iload_n x dX5_isResultRefused_35 rfl ?_
      refine j2_callVi x hb dX5_isResultRefused_36 m_X2_isPlayed (c_isPlayed (d := d) (a := 1) hb rfl) wmX5_288 jc_6 rfl rfl rfl (Nat.le_of_ble_eq_true rfl) (j_fit_rm (by omega) (by omega) (by omega)) rfl ?_
      refine j_if_eq (tgt := 50) x dX5_isResultRefused_39 (by decide) (fun h3 => ?_) (fun h3 => ?_)
      · refine j_aload_n x dX5_isResultRefused_50 rfl ?_
        refine j_iload_n x dX5_isResultRefused_51 rfl ?_
        refine j2_callVi x hb dX5_isResultRefused_52 m_X5_isOtherWeekRefused (c_isOtherWeekRefused (d := d) hb) wmX5_438 jc_9 rfl rfl rfl (Nat.le_of_ble_eq_true rfl) (j_fit_rm (by omega) (by omega) (by omega)) rfl ?_
        exact j_zreturn x hr dX5_isResultRefused_55 (by first | decide | exact jisS_nar | exact jb_nar) (by omega) (by omega) ⟨by rw [show rRes M t u v = rOth M t from by unfold rRes; rw [h0]; exact (if_neg (fun q => q ⟨jb_nz.mp h1, jb_nz.mp h2⟩)).trans (if_neg (jb_0.mp h3))], by rw [show rRes M t u v = rOth M t from by unfold rRes; rw [h0]; exact (if_neg (fun q => q ⟨jb_nz.mp h1, jb_nz.mp h2⟩)).trans (if_neg (jb_0.mp h3))]⟩
      · refine j_aload_n x dX5_isResultRefused_42 rfl ?_
        refine j_bipush (v := 8) x dX5_isResultRefused_43 (by decide) ?_
        refine j_iconst (v := 0) x dX5_isResultRefused_45 (by decide) ?_
        refine j2_callVi x hb dX5_isResultRefused_46 m_X5_refuse (c_refuse (d := d) hb) wmX5_426 jc_9 rfl rfl rfl (Nat.le_of_ble_eq_true rfl) (j_fit_rm (by omega) (by omega) (by omega)) rfl ?_
        exact j_zreturn x hr dX5_isResultRefused_49 (by first | decide | exact jisS_nar | exact jb_nar) (by omega) (by omega) ⟨by rw [show rRes M t u v = some (8, 0) from by unfold rRes; rw [h0]; exact (if_neg (fun q => q ⟨jb_nz.mp h1, jb_nz.mp h2⟩)).trans (if_pos (jb_nz.mp h3))]; rfl, by rw [show rRes M t u v = some (8, 0) from by unfold rRes; rw [h0]; exact (if_neg (fun q => q ⟨jb_nz.mp h1, jb_nz.mp h2⟩)).trans (if_pos (jb_nz.mp h3))]; rfl⟩
    · refine j_aload_n x dX5_isResultRefused_24 rfl ?_
      refine j_iconst (v := 1) x dX5_isResultRefused_25 (by decide) ?_
      refine j_iconst (v := 0) x dX5_isResultRefused_26 (by decide) ?_
      refine j2_callVi x hb dX5_isResultRefused_27 m_X5_refuse (c_refuse (d := d) hb) wmX5_426 jc_9 rfl rfl rfl (Nat.le_of_ble_eq_true rfl) (j_fit_rm (by omega) (by omega) (by omega)) rfl ?_
      exact j_zreturn x hr dX5_isResultRefused_30 (by first | decide | exact jisS_nar | exact jb_nar) (by omega) (by omega) ⟨by rw [show rRes M t u v = some (1, 0) from by unfold rRes; rw [h0]; exact if_pos (fun q => jb_0.mp h2 q.2)]; rfl, by rw [show rRes M t u v = some (1, 0) from by unfold rRes; rw [h0]; exact if_pos (fun q => jb_0.mp h2 q.2)]; rfl⟩
theorem c_isResultRefused {d : Nat} {b : SBt} {Y : OUt} {M : MM} (hb : 104 ≤ b.2.1) {t u v : Int32} : CM (d + 3) 0 0 yX5_isResultRefused cX5_isResultRefused 4 (some .boolean) [.ref 0, .int t, .int u, .int v] b Y M (.inl (some (.int (jisS (rRes M t u v))))) (jrf M (rRes M t u v)) := by
  cases h0 : rNoM M t with
  | none => exact c_isResultRefused_n hb h0
  | some q => exact c_isResultRefused_s hb h0
theorem c_isBackRefused_s {d : Nat} {b : SBt} {Y : OUt} {M : MM} (hb : 104 ≤ b.2.1) {t : Int32} {r z : Int32} (h0 : rNoM M t = some (r, z)) : CM (d + 3) 0 0 yX5_isBackRefused cX5_isBackRefused 2 (some .boolean) [.ref 0, .int t] b Y M (.inl (some (.int (jisS (rBack M t))))) (jrf M (rBack M t)) := by
  refine Con.of (by decide +kernel) (Nat.le_of_ble_eq_true rfl) rfl fun p l e s m args below meth c D tyc A ad0 x hr htab hname => ?_
  change JJ _ _ _ _ _ _ _ _ _ _ _ _ _ _ _ _ _ 0 [some (.ref 0), some (.int t)] [] _ 0 0
  refine j_aload_n x dX5_isBackRefused_0 rfl ?_
  refine j_iload_n x dX5_isBackRefused_1 rfl ?_
  refine j2_callVi x hb dX5_isBackRefused_2 m_X5_isNoMeetingRefused (CM_s (c_isNoMeetingRefused (d := d) hb) h0) wmX5_432 jc_9 rfl rfl rfl (Nat.le_of_ble_eq_true rfl) (j_fit_rm (by omega) (by omega) (by omega)) rfl ?_
  refine j_if_eq (tgt := 10) x dX5_isBackRefused_5 (by decide) (fun hc => absurd hc (by decide)) (fun hc => ?_)
  refine j_iconst (v := 1) x dX5_isBackRefused_8 (by decide) ?_
  exact j_zreturn x hr dX5_isBackRefused_9 (by first | decide | exact jisS_nar | exact jb_nar) (by omega) (by omega) ⟨by rw [show rBack M t = some (r, z) from by unfold rBack; rw [h0]]; rfl, by rw [show rBack M t = some (r, z) from by unfold rBack; rw [h0]]; rfl⟩
theorem c_isBackRefused_n {d : Nat} {b : SBt} {Y : OUt} {M : MM} (hb : 104 ≤ b.2.1) {t : Int32} (h0 : rNoM M t = none) : CM (d + 3) 0 0 yX5_isBackRefused cX5_isBackRefused 2 (some .boolean) [.ref 0, .int t] b Y M (.inl (some (.int (jisS (rBack M t))))) (jrf M (rBack M t)) := by
  refine Con.of (by decide +kernel) (Nat.le_of_ble_eq_true rfl) rfl fun p l e s m args below meth c D tyc A ad0 x hr htab hname => ?_
  change JJ _ _ _ _ _ _ _ _ _ _ _ _ _ _ _ _ _ 0 [some (.ref 0), some (.int t)] [] _ 0 0
  refine j_aload_n x dX5_isBackRefused_0 rfl ?_
  refine j_iload_n x dX5_isBackRefused_1 rfl ?_
  refine j2_callVi x hb dX5_isBackRefused_2 m_X5_isNoMeetingRefused (CM_n (c_isNoMeetingRefused (d := d) hb) h0) wmX5_432 jc_9 rfl rfl rfl (Nat.le_of_ble_eq_true rfl) (j_fit_rm (by omega) (by omega) (by omega)) rfl ?_
  refine j_if_eq (tgt := 10) x dX5_isBackRefused_5 (by decide) (fun hc => ?_) (fun hc => absurd (rfl) hc)
  refine j_aload_n x dX5_isBackRefused_10 rfl ?_
  refine j2_getr (k := 0) (r := 1) x hb dX5_isBackRefused_11 jc_9 wfX5_10 (by decide) rfl ?_
  refine j_iload_n x dX5_isBackRefused_14 rfl ?_
  refine j2_callVi x hb dX5_isBackRefused_15 m_X2_isPlayed (c_isPlayed (d := d) (a := 1) hb rfl) wmX5_288 jc_6 rfl rfl rfl (Nat.le_of_ble_eq_true rfl) (j_fit_rm (by omega) (by omega) (by omega)) rfl ?_
  refine j_if_ne (tgt := 33) x dX5_isBackRefused_18 (by decide) (fun h3 => ?_) (fun h3 => ?_)
  · refine j_aload_n x dX5_isBackRefused_33 rfl ?_
    refine j_iload_n x dX5_isBackRefused_34 rfl ?_
    refine j2_callVi x hb dX5_isBackRefused_35 m_X5_isOtherWeekRefused (c_isOtherWeekRefused (d := d) hb) wmX5_438 jc_9 rfl rfl rfl (Nat.le_of_ble_eq_true rfl) (j_fit_rm (by omega) (by omega) (by omega)) rfl ?_
    exact j_zreturn x hr dX5_isBackRefused_38 (by first | decide | exact jisS_nar | exact jb_nar) (by omega) (by omega) ⟨by rw [show rBack M t = rOth M t from by unfold rBack; rw [h0]; exact if_neg (jb_nz.mp h3)], by rw [show rBack M t = rOth M t from by unfold rBack; rw [h0]; exact if_neg (jb_nz.mp h3)]⟩
  · refine j_aload_n x dX5_isBackRefused_21 rfl ?_
    refine j_bipush (v := 9) x dX5_isBackRefused_22 (by decide) ?_
    refine j_aload_n x dX5_isBackRefused_24 rfl ?_
    refine j_iload_n x dX5_isBackRefused_25 rfl ?_
    refine j2_callVi x hb dX5_isBackRefused_26 m_X5_kindOf (c_kindOf (d := d) hb) wmX5_227 jc_9 rfl rfl rfl (Nat.le_of_ble_eq_true rfl) (j_fit_rm (by omega) (by omega) (by omega)) rfl ?_
    refine j2_callVi x hb dX5_isBackRefused_29 m_X5_refuse (c_refuse (d := d) hb) wmX5_426 jc_9 rfl rfl rfl (Nat.le_of_ble_eq_true rfl) (j_fit_rm (by omega) (by omega) (by omega)) rfl ?_
    exact j_zreturn x hr dX5_isBackRefused_32 (by first | decide | exact jisS_nar | exact jb_nar) (by omega) (by omega) ⟨by rw [show rBack M t = some (9, jkind M t) from by unfold rBack; rw [h0]; exact if_pos (Decidable.not_not.mp (jb_0.mp h3))]; rfl, by rw [show rBack M t = some (9, jkind M t) from by unfold rBack; rw [h0]; exact if_pos (Decidable.not_not.mp (jb_0.mp h3))]; rfl⟩
theorem c_isBackRefused {d : Nat} {b : SBt} {Y : OUt} {M : MM} (hb : 104 ≤ b.2.1) {t : Int32} : CM (d + 3) 0 0 yX5_isBackRefused cX5_isBackRefused 2 (some .boolean) [.ref 0, .int t] b Y M (.inl (some (.int (jisS (rBack M t))))) (jrf M (rBack M t)) := by
  cases h0 : rNoM M t with
  | none => exact c_isBackRefused_n hb h0
  | some q => exact c_isBackRefused_s hb h0
theorem c_isPutOffRefused_s {d : Nat} {b : SBt} {Y : OUt} {M : MM} (hb : 104 ≤ b.2.1) {t u : Int32} {r z : Int32} (h0 : rNoM M t = some (r, z)) : CM (d + 3) 0 0 yX5_isPutOffRefused cX5_isPutOffRefused 4 (some .boolean) [.ref 0, .int t, .int u] b Y M (.inl (some (.int (jisS (rPut M t u))))) (jrf M (rPut M t u)) := by
  refine Con.of (by decide +kernel) (Nat.le_of_ble_eq_true rfl) rfl fun p l e s m args below meth c D tyc A ad0 x hr htab hname => ?_
  change JJ _ _ _ _ _ _ _ _ _ _ _ _ _ _ _ _ _ 0 [some (.ref 0), some (.int t), some (.int u), none] [] _ 0 0
  refine j_aload_n x dX5_isPutOffRefused_0 rfl ?_
  refine j_iload_n x dX5_isPutOffRefused_1 rfl ?_
  refine j2_callVi x hb dX5_isPutOffRefused_2 m_X5_isNoMeetingRefused (CM_s (c_isNoMeetingRefused (d := d) hb) h0) wmX5_432 jc_9 rfl rfl rfl (Nat.le_of_ble_eq_true rfl) (j_fit_rm (by omega) (by omega) (by omega)) rfl ?_
  refine j_if_eq (tgt := 10) x dX5_isPutOffRefused_5 (by decide) (fun hc => absurd hc (by decide)) (fun hc => ?_)
  refine j_iconst (v := 1) x dX5_isPutOffRefused_8 (by decide) ?_
  exact j_zreturn x hr dX5_isPutOffRefused_9 (by first | decide | exact jisS_nar | exact jb_nar) (by omega) (by omega) ⟨by rw [show rPut M t u = some (r, z) from by unfold rPut; rw [h0]]; rfl, by rw [show rPut M t u = some (r, z) from by unfold rPut; rw [h0]]; rfl⟩
theorem c_isPutOffRefused_n {d : Nat} {b : SBt} {Y : OUt} {M : MM} (hb : 104 ≤ b.2.1) {t u : Int32} (h0 : rNoM M t = none) (h4 : rOth M t = none) : CM (d + 3) 0 0 yX5_isPutOffRefused cX5_isPutOffRefused 4 (some .boolean) [.ref 0, .int t, .int u] b Y M (.inl (some (.int (jisS (rPut M t u))))) (jrf M (rPut M t u)) := by
  refine Con.of (by decide +kernel) (Nat.le_of_ble_eq_true rfl) rfl fun p l e s m args below meth c D tyc A ad0 x hr htab hname => ?_
  change JJ _ _ _ _ _ _ _ _ _ _ _ _ _ _ _ _ _ 0 [some (.ref 0), some (.int t), some (.int u), none] [] _ 0 0
  refine j_aload_n x dX5_isPutOffRefused_0 rfl ?_
  refine j_iload_n x dX5_isPutOffRefused_1 rfl ?_
  refine j2_callVi x hb dX5_isPutOffRefused_2 m_X5_isNoMeetingRefused (CM_n (c_isNoMeetingRefused (d := d) hb) h0) wmX5_432 jc_9 rfl rfl rfl (Nat.le_of_ble_eq_true rfl) (j_fit_rm (by omega) (by omega) (by omega)) rfl ?_
  refine j_if_eq (tgt := 10) x dX5_isPutOffRefused_5 (by decide) (fun hc => ?_) (fun hc => absurd (rfl) hc)
  refine j_iload_n x dX5_isPutOffRefused_10 rfl ?_
  refine j_iconst (v := 1) x dX5_isPutOffRefused_11 (by decide) ?_
  refine j_icmp_lt (tgt := 21) x dX5_isPutOffRefused_12 (by decide) (fun h1 => ?_) (fun h1 => ?_)
  · refine j_aload_n x dX5_isPutOffRefused_21 rfl ?_
    refine j_iconst (v := 1) x dX5_isPutOffRefused_22 (by decide) ?_
    refine j_iconst (v := 0) x dX5_isPutOffRefused_23 (by decide) ?_
    refine j2_callVi x hb dX5_isPutOffRefused_24 m_X5_refuse (c_refuse (d := d) hb) wmX5_426 jc_9 rfl rfl rfl (Nat.le_of_ble_eq_true rfl) (j_fit_rm (by omega) (by omega) (by omega)) rfl ?_
    exact j_zreturn x hr dX5_isPutOffRefused_27 (by first | decide | exact jisS_nar | exact jb_nar) (by omega) (by omega) ⟨by rw [show rPut M t u = some (1, 0) from by unfold rPut; rw [h0]; exact if_pos (Or.inl h1)]; rfl, by rw [show rPut M t u = some (1, 0) from by unfold rPut; rw [h0]; exact if_pos (Or.inl h1)]; rfl⟩
  · refine j_iload_n x dX5_isPutOffRefused_15 rfl ?_
    refine j_bipush (v := 9) x dX5_isPutOffRefused_16 (by decide) ?_
    refine j_icmp_le (tgt := 28) x dX5_isPutOffRefused_18 (by decide) (fun h2 => ?_) (fun h2 => ?_)
    · refine j_aload_n x dX5_isPutOffRefused_28 rfl ?_
      refine j2_getr (k := 0) (r := 1) x hb dX5_isPutOffRefused_29 jc_9 wfX5_10 (by decide) rfl ?_
      refine j_iload_n x dX5_isPutOffRefused_32 rfl ?_
      refine j2_callVi x hb dX5_isPutOffRefused_33 m_X2_isPlayed (c_isPlayed (d := d) (a := 1) hb rfl) wmX5_288 jc_6 rfl rfl rfl (Nat.le_of_ble_eq_true rfl) (j_fit_rm (by omega) (by omega) (by omega)) rfl ?_
      refine j_if_eq (tgt := 47) x dX5_isPutOffRefused_36 (by decide) (fun h3 => ?_) (fun h3 => ?_)
      · refine j_aload_n x dX5_isPutOffRefused_47 rfl ?_
        refine j_iload_n x dX5_isPutOffRefused_48 rfl ?_
        refine j2_callVi x hb dX5_isPutOffRefused_49 m_X5_isOtherWeekRefused (CM_n (c_isOtherWeekRefused (d := d) hb) h4) wmX5_438 jc_9 rfl rfl rfl (Nat.le_of_ble_eq_true rfl) (j_fit_rm (by omega) (by omega) (by omega)) rfl ?_
        refine j_if_eq (tgt := 57) x dX5_isPutOffRefused_52 (by decide) (fun hc => ?_) (fun hc => absurd (rfl) hc)
        refine j_aload_n x dX5_isPutOffRefused_57 rfl ?_
        refine j2_getr (k := 0) (r := 1) x hb dX5_isPutOffRefused_58 jc_9 wfX5_10 (by decide) rfl ?_
        refine j2_geti (k := 3) x hb dX5_isPutOffRefused_61 jc_6 wfX5_160 (by decide) rfl ?_
        refine j_iload_n x dX5_isPutOffRefused_64 rfl ?_
        refine j_iadd x dX5_isPutOffRefused_65 ?_
        refine j_istore_n x dX5_isPutOffRefused_66 (by decide) rfl ?_
        refine j_aload_n x dX5_isPutOffRefused_67 rfl ?_
        refine j_iload_n x dX5_isPutOffRefused_68 rfl ?_
        refine j2_callVi x hb dX5_isPutOffRefused_69 m_X5_isWeek (c_isWeek (d := d) hb) wmX5_248 jc_9 rfl rfl rfl (Nat.le_of_ble_eq_true rfl) (j_fit_rm (by omega) (by omega) (by omega)) rfl ?_
        refine j_if_ne (tgt := 89) x dX5_isPutOffRefused_72 (by decide) (fun h5 => ?_) (fun h5 => ?_)
        · refine j_iconst (v := 0) x dX5_isPutOffRefused_89 (by decide) ?_
          exact j_zreturn x hr dX5_isPutOffRefused_90 (by first | decide | exact jisS_nar | exact jb_nar) (by omega) (by omega) ⟨by rw [show rPut M t u = none from by unfold rPut; rw [h0]; simp only []; rw [if_neg (fun q => q.elim h1 (fun q => q h2)), if_neg (jb_0.mp h3), h4]; exact if_neg (fun q => q (jb_nz.mp h5))]; rfl, by rw [show rPut M t u = none from by unfold rPut; rw [h0]; simp only []; rw [if_neg (fun q => q.elim h1 (fun q => q h2)), if_neg (jb_0.mp h3), h4]; exact if_neg (fun q => q (jb_nz.mp h5))]; rfl⟩
        · refine j_aload_n x dX5_isPutOffRefused_75 rfl ?_
          refine j_bipush (v := 10) x dX5_isPutOffRefused_76 (by decide) ?_
          refine j_iload_n x dX5_isPutOffRefused_78 rfl ?_
          refine j2_callVi x hb dX5_isPutOffRefused_79 m_X5_refuse (c_refuse (d := d) hb) wmX5_426 jc_9 rfl rfl rfl (Nat.le_of_ble_eq_true rfl) (j_fit_rm (by omega) (by omega) (by omega)) rfl ?_
          refine j_if_eq (tgt := 89) x dX5_isPutOffRefused_82 (by decide) (fun hc => absurd hc (by decide)) (fun hc => ?_)
          refine j_iconst (v := 1) x dX5_isPutOffRefused_85 (by decide) ?_
          refine j_goto (tgt := 90) x dX5_isPutOffRefused_86 (by decide) ?_
          exact j_zreturn x hr dX5_isPutOffRefused_90 (by first | decide | exact jisS_nar | exact jb_nar) (by omega) (by omega) ⟨by rw [show rPut M t u = some (10, M 1 3 + u) from by unfold rPut; rw [h0]; simp only []; rw [if_neg (fun q => q.elim h1 (fun q => q h2)), if_neg (jb_0.mp h3), h4]; exact if_pos (jb_0.mp h5)]; rfl, by rw [show rPut M t u = some (10, M 1 3 + u) from by unfold rPut; rw [h0]; simp only []; rw [if_neg (fun q => q.elim h1 (fun q => q h2)), if_neg (jb_0.mp h3), h4]; exact if_pos (jb_0.mp h5)]; rfl⟩
      · refine j_aload_n x dX5_isPutOffRefused_39 rfl ?_
        refine j_bipush (v := 8) x dX5_isPutOffRefused_40 (by decide) ?_
        refine j_iconst (v := 0) x dX5_isPutOffRefused_42 (by decide) ?_
        refine j2_callVi x hb dX5_isPutOffRefused_43 m_X5_refuse (c_refuse (d := d) hb) wmX5_426 jc_9 rfl rfl rfl (Nat.le_of_ble_eq_true rfl) (j_fit_rm (by omega) (by omega) (by omega)) rfl ?_
        exact j_zreturn x hr dX5_isPutOffRefused_46 (by first | decide | exact jisS_nar | exact jb_nar) (by omega) (by omega) ⟨by rw [show rPut M t u = some (8, 0) from by unfold rPut; rw [h0]; exact (if_neg (fun q => q.elim h1 (fun q => q h2))).trans (if_pos (jb_nz.mp h3))]; rfl, by rw [show rPut M t u = some (8, 0) from by unfold rPut; rw [h0]; exact (if_neg (fun q => q.elim h1 (fun q => q h2))).trans (if_pos (jb_nz.mp h3))]; rfl⟩
    · refine j_aload_n x dX5_isPutOffRefused_21 rfl ?_
      refine j_iconst (v := 1) x dX5_isPutOffRefused_22 (by decide) ?_
      refine j_iconst (v := 0) x dX5_isPutOffRefused_23 (by decide) ?_
      refine j2_callVi x hb dX5_isPutOffRefused_24 m_X5_refuse (c_refuse (d := d) hb) wmX5_426 jc_9 rfl rfl rfl (Nat.le_of_ble_eq_true rfl) (j_fit_rm (by omega) (by omega) (by omega)) rfl ?_
      exact j_zreturn x hr dX5_isPutOffRefused_27 (by first | decide | exact jisS_nar | exact jb_nar) (by omega) (by omega) ⟨by rw [show rPut M t u = some (1, 0) from by unfold rPut; rw [h0]; exact if_pos (Or.inr h2)]; rfl, by rw [show rPut M t u = some (1, 0) from by unfold rPut; rw [h0]; exact if_pos (Or.inr h2)]; rfl⟩
theorem c_isPutOffRefused_o {d : Nat} {b : SBt} {Y : OUt} {M : MM} (hb : 104 ≤ b.2.1) {t u : Int32} (h0 : rNoM M t = none) {r z : Int32} (h4 : rOth M t = some (r, z)) : CM (d + 3) 0 0 yX5_isPutOffRefused cX5_isPutOffRefused 4 (some .boolean) [.ref 0, .int t, .int u] b Y M (.inl (some (.int (jisS (rPut M t u))))) (jrf M (rPut M t u)) := by
  refine Con.of (by decide +kernel) (Nat.le_of_ble_eq_true rfl) rfl fun p l e s m args below meth c D tyc A ad0 x hr htab hname => ?_
  change JJ _ _ _ _ _ _ _ _ _ _ _ _ _ _ _ _ _ 0 [some (.ref 0), some (.int t), some (.int u), none] [] _ 0 0
  refine j_aload_n x dX5_isPutOffRefused_0 rfl ?_
  refine j_iload_n x dX5_isPutOffRefused_1 rfl ?_
  refine j2_callVi x hb dX5_isPutOffRefused_2 m_X5_isNoMeetingRefused (CM_n (c_isNoMeetingRefused (d := d) hb) h0) wmX5_432 jc_9 rfl rfl rfl (Nat.le_of_ble_eq_true rfl) (j_fit_rm (by omega) (by omega) (by omega)) rfl ?_
  refine j_if_eq (tgt := 10) x dX5_isPutOffRefused_5 (by decide) (fun hc => ?_) (fun hc => absurd (rfl) hc)
  refine j_iload_n x dX5_isPutOffRefused_10 rfl ?_
  refine j_iconst (v := 1) x dX5_isPutOffRefused_11 (by decide) ?_
  refine j_icmp_lt (tgt := 21) x dX5_isPutOffRefused_12 (by decide) (fun h1 => ?_) (fun h1 => ?_)
  · refine j_aload_n x dX5_isPutOffRefused_21 rfl ?_
    refine j_iconst (v := 1) x dX5_isPutOffRefused_22 (by decide) ?_
    refine j_iconst (v := 0) x dX5_isPutOffRefused_23 (by decide) ?_
    refine j2_callVi x hb dX5_isPutOffRefused_24 m_X5_refuse (c_refuse (d := d) hb) wmX5_426 jc_9 rfl rfl rfl (Nat.le_of_ble_eq_true rfl) (j_fit_rm (by omega) (by omega) (by omega)) rfl ?_
    exact j_zreturn x hr dX5_isPutOffRefused_27 (by first | decide | exact jisS_nar | exact jb_nar) (by omega) (by omega) ⟨by rw [show rPut M t u = some (1, 0) from by unfold rPut; rw [h0]; exact if_pos (Or.inl h1)]; rfl, by rw [show rPut M t u = some (1, 0) from by unfold rPut; rw [h0]; exact if_pos (Or.inl h1)]; rfl⟩
  · refine j_iload_n x dX5_isPutOffRefused_15 rfl ?_
    refine j_bipush (v := 9) x dX5_isPutOffRefused_16 (by decide) ?_
    refine j_icmp_le (tgt := 28) x dX5_isPutOffRefused_18 (by decide) (fun h2 => ?_) (fun h2 => ?_)
    · refine j_aload_n x dX5_isPutOffRefused_28 rfl ?_
      refine j2_getr (k := 0) (r := 1) x hb dX5_isPutOffRefused_29 jc_9 wfX5_10 (by decide) rfl ?_
      refine j_iload_n x dX5_isPutOffRefused_32 rfl ?_
      refine j2_callVi x hb dX5_isPutOffRefused_33 m_X2_isPlayed (c_isPlayed (d := d) (a := 1) hb rfl) wmX5_288 jc_6 rfl rfl rfl (Nat.le_of_ble_eq_true rfl) (j_fit_rm (by omega) (by omega) (by omega)) rfl ?_
      refine j_if_eq (tgt := 47) x dX5_isPutOffRefused_36 (by decide) (fun h3 => ?_) (fun h3 => ?_)
      · refine j_aload_n x dX5_isPutOffRefused_47 rfl ?_
        refine j_iload_n x dX5_isPutOffRefused_48 rfl ?_
        refine j2_callVi x hb dX5_isPutOffRefused_49 m_X5_isOtherWeekRefused (CM_s (c_isOtherWeekRefused (d := d) hb) h4) wmX5_438 jc_9 rfl rfl rfl (Nat.le_of_ble_eq_true rfl) (j_fit_rm (by omega) (by omega) (by omega)) rfl ?_
        refine j_if_eq (tgt := 57) x dX5_isPutOffRefused_52 (by decide) (fun hc => absurd hc (by decide)) (fun hc => ?_)
        refine j_iconst (v := 1) x dX5_isPutOffRefused_55 (by decide) ?_
        exact j_zreturn x hr dX5_isPutOffRefused_56 (by first | decide | exact jisS_nar | exact jb_nar) (by omega) (by omega) ⟨by rw [show rPut M t u = some (r, z) from by unfold rPut; rw [h0]; simp only []; rw [if_neg (fun q => q.elim h1 (fun q => q h2)), if_neg (jb_0.mp h3), h4]]; rfl, by rw [show rPut M t u = some (r, z) from by unfold rPut; rw [h0]; simp only []; rw [if_neg (fun q => q.elim h1 (fun q => q h2)), if_neg (jb_0.mp h3), h4]]; rfl⟩
      · refine j_aload_n x dX5_isPutOffRefused_39 rfl ?_
        refine j_bipush (v := 8) x dX5_isPutOffRefused_40 (by decide) ?_
        refine j_iconst (v := 0) x dX5_isPutOffRefused_42 (by decide) ?_
        refine j2_callVi x hb dX5_isPutOffRefused_43 m_X5_refuse (c_refuse (d := d) hb) wmX5_426 jc_9 rfl rfl rfl (Nat.le_of_ble_eq_true rfl) (j_fit_rm (by omega) (by omega) (by omega)) rfl ?_
        exact j_zreturn x hr dX5_isPutOffRefused_46 (by first | decide | exact jisS_nar | exact jb_nar) (by omega) (by omega) ⟨by rw [show rPut M t u = some (8, 0) from by unfold rPut; rw [h0]; exact (if_neg (fun q => q.elim h1 (fun q => q h2))).trans (if_pos (jb_nz.mp h3))]; rfl, by rw [show rPut M t u = some (8, 0) from by unfold rPut; rw [h0]; exact (if_neg (fun q => q.elim h1 (fun q => q h2))).trans (if_pos (jb_nz.mp h3))]; rfl⟩
    · refine j_aload_n x dX5_isPutOffRefused_21 rfl ?_
      refine j_iconst (v := 1) x dX5_isPutOffRefused_22 (by decide) ?_
      refine j_iconst (v := 0) x dX5_isPutOffRefused_23 (by decide) ?_
      refine j2_callVi x hb dX5_isPutOffRefused_24 m_X5_refuse (c_refuse (d := d) hb) wmX5_426 jc_9 rfl rfl rfl (Nat.le_of_ble_eq_true rfl) (j_fit_rm (by omega) (by omega) (by omega)) rfl ?_
      exact j_zreturn x hr dX5_isPutOffRefused_27 (by first | decide | exact jisS_nar | exact jb_nar) (by omega) (by omega) ⟨by rw [show rPut M t u = some (1, 0) from by unfold rPut; rw [h0]; exact if_pos (Or.inr h2)]; rfl, by rw [show rPut M t u = some (1, 0) from by unfold rPut; rw [h0]; exact if_pos (Or.inr h2)]; rfl⟩
theorem c_isPutOffRefused {d : Nat} {b : SBt} {Y : OUt} {M : MM} (hb : 104 ≤ b.2.1) {t u : Int32} : CM (d + 3) 0 0 yX5_isPutOffRefused cX5_isPutOffRefused 4 (some .boolean) [.ref 0, .int t, .int u] b Y M (.inl (some (.int (jisS (rPut M t u))))) (jrf M (rPut M t u)) := by
  cases h0 : rNoM M t with
  | some q => exact c_isPutOffRefused_s hb h0
  | none =>
    cases h4 : rOth M t with
    | some q => exact c_isPutOffRefused_o hb h0 h4
    | none => exact c_isPutOffRefused_n hb h0 h4
theorem c_isNextRefused {d : Nat} {b : SBt} {Y : OUt} {M : MM} (hb : 104 ≤ b.2.1) {n : Nat} (hn : n ≤ 56) (hm : jmc M = nI n) : CM (d + 3) 0 0 yX5_isNextRefused cX5_isNextRefused 2 (some .boolean) [.ref 0] b Y M (.inl (some (.int (jisS (rNext M n))))) (jrf M (rNext M n)) := by
  refine Con.of (by decide +kernel) (Nat.le_of_ble_eq_true rfl) rfl fun p l e s m args below meth c D tyc A ad0 x hr htab hname => ?_
  change JJ _ _ _ _ _ _ _ _ _ _ _ _ _ _ _ _ _ 0 [some (.ref 0), none] [] _ 0 0
  refine j_aload_n x dX5_isNextRefused_0 rfl ?_
  refine j2_getr (k := 0) (r := 1) x hb dX5_isNextRefused_1 jc_9 wfX5_10 (by decide) rfl ?_
  refine j2_geti (k := 2) x hb dX5_isNextRefused_4 jc_6 wfX5_388 (by decide) rfl ?_
  refine j_if_ne (tgt := 17) x dX5_isNextRefused_7 (by decide) (fun h1 => ?_) (fun h1 => ?_)
  · refine j_aload_n x dX5_isNextRefused_17 rfl ?_
    refine j2_callVi x hb dX5_isNextRefused_18 m_X5_firstNotPlayedNow (c_firstNotPlayedNow (d := d) hb hn hm) wmX5_441 jc_9 rfl rfl rfl (Nat.le_of_ble_eq_true rfl) (j_fit_rm (by omega) (by omega) (by omega)) rfl ?_
    refine j_istore_n x dX5_isNextRefused_21 (by decide) rfl ?_
    refine j_iload_n x dX5_isNextRefused_22 rfl ?_
    refine j_iconst (v := (-1)) x dX5_isNextRefused_23 (by decide) ?_
    refine j_icmp_eq (tgt := 35) x dX5_isNextRefused_24 (by decide) (fun h2 => ?_) (fun h2 => ?_)
    · refine j_aload_n x dX5_isNextRefused_35 rfl ?_
      refine j_aload_n x dX5_isNextRefused_36 rfl ?_
      refine j2_getr (k := 0) (r := 1) x hb dX5_isNextRefused_37 jc_9 wfX5_10 (by decide) rfl ?_
      refine j2_geti (k := 3) x hb dX5_isNextRefused_40 jc_6 wfX5_160 (by decide) rfl ?_
      refine j_iconst (v := 1) x dX5_isNextRefused_43 (by decide) ?_
      refine j_iadd x dX5_isNextRefused_44 ?_
      refine j2_callVi x hb dX5_isNextRefused_45 m_X5_isWeek (c_isWeek (d := d) hb) wmX5_248 jc_9 rfl rfl rfl (Nat.le_of_ble_eq_true rfl) (j_fit_rm (by omega) (by omega) (by omega)) rfl ?_
      refine j_if_ne (tgt := 71) x dX5_isNextRefused_48 (by decide) (fun h3 => ?_) (fun h3 => ?_)
      · refine j_iconst (v := 0) x dX5_isNextRefused_71 (by decide) ?_
        exact j_zreturn x hr dX5_isNextRefused_72 (by first | decide | exact jisS_nar | exact jb_nar) (by omega) (by omega) ⟨by rw [show rNext M n = none from (if_neg h1).trans ((if_neg (fun q => q h2)).trans (if_neg (fun q => q (jb_nz.mp h3))))]; rfl, by rw [show rNext M n = none from (if_neg h1).trans ((if_neg (fun q => q h2)).trans (if_neg (fun q => q (jb_nz.mp h3))))]; rfl⟩
      · refine j_aload_n x dX5_isNextRefused_51 rfl ?_
        refine j_bipush (v := 14) x dX5_isNextRefused_52 (by decide) ?_
        refine j_aload_n x dX5_isNextRefused_54 rfl ?_
        refine j2_getr (k := 0) (r := 1) x hb dX5_isNextRefused_55 jc_9 wfX5_10 (by decide) rfl ?_
        refine j2_geti (k := 3) x hb dX5_isNextRefused_58 jc_6 wfX5_160 (by decide) rfl ?_
        refine j2_callVi x hb dX5_isNextRefused_61 m_X5_refuse (c_refuse (d := d) hb) wmX5_426 jc_9 rfl rfl rfl (Nat.le_of_ble_eq_true rfl) (j_fit_rm (by omega) (by omega) (by omega)) rfl ?_
        refine j_if_eq (tgt := 71) x dX5_isNextRefused_64 (by decide) (fun hc => absurd hc (by decide)) (fun hc => ?_)
        refine j_iconst (v := 1) x dX5_isNextRefused_67 (by decide) ?_
        refine j_goto (tgt := 72) x dX5_isNextRefused_68 (by decide) ?_
        exact j_zreturn x hr dX5_isNextRefused_72 (by first | decide | exact jisS_nar | exact jb_nar) (by omega) (by omega) ⟨by rw [show rNext M n = some (14, M 1 3) from (if_neg h1).trans ((if_neg (fun q => q h2)).trans (if_pos (jb_0.mp h3)))]; rfl, by rw [show rNext M n = some (14, M 1 3) from (if_neg h1).trans ((if_neg (fun q => q h2)).trans (if_pos (jb_0.mp h3)))]; rfl⟩
    · refine j_aload_n x dX5_isNextRefused_27 rfl ?_
      refine j_bipush (v := 11) x dX5_isNextRefused_28 (by decide) ?_
      refine j_iload_n x dX5_isNextRefused_30 rfl ?_
      refine j2_callVi x hb dX5_isNextRefused_31 m_X5_refuse (c_refuse (d := d) hb) wmX5_426 jc_9 rfl rfl rfl (Nat.le_of_ble_eq_true rfl) (j_fit_rm (by omega) (by omega) (by omega)) rfl ?_
      exact j_zreturn x hr dX5_isNextRefused_34 (by first | decide | exact jisS_nar | exact jb_nar) (by omega) (by omega) ⟨by rw [show rNext M n = some (11, jfst (fNow M) n) from (if_neg h1).trans (if_pos h2)]; rfl, by rw [show rNext M n = some (11, jfst (fNow M) n) from (if_neg h1).trans (if_pos h2)]; rfl⟩
  · refine j_aload_n x dX5_isNextRefused_10 rfl ?_
    refine j_iconst (v := 5) x dX5_isNextRefused_11 (by decide) ?_
    refine j_iconst (v := 0) x dX5_isNextRefused_12 (by decide) ?_
    refine j2_callVi x hb dX5_isNextRefused_13 m_X5_refuse (c_refuse (d := d) hb) wmX5_426 jc_9 rfl rfl rfl (Nat.le_of_ble_eq_true rfl) (j_fit_rm (by omega) (by omega) (by omega)) rfl ?_
    exact j_zreturn x hr dX5_isNextRefused_16 (by first | decide | exact jisS_nar | exact jb_nar) (by omega) (by omega) ⟨by rw [show rNext M n = some (5, 0) from if_pos h1]; rfl, by rw [show rNext M n = some (5, 0) from if_pos h1]; rfl⟩
def rGive (M : MM) (t u : Int32) (n : Nat) : Option (Int32 × Int32) := if ¬ jcount M n 75 0 ≤ 0 then some (12, jcount M n 75 0) else none
theorem c_isGiveRefused_n {d : Nat} {b : SBt} {Y : OUt} {M : MM} (hb : 104 ≤ b.2.1) {t u : Int32} {n : Nat} (hn : n ≤ 56) (hm : jmc M = nI n) (hx : ¬ (t < 1 ∨ 5 < t ∨ u < 0 ∨ ¬ u ≤ 3)) (h3 : jcount M n 75 0 ≤ 0) : CM (d + 5) 0 0 yX5_isGiveRefused cX5_isGiveRefused 3 (some .boolean) [.ref 0, .int t, .int u] b Y M (.inl (some (.int 0))) (jcount M n) := by
  refine Con.of (by decide +kernel) (Nat.le_of_ble_eq_true rfl) rfl fun p l e s m args below meth c D tyc A ad0 x hr htab hname => ?_
  change JJ _ _ _ _ _ _ _ _ _ _ _ _ _ _ _ _ _ 0 [some (.ref 0), some (.int t), some (.int u)] [] _ 0 0
  refine j_iload_n x dX5_isGiveRefused_0 rfl ?_
  refine j_iconst (v := 1) x dX5_isGiveRefused_1 (by decide) ?_
  refine j_icmp_lt (tgt := 19) x dX5_isGiveRefused_2 (by decide) (fun hc => absurd hc (fun q => hx (Or.inl q))) (fun hc => ?_)
  refine j_iload_n x dX5_isGiveRefused_5 rfl ?_
  refine j_iconst (v := 5) x dX5_isGiveRefused_6 (by decide) ?_
  refine j_icmp_gt (tgt := 19) x dX5_isGiveRefused_7 (by decide) (fun hc => absurd hc (fun q => hx (Or.inr (Or.inl q)))) (fun hc => ?_)
  refine j_iload_n x dX5_isGiveRefused_10 rfl ?_
  refine j_if_lt (tgt := 19) x dX5_isGiveRefused_11 (by decide) (fun hc => absurd hc (fun q => hx (Or.inr (Or.inr (Or.inl q))))) (fun hc => ?_)
  refine j_iload_n x dX5_isGiveRefused_14 rfl ?_
  refine j_iconst (v := 3) x dX5_isGiveRefused_15 (by decide) ?_
  refine j_icmp_le (tgt := 26) x dX5_isGiveRefused_16 (by decide) (fun hc => ?_) (fun hc => absurd (Decidable.byContradiction fun q => hx (Or.inr (Or.inr (Or.inr q)))) hc)
  refine j_aload_n x dX5_isGiveRefused_26 rfl ?_
  refine j2_callVv x hb dX5_isGiveRefused_27 m_X5_count (c_count (d := d) hb hn hm) wmX5_187 jc_9 rfl rfl rfl (Nat.le_of_ble_eq_true rfl) (j_fit_rm (by omega) (by omega) (by omega)) rfl ?_
  refine j_aload_n x dX5_isGiveRefused_30 rfl ?_
  refine j2_getr (k := 5) (r := 75) x hb dX5_isGiveRefused_31 jc_9 wfX5_36 (by decide) rfl ?_
  refine j2_geti (k := 0) x hb dX5_isGiveRefused_34 jc_7 wfX5_372 (by decide) rfl ?_
  refine j_if_le (tgt := 60) x dX5_isGiveRefused_37 (by decide) (fun hc => ?_) (fun hc => absurd (h3) hc)
  refine j_iconst (v := 0) x dX5_isGiveRefused_60 (by decide) ?_
  exact j_zreturn x hr dX5_isGiveRefused_61 (by first | decide | exact jisS_nar | exact jb_nar) (by omega) (by omega) ⟨rfl, rfl⟩
theorem c_isGiveRefused_s {d : Nat} {b : SBt} {Y : OUt} {M : MM} (hb : 104 ≤ b.2.1) {t u : Int32} {n : Nat} (hn : n ≤ 56) (hm : jmc M = nI n) (hx : ¬ (t < 1 ∨ 5 < t ∨ u < 0 ∨ ¬ u ≤ 3)) (h3 : ¬ jcount M n 75 0 ≤ 0) : CM (d + 5) 0 0 yX5_isGiveRefused cX5_isGiveRefused 3 (some .boolean) [.ref 0, .int t, .int u] b Y M (.inl (some (.int 1))) (jref (jcount M n) 12 (jcount M n 75 0)) := by
  refine Con.of (by decide +kernel) (Nat.le_of_ble_eq_true rfl) rfl fun p l e s m args below meth c D tyc A ad0 x hr htab hname => ?_
  change JJ _ _ _ _ _ _ _ _ _ _ _ _ _ _ _ _ _ 0 [some (.ref 0), some (.int t), some (.int u)] [] _ 0 0
  refine j_iload_n x dX5_isGiveRefused_0 rfl ?_
  refine j_iconst (v := 1) x dX5_isGiveRefused_1 (by decide) ?_
  refine j_icmp_lt (tgt := 19) x dX5_isGiveRefused_2 (by decide) (fun hc => absurd hc (fun q => hx (Or.inl q))) (fun hc => ?_)
  refine j_iload_n x dX5_isGiveRefused_5 rfl ?_
  refine j_iconst (v := 5) x dX5_isGiveRefused_6 (by decide) ?_
  refine j_icmp_gt (tgt := 19) x dX5_isGiveRefused_7 (by decide) (fun hc => absurd hc (fun q => hx (Or.inr (Or.inl q)))) (fun hc => ?_)
  refine j_iload_n x dX5_isGiveRefused_10 rfl ?_
  refine j_if_lt (tgt := 19) x dX5_isGiveRefused_11 (by decide) (fun hc => absurd hc (fun q => hx (Or.inr (Or.inr (Or.inl q))))) (fun hc => ?_)
  refine j_iload_n x dX5_isGiveRefused_14 rfl ?_
  refine j_iconst (v := 3) x dX5_isGiveRefused_15 (by decide) ?_
  refine j_icmp_le (tgt := 26) x dX5_isGiveRefused_16 (by decide) (fun hc => ?_) (fun hc => absurd (Decidable.byContradiction fun q => hx (Or.inr (Or.inr (Or.inr q)))) hc)
  refine j_aload_n x dX5_isGiveRefused_26 rfl ?_
  refine j2_callVv x hb dX5_isGiveRefused_27 m_X5_count (c_count (d := d) hb hn hm) wmX5_187 jc_9 rfl rfl rfl (Nat.le_of_ble_eq_true rfl) (j_fit_rm (by omega) (by omega) (by omega)) rfl ?_
  refine j_aload_n x dX5_isGiveRefused_30 rfl ?_
  refine j2_getr (k := 5) (r := 75) x hb dX5_isGiveRefused_31 jc_9 wfX5_36 (by decide) rfl ?_
  refine j2_geti (k := 0) x hb dX5_isGiveRefused_34 jc_7 wfX5_372 (by decide) rfl ?_
  refine j_if_le (tgt := 60) x dX5_isGiveRefused_37 (by decide) (fun hc => absurd hc (h3)) (fun hc => ?_)
  refine j_aload_n x dX5_isGiveRefused_40 rfl ?_
  refine j_bipush (v := 12) x dX5_isGiveRefused_41 (by decide) ?_
  refine j_aload_n x dX5_isGiveRefused_43 rfl ?_
  refine j2_getr (k := 5) (r := 75) x hb dX5_isGiveRefused_44 jc_9 wfX5_36 (by decide) rfl ?_
  refine j2_geti (k := 0) x hb dX5_isGiveRefused_47 jc_7 wfX5_372 (by decide) rfl ?_
  refine j2_callVi x hb dX5_isGiveRefused_50 m_X5_refuse (c_refuse (d := d) hb) wmX5_426 jc_9 rfl rfl rfl (Nat.le_of_ble_eq_true rfl) (j_fit_rm (by omega) (by omega) (by omega)) rfl ?_
  refine j_if_eq (tgt := 60) x dX5_isGiveRefused_53 (by decide) (fun hc => absurd hc (by decide)) (fun hc => ?_)
  refine j_iconst (v := 1) x dX5_isGiveRefused_56 (by decide) ?_
  refine j_goto (tgt := 61) x dX5_isGiveRefused_57 (by decide) ?_
  exact j_zreturn x hr dX5_isGiveRefused_61 (by first | decide | exact jisS_nar | exact jb_nar) (by omega) (by omega) ⟨rfl, rfl⟩
def jfree (M : MM) (n z q0 : Nat) (t : Int32) : Int32 := if jfst (fun i => jb (jsum (fCl M t (nI (q0 + 1 + i))) n = 0)) (z - (q0 + 1)) = -1 then -1 else nI (q0 + 1) + jfst (fun i => jb (jsum (fCl M t (nI (q0 + 1 + i))) n = 0)) (z - (q0 + 1))
theorem c_firstFreeWeek {d : Nat} {b : SBt} {Y : OUt} {M : MM} (hb : 104 ≤ b.2.1) {t : Int32} {n z q0 : Nat} (hn : n ≤ 56) (hm : jmc M = nI n) (hz : z ≤ 14) (hw : jwc M = nI z) (h0 : jat 56 (M 4) t = nI q0) (hq : q0 < z) : CM (d + 3) 0 0 yX5_firstFreeWeek cX5_firstFreeWeek 3 (some .int) [.ref 0, .int t] b Y M (.inl (some (.int (jfree M n z q0 t)))) (M) := by
  refine Con.of (by decide +kernel) (Nat.le_of_ble_eq_true rfl) rfl fun p l e s m args below meth c D tyc A ad0 x hr htab hname => ?_
  change JJ _ _ _ _ _ _ _ _ _ _ _ _ _ _ _ _ _ 0 [some (.ref 0), some (.int t), none] [] _ 0 0
  refine j_aload_n x dX5_firstFreeWeek_0 rfl ?_
  refine j2_getr (k := 0) (r := 1) x hb dX5_firstFreeWeek_1 jc_9 wfX5_10 (by decide) rfl ?_
  refine j2_getr (k := 8) (r := 4) x hb dX5_firstFreeWeek_4 jc_6 wfX5_163 (by decide) rfl ?_
  refine j_iload_n x dX5_firstFreeWeek_7 rfl ?_
  refine j2_callSi x hb dX5_firstFreeWeek_8 m_X5_at (CM_v (c_at (d := d) hb fa_4 (by decide)) h0) wmX5_93 rfl (Nat.le_of_ble_eq_true rfl) (j_fit_rm (by omega) (by omega) (by omega)) rfl ?_
  refine j_iconst (v := 1) x dX5_firstFreeWeek_11 (by decide) ?_
  refine j_iadd x dX5_firstFreeWeek_12 ?_; rw [nI_1]
  refine j_istore_n x dX5_firstFreeWeek_13 (by decide) rfl ?_
  refine j_for (z - (q0 + 1)) (fun j => [some (.ref 0), some (.int t), some (.int (nI (q0 + 1 + j)))]) (fun j => M) (fun j => jfst (fun i => jb (jsum (fCl M t (nI (q0 + 1 + i))) n = 0)) j = -1) (rfl) (rfl) (rfl) (fun j hj hP ih => ?_) (fun hP => ?_)
  · refine j_iload_n x dX5_firstFreeWeek_14 rfl ?_
    refine j_aload_n x dX5_firstFreeWeek_15 rfl ?_
    refine j2_callVi x hb dX5_firstFreeWeek_16 m_X5_weekCount (CM_v (c_weekCount (d := d) hb) hw) wmX5_392 jc_9 rfl rfl rfl (Nat.le_of_ble_eq_true rfl) (j_fit_rm (by omega) (by omega) (by omega)) rfl ?_
    refine j_icmp_ge (tgt := 39) x dX5_firstFreeWeek_19 (by decide) (fun hc => absurd hc (nI_ge (by omega) (by omega))) (fun hc => ?_)
    refine j_aload_n x dX5_firstFreeWeek_22 rfl ?_
    refine j_iload_n x dX5_firstFreeWeek_23 rfl ?_
    refine j_iload_n x dX5_firstFreeWeek_24 rfl ?_
    refine j2_callVi x hb dX5_firstFreeWeek_25 m_X5_clashesOf (c_clashesOf (d := d) hb hn hm) wmX5_165 jc_9 rfl rfl rfl (Nat.le_of_ble_eq_true rfl) (j_fit_rm (by omega) (by omega) (by omega)) rfl ?_
    refine j_if_ne (tgt := 33) x dX5_firstFreeWeek_28 (by decide) (fun h1 => ?_) (fun h1 => ?_)
    · refine j_iinc x dX5_firstFreeWeek_33 rfl (by decide) rfl ?_
      refine j_goto (tgt := 14) x dX5_firstFreeWeek_36 (by decide) ?_
      exact j_goal (ih (jfst_no hP (fun q => absurd ((show (fun i => jb (jsum (fCl M t (nI (q0 + 1 + i))) n = 0)) j = 0 from jb_f h1).symm.trans q) (by decide)))) (wk_c rfl (wk_c rfl (wk_c (congrArg (fun z => some (Value.int z)) (nI_1 (q0 + 1 + j))) (wk_0)))) (rfl)
    · refine j_iload_n x dX5_firstFreeWeek_31 rfl ?_
      exact j_ireturn x hr dX5_firstFreeWeek_32 (by omega) (by omega) ⟨by unfold jfree; rw [jfst_at hP (show (fun i => jb (jsum (fCl M t (nI (q0 + 1 + i))) n = 0)) j = 1 from jb_t h1) (by omega) hj, if_neg (nI_nm1 (by omega)), nI_add], rfl⟩
  refine j_iload_n x dX5_firstFreeWeek_14 rfl ?_
  refine j_aload_n x dX5_firstFreeWeek_15 rfl ?_
  refine j2_callVi x hb dX5_firstFreeWeek_16 m_X5_weekCount (CM_v (c_weekCount (d := d) hb) hw) wmX5_392 jc_9 rfl rfl rfl (Nat.le_of_ble_eq_true rfl) (j_fit_rm (by omega) (by omega) (by omega)) rfl ?_
  refine j_icmp_ge (tgt := 39) x dX5_firstFreeWeek_19 (by decide) (fun hc => ?_) (fun hc => absurd (by rw [show q0 + 1 + (z - (q0 + 1)) = z from by omega]; exact nI_le (Nat.le_refl _) (by omega)) hc)
  refine j_iconst (v := (-1)) x dX5_firstFreeWeek_39 (by decide) ?_
  exact j_ireturn x hr dX5_firstFreeWeek_40 (by omega) (by omega) ⟨by unfold jfree; rw [if_pos hP], rfl⟩
end

section
/-! ===== the changes of the league, at any store ===== -/
theorem jmc_c {M N : MM} (h1 : N 1 2 = M 1 2) (h2 : N 69 1 = M 69 1) : jmc N = jmc M := by unfold jmc; rw [h1, h2]
theorem jwc_c {M N : MM} (h1 : N 1 2 = M 1 2) (h2 : N 69 0 = M 69 0) : jwc N = jwc M := by unfold jwc; rw [h1, h2]
theorem jkeep_n {M : MM} {j k i z : Nat} (hj : j < 9) (h : i < 13 ∨ 68 < i ∨ (i = 13 ∧ z ≠ 1 ∧ z ≠ 2)) : jkeep M j k i z = M i z := by
  unfold jkeep jkh
  rw [jm_n (by omega), jm_n (by omega), jlg_n (by omega)]
theorem jsetg_n {M : MM} {a i z : Nat} {t u v : Int32} (h : i ≠ a + 4) (h1 : i ≠ a + 5) : jsetg M a t u v i z = M i z := by
  unfold jsetg
  rw [m_put h1, m_put h]
theorem c_giveHeld {d : Nat} {b : SBt} {Y : OUt} {M : MM} (hb : 104 ≤ b.2.1) {j : Nat} (hj : j < 9) (hh : M 13 1 = nI j) (hz : M (15 + 6 * j) 2 = 0 ∨ M (15 + 6 * j) 2 = 1) : CM (d + 2) 0 0 yX1_giveHeld cX1_giveHeld 3 none [.ref 13, .ref 1] b Y M (.inl none) (jlg M (15 + 6 * j) 1) := by
  refine Con.of (by decide +kernel) (Nat.le_of_ble_eq_true rfl) rfl fun p l e s m args below meth c D tyc A ad0 x hr htab hname => ?_
  change JJ _ _ _ _ _ _ _ _ _ _ _ _ _ _ _ _ _ 0 [some (.ref 13), some (.ref 1), none] [] _ 0 0
  refine j_aload_n x dX1_giveHeld_0 rfl ?_
  refine j_aload_n x dX1_giveHeld_1 rfl ?_
  refine j2_geti (k := 1) x hb dX1_giveHeld_2 jc_5 wfX1_25 (by decide) rfl ?_
  rw [hh]; refine j2_callVr x hb dX1_giveHeld_5 m_X1_slotAt (c_slotAt (d := d) hb hj) wmX1_29 jc_5 rfl rfl rfl (Nat.le_of_ble_eq_true rfl) (j_fit_rm (by omega) (by omega) (by omega)) rfl ?_
  refine j_astore_n x dX1_giveHeld_8 (by decide) rfl ?_
  refine j_aload_n x dX1_giveHeld_9 rfl ?_
  refine j_ifnull x dX1_giveHeld_10 ?_
  refine j_aload_n x dX1_giveHeld_13 rfl ?_
  refine j_aload_n x dX1_giveHeld_14 rfl ?_
  refine j2_callVv x hb dX1_giveHeld_15 m_X2_copyFrom (c_copyFrom (d := d) (a := 15 + 6 * j) (g := 1) hb (lgR j hj) rfl (by omega) hz) wmX1_33 jc_6 rfl rfl rfl (Nat.le_of_ble_eq_true rfl) (j_fit_rm (by omega) (by omega) (by omega)) rfl ?_
  exact j_return x hr dX1_giveHeld_18 (by omega) (by omega) ⟨rfl, rfl⟩
def jgl (M : MM) (j k : Nat) : MM := jlg (jm (jm M 13 1 (nI ((j + 8) % 9))) 13 2 (nI (k - 1))) (15 + 6 * ((j + 8) % 9)) 1
theorem c_giveLatest {d : Nat} {b : SBt} {Y : OUt} {M : MM} (hb : 104 ≤ b.2.1) {j k : Nat} (hj : j < 9) (hk0 : 0 < k) (hk : k ≤ 8) (hh : M 13 1 = nI j) (h2 : M 13 2 = nI k) (hz : M (15 + 6 * ((j + 8) % 9)) 2 = 0 ∨ M (15 + 6 * ((j + 8) % 9)) 2 = 1) : CM (d + 3) 0 0 yX1_giveLatest cX1_giveLatest 2 none [.ref 13, .ref 1] b Y M (.inl none) (jgl M j k) := by
  have e1 : M 13 1 + 9 - 1 - (M 13 1 + 9 - 1) / 9 * 9 = nI ((j + 8) % 9) := by
    have e0 : M 13 1 + 9 - 1 = nI (j + 8) := by rw [hh, show nI j + 9 = nI (j + 8 + 1) from nI_add j 9]; exact nI_pred (j + 8)
    rw [e0]; exact nI_rem (d := 9) (by omega) (by omega) (by omega)
  have e2 : (if jm M 13 1 (nI ((j + 8) % 9)) 13 2 - 1 < (0 : Int32) then (0 : Int32) else jm M 13 1 (nI ((j + 8) % 9)) 13 2 - 1) = nI (k - 1) := by
    rw [jm_n (by omega), h2, show (nI k - 1 : Int32) = nI (k - 1) from nI_sub (d := 1) (by omega)]
    exact if_neg (nI_pos (by omega))
  refine Con.of (by decide +kernel) (Nat.le_of_ble_eq_true rfl) rfl fun p l e s m args below meth c D tyc A ad0 x hr htab hname => ?_
  change JJ _ _ _ _ _ _ _ _ _ _ _ _ _ _ _ _ _ 0 [some (.ref 13), some (.ref 1)] [] _ 0 0
  refine j_aload_n x dX1_giveLatest_0 rfl ?_
  refine j_aload_n x dX1_giveLatest_1 rfl ?_
  refine j2_geti (k := 1) x hb dX1_giveLatest_2 jc_5 wfX1_25 (by decide) rfl ?_
  refine j_bipush (v := 9) x dX1_giveLatest_5 (by decide) ?_
  refine j_iadd x dX1_giveLatest_7 ?_
  refine j_iconst (v := 1) x dX1_giveLatest_8 (by decide) ?_
  refine j_isub x dX1_giveLatest_9 ?_
  refine j_bipush (v := 9) x dX1_giveLatest_10 (by decide) ?_
  refine j_irem x dX1_giveLatest_12 (by decide) ?_
  rw [e1]; refine j2_puti (k := 1) x hb dX1_giveLatest_13 jc_5 wfX1_25 (by decide) rfl rfl rfl rfl ?_
  refine j_aload_n x dX1_giveLatest_16 rfl ?_
  refine j_aload_n x dX1_giveLatest_17 rfl ?_
  refine j2_geti (k := 2) x hb dX1_giveLatest_18 jc_5 wfX1_36 (by decide) rfl ?_
  refine j_iconst (v := 1) x dX1_giveLatest_21 (by decide) ?_
  refine j_isub x dX1_giveLatest_22 ?_
  refine j_iconst (v := 0) x dX1_giveLatest_23 (by decide) ?_
  refine j_max x wmath dX1_giveLatest_24 wmX1_45 (Nat.le_of_ble_eq_true rfl) (Nat.zero_le _) (Nat.zero_le _) ?_
  rw [e2]; refine j2_puti (k := 2) x hb dX1_giveLatest_27 jc_5 wfX1_36 (by decide) rfl rfl rfl rfl ?_
  refine j_aload_n x dX1_giveLatest_30 rfl ?_
  refine j_aload_n x dX1_giveLatest_31 rfl ?_
  refine j2_callVv x hb dX1_giveLatest_32 m_X1_giveHeld (c_giveHeld (d := d) hb (j := (j + 8) % 9) (Nat.mod_lt _ (by decide)) (by rw [jm_n (by omega), jm_s]) (by rw [jm_n (by omega), jm_n (by omega)]; exact hz)) wmX1_48 jc_5 rfl rfl rfl (Nat.le_of_ble_eq_true rfl) (j_fit_rm (by omega) (by omega) (by omega)) rfl ?_
  exact j_return x hr dX1_giveLatest_35 (by omega) (by omega) ⟨rfl, rfl⟩
theorem c_forget {d : Nat} {b : SBt} {Y : OUt} {M : MM} (hb : 104 ≤ b.2.1)  : CM (d) 0 0 yX1_forget cX1_forget 1 none [.ref 13] b Y M (.inl none) (jm M 13 2 0) := by
  refine Con.of (by decide +kernel) (Nat.le_of_ble_eq_true rfl) rfl fun p l e s m args below meth c D tyc A ad0 x hr htab hname => ?_
  change JJ _ _ _ _ _ _ _ _ _ _ _ _ _ _ _ _ _ 0 [some (.ref 13)] [] _ 0 0
  refine j_aload_n x dX1_forget_0 rfl ?_
  refine j_iconst (v := 0) x dX1_forget_1 (by decide) ?_
  refine j2_puti (k := 2) x hb dX1_forget_2 jc_5 wfX1_36 (by decide) rfl rfl rfl rfl ?_
  exact j_return x hr dX1_forget_5 (by omega) (by omega) ⟨rfl, rfl⟩
theorem c_result_no {d : Nat} {b : SBt} {Y : OUt} {M : MM} (hb : 104 ≤ b.2.1) {t u v : Int32} {r z : Int32} (h : rRes M t u v = some (r, z)) : CM (d + 4) 1 6 yX5_result cX5_result 4 (some .int) [.ref 0, .int t, .int u, .int v] b Y M (.inr "java/lang/UnsupportedOperationException") (jref M r z) := by
  refine Con.of (by decide +kernel) (Nat.le_of_ble_eq_true rfl) rfl fun p l e s m args below meth c D tyc A ad0 x hr htab hname => ?_
  change JJ _ _ _ _ _ _ _ _ _ _ _ _ _ _ _ _ _ 0 [some (.ref 0), some (.int t), some (.int u), some (.int v)] [] _ 0 0
  refine j_aload_n x dX5_result_0 rfl ?_
  refine j_iload_n x dX5_result_1 rfl ?_
  refine j_iload_n x dX5_result_2 rfl ?_
  refine j_iload_n x dX5_result_3 rfl ?_
  refine j2_callVi x hb dX5_result_4 m_X5_isResultRefused (CM_s (c_isResultRefused (d := d) hb) h) wmX5_138 jc_9 rfl rfl rfl (Nat.le_of_ble_eq_true rfl) (j_fit_rm (by omega) (by omega) (by omega)) rfl ?_
  refine j_if_eq (tgt := 20) x dX5_result_7 (by decide) (fun hc => absurd hc (by decide)) (fun hc => ?_)
  exact j_throwS x exX5_66 wsX5_141 dX5_result_10 dX5_result_13 dX5_result_14 dX5_result_16 dX5_result_19 htab (by omega) (by omega) ⟨rfl, rfl⟩
theorem c_back_no {d : Nat} {b : SBt} {Y : OUt} {M : MM} (hb : 104 ≤ b.2.1) {t : Int32} {r z : Int32} (h : rBack M t = some (r, z)) : CM (d + 4) 1 6 yX5_back cX5_back 2 (some .int) [.ref 0, .int t] b Y M (.inr "java/lang/UnsupportedOperationException") (jref M r z) := by
  refine Con.of (by decide +kernel) (Nat.le_of_ble_eq_true rfl) rfl fun p l e s m args below meth c D tyc A ad0 x hr htab hname => ?_
  change JJ _ _ _ _ _ _ _ _ _ _ _ _ _ _ _ _ _ 0 [some (.ref 0), some (.int t)] [] _ 0 0
  refine j_aload_n x dX5_back_0 rfl ?_
  refine j_iload_n x dX5_back_1 rfl ?_
  refine j2_callVi x hb dX5_back_2 m_X5_isBackRefused (CM_s (c_isBackRefused (d := d) hb) h) wmX5_150 jc_9 rfl rfl rfl (Nat.le_of_ble_eq_true rfl) (j_fit_rm (by omega) (by omega) (by omega)) rfl ?_
  refine j_if_eq (tgt := 18) x dX5_back_5 (by decide) (fun hc => absurd hc (by decide)) (fun hc => ?_)
  exact j_throwS x exX5_66 wsX5_153 dX5_back_8 dX5_back_11 dX5_back_12 dX5_back_14 dX5_back_17 htab (by omega) (by omega) ⟨rfl, rfl⟩
theorem c_putOff_no {d : Nat} {b : SBt} {Y : OUt} {M : MM} (hb : 104 ≤ b.2.1) {t u : Int32} {r z : Int32} (h : rPut M t u = some (r, z)) : CM (d + 4) 1 6 yX5_putOff cX5_putOff 4 (some .int) [.ref 0, .int t, .int u] b Y M (.inr "java/lang/UnsupportedOperationException") (jref M r z) := by
  refine Con.of (by decide +kernel) (Nat.le_of_ble_eq_true rfl) rfl fun p l e s m args below meth c D tyc A ad0 x hr htab hname => ?_
  change JJ _ _ _ _ _ _ _ _ _ _ _ _ _ _ _ _ _ 0 [some (.ref 0), some (.int t), some (.int u), none] [] _ 0 0
  refine j_aload_n x dX5_putOff_0 rfl ?_
  refine j_iload_n x dX5_putOff_1 rfl ?_
  refine j_iload_n x dX5_putOff_2 rfl ?_
  refine j2_callVi x hb dX5_putOff_3 m_X5_isPutOffRefused (CM_s (c_isPutOffRefused (d := d) hb) h) wmX5_155 jc_9 rfl rfl rfl (Nat.le_of_ble_eq_true rfl) (j_fit_rm (by omega) (by omega) (by omega)) rfl ?_
  refine j_if_eq (tgt := 19) x dX5_putOff_6 (by decide) (fun hc => absurd hc (by decide)) (fun hc => ?_)
  exact j_throwS x exX5_66 wsX5_158 dX5_putOff_9 dX5_putOff_12 dX5_putOff_13 dX5_putOff_15 dX5_putOff_18 htab (by omega) (by omega) ⟨rfl, rfl⟩
theorem c_next_no {d : Nat} {b : SBt} {Y : OUt} {M : MM} (hb : 104 ≤ b.2.1) {n : Nat} (hn : n ≤ 56) (hm : jmc M = nI n) {r z : Int32} (h : rNext M n = some (r, z)) : CM (d + 4) 1 6 yX5_next cX5_next 1 (some .int) [.ref 0] b Y M (.inr "java/lang/UnsupportedOperationException") (jref M r z) := by
  refine Con.of (by decide +kernel) (Nat.le_of_ble_eq_true rfl) rfl fun p l e s m args below meth c D tyc A ad0 x hr htab hname => ?_
  change JJ _ _ _ _ _ _ _ _ _ _ _ _ _ _ _ _ _ 0 [some (.ref 0)] [] _ 0 0
  refine j_aload_n x dX5_next_0 rfl ?_
  refine j2_callVi x hb dX5_next_1 m_X5_isNextRefused (CM_s (c_isNextRefused (d := d) hb hn hm) h) wmX5_169 jc_9 rfl rfl rfl (Nat.le_of_ble_eq_true rfl) (j_fit_rm (by omega) (by omega) (by omega)) rfl ?_
  refine j_if_eq (tgt := 17) x dX5_next_4 (by decide) (fun hc => absurd hc (by decide)) (fun hc => ?_)
  exact j_throwS x exX5_66 wsX5_172 dX5_next_7 dX5_next_10 dX5_next_11 dX5_next_13 dX5_next_16 htab (by omega) (by omega) ⟨rfl, rfl⟩
theorem c_give_no {d : Nat} {b : SBt} {Y : OUt} {M : MM} (hb : 104 ≤ b.2.1) {t u : Int32} {n : Nat} (hn : n ≤ 56) (hm : jmc M = nI n) (hx : ¬ (t < 1 ∨ 5 < t ∨ u < 0 ∨ ¬ u ≤ 3)) (h3 : ¬ jcount M n 75 0 ≤ 0) : CM (d + 6) 1 6 yX5_give cX5_give 4 (some .int) [.ref 0, .int t, .int u] b Y M (.inr "java/lang/UnsupportedOperationException") (jref (jcount M n) 12 (jcount M n 75 0)) := by
  refine Con.of (by decide +kernel) (Nat.le_of_ble_eq_true rfl) rfl fun p l e s m args below meth c D tyc A ad0 x hr htab hname => ?_
  change JJ _ _ _ _ _ _ _ _ _ _ _ _ _ _ _ _ _ 0 [some (.ref 0), some (.int t), some (.int u), none] [] _ 0 0
  refine j_aload_n x dX5_give_0 rfl ?_
  refine j_iload_n x dX5_give_1 rfl ?_
  refine j_iload_n x dX5_give_2 rfl ?_
  refine j2_callVi x hb dX5_give_3 m_X5_isGiveRefused (c_isGiveRefused_s (d := d) hb hn hm hx h3) wmX5_114 jc_9 rfl rfl rfl (Nat.le_of_ble_eq_true rfl) (j_fit_rm (by omega) (by omega) (by omega)) rfl ?_
  refine j_if_eq (tgt := 19) x dX5_give_6 (by decide) (fun hc => absurd hc (by decide)) (fun hc => ?_)
  exact j_throwS x exX5_66 wsX5_117 dX5_give_9 dX5_give_12 dX5_give_13 dX5_give_15 dX5_give_18 htab (by omega) (by omega) ⟨rfl, rfl⟩
def jresult (M : MM) (j k : Nat) (t u v : Int32) : MM := jsetg (jkeep M j k) 1 t u v
theorem c_result_ok {d : Nat} {b : SBt} {Y : OUt} {M : MM} (hb : 104 ≤ b.2.1) {t u v : Int32} (h : rRes M t u v = none) {n : Nat} (hn : n ≤ 56) (hm : jmc M = nI n) {j k : Nat} (hj : j < 9) (hk : k ≤ 8) (hh : M 13 1 = nI j) (h2 : M 13 2 = nI k) (hz : M 1 2 = 0 ∨ M 1 2 = 1) : CM (d + 6) 1 6 yX5_result cX5_result 4 (some .int) [.ref 0, .int t, .int u, .int v] b Y M (.inl (some (.int (jsum (fNow (jresult M j k t u v)) n)))) (jresult M j k t u v) := by
  refine Con.of (by decide +kernel) (Nat.le_of_ble_eq_true rfl) rfl fun p l e s m args below meth c D tyc A ad0 x hr htab hname => ?_
  change JJ _ _ _ _ _ _ _ _ _ _ _ _ _ _ _ _ _ 0 [some (.ref 0), some (.int t), some (.int u), some (.int v)] [] _ 0 0
  refine j_aload_n x dX5_result_0 rfl ?_
  refine j_iload_n x dX5_result_1 rfl ?_
  refine j_iload_n x dX5_result_2 rfl ?_
  refine j_iload_n x dX5_result_3 rfl ?_
  refine j2_callVi x hb dX5_result_4 m_X5_isResultRefused (CM_n (c_isResultRefused (d := d + 2) hb) h) wmX5_138 jc_9 rfl rfl rfl (Nat.le_of_ble_eq_true rfl) (j_fit_rm (by omega) (by omega) (by omega)) rfl ?_
  refine j_if_eq (tgt := 20) x dX5_result_7 (by decide) (fun hc => ?_) (fun hc => absurd (rfl) hc)
  refine j_aload_n x dX5_result_20 rfl ?_
  refine j2_getr (k := 3) (r := 13) x hb dX5_result_21 jc_9 wfX5_22 (by decide) rfl ?_
  refine j_aload_n x dX5_result_24 rfl ?_
  refine j2_getr (k := 0) (r := 1) x hb dX5_result_25 jc_9 wfX5_10 (by decide) rfl ?_
  refine j2_callVv x hb dX5_result_28 m_X1_keep (c_keep (d := d) hb hj hk hh h2 hz) wmX5_73 jc_5 rfl rfl rfl (Nat.le_of_ble_eq_true rfl) (j_fit_rm (by omega) (by omega) (by omega)) rfl ?_
  refine j_aload_n x dX5_result_31 rfl ?_
  refine j2_getr (k := 0) (r := 1) x hb dX5_result_32 jc_9 wfX5_10 (by decide) rfl ?_
  refine j_iload_n x dX5_result_35 rfl ?_
  refine j_iload_n x dX5_result_36 rfl ?_
  refine j_iload_n x dX5_result_37 rfl ?_
  refine j2_callVv x hb dX5_result_38 m_X2_setGoals (c_setGoals (d := d) (a := 1) hb rfl) wmX5_143 jc_6 rfl rfl rfl (Nat.le_of_ble_eq_true rfl) (j_fit_rm (by omega) (by omega) (by omega)) rfl ?_
  refine j_aload_n x dX5_result_41 rfl ?_
  refine j2_callVi x hb dX5_result_42 m_X5_notPlayedNow (c_notPlayedNow (d := d) hb hn (by rw [jmc_c (M := M) (by rw [jsetg_n (by omega) (by omega), jkeep_n hj (by omega)]) (by rw [jsetg_n (by omega) (by omega), jkeep_n hj (by omega)])]; exact hm)) wmX5_146 jc_9 rfl rfl rfl (Nat.le_of_ble_eq_true rfl) (j_fit_rm (by omega) (by omega) (by omega)) rfl ?_
  exact j_ireturn x hr dX5_result_45 (by omega) (by omega) ⟨rfl, rfl⟩
theorem c_back_ok {d : Nat} {b : SBt} {Y : OUt} {M : MM} (hb : 104 ≤ b.2.1) {t : Int32} (h : rBack M t = none) {n : Nat} (hn : n ≤ 56) (hm : jmc M = nI n) {j k : Nat} (hj : j < 9) (hk : k ≤ 8) (hh : M 13 1 = nI j) (h2 : M 13 2 = nI k) (hz : M 1 2 = 0 ∨ M 1 2 = 1) : CM (d + 6) 1 6 yX5_back cX5_back 2 (some .int) [.ref 0, .int t] b Y M (.inl (some (.int (jsum (fNow (jresult M j k t (-1) (-1))) n)))) (jresult M j k t (-1) (-1)) := by
  refine Con.of (by decide +kernel) (Nat.le_of_ble_eq_true rfl) rfl fun p l e s m args below meth c D tyc A ad0 x hr htab hname => ?_
  change JJ _ _ _ _ _ _ _ _ _ _ _ _ _ _ _ _ _ 0 [some (.ref 0), some (.int t)] [] _ 0 0
  refine j_aload_n x dX5_back_0 rfl ?_
  refine j_iload_n x dX5_back_1 rfl ?_
  refine j2_callVi x hb dX5_back_2 m_X5_isBackRefused (CM_n (c_isBackRefused (d := d + 2) hb) h) wmX5_150 jc_9 rfl rfl rfl (Nat.le_of_ble_eq_true rfl) (j_fit_rm (by omega) (by omega) (by omega)) rfl ?_
  refine j_if_eq (tgt := 18) x dX5_back_5 (by decide) (fun hc => ?_) (fun hc => absurd (rfl) hc)
  refine j_aload_n x dX5_back_18 rfl ?_
  refine j2_getr (k := 3) (r := 13) x hb dX5_back_19 jc_9 wfX5_22 (by decide) rfl ?_
  refine j_aload_n x dX5_back_22 rfl ?_
  refine j2_getr (k := 0) (r := 1) x hb dX5_back_23 jc_9 wfX5_10 (by decide) rfl ?_
  refine j2_callVv x hb dX5_back_26 m_X1_keep (c_keep (d := d) hb hj hk hh h2 hz) wmX5_73 jc_5 rfl rfl rfl (Nat.le_of_ble_eq_true rfl) (j_fit_rm (by omega) (by omega) (by omega)) rfl ?_
  refine j_aload_n x dX5_back_29 rfl ?_
  refine j2_getr (k := 0) (r := 1) x hb dX5_back_30 jc_9 wfX5_10 (by decide) rfl ?_
  refine j_iload_n x dX5_back_33 rfl ?_
  refine j_iconst (v := (-1)) x dX5_back_34 (by decide) ?_
  refine j_iconst (v := (-1)) x dX5_back_35 (by decide) ?_
  refine j2_callVv x hb dX5_back_36 m_X2_setGoals (c_setGoals (d := d) (a := 1) hb rfl) wmX5_143 jc_6 rfl rfl rfl (Nat.le_of_ble_eq_true rfl) (j_fit_rm (by omega) (by omega) (by omega)) rfl ?_
  refine j_aload_n x dX5_back_39 rfl ?_
  refine j2_callVi x hb dX5_back_40 m_X5_notPlayedNow (c_notPlayedNow (d := d) hb hn (by rw [jmc_c (M := M) (by rw [jsetg_n (by omega) (by omega), jkeep_n hj (by omega)]) (by rw [jsetg_n (by omega) (by omega), jkeep_n hj (by omega)])]; exact hm)) wmX5_146 jc_9 rfl rfl rfl (Nat.le_of_ble_eq_true rfl) (j_fit_rm (by omega) (by omega) (by omega)) rfl ?_
  exact j_ireturn x hr dX5_back_43 (by omega) (by omega) ⟨rfl, rfl⟩
def jputoff (M : MM) (j k : Nat) (t u : Int32) : MM := jput 56 (jkeep M j k) 4 t (jkeep M j k 1 3 + u)
theorem c_putOff_ok {d : Nat} {b : SBt} {Y : OUt} {M : MM} (hb : 104 ≤ b.2.1) {t u : Int32} (h : rPut M t u = none) {n : Nat} (hn : n ≤ 56) (hm : jmc M = nI n) {j k : Nat} (hj : j < 9) (hk : k ≤ 8) (hh : M 13 1 = nI j) (h2 : M 13 2 = nI k) (hz : M 1 2 = 0 ∨ M 1 2 = 1) : CM (d + 6) 1 6 yX5_putOff cX5_putOff 4 (some .int) [.ref 0, .int t, .int u] b Y M (.inl (some (.int (jsum (fCl (jputoff M j k t u) t (jkeep M j k 1 3 + u)) n)))) (jputoff M j k t u) := by
  refine Con.of (by decide +kernel) (Nat.le_of_ble_eq_true rfl) rfl fun p l e s m args below meth c D tyc A ad0 x hr htab hname => ?_
  change JJ _ _ _ _ _ _ _ _ _ _ _ _ _ _ _ _ _ 0 [some (.ref 0), some (.int t), some (.int u), none] [] _ 0 0
  refine j_aload_n x dX5_putOff_0 rfl ?_
  refine j_iload_n x dX5_putOff_1 rfl ?_
  refine j_iload_n x dX5_putOff_2 rfl ?_
  refine j2_callVi x hb dX5_putOff_3 m_X5_isPutOffRefused (CM_n (c_isPutOffRefused (d := d + 2) hb) h) wmX5_155 jc_9 rfl rfl rfl (Nat.le_of_ble_eq_true rfl) (j_fit_rm (by omega) (by omega) (by omega)) rfl ?_
  refine j_if_eq (tgt := 19) x dX5_putOff_6 (by decide) (fun hc => ?_) (fun hc => absurd (rfl) hc)
  refine j_aload_n x dX5_putOff_19 rfl ?_
  refine j2_getr (k := 3) (r := 13) x hb dX5_putOff_20 jc_9 wfX5_22 (by decide) rfl ?_
  refine j_aload_n x dX5_putOff_23 rfl ?_
  refine j2_getr (k := 0) (r := 1) x hb dX5_putOff_24 jc_9 wfX5_10 (by decide) rfl ?_
  refine j2_callVv x hb dX5_putOff_27 m_X1_keep (c_keep (d := d) hb hj hk hh h2 hz) wmX5_73 jc_5 rfl rfl rfl (Nat.le_of_ble_eq_true rfl) (j_fit_rm (by omega) (by omega) (by omega)) rfl ?_
  refine j_aload_n x dX5_putOff_30 rfl ?_
  refine j2_getr (k := 0) (r := 1) x hb dX5_putOff_31 jc_9 wfX5_10 (by decide) rfl ?_
  refine j2_geti (k := 3) x hb dX5_putOff_34 jc_6 wfX5_160 (by decide) rfl ?_
  refine j_iload_n x dX5_putOff_37 rfl ?_
  refine j_iadd x dX5_putOff_38 ?_
  refine j_istore_n x dX5_putOff_39 (by decide) rfl ?_
  refine j_aload_n x dX5_putOff_40 rfl ?_
  refine j2_getr (k := 0) (r := 1) x hb dX5_putOff_41 jc_9 wfX5_10 (by decide) rfl ?_
  refine j2_getr (k := 8) (r := 4) x hb dX5_putOff_44 jc_6 wfX5_163 (by decide) rfl ?_
  refine j_iload_n x dX5_putOff_47 rfl ?_
  refine j_iload_n x dX5_putOff_48 rfl ?_
  refine j2_callSv x hb dX5_putOff_49 m_X5_put (c_put (d := d) hb fa_4 (by decide)) wmX5_83 rfl (Nat.le_of_ble_eq_true rfl) (j_fit_rm (by omega) (by omega) (by omega)) rfl ?_
  refine j_aload_n x dX5_putOff_52 rfl ?_
  refine j_iload_n x dX5_putOff_53 rfl ?_
  refine j_iload_n x dX5_putOff_54 rfl ?_
  refine j2_callVi x hb dX5_putOff_55 m_X5_clashesOf (c_clashesOf (d := d) hb hn (by rw [jmc_c (M := M) (by rw [m_put (by omega), jkeep_n hj (by omega)]) (by rw [m_put (by omega), jkeep_n hj (by omega)])]; exact hm)) wmX5_165 jc_9 rfl rfl rfl (Nat.le_of_ble_eq_true rfl) (j_fit_rm (by omega) (by omega) (by omega)) rfl ?_
  exact j_ireturn x hr dX5_putOff_58 (by omega) (by omega) ⟨rfl, rfl⟩
def jnext (M : MM) (j k : Nat) : MM := jm (jkeep M j k) 1 3 (jkeep M j k 1 3 + 1)
theorem c_next_ok {d : Nat} {b : SBt} {Y : OUt} {M : MM} (hb : 104 ≤ b.2.1) {n : Nat} (hn : n ≤ 56) (hm : jmc M = nI n) (h : rNext M n = none) {j k : Nat} (hj : j < 9) (hk : k ≤ 8) (hh : M 13 1 = nI j) (h2 : M 13 2 = nI k) (hz : M 1 2 = 0 ∨ M 1 2 = 1) : CM (d + 6) 1 6 yX5_next cX5_next 1 (some .int) [.ref 0] b Y M (.inl (some (.int (jnext M j k 1 3)))) (jnext M j k) := by
  refine Con.of (by decide +kernel) (Nat.le_of_ble_eq_true rfl) rfl fun p l e s m args below meth c D tyc A ad0 x hr htab hname => ?_
  change JJ _ _ _ _ _ _ _ _ _ _ _ _ _ _ _ _ _ 0 [some (.ref 0)] [] _ 0 0
  refine j_aload_n x dX5_next_0 rfl ?_
  refine j2_callVi x hb dX5_next_1 m_X5_isNextRefused (CM_n (c_isNextRefused (d := d + 2) hb hn hm) h) wmX5_169 jc_9 rfl rfl rfl (Nat.le_of_ble_eq_true rfl) (j_fit_rm (by omega) (by omega) (by omega)) rfl ?_
  refine j_if_eq (tgt := 17) x dX5_next_4 (by decide) (fun hc => ?_) (fun hc => absurd (rfl) hc)
  refine j_aload_n x dX5_next_17 rfl ?_
  refine j2_getr (k := 3) (r := 13) x hb dX5_next_18 jc_9 wfX5_22 (by decide) rfl ?_
  refine j_aload_n x dX5_next_21 rfl ?_
  refine j2_getr (k := 0) (r := 1) x hb dX5_next_22 jc_9 wfX5_10 (by decide) rfl ?_
  refine j2_callVv x hb dX5_next_25 m_X1_keep (c_keep (d := d) hb hj hk hh h2 hz) wmX5_73 jc_5 rfl rfl rfl (Nat.le_of_ble_eq_true rfl) (j_fit_rm (by omega) (by omega) (by omega)) rfl ?_
  refine j_aload_n x dX5_next_28 rfl ?_
  refine j2_getr (k := 0) (r := 1) x hb dX5_next_29 jc_9 wfX5_10 (by decide) rfl ?_
  refine j_dup x dX5_next_32 rfl ?_
  refine j2_geti (k := 3) x hb dX5_next_33 jc_6 wfX5_160 (by decide) rfl ?_
  refine j_iconst (v := 1) x dX5_next_36 (by decide) ?_
  refine j_iadd x dX5_next_37 ?_
  refine j2_puti (k := 3) x hb dX5_next_38 jc_6 wfX5_160 (by decide) rfl rfl rfl rfl ?_
  refine j_aload_n x dX5_next_41 rfl ?_
  refine j2_getr (k := 0) (r := 1) x hb dX5_next_42 jc_9 wfX5_10 (by decide) rfl ?_
  refine j2_geti (k := 3) x hb dX5_next_45 jc_6 wfX5_160 (by decide) rfl ?_
  exact j_ireturn x hr dX5_next_48 (by omega) (by omega) ⟨rfl, rfl⟩
def jgiven (M : MM) (j k n : Nat) (t u : Int32) : MM := jm (jm (jkeep (jcount M n) j k) 1 4 t) 1 5 u
theorem c_give_ok {d : Nat} {b : SBt} {Y : OUt} {M : MM} (hb : 104 ≤ b.2.1) {t u : Int32} {n : Nat} (hn : n ≤ 56) (hm : jmc M = nI n) (hx : ¬ (t < 1 ∨ 5 < t ∨ u < 0 ∨ ¬ u ≤ 3)) (h3 : jcount M n 75 0 ≤ 0) {j k : Nat} (hj : j < 9) (hk : k ≤ 8) (hh : M 13 1 = nI j) (h2 : M 13 2 = nI k) (hz : M 1 2 = 0 ∨ M 1 2 = 1) : CM (d + 6) 1 6 yX5_give cX5_give 4 (some .int) [.ref 0, .int t, .int u] b Y M (.inl (some (.int (10 * jkeep (jcount M n) j k 1 4 + jkeep (jcount M n) j k 1 5)))) (jgiven M j k n t u) := by
  refine Con.of (by decide +kernel) (Nat.le_of_ble_eq_true rfl) rfl fun p l e s m args below meth c D tyc A ad0 x hr htab hname => ?_
  change JJ _ _ _ _ _ _ _ _ _ _ _ _ _ _ _ _ _ 0 [some (.ref 0), some (.int t), some (.int u), none] [] _ 0 0
  refine j_aload_n x dX5_give_0 rfl ?_
  refine j_iload_n x dX5_give_1 rfl ?_
  refine j_iload_n x dX5_give_2 rfl ?_
  refine j2_callVi x hb dX5_give_3 m_X5_isGiveRefused (c_isGiveRefused_n (d := d) hb hn hm hx h3) wmX5_114 jc_9 rfl rfl rfl (Nat.le_of_ble_eq_true rfl) (j_fit_rm (by omega) (by omega) (by omega)) rfl ?_
  refine j_if_eq (tgt := 19) x dX5_give_6 (by decide) (fun hc => ?_) (fun hc => absurd (rfl) hc)
  refine j_aload_n x dX5_give_19 rfl ?_
  refine j2_getr (k := 3) (r := 13) x hb dX5_give_20 jc_9 wfX5_22 (by decide) rfl ?_
  refine j_aload_n x dX5_give_23 rfl ?_
  refine j2_getr (k := 0) (r := 1) x hb dX5_give_24 jc_9 wfX5_10 (by decide) rfl ?_
  refine j2_callVv x hb dX5_give_27 m_X1_keep (c_keep (d := d) hb hj hk (by rw [jcount_n (by omega)]; exact hh) (by rw [jcount_n (by omega)]; exact h2) (by rw [jcount_n (by omega)]; exact hz)) wmX5_73 jc_5 rfl rfl rfl (Nat.le_of_ble_eq_true rfl) (j_fit_rm (by omega) (by omega) (by omega)) rfl ?_
  refine j_bipush (v := 10) x dX5_give_30 (by decide) ?_
  refine j_aload_n x dX5_give_32 rfl ?_
  refine j2_getr (k := 0) (r := 1) x hb dX5_give_33 jc_9 wfX5_10 (by decide) rfl ?_
  refine j2_geti (k := 4) x hb dX5_give_36 jc_6 wfX5_119 (by decide) rfl ?_
  refine j_imul x dX5_give_39 ?_
  refine j_aload_n x dX5_give_40 rfl ?_
  refine j2_getr (k := 0) (r := 1) x hb dX5_give_41 jc_9 wfX5_10 (by decide) rfl ?_
  refine j2_geti (k := 5) x hb dX5_give_44 jc_6 wfX5_122 (by decide) rfl ?_
  refine j_iadd x dX5_give_47 ?_
  refine j_istore_n x dX5_give_48 (by decide) rfl ?_
  refine j_aload_n x dX5_give_49 rfl ?_
  refine j2_getr (k := 0) (r := 1) x hb dX5_give_50 jc_9 wfX5_10 (by decide) rfl ?_
  refine j_iload_n x dX5_give_53 rfl ?_
  refine j2_puti (k := 4) x hb dX5_give_54 jc_6 wfX5_119 (by decide) rfl rfl rfl rfl ?_
  refine j_aload_n x dX5_give_57 rfl ?_
  refine j2_getr (k := 0) (r := 1) x hb dX5_give_58 jc_9 wfX5_10 (by decide) rfl ?_
  refine j_iload_n x dX5_give_61 rfl ?_
  refine j2_puti (k := 5) x hb dX5_give_62 jc_6 wfX5_122 (by decide) rfl rfl rfl rfl ?_
  refine j_iload_n x dX5_give_65 rfl ?_
  exact j_ireturn x hr dX5_give_66 (by omega) (by omega) ⟨rfl, rfl⟩
def jground (M : MM) (j k : Nat) (t u : Int32) : MM := jput 8 (jkeep M j k) 2 t u
theorem c_ground_ok {d : Nat} {b : SBt} {Y : OUt} {M : MM} (hb : 104 ≤ b.2.1) {t u : Int32} (h : rGround M t u = none) {j k : Nat} (hj : j < 9) (hk : k ≤ 8) (hh : M 13 1 = nI j) (h2 : M 13 2 = nI k) (hz : M 1 2 = 0 ∨ M 1 2 = 1) : CM (d + 6) 1 6 yX5_ground cX5_ground 4 (some .int) [.ref 0, .int t, .int u] b Y M (.inl (some (.int (jat 8 (jkeep M j k 2) t)))) (jground M j k t u) := by
  refine Con.of (by decide +kernel) (Nat.le_of_ble_eq_true rfl) rfl fun p l e s m args below meth c D tyc A ad0 x hr htab hname => ?_
  change JJ _ _ _ _ _ _ _ _ _ _ _ _ _ _ _ _ _ 0 [some (.ref 0), some (.int t), some (.int u), none] [] _ 0 0
  refine j_aload_n x dX5_ground_0 rfl ?_
  refine j_iload_n x dX5_ground_1 rfl ?_
  refine j_iload_n x dX5_ground_2 rfl ?_
  refine j2_callVi x hb dX5_ground_3 m_X5_isGroundRefused (CM_n (c_isGroundRefused (d := d + 2) hb) h) wmX5_87 jc_9 rfl rfl rfl (Nat.le_of_ble_eq_true rfl) (j_fit_rm (by omega) (by omega) (by omega)) rfl ?_
  refine j_if_eq (tgt := 19) x dX5_ground_6 (by decide) (fun hc => ?_) (fun hc => absurd (rfl) hc)
  refine j_aload_n x dX5_ground_19 rfl ?_
  refine j2_getr (k := 3) (r := 13) x hb dX5_ground_20 jc_9 wfX5_22 (by decide) rfl ?_
  refine j_aload_n x dX5_ground_23 rfl ?_
  refine j2_getr (k := 0) (r := 1) x hb dX5_ground_24 jc_9 wfX5_10 (by decide) rfl ?_
  refine j2_callVv x hb dX5_ground_27 m_X1_keep (c_keep (d := d) hb hj hk hh h2 hz) wmX5_73 jc_5 rfl rfl rfl (Nat.le_of_ble_eq_true rfl) (j_fit_rm (by omega) (by omega) (by omega)) rfl ?_
  refine j_aload_n x dX5_ground_30 rfl ?_
  refine j2_getr (k := 0) (r := 1) x hb dX5_ground_31 jc_9 wfX5_10 (by decide) rfl ?_
  refine j2_getr (k := 1) (r := 2) x hb dX5_ground_34 jc_6 wfX5_77 (by decide) rfl ?_
  refine j_iload_n x dX5_ground_37 rfl ?_
  refine j2_callSi x hb dX5_ground_38 m_X5_at (c_at (d := d) hb fa_2 (by decide)) wmX5_93 rfl (Nat.le_of_ble_eq_true rfl) (j_fit_rm (by omega) (by omega) (by omega)) rfl ?_
  refine j_istore_n x dX5_ground_41 (by decide) rfl ?_
  refine j_aload_n x dX5_ground_42 rfl ?_
  refine j2_getr (k := 0) (r := 1) x hb dX5_ground_43 jc_9 wfX5_10 (by decide) rfl ?_
  refine j2_getr (k := 1) (r := 2) x hb dX5_ground_46 jc_6 wfX5_77 (by decide) rfl ?_
  refine j_iload_n x dX5_ground_49 rfl ?_
  refine j_iload_n x dX5_ground_50 rfl ?_
  refine j2_callSv x hb dX5_ground_51 m_X5_put (c_put (d := d) hb fa_2 (by decide)) wmX5_83 rfl (Nat.le_of_ble_eq_true rfl) (j_fit_rm (by omega) (by omega) (by omega)) rfl ?_
  refine j_iload_n x dX5_ground_54 rfl ?_
  exact j_ireturn x hr dX5_ground_55 (by omega) (by omega) ⟨rfl, rfl⟩
def jdraw (M : MM) (j k t q : Nat) : MM := jstart (jly t q (jkeep M j k) (2 * q)) 1
theorem jstart_n {M : MM} {i z : Nat} (h : 6 < i ∨ i = 0 ∨ i = 2 ∨ i = 3 ∨ (i = 1 ∧ z ≠ 2 ∧ z ≠ 3)) : jstart M 1 i z = M i z := by
  unfold jstart
  rw [jfill_n (by omega), jfill_n (by omega)]
  unfold jrow
  rw [if_neg (by omega), jm_n (by omega), jm_n (by omega)]
theorem c_draw_ok {d : Nat} {b : SBt} {Y : OUt} {M : MM} (hb : 104 ≤ b.2.1) {t q : Nat} (h : rDraw M = none) (h1 : M 1 0 = nI t) (hl : (t % 2 = 0 ∧ q + 1 = t) ∨ (t % 2 = 1 ∧ q = t)) (hq0 : 1 ≤ q) (ht : t ≤ 8) {j k : Nat} (hj : j < 9) (hk : k ≤ 8) (hh : M 13 1 = nI j) (h2 : M 13 2 = nI k) (hz : M 1 2 = 0 ∨ M 1 2 = 1) : CM (d + 6) 1 6 yX5_draw cX5_draw 1 (some .int) [.ref 0] b Y M (.inl (some (.int (nI (2 * q))))) (jdraw M j k t q) := by
  refine Con.of (by decide +kernel) (Nat.le_of_ble_eq_true rfl) rfl fun p l e s m args below meth c D tyc A ad0 x hr htab hname => ?_
  change JJ _ _ _ _ _ _ _ _ _ _ _ _ _ _ _ _ _ 0 [some (.ref 0)] [] _ 0 0
  refine j_aload_n x dX5_draw_0 rfl ?_
  refine j2_callVi x hb dX5_draw_1 m_X5_isDrawRefused (CM_n (c_isDrawRefused (d := d + 2) hb) h) wmX5_97 jc_9 rfl rfl rfl (Nat.le_of_ble_eq_true rfl) (j_fit_rm (by omega) (by omega) (by omega)) rfl ?_
  refine j_if_eq (tgt := 17) x dX5_draw_4 (by decide) (fun hc => ?_) (fun hc => absurd (rfl) hc)
  refine j_aload_n x dX5_draw_17 rfl ?_
  refine j2_getr (k := 3) (r := 13) x hb dX5_draw_18 jc_9 wfX5_22 (by decide) rfl ?_
  refine j_aload_n x dX5_draw_21 rfl ?_
  refine j2_getr (k := 0) (r := 1) x hb dX5_draw_22 jc_9 wfX5_10 (by decide) rfl ?_
  refine j2_callVv x hb dX5_draw_25 m_X1_keep (c_keep (d := d) hb hj hk hh h2 hz) wmX5_73 jc_5 rfl rfl rfl (Nat.le_of_ble_eq_true rfl) (j_fit_rm (by omega) (by omega) (by omega)) rfl ?_
  refine j_aload_n x dX5_draw_28 rfl ?_
  refine j2_getr (k := 4) (r := 69) x hb dX5_draw_29 jc_9 wfX5_29 (by decide) rfl ?_
  refine j_aload_n x dX5_draw_32 rfl ?_
  refine j2_getr (k := 0) (r := 1) x hb dX5_draw_33 jc_9 wfX5_10 (by decide) rfl ?_
  refine j2_geti (k := 0) x hb dX5_draw_36 jc_6 wfX5_80 (by decide) rfl ?_
  rw [jkeep_n hj (by omega), h1]; refine j2_callVv x hb dX5_draw_39 m_X0_lay (c_lay (d := d) hb hl hq0 ht) wmX5_103 jc_4 rfl rfl rfl (Nat.le_of_ble_eq_true rfl) (j_fit_rm (by omega) (by omega) (by omega)) rfl ?_
  refine j_aload_n x dX5_draw_42 rfl ?_
  refine j2_getr (k := 0) (r := 1) x hb dX5_draw_43 jc_9 wfX5_10 (by decide) rfl ?_
  refine j_aload_n x dX5_draw_46 rfl ?_
  refine j2_getr (k := 4) (r := 69) x hb dX5_draw_47 jc_9 wfX5_29 (by decide) rfl ?_
  refine j2_callVv x hb dX5_draw_50 m_X2_start (c_start (d := d) (a := 1) hb rfl) wmX5_107 jc_6 rfl rfl rfl (Nat.le_of_ble_eq_true rfl) (j_fit_rm (by omega) (by omega) (by omega)) rfl ?_
  refine j_aload_n x dX5_draw_53 rfl ?_
  refine j2_getr (k := 4) (r := 69) x hb dX5_draw_54 jc_9 wfX5_29 (by decide) rfl ?_
  refine j2_geti (k := 0) x hb dX5_draw_57 jc_4 wfX5_111 (by decide) rfl ?_
  exact j_ireturn x hr dX5_draw_60 (by omega) (by omega) ⟨by rw [jstart_n (by omega), jly_w], rfl⟩
theorem c_undo_ok {d : Nat} {b : SBt} {Y : OUt} {M : MM} (hb : 104 ≤ b.2.1) {j k : Nat} (hj : j < 9) (hk0 : 0 < k) (hk : k ≤ 8) (hh : M 13 1 = nI j) (h2 : M 13 2 = nI k) (hz : M (15 + 6 * ((j + 8) % 9)) 2 = 0 ∨ M (15 + 6 * ((j + 8) % 9)) 2 = 1) : CM (d + 4) 1 6 yX5_undo cX5_undo 1 (some .int) [.ref 0] b Y M (.inl (some (.int (nI (k - 1))))) (jgl M j k) := by
  refine Con.of (by decide +kernel) (Nat.le_of_ble_eq_true rfl) rfl fun p l e s m args below meth c D tyc A ad0 x hr htab hname => ?_
  change JJ _ _ _ _ _ _ _ _ _ _ _ _ _ _ _ _ _ 0 [some (.ref 0)] [] _ 0 0
  refine j_aload_n x dX5_undo_0 rfl ?_
  refine j2_getr (k := 3) (r := 13) x hb dX5_undo_1 jc_9 wfX5_22 (by decide) rfl ?_
  refine j2_geti (k := 2) x hb dX5_undo_4 jc_5 wfX5_404 (by decide) rfl ?_
  refine j_if_ne (tgt := 21) x dX5_undo_7 (by decide) (fun hc => ?_) (fun hc => absurd hc (by rw [h2]; exact nI_ne0 hk0 (by omega)))
  refine j_aload_n x dX5_undo_21 rfl ?_
  refine j2_getr (k := 3) (r := 13) x hb dX5_undo_22 jc_9 wfX5_22 (by decide) rfl ?_
  refine j_aload_n x dX5_undo_25 rfl ?_
  refine j2_getr (k := 0) (r := 1) x hb dX5_undo_26 jc_9 wfX5_10 (by decide) rfl ?_
  refine j2_callVv x hb dX5_undo_29 m_X1_giveLatest (c_giveLatest (d := d) hb hj hk0 hk hh h2 hz) wmX5_409 jc_5 rfl rfl rfl (Nat.le_of_ble_eq_true rfl) (j_fit_rm (by omega) (by omega) (by omega)) rfl ?_
  refine j_aload_n x dX5_undo_32 rfl ?_
  refine j2_getr (k := 3) (r := 13) x hb dX5_undo_33 jc_9 wfX5_22 (by decide) rfl ?_
  refine j2_geti (k := 2) x hb dX5_undo_36 jc_5 wfX5_404 (by decide) rfl ?_
  exact j_ireturn x hr dX5_undo_39 (by omega) (by omega) ⟨by unfold jgl; rw [jlg_n (by omega), jm_s], rfl⟩
def jres1 (M : MM) : MM := jm (jlg M 7 1) 13 2 0
theorem jres1_at {M : MM} {z : Nat} (h : z = 0 ∨ z = 2 ∨ z = 3 ∨ z = 4 ∨ z = 5 ∨ z = 6) : jres1 M 1 z = M 7 z := by
  unfold jres1
  rw [jm_n (by omega)]
  unfold jlg
  rw [if_pos ⟨rfl, h⟩]
theorem c_restore_un {d : Nat} {b : SBt} {Y : OUt} {M : MM} (hb : 104 ≤ b.2.1) (hs : ¬ M 0 2 = 0) (hz : M 7 2 = 0 ∨ M 7 2 = 1) (h0 : M 7 2 = 0) : CM (d + 4) 1 6 yX5_restore cX5_restore 1 (some .int) [.ref 0] b Y M (.inl (some (.int (M 7 0)))) (jres1 M) := by
  refine Con.of (by decide +kernel) (Nat.le_of_ble_eq_true rfl) rfl fun p l e s m args below meth c D tyc A ad0 x hr htab hname => ?_
  change JJ _ _ _ _ _ _ _ _ _ _ _ _ _ _ _ _ _ 0 [some (.ref 0)] [] _ 0 0
  refine j_aload_n x dX5_restore_0 rfl ?_
  refine j2_geti (k := 2) x hb dX5_restore_1 jc_9 wfX5_415 (by decide) rfl ?_
  refine j_if_ne (tgt := 18) x dX5_restore_4 (by decide) (fun hc => ?_) (fun hc => absurd hc (hs))
  refine j_aload_n x dX5_restore_18 rfl ?_
  refine j2_getr (k := 0) (r := 1) x hb dX5_restore_19 jc_9 wfX5_10 (by decide) rfl ?_
  refine j_aload_n x dX5_restore_22 rfl ?_
  refine j2_getr (k := 1) (r := 7) x hb dX5_restore_23 jc_9 wfX5_16 (by decide) rfl ?_
  refine j2_callVv x hb dX5_restore_26 m_X2_copyFrom (c_copyFrom (d := d) (a := 7) (g := 1) hb rfl rfl (by decide) hz) wmX5_412 jc_6 rfl rfl rfl (Nat.le_of_ble_eq_true rfl) (j_fit_rm (by omega) (by omega) (by omega)) rfl ?_
  refine j_aload_n x dX5_restore_29 rfl ?_
  refine j2_getr (k := 3) (r := 13) x hb dX5_restore_30 jc_9 wfX5_22 (by decide) rfl ?_
  refine j2_callVv x hb dX5_restore_33 m_X1_forget (c_forget (d := d) hb) wmX5_420 jc_5 rfl rfl rfl (Nat.le_of_ble_eq_true rfl) (j_fit_rm (by omega) (by omega) (by omega)) rfl ?_
  refine j_aload_n x dX5_restore_36 rfl ?_
  refine j2_getr (k := 0) (r := 1) x hb dX5_restore_37 jc_9 wfX5_10 (by decide) rfl ?_
  refine j2_geti (k := 2) x hb dX5_restore_40 jc_6 wfX5_388 (by decide) rfl ?_
  refine j_if_eq (tgt := 60) x dX5_restore_43 (by decide) (fun hc => ?_) (fun hc => absurd (show jres1 M 1 2 = 0 by rw [jres1_at (by omega)]; exact h0) hc)
  refine j_aload_n x dX5_restore_60 rfl ?_
  refine j2_getr (k := 0) (r := 1) x hb dX5_restore_61 jc_9 wfX5_10 (by decide) rfl ?_
  refine j2_geti (k := 0) x hb dX5_restore_64 jc_6 wfX5_80 (by decide) rfl ?_
  exact j_ireturn x hr dX5_restore_67 (by omega) (by omega) ⟨by rw [show jm (jlg M 7 1) 13 2 0 1 0 = M 7 0 from jres1_at (by omega)], rfl⟩
theorem c_restore_dr {d : Nat} {b : SBt} {Y : OUt} {M : MM} (hb : 104 ≤ b.2.1) (hs : ¬ M 0 2 = 0) (hz : M 7 2 = 0 ∨ M 7 2 = 1) (h0 : ¬ M 7 2 = 0) {t q : Nat} (h1 : M 7 0 = nI t) (hl : (t % 2 = 0 ∧ q + 1 = t) ∨ (t % 2 = 1 ∧ q = t)) (hq0 : 1 ≤ q) (ht : t ≤ 8) : CM (d + 4) 1 6 yX5_restore cX5_restore 1 (some .int) [.ref 0] b Y M (.inl (some (.int (nI t)))) (jly t q (jres1 M) (2 * q)) := by
  refine Con.of (by decide +kernel) (Nat.le_of_ble_eq_true rfl) rfl fun p l e s m args below meth c D tyc A ad0 x hr htab hname => ?_
  change JJ _ _ _ _ _ _ _ _ _ _ _ _ _ _ _ _ _ 0 [some (.ref 0)] [] _ 0 0
  refine j_aload_n x dX5_restore_0 rfl ?_
  refine j2_geti (k := 2) x hb dX5_restore_1 jc_9 wfX5_415 (by decide) rfl ?_
  refine j_if_ne (tgt := 18) x dX5_restore_4 (by decide) (fun hc => ?_) (fun hc => absurd hc (hs))
  refine j_aload_n x dX5_restore_18 rfl ?_
  refine j2_getr (k := 0) (r := 1) x hb dX5_restore_19 jc_9 wfX5_10 (by decide) rfl ?_
  refine j_aload_n x dX5_restore_22 rfl ?_
  refine j2_getr (k := 1) (r := 7) x hb dX5_restore_23 jc_9 wfX5_16 (by decide) rfl ?_
  refine j2_callVv x hb dX5_restore_26 m_X2_copyFrom (c_copyFrom (d := d) (a := 7) (g := 1) hb rfl rfl (by decide) hz) wmX5_412 jc_6 rfl rfl rfl (Nat.le_of_ble_eq_true rfl) (j_fit_rm (by omega) (by omega) (by omega)) rfl ?_
  refine j_aload_n x dX5_restore_29 rfl ?_
  refine j2_getr (k := 3) (r := 13) x hb dX5_restore_30 jc_9 wfX5_22 (by decide) rfl ?_
  refine j2_callVv x hb dX5_restore_33 m_X1_forget (c_forget (d := d) hb) wmX5_420 jc_5 rfl rfl rfl (Nat.le_of_ble_eq_true rfl) (j_fit_rm (by omega) (by omega) (by omega)) rfl ?_
  refine j_aload_n x dX5_restore_36 rfl ?_
  refine j2_getr (k := 0) (r := 1) x hb dX5_restore_37 jc_9 wfX5_10 (by decide) rfl ?_
  refine j2_geti (k := 2) x hb dX5_restore_40 jc_6 wfX5_388 (by decide) rfl ?_
  refine j_if_eq (tgt := 60) x dX5_restore_43 (by decide) (fun hc => absurd hc (show ¬ jres1 M 1 2 = 0 by rw [jres1_at (by omega)]; exact h0)) (fun hc => ?_)
  refine j_aload_n x dX5_restore_46 rfl ?_
  refine j2_getr (k := 4) (r := 69) x hb dX5_restore_47 jc_9 wfX5_29 (by decide) rfl ?_
  refine j_aload_n x dX5_restore_50 rfl ?_
  refine j2_getr (k := 0) (r := 1) x hb dX5_restore_51 jc_9 wfX5_10 (by decide) rfl ?_
  refine j2_geti (k := 0) x hb dX5_restore_54 jc_6 wfX5_80 (by decide) rfl ?_
  rw [show jm (jlg M 7 1) 13 2 0 1 0 = nI t from (jres1_at (by omega)).trans h1]; refine j2_callVv x hb dX5_restore_57 m_X0_lay (c_lay (d := d) hb hl hq0 ht) wmX5_103 jc_4 rfl rfl rfl (Nat.le_of_ble_eq_true rfl) (j_fit_rm (by omega) (by omega) (by omega)) rfl ?_
  refine j_aload_n x dX5_restore_60 rfl ?_
  refine j2_getr (k := 0) (r := 1) x hb dX5_restore_61 jc_9 wfX5_10 (by decide) rfl ?_
  refine j2_geti (k := 0) x hb dX5_restore_64 jc_6 wfX5_80 (by decide) rfl ?_
  exact j_ireturn x hr dX5_restore_67 (by omega) (by omega) ⟨by rw [jly_n (by omega), show jm (jlg M 7 1) 13 2 0 1 0 = nI t from (jres1_at (by omega)).trans h1], rfl⟩
end

section
/-! ===== the questions, at any store ===== -/
theorem c_worth {d : Nat} {b : SBt} {Y : OUt} {M : MM} (hb : 104 ≤ b.2.1) {t r : Int32} (h : r = 0 ∨ r = 1 ∨ r = 2 ∨ r = 3 ∨ r = 4) : CM (d + 1) 0 0 yX3_worth cX3_worth 3 (some .int) [.ref 75, .int t, .int r] b Y M (.inl (some (.int (jwo M t r)))) M := by
  rcases h with rfl | rfl | rfl | rfl | rfl
  · exact c_worth_0 hb
  · exact c_worth_1 hb
  · exact c_worth_2 hb
  · exact c_worth_3 hb
  · exact c_worth_4 hb
def jlead (M : MM) (u v : Int32) : Nat → Int32
  | 0 => jat 8 (M 76) u - jat 8 (M 76) v
  | i + 1 => if jlead M u v i = 0 then jwo M u (M 3 i) - jwo M v (M 3 i) else jlead M u v i
theorem jlead_keep {M : MM} {u v : Int32} {i : Nat} (h : ¬ jlead M u v i = 0) : ∀ {r : Nat}, i ≤ r → jlead M u v r = jlead M u v i
  | 0, h1 => by rw [show i = 0 by omega]
  | r + 1, h1 => by
    by_cases hr : i = r + 1
    · rw [hr]
    · have h2 := jlead_keep h (r := r) (by omega)
      rw [jlead, h2, if_neg h]
def jah (M : MM) (r : Nat) (u v : Int32) : Int32 := if jlead M u v r = 0 then jb (¬ v ≤ u) else jb (¬ jlead M u v r ≤ 0)
theorem c_isAhead {d : Nat} {b : SBt} {Y : OUt} {M : MM} (hb : 104 ≤ b.2.1) {u v : Int32} {r : Nat} (hr3 : r ≤ 3) (h6 : M 1 6 = nI r) (hru : ∀ i, i < r → M 3 i = 0 ∨ M 3 i = 1 ∨ M 3 i = 2 ∨ M 3 i = 3 ∨ M 3 i = 4) : CM (d + 2) 0 0 yX5_isAhead cX5_isAhead 6 (some .boolean) [.ref 0, .int u, .int v] b Y M (.inl (some (.int (jah M r u v)))) (M) := by
  refine Con.of (by decide +kernel) (Nat.le_of_ble_eq_true rfl) rfl fun p l e s m args below meth c D tyc A ad0 x hr htab hname => ?_
  change JJ _ _ _ _ _ _ _ _ _ _ _ _ _ _ _ _ _ 0 [some (.ref 0), some (.int u), some (.int v), none, none, none] [] _ 0 0
  refine j_aload_n x dX5_isAhead_0 rfl ?_
  refine j2_getr (k := 5) (r := 75) x hb dX5_isAhead_1 jc_9 wfX5_36 (by decide) rfl ?_
  refine j2_getr (k := 3) (r := 76) x hb dX5_isAhead_4 jc_7 wfX5_190 (by decide) rfl ?_
  refine j_iload_n x dX5_isAhead_7 rfl ?_
  refine j2_callSi x hb dX5_isAhead_8 m_X5_at (c_at (d := d) hb fa_76 (by decide)) wmX5_93 rfl (Nat.le_of_ble_eq_true rfl) (j_fit_rm (by omega) (by omega) (by omega)) rfl ?_
  refine j_aload_n x dX5_isAhead_11 rfl ?_
  refine j2_getr (k := 5) (r := 75) x hb dX5_isAhead_12 jc_9 wfX5_36 (by decide) rfl ?_
  refine j2_getr (k := 3) (r := 76) x hb dX5_isAhead_15 jc_7 wfX5_190 (by decide) rfl ?_
  refine j_iload_n x dX5_isAhead_18 rfl ?_
  refine j2_callSi x hb dX5_isAhead_19 m_X5_at (c_at (d := d) hb fa_76 (by decide)) wmX5_93 rfl (Nat.le_of_ble_eq_true rfl) (j_fit_rm (by omega) (by omega) (by omega)) rfl ?_
  refine j_isub x dX5_isAhead_22 ?_
  refine j_istore_n x dX5_isAhead_23 (by decide) rfl ?_
  refine j_iconst (v := 0) x dX5_isAhead_24 (by decide) ?_
  refine j_istore x dX5_isAhead_25 (by decide) rfl ?_
  refine j_for (r) (fun z0 => [some (.ref 0), some (.int u), some (.int v), some (.int (jlead M u v z0)), some (.int (nI z0)), none]) (fun z0 => M) (fun z0 => True) (rfl) (rfl) (trivial) (fun j hj hP ih => ?_) (fun hP => ?_)
  · refine j_iload x dX5_isAhead_27 rfl ?_
    refine j_aload_n x dX5_isAhead_29 rfl ?_
    refine j2_getr (k := 0) (r := 1) x hb dX5_isAhead_30 jc_9 wfX5_10 (by decide) rfl ?_
    refine j2_geti (k := 6) x hb dX5_isAhead_33 jc_6 wfX5_135 (by decide) rfl ?_; rw [h6]
    refine j_icmp_ge (tgt := 85) x dX5_isAhead_36 (by decide) (fun hc => absurd hc (nI_ge hj (by omega))) (fun hc => ?_)
    refine j_iload_n x dX5_isAhead_39 rfl ?_
    refine j_if_ne (tgt := 85) x dX5_isAhead_40 (by decide) (fun h1 => ?_) (fun h1 => ?_)
    · refine j_iload_n x dX5_isAhead_85 rfl ?_
      refine j_if_eq (tgt := 101) x dX5_isAhead_86 (by decide) (fun g0 => ?_) (fun g0 => ?_)
      · refine j_iload_n x dX5_isAhead_101 rfl ?_
        refine j_iload_n x dX5_isAhead_102 rfl ?_
        refine j_b_icmp_ge (T := 110) (E := 111) x dX5_isAhead_103 (by decide) dX5_isAhead_106 dX5_isAhead_107 (by decide) dX5_isAhead_110 (by decide) ?_
        exact j_zreturn x hr dX5_isAhead_111 (by first | decide | with_reducible exact jb_nar | with_reducible exact jisS_nar | with_reducible exact gno_nar) (by omega) (by omega) ⟨by rw [jah, jlead_keep h1 (Nat.le_of_lt hj), if_pos g0], rfl⟩
      · refine j_iload_n x dX5_isAhead_89 rfl ?_
        refine j_if_le (tgt := 97) x dX5_isAhead_90 (by decide) (fun g1 => ?_) (fun g1 => ?_)
        · refine j_iconst (v := 0) x dX5_isAhead_97 (by decide) ?_
          refine j_goto (tgt := 111) x dX5_isAhead_98 (by decide) ?_
          exact j_zreturn x hr dX5_isAhead_111 (by first | decide | with_reducible exact jb_nar | with_reducible exact jisS_nar | with_reducible exact gno_nar) (by omega) (by omega) ⟨by rw [jah, jlead_keep h1 (Nat.le_of_lt hj), if_neg g0, jb_f (fun q => q g1)], rfl⟩
        · refine j_iconst (v := 1) x dX5_isAhead_93 (by decide) ?_
          refine j_goto (tgt := 111) x dX5_isAhead_94 (by decide) ?_
          exact j_zreturn x hr dX5_isAhead_111 (by first | decide | with_reducible exact jb_nar | with_reducible exact jisS_nar | with_reducible exact gno_nar) (by omega) (by omega) ⟨by rw [jah, jlead_keep h1 (Nat.le_of_lt hj), if_neg g0, jb_t g1], rfl⟩
    · refine j_aload_n x dX5_isAhead_43 rfl ?_
      refine j2_getr (k := 0) (r := 1) x hb dX5_isAhead_44 jc_9 wfX5_10 (by decide) rfl ?_
      refine j2_getr (k := 7) (r := 3) x hb dX5_isAhead_47 jc_6 wfX5_469 (by decide) rfl ?_
      refine j_iload x dX5_isAhead_50 rfl ?_
      refine j2_callSi x hb dX5_isAhead_52 m_X5_at (CM_v (c_at (d := d) hb fa_3 (by decide)) (jat_nI (show j < 3 by omega) (by decide))) wmX5_93 rfl (Nat.le_of_ble_eq_true rfl) (j_fit_rm (by omega) (by omega) (by omega)) rfl ?_
      refine j_istore x dX5_isAhead_55 (by decide) rfl ?_
      refine j_aload_n x dX5_isAhead_57 rfl ?_
      refine j2_getr (k := 5) (r := 75) x hb dX5_isAhead_58 jc_9 wfX5_36 (by decide) rfl ?_
      refine j_iload_n x dX5_isAhead_61 rfl ?_
      refine j_iload x dX5_isAhead_62 rfl ?_
      refine j2_callVi x hb dX5_isAhead_64 m_X3_worth (c_worth (d := d) hb (hru j hj)) wmX5_279 jc_7 rfl rfl rfl (Nat.le_of_ble_eq_true rfl) (j_fit_rm (by omega) (by omega) (by omega)) rfl ?_
      refine j_aload_n x dX5_isAhead_67 rfl ?_
      refine j2_getr (k := 5) (r := 75) x hb dX5_isAhead_68 jc_9 wfX5_36 (by decide) rfl ?_
      refine j_iload_n x dX5_isAhead_71 rfl ?_
      refine j_iload x dX5_isAhead_72 rfl ?_
      refine j2_callVi x hb dX5_isAhead_74 m_X3_worth (c_worth (d := d) hb (hru j hj)) wmX5_279 jc_7 rfl rfl rfl (Nat.le_of_ble_eq_true rfl) (j_fit_rm (by omega) (by omega) (by omega)) rfl ?_
      refine j_isub x dX5_isAhead_77 ?_
      refine j_istore_n x dX5_isAhead_78 (by decide) rfl ?_
      refine j_iinc x dX5_isAhead_79 rfl (by decide) rfl ?_
      refine j_goto (tgt := 27) x dX5_isAhead_82 (by decide) ?_
      exact j_goal (ih (trivial)) (wk_c rfl (wk_c rfl (wk_c rfl (wk_c (congrArg (fun z => some (Value.int z)) (show _ = jlead M u v (j + 1) by rw [jlead, if_pos h1])) (wk_c (congrArg (fun z => some (Value.int z)) (nI_1 _)) (wk_n (wk_0))))))) (rfl)
  refine j_iload x dX5_isAhead_27 rfl ?_
  refine j_aload_n x dX5_isAhead_29 rfl ?_
  refine j2_getr (k := 0) (r := 1) x hb dX5_isAhead_30 jc_9 wfX5_10 (by decide) rfl ?_
  refine j2_geti (k := 6) x hb dX5_isAhead_33 jc_6 wfX5_135 (by decide) rfl ?_; rw [h6]
  refine j_icmp_ge (tgt := 85) x dX5_isAhead_36 (by decide) (fun hc => ?_) (fun hc => absurd (nI_le (Nat.le_refl _) (by omega)) hc)
  refine j_iload_n x dX5_isAhead_85 rfl ?_
  refine j_if_eq (tgt := 101) x dX5_isAhead_86 (by decide) (fun g0 => ?_) (fun g0 => ?_)
  · refine j_iload_n x dX5_isAhead_101 rfl ?_
    refine j_iload_n x dX5_isAhead_102 rfl ?_
    refine j_b_icmp_ge (T := 110) (E := 111) x dX5_isAhead_103 (by decide) dX5_isAhead_106 dX5_isAhead_107 (by decide) dX5_isAhead_110 (by decide) ?_
    exact j_zreturn x hr dX5_isAhead_111 (by first | decide | with_reducible exact jb_nar | with_reducible exact jisS_nar | with_reducible exact gno_nar) (by omega) (by omega) ⟨by rw [jah, if_pos g0], rfl⟩
  · refine j_iload_n x dX5_isAhead_89 rfl ?_
    refine j_if_le (tgt := 97) x dX5_isAhead_90 (by decide) (fun g1 => ?_) (fun g1 => ?_)
    · refine j_iconst (v := 0) x dX5_isAhead_97 (by decide) ?_
      refine j_goto (tgt := 111) x dX5_isAhead_98 (by decide) ?_
      exact j_zreturn x hr dX5_isAhead_111 (by first | decide | with_reducible exact jb_nar | with_reducible exact jisS_nar | with_reducible exact gno_nar) (by omega) (by omega) ⟨by rw [jah, if_neg g0, jb_f (fun q => q g1)], rfl⟩
    · refine j_iconst (v := 1) x dX5_isAhead_93 (by decide) ?_
      refine j_goto (tgt := 111) x dX5_isAhead_94 (by decide) ?_
      exact j_zreturn x hr dX5_isAhead_111 (by first | decide | with_reducible exact jb_nar | with_reducible exact jisS_nar | with_reducible exact gno_nar) (by omega) (by omega) ⟨by rw [jah, if_neg g0, jb_t g1], rfl⟩
def jreach (M : MM) (t : Int32) : Int32 := jat 8 (M 76) t + (if M 1 4 < M 1 5 then M 1 5 else M 1 4) * jat 8 (M 83) t
theorem c_reachOf {d : Nat} {b : SBt} {Y : OUt} {M : MM} (hb : 104 ≤ b.2.1) {t : Int32} : CM (d + 1) 0 0 yX5_reachOf cX5_reachOf 2 (some .int) [.ref 0, .int t] b Y M (.inl (some (.int (jreach M t)))) (M) := by
  refine Con.of (by decide +kernel) (Nat.le_of_ble_eq_true rfl) rfl fun p l e s m args below meth c D tyc A ad0 x hr htab hname => ?_
  change JJ _ _ _ _ _ _ _ _ _ _ _ _ _ _ _ _ _ 0 [some (.ref 0), some (.int t)] [] _ 0 0
  refine j_aload_n x dX5_reachOf_0 rfl ?_
  refine j2_getr (k := 5) (r := 75) x hb dX5_reachOf_1 jc_9 wfX5_36 (by decide) rfl ?_
  refine j2_getr (k := 3) (r := 76) x hb dX5_reachOf_4 jc_7 wfX5_190 (by decide) rfl ?_
  refine j_iload_n x dX5_reachOf_7 rfl ?_
  refine j2_callSi x hb dX5_reachOf_8 m_X5_at (c_at (d := d) hb fa_76 (by decide)) wmX5_93 rfl (Nat.le_of_ble_eq_true rfl) (j_fit_rm (by omega) (by omega) (by omega)) rfl ?_
  refine j_aload_n x dX5_reachOf_11 rfl ?_
  refine j2_getr (k := 0) (r := 1) x hb dX5_reachOf_12 jc_9 wfX5_10 (by decide) rfl ?_
  refine j2_geti (k := 4) x hb dX5_reachOf_15 jc_6 wfX5_119 (by decide) rfl ?_
  refine j_aload_n x dX5_reachOf_18 rfl ?_
  refine j2_getr (k := 0) (r := 1) x hb dX5_reachOf_19 jc_9 wfX5_10 (by decide) rfl ?_
  refine j2_geti (k := 5) x hb dX5_reachOf_22 jc_6 wfX5_122 (by decide) rfl ?_
  refine j_max x wmath dX5_reachOf_25 wmX5_297 (Nat.le_of_ble_eq_true rfl) (Nat.zero_le _) (Nat.zero_le _) ?_
  refine j_aload_n x dX5_reachOf_28 rfl ?_
  refine j2_getr (k := 5) (r := 75) x hb dX5_reachOf_29 jc_9 wfX5_36 (by decide) rfl ?_
  refine j2_getr (k := 10) (r := 83) x hb dX5_reachOf_32 jc_7 wfX5_211 (by decide) rfl ?_
  refine j_iload_n x dX5_reachOf_35 rfl ?_
  refine j2_callSi x hb dX5_reachOf_36 m_X5_at (c_at (d := d) hb fa_83 (by decide)) wmX5_93 rfl (Nat.le_of_ble_eq_true rfl) (j_fit_rm (by omega) (by omega) (by omega)) rfl ?_
  refine j_imul x dX5_reachOf_39 ?_
  refine j_iadd x dX5_reachOf_40 ?_
  exact j_ireturn x hr dX5_reachOf_41 (by omega) (by omega) ⟨rfl, rfl⟩
def fSafe (M : MM) (t : Int32) (i : Nat) : Int32 := jb (¬ nI i = t ∧ ¬ jreach M (nI i) < jat 8 (M 76) t)
def fOut (M : MM) (t : Int32) (i : Nat) : Int32 := jb (¬ nI i = t ∧ ¬ jat 8 (M 76) (nI i) ≤ jreach M t)
theorem c_isBeyondOthers {d : Nat} {b : SBt} {Y : OUt} {M : MM} (hb : 104 ≤ b.2.1) {t : Int32} {w : Nat} (hw : w ≤ 8) (h0 : M 1 0 = nI w) : CM (d + 2) 0 0 yX5_isBeyondOthers cX5_isBeyondOthers 3 (some .boolean) [.ref 0, .int t] b Y M (.inl (some (.int (jb (jfst (fSafe M t) w = -1))))) (M) := by
  refine Con.of (by decide +kernel) (Nat.le_of_ble_eq_true rfl) rfl fun p l e s m args below meth c D tyc A ad0 x hr htab hname => ?_
  change JJ _ _ _ _ _ _ _ _ _ _ _ _ _ _ _ _ _ 0 [some (.ref 0), some (.int t), none] [] _ 0 0
  refine j_iconst (v := 0) x dX5_isBeyondOthers_0 (by decide) ?_
  refine j_istore_n x dX5_isBeyondOthers_1 (by decide) rfl ?_
  refine j_for (w) (fun z0 => [some (.ref 0), some (.int t), some (.int (nI z0))]) (fun z0 => M) (fun z0 => jfst (fSafe M t) z0 = -1) (rfl) (rfl) (rfl) (fun j hj hP ih => ?_) (fun hP => ?_)
  · refine j_iload_n x dX5_isBeyondOthers_2 rfl ?_
    refine j_aload_n x dX5_isBeyondOthers_3 rfl ?_
    refine j2_getr (k := 0) (r := 1) x hb dX5_isBeyondOthers_4 jc_9 wfX5_10 (by decide) rfl ?_
    refine j2_geti (k := 0) x hb dX5_isBeyondOthers_7 jc_6 wfX5_80 (by decide) rfl ?_; rw [h0]
    refine j_icmp_ge (tgt := 45) x dX5_isBeyondOthers_10 (by decide) (fun hc => absurd hc (nI_ge hj (by omega))) (fun hc => ?_)
    refine j_iload_n x dX5_isBeyondOthers_13 rfl ?_
    refine j_iload_n x dX5_isBeyondOthers_14 rfl ?_
    refine j_icmp_eq (tgt := 39) x dX5_isBeyondOthers_15 (by decide) (fun h1 => ?_) (fun h1 => ?_)
    · refine j_iinc x dX5_isBeyondOthers_39 rfl (by decide) rfl ?_
      refine j_goto (tgt := 2) x dX5_isBeyondOthers_42 (by decide) ?_
      exact j_goal (ih (jfst_no hP (fun q => absurd ((show fSafe M t j = 0 from jb_f (fun q => q.1 h1)).symm.trans q) (by decide)))) (wk_c rfl (wk_c rfl (wk_c (congrArg (fun z => some (Value.int z)) (nI_1 _)) (wk_0)))) (rfl)
    · refine j_aload_n x dX5_isBeyondOthers_18 rfl ?_
      refine j_iload_n x dX5_isBeyondOthers_19 rfl ?_
      refine j2_callVi x hb dX5_isBeyondOthers_20 m_X5_reachOf (c_reachOf (d := d) hb) wmX5_472 jc_9 rfl rfl rfl (Nat.le_of_ble_eq_true rfl) (j_fit_rm (by omega) (by omega) (by omega)) rfl ?_
      refine j_aload_n x dX5_isBeyondOthers_23 rfl ?_
      refine j2_getr (k := 5) (r := 75) x hb dX5_isBeyondOthers_24 jc_9 wfX5_36 (by decide) rfl ?_
      refine j2_getr (k := 3) (r := 76) x hb dX5_isBeyondOthers_27 jc_7 wfX5_190 (by decide) rfl ?_
      refine j_iload_n x dX5_isBeyondOthers_30 rfl ?_
      refine j2_callSi x hb dX5_isBeyondOthers_31 m_X5_at (c_at (d := d) hb fa_76 (by decide)) wmX5_93 rfl (Nat.le_of_ble_eq_true rfl) (j_fit_rm (by omega) (by omega) (by omega)) rfl ?_
      refine j_icmp_lt (tgt := 39) x dX5_isBeyondOthers_34 (by decide) (fun h2 => ?_) (fun h2 => ?_)
      · refine j_iinc x dX5_isBeyondOthers_39 rfl (by decide) rfl ?_
        refine j_goto (tgt := 2) x dX5_isBeyondOthers_42 (by decide) ?_
        exact j_goal (ih (jfst_no hP (fun q => absurd ((show fSafe M t j = 0 from jb_f (fun q => q.2 h2)).symm.trans q) (by decide)))) (wk_c rfl (wk_c rfl (wk_c (congrArg (fun z => some (Value.int z)) (nI_1 _)) (wk_0)))) (rfl)
      · refine j_iconst (v := 0) x dX5_isBeyondOthers_37 (by decide) ?_
        exact j_zreturn x hr dX5_isBeyondOthers_38 (by first | decide | with_reducible exact jb_nar | with_reducible exact jisS_nar | with_reducible exact gno_nar) (by omega) (by omega) ⟨by rw [jb_f (fun q => absurd ((jfst_at hP (show fSafe M t j = 1 from jb_t ⟨h1, h2⟩) (by omega) hj).symm.trans q) (nI_nm1 (by omega)))], rfl⟩
  refine j_iload_n x dX5_isBeyondOthers_2 rfl ?_
  refine j_aload_n x dX5_isBeyondOthers_3 rfl ?_
  refine j2_getr (k := 0) (r := 1) x hb dX5_isBeyondOthers_4 jc_9 wfX5_10 (by decide) rfl ?_
  refine j2_geti (k := 0) x hb dX5_isBeyondOthers_7 jc_6 wfX5_80 (by decide) rfl ?_; rw [h0]
  refine j_icmp_ge (tgt := 45) x dX5_isBeyondOthers_10 (by decide) (fun hc => ?_) (fun hc => absurd (nI_le (Nat.le_refl _) (by omega)) hc)
  refine j_iconst (v := 1) x dX5_isBeyondOthers_45 (by decide) ?_
  exact j_zreturn x hr dX5_isBeyondOthers_46 (by first | decide | with_reducible exact jb_nar | with_reducible exact jisS_nar | with_reducible exact gno_nar) (by omega) (by omega) ⟨by rw [jb_t hP], rfl⟩
theorem c_isBehindAnother {d : Nat} {b : SBt} {Y : OUt} {M : MM} (hb : 104 ≤ b.2.1) {t : Int32} {w : Nat} (hw : w ≤ 8) (h0 : M 1 0 = nI w) : CM (d + 2) 0 0 yX5_isBehindAnother cX5_isBehindAnother 3 (some .boolean) [.ref 0, .int t] b Y M (.inl (some (.int (jb (¬ jfst (fOut M t) w = -1))))) (M) := by
  refine Con.of (by decide +kernel) (Nat.le_of_ble_eq_true rfl) rfl fun p l e s m args below meth c D tyc A ad0 x hr htab hname => ?_
  change JJ _ _ _ _ _ _ _ _ _ _ _ _ _ _ _ _ _ 0 [some (.ref 0), some (.int t), none] [] _ 0 0
  refine j_iconst (v := 0) x dX5_isBehindAnother_0 (by decide) ?_
  refine j_istore_n x dX5_isBehindAnother_1 (by decide) rfl ?_
  refine j_for (w) (fun z0 => [some (.ref 0), some (.int t), some (.int (nI z0))]) (fun z0 => M) (fun z0 => jfst (fOut M t) z0 = -1) (rfl) (rfl) (rfl) (fun j hj hP ih => ?_) (fun hP => ?_)
  · refine j_iload_n x dX5_isBehindAnother_2 rfl ?_
    refine j_aload_n x dX5_isBehindAnother_3 rfl ?_
    refine j2_getr (k := 0) (r := 1) x hb dX5_isBehindAnother_4 jc_9 wfX5_10 (by decide) rfl ?_
    refine j2_geti (k := 0) x hb dX5_isBehindAnother_7 jc_6 wfX5_80 (by decide) rfl ?_; rw [h0]
    refine j_icmp_ge (tgt := 45) x dX5_isBehindAnother_10 (by decide) (fun hc => absurd hc (nI_ge hj (by omega))) (fun hc => ?_)
    refine j_iload_n x dX5_isBehindAnother_13 rfl ?_
    refine j_iload_n x dX5_isBehindAnother_14 rfl ?_
    refine j_icmp_eq (tgt := 39) x dX5_isBehindAnother_15 (by decide) (fun h1 => ?_) (fun h1 => ?_)
    · refine j_iinc x dX5_isBehindAnother_39 rfl (by decide) rfl ?_
      refine j_goto (tgt := 2) x dX5_isBehindAnother_42 (by decide) ?_
      exact j_goal (ih (jfst_no hP (fun q => absurd ((show fOut M t j = 0 from jb_f (fun q => q.1 h1)).symm.trans q) (by decide)))) (wk_c rfl (wk_c rfl (wk_c (congrArg (fun z => some (Value.int z)) (nI_1 _)) (wk_0)))) (rfl)
    · refine j_aload_n x dX5_isBehindAnother_18 rfl ?_
      refine j2_getr (k := 5) (r := 75) x hb dX5_isBehindAnother_19 jc_9 wfX5_36 (by decide) rfl ?_
      refine j2_getr (k := 3) (r := 76) x hb dX5_isBehindAnother_22 jc_7 wfX5_190 (by decide) rfl ?_
      refine j_iload_n x dX5_isBehindAnother_25 rfl ?_
      refine j2_callSi x hb dX5_isBehindAnother_26 m_X5_at (c_at (d := d) hb fa_76 (by decide)) wmX5_93 rfl (Nat.le_of_ble_eq_true rfl) (j_fit_rm (by omega) (by omega) (by omega)) rfl ?_
      refine j_aload_n x dX5_isBehindAnother_29 rfl ?_
      refine j_iload_n x dX5_isBehindAnother_30 rfl ?_
      refine j2_callVi x hb dX5_isBehindAnother_31 m_X5_reachOf (c_reachOf (d := d) hb) wmX5_472 jc_9 rfl rfl rfl (Nat.le_of_ble_eq_true rfl) (j_fit_rm (by omega) (by omega) (by omega)) rfl ?_
      refine j_icmp_le (tgt := 39) x dX5_isBehindAnother_34 (by decide) (fun h2 => ?_) (fun h2 => ?_)
      · refine j_iinc x dX5_isBehindAnother_39 rfl (by decide) rfl ?_
        refine j_goto (tgt := 2) x dX5_isBehindAnother_42 (by decide) ?_
        exact j_goal (ih (jfst_no hP (fun q => absurd ((show fOut M t j = 0 from jb_f (fun q => q.2 h2)).symm.trans q) (by decide)))) (wk_c rfl (wk_c rfl (wk_c (congrArg (fun z => some (Value.int z)) (nI_1 _)) (wk_0)))) (rfl)
      · refine j_iconst (v := 1) x dX5_isBehindAnother_37 (by decide) ?_
        exact j_zreturn x hr dX5_isBehindAnother_38 (by first | decide | with_reducible exact jb_nar | with_reducible exact jisS_nar | with_reducible exact gno_nar) (by omega) (by omega) ⟨by rw [jb_t (p := ¬ jfst (fOut M t) w = -1) (fun q => absurd ((jfst_at hP (show fOut M t j = 1 from jb_t ⟨h1, h2⟩) (by omega) hj).symm.trans q) (nI_nm1 (by omega)))], rfl⟩
  refine j_iload_n x dX5_isBehindAnother_2 rfl ?_
  refine j_aload_n x dX5_isBehindAnother_3 rfl ?_
  refine j2_getr (k := 0) (r := 1) x hb dX5_isBehindAnother_4 jc_9 wfX5_10 (by decide) rfl ?_
  refine j2_geti (k := 0) x hb dX5_isBehindAnother_7 jc_6 wfX5_80 (by decide) rfl ?_; rw [h0]
  refine j_icmp_ge (tgt := 45) x dX5_isBehindAnother_10 (by decide) (fun hc => ?_) (fun hc => absurd (nI_le (Nat.le_refl _) (by omega)) hc)
  refine j_iconst (v := 0) x dX5_isBehindAnother_45 (by decide) ?_
  exact j_zreturn x hr dX5_isBehindAnother_46 (by first | decide | with_reducible exact jb_nar | with_reducible exact jisS_nar | with_reducible exact gno_nar) (by omega) (by omega) ⟨by rw [jb_f (fun q => q hP)], rfl⟩
theorem c_allPoints {d : Nat} {b : SBt} {Y : OUt} {M : MM} (hb : 104 ≤ b.2.1) {w : Nat} (hw : w ≤ 8) (h0 : M 1 0 = nI w) : CM (d + 1) 0 0 yX5_allPoints cX5_allPoints 3 (some .int) [.ref 0] b Y M (.inl (some (.int (jsum (fun i => jat 8 (M 76) (nI i)) w)))) (M) := by
  refine Con.of (by decide +kernel) (Nat.le_of_ble_eq_true rfl) rfl fun p l e s m args below meth c D tyc A ad0 x hr htab hname => ?_
  change JJ _ _ _ _ _ _ _ _ _ _ _ _ _ _ _ _ _ 0 [some (.ref 0), none, none] [] _ 0 0
  refine j_iconst (v := 0) x dX5_allPoints_0 (by decide) ?_
  refine j_istore_n x dX5_allPoints_1 (by decide) rfl ?_
  refine j_iconst (v := 0) x dX5_allPoints_2 (by decide) ?_
  refine j_istore_n x dX5_allPoints_3 (by decide) rfl ?_
  refine j_for (w) (fun z0 => [some (.ref 0), some (.int (jsum (fun i => jat 8 (M 76) (nI i)) z0)), some (.int (nI z0))]) (fun z0 => M) (fun z0 => True) (rfl) (rfl) (trivial) (fun j hj hP ih => ?_) (fun hP => ?_)
  · refine j_iload_n x dX5_allPoints_4 rfl ?_
    refine j_aload_n x dX5_allPoints_5 rfl ?_
    refine j2_getr (k := 0) (r := 1) x hb dX5_allPoints_6 jc_9 wfX5_10 (by decide) rfl ?_
    refine j2_geti (k := 0) x hb dX5_allPoints_9 jc_6 wfX5_80 (by decide) rfl ?_; rw [h0]
    refine j_icmp_ge (tgt := 35) x dX5_allPoints_12 (by decide) (fun hc => absurd hc (nI_ge hj (by omega))) (fun hc => ?_)
    refine j_iload_n x dX5_allPoints_15 rfl ?_
    refine j_aload_n x dX5_allPoints_16 rfl ?_
    refine j2_getr (k := 5) (r := 75) x hb dX5_allPoints_17 jc_9 wfX5_36 (by decide) rfl ?_
    refine j2_getr (k := 3) (r := 76) x hb dX5_allPoints_20 jc_7 wfX5_190 (by decide) rfl ?_
    refine j_iload_n x dX5_allPoints_23 rfl ?_
    refine j2_callSi x hb dX5_allPoints_24 m_X5_at (c_at (d := d) hb fa_76 (by decide)) wmX5_93 rfl (Nat.le_of_ble_eq_true rfl) (j_fit_rm (by omega) (by omega) (by omega)) rfl ?_
    refine j_iadd x dX5_allPoints_27 ?_
    refine j_istore_n x dX5_allPoints_28 (by decide) rfl ?_
    refine j_iinc x dX5_allPoints_29 rfl (by decide) rfl ?_
    refine j_goto (tgt := 4) x dX5_allPoints_32 (by decide) ?_
    exact j_goal (ih (trivial)) (wk_c rfl (wk_c (congrArg (fun z => some (Value.int z)) (jsum_v rfl)) (wk_c (congrArg (fun z => some (Value.int z)) (nI_1 _)) (wk_0)))) (rfl)
  refine j_iload_n x dX5_allPoints_4 rfl ?_
  refine j_aload_n x dX5_allPoints_5 rfl ?_
  refine j2_getr (k := 0) (r := 1) x hb dX5_allPoints_6 jc_9 wfX5_10 (by decide) rfl ?_
  refine j2_geti (k := 0) x hb dX5_allPoints_9 jc_6 wfX5_80 (by decide) rfl ?_; rw [h0]
  refine j_icmp_ge (tgt := 35) x dX5_allPoints_12 (by decide) (fun hc => ?_) (fun hc => absurd (nI_le (Nat.le_refl _) (by omega)) hc)
  refine j_iload_n x dX5_allPoints_35 rfl ?_
  exact j_ireturn x hr dX5_allPoints_36 (by omega) (by omega) ⟨rfl, rfl⟩
theorem no_mem {M : MM} {t u : Int32} (h : ¬ (¬ t < 0 ∧ ¬ u ≤ t)) : jb (¬ t < 0 ∧ ¬ u ≤ t) = 0 := jb_f h
theorem c_teamOf_nt {d : Nat} {b : SBt} {Y : OUt} {M : MM} (hb : 104 ≤ b.2.1) {t u : Int32} (hT : ¬ (¬ t < 0 ∧ ¬ M 1 0 ≤ t)) : CM (d + 1) 1 6 yX5_teamOf cX5_teamOf 3 (some .int) [.ref 0, .int t, .int u] b Y M (.inr "java/lang/IndexOutOfBoundsException") (M) := by
  refine Con.of (by decide +kernel) (Nat.le_of_ble_eq_true rfl) rfl fun p l e s m args below meth c D tyc A ad0 x hr htab hname => ?_
  change JJ _ _ _ _ _ _ _ _ _ _ _ _ _ _ _ _ _ 0 [some (.ref 0), some (.int t), some (.int u)] [] _ 0 0
  refine j_aload_n x dX5_teamOf_0 rfl ?_
  refine j_iload_n x dX5_teamOf_1 rfl ?_
  refine j2_callVi x hb dX5_teamOf_2 m_X5_isTeam (CM_v (c_isTeam (d := d) hb) (jb_f hT)) wmX5_174 jc_9 rfl rfl rfl (Nat.le_of_ble_eq_true rfl) (j_fit_rm (by omega) (by omega) (by omega)) rfl ?_
  refine j_if_ne (tgt := 18) x dX5_teamOf_5 (by decide) (fun hc => absurd hc (fun q => q rfl)) (fun hc => ?_)
  exact j_throwS x exX5_177 wsX5_179 dX5_teamOf_8 dX5_teamOf_11 dX5_teamOf_12 dX5_teamOf_14 dX5_teamOf_17 htab (by omega) (by omega) ⟨rfl, rfl⟩
theorem c_pointsAgain_nt {d : Nat} {b : SBt} {Y : OUt} {M : MM} (hb : 104 ≤ b.2.1) {t : Int32} (hT : ¬ (¬ t < 0 ∧ ¬ M 1 0 ≤ t)) : CM (d + 1) 1 6 yX5_pointsAgain cX5_pointsAgain 2 (some .int) [.ref 0, .int t] b Y M (.inr "java/lang/IndexOutOfBoundsException") (M) := by
  refine Con.of (by decide +kernel) (Nat.le_of_ble_eq_true rfl) rfl fun p l e s m args below meth c D tyc A ad0 x hr htab hname => ?_
  change JJ _ _ _ _ _ _ _ _ _ _ _ _ _ _ _ _ _ 0 [some (.ref 0), some (.int t)] [] _ 0 0
  refine j_aload_n x dX5_pointsAgain_0 rfl ?_
  refine j_iload_n x dX5_pointsAgain_1 rfl ?_
  refine j2_callVi x hb dX5_pointsAgain_2 m_X5_isTeam (CM_v (c_isTeam (d := d) hb) (jb_f hT)) wmX5_174 jc_9 rfl rfl rfl (Nat.le_of_ble_eq_true rfl) (j_fit_rm (by omega) (by omega) (by omega)) rfl ?_
  refine j_if_ne (tgt := 18) x dX5_pointsAgain_5 (by decide) (fun hc => absurd hc (fun q => q rfl)) (fun hc => ?_)
  exact j_throwS x exX5_177 wsX5_179 dX5_pointsAgain_8 dX5_pointsAgain_11 dX5_pointsAgain_12 dX5_pointsAgain_14 dX5_pointsAgain_17 htab (by omega) (by omega) ⟨rfl, rfl⟩
theorem c_placeOf_nt {d : Nat} {b : SBt} {Y : OUt} {M : MM} (hb : 104 ≤ b.2.1) {t : Int32} (hT : ¬ (¬ t < 0 ∧ ¬ M 1 0 ≤ t)) : CM (d + 1) 1 6 yX5_placeOf cX5_placeOf 4 (some .int) [.ref 0, .int t] b Y M (.inr "java/lang/IndexOutOfBoundsException") (M) := by
  refine Con.of (by decide +kernel) (Nat.le_of_ble_eq_true rfl) rfl fun p l e s m args below meth c D tyc A ad0 x hr htab hname => ?_
  change JJ _ _ _ _ _ _ _ _ _ _ _ _ _ _ _ _ _ 0 [some (.ref 0), some (.int t), none, none] [] _ 0 0
  refine j_aload_n x dX5_placeOf_0 rfl ?_
  refine j_iload_n x dX5_placeOf_1 rfl ?_
  refine j2_callVi x hb dX5_placeOf_2 m_X5_isTeam (CM_v (c_isTeam (d := d) hb) (jb_f hT)) wmX5_174 jc_9 rfl rfl rfl (Nat.le_of_ble_eq_true rfl) (j_fit_rm (by omega) (by omega) (by omega)) rfl ?_
  refine j_if_ne (tgt := 18) x dX5_placeOf_5 (by decide) (fun hc => absurd hc (fun q => q rfl)) (fun hc => ?_)
  exact j_throwS x exX5_177 wsX5_179 dX5_placeOf_8 dX5_placeOf_11 dX5_placeOf_12 dX5_placeOf_14 dX5_placeOf_17 htab (by omega) (by omega) ⟨rfl, rfl⟩
theorem c_valueOf_nt {d : Nat} {b : SBt} {Y : OUt} {M : MM} (hb : 104 ≤ b.2.1) {t u : Int32} (hT : ¬ (¬ t < 0 ∧ ¬ M 1 0 ≤ t)) : CM (d + 1) 1 6 yX5_valueOf cX5_valueOf 3 (some .int) [.ref 0, .int t, .int u] b Y M (.inr "java/lang/IndexOutOfBoundsException") (M) := by
  refine Con.of (by decide +kernel) (Nat.le_of_ble_eq_true rfl) rfl fun p l e s m args below meth c D tyc A ad0 x hr htab hname => ?_
  change JJ _ _ _ _ _ _ _ _ _ _ _ _ _ _ _ _ _ 0 [some (.ref 0), some (.int t), some (.int u)] [] _ 0 0
  refine j_aload_n x dX5_valueOf_0 rfl ?_
  refine j_iload_n x dX5_valueOf_1 rfl ?_
  refine j2_callVi x hb dX5_valueOf_2 m_X5_isTeam (CM_v (c_isTeam (d := d) hb) (jb_f hT)) wmX5_174 jc_9 rfl rfl rfl (Nat.le_of_ble_eq_true rfl) (j_fit_rm (by omega) (by omega) (by omega)) rfl ?_
  refine j_if_ne (tgt := 18) x dX5_valueOf_5 (by decide) (fun hc => absurd hc (fun q => q rfl)) (fun hc => ?_)
  exact j_throwS x exX5_177 wsX5_179 dX5_valueOf_8 dX5_valueOf_11 dX5_valueOf_12 dX5_valueOf_14 dX5_valueOf_17 htab (by omega) (by omega) ⟨rfl, rfl⟩
theorem c_tied_nt {d : Nat} {b : SBt} {Y : OUt} {M : MM} (hb : 104 ≤ b.2.1) {t : Int32} (hT : ¬ (¬ t < 0 ∧ ¬ M 1 0 ≤ t)) : CM (d + 1) 1 6 yX5_tied cX5_tied 4 (some .int) [.ref 0, .int t] b Y M (.inr "java/lang/IndexOutOfBoundsException") (M) := by
  refine Con.of (by decide +kernel) (Nat.le_of_ble_eq_true rfl) rfl fun p l e s m args below meth c D tyc A ad0 x hr htab hname => ?_
  change JJ _ _ _ _ _ _ _ _ _ _ _ _ _ _ _ _ _ 0 [some (.ref 0), some (.int t), none, none] [] _ 0 0
  refine j_aload_n x dX5_tied_0 rfl ?_
  refine j_iload_n x dX5_tied_1 rfl ?_
  refine j2_callVi x hb dX5_tied_2 m_X5_isTeam (CM_v (c_isTeam (d := d) hb) (jb_f hT)) wmX5_174 jc_9 rfl rfl rfl (Nat.le_of_ble_eq_true rfl) (j_fit_rm (by omega) (by omega) (by omega)) rfl ?_
  refine j_if_ne (tgt := 18) x dX5_tied_5 (by decide) (fun hc => absurd hc (fun q => q rfl)) (fun hc => ?_)
  exact j_throwS x exX5_177 wsX5_179 dX5_tied_8 dX5_tied_11 dX5_tied_12 dX5_tied_14 dX5_tied_17 htab (by omega) (by omega) ⟨rfl, rfl⟩
theorem c_most_nt {d : Nat} {b : SBt} {Y : OUt} {M : MM} (hb : 104 ≤ b.2.1) {t : Int32} (hT : ¬ (¬ t < 0 ∧ ¬ M 1 0 ≤ t)) : CM (d + 1) 1 6 yX5_most cX5_most 2 (some .int) [.ref 0, .int t] b Y M (.inr "java/lang/IndexOutOfBoundsException") (M) := by
  refine Con.of (by decide +kernel) (Nat.le_of_ble_eq_true rfl) rfl fun p l e s m args below meth c D tyc A ad0 x hr htab hname => ?_
  change JJ _ _ _ _ _ _ _ _ _ _ _ _ _ _ _ _ _ 0 [some (.ref 0), some (.int t)] [] _ 0 0
  refine j_aload_n x dX5_most_0 rfl ?_
  refine j_iload_n x dX5_most_1 rfl ?_
  refine j2_callVi x hb dX5_most_2 m_X5_isTeam (CM_v (c_isTeam (d := d) hb) (jb_f hT)) wmX5_174 jc_9 rfl rfl rfl (Nat.le_of_ble_eq_true rfl) (j_fit_rm (by omega) (by omega) (by omega)) rfl ?_
  refine j_if_ne (tgt := 18) x dX5_most_5 (by decide) (fun hc => absurd hc (fun q => q rfl)) (fun hc => ?_)
  exact j_throwS x exX5_177 wsX5_179 dX5_most_8 dX5_most_11 dX5_most_12 dX5_most_14 dX5_most_17 htab (by omega) (by omega) ⟨rfl, rfl⟩
theorem c_isSafe_nt {d : Nat} {b : SBt} {Y : OUt} {M : MM} (hb : 104 ≤ b.2.1) {t : Int32} (hT : ¬ (¬ t < 0 ∧ ¬ M 1 0 ≤ t)) : CM (d + 1) 1 6 yX5_isSafe cX5_isSafe 2 (some .boolean) [.ref 0, .int t] b Y M (.inr "java/lang/IndexOutOfBoundsException") (M) := by
  refine Con.of (by decide +kernel) (Nat.le_of_ble_eq_true rfl) rfl fun p l e s m args below meth c D tyc A ad0 x hr htab hname => ?_
  change JJ _ _ _ _ _ _ _ _ _ _ _ _ _ _ _ _ _ 0 [some (.ref 0), some (.int t)] [] _ 0 0
  refine j_aload_n x dX5_isSafe_0 rfl ?_
  refine j_iload_n x dX5_isSafe_1 rfl ?_
  refine j2_callVi x hb dX5_isSafe_2 m_X5_isTeam (CM_v (c_isTeam (d := d) hb) (jb_f hT)) wmX5_174 jc_9 rfl rfl rfl (Nat.le_of_ble_eq_true rfl) (j_fit_rm (by omega) (by omega) (by omega)) rfl ?_
  refine j_if_ne (tgt := 18) x dX5_isSafe_5 (by decide) (fun hc => absurd hc (fun q => q rfl)) (fun hc => ?_)
  exact j_throwS x exX5_177 wsX5_179 dX5_isSafe_8 dX5_isSafe_11 dX5_isSafe_12 dX5_isSafe_14 dX5_isSafe_17 htab (by omega) (by omega) ⟨rfl, rfl⟩
theorem c_isOut_nt {d : Nat} {b : SBt} {Y : OUt} {M : MM} (hb : 104 ≤ b.2.1) {t : Int32} (hT : ¬ (¬ t < 0 ∧ ¬ M 1 0 ≤ t)) : CM (d + 1) 1 6 yX5_isOut cX5_isOut 2 (some .boolean) [.ref 0, .int t] b Y M (.inr "java/lang/IndexOutOfBoundsException") (M) := by
  refine Con.of (by decide +kernel) (Nat.le_of_ble_eq_true rfl) rfl fun p l e s m args below meth c D tyc A ad0 x hr htab hname => ?_
  change JJ _ _ _ _ _ _ _ _ _ _ _ _ _ _ _ _ _ 0 [some (.ref 0), some (.int t)] [] _ 0 0
  refine j_aload_n x dX5_isOut_0 rfl ?_
  refine j_iload_n x dX5_isOut_1 rfl ?_
  refine j2_callVi x hb dX5_isOut_2 m_X5_isTeam (CM_v (c_isTeam (d := d) hb) (jb_f hT)) wmX5_174 jc_9 rfl rfl rfl (Nat.le_of_ble_eq_true rfl) (j_fit_rm (by omega) (by omega) (by omega)) rfl ?_
  refine j_if_ne (tgt := 18) x dX5_isOut_5 (by decide) (fun hc => absurd hc (fun q => q rfl)) (fun hc => ?_)
  exact j_throwS x exX5_177 wsX5_179 dX5_isOut_8 dX5_isOut_11 dX5_isOut_12 dX5_isOut_14 dX5_isOut_17 htab (by omega) (by omega) ⟨rfl, rfl⟩
theorem c_run_nt {d : Nat} {b : SBt} {Y : OUt} {M : MM} (hb : 104 ≤ b.2.1) {t : Int32} (hT : ¬ (¬ t < 0 ∧ ¬ M 1 0 ≤ t)) : CM (d + 1) 1 6 yX5_run cX5_run 5 (some .int) [.ref 0, .int t] b Y M (.inr "java/lang/IndexOutOfBoundsException") (M) := by
  refine Con.of (by decide +kernel) (Nat.le_of_ble_eq_true rfl) rfl fun p l e s m args below meth c D tyc A ad0 x hr htab hname => ?_
  change JJ _ _ _ _ _ _ _ _ _ _ _ _ _ _ _ _ _ 0 [some (.ref 0), some (.int t), none, none, none] [] _ 0 0
  refine j_aload_n x dX5_run_0 rfl ?_
  refine j_iload_n x dX5_run_1 rfl ?_
  refine j2_callVi x hb dX5_run_2 m_X5_isTeam (CM_v (c_isTeam (d := d) hb) (jb_f hT)) wmX5_174 jc_9 rfl rfl rfl (Nat.le_of_ble_eq_true rfl) (j_fit_rm (by omega) (by omega) (by omega)) rfl ?_
  refine j_if_ne (tgt := 18) x dX5_run_5 (by decide) (fun hc => absurd hc (fun q => q rfl)) (fun hc => ?_)
  exact j_throwS x exX5_177 wsX5_179 dX5_run_8 dX5_run_11 dX5_run_12 dX5_run_14 dX5_run_17 htab (by omega) (by omega) ⟨rfl, rfl⟩
theorem c_line_nt {d : Nat} {b : SBt} {Y : OUt} {M : MM} (hb : 104 ≤ b.2.1) {t : Int32} (hT : ¬ (¬ t < 0 ∧ ¬ M 1 0 ≤ t)) : CM (d + 1) 1 6 yX5_line cX5_line 2 (some .int) [.ref 0, .int t] b Y M (.inr "java/lang/IndexOutOfBoundsException") (M) := by
  refine Con.of (by decide +kernel) (Nat.le_of_ble_eq_true rfl) rfl fun p l e s m args below meth c D tyc A ad0 x hr htab hname => ?_
  change JJ _ _ _ _ _ _ _ _ _ _ _ _ _ _ _ _ _ 0 [some (.ref 0), some (.int t)] [] _ 0 0
  refine j_aload_n x dX5_line_0 rfl ?_
  refine j_iload_n x dX5_line_1 rfl ?_
  refine j2_callVi x hb dX5_line_2 m_X5_isTeam (CM_v (c_isTeam (d := d) hb) (jb_f hT)) wmX5_174 jc_9 rfl rfl rfl (Nat.le_of_ble_eq_true rfl) (j_fit_rm (by omega) (by omega) (by omega)) rfl ?_
  refine j_if_ne (tgt := 18) x dX5_line_5 (by decide) (fun hc => absurd hc (fun q => q rfl)) (fun hc => ?_)
  exact j_throwS x exX5_177 wsX5_179 dX5_line_8 dX5_line_11 dX5_line_12 dX5_line_14 dX5_line_17 htab (by omega) (by omega) ⟨rfl, rfl⟩
theorem c_teamOf_bad {d : Nat} {b : SBt} {Y : OUt} {M : MM} (hb : 104 ≤ b.2.1) {t u : Int32} (hT : ¬ t < 0 ∧ ¬ M 1 0 ≤ t) (hx : u < 0 ∨ ¬ u ≤ 8) : CM (d + 1) 1 6 yX5_teamOf cX5_teamOf 3 (some .int) [.ref 0, .int t, .int u] b Y M (.inr "java/lang/IllegalArgumentException") (M) := by
  refine Con.of (by decide +kernel) (Nat.le_of_ble_eq_true rfl) rfl fun p l e s m args below meth c D tyc A ad0 x hr htab hname => ?_
  change JJ _ _ _ _ _ _ _ _ _ _ _ _ _ _ _ _ _ 0 [some (.ref 0), some (.int t), some (.int u)] [] _ 0 0
  refine j_aload_n x dX5_teamOf_0 rfl ?_
  refine j_iload_n x dX5_teamOf_1 rfl ?_
  refine j2_callVi x hb dX5_teamOf_2 m_X5_isTeam (CM_v (c_isTeam (d := d) hb) (jb_t hT)) wmX5_174 jc_9 rfl rfl rfl (Nat.le_of_ble_eq_true rfl) (j_fit_rm (by omega) (by omega) (by omega)) rfl ?_
  refine j_if_ne (tgt := 18) x dX5_teamOf_5 (by decide) (fun hc => ?_) (fun hc => absurd hc (by decide))
  refine j_iload_n x dX5_teamOf_18 rfl ?_
  refine j_if_lt (tgt := 28) x dX5_teamOf_19 (by decide) (fun h1 => ?_) (fun h1 => ?_)
  · exact j_throwS x exX5_182 wsX5_184 dX5_teamOf_28 dX5_teamOf_31 dX5_teamOf_32 dX5_teamOf_34 dX5_teamOf_37 htab (by omega) (by omega) ⟨rfl, rfl⟩
  · refine j_iload_n x dX5_teamOf_22 rfl ?_
    refine j_bipush (v := 8) x dX5_teamOf_23 (by decide) ?_
    refine j_icmp_le (tgt := 38) x dX5_teamOf_25 (by decide) (fun hc => absurd hc (hx.resolve_left h1)) (fun hc => ?_)
    exact j_throwS x exX5_182 wsX5_184 dX5_teamOf_28 dX5_teamOf_31 dX5_teamOf_32 dX5_teamOf_34 dX5_teamOf_37 htab (by omega) (by omega) ⟨rfl, rfl⟩
theorem c_teamOf_k0 {d : Nat} {b : SBt} {Y : OUt} {M : MM} (hb : 104 ≤ b.2.1) {t : Int32} (hT : ¬ t < 0 ∧ ¬ M 1 0 ≤ t) {n : Nat} (hn : n ≤ 56) (hm : jmc M = nI n) : CM (d + 5) 1 6 yX5_teamOf cX5_teamOf 3 (some .int) [.ref 0, .int t, .int 0] b Y M (.inl (some (.int (jat 8 (jcount M n 2) t)))) (jcount M n) := by
  refine Con.of (by decide +kernel) (Nat.le_of_ble_eq_true rfl) rfl fun p l e s m args below meth c D tyc A ad0 x hr htab hname => ?_
  change JJ _ _ _ _ _ _ _ _ _ _ _ _ _ _ _ _ _ 0 [some (.ref 0), some (.int t), some (.int 0)] [] _ 0 0
  refine j_aload_n x dX5_teamOf_0 rfl ?_
  refine j_iload_n x dX5_teamOf_1 rfl ?_
  refine j2_callVi x hb dX5_teamOf_2 m_X5_isTeam (CM_v (c_isTeam (d := d) hb) (jb_t hT)) wmX5_174 jc_9 rfl rfl rfl (Nat.le_of_ble_eq_true rfl) (j_fit_rm (by omega) (by omega) (by omega)) rfl ?_
  refine j_if_ne (tgt := 18) x dX5_teamOf_5 (by decide) (fun hc => ?_) (fun hc => absurd hc (by decide))
  refine j_iload_n x dX5_teamOf_18 rfl ?_
  refine j_if_lt (tgt := 28) x dX5_teamOf_19 (by decide) (fun hc => absurd hc (by decide)) (fun hc => ?_)
  refine j_iload_n x dX5_teamOf_22 rfl ?_
  refine j_bipush (v := 8) x dX5_teamOf_23 (by decide) ?_
  refine j_icmp_le (tgt := 38) x dX5_teamOf_25 (by decide) (fun hc => ?_) (fun hc => absurd (by decide) hc)
  refine j_aload_n x dX5_teamOf_38 rfl ?_
  refine j2_callVv x hb dX5_teamOf_39 m_X5_count (c_count (d := d) hb hn hm) wmX5_187 jc_9 rfl rfl rfl (Nat.le_of_ble_eq_true rfl) (j_fit_rm (by omega) (by omega) (by omega)) rfl ?_
  refine j_iload_n x dX5_teamOf_42 rfl ?_
  refine j_tableIn (tgt := 88) x dX5_teamOf_43 (by decide) (by decide) rfl (by decide) ?_
  refine j_aload_n x dX5_teamOf_88 rfl ?_
  refine j2_getr (k := 0) (r := 1) x hb dX5_teamOf_89 jc_9 wfX5_10 (by decide) rfl ?_
  refine j2_getr (k := 1) (r := 2) x hb dX5_teamOf_92 jc_6 wfX5_77 (by decide) rfl ?_
  refine j_iload_n x dX5_teamOf_95 rfl ?_
  refine j2_callSi x hb dX5_teamOf_96 m_X5_at (c_at (d := d) hb fa_2 (by decide)) wmX5_93 rfl (Nat.le_of_ble_eq_true rfl) (j_fit_rm (by omega) (by omega) (by omega)) rfl ?_
  exact j_ireturn x hr dX5_teamOf_99 (by omega) (by omega) ⟨rfl, rfl⟩
theorem c_teamOf_k1 {d : Nat} {b : SBt} {Y : OUt} {M : MM} (hb : 104 ≤ b.2.1) {t : Int32} (hT : ¬ t < 0 ∧ ¬ M 1 0 ≤ t) {n : Nat} (hn : n ≤ 56) (hm : jmc M = nI n) : CM (d + 5) 1 6 yX5_teamOf cX5_teamOf 3 (some .int) [.ref 0, .int t, .int 1] b Y M (.inl (some (.int (jat 8 (jcount M n 76) t)))) (jcount M n) := by
  refine Con.of (by decide +kernel) (Nat.le_of_ble_eq_true rfl) rfl fun p l e s m args below meth c D tyc A ad0 x hr htab hname => ?_
  change JJ _ _ _ _ _ _ _ _ _ _ _ _ _ _ _ _ _ 0 [some (.ref 0), some (.int t), some (.int 1)] [] _ 0 0
  refine j_aload_n x dX5_teamOf_0 rfl ?_
  refine j_iload_n x dX5_teamOf_1 rfl ?_
  refine j2_callVi x hb dX5_teamOf_2 m_X5_isTeam (CM_v (c_isTeam (d := d) hb) (jb_t hT)) wmX5_174 jc_9 rfl rfl rfl (Nat.le_of_ble_eq_true rfl) (j_fit_rm (by omega) (by omega) (by omega)) rfl ?_
  refine j_if_ne (tgt := 18) x dX5_teamOf_5 (by decide) (fun hc => ?_) (fun hc => absurd hc (by decide))
  refine j_iload_n x dX5_teamOf_18 rfl ?_
  refine j_if_lt (tgt := 28) x dX5_teamOf_19 (by decide) (fun hc => absurd hc (by decide)) (fun hc => ?_)
  refine j_iload_n x dX5_teamOf_22 rfl ?_
  refine j_bipush (v := 8) x dX5_teamOf_23 (by decide) ?_
  refine j_icmp_le (tgt := 38) x dX5_teamOf_25 (by decide) (fun hc => ?_) (fun hc => absurd (by decide) hc)
  refine j_aload_n x dX5_teamOf_38 rfl ?_
  refine j2_callVv x hb dX5_teamOf_39 m_X5_count (c_count (d := d) hb hn hm) wmX5_187 jc_9 rfl rfl rfl (Nat.le_of_ble_eq_true rfl) (j_fit_rm (by omega) (by omega) (by omega)) rfl ?_
  refine j_iload_n x dX5_teamOf_42 rfl ?_
  refine j_tableIn (tgt := 100) x dX5_teamOf_43 (by decide) (by decide) rfl (by decide) ?_
  refine j_aload_n x dX5_teamOf_100 rfl ?_
  refine j2_getr (k := 5) (r := 75) x hb dX5_teamOf_101 jc_9 wfX5_36 (by decide) rfl ?_
  refine j2_getr (k := 3) (r := 76) x hb dX5_teamOf_104 jc_7 wfX5_190 (by decide) rfl ?_
  refine j_iload_n x dX5_teamOf_107 rfl ?_
  refine j2_callSi x hb dX5_teamOf_108 m_X5_at (c_at (d := d) hb fa_76 (by decide)) wmX5_93 rfl (Nat.le_of_ble_eq_true rfl) (j_fit_rm (by omega) (by omega) (by omega)) rfl ?_
  exact j_ireturn x hr dX5_teamOf_111 (by omega) (by omega) ⟨rfl, rfl⟩
theorem c_teamOf_k2 {d : Nat} {b : SBt} {Y : OUt} {M : MM} (hb : 104 ≤ b.2.1) {t : Int32} (hT : ¬ t < 0 ∧ ¬ M 1 0 ≤ t) {n : Nat} (hn : n ≤ 56) (hm : jmc M = nI n) : CM (d + 5) 1 6 yX5_teamOf cX5_teamOf 3 (some .int) [.ref 0, .int t, .int 2] b Y M (.inl (some (.int (jat 8 (jcount M n 77) t)))) (jcount M n) := by
  refine Con.of (by decide +kernel) (Nat.le_of_ble_eq_true rfl) rfl fun p l e s m args below meth c D tyc A ad0 x hr htab hname => ?_
  change JJ _ _ _ _ _ _ _ _ _ _ _ _ _ _ _ _ _ 0 [some (.ref 0), some (.int t), some (.int 2)] [] _ 0 0
  refine j_aload_n x dX5_teamOf_0 rfl ?_
  refine j_iload_n x dX5_teamOf_1 rfl ?_
  refine j2_callVi x hb dX5_teamOf_2 m_X5_isTeam (CM_v (c_isTeam (d := d) hb) (jb_t hT)) wmX5_174 jc_9 rfl rfl rfl (Nat.le_of_ble_eq_true rfl) (j_fit_rm (by omega) (by omega) (by omega)) rfl ?_
  refine j_if_ne (tgt := 18) x dX5_teamOf_5 (by decide) (fun hc => ?_) (fun hc => absurd hc (by decide))
  refine j_iload_n x dX5_teamOf_18 rfl ?_
  refine j_if_lt (tgt := 28) x dX5_teamOf_19 (by decide) (fun hc => absurd hc (by decide)) (fun hc => ?_)
  refine j_iload_n x dX5_teamOf_22 rfl ?_
  refine j_bipush (v := 8) x dX5_teamOf_23 (by decide) ?_
  refine j_icmp_le (tgt := 38) x dX5_teamOf_25 (by decide) (fun hc => ?_) (fun hc => absurd (by decide) hc)
  refine j_aload_n x dX5_teamOf_38 rfl ?_
  refine j2_callVv x hb dX5_teamOf_39 m_X5_count (c_count (d := d) hb hn hm) wmX5_187 jc_9 rfl rfl rfl (Nat.le_of_ble_eq_true rfl) (j_fit_rm (by omega) (by omega) (by omega)) rfl ?_
  refine j_iload_n x dX5_teamOf_42 rfl ?_
  refine j_tableIn (tgt := 112) x dX5_teamOf_43 (by decide) (by decide) rfl (by decide) ?_
  refine j_aload_n x dX5_teamOf_112 rfl ?_
  refine j2_getr (k := 5) (r := 75) x hb dX5_teamOf_113 jc_9 wfX5_36 (by decide) rfl ?_
  refine j2_getr (k := 4) (r := 77) x hb dX5_teamOf_116 jc_7 wfX5_193 (by decide) rfl ?_
  refine j_iload_n x dX5_teamOf_119 rfl ?_
  refine j2_callSi x hb dX5_teamOf_120 m_X5_at (c_at (d := d) hb fa_77 (by decide)) wmX5_93 rfl (Nat.le_of_ble_eq_true rfl) (j_fit_rm (by omega) (by omega) (by omega)) rfl ?_
  exact j_ireturn x hr dX5_teamOf_123 (by omega) (by omega) ⟨rfl, rfl⟩
theorem c_teamOf_k3 {d : Nat} {b : SBt} {Y : OUt} {M : MM} (hb : 104 ≤ b.2.1) {t : Int32} (hT : ¬ t < 0 ∧ ¬ M 1 0 ≤ t) {n : Nat} (hn : n ≤ 56) (hm : jmc M = nI n) : CM (d + 5) 1 6 yX5_teamOf cX5_teamOf 3 (some .int) [.ref 0, .int t, .int 3] b Y M (.inl (some (.int (jat 8 (jcount M n 78) t)))) (jcount M n) := by
  refine Con.of (by decide +kernel) (Nat.le_of_ble_eq_true rfl) rfl fun p l e s m args below meth c D tyc A ad0 x hr htab hname => ?_
  change JJ _ _ _ _ _ _ _ _ _ _ _ _ _ _ _ _ _ 0 [some (.ref 0), some (.int t), some (.int 3)] [] _ 0 0
  refine j_aload_n x dX5_teamOf_0 rfl ?_
  refine j_iload_n x dX5_teamOf_1 rfl ?_
  refine j2_callVi x hb dX5_teamOf_2 m_X5_isTeam (CM_v (c_isTeam (d := d) hb) (jb_t hT)) wmX5_174 jc_9 rfl rfl rfl (Nat.le_of_ble_eq_true rfl) (j_fit_rm (by omega) (by omega) (by omega)) rfl ?_
  refine j_if_ne (tgt := 18) x dX5_teamOf_5 (by decide) (fun hc => ?_) (fun hc => absurd hc (by decide))
  refine j_iload_n x dX5_teamOf_18 rfl ?_
  refine j_if_lt (tgt := 28) x dX5_teamOf_19 (by decide) (fun hc => absurd hc (by decide)) (fun hc => ?_)
  refine j_iload_n x dX5_teamOf_22 rfl ?_
  refine j_bipush (v := 8) x dX5_teamOf_23 (by decide) ?_
  refine j_icmp_le (tgt := 38) x dX5_teamOf_25 (by decide) (fun hc => ?_) (fun hc => absurd (by decide) hc)
  refine j_aload_n x dX5_teamOf_38 rfl ?_
  refine j2_callVv x hb dX5_teamOf_39 m_X5_count (c_count (d := d) hb hn hm) wmX5_187 jc_9 rfl rfl rfl (Nat.le_of_ble_eq_true rfl) (j_fit_rm (by omega) (by omega) (by omega)) rfl ?_
  refine j_iload_n x dX5_teamOf_42 rfl ?_
  refine j_tableIn (tgt := 124) x dX5_teamOf_43 (by decide) (by decide) rfl (by decide) ?_
  refine j_aload_n x dX5_teamOf_124 rfl ?_
  refine j2_getr (k := 5) (r := 75) x hb dX5_teamOf_125 jc_9 wfX5_36 (by decide) rfl ?_
  refine j2_getr (k := 5) (r := 78) x hb dX5_teamOf_128 jc_7 wfX5_196 (by decide) rfl ?_
  refine j_iload_n x dX5_teamOf_131 rfl ?_
  refine j2_callSi x hb dX5_teamOf_132 m_X5_at (c_at (d := d) hb fa_78 (by decide)) wmX5_93 rfl (Nat.le_of_ble_eq_true rfl) (j_fit_rm (by omega) (by omega) (by omega)) rfl ?_
  exact j_ireturn x hr dX5_teamOf_135 (by omega) (by omega) ⟨rfl, rfl⟩
theorem c_teamOf_k4 {d : Nat} {b : SBt} {Y : OUt} {M : MM} (hb : 104 ≤ b.2.1) {t : Int32} (hT : ¬ t < 0 ∧ ¬ M 1 0 ≤ t) {n : Nat} (hn : n ≤ 56) (hm : jmc M = nI n) : CM (d + 5) 1 6 yX5_teamOf cX5_teamOf 3 (some .int) [.ref 0, .int t, .int 4] b Y M (.inl (some (.int (jat 8 (jcount M n 79) t)))) (jcount M n) := by
  refine Con.of (by decide +kernel) (Nat.le_of_ble_eq_true rfl) rfl fun p l e s m args below meth c D tyc A ad0 x hr htab hname => ?_
  change JJ _ _ _ _ _ _ _ _ _ _ _ _ _ _ _ _ _ 0 [some (.ref 0), some (.int t), some (.int 4)] [] _ 0 0
  refine j_aload_n x dX5_teamOf_0 rfl ?_
  refine j_iload_n x dX5_teamOf_1 rfl ?_
  refine j2_callVi x hb dX5_teamOf_2 m_X5_isTeam (CM_v (c_isTeam (d := d) hb) (jb_t hT)) wmX5_174 jc_9 rfl rfl rfl (Nat.le_of_ble_eq_true rfl) (j_fit_rm (by omega) (by omega) (by omega)) rfl ?_
  refine j_if_ne (tgt := 18) x dX5_teamOf_5 (by decide) (fun hc => ?_) (fun hc => absurd hc (by decide))
  refine j_iload_n x dX5_teamOf_18 rfl ?_
  refine j_if_lt (tgt := 28) x dX5_teamOf_19 (by decide) (fun hc => absurd hc (by decide)) (fun hc => ?_)
  refine j_iload_n x dX5_teamOf_22 rfl ?_
  refine j_bipush (v := 8) x dX5_teamOf_23 (by decide) ?_
  refine j_icmp_le (tgt := 38) x dX5_teamOf_25 (by decide) (fun hc => ?_) (fun hc => absurd (by decide) hc)
  refine j_aload_n x dX5_teamOf_38 rfl ?_
  refine j2_callVv x hb dX5_teamOf_39 m_X5_count (c_count (d := d) hb hn hm) wmX5_187 jc_9 rfl rfl rfl (Nat.le_of_ble_eq_true rfl) (j_fit_rm (by omega) (by omega) (by omega)) rfl ?_
  refine j_iload_n x dX5_teamOf_42 rfl ?_
  refine j_tableIn (tgt := 136) x dX5_teamOf_43 (by decide) (by decide) rfl (by decide) ?_
  refine j_aload_n x dX5_teamOf_136 rfl ?_
  refine j2_getr (k := 5) (r := 75) x hb dX5_teamOf_137 jc_9 wfX5_36 (by decide) rfl ?_
  refine j2_getr (k := 6) (r := 79) x hb dX5_teamOf_140 jc_7 wfX5_199 (by decide) rfl ?_
  refine j_iload_n x dX5_teamOf_143 rfl ?_
  refine j2_callSi x hb dX5_teamOf_144 m_X5_at (c_at (d := d) hb fa_79 (by decide)) wmX5_93 rfl (Nat.le_of_ble_eq_true rfl) (j_fit_rm (by omega) (by omega) (by omega)) rfl ?_
  exact j_ireturn x hr dX5_teamOf_147 (by omega) (by omega) ⟨rfl, rfl⟩
theorem c_teamOf_k5 {d : Nat} {b : SBt} {Y : OUt} {M : MM} (hb : 104 ≤ b.2.1) {t : Int32} (hT : ¬ t < 0 ∧ ¬ M 1 0 ≤ t) {n : Nat} (hn : n ≤ 56) (hm : jmc M = nI n) : CM (d + 5) 1 6 yX5_teamOf cX5_teamOf 3 (some .int) [.ref 0, .int t, .int 5] b Y M (.inl (some (.int (jat 8 (jcount M n 80) t)))) (jcount M n) := by
  refine Con.of (by decide +kernel) (Nat.le_of_ble_eq_true rfl) rfl fun p l e s m args below meth c D tyc A ad0 x hr htab hname => ?_
  change JJ _ _ _ _ _ _ _ _ _ _ _ _ _ _ _ _ _ 0 [some (.ref 0), some (.int t), some (.int 5)] [] _ 0 0
  refine j_aload_n x dX5_teamOf_0 rfl ?_
  refine j_iload_n x dX5_teamOf_1 rfl ?_
  refine j2_callVi x hb dX5_teamOf_2 m_X5_isTeam (CM_v (c_isTeam (d := d) hb) (jb_t hT)) wmX5_174 jc_9 rfl rfl rfl (Nat.le_of_ble_eq_true rfl) (j_fit_rm (by omega) (by omega) (by omega)) rfl ?_
  refine j_if_ne (tgt := 18) x dX5_teamOf_5 (by decide) (fun hc => ?_) (fun hc => absurd hc (by decide))
  refine j_iload_n x dX5_teamOf_18 rfl ?_
  refine j_if_lt (tgt := 28) x dX5_teamOf_19 (by decide) (fun hc => absurd hc (by decide)) (fun hc => ?_)
  refine j_iload_n x dX5_teamOf_22 rfl ?_
  refine j_bipush (v := 8) x dX5_teamOf_23 (by decide) ?_
  refine j_icmp_le (tgt := 38) x dX5_teamOf_25 (by decide) (fun hc => ?_) (fun hc => absurd (by decide) hc)
  refine j_aload_n x dX5_teamOf_38 rfl ?_
  refine j2_callVv x hb dX5_teamOf_39 m_X5_count (c_count (d := d) hb hn hm) wmX5_187 jc_9 rfl rfl rfl (Nat.le_of_ble_eq_true rfl) (j_fit_rm (by omega) (by omega) (by omega)) rfl ?_
  refine j_iload_n x dX5_teamOf_42 rfl ?_
  refine j_tableIn (tgt := 148) x dX5_teamOf_43 (by decide) (by decide) rfl (by decide) ?_
  refine j_aload_n x dX5_teamOf_148 rfl ?_
  refine j2_getr (k := 5) (r := 75) x hb dX5_teamOf_149 jc_9 wfX5_36 (by decide) rfl ?_
  refine j2_getr (k := 7) (r := 80) x hb dX5_teamOf_152 jc_7 wfX5_202 (by decide) rfl ?_
  refine j_iload_n x dX5_teamOf_155 rfl ?_
  refine j2_callSi x hb dX5_teamOf_156 m_X5_at (c_at (d := d) hb fa_80 (by decide)) wmX5_93 rfl (Nat.le_of_ble_eq_true rfl) (j_fit_rm (by omega) (by omega) (by omega)) rfl ?_
  exact j_ireturn x hr dX5_teamOf_159 (by omega) (by omega) ⟨rfl, rfl⟩
theorem c_teamOf_k6 {d : Nat} {b : SBt} {Y : OUt} {M : MM} (hb : 104 ≤ b.2.1) {t : Int32} (hT : ¬ t < 0 ∧ ¬ M 1 0 ≤ t) {n : Nat} (hn : n ≤ 56) (hm : jmc M = nI n) : CM (d + 5) 1 6 yX5_teamOf cX5_teamOf 3 (some .int) [.ref 0, .int t, .int 6] b Y M (.inl (some (.int (jat 8 (jcount M n 81) t)))) (jcount M n) := by
  refine Con.of (by decide +kernel) (Nat.le_of_ble_eq_true rfl) rfl fun p l e s m args below meth c D tyc A ad0 x hr htab hname => ?_
  change JJ _ _ _ _ _ _ _ _ _ _ _ _ _ _ _ _ _ 0 [some (.ref 0), some (.int t), some (.int 6)] [] _ 0 0
  refine j_aload_n x dX5_teamOf_0 rfl ?_
  refine j_iload_n x dX5_teamOf_1 rfl ?_
  refine j2_callVi x hb dX5_teamOf_2 m_X5_isTeam (CM_v (c_isTeam (d := d) hb) (jb_t hT)) wmX5_174 jc_9 rfl rfl rfl (Nat.le_of_ble_eq_true rfl) (j_fit_rm (by omega) (by omega) (by omega)) rfl ?_
  refine j_if_ne (tgt := 18) x dX5_teamOf_5 (by decide) (fun hc => ?_) (fun hc => absurd hc (by decide))
  refine j_iload_n x dX5_teamOf_18 rfl ?_
  refine j_if_lt (tgt := 28) x dX5_teamOf_19 (by decide) (fun hc => absurd hc (by decide)) (fun hc => ?_)
  refine j_iload_n x dX5_teamOf_22 rfl ?_
  refine j_bipush (v := 8) x dX5_teamOf_23 (by decide) ?_
  refine j_icmp_le (tgt := 38) x dX5_teamOf_25 (by decide) (fun hc => ?_) (fun hc => absurd (by decide) hc)
  refine j_aload_n x dX5_teamOf_38 rfl ?_
  refine j2_callVv x hb dX5_teamOf_39 m_X5_count (c_count (d := d) hb hn hm) wmX5_187 jc_9 rfl rfl rfl (Nat.le_of_ble_eq_true rfl) (j_fit_rm (by omega) (by omega) (by omega)) rfl ?_
  refine j_iload_n x dX5_teamOf_42 rfl ?_
  refine j_tableIn (tgt := 160) x dX5_teamOf_43 (by decide) (by decide) rfl (by decide) ?_
  refine j_aload_n x dX5_teamOf_160 rfl ?_
  refine j2_getr (k := 5) (r := 75) x hb dX5_teamOf_161 jc_9 wfX5_36 (by decide) rfl ?_
  refine j2_getr (k := 8) (r := 81) x hb dX5_teamOf_164 jc_7 wfX5_205 (by decide) rfl ?_
  refine j_iload_n x dX5_teamOf_167 rfl ?_
  refine j2_callSi x hb dX5_teamOf_168 m_X5_at (c_at (d := d) hb fa_81 (by decide)) wmX5_93 rfl (Nat.le_of_ble_eq_true rfl) (j_fit_rm (by omega) (by omega) (by omega)) rfl ?_
  exact j_ireturn x hr dX5_teamOf_171 (by omega) (by omega) ⟨rfl, rfl⟩
theorem c_teamOf_k7 {d : Nat} {b : SBt} {Y : OUt} {M : MM} (hb : 104 ≤ b.2.1) {t : Int32} (hT : ¬ t < 0 ∧ ¬ M 1 0 ≤ t) {n : Nat} (hn : n ≤ 56) (hm : jmc M = nI n) : CM (d + 5) 1 6 yX5_teamOf cX5_teamOf 3 (some .int) [.ref 0, .int t, .int 7] b Y M (.inl (some (.int (jat 8 (jcount M n 82) t)))) (jcount M n) := by
  refine Con.of (by decide +kernel) (Nat.le_of_ble_eq_true rfl) rfl fun p l e s m args below meth c D tyc A ad0 x hr htab hname => ?_
  change JJ _ _ _ _ _ _ _ _ _ _ _ _ _ _ _ _ _ 0 [some (.ref 0), some (.int t), some (.int 7)] [] _ 0 0
  refine j_aload_n x dX5_teamOf_0 rfl ?_
  refine j_iload_n x dX5_teamOf_1 rfl ?_
  refine j2_callVi x hb dX5_teamOf_2 m_X5_isTeam (CM_v (c_isTeam (d := d) hb) (jb_t hT)) wmX5_174 jc_9 rfl rfl rfl (Nat.le_of_ble_eq_true rfl) (j_fit_rm (by omega) (by omega) (by omega)) rfl ?_
  refine j_if_ne (tgt := 18) x dX5_teamOf_5 (by decide) (fun hc => ?_) (fun hc => absurd hc (by decide))
  refine j_iload_n x dX5_teamOf_18 rfl ?_
  refine j_if_lt (tgt := 28) x dX5_teamOf_19 (by decide) (fun hc => absurd hc (by decide)) (fun hc => ?_)
  refine j_iload_n x dX5_teamOf_22 rfl ?_
  refine j_bipush (v := 8) x dX5_teamOf_23 (by decide) ?_
  refine j_icmp_le (tgt := 38) x dX5_teamOf_25 (by decide) (fun hc => ?_) (fun hc => absurd (by decide) hc)
  refine j_aload_n x dX5_teamOf_38 rfl ?_
  refine j2_callVv x hb dX5_teamOf_39 m_X5_count (c_count (d := d) hb hn hm) wmX5_187 jc_9 rfl rfl rfl (Nat.le_of_ble_eq_true rfl) (j_fit_rm (by omega) (by omega) (by omega)) rfl ?_
  refine j_iload_n x dX5_teamOf_42 rfl ?_
  refine j_tableIn (tgt := 172) x dX5_teamOf_43 (by decide) (by decide) rfl (by decide) ?_
  refine j_aload_n x dX5_teamOf_172 rfl ?_
  refine j2_getr (k := 5) (r := 75) x hb dX5_teamOf_173 jc_9 wfX5_36 (by decide) rfl ?_
  refine j2_getr (k := 9) (r := 82) x hb dX5_teamOf_176 jc_7 wfX5_208 (by decide) rfl ?_
  refine j_iload_n x dX5_teamOf_179 rfl ?_
  refine j2_callSi x hb dX5_teamOf_180 m_X5_at (c_at (d := d) hb fa_82 (by decide)) wmX5_93 rfl (Nat.le_of_ble_eq_true rfl) (j_fit_rm (by omega) (by omega) (by omega)) rfl ?_
  exact j_ireturn x hr dX5_teamOf_183 (by omega) (by omega) ⟨rfl, rfl⟩
theorem c_teamOf_k8 {d : Nat} {b : SBt} {Y : OUt} {M : MM} (hb : 104 ≤ b.2.1) {t : Int32} (hT : ¬ t < 0 ∧ ¬ M 1 0 ≤ t) {n : Nat} (hn : n ≤ 56) (hm : jmc M = nI n) : CM (d + 5) 1 6 yX5_teamOf cX5_teamOf 3 (some .int) [.ref 0, .int t, .int 8] b Y M (.inl (some (.int (jat 8 (jcount M n 83) t)))) (jcount M n) := by
  refine Con.of (by decide +kernel) (Nat.le_of_ble_eq_true rfl) rfl fun p l e s m args below meth c D tyc A ad0 x hr htab hname => ?_
  change JJ _ _ _ _ _ _ _ _ _ _ _ _ _ _ _ _ _ 0 [some (.ref 0), some (.int t), some (.int 8)] [] _ 0 0
  refine j_aload_n x dX5_teamOf_0 rfl ?_
  refine j_iload_n x dX5_teamOf_1 rfl ?_
  refine j2_callVi x hb dX5_teamOf_2 m_X5_isTeam (CM_v (c_isTeam (d := d) hb) (jb_t hT)) wmX5_174 jc_9 rfl rfl rfl (Nat.le_of_ble_eq_true rfl) (j_fit_rm (by omega) (by omega) (by omega)) rfl ?_
  refine j_if_ne (tgt := 18) x dX5_teamOf_5 (by decide) (fun hc => ?_) (fun hc => absurd hc (by decide))
  refine j_iload_n x dX5_teamOf_18 rfl ?_
  refine j_if_lt (tgt := 28) x dX5_teamOf_19 (by decide) (fun hc => absurd hc (by decide)) (fun hc => ?_)
  refine j_iload_n x dX5_teamOf_22 rfl ?_
  refine j_bipush (v := 8) x dX5_teamOf_23 (by decide) ?_
  refine j_icmp_le (tgt := 38) x dX5_teamOf_25 (by decide) (fun hc => ?_) (fun hc => absurd (by decide) hc)
  refine j_aload_n x dX5_teamOf_38 rfl ?_
  refine j2_callVv x hb dX5_teamOf_39 m_X5_count (c_count (d := d) hb hn hm) wmX5_187 jc_9 rfl rfl rfl (Nat.le_of_ble_eq_true rfl) (j_fit_rm (by omega) (by omega) (by omega)) rfl ?_
  refine j_iload_n x dX5_teamOf_42 rfl ?_
  refine j_tableOut (tgt := 184) x dX5_teamOf_43 (by decide) (by decide) ?_
  refine j_aload_n x dX5_teamOf_184 rfl ?_
  refine j2_getr (k := 5) (r := 75) x hb dX5_teamOf_185 jc_9 wfX5_36 (by decide) rfl ?_
  refine j2_getr (k := 10) (r := 83) x hb dX5_teamOf_188 jc_7 wfX5_211 (by decide) rfl ?_
  refine j_iload_n x dX5_teamOf_191 rfl ?_
  refine j2_callSi x hb dX5_teamOf_192 m_X5_at (c_at (d := d) hb fa_83 (by decide)) wmX5_93 rfl (Nat.le_of_ble_eq_true rfl) (j_fit_rm (by omega) (by omega) (by omega)) rfl ?_
  exact j_ireturn x hr dX5_teamOf_195 (by omega) (by omega) ⟨rfl, rfl⟩
theorem c_pointsAgain {d : Nat} {b : SBt} {Y : OUt} {M : MM} (hb : 104 ≤ b.2.1) {t : Int32} (hT : ¬ t < 0 ∧ ¬ M 1 0 ≤ t) {n : Nat} (hn : n ≤ 56) (hm : jmc M = nI n) : CM (d + 5) 1 6 yX5_pointsAgain cX5_pointsAgain 2 (some .int) [.ref 0, .int t] b Y M (.inl (some (.int (jat 8 (jcount M n 77) t * jcount M n 1 4 + jat 8 (jcount M n 78) t * jcount M n 1 5)))) (jcount M n) := by
  refine Con.of (by decide +kernel) (Nat.le_of_ble_eq_true rfl) rfl fun p l e s m args below meth c D tyc A ad0 x hr htab hname => ?_
  change JJ _ _ _ _ _ _ _ _ _ _ _ _ _ _ _ _ _ 0 [some (.ref 0), some (.int t)] [] _ 0 0
  refine j_aload_n x dX5_pointsAgain_0 rfl ?_
  refine j_iload_n x dX5_pointsAgain_1 rfl ?_
  refine j2_callVi x hb dX5_pointsAgain_2 m_X5_isTeam (CM_v (c_isTeam (d := d) hb) (jb_t hT)) wmX5_174 jc_9 rfl rfl rfl (Nat.le_of_ble_eq_true rfl) (j_fit_rm (by omega) (by omega) (by omega)) rfl ?_
  refine j_if_ne (tgt := 18) x dX5_pointsAgain_5 (by decide) (fun hc => ?_) (fun hc => absurd hc (by decide))
  refine j_aload_n x dX5_pointsAgain_18 rfl ?_
  refine j2_callVv x hb dX5_pointsAgain_19 m_X5_count (c_count (d := d) hb hn hm) wmX5_187 jc_9 rfl rfl rfl (Nat.le_of_ble_eq_true rfl) (j_fit_rm (by omega) (by omega) (by omega)) rfl ?_
  refine j_aload_n x dX5_pointsAgain_22 rfl ?_
  refine j2_getr (k := 5) (r := 75) x hb dX5_pointsAgain_23 jc_9 wfX5_36 (by decide) rfl ?_
  refine j2_getr (k := 4) (r := 77) x hb dX5_pointsAgain_26 jc_7 wfX5_193 (by decide) rfl ?_
  refine j_iload_n x dX5_pointsAgain_29 rfl ?_
  refine j2_callSi x hb dX5_pointsAgain_30 m_X5_at (c_at (d := d) hb fa_77 (by decide)) wmX5_93 rfl (Nat.le_of_ble_eq_true rfl) (j_fit_rm (by omega) (by omega) (by omega)) rfl ?_
  refine j_aload_n x dX5_pointsAgain_33 rfl ?_
  refine j2_getr (k := 0) (r := 1) x hb dX5_pointsAgain_34 jc_9 wfX5_10 (by decide) rfl ?_
  refine j2_geti (k := 4) x hb dX5_pointsAgain_37 jc_6 wfX5_119 (by decide) rfl ?_
  refine j_imul x dX5_pointsAgain_40 ?_
  refine j_aload_n x dX5_pointsAgain_41 rfl ?_
  refine j2_getr (k := 5) (r := 75) x hb dX5_pointsAgain_42 jc_9 wfX5_36 (by decide) rfl ?_
  refine j2_getr (k := 5) (r := 78) x hb dX5_pointsAgain_45 jc_7 wfX5_196 (by decide) rfl ?_
  refine j_iload_n x dX5_pointsAgain_48 rfl ?_
  refine j2_callSi x hb dX5_pointsAgain_49 m_X5_at (c_at (d := d) hb fa_78 (by decide)) wmX5_93 rfl (Nat.le_of_ble_eq_true rfl) (j_fit_rm (by omega) (by omega) (by omega)) rfl ?_
  refine j_aload_n x dX5_pointsAgain_52 rfl ?_
  refine j2_getr (k := 0) (r := 1) x hb dX5_pointsAgain_53 jc_9 wfX5_10 (by decide) rfl ?_
  refine j2_geti (k := 5) x hb dX5_pointsAgain_56 jc_6 wfX5_122 (by decide) rfl ?_
  refine j_imul x dX5_pointsAgain_59 ?_
  refine j_iadd x dX5_pointsAgain_60 ?_
  exact j_ireturn x hr dX5_pointsAgain_61 (by omega) (by omega) ⟨rfl, rfl⟩
theorem c_most {d : Nat} {b : SBt} {Y : OUt} {M : MM} (hb : 104 ≤ b.2.1) {t : Int32} (hT : ¬ t < 0 ∧ ¬ M 1 0 ≤ t) {n : Nat} (hn : n ≤ 56) (hm : jmc M = nI n) : CM (d + 5) 1 6 yX5_most cX5_most 2 (some .int) [.ref 0, .int t] b Y M (.inl (some (.int (jat 8 (jcount M n 76) t + jcount M n 1 4 * jat 8 (jcount M n 83) t)))) (jcount M n) := by
  refine Con.of (by decide +kernel) (Nat.le_of_ble_eq_true rfl) rfl fun p l e s m args below meth c D tyc A ad0 x hr htab hname => ?_
  change JJ _ _ _ _ _ _ _ _ _ _ _ _ _ _ _ _ _ 0 [some (.ref 0), some (.int t)] [] _ 0 0
  refine j_aload_n x dX5_most_0 rfl ?_
  refine j_iload_n x dX5_most_1 rfl ?_
  refine j2_callVi x hb dX5_most_2 m_X5_isTeam (CM_v (c_isTeam (d := d) hb) (jb_t hT)) wmX5_174 jc_9 rfl rfl rfl (Nat.le_of_ble_eq_true rfl) (j_fit_rm (by omega) (by omega) (by omega)) rfl ?_
  refine j_if_ne (tgt := 18) x dX5_most_5 (by decide) (fun hc => ?_) (fun hc => absurd hc (by decide))
  refine j_aload_n x dX5_most_18 rfl ?_
  refine j2_callVv x hb dX5_most_19 m_X5_count (c_count (d := d) hb hn hm) wmX5_187 jc_9 rfl rfl rfl (Nat.le_of_ble_eq_true rfl) (j_fit_rm (by omega) (by omega) (by omega)) rfl ?_
  refine j_aload_n x dX5_most_22 rfl ?_
  refine j2_getr (k := 5) (r := 75) x hb dX5_most_23 jc_9 wfX5_36 (by decide) rfl ?_
  refine j2_getr (k := 3) (r := 76) x hb dX5_most_26 jc_7 wfX5_190 (by decide) rfl ?_
  refine j_iload_n x dX5_most_29 rfl ?_
  refine j2_callSi x hb dX5_most_30 m_X5_at (c_at (d := d) hb fa_76 (by decide)) wmX5_93 rfl (Nat.le_of_ble_eq_true rfl) (j_fit_rm (by omega) (by omega) (by omega)) rfl ?_
  refine j_aload_n x dX5_most_33 rfl ?_
  refine j2_getr (k := 0) (r := 1) x hb dX5_most_34 jc_9 wfX5_10 (by decide) rfl ?_
  refine j2_geti (k := 4) x hb dX5_most_37 jc_6 wfX5_119 (by decide) rfl ?_
  refine j_aload_n x dX5_most_40 rfl ?_
  refine j2_getr (k := 5) (r := 75) x hb dX5_most_41 jc_9 wfX5_36 (by decide) rfl ?_
  refine j2_getr (k := 10) (r := 83) x hb dX5_most_44 jc_7 wfX5_211 (by decide) rfl ?_
  refine j_iload_n x dX5_most_47 rfl ?_
  refine j2_callSi x hb dX5_most_48 m_X5_at (c_at (d := d) hb fa_83 (by decide)) wmX5_93 rfl (Nat.le_of_ble_eq_true rfl) (j_fit_rm (by omega) (by omega) (by omega)) rfl ?_
  refine j_imul x dX5_most_51 ?_
  refine j_iadd x dX5_most_52 ?_
  exact j_ireturn x hr dX5_most_53 (by omega) (by omega) ⟨rfl, rfl⟩
theorem c_isSafe {d : Nat} {b : SBt} {Y : OUt} {M : MM} (hb : 104 ≤ b.2.1) {t : Int32} (hT : ¬ t < 0 ∧ ¬ M 1 0 ≤ t) {n : Nat} (hn : n ≤ 56) (hm : jmc M = nI n) {w : Nat} (hw : w ≤ 8) (h0 : M 1 0 = nI w) : CM (d + 5) 1 6 yX5_isSafe cX5_isSafe 2 (some .boolean) [.ref 0, .int t] b Y M (.inl (some (.int (jb (jfst (fSafe (jcount M n) t) w = -1))))) (jcount M n) := by
  refine Con.of (by decide +kernel) (Nat.le_of_ble_eq_true rfl) rfl fun p l e s m args below meth c D tyc A ad0 x hr htab hname => ?_
  change JJ _ _ _ _ _ _ _ _ _ _ _ _ _ _ _ _ _ 0 [some (.ref 0), some (.int t)] [] _ 0 0
  refine j_aload_n x dX5_isSafe_0 rfl ?_
  refine j_iload_n x dX5_isSafe_1 rfl ?_
  refine j2_callVi x hb dX5_isSafe_2 m_X5_isTeam (CM_v (c_isTeam (d := d) hb) (jb_t hT)) wmX5_174 jc_9 rfl rfl rfl (Nat.le_of_ble_eq_true rfl) (j_fit_rm (by omega) (by omega) (by omega)) rfl ?_
  refine j_if_ne (tgt := 18) x dX5_isSafe_5 (by decide) (fun hc => ?_) (fun hc => absurd hc (by decide))
  refine j_aload_n x dX5_isSafe_18 rfl ?_
  refine j2_callVv x hb dX5_isSafe_19 m_X5_count (c_count (d := d) hb hn hm) wmX5_187 jc_9 rfl rfl rfl (Nat.le_of_ble_eq_true rfl) (j_fit_rm (by omega) (by omega) (by omega)) rfl ?_
  refine j_aload_n x dX5_isSafe_22 rfl ?_
  refine j_iload_n x dX5_isSafe_23 rfl ?_
  refine j2_callVi x hb dX5_isSafe_24 m_X5_isBeyondOthers (c_isBeyondOthers (d := d) hb hw (by rw [jcount_n (by omega)]; exact h0)) wmX5_282 jc_9 rfl rfl rfl (Nat.le_of_ble_eq_true rfl) (j_fit_rm (by omega) (by omega) (by omega)) rfl ?_
  exact j_zreturn x hr dX5_isSafe_27 (by first | decide | with_reducible exact jb_nar | with_reducible exact jisS_nar | with_reducible exact gno_nar) (by omega) (by omega) ⟨rfl, rfl⟩
theorem c_isOut {d : Nat} {b : SBt} {Y : OUt} {M : MM} (hb : 104 ≤ b.2.1) {t : Int32} (hT : ¬ t < 0 ∧ ¬ M 1 0 ≤ t) {n : Nat} (hn : n ≤ 56) (hm : jmc M = nI n) {w : Nat} (hw : w ≤ 8) (h0 : M 1 0 = nI w) : CM (d + 5) 1 6 yX5_isOut cX5_isOut 2 (some .boolean) [.ref 0, .int t] b Y M (.inl (some (.int (jb (¬ jfst (fOut (jcount M n) t) w = -1))))) (jcount M n) := by
  refine Con.of (by decide +kernel) (Nat.le_of_ble_eq_true rfl) rfl fun p l e s m args below meth c D tyc A ad0 x hr htab hname => ?_
  change JJ _ _ _ _ _ _ _ _ _ _ _ _ _ _ _ _ _ 0 [some (.ref 0), some (.int t)] [] _ 0 0
  refine j_aload_n x dX5_isOut_0 rfl ?_
  refine j_iload_n x dX5_isOut_1 rfl ?_
  refine j2_callVi x hb dX5_isOut_2 m_X5_isTeam (CM_v (c_isTeam (d := d) hb) (jb_t hT)) wmX5_174 jc_9 rfl rfl rfl (Nat.le_of_ble_eq_true rfl) (j_fit_rm (by omega) (by omega) (by omega)) rfl ?_
  refine j_if_ne (tgt := 18) x dX5_isOut_5 (by decide) (fun hc => ?_) (fun hc => absurd hc (by decide))
  refine j_aload_n x dX5_isOut_18 rfl ?_
  refine j2_callVv x hb dX5_isOut_19 m_X5_count (c_count (d := d) hb hn hm) wmX5_187 jc_9 rfl rfl rfl (Nat.le_of_ble_eq_true rfl) (j_fit_rm (by omega) (by omega) (by omega)) rfl ?_
  refine j_aload_n x dX5_isOut_22 rfl ?_
  refine j_iload_n x dX5_isOut_23 rfl ?_
  refine j2_callVi x hb dX5_isOut_24 m_X5_isBehindAnother (c_isBehindAnother (d := d) hb hw (by rw [jcount_n (by omega)]; exact h0)) wmX5_285 jc_9 rfl rfl rfl (Nat.le_of_ble_eq_true rfl) (j_fit_rm (by omega) (by omega) (by omega)) rfl ?_
  exact j_zreturn x hr dX5_isOut_27 (by first | decide | with_reducible exact jb_nar | with_reducible exact jisS_nar | with_reducible exact gno_nar) (by omega) (by omega) ⟨rfl, rfl⟩
theorem c_valueOf_bad {d : Nat} {b : SBt} {Y : OUt} {M : MM} (hb : 104 ≤ b.2.1) {t u : Int32} (hT : ¬ t < 0 ∧ ¬ M 1 0 ≤ t) (hx : u < 0 ∨ ¬ u ≤ 4) : CM (d + 1) 1 6 yX5_valueOf cX5_valueOf 3 (some .int) [.ref 0, .int t, .int u] b Y M (.inr "java/lang/IllegalArgumentException") (M) := by
  refine Con.of (by decide +kernel) (Nat.le_of_ble_eq_true rfl) rfl fun p l e s m args below meth c D tyc A ad0 x hr htab hname => ?_
  change JJ _ _ _ _ _ _ _ _ _ _ _ _ _ _ _ _ _ 0 [some (.ref 0), some (.int t), some (.int u)] [] _ 0 0
  refine j_aload_n x dX5_valueOf_0 rfl ?_
  refine j_iload_n x dX5_valueOf_1 rfl ?_
  refine j2_callVi x hb dX5_valueOf_2 m_X5_isTeam (CM_v (c_isTeam (d := d) hb) (jb_t hT)) wmX5_174 jc_9 rfl rfl rfl (Nat.le_of_ble_eq_true rfl) (j_fit_rm (by omega) (by omega) (by omega)) rfl ?_
  refine j_if_ne (tgt := 18) x dX5_valueOf_5 (by decide) (fun hc => ?_) (fun hc => absurd hc (by decide))
  refine j_iload_n x dX5_valueOf_18 rfl ?_
  refine j_if_lt (tgt := 27) x dX5_valueOf_19 (by decide) (fun h1 => ?_) (fun h1 => ?_)
  · exact j_throwSW x exX5_182 wsX5_277 dX5_valueOf_27 dX5_valueOf_30 dX5_valueOf_31 dX5_valueOf_34 dX5_valueOf_37 htab (by omega) (by omega) ⟨rfl, rfl⟩
  · refine j_iload_n x dX5_valueOf_22 rfl ?_
    refine j_iconst (v := 4) x dX5_valueOf_23 (by decide) ?_
    refine j_icmp_le (tgt := 38) x dX5_valueOf_24 (by decide) (fun hc => absurd hc (hx.resolve_left h1)) (fun hc => ?_)
    exact j_throwSW x exX5_182 wsX5_277 dX5_valueOf_27 dX5_valueOf_30 dX5_valueOf_31 dX5_valueOf_34 dX5_valueOf_37 htab (by omega) (by omega) ⟨rfl, rfl⟩
theorem c_valueOf {d : Nat} {b : SBt} {Y : OUt} {M : MM} (hb : 104 ≤ b.2.1) {t u : Int32} (hT : ¬ t < 0 ∧ ¬ M 1 0 ≤ t) (hx : ¬ (u < 0 ∨ ¬ u ≤ 4)) (hu : u = 0 ∨ u = 1 ∨ u = 2 ∨ u = 3 ∨ u = 4) {n : Nat} (hn : n ≤ 56) (hm : jmc M = nI n) : CM (d + 5) 1 6 yX5_valueOf cX5_valueOf 3 (some .int) [.ref 0, .int t, .int u] b Y M (.inl (some (.int (jwo (jcount M n) t u)))) (jcount M n) := by
  refine Con.of (by decide +kernel) (Nat.le_of_ble_eq_true rfl) rfl fun p l e s m args below meth c D tyc A ad0 x hr htab hname => ?_
  change JJ _ _ _ _ _ _ _ _ _ _ _ _ _ _ _ _ _ 0 [some (.ref 0), some (.int t), some (.int u)] [] _ 0 0
  refine j_aload_n x dX5_valueOf_0 rfl ?_
  refine j_iload_n x dX5_valueOf_1 rfl ?_
  refine j2_callVi x hb dX5_valueOf_2 m_X5_isTeam (CM_v (c_isTeam (d := d) hb) (jb_t hT)) wmX5_174 jc_9 rfl rfl rfl (Nat.le_of_ble_eq_true rfl) (j_fit_rm (by omega) (by omega) (by omega)) rfl ?_
  refine j_if_ne (tgt := 18) x dX5_valueOf_5 (by decide) (fun hc => ?_) (fun hc => absurd hc (by decide))
  refine j_iload_n x dX5_valueOf_18 rfl ?_
  refine j_if_lt (tgt := 27) x dX5_valueOf_19 (by decide) (fun hc => absurd hc (fun q => hx (Or.inl q))) (fun hc => ?_)
  refine j_iload_n x dX5_valueOf_22 rfl ?_
  refine j_iconst (v := 4) x dX5_valueOf_23 (by decide) ?_
  refine j_icmp_le (tgt := 38) x dX5_valueOf_24 (by decide) (fun hc => ?_) (fun hc => absurd (Decidable.byContradiction fun q => hx (Or.inr q)) hc)
  refine j_aload_n x dX5_valueOf_38 rfl ?_
  refine j2_callVv x hb dX5_valueOf_39 m_X5_count (c_count (d := d) hb hn hm) wmX5_187 jc_9 rfl rfl rfl (Nat.le_of_ble_eq_true rfl) (j_fit_rm (by omega) (by omega) (by omega)) rfl ?_
  refine j_aload_n x dX5_valueOf_42 rfl ?_
  refine j2_getr (k := 5) (r := 75) x hb dX5_valueOf_43 jc_9 wfX5_36 (by decide) rfl ?_
  refine j_iload_n x dX5_valueOf_46 rfl ?_
  refine j_iload_n x dX5_valueOf_47 rfl ?_
  refine j2_callVi x hb dX5_valueOf_48 m_X3_worth (c_worth (d := d) hb hu) wmX5_279 jc_7 rfl rfl rfl (Nat.le_of_ble_eq_true rfl) (j_fit_rm (by omega) (by omega) (by omega)) rfl ?_
  exact j_ireturn x hr dX5_valueOf_51 (by omega) (by omega) ⟨rfl, rfl⟩
def fPlace (M : MM) (r : Nat) (t : Int32) (i : Nat) : Int32 := if jah M r (nI i) t = 0 then 0 else 1
theorem c_placeOf {d : Nat} {b : SBt} {Y : OUt} {M : MM} (hb : 104 ≤ b.2.1) {t : Int32} (hT : ¬ t < 0 ∧ ¬ M 1 0 ≤ t) {n : Nat} (hn : n ≤ 56) (hm : jmc M = nI n) {w : Nat} (hw : w ≤ 8) (h0 : M 1 0 = nI w) {r : Nat} (hr3 : r ≤ 3) (h6 : M 1 6 = nI r) (hru : ∀ i, i < r → M 3 i = 0 ∨ M 3 i = 1 ∨ M 3 i = 2 ∨ M 3 i = 3 ∨ M 3 i = 4) : CM (d + 5) 1 6 yX5_placeOf cX5_placeOf 4 (some .int) [.ref 0, .int t] b Y M (.inl (some (.int (jsum (fPlace (jcount M n) r t) w)))) (jcount M n) := by
  refine Con.of (by decide +kernel) (Nat.le_of_ble_eq_true rfl) rfl fun p l e s m args below meth c D tyc A ad0 x hr htab hname => ?_
  change JJ _ _ _ _ _ _ _ _ _ _ _ _ _ _ _ _ _ 0 [some (.ref 0), some (.int t), none, none] [] _ 0 0
  refine j_aload_n x dX5_placeOf_0 rfl ?_
  refine j_iload_n x dX5_placeOf_1 rfl ?_
  refine j2_callVi x hb dX5_placeOf_2 m_X5_isTeam (CM_v (c_isTeam (d := d) hb) (jb_t hT)) wmX5_174 jc_9 rfl rfl rfl (Nat.le_of_ble_eq_true rfl) (j_fit_rm (by omega) (by omega) (by omega)) rfl ?_
  refine j_if_ne (tgt := 18) x dX5_placeOf_5 (by decide) (fun hc => ?_) (fun hc => absurd hc (by decide))
  refine j_aload_n x dX5_placeOf_18 rfl ?_
  refine j2_callVv x hb dX5_placeOf_19 m_X5_count (c_count (d := d) hb hn hm) wmX5_187 jc_9 rfl rfl rfl (Nat.le_of_ble_eq_true rfl) (j_fit_rm (by omega) (by omega) (by omega)) rfl ?_
  refine j_iconst (v := 0) x dX5_placeOf_22 (by decide) ?_
  refine j_istore_n x dX5_placeOf_23 (by decide) rfl ?_
  refine j_iconst (v := 0) x dX5_placeOf_24 (by decide) ?_
  refine j_istore_n x dX5_placeOf_25 (by decide) rfl ?_
  refine j_for (w) (fun z0 => [some (.ref 0), some (.int t), some (.int (jsum (fPlace (jcount M n) r t) z0)), some (.int (nI z0))]) (fun z0 => jcount M n) (fun z0 => True) (rfl) (rfl) (trivial) (fun j hj hP ih => ?_) (fun hP => ?_)
  · refine j_iload_n x dX5_placeOf_26 rfl ?_
    refine j_aload_n x dX5_placeOf_27 rfl ?_
    refine j2_getr (k := 0) (r := 1) x hb dX5_placeOf_28 jc_9 wfX5_10 (by decide) rfl ?_
    refine j2_geti (k := 0) x hb dX5_placeOf_31 jc_6 wfX5_80 (by decide) rfl ?_; rw [jcount_n (by omega), h0]
    refine j_icmp_ge (tgt := 55) x dX5_placeOf_34 (by decide) (fun hc => absurd hc (nI_ge hj (by omega))) (fun hc => ?_)
    refine j_aload_n x dX5_placeOf_37 rfl ?_
    refine j_iload_n x dX5_placeOf_38 rfl ?_
    refine j_iload_n x dX5_placeOf_39 rfl ?_
    refine j2_callVi x hb dX5_placeOf_40 m_X5_isAhead (c_isAhead (d := d) hb hr3 (by rw [jcount_n (by omega)]; exact h6) (fun i hi => by rw [jcount_n (by omega)]; exact hru i hi)) wmX5_274 jc_9 rfl rfl rfl (Nat.le_of_ble_eq_true rfl) (j_fit_rm (by omega) (by omega) (by omega)) rfl ?_
    refine j_if_eq (tgt := 49) x dX5_placeOf_43 (by decide) (fun h1 => ?_) (fun h1 => ?_)
    · refine j_iinc x dX5_placeOf_49 rfl (by decide) rfl ?_
      refine j_goto (tgt := 26) x dX5_placeOf_52 (by decide) ?_
      exact j_goal (ih (trivial)) (wk_c rfl (wk_c rfl (wk_c (congrArg (fun z => some (Value.int z)) (jsum_f (if_pos h1))) (wk_c (congrArg (fun z => some (Value.int z)) (nI_1 _)) (wk_0))))) (rfl)
    · refine j_iinc x dX5_placeOf_46 rfl (by decide) rfl ?_
      refine j_iinc x dX5_placeOf_49 rfl (by decide) rfl ?_
      refine j_goto (tgt := 26) x dX5_placeOf_52 (by decide) ?_
      exact j_goal (ih (trivial)) (wk_c rfl (wk_c rfl (wk_c (congrArg (fun z => some (Value.int z)) (jsum_v (if_neg h1))) (wk_c (congrArg (fun z => some (Value.int z)) (nI_1 _)) (wk_0))))) (rfl)
  refine j_iload_n x dX5_placeOf_26 rfl ?_
  refine j_aload_n x dX5_placeOf_27 rfl ?_
  refine j2_getr (k := 0) (r := 1) x hb dX5_placeOf_28 jc_9 wfX5_10 (by decide) rfl ?_
  refine j2_geti (k := 0) x hb dX5_placeOf_31 jc_6 wfX5_80 (by decide) rfl ?_; rw [jcount_n (by omega), h0]
  refine j_icmp_ge (tgt := 55) x dX5_placeOf_34 (by decide) (fun hc => ?_) (fun hc => absurd (nI_le (Nat.le_refl _) (by omega)) hc)
  refine j_iload_n x dX5_placeOf_55 rfl ?_
  exact j_ireturn x hr dX5_placeOf_56 (by omega) (by omega) ⟨rfl, rfl⟩
def jtied (M : MM) (t : Int32) : Nat → Int32
  | 0 => 0
  | i + 1 => if jat 8 (M 76) (nI i) = jat 8 (M 76) t then jtied M t i ||| (1 <<< (nI i &&& 31)) else jtied M t i
theorem c_tied {d : Nat} {b : SBt} {Y : OUt} {M : MM} (hb : 104 ≤ b.2.1) {t : Int32} (hT : ¬ t < 0 ∧ ¬ M 1 0 ≤ t) {n : Nat} (hn : n ≤ 56) (hm : jmc M = nI n) {w : Nat} (hw : w ≤ 8) (h0 : M 1 0 = nI w) : CM (d + 5) 1 6 yX5_tied cX5_tied 4 (some .int) [.ref 0, .int t] b Y M (.inl (some (.int (jtied (jcount M n) t w)))) (jcount M n) := by
  refine Con.of (by decide +kernel) (Nat.le_of_ble_eq_true rfl) rfl fun p l e s m args below meth c D tyc A ad0 x hr htab hname => ?_
  change JJ _ _ _ _ _ _ _ _ _ _ _ _ _ _ _ _ _ 0 [some (.ref 0), some (.int t), none, none] [] _ 0 0
  refine j_aload_n x dX5_tied_0 rfl ?_
  refine j_iload_n x dX5_tied_1 rfl ?_
  refine j2_callVi x hb dX5_tied_2 m_X5_isTeam (CM_v (c_isTeam (d := d) hb) (jb_t hT)) wmX5_174 jc_9 rfl rfl rfl (Nat.le_of_ble_eq_true rfl) (j_fit_rm (by omega) (by omega) (by omega)) rfl ?_
  refine j_if_ne (tgt := 18) x dX5_tied_5 (by decide) (fun hc => ?_) (fun hc => absurd hc (by decide))
  refine j_aload_n x dX5_tied_18 rfl ?_
  refine j2_callVv x hb dX5_tied_19 m_X5_count (c_count (d := d) hb hn hm) wmX5_187 jc_9 rfl rfl rfl (Nat.le_of_ble_eq_true rfl) (j_fit_rm (by omega) (by omega) (by omega)) rfl ?_
  refine j_iconst (v := 0) x dX5_tied_22 (by decide) ?_
  refine j_istore_n x dX5_tied_23 (by decide) rfl ?_
  refine j_iconst (v := 0) x dX5_tied_24 (by decide) ?_
  refine j_istore_n x dX5_tied_25 (by decide) rfl ?_
  refine j_for (w) (fun z0 => [some (.ref 0), some (.int t), some (.int (jtied (jcount M n) t z0)), some (.int (nI z0))]) (fun z0 => jcount M n) (fun z0 => True) (rfl) (rfl) (trivial) (fun j hj hP ih => ?_) (fun hP => ?_)
  · refine j_iload_n x dX5_tied_26 rfl ?_
    refine j_aload_n x dX5_tied_27 rfl ?_
    refine j2_getr (k := 0) (r := 1) x hb dX5_tied_28 jc_9 wfX5_10 (by decide) rfl ?_
    refine j2_geti (k := 0) x hb dX5_tied_31 jc_6 wfX5_80 (by decide) rfl ?_; rw [jcount_n (by omega), h0]
    refine j_icmp_ge (tgt := 74) x dX5_tied_34 (by decide) (fun hc => absurd hc (nI_ge hj (by omega))) (fun hc => ?_)
    refine j_aload_n x dX5_tied_37 rfl ?_
    refine j2_getr (k := 5) (r := 75) x hb dX5_tied_38 jc_9 wfX5_36 (by decide) rfl ?_
    refine j2_getr (k := 3) (r := 76) x hb dX5_tied_41 jc_7 wfX5_190 (by decide) rfl ?_
    refine j_iload_n x dX5_tied_44 rfl ?_
    refine j2_callSi x hb dX5_tied_45 m_X5_at (c_at (d := d) hb fa_76 (by decide)) wmX5_93 rfl (Nat.le_of_ble_eq_true rfl) (j_fit_rm (by omega) (by omega) (by omega)) rfl ?_
    refine j_aload_n x dX5_tied_48 rfl ?_
    refine j2_getr (k := 5) (r := 75) x hb dX5_tied_49 jc_9 wfX5_36 (by decide) rfl ?_
    refine j2_getr (k := 3) (r := 76) x hb dX5_tied_52 jc_7 wfX5_190 (by decide) rfl ?_
    refine j_iload_n x dX5_tied_55 rfl ?_
    refine j2_callSi x hb dX5_tied_56 m_X5_at (c_at (d := d) hb fa_76 (by decide)) wmX5_93 rfl (Nat.le_of_ble_eq_true rfl) (j_fit_rm (by omega) (by omega) (by omega)) rfl ?_
    refine j_icmp_ne (tgt := 68) x dX5_tied_59 (by decide) (fun h1 => ?_) (fun h1 => ?_)
    · refine j_iinc x dX5_tied_68 rfl (by decide) rfl ?_
      refine j_goto (tgt := 26) x dX5_tied_71 (by decide) ?_
      exact j_goal (ih (trivial)) (wk_c rfl (wk_c rfl (wk_c (congrArg (fun z => some (Value.int z)) (show _ = jtied (jcount M n) t (j + 1) by rw [jtied, if_neg h1])) (wk_c (congrArg (fun z => some (Value.int z)) (nI_1 _)) (wk_0))))) (rfl)
    · refine j_iload_n x dX5_tied_62 rfl ?_
      refine j_iconst (v := 1) x dX5_tied_63 (by decide) ?_
      refine j_iload_n x dX5_tied_64 rfl ?_
      refine j_ishl x dX5_tied_65 ?_
      refine j_ior x dX5_tied_66 ?_
      refine j_istore_n x dX5_tied_67 (by decide) rfl ?_
      refine j_iinc x dX5_tied_68 rfl (by decide) rfl ?_
      refine j_goto (tgt := 26) x dX5_tied_71 (by decide) ?_
      exact j_goal (ih (trivial)) (wk_c rfl (wk_c rfl (wk_c (congrArg (fun z => some (Value.int z)) (show _ = jtied (jcount M n) t (j + 1) by rw [jtied, if_pos h1])) (wk_c (congrArg (fun z => some (Value.int z)) (nI_1 _)) (wk_0))))) (rfl)
  refine j_iload_n x dX5_tied_26 rfl ?_
  refine j_aload_n x dX5_tied_27 rfl ?_
  refine j2_getr (k := 0) (r := 1) x hb dX5_tied_28 jc_9 wfX5_10 (by decide) rfl ?_
  refine j2_geti (k := 0) x hb dX5_tied_31 jc_6 wfX5_80 (by decide) rfl ?_; rw [jcount_n (by omega), h0]
  refine j_icmp_ge (tgt := 74) x dX5_tied_34 (by decide) (fun hc => ?_) (fun hc => absurd (nI_le (Nat.le_refl _) (by omega)) hc)
  refine j_iload_n x dX5_tied_74 rfl ?_
  exact j_ireturn x hr dX5_tied_75 (by omega) (by omega) ⟨rfl, rfl⟩
end

section
/-! ===== more questions ===== -/
theorem c_meetingOf_nt {d : Nat} {b : SBt} {Y : OUt} {M : MM} (hb : 104 ≤ b.2.1) {t u : Int32} (hT : ¬ (¬ t < 0 ∧ ¬ jmc M ≤ t)) : CM (d + 2) 1 6 yX5_meetingOf cX5_meetingOf 3 (some .int) [.ref 0, .int t, .int u] b Y M (.inr "java/lang/IndexOutOfBoundsException") (M) := by
  refine Con.of (by decide +kernel) (Nat.le_of_ble_eq_true rfl) rfl fun p l e s m args below meth c D tyc A ad0 x hr htab hname => ?_
  change JJ _ _ _ _ _ _ _ _ _ _ _ _ _ _ _ _ _ 0 [some (.ref 0), some (.int t), some (.int u)] [] _ 0 0
  refine j_aload_n x dX5_meetingOf_0 rfl ?_
  refine j_iload_n x dX5_meetingOf_1 rfl ?_
  refine j2_callVi x hb dX5_meetingOf_2 m_X5_isMeeting (CM_v (c_isMeeting (d := d) hb) (jb_f hT)) wmX5_214 jc_9 rfl rfl rfl (Nat.le_of_ble_eq_true rfl) (j_fit_rm (by omega) (by omega) (by omega)) rfl ?_
  refine j_if_ne (tgt := 18) x dX5_meetingOf_5 (by decide) (fun hc => absurd hc (fun q => q rfl)) (fun hc => ?_)
  exact j_throwS x exX5_177 wsX5_217 dX5_meetingOf_8 dX5_meetingOf_11 dX5_meetingOf_12 dX5_meetingOf_14 dX5_meetingOf_17 htab (by omega) (by omega) ⟨rfl, rfl⟩
theorem c_freeWeek_nt {d : Nat} {b : SBt} {Y : OUt} {M : MM} (hb : 104 ≤ b.2.1) {t : Int32} (hT : ¬ (¬ t < 0 ∧ ¬ jmc M ≤ t)) : CM (d + 2) 1 6 yX5_freeWeek cX5_freeWeek 3 (some .int) [.ref 0, .int t] b Y M (.inr "java/lang/IndexOutOfBoundsException") (M) := by
  refine Con.of (by decide +kernel) (Nat.le_of_ble_eq_true rfl) rfl fun p l e s m args below meth c D tyc A ad0 x hr htab hname => ?_
  change JJ _ _ _ _ _ _ _ _ _ _ _ _ _ _ _ _ _ 0 [some (.ref 0), some (.int t), none] [] _ 0 0
  refine j_aload_n x dX5_freeWeek_0 rfl ?_
  refine j_iload_n x dX5_freeWeek_1 rfl ?_
  refine j2_callVi x hb dX5_freeWeek_2 m_X5_isMeeting (CM_v (c_isMeeting (d := d) hb) (jb_f hT)) wmX5_214 jc_9 rfl rfl rfl (Nat.le_of_ble_eq_true rfl) (j_fit_rm (by omega) (by omega) (by omega)) rfl ?_
  refine j_if_ne (tgt := 18) x dX5_freeWeek_5 (by decide) (fun hc => absurd hc (fun q => q rfl)) (fun hc => ?_)
  exact j_throwS x exX5_177 wsX5_217 dX5_freeWeek_8 dX5_freeWeek_11 dX5_freeWeek_12 dX5_freeWeek_14 dX5_freeWeek_17 htab (by omega) (by omega) ⟨rfl, rfl⟩
theorem c_byeIn_nt {d : Nat} {b : SBt} {Y : OUt} {M : MM} (hb : 104 ≤ b.2.1) {t : Int32} (hT : ¬ (¬ t < 0 ∧ ¬ jwc M ≤ t)) : CM (d + 2) 1 6 yX5_byeIn cX5_byeIn 3 (some .int) [.ref 0, .int t] b Y M (.inr "java/lang/IndexOutOfBoundsException") (M) := by
  refine Con.of (by decide +kernel) (Nat.le_of_ble_eq_true rfl) rfl fun p l e s m args below meth c D tyc A ad0 x hr htab hname => ?_
  change JJ _ _ _ _ _ _ _ _ _ _ _ _ _ _ _ _ _ 0 [some (.ref 0), some (.int t), none] [] _ 0 0
  refine j_aload_n x dX5_byeIn_0 rfl ?_
  refine j_iload_n x dX5_byeIn_1 rfl ?_
  refine j2_callVi x hb dX5_byeIn_2 m_X5_isWeek (CM_v (c_isWeek (d := d) hb) (jb_f hT)) wmX5_248 jc_9 rfl rfl rfl (Nat.le_of_ble_eq_true rfl) (j_fit_rm (by omega) (by omega) (by omega)) rfl ?_
  refine j_if_ne (tgt := 18) x dX5_byeIn_5 (by decide) (fun hc => absurd hc (fun q => q rfl)) (fun hc => ?_)
  exact j_throwS x exX5_177 wsX5_251 dX5_byeIn_8 dX5_byeIn_11 dX5_byeIn_12 dX5_byeIn_14 dX5_byeIn_17 htab (by omega) (by omega) ⟨rfl, rfl⟩
theorem c_meetingsIn_nt {d : Nat} {b : SBt} {Y : OUt} {M : MM} (hb : 104 ≤ b.2.1) {t : Int32} (hT : ¬ (¬ t < 0 ∧ ¬ jwc M ≤ t)) : CM (d + 2) 1 6 yX5_meetingsIn cX5_meetingsIn 4 (some .int) [.ref 0, .int t] b Y M (.inr "java/lang/IndexOutOfBoundsException") (M) := by
  refine Con.of (by decide +kernel) (Nat.le_of_ble_eq_true rfl) rfl fun p l e s m args below meth c D tyc A ad0 x hr htab hname => ?_
  change JJ _ _ _ _ _ _ _ _ _ _ _ _ _ _ _ _ _ 0 [some (.ref 0), some (.int t), none, none] [] _ 0 0
  refine j_aload_n x dX5_meetingsIn_0 rfl ?_
  refine j_iload_n x dX5_meetingsIn_1 rfl ?_
  refine j2_callVi x hb dX5_meetingsIn_2 m_X5_isWeek (CM_v (c_isWeek (d := d) hb) (jb_f hT)) wmX5_248 jc_9 rfl rfl rfl (Nat.le_of_ble_eq_true rfl) (j_fit_rm (by omega) (by omega) (by omega)) rfl ?_
  refine j_if_ne (tgt := 18) x dX5_meetingsIn_5 (by decide) (fun hc => absurd hc (fun q => q rfl)) (fun hc => ?_)
  exact j_throwS x exX5_177 wsX5_251 dX5_meetingsIn_8 dX5_meetingsIn_11 dX5_meetingsIn_12 dX5_meetingsIn_14 dX5_meetingsIn_17 htab (by omega) (by omega) ⟨rfl, rfl⟩
theorem c_clashes_nt {d : Nat} {b : SBt} {Y : OUt} {M : MM} (hb : 104 ≤ b.2.1) {t : Int32} (hT : ¬ (¬ t < 0 ∧ ¬ jwc M ≤ t)) : CM (d + 2) 1 6 yX5_clashes cX5_clashes 2 (some .int) [.ref 0, .int t] b Y M (.inr "java/lang/IndexOutOfBoundsException") (M) := by
  refine Con.of (by decide +kernel) (Nat.le_of_ble_eq_true rfl) rfl fun p l e s m args below meth c D tyc A ad0 x hr htab hname => ?_
  change JJ _ _ _ _ _ _ _ _ _ _ _ _ _ _ _ _ _ 0 [some (.ref 0), some (.int t)] [] _ 0 0
  refine j_aload_n x dX5_clashes_0 rfl ?_
  refine j_iload_n x dX5_clashes_1 rfl ?_
  refine j2_callVi x hb dX5_clashes_2 m_X5_isWeek (CM_v (c_isWeek (d := d) hb) (jb_f hT)) wmX5_248 jc_9 rfl rfl rfl (Nat.le_of_ble_eq_true rfl) (j_fit_rm (by omega) (by omega) (by omega)) rfl ?_
  refine j_if_ne (tgt := 18) x dX5_clashes_5 (by decide) (fun hc => absurd hc (fun q => q rfl)) (fun hc => ?_)
  exact j_throwS x exX5_177 wsX5_251 dX5_clashes_8 dX5_clashes_11 dX5_clashes_12 dX5_clashes_14 dX5_clashes_17 htab (by omega) (by omega) ⟨rfl, rfl⟩
theorem c_meetingOf_bad {d : Nat} {b : SBt} {Y : OUt} {M : MM} (hb : 104 ≤ b.2.1) {t u : Int32} (hT : ¬ t < 0 ∧ ¬ jmc M ≤ t) (hx : u < 0 ∨ ¬ u ≤ 6) : CM (d + 2) 1 6 yX5_meetingOf cX5_meetingOf 3 (some .int) [.ref 0, .int t, .int u] b Y M (.inr "java/lang/IllegalArgumentException") (M) := by
  refine Con.of (by decide +kernel) (Nat.le_of_ble_eq_true rfl) rfl fun p l e s m args below meth c D tyc A ad0 x hr htab hname => ?_
  change JJ _ _ _ _ _ _ _ _ _ _ _ _ _ _ _ _ _ 0 [some (.ref 0), some (.int t), some (.int u)] [] _ 0 0
  refine j_aload_n x dX5_meetingOf_0 rfl ?_
  refine j_iload_n x dX5_meetingOf_1 rfl ?_
  refine j2_callVi x hb dX5_meetingOf_2 m_X5_isMeeting (CM_v (c_isMeeting (d := d) hb) (jb_t hT)) wmX5_214 jc_9 rfl rfl rfl (Nat.le_of_ble_eq_true rfl) (j_fit_rm (by omega) (by omega) (by omega)) rfl ?_
  refine j_if_ne (tgt := 18) x dX5_meetingOf_5 (by decide) (fun hc => ?_) (fun hc => absurd hc (by decide))
  refine j_iload_n x dX5_meetingOf_18 rfl ?_
  refine j_if_lt (tgt := 28) x dX5_meetingOf_19 (by decide) (fun h1 => ?_) (fun h1 => ?_)
  · exact j_throwS x exX5_182 wsX5_219 dX5_meetingOf_28 dX5_meetingOf_31 dX5_meetingOf_32 dX5_meetingOf_34 dX5_meetingOf_37 htab (by omega) (by omega) ⟨rfl, rfl⟩
  · refine j_iload_n x dX5_meetingOf_22 rfl ?_
    refine j_bipush (v := 6) x dX5_meetingOf_23 (by decide) ?_
    refine j_icmp_le (tgt := 38) x dX5_meetingOf_25 (by decide) (fun hc => absurd hc (hx.resolve_left h1)) (fun hc => ?_)
    exact j_throwS x exX5_182 wsX5_219 dX5_meetingOf_28 dX5_meetingOf_31 dX5_meetingOf_32 dX5_meetingOf_34 dX5_meetingOf_37 htab (by omega) (by omega) ⟨rfl, rfl⟩
theorem c_meetingOf_k0 {d : Nat} {b : SBt} {Y : OUt} {M : MM} (hb : 104 ≤ b.2.1) {t : Int32} (hT : ¬ t < 0 ∧ ¬ jmc M ≤ t) : CM (d + 3) 1 6 yX5_meetingOf cX5_meetingOf 3 (some .int) [.ref 0, .int t, .int 0] b Y M (.inl (some (.int (jat 56 (M 4) t)))) (M) := by
  refine Con.of (by decide +kernel) (Nat.le_of_ble_eq_true rfl) rfl fun p l e s m args below meth c D tyc A ad0 x hr htab hname => ?_
  change JJ _ _ _ _ _ _ _ _ _ _ _ _ _ _ _ _ _ 0 [some (.ref 0), some (.int t), some (.int 0)] [] _ 0 0
  refine j_aload_n x dX5_meetingOf_0 rfl ?_
  refine j_iload_n x dX5_meetingOf_1 rfl ?_
  refine j2_callVi x hb dX5_meetingOf_2 m_X5_isMeeting (CM_v (c_isMeeting (d := d) hb) (jb_t hT)) wmX5_214 jc_9 rfl rfl rfl (Nat.le_of_ble_eq_true rfl) (j_fit_rm (by omega) (by omega) (by omega)) rfl ?_
  refine j_if_ne (tgt := 18) x dX5_meetingOf_5 (by decide) (fun hc => ?_) (fun hc => absurd hc (by decide))
  refine j_iload_n x dX5_meetingOf_18 rfl ?_
  refine j_if_lt (tgt := 28) x dX5_meetingOf_19 (by decide) (fun hc => absurd hc (by decide)) (fun hc => ?_)
  refine j_iload_n x dX5_meetingOf_22 rfl ?_
  refine j_bipush (v := 6) x dX5_meetingOf_23 (by decide) ?_
  refine j_icmp_le (tgt := 38) x dX5_meetingOf_25 (by decide) (fun hc => ?_) (fun hc => absurd (by decide) hc)
  refine j_iload_n x dX5_meetingOf_38 rfl ?_
  refine j_tableIn (tgt := 76) x dX5_meetingOf_39 (by decide) (by decide) rfl (by decide) ?_
  refine j_aload_n x dX5_meetingOf_76 rfl ?_
  refine j2_getr (k := 0) (r := 1) x hb dX5_meetingOf_77 jc_9 wfX5_10 (by decide) rfl ?_
  refine j2_getr (k := 8) (r := 4) x hb dX5_meetingOf_80 jc_6 wfX5_163 (by decide) rfl ?_
  refine j_iload_n x dX5_meetingOf_83 rfl ?_
  refine j2_callSi x hb dX5_meetingOf_84 m_X5_at (c_at (d := d) hb fa_4 (by decide)) wmX5_93 rfl (Nat.le_of_ble_eq_true rfl) (j_fit_rm (by omega) (by omega) (by omega)) rfl ?_
  exact j_ireturn x hr dX5_meetingOf_87 (by omega) (by omega) ⟨rfl, rfl⟩
theorem c_meetingOf_k1 {d : Nat} {b : SBt} {Y : OUt} {M : MM} (hb : 104 ≤ b.2.1) {t : Int32} (hT : ¬ t < 0 ∧ ¬ jmc M ≤ t) : CM (d + 3) 1 6 yX5_meetingOf cX5_meetingOf 3 (some .int) [.ref 0, .int t, .int 1] b Y M (.inl (some (.int (jat 56 (M 70) t)))) (M) := by
  refine Con.of (by decide +kernel) (Nat.le_of_ble_eq_true rfl) rfl fun p l e s m args below meth c D tyc A ad0 x hr htab hname => ?_
  change JJ _ _ _ _ _ _ _ _ _ _ _ _ _ _ _ _ _ 0 [some (.ref 0), some (.int t), some (.int 1)] [] _ 0 0
  refine j_aload_n x dX5_meetingOf_0 rfl ?_
  refine j_iload_n x dX5_meetingOf_1 rfl ?_
  refine j2_callVi x hb dX5_meetingOf_2 m_X5_isMeeting (CM_v (c_isMeeting (d := d) hb) (jb_t hT)) wmX5_214 jc_9 rfl rfl rfl (Nat.le_of_ble_eq_true rfl) (j_fit_rm (by omega) (by omega) (by omega)) rfl ?_
  refine j_if_ne (tgt := 18) x dX5_meetingOf_5 (by decide) (fun hc => ?_) (fun hc => absurd hc (by decide))
  refine j_iload_n x dX5_meetingOf_18 rfl ?_
  refine j_if_lt (tgt := 28) x dX5_meetingOf_19 (by decide) (fun hc => absurd hc (by decide)) (fun hc => ?_)
  refine j_iload_n x dX5_meetingOf_22 rfl ?_
  refine j_bipush (v := 6) x dX5_meetingOf_23 (by decide) ?_
  refine j_icmp_le (tgt := 38) x dX5_meetingOf_25 (by decide) (fun hc => ?_) (fun hc => absurd (by decide) hc)
  refine j_iload_n x dX5_meetingOf_38 rfl ?_
  refine j_tableIn (tgt := 88) x dX5_meetingOf_39 (by decide) (by decide) rfl (by decide) ?_
  refine j_aload_n x dX5_meetingOf_88 rfl ?_
  refine j2_getr (k := 4) (r := 69) x hb dX5_meetingOf_89 jc_9 wfX5_29 (by decide) rfl ?_
  refine j2_getr (k := 2) (r := 70) x hb dX5_meetingOf_92 jc_4 wfX5_221 (by decide) rfl ?_
  refine j_iload_n x dX5_meetingOf_95 rfl ?_
  refine j2_callSi x hb dX5_meetingOf_96 m_X5_at (c_at (d := d) hb fa_70 (by decide)) wmX5_93 rfl (Nat.le_of_ble_eq_true rfl) (j_fit_rm (by omega) (by omega) (by omega)) rfl ?_
  exact j_ireturn x hr dX5_meetingOf_99 (by omega) (by omega) ⟨rfl, rfl⟩
theorem c_meetingOf_k2 {d : Nat} {b : SBt} {Y : OUt} {M : MM} (hb : 104 ≤ b.2.1) {t : Int32} (hT : ¬ t < 0 ∧ ¬ jmc M ≤ t) : CM (d + 3) 1 6 yX5_meetingOf cX5_meetingOf 3 (some .int) [.ref 0, .int t, .int 2] b Y M (.inl (some (.int (jat 56 (M 71) t)))) (M) := by
  refine Con.of (by decide +kernel) (Nat.le_of_ble_eq_true rfl) rfl fun p l e s m args below meth c D tyc A ad0 x hr htab hname => ?_
  change JJ _ _ _ _ _ _ _ _ _ _ _ _ _ _ _ _ _ 0 [some (.ref 0), some (.int t), some (.int 2)] [] _ 0 0
  refine j_aload_n x dX5_meetingOf_0 rfl ?_
  refine j_iload_n x dX5_meetingOf_1 rfl ?_
  refine j2_callVi x hb dX5_meetingOf_2 m_X5_isMeeting (CM_v (c_isMeeting (d := d) hb) (jb_t hT)) wmX5_214 jc_9 rfl rfl rfl (Nat.le_of_ble_eq_true rfl) (j_fit_rm (by omega) (by omega) (by omega)) rfl ?_
  refine j_if_ne (tgt := 18) x dX5_meetingOf_5 (by decide) (fun hc => ?_) (fun hc => absurd hc (by decide))
  refine j_iload_n x dX5_meetingOf_18 rfl ?_
  refine j_if_lt (tgt := 28) x dX5_meetingOf_19 (by decide) (fun hc => absurd hc (by decide)) (fun hc => ?_)
  refine j_iload_n x dX5_meetingOf_22 rfl ?_
  refine j_bipush (v := 6) x dX5_meetingOf_23 (by decide) ?_
  refine j_icmp_le (tgt := 38) x dX5_meetingOf_25 (by decide) (fun hc => ?_) (fun hc => absurd (by decide) hc)
  refine j_iload_n x dX5_meetingOf_38 rfl ?_
  refine j_tableIn (tgt := 100) x dX5_meetingOf_39 (by decide) (by decide) rfl (by decide) ?_
  refine j_aload_n x dX5_meetingOf_100 rfl ?_
  refine j2_getr (k := 4) (r := 69) x hb dX5_meetingOf_101 jc_9 wfX5_29 (by decide) rfl ?_
  refine j2_getr (k := 3) (r := 71) x hb dX5_meetingOf_104 jc_4 wfX5_224 (by decide) rfl ?_
  refine j_iload_n x dX5_meetingOf_107 rfl ?_
  refine j2_callSi x hb dX5_meetingOf_108 m_X5_at (c_at (d := d) hb fa_71 (by decide)) wmX5_93 rfl (Nat.le_of_ble_eq_true rfl) (j_fit_rm (by omega) (by omega) (by omega)) rfl ?_
  exact j_ireturn x hr dX5_meetingOf_111 (by omega) (by omega) ⟨rfl, rfl⟩
theorem c_meetingOf_k3 {d : Nat} {b : SBt} {Y : OUt} {M : MM} (hb : 104 ≤ b.2.1) {t : Int32} (hT : ¬ t < 0 ∧ ¬ jmc M ≤ t) : CM (d + 3) 1 6 yX5_meetingOf cX5_meetingOf 3 (some .int) [.ref 0, .int t, .int 3] b Y M (.inl (some (.int (jkind M t)))) (M) := by
  refine Con.of (by decide +kernel) (Nat.le_of_ble_eq_true rfl) rfl fun p l e s m args below meth c D tyc A ad0 x hr htab hname => ?_
  change JJ _ _ _ _ _ _ _ _ _ _ _ _ _ _ _ _ _ 0 [some (.ref 0), some (.int t), some (.int 3)] [] _ 0 0
  refine j_aload_n x dX5_meetingOf_0 rfl ?_
  refine j_iload_n x dX5_meetingOf_1 rfl ?_
  refine j2_callVi x hb dX5_meetingOf_2 m_X5_isMeeting (CM_v (c_isMeeting (d := d) hb) (jb_t hT)) wmX5_214 jc_9 rfl rfl rfl (Nat.le_of_ble_eq_true rfl) (j_fit_rm (by omega) (by omega) (by omega)) rfl ?_
  refine j_if_ne (tgt := 18) x dX5_meetingOf_5 (by decide) (fun hc => ?_) (fun hc => absurd hc (by decide))
  refine j_iload_n x dX5_meetingOf_18 rfl ?_
  refine j_if_lt (tgt := 28) x dX5_meetingOf_19 (by decide) (fun hc => absurd hc (by decide)) (fun hc => ?_)
  refine j_iload_n x dX5_meetingOf_22 rfl ?_
  refine j_bipush (v := 6) x dX5_meetingOf_23 (by decide) ?_
  refine j_icmp_le (tgt := 38) x dX5_meetingOf_25 (by decide) (fun hc => ?_) (fun hc => absurd (by decide) hc)
  refine j_iload_n x dX5_meetingOf_38 rfl ?_
  refine j_tableIn (tgt := 112) x dX5_meetingOf_39 (by decide) (by decide) rfl (by decide) ?_
  refine j_aload_n x dX5_meetingOf_112 rfl ?_
  refine j_iload_n x dX5_meetingOf_113 rfl ?_
  refine j2_callVi x hb dX5_meetingOf_114 m_X5_kindOf (c_kindOf (d := d) hb) wmX5_227 jc_9 rfl rfl rfl (Nat.le_of_ble_eq_true rfl) (j_fit_rm (by omega) (by omega) (by omega)) rfl ?_
  exact j_ireturn x hr dX5_meetingOf_117 (by omega) (by omega) ⟨rfl, rfl⟩
theorem c_meetingOf_k4 {d : Nat} {b : SBt} {Y : OUt} {M : MM} (hb : 104 ≤ b.2.1) {t : Int32} (hT : ¬ t < 0 ∧ ¬ jmc M ≤ t) : CM (d + 3) 1 6 yX5_meetingOf cX5_meetingOf 3 (some .int) [.ref 0, .int t, .int 4] b Y M (.inl (some (.int (jat 56 (M 5) t)))) (M) := by
  refine Con.of (by decide +kernel) (Nat.le_of_ble_eq_true rfl) rfl fun p l e s m args below meth c D tyc A ad0 x hr htab hname => ?_
  change JJ _ _ _ _ _ _ _ _ _ _ _ _ _ _ _ _ _ 0 [some (.ref 0), some (.int t), some (.int 4)] [] _ 0 0
  refine j_aload_n x dX5_meetingOf_0 rfl ?_
  refine j_iload_n x dX5_meetingOf_1 rfl ?_
  refine j2_callVi x hb dX5_meetingOf_2 m_X5_isMeeting (CM_v (c_isMeeting (d := d) hb) (jb_t hT)) wmX5_214 jc_9 rfl rfl rfl (Nat.le_of_ble_eq_true rfl) (j_fit_rm (by omega) (by omega) (by omega)) rfl ?_
  refine j_if_ne (tgt := 18) x dX5_meetingOf_5 (by decide) (fun hc => ?_) (fun hc => absurd hc (by decide))
  refine j_iload_n x dX5_meetingOf_18 rfl ?_
  refine j_if_lt (tgt := 28) x dX5_meetingOf_19 (by decide) (fun hc => absurd hc (by decide)) (fun hc => ?_)
  refine j_iload_n x dX5_meetingOf_22 rfl ?_
  refine j_bipush (v := 6) x dX5_meetingOf_23 (by decide) ?_
  refine j_icmp_le (tgt := 38) x dX5_meetingOf_25 (by decide) (fun hc => ?_) (fun hc => absurd (by decide) hc)
  refine j_iload_n x dX5_meetingOf_38 rfl ?_
  refine j_tableIn (tgt := 118) x dX5_meetingOf_39 (by decide) (by decide) rfl (by decide) ?_
  refine j_aload_n x dX5_meetingOf_118 rfl ?_
  refine j2_getr (k := 0) (r := 1) x hb dX5_meetingOf_119 jc_9 wfX5_10 (by decide) rfl ?_
  refine j2_getr (k := 9) (r := 5) x hb dX5_meetingOf_122 jc_6 wfX5_231 (by decide) rfl ?_
  refine j_iload_n x dX5_meetingOf_125 rfl ?_
  refine j2_callSi x hb dX5_meetingOf_126 m_X5_at (c_at (d := d) hb fa_5 (by decide)) wmX5_93 rfl (Nat.le_of_ble_eq_true rfl) (j_fit_rm (by omega) (by omega) (by omega)) rfl ?_
  exact j_ireturn x hr dX5_meetingOf_129 (by omega) (by omega) ⟨rfl, rfl⟩
theorem c_meetingOf_k5 {d : Nat} {b : SBt} {Y : OUt} {M : MM} (hb : 104 ≤ b.2.1) {t : Int32} (hT : ¬ t < 0 ∧ ¬ jmc M ≤ t) : CM (d + 3) 1 6 yX5_meetingOf cX5_meetingOf 3 (some .int) [.ref 0, .int t, .int 5] b Y M (.inl (some (.int (jat 56 (M 6) t)))) (M) := by
  refine Con.of (by decide +kernel) (Nat.le_of_ble_eq_true rfl) rfl fun p l e s m args below meth c D tyc A ad0 x hr htab hname => ?_
  change JJ _ _ _ _ _ _ _ _ _ _ _ _ _ _ _ _ _ 0 [some (.ref 0), some (.int t), some (.int 5)] [] _ 0 0
  refine j_aload_n x dX5_meetingOf_0 rfl ?_
  refine j_iload_n x dX5_meetingOf_1 rfl ?_
  refine j2_callVi x hb dX5_meetingOf_2 m_X5_isMeeting (CM_v (c_isMeeting (d := d) hb) (jb_t hT)) wmX5_214 jc_9 rfl rfl rfl (Nat.le_of_ble_eq_true rfl) (j_fit_rm (by omega) (by omega) (by omega)) rfl ?_
  refine j_if_ne (tgt := 18) x dX5_meetingOf_5 (by decide) (fun hc => ?_) (fun hc => absurd hc (by decide))
  refine j_iload_n x dX5_meetingOf_18 rfl ?_
  refine j_if_lt (tgt := 28) x dX5_meetingOf_19 (by decide) (fun hc => absurd hc (by decide)) (fun hc => ?_)
  refine j_iload_n x dX5_meetingOf_22 rfl ?_
  refine j_bipush (v := 6) x dX5_meetingOf_23 (by decide) ?_
  refine j_icmp_le (tgt := 38) x dX5_meetingOf_25 (by decide) (fun hc => ?_) (fun hc => absurd (by decide) hc)
  refine j_iload_n x dX5_meetingOf_38 rfl ?_
  refine j_tableIn (tgt := 130) x dX5_meetingOf_39 (by decide) (by decide) rfl (by decide) ?_
  refine j_aload_n x dX5_meetingOf_130 rfl ?_
  refine j2_getr (k := 0) (r := 1) x hb dX5_meetingOf_131 jc_9 wfX5_10 (by decide) rfl ?_
  refine j2_getr (k := 10) (r := 6) x hb dX5_meetingOf_134 jc_6 wfX5_234 (by decide) rfl ?_
  refine j_iload_n x dX5_meetingOf_137 rfl ?_
  refine j2_callSi x hb dX5_meetingOf_138 m_X5_at (c_at (d := d) hb fa_6 (by decide)) wmX5_93 rfl (Nat.le_of_ble_eq_true rfl) (j_fit_rm (by omega) (by omega) (by omega)) rfl ?_
  exact j_ireturn x hr dX5_meetingOf_141 (by omega) (by omega) ⟨rfl, rfl⟩
theorem c_meetingOf_k6 {d : Nat} {b : SBt} {Y : OUt} {M : MM} (hb : 104 ≤ b.2.1) {t : Int32} (hT : ¬ t < 0 ∧ ¬ jmc M ≤ t) : CM (d + 3) 1 6 yX5_meetingOf cX5_meetingOf 3 (some .int) [.ref 0, .int t, .int 6] b Y M (.inl (some (.int (jat 56 (M 72) t)))) (M) := by
  refine Con.of (by decide +kernel) (Nat.le_of_ble_eq_true rfl) rfl fun p l e s m args below meth c D tyc A ad0 x hr htab hname => ?_
  change JJ _ _ _ _ _ _ _ _ _ _ _ _ _ _ _ _ _ 0 [some (.ref 0), some (.int t), some (.int 6)] [] _ 0 0
  refine j_aload_n x dX5_meetingOf_0 rfl ?_
  refine j_iload_n x dX5_meetingOf_1 rfl ?_
  refine j2_callVi x hb dX5_meetingOf_2 m_X5_isMeeting (CM_v (c_isMeeting (d := d) hb) (jb_t hT)) wmX5_214 jc_9 rfl rfl rfl (Nat.le_of_ble_eq_true rfl) (j_fit_rm (by omega) (by omega) (by omega)) rfl ?_
  refine j_if_ne (tgt := 18) x dX5_meetingOf_5 (by decide) (fun hc => ?_) (fun hc => absurd hc (by decide))
  refine j_iload_n x dX5_meetingOf_18 rfl ?_
  refine j_if_lt (tgt := 28) x dX5_meetingOf_19 (by decide) (fun hc => absurd hc (by decide)) (fun hc => ?_)
  refine j_iload_n x dX5_meetingOf_22 rfl ?_
  refine j_bipush (v := 6) x dX5_meetingOf_23 (by decide) ?_
  refine j_icmp_le (tgt := 38) x dX5_meetingOf_25 (by decide) (fun hc => ?_) (fun hc => absurd (by decide) hc)
  refine j_iload_n x dX5_meetingOf_38 rfl ?_
  refine j_tableOut (tgt := 142) x dX5_meetingOf_39 (by decide) (by decide) ?_
  refine j_aload_n x dX5_meetingOf_142 rfl ?_
  refine j2_getr (k := 4) (r := 69) x hb dX5_meetingOf_143 jc_9 wfX5_29 (by decide) rfl ?_
  refine j2_getr (k := 4) (r := 72) x hb dX5_meetingOf_146 jc_4 wfX5_237 (by decide) rfl ?_
  refine j_iload_n x dX5_meetingOf_149 rfl ?_
  refine j2_callSi x hb dX5_meetingOf_150 m_X5_at (c_at (d := d) hb fa_72 (by decide)) wmX5_93 rfl (Nat.le_of_ble_eq_true rfl) (j_fit_rm (by omega) (by omega) (by omega)) rfl ?_
  exact j_ireturn x hr dX5_meetingOf_153 (by omega) (by omega) ⟨rfl, rfl⟩
theorem c_find_nt {d : Nat} {b : SBt} {Y : OUt} {M : MM} (hb : 104 ≤ b.2.1) {t u : Int32} (hT : ¬ ((¬ t < 0 ∧ ¬ M 1 0 ≤ t) ∧ (¬ u < 0 ∧ ¬ M 1 0 ≤ u))) : CM (d + 1) 1 6 yX5_find cX5_find 4 (some .int) [.ref 0, .int t, .int u] b Y M (.inr "java/lang/IndexOutOfBoundsException") (M) := by
  refine Con.of (by decide +kernel) (Nat.le_of_ble_eq_true rfl) rfl fun p l e s m args below meth c D tyc A ad0 x hr htab hname => ?_
  change JJ _ _ _ _ _ _ _ _ _ _ _ _ _ _ _ _ _ 0 [some (.ref 0), some (.int t), some (.int u), none] [] _ 0 0
  refine j_aload_n x dX5_find_0 rfl ?_
  refine j_iload_n x dX5_find_1 rfl ?_
  refine j2_callVi x hb dX5_find_2 m_X5_isTeam (c_isTeam (d := d) hb) wmX5_174 jc_9 rfl rfl rfl (Nat.le_of_ble_eq_true rfl) (j_fit_rm (by omega) (by omega) (by omega)) rfl ?_
  refine j_if_eq (tgt := 16) x dX5_find_5 (by decide) (fun h1 => ?_) (fun h1 => ?_)
  · exact j_throwS x exX5_177 wsX5_179 dX5_find_16 dX5_find_19 dX5_find_20 dX5_find_22 dX5_find_25 htab (by omega) (by omega) ⟨rfl, rfl⟩
  · refine j_aload_n x dX5_find_8 rfl ?_
    refine j_iload_n x dX5_find_9 rfl ?_
    refine j2_callVi x hb dX5_find_10 m_X5_isTeam (c_isTeam (d := d) hb) wmX5_174 jc_9 rfl rfl rfl (Nat.le_of_ble_eq_true rfl) (j_fit_rm (by omega) (by omega) (by omega)) rfl ?_
    refine j_if_ne (tgt := 26) x dX5_find_13 (by decide) (fun hc => absurd hc (fun q => hT ⟨jb_nz.mp h1, jb_nz.mp q⟩)) (fun hc => ?_)
    exact j_throwS x exX5_177 wsX5_179 dX5_find_16 dX5_find_19 dX5_find_20 dX5_find_22 dX5_find_25 htab (by omega) (by omega) ⟨rfl, rfl⟩
theorem c_find_no {d : Nat} {b : SBt} {Y : OUt} {M : MM} (hb : 104 ≤ b.2.1) {t u : Int32} (hT : ¬ t < 0 ∧ ¬ M 1 0 ≤ t) (hU : ¬ u < 0 ∧ ¬ M 1 0 ≤ u) {n : Nat} (hn : n ≤ 56) (hm : jmc M = nI n) (h : jfst (fBet M t u) n = -1) : CM (d + 2) 1 6 yX5_find cX5_find 4 (some .int) [.ref 0, .int t, .int u] b Y M (.inr "java/util/NoSuchElementException") (M) := by
  refine Con.of (by decide +kernel) (Nat.le_of_ble_eq_true rfl) rfl fun p l e s m args below meth c D tyc A ad0 x hr htab hname => ?_
  change JJ _ _ _ _ _ _ _ _ _ _ _ _ _ _ _ _ _ 0 [some (.ref 0), some (.int t), some (.int u), none] [] _ 0 0
  refine j_aload_n x dX5_find_0 rfl ?_
  refine j_iload_n x dX5_find_1 rfl ?_
  refine j2_callVi x hb dX5_find_2 m_X5_isTeam (CM_v (c_isTeam (d := d) hb) (jb_t hT)) wmX5_174 jc_9 rfl rfl rfl (Nat.le_of_ble_eq_true rfl) (j_fit_rm (by omega) (by omega) (by omega)) rfl ?_
  refine j_if_eq (tgt := 16) x dX5_find_5 (by decide) (fun hc => absurd hc (by decide)) (fun hc => ?_)
  refine j_aload_n x dX5_find_8 rfl ?_
  refine j_iload_n x dX5_find_9 rfl ?_
  refine j2_callVi x hb dX5_find_10 m_X5_isTeam (CM_v (c_isTeam (d := d) hb) (jb_t hU)) wmX5_174 jc_9 rfl rfl rfl (Nat.le_of_ble_eq_true rfl) (j_fit_rm (by omega) (by omega) (by omega)) rfl ?_
  refine j_if_ne (tgt := 26) x dX5_find_13 (by decide) (fun hc => ?_) (fun hc => absurd hc (by decide))
  refine j_aload_n x dX5_find_26 rfl ?_
  refine j_iload_n x dX5_find_27 rfl ?_
  refine j_iload_n x dX5_find_28 rfl ?_
  refine j2_callVi x hb dX5_find_29 m_X5_meetingBetween (c_meetingBetween (d := d) hb hn hm) wmX5_240 jc_9 rfl rfl rfl (Nat.le_of_ble_eq_true rfl) (j_fit_rm (by omega) (by omega) (by omega)) rfl ?_
  refine j_istore_n x dX5_find_32 (by decide) rfl ?_
  refine j_iload_n x dX5_find_33 rfl ?_
  refine j_iconst (v := (-1)) x dX5_find_34 (by decide) ?_
  refine j_icmp_ne (tgt := 48) x dX5_find_35 (by decide) (fun hc => absurd hc (fun q => q h)) (fun hc => ?_)
  exact j_throwNS x exX5_243 wsX5_245 dX5_find_38 dX5_find_41 dX5_find_42 dX5_find_44 dX5_find_47 htab (by omega) (by omega) ⟨rfl, rfl⟩
theorem c_find_ok {d : Nat} {b : SBt} {Y : OUt} {M : MM} (hb : 104 ≤ b.2.1) {t u : Int32} (hT : ¬ t < 0 ∧ ¬ M 1 0 ≤ t) (hU : ¬ u < 0 ∧ ¬ M 1 0 ≤ u) {n : Nat} (hn : n ≤ 56) (hm : jmc M = nI n) (h : ¬ jfst (fBet M t u) n = -1) : CM (d + 2) 1 6 yX5_find cX5_find 4 (some .int) [.ref 0, .int t, .int u] b Y M (.inl (some (.int (jfst (fBet M t u) n)))) (M) := by
  refine Con.of (by decide +kernel) (Nat.le_of_ble_eq_true rfl) rfl fun p l e s m args below meth c D tyc A ad0 x hr htab hname => ?_
  change JJ _ _ _ _ _ _ _ _ _ _ _ _ _ _ _ _ _ 0 [some (.ref 0), some (.int t), some (.int u), none] [] _ 0 0
  refine j_aload_n x dX5_find_0 rfl ?_
  refine j_iload_n x dX5_find_1 rfl ?_
  refine j2_callVi x hb dX5_find_2 m_X5_isTeam (CM_v (c_isTeam (d := d) hb) (jb_t hT)) wmX5_174 jc_9 rfl rfl rfl (Nat.le_of_ble_eq_true rfl) (j_fit_rm (by omega) (by omega) (by omega)) rfl ?_
  refine j_if_eq (tgt := 16) x dX5_find_5 (by decide) (fun hc => absurd hc (by decide)) (fun hc => ?_)
  refine j_aload_n x dX5_find_8 rfl ?_
  refine j_iload_n x dX5_find_9 rfl ?_
  refine j2_callVi x hb dX5_find_10 m_X5_isTeam (CM_v (c_isTeam (d := d) hb) (jb_t hU)) wmX5_174 jc_9 rfl rfl rfl (Nat.le_of_ble_eq_true rfl) (j_fit_rm (by omega) (by omega) (by omega)) rfl ?_
  refine j_if_ne (tgt := 26) x dX5_find_13 (by decide) (fun hc => ?_) (fun hc => absurd hc (by decide))
  refine j_aload_n x dX5_find_26 rfl ?_
  refine j_iload_n x dX5_find_27 rfl ?_
  refine j_iload_n x dX5_find_28 rfl ?_
  refine j2_callVi x hb dX5_find_29 m_X5_meetingBetween (c_meetingBetween (d := d) hb hn hm) wmX5_240 jc_9 rfl rfl rfl (Nat.le_of_ble_eq_true rfl) (j_fit_rm (by omega) (by omega) (by omega)) rfl ?_
  refine j_istore_n x dX5_find_32 (by decide) rfl ?_
  refine j_iload_n x dX5_find_33 rfl ?_
  refine j_iconst (v := (-1)) x dX5_find_34 (by decide) ?_
  refine j_icmp_ne (tgt := 48) x dX5_find_35 (by decide) (fun hc => ?_) (fun hc => absurd hc (h))
  refine j_iload_n x dX5_find_48 rfl ?_
  exact j_ireturn x hr dX5_find_49 (by omega) (by omega) ⟨rfl, rfl⟩
theorem c_byeIn_no {d : Nat} {b : SBt} {Y : OUt} {M : MM} (hb : 104 ≤ b.2.1) {t : Int32} (hT : ¬ t < 0 ∧ ¬ jwc M ≤ t) (h : jat 14 (M 73) t = -1) : CM (d + 2) 1 6 yX5_byeIn cX5_byeIn 3 (some .int) [.ref 0, .int t] b Y M (.inr "java/util/NoSuchElementException") (M) := by
  refine Con.of (by decide +kernel) (Nat.le_of_ble_eq_true rfl) rfl fun p l e s m args below meth c D tyc A ad0 x hr htab hname => ?_
  change JJ _ _ _ _ _ _ _ _ _ _ _ _ _ _ _ _ _ 0 [some (.ref 0), some (.int t), none] [] _ 0 0
  refine j_aload_n x dX5_byeIn_0 rfl ?_
  refine j_iload_n x dX5_byeIn_1 rfl ?_
  refine j2_callVi x hb dX5_byeIn_2 m_X5_isWeek (CM_v (c_isWeek (d := d) hb) (jb_t hT)) wmX5_248 jc_9 rfl rfl rfl (Nat.le_of_ble_eq_true rfl) (j_fit_rm (by omega) (by omega) (by omega)) rfl ?_
  refine j_if_ne (tgt := 18) x dX5_byeIn_5 (by decide) (fun hc => ?_) (fun hc => absurd hc (by decide))
  refine j_aload_n x dX5_byeIn_18 rfl ?_
  refine j2_getr (k := 4) (r := 69) x hb dX5_byeIn_19 jc_9 wfX5_29 (by decide) rfl ?_
  refine j2_getr (k := 5) (r := 73) x hb dX5_byeIn_22 jc_4 wfX5_253 (by decide) rfl ?_
  refine j_iload_n x dX5_byeIn_25 rfl ?_
  refine j2_callSi x hb dX5_byeIn_26 m_X5_at (c_at (d := d) hb fa_73 (by decide)) wmX5_93 rfl (Nat.le_of_ble_eq_true rfl) (j_fit_rm (by omega) (by omega) (by omega)) rfl ?_
  refine j_istore_n x dX5_byeIn_29 (by decide) rfl ?_
  refine j_iload_n x dX5_byeIn_30 rfl ?_
  refine j_iconst (v := (-1)) x dX5_byeIn_31 (by decide) ?_
  refine j_icmp_ne (tgt := 46) x dX5_byeIn_32 (by decide) (fun hc => absurd hc (fun q => q h)) (fun hc => ?_)
  exact j_throwNSW x exX5_243 wsX5_256 dX5_byeIn_35 dX5_byeIn_38 dX5_byeIn_39 dX5_byeIn_42 dX5_byeIn_45 htab (by omega) (by omega) ⟨rfl, rfl⟩
theorem c_byeIn_ok {d : Nat} {b : SBt} {Y : OUt} {M : MM} (hb : 104 ≤ b.2.1) {t : Int32} (hT : ¬ t < 0 ∧ ¬ jwc M ≤ t) (h : ¬ jat 14 (M 73) t = -1) : CM (d + 2) 1 6 yX5_byeIn cX5_byeIn 3 (some .int) [.ref 0, .int t] b Y M (.inl (some (.int (jat 14 (M 73) t)))) (M) := by
  refine Con.of (by decide +kernel) (Nat.le_of_ble_eq_true rfl) rfl fun p l e s m args below meth c D tyc A ad0 x hr htab hname => ?_
  change JJ _ _ _ _ _ _ _ _ _ _ _ _ _ _ _ _ _ 0 [some (.ref 0), some (.int t), none] [] _ 0 0
  refine j_aload_n x dX5_byeIn_0 rfl ?_
  refine j_iload_n x dX5_byeIn_1 rfl ?_
  refine j2_callVi x hb dX5_byeIn_2 m_X5_isWeek (CM_v (c_isWeek (d := d) hb) (jb_t hT)) wmX5_248 jc_9 rfl rfl rfl (Nat.le_of_ble_eq_true rfl) (j_fit_rm (by omega) (by omega) (by omega)) rfl ?_
  refine j_if_ne (tgt := 18) x dX5_byeIn_5 (by decide) (fun hc => ?_) (fun hc => absurd hc (by decide))
  refine j_aload_n x dX5_byeIn_18 rfl ?_
  refine j2_getr (k := 4) (r := 69) x hb dX5_byeIn_19 jc_9 wfX5_29 (by decide) rfl ?_
  refine j2_getr (k := 5) (r := 73) x hb dX5_byeIn_22 jc_4 wfX5_253 (by decide) rfl ?_
  refine j_iload_n x dX5_byeIn_25 rfl ?_
  refine j2_callSi x hb dX5_byeIn_26 m_X5_at (c_at (d := d) hb fa_73 (by decide)) wmX5_93 rfl (Nat.le_of_ble_eq_true rfl) (j_fit_rm (by omega) (by omega) (by omega)) rfl ?_
  refine j_istore_n x dX5_byeIn_29 (by decide) rfl ?_
  refine j_iload_n x dX5_byeIn_30 rfl ?_
  refine j_iconst (v := (-1)) x dX5_byeIn_31 (by decide) ?_
  refine j_icmp_ne (tgt := 46) x dX5_byeIn_32 (by decide) (fun hc => ?_) (fun hc => absurd hc (h))
  refine j_iload_n x dX5_byeIn_46 rfl ?_
  exact j_ireturn x hr dX5_byeIn_47 (by omega) (by omega) ⟨rfl, rfl⟩
def fIn (M : MM) (t : Int32) (m : Nat) : Int32 := jb (M 4 m = t)
theorem c_meetingsIn {d : Nat} {b : SBt} {Y : OUt} {M : MM} (hb : 104 ≤ b.2.1) {t : Int32} (hT : ¬ t < 0 ∧ ¬ jwc M ≤ t) {n : Nat} (hn : n ≤ 56) (hm : jmc M = nI n) : CM (d + 2) 1 6 yX5_meetingsIn cX5_meetingsIn 4 (some .int) [.ref 0, .int t] b Y M (.inl (some (.int (jsum (fIn M t) n)))) (M) := by
  refine Con.of (by decide +kernel) (Nat.le_of_ble_eq_true rfl) rfl fun p l e s m args below meth c D tyc A ad0 x hr htab hname => ?_
  change JJ _ _ _ _ _ _ _ _ _ _ _ _ _ _ _ _ _ 0 [some (.ref 0), some (.int t), none, none] [] _ 0 0
  refine j_aload_n x dX5_meetingsIn_0 rfl ?_
  refine j_iload_n x dX5_meetingsIn_1 rfl ?_
  refine j2_callVi x hb dX5_meetingsIn_2 m_X5_isWeek (CM_v (c_isWeek (d := d) hb) (jb_t hT)) wmX5_248 jc_9 rfl rfl rfl (Nat.le_of_ble_eq_true rfl) (j_fit_rm (by omega) (by omega) (by omega)) rfl ?_
  refine j_if_ne (tgt := 18) x dX5_meetingsIn_5 (by decide) (fun hc => ?_) (fun hc => absurd hc (by decide))
  refine j_iconst (v := 0) x dX5_meetingsIn_18 (by decide) ?_
  refine j_istore_n x dX5_meetingsIn_19 (by decide) rfl ?_
  refine j_iconst (v := 0) x dX5_meetingsIn_20 (by decide) ?_
  refine j_istore_n x dX5_meetingsIn_21 (by decide) rfl ?_
  refine j_for (n) (fun j => [some (.ref 0), some (.int t), some (.int (jsum (fIn M t) j)), some (.int (nI j))]) (fun j => M) (fun j => True) (rfl) (rfl) (trivial) (fun j hj hP ih => ?_) (fun hP => ?_)
  · refine j_iload_n x dX5_meetingsIn_22 rfl ?_
    refine j_aload_n x dX5_meetingsIn_23 rfl ?_
    refine j2_callVi x hb dX5_meetingsIn_24 m_X5_meetingCount (CM_v (c_meetingCount (d := d) hb) hm) wmX5_258 jc_9 rfl rfl rfl (Nat.le_of_ble_eq_true rfl) (j_fit_rm (by omega) (by omega) (by omega)) rfl ?_
    refine j_icmp_ge (tgt := 54) x dX5_meetingsIn_27 (by decide) (fun hc => absurd hc (nI_ge hj (by omega))) (fun hc => ?_)
    refine j_aload_n x dX5_meetingsIn_30 rfl ?_
    refine j2_getr (k := 0) (r := 1) x hb dX5_meetingsIn_31 jc_9 wfX5_10 (by decide) rfl ?_
    refine j2_getr (k := 8) (r := 4) x hb dX5_meetingsIn_34 jc_6 wfX5_163 (by decide) rfl ?_
    refine j_iload_n x dX5_meetingsIn_37 rfl ?_
    refine j2_callSi x hb dX5_meetingsIn_38 m_X5_at (CM_v (c_at (d := d) hb fa_4 (by decide)) (jat_nI (show j < 56 by omega) (by decide))) wmX5_93 rfl (Nat.le_of_ble_eq_true rfl) (j_fit_rm (by omega) (by omega) (by omega)) rfl ?_
    refine j_iload_n x dX5_meetingsIn_41 rfl ?_
    refine j_icmp_ne (tgt := 48) x dX5_meetingsIn_42 (by decide) (fun h1 => ?_) (fun h1 => ?_)
    · refine j_iinc x dX5_meetingsIn_48 rfl (by decide) rfl ?_
      refine j_goto (tgt := 22) x dX5_meetingsIn_51 (by decide) ?_
      exact j_goal (ih (trivial)) (wk_c rfl (wk_c rfl (wk_c (congrArg (fun z => some (Value.int z)) (jsum_f (jb_f h1))) (wk_c (congrArg (fun z => some (Value.int z)) (nI_1 _)) (wk_0))))) (rfl)
    · refine j_iinc x dX5_meetingsIn_45 rfl (by decide) rfl ?_
      refine j_iinc x dX5_meetingsIn_48 rfl (by decide) rfl ?_
      refine j_goto (tgt := 22) x dX5_meetingsIn_51 (by decide) ?_
      exact j_goal (ih (trivial)) (wk_c rfl (wk_c rfl (wk_c (congrArg (fun z => some (Value.int z)) (jsum_v (jb_t h1))) (wk_c (congrArg (fun z => some (Value.int z)) (nI_1 _)) (wk_0))))) (rfl)
  refine j_iload_n x dX5_meetingsIn_22 rfl ?_
  refine j_aload_n x dX5_meetingsIn_23 rfl ?_
  refine j2_callVi x hb dX5_meetingsIn_24 m_X5_meetingCount (CM_v (c_meetingCount (d := d) hb) hm) wmX5_258 jc_9 rfl rfl rfl (Nat.le_of_ble_eq_true rfl) (j_fit_rm (by omega) (by omega) (by omega)) rfl ?_
  refine j_icmp_ge (tgt := 54) x dX5_meetingsIn_27 (by decide) (fun hc => ?_) (fun hc => absurd (nI_le (Nat.le_refl _) (by omega)) hc)
  refine j_iload_n x dX5_meetingsIn_54 rfl ?_
  exact j_ireturn x hr dX5_meetingsIn_55 (by omega) (by omega) ⟨rfl, rfl⟩
theorem c_clashes {d : Nat} {b : SBt} {Y : OUt} {M : MM} (hb : 104 ≤ b.2.1) {t : Int32} (hT : ¬ t < 0 ∧ ¬ jwc M ≤ t) {n : Nat} (hn : n ≤ 56) (hm : jmc M = nI n) : CM (d + 4) 1 6 yX5_clashes cX5_clashes 2 (some .int) [.ref 0, .int t] b Y M (.inl (some (.int (jpairs M n t)))) (M) := by
  refine Con.of (by decide +kernel) (Nat.le_of_ble_eq_true rfl) rfl fun p l e s m args below meth c D tyc A ad0 x hr htab hname => ?_
  change JJ _ _ _ _ _ _ _ _ _ _ _ _ _ _ _ _ _ 0 [some (.ref 0), some (.int t)] [] _ 0 0
  refine j_aload_n x dX5_clashes_0 rfl ?_
  refine j_iload_n x dX5_clashes_1 rfl ?_
  refine j2_callVi x hb dX5_clashes_2 m_X5_isWeek (CM_v (c_isWeek (d := d) hb) (jb_t hT)) wmX5_248 jc_9 rfl rfl rfl (Nat.le_of_ble_eq_true rfl) (j_fit_rm (by omega) (by omega) (by omega)) rfl ?_
  refine j_if_ne (tgt := 18) x dX5_clashes_5 (by decide) (fun hc => ?_) (fun hc => absurd hc (by decide))
  refine j_aload_n x dX5_clashes_18 rfl ?_
  refine j_iload_n x dX5_clashes_19 rfl ?_
  refine j2_callVi x hb dX5_clashes_20 m_X5_clashingPairs (c_clashingPairs (d := d) hb hn hm) wmX5_261 jc_9 rfl rfl rfl (Nat.le_of_ble_eq_true rfl) (j_fit_rm (by omega) (by omega) (by omega)) rfl ?_
  exact j_ireturn x hr dX5_clashes_23 (by omega) (by omega) ⟨rfl, rfl⟩
theorem c_freeWeek_no {d : Nat} {b : SBt} {Y : OUt} {M : MM} (hb : 104 ≤ b.2.1) {t : Int32} (hT : ¬ t < 0 ∧ ¬ jmc M ≤ t) {n z q0 : Nat} (hn : n ≤ 56) (hm : jmc M = nI n) (hz : z ≤ 14) (hw : jwc M = nI z) (h0 : jat 56 (M 4) t = nI q0) (hq : q0 < z) (h : jfree M n z q0 t = -1) : CM (d + 4) 1 6 yX5_freeWeek cX5_freeWeek 3 (some .int) [.ref 0, .int t] b Y M (.inr "java/util/NoSuchElementException") (M) := by
  refine Con.of (by decide +kernel) (Nat.le_of_ble_eq_true rfl) rfl fun p l e s m args below meth c D tyc A ad0 x hr htab hname => ?_
  change JJ _ _ _ _ _ _ _ _ _ _ _ _ _ _ _ _ _ 0 [some (.ref 0), some (.int t), none] [] _ 0 0
  refine j_aload_n x dX5_freeWeek_0 rfl ?_
  refine j_iload_n x dX5_freeWeek_1 rfl ?_
  refine j2_callVi x hb dX5_freeWeek_2 m_X5_isMeeting (CM_v (c_isMeeting (d := d) hb) (jb_t hT)) wmX5_214 jc_9 rfl rfl rfl (Nat.le_of_ble_eq_true rfl) (j_fit_rm (by omega) (by omega) (by omega)) rfl ?_
  refine j_if_ne (tgt := 18) x dX5_freeWeek_5 (by decide) (fun hc => ?_) (fun hc => absurd hc (by decide))
  refine j_aload_n x dX5_freeWeek_18 rfl ?_
  refine j_iload_n x dX5_freeWeek_19 rfl ?_
  refine j2_callVi x hb dX5_freeWeek_20 m_X5_firstFreeWeek (c_firstFreeWeek (d := d) hb hn hm hz hw h0 hq) wmX5_264 jc_9 rfl rfl rfl (Nat.le_of_ble_eq_true rfl) (j_fit_rm (by omega) (by omega) (by omega)) rfl ?_
  refine j_istore_n x dX5_freeWeek_23 (by decide) rfl ?_
  refine j_iload_n x dX5_freeWeek_24 rfl ?_
  refine j_iconst (v := (-1)) x dX5_freeWeek_25 (by decide) ?_
  refine j_icmp_ne (tgt := 40) x dX5_freeWeek_26 (by decide) (fun hc => absurd hc (fun q => q h)) (fun hc => ?_)
  exact j_throwNSW x exX5_243 wsX5_267 dX5_freeWeek_29 dX5_freeWeek_32 dX5_freeWeek_33 dX5_freeWeek_36 dX5_freeWeek_39 htab (by omega) (by omega) ⟨rfl, rfl⟩
theorem c_freeWeek_ok {d : Nat} {b : SBt} {Y : OUt} {M : MM} (hb : 104 ≤ b.2.1) {t : Int32} (hT : ¬ t < 0 ∧ ¬ jmc M ≤ t) {n z q0 : Nat} (hn : n ≤ 56) (hm : jmc M = nI n) (hz : z ≤ 14) (hw : jwc M = nI z) (h0 : jat 56 (M 4) t = nI q0) (hq : q0 < z) (h : ¬ jfree M n z q0 t = -1) : CM (d + 4) 1 6 yX5_freeWeek cX5_freeWeek 3 (some .int) [.ref 0, .int t] b Y M (.inl (some (.int (jfree M n z q0 t)))) (M) := by
  refine Con.of (by decide +kernel) (Nat.le_of_ble_eq_true rfl) rfl fun p l e s m args below meth c D tyc A ad0 x hr htab hname => ?_
  change JJ _ _ _ _ _ _ _ _ _ _ _ _ _ _ _ _ _ 0 [some (.ref 0), some (.int t), none] [] _ 0 0
  refine j_aload_n x dX5_freeWeek_0 rfl ?_
  refine j_iload_n x dX5_freeWeek_1 rfl ?_
  refine j2_callVi x hb dX5_freeWeek_2 m_X5_isMeeting (CM_v (c_isMeeting (d := d) hb) (jb_t hT)) wmX5_214 jc_9 rfl rfl rfl (Nat.le_of_ble_eq_true rfl) (j_fit_rm (by omega) (by omega) (by omega)) rfl ?_
  refine j_if_ne (tgt := 18) x dX5_freeWeek_5 (by decide) (fun hc => ?_) (fun hc => absurd hc (by decide))
  refine j_aload_n x dX5_freeWeek_18 rfl ?_
  refine j_iload_n x dX5_freeWeek_19 rfl ?_
  refine j2_callVi x hb dX5_freeWeek_20 m_X5_firstFreeWeek (c_firstFreeWeek (d := d) hb hn hm hz hw h0 hq) wmX5_264 jc_9 rfl rfl rfl (Nat.le_of_ble_eq_true rfl) (j_fit_rm (by omega) (by omega) (by omega)) rfl ?_
  refine j_istore_n x dX5_freeWeek_23 (by decide) rfl ?_
  refine j_iload_n x dX5_freeWeek_24 rfl ?_
  refine j_iconst (v := (-1)) x dX5_freeWeek_25 (by decide) ?_
  refine j_icmp_ne (tgt := 40) x dX5_freeWeek_26 (by decide) (fun hc => ?_) (fun hc => absurd hc (h))
  refine j_iload_n x dX5_freeWeek_40 rfl ?_
  exact j_ireturn x hr dX5_freeWeek_41 (by omega) (by omega) ⟨rfl, rfl⟩
/-- a run: (the longest so far, that which goes on) -/
def jrun (M : MM) (t : Int32) : Nat → Int32 × Int32
  | 0 => (0, 0)
  | m + 1 => if M 5 m = -1 then jrun M t m else if ¬ (M 70 m = t ∨ M 71 m = t) then jrun M t m else
    let g : Int32 := if (if M 70 m = t then jb (¬ 0 ≤ M 5 m - M 6 m) else jb (¬ M 5 m - M 6 m ≤ 0)) = 0 then (jrun M t m).2 + 1 else 0
    ((if (jrun M t m).1 < g then g else (jrun M t m).1), g)
theorem c_run {d : Nat} {b : SBt} {Y : OUt} {M : MM} (hb : 104 ≤ b.2.1) {t : Int32} (hT : ¬ t < 0 ∧ ¬ M 1 0 ≤ t) {n : Nat} (hn : n ≤ 56) (hm : jmc M = nI n) : CM (d + 3) 1 6 yX5_run cX5_run 5 (some .int) [.ref 0, .int t] b Y M (.inl (some (.int (jrun M t n).1))) (M) := by
  refine Con.of (by decide +kernel) (Nat.le_of_ble_eq_true rfl) rfl fun p l e s m args below meth c D tyc A ad0 x hr htab hname => ?_
  change JJ _ _ _ _ _ _ _ _ _ _ _ _ _ _ _ _ _ 0 [some (.ref 0), some (.int t), none, none, none] [] _ 0 0
  refine j_aload_n x dX5_run_0 rfl ?_
  refine j_iload_n x dX5_run_1 rfl ?_
  refine j2_callVi x hb dX5_run_2 m_X5_isTeam (CM_v (c_isTeam (d := d) hb) (jb_t hT)) wmX5_174 jc_9 rfl rfl rfl (Nat.le_of_ble_eq_true rfl) (j_fit_rm (by omega) (by omega) (by omega)) rfl ?_
  refine j_if_ne (tgt := 18) x dX5_run_5 (by decide) (fun hc => ?_) (fun hc => absurd hc (by decide))
  refine j_iconst (v := 0) x dX5_run_18 (by decide) ?_
  refine j_istore_n x dX5_run_19 (by decide) rfl ?_
  refine j_iconst (v := 0) x dX5_run_20 (by decide) ?_
  refine j_istore_n x dX5_run_21 (by decide) rfl ?_
  refine j_iconst (v := 0) x dX5_run_22 (by decide) ?_
  refine j_istore x dX5_run_23 (by decide) rfl ?_
  refine j_for (n) (fun j => [some (.ref 0), some (.int t), some (.int (jrun M t j).1), some (.int (jrun M t j).2), some (.int (nI j))]) (fun j => M) (fun j => True) (rfl) (rfl) (trivial) (fun j hj hP ih => ?_) (fun hP => ?_)
  · refine j_iload x dX5_run_25 rfl ?_
    refine j_aload_n x dX5_run_27 rfl ?_
    refine j2_callVi x hb dX5_run_28 m_X5_meetingCount (CM_v (c_meetingCount (d := d) hb) hm) wmX5_258 jc_9 rfl rfl rfl (Nat.le_of_ble_eq_true rfl) (j_fit_rm (by omega) (by omega) (by omega)) rfl ?_
    refine j_icmp_ge (tgt := 86) x dX5_run_31 (by decide) (fun hc => absurd hc (nI_ge hj (by omega))) (fun hc => ?_)
    refine j_aload_n x dX5_run_34 rfl ?_
    refine j2_getr (k := 0) (r := 1) x hb dX5_run_35 jc_9 wfX5_10 (by decide) rfl ?_
    refine j_iload x dX5_run_38 rfl ?_
    refine j2_callVi x hb dX5_run_40 m_X2_isPlayed (CM_v (c_isPlayed (d := d) (a := 1) hb rfl) (show _ = jb (¬ M 5 j = -1) by rw [jat_nI (show j < 56 by omega) (by decide)])) wmX5_288 jc_6 rfl rfl rfl (Nat.le_of_ble_eq_true rfl) (j_fit_rm (by omega) (by omega) (by omega)) rfl ?_
    refine j_if_eq (tgt := 80) x dX5_run_43 (by decide) (fun h1 => ?_) (fun h1 => ?_)
    · refine j_iinc x dX5_run_80 rfl (by decide) rfl ?_
      refine j_goto (tgt := 25) x dX5_run_83 (by decide) ?_
      exact j_goal (ih (trivial)) (wk_c rfl (wk_c rfl (wk_c (congrArg (fun z => some (Value.int z)) (show _ = (jrun M t (j + 1)).1 by rw [jrun, if_pos (Decidable.not_not.mp (jb_0.mp h1))])) (wk_c (congrArg (fun z => some (Value.int z)) (show _ = (jrun M t (j + 1)).2 by rw [jrun, if_pos (Decidable.not_not.mp (jb_0.mp h1))])) (wk_c (congrArg (fun z => some (Value.int z)) (nI_1 _)) (wk_0)))))) (rfl)
    · refine j_aload_n x dX5_run_46 rfl ?_
      refine j_iload_n x dX5_run_47 rfl ?_
      refine j_iload x dX5_run_48 rfl ?_
      refine j2_callVi x hb dX5_run_50 m_X5_isIn (c_isIn (d := d) hb (m1 := j) (by omega)) wmX5_291 jc_9 rfl rfl rfl (Nat.le_of_ble_eq_true rfl) (j_fit_rm (by omega) (by omega) (by omega)) rfl ?_
      refine j_if_eq (tgt := 80) x dX5_run_53 (by decide) (fun h2 => ?_) (fun h2 => ?_)
      · refine j_iinc x dX5_run_80 rfl (by decide) rfl ?_
        refine j_goto (tgt := 25) x dX5_run_83 (by decide) ?_
        exact j_goal (ih (trivial)) (wk_c rfl (wk_c rfl (wk_c (congrArg (fun z => some (Value.int z)) (show _ = (jrun M t (j + 1)).1 by rw [jrun, if_neg (jb_nz.mp h1), if_pos (jb_0.mp h2)])) (wk_c (congrArg (fun z => some (Value.int z)) (show _ = (jrun M t (j + 1)).2 by rw [jrun, if_neg (jb_nz.mp h1), if_pos (jb_0.mp h2)])) (wk_c (congrArg (fun z => some (Value.int z)) (nI_1 _)) (wk_0)))))) (rfl)
      · refine j_aload_n x dX5_run_56 rfl ?_
        refine j_iload_n x dX5_run_57 rfl ?_
        refine j_iload x dX5_run_58 rfl ?_
        refine j2_callVi x hb dX5_run_60 m_X5_hasLost (c_hasLost (d := d) hb (m1 := j) (by omega)) wmX5_294 jc_9 rfl rfl rfl (Nat.le_of_ble_eq_true rfl) (j_fit_rm (by omega) (by omega) (by omega)) rfl ?_
        refine j_if_eq (tgt := 70) x dX5_run_63 (by decide) (fun h3 => ?_) (fun h3 => ?_)
        · refine j_iload_n x dX5_run_70 rfl ?_
          refine j_iconst (v := 1) x dX5_run_71 (by decide) ?_
          refine j_iadd x dX5_run_72 ?_
          refine j_istore_n x dX5_run_73 (by decide) rfl ?_
          refine j_iload_n x dX5_run_74 rfl ?_
          refine j_iload_n x dX5_run_75 rfl ?_
          refine j_max x wmath dX5_run_76 wmX5_297 (Nat.le_of_ble_eq_true rfl) (Nat.zero_le _) (Nat.zero_le _) ?_
          refine j_istore_n x dX5_run_79 (by decide) rfl ?_
          refine j_iinc x dX5_run_80 rfl (by decide) rfl ?_
          refine j_goto (tgt := 25) x dX5_run_83 (by decide) ?_
          exact j_goal (ih (trivial)) (wk_c rfl (wk_c rfl (wk_c (congrArg (fun z => some (Value.int z)) (show _ = (jrun M t (j + 1)).1 by simp only [jrun, if_neg (jb_nz.mp h1), if_neg (fun (q : ¬ (M 70 j = t ∨ M 71 j = t)) => q (jb_nz.mp h2)), if_pos h3])) (wk_c (congrArg (fun z => some (Value.int z)) (show _ = (jrun M t (j + 1)).2 by simp only [jrun, if_neg (jb_nz.mp h1), if_neg (fun (q : ¬ (M 70 j = t ∨ M 71 j = t)) => q (jb_nz.mp h2)), if_pos h3])) (wk_c (congrArg (fun z => some (Value.int z)) (nI_1 _)) (wk_0)))))) (rfl)
        · refine j_iconst (v := 0) x dX5_run_66 (by decide) ?_
          refine j_goto (tgt := 73) x dX5_run_67 (by decide) ?_
          refine j_istore_n x dX5_run_73 (by decide) rfl ?_
          refine j_iload_n x dX5_run_74 rfl ?_
          refine j_iload_n x dX5_run_75 rfl ?_
          refine j_max x wmath dX5_run_76 wmX5_297 (Nat.le_of_ble_eq_true rfl) (Nat.zero_le _) (Nat.zero_le _) ?_
          refine j_istore_n x dX5_run_79 (by decide) rfl ?_
          refine j_iinc x dX5_run_80 rfl (by decide) rfl ?_
          refine j_goto (tgt := 25) x dX5_run_83 (by decide) ?_
          exact j_goal (ih (trivial)) (wk_c rfl (wk_c rfl (wk_c (congrArg (fun z => some (Value.int z)) (show _ = (jrun M t (j + 1)).1 by simp only [jrun, if_neg (jb_nz.mp h1), if_neg (fun (q : ¬ (M 70 j = t ∨ M 71 j = t)) => q (jb_nz.mp h2)), if_neg h3])) (wk_c (congrArg (fun z => some (Value.int z)) (show _ = (jrun M t (j + 1)).2 by simp only [jrun, if_neg (jb_nz.mp h1), if_neg (fun (q : ¬ (M 70 j = t ∨ M 71 j = t)) => q (jb_nz.mp h2)), if_neg h3])) (wk_c (congrArg (fun z => some (Value.int z)) (nI_1 _)) (wk_0)))))) (rfl)
  refine j_iload x dX5_run_25 rfl ?_
  refine j_aload_n x dX5_run_27 rfl ?_
  refine j2_callVi x hb dX5_run_28 m_X5_meetingCount (CM_v (c_meetingCount (d := d) hb) hm) wmX5_258 jc_9 rfl rfl rfl (Nat.le_of_ble_eq_true rfl) (j_fit_rm (by omega) (by omega) (by omega)) rfl ?_
  refine j_icmp_ge (tgt := 86) x dX5_run_31 (by decide) (fun hc => ?_) (fun hc => absurd (nI_le (Nat.le_refl _) (by omega)) hc)
  refine j_iload_n x dX5_run_86 rfl ?_
  exact j_ireturn x hr dX5_run_87 (by omega) (by omega) ⟨rfl, rfl⟩
theorem c_reason_0 {d : Nat} {b : SBt} {Y : OUt} {M : MM} (hb : 104 ≤ b.2.1) (h0 : ¬ M 0 9 = 0) : CM (d) 1 6 yX5_reason cX5_reason 2 (some .int) [.ref 0, .int 0] b Y M (.inl (some (.int (M 0 9)))) (M) := by
  refine Con.of (by decide +kernel) (Nat.le_of_ble_eq_true rfl) rfl fun p l e s m args below meth c D tyc A ad0 x hr htab hname => ?_
  change JJ _ _ _ _ _ _ _ _ _ _ _ _ _ _ _ _ _ 0 [some (.ref 0), some (.int 0)] [] _ 0 0
  refine j_iload_n x dX5_reason_0 rfl ?_
  refine j_if_lt (tgt := 9) x dX5_reason_1 (by decide) (fun hc => absurd hc (by decide)) (fun hc => ?_)
  refine j_iload_n x dX5_reason_4 rfl ?_
  refine j_iconst (v := 2) x dX5_reason_5 (by decide) ?_
  refine j_icmp_le (tgt := 20) x dX5_reason_6 (by decide) (fun hc => ?_) (fun hc => absurd (by decide) hc)
  refine j_aload_n x dX5_reason_20 rfl ?_
  refine j2_geti (k := 9) x hb dX5_reason_21 jc_9 wfX5_343 (by decide) rfl ?_
  refine j_if_ne (tgt := 38) x dX5_reason_24 (by decide) (fun hc => ?_) (fun hc => absurd hc (h0))
  refine j_iload_n x dX5_reason_38 rfl ?_
  refine j_lookup (off := 25) (tgt := 64) x dX5_reason_39 (by decide) (by decide) (by decide) ?_
  refine j_aload_n x dX5_reason_64 rfl ?_
  refine j2_geti (k := 9) x hb dX5_reason_65 jc_9 wfX5_343 (by decide) rfl ?_
  exact j_ireturn x hr dX5_reason_68 (by omega) (by omega) ⟨rfl, rfl⟩
theorem c_reason_1 {d : Nat} {b : SBt} {Y : OUt} {M : MM} (hb : 104 ≤ b.2.1) (h0 : ¬ M 0 9 = 0) : CM (d) 1 6 yX5_reason cX5_reason 2 (some .int) [.ref 0, .int 1] b Y M (.inl (some (.int (M 0 10)))) (M) := by
  refine Con.of (by decide +kernel) (Nat.le_of_ble_eq_true rfl) rfl fun p l e s m args below meth c D tyc A ad0 x hr htab hname => ?_
  change JJ _ _ _ _ _ _ _ _ _ _ _ _ _ _ _ _ _ 0 [some (.ref 0), some (.int 1)] [] _ 0 0
  refine j_iload_n x dX5_reason_0 rfl ?_
  refine j_if_lt (tgt := 9) x dX5_reason_1 (by decide) (fun hc => absurd hc (by decide)) (fun hc => ?_)
  refine j_iload_n x dX5_reason_4 rfl ?_
  refine j_iconst (v := 2) x dX5_reason_5 (by decide) ?_
  refine j_icmp_le (tgt := 20) x dX5_reason_6 (by decide) (fun hc => ?_) (fun hc => absurd (by decide) hc)
  refine j_aload_n x dX5_reason_20 rfl ?_
  refine j2_geti (k := 9) x hb dX5_reason_21 jc_9 wfX5_343 (by decide) rfl ?_
  refine j_if_ne (tgt := 38) x dX5_reason_24 (by decide) (fun hc => ?_) (fun hc => absurd hc (h0))
  refine j_iload_n x dX5_reason_38 rfl ?_
  refine j_lookup (off := 30) (tgt := 69) x dX5_reason_39 (by decide) (by decide) (by decide) ?_
  refine j_aload_n x dX5_reason_69 rfl ?_
  refine j2_geti (k := 10) x hb dX5_reason_70 jc_9 wfX5_348 (by decide) rfl ?_
  exact j_ireturn x hr dX5_reason_73 (by omega) (by omega) ⟨rfl, rfl⟩
theorem c_reason_2 {d : Nat} {b : SBt} {Y : OUt} {M : MM} (hb : 104 ≤ b.2.1) (h0 : ¬ M 0 9 = 0) : CM (d) 1 6 yX5_reason cX5_reason 2 (some .int) [.ref 0, .int 2] b Y M (.inl (some (.int (M 0 11)))) (M) := by
  refine Con.of (by decide +kernel) (Nat.le_of_ble_eq_true rfl) rfl fun p l e s m args below meth c D tyc A ad0 x hr htab hname => ?_
  change JJ _ _ _ _ _ _ _ _ _ _ _ _ _ _ _ _ _ 0 [some (.ref 0), some (.int 2)] [] _ 0 0
  refine j_iload_n x dX5_reason_0 rfl ?_
  refine j_if_lt (tgt := 9) x dX5_reason_1 (by decide) (fun hc => absurd hc (by decide)) (fun hc => ?_)
  refine j_iload_n x dX5_reason_4 rfl ?_
  refine j_iconst (v := 2) x dX5_reason_5 (by decide) ?_
  refine j_icmp_le (tgt := 20) x dX5_reason_6 (by decide) (fun hc => ?_) (fun hc => absurd (by decide) hc)
  refine j_aload_n x dX5_reason_20 rfl ?_
  refine j2_geti (k := 9) x hb dX5_reason_21 jc_9 wfX5_343 (by decide) rfl ?_
  refine j_if_ne (tgt := 38) x dX5_reason_24 (by decide) (fun hc => ?_) (fun hc => absurd hc (h0))
  refine j_iload_n x dX5_reason_38 rfl ?_
  refine j_lookup (off := 35) (tgt := 74) x dX5_reason_39 (by decide) (by decide) (by decide) ?_
  refine j_aload_n x dX5_reason_74 rfl ?_
  refine j2_geti (k := 11) x hb dX5_reason_75 jc_9 wfX5_351 (by decide) rfl ?_
  exact j_ireturn x hr dX5_reason_78 (by omega) (by omega) ⟨rfl, rfl⟩
theorem c_account_k0 {d : Nat} {b : SBt} {Y : OUt} {M : MM} (hb : 104 ≤ b.2.1) {n : Nat} (hn : n ≤ 56) (hm : jmc M = nI n) : CM (d + 5) 1 6 yX5_account cX5_account 2 (some .int) [.ref 0, .int 0] b Y M (.inl (some (.int (jcount M n 1 0)))) (jcount M n) := by
  refine Con.of (by decide +kernel) (Nat.le_of_ble_eq_true rfl) rfl fun p l e s m args below meth c D tyc A ad0 x hr htab hname => ?_
  change JJ _ _ _ _ _ _ _ _ _ _ _ _ _ _ _ _ _ 0 [some (.ref 0), some (.int 0)] [] _ 0 0
  refine j_iload_n x dX5_account_0 rfl ?_
  refine j_if_lt (tgt := 10) x dX5_account_1 (by decide) (fun hc => absurd hc (by decide)) (fun hc => ?_)
  refine j_iload_n x dX5_account_4 rfl ?_
  refine j_bipush (v := 14) x dX5_account_5 (by decide) ?_
  refine j_icmp_le (tgt := 21) x dX5_account_7 (by decide) (fun hc => ?_) (fun hc => absurd (by decide) hc)
  refine j_aload_n x dX5_account_21 rfl ?_
  refine j2_callVv x hb dX5_account_22 m_X5_count (c_count (d := d) hb hn hm) wmX5_187 jc_9 rfl rfl rfl (Nat.le_of_ble_eq_true rfl) (j_fit_rm (by omega) (by omega) (by omega)) rfl ?_
  refine j_iload_n x dX5_account_25 rfl ?_
  refine j_tableIn (tgt := 96) x dX5_account_26 (by decide) (by decide) rfl (by decide) ?_
  refine j_aload_n x dX5_account_96 rfl ?_
  refine j2_getr (k := 0) (r := 1) x hb dX5_account_97 jc_9 wfX5_10 (by decide) rfl ?_
  refine j2_geti (k := 0) x hb dX5_account_100 jc_6 wfX5_80 (by decide) rfl ?_
  exact j_ireturn x hr dX5_account_103 (by omega) (by omega) ⟨rfl, rfl⟩
theorem c_account_k1 {d : Nat} {b : SBt} {Y : OUt} {M : MM} (hb : 104 ≤ b.2.1) {n : Nat} (hn : n ≤ 56) (hm : jmc M = nI n) : CM (d + 5) 1 6 yX5_account cX5_account 2 (some .int) [.ref 0, .int 1] b Y M (.inl (some (.int (jb (¬ jcount M n 1 2 = 0))))) (jcount M n) := by
  refine Con.of (by decide +kernel) (Nat.le_of_ble_eq_true rfl) rfl fun p l e s m args below meth c D tyc A ad0 x hr htab hname => ?_
  change JJ _ _ _ _ _ _ _ _ _ _ _ _ _ _ _ _ _ 0 [some (.ref 0), some (.int 1)] [] _ 0 0
  refine j_iload_n x dX5_account_0 rfl ?_
  refine j_if_lt (tgt := 10) x dX5_account_1 (by decide) (fun hc => absurd hc (by decide)) (fun hc => ?_)
  refine j_iload_n x dX5_account_4 rfl ?_
  refine j_bipush (v := 14) x dX5_account_5 (by decide) ?_
  refine j_icmp_le (tgt := 21) x dX5_account_7 (by decide) (fun hc => ?_) (fun hc => absurd (by decide) hc)
  refine j_aload_n x dX5_account_21 rfl ?_
  refine j2_callVv x hb dX5_account_22 m_X5_count (c_count (d := d) hb hn hm) wmX5_187 jc_9 rfl rfl rfl (Nat.le_of_ble_eq_true rfl) (j_fit_rm (by omega) (by omega) (by omega)) rfl ?_
  refine j_iload_n x dX5_account_25 rfl ?_
  refine j_tableIn (tgt := 104) x dX5_account_26 (by decide) (by decide) rfl (by decide) ?_
  refine j_aload_n x dX5_account_104 rfl ?_
  refine j2_getr (k := 0) (r := 1) x hb dX5_account_105 jc_9 wfX5_10 (by decide) rfl ?_
  refine j2_geti (k := 2) x hb dX5_account_108 jc_6 wfX5_388 (by decide) rfl ?_
  refine j_b_if_eq (T := 118) (E := 119) x dX5_account_111 (by decide) dX5_account_114 dX5_account_115 (by decide) dX5_account_118 (by decide) ?_
  exact j_ireturn x hr dX5_account_119 (by omega) (by omega) ⟨rfl, rfl⟩
theorem c_account_k2 {d : Nat} {b : SBt} {Y : OUt} {M : MM} (hb : 104 ≤ b.2.1) {n : Nat} (hn : n ≤ 56) (hm : jmc M = nI n) : CM (d + 5) 1 6 yX5_account cX5_account 2 (some .int) [.ref 0, .int 2] b Y M (.inl (some (.int (jwc (jcount M n))))) (jcount M n) := by
  refine Con.of (by decide +kernel) (Nat.le_of_ble_eq_true rfl) rfl fun p l e s m args below meth c D tyc A ad0 x hr htab hname => ?_
  change JJ _ _ _ _ _ _ _ _ _ _ _ _ _ _ _ _ _ 0 [some (.ref 0), some (.int 2)] [] _ 0 0
  refine j_iload_n x dX5_account_0 rfl ?_
  refine j_if_lt (tgt := 10) x dX5_account_1 (by decide) (fun hc => absurd hc (by decide)) (fun hc => ?_)
  refine j_iload_n x dX5_account_4 rfl ?_
  refine j_bipush (v := 14) x dX5_account_5 (by decide) ?_
  refine j_icmp_le (tgt := 21) x dX5_account_7 (by decide) (fun hc => ?_) (fun hc => absurd (by decide) hc)
  refine j_aload_n x dX5_account_21 rfl ?_
  refine j2_callVv x hb dX5_account_22 m_X5_count (c_count (d := d) hb hn hm) wmX5_187 jc_9 rfl rfl rfl (Nat.le_of_ble_eq_true rfl) (j_fit_rm (by omega) (by omega) (by omega)) rfl ?_
  refine j_iload_n x dX5_account_25 rfl ?_
  refine j_tableIn (tgt := 120) x dX5_account_26 (by decide) (by decide) rfl (by decide) ?_
  refine j_aload_n x dX5_account_120 rfl ?_
  refine j2_callVi x hb dX5_account_121 m_X5_weekCount (c_weekCount (d := d) hb) wmX5_392 jc_9 rfl rfl rfl (Nat.le_of_ble_eq_true rfl) (j_fit_rm (by omega) (by omega) (by omega)) rfl ?_
  exact j_ireturn x hr dX5_account_124 (by omega) (by omega) ⟨rfl, rfl⟩
theorem c_account_k3 {d : Nat} {b : SBt} {Y : OUt} {M : MM} (hb : 104 ≤ b.2.1) {n : Nat} (hn : n ≤ 56) (hm : jmc M = nI n) : CM (d + 5) 1 6 yX5_account cX5_account 2 (some .int) [.ref 0, .int 3] b Y M (.inl (some (.int (jcount M n 1 3)))) (jcount M n) := by
  refine Con.of (by decide +kernel) (Nat.le_of_ble_eq_true rfl) rfl fun p l e s m args below meth c D tyc A ad0 x hr htab hname => ?_
  change JJ _ _ _ _ _ _ _ _ _ _ _ _ _ _ _ _ _ 0 [some (.ref 0), some (.int 3)] [] _ 0 0
  refine j_iload_n x dX5_account_0 rfl ?_
  refine j_if_lt (tgt := 10) x dX5_account_1 (by decide) (fun hc => absurd hc (by decide)) (fun hc => ?_)
  refine j_iload_n x dX5_account_4 rfl ?_
  refine j_bipush (v := 14) x dX5_account_5 (by decide) ?_
  refine j_icmp_le (tgt := 21) x dX5_account_7 (by decide) (fun hc => ?_) (fun hc => absurd (by decide) hc)
  refine j_aload_n x dX5_account_21 rfl ?_
  refine j2_callVv x hb dX5_account_22 m_X5_count (c_count (d := d) hb hn hm) wmX5_187 jc_9 rfl rfl rfl (Nat.le_of_ble_eq_true rfl) (j_fit_rm (by omega) (by omega) (by omega)) rfl ?_
  refine j_iload_n x dX5_account_25 rfl ?_
  refine j_tableIn (tgt := 125) x dX5_account_26 (by decide) (by decide) rfl (by decide) ?_
  refine j_aload_n x dX5_account_125 rfl ?_
  refine j2_getr (k := 0) (r := 1) x hb dX5_account_126 jc_9 wfX5_10 (by decide) rfl ?_
  refine j2_geti (k := 3) x hb dX5_account_129 jc_6 wfX5_160 (by decide) rfl ?_
  exact j_ireturn x hr dX5_account_132 (by omega) (by omega) ⟨rfl, rfl⟩
theorem c_account_k4 {d : Nat} {b : SBt} {Y : OUt} {M : MM} (hb : 104 ≤ b.2.1) {n : Nat} (hn : n ≤ 56) (hm : jmc M = nI n) : CM (d + 5) 1 6 yX5_account cX5_account 2 (some .int) [.ref 0, .int 4] b Y M (.inl (some (.int (jmc (jcount M n))))) (jcount M n) := by
  refine Con.of (by decide +kernel) (Nat.le_of_ble_eq_true rfl) rfl fun p l e s m args below meth c D tyc A ad0 x hr htab hname => ?_
  change JJ _ _ _ _ _ _ _ _ _ _ _ _ _ _ _ _ _ 0 [some (.ref 0), some (.int 4)] [] _ 0 0
  refine j_iload_n x dX5_account_0 rfl ?_
  refine j_if_lt (tgt := 10) x dX5_account_1 (by decide) (fun hc => absurd hc (by decide)) (fun hc => ?_)
  refine j_iload_n x dX5_account_4 rfl ?_
  refine j_bipush (v := 14) x dX5_account_5 (by decide) ?_
  refine j_icmp_le (tgt := 21) x dX5_account_7 (by decide) (fun hc => ?_) (fun hc => absurd (by decide) hc)
  refine j_aload_n x dX5_account_21 rfl ?_
  refine j2_callVv x hb dX5_account_22 m_X5_count (c_count (d := d) hb hn hm) wmX5_187 jc_9 rfl rfl rfl (Nat.le_of_ble_eq_true rfl) (j_fit_rm (by omega) (by omega) (by omega)) rfl ?_
  refine j_iload_n x dX5_account_25 rfl ?_
  refine j_tableIn (tgt := 133) x dX5_account_26 (by decide) (by decide) rfl (by decide) ?_
  refine j_aload_n x dX5_account_133 rfl ?_
  refine j2_callVi x hb dX5_account_134 m_X5_meetingCount (c_meetingCount (d := d) hb) wmX5_258 jc_9 rfl rfl rfl (Nat.le_of_ble_eq_true rfl) (j_fit_rm (by omega) (by omega) (by omega)) rfl ?_
  exact j_ireturn x hr dX5_account_137 (by omega) (by omega) ⟨rfl, rfl⟩
theorem c_account_k5 {d : Nat} {b : SBt} {Y : OUt} {M : MM} (hb : 104 ≤ b.2.1) {n : Nat} (hn : n ≤ 56) (hm : jmc M = nI n) : CM (d + 5) 1 6 yX5_account cX5_account 2 (some .int) [.ref 0, .int 5] b Y M (.inl (some (.int (jcount M n 75 0)))) (jcount M n) := by
  refine Con.of (by decide +kernel) (Nat.le_of_ble_eq_true rfl) rfl fun p l e s m args below meth c D tyc A ad0 x hr htab hname => ?_
  change JJ _ _ _ _ _ _ _ _ _ _ _ _ _ _ _ _ _ 0 [some (.ref 0), some (.int 5)] [] _ 0 0
  refine j_iload_n x dX5_account_0 rfl ?_
  refine j_if_lt (tgt := 10) x dX5_account_1 (by decide) (fun hc => absurd hc (by decide)) (fun hc => ?_)
  refine j_iload_n x dX5_account_4 rfl ?_
  refine j_bipush (v := 14) x dX5_account_5 (by decide) ?_
  refine j_icmp_le (tgt := 21) x dX5_account_7 (by decide) (fun hc => ?_) (fun hc => absurd (by decide) hc)
  refine j_aload_n x dX5_account_21 rfl ?_
  refine j2_callVv x hb dX5_account_22 m_X5_count (c_count (d := d) hb hn hm) wmX5_187 jc_9 rfl rfl rfl (Nat.le_of_ble_eq_true rfl) (j_fit_rm (by omega) (by omega) (by omega)) rfl ?_
  refine j_iload_n x dX5_account_25 rfl ?_
  refine j_tableIn (tgt := 138) x dX5_account_26 (by decide) (by decide) rfl (by decide) ?_
  refine j_aload_n x dX5_account_138 rfl ?_
  refine j2_getr (k := 5) (r := 75) x hb dX5_account_139 jc_9 wfX5_36 (by decide) rfl ?_
  refine j2_geti (k := 0) x hb dX5_account_142 jc_7 wfX5_372 (by decide) rfl ?_
  exact j_ireturn x hr dX5_account_145 (by omega) (by omega) ⟨rfl, rfl⟩
theorem c_account_k6 {d : Nat} {b : SBt} {Y : OUt} {M : MM} (hb : 104 ≤ b.2.1) {n : Nat} (hn : n ≤ 56) (hm : jmc M = nI n) : CM (d + 5) 1 6 yX5_account cX5_account 2 (some .int) [.ref 0, .int 6] b Y M (.inl (some (.int (jsum (fPut (jcount M n)) n)))) (jcount M n) := by
  refine Con.of (by decide +kernel) (Nat.le_of_ble_eq_true rfl) rfl fun p l e s m args below meth c D tyc A ad0 x hr htab hname => ?_
  change JJ _ _ _ _ _ _ _ _ _ _ _ _ _ _ _ _ _ 0 [some (.ref 0), some (.int 6)] [] _ 0 0
  refine j_iload_n x dX5_account_0 rfl ?_
  refine j_if_lt (tgt := 10) x dX5_account_1 (by decide) (fun hc => absurd hc (by decide)) (fun hc => ?_)
  refine j_iload_n x dX5_account_4 rfl ?_
  refine j_bipush (v := 14) x dX5_account_5 (by decide) ?_
  refine j_icmp_le (tgt := 21) x dX5_account_7 (by decide) (fun hc => ?_) (fun hc => absurd (by decide) hc)
  refine j_aload_n x dX5_account_21 rfl ?_
  refine j2_callVv x hb dX5_account_22 m_X5_count (c_count (d := d) hb hn hm) wmX5_187 jc_9 rfl rfl rfl (Nat.le_of_ble_eq_true rfl) (j_fit_rm (by omega) (by omega) (by omega)) rfl ?_
  refine j_iload_n x dX5_account_25 rfl ?_
  refine j_tableIn (tgt := 146) x dX5_account_26 (by decide) (by decide) rfl (by decide) ?_
  refine j_aload_n x dX5_account_146 rfl ?_
  refine j2_callVi x hb dX5_account_147 m_X5_putOffCount (c_putOffCount (d := d) hb hn (by rw [jmc_c (M := M) (jcount_n (by omega)) (jcount_n (by omega))]; exact hm)) wmX5_395 jc_9 rfl rfl rfl (Nat.le_of_ble_eq_true rfl) (j_fit_rm (by omega) (by omega) (by omega)) rfl ?_
  exact j_ireturn x hr dX5_account_150 (by omega) (by omega) ⟨rfl, rfl⟩
theorem c_account_k7 {d : Nat} {b : SBt} {Y : OUt} {M : MM} (hb : 104 ≤ b.2.1) {n : Nat} (hn : n ≤ 56) (hm : jmc M = nI n) : CM (d + 5) 1 6 yX5_account cX5_account 2 (some .int) [.ref 0, .int 7] b Y M (.inl (some (.int (jcount M n 1 4)))) (jcount M n) := by
  refine Con.of (by decide +kernel) (Nat.le_of_ble_eq_true rfl) rfl fun p l e s m args below meth c D tyc A ad0 x hr htab hname => ?_
  change JJ _ _ _ _ _ _ _ _ _ _ _ _ _ _ _ _ _ 0 [some (.ref 0), some (.int 7)] [] _ 0 0
  refine j_iload_n x dX5_account_0 rfl ?_
  refine j_if_lt (tgt := 10) x dX5_account_1 (by decide) (fun hc => absurd hc (by decide)) (fun hc => ?_)
  refine j_iload_n x dX5_account_4 rfl ?_
  refine j_bipush (v := 14) x dX5_account_5 (by decide) ?_
  refine j_icmp_le (tgt := 21) x dX5_account_7 (by decide) (fun hc => ?_) (fun hc => absurd (by decide) hc)
  refine j_aload_n x dX5_account_21 rfl ?_
  refine j2_callVv x hb dX5_account_22 m_X5_count (c_count (d := d) hb hn hm) wmX5_187 jc_9 rfl rfl rfl (Nat.le_of_ble_eq_true rfl) (j_fit_rm (by omega) (by omega) (by omega)) rfl ?_
  refine j_iload_n x dX5_account_25 rfl ?_
  refine j_tableIn (tgt := 151) x dX5_account_26 (by decide) (by decide) rfl (by decide) ?_
  refine j_aload_n x dX5_account_151 rfl ?_
  refine j2_getr (k := 0) (r := 1) x hb dX5_account_152 jc_9 wfX5_10 (by decide) rfl ?_
  refine j2_geti (k := 4) x hb dX5_account_155 jc_6 wfX5_119 (by decide) rfl ?_
  exact j_ireturn x hr dX5_account_158 (by omega) (by omega) ⟨rfl, rfl⟩
theorem c_account_k8 {d : Nat} {b : SBt} {Y : OUt} {M : MM} (hb : 104 ≤ b.2.1) {n : Nat} (hn : n ≤ 56) (hm : jmc M = nI n) : CM (d + 5) 1 6 yX5_account cX5_account 2 (some .int) [.ref 0, .int 8] b Y M (.inl (some (.int (jcount M n 1 5)))) (jcount M n) := by
  refine Con.of (by decide +kernel) (Nat.le_of_ble_eq_true rfl) rfl fun p l e s m args below meth c D tyc A ad0 x hr htab hname => ?_
  change JJ _ _ _ _ _ _ _ _ _ _ _ _ _ _ _ _ _ 0 [some (.ref 0), some (.int 8)] [] _ 0 0
  refine j_iload_n x dX5_account_0 rfl ?_
  refine j_if_lt (tgt := 10) x dX5_account_1 (by decide) (fun hc => absurd hc (by decide)) (fun hc => ?_)
  refine j_iload_n x dX5_account_4 rfl ?_
  refine j_bipush (v := 14) x dX5_account_5 (by decide) ?_
  refine j_icmp_le (tgt := 21) x dX5_account_7 (by decide) (fun hc => ?_) (fun hc => absurd (by decide) hc)
  refine j_aload_n x dX5_account_21 rfl ?_
  refine j2_callVv x hb dX5_account_22 m_X5_count (c_count (d := d) hb hn hm) wmX5_187 jc_9 rfl rfl rfl (Nat.le_of_ble_eq_true rfl) (j_fit_rm (by omega) (by omega) (by omega)) rfl ?_
  refine j_iload_n x dX5_account_25 rfl ?_
  refine j_tableIn (tgt := 159) x dX5_account_26 (by decide) (by decide) rfl (by decide) ?_
  refine j_aload_n x dX5_account_159 rfl ?_
  refine j2_getr (k := 0) (r := 1) x hb dX5_account_160 jc_9 wfX5_10 (by decide) rfl ?_
  refine j2_geti (k := 5) x hb dX5_account_163 jc_6 wfX5_122 (by decide) rfl ?_
  exact j_ireturn x hr dX5_account_166 (by omega) (by omega) ⟨rfl, rfl⟩
theorem c_account_k9 {d : Nat} {b : SBt} {Y : OUt} {M : MM} (hb : 104 ≤ b.2.1) {n : Nat} (hn : n ≤ 56) (hm : jmc M = nI n) : CM (d + 5) 1 6 yX5_account cX5_account 2 (some .int) [.ref 0, .int 9] b Y M (.inl (some (.int (jcount M n 1 6)))) (jcount M n) := by
  refine Con.of (by decide +kernel) (Nat.le_of_ble_eq_true rfl) rfl fun p l e s m args below meth c D tyc A ad0 x hr htab hname => ?_
  change JJ _ _ _ _ _ _ _ _ _ _ _ _ _ _ _ _ _ 0 [some (.ref 0), some (.int 9)] [] _ 0 0
  refine j_iload_n x dX5_account_0 rfl ?_
  refine j_if_lt (tgt := 10) x dX5_account_1 (by decide) (fun hc => absurd hc (by decide)) (fun hc => ?_)
  refine j_iload_n x dX5_account_4 rfl ?_
  refine j_bipush (v := 14) x dX5_account_5 (by decide) ?_
  refine j_icmp_le (tgt := 21) x dX5_account_7 (by decide) (fun hc => ?_) (fun hc => absurd (by decide) hc)
  refine j_aload_n x dX5_account_21 rfl ?_
  refine j2_callVv x hb dX5_account_22 m_X5_count (c_count (d := d) hb hn hm) wmX5_187 jc_9 rfl rfl rfl (Nat.le_of_ble_eq_true rfl) (j_fit_rm (by omega) (by omega) (by omega)) rfl ?_
  refine j_iload_n x dX5_account_25 rfl ?_
  refine j_tableIn (tgt := 167) x dX5_account_26 (by decide) (by decide) rfl (by decide) ?_
  refine j_aload_n x dX5_account_167 rfl ?_
  refine j2_getr (k := 0) (r := 1) x hb dX5_account_168 jc_9 wfX5_10 (by decide) rfl ?_
  refine j2_geti (k := 6) x hb dX5_account_171 jc_6 wfX5_135 (by decide) rfl ?_
  exact j_ireturn x hr dX5_account_174 (by omega) (by omega) ⟨rfl, rfl⟩
theorem c_account_k10 {d : Nat} {b : SBt} {Y : OUt} {M : MM} (hb : 104 ≤ b.2.1) {n : Nat} (hn : n ≤ 56) (hm : jmc M = nI n) : CM (d + 5) 1 6 yX5_account cX5_account 2 (some .int) [.ref 0, .int 10] b Y M (.inl (some (.int (jcount M n 75 1)))) (jcount M n) := by
  refine Con.of (by decide +kernel) (Nat.le_of_ble_eq_true rfl) rfl fun p l e s m args below meth c D tyc A ad0 x hr htab hname => ?_
  change JJ _ _ _ _ _ _ _ _ _ _ _ _ _ _ _ _ _ 0 [some (.ref 0), some (.int 10)] [] _ 0 0
  refine j_iload_n x dX5_account_0 rfl ?_
  refine j_if_lt (tgt := 10) x dX5_account_1 (by decide) (fun hc => absurd hc (by decide)) (fun hc => ?_)
  refine j_iload_n x dX5_account_4 rfl ?_
  refine j_bipush (v := 14) x dX5_account_5 (by decide) ?_
  refine j_icmp_le (tgt := 21) x dX5_account_7 (by decide) (fun hc => ?_) (fun hc => absurd (by decide) hc)
  refine j_aload_n x dX5_account_21 rfl ?_
  refine j2_callVv x hb dX5_account_22 m_X5_count (c_count (d := d) hb hn hm) wmX5_187 jc_9 rfl rfl rfl (Nat.le_of_ble_eq_true rfl) (j_fit_rm (by omega) (by omega) (by omega)) rfl ?_
  refine j_iload_n x dX5_account_25 rfl ?_
  refine j_tableIn (tgt := 175) x dX5_account_26 (by decide) (by decide) rfl (by decide) ?_
  refine j_aload_n x dX5_account_175 rfl ?_
  refine j2_getr (k := 5) (r := 75) x hb dX5_account_176 jc_9 wfX5_36 (by decide) rfl ?_
  refine j2_geti (k := 1) x hb dX5_account_179 jc_7 wfX5_380 (by decide) rfl ?_
  exact j_ireturn x hr dX5_account_182 (by omega) (by omega) ⟨rfl, rfl⟩
theorem c_account_k11 {d : Nat} {b : SBt} {Y : OUt} {M : MM} (hb : 104 ≤ b.2.1) {n : Nat} (hn : n ≤ 56) (hm : jmc M = nI n) {w : Nat} (hw : w ≤ 8) (h0 : M 1 0 = nI w) : CM (d + 5) 1 6 yX5_account cX5_account 2 (some .int) [.ref 0, .int 11] b Y M (.inl (some (.int (jsum (fun i => jat 8 (jcount M n 76) (nI i)) w)))) (jcount M n) := by
  refine Con.of (by decide +kernel) (Nat.le_of_ble_eq_true rfl) rfl fun p l e s m args below meth c D tyc A ad0 x hr htab hname => ?_
  change JJ _ _ _ _ _ _ _ _ _ _ _ _ _ _ _ _ _ 0 [some (.ref 0), some (.int 11)] [] _ 0 0
  refine j_iload_n x dX5_account_0 rfl ?_
  refine j_if_lt (tgt := 10) x dX5_account_1 (by decide) (fun hc => absurd hc (by decide)) (fun hc => ?_)
  refine j_iload_n x dX5_account_4 rfl ?_
  refine j_bipush (v := 14) x dX5_account_5 (by decide) ?_
  refine j_icmp_le (tgt := 21) x dX5_account_7 (by decide) (fun hc => ?_) (fun hc => absurd (by decide) hc)
  refine j_aload_n x dX5_account_21 rfl ?_
  refine j2_callVv x hb dX5_account_22 m_X5_count (c_count (d := d) hb hn hm) wmX5_187 jc_9 rfl rfl rfl (Nat.le_of_ble_eq_true rfl) (j_fit_rm (by omega) (by omega) (by omega)) rfl ?_
  refine j_iload_n x dX5_account_25 rfl ?_
  refine j_tableIn (tgt := 183) x dX5_account_26 (by decide) (by decide) rfl (by decide) ?_
  refine j_aload_n x dX5_account_183 rfl ?_
  refine j2_callVi x hb dX5_account_184 m_X5_allPoints (c_allPoints (d := d) hb hw (by rw [jcount_n (by omega)]; exact h0)) wmX5_398 jc_9 rfl rfl rfl (Nat.le_of_ble_eq_true rfl) (j_fit_rm (by omega) (by omega) (by omega)) rfl ?_
  exact j_ireturn x hr dX5_account_187 (by omega) (by omega) ⟨rfl, rfl⟩
theorem c_account_k12 {d : Nat} {b : SBt} {Y : OUt} {M : MM} (hb : 104 ≤ b.2.1) {n : Nat} (hn : n ≤ 56) (hm : jmc M = nI n) {z : Nat} (hz : z ≤ 14) (hwz : jwc M = nI z) : CM (d + 5) 1 6 yX5_account cX5_account 2 (some .int) [.ref 0, .int 12] b Y M (.inl (some (.int (jsum (fun w => jpairs (jcount M n) n (nI w)) z)))) (jcount M n) := by
  refine Con.of (by decide +kernel) (Nat.le_of_ble_eq_true rfl) rfl fun p l e s m args below meth c D tyc A ad0 x hr htab hname => ?_
  change JJ _ _ _ _ _ _ _ _ _ _ _ _ _ _ _ _ _ 0 [some (.ref 0), some (.int 12)] [] _ 0 0
  refine j_iload_n x dX5_account_0 rfl ?_
  refine j_if_lt (tgt := 10) x dX5_account_1 (by decide) (fun hc => absurd hc (by decide)) (fun hc => ?_)
  refine j_iload_n x dX5_account_4 rfl ?_
  refine j_bipush (v := 14) x dX5_account_5 (by decide) ?_
  refine j_icmp_le (tgt := 21) x dX5_account_7 (by decide) (fun hc => ?_) (fun hc => absurd (by decide) hc)
  refine j_aload_n x dX5_account_21 rfl ?_
  refine j2_callVv x hb dX5_account_22 m_X5_count (c_count (d := d) hb hn hm) wmX5_187 jc_9 rfl rfl rfl (Nat.le_of_ble_eq_true rfl) (j_fit_rm (by omega) (by omega) (by omega)) rfl ?_
  refine j_iload_n x dX5_account_25 rfl ?_
  refine j_tableIn (tgt := 188) x dX5_account_26 (by decide) (by decide) rfl (by decide) ?_
  refine j_aload_n x dX5_account_188 rfl ?_
  refine j2_callVi x hb dX5_account_189 m_X5_allClashes (c_allClashes (d := d) hb hn (by rw [jmc_c (M := M) (jcount_n (by omega)) (jcount_n (by omega))]; exact hm) hz (by rw [jwc_c (M := M) (jcount_n (by omega)) (jcount_n (by omega))]; exact hwz)) wmX5_401 jc_9 rfl rfl rfl (Nat.le_of_ble_eq_true rfl) (j_fit_rm (by omega) (by omega) (by omega)) rfl ?_
  exact j_ireturn x hr dX5_account_192 (by omega) (by omega) ⟨rfl, rfl⟩
theorem c_account_k13 {d : Nat} {b : SBt} {Y : OUt} {M : MM} (hb : 104 ≤ b.2.1) {n : Nat} (hn : n ≤ 56) (hm : jmc M = nI n) : CM (d + 5) 1 6 yX5_account cX5_account 2 (some .int) [.ref 0, .int 13] b Y M (.inl (some (.int (jcount M n 13 2)))) (jcount M n) := by
  refine Con.of (by decide +kernel) (Nat.le_of_ble_eq_true rfl) rfl fun p l e s m args below meth c D tyc A ad0 x hr htab hname => ?_
  change JJ _ _ _ _ _ _ _ _ _ _ _ _ _ _ _ _ _ 0 [some (.ref 0), some (.int 13)] [] _ 0 0
  refine j_iload_n x dX5_account_0 rfl ?_
  refine j_if_lt (tgt := 10) x dX5_account_1 (by decide) (fun hc => absurd hc (by decide)) (fun hc => ?_)
  refine j_iload_n x dX5_account_4 rfl ?_
  refine j_bipush (v := 14) x dX5_account_5 (by decide) ?_
  refine j_icmp_le (tgt := 21) x dX5_account_7 (by decide) (fun hc => ?_) (fun hc => absurd (by decide) hc)
  refine j_aload_n x dX5_account_21 rfl ?_
  refine j2_callVv x hb dX5_account_22 m_X5_count (c_count (d := d) hb hn hm) wmX5_187 jc_9 rfl rfl rfl (Nat.le_of_ble_eq_true rfl) (j_fit_rm (by omega) (by omega) (by omega)) rfl ?_
  refine j_iload_n x dX5_account_25 rfl ?_
  refine j_tableIn (tgt := 193) x dX5_account_26 (by decide) (by decide) rfl (by decide) ?_
  refine j_aload_n x dX5_account_193 rfl ?_
  refine j2_getr (k := 3) (r := 13) x hb dX5_account_194 jc_9 wfX5_22 (by decide) rfl ?_
  refine j2_geti (k := 2) x hb dX5_account_197 jc_5 wfX5_404 (by decide) rfl ?_
  exact j_ireturn x hr dX5_account_200 (by omega) (by omega) ⟨rfl, rfl⟩
theorem c_account_k14 {d : Nat} {b : SBt} {Y : OUt} {M : MM} (hb : 104 ≤ b.2.1) {n : Nat} (hn : n ≤ 56) (hm : jmc M = nI n) : CM (d + 5) 1 6 yX5_account cX5_account 2 (some .int) [.ref 0, .int 14] b Y M (.inl (some (.int (jcount M n 86 0)))) (jcount M n) := by
  refine Con.of (by decide +kernel) (Nat.le_of_ble_eq_true rfl) rfl fun p l e s m args below meth c D tyc A ad0 x hr htab hname => ?_
  change JJ _ _ _ _ _ _ _ _ _ _ _ _ _ _ _ _ _ 0 [some (.ref 0), some (.int 14)] [] _ 0 0
  refine j_iload_n x dX5_account_0 rfl ?_
  refine j_if_lt (tgt := 10) x dX5_account_1 (by decide) (fun hc => absurd hc (by decide)) (fun hc => ?_)
  refine j_iload_n x dX5_account_4 rfl ?_
  refine j_bipush (v := 14) x dX5_account_5 (by decide) ?_
  refine j_icmp_le (tgt := 21) x dX5_account_7 (by decide) (fun hc => ?_) (fun hc => absurd (by decide) hc)
  refine j_aload_n x dX5_account_21 rfl ?_
  refine j2_callVv x hb dX5_account_22 m_X5_count (c_count (d := d) hb hn hm) wmX5_187 jc_9 rfl rfl rfl (Nat.le_of_ble_eq_true rfl) (j_fit_rm (by omega) (by omega) (by omega)) rfl ?_
  refine j_iload_n x dX5_account_25 rfl ?_
  refine j_tableOut (tgt := 201) x dX5_account_26 (by decide) (by decide) ?_
  refine j_aload_n x dX5_account_201 rfl ?_
  refine j2_getr (k := 7) (r := 86) x hb dX5_account_202 jc_9 wfX5_47 (by decide) rfl ?_
  refine j2_geti (k := 0) x hb dX5_account_205 jc_8 wfX5_314 (by decide) rfl ?_
  exact j_ireturn x hr dX5_account_208 (by omega) (by omega) ⟨rfl, rfl⟩
theorem c_meanGoals_no {d : Nat} {b : SBt} {Y : OUt} {M : MM} (hb : 104 ≤ b.2.1) {n : Nat} (hn : n ≤ 56) (hm : jmc M = nI n) (h : jcount M n 75 0 = 0) : CM (d + 5) 1 6 yX5_meanGoals cX5_meanGoals 1 (some .float) [.ref 0] b Y M (.inr "java/lang/ArithmeticException") (jcount M n) := by
  refine Con.of (by decide +kernel) (Nat.le_of_ble_eq_true rfl) rfl fun p l e s m args below meth c D tyc A ad0 x hr htab hname => ?_
  change JJ _ _ _ _ _ _ _ _ _ _ _ _ _ _ _ _ _ 0 [some (.ref 0)] [] _ 0 0
  refine j_aload_n x dX5_meanGoals_0 rfl ?_
  refine j2_callVv x hb dX5_meanGoals_1 m_X5_count (c_count (d := d) hb hn hm) wmX5_187 jc_9 rfl rfl rfl (Nat.le_of_ble_eq_true rfl) (j_fit_rm (by omega) (by omega) (by omega)) rfl ?_
  refine j_aload_n x dX5_meanGoals_4 rfl ?_
  refine j2_getr (k := 5) (r := 75) x hb dX5_meanGoals_5 jc_9 wfX5_36 (by decide) rfl ?_
  refine j2_geti (k := 0) x hb dX5_meanGoals_8 jc_7 wfX5_372 (by decide) rfl ?_
  refine j_if_ne (tgt := 25) x dX5_meanGoals_11 (by decide) (fun hc => absurd hc (fun q => q h)) (fun hc => ?_)
  exact j_throwSW x exX5_375 wsX5_377 dX5_meanGoals_14 dX5_meanGoals_17 dX5_meanGoals_18 dX5_meanGoals_21 dX5_meanGoals_24 htab (by omega) (by omega) ⟨rfl, rfl⟩
theorem c_homeShare_no {d : Nat} {b : SBt} {Y : OUt} {M : MM} (hb : 104 ≤ b.2.1) {n : Nat} (hn : n ≤ 56) (hm : jmc M = nI n) (h : jcount M n 75 0 = 0) : CM (d + 5) 1 6 yX5_homeShare cX5_homeShare 1 (some .double) [.ref 0] b Y M (.inr "java/lang/ArithmeticException") (jcount M n) := by
  refine Con.of (by decide +kernel) (Nat.le_of_ble_eq_true rfl) rfl fun p l e s m args below meth c D tyc A ad0 x hr htab hname => ?_
  change JJ _ _ _ _ _ _ _ _ _ _ _ _ _ _ _ _ _ 0 [some (.ref 0)] [] _ 0 0
  refine j_aload_n x dX5_homeShare_0 rfl ?_
  refine j2_callVv x hb dX5_homeShare_1 m_X5_count (c_count (d := d) hb hn hm) wmX5_187 jc_9 rfl rfl rfl (Nat.le_of_ble_eq_true rfl) (j_fit_rm (by omega) (by omega) (by omega)) rfl ?_
  refine j_aload_n x dX5_homeShare_4 rfl ?_
  refine j2_getr (k := 5) (r := 75) x hb dX5_homeShare_5 jc_9 wfX5_36 (by decide) rfl ?_
  refine j2_geti (k := 0) x hb dX5_homeShare_8 jc_7 wfX5_372 (by decide) rfl ?_
  refine j_if_ne (tgt := 25) x dX5_homeShare_11 (by decide) (fun hc => absurd hc (fun q => q h)) (fun hc => ?_)
  exact j_throwSW x exX5_375 wsX5_377 dX5_homeShare_14 dX5_homeShare_17 dX5_homeShare_18 dX5_homeShare_21 dX5_homeShare_24 htab (by omega) (by omega) ⟨rfl, rfl⟩
end
