/-! ===== loops; the fixtures that the class lays ===== -/
theorem j_for {p : Program} {l : Launch} {e : Env} {R : Room} {s : State} {m : MethodId} {args : Array Value} {below : List Frame} {meth : Method} {c : Code} {D : va_G} {tyc : Nat → ClassId} {A : Nat → Prop} {n0 : Nat} {ad0 : Nat → Nat} {nL : Nat} {Q : State → Prop} {pc : Nat} {L : List (Option Value)} {st : List Value} {b : SBt} {Y : OUt} {M : MM} {cells slots : Nat} (n : Nat) (Lf : Nat → List (Option Value)) (Mf : Nat → MM) (P : Nat → Prop) (hL : Lf 0 = L) (hM : Mf 0 = M) (h0 : P 0)
    (step : ∀ j, j < n → P j → (P (j + 1) → JJ p l e R s m args below meth c D tyc A n0 ad0 nL Q pc (Lf (j + 1)) st (HH b Y (Mf (j + 1))) cells slots) → JJ p l e R s m args below meth c D tyc A n0 ad0 nL Q pc (Lf j) st (HH b Y (Mf j)) cells slots)
    (last : P n → JJ p l e R s m args below meth c D tyc A n0 ad0 nL Q pc (Lf n) st (HH b Y (Mf n)) cells slots) : JJ p l e R s m args below meth c D tyc A n0 ad0 nL Q pc L st (HH b Y M) cells slots := by
  subst hL
  subst hM
  have key : ∀ r j, j + r = n → P j → JJ p l e R s m args below meth c D tyc A n0 ad0 nL Q pc (Lf j) st (HH b Y (Mf j)) cells slots := by
    intro r
    induction r with
    | zero =>
      intro j hj hP
      have hjn : j = n := by omega
      subst hjn
      exact last hP
    | succ r ih =>
      intro j hj hP
      exact step j (by omega) hP (fun h => ih (j + 1) (by omega) h)
  exact key n 0 (by omega) h0
theorem j_goal {p : Program} {l : Launch} {e : Env} {R : Room} {s : State} {m : MethodId} {args : Array Value} {below : List Frame} {meth : Method} {c : Code} {D : va_G} {tyc : Nat → ClassId} {A : Nat → Prop} {n0 : Nat} {ad0 : Nat → Nat} {nL : Nat} {Q : State → Prop} {pc : Nat} {L : List (Option Value)} {st : List Value} {b : SBt} {Y : OUt} {M : MM} {cells slots : Nat} {L1 : List (Option Value)} {M1 : MM} (k : JJ p l e R s m args below meth c D tyc A n0 ad0 nL Q pc L1 st (HH b Y M1) cells slots) (hL : L1 = L) (hM : M1 = M) : JJ p l e R s m args below meth c D tyc A n0 ad0 nL Q pc L st (HH b Y M) cells slots := by
  subst hL
  subst hM
  exact k
theorem nI_rem {a d : Nat} (ha : a < 2 ^ 31) (hd : 0 < d) (hd2 : d < 2 ^ 31) : nI a - nI a / nI d * nI d = nI (a % d) := by
  have h1 : nI a / nI d = nI (a / d) := by
    apply Int32.toInt_inj.mp
    have hq : a / d < 2 ^ 31 := Nat.lt_of_le_of_lt (Nat.div_le_self a d) ha
    rw [Int32.toInt_div, nI_toInt ha, nI_toInt hd2, nI_toInt hq, Int.tdiv_eq_ediv_of_nonneg (by omega), ← Int.natCast_ediv]
    generalize a / d = q at hq ⊢
    exact Int.bmod_eq_of_le (by omega) (by omega)
  rw [h1]
  have h2 : nI (a / d) * nI d = nI (a / d * d) := (Int32.ofNat_mul _ _).symm
  rw [h2]
  have h3 : a / d * d + a % d = a := by rw [Nat.mul_comm]; exact Nat.div_add_mod a d
  have h4 : nI a = nI (a / d * d) + nI (a % d) := by rw [nI_add, h3]
  rw [h4, Int32.add_comm]
  exact Int32.add_sub_cancel _ _
theorem nI_sub {a d : Nat} (h : d ≤ a) : nI a - nI d = nI (a - d) := by
  have h1 : nI a = nI (a - d) + nI d := by rw [nI_add]; congr 1; omega
  rw [h1]
  exact Int32.add_sub_cancel _ _
theorem nI_mul (a d : Nat) : nI a * nI d = nI (a * d) := (Int32.ofNat_mul a d).symm
theorem nI_div2 {a d : Nat} (ha : a < 2 ^ 31) (hd : 0 < d) (hd2 : d < 2 ^ 31) : nI a / nI d = nI (a / d) := by
  apply Int32.toInt_inj.mp
  have hq : a / d < 2 ^ 31 := Nat.lt_of_le_of_lt (Nat.div_le_self a d) ha
  rw [Int32.toInt_div, nI_toInt ha, nI_toInt hd2, nI_toInt hq, Int.tdiv_eq_ediv_of_nonneg (by omega), ← Int.natCast_ediv]
  generalize a / d = q at hq ⊢
  exact Int.bmod_eq_of_le (by omega) (by omega)
