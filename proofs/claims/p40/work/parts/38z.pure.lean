/-! ===== the reference as numbers ===== -/
theorem jb_nar {p : Prop} [Decidable p] : narrow .boolean (.int (jb p)) = .int (jb p) := by
  by_cases h : p
  · rw [jb_t h]; rfl
  · rw [jb_f h]; rfl
def jcp (M : MM) (a ao g go n : Nat) : MM := fun c k => if c = g ∧ go ≤ k ∧ k < go + n then M a (k - go + ao) else M c k
theorem jcp_0 {M : MM} {a ao g go : Nat} : jcp M a ao g go 0 = M := by
  funext c k
  simp only [jcp, Nat.add_zero]
  rw [if_neg (by omega)]
theorem jcp_n {M : MM} {a ao g go n i k : Nat} (h : i ≠ g) : jcp M a ao g go n i k = M i k := by
  simp only [jcp]
  rw [if_neg (fun q => h q.1)]
theorem jcp_at {M : MM} {a ao g go n k : Nat} (h : k < n) : jcp M a ao g go n g (go + k) = M a (ao + k) := by
  unfold jcp
  rw [if_pos ⟨rfl, by omega, by omega⟩]
  congr 1
  omega
theorem jcp_out {M : MM} {a ao g go n k : Nat} (h : k < go ∨ go + n ≤ k) : jcp M a ao g go n g k = M g k := by
  simp only [jcp]
  rw [if_neg (by omega)]
theorem jcp_s {M : MM} {a ao g go j : Nat} (h : a ≠ g ∨ go ≤ ao) : jm (jcp M a ao g go j) g (go + j) (jcp M a ao g go j a (ao + j)) = jcp M a ao g go (j + 1) := by
  have e0 : jcp M a ao g go j a (ao + j) = M a (ao + j) := by
    simp only [jcp]
    rw [if_neg (by omega)]
  rw [e0]
  funext c k
  simp only [jm, jcp]
  by_cases h1 : c = g ∧ k = go + j
  · rw [if_pos h1, if_pos ⟨h1.1, by omega, by omega⟩, h1.2]
    congr 1
    omega
  · rw [if_neg h1]
    by_cases h2 : c = g ∧ go ≤ k ∧ k < go + j
    · rw [if_pos h2, if_pos ⟨h2.1, h2.2.1, by omega⟩]
    · rw [if_neg h2, if_neg (fun q => h2 ⟨q.1, q.2.1, by have := q.2.2; have h3 : k ≠ go + j := fun z => h1 ⟨q.1, z⟩; omega⟩)]
def jrai (M : MM) (v : Int32) : MM := jm M 94 19 v
def jrefu (M : MM) (w t : Int32) : MM := jm (jm (jm M 94 14 w) 94 15 t) 94 17 (M 94 16)
def jtr (M : MM) : MM := jcp (jm (jm M 94 19 0) 94 16 0) 95 0 96 0 466
def jkp (M : MM) (u : Nat) : MM := jm (jcp M 96 0 97 (466 * u) 466) 94 3 (nI (u + 1))
theorem jtr_n {M : MM} {i k : Nat} (h : i < 94 ∨ i = 95 ∨ 96 < i) : jtr M i k = M i k := by
  unfold jtr
  rw [jcp_n (by omega), jm_n (by omega), jm_n (by omega)]
theorem jtr_f {M : MM} {k : Nat} (h : k ≠ 16) (h1 : k ≠ 19) : jtr M 94 k = M 94 k := by
  unfold jtr
  rw [jcp_n (by omega), jm_n (by omega), jm_n (by omega)]
theorem jtr_0 {M : MM} : jtr M 94 16 = 0 ∧ jtr M 94 19 = 0 := by
  unfold jtr
  refine ⟨?_, ?_⟩
  · rw [jcp_n (by omega), jm_s]
  · rw [jcp_n (by omega), jm_n (by omega), jm_s]
theorem i_neg1 {u : Int32} (h : ¬ u < -1) (h1 : u < 0) : u = -1 := by
  rw [Int32.lt_iff_toInt_lt] at h h1
  apply Int32.toInt_inj.mp
  have e1 : (-1 : Int32).toInt = -1 := by decide
  have e0 : (0 : Int32).toInt = 0 := by decide
  omega
theorem no_x {t v : Int32} (h : v = 0) : jb (¬ t < 0 ∧ ¬ v - 1 < t) = 0 := jb_f (fun q => by
  subst h
  have h1 := q.1
  have h2 := q.2
  rw [Int32.lt_iff_toInt_lt] at h1 h2
  have e1 : (0 - 1 : Int32).toInt = -1 := by decide
  have e0 : (0 : Int32).toInt = 0 := by decide
  omega)
theorem no_w {v : Int32} (h : v = 0) : jb (¬ v ≤ 0) = 0 := jb_f (fun q => q (by rw [h]; decide))
def jxr (M : MM) (t : Int32) : MM := if t < 0 then M else jm (jm M 95 5 (M 95 5 + 1)) 95 (6 + (M 95 5).toNatClampNeg) t
theorem jxr_m {M : MM} {t : Int32} (h : t < 0) : M = jxr M t := by rw [jxr, if_pos h]
def c5 (n : Nat) (M : MM) : Prop := ∃ c, c ≤ n ∧ M 95 5 = nI c
theorem c5_0 {M : MM} : c5 0 (jm M 95 5 0) := ⟨0, Nat.le_refl _, by rw [jm_s]; rfl⟩
theorem c5_s {M : MM} {n : Nat} {t : Int32} (h : c5 n M) : c5 (n + 1) (jxr M t) := by
  obtain ⟨c, h1, h2⟩ := h
  by_cases ht : t < 0
  · exact ⟨c, by omega, by rw [jxr, if_pos ht]; exact h2⟩
  · refine ⟨c + 1, by omega, ?_⟩
    by_cases hn : n < 100
    · rw [jxr, if_neg ht, h2, nI_clamp (by omega), jm_n (by omega), jm_s, nI_1]
    · rw [jxr, if_neg ht, jm_n (by omega), jm_s, h2, nI_1]
def jxR (M : MM) (t u v : Int32) : MM := jxr (jxr (jxr (jm M 95 5 0) t) u) v
def jxno (q : Option (Int32 × Int32)) : Int32 := match q with
  | some _ => 0
  | none => 1
def jxt (M : MM) (t u v : Int32) (q : Option (Int32 × Int32)) : MM := match q with
  | some z => jrefu M z.1 z.2
  | none => jm (jxR M t u v) 94 18 (jxR M t u v 95 5)
