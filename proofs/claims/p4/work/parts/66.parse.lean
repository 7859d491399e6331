/-! ===== the reference: commands, parsed ===== -/
theorem i32_48 {v : Int32} {q : Nat} (hq : q < 100) : (¬ v < 48 ∧ ¬ nI (48 + q) < v) ↔ (¬ v - 48 < 0 ∧ ¬ nI q < v - 48) := by
  have h1 := Int32.le_toInt v
  have h2 := Int32.toInt_lt v
  have h3 : (v - 48).toInt = (v.toInt - 48).bmod (2 ^ 32) := Int32.toInt_sub v 48
  rw [Int32.lt_iff_toInt_lt, Int32.lt_iff_toInt_lt, Int32.lt_iff_toInt_lt, Int32.lt_iff_toInt_lt, h3, nI_toInt (by omega), nI_toInt (by omega), show (48 : Int32).toInt = 48 from rfl, Int32.toInt_zero]
  rw [Int.bmod_def]
  split <;> omega
theorem isD_9 {T : Nat → Int32} {n a : Nat} (ha : a < n) : isD 48 57 (T a) ↔ tdc T n a 9 := by
  have h := i32_48 (v := T a) (q := 9) (by decide)
  unfold tdc tsg
  rw [if_pos ha]
  exact h
theorem isD_4 {T : Nat → Int32} {n a : Nat} (ha : a < n) : isD 48 52 (T a) ↔ tdc T n a 4 := by
  have h := i32_48 (v := T a) (q := 4) (by decide)
  unfold tdc tsg
  rw [if_pos ha]
  exact h
theorem tdg_v {T : Nat → Int32} {n a q : Nat} (hq : q < 100) (h : tdc T n a (nI q)) : ∃ r, r ≤ q ∧ tsg T n a - 48 = nI r := nI_of2 (nI_toInt (by omega)) h.1 (Int32.not_lt.mp h.2)
theorem tnv_9 {T : Nat → Int32} {n a : Nat} (h : tdc T n a 9) : ¬ tnv T n a = -1 := by
  obtain ⟨r, h1, h2⟩ := tdg_v (q := 9) (by decide) h
  have h0 : tdg T n a 9 = nI r := by rw [tdg, if_pos h, h2]
  unfold tnv
  rw [h0, if_neg (nI_nm1 (by omega))]
  split
  · exact nI_nm1 (by omega)
  · obtain ⟨s, h3, h4⟩ := tdg_v (q := 9) (by decide) (tdg_c (by assumption : ¬ tdg T n (a + 1) 9 = -1))
    have h5 : tdg T n (a + 1) 9 = nI s := by rw [tdg, if_pos (tdg_c (by assumption)), h4]
    rw [h5, show (10 : Int32) * nI r = nI (10 * r) from nI_mul 10 r, nI_add]
    exact nI_nm1 (by omega)
def gNm (M : MM) (n k a : Nat) : MM := jm (jm M 94 10 (nI (tna (M 100) n a))) 101 k (if tnv (M 100) n a = -1 then 0 else tnv (M 100) n a)
theorem jm_sw {M : MM} {i k i2 k2 : Nat} {v w : Int32} (h : ¬ (i = i2 ∧ k = k2)) : jm (jm M i k v) i2 k2 w = jm (jm M i2 k2 w) i k v := funext fun a => funext fun c => by
  by_cases h1 : a = i ∧ c = k
  · obtain ⟨rfl, rfl⟩ := h1
    rw [jm_n h, jm_s, jm_s]
  · by_cases h2 : a = i2 ∧ c = k2
    · obtain ⟨rfl, rfl⟩ := h2
      rw [jm_s, jm_n h1, jm_s]
    · rw [jm_n h2, jm_n h1, jm_n h1, jm_n h2]
theorem CM_st {d mc ms : Nat} {y : MethodName} {cc : ByteArray} {maxL : Nat} {ret : Option FieldType} {as : List Value} {b : SBt} {Y : OUt} {M M1 M2 : MM} {o : MO} (C : CM d mc ms y cc maxL ret as b Y M o M1) (h : M1 = M2) : CM d mc ms y cc maxL ret as b Y M o M2 := by
  subst h
  exact C
theorem cx_number {d : Nat} {b : SBt} {Y : OUt} {M : MM} (hb : 104 ≤ b.2.1) {k : Nat} (hk : k < 3) {a n : Nat} (hn : n ≤ 60) (h9 : M 94 9 = nI n) (hat : M 94 10 = nI a) (ha : a ≤ n) : CM (d + 1) 0 0 yX6_number cX6_number 3 (some .boolean) [.ref 94, .int (nI k)] b Y M (.inl (some (.int (jb (¬ tnv (M 100) n a = -1))))) (gNm M n k a) := by
  have hN0 : gN0 M k = jm (jm M 94 10 (nI a)) 101 k 0 := by rw [jm_id hat]; rfl
  have hg1 : a < n → tdc (M 100) n a 9 → gN1 M k a = jm (jm M 94 10 (nI (a + 1))) 101 k (tdg (M 100) n a 9) := fun hlt h => by
    rw [gN1, gN0_at, hat, nI_1, gN0, jm_s, jm_sw (M := M) (by omega), jm_jm, tdg, if_pos h, tsg, if_pos hlt, show (10 : Int32) * 0 = 0 from rfl, Int32.zero_add]
  rcases Nat.lt_or_eq_of_le ha with hlt | heq
  · by_cases hd : isD 48 57 (M 100 a)
    · have hc := (isD_9 hlt).mp hd
      have hv := tnv_9 hc
      have hg : ¬ tdg (M 100) n a 9 = -1 := fun q => tdg_n q hc
      by_cases he : a + 1 = n
      · have h2 : tdg (M 100) n (a + 1) 9 = -1 := if_neg (fun q => by have := tdc_lt q; omega)
        have C := cx_number_1e (d := d) (Y := Y) hb hk hn h9 hat hlt hd he
        refine CM_v (CM_st C ?_) (jb_t hv).symm
        rw [hg1 hlt hc, gNm, if_neg hv, tna, if_neg hg, if_pos h2, tnv, if_neg hg, if_pos h2]
      · by_cases hd2 : isD 48 57 (M 100 (a + 1))
        · have hc2 := (isD_9 (show a + 1 < n by omega)).mp hd2
          have hg2 : ¬ tdg (M 100) n (a + 1) 9 = -1 := fun q => tdg_n q hc2
          have C := cx_number_2 (d := d) (Y := Y) hb hk hn h9 hat hlt hd (show a + 1 < n by omega) hd2
          refine CM_v (CM_st C ?_) (jb_t hv).symm
          rw [gN2, gN1_at hat, nI_1, hg1 hlt hc, jm_s, jm_sw (M := jm M 94 10 _) (by omega), jm_jm, jm_jm, gNm, if_neg hv, tna, if_neg hg, if_neg hg2, tnv, if_neg hg, if_neg hg2, show tdg (M 100) n (a + 1) 9 = tsg (M 100) n (a + 1) - 48 from if_pos hc2, tsg, if_pos (show a + 1 < n by omega), Int32.sub_eq_add_neg, Int32.sub_eq_add_neg, Int32.add_assoc]
        · have h2 : tdg (M 100) n (a + 1) 9 = -1 := if_neg (fun q => hd2 ((isD_9 (show a + 1 < n by omega)).mpr q))
          have C := cx_number_1n (d := d) (Y := Y) hb hk hn h9 hat hlt hd (show a + 1 < n by omega) hd2
          refine CM_v (CM_st C ?_) (jb_t hv).symm
          rw [hg1 hlt hc, gNm, if_neg hv, tna, if_neg hg, if_pos h2, tnv, if_neg hg, if_pos h2]
    · have h0 : tdg (M 100) n a 9 = -1 := if_neg (fun q => hd ((isD_9 hlt).mpr q))
      have hv : tnv (M 100) n a = -1 := if_pos h0
      have C := cx_number_no (d := d) (Y := Y) hb hk hn h9 hat hlt hd
      refine CM_v (CM_st C ?_) (jb_f (fun q => q hv)).symm
      rw [hN0, gNm, if_pos hv, tna, if_pos h0]
  · have h0 : tdg (M 100) n a 9 = -1 := if_neg (fun q => by have := tdc_lt q; omega)
    have hv : tnv (M 100) n a = -1 := if_pos h0
    have C := cx_number_end (d := d + 1) (Y := Y) hb hk hn h9 hat heq
    refine CM_v (CM_st C ?_) (jb_f (fun q => q hv)).symm
    rw [hN0, gNm, if_pos hv, tna, if_pos h0]
theorem cx_isNext_Y {d : Nat} {b : SBt} {Y : OUt} {M : MM} (hb : 104 ≤ b.2.1) {ch : Int32} {a n : Nat} (hn : n ≤ 60) (h9 : M 94 9 = nI n) (hat : M 94 10 = nI a) (ha : a ≤ n) (hc : ¬ ch = -1) (he : tsg (M 100) n a = ch) : CM d 0 0 yX6_isNext cX6_isNext 2 (some .boolean) [.ref 94, .int ch] b Y M (.inl (some (.int 1))) (jm M 94 10 (nI (a + 1))) := by
  have hlt := tsg_lt he hc
  rw [tsg, if_pos hlt] at he
  exact cx_isNext_yes hb hn h9 hat hlt he
theorem cx_isNext_N {d : Nat} {b : SBt} {Y : OUt} {M : MM} (hb : 104 ≤ b.2.1) {ch : Int32} {a n : Nat} (hn : n ≤ 60) (h9 : M 94 9 = nI n) (hat : M 94 10 = nI a) (ha : a ≤ n) (he : ¬ tsg (M 100) n a = ch) : CM d 0 0 yX6_isNext cX6_isNext 2 (some .boolean) [.ref 94, .int ch] b Y M (.inl (some (.int 0))) M := by
  rcases Nat.lt_or_eq_of_le ha with hlt | heq
  · rw [tsg, if_pos hlt] at he
    exact cx_isNext_no hb hn h9 hat hlt he
  · exact cx_isNext_end hb hn h9 hat heq
/-- the store behind digits -/
def gD3 (M : MM) (n a : Nat) : MM := jm (jm (jm (jm M 94 10 (nI (tda (M 100) n (tda (M 100) n (tda (M 100) n a 4) 4) 4))) 101 0 (tdg (M 100) n a 4)) 101 1 (tdg (M 100) n (tda (M 100) n a 4) 4)) 101 2 (tdg (M 100) n (tda (M 100) n (tda (M 100) n a 4) 4) 4)
theorem gDa_s {M : MM} {n a j : Nat} : gDa M n a (j + 1) = tda (M 100) n (gDa M n a j) 4 := by
  rw [gDa, tda]
  by_cases h : tdc (M 100) n (gDa M n a j) 4
  · rw [if_pos h, if_pos ⟨tdc_lt h, (isD_4 (tdc_lt h)).mpr h⟩]
  · rw [if_neg h, if_neg (fun q => h ((isD_4 q.1).mp q.2))]
theorem gDs_s {M : MM} {n a j : Nat} (hat : M 94 10 = nI a) : gDs M n a (j + 1) = jm (jm (gDs M n a j) 94 10 (nI (gDa M n a (j + 1)))) 101 j (tdg (M 100) n (gDa M n a j) 4) := by
  rw [gDs, gDa, tdg]
  by_cases h : tdc (M 100) n (gDa M n a j) 4
  · rw [if_pos h, if_pos ⟨tdc_lt h, (isD_4 (tdc_lt h)).mpr h⟩, if_pos ⟨tdc_lt h, (isD_4 (tdc_lt h)).mpr h⟩, gDs_at hat, nI_1, tsg, if_pos (tdc_lt h)]
  · rw [if_neg h, if_neg (fun q => h ((isD_4 q.1).mp q.2)), if_neg (fun q => h ((isD_4 q.1).mp q.2)), jm_id (gDs_at hat j)]
theorem gDs_3 {M : MM} {n a : Nat} (hat : M 94 10 = nI a) : gDs M n a 3 = gD3 M n a := by
  have e1 : gDa M n a 1 = tda (M 100) n a 4 := gDa_s
  have e2 : gDa M n a 2 = tda (M 100) n (tda (M 100) n a 4) 4 := by rw [← e1]; exact gDa_s (j := 1)
  have e3 : gDa M n a 3 = tda (M 100) n (tda (M 100) n (tda (M 100) n a 4) 4) 4 := by rw [← e2]; exact gDa_s (j := 2)
  have s1 : gDs M n a 1 = jm (jm M 94 10 (nI (gDa M n a 1))) 101 0 (tdg (M 100) n a 4) := gDs_s (j := 0) hat
  have s2 : gDs M n a 2 = jm (jm (gDs M n a 1) 94 10 (nI (gDa M n a 2))) 101 1 (tdg (M 100) n (gDa M n a 1) 4) := gDs_s (j := 1) hat
  have s3 : gDs M n a 3 = jm (jm (gDs M n a 2) 94 10 (nI (gDa M n a 3))) 101 2 (tdg (M 100) n (gDa M n a 2) 4) := gDs_s (j := 2) hat
  rw [s3, s2, s1, e3, e2, e1, jm_sw (M := jm M 94 10 _) (i := 101) (k := 0) (i2 := 94) (by omega), jm_jm, jm_sw (M := jm (jm M 94 10 _) 101 0 _) (i := 101) (k := 1) (i2 := 94) (by omega), jm_sw (M := jm M 94 10 _) (i := 101) (k := 0) (i2 := 94) (by omega), jm_jm]
  rfl
/-- the store behind a command that is one -/
def gcm (M : MM) (n a : Nat) : MM := jm (jm (jm (jm (jm M 94 10 (nI (pN (M 100) n a))) 94 11 (tsg (M 100) n a)) 101 0 (if tsg (M 100) n a = 110 then M 101 0 else p1 (M 100) n a)) 101 1 (if tsg (M 100) n a = 110 ∨ tsg (M 100) n a = 98 then M 101 1 else p2 (M 100) n a)) 101 2 (if tsg (M 100) n a = 109 ∨ tsg (M 100) n a = 116 then p3 (M 100) n a else M 101 2)
def gLike (M N : MM) : Prop := ∀ i k, ¬ (i = 94 ∧ (k = 10 ∨ k = 11)) → i ≠ 101 → N i k = M i k
theorem gcm_like {M : MM} {n a : Nat} : gLike M (gcm M n a) := fun i k h1 h2 => by
  rw [gcm, jm_n (by omega), jm_n (by omega), jm_n (by omega), jm_n (by omega), jm_n (by omega)]
theorem gcm_t {M : MM} {n a : Nat} : gcm M n a 100 = M 100 := funext fun k => gcm_like 100 k (by omega) (by omega)
theorem gcm_p {M : MM} {n a : Nat} : gcm M n a 94 10 = nI (pN (M 100) n a) := by rw [gcm, jm_n (by omega), jm_n (by omega), jm_n (by omega), jm_n (by omega), jm_s]
theorem gcm_o {M : MM} {n a : Nat} : gcm M n a 94 11 = tsg (M 100) n a := by rw [gcm, jm_n (by omega), jm_n (by omega), jm_n (by omega), jm_s]
theorem gcm_0 {M : MM} {n a : Nat} : gcm M n a 101 0 = if tsg (M 100) n a = 110 then M 101 0 else p1 (M 100) n a := by rw [gcm, jm_n (by omega), jm_n (by omega), jm_s]
theorem gcm_1 {M : MM} {n a : Nat} : gcm M n a 101 1 = if tsg (M 100) n a = 110 ∨ tsg (M 100) n a = 98 then M 101 1 else p2 (M 100) n a := by rw [gcm, jm_n (by omega), jm_s]
theorem gcm_2 {M : MM} {n a : Nat} : gcm M n a 101 2 = if tsg (M 100) n a = 109 ∨ tsg (M 100) n a = 116 then p3 (M 100) n a else M 101 2 := by rw [gcm, jm_s]
theorem gNm_t {M : MM} {n k a : Nat} : gNm M n k a 100 = M 100 := funext fun c => by rw [gNm, jm_n (by omega), jm_n (by omega)]
theorem gNm_n {M : MM} {n k a i c : Nat} (h : i ≠ 101) (h2 : ¬ (i = 94 ∧ c = 10)) : gNm M n k a i c = M i c := by rw [gNm, jm_n (by omega), jm_n (by omega)]
theorem gNm_p {M : MM} {n k a : Nat} : gNm M n k a 94 10 = nI (tna (M 100) n a) := by rw [gNm, jm_n (by omega), jm_s]
theorem gNm_g {M : MM} {n k a c : Nat} (h : c ≠ k) : gNm M n k a 101 c = M 101 c := by rw [gNm, jm_n (by omega), jm_n (by omega)]
theorem gNm_s {M : MM} {n k a : Nat} (h : ¬ tnv (M 100) n a = -1) : gNm M n k a 101 k = tnv (M 100) n a := by rw [gNm, jm_s, if_neg h]
theorem jmt {M : MM} {v : Int32} {k : Nat} : jm M 94 k v 100 = M 100 := jm_row (by decide)
theorem gcm_eq {M N : MM} {n a : Nat} (hl : gLike M N) (hp : N 94 10 = nI (pN (M 100) n a)) (ho : N 94 11 = tsg (M 100) n a) (h0 : N 101 0 = gcm M n a 101 0) (h1 : N 101 1 = gcm M n a 101 1) (h2 : N 101 2 = gcm M n a 101 2) (h3 : ∀ k, 3 ≤ k → N 101 k = M 101 k) : N = gcm M n a := funext fun i => funext fun k => by
  by_cases a1 : i = 94 ∧ (k = 10 ∨ k = 11)
  · obtain ⟨rfl, rfl | rfl⟩ := a1
    · rw [hp, gcm_p]
    · rw [ho, gcm_o]
  · by_cases a2 : i = 101
    · subst a2
      rcases (show k = 0 ∨ k = 1 ∨ k = 2 ∨ 3 ≤ k by omega) with rfl | rfl | rfl | h
      · exact h0
      · exact h1
      · exact h2
      · rw [h3 k h, gcm, jm_n (by omega), jm_n (by omega), jm_n (by omega), jm_n (by omega), jm_n (by omega)]
    · rw [hl i k a1 a2, gcm_like i k a1 a2]
def gB (M : MM) (a : Nat) (u : Int32) : MM := jm (jm M 94 11 u) 94 10 (nI (a + 1))
theorem gB_t {M : MM} {a : Nat} {u : Int32} : gB M a u 100 = M 100 := by rw [gB, jmt, jmt]
theorem gB_p {M : MM} {a : Nat} {u : Int32} : gB M a u 94 10 = nI (a + 1) := jm_s
theorem gB_o {M : MM} {a : Nat} {u : Int32} : gB M a u 94 11 = u := by rw [gB, jm_n (by omega), jm_s]
theorem gB_n {M : MM} {a i k : Nat} {u : Int32} (h : ¬ (i = 94 ∧ (k = 10 ∨ k = 11))) : gB M a u i k = M i k := by rw [gB, jm_n (by omega), jm_n (by omega)]
/-- the reading of the parts of a command, one behind another -/
def gM1 (M : MM) (n a : Nat) (u : Int32) : MM := gNm (gB M a u) n 0 (a + 1)
def gM2 (M : MM) (n a : Nat) (u : Int32) : MM := gNm (jm (gM1 M n a u) 94 10 (nI (tna (M 100) n (a + 1) + 1))) n 1 (tna (M 100) n (a + 1) + 1)
def gM3 (M : MM) (n a : Nat) (u : Int32) : MM := gNm (jm (gM2 M n a u) 94 10 (nI (tna (M 100) n (tna (M 100) n (a + 1) + 1) + 1))) n 2 (tna (M 100) n (tna (M 100) n (a + 1) + 1) + 1)
theorem gM1_t {M : MM} {n a : Nat} {u : Int32} : gM1 M n a u 100 = M 100 := by rw [gM1, gNm_t, gB_t]
theorem gM2_t {M : MM} {n a : Nat} {u : Int32} : gM2 M n a u 100 = M 100 := by rw [gM2, gNm_t, jmt, gM1_t]
theorem gM3_t {M : MM} {n a : Nat} {u : Int32} : gM3 M n a u 100 = M 100 := by rw [gM3, gNm_t, jmt, gM2_t]
theorem gM1_p {M : MM} {n a : Nat} {u : Int32} : gM1 M n a u 94 10 = nI (tna (M 100) n (a + 1)) := by rw [gM1, gNm_p, gB_t]
theorem gM2_p {M : MM} {n a : Nat} {u : Int32} : gM2 M n a u 94 10 = nI (tna (M 100) n (tna (M 100) n (a + 1) + 1)) := by rw [gM2, gNm_p, jmt, gM1_t]
theorem gM3_p {M : MM} {n a : Nat} {u : Int32} : gM3 M n a u 94 10 = nI (tna (M 100) n (tna (M 100) n (tna (M 100) n (a + 1) + 1) + 1)) := by rw [gM3, gNm_p, jmt, gM2_t]
theorem gM1_n {M : MM} {n a i k : Nat} {u : Int32} (h : ¬ (i = 94 ∧ (k = 10 ∨ k = 11))) (h2 : i ≠ 101) : gM1 M n a u i k = M i k := by rw [gM1, gNm_n h2 (by omega), gB_n h]
theorem gM2_n {M : MM} {n a i k : Nat} {u : Int32} (h : ¬ (i = 94 ∧ (k = 10 ∨ k = 11))) (h2 : i ≠ 101) : gM2 M n a u i k = M i k := by rw [gM2, gNm_n h2 (by omega), jm_n (by omega), gM1_n h h2]
theorem gM3_n {M : MM} {n a i k : Nat} {u : Int32} (h : ¬ (i = 94 ∧ (k = 10 ∨ k = 11))) (h2 : i ≠ 101) : gM3 M n a u i k = M i k := by rw [gM3, gNm_n h2 (by omega), jm_n (by omega), gM2_n h h2]
theorem gM1_o {M : MM} {n a : Nat} {u : Int32} : gM1 M n a u 94 11 = u := by rw [gM1, gNm_n (by omega) (by omega), gB_o]
theorem gM2_o {M : MM} {n a : Nat} {u : Int32} : gM2 M n a u 94 11 = u := by rw [gM2, gNm_n (by omega) (by omega), jm_n (by omega), gM1_o]
theorem gM3_o {M : MM} {n a : Nat} {u : Int32} : gM3 M n a u 94 11 = u := by rw [gM3, gNm_n (by omega) (by omega), jm_n (by omega), gM2_o]
theorem gM1_0 {M : MM} {n a : Nat} {u : Int32} (h : ¬ tnv (M 100) n (a + 1) = -1) : gM1 M n a u 101 0 = tnv (M 100) n (a + 1) := by rw [gM1, gNm_s (by rw [gB_t]; exact h), gB_t]
theorem gM1_k {M : MM} {n a k : Nat} {u : Int32} (h : k ≠ 0) : gM1 M n a u 101 k = M 101 k := by rw [gM1, gNm_g h, gB_n (by omega)]
theorem gM2_1 {M : MM} {n a : Nat} {u : Int32} (h : ¬ tnv (M 100) n (tna (M 100) n (a + 1) + 1) = -1) : gM2 M n a u 101 1 = tnv (M 100) n (tna (M 100) n (a + 1) + 1) := by rw [gM2, gNm_s (by rw [jmt, gM1_t]; exact h), jmt, gM1_t]
theorem gM2_k {M : MM} {n a k : Nat} {u : Int32} (h : k ≠ 1) : gM2 M n a u 101 k = gM1 M n a u 101 k := by rw [gM2, gNm_g h, jm_n (by omega)]
theorem gM3_2 {M : MM} {n a : Nat} {u : Int32} (h : ¬ tnv (M 100) n (tna (M 100) n (tna (M 100) n (a + 1) + 1) + 1) = -1) : gM3 M n a u 101 2 = tnv (M 100) n (tna (M 100) n (tna (M 100) n (a + 1) + 1) + 1) := by rw [gM3, gNm_s (by rw [jmt, gM2_t]; exact h), jmt, gM2_t]
theorem gM3_k {M : MM} {n a k : Nat} {u : Int32} (h : k ≠ 2) : gM3 M n a u 101 k = gM2 M n a u 101 k := by rw [gM3, gNm_g h, jm_n (by omega)]
theorem cx_isCommand_m1 {d : Nat} {b : SBt} {Y : OUt} {M : MM} (hb : 104 ≤ b.2.1) {a n : Nat} (hn : n ≤ 60) (h9 : M 94 9 = nI n) (hat : M 94 10 = nI a) (hlt : a < n) (hL : tsg (M 100) n a = 109) (g1 : tnv (M 100) n (a + 1) = -1) : CM (d + 2) 0 0 yX6_isCommand cX6_isCommand 1 (some .boolean) [.ref 94] b Y M (.inl (some (.int (0)))) (gM1 M n a 109) := by
  refine Con.of (by decide +kernel) (Nat.le_of_ble_eq_true rfl) rfl fun p l e s m args below meth c D tyc A ad0 x hr htab hname => ?_
  change JJ _ _ _ _ _ _ _ _ _ _ _ _ _ _ _ _ _ 0 [some (.ref 94)] [] _ 0 0
  refine j_aload_n x dX6_isCommand_0 rfl ?_
  refine j2_geti (k := 10) x hb dX6_isCommand_1 jc_10 wfX6_188 (by decide) rfl ?_
  refine j_aload_n x dX6_isCommand_4 rfl ?_
  refine j2_geti (k := 9) x hb dX6_isCommand_5 jc_10 wfX6_185 (by decide) rfl ?_
  refine j_icmp_ne (tgt := 13) x dX6_isCommand_8 (by decide) (fun hc => ?_) (fun hc => absurd hc (by rw [hat, h9]; exact fun q => by have := congrArg Int32.toNatClampNeg q; rw [nI_clamp (by omega), nI_clamp (by omega)] at this; omega))
  refine j_aload_n x dX6_isCommand_13 rfl ?_
  refine j_aload_n x dX6_isCommand_14 rfl ?_
  refine j2_getr (k := 8) (r := 100) x hb dX6_isCommand_15 jc_10 wfX6_25 (by decide) rfl ?_
  refine j_aload_n x dX6_isCommand_18 rfl ?_
  refine j2_geti (k := 10) x hb dX6_isCommand_19 jc_10 wfX6_188 (by decide) rfl ?_
  refine j2_cald x hb dX6_isCommand_22 rfl (n := 60) (v := 109) (by rw [hat]; exact vp_in_nI (by omega) (by decide)) (by rw [hat, nI_clamp (by omega)]; rw [tsg, if_pos hlt] at hL; exact hL) ?_
  refine j2_puti (k := 11) x hb dX6_isCommand_23 jc_10 wfX6_191 (by decide) rfl (by decide) rfl rfl ?_
  refine j_aload_n x dX6_isCommand_26 rfl ?_
  refine j2_geti (k := 11) x hb dX6_isCommand_27 jc_10 wfX6_191 (by decide) rfl ?_; rw [jm_s]
  refine j_lookup (off := 50) (tgt := 80) x dX6_isCommand_30 (by decide) (by decide) (by decide) ?_
  refine j_aload_n x dX6_isCommand_80 rfl ?_
  refine j_dup x dX6_isCommand_81 rfl ?_
  refine j2_geti (k := 10) x hb dX6_isCommand_82 jc_10 wfX6_188 (by decide) rfl ?_
  refine j_iconst (v := 1) x dX6_isCommand_85 (by decide) ?_
  refine j_iadd x dX6_isCommand_86 ?_
  refine j2_puti (k := 10) x hb dX6_isCommand_87 jc_10 wfX6_188 (by decide) rfl rfl rfl rfl ?_; rw [show jm (jm M 94 11 109) 94 10 (jm M 94 11 109 94 10 + 1) = gB M a 109 from by rw [jm_n (by omega), hat, nI_1]; rfl]
  refine j_aload_n x dX6_isCommand_90 rfl ?_
  refine j_iconst (v := 0) x dX6_isCommand_91 (by decide) ?_
  refine j2_callVi x hb dX6_isCommand_92 m_X6_number (CM_v (cx_number (d := d) hb (k := 0) (by decide) hn ((gB_n (by omega)).trans h9) gB_p (show a + 1 ≤ n by omega)) (jb_f (fun z => z (by rw [gB_t]; exact g1)))) wmX6_195 jc_10 rfl rfl rfl (Nat.le_of_ble_eq_true rfl) (j_fit_rm (by omega) (by omega) (by omega)) rfl ?_
  refine j_if_eq (tgt := 136) x dX6_isCommand_95 (by decide) (fun hc => ?_) (fun hc => absurd (rfl) hc)
  refine j_iconst (v := 0) x dX6_isCommand_136 (by decide) ?_
  exact j_zreturn x hr dX6_isCommand_137 (by first | decide | with_reducible exact jb_nar | with_reducible exact jisS_nar | with_reducible exact gno_nar) (by omega) (by omega) ⟨rfl, rfl⟩
theorem cx_isCommand_m2 {d : Nat} {b : SBt} {Y : OUt} {M : MM} (hb : 104 ≤ b.2.1) {a n : Nat} (hn : n ≤ 60) (h9 : M 94 9 = nI n) (hat : M 94 10 = nI a) (hlt : a < n) (hL : tsg (M 100) n a = 109) (g1 : ¬ tnv (M 100) n (a + 1) = -1) (g2 : ¬ tsg (M 100) n (tna (M 100) n (a + 1)) = 61) : CM (d + 2) 0 0 yX6_isCommand cX6_isCommand 1 (some .boolean) [.ref 94] b Y M (.inl (some (.int (0)))) (gM1 M n a 109) := by
  refine Con.of (by decide +kernel) (Nat.le_of_ble_eq_true rfl) rfl fun p l e s m args below meth c D tyc A ad0 x hr htab hname => ?_
  change JJ _ _ _ _ _ _ _ _ _ _ _ _ _ _ _ _ _ 0 [some (.ref 94)] [] _ 0 0
  refine j_aload_n x dX6_isCommand_0 rfl ?_
  refine j2_geti (k := 10) x hb dX6_isCommand_1 jc_10 wfX6_188 (by decide) rfl ?_
  refine j_aload_n x dX6_isCommand_4 rfl ?_
  refine j2_geti (k := 9) x hb dX6_isCommand_5 jc_10 wfX6_185 (by decide) rfl ?_
  refine j_icmp_ne (tgt := 13) x dX6_isCommand_8 (by decide) (fun hc => ?_) (fun hc => absurd hc (by rw [hat, h9]; exact fun q => by have := congrArg Int32.toNatClampNeg q; rw [nI_clamp (by omega), nI_clamp (by omega)] at this; omega))
  refine j_aload_n x dX6_isCommand_13 rfl ?_
  refine j_aload_n x dX6_isCommand_14 rfl ?_
  refine j2_getr (k := 8) (r := 100) x hb dX6_isCommand_15 jc_10 wfX6_25 (by decide) rfl ?_
  refine j_aload_n x dX6_isCommand_18 rfl ?_
  refine j2_geti (k := 10) x hb dX6_isCommand_19 jc_10 wfX6_188 (by decide) rfl ?_
  refine j2_cald x hb dX6_isCommand_22 rfl (n := 60) (v := 109) (by rw [hat]; exact vp_in_nI (by omega) (by decide)) (by rw [hat, nI_clamp (by omega)]; rw [tsg, if_pos hlt] at hL; exact hL) ?_
  refine j2_puti (k := 11) x hb dX6_isCommand_23 jc_10 wfX6_191 (by decide) rfl (by decide) rfl rfl ?_
  refine j_aload_n x dX6_isCommand_26 rfl ?_
  refine j2_geti (k := 11) x hb dX6_isCommand_27 jc_10 wfX6_191 (by decide) rfl ?_; rw [jm_s]
  refine j_lookup (off := 50) (tgt := 80) x dX6_isCommand_30 (by decide) (by decide) (by decide) ?_
  refine j_aload_n x dX6_isCommand_80 rfl ?_
  refine j_dup x dX6_isCommand_81 rfl ?_
  refine j2_geti (k := 10) x hb dX6_isCommand_82 jc_10 wfX6_188 (by decide) rfl ?_
  refine j_iconst (v := 1) x dX6_isCommand_85 (by decide) ?_
  refine j_iadd x dX6_isCommand_86 ?_
  refine j2_puti (k := 10) x hb dX6_isCommand_87 jc_10 wfX6_188 (by decide) rfl rfl rfl rfl ?_; rw [show jm (jm M 94 11 109) 94 10 (jm M 94 11 109 94 10 + 1) = gB M a 109 from by rw [jm_n (by omega), hat, nI_1]; rfl]
  refine j_aload_n x dX6_isCommand_90 rfl ?_
  refine j_iconst (v := 0) x dX6_isCommand_91 (by decide) ?_
  refine j2_callVi x hb dX6_isCommand_92 m_X6_number (CM_v (cx_number (d := d) hb (k := 0) (by decide) hn ((gB_n (by omega)).trans h9) gB_p (show a + 1 ≤ n by omega)) (jb_t (by rw [gB_t]; exact g1))) wmX6_195 jc_10 rfl rfl rfl (Nat.le_of_ble_eq_true rfl) (j_fit_rm (by omega) (by omega) (by omega)) rfl ?_
  refine j_if_eq (tgt := 136) x dX6_isCommand_95 (by decide) (fun hc => absurd hc (by decide)) (fun hc => ?_)
  refine j_aload_n x dX6_isCommand_98 rfl ?_
  refine j_bipush (v := 61) x dX6_isCommand_99 (by decide) ?_
  refine j2_callVi x hb dX6_isCommand_101 m_X6_isNext (cx_isNext_N (M := gM1 M n a 109) (d := d) (ch := 61) hb hn ((gM1_n (by omega) (by omega)).trans h9) gM1_p (tna_le (show a + 1 ≤ n by omega)) (by rw [gM1_t]; exact g2)) wmX6_198 jc_10 rfl rfl rfl (Nat.le_of_ble_eq_true rfl) (j_fit_rm (by omega) (by omega) (by omega)) rfl ?_
  refine j_if_eq (tgt := 136) x dX6_isCommand_104 (by decide) (fun hc => ?_) (fun hc => absurd (rfl) hc)
  refine j_iconst (v := 0) x dX6_isCommand_136 (by decide) ?_
  exact j_zreturn x hr dX6_isCommand_137 (by first | decide | with_reducible exact jb_nar | with_reducible exact jisS_nar | with_reducible exact gno_nar) (by omega) (by omega) ⟨rfl, rfl⟩
theorem cx_isCommand_m3 {d : Nat} {b : SBt} {Y : OUt} {M : MM} (hb : 104 ≤ b.2.1) {a n : Nat} (hn : n ≤ 60) (h9 : M 94 9 = nI n) (hat : M 94 10 = nI a) (hlt : a < n) (hL : tsg (M 100) n a = 109) (g1 : ¬ tnv (M 100) n (a + 1) = -1) (g2 : tsg (M 100) n (tna (M 100) n (a + 1)) = 61) (g3 : tnv (M 100) n (tna (M 100) n (a + 1) + 1) = -1) : CM (d + 2) 0 0 yX6_isCommand cX6_isCommand 1 (some .boolean) [.ref 94] b Y M (.inl (some (.int (0)))) (gM2 M n a 109) := by
  refine Con.of (by decide +kernel) (Nat.le_of_ble_eq_true rfl) rfl fun p l e s m args below meth c D tyc A ad0 x hr htab hname => ?_
  change JJ _ _ _ _ _ _ _ _ _ _ _ _ _ _ _ _ _ 0 [some (.ref 94)] [] _ 0 0
  refine j_aload_n x dX6_isCommand_0 rfl ?_
  refine j2_geti (k := 10) x hb dX6_isCommand_1 jc_10 wfX6_188 (by decide) rfl ?_
  refine j_aload_n x dX6_isCommand_4 rfl ?_
  refine j2_geti (k := 9) x hb dX6_isCommand_5 jc_10 wfX6_185 (by decide) rfl ?_
  refine j_icmp_ne (tgt := 13) x dX6_isCommand_8 (by decide) (fun hc => ?_) (fun hc => absurd hc (by rw [hat, h9]; exact fun q => by have := congrArg Int32.toNatClampNeg q; rw [nI_clamp (by omega), nI_clamp (by omega)] at this; omega))
  refine j_aload_n x dX6_isCommand_13 rfl ?_
  refine j_aload_n x dX6_isCommand_14 rfl ?_
  refine j2_getr (k := 8) (r := 100) x hb dX6_isCommand_15 jc_10 wfX6_25 (by decide) rfl ?_
  refine j_aload_n x dX6_isCommand_18 rfl ?_
  refine j2_geti (k := 10) x hb dX6_isCommand_19 jc_10 wfX6_188 (by decide) rfl ?_
  refine j2_cald x hb dX6_isCommand_22 rfl (n := 60) (v := 109) (by rw [hat]; exact vp_in_nI (by omega) (by decide)) (by rw [hat, nI_clamp (by omega)]; rw [tsg, if_pos hlt] at hL; exact hL) ?_
  refine j2_puti (k := 11) x hb dX6_isCommand_23 jc_10 wfX6_191 (by decide) rfl (by decide) rfl rfl ?_
  refine j_aload_n x dX6_isCommand_26 rfl ?_
  refine j2_geti (k := 11) x hb dX6_isCommand_27 jc_10 wfX6_191 (by decide) rfl ?_; rw [jm_s]
  refine j_lookup (off := 50) (tgt := 80) x dX6_isCommand_30 (by decide) (by decide) (by decide) ?_
  refine j_aload_n x dX6_isCommand_80 rfl ?_
  refine j_dup x dX6_isCommand_81 rfl ?_
  refine j2_geti (k := 10) x hb dX6_isCommand_82 jc_10 wfX6_188 (by decide) rfl ?_
  refine j_iconst (v := 1) x dX6_isCommand_85 (by decide) ?_
  refine j_iadd x dX6_isCommand_86 ?_
  refine j2_puti (k := 10) x hb dX6_isCommand_87 jc_10 wfX6_188 (by decide) rfl rfl rfl rfl ?_; rw [show jm (jm M 94 11 109) 94 10 (jm M 94 11 109 94 10 + 1) = gB M a 109 from by rw [jm_n (by omega), hat, nI_1]; rfl]
  refine j_aload_n x dX6_isCommand_90 rfl ?_
  refine j_iconst (v := 0) x dX6_isCommand_91 (by decide) ?_
  refine j2_callVi x hb dX6_isCommand_92 m_X6_number (CM_v (cx_number (d := d) hb (k := 0) (by decide) hn ((gB_n (by omega)).trans h9) gB_p (show a + 1 ≤ n by omega)) (jb_t (by rw [gB_t]; exact g1))) wmX6_195 jc_10 rfl rfl rfl (Nat.le_of_ble_eq_true rfl) (j_fit_rm (by omega) (by omega) (by omega)) rfl ?_
  refine j_if_eq (tgt := 136) x dX6_isCommand_95 (by decide) (fun hc => absurd hc (by decide)) (fun hc => ?_)
  refine j_aload_n x dX6_isCommand_98 rfl ?_
  refine j_bipush (v := 61) x dX6_isCommand_99 (by decide) ?_
  refine j2_callVi x hb dX6_isCommand_101 m_X6_isNext (cx_isNext_Y (M := gM1 M n a 109) (d := d) (ch := 61) hb hn ((gM1_n (by omega) (by omega)).trans h9) gM1_p (tna_le (show a + 1 ≤ n by omega)) (by decide) (by rw [gM1_t]; exact g2)) wmX6_198 jc_10 rfl rfl rfl (Nat.le_of_ble_eq_true rfl) (j_fit_rm (by omega) (by omega) (by omega)) rfl ?_
  refine j_if_eq (tgt := 136) x dX6_isCommand_104 (by decide) (fun hc => absurd hc (by decide)) (fun hc => ?_)
  refine j_aload_n x dX6_isCommand_107 rfl ?_
  refine j_iconst (v := 1) x dX6_isCommand_108 (by decide) ?_
  refine j2_callVi x hb dX6_isCommand_109 m_X6_number (CM_v (cx_number (M := jm (gM1 M n a 109) 94 10 (nI (tna (M 100) n (a + 1) + 1))) (d := d) hb (k := 1) (by decide) hn ((jm_n (by omega)).trans ((gM1_n (by omega) (by omega)).trans h9)) jm_s (tsg_lt g2 (by decide))) (jb_f (fun z => z (by rw [jmt, gM1_t]; exact g3)))) wmX6_195 jc_10 rfl rfl rfl (Nat.le_of_ble_eq_true rfl) (j_fit_rm (by omega) (by omega) (by omega)) rfl ?_
  refine j_if_eq (tgt := 136) x dX6_isCommand_112 (by decide) (fun hc => ?_) (fun hc => absurd (rfl) hc)
  refine j_iconst (v := 0) x dX6_isCommand_136 (by decide) ?_
  exact j_zreturn x hr dX6_isCommand_137 (by first | decide | with_reducible exact jb_nar | with_reducible exact jisS_nar | with_reducible exact gno_nar) (by omega) (by omega) ⟨rfl, rfl⟩
theorem cx_isCommand_m4 {d : Nat} {b : SBt} {Y : OUt} {M : MM} (hb : 104 ≤ b.2.1) {a n : Nat} (hn : n ≤ 60) (h9 : M 94 9 = nI n) (hat : M 94 10 = nI a) (hlt : a < n) (hL : tsg (M 100) n a = 109) (g1 : ¬ tnv (M 100) n (a + 1) = -1) (g2 : tsg (M 100) n (tna (M 100) n (a + 1)) = 61) (g3 : ¬ tnv (M 100) n (tna (M 100) n (a + 1) + 1) = -1) (g4 : ¬ tsg (M 100) n (tna (M 100) n (tna (M 100) n (a + 1) + 1)) = 58) : CM (d + 2) 0 0 yX6_isCommand cX6_isCommand 1 (some .boolean) [.ref 94] b Y M (.inl (some (.int (0)))) (gM2 M n a 109) := by
  refine Con.of (by decide +kernel) (Nat.le_of_ble_eq_true rfl) rfl fun p l e s m args below meth c D tyc A ad0 x hr htab hname => ?_
  change JJ _ _ _ _ _ _ _ _ _ _ _ _ _ _ _ _ _ 0 [some (.ref 94)] [] _ 0 0
  refine j_aload_n x dX6_isCommand_0 rfl ?_
  refine j2_geti (k := 10) x hb dX6_isCommand_1 jc_10 wfX6_188 (by decide) rfl ?_
  refine j_aload_n x dX6_isCommand_4 rfl ?_
  refine j2_geti (k := 9) x hb dX6_isCommand_5 jc_10 wfX6_185 (by decide) rfl ?_
  refine j_icmp_ne (tgt := 13) x dX6_isCommand_8 (by decide) (fun hc => ?_) (fun hc => absurd hc (by rw [hat, h9]; exact fun q => by have := congrArg Int32.toNatClampNeg q; rw [nI_clamp (by omega), nI_clamp (by omega)] at this; omega))
  refine j_aload_n x dX6_isCommand_13 rfl ?_
  refine j_aload_n x dX6_isCommand_14 rfl ?_
  refine j2_getr (k := 8) (r := 100) x hb dX6_isCommand_15 jc_10 wfX6_25 (by decide) rfl ?_
  refine j_aload_n x dX6_isCommand_18 rfl ?_
  refine j2_geti (k := 10) x hb dX6_isCommand_19 jc_10 wfX6_188 (by decide) rfl ?_
  refine j2_cald x hb dX6_isCommand_22 rfl (n := 60) (v := 109) (by rw [hat]; exact vp_in_nI (by omega) (by decide)) (by rw [hat, nI_clamp (by omega)]; rw [tsg, if_pos hlt] at hL; exact hL) ?_
  refine j2_puti (k := 11) x hb dX6_isCommand_23 jc_10 wfX6_191 (by decide) rfl (by decide) rfl rfl ?_
  refine j_aload_n x dX6_isCommand_26 rfl ?_
  refine j2_geti (k := 11) x hb dX6_isCommand_27 jc_10 wfX6_191 (by decide) rfl ?_; rw [jm_s]
  refine j_lookup (off := 50) (tgt := 80) x dX6_isCommand_30 (by decide) (by decide) (by decide) ?_
  refine j_aload_n x dX6_isCommand_80 rfl ?_
  refine j_dup x dX6_isCommand_81 rfl ?_
  refine j2_geti (k := 10) x hb dX6_isCommand_82 jc_10 wfX6_188 (by decide) rfl ?_
  refine j_iconst (v := 1) x dX6_isCommand_85 (by decide) ?_
  refine j_iadd x dX6_isCommand_86 ?_
  refine j2_puti (k := 10) x hb dX6_isCommand_87 jc_10 wfX6_188 (by decide) rfl rfl rfl rfl ?_; rw [show jm (jm M 94 11 109) 94 10 (jm M 94 11 109 94 10 + 1) = gB M a 109 from by rw [jm_n (by omega), hat, nI_1]; rfl]
  refine j_aload_n x dX6_isCommand_90 rfl ?_
  refine j_iconst (v := 0) x dX6_isCommand_91 (by decide) ?_
  refine j2_callVi x hb dX6_isCommand_92 m_X6_number (CM_v (cx_number (d := d) hb (k := 0) (by decide) hn ((gB_n (by omega)).trans h9) gB_p (show a + 1 ≤ n by omega)) (jb_t (by rw [gB_t]; exact g1))) wmX6_195 jc_10 rfl rfl rfl (Nat.le_of_ble_eq_true rfl) (j_fit_rm (by omega) (by omega) (by omega)) rfl ?_
  refine j_if_eq (tgt := 136) x dX6_isCommand_95 (by decide) (fun hc => absurd hc (by decide)) (fun hc => ?_)
  refine j_aload_n x dX6_isCommand_98 rfl ?_
  refine j_bipush (v := 61) x dX6_isCommand_99 (by decide) ?_
  refine j2_callVi x hb dX6_isCommand_101 m_X6_isNext (cx_isNext_Y (M := gM1 M n a 109) (d := d) (ch := 61) hb hn ((gM1_n (by omega) (by omega)).trans h9) gM1_p (tna_le (show a + 1 ≤ n by omega)) (by decide) (by rw [gM1_t]; exact g2)) wmX6_198 jc_10 rfl rfl rfl (Nat.le_of_ble_eq_true rfl) (j_fit_rm (by omega) (by omega) (by omega)) rfl ?_
  refine j_if_eq (tgt := 136) x dX6_isCommand_104 (by decide) (fun hc => absurd hc (by decide)) (fun hc => ?_)
  refine j_aload_n x dX6_isCommand_107 rfl ?_
  refine j_iconst (v := 1) x dX6_isCommand_108 (by decide) ?_
  refine j2_callVi x hb dX6_isCommand_109 m_X6_number (CM_v (cx_number (M := jm (gM1 M n a 109) 94 10 (nI (tna (M 100) n (a + 1) + 1))) (d := d) hb (k := 1) (by decide) hn ((jm_n (by omega)).trans ((gM1_n (by omega) (by omega)).trans h9)) jm_s (tsg_lt g2 (by decide))) (jb_t (by rw [jmt, gM1_t]; exact g3))) wmX6_195 jc_10 rfl rfl rfl (Nat.le_of_ble_eq_true rfl) (j_fit_rm (by omega) (by omega) (by omega)) rfl ?_
  refine j_if_eq (tgt := 136) x dX6_isCommand_112 (by decide) (fun hc => absurd hc (by decide)) (fun hc => ?_)
  refine j_aload_n x dX6_isCommand_115 rfl ?_
  refine j_bipush (v := 58) x dX6_isCommand_116 (by decide) ?_
  refine j2_callVi x hb dX6_isCommand_118 m_X6_isNext (cx_isNext_N (M := gM2 M n a 109) (d := d) (ch := 58) hb hn ((gM2_n (by omega) (by omega)).trans h9) gM2_p (tna_le (tsg_lt g2 (by decide))) (by rw [gM2_t]; exact g4)) wmX6_198 jc_10 rfl rfl rfl (Nat.le_of_ble_eq_true rfl) (j_fit_rm (by omega) (by omega) (by omega)) rfl ?_
  refine j_if_eq (tgt := 136) x dX6_isCommand_121 (by decide) (fun hc => ?_) (fun hc => absurd (rfl) hc)
  refine j_iconst (v := 0) x dX6_isCommand_136 (by decide) ?_
  exact j_zreturn x hr dX6_isCommand_137 (by first | decide | with_reducible exact jb_nar | with_reducible exact jisS_nar | with_reducible exact gno_nar) (by omega) (by omega) ⟨rfl, rfl⟩
theorem cx_isCommand_m5 {d : Nat} {b : SBt} {Y : OUt} {M : MM} (hb : 104 ≤ b.2.1) {a n : Nat} (hn : n ≤ 60) (h9 : M 94 9 = nI n) (hat : M 94 10 = nI a) (hlt : a < n) (hL : tsg (M 100) n a = 109) (g1 : ¬ tnv (M 100) n (a + 1) = -1) (g2 : tsg (M 100) n (tna (M 100) n (a + 1)) = 61) (g3 : ¬ tnv (M 100) n (tna (M 100) n (a + 1) + 1) = -1) (g4 : tsg (M 100) n (tna (M 100) n (tna (M 100) n (a + 1) + 1)) = 58) (g5 : tnv (M 100) n (tna (M 100) n (tna (M 100) n (a + 1) + 1) + 1) = -1) : CM (d + 2) 0 0 yX6_isCommand cX6_isCommand 1 (some .boolean) [.ref 94] b Y M (.inl (some (.int (0)))) (gM3 M n a 109) := by
  refine Con.of (by decide +kernel) (Nat.le_of_ble_eq_true rfl) rfl fun p l e s m args below meth c D tyc A ad0 x hr htab hname => ?_
  change JJ _ _ _ _ _ _ _ _ _ _ _ _ _ _ _ _ _ 0 [some (.ref 94)] [] _ 0 0
  refine j_aload_n x dX6_isCommand_0 rfl ?_
  refine j2_geti (k := 10) x hb dX6_isCommand_1 jc_10 wfX6_188 (by decide) rfl ?_
  refine j_aload_n x dX6_isCommand_4 rfl ?_
  refine j2_geti (k := 9) x hb dX6_isCommand_5 jc_10 wfX6_185 (by decide) rfl ?_
  refine j_icmp_ne (tgt := 13) x dX6_isCommand_8 (by decide) (fun hc => ?_) (fun hc => absurd hc (by rw [hat, h9]; exact fun q => by have := congrArg Int32.toNatClampNeg q; rw [nI_clamp (by omega), nI_clamp (by omega)] at this; omega))
  refine j_aload_n x dX6_isCommand_13 rfl ?_
  refine j_aload_n x dX6_isCommand_14 rfl ?_
  refine j2_getr (k := 8) (r := 100) x hb dX6_isCommand_15 jc_10 wfX6_25 (by decide) rfl ?_
  refine j_aload_n x dX6_isCommand_18 rfl ?_
  refine j2_geti (k := 10) x hb dX6_isCommand_19 jc_10 wfX6_188 (by decide) rfl ?_
  refine j2_cald x hb dX6_isCommand_22 rfl (n := 60) (v := 109) (by rw [hat]; exact vp_in_nI (by omega) (by decide)) (by rw [hat, nI_clamp (by omega)]; rw [tsg, if_pos hlt] at hL; exact hL) ?_
  refine j2_puti (k := 11) x hb dX6_isCommand_23 jc_10 wfX6_191 (by decide) rfl (by decide) rfl rfl ?_
  refine j_aload_n x dX6_isCommand_26 rfl ?_
  refine j2_geti (k := 11) x hb dX6_isCommand_27 jc_10 wfX6_191 (by decide) rfl ?_; rw [jm_s]
  refine j_lookup (off := 50) (tgt := 80) x dX6_isCommand_30 (by decide) (by decide) (by decide) ?_
  refine j_aload_n x dX6_isCommand_80 rfl ?_
  refine j_dup x dX6_isCommand_81 rfl ?_
  refine j2_geti (k := 10) x hb dX6_isCommand_82 jc_10 wfX6_188 (by decide) rfl ?_
  refine j_iconst (v := 1) x dX6_isCommand_85 (by decide) ?_
  refine j_iadd x dX6_isCommand_86 ?_
  refine j2_puti (k := 10) x hb dX6_isCommand_87 jc_10 wfX6_188 (by decide) rfl rfl rfl rfl ?_; rw [show jm (jm M 94 11 109) 94 10 (jm M 94 11 109 94 10 + 1) = gB M a 109 from by rw [jm_n (by omega), hat, nI_1]; rfl]
  refine j_aload_n x dX6_isCommand_90 rfl ?_
  refine j_iconst (v := 0) x dX6_isCommand_91 (by decide) ?_
  refine j2_callVi x hb dX6_isCommand_92 m_X6_number (CM_v (cx_number (d := d) hb (k := 0) (by decide) hn ((gB_n (by omega)).trans h9) gB_p (show a + 1 ≤ n by omega)) (jb_t (by rw [gB_t]; exact g1))) wmX6_195 jc_10 rfl rfl rfl (Nat.le_of_ble_eq_true rfl) (j_fit_rm (by omega) (by omega) (by omega)) rfl ?_
  refine j_if_eq (tgt := 136) x dX6_isCommand_95 (by decide) (fun hc => absurd hc (by decide)) (fun hc => ?_)
  refine j_aload_n x dX6_isCommand_98 rfl ?_
  refine j_bipush (v := 61) x dX6_isCommand_99 (by decide) ?_
  refine j2_callVi x hb dX6_isCommand_101 m_X6_isNext (cx_isNext_Y (M := gM1 M n a 109) (d := d) (ch := 61) hb hn ((gM1_n (by omega) (by omega)).trans h9) gM1_p (tna_le (show a + 1 ≤ n by omega)) (by decide) (by rw [gM1_t]; exact g2)) wmX6_198 jc_10 rfl rfl rfl (Nat.le_of_ble_eq_true rfl) (j_fit_rm (by omega) (by omega) (by omega)) rfl ?_
  refine j_if_eq (tgt := 136) x dX6_isCommand_104 (by decide) (fun hc => absurd hc (by decide)) (fun hc => ?_)
  refine j_aload_n x dX6_isCommand_107 rfl ?_
  refine j_iconst (v := 1) x dX6_isCommand_108 (by decide) ?_
  refine j2_callVi x hb dX6_isCommand_109 m_X6_number (CM_v (cx_number (M := jm (gM1 M n a 109) 94 10 (nI (tna (M 100) n (a + 1) + 1))) (d := d) hb (k := 1) (by decide) hn ((jm_n (by omega)).trans ((gM1_n (by omega) (by omega)).trans h9)) jm_s (tsg_lt g2 (by decide))) (jb_t (by rw [jmt, gM1_t]; exact g3))) wmX6_195 jc_10 rfl rfl rfl (Nat.le_of_ble_eq_true rfl) (j_fit_rm (by omega) (by omega) (by omega)) rfl ?_
  refine j_if_eq (tgt := 136) x dX6_isCommand_112 (by decide) (fun hc => absurd hc (by decide)) (fun hc => ?_)
  refine j_aload_n x dX6_isCommand_115 rfl ?_
  refine j_bipush (v := 58) x dX6_isCommand_116 (by decide) ?_
  refine j2_callVi x hb dX6_isCommand_118 m_X6_isNext (cx_isNext_Y (M := gM2 M n a 109) (d := d) (ch := 58) hb hn ((gM2_n (by omega) (by omega)).trans h9) gM2_p (tna_le (tsg_lt g2 (by decide))) (by decide) (by rw [gM2_t]; exact g4)) wmX6_198 jc_10 rfl rfl rfl (Nat.le_of_ble_eq_true rfl) (j_fit_rm (by omega) (by omega) (by omega)) rfl ?_
  refine j_if_eq (tgt := 136) x dX6_isCommand_121 (by decide) (fun hc => absurd hc (by decide)) (fun hc => ?_)
  refine j_aload_n x dX6_isCommand_124 rfl ?_
  refine j_iconst (v := 2) x dX6_isCommand_125 (by decide) ?_
  refine j2_callVi x hb dX6_isCommand_126 m_X6_number (CM_v (cx_number (M := jm (gM2 M n a 109) 94 10 (nI (tna (M 100) n (tna (M 100) n (a + 1) + 1) + 1))) (d := d) hb (k := 2) (by decide) hn ((jm_n (by omega)).trans ((gM2_n (by omega) (by omega)).trans h9)) jm_s (tsg_lt g4 (by decide))) (jb_f (fun z => z (by rw [jmt, gM2_t]; exact g5)))) wmX6_195 jc_10 rfl rfl rfl (Nat.le_of_ble_eq_true rfl) (j_fit_rm (by omega) (by omega) (by omega)) rfl ?_
  refine j_if_eq (tgt := 136) x dX6_isCommand_129 (by decide) (fun hc => ?_) (fun hc => absurd (rfl) hc)
  refine j_iconst (v := 0) x dX6_isCommand_136 (by decide) ?_
  exact j_zreturn x hr dX6_isCommand_137 (by first | decide | with_reducible exact jb_nar | with_reducible exact jisS_nar | with_reducible exact gno_nar) (by omega) (by omega) ⟨rfl, rfl⟩
theorem cx_isCommand_m6 {d : Nat} {b : SBt} {Y : OUt} {M : MM} (hb : 104 ≤ b.2.1) {a n : Nat} (hn : n ≤ 60) (h9 : M 94 9 = nI n) (hat : M 94 10 = nI a) (hlt : a < n) (hL : tsg (M 100) n a = 109) (g1 : ¬ tnv (M 100) n (a + 1) = -1) (g2 : tsg (M 100) n (tna (M 100) n (a + 1)) = 61) (g3 : ¬ tnv (M 100) n (tna (M 100) n (a + 1) + 1) = -1) (g4 : tsg (M 100) n (tna (M 100) n (tna (M 100) n (a + 1) + 1)) = 58) (g5 : ¬ tnv (M 100) n (tna (M 100) n (tna (M 100) n (a + 1) + 1) + 1) = -1) : CM (d + 2) 0 0 yX6_isCommand cX6_isCommand 1 (some .boolean) [.ref 94] b Y M (.inl (some (.int (1)))) (gM3 M n a 109) := by
  refine Con.of (by decide +kernel) (Nat.le_of_ble_eq_true rfl) rfl fun p l e s m args below meth c D tyc A ad0 x hr htab hname => ?_
  change JJ _ _ _ _ _ _ _ _ _ _ _ _ _ _ _ _ _ 0 [some (.ref 94)] [] _ 0 0
  refine j_aload_n x dX6_isCommand_0 rfl ?_
  refine j2_geti (k := 10) x hb dX6_isCommand_1 jc_10 wfX6_188 (by decide) rfl ?_
  refine j_aload_n x dX6_isCommand_4 rfl ?_
  refine j2_geti (k := 9) x hb dX6_isCommand_5 jc_10 wfX6_185 (by decide) rfl ?_
  refine j_icmp_ne (tgt := 13) x dX6_isCommand_8 (by decide) (fun hc => ?_) (fun hc => absurd hc (by rw [hat, h9]; exact fun q => by have := congrArg Int32.toNatClampNeg q; rw [nI_clamp (by omega), nI_clamp (by omega)] at this; omega))
  refine j_aload_n x dX6_isCommand_13 rfl ?_
  refine j_aload_n x dX6_isCommand_14 rfl ?_
  refine j2_getr (k := 8) (r := 100) x hb dX6_isCommand_15 jc_10 wfX6_25 (by decide) rfl ?_
  refine j_aload_n x dX6_isCommand_18 rfl ?_
  refine j2_geti (k := 10) x hb dX6_isCommand_19 jc_10 wfX6_188 (by decide) rfl ?_
  refine j2_cald x hb dX6_isCommand_22 rfl (n := 60) (v := 109) (by rw [hat]; exact vp_in_nI (by omega) (by decide)) (by rw [hat, nI_clamp (by omega)]; rw [tsg, if_pos hlt] at hL; exact hL) ?_
  refine j2_puti (k := 11) x hb dX6_isCommand_23 jc_10 wfX6_191 (by decide) rfl (by decide) rfl rfl ?_
  refine j_aload_n x dX6_isCommand_26 rfl ?_
  refine j2_geti (k := 11) x hb dX6_isCommand_27 jc_10 wfX6_191 (by decide) rfl ?_; rw [jm_s]
  refine j_lookup (off := 50) (tgt := 80) x dX6_isCommand_30 (by decide) (by decide) (by decide) ?_
  refine j_aload_n x dX6_isCommand_80 rfl ?_
  refine j_dup x dX6_isCommand_81 rfl ?_
  refine j2_geti (k := 10) x hb dX6_isCommand_82 jc_10 wfX6_188 (by decide) rfl ?_
  refine j_iconst (v := 1) x dX6_isCommand_85 (by decide) ?_
  refine j_iadd x dX6_isCommand_86 ?_
  refine j2_puti (k := 10) x hb dX6_isCommand_87 jc_10 wfX6_188 (by decide) rfl rfl rfl rfl ?_; rw [show jm (jm M 94 11 109) 94 10 (jm M 94 11 109 94 10 + 1) = gB M a 109 from by rw [jm_n (by omega), hat, nI_1]; rfl]
  refine j_aload_n x dX6_isCommand_90 rfl ?_
  refine j_iconst (v := 0) x dX6_isCommand_91 (by decide) ?_
  refine j2_callVi x hb dX6_isCommand_92 m_X6_number (CM_v (cx_number (d := d) hb (k := 0) (by decide) hn ((gB_n (by omega)).trans h9) gB_p (show a + 1 ≤ n by omega)) (jb_t (by rw [gB_t]; exact g1))) wmX6_195 jc_10 rfl rfl rfl (Nat.le_of_ble_eq_true rfl) (j_fit_rm (by omega) (by omega) (by omega)) rfl ?_
  refine j_if_eq (tgt := 136) x dX6_isCommand_95 (by decide) (fun hc => absurd hc (by decide)) (fun hc => ?_)
  refine j_aload_n x dX6_isCommand_98 rfl ?_
  refine j_bipush (v := 61) x dX6_isCommand_99 (by decide) ?_
  refine j2_callVi x hb dX6_isCommand_101 m_X6_isNext (cx_isNext_Y (M := gM1 M n a 109) (d := d) (ch := 61) hb hn ((gM1_n (by omega) (by omega)).trans h9) gM1_p (tna_le (show a + 1 ≤ n by omega)) (by decide) (by rw [gM1_t]; exact g2)) wmX6_198 jc_10 rfl rfl rfl (Nat.le_of_ble_eq_true rfl) (j_fit_rm (by omega) (by omega) (by omega)) rfl ?_
  refine j_if_eq (tgt := 136) x dX6_isCommand_104 (by decide) (fun hc => absurd hc (by decide)) (fun hc => ?_)
  refine j_aload_n x dX6_isCommand_107 rfl ?_
  refine j_iconst (v := 1) x dX6_isCommand_108 (by decide) ?_
  refine j2_callVi x hb dX6_isCommand_109 m_X6_number (CM_v (cx_number (M := jm (gM1 M n a 109) 94 10 (nI (tna (M 100) n (a + 1) + 1))) (d := d) hb (k := 1) (by decide) hn ((jm_n (by omega)).trans ((gM1_n (by omega) (by omega)).trans h9)) jm_s (tsg_lt g2 (by decide))) (jb_t (by rw [jmt, gM1_t]; exact g3))) wmX6_195 jc_10 rfl rfl rfl (Nat.le_of_ble_eq_true rfl) (j_fit_rm (by omega) (by omega) (by omega)) rfl ?_
  refine j_if_eq (tgt := 136) x dX6_isCommand_112 (by decide) (fun hc => absurd hc (by decide)) (fun hc => ?_)
  refine j_aload_n x dX6_isCommand_115 rfl ?_
  refine j_bipush (v := 58) x dX6_isCommand_116 (by decide) ?_
  refine j2_callVi x hb dX6_isCommand_118 m_X6_isNext (cx_isNext_Y (M := gM2 M n a 109) (d := d) (ch := 58) hb hn ((gM2_n (by omega) (by omega)).trans h9) gM2_p (tna_le (tsg_lt g2 (by decide))) (by decide) (by rw [gM2_t]; exact g4)) wmX6_198 jc_10 rfl rfl rfl (Nat.le_of_ble_eq_true rfl) (j_fit_rm (by omega) (by omega) (by omega)) rfl ?_
  refine j_if_eq (tgt := 136) x dX6_isCommand_121 (by decide) (fun hc => absurd hc (by decide)) (fun hc => ?_)
  refine j_aload_n x dX6_isCommand_124 rfl ?_
  refine j_iconst (v := 2) x dX6_isCommand_125 (by decide) ?_
  refine j2_callVi x hb dX6_isCommand_126 m_X6_number (CM_v (cx_number (M := jm (gM2 M n a 109) 94 10 (nI (tna (M 100) n (tna (M 100) n (a + 1) + 1) + 1))) (d := d) hb (k := 2) (by decide) hn ((jm_n (by omega)).trans ((gM2_n (by omega) (by omega)).trans h9)) jm_s (tsg_lt g4 (by decide))) (jb_t (by rw [jmt, gM2_t]; exact g5))) wmX6_195 jc_10 rfl rfl rfl (Nat.le_of_ble_eq_true rfl) (j_fit_rm (by omega) (by omega) (by omega)) rfl ?_
  refine j_if_eq (tgt := 136) x dX6_isCommand_129 (by decide) (fun hc => absurd hc (by decide)) (fun hc => ?_)
  refine j_iconst (v := 1) x dX6_isCommand_132 (by decide) ?_
  refine j_goto (tgt := 137) x dX6_isCommand_133 (by decide) ?_
  exact j_zreturn x hr dX6_isCommand_137 (by first | decide | with_reducible exact jb_nar | with_reducible exact jisS_nar | with_reducible exact gno_nar) (by omega) (by omega) ⟨rfl, rfl⟩
theorem cx_isCommand_b1 {d : Nat} {b : SBt} {Y : OUt} {M : MM} (hb : 104 ≤ b.2.1) {a n : Nat} (hn : n ≤ 60) (h9 : M 94 9 = nI n) (hat : M 94 10 = nI a) (hlt : a < n) (hL : tsg (M 100) n a = 98) (g1 : tnv (M 100) n (a + 1) = -1) : CM (d + 2) 0 0 yX6_isCommand cX6_isCommand 1 (some .boolean) [.ref 94] b Y M (.inl (some (.int (0)))) (gM1 M n a 98) := by
  refine Con.of (by decide +kernel) (Nat.le_of_ble_eq_true rfl) rfl fun p l e s m args below meth c D tyc A ad0 x hr htab hname => ?_
  change JJ _ _ _ _ _ _ _ _ _ _ _ _ _ _ _ _ _ 0 [some (.ref 94)] [] _ 0 0
  refine j_aload_n x dX6_isCommand_0 rfl ?_
  refine j2_geti (k := 10) x hb dX6_isCommand_1 jc_10 wfX6_188 (by decide) rfl ?_
  refine j_aload_n x dX6_isCommand_4 rfl ?_
  refine j2_geti (k := 9) x hb dX6_isCommand_5 jc_10 wfX6_185 (by decide) rfl ?_
  refine j_icmp_ne (tgt := 13) x dX6_isCommand_8 (by decide) (fun hc => ?_) (fun hc => absurd hc (by rw [hat, h9]; exact fun q => by have := congrArg Int32.toNatClampNeg q; rw [nI_clamp (by omega), nI_clamp (by omega)] at this; omega))
  refine j_aload_n x dX6_isCommand_13 rfl ?_
  refine j_aload_n x dX6_isCommand_14 rfl ?_
  refine j2_getr (k := 8) (r := 100) x hb dX6_isCommand_15 jc_10 wfX6_25 (by decide) rfl ?_
  refine j_aload_n x dX6_isCommand_18 rfl ?_
  refine j2_geti (k := 10) x hb dX6_isCommand_19 jc_10 wfX6_188 (by decide) rfl ?_
  refine j2_cald x hb dX6_isCommand_22 rfl (n := 60) (v := 98) (by rw [hat]; exact vp_in_nI (by omega) (by decide)) (by rw [hat, nI_clamp (by omega)]; rw [tsg, if_pos hlt] at hL; exact hL) ?_
  refine j2_puti (k := 11) x hb dX6_isCommand_23 jc_10 wfX6_191 (by decide) rfl (by decide) rfl rfl ?_
  refine j_aload_n x dX6_isCommand_26 rfl ?_
  refine j2_geti (k := 11) x hb dX6_isCommand_27 jc_10 wfX6_191 (by decide) rfl ?_; rw [jm_s]
  refine j_lookup (off := 108) (tgt := 138) x dX6_isCommand_30 (by decide) (by decide) (by decide) ?_
  refine j_aload_n x dX6_isCommand_138 rfl ?_
  refine j_dup x dX6_isCommand_139 rfl ?_
  refine j2_geti (k := 10) x hb dX6_isCommand_140 jc_10 wfX6_188 (by decide) rfl ?_
  refine j_iconst (v := 1) x dX6_isCommand_143 (by decide) ?_
  refine j_iadd x dX6_isCommand_144 ?_
  refine j2_puti (k := 10) x hb dX6_isCommand_145 jc_10 wfX6_188 (by decide) rfl rfl rfl rfl ?_; rw [show jm (jm M 94 11 98) 94 10 (jm M 94 11 98 94 10 + 1) = gB M a 98 from by rw [jm_n (by omega), hat, nI_1]; rfl]
  refine j_aload_n x dX6_isCommand_148 rfl ?_
  refine j_iconst (v := 0) x dX6_isCommand_149 (by decide) ?_
  refine j2_callVi x hb dX6_isCommand_150 m_X6_number (CM_v (cx_number (d := d) hb (k := 0) (by decide) hn ((gB_n (by omega)).trans h9) gB_p (show a + 1 ≤ n by omega)) (jb_f (fun z => z (by rw [gB_t]; exact g1)))) wmX6_195 jc_10 rfl rfl rfl (Nat.le_of_ble_eq_true rfl) (j_fit_rm (by omega) (by omega) (by omega)) rfl ?_
  exact j_zreturn x hr dX6_isCommand_153 (by first | decide | with_reducible exact jb_nar | with_reducible exact jisS_nar | with_reducible exact gno_nar) (by omega) (by omega) ⟨rfl, rfl⟩
theorem cx_isCommand_b2 {d : Nat} {b : SBt} {Y : OUt} {M : MM} (hb : 104 ≤ b.2.1) {a n : Nat} (hn : n ≤ 60) (h9 : M 94 9 = nI n) (hat : M 94 10 = nI a) (hlt : a < n) (hL : tsg (M 100) n a = 98) (g1 : ¬ tnv (M 100) n (a + 1) = -1) : CM (d + 2) 0 0 yX6_isCommand cX6_isCommand 1 (some .boolean) [.ref 94] b Y M (.inl (some (.int (1)))) (gM1 M n a 98) := by
  refine Con.of (by decide +kernel) (Nat.le_of_ble_eq_true rfl) rfl fun p l e s m args below meth c D tyc A ad0 x hr htab hname => ?_
  change JJ _ _ _ _ _ _ _ _ _ _ _ _ _ _ _ _ _ 0 [some (.ref 94)] [] _ 0 0
  refine j_aload_n x dX6_isCommand_0 rfl ?_
  refine j2_geti (k := 10) x hb dX6_isCommand_1 jc_10 wfX6_188 (by decide) rfl ?_
  refine j_aload_n x dX6_isCommand_4 rfl ?_
  refine j2_geti (k := 9) x hb dX6_isCommand_5 jc_10 wfX6_185 (by decide) rfl ?_
  refine j_icmp_ne (tgt := 13) x dX6_isCommand_8 (by decide) (fun hc => ?_) (fun hc => absurd hc (by rw [hat, h9]; exact fun q => by have := congrArg Int32.toNatClampNeg q; rw [nI_clamp (by omega), nI_clamp (by omega)] at this; omega))
  refine j_aload_n x dX6_isCommand_13 rfl ?_
  refine j_aload_n x dX6_isCommand_14 rfl ?_
  refine j2_getr (k := 8) (r := 100) x hb dX6_isCommand_15 jc_10 wfX6_25 (by decide) rfl ?_
  refine j_aload_n x dX6_isCommand_18 rfl ?_
  refine j2_geti (k := 10) x hb dX6_isCommand_19 jc_10 wfX6_188 (by decide) rfl ?_
  refine j2_cald x hb dX6_isCommand_22 rfl (n := 60) (v := 98) (by rw [hat]; exact vp_in_nI (by omega) (by decide)) (by rw [hat, nI_clamp (by omega)]; rw [tsg, if_pos hlt] at hL; exact hL) ?_
  refine j2_puti (k := 11) x hb dX6_isCommand_23 jc_10 wfX6_191 (by decide) rfl (by decide) rfl rfl ?_
  refine j_aload_n x dX6_isCommand_26 rfl ?_
  refine j2_geti (k := 11) x hb dX6_isCommand_27 jc_10 wfX6_191 (by decide) rfl ?_; rw [jm_s]
  refine j_lookup (off := 108) (tgt := 138) x dX6_isCommand_30 (by decide) (by decide) (by decide) ?_
  refine j_aload_n x dX6_isCommand_138 rfl ?_
  refine j_dup x dX6_isCommand_139 rfl ?_
  refine j2_geti (k := 10) x hb dX6_isCommand_140 jc_10 wfX6_188 (by decide) rfl ?_
  refine j_iconst (v := 1) x dX6_isCommand_143 (by decide) ?_
  refine j_iadd x dX6_isCommand_144 ?_
  refine j2_puti (k := 10) x hb dX6_isCommand_145 jc_10 wfX6_188 (by decide) rfl rfl rfl rfl ?_; rw [show jm (jm M 94 11 98) 94 10 (jm M 94 11 98 94 10 + 1) = gB M a 98 from by rw [jm_n (by omega), hat, nI_1]; rfl]
  refine j_aload_n x dX6_isCommand_148 rfl ?_
  refine j_iconst (v := 0) x dX6_isCommand_149 (by decide) ?_
  refine j2_callVi x hb dX6_isCommand_150 m_X6_number (CM_v (cx_number (d := d) hb (k := 0) (by decide) hn ((gB_n (by omega)).trans h9) gB_p (show a + 1 ≤ n by omega)) (jb_t (by rw [gB_t]; exact g1))) wmX6_195 jc_10 rfl rfl rfl (Nat.le_of_ble_eq_true rfl) (j_fit_rm (by omega) (by omega) (by omega)) rfl ?_
  exact j_zreturn x hr dX6_isCommand_153 (by first | decide | with_reducible exact jb_nar | with_reducible exact jisS_nar | with_reducible exact gno_nar) (by omega) (by omega) ⟨rfl, rfl⟩
theorem cx_isCommand_o1 {d : Nat} {b : SBt} {Y : OUt} {M : MM} (hb : 104 ≤ b.2.1) {a n : Nat} (hn : n ≤ 60) (h9 : M 94 9 = nI n) (hat : M 94 10 = nI a) (hlt : a < n) (hL : tsg (M 100) n a = 111) (g1 : tnv (M 100) n (a + 1) = -1) : CM (d + 2) 0 0 yX6_isCommand cX6_isCommand 1 (some .boolean) [.ref 94] b Y M (.inl (some (.int (0)))) (gM1 M n a 111) := by
  refine Con.of (by decide +kernel) (Nat.le_of_ble_eq_true rfl) rfl fun p l e s m args below meth c D tyc A ad0 x hr htab hname => ?_
  change JJ _ _ _ _ _ _ _ _ _ _ _ _ _ _ _ _ _ 0 [some (.ref 94)] [] _ 0 0
  refine j_aload_n x dX6_isCommand_0 rfl ?_
  refine j2_geti (k := 10) x hb dX6_isCommand_1 jc_10 wfX6_188 (by decide) rfl ?_
  refine j_aload_n x dX6_isCommand_4 rfl ?_
  refine j2_geti (k := 9) x hb dX6_isCommand_5 jc_10 wfX6_185 (by decide) rfl ?_
  refine j_icmp_ne (tgt := 13) x dX6_isCommand_8 (by decide) (fun hc => ?_) (fun hc => absurd hc (by rw [hat, h9]; exact fun q => by have := congrArg Int32.toNatClampNeg q; rw [nI_clamp (by omega), nI_clamp (by omega)] at this; omega))
  refine j_aload_n x dX6_isCommand_13 rfl ?_
  refine j_aload_n x dX6_isCommand_14 rfl ?_
  refine j2_getr (k := 8) (r := 100) x hb dX6_isCommand_15 jc_10 wfX6_25 (by decide) rfl ?_
  refine j_aload_n x dX6_isCommand_18 rfl ?_
  refine j2_geti (k := 10) x hb dX6_isCommand_19 jc_10 wfX6_188 (by decide) rfl ?_
  refine j2_cald x hb dX6_isCommand_22 rfl (n := 60) (v := 111) (by rw [hat]; exact vp_in_nI (by omega) (by decide)) (by rw [hat, nI_clamp (by omega)]; rw [tsg, if_pos hlt] at hL; exact hL) ?_
  refine j2_puti (k := 11) x hb dX6_isCommand_23 jc_10 wfX6_191 (by decide) rfl (by decide) rfl rfl ?_
  refine j_aload_n x dX6_isCommand_26 rfl ?_
  refine j2_geti (k := 11) x hb dX6_isCommand_27 jc_10 wfX6_191 (by decide) rfl ?_; rw [jm_s]
  refine j_lookup (off := 124) (tgt := 154) x dX6_isCommand_30 (by decide) (by decide) (by decide) ?_
  refine j_aload_n x dX6_isCommand_154 rfl ?_
  refine j_dup x dX6_isCommand_155 rfl ?_
  refine j2_geti (k := 10) x hb dX6_isCommand_156 jc_10 wfX6_188 (by decide) rfl ?_
  refine j_iconst (v := 1) x dX6_isCommand_159 (by decide) ?_
  refine j_iadd x dX6_isCommand_160 ?_
  refine j2_puti (k := 10) x hb dX6_isCommand_161 jc_10 wfX6_188 (by decide) rfl rfl rfl rfl ?_; rw [show jm (jm M 94 11 111) 94 10 (jm M 94 11 111 94 10 + 1) = gB M a 111 from by rw [jm_n (by omega), hat, nI_1]; rfl]
  refine j_aload_n x dX6_isCommand_164 rfl ?_
  refine j_iconst (v := 0) x dX6_isCommand_165 (by decide) ?_
  refine j2_callVi x hb dX6_isCommand_166 m_X6_number (CM_v (cx_number (d := d) hb (k := 0) (by decide) hn ((gB_n (by omega)).trans h9) gB_p (show a + 1 ≤ n by omega)) (jb_f (fun z => z (by rw [gB_t]; exact g1)))) wmX6_195 jc_10 rfl rfl rfl (Nat.le_of_ble_eq_true rfl) (j_fit_rm (by omega) (by omega) (by omega)) rfl ?_
  refine j_if_eq (tgt := 193) x dX6_isCommand_169 (by decide) (fun hc => ?_) (fun hc => absurd (rfl) hc)
  refine j_iconst (v := 0) x dX6_isCommand_193 (by decide) ?_
  exact j_zreturn x hr dX6_isCommand_194 (by first | decide | with_reducible exact jb_nar | with_reducible exact jisS_nar | with_reducible exact gno_nar) (by omega) (by omega) ⟨rfl, rfl⟩
theorem cx_isCommand_o2 {d : Nat} {b : SBt} {Y : OUt} {M : MM} (hb : 104 ≤ b.2.1) {a n : Nat} (hn : n ≤ 60) (h9 : M 94 9 = nI n) (hat : M 94 10 = nI a) (hlt : a < n) (hL : tsg (M 100) n a = 111) (g1 : ¬ tnv (M 100) n (a + 1) = -1) (g2 : ¬ tsg (M 100) n (tna (M 100) n (a + 1)) = 43) : CM (d + 2) 0 0 yX6_isCommand cX6_isCommand 1 (some .boolean) [.ref 94] b Y M (.inl (some (.int (0)))) (gM1 M n a 111) := by
  refine Con.of (by decide +kernel) (Nat.le_of_ble_eq_true rfl) rfl fun p l e s m args below meth c D tyc A ad0 x hr htab hname => ?_
  change JJ _ _ _ _ _ _ _ _ _ _ _ _ _ _ _ _ _ 0 [some (.ref 94)] [] _ 0 0
  refine j_aload_n x dX6_isCommand_0 rfl ?_
  refine j2_geti (k := 10) x hb dX6_isCommand_1 jc_10 wfX6_188 (by decide) rfl ?_
  refine j_aload_n x dX6_isCommand_4 rfl ?_
  refine j2_geti (k := 9) x hb dX6_isCommand_5 jc_10 wfX6_185 (by decide) rfl ?_
  refine j_icmp_ne (tgt := 13) x dX6_isCommand_8 (by decide) (fun hc => ?_) (fun hc => absurd hc (by rw [hat, h9]; exact fun q => by have := congrArg Int32.toNatClampNeg q; rw [nI_clamp (by omega), nI_clamp (by omega)] at this; omega))
  refine j_aload_n x dX6_isCommand_13 rfl ?_
  refine j_aload_n x dX6_isCommand_14 rfl ?_
  refine j2_getr (k := 8) (r := 100) x hb dX6_isCommand_15 jc_10 wfX6_25 (by decide) rfl ?_
  refine j_aload_n x dX6_isCommand_18 rfl ?_
  refine j2_geti (k := 10) x hb dX6_isCommand_19 jc_10 wfX6_188 (by decide) rfl ?_
  refine j2_cald x hb dX6_isCommand_22 rfl (n := 60) (v := 111) (by rw [hat]; exact vp_in_nI (by omega) (by decide)) (by rw [hat, nI_clamp (by omega)]; rw [tsg, if_pos hlt] at hL; exact hL) ?_
  refine j2_puti (k := 11) x hb dX6_isCommand_23 jc_10 wfX6_191 (by decide) rfl (by decide) rfl rfl ?_
  refine j_aload_n x dX6_isCommand_26 rfl ?_
  refine j2_geti (k := 11) x hb dX6_isCommand_27 jc_10 wfX6_191 (by decide) rfl ?_; rw [jm_s]
  refine j_lookup (off := 124) (tgt := 154) x dX6_isCommand_30 (by decide) (by decide) (by decide) ?_
  refine j_aload_n x dX6_isCommand_154 rfl ?_
  refine j_dup x dX6_isCommand_155 rfl ?_
  refine j2_geti (k := 10) x hb dX6_isCommand_156 jc_10 wfX6_188 (by decide) rfl ?_
  refine j_iconst (v := 1) x dX6_isCommand_159 (by decide) ?_
  refine j_iadd x dX6_isCommand_160 ?_
  refine j2_puti (k := 10) x hb dX6_isCommand_161 jc_10 wfX6_188 (by decide) rfl rfl rfl rfl ?_; rw [show jm (jm M 94 11 111) 94 10 (jm M 94 11 111 94 10 + 1) = gB M a 111 from by rw [jm_n (by omega), hat, nI_1]; rfl]
  refine j_aload_n x dX6_isCommand_164 rfl ?_
  refine j_iconst (v := 0) x dX6_isCommand_165 (by decide) ?_
  refine j2_callVi x hb dX6_isCommand_166 m_X6_number (CM_v (cx_number (d := d) hb (k := 0) (by decide) hn ((gB_n (by omega)).trans h9) gB_p (show a + 1 ≤ n by omega)) (jb_t (by rw [gB_t]; exact g1))) wmX6_195 jc_10 rfl rfl rfl (Nat.le_of_ble_eq_true rfl) (j_fit_rm (by omega) (by omega) (by omega)) rfl ?_
  refine j_if_eq (tgt := 193) x dX6_isCommand_169 (by decide) (fun hc => absurd hc (by decide)) (fun hc => ?_)
  refine j_aload_n x dX6_isCommand_172 rfl ?_
  refine j_bipush (v := 43) x dX6_isCommand_173 (by decide) ?_
  refine j2_callVi x hb dX6_isCommand_175 m_X6_isNext (cx_isNext_N (M := gM1 M n a 111) (d := d) (ch := 43) hb hn ((gM1_n (by omega) (by omega)).trans h9) gM1_p (tna_le (show a + 1 ≤ n by omega)) (by rw [gM1_t]; exact g2)) wmX6_198 jc_10 rfl rfl rfl (Nat.le_of_ble_eq_true rfl) (j_fit_rm (by omega) (by omega) (by omega)) rfl ?_
  refine j_if_eq (tgt := 193) x dX6_isCommand_178 (by decide) (fun hc => ?_) (fun hc => absurd (rfl) hc)
  refine j_iconst (v := 0) x dX6_isCommand_193 (by decide) ?_
  exact j_zreturn x hr dX6_isCommand_194 (by first | decide | with_reducible exact jb_nar | with_reducible exact jisS_nar | with_reducible exact gno_nar) (by omega) (by omega) ⟨rfl, rfl⟩
theorem cx_isCommand_o3 {d : Nat} {b : SBt} {Y : OUt} {M : MM} (hb : 104 ≤ b.2.1) {a n : Nat} (hn : n ≤ 60) (h9 : M 94 9 = nI n) (hat : M 94 10 = nI a) (hlt : a < n) (hL : tsg (M 100) n a = 111) (g1 : ¬ tnv (M 100) n (a + 1) = -1) (g2 : tsg (M 100) n (tna (M 100) n (a + 1)) = 43) (g3 : tnv (M 100) n (tna (M 100) n (a + 1) + 1) = -1) : CM (d + 2) 0 0 yX6_isCommand cX6_isCommand 1 (some .boolean) [.ref 94] b Y M (.inl (some (.int (0)))) (gM2 M n a 111) := by
  refine Con.of (by decide +kernel) (Nat.le_of_ble_eq_true rfl) rfl fun p l e s m args below meth c D tyc A ad0 x hr htab hname => ?_
  change JJ _ _ _ _ _ _ _ _ _ _ _ _ _ _ _ _ _ 0 [some (.ref 94)] [] _ 0 0
  refine j_aload_n x dX6_isCommand_0 rfl ?_
  refine j2_geti (k := 10) x hb dX6_isCommand_1 jc_10 wfX6_188 (by decide) rfl ?_
  refine j_aload_n x dX6_isCommand_4 rfl ?_
  refine j2_geti (k := 9) x hb dX6_isCommand_5 jc_10 wfX6_185 (by decide) rfl ?_
  refine j_icmp_ne (tgt := 13) x dX6_isCommand_8 (by decide) (fun hc => ?_) (fun hc => absurd hc (by rw [hat, h9]; exact fun q => by have := congrArg Int32.toNatClampNeg q; rw [nI_clamp (by omega), nI_clamp (by omega)] at this; omega))
  refine j_aload_n x dX6_isCommand_13 rfl ?_
  refine j_aload_n x dX6_isCommand_14 rfl ?_
  refine j2_getr (k := 8) (r := 100) x hb dX6_isCommand_15 jc_10 wfX6_25 (by decide) rfl ?_
  refine j_aload_n x dX6_isCommand_18 rfl ?_
  refine j2_geti (k := 10) x hb dX6_isCommand_19 jc_10 wfX6_188 (by decide) rfl ?_
  refine j2_cald x hb dX6_isCommand_22 rfl (n := 60) (v := 111) (by rw [hat]; exact vp_in_nI (by omega) (by decide)) (by rw [hat, nI_clamp (by omega)]; rw [tsg, if_pos hlt] at hL; exact hL) ?_
  refine j2_puti (k := 11) x hb dX6_isCommand_23 jc_10 wfX6_191 (by decide) rfl (by decide) rfl rfl ?_
  refine j_aload_n x dX6_isCommand_26 rfl ?_
  refine j2_geti (k := 11) x hb dX6_isCommand_27 jc_10 wfX6_191 (by decide) rfl ?_; rw [jm_s]
  refine j_lookup (off := 124) (tgt := 154) x dX6_isCommand_30 (by decide) (by decide) (by decide) ?_
  refine j_aload_n x dX6_isCommand_154 rfl ?_
  refine j_dup x dX6_isCommand_155 rfl ?_
  refine j2_geti (k := 10) x hb dX6_isCommand_156 jc_10 wfX6_188 (by decide) rfl ?_
  refine j_iconst (v := 1) x dX6_isCommand_159 (by decide) ?_
  refine j_iadd x dX6_isCommand_160 ?_
  refine j2_puti (k := 10) x hb dX6_isCommand_161 jc_10 wfX6_188 (by decide) rfl rfl rfl rfl ?_; rw [show jm (jm M 94 11 111) 94 10 (jm M 94 11 111 94 10 + 1) = gB M a 111 from by rw [jm_n (by omega), hat, nI_1]; rfl]
  refine j_aload_n x dX6_isCommand_164 rfl ?_
  refine j_iconst (v := 0) x dX6_isCommand_165 (by decide) ?_
  refine j2_callVi x hb dX6_isCommand_166 m_X6_number (CM_v (cx_number (d := d) hb (k := 0) (by decide) hn ((gB_n (by omega)).trans h9) gB_p (show a + 1 ≤ n by omega)) (jb_t (by rw [gB_t]; exact g1))) wmX6_195 jc_10 rfl rfl rfl (Nat.le_of_ble_eq_true rfl) (j_fit_rm (by omega) (by omega) (by omega)) rfl ?_
  refine j_if_eq (tgt := 193) x dX6_isCommand_169 (by decide) (fun hc => absurd hc (by decide)) (fun hc => ?_)
  refine j_aload_n x dX6_isCommand_172 rfl ?_
  refine j_bipush (v := 43) x dX6_isCommand_173 (by decide) ?_
  refine j2_callVi x hb dX6_isCommand_175 m_X6_isNext (cx_isNext_Y (M := gM1 M n a 111) (d := d) (ch := 43) hb hn ((gM1_n (by omega) (by omega)).trans h9) gM1_p (tna_le (show a + 1 ≤ n by omega)) (by decide) (by rw [gM1_t]; exact g2)) wmX6_198 jc_10 rfl rfl rfl (Nat.le_of_ble_eq_true rfl) (j_fit_rm (by omega) (by omega) (by omega)) rfl ?_
  refine j_if_eq (tgt := 193) x dX6_isCommand_178 (by decide) (fun hc => absurd hc (by decide)) (fun hc => ?_)
  refine j_aload_n x dX6_isCommand_181 rfl ?_
  refine j_iconst (v := 1) x dX6_isCommand_182 (by decide) ?_
  refine j2_callVi x hb dX6_isCommand_183 m_X6_number (CM_v (cx_number (M := jm (gM1 M n a 111) 94 10 (nI (tna (M 100) n (a + 1) + 1))) (d := d) hb (k := 1) (by decide) hn ((jm_n (by omega)).trans ((gM1_n (by omega) (by omega)).trans h9)) jm_s (tsg_lt g2 (by decide))) (jb_f (fun z => z (by rw [jmt, gM1_t]; exact g3)))) wmX6_195 jc_10 rfl rfl rfl (Nat.le_of_ble_eq_true rfl) (j_fit_rm (by omega) (by omega) (by omega)) rfl ?_
  refine j_if_eq (tgt := 193) x dX6_isCommand_186 (by decide) (fun hc => ?_) (fun hc => absurd (rfl) hc)
  refine j_iconst (v := 0) x dX6_isCommand_193 (by decide) ?_
  exact j_zreturn x hr dX6_isCommand_194 (by first | decide | with_reducible exact jb_nar | with_reducible exact jisS_nar | with_reducible exact gno_nar) (by omega) (by omega) ⟨rfl, rfl⟩
theorem cx_isCommand_o4 {d : Nat} {b : SBt} {Y : OUt} {M : MM} (hb : 104 ≤ b.2.1) {a n : Nat} (hn : n ≤ 60) (h9 : M 94 9 = nI n) (hat : M 94 10 = nI a) (hlt : a < n) (hL : tsg (M 100) n a = 111) (g1 : ¬ tnv (M 100) n (a + 1) = -1) (g2 : tsg (M 100) n (tna (M 100) n (a + 1)) = 43) (g3 : ¬ tnv (M 100) n (tna (M 100) n (a + 1) + 1) = -1) : CM (d + 2) 0 0 yX6_isCommand cX6_isCommand 1 (some .boolean) [.ref 94] b Y M (.inl (some (.int (1)))) (gM2 M n a 111) := by
  refine Con.of (by decide +kernel) (Nat.le_of_ble_eq_true rfl) rfl fun p l e s m args below meth c D tyc A ad0 x hr htab hname => ?_
  change JJ _ _ _ _ _ _ _ _ _ _ _ _ _ _ _ _ _ 0 [some (.ref 94)] [] _ 0 0
  refine j_aload_n x dX6_isCommand_0 rfl ?_
  refine j2_geti (k := 10) x hb dX6_isCommand_1 jc_10 wfX6_188 (by decide) rfl ?_
  refine j_aload_n x dX6_isCommand_4 rfl ?_
  refine j2_geti (k := 9) x hb dX6_isCommand_5 jc_10 wfX6_185 (by decide) rfl ?_
  refine j_icmp_ne (tgt := 13) x dX6_isCommand_8 (by decide) (fun hc => ?_) (fun hc => absurd hc (by rw [hat, h9]; exact fun q => by have := congrArg Int32.toNatClampNeg q; rw [nI_clamp (by omega), nI_clamp (by omega)] at this; omega))
  refine j_aload_n x dX6_isCommand_13 rfl ?_
  refine j_aload_n x dX6_isCommand_14 rfl ?_
  refine j2_getr (k := 8) (r := 100) x hb dX6_isCommand_15 jc_10 wfX6_25 (by decide) rfl ?_
  refine j_aload_n x dX6_isCommand_18 rfl ?_
  refine j2_geti (k := 10) x hb dX6_isCommand_19 jc_10 wfX6_188 (by decide) rfl ?_
  refine j2_cald x hb dX6_isCommand_22 rfl (n := 60) (v := 111) (by rw [hat]; exact vp_in_nI (by omega) (by decide)) (by rw [hat, nI_clamp (by omega)]; rw [tsg, if_pos hlt] at hL; exact hL) ?_
  refine j2_puti (k := 11) x hb dX6_isCommand_23 jc_10 wfX6_191 (by decide) rfl (by decide) rfl rfl ?_
  refine j_aload_n x dX6_isCommand_26 rfl ?_
  refine j2_geti (k := 11) x hb dX6_isCommand_27 jc_10 wfX6_191 (by decide) rfl ?_; rw [jm_s]
  refine j_lookup (off := 124) (tgt := 154) x dX6_isCommand_30 (by decide) (by decide) (by decide) ?_
  refine j_aload_n x dX6_isCommand_154 rfl ?_
  refine j_dup x dX6_isCommand_155 rfl ?_
  refine j2_geti (k := 10) x hb dX6_isCommand_156 jc_10 wfX6_188 (by decide) rfl ?_
  refine j_iconst (v := 1) x dX6_isCommand_159 (by decide) ?_
  refine j_iadd x dX6_isCommand_160 ?_
  refine j2_puti (k := 10) x hb dX6_isCommand_161 jc_10 wfX6_188 (by decide) rfl rfl rfl rfl ?_; rw [show jm (jm M 94 11 111) 94 10 (jm M 94 11 111 94 10 + 1) = gB M a 111 from by rw [jm_n (by omega), hat, nI_1]; rfl]
  refine j_aload_n x dX6_isCommand_164 rfl ?_
  refine j_iconst (v := 0) x dX6_isCommand_165 (by decide) ?_
  refine j2_callVi x hb dX6_isCommand_166 m_X6_number (CM_v (cx_number (d := d) hb (k := 0) (by decide) hn ((gB_n (by omega)).trans h9) gB_p (show a + 1 ≤ n by omega)) (jb_t (by rw [gB_t]; exact g1))) wmX6_195 jc_10 rfl rfl rfl (Nat.le_of_ble_eq_true rfl) (j_fit_rm (by omega) (by omega) (by omega)) rfl ?_
  refine j_if_eq (tgt := 193) x dX6_isCommand_169 (by decide) (fun hc => absurd hc (by decide)) (fun hc => ?_)
  refine j_aload_n x dX6_isCommand_172 rfl ?_
  refine j_bipush (v := 43) x dX6_isCommand_173 (by decide) ?_
  refine j2_callVi x hb dX6_isCommand_175 m_X6_isNext (cx_isNext_Y (M := gM1 M n a 111) (d := d) (ch := 43) hb hn ((gM1_n (by omega) (by omega)).trans h9) gM1_p (tna_le (show a + 1 ≤ n by omega)) (by decide) (by rw [gM1_t]; exact g2)) wmX6_198 jc_10 rfl rfl rfl (Nat.le_of_ble_eq_true rfl) (j_fit_rm (by omega) (by omega) (by omega)) rfl ?_
  refine j_if_eq (tgt := 193) x dX6_isCommand_178 (by decide) (fun hc => absurd hc (by decide)) (fun hc => ?_)
  refine j_aload_n x dX6_isCommand_181 rfl ?_
  refine j_iconst (v := 1) x dX6_isCommand_182 (by decide) ?_
  refine j2_callVi x hb dX6_isCommand_183 m_X6_number (CM_v (cx_number (M := jm (gM1 M n a 111) 94 10 (nI (tna (M 100) n (a + 1) + 1))) (d := d) hb (k := 1) (by decide) hn ((jm_n (by omega)).trans ((gM1_n (by omega) (by omega)).trans h9)) jm_s (tsg_lt g2 (by decide))) (jb_t (by rw [jmt, gM1_t]; exact g3))) wmX6_195 jc_10 rfl rfl rfl (Nat.le_of_ble_eq_true rfl) (j_fit_rm (by omega) (by omega) (by omega)) rfl ?_
  refine j_if_eq (tgt := 193) x dX6_isCommand_186 (by decide) (fun hc => absurd hc (by decide)) (fun hc => ?_)
  refine j_iconst (v := 1) x dX6_isCommand_189 (by decide) ?_
  refine j_goto (tgt := 194) x dX6_isCommand_190 (by decide) ?_
  exact j_zreturn x hr dX6_isCommand_194 (by first | decide | with_reducible exact jb_nar | with_reducible exact jisS_nar | with_reducible exact gno_nar) (by omega) (by omega) ⟨rfl, rfl⟩
theorem cx_isCommand_n {d : Nat} {b : SBt} {Y : OUt} {M : MM} (hb : 104 ≤ b.2.1) {a n : Nat} (hn : n ≤ 60) (h9 : M 94 9 = nI n) (hat : M 94 10 = nI a) (hlt : a < n) (hL : tsg (M 100) n a = 110) : CM (d + 2) 0 0 yX6_isCommand cX6_isCommand 1 (some .boolean) [.ref 94] b Y M (.inl (some (.int (1)))) (gB M a 110) := by
  refine Con.of (by decide +kernel) (Nat.le_of_ble_eq_true rfl) rfl fun p l e s m args below meth c D tyc A ad0 x hr htab hname => ?_
  change JJ _ _ _ _ _ _ _ _ _ _ _ _ _ _ _ _ _ 0 [some (.ref 94)] [] _ 0 0
  refine j_aload_n x dX6_isCommand_0 rfl ?_
  refine j2_geti (k := 10) x hb dX6_isCommand_1 jc_10 wfX6_188 (by decide) rfl ?_
  refine j_aload_n x dX6_isCommand_4 rfl ?_
  refine j2_geti (k := 9) x hb dX6_isCommand_5 jc_10 wfX6_185 (by decide) rfl ?_
  refine j_icmp_ne (tgt := 13) x dX6_isCommand_8 (by decide) (fun hc => ?_) (fun hc => absurd hc (by rw [hat, h9]; exact fun q => by have := congrArg Int32.toNatClampNeg q; rw [nI_clamp (by omega), nI_clamp (by omega)] at this; omega))
  refine j_aload_n x dX6_isCommand_13 rfl ?_
  refine j_aload_n x dX6_isCommand_14 rfl ?_
  refine j2_getr (k := 8) (r := 100) x hb dX6_isCommand_15 jc_10 wfX6_25 (by decide) rfl ?_
  refine j_aload_n x dX6_isCommand_18 rfl ?_
  refine j2_geti (k := 10) x hb dX6_isCommand_19 jc_10 wfX6_188 (by decide) rfl ?_
  refine j2_cald x hb dX6_isCommand_22 rfl (n := 60) (v := 110) (by rw [hat]; exact vp_in_nI (by omega) (by decide)) (by rw [hat, nI_clamp (by omega)]; rw [tsg, if_pos hlt] at hL; exact hL) ?_
  refine j2_puti (k := 11) x hb dX6_isCommand_23 jc_10 wfX6_191 (by decide) rfl (by decide) rfl rfl ?_
  refine j_aload_n x dX6_isCommand_26 rfl ?_
  refine j2_geti (k := 11) x hb dX6_isCommand_27 jc_10 wfX6_191 (by decide) rfl ?_; rw [jm_s]
  refine j_lookup (off := 165) (tgt := 195) x dX6_isCommand_30 (by decide) (by decide) (by decide) ?_
  refine j_aload_n x dX6_isCommand_195 rfl ?_
  refine j_dup x dX6_isCommand_196 rfl ?_
  refine j2_geti (k := 10) x hb dX6_isCommand_197 jc_10 wfX6_188 (by decide) rfl ?_
  refine j_iconst (v := 1) x dX6_isCommand_200 (by decide) ?_
  refine j_iadd x dX6_isCommand_201 ?_
  refine j2_puti (k := 10) x hb dX6_isCommand_202 jc_10 wfX6_188 (by decide) rfl rfl rfl rfl ?_; rw [show jm (jm M 94 11 110) 94 10 (jm M 94 11 110 94 10 + 1) = gB M a 110 from by rw [jm_n (by omega), hat, nI_1]; rfl]
  refine j_iconst (v := 1) x dX6_isCommand_205 (by decide) ?_
  exact j_zreturn x hr dX6_isCommand_206 (by first | decide | with_reducible exact jb_nar | with_reducible exact jisS_nar | with_reducible exact gno_nar) (by omega) (by omega) ⟨rfl, rfl⟩
theorem cx_isCommand_t {d : Nat} {b : SBt} {Y : OUt} {M : MM} (hb : 104 ≤ b.2.1) {a n : Nat} (hn : n ≤ 60) (h9 : M 94 9 = nI n) (hat : M 94 10 = nI a) (hlt : a < n) (hL : tsg (M 100) n a = 116) : CM (d + 2) 0 0 yX6_isCommand cX6_isCommand 1 (some .boolean) [.ref 94] b Y M (.inl (some (.int (1)))) (gD3 (gB M a 116) n (a + 1)) := by
  refine Con.of (by decide +kernel) (Nat.le_of_ble_eq_true rfl) rfl fun p l e s m args below meth c D tyc A ad0 x hr htab hname => ?_
  change JJ _ _ _ _ _ _ _ _ _ _ _ _ _ _ _ _ _ 0 [some (.ref 94)] [] _ 0 0
  refine j_aload_n x dX6_isCommand_0 rfl ?_
  refine j2_geti (k := 10) x hb dX6_isCommand_1 jc_10 wfX6_188 (by decide) rfl ?_
  refine j_aload_n x dX6_isCommand_4 rfl ?_
  refine j2_geti (k := 9) x hb dX6_isCommand_5 jc_10 wfX6_185 (by decide) rfl ?_
  refine j_icmp_ne (tgt := 13) x dX6_isCommand_8 (by decide) (fun hc => ?_) (fun hc => absurd hc (by rw [hat, h9]; exact fun q => by have := congrArg Int32.toNatClampNeg q; rw [nI_clamp (by omega), nI_clamp (by omega)] at this; omega))
  refine j_aload_n x dX6_isCommand_13 rfl ?_
  refine j_aload_n x dX6_isCommand_14 rfl ?_
  refine j2_getr (k := 8) (r := 100) x hb dX6_isCommand_15 jc_10 wfX6_25 (by decide) rfl ?_
  refine j_aload_n x dX6_isCommand_18 rfl ?_
  refine j2_geti (k := 10) x hb dX6_isCommand_19 jc_10 wfX6_188 (by decide) rfl ?_
  refine j2_cald x hb dX6_isCommand_22 rfl (n := 60) (v := 116) (by rw [hat]; exact vp_in_nI (by omega) (by decide)) (by rw [hat, nI_clamp (by omega)]; rw [tsg, if_pos hlt] at hL; exact hL) ?_
  refine j2_puti (k := 11) x hb dX6_isCommand_23 jc_10 wfX6_191 (by decide) rfl (by decide) rfl rfl ?_
  refine j_aload_n x dX6_isCommand_26 rfl ?_
  refine j2_geti (k := 11) x hb dX6_isCommand_27 jc_10 wfX6_191 (by decide) rfl ?_; rw [jm_s]
  refine j_lookup (off := 177) (tgt := 207) x dX6_isCommand_30 (by decide) (by decide) (by decide) ?_
  refine j_aload_n x dX6_isCommand_207 rfl ?_
  refine j_dup x dX6_isCommand_208 rfl ?_
  refine j2_geti (k := 10) x hb dX6_isCommand_209 jc_10 wfX6_188 (by decide) rfl ?_
  refine j_iconst (v := 1) x dX6_isCommand_212 (by decide) ?_
  refine j_iadd x dX6_isCommand_213 ?_
  refine j2_puti (k := 10) x hb dX6_isCommand_214 jc_10 wfX6_188 (by decide) rfl rfl rfl rfl ?_; rw [show jm (jm M 94 11 116) 94 10 (jm M 94 11 116 94 10 + 1) = gB M a 116 from by rw [jm_n (by omega), hat, nI_1]; rfl]
  refine j_aload_n x dX6_isCommand_217 rfl ?_
  refine j2_callVi x hb dX6_isCommand_218 m_X6_digits (CM_st (cx_digits (d := d) hb hn ((gB_n (by omega)).trans h9) gB_p (show a + 1 ≤ n by omega)) (gDs_3 gB_p)) wmX6_202 jc_10 rfl rfl rfl (Nat.le_of_ble_eq_true rfl) (j_fit_rm (by omega) (by omega) (by omega)) rfl ?_
  exact j_zreturn x hr dX6_isCommand_221 (by first | decide | with_reducible exact jb_nar | with_reducible exact jisS_nar | with_reducible exact gno_nar) (by omega) (by omega) ⟨rfl, rfl⟩
theorem cx_isCommand_no {d : Nat} {b : SBt} {Y : OUt} {M : MM} (hb : 104 ≤ b.2.1) {a n : Nat} (hn : n ≤ 60) (h9 : M 94 9 = nI n) (hat : M 94 10 = nI a) (hlt : a < n) (h1 : ¬ tsg (M 100) n a = 109) (h2 : ¬ tsg (M 100) n a = 98) (h3 : ¬ tsg (M 100) n a = 111) (h4 : ¬ tsg (M 100) n a = 110) (h5 : ¬ tsg (M 100) n a = 116) (hch : ∃ q, q < 65536 ∧ tsg (M 100) n a = nI q) : CM (d + 2) 0 0 yX6_isCommand cX6_isCommand 1 (some .boolean) [.ref 94] b Y M (.inl (some (.int (0)))) (jm M 94 11 (tsg (M 100) n a)) := by
  refine Con.of (by decide +kernel) (Nat.le_of_ble_eq_true rfl) rfl fun p l e s m args below meth c D tyc A ad0 x hr htab hname => ?_
  change JJ _ _ _ _ _ _ _ _ _ _ _ _ _ _ _ _ _ 0 [some (.ref 94)] [] _ 0 0
  refine j_aload_n x dX6_isCommand_0 rfl ?_
  refine j2_geti (k := 10) x hb dX6_isCommand_1 jc_10 wfX6_188 (by decide) rfl ?_
  refine j_aload_n x dX6_isCommand_4 rfl ?_
  refine j2_geti (k := 9) x hb dX6_isCommand_5 jc_10 wfX6_185 (by decide) rfl ?_
  refine j_icmp_ne (tgt := 13) x dX6_isCommand_8 (by decide) (fun hc => ?_) (fun hc => absurd hc (by rw [hat, h9]; exact fun q => by have := congrArg Int32.toNatClampNeg q; rw [nI_clamp (by omega), nI_clamp (by omega)] at this; omega))
  refine j_aload_n x dX6_isCommand_13 rfl ?_
  refine j_aload_n x dX6_isCommand_14 rfl ?_
  refine j2_getr (k := 8) (r := 100) x hb dX6_isCommand_15 jc_10 wfX6_25 (by decide) rfl ?_
  refine j_aload_n x dX6_isCommand_18 rfl ?_
  refine j2_geti (k := 10) x hb dX6_isCommand_19 jc_10 wfX6_188 (by decide) rfl ?_
  refine j2_cald x hb dX6_isCommand_22 rfl (n := 60) (v := tsg (M 100) n a) (by rw [hat]; exact vp_in_nI (by omega) (by decide)) (by rw [hat, nI_clamp (by omega), tsg, if_pos hlt]) ?_
  refine j2_puti (k := 11) x hb dX6_isCommand_23 jc_10 wfX6_191 (by decide) rfl (by obtain ⟨q, k1, k2⟩ := hch; rw [k2]; exact (pk_charN k1).1) (by obtain ⟨q, k1, k2⟩ := hch; rw [k2]; exact (pk_charN k1).2) rfl ?_
  refine j_aload_n x dX6_isCommand_26 rfl ?_
  refine j2_geti (k := 11) x hb dX6_isCommand_27 jc_10 wfX6_191 (by decide) rfl ?_; rw [jm_s]
  refine j_lookup (off := 192) (tgt := 222) x dX6_isCommand_30 (by decide) ((lv_osw h2 (by decide)).trans ((lv_osw h1 (by decide)).trans ((lv_osw h4 (by decide)).trans ((lv_osw h3 (by decide)).trans ((lv_osw h5 (by decide)).trans (Op.lookupswitch.offset_nil _ _)))))) (by decide) ?_
  refine j_iconst (v := 0) x dX6_isCommand_222 (by decide) ?_
  exact j_zreturn x hr dX6_isCommand_223 (by first | decide | with_reducible exact jb_nar | with_reducible exact jisS_nar | with_reducible exact gno_nar) (by omega) (by omega) ⟨rfl, rfl⟩
theorem cx_isCommand_end {d : Nat} {b : SBt} {Y : OUt} {M : MM} (hb : 104 ≤ b.2.1) {n : Nat} (hn : n ≤ 60) (h9 : M 94 9 = nI n) (hat : M 94 10 = nI n) : CM (d + 2) 0 0 yX6_isCommand cX6_isCommand 1 (some .boolean) [.ref 94] b Y M (.inl (some (.int (0)))) (M) := by
  refine Con.of (by decide +kernel) (Nat.le_of_ble_eq_true rfl) rfl fun p l e s m args below meth c D tyc A ad0 x hr htab hname => ?_
  change JJ _ _ _ _ _ _ _ _ _ _ _ _ _ _ _ _ _ 0 [some (.ref 94)] [] _ 0 0
  refine j_aload_n x dX6_isCommand_0 rfl ?_
  refine j2_geti (k := 10) x hb dX6_isCommand_1 jc_10 wfX6_188 (by decide) rfl ?_
  refine j_aload_n x dX6_isCommand_4 rfl ?_
  refine j2_geti (k := 9) x hb dX6_isCommand_5 jc_10 wfX6_185 (by decide) rfl ?_
  refine j_icmp_ne (tgt := 13) x dX6_isCommand_8 (by decide) (fun hc => absurd hc (fun q => q (by rw [hat, h9]))) (fun hc => ?_)
  refine j_iconst (v := 0) x dX6_isCommand_11 (by decide) ?_
  exact j_zreturn x hr dX6_isCommand_12 (by first | decide | with_reducible exact jb_nar | with_reducible exact jisS_nar | with_reducible exact gno_nar) (by omega) (by omega) ⟨rfl, rfl⟩
theorem gM1_like {M : MM} {n a : Nat} {u : Int32} : gLike M (gM1 M n a u) := fun i k h1 h2 => gM1_n h1 h2
theorem gM2_like {M : MM} {n a : Nat} {u : Int32} : gLike M (gM2 M n a u) := fun i k h1 h2 => gM2_n h1 h2
theorem gM3_like {M : MM} {n a : Nat} {u : Int32} : gLike M (gM3 M n a u) := fun i k h1 h2 => gM3_n h1 h2
theorem cx_cmd_no {d : Nat} {b : SBt} {Y : OUt} {M : MM} (hb : 104 ≤ b.2.1) {a n : Nat} (hn : n ≤ 60) (h9 : M 94 9 = nI n) (hat : M 94 10 = nI a) (ha : a ≤ n) (hch : ∀ i, i < n → ∃ q, q < 65536 ∧ M 100 i = nI q) {q : Nat} (hF : pF (M 100) n a = some q) : ∃ N, gLike M N ∧ N 94 10 = nI q ∧ CM (d + 2) 0 0 yX6_isCommand cX6_isCommand 1 (some .boolean) [.ref 94] b Y M (.inl (some (.int 0))) N := by
  rcases Nat.lt_or_eq_of_le ha with hlt | heq
  · unfold pF at hF
    by_cases h1 : tsg (M 100) n a = 109
    · rw [if_pos h1, rFm] at hF
      by_cases g1 : tnv (M 100) n (a + 1) = -1
      · rw [if_pos g1] at hF; cases hF
        exact ⟨_, gM1_like, gM1_p, cx_isCommand_m1 hb hn h9 hat hlt h1 g1⟩
      · rw [if_neg g1] at hF
        by_cases g2 : tsg (M 100) n (tna (M 100) n (a + 1)) = 61
        · rw [if_neg (fun z => z g2)] at hF
          by_cases g3 : tnv (M 100) n (tna (M 100) n (a + 1) + 1) = -1
          · rw [if_pos g3] at hF; cases hF
            exact ⟨_, gM2_like, gM2_p, cx_isCommand_m3 hb hn h9 hat hlt h1 g1 g2 g3⟩
          · rw [if_neg g3] at hF
            by_cases g4 : tsg (M 100) n (tna (M 100) n (tna (M 100) n (a + 1) + 1)) = 58
            · rw [if_neg (fun z => z g4)] at hF
              by_cases g5 : tnv (M 100) n (tna (M 100) n (tna (M 100) n (a + 1) + 1) + 1) = -1
              · rw [if_pos g5] at hF; cases hF
                exact ⟨_, gM3_like, gM3_p, cx_isCommand_m5 hb hn h9 hat hlt h1 g1 g2 g3 g4 g5⟩
              · rw [if_neg g5] at hF; cases hF
            · rw [if_pos g4] at hF; cases hF
              exact ⟨_, gM2_like, gM2_p, cx_isCommand_m4 hb hn h9 hat hlt h1 g1 g2 g3 g4⟩
        · rw [if_pos g2] at hF; cases hF
          exact ⟨_, gM1_like, gM1_p, cx_isCommand_m2 hb hn h9 hat hlt h1 g1 g2⟩
    · rw [if_neg h1] at hF
      by_cases h2 : tsg (M 100) n a = 98
      · rw [if_pos h2, rFb] at hF
        by_cases g1 : tnv (M 100) n (a + 1) = -1
        · rw [if_pos g1] at hF; cases hF
          exact ⟨_, gM1_like, gM1_p, cx_isCommand_b1 hb hn h9 hat hlt h2 g1⟩
        · rw [if_neg g1] at hF; cases hF
      · rw [if_neg h2] at hF
        by_cases h3 : tsg (M 100) n a = 111
        · rw [if_pos h3, rFo] at hF
          by_cases g1 : tnv (M 100) n (a + 1) = -1
          · rw [if_pos g1] at hF; cases hF
            exact ⟨_, gM1_like, gM1_p, cx_isCommand_o1 hb hn h9 hat hlt h3 g1⟩
          · rw [if_neg g1] at hF
            by_cases g2 : tsg (M 100) n (tna (M 100) n (a + 1)) = 43
            · rw [if_neg (fun z => z g2)] at hF
              by_cases g3 : tnv (M 100) n (tna (M 100) n (a + 1) + 1) = -1
              · rw [if_pos g3] at hF; cases hF
                exact ⟨_, gM2_like, gM2_p, cx_isCommand_o3 hb hn h9 hat hlt h3 g1 g2 g3⟩
              · rw [if_neg g3] at hF; cases hF
            · rw [if_pos g2] at hF; cases hF
              exact ⟨_, gM1_like, gM1_p, cx_isCommand_o2 hb hn h9 hat hlt h3 g1 g2⟩
        · rw [if_neg h3] at hF
          by_cases h4 : tsg (M 100) n a = 110
          · rw [if_pos h4] at hF; cases hF
          · rw [if_neg h4] at hF
            by_cases h5 : tsg (M 100) n a = 116
            · rw [if_pos h5] at hF; cases hF
            · rw [if_neg h5] at hF; cases hF
              exact ⟨_, fun i k z1 z2 => jm_n (by omega), (jm_n (by omega)).trans hat, cx_isCommand_no hb hn h9 hat hlt h1 h2 h3 h4 h5 (by rw [tsg, if_pos hlt]; exact hch a hlt)⟩
  · subst heq
    have e : tsg (M 100) a a = -1 := if_neg (by omega)
    unfold pF at hF
    rw [e, if_neg (by decide), if_neg (by decide), if_neg (by decide), if_neg (by decide), if_neg (by decide)] at hF
    cases hF
    exact ⟨M, fun i k z1 z2 => rfl, hat, cx_isCommand_end hb hn h9 hat⟩
theorem cx_cmd_ok {d : Nat} {b : SBt} {Y : OUt} {M : MM} (hb : 104 ≤ b.2.1) {a n : Nat} (hn : n ≤ 60) (h9 : M 94 9 = nI n) (hat : M 94 10 = nI a) (ha : a ≤ n) (hF : pF (M 100) n a = none) : CM (d + 2) 0 0 yX6_isCommand cX6_isCommand 1 (some .boolean) [.ref 94] b Y M (.inl (some (.int 1))) (gcm M n a) := by
  unfold pF at hF
  by_cases h1 : tsg (M 100) n a = 109
  · have hlt := tsg_lt h1 (by decide)
    rw [if_pos h1, rFm] at hF
    by_cases g1 : tnv (M 100) n (a + 1) = -1
    · rw [if_pos g1] at hF; cases hF
    · rw [if_neg g1] at hF
      by_cases g2 : tsg (M 100) n (tna (M 100) n (a + 1)) = 61
      · rw [if_neg (fun z => z g2)] at hF
        by_cases g3 : tnv (M 100) n (tna (M 100) n (a + 1) + 1) = -1
        · rw [if_pos g3] at hF; cases hF
        · rw [if_neg g3] at hF
          by_cases g4 : tsg (M 100) n (tna (M 100) n (tna (M 100) n (a + 1) + 1)) = 58
          · rw [if_neg (fun z => z g4)] at hF
            by_cases g5 : tnv (M 100) n (tna (M 100) n (tna (M 100) n (a + 1) + 1) + 1) = -1
            · rw [if_pos g5] at hF; cases hF
            · refine CM_st (cx_isCommand_m6 hb hn h9 hat hlt h1 g1 g2 g3 g4 g5) (gcm_eq gM3_like ?_ ?_ ?_ ?_ ?_ (fun k hk => ?_))
              · rw [gM3_p, pN, if_pos h1]
              · rw [gM3_o, h1]
              · rw [gM3_k (by decide), gM2_k (by decide), gM1_0 g1, gcm_0, h1, if_neg (by decide), p1, h1, if_neg (by decide), if_neg (by decide)]
              · rw [gM3_k (by decide), gM2_1 g3, gcm_1, h1, if_neg (by decide), p2, h1, if_neg (by decide), if_neg (by decide)]
              · rw [gM3_2 g5, gcm_2, h1, if_pos (Or.inl rfl), p3, if_pos h1]
              · rw [gM3_k (by omega), gM2_k (by omega), gM1_k (by omega)]
          · rw [if_pos g4] at hF; cases hF
      · rw [if_pos g2] at hF; cases hF
  · rw [if_neg h1] at hF
    by_cases h2 : tsg (M 100) n a = 98
    · have hlt := tsg_lt h2 (by decide)
      rw [if_pos h2, rFb] at hF
      by_cases g1 : tnv (M 100) n (a + 1) = -1
      · rw [if_pos g1] at hF; cases hF
      · refine CM_st (cx_isCommand_b2 hb hn h9 hat hlt h2 g1) (gcm_eq gM1_like ?_ ?_ ?_ ?_ ?_ (fun k hk => ?_))
        · rw [gM1_p, pN, if_neg h1, if_pos h2]
        · rw [gM1_o, h2]
        · rw [gM1_0 g1, gcm_0, h2, if_neg (by decide), p1, h2, if_neg (by decide), if_neg (by decide)]
        · rw [gM1_k (by decide), gcm_1, h2, if_pos (Or.inr rfl)]
        · rw [gM1_k (by decide), gcm_2, h2, if_neg (by decide)]
        · rw [gM1_k (by omega)]
    · rw [if_neg h2] at hF
      by_cases h3 : tsg (M 100) n a = 111
      · have hlt := tsg_lt h3 (by decide)
        rw [if_pos h3, rFo] at hF
        by_cases g1 : tnv (M 100) n (a + 1) = -1
        · rw [if_pos g1] at hF; cases hF
        · rw [if_neg g1] at hF
          by_cases g2 : tsg (M 100) n (tna (M 100) n (a + 1)) = 43
          · rw [if_neg (fun z => z g2)] at hF
            by_cases g3 : tnv (M 100) n (tna (M 100) n (a + 1) + 1) = -1
            · rw [if_pos g3] at hF; cases hF
            · refine CM_st (cx_isCommand_o4 hb hn h9 hat hlt h3 g1 g2 g3) (gcm_eq gM2_like ?_ ?_ ?_ ?_ ?_ (fun k hk => ?_))
              · rw [gM2_p, pN, if_neg h1, if_neg h2, if_pos h3]
              · rw [gM2_o, h3]
              · rw [gM2_k (by decide), gM1_0 g1, gcm_0, h3, if_neg (by decide), p1, h3, if_neg (by decide), if_neg (by decide)]
              · rw [gM2_1 g3, gcm_1, h3, if_neg (by decide), p2, h3, if_neg (by decide), if_neg (by decide)]
              · rw [gM2_k (by decide), gM1_k (by decide), gcm_2, h3, if_neg (by decide)]
              · rw [gM2_k (by omega), gM1_k (by omega)]
          · rw [if_pos g2] at hF; cases hF
      · rw [if_neg h3] at hF
        by_cases h4 : tsg (M 100) n a = 110
        · have hlt := tsg_lt h4 (by decide)
          refine CM_st (cx_isCommand_n hb hn h9 hat hlt h4) (gcm_eq (fun i k z1 z2 => gB_n z1) ?_ ?_ ?_ ?_ ?_ (fun k hk => gB_n (by omega)))
          · rw [gB_p, pN, if_neg h1, if_neg h2, if_neg h3, if_pos h4]
          · rw [gB_o, h4]
          · rw [gB_n (by omega), gcm_0, if_pos h4]
          · rw [gB_n (by omega), gcm_1, if_pos (Or.inl h4)]
          · rw [gB_n (by omega), gcm_2, h4, if_neg (by decide)]
        · rw [if_neg h4] at hF
          by_cases h5 : tsg (M 100) n a = 116
          · have hlt := tsg_lt h5 (by decide)
            refine CM_st (cx_isCommand_t hb hn h9 hat hlt h5) (gcm_eq (fun i k z1 z2 => ?_) ?_ ?_ ?_ ?_ ?_ (fun k hk => ?_))
            · rw [gD3, jm_n (by omega), jm_n (by omega), jm_n (by omega), jm_n (by omega), gB_n z1]
            · rw [gD3, jm_n (by omega), jm_n (by omega), jm_n (by omega), jm_s, gB_t, pN, if_neg h1, if_neg h2, if_neg h3, if_neg h4]
            · rw [gD3, jm_n (by omega), jm_n (by omega), jm_n (by omega), jm_n (by omega), gB_o, h5]
            · rw [gD3, jm_n (by omega), jm_n (by omega), jm_s, gB_t, gcm_0, if_neg h4, p1, if_neg h4, if_pos h5]
            · rw [gD3, jm_n (by omega), jm_s, gB_t, gcm_1, h5, if_neg (by decide), p2, h5, if_neg (by decide), if_pos rfl]
            · rw [gD3, jm_s, gB_t, gcm_2, if_pos (Or.inr h5), p3, if_neg h1, if_pos h5]
            · rw [gD3, jm_n (by omega), jm_n (by omega), jm_n (by omega), jm_n (by omega), gB_n (by omega)]
          · rw [if_neg h5] at hF; cases hF
