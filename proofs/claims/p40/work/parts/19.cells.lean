/-! ===== which cell is what ===== -/
theorem fa_2 : fA 2 100 8 = true := rfl
theorem fa_3 : fA 3 100 3 = true := rfl
theorem fa_4 : fA 4 100 56 = true := rfl
theorem fa_5 : fA 5 100 56 = true := rfl
theorem fa_6 : fA 6 100 56 = true := rfl
theorem fa_8 : fA 8 100 8 = true := rfl
theorem fa_9 : fA 9 100 3 = true := rfl
theorem fa_10 : fA 10 100 56 = true := rfl
theorem fa_11 : fA 11 100 56 = true := rfl
theorem fa_12 : fA 12 100 56 = true := rfl
theorem fa_16 : fA 16 100 8 = true := rfl
theorem fa_17 : fA 17 100 3 = true := rfl
theorem fa_18 : fA 18 100 56 = true := rfl
theorem fa_19 : fA 19 100 56 = true := rfl
theorem fa_20 : fA 20 100 56 = true := rfl
theorem fa_22 : fA 22 100 8 = true := rfl
theorem fa_23 : fA 23 100 3 = true := rfl
theorem fa_24 : fA 24 100 56 = true := rfl
theorem fa_25 : fA 25 100 56 = true := rfl
theorem fa_26 : fA 26 100 56 = true := rfl
theorem fa_28 : fA 28 100 8 = true := rfl
theorem fa_29 : fA 29 100 3 = true := rfl
theorem fa_30 : fA 30 100 56 = true := rfl
theorem fa_31 : fA 31 100 56 = true := rfl
theorem fa_32 : fA 32 100 56 = true := rfl
theorem fa_34 : fA 34 100 8 = true := rfl
theorem fa_35 : fA 35 100 3 = true := rfl
theorem fa_36 : fA 36 100 56 = true := rfl
theorem fa_37 : fA 37 100 56 = true := rfl
theorem fa_38 : fA 38 100 56 = true := rfl
theorem fa_40 : fA 40 100 8 = true := rfl
theorem fa_41 : fA 41 100 3 = true := rfl
theorem fa_42 : fA 42 100 56 = true := rfl
theorem fa_43 : fA 43 100 56 = true := rfl
theorem fa_44 : fA 44 100 56 = true := rfl
theorem fa_46 : fA 46 100 8 = true := rfl
theorem fa_47 : fA 47 100 3 = true := rfl
theorem fa_48 : fA 48 100 56 = true := rfl
theorem fa_49 : fA 49 100 56 = true := rfl
theorem fa_50 : fA 50 100 56 = true := rfl
theorem fa_52 : fA 52 100 8 = true := rfl
theorem fa_53 : fA 53 100 3 = true := rfl
theorem fa_54 : fA 54 100 56 = true := rfl
theorem fa_55 : fA 55 100 56 = true := rfl
theorem fa_56 : fA 56 100 56 = true := rfl
theorem fa_58 : fA 58 100 8 = true := rfl
theorem fa_59 : fA 59 100 3 = true := rfl
theorem fa_60 : fA 60 100 56 = true := rfl
theorem fa_61 : fA 61 100 56 = true := rfl
theorem fa_62 : fA 62 100 56 = true := rfl
theorem fa_64 : fA 64 100 8 = true := rfl
theorem fa_65 : fA 65 100 3 = true := rfl
theorem fa_66 : fA 66 100 56 = true := rfl
theorem fa_67 : fA 67 100 56 = true := rfl
theorem fa_68 : fA 68 100 56 = true := rfl
theorem fa_70 : fA 70 100 56 = true := rfl
theorem fa_71 : fA 71 100 56 = true := rfl
theorem fa_72 : fA 72 100 56 = true := rfl
theorem fa_73 : fA 73 100 14 = true := rfl
theorem fa_74 : fA 74 100 8 = true := rfl
theorem fa_76 : fA 76 100 8 = true := rfl
theorem fa_77 : fA 77 100 8 = true := rfl
theorem fa_78 : fA 78 100 8 = true := rfl
theorem fa_79 : fA 79 100 8 = true := rfl
theorem fa_80 : fA 80 100 8 = true := rfl
theorem fa_81 : fA 81 100 8 = true := rfl
theorem fa_82 : fA 82 100 8 = true := rfl
theorem fa_83 : fA 83 100 8 = true := rfl
theorem fa_84 : fA 84 100 8 = true := rfl
theorem fa_85 : fA 85 100 8 = true := rfl
theorem fa_87 : fA 87 101 60 = true := rfl
theorem fa_88 : fA 88 100 30 = true := rfl
theorem fa_89 : fA 89 100 30 = true := rfl
theorem fa_90 : fA 90 100 30 = true := rfl
theorem fa_91 : fA 91 100 30 = true := rfl
def isLg (a : Nat) : Bool := a == 1 || a == 7 || (decide (15 ≤ a) && decide (a < 69) && ((a - 15) % 6 == 0))
def lgOk (a : Nat) : Bool := !isLg a || (fT a 6 && fI a 0 6 11 && fI a 2 6 11 && fI a 3 6 11 && fI a 4 6 11 && fI a 5 6 11 && fI a 6 6 11 && fR a 1 6 11 (a + 1) && fR a 7 6 11 (a + 2) && fR a 8 6 11 (a + 3) && fR a 9 6 11 (a + 4) && fR a 10 6 11 (a + 5) &&
  fA (a + 1) 100 8 && fA (a + 2) 100 3 && fA (a + 3) 100 56 && fA (a + 4) 100 56 && fA (a + 5) 100 56)
theorem lgOk_all : ∀ a, a < 69 → lgOk a = true := by decide +kernel
theorem isLg_lt {a : Nat} (h : isLg a = true) : a < 69 := by
  simp only [isLg, Bool.or_eq_true, Bool.and_eq_true, beq_iff_eq, decide_eq_true_eq] at h
  omega
theorem isLg_gap {a c : Nat} (h : isLg a = true) (h2 : isLg c = true) (hne : a ≠ c) : a + 5 < c ∨ c + 5 < a := by
  simp only [isLg, Bool.or_eq_true, Bool.and_eq_true, beq_iff_eq, decide_eq_true_eq] at h h2
  omega
theorem lg_all {a : Nat} (h : isLg a = true) : lgOk a = true := lgOk_all a (isLg_lt h)
theorem lgT {a : Nat} (h : isLg a = true) : fT a 6 = true := by
  have h1 := lg_all h
  simp only [lgOk, h, Bool.not_true, Bool.false_or, Bool.and_eq_true] at h1
  simp only [h1]
theorem lg0 {a : Nat} (h : isLg a = true) : fI a 0 6 11 = true := by
  have h1 := lg_all h
  simp only [lgOk, h, Bool.not_true, Bool.false_or, Bool.and_eq_true] at h1
  simp only [h1]
theorem lg2 {a : Nat} (h : isLg a = true) : fI a 2 6 11 = true := by
  have h1 := lg_all h
  simp only [lgOk, h, Bool.not_true, Bool.false_or, Bool.and_eq_true] at h1
  simp only [h1]
theorem lg3 {a : Nat} (h : isLg a = true) : fI a 3 6 11 = true := by
  have h1 := lg_all h
  simp only [lgOk, h, Bool.not_true, Bool.false_or, Bool.and_eq_true] at h1
  simp only [h1]
theorem lg4 {a : Nat} (h : isLg a = true) : fI a 4 6 11 = true := by
  have h1 := lg_all h
  simp only [lgOk, h, Bool.not_true, Bool.false_or, Bool.and_eq_true] at h1
  simp only [h1]
theorem lg5 {a : Nat} (h : isLg a = true) : fI a 5 6 11 = true := by
  have h1 := lg_all h
  simp only [lgOk, h, Bool.not_true, Bool.false_or, Bool.and_eq_true] at h1
  simp only [h1]
theorem lg6 {a : Nat} (h : isLg a = true) : fI a 6 6 11 = true := by
  have h1 := lg_all h
  simp only [lgOk, h, Bool.not_true, Bool.false_or, Bool.and_eq_true] at h1
  simp only [h1]
theorem lg1 {a : Nat} (h : isLg a = true) : fR a 1 6 11 (a + 1) = true := by
  have h1 := lg_all h
  simp only [lgOk, h, Bool.not_true, Bool.false_or, Bool.and_eq_true] at h1
  simp only [h1]
theorem lg7 {a : Nat} (h : isLg a = true) : fR a 7 6 11 (a + 2) = true := by
  have h1 := lg_all h
  simp only [lgOk, h, Bool.not_true, Bool.false_or, Bool.and_eq_true] at h1
  simp only [h1]
theorem lg8 {a : Nat} (h : isLg a = true) : fR a 8 6 11 (a + 3) = true := by
  have h1 := lg_all h
  simp only [lgOk, h, Bool.not_true, Bool.false_or, Bool.and_eq_true] at h1
  simp only [h1]
theorem lg9 {a : Nat} (h : isLg a = true) : fR a 9 6 11 (a + 4) = true := by
  have h1 := lg_all h
  simp only [lgOk, h, Bool.not_true, Bool.false_or, Bool.and_eq_true] at h1
  simp only [h1]
theorem lg10 {a : Nat} (h : isLg a = true) : fR a 10 6 11 (a + 5) = true := by
  have h1 := lg_all h
  simp only [lgOk, h, Bool.not_true, Bool.false_or, Bool.and_eq_true] at h1
  simp only [h1]
theorem lgA1 {a : Nat} (h : isLg a = true) : fA (a + 1) 100 8 = true := by
  have h1 := lg_all h
  simp only [lgOk, h, Bool.not_true, Bool.false_or, Bool.and_eq_true] at h1
  simp only [h1]
theorem lgA2 {a : Nat} (h : isLg a = true) : fA (a + 2) 100 3 = true := by
  have h1 := lg_all h
  simp only [lgOk, h, Bool.not_true, Bool.false_or, Bool.and_eq_true] at h1
  simp only [h1]
theorem lgA3 {a : Nat} (h : isLg a = true) : fA (a + 3) 100 56 = true := by
  have h1 := lg_all h
  simp only [lgOk, h, Bool.not_true, Bool.false_or, Bool.and_eq_true] at h1
  simp only [h1]
theorem lgA4 {a : Nat} (h : isLg a = true) : fA (a + 4) 100 56 = true := by
  have h1 := lg_all h
  simp only [lgOk, h, Bool.not_true, Bool.false_or, Bool.and_eq_true] at h1
  simp only [h1]
theorem lgA5 {a : Nat} (h : isLg a = true) : fA (a + 5) 100 56 = true := by
  have h1 := lg_all h
  simp only [lgOk, h, Bool.not_true, Bool.false_or, Bool.and_eq_true] at h1
  simp only [h1]
theorem lgR (j : Nat) (h : j < 9) : isLg (15 + 6 * j) = true := by
  simp only [isLg, Bool.or_eq_true, Bool.and_eq_true, beq_iff_eq, decide_eq_true_eq]
  omega

