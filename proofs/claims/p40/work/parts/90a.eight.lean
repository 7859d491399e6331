/-! ===== the league of eight: who meets whom ===== -/
def eH (m : Nat) : Nat := [0, 2, 4, 6, 0, 3, 5, 7, 1, 2, 4, 6, 0, 2, 5, 7, 1, 3, 4, 6, 0, 2, 4, 7, 1, 3, 5, 6, 1, 3, 5, 7, 1, 2, 4, 6, 0, 3, 5, 7, 1, 3, 4, 6, 0, 2, 5, 7, 1, 3, 5, 6, 0, 2, 4, 7].getD m 0
def eG (m : Nat) : Nat := [7, 5, 3, 1, 2, 6, 4, 1, 3, 7, 0, 5, 6, 4, 1, 3, 0, 5, 7, 2, 3, 1, 6, 5, 4, 2, 0, 7, 6, 4, 2, 0, 7, 0, 5, 3, 4, 1, 6, 2, 5, 7, 2, 0, 1, 6, 3, 4, 2, 0, 7, 4, 5, 3, 1, 6].getD m 0
def tbv (m k : Nat) : Int32 := if k = 0 then nI (eH m) else if k = 1 then nI (eG m) else if k ≤ 3 then nI (m / 4) else 0
theorem e8_all : ((List.range 14).all fun w => (List.range 8).all fun j => !gcondb 8 w j || (decide (eH (gbase 8 w + gin 8 w j) = j) && decide (gother 8 w j = nI (eG (gbase 8 w + gin 8 w j))) && decide ((gbase 8 w + gin 8 w j) / 4 = w))) = true := by decide +kernel
theorem e8_56 : gbase 8 14 = 56 ∧ wT 8 = 14 ∧ nT 8 = 56 := by decide +kernel
theorem e8_dj {N : MM} {w k : Nat} (hw : w < 14) (hk : k < 8) (h : ∀ m, m < gbase 8 w → jof N m k = tbv m k) : ∀ j, j ≤ 8 → ∀ m, m < gbase 8 w + gin 8 w j → jof (gdj N 8 w j) m k = tbv m k
  | 0, _, m, hm => h m hm
  | j + 1, hj, m, hm => by
    have ih := e8_dj hw hk h j (by omega)
    rw [gdj]
    rw [gin] at hm
    by_cases c : gcondb 8 w j = true
    · rw [if_pos c] at hm
      rw [if_pos c]
      by_cases e : m = gbase 8 w + gin 8 w j
      · have a := List.all_eq_true.mp (List.all_eq_true.mp e8_all w (List.mem_range.mpr hw)) j (List.mem_range.mpr (by omega))
        rw [c] at a
        simp only [Bool.not_true, Bool.false_or, Bool.and_eq_true, decide_eq_true_eq] at a
        obtain ⟨⟨a1, a2⟩, a3⟩ := a
        rw [← e] at a1 a2 a3
        rw [← e]
        unfold tbv
        rcases (show k = 0 ∨ k = 1 ∨ k = 2 ∨ k = 3 ∨ 4 ≤ k by omega) with rfl | rfl | rfl | rfl | h4
        · rw [gadd_0, if_pos rfl, a1]
        · rw [gadd_1, a2, if_neg (by decide), if_pos rfl]
        · rw [gadd_2, if_neg (by decide), if_neg (by decide), if_pos (by decide), a3]
        · rw [gadd_3, if_neg (by decide), if_neg (by decide), if_pos (by decide), a3]
        · rw [gadd_4 h4 hk, if_neg (by omega), if_neg (by omega), if_neg (by omega)]
      · rw [gadd_of hk e]
        exact ih m (by omega)
    · rw [if_neg c] at hm
      rw [if_neg c]
      exact ih m (by omega)
theorem e8_dw {N : MM} {k : Nat} (hk : k < 8) : ∀ w, w ≤ 14 → ∀ m, m < gbase 8 w → jof (gdw N 8 w) m k = tbv m k
  | 0, _, m, hm => absurd hm (Nat.not_lt_zero m)
  | w + 1, hw, m, hm => e8_dj (by omega) hk (e8_dw hk w (by omega)) 8 (Nat.le_refl _) m hm
/-! rows of a league, by their numbers -/
def up (R : Nat → Int32) (k : Nat) (v : Int32) : Nat → Int32 := fun c => if c = k then v else R c
def cl (R : Nat → Int32) : MM := fun i k => if i = 95 ∧ k < 466 then R k else 0
def At (B : MM) (R : Nat → Int32) : Prop := ∀ c, c < 466 → B 95 c = R c
theorem At_cn {B : MM} {R : Nat → Int32} (h : At B R) : cn B = cl R := funext fun i => funext fun k => by
  unfold cn cl
  by_cases c : i = 95 ∧ k < 466
  · rw [if_pos c, if_pos c]; exact h k c.2
  · rw [if_neg c, if_neg c]
theorem At_s {B B1 : MM} {R : Nat → Int32} (h : At B R) (hs : Same B B1) : At B1 R := fun c hc => (hs.1 c hc).trans (h c hc)
theorem At_jm {N : MM} {R : Nat → Int32} {k : Nat} {v : Int32} (h : At N R) : At (jm N 95 k v) (up R k v) := fun c hc => by
  unfold up
  by_cases e : c = k
  · subst e; rw [jm_s, if_pos rfl]
  · rw [jm_n (by omega), if_neg e]; exact h c hc
theorem At_o {B B1 N : MM} {R : Nat → Int32} (hO : OkB B B1 (N 95)) (h : At N R) : At B1 R := fun c hc => by
  rw [hO.2.1]; exact h c hc
theorem At_jsets {N : MM} {R : Nat → Int32} {m w : Nat} {v : Int32} (h : At N R) : At (jsets N m w v) (up R (18 + 8 * m + w) v) := At_jm h
/-- behind the draw -/
def eD (R : Nat → Int32) (c : Nat) : Int32 := if c = 1 then 14 else if c = 9 then 56 else if c < 18 then R c else tbv ((c - 18) / 8) ((c - 18) % 8)
theorem At_draw {B : MM} {R : Nat → Int32} (h : At B R) (h9 : B 95 9 = 0) : At (gdw B 8 (wT 8)) (eD R) := fun c hc => by
  unfold eD
  by_cases c1 : c = 1
  · subst c1; rw [if_pos rfl, gdw_1]; rfl
  rw [if_neg c1]
  by_cases c9 : c = 9
  · subst c9
    rw [if_pos rfl, gdw_9 h9, e8_56.2.1, e8_56.1]; rfl
  rw [if_neg c9]
  by_cases c18 : c < 18
  · rw [if_pos c18, gdw_n (by omega)]; exact h c hc
  rw [if_neg c18]
  have e := e8_dw (N := B) (k := (c - 18) % 8) (by omega) 14 (Nat.le_refl _) ((c - 18) / 8) (by rw [e8_56.1]; omega)
  rw [e8_56.2.1, ← e]
  show _ = gdw B 8 14 95 (18 + 8 * ((c - 18) / 8) + (c - 18) % 8)
  rw [show 18 + 8 * ((c - 18) / 8) + (c - 18) % 8 = c by omega]
