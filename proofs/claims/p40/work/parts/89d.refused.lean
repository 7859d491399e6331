/-! ===== what a drawn league refuses ===== -/
theorem InvP.rs {b : SBt} {A B : MM} (I : InvP b A B) : rRs A B := by
  obtain ⟨τ, k, j, -, -, -, -, -, -, -, -, -, -, -, h⟩ := I.1
  exact h
section QR
variable {b : SBt} {Y : OUt} {A B : MM}
theorem Q_reason_0 (I : InvP b A B) (h : ¬ B 94 14 = 0) : SPq b Y A yL_reason cL_reason 3 (some .int) [(0, 5, 6, 47), (0, 5, 11, 58)] [.ref 0, .int 0] (.int (B 94 14)) :=
  SPq.mk (H_reason_r (d := 19) I.hb (c_reason_0 (d := 19) I.hb (by rw [I.rs.1]; exact h))) (by decide) (by decide) qE_0 I.rs.1
theorem Q_reason_1 (I : InvP b A B) (h : ¬ B 94 14 = 0) : SPq b Y A yL_reason cL_reason 3 (some .int) [(0, 5, 6, 47), (0, 5, 11, 58)] [.ref 0, .int 1] (.int (B 94 15)) :=
  SPq.mk (H_reason_r (d := 19) I.hb (c_reason_1 (d := 19) I.hb (by rw [I.rs.1]; exact h))) (by decide) (by decide) qE_0 I.rs.2.1
theorem Q_reason_2 (I : InvP b A B) (h : ¬ B 94 14 = 0) : SPq b Y A yL_reason cL_reason 3 (some .int) [(0, 5, 6, 47), (0, 5, 11, 58)] [.ref 0, .int 2] (.int (B 94 17)) :=
  SPq.mk (H_reason_r (d := 19) I.hb (c_reason_2 (d := 19) I.hb (by rw [I.rs.1]; exact h))) (by decide) (by decide) qE_0 I.rs.2.2.1
theorem Q_reason_bad (I : InvP b A B) {u : Int32} (hu : u < 0 ∨ ¬ u ≤ 2) : SPq b Y A yL_reason cL_reason 3 (some .int) [(0, 5, 6, 47), (0, 5, 11, 58)] [.ref 0, .int u] (.int (-1001)) :=
  SPq.mk (H_reason_t1 (d := 19) I.hb (c_reason_bad (d := 19) I.hb hu)) (by decide) (by decide) qE_0 rfl
theorem Q_character_bad (I : InvP b A B) {u : Int32} (hu : u = -1 ∨ u = 40) : SPq b Y A yL_character cL_character 3 (some .int) [(0, 5, 6, 45)] [.ref 0, .int u] (.int (-1001)) := by
  obtain ⟨n, c, h1, h2, h3, h4, h5⟩ := I.2
  exact SPq.mk (H_character_t1 (d := 19) I.hb (c_character_bad (d := 17) I.hb h3 (by omega) (fun z => by
    rcases hu with rfl | rfl
    · exact z.1 (by decide)
    · exact z.2 (nI_le (b := 40) h4 (by decide))))) (by decide) (by decide) qE_0 rfl
theorem nI_out {n : Nat} (h : n < 1000) : ¬ ∃ q, q < n ∧ nI n = nI q := fun ⟨q, hq, e⟩ => by
  have := (nI_eq (by omega) (by omega)).mp e
  omega
theorem m1_out {n : Nat} (h : n < 1000) : ¬ ∃ q, q < n ∧ (-1 : Int32) = nI q := fun ⟨q, hq, e⟩ => nI_pos (n := q) (by omega) (by rw [← e]; decide)
variable {t : Nat}
theorem Q_line_nt (I : InvP b A B) (D : Dr B t) {u : Int32} (hu : ¬ ∃ q, q < t ∧ u = nI q) : SPq b Y A yL_line cL_line 3 (some .int) [(0, 5, 6, 45)] [.ref 0, .int u] (.int (-1001)) := by
  have h8 := D.2.1
  exact SPq.mk (H_line_t1 (d := 19) I.hb (c_line_nt (d := 18) I.hb (by
    rw [show A 1 0 = nI t from (I.dr D).1.2.1]
    exact fun z => hu ((in_q1 (by omega)).mp z)))) (by decide) (by decide) qE_0 rfl
theorem nT_pos : ∀ t, t < 9 → 2 ≤ t → 0 < nT t := by decide +kernel
theorem InvP.t2 (I : InvP b A B) (D : Dr B t) : 2 ≤ t := (I.dr D).1.2.2.2.2.1 rfl
theorem InvP.n0 (I : InvP b A B) (D : Dr B t) : 0 < nn t true := nT_pos t (by have := D.2.1; omega) (I.t2 D)
theorem InvP.d1 (I : InvP b A B) (D : Dr B t) : ¬ A 1 2 = 0 := by
  have h : A 1 2 = if true = true then 1 else 0 := (I.dr D).1.2.2.2.2.2.1
  rw [if_pos rfl] at h
  rw [h]
  decide
theorem rTeam_b {u : Int32} (h : ¬ (¬ u < 0 ∧ ¬ 9 < u)) : rTeam A u = some (1, 0) := if_pos h
theorem rTeam_d (I : InvP b A B) (D : Dr B t) : rTeam A 0 = some (4, 0) := by
  unfold rTeam
  rw [if_neg (fun z => z (by decide)), if_pos (I.d1 D)]
theorem rGround_t (I : InvP b A B) (D : Dr B t) {u : Int32} : rGround A (nI t) u = some (3, nI t) := by
  have h8 := D.2.1
  unfold rGround
  rw [show A 1 0 = nI t from (I.dr D).1.2.1, if_pos (fun z => nI_out (by omega) ((in_q1 (by omega)).mp z))]
theorem rGround_b (I : InvP b A B) (D : Dr B t) {u : Int32} (h : ¬ (¬ u < 0 ∧ ¬ 9 < u)) : rGround A 0 u = some (1, 0) := by
  have h8 := D.2.1
  have h2 := I.t2 D
  unfold rGround
  rw [show A 1 0 = nI t from (I.dr D).1.2.1, if_neg (fun z => z ((in_q1 (by omega)).mpr ⟨0, by omega, rfl⟩)), if_pos h]
theorem rDraw_d (I : InvP b A B) (D : Dr B t) : rDraw A = some (4, 0) := if_pos (I.d1 D)
theorem PR_give (I : InvP b A B) {u v : Int32} (hx : u < 1 ∨ 5 < u ∨ v < 0 ∨ ¬ v ≤ 3) : SPc b Y A B yL_give cL_give 4 [(0, 6, 7, 13)] [.ref 0, .int u, .int v] (fun y B1 => y = -1001 ∧ RefB B B1 1 0) :=
  SPc.mk I (H_give_t1 (d := 19) I.hb (c_give_bad (d := 14) I.hb hx)) (by decide) (by decide) hi_ref (rel_ref I.1) ⟨rfl, refB⟩
theorem gNo_out (I : InvP b A B) (D : Dr B t) {x : Int32} (hx : ¬ ∃ q, q < nn t true ∧ x = nI q) {q : Option (Int32 × Int32)} : gNo B x q = some (3, x) := by
  obtain ⟨h1, h2, -⟩ := I.h9 D
  unfold gNo
  rw [if_neg D.2.2, h1, if_pos (fun z => hx ((in_q2 h2).mp z))]
theorem rRes_out (I : InvP b A B) (D : Dr B t) {u v : Int32} : rRes A (nI (nn t true)) u v = some (3, nI (nn t true)) := by
  rw [res_r (I.dr D).1 (I.dr D).2, gNo_out I D (nI_out (by have := (I.h9 D).2.1; omega))]
theorem rRes_b (I : InvP b A B) (D : Dr B t) {u v : Int32} (h : ¬ ((¬ u < 0 ∧ ¬ 20 < u) ∧ (¬ v < 0 ∧ ¬ 20 < v))) : rRes A 0 u v = some (1, 0) := by
  have e : rRes A (nI 0) u v = gRes B 0 u v := rRes_in I D (I.n0 D)
  refine Eq.trans e ?_
  unfold gRes
  rw [if_pos h]
theorem rBack_out (I : InvP b A B) (D : Dr B t) : rBack A (-1) = some (3, -1) := by
  rw [back_r (I.dr D).1 (I.dr D).2, gNo_out I D (m1_out (by have := (I.h9 D).2.1; omega))]
theorem rPut_out (I : InvP b A B) (D : Dr B t) {u : Int32} : rPut A (nI (nn t true)) u = some (3, nI (nn t true)) := by
  rw [put_r (I.dr D).1 (I.dr D).2, gNo_out I D (nI_out (by have := (I.h9 D).2.1; omega))]
theorem rPut_b (I : InvP b A B) (D : Dr B t) {u : Int32} (h : ¬ (¬ u < 1 ∧ ¬ 9 < u)) : rPut A 0 u = some (1, 0) := by
  have e : rPut A (nI 0) u = gPut B 0 u := rPut_in I D (I.n0 D)
  refine Eq.trans e ?_
  unfold gPut
  rw [if_pos h]
/-- no team meets itself -/
theorem Q_find_11 (I : InvP b A B) (D : Dr B t) : SPq b Y A yL_find cL_find 4 (some .int) [(0, 6, 7, 45), (0, 6, 12, 58)] [.ref 0, .int 1, .int 1] (.int (-1002)) := by
  have h2 := I.t2 D
  have h8 := D.2.1
  have hL := (I.dr D).1
  have e : gOr2 (jfst (gBet B (nI 1) (nI 1)) (nn t true)) = -1002 := by
    rw [jfst_none (fun i hi z => ?_)]
    · exact if_pos rfl
    · have hp := jb_p1 z
      obtain ⟨h, a, w, g1, g2, g3, -, g5, g6, -⟩ := TB_ok h8 hi
      obtain ⟨m0, m1, -⟩ := hL.2.2.2.2.2.2.2.2.2.2.2.2 i hi
      have e1 : jof B i 0 = nI h := (show jof B i 0 = TB t i 0 from m0).trans g5
      have e2 : jof B i 1 = nI a := (show jof B i 1 = TB t i 1 from m1).trans g6
      have f1 := (nI_eq (by omega) (by omega)).mp (e1.symm.trans hp.1)
      have f2 := (nI_eq (by omega) (by omega)).mp (e2.symm.trans hp.2)
      omega
  have H := Q_find (Y := Y) I.hb hL (I.dr D).2 (q := 1) (q2 := 1) (by omega) (by omega)
  rw [e] at H
  exact H
end QR
/-! the chain of refusals: what stays -/
theorem Dr_same {B B1 : MM} {t : Nat} (hs : Same B B1) (D : Dr B t) : Dr B1 t := ⟨(hs.1 0 (by omega)).trans D.1, D.2.1, by rw [hs.1 1 (by omega)]; exact D.2.2⟩
/-- from the beginning on nothing has changed, no text lies -/
def Zr (B0 B : MM) (t : Nat) : Prop := Same B0 B ∧ B 94 9 = 0 ∧ Dr B t
theorem Zr_0 {B : MM} {t : Nat} (D : Dr B t) (h : B 94 9 = 0) : Zr B B t := ⟨Same_0, h, D⟩
theorem Zr_r {B0 B B1 : MM} {t : Nat} {r z : Int32} (h : Zr B0 B t) (hR : RefB B B1 r z) : Zr B0 B1 t := ⟨Same_t h.1 hR.1, hR.2.2.2.2.1.trans h.2.1, Dr_same hR.1 h.2.2⟩
theorem Zr_f {B0 B B1 : MM} {t q : Nat} (h : Zr B0 B t) (hR : FltB B B1 q) : Zr B0 B1 t := ⟨Same_t h.1 hR.1, hR.2.1, Dr_same hR.1 h.2.2⟩
theorem Zr_i {B0 B B1 : MM} {t i : Nat} {r z : Int32} (h : Zr B0 B t) (hR : RefI B B1 r z i) : Zr B0 B1 t := ⟨Same_t h.1 hR.1, hR.2.1, Dr_same hR.1 h.2.2⟩
theorem Zr_cn {B0 B : MM} {t : Nat} (h : Zr B0 B t) : cn B = cn B0 := cn_eq h.1.1
