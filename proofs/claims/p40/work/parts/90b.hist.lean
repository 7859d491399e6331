/-! ===== what is kept; the save; calls with a row in front ===== -/
def MB0 : MM := fun i k => if i = 94 then (if k = 13 then -1 else 0) else if i = 95 then (if k = 3 then 3 else if k = 4 then 1 else if k = 5 then 2 else if k = 7 then 1 else 0) else 0
theorem rel_0 : Rel M0 MB0 := by
  refine ⟨fun _ => (0, false), 0, 0, by omega, by omega, by decide +kernel, by decide +kernel, by decide +kernel, ?_, fun i hi => absurd hi (Nat.not_lt_zero i), fun i hi => absurd hi (Nat.not_lt_zero i), (fun h => by cases h), Or.inl ⟨by decide +kernel, by decide +kernel⟩, ⟨0, by omega, by decide +kernel, by decide +kernel, fun i hi => absurd hi (Nat.not_lt_zero i)⟩, ⟨by decide +kernel, by decide +kernel, by decide +kernel, by decide +kernel, by decide +kernel, 0, by omega, by decide +kernel⟩⟩
  refine ⟨Nat.zero_le 8, by decide +kernel, by decide +kernel, fun i hi => ?_, (fun h => by cases h), by decide +kernel, by decide +kernel, by decide +kernel, ⟨0, fun _ => rfl, by decide +kernel, by decide +kernel, (fun h => by cases h)⟩, ⟨3, by omega, by decide +kernel, by decide +kernel⟩, ⟨1, by omega, by decide +kernel, by decide +kernel⟩, ⟨2, by omega, by decide +kernel, by decide +kernel, fun i hi => ?_⟩, fun m hm => absurd hm (Nat.not_lt_zero m)⟩
  · rcases (show i = 0 ∨ i = 1 ∨ i = 2 ∨ i = 3 ∨ i = 4 ∨ i = 5 ∨ i = 6 ∨ i = 7 by omega) with rfl | rfl | rfl | rfl | rfl | rfl | rfl | rfl <;> decide +kernel
  · rcases (show i = 0 ∨ i = 1 by omega) with rfl | rfl
    · exact ⟨by decide +kernel, Or.inl (by decide +kernel)⟩
    · exact ⟨by decide +kernel, Or.inr (Or.inl (by decide +kernel))⟩
theorem InvP_0 : InvP b0 M0 MB0 := by
  refine ⟨rel_0, hLen b0 93, 0, ⟨Or.inl rfl, by decide, by decide, rfl, by decide +kernel, fun k => ?_⟩, by decide +kernel, by decide +kernel, by omega, by omega⟩
  show fits .byte (.int (M0 93 k)) = true
  have e : M0 93 k = 0 := rfl
  rw [e]
  decide
/-- the league is saved -/
def SavB (B B1 : MM) : Prop := (∀ c, c < 466 → B1 95 c = B 95 c) ∧ (∀ c, B1 97 c = B 97 c) ∧ (∀ c, c < 466 → B1 98 c = B 95 c) ∧ B1 94 3 = B 94 3 ∧ B1 94 5 = 1 ∧ B1 94 9 = B 94 9
theorem c_saveP {d : Nat} {b : SBt} {Y : OUt} {A B : MM} (I : InvP b A B) : Con (d + 2) 0 0 yX5_save cX5_save 1 (some .int) [.ref 0] (HH b Y A) (fun o k => ∃ A1 B1, o = .inl (some (.int (B 95 0))) ∧ k = HH b Y A1 ∧ InvP b A1 B1 ∧ SavB B B1) := by
  obtain ⟨t, dr, hL, hF⟩ := I.now
  have hB : ∀ i c, i ≠ 98 → ¬ (i = 94 ∧ (c = 5 ∨ c = 19)) → jcp (jm (jm B 94 19 0) 94 5 1) 95 0 98 0 466 i c = B i c := fun i c h1 h2 => by rw [jcp_n h1, jm_n (by omega), jm_n (by omega)]
  refine Con.mono (c_save (d := d) (Y := Y) I.hb (rL_z hL)) fun o k z => ⟨jm (jlg A 1 7) 0 2 1, jcp (jm (jm B 94 19 0) 94 5 1) 95 0 98 0 466, ?_, z.2, ⟨rel_save I.1, SBp_c I.2 fun i c q => by rw [jm_n (by omega), jlg_n (by omega)]⟩, fun c hc => hB 95 c (by omega) (by omega), fun c => hB 97 c (by omega) (by omega), fun c hc => ?_, hB 94 3 (by omega) (by omega), ?_, hB 94 9 (by omega) (by omega)⟩
  · rw [z.1, jm_n (by omega), jlg_n (by omega), show A 1 0 = nI t from hL.2.1, show B 95 0 = nI t from hL.2.2.1]
  · rw [show jcp (jm (jm B 94 19 0) 94 5 1) 95 0 98 0 466 98 c = jcp (jm (jm B 94 19 0) 94 5 1) 95 0 98 0 466 98 (0 + c) by rw [Nat.zero_add], jcp_at hc, Nat.zero_add, jm_n (by omega), jm_n (by omega)]
  · rw [jcp_n (by omega), jm_s]
/-- of n changes the last are kept: G i the league before change i -/
def HK (B : MM) (n : Nat) (G : Nat → Nat → Int32) : Prop := ∃ k, k ≤ 8 ∧ B 94 3 = nI k ∧ min n 8 ≤ k ∧ ∀ j, j < min n 8 → ∀ c, c < 466 → B 97 (466 * (k - 1 - j) + c) = G (n - 1 - j) c
theorem HK_0 {b : SBt} {A B : MM} (I : InvP b A B) (G : Nat → Nat → Int32) : HK B 0 G := by
  obtain ⟨τ, k, j, -, hk, -, -, h3, -⟩ := I.1
  exact ⟨k, hk, h3, by omega, fun j hj => absurd hj (by omega)⟩
theorem HK_same {B B1 : MM} {n : Nat} {G : Nat → Nat → Int32} (h : HK B n G) (hs : Same B B1) : HK B1 n G := by
  obtain ⟨k, h1, h2, h3, h4⟩ := h
  exact ⟨k, h1, hs.2.2.2.1.trans h2, h3, fun j hj c hc => (hs.2.1 _).trans (h4 j hj c hc)⟩
theorem HK_save {B B1 : MM} {n : Nat} {G : Nat → Nat → Int32} (h : HK B n G) (hs : SavB B B1) : HK B1 n G := by
  obtain ⟨k, h1, h2, h3, h4⟩ := h
  exact ⟨k, h1, hs.2.2.2.1.trans h2, h3, fun j hj c hc => (hs.2.1 _).trans (h4 j hj c hc)⟩
theorem HK_push {B B1 : MM} {n : Nat} {G : Nat → Nat → Int32} (h : HK B n G) (hp : PushB B B1) : HK B1 (n + 1) (fun i => if i = n then B 95 else G i) := by
  obtain ⟨k, h1, h2, h3, h4⟩ := h
  obtain ⟨k2, p1, p2, p3, p4, -⟩ := hp
  obtain rfl : k2 = k := (nI_eq (by omega) (by omega)).mp (p2.symm.trans h2)
  refine ⟨min (k2 + 1) 8, by omega, p3, by omega, fun j hj c hc => ?_⟩
  rw [p4 _ c (by omega) hc]
  by_cases e : j = 0
  · subst e
    rw [if_pos (by omega)]
    show _ = (if n + 1 - 1 - 0 = n then B 95 else G (n + 1 - 1 - 0)) c
    rw [if_pos (by omega)]
  · show _ = (if n + 1 - 1 - j = n then B 95 else G (n + 1 - 1 - j)) c
    rw [if_neg (show ¬ min (k2 + 1) 8 - 1 - j = min k2 7 by omega), if_neg (show ¬ n + 1 - 1 - j = n by omega)]
    have h5 := h4 (j - 1) (by omega) c hc
    rw [show n + 1 - 1 - j = n - 1 - (j - 1) by omega, ← h5]
    by_cases e8 : k2 = 8
    · rw [if_pos e8, show min (k2 + 1) 8 - 1 - j + 1 = k2 - 1 - (j - 1) by omega]
    · rw [if_neg e8, show min (k2 + 1) 8 - 1 - j = k2 - 1 - (j - 1) by omega]
/-- u of them are taken back -/
def HU (B : MM) (n can u k : Nat) (G : Nat → Nat → Int32) : Prop := k ≤ 8 ∧ can ≤ k ∧ u ≤ can ∧ B 94 3 = nI (k - u) ∧ ∀ j, j < can → ∀ c, c < 466 → B 97 (466 * (k - 1 - j) + c) = G (n - 1 - j) c
theorem HU_0 {B : MM} {n : Nat} {G : Nat → Nat → Int32} (h : HK B n G) : ∃ k, HU B n (min n 8) 0 k G := by
  obtain ⟨k, h1, h2, h3, h4⟩ := h
  exact ⟨k, h1, h3, Nat.zero_le _, h2, h4⟩
theorem P_undo {b : SBt} {Y : OUt} {A B : MM} {n can u k : Nat} {G : Nat → Nat → Int32} (I : InvP b A B) (h : HU B n can u k G) (hu : u < can) : SPc b Y A B yL_undo cL_undo 2 [(0, 4, 5, 101)] [.ref 0] (fun y B1 => y = nI (k - u - 1) ∧ HU B1 n can (u + 1) k G ∧ (∀ c, c < 466 → B1 95 c = G (n - 1 - u) c) ∧ (∀ c, B1 98 c = B 98 c) ∧ B1 94 5 = B 94 5) := by
  obtain ⟨h1, h2, h3, h4, h5⟩ := h
  refine (PU_ok I (k := k - u - 1) (by omega) (by rw [h4, show k - u - 1 + 1 = k - u by omega])).mono fun y B1 z => ?_
  obtain ⟨hy, u1, u2, u3, u4, u5⟩ := z
  refine ⟨hy, ⟨h1, h2, by omega, by rw [u4, show k - (u + 1) = k - u - 1 by omega], fun j hj c hc => (u2 _).trans (h5 j hj c hc)⟩, fun c hc => ?_, u3, u5⟩
  rw [u1 c hc, show k - u - 1 = k - 1 - u by omega]
  exact h5 u hu c hc
section JFc
variable {p : Program} {l : Launch} {e : Env} {R : Room} {s : State} {m : MethodId} {args : Array Value} {below : List Frame} {meth : Method} {c : Code} {D : va_G} {tyc : Nat → ClassId} {A0 : Nat → Prop} {n0 : Nat} {ad0 : Nat → Nat} {nL : Nat} {Qs : State → Prop}
variable {own : String} {cc : ByteArray} {pc : Nat} {L : List (Option Value)} {st : List Value} {g : MH} {cells slots idx n : Nat} {as st0 : List Value} {b : SBt} {Y : OUt} {A B : MM} {yL : MethodName} {cL : ByteArray} {mL : Nat} {hh : List (Nat × Nat × Nat × Nat)} {rt : Option FieldType}
theorem c_callR (x : j_X p l s m args meth c D tyc A0 own cc nL) {Z : Int32 → MM → Prop} (S : SPc b Y A B yL cL mL hh as Z) (hd : decode cc pc = .ok (.invokestatic idx, 3)) (hm : j_mH yL cL mL (some .int) hh n) (hw : Cond.methodLink own idx yL ∈ j_all) (ha : ∀ v ∈ as, j_ok (HH b Y A).1 v) (hn : as.length = n) (hst : st.length ≤ 4)
    (hfit : ∀ mc ms, mc ≤ 1 → ms ≤ 6 → j_fit R 20 mc ms cells slots) (h0 : st0 = (as.map (j_shv g.1)).reverse ++ st)
    (kk : ∀ v A1 B1, InvP b A1 B1 → Z v B1 → JJ p l e R s m args below meth c D tyc A0 n0 ad0 nL Qs (pc + 3) L (.int v :: st) (jcat g (HH b Y A1)) (cells + 1) (slots + 6)) : JJ p l e R s m args below meth c D tyc A0 n0 ad0 nL Qs pc L st0 (jcat g (HH b Y A)) cells slots := by
  obtain ⟨mc, ms, h1, h2, h3⟩ := S
  refine j_callHR x hd h3 hm hw ha hn hst (hfit mc ms h1 h2) h0 (fun E k z => by obtain ⟨_, _, _, q, _⟩ := z; cases q) (fun v1 k z => ?_)
  obtain ⟨v, A1, B1, q1, rfl, q2, q3⟩ := z
  cases q1
  exact j_widen (by omega) (by omega) (kk v A1 B1 q2 q3)
end JFc
