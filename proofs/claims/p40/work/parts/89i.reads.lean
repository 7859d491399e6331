/-! ===== reads; the two texts that are refused ===== -/
theorem InvP.tx {b : SBt} {A B : MM} (I : InvP b A B) : rTx A B := by
  obtain ⟨τ, k, j, -, -, -, -, -, -, -, -, -, -, h, -⟩ := I.1
  exact h
theorem gcR_t {B : MM} {n i n2 c : Nat} (hu : tsg (B 100) n (ppo (B 100) n c) = 116) : gcR (gB0 B n i) n n2 c = rRules (p1 (B 100) n (ppo (B 100) n c)) (p2 (B 100) n (ppo (B 100) n c)) (p3 (B 100) n (ppo (B 100) n c)) := by
  have e100 : gB0 B n i 100 = B 100 := by rw [gB0_t]; funext k; exact jtr_at (by omega) (by omega)
  have eS : gse (gB0 B n i) n n2 c 100 = B 100 := by rw [gse_t]; exact e100
  have ou : gqp (gB0 B n i) n n2 c 94 11 = 116 := by rw [gqp_o, e100]; exact hu
  have o1 : gqp (gB0 B n i) n n2 c 101 0 = p1 (B 100) n (ppo (B 100) n c) := by
    rw [gqp_101, gcm_0, e100, eS, if_neg (by rw [hu]; decide)]
  have o2 : gqp (gB0 B n i) n n2 c 101 1 = p2 (B 100) n (ppo (B 100) n c) := by
    rw [gqp_101, gcm_1, e100, eS, if_neg (by rw [hu]; decide)]
  have o3 : gqp (gB0 B n i) n n2 c 101 2 = p3 (B 100) n (ppo (B 100) n c) := by
    rw [gqp_101, gcm_2, e100, eS, if_pos (Or.inr hu)]
  unfold gcR gcref
  rw [ou, o1, o2, o3, if_neg (by decide), if_neg (by decide), if_neg (by decide), if_neg (by decide)]
def tT (k : Nat) : Int32 := if k = 0 then 116 else if k = 1 then 59 else if k = 2 then 116 else 49
theorem gcR_x {B : MM} {n2 : Nat} (hT : tsg (B 100) 5 = tsg tT 5) : gcR (gB0 B 5 1) 5 n2 0 = none ∧ gcR (gB0 B 5 1) 5 n2 1 = some (13, 1) := by
  constructor
  · rw [gcR_t (by rw [ppo_e hT, hT]; decide +kernel), ppo_e hT, p1_e hT, p2_e hT, p3_e hT]
    decide +kernel
  · rw [gcR_t (by rw [ppo_e hT, hT]; decide +kernel), ppo_e hT, p1_e hT, p2_e hT, p3_e hT]
    decide +kernel
theorem P_bad_t {b : SBt} {Y : OUt} {A B : MM} (I : InvP b A B) (h9 : B 94 9 = nI 5) (h100 : ∀ i, i < 5 → B 100 i = tT i) : SPc b Y A B yL_commands cL_commands 2 [(0, 4, 5, 47), (0, 4, 10, 13)] [.ref 0] (fun y B1 => y = -1002 ∧ RefI B B1 13 1 1) := by
  have hT : tsg (B 100) 5 = tsg tT 5 := tsg_e h100
  refine (PC_B I h9 (by decide) (i := 1) (by decide) (fun j hj => ?_) ?_ ?_).mono fun y B1 z => ?_
  · obtain rfl : j = 0 := by omega
    exact (pgo_e hT).mpr ⟨by decide +kernel, by decide +kernel⟩
  · rw [ppo_e hT, pF_e hT]; decide +kernel
  · rw [ppo_e hT, pN_e hT, hT]; decide +kernel
  · rcases z with ⟨i0, r, z2, n2, g1, -, -, g4, g5, hy, hR⟩ | ⟨hy, ⟨n2, -, g⟩, -⟩
    · rcases (show i0 = 0 ∨ i0 = 1 by omega) with rfl | rfl
      · rw [(gcR_x hT).1] at g5
        cases g5
      · rw [(gcR_x hT).2] at g5
        have e := Option.some.inj g5
        obtain rfl : (13 : Int32) = r := congrArg Prod.fst e
        obtain rfl : (1 : Int32) = z2 := congrArg Prod.snd e
        exact ⟨hy, hR⟩
    · have h := g 1 (by omega)
      rw [(gcR_x hT).2] at h
      cases h
theorem P_bad_q {b : SBt} {Y : OUt} {A B : MM} (I : InvP b A B) (h9 : B 94 9 = nI 1) (h100 : ∀ i, i < 1 → B 100 i = 113) : SPc b Y A B yL_commands cL_commands 2 [(0, 4, 5, 47), (0, 4, 10, 13)] [.ref 0] (fun y B1 => y = -1001 ∧ FltB B B1 0) := by
  have hT : tsg (B 100) 1 = tsg (fun _ => 113) 1 := tsg_e h100
  exact PC_A I h9 (by decide) (i := 0) (by decide) (fun j hj => absurd hj (Nat.not_lt_zero j)) (by rw [ppo_e hT, pF_e hT]; decide +kernel)
/-- k signs of the text are taken -/
def Rd (B : MM) (xs : Nat → Int32) (k : Nat) (B1 : MM) : Prop := Same B B1 ∧ (B1 94 14 = B 94 14 ∧ B1 94 15 = B 94 15 ∧ B1 94 17 = B 94 17) ∧ (B 94 9 = 0 → B1 94 9 = nI k ∧ ∀ i, i < k → B1 100 i = sch (xs i))
theorem Rd_0 {B : MM} {xs : Nat → Int32} : Rd B xs 0 B := ⟨Same_0, ⟨rfl, rfl, rfl⟩, fun z => ⟨z, fun i hi => absurd hi (Nat.not_lt_zero i)⟩⟩
theorem Rd_s {B B1 B2 : MM} {xs : Nat → Int32} {k mm q : Nat} (hk : k < 60) (hR : Rd B xs k B1) (hA : AppB B1 B2 mm q) (hm : mm < 60) (h9 : B1 94 9 = nI mm) (e : sch (xs k) = nI q) : Rd B xs (k + 1) B2 := by
  obtain ⟨a1, a2, a3, -, a5, a6, a7⟩ := hA
  obtain ⟨r1, ⟨r2, r3, r4⟩, r5⟩ := hR
  refine ⟨Same_t r1 a1, ⟨a5.trans r2, a6.trans r3, a7.trans r4⟩, fun z => ?_⟩
  obtain ⟨s1, s2⟩ := r5 z
  obtain rfl : mm = k := (nI_eq (by omega) (by omega)).mp (h9.symm.trans s1)
  refine ⟨a2, fun i hi => ?_⟩
  rw [a3 i]
  by_cases c : i = mm
  · subst c
    rw [if_pos rfl, e]
  · rw [if_neg c]
    exact s2 i (by omega)
theorem c_reads {d : Nat} {b : SBt} {Y : OUt} {A B : MM} {a v n : Nat} {xs : Nat → Int32} {Z : Int32 → MM → Prop} (hn : n ≤ 60) (I : InvP b A B) (hf : (∀ B1, Same B B1 → Z (-9999) B1) ∨ B 94 9 = 0) (hC : ∀ A1 B1, InvP b A1 B1 → Rd B xs n B1 → SPc b Y A1 B1 yL_commands cL_commands 2 [(0, 4, 5, 47), (0, 4, 10, 13)] [.ref 0] Z) : ConP (d + 21) (n + 1) (6 * n + 6) yL_reads cL_reads 3 (some .int) [.ref 0, .retAddr a] (HH b Y A) (kstr a v n xs) (fun o k => ∃ y A1 B1, o = .inl (some (.int y)) ∧ k = HH b Y A1 ∧ InvP b A1 B1 ∧ Z y B1) := by
  refine ConP.of (by decide +kernel) (Nat.le_of_ble_eq_true rfl) rfl fun p l e s m args below meth c D0 tyc A0 ad0 x hr htab hname hX => ?_
  change JJ _ _ _ _ _ _ _ _ _ _ _ _ _ _ _ _ _ 0 [some (.ref 0), some (.retAddr a), none] [] _ 0 0
  refine j_iconst (v := 0) x dL_reads_0 (by decide) ?_
  refine j_istore_n x dL_reads_1 (by decide) rfl ?_
  refine c_loop n (fun j => [some (.ref 0), some (.retAddr a), some (.int (nI j))]) (fun j B1 => Rd B xs j B1) 0 0 1 6 I Rd_0 (wk_c rfl (wk_c rfl (wk_c rfl wk_0))) (by omega) (by omega) (fun j hj A1 B1 I1 hR kk => ?_) (fun A1 B1 I1 hR => ?_)
  · refine j_iload_n x dL_reads_2 rfl ?_
    refine j_aload_nR x dL_reads_3 rfl ?_
    refine j_callK hX x dL_reads_4 (c_slength (d := 0)) m_J0_length_8abf5 wmL_138 rfl rfl (Nat.le_of_ble_eq_true rfl) (j_fit_rm (by omega) (by omega) (by omega)) rfl (fun E k z => by cases z.1) (fun v k z => ?_)
    obtain ⟨z1, rfl⟩ := z
    cases z1
    refine j_icmp_ge (tgt := 35) x dL_reads_7 (by decide) (fun hc => absurd hc (nI_ge hj (by omega))) (fun _ => ?_)
    refine j_aload_n x dL_reads_10 rfl ?_
    refine j_aload_nR x dL_reads_11 rfl ?_
    refine j_iload_n x dL_reads_12 rfl ?_
    refine j_callK hX x dL_reads_13 (c_schar (d := 0) I1.hb hj (by omega)) m_J0_charAt_5068e wmL_143 rfl rfl (Nat.le_of_ble_eq_true rfl) (j_fit_rm (by omega) (by omega) (by omega)) rfl (fun E k z => by cases z.1) (fun v k z => ?_)
    obtain ⟨z1, rfl⟩ := z
    cases z1
    obtain ⟨q, hq, eq⟩ := i2c_n (xs j &&& 255)
    refine j_top (show sch (xs j) = nI q from eq) ?_
    obtain ⟨mm, hm60, -, h9, -⟩ := I1.tx
    by_cases hm : mm < 60
    · refine c_call x (PA_ok (Y := Y) I1 hm h9 hq) dL_reads_16 m_L_append (by decide) wmL_146 rfl (Nat.le_of_ble_eq_true rfl) (fun mc ms z1 z2 => j_fit_rm (by omega) (by omega) (by omega)) rfl (fun y A2 B2 I2 hc => ?_)
      obtain ⟨rfl, hA⟩ := hc
      refine j_iload_n x dL_reads_19 rfl ?_
      refine j_iconst (v := 1) x dL_reads_20 (by decide) ?_
      refine j_iadd x dL_reads_21 ?_
      refine j_icmp_eq (tgt := 29) x dL_reads_22 (by decide) (fun hc => ?_) (fun hc => ?_)
      · refine j_iinc x dL_reads_29 rfl (by decide) rfl ?_
        refine j_goto (tgt := 2) x dL_reads_32 (by decide) ?_
        exact kk _ _ _ _ _ I2 (Rd_s (by omega) hR hA hm h9 eq) (wk_c rfl (wk_c rfl (wk_c (congrArg (fun z => some (Value.int z)) (nI_1 _)) wk_0))) (by omega) (by omega)
      · refine j_sipush (v := -9999) x dL_reads_25 (by decide) ?_
        exact j_ireturn x hr dL_reads_28 (by omega) (by omega) ⟨_, A2, B2, rfl, rfl, I2, hf.elim (fun z => z _ (Same_t hR.1 hA.1)) (fun z => absurd (by
          have := (nI_eq (by omega) (by omega)).mp (h9.symm.trans (hR.2.2 z).1)
          rw [this, nI_1]) hc)⟩
    · obtain rfl : mm = 60 := by omega
      refine c_call x (PA_no (Y := Y) I1 h9) dL_reads_16 m_L_append (by decide) wmL_146 rfl (Nat.le_of_ble_eq_true rfl) (fun mc ms z1 z2 => j_fit_rm (by omega) (by omega) (by omega)) rfl (fun y A2 B2 I2 hc => ?_)
      obtain ⟨rfl, rfl⟩ := hc
      refine j_iload_n x dL_reads_19 rfl ?_
      refine j_iconst (v := 1) x dL_reads_20 (by decide) ?_
      refine j_iadd x dL_reads_21 ?_
      refine j_icmp_eq (tgt := 29) x dL_reads_22 (by decide) (fun hc => absurd (hc.trans (nI_1 j)).symm (nI_m1001 (by omega))) (fun hc => ?_)
      refine j_sipush (v := -9999) x dL_reads_25 (by decide) ?_
      exact j_ireturn x hr dL_reads_28 (by omega) (by omega) ⟨_, A2, B2, rfl, rfl, I2, hf.elim (fun z => z _ hR.1) (fun z => absurd ((nI_eq (by omega) (by omega)).mp (h9.symm.trans (hR.2.2 z).1)) (by omega))⟩
  · refine j_iload_n x dL_reads_2 rfl ?_
    refine j_aload_nR x dL_reads_3 rfl ?_
    refine j_callK hX x dL_reads_4 (c_slength (d := 0)) m_J0_length_8abf5 wmL_138 rfl rfl (Nat.le_of_ble_eq_true rfl) (j_fit_rm (by omega) (by omega) (by omega)) rfl (fun E k z => by cases z.1) (fun v k z => ?_)
    obtain ⟨z1, rfl⟩ := z
    cases z1
    refine j_icmp_ge (tgt := 35) x dL_reads_7 (by decide) (fun _ => ?_) (fun hc => absurd (nI_le (Nat.le_refl _) (by omega)) hc)
    refine j_aload_n x dL_reads_35 rfl ?_
    refine c_call x (hC A1 B1 I1 hR) dL_reads_36 m_L_commands (by decide) wmL_151 rfl (Nat.le_of_ble_eq_true rfl) (fun mc ms z1 z2 => j_fit_rm (by omega) (by omega) (by omega)) rfl (fun y A2 B2 I2 hc => ?_)
    exact j_ireturn x hr dL_reads_39 (by omega) (by omega) ⟨y, A2, B2, rfl, rfl, I2, hc⟩
/-- from a league where no text lies: what stays behind a text that is refused -/
def BadZ (B B1 : MM) (f r z i : Int32) : Prop := Same B B1 ∧ B1 94 9 = 0 ∧ B1 94 13 = f ∧ B1 94 14 = r ∧ B1 94 15 = z ∧ B1 94 17 = i
theorem c_reads_q {d : Nat} {b : SBt} {Y : OUt} {A B : MM} {a v : Nat} {xs : Nat → Int32} (hx : ∀ i, i < 1 → sch (xs i) = 113) (I : InvP b A B) (h9 : B 94 9 = 0) : ConP (d + 21) 2 12 yL_reads cL_reads 3 (some .int) [.ref 0, .retAddr a] (HH b Y A) (kstr a v 1 xs) (fun o k => ∃ y A1 B1, o = .inl (some (.int y)) ∧ k = HH b Y A1 ∧ InvP b A1 B1 ∧ y = -1001 ∧ BadZ B B1 0 (B 94 14) (B 94 15) (B 94 17)) :=
  c_reads (n := 1) (Z := fun y B1 => y = -1001 ∧ BadZ B B1 0 (B 94 14) (B 94 15) (B 94 17)) (by decide) I (Or.inr h9) fun A1 B1 I1 hR => (P_bad_q I1 (hR.2.2 h9).1 (fun i hi => ((hR.2.2 h9).2 i hi).trans (hx i hi))).mono fun y B2 z => ⟨z.1, Same_t hR.1 z.2.1, z.2.2.1, z.2.2.2.1, z.2.2.2.2.1.trans hR.2.1.1, z.2.2.2.2.2.1.trans hR.2.1.2.1, z.2.2.2.2.2.2.trans hR.2.1.2.2⟩
theorem c_reads_t {d : Nat} {b : SBt} {Y : OUt} {A B : MM} {a v : Nat} {xs : Nat → Int32} (hx : ∀ i, i < 5 → sch (xs i) = tT i) (I : InvP b A B) (h9 : B 94 9 = 0) : ConP (d + 21) 6 36 yL_reads cL_reads 3 (some .int) [.ref 0, .retAddr a] (HH b Y A) (kstr a v 5 xs) (fun o k => ∃ y A1 B1, o = .inl (some (.int y)) ∧ k = HH b Y A1 ∧ InvP b A1 B1 ∧ y = -1002 ∧ BadZ B B1 (-1) 13 1 1) :=
  c_reads (n := 5) (Z := fun y B1 => y = -1002 ∧ BadZ B B1 (-1) 13 1 1) (by decide) I (Or.inr h9) fun A1 B1 I1 hR => (P_bad_t I1 (hR.2.2 h9).1 (fun i hi => ((hR.2.2 h9).2 i hi).trans (hx i hi))).mono fun y B2 z => ⟨z.1, Same_t hR.1 z.2.1, z.2.2.1, z.2.2.2.1, z.2.2.2.2.1, z.2.2.2.2.2.1, z.2.2.2.2.2.2⟩
/-- any text of up to 60 signs -/
theorem c_reads_z {d : Nat} {b : SBt} {Y : OUt} {A B : MM} {a v n : Nat} {xs : Nat → Int32} (hn : n ≤ 60) (I : InvP b A B) : ConP (d + 21) (n + 1) (6 * n + 6) yL_reads cL_reads 3 (some .int) [.ref 0, .retAddr a] (HH b Y A) (kstr a v n xs) (fun o k => ∃ y A1 B1, o = .inl (some (.int y)) ∧ k = HH b Y A1 ∧ InvP b A1 B1 ∧ CmdZ B y B1) :=
  c_reads (Z := CmdZ B) hn I (Or.inl fun B1 hs => Or.inl ⟨by decide, hs⟩) fun A1 B1 I1 hR => (P_commands I1).mono fun y B2 z => by
    rcases z with ⟨h1, h2⟩ | ⟨h1, h2, h3, h4⟩
    · exact Or.inl ⟨h1, Same_t hR.1 h2⟩
    · obtain ⟨h4, h5⟩ := h4
      obtain ⟨k, k1, k2, k3, k4, k5, k6⟩ := h2
      obtain ⟨s1, s2, s3, s4, s5⟩ := hR.1
      exact Or.inr ⟨h1, ⟨k, k1, s4.symm.trans k2, k3, fun i c hi hc => by rw [k4 i c hi hc, s1 c hc, s2, s2], fun c => (k5 c).trans (s3 c), k6.trans s5⟩, h3.trans (s1 1 (by omega)), h4.trans (s1 0 (by omega)), fun c hc => (h5 c hc).trans (s1 (10 + c) (by omega))⟩
