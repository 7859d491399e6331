/-! ===== rows of the class: reading, writing, filling, copying ===== -/
def jb (p : Prop) [Decidable p] : Int32 := if p then 1 else 0
theorem jb_t {p : Prop} [Decidable p] (h : p) : jb p = 1 := if_pos h
theorem jb_f {p : Prop} [Decidable p] (h : ¬ p) : jb p = 0 := if_neg h
theorem jb_0 {p : Prop} [Decidable p] : jb p = 0 ↔ ¬ p := by
  by_cases h : p
  · rw [jb_t h]; exact ⟨fun q => absurd q (by decide), fun q => absurd h q⟩
  · rw [jb_f h]; exact ⟨fun _ => h, fun _ => rfl⟩
theorem jb_nz {p : Prop} [Decidable p] : ¬ jb p = 0 ↔ p := by rw [jb_0]; exact Decidable.not_not
theorem jix_in {t : Int32} {n : Nat} (hn : n < 2 ^ 31) (h0 : ¬ t < 0) (h1 : ¬ Int32.ofNat n ≤ t) : vp_in t n := by
  rcases pk_ix t hn with h | h | ⟨j, hj, rfl⟩
  · exact absurd h h0
  · exact absurd h h1
  · exact vp_in_nI hj hn
theorem jix_out {t : Int32} {n : Nat} (hn : n < 2 ^ 31) (h1 : Int32.ofNat n ≤ t) : t < 0 ∨ n ≤ t.toNatClampNeg := by
  by_cases h : t < 0 ∨ n ≤ t.toNatClampNeg
  · exact h
  · obtain ⟨j, hj, rfl⟩ := vp_in_of (show vp_in t n from h) hn
    exact absurd h1 (nI_ge hj hn)
/-- what at() answers of a row of n ints -/
def jat (n : Nat) (f : Nat → Int32) (t : Int32) : Int32 := if t < 0 ∨ n ≤ t.toNatClampNeg then 0 else f t.toNatClampNeg
def jput (n : Nat) (M : MM) (i : Nat) (t v : Int32) : MM := if t < 0 ∨ n ≤ t.toNatClampNeg then M else jm M i t.toNatClampNeg v
theorem jat_nI {n j : Nat} {f : Nat → Int32} (h : j < n) (hn : n < 2 ^ 31) : jat n f (nI j) = f j := by
  unfold jat
  rw [if_neg (vp_in_nI h hn), nI_clamp (by omega)]
theorem jput_nI {n j : Nat} {M : MM} {i : Nat} {v : Int32} (h : j < n) (hn : n < 2 ^ 31) : jput n M i (nI j) v = jm M i j v := by
  unfold jput
  rw [if_neg (vp_in_nI h hn), nI_clamp (by omega)]
/-- a row filled with v; a row copied onto another -/
def jfill (M : MM) (i n : Nat) (v : Int32) : MM := fun a k => if a = i ∧ k < n then v else M a k
def jrow (M : MM) (a b n : Nat) : MM := fun c k => if c = b ∧ k < n then M a k else M c k
/-- at(row, t) -/
theorem c_at {d : Nat} {b : SBt} {Y : OUt} {M : MM} (hb : 94 ≤ b.2.1) {i n : Nat} {t : Int32} (hf : fA i 100 n = true) (hn : n < 2 ^ 31) : CM (d) 0 0 yX5_at cX5_at 2 (some .int) [.ref i, .int t] b Y M (.inl (some (.int (jat n (M i) t)))) (M) := by
  refine Con.of (by decide +kernel) (Nat.le_of_ble_eq_true rfl) rfl fun p l e s m args below meth c D tyc A ad0 x hr htab hname => ?_
  change JJ _ _ _ _ _ _ _ _ _ _ _ _ _ _ _ _ _ 0 [some (.ref i), some (.int t)] [] _ 0 0
  refine j_iload_n x dX5_at_0 rfl ?_
  refine j_if_lt (tgt := 16) x dX5_at_1 (by decide) (fun h1 => ?_) (fun h1 => ?_)
  · refine j_iconst (v := 0) x dX5_at_16 (by decide) ?_
    exact j_ireturn x hr dX5_at_17 (by omega) (by omega) ⟨by rw [jat, if_pos (Or.inl h1)], rfl⟩
  · refine j_iload_n x dX5_at_4 rfl ?_
    refine j_aload_n x dX5_at_5 rfl ?_
    refine j2_alen x hb dX5_at_6 hf (by decide) rfl ?_
    refine j_icmp_ge (tgt := 16) x dX5_at_7 (by decide) (fun h2 => ?_) (fun h2 => ?_)
    · refine j_iconst (v := 0) x dX5_at_16 (by decide) ?_
      exact j_ireturn x hr dX5_at_17 (by omega) (by omega) ⟨by rw [jat, if_pos (jix_out hn h2)], rfl⟩
    · refine j_aload_n x dX5_at_10 rfl ?_
      refine j_iload_n x dX5_at_11 rfl ?_
      refine j2_iald x hb dX5_at_12 hf (jix_in hn h1 h2) rfl ?_
      refine j_goto (tgt := 17) x dX5_at_13 (by decide) ?_
      exact j_ireturn x hr dX5_at_17 (by omega) (by omega) ⟨by rw [jat, if_neg (jix_in hn h1 h2)], rfl⟩
/-- put(row, t, v) -/
theorem c_put {d : Nat} {b : SBt} {Y : OUt} {M : MM} (hb : 94 ≤ b.2.1) {i n : Nat} {t v : Int32} (hf : fA i 100 n = true) (hn : n < 2 ^ 31) : CM (d) 0 0 yX5_put cX5_put 3 none [.ref i, .int t, .int v] b Y M (.inl none) (jput n M i t v) := by
  refine Con.of (by decide +kernel) (Nat.le_of_ble_eq_true rfl) rfl fun p l e s m args below meth c D tyc A ad0 x hr htab hname => ?_
  change JJ _ _ _ _ _ _ _ _ _ _ _ _ _ _ _ _ _ 0 [some (.ref i), some (.int t), some (.int v)] [] _ 0 0
  refine j_iload_n x dX5_put_0 rfl ?_
  refine j_if_lt (tgt := 14) x dX5_put_1 (by decide) (fun h1 => ?_) (fun h1 => ?_)
  · exact j_return x hr dX5_put_14 (by omega) (by omega) ⟨rfl, by rw [jput, if_pos (Or.inl h1)]⟩
  · refine j_iload_n x dX5_put_4 rfl ?_
    refine j_aload_n x dX5_put_5 rfl ?_
    refine j2_alen x hb dX5_put_6 hf (by decide) rfl ?_
    refine j_icmp_ge (tgt := 14) x dX5_put_7 (by decide) (fun h2 => ?_) (fun h2 => ?_)
    · exact j_return x hr dX5_put_14 (by omega) (by omega) ⟨rfl, by rw [jput, if_pos (jix_out hn h2)]⟩
    · refine j_aload_n x dX5_put_10 rfl ?_
      refine j_iload_n x dX5_put_11 rfl ?_
      refine j_iload_n x dX5_put_12 rfl ?_
      refine j2_iast x hb dX5_put_13 hf (jix_in hn h1 h2) ?_
      exact j_return x hr dX5_put_14 (by omega) (by omega) ⟨rfl, by rw [jput, if_neg (jix_in hn h1 h2)]⟩
/-- raise(row, t, v) -/
theorem c_raise {d : Nat} {b : SBt} {Y : OUt} {M : MM} (hb : 94 ≤ b.2.1) {i n : Nat} {t v : Int32} (hf : fA i 100 n = true) (hn : n < 2 ^ 31) : CM (d) 0 0 yX5_raise cX5_raise 3 none [.ref i, .int t, .int v] b Y M (.inl none) (jput n M i t (M i t.toNatClampNeg + v)) := by
  refine Con.of (by decide +kernel) (Nat.le_of_ble_eq_true rfl) rfl fun p l e s m args below meth c D tyc A ad0 x hr htab hname => ?_
  change JJ _ _ _ _ _ _ _ _ _ _ _ _ _ _ _ _ _ 0 [some (.ref i), some (.int t), some (.int v)] [] _ 0 0
  refine j_iload_n x dX5_raise_0 rfl ?_
  refine j_if_lt (tgt := 17) x dX5_raise_1 (by decide) (fun h1 => ?_) (fun h1 => ?_)
  · exact j_return x hr dX5_raise_17 (by omega) (by omega) ⟨rfl, by rw [jput, if_pos (Or.inl h1)]⟩
  · refine j_iload_n x dX5_raise_4 rfl ?_
    refine j_aload_n x dX5_raise_5 rfl ?_
    refine j2_alen x hb dX5_raise_6 hf (by decide) rfl ?_
    refine j_icmp_ge (tgt := 17) x dX5_raise_7 (by decide) (fun h2 => ?_) (fun h2 => ?_)
    · exact j_return x hr dX5_raise_17 (by omega) (by omega) ⟨rfl, by rw [jput, if_pos (jix_out hn h2)]⟩
    · refine j_aload_n x dX5_raise_10 rfl ?_
      refine j_iload_n x dX5_raise_11 rfl ?_
      refine j_dup2 x dX5_raise_12 rfl rfl ?_
      refine j2_iald x hb dX5_raise_13 hf (jix_in hn h1 h2) rfl ?_
      refine j_iload_n x dX5_raise_14 rfl ?_
      refine j_iadd x dX5_raise_15 ?_
      refine j2_iast x hb dX5_raise_16 hf (jix_in hn h1 h2) ?_
      exact j_return x hr dX5_raise_17 (by omega) (by omega) ⟨rfl, by rw [jput, if_neg (jix_in hn h1 h2)]⟩
/-- fillRow(row, v) -/
theorem c_fillRow {d : Nat} {b : SBt} {Y : OUt} {M : MM} (hb : 94 ≤ b.2.1) {i n : Nat} {v : Int32} (hf : fA i 100 n = true) (hn : n < 2 ^ 31) : CM (d) 0 0 yX5_fillRow cX5_fillRow 3 none [.ref i, .int v] b Y M (.inl none) (jfill M i n v) := by
  refine Con.of (by decide +kernel) (Nat.le_of_ble_eq_true rfl) rfl fun p l e s m args below meth c D tyc A ad0 x hr htab hname => ?_
  change JJ _ _ _ _ _ _ _ _ _ _ _ _ _ _ _ _ _ 0 [some (.ref i), some (.int v), none] [] _ 0 0
  have key : ∀ (r j : Nat), j + r = n → j ≤ n → ∀ M1 : MM, M1 = jfill M i j v → JJ p l e (j_rm d 0 0) s m args below meth c D tyc A (HH b Y M).1 ad0 3 (vx_MQ below (j_Qc D tyc A (HH b Y M).1 ad0 (jres b Y (.inl none) (jfill M i n v))) (j_XC D tyc A (HH b Y M).1 ad0 (jres b Y (.inl none) (jfill M i n v))) args s 0 0 A) 2 [some (.ref i), some (.int v), some (.int (nI j))] [] (HH b Y M1) 0 0 := by
    intro r
    induction r with
    | zero =>
      intro j hj hj2 M1 hM
      have hjn : j = n := by omega
      subst hjn
      have he : HH b Y M1 = HH b Y (jfill M i j v) := by rw [hM]
      refine j_iload_n x dX5_fillRow_2 rfl ?_
      refine j_aload_n x dX5_fillRow_3 rfl ?_
      refine j2_alen x hb dX5_fillRow_4 hf (by decide) rfl ?_
      refine j_icmp_ge (tgt := 18) x dX5_fillRow_5 (by decide) (fun hc => ?_) (fun hc => absurd (nI_le (Nat.le_refl j) hn) hc)
      exact j_return x hr dX5_fillRow_18 (by omega) (by omega) ⟨rfl, he⟩
    | succ r ih =>
      intro j hj hj2 M1 hM
      have hlt : j < n := by omega
      refine j_iload_n x dX5_fillRow_2 rfl ?_
      refine j_aload_n x dX5_fillRow_3 rfl ?_
      refine j2_alen x hb dX5_fillRow_4 hf (by decide) rfl ?_
      refine j_icmp_ge (tgt := 18) x dX5_fillRow_5 (by decide) (fun hc => absurd hc (nI_ge hlt hn)) (fun hc => ?_)
      refine j_aload_n x dX5_fillRow_8 rfl ?_
      refine j_iload_n x dX5_fillRow_9 rfl ?_
      refine j_iload_n x dX5_fillRow_10 rfl ?_
      refine j2_iast x hb dX5_fillRow_11 hf (vp_in_nI hlt hn) ?_
      refine j_iinc x dX5_fillRow_12 rfl (by decide) rfl ?_
      refine j_goto (tgt := 2) x dX5_fillRow_15 (by decide) ?_
      have h9 := ih (j + 1) (by omega) (by omega) (jm M1 i (nI j).toNatClampNeg v) (by
        rw [hM, nI_clamp (by omega)]
        funext a k
        simp only [jm, jfill]
        by_cases h1 : a = i ∧ k = j
        · rw [if_pos h1, if_pos ⟨h1.1, by omega⟩]
        · rw [if_neg h1]
          by_cases h2 : a = i ∧ k < j
          · rw [if_pos h2, if_pos ⟨h2.1, by omega⟩]
          · rw [if_neg h2, if_neg (fun q => h1 ⟨q.1, by have := q.2; have h3 : ¬ k < j := fun z => h2 ⟨q.1, z⟩; omega⟩)])
      rw [← nI_1 j] at h9
      exact h9
  refine j_iconst (v := 0) x dX5_fillRow_0 (by decide) ?_
  refine j_istore_n x dX5_fillRow_1 (by decide) rfl ?_
  exact key n 0 (by omega) (by omega) M (by funext a k; simp [jfill])
theorem jcpy_row {b : SBt} {Y : OUt} {M : MM} {a i n : Nat} (ha : fA a 100 n = true) (hi : fA i 100 n = true) : j_wr (HH b Y M) i (((HH b Y M).2 i).1, ((HH b Y M).2 i).2.1, jcpy ((HH b Y M).2 a).2.2 ((HH b Y M).2 i).2.2 0 0 n) = HH b Y (jrow M a i n) := by
  obtain ⟨a1, a2, a3, a4, a5, a6⟩ := fA_spec ha b Y M
  obtain ⟨i1, i2, i3, i4, i5, i6⟩ := fA_spec hi b Y M
  obtain ⟨-, -, -, -, -, i7⟩ := fA_spec hi b Y (jrow M a i n)
  refine Prod.ext rfl (funext fun z => ?_)
  show ju (HH b Y M).2 i _ z = _
  by_cases hz : z = i
  · subst hz
    rw [ju_s]
    show (hT z, hLen b z, jcpy (hF b Y M a) (hF b Y M z) 0 0 n) = (hT z, hLen b z, hF b Y (jrow M a z n) z)
    rw [i7, a6, i6]
    congr 2
    funext k
    simp only [jcpy, jrow, j_int, Nat.zero_add, Nat.zero_le, true_and, Nat.sub_zero]
    by_cases hk : k < n <;> simp [hk]
  · rw [ju_n hz]
    show (hT z, hLen b z, hF b Y M z) = (hT z, hLen b z, hF b Y (jrow M a i n) z)
    congr 2
    funext k
    simp only [hF, jrow, hz, false_and, if_false]
/-- copyRow(row a, row i), of one length -/
theorem c_copyRow {d : Nat} {b : SBt} {Y : OUt} {M : MM} (hb : 94 ≤ b.2.1) {a i n : Nat} (ha : fA a 100 n = true) (hi : fA i 100 n = true) (hn : n < 2 ^ 31) : CM (d) 0 0 yX5_copyRow cX5_copyRow 2 none [.ref a, .ref i] b Y M (.inl none) (jrow M a i n) := by
  refine Con.of (by decide +kernel) (Nat.le_of_ble_eq_true rfl) rfl fun p l e s m args below meth c D tyc A ad0 x hr htab hname => ?_
  change JJ _ _ _ _ _ _ _ _ _ _ _ _ _ _ _ _ _ 0 [some (.ref a), some (.ref i)] [] _ 0 0
  obtain ⟨a1, a2, a3, -⟩ := fA_spec ha b Y M
  obtain ⟨i1, i2, i3, -⟩ := fA_spec hi b Y M
  have hnc : (nI n).toNatClampNeg = n := nI_clamp hn
  refine j_aload_n x dX5_copyRow_0 rfl ?_
  refine j_iconst (v := 0) x dX5_copyRow_1 (by decide) ?_
  refine j_aload_n x dX5_copyRow_2 rfl ?_
  refine j_iconst (v := 0) x dX5_copyRow_3 (by decide) ?_
  refine j_aload_n x dX5_copyRow_4 rfl ?_
  refine j2_alen x hb dX5_copyRow_5 ha (by decide) rfl ?_
  refine j_aload_n x dX5_copyRow_6 rfl ?_
  refine j2_alen x hb dX5_copyRow_7 hi (by decide) rfl ?_
  refine j_min x wmath dX5_copyRow_8 wmX5_475 (Nat.le_of_ble_eq_true rfl) (Nat.zero_le _) (Nat.zero_le _) ?_
  have e1 : (if Int32.ofNat n < Int32.ofNat n then Int32.ofNat n else Int32.ofNat n) = nI n := by split <;> rfl
  rw [e1]
  refine j_copy x wcp dX5_copyRow_11 wmX5_478 (Nat.le_of_ble_eq_true rfl) (show a < b.2.1 by omega) a2 (show i < b.2.1 by omega) i2 (by decide) (by decide) (nI_pos hn) (by rw [hnc]; show 0 + n ≤ hLen b a; rw [hLen_lo (by omega), a3]; omega) (by rw [hnc]; show 0 + n ≤ hLen b i; rw [hLen_lo (by omega), i3]; omega) ?_
  rw [hnc]
  rw [show j_wr (HH b Y M) i (((HH b Y M).2 i).1, ((HH b Y M).2 i).2.1, jcpy ((HH b Y M).2 a).2.2 ((HH b Y M).2 i).2.2 (0 : Int32).toNatClampNeg (0 : Int32).toNatClampNeg n) = HH b Y (jrow M a i n) from jcpy_row ha hi]
  exact j_return x hr dX5_copyRow_14 (by omega) (by omega) ⟨rfl, rfl⟩
