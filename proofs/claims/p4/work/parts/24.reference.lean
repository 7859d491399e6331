/-! ===== the reference: its rows, its small methods ===== -/
section J3
variable {p : Program} {l : Launch} {e : Env} {R : Room} {s : State} {m : MethodId} {args : Array Value} {below : List Frame} {meth : Method} {c : Code} {D : va_G} {tyc : Nat → ClassId} {A : Nat → Prop} {n0 : Nat} {ad0 : Nat → Nat} {nL : Nat} {Q : State → Prop}
variable {own : String} {cc : ByteArray} {pc : Nat} {L : List (Option Value)} {st : List Value} {b : SBt} {Y : OUt} {M : MM} {cells slots : Nat}
theorem j2_ialn (x : j_X p l s m args meth c D tyc A own cc nL) (hb : 104 ≤ b.2.1) {i n j : Nat} {k : Int32} (hd : decode cc pc = .ok (.iaload, 1)) (hf : fA i 100 n = true) (hk : vp_in k n) (hj : k.toNatClampNeg = j) (kk : JJ p l e R s m args below meth c D tyc A n0 ad0 nL Q (pc + 1) (L) (.int (M i j) :: st) (HH b Y (M)) (cells) (slots)) : JJ p l e R s m args below meth c D tyc A n0 ad0 nL Q (pc) (L) (.int k :: .ref i :: st) (HH b Y (M)) (cells) (slots) := by
  subst hj
  exact j2_iald x hb hd hf hk rfl kk
theorem j2_iasn (x : j_X p l s m args meth c D tyc A own cc nL) (hb : 104 ≤ b.2.1) {i n j : Nat} {k v : Int32} (hd : decode cc pc = .ok (.iastore, 1)) (hf : fA i 100 n = true) (hk : vp_in k n) (hj : k.toNatClampNeg = j) (kk : JJ p l e R s m args below meth c D tyc A n0 ad0 nL Q (pc + 1) (L) (st) (HH b Y (jm M i j v)) (cells) (slots)) : JJ p l e R s m args below meth c D tyc A n0 ad0 nL Q (pc) (L) (.int v :: .int k :: .ref i :: st) (HH b Y (M)) (cells) (slots) := by
  subst hj
  exact j2_iast x hb hd hf hk kk
theorem vp_c {k : Int32} {n : Nat} (h : ¬ (k < 0 ∨ n ≤ k.toNatClampNeg)) : vp_in k n := h
theorem jb_nar {p : Prop} [Decidable p] : narrow .boolean (.int (jb p)) = .int (jb p) := by
  by_cases h : p
  · rw [jb_t h]; rfl
  · rw [jb_f h]; rfl
/-- n elements of a, from ao on, laid into g from go on -/
def jcp (M : MM) (a ao g go n : Nat) : MM := fun c k => if c = g ∧ go ≤ k ∧ k < go + n then M a (k - go + ao) else M c k
theorem jcp_0 {M : MM} {a ao g go : Nat} : jcp M a ao g go 0 = M := by
  funext c k
  simp only [jcp, Nat.add_zero]
  rw [if_neg (by omega)]
theorem jcp_n {M : MM} {a ao g go n i k : Nat} (h : i ≠ g) : jcp M a ao g go n i k = M i k := by
  simp only [jcp]
  rw [if_neg (fun q => h q.1)]
theorem jcp_at {M : MM} {a ao g go n k : Nat} (h : k < n) : jcp M a ao g go n g (go + k) = M a (ao + k) := by
  unfold jcp
  rw [if_pos ⟨rfl, by omega, by omega⟩]
  congr 1
  omega
theorem jcp_out {M : MM} {a ao g go n k : Nat} (h : k < go ∨ go + n ≤ k) : jcp M a ao g go n g k = M g k := by
  simp only [jcp]
  rw [if_neg (by omega)]
theorem jcp_s {M : MM} {a ao g go j : Nat} (h : a ≠ g ∨ go ≤ ao) : jm (jcp M a ao g go j) g (go + j) (jcp M a ao g go j a (ao + j)) = jcp M a ao g go (j + 1) := by
  have e0 : jcp M a ao g go j a (ao + j) = M a (ao + j) := by
    simp only [jcp]
    rw [if_neg (by omega)]
  rw [e0]
  funext c k
  simp only [jm, jcp]
  by_cases h1 : c = g ∧ k = go + j
  · rw [if_pos h1, if_pos ⟨h1.1, by omega, by omega⟩, h1.2]
    congr 1
    omega
  · rw [if_neg h1]
    by_cases h2 : c = g ∧ go ≤ k ∧ k < go + j
    · rw [if_pos h2, if_pos ⟨h2.1, h2.2.1, by omega⟩]
    · rw [if_neg h2, if_neg (fun q => h2 ⟨q.1, q.2.1, by have := q.2.2; have h3 : k ≠ go + j := fun z => h1 ⟨q.1, z⟩; omega⟩)]
theorem j2_cpl (a ao g go n : Nat) (Lf : Nat → List (Option Value)) (hq : a ≠ g ∨ go ≤ ao) (hL : Lf 0 = L)
    (step : ∀ j, j < n → ∀ M1 : MM, M1 = jcp M a ao g go j → JJ p l e R s m args below meth c D tyc A n0 ad0 nL Q pc (Lf (j + 1)) st (HH b Y (jm M1 g (go + j) (M1 a (ao + j)))) cells slots → JJ p l e R s m args below meth c D tyc A n0 ad0 nL Q pc (Lf j) st (HH b Y M1) cells slots)
    (last : JJ p l e R s m args below meth c D tyc A n0 ad0 nL Q pc (Lf n) st (HH b Y (jcp M a ao g go n)) cells slots) : JJ p l e R s m args below meth c D tyc A n0 ad0 nL Q pc L st (HH b Y M) cells slots := by
  have key : ∀ r j, j + r = n → JJ p l e R s m args below meth c D tyc A n0 ad0 nL Q pc (Lf j) st (HH b Y (jcp M a ao g go j)) cells slots := by
    intro r
    induction r with
    | zero =>
      intro j hj
      have hjn : j = n := by omega
      subst hjn
      exact last
    | succ r ih =>
      intro j hj
      refine step j (by omega) _ rfl ?_
      rw [jcp_s hq]
      exact ih (j + 1) (by omega)
  have h0 := key n 0 (by omega)
  rw [jcp_0, hL] at h0
  exact h0
theorem j_freturn (x : j_X p l s m args meth c D tyc A own cc nL) {mc ms : Nat} {Q : MO → MH → Prop} {h : MH} {v : UInt32} (hr : meth.sig.returnType = some .float) (hd : decode cc pc = .ok (.freturn, 1)) (hc : cells ≤ mc) (hs : slots ≤ ms) (hq : Q (.inl (some (.float v))) h) : JJ p l e R s m args below meth c D tyc A n0 ad0 nL (vx_MQ below (j_Qc D tyc A n0 ad0 Q) (j_XC D tyc A n0 ad0 Q) args s mc ms A) pc L [.float v] h cells slots := by
  intro ad ls H locs I
  refine vx_ret (W.widen hc hs ?_)
  exact W.fret x.1 x.2.1 hr (fun t ht hW => ⟨some (.float v), h, ad, rfl, hq, fun w hw => by cases hw; exact j_ok_float, .of I ht⟩) I.2.2.2.1.2.2 hd x.2.2.2.2.2.2.2.1
theorem j_dreturn (x : j_X p l s m args meth c D tyc A own cc nL) {mc ms : Nat} {Q : MO → MH → Prop} {h : MH} {v : UInt64} (hr : meth.sig.returnType = some .double) (hd : decode cc pc = .ok (.dreturn, 1)) (hc : cells ≤ mc) (hs : slots ≤ ms) (hq : Q (.inl (some (.double v))) h) : JJ p l e R s m args below meth c D tyc A n0 ad0 nL (vx_MQ below (j_Qc D tyc A n0 ad0 Q) (j_XC D tyc A n0 ad0 Q) args s mc ms A) pc L [.double v] h cells slots := by
  intro ad ls H locs I
  refine vx_ret (W.widen hc hs ?_)
  exact W.dret x.1 x.2.1 hr (fun t ht hW => ⟨some (.double v), h, ad, rfl, hq, fun w hw => by cases hw; exact j_ok_double, .of I ht⟩) I.2.2.2.1.2.2 hd x.2.2.2.2.2.2.2.1
end J3
theorem cx_thrown {d : Nat} {b : SBt} {Y : OUt} {M : MM} (hb : 104 ≤ b.2.1)  : CM (d) 0 0 yX6_thrown cX6_thrown 1 (some .int) [.ref 94] b Y M (.inl (some (.int (M 94 19)))) (M) := by
  refine Con.of (by decide +kernel) (Nat.le_of_ble_eq_true rfl) rfl fun p l e s m args below meth c D tyc A ad0 x hr htab hname => ?_
  change JJ _ _ _ _ _ _ _ _ _ _ _ _ _ _ _ _ _ 0 [some (.ref 94)] [] _ 0 0
  refine j_aload_n x dX6_thrown_0 rfl ?_
  refine j2_geti (k := 19) x hb dX6_thrown_1 jc_10 wfX6_36 (by decide) rfl ?_
  exact j_ireturn x hr dX6_thrown_4 (by omega) (by omega) ⟨rfl, rfl⟩
def jrai (M : MM) (v : Int32) : MM := jm M 94 19 v
def jrefu (M : MM) (w t : Int32) : MM := jm (jm (jm M 94 14 w) 94 15 t) 94 17 (M 94 16)
def jtr (M : MM) : MM := jcp (jm (jm M 94 19 0) 94 16 0) 95 0 96 0 466
def jkp (M : MM) (u : Nat) : MM := jm (jcp M 96 0 97 (466 * u) 466) 94 3 (nI (u + 1))
theorem jtr_n {M : MM} {i k : Nat} (h : i < 94 ∨ i = 95 ∨ 96 < i) : jtr M i k = M i k := by
  unfold jtr
  rw [jcp_n (by omega), jm_n (by omega), jm_n (by omega)]
theorem jtr_f {M : MM} {k : Nat} (h : k ≠ 16) (h1 : k ≠ 19) : jtr M 94 k = M 94 k := by
  unfold jtr
  rw [jcp_n (by omega), jm_n (by omega), jm_n (by omega)]
theorem jtr_0 {M : MM} : jtr M 94 16 = 0 ∧ jtr M 94 19 = 0 := by
  unfold jtr
  refine ⟨?_, ?_⟩
  · rw [jcp_n (by omega), jm_s]
  · rw [jcp_n (by omega), jm_n (by omega), jm_s]
theorem cx_raises {d : Nat} {b : SBt} {Y : OUt} {M : MM} (hb : 104 ≤ b.2.1) {v : Int32} : CM (d) 0 0 yX6_raises cX6_raises 2 (some .int) [.ref 94, .int v] b Y M (.inl (some (.int (0)))) (jrai M v) := by
  refine Con.of (by decide +kernel) (Nat.le_of_ble_eq_true rfl) rfl fun p l e s m args below meth c D tyc A ad0 x hr htab hname => ?_
  change JJ _ _ _ _ _ _ _ _ _ _ _ _ _ _ _ _ _ 0 [some (.ref 94), some (.int v)] [] _ 0 0
  refine j_aload_n x dX6_raises_0 rfl ?_
  refine j_iload_n x dX6_raises_1 rfl ?_
  refine j2_puti (k := 19) x hb dX6_raises_2 jc_10 wfX6_36 (by decide) rfl rfl rfl rfl ?_
  refine j_iconst (v := 0) x dX6_raises_5 (by decide) ?_
  exact j_ireturn x hr dX6_raises_6 (by omega) (by omega) ⟨rfl, rfl⟩
theorem cx_in {d : Nat} {b : SBt} {Y : OUt} {M : MM} (hb : 104 ≤ b.2.1) {u v w : Int32} : CM (d) 0 0 yX6_in cX6_in 3 (some .boolean) [.int u, .int v, .int w] b Y M (.inl (some (.int (jb (¬ u < v ∧ ¬ w < u))))) (M) := by
  refine Con.of (by decide +kernel) (Nat.le_of_ble_eq_true rfl) rfl fun p l e s m args below meth c D tyc A ad0 x hr htab hname => ?_
  change JJ _ _ _ _ _ _ _ _ _ _ _ _ _ _ _ _ _ 0 [some (.int u), some (.int v), some (.int w)] [] _ 0 0
  refine j_iload_n x dX6_in_0 rfl ?_
  refine j_iload_n x dX6_in_1 rfl ?_
  refine j_icmp_lt (tgt := 14) x dX6_in_2 (by decide) (fun h1 => ?_) (fun h1 => ?_)
  · refine j_iconst (v := 0) x dX6_in_14 (by decide) ?_
    exact j_zreturn x hr dX6_in_15 (by first | decide | with_reducible exact jb_nar | with_reducible exact jisS_nar | with_reducible exact gno_nar) (by omega) (by omega) ⟨by rw [jb_f (fun q => q.1 h1)], rfl⟩
  · refine j_iload_n x dX6_in_5 rfl ?_
    refine j_iload_n x dX6_in_6 rfl ?_
    refine j_icmp_gt (tgt := 14) x dX6_in_7 (by decide) (fun h2 => ?_) (fun h2 => ?_)
    · refine j_iconst (v := 0) x dX6_in_14 (by decide) ?_
      exact j_zreturn x hr dX6_in_15 (by first | decide | with_reducible exact jb_nar | with_reducible exact jisS_nar | with_reducible exact gno_nar) (by omega) (by omega) ⟨by rw [jb_f (fun q => q.2 h2)], rfl⟩
    · refine j_iconst (v := 1) x dX6_in_10 (by decide) ?_
      refine j_goto (tgt := 15) x dX6_in_11 (by decide) ?_
      exact j_zreturn x hr dX6_in_15 (by first | decide | with_reducible exact jb_nar | with_reducible exact jisS_nar | with_reducible exact gno_nar) (by omega) (by omega) ⟨by rw [jb_t ⟨h1, h2⟩], rfl⟩
theorem cx_tries {d : Nat} {b : SBt} {Y : OUt} {M : MM} (hb : 104 ≤ b.2.1)  : CM (d) 0 0 yX6_tries cX6_tries 2 none [.ref 94] b Y M (.inl none) (jtr M) := by
  refine Con.of (by decide +kernel) (Nat.le_of_ble_eq_true rfl) rfl fun p l e s m args below meth c D tyc A ad0 x hr htab hname => ?_
  change JJ _ _ _ _ _ _ _ _ _ _ _ _ _ _ _ _ _ 0 [some (.ref 94), none] [] _ 0 0
  refine j_aload_n x dX6_tries_0 rfl ?_
  refine j_iconst (v := 0) x dX6_tries_1 (by decide) ?_
  refine j2_puti (k := 19) x hb dX6_tries_2 jc_10 wfX6_36 (by decide) rfl rfl rfl rfl ?_
  refine j_aload_n x dX6_tries_5 rfl ?_
  refine j_iconst (v := 0) x dX6_tries_6 (by decide) ?_
  refine j2_puti (k := 16) x hb dX6_tries_7 jc_10 wfX6_39 (by decide) rfl rfl rfl rfl ?_
  refine j_iconst (v := 0) x dX6_tries_10 (by decide) ?_
  refine j_istore_n x dX6_tries_11 (by decide) rfl ?_
  refine j2_cpl 95 0 96 0 466 (fun j => [some (.ref 94), some (.int (nI j))]) (Or.inl (by decide)) rfl (fun j hj M1 hM ih => ?_) ?_
  · refine j_iload_n x dX6_tries_12 rfl ?_
    refine j_sipush (v := 466) x dX6_tries_13 (by decide) ?_
    refine j_icmp_ge (tgt := 37) x dX6_tries_16 (by decide) (fun hc => absurd hc (nI_ge (b := 466) hj (by decide))) (fun hc => ?_)
    refine j_aload_n x dX6_tries_19 rfl ?_
    refine j2_getr (k := 1) (r := 96) x hb dX6_tries_20 jc_10 wfX6_13 (by decide) rfl ?_
    refine j_iload_n x dX6_tries_23 rfl ?_
    refine j_aload_n x dX6_tries_24 rfl ?_
    refine j2_getr (k := 0) (r := 95) x hb dX6_tries_25 jc_10 wfX6_9 (by decide) rfl ?_
    refine j_iload_n x dX6_tries_28 rfl ?_
    refine j2_ialn x hb dX6_tries_29 fa_95 (j := j) (vp_in_nI hj (by decide)) (nI_clamp (by omega)) ?_
    refine j2_iasn x hb dX6_tries_30 fa_96 (j := j) (vp_in_nI hj (by decide)) (nI_clamp (by omega)) ?_
    refine j_iinc x dX6_tries_31 rfl (by decide) rfl ?_
    refine j_goto (tgt := 12) x dX6_tries_34 (by decide) ?_
    have h9 := ih
    simp only [Nat.zero_add] at h9
    rw [← nI_1 j] at h9
    exact h9
  refine j_iload_n x dX6_tries_12 rfl ?_
  refine j_sipush (v := 466) x dX6_tries_13 (by decide) ?_
  refine j_icmp_ge (tgt := 37) x dX6_tries_16 (by decide) (fun hc => ?_) (fun hc => absurd (nI_le (Nat.le_refl 466) (by decide)) hc)
  exact j_return x hr dX6_tries_37 (by omega) (by omega) ⟨rfl, rfl⟩
theorem cx_comesBack {d : Nat} {b : SBt} {Y : OUt} {M : MM} (hb : 104 ≤ b.2.1)  : CM (d) 0 0 yX6_comesBack cX6_comesBack 2 none [.ref 94] b Y M (.inl none) (jcp M 96 0 95 0 466) := by
  refine Con.of (by decide +kernel) (Nat.le_of_ble_eq_true rfl) rfl fun p l e s m args below meth c D tyc A ad0 x hr htab hname => ?_
  change JJ _ _ _ _ _ _ _ _ _ _ _ _ _ _ _ _ _ 0 [some (.ref 94), none] [] _ 0 0
  refine j_iconst (v := 0) x dX6_comesBack_0 (by decide) ?_
  refine j_istore_n x dX6_comesBack_1 (by decide) rfl ?_
  refine j2_cpl 96 0 95 0 466 (fun j => [some (.ref 94), some (.int (nI j))]) (Or.inl (by decide)) rfl (fun j hj M1 hM ih => ?_) ?_
  · refine j_iload_n x dX6_comesBack_2 rfl ?_
    refine j_sipush (v := 466) x dX6_comesBack_3 (by decide) ?_
    refine j_icmp_ge (tgt := 27) x dX6_comesBack_6 (by decide) (fun hc => absurd hc (nI_ge (b := 466) hj (by decide))) (fun hc => ?_)
    refine j_aload_n x dX6_comesBack_9 rfl ?_
    refine j2_getr (k := 0) (r := 95) x hb dX6_comesBack_10 jc_10 wfX6_9 (by decide) rfl ?_
    refine j_iload_n x dX6_comesBack_13 rfl ?_
    refine j_aload_n x dX6_comesBack_14 rfl ?_
    refine j2_getr (k := 1) (r := 96) x hb dX6_comesBack_15 jc_10 wfX6_13 (by decide) rfl ?_
    refine j_iload_n x dX6_comesBack_18 rfl ?_
    refine j2_ialn x hb dX6_comesBack_19 fa_96 (j := j) (vp_in_nI hj (by decide)) (nI_clamp (by omega)) ?_
    refine j2_iasn x hb dX6_comesBack_20 fa_95 (j := j) (vp_in_nI hj (by decide)) (nI_clamp (by omega)) ?_
    refine j_iinc x dX6_comesBack_21 rfl (by decide) rfl ?_
    refine j_goto (tgt := 2) x dX6_comesBack_24 (by decide) ?_
    have h9 := ih
    simp only [Nat.zero_add] at h9
    rw [← nI_1 j] at h9
    exact h9
  refine j_iload_n x dX6_comesBack_2 rfl ?_
  refine j_sipush (v := 466) x dX6_comesBack_3 (by decide) ?_
  refine j_icmp_ge (tgt := 27) x dX6_comesBack_6 (by decide) (fun hc => ?_) (fun hc => absurd (nI_le (Nat.le_refl 466) (by decide)) hc)
  exact j_return x hr dX6_comesBack_27 (by omega) (by omega) ⟨rfl, rfl⟩
theorem cx_refuses {d : Nat} {b : SBt} {Y : OUt} {M : MM} (hb : 104 ≤ b.2.1) {v w : Int32} : CM (d) 0 0 yX6_refuses cX6_refuses 3 (some .boolean) [.ref 94, .int v, .int w] b Y M (.inl (some (.int (0)))) (jrefu M v w) := by
  refine Con.of (by decide +kernel) (Nat.le_of_ble_eq_true rfl) rfl fun p l e s m args below meth c D tyc A ad0 x hr htab hname => ?_
  change JJ _ _ _ _ _ _ _ _ _ _ _ _ _ _ _ _ _ 0 [some (.ref 94), some (.int v), some (.int w)] [] _ 0 0
  refine j_aload_n x dX6_refuses_0 rfl ?_
  refine j_iload_n x dX6_refuses_1 rfl ?_
  refine j2_puti (k := 14) x hb dX6_refuses_2 jc_10 wfX6_45 (by decide) rfl rfl rfl rfl ?_
  refine j_aload_n x dX6_refuses_5 rfl ?_
  refine j_iload_n x dX6_refuses_6 rfl ?_
  refine j2_puti (k := 15) x hb dX6_refuses_7 jc_10 wfX6_48 (by decide) rfl rfl rfl rfl ?_
  refine j_aload_n x dX6_refuses_10 rfl ?_
  refine j_aload_n x dX6_refuses_11 rfl ?_
  refine j2_geti (k := 16) x hb dX6_refuses_12 jc_10 wfX6_39 (by decide) rfl ?_
  refine j2_puti (k := 17) x hb dX6_refuses_15 jc_10 wfX6_51 (by decide) rfl rfl rfl rfl ?_
  refine j_iconst (v := 0) x dX6_refuses_18 (by decide) ?_
  exact j_zreturn x hr dX6_refuses_19 (by first | decide | with_reducible exact jb_nar | with_reducible exact jisS_nar | with_reducible exact gno_nar) (by omega) (by omega) ⟨rfl, rfl⟩
theorem cx_does {d : Nat} {b : SBt} {Y : OUt} {M : MM} (hb : 104 ≤ b.2.1) {v : Int32} : CM (d) 0 0 yX6_does cX6_does 2 (some .boolean) [.ref 94, .int v] b Y M (.inl (some (.int (1)))) (jm M 94 18 v) := by
  refine Con.of (by decide +kernel) (Nat.le_of_ble_eq_true rfl) rfl fun p l e s m args below meth c D tyc A ad0 x hr htab hname => ?_
  change JJ _ _ _ _ _ _ _ _ _ _ _ _ _ _ _ _ _ 0 [some (.ref 94), some (.int v)] [] _ 0 0
  refine j_aload_n x dX6_does_0 rfl ?_
  refine j_iload_n x dX6_does_1 rfl ?_
  refine j2_puti (k := 18) x hb dX6_does_2 jc_10 wfX6_54 (by decide) rfl rfl rfl rfl ?_
  refine j_iconst (v := 1) x dX6_does_5 (by decide) ?_
  exact j_zreturn x hr dX6_does_6 (by first | decide | with_reducible exact jb_nar | with_reducible exact jisS_nar | with_reducible exact gno_nar) (by omega) (by omega) ⟨rfl, rfl⟩
theorem cx_keeps {d : Nat} {b : SBt} {Y : OUt} {M : MM} (hb : 104 ≤ b.2.1) {v : Int32} {u : Nat} (hu : u < 8) (h0 : M 94 3 = nI u) : CM (d) 0 0 yX6_keeps cX6_keeps 3 (some .int) [.ref 94, .int v] b Y M (.inl (some (.int (v)))) (jkp M u) := by
  refine Con.of (by decide +kernel) (Nat.le_of_ble_eq_true rfl) rfl fun p l e s m args below meth c D tyc A ad0 x hr htab hname => ?_
  change JJ _ _ _ _ _ _ _ _ _ _ _ _ _ _ _ _ _ 0 [some (.ref 94), some (.int v), none] [] _ 0 0
  refine j_aload_n x dX6_keeps_0 rfl ?_
  refine j2_geti (k := 3) x hb dX6_keeps_1 jc_10 wfX6_42 (by decide) rfl ?_
  refine j_bipush (v := 8) x dX6_keeps_4 (by decide) ?_
  refine j_icmp_ne (tgt := 50) x dX6_keeps_6 (by decide) (fun hc => ?_) (fun hc => absurd hc (by rw [h0]; exact fun q => absurd ((nI_eq (by omega) (by decide)).mp (show nI u = nI 8 from q)) (by omega)))
  refine j_iconst (v := 0) x dX6_keeps_50 (by decide) ?_
  refine j_istore_n x dX6_keeps_51 (by decide) rfl ?_
  refine j2_cpl 96 0 97 (466 * u) 466 (fun j => [some (.ref 94), some (.int v), some (.int (nI j))]) (Or.inl (by decide)) rfl (fun j hj M1 hM ih => ?_) ?_
  · have h3 : M1 94 3 = nI u := by rw [hM, jcp_n (by omega), h0]
    have hix : (466 : Int32) * M1 94 3 + nI j = nI (466 * u + j) := by rw [h3, ← nI_add]; congr 1; exact (Int32.ofNat_mul 466 u).symm
    refine j_iload_n x dX6_keeps_52 rfl ?_
    refine j_sipush (v := 466) x dX6_keeps_53 (by decide) ?_
    refine j_icmp_ge (tgt := 86) x dX6_keeps_56 (by decide) (fun hc => absurd hc (nI_ge (b := 466) hj (by decide))) (fun hc => ?_)
    refine j_aload_n x dX6_keeps_59 rfl ?_
    refine j2_getr (k := 2) (r := 97) x hb dX6_keeps_60 jc_10 wfX6_16 (by decide) rfl ?_
    refine j_sipush (v := 466) x dX6_keeps_63 (by decide) ?_
    refine j_aload_n x dX6_keeps_66 rfl ?_
    refine j2_geti (k := 3) x hb dX6_keeps_67 jc_10 wfX6_42 (by decide) rfl ?_
    refine j_imul x dX6_keeps_70 ?_
    refine j_iload_n x dX6_keeps_71 rfl ?_
    refine j_iadd x dX6_keeps_72 ?_
    refine j_aload_n x dX6_keeps_73 rfl ?_
    refine j2_getr (k := 1) (r := 96) x hb dX6_keeps_74 jc_10 wfX6_13 (by decide) rfl ?_
    refine j_iload_n x dX6_keeps_77 rfl ?_
    refine j2_ialn x hb dX6_keeps_78 fa_96 (j := j) (vp_in_nI hj (by decide)) (nI_clamp (by omega)) ?_
    refine j2_iasn x hb dX6_keeps_79 fa_97 (j := 466 * u + j) (by rw [hix]; exact vp_in_nI (by omega) (by decide)) (by rw [hix]; exact nI_clamp (by omega)) ?_
    refine j_iinc x dX6_keeps_80 rfl (by decide) rfl ?_
    refine j_goto (tgt := 52) x dX6_keeps_83 (by decide) ?_
    have h9 := ih
    simp only [Nat.zero_add] at h9
    rw [← nI_1 j] at h9
    exact h9
  refine j_iload_n x dX6_keeps_52 rfl ?_
  refine j_sipush (v := 466) x dX6_keeps_53 (by decide) ?_
  refine j_icmp_ge (tgt := 86) x dX6_keeps_56 (by decide) (fun hc => ?_) (fun hc => absurd (nI_le (Nat.le_refl 466) (by decide)) hc)
  refine j_aload_n x dX6_keeps_86 rfl ?_
  refine j_dup x dX6_keeps_87 rfl ?_
  refine j2_geti (k := 3) x hb dX6_keeps_88 jc_10 wfX6_42 (by decide) rfl ?_
  refine j_iconst (v := 1) x dX6_keeps_91 (by decide) ?_
  refine j_iadd x dX6_keeps_92 ?_
  rw [jcp_n (by omega), h0, nI_1]; refine j2_puti (k := 3) x hb dX6_keeps_93 jc_10 wfX6_42 (by decide) rfl rfl rfl rfl ?_
  refine j_iload_n x dX6_keeps_96 rfl ?_
  exact j_ireturn x hr dX6_keeps_97 (by omega) (by omega) ⟨rfl, rfl⟩
theorem cx_ends_0 {d : Nat} {b : SBt} {Y : OUt} {M : MM} (hb : 104 ≤ b.2.1)  : CM (d + 1) 0 0 yX6_ends cX6_ends 2 (some .int) [.ref 94, .int 0] b Y M (.inl (some (.int (0)))) (jrai M 1) := by
  refine Con.of (by decide +kernel) (Nat.le_of_ble_eq_true rfl) rfl fun p l e s m args below meth c D tyc A ad0 x hr htab hname => ?_
  change JJ _ _ _ _ _ _ _ _ _ _ _ _ _ _ _ _ _ 0 [some (.ref 94), some (.int 0)] [] _ 0 0
  refine j_iload_n x dX6_ends_0 rfl ?_
  refine j_if_eq (tgt := 15) x dX6_ends_1 (by decide) (fun hc => ?_) (fun hc => absurd (rfl) hc)
  refine j_aload_n x dX6_ends_15 rfl ?_
  refine j_iconst (v := 1) x dX6_ends_16 (by decide) ?_
  refine j2_callVi x hb dX6_ends_17 m_X6_raises (cx_raises (d := d) hb) wmX6_61 jc_10 rfl rfl rfl (Nat.le_of_ble_eq_true rfl) (j_fit_rm (by omega) (by omega) (by omega)) rfl ?_
  exact j_ireturn x hr dX6_ends_20 (by omega) (by omega) ⟨rfl, rfl⟩
theorem cx_ends_1 {d : Nat} {b : SBt} {Y : OUt} {M : MM} (hb : 104 ≤ b.2.1) {u : Nat} (hu : u < 8) (h0 : M 94 3 = nI u) : CM (d + 1) 0 0 yX6_ends cX6_ends 2 (some .int) [.ref 94, .int 1] b Y M (.inl (some (.int (M 94 18)))) (jkp M u) := by
  refine Con.of (by decide +kernel) (Nat.le_of_ble_eq_true rfl) rfl fun p l e s m args below meth c D tyc A ad0 x hr htab hname => ?_
  change JJ _ _ _ _ _ _ _ _ _ _ _ _ _ _ _ _ _ 0 [some (.ref 94), some (.int 1)] [] _ 0 0
  refine j_iload_n x dX6_ends_0 rfl ?_
  refine j_if_eq (tgt := 15) x dX6_ends_1 (by decide) (fun hc => absurd hc (by decide)) (fun hc => ?_)
  refine j_aload_n x dX6_ends_4 rfl ?_
  refine j_aload_n x dX6_ends_5 rfl ?_
  refine j2_geti (k := 18) x hb dX6_ends_6 jc_10 wfX6_54 (by decide) rfl ?_
  refine j2_callVi x hb dX6_ends_9 m_X6_keeps (cx_keeps (d := d) hb hu h0) wmX6_57 jc_10 rfl rfl rfl (Nat.le_of_ble_eq_true rfl) (j_fit_rm (by omega) (by omega) (by omega)) rfl ?_
  refine j_goto (tgt := 20) x dX6_ends_12 (by decide) ?_
  exact j_ireturn x hr dX6_ends_20 (by omega) (by omega) ⟨rfl, rfl⟩
theorem cx_isTeam {d : Nat} {b : SBt} {Y : OUt} {M : MM} (hb : 104 ≤ b.2.1) {t : Int32} : CM (d + 1) 0 0 yX6_isTeam cX6_isTeam 2 (some .boolean) [.ref 94, .int t] b Y M (.inl (some (.int (jb (¬ t < 0 ∧ ¬ M 95 0 - 1 < t))))) (M) := by
  refine Con.of (by decide +kernel) (Nat.le_of_ble_eq_true rfl) rfl fun p l e s m args below meth c D tyc A ad0 x hr htab hname => ?_
  change JJ _ _ _ _ _ _ _ _ _ _ _ _ _ _ _ _ _ 0 [some (.ref 94), some (.int t)] [] _ 0 0
  refine j_iload_n x dX6_isTeam_0 rfl ?_
  refine j_iconst (v := 0) x dX6_isTeam_1 (by decide) ?_
  refine j_aload_n x dX6_isTeam_2 rfl ?_
  refine j2_getr (k := 0) (r := 95) x hb dX6_isTeam_3 jc_10 wfX6_9 (by decide) rfl ?_
  refine j_iconst (v := 0) x dX6_isTeam_6 (by decide) ?_
  refine j2_ialn x hb dX6_isTeam_7 fa_95 (j := 0) (vp_c (by decide)) (by decide) ?_
  refine j_iconst (v := 1) x dX6_isTeam_8 (by decide) ?_
  refine j_isub x dX6_isTeam_9 ?_
  refine j2_callSi x hb dX6_isTeam_10 m_X6_in (cx_in (d := d) hb) wmX6_64 rfl (Nat.le_of_ble_eq_true rfl) (j_fit_rm (by omega) (by omega) (by omega)) rfl ?_
  exact j_zreturn x hr dX6_isTeam_13 (by first | decide | with_reducible exact jb_nar | with_reducible exact jisS_nar | with_reducible exact gno_nar) (by omega) (by omega) ⟨rfl, rfl⟩
theorem cx_isMeeting {d : Nat} {b : SBt} {Y : OUt} {M : MM} (hb : 104 ≤ b.2.1) {t : Int32} : CM (d + 1) 0 0 yX6_isMeeting cX6_isMeeting 2 (some .boolean) [.ref 94, .int t] b Y M (.inl (some (.int (jb (¬ t < 0 ∧ ¬ M 95 9 - 1 < t))))) (M) := by
  refine Con.of (by decide +kernel) (Nat.le_of_ble_eq_true rfl) rfl fun p l e s m args below meth c D tyc A ad0 x hr htab hname => ?_
  change JJ _ _ _ _ _ _ _ _ _ _ _ _ _ _ _ _ _ 0 [some (.ref 94), some (.int t)] [] _ 0 0
  refine j_iload_n x dX6_isMeeting_0 rfl ?_
  refine j_iconst (v := 0) x dX6_isMeeting_1 (by decide) ?_
  refine j_aload_n x dX6_isMeeting_2 rfl ?_
  refine j2_getr (k := 0) (r := 95) x hb dX6_isMeeting_3 jc_10 wfX6_9 (by decide) rfl ?_
  refine j_bipush (v := 9) x dX6_isMeeting_6 (by decide) ?_
  refine j2_ialn x hb dX6_isMeeting_8 fa_95 (j := 9) (vp_c (by decide)) (by decide) ?_
  refine j_iconst (v := 1) x dX6_isMeeting_9 (by decide) ?_
  refine j_isub x dX6_isMeeting_10 ?_
  refine j2_callSi x hb dX6_isMeeting_11 m_X6_in (cx_in (d := d) hb) wmX6_64 rfl (Nat.le_of_ble_eq_true rfl) (j_fit_rm (by omega) (by omega) (by omega)) rfl ?_
  exact j_zreturn x hr dX6_isMeeting_14 (by first | decide | with_reducible exact jb_nar | with_reducible exact jisS_nar | with_reducible exact gno_nar) (by omega) (by omega) ⟨rfl, rfl⟩
theorem cx_isWeek {d : Nat} {b : SBt} {Y : OUt} {M : MM} (hb : 104 ≤ b.2.1) {t : Int32} : CM (d + 1) 0 0 yX6_isWeek cX6_isWeek 2 (some .boolean) [.ref 94, .int t] b Y M (.inl (some (.int (jb (¬ t < 0 ∧ ¬ M 95 1 - 1 < t))))) (M) := by
  refine Con.of (by decide +kernel) (Nat.le_of_ble_eq_true rfl) rfl fun p l e s m args below meth c D tyc A ad0 x hr htab hname => ?_
  change JJ _ _ _ _ _ _ _ _ _ _ _ _ _ _ _ _ _ 0 [some (.ref 94), some (.int t)] [] _ 0 0
  refine j_iload_n x dX6_isWeek_0 rfl ?_
  refine j_iconst (v := 0) x dX6_isWeek_1 (by decide) ?_
  refine j_aload_n x dX6_isWeek_2 rfl ?_
  refine j2_getr (k := 0) (r := 95) x hb dX6_isWeek_3 jc_10 wfX6_9 (by decide) rfl ?_
  refine j_iconst (v := 1) x dX6_isWeek_6 (by decide) ?_
  refine j2_ialn x hb dX6_isWeek_7 fa_95 (j := 1) (vp_c (by decide)) (by decide) ?_
  refine j_iconst (v := 1) x dX6_isWeek_8 (by decide) ?_
  refine j_isub x dX6_isWeek_9 ?_
  refine j2_callSi x hb dX6_isWeek_10 m_X6_in (cx_in (d := d) hb) wmX6_64 rfl (Nat.le_of_ble_eq_true rfl) (j_fit_rm (by omega) (by omega) (by omega)) rfl ?_
  exact j_zreturn x hr dX6_isWeek_13 (by first | decide | with_reducible exact jb_nar | with_reducible exact jisS_nar | with_reducible exact gno_nar) (by omega) (by omega) ⟨rfl, rfl⟩
theorem cx_isDrawn {d : Nat} {b : SBt} {Y : OUt} {M : MM} (hb : 104 ≤ b.2.1)  : CM (d) 0 0 yX6_isDrawn cX6_isDrawn 1 (some .boolean) [.ref 94] b Y M (.inl (some (.int (jb (¬ M 95 1 ≤ 0))))) (M) := by
  refine Con.of (by decide +kernel) (Nat.le_of_ble_eq_true rfl) rfl fun p l e s m args below meth c D tyc A ad0 x hr htab hname => ?_
  change JJ _ _ _ _ _ _ _ _ _ _ _ _ _ _ _ _ _ 0 [some (.ref 94)] [] _ 0 0
  refine j_aload_n x dX6_isDrawn_0 rfl ?_
  refine j2_getr (k := 0) (r := 95) x hb dX6_isDrawn_1 jc_10 wfX6_9 (by decide) rfl ?_
  refine j_iconst (v := 1) x dX6_isDrawn_4 (by decide) ?_
  refine j2_ialn x hb dX6_isDrawn_5 fa_95 (j := 1) (vp_c (by decide)) (by decide) ?_
  refine j_if_le (tgt := 13) x dX6_isDrawn_6 (by decide) (fun h1 => ?_) (fun h1 => ?_)
  · refine j_iconst (v := 0) x dX6_isDrawn_13 (by decide) ?_
    exact j_zreturn x hr dX6_isDrawn_14 (by first | decide | with_reducible exact jb_nar | with_reducible exact jisS_nar | with_reducible exact gno_nar) (by omega) (by omega) ⟨by rw [jb_f (fun q => q h1)], rfl⟩
  · refine j_iconst (v := 1) x dX6_isDrawn_9 (by decide) ?_
    refine j_goto (tgt := 14) x dX6_isDrawn_10 (by decide) ?_
    exact j_zreturn x hr dX6_isDrawn_14 (by first | decide | with_reducible exact jb_nar | with_reducible exact jisS_nar | with_reducible exact gno_nar) (by omega) (by omega) ⟨by rw [jb_t h1], rfl⟩
theorem cx_places {d : Nat} {b : SBt} {Y : OUt} {M : MM} (hb : 104 ≤ b.2.1)  : CM (d) 0 0 yX6_places cX6_places 1 (some .int) [.ref 94] b Y M (.inl (some (.int (M 95 0 + (M 95 0 - M 95 0 / 2 * 2))))) (M) := by
  refine Con.of (by decide +kernel) (Nat.le_of_ble_eq_true rfl) rfl fun p l e s m args below meth c D tyc A ad0 x hr htab hname => ?_
  change JJ _ _ _ _ _ _ _ _ _ _ _ _ _ _ _ _ _ 0 [some (.ref 94)] [] _ 0 0
  refine j_aload_n x dX6_places_0 rfl ?_
  refine j2_getr (k := 0) (r := 95) x hb dX6_places_1 jc_10 wfX6_9 (by decide) rfl ?_
  refine j_iconst (v := 0) x dX6_places_4 (by decide) ?_
  refine j2_ialn x hb dX6_places_5 fa_95 (j := 0) (vp_c (by decide)) (by decide) ?_
  refine j_aload_n x dX6_places_6 rfl ?_
  refine j2_getr (k := 0) (r := 95) x hb dX6_places_7 jc_10 wfX6_9 (by decide) rfl ?_
  refine j_iconst (v := 0) x dX6_places_10 (by decide) ?_
  refine j2_ialn x hb dX6_places_11 fa_95 (j := 0) (vp_c (by decide)) (by decide) ?_
  refine j_iconst (v := 2) x dX6_places_12 (by decide) ?_
  refine j_irem x dX6_places_13 (by decide) ?_
  refine j_iadd x dX6_places_14 ?_
  exact j_ireturn x hr dX6_places_15 (by omega) (by omega) ⟨rfl, rfl⟩
theorem cx_played_0 {d : Nat} {b : SBt} {Y : OUt} {M : MM} (hb : 104 ≤ b.2.1) (h0 : M 95 9 = 0) : CM (d) 0 0 yX6_played cX6_played 3 (some .int) [.ref 94] b Y M (.inl (some (.int (0)))) (M) := by
  refine Con.of (by decide +kernel) (Nat.le_of_ble_eq_true rfl) rfl fun p l e s m args below meth c D tyc A ad0 x hr htab hname => ?_
  change JJ _ _ _ _ _ _ _ _ _ _ _ _ _ _ _ _ _ 0 [some (.ref 94), none, none] [] _ 0 0
  refine j_iconst (v := 0) x dX6_played_0 (by decide) ?_
  refine j_istore_n x dX6_played_1 (by decide) rfl ?_
  refine j_iconst (v := 0) x dX6_played_2 (by decide) ?_
  refine j_istore_n x dX6_played_3 (by decide) rfl ?_
  refine j_iload_n x dX6_played_4 rfl ?_
  refine j_aload_n x dX6_played_5 rfl ?_
  refine j2_getr (k := 0) (r := 95) x hb dX6_played_6 jc_10 wfX6_9 (by decide) rfl ?_
  refine j_bipush (v := 9) x dX6_played_9 (by decide) ?_
  refine j2_ialn x hb dX6_played_11 fa_95 (j := 9) (vp_c (by decide)) (by decide) ?_
  refine j_icmp_ge (tgt := 30) x dX6_played_12 (by decide) (fun hc => ?_) (fun hc => absurd (by rw [h0]; decide) hc)
  refine j_iload_n x dX6_played_30 rfl ?_
  exact j_ireturn x hr dX6_played_31 (by omega) (by omega) ⟨rfl, rfl⟩
theorem cx_goals_0 {d : Nat} {b : SBt} {Y : OUt} {M : MM} (hb : 104 ≤ b.2.1) (h0 : M 95 9 = 0) : CM (d) 0 0 yX6_goals cX6_goals 3 (some .int) [.ref 94] b Y M (.inl (some (.int (0)))) (M) := by
  refine Con.of (by decide +kernel) (Nat.le_of_ble_eq_true rfl) rfl fun p l e s m args below meth c D tyc A ad0 x hr htab hname => ?_
  change JJ _ _ _ _ _ _ _ _ _ _ _ _ _ _ _ _ _ 0 [some (.ref 94), none, none] [] _ 0 0
  refine j_iconst (v := 0) x dX6_goals_0 (by decide) ?_
  refine j_istore_n x dX6_goals_1 (by decide) rfl ?_
  refine j_iconst (v := 0) x dX6_goals_2 (by decide) ?_
  refine j_istore_n x dX6_goals_3 (by decide) rfl ?_
  refine j_iload_n x dX6_goals_4 rfl ?_
  refine j_aload_n x dX6_goals_5 rfl ?_
  refine j2_getr (k := 0) (r := 95) x hb dX6_goals_6 jc_10 wfX6_9 (by decide) rfl ?_
  refine j_bipush (v := 9) x dX6_goals_9 (by decide) ?_
  refine j2_ialn x hb dX6_goals_11 fa_95 (j := 9) (vp_c (by decide)) (by decide) ?_
  refine j_icmp_ge (tgt := 47) x dX6_goals_12 (by decide) (fun hc => ?_) (fun hc => absurd (by rw [h0]; decide) hc)
  refine j_iload_n x dX6_goals_47 rfl ?_
  exact j_ireturn x hr dX6_goals_48 (by omega) (by omega) ⟨rfl, rfl⟩
