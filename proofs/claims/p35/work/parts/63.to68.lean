section
/-! ===== the class: the order of the teams; means ===== -/
theorem j_down {p : Program} {l : Launch} {e : Env} {R : Room} {s : State} {m : MethodId} {args : Array Value} {below : List Frame} {meth : Method} {c : Code} {D : va_G} {tyc : Nat → ClassId} {A : Nat → Prop} {n0 : Nat} {ad0 : Nat → Nat} {nL : Nat} {Q : State → Prop} {pc : Nat} {L : List (Option Value)} {st : List Value} {b : SBt} {Y : OUt} {M : MM} {cells slots : Nat} (n : Nat) (Lf : Nat → List (Option Value)) (P : Nat → MM → Prop) (hL : Lf n = L) (h0 : P n M)
    (stop : ∀ N, P 0 N → JJ p l e R s m args below meth c D tyc A n0 ad0 nL Q pc (Lf 0) st (HH b Y N) cells slots)
    (step : ∀ q N, P (q + 1) N → (∀ N2, P q N2 → JJ p l e R s m args below meth c D tyc A n0 ad0 nL Q pc (Lf q) st (HH b Y N2) cells slots) → JJ p l e R s m args below meth c D tyc A n0 ad0 nL Q pc (Lf (q + 1)) st (HH b Y N) cells slots) : JJ p l e R s m args below meth c D tyc A n0 ad0 nL Q pc L st (HH b Y M) cells slots := by
  subst hL
  have key : ∀ q N, P q N → JJ p l e R s m args below meth c D tyc A n0 ad0 nL Q pc (Lf q) st (HH b Y N) cells slots := by
    intro q
    induction q with
    | zero => exact stop
    | succ q ih => exact fun N hN => step q N hN ih
  exact key n M h0
theorem j_up {p : Program} {l : Launch} {e : Env} {R : Room} {s : State} {m : MethodId} {args : Array Value} {below : List Frame} {meth : Method} {c : Code} {D : va_G} {tyc : Nat → ClassId} {A : Nat → Prop} {n0 : Nat} {ad0 : Nat → Nat} {nL : Nat} {Q : State → Prop} {pc : Nat} {L : List (Option Value)} {st : List Value} {b : SBt} {Y : OUt} {M : MM} {cells slots : Nat} (n : Nat) (Lf : Nat → List (Option Value)) (P : Nat → MM → Prop) (hL : Lf 0 = L) (h0 : P 0 M)
    (step : ∀ j N, j < n → P j N → (∀ N2, P (j + 1) N2 → JJ p l e R s m args below meth c D tyc A n0 ad0 nL Q pc (Lf (j + 1)) st (HH b Y N2) cells slots) → JJ p l e R s m args below meth c D tyc A n0 ad0 nL Q pc (Lf j) st (HH b Y N) cells slots)
    (last : ∀ N, P n N → JJ p l e R s m args below meth c D tyc A n0 ad0 nL Q pc (Lf n) st (HH b Y N) cells slots) : JJ p l e R s m args below meth c D tyc A n0 ad0 nL Q pc L st (HH b Y M) cells slots := by
  subst hL
  have key : ∀ r j N, j + r = n → P j N → JJ p l e R s m args below meth c D tyc A n0 ad0 nL Q pc (Lf j) st (HH b Y N) cells slots := by
    intro r
    induction r with
    | zero =>
      intro j N hj hP
      have hjn : j = n := by omega
      subst hjn
      exact last N hP
    | succ r ih =>
      intro j N hj hP
      exact step j N (by omega) hP (fun N2 h2 => ih (j + 1) N2 (by omega) h2)
  exact key n 0 M (by omega) h0
/-- a team is put into its place among those before it -/
def jins (r t : Nat) : Nat → MM → MM
  | 0, M => jm M 85 0 (nI t)
  | q + 1, M => if jah M r (nI t) (M 85 q) = 0 then jm M 85 (q + 1) (nI t) else jins r t q (jm M 85 (q + 1) (M 85 q))
def jso (M : MM) (r : Nat) : Nat → MM
  | 0 => M
  | j + 1 => jins r j j (jso M r j)
theorem jins_n {r t i k : Nat} (h : i ≠ 85) : ∀ (q : Nat) (M : MM), jins r t q M i k = M i k
  | 0, M => jm_n (by omega)
  | q + 1, M => by
    rw [jins]
    split
    · exact jm_n (by omega)
    · rw [jins_n h q]; exact jm_n (by omega)
theorem jso_n {M : MM} {r i k : Nat} (h : i ≠ 85) : ∀ j, jso M r j i k = M i k
  | 0 => rfl
  | j + 1 => by rw [jso, jins_n h]; exact jso_n h j
theorem nI_dn (q : Nat) : nI (q + 1) - 1 = nI q := by rw [← nI_1]; exact Int32.add_sub_cancel _ _
theorem nI_dn2 (q : Nat) : nI (q + 1) + Int32.ofInt (-1) = nI q := by rw [← nI_1, Int32.add_assoc, show (1 : Int32) + Int32.ofInt (-1) = 0 from by decide, Int32.add_zero]
theorem nI_pos0 {q : Nat} (h : q < 1000) : ¬ nI (q + 1) ≤ 0 := nI_nle (by omega) (by omega)
theorem c_sortTeams {d : Nat} {b : SBt} {Y : OUt} {M : MM} (hb : 104 ≤ b.2.1) {w : Nat} (hw : w ≤ 8) (h0 : M 1 0 = nI w) {r : Nat} (hr3 : r ≤ 3) (h6 : M 1 6 = nI r) (hru : ∀ i, i < r → M 3 i = 0 ∨ M 3 i = 1 ∨ M 3 i = 2 ∨ M 3 i = 3 ∨ M 3 i = 4) : CM (d + 3) 0 0 yX5_sortTeams cX5_sortTeams 3 none [.ref 0] b Y M (.inl none) (jso M r w) := by
  refine Con.of (by decide +kernel) (Nat.le_of_ble_eq_true rfl) rfl fun p l e s m args below meth c D tyc A ad0 x hr htab hname => ?_
  change JJ _ _ _ _ _ _ _ _ _ _ _ _ _ _ _ _ _ 0 [some (.ref 0), none, none] [] _ 0 0
  refine j_iconst (v := 0) x dX5_sortTeams_0 (by decide) ?_
  refine j_istore_n x dX5_sortTeams_1 (by decide) rfl ?_
  refine j_for (w) (fun z0 => [some (.ref 0), some (.int (nI z0)), none]) (fun z0 => jso M r z0) (fun z0 => ∀ i k, i ≠ 85 → jso M r (z0) i k = M i k) (rfl) (rfl) (fun _ _ _ => rfl) (fun j hj hP ih => ?_) (fun hP => ?_)
  · refine j_iload_n x dX5_sortTeams_2 rfl ?_
    refine j_aload_n x dX5_sortTeams_3 rfl ?_
    refine j2_getr (k := 0) (r := 1) x hb dX5_sortTeams_4 jc_9 wfX5_10 (by decide) rfl ?_
    refine j2_geti (k := 0) x hb dX5_sortTeams_7 jc_6 wfX5_80 (by decide) rfl ?_; rw [hP 1 0 (by decide), h0]
    refine j_icmp_ge (tgt := 76) x dX5_sortTeams_10 (by decide) (fun hc => absurd hc (nI_ge hj (by omega))) (fun hc => ?_)
    refine j_iload_n x dX5_sortTeams_13 rfl ?_
    refine j_istore_n x dX5_sortTeams_14 (by decide) rfl ?_
    refine j_down j (fun q0 => [some (.ref 0), some (.int (nI j)), some (.int (nI q0))]) (fun q0 N => q0 ≤ j ∧ (∀ i k, i ≠ 85 → N i k = M i k) ∧ jins r j q0 N = jso M r (j + 1)) rfl ⟨Nat.le_refl _, fun i k h => jso_n h j, rfl⟩ (fun N hN => ?_) (fun q0 N hN ih2 => ?_)
    · refine j_iload_n x dX5_sortTeams_15 rfl ?_
      refine j_if_le (tgt := 61) x dX5_sortTeams_16 (by decide) (fun hc => ?_) (fun hc => absurd (by decide) hc)
      refine j_aload_n x dX5_sortTeams_61 rfl ?_
      refine j2_getr (k := 6) (r := 85) x hb dX5_sortTeams_62 jc_9 wfX5_40 (by decide) rfl ?_
      refine j_iload_n x dX5_sortTeams_65 rfl ?_
      refine j_iload_n x dX5_sortTeams_66 rfl ?_
      refine j2_callSv x hb dX5_sortTeams_67 m_X5_put (c_put (d := d) hb fa_85 (by decide)) wmX5_83 rfl (Nat.le_of_ble_eq_true rfl) (j_fit_rm (by omega) (by omega) (by omega)) rfl ?_
      refine j_iinc x dX5_sortTeams_70 rfl (by decide) rfl ?_
      refine j_goto (tgt := 2) x dX5_sortTeams_73 (by decide) ?_
      exact j_goal (ih (fun i k h => jso_n h (j + 1))) (wk_c rfl (wk_c (congrArg (fun z => some (Value.int z)) (nI_1 _)) (wk_n (wk_0)))) (by rw [← hN.2.2, jins, jput_nI (by omega) (by decide)])
    · have hq8 := hN.1
      refine j_iload_n x dX5_sortTeams_15 rfl ?_
      refine j_if_le (tgt := 61) x dX5_sortTeams_16 (by decide) (fun hc => absurd hc (nI_pos0 (by omega))) (fun hc => ?_)
      refine j_aload_n x dX5_sortTeams_19 rfl ?_
      refine j_iload_n x dX5_sortTeams_20 rfl ?_
      refine j_aload_n x dX5_sortTeams_21 rfl ?_
      refine j2_getr (k := 6) (r := 85) x hb dX5_sortTeams_22 jc_9 wfX5_40 (by decide) rfl ?_
      refine j_iload_n x dX5_sortTeams_25 rfl ?_
      refine j_iconst (v := 1) x dX5_sortTeams_26 (by decide) ?_
      refine j_isub x dX5_sortTeams_27 ?_; rw [nI_dn]
      refine j2_callSi x hb dX5_sortTeams_28 m_X5_at (CM_v (c_at (d := d) hb fa_85 (by decide)) (jat_nI (show q0 < 8 by omega) (by decide))) wmX5_93 rfl (Nat.le_of_ble_eq_true rfl) (j_fit_rm (by omega) (by omega) (by omega)) rfl ?_
      refine j2_callVi x hb dX5_sortTeams_31 m_X5_isAhead (c_isAhead (d := d) hb hr3 ((hN.2.1 1 6 (by decide)).trans h6) (fun i hi => by rw [hN.2.1 3 i (by decide)]; exact hru i hi)) wmX5_274 jc_9 rfl rfl rfl (Nat.le_of_ble_eq_true rfl) (j_fit_rm (by omega) (by omega) (by omega)) rfl ?_
      refine j_if_eq (tgt := 61) x dX5_sortTeams_34 (by decide) (fun h1 => ?_) (fun h1 => ?_)
      · refine j_aload_n x dX5_sortTeams_61 rfl ?_
        refine j2_getr (k := 6) (r := 85) x hb dX5_sortTeams_62 jc_9 wfX5_40 (by decide) rfl ?_
        refine j_iload_n x dX5_sortTeams_65 rfl ?_
        refine j_iload_n x dX5_sortTeams_66 rfl ?_
        refine j2_callSv x hb dX5_sortTeams_67 m_X5_put (c_put (d := d) hb fa_85 (by decide)) wmX5_83 rfl (Nat.le_of_ble_eq_true rfl) (j_fit_rm (by omega) (by omega) (by omega)) rfl ?_
        refine j_iinc x dX5_sortTeams_70 rfl (by decide) rfl ?_
        refine j_goto (tgt := 2) x dX5_sortTeams_73 (by decide) ?_
        exact j_goal (ih (fun i k h => jso_n h (j + 1))) (wk_c rfl (wk_c (congrArg (fun z => some (Value.int z)) (nI_1 _)) (wk_n (wk_0)))) (by rw [← hN.2.2, jins, if_pos h1, jput_nI (by omega) (by decide)])
      · refine j_aload_n x dX5_sortTeams_37 rfl ?_
        refine j2_getr (k := 6) (r := 85) x hb dX5_sortTeams_38 jc_9 wfX5_40 (by decide) rfl ?_
        refine j_iload_n x dX5_sortTeams_41 rfl ?_
        refine j_aload_n x dX5_sortTeams_42 rfl ?_
        refine j2_getr (k := 6) (r := 85) x hb dX5_sortTeams_43 jc_9 wfX5_40 (by decide) rfl ?_
        refine j_iload_n x dX5_sortTeams_46 rfl ?_
        refine j_iconst (v := 1) x dX5_sortTeams_47 (by decide) ?_
        refine j_isub x dX5_sortTeams_48 ?_; rw [nI_dn]
        refine j2_callSi x hb dX5_sortTeams_49 m_X5_at (CM_v (c_at (d := d) hb fa_85 (by decide)) (jat_nI (show q0 < 8 by omega) (by decide))) wmX5_93 rfl (Nat.le_of_ble_eq_true rfl) (j_fit_rm (by omega) (by omega) (by omega)) rfl ?_
        refine j2_callSv x hb dX5_sortTeams_52 m_X5_put (c_put (d := d) hb fa_85 (by decide)) wmX5_83 rfl (Nat.le_of_ble_eq_true rfl) (j_fit_rm (by omega) (by omega) (by omega)) rfl ?_
        refine j_iinc x dX5_sortTeams_55 rfl (by decide) rfl ?_
        refine j_goto (tgt := 15) x dX5_sortTeams_58 (by decide) ?_
        exact j_goal (ih2 _ ⟨by omega, fun i k h => (jm_n (by omega)).trans (hN.2.1 i k h), by rw [← hN.2.2, jins, if_neg h1]⟩) (wk_c rfl (wk_c rfl (wk_c (congrArg (fun z => some (Value.int z)) (nI_dn2 _)) (wk_0)))) ((jput_nI (show q0 + 1 < 8 by omega) (by decide)).symm)
  refine j_iload_n x dX5_sortTeams_2 rfl ?_
  refine j_aload_n x dX5_sortTeams_3 rfl ?_
  refine j2_getr (k := 0) (r := 1) x hb dX5_sortTeams_4 jc_9 wfX5_10 (by decide) rfl ?_
  refine j2_geti (k := 0) x hb dX5_sortTeams_7 jc_6 wfX5_80 (by decide) rfl ?_; rw [hP 1 0 (by decide), h0]
  refine j_icmp_ge (tgt := 76) x dX5_sortTeams_10 (by decide) (fun hc => ?_) (fun hc => absurd (nI_le (Nat.le_refl _) (by omega)) hc)
  exact j_return x hr dX5_sortTeams_76 (by omega) (by omega) ⟨rfl, rfl⟩
theorem c_ranked_no {d : Nat} {b : SBt} {Y : OUt} {M : MM} (hb : 104 ≤ b.2.1) {t : Int32} (hT : ¬ (¬ t < 0 ∧ t < M 1 0)) : CM (d + 1) 1 6 yX5_ranked cX5_ranked 2 (some .int) [.ref 0, .int t] b Y M (.inr "java/util/NoSuchElementException") (M) := by
  refine Con.of (by decide +kernel) (Nat.le_of_ble_eq_true rfl) rfl fun p l e s m args below meth c D tyc A ad0 x hr htab hname => ?_
  change JJ _ _ _ _ _ _ _ _ _ _ _ _ _ _ _ _ _ 0 [some (.ref 0), some (.int t)] [] _ 0 0
  refine j_iload_n x dX5_ranked_0 rfl ?_
  refine j_if_lt (tgt := 15) x dX5_ranked_1 (by decide) (fun g1 => ?_) (fun g1 => ?_)
  · exact j_throwNSW x exX5_243 wsX5_269 dX5_ranked_15 dX5_ranked_18 dX5_ranked_19 dX5_ranked_22 dX5_ranked_25 htab (by omega) (by omega) ⟨rfl, rfl⟩
  · refine j_iload_n x dX5_ranked_4 rfl ?_
    refine j_aload_n x dX5_ranked_5 rfl ?_
    refine j2_getr (k := 0) (r := 1) x hb dX5_ranked_6 jc_9 wfX5_10 (by decide) rfl ?_
    refine j2_geti (k := 0) x hb dX5_ranked_9 jc_6 wfX5_80 (by decide) rfl ?_
    refine j_icmp_lt (tgt := 26) x dX5_ranked_12 (by decide) (fun hc => absurd hc (fun q => hT ⟨g1, q⟩)) (fun hc => ?_)
    exact j_throwNSW x exX5_243 wsX5_269 dX5_ranked_15 dX5_ranked_18 dX5_ranked_19 dX5_ranked_22 dX5_ranked_25 htab (by omega) (by omega) ⟨rfl, rfl⟩
theorem c_ranked_ok {d : Nat} {b : SBt} {Y : OUt} {M : MM} (hb : 104 ≤ b.2.1) {t : Int32} (hT : ¬ t < 0 ∧ t < M 1 0) {n : Nat} (hn : n ≤ 56) (hm : jmc M = nI n) {w : Nat} (hw : w ≤ 8) (h0 : M 1 0 = nI w) {r : Nat} (hr3 : r ≤ 3) (h6 : M 1 6 = nI r) (hru : ∀ i, i < r → M 3 i = 0 ∨ M 3 i = 1 ∨ M 3 i = 2 ∨ M 3 i = 3 ∨ M 3 i = 4) : CM (d + 5) 1 6 yX5_ranked cX5_ranked 2 (some .int) [.ref 0, .int t] b Y M (.inl (some (.int (jat 8 (jso (jcount M n) r w 85) t)))) (jso (jcount M n) r w) := by
  refine Con.of (by decide +kernel) (Nat.le_of_ble_eq_true rfl) rfl fun p l e s m args below meth c D tyc A ad0 x hr htab hname => ?_
  change JJ _ _ _ _ _ _ _ _ _ _ _ _ _ _ _ _ _ 0 [some (.ref 0), some (.int t)] [] _ 0 0
  refine j_iload_n x dX5_ranked_0 rfl ?_
  refine j_if_lt (tgt := 15) x dX5_ranked_1 (by decide) (fun hc => absurd hc (hT.1)) (fun hc => ?_)
  refine j_iload_n x dX5_ranked_4 rfl ?_
  refine j_aload_n x dX5_ranked_5 rfl ?_
  refine j2_getr (k := 0) (r := 1) x hb dX5_ranked_6 jc_9 wfX5_10 (by decide) rfl ?_
  refine j2_geti (k := 0) x hb dX5_ranked_9 jc_6 wfX5_80 (by decide) rfl ?_
  refine j_icmp_lt (tgt := 26) x dX5_ranked_12 (by decide) (fun hc => ?_) (fun hc => absurd (hT.2) hc)
  refine j_aload_n x dX5_ranked_26 rfl ?_
  refine j2_callVv x hb dX5_ranked_27 m_X5_count (c_count (d := d) hb hn hm) wmX5_187 jc_9 rfl rfl rfl (Nat.le_of_ble_eq_true rfl) (j_fit_rm (by omega) (by omega) (by omega)) rfl ?_
  refine j_aload_n x dX5_ranked_30 rfl ?_
  refine j2_callVv x hb dX5_ranked_31 m_X5_sortTeams (c_sortTeams (d := d) hb hw (by rw [jcount_n (by omega)]; exact h0) hr3 (by rw [jcount_n (by omega)]; exact h6) (fun i hi => by rw [jcount_n (by omega)]; exact hru i hi)) wmX5_271 jc_9 rfl rfl rfl (Nat.le_of_ble_eq_true rfl) (j_fit_rm (by omega) (by omega) (by omega)) rfl ?_
  refine j_aload_n x dX5_ranked_34 rfl ?_
  refine j2_getr (k := 6) (r := 85) x hb dX5_ranked_35 jc_9 wfX5_40 (by decide) rfl ?_
  refine j_iload_n x dX5_ranked_38 rfl ?_
  refine j2_callSi x hb dX5_ranked_39 m_X5_at (c_at (d := d) hb fa_85 (by decide)) wmX5_93 rfl (Nat.le_of_ble_eq_true rfl) (j_fit_rm (by omega) (by omega) (by omega)) rfl ?_
  exact j_ireturn x hr dX5_ranked_42 (by omega) (by omega) ⟨rfl, rfl⟩
theorem j_fdiv {p : Program} {l : Launch} {e : Env} {R : Room} {s : State} {m : MethodId} {args : Array Value} {below : List Frame} {meth : Method} {c : Code} {D : va_G} {tyc : Nat → ClassId} {A : Nat → Prop} {n0 : Nat} {ad0 : Nat → Nat} {nL : Nat} {Q : State → Prop} {own : String} {cc : ByteArray} {pc : Nat} {L : List (Option Value)} {st : List Value} {h : MH} {cells slots : Nat} (x : j_X p l s m args meth c D tyc A own cc nL) {v w : UInt32} (hd : decode cc pc = .ok (.fdiv, 1)) (hne : vf_n32 (FP.fdiv v w)) (kk : JJ p l e R s m args below meth c D tyc A n0 ad0 nL Q (pc + 1) L (.float (FP.fdiv v w) :: st) h cells slots) : JJ p l e R s m args below meth c D tyc A n0 ad0 nL Q pc L (.float w :: .float v :: st) h cells slots := by
  intro ad ls H locs I
  exact lv_fdiv x.1 x.2.1 hd hne (kk ad ls H locs (I.st fun hs => j_ok_cons j_ok_float (j_ok_tl (j_ok_tl hs))))
theorem j_ddiv {p : Program} {l : Launch} {e : Env} {R : Room} {s : State} {m : MethodId} {args : Array Value} {below : List Frame} {meth : Method} {c : Code} {D : va_G} {tyc : Nat → ClassId} {A : Nat → Prop} {n0 : Nat} {ad0 : Nat → Nat} {nL : Nat} {Q : State → Prop} {own : String} {cc : ByteArray} {pc : Nat} {L : List (Option Value)} {st : List Value} {h : MH} {cells slots : Nat} (x : j_X p l s m args meth c D tyc A own cc nL) {v w : UInt64} (hd : decode cc pc = .ok (.ddiv, 1)) (hne : vf_n64 (FP.ddiv v w)) (kk : JJ p l e R s m args below meth c D tyc A n0 ad0 nL Q (pc + 1) L (.double (FP.ddiv v w) :: st) h cells slots) : JJ p l e R s m args below meth c D tyc A n0 ad0 nL Q pc L (.double w :: .double v :: st) h cells slots := by
  intro ad ls H locs I
  exact lv_ddiv x.1 x.2.1 hd hne (kk ad ls H locs (I.st fun hs => j_ok_cons j_ok_double (j_ok_tl (j_ok_tl hs))))
theorem c_meanGoals_ok {d : Nat} {b : SBt} {Y : OUt} {M : MM} (hb : 104 ≤ b.2.1) {n : Nat} (hn : n ≤ 56) (hm : jmc M = nI n) (h : ¬ jcount M n 75 0 = 0) (hne : vf_n32 (FP.fdiv (FP.i2f (jcount M n 75 1)) (FP.i2f (jcount M n 75 0)))) : CM (d + 5) 1 6 yX5_meanGoals cX5_meanGoals 1 (some .float) [.ref 0] b Y M (.inl (some (.float (FP.fdiv (FP.i2f (jcount M n 75 1)) (FP.i2f (jcount M n 75 0)))))) (jcount M n) := by
  refine Con.of (by decide +kernel) (Nat.le_of_ble_eq_true rfl) rfl fun p l e s m args below meth c D tyc A ad0 x hr htab hname => ?_
  change JJ _ _ _ _ _ _ _ _ _ _ _ _ _ _ _ _ _ 0 [some (.ref 0)] [] _ 0 0
  refine j_aload_n x dX5_meanGoals_0 rfl ?_
  refine j2_callVv x hb dX5_meanGoals_1 m_X5_count (c_count (d := d) hb hn hm) wmX5_187 jc_9 rfl rfl rfl (Nat.le_of_ble_eq_true rfl) (j_fit_rm (by omega) (by omega) (by omega)) rfl ?_
  refine j_aload_n x dX5_meanGoals_4 rfl ?_
  refine j2_getr (k := 5) (r := 75) x hb dX5_meanGoals_5 jc_9 wfX5_36 (by decide) rfl ?_
  refine j2_geti (k := 0) x hb dX5_meanGoals_8 jc_7 wfX5_372 (by decide) rfl ?_
  refine j_if_ne (tgt := 25) x dX5_meanGoals_11 (by decide) (fun hc => ?_) (fun hc => absurd hc (h))
  refine j_aload_n x dX5_meanGoals_25 rfl ?_
  refine j2_getr (k := 5) (r := 75) x hb dX5_meanGoals_26 jc_9 wfX5_36 (by decide) rfl ?_
  refine j2_geti (k := 1) x hb dX5_meanGoals_29 jc_7 wfX5_380 (by decide) rfl ?_
  refine j_i2f x dX5_meanGoals_32 ?_
  refine j_aload_n x dX5_meanGoals_33 rfl ?_
  refine j2_getr (k := 5) (r := 75) x hb dX5_meanGoals_34 jc_9 wfX5_36 (by decide) rfl ?_
  refine j2_geti (k := 0) x hb dX5_meanGoals_37 jc_7 wfX5_372 (by decide) rfl ?_
  refine j_i2f x dX5_meanGoals_40 ?_
  refine j_fdiv x dX5_meanGoals_41 hne ?_
  exact j_freturn x hr dX5_meanGoals_42 (by omega) (by omega) ⟨rfl, rfl⟩
theorem c_homeShare_ok {d : Nat} {b : SBt} {Y : OUt} {M : MM} (hb : 104 ≤ b.2.1) {n : Nat} (hn : n ≤ 56) (hm : jmc M = nI n) (h : ¬ jcount M n 75 0 = 0) (hne : vf_n64 (FP.ddiv (FP.i2d (jcount M n 75 2)) (FP.i2d (jcount M n 75 0)))) : CM (d + 5) 1 6 yX5_homeShare cX5_homeShare 1 (some .double) [.ref 0] b Y M (.inl (some (.double (FP.ddiv (FP.i2d (jcount M n 75 2)) (FP.i2d (jcount M n 75 0)))))) (jcount M n) := by
  refine Con.of (by decide +kernel) (Nat.le_of_ble_eq_true rfl) rfl fun p l e s m args below meth c D tyc A ad0 x hr htab hname => ?_
  change JJ _ _ _ _ _ _ _ _ _ _ _ _ _ _ _ _ _ 0 [some (.ref 0)] [] _ 0 0
  refine j_aload_n x dX5_homeShare_0 rfl ?_
  refine j2_callVv x hb dX5_homeShare_1 m_X5_count (c_count (d := d) hb hn hm) wmX5_187 jc_9 rfl rfl rfl (Nat.le_of_ble_eq_true rfl) (j_fit_rm (by omega) (by omega) (by omega)) rfl ?_
  refine j_aload_n x dX5_homeShare_4 rfl ?_
  refine j2_getr (k := 5) (r := 75) x hb dX5_homeShare_5 jc_9 wfX5_36 (by decide) rfl ?_
  refine j2_geti (k := 0) x hb dX5_homeShare_8 jc_7 wfX5_372 (by decide) rfl ?_
  refine j_if_ne (tgt := 25) x dX5_homeShare_11 (by decide) (fun hc => ?_) (fun hc => absurd hc (h))
  refine j_aload_n x dX5_homeShare_25 rfl ?_
  refine j2_getr (k := 5) (r := 75) x hb dX5_homeShare_26 jc_9 wfX5_36 (by decide) rfl ?_
  refine j2_geti (k := 2) x hb dX5_homeShare_29 jc_7 wfX5_383 (by decide) rfl ?_
  refine j_i2d x dX5_homeShare_32 ?_
  refine j_aload_n x dX5_homeShare_33 rfl ?_
  refine j2_getr (k := 5) (r := 75) x hb dX5_homeShare_34 jc_9 wfX5_36 (by decide) rfl ?_
  refine j2_geti (k := 0) x hb dX5_homeShare_37 jc_7 wfX5_372 (by decide) rfl ?_
  refine j_i2d x dX5_homeShare_40 ?_
  refine j_ddiv x dX5_homeShare_41 hne ?_
  exact j_dreturn x hr dX5_homeShare_42 (by omega) (by omega) ⟨rfl, rfl⟩
theorem cx_meanGoals_ok {d : Nat} {b : SBt} {Y : OUt} {M : MM} (hb : 104 ≤ b.2.1) {n : Nat} (hn : n ≤ 56) (hct : M 95 9 = nI n) (h : ¬ jsum (fun m => jof (jm M 94 19 0) m 4) n = 0) (hne : vf_n32 (FP.fdiv (FP.i2f (jsum (gGoals (jm M 94 19 0)) n)) (FP.i2f (jsum (fun m => jof (jm M 94 19 0) m 4) n)))) : CM (d + 3) 0 0 yX6_meanGoals cX6_meanGoals 1 (some .float) [.ref 94] b Y M (.inl (some (.float (FP.fdiv (FP.i2f (jsum (gGoals (jm M 94 19 0)) n)) (FP.i2f (jsum (fun m => jof (jm M 94 19 0) m 4) n)))))) ((jm M 94 19 0)) := by
  refine Con.of (by decide +kernel) (Nat.le_of_ble_eq_true rfl) rfl fun p l e s m args below meth c D tyc A ad0 x hr htab hname => ?_
  change JJ _ _ _ _ _ _ _ _ _ _ _ _ _ _ _ _ _ 0 [some (.ref 94)] [] _ 0 0
  refine j_aload_n x dX6_meanGoals_0 rfl ?_
  refine j_iconst (v := 0) x dX6_meanGoals_1 (by decide) ?_
  refine j2_puti (k := 19) x hb dX6_meanGoals_2 jc_10 wfX6_36 (by decide) rfl rfl rfl rfl ?_
  refine j_aload_n x dX6_meanGoals_5 rfl ?_
  refine j2_callVi x hb dX6_meanGoals_6 m_X6_played (cx_played (d := d) hb hn (by rw [jm_n (by omega)]; exact hct)) wmX6_113 jc_10 rfl rfl rfl (Nat.le_of_ble_eq_true rfl) (j_fit_rm (by omega) (by omega) (by omega)) rfl ?_
  refine j_if_ne (tgt := 21) x dX6_meanGoals_9 (by decide) (fun hc => ?_) (fun hc => absurd hc (h))
  refine j_aload_n x dX6_meanGoals_21 rfl ?_
  refine j2_callVi x hb dX6_meanGoals_22 m_X6_goals (cx_goals (d := d) hb hn (by rw [jm_n (by omega)]; exact hct)) wmX6_221 jc_10 rfl rfl rfl (Nat.le_of_ble_eq_true rfl) (j_fit_rm (by omega) (by omega) (by omega)) rfl ?_
  refine j_i2f x dX6_meanGoals_25 ?_
  refine j_aload_n x dX6_meanGoals_26 rfl ?_
  refine j2_callVi x hb dX6_meanGoals_27 m_X6_played (cx_played (d := d) hb hn (by rw [jm_n (by omega)]; exact hct)) wmX6_113 jc_10 rfl rfl rfl (Nat.le_of_ble_eq_true rfl) (j_fit_rm (by omega) (by omega) (by omega)) rfl ?_
  refine j_i2f x dX6_meanGoals_30 ?_
  refine j_fdiv x dX6_meanGoals_31 hne ?_
  exact j_freturn x hr dX6_meanGoals_32 (by omega) (by omega) ⟨rfl, rfl⟩
def gHw (M : MM) (m : Nat) : Int32 := jb (jof M m 4 = 1 ∧ ¬ jof M m 6 ≤ jof M m 7)
theorem cx_homeShare_ok {d : Nat} {b : SBt} {Y : OUt} {M : MM} (hb : 104 ≤ b.2.1) {n : Nat} (hn : n ≤ 56) (hct : M 95 9 = nI n) (h : ¬ jsum (fun m => jof (jm M 94 19 0) m 4) n = 0) (hne : vf_n64 (FP.ddiv (FP.i2d (jsum (gHw (jm M 94 19 0)) n)) (FP.i2d (jsum (fun m => jof (jm M 94 19 0) m 4) n)))) : CM (d + 3) 0 0 yX6_homeShare cX6_homeShare 3 (some .double) [.ref 94] b Y M (.inl (some (.double (FP.ddiv (FP.i2d (jsum (gHw (jm M 94 19 0)) n)) (FP.i2d (jsum (fun m => jof (jm M 94 19 0) m 4) n)))))) ((jm M 94 19 0)) := by
  refine Con.of (by decide +kernel) (Nat.le_of_ble_eq_true rfl) rfl fun p l e s m args below meth c D tyc A ad0 x hr htab hname => ?_
  change JJ _ _ _ _ _ _ _ _ _ _ _ _ _ _ _ _ _ 0 [some (.ref 94), none, none] [] _ 0 0
  refine j_aload_n x dX6_homeShare_0 rfl ?_
  refine j_iconst (v := 0) x dX6_homeShare_1 (by decide) ?_
  refine j2_puti (k := 19) x hb dX6_homeShare_2 jc_10 wfX6_36 (by decide) rfl rfl rfl rfl ?_
  refine j_aload_n x dX6_homeShare_5 rfl ?_
  refine j2_callVi x hb dX6_homeShare_6 m_X6_played (cx_played (d := d) hb hn (by rw [jm_n (by omega)]; exact hct)) wmX6_113 jc_10 rfl rfl rfl (Nat.le_of_ble_eq_true rfl) (j_fit_rm (by omega) (by omega) (by omega)) rfl ?_
  refine j_if_ne (tgt := 19) x dX6_homeShare_9 (by decide) (fun hc => ?_) (fun hc => absurd hc (h))
  refine j_iconst (v := 0) x dX6_homeShare_19 (by decide) ?_
  refine j_istore_n x dX6_homeShare_20 (by decide) rfl ?_
  refine j_iconst (v := 0) x dX6_homeShare_21 (by decide) ?_
  refine j_istore_n x dX6_homeShare_22 (by decide) rfl ?_
  refine j_for (n) (fun z0 => [some (.ref 94), some (.int (jsum (gHw (jm M 94 19 0)) z0)), some (.int (nI z0))]) (fun z0 => (jm M 94 19 0)) (fun z0 => True) (rfl) (rfl) (trivial) (fun j hj hP ih => ?_) (fun hP => ?_)
  · refine j_iload_n x dX6_homeShare_23 rfl ?_
    refine j_aload_n x dX6_homeShare_24 rfl ?_
    refine j2_getr (k := 0) (r := 95) x hb dX6_homeShare_25 jc_10 wfX6_9 (by decide) rfl ?_
    refine j_bipush (v := 9) x dX6_homeShare_28 (by decide) ?_
    refine j2_ialn x hb dX6_homeShare_30 fa_95 (j := 9) (vp_c (by decide)) (by decide) ?_; rw [jm_n (by omega), hct]
    refine j_icmp_ge (tgt := 68) x dX6_homeShare_31 (by decide) (fun hc => absurd hc (nI_ge hj (by omega))) (fun hc => ?_)
    refine j_aload_n x dX6_homeShare_34 rfl ?_
    refine j_iload_n x dX6_homeShare_35 rfl ?_
    refine j2_callVi x hb dX6_homeShare_36 m_X6_isPlayed (cx_isPlayed (d := d) hb (m1 := j) (by omega)) wmX6_72 jc_10 rfl rfl rfl (Nat.le_of_ble_eq_true rfl) (j_fit_rm (by omega) (by omega) (by omega)) rfl ?_
    refine j_if_eq (tgt := 62) x dX6_homeShare_39 (by decide) (fun h1 => ?_) (fun h1 => ?_)
    · refine j_iinc x dX6_homeShare_62 rfl (by decide) rfl ?_
      refine j_goto (tgt := 23) x dX6_homeShare_65 (by decide) ?_
      exact j_goal (ih (trivial)) (wk_c rfl (wk_c (congrArg (fun z => some (Value.int z)) (jsum_f (jb_f (fun z => jb_0.mp h1 z.1)))) (wk_c (congrArg (fun z => some (Value.int z)) (nI_1 _)) (wk_0)))) (rfl)
    · refine j_aload_n x dX6_homeShare_42 rfl ?_
      refine j_iload_n x dX6_homeShare_43 rfl ?_
      refine j_bipush (v := 6) x dX6_homeShare_44 (by decide) ?_
      refine j2_callVi x hb dX6_homeShare_46 m_X6_of (cx_of (d := d) hb (m1 := j) (w1 := 6) (by omega) (by decide)) wmX6_68 jc_10 rfl rfl rfl (Nat.le_of_ble_eq_true rfl) (j_fit_rm (by omega) (by omega) (by omega)) rfl ?_
      refine j_aload_n x dX6_homeShare_49 rfl ?_
      refine j_iload_n x dX6_homeShare_50 rfl ?_
      refine j_bipush (v := 7) x dX6_homeShare_51 (by decide) ?_
      refine j2_callVi x hb dX6_homeShare_53 m_X6_of (cx_of (d := d) hb (m1 := j) (w1 := 7) (by omega) (by decide)) wmX6_68 jc_10 rfl rfl rfl (Nat.le_of_ble_eq_true rfl) (j_fit_rm (by omega) (by omega) (by omega)) rfl ?_
      refine j_icmp_le (tgt := 62) x dX6_homeShare_56 (by decide) (fun h2 => ?_) (fun h2 => ?_)
      · refine j_iinc x dX6_homeShare_62 rfl (by decide) rfl ?_
        refine j_goto (tgt := 23) x dX6_homeShare_65 (by decide) ?_
        exact j_goal (ih (trivial)) (wk_c rfl (wk_c (congrArg (fun z => some (Value.int z)) (jsum_f (jb_f (fun z => z.2 h2)))) (wk_c (congrArg (fun z => some (Value.int z)) (nI_1 _)) (wk_0)))) (rfl)
      · refine j_iinc x dX6_homeShare_59 rfl (by decide) rfl ?_
        refine j_iinc x dX6_homeShare_62 rfl (by decide) rfl ?_
        refine j_goto (tgt := 23) x dX6_homeShare_65 (by decide) ?_
        exact j_goal (ih (trivial)) (wk_c rfl (wk_c (congrArg (fun z => some (Value.int z)) (jsum_v (jb_t ⟨jb_nz.mp h1, h2⟩))) (wk_c (congrArg (fun z => some (Value.int z)) (nI_1 _)) (wk_0)))) (rfl)
  refine j_iload_n x dX6_homeShare_23 rfl ?_
  refine j_aload_n x dX6_homeShare_24 rfl ?_
  refine j2_getr (k := 0) (r := 95) x hb dX6_homeShare_25 jc_10 wfX6_9 (by decide) rfl ?_
  refine j_bipush (v := 9) x dX6_homeShare_28 (by decide) ?_
  refine j2_ialn x hb dX6_homeShare_30 fa_95 (j := 9) (vp_c (by decide)) (by decide) ?_; rw [jm_n (by omega), hct]
  refine j_icmp_ge (tgt := 68) x dX6_homeShare_31 (by decide) (fun hc => ?_) (fun hc => absurd (nI_le (Nat.le_refl _) (by omega)) hc)
  refine j_iload_n x dX6_homeShare_68 rfl ?_
  refine j_i2d x dX6_homeShare_69 ?_
  refine j_aload_n x dX6_homeShare_70 rfl ?_
  refine j2_callVi x hb dX6_homeShare_71 m_X6_played (cx_played (d := d) hb hn (by rw [jm_n (by omega)]; exact hct)) wmX6_113 jc_10 rfl rfl rfl (Nat.le_of_ble_eq_true rfl) (j_fit_rm (by omega) (by omega) (by omega)) rfl ?_
  refine j_i2d x dX6_homeShare_74 ?_
  refine j_ddiv x dX6_homeShare_75 hne ?_
  exact j_dreturn x hr dX6_homeShare_76 (by omega) (by omega) ⟨rfl, rfl⟩
end

section
/-! ===== texts of commands: what they say (T: the signs, n: how many) ===== -/
def tsg (T : Nat → Int32) (n a : Nat) : Int32 := if a < n then T a else -1
abbrev tdc (T : Nat → Int32) (n a : Nat) (h : Int32) : Prop := ¬ tsg T n a - 48 < 0 ∧ ¬ h < tsg T n a - 48
def tdg (T : Nat → Int32) (n a : Nat) (h : Int32) : Int32 := if tdc T n a h then tsg T n a - 48 else -1
def tda (T : Nat → Int32) (n a : Nat) (h : Int32) : Nat := if tdc T n a h then a + 1 else a
def tnv (T : Nat → Int32) (n a : Nat) : Int32 := if tdg T n a 9 = -1 then -1 else if tdg T n (a + 1) 9 = -1 then tdg T n a 9 else 10 * tdg T n a 9 + tdg T n (a + 1) 9
def tna (T : Nat → Int32) (n a : Nat) : Nat := if tdg T n a 9 = -1 then a else if tdg T n (a + 1) 9 = -1 then a + 1 else a + 2
theorem tdc_lt {T : Nat → Int32} {n a : Nat} {h : Int32} (q : tdc T n a h) : a < n := Nat.lt_of_not_le fun z => q.1 (by rw [tsg, if_neg (by omega)]; decide)
theorem tda_le {T : Nat → Int32} {n a : Nat} {h : Int32} (ha : a ≤ n) : tda T n a h ≤ n := by
  unfold tda
  split
  · have := tdc_lt (by assumption); omega
  · exact ha
theorem tdg_c {T : Nat → Int32} {n a : Nat} {h : Int32} (q : ¬ tdg T n a h = -1) : tdc T n a h := Decidable.byContradiction fun z => q (if_neg z)
theorem tdg_n {T : Nat → Int32} {n a : Nat} {h : Int32} (q : tdg T n a h = -1) : ¬ tdc T n a h := fun z => by
  rw [tdg, if_pos z] at q
  exact z.1 (by rw [q]; decide)
theorem tda_s {T : Nat → Int32} {n a : Nat} {h : Int32} (q : ¬ tdg T n a h = -1) : tda T n a h = a + 1 := if_pos (tdg_c q)
theorem tda_z {T : Nat → Int32} {n a : Nat} {h : Int32} (q : tdg T n a h = -1) : tda T n a h = a := if_neg (tdg_n q)
theorem tdg_lt {T : Nat → Int32} {n a : Nat} {h : Int32} (q : ¬ tdg T n a h = -1) : a < n := tdc_lt (tdg_c q)
theorem tna_le {T : Nat → Int32} {n a : Nat} (ha : a ≤ n) : tna T n a ≤ n := by
  unfold tna
  split
  · exact ha
  · split
    · have := tdg_lt (by assumption : ¬ tdg T n a 9 = -1); omega
    · have := tdg_lt (by assumption : ¬ tdg T n (a + 1) 9 = -1); omega
theorem tsg_lt {T : Nat → Int32} {n a : Nat} {c : Int32} (h : tsg T n a = c) (hc : ¬ c = -1) : a < n := Nat.lt_of_not_le fun z => hc (by rw [← h, tsg, if_neg (by omega)])
/-- a fault's place; else none -/
def tF (T : Nat → Int32) (n a : Nat) : Option Nat := if tnv T n a = -1 then some (tna T n a) else none
def rFm (T : Nat → Int32) (n a : Nat) : Option Nat :=
  if tnv T n (a + 1) = -1 then some (tna T n (a + 1)) else
  if ¬ tsg T n (tna T n (a + 1)) = 61 then some (tna T n (a + 1)) else
  if tnv T n (tna T n (a + 1) + 1) = -1 then some (tna T n (tna T n (a + 1) + 1)) else
  if ¬ tsg T n (tna T n (tna T n (a + 1) + 1)) = 58 then some (tna T n (tna T n (a + 1) + 1)) else
  if tnv T n (tna T n (tna T n (a + 1) + 1) + 1) = -1 then some (tna T n (tna T n (tna T n (a + 1) + 1) + 1)) else none
def rFb (T : Nat → Int32) (n a : Nat) : Option Nat := if tnv T n (a + 1) = -1 then some (tna T n (a + 1)) else none
def rFo (T : Nat → Int32) (n a : Nat) : Option Nat :=
  if tnv T n (a + 1) = -1 then some (tna T n (a + 1)) else
  if ¬ tsg T n (tna T n (a + 1)) = 43 then some (tna T n (a + 1)) else
  if tnv T n (tna T n (a + 1) + 1) = -1 then some (tna T n (tna T n (a + 1) + 1)) else none
def pF (T : Nat → Int32) (n a : Nat) : Option Nat := if tsg T n a = 109 then rFm T n a else if tsg T n a = 98 then rFb T n a else if tsg T n a = 111 then rFo T n a else if tsg T n a = 110 then none else if tsg T n a = 116 then none else some a
/-- where the next one begins, and the numbers -/
def pN (T : Nat → Int32) (n a : Nat) : Nat := if tsg T n a = 109 then tna T n (tna T n (tna T n (a + 1) + 1) + 1) else if tsg T n a = 98 then tna T n (a + 1) else if tsg T n a = 111 then tna T n (tna T n (a + 1) + 1) else if tsg T n a = 110 then a + 1 else tda T n (tda T n (tda T n (a + 1) 4) 4) 4
def p1 (T : Nat → Int32) (n a : Nat) : Int32 := if tsg T n a = 110 then -1 else if tsg T n a = 116 then tdg T n (a + 1) 4 else tnv T n (a + 1)
def p2 (T : Nat → Int32) (n a : Nat) : Int32 := if tsg T n a = 110 ∨ tsg T n a = 98 then -1 else if tsg T n a = 116 then tdg T n (tda T n (a + 1) 4) 4 else tnv T n (tna T n (a + 1) + 1)
def p3 (T : Nat → Int32) (n a : Nat) : Int32 := if tsg T n a = 109 then tnv T n (tna T n (tna T n (a + 1) + 1) + 1) else if tsg T n a = 116 then tdg T n (tda T n (tda T n (a + 1) 4) 4) 4 else -1
/-! ===== the class: its text ===== -/
def tno (q : Option Nat) : Int32 := match q with
  | some _ => 0
  | none => 1
def jpos (M : MM) (a : Nat) : MM := jm M 86 1 (nI a)
def tst (M : MM) (q : Option Nat) (S : MM) : MM := match q with
  | some z => jpos M z
  | none => S
theorem tno_nar {q : Option Nat} : narrow .boolean (.int (tno q)) = .int (tno q) := by
  cases q
  · show narrow .boolean (.int 1) = .int 1; decide
  · show narrow .boolean (.int 0) = .int 0; decide
theorem jm_id {M : MM} {i k : Nat} {v : Int32} (h : M i k = v) : jm M i k v = M := funext fun a => funext fun c => by
  by_cases hh : a = i ∧ c = k
  · obtain ⟨rfl, rfl⟩ := hh; rw [jm_s, h]
  · exact jm_n hh
theorem jm_jm {M : MM} {i k : Nat} {v w : Int32} : jm (jm M i k v) i k w = jm M i k w := funext fun a => funext fun c => by
  by_cases hh : a = i ∧ c = k
  · obtain ⟨rfl, rfl⟩ := hh; rw [jm_s, jm_s]
  · rw [jm_n hh, jm_n hh, jm_n hh]
theorem jm_row {M : MM} {i k a : Nat} {v : Int32} (h : a ≠ i) : jm M i k v a = M a := funext fun c => jm_n (by omega)
theorem jpos_id {M : MM} {a : Nat} (h : M 86 1 = nI a) : jpos M a = M := jm_id h
theorem jpos_jpos {M : MM} {a c : Nat} : jpos (jpos M a) c = jpos M c := jm_jm
theorem jpos_t {M : MM} {a : Nat} : jpos M a 87 = M 87 := jm_row (by decide)
theorem jpos_n {M : MM} {a i k : Nat} (h : ¬ (i = 86 ∧ k = 1)) : jpos M a i k = M i k := jm_n h
theorem jpos_s {M : MM} {a : Nat} : jpos M a 86 1 = nI a := jm_s
def jadd (M : MM) (c : Nat) (u v w z : Int32) : MM := jm (jm (jm (jm (jm M 88 c u) 89 c v) 90 c w) 91 c z) 86 2 (nI (c + 1))
theorem c_sign {d : Nat} {b : SBt} {Y : OUt} {M : MM} (hb : 104 ≤ b.2.1) {a n : Nat} (hn : n ≤ 60) (hl : M 86 0 = nI n) (hp : M 86 1 = nI a) (ha : a ≤ n) : CM (d) 0 0 yX4_sign cX4_sign 1 (some .int) [.ref 86] b Y M (.inl (some (.int (tsg (M 87) n a)))) (M) := by
  refine Con.of (by decide +kernel) (Nat.le_of_ble_eq_true rfl) rfl fun p l e s m args below meth c D tyc A ad0 x hr htab hname => ?_
  change JJ _ _ _ _ _ _ _ _ _ _ _ _ _ _ _ _ _ 0 [some (.ref 86)] [] _ 0 0
  refine j_aload_n x dX4_sign_0 rfl ?_
  refine j2_geti (k := 1) x hb dX4_sign_1 jc_8 wfX4_32 (by decide) rfl ?_
  refine j_if_lt (tgt := 42) x dX4_sign_4 (by decide) (fun hc => absurd hc (by rw [hp]; exact fun q => absurd q (nI_pos (by omega)))) (fun hc => ?_)
  refine j_aload_n x dX4_sign_7 rfl ?_
  refine j2_geti (k := 1) x hb dX4_sign_8 jc_8 wfX4_32 (by decide) rfl ?_
  refine j_aload_n x dX4_sign_11 rfl ?_
  refine j2_geti (k := 0) x hb dX4_sign_12 jc_8 wfX4_28 (by decide) rfl ?_
  refine j_icmp_ge (tgt := 42) x dX4_sign_15 (by decide) (fun g1 => ?_) (fun g1 => ?_)
  · refine j_iconst (v := (-1)) x dX4_sign_42 (by decide) ?_
    exact j_ireturn x hr dX4_sign_43 (by omega) (by omega) ⟨by rw [tsg, if_neg]; rw [hp, hl] at g1; exact fun q => nI_ge q (by omega) g1, rfl⟩
  · refine j_aload_n x dX4_sign_18 rfl ?_
    refine j2_geti (k := 1) x hb dX4_sign_19 jc_8 wfX4_32 (by decide) rfl ?_
    refine j_aload_n x dX4_sign_22 rfl ?_
    refine j2_getr (k := 3) (r := 87) x hb dX4_sign_23 jc_8 wfX4_9 (by decide) rfl ?_
    refine j2_alen x hb dX4_sign_26 fa_87 (by decide) rfl ?_
    refine j_icmp_ge (tgt := 42) x dX4_sign_27 (by decide) (fun hc => absurd hc (by rw [hp]; exact nI_ge (b := 60) (by rw [hp, hl] at g1; exact Nat.lt_of_not_le (fun q => g1 (nI_le (by omega) (by omega)))) (by decide))) (fun hc => ?_)
    refine j_aload_n x dX4_sign_30 rfl ?_
    refine j2_getr (k := 3) (r := 87) x hb dX4_sign_31 jc_8 wfX4_9 (by decide) rfl ?_
    refine j_aload_n x dX4_sign_34 rfl ?_
    refine j2_geti (k := 1) x hb dX4_sign_35 jc_8 wfX4_32 (by decide) rfl ?_
    refine j2_cald x hb dX4_sign_38 rfl (n := 60) (v := M 87 a) (by rw [hp]; rw [hp, hl] at g1; exact vp_in_nI (Nat.lt_of_lt_of_le (Nat.lt_of_not_le (fun q => g1 (nI_le q (by omega)))) hn) (by decide)) (by rw [hp, nI_clamp (by omega)]) ?_
    refine j_goto (tgt := 43) x dX4_sign_39 (by decide) ?_
    exact j_ireturn x hr dX4_sign_43 (by omega) (by omega) ⟨by rw [tsg, if_pos]; rw [hp, hl] at g1; exact Nat.lt_of_not_le (fun q => g1 (nI_le q (by omega))), rfl⟩
theorem c_digit {d : Nat} {b : SBt} {Y : OUt} {M : MM} (hb : 104 ≤ b.2.1) {a n : Nat} (hn : n ≤ 60) (hl : M 86 0 = nI n) (hp : M 86 1 = nI a) (ha : a ≤ n) {h : Int32} : CM (d + 1) 0 0 yX4_digit cX4_digit 3 (some .int) [.ref 86, .int h] b Y M (.inl (some (.int (tdg (M 87) n a h)))) (jpos M (tda (M 87) n a h)) := by
  refine Con.of (by decide +kernel) (Nat.le_of_ble_eq_true rfl) rfl fun p l e s m args below meth c D tyc A ad0 x hr htab hname => ?_
  change JJ _ _ _ _ _ _ _ _ _ _ _ _ _ _ _ _ _ 0 [some (.ref 86), some (.int h), none] [] _ 0 0
  refine j_aload_n x dX4_digit_0 rfl ?_
  refine j2_callVi x hb dX4_digit_1 m_X4_sign (c_sign (d := d) hb hn hl hp ha) wmX4_42 jc_8 rfl rfl rfl (Nat.le_of_ble_eq_true rfl) (j_fit_rm (by omega) (by omega) (by omega)) rfl ?_
  refine j_bipush (v := 48) x dX4_digit_4 (by decide) ?_
  refine j_isub x dX4_digit_6 ?_
  refine j_istore_n x dX4_digit_7 (by decide) rfl ?_
  refine j_iload_n x dX4_digit_8 rfl ?_
  refine j_if_lt (tgt := 17) x dX4_digit_9 (by decide) (fun g1 => ?_) (fun g1 => ?_)
  · refine j_iconst (v := (-1)) x dX4_digit_17 (by decide) ?_
    exact j_ireturn x hr dX4_digit_18 (by omega) (by omega) ⟨by rw [tdg, if_neg (fun q => q.1 g1)], by rw [tda, if_neg (fun q => q.1 g1), jpos_id hp]⟩
  · refine j_iload_n x dX4_digit_12 rfl ?_
    refine j_iload_n x dX4_digit_13 rfl ?_
    refine j_icmp_le (tgt := 19) x dX4_digit_14 (by decide) (fun g2 => ?_) (fun g2 => ?_)
    · refine j_aload_n x dX4_digit_19 rfl ?_
      refine j_dup x dX4_digit_20 rfl ?_
      refine j2_geti (k := 1) x hb dX4_digit_21 jc_8 wfX4_32 (by decide) rfl ?_
      refine j_iconst (v := 1) x dX4_digit_24 (by decide) ?_
      refine j_iadd x dX4_digit_25 ?_
      refine j2_puti (k := 1) x hb dX4_digit_26 jc_8 wfX4_32 (by decide) rfl rfl rfl rfl ?_
      refine j_iload_n x dX4_digit_29 rfl ?_
      exact j_ireturn x hr dX4_digit_30 (by omega) (by omega) ⟨by rw [tdg, if_pos ⟨g1, Int32.not_lt.mpr g2⟩], by rw [tda, if_pos ⟨g1, Int32.not_lt.mpr g2⟩, jpos, hp, nI_1]⟩
    · refine j_iconst (v := (-1)) x dX4_digit_17 (by decide) ?_
      exact j_ireturn x hr dX4_digit_18 (by omega) (by omega) ⟨by rw [tdg, if_neg (fun q => g2 (Int32.not_lt.mp q.2))], by rw [tda, if_neg (fun q => g2 (Int32.not_lt.mp q.2)), jpos_id hp]⟩
theorem c_digit_p {d : Nat} {b : SBt} {Y : OUt} {M : MM} (hb : 104 ≤ b.2.1) {a n : Nat} (hn : n ≤ 60) (hl : M 86 0 = nI n) (ha : a ≤ n) {h : Int32} : CM (d + 1) 0 0 yX4_digit cX4_digit 3 (some .int) [.ref 86, .int h] b Y (jpos M a) (.inl (some (.int (tdg (M 87) n a h)))) (jpos M (tda (M 87) n a h)) := by
  have h := c_digit (d := d) (Y := Y) (M := jpos M a) hb hn (h := h) (by rw [jpos_n (by omega)]; exact hl) jpos_s ha
  try simp only [jpos_t, jpos_jpos] at h
  exact h
theorem c_sign_p {d : Nat} {b : SBt} {Y : OUt} {M : MM} (hb : 104 ≤ b.2.1) {a n : Nat} (hn : n ≤ 60) (hl : M 86 0 = nI n) (ha : a ≤ n) : CM (d) 0 0 yX4_sign cX4_sign 1 (some .int) [.ref 86] b Y (jpos M a) (.inl (some (.int (tsg (M 87) n a)))) (jpos M a) := by
  have h := c_sign (d := d) (Y := Y) (M := jpos M a) hb hn (by rw [jpos_n (by omega)]; exact hl) jpos_s ha
  try simp only [jpos_t, jpos_jpos] at h
  exact h
theorem c_isPassed_y {d : Nat} {b : SBt} {Y : OUt} {M : MM} (hb : 104 ≤ b.2.1) {a n : Nat} (hn : n ≤ 60) (hl : M 86 0 = nI n) (hp : M 86 1 = nI a) (ha : a ≤ n) {ch : Int32} (he : tsg (M 87) n a = ch) : CM (d + 1) 0 0 yX4_isPassed cX4_isPassed 2 (some .boolean) [.ref 86, .int ch] b Y M (.inl (some (.int (1)))) (jpos M (a + 1)) := by
  refine Con.of (by decide +kernel) (Nat.le_of_ble_eq_true rfl) rfl fun p l e s m args below meth c D tyc A ad0 x hr htab hname => ?_
  change JJ _ _ _ _ _ _ _ _ _ _ _ _ _ _ _ _ _ 0 [some (.ref 86), some (.int ch)] [] _ 0 0
  refine j_aload_n x dX4_isPassed_0 rfl ?_
  refine j2_callVi x hb dX4_isPassed_1 m_X4_sign (c_sign (d := d) hb hn hl hp ha) wmX4_42 jc_8 rfl rfl rfl (Nat.le_of_ble_eq_true rfl) (j_fit_rm (by omega) (by omega) (by omega)) rfl ?_
  refine j_iload_n x dX4_isPassed_4 rfl ?_
  refine j_icmp_eq (tgt := 10) x dX4_isPassed_5 (by decide) (fun hc => ?_) (fun hc => absurd (he) hc)
  refine j_aload_n x dX4_isPassed_10 rfl ?_
  refine j_dup x dX4_isPassed_11 rfl ?_
  refine j2_geti (k := 1) x hb dX4_isPassed_12 jc_8 wfX4_32 (by decide) rfl ?_
  refine j_iconst (v := 1) x dX4_isPassed_15 (by decide) ?_
  refine j_iadd x dX4_isPassed_16 ?_
  refine j2_puti (k := 1) x hb dX4_isPassed_17 jc_8 wfX4_32 (by decide) rfl rfl rfl rfl ?_
  refine j_iconst (v := 1) x dX4_isPassed_20 (by decide) ?_
  exact j_zreturn x hr dX4_isPassed_21 (by first | decide | with_reducible exact jb_nar | with_reducible exact tno_nar | with_reducible exact jisS_nar | with_reducible exact gno_nar) (by omega) (by omega) ⟨rfl, by rw [jpos, hp, nI_1]⟩
theorem c_isPassed_y_p {d : Nat} {b : SBt} {Y : OUt} {M : MM} (hb : 104 ≤ b.2.1) {a n : Nat} (hn : n ≤ 60) (hl : M 86 0 = nI n) (ha : a ≤ n) {ch : Int32} (he : tsg (M 87) n a = ch) : CM (d + 1) 0 0 yX4_isPassed cX4_isPassed 2 (some .boolean) [.ref 86, .int ch] b Y (jpos M a) (.inl (some (.int (1)))) (jpos M (a + 1)) := by
  have h := c_isPassed_y (d := d) (Y := Y) (M := jpos M a) hb hn (ch := ch) (by rw [jpos_n (by omega)]; exact hl) jpos_s ha (by rw [jpos_t]; exact he)
  try simp only [jpos_t, jpos_jpos] at h
  exact h
theorem c_isPassed_n {d : Nat} {b : SBt} {Y : OUt} {M : MM} (hb : 104 ≤ b.2.1) {a n : Nat} (hn : n ≤ 60) (hl : M 86 0 = nI n) (hp : M 86 1 = nI a) (ha : a ≤ n) {ch : Int32} (he : ¬ tsg (M 87) n a = ch) : CM (d + 1) 0 0 yX4_isPassed cX4_isPassed 2 (some .boolean) [.ref 86, .int ch] b Y M (.inl (some (.int (0)))) (M) := by
  refine Con.of (by decide +kernel) (Nat.le_of_ble_eq_true rfl) rfl fun p l e s m args below meth c D tyc A ad0 x hr htab hname => ?_
  change JJ _ _ _ _ _ _ _ _ _ _ _ _ _ _ _ _ _ 0 [some (.ref 86), some (.int ch)] [] _ 0 0
  refine j_aload_n x dX4_isPassed_0 rfl ?_
  refine j2_callVi x hb dX4_isPassed_1 m_X4_sign (c_sign (d := d) hb hn hl hp ha) wmX4_42 jc_8 rfl rfl rfl (Nat.le_of_ble_eq_true rfl) (j_fit_rm (by omega) (by omega) (by omega)) rfl ?_
  refine j_iload_n x dX4_isPassed_4 rfl ?_
  refine j_icmp_eq (tgt := 10) x dX4_isPassed_5 (by decide) (fun hc => absurd hc (he)) (fun hc => ?_)
  refine j_iconst (v := 0) x dX4_isPassed_8 (by decide) ?_
  exact j_zreturn x hr dX4_isPassed_9 (by first | decide | with_reducible exact jb_nar | with_reducible exact tno_nar | with_reducible exact jisS_nar | with_reducible exact gno_nar) (by omega) (by omega) ⟨rfl, rfl⟩
theorem c_isPassed_n_p {d : Nat} {b : SBt} {Y : OUt} {M : MM} (hb : 104 ≤ b.2.1) {a n : Nat} (hn : n ≤ 60) (hl : M 86 0 = nI n) (ha : a ≤ n) {ch : Int32} (he : ¬ tsg (M 87) n a = ch) : CM (d + 1) 0 0 yX4_isPassed cX4_isPassed 2 (some .boolean) [.ref 86, .int ch] b Y (jpos M a) (.inl (some (.int (0)))) (jpos M a) := by
  have h := c_isPassed_n (d := d) (Y := Y) (M := jpos M a) hb hn (ch := ch) (by rw [jpos_n (by omega)]; exact hl) jpos_s ha (by rw [jpos_t]; exact he)
  try simp only [jpos_t, jpos_jpos] at h
  exact h
theorem c_number {d : Nat} {b : SBt} {Y : OUt} {M : MM} (hb : 104 ≤ b.2.1) {a n : Nat} (hn : n ≤ 60) (hl : M 86 0 = nI n) (hp : M 86 1 = nI a) (ha : a ≤ n) : CM (d + 2) 0 0 yX4_number cX4_number 3 (some .int) [.ref 86] b Y M (.inl (some (.int (tnv (M 87) n a)))) (jpos M (tna (M 87) n a)) := by
  refine Con.of (by decide +kernel) (Nat.le_of_ble_eq_true rfl) rfl fun p l e s m args below meth c D tyc A ad0 x hr htab hname => ?_
  change JJ _ _ _ _ _ _ _ _ _ _ _ _ _ _ _ _ _ 0 [some (.ref 86), none, none] [] _ 0 0
  refine j_aload_n x dX4_number_0 rfl ?_
  refine j_bipush (v := 9) x dX4_number_1 (by decide) ?_
  refine j2_callVi x hb dX4_number_3 m_X4_digit (c_digit (d := d) hb hn hl hp ha) wmX4_69 jc_8 rfl rfl rfl (Nat.le_of_ble_eq_true rfl) (j_fit_rm (by omega) (by omega) (by omega)) rfl ?_
  refine j_istore_n x dX4_number_6 (by decide) rfl ?_
  refine j_iload_n x dX4_number_7 rfl ?_
  refine j_iconst (v := (-1)) x dX4_number_8 (by decide) ?_
  refine j_icmp_ne (tgt := 14) x dX4_number_9 (by decide) (fun g1 => ?_) (fun g1 => ?_)
  · refine j_aload_n x dX4_number_14 rfl ?_
    refine j_bipush (v := 9) x dX4_number_15 (by decide) ?_
    refine j2_callVi x hb dX4_number_17 m_X4_digit (c_digit_p (d := d) hb hn hl (tda_le ha)) wmX4_69 jc_8 rfl rfl rfl (Nat.le_of_ble_eq_true rfl) (j_fit_rm (by omega) (by omega) (by omega)) rfl ?_
    refine j_istore_n x dX4_number_20 (by decide) rfl ?_
    refine j_iload_n x dX4_number_21 rfl ?_
    refine j_iconst (v := (-1)) x dX4_number_22 (by decide) ?_
    refine j_icmp_ne (tgt := 30) x dX4_number_23 (by decide) (fun g2 => ?_) (fun g2 => ?_)
    · refine j_bipush (v := 10) x dX4_number_30 (by decide) ?_
      refine j_iload_n x dX4_number_32 rfl ?_
      refine j_imul x dX4_number_33 ?_
      refine j_iload_n x dX4_number_34 rfl ?_
      refine j_iadd x dX4_number_35 ?_
      exact j_ireturn x hr dX4_number_36 (by omega) (by omega) ⟨by rw [tnv, if_neg g1, if_neg (tda_s g1 ▸ g2), tda_s g1], by rw [tna, if_neg g1, if_neg (tda_s g1 ▸ g2), tda_s g1, tda_s (tda_s g1 ▸ g2)]⟩
    · refine j_iload_n x dX4_number_26 rfl ?_
      refine j_goto (tgt := 36) x dX4_number_27 (by decide) ?_
      exact j_ireturn x hr dX4_number_36 (by omega) (by omega) ⟨by rw [tnv, if_neg g1, if_pos (tda_s g1 ▸ g2)], by rw [tna, if_neg g1, if_pos (tda_s g1 ▸ g2), tda_s g1, tda_z (tda_s g1 ▸ g2)]⟩
  · refine j_iconst (v := (-1)) x dX4_number_12 (by decide) ?_
    exact j_ireturn x hr dX4_number_13 (by omega) (by omega) ⟨by rw [tnv, if_pos g1], by rw [tna, if_pos g1, tda_z g1]⟩
theorem c_number_p {d : Nat} {b : SBt} {Y : OUt} {M : MM} (hb : 104 ≤ b.2.1) {a n : Nat} (hn : n ≤ 60) (hl : M 86 0 = nI n) (ha : a ≤ n) : CM (d + 2) 0 0 yX4_number cX4_number 3 (some .int) [.ref 86] b Y (jpos M a) (.inl (some (.int (tnv (M 87) n a)))) (jpos M (tna (M 87) n a)) := by
  have h := c_number (d := d) (Y := Y) (M := jpos M a) hb hn (by rw [jpos_n (by omega)]; exact hl) jpos_s ha
  try simp only [jpos_t, jpos_jpos] at h
  exact h
theorem c_add {d : Nat} {b : SBt} {Y : OUt} {M : MM} (hb : 104 ≤ b.2.1) {c1 : Nat} (hc1 : M 86 2 = nI c1) (hc30 : c1 < 30) {u v w z : Int32} : CM (d + 1) 0 0 yX4_add cX4_add 5 (some .boolean) [.ref 86, .int u, .int v, .int w, .int z] b Y M (.inl (some (.int (1)))) (jadd M c1 u v w z) := by
  refine Con.of (by decide +kernel) (Nat.le_of_ble_eq_true rfl) rfl fun p l e s m args below meth c D tyc A ad0 x hr htab hname => ?_
  change JJ _ _ _ _ _ _ _ _ _ _ _ _ _ _ _ _ _ 0 [some (.ref 86), some (.int u), some (.int v), some (.int w), some (.int z)] [] _ 0 0
  refine j_aload_n x dX4_add_0 rfl ?_
  refine j2_getr (k := 4) (r := 88) x hb dX4_add_1 jc_8 wfX4_15 (by decide) rfl ?_
  refine j_aload_n x dX4_add_4 rfl ?_
  refine j2_geti (k := 2) x hb dX4_add_5 jc_8 wfX4_35 (by decide) rfl ?_; rw [hc1]
  refine j_iload_n x dX4_add_8 rfl ?_
  refine j2_callSNv x hb dX4_add_9 m_X5_put (c_put (d := d) hb fa_88 (by decide)) wnX4_73 rfl (Nat.le_of_ble_eq_true rfl) (j_fit_rm (by omega) (by omega) (by omega)) rfl ?_
  rw [jput_nI (show c1 < 30 by omega) (by decide)]
  refine j_aload_n x dX4_add_12 rfl ?_
  refine j2_getr (k := 5) (r := 89) x hb dX4_add_13 jc_8 wfX4_19 (by decide) rfl ?_
  refine j_aload_n x dX4_add_16 rfl ?_
  refine j2_geti (k := 2) x hb dX4_add_17 jc_8 wfX4_35 (by decide) rfl ?_; rw [jm_n (by omega), hc1]
  refine j_iload_n x dX4_add_20 rfl ?_
  refine j2_callSNv x hb dX4_add_21 m_X5_put (c_put (d := d) hb fa_89 (by decide)) wnX4_73 rfl (Nat.le_of_ble_eq_true rfl) (j_fit_rm (by omega) (by omega) (by omega)) rfl ?_
  rw [jput_nI (show c1 < 30 by omega) (by decide)]
  refine j_aload_n x dX4_add_24 rfl ?_
  refine j2_getr (k := 6) (r := 90) x hb dX4_add_25 jc_8 wfX4_22 (by decide) rfl ?_
  refine j_aload_n x dX4_add_28 rfl ?_
  refine j2_geti (k := 2) x hb dX4_add_29 jc_8 wfX4_35 (by decide) rfl ?_; rw [jm_n (by omega), jm_n (by omega), hc1]
  refine j_iload_n x dX4_add_32 rfl ?_
  refine j2_callSNv x hb dX4_add_33 m_X5_put (c_put (d := d) hb fa_90 (by decide)) wnX4_73 rfl (Nat.le_of_ble_eq_true rfl) (j_fit_rm (by omega) (by omega) (by omega)) rfl ?_
  rw [jput_nI (show c1 < 30 by omega) (by decide)]
  refine j_aload_n x dX4_add_36 rfl ?_
  refine j2_getr (k := 7) (r := 91) x hb dX4_add_37 jc_8 wfX4_25 (by decide) rfl ?_
  refine j_aload_n x dX4_add_40 rfl ?_
  refine j2_geti (k := 2) x hb dX4_add_41 jc_8 wfX4_35 (by decide) rfl ?_; rw [jm_n (by omega), jm_n (by omega), jm_n (by omega), hc1]
  refine j_iload x dX4_add_44 rfl ?_
  refine j2_callSNv x hb dX4_add_46 m_X5_put (c_put (d := d) hb fa_91 (by decide)) wnX4_73 rfl (Nat.le_of_ble_eq_true rfl) (j_fit_rm (by omega) (by omega) (by omega)) rfl ?_
  rw [jput_nI (show c1 < 30 by omega) (by decide)]
  refine j_aload_n x dX4_add_49 rfl ?_
  refine j_dup x dX4_add_50 rfl ?_
  refine j2_geti (k := 2) x hb dX4_add_51 jc_8 wfX4_35 (by decide) rfl ?_
  refine j_iconst (v := 1) x dX4_add_54 (by decide) ?_
  refine j_iadd x dX4_add_55 ?_
  refine j2_puti (k := 2) x hb dX4_add_56 jc_8 wfX4_35 (by decide) rfl rfl rfl rfl ?_
  refine j_iconst (v := 1) x dX4_add_59 (by decide) ?_
  exact j_zreturn x hr dX4_add_60 (by first | decide | with_reducible exact jb_nar | with_reducible exact tno_nar | with_reducible exact jisS_nar | with_reducible exact gno_nar) (by omega) (by omega) ⟨rfl, by rw [jadd, jm_n (by omega), jm_n (by omega), jm_n (by omega), jm_n (by omega), hc1, nI_1]⟩
theorem c_isBackParsed {d : Nat} {b : SBt} {Y : OUt} {M : MM} (hb : 104 ≤ b.2.1) {a n : Nat} (hn : n ≤ 60) (hl : M 86 0 = nI n) (hp : M 86 1 = nI a) (ha : a < n) {c1 : Nat} (hc1 : M 86 2 = nI c1) (hc30 : c1 < 30) : CM (d + 3) 0 0 yX4_isBackParsed cX4_isBackParsed 2 (some .boolean) [.ref 86] b Y M (.inl (some (.int (tno (rFb (M 87) n a))))) (tst M (rFb (M 87) n a) (jadd (jpos M (tna (M 87) n (a + 1))) c1 98 (tnv (M 87) n (a + 1)) (-1) (-1))) := by
  refine Con.of (by decide +kernel) (Nat.le_of_ble_eq_true rfl) rfl fun p l e s m args below meth c D tyc A ad0 x hr htab hname => ?_
  change JJ _ _ _ _ _ _ _ _ _ _ _ _ _ _ _ _ _ 0 [some (.ref 86), none] [] _ 0 0
  refine j_aload_n x dX4_isBackParsed_0 rfl ?_
  refine j_dup x dX4_isBackParsed_1 rfl ?_
  refine j2_geti (k := 1) x hb dX4_isBackParsed_2 jc_8 wfX4_32 (by decide) rfl ?_
  refine j_iconst (v := 1) x dX4_isBackParsed_5 (by decide) ?_
  refine j_iadd x dX4_isBackParsed_6 ?_
  refine j2_puti (k := 1) x hb dX4_isBackParsed_7 jc_8 wfX4_32 (by decide) rfl rfl rfl rfl ?_; rw [show jm M 86 1 (M 86 1 + 1) = jpos M (a + 1) from by rw [hp, nI_1]; rfl]
  refine j_aload_n x dX4_isBackParsed_10 rfl ?_
  refine j2_callVi x hb dX4_isBackParsed_11 m_X4_number (c_number_p (d := d) hb hn hl (show a + 1 ≤ n by omega)) wmX4_66 jc_8 rfl rfl rfl (Nat.le_of_ble_eq_true rfl) (j_fit_rm (by omega) (by omega) (by omega)) rfl ?_
  refine j_istore_n x dX4_isBackParsed_14 (by decide) rfl ?_
  refine j_iload_n x dX4_isBackParsed_15 rfl ?_
  refine j_iconst (v := (-1)) x dX4_isBackParsed_16 (by decide) ?_
  refine j_icmp_eq (tgt := 36) x dX4_isBackParsed_17 (by decide) (fun g1 => ?_) (fun g1 => ?_)
  · refine j_iconst (v := 0) x dX4_isBackParsed_36 (by decide) ?_
    exact j_zreturn x hr dX4_isBackParsed_37 (by first | decide | with_reducible exact jb_nar | with_reducible exact tno_nar | with_reducible exact jisS_nar | with_reducible exact gno_nar) (by omega) (by omega) ⟨by rw [rFb, if_pos g1]; rfl, by rw [rFb, if_pos g1]; rfl⟩
  · refine j_aload_n x dX4_isBackParsed_20 rfl ?_
    refine j_bipush (v := 98) x dX4_isBackParsed_21 (by decide) ?_
    refine j_iload_n x dX4_isBackParsed_23 rfl ?_
    refine j_iconst (v := (-1)) x dX4_isBackParsed_24 (by decide) ?_
    refine j_iconst (v := (-1)) x dX4_isBackParsed_25 (by decide) ?_
    refine j2_callVi x hb dX4_isBackParsed_26 m_X4_add (c_add (d := d + 1) hb ((jpos_n (by omega)).trans hc1) hc30) wmX4_59 jc_8 rfl rfl rfl (Nat.le_of_ble_eq_true rfl) (j_fit_rm (by omega) (by omega) (by omega)) rfl ?_
    refine j_if_eq (tgt := 36) x dX4_isBackParsed_29 (by decide) (fun hc => absurd hc (by decide)) (fun hc => ?_)
    refine j_iconst (v := 1) x dX4_isBackParsed_32 (by decide) ?_
    refine j_goto (tgt := 37) x dX4_isBackParsed_33 (by decide) ?_
    exact j_zreturn x hr dX4_isBackParsed_37 (by first | decide | with_reducible exact jb_nar | with_reducible exact tno_nar | with_reducible exact jisS_nar | with_reducible exact gno_nar) (by omega) (by omega) ⟨by rw [rFb, if_neg g1]; rfl, by rw [rFb, if_neg g1]; rfl⟩
theorem c_isPutOffParsed {d : Nat} {b : SBt} {Y : OUt} {M : MM} (hb : 104 ≤ b.2.1) {a n : Nat} (hn : n ≤ 60) (hl : M 86 0 = nI n) (hp : M 86 1 = nI a) (ha : a < n) {c1 : Nat} (hc1 : M 86 2 = nI c1) (hc30 : c1 < 30) : CM (d + 3) 0 0 yX4_isPutOffParsed cX4_isPutOffParsed 3 (some .boolean) [.ref 86] b Y M (.inl (some (.int (tno (rFo (M 87) n a))))) (tst M (rFo (M 87) n a) (jadd (jpos M (tna (M 87) n (tna (M 87) n (a + 1) + 1))) c1 111 (tnv (M 87) n (a + 1)) (tnv (M 87) n (tna (M 87) n (a + 1) + 1)) (-1))) := by
  refine Con.of (by decide +kernel) (Nat.le_of_ble_eq_true rfl) rfl fun p l e s m args below meth c D tyc A ad0 x hr htab hname => ?_
  change JJ _ _ _ _ _ _ _ _ _ _ _ _ _ _ _ _ _ 0 [some (.ref 86), none, none] [] _ 0 0
  refine j_aload_n x dX4_isPutOffParsed_0 rfl ?_
  refine j_dup x dX4_isPutOffParsed_1 rfl ?_
  refine j2_geti (k := 1) x hb dX4_isPutOffParsed_2 jc_8 wfX4_32 (by decide) rfl ?_
  refine j_iconst (v := 1) x dX4_isPutOffParsed_5 (by decide) ?_
  refine j_iadd x dX4_isPutOffParsed_6 ?_
  refine j2_puti (k := 1) x hb dX4_isPutOffParsed_7 jc_8 wfX4_32 (by decide) rfl rfl rfl rfl ?_; rw [show jm M 86 1 (M 86 1 + 1) = jpos M (a + 1) from by rw [hp, nI_1]; rfl]
  refine j_aload_n x dX4_isPutOffParsed_10 rfl ?_
  refine j2_callVi x hb dX4_isPutOffParsed_11 m_X4_number (c_number_p (d := d) hb hn hl (show a + 1 ≤ n by omega)) wmX4_66 jc_8 rfl rfl rfl (Nat.le_of_ble_eq_true rfl) (j_fit_rm (by omega) (by omega) (by omega)) rfl ?_
  refine j_istore_n x dX4_isPutOffParsed_14 (by decide) rfl ?_
  refine j_iload_n x dX4_isPutOffParsed_15 rfl ?_
  refine j_iconst (v := (-1)) x dX4_isPutOffParsed_16 (by decide) ?_
  refine j_icmp_eq (tgt := 29) x dX4_isPutOffParsed_17 (by decide) (fun g1 => ?_) (fun g1 => ?_)
  · refine j_iconst (v := 0) x dX4_isPutOffParsed_29 (by decide) ?_
    exact j_zreturn x hr dX4_isPutOffParsed_30 (by first | decide | with_reducible exact jb_nar | with_reducible exact tno_nar | with_reducible exact jisS_nar | with_reducible exact gno_nar) (by omega) (by omega) ⟨by rw [rFo, if_pos g1]; rfl, by rw [rFo, if_pos g1]; rfl⟩
  · refine j_aload_n x dX4_isPutOffParsed_20 rfl ?_
    refine j_bipush (v := 43) x dX4_isPutOffParsed_21 (by decide) ?_
    by_cases g2 : tsg (M 87) n (tna (M 87) n (a + 1)) = 43
    · refine j2_callVi x hb dX4_isPutOffParsed_23 m_X4_isPassed (c_isPassed_y_p (d := d + 1) hb hn hl (tna_le (show a + 1 ≤ n by omega)) g2) wmX4_46 jc_8 rfl rfl rfl (Nat.le_of_ble_eq_true rfl) (j_fit_rm (by omega) (by omega) (by omega)) rfl ?_
      refine j_if_ne (tgt := 31) x dX4_isPutOffParsed_26 (by decide) (fun hc => ?_) (fun hc => absurd hc (by decide))
      refine j_aload_n x dX4_isPutOffParsed_31 rfl ?_
      refine j2_callVi x hb dX4_isPutOffParsed_32 m_X4_number (c_number_p (d := d) hb hn hl (tsg_lt g2 (by decide))) wmX4_66 jc_8 rfl rfl rfl (Nat.le_of_ble_eq_true rfl) (j_fit_rm (by omega) (by omega) (by omega)) rfl ?_
      refine j_istore_n x dX4_isPutOffParsed_35 (by decide) rfl ?_
      refine j_iload_n x dX4_isPutOffParsed_36 rfl ?_
      refine j_iconst (v := (-1)) x dX4_isPutOffParsed_37 (by decide) ?_
      refine j_icmp_eq (tgt := 57) x dX4_isPutOffParsed_38 (by decide) (fun g3 => ?_) (fun g3 => ?_)
      · refine j_iconst (v := 0) x dX4_isPutOffParsed_57 (by decide) ?_
        exact j_zreturn x hr dX4_isPutOffParsed_58 (by first | decide | with_reducible exact jb_nar | with_reducible exact tno_nar | with_reducible exact jisS_nar | with_reducible exact gno_nar) (by omega) (by omega) ⟨by rw [rFo, if_neg g1, if_neg (fun z => z g2), if_pos g3]; rfl, by rw [rFo, if_neg g1, if_neg (fun z => z g2), if_pos g3]; rfl⟩
      · refine j_aload_n x dX4_isPutOffParsed_41 rfl ?_
        refine j_bipush (v := 111) x dX4_isPutOffParsed_42 (by decide) ?_
        refine j_iload_n x dX4_isPutOffParsed_44 rfl ?_
        refine j_iload_n x dX4_isPutOffParsed_45 rfl ?_
        refine j_iconst (v := (-1)) x dX4_isPutOffParsed_46 (by decide) ?_
        refine j2_callVi x hb dX4_isPutOffParsed_47 m_X4_add (c_add (d := d + 1) hb ((jpos_n (by omega)).trans hc1) hc30) wmX4_59 jc_8 rfl rfl rfl (Nat.le_of_ble_eq_true rfl) (j_fit_rm (by omega) (by omega) (by omega)) rfl ?_
        refine j_if_eq (tgt := 57) x dX4_isPutOffParsed_50 (by decide) (fun hc => absurd hc (by decide)) (fun hc => ?_)
        refine j_iconst (v := 1) x dX4_isPutOffParsed_53 (by decide) ?_
        refine j_goto (tgt := 58) x dX4_isPutOffParsed_54 (by decide) ?_
        exact j_zreturn x hr dX4_isPutOffParsed_58 (by first | decide | with_reducible exact jb_nar | with_reducible exact tno_nar | with_reducible exact jisS_nar | with_reducible exact gno_nar) (by omega) (by omega) ⟨by rw [rFo, if_neg g1, if_neg (fun z => z g2), if_neg g3]; rfl, by rw [rFo, if_neg g1, if_neg (fun z => z g2), if_neg g3]; rfl⟩
    · refine j2_callVi x hb dX4_isPutOffParsed_23 m_X4_isPassed (c_isPassed_n_p (d := d + 1) hb hn hl (tna_le (show a + 1 ≤ n by omega)) g2) wmX4_46 jc_8 rfl rfl rfl (Nat.le_of_ble_eq_true rfl) (j_fit_rm (by omega) (by omega) (by omega)) rfl ?_
      refine j_if_ne (tgt := 31) x dX4_isPutOffParsed_26 (by decide) (fun hc => absurd hc (fun z => z rfl)) (fun hc => ?_)
      refine j_iconst (v := 0) x dX4_isPutOffParsed_29 (by decide) ?_
      exact j_zreturn x hr dX4_isPutOffParsed_30 (by first | decide | with_reducible exact jb_nar | with_reducible exact tno_nar | with_reducible exact jisS_nar | with_reducible exact gno_nar) (by omega) (by omega) ⟨by rw [rFo, if_neg g1, if_pos g2]; rfl, by rw [rFo, if_neg g1, if_pos g2]; rfl⟩
theorem c_isResultParsed {d : Nat} {b : SBt} {Y : OUt} {M : MM} (hb : 104 ≤ b.2.1) {a n : Nat} (hn : n ≤ 60) (hl : M 86 0 = nI n) (hp : M 86 1 = nI a) (ha : a < n) {c1 : Nat} (hc1 : M 86 2 = nI c1) (hc30 : c1 < 30) : CM (d + 3) 0 0 yX4_isResultParsed cX4_isResultParsed 4 (some .boolean) [.ref 86] b Y M (.inl (some (.int (tno (rFm (M 87) n a))))) (tst M (rFm (M 87) n a) (jadd (jpos M (tna (M 87) n (tna (M 87) n (tna (M 87) n (a + 1) + 1) + 1))) c1 109 (tnv (M 87) n (a + 1)) (tnv (M 87) n (tna (M 87) n (a + 1) + 1)) (tnv (M 87) n (tna (M 87) n (tna (M 87) n (a + 1) + 1) + 1)))) := by
  refine Con.of (by decide +kernel) (Nat.le_of_ble_eq_true rfl) rfl fun p l e s m args below meth c D tyc A ad0 x hr htab hname => ?_
  change JJ _ _ _ _ _ _ _ _ _ _ _ _ _ _ _ _ _ 0 [some (.ref 86), none, none, none] [] _ 0 0
  refine j_aload_n x dX4_isResultParsed_0 rfl ?_
  refine j_dup x dX4_isResultParsed_1 rfl ?_
  refine j2_geti (k := 1) x hb dX4_isResultParsed_2 jc_8 wfX4_32 (by decide) rfl ?_
  refine j_iconst (v := 1) x dX4_isResultParsed_5 (by decide) ?_
  refine j_iadd x dX4_isResultParsed_6 ?_
  refine j2_puti (k := 1) x hb dX4_isResultParsed_7 jc_8 wfX4_32 (by decide) rfl rfl rfl rfl ?_; rw [show jm M 86 1 (M 86 1 + 1) = jpos M (a + 1) from by rw [hp, nI_1]; rfl]
  refine j_aload_n x dX4_isResultParsed_10 rfl ?_
  refine j2_callVi x hb dX4_isResultParsed_11 m_X4_number (c_number_p (d := d) hb hn hl (show a + 1 ≤ n by omega)) wmX4_66 jc_8 rfl rfl rfl (Nat.le_of_ble_eq_true rfl) (j_fit_rm (by omega) (by omega) (by omega)) rfl ?_
  refine j_istore_n x dX4_isResultParsed_14 (by decide) rfl ?_
  refine j_iload_n x dX4_isResultParsed_15 rfl ?_
  refine j_iconst (v := (-1)) x dX4_isResultParsed_16 (by decide) ?_
  refine j_icmp_eq (tgt := 29) x dX4_isResultParsed_17 (by decide) (fun g1 => ?_) (fun g1 => ?_)
  · refine j_iconst (v := 0) x dX4_isResultParsed_29 (by decide) ?_
    exact j_zreturn x hr dX4_isResultParsed_30 (by first | decide | with_reducible exact jb_nar | with_reducible exact tno_nar | with_reducible exact jisS_nar | with_reducible exact gno_nar) (by omega) (by omega) ⟨by rw [rFm, if_pos g1]; rfl, by rw [rFm, if_pos g1]; rfl⟩
  · refine j_aload_n x dX4_isResultParsed_20 rfl ?_
    refine j_bipush (v := 61) x dX4_isResultParsed_21 (by decide) ?_
    by_cases g2 : tsg (M 87) n (tna (M 87) n (a + 1)) = 61
    · refine j2_callVi x hb dX4_isResultParsed_23 m_X4_isPassed (c_isPassed_y_p (d := d + 1) hb hn hl (tna_le (show a + 1 ≤ n by omega)) g2) wmX4_46 jc_8 rfl rfl rfl (Nat.le_of_ble_eq_true rfl) (j_fit_rm (by omega) (by omega) (by omega)) rfl ?_
      refine j_if_ne (tgt := 31) x dX4_isResultParsed_26 (by decide) (fun hc => ?_) (fun hc => absurd hc (by decide))
      refine j_aload_n x dX4_isResultParsed_31 rfl ?_
      refine j2_callVi x hb dX4_isResultParsed_32 m_X4_number (c_number_p (d := d) hb hn hl (tsg_lt g2 (by decide))) wmX4_66 jc_8 rfl rfl rfl (Nat.le_of_ble_eq_true rfl) (j_fit_rm (by omega) (by omega) (by omega)) rfl ?_
      refine j_istore_n x dX4_isResultParsed_35 (by decide) rfl ?_
      refine j_iload_n x dX4_isResultParsed_36 rfl ?_
      refine j_iconst (v := (-1)) x dX4_isResultParsed_37 (by decide) ?_
      refine j_icmp_eq (tgt := 50) x dX4_isResultParsed_38 (by decide) (fun g3 => ?_) (fun g3 => ?_)
      · refine j_iconst (v := 0) x dX4_isResultParsed_50 (by decide) ?_
        exact j_zreturn x hr dX4_isResultParsed_51 (by first | decide | with_reducible exact jb_nar | with_reducible exact tno_nar | with_reducible exact jisS_nar | with_reducible exact gno_nar) (by omega) (by omega) ⟨by rw [rFm, if_neg g1, if_neg (fun z => z g2), if_pos g3]; rfl, by rw [rFm, if_neg g1, if_neg (fun z => z g2), if_pos g3]; rfl⟩
      · refine j_aload_n x dX4_isResultParsed_41 rfl ?_
        refine j_bipush (v := 58) x dX4_isResultParsed_42 (by decide) ?_
        by_cases g4 : tsg (M 87) n (tna (M 87) n (tna (M 87) n (a + 1) + 1)) = 58
        · refine j2_callVi x hb dX4_isResultParsed_44 m_X4_isPassed (c_isPassed_y_p (d := d + 1) hb hn hl (tna_le (tsg_lt g2 (by decide))) g4) wmX4_46 jc_8 rfl rfl rfl (Nat.le_of_ble_eq_true rfl) (j_fit_rm (by omega) (by omega) (by omega)) rfl ?_
          refine j_if_ne (tgt := 52) x dX4_isResultParsed_47 (by decide) (fun hc => ?_) (fun hc => absurd hc (by decide))
          refine j_aload_n x dX4_isResultParsed_52 rfl ?_
          refine j2_callVi x hb dX4_isResultParsed_53 m_X4_number (c_number_p (d := d) hb hn hl (tsg_lt g4 (by decide))) wmX4_66 jc_8 rfl rfl rfl (Nat.le_of_ble_eq_true rfl) (j_fit_rm (by omega) (by omega) (by omega)) rfl ?_
          refine j_istore_n x dX4_isResultParsed_56 (by decide) rfl ?_
          refine j_iload_n x dX4_isResultParsed_57 rfl ?_
          refine j_iconst (v := (-1)) x dX4_isResultParsed_58 (by decide) ?_
          refine j_icmp_eq (tgt := 78) x dX4_isResultParsed_59 (by decide) (fun g5 => ?_) (fun g5 => ?_)
          · refine j_iconst (v := 0) x dX4_isResultParsed_78 (by decide) ?_
            exact j_zreturn x hr dX4_isResultParsed_79 (by first | decide | with_reducible exact jb_nar | with_reducible exact tno_nar | with_reducible exact jisS_nar | with_reducible exact gno_nar) (by omega) (by omega) ⟨by rw [rFm, if_neg g1, if_neg (fun z => z g2), if_neg g3, if_neg (fun z => z g4), if_pos g5]; rfl, by rw [rFm, if_neg g1, if_neg (fun z => z g2), if_neg g3, if_neg (fun z => z g4), if_pos g5]; rfl⟩
          · refine j_aload_n x dX4_isResultParsed_62 rfl ?_
            refine j_bipush (v := 109) x dX4_isResultParsed_63 (by decide) ?_
            refine j_iload_n x dX4_isResultParsed_65 rfl ?_
            refine j_iload_n x dX4_isResultParsed_66 rfl ?_
            refine j_iload_n x dX4_isResultParsed_67 rfl ?_
            refine j2_callVi x hb dX4_isResultParsed_68 m_X4_add (c_add (d := d + 1) hb ((jpos_n (by omega)).trans hc1) hc30) wmX4_59 jc_8 rfl rfl rfl (Nat.le_of_ble_eq_true rfl) (j_fit_rm (by omega) (by omega) (by omega)) rfl ?_
            refine j_if_eq (tgt := 78) x dX4_isResultParsed_71 (by decide) (fun hc => absurd hc (by decide)) (fun hc => ?_)
            refine j_iconst (v := 1) x dX4_isResultParsed_74 (by decide) ?_
            refine j_goto (tgt := 79) x dX4_isResultParsed_75 (by decide) ?_
            exact j_zreturn x hr dX4_isResultParsed_79 (by first | decide | with_reducible exact jb_nar | with_reducible exact tno_nar | with_reducible exact jisS_nar | with_reducible exact gno_nar) (by omega) (by omega) ⟨by rw [rFm, if_neg g1, if_neg (fun z => z g2), if_neg g3, if_neg (fun z => z g4), if_neg g5]; rfl, by rw [rFm, if_neg g1, if_neg (fun z => z g2), if_neg g3, if_neg (fun z => z g4), if_neg g5]; rfl⟩
        · refine j2_callVi x hb dX4_isResultParsed_44 m_X4_isPassed (c_isPassed_n_p (d := d + 1) hb hn hl (tna_le (tsg_lt g2 (by decide))) g4) wmX4_46 jc_8 rfl rfl rfl (Nat.le_of_ble_eq_true rfl) (j_fit_rm (by omega) (by omega) (by omega)) rfl ?_
          refine j_if_ne (tgt := 52) x dX4_isResultParsed_47 (by decide) (fun hc => absurd hc (fun z => z rfl)) (fun hc => ?_)
          refine j_iconst (v := 0) x dX4_isResultParsed_50 (by decide) ?_
          exact j_zreturn x hr dX4_isResultParsed_51 (by first | decide | with_reducible exact jb_nar | with_reducible exact tno_nar | with_reducible exact jisS_nar | with_reducible exact gno_nar) (by omega) (by omega) ⟨by rw [rFm, if_neg g1, if_neg (fun z => z g2), if_neg g3, if_pos g4]; rfl, by rw [rFm, if_neg g1, if_neg (fun z => z g2), if_neg g3, if_pos g4]; rfl⟩
    · refine j2_callVi x hb dX4_isResultParsed_23 m_X4_isPassed (c_isPassed_n_p (d := d + 1) hb hn hl (tna_le (show a + 1 ≤ n by omega)) g2) wmX4_46 jc_8 rfl rfl rfl (Nat.le_of_ble_eq_true rfl) (j_fit_rm (by omega) (by omega) (by omega)) rfl ?_
      refine j_if_ne (tgt := 31) x dX4_isResultParsed_26 (by decide) (fun hc => absurd hc (fun z => z rfl)) (fun hc => ?_)
      refine j_iconst (v := 0) x dX4_isResultParsed_29 (by decide) ?_
      exact j_zreturn x hr dX4_isResultParsed_30 (by first | decide | with_reducible exact jb_nar | with_reducible exact tno_nar | with_reducible exact jisS_nar | with_reducible exact gno_nar) (by omega) (by omega) ⟨by rw [rFm, if_neg g1, if_pos g2]; rfl, by rw [rFm, if_neg g1, if_pos g2]; rfl⟩
theorem c_areRulesParsed {d : Nat} {b : SBt} {Y : OUt} {M : MM} (hb : 104 ≤ b.2.1) {a n : Nat} (hn : n ≤ 60) (hl : M 86 0 = nI n) (hp : M 86 1 = nI (a + 1)) (ha : a + 1 ≤ n) {c1 : Nat} (hc1 : M 86 2 = nI c1) (hc30 : c1 < 30) : CM (d + 3) 0 0 yX4_areRulesParsed cX4_areRulesParsed 4 (some .boolean) [.ref 86] b Y M (.inl (some (.int (1)))) (jadd (jpos M (tda (M 87) n (tda (M 87) n (tda (M 87) n (a + 1) 4) 4) 4)) c1 116 (tdg (M 87) n (a + 1) 4) (tdg (M 87) n (tda (M 87) n (a + 1) 4) 4) (tdg (M 87) n (tda (M 87) n (tda (M 87) n (a + 1) 4) 4) 4)) := by
  refine Con.of (by decide +kernel) (Nat.le_of_ble_eq_true rfl) rfl fun p l e s m args below meth c D tyc A ad0 x hr htab hname => ?_
  change JJ _ _ _ _ _ _ _ _ _ _ _ _ _ _ _ _ _ 0 [some (.ref 86), none, none, none] [] _ 0 0
  refine j_aload_n x dX4_areRulesParsed_0 rfl ?_
  refine j_iconst (v := 4) x dX4_areRulesParsed_1 (by decide) ?_
  refine j2_callVi x hb dX4_areRulesParsed_2 m_X4_digit (c_digit (d := d) hb hn hl hp ha) wmX4_69 jc_8 rfl rfl rfl (Nat.le_of_ble_eq_true rfl) (j_fit_rm (by omega) (by omega) (by omega)) rfl ?_
  refine j_istore_n x dX4_areRulesParsed_5 (by decide) rfl ?_
  refine j_aload_n x dX4_areRulesParsed_6 rfl ?_
  refine j_iconst (v := 4) x dX4_areRulesParsed_7 (by decide) ?_
  refine j2_callVi x hb dX4_areRulesParsed_8 m_X4_digit (c_digit_p (d := d) hb hn hl (tda_le ha)) wmX4_69 jc_8 rfl rfl rfl (Nat.le_of_ble_eq_true rfl) (j_fit_rm (by omega) (by omega) (by omega)) rfl ?_
  refine j_istore_n x dX4_areRulesParsed_11 (by decide) rfl ?_
  refine j_aload_n x dX4_areRulesParsed_12 rfl ?_
  refine j_iconst (v := 4) x dX4_areRulesParsed_13 (by decide) ?_
  refine j2_callVi x hb dX4_areRulesParsed_14 m_X4_digit (c_digit_p (d := d) hb hn hl (tda_le (tda_le ha))) wmX4_69 jc_8 rfl rfl rfl (Nat.le_of_ble_eq_true rfl) (j_fit_rm (by omega) (by omega) (by omega)) rfl ?_
  refine j_istore_n x dX4_areRulesParsed_17 (by decide) rfl ?_
  refine j_aload_n x dX4_areRulesParsed_18 rfl ?_
  refine j_bipush (v := 116) x dX4_areRulesParsed_19 (by decide) ?_
  refine j_iload_n x dX4_areRulesParsed_21 rfl ?_
  refine j_iload_n x dX4_areRulesParsed_22 rfl ?_
  refine j_iload_n x dX4_areRulesParsed_23 rfl ?_
  refine j2_callVi x hb dX4_areRulesParsed_24 m_X4_add (c_add (d := d + 1) hb ((jpos_n (by omega)).trans hc1) hc30) wmX4_59 jc_8 rfl rfl rfl (Nat.le_of_ble_eq_true rfl) (j_fit_rm (by omega) (by omega) (by omega)) rfl ?_
  exact j_zreturn x hr dX4_areRulesParsed_27 (by first | decide | with_reducible exact jb_nar | with_reducible exact tno_nar | with_reducible exact jisS_nar | with_reducible exact gno_nar) (by omega) (by omega) ⟨rfl, rfl⟩
theorem c_isCommandParsed_109 {d : Nat} {b : SBt} {Y : OUt} {M : MM} (hb : 104 ≤ b.2.1) {a n : Nat} (hn : n ≤ 60) (hl : M 86 0 = nI n) (hp : M 86 1 = nI a) (ha : a ≤ n) {c1 : Nat} (hc1 : M 86 2 = nI c1) (hc30 : c1 < 30) (hL : tsg (M 87) n a = 109) : CM (d + 4) 0 0 yX4_isCommandParsed cX4_isCommandParsed 2 (some .boolean) [.ref 86] b Y M (.inl (some (.int (tno (rFm (M 87) n a))))) (tst M (rFm (M 87) n a) (jadd (jpos M (tna (M 87) n (tna (M 87) n (tna (M 87) n (a + 1) + 1) + 1))) c1 109 (tnv (M 87) n (a + 1)) (tnv (M 87) n (tna (M 87) n (a + 1) + 1)) (tnv (M 87) n (tna (M 87) n (tna (M 87) n (a + 1) + 1) + 1)))) := by
  refine Con.of (by decide +kernel) (Nat.le_of_ble_eq_true rfl) rfl fun p l e s m args below meth c D tyc A ad0 x hr htab hname => ?_
  change JJ _ _ _ _ _ _ _ _ _ _ _ _ _ _ _ _ _ 0 [some (.ref 86), none] [] _ 0 0
  refine j_aload_n x dX4_isCommandParsed_0 rfl ?_
  refine j2_callVi x hb dX4_isCommandParsed_1 m_X4_sign (CM_v (c_sign (d := d) hb hn hl hp ha) hL) wmX4_42 jc_8 rfl rfl rfl (Nat.le_of_ble_eq_true rfl) (j_fit_rm (by omega) (by omega) (by omega)) rfl ?_
  refine j_istore_n x dX4_isCommandParsed_4 (by decide) rfl ?_
  refine j_iload_n x dX4_isCommandParsed_5 rfl ?_
  refine j_lookup (off := 50) (tgt := 56) x dX4_isCommandParsed_6 (by decide) (by decide) (by decide) ?_
  refine j_aload_n x dX4_isCommandParsed_56 rfl ?_
  refine j2_callVi x hb dX4_isCommandParsed_57 m_X4_isResultParsed (c_isResultParsed (d := d) hb hn hl hp (tsg_lt hL (by decide)) hc1 hc30) wmX4_50 jc_8 rfl rfl rfl (Nat.le_of_ble_eq_true rfl) (j_fit_rm (by omega) (by omega) (by omega)) rfl ?_
  exact j_zreturn x hr dX4_isCommandParsed_60 (by first | decide | with_reducible exact jb_nar | with_reducible exact tno_nar | with_reducible exact jisS_nar | with_reducible exact gno_nar) (by omega) (by omega) ⟨rfl, rfl⟩
theorem c_isCommandParsed_98 {d : Nat} {b : SBt} {Y : OUt} {M : MM} (hb : 104 ≤ b.2.1) {a n : Nat} (hn : n ≤ 60) (hl : M 86 0 = nI n) (hp : M 86 1 = nI a) (ha : a ≤ n) {c1 : Nat} (hc1 : M 86 2 = nI c1) (hc30 : c1 < 30) (hL : tsg (M 87) n a = 98) : CM (d + 4) 0 0 yX4_isCommandParsed cX4_isCommandParsed 2 (some .boolean) [.ref 86] b Y M (.inl (some (.int (tno (rFb (M 87) n a))))) (tst M (rFb (M 87) n a) (jadd (jpos M (tna (M 87) n (a + 1))) c1 98 (tnv (M 87) n (a + 1)) (-1) (-1))) := by
  refine Con.of (by decide +kernel) (Nat.le_of_ble_eq_true rfl) rfl fun p l e s m args below meth c D tyc A ad0 x hr htab hname => ?_
  change JJ _ _ _ _ _ _ _ _ _ _ _ _ _ _ _ _ _ 0 [some (.ref 86), none] [] _ 0 0
  refine j_aload_n x dX4_isCommandParsed_0 rfl ?_
  refine j2_callVi x hb dX4_isCommandParsed_1 m_X4_sign (CM_v (c_sign (d := d) hb hn hl hp ha) hL) wmX4_42 jc_8 rfl rfl rfl (Nat.le_of_ble_eq_true rfl) (j_fit_rm (by omega) (by omega) (by omega)) rfl ?_
  refine j_istore_n x dX4_isCommandParsed_4 (by decide) rfl ?_
  refine j_iload_n x dX4_isCommandParsed_5 rfl ?_
  refine j_lookup (off := 55) (tgt := 61) x dX4_isCommandParsed_6 (by decide) (by decide) (by decide) ?_
  refine j_aload_n x dX4_isCommandParsed_61 rfl ?_
  refine j2_callVi x hb dX4_isCommandParsed_62 m_X4_isBackParsed (c_isBackParsed (d := d) hb hn hl hp (tsg_lt hL (by decide)) hc1 hc30) wmX4_53 jc_8 rfl rfl rfl (Nat.le_of_ble_eq_true rfl) (j_fit_rm (by omega) (by omega) (by omega)) rfl ?_
  exact j_zreturn x hr dX4_isCommandParsed_65 (by first | decide | with_reducible exact jb_nar | with_reducible exact tno_nar | with_reducible exact jisS_nar | with_reducible exact gno_nar) (by omega) (by omega) ⟨rfl, rfl⟩
theorem c_isCommandParsed_111 {d : Nat} {b : SBt} {Y : OUt} {M : MM} (hb : 104 ≤ b.2.1) {a n : Nat} (hn : n ≤ 60) (hl : M 86 0 = nI n) (hp : M 86 1 = nI a) (ha : a ≤ n) {c1 : Nat} (hc1 : M 86 2 = nI c1) (hc30 : c1 < 30) (hL : tsg (M 87) n a = 111) : CM (d + 4) 0 0 yX4_isCommandParsed cX4_isCommandParsed 2 (some .boolean) [.ref 86] b Y M (.inl (some (.int (tno (rFo (M 87) n a))))) (tst M (rFo (M 87) n a) (jadd (jpos M (tna (M 87) n (tna (M 87) n (a + 1) + 1))) c1 111 (tnv (M 87) n (a + 1)) (tnv (M 87) n (tna (M 87) n (a + 1) + 1)) (-1))) := by
  refine Con.of (by decide +kernel) (Nat.le_of_ble_eq_true rfl) rfl fun p l e s m args below meth c D tyc A ad0 x hr htab hname => ?_
  change JJ _ _ _ _ _ _ _ _ _ _ _ _ _ _ _ _ _ 0 [some (.ref 86), none] [] _ 0 0
  refine j_aload_n x dX4_isCommandParsed_0 rfl ?_
  refine j2_callVi x hb dX4_isCommandParsed_1 m_X4_sign (CM_v (c_sign (d := d) hb hn hl hp ha) hL) wmX4_42 jc_8 rfl rfl rfl (Nat.le_of_ble_eq_true rfl) (j_fit_rm (by omega) (by omega) (by omega)) rfl ?_
  refine j_istore_n x dX4_isCommandParsed_4 (by decide) rfl ?_
  refine j_iload_n x dX4_isCommandParsed_5 rfl ?_
  refine j_lookup (off := 60) (tgt := 66) x dX4_isCommandParsed_6 (by decide) (by decide) (by decide) ?_
  refine j_aload_n x dX4_isCommandParsed_66 rfl ?_
  refine j2_callVi x hb dX4_isCommandParsed_67 m_X4_isPutOffParsed (c_isPutOffParsed (d := d) hb hn hl hp (tsg_lt hL (by decide)) hc1 hc30) wmX4_56 jc_8 rfl rfl rfl (Nat.le_of_ble_eq_true rfl) (j_fit_rm (by omega) (by omega) (by omega)) rfl ?_
  exact j_zreturn x hr dX4_isCommandParsed_70 (by first | decide | with_reducible exact jb_nar | with_reducible exact tno_nar | with_reducible exact jisS_nar | with_reducible exact gno_nar) (by omega) (by omega) ⟨rfl, rfl⟩
theorem c_isCommandParsed_110 {d : Nat} {b : SBt} {Y : OUt} {M : MM} (hb : 104 ≤ b.2.1) {a n : Nat} (hn : n ≤ 60) (hl : M 86 0 = nI n) (hp : M 86 1 = nI a) (ha : a ≤ n) {c1 : Nat} (hc1 : M 86 2 = nI c1) (hc30 : c1 < 30) (hL : tsg (M 87) n a = 110) : CM (d + 4) 0 0 yX4_isCommandParsed cX4_isCommandParsed 2 (some .boolean) [.ref 86] b Y M (.inl (some (.int (1)))) (jadd (jpos M (a + 1)) c1 110 (-1) (-1) (-1)) := by
  refine Con.of (by decide +kernel) (Nat.le_of_ble_eq_true rfl) rfl fun p l e s m args below meth c D tyc A ad0 x hr htab hname => ?_
  change JJ _ _ _ _ _ _ _ _ _ _ _ _ _ _ _ _ _ 0 [some (.ref 86), none] [] _ 0 0
  refine j_aload_n x dX4_isCommandParsed_0 rfl ?_
  refine j2_callVi x hb dX4_isCommandParsed_1 m_X4_sign (CM_v (c_sign (d := d) hb hn hl hp ha) hL) wmX4_42 jc_8 rfl rfl rfl (Nat.le_of_ble_eq_true rfl) (j_fit_rm (by omega) (by omega) (by omega)) rfl ?_
  refine j_istore_n x dX4_isCommandParsed_4 (by decide) rfl ?_
  refine j_iload_n x dX4_isCommandParsed_5 rfl ?_
  refine j_lookup (off := 65) (tgt := 71) x dX4_isCommandParsed_6 (by decide) (by decide) (by decide) ?_
  refine j_aload_n x dX4_isCommandParsed_71 rfl ?_
  refine j_bipush (v := 110) x dX4_isCommandParsed_72 (by decide) ?_
  refine j2_callVi x hb dX4_isCommandParsed_74 m_X4_isPassed (c_isPassed_y (d := d) hb hn hl hp ha hL) wmX4_46 jc_8 rfl rfl rfl (Nat.le_of_ble_eq_true rfl) (j_fit_rm (by omega) (by omega) (by omega)) rfl ?_
  refine j_if_eq (tgt := 96) x dX4_isCommandParsed_77 (by decide) (fun hc => absurd hc (by decide)) (fun hc => ?_)
  refine j_aload_n x dX4_isCommandParsed_80 rfl ?_
  refine j_bipush (v := 110) x dX4_isCommandParsed_81 (by decide) ?_
  refine j_iconst (v := (-1)) x dX4_isCommandParsed_83 (by decide) ?_
  refine j_iconst (v := (-1)) x dX4_isCommandParsed_84 (by decide) ?_
  refine j_iconst (v := (-1)) x dX4_isCommandParsed_85 (by decide) ?_
  refine j2_callVi x hb dX4_isCommandParsed_86 m_X4_add (c_add (d := d) hb ((jpos_n (by omega)).trans hc1) hc30) wmX4_59 jc_8 rfl rfl rfl (Nat.le_of_ble_eq_true rfl) (j_fit_rm (by omega) (by omega) (by omega)) rfl ?_
  refine j_if_eq (tgt := 96) x dX4_isCommandParsed_89 (by decide) (fun hc => absurd hc (by decide)) (fun hc => ?_)
  refine j_iconst (v := 1) x dX4_isCommandParsed_92 (by decide) ?_
  refine j_goto (tgt := 97) x dX4_isCommandParsed_93 (by decide) ?_
  exact j_zreturn x hr dX4_isCommandParsed_97 (by first | decide | with_reducible exact jb_nar | with_reducible exact tno_nar | with_reducible exact jisS_nar | with_reducible exact gno_nar) (by omega) (by omega) ⟨rfl, rfl⟩
theorem c_areRulesParsed_p {d : Nat} {b : SBt} {Y : OUt} {M : MM} (hb : 104 ≤ b.2.1) {a n : Nat} (hn : n ≤ 60) (hl : M 86 0 = nI n) (ha : a + 1 ≤ n) {c1 : Nat} (hc1 : M 86 2 = nI c1) (hc30 : c1 < 30) : CM (d + 3) 0 0 yX4_areRulesParsed cX4_areRulesParsed 4 (some .boolean) [.ref 86] b Y (jpos M (a + 1)) (.inl (some (.int 1))) (jadd (jpos M (tda (M 87) n (tda (M 87) n (tda (M 87) n (a + 1) 4) 4) 4)) c1 116 (tdg (M 87) n (a + 1) 4) (tdg (M 87) n (tda (M 87) n (a + 1) 4) 4) (tdg (M 87) n (tda (M 87) n (tda (M 87) n (a + 1) 4) 4) 4)) := by
  have h := c_areRulesParsed (d := d) (Y := Y) (M := jpos M (a + 1)) hb hn (by rw [jpos_n (by omega)]; exact hl) jpos_s ha (c1 := c1) (by rw [jpos_n (by omega)]; exact hc1) hc30
  try simp only [jpos_t, jpos_jpos] at h
  exact h
theorem c_isCommandParsed_116 {d : Nat} {b : SBt} {Y : OUt} {M : MM} (hb : 104 ≤ b.2.1) {a n : Nat} (hn : n ≤ 60) (hl : M 86 0 = nI n) (hp : M 86 1 = nI a) (ha : a ≤ n) {c1 : Nat} (hc1 : M 86 2 = nI c1) (hc30 : c1 < 30) (hL : tsg (M 87) n a = 116) : CM (d + 4) 0 0 yX4_isCommandParsed cX4_isCommandParsed 2 (some .boolean) [.ref 86] b Y M (.inl (some (.int (1)))) (jadd (jpos M (tda (M 87) n (tda (M 87) n (tda (M 87) n (a + 1) 4) 4) 4)) c1 116 (tdg (M 87) n (a + 1) 4) (tdg (M 87) n (tda (M 87) n (a + 1) 4) 4) (tdg (M 87) n (tda (M 87) n (tda (M 87) n (a + 1) 4) 4) 4)) := by
  refine Con.of (by decide +kernel) (Nat.le_of_ble_eq_true rfl) rfl fun p l e s m args below meth c D tyc A ad0 x hr htab hname => ?_
  change JJ _ _ _ _ _ _ _ _ _ _ _ _ _ _ _ _ _ 0 [some (.ref 86), none] [] _ 0 0
  refine j_aload_n x dX4_isCommandParsed_0 rfl ?_
  refine j2_callVi x hb dX4_isCommandParsed_1 m_X4_sign (CM_v (c_sign (d := d) hb hn hl hp ha) hL) wmX4_42 jc_8 rfl rfl rfl (Nat.le_of_ble_eq_true rfl) (j_fit_rm (by omega) (by omega) (by omega)) rfl ?_
  refine j_istore_n x dX4_isCommandParsed_4 (by decide) rfl ?_
  refine j_iload_n x dX4_isCommandParsed_5 rfl ?_
  refine j_lookup (off := 92) (tgt := 98) x dX4_isCommandParsed_6 (by decide) (by decide) (by decide) ?_
  refine j_aload_n x dX4_isCommandParsed_98 rfl ?_
  refine j_bipush (v := 116) x dX4_isCommandParsed_99 (by decide) ?_
  refine j2_callVi x hb dX4_isCommandParsed_101 m_X4_isPassed (c_isPassed_y (d := d) hb hn hl hp ha hL) wmX4_46 jc_8 rfl rfl rfl (Nat.le_of_ble_eq_true rfl) (j_fit_rm (by omega) (by omega) (by omega)) rfl ?_
  refine j_if_eq (tgt := 118) x dX4_isCommandParsed_104 (by decide) (fun hc => absurd hc (by decide)) (fun hc => ?_)
  refine j_aload_n x dX4_isCommandParsed_107 rfl ?_
  refine j2_callVi x hb dX4_isCommandParsed_108 m_X4_areRulesParsed (c_areRulesParsed_p (d := d) hb hn hl (tsg_lt hL (by decide)) hc1 hc30) wmX4_63 jc_8 rfl rfl rfl (Nat.le_of_ble_eq_true rfl) (j_fit_rm (by omega) (by omega) (by omega)) rfl ?_
  refine j_if_eq (tgt := 118) x dX4_isCommandParsed_111 (by decide) (fun hc => absurd hc (by decide)) (fun hc => ?_)
  refine j_iconst (v := 1) x dX4_isCommandParsed_114 (by decide) ?_
  refine j_goto (tgt := 119) x dX4_isCommandParsed_115 (by decide) ?_
  exact j_zreturn x hr dX4_isCommandParsed_119 (by first | decide | with_reducible exact jb_nar | with_reducible exact tno_nar | with_reducible exact jisS_nar | with_reducible exact gno_nar) (by omega) (by omega) ⟨rfl, rfl⟩
theorem c_isCommandParsed_no {d : Nat} {b : SBt} {Y : OUt} {M : MM} (hb : 104 ≤ b.2.1) {a n : Nat} (hn : n ≤ 60) (hl : M 86 0 = nI n) (hp : M 86 1 = nI a) (ha : a ≤ n) (h1 : ¬ tsg (M 87) n a = 109) (h2 : ¬ tsg (M 87) n a = 98) (h3 : ¬ tsg (M 87) n a = 111) (h4 : ¬ tsg (M 87) n a = 110) (h5 : ¬ tsg (M 87) n a = 116) : CM (d + 4) 0 0 yX4_isCommandParsed cX4_isCommandParsed 2 (some .boolean) [.ref 86] b Y M (.inl (some (.int (0)))) (M) := by
  refine Con.of (by decide +kernel) (Nat.le_of_ble_eq_true rfl) rfl fun p l e s m args below meth c D tyc A ad0 x hr htab hname => ?_
  change JJ _ _ _ _ _ _ _ _ _ _ _ _ _ _ _ _ _ 0 [some (.ref 86), none] [] _ 0 0
  refine j_aload_n x dX4_isCommandParsed_0 rfl ?_
  refine j2_callVi x hb dX4_isCommandParsed_1 m_X4_sign (c_sign (d := d) hb hn hl hp ha) wmX4_42 jc_8 rfl rfl rfl (Nat.le_of_ble_eq_true rfl) (j_fit_rm (by omega) (by omega) (by omega)) rfl ?_
  refine j_istore_n x dX4_isCommandParsed_4 (by decide) rfl ?_
  refine j_iload_n x dX4_isCommandParsed_5 rfl ?_
  refine j_lookup (off := 114) (tgt := 120) x dX4_isCommandParsed_6 (by decide) ((lv_osw h2 (by decide)).trans ((lv_osw h1 (by decide)).trans ((lv_osw h4 (by decide)).trans ((lv_osw h3 (by decide)).trans ((lv_osw h5 (by decide)).trans (Op.lookupswitch.offset_nil _ _)))))) (by decide) ?_
  refine j_iconst (v := 0) x dX4_isCommandParsed_120 (by decide) ?_
  exact j_zreturn x hr dX4_isCommandParsed_121 (by first | decide | with_reducible exact jb_nar | with_reducible exact tno_nar | with_reducible exact jisS_nar | with_reducible exact gno_nar) (by omega) (by omega) ⟨rfl, rfl⟩
theorem c_isCommandParsed {d : Nat} {b : SBt} {Y : OUt} {M : MM} (hb : 104 ≤ b.2.1) {a n : Nat} (hn : n ≤ 60) (hl : M 86 0 = nI n) (hp : M 86 1 = nI a) (ha : a ≤ n) {c1 : Nat} (hc1 : M 86 2 = nI c1) (hc30 : c1 < 30) : CM (d + 4) 0 0 yX4_isCommandParsed cX4_isCommandParsed 2 (some .boolean) [.ref 86] b Y M (.inl (some (.int (tno (pF (M 87) n a))))) (tst M (pF (M 87) n a) (jadd (jpos M (pN (M 87) n a)) c1 (tsg (M 87) n a) (p1 (M 87) n a) (p2 (M 87) n a) (p3 (M 87) n a))) := by
  by_cases h1 : tsg (M 87) n a = 109
  · have h := c_isCommandParsed_109 (d := d) (Y := Y) hb hn hl hp ha hc1 hc30 h1
    simp only [pF, pN, p1, p2, p3, h1, if_true, if_false, reduceCtorEq, show ¬ (109 : Int32) = 110 from by decide, show ¬ (109 : Int32) = 116 from by decide, show ¬ (109 : Int32) = 98 from by decide, or_self]
    exact h
  · by_cases h2 : tsg (M 87) n a = 98
    · have h := c_isCommandParsed_98 (d := d) (Y := Y) hb hn hl hp ha hc1 hc30 h2
      simp only [pF, pN, p1, p2, p3, h2, if_true, if_false, show ¬ (98 : Int32) = 110 from by decide, show ¬ (98 : Int32) = 116 from by decide, show ¬ (98 : Int32) = 109 from by decide, or_true]
      exact h
    · by_cases h3 : tsg (M 87) n a = 111
      · have h := c_isCommandParsed_111 (d := d) (Y := Y) hb hn hl hp ha hc1 hc30 h3
        simp only [pF, pN, p1, p2, p3, h3, if_true, if_false, show ¬ (111 : Int32) = 110 from by decide, show ¬ (111 : Int32) = 116 from by decide, show ¬ (111 : Int32) = 109 from by decide, show ¬ (111 : Int32) = 98 from by decide, or_self]
        exact h
      · by_cases h4 : tsg (M 87) n a = 110
        · have h := c_isCommandParsed_110 (d := d) (Y := Y) hb hn hl hp ha hc1 hc30 h4
          simp only [pF, pN, p1, p2, p3, h4, if_true, if_false, show ¬ (110 : Int32) = 116 from by decide, show ¬ (110 : Int32) = 109 from by decide, show ¬ (110 : Int32) = 98 from by decide, show ¬ (110 : Int32) = 111 from by decide, true_or]
          exact h
        · by_cases h5 : tsg (M 87) n a = 116
          · have h := c_isCommandParsed_116 (d := d) (Y := Y) hb hn hl hp ha hc1 hc30 h5
            simp only [pF, pN, p1, p2, p3, h5, if_true, if_false, show ¬ (116 : Int32) = 110 from by decide, show ¬ (116 : Int32) = 109 from by decide, show ¬ (116 : Int32) = 98 from by decide, show ¬ (116 : Int32) = 111 from by decide, or_self]
            exact h
          · have h := c_isCommandParsed_no (d := d) (Y := Y) hb hn hl hp ha h1 h2 h3 h4 h5
            simp only [pF, if_neg h1, if_neg h2, if_neg h3, if_neg h4, if_neg h5]
            show CM _ _ _ _ _ _ _ _ _ _ _ (.inl (some (.int 0))) (jpos M a)
            rw [jpos_id hp]
            exact h
end

section
/-! ===== the class: commands ===== -/
theorem pN_le {T : Nat → Int32} {n a : Nat} (h : pF T n a = none) (ha : a ≤ n) : pN T n a ≤ n := by
  unfold pF at h
  unfold pN
  by_cases h1 : tsg T n a = 109
  · have k1 := tsg_lt h1 (by decide)
    simp only [h1, if_true] at h ⊢
    unfold rFm at h
    by_cases g1 : tnv T n (a + 1) = -1
    · rw [if_pos g1] at h; cases h
    · rw [if_neg g1] at h
      by_cases g2 : tsg T n (tna T n (a + 1)) = 61
      · have k2 := tsg_lt g2 (by decide)
        rw [if_neg (fun z => z g2)] at h
        by_cases g3 : tnv T n (tna T n (a + 1) + 1) = -1
        · rw [if_pos g3] at h; cases h
        · rw [if_neg g3] at h
          by_cases g4 : tsg T n (tna T n (tna T n (a + 1) + 1)) = 58
          · exact tna_le (tsg_lt g4 (by decide))
          · rw [if_pos g4] at h; cases h
      · rw [if_pos g2] at h; cases h
  · by_cases h2 : tsg T n a = 98
    · simp only [h2, if_true, show ¬ (98 : Int32) = 109 from by decide, if_false] at h ⊢
      exact tna_le (tsg_lt h2 (by decide))
    · by_cases h3 : tsg T n a = 111
      · simp only [h3, if_true, show ¬ (111 : Int32) = 109 from by decide, show ¬ (111 : Int32) = 98 from by decide, if_false] at h ⊢
        unfold rFo at h
        by_cases g1 : tnv T n (a + 1) = -1
        · rw [if_pos g1] at h; cases h
        · rw [if_neg g1] at h
          by_cases g2 : tsg T n (tna T n (a + 1)) = 43
          · exact tna_le (tsg_lt g2 (by decide))
          · rw [if_pos g2] at h; cases h
      · by_cases h4 : tsg T n a = 110
        · have k1 := tsg_lt h4 (by decide)
          simp only [h4, if_true, show ¬ (110 : Int32) = 109 from by decide, show ¬ (110 : Int32) = 98 from by decide, show ¬ (110 : Int32) = 111 from by decide, if_false]
          exact k1
        · by_cases h5 : tsg T n a = 116
          · have k1 := tsg_lt h5 (by decide)
            rw [if_neg h1, if_neg h2, if_neg h3, if_neg h4]
            exact tda_le (tda_le (tda_le k1))
          · rw [if_neg h1, if_neg h2, if_neg h3, if_neg h4, if_neg h5] at h; cases h
theorem tda_ge {T : Nat → Int32} {n a : Nat} {h : Int32} : a ≤ tda T n a h := by unfold tda; split <;> omega
theorem tna_ge {T : Nat → Int32} {n a : Nat} : a ≤ tna T n a := by
  unfold tna
  split
  · omega
  · split <;> omega
theorem pN_ge {T : Nat → Int32} {n a : Nat} : a + 1 ≤ pN T n a := by
  have h1 := tna_ge (T := T) (n := n) (a := a + 1)
  have h2 := tna_ge (T := T) (n := n) (a := tna T n (a + 1) + 1)
  have h3 := tna_ge (T := T) (n := n) (a := tna T n (tna T n (a + 1) + 1) + 1)
  have k1 := tda_ge (T := T) (n := n) (a := a + 1) (h := 4)
  have k2 := tda_ge (T := T) (n := n) (a := tda T n (a + 1) 4) (h := 4)
  have k3 := tda_ge (T := T) (n := n) (a := tda T n (tda T n (a + 1) 4) 4) (h := 4)
  unfold pN
  split
  · omega
  · split
    · omega
    · split
      · omega
      · split <;> omega
/-- where the i-th command begins -/
def ppo (T : Nat → Int32) (n : Nat) : Nat → Nat
  | 0 => 0
  | i + 1 => pN T n (ppo T n i) + 1
def pgo (T : Nat → Int32) (n i : Nat) : Prop := pF T n (ppo T n i) = none ∧ tsg T n (pN T n (ppo T n i)) = 59
theorem ppo_le {T : Nat → Int32} {n : Nat} : ∀ {i : Nat}, (∀ j, j < i → pgo T n j) → ppo T n i ≤ n
  | 0, _ => Nat.zero_le n
  | i + 1, h => tsg_lt (h i (by omega)).2 (by decide)
theorem ppo_ge {T : Nat → Int32} {n : Nat} : ∀ {i : Nat}, 2 * i ≤ ppo T n i
  | 0 => Nat.zero_le _
  | i + 1 => by
    have h1 := ppo_ge (T := T) (n := n) (i := i)
    have h2 := pN_ge (T := T) (n := n) (a := ppo T n i)
    rw [ppo]
    omega
def jpa (M : MM) (n : Nat) : Nat → MM
  | 0 => jm (jpos M 0) 86 2 0
  | i + 1 => jpos (jadd (jpos (jpa M n i) (pN (M 87) n (ppo (M 87) n i))) i (tsg (M 87) n (ppo (M 87) n i)) (p1 (M 87) n (ppo (M 87) n i)) (p2 (M 87) n (ppo (M 87) n i)) (p3 (M 87) n (ppo (M 87) n i))) (ppo (M 87) n (i + 1))
def jcm (M : MM) (n i : Nat) : MM := jadd (jpos (jpa M n i) (pN (M 87) n (ppo (M 87) n i))) i (tsg (M 87) n (ppo (M 87) n i)) (p1 (M 87) n (ppo (M 87) n i)) (p2 (M 87) n (ppo (M 87) n i)) (p3 (M 87) n (ppo (M 87) n i))
theorem jadd_n {M : MM} {c1 i k : Nat} {u v w z : Int32} (h : i < 86 ∨ i = 87 ∨ 91 < i ∨ (i = 86 ∧ k ≠ 2)) : jadd M c1 u v w z i k = M i k := by
  rw [jadd, jm_n (by omega), jm_n (by omega), jm_n (by omega), jm_n (by omega), jm_n (by omega)]
theorem jpa_n {M : MM} {n i k : Nat} (h : i < 86 ∨ i = 87 ∨ 91 < i ∨ (i = 86 ∧ k = 0)) : ∀ j, jpa M n j i k = M i k
  | 0 => by rw [jpa, jm_n (by omega), jpos_n (by omega)]
  | j + 1 => by rw [jpa, jpos_n (by omega), jadd_n (by omega), jpos_n (by omega)]; exact jpa_n h j
theorem jpa_t {M : MM} {n j : Nat} : jpa M n j 87 = M 87 := funext fun k => jpa_n (by omega) j
theorem jpa_p {M : MM} {n : Nat} : ∀ j, jpa M n j 86 1 = nI (ppo (M 87) n j)
  | 0 => by rw [jpa, jm_n (by omega), jpos_s]; rfl
  | j + 1 => jpos_s
theorem jpa_c {M : MM} {n : Nat} : ∀ j, jpa M n j 86 2 = nI j
  | 0 => jm_s
  | j + 1 => by rw [jpa, jpos_n (by omega), jadd, jm_s]
theorem jcm_n {M : MM} {n j i k : Nat} (h : i < 86 ∨ i = 87 ∨ 91 < i ∨ (i = 86 ∧ k = 0)) : jcm M n j i k = M i k := by
  rw [jcm, jadd_n (by omega), jpos_n (by omega)]; exact jpa_n h j
theorem jcm_t {M : MM} {n j : Nat} : jcm M n j 87 = M 87 := funext fun k => jcm_n (by omega)
theorem jcm_p {M : MM} {n j : Nat} : jcm M n j 86 1 = nI (pN (M 87) n (ppo (M 87) n j)) := by rw [jcm, jadd_n (by omega), jpos_s]
theorem jcm_c {M : MM} {n j : Nat} : jcm M n j 86 2 = nI (j + 1) := by rw [jcm, jadd, jm_s]
theorem jadd_at {M : MM} {c1 k : Nat} {u v w z : Int32} (h : k ≠ c1) (i : Nat) (hi : 88 ≤ i) : jadd M c1 u v w z i k = M i k := by
  rw [jadd, jm_n (by omega), jm_n (by omega), jm_n (by omega), jm_n (by omega), jm_n (by omega)]
theorem jadd_0 {M : MM} {c1 : Nat} {u v w z : Int32} : jadd M c1 u v w z 88 c1 = u ∧ jadd M c1 u v w z 89 c1 = v ∧ jadd M c1 u v w z 90 c1 = w ∧ jadd M c1 u v w z 91 c1 = z := by
  refine ⟨?_, ?_, ?_, ?_⟩
  · rw [jadd, jm_n (by omega), jm_n (by omega), jm_n (by omega), jm_n (by omega), jm_s]
  · rw [jadd, jm_n (by omega), jm_n (by omega), jm_n (by omega), jm_s]
  · rw [jadd, jm_n (by omega), jm_n (by omega), jm_s]
  · rw [jadd, jm_n (by omega), jm_s]
/-- the rows in which the commands lie -/
def jrows (N : MM) (T : Nat → Int32) (n j : Nat) : Prop := N 88 j = tsg T n (ppo T n j) ∧ N 89 j = p1 T n (ppo T n j) ∧ N 90 j = p2 T n (ppo T n j) ∧ N 91 j = p3 T n (ppo T n j)
theorem jpa_rows {M : MM} {n : Nat} : ∀ i j, j < i → jrows (jpa M n i) (M 87) n j
  | 0, j, h => absurd h (Nat.not_lt_zero j)
  | i + 1, j, h => by
    by_cases hj : j = i
    · subst hj
      unfold jrows
      rw [jpa, jpos_n (by omega), jpos_n (by omega), jpos_n (by omega), jpos_n (by omega)]
      exact jadd_0
    · have h1 := jpa_rows (M := M) (n := n) i j (by omega)
      unfold jrows at h1 ⊢
      rw [jpa, jpos_n (by omega), jpos_n (by omega), jpos_n (by omega), jpos_n (by omega), jadd_at hj 88 (by omega), jadd_at hj 89 (by omega), jadd_at hj 90 (by omega), jadd_at hj 91 (by omega), jpos_n (by omega), jpos_n (by omega), jpos_n (by omega), jpos_n (by omega)]
      exact h1
theorem jcm_rows {M : MM} {n i j : Nat} (h : j < i + 1) : jrows (jcm M n i) (M 87) n j := by
  have h1 := jpa_rows (M := M) (n := n) (i + 1) j h
  unfold jrows at h1 ⊢
  rw [jpa, jpos_n (by omega), jpos_n (by omega), jpos_n (by omega), jpos_n (by omega)] at h1
  exact h1
theorem c_cmd_no {d : Nat} {b : SBt} {Y : OUt} {M : MM} (hb : 104 ≤ b.2.1) {n : Nat} (hn : n ≤ 60) (hl : M 86 0 = nI n) {j q : Nat} (hj : j < 30) (hg : ∀ i, i < j → pgo (M 87) n i) (hF : pF (M 87) n (ppo (M 87) n j) = some q) : CM (d + 4) 0 0 yX4_isCommandParsed cX4_isCommandParsed 2 (some .boolean) [.ref 86] b Y (jpa M n j) (.inl (some (.int 0))) (jpos (jpa M n j) q) := by
  have h := c_isCommandParsed (d := d) (Y := Y) (M := jpa M n j) hb hn ((jpa_n (by omega) j).trans hl) (jpa_p j) (ppo_le hg) (jpa_c j) hj
  rw [jpa_t, hF] at h
  exact h
theorem c_cmd_ok {d : Nat} {b : SBt} {Y : OUt} {M : MM} (hb : 104 ≤ b.2.1) {n : Nat} (hn : n ≤ 60) (hl : M 86 0 = nI n) {j : Nat} (hj : j < 30) (hg : ∀ i, i < j → pgo (M 87) n i) (hF : pF (M 87) n (ppo (M 87) n j) = none) : CM (d + 4) 0 0 yX4_isCommandParsed cX4_isCommandParsed 2 (some .boolean) [.ref 86] b Y (jpa M n j) (.inl (some (.int 1))) (jcm M n j) := by
  have h := c_isCommandParsed (d := d) (Y := Y) (M := jpa M n j) hb hn ((jpa_n (by omega) j).trans hl) (jpa_p j) (ppo_le hg) (jpa_c j) hj
  rw [jpa_t, hF] at h
  exact h
theorem c_isParsed_A {d : Nat} {b : SBt} {Y : OUt} {M : MM} (hb : 104 ≤ b.2.1) {n : Nat} (hn : n ≤ 60) (hl : M 86 0 = nI n) {i : Nat} (hi : i < 30) (hg : ∀ j, j < i → pgo (M 87) n j) {q : Nat} (hF : pF (M 87) n (ppo (M 87) n i) = some q) : CM (d + 5) 0 0 yX4_isParsed cX4_isParsed 2 (some .boolean) [.ref 86] b Y M (.inl (some (.int (0)))) (jpos (jpa M n i) q) := by
  refine Con.of (by decide +kernel) (Nat.le_of_ble_eq_true rfl) rfl fun p l e s m args below meth c D tyc A ad0 x hr htab hname => ?_
  change JJ _ _ _ _ _ _ _ _ _ _ _ _ _ _ _ _ _ 0 [some (.ref 86), none] [] _ 0 0
  refine j_aload_n x dX4_isParsed_0 rfl ?_
  refine j_iconst (v := 0) x dX4_isParsed_1 (by decide) ?_
  refine j2_puti (k := 1) x hb dX4_isParsed_2 jc_8 wfX4_32 (by decide) rfl rfl rfl rfl ?_
  refine j_aload_n x dX4_isParsed_5 rfl ?_
  refine j_iconst (v := 0) x dX4_isParsed_6 (by decide) ?_
  refine j2_puti (k := 2) x hb dX4_isParsed_7 jc_8 wfX4_35 (by decide) rfl rfl rfl rfl ?_
  refine j_iconst (v := 0) x dX4_isParsed_10 (by decide) ?_
  refine j_istore_n x dX4_isParsed_11 (by decide) rfl ?_
  refine j_for i (fun z0 => [some (.ref 86), some (.int (nI z0))]) (fun z0 => jpa M n z0) (fun _ => True) rfl rfl trivial (fun j hj hP ih => ?_) (fun hP => ?_)
  · refine j_iload_n x dX4_isParsed_12 rfl ?_
    refine j_bipush (v := 30) x dX4_isParsed_13 (by decide) ?_
    refine j_icmp_ge (tgt := 54) x dX4_isParsed_15 (by decide) (fun hc => absurd hc (show ¬ nI 30 ≤ nI j from nI_ge (by omega) (by decide))) (fun hc => ?_)
    refine j_aload_n x dX4_isParsed_18 rfl ?_
    refine j2_callVi x hb dX4_isParsed_19 m_X4_isCommandParsed (c_cmd_ok (d := d) hb hn hl (show j < 30 by omega) (fun i hi => hg i (by omega)) (hg j hj).1) wmX4_38 jc_8 rfl rfl rfl (Nat.le_of_ble_eq_true rfl) (j_fit_rm (by omega) (by omega) (by omega)) rfl ?_
    refine j_if_ne (tgt := 27) x dX4_isParsed_22 (by decide) (fun hc => ?_) (fun hc => absurd hc (by decide))
    refine j_aload_n x dX4_isParsed_27 rfl ?_
    refine j2_callVi x hb dX4_isParsed_28 m_X4_sign (CM_v (w := 59) (c_sign (d := d) hb hn ((jcm_n (by omega)).trans hl) jcm_p (pN_le (hg j hj).1 (ppo_le (fun i hi => hg i (by omega))))) (by rw [jcm_t]; exact (hg j hj).2)) wmX4_42 jc_8 rfl rfl rfl (Nat.le_of_ble_eq_true rfl) (j_fit_rm (by omega) (by omega) (by omega)) rfl ?_
    refine j_iconst (v := (-1)) x dX4_isParsed_31 (by decide) ?_
    refine j_icmp_ne (tgt := 37) x dX4_isParsed_32 (by decide) (fun hc => ?_) (fun hc => absurd hc (by decide))
    refine j_aload_n x dX4_isParsed_37 rfl ?_
    refine j_bipush (v := 59) x dX4_isParsed_38 (by decide) ?_
    refine j2_callVi x hb dX4_isParsed_40 m_X4_isPassed (c_isPassed_y (d := d) (ch := 59) hb hn ((jcm_n (by omega)).trans hl) jcm_p (pN_le (hg j hj).1 (ppo_le (fun i hi => hg i (by omega)))) (by rw [jcm_t]; exact (hg j hj).2)) wmX4_46 jc_8 rfl rfl rfl (Nat.le_of_ble_eq_true rfl) (j_fit_rm (by omega) (by omega) (by omega)) rfl ?_
    refine j_if_ne (tgt := 48) x dX4_isParsed_43 (by decide) (fun hc => ?_) (fun hc => absurd hc (by decide))
    refine j_iinc x dX4_isParsed_48 rfl (by decide) rfl ?_
    refine j_goto (tgt := 12) x dX4_isParsed_51 (by decide) ?_
    exact j_goal (ih trivial) (wk_c rfl (wk_c (congrArg (fun z => some (Value.int z)) (nI_1 _)) (wk_0))) rfl
  · refine j_iload_n x dX4_isParsed_12 rfl ?_
    refine j_bipush (v := 30) x dX4_isParsed_13 (by decide) ?_
    refine j_icmp_ge (tgt := 54) x dX4_isParsed_15 (by decide) (fun hc => absurd hc (show ¬ nI 30 ≤ nI i from nI_ge (by omega) (by decide))) (fun hc => ?_)
    refine j_aload_n x dX4_isParsed_18 rfl ?_
    refine j2_callVi x hb dX4_isParsed_19 m_X4_isCommandParsed (c_cmd_no (d := d) hb hn hl hi hg hF) wmX4_38 jc_8 rfl rfl rfl (Nat.le_of_ble_eq_true rfl) (j_fit_rm (by omega) (by omega) (by omega)) rfl ?_
    refine j_if_ne (tgt := 27) x dX4_isParsed_22 (by decide) (fun hc => absurd hc (fun q => q rfl)) (fun hc => ?_)
    refine j_iconst (v := 0) x dX4_isParsed_25 (by decide) ?_
    exact j_zreturn x hr dX4_isParsed_26 (by first | decide | with_reducible exact jb_nar | with_reducible exact jisS_nar | with_reducible exact gno_nar) (by omega) (by omega) ⟨rfl, rfl⟩
theorem c_isParsed_B {d : Nat} {b : SBt} {Y : OUt} {M : MM} (hb : 104 ≤ b.2.1) {n : Nat} (hn : n ≤ 60) (hl : M 86 0 = nI n) {i : Nat} (hi : i < 30) (hg : ∀ j, j < i → pgo (M 87) n j) (hF : pF (M 87) n (ppo (M 87) n i) = none) (hE : tsg (M 87) n (pN (M 87) n (ppo (M 87) n i)) = -1) : CM (d + 5) 0 0 yX4_isParsed cX4_isParsed 2 (some .boolean) [.ref 86] b Y M (.inl (some (.int (1)))) (jcm M n i) := by
  refine Con.of (by decide +kernel) (Nat.le_of_ble_eq_true rfl) rfl fun p l e s m args below meth c D tyc A ad0 x hr htab hname => ?_
  change JJ _ _ _ _ _ _ _ _ _ _ _ _ _ _ _ _ _ 0 [some (.ref 86), none] [] _ 0 0
  refine j_aload_n x dX4_isParsed_0 rfl ?_
  refine j_iconst (v := 0) x dX4_isParsed_1 (by decide) ?_
  refine j2_puti (k := 1) x hb dX4_isParsed_2 jc_8 wfX4_32 (by decide) rfl rfl rfl rfl ?_
  refine j_aload_n x dX4_isParsed_5 rfl ?_
  refine j_iconst (v := 0) x dX4_isParsed_6 (by decide) ?_
  refine j2_puti (k := 2) x hb dX4_isParsed_7 jc_8 wfX4_35 (by decide) rfl rfl rfl rfl ?_
  refine j_iconst (v := 0) x dX4_isParsed_10 (by decide) ?_
  refine j_istore_n x dX4_isParsed_11 (by decide) rfl ?_
  refine j_for i (fun z0 => [some (.ref 86), some (.int (nI z0))]) (fun z0 => jpa M n z0) (fun _ => True) rfl rfl trivial (fun j hj hP ih => ?_) (fun hP => ?_)
  · refine j_iload_n x dX4_isParsed_12 rfl ?_
    refine j_bipush (v := 30) x dX4_isParsed_13 (by decide) ?_
    refine j_icmp_ge (tgt := 54) x dX4_isParsed_15 (by decide) (fun hc => absurd hc (show ¬ nI 30 ≤ nI j from nI_ge (by omega) (by decide))) (fun hc => ?_)
    refine j_aload_n x dX4_isParsed_18 rfl ?_
    refine j2_callVi x hb dX4_isParsed_19 m_X4_isCommandParsed (c_cmd_ok (d := d) hb hn hl (show j < 30 by omega) (fun i hi => hg i (by omega)) (hg j hj).1) wmX4_38 jc_8 rfl rfl rfl (Nat.le_of_ble_eq_true rfl) (j_fit_rm (by omega) (by omega) (by omega)) rfl ?_
    refine j_if_ne (tgt := 27) x dX4_isParsed_22 (by decide) (fun hc => ?_) (fun hc => absurd hc (by decide))
    refine j_aload_n x dX4_isParsed_27 rfl ?_
    refine j2_callVi x hb dX4_isParsed_28 m_X4_sign (CM_v (w := 59) (c_sign (d := d) hb hn ((jcm_n (by omega)).trans hl) jcm_p (pN_le (hg j hj).1 (ppo_le (fun i hi => hg i (by omega))))) (by rw [jcm_t]; exact (hg j hj).2)) wmX4_42 jc_8 rfl rfl rfl (Nat.le_of_ble_eq_true rfl) (j_fit_rm (by omega) (by omega) (by omega)) rfl ?_
    refine j_iconst (v := (-1)) x dX4_isParsed_31 (by decide) ?_
    refine j_icmp_ne (tgt := 37) x dX4_isParsed_32 (by decide) (fun hc => ?_) (fun hc => absurd hc (by decide))
    refine j_aload_n x dX4_isParsed_37 rfl ?_
    refine j_bipush (v := 59) x dX4_isParsed_38 (by decide) ?_
    refine j2_callVi x hb dX4_isParsed_40 m_X4_isPassed (c_isPassed_y (d := d) (ch := 59) hb hn ((jcm_n (by omega)).trans hl) jcm_p (pN_le (hg j hj).1 (ppo_le (fun i hi => hg i (by omega)))) (by rw [jcm_t]; exact (hg j hj).2)) wmX4_46 jc_8 rfl rfl rfl (Nat.le_of_ble_eq_true rfl) (j_fit_rm (by omega) (by omega) (by omega)) rfl ?_
    refine j_if_ne (tgt := 48) x dX4_isParsed_43 (by decide) (fun hc => ?_) (fun hc => absurd hc (by decide))
    refine j_iinc x dX4_isParsed_48 rfl (by decide) rfl ?_
    refine j_goto (tgt := 12) x dX4_isParsed_51 (by decide) ?_
    exact j_goal (ih trivial) (wk_c rfl (wk_c (congrArg (fun z => some (Value.int z)) (nI_1 _)) (wk_0))) rfl
  · refine j_iload_n x dX4_isParsed_12 rfl ?_
    refine j_bipush (v := 30) x dX4_isParsed_13 (by decide) ?_
    refine j_icmp_ge (tgt := 54) x dX4_isParsed_15 (by decide) (fun hc => absurd hc (show ¬ nI 30 ≤ nI i from nI_ge (by omega) (by decide))) (fun hc => ?_)
    refine j_aload_n x dX4_isParsed_18 rfl ?_
    refine j2_callVi x hb dX4_isParsed_19 m_X4_isCommandParsed (c_cmd_ok (d := d) hb hn hl hi hg hF) wmX4_38 jc_8 rfl rfl rfl (Nat.le_of_ble_eq_true rfl) (j_fit_rm (by omega) (by omega) (by omega)) rfl ?_
    refine j_if_ne (tgt := 27) x dX4_isParsed_22 (by decide) (fun hc => ?_) (fun hc => absurd hc (by decide))
    refine j_aload_n x dX4_isParsed_27 rfl ?_
    refine j2_callVi x hb dX4_isParsed_28 m_X4_sign (CM_v (w := (-1)) (c_sign (d := d) hb hn ((jcm_n (by omega)).trans hl) jcm_p (pN_le hF (ppo_le hg))) (by rw [jcm_t]; exact hE)) wmX4_42 jc_8 rfl rfl rfl (Nat.le_of_ble_eq_true rfl) (j_fit_rm (by omega) (by omega) (by omega)) rfl ?_
    refine j_iconst (v := (-1)) x dX4_isParsed_31 (by decide) ?_
    refine j_icmp_ne (tgt := 37) x dX4_isParsed_32 (by decide) (fun hc => absurd hc (fun q => q rfl)) (fun hc => ?_)
    refine j_iconst (v := 1) x dX4_isParsed_35 (by decide) ?_
    exact j_zreturn x hr dX4_isParsed_36 (by first | decide | with_reducible exact jb_nar | with_reducible exact jisS_nar | with_reducible exact gno_nar) (by omega) (by omega) ⟨rfl, rfl⟩
theorem c_isParsed_C {d : Nat} {b : SBt} {Y : OUt} {M : MM} (hb : 104 ≤ b.2.1) {n : Nat} (hn : n ≤ 60) (hl : M 86 0 = nI n) {i : Nat} (hi : i < 30) (hg : ∀ j, j < i → pgo (M 87) n j) (hF : pF (M 87) n (ppo (M 87) n i) = none) (hE : ¬ tsg (M 87) n (pN (M 87) n (ppo (M 87) n i)) = -1) (hE2 : ¬ tsg (M 87) n (pN (M 87) n (ppo (M 87) n i)) = 59) : CM (d + 5) 0 0 yX4_isParsed cX4_isParsed 2 (some .boolean) [.ref 86] b Y M (.inl (some (.int (0)))) (jcm M n i) := by
  refine Con.of (by decide +kernel) (Nat.le_of_ble_eq_true rfl) rfl fun p l e s m args below meth c D tyc A ad0 x hr htab hname => ?_
  change JJ _ _ _ _ _ _ _ _ _ _ _ _ _ _ _ _ _ 0 [some (.ref 86), none] [] _ 0 0
  refine j_aload_n x dX4_isParsed_0 rfl ?_
  refine j_iconst (v := 0) x dX4_isParsed_1 (by decide) ?_
  refine j2_puti (k := 1) x hb dX4_isParsed_2 jc_8 wfX4_32 (by decide) rfl rfl rfl rfl ?_
  refine j_aload_n x dX4_isParsed_5 rfl ?_
  refine j_iconst (v := 0) x dX4_isParsed_6 (by decide) ?_
  refine j2_puti (k := 2) x hb dX4_isParsed_7 jc_8 wfX4_35 (by decide) rfl rfl rfl rfl ?_
  refine j_iconst (v := 0) x dX4_isParsed_10 (by decide) ?_
  refine j_istore_n x dX4_isParsed_11 (by decide) rfl ?_
  refine j_for i (fun z0 => [some (.ref 86), some (.int (nI z0))]) (fun z0 => jpa M n z0) (fun _ => True) rfl rfl trivial (fun j hj hP ih => ?_) (fun hP => ?_)
  · refine j_iload_n x dX4_isParsed_12 rfl ?_
    refine j_bipush (v := 30) x dX4_isParsed_13 (by decide) ?_
    refine j_icmp_ge (tgt := 54) x dX4_isParsed_15 (by decide) (fun hc => absurd hc (show ¬ nI 30 ≤ nI j from nI_ge (by omega) (by decide))) (fun hc => ?_)
    refine j_aload_n x dX4_isParsed_18 rfl ?_
    refine j2_callVi x hb dX4_isParsed_19 m_X4_isCommandParsed (c_cmd_ok (d := d) hb hn hl (show j < 30 by omega) (fun i hi => hg i (by omega)) (hg j hj).1) wmX4_38 jc_8 rfl rfl rfl (Nat.le_of_ble_eq_true rfl) (j_fit_rm (by omega) (by omega) (by omega)) rfl ?_
    refine j_if_ne (tgt := 27) x dX4_isParsed_22 (by decide) (fun hc => ?_) (fun hc => absurd hc (by decide))
    refine j_aload_n x dX4_isParsed_27 rfl ?_
    refine j2_callVi x hb dX4_isParsed_28 m_X4_sign (CM_v (w := 59) (c_sign (d := d) hb hn ((jcm_n (by omega)).trans hl) jcm_p (pN_le (hg j hj).1 (ppo_le (fun i hi => hg i (by omega))))) (by rw [jcm_t]; exact (hg j hj).2)) wmX4_42 jc_8 rfl rfl rfl (Nat.le_of_ble_eq_true rfl) (j_fit_rm (by omega) (by omega) (by omega)) rfl ?_
    refine j_iconst (v := (-1)) x dX4_isParsed_31 (by decide) ?_
    refine j_icmp_ne (tgt := 37) x dX4_isParsed_32 (by decide) (fun hc => ?_) (fun hc => absurd hc (by decide))
    refine j_aload_n x dX4_isParsed_37 rfl ?_
    refine j_bipush (v := 59) x dX4_isParsed_38 (by decide) ?_
    refine j2_callVi x hb dX4_isParsed_40 m_X4_isPassed (c_isPassed_y (d := d) (ch := 59) hb hn ((jcm_n (by omega)).trans hl) jcm_p (pN_le (hg j hj).1 (ppo_le (fun i hi => hg i (by omega)))) (by rw [jcm_t]; exact (hg j hj).2)) wmX4_46 jc_8 rfl rfl rfl (Nat.le_of_ble_eq_true rfl) (j_fit_rm (by omega) (by omega) (by omega)) rfl ?_
    refine j_if_ne (tgt := 48) x dX4_isParsed_43 (by decide) (fun hc => ?_) (fun hc => absurd hc (by decide))
    refine j_iinc x dX4_isParsed_48 rfl (by decide) rfl ?_
    refine j_goto (tgt := 12) x dX4_isParsed_51 (by decide) ?_
    exact j_goal (ih trivial) (wk_c rfl (wk_c (congrArg (fun z => some (Value.int z)) (nI_1 _)) (wk_0))) rfl
  · refine j_iload_n x dX4_isParsed_12 rfl ?_
    refine j_bipush (v := 30) x dX4_isParsed_13 (by decide) ?_
    refine j_icmp_ge (tgt := 54) x dX4_isParsed_15 (by decide) (fun hc => absurd hc (show ¬ nI 30 ≤ nI i from nI_ge (by omega) (by decide))) (fun hc => ?_)
    refine j_aload_n x dX4_isParsed_18 rfl ?_
    refine j2_callVi x hb dX4_isParsed_19 m_X4_isCommandParsed (c_cmd_ok (d := d) hb hn hl hi hg hF) wmX4_38 jc_8 rfl rfl rfl (Nat.le_of_ble_eq_true rfl) (j_fit_rm (by omega) (by omega) (by omega)) rfl ?_
    refine j_if_ne (tgt := 27) x dX4_isParsed_22 (by decide) (fun hc => ?_) (fun hc => absurd hc (by decide))
    refine j_aload_n x dX4_isParsed_27 rfl ?_
    refine j2_callVi x hb dX4_isParsed_28 m_X4_sign (c_sign (d := d) hb hn ((jcm_n (by omega)).trans hl) jcm_p (pN_le hF (ppo_le hg))) wmX4_42 jc_8 rfl rfl rfl (Nat.le_of_ble_eq_true rfl) (j_fit_rm (by omega) (by omega) (by omega)) rfl ?_
    refine j_iconst (v := (-1)) x dX4_isParsed_31 (by decide) ?_
    refine j_icmp_ne (tgt := 37) x dX4_isParsed_32 (by decide) (fun hc => ?_) (fun hc => absurd hc (by rw [jcm_t]; exact hE))
    refine j_aload_n x dX4_isParsed_37 rfl ?_
    refine j_bipush (v := 59) x dX4_isParsed_38 (by decide) ?_
    refine j2_callVi x hb dX4_isParsed_40 m_X4_isPassed (c_isPassed_n (d := d) (ch := 59) hb hn ((jcm_n (by omega)).trans hl) jcm_p (pN_le hF (ppo_le hg)) (by rw [jcm_t]; exact hE2)) wmX4_46 jc_8 rfl rfl rfl (Nat.le_of_ble_eq_true rfl) (j_fit_rm (by omega) (by omega) (by omega)) rfl ?_
    refine j_if_ne (tgt := 48) x dX4_isParsed_43 (by decide) (fun hc => absurd hc (fun q => q rfl)) (fun hc => ?_)
    refine j_iconst (v := 0) x dX4_isParsed_46 (by decide) ?_
    exact j_zreturn x hr dX4_isParsed_47 (by first | decide | with_reducible exact jb_nar | with_reducible exact jisS_nar | with_reducible exact gno_nar) (by omega) (by omega) ⟨rfl, rfl⟩
theorem c_isParsed_D {d : Nat} {b : SBt} {Y : OUt} {M : MM} (hb : 104 ≤ b.2.1) {n : Nat} (hn : n ≤ 60) (hl : M 86 0 = nI n) (hg : ∀ j, j < 30 → pgo (M 87) n j) : CM (d + 5) 0 0 yX4_isParsed cX4_isParsed 2 (some .boolean) [.ref 86] b Y M (.inl (some (.int (0)))) (jpa M n 30) := by
  refine Con.of (by decide +kernel) (Nat.le_of_ble_eq_true rfl) rfl fun p l e s m args below meth c D tyc A ad0 x hr htab hname => ?_
  change JJ _ _ _ _ _ _ _ _ _ _ _ _ _ _ _ _ _ 0 [some (.ref 86), none] [] _ 0 0
  refine j_aload_n x dX4_isParsed_0 rfl ?_
  refine j_iconst (v := 0) x dX4_isParsed_1 (by decide) ?_
  refine j2_puti (k := 1) x hb dX4_isParsed_2 jc_8 wfX4_32 (by decide) rfl rfl rfl rfl ?_
  refine j_aload_n x dX4_isParsed_5 rfl ?_
  refine j_iconst (v := 0) x dX4_isParsed_6 (by decide) ?_
  refine j2_puti (k := 2) x hb dX4_isParsed_7 jc_8 wfX4_35 (by decide) rfl rfl rfl rfl ?_
  refine j_iconst (v := 0) x dX4_isParsed_10 (by decide) ?_
  refine j_istore_n x dX4_isParsed_11 (by decide) rfl ?_
  refine j_for 30 (fun z0 => [some (.ref 86), some (.int (nI z0))]) (fun z0 => jpa M n z0) (fun _ => True) rfl rfl trivial (fun j hj hP ih => ?_) (fun hP => ?_)
  · refine j_iload_n x dX4_isParsed_12 rfl ?_
    refine j_bipush (v := 30) x dX4_isParsed_13 (by decide) ?_
    refine j_icmp_ge (tgt := 54) x dX4_isParsed_15 (by decide) (fun hc => absurd hc (show ¬ nI 30 ≤ nI j from nI_ge (by omega) (by decide))) (fun hc => ?_)
    refine j_aload_n x dX4_isParsed_18 rfl ?_
    refine j2_callVi x hb dX4_isParsed_19 m_X4_isCommandParsed (c_cmd_ok (d := d) hb hn hl (show j < 30 by omega) (fun i hi => hg i (by omega)) (hg j hj).1) wmX4_38 jc_8 rfl rfl rfl (Nat.le_of_ble_eq_true rfl) (j_fit_rm (by omega) (by omega) (by omega)) rfl ?_
    refine j_if_ne (tgt := 27) x dX4_isParsed_22 (by decide) (fun hc => ?_) (fun hc => absurd hc (by decide))
    refine j_aload_n x dX4_isParsed_27 rfl ?_
    refine j2_callVi x hb dX4_isParsed_28 m_X4_sign (CM_v (w := 59) (c_sign (d := d) hb hn ((jcm_n (by omega)).trans hl) jcm_p (pN_le (hg j hj).1 (ppo_le (fun i hi => hg i (by omega))))) (by rw [jcm_t]; exact (hg j hj).2)) wmX4_42 jc_8 rfl rfl rfl (Nat.le_of_ble_eq_true rfl) (j_fit_rm (by omega) (by omega) (by omega)) rfl ?_
    refine j_iconst (v := (-1)) x dX4_isParsed_31 (by decide) ?_
    refine j_icmp_ne (tgt := 37) x dX4_isParsed_32 (by decide) (fun hc => ?_) (fun hc => absurd hc (by decide))
    refine j_aload_n x dX4_isParsed_37 rfl ?_
    refine j_bipush (v := 59) x dX4_isParsed_38 (by decide) ?_
    refine j2_callVi x hb dX4_isParsed_40 m_X4_isPassed (c_isPassed_y (d := d) (ch := 59) hb hn ((jcm_n (by omega)).trans hl) jcm_p (pN_le (hg j hj).1 (ppo_le (fun i hi => hg i (by omega)))) (by rw [jcm_t]; exact (hg j hj).2)) wmX4_46 jc_8 rfl rfl rfl (Nat.le_of_ble_eq_true rfl) (j_fit_rm (by omega) (by omega) (by omega)) rfl ?_
    refine j_if_ne (tgt := 48) x dX4_isParsed_43 (by decide) (fun hc => ?_) (fun hc => absurd hc (by decide))
    refine j_iinc x dX4_isParsed_48 rfl (by decide) rfl ?_
    refine j_goto (tgt := 12) x dX4_isParsed_51 (by decide) ?_
    exact j_goal (ih trivial) (wk_c rfl (wk_c (congrArg (fun z => some (Value.int z)) (nI_1 _)) (wk_0))) rfl
  · refine j_iload_n x dX4_isParsed_12 rfl ?_
    refine j_bipush (v := 30) x dX4_isParsed_13 (by decide) ?_
    refine j_icmp_ge (tgt := 54) x dX4_isParsed_15 (by decide) (fun hc => ?_) (fun hc => absurd (by decide) hc)
    refine j_iconst (v := 0) x dX4_isParsed_54 (by decide) ?_
    exact j_zreturn x hr dX4_isParsed_55 (by first | decide | with_reducible exact jb_nar | with_reducible exact jisS_nar | with_reducible exact gno_nar) (by omega) (by omega) ⟨rfl, rfl⟩
def cref (M : MM) (n : Nat) (u v w z : Int32) : Option (Int32 × Int32) := if u = 109 then rRes M v w z else if u = 98 then rBack M v else if u = 111 then rPut M v w else if u = 110 then rNext M n else rRules v w z
def capp (M : MM) (u v w z : Int32) : MM := if u = 109 then jsetg M 1 v w z else if u = 98 then jsetg M 1 v (-1) (-1) else if u = 111 then jput 56 M 4 v (M 1 3 + w) else if u = 110 then jm M 1 3 (M 1 3 + 1) else jsetr M 1 v w z
abbrev isLet (u : Int32) : Prop := u = 109 ∨ u = 98 ∨ u = 111 ∨ u = 110 ∨ u = 116
theorem c_isCarriedOut_109_s {d : Nat} {b : SBt} {Y : OUt} {M : MM} (hb : 104 ≤ b.2.1) {i n : Nat} (hi : i < 30) (hn : n ≤ 56) (hm : jmc M = nI n) (hL : M 88 i = 109) {r t : Int32} (h : rRes M (M 89 i) (M 90 i) (M 91 i) = some (r, t)) : CM (d + 4) 0 0 yX5_isCarriedOut cX5_isCarriedOut 5 (some .boolean) [.ref 0, .int (nI i)] b Y M (.inl (some (.int (0)))) (jref M r t) := by
  refine Con.of (by decide +kernel) (Nat.le_of_ble_eq_true rfl) rfl fun p l e s m args below meth c D tyc A ad0 x hr htab hname => ?_
  change JJ _ _ _ _ _ _ _ _ _ _ _ _ _ _ _ _ _ 0 [some (.ref 0), some (.int (nI i)), none, none, none] [] _ 0 0
  refine j_aload_n x dX5_isCarriedOut_0 rfl ?_
  refine j2_getr (k := 7) (r := 86) x hb dX5_isCarriedOut_1 jc_9 wfX5_47 (by decide) rfl ?_
  refine j2_getr (k := 5) (r := 89) x hb dX5_isCarriedOut_4 jc_8 wfX5_450 (by decide) rfl ?_
  refine j_iload_n x dX5_isCarriedOut_7 rfl ?_
  refine j2_callSi x hb dX5_isCarriedOut_8 m_X5_at (CM_v (c_at (d := d) hb fa_89 (by decide)) (jat_nI hi (by decide))) wmX5_93 rfl (Nat.le_of_ble_eq_true rfl) (j_fit_rm (by omega) (by omega) (by omega)) rfl ?_
  refine j_istore_n x dX5_isCarriedOut_11 (by decide) rfl ?_
  refine j_aload_n x dX5_isCarriedOut_12 rfl ?_
  refine j2_getr (k := 7) (r := 86) x hb dX5_isCarriedOut_13 jc_9 wfX5_47 (by decide) rfl ?_
  refine j2_getr (k := 6) (r := 90) x hb dX5_isCarriedOut_16 jc_8 wfX5_453 (by decide) rfl ?_
  refine j_iload_n x dX5_isCarriedOut_19 rfl ?_
  refine j2_callSi x hb dX5_isCarriedOut_20 m_X5_at (CM_v (c_at (d := d) hb fa_90 (by decide)) (jat_nI hi (by decide))) wmX5_93 rfl (Nat.le_of_ble_eq_true rfl) (j_fit_rm (by omega) (by omega) (by omega)) rfl ?_
  refine j_istore_n x dX5_isCarriedOut_23 (by decide) rfl ?_
  refine j_aload_n x dX5_isCarriedOut_24 rfl ?_
  refine j2_getr (k := 7) (r := 86) x hb dX5_isCarriedOut_25 jc_9 wfX5_47 (by decide) rfl ?_
  refine j2_getr (k := 7) (r := 91) x hb dX5_isCarriedOut_28 jc_8 wfX5_456 (by decide) rfl ?_
  refine j_iload_n x dX5_isCarriedOut_31 rfl ?_
  refine j2_callSi x hb dX5_isCarriedOut_32 m_X5_at (CM_v (c_at (d := d) hb fa_91 (by decide)) (jat_nI hi (by decide))) wmX5_93 rfl (Nat.le_of_ble_eq_true rfl) (j_fit_rm (by omega) (by omega) (by omega)) rfl ?_
  refine j_istore x dX5_isCarriedOut_35 (by decide) rfl ?_
  refine j_aload_n x dX5_isCarriedOut_37 rfl ?_
  refine j2_getr (k := 7) (r := 86) x hb dX5_isCarriedOut_38 jc_9 wfX5_47 (by decide) rfl ?_
  refine j2_getr (k := 4) (r := 88) x hb dX5_isCarriedOut_41 jc_8 wfX5_459 (by decide) rfl ?_
  refine j_iload_n x dX5_isCarriedOut_44 rfl ?_
  refine j2_callSi x hb dX5_isCarriedOut_45 m_X5_at (CM_v (CM_v (c_at (d := d) hb fa_88 (by decide)) (jat_nI hi (by decide))) hL) wmX5_93 rfl (Nat.le_of_ble_eq_true rfl) (j_fit_rm (by omega) (by omega) (by omega)) rfl ?_
  refine j_lookup (off := 44) (tgt := 92) x dX5_isCarriedOut_48 (by decide) (by decide) (by decide) ?_
  refine j_aload_n x dX5_isCarriedOut_92 rfl ?_
  refine j_iload_n x dX5_isCarriedOut_93 rfl ?_
  refine j_iload_n x dX5_isCarriedOut_94 rfl ?_
  refine j_iload x dX5_isCarriedOut_95 rfl ?_
  refine j2_callVi x hb dX5_isCarriedOut_97 m_X5_isResultRefused (CM_s (c_isResultRefused (d := d) hb) h) wmX5_138 jc_9 rfl rfl rfl (Nat.le_of_ble_eq_true rfl) (j_fit_rm (by omega) (by omega) (by omega)) rfl ?_
  refine j_if_eq (tgt := 105) x dX5_isCarriedOut_100 (by decide) (fun hc => absurd hc (by decide)) (fun hc => ?_)
  refine j_iconst (v := 0) x dX5_isCarriedOut_103 (by decide) ?_
  exact j_zreturn x hr dX5_isCarriedOut_104 (by first | decide | with_reducible exact jb_nar | with_reducible exact jisS_nar | with_reducible exact gno_nar) (by omega) (by omega) ⟨rfl, rfl⟩
theorem c_isCarriedOut_109_n {d : Nat} {b : SBt} {Y : OUt} {M : MM} (hb : 104 ≤ b.2.1) {i n : Nat} (hi : i < 30) (hn : n ≤ 56) (hm : jmc M = nI n) (hL : M 88 i = 109) (h : rRes M (M 89 i) (M 90 i) (M 91 i) = none) : CM (d + 4) 0 0 yX5_isCarriedOut cX5_isCarriedOut 5 (some .boolean) [.ref 0, .int (nI i)] b Y M (.inl (some (.int (1)))) (jsetg M 1 (M 89 i) (M 90 i) (M 91 i)) := by
  refine Con.of (by decide +kernel) (Nat.le_of_ble_eq_true rfl) rfl fun p l e s m args below meth c D tyc A ad0 x hr htab hname => ?_
  change JJ _ _ _ _ _ _ _ _ _ _ _ _ _ _ _ _ _ 0 [some (.ref 0), some (.int (nI i)), none, none, none] [] _ 0 0
  refine j_aload_n x dX5_isCarriedOut_0 rfl ?_
  refine j2_getr (k := 7) (r := 86) x hb dX5_isCarriedOut_1 jc_9 wfX5_47 (by decide) rfl ?_
  refine j2_getr (k := 5) (r := 89) x hb dX5_isCarriedOut_4 jc_8 wfX5_450 (by decide) rfl ?_
  refine j_iload_n x dX5_isCarriedOut_7 rfl ?_
  refine j2_callSi x hb dX5_isCarriedOut_8 m_X5_at (CM_v (c_at (d := d) hb fa_89 (by decide)) (jat_nI hi (by decide))) wmX5_93 rfl (Nat.le_of_ble_eq_true rfl) (j_fit_rm (by omega) (by omega) (by omega)) rfl ?_
  refine j_istore_n x dX5_isCarriedOut_11 (by decide) rfl ?_
  refine j_aload_n x dX5_isCarriedOut_12 rfl ?_
  refine j2_getr (k := 7) (r := 86) x hb dX5_isCarriedOut_13 jc_9 wfX5_47 (by decide) rfl ?_
  refine j2_getr (k := 6) (r := 90) x hb dX5_isCarriedOut_16 jc_8 wfX5_453 (by decide) rfl ?_
  refine j_iload_n x dX5_isCarriedOut_19 rfl ?_
  refine j2_callSi x hb dX5_isCarriedOut_20 m_X5_at (CM_v (c_at (d := d) hb fa_90 (by decide)) (jat_nI hi (by decide))) wmX5_93 rfl (Nat.le_of_ble_eq_true rfl) (j_fit_rm (by omega) (by omega) (by omega)) rfl ?_
  refine j_istore_n x dX5_isCarriedOut_23 (by decide) rfl ?_
  refine j_aload_n x dX5_isCarriedOut_24 rfl ?_
  refine j2_getr (k := 7) (r := 86) x hb dX5_isCarriedOut_25 jc_9 wfX5_47 (by decide) rfl ?_
  refine j2_getr (k := 7) (r := 91) x hb dX5_isCarriedOut_28 jc_8 wfX5_456 (by decide) rfl ?_
  refine j_iload_n x dX5_isCarriedOut_31 rfl ?_
  refine j2_callSi x hb dX5_isCarriedOut_32 m_X5_at (CM_v (c_at (d := d) hb fa_91 (by decide)) (jat_nI hi (by decide))) wmX5_93 rfl (Nat.le_of_ble_eq_true rfl) (j_fit_rm (by omega) (by omega) (by omega)) rfl ?_
  refine j_istore x dX5_isCarriedOut_35 (by decide) rfl ?_
  refine j_aload_n x dX5_isCarriedOut_37 rfl ?_
  refine j2_getr (k := 7) (r := 86) x hb dX5_isCarriedOut_38 jc_9 wfX5_47 (by decide) rfl ?_
  refine j2_getr (k := 4) (r := 88) x hb dX5_isCarriedOut_41 jc_8 wfX5_459 (by decide) rfl ?_
  refine j_iload_n x dX5_isCarriedOut_44 rfl ?_
  refine j2_callSi x hb dX5_isCarriedOut_45 m_X5_at (CM_v (CM_v (c_at (d := d) hb fa_88 (by decide)) (jat_nI hi (by decide))) hL) wmX5_93 rfl (Nat.le_of_ble_eq_true rfl) (j_fit_rm (by omega) (by omega) (by omega)) rfl ?_
  refine j_lookup (off := 44) (tgt := 92) x dX5_isCarriedOut_48 (by decide) (by decide) (by decide) ?_
  refine j_aload_n x dX5_isCarriedOut_92 rfl ?_
  refine j_iload_n x dX5_isCarriedOut_93 rfl ?_
  refine j_iload_n x dX5_isCarriedOut_94 rfl ?_
  refine j_iload x dX5_isCarriedOut_95 rfl ?_
  refine j2_callVi x hb dX5_isCarriedOut_97 m_X5_isResultRefused (CM_n (c_isResultRefused (d := d) hb) h) wmX5_138 jc_9 rfl rfl rfl (Nat.le_of_ble_eq_true rfl) (j_fit_rm (by omega) (by omega) (by omega)) rfl ?_
  refine j_if_eq (tgt := 105) x dX5_isCarriedOut_100 (by decide) (fun hc => ?_) (fun hc => absurd (rfl) hc)
  refine j_aload_n x dX5_isCarriedOut_105 rfl ?_
  refine j2_getr (k := 0) (r := 1) x hb dX5_isCarriedOut_106 jc_9 wfX5_10 (by decide) rfl ?_
  refine j_iload_n x dX5_isCarriedOut_109 rfl ?_
  refine j_iload_n x dX5_isCarriedOut_110 rfl ?_
  refine j_iload x dX5_isCarriedOut_111 rfl ?_
  refine j2_callVv x hb dX5_isCarriedOut_113 m_X2_setGoals (c_setGoals (d := d) hb rfl) wmX5_143 jc_6 rfl rfl rfl (Nat.le_of_ble_eq_true rfl) (j_fit_rm (by omega) (by omega) (by omega)) rfl ?_
  refine j_iconst (v := 1) x dX5_isCarriedOut_116 (by decide) ?_
  exact j_zreturn x hr dX5_isCarriedOut_117 (by first | decide | with_reducible exact jb_nar | with_reducible exact jisS_nar | with_reducible exact gno_nar) (by omega) (by omega) ⟨rfl, rfl⟩
theorem c_isCarriedOut_98_s {d : Nat} {b : SBt} {Y : OUt} {M : MM} (hb : 104 ≤ b.2.1) {i n : Nat} (hi : i < 30) (hn : n ≤ 56) (hm : jmc M = nI n) (hL : M 88 i = 98) {r t : Int32} (h : rBack M (M 89 i) = some (r, t)) : CM (d + 4) 0 0 yX5_isCarriedOut cX5_isCarriedOut 5 (some .boolean) [.ref 0, .int (nI i)] b Y M (.inl (some (.int (0)))) (jref M r t) := by
  refine Con.of (by decide +kernel) (Nat.le_of_ble_eq_true rfl) rfl fun p l e s m args below meth c D tyc A ad0 x hr htab hname => ?_
  change JJ _ _ _ _ _ _ _ _ _ _ _ _ _ _ _ _ _ 0 [some (.ref 0), some (.int (nI i)), none, none, none] [] _ 0 0
  refine j_aload_n x dX5_isCarriedOut_0 rfl ?_
  refine j2_getr (k := 7) (r := 86) x hb dX5_isCarriedOut_1 jc_9 wfX5_47 (by decide) rfl ?_
  refine j2_getr (k := 5) (r := 89) x hb dX5_isCarriedOut_4 jc_8 wfX5_450 (by decide) rfl ?_
  refine j_iload_n x dX5_isCarriedOut_7 rfl ?_
  refine j2_callSi x hb dX5_isCarriedOut_8 m_X5_at (CM_v (c_at (d := d) hb fa_89 (by decide)) (jat_nI hi (by decide))) wmX5_93 rfl (Nat.le_of_ble_eq_true rfl) (j_fit_rm (by omega) (by omega) (by omega)) rfl ?_
  refine j_istore_n x dX5_isCarriedOut_11 (by decide) rfl ?_
  refine j_aload_n x dX5_isCarriedOut_12 rfl ?_
  refine j2_getr (k := 7) (r := 86) x hb dX5_isCarriedOut_13 jc_9 wfX5_47 (by decide) rfl ?_
  refine j2_getr (k := 6) (r := 90) x hb dX5_isCarriedOut_16 jc_8 wfX5_453 (by decide) rfl ?_
  refine j_iload_n x dX5_isCarriedOut_19 rfl ?_
  refine j2_callSi x hb dX5_isCarriedOut_20 m_X5_at (CM_v (c_at (d := d) hb fa_90 (by decide)) (jat_nI hi (by decide))) wmX5_93 rfl (Nat.le_of_ble_eq_true rfl) (j_fit_rm (by omega) (by omega) (by omega)) rfl ?_
  refine j_istore_n x dX5_isCarriedOut_23 (by decide) rfl ?_
  refine j_aload_n x dX5_isCarriedOut_24 rfl ?_
  refine j2_getr (k := 7) (r := 86) x hb dX5_isCarriedOut_25 jc_9 wfX5_47 (by decide) rfl ?_
  refine j2_getr (k := 7) (r := 91) x hb dX5_isCarriedOut_28 jc_8 wfX5_456 (by decide) rfl ?_
  refine j_iload_n x dX5_isCarriedOut_31 rfl ?_
  refine j2_callSi x hb dX5_isCarriedOut_32 m_X5_at (CM_v (c_at (d := d) hb fa_91 (by decide)) (jat_nI hi (by decide))) wmX5_93 rfl (Nat.le_of_ble_eq_true rfl) (j_fit_rm (by omega) (by omega) (by omega)) rfl ?_
  refine j_istore x dX5_isCarriedOut_35 (by decide) rfl ?_
  refine j_aload_n x dX5_isCarriedOut_37 rfl ?_
  refine j2_getr (k := 7) (r := 86) x hb dX5_isCarriedOut_38 jc_9 wfX5_47 (by decide) rfl ?_
  refine j2_getr (k := 4) (r := 88) x hb dX5_isCarriedOut_41 jc_8 wfX5_459 (by decide) rfl ?_
  refine j_iload_n x dX5_isCarriedOut_44 rfl ?_
  refine j2_callSi x hb dX5_isCarriedOut_45 m_X5_at (CM_v (CM_v (c_at (d := d) hb fa_88 (by decide)) (jat_nI hi (by decide))) hL) wmX5_93 rfl (Nat.le_of_ble_eq_true rfl) (j_fit_rm (by omega) (by omega) (by omega)) rfl ?_
  refine j_lookup (off := 70) (tgt := 118) x dX5_isCarriedOut_48 (by decide) (by decide) (by decide) ?_
  refine j_aload_n x dX5_isCarriedOut_118 rfl ?_
  refine j_iload_n x dX5_isCarriedOut_119 rfl ?_
  refine j2_callVi x hb dX5_isCarriedOut_120 m_X5_isBackRefused (CM_s (c_isBackRefused (d := d) hb) h) wmX5_150 jc_9 rfl rfl rfl (Nat.le_of_ble_eq_true rfl) (j_fit_rm (by omega) (by omega) (by omega)) rfl ?_
  refine j_if_eq (tgt := 128) x dX5_isCarriedOut_123 (by decide) (fun hc => absurd hc (by decide)) (fun hc => ?_)
  refine j_iconst (v := 0) x dX5_isCarriedOut_126 (by decide) ?_
  exact j_zreturn x hr dX5_isCarriedOut_127 (by first | decide | with_reducible exact jb_nar | with_reducible exact jisS_nar | with_reducible exact gno_nar) (by omega) (by omega) ⟨rfl, rfl⟩
theorem c_isCarriedOut_98_n {d : Nat} {b : SBt} {Y : OUt} {M : MM} (hb : 104 ≤ b.2.1) {i n : Nat} (hi : i < 30) (hn : n ≤ 56) (hm : jmc M = nI n) (hL : M 88 i = 98) (h : rBack M (M 89 i) = none) : CM (d + 4) 0 0 yX5_isCarriedOut cX5_isCarriedOut 5 (some .boolean) [.ref 0, .int (nI i)] b Y M (.inl (some (.int (1)))) (jsetg M 1 (M 89 i) (-1) (-1)) := by
  refine Con.of (by decide +kernel) (Nat.le_of_ble_eq_true rfl) rfl fun p l e s m args below meth c D tyc A ad0 x hr htab hname => ?_
  change JJ _ _ _ _ _ _ _ _ _ _ _ _ _ _ _ _ _ 0 [some (.ref 0), some (.int (nI i)), none, none, none] [] _ 0 0
  refine j_aload_n x dX5_isCarriedOut_0 rfl ?_
  refine j2_getr (k := 7) (r := 86) x hb dX5_isCarriedOut_1 jc_9 wfX5_47 (by decide) rfl ?_
  refine j2_getr (k := 5) (r := 89) x hb dX5_isCarriedOut_4 jc_8 wfX5_450 (by decide) rfl ?_
  refine j_iload_n x dX5_isCarriedOut_7 rfl ?_
  refine j2_callSi x hb dX5_isCarriedOut_8 m_X5_at (CM_v (c_at (d := d) hb fa_89 (by decide)) (jat_nI hi (by decide))) wmX5_93 rfl (Nat.le_of_ble_eq_true rfl) (j_fit_rm (by omega) (by omega) (by omega)) rfl ?_
  refine j_istore_n x dX5_isCarriedOut_11 (by decide) rfl ?_
  refine j_aload_n x dX5_isCarriedOut_12 rfl ?_
  refine j2_getr (k := 7) (r := 86) x hb dX5_isCarriedOut_13 jc_9 wfX5_47 (by decide) rfl ?_
  refine j2_getr (k := 6) (r := 90) x hb dX5_isCarriedOut_16 jc_8 wfX5_453 (by decide) rfl ?_
  refine j_iload_n x dX5_isCarriedOut_19 rfl ?_
  refine j2_callSi x hb dX5_isCarriedOut_20 m_X5_at (CM_v (c_at (d := d) hb fa_90 (by decide)) (jat_nI hi (by decide))) wmX5_93 rfl (Nat.le_of_ble_eq_true rfl) (j_fit_rm (by omega) (by omega) (by omega)) rfl ?_
  refine j_istore_n x dX5_isCarriedOut_23 (by decide) rfl ?_
  refine j_aload_n x dX5_isCarriedOut_24 rfl ?_
  refine j2_getr (k := 7) (r := 86) x hb dX5_isCarriedOut_25 jc_9 wfX5_47 (by decide) rfl ?_
  refine j2_getr (k := 7) (r := 91) x hb dX5_isCarriedOut_28 jc_8 wfX5_456 (by decide) rfl ?_
  refine j_iload_n x dX5_isCarriedOut_31 rfl ?_
  refine j2_callSi x hb dX5_isCarriedOut_32 m_X5_at (CM_v (c_at (d := d) hb fa_91 (by decide)) (jat_nI hi (by decide))) wmX5_93 rfl (Nat.le_of_ble_eq_true rfl) (j_fit_rm (by omega) (by omega) (by omega)) rfl ?_
  refine j_istore x dX5_isCarriedOut_35 (by decide) rfl ?_
  refine j_aload_n x dX5_isCarriedOut_37 rfl ?_
  refine j2_getr (k := 7) (r := 86) x hb dX5_isCarriedOut_38 jc_9 wfX5_47 (by decide) rfl ?_
  refine j2_getr (k := 4) (r := 88) x hb dX5_isCarriedOut_41 jc_8 wfX5_459 (by decide) rfl ?_
  refine j_iload_n x dX5_isCarriedOut_44 rfl ?_
  refine j2_callSi x hb dX5_isCarriedOut_45 m_X5_at (CM_v (CM_v (c_at (d := d) hb fa_88 (by decide)) (jat_nI hi (by decide))) hL) wmX5_93 rfl (Nat.le_of_ble_eq_true rfl) (j_fit_rm (by omega) (by omega) (by omega)) rfl ?_
  refine j_lookup (off := 70) (tgt := 118) x dX5_isCarriedOut_48 (by decide) (by decide) (by decide) ?_
  refine j_aload_n x dX5_isCarriedOut_118 rfl ?_
  refine j_iload_n x dX5_isCarriedOut_119 rfl ?_
  refine j2_callVi x hb dX5_isCarriedOut_120 m_X5_isBackRefused (CM_n (c_isBackRefused (d := d) hb) h) wmX5_150 jc_9 rfl rfl rfl (Nat.le_of_ble_eq_true rfl) (j_fit_rm (by omega) (by omega) (by omega)) rfl ?_
  refine j_if_eq (tgt := 128) x dX5_isCarriedOut_123 (by decide) (fun hc => ?_) (fun hc => absurd (rfl) hc)
  refine j_aload_n x dX5_isCarriedOut_128 rfl ?_
  refine j2_getr (k := 0) (r := 1) x hb dX5_isCarriedOut_129 jc_9 wfX5_10 (by decide) rfl ?_
  refine j_iload_n x dX5_isCarriedOut_132 rfl ?_
  refine j_iconst (v := (-1)) x dX5_isCarriedOut_133 (by decide) ?_
  refine j_iconst (v := (-1)) x dX5_isCarriedOut_134 (by decide) ?_
  refine j2_callVv x hb dX5_isCarriedOut_135 m_X2_setGoals (c_setGoals (d := d) hb rfl) wmX5_143 jc_6 rfl rfl rfl (Nat.le_of_ble_eq_true rfl) (j_fit_rm (by omega) (by omega) (by omega)) rfl ?_
  refine j_iconst (v := 1) x dX5_isCarriedOut_138 (by decide) ?_
  exact j_zreturn x hr dX5_isCarriedOut_139 (by first | decide | with_reducible exact jb_nar | with_reducible exact jisS_nar | with_reducible exact gno_nar) (by omega) (by omega) ⟨rfl, rfl⟩
theorem c_isCarriedOut_111_s {d : Nat} {b : SBt} {Y : OUt} {M : MM} (hb : 104 ≤ b.2.1) {i n : Nat} (hi : i < 30) (hn : n ≤ 56) (hm : jmc M = nI n) (hL : M 88 i = 111) {r t : Int32} (h : rPut M (M 89 i) (M 90 i) = some (r, t)) : CM (d + 4) 0 0 yX5_isCarriedOut cX5_isCarriedOut 5 (some .boolean) [.ref 0, .int (nI i)] b Y M (.inl (some (.int (0)))) (jref M r t) := by
  refine Con.of (by decide +kernel) (Nat.le_of_ble_eq_true rfl) rfl fun p l e s m args below meth c D tyc A ad0 x hr htab hname => ?_
  change JJ _ _ _ _ _ _ _ _ _ _ _ _ _ _ _ _ _ 0 [some (.ref 0), some (.int (nI i)), none, none, none] [] _ 0 0
  refine j_aload_n x dX5_isCarriedOut_0 rfl ?_
  refine j2_getr (k := 7) (r := 86) x hb dX5_isCarriedOut_1 jc_9 wfX5_47 (by decide) rfl ?_
  refine j2_getr (k := 5) (r := 89) x hb dX5_isCarriedOut_4 jc_8 wfX5_450 (by decide) rfl ?_
  refine j_iload_n x dX5_isCarriedOut_7 rfl ?_
  refine j2_callSi x hb dX5_isCarriedOut_8 m_X5_at (CM_v (c_at (d := d) hb fa_89 (by decide)) (jat_nI hi (by decide))) wmX5_93 rfl (Nat.le_of_ble_eq_true rfl) (j_fit_rm (by omega) (by omega) (by omega)) rfl ?_
  refine j_istore_n x dX5_isCarriedOut_11 (by decide) rfl ?_
  refine j_aload_n x dX5_isCarriedOut_12 rfl ?_
  refine j2_getr (k := 7) (r := 86) x hb dX5_isCarriedOut_13 jc_9 wfX5_47 (by decide) rfl ?_
  refine j2_getr (k := 6) (r := 90) x hb dX5_isCarriedOut_16 jc_8 wfX5_453 (by decide) rfl ?_
  refine j_iload_n x dX5_isCarriedOut_19 rfl ?_
  refine j2_callSi x hb dX5_isCarriedOut_20 m_X5_at (CM_v (c_at (d := d) hb fa_90 (by decide)) (jat_nI hi (by decide))) wmX5_93 rfl (Nat.le_of_ble_eq_true rfl) (j_fit_rm (by omega) (by omega) (by omega)) rfl ?_
  refine j_istore_n x dX5_isCarriedOut_23 (by decide) rfl ?_
  refine j_aload_n x dX5_isCarriedOut_24 rfl ?_
  refine j2_getr (k := 7) (r := 86) x hb dX5_isCarriedOut_25 jc_9 wfX5_47 (by decide) rfl ?_
  refine j2_getr (k := 7) (r := 91) x hb dX5_isCarriedOut_28 jc_8 wfX5_456 (by decide) rfl ?_
  refine j_iload_n x dX5_isCarriedOut_31 rfl ?_
  refine j2_callSi x hb dX5_isCarriedOut_32 m_X5_at (CM_v (c_at (d := d) hb fa_91 (by decide)) (jat_nI hi (by decide))) wmX5_93 rfl (Nat.le_of_ble_eq_true rfl) (j_fit_rm (by omega) (by omega) (by omega)) rfl ?_
  refine j_istore x dX5_isCarriedOut_35 (by decide) rfl ?_
  refine j_aload_n x dX5_isCarriedOut_37 rfl ?_
  refine j2_getr (k := 7) (r := 86) x hb dX5_isCarriedOut_38 jc_9 wfX5_47 (by decide) rfl ?_
  refine j2_getr (k := 4) (r := 88) x hb dX5_isCarriedOut_41 jc_8 wfX5_459 (by decide) rfl ?_
  refine j_iload_n x dX5_isCarriedOut_44 rfl ?_
  refine j2_callSi x hb dX5_isCarriedOut_45 m_X5_at (CM_v (CM_v (c_at (d := d) hb fa_88 (by decide)) (jat_nI hi (by decide))) hL) wmX5_93 rfl (Nat.le_of_ble_eq_true rfl) (j_fit_rm (by omega) (by omega) (by omega)) rfl ?_
  refine j_lookup (off := 92) (tgt := 140) x dX5_isCarriedOut_48 (by decide) (by decide) (by decide) ?_
  refine j_aload_n x dX5_isCarriedOut_140 rfl ?_
  refine j_iload_n x dX5_isCarriedOut_141 rfl ?_
  refine j_iload_n x dX5_isCarriedOut_142 rfl ?_
  refine j2_callVi x hb dX5_isCarriedOut_143 m_X5_isPutOffRefused (CM_s (c_isPutOffRefused (d := d) hb) h) wmX5_155 jc_9 rfl rfl rfl (Nat.le_of_ble_eq_true rfl) (j_fit_rm (by omega) (by omega) (by omega)) rfl ?_
  refine j_if_eq (tgt := 151) x dX5_isCarriedOut_146 (by decide) (fun hc => absurd hc (by decide)) (fun hc => ?_)
  refine j_iconst (v := 0) x dX5_isCarriedOut_149 (by decide) ?_
  exact j_zreturn x hr dX5_isCarriedOut_150 (by first | decide | with_reducible exact jb_nar | with_reducible exact jisS_nar | with_reducible exact gno_nar) (by omega) (by omega) ⟨rfl, rfl⟩
theorem c_isCarriedOut_111_n {d : Nat} {b : SBt} {Y : OUt} {M : MM} (hb : 104 ≤ b.2.1) {i n : Nat} (hi : i < 30) (hn : n ≤ 56) (hm : jmc M = nI n) (hL : M 88 i = 111) (h : rPut M (M 89 i) (M 90 i) = none) : CM (d + 4) 0 0 yX5_isCarriedOut cX5_isCarriedOut 5 (some .boolean) [.ref 0, .int (nI i)] b Y M (.inl (some (.int (1)))) (jput 56 M 4 (M 89 i) (M 1 3 + M 90 i)) := by
  refine Con.of (by decide +kernel) (Nat.le_of_ble_eq_true rfl) rfl fun p l e s m args below meth c D tyc A ad0 x hr htab hname => ?_
  change JJ _ _ _ _ _ _ _ _ _ _ _ _ _ _ _ _ _ 0 [some (.ref 0), some (.int (nI i)), none, none, none] [] _ 0 0
  refine j_aload_n x dX5_isCarriedOut_0 rfl ?_
  refine j2_getr (k := 7) (r := 86) x hb dX5_isCarriedOut_1 jc_9 wfX5_47 (by decide) rfl ?_
  refine j2_getr (k := 5) (r := 89) x hb dX5_isCarriedOut_4 jc_8 wfX5_450 (by decide) rfl ?_
  refine j_iload_n x dX5_isCarriedOut_7 rfl ?_
  refine j2_callSi x hb dX5_isCarriedOut_8 m_X5_at (CM_v (c_at (d := d) hb fa_89 (by decide)) (jat_nI hi (by decide))) wmX5_93 rfl (Nat.le_of_ble_eq_true rfl) (j_fit_rm (by omega) (by omega) (by omega)) rfl ?_
  refine j_istore_n x dX5_isCarriedOut_11 (by decide) rfl ?_
  refine j_aload_n x dX5_isCarriedOut_12 rfl ?_
  refine j2_getr (k := 7) (r := 86) x hb dX5_isCarriedOut_13 jc_9 wfX5_47 (by decide) rfl ?_
  refine j2_getr (k := 6) (r := 90) x hb dX5_isCarriedOut_16 jc_8 wfX5_453 (by decide) rfl ?_
  refine j_iload_n x dX5_isCarriedOut_19 rfl ?_
  refine j2_callSi x hb dX5_isCarriedOut_20 m_X5_at (CM_v (c_at (d := d) hb fa_90 (by decide)) (jat_nI hi (by decide))) wmX5_93 rfl (Nat.le_of_ble_eq_true rfl) (j_fit_rm (by omega) (by omega) (by omega)) rfl ?_
  refine j_istore_n x dX5_isCarriedOut_23 (by decide) rfl ?_
  refine j_aload_n x dX5_isCarriedOut_24 rfl ?_
  refine j2_getr (k := 7) (r := 86) x hb dX5_isCarriedOut_25 jc_9 wfX5_47 (by decide) rfl ?_
  refine j2_getr (k := 7) (r := 91) x hb dX5_isCarriedOut_28 jc_8 wfX5_456 (by decide) rfl ?_
  refine j_iload_n x dX5_isCarriedOut_31 rfl ?_
  refine j2_callSi x hb dX5_isCarriedOut_32 m_X5_at (CM_v (c_at (d := d) hb fa_91 (by decide)) (jat_nI hi (by decide))) wmX5_93 rfl (Nat.le_of_ble_eq_true rfl) (j_fit_rm (by omega) (by omega) (by omega)) rfl ?_
  refine j_istore x dX5_isCarriedOut_35 (by decide) rfl ?_
  refine j_aload_n x dX5_isCarriedOut_37 rfl ?_
  refine j2_getr (k := 7) (r := 86) x hb dX5_isCarriedOut_38 jc_9 wfX5_47 (by decide) rfl ?_
  refine j2_getr (k := 4) (r := 88) x hb dX5_isCarriedOut_41 jc_8 wfX5_459 (by decide) rfl ?_
  refine j_iload_n x dX5_isCarriedOut_44 rfl ?_
  refine j2_callSi x hb dX5_isCarriedOut_45 m_X5_at (CM_v (CM_v (c_at (d := d) hb fa_88 (by decide)) (jat_nI hi (by decide))) hL) wmX5_93 rfl (Nat.le_of_ble_eq_true rfl) (j_fit_rm (by omega) (by omega) (by omega)) rfl ?_
  refine j_lookup (off := 92) (tgt := 140) x dX5_isCarriedOut_48 (by decide) (by decide) (by decide) ?_
  refine j_aload_n x dX5_isCarriedOut_140 rfl ?_
  refine j_iload_n x dX5_isCarriedOut_141 rfl ?_
  refine j_iload_n x dX5_isCarriedOut_142 rfl ?_
  refine j2_callVi x hb dX5_isCarriedOut_143 m_X5_isPutOffRefused (CM_n (c_isPutOffRefused (d := d) hb) h) wmX5_155 jc_9 rfl rfl rfl (Nat.le_of_ble_eq_true rfl) (j_fit_rm (by omega) (by omega) (by omega)) rfl ?_
  refine j_if_eq (tgt := 151) x dX5_isCarriedOut_146 (by decide) (fun hc => ?_) (fun hc => absurd (rfl) hc)
  refine j_aload_n x dX5_isCarriedOut_151 rfl ?_
  refine j2_getr (k := 0) (r := 1) x hb dX5_isCarriedOut_152 jc_9 wfX5_10 (by decide) rfl ?_
  refine j2_getr (k := 8) (r := 4) x hb dX5_isCarriedOut_155 jc_6 wfX5_163 (by decide) rfl ?_
  refine j_iload_n x dX5_isCarriedOut_158 rfl ?_
  refine j_aload_n x dX5_isCarriedOut_159 rfl ?_
  refine j2_getr (k := 0) (r := 1) x hb dX5_isCarriedOut_160 jc_9 wfX5_10 (by decide) rfl ?_
  refine j2_geti (k := 3) x hb dX5_isCarriedOut_163 jc_6 wfX5_160 (by decide) rfl ?_
  refine j_iload_n x dX5_isCarriedOut_166 rfl ?_
  refine j_iadd x dX5_isCarriedOut_167 ?_
  refine j2_callSv x hb dX5_isCarriedOut_168 m_X5_put (c_put (d := d) hb fa_4 (by decide)) wmX5_83 rfl (Nat.le_of_ble_eq_true rfl) (j_fit_rm (by omega) (by omega) (by omega)) rfl ?_
  refine j_iconst (v := 1) x dX5_isCarriedOut_171 (by decide) ?_
  exact j_zreturn x hr dX5_isCarriedOut_172 (by first | decide | with_reducible exact jb_nar | with_reducible exact jisS_nar | with_reducible exact gno_nar) (by omega) (by omega) ⟨rfl, rfl⟩
theorem c_isCarriedOut_110_s {d : Nat} {b : SBt} {Y : OUt} {M : MM} (hb : 104 ≤ b.2.1) {i n : Nat} (hi : i < 30) (hn : n ≤ 56) (hm : jmc M = nI n) (hL : M 88 i = 110) {r t : Int32} (h : rNext M n = some (r, t)) : CM (d + 4) 0 0 yX5_isCarriedOut cX5_isCarriedOut 5 (some .boolean) [.ref 0, .int (nI i)] b Y M (.inl (some (.int (0)))) (jref M r t) := by
  refine Con.of (by decide +kernel) (Nat.le_of_ble_eq_true rfl) rfl fun p l e s m args below meth c D tyc A ad0 x hr htab hname => ?_
  change JJ _ _ _ _ _ _ _ _ _ _ _ _ _ _ _ _ _ 0 [some (.ref 0), some (.int (nI i)), none, none, none] [] _ 0 0
  refine j_aload_n x dX5_isCarriedOut_0 rfl ?_
  refine j2_getr (k := 7) (r := 86) x hb dX5_isCarriedOut_1 jc_9 wfX5_47 (by decide) rfl ?_
  refine j2_getr (k := 5) (r := 89) x hb dX5_isCarriedOut_4 jc_8 wfX5_450 (by decide) rfl ?_
  refine j_iload_n x dX5_isCarriedOut_7 rfl ?_
  refine j2_callSi x hb dX5_isCarriedOut_8 m_X5_at (CM_v (c_at (d := d) hb fa_89 (by decide)) (jat_nI hi (by decide))) wmX5_93 rfl (Nat.le_of_ble_eq_true rfl) (j_fit_rm (by omega) (by omega) (by omega)) rfl ?_
  refine j_istore_n x dX5_isCarriedOut_11 (by decide) rfl ?_
  refine j_aload_n x dX5_isCarriedOut_12 rfl ?_
  refine j2_getr (k := 7) (r := 86) x hb dX5_isCarriedOut_13 jc_9 wfX5_47 (by decide) rfl ?_
  refine j2_getr (k := 6) (r := 90) x hb dX5_isCarriedOut_16 jc_8 wfX5_453 (by decide) rfl ?_
  refine j_iload_n x dX5_isCarriedOut_19 rfl ?_
  refine j2_callSi x hb dX5_isCarriedOut_20 m_X5_at (CM_v (c_at (d := d) hb fa_90 (by decide)) (jat_nI hi (by decide))) wmX5_93 rfl (Nat.le_of_ble_eq_true rfl) (j_fit_rm (by omega) (by omega) (by omega)) rfl ?_
  refine j_istore_n x dX5_isCarriedOut_23 (by decide) rfl ?_
  refine j_aload_n x dX5_isCarriedOut_24 rfl ?_
  refine j2_getr (k := 7) (r := 86) x hb dX5_isCarriedOut_25 jc_9 wfX5_47 (by decide) rfl ?_
  refine j2_getr (k := 7) (r := 91) x hb dX5_isCarriedOut_28 jc_8 wfX5_456 (by decide) rfl ?_
  refine j_iload_n x dX5_isCarriedOut_31 rfl ?_
  refine j2_callSi x hb dX5_isCarriedOut_32 m_X5_at (CM_v (c_at (d := d) hb fa_91 (by decide)) (jat_nI hi (by decide))) wmX5_93 rfl (Nat.le_of_ble_eq_true rfl) (j_fit_rm (by omega) (by omega) (by omega)) rfl ?_
  refine j_istore x dX5_isCarriedOut_35 (by decide) rfl ?_
  refine j_aload_n x dX5_isCarriedOut_37 rfl ?_
  refine j2_getr (k := 7) (r := 86) x hb dX5_isCarriedOut_38 jc_9 wfX5_47 (by decide) rfl ?_
  refine j2_getr (k := 4) (r := 88) x hb dX5_isCarriedOut_41 jc_8 wfX5_459 (by decide) rfl ?_
  refine j_iload_n x dX5_isCarriedOut_44 rfl ?_
  refine j2_callSi x hb dX5_isCarriedOut_45 m_X5_at (CM_v (CM_v (c_at (d := d) hb fa_88 (by decide)) (jat_nI hi (by decide))) hL) wmX5_93 rfl (Nat.le_of_ble_eq_true rfl) (j_fit_rm (by omega) (by omega) (by omega)) rfl ?_
  refine j_lookup (off := 125) (tgt := 173) x dX5_isCarriedOut_48 (by decide) (by decide) (by decide) ?_
  refine j_aload_n x dX5_isCarriedOut_173 rfl ?_
  refine j2_callVi x hb dX5_isCarriedOut_174 m_X5_isNextRefused (CM_s (c_isNextRefused (d := d) hb hn hm) h) wmX5_169 jc_9 rfl rfl rfl (Nat.le_of_ble_eq_true rfl) (j_fit_rm (by omega) (by omega) (by omega)) rfl ?_
  refine j_if_eq (tgt := 182) x dX5_isCarriedOut_177 (by decide) (fun hc => absurd hc (by decide)) (fun hc => ?_)
  refine j_iconst (v := 0) x dX5_isCarriedOut_180 (by decide) ?_
  exact j_zreturn x hr dX5_isCarriedOut_181 (by first | decide | with_reducible exact jb_nar | with_reducible exact jisS_nar | with_reducible exact gno_nar) (by omega) (by omega) ⟨rfl, rfl⟩
theorem c_isCarriedOut_110_n {d : Nat} {b : SBt} {Y : OUt} {M : MM} (hb : 104 ≤ b.2.1) {i n : Nat} (hi : i < 30) (hn : n ≤ 56) (hm : jmc M = nI n) (hL : M 88 i = 110) (h : rNext M n = none) : CM (d + 4) 0 0 yX5_isCarriedOut cX5_isCarriedOut 5 (some .boolean) [.ref 0, .int (nI i)] b Y M (.inl (some (.int (1)))) (jm M 1 3 (M 1 3 + 1)) := by
  refine Con.of (by decide +kernel) (Nat.le_of_ble_eq_true rfl) rfl fun p l e s m args below meth c D tyc A ad0 x hr htab hname => ?_
  change JJ _ _ _ _ _ _ _ _ _ _ _ _ _ _ _ _ _ 0 [some (.ref 0), some (.int (nI i)), none, none, none] [] _ 0 0
  refine j_aload_n x dX5_isCarriedOut_0 rfl ?_
  refine j2_getr (k := 7) (r := 86) x hb dX5_isCarriedOut_1 jc_9 wfX5_47 (by decide) rfl ?_
  refine j2_getr (k := 5) (r := 89) x hb dX5_isCarriedOut_4 jc_8 wfX5_450 (by decide) rfl ?_
  refine j_iload_n x dX5_isCarriedOut_7 rfl ?_
  refine j2_callSi x hb dX5_isCarriedOut_8 m_X5_at (CM_v (c_at (d := d) hb fa_89 (by decide)) (jat_nI hi (by decide))) wmX5_93 rfl (Nat.le_of_ble_eq_true rfl) (j_fit_rm (by omega) (by omega) (by omega)) rfl ?_
  refine j_istore_n x dX5_isCarriedOut_11 (by decide) rfl ?_
  refine j_aload_n x dX5_isCarriedOut_12 rfl ?_
  refine j2_getr (k := 7) (r := 86) x hb dX5_isCarriedOut_13 jc_9 wfX5_47 (by decide) rfl ?_
  refine j2_getr (k := 6) (r := 90) x hb dX5_isCarriedOut_16 jc_8 wfX5_453 (by decide) rfl ?_
  refine j_iload_n x dX5_isCarriedOut_19 rfl ?_
  refine j2_callSi x hb dX5_isCarriedOut_20 m_X5_at (CM_v (c_at (d := d) hb fa_90 (by decide)) (jat_nI hi (by decide))) wmX5_93 rfl (Nat.le_of_ble_eq_true rfl) (j_fit_rm (by omega) (by omega) (by omega)) rfl ?_
  refine j_istore_n x dX5_isCarriedOut_23 (by decide) rfl ?_
  refine j_aload_n x dX5_isCarriedOut_24 rfl ?_
  refine j2_getr (k := 7) (r := 86) x hb dX5_isCarriedOut_25 jc_9 wfX5_47 (by decide) rfl ?_
  refine j2_getr (k := 7) (r := 91) x hb dX5_isCarriedOut_28 jc_8 wfX5_456 (by decide) rfl ?_
  refine j_iload_n x dX5_isCarriedOut_31 rfl ?_
  refine j2_callSi x hb dX5_isCarriedOut_32 m_X5_at (CM_v (c_at (d := d) hb fa_91 (by decide)) (jat_nI hi (by decide))) wmX5_93 rfl (Nat.le_of_ble_eq_true rfl) (j_fit_rm (by omega) (by omega) (by omega)) rfl ?_
  refine j_istore x dX5_isCarriedOut_35 (by decide) rfl ?_
  refine j_aload_n x dX5_isCarriedOut_37 rfl ?_
  refine j2_getr (k := 7) (r := 86) x hb dX5_isCarriedOut_38 jc_9 wfX5_47 (by decide) rfl ?_
  refine j2_getr (k := 4) (r := 88) x hb dX5_isCarriedOut_41 jc_8 wfX5_459 (by decide) rfl ?_
  refine j_iload_n x dX5_isCarriedOut_44 rfl ?_
  refine j2_callSi x hb dX5_isCarriedOut_45 m_X5_at (CM_v (CM_v (c_at (d := d) hb fa_88 (by decide)) (jat_nI hi (by decide))) hL) wmX5_93 rfl (Nat.le_of_ble_eq_true rfl) (j_fit_rm (by omega) (by omega) (by omega)) rfl ?_
  refine j_lookup (off := 125) (tgt := 173) x dX5_isCarriedOut_48 (by decide) (by decide) (by decide) ?_
  refine j_aload_n x dX5_isCarriedOut_173 rfl ?_
  refine j2_callVi x hb dX5_isCarriedOut_174 m_X5_isNextRefused (CM_n (c_isNextRefused (d := d) hb hn hm) h) wmX5_169 jc_9 rfl rfl rfl (Nat.le_of_ble_eq_true rfl) (j_fit_rm (by omega) (by omega) (by omega)) rfl ?_
  refine j_if_eq (tgt := 182) x dX5_isCarriedOut_177 (by decide) (fun hc => ?_) (fun hc => absurd (rfl) hc)
  refine j_aload_n x dX5_isCarriedOut_182 rfl ?_
  refine j2_getr (k := 0) (r := 1) x hb dX5_isCarriedOut_183 jc_9 wfX5_10 (by decide) rfl ?_
  refine j_dup x dX5_isCarriedOut_186 rfl ?_
  refine j2_geti (k := 3) x hb dX5_isCarriedOut_187 jc_6 wfX5_160 (by decide) rfl ?_
  refine j_iconst (v := 1) x dX5_isCarriedOut_190 (by decide) ?_
  refine j_iadd x dX5_isCarriedOut_191 ?_
  refine j2_puti (k := 3) x hb dX5_isCarriedOut_192 jc_6 wfX5_160 (by decide) rfl rfl rfl rfl ?_
  refine j_iconst (v := 1) x dX5_isCarriedOut_195 (by decide) ?_
  exact j_zreturn x hr dX5_isCarriedOut_196 (by first | decide | with_reducible exact jb_nar | with_reducible exact jisS_nar | with_reducible exact gno_nar) (by omega) (by omega) ⟨rfl, rfl⟩
theorem c_isCarriedOut_116_s {d : Nat} {b : SBt} {Y : OUt} {M : MM} (hb : 104 ≤ b.2.1) {i n : Nat} (hi : i < 30) (hn : n ≤ 56) (hm : jmc M = nI n) (hL : M 88 i = 116) {r t : Int32} (h : rRules (M 89 i) (M 90 i) (M 91 i) = some (r, t)) : CM (d + 4) 0 0 yX5_isCarriedOut cX5_isCarriedOut 5 (some .boolean) [.ref 0, .int (nI i)] b Y M (.inl (some (.int (0)))) (jref M r t) := by
  refine Con.of (by decide +kernel) (Nat.le_of_ble_eq_true rfl) rfl fun p l e s m args below meth c D tyc A ad0 x hr htab hname => ?_
  change JJ _ _ _ _ _ _ _ _ _ _ _ _ _ _ _ _ _ 0 [some (.ref 0), some (.int (nI i)), none, none, none] [] _ 0 0
  refine j_aload_n x dX5_isCarriedOut_0 rfl ?_
  refine j2_getr (k := 7) (r := 86) x hb dX5_isCarriedOut_1 jc_9 wfX5_47 (by decide) rfl ?_
  refine j2_getr (k := 5) (r := 89) x hb dX5_isCarriedOut_4 jc_8 wfX5_450 (by decide) rfl ?_
  refine j_iload_n x dX5_isCarriedOut_7 rfl ?_
  refine j2_callSi x hb dX5_isCarriedOut_8 m_X5_at (CM_v (c_at (d := d) hb fa_89 (by decide)) (jat_nI hi (by decide))) wmX5_93 rfl (Nat.le_of_ble_eq_true rfl) (j_fit_rm (by omega) (by omega) (by omega)) rfl ?_
  refine j_istore_n x dX5_isCarriedOut_11 (by decide) rfl ?_
  refine j_aload_n x dX5_isCarriedOut_12 rfl ?_
  refine j2_getr (k := 7) (r := 86) x hb dX5_isCarriedOut_13 jc_9 wfX5_47 (by decide) rfl ?_
  refine j2_getr (k := 6) (r := 90) x hb dX5_isCarriedOut_16 jc_8 wfX5_453 (by decide) rfl ?_
  refine j_iload_n x dX5_isCarriedOut_19 rfl ?_
  refine j2_callSi x hb dX5_isCarriedOut_20 m_X5_at (CM_v (c_at (d := d) hb fa_90 (by decide)) (jat_nI hi (by decide))) wmX5_93 rfl (Nat.le_of_ble_eq_true rfl) (j_fit_rm (by omega) (by omega) (by omega)) rfl ?_
  refine j_istore_n x dX5_isCarriedOut_23 (by decide) rfl ?_
  refine j_aload_n x dX5_isCarriedOut_24 rfl ?_
  refine j2_getr (k := 7) (r := 86) x hb dX5_isCarriedOut_25 jc_9 wfX5_47 (by decide) rfl ?_
  refine j2_getr (k := 7) (r := 91) x hb dX5_isCarriedOut_28 jc_8 wfX5_456 (by decide) rfl ?_
  refine j_iload_n x dX5_isCarriedOut_31 rfl ?_
  refine j2_callSi x hb dX5_isCarriedOut_32 m_X5_at (CM_v (c_at (d := d) hb fa_91 (by decide)) (jat_nI hi (by decide))) wmX5_93 rfl (Nat.le_of_ble_eq_true rfl) (j_fit_rm (by omega) (by omega) (by omega)) rfl ?_
  refine j_istore x dX5_isCarriedOut_35 (by decide) rfl ?_
  refine j_aload_n x dX5_isCarriedOut_37 rfl ?_
  refine j2_getr (k := 7) (r := 86) x hb dX5_isCarriedOut_38 jc_9 wfX5_47 (by decide) rfl ?_
  refine j2_getr (k := 4) (r := 88) x hb dX5_isCarriedOut_41 jc_8 wfX5_459 (by decide) rfl ?_
  refine j_iload_n x dX5_isCarriedOut_44 rfl ?_
  refine j2_callSi x hb dX5_isCarriedOut_45 m_X5_at (CM_v (CM_v (c_at (d := d) hb fa_88 (by decide)) (jat_nI hi (by decide))) hL) wmX5_93 rfl (Nat.le_of_ble_eq_true rfl) (j_fit_rm (by omega) (by omega) (by omega)) rfl ?_
  refine j_lookup (off := 149) (tgt := 197) x dX5_isCarriedOut_48 (by decide) (by decide) (by decide) ?_
  refine j_aload_n x dX5_isCarriedOut_197 rfl ?_
  refine j_iload_n x dX5_isCarriedOut_198 rfl ?_
  refine j_iload_n x dX5_isCarriedOut_199 rfl ?_
  refine j_iload x dX5_isCarriedOut_200 rfl ?_
  refine j2_callVi x hb dX5_isCarriedOut_202 m_X5_isRulesRefused (CM_s (c_isRulesRefused (d := d) hb) h) wmX5_125 jc_9 rfl rfl rfl (Nat.le_of_ble_eq_true rfl) (j_fit_rm (by omega) (by omega) (by omega)) rfl ?_
  refine j_if_eq (tgt := 210) x dX5_isCarriedOut_205 (by decide) (fun hc => absurd hc (by decide)) (fun hc => ?_)
  refine j_iconst (v := 0) x dX5_isCarriedOut_208 (by decide) ?_
  exact j_zreturn x hr dX5_isCarriedOut_209 (by first | decide | with_reducible exact jb_nar | with_reducible exact jisS_nar | with_reducible exact gno_nar) (by omega) (by omega) ⟨rfl, rfl⟩
theorem c_isCarriedOut_116_n {d : Nat} {b : SBt} {Y : OUt} {M : MM} (hb : 104 ≤ b.2.1) {i n : Nat} (hi : i < 30) (hn : n ≤ 56) (hm : jmc M = nI n) (hL : M 88 i = 116) (h : rRules (M 89 i) (M 90 i) (M 91 i) = none) : CM (d + 4) 0 0 yX5_isCarriedOut cX5_isCarriedOut 5 (some .boolean) [.ref 0, .int (nI i)] b Y M (.inl (some (.int (1)))) (jsetr M 1 (M 89 i) (M 90 i) (M 91 i)) := by
  refine Con.of (by decide +kernel) (Nat.le_of_ble_eq_true rfl) rfl fun p l e s m args below meth c D tyc A ad0 x hr htab hname => ?_
  change JJ _ _ _ _ _ _ _ _ _ _ _ _ _ _ _ _ _ 0 [some (.ref 0), some (.int (nI i)), none, none, none] [] _ 0 0
  refine j_aload_n x dX5_isCarriedOut_0 rfl ?_
  refine j2_getr (k := 7) (r := 86) x hb dX5_isCarriedOut_1 jc_9 wfX5_47 (by decide) rfl ?_
  refine j2_getr (k := 5) (r := 89) x hb dX5_isCarriedOut_4 jc_8 wfX5_450 (by decide) rfl ?_
  refine j_iload_n x dX5_isCarriedOut_7 rfl ?_
  refine j2_callSi x hb dX5_isCarriedOut_8 m_X5_at (CM_v (c_at (d := d) hb fa_89 (by decide)) (jat_nI hi (by decide))) wmX5_93 rfl (Nat.le_of_ble_eq_true rfl) (j_fit_rm (by omega) (by omega) (by omega)) rfl ?_
  refine j_istore_n x dX5_isCarriedOut_11 (by decide) rfl ?_
  refine j_aload_n x dX5_isCarriedOut_12 rfl ?_
  refine j2_getr (k := 7) (r := 86) x hb dX5_isCarriedOut_13 jc_9 wfX5_47 (by decide) rfl ?_
  refine j2_getr (k := 6) (r := 90) x hb dX5_isCarriedOut_16 jc_8 wfX5_453 (by decide) rfl ?_
  refine j_iload_n x dX5_isCarriedOut_19 rfl ?_
  refine j2_callSi x hb dX5_isCarriedOut_20 m_X5_at (CM_v (c_at (d := d) hb fa_90 (by decide)) (jat_nI hi (by decide))) wmX5_93 rfl (Nat.le_of_ble_eq_true rfl) (j_fit_rm (by omega) (by omega) (by omega)) rfl ?_
  refine j_istore_n x dX5_isCarriedOut_23 (by decide) rfl ?_
  refine j_aload_n x dX5_isCarriedOut_24 rfl ?_
  refine j2_getr (k := 7) (r := 86) x hb dX5_isCarriedOut_25 jc_9 wfX5_47 (by decide) rfl ?_
  refine j2_getr (k := 7) (r := 91) x hb dX5_isCarriedOut_28 jc_8 wfX5_456 (by decide) rfl ?_
  refine j_iload_n x dX5_isCarriedOut_31 rfl ?_
  refine j2_callSi x hb dX5_isCarriedOut_32 m_X5_at (CM_v (c_at (d := d) hb fa_91 (by decide)) (jat_nI hi (by decide))) wmX5_93 rfl (Nat.le_of_ble_eq_true rfl) (j_fit_rm (by omega) (by omega) (by omega)) rfl ?_
  refine j_istore x dX5_isCarriedOut_35 (by decide) rfl ?_
  refine j_aload_n x dX5_isCarriedOut_37 rfl ?_
  refine j2_getr (k := 7) (r := 86) x hb dX5_isCarriedOut_38 jc_9 wfX5_47 (by decide) rfl ?_
  refine j2_getr (k := 4) (r := 88) x hb dX5_isCarriedOut_41 jc_8 wfX5_459 (by decide) rfl ?_
  refine j_iload_n x dX5_isCarriedOut_44 rfl ?_
  refine j2_callSi x hb dX5_isCarriedOut_45 m_X5_at (CM_v (CM_v (c_at (d := d) hb fa_88 (by decide)) (jat_nI hi (by decide))) hL) wmX5_93 rfl (Nat.le_of_ble_eq_true rfl) (j_fit_rm (by omega) (by omega) (by omega)) rfl ?_
  refine j_lookup (off := 149) (tgt := 197) x dX5_isCarriedOut_48 (by decide) (by decide) (by decide) ?_
  refine j_aload_n x dX5_isCarriedOut_197 rfl ?_
  refine j_iload_n x dX5_isCarriedOut_198 rfl ?_
  refine j_iload_n x dX5_isCarriedOut_199 rfl ?_
  refine j_iload x dX5_isCarriedOut_200 rfl ?_
  refine j2_callVi x hb dX5_isCarriedOut_202 m_X5_isRulesRefused (CM_n (c_isRulesRefused (d := d) hb) h) wmX5_125 jc_9 rfl rfl rfl (Nat.le_of_ble_eq_true rfl) (j_fit_rm (by omega) (by omega) (by omega)) rfl ?_
  refine j_if_eq (tgt := 210) x dX5_isCarriedOut_205 (by decide) (fun hc => ?_) (fun hc => absurd (rfl) hc)
  refine j_aload_n x dX5_isCarriedOut_210 rfl ?_
  refine j2_getr (k := 0) (r := 1) x hb dX5_isCarriedOut_211 jc_9 wfX5_10 (by decide) rfl ?_
  refine j_iload_n x dX5_isCarriedOut_214 rfl ?_
  refine j_iload_n x dX5_isCarriedOut_215 rfl ?_
  refine j_iload x dX5_isCarriedOut_216 rfl ?_
  refine j2_callVv x hb dX5_isCarriedOut_218 m_X2_setRules (c_setRules (d := d) hb rfl) wmX5_131 jc_6 rfl rfl rfl (Nat.le_of_ble_eq_true rfl) (j_fit_rm (by omega) (by omega) (by omega)) rfl ?_
  refine j_iconst (v := 1) x dX5_isCarriedOut_221 (by decide) ?_
  exact j_zreturn x hr dX5_isCarriedOut_222 (by first | decide | with_reducible exact jb_nar | with_reducible exact jisS_nar | with_reducible exact gno_nar) (by omega) (by omega) ⟨rfl, rfl⟩
theorem c_isCarriedOut_s {d : Nat} {b : SBt} {Y : OUt} {M : MM} (hb : 104 ≤ b.2.1) {i n : Nat} (hi : i < 30) (hn : n ≤ 56) (hm : jmc M = nI n) (hl : isLet (M 88 i)) {r t : Int32} (h : cref M n (M 88 i) (M 89 i) (M 90 i) (M 91 i) = some (r, t)) : CM (d + 4) 0 0 yX5_isCarriedOut cX5_isCarriedOut 5 (some .boolean) [.ref 0, .int (nI i)] b Y M (.inl (some (.int 0))) (jref M r t) := by
  rcases hl with hL | hL | hL | hL | hL
  · have g := h
    rw [hL, cref, if_pos rfl] at g
    exact c_isCarriedOut_109_s hb hi hn hm hL g
  · have g := h
    rw [hL, cref, if_neg (by decide), if_pos rfl] at g
    exact c_isCarriedOut_98_s hb hi hn hm hL g
  · have g := h
    rw [hL, cref, if_neg (by decide), if_neg (by decide), if_pos rfl] at g
    exact c_isCarriedOut_111_s hb hi hn hm hL g
  · have g := h
    rw [hL, cref, if_neg (by decide), if_neg (by decide), if_neg (by decide), if_pos rfl] at g
    exact c_isCarriedOut_110_s hb hi hn hm hL g
  · have g := h
    rw [hL, cref, if_neg (by decide), if_neg (by decide), if_neg (by decide), if_neg (by decide)] at g
    exact c_isCarriedOut_116_s hb hi hn hm hL g
theorem c_isCarriedOut_n {d : Nat} {b : SBt} {Y : OUt} {M : MM} (hb : 104 ≤ b.2.1) {i n : Nat} (hi : i < 30) (hn : n ≤ 56) (hm : jmc M = nI n) (hl : isLet (M 88 i)) (h : cref M n (M 88 i) (M 89 i) (M 90 i) (M 91 i) = none) : CM (d + 4) 0 0 yX5_isCarriedOut cX5_isCarriedOut 5 (some .boolean) [.ref 0, .int (nI i)] b Y M (.inl (some (.int 1))) (capp M (M 88 i) (M 89 i) (M 90 i) (M 91 i)) := by
  rcases hl with hL | hL | hL | hL | hL
  · have g := h
    rw [hL, cref, if_pos rfl] at g
    rw [hL, capp, if_pos rfl]
    exact c_isCarriedOut_109_n hb hi hn hm hL g
  · have g := h
    rw [hL, cref, if_neg (by decide), if_pos rfl] at g
    rw [hL, capp, if_neg (by decide), if_pos rfl]
    exact c_isCarriedOut_98_n hb hi hn hm hL g
  · have g := h
    rw [hL, cref, if_neg (by decide), if_neg (by decide), if_pos rfl] at g
    rw [hL, capp, if_neg (by decide), if_neg (by decide), if_pos rfl]
    exact c_isCarriedOut_111_n hb hi hn hm hL g
  · have g := h
    rw [hL, cref, if_neg (by decide), if_neg (by decide), if_neg (by decide), if_pos rfl] at g
    rw [hL, capp, if_neg (by decide), if_neg (by decide), if_neg (by decide), if_pos rfl]
    exact c_isCarriedOut_110_n hb hi hn hm hL g
  · have g := h
    rw [hL, cref, if_neg (by decide), if_neg (by decide), if_neg (by decide), if_neg (by decide)] at g
    rw [hL, capp, if_neg (by decide), if_neg (by decide), if_neg (by decide), if_neg (by decide)]
    exact c_isCarriedOut_116_n hb hi hn hm hL g
def jac (M : MM) : Nat → MM
  | 0 => M
  | i + 1 => capp (jm (jac M i) 0 12 (nI i)) (M 88 i) (M 89 i) (M 90 i) (M 91 i)
theorem capp_n {M : MM} {u v w z : Int32} {i k : Nat} (h : 6 < i ∨ i = 0 ∨ i = 2 ∨ (i = 1 ∧ k ≠ 3 ∧ k ≠ 6)) : capp M u v w z i k = M i k := by
  unfold capp
  split
  · exact jsetg_n (by omega) (by omega)
  · split
    · exact jsetg_n (by omega) (by omega)
    · split
      · exact m_put (by omega)
      · split
        · exact jm_n (by omega)
        · have ha : ∀ (N : MM) (t : Int32), jaddr N 1 t i k = N i k := by
            intro N t
            unfold jaddr
            split
            · rfl
            · rw [jm_n (by omega), m_put (by omega)]
          rw [jsetr, ha, ha, ha, jm_n (by omega)]
theorem jac_n {M : MM} {i k : Nat} (h : 6 < i ∨ (i = 0 ∧ k ≠ 12) ∨ i = 2 ∨ (i = 1 ∧ k ≠ 3 ∧ k ≠ 6)) : ∀ j, jac M j i k = M i k
  | 0 => rfl
  | j + 1 => by rw [jac, capp_n (by omega), jm_n (by omega)]; exact jac_n h j
abbrev jat12 (M : MM) (i : Nat) : MM := jm (jac M i) 0 12 (nI i)
theorem jat12_n {M : MM} {i k j : Nat} (h : 6 < i ∨ (i = 0 ∧ k ≠ 12) ∨ i = 2 ∨ (i = 1 ∧ k ≠ 3 ∧ k ≠ 6)) : jat12 M j i k = M i k := by
  rw [jat12, jm_n (by omega)]; exact jac_n h j
theorem jac_step (M : MM) (j : Nat) : jac M (j + 1) = capp (jat12 M j) (jat12 M j 88 j) (jat12 M j 89 j) (jat12 M j 90 j) (jat12 M j 91 j) := by
  rw [jat12_n (i := 88) (by omega), jat12_n (i := 89) (by omega), jat12_n (i := 90) (by omega), jat12_n (i := 91) (by omega)]; rfl
theorem c_areCarriedOut_ok {d : Nat} {b : SBt} {Y : OUt} {M : MM} (hb : 104 ≤ b.2.1) {n k1 : Nat} (hn : n ≤ 56) (hm : jmc M = nI n) (hk30 : k1 ≤ 30) (hk1 : M 86 2 = nI k1) (hl : ∀ i, i < k1 → isLet (M 88 i)) (h : ∀ i, i < k1 → cref (jat12 M i) n (M 88 i) (M 89 i) (M 90 i) (M 91 i) = none) : CM (d + 5) 0 0 yX5_areCarriedOut cX5_areCarriedOut 3 (some .boolean) [.ref 0] b Y M (.inl (some (.int (1)))) (jm (jac M k1) 0 12 0) := by
  refine Con.of (by decide +kernel) (Nat.le_of_ble_eq_true rfl) rfl fun p l e s m args below meth c D tyc A ad0 x hr htab hname => ?_
  change JJ _ _ _ _ _ _ _ _ _ _ _ _ _ _ _ _ _ 0 [some (.ref 0), none, none] [] _ 0 0
  refine j_iconst (v := 1) x dX5_areCarriedOut_0 (by decide) ?_
  refine j_istore_n x dX5_areCarriedOut_1 (by decide) rfl ?_
  refine j_iconst (v := 0) x dX5_areCarriedOut_2 (by decide) ?_
  refine j_istore_n x dX5_areCarriedOut_3 (by decide) rfl ?_
  refine j_for k1 (fun z0 => [some (.ref 0), some (.int 1), some (.int (nI z0))]) (fun z0 => jac M z0) (fun _ => True) rfl rfl trivial (fun j hj hP ih => ?_) (fun hP => ?_)
  · refine j_iload_n x dX5_areCarriedOut_4 rfl ?_
    refine j_aload_n x dX5_areCarriedOut_5 rfl ?_
    refine j2_getr (k := 7) (r := 86) x hb dX5_areCarriedOut_6 jc_9 wfX5_47 (by decide) rfl ?_
    refine j2_geti (k := 2) x hb dX5_areCarriedOut_9 jc_8 wfX5_339 (by decide) rfl ?_; rw [jac_n (by omega), hk1]
    refine j_icmp_ge (tgt := 36) x dX5_areCarriedOut_12 (by decide) (fun hc => absurd hc (nI_ge (show j < k1 by omega) (by omega))) (fun hc => ?_)
    refine j_iload_n x dX5_areCarriedOut_15 rfl ?_
    refine j_if_eq (tgt := 36) x dX5_areCarriedOut_16 (by decide) (fun hc => absurd hc (by decide)) (fun hc => ?_)
    refine j_aload_n x dX5_areCarriedOut_19 rfl ?_
    refine j_iload_n x dX5_areCarriedOut_20 rfl ?_
    refine j2_puti (k := 12) x hb dX5_areCarriedOut_21 jc_9 wfX5_444 (by decide) rfl rfl rfl rfl ?_
    refine j_aload_n x dX5_areCarriedOut_24 rfl ?_
    refine j_iload_n x dX5_areCarriedOut_25 rfl ?_
    refine j2_callVi x hb dX5_areCarriedOut_26 m_X5_isCarriedOut (c_isCarriedOut_n (d := d) (M := jat12 M j) hb (show j < 30 by omega) hn ((jmc_c (M := M) (jat12_n (by omega)) (jat12_n (by omega))).trans hm) (by rw [jat12_n (by omega)]; exact hl j (by omega)) (by rw [jat12_n (i := 88) (by omega), jat12_n (i := 89) (by omega), jat12_n (i := 90) (by omega), jat12_n (i := 91) (by omega)]; exact h j hj)) wmX5_447 jc_9 rfl rfl rfl (Nat.le_of_ble_eq_true rfl) (j_fit_rm (by omega) (by omega) (by omega)) rfl ?_
    refine j_istore_n x dX5_areCarriedOut_29 (by decide) rfl ?_
    refine j_iinc x dX5_areCarriedOut_30 rfl (by decide) rfl ?_
    refine j_goto (tgt := 4) x dX5_areCarriedOut_33 (by decide) ?_
    exact j_goal (ih trivial) (wk_c rfl (wk_c rfl (wk_c (congrArg (fun z => some (Value.int z)) (nI_1 _)) (wk_0)))) (jac_step M j)
  · refine j_iload_n x dX5_areCarriedOut_4 rfl ?_
    refine j_aload_n x dX5_areCarriedOut_5 rfl ?_
    refine j2_getr (k := 7) (r := 86) x hb dX5_areCarriedOut_6 jc_9 wfX5_47 (by decide) rfl ?_
    refine j2_geti (k := 2) x hb dX5_areCarriedOut_9 jc_8 wfX5_339 (by decide) rfl ?_; rw [jac_n (by omega), hk1]
    refine j_icmp_ge (tgt := 36) x dX5_areCarriedOut_12 (by decide) (fun hc => ?_) (fun hc => absurd (nI_le (Nat.le_refl _) (by omega)) hc)
    refine j_aload_n x dX5_areCarriedOut_36 rfl ?_
    refine j_iconst (v := 0) x dX5_areCarriedOut_37 (by decide) ?_
    refine j2_puti (k := 12) x hb dX5_areCarriedOut_38 jc_9 wfX5_444 (by decide) rfl rfl rfl rfl ?_
    refine j_iload_n x dX5_areCarriedOut_41 rfl ?_
    exact j_zreturn x hr dX5_areCarriedOut_42 (by first | decide | with_reducible exact jb_nar | with_reducible exact jisS_nar | with_reducible exact gno_nar) (by omega) (by omega) ⟨rfl, rfl⟩
theorem c_areCarriedOut_no {d : Nat} {b : SBt} {Y : OUt} {M : MM} (hb : 104 ≤ b.2.1) {n k1 : Nat} (hn : n ≤ 56) (hm : jmc M = nI n) (hk30 : k1 ≤ 30) (hk1 : M 86 2 = nI k1) (hl : ∀ i, i < k1 → isLet (M 88 i)) {i0 : Nat} (hi0 : i0 < k1) (h : ∀ i, i < i0 → cref (jat12 M i) n (M 88 i) (M 89 i) (M 90 i) (M 91 i) = none) {r t : Int32} (h2 : cref (jat12 M i0) n (M 88 i0) (M 89 i0) (M 90 i0) (M 91 i0) = some (r, t)) : CM (d + 5) 0 0 yX5_areCarriedOut cX5_areCarriedOut 3 (some .boolean) [.ref 0] b Y M (.inl (some (.int (0)))) (jm (jref (jat12 M i0) r t) 0 12 0) := by
  refine Con.of (by decide +kernel) (Nat.le_of_ble_eq_true rfl) rfl fun p l e s m args below meth c D tyc A ad0 x hr htab hname => ?_
  change JJ _ _ _ _ _ _ _ _ _ _ _ _ _ _ _ _ _ 0 [some (.ref 0), none, none] [] _ 0 0
  refine j_iconst (v := 1) x dX5_areCarriedOut_0 (by decide) ?_
  refine j_istore_n x dX5_areCarriedOut_1 (by decide) rfl ?_
  refine j_iconst (v := 0) x dX5_areCarriedOut_2 (by decide) ?_
  refine j_istore_n x dX5_areCarriedOut_3 (by decide) rfl ?_
  refine j_for i0 (fun z0 => [some (.ref 0), some (.int 1), some (.int (nI z0))]) (fun z0 => jac M z0) (fun _ => True) rfl rfl trivial (fun j hj hP ih => ?_) (fun hP => ?_)
  · refine j_iload_n x dX5_areCarriedOut_4 rfl ?_
    refine j_aload_n x dX5_areCarriedOut_5 rfl ?_
    refine j2_getr (k := 7) (r := 86) x hb dX5_areCarriedOut_6 jc_9 wfX5_47 (by decide) rfl ?_
    refine j2_geti (k := 2) x hb dX5_areCarriedOut_9 jc_8 wfX5_339 (by decide) rfl ?_; rw [jac_n (by omega), hk1]
    refine j_icmp_ge (tgt := 36) x dX5_areCarriedOut_12 (by decide) (fun hc => absurd hc (nI_ge (show j < k1 by omega) (by omega))) (fun hc => ?_)
    refine j_iload_n x dX5_areCarriedOut_15 rfl ?_
    refine j_if_eq (tgt := 36) x dX5_areCarriedOut_16 (by decide) (fun hc => absurd hc (by decide)) (fun hc => ?_)
    refine j_aload_n x dX5_areCarriedOut_19 rfl ?_
    refine j_iload_n x dX5_areCarriedOut_20 rfl ?_
    refine j2_puti (k := 12) x hb dX5_areCarriedOut_21 jc_9 wfX5_444 (by decide) rfl rfl rfl rfl ?_
    refine j_aload_n x dX5_areCarriedOut_24 rfl ?_
    refine j_iload_n x dX5_areCarriedOut_25 rfl ?_
    refine j2_callVi x hb dX5_areCarriedOut_26 m_X5_isCarriedOut (c_isCarriedOut_n (d := d) (M := jat12 M j) hb (show j < 30 by omega) hn ((jmc_c (M := M) (jat12_n (by omega)) (jat12_n (by omega))).trans hm) (by rw [jat12_n (by omega)]; exact hl j (by omega)) (by rw [jat12_n (i := 88) (by omega), jat12_n (i := 89) (by omega), jat12_n (i := 90) (by omega), jat12_n (i := 91) (by omega)]; exact h j hj)) wmX5_447 jc_9 rfl rfl rfl (Nat.le_of_ble_eq_true rfl) (j_fit_rm (by omega) (by omega) (by omega)) rfl ?_
    refine j_istore_n x dX5_areCarriedOut_29 (by decide) rfl ?_
    refine j_iinc x dX5_areCarriedOut_30 rfl (by decide) rfl ?_
    refine j_goto (tgt := 4) x dX5_areCarriedOut_33 (by decide) ?_
    exact j_goal (ih trivial) (wk_c rfl (wk_c rfl (wk_c (congrArg (fun z => some (Value.int z)) (nI_1 _)) (wk_0)))) (jac_step M j)
  · refine j_iload_n x dX5_areCarriedOut_4 rfl ?_
    refine j_aload_n x dX5_areCarriedOut_5 rfl ?_
    refine j2_getr (k := 7) (r := 86) x hb dX5_areCarriedOut_6 jc_9 wfX5_47 (by decide) rfl ?_
    refine j2_geti (k := 2) x hb dX5_areCarriedOut_9 jc_8 wfX5_339 (by decide) rfl ?_; rw [jac_n (by omega), hk1]
    refine j_icmp_ge (tgt := 36) x dX5_areCarriedOut_12 (by decide) (fun hc => absurd hc (nI_ge hi0 (by omega))) (fun hc => ?_)
    refine j_iload_n x dX5_areCarriedOut_15 rfl ?_
    refine j_if_eq (tgt := 36) x dX5_areCarriedOut_16 (by decide) (fun hc => absurd hc (by decide)) (fun hc => ?_)
    refine j_aload_n x dX5_areCarriedOut_19 rfl ?_
    refine j_iload_n x dX5_areCarriedOut_20 rfl ?_
    refine j2_puti (k := 12) x hb dX5_areCarriedOut_21 jc_9 wfX5_444 (by decide) rfl rfl rfl rfl ?_
    refine j_aload_n x dX5_areCarriedOut_24 rfl ?_
    refine j_iload_n x dX5_areCarriedOut_25 rfl ?_
    refine j2_callVi x hb dX5_areCarriedOut_26 m_X5_isCarriedOut (c_isCarriedOut_s (d := d) (M := jat12 M i0) hb (show i0 < 30 by omega) hn ((jmc_c (M := M) (jat12_n (by omega)) (jat12_n (by omega))).trans hm) (by rw [jat12_n (by omega)]; exact hl i0 (by omega)) (by rw [jat12_n (i := 88) (by omega), jat12_n (i := 89) (by omega), jat12_n (i := 90) (by omega), jat12_n (i := 91) (by omega)]; exact h2)) wmX5_447 jc_9 rfl rfl rfl (Nat.le_of_ble_eq_true rfl) (j_fit_rm (by omega) (by omega) (by omega)) rfl ?_
    refine j_istore_n x dX5_areCarriedOut_29 (by decide) rfl ?_
    refine j_iinc x dX5_areCarriedOut_30 rfl (by decide) rfl ?_
    refine j_goto (tgt := 4) x dX5_areCarriedOut_33 (by decide) ?_
    refine j_iload_n x dX5_areCarriedOut_4 rfl ?_
    refine j_aload_n x dX5_areCarriedOut_5 rfl ?_
    refine j2_getr (k := 7) (r := 86) x hb dX5_areCarriedOut_6 jc_9 wfX5_47 (by decide) rfl ?_
    refine j2_geti (k := 2) x hb dX5_areCarriedOut_9 jc_8 wfX5_339 (by decide) rfl ?_
    refine j_icmp_ge (tgt := 36) x dX5_areCarriedOut_12 (by decide) (fun g1 => ?_) (fun g1 => ?_)
    · refine j_aload_n x dX5_areCarriedOut_36 rfl ?_
      refine j_iconst (v := 0) x dX5_areCarriedOut_37 (by decide) ?_
      refine j2_puti (k := 12) x hb dX5_areCarriedOut_38 jc_9 wfX5_444 (by decide) rfl rfl rfl rfl ?_
      refine j_iload_n x dX5_areCarriedOut_41 rfl ?_
      exact j_zreturn x hr dX5_areCarriedOut_42 (by first | decide | with_reducible exact jb_nar | with_reducible exact jisS_nar | with_reducible exact gno_nar) (by omega) (by omega) ⟨rfl, rfl⟩
    · refine j_iload_n x dX5_areCarriedOut_15 rfl ?_
      refine j_if_eq (tgt := 36) x dX5_areCarriedOut_16 (by decide) (fun hc => ?_) (fun hc => absurd (rfl) hc)
      refine j_aload_n x dX5_areCarriedOut_36 rfl ?_
      refine j_iconst (v := 0) x dX5_areCarriedOut_37 (by decide) ?_
      refine j2_puti (k := 12) x hb dX5_areCarriedOut_38 jc_9 wfX5_444 (by decide) rfl rfl rfl rfl ?_
      refine j_iload_n x dX5_areCarriedOut_41 rfl ?_
      exact j_zreturn x hr dX5_areCarriedOut_42 (by first | decide | with_reducible exact jb_nar | with_reducible exact jisS_nar | with_reducible exact gno_nar) (by omega) (by omega) ⟨rfl, rfl⟩
theorem c_commands_fault {d : Nat} {b : SBt} {Y : OUt} {M : MM} (hb : 104 ≤ b.2.1) {N : MM} (C : CM (d + 5) 0 0 yX4_isParsed cX4_isParsed 2 (some .boolean) [.ref 86] b Y M (.inl (some (.int 0))) N) : CM (d + 6) 1 6 yX5_commands cX5_commands 2 (some .int) [.ref 0] b Y M (.inr "java/lang/IllegalArgumentException") (jm (jm N 86 0 0) 0 8 (N 86 1)) := by
  refine Con.of (by decide +kernel) (Nat.le_of_ble_eq_true rfl) rfl fun p l e s m args below meth c D tyc A ad0 x hr htab hname => ?_
  change JJ _ _ _ _ _ _ _ _ _ _ _ _ _ _ _ _ _ 0 [some (.ref 0), none] [] _ 0 0
  refine j_aload_n x dX5_commands_0 rfl ?_
  refine j2_getr (k := 7) (r := 86) x hb dX5_commands_1 jc_9 wfX5_47 (by decide) rfl ?_
  refine j2_callVi x hb dX5_commands_4 m_X4_isParsed C wmX5_317 jc_8 rfl rfl rfl (Nat.le_of_ble_eq_true rfl) (j_fit_rm (by omega) (by omega) (by omega)) rfl ?_
  refine j_istore_n x dX5_commands_7 (by decide) rfl ?_
  refine j_aload_n x dX5_commands_8 rfl ?_
  refine j2_getr (k := 7) (r := 86) x hb dX5_commands_9 jc_9 wfX5_47 (by decide) rfl ?_
  refine j_iconst (v := 0) x dX5_commands_12 (by decide) ?_
  refine j2_puti (k := 0) x hb dX5_commands_13 jc_8 wfX5_314 (by decide) rfl rfl rfl rfl ?_
  refine j_aload_n x dX5_commands_16 rfl ?_
  refine j_iload_n x dX5_commands_17 rfl ?_
  refine j_if_eq (tgt := 25) x dX5_commands_18 (by decide) (fun hc => ?_) (fun hc => absurd (rfl) hc)
  refine j_aload_n x dX5_commands_25 rfl ?_
  refine j2_getr (k := 7) (r := 86) x hb dX5_commands_26 jc_9 wfX5_47 (by decide) rfl ?_
  refine j2_geti (k := 1) x hb dX5_commands_29 jc_8 wfX5_320 (by decide) rfl ?_; rw [jm_n (by omega)]
  refine j2_puti (k := 8) x hb dX5_commands_32 jc_9 wfX5_51 (by decide) rfl rfl rfl rfl ?_
  refine j_iload_n x dX5_commands_35 rfl ?_
  refine j_if_ne (tgt := 50) x dX5_commands_36 (by decide) (fun hc => absurd hc (fun q => q rfl)) (fun hc => ?_)
  exact j_throwSW x exX5_182 wsX5_323 dX5_commands_39 dX5_commands_42 dX5_commands_43 dX5_commands_46 dX5_commands_49 htab (by omega) (by omega) ⟨rfl, rfl⟩
theorem c_commands_ok {d : Nat} {b : SBt} {Y : OUt} {M : MM} (hb : 104 ≤ b.2.1) {N N2 : MM} (C : CM (d + 5) 0 0 yX4_isParsed cX4_isParsed 2 (some .boolean) [.ref 86] b Y M (.inl (some (.int 1))) N) {j k : Nat} (hj : j < 9) (hk : k ≤ 8) (hh : N 13 1 = nI j) (hz : N 1 2 = 0 ∨ N 1 2 = 1) (C2 : CM (d + 5) 0 0 yX5_areCarriedOut cX5_areCarriedOut 3 (some .boolean) [.ref 0] b Y (jlg (jm (jm N 86 0 0) 0 8 (-1)) 1 (15 + 6 * j)) (.inl (some (.int 1))) N2) (hh2 : N2 13 1 = nI j) (h22 : N2 13 2 = nI k) : CM (d + 6) 1 6 yX5_commands cX5_commands 2 (some .int) [.ref 0] b Y M (.inl (some (.int (jkh N2 j k 86 2)))) (jkh N2 j k) := by
  refine Con.of (by decide +kernel) (Nat.le_of_ble_eq_true rfl) rfl fun p l e s m args below meth c D tyc A ad0 x hr htab hname => ?_
  change JJ _ _ _ _ _ _ _ _ _ _ _ _ _ _ _ _ _ 0 [some (.ref 0), none] [] _ 0 0
  refine j_aload_n x dX5_commands_0 rfl ?_
  refine j2_getr (k := 7) (r := 86) x hb dX5_commands_1 jc_9 wfX5_47 (by decide) rfl ?_
  refine j2_callVi x hb dX5_commands_4 m_X4_isParsed C wmX5_317 jc_8 rfl rfl rfl (Nat.le_of_ble_eq_true rfl) (j_fit_rm (by omega) (by omega) (by omega)) rfl ?_
  refine j_istore_n x dX5_commands_7 (by decide) rfl ?_
  refine j_aload_n x dX5_commands_8 rfl ?_
  refine j2_getr (k := 7) (r := 86) x hb dX5_commands_9 jc_9 wfX5_47 (by decide) rfl ?_
  refine j_iconst (v := 0) x dX5_commands_12 (by decide) ?_
  refine j2_puti (k := 0) x hb dX5_commands_13 jc_8 wfX5_314 (by decide) rfl rfl rfl rfl ?_
  refine j_aload_n x dX5_commands_16 rfl ?_
  refine j_iload_n x dX5_commands_17 rfl ?_
  refine j_if_eq (tgt := 25) x dX5_commands_18 (by decide) (fun hc => absurd hc (by decide)) (fun hc => ?_)
  refine j_iconst (v := (-1)) x dX5_commands_21 (by decide) ?_
  refine j_goto (tgt := 32) x dX5_commands_22 (by decide) ?_
  refine j2_puti (k := 8) x hb dX5_commands_32 jc_9 wfX5_51 (by decide) rfl rfl rfl rfl ?_
  refine j_iload_n x dX5_commands_35 rfl ?_
  refine j_if_ne (tgt := 50) x dX5_commands_36 (by decide) (fun hc => ?_) (fun hc => absurd hc (by decide))
  refine j_aload_n x dX5_commands_50 rfl ?_
  refine j2_getr (k := 3) (r := 13) x hb dX5_commands_51 jc_9 wfX5_22 (by decide) rfl ?_
  refine j_aload_n x dX5_commands_54 rfl ?_
  refine j2_getr (k := 0) (r := 1) x hb dX5_commands_55 jc_9 wfX5_10 (by decide) rfl ?_
  refine j2_callVv x hb dX5_commands_58 m_X1_hold (c_hold (d := d) hb hj ((jm_n (by omega)).trans ((jm_n (by omega)).trans hh)) (by rw [jm_n (by omega), jm_n (by omega)]; exact hz)) wmX5_325 jc_5 rfl rfl rfl (Nat.le_of_ble_eq_true rfl) (j_fit_rm (by omega) (by omega) (by omega)) rfl ?_
  refine j_aload_n x dX5_commands_61 rfl ?_
  refine j2_callVi x hb dX5_commands_62 m_X5_areCarriedOut C2 wmX5_328 jc_9 rfl rfl rfl (Nat.le_of_ble_eq_true rfl) (j_fit_rm (by omega) (by omega) (by omega)) rfl ?_
  refine j_if_ne (tgt := 90) x dX5_commands_65 (by decide) (fun hc => ?_) (fun hc => absurd hc (by decide))
  refine j_aload_n x dX5_commands_90 rfl ?_
  refine j2_getr (k := 3) (r := 13) x hb dX5_commands_91 jc_9 wfX5_22 (by decide) rfl ?_
  refine j2_callVv x hb dX5_commands_94 m_X1_keepHeld (c_keepHeld (d := d) hb hj hk hh2 h22) wmX5_336 jc_5 rfl rfl rfl (Nat.le_of_ble_eq_true rfl) (j_fit_rm (by omega) (by omega) (by omega)) rfl ?_
  refine j_aload_n x dX5_commands_97 rfl ?_
  refine j2_getr (k := 7) (r := 86) x hb dX5_commands_98 jc_9 wfX5_47 (by decide) rfl ?_
  refine j2_geti (k := 2) x hb dX5_commands_101 jc_8 wfX5_339 (by decide) rfl ?_
  exact j_ireturn x hr dX5_commands_104 (by omega) (by omega) ⟨rfl, rfl⟩
theorem c_commands_no {d : Nat} {b : SBt} {Y : OUt} {M : MM} (hb : 104 ≤ b.2.1) {N N2 : MM} (C : CM (d + 5) 0 0 yX4_isParsed cX4_isParsed 2 (some .boolean) [.ref 86] b Y M (.inl (some (.int 1))) N) {j k : Nat} (hj : j < 9) (hk : k ≤ 8) (hh : N 13 1 = nI j) (hz : N 1 2 = 0 ∨ N 1 2 = 1) (C2 : CM (d + 5) 0 0 yX5_areCarriedOut cX5_areCarriedOut 3 (some .boolean) [.ref 0] b Y (jlg (jm (jm N 86 0 0) 0 8 (-1)) 1 (15 + 6 * j)) (.inl (some (.int 0))) N2) (hh2 : N2 13 1 = nI j) (hz2 : N2 (15 + 6 * j) 2 = 0 ∨ N2 (15 + 6 * j) 2 = 1) : CM (d + 6) 1 6 yX5_commands cX5_commands 2 (some .int) [.ref 0] b Y M (.inr "java/lang/UnsupportedOperationException") (jlg N2 (15 + 6 * j) 1) := by
  refine Con.of (by decide +kernel) (Nat.le_of_ble_eq_true rfl) rfl fun p l e s m args below meth c D tyc A ad0 x hr htab hname => ?_
  change JJ _ _ _ _ _ _ _ _ _ _ _ _ _ _ _ _ _ 0 [some (.ref 0), none] [] _ 0 0
  refine j_aload_n x dX5_commands_0 rfl ?_
  refine j2_getr (k := 7) (r := 86) x hb dX5_commands_1 jc_9 wfX5_47 (by decide) rfl ?_
  refine j2_callVi x hb dX5_commands_4 m_X4_isParsed C wmX5_317 jc_8 rfl rfl rfl (Nat.le_of_ble_eq_true rfl) (j_fit_rm (by omega) (by omega) (by omega)) rfl ?_
  refine j_istore_n x dX5_commands_7 (by decide) rfl ?_
  refine j_aload_n x dX5_commands_8 rfl ?_
  refine j2_getr (k := 7) (r := 86) x hb dX5_commands_9 jc_9 wfX5_47 (by decide) rfl ?_
  refine j_iconst (v := 0) x dX5_commands_12 (by decide) ?_
  refine j2_puti (k := 0) x hb dX5_commands_13 jc_8 wfX5_314 (by decide) rfl rfl rfl rfl ?_
  refine j_aload_n x dX5_commands_16 rfl ?_
  refine j_iload_n x dX5_commands_17 rfl ?_
  refine j_if_eq (tgt := 25) x dX5_commands_18 (by decide) (fun hc => absurd hc (by decide)) (fun hc => ?_)
  refine j_iconst (v := (-1)) x dX5_commands_21 (by decide) ?_
  refine j_goto (tgt := 32) x dX5_commands_22 (by decide) ?_
  refine j2_puti (k := 8) x hb dX5_commands_32 jc_9 wfX5_51 (by decide) rfl rfl rfl rfl ?_
  refine j_iload_n x dX5_commands_35 rfl ?_
  refine j_if_ne (tgt := 50) x dX5_commands_36 (by decide) (fun hc => ?_) (fun hc => absurd hc (by decide))
  refine j_aload_n x dX5_commands_50 rfl ?_
  refine j2_getr (k := 3) (r := 13) x hb dX5_commands_51 jc_9 wfX5_22 (by decide) rfl ?_
  refine j_aload_n x dX5_commands_54 rfl ?_
  refine j2_getr (k := 0) (r := 1) x hb dX5_commands_55 jc_9 wfX5_10 (by decide) rfl ?_
  refine j2_callVv x hb dX5_commands_58 m_X1_hold (c_hold (d := d) hb hj ((jm_n (by omega)).trans ((jm_n (by omega)).trans hh)) (by rw [jm_n (by omega), jm_n (by omega)]; exact hz)) wmX5_325 jc_5 rfl rfl rfl (Nat.le_of_ble_eq_true rfl) (j_fit_rm (by omega) (by omega) (by omega)) rfl ?_
  refine j_aload_n x dX5_commands_61 rfl ?_
  refine j2_callVi x hb dX5_commands_62 m_X5_areCarriedOut C2 wmX5_328 jc_9 rfl rfl rfl (Nat.le_of_ble_eq_true rfl) (j_fit_rm (by omega) (by omega) (by omega)) rfl ?_
  refine j_if_ne (tgt := 90) x dX5_commands_65 (by decide) (fun hc => absurd hc (fun q => q rfl)) (fun hc => ?_)
  refine j_aload_n x dX5_commands_68 rfl ?_
  refine j2_getr (k := 3) (r := 13) x hb dX5_commands_69 jc_9 wfX5_22 (by decide) rfl ?_
  refine j_aload_n x dX5_commands_72 rfl ?_
  refine j2_getr (k := 0) (r := 1) x hb dX5_commands_73 jc_9 wfX5_10 (by decide) rfl ?_
  refine j2_callVv x hb dX5_commands_76 m_X1_giveHeld (c_giveHeld (d := d) hb hj hh2 hz2) wmX5_331 jc_5 rfl rfl rfl (Nat.le_of_ble_eq_true rfl) (j_fit_rm (by omega) (by omega) (by omega)) rfl ?_
  exact j_throwSW x exX5_66 wsX5_334 dX5_commands_79 dX5_commands_82 dX5_commands_83 dX5_commands_86 dX5_commands_89 htab (by omega) (by omega) ⟨rfl, rfl⟩
end

section
/-! ===== the reference: commands, parsed ===== -/
theorem i32_48 {v : Int32} {q : Nat} (hq : q < 100) : (¬ v < 48 ∧ ¬ nI (48 + q) < v) ↔ (¬ v - 48 < 0 ∧ ¬ nI q < v - 48) := by
  have h1 := Int32.le_toInt v
  have h2 := Int32.toInt_lt v
  have h3 : (v - 48).toInt = (v.toInt - 48).bmod (2 ^ 32) := Int32.toInt_sub v 48
  rw [Int32.lt_iff_toInt_lt, Int32.lt_iff_toInt_lt, Int32.lt_iff_toInt_lt, Int32.lt_iff_toInt_lt, h3, nI_toInt (by omega), nI_toInt (by omega), show (48 : Int32).toInt = 48 from rfl, Int32.toInt_zero]
  rw [Int.bmod_def]
  split <;> omega
theorem isD_9 {T : Nat → Int32} {n a : Nat} (ha : a < n) : isD 48 57 (T a) ↔ tdc T n a 9 := by
  have h := i32_48 (v := T a) (q := 9) (by decide)
  unfold tdc tsg
  rw [if_pos ha]
  exact h
theorem isD_4 {T : Nat → Int32} {n a : Nat} (ha : a < n) : isD 48 52 (T a) ↔ tdc T n a 4 := by
  have h := i32_48 (v := T a) (q := 4) (by decide)
  unfold tdc tsg
  rw [if_pos ha]
  exact h
theorem tdg_v {T : Nat → Int32} {n a q : Nat} (hq : q < 100) (h : tdc T n a (nI q)) : ∃ r, r ≤ q ∧ tsg T n a - 48 = nI r := nI_of2 (nI_toInt (by omega)) h.1 (Int32.not_lt.mp h.2)
theorem tnv_9 {T : Nat → Int32} {n a : Nat} (h : tdc T n a 9) : ¬ tnv T n a = -1 := by
  obtain ⟨r, h1, h2⟩ := tdg_v (q := 9) (by decide) h
  have h0 : tdg T n a 9 = nI r := by rw [tdg, if_pos h, h2]
  unfold tnv
  rw [h0, if_neg (nI_nm1 (by omega))]
  split
  · exact nI_nm1 (by omega)
  · obtain ⟨s, h3, h4⟩ := tdg_v (q := 9) (by decide) (tdg_c (by assumption : ¬ tdg T n (a + 1) 9 = -1))
    have h5 : tdg T n (a + 1) 9 = nI s := by rw [tdg, if_pos (tdg_c (by assumption)), h4]
    rw [h5, show (10 : Int32) * nI r = nI (10 * r) from nI_mul 10 r, nI_add]
    exact nI_nm1 (by omega)
def gNm (M : MM) (n k a : Nat) : MM := jm (jm M 94 10 (nI (tna (M 100) n a))) 101 k (if tnv (M 100) n a = -1 then 0 else tnv (M 100) n a)
theorem jm_sw {M : MM} {i k i2 k2 : Nat} {v w : Int32} (h : ¬ (i = i2 ∧ k = k2)) : jm (jm M i k v) i2 k2 w = jm (jm M i2 k2 w) i k v := funext fun a => funext fun c => by
  by_cases h1 : a = i ∧ c = k
  · obtain ⟨rfl, rfl⟩ := h1
    rw [jm_n h, jm_s, jm_s]
  · by_cases h2 : a = i2 ∧ c = k2
    · obtain ⟨rfl, rfl⟩ := h2
      rw [jm_s, jm_n h1, jm_s]
    · rw [jm_n h2, jm_n h1, jm_n h1, jm_n h2]
theorem CM_st {d mc ms : Nat} {y : MethodName} {cc : ByteArray} {maxL : Nat} {ret : Option FieldType} {as : List Value} {b : SBt} {Y : OUt} {M M1 M2 : MM} {o : MO} (C : CM d mc ms y cc maxL ret as b Y M o M1) (h : M1 = M2) : CM d mc ms y cc maxL ret as b Y M o M2 := by
  subst h
  exact C
theorem cx_number {d : Nat} {b : SBt} {Y : OUt} {M : MM} (hb : 104 ≤ b.2.1) {k : Nat} (hk : k < 3) {a n : Nat} (hn : n ≤ 60) (h9 : M 94 9 = nI n) (hat : M 94 10 = nI a) (ha : a ≤ n) : CM (d + 1) 0 0 yX6_number cX6_number 3 (some .boolean) [.ref 94, .int (nI k)] b Y M (.inl (some (.int (jb (¬ tnv (M 100) n a = -1))))) (gNm M n k a) := by
  have hN0 : gN0 M k = jm (jm M 94 10 (nI a)) 101 k 0 := by rw [jm_id hat]; rfl
  have hg1 : a < n → tdc (M 100) n a 9 → gN1 M k a = jm (jm M 94 10 (nI (a + 1))) 101 k (tdg (M 100) n a 9) := fun hlt h => by
    rw [gN1, gN0_at, hat, nI_1, gN0, jm_s, jm_sw (M := M) (by omega), jm_jm, tdg, if_pos h, tsg, if_pos hlt, show (10 : Int32) * 0 = 0 from rfl, Int32.zero_add]
  rcases Nat.lt_or_eq_of_le ha with hlt | heq
  · by_cases hd : isD 48 57 (M 100 a)
    · have hc := (isD_9 hlt).mp hd
      have hv := tnv_9 hc
      have hg : ¬ tdg (M 100) n a 9 = -1 := fun q => tdg_n q hc
      by_cases he : a + 1 = n
      · have h2 : tdg (M 100) n (a + 1) 9 = -1 := if_neg (fun q => by have := tdc_lt q; omega)
        have C := cx_number_1e (d := d) (Y := Y) hb hk hn h9 hat hlt hd he
        refine CM_v (CM_st C ?_) (jb_t hv).symm
        rw [hg1 hlt hc, gNm, if_neg hv, tna, if_neg hg, if_pos h2, tnv, if_neg hg, if_pos h2]
      · by_cases hd2 : isD 48 57 (M 100 (a + 1))
        · have hc2 := (isD_9 (show a + 1 < n by omega)).mp hd2
          have hg2 : ¬ tdg (M 100) n (a + 1) 9 = -1 := fun q => tdg_n q hc2
          have C := cx_number_2 (d := d) (Y := Y) hb hk hn h9 hat hlt hd (show a + 1 < n by omega) hd2
          refine CM_v (CM_st C ?_) (jb_t hv).symm
          rw [gN2, gN1_at hat, nI_1, hg1 hlt hc, jm_s, jm_sw (M := jm M 94 10 _) (by omega), jm_jm, jm_jm, gNm, if_neg hv, tna, if_neg hg, if_neg hg2, tnv, if_neg hg, if_neg hg2, show tdg (M 100) n (a + 1) 9 = tsg (M 100) n (a + 1) - 48 from if_pos hc2, tsg, if_pos (show a + 1 < n by omega), Int32.sub_eq_add_neg, Int32.sub_eq_add_neg, Int32.add_assoc]
        · have h2 : tdg (M 100) n (a + 1) 9 = -1 := if_neg (fun q => hd2 ((isD_9 (show a + 1 < n by omega)).mpr q))
          have C := cx_number_1n (d := d) (Y := Y) hb hk hn h9 hat hlt hd (show a + 1 < n by omega) hd2
          refine CM_v (CM_st C ?_) (jb_t hv).symm
          rw [hg1 hlt hc, gNm, if_neg hv, tna, if_neg hg, if_pos h2, tnv, if_neg hg, if_pos h2]
    · have h0 : tdg (M 100) n a 9 = -1 := if_neg (fun q => hd ((isD_9 hlt).mpr q))
      have hv : tnv (M 100) n a = -1 := if_pos h0
      have C := cx_number_no (d := d) (Y := Y) hb hk hn h9 hat hlt hd
      refine CM_v (CM_st C ?_) (jb_f (fun q => q hv)).symm
      rw [hN0, gNm, if_pos hv, tna, if_pos h0]
  · have h0 : tdg (M 100) n a 9 = -1 := if_neg (fun q => by have := tdc_lt q; omega)
    have hv : tnv (M 100) n a = -1 := if_pos h0
    have C := cx_number_end (d := d + 1) (Y := Y) hb hk hn h9 hat heq
    refine CM_v (CM_st C ?_) (jb_f (fun q => q hv)).symm
    rw [hN0, gNm, if_pos hv, tna, if_pos h0]
theorem cx_isNext_Y {d : Nat} {b : SBt} {Y : OUt} {M : MM} (hb : 104 ≤ b.2.1) {ch : Int32} {a n : Nat} (hn : n ≤ 60) (h9 : M 94 9 = nI n) (hat : M 94 10 = nI a) (ha : a ≤ n) (hc : ¬ ch = -1) (he : tsg (M 100) n a = ch) : CM d 0 0 yX6_isNext cX6_isNext 2 (some .boolean) [.ref 94, .int ch] b Y M (.inl (some (.int 1))) (jm M 94 10 (nI (a + 1))) := by
  have hlt := tsg_lt he hc
  rw [tsg, if_pos hlt] at he
  exact cx_isNext_yes hb hn h9 hat hlt he
theorem cx_isNext_N {d : Nat} {b : SBt} {Y : OUt} {M : MM} (hb : 104 ≤ b.2.1) {ch : Int32} {a n : Nat} (hn : n ≤ 60) (h9 : M 94 9 = nI n) (hat : M 94 10 = nI a) (ha : a ≤ n) (he : ¬ tsg (M 100) n a = ch) : CM d 0 0 yX6_isNext cX6_isNext 2 (some .boolean) [.ref 94, .int ch] b Y M (.inl (some (.int 0))) M := by
  rcases Nat.lt_or_eq_of_le ha with hlt | heq
  · rw [tsg, if_pos hlt] at he
    exact cx_isNext_no hb hn h9 hat hlt he
  · exact cx_isNext_end hb hn h9 hat heq
/-- the store behind digits -/
def gD3 (M : MM) (n a : Nat) : MM := jm (jm (jm (jm M 94 10 (nI (tda (M 100) n (tda (M 100) n (tda (M 100) n a 4) 4) 4))) 101 0 (tdg (M 100) n a 4)) 101 1 (tdg (M 100) n (tda (M 100) n a 4) 4)) 101 2 (tdg (M 100) n (tda (M 100) n (tda (M 100) n a 4) 4) 4)
theorem gDa_s {M : MM} {n a j : Nat} : gDa M n a (j + 1) = tda (M 100) n (gDa M n a j) 4 := by
  rw [gDa, tda]
  by_cases h : tdc (M 100) n (gDa M n a j) 4
  · rw [if_pos h, if_pos ⟨tdc_lt h, (isD_4 (tdc_lt h)).mpr h⟩]
  · rw [if_neg h, if_neg (fun q => h ((isD_4 q.1).mp q.2))]
theorem gDs_s {M : MM} {n a j : Nat} (hat : M 94 10 = nI a) : gDs M n a (j + 1) = jm (jm (gDs M n a j) 94 10 (nI (gDa M n a (j + 1)))) 101 j (tdg (M 100) n (gDa M n a j) 4) := by
  rw [gDs, gDa, tdg]
  by_cases h : tdc (M 100) n (gDa M n a j) 4
  · rw [if_pos h, if_pos ⟨tdc_lt h, (isD_4 (tdc_lt h)).mpr h⟩, if_pos ⟨tdc_lt h, (isD_4 (tdc_lt h)).mpr h⟩, gDs_at hat, nI_1, tsg, if_pos (tdc_lt h)]
  · rw [if_neg h, if_neg (fun q => h ((isD_4 q.1).mp q.2)), if_neg (fun q => h ((isD_4 q.1).mp q.2)), jm_id (gDs_at hat j)]
theorem gDs_3 {M : MM} {n a : Nat} (hat : M 94 10 = nI a) : gDs M n a 3 = gD3 M n a := by
  have e1 : gDa M n a 1 = tda (M 100) n a 4 := gDa_s
  have e2 : gDa M n a 2 = tda (M 100) n (tda (M 100) n a 4) 4 := by rw [← e1]; exact gDa_s (j := 1)
  have e3 : gDa M n a 3 = tda (M 100) n (tda (M 100) n (tda (M 100) n a 4) 4) 4 := by rw [← e2]; exact gDa_s (j := 2)
  have s1 : gDs M n a 1 = jm (jm M 94 10 (nI (gDa M n a 1))) 101 0 (tdg (M 100) n a 4) := gDs_s (j := 0) hat
  have s2 : gDs M n a 2 = jm (jm (gDs M n a 1) 94 10 (nI (gDa M n a 2))) 101 1 (tdg (M 100) n (gDa M n a 1) 4) := gDs_s (j := 1) hat
  have s3 : gDs M n a 3 = jm (jm (gDs M n a 2) 94 10 (nI (gDa M n a 3))) 101 2 (tdg (M 100) n (gDa M n a 2) 4) := gDs_s (j := 2) hat
  rw [s3, s2, s1, e3, e2, e1, jm_sw (M := jm M 94 10 _) (i := 101) (k := 0) (i2 := 94) (by omega), jm_jm, jm_sw (M := jm (jm M 94 10 _) 101 0 _) (i := 101) (k := 1) (i2 := 94) (by omega), jm_sw (M := jm M 94 10 _) (i := 101) (k := 0) (i2 := 94) (by omega), jm_jm]
  rfl
/-- the store behind a command that is one -/
def gcm (M : MM) (n a : Nat) : MM := jm (jm (jm (jm (jm M 94 10 (nI (pN (M 100) n a))) 94 11 (tsg (M 100) n a)) 101 0 (if tsg (M 100) n a = 110 then M 101 0 else p1 (M 100) n a)) 101 1 (if tsg (M 100) n a = 110 ∨ tsg (M 100) n a = 98 then M 101 1 else p2 (M 100) n a)) 101 2 (if tsg (M 100) n a = 109 ∨ tsg (M 100) n a = 116 then p3 (M 100) n a else M 101 2)
def gLike (M N : MM) : Prop := ∀ i k, ¬ (i = 94 ∧ (k = 10 ∨ k = 11)) → i ≠ 101 → N i k = M i k
theorem gcm_like {M : MM} {n a : Nat} : gLike M (gcm M n a) := fun i k h1 h2 => by
  rw [gcm, jm_n (by omega), jm_n (by omega), jm_n (by omega), jm_n (by omega), jm_n (by omega)]
theorem gcm_t {M : MM} {n a : Nat} : gcm M n a 100 = M 100 := funext fun k => gcm_like 100 k (by omega) (by omega)
theorem gcm_p {M : MM} {n a : Nat} : gcm M n a 94 10 = nI (pN (M 100) n a) := by rw [gcm, jm_n (by omega), jm_n (by omega), jm_n (by omega), jm_n (by omega), jm_s]
theorem gcm_o {M : MM} {n a : Nat} : gcm M n a 94 11 = tsg (M 100) n a := by rw [gcm, jm_n (by omega), jm_n (by omega), jm_n (by omega), jm_s]
theorem gcm_0 {M : MM} {n a : Nat} : gcm M n a 101 0 = if tsg (M 100) n a = 110 then M 101 0 else p1 (M 100) n a := by rw [gcm, jm_n (by omega), jm_n (by omega), jm_s]
theorem gcm_1 {M : MM} {n a : Nat} : gcm M n a 101 1 = if tsg (M 100) n a = 110 ∨ tsg (M 100) n a = 98 then M 101 1 else p2 (M 100) n a := by rw [gcm, jm_n (by omega), jm_s]
theorem gcm_2 {M : MM} {n a : Nat} : gcm M n a 101 2 = if tsg (M 100) n a = 109 ∨ tsg (M 100) n a = 116 then p3 (M 100) n a else M 101 2 := by rw [gcm, jm_s]
theorem gNm_t {M : MM} {n k a : Nat} : gNm M n k a 100 = M 100 := funext fun c => by rw [gNm, jm_n (by omega), jm_n (by omega)]
theorem gNm_n {M : MM} {n k a i c : Nat} (h : i ≠ 101) (h2 : ¬ (i = 94 ∧ c = 10)) : gNm M n k a i c = M i c := by rw [gNm, jm_n (by omega), jm_n (by omega)]
theorem gNm_p {M : MM} {n k a : Nat} : gNm M n k a 94 10 = nI (tna (M 100) n a) := by rw [gNm, jm_n (by omega), jm_s]
theorem gNm_g {M : MM} {n k a c : Nat} (h : c ≠ k) : gNm M n k a 101 c = M 101 c := by rw [gNm, jm_n (by omega), jm_n (by omega)]
theorem gNm_s {M : MM} {n k a : Nat} (h : ¬ tnv (M 100) n a = -1) : gNm M n k a 101 k = tnv (M 100) n a := by rw [gNm, jm_s, if_neg h]
theorem jmt {M : MM} {v : Int32} {k : Nat} : jm M 94 k v 100 = M 100 := jm_row (by decide)
theorem gcm_eq {M N : MM} {n a : Nat} (hl : gLike M N) (hp : N 94 10 = nI (pN (M 100) n a)) (ho : N 94 11 = tsg (M 100) n a) (h0 : N 101 0 = gcm M n a 101 0) (h1 : N 101 1 = gcm M n a 101 1) (h2 : N 101 2 = gcm M n a 101 2) (h3 : ∀ k, 3 ≤ k → N 101 k = M 101 k) : N = gcm M n a := funext fun i => funext fun k => by
  by_cases a1 : i = 94 ∧ (k = 10 ∨ k = 11)
  · obtain ⟨rfl, rfl | rfl⟩ := a1
    · rw [hp, gcm_p]
    · rw [ho, gcm_o]
  · by_cases a2 : i = 101
    · subst a2
      rcases (show k = 0 ∨ k = 1 ∨ k = 2 ∨ 3 ≤ k by omega) with rfl | rfl | rfl | h
      · exact h0
      · exact h1
      · exact h2
      · rw [h3 k h, gcm, jm_n (by omega), jm_n (by omega), jm_n (by omega), jm_n (by omega), jm_n (by omega)]
    · rw [hl i k a1 a2, gcm_like i k a1 a2]
def gB (M : MM) (a : Nat) (u : Int32) : MM := jm (jm M 94 11 u) 94 10 (nI (a + 1))
theorem gB_t {M : MM} {a : Nat} {u : Int32} : gB M a u 100 = M 100 := by rw [gB, jmt, jmt]
theorem gB_p {M : MM} {a : Nat} {u : Int32} : gB M a u 94 10 = nI (a + 1) := jm_s
theorem gB_o {M : MM} {a : Nat} {u : Int32} : gB M a u 94 11 = u := by rw [gB, jm_n (by omega), jm_s]
theorem gB_n {M : MM} {a i k : Nat} {u : Int32} (h : ¬ (i = 94 ∧ (k = 10 ∨ k = 11))) : gB M a u i k = M i k := by rw [gB, jm_n (by omega), jm_n (by omega)]
/-- the reading of the parts of a command, one behind another -/
def gM1 (M : MM) (n a : Nat) (u : Int32) : MM := gNm (gB M a u) n 0 (a + 1)
def gM2 (M : MM) (n a : Nat) (u : Int32) : MM := gNm (jm (gM1 M n a u) 94 10 (nI (tna (M 100) n (a + 1) + 1))) n 1 (tna (M 100) n (a + 1) + 1)
def gM3 (M : MM) (n a : Nat) (u : Int32) : MM := gNm (jm (gM2 M n a u) 94 10 (nI (tna (M 100) n (tna (M 100) n (a + 1) + 1) + 1))) n 2 (tna (M 100) n (tna (M 100) n (a + 1) + 1) + 1)
theorem gM1_t {M : MM} {n a : Nat} {u : Int32} : gM1 M n a u 100 = M 100 := by rw [gM1, gNm_t, gB_t]
theorem gM2_t {M : MM} {n a : Nat} {u : Int32} : gM2 M n a u 100 = M 100 := by rw [gM2, gNm_t, jmt, gM1_t]
theorem gM3_t {M : MM} {n a : Nat} {u : Int32} : gM3 M n a u 100 = M 100 := by rw [gM3, gNm_t, jmt, gM2_t]
theorem gM1_p {M : MM} {n a : Nat} {u : Int32} : gM1 M n a u 94 10 = nI (tna (M 100) n (a + 1)) := by rw [gM1, gNm_p, gB_t]
theorem gM2_p {M : MM} {n a : Nat} {u : Int32} : gM2 M n a u 94 10 = nI (tna (M 100) n (tna (M 100) n (a + 1) + 1)) := by rw [gM2, gNm_p, jmt, gM1_t]
theorem gM3_p {M : MM} {n a : Nat} {u : Int32} : gM3 M n a u 94 10 = nI (tna (M 100) n (tna (M 100) n (tna (M 100) n (a + 1) + 1) + 1)) := by rw [gM3, gNm_p, jmt, gM2_t]
theorem gM1_n {M : MM} {n a i k : Nat} {u : Int32} (h : ¬ (i = 94 ∧ (k = 10 ∨ k = 11))) (h2 : i ≠ 101) : gM1 M n a u i k = M i k := by rw [gM1, gNm_n h2 (by omega), gB_n h]
theorem gM2_n {M : MM} {n a i k : Nat} {u : Int32} (h : ¬ (i = 94 ∧ (k = 10 ∨ k = 11))) (h2 : i ≠ 101) : gM2 M n a u i k = M i k := by rw [gM2, gNm_n h2 (by omega), jm_n (by omega), gM1_n h h2]
theorem gM3_n {M : MM} {n a i k : Nat} {u : Int32} (h : ¬ (i = 94 ∧ (k = 10 ∨ k = 11))) (h2 : i ≠ 101) : gM3 M n a u i k = M i k := by rw [gM3, gNm_n h2 (by omega), jm_n (by omega), gM2_n h h2]
theorem gM1_o {M : MM} {n a : Nat} {u : Int32} : gM1 M n a u 94 11 = u := by rw [gM1, gNm_n (by omega) (by omega), gB_o]
theorem gM2_o {M : MM} {n a : Nat} {u : Int32} : gM2 M n a u 94 11 = u := by rw [gM2, gNm_n (by omega) (by omega), jm_n (by omega), gM1_o]
theorem gM3_o {M : MM} {n a : Nat} {u : Int32} : gM3 M n a u 94 11 = u := by rw [gM3, gNm_n (by omega) (by omega), jm_n (by omega), gM2_o]
theorem gM1_0 {M : MM} {n a : Nat} {u : Int32} (h : ¬ tnv (M 100) n (a + 1) = -1) : gM1 M n a u 101 0 = tnv (M 100) n (a + 1) := by rw [gM1, gNm_s (by rw [gB_t]; exact h), gB_t]
theorem gM1_k {M : MM} {n a k : Nat} {u : Int32} (h : k ≠ 0) : gM1 M n a u 101 k = M 101 k := by rw [gM1, gNm_g h, gB_n (by omega)]
theorem gM2_1 {M : MM} {n a : Nat} {u : Int32} (h : ¬ tnv (M 100) n (tna (M 100) n (a + 1) + 1) = -1) : gM2 M n a u 101 1 = tnv (M 100) n (tna (M 100) n (a + 1) + 1) := by rw [gM2, gNm_s (by rw [jmt, gM1_t]; exact h), jmt, gM1_t]
theorem gM2_k {M : MM} {n a k : Nat} {u : Int32} (h : k ≠ 1) : gM2 M n a u 101 k = gM1 M n a u 101 k := by rw [gM2, gNm_g h, jm_n (by omega)]
theorem gM3_2 {M : MM} {n a : Nat} {u : Int32} (h : ¬ tnv (M 100) n (tna (M 100) n (tna (M 100) n (a + 1) + 1) + 1) = -1) : gM3 M n a u 101 2 = tnv (M 100) n (tna (M 100) n (tna (M 100) n (a + 1) + 1) + 1) := by rw [gM3, gNm_s (by rw [jmt, gM2_t]; exact h), jmt, gM2_t]
theorem gM3_k {M : MM} {n a k : Nat} {u : Int32} (h : k ≠ 2) : gM3 M n a u 101 k = gM2 M n a u 101 k := by rw [gM3, gNm_g h, jm_n (by omega)]
theorem cx_isCommand_m1 {d : Nat} {b : SBt} {Y : OUt} {M : MM} (hb : 104 ≤ b.2.1) {a n : Nat} (hn : n ≤ 60) (h9 : M 94 9 = nI n) (hat : M 94 10 = nI a) (hlt : a < n) (hL : tsg (M 100) n a = 109) (g1 : tnv (M 100) n (a + 1) = -1) : CM (d + 2) 0 0 yX6_isCommand cX6_isCommand 1 (some .boolean) [.ref 94] b Y M (.inl (some (.int (0)))) (gM1 M n a 109) := by
  refine Con.of (by decide +kernel) (Nat.le_of_ble_eq_true rfl) rfl fun p l e s m args below meth c D tyc A ad0 x hr htab hname => ?_
  change JJ _ _ _ _ _ _ _ _ _ _ _ _ _ _ _ _ _ 0 [some (.ref 94)] [] _ 0 0
  refine j_aload_n x dX6_isCommand_0 rfl ?_
  refine j2_geti (k := 10) x hb dX6_isCommand_1 jc_10 wfX6_188 (by decide) rfl ?_
  refine j_aload_n x dX6_isCommand_4 rfl ?_
  refine j2_geti (k := 9) x hb dX6_isCommand_5 jc_10 wfX6_185 (by decide) rfl ?_
  refine j_icmp_ne (tgt := 13) x dX6_isCommand_8 (by decide) (fun hc => ?_) (fun hc => absurd hc (by rw [hat, h9]; exact fun q => by have := congrArg Int32.toNatClampNeg q; rw [nI_clamp (by omega), nI_clamp (by omega)] at this; omega))
  refine j_aload_n x dX6_isCommand_13 rfl ?_
  refine j_aload_n x dX6_isCommand_14 rfl ?_
  refine j2_getr (k := 8) (r := 100) x hb dX6_isCommand_15 jc_10 wfX6_25 (by decide) rfl ?_
  refine j_aload_n x dX6_isCommand_18 rfl ?_
  refine j2_geti (k := 10) x hb dX6_isCommand_19 jc_10 wfX6_188 (by decide) rfl ?_
  refine j2_cald x hb dX6_isCommand_22 rfl (n := 60) (v := 109) (by rw [hat]; exact vp_in_nI (by omega) (by decide)) (by rw [hat, nI_clamp (by omega)]; rw [tsg, if_pos hlt] at hL; exact hL) ?_
  refine j2_puti (k := 11) x hb dX6_isCommand_23 jc_10 wfX6_191 (by decide) rfl (by decide) rfl rfl ?_
  refine j_aload_n x dX6_isCommand_26 rfl ?_
  refine j2_geti (k := 11) x hb dX6_isCommand_27 jc_10 wfX6_191 (by decide) rfl ?_; rw [jm_s]
  refine j_lookup (off := 50) (tgt := 80) x dX6_isCommand_30 (by decide) (by decide) (by decide) ?_
  refine j_aload_n x dX6_isCommand_80 rfl ?_
  refine j_dup x dX6_isCommand_81 rfl ?_
  refine j2_geti (k := 10) x hb dX6_isCommand_82 jc_10 wfX6_188 (by decide) rfl ?_
  refine j_iconst (v := 1) x dX6_isCommand_85 (by decide) ?_
  refine j_iadd x dX6_isCommand_86 ?_
  refine j2_puti (k := 10) x hb dX6_isCommand_87 jc_10 wfX6_188 (by decide) rfl rfl rfl rfl ?_; rw [show jm (jm M 94 11 109) 94 10 (jm M 94 11 109 94 10 + 1) = gB M a 109 from by rw [jm_n (by omega), hat, nI_1]; rfl]
  refine j_aload_n x dX6_isCommand_90 rfl ?_
  refine j_iconst (v := 0) x dX6_isCommand_91 (by decide) ?_
  refine j2_callVi x hb dX6_isCommand_92 m_X6_number (CM_v (cx_number (d := d) hb (k := 0) (by decide) hn ((gB_n (by omega)).trans h9) gB_p (show a + 1 ≤ n by omega)) (jb_f (fun z => z (by rw [gB_t]; exact g1)))) wmX6_195 jc_10 rfl rfl rfl (Nat.le_of_ble_eq_true rfl) (j_fit_rm (by omega) (by omega) (by omega)) rfl ?_
  refine j_if_eq (tgt := 136) x dX6_isCommand_95 (by decide) (fun hc => ?_) (fun hc => absurd (rfl) hc)
  refine j_iconst (v := 0) x dX6_isCommand_136 (by decide) ?_
  exact j_zreturn x hr dX6_isCommand_137 (by first | decide | with_reducible exact jb_nar | with_reducible exact jisS_nar | with_reducible exact gno_nar) (by omega) (by omega) ⟨rfl, rfl⟩
theorem cx_isCommand_m2 {d : Nat} {b : SBt} {Y : OUt} {M : MM} (hb : 104 ≤ b.2.1) {a n : Nat} (hn : n ≤ 60) (h9 : M 94 9 = nI n) (hat : M 94 10 = nI a) (hlt : a < n) (hL : tsg (M 100) n a = 109) (g1 : ¬ tnv (M 100) n (a + 1) = -1) (g2 : ¬ tsg (M 100) n (tna (M 100) n (a + 1)) = 61) : CM (d + 2) 0 0 yX6_isCommand cX6_isCommand 1 (some .boolean) [.ref 94] b Y M (.inl (some (.int (0)))) (gM1 M n a 109) := by
  refine Con.of (by decide +kernel) (Nat.le_of_ble_eq_true rfl) rfl fun p l e s m args below meth c D tyc A ad0 x hr htab hname => ?_
  change JJ _ _ _ _ _ _ _ _ _ _ _ _ _ _ _ _ _ 0 [some (.ref 94)] [] _ 0 0
  refine j_aload_n x dX6_isCommand_0 rfl ?_
  refine j2_geti (k := 10) x hb dX6_isCommand_1 jc_10 wfX6_188 (by decide) rfl ?_
  refine j_aload_n x dX6_isCommand_4 rfl ?_
  refine j2_geti (k := 9) x hb dX6_isCommand_5 jc_10 wfX6_185 (by decide) rfl ?_
  refine j_icmp_ne (tgt := 13) x dX6_isCommand_8 (by decide) (fun hc => ?_) (fun hc => absurd hc (by rw [hat, h9]; exact fun q => by have := congrArg Int32.toNatClampNeg q; rw [nI_clamp (by omega), nI_clamp (by omega)] at this; omega))
  refine j_aload_n x dX6_isCommand_13 rfl ?_
  refine j_aload_n x dX6_isCommand_14 rfl ?_
  refine j2_getr (k := 8) (r := 100) x hb dX6_isCommand_15 jc_10 wfX6_25 (by decide) rfl ?_
  refine j_aload_n x dX6_isCommand_18 rfl ?_
  refine j2_geti (k := 10) x hb dX6_isCommand_19 jc_10 wfX6_188 (by decide) rfl ?_
  refine j2_cald x hb dX6_isCommand_22 rfl (n := 60) (v := 109) (by rw [hat]; exact vp_in_nI (by omega) (by decide)) (by rw [hat, nI_clamp (by omega)]; rw [tsg, if_pos hlt] at hL; exact hL) ?_
  refine j2_puti (k := 11) x hb dX6_isCommand_23 jc_10 wfX6_191 (by decide) rfl (by decide) rfl rfl ?_
  refine j_aload_n x dX6_isCommand_26 rfl ?_
  refine j2_geti (k := 11) x hb dX6_isCommand_27 jc_10 wfX6_191 (by decide) rfl ?_; rw [jm_s]
  refine j_lookup (off := 50) (tgt := 80) x dX6_isCommand_30 (by decide) (by decide) (by decide) ?_
  refine j_aload_n x dX6_isCommand_80 rfl ?_
  refine j_dup x dX6_isCommand_81 rfl ?_
  refine j2_geti (k := 10) x hb dX6_isCommand_82 jc_10 wfX6_188 (by decide) rfl ?_
  refine j_iconst (v := 1) x dX6_isCommand_85 (by decide) ?_
  refine j_iadd x dX6_isCommand_86 ?_
  refine j2_puti (k := 10) x hb dX6_isCommand_87 jc_10 wfX6_188 (by decide) rfl rfl rfl rfl ?_; rw [show jm (jm M 94 11 109) 94 10 (jm M 94 11 109 94 10 + 1) = gB M a 109 from by rw [jm_n (by omega), hat, nI_1]; rfl]
  refine j_aload_n x dX6_isCommand_90 rfl ?_
  refine j_iconst (v := 0) x dX6_isCommand_91 (by decide) ?_
  refine j2_callVi x hb dX6_isCommand_92 m_X6_number (CM_v (cx_number (d := d) hb (k := 0) (by decide) hn ((gB_n (by omega)).trans h9) gB_p (show a + 1 ≤ n by omega)) (jb_t (by rw [gB_t]; exact g1))) wmX6_195 jc_10 rfl rfl rfl (Nat.le_of_ble_eq_true rfl) (j_fit_rm (by omega) (by omega) (by omega)) rfl ?_
  refine j_if_eq (tgt := 136) x dX6_isCommand_95 (by decide) (fun hc => absurd hc (by decide)) (fun hc => ?_)
  refine j_aload_n x dX6_isCommand_98 rfl ?_
  refine j_bipush (v := 61) x dX6_isCommand_99 (by decide) ?_
  refine j2_callVi x hb dX6_isCommand_101 m_X6_isNext (cx_isNext_N (M := gM1 M n a 109) (d := d) (ch := 61) hb hn ((gM1_n (by omega) (by omega)).trans h9) gM1_p (tna_le (show a + 1 ≤ n by omega)) (by rw [gM1_t]; exact g2)) wmX6_198 jc_10 rfl rfl rfl (Nat.le_of_ble_eq_true rfl) (j_fit_rm (by omega) (by omega) (by omega)) rfl ?_
  refine j_if_eq (tgt := 136) x dX6_isCommand_104 (by decide) (fun hc => ?_) (fun hc => absurd (rfl) hc)
  refine j_iconst (v := 0) x dX6_isCommand_136 (by decide) ?_
  exact j_zreturn x hr dX6_isCommand_137 (by first | decide | with_reducible exact jb_nar | with_reducible exact jisS_nar | with_reducible exact gno_nar) (by omega) (by omega) ⟨rfl, rfl⟩
theorem cx_isCommand_m3 {d : Nat} {b : SBt} {Y : OUt} {M : MM} (hb : 104 ≤ b.2.1) {a n : Nat} (hn : n ≤ 60) (h9 : M 94 9 = nI n) (hat : M 94 10 = nI a) (hlt : a < n) (hL : tsg (M 100) n a = 109) (g1 : ¬ tnv (M 100) n (a + 1) = -1) (g2 : tsg (M 100) n (tna (M 100) n (a + 1)) = 61) (g3 : tnv (M 100) n (tna (M 100) n (a + 1) + 1) = -1) : CM (d + 2) 0 0 yX6_isCommand cX6_isCommand 1 (some .boolean) [.ref 94] b Y M (.inl (some (.int (0)))) (gM2 M n a 109) := by
  refine Con.of (by decide +kernel) (Nat.le_of_ble_eq_true rfl) rfl fun p l e s m args below meth c D tyc A ad0 x hr htab hname => ?_
  change JJ _ _ _ _ _ _ _ _ _ _ _ _ _ _ _ _ _ 0 [some (.ref 94)] [] _ 0 0
  refine j_aload_n x dX6_isCommand_0 rfl ?_
  refine j2_geti (k := 10) x hb dX6_isCommand_1 jc_10 wfX6_188 (by decide) rfl ?_
  refine j_aload_n x dX6_isCommand_4 rfl ?_
  refine j2_geti (k := 9) x hb dX6_isCommand_5 jc_10 wfX6_185 (by decide) rfl ?_
  refine j_icmp_ne (tgt := 13) x dX6_isCommand_8 (by decide) (fun hc => ?_) (fun hc => absurd hc (by rw [hat, h9]; exact fun q => by have := congrArg Int32.toNatClampNeg q; rw [nI_clamp (by omega), nI_clamp (by omega)] at this; omega))
  refine j_aload_n x dX6_isCommand_13 rfl ?_
  refine j_aload_n x dX6_isCommand_14 rfl ?_
  refine j2_getr (k := 8) (r := 100) x hb dX6_isCommand_15 jc_10 wfX6_25 (by decide) rfl ?_
  refine j_aload_n x dX6_isCommand_18 rfl ?_
  refine j2_geti (k := 10) x hb dX6_isCommand_19 jc_10 wfX6_188 (by decide) rfl ?_
  refine j2_cald x hb dX6_isCommand_22 rfl (n := 60) (v := 109) (by rw [hat]; exact vp_in_nI (by omega) (by decide)) (by rw [hat, nI_clamp (by omega)]; rw [tsg, if_pos hlt] at hL; exact hL) ?_
  refine j2_puti (k := 11) x hb dX6_isCommand_23 jc_10 wfX6_191 (by decide) rfl (by decide) rfl rfl ?_
  refine j_aload_n x dX6_isCommand_26 rfl ?_
  refine j2_geti (k := 11) x hb dX6_isCommand_27 jc_10 wfX6_191 (by decide) rfl ?_; rw [jm_s]
  refine j_lookup (off := 50) (tgt := 80) x dX6_isCommand_30 (by decide) (by decide) (by decide) ?_
  refine j_aload_n x dX6_isCommand_80 rfl ?_
  refine j_dup x dX6_isCommand_81 rfl ?_
  refine j2_geti (k := 10) x hb dX6_isCommand_82 jc_10 wfX6_188 (by decide) rfl ?_
  refine j_iconst (v := 1) x dX6_isCommand_85 (by decide) ?_
  refine j_iadd x dX6_isCommand_86 ?_
  refine j2_puti (k := 10) x hb dX6_isCommand_87 jc_10 wfX6_188 (by decide) rfl rfl rfl rfl ?_; rw [show jm (jm M 94 11 109) 94 10 (jm M 94 11 109 94 10 + 1) = gB M a 109 from by rw [jm_n (by omega), hat, nI_1]; rfl]
  refine j_aload_n x dX6_isCommand_90 rfl ?_
  refine j_iconst (v := 0) x dX6_isCommand_91 (by decide) ?_
  refine j2_callVi x hb dX6_isCommand_92 m_X6_number (CM_v (cx_number (d := d) hb (k := 0) (by decide) hn ((gB_n (by omega)).trans h9) gB_p (show a + 1 ≤ n by omega)) (jb_t (by rw [gB_t]; exact g1))) wmX6_195 jc_10 rfl rfl rfl (Nat.le_of_ble_eq_true rfl) (j_fit_rm (by omega) (by omega) (by omega)) rfl ?_
  refine j_if_eq (tgt := 136) x dX6_isCommand_95 (by decide) (fun hc => absurd hc (by decide)) (fun hc => ?_)
  refine j_aload_n x dX6_isCommand_98 rfl ?_
  refine j_bipush (v := 61) x dX6_isCommand_99 (by decide) ?_
  refine j2_callVi x hb dX6_isCommand_101 m_X6_isNext (cx_isNext_Y (M := gM1 M n a 109) (d := d) (ch := 61) hb hn ((gM1_n (by omega) (by omega)).trans h9) gM1_p (tna_le (show a + 1 ≤ n by omega)) (by decide) (by rw [gM1_t]; exact g2)) wmX6_198 jc_10 rfl rfl rfl (Nat.le_of_ble_eq_true rfl) (j_fit_rm (by omega) (by omega) (by omega)) rfl ?_
  refine j_if_eq (tgt := 136) x dX6_isCommand_104 (by decide) (fun hc => absurd hc (by decide)) (fun hc => ?_)
  refine j_aload_n x dX6_isCommand_107 rfl ?_
  refine j_iconst (v := 1) x dX6_isCommand_108 (by decide) ?_
  refine j2_callVi x hb dX6_isCommand_109 m_X6_number (CM_v (cx_number (M := jm (gM1 M n a 109) 94 10 (nI (tna (M 100) n (a + 1) + 1))) (d := d) hb (k := 1) (by decide) hn ((jm_n (by omega)).trans ((gM1_n (by omega) (by omega)).trans h9)) jm_s (tsg_lt g2 (by decide))) (jb_f (fun z => z (by rw [jmt, gM1_t]; exact g3)))) wmX6_195 jc_10 rfl rfl rfl (Nat.le_of_ble_eq_true rfl) (j_fit_rm (by omega) (by omega) (by omega)) rfl ?_
  refine j_if_eq (tgt := 136) x dX6_isCommand_112 (by decide) (fun hc => ?_) (fun hc => absurd (rfl) hc)
  refine j_iconst (v := 0) x dX6_isCommand_136 (by decide) ?_
  exact j_zreturn x hr dX6_isCommand_137 (by first | decide | with_reducible exact jb_nar | with_reducible exact jisS_nar | with_reducible exact gno_nar) (by omega) (by omega) ⟨rfl, rfl⟩
theorem cx_isCommand_m4 {d : Nat} {b : SBt} {Y : OUt} {M : MM} (hb : 104 ≤ b.2.1) {a n : Nat} (hn : n ≤ 60) (h9 : M 94 9 = nI n) (hat : M 94 10 = nI a) (hlt : a < n) (hL : tsg (M 100) n a = 109) (g1 : ¬ tnv (M 100) n (a + 1) = -1) (g2 : tsg (M 100) n (tna (M 100) n (a + 1)) = 61) (g3 : ¬ tnv (M 100) n (tna (M 100) n (a + 1) + 1) = -1) (g4 : ¬ tsg (M 100) n (tna (M 100) n (tna (M 100) n (a + 1) + 1)) = 58) : CM (d + 2) 0 0 yX6_isCommand cX6_isCommand 1 (some .boolean) [.ref 94] b Y M (.inl (some (.int (0)))) (gM2 M n a 109) := by
  refine Con.of (by decide +kernel) (Nat.le_of_ble_eq_true rfl) rfl fun p l e s m args below meth c D tyc A ad0 x hr htab hname => ?_
  change JJ _ _ _ _ _ _ _ _ _ _ _ _ _ _ _ _ _ 0 [some (.ref 94)] [] _ 0 0
  refine j_aload_n x dX6_isCommand_0 rfl ?_
  refine j2_geti (k := 10) x hb dX6_isCommand_1 jc_10 wfX6_188 (by decide) rfl ?_
  refine j_aload_n x dX6_isCommand_4 rfl ?_
  refine j2_geti (k := 9) x hb dX6_isCommand_5 jc_10 wfX6_185 (by decide) rfl ?_
  refine j_icmp_ne (tgt := 13) x dX6_isCommand_8 (by decide) (fun hc => ?_) (fun hc => absurd hc (by rw [hat, h9]; exact fun q => by have := congrArg Int32.toNatClampNeg q; rw [nI_clamp (by omega), nI_clamp (by omega)] at this; omega))
  refine j_aload_n x dX6_isCommand_13 rfl ?_
  refine j_aload_n x dX6_isCommand_14 rfl ?_
  refine j2_getr (k := 8) (r := 100) x hb dX6_isCommand_15 jc_10 wfX6_25 (by decide) rfl ?_
  refine j_aload_n x dX6_isCommand_18 rfl ?_
  refine j2_geti (k := 10) x hb dX6_isCommand_19 jc_10 wfX6_188 (by decide) rfl ?_
  refine j2_cald x hb dX6_isCommand_22 rfl (n := 60) (v := 109) (by rw [hat]; exact vp_in_nI (by omega) (by decide)) (by rw [hat, nI_clamp (by omega)]; rw [tsg, if_pos hlt] at hL; exact hL) ?_
  refine j2_puti (k := 11) x hb dX6_isCommand_23 jc_10 wfX6_191 (by decide) rfl (by decide) rfl rfl ?_
  refine j_aload_n x dX6_isCommand_26 rfl ?_
  refine j2_geti (k := 11) x hb dX6_isCommand_27 jc_10 wfX6_191 (by decide) rfl ?_; rw [jm_s]
  refine j_lookup (off := 50) (tgt := 80) x dX6_isCommand_30 (by decide) (by decide) (by decide) ?_
  refine j_aload_n x dX6_isCommand_80 rfl ?_
  refine j_dup x dX6_isCommand_81 rfl ?_
  refine j2_geti (k := 10) x hb dX6_isCommand_82 jc_10 wfX6_188 (by decide) rfl ?_
  refine j_iconst (v := 1) x dX6_isCommand_85 (by decide) ?_
  refine j_iadd x dX6_isCommand_86 ?_
  refine j2_puti (k := 10) x hb dX6_isCommand_87 jc_10 wfX6_188 (by decide) rfl rfl rfl rfl ?_; rw [show jm (jm M 94 11 109) 94 10 (jm M 94 11 109 94 10 + 1) = gB M a 109 from by rw [jm_n (by omega), hat, nI_1]; rfl]
  refine j_aload_n x dX6_isCommand_90 rfl ?_
  refine j_iconst (v := 0) x dX6_isCommand_91 (by decide) ?_
  refine j2_callVi x hb dX6_isCommand_92 m_X6_number (CM_v (cx_number (d := d) hb (k := 0) (by decide) hn ((gB_n (by omega)).trans h9) gB_p (show a + 1 ≤ n by omega)) (jb_t (by rw [gB_t]; exact g1))) wmX6_195 jc_10 rfl rfl rfl (Nat.le_of_ble_eq_true rfl) (j_fit_rm (by omega) (by omega) (by omega)) rfl ?_
  refine j_if_eq (tgt := 136) x dX6_isCommand_95 (by decide) (fun hc => absurd hc (by decide)) (fun hc => ?_)
  refine j_aload_n x dX6_isCommand_98 rfl ?_
  refine j_bipush (v := 61) x dX6_isCommand_99 (by decide) ?_
  refine j2_callVi x hb dX6_isCommand_101 m_X6_isNext (cx_isNext_Y (M := gM1 M n a 109) (d := d) (ch := 61) hb hn ((gM1_n (by omega) (by omega)).trans h9) gM1_p (tna_le (show a + 1 ≤ n by omega)) (by decide) (by rw [gM1_t]; exact g2)) wmX6_198 jc_10 rfl rfl rfl (Nat.le_of_ble_eq_true rfl) (j_fit_rm (by omega) (by omega) (by omega)) rfl ?_
  refine j_if_eq (tgt := 136) x dX6_isCommand_104 (by decide) (fun hc => absurd hc (by decide)) (fun hc => ?_)
  refine j_aload_n x dX6_isCommand_107 rfl ?_
  refine j_iconst (v := 1) x dX6_isCommand_108 (by decide) ?_
  refine j2_callVi x hb dX6_isCommand_109 m_X6_number (CM_v (cx_number (M := jm (gM1 M n a 109) 94 10 (nI (tna (M 100) n (a + 1) + 1))) (d := d) hb (k := 1) (by decide) hn ((jm_n (by omega)).trans ((gM1_n (by omega) (by omega)).trans h9)) jm_s (tsg_lt g2 (by decide))) (jb_t (by rw [jmt, gM1_t]; exact g3))) wmX6_195 jc_10 rfl rfl rfl (Nat.le_of_ble_eq_true rfl) (j_fit_rm (by omega) (by omega) (by omega)) rfl ?_
  refine j_if_eq (tgt := 136) x dX6_isCommand_112 (by decide) (fun hc => absurd hc (by decide)) (fun hc => ?_)
  refine j_aload_n x dX6_isCommand_115 rfl ?_
  refine j_bipush (v := 58) x dX6_isCommand_116 (by decide) ?_
  refine j2_callVi x hb dX6_isCommand_118 m_X6_isNext (cx_isNext_N (M := gM2 M n a 109) (d := d) (ch := 58) hb hn ((gM2_n (by omega) (by omega)).trans h9) gM2_p (tna_le (tsg_lt g2 (by decide))) (by rw [gM2_t]; exact g4)) wmX6_198 jc_10 rfl rfl rfl (Nat.le_of_ble_eq_true rfl) (j_fit_rm (by omega) (by omega) (by omega)) rfl ?_
  refine j_if_eq (tgt := 136) x dX6_isCommand_121 (by decide) (fun hc => ?_) (fun hc => absurd (rfl) hc)
  refine j_iconst (v := 0) x dX6_isCommand_136 (by decide) ?_
  exact j_zreturn x hr dX6_isCommand_137 (by first | decide | with_reducible exact jb_nar | with_reducible exact jisS_nar | with_reducible exact gno_nar) (by omega) (by omega) ⟨rfl, rfl⟩
theorem cx_isCommand_m5 {d : Nat} {b : SBt} {Y : OUt} {M : MM} (hb : 104 ≤ b.2.1) {a n : Nat} (hn : n ≤ 60) (h9 : M 94 9 = nI n) (hat : M 94 10 = nI a) (hlt : a < n) (hL : tsg (M 100) n a = 109) (g1 : ¬ tnv (M 100) n (a + 1) = -1) (g2 : tsg (M 100) n (tna (M 100) n (a + 1)) = 61) (g3 : ¬ tnv (M 100) n (tna (M 100) n (a + 1) + 1) = -1) (g4 : tsg (M 100) n (tna (M 100) n (tna (M 100) n (a + 1) + 1)) = 58) (g5 : tnv (M 100) n (tna (M 100) n (tna (M 100) n (a + 1) + 1) + 1) = -1) : CM (d + 2) 0 0 yX6_isCommand cX6_isCommand 1 (some .boolean) [.ref 94] b Y M (.inl (some (.int (0)))) (gM3 M n a 109) := by
  refine Con.of (by decide +kernel) (Nat.le_of_ble_eq_true rfl) rfl fun p l e s m args below meth c D tyc A ad0 x hr htab hname => ?_
  change JJ _ _ _ _ _ _ _ _ _ _ _ _ _ _ _ _ _ 0 [some (.ref 94)] [] _ 0 0
  refine j_aload_n x dX6_isCommand_0 rfl ?_
  refine j2_geti (k := 10) x hb dX6_isCommand_1 jc_10 wfX6_188 (by decide) rfl ?_
  refine j_aload_n x dX6_isCommand_4 rfl ?_
  refine j2_geti (k := 9) x hb dX6_isCommand_5 jc_10 wfX6_185 (by decide) rfl ?_
  refine j_icmp_ne (tgt := 13) x dX6_isCommand_8 (by decide) (fun hc => ?_) (fun hc => absurd hc (by rw [hat, h9]; exact fun q => by have := congrArg Int32.toNatClampNeg q; rw [nI_clamp (by omega), nI_clamp (by omega)] at this; omega))
  refine j_aload_n x dX6_isCommand_13 rfl ?_
  refine j_aload_n x dX6_isCommand_14 rfl ?_
  refine j2_getr (k := 8) (r := 100) x hb dX6_isCommand_15 jc_10 wfX6_25 (by decide) rfl ?_
  refine j_aload_n x dX6_isCommand_18 rfl ?_
  refine j2_geti (k := 10) x hb dX6_isCommand_19 jc_10 wfX6_188 (by decide) rfl ?_
  refine j2_cald x hb dX6_isCommand_22 rfl (n := 60) (v := 109) (by rw [hat]; exact vp_in_nI (by omega) (by decide)) (by rw [hat, nI_clamp (by omega)]; rw [tsg, if_pos hlt] at hL; exact hL) ?_
  refine j2_puti (k := 11) x hb dX6_isCommand_23 jc_10 wfX6_191 (by decide) rfl (by decide) rfl rfl ?_
  refine j_aload_n x dX6_isCommand_26 rfl ?_
  refine j2_geti (k := 11) x hb dX6_isCommand_27 jc_10 wfX6_191 (by decide) rfl ?_; rw [jm_s]
  refine j_lookup (off := 50) (tgt := 80) x dX6_isCommand_30 (by decide) (by decide) (by decide) ?_
  refine j_aload_n x dX6_isCommand_80 rfl ?_
  refine j_dup x dX6_isCommand_81 rfl ?_
  refine j2_geti (k := 10) x hb dX6_isCommand_82 jc_10 wfX6_188 (by decide) rfl ?_
  refine j_iconst (v := 1) x dX6_isCommand_85 (by decide) ?_
  refine j_iadd x dX6_isCommand_86 ?_
  refine j2_puti (k := 10) x hb dX6_isCommand_87 jc_10 wfX6_188 (by decide) rfl rfl rfl rfl ?_; rw [show jm (jm M 94 11 109) 94 10 (jm M 94 11 109 94 10 + 1) = gB M a 109 from by rw [jm_n (by omega), hat, nI_1]; rfl]
  refine j_aload_n x dX6_isCommand_90 rfl ?_
  refine j_iconst (v := 0) x dX6_isCommand_91 (by decide) ?_
  refine j2_callVi x hb dX6_isCommand_92 m_X6_number (CM_v (cx_number (d := d) hb (k := 0) (by decide) hn ((gB_n (by omega)).trans h9) gB_p (show a + 1 ≤ n by omega)) (jb_t (by rw [gB_t]; exact g1))) wmX6_195 jc_10 rfl rfl rfl (Nat.le_of_ble_eq_true rfl) (j_fit_rm (by omega) (by omega) (by omega)) rfl ?_
  refine j_if_eq (tgt := 136) x dX6_isCommand_95 (by decide) (fun hc => absurd hc (by decide)) (fun hc => ?_)
  refine j_aload_n x dX6_isCommand_98 rfl ?_
  refine j_bipush (v := 61) x dX6_isCommand_99 (by decide) ?_
  refine j2_callVi x hb dX6_isCommand_101 m_X6_isNext (cx_isNext_Y (M := gM1 M n a 109) (d := d) (ch := 61) hb hn ((gM1_n (by omega) (by omega)).trans h9) gM1_p (tna_le (show a + 1 ≤ n by omega)) (by decide) (by rw [gM1_t]; exact g2)) wmX6_198 jc_10 rfl rfl rfl (Nat.le_of_ble_eq_true rfl) (j_fit_rm (by omega) (by omega) (by omega)) rfl ?_
  refine j_if_eq (tgt := 136) x dX6_isCommand_104 (by decide) (fun hc => absurd hc (by decide)) (fun hc => ?_)
  refine j_aload_n x dX6_isCommand_107 rfl ?_
  refine j_iconst (v := 1) x dX6_isCommand_108 (by decide) ?_
  refine j2_callVi x hb dX6_isCommand_109 m_X6_number (CM_v (cx_number (M := jm (gM1 M n a 109) 94 10 (nI (tna (M 100) n (a + 1) + 1))) (d := d) hb (k := 1) (by decide) hn ((jm_n (by omega)).trans ((gM1_n (by omega) (by omega)).trans h9)) jm_s (tsg_lt g2 (by decide))) (jb_t (by rw [jmt, gM1_t]; exact g3))) wmX6_195 jc_10 rfl rfl rfl (Nat.le_of_ble_eq_true rfl) (j_fit_rm (by omega) (by omega) (by omega)) rfl ?_
  refine j_if_eq (tgt := 136) x dX6_isCommand_112 (by decide) (fun hc => absurd hc (by decide)) (fun hc => ?_)
  refine j_aload_n x dX6_isCommand_115 rfl ?_
  refine j_bipush (v := 58) x dX6_isCommand_116 (by decide) ?_
  refine j2_callVi x hb dX6_isCommand_118 m_X6_isNext (cx_isNext_Y (M := gM2 M n a 109) (d := d) (ch := 58) hb hn ((gM2_n (by omega) (by omega)).trans h9) gM2_p (tna_le (tsg_lt g2 (by decide))) (by decide) (by rw [gM2_t]; exact g4)) wmX6_198 jc_10 rfl rfl rfl (Nat.le_of_ble_eq_true rfl) (j_fit_rm (by omega) (by omega) (by omega)) rfl ?_
  refine j_if_eq (tgt := 136) x dX6_isCommand_121 (by decide) (fun hc => absurd hc (by decide)) (fun hc => ?_)
  refine j_aload_n x dX6_isCommand_124 rfl ?_
  refine j_iconst (v := 2) x dX6_isCommand_125 (by decide) ?_
  refine j2_callVi x hb dX6_isCommand_126 m_X6_number (CM_v (cx_number (M := jm (gM2 M n a 109) 94 10 (nI (tna (M 100) n (tna (M 100) n (a + 1) + 1) + 1))) (d := d) hb (k := 2) (by decide) hn ((jm_n (by omega)).trans ((gM2_n (by omega) (by omega)).trans h9)) jm_s (tsg_lt g4 (by decide))) (jb_f (fun z => z (by rw [jmt, gM2_t]; exact g5)))) wmX6_195 jc_10 rfl rfl rfl (Nat.le_of_ble_eq_true rfl) (j_fit_rm (by omega) (by omega) (by omega)) rfl ?_
  refine j_if_eq (tgt := 136) x dX6_isCommand_129 (by decide) (fun hc => ?_) (fun hc => absurd (rfl) hc)
  refine j_iconst (v := 0) x dX6_isCommand_136 (by decide) ?_
  exact j_zreturn x hr dX6_isCommand_137 (by first | decide | with_reducible exact jb_nar | with_reducible exact jisS_nar | with_reducible exact gno_nar) (by omega) (by omega) ⟨rfl, rfl⟩
theorem cx_isCommand_m6 {d : Nat} {b : SBt} {Y : OUt} {M : MM} (hb : 104 ≤ b.2.1) {a n : Nat} (hn : n ≤ 60) (h9 : M 94 9 = nI n) (hat : M 94 10 = nI a) (hlt : a < n) (hL : tsg (M 100) n a = 109) (g1 : ¬ tnv (M 100) n (a + 1) = -1) (g2 : tsg (M 100) n (tna (M 100) n (a + 1)) = 61) (g3 : ¬ tnv (M 100) n (tna (M 100) n (a + 1) + 1) = -1) (g4 : tsg (M 100) n (tna (M 100) n (tna (M 100) n (a + 1) + 1)) = 58) (g5 : ¬ tnv (M 100) n (tna (M 100) n (tna (M 100) n (a + 1) + 1) + 1) = -1) : CM (d + 2) 0 0 yX6_isCommand cX6_isCommand 1 (some .boolean) [.ref 94] b Y M (.inl (some (.int (1)))) (gM3 M n a 109) := by
  refine Con.of (by decide +kernel) (Nat.le_of_ble_eq_true rfl) rfl fun p l e s m args below meth c D tyc A ad0 x hr htab hname => ?_
  change JJ _ _ _ _ _ _ _ _ _ _ _ _ _ _ _ _ _ 0 [some (.ref 94)] [] _ 0 0
  refine j_aload_n x dX6_isCommand_0 rfl ?_
  refine j2_geti (k := 10) x hb dX6_isCommand_1 jc_10 wfX6_188 (by decide) rfl ?_
  refine j_aload_n x dX6_isCommand_4 rfl ?_
  refine j2_geti (k := 9) x hb dX6_isCommand_5 jc_10 wfX6_185 (by decide) rfl ?_
  refine j_icmp_ne (tgt := 13) x dX6_isCommand_8 (by decide) (fun hc => ?_) (fun hc => absurd hc (by rw [hat, h9]; exact fun q => by have := congrArg Int32.toNatClampNeg q; rw [nI_clamp (by omega), nI_clamp (by omega)] at this; omega))
  refine j_aload_n x dX6_isCommand_13 rfl ?_
  refine j_aload_n x dX6_isCommand_14 rfl ?_
  refine j2_getr (k := 8) (r := 100) x hb dX6_isCommand_15 jc_10 wfX6_25 (by decide) rfl ?_
  refine j_aload_n x dX6_isCommand_18 rfl ?_
  refine j2_geti (k := 10) x hb dX6_isCommand_19 jc_10 wfX6_188 (by decide) rfl ?_
  refine j2_cald x hb dX6_isCommand_22 rfl (n := 60) (v := 109) (by rw [hat]; exact vp_in_nI (by omega) (by decide)) (by rw [hat, nI_clamp (by omega)]; rw [tsg, if_pos hlt] at hL; exact hL) ?_
  refine j2_puti (k := 11) x hb dX6_isCommand_23 jc_10 wfX6_191 (by decide) rfl (by decide) rfl rfl ?_
  refine j_aload_n x dX6_isCommand_26 rfl ?_
  refine j2_geti (k := 11) x hb dX6_isCommand_27 jc_10 wfX6_191 (by decide) rfl ?_; rw [jm_s]
  refine j_lookup (off := 50) (tgt := 80) x dX6_isCommand_30 (by decide) (by decide) (by decide) ?_
  refine j_aload_n x dX6_isCommand_80 rfl ?_
  refine j_dup x dX6_isCommand_81 rfl ?_
  refine j2_geti (k := 10) x hb dX6_isCommand_82 jc_10 wfX6_188 (by decide) rfl ?_
  refine j_iconst (v := 1) x dX6_isCommand_85 (by decide) ?_
  refine j_iadd x dX6_isCommand_86 ?_
  refine j2_puti (k := 10) x hb dX6_isCommand_87 jc_10 wfX6_188 (by decide) rfl rfl rfl rfl ?_; rw [show jm (jm M 94 11 109) 94 10 (jm M 94 11 109 94 10 + 1) = gB M a 109 from by rw [jm_n (by omega), hat, nI_1]; rfl]
  refine j_aload_n x dX6_isCommand_90 rfl ?_
  refine j_iconst (v := 0) x dX6_isCommand_91 (by decide) ?_
  refine j2_callVi x hb dX6_isCommand_92 m_X6_number (CM_v (cx_number (d := d) hb (k := 0) (by decide) hn ((gB_n (by omega)).trans h9) gB_p (show a + 1 ≤ n by omega)) (jb_t (by rw [gB_t]; exact g1))) wmX6_195 jc_10 rfl rfl rfl (Nat.le_of_ble_eq_true rfl) (j_fit_rm (by omega) (by omega) (by omega)) rfl ?_
  refine j_if_eq (tgt := 136) x dX6_isCommand_95 (by decide) (fun hc => absurd hc (by decide)) (fun hc => ?_)
  refine j_aload_n x dX6_isCommand_98 rfl ?_
  refine j_bipush (v := 61) x dX6_isCommand_99 (by decide) ?_
  refine j2_callVi x hb dX6_isCommand_101 m_X6_isNext (cx_isNext_Y (M := gM1 M n a 109) (d := d) (ch := 61) hb hn ((gM1_n (by omega) (by omega)).trans h9) gM1_p (tna_le (show a + 1 ≤ n by omega)) (by decide) (by rw [gM1_t]; exact g2)) wmX6_198 jc_10 rfl rfl rfl (Nat.le_of_ble_eq_true rfl) (j_fit_rm (by omega) (by omega) (by omega)) rfl ?_
  refine j_if_eq (tgt := 136) x dX6_isCommand_104 (by decide) (fun hc => absurd hc (by decide)) (fun hc => ?_)
  refine j_aload_n x dX6_isCommand_107 rfl ?_
  refine j_iconst (v := 1) x dX6_isCommand_108 (by decide) ?_
  refine j2_callVi x hb dX6_isCommand_109 m_X6_number (CM_v (cx_number (M := jm (gM1 M n a 109) 94 10 (nI (tna (M 100) n (a + 1) + 1))) (d := d) hb (k := 1) (by decide) hn ((jm_n (by omega)).trans ((gM1_n (by omega) (by omega)).trans h9)) jm_s (tsg_lt g2 (by decide))) (jb_t (by rw [jmt, gM1_t]; exact g3))) wmX6_195 jc_10 rfl rfl rfl (Nat.le_of_ble_eq_true rfl) (j_fit_rm (by omega) (by omega) (by omega)) rfl ?_
  refine j_if_eq (tgt := 136) x dX6_isCommand_112 (by decide) (fun hc => absurd hc (by decide)) (fun hc => ?_)
  refine j_aload_n x dX6_isCommand_115 rfl ?_
  refine j_bipush (v := 58) x dX6_isCommand_116 (by decide) ?_
  refine j2_callVi x hb dX6_isCommand_118 m_X6_isNext (cx_isNext_Y (M := gM2 M n a 109) (d := d) (ch := 58) hb hn ((gM2_n (by omega) (by omega)).trans h9) gM2_p (tna_le (tsg_lt g2 (by decide))) (by decide) (by rw [gM2_t]; exact g4)) wmX6_198 jc_10 rfl rfl rfl (Nat.le_of_ble_eq_true rfl) (j_fit_rm (by omega) (by omega) (by omega)) rfl ?_
  refine j_if_eq (tgt := 136) x dX6_isCommand_121 (by decide) (fun hc => absurd hc (by decide)) (fun hc => ?_)
  refine j_aload_n x dX6_isCommand_124 rfl ?_
  refine j_iconst (v := 2) x dX6_isCommand_125 (by decide) ?_
  refine j2_callVi x hb dX6_isCommand_126 m_X6_number (CM_v (cx_number (M := jm (gM2 M n a 109) 94 10 (nI (tna (M 100) n (tna (M 100) n (a + 1) + 1) + 1))) (d := d) hb (k := 2) (by decide) hn ((jm_n (by omega)).trans ((gM2_n (by omega) (by omega)).trans h9)) jm_s (tsg_lt g4 (by decide))) (jb_t (by rw [jmt, gM2_t]; exact g5))) wmX6_195 jc_10 rfl rfl rfl (Nat.le_of_ble_eq_true rfl) (j_fit_rm (by omega) (by omega) (by omega)) rfl ?_
  refine j_if_eq (tgt := 136) x dX6_isCommand_129 (by decide) (fun hc => absurd hc (by decide)) (fun hc => ?_)
  refine j_iconst (v := 1) x dX6_isCommand_132 (by decide) ?_
  refine j_goto (tgt := 137) x dX6_isCommand_133 (by decide) ?_
  exact j_zreturn x hr dX6_isCommand_137 (by first | decide | with_reducible exact jb_nar | with_reducible exact jisS_nar | with_reducible exact gno_nar) (by omega) (by omega) ⟨rfl, rfl⟩
theorem cx_isCommand_b1 {d : Nat} {b : SBt} {Y : OUt} {M : MM} (hb : 104 ≤ b.2.1) {a n : Nat} (hn : n ≤ 60) (h9 : M 94 9 = nI n) (hat : M 94 10 = nI a) (hlt : a < n) (hL : tsg (M 100) n a = 98) (g1 : tnv (M 100) n (a + 1) = -1) : CM (d + 2) 0 0 yX6_isCommand cX6_isCommand 1 (some .boolean) [.ref 94] b Y M (.inl (some (.int (0)))) (gM1 M n a 98) := by
  refine Con.of (by decide +kernel) (Nat.le_of_ble_eq_true rfl) rfl fun p l e s m args below meth c D tyc A ad0 x hr htab hname => ?_
  change JJ _ _ _ _ _ _ _ _ _ _ _ _ _ _ _ _ _ 0 [some (.ref 94)] [] _ 0 0
  refine j_aload_n x dX6_isCommand_0 rfl ?_
  refine j2_geti (k := 10) x hb dX6_isCommand_1 jc_10 wfX6_188 (by decide) rfl ?_
  refine j_aload_n x dX6_isCommand_4 rfl ?_
  refine j2_geti (k := 9) x hb dX6_isCommand_5 jc_10 wfX6_185 (by decide) rfl ?_
  refine j_icmp_ne (tgt := 13) x dX6_isCommand_8 (by decide) (fun hc => ?_) (fun hc => absurd hc (by rw [hat, h9]; exact fun q => by have := congrArg Int32.toNatClampNeg q; rw [nI_clamp (by omega), nI_clamp (by omega)] at this; omega))
  refine j_aload_n x dX6_isCommand_13 rfl ?_
  refine j_aload_n x dX6_isCommand_14 rfl ?_
  refine j2_getr (k := 8) (r := 100) x hb dX6_isCommand_15 jc_10 wfX6_25 (by decide) rfl ?_
  refine j_aload_n x dX6_isCommand_18 rfl ?_
  refine j2_geti (k := 10) x hb dX6_isCommand_19 jc_10 wfX6_188 (by decide) rfl ?_
  refine j2_cald x hb dX6_isCommand_22 rfl (n := 60) (v := 98) (by rw [hat]; exact vp_in_nI (by omega) (by decide)) (by rw [hat, nI_clamp (by omega)]; rw [tsg, if_pos hlt] at hL; exact hL) ?_
  refine j2_puti (k := 11) x hb dX6_isCommand_23 jc_10 wfX6_191 (by decide) rfl (by decide) rfl rfl ?_
  refine j_aload_n x dX6_isCommand_26 rfl ?_
  refine j2_geti (k := 11) x hb dX6_isCommand_27 jc_10 wfX6_191 (by decide) rfl ?_; rw [jm_s]
  refine j_lookup (off := 108) (tgt := 138) x dX6_isCommand_30 (by decide) (by decide) (by decide) ?_
  refine j_aload_n x dX6_isCommand_138 rfl ?_
  refine j_dup x dX6_isCommand_139 rfl ?_
  refine j2_geti (k := 10) x hb dX6_isCommand_140 jc_10 wfX6_188 (by decide) rfl ?_
  refine j_iconst (v := 1) x dX6_isCommand_143 (by decide) ?_
  refine j_iadd x dX6_isCommand_144 ?_
  refine j2_puti (k := 10) x hb dX6_isCommand_145 jc_10 wfX6_188 (by decide) rfl rfl rfl rfl ?_; rw [show jm (jm M 94 11 98) 94 10 (jm M 94 11 98 94 10 + 1) = gB M a 98 from by rw [jm_n (by omega), hat, nI_1]; rfl]
  refine j_aload_n x dX6_isCommand_148 rfl ?_
  refine j_iconst (v := 0) x dX6_isCommand_149 (by decide) ?_
  refine j2_callVi x hb dX6_isCommand_150 m_X6_number (CM_v (cx_number (d := d) hb (k := 0) (by decide) hn ((gB_n (by omega)).trans h9) gB_p (show a + 1 ≤ n by omega)) (jb_f (fun z => z (by rw [gB_t]; exact g1)))) wmX6_195 jc_10 rfl rfl rfl (Nat.le_of_ble_eq_true rfl) (j_fit_rm (by omega) (by omega) (by omega)) rfl ?_
  exact j_zreturn x hr dX6_isCommand_153 (by first | decide | with_reducible exact jb_nar | with_reducible exact jisS_nar | with_reducible exact gno_nar) (by omega) (by omega) ⟨rfl, rfl⟩
theorem cx_isCommand_b2 {d : Nat} {b : SBt} {Y : OUt} {M : MM} (hb : 104 ≤ b.2.1) {a n : Nat} (hn : n ≤ 60) (h9 : M 94 9 = nI n) (hat : M 94 10 = nI a) (hlt : a < n) (hL : tsg (M 100) n a = 98) (g1 : ¬ tnv (M 100) n (a + 1) = -1) : CM (d + 2) 0 0 yX6_isCommand cX6_isCommand 1 (some .boolean) [.ref 94] b Y M (.inl (some (.int (1)))) (gM1 M n a 98) := by
  refine Con.of (by decide +kernel) (Nat.le_of_ble_eq_true rfl) rfl fun p l e s m args below meth c D tyc A ad0 x hr htab hname => ?_
  change JJ _ _ _ _ _ _ _ _ _ _ _ _ _ _ _ _ _ 0 [some (.ref 94)] [] _ 0 0
  refine j_aload_n x dX6_isCommand_0 rfl ?_
  refine j2_geti (k := 10) x hb dX6_isCommand_1 jc_10 wfX6_188 (by decide) rfl ?_
  refine j_aload_n x dX6_isCommand_4 rfl ?_
  refine j2_geti (k := 9) x hb dX6_isCommand_5 jc_10 wfX6_185 (by decide) rfl ?_
  refine j_icmp_ne (tgt := 13) x dX6_isCommand_8 (by decide) (fun hc => ?_) (fun hc => absurd hc (by rw [hat, h9]; exact fun q => by have := congrArg Int32.toNatClampNeg q; rw [nI_clamp (by omega), nI_clamp (by omega)] at this; omega))
  refine j_aload_n x dX6_isCommand_13 rfl ?_
  refine j_aload_n x dX6_isCommand_14 rfl ?_
  refine j2_getr (k := 8) (r := 100) x hb dX6_isCommand_15 jc_10 wfX6_25 (by decide) rfl ?_
  refine j_aload_n x dX6_isCommand_18 rfl ?_
  refine j2_geti (k := 10) x hb dX6_isCommand_19 jc_10 wfX6_188 (by decide) rfl ?_
  refine j2_cald x hb dX6_isCommand_22 rfl (n := 60) (v := 98) (by rw [hat]; exact vp_in_nI (by omega) (by decide)) (by rw [hat, nI_clamp (by omega)]; rw [tsg, if_pos hlt] at hL; exact hL) ?_
  refine j2_puti (k := 11) x hb dX6_isCommand_23 jc_10 wfX6_191 (by decide) rfl (by decide) rfl rfl ?_
  refine j_aload_n x dX6_isCommand_26 rfl ?_
  refine j2_geti (k := 11) x hb dX6_isCommand_27 jc_10 wfX6_191 (by decide) rfl ?_; rw [jm_s]
  refine j_lookup (off := 108) (tgt := 138) x dX6_isCommand_30 (by decide) (by decide) (by decide) ?_
  refine j_aload_n x dX6_isCommand_138 rfl ?_
  refine j_dup x dX6_isCommand_139 rfl ?_
  refine j2_geti (k := 10) x hb dX6_isCommand_140 jc_10 wfX6_188 (by decide) rfl ?_
  refine j_iconst (v := 1) x dX6_isCommand_143 (by decide) ?_
  refine j_iadd x dX6_isCommand_144 ?_
  refine j2_puti (k := 10) x hb dX6_isCommand_145 jc_10 wfX6_188 (by decide) rfl rfl rfl rfl ?_; rw [show jm (jm M 94 11 98) 94 10 (jm M 94 11 98 94 10 + 1) = gB M a 98 from by rw [jm_n (by omega), hat, nI_1]; rfl]
  refine j_aload_n x dX6_isCommand_148 rfl ?_
  refine j_iconst (v := 0) x dX6_isCommand_149 (by decide) ?_
  refine j2_callVi x hb dX6_isCommand_150 m_X6_number (CM_v (cx_number (d := d) hb (k := 0) (by decide) hn ((gB_n (by omega)).trans h9) gB_p (show a + 1 ≤ n by omega)) (jb_t (by rw [gB_t]; exact g1))) wmX6_195 jc_10 rfl rfl rfl (Nat.le_of_ble_eq_true rfl) (j_fit_rm (by omega) (by omega) (by omega)) rfl ?_
  exact j_zreturn x hr dX6_isCommand_153 (by first | decide | with_reducible exact jb_nar | with_reducible exact jisS_nar | with_reducible exact gno_nar) (by omega) (by omega) ⟨rfl, rfl⟩
theorem cx_isCommand_o1 {d : Nat} {b : SBt} {Y : OUt} {M : MM} (hb : 104 ≤ b.2.1) {a n : Nat} (hn : n ≤ 60) (h9 : M 94 9 = nI n) (hat : M 94 10 = nI a) (hlt : a < n) (hL : tsg (M 100) n a = 111) (g1 : tnv (M 100) n (a + 1) = -1) : CM (d + 2) 0 0 yX6_isCommand cX6_isCommand 1 (some .boolean) [.ref 94] b Y M (.inl (some (.int (0)))) (gM1 M n a 111) := by
  refine Con.of (by decide +kernel) (Nat.le_of_ble_eq_true rfl) rfl fun p l e s m args below meth c D tyc A ad0 x hr htab hname => ?_
  change JJ _ _ _ _ _ _ _ _ _ _ _ _ _ _ _ _ _ 0 [some (.ref 94)] [] _ 0 0
  refine j_aload_n x dX6_isCommand_0 rfl ?_
  refine j2_geti (k := 10) x hb dX6_isCommand_1 jc_10 wfX6_188 (by decide) rfl ?_
  refine j_aload_n x dX6_isCommand_4 rfl ?_
  refine j2_geti (k := 9) x hb dX6_isCommand_5 jc_10 wfX6_185 (by decide) rfl ?_
  refine j_icmp_ne (tgt := 13) x dX6_isCommand_8 (by decide) (fun hc => ?_) (fun hc => absurd hc (by rw [hat, h9]; exact fun q => by have := congrArg Int32.toNatClampNeg q; rw [nI_clamp (by omega), nI_clamp (by omega)] at this; omega))
  refine j_aload_n x dX6_isCommand_13 rfl ?_
  refine j_aload_n x dX6_isCommand_14 rfl ?_
  refine j2_getr (k := 8) (r := 100) x hb dX6_isCommand_15 jc_10 wfX6_25 (by decide) rfl ?_
  refine j_aload_n x dX6_isCommand_18 rfl ?_
  refine j2_geti (k := 10) x hb dX6_isCommand_19 jc_10 wfX6_188 (by decide) rfl ?_
  refine j2_cald x hb dX6_isCommand_22 rfl (n := 60) (v := 111) (by rw [hat]; exact vp_in_nI (by omega) (by decide)) (by rw [hat, nI_clamp (by omega)]; rw [tsg, if_pos hlt] at hL; exact hL) ?_
  refine j2_puti (k := 11) x hb dX6_isCommand_23 jc_10 wfX6_191 (by decide) rfl (by decide) rfl rfl ?_
  refine j_aload_n x dX6_isCommand_26 rfl ?_
  refine j2_geti (k := 11) x hb dX6_isCommand_27 jc_10 wfX6_191 (by decide) rfl ?_; rw [jm_s]
  refine j_lookup (off := 124) (tgt := 154) x dX6_isCommand_30 (by decide) (by decide) (by decide) ?_
  refine j_aload_n x dX6_isCommand_154 rfl ?_
  refine j_dup x dX6_isCommand_155 rfl ?_
  refine j2_geti (k := 10) x hb dX6_isCommand_156 jc_10 wfX6_188 (by decide) rfl ?_
  refine j_iconst (v := 1) x dX6_isCommand_159 (by decide) ?_
  refine j_iadd x dX6_isCommand_160 ?_
  refine j2_puti (k := 10) x hb dX6_isCommand_161 jc_10 wfX6_188 (by decide) rfl rfl rfl rfl ?_; rw [show jm (jm M 94 11 111) 94 10 (jm M 94 11 111 94 10 + 1) = gB M a 111 from by rw [jm_n (by omega), hat, nI_1]; rfl]
  refine j_aload_n x dX6_isCommand_164 rfl ?_
  refine j_iconst (v := 0) x dX6_isCommand_165 (by decide) ?_
  refine j2_callVi x hb dX6_isCommand_166 m_X6_number (CM_v (cx_number (d := d) hb (k := 0) (by decide) hn ((gB_n (by omega)).trans h9) gB_p (show a + 1 ≤ n by omega)) (jb_f (fun z => z (by rw [gB_t]; exact g1)))) wmX6_195 jc_10 rfl rfl rfl (Nat.le_of_ble_eq_true rfl) (j_fit_rm (by omega) (by omega) (by omega)) rfl ?_
  refine j_if_eq (tgt := 193) x dX6_isCommand_169 (by decide) (fun hc => ?_) (fun hc => absurd (rfl) hc)
  refine j_iconst (v := 0) x dX6_isCommand_193 (by decide) ?_
  exact j_zreturn x hr dX6_isCommand_194 (by first | decide | with_reducible exact jb_nar | with_reducible exact jisS_nar | with_reducible exact gno_nar) (by omega) (by omega) ⟨rfl, rfl⟩
theorem cx_isCommand_o2 {d : Nat} {b : SBt} {Y : OUt} {M : MM} (hb : 104 ≤ b.2.1) {a n : Nat} (hn : n ≤ 60) (h9 : M 94 9 = nI n) (hat : M 94 10 = nI a) (hlt : a < n) (hL : tsg (M 100) n a = 111) (g1 : ¬ tnv (M 100) n (a + 1) = -1) (g2 : ¬ tsg (M 100) n (tna (M 100) n (a + 1)) = 43) : CM (d + 2) 0 0 yX6_isCommand cX6_isCommand 1 (some .boolean) [.ref 94] b Y M (.inl (some (.int (0)))) (gM1 M n a 111) := by
  refine Con.of (by decide +kernel) (Nat.le_of_ble_eq_true rfl) rfl fun p l e s m args below meth c D tyc A ad0 x hr htab hname => ?_
  change JJ _ _ _ _ _ _ _ _ _ _ _ _ _ _ _ _ _ 0 [some (.ref 94)] [] _ 0 0
  refine j_aload_n x dX6_isCommand_0 rfl ?_
  refine j2_geti (k := 10) x hb dX6_isCommand_1 jc_10 wfX6_188 (by decide) rfl ?_
  refine j_aload_n x dX6_isCommand_4 rfl ?_
  refine j2_geti (k := 9) x hb dX6_isCommand_5 jc_10 wfX6_185 (by decide) rfl ?_
  refine j_icmp_ne (tgt := 13) x dX6_isCommand_8 (by decide) (fun hc => ?_) (fun hc => absurd hc (by rw [hat, h9]; exact fun q => by have := congrArg Int32.toNatClampNeg q; rw [nI_clamp (by omega), nI_clamp (by omega)] at this; omega))
  refine j_aload_n x dX6_isCommand_13 rfl ?_
  refine j_aload_n x dX6_isCommand_14 rfl ?_
  refine j2_getr (k := 8) (r := 100) x hb dX6_isCommand_15 jc_10 wfX6_25 (by decide) rfl ?_
  refine j_aload_n x dX6_isCommand_18 rfl ?_
  refine j2_geti (k := 10) x hb dX6_isCommand_19 jc_10 wfX6_188 (by decide) rfl ?_
  refine j2_cald x hb dX6_isCommand_22 rfl (n := 60) (v := 111) (by rw [hat]; exact vp_in_nI (by omega) (by decide)) (by rw [hat, nI_clamp (by omega)]; rw [tsg, if_pos hlt] at hL; exact hL) ?_
  refine j2_puti (k := 11) x hb dX6_isCommand_23 jc_10 wfX6_191 (by decide) rfl (by decide) rfl rfl ?_
  refine j_aload_n x dX6_isCommand_26 rfl ?_
  refine j2_geti (k := 11) x hb dX6_isCommand_27 jc_10 wfX6_191 (by decide) rfl ?_; rw [jm_s]
  refine j_lookup (off := 124) (tgt := 154) x dX6_isCommand_30 (by decide) (by decide) (by decide) ?_
  refine j_aload_n x dX6_isCommand_154 rfl ?_
  refine j_dup x dX6_isCommand_155 rfl ?_
  refine j2_geti (k := 10) x hb dX6_isCommand_156 jc_10 wfX6_188 (by decide) rfl ?_
  refine j_iconst (v := 1) x dX6_isCommand_159 (by decide) ?_
  refine j_iadd x dX6_isCommand_160 ?_
  refine j2_puti (k := 10) x hb dX6_isCommand_161 jc_10 wfX6_188 (by decide) rfl rfl rfl rfl ?_; rw [show jm (jm M 94 11 111) 94 10 (jm M 94 11 111 94 10 + 1) = gB M a 111 from by rw [jm_n (by omega), hat, nI_1]; rfl]
  refine j_aload_n x dX6_isCommand_164 rfl ?_
  refine j_iconst (v := 0) x dX6_isCommand_165 (by decide) ?_
  refine j2_callVi x hb dX6_isCommand_166 m_X6_number (CM_v (cx_number (d := d) hb (k := 0) (by decide) hn ((gB_n (by omega)).trans h9) gB_p (show a + 1 ≤ n by omega)) (jb_t (by rw [gB_t]; exact g1))) wmX6_195 jc_10 rfl rfl rfl (Nat.le_of_ble_eq_true rfl) (j_fit_rm (by omega) (by omega) (by omega)) rfl ?_
  refine j_if_eq (tgt := 193) x dX6_isCommand_169 (by decide) (fun hc => absurd hc (by decide)) (fun hc => ?_)
  refine j_aload_n x dX6_isCommand_172 rfl ?_
  refine j_bipush (v := 43) x dX6_isCommand_173 (by decide) ?_
  refine j2_callVi x hb dX6_isCommand_175 m_X6_isNext (cx_isNext_N (M := gM1 M n a 111) (d := d) (ch := 43) hb hn ((gM1_n (by omega) (by omega)).trans h9) gM1_p (tna_le (show a + 1 ≤ n by omega)) (by rw [gM1_t]; exact g2)) wmX6_198 jc_10 rfl rfl rfl (Nat.le_of_ble_eq_true rfl) (j_fit_rm (by omega) (by omega) (by omega)) rfl ?_
  refine j_if_eq (tgt := 193) x dX6_isCommand_178 (by decide) (fun hc => ?_) (fun hc => absurd (rfl) hc)
  refine j_iconst (v := 0) x dX6_isCommand_193 (by decide) ?_
  exact j_zreturn x hr dX6_isCommand_194 (by first | decide | with_reducible exact jb_nar | with_reducible exact jisS_nar | with_reducible exact gno_nar) (by omega) (by omega) ⟨rfl, rfl⟩
theorem cx_isCommand_o3 {d : Nat} {b : SBt} {Y : OUt} {M : MM} (hb : 104 ≤ b.2.1) {a n : Nat} (hn : n ≤ 60) (h9 : M 94 9 = nI n) (hat : M 94 10 = nI a) (hlt : a < n) (hL : tsg (M 100) n a = 111) (g1 : ¬ tnv (M 100) n (a + 1) = -1) (g2 : tsg (M 100) n (tna (M 100) n (a + 1)) = 43) (g3 : tnv (M 100) n (tna (M 100) n (a + 1) + 1) = -1) : CM (d + 2) 0 0 yX6_isCommand cX6_isCommand 1 (some .boolean) [.ref 94] b Y M (.inl (some (.int (0)))) (gM2 M n a 111) := by
  refine Con.of (by decide +kernel) (Nat.le_of_ble_eq_true rfl) rfl fun p l e s m args below meth c D tyc A ad0 x hr htab hname => ?_
  change JJ _ _ _ _ _ _ _ _ _ _ _ _ _ _ _ _ _ 0 [some (.ref 94)] [] _ 0 0
  refine j_aload_n x dX6_isCommand_0 rfl ?_
  refine j2_geti (k := 10) x hb dX6_isCommand_1 jc_10 wfX6_188 (by decide) rfl ?_
  refine j_aload_n x dX6_isCommand_4 rfl ?_
  refine j2_geti (k := 9) x hb dX6_isCommand_5 jc_10 wfX6_185 (by decide) rfl ?_
  refine j_icmp_ne (tgt := 13) x dX6_isCommand_8 (by decide) (fun hc => ?_) (fun hc => absurd hc (by rw [hat, h9]; exact fun q => by have := congrArg Int32.toNatClampNeg q; rw [nI_clamp (by omega), nI_clamp (by omega)] at this; omega))
  refine j_aload_n x dX6_isCommand_13 rfl ?_
  refine j_aload_n x dX6_isCommand_14 rfl ?_
  refine j2_getr (k := 8) (r := 100) x hb dX6_isCommand_15 jc_10 wfX6_25 (by decide) rfl ?_
  refine j_aload_n x dX6_isCommand_18 rfl ?_
  refine j2_geti (k := 10) x hb dX6_isCommand_19 jc_10 wfX6_188 (by decide) rfl ?_
  refine j2_cald x hb dX6_isCommand_22 rfl (n := 60) (v := 111) (by rw [hat]; exact vp_in_nI (by omega) (by decide)) (by rw [hat, nI_clamp (by omega)]; rw [tsg, if_pos hlt] at hL; exact hL) ?_
  refine j2_puti (k := 11) x hb dX6_isCommand_23 jc_10 wfX6_191 (by decide) rfl (by decide) rfl rfl ?_
  refine j_aload_n x dX6_isCommand_26 rfl ?_
  refine j2_geti (k := 11) x hb dX6_isCommand_27 jc_10 wfX6_191 (by decide) rfl ?_; rw [jm_s]
  refine j_lookup (off := 124) (tgt := 154) x dX6_isCommand_30 (by decide) (by decide) (by decide) ?_
  refine j_aload_n x dX6_isCommand_154 rfl ?_
  refine j_dup x dX6_isCommand_155 rfl ?_
  refine j2_geti (k := 10) x hb dX6_isCommand_156 jc_10 wfX6_188 (by decide) rfl ?_
  refine j_iconst (v := 1) x dX6_isCommand_159 (by decide) ?_
  refine j_iadd x dX6_isCommand_160 ?_
  refine j2_puti (k := 10) x hb dX6_isCommand_161 jc_10 wfX6_188 (by decide) rfl rfl rfl rfl ?_; rw [show jm (jm M 94 11 111) 94 10 (jm M 94 11 111 94 10 + 1) = gB M a 111 from by rw [jm_n (by omega), hat, nI_1]; rfl]
  refine j_aload_n x dX6_isCommand_164 rfl ?_
  refine j_iconst (v := 0) x dX6_isCommand_165 (by decide) ?_
  refine j2_callVi x hb dX6_isCommand_166 m_X6_number (CM_v (cx_number (d := d) hb (k := 0) (by decide) hn ((gB_n (by omega)).trans h9) gB_p (show a + 1 ≤ n by omega)) (jb_t (by rw [gB_t]; exact g1))) wmX6_195 jc_10 rfl rfl rfl (Nat.le_of_ble_eq_true rfl) (j_fit_rm (by omega) (by omega) (by omega)) rfl ?_
  refine j_if_eq (tgt := 193) x dX6_isCommand_169 (by decide) (fun hc => absurd hc (by decide)) (fun hc => ?_)
  refine j_aload_n x dX6_isCommand_172 rfl ?_
  refine j_bipush (v := 43) x dX6_isCommand_173 (by decide) ?_
  refine j2_callVi x hb dX6_isCommand_175 m_X6_isNext (cx_isNext_Y (M := gM1 M n a 111) (d := d) (ch := 43) hb hn ((gM1_n (by omega) (by omega)).trans h9) gM1_p (tna_le (show a + 1 ≤ n by omega)) (by decide) (by rw [gM1_t]; exact g2)) wmX6_198 jc_10 rfl rfl rfl (Nat.le_of_ble_eq_true rfl) (j_fit_rm (by omega) (by omega) (by omega)) rfl ?_
  refine j_if_eq (tgt := 193) x dX6_isCommand_178 (by decide) (fun hc => absurd hc (by decide)) (fun hc => ?_)
  refine j_aload_n x dX6_isCommand_181 rfl ?_
  refine j_iconst (v := 1) x dX6_isCommand_182 (by decide) ?_
  refine j2_callVi x hb dX6_isCommand_183 m_X6_number (CM_v (cx_number (M := jm (gM1 M n a 111) 94 10 (nI (tna (M 100) n (a + 1) + 1))) (d := d) hb (k := 1) (by decide) hn ((jm_n (by omega)).trans ((gM1_n (by omega) (by omega)).trans h9)) jm_s (tsg_lt g2 (by decide))) (jb_f (fun z => z (by rw [jmt, gM1_t]; exact g3)))) wmX6_195 jc_10 rfl rfl rfl (Nat.le_of_ble_eq_true rfl) (j_fit_rm (by omega) (by omega) (by omega)) rfl ?_
  refine j_if_eq (tgt := 193) x dX6_isCommand_186 (by decide) (fun hc => ?_) (fun hc => absurd (rfl) hc)
  refine j_iconst (v := 0) x dX6_isCommand_193 (by decide) ?_
  exact j_zreturn x hr dX6_isCommand_194 (by first | decide | with_reducible exact jb_nar | with_reducible exact jisS_nar | with_reducible exact gno_nar) (by omega) (by omega) ⟨rfl, rfl⟩
theorem cx_isCommand_o4 {d : Nat} {b : SBt} {Y : OUt} {M : MM} (hb : 104 ≤ b.2.1) {a n : Nat} (hn : n ≤ 60) (h9 : M 94 9 = nI n) (hat : M 94 10 = nI a) (hlt : a < n) (hL : tsg (M 100) n a = 111) (g1 : ¬ tnv (M 100) n (a + 1) = -1) (g2 : tsg (M 100) n (tna (M 100) n (a + 1)) = 43) (g3 : ¬ tnv (M 100) n (tna (M 100) n (a + 1) + 1) = -1) : CM (d + 2) 0 0 yX6_isCommand cX6_isCommand 1 (some .boolean) [.ref 94] b Y M (.inl (some (.int (1)))) (gM2 M n a 111) := by
  refine Con.of (by decide +kernel) (Nat.le_of_ble_eq_true rfl) rfl fun p l e s m args below meth c D tyc A ad0 x hr htab hname => ?_
  change JJ _ _ _ _ _ _ _ _ _ _ _ _ _ _ _ _ _ 0 [some (.ref 94)] [] _ 0 0
  refine j_aload_n x dX6_isCommand_0 rfl ?_
  refine j2_geti (k := 10) x hb dX6_isCommand_1 jc_10 wfX6_188 (by decide) rfl ?_
  refine j_aload_n x dX6_isCommand_4 rfl ?_
  refine j2_geti (k := 9) x hb dX6_isCommand_5 jc_10 wfX6_185 (by decide) rfl ?_
  refine j_icmp_ne (tgt := 13) x dX6_isCommand_8 (by decide) (fun hc => ?_) (fun hc => absurd hc (by rw [hat, h9]; exact fun q => by have := congrArg Int32.toNatClampNeg q; rw [nI_clamp (by omega), nI_clamp (by omega)] at this; omega))
  refine j_aload_n x dX6_isCommand_13 rfl ?_
  refine j_aload_n x dX6_isCommand_14 rfl ?_
  refine j2_getr (k := 8) (r := 100) x hb dX6_isCommand_15 jc_10 wfX6_25 (by decide) rfl ?_
  refine j_aload_n x dX6_isCommand_18 rfl ?_
  refine j2_geti (k := 10) x hb dX6_isCommand_19 jc_10 wfX6_188 (by decide) rfl ?_
  refine j2_cald x hb dX6_isCommand_22 rfl (n := 60) (v := 111) (by rw [hat]; exact vp_in_nI (by omega) (by decide)) (by rw [hat, nI_clamp (by omega)]; rw [tsg, if_pos hlt] at hL; exact hL) ?_
  refine j2_puti (k := 11) x hb dX6_isCommand_23 jc_10 wfX6_191 (by decide) rfl (by decide) rfl rfl ?_
  refine j_aload_n x dX6_isCommand_26 rfl ?_
  refine j2_geti (k := 11) x hb dX6_isCommand_27 jc_10 wfX6_191 (by decide) rfl ?_; rw [jm_s]
  refine j_lookup (off := 124) (tgt := 154) x dX6_isCommand_30 (by decide) (by decide) (by decide) ?_
  refine j_aload_n x dX6_isCommand_154 rfl ?_
  refine j_dup x dX6_isCommand_155 rfl ?_
  refine j2_geti (k := 10) x hb dX6_isCommand_156 jc_10 wfX6_188 (by decide) rfl ?_
  refine j_iconst (v := 1) x dX6_isCommand_159 (by decide) ?_
  refine j_iadd x dX6_isCommand_160 ?_
  refine j2_puti (k := 10) x hb dX6_isCommand_161 jc_10 wfX6_188 (by decide) rfl rfl rfl rfl ?_; rw [show jm (jm M 94 11 111) 94 10 (jm M 94 11 111 94 10 + 1) = gB M a 111 from by rw [jm_n (by omega), hat, nI_1]; rfl]
  refine j_aload_n x dX6_isCommand_164 rfl ?_
  refine j_iconst (v := 0) x dX6_isCommand_165 (by decide) ?_
  refine j2_callVi x hb dX6_isCommand_166 m_X6_number (CM_v (cx_number (d := d) hb (k := 0) (by decide) hn ((gB_n (by omega)).trans h9) gB_p (show a + 1 ≤ n by omega)) (jb_t (by rw [gB_t]; exact g1))) wmX6_195 jc_10 rfl rfl rfl (Nat.le_of_ble_eq_true rfl) (j_fit_rm (by omega) (by omega) (by omega)) rfl ?_
  refine j_if_eq (tgt := 193) x dX6_isCommand_169 (by decide) (fun hc => absurd hc (by decide)) (fun hc => ?_)
  refine j_aload_n x dX6_isCommand_172 rfl ?_
  refine j_bipush (v := 43) x dX6_isCommand_173 (by decide) ?_
  refine j2_callVi x hb dX6_isCommand_175 m_X6_isNext (cx_isNext_Y (M := gM1 M n a 111) (d := d) (ch := 43) hb hn ((gM1_n (by omega) (by omega)).trans h9) gM1_p (tna_le (show a + 1 ≤ n by omega)) (by decide) (by rw [gM1_t]; exact g2)) wmX6_198 jc_10 rfl rfl rfl (Nat.le_of_ble_eq_true rfl) (j_fit_rm (by omega) (by omega) (by omega)) rfl ?_
  refine j_if_eq (tgt := 193) x dX6_isCommand_178 (by decide) (fun hc => absurd hc (by decide)) (fun hc => ?_)
  refine j_aload_n x dX6_isCommand_181 rfl ?_
  refine j_iconst (v := 1) x dX6_isCommand_182 (by decide) ?_
  refine j2_callVi x hb dX6_isCommand_183 m_X6_number (CM_v (cx_number (M := jm (gM1 M n a 111) 94 10 (nI (tna (M 100) n (a + 1) + 1))) (d := d) hb (k := 1) (by decide) hn ((jm_n (by omega)).trans ((gM1_n (by omega) (by omega)).trans h9)) jm_s (tsg_lt g2 (by decide))) (jb_t (by rw [jmt, gM1_t]; exact g3))) wmX6_195 jc_10 rfl rfl rfl (Nat.le_of_ble_eq_true rfl) (j_fit_rm (by omega) (by omega) (by omega)) rfl ?_
  refine j_if_eq (tgt := 193) x dX6_isCommand_186 (by decide) (fun hc => absurd hc (by decide)) (fun hc => ?_)
  refine j_iconst (v := 1) x dX6_isCommand_189 (by decide) ?_
  refine j_goto (tgt := 194) x dX6_isCommand_190 (by decide) ?_
  exact j_zreturn x hr dX6_isCommand_194 (by first | decide | with_reducible exact jb_nar | with_reducible exact jisS_nar | with_reducible exact gno_nar) (by omega) (by omega) ⟨rfl, rfl⟩
theorem cx_isCommand_n {d : Nat} {b : SBt} {Y : OUt} {M : MM} (hb : 104 ≤ b.2.1) {a n : Nat} (hn : n ≤ 60) (h9 : M 94 9 = nI n) (hat : M 94 10 = nI a) (hlt : a < n) (hL : tsg (M 100) n a = 110) : CM (d + 2) 0 0 yX6_isCommand cX6_isCommand 1 (some .boolean) [.ref 94] b Y M (.inl (some (.int (1)))) (gB M a 110) := by
  refine Con.of (by decide +kernel) (Nat.le_of_ble_eq_true rfl) rfl fun p l e s m args below meth c D tyc A ad0 x hr htab hname => ?_
  change JJ _ _ _ _ _ _ _ _ _ _ _ _ _ _ _ _ _ 0 [some (.ref 94)] [] _ 0 0
  refine j_aload_n x dX6_isCommand_0 rfl ?_
  refine j2_geti (k := 10) x hb dX6_isCommand_1 jc_10 wfX6_188 (by decide) rfl ?_
  refine j_aload_n x dX6_isCommand_4 rfl ?_
  refine j2_geti (k := 9) x hb dX6_isCommand_5 jc_10 wfX6_185 (by decide) rfl ?_
  refine j_icmp_ne (tgt := 13) x dX6_isCommand_8 (by decide) (fun hc => ?_) (fun hc => absurd hc (by rw [hat, h9]; exact fun q => by have := congrArg Int32.toNatClampNeg q; rw [nI_clamp (by omega), nI_clamp (by omega)] at this; omega))
  refine j_aload_n x dX6_isCommand_13 rfl ?_
  refine j_aload_n x dX6_isCommand_14 rfl ?_
  refine j2_getr (k := 8) (r := 100) x hb dX6_isCommand_15 jc_10 wfX6_25 (by decide) rfl ?_
  refine j_aload_n x dX6_isCommand_18 rfl ?_
  refine j2_geti (k := 10) x hb dX6_isCommand_19 jc_10 wfX6_188 (by decide) rfl ?_
  refine j2_cald x hb dX6_isCommand_22 rfl (n := 60) (v := 110) (by rw [hat]; exact vp_in_nI (by omega) (by decide)) (by rw [hat, nI_clamp (by omega)]; rw [tsg, if_pos hlt] at hL; exact hL) ?_
  refine j2_puti (k := 11) x hb dX6_isCommand_23 jc_10 wfX6_191 (by decide) rfl (by decide) rfl rfl ?_
  refine j_aload_n x dX6_isCommand_26 rfl ?_
  refine j2_geti (k := 11) x hb dX6_isCommand_27 jc_10 wfX6_191 (by decide) rfl ?_; rw [jm_s]
  refine j_lookup (off := 165) (tgt := 195) x dX6_isCommand_30 (by decide) (by decide) (by decide) ?_
  refine j_aload_n x dX6_isCommand_195 rfl ?_
  refine j_dup x dX6_isCommand_196 rfl ?_
  refine j2_geti (k := 10) x hb dX6_isCommand_197 jc_10 wfX6_188 (by decide) rfl ?_
  refine j_iconst (v := 1) x dX6_isCommand_200 (by decide) ?_
  refine j_iadd x dX6_isCommand_201 ?_
  refine j2_puti (k := 10) x hb dX6_isCommand_202 jc_10 wfX6_188 (by decide) rfl rfl rfl rfl ?_; rw [show jm (jm M 94 11 110) 94 10 (jm M 94 11 110 94 10 + 1) = gB M a 110 from by rw [jm_n (by omega), hat, nI_1]; rfl]
  refine j_iconst (v := 1) x dX6_isCommand_205 (by decide) ?_
  exact j_zreturn x hr dX6_isCommand_206 (by first | decide | with_reducible exact jb_nar | with_reducible exact jisS_nar | with_reducible exact gno_nar) (by omega) (by omega) ⟨rfl, rfl⟩
theorem cx_isCommand_t {d : Nat} {b : SBt} {Y : OUt} {M : MM} (hb : 104 ≤ b.2.1) {a n : Nat} (hn : n ≤ 60) (h9 : M 94 9 = nI n) (hat : M 94 10 = nI a) (hlt : a < n) (hL : tsg (M 100) n a = 116) : CM (d + 2) 0 0 yX6_isCommand cX6_isCommand 1 (some .boolean) [.ref 94] b Y M (.inl (some (.int (1)))) (gD3 (gB M a 116) n (a + 1)) := by
  refine Con.of (by decide +kernel) (Nat.le_of_ble_eq_true rfl) rfl fun p l e s m args below meth c D tyc A ad0 x hr htab hname => ?_
  change JJ _ _ _ _ _ _ _ _ _ _ _ _ _ _ _ _ _ 0 [some (.ref 94)] [] _ 0 0
  refine j_aload_n x dX6_isCommand_0 rfl ?_
  refine j2_geti (k := 10) x hb dX6_isCommand_1 jc_10 wfX6_188 (by decide) rfl ?_
  refine j_aload_n x dX6_isCommand_4 rfl ?_
  refine j2_geti (k := 9) x hb dX6_isCommand_5 jc_10 wfX6_185 (by decide) rfl ?_
  refine j_icmp_ne (tgt := 13) x dX6_isCommand_8 (by decide) (fun hc => ?_) (fun hc => absurd hc (by rw [hat, h9]; exact fun q => by have := congrArg Int32.toNatClampNeg q; rw [nI_clamp (by omega), nI_clamp (by omega)] at this; omega))
  refine j_aload_n x dX6_isCommand_13 rfl ?_
  refine j_aload_n x dX6_isCommand_14 rfl ?_
  refine j2_getr (k := 8) (r := 100) x hb dX6_isCommand_15 jc_10 wfX6_25 (by decide) rfl ?_
  refine j_aload_n x dX6_isCommand_18 rfl ?_
  refine j2_geti (k := 10) x hb dX6_isCommand_19 jc_10 wfX6_188 (by decide) rfl ?_
  refine j2_cald x hb dX6_isCommand_22 rfl (n := 60) (v := 116) (by rw [hat]; exact vp_in_nI (by omega) (by decide)) (by rw [hat, nI_clamp (by omega)]; rw [tsg, if_pos hlt] at hL; exact hL) ?_
  refine j2_puti (k := 11) x hb dX6_isCommand_23 jc_10 wfX6_191 (by decide) rfl (by decide) rfl rfl ?_
  refine j_aload_n x dX6_isCommand_26 rfl ?_
  refine j2_geti (k := 11) x hb dX6_isCommand_27 jc_10 wfX6_191 (by decide) rfl ?_; rw [jm_s]
  refine j_lookup (off := 177) (tgt := 207) x dX6_isCommand_30 (by decide) (by decide) (by decide) ?_
  refine j_aload_n x dX6_isCommand_207 rfl ?_
  refine j_dup x dX6_isCommand_208 rfl ?_
  refine j2_geti (k := 10) x hb dX6_isCommand_209 jc_10 wfX6_188 (by decide) rfl ?_
  refine j_iconst (v := 1) x dX6_isCommand_212 (by decide) ?_
  refine j_iadd x dX6_isCommand_213 ?_
  refine j2_puti (k := 10) x hb dX6_isCommand_214 jc_10 wfX6_188 (by decide) rfl rfl rfl rfl ?_; rw [show jm (jm M 94 11 116) 94 10 (jm M 94 11 116 94 10 + 1) = gB M a 116 from by rw [jm_n (by omega), hat, nI_1]; rfl]
  refine j_aload_n x dX6_isCommand_217 rfl ?_
  refine j2_callVi x hb dX6_isCommand_218 m_X6_digits (CM_st (cx_digits (d := d) hb hn ((gB_n (by omega)).trans h9) gB_p (show a + 1 ≤ n by omega)) (gDs_3 gB_p)) wmX6_202 jc_10 rfl rfl rfl (Nat.le_of_ble_eq_true rfl) (j_fit_rm (by omega) (by omega) (by omega)) rfl ?_
  exact j_zreturn x hr dX6_isCommand_221 (by first | decide | with_reducible exact jb_nar | with_reducible exact jisS_nar | with_reducible exact gno_nar) (by omega) (by omega) ⟨rfl, rfl⟩
theorem cx_isCommand_no {d : Nat} {b : SBt} {Y : OUt} {M : MM} (hb : 104 ≤ b.2.1) {a n : Nat} (hn : n ≤ 60) (h9 : M 94 9 = nI n) (hat : M 94 10 = nI a) (hlt : a < n) (h1 : ¬ tsg (M 100) n a = 109) (h2 : ¬ tsg (M 100) n a = 98) (h3 : ¬ tsg (M 100) n a = 111) (h4 : ¬ tsg (M 100) n a = 110) (h5 : ¬ tsg (M 100) n a = 116) (hch : ∃ q, q < 65536 ∧ tsg (M 100) n a = nI q) : CM (d + 2) 0 0 yX6_isCommand cX6_isCommand 1 (some .boolean) [.ref 94] b Y M (.inl (some (.int (0)))) (jm M 94 11 (tsg (M 100) n a)) := by
  refine Con.of (by decide +kernel) (Nat.le_of_ble_eq_true rfl) rfl fun p l e s m args below meth c D tyc A ad0 x hr htab hname => ?_
  change JJ _ _ _ _ _ _ _ _ _ _ _ _ _ _ _ _ _ 0 [some (.ref 94)] [] _ 0 0
  refine j_aload_n x dX6_isCommand_0 rfl ?_
  refine j2_geti (k := 10) x hb dX6_isCommand_1 jc_10 wfX6_188 (by decide) rfl ?_
  refine j_aload_n x dX6_isCommand_4 rfl ?_
  refine j2_geti (k := 9) x hb dX6_isCommand_5 jc_10 wfX6_185 (by decide) rfl ?_
  refine j_icmp_ne (tgt := 13) x dX6_isCommand_8 (by decide) (fun hc => ?_) (fun hc => absurd hc (by rw [hat, h9]; exact fun q => by have := congrArg Int32.toNatClampNeg q; rw [nI_clamp (by omega), nI_clamp (by omega)] at this; omega))
  refine j_aload_n x dX6_isCommand_13 rfl ?_
  refine j_aload_n x dX6_isCommand_14 rfl ?_
  refine j2_getr (k := 8) (r := 100) x hb dX6_isCommand_15 jc_10 wfX6_25 (by decide) rfl ?_
  refine j_aload_n x dX6_isCommand_18 rfl ?_
  refine j2_geti (k := 10) x hb dX6_isCommand_19 jc_10 wfX6_188 (by decide) rfl ?_
  refine j2_cald x hb dX6_isCommand_22 rfl (n := 60) (v := tsg (M 100) n a) (by rw [hat]; exact vp_in_nI (by omega) (by decide)) (by rw [hat, nI_clamp (by omega), tsg, if_pos hlt]) ?_
  refine j2_puti (k := 11) x hb dX6_isCommand_23 jc_10 wfX6_191 (by decide) rfl (by obtain ⟨q, k1, k2⟩ := hch; rw [k2]; exact (pk_charN k1).1) (by obtain ⟨q, k1, k2⟩ := hch; rw [k2]; exact (pk_charN k1).2) rfl ?_
  refine j_aload_n x dX6_isCommand_26 rfl ?_
  refine j2_geti (k := 11) x hb dX6_isCommand_27 jc_10 wfX6_191 (by decide) rfl ?_; rw [jm_s]
  refine j_lookup (off := 192) (tgt := 222) x dX6_isCommand_30 (by decide) ((lv_osw h2 (by decide)).trans ((lv_osw h1 (by decide)).trans ((lv_osw h4 (by decide)).trans ((lv_osw h3 (by decide)).trans ((lv_osw h5 (by decide)).trans (Op.lookupswitch.offset_nil _ _)))))) (by decide) ?_
  refine j_iconst (v := 0) x dX6_isCommand_222 (by decide) ?_
  exact j_zreturn x hr dX6_isCommand_223 (by first | decide | with_reducible exact jb_nar | with_reducible exact jisS_nar | with_reducible exact gno_nar) (by omega) (by omega) ⟨rfl, rfl⟩
theorem cx_isCommand_end {d : Nat} {b : SBt} {Y : OUt} {M : MM} (hb : 104 ≤ b.2.1) {n : Nat} (hn : n ≤ 60) (h9 : M 94 9 = nI n) (hat : M 94 10 = nI n) : CM (d + 2) 0 0 yX6_isCommand cX6_isCommand 1 (some .boolean) [.ref 94] b Y M (.inl (some (.int (0)))) (M) := by
  refine Con.of (by decide +kernel) (Nat.le_of_ble_eq_true rfl) rfl fun p l e s m args below meth c D tyc A ad0 x hr htab hname => ?_
  change JJ _ _ _ _ _ _ _ _ _ _ _ _ _ _ _ _ _ 0 [some (.ref 94)] [] _ 0 0
  refine j_aload_n x dX6_isCommand_0 rfl ?_
  refine j2_geti (k := 10) x hb dX6_isCommand_1 jc_10 wfX6_188 (by decide) rfl ?_
  refine j_aload_n x dX6_isCommand_4 rfl ?_
  refine j2_geti (k := 9) x hb dX6_isCommand_5 jc_10 wfX6_185 (by decide) rfl ?_
  refine j_icmp_ne (tgt := 13) x dX6_isCommand_8 (by decide) (fun hc => absurd hc (fun q => q (by rw [hat, h9]))) (fun hc => ?_)
  refine j_iconst (v := 0) x dX6_isCommand_11 (by decide) ?_
  exact j_zreturn x hr dX6_isCommand_12 (by first | decide | with_reducible exact jb_nar | with_reducible exact jisS_nar | with_reducible exact gno_nar) (by omega) (by omega) ⟨rfl, rfl⟩
theorem gM1_like {M : MM} {n a : Nat} {u : Int32} : gLike M (gM1 M n a u) := fun i k h1 h2 => gM1_n h1 h2
theorem gM2_like {M : MM} {n a : Nat} {u : Int32} : gLike M (gM2 M n a u) := fun i k h1 h2 => gM2_n h1 h2
theorem gM3_like {M : MM} {n a : Nat} {u : Int32} : gLike M (gM3 M n a u) := fun i k h1 h2 => gM3_n h1 h2
theorem cx_cmd_no {d : Nat} {b : SBt} {Y : OUt} {M : MM} (hb : 104 ≤ b.2.1) {a n : Nat} (hn : n ≤ 60) (h9 : M 94 9 = nI n) (hat : M 94 10 = nI a) (ha : a ≤ n) (hch : ∀ i, i < n → ∃ q, q < 65536 ∧ M 100 i = nI q) {q : Nat} (hF : pF (M 100) n a = some q) : ∃ N, gLike M N ∧ N 94 10 = nI q ∧ CM (d + 2) 0 0 yX6_isCommand cX6_isCommand 1 (some .boolean) [.ref 94] b Y M (.inl (some (.int 0))) N := by
  rcases Nat.lt_or_eq_of_le ha with hlt | heq
  · unfold pF at hF
    by_cases h1 : tsg (M 100) n a = 109
    · rw [if_pos h1, rFm] at hF
      by_cases g1 : tnv (M 100) n (a + 1) = -1
      · rw [if_pos g1] at hF; cases hF
        exact ⟨_, gM1_like, gM1_p, cx_isCommand_m1 hb hn h9 hat hlt h1 g1⟩
      · rw [if_neg g1] at hF
        by_cases g2 : tsg (M 100) n (tna (M 100) n (a + 1)) = 61
        · rw [if_neg (fun z => z g2)] at hF
          by_cases g3 : tnv (M 100) n (tna (M 100) n (a + 1) + 1) = -1
          · rw [if_pos g3] at hF; cases hF
            exact ⟨_, gM2_like, gM2_p, cx_isCommand_m3 hb hn h9 hat hlt h1 g1 g2 g3⟩
          · rw [if_neg g3] at hF
            by_cases g4 : tsg (M 100) n (tna (M 100) n (tna (M 100) n (a + 1) + 1)) = 58
            · rw [if_neg (fun z => z g4)] at hF
              by_cases g5 : tnv (M 100) n (tna (M 100) n (tna (M 100) n (a + 1) + 1) + 1) = -1
              · rw [if_pos g5] at hF; cases hF
                exact ⟨_, gM3_like, gM3_p, cx_isCommand_m5 hb hn h9 hat hlt h1 g1 g2 g3 g4 g5⟩
              · rw [if_neg g5] at hF; cases hF
            · rw [if_pos g4] at hF; cases hF
              exact ⟨_, gM2_like, gM2_p, cx_isCommand_m4 hb hn h9 hat hlt h1 g1 g2 g3 g4⟩
        · rw [if_pos g2] at hF; cases hF
          exact ⟨_, gM1_like, gM1_p, cx_isCommand_m2 hb hn h9 hat hlt h1 g1 g2⟩
    · rw [if_neg h1] at hF
      by_cases h2 : tsg (M 100) n a = 98
      · rw [if_pos h2, rFb] at hF
        by_cases g1 : tnv (M 100) n (a + 1) = -1
        · rw [if_pos g1] at hF; cases hF
          exact ⟨_, gM1_like, gM1_p, cx_isCommand_b1 hb hn h9 hat hlt h2 g1⟩
        · rw [if_neg g1] at hF; cases hF
      · rw [if_neg h2] at hF
        by_cases h3 : tsg (M 100) n a = 111
        · rw [if_pos h3, rFo] at hF
          by_cases g1 : tnv (M 100) n (a + 1) = -1
          · rw [if_pos g1] at hF; cases hF
            exact ⟨_, gM1_like, gM1_p, cx_isCommand_o1 hb hn h9 hat hlt h3 g1⟩
          · rw [if_neg g1] at hF
            by_cases g2 : tsg (M 100) n (tna (M 100) n (a + 1)) = 43
            · rw [if_neg (fun z => z g2)] at hF
              by_cases g3 : tnv (M 100) n (tna (M 100) n (a + 1) + 1) = -1
              · rw [if_pos g3] at hF; cases hF
                exact ⟨_, gM2_like, gM2_p, cx_isCommand_o3 hb hn h9 hat hlt h3 g1 g2 g3⟩
              · rw [if_neg g3] at hF; cases hF
            · rw [if_pos g2] at hF; cases hF
              exact ⟨_, gM1_like, gM1_p, cx_isCommand_o2 hb hn h9 hat hlt h3 g1 g2⟩
        · rw [if_neg h3] at hF
          by_cases h4 : tsg (M 100) n a = 110
          · rw [if_pos h4] at hF; cases hF
          · rw [if_neg h4] at hF
            by_cases h5 : tsg (M 100) n a = 116
            · rw [if_pos h5] at hF; cases hF
            · rw [if_neg h5] at hF; cases hF
              exact ⟨_, fun i k z1 z2 => jm_n (by omega), (jm_n (by omega)).trans hat, cx_isCommand_no hb hn h9 hat hlt h1 h2 h3 h4 h5 (by rw [tsg, if_pos hlt]; exact hch a hlt)⟩
  · subst heq
    have e : tsg (M 100) a a = -1 := if_neg (by omega)
    unfold pF at hF
    rw [e, if_neg (by decide), if_neg (by decide), if_neg (by decide), if_neg (by decide), if_neg (by decide)] at hF
    cases hF
    exact ⟨M, fun i k z1 z2 => rfl, hat, cx_isCommand_end hb hn h9 hat⟩
theorem cx_cmd_ok {d : Nat} {b : SBt} {Y : OUt} {M : MM} (hb : 104 ≤ b.2.1) {a n : Nat} (hn : n ≤ 60) (h9 : M 94 9 = nI n) (hat : M 94 10 = nI a) (ha : a ≤ n) (hF : pF (M 100) n a = none) : CM (d + 2) 0 0 yX6_isCommand cX6_isCommand 1 (some .boolean) [.ref 94] b Y M (.inl (some (.int 1))) (gcm M n a) := by
  unfold pF at hF
  by_cases h1 : tsg (M 100) n a = 109
  · have hlt := tsg_lt h1 (by decide)
    rw [if_pos h1, rFm] at hF
    by_cases g1 : tnv (M 100) n (a + 1) = -1
    · rw [if_pos g1] at hF; cases hF
    · rw [if_neg g1] at hF
      by_cases g2 : tsg (M 100) n (tna (M 100) n (a + 1)) = 61
      · rw [if_neg (fun z => z g2)] at hF
        by_cases g3 : tnv (M 100) n (tna (M 100) n (a + 1) + 1) = -1
        · rw [if_pos g3] at hF; cases hF
        · rw [if_neg g3] at hF
          by_cases g4 : tsg (M 100) n (tna (M 100) n (tna (M 100) n (a + 1) + 1)) = 58
          · rw [if_neg (fun z => z g4)] at hF
            by_cases g5 : tnv (M 100) n (tna (M 100) n (tna (M 100) n (a + 1) + 1) + 1) = -1
            · rw [if_pos g5] at hF; cases hF
            · refine CM_st (cx_isCommand_m6 hb hn h9 hat hlt h1 g1 g2 g3 g4 g5) (gcm_eq gM3_like ?_ ?_ ?_ ?_ ?_ (fun k hk => ?_))
              · rw [gM3_p, pN, if_pos h1]
              · rw [gM3_o, h1]
              · rw [gM3_k (by decide), gM2_k (by decide), gM1_0 g1, gcm_0, h1, if_neg (by decide), p1, h1, if_neg (by decide), if_neg (by decide)]
              · rw [gM3_k (by decide), gM2_1 g3, gcm_1, h1, if_neg (by decide), p2, h1, if_neg (by decide), if_neg (by decide)]
              · rw [gM3_2 g5, gcm_2, h1, if_pos (Or.inl rfl), p3, if_pos h1]
              · rw [gM3_k (by omega), gM2_k (by omega), gM1_k (by omega)]
          · rw [if_pos g4] at hF; cases hF
      · rw [if_pos g2] at hF; cases hF
  · rw [if_neg h1] at hF
    by_cases h2 : tsg (M 100) n a = 98
    · have hlt := tsg_lt h2 (by decide)
      rw [if_pos h2, rFb] at hF
      by_cases g1 : tnv (M 100) n (a + 1) = -1
      · rw [if_pos g1] at hF; cases hF
      · refine CM_st (cx_isCommand_b2 hb hn h9 hat hlt h2 g1) (gcm_eq gM1_like ?_ ?_ ?_ ?_ ?_ (fun k hk => ?_))
        · rw [gM1_p, pN, if_neg h1, if_pos h2]
        · rw [gM1_o, h2]
        · rw [gM1_0 g1, gcm_0, h2, if_neg (by decide), p1, h2, if_neg (by decide), if_neg (by decide)]
        · rw [gM1_k (by decide), gcm_1, h2, if_pos (Or.inr rfl)]
        · rw [gM1_k (by decide), gcm_2, h2, if_neg (by decide)]
        · rw [gM1_k (by omega)]
    · rw [if_neg h2] at hF
      by_cases h3 : tsg (M 100) n a = 111
      · have hlt := tsg_lt h3 (by decide)
        rw [if_pos h3, rFo] at hF
        by_cases g1 : tnv (M 100) n (a + 1) = -1
        · rw [if_pos g1] at hF; cases hF
        · rw [if_neg g1] at hF
          by_cases g2 : tsg (M 100) n (tna (M 100) n (a + 1)) = 43
          · rw [if_neg (fun z => z g2)] at hF
            by_cases g3 : tnv (M 100) n (tna (M 100) n (a + 1) + 1) = -1
            · rw [if_pos g3] at hF; cases hF
            · refine CM_st (cx_isCommand_o4 hb hn h9 hat hlt h3 g1 g2 g3) (gcm_eq gM2_like ?_ ?_ ?_ ?_ ?_ (fun k hk => ?_))
              · rw [gM2_p, pN, if_neg h1, if_neg h2, if_pos h3]
              · rw [gM2_o, h3]
              · rw [gM2_k (by decide), gM1_0 g1, gcm_0, h3, if_neg (by decide), p1, h3, if_neg (by decide), if_neg (by decide)]
              · rw [gM2_1 g3, gcm_1, h3, if_neg (by decide), p2, h3, if_neg (by decide), if_neg (by decide)]
              · rw [gM2_k (by decide), gM1_k (by decide), gcm_2, h3, if_neg (by decide)]
              · rw [gM2_k (by omega), gM1_k (by omega)]
          · rw [if_pos g2] at hF; cases hF
      · rw [if_neg h3] at hF
        by_cases h4 : tsg (M 100) n a = 110
        · have hlt := tsg_lt h4 (by decide)
          refine CM_st (cx_isCommand_n hb hn h9 hat hlt h4) (gcm_eq (fun i k z1 z2 => gB_n z1) ?_ ?_ ?_ ?_ ?_ (fun k hk => gB_n (by omega)))
          · rw [gB_p, pN, if_neg h1, if_neg h2, if_neg h3, if_pos h4]
          · rw [gB_o, h4]
          · rw [gB_n (by omega), gcm_0, if_pos h4]
          · rw [gB_n (by omega), gcm_1, if_pos (Or.inl h4)]
          · rw [gB_n (by omega), gcm_2, h4, if_neg (by decide)]
        · rw [if_neg h4] at hF
          by_cases h5 : tsg (M 100) n a = 116
          · have hlt := tsg_lt h5 (by decide)
            refine CM_st (cx_isCommand_t hb hn h9 hat hlt h5) (gcm_eq (fun i k z1 z2 => ?_) ?_ ?_ ?_ ?_ ?_ (fun k hk => ?_))
            · rw [gD3, jm_n (by omega), jm_n (by omega), jm_n (by omega), jm_n (by omega), gB_n z1]
            · rw [gD3, jm_n (by omega), jm_n (by omega), jm_n (by omega), jm_s, gB_t, pN, if_neg h1, if_neg h2, if_neg h3, if_neg h4]
            · rw [gD3, jm_n (by omega), jm_n (by omega), jm_n (by omega), jm_n (by omega), gB_o, h5]
            · rw [gD3, jm_n (by omega), jm_n (by omega), jm_s, gB_t, gcm_0, if_neg h4, p1, if_neg h4, if_pos h5]
            · rw [gD3, jm_n (by omega), jm_s, gB_t, gcm_1, h5, if_neg (by decide), p2, h5, if_neg (by decide), if_pos rfl]
            · rw [gD3, jm_s, gB_t, gcm_2, if_pos (Or.inr h5), p3, if_neg h1, if_pos h5]
            · rw [gD3, jm_n (by omega), jm_n (by omega), jm_n (by omega), jm_n (by omega), gB_n (by omega)]
          · rw [if_neg h5] at hF; cases hF
end

section
/-! ===== the reference: commands, carried out ===== -/
theorem nI_q {t : Int32} {n : Nat} (hn : n ≤ 56) (h : ¬ t < 0 ∧ ¬ nI n - 1 < t) : ∃ q, q < n ∧ t = nI q := by
  cases n with
  | zero => exact absurd (show nI 0 - 1 < t from by
      have h1 := Int32.not_lt.mp h.1
      rw [Int32.le_iff_toInt_le] at h1
      rw [Int32.lt_iff_toInt_lt]
      have h2 : (nI 0 - 1).toInt = -1 := by decide
      have h3 : (0 : Int32).toInt = 0 := rfl
      omega) h.2
  | succ n =>
    rw [nI_pred] at h
    obtain ⟨q, h1, h2⟩ := nI_of2 (nI_toInt (show n < 2 ^ 31 by omega)) h.1 (Int32.not_lt.mp h.2)
    exact ⟨q, by omega, h2⟩
def gNo (M : MM) (t : Int32) (q : Option (Int32 × Int32)) : Option (Int32 × Int32) := if M 95 1 = 0 then some (5, 0) else if ¬ (¬ t < 0 ∧ ¬ M 95 9 - 1 < t) then some (3, t) else q
def gcref (M : MM) (n : Nat) (u v w z : Int32) : Option (Int32 × Int32) := if u = 109 then gNo M v (gRes M v.toNatClampNeg w z) else if u = 98 then gNo M v (gBack M v.toNatClampNeg) else if u = 111 then gNo M v (gPut M v.toNatClampNeg w) else if u = 110 then (if M 95 1 = 0 then some (5, 0) else gNext M n) else rRules v w z
def gcapp (M : MM) (n : Nat) (u v w z : Int32) : MM := if u = 109 then jm (gResS M v.toNatClampNeg w z) 94 18 (jsum (gLeft (gResS M v.toNatClampNeg w z)) n) else if u = 98 then jm (gBackS M v.toNatClampNeg) 94 18 (jsum (gLeft (gBackS M v.toNatClampNeg)) n) else if u = 111 then jm (gPutS M v.toNatClampNeg w) 94 18 (jsum (gCl (gPutS M v.toNatClampNeg w) v.toNatClampNeg (M 95 2 + w)) n) else if u = 110 then jm (jm M 95 2 (M 95 2 + 1)) 94 18 (M 95 2 + 1) else jm (jxR M v w z) 94 18 (jxR M v w z 95 5)
theorem cx_results_all {d : Nat} {b : SBt} {Y : OUt} {M : MM} (hb : 104 ≤ b.2.1) {t u v : Int32} {n : Nat} (hn : n ≤ 56) (hct : M 95 9 = nI n) (hz : M 95 1 = 0 ∨ ¬ M 95 1 ≤ 0) : CM (d + 3) 0 0 yX6_results cX6_results 4 (some .boolean) [.ref 94, .int t, .int u, .int v] b Y M (.inl (some (.int (gno (gNo M t (gRes M t.toNatClampNeg u v)))))) (gst M (gNo M t (gRes M t.toNatClampNeg u v)) (jm (gResS M t.toNatClampNeg u v) 94 18 (jsum (gLeft (gResS M t.toNatClampNeg u v)) n))) := by
  rcases hz with hz | hz
  · rw [show gNo M t (gRes M t.toNatClampNeg u v) = some (5, 0) from if_pos hz]
    exact cx_results_0 hb hz
  · have hz0 : ¬ M 95 1 = 0 := fun z => hz (by rw [z]; decide)
    by_cases hm : ¬ t < 0 ∧ ¬ M 95 9 - 1 < t
    · rw [show gNo M t (gRes M t.toNatClampNeg u v) = _ from by rw [gNo, if_neg hz0, if_neg (fun z => z hm)]]
      obtain ⟨q, hq, rfl⟩ := nI_q hn (by rw [← hct]; exact hm)
      rw [nI_clamp (by omega)]
      exact cx_results_q hb hz hn hct hq
    · rw [show gNo M t (gRes M t.toNatClampNeg u v) = some (3, t) from by rw [gNo, if_neg hz0, if_pos hm]]
      exact cx_results_nm hb hm hz
theorem cx_takesBack_all {d : Nat} {b : SBt} {Y : OUt} {M : MM} (hb : 104 ≤ b.2.1) {t : Int32} {n : Nat} (hn : n ≤ 56) (hct : M 95 9 = nI n) (hz : M 95 1 = 0 ∨ ¬ M 95 1 ≤ 0) : CM (d + 3) 0 0 yX6_takesBack cX6_takesBack 2 (some .boolean) [.ref 94, .int t] b Y M (.inl (some (.int (gno (gNo M t (gBack M t.toNatClampNeg)))))) (gst M (gNo M t (gBack M t.toNatClampNeg)) (jm (gBackS M t.toNatClampNeg) 94 18 (jsum (gLeft (gBackS M t.toNatClampNeg)) n))) := by
  rcases hz with hz | hz
  · rw [show gNo M t (gBack M t.toNatClampNeg) = some (5, 0) from if_pos hz]
    exact cx_takesBack_0 hb hz
  · have hz0 : ¬ M 95 1 = 0 := fun z => hz (by rw [z]; decide)
    by_cases hm : ¬ t < 0 ∧ ¬ M 95 9 - 1 < t
    · rw [show gNo M t (gBack M t.toNatClampNeg) = _ from by rw [gNo, if_neg hz0, if_neg (fun z => z hm)]]
      obtain ⟨q, hq, rfl⟩ := nI_q hn (by rw [← hct]; exact hm)
      rw [nI_clamp (by omega)]
      exact cx_takesBack_q hb hz hn hct hq
    · rw [show gNo M t (gBack M t.toNatClampNeg) = some (3, t) from by rw [gNo, if_neg hz0, if_pos hm]]
      exact cx_takesBack_nm hb hm hz
theorem cx_putsOff_all {d : Nat} {b : SBt} {Y : OUt} {M : MM} (hb : 104 ≤ b.2.1) {t u : Int32} {n : Nat} (hn : n ≤ 56) (hct : M 95 9 = nI n) (hz : M 95 1 = 0 ∨ ¬ M 95 1 ≤ 0) (hho : ∀ i, i < n → ∃ h, h < 8 ∧ jof M i 0 = nI h) : CM (d + 3) 0 0 yX6_putsOff cX6_putsOff 4 (some .boolean) [.ref 94, .int t, .int u] b Y M (.inl (some (.int (gno (gNo M t (gPut M t.toNatClampNeg u)))))) (gst M (gNo M t (gPut M t.toNatClampNeg u)) (jm (gPutS M t.toNatClampNeg u) 94 18 (jsum (gCl (gPutS M t.toNatClampNeg u) t.toNatClampNeg (M 95 2 + u)) n))) := by
  rcases hz with hz | hz
  · rw [show gNo M t (gPut M t.toNatClampNeg u) = some (5, 0) from if_pos hz]
    exact cx_putsOff_0 hb hz
  · have hz0 : ¬ M 95 1 = 0 := fun z => hz (by rw [z]; decide)
    by_cases hm : ¬ t < 0 ∧ ¬ M 95 9 - 1 < t
    · rw [show gNo M t (gPut M t.toNatClampNeg u) = _ from by rw [gNo, if_neg hz0, if_neg (fun z => z hm)]]
      obtain ⟨q, hq, rfl⟩ := nI_q hn (by rw [← hct]; exact hm)
      rw [nI_clamp (by omega)]
      exact cx_putsOff_q hb hz hn hct hq hho
    · rw [show gNo M t (gPut M t.toNatClampNeg u) = some (3, t) from by rw [gNo, if_neg hz0, if_pos hm]]
      exact cx_putsOff_nm hb hm hz
theorem cx_comesNext_all {d : Nat} {b : SBt} {Y : OUt} {M : MM} (hb : 104 ≤ b.2.1) {n : Nat} (hn : n ≤ 56) (hct : M 95 9 = nI n) (hz : M 95 1 = 0 ∨ ¬ M 95 1 ≤ 0) : CM (d + 3) 0 0 yX6_comesNext cX6_comesNext 2 (some .boolean) [.ref 94] b Y M (.inl (some (.int (gno (if M 95 1 = 0 then some (5, 0) else gNext M n))))) (gst M (if M 95 1 = 0 then some (5, 0) else gNext M n) (jm (jm M 95 2 (M 95 2 + 1)) 94 18 (M 95 2 + 1))) := by
  rcases hz with hz | hz
  · rw [if_pos hz]
    exact cx_comesNext_0 hb hz
  · rw [if_neg (fun z => hz (by rw [z]; decide))]
    exact cx_comesNext_d hb hz hn hct
theorem cx_takesRules_all {d : Nat} {b : SBt} {Y : OUt} {M : MM} (hb : 104 ≤ b.2.1) {t u v : Int32} : CM (d + 3) 0 0 yX6_takesRules cX6_takesRules 6 (some .boolean) [.ref 94, .int t, .int u, .int v] b Y M (.inl (some (.int (gno (rRules t u v))))) (gst M (rRules t u v) (jm (jxR M t u v) 94 18 (jxR M t u v 95 5))) := by
  have h := cx_takesRules (d := d + 2) (Y := Y) (M := M) hb (t := t) (u := u) (v := v)
  revert h
  cases rRules t u v with
  | none => exact fun h => h
  | some z => exact fun h => h
theorem cx_carries_109 {d : Nat} {b : SBt} {Y : OUt} {M : MM} (hb : 104 ≤ b.2.1) {n : Nat} (hn : n ≤ 56) (hct : M 95 9 = nI n) (hz : M 95 1 = 0 ∨ ¬ M 95 1 ≤ 0) (hho : ∀ i, i < n → ∃ h, h < 8 ∧ jof M i 0 = nI h) (hL : M 94 11 = 109) : CM (d + 4) 0 0 yX6_carries cX6_carries 1 (some .boolean) [.ref 94] b Y M (.inl (some (.int (gno (gNo M (M 101 0) (gRes M (M 101 0).toNatClampNeg (M 101 1) (M 101 2))))))) (gst M (gNo M (M 101 0) (gRes M (M 101 0).toNatClampNeg (M 101 1) (M 101 2))) (jm (gResS M (M 101 0).toNatClampNeg (M 101 1) (M 101 2)) 94 18 (jsum (gLeft (gResS M (M 101 0).toNatClampNeg (M 101 1) (M 101 2))) n))) := by
  refine Con.of (by decide +kernel) (Nat.le_of_ble_eq_true rfl) rfl fun p l e s m args below meth c D tyc A ad0 x hr htab hname => ?_
  change JJ _ _ _ _ _ _ _ _ _ _ _ _ _ _ _ _ _ 0 [some (.ref 94)] [] _ 0 0
  refine j_aload_n x dX6_carries_0 rfl ?_
  refine j2_geti (k := 11) x hb dX6_carries_1 jc_10 wfX6_191 (by decide) rfl ?_; rw [hL]
  refine j_lookup (off := 44) (tgt := 48) x dX6_carries_4 (by decide) (by decide) (by decide) ?_
  refine j_aload_n x dX6_carries_48 rfl ?_
  refine j_aload_n x dX6_carries_49 rfl ?_
  refine j2_getr (k := 12) (r := 101) x hb dX6_carries_50 jc_10 wfX6_29 (by decide) rfl ?_
  refine j_iconst (v := 0) x dX6_carries_53 (by decide) ?_
  refine j2_ialn x hb dX6_carries_54 fa_101 (j := 0) (vp_c (by decide)) (by decide) ?_
  refine j_aload_n x dX6_carries_55 rfl ?_
  refine j2_getr (k := 12) (r := 101) x hb dX6_carries_56 jc_10 wfX6_29 (by decide) rfl ?_
  refine j_iconst (v := 1) x dX6_carries_59 (by decide) ?_
  refine j2_ialn x hb dX6_carries_60 fa_101 (j := 1) (vp_c (by decide)) (by decide) ?_
  refine j_aload_n x dX6_carries_61 rfl ?_
  refine j2_getr (k := 12) (r := 101) x hb dX6_carries_62 jc_10 wfX6_29 (by decide) rfl ?_
  refine j_iconst (v := 2) x dX6_carries_65 (by decide) ?_
  refine j2_ialn x hb dX6_carries_66 fa_101 (j := 2) (vp_c (by decide)) (by decide) ?_
  refine j2_callVi x hb dX6_carries_67 m_X6_results (cx_results_all (d := d) hb hn hct hz) wmX6_128 jc_10 rfl rfl rfl (Nat.le_of_ble_eq_true rfl) (j_fit_rm (by omega) (by omega) (by omega)) rfl ?_
  exact j_zreturn x hr dX6_carries_70 (by first | decide | with_reducible exact jb_nar | with_reducible exact jisS_nar | with_reducible exact gno_nar) (by omega) (by omega) ⟨rfl, rfl⟩
theorem cx_carries_98 {d : Nat} {b : SBt} {Y : OUt} {M : MM} (hb : 104 ≤ b.2.1) {n : Nat} (hn : n ≤ 56) (hct : M 95 9 = nI n) (hz : M 95 1 = 0 ∨ ¬ M 95 1 ≤ 0) (hho : ∀ i, i < n → ∃ h, h < 8 ∧ jof M i 0 = nI h) (hL : M 94 11 = 98) : CM (d + 4) 0 0 yX6_carries cX6_carries 1 (some .boolean) [.ref 94] b Y M (.inl (some (.int (gno (gNo M (M 101 0) (gBack M (M 101 0).toNatClampNeg)))))) (gst M (gNo M (M 101 0) (gBack M (M 101 0).toNatClampNeg)) (jm (gBackS M (M 101 0).toNatClampNeg) 94 18 (jsum (gLeft (gBackS M (M 101 0).toNatClampNeg)) n))) := by
  refine Con.of (by decide +kernel) (Nat.le_of_ble_eq_true rfl) rfl fun p l e s m args below meth c D tyc A ad0 x hr htab hname => ?_
  change JJ _ _ _ _ _ _ _ _ _ _ _ _ _ _ _ _ _ 0 [some (.ref 94)] [] _ 0 0
  refine j_aload_n x dX6_carries_0 rfl ?_
  refine j2_geti (k := 11) x hb dX6_carries_1 jc_10 wfX6_191 (by decide) rfl ?_; rw [hL]
  refine j_lookup (off := 67) (tgt := 71) x dX6_carries_4 (by decide) (by decide) (by decide) ?_
  refine j_aload_n x dX6_carries_71 rfl ?_
  refine j_aload_n x dX6_carries_72 rfl ?_
  refine j2_getr (k := 12) (r := 101) x hb dX6_carries_73 jc_10 wfX6_29 (by decide) rfl ?_
  refine j_iconst (v := 0) x dX6_carries_76 (by decide) ?_
  refine j2_ialn x hb dX6_carries_77 fa_101 (j := 0) (vp_c (by decide)) (by decide) ?_
  refine j2_callVi x hb dX6_carries_78 m_X6_takesBack (cx_takesBack_all (d := d) hb hn hct hz) wmX6_134 jc_10 rfl rfl rfl (Nat.le_of_ble_eq_true rfl) (j_fit_rm (by omega) (by omega) (by omega)) rfl ?_
  exact j_zreturn x hr dX6_carries_81 (by first | decide | with_reducible exact jb_nar | with_reducible exact jisS_nar | with_reducible exact gno_nar) (by omega) (by omega) ⟨rfl, rfl⟩
theorem cx_carries_111 {d : Nat} {b : SBt} {Y : OUt} {M : MM} (hb : 104 ≤ b.2.1) {n : Nat} (hn : n ≤ 56) (hct : M 95 9 = nI n) (hz : M 95 1 = 0 ∨ ¬ M 95 1 ≤ 0) (hho : ∀ i, i < n → ∃ h, h < 8 ∧ jof M i 0 = nI h) (hL : M 94 11 = 111) : CM (d + 4) 0 0 yX6_carries cX6_carries 1 (some .boolean) [.ref 94] b Y M (.inl (some (.int (gno (gNo M (M 101 0) (gPut M (M 101 0).toNatClampNeg (M 101 1))))))) (gst M (gNo M (M 101 0) (gPut M (M 101 0).toNatClampNeg (M 101 1))) (jm (gPutS M (M 101 0).toNatClampNeg (M 101 1)) 94 18 (jsum (gCl (gPutS M (M 101 0).toNatClampNeg (M 101 1)) (M 101 0).toNatClampNeg (M 95 2 + M 101 1)) n))) := by
  refine Con.of (by decide +kernel) (Nat.le_of_ble_eq_true rfl) rfl fun p l e s m args below meth c D tyc A ad0 x hr htab hname => ?_
  change JJ _ _ _ _ _ _ _ _ _ _ _ _ _ _ _ _ _ 0 [some (.ref 94)] [] _ 0 0
  refine j_aload_n x dX6_carries_0 rfl ?_
  refine j2_geti (k := 11) x hb dX6_carries_1 jc_10 wfX6_191 (by decide) rfl ?_; rw [hL]
  refine j_lookup (off := 78) (tgt := 82) x dX6_carries_4 (by decide) (by decide) (by decide) ?_
  refine j_aload_n x dX6_carries_82 rfl ?_
  refine j_aload_n x dX6_carries_83 rfl ?_
  refine j2_getr (k := 12) (r := 101) x hb dX6_carries_84 jc_10 wfX6_29 (by decide) rfl ?_
  refine j_iconst (v := 0) x dX6_carries_87 (by decide) ?_
  refine j2_ialn x hb dX6_carries_88 fa_101 (j := 0) (vp_c (by decide)) (by decide) ?_
  refine j_aload_n x dX6_carries_89 rfl ?_
  refine j2_getr (k := 12) (r := 101) x hb dX6_carries_90 jc_10 wfX6_29 (by decide) rfl ?_
  refine j_iconst (v := 1) x dX6_carries_93 (by decide) ?_
  refine j2_ialn x hb dX6_carries_94 fa_101 (j := 1) (vp_c (by decide)) (by decide) ?_
  refine j2_callVi x hb dX6_carries_95 m_X6_putsOff (cx_putsOff_all (d := d) hb hn hct hz hho) wmX6_146 jc_10 rfl rfl rfl (Nat.le_of_ble_eq_true rfl) (j_fit_rm (by omega) (by omega) (by omega)) rfl ?_
  exact j_zreturn x hr dX6_carries_98 (by first | decide | with_reducible exact jb_nar | with_reducible exact jisS_nar | with_reducible exact gno_nar) (by omega) (by omega) ⟨rfl, rfl⟩
theorem cx_carries_110 {d : Nat} {b : SBt} {Y : OUt} {M : MM} (hb : 104 ≤ b.2.1) {n : Nat} (hn : n ≤ 56) (hct : M 95 9 = nI n) (hz : M 95 1 = 0 ∨ ¬ M 95 1 ≤ 0) (hho : ∀ i, i < n → ∃ h, h < 8 ∧ jof M i 0 = nI h) (hL : M 94 11 = 110) : CM (d + 4) 0 0 yX6_carries cX6_carries 1 (some .boolean) [.ref 94] b Y M (.inl (some (.int (gno (if M 95 1 = 0 then some (5, 0) else gNext M n))))) (gst M (if M 95 1 = 0 then some (5, 0) else gNext M n) (jm (jm M 95 2 (M 95 2 + 1)) 94 18 (M 95 2 + 1))) := by
  refine Con.of (by decide +kernel) (Nat.le_of_ble_eq_true rfl) rfl fun p l e s m args below meth c D tyc A ad0 x hr htab hname => ?_
  change JJ _ _ _ _ _ _ _ _ _ _ _ _ _ _ _ _ _ 0 [some (.ref 94)] [] _ 0 0
  refine j_aload_n x dX6_carries_0 rfl ?_
  refine j2_geti (k := 11) x hb dX6_carries_1 jc_10 wfX6_191 (by decide) rfl ?_; rw [hL]
  refine j_lookup (off := 95) (tgt := 99) x dX6_carries_4 (by decide) (by decide) (by decide) ?_
  refine j_aload_n x dX6_carries_99 rfl ?_
  refine j2_callVi x hb dX6_carries_100 m_X6_comesNext (cx_comesNext_all (d := d) hb hn hct hz) wmX6_149 jc_10 rfl rfl rfl (Nat.le_of_ble_eq_true rfl) (j_fit_rm (by omega) (by omega) (by omega)) rfl ?_
  exact j_zreturn x hr dX6_carries_103 (by first | decide | with_reducible exact jb_nar | with_reducible exact jisS_nar | with_reducible exact gno_nar) (by omega) (by omega) ⟨rfl, rfl⟩
theorem cx_carries_116 {d : Nat} {b : SBt} {Y : OUt} {M : MM} (hb : 104 ≤ b.2.1) {n : Nat} (hn : n ≤ 56) (hct : M 95 9 = nI n) (hz : M 95 1 = 0 ∨ ¬ M 95 1 ≤ 0) (hho : ∀ i, i < n → ∃ h, h < 8 ∧ jof M i 0 = nI h) (hL : M 94 11 = 116) : CM (d + 4) 0 0 yX6_carries cX6_carries 1 (some .boolean) [.ref 94] b Y M (.inl (some (.int (gno (rRules (M 101 0) (M 101 1) (M 101 2)))))) (gst M (rRules (M 101 0) (M 101 1) (M 101 2)) (jm (jxR M (M 101 0) (M 101 1) (M 101 2)) 94 18 (jxR M (M 101 0) (M 101 1) (M 101 2) 95 5))) := by
  refine Con.of (by decide +kernel) (Nat.le_of_ble_eq_true rfl) rfl fun p l e s m args below meth c D tyc A ad0 x hr htab hname => ?_
  change JJ _ _ _ _ _ _ _ _ _ _ _ _ _ _ _ _ _ 0 [some (.ref 94)] [] _ 0 0
  refine j_aload_n x dX6_carries_0 rfl ?_
  refine j2_geti (k := 11) x hb dX6_carries_1 jc_10 wfX6_191 (by decide) rfl ?_; rw [hL]
  refine j_lookup (off := 100) (tgt := 104) x dX6_carries_4 (by decide) (by decide) (by decide) ?_
  refine j_aload_n x dX6_carries_104 rfl ?_
  refine j_aload_n x dX6_carries_105 rfl ?_
  refine j2_getr (k := 12) (r := 101) x hb dX6_carries_106 jc_10 wfX6_29 (by decide) rfl ?_
  refine j_iconst (v := 0) x dX6_carries_109 (by decide) ?_
  refine j2_ialn x hb dX6_carries_110 fa_101 (j := 0) (vp_c (by decide)) (by decide) ?_
  refine j_aload_n x dX6_carries_111 rfl ?_
  refine j2_getr (k := 12) (r := 101) x hb dX6_carries_112 jc_10 wfX6_29 (by decide) rfl ?_
  refine j_iconst (v := 1) x dX6_carries_115 (by decide) ?_
  refine j2_ialn x hb dX6_carries_116 fa_101 (j := 1) (vp_c (by decide)) (by decide) ?_
  refine j_aload_n x dX6_carries_117 rfl ?_
  refine j2_getr (k := 12) (r := 101) x hb dX6_carries_118 jc_10 wfX6_29 (by decide) rfl ?_
  refine j_iconst (v := 2) x dX6_carries_121 (by decide) ?_
  refine j2_ialn x hb dX6_carries_122 fa_101 (j := 2) (vp_c (by decide)) (by decide) ?_
  refine j2_callVi x hb dX6_carries_123 m_X6_takesRules (cx_takesRules_all (d := d) hb) wmX6_119 jc_10 rfl rfl rfl (Nat.le_of_ble_eq_true rfl) (j_fit_rm (by omega) (by omega) (by omega)) rfl ?_
  exact j_zreturn x hr dX6_carries_126 (by first | decide | with_reducible exact jb_nar | with_reducible exact jisS_nar | with_reducible exact gno_nar) (by omega) (by omega) ⟨rfl, rfl⟩
theorem cx_carries {d : Nat} {b : SBt} {Y : OUt} {M : MM} (hb : 104 ≤ b.2.1) {n : Nat} (hn : n ≤ 56) (hct : M 95 9 = nI n) (hz : M 95 1 = 0 ∨ ¬ M 95 1 ≤ 0) (hho : ∀ i, i < n → ∃ h, h < 8 ∧ jof M i 0 = nI h) (hl : isLet (M 94 11)) : CM (d + 4) 0 0 yX6_carries cX6_carries 1 (some .boolean) [.ref 94] b Y M (.inl (some (.int (gno (gcref M n (M 94 11) (M 101 0) (M 101 1) (M 101 2)))))) (gst M (gcref M n (M 94 11) (M 101 0) (M 101 1) (M 101 2)) (gcapp M n (M 94 11) (M 101 0) (M 101 1) (M 101 2))) := by
  rcases hl with hL | hL | hL | hL | hL
  · rw [hL, gcapp, if_pos rfl, gcref, if_pos rfl]
    exact cx_carries_109 hb hn hct hz hho hL
  · rw [hL, gcapp, if_neg (by decide), if_pos rfl, gcref, if_neg (by decide), if_pos rfl]
    exact cx_carries_98 hb hn hct hz hho hL
  · rw [hL, gcapp, if_neg (by decide), if_neg (by decide), if_pos rfl, gcref, if_neg (by decide), if_neg (by decide), if_pos rfl]
    exact cx_carries_111 hb hn hct hz hho hL
  · rw [hL, gcapp, if_neg (by decide), if_neg (by decide), if_neg (by decide), if_pos rfl, gcref, if_neg (by decide), if_neg (by decide), if_neg (by decide), if_pos rfl]
    exact cx_carries_110 hb hn hct hz hho hL
  · rw [hL, gcapp, if_neg (by decide), if_neg (by decide), if_neg (by decide), if_neg (by decide), gcref, if_neg (by decide), if_neg (by decide), if_neg (by decide), if_neg (by decide)]
    exact cx_carries_116 hb hn hct hz hho hL
theorem CM_gs {d mc ms : Nat} {y : MethodName} {cc : ByteArray} {maxL : Nat} {ret : Option FieldType} {as : List Value} {b : SBt} {Y : OUt} {M S : MM} {q : Option (Int32 × Int32)} {r t : Int32} (C : CM d mc ms y cc maxL ret as b Y M (.inl (some (.int (gno q)))) (gst M q S)) (h : q = some (r, t)) : CM d mc ms y cc maxL ret as b Y M (.inl (some (.int 0))) (jrefu M r t) := by
  subst h
  exact C
theorem CM_gn {d mc ms : Nat} {y : MethodName} {cc : ByteArray} {maxL : Nat} {ret : Option FieldType} {as : List Value} {b : SBt} {Y : OUt} {M S : MM} {q : Option (Int32 × Int32)} (C : CM d mc ms y cc maxL ret as b Y M (.inl (some (.int (gno q)))) (gst M q S)) (h : q = none) : CM d mc ms y cc maxL ret as b Y M (.inl (some (.int 1))) S := by
  subst h
  exact C
theorem jxr_n {M : MM} {t : Int32} {c1 : Nat} (h : c5 c1 M) (hc : c1 ≤ 2) {i k : Nat} (hk : i ≠ 95 ∨ k < 5 ∨ 8 < k) : jxr M t i k = M i k := by
  obtain ⟨c, h1, h2⟩ := h
  unfold jxr
  split
  · rfl
  · rw [h2, nI_clamp (by omega), jm_n (by omega), jm_n (by omega)]
theorem jxR_n {M : MM} {t u v : Int32} {i k : Nat} (hk : i ≠ 95 ∨ k < 5 ∨ 8 < k) : jxR M t u v i k = M i k := by
  rw [jxR, jxr_n (c5_s (c5_s c5_0)) (by decide) hk, jxr_n (c5_s c5_0) (by decide) hk, jxr_n c5_0 (by decide) hk, jm_n (by omega)]
theorem jsets_m {M : MM} {m1 w1 i k : Nat} {v : Int32} (hw : 0 < w1 ∧ w1 < 8) (h : i ≠ 95 ∨ k < 18 ∨ (k - 18) % 8 = 0) : jsets M m1 w1 v i k = M i k := by
  rw [jsets, jm_n]
  omega
theorem gcapp_n {M : MM} {n : Nat} {u v w z : Int32} {i k : Nat} (h : (i ≠ 95 ∧ (i ≠ 94 ∨ k ≠ 18)) ∨ (i = 95 ∧ k ≠ 2 ∧ (k < 5 ∨ 8 < k) ∧ (k < 18 ∨ (k - 18) % 8 = 0))) : gcapp M n u v w z i k = M i k := by
  have h9 : ¬ (i = 94 ∧ k = 18) := by omega
  unfold gcapp
  split
  · rw [jm_n h9, gResS, jsets_m (by omega) (by omega), jsets_m (by omega) (by omega), jsets_m (by omega) (by omega)]
  · split
    · rw [jm_n h9, gBackS, jsets_m (by omega) (by omega), jsets_m (by omega) (by omega), jsets_m (by omega) (by omega)]
    · split
      · rw [jm_n h9, gPutS, jsets_m (by omega) (by omega), jsets_m (by omega) (by omega)]
      · split
        · rw [jm_n h9, jm_n (by omega)]
        · rw [jm_n h9, jxR_n (by omega)]
theorem pF_let {T : Nat → Int32} {n a : Nat} (h : pF T n a = none) : isLet (tsg T n a) := by
  unfold pF at h
  by_cases h1 : tsg T n a = 109
  · exact Or.inl h1
  · by_cases h2 : tsg T n a = 98
    · exact Or.inr (Or.inl h2)
    · by_cases h3 : tsg T n a = 111
      · exact Or.inr (Or.inr (Or.inl h3))
      · by_cases h4 : tsg T n a = 110
        · exact Or.inr (Or.inr (Or.inr (Or.inl h4)))
        · by_cases h5 : tsg T n a = 116
          · exact Or.inr (Or.inr (Or.inr (Or.inr h5)))
          · rw [if_neg h1, if_neg h2, if_neg h3, if_neg h4, if_neg h5] at h; cases h
/-- the first reading -/
def gpa (M : MM) (n : Nat) : Nat → MM
  | 0 => jm M 94 10 0
  | i + 1 => jm (gcm (gpa M n i) n (ppo (M 100) n i)) 94 10 (nI (ppo (M 100) n (i + 1)))
def gce (M : MM) (n i : Nat) : MM := gcm (gpa M n i) n (ppo (M 100) n i)
theorem gpa_like {M : MM} {n : Nat} : ∀ i, gLike M (gpa M n i)
  | 0 => fun i k h1 h2 => jm_n (by omega)
  | j + 1 => fun i k h1 h2 => by rw [gpa, jm_n (by omega), gcm_like i k h1 h2]; exact gpa_like j i k h1 h2
theorem gpa_t {M : MM} {n i : Nat} : gpa M n i 100 = M 100 := funext fun k => gpa_like i 100 k (by omega) (by omega)
theorem gpa_p {M : MM} {n : Nat} : ∀ i, gpa M n i 94 10 = nI (ppo (M 100) n i)
  | 0 => jm_s
  | _ + 1 => jm_s
theorem gce_like {M : MM} {n i : Nat} : gLike M (gce M n i) := fun j k h1 h2 => by rw [gce, gcm_like j k h1 h2]; exact gpa_like i j k h1 h2
theorem gce_t {M : MM} {n i : Nat} : gce M n i 100 = M 100 := funext fun k => gce_like 100 k (by omega) (by omega)
theorem gce_p {M : MM} {n i : Nat} : gce M n i 94 10 = nI (pN (M 100) n (ppo (M 100) n i)) := by rw [gce, gcm_p, gpa_t]
theorem cx_first_ok {d : Nat} {b : SBt} {Y : OUt} {M : MM} (hb : 104 ≤ b.2.1) {n i : Nat} (hn : n ≤ 60) (h9 : M 94 9 = nI n) (hp : ppo (M 100) n i ≤ n) (hF : pF (M 100) n (ppo (M 100) n i) = none) : CM (d + 2) 0 0 yX6_isCommand cX6_isCommand 1 (some .boolean) [.ref 94] b Y (gpa M n i) (.inl (some (.int 1))) (gce M n i) :=
  cx_cmd_ok hb hn ((gpa_like i 94 9 (by omega) (by omega)).trans h9) (gpa_p i) hp (by rw [gpa_t]; exact hF)
theorem cx_first_no {d : Nat} {b : SBt} {Y : OUt} {M : MM} (hb : 104 ≤ b.2.1) {n i q : Nat} (hn : n ≤ 60) (h9 : M 94 9 = nI n) (hp : ppo (M 100) n i ≤ n) (hch : ∀ i, i < n → ∃ q, q < 65536 ∧ M 100 i = nI q) (hF : pF (M 100) n (ppo (M 100) n i) = some q) : ∃ N, gLike M N ∧ N 94 10 = nI q ∧ CM (d + 2) 0 0 yX6_isCommand cX6_isCommand 1 (some .boolean) [.ref 94] b Y (gpa M n i) (.inl (some (.int 0))) N := by
  obtain ⟨N, h1, h2, h3⟩ := cx_cmd_no (d := d) (Y := Y) (M := gpa M n i) hb hn ((gpa_like i 94 9 (by omega) (by omega)).trans h9) (gpa_p i) hp (by rw [gpa_t]; exact hch) (by rw [gpa_t]; exact hF)
  exact ⟨N, fun j k z1 z2 => (h1 j k z1 z2).trans (gpa_like i j k z1 z2), h2, h3⟩
/-- the carrying out, from the store M in which at is 0 -/
def gse (M : MM) (n ct : Nat) : Nat → MM
  | 0 => M
  | j + 1 => jm (gcapp (jm (gcm (gse M n ct j) n (ppo (M 100) n j)) 94 16 (nI j)) ct (gcm (gse M n ct j) n (ppo (M 100) n j) 94 11) (gcm (gse M n ct j) n (ppo (M 100) n j) 101 0) (gcm (gse M n ct j) n (ppo (M 100) n j) 101 1) (gcm (gse M n ct j) n (ppo (M 100) n j) 101 2)) 94 10 (nI (ppo (M 100) n (j + 1)))
def gqp (M : MM) (n ct j : Nat) : MM := jm (gcm (gse M n ct j) n (ppo (M 100) n j)) 94 16 (nI j)
def gcR (M : MM) (n ct j : Nat) : Option (Int32 × Int32) := gcref (gqp M n ct j) ct (gqp M n ct j 94 11) (gqp M n ct j 101 0) (gqp M n ct j 101 1) (gqp M n ct j 101 2)
def gcS (M : MM) (n ct j : Nat) : MM := gcapp (gqp M n ct j) ct (gqp M n ct j 94 11) (gqp M n ct j 101 0) (gqp M n ct j 101 1) (gqp M n ct j 101 2)
theorem gse_s {M : MM} {n ct j : Nat} : gse M n ct (j + 1) = jm (gcS M n ct j) 94 10 (nI (ppo (M 100) n (j + 1))) := by
  have e : ∀ i k, ¬ (i = 94 ∧ k = 16) → gqp M n ct j i k = gcm (gse M n ct j) n (ppo (M 100) n j) i k := fun i k h => jm_n h
  rw [gse, gcS, e 94 11 (by omega), e 101 0 (by omega), e 101 1 (by omega), e 101 2 (by omega)]
  rfl
/-- what the carrying out leaves -/
def gKeep (i k : Nat) : Prop := (i ≠ 95 ∧ i ≠ 94 ∧ i ≠ 101) ∨ (i = 94 ∧ k ≠ 10 ∧ k ≠ 11 ∧ k ≠ 16 ∧ k ≠ 18) ∨ (i = 95 ∧ k ≠ 2 ∧ (k < 5 ∨ 8 < k) ∧ (k < 18 ∨ (k - 18) % 8 = 0))
theorem gse_n {M : MM} {n ct i k : Nat} (h : gKeep i k) : ∀ j, gse M n ct j i k = M i k
  | 0 => rfl
  | j + 1 => by
    unfold gKeep at h
    rw [gse_s, jm_n (by omega), gcS, gcapp_n (by omega), gqp, jm_n (by omega), gcm_like i k (by omega) (by omega)]
    exact gse_n (by unfold gKeep; exact h) j
theorem gse_t {M : MM} {n ct j : Nat} : gse M n ct j 100 = M 100 := funext fun k => gse_n (Or.inl (by omega)) j
theorem gse_p {M : MM} {n ct : Nat} (h0 : M 94 10 = 0) : ∀ j, gse M n ct j 94 10 = nI (ppo (M 100) n j)
  | 0 => h0
  | _ + 1 => jm_s
theorem gqp_n {M : MM} {n ct j i k : Nat} (h : gKeep i k) : gqp M n ct j i k = M i k := by
  have h0 := h
  unfold gKeep at h
  rw [gqp, jm_n (by omega), gcm_like i k (by omega) (by omega)]
  exact gse_n h0 j
theorem gqp_t {M : MM} {n ct j : Nat} : gqp M n ct j 100 = M 100 := funext fun k => gqp_n (Or.inl (by omega))
theorem gqp_p {M : MM} {n ct j : Nat} : gqp M n ct j 94 10 = nI (pN (M 100) n (ppo (M 100) n j)) := by rw [gqp, jm_n (by omega), gcm_p, gse_t]
theorem gqp_o {M : MM} {n ct j : Nat} : gqp M n ct j 94 11 = tsg (M 100) n (ppo (M 100) n j) := by rw [gqp, jm_n (by omega), gcm_o, gse_t]
theorem gcS_n {M : MM} {n ct j i k : Nat} (h : gKeep i k) : gcS M n ct j i k = M i k := by
  have h0 := h
  unfold gKeep at h
  rw [gcS, gcapp_n (by omega), gqp_n h0]
theorem gcS_t {M : MM} {n ct j : Nat} : gcS M n ct j 100 = M 100 := funext fun k => gcS_n (Or.inl (by omega))
theorem gcS_p {M : MM} {n ct j : Nat} : gcS M n ct j 94 10 = nI (pN (M 100) n (ppo (M 100) n j)) := by rw [gcS, gcapp_n (by omega), gqp_p]
theorem cx_sec_ok {d : Nat} {b : SBt} {Y : OUt} {M : MM} (hb : 104 ≤ b.2.1) {n ct i : Nat} (hn : n ≤ 60) (h9 : M 94 9 = nI n) (h0 : M 94 10 = 0) (hp : ppo (M 100) n i ≤ n) (hF : pF (M 100) n (ppo (M 100) n i) = none) : CM (d + 2) 0 0 yX6_isCommand cX6_isCommand 1 (some .boolean) [.ref 94] b Y (gse M n ct i) (.inl (some (.int 1))) (gcm (gse M n ct i) n (ppo (M 100) n i)) :=
  cx_cmd_ok hb hn ((gse_n (Or.inr (Or.inl (by omega))) i).trans h9) (gse_p h0 i) hp (by rw [gse_t]; exact hF)
theorem cx_sec_car {d : Nat} {b : SBt} {Y : OUt} {M : MM} (hb : 104 ≤ b.2.1) {n ct i : Nat} (hc56 : ct ≤ 56) (hct : M 95 9 = nI ct) (hz : M 95 1 = 0 ∨ ¬ M 95 1 ≤ 0) (hho : ∀ i, i < ct → ∃ h, h < 8 ∧ jof M i 0 = nI h) (hF : pF (M 100) n (ppo (M 100) n i) = none) : CM (d + 4) 0 0 yX6_carries cX6_carries 1 (some .boolean) [.ref 94] b Y (gqp M n ct i) (.inl (some (.int (gno (gcR M n ct i))))) (gst (gqp M n ct i) (gcR M n ct i) (gcS M n ct i)) :=
  cx_carries hb hc56 ((gqp_n (Or.inr (Or.inr (by omega)))).trans hct) (by rw [gqp_n (Or.inr (Or.inr (by omega)))]; exact hz) (fun j hj => by rw [jof, gqp_n (Or.inr (Or.inr (by omega)))]; exact hho j hj) (by rw [gqp_o]; exact pF_let hF)
theorem jtr_m {M : MM} {i k : Nat} (h : i ≠ 96 ∧ ¬ (i = 94 ∧ (k = 19 ∨ k = 16))) : jtr M i k = M i k := by
  rw [jtr, jcp_n (by omega), jm_n (by omega), jm_n (by omega)]
theorem cx_commands_A0 {d : Nat} {b : SBt} {Y : OUt} {M : MM} (hb : 104 ≤ b.2.1) {N : MM} {n : Nat} (hn : n ≤ 60) (h9 : M 94 9 = nI n) (C : CM (d + 4) 0 0 yX6_isCommand cX6_isCommand 1 (some .boolean) [.ref 94] b Y (gpa (jtr M) n 0) (.inl (some (.int 0))) N) : CM (d + 5) 0 0 yX6_commands cX6_commands 4 (some .int) [.ref 94] b Y M (.inl (some (.int (0)))) (jrai (jm (jm N 94 13 (N 94 10)) 94 9 0) 1) := by
  have h9 : jtr M 94 9 = nI n := (jtr_m (by omega)).trans h9
  refine Con.of (by decide +kernel) (Nat.le_of_ble_eq_true rfl) rfl fun p l e s m args below meth c D tyc A ad0 x hr htab hname => ?_
  change JJ _ _ _ _ _ _ _ _ _ _ _ _ _ _ _ _ _ 0 [some (.ref 94), none, none, none] [] _ 0 0
  refine j_aload_n x dX6_commands_0 rfl ?_
  refine j2_callVv x hb dX6_commands_1 m_X6_tries (cx_tries (d := d) hb) wmX6_76 jc_10 rfl rfl rfl (Nat.le_of_ble_eq_true rfl) (j_fit_rm (by omega) (by omega) (by omega)) rfl ?_
  refine j_aload_n x dX6_commands_4 rfl ?_
  refine j_iconst (v := 0) x dX6_commands_5 (by decide) ?_
  refine j2_puti (k := 10) x hb dX6_commands_6 jc_10 wfX6_188 (by decide) rfl rfl rfl rfl ?_; change JJ _ _ _ _ _ _ _ _ _ _ _ _ _ _ _ _ _ _ _ _ (HH _ _ (gpa (jtr M) n 0)) _ _
  refine j_aload_n x dX6_commands_9 rfl ?_
  refine j2_callVi x hb dX6_commands_10 m_X6_isCommand C wmX6_205 jc_10 rfl rfl rfl (Nat.le_of_ble_eq_true rfl) (j_fit_rm (by omega) (by omega) (by omega)) rfl ?_
  refine j_istore_n x dX6_commands_13 (by decide) rfl ?_
  refine j_iload_n x dX6_commands_14 rfl ?_
  refine j_if_eq (tgt := 54) x dX6_commands_15 (by decide) (fun hc => ?_) (fun hc => absurd (rfl) hc)
  refine j_aload_n x dX6_commands_54 rfl ?_
  refine j_iload_n x dX6_commands_55 rfl ?_
  refine j_if_eq (tgt := 63) x dX6_commands_56 (by decide) (fun hc => ?_) (fun hc => absurd (rfl) hc)
  refine j_aload_n x dX6_commands_63 rfl ?_
  refine j2_geti (k := 10) x hb dX6_commands_64 jc_10 wfX6_188 (by decide) rfl ?_
  refine j2_puti (k := 13) x hb dX6_commands_67 jc_10 wfX6_32 (by decide) rfl rfl rfl rfl ?_
  refine j_iload_n x dX6_commands_70 rfl ?_
  refine j_if_ne (tgt := 85) x dX6_commands_71 (by decide) (fun hc => absurd hc (fun q => q rfl)) (fun hc => ?_)
  refine j_aload_n x dX6_commands_74 rfl ?_
  refine j_iconst (v := 0) x dX6_commands_75 (by decide) ?_
  refine j2_puti (k := 9) x hb dX6_commands_76 jc_10 wfX6_185 (by decide) rfl rfl rfl rfl ?_
  refine j_aload_n x dX6_commands_79 rfl ?_
  refine j_iconst (v := 1) x dX6_commands_80 (by decide) ?_
  refine j2_callVi x hb dX6_commands_81 m_X6_raises (cx_raises (d := d) hb) wmX6_61 jc_10 rfl rfl rfl (Nat.le_of_ble_eq_true rfl) (j_fit_rm (by omega) (by omega) (by omega)) rfl ?_
  exact j_ireturn x hr dX6_commands_84 (by omega) (by omega) ⟨rfl, rfl⟩
theorem cx_commands_A {d : Nat} {b : SBt} {Y : OUt} {M : MM} (hb : 104 ≤ b.2.1) {N : MM} {n : Nat} (hn : n ≤ 60) (h9 : M 94 9 = nI n) {i : Nat} (hg : ∀ j, j < i + 1 → pgo (jtr M 100) n j) (hok : ∀ j, j < i + 1 → pF (jtr M 100) n (ppo (jtr M 100) n j) = none) (C : CM (d + 4) 0 0 yX6_isCommand cX6_isCommand 1 (some .boolean) [.ref 94] b Y (gpa (jtr M) n (i + 1)) (.inl (some (.int 0))) N) : CM (d + 5) 0 0 yX6_commands cX6_commands 4 (some .int) [.ref 94] b Y M (.inl (some (.int (0)))) (jrai (jm (jm N 94 13 (N 94 10)) 94 9 0) 1) := by
  have h9 : jtr M 94 9 = nI n := (jtr_m (by omega)).trans h9
  refine Con.of (by decide +kernel) (Nat.le_of_ble_eq_true rfl) rfl fun p l e s m args below meth c D tyc A ad0 x hr htab hname => ?_
  change JJ _ _ _ _ _ _ _ _ _ _ _ _ _ _ _ _ _ 0 [some (.ref 94), none, none, none] [] _ 0 0
  refine j_aload_n x dX6_commands_0 rfl ?_
  refine j2_callVv x hb dX6_commands_1 m_X6_tries (cx_tries (d := d) hb) wmX6_76 jc_10 rfl rfl rfl (Nat.le_of_ble_eq_true rfl) (j_fit_rm (by omega) (by omega) (by omega)) rfl ?_
  refine j_aload_n x dX6_commands_4 rfl ?_
  refine j_iconst (v := 0) x dX6_commands_5 (by decide) ?_
  refine j2_puti (k := 10) x hb dX6_commands_6 jc_10 wfX6_188 (by decide) rfl rfl rfl rfl ?_; change JJ _ _ _ _ _ _ _ _ _ _ _ _ _ _ _ _ _ _ _ _ (HH _ _ (gpa (jtr M) n 0)) _ _
  refine j_aload_n x dX6_commands_9 rfl ?_
  refine j2_callVi x hb dX6_commands_10 m_X6_isCommand (cx_first_ok (d := d) (M := jtr M) (i := 0) hb hn h9 (Nat.zero_le n) (hok 0 (by omega))) wmX6_205 jc_10 rfl rfl rfl (Nat.le_of_ble_eq_true rfl) (j_fit_rm (by omega) (by omega) (by omega)) rfl ?_
  refine j_istore_n x dX6_commands_13 (by decide) rfl ?_
  refine j_for i (fun z0 => [some (.ref 94), some (.int 1), none, none]) (fun z0 => gce (jtr M) n z0) (fun _ => True) rfl rfl trivial (fun j hj hP ih => ?_) (fun hP => ?_)
  · refine j_iload_n x dX6_commands_14 rfl ?_
    refine j_if_eq (tgt := 54) x dX6_commands_15 (by decide) (fun hc => absurd hc (by decide)) (fun hc => ?_)
    refine j_aload_n x dX6_commands_18 rfl ?_
    refine j2_geti (k := 10) x hb dX6_commands_19 jc_10 wfX6_188 (by decide) rfl ?_; rw [gce_p]
    refine j_aload_n x dX6_commands_22 rfl ?_
    refine j2_geti (k := 9) x hb dX6_commands_23 jc_10 wfX6_185 (by decide) rfl ?_; rw [gce_like 94 9 (by omega) (by omega), h9]
    refine j_icmp_ge (tgt := 54) x dX6_commands_26 (by decide) (fun hc => absurd hc (nI_ge (tsg_lt (hg j (by omega)).2 (by decide)) (by omega))) (fun hc => ?_)
    refine j_aload_n x dX6_commands_29 rfl ?_
    refine j_bipush (v := 59) x dX6_commands_30 (by decide) ?_
    refine j2_callVi x hb dX6_commands_32 m_X6_isNext (cx_isNext_Y (d := d) (M := gce (jtr M) n j) (ch := 59) hb hn ((gce_like 94 9 (by omega) (by omega)).trans h9) gce_p (pN_le (hg j (by omega)).1 (ppo_le (fun i hi => hg i (by omega)))) (by decide) (by rw [gce_t]; exact (hg j (by omega)).2)) wmX6_198 jc_10 rfl rfl rfl (Nat.le_of_ble_eq_true rfl) (j_fit_rm (by omega) (by omega) (by omega)) rfl ?_
    refine j_if_eq (tgt := 49) x dX6_commands_35 (by decide) (fun hc => absurd hc (by decide)) (fun hc => ?_)
    refine j_aload_n x dX6_commands_38 rfl ?_
    refine j2_callVi x hb dX6_commands_39 m_X6_isCommand (cx_first_ok (d := d) (M := jtr M) (i := j + 1) hb hn h9 (ppo_le (fun i hi => hg i (by omega))) (hok (j + 1) (by omega))) wmX6_205 jc_10 rfl rfl rfl (Nat.le_of_ble_eq_true rfl) (j_fit_rm (by omega) (by omega) (by omega)) rfl ?_
    refine j_if_eq (tgt := 49) x dX6_commands_42 (by decide) (fun hc => absurd hc (by decide)) (fun hc => ?_)
    refine j_iconst (v := 1) x dX6_commands_45 (by decide) ?_
    refine j_goto (tgt := 50) x dX6_commands_46 (by decide) ?_
    refine j_istore_n x dX6_commands_50 (by decide) rfl ?_
    refine j_goto (tgt := 14) x dX6_commands_51 (by decide) ?_
    exact j_goal (ih trivial) (wk_c rfl (wk_c rfl (wk_n (wk_n (wk_0))))) rfl
  · refine j_iload_n x dX6_commands_14 rfl ?_
    refine j_if_eq (tgt := 54) x dX6_commands_15 (by decide) (fun hc => absurd hc (by decide)) (fun hc => ?_)
    refine j_aload_n x dX6_commands_18 rfl ?_
    refine j2_geti (k := 10) x hb dX6_commands_19 jc_10 wfX6_188 (by decide) rfl ?_; rw [gce_p]
    refine j_aload_n x dX6_commands_22 rfl ?_
    refine j2_geti (k := 9) x hb dX6_commands_23 jc_10 wfX6_185 (by decide) rfl ?_; rw [gce_like 94 9 (by omega) (by omega), h9]
    refine j_icmp_ge (tgt := 54) x dX6_commands_26 (by decide) (fun hc => absurd hc (nI_ge (tsg_lt (hg i (by omega)).2 (by decide)) (by omega))) (fun hc => ?_)
    refine j_aload_n x dX6_commands_29 rfl ?_
    refine j_bipush (v := 59) x dX6_commands_30 (by decide) ?_
    refine j2_callVi x hb dX6_commands_32 m_X6_isNext (cx_isNext_Y (d := d) (M := gce (jtr M) n i) (ch := 59) hb hn ((gce_like 94 9 (by omega) (by omega)).trans h9) gce_p (pN_le (hg i (by omega)).1 (ppo_le (fun i hi => hg i (by omega)))) (by decide) (by rw [gce_t]; exact (hg i (by omega)).2)) wmX6_198 jc_10 rfl rfl rfl (Nat.le_of_ble_eq_true rfl) (j_fit_rm (by omega) (by omega) (by omega)) rfl ?_
    refine j_if_eq (tgt := 49) x dX6_commands_35 (by decide) (fun hc => absurd hc (by decide)) (fun hc => ?_)
    refine j_aload_n x dX6_commands_38 rfl ?_
    refine j2_callVi x hb dX6_commands_39 m_X6_isCommand C wmX6_205 jc_10 rfl rfl rfl (Nat.le_of_ble_eq_true rfl) (j_fit_rm (by omega) (by omega) (by omega)) rfl ?_
    refine j_if_eq (tgt := 49) x dX6_commands_42 (by decide) (fun hc => ?_) (fun hc => absurd (rfl) hc)
    refine j_iconst (v := 0) x dX6_commands_49 (by decide) ?_
    refine j_istore_n x dX6_commands_50 (by decide) rfl ?_
    refine j_goto (tgt := 14) x dX6_commands_51 (by decide) ?_
    refine j_iload_n x dX6_commands_14 rfl ?_
    refine j_if_eq (tgt := 54) x dX6_commands_15 (by decide) (fun hc => ?_) (fun hc => absurd (rfl) hc)
    refine j_aload_n x dX6_commands_54 rfl ?_
    refine j_iload_n x dX6_commands_55 rfl ?_
    refine j_if_eq (tgt := 63) x dX6_commands_56 (by decide) (fun hc => ?_) (fun hc => absurd (rfl) hc)
    refine j_aload_n x dX6_commands_63 rfl ?_
    refine j2_geti (k := 10) x hb dX6_commands_64 jc_10 wfX6_188 (by decide) rfl ?_
    refine j2_puti (k := 13) x hb dX6_commands_67 jc_10 wfX6_32 (by decide) rfl rfl rfl rfl ?_
    refine j_iload_n x dX6_commands_70 rfl ?_
    refine j_if_ne (tgt := 85) x dX6_commands_71 (by decide) (fun hc => absurd hc (fun q => q rfl)) (fun hc => ?_)
    refine j_aload_n x dX6_commands_74 rfl ?_
    refine j_iconst (v := 0) x dX6_commands_75 (by decide) ?_
    refine j2_puti (k := 9) x hb dX6_commands_76 jc_10 wfX6_185 (by decide) rfl rfl rfl rfl ?_
    refine j_aload_n x dX6_commands_79 rfl ?_
    refine j_iconst (v := 1) x dX6_commands_80 (by decide) ?_
    refine j2_callVi x hb dX6_commands_81 m_X6_raises (cx_raises (d := d) hb) wmX6_61 jc_10 rfl rfl rfl (Nat.le_of_ble_eq_true rfl) (j_fit_rm (by omega) (by omega) (by omega)) rfl ?_
    exact j_ireturn x hr dX6_commands_84 (by omega) (by omega) ⟨rfl, rfl⟩
theorem cx_commands_C {d : Nat} {b : SBt} {Y : OUt} {M : MM} (hb : 104 ≤ b.2.1) {n : Nat} (hn : n ≤ 60) (h9 : M 94 9 = nI n) {i : Nat} (hg : ∀ j, j < i → pgo (jtr M 100) n j) (hok : ∀ j, j < i + 1 → pF (jtr M 100) n (ppo (jtr M 100) n j) = none) (hE : ¬ tsg (jtr M 100) n (pN (jtr M 100) n (ppo (jtr M 100) n i)) = -1) (hE2 : ¬ tsg (jtr M 100) n (pN (jtr M 100) n (ppo (jtr M 100) n i)) = 59) : CM (d + 5) 0 0 yX6_commands cX6_commands 4 (some .int) [.ref 94] b Y M (.inl (some (.int (0)))) (jrai (jm (jm (gce (jtr M) n i) 94 13 (nI (pN (jtr M 100) n (ppo (jtr M 100) n i)))) 94 9 0) 1) := by
  have h9 : jtr M 94 9 = nI n := (jtr_m (by omega)).trans h9
  refine Con.of (by decide +kernel) (Nat.le_of_ble_eq_true rfl) rfl fun p l e s m args below meth c D tyc A ad0 x hr htab hname => ?_
  change JJ _ _ _ _ _ _ _ _ _ _ _ _ _ _ _ _ _ 0 [some (.ref 94), none, none, none] [] _ 0 0
  refine j_aload_n x dX6_commands_0 rfl ?_
  refine j2_callVv x hb dX6_commands_1 m_X6_tries (cx_tries (d := d) hb) wmX6_76 jc_10 rfl rfl rfl (Nat.le_of_ble_eq_true rfl) (j_fit_rm (by omega) (by omega) (by omega)) rfl ?_
  refine j_aload_n x dX6_commands_4 rfl ?_
  refine j_iconst (v := 0) x dX6_commands_5 (by decide) ?_
  refine j2_puti (k := 10) x hb dX6_commands_6 jc_10 wfX6_188 (by decide) rfl rfl rfl rfl ?_; change JJ _ _ _ _ _ _ _ _ _ _ _ _ _ _ _ _ _ _ _ _ (HH _ _ (gpa (jtr M) n 0)) _ _
  refine j_aload_n x dX6_commands_9 rfl ?_
  refine j2_callVi x hb dX6_commands_10 m_X6_isCommand (cx_first_ok (d := d) (M := jtr M) (i := 0) hb hn h9 (Nat.zero_le n) (hok 0 (by omega))) wmX6_205 jc_10 rfl rfl rfl (Nat.le_of_ble_eq_true rfl) (j_fit_rm (by omega) (by omega) (by omega)) rfl ?_
  refine j_istore_n x dX6_commands_13 (by decide) rfl ?_
  refine j_for i (fun z0 => [some (.ref 94), some (.int 1), none, none]) (fun z0 => gce (jtr M) n z0) (fun _ => True) rfl rfl trivial (fun j hj hP ih => ?_) (fun hP => ?_)
  · refine j_iload_n x dX6_commands_14 rfl ?_
    refine j_if_eq (tgt := 54) x dX6_commands_15 (by decide) (fun hc => absurd hc (by decide)) (fun hc => ?_)
    refine j_aload_n x dX6_commands_18 rfl ?_
    refine j2_geti (k := 10) x hb dX6_commands_19 jc_10 wfX6_188 (by decide) rfl ?_; rw [gce_p]
    refine j_aload_n x dX6_commands_22 rfl ?_
    refine j2_geti (k := 9) x hb dX6_commands_23 jc_10 wfX6_185 (by decide) rfl ?_; rw [gce_like 94 9 (by omega) (by omega), h9]
    refine j_icmp_ge (tgt := 54) x dX6_commands_26 (by decide) (fun hc => absurd hc (nI_ge (tsg_lt (hg j (by omega)).2 (by decide)) (by omega))) (fun hc => ?_)
    refine j_aload_n x dX6_commands_29 rfl ?_
    refine j_bipush (v := 59) x dX6_commands_30 (by decide) ?_
    refine j2_callVi x hb dX6_commands_32 m_X6_isNext (cx_isNext_Y (d := d) (M := gce (jtr M) n j) (ch := 59) hb hn ((gce_like 94 9 (by omega) (by omega)).trans h9) gce_p (pN_le (hg j (by omega)).1 (ppo_le (fun i hi => hg i (by omega)))) (by decide) (by rw [gce_t]; exact (hg j (by omega)).2)) wmX6_198 jc_10 rfl rfl rfl (Nat.le_of_ble_eq_true rfl) (j_fit_rm (by omega) (by omega) (by omega)) rfl ?_
    refine j_if_eq (tgt := 49) x dX6_commands_35 (by decide) (fun hc => absurd hc (by decide)) (fun hc => ?_)
    refine j_aload_n x dX6_commands_38 rfl ?_
    refine j2_callVi x hb dX6_commands_39 m_X6_isCommand (cx_first_ok (d := d) (M := jtr M) (i := j + 1) hb hn h9 (ppo_le (fun i hi => hg i (by omega))) (hok (j + 1) (by omega))) wmX6_205 jc_10 rfl rfl rfl (Nat.le_of_ble_eq_true rfl) (j_fit_rm (by omega) (by omega) (by omega)) rfl ?_
    refine j_if_eq (tgt := 49) x dX6_commands_42 (by decide) (fun hc => absurd hc (by decide)) (fun hc => ?_)
    refine j_iconst (v := 1) x dX6_commands_45 (by decide) ?_
    refine j_goto (tgt := 50) x dX6_commands_46 (by decide) ?_
    refine j_istore_n x dX6_commands_50 (by decide) rfl ?_
    refine j_goto (tgt := 14) x dX6_commands_51 (by decide) ?_
    exact j_goal (ih trivial) (wk_c rfl (wk_c rfl (wk_n (wk_n (wk_0))))) rfl
  · refine j_iload_n x dX6_commands_14 rfl ?_
    refine j_if_eq (tgt := 54) x dX6_commands_15 (by decide) (fun hc => absurd hc (by decide)) (fun hc => ?_)
    refine j_aload_n x dX6_commands_18 rfl ?_
    refine j2_geti (k := 10) x hb dX6_commands_19 jc_10 wfX6_188 (by decide) rfl ?_; rw [gce_p]
    refine j_aload_n x dX6_commands_22 rfl ?_
    refine j2_geti (k := 9) x hb dX6_commands_23 jc_10 wfX6_185 (by decide) rfl ?_; rw [gce_like 94 9 (by omega) (by omega), h9]
    refine j_icmp_ge (tgt := 54) x dX6_commands_26 (by decide) (fun hc => absurd hc (nI_ge (Nat.lt_of_not_le (fun q => hE (by rw [tsg, if_neg (by omega)]))) (by omega))) (fun hc => ?_)
    refine j_aload_n x dX6_commands_29 rfl ?_
    refine j_bipush (v := 59) x dX6_commands_30 (by decide) ?_
    refine j2_callVi x hb dX6_commands_32 m_X6_isNext (cx_isNext_N (d := d) (M := gce (jtr M) n i) (ch := 59) hb hn ((gce_like 94 9 (by omega) (by omega)).trans h9) gce_p (pN_le (hok i (by omega)) (ppo_le (fun i hi => hg i (by omega)))) (by rw [gce_t]; exact hE2)) wmX6_198 jc_10 rfl rfl rfl (Nat.le_of_ble_eq_true rfl) (j_fit_rm (by omega) (by omega) (by omega)) rfl ?_
    refine j_if_eq (tgt := 49) x dX6_commands_35 (by decide) (fun hc => ?_) (fun hc => absurd (rfl) hc)
    refine j_iconst (v := 0) x dX6_commands_49 (by decide) ?_
    refine j_istore_n x dX6_commands_50 (by decide) rfl ?_
    refine j_goto (tgt := 14) x dX6_commands_51 (by decide) ?_
    refine j_iload_n x dX6_commands_14 rfl ?_
    refine j_if_eq (tgt := 54) x dX6_commands_15 (by decide) (fun hc => ?_) (fun hc => absurd (rfl) hc)
    refine j_aload_n x dX6_commands_54 rfl ?_
    refine j_iload_n x dX6_commands_55 rfl ?_
    refine j_if_eq (tgt := 63) x dX6_commands_56 (by decide) (fun hc => ?_) (fun hc => absurd (rfl) hc)
    refine j_aload_n x dX6_commands_63 rfl ?_
    refine j2_geti (k := 10) x hb dX6_commands_64 jc_10 wfX6_188 (by decide) rfl ?_
    refine j2_puti (k := 13) x hb dX6_commands_67 jc_10 wfX6_32 (by decide) rfl rfl rfl rfl ?_
    refine j_iload_n x dX6_commands_70 rfl ?_
    refine j_if_ne (tgt := 85) x dX6_commands_71 (by decide) (fun hc => absurd hc (fun q => q rfl)) (fun hc => ?_)
    refine j_aload_n x dX6_commands_74 rfl ?_
    refine j_iconst (v := 0) x dX6_commands_75 (by decide) ?_
    refine j2_puti (k := 9) x hb dX6_commands_76 jc_10 wfX6_185 (by decide) rfl rfl rfl rfl ?_
    refine j_aload_n x dX6_commands_79 rfl ?_
    refine j_iconst (v := 1) x dX6_commands_80 (by decide) ?_
    refine j2_callVi x hb dX6_commands_81 m_X6_raises (cx_raises (d := d) hb) wmX6_61 jc_10 rfl rfl rfl (Nat.le_of_ble_eq_true rfl) (j_fit_rm (by omega) (by omega) (by omega)) rfl ?_
    exact j_ireturn x hr dX6_commands_84 (by omega) (by omega) ⟨rfl, by rw [gce_p]⟩
/-- the store from which the carrying out begins -/
def gB0 (M : MM) (n i : Nat) : MM := jm (jm (gce (jtr M) n i) 94 13 (-1)) 94 10 0
theorem gB0_n {M : MM} {n i a k : Nat} (h : ¬ (a = 94 ∧ (k = 10 ∨ k = 11 ∨ k = 13))) (h2 : a ≠ 101) : gB0 M n i a k = jtr M a k := by
  rw [gB0, jm_n (by omega), jm_n (by omega), gce_like a k (by omega) h2]
theorem gB0_t {M : MM} {n i : Nat} : gB0 M n i 100 = jtr M 100 := funext fun k => gB0_n (by omega) (by omega)
theorem cx_commands_ok {d : Nat} {b : SBt} {Y : OUt} {M : MM} (hb : 104 ≤ b.2.1) {n : Nat} (hn : n ≤ 60) (h9 : M 94 9 = nI n) {i : Nat} (hg : ∀ j, j < i → pgo (jtr M 100) n j) (hok : ∀ j, j < i + 1 → pF (jtr M 100) n (ppo (jtr M 100) n j) = none) (hE : n ≤ pN (jtr M 100) n (ppo (jtr M 100) n i)) {ct : Nat} (hc56 : ct ≤ 56) (hct : M 95 9 = nI ct) (hz : M 95 1 = 0 ∨ ¬ M 95 1 ≤ 0) (hho : ∀ i, i < ct → ∃ h, h < 8 ∧ jof M i 0 = nI h) {k : Nat} (hk : k ≤ 8) (hk3 : M 94 3 = nI k) (h : ∀ j, j < i + 1 → gcR (gB0 M n i) n ct j = none) : CM (d + 6) 0 0 yX6_commands cX6_commands 4 (some .int) [.ref 94] b Y M (.inl (some (.int (nI (i + 1))))) (jkpg (jm (gcS (gB0 M n i) n ct i) 94 9 0) k) := by
  have h9 : jtr M 94 9 = nI n := (jtr_m (by omega)).trans h9
  refine Con.of (by decide +kernel) (Nat.le_of_ble_eq_true rfl) rfl fun p l e s m args below meth c D tyc A ad0 x hr htab hname => ?_
  change JJ _ _ _ _ _ _ _ _ _ _ _ _ _ _ _ _ _ 0 [some (.ref 94), none, none, none] [] _ 0 0
  refine j_aload_n x dX6_commands_0 rfl ?_
  refine j2_callVv x hb dX6_commands_1 m_X6_tries (cx_tries (d := d) hb) wmX6_76 jc_10 rfl rfl rfl (Nat.le_of_ble_eq_true rfl) (j_fit_rm (by omega) (by omega) (by omega)) rfl ?_
  refine j_aload_n x dX6_commands_4 rfl ?_
  refine j_iconst (v := 0) x dX6_commands_5 (by decide) ?_
  refine j2_puti (k := 10) x hb dX6_commands_6 jc_10 wfX6_188 (by decide) rfl rfl rfl rfl ?_; change JJ _ _ _ _ _ _ _ _ _ _ _ _ _ _ _ _ _ _ _ _ (HH _ _ (gpa (jtr M) n 0)) _ _
  refine j_aload_n x dX6_commands_9 rfl ?_
  refine j2_callVi x hb dX6_commands_10 m_X6_isCommand (cx_first_ok (d := d) (M := jtr M) (i := 0) hb hn h9 (Nat.zero_le n) (hok 0 (by omega))) wmX6_205 jc_10 rfl rfl rfl (Nat.le_of_ble_eq_true rfl) (j_fit_rm (by omega) (by omega) (by omega)) rfl ?_
  refine j_istore_n x dX6_commands_13 (by decide) rfl ?_
  refine j_for i (fun z0 => [some (.ref 94), some (.int 1), none, none]) (fun z0 => gce (jtr M) n z0) (fun _ => True) rfl rfl trivial (fun j hj hP ih => ?_) (fun hP => ?_)
  · refine j_iload_n x dX6_commands_14 rfl ?_
    refine j_if_eq (tgt := 54) x dX6_commands_15 (by decide) (fun hc => absurd hc (by decide)) (fun hc => ?_)
    refine j_aload_n x dX6_commands_18 rfl ?_
    refine j2_geti (k := 10) x hb dX6_commands_19 jc_10 wfX6_188 (by decide) rfl ?_; rw [gce_p]
    refine j_aload_n x dX6_commands_22 rfl ?_
    refine j2_geti (k := 9) x hb dX6_commands_23 jc_10 wfX6_185 (by decide) rfl ?_; rw [gce_like 94 9 (by omega) (by omega), h9]
    refine j_icmp_ge (tgt := 54) x dX6_commands_26 (by decide) (fun hc => absurd hc (nI_ge (tsg_lt (hg j (by omega)).2 (by decide)) (by omega))) (fun hc => ?_)
    refine j_aload_n x dX6_commands_29 rfl ?_
    refine j_bipush (v := 59) x dX6_commands_30 (by decide) ?_
    refine j2_callVi x hb dX6_commands_32 m_X6_isNext (cx_isNext_Y (d := d) (M := gce (jtr M) n j) (ch := 59) hb hn ((gce_like 94 9 (by omega) (by omega)).trans h9) gce_p (pN_le (hg j (by omega)).1 (ppo_le (fun i hi => hg i (by omega)))) (by decide) (by rw [gce_t]; exact (hg j (by omega)).2)) wmX6_198 jc_10 rfl rfl rfl (Nat.le_of_ble_eq_true rfl) (j_fit_rm (by omega) (by omega) (by omega)) rfl ?_
    refine j_if_eq (tgt := 49) x dX6_commands_35 (by decide) (fun hc => absurd hc (by decide)) (fun hc => ?_)
    refine j_aload_n x dX6_commands_38 rfl ?_
    refine j2_callVi x hb dX6_commands_39 m_X6_isCommand (cx_first_ok (d := d) (M := jtr M) (i := j + 1) hb hn h9 (ppo_le (fun i hi => hg i (by omega))) (hok (j + 1) (by omega))) wmX6_205 jc_10 rfl rfl rfl (Nat.le_of_ble_eq_true rfl) (j_fit_rm (by omega) (by omega) (by omega)) rfl ?_
    refine j_if_eq (tgt := 49) x dX6_commands_42 (by decide) (fun hc => absurd hc (by decide)) (fun hc => ?_)
    refine j_iconst (v := 1) x dX6_commands_45 (by decide) ?_
    refine j_goto (tgt := 50) x dX6_commands_46 (by decide) ?_
    refine j_istore_n x dX6_commands_50 (by decide) rfl ?_
    refine j_goto (tgt := 14) x dX6_commands_51 (by decide) ?_
    exact j_goal (ih trivial) (wk_c rfl (wk_c rfl (wk_n (wk_n (wk_0))))) rfl
  · refine j_iload_n x dX6_commands_14 rfl ?_
    refine j_if_eq (tgt := 54) x dX6_commands_15 (by decide) (fun hc => absurd hc (by decide)) (fun hc => ?_)
    refine j_aload_n x dX6_commands_18 rfl ?_
    refine j2_geti (k := 10) x hb dX6_commands_19 jc_10 wfX6_188 (by decide) rfl ?_; rw [gce_p]
    refine j_aload_n x dX6_commands_22 rfl ?_
    refine j2_geti (k := 9) x hb dX6_commands_23 jc_10 wfX6_185 (by decide) rfl ?_; rw [gce_like 94 9 (by omega) (by omega), h9]
    refine j_icmp_ge (tgt := 54) x dX6_commands_26 (by decide) (fun hc => ?_) (fun hc => absurd (nI_le hE (by have := pN_le (hok i (by omega)) (ppo_le (fun i hi => hg i (by omega))); omega)) hc)
    refine j_aload_n x dX6_commands_54 rfl ?_
    refine j_iload_n x dX6_commands_55 rfl ?_
    refine j_if_eq (tgt := 63) x dX6_commands_56 (by decide) (fun hc => absurd hc (by decide)) (fun hc => ?_)
    refine j_iconst (v := (-1)) x dX6_commands_59 (by decide) ?_
    refine j_goto (tgt := 67) x dX6_commands_60 (by decide) ?_
    refine j2_puti (k := 13) x hb dX6_commands_67 jc_10 wfX6_32 (by decide) rfl rfl rfl rfl ?_
    refine j_iload_n x dX6_commands_70 rfl ?_
    refine j_if_ne (tgt := 85) x dX6_commands_71 (by decide) (fun hc => ?_) (fun hc => absurd hc (by decide))
    refine j_aload_n x dX6_commands_85 rfl ?_
    refine j_iconst (v := 0) x dX6_commands_86 (by decide) ?_
    refine j2_puti (k := 10) x hb dX6_commands_87 jc_10 wfX6_188 (by decide) rfl rfl rfl rfl ?_
    refine j_iconst (v := 0) x dX6_commands_90 (by decide) ?_
    refine j_istore_n x dX6_commands_91 (by decide) rfl ?_
    refine j_iconst (v := 1) x dX6_commands_92 (by decide) ?_
    refine j_istore_n x dX6_commands_93 (by decide) rfl ?_
    have k9 : gB0 M n i 94 9 = nI n := (gB0_n (by omega) (by omega)).trans h9
    have k0 : gB0 M n i 94 10 = 0 := jm_s
    have kct : gB0 M n i 95 9 = nI ct := (gB0_n (by omega) (by omega)).trans ((jtr_m (by omega)).trans hct)
    have kz : gB0 M n i 95 1 = 0 ∨ ¬ gB0 M n i 95 1 ≤ 0 := by rw [gB0_n (by omega) (by omega), jtr_m (by omega)]; exact hz
    have kho : ∀ i1, i1 < ct → ∃ h, h < 8 ∧ jof (gB0 M n i) i1 0 = nI h := fun i1 hi => by rw [jof, gB0_n (by omega) (by omega), jtr_m (by omega)]; exact hho i1 hi
    have kg : ∀ j, j < i → pgo (gB0 M n i 100) n j := by rw [gB0_t]; exact hg
    have kok : ∀ j, j < i + 1 → pF (gB0 M n i 100) n (ppo (gB0 M n i 100) n j) = none := by rw [gB0_t]; exact hok
    change JJ _ _ _ _ _ _ _ _ _ _ _ _ _ _ _ _ _ _ _ _ (HH _ _ (gB0 M n i)) _ _
    refine j_for i (fun z0 => [some (.ref 94), some (.int 1), some (.int (nI z0)), some (.int 1)]) (fun z0 => gse (gB0 M n i) n ct z0) (fun _ => True) rfl rfl trivial (fun j hj hP ih => ?_) (fun hP => ?_)
    · refine j_iload_n x dX6_commands_94 rfl ?_
      refine j_if_eq (tgt := 142) x dX6_commands_95 (by decide) (fun hc => absurd hc (by decide)) (fun hc => ?_)
      refine j_aload_n x dX6_commands_98 rfl ?_
      refine j2_callVi x hb dX6_commands_99 m_X6_isCommand (cx_sec_ok (d := d) (M := gB0 M n i) (ct := ct) (i := j) hb hn k9 k0 (ppo_le (fun i hi => kg i (by omega))) (kok j (by omega))) wmX6_205 jc_10 rfl rfl rfl (Nat.le_of_ble_eq_true rfl) (j_fit_rm (by omega) (by omega) (by omega)) rfl ?_
      refine j_istore_n x dX6_commands_102 (by decide) rfl ?_
      refine j_aload_n x dX6_commands_103 rfl ?_
      refine j_iload_n x dX6_commands_104 rfl ?_
      refine j2_puti (k := 16) x hb dX6_commands_105 jc_10 wfX6_39 (by decide) rfl rfl rfl rfl ?_; change JJ _ _ _ _ _ _ _ _ _ _ _ _ _ _ _ _ _ _ _ _ (HH _ _ (gqp (gB0 M n i) n ct j)) _ _
      refine j_aload_n x dX6_commands_108 rfl ?_
      refine j2_callVi x hb dX6_commands_109 m_X6_carries (CM_gn (cx_sec_car (d := d) (M := gB0 M n i) (n := n) (i := j) hb hc56 kct kz kho (kok j (by omega))) (h j (by omega))) wmX6_208 jc_10 rfl rfl rfl (Nat.le_of_ble_eq_true rfl) (j_fit_rm (by omega) (by omega) (by omega)) rfl ?_
      refine j_istore_n x dX6_commands_112 (by decide) rfl ?_
      refine j_iload_n x dX6_commands_113 rfl ?_
      refine j_if_eq (tgt := 120) x dX6_commands_114 (by decide) (fun hc => absurd hc (by decide)) (fun hc => ?_)
      refine j_iinc x dX6_commands_117 rfl (by decide) rfl ?_
      refine j_iload_n x dX6_commands_120 rfl ?_
      refine j_if_eq (tgt := 137) x dX6_commands_121 (by decide) (fun hc => absurd hc (by decide)) (fun hc => ?_)
      refine j_aload_n x dX6_commands_124 rfl ?_
      refine j_bipush (v := 59) x dX6_commands_125 (by decide) ?_
      refine j2_callVi x hb dX6_commands_127 m_X6_isNext (cx_isNext_Y (d := d) (M := gcS (gB0 M n i) n ct j) (ch := 59) hb hn ((gcS_n (Or.inr (Or.inl (by omega)))).trans k9) gcS_p (pN_le (kok j (by omega)) (ppo_le (fun i hi => kg i (by omega)))) (by decide) (by rw [gcS_t]; exact (kg j (by omega)).2)) wmX6_198 jc_10 rfl rfl rfl (Nat.le_of_ble_eq_true rfl) (j_fit_rm (by omega) (by omega) (by omega)) rfl ?_
      refine j_if_eq (tgt := 137) x dX6_commands_130 (by decide) (fun hc => absurd hc (by decide)) (fun hc => ?_)
      refine j_iconst (v := 1) x dX6_commands_133 (by decide) ?_
      refine j_goto (tgt := 138) x dX6_commands_134 (by decide) ?_
      refine j_istore_n x dX6_commands_138 (by decide) rfl ?_
      refine j_goto (tgt := 94) x dX6_commands_139 (by decide) ?_
      exact j_goal (ih trivial) (wk_c rfl (wk_c rfl (wk_c (congrArg (fun z => some (Value.int z)) (nI_1 _)) (wk_c rfl (wk_0))))) gse_s
    · refine j_iload_n x dX6_commands_94 rfl ?_
      refine j_if_eq (tgt := 142) x dX6_commands_95 (by decide) (fun hc => absurd hc (by decide)) (fun hc => ?_)
      refine j_aload_n x dX6_commands_98 rfl ?_
      refine j2_callVi x hb dX6_commands_99 m_X6_isCommand (cx_sec_ok (d := d) (M := gB0 M n i) (ct := ct) (i := i) hb hn k9 k0 (ppo_le (fun i hi => kg i (by omega))) (kok i (by omega))) wmX6_205 jc_10 rfl rfl rfl (Nat.le_of_ble_eq_true rfl) (j_fit_rm (by omega) (by omega) (by omega)) rfl ?_
      refine j_istore_n x dX6_commands_102 (by decide) rfl ?_
      refine j_aload_n x dX6_commands_103 rfl ?_
      refine j_iload_n x dX6_commands_104 rfl ?_
      refine j2_puti (k := 16) x hb dX6_commands_105 jc_10 wfX6_39 (by decide) rfl rfl rfl rfl ?_; change JJ _ _ _ _ _ _ _ _ _ _ _ _ _ _ _ _ _ _ _ _ (HH _ _ (gqp (gB0 M n i) n ct i)) _ _
      refine j_aload_n x dX6_commands_108 rfl ?_
      refine j2_callVi x hb dX6_commands_109 m_X6_carries (CM_gn (cx_sec_car (d := d) (M := gB0 M n i) (n := n) (i := i) hb hc56 kct kz kho (kok i (by omega))) (h i (by omega))) wmX6_208 jc_10 rfl rfl rfl (Nat.le_of_ble_eq_true rfl) (j_fit_rm (by omega) (by omega) (by omega)) rfl ?_
      refine j_istore_n x dX6_commands_112 (by decide) rfl ?_
      refine j_iload_n x dX6_commands_113 rfl ?_
      refine j_if_eq (tgt := 120) x dX6_commands_114 (by decide) (fun hc => absurd hc (by decide)) (fun hc => ?_)
      refine j_iinc x dX6_commands_117 rfl (by decide) rfl ?_
      refine j_iload_n x dX6_commands_120 rfl ?_
      refine j_if_eq (tgt := 137) x dX6_commands_121 (by decide) (fun hc => absurd hc (by decide)) (fun hc => ?_)
      refine j_aload_n x dX6_commands_124 rfl ?_
      refine j_bipush (v := 59) x dX6_commands_125 (by decide) ?_
      refine j2_callVi x hb dX6_commands_127 m_X6_isNext (cx_isNext_N (d := d) (M := gcS (gB0 M n i) n ct i) (ch := 59) hb hn ((gcS_n (Or.inr (Or.inl (by omega)))).trans k9) gcS_p (pN_le (kok i (by omega)) (ppo_le (fun i hi => kg i (by omega)))) (by rw [gcS_t]; exact fun q => absurd (tsg_lt q (by decide)) (by rw [gB0_t]; omega))) wmX6_198 jc_10 rfl rfl rfl (Nat.le_of_ble_eq_true rfl) (j_fit_rm (by omega) (by omega) (by omega)) rfl ?_
      refine j_if_eq (tgt := 137) x dX6_commands_130 (by decide) (fun hc => ?_) (fun hc => absurd (rfl) hc)
      refine j_iconst (v := 0) x dX6_commands_137 (by decide) ?_
      refine j_istore_n x dX6_commands_138 (by decide) rfl ?_
      refine j_goto (tgt := 94) x dX6_commands_139 (by decide) ?_
      refine j_iload_n x dX6_commands_94 rfl ?_
      refine j_if_eq (tgt := 142) x dX6_commands_95 (by decide) (fun hc => ?_) (fun hc => absurd (rfl) hc)
      refine j_aload_n x dX6_commands_142 rfl ?_
      refine j_iconst (v := 0) x dX6_commands_143 (by decide) ?_
      refine j2_puti (k := 9) x hb dX6_commands_144 jc_10 wfX6_185 (by decide) rfl rfl rfl rfl ?_
      refine j_iload_n x dX6_commands_147 rfl ?_
      refine j_if_eq (tgt := 157) x dX6_commands_148 (by decide) (fun hc => absurd hc (by decide)) (fun hc => ?_)
      refine j_aload_n x dX6_commands_151 rfl ?_
      refine j_iload_n x dX6_commands_152 rfl ?_
      refine j2_callVi x hb dX6_commands_153 m_X6_keeps (cx_keepsG (d := d) hb hk ((jm_n (by omega)).trans ((gcS_n (Or.inr (Or.inl (by omega)))).trans ((gB0_n (by omega) (by omega)).trans ((jtr_m (by omega)).trans hk3))))) wmX6_57 jc_10 rfl rfl rfl (Nat.le_of_ble_eq_true rfl) (j_fit_rm (by omega) (by omega) (by omega)) rfl ?_
      exact j_ireturn x hr dX6_commands_156 (by omega) (by omega) ⟨congrArg (fun z => Sum.inl (some (Value.int z))) (nI_1 i), rfl⟩
theorem cx_commands_no {d : Nat} {b : SBt} {Y : OUt} {M : MM} (hb : 104 ≤ b.2.1) {n : Nat} (hn : n ≤ 60) (h9 : M 94 9 = nI n) {i : Nat} (hg : ∀ j, j < i → pgo (jtr M 100) n j) (hok : ∀ j, j < i + 1 → pF (jtr M 100) n (ppo (jtr M 100) n j) = none) (hE : n ≤ pN (jtr M 100) n (ppo (jtr M 100) n i)) {ct : Nat} (hc56 : ct ≤ 56) (hct : M 95 9 = nI ct) (hz : M 95 1 = 0 ∨ ¬ M 95 1 ≤ 0) (hho : ∀ i, i < ct → ∃ h, h < 8 ∧ jof M i 0 = nI h) {i0 : Nat} (hi0 : i0 < i + 1) (h : ∀ j, j < i0 → gcR (gB0 M n i) n ct j = none) {r t : Int32} (h2 : gcR (gB0 M n i) n ct i0 = some (r, t)) : CM (d + 6) 0 0 yX6_commands cX6_commands 4 (some .int) [.ref 94] b Y M (.inl (some (.int (0)))) (jrai (jcp (jm (jrefu (gqp (gB0 M n i) n ct i0) r t) 94 9 0) 96 0 95 0 466) 2) := by
  have h9 : jtr M 94 9 = nI n := (jtr_m (by omega)).trans h9
  refine Con.of (by decide +kernel) (Nat.le_of_ble_eq_true rfl) rfl fun p l e s m args below meth c D tyc A ad0 x hr htab hname => ?_
  change JJ _ _ _ _ _ _ _ _ _ _ _ _ _ _ _ _ _ 0 [some (.ref 94), none, none, none] [] _ 0 0
  refine j_aload_n x dX6_commands_0 rfl ?_
  refine j2_callVv x hb dX6_commands_1 m_X6_tries (cx_tries (d := d) hb) wmX6_76 jc_10 rfl rfl rfl (Nat.le_of_ble_eq_true rfl) (j_fit_rm (by omega) (by omega) (by omega)) rfl ?_
  refine j_aload_n x dX6_commands_4 rfl ?_
  refine j_iconst (v := 0) x dX6_commands_5 (by decide) ?_
  refine j2_puti (k := 10) x hb dX6_commands_6 jc_10 wfX6_188 (by decide) rfl rfl rfl rfl ?_; change JJ _ _ _ _ _ _ _ _ _ _ _ _ _ _ _ _ _ _ _ _ (HH _ _ (gpa (jtr M) n 0)) _ _
  refine j_aload_n x dX6_commands_9 rfl ?_
  refine j2_callVi x hb dX6_commands_10 m_X6_isCommand (cx_first_ok (d := d) (M := jtr M) (i := 0) hb hn h9 (Nat.zero_le n) (hok 0 (by omega))) wmX6_205 jc_10 rfl rfl rfl (Nat.le_of_ble_eq_true rfl) (j_fit_rm (by omega) (by omega) (by omega)) rfl ?_
  refine j_istore_n x dX6_commands_13 (by decide) rfl ?_
  refine j_for i (fun z0 => [some (.ref 94), some (.int 1), none, none]) (fun z0 => gce (jtr M) n z0) (fun _ => True) rfl rfl trivial (fun j hj hP ih => ?_) (fun hP => ?_)
  · refine j_iload_n x dX6_commands_14 rfl ?_
    refine j_if_eq (tgt := 54) x dX6_commands_15 (by decide) (fun hc => absurd hc (by decide)) (fun hc => ?_)
    refine j_aload_n x dX6_commands_18 rfl ?_
    refine j2_geti (k := 10) x hb dX6_commands_19 jc_10 wfX6_188 (by decide) rfl ?_; rw [gce_p]
    refine j_aload_n x dX6_commands_22 rfl ?_
    refine j2_geti (k := 9) x hb dX6_commands_23 jc_10 wfX6_185 (by decide) rfl ?_; rw [gce_like 94 9 (by omega) (by omega), h9]
    refine j_icmp_ge (tgt := 54) x dX6_commands_26 (by decide) (fun hc => absurd hc (nI_ge (tsg_lt (hg j (by omega)).2 (by decide)) (by omega))) (fun hc => ?_)
    refine j_aload_n x dX6_commands_29 rfl ?_
    refine j_bipush (v := 59) x dX6_commands_30 (by decide) ?_
    refine j2_callVi x hb dX6_commands_32 m_X6_isNext (cx_isNext_Y (d := d) (M := gce (jtr M) n j) (ch := 59) hb hn ((gce_like 94 9 (by omega) (by omega)).trans h9) gce_p (pN_le (hg j (by omega)).1 (ppo_le (fun i hi => hg i (by omega)))) (by decide) (by rw [gce_t]; exact (hg j (by omega)).2)) wmX6_198 jc_10 rfl rfl rfl (Nat.le_of_ble_eq_true rfl) (j_fit_rm (by omega) (by omega) (by omega)) rfl ?_
    refine j_if_eq (tgt := 49) x dX6_commands_35 (by decide) (fun hc => absurd hc (by decide)) (fun hc => ?_)
    refine j_aload_n x dX6_commands_38 rfl ?_
    refine j2_callVi x hb dX6_commands_39 m_X6_isCommand (cx_first_ok (d := d) (M := jtr M) (i := j + 1) hb hn h9 (ppo_le (fun i hi => hg i (by omega))) (hok (j + 1) (by omega))) wmX6_205 jc_10 rfl rfl rfl (Nat.le_of_ble_eq_true rfl) (j_fit_rm (by omega) (by omega) (by omega)) rfl ?_
    refine j_if_eq (tgt := 49) x dX6_commands_42 (by decide) (fun hc => absurd hc (by decide)) (fun hc => ?_)
    refine j_iconst (v := 1) x dX6_commands_45 (by decide) ?_
    refine j_goto (tgt := 50) x dX6_commands_46 (by decide) ?_
    refine j_istore_n x dX6_commands_50 (by decide) rfl ?_
    refine j_goto (tgt := 14) x dX6_commands_51 (by decide) ?_
    exact j_goal (ih trivial) (wk_c rfl (wk_c rfl (wk_n (wk_n (wk_0))))) rfl
  · refine j_iload_n x dX6_commands_14 rfl ?_
    refine j_if_eq (tgt := 54) x dX6_commands_15 (by decide) (fun hc => absurd hc (by decide)) (fun hc => ?_)
    refine j_aload_n x dX6_commands_18 rfl ?_
    refine j2_geti (k := 10) x hb dX6_commands_19 jc_10 wfX6_188 (by decide) rfl ?_; rw [gce_p]
    refine j_aload_n x dX6_commands_22 rfl ?_
    refine j2_geti (k := 9) x hb dX6_commands_23 jc_10 wfX6_185 (by decide) rfl ?_; rw [gce_like 94 9 (by omega) (by omega), h9]
    refine j_icmp_ge (tgt := 54) x dX6_commands_26 (by decide) (fun hc => ?_) (fun hc => absurd (nI_le hE (by have := pN_le (hok i (by omega)) (ppo_le (fun i hi => hg i (by omega))); omega)) hc)
    refine j_aload_n x dX6_commands_54 rfl ?_
    refine j_iload_n x dX6_commands_55 rfl ?_
    refine j_if_eq (tgt := 63) x dX6_commands_56 (by decide) (fun hc => absurd hc (by decide)) (fun hc => ?_)
    refine j_iconst (v := (-1)) x dX6_commands_59 (by decide) ?_
    refine j_goto (tgt := 67) x dX6_commands_60 (by decide) ?_
    refine j2_puti (k := 13) x hb dX6_commands_67 jc_10 wfX6_32 (by decide) rfl rfl rfl rfl ?_
    refine j_iload_n x dX6_commands_70 rfl ?_
    refine j_if_ne (tgt := 85) x dX6_commands_71 (by decide) (fun hc => ?_) (fun hc => absurd hc (by decide))
    refine j_aload_n x dX6_commands_85 rfl ?_
    refine j_iconst (v := 0) x dX6_commands_86 (by decide) ?_
    refine j2_puti (k := 10) x hb dX6_commands_87 jc_10 wfX6_188 (by decide) rfl rfl rfl rfl ?_
    refine j_iconst (v := 0) x dX6_commands_90 (by decide) ?_
    refine j_istore_n x dX6_commands_91 (by decide) rfl ?_
    refine j_iconst (v := 1) x dX6_commands_92 (by decide) ?_
    refine j_istore_n x dX6_commands_93 (by decide) rfl ?_
    have k9 : gB0 M n i 94 9 = nI n := (gB0_n (by omega) (by omega)).trans h9
    have k0 : gB0 M n i 94 10 = 0 := jm_s
    have kct : gB0 M n i 95 9 = nI ct := (gB0_n (by omega) (by omega)).trans ((jtr_m (by omega)).trans hct)
    have kz : gB0 M n i 95 1 = 0 ∨ ¬ gB0 M n i 95 1 ≤ 0 := by rw [gB0_n (by omega) (by omega), jtr_m (by omega)]; exact hz
    have kho : ∀ i1, i1 < ct → ∃ h, h < 8 ∧ jof (gB0 M n i) i1 0 = nI h := fun i1 hi => by rw [jof, gB0_n (by omega) (by omega), jtr_m (by omega)]; exact hho i1 hi
    have kg : ∀ j, j < i → pgo (gB0 M n i 100) n j := by rw [gB0_t]; exact hg
    have kok : ∀ j, j < i + 1 → pF (gB0 M n i 100) n (ppo (gB0 M n i 100) n j) = none := by rw [gB0_t]; exact hok
    change JJ _ _ _ _ _ _ _ _ _ _ _ _ _ _ _ _ _ _ _ _ (HH _ _ (gB0 M n i)) _ _
    refine j_for i0 (fun z0 => [some (.ref 94), some (.int 1), some (.int (nI z0)), some (.int 1)]) (fun z0 => gse (gB0 M n i) n ct z0) (fun _ => True) rfl rfl trivial (fun j hj hP ih => ?_) (fun hP => ?_)
    · refine j_iload_n x dX6_commands_94 rfl ?_
      refine j_if_eq (tgt := 142) x dX6_commands_95 (by decide) (fun hc => absurd hc (by decide)) (fun hc => ?_)
      refine j_aload_n x dX6_commands_98 rfl ?_
      refine j2_callVi x hb dX6_commands_99 m_X6_isCommand (cx_sec_ok (d := d) (M := gB0 M n i) (ct := ct) (i := j) hb hn k9 k0 (ppo_le (fun i hi => kg i (by omega))) (kok j (by omega))) wmX6_205 jc_10 rfl rfl rfl (Nat.le_of_ble_eq_true rfl) (j_fit_rm (by omega) (by omega) (by omega)) rfl ?_
      refine j_istore_n x dX6_commands_102 (by decide) rfl ?_
      refine j_aload_n x dX6_commands_103 rfl ?_
      refine j_iload_n x dX6_commands_104 rfl ?_
      refine j2_puti (k := 16) x hb dX6_commands_105 jc_10 wfX6_39 (by decide) rfl rfl rfl rfl ?_; change JJ _ _ _ _ _ _ _ _ _ _ _ _ _ _ _ _ _ _ _ _ (HH _ _ (gqp (gB0 M n i) n ct j)) _ _
      refine j_aload_n x dX6_commands_108 rfl ?_
      refine j2_callVi x hb dX6_commands_109 m_X6_carries (CM_gn (cx_sec_car (d := d) (M := gB0 M n i) (n := n) (i := j) hb hc56 kct kz kho (kok j (by omega))) (h j (by omega))) wmX6_208 jc_10 rfl rfl rfl (Nat.le_of_ble_eq_true rfl) (j_fit_rm (by omega) (by omega) (by omega)) rfl ?_
      refine j_istore_n x dX6_commands_112 (by decide) rfl ?_
      refine j_iload_n x dX6_commands_113 rfl ?_
      refine j_if_eq (tgt := 120) x dX6_commands_114 (by decide) (fun hc => absurd hc (by decide)) (fun hc => ?_)
      refine j_iinc x dX6_commands_117 rfl (by decide) rfl ?_
      refine j_iload_n x dX6_commands_120 rfl ?_
      refine j_if_eq (tgt := 137) x dX6_commands_121 (by decide) (fun hc => absurd hc (by decide)) (fun hc => ?_)
      refine j_aload_n x dX6_commands_124 rfl ?_
      refine j_bipush (v := 59) x dX6_commands_125 (by decide) ?_
      refine j2_callVi x hb dX6_commands_127 m_X6_isNext (cx_isNext_Y (d := d) (M := gcS (gB0 M n i) n ct j) (ch := 59) hb hn ((gcS_n (Or.inr (Or.inl (by omega)))).trans k9) gcS_p (pN_le (kok j (by omega)) (ppo_le (fun i hi => kg i (by omega)))) (by decide) (by rw [gcS_t]; exact (kg j (by omega)).2)) wmX6_198 jc_10 rfl rfl rfl (Nat.le_of_ble_eq_true rfl) (j_fit_rm (by omega) (by omega) (by omega)) rfl ?_
      refine j_if_eq (tgt := 137) x dX6_commands_130 (by decide) (fun hc => absurd hc (by decide)) (fun hc => ?_)
      refine j_iconst (v := 1) x dX6_commands_133 (by decide) ?_
      refine j_goto (tgt := 138) x dX6_commands_134 (by decide) ?_
      refine j_istore_n x dX6_commands_138 (by decide) rfl ?_
      refine j_goto (tgt := 94) x dX6_commands_139 (by decide) ?_
      exact j_goal (ih trivial) (wk_c rfl (wk_c rfl (wk_c (congrArg (fun z => some (Value.int z)) (nI_1 _)) (wk_c rfl (wk_0))))) gse_s
    · refine j_iload_n x dX6_commands_94 rfl ?_
      refine j_if_eq (tgt := 142) x dX6_commands_95 (by decide) (fun hc => absurd hc (by decide)) (fun hc => ?_)
      refine j_aload_n x dX6_commands_98 rfl ?_
      refine j2_callVi x hb dX6_commands_99 m_X6_isCommand (cx_sec_ok (d := d) (M := gB0 M n i) (ct := ct) (i := i0) hb hn k9 k0 (ppo_le (fun i hi => kg i (by omega))) (kok i0 (by omega))) wmX6_205 jc_10 rfl rfl rfl (Nat.le_of_ble_eq_true rfl) (j_fit_rm (by omega) (by omega) (by omega)) rfl ?_
      refine j_istore_n x dX6_commands_102 (by decide) rfl ?_
      refine j_aload_n x dX6_commands_103 rfl ?_
      refine j_iload_n x dX6_commands_104 rfl ?_
      refine j2_puti (k := 16) x hb dX6_commands_105 jc_10 wfX6_39 (by decide) rfl rfl rfl rfl ?_; change JJ _ _ _ _ _ _ _ _ _ _ _ _ _ _ _ _ _ _ _ _ (HH _ _ (gqp (gB0 M n i) n ct i0)) _ _
      refine j_aload_n x dX6_commands_108 rfl ?_
      refine j2_callVi x hb dX6_commands_109 m_X6_carries (CM_gs (cx_sec_car (d := d) (M := gB0 M n i) (n := n) (i := i0) hb hc56 kct kz kho (kok i0 (by omega))) h2) wmX6_208 jc_10 rfl rfl rfl (Nat.le_of_ble_eq_true rfl) (j_fit_rm (by omega) (by omega) (by omega)) rfl ?_
      refine j_istore_n x dX6_commands_112 (by decide) rfl ?_
      refine j_iload_n x dX6_commands_113 rfl ?_
      refine j_if_eq (tgt := 120) x dX6_commands_114 (by decide) (fun hc => ?_) (fun hc => absurd (rfl) hc)
      refine j_iload_n x dX6_commands_120 rfl ?_
      refine j_if_eq (tgt := 137) x dX6_commands_121 (by decide) (fun hc => ?_) (fun hc => absurd (rfl) hc)
      refine j_iconst (v := 0) x dX6_commands_137 (by decide) ?_
      refine j_istore_n x dX6_commands_138 (by decide) rfl ?_
      refine j_goto (tgt := 94) x dX6_commands_139 (by decide) ?_
      refine j_iload_n x dX6_commands_94 rfl ?_
      refine j_if_eq (tgt := 142) x dX6_commands_95 (by decide) (fun hc => ?_) (fun hc => absurd (rfl) hc)
      refine j_aload_n x dX6_commands_142 rfl ?_
      refine j_iconst (v := 0) x dX6_commands_143 (by decide) ?_
      refine j2_puti (k := 9) x hb dX6_commands_144 jc_10 wfX6_185 (by decide) rfl rfl rfl rfl ?_
      refine j_iload_n x dX6_commands_147 rfl ?_
      refine j_if_eq (tgt := 157) x dX6_commands_148 (by decide) (fun hc => ?_) (fun hc => absurd (rfl) hc)
      refine j_aload_n x dX6_commands_157 rfl ?_
      refine j2_callVv x hb dX6_commands_158 m_X6_comesBack (cx_comesBack (d := d) hb) wmX6_211 jc_10 rfl rfl rfl (Nat.le_of_ble_eq_true rfl) (j_fit_rm (by omega) (by omega) (by omega)) rfl ?_
      refine j_aload_n x dX6_commands_161 rfl ?_
      refine j_iconst (v := 2) x dX6_commands_162 (by decide) ?_
      refine j2_callVi x hb dX6_commands_163 m_X6_raises (cx_raises (d := d) hb) wmX6_61 jc_10 rfl rfl rfl (Nat.le_of_ble_eq_true rfl) (j_fit_rm (by omega) (by omega) (by omega)) rfl ?_
      exact j_ireturn x hr dX6_commands_166 (by omega) (by omega) ⟨rfl, rfl⟩
end

section
/-! ===== the reference: its line ===== -/
theorem cx_writesNumber_S {d : Nat} {b : SBt} {Y : OUt} {M N : MM} (hb : 104 ≤ b.2.1) {q v : Nat} (hq : q < 40) (hv : 9 < v) (hv2 : v < 100000) (C : CM d 0 0 yX6_writesNumber cX6_writesNumber 2 none [.ref 94, .int (nI (v / 10))] b Y M (.inl none) N) (h7 : N 94 7 = nI q) : CM (d + 1) 0 0 yX6_writesNumber cX6_writesNumber 2 none [.ref 94, .int (nI v)] b Y M (.inl none) (gW N q v) := by
  refine Con.of (by decide +kernel) (Nat.le_of_ble_eq_true rfl) rfl fun p l e s m args below meth c D tyc A ad0 x hr htab hname => ?_
  change JJ _ _ _ _ _ _ _ _ _ _ _ _ _ _ _ _ _ 0 [some (.ref 94), some (.int (nI v))] [] _ 0 0
  refine j_iload_n x dX6_writesNumber_0 rfl ?_
  refine j_bipush (v := 9) x dX6_writesNumber_1 (by decide) ?_
  refine j_icmp_le (tgt := 14) x dX6_writesNumber_3 (by decide) (fun hc => absurd hc (show ¬ nI v ≤ nI 9 from nI_ge (by omega) (by omega))) (fun hc => ?_)
  refine j_aload_n x dX6_writesNumber_6 rfl ?_
  refine j_iload_n x dX6_writesNumber_7 rfl ?_
  refine j_bipush (v := 10) x dX6_writesNumber_8 (by decide) ?_
  refine j_idiv x dX6_writesNumber_10 (by decide) ?_; rw [show (10 : Int32) = nI 10 from rfl, nI_div2 (by omega) (by omega) (by omega)]
  refine j2_callVv x hb dX6_writesNumber_11 m_X6_writesNumber C wmX6_214 jc_10 rfl rfl rfl (Nat.le_of_ble_eq_true rfl) (j_fit_rm (by omega) (by omega) (by omega)) rfl ?_
  refine j_aload_n x dX6_writesNumber_14 rfl ?_
  refine j2_getr (k := 6) (r := 99) x hb dX6_writesNumber_15 jc_10 wfX6_22 (by decide) rfl ?_
  refine j_aload_n x dX6_writesNumber_18 rfl ?_
  refine j_dup x dX6_writesNumber_19 rfl ?_
  refine j2_geti (k := 7) x hb dX6_writesNumber_20 jc_10 wfX6_218 (by decide) rfl ?_
  refine j_dup_x1 x dX6_writesNumber_23 rfl rfl ?_
  refine j_iconst (v := 1) x dX6_writesNumber_24 (by decide) ?_
  refine j_iadd x dX6_writesNumber_25 ?_
  refine j2_puti (k := 7) x hb dX6_writesNumber_26 jc_10 wfX6_218 (by decide) rfl rfl rfl rfl ?_
  refine j_bipush (v := 48) x dX6_writesNumber_29 (by decide) ?_
  refine j_iload_n x dX6_writesNumber_31 rfl ?_
  refine j_bipush (v := 10) x dX6_writesNumber_32 (by decide) ?_
  refine j_irem x dX6_writesNumber_34 (by decide) ?_; rw [show (10 : Int32) = nI 10 from rfl, nI_rem (by omega) (by omega) (by omega)]
  refine j_iadd x dX6_writesNumber_35 ?_; rw [show (48 : Int32) = nI 48 from rfl, nI_add]
  refine j2_iasn x hb dX6_writesNumber_36 fa_99 (j := q) (by rw [h7]; exact vp_in_nI (by omega) (by decide)) (by rw [h7]; exact nI_clamp (by omega)) ?_
  exact j_return x hr dX6_writesNumber_37 (by omega) (by omega) ⟨rfl, by rw [h7, nI_1]; rfl⟩
def gLn (M N : MM) : Prop := ∀ i k, i ≠ 99 → ¬ (i = 94 ∧ k = 7) → N i k = M i k
theorem gW_ln {M N : MM} {q v : Nat} (h : gLn M N) : gLn M (gW N q v) := fun i k h1 h2 => by rw [gW, jm_n (by omega), jm_n (by omega)]; exact h i k h1 h2
theorem gW_7 {M : MM} {q v : Nat} : gW M q v 94 7 = nI (q + 1) := by rw [gW, jm_n (by omega), jm_s]
theorem gLn_0 {M : MM} : gLn M M := fun _ _ _ _ => rfl
theorem gLn_w {M N : MM} {q : Nat} {v w : Int32} (h : gLn M N) : gLn M (jm (jm N 94 7 v) 99 q w) := fun i k h1 h2 => by rw [jm_n (by omega), jm_n (by omega)]; exact h i k h1 h2
theorem gLn_t {M N N2 : MM} (h : gLn M N) (h2 : gLn N N2) : gLn M N2 := fun i k h3 h4 => (h2 i k h3 h4).trans (h i k h3 h4)
/-- a number below 10000 is written: at most four signs -/
theorem cx_wn {d : Nat} {b : SBt} {Y : OUt} {M : MM} (hb : 104 ≤ b.2.1) {q v : Nat} (hq : q + 3 < 40) (h7 : M 94 7 = nI q) (hv : v < 10000) : ∃ N, gLn M N ∧ (∃ w, w ≤ 4 ∧ N 94 7 = nI (q + w)) ∧ CM (d + 3) 0 0 yX6_writesNumber cX6_writesNumber 2 none [.ref 94, .int (nI v)] b Y M (.inl none) N := by
  by_cases h1 : v < 10
  · exact ⟨_, gW_ln gLn_0, ⟨1, by omega, gW_7⟩, cx_writesNumber_1 hb (by omega) h7 h1⟩
  · have e1 := cx_writesNumber_1 (d := d) (Y := Y) (v := v % 10) hb (show q < 40 by omega) h7 (by omega)
    by_cases h2 : v < 100
    · exact ⟨_, gW_ln (gW_ln gLn_0), ⟨2, by omega, gW_7⟩, cx_writesNumber_S (d := d + 2) hb (q := q + 1) (by omega) (by omega) (by omega) (cx_writesNumber_1 hb (by omega) h7 (by omega)) gW_7⟩
    · by_cases h3 : v < 1000
      · exact ⟨_, gW_ln (gW_ln (gW_ln gLn_0)), ⟨3, by omega, gW_7⟩, cx_writesNumber_S (d := d + 2) hb (q := q + 2) (by omega) (by omega) (by omega) (cx_writesNumber_S (d := d + 1) hb (q := q + 1) (by omega) (by omega) (by omega) (cx_writesNumber_1 hb (by omega) h7 (by omega)) gW_7) gW_7⟩
      · exact ⟨_, gW_ln (gW_ln (gW_ln (gW_ln gLn_0))), ⟨4, by omega, gW_7⟩, cx_writesNumber_S (d := d + 2) hb (q := q + 3) (by omega) (by omega) (by omega) (cx_writesNumber_S (d := d + 1) hb (q := q + 2) (by omega) (by omega) (by omega) (cx_writesNumber_S (d := d) hb (q := q + 1) (by omega) (by omega) (by omega) (cx_writesNumber_1 hb (by omega) h7 (by omega)) gW_7) gW_7) gW_7⟩
theorem cx_has2_k {d : Nat} {b : SBt} {Y : OUt} {M : MM} (hb : 104 ≤ b.2.1) {t : Int32} {n : Nat} (hn : n ≤ 56) (hct : M 95 9 = nI n) {j : Nat} (hj : j < 6) : CM (d + 3) 0 0 yX6_has_ cX6_has_ 3 (some .int) [.ref 94, .int t, .int (nI (j + 1))] b Y M (.inl (some (.int (jsum (fHas M t (j + 1) (-1)) n)))) (M) := by
  rcases (show j = 0 ∨ j = 1 ∨ j = 2 ∨ j = 3 ∨ j = 4 ∨ j = 5 by omega) with rfl | rfl | rfl | rfl | rfl | rfl
  · exact cx_has2_1 hb hn hct
  · exact cx_has2_2 hb hn hct
  · exact cx_has2_3 hb hn hct
  · exact cx_has2_4 hb hn hct
  · exact cx_has2_5 hb hn hct
  · exact cx_has2_6 hb hn hct
theorem fHas_c {M N : MM} (h : ∀ k, N 95 k = M 95 k) {t : Int32} {k : Nat} {s : Int32} : fHas N t k s = fHas M t k s := funext fun m => by
  have e : ∀ m w, jof N m w = jof M m w := fun m w => h _
  unfold fHas
  simp only [e, h]
set_option maxHeartbeats 4000000 in
theorem cx_line_ok {d : Nat} {b : SBt} {Y : OUt} {M : MM} (hb : 104 ≤ b.2.1) {t : Int32} {t1 : Nat} (ht : t = nI t1) (ht8 : t1 < 8) {n : Nat} (hn : n ≤ 56) (hct : M 95 9 = nI n) {w : Nat} (hw : w ≤ 8) (h0 : M 95 0 = nI w) (hT : ¬ t < 0 ∧ ¬ M 95 0 - 1 < t) (hv : ∀ j, j < 6 → ∃ v, v < 10000 ∧ jsum (fHas (jm M 94 19 0) t (j + 1) (-1)) n = nI v) : Con (d + 6) 0 0 yX6_line cX6_line 3 (some .int) [.ref 94, .int t] (HH b Y M) (fun o k => ∃ (N : MM) (v : Int32), o = .inl (some (.int v)) ∧ k = HH b Y N ∧ gLn (jm M 94 19 0) N ∧ ∃ q, q ≤ 36 ∧ N 94 7 = nI q) := by
  refine Con.of (by decide +kernel) (Nat.le_of_ble_eq_true rfl) rfl fun p l e s m args below meth c D tyc A ad0 x hr htab hname => ?_
  change JJ _ _ _ _ _ _ _ _ _ _ _ _ _ _ _ _ _ 0 [some (.ref 94), some (.int t), none] [] _ 0 0
  refine j_aload_n x dX6_line_0 rfl ?_
  refine j_iconst (v := 0) x dX6_line_1 (by decide) ?_
  refine j2_puti (k := 19) x hb dX6_line_2 jc_10 wfX6_36 (by decide) rfl rfl rfl rfl ?_
  refine j_aload_n x dX6_line_5 rfl ?_
  refine j_iload_n x dX6_line_6 rfl ?_
  refine j2_callVi x hb dX6_line_7 m_X6_isTeam (CM_v (cx_isTeam (d := d) hb) (jb_t hT)) wmX6_91 jc_10 rfl rfl rfl (Nat.le_of_ble_eq_true rfl) (j_fit_rm (by omega) (by omega) (by omega)) rfl ?_
  refine j_if_ne (tgt := 19) x dX6_line_10 (by decide) (fun hc => ?_) (fun hc => absurd hc (by decide))
  refine j_aload_n x dX6_line_19 rfl ?_
  refine j_iconst (v := 0) x dX6_line_20 (by decide) ?_
  refine j2_puti (k := 7) x hb dX6_line_21 jc_10 wfX6_218 (by decide) rfl rfl rfl rfl ?_
  obtain ⟨N1, hl1, ⟨w1, hw1, h71⟩, hC1⟩ := cx_wn (d := d) (Y := Y) (M := jm (jm M 94 19 0) 94 7 0) hb (q := 0) (v := t1) (by decide) jm_s (by omega)
  have hl1 : gLn (jm M 94 19 0) N1 := gLn_t (fun i k h1 h2 => jm_n (by omega)) hl1
  rw [Nat.zero_add] at h71
  refine j_aload_n x dX6_line_24 rfl ?_
  refine j_iload_n x dX6_line_25 rfl ?_
  refine j2_callVv x hb dX6_line_26 m_X6_writesNumber (ht ▸ hC1) wmX6_214 jc_10 rfl rfl rfl (Nat.le_of_ble_eq_true rfl) (j_fit_rm (by omega) (by omega) (by omega)) rfl ?_
  refine j_aload_n x dX6_line_29 rfl ?_
  refine j2_getr (k := 6) (r := 99) x hb dX6_line_30 jc_10 wfX6_22 (by decide) rfl ?_
  refine j_aload_n x dX6_line_33 rfl ?_
  refine j_dup x dX6_line_34 rfl ?_
  refine j2_geti (k := 7) x hb dX6_line_35 jc_10 wfX6_218 (by decide) rfl ?_; rw [h71]
  refine j_dup_x1 x dX6_line_38 rfl rfl ?_
  refine j_iconst (v := 1) x dX6_line_39 (by decide) ?_
  refine j_iadd x dX6_line_40 ?_
  refine j2_puti (k := 7) x hb dX6_line_41 jc_10 wfX6_218 (by decide) rfl rfl rfl rfl ?_
  refine j_bipush (v := 58) x dX6_line_44 (by decide) ?_
  refine j2_iasn x hb dX6_line_46 fa_99 (j := w1) (vp_in_nI (by omega) (by decide)) (nI_clamp (by omega)) ?_
  refine j_iconst (v := 1) x dX6_line_47 (by decide) ?_
  refine j_istore_n x dX6_line_48 (by decide) rfl ?_
  refine j_up 6 (fun z0 => [some (.ref 94), some (.int t), some (.int (nI (z0 + 1)))]) (fun j N => gLn (jm M 94 19 0) N ∧ ∃ q, q ≤ 5 + 5 * j ∧ N 94 7 = nI q) rfl ⟨gLn_w hl1, w1 + 1, by omega, by rw [jm_n (by omega), jm_s, nI_1]⟩ (fun j N hj hP ih2 => ?_) (fun N hP => ?_)
  · obtain ⟨hln, q, hq, h7⟩ := hP
    obtain ⟨v2, hv2, e2⟩ := hv j hj
    obtain ⟨N2, hl2, ⟨w2, hw2, h8⟩, hC⟩ := cx_wn (d := d) (Y := Y) (M := N) hb (q := q) (by omega) h7 hv2
    refine j_iload_n x dX6_line_49 rfl ?_
    refine j_bipush (v := 7) x dX6_line_50 (by decide) ?_
    refine j_icmp_ge (tgt := 120) x dX6_line_52 (by decide) (fun hc => absurd hc (show ¬ nI 7 ≤ nI (j + 1) from nI_ge (by omega) (by decide))) (fun hc => ?_)
    refine j_aload_n x dX6_line_55 rfl ?_
    refine j_aload_n x dX6_line_56 rfl ?_
    refine j_iload_n x dX6_line_57 rfl ?_
    refine j_iload_n x dX6_line_58 rfl ?_
    refine j2_callVi x hb dX6_line_59 m_X6_has_ (CM_v (w := nI v2) (cx_has2_k (d := d) hb hn ((hln 95 9 (by omega) (by omega)).trans (by rw [jm_n (by omega)]; exact hct)) hj) (by rw [fHas_c (fun k => (hln 95 k (by omega) (by omega)).trans (jm_n (by omega)))]; exact e2)) wmX6_156 jc_10 rfl rfl rfl (Nat.le_of_ble_eq_true rfl) (j_fit_rm (by omega) (by omega) (by omega)) rfl ?_
    refine j2_callVv x hb dX6_line_62 m_X6_writesNumber hC wmX6_214 jc_10 rfl rfl rfl (Nat.le_of_ble_eq_true rfl) (j_fit_rm (by omega) (by omega) (by omega)) rfl ?_
    refine j_iload_n x dX6_line_65 rfl ?_
    refine j_bipush (v := 6) x dX6_line_66 (by decide) ?_
    refine j_icmp_ge (tgt := 114) x dX6_line_68 (by decide) (fun g1 => ?_) (fun g1 => ?_)
    · refine j_iinc x dX6_line_114 rfl (by decide) rfl ?_
      refine j_goto (tgt := 49) x dX6_line_117 (by decide) ?_
      exact j_goal (ih2 _ ⟨gLn_t hln hl2, q + w2, by omega, h8⟩) (wk_c rfl (wk_c rfl (wk_c (congrArg (fun z => some (Value.int z)) (nI_1 _)) (wk_0)))) rfl
    · refine j_aload_n x dX6_line_71 rfl ?_
      refine j2_getr (k := 6) (r := 99) x hb dX6_line_72 jc_10 wfX6_22 (by decide) rfl ?_
      refine j_aload_n x dX6_line_75 rfl ?_
      refine j_dup x dX6_line_76 rfl ?_
      refine j2_geti (k := 7) x hb dX6_line_77 jc_10 wfX6_218 (by decide) rfl ?_; rw [h8]
      refine j_dup_x1 x dX6_line_80 rfl rfl ?_
      refine j_iconst (v := 1) x dX6_line_81 (by decide) ?_
      refine j_iadd x dX6_line_82 ?_
      refine j2_puti (k := 7) x hb dX6_line_83 jc_10 wfX6_218 (by decide) rfl rfl rfl rfl ?_
      refine j_iload_n x dX6_line_86 rfl ?_
      refine j_iconst (v := 1) x dX6_line_87 (by decide) ?_
      refine j_icmp_eq (tgt := 96) x dX6_line_88 (by decide) (fun g2 => ?_) (fun g2 => ?_)
      · refine j_bipush (v := 32) x dX6_line_96 (by decide) ?_
        refine j_goto (tgt := 113) x dX6_line_98 (by decide) ?_
        refine j2_iasn x hb dX6_line_113 fa_99 (j := (q + w2)) (vp_in_nI (by omega) (by decide)) (nI_clamp (by omega)) ?_
        refine j_iinc x dX6_line_114 rfl (by decide) rfl ?_
        refine j_goto (tgt := 49) x dX6_line_117 (by decide) ?_
        exact j_goal (ih2 _ ⟨gLn_w (gLn_t hln hl2), q + w2 + 1, by omega, by rw [jm_n (by omega), jm_s, nI_1]⟩) (wk_c rfl (wk_c rfl (wk_c (congrArg (fun z => some (Value.int z)) (nI_1 _)) (wk_0)))) rfl
      · refine j_iload_n x dX6_line_91 rfl ?_
        refine j_iconst (v := 4) x dX6_line_92 (by decide) ?_
        refine j_icmp_ne (tgt := 101) x dX6_line_93 (by decide) (fun g3 => ?_) (fun g3 => ?_)
        · refine j_iload_n x dX6_line_101 rfl ?_
          refine j_iconst (v := 5) x dX6_line_102 (by decide) ?_
          refine j_icmp_ne (tgt := 111) x dX6_line_103 (by decide) (fun g4 => ?_) (fun g4 => ?_)
          · refine j_bipush (v := 45) x dX6_line_111 (by decide) ?_
            refine j2_iasn x hb dX6_line_113 fa_99 (j := (q + w2)) (vp_in_nI (by omega) (by decide)) (nI_clamp (by omega)) ?_
            refine j_iinc x dX6_line_114 rfl (by decide) rfl ?_
            refine j_goto (tgt := 49) x dX6_line_117 (by decide) ?_
            exact j_goal (ih2 _ ⟨gLn_w (gLn_t hln hl2), q + w2 + 1, by omega, by rw [jm_n (by omega), jm_s, nI_1]⟩) (wk_c rfl (wk_c rfl (wk_c (congrArg (fun z => some (Value.int z)) (nI_1 _)) (wk_0)))) rfl
          · refine j_bipush (v := 58) x dX6_line_106 (by decide) ?_
            refine j_goto (tgt := 113) x dX6_line_108 (by decide) ?_
            refine j2_iasn x hb dX6_line_113 fa_99 (j := (q + w2)) (vp_in_nI (by omega) (by decide)) (nI_clamp (by omega)) ?_
            refine j_iinc x dX6_line_114 rfl (by decide) rfl ?_
            refine j_goto (tgt := 49) x dX6_line_117 (by decide) ?_
            exact j_goal (ih2 _ ⟨gLn_w (gLn_t hln hl2), q + w2 + 1, by omega, by rw [jm_n (by omega), jm_s, nI_1]⟩) (wk_c rfl (wk_c rfl (wk_c (congrArg (fun z => some (Value.int z)) (nI_1 _)) (wk_0)))) rfl
        · refine j_bipush (v := 32) x dX6_line_96 (by decide) ?_
          refine j_goto (tgt := 113) x dX6_line_98 (by decide) ?_
          refine j2_iasn x hb dX6_line_113 fa_99 (j := (q + w2)) (vp_in_nI (by omega) (by decide)) (nI_clamp (by omega)) ?_
          refine j_iinc x dX6_line_114 rfl (by decide) rfl ?_
          refine j_goto (tgt := 49) x dX6_line_117 (by decide) ?_
          exact j_goal (ih2 _ ⟨gLn_w (gLn_t hln hl2), q + w2 + 1, by omega, by rw [jm_n (by omega), jm_s, nI_1]⟩) (wk_c rfl (wk_c rfl (wk_c (congrArg (fun z => some (Value.int z)) (nI_1 _)) (wk_0)))) rfl
  · obtain ⟨hln, q, hq, h7⟩ := hP
    refine j_iload_n x dX6_line_49 rfl ?_
    refine j_bipush (v := 7) x dX6_line_50 (by decide) ?_
    refine j_icmp_ge (tgt := 120) x dX6_line_52 (by decide) (fun hc => ?_) (fun hc => absurd (show nI 7 ≤ nI (6 + 1) from nI_le (by omega) (by omega)) hc)
    refine j_aload_n x dX6_line_120 rfl ?_
    refine j_iload_n x dX6_line_121 rfl ?_
    refine j2_callVi x hb dX6_line_122 m_X6_isSafeNow (cx_isSafeNow (d := d) hb hn ((hln 95 9 (by omega) (by omega)).trans (by rw [jm_n (by omega)]; exact hct)) hw ((hln 95 0 (by omega) (by omega)).trans (by rw [jm_n (by omega)]; exact h0))) wmX6_176 jc_10 rfl rfl rfl (Nat.le_of_ble_eq_true rfl) (j_fit_rm (by omega) (by omega) (by omega)) rfl ?_
    refine j_if_eq (tgt := 149) x dX6_line_125 (by decide) (fun g5 => ?_) (fun g5 => ?_)
    · refine j_aload_n x dX6_line_149 rfl ?_
      refine j_iload_n x dX6_line_150 rfl ?_
      refine j2_callVi x hb dX6_line_151 m_X6_isOutNow (cx_isOutNow (d := d) hb hn ((hln 95 9 (by omega) (by omega)).trans (by rw [jm_n (by omega)]; exact hct)) hw ((hln 95 0 (by omega) (by omega)).trans (by rw [jm_n (by omega)]; exact h0))) wmX6_179 jc_10 rfl rfl rfl (Nat.le_of_ble_eq_true rfl) (j_fit_rm (by omega) (by omega) (by omega)) rfl ?_
      refine j_if_eq (tgt := 175) x dX6_line_154 (by decide) (fun g6 => ?_) (fun g6 => ?_)
      · refine j_aload_n x dX6_line_175 rfl ?_
        refine j2_geti (k := 7) x hb dX6_line_176 jc_10 wfX6_218 (by decide) rfl ?_
        exact j_ireturn x hr dX6_line_179 (by omega) (by omega) ⟨_, _, rfl, rfl, hln, q, by omega, h7⟩
      · refine j_aload_n x dX6_line_157 rfl ?_
        refine j2_getr (k := 6) (r := 99) x hb dX6_line_158 jc_10 wfX6_22 (by decide) rfl ?_
        refine j_aload_n x dX6_line_161 rfl ?_
        refine j_dup x dX6_line_162 rfl ?_
        refine j2_geti (k := 7) x hb dX6_line_163 jc_10 wfX6_218 (by decide) rfl ?_; rw [h7]
        refine j_dup_x1 x dX6_line_166 rfl rfl ?_
        refine j_iconst (v := 1) x dX6_line_167 (by decide) ?_
        refine j_iadd x dX6_line_168 ?_
        refine j2_puti (k := 7) x hb dX6_line_169 jc_10 wfX6_218 (by decide) rfl rfl rfl rfl ?_
        refine j_bipush (v := 120) x dX6_line_172 (by decide) ?_
        refine j2_iasn x hb dX6_line_174 fa_99 (j := q) (vp_in_nI (by omega) (by decide)) (nI_clamp (by omega)) ?_
        refine j_aload_n x dX6_line_175 rfl ?_
        refine j2_geti (k := 7) x hb dX6_line_176 jc_10 wfX6_218 (by decide) rfl ?_
        exact j_ireturn x hr dX6_line_179 (by omega) (by omega) ⟨_, _, rfl, rfl, gLn_w hln, q + 1, by omega, by rw [jm_n (by omega), jm_s, nI_1]⟩
    · refine j_aload_n x dX6_line_128 rfl ?_
      refine j2_getr (k := 6) (r := 99) x hb dX6_line_129 jc_10 wfX6_22 (by decide) rfl ?_
      refine j_aload_n x dX6_line_132 rfl ?_
      refine j_dup x dX6_line_133 rfl ?_
      refine j2_geti (k := 7) x hb dX6_line_134 jc_10 wfX6_218 (by decide) rfl ?_; rw [h7]
      refine j_dup_x1 x dX6_line_137 rfl rfl ?_
      refine j_iconst (v := 1) x dX6_line_138 (by decide) ?_
      refine j_iadd x dX6_line_139 ?_
      refine j2_puti (k := 7) x hb dX6_line_140 jc_10 wfX6_218 (by decide) rfl rfl rfl rfl ?_
      refine j_bipush (v := 42) x dX6_line_143 (by decide) ?_
      refine j2_iasn x hb dX6_line_145 fa_99 (j := q) (vp_in_nI (by omega) (by decide)) (nI_clamp (by omega)) ?_
      refine j_goto (tgt := 175) x dX6_line_146 (by decide) ?_
      refine j_aload_n x dX6_line_175 rfl ?_
      refine j2_geti (k := 7) x hb dX6_line_176 jc_10 wfX6_218 (by decide) rfl ?_
      exact j_ireturn x hr dX6_line_179 (by omega) (by omega) ⟨_, _, rfl, rfl, gLn_w hln, q + 1, by omega, by rw [jm_n (by omega), jm_s, nI_1]⟩
end
