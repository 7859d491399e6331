/-! ===== the class: the order of the teams; means ===== -/
theorem j_down {p : Program} {l : Launch} {e : Env} {R : Room} {s : State} {m : MethodId} {args : Array Value} {below : List Frame} {meth : Method} {c : Code} {D : va_G} {tyc : Nat → ClassId} {A : Nat → Prop} {n0 : Nat} {ad0 : Nat → Nat} {nL : Nat} {Q : State → Prop} {pc : Nat} {L : List (Option Value)} {st : List Value} {b : SBt} {Y : OUt} {M : MM} {cells slots : Nat} (n : Nat) (Lf : Nat → List (Option Value)) (P : Nat → MM → Prop) (hL : Lf n = L) (h0 : P n M)
    (stop : ∀ N, P 0 N → JJ p l e R s m args below meth c D tyc A n0 ad0 nL Q pc (Lf 0) st (HH b Y N) cells slots)
    (step : ∀ q N, P (q + 1) N → (∀ N2, P q N2 → JJ p l e R s m args below meth c D tyc A n0 ad0 nL Q pc (Lf q) st (HH b Y N2) cells slots) → JJ p l e R s m args below meth c D tyc A n0 ad0 nL Q pc (Lf (q + 1)) st (HH b Y N) cells slots) : JJ p l e R s m args below meth c D tyc A n0 ad0 nL Q pc L st (HH b Y M) cells slots := by
  subst hL
  have key : ∀ q N, P q N → JJ p l e R s m args below meth c D tyc A n0 ad0 nL Q pc (Lf q) st (HH b Y N) cells slots := by
    intro q
    induction q with
    | zero => exact stop
    | succ q ih => exact fun N hN => step q N hN ih
  exact key n M h0
theorem j_up {p : Program} {l : Launch} {e : Env} {R : Room} {s : State} {m : MethodId} {args : Array Value} {below : List Frame} {meth : Method} {c : Code} {D : va_G} {tyc : Nat → ClassId} {A : Nat → Prop} {n0 : Nat} {ad0 : Nat → Nat} {nL : Nat} {Q : State → Prop} {pc : Nat} {L : List (Option Value)} {st : List Value} {b : SBt} {Y : OUt} {M : MM} {cells slots : Nat} (n : Nat) (Lf : Nat → List (Option Value)) (P : Nat → MM → Prop) (hL : Lf 0 = L) (h0 : P 0 M)
    (step : ∀ j N, j < n → P j N → (∀ N2, P (j + 1) N2 → JJ p l e R s m args below meth c D tyc A n0 ad0 nL Q pc (Lf (j + 1)) st (HH b Y N2) cells slots) → JJ p l e R s m args below meth c D tyc A n0 ad0 nL Q pc (Lf j) st (HH b Y N) cells slots)
    (last : ∀ N, P n N → JJ p l e R s m args below meth c D tyc A n0 ad0 nL Q pc (Lf n) st (HH b Y N) cells slots) : JJ p l e R s m args below meth c D tyc A n0 ad0 nL Q pc L st (HH b Y M) cells slots := by
  subst hL
  have key : ∀ r j N, j + r = n → P j N → JJ p l e R s m args below meth c D tyc A n0 ad0 nL Q pc (Lf j) st (HH b Y N) cells slots := by
    intro r
    induction r with
    | zero =>
      intro j N hj hP
      have hjn : j = n := by omega
      subst hjn
      exact last N hP
    | succ r ih =>
      intro j N hj hP
      exact step j N (by omega) hP (fun N2 h2 => ih (j + 1) N2 (by omega) h2)
  exact key n 0 M (by omega) h0
def jins (r t : Nat) : Nat → MM → MM
  | 0, M => jm M 85 0 (nI t)
  | q + 1, M => if jah M r (nI t) (M 85 q) = 0 then jm M 85 (q + 1) (nI t) else jins r t q (jm M 85 (q + 1) (M 85 q))
def jso (M : MM) (r : Nat) : Nat → MM
  | 0 => M
  | j + 1 => jins r j j (jso M r j)
theorem jins_n {r t i k : Nat} (h : i ≠ 85) : ∀ (q : Nat) (M : MM), jins r t q M i k = M i k
  | 0, M => jm_n (by omega)
  | q + 1, M => by
    rw [jins]
    split
    · exact jm_n (by omega)
    · rw [jins_n h q]; exact jm_n (by omega)
theorem jso_n {M : MM} {r i k : Nat} (h : i ≠ 85) : ∀ j, jso M r j i k = M i k
  | 0 => rfl
  | j + 1 => by rw [jso, jins_n h]; exact jso_n h j
theorem nI_dn (q : Nat) : nI (q + 1) - 1 = nI q := by rw [← nI_1]; exact Int32.add_sub_cancel _ _
theorem nI_dn2 (q : Nat) : nI (q + 1) + Int32.ofInt (-1) = nI q := by rw [← nI_1, Int32.add_assoc, show (1 : Int32) + Int32.ofInt (-1) = 0 from by decide, Int32.add_zero]
theorem nI_pos0 {q : Nat} (h : q < 1000) : ¬ nI (q + 1) ≤ 0 := nI_nle (by omega) (by omega)
theorem c_sortTeams {d : Nat} {b : SBt} {Y : OUt} {M : MM} (hb : 94 ≤ b.2.1) {w : Nat} (hw : w ≤ 8) (h0 : M 1 0 = nI w) {r : Nat} (hr3 : r ≤ 3) (h6 : M 1 6 = nI r) (hru : ∀ i, i < r → M 3 i = 0 ∨ M 3 i = 1 ∨ M 3 i = 2 ∨ M 3 i = 3 ∨ M 3 i = 4) : CM (d + 3) 0 0 yX5_sortTeams cX5_sortTeams 3 none [.ref 0] b Y M (.inl none) (jso M r w) := by
  refine Con.of (by decide +kernel) (Nat.le_of_ble_eq_true rfl) rfl fun p l e s m args below meth c D tyc A ad0 x hr htab hname => ?_
  change JJ _ _ _ _ _ _ _ _ _ _ _ _ _ _ _ _ _ 0 [some (.ref 0), none, none] [] _ 0 0
  refine j_iconst (v := 0) x dX5_sortTeams_0 (by decide) ?_
  refine j_istore_n x dX5_sortTeams_1 (by decide) rfl ?_
  refine j_for (w) (fun z0 => [some (.ref 0), some (.int (nI z0)), none]) (fun z0 => jso M r z0) (fun z0 => ∀ i k, i ≠ 85 → jso M r (z0) i k = M i k) (rfl) (rfl) (fun _ _ _ => rfl) (fun j hj hP ih => ?_) (fun hP => ?_)
  · refine j_iload_n x dX5_sortTeams_2 rfl ?_
    refine j_aload_n x dX5_sortTeams_3 rfl ?_
    refine j2_getr (k := 0) (r := 1) x hb dX5_sortTeams_4 jc_9 wfX5_10 (by decide) rfl ?_
    refine j2_geti (k := 0) x hb dX5_sortTeams_7 jc_6 wfX5_80 (by decide) rfl ?_; rw [hP 1 0 (by decide), h0]
    refine j_icmp_ge (tgt := 76) x dX5_sortTeams_10 (by decide) (fun hc => absurd hc (nI_ge hj (by omega))) (fun hc => ?_)
    refine j_iload_n x dX5_sortTeams_13 rfl ?_
    refine j_istore_n x dX5_sortTeams_14 (by decide) rfl ?_
    refine j_down j (fun q0 => [some (.ref 0), some (.int (nI j)), some (.int (nI q0))]) (fun q0 N => q0 ≤ j ∧ (∀ i k, i ≠ 85 → N i k = M i k) ∧ jins r j q0 N = jso M r (j + 1)) rfl ⟨Nat.le_refl _, fun i k h => jso_n h j, rfl⟩ (fun N hN => ?_) (fun q0 N hN ih2 => ?_)
    · refine j_iload_n x dX5_sortTeams_15 rfl ?_
      refine j_if_le (tgt := 61) x dX5_sortTeams_16 (by decide) (fun hc => ?_) (fun hc => absurd (by decide) hc)
      refine j_aload_n x dX5_sortTeams_61 rfl ?_
      refine j2_getr (k := 6) (r := 85) x hb dX5_sortTeams_62 jc_9 wfX5_40 (by decide) rfl ?_
      refine j_iload_n x dX5_sortTeams_65 rfl ?_
      refine j_iload_n x dX5_sortTeams_66 rfl ?_
      refine j2_callSv x hb dX5_sortTeams_67 m_X5_put (c_put (d := d) hb fa_85 (by decide)) wmX5_83 rfl (Nat.le_of_ble_eq_true rfl) (j_fit_rm (by omega) (by omega) (by omega)) rfl ?_
      refine j_iinc x dX5_sortTeams_70 rfl (by decide) rfl ?_
      refine j_goto (tgt := 2) x dX5_sortTeams_73 (by decide) ?_
      exact j_goal (ih (fun i k h => jso_n h (j + 1))) (wk_c rfl (wk_c (congrArg (fun z => some (Value.int z)) (nI_1 _)) (wk_n (wk_0)))) (by rw [← hN.2.2, jins, jput_nI (by omega) (by decide)])
    · have hq8 := hN.1
      refine j_iload_n x dX5_sortTeams_15 rfl ?_
      refine j_if_le (tgt := 61) x dX5_sortTeams_16 (by decide) (fun hc => absurd hc (nI_pos0 (by omega))) (fun hc => ?_)
      refine j_aload_n x dX5_sortTeams_19 rfl ?_
      refine j_iload_n x dX5_sortTeams_20 rfl ?_
      refine j_aload_n x dX5_sortTeams_21 rfl ?_
      refine j2_getr (k := 6) (r := 85) x hb dX5_sortTeams_22 jc_9 wfX5_40 (by decide) rfl ?_
      refine j_iload_n x dX5_sortTeams_25 rfl ?_
      refine j_iconst (v := 1) x dX5_sortTeams_26 (by decide) ?_
      refine j_isub x dX5_sortTeams_27 ?_; rw [nI_dn]
      refine j2_callSi x hb dX5_sortTeams_28 m_X5_at (CM_v (c_at (d := d) hb fa_85 (by decide)) (jat_nI (show q0 < 8 by omega) (by decide))) wmX5_93 rfl (Nat.le_of_ble_eq_true rfl) (j_fit_rm (by omega) (by omega) (by omega)) rfl ?_
      refine j2_callVi x hb dX5_sortTeams_31 m_X5_isAhead (c_isAhead (d := d) hb hr3 ((hN.2.1 1 6 (by decide)).trans h6) (fun i hi => by rw [hN.2.1 3 i (by decide)]; exact hru i hi)) wmX5_274 jc_9 rfl rfl rfl (Nat.le_of_ble_eq_true rfl) (j_fit_rm (by omega) (by omega) (by omega)) rfl ?_
      refine j_if_eq (tgt := 61) x dX5_sortTeams_34 (by decide) (fun h1 => ?_) (fun h1 => ?_)
      · refine j_aload_n x dX5_sortTeams_61 rfl ?_
        refine j2_getr (k := 6) (r := 85) x hb dX5_sortTeams_62 jc_9 wfX5_40 (by decide) rfl ?_
        refine j_iload_n x dX5_sortTeams_65 rfl ?_
        refine j_iload_n x dX5_sortTeams_66 rfl ?_
        refine j2_callSv x hb dX5_sortTeams_67 m_X5_put (c_put (d := d) hb fa_85 (by decide)) wmX5_83 rfl (Nat.le_of_ble_eq_true rfl) (j_fit_rm (by omega) (by omega) (by omega)) rfl ?_
        refine j_iinc x dX5_sortTeams_70 rfl (by decide) rfl ?_
        refine j_goto (tgt := 2) x dX5_sortTeams_73 (by decide) ?_
        exact j_goal (ih (fun i k h => jso_n h (j + 1))) (wk_c rfl (wk_c (congrArg (fun z => some (Value.int z)) (nI_1 _)) (wk_n (wk_0)))) (by rw [← hN.2.2, jins, if_pos h1, jput_nI (by omega) (by decide)])
      · refine j_aload_n x dX5_sortTeams_37 rfl ?_
        refine j2_getr (k := 6) (r := 85) x hb dX5_sortTeams_38 jc_9 wfX5_40 (by decide) rfl ?_
        refine j_iload_n x dX5_sortTeams_41 rfl ?_
        refine j_aload_n x dX5_sortTeams_42 rfl ?_
        refine j2_getr (k := 6) (r := 85) x hb dX5_sortTeams_43 jc_9 wfX5_40 (by decide) rfl ?_
        refine j_iload_n x dX5_sortTeams_46 rfl ?_
        refine j_iconst (v := 1) x dX5_sortTeams_47 (by decide) ?_
        refine j_isub x dX5_sortTeams_48 ?_; rw [nI_dn]
        refine j2_callSi x hb dX5_sortTeams_49 m_X5_at (CM_v (c_at (d := d) hb fa_85 (by decide)) (jat_nI (show q0 < 8 by omega) (by decide))) wmX5_93 rfl (Nat.le_of_ble_eq_true rfl) (j_fit_rm (by omega) (by omega) (by omega)) rfl ?_
        refine j2_callSv x hb dX5_sortTeams_52 m_X5_put (c_put (d := d) hb fa_85 (by decide)) wmX5_83 rfl (Nat.le_of_ble_eq_true rfl) (j_fit_rm (by omega) (by omega) (by omega)) rfl ?_
        refine j_iinc x dX5_sortTeams_55 rfl (by decide) rfl ?_
        refine j_goto (tgt := 15) x dX5_sortTeams_58 (by decide) ?_
        exact j_goal (ih2 _ ⟨by omega, fun i k h => (jm_n (by omega)).trans (hN.2.1 i k h), by rw [← hN.2.2, jins, if_neg h1]⟩) (wk_c rfl (wk_c rfl (wk_c (congrArg (fun z => some (Value.int z)) (nI_dn2 _)) (wk_0)))) ((jput_nI (show q0 + 1 < 8 by omega) (by decide)).symm)
  refine j_iload_n x dX5_sortTeams_2 rfl ?_
  refine j_aload_n x dX5_sortTeams_3 rfl ?_
  refine j2_getr (k := 0) (r := 1) x hb dX5_sortTeams_4 jc_9 wfX5_10 (by decide) rfl ?_
  refine j2_geti (k := 0) x hb dX5_sortTeams_7 jc_6 wfX5_80 (by decide) rfl ?_; rw [hP 1 0 (by decide), h0]
  refine j_icmp_ge (tgt := 76) x dX5_sortTeams_10 (by decide) (fun hc => ?_) (fun hc => absurd (nI_le (Nat.le_refl _) (by omega)) hc)
  exact j_return x hr dX5_sortTeams_76 (by omega) (by omega) ⟨rfl, rfl⟩
theorem c_ranked_no {d : Nat} {b : SBt} {Y : OUt} {M : MM} (hb : 94 ≤ b.2.1) {t : Int32} (hT : ¬ (¬ t < 0 ∧ t < M 1 0)) : CM (d + 1) 1 6 yX5_ranked cX5_ranked 2 (some .int) [.ref 0, .int t] b Y M (.inr "java/util/NoSuchElementException") (M) := by
  refine Con.of (by decide +kernel) (Nat.le_of_ble_eq_true rfl) rfl fun p l e s m args below meth c D tyc A ad0 x hr htab hname => ?_
  change JJ _ _ _ _ _ _ _ _ _ _ _ _ _ _ _ _ _ 0 [some (.ref 0), some (.int t)] [] _ 0 0
  refine j_iload_n x dX5_ranked_0 rfl ?_
  refine j_if_lt (tgt := 15) x dX5_ranked_1 (by decide) (fun g1 => ?_) (fun g1 => ?_)
  · exact j_throwNSW x exX5_243 wsX5_269 dX5_ranked_15 dX5_ranked_18 dX5_ranked_19 dX5_ranked_22 dX5_ranked_25 htab (by omega) (by omega) ⟨rfl, rfl⟩
  · refine j_iload_n x dX5_ranked_4 rfl ?_
    refine j_aload_n x dX5_ranked_5 rfl ?_
    refine j2_getr (k := 0) (r := 1) x hb dX5_ranked_6 jc_9 wfX5_10 (by decide) rfl ?_
    refine j2_geti (k := 0) x hb dX5_ranked_9 jc_6 wfX5_80 (by decide) rfl ?_
    refine j_icmp_lt (tgt := 26) x dX5_ranked_12 (by decide) (fun hc => absurd hc (fun q => hT ⟨g1, q⟩)) (fun hc => ?_)
    exact j_throwNSW x exX5_243 wsX5_269 dX5_ranked_15 dX5_ranked_18 dX5_ranked_19 dX5_ranked_22 dX5_ranked_25 htab (by omega) (by omega) ⟨rfl, rfl⟩
theorem c_ranked_ok {d : Nat} {b : SBt} {Y : OUt} {M : MM} (hb : 94 ≤ b.2.1) {t : Int32} (hT : ¬ t < 0 ∧ t < M 1 0) {n : Nat} (hn : n ≤ 56) (hm : jmc M = nI n) {w : Nat} (hw : w ≤ 8) (h0 : M 1 0 = nI w) {r : Nat} (hr3 : r ≤ 3) (h6 : M 1 6 = nI r) (hru : ∀ i, i < r → M 3 i = 0 ∨ M 3 i = 1 ∨ M 3 i = 2 ∨ M 3 i = 3 ∨ M 3 i = 4) : CM (d + 5) 1 6 yX5_ranked cX5_ranked 2 (some .int) [.ref 0, .int t] b Y M (.inl (some (.int (jat 8 (jso (jcount M n) r w 85) t)))) (jso (jcount M n) r w) := by
  refine Con.of (by decide +kernel) (Nat.le_of_ble_eq_true rfl) rfl fun p l e s m args below meth c D tyc A ad0 x hr htab hname => ?_
  change JJ _ _ _ _ _ _ _ _ _ _ _ _ _ _ _ _ _ 0 [some (.ref 0), some (.int t)] [] _ 0 0
  refine j_iload_n x dX5_ranked_0 rfl ?_
  refine j_if_lt (tgt := 15) x dX5_ranked_1 (by decide) (fun hc => absurd hc (hT.1)) (fun hc => ?_)
  refine j_iload_n x dX5_ranked_4 rfl ?_
  refine j_aload_n x dX5_ranked_5 rfl ?_
  refine j2_getr (k := 0) (r := 1) x hb dX5_ranked_6 jc_9 wfX5_10 (by decide) rfl ?_
  refine j2_geti (k := 0) x hb dX5_ranked_9 jc_6 wfX5_80 (by decide) rfl ?_
  refine j_icmp_lt (tgt := 26) x dX5_ranked_12 (by decide) (fun hc => ?_) (fun hc => absurd (hT.2) hc)
  refine j_aload_n x dX5_ranked_26 rfl ?_
  refine j2_callVv x hb dX5_ranked_27 m_X5_count (c_count (d := d) hb hn hm) wmX5_187 jc_9 rfl rfl rfl (Nat.le_of_ble_eq_true rfl) (j_fit_rm (by omega) (by omega) (by omega)) rfl ?_
  refine j_aload_n x dX5_ranked_30 rfl ?_
  refine j2_callVv x hb dX5_ranked_31 m_X5_sortTeams (c_sortTeams (d := d) hb hw (by rw [jcount_n (by omega)]; exact h0) hr3 (by rw [jcount_n (by omega)]; exact h6) (fun i hi => by rw [jcount_n (by omega)]; exact hru i hi)) wmX5_271 jc_9 rfl rfl rfl (Nat.le_of_ble_eq_true rfl) (j_fit_rm (by omega) (by omega) (by omega)) rfl ?_
  refine j_aload_n x dX5_ranked_34 rfl ?_
  refine j2_getr (k := 6) (r := 85) x hb dX5_ranked_35 jc_9 wfX5_40 (by decide) rfl ?_
  refine j_iload_n x dX5_ranked_38 rfl ?_
  refine j2_callSi x hb dX5_ranked_39 m_X5_at (c_at (d := d) hb fa_85 (by decide)) wmX5_93 rfl (Nat.le_of_ble_eq_true rfl) (j_fit_rm (by omega) (by omega) (by omega)) rfl ?_
  exact j_ireturn x hr dX5_ranked_42 (by omega) (by omega) ⟨rfl, rfl⟩
theorem j_fdiv {p : Program} {l : Launch} {e : Env} {R : Room} {s : State} {m : MethodId} {args : Array Value} {below : List Frame} {meth : Method} {c : Code} {D : va_G} {tyc : Nat → ClassId} {A : Nat → Prop} {n0 : Nat} {ad0 : Nat → Nat} {nL : Nat} {Q : State → Prop} {own : String} {cc : ByteArray} {pc : Nat} {L : List (Option Value)} {st : List Value} {h : MH} {cells slots : Nat} (x : j_X p l s m args meth c D tyc A own cc nL) {v w : UInt32} (hd : decode cc pc = .ok (.fdiv, 1)) (hne : vf_n32 (FP.fdiv v w)) (kk : JJ p l e R s m args below meth c D tyc A n0 ad0 nL Q (pc + 1) L (.float (FP.fdiv v w) :: st) h cells slots) : JJ p l e R s m args below meth c D tyc A n0 ad0 nL Q pc L (.float w :: .float v :: st) h cells slots := by
  intro ad ls H locs I
  exact lv_fdiv x.1 x.2.1 hd hne (kk ad ls H locs (I.st fun hs => j_ok_cons j_ok_float (j_ok_tl (j_ok_tl hs))))
theorem j_ddiv {p : Program} {l : Launch} {e : Env} {R : Room} {s : State} {m : MethodId} {args : Array Value} {below : List Frame} {meth : Method} {c : Code} {D : va_G} {tyc : Nat → ClassId} {A : Nat → Prop} {n0 : Nat} {ad0 : Nat → Nat} {nL : Nat} {Q : State → Prop} {own : String} {cc : ByteArray} {pc : Nat} {L : List (Option Value)} {st : List Value} {h : MH} {cells slots : Nat} (x : j_X p l s m args meth c D tyc A own cc nL) {v w : UInt64} (hd : decode cc pc = .ok (.ddiv, 1)) (hne : vf_n64 (FP.ddiv v w)) (kk : JJ p l e R s m args below meth c D tyc A n0 ad0 nL Q (pc + 1) L (.double (FP.ddiv v w) :: st) h cells slots) : JJ p l e R s m args below meth c D tyc A n0 ad0 nL Q pc L (.double w :: .double v :: st) h cells slots := by
  intro ad ls H locs I
  exact lv_ddiv x.1 x.2.1 hd hne (kk ad ls H locs (I.st fun hs => j_ok_cons j_ok_double (j_ok_tl (j_ok_tl hs))))
theorem c_meanGoals_ok {d : Nat} {b : SBt} {Y : OUt} {M : MM} (hb : 94 ≤ b.2.1) {n : Nat} (hn : n ≤ 56) (hm : jmc M = nI n) (h : ¬ jcount M n 75 0 = 0) (hne : vf_n32 (FP.fdiv (FP.i2f (jcount M n 75 1)) (FP.i2f (jcount M n 75 0)))) : CM (d + 5) 1 6 yX5_meanGoals cX5_meanGoals 1 (some .float) [.ref 0] b Y M (.inl (some (.float (FP.fdiv (FP.i2f (jcount M n 75 1)) (FP.i2f (jcount M n 75 0)))))) (jcount M n) := by
  refine Con.of (by decide +kernel) (Nat.le_of_ble_eq_true rfl) rfl fun p l e s m args below meth c D tyc A ad0 x hr htab hname => ?_
  change JJ _ _ _ _ _ _ _ _ _ _ _ _ _ _ _ _ _ 0 [some (.ref 0)] [] _ 0 0
  refine j_aload_n x dX5_meanGoals_0 rfl ?_
  refine j2_callVv x hb dX5_meanGoals_1 m_X5_count (c_count (d := d) hb hn hm) wmX5_187 jc_9 rfl rfl rfl (Nat.le_of_ble_eq_true rfl) (j_fit_rm (by omega) (by omega) (by omega)) rfl ?_
  refine j_aload_n x dX5_meanGoals_4 rfl ?_
  refine j2_getr (k := 5) (r := 75) x hb dX5_meanGoals_5 jc_9 wfX5_36 (by decide) rfl ?_
  refine j2_geti (k := 0) x hb dX5_meanGoals_8 jc_7 wfX5_372 (by decide) rfl ?_
  refine j_if_ne (tgt := 25) x dX5_meanGoals_11 (by decide) (fun hc => ?_) (fun hc => absurd hc (h))
  refine j_aload_n x dX5_meanGoals_25 rfl ?_
  refine j2_getr (k := 5) (r := 75) x hb dX5_meanGoals_26 jc_9 wfX5_36 (by decide) rfl ?_
  refine j2_geti (k := 1) x hb dX5_meanGoals_29 jc_7 wfX5_380 (by decide) rfl ?_
  refine j_i2f x dX5_meanGoals_32 ?_
  refine j_aload_n x dX5_meanGoals_33 rfl ?_
  refine j2_getr (k := 5) (r := 75) x hb dX5_meanGoals_34 jc_9 wfX5_36 (by decide) rfl ?_
  refine j2_geti (k := 0) x hb dX5_meanGoals_37 jc_7 wfX5_372 (by decide) rfl ?_
  refine j_i2f x dX5_meanGoals_40 ?_
  refine j_fdiv x dX5_meanGoals_41 hne ?_
  exact j_freturn x hr dX5_meanGoals_42 (by omega) (by omega) ⟨rfl, rfl⟩
theorem c_homeShare_ok {d : Nat} {b : SBt} {Y : OUt} {M : MM} (hb : 94 ≤ b.2.1) {n : Nat} (hn : n ≤ 56) (hm : jmc M = nI n) (h : ¬ jcount M n 75 0 = 0) (hne : vf_n64 (FP.ddiv (FP.i2d (jcount M n 75 2)) (FP.i2d (jcount M n 75 0)))) : CM (d + 5) 1 6 yX5_homeShare cX5_homeShare 1 (some .double) [.ref 0] b Y M (.inl (some (.double (FP.ddiv (FP.i2d (jcount M n 75 2)) (FP.i2d (jcount M n 75 0)))))) (jcount M n) := by
  refine Con.of (by decide +kernel) (Nat.le_of_ble_eq_true rfl) rfl fun p l e s m args below meth c D tyc A ad0 x hr htab hname => ?_
  change JJ _ _ _ _ _ _ _ _ _ _ _ _ _ _ _ _ _ 0 [some (.ref 0)] [] _ 0 0
  refine j_aload_n x dX5_homeShare_0 rfl ?_
  refine j2_callVv x hb dX5_homeShare_1 m_X5_count (c_count (d := d) hb hn hm) wmX5_187 jc_9 rfl rfl rfl (Nat.le_of_ble_eq_true rfl) (j_fit_rm (by omega) (by omega) (by omega)) rfl ?_
  refine j_aload_n x dX5_homeShare_4 rfl ?_
  refine j2_getr (k := 5) (r := 75) x hb dX5_homeShare_5 jc_9 wfX5_36 (by decide) rfl ?_
  refine j2_geti (k := 0) x hb dX5_homeShare_8 jc_7 wfX5_372 (by decide) rfl ?_
  refine j_if_ne (tgt := 25) x dX5_homeShare_11 (by decide) (fun hc => ?_) (fun hc => absurd hc (h))
  refine j_aload_n x dX5_homeShare_25 rfl ?_
  refine j2_getr (k := 5) (r := 75) x hb dX5_homeShare_26 jc_9 wfX5_36 (by decide) rfl ?_
  refine j2_geti (k := 2) x hb dX5_homeShare_29 jc_7 wfX5_383 (by decide) rfl ?_
  refine j_i2d x dX5_homeShare_32 ?_
  refine j_aload_n x dX5_homeShare_33 rfl ?_
  refine j2_getr (k := 5) (r := 75) x hb dX5_homeShare_34 jc_9 wfX5_36 (by decide) rfl ?_
  refine j2_geti (k := 0) x hb dX5_homeShare_37 jc_7 wfX5_372 (by decide) rfl ?_
  refine j_i2d x dX5_homeShare_40 ?_
  refine j_ddiv x dX5_homeShare_41 hne ?_
  exact j_dreturn x hr dX5_homeShare_42 (by omega) (by omega) ⟨rfl, rfl⟩
