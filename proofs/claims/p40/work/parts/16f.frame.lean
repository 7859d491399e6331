/-! ===== a contract over a part of the store; cells that are forgotten ===== -/
def j_shv (a : Nat) (v : Value) : Value := match v with
  | .ref k => .ref (a + k)
  | w => w
def j_shc (a : Nat) (c : MC) : MC := (c.1, c.2.1, fun j => j_shv a (c.2.2 j))
def j_sho (a : Nat) (o : MO) : MO := match o with
  | .inl v => .inl (v.map (j_shv a))
  | .inr E => .inr E
/-- h lies in k from cell a on -/
def j_in (a : Nat) (h k : MH) : Prop := a + h.1 ≤ k.1 ∧ ∀ i, i < h.1 → k.2 (a + i) = j_shc a (h.2 i)
/-- k with h1 where n cells lay from a on -/
def j_rep (a n : Nat) (h1 k : MH) : MH := (k.1 + (h1.1 - n), fun i => if a ≤ i ∧ i < a + h1.1 then j_shc a (h1.2 (i - a)) else k.2 i)
theorem j_cv_sh {ad : Nat → Nat} {a : Nat} {v : Value} : j_cv ad (j_shv a v) = j_cv (fun i => ad (a + i)) v := by cases v <;> rfl
theorem j_e_sh {tyc : Nat → ClassId} {ad : Nat → Nat} {a : Nat} {c : MC} : j_e tyc ad (j_shc a c) = j_e tyc (fun i => ad (a + i)) c := by
  have h1 : (fun k => j_cv ad (j_shv a (c.2.2 k))) = fun k => j_cv (fun i => ad (a + i)) (c.2.2 k) := funext fun k => j_cv_sh
  have h2 : (fun j => j_opt ad (j_shv a (c.2.2 j))) = fun j => j_opt (fun i => ad (a + i)) (c.2.2 j) := funext fun j => by cases c.2.2 j <;> rfl
  have h3 : (fun j => j_lng (j_shv a (c.2.2 j))) = fun j => j_lng (c.2.2 j) := funext fun j => by cases c.2.2 j <;> rfl
  have h4 : (fun j => j_dbl (j_shv a (c.2.2 j))) = fun j => j_dbl (c.2.2 j) := funext fun j => by cases c.2.2 j <;> rfl
  have h5 : (fun j => j_int (j_shv a (c.2.2 j))) = fun j => j_int (c.2.2 j) := funext fun j => by cases c.2.2 j <;> rfl
  unfold j_e j_arr j_shc
  simp only [h1, h2, h3, h4, h5]
theorem j_w_in {tyc : Nat → ClassId} {ad : Nat → Nat} {a i : Nat} {h k : MH} (hin : j_in a h k) (hi : i < h.1) : (j_w tyc ad k)[a + i]? = some (ad (a + i), j_e tyc (fun i => ad (a + i)) (h.2 i)) := by
  rw [j_w_get (show a + i < k.1 by have := hin.1; omega), hin.2 i hi, j_e_sh]
theorem j_w_inv {tyc : Nat → ClassId} {ad : Nat → Nat} {h : MH} {i : Nat} {q : Nat × va_E} (hk : (j_w tyc ad h)[i]? = some q) : i < h.1 ∧ q = (ad i, j_e tyc ad (h.2 i)) := by
  have hl : i < h.1 := by
    have := (List.getElem?_eq_some_iff.mp hk).1
    rw [j_w_len] at this
    exact this
  rw [j_w_get hl] at hk
  exact ⟨hl, (Option.some.inj hk).symm⟩
theorem j_in_P {D : va_G} {tyc : Nat → ClassId} {ad : Nat → Nat} {a : Nat} {h k : MH} {H : Heap} (hin : j_in a h k) (hP : va_P D vwCl (j_w tyc ad k) H) : va_P D vwCl (j_w tyc (fun i => ad (a + i)) h) H := fun i q hq => by
  obtain ⟨hi, rfl⟩ := j_w_inv hq
  exact hP (a + i) _ (j_w_in hin hi)
theorem j_in_D {B : Nat → Prop} {tyc : Nat → ClassId} {ad : Nat → Nat} {a : Nat} {h k : MH} (hin : j_in a h k) (hD : va_D B (j_w tyc ad k)) : va_D B (j_w tyc (fun i => ad (a + i)) h) := by
  refine ⟨fun i j u v hu hv huv => ?_, fun i q hq => ?_⟩
  · obtain ⟨hi, rfl⟩ := j_w_inv hu
    obtain ⟨hj, rfl⟩ := j_w_inv hv
    have := hD.1 (a + i) (a + j) _ _ (j_w_in hin hi) (j_w_in hin hj) huv
    omega
  · obtain ⟨hi, rfl⟩ := j_w_inv hq
    exact hD.2 (a + i) _ (j_w_in hin hi)
theorem j_in_A {tyc : Nat → ClassId} {ad : Nat → Nat} {a sz : Nat} {h k : MH} (hin : j_in a h k) : ∀ q, va_A (j_w tyc (fun i => ad (a + i)) h) sz q → va_A (j_w tyc ad k) sz q := fun q hq => by
  rcases hq with ⟨i, e, hq⟩ | hq
  · obtain ⟨hi, h1⟩ := j_w_inv hq
    cases h1
    exact Or.inl ⟨a + i, _, j_w_in hin hi⟩
  · exact Or.inr hq
theorem j_in_B {D : va_G} {tyc : Nat → ClassId} {ad : Nat → Nat} {a sz : Nat} {h k : MH} {U : State} (hin : j_in a h k) (hB : j_B D tyc ad k sz U) : j_B D tyc (fun i => ad (a + i)) h sz U :=
  ⟨hB.1, j_in_P hin hB.2.1, hB.2.2.1, j_in_D hin hB.2.2.2.1, j_env.go hB.2.2.2.2 (State.WarmedH.refl U) (fun _ _ _ => rfl) (j_in_A hin)⟩
/-- what a callee leaves of a part is what it leaves of the whole -/
theorem j_E_at {D : va_G} {tyc : Nat → ClassId} {ad ad1 : Nat → Nat} {a sz : Nat} {h k h1 : MH} {s t : State} (hin : j_in a h k) (hk : j_okH k) (hsz : s.heap.size = sz) (hP : va_P D vwCl (j_w tyc ad k) s.heap) (hD : va_D (fun _ => True) (j_w tyc ad k)) (hg : h1.1 = h.1 ∨ k.1 = a + h.1)
    (hE : j_E D tyc (va_A (j_w tyc (fun i => ad (a + i)) h) sz) h.1 (fun i => ad (a + i)) h1 ad1 s t) :
    j_E D tyc (va_A (j_w tyc ad k) sz) k.1 ad (j_rep a h.1 h1 k) (fun i => if a ≤ i ∧ i < a + h1.1 then ad1 (i - a) else ad i) s t := by
  obtain ⟨⟨g1, g2⟩, g3, g4, g5, g6⟩ := hE
  have hin1 := hin.1
  subst hsz
  -- addresses
  have low : ∀ i, i < k.1 → (if a ≤ i ∧ i < a + h1.1 then ad1 (i - a) else ad i) = ad i := fun i hi => by
    by_cases c : a ≤ i ∧ i < a + h1.1
    · rw [if_pos c, g2 (i - a) (by omega)]
      show ad (a + (i - a)) = ad i
      rw [show a + (i - a) = i by omega]
    · rw [if_neg c]
  have top : ∀ i, i < h1.1 → (fun j => if a ≤ j ∧ j < a + h1.1 then ad1 (j - a) else ad j) (a + i) = ad1 i := fun i hi => by
    show (if a ≤ a + i ∧ a + i < a + h1.1 then ad1 (a + i - a) else ad (a + i)) = ad1 i
    rw [if_pos (by omega), show a + i - a = i by omega]
  have cell : ∀ i, i < (j_rep a h.1 h1 k).1 → (a ≤ i ∧ i < a + h1.1) ∨ (¬ (a ≤ i ∧ i < a + h1.1) ∧ i < k.1) := fun i hi => by
    have hi : i < k.1 + (h1.1 - h.1) := hi
    omega
  have inn : ∀ i, a ≤ i ∧ i < a + h1.1 → j_e tyc (fun j => if a ≤ j ∧ j < a + h1.1 then ad1 (j - a) else ad j) ((j_rep a h.1 h1 k).2 i) = j_e tyc ad1 (h1.2 (i - a)) := fun i hi => by
    show j_e tyc _ (if a ≤ i ∧ i < a + h1.1 then j_shc a (h1.2 (i - a)) else k.2 i) = _
    rw [if_pos hi, j_e_sh]
    exact j_e_ad (n := h1.1) top (g5 (i - a) (by omega))
  have out : ∀ i, ¬ (a ≤ i ∧ i < a + h1.1) → i < k.1 → j_e tyc (fun j => if a ≤ j ∧ j < a + h1.1 then ad1 (j - a) else ad j) ((j_rep a h.1 h1 k).2 i) = j_e tyc ad (k.2 i) := fun i hi hl => by
    show j_e tyc _ (if a ≤ i ∧ i < a + h1.1 then j_shc a (h1.2 (i - a)) else k.2 i) = _
    rw [if_neg hi]
    exact j_e_ad (n := k.1) low (hk i hl)
  have notA : ∀ i, ¬ (a ≤ i ∧ i < a + h1.1) → i < k.1 → ¬ va_A (j_w tyc (fun i => ad (a + i)) h) s.heap.size (ad i) := fun i hi hl hA => by
    rcases hA with ⟨j, e, hj⟩ | hA
    · obtain ⟨hj1, hj2⟩ := j_w_inv hj
      have h2 := hD.1 i (a + j) _ _ (j_w_get hl) (j_w_in hin hj1) (show ad i = ad (a + j) from congrArg Prod.fst hj2)
      omega
    · have := (hP i _ (j_w_get hl)).lt
      exact absurd this (Nat.not_lt.mpr hA)
  refine ⟨⟨?_, low⟩, ?_, ⟨?_, ?_⟩, ?_, ⟨g6.1, fun q q1 q2 => g6.2 q q1 (fun z => q2 (j_in_A hin q z))⟩⟩
  · show k.1 ≤ k.1 + (h1.1 - h.1)
    omega
  · intro i q hq
    obtain ⟨hi, rfl⟩ := j_w_inv hq
    rcases cell i hi with c | ⟨c, hl⟩
    · show va_at D vwCl (if a ≤ i ∧ i < a + h1.1 then ad1 (i - a) else ad i, _) t.heap
      rw [inn i c, if_pos c]
      exact g3 (i - a) _ (j_w_get (by omega))
    · show va_at D vwCl (if a ≤ i ∧ i < a + h1.1 then ad1 (i - a) else ad i, _) t.heap
      rw [out i c hl, if_neg c]
      have h0 := hP i _ (j_w_get hl)
      exact h0.kept (g6.2 _ h0.lt (notA i c hl))
  · intro i j u v hu hv huv
    obtain ⟨hi, rfl⟩ := j_w_inv hu
    obtain ⟨hj, rfl⟩ := j_w_inv hv
    have huv : (if a ≤ i ∧ i < a + h1.1 then ad1 (i - a) else ad i) = (if a ≤ j ∧ j < a + h1.1 then ad1 (j - a) else ad j) := huv
    rcases cell i hi with c | ⟨c, hl⟩
    · rcases cell j hj with d | ⟨d, hm⟩
      · rw [if_pos c, if_pos d] at huv
        have := g4.1 (i - a) (j - a) _ _ (j_w_get (by omega)) (j_w_get (by omega)) huv
        omega
      · rw [if_pos c, if_neg d] at huv
        have := g4.2 (i - a) _ (j_w_get (by omega))
        exact absurd (by rw [← huv]; exact this) (notA j d hm)
    · rcases cell j hj with d | ⟨d, hm⟩
      · rw [if_neg c, if_pos d] at huv
        have := g4.2 (j - a) _ (j_w_get (by omega))
        exact absurd (by rw [huv]; exact this) (notA i c hl)
      · rw [if_neg c, if_neg d] at huv
        exact hD.1 i j _ _ (j_w_get hl) (j_w_get hm) huv
  · intro i q hq
    obtain ⟨hi, rfl⟩ := j_w_inv hq
    show va_A (j_w tyc ad k) s.heap.size (if a ≤ i ∧ i < a + h1.1 then ad1 (i - a) else ad i)
    rcases cell i hi with c | ⟨c, hl⟩
    · rw [if_pos c]
      exact j_in_A hin _ (g4.2 (i - a) _ (j_w_get (by omega)))
    · rw [if_neg c]
      exact Or.inl ⟨i, _, j_w_get hl⟩
  · intro i hi j r hr
    have hr : (if a ≤ i ∧ i < a + h1.1 then j_shc a (h1.2 (i - a)) else k.2 i).2.2 j = .ref r := hr
    show r < k.1 + (h1.1 - h.1)
    rcases cell i hi with c | ⟨c, hl⟩
    · rw [if_pos c] at hr
      have hr : j_shv a ((h1.2 (i - a)).2.2 j) = .ref r := hr
      cases hv : (h1.2 (i - a)).2.2 j with
      | ref z =>
        rw [hv] at hr
        cases hr
        exact Nat.lt_of_lt_of_le (Nat.add_lt_add_left (g5 (i - a) (by omega) j z hv) a) (by omega)
      | _ => rw [hv] at hr; cases hr
    · rw [if_neg c] at hr
      exact Nat.lt_of_lt_of_le (hk i hl j r hr) (Nat.le_add_right _ _)
theorem j_at_v {ad ad1 : Nat → Nat} {a : Nat} {h1 : MH} {v : Option Value} (hv : ∀ w, v = some w → j_ok h1.1 w) : v.map (j_cv ad1) = (v.map (j_shv a)).map (j_cv fun i => if a ≤ i ∧ i < a + h1.1 then ad1 (i - a) else ad i) := by
  cases v with
  | none => rfl
  | some w =>
    show some (j_cv ad1 w) = some (j_cv _ (j_shv a w))
    rw [j_cv_sh]
    refine congrArg some (j_cv_eq (n := h1.1) (fun i hi => ?_) (hv w rfl)).symm
    show (if a ≤ a + i ∧ a + i < a + h1.1 then ad1 (a + i - a) else ad (a + i)) = ad1 i
    rw [if_pos (by omega), show a + i - a = i by omega]
/-- the contract's post over the whole -/
def j_atQ (a : Nat) (h k : MH) (Q : MO → MH → Prop) : MO → MH → Prop := fun o k1 => ∃ o1 h1, Q o1 h1 ∧ h.1 ≤ h1.1 ∧ o = j_sho a o1 ∧ k1 = j_rep a h.1 h1 k
theorem j_at_ok {a : Nat} {n m : Nat} {v : Value} (h : j_ok n v) (hm : a + n ≤ m) : j_ok m (j_shv a v) := fun r hr => by
  cases v with
  | ref z => cases hr; exact Nat.lt_of_lt_of_le (Nat.add_lt_add_left (h z rfl) a) hm
  | _ => cases hr
theorem j_at_args {ad : Nat → Nat} {a : Nat} {as : List Value} : (as.map (j_shv a)).map (j_cv ad) = as.map (j_cv fun i => ad (a + i)) := by
  rw [List.map_map]
  exact List.map_congr_left fun v _ => j_cv_sh
theorem Con.at {d mc ms : Nat} {y : MethodName} {cc : ByteArray} {maxL : Nat} {ret : Option FieldType} {as : List Value} {h k : MH} {Q : MO → MH → Prop} {a : Nat} (C : Con d mc ms y cc maxL ret as h Q) (hin : j_in a h k) (hh : j_okH h) (ha : ∀ v ∈ as, j_ok h.1 v) (hg : ∀ o h1, Q o h1 → h1.1 = h.1 ∨ k.1 = a + h.1) : Con d mc ms y cc maxL ret (as.map (j_shv a)) k (j_atQ a h k Q) := by
  intro l D tyc ad sz hl hk hak p e hA hB hC s m args below hf happ hP hT
  have hP1 : va_Pc (as.map (j_cv fun i => ad (a + i))) (j_B D tyc (fun i => ad (a + i)) h sz) args s := ⟨by rw [← j_at_args]; exact hP.1, j_in_B hin hP.2⟩
  obtain ⟨kk, o, h1, h2, h3, h4⟩ := C l D tyc (fun i => ad (a + i)) sz hl hh ha p e hA hB hC s m args below hf happ hP1 hT
  have hE0 : ∀ k1 ad1 t, h.1 ≤ k1.1 → (k1.1 = h.1 ∨ k.1 = a + h.1) → j_E D tyc (va_A (j_w tyc (fun i => ad (a + i)) h) sz) h.1 (fun i => ad (a + i)) k1 ad1 s t → j_E D tyc (va_A (j_w tyc ad k) sz) k.1 ad (j_rep a h.1 k1 k) (fun i => if a ≤ i ∧ i < a + k1.1 then ad1 (i - a) else ad i) s t := fun k1 ad1 t _ hgk hE => j_E_at hin hk hP.2.1 (by exact hP.2.2.1) hP.2.2.2.2.1 hgk hE
  refine ⟨kk, o, h1, h2, h3, ?_⟩
  rcases h4 with ⟨⟨v, k1, ad1, e1, e2, e3, e5⟩, L, e4, e6⟩ | ⟨q, e0, E, ce, Lc, ⟨k1, ad1, e2, e3⟩, e4, e5, e6, e7, e8, e9⟩
  · exact Or.inl ⟨⟨v.map (j_shv a), j_rep a h.1 k1 k, _, by rw [e1, j_at_v (ad := ad) (a := a) e3], ⟨.inl v, k1, e2, e5.1.1, rfl, rfl⟩, fun w hw => by
      cases v with
      | none => cases hw
      | some u => cases hw; exact j_at_ok (e3 u rfl) (by show a + k1.1 ≤ k.1 + (k1.1 - h.1); have := e5.1.1; have := hin.1; omega), hE0 k1 ad1 _ e5.1.1 (hg _ _ e2) e5⟩, L, e4, fun q hq => j_in_A hin _ (e6 q hq)⟩
  · exact Or.inr ⟨q, e0, E, ce, Lc, ⟨j_rep a h.1 k1 k, _, ⟨.inr E, k1, e2, e3.1.1, rfl, rfl⟩, hE0 k1 ad1 _ e3.1.1 (hg _ _ e2) e3⟩, e4, e5, e6, e7, e8, fun z hz => j_in_A hin _ (e9 z hz)⟩
theorem ConH.at {d mc ms : Nat} {y : MethodName} {cc : ByteArray} {maxL : Nat} {ret : Option FieldType} {xt : List (Nat × Nat × Nat × Nat)} {as : List Value} {h k : MH} {Q : MO → MH → Prop} {a : Nat} (C : ConH d mc ms y cc maxL ret xt as h Q) (hin : j_in a h k) (hh : j_okH h) (ha : ∀ v ∈ as, j_ok h.1 v) (hg : ∀ o h1, Q o h1 → h1.1 = h.1 ∨ k.1 = a + h.1) : ConH d mc ms y cc maxL ret xt (as.map (j_shv a)) k (j_atQ a h k Q) := by
  intro l D tyc ad sz hl hk hak p e hA hB hC s m args below hf happ hP hT
  have hP1 : va_Pc (as.map (j_cv fun i => ad (a + i))) (j_B D tyc (fun i => ad (a + i)) h sz) args s := ⟨by rw [← j_at_args]; exact hP.1, j_in_B hin hP.2⟩
  obtain ⟨kk, o, h1, h2, h3, h4⟩ := C l D tyc (fun i => ad (a + i)) sz hl hh ha p e hA hB hC s m args below hf happ hP1 hT
  have hE0 : ∀ k1 ad1 t, h.1 ≤ k1.1 → (k1.1 = h.1 ∨ k.1 = a + h.1) → j_E D tyc (va_A (j_w tyc (fun i => ad (a + i)) h) sz) h.1 (fun i => ad (a + i)) k1 ad1 s t → j_E D tyc (va_A (j_w tyc ad k) sz) k.1 ad (j_rep a h.1 k1 k) (fun i => if a ≤ i ∧ i < a + k1.1 then ad1 (i - a) else ad i) s t := fun k1 ad1 t _ hgk hE => j_E_at hin hk hP.2.1 (by exact hP.2.2.1) hP.2.2.2.2.1 hgk hE
  refine ⟨kk, o, h1, h2, h3, ?_⟩
  rcases h4 with ⟨⟨v, k1, ad1, e1, e2, e3, e5⟩, L, e4, e6⟩ | ⟨q, e0, E, ce, Lc, ⟨k1, ad1, e2, e3⟩, e4, e5, e6, e7, e8, e9⟩
  · exact Or.inl ⟨⟨v.map (j_shv a), j_rep a h.1 k1 k, _, by rw [e1, j_at_v (ad := ad) (a := a) e3], ⟨.inl v, k1, e2, e5.1.1, rfl, rfl⟩, fun w hw => by
      cases v with
      | none => cases hw
      | some u => cases hw; exact j_at_ok (e3 u rfl) (by show a + k1.1 ≤ k.1 + (k1.1 - h.1); have := e5.1.1; have := hin.1; omega), hE0 k1 ad1 _ e5.1.1 (hg _ _ e2) e5⟩, L, e4, fun q hq => j_in_A hin _ (e6 q hq)⟩
  · exact Or.inr ⟨q, e0, E, ce, Lc, ⟨j_rep a h.1 k1 k, _, ⟨.inr E, k1, e2, e3.1.1, rfl, rfl⟩, hE0 k1 ad1 _ e3.1.1 (hg _ _ e2) e3⟩, e4, e5, e6, e7, e8, fun z hz => j_in_A hin _ (e9 z hz)⟩
