/-! ===== another look at the store: cells left out, renumbered; two parts side by side ===== -/
def j_rnv (ρ : Nat → Nat) (v : Value) : Value := match v with
  | .ref k => .ref (ρ k)
  | w => w
def j_rnc (ρ : Nat → Nat) (c : MC) : MC := (c.1, c.2.1, fun j => j_rnv ρ (c.2.2 j))
theorem j_cv_rn {ad ρ : Nat → Nat} {v : Value} : j_cv ad (j_rnv ρ v) = j_cv (fun i => ad (ρ i)) v := by cases v <;> rfl
theorem j_e_rn {tyc : Nat → ClassId} {ad ρ : Nat → Nat} {c : MC} : j_e tyc ad (j_rnc ρ c) = j_e tyc (fun i => ad (ρ i)) c := by
  have h1 : (fun k => j_cv ad (j_rnv ρ (c.2.2 k))) = fun k => j_cv (fun i => ad (ρ i)) (c.2.2 k) := funext fun k => j_cv_rn
  have h2 : (fun j => j_opt ad (j_rnv ρ (c.2.2 j))) = fun j => j_opt (fun i => ad (ρ i)) (c.2.2 j) := funext fun j => by cases c.2.2 j <;> rfl
  have h3 : (fun j => j_lng (j_rnv ρ (c.2.2 j))) = fun j => j_lng (c.2.2 j) := funext fun j => by cases c.2.2 j <;> rfl
  have h4 : (fun j => j_dbl (j_rnv ρ (c.2.2 j))) = fun j => j_dbl (c.2.2 j) := funext fun j => by cases c.2.2 j <;> rfl
  have h5 : (fun j => j_int (j_rnv ρ (c.2.2 j))) = fun j => j_int (c.2.2 j) := funext fun j => by cases c.2.2 j <;> rfl
  unfold j_e j_arr j_rnc
  simp only [h1, h2, h3, h4, h5]
theorem j_shv_rn {a : Nat} {v : Value} : j_shv a v = j_rnv (fun k => a + k) v := by cases v <;> rfl
theorem j_rnv_id {v : Value} : j_rnv (fun k => k) v = v := by cases v <;> rfl
theorem j_rnv_rn {ρ σ : Nat → Nat} {v : Value} : j_rnv ρ (j_rnv σ v) = j_rnv (fun k => ρ (σ k)) v := by cases v <;> rfl
theorem j_rnc_id {c : MC} : j_rnc (fun k => k) c = c := by
  unfold j_rnc
  rw [show (fun j => j_rnv (fun k => k) (c.2.2 j)) = c.2.2 from funext fun j => j_rnv_id]
theorem j_shc_rn {a : Nat} {c : MC} : j_shc a c = j_rnc (fun k => a + k) c := by
  unfold j_rnc j_shc
  rw [show (fun j => j_shv a (c.2.2 j)) = fun j => j_rnv (fun k => a + k) (c.2.2 j) from funext fun j => j_shv_rn]
theorem j_rnc_rn {ρ σ : Nat → Nat} {c : MC} : j_rnc ρ (j_rnc σ c) = j_rnc (fun k => ρ (σ k)) c := by
  unfold j_rnc
  show (c.1, c.2.1, fun j => j_rnv ρ (j_rnv σ (c.2.2 j))) = _
  rw [show (fun j => j_rnv ρ (j_rnv σ (c.2.2 j))) = fun j => j_rnv (fun k => ρ (σ k)) (c.2.2 j) from funext fun j => j_rnv_rn]
theorem j_shv_0 {v : Value} : j_shv 0 v = v := by cases v <;> simp [j_shv]
theorem j_shc_0 {c : MC} : j_shc 0 c = c := by
  unfold j_shc
  rw [show (fun j => j_shv 0 (c.2.2 j)) = c.2.2 from funext fun j => j_shv_0]
section JView
variable {p : Program} {l : Launch} {e : Env} {R : Room} {s : State} {m : MethodId} {args : Array Value} {below : List Frame} {meth : Method} {c : Code} {D : va_G} {tyc : Nat → ClassId} {A : Nat → Prop} {n0 : Nat} {ad0 : Nat → Nat} {nL : Nat} {Qs : State → Prop}
variable {own : String} {cc : ByteArray} {pc : Nat} {L L' : List (Option Value)} {st st' : List Value} {h h' : MH} {cells slots : Nat}
/-- the store h as h', whose cell i is h's cell ρ i -/
theorem j_view (ρ : Nat → Nat) (hin : ∀ i, i < h'.1 → ρ i < h.1) (hinj : ∀ i j, i < h'.1 → j < h'.1 → ρ i = ρ j → i = j) (hc : ∀ i, i < h'.1 → h.2 (ρ i) = j_rnc ρ (h'.2 i)) (hn0 : n0 ≤ h'.1) (hn1 : ∀ i, i < n0 → ρ i = i) (hok : j_okH h')
    (hl : L'.length = L.length) (hL : ∀ (i : Nat) (v : Value), L'[i]? = some (some v) → L[i]? = some (some (j_rnv ρ v))) (hst : st = st'.map (j_rnv ρ)) (hks : ∀ v ∈ st', j_ok h'.1 v) (hkL : ∀ v, some v ∈ L' → j_ok h'.1 v)
    (kk : JJ p l e R s m args below meth c D tyc A n0 ad0 nL Qs pc L' st' h' cells slots) : JJ p l e R s m args below meth c D tyc A n0 ad0 nL Qs pc L st h cells slots := by
  intro ad ls H locs I
  have hget : ∀ i, i < h'.1 → (j_w tyc ad h)[ρ i]? = some (ad (ρ i), j_e tyc (fun i => ad (ρ i)) (h'.2 i)) := fun i hi => by rw [j_w_get (hin i hi), hc i hi, j_e_rn]
  have e1 : st.map (j_cv ad) = st'.map (j_cv fun i => ad (ρ i)) := by
    rw [hst, List.map_map]
    exact List.map_congr_left fun v _ => j_cv_rn
  rw [e1]
  refine kk (fun i => ad (ρ i)) ls H locs ⟨⟨I.1.1, I.1.2.1, hl.trans I.1.2.2.1, fun i v hv => ?_⟩, fun k q hk => ?_, ⟨fun i j u v hu hv huv => ?_, fun i q hq => ?_⟩, I.2.2.2.1, ⟨hn0, fun i hi => ?_⟩, hok, hks, hkL⟩
  · rw [← j_cv_rn]
    exact I.1.2.2.2 i _ (hL i v hv)
  · obtain ⟨hi, rfl⟩ := j_w_inv hk
    exact I.2.1 (ρ k) _ (hget k hi)
  · obtain ⟨hi, rfl⟩ := j_w_inv hu
    obtain ⟨hj, rfl⟩ := j_w_inv hv
    exact hinj i j hi hj (I.2.2.1.1 (ρ i) (ρ j) _ _ (hget i hi) (hget j hj) huv)
  · obtain ⟨hi, rfl⟩ := j_w_inv hq
    exact I.2.2.1.2 (ρ i) _ (hget i hi)
  · show ad (ρ i) = ad0 i
    rw [hn1 i hi]
    exact I.2.2.2.2.1.2 i hi
/-- a store that has the same cells -/
theorem j_same (h1 : h'.1 = h.1) (h2 : ∀ i, i < h.1 → h'.2 i = h.2 i) (kk : JJ p l e R s m args below meth c D tyc A n0 ad0 nL Qs pc L st h' cells slots) : JJ p l e R s m args below meth c D tyc A n0 ad0 nL Qs pc L st h cells slots := by
  intro ad ls H locs I
  have hw : j_w tyc ad h' = j_w tyc ad h := by
    unfold j_w
    rw [h1]
    exact List.map_congr_left fun i hi => by rw [h2 i (List.mem_range.mp hi)]
  refine kk ad ls H locs ⟨I.1, by rw [hw]; exact I.2.1, by rw [hw]; exact I.2.2.1, I.2.2.2.1, ⟨by rw [h1]; exact I.2.2.2.2.1.1, I.2.2.2.2.1.2⟩, fun i hi j => ?_, by rw [h1]; exact I.2.2.2.2.2.2.1, by rw [h1]; exact I.2.2.2.2.2.2.2⟩
  rw [h1] at hi ⊢
  rw [h2 i hi]
  exact I.2.2.2.2.2.1 i hi j
/-- cells and slots may be counted higher -/
theorem j_widen {c2 s2 : Nat} (hc : cells ≤ c2) (hs : slots ≤ s2) (kk : JJ p l e R s m args below meth c D tyc A n0 ad0 nL Qs pc L st h c2 s2) : JJ p l e R s m args below meth c D tyc A n0 ad0 nL Qs pc L st h cells slots :=
  fun ad ls H locs I => W.widen hc hs (kk ad ls H locs I)
/-- what holds of a store that is reached -/
theorem j_okd (kk : j_okH h → (∀ v ∈ st, j_ok h.1 v) → (∀ v, some v ∈ L → j_ok h.1 v) → JJ p l e R s m args below meth c D tyc A n0 ad0 nL Qs pc L st h cells slots) : JJ p l e R s m args below meth c D tyc A n0 ad0 nL Qs pc L st h cells slots :=
  fun ad ls H locs I => kk I.2.2.2.2.2.1 I.2.2.2.2.2.2.1 I.2.2.2.2.2.2.2 ad ls H locs I
/-- locals that are forgotten -/
theorem j_locs (hl : L'.length = L.length) (hL : ∀ (i : Nat) (v : Value), L'[i]? = some (some v) → L[i]? = some (some v)) (kk : JJ p l e R s m args below meth c D tyc A n0 ad0 nL Qs pc L' st h cells slots) : JJ p l e R s m args below meth c D tyc A n0 ad0 nL Qs pc L st h cells slots := by
  intro ad ls H locs I
  refine kk ad ls H locs ⟨⟨I.1.1, I.1.2.1, hl.trans I.1.2.2.1, fun i v hv => I.1.2.2.2 i v (hL i v hv)⟩, I.2.1, I.2.2.1, I.2.2.2.1, I.2.2.2.2.1, I.2.2.2.2.2.1, I.2.2.2.2.2.2.1, fun v hv => ?_⟩
  obtain ⟨i, hi⟩ := List.getElem?_of_mem hv
  exact I.2.2.2.2.2.2.2 v (List.mem_of_getElem? (hL i v hi))
/-- a loop over 0 .. n - 1 whose invariant says all -/
theorem j_loop (n : Nat) (V : Nat → List (Option Value) → MH → Nat → Nat → Prop) (h0 : V 0 L h cells slots)
    (step : ∀ j, j < n → ∀ L h c1 s1, V j L h c1 s1 → (∀ L2 h2 c2 s2, V (j + 1) L2 h2 c2 s2 → JJ p l e R s m args below meth c D tyc A n0 ad0 nL Qs pc L2 st h2 c2 s2) → JJ p l e R s m args below meth c D tyc A n0 ad0 nL Qs pc L st h c1 s1)
    (last : ∀ L h c1 s1, V n L h c1 s1 → JJ p l e R s m args below meth c D tyc A n0 ad0 nL Qs pc L st h c1 s1) : JJ p l e R s m args below meth c D tyc A n0 ad0 nL Qs pc L st h cells slots := by
  have key : ∀ r j, j + r = n → ∀ L h c1 s1, V j L h c1 s1 → JJ p l e R s m args below meth c D tyc A n0 ad0 nL Qs pc L st h c1 s1 := by
    intro r
    induction r with
    | zero =>
      intro j hj L h c1 s1 hV
      have e : j = n := by omega
      subst e
      exact last L h c1 s1 hV
    | succ r ih =>
      intro j hj L h c1 s1 hV
      exact step j (by omega) L h c1 s1 hV fun L2 h2 c2 s2 hV2 => ih (j + 1) (by omega) L2 h2 c2 s2 hV2
  exact key n 0 (by omega) L h cells slots h0
end JView
/-! two parts of a store: g, and h behind it -/
def jcat (g h : MH) : MH := (g.1 + h.1, fun i => if i < g.1 then g.2 i else j_shc g.1 (h.2 (i - g.1)))
theorem jcat_R {g h : MH} : j_in g.1 h (jcat g h) := ⟨Nat.le_refl _, fun i _ => by
  show (if g.1 + i < g.1 then g.2 (g.1 + i) else j_shc g.1 (h.2 (g.1 + i - g.1))) = _
  rw [if_neg (by omega), show g.1 + i - g.1 = i by omega]⟩
theorem jcat_L {g h : MH} : j_in 0 g (jcat g h) := ⟨by show 0 + g.1 ≤ g.1 + h.1; omega, fun i hi => by
  show (if 0 + i < g.1 then g.2 (0 + i) else _) = _
  rw [if_pos (by omega), Nat.zero_add, j_shc_0]⟩
theorem jcat_okR {g h : MH} (hk : j_okH (jcat g h)) : j_okH h := fun i hi j k hv => by
  have h1 := hk (g.1 + i) (show g.1 + i < g.1 + h.1 by omega) j (g.1 + k) (by
    rw [jcat_R.2 i hi]
    show j_shv g.1 ((h.2 i).2.2 j) = _
    rw [hv]
    rfl)
  exact Nat.lt_of_add_lt_add_left (show g.1 + k < g.1 + h.1 from h1)
theorem jcat_ok {g h : MH} (hg : ∀ i, i < g.1 → ∀ j, j_ok (g.1 + h.1) ((g.2 i).2.2 j)) (hh : j_okH h) : j_okH (jcat g h) := fun i hi j => by
  show j_ok (g.1 + h.1) ((if i < g.1 then g.2 i else j_shc g.1 (h.2 (i - g.1))).2.2 j)
  by_cases c : i < g.1
  · rw [if_pos c]; exact hg i c j
  · rw [if_neg c]
    have hi : i < g.1 + h.1 := hi
    exact j_at_ok (hh (i - g.1) (by omega) j) (Nat.le_refl _)
theorem jrep_R {g h h1 : MH} (hle : h.1 ≤ h1.1) : (j_rep g.1 h.1 h1 (jcat g h)).1 = (jcat g h1).1 ∧ ∀ i, i < (jcat g h1).1 → (jcat g h1).2 i = (j_rep g.1 h.1 h1 (jcat g h)).2 i := by
  refine ⟨show g.1 + h.1 + (h1.1 - h.1) = g.1 + h1.1 by omega, fun i hi => ?_⟩
  have hi : i < g.1 + h1.1 := hi
  show (if i < g.1 then g.2 i else j_shc g.1 (h1.2 (i - g.1))) = (if g.1 ≤ i ∧ i < g.1 + h1.1 then j_shc g.1 (h1.2 (i - g.1)) else if i < g.1 then g.2 i else _)
  by_cases c : i < g.1
  · rw [if_pos c, if_neg (by omega), if_pos c]
  · rw [if_neg c, if_pos (by omega)]
theorem jrep_L {g h g1 : MH} (hle : g1.1 = g.1) : (j_rep 0 g.1 g1 (jcat g h)).1 = (jcat g1 h).1 ∧ ∀ i, i < (jcat g1 h).1 → (jcat g1 h).2 i = (j_rep 0 g.1 g1 (jcat g h)).2 i := by
  refine ⟨show g.1 + h.1 + (g1.1 - g.1) = g1.1 + h.1 by omega, fun i hi => ?_⟩
  have hi : i < g1.1 + h.1 := hi
  show (if i < g1.1 then g1.2 i else j_shc g1.1 (h.2 (i - g1.1))) = (if 0 ≤ i ∧ i < 0 + g1.1 then j_shc 0 (g1.2 (i - 0)) else if i < g.1 then g.2 i else j_shc g.1 (h.2 (i - g.1)))
  by_cases c : i < g1.1
  · rw [if_pos c, if_pos (by omega), j_shc_0, Nat.sub_zero]
  · rw [if_neg c, if_neg (by omega), if_neg (by omega), hle]
