/-! ===== the store: cells by number; a cell is its kind (under 100: an object of vwCl, from 100 on: an array), its length, what its places hold; a reference is a cell's number ===== -/
abbrev MC : Type := Nat × Nat × (Nat → Value)
abbrev MH : Type := Nat × (Nat → MC)
abbrev MO : Type := Option Value ⊕ String
def ju {α : Type} (f : Nat → α) (k : Nat) (v : α) : Nat → α := fun j => if j = k then v else f j
theorem ju_s {α : Type} {f : Nat → α} {k : Nat} {v : α} : ju f k v k = v := by simp [ju]
theorem ju_n {α : Type} {f : Nat → α} {k j : Nat} {v : α} (h : j ≠ k) : ju f k v j = f j := by simp [ju, h]
def j_cv (ad : Nat → Nat) (v : Value) : Value := match v with
  | .ref k => .ref (ad k)
  | .retAddr a => .ref a
  | w => w
theorem j_cv_cat (ad : Nat → Nat) (v : Value) : (j_cv ad v).category = v.category := by cases v <;> rfl
def j_ok (n : Nat) (v : Value) : Prop := ∀ k, v = .ref k → k < n
theorem j_ok_int {n : Nat} {x : Int32} : j_ok n (.int x) := fun _ h => by cases h
theorem j_ok_long {n : Nat} {x : Int64} : j_ok n (.long x) := fun _ h => by cases h
theorem j_ok_float {n : Nat} {x : UInt32} : j_ok n (.float x) := fun _ h => by cases h
theorem j_ok_double {n : Nat} {x : UInt64} : j_ok n (.double x) := fun _ h => by cases h
theorem j_ok_null {n : Nat} : j_ok n .null := fun _ h => by cases h
theorem j_ok_ref {n k : Nat} (h : k < n) : j_ok n (.ref k) := fun _ e => by cases e; exact h
theorem j_ok_mono {n n' : Nat} {v : Value} (h : j_ok n v) (hn : n ≤ n') : j_ok n' v := fun k e => Nat.lt_of_lt_of_le (h k e) hn
theorem j_cv_eq {ad ad' : Nat → Nat} {n : Nat} {v : Value} (h : ∀ i, i < n → ad' i = ad i) (hv : j_ok n v) : j_cv ad' v = j_cv ad v := by
  cases v with
  | ref k => simp only [j_cv]; rw [h k (hv k rfl)]
  | _ => rfl
def j_int (v : Value) : Int32 := match v with
  | .int x => x
  | _ => 0
def j_lng (v : Value) : Int64 := match v with
  | .long x => x
  | _ => 0
def j_dbl (v : Value) : UInt64 := match v with
  | .double x => x
  | _ => 0
def j_opt (ad : Nat → Nat) (v : Value) : Option Nat := match v with
  | .ref k => some (ad k)
  | .retAddr a => some a
  | _ => none
def j_arr (ad : Nat → Nat) (t : Nat) (f : Nat → Value) : (Nat → Int32) ⊕ (Nat → Int64) ⊕ (Nat → UInt32) ⊕ (Nat → UInt64) ⊕ (Nat → Option Nat) :=
  if t = 103 then .inr (.inr (.inr (.inr fun j => j_opt ad (f j)))) else if t = 104 then .inr (.inl fun j => j_lng (f j)) else if t = 105 then .inr (.inr (.inr (.inl fun j => j_dbl (f j)))) else .inl fun j => j_int (f j)
def j_e (tyc : Nat → ClassId) (ad : Nat → Nat) (c : MC) : va_E := if c.1 < 100 then .inr (c.1, (List.range c.2.1).map fun k => j_cv ad (c.2.2 k)) else .inl (tyc c.1, c.2.1, j_arr ad c.1 c.2.2)
def j_w (tyc : Nat → ClassId) (ad : Nat → Nat) (h : MH) : va_W := (List.range h.1).map fun i => (ad i, j_e tyc ad (h.2 i))
theorem j_w_get {tyc : Nat → ClassId} {ad : Nat → Nat} {h : MH} {i : Nat} (hi : i < h.1) : (j_w tyc ad h)[i]? = some (ad i, j_e tyc ad (h.2 i)) := by simp [j_w, hi]
theorem j_w_len {tyc : Nat → ClassId} {ad : Nat → Nat} {h : MH} : (j_w tyc ad h).length = h.1 := by simp [j_w]
def j_wr (h : MH) (i : Nat) (c : MC) : MH := (h.1, ju h.2 i c)
def j_fld (h : MH) (i k : Nat) (v : Value) : MH := j_wr h i ((h.2 i).1, (h.2 i).2.1, ju (h.2 i).2.2 k v)
def j_push (h : MH) (c : MC) : MH := (h.1 + 1, ju h.2 h.1 c)
theorem j_w_set {tyc : Nat → ClassId} {ad : Nat → Nat} {h : MH} {i : Nat} {c : MC} (hi : i < h.1) : (j_w tyc ad h).set i (ad i, j_e tyc ad c) = j_w tyc ad (j_wr h i c) := by
  apply List.ext_getElem?
  intro k
  by_cases hk : k = i
  · subst hk
    rw [List.getElem?_set_self (by rw [j_w_len]; exact hi), j_w_get (h := j_wr h k c) hi]
    show _ = some (ad k, j_e tyc ad (ju h.2 k c k))
    rw [ju_s]
  · rw [List.getElem?_set_ne (Ne.symm hk)]
    by_cases hl : k < h.1
    · rw [j_w_get hl, j_w_get (h := j_wr h i c) hl]
      show _ = some (ad k, j_e tyc ad (ju h.2 i c k))
      rw [ju_n hk]
    · rw [List.getElem?_eq_none (by rw [j_w_len]; omega), List.getElem?_eq_none (by rw [j_w_len]; show h.1 ≤ k; omega)]
def j_okH (h : MH) : Prop := ∀ i, i < h.1 → ∀ j, j_ok h.1 ((h.2 i).2.2 j)
theorem j_e_ad {tyc : Nat → ClassId} {ad ad' : Nat → Nat} {n : Nat} {c : MC} (had : ∀ i, i < n → ad' i = ad i) (hc : ∀ j, j_ok n (c.2.2 j)) : j_e tyc ad' c = j_e tyc ad c := by
  have h1 : (fun k => j_cv ad' (c.2.2 k)) = fun k => j_cv ad (c.2.2 k) := funext fun k => j_cv_eq had (hc k)
  have h2 : (fun j => j_opt ad' (c.2.2 j)) = fun j => j_opt ad (c.2.2 j) := funext fun j => by
    cases hv : c.2.2 j with
    | ref k => simp only [j_opt]; rw [had k (hc j k hv)]
    | _ => rfl
  unfold j_e j_arr
  rw [h1, h2]
theorem j_w_ad {tyc : Nat → ClassId} {ad ad' : Nat → Nat} {h : MH} (hh : j_okH h) (had : ∀ i, i < h.1 → ad' i = ad i) : j_w tyc ad' h = j_w tyc ad h := by
  unfold j_w
  apply List.map_congr_left
  intro i hi
  have hi := List.mem_range.mp hi
  rw [had i hi, j_e_ad had (hh i hi)]
theorem j_w_push {tyc : Nat → ClassId} {ad : Nat → Nat} {h : MH} {c : MC} {q : Nat} (hh : j_okH h) (hc : ∀ j, j_ok h.1 (c.2.2 j)) : j_w tyc (ju ad h.1 q) (j_push h c) = j_w tyc ad h ++ [(q, j_e tyc ad c)] := by
  have had : ∀ i, i < h.1 → ju ad h.1 q i = ad i := fun i hi => ju_n (Nat.ne_of_lt hi)
  show (List.range (h.1 + 1)).map (fun i => (ju ad h.1 q i, j_e tyc (ju ad h.1 q) (ju h.2 h.1 c i))) = _
  rw [List.range_succ, List.map_append]
  congr 1
  · apply List.map_congr_left
    intro i hi
    have hi := List.mem_range.mp hi
    rw [had i hi, ju_n (Nat.ne_of_lt hi), j_e_ad had (hh i hi)]
  · simp only [List.map_cons, List.map_nil]
    rw [ju_s, ju_s, j_e_ad had hc]
theorem j_okH_wr {h : MH} {i : Nat} {c : MC} (hh : j_okH h) (hc : ∀ j, j_ok h.1 (c.2.2 j)) : j_okH (j_wr h i c) := by
  intro k hk j
  show j_ok h.1 ((ju h.2 i c k).2.2 j)
  by_cases e : k = i
  · subst e
    rw [ju_s]
    exact hc j
  · rw [ju_n e]
    exact hh k hk j
theorem j_okH_fld {h : MH} {i k : Nat} {v : Value} (hh : j_okH h) (hi : i < h.1) (hv : j_ok h.1 v) : j_okH (j_fld h i k v) := by
  refine j_okH_wr hh fun j => ?_
  show j_ok h.1 (ju (h.2 i).2.2 k v j)
  by_cases e : j = k
  · subst e
    rw [ju_s]
    exact hv
  · rw [ju_n e]
    exact hh i hi j
theorem j_okH_push {h : MH} {c : MC} (hh : j_okH h) (hc : ∀ j, j_ok h.1 (c.2.2 j)) : j_okH (j_push h c) := by
  intro k hk j
  have hk : k < h.1 + 1 := hk
  show j_ok (h.1 + 1) ((ju h.2 h.1 c k).2.2 j)
  by_cases e : k = h.1
  · subst e
    rw [ju_s]
    exact j_ok_mono (hc j) (Nat.le_succ _)
  · rw [ju_n e]
    exact j_ok_mono (hh k (by omega) j) (Nat.le_succ _)
/-! ===== locals ===== -/
def j_L (ls : Array Slot) (nL : Nat) (ad : Nat → Nat) (L : List (Option Value)) : Prop := ls.size = nL ∧ lv_wf ls ∧ L.length = nL ∧ ∀ (i : Nat) (v : Value), L[i]? = some (some v) → ls[i]? = some (.val (j_cv ad v))
theorem j_L.at {ls : Array Slot} {nL : Nat} {ad : Nat → Nat} {L : List (Option Value)} (h : j_L ls nL ad L) {i : Nat} {v : Value} (hv : L[i]? = some (some v)) : ls[i]? = some (.val (j_cv ad v)) := h.2.2.2 i v hv
def j_lv (ad : Nat → Nat) (L : List (Option Value)) : List (Nat × Value) := (List.range L.length).filterMap fun i => (L[i]?.join).map fun v => (i, j_cv ad v)
theorem j_lv_mem {ad : Nat → Nat} {L : List (Option Value)} {i : Nat} {v : Value} (h : L[i]? = some (some v)) : (i, j_cv ad v) ∈ j_lv ad L := by
  have hi : i < L.length := (List.getElem?_eq_some_iff.mp h).1
  refine List.mem_filterMap.mpr ⟨i, List.mem_range.mpr hi, ?_⟩
  rw [h]
  rfl
theorem j_L.has {ls : Array Slot} {nL : Nat} {ad : Nat → Nat} {L : List (Option Value)} (h : j_L ls nL ad L) : lv_has ls nL (j_lv ad L) := by
  refine ⟨h.1, h.2.1, fun q hq => ?_⟩
  obtain ⟨i, -, hi⟩ := List.mem_filterMap.mp hq
  cases hL : L[i]? with
  | none => rw [hL] at hi; cases hi
  | some o =>
    cases o with
    | none => rw [hL] at hi; cases hi
    | some v =>
      rw [hL] at hi
      cases hi
      exact h.2.2.2 i v hL
/-- no long or double ends at the place i -/
def j_c1 (L : List (Option Value)) (i : Nat) : Bool := match i with
  | 0 => true
  | j + 1 => match L[j]? with
    | some (some (.long _)) => false
    | some (some (.double _)) => false
    | _ => true
theorem j_c1_spec {L : List (Option Value)} {i j : Nat} {w : Value} (h : j_c1 L i = true) (hj : j + 1 = i) (hw : L[j]? = some (some w)) : w.category = 1 := by
  subst hj
  simp only [j_c1] at h
  rw [hw] at h
  cases w <;> first | rfl | cases h
theorem j_L.store {ls ls' : Array Slot} {nL : Nat} {ad : Nat → Nat} {L : List (Option Value)} {i : Nat} {v : Value} (h : j_L ls nL ad L) (hi : i < nL) (hc : j_c1 L i = true)
    (hs : lv_has ls' nL ((i, j_cv ad v) :: (j_lv ad L).filter (fun q => !(q.1 == i) && !(q.1 + 1 == i && q.2.category == 2)))) : j_L ls' nL ad (L.set i (some v)) := by
  refine ⟨hs.1, hs.2.1, by rw [List.length_set]; exact h.2.2.1, fun j w hj => ?_⟩
  by_cases e : j = i
  · subst e
    rw [List.getElem?_set_self (by rw [h.2.2.1]; exact hi)] at hj
    cases hj
    exact hs.2.2 _ List.mem_cons_self
  · rw [List.getElem?_set_ne (Ne.symm e)] at hj
    refine hs.2.2 (j, j_cv ad w) (List.mem_cons_of_mem _ (List.mem_filter.mpr ⟨j_lv_mem hj, ?_⟩))
    have e1 : (j == i) = false := beq_false_of_ne e
    show (!(j == i) && !(j + 1 == i && (j_cv ad w).category == 2)) = true
    rw [e1]
    by_cases e2 : j + 1 = i
    · rw [j_cv_cat, j_c1_spec hc e2 hj]
      simp
    · simp [e2]
theorem j_L.ad {ls : Array Slot} {nL : Nat} {ad ad' : Nat → Nat} {L : List (Option Value)} {n : Nat} (h : j_L ls nL ad L) (had : ∀ i, i < n → ad' i = ad i) (hL : ∀ v, some v ∈ L → j_ok n v) : j_L ls nL ad' L := by
  refine ⟨h.1, h.2.1, h.2.2.1, fun i v hv => ?_⟩
  rw [j_cv_eq had (hL v (List.mem_of_getElem? hv))]
  exact h.2.2.2 i v hv
theorem j_args_get : ∀ (vs : List Value) (k i : Nat) (v : Value), (∀ w ∈ vs, w.category = 1) → vs[i]? = some v → (k + i, v) ∈ lv_args k vs := by
  intro vs
  induction vs with
  | nil => intro k i v _ h; simp at h
  | cons w vs ih =>
    intro k i v hc h
    have hw : ¬ w.category = 2 := by rw [hc w List.mem_cons_self]; decide
    simp only [lv_args, if_neg hw]
    cases i with
    | zero =>
      simp only [List.getElem?_cons_zero, Option.some.injEq] at h
      subst h
      exact List.mem_cons_self
    | succ i =>
      have h2 : vs[i]? = some v := by simpa using h
      have := ih (k + 1) i v (fun u hu => hc u (List.mem_cons_of_mem _ hu)) h2
      rw [show k + (i + 1) = k + 1 + i by omega]
      exact List.mem_cons_of_mem _ this
/-- the locals with which a method begins, its arguments all of one slot -/
def j_L0 (nL : Nat) (as : List Value) : List (Option Value) := as.map some ++ List.replicate (nL - as.length) none
theorem j_L0_get {nL : Nat} {as : List Value} {i : Nat} {v : Value} (h : (j_L0 nL as)[i]? = some (some v)) : as[i]? = some v := by
  unfold j_L0 at h
  by_cases hi : i < as.length
  · rw [List.getElem?_append_left (by simpa using hi)] at h
    simpa using h
  · rw [List.getElem?_append_right (by simpa using hi)] at h
    have := List.mem_of_getElem? h
    have := List.eq_of_mem_replicate this
    cases this
theorem j_L.entry {ls : Array Slot} {nL : Nat} {ad : Nat → Nat} {as : List Value} (hn : as.length ≤ nL) (hc : ∀ v ∈ as, v.category = 1) (h : lv_has ls nL (lv_args 0 (as.map (j_cv ad)))) : j_L ls nL ad (j_L0 nL as) := by
  refine ⟨h.1, h.2.1, by simp [j_L0]; omega, fun i v hv => ?_⟩
  have h1 := j_L0_get hv
  have h2 : (as.map (j_cv ad))[i]? = some (j_cv ad v) := by rw [List.getElem?_map, h1]; rfl
  have h3 := j_args_get (as.map (j_cv ad)) 0 i (j_cv ad v) (fun w hw => by
    obtain ⟨u, hu, rfl⟩ := List.mem_map.mp hw
    rw [j_cv_cat]
    exact hc u hu) h2
  rw [Nat.zero_add] at h3
  exact h.2.2 _ h3
