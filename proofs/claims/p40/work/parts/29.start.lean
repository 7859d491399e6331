/-! ===== the store behind the constructors ===== -/
theorem HH_ok {b : SBt} {Y : OUt} {M : MM} (h1 : b.1 < b.2.1) (h2 : 94 ≤ b.2.1) : j_okH (HH b Y M) := by
  have hall : (hRl.all fun l => l.all fun q => decide (q.2 < 94)) = true := by decide +kernel
  have hr : ∀ i k r, hR i k = some r → r < 94 := by
    intro i k r h
    unfold hR at h
    by_cases hi : i < hRl.length
    · rw [List.getD_eq_getElem?_getD, List.getElem?_eq_getElem hi] at h
      have h3 := List.all_eq_true.mp hall _ (List.getElem_mem hi)
      obtain ⟨l1, l2, h4, -⟩ := List.lookup_eq_some_iff.mp h
      have h5 := List.all_eq_true.mp h3 (k, r) (by show (k, r) ∈ hRl[i]; have h4 : hRl[i] = _ := h4; rw [h4]; exact List.mem_append_right _ List.mem_cons_self)
      exact of_decide_eq_true h5
    · rw [List.getD_eq_getElem?_getD, List.getElem?_eq_none (by omega)] at h
      cases h
  intro i hi j k hk
  have hk : hF b Y M i j = .ref k := hk
  show k < b.2.1
  unfold hF at hk
  split at hk
  · cases hk
  · split at hk
    · cases hk
    · split at hk
      · cases hk; exact h1
      · split at hk
        · cases hk
          exact Nat.lt_of_lt_of_le (hr i j k (by assumption)) h2
        · cases hk
theorem j3_eq {p : Program} {l : Launch} {e : Env} {R : Room} {s : State} {m : MethodId} {args : Array Value} {below : List Frame} {meth : Method} {c : Code} {D : va_G} {tyc : Nat → ClassId} {A : Nat → Prop} {n0 : Nat} {ad0 : Nat → Nat} {nL : Nat} {Q : State → Prop} {pc : Nat} {L : List (Option Value)} {st : List Value} {cells slots n : Nat} {f : Nat → Nat → Value} {b : SBt} {Y : OUt} {M : MM}
    (hn : n = b.2.1) (h4 : n = 94) (hb1 : b.1 < b.2.1) (he : ∀ i, i < n → ∀ k, k < hN i → f i k = hF b Y M i k) (kk : JJ p l e R s m args below meth c D tyc A n0 ad0 nL Q pc L st (HH b Y M) cells slots) : JJ p l e R s m args below meth c D tyc A n0 ad0 nL Q pc L st (HS n f) cells slots := by
  have hlen : ∀ i, i < n → hLen b i = hN i := fun i hi => hLen_lo (by omega)
  have hx : ∀ (ad : Nat → Nat) (H : Heap) (i : Nat), i < n → va_at D vwCl (ad i, j_e tyc ad (hT i, hN i, f i)) H → va_at D vwCl (ad i, j_e tyc ad (hT i, hLen b i, hF b Y M i)) H := by
    intro ad H i hi hv
    rw [hlen i hi]
    by_cases ht : hT i < 100
    · rw [j_e_obj (ci := hT i) rfl ht] at hv ⊢
      have e1 : (List.range (hN i)).map (fun k => j_cv ad (f i k)) = (List.range (hN i)).map (fun k => j_cv ad (hF b Y M i k)) := List.map_congr_left fun k hk => by rw [he i hi k (List.mem_range.mp hk)]
      show va_at D vwCl (ad i, .inr (hT i, (List.range (hN i)).map (fun k => j_cv ad (hF b Y M i k)))) H
      rw [← e1]
      exact hv
    · rw [j_e_arr (t := hT i) rfl (by omega)] at hv ⊢
      have key : ∀ (f g : Nat → Value), (∀ k, k < hN i → f k = g k) → vp_cell (tyc (hT i)) (hN i, j_arr ad (hT i) f) = vp_cell (tyc (hT i)) (hN i, j_arr ad (hT i) g) := by
        intro f g hfg
        have arr : ∀ (u v : Nat → Value), (∀ k, k < hN i → u k = v k) → arrV (tyc (hT i)) (hN i) u = arrV (tyc (hT i)) (hN i) v := fun u v huv => by
          unfold arrV
          congr 2
          funext j
          exact huv j.val j.isLt
        unfold j_arr
        split
        · exact arr (fun j => va_rf (j_opt ad (f j))) (fun j => va_rf (j_opt ad (g j))) fun k hk => by show va_rf (j_opt ad (f k)) = va_rf (j_opt ad (g k)); rw [hfg k hk]
        · split
          · exact arr (fun j => .long (j_lng (f j))) (fun j => .long (j_lng (g j))) fun k hk => by show Value.long (j_lng (f k)) = .long (j_lng (g k)); rw [hfg k hk]
          · split
            · exact arr (fun j => .double (j_dbl (f j))) (fun j => .double (j_dbl (g j))) fun k hk => by show Value.double (j_dbl (f k)) = .double (j_dbl (g k)); rw [hfg k hk]
            · exact arr (fun j => .int (j_int (f j))) (fun j => .int (j_int (g j))) fun k hk => by show Value.int (j_int (f k)) = .int (j_int (g k)); rw [hfg k hk]
      have hv : H[ad i]? = some (vp_cell (tyc (hT i)) (hN i, j_arr ad (hT i) (f i))) := hv
      show H[ad i]? = some (vp_cell (tyc (hT i)) (hN i, j_arr ad (hT i) (hF b Y M i)))
      rw [← key _ _ (he i hi)]
      exact hv
  intro ad ls H locs I
  obtain ⟨i1, i2, i3, i4, i5, i6, i7, i8⟩ := I
  have i5 : n0 ≤ n ∧ ∀ i, i < n0 → ad i = ad0 i := i5
  refine kk ad ls H locs ⟨i1, ?_, ?_, i4, ⟨by show n0 ≤ b.2.1; rw [← hn]; exact i5.1, i5.2⟩, HH_ok hb1 (by omega), fun v hv => by show j_ok b.2.1 v; rw [← hn]; exact i7 v hv, fun v hv => by show j_ok b.2.1 v; rw [← hn]; exact i8 v hv⟩
  · intro k q hk
    have hkl : k < b.2.1 := by
      have := (List.getElem?_eq_some_iff.mp hk).1
      rw [j_w_len] at this
      exact this
    rw [j_w_get (h := HH b Y M) hkl] at hk
    cases hk
    exact hx ad H k (by omega) (i2 k _ (j_w_get (h := HS n f) (show k < n by omega)))
  · have same : ∀ (k : Nat) (q : Nat × va_E), (j_w tyc ad (HH b Y M))[k]? = some q → ∃ q0, (j_w tyc ad (HS n f))[k]? = some q0 ∧ q0.1 = q.1 := by
      intro k q hk
      have hkl : k < b.2.1 := by
        have := (List.getElem?_eq_some_iff.mp hk).1
        rw [j_w_len] at this
        exact this
      rw [j_w_get (h := HH b Y M) hkl] at hk
      cases hk
      exact ⟨_, j_w_get (h := HS n f) (show k < n by omega), rfl⟩
    refine ⟨fun i j u v hi hj huv => ?_, fun k q hk => ?_⟩
    · obtain ⟨u0, a1, a2⟩ := same i u hi
      obtain ⟨v0, b1, b2⟩ := same j v hj
      exact i3.1 i j u0 v0 a1 b1 (a2.trans (huv.trans b2.symm))
    · obtain ⟨q0, a1, a2⟩ := same k q hk
      rw [← a2]
      exact i3.2 k q0 a1
/-- the store at the law's loop, before any call -/
def M0 : MM := fun i k => if i = 0 then (if k = 8 then -1 else 0) else if isLg i then (if k = 4 then 3 else if k = 5 then 1 else if k = 6 then 2 else 0) else if isLg (i - 2) then (if k = 1 then 1 else if k = 2 then -1 else 0) else 0
def Y0 : OUt := (fun _ => 0, fun _ => 0)
def b0 : SBt := (93, 94, fun _ => 0)
def F0s : Nat → Nat → Value := fLT (ju (fun _ _ => .null) 0 fun k => defaultValue (tyX5 k))
theorem F0_all : ((List.range 94).all fun i => (List.range (hN i)).all fun k => decide (F0s i k = hF b0 Y0 M0 i k)) = true := by decide +kernel
theorem F0_ok : ∀ i, i < 94 → ∀ k, k < hN i → F0s i k = hF b0 Y0 M0 i k := fun i hi k hk =>
  of_decide_eq_true (List.all_eq_true.mp (List.all_eq_true.mp F0_all i (List.mem_range.mpr hi)) k (List.mem_range.mpr hk))
