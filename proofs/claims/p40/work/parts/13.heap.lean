/-! ===== classes of objects, by their numbers in vwCl ===== -/
def j_cls (ci : Nat) (q : vw_C) (ty : Nat → FieldType) : Prop := vwCl[ci]? = some q ∧ ci < 100 ∧ (∀ w ∈ u_ws q.1 q.2.1 q.2.2, w ∈ j_all) ∧ (∀ k, k < q.2.2 → parseFieldDescriptor (q.2.1 k).2.2.1 = some (ty k)) ∧ ∀ a, a < q.2.2 → ∀ b, b < q.2.2 → a ≠ b → (q.2.1 a).2.1 ≠ (q.2.1 b).2.1
theorem j_e_obj {tyc : Nat → ClassId} {ad : Nat → Nat} {c : MC} {ci : Nat} (ht : c.1 = ci) (hci : ci < 100) : j_e tyc ad c = .inr (ci, (List.range c.2.1).map fun k => j_cv ad (c.2.2 k)) := by
  unfold j_e
  rw [if_pos (by rw [ht]; exact hci), ht]
theorem j_e_arr {tyc : Nat → ClassId} {ad : Nat → Nat} {c : MC} {t : Nat} (ht : c.1 = t) (h1 : 100 ≤ t) : j_e tyc ad c = .inl (tyc t, c.2.1, j_arr ad t c.2.2) := by
  unfold j_e
  rw [if_neg (by rw [ht]; omega), ht]
theorem j_arr_i {ad : Nat → Nat} {t : Nat} {f : Nat → Value} (h1 : t ≠ 103) (h2 : t ≠ 104) (h3 : t ≠ 105) : j_arr ad t f = .inl fun j => j_int (f j) := by
  unfold j_arr
  rw [if_neg h1, if_neg h2, if_neg h3]
theorem j_fs_get {ad : Nat → Nat} {N k : Nat} {f : Nat → Value} (hk : k < N) : ((List.range N).map fun j => j_cv ad (f j))[k]? = some (j_cv ad (f k)) := by simp [hk]
theorem j_fs_set {ad : Nat → Nat} {N k : Nat} {f : Nat → Value} {v : Value} (hk : k < N) : ((List.range N).map fun j => j_cv ad (f j)).set k (j_cv ad v) = (List.range N).map fun j => j_cv ad (ju f k v j) := by
  apply List.ext_getElem?
  intro j
  by_cases e : j = k
  · subst e
    rw [List.getElem?_set_self (by simpa using hk), j_fs_get hk, ju_s]
  · rw [List.getElem?_set_ne (Ne.symm e)]
    by_cases hj : j < N
    · rw [j_fs_get hj, j_fs_get hj, ju_n e]
    · rw [List.getElem?_eq_none (by simpa using hj), List.getElem?_eq_none (by simpa using hj)]
theorem j_nar {ty : FieldType} {v : Value} {ad : Nat → Nat} (h : narrow ty v = v) : narrow ty (j_cv ad v) = j_cv ad v := by
  cases v with
  | ref k => cases ty <;> rfl
  | retAddr k => cases ty <;> rfl
  | _ => exact h
theorem j_fits {ty : FieldType} {v : Value} {ad : Nat → Nat} (h : fits ty v = true) : fits ty (j_cv ad v) = true := by
  cases v with
  | ref k => cases ty <;> first | rfl | cases h
  | retAddr k => cases ty <;> first | rfl | cases h
  | _ => exact h
/-- what follows a store: the new world, the frame -/
theorem j_I.wr {s : State} {D : va_G} {tyc : Nat → ClassId} {A : Nat → Prop} {n0 : Nat} {ad0 : Nat → Nat} {nL : Nat} {ad : Nat → Nat} {L : List (Option Value)} {st st' : List Value} {h : MH} {ls : Array Slot} {H H1 : Heap} {locs locs1 : List Loc} {i : Nat} {c : MC}
    (I : j_I s D tyc A n0 ad0 nL ad L st h ls H locs) (hs : (∀ v ∈ st, j_ok h.1 v) → ∀ v ∈ st', j_ok h.1 v) (hi : i < h.1) (hc : ∀ j, j_ok h.1 (c.2.2 j))
    (hP : va_P D vwCl ((j_w tyc ad h).set i (ad i, j_e tyc ad c)) H1) (hD : va_D A ((j_w tyc ad h).set i (ad i, j_e tyc ad c))) (hS : va_S A s.heap H1 locs1) : j_I s D tyc A n0 ad0 nL ad L st' (j_wr h i c) ls H1 locs1 := by
  rw [j_w_set hi] at hP hD
  exact ⟨I.1, hP, hD, hS, I.2.2.2.2.1, j_okH_wr I.2.2.2.2.2.1 hc, hs I.2.2.2.2.2.2.1, I.2.2.2.2.2.2.2⟩
section JH
variable {p : Program} {l : Launch} {e : Env} {R : Room} {s : State} {m : MethodId} {args : Array Value} {below : List Frame} {meth : Method} {c : Code} {D : va_G} {tyc : Nat → ClassId} {A : Nat → Prop} {n0 : Nat} {ad0 : Nat → Nat} {nL : Nat} {Q : State → Prop}
variable {own : String} {cc : ByteArray} {pc : Nat} {L : List (Option Value)} {st : List Value} {h : MH} {cells slots : Nat}
theorem j_get (x : j_X p l s m args meth c D tyc A own cc nL) {i k idx ci : Nat} {q : vw_C} {ty : Nat → FieldType} (hd : decode cc pc = .ok (.getfield idx, 3)) (hq : j_cls ci q ty) (hw : Cond.fieldLink own idx (q.2.1 k).1 (q.2.1 k).2.1 (q.2.1 k).2.2.1 ∈ j_all) (hk : k < q.2.2)
    (hi : i < h.1) (ht : (h.2 i).1 = ci) (hn : (h.2 i).2.1 = q.2.2) (kk : JJ p l e R s m args below meth c D tyc A n0 ad0 nL Q (pc + 3) L ((h.2 i).2.2 k :: st) h cells slots) : JJ p l e R s m args below meth c D tyc A n0 ad0 nL Q pc L (.ref i :: st) h cells slots := by
  intro ad ls H locs I
  have he : (j_w tyc ad h)[i]? = some (ad i, .inr (ci, (List.range (h.2 i).2.1).map fun k => j_cv ad ((h.2 i).2.2 k))) := by rw [j_w_get hi, j_e_obj ht hq.2.1]
  exact va_get (C := q.1) (T := q.2.1) (N := q.2.2) x.1 x.2.1 x.2.2.2.2.1 hq.2.2.1 x.2.2.2.1 x.2.2.2.2.2.1 I.2.1 i he hq.1 k hk (x.2.2.2.2.1 _ hw) (fun _ h9 => h9) (j_fs_get (by rw [hn]; exact hk)) hd
    (kk ad ls H locs (I.st fun hs => j_ok_cons (I.2.2.2.2.2.1 i hi k) (j_ok_tl hs)))
theorem j_put (x : j_X p l s m args meth c D tyc A own cc nL) {i k idx ci : Nat} {q : vw_C} {ty : Nat → FieldType} {v : Value} (hd : decode cc pc = .ok (.putfield idx, 3)) (hq : j_cls ci q ty) (hw : Cond.fieldLink own idx (q.2.1 k).1 (q.2.1 k).2.1 (q.2.1 k).2.2.1 ∈ j_all) (hk : k < q.2.2)
    (hfin : (q.2.1 k).2.2.2 = false) (hna : narrow (ty k) v = v) (hfi : fits (ty k) v = true) (hi : i < h.1) (ht : (h.2 i).1 = ci) (hn : (h.2 i).2.1 = q.2.2) (kk : JJ p l e R s m args below meth c D tyc A n0 ad0 nL Q (pc + 3) L st (j_fld h i k v) cells slots) : JJ p l e R s m args below meth c D tyc A n0 ad0 nL Q pc L (v :: .ref i :: st) h cells slots := by
  intro ad ls H locs I
  have he : (j_w tyc ad h)[i]? = some (ad i, .inr (ci, (List.range (h.2 i).2.1).map fun k => j_cv ad ((h.2 i).2.2 k))) := by rw [j_w_get hi, j_e_obj ht hq.2.1]
  refine va_put (C := q.1) (T := q.2.1) (N := q.2.2) (ty := ty k) x.1 x.2.1 x.2.2.2.2.1 hq.2.2.1 ty hq.2.2.2.1 hq.2.2.2.2 x.2.2.2.1 x.2.2.2.2.2.1 I.2.1 I.2.2.1 I.2.2.2.1 i he hq.1 k hk (x.2.2.2.2.1 _ hw) (fun _ h9 => h9) hfin (hq.2.2.2.1 k hk) (j_nar hna) (j_fits hfi) (by rw [List.length_map, List.length_range, hn]; exact hk) hd (fun H1 locs1 hP hD hS => ?_)
  rw [j_fs_set (by rw [hn]; exact hk)] at hP hD
  have e2 : j_e tyc ad ((h.2 i).1, (h.2 i).2.1, ju (h.2 i).2.2 k v) = .inr (ci, (List.range (h.2 i).2.1).map fun j => j_cv ad (ju (h.2 i).2.2 k v j)) := j_e_obj ht hq.2.1
  rw [← e2] at hP hD
  exact kk ad ls H1 locs1 (I.wr (fun hs => j_ok_tl (j_ok_tl hs)) hi (fun j => by
    show j_ok h.1 (ju (h.2 i).2.2 k v j)
    by_cases e : j = k
    · subst e; rw [ju_s]; exact I.2.2.2.2.2.2.1 _ List.mem_cons_self
    · rw [ju_n e]; exact I.2.2.2.2.2.1 i hi j) hP hD hS)
theorem j_putF (x : j_X p l s m args meth c D tyc A own cc nL) {i k idx ci : Nat} {q : vw_C} {ty : Nat → FieldType} {v : Value} (hin : meth.name = "<init>") (hd : decode cc pc = .ok (.putfield idx, 3)) (hq : j_cls ci q ty) (hw : Cond.fieldLink own idx (q.2.1 k).1 (q.2.1 k).2.1 (q.2.1 k).2.2.1 ∈ j_all) (hk : k < q.2.2)
    (hfin : (q.2.1 k).2.2.2 = true) (hdecl : (q.2.1 k).1 = own) (hna : narrow (ty k) v = v) (hfi : fits (ty k) v = true) (hi : i < h.1) (ht : (h.2 i).1 = ci) (hn : (h.2 i).2.1 = q.2.2) (kk : JJ p l e R s m args below meth c D tyc A n0 ad0 nL Q (pc + 3) L st (j_fld h i k v) cells slots) : JJ p l e R s m args below meth c D tyc A n0 ad0 nL Q pc L (v :: .ref i :: st) h cells slots := by
  intro ad ls H locs I
  have he : (j_w tyc ad h)[i]? = some (ad i, .inr (ci, (List.range (h.2 i).2.1).map fun k => j_cv ad ((h.2 i).2.2 k))) := by rw [j_w_get hi, j_e_obj ht hq.2.1]
  refine va_putF (C := q.1) (T := q.2.1) (N := q.2.2) (ty := ty k) x.1 x.2.1 x.2.2.2.2.1 hq.2.2.1 ty hq.2.2.2.1 hq.2.2.2.2 x.2.2.2.1 x.2.2.2.2.2.1 I.2.1 I.2.2.1 I.2.2.2.1 i he hq.1 k hk (x.2.2.2.2.1 _ hw) (fun _ h9 => h9) hfin hin hdecl (hq.2.2.2.1 k hk) (j_nar hna) (j_fits hfi) (by rw [List.length_map, List.length_range, hn]; exact hk) hd (fun H1 locs1 hP hD hS => ?_)
  rw [j_fs_set (by rw [hn]; exact hk)] at hP hD
  have e2 : j_e tyc ad ((h.2 i).1, (h.2 i).2.1, ju (h.2 i).2.2 k v) = .inr (ci, (List.range (h.2 i).2.1).map fun j => j_cv ad (ju (h.2 i).2.2 k v j)) := j_e_obj ht hq.2.1
  rw [← e2] at hP hD
  exact kk ad ls H1 locs1 (I.wr (fun hs => j_ok_tl (j_ok_tl hs)) hi (fun j => by
    show j_ok h.1 (ju (h.2 i).2.2 k v j)
    by_cases e : j = k
    · subst e; rw [ju_s]; exact I.2.2.2.2.2.2.1 _ List.mem_cons_self
    · rw [ju_n e]; exact I.2.2.2.2.2.1 i hi j) hP hD hS)
theorem j_iaload (x : j_X p l s m args meth c D tyc A own cc nL) {i : Nat} {k v : Int32} (hd : decode cc pc = .ok (.iaload, 1)) (hi : i < h.1) (ht : (h.2 i).1 = 100) (hk : vp_in k (h.2 i).2.1) (hv : (h.2 i).2.2 k.toNatClampNeg = .int v) (kk : JJ p l e R s m args below meth c D tyc A n0 ad0 nL Q (pc + 1) (L) (.int v :: st) (h) (cells) (slots)) : JJ p l e R s m args below meth c D tyc A n0 ad0 nL Q (pc) (L) (.int k :: .ref i :: st) (h) (cells) (slots) := by
  intro ad ls H locs I
  have he : (j_w tyc ad h)[i]? = some (ad i, .inl (tyc 100, (h.2 i).2.1, .inl fun j => j_int ((h.2 i).2.2 j))) := by rw [j_w_get hi, j_e_arr ht (by decide), j_arr_i (by decide) (by decide) (by decide)]
  refine va_iald x.1 x.2.1 x.2.2.2.2.2.1 I.2.1 i 0 he rfl hk hd ?_
  rw [hv]
  exact kk ad ls H locs (I.st fun hs => j_ok_cons j_ok_int (j_ok_tl (j_ok_tl hs)))
theorem j_caload (x : j_X p l s m args meth c D tyc A own cc nL) {i : Nat} {k v : Int32} (hd : decode cc pc = .ok (.caload, 1)) (hi : i < h.1) (ht : (h.2 i).1 = 101) (hk : vp_in k (h.2 i).2.1) (hv : (h.2 i).2.2 k.toNatClampNeg = .int v) (kk : JJ p l e R s m args below meth c D tyc A n0 ad0 nL Q (pc + 1) (L) (.int v :: st) (h) (cells) (slots)) : JJ p l e R s m args below meth c D tyc A n0 ad0 nL Q (pc) (L) (.int k :: .ref i :: st) (h) (cells) (slots) := by
  intro ad ls H locs I
  have he : (j_w tyc ad h)[i]? = some (ad i, .inl (tyc 101, (h.2 i).2.1, .inl fun j => j_int ((h.2 i).2.2 j))) := by rw [j_w_get hi, j_e_arr ht (by decide), j_arr_i (by decide) (by decide) (by decide)]
  refine va_cald x.1 x.2.1 x.2.2.2.2.2.1 I.2.1 i 1 he rfl hk hd ?_
  rw [hv]
  exact kk ad ls H locs (I.st fun hs => j_ok_cons j_ok_int (j_ok_tl (j_ok_tl hs)))
theorem j_baload (x : j_X p l s m args meth c D tyc A own cc nL) {i : Nat} {k v : Int32} (hd : decode cc pc = .ok (.baload, 1)) (hi : i < h.1) (ht : (h.2 i).1 = 102) (hk : vp_in k (h.2 i).2.1) (hv : (h.2 i).2.2 k.toNatClampNeg = .int v) (kk : JJ p l e R s m args below meth c D tyc A n0 ad0 nL Q (pc + 1) (L) (.int v :: st) (h) (cells) (slots)) : JJ p l e R s m args below meth c D tyc A n0 ad0 nL Q (pc) (L) (.int k :: .ref i :: st) (h) (cells) (slots) := by
  intro ad ls H locs I
  have he : (j_w tyc ad h)[i]? = some (ad i, .inl (tyc 102, (h.2 i).2.1, .inl fun j => j_int ((h.2 i).2.2 j))) := by rw [j_w_get hi, j_e_arr ht (by decide), j_arr_i (by decide) (by decide) (by decide)]
  refine va_bald x.1 x.2.1 x.2.2.2.2.2.1 I.2.1 i 2 he rfl hk hd ?_
  rw [hv]
  exact kk ad ls H locs (I.st fun hs => j_ok_cons j_ok_int (j_ok_tl (j_ok_tl hs)))
theorem j_iastore (x : j_X p l s m args meth c D tyc A own cc nL) {i : Nat} {k v : Int32} (hd : decode cc pc = .ok (.iastore, 1)) (hi : i < h.1) (ht : (h.2 i).1 = 100) (hk : vp_in k (h.2 i).2.1) (kk : JJ p l e R s m args below meth c D tyc A n0 ad0 nL Q (pc + 1) (L) (st) (j_fld h i k.toNatClampNeg (.int v)) (cells) (slots)) : JJ p l e R s m args below meth c D tyc A n0 ad0 nL Q (pc) (L) (.int v :: .int k :: .ref i :: st) (h) (cells) (slots) := by
  intro ad ls H locs I
  have he : (j_w tyc ad h)[i]? = some (ad i, .inl (tyc 100, (h.2 i).2.1, .inl fun j => j_int ((h.2 i).2.2 j))) := by rw [j_w_get hi, j_e_arr ht (by decide), j_arr_i (by decide) (by decide) (by decide)]
  refine va_iast x.1 x.2.1 x.2.2.2.2.2.1 I.2.1 I.2.2.1 I.2.2.2.1 i 0 he rfl hk hd (fun H1 locs1 hP hD hS => ?_)
  have e1 : upd (fun j => j_int ((h.2 i).2.2 j)) k.toNatClampNeg v = fun j => j_int (ju (h.2 i).2.2 k.toNatClampNeg (.int v) j) := funext fun j => by
    by_cases e : j = k.toNatClampNeg <;> simp [upd, ju, e, j_int]
  have e2 : j_e tyc ad ((h.2 i).1, (h.2 i).2.1, ju (h.2 i).2.2 k.toNatClampNeg (.int v)) = .inl (tyc 100, (h.2 i).2.1, .inl fun j => j_int (ju (h.2 i).2.2 k.toNatClampNeg (.int v) j)) := Eq.trans (j_e_arr (ad := ad) (tyc := tyc) (c := (_, _, _)) (t := 100) ht (by decide)) (by rw [j_arr_i (by decide) (by decide) (by decide)])
  rw [e1, ← e2] at hP hD
  exact kk ad ls H1 locs1 (I.wr (fun hs => j_ok_tl (j_ok_tl (j_ok_tl hs))) hi (fun j => by
    show j_ok h.1 (ju (h.2 i).2.2 k.toNatClampNeg (.int v) j)
    by_cases e : j = k.toNatClampNeg
    · subst e; rw [ju_s]; exact j_ok_int
    · rw [ju_n e]; exact I.2.2.2.2.2.1 i hi j) hP hD hS)
theorem j_castore (x : j_X p l s m args meth c D tyc A own cc nL) {i : Nat} {k v w : Int32} (hd : decode cc pc = .ok (.castore, 1)) (hi : i < h.1) (ht : (h.2 i).1 = 101) (hk : vp_in k (h.2 i).2.1) (hw : vp_nar .char v = w) (kk : JJ p l e R s m args below meth c D tyc A n0 ad0 nL Q (pc + 1) (L) (st) (j_fld h i k.toNatClampNeg (.int w)) (cells) (slots)) : JJ p l e R s m args below meth c D tyc A n0 ad0 nL Q (pc) (L) (.int v :: .int k :: .ref i :: st) (h) (cells) (slots) := by
  subst hw
  intro ad ls H locs I
  have he : (j_w tyc ad h)[i]? = some (ad i, .inl (tyc 101, (h.2 i).2.1, .inl fun j => j_int ((h.2 i).2.2 j))) := by rw [j_w_get hi, j_e_arr ht (by decide), j_arr_i (by decide) (by decide) (by decide)]
  refine va_cast x.1 x.2.1 x.2.2.2.2.2.1 I.2.1 I.2.2.1 I.2.2.2.1 i 1 he rfl hk hd (fun H1 locs1 hP hD hS => ?_)
  have e1 : upd (fun j => j_int ((h.2 i).2.2 j)) k.toNatClampNeg (vp_nar .char v) = fun j => j_int (ju (h.2 i).2.2 k.toNatClampNeg (.int (vp_nar .char v)) j) := funext fun j => by
    by_cases e : j = k.toNatClampNeg <;> simp [upd, ju, e, j_int]
  have e2 : j_e tyc ad ((h.2 i).1, (h.2 i).2.1, ju (h.2 i).2.2 k.toNatClampNeg (.int (vp_nar .char v))) = .inl (tyc 101, (h.2 i).2.1, .inl fun j => j_int (ju (h.2 i).2.2 k.toNatClampNeg (.int (vp_nar .char v)) j)) := Eq.trans (j_e_arr (ad := ad) (tyc := tyc) (c := (_, _, _)) (t := 101) ht (by decide)) (by rw [j_arr_i (by decide) (by decide) (by decide)])
  rw [e1, ← e2] at hP hD
  exact kk ad ls H1 locs1 (I.wr (fun hs => j_ok_tl (j_ok_tl (j_ok_tl hs))) hi (fun j => by
    show j_ok h.1 (ju (h.2 i).2.2 k.toNatClampNeg (.int (vp_nar .char v)) j)
    by_cases e : j = k.toNatClampNeg
    · subst e; rw [ju_s]; exact j_ok_int
    · rw [ju_n e]; exact I.2.2.2.2.2.1 i hi j) hP hD hS)
theorem j_bastore (x : j_X p l s m args meth c D tyc A own cc nL) {i : Nat} {k v w : Int32} (hd : decode cc pc = .ok (.bastore, 1)) (hi : i < h.1) (ht : (h.2 i).1 = 102) (hk : vp_in k (h.2 i).2.1) (hw : vp_nar .byte v = w) (kk : JJ p l e R s m args below meth c D tyc A n0 ad0 nL Q (pc + 1) (L) (st) (j_fld h i k.toNatClampNeg (.int w)) (cells) (slots)) : JJ p l e R s m args below meth c D tyc A n0 ad0 nL Q (pc) (L) (.int v :: .int k :: .ref i :: st) (h) (cells) (slots) := by
  subst hw
  intro ad ls H locs I
  have he : (j_w tyc ad h)[i]? = some (ad i, .inl (tyc 102, (h.2 i).2.1, .inl fun j => j_int ((h.2 i).2.2 j))) := by rw [j_w_get hi, j_e_arr ht (by decide), j_arr_i (by decide) (by decide) (by decide)]
  refine va_bast x.1 x.2.1 x.2.2.2.2.2.1 I.2.1 I.2.2.1 I.2.2.2.1 i 2 he rfl hk hd (fun H1 locs1 hP hD hS => ?_)
  have e1 : upd (fun j => j_int ((h.2 i).2.2 j)) k.toNatClampNeg (vp_nar .byte v) = fun j => j_int (ju (h.2 i).2.2 k.toNatClampNeg (.int (vp_nar .byte v)) j) := funext fun j => by
    by_cases e : j = k.toNatClampNeg <;> simp [upd, ju, e, j_int]
  have e2 : j_e tyc ad ((h.2 i).1, (h.2 i).2.1, ju (h.2 i).2.2 k.toNatClampNeg (.int (vp_nar .byte v))) = .inl (tyc 102, (h.2 i).2.1, .inl fun j => j_int (ju (h.2 i).2.2 k.toNatClampNeg (.int (vp_nar .byte v)) j)) := Eq.trans (j_e_arr (ad := ad) (tyc := tyc) (c := (_, _, _)) (t := 102) ht (by decide)) (by rw [j_arr_i (by decide) (by decide) (by decide)])
  rw [e1, ← e2] at hP hD
  exact kk ad ls H1 locs1 (I.wr (fun hs => j_ok_tl (j_ok_tl (j_ok_tl hs))) hi (fun j => by
    show j_ok h.1 (ju (h.2 i).2.2 k.toNatClampNeg (.int (vp_nar .byte v)) j)
    by_cases e : j = k.toNatClampNeg
    · subst e; rw [ju_s]; exact j_ok_int
    · rw [ju_n e]; exact I.2.2.2.2.2.1 i hi j) hP hD hS)
theorem j_aaload (x : j_X p l s m args meth c D tyc A own cc nL) {i : Nat} {k : Int32} {r : Nat} (hd : decode cc pc = .ok (.aaload, 1)) (hi : i < h.1) (ht : (h.2 i).1 = 103) (hk : vp_in k (h.2 i).2.1) (hv : (h.2 i).2.2 k.toNatClampNeg = .ref r) (kk : JJ p l e R s m args below meth c D tyc A n0 ad0 nL Q (pc + 1) (L) (.ref r :: st) (h) (cells) (slots)) : JJ p l e R s m args below meth c D tyc A n0 ad0 nL Q (pc) (L) (.int k :: .ref i :: st) (h) (cells) (slots) := by
  intro ad ls H locs I
  have he : (j_w tyc ad h)[i]? = some (ad i, .inl (tyc 103, (h.2 i).2.1, .inr (.inr (.inr (.inr fun j => j_opt ad ((h.2 i).2.2 j)))))) := by rw [j_w_get hi, j_e_arr ht (by decide)]; rfl
  refine va_aldq x.1 x.2.1 x.2.2.2.2.2.1 I.2.1 i 3 he rfl hk hd ?_
  have e1 : va_rf (j_opt ad ((h.2 i).2.2 k.toNatClampNeg)) = j_cv ad (.ref r) := by rw [hv]; rfl
  rw [e1]
  exact kk ad ls H locs (I.st fun hs => j_ok_cons (by rw [← hv]; exact I.2.2.2.2.2.1 i hi _) (j_ok_tl (j_ok_tl hs)))
theorem j_aastore (x : j_X p l s m args meth c D tyc A own cc nL) {i b : Nat} {k : Int32} {q : vw_C} (hd : decode cc pc = .ok (.aastore, 1)) (hq : vwCl[6]? = some q) (hq2 : q.1 = j_R2) (hi : i < h.1) (ht : (h.2 i).1 = 103) (hk : vp_in k (h.2 i).2.1) (hb : b < h.1) (htb : (h.2 b).1 = 6) (kk : JJ p l e R s m args below meth c D tyc A n0 ad0 nL Q (pc + 1) (L) (st) (j_fld h i k.toNatClampNeg (.ref b)) (cells) (slots)) : JJ p l e R s m args below meth c D tyc A n0 ad0 nL Q (pc) (L) (.ref b :: .int k :: .ref i :: st) (h) (cells) (slots) := by
  intro ad ls H locs I
  have he : (j_w tyc ad h)[i]? = some (ad i, .inl (tyc 103, (h.2 i).2.1, .inr (.inr (.inr (.inr fun j => j_opt ad ((h.2 i).2.2 j)))))) := by rw [j_w_get hi, j_e_arr ht (by decide)]; rfl
  have hv : (j_w tyc ad h)[b]? = some (ad b, .inr (6, (List.range (h.2 b).2.1).map fun k => j_cv ad ((h.2 b).2.2 k))) := by rw [j_w_get hb, j_e_obj htb (by decide)]
  refine va_astq x.1 x.2.1 x.2.2.2.2.2.1 I.2.1 I.2.2.1 I.2.2.2.1 i 3 b 6 he (r := q) (by rw [hq2]; rfl) hv hq hk hd (fun H1 locs1 hP hD hS => ?_)
  have e1 : va_up (fun j => j_opt ad ((h.2 i).2.2 j)) k.toNatClampNeg (some (ad b)) = fun j => j_opt ad (ju (h.2 i).2.2 k.toNatClampNeg (.ref b) j) := funext fun j => by
    by_cases e : j = k.toNatClampNeg <;> simp [va_up, ju, e, j_opt]
  have e2 : j_e tyc ad ((h.2 i).1, (h.2 i).2.1, ju (h.2 i).2.2 k.toNatClampNeg (.ref b)) = .inl (tyc 103, (h.2 i).2.1, .inr (.inr (.inr (.inr fun j => j_opt ad (ju (h.2 i).2.2 k.toNatClampNeg (.ref b) j))))) := Eq.trans (j_e_arr (ad := ad) (tyc := tyc) (c := (_, _, _)) (t := 103) ht (by decide)) rfl
  rw [e1, ← e2] at hP hD
  exact kk ad ls H1 locs1 (I.wr (fun hs => j_ok_tl (j_ok_tl (j_ok_tl hs))) hi (fun j => by
    show j_ok h.1 (ju (h.2 i).2.2 k.toNatClampNeg (.ref b) j)
    by_cases e : j = k.toNatClampNeg
    · subst e; rw [ju_s]; exact j_ok_ref hb
    · rw [ju_n e]; exact I.2.2.2.2.2.1 i hi j) hP hD hS)
theorem j_tys_at {tyc : Nat → ClassId} {t : Nat} (h1 : 100 ≤ t) (h2 : t < 106) : ∃ ty, (j_tys tyc)[t - 100]? = some (tyc t, ty) := by
  rcases (show t = 100 ∨ t = 101 ∨ t = 102 ∨ t = 103 ∨ t = 104 ∨ t = 105 by omega) with rfl | rfl | rfl | rfl | rfl | rfl <;> exact ⟨_, rfl⟩
theorem j_alen (x : j_X p l s m args meth c D tyc A own cc nL) {i t : Nat} {v : Int32} (hd : decode cc pc = .ok (.arraylength, 1)) (hi : i < h.1) (ht : (h.2 i).1 = t) (h1 : 100 ≤ t) (h2 : t < 106) (hv : Int32.ofNat (h.2 i).2.1 = v) (kk : JJ p l e R s m args below meth c D tyc A n0 ad0 nL Q (pc + 1) (L) (.int v :: st) (h) (cells) (slots)) : JJ p l e R s m args below meth c D tyc A n0 ad0 nL Q (pc) (L) (.ref i :: st) (h) (cells) (slots) := by
  intro ad ls H locs I
  have he : (j_w tyc ad h)[i]? = some (ad i, .inl (tyc t, (h.2 i).2.1, j_arr ad t (h.2 i).2.2)) := by rw [j_w_get hi, j_e_arr ht h1]
  obtain ⟨ty, hty⟩ := j_tys_at (tyc := tyc) h1 h2
  exact va_alen x.1 x.2.1 x.2.2.2.2.2.1 I.2.1 i (t - 100) he hty hv hd (kk ad ls H locs (I.st fun hs => j_ok_cons j_ok_int (j_ok_tl hs)))
/-- what follows the making of a cell -/
theorem j_I.pu {s : State} {D : va_G} {tyc : Nat → ClassId} {A : Nat → Prop} {n0 : Nat} {ad0 : Nat → Nat} {nL : Nat} {ad : Nat → Nat} {L : List (Option Value)} {st st' : List Value} {h : MH} {ls : Array Slot} {H H1 : Heap} {locs locs1 : List Loc} {c : MC} {a : Nat}
    (I : j_I s D tyc A n0 ad0 nL ad L st h ls H locs) (hs : (∀ v ∈ st, j_ok h.1 v) → ∀ v ∈ st', j_ok h.1 v) (hc : ∀ j, j_ok h.1 (c.2.2 j))
    (hP : va_P D vwCl (j_w tyc ad h ++ [(a, j_e tyc ad c)]) H1) (hD : va_D A (j_w tyc ad h ++ [(a, j_e tyc ad c)])) (hS : va_S A s.heap H1 locs1) :
    j_I s D tyc A n0 ad0 nL (ju ad h.1 a) L (.ref h.1 :: st') (j_push h c) ls H1 locs1 ∧ (.ref a :: st'.map (j_cv ad)) = (Value.ref h.1 :: st').map (j_cv (ju ad h.1 a)) := by
  rw [← j_w_push I.2.2.2.2.2.1 hc] at hP hD
  have had : ∀ i, i < h.1 → ju ad h.1 a i = ad i := fun i hi => ju_n (Nat.ne_of_lt hi)
  have hst := hs I.2.2.2.2.2.2.1
  refine ⟨⟨I.1.ad had I.2.2.2.2.2.2.2, hP, hD, hS, ⟨Nat.le_trans I.2.2.2.2.1.1 (Nat.le_succ _), fun i hi => ?_⟩, j_okH_push I.2.2.2.2.2.1 hc, ?_, fun v hv => j_ok_mono (I.2.2.2.2.2.2.2 v hv) (Nat.le_succ _)⟩, ?_⟩
  · rw [had i (Nat.lt_of_lt_of_le hi I.2.2.2.2.1.1)]
    exact I.2.2.2.2.1.2 i hi
  · exact j_ok_cons (j_ok_ref (Nat.lt_succ_self _)) (fun w hw => j_ok_mono (hst w hw) (Nat.le_succ _))
  · show _ = Value.ref (ju ad h.1 a h.1) :: _
    rw [ju_s]
    congr 1
    exact List.map_congr_left fun v hv => (j_cv_eq had (hst v hv)).symm
theorem j_newa_int (x : j_X p l s m args meth c D tyc A own cc nL) {n : Int32} {N : Nat} (hd : decode cc pc = .ok (.newarray .int, 2)) (hw : Cond.arrayClass .int ∈ j_all) (hn : ¬ n < 0) (hN : n.toNatClampNeg = N) (hsm : N * 8 ≤ 536870912) (hc1 : cells + 1 ≤ R.cells) (hs1 : slots + N ≤ R.slots) (kk : JJ p l e R s m args below meth c D tyc A n0 ad0 nL Q (pc + 2) (L) (.ref h.1 :: st) (j_push h (100, N, fun _ => .int 0)) (cells + 1) (slots + N)) : JJ p l e R s m args below meth c D tyc A n0 ad0 nL Q (pc) (L) (.int n :: st) (h) (cells) (slots) := by
  intro ad ls H locs I
  refine va_newa (atype := .int) (ty := .int) (a0 := (N, (.inl fun _ => 0))) x.1 x.2.1 (x.2.2.2.2.1 _ hw) rfl x.2.2.2.2.2.1 I.2.1 I.2.2.1 I.2.2.2.1 x.2.2.2.2.2.2.1 (fun _ => rfl) hn hN (Nat.le_trans (Nat.mul_le_mul_left N (by decide)) hsm) hc1 hs1 hd (fun a cA H1 hK hP hD hS => ?_)
  have hcA : cA = tyc 100 := by
    have f1 := (hK.2 6 (cA, .int) rfl).2
    have f2 := (x.2.2.2.2.2.1.2 0 (tyc 100, .int) rfl).2
    exact Option.some.inj (f1.symm.trans f2)
  subst hcA
  have e2 : j_e tyc ad (100, N, fun _ => .int 0) = .inl (tyc 100, N, (.inl fun _ => 0)) := by rw [j_e_arr (t := 100) rfl (by decide)]; rfl
  rw [← e2] at hP hD
  obtain ⟨I2, e3⟩ := I.pu (st' := st) (c := (100, N, fun _ => .int 0)) j_ok_tl (fun _ _ hh => by cases hh) hP hD hS
  rw [e3]
  exact kk _ ls H1 locs I2
theorem j_newa_char (x : j_X p l s m args meth c D tyc A own cc nL) {n : Int32} {N : Nat} (hd : decode cc pc = .ok (.newarray .char, 2)) (hw : Cond.arrayClass .char ∈ j_all) (hn : ¬ n < 0) (hN : n.toNatClampNeg = N) (hsm : N * 8 ≤ 536870912) (hc1 : cells + 1 ≤ R.cells) (hs1 : slots + N ≤ R.slots) (kk : JJ p l e R s m args below meth c D tyc A n0 ad0 nL Q (pc + 2) (L) (.ref h.1 :: st) (j_push h (101, N, fun _ => .int 0)) (cells + 1) (slots + N)) : JJ p l e R s m args below meth c D tyc A n0 ad0 nL Q (pc) (L) (.int n :: st) (h) (cells) (slots) := by
  intro ad ls H locs I
  refine va_newa (atype := .char) (ty := .char) (a0 := (N, (.inl fun _ => 0))) x.1 x.2.1 (x.2.2.2.2.1 _ hw) rfl x.2.2.2.2.2.1 I.2.1 I.2.2.1 I.2.2.2.1 x.2.2.2.2.2.2.1 (fun _ => rfl) hn hN (Nat.le_trans (Nat.mul_le_mul_left N (by decide)) hsm) hc1 hs1 hd (fun a cA H1 hK hP hD hS => ?_)
  have hcA : cA = tyc 101 := by
    have f1 := (hK.2 6 (cA, .char) rfl).2
    have f2 := (x.2.2.2.2.2.1.2 1 (tyc 101, .char) rfl).2
    exact Option.some.inj (f1.symm.trans f2)
  subst hcA
  have e2 : j_e tyc ad (101, N, fun _ => .int 0) = .inl (tyc 101, N, (.inl fun _ => 0)) := by rw [j_e_arr (t := 101) rfl (by decide)]; rfl
  rw [← e2] at hP hD
  obtain ⟨I2, e3⟩ := I.pu (st' := st) (c := (101, N, fun _ => .int 0)) j_ok_tl (fun _ _ hh => by cases hh) hP hD hS
  rw [e3]
  exact kk _ ls H1 locs I2
theorem j_newa_byte (x : j_X p l s m args meth c D tyc A own cc nL) {n : Int32} {N : Nat} (hd : decode cc pc = .ok (.newarray .byte, 2)) (hw : Cond.arrayClass .byte ∈ j_all) (hn : ¬ n < 0) (hN : n.toNatClampNeg = N) (hsm : N * 8 ≤ 536870912) (hc1 : cells + 1 ≤ R.cells) (hs1 : slots + N ≤ R.slots) (kk : JJ p l e R s m args below meth c D tyc A n0 ad0 nL Q (pc + 2) (L) (.ref h.1 :: st) (j_push h (102, N, fun _ => .int 0)) (cells + 1) (slots + N)) : JJ p l e R s m args below meth c D tyc A n0 ad0 nL Q (pc) (L) (.int n :: st) (h) (cells) (slots) := by
  intro ad ls H locs I
  refine va_newa (atype := .byte) (ty := .byte) (a0 := (N, (.inl fun _ => 0))) x.1 x.2.1 (x.2.2.2.2.1 _ hw) rfl x.2.2.2.2.2.1 I.2.1 I.2.2.1 I.2.2.2.1 x.2.2.2.2.2.2.1 (fun _ => rfl) hn hN (Nat.le_trans (Nat.mul_le_mul_left N (by decide)) hsm) hc1 hs1 hd (fun a cA H1 hK hP hD hS => ?_)
  have hcA : cA = tyc 102 := by
    have f1 := (hK.2 6 (cA, .byte) rfl).2
    have f2 := (x.2.2.2.2.2.1.2 2 (tyc 102, .byte) rfl).2
    exact Option.some.inj (f1.symm.trans f2)
  subst hcA
  have e2 : j_e tyc ad (102, N, fun _ => .int 0) = .inl (tyc 102, N, (.inl fun _ => 0)) := by rw [j_e_arr (t := 102) rfl (by decide)]; rfl
  rw [← e2] at hP hD
  obtain ⟨I2, e3⟩ := I.pu (st' := st) (c := (102, N, fun _ => .int 0)) j_ok_tl (fun _ _ hh => by cases hh) hP hD hS
  rw [e3]
  exact kk _ ls H1 locs I2
theorem j_newa_long (x : j_X p l s m args meth c D tyc A own cc nL) {n : Int32} {N : Nat} (hd : decode cc pc = .ok (.newarray .long, 2)) (hw : Cond.arrayClass .long ∈ j_all) (hn : ¬ n < 0) (hN : n.toNatClampNeg = N) (hsm : N * 8 ≤ 536870912) (hc1 : cells + 1 ≤ R.cells) (hs1 : slots + N ≤ R.slots) (kk : JJ p l e R s m args below meth c D tyc A n0 ad0 nL Q (pc + 2) (L) (.ref h.1 :: st) (j_push h (104, N, fun _ => .long 0)) (cells + 1) (slots + N)) : JJ p l e R s m args below meth c D tyc A n0 ad0 nL Q (pc) (L) (.int n :: st) (h) (cells) (slots) := by
  intro ad ls H locs I
  refine va_newa (atype := .long) (ty := .long) (a0 := (N, (.inr (.inl fun _ => 0)))) x.1 x.2.1 (x.2.2.2.2.1 _ hw) rfl x.2.2.2.2.2.1 I.2.1 I.2.2.1 I.2.2.2.1 x.2.2.2.2.2.2.1 (fun _ => rfl) hn hN (Nat.le_trans (Nat.mul_le_mul_left N (by decide)) hsm) hc1 hs1 hd (fun a cA H1 hK hP hD hS => ?_)
  have hcA : cA = tyc 104 := by
    have f1 := (hK.2 6 (cA, .long) rfl).2
    have f2 := (x.2.2.2.2.2.1.2 4 (tyc 104, .long) rfl).2
    exact Option.some.inj (f1.symm.trans f2)
  subst hcA
  have e2 : j_e tyc ad (104, N, fun _ => .long 0) = .inl (tyc 104, N, (.inr (.inl fun _ => 0))) := by rw [j_e_arr (t := 104) rfl (by decide)]; rfl
  rw [← e2] at hP hD
  obtain ⟨I2, e3⟩ := I.pu (st' := st) (c := (104, N, fun _ => .long 0)) j_ok_tl (fun _ _ hh => by cases hh) hP hD hS
  rw [e3]
  exact kk _ ls H1 locs I2
theorem j_newa_double (x : j_X p l s m args meth c D tyc A own cc nL) {n : Int32} {N : Nat} (hd : decode cc pc = .ok (.newarray .double, 2)) (hw : Cond.arrayClass .double ∈ j_all) (hn : ¬ n < 0) (hN : n.toNatClampNeg = N) (hsm : N * 8 ≤ 536870912) (hc1 : cells + 1 ≤ R.cells) (hs1 : slots + N ≤ R.slots) (kk : JJ p l e R s m args below meth c D tyc A n0 ad0 nL Q (pc + 2) (L) (.ref h.1 :: st) (j_push h (105, N, fun _ => .double 0)) (cells + 1) (slots + N)) : JJ p l e R s m args below meth c D tyc A n0 ad0 nL Q (pc) (L) (.int n :: st) (h) (cells) (slots) := by
  intro ad ls H locs I
  refine va_newa (atype := .double) (ty := .double) (a0 := (N, (.inr (.inr (.inr (.inl fun _ => 0)))))) x.1 x.2.1 (x.2.2.2.2.1 _ hw) rfl x.2.2.2.2.2.1 I.2.1 I.2.2.1 I.2.2.2.1 x.2.2.2.2.2.2.1 (fun _ => rfl) hn hN (Nat.le_trans (Nat.mul_le_mul_left N (by decide)) hsm) hc1 hs1 hd (fun a cA H1 hK hP hD hS => ?_)
  have hcA : cA = tyc 105 := by
    have f1 := (hK.2 6 (cA, .double) rfl).2
    have f2 := (x.2.2.2.2.2.1.2 5 (tyc 105, .double) rfl).2
    exact Option.some.inj (f1.symm.trans f2)
  subst hcA
  have e2 : j_e tyc ad (105, N, fun _ => .double 0) = .inl (tyc 105, N, (.inr (.inr (.inr (.inl fun _ => 0))))) := by rw [j_e_arr (t := 105) rfl (by decide)]; rfl
  rw [← e2] at hP hD
  obtain ⟨I2, e3⟩ := I.pu (st' := st) (c := (105, N, fun _ => .double 0)) j_ok_tl (fun _ _ hh => by cases hh) hP hD hS
  rw [e3]
  exact kk _ ls H1 locs I2
theorem j_anewa (x : j_X p l s m args meth c D tyc A own cc nL) {idx : Nat} {n : Int32} {N : Nat} (hd : decode cc pc = .ok (.anewarray idx, 3)) (hw : Cond.classLink own idx j_R2 ∈ j_all) (hn : ¬ n < 0) (hN : n.toNatClampNeg = N) (hsm : N * 4 ≤ 536870912) (hc1 : cells + 1 ≤ R.cells) (hs1 : slots + N ≤ R.slots) (kk : JJ p l e R s m args below meth c D tyc A n0 ad0 nL Q (pc + 3) (L) (.ref h.1 :: st) (j_push h (103, N, fun _ => .null)) (cells + 1) (slots + N)) : JJ p l e R s m args below meth c D tyc A n0 ad0 nL Q (pc) (L) (.int n :: st) (h) (cells) (slots) := by
  intro ad ls H locs I
  refine va_newq (C := j_R2) x.1 x.2.1 x.2.2.2.1 (x.2.2.2.2.1 _ hw) x.2.2.2.2.2.2.2.2.2.2.1 x.2.2.2.2.2.1 I.2.1 I.2.2.1 I.2.2.2.1 x.2.2.2.2.2.2.1 hn hN hsm hc1 hs1 hd (fun a cA H1 hK hP hD hS => ?_)
  have hcA : cA = tyc 103 := by
    obtain ⟨_, _, _, _, _, f1⟩ := (hK.2 6 (cA, .object j_R2) rfl).2
    obtain ⟨_, _, _, _, _, f2⟩ := (x.2.2.2.2.2.1.2 3 (tyc 103, .object j_R2) rfl).2
    exact Option.some.inj (f1.symm.trans f2)
  subst hcA
  have e2 : j_e tyc ad (103, N, fun _ => .null) = .inl (tyc 103, N, .inr (.inr (.inr (.inr fun _ => none)))) := by rw [j_e_arr (t := 103) rfl (by decide)]; rfl
  rw [← e2] at hP hD
  obtain ⟨I2, e3⟩ := I.pu (st' := st) (c := (103, N, fun _ => .null)) j_ok_tl (fun _ _ hh => by cases hh) hP hD hS
  rw [e3]
  exact kk _ ls H1 locs I2
theorem j_room {ad : Nat → Nat} {st : List Value} (h : st.length ≤ 4) : ((st.map (j_cv ad)).map fun v => v.category).sum ≤ 8 := by
  have key : ∀ (st : List Value), ((st.map (j_cv ad)).map fun v => v.category).sum ≤ 2 * st.length := by
    intro st
    induction st with
    | nil => simp
    | cons v st ih =>
      simp only [List.map_cons, List.sum_cons, List.length_cons]
      rcases lv_cat (j_cv ad v) with h | h <;> omega
  have := key st
  omega
theorem j_dv {ad : Nat → Nat} (ty : FieldType) : j_cv ad (defaultValue ty) = defaultValue ty := by cases ty <;> rfl
theorem j_dv_ok {n : Nat} (ty : FieldType) : j_ok n (defaultValue ty) := by intro k hk; cases ty <;> cases hk
theorem j_new (x : j_X p l s m args meth c D tyc A own cc nL) {idx ci : Nat} {q : vw_C} {ty : Nat → FieldType} (hd : decode cc pc = .ok (.new idx, 3)) (hq : j_cls ci q ty) (hw : Cond.classLink own idx q.1 ∈ j_all) (hw2 : Cond.instantiable q.1 q.2.2 ∈ j_all) (hw3 : Cond.initialized q.1 ∈ j_all) (hc1 : cells + 1 ≤ R.cells) (hs1 : slots + q.2.2 ≤ R.slots) (kk : JJ p l e R s m args below meth c D tyc A n0 ad0 nL Q (pc + 3) (L) (.ref h.1 :: st) (j_push h (ci, q.2.2, fun k => defaultValue (ty k))) (cells + 1) (slots + q.2.2)) : JJ p l e R s m args below meth c D tyc A n0 ad0 nL Q (pc) (L) (st) (h) (cells) (slots) := by
  intro ad ls H locs I
  refine va_new (ci := ci) (fs := (List.range q.2.2).map fun k => j_cv ad (defaultValue (ty k))) (C := q.1) (T := q.2.1) (N := q.2.2) x.1 x.2.1 x.2.2.2.2.1 hq.2.2.1 ty hq.2.2.2.1 x.2.2.2.1 (x.2.2.2.2.1 _ hw) (x.2.2.2.2.1 _ hw2) (x.2.2.2.2.1 _ hw3) x.2.2.2.2.2.1 I.2.1 I.2.2.1 I.2.2.2.1 x.2.2.2.2.2.2.1 hq.1 (fun j hj => by
    show _ = (List.map (fun k => j_cv ad (defaultValue (ty k))) (List.range q.2.2)).getD j .null
    rw [List.getD_eq_getElem?_getD, j_fs_get (f := fun k => defaultValue (ty k)) hj, j_dv]
    rfl) hc1 hs1 hd (fun a H1 hP hD hS => ?_)
  have e2 : j_e tyc ad (ci, q.2.2, fun k => defaultValue (ty k)) = .inr (ci, (List.range q.2.2).map fun k => j_cv ad (defaultValue (ty k))) := j_e_obj rfl hq.2.1
  rw [← e2] at hP hD
  obtain ⟨I2, e3⟩ := I.pu (st' := st) (c := (ci, q.2.2, fun k => defaultValue (ty k))) id (fun j => j_dv_ok (ty j)) hP hD hS
  rw [e3]
  exact kk _ ls H1 locs I2
theorem j_objInit (x : j_X p l s m args meth c D tyc A own cc nL) {idx i : Nat} (hd : decode cc pc = .ok (.invokespecial idx, 3)) (hw : Cond.methodLink own idx Lib.objectInit ∈ j_all) (hw2 : Cond.instanceMethod Lib.objectInit ∈ j_all) (hw3 : Cond.code Lib.objectInit ⟨#[0xb1]⟩ 1 none ∈ j_all) (hst : st.length ≤ 4) (hf : 1 ≤ R.frames) (hlo : 20 ≤ R.locals) (kk : JJ p l e R s m args below meth c D tyc A n0 ad0 nL Q (pc + 3) (L) (st) (h) (cells) (slots)) : JJ p l e R s m args below meth c D tyc A n0 ad0 nL Q (pc) (L) (.ref i :: st) (h) (cells) (slots) := by
  intro ad ls H locs I
  have h8 := j_room (ad := ad) hst
  refine W.objInit x.1 x.2.1 x.2.2.2.1 (x.2.2.2.2.1 _ hw) (x.2.2.2.2.1 _ hw2) (x.2.2.2.2.1 _ hw3) rfl (by rw [x.2.2.1]; exact I.1.1) rfl hd hf (Nat.le_trans (Nat.add_le_add_right (lv_room (m := m) (pc := pc) (ls := ls) (rest := .ref (ad i) :: st.map (j_cv ad)) h8) 12) hlo) ?_
  exact kk ad ls H locs (I.st j_ok_tl)
end JH
