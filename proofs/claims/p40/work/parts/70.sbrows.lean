/-! ===== the StringBuilder: rows ===== -/
section JSB
variable {p : Program} {l : Launch} {e : Env} {R : Room} {s : State} {m : MethodId} {args : Array Value} {below : List Frame} {meth : Method} {c : Code} {D : va_G} {tyc : Nat → ClassId} {A : Nat → Prop} {n0 : Nat} {ad0 : Nat → Nat} {nL : Nat} {Qs : State → Prop} {own : String} {cc : ByteArray} {pc : Nat} {L : List (Option Value)} {st : List Value} {b : SBt} {Y : OUt} {M : MM} {h : MH} {cells slots idx : Nat}
theorem j2_vget (x : j_X p l s m args meth c D tyc A own cc nL) (hb : 94 ≤ b.2.1) (hd : decode cc pc = .ok (.getfield idx, 3)) (hw : Cond.fieldLink own idx "java/lang/AbstractStringBuilder" "value" "[B" ∈ j_all) (kk : JJ p l e R s m args below meth c D tyc A n0 ad0 nL Qs (pc + 3) L (.ref b.1 :: st) (HH b Y M) cells slots) : JJ p l e R s m args below meth c D tyc A n0 ad0 nL Qs pc L (.ref 92 :: st) (HH b Y M) cells slots := by
  refine j_get (i := 92) (k := 0) x hd jc_1 hw (by decide) (show 92 < b.2.1 by omega) rfl (show hLen b 92 = 4 from hLen_lo (b := b) (by decide)) ?_
  show JJ p l e R s m args below meth c D tyc A n0 ad0 nL Qs (pc + 3) L (hF b Y M 92 0 :: st) (HH b Y M) cells slots
  exact kk
theorem j2_vput (x : j_X p l s m args meth c D tyc A own cc nL) (hb : 94 ≤ b.2.1) {r : Nat} (hd : decode cc pc = .ok (.putfield idx, 3)) (hw : Cond.fieldLink own idx "java/lang/AbstractStringBuilder" "value" "[B" ∈ j_all) (kk : JJ p l e R s m args below meth c D tyc A n0 ad0 nL Qs (pc + 3) L st (HH (r, b.2.1, b.2.2) Y M) cells slots) : JJ p l e R s m args below meth c D tyc A n0 ad0 nL Qs pc L (.ref r :: .ref 92 :: st) (HH b Y M) cells slots := by
  refine j_put (i := 92) (k := 0) (v := .ref r) x hd jc_1 hw (by decide) rfl rfl rfl (show 92 < b.2.1 by omega) rfl (show hLen b 92 = 4 from hLen_lo (b := b) (by decide)) ?_
  rw [HH_val]
  exact kk
theorem j2_bst (x : j_X p l s m args meth c D tyc A own cc nL) {i n : Nat} {k v w : Int32} (hB : isB i) (hi : i < b.2.1) (hl : hLen b i = n) (hd : decode cc pc = .ok (.bastore, 1)) (hk : vp_in k n) (hw : vp_nar .byte v = w) (kk : JJ p l e R s m args below meth c D tyc A n0 ad0 nL Qs (pc + 1) L st (HH b Y (jm M i k.toNatClampNeg w)) cells slots) : JJ p l e R s m args below meth c D tyc A n0 ad0 nL Qs pc L (.int v :: .int k :: .ref i :: st) (HH b Y M) cells slots := by
  refine j_bastore x hd hi (isB_t hB) (by show vp_in k (hLen b i); rw [hl]; exact hk) hw ?_
  rw [HH_wrb hB]
  exact kk
theorem j2_bld (x : j_X p l s m args meth c D tyc A own cc nL) {i n : Nat} {k v : Int32} (hB : isB i) (hi : i < b.2.1) (hl : hLen b i = n) (hd : decode cc pc = .ok (.baload, 1)) (hk : vp_in k n) (hv : M i k.toNatClampNeg = v) (kk : JJ p l e R s m args below meth c D tyc A n0 ad0 nL Qs (pc + 1) L (.int v :: st) (HH b Y M) cells slots) : JJ p l e R s m args below meth c D tyc A n0 ad0 nL Qs pc L (.int k :: .ref i :: st) (HH b Y M) cells slots := by
  refine j_baload x hd hi (isB_t hB) (by show vp_in k (hLen b i); rw [hl]; exact hk) ?_ kk
  show hF b Y M i k.toNatClampNeg = _
  rw [isB_f hB]
  show Value.int (M i k.toNatClampNeg) = _
  rw [hv]
theorem j2_blen (x : j_X p l s m args meth c D tyc A own cc nL) {i n : Nat} (hB : isB i) (hi : i < b.2.1) (hl : hLen b i = n) (hd : decode cc pc = .ok (.arraylength, 1)) (kk : JJ p l e R s m args below meth c D tyc A n0 ad0 nL Qs (pc + 1) L (.int (nI n) :: st) (HH b Y M) cells slots) : JJ p l e R s m args below meth c D tyc A n0 ad0 nL Qs pc L (.ref i :: st) (HH b Y M) cells slots :=
  j_alen x hd hi (isB_t hB) (by decide) (by decide) (by show Int32.ofNat (hLen b i) = _; rw [hl]; rfl) kk
theorem j2_bnew (x : j_X p l s m args meth c D tyc A own cc nL) (hb : 94 ≤ b.2.1) {n : Nat} (hd : decode cc pc = .ok (.newarray .byte, 2)) (hw : Cond.arrayClass .byte ∈ j_all) (hn : n < 1000) (hc1 : cells + 1 ≤ R.cells) (hs1 : slots + n ≤ R.slots) (kk : JJ p l e R s m args below meth c D tyc A n0 ad0 nL Qs (pc + 2) L (.ref b.2.1 :: st) (HH (sbp b n) Y (mz M b.2.1 fun _ => 0)) (cells + 1) (slots + n)) : JJ p l e R s m args below meth c D tyc A n0 ad0 nL Qs pc L (.int (nI n) :: st) (HH b Y M) cells slots := by
  refine j_newa_byte x hd hw (nI_pos (by omega)) (nI_clamp (by omega)) (by omega) hc1 hs1 ?_
  rw [HH_push hb]
  exact kk
/-- a table of java/lang/Integer's -/
theorem j_tabT {n : String} {f : Nat → Int32} (h : j_tab n f A s s.heap) : ∃ a : Nat, va_Z "java/lang/Integer" n "[B" (.ref a) A s s.heap ∧ va_T .byte a 100 (fun j => .int (f j)) A s s.heap := by
  obtain ⟨a, h1, h2, h3, cell, h4, h5, h6, h7, h8⟩ := h
  exact ⟨a, h1, cell, h4, h5, h6, Nat.le_of_eq h7.symm, by rw [h7], h8, h2⟩
theorem j_getsR (x : j_X p l s m args meth c D tyc A own cc nL) {C f dsc : String} {a : Nat} (hd : decode cc pc = .ok (.getstatic idx, 3)) (hZ : va_Z C f dsc (.ref a) A s s.heap) (hw : Cond.fieldLink own idx C f dsc ∈ j_all) (kk : JJ p l e R s m args below meth c D tyc A n0 ad0 nL Qs (pc + 3) L (.retAddr a :: st) h cells slots) : JJ p l e R s m args below meth c D tyc A n0 ad0 nL Qs pc L st h cells slots := by
  intro ad ls H locs I
  exact va_gets x.1 x.2.1 hZ I.2.2.2.1 x.2.2.2.1 (x.2.2.2.2.1 _ hw) (fun _ h9 => h9) hd (kk ad ls H locs (I.st fun hs => j_ok_cons j_ok_raw hs))
theorem j_getsN (x : j_X p l s m args meth c D tyc A own cc nL) {C f dsc : String} (hd : decode cc pc = .ok (.getstatic idx, 3)) (hZ : va_Z C f dsc .null A s s.heap) (hw : Cond.fieldLink own idx C f dsc ∈ j_all) (kk : JJ p l e R s m args below meth c D tyc A n0 ad0 nL Qs (pc + 3) L (.null :: st) h cells slots) : JJ p l e R s m args below meth c D tyc A n0 ad0 nL Qs pc L st h cells slots := by
  intro ad ls H locs I
  exact va_gets x.1 x.2.1 hZ I.2.2.2.1 x.2.2.2.1 (x.2.2.2.2.1 _ hw) (fun _ h9 => h9) hd (kk ad ls H locs (I.st fun hs => j_ok_cons j_ok_null hs))
theorem j_tld (x : j_X p l s m args meth c D tyc A own cc nL) {a k : Nat} {f : Nat → Int32} (hT : va_T .byte a 100 (fun j => .int (f j)) A s s.heap) (hk : k < 100) (hd : decode cc pc = .ok (.baload, 1)) (kk : JJ p l e R s m args below meth c D tyc A n0 ad0 nL Qs (pc + 1) L (.int (f k) :: st) h cells slots) : JJ p l e R s m args below meth c D tyc A n0 ad0 nL Qs pc L (.int (nI k) :: .retAddr a :: st) h cells slots := by
  intro ad ls H locs I
  exact va_tb x.1 x.2.1 hT I.2.2.2.1 (vp_in_nI hk (by decide)) (v := .int (f k)) (by rw [nI_clamp (by omega)]) hd (kk ad ls H locs (I.st fun hs => j_ok_cons j_ok_int (j_ok_tl (j_ok_tl hs))))
theorem j_copyB {d mc ms : Nat} (x : j_X p l s m args meth c D tyc A own cc nL) {a i : Nat} {n : Int32} (hd : decode cc pc = .ok (.invokestatic idx, 3)) (hw : Cond.methodLink own idx arraycopyName ∈ j_all) (hst : st.length ≤ 4) (ha : a < h.1) (hta : (h.2 a).1 = 102) (hb : i < h.1) (htb : (h.2 i).1 = 102) (hfit : ∀ k, fits .byte (.int (j_int ((h.2 a).2.2 k))) = true)
    (h3 : ¬ n < 0) (h4 : n.toNatClampNeg ≤ (h.2 a).2.1) (h5 : n.toNatClampNeg ≤ (h.2 i).2.1)
    (kk : JJ p l e (j_rm d mc ms) s m args below meth c D tyc A n0 ad0 nL Qs (pc + 3) L st (j_wr h i ((h.2 i).1, (h.2 i).2.1, jcpy (h.2 a).2.2 (h.2 i).2.2 0 0 n.toNatClampNeg)) cells slots) :
    JJ p l e (j_rm d mc ms) s m args below meth c D tyc A n0 ad0 nL Qs pc L (.int n :: .int 0 :: .ref i :: .int 0 :: .ref a :: st) h cells slots := by
  intro ad ls H locs I
  have hm := wcp
  have h8 := j_room (ad := ad) hst
  have hea : (j_w tyc ad h)[a]? = some (ad a, .inl (tyc 102, (h.2 a).2.1, .inl fun j => j_int ((h.2 a).2.2 j))) := by rw [j_w_get ha, j_e_arr hta (by decide), j_arr_i (by decide) (by decide) (by decide)]
  have heb : (j_w tyc ad h)[i]? = some (ad i, .inl (tyc 102, (h.2 i).2.1, .inl fun j => j_int ((h.2 i).2.2 j))) := by rw [j_w_get hb, j_e_arr htb (by decide), j_arr_i (by decide) (by decide) (by decide)]
  have hnw : nativeFrameWords "java/lang/System" "arraycopy" 5 ≤ 100 := by decide +kernel
  refine va_copyi x.1 x.2.1 (by rw [x.2.2.1]; exact I.1.1.symm) x.2.2.2.1 (x.2.2.2.2.1 _ hw) (x.2.2.2.2.1 _ hm.1) (x.2.2.2.2.1 _ hm.2.1) (x.2.2.2.2.1 _ hm.2.2) x.2.2.2.2.2.1 I.2.1 I.2.2.1 I.2.2.2.1 a i 2 2 hea heb (ty := .byte) rfl rfl rfl (sp := 0) (dp := 0) (by decide) (by decide) h3 (by rw [show (0 : Int32).toNatClampNeg = 0 from rfl, Nat.zero_add]; exact h4) (by rw [show (0 : Int32).toNatClampNeg = 0 from rfl, Nat.zero_add]; exact h5) (fun _ _ => hfit _) (by simp only [j_rm]; omega) (by simp only [j_rm]; omega) hd (fun H1 locs1 hP hD hS => ?_)
  have e1 : va_cpy (fun j => j_int ((h.2 a).2.2 j)) (fun j => j_int ((h.2 i).2.2 j)) (0 : Int32).toNatClampNeg (0 : Int32).toNatClampNeg n.toNatClampNeg = fun j => j_int (jcpy (h.2 a).2.2 (h.2 i).2.2 0 0 n.toNatClampNeg j) := funext fun j => by
    simp only [va_cpy, jcpy, show (0 : Int32).toNatClampNeg = 0 from rfl]
    split <;> rfl
  have e2 : j_e tyc ad ((h.2 i).1, (h.2 i).2.1, jcpy (h.2 a).2.2 (h.2 i).2.2 0 0 n.toNatClampNeg) = .inl (tyc 102, (h.2 i).2.1, .inl fun j => j_int (jcpy (h.2 a).2.2 (h.2 i).2.2 0 0 n.toNatClampNeg j)) := Eq.trans (j_e_arr (ad := ad) (tyc := tyc) (c := (_, _, _)) (t := 102) htb (by decide)) (by rw [j_arr_i (by decide) (by decide) (by decide)])
  rw [e1, ← e2] at hP hD
  refine kk ad ls H1 locs1 (I.wr (fun hs => j_ok_tl (j_ok_tl (j_ok_tl (j_ok_tl (j_ok_tl hs))))) hb (fun j => ?_) hP hD hS)
  show j_ok h.1 (jcpy _ _ _ _ _ j)
  unfold jcpy
  split
  · exact j_ok_int
  · exact I.2.2.2.2.2.1 i hb j
end JSB
