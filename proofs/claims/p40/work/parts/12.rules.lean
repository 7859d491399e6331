section JR
variable {p : Program} {l : Launch} {e : Env} {R : Room} {s : State} {m : MethodId} {args : Array Value} {below : List Frame} {meth : Method} {c : Code} {D : va_G} {tyc : Nat → ClassId} {A : Nat → Prop} {n0 : Nat} {ad0 : Nat → Nat} {nL : Nat} {Q : State → Prop}
variable {own : String} {cc : ByteArray} {pc : Nat} {L : List (Option Value)} {st : List Value} {h : MH} {cells slots : Nat}
theorem j_iload_n (x : j_X p l s m args meth c D tyc A own cc nL) {k : Fin 4} {v : Int32} (hd : decode cc pc = .ok (.iload_n k, 1)) (hL : L[(k : Nat)]? = some (some (.int v))) (kk : JJ p l e R s m args below meth c D tyc A n0 ad0 nL Q (pc + 1) (L) (.int v :: st) (h) (cells) (slots)) : JJ p l e R s m args below meth c D tyc A n0 ad0 nL Q (pc) (L) (st) (h) (cells) (slots) := by
  intro ad ls H locs I
  exact lv_iload_n x.1 x.2.1 hd rfl (I.1.at hL) (kk ad ls H locs (I.st fun hs => j_ok_cons (I.2.2.2.2.2.2.2 _ (List.mem_of_getElem? hL)) hs))
theorem j_fload_n (x : j_X p l s m args meth c D tyc A own cc nL) {k : Fin 4} {v : UInt32} (hd : decode cc pc = .ok (.fload_n k, 1)) (hL : L[(k : Nat)]? = some (some (.float v))) (kk : JJ p l e R s m args below meth c D tyc A n0 ad0 nL Q (pc + 1) (L) (.float v :: st) (h) (cells) (slots)) : JJ p l e R s m args below meth c D tyc A n0 ad0 nL Q (pc) (L) (st) (h) (cells) (slots) := by
  intro ad ls H locs I
  exact lv_fload_n x.1 x.2.1 hd rfl (I.1.at hL) (kk ad ls H locs (I.st fun hs => j_ok_cons (I.2.2.2.2.2.2.2 _ (List.mem_of_getElem? hL)) hs))
theorem j_dload_n (x : j_X p l s m args meth c D tyc A own cc nL) {k : Fin 4} {v : UInt64} (hd : decode cc pc = .ok (.dload_n k, 1)) (hL : L[(k : Nat)]? = some (some (.double v))) (kk : JJ p l e R s m args below meth c D tyc A n0 ad0 nL Q (pc + 1) (L) (.double v :: st) (h) (cells) (slots)) : JJ p l e R s m args below meth c D tyc A n0 ad0 nL Q (pc) (L) (st) (h) (cells) (slots) := by
  intro ad ls H locs I
  exact lv_dload_n x.1 x.2.1 hd rfl (I.1.at hL) (kk ad ls H locs (I.st fun hs => j_ok_cons (I.2.2.2.2.2.2.2 _ (List.mem_of_getElem? hL)) hs))
theorem j_iload (x : j_X p l s m args meth c D tyc A own cc nL) {i : Nat} {v : Int32} (hd : decode cc pc = .ok (.iload i, 2)) (hL : L[i]? = some (some (.int v))) (kk : JJ p l e R s m args below meth c D tyc A n0 ad0 nL Q (pc + 2) (L) (.int v :: st) (h) (cells) (slots)) : JJ p l e R s m args below meth c D tyc A n0 ad0 nL Q (pc) (L) (st) (h) (cells) (slots) := by
  intro ad ls H locs I
  exact lv_iload x.1 x.2.1 hd (I.1.at hL) (kk ad ls H locs (I.st fun hs => j_ok_cons (I.2.2.2.2.2.2.2 _ (List.mem_of_getElem? hL)) hs))
theorem j_fload (x : j_X p l s m args meth c D tyc A own cc nL) {i : Nat} {v : UInt32} (hd : decode cc pc = .ok (.fload i, 2)) (hL : L[i]? = some (some (.float v))) (kk : JJ p l e R s m args below meth c D tyc A n0 ad0 nL Q (pc + 2) (L) (.float v :: st) (h) (cells) (slots)) : JJ p l e R s m args below meth c D tyc A n0 ad0 nL Q (pc) (L) (st) (h) (cells) (slots) := by
  intro ad ls H locs I
  exact lv_fload x.1 x.2.1 hd (I.1.at hL) (kk ad ls H locs (I.st fun hs => j_ok_cons (I.2.2.2.2.2.2.2 _ (List.mem_of_getElem? hL)) hs))
theorem j_dload (x : j_X p l s m args meth c D tyc A own cc nL) {i : Nat} {v : UInt64} (hd : decode cc pc = .ok (.dload i, 2)) (hL : L[i]? = some (some (.double v))) (kk : JJ p l e R s m args below meth c D tyc A n0 ad0 nL Q (pc + 2) (L) (.double v :: st) (h) (cells) (slots)) : JJ p l e R s m args below meth c D tyc A n0 ad0 nL Q (pc) (L) (st) (h) (cells) (slots) := by
  intro ad ls H locs I
  exact lv_dload x.1 x.2.1 hd (I.1.at hL) (kk ad ls H locs (I.st fun hs => j_ok_cons (I.2.2.2.2.2.2.2 _ (List.mem_of_getElem? hL)) hs))
theorem j_aload_n (x : j_X p l s m args meth c D tyc A own cc nL) {k : Fin 4} {a : Nat} (hd : decode cc pc = .ok (.aload_n k, 1)) (hL : L[(k : Nat)]? = some (some (.ref a))) (kk : JJ p l e R s m args below meth c D tyc A n0 ad0 nL Q (pc + 1) (L) (.ref a :: st) (h) (cells) (slots)) : JJ p l e R s m args below meth c D tyc A n0 ad0 nL Q (pc) (L) (st) (h) (cells) (slots) := by
  intro ad ls H locs I
  exact lv_aload_n x.1 x.2.1 hd rfl (I.1.at hL) (kk ad ls H locs (I.st fun hs => j_ok_cons (I.2.2.2.2.2.2.2 _ (List.mem_of_getElem? hL)) hs))
theorem j_aload_nN (x : j_X p l s m args meth c D tyc A own cc nL) {k : Fin 4} (hd : decode cc pc = .ok (.aload_n k, 1)) (hL : L[(k : Nat)]? = some (some .null)) (kk : JJ p l e R s m args below meth c D tyc A n0 ad0 nL Q (pc + 1) (L) (.null :: st) (h) (cells) (slots)) : JJ p l e R s m args below meth c D tyc A n0 ad0 nL Q (pc) (L) (st) (h) (cells) (slots) := by
  intro ad ls H locs I
  exact lv_aload_nN x.1 x.2.1 hd rfl (I.1.at hL) (kk ad ls H locs (I.st fun hs => j_ok_cons (I.2.2.2.2.2.2.2 _ (List.mem_of_getElem? hL)) hs))
theorem j_aload (x : j_X p l s m args meth c D tyc A own cc nL) {i : Nat} {a : Nat} (hd : decode cc pc = .ok (.aload i, 2)) (hL : L[i]? = some (some (.ref a))) (kk : JJ p l e R s m args below meth c D tyc A n0 ad0 nL Q (pc + 2) (L) (.ref a :: st) (h) (cells) (slots)) : JJ p l e R s m args below meth c D tyc A n0 ad0 nL Q (pc) (L) (st) (h) (cells) (slots) := by
  intro ad ls H locs I
  exact lv_aload x.1 x.2.1 hd (I.1.at hL) (kk ad ls H locs (I.st fun hs => j_ok_cons (I.2.2.2.2.2.2.2 _ (List.mem_of_getElem? hL)) hs))
theorem j_aloadN (x : j_X p l s m args meth c D tyc A own cc nL) {i : Nat} (hd : decode cc pc = .ok (.aload i, 2)) (hL : L[i]? = some (some .null)) (kk : JJ p l e R s m args below meth c D tyc A n0 ad0 nL Q (pc + 2) (L) (.null :: st) (h) (cells) (slots)) : JJ p l e R s m args below meth c D tyc A n0 ad0 nL Q (pc) (L) (st) (h) (cells) (slots) := by
  intro ad ls H locs I
  exact lv_aloadN x.1 x.2.1 hd (I.1.at hL) (kk ad ls H locs (I.st fun hs => j_ok_cons (I.2.2.2.2.2.2.2 _ (List.mem_of_getElem? hL)) hs))
theorem j_istore_n (x : j_X p l s m args meth c D tyc A own cc nL) {k : Fin 4} {v : Int32} (hd : decode cc pc = .ok (.istore_n k, 1)) (hn : (k : Nat) < nL) (hc : j_c1 L (k : Nat) = true) (kk : JJ p l e R s m args below meth c D tyc A n0 ad0 nL Q (pc + 1) (L.set (k : Nat) (some (.int v))) (st) (h) (cells) (slots)) : JJ p l e R s m args below meth c D tyc A n0 ad0 nL Q (pc) (L) (.int v :: st) (h) (cells) (slots) := by
  intro ad ls H locs I
  exact lv_istore_n x.1 x.2.1 hd rfl I.1.has hn rfl (fun ls2 hl2 => kk ad ls2 H locs (I.lo j_ok_tl (I.1.store hn hc hl2) (j_ok_set I.2.2.2.2.2.2.2 (I.2.2.2.2.2.2.1 _ List.mem_cons_self))))
theorem j_istore (x : j_X p l s m args meth c D tyc A own cc nL) {i : Nat} {v : Int32} (hd : decode cc pc = .ok (.istore i, 2)) (hn : i < nL) (hc : j_c1 L i = true) (kk : JJ p l e R s m args below meth c D tyc A n0 ad0 nL Q (pc + 2) (L.set i (some (.int v))) (st) (h) (cells) (slots)) : JJ p l e R s m args below meth c D tyc A n0 ad0 nL Q (pc) (L) (.int v :: st) (h) (cells) (slots) := by
  intro ad ls H locs I
  exact lv_istore x.1 x.2.1 hd I.1.has hn rfl (fun ls2 hl2 => kk ad ls2 H locs (I.lo j_ok_tl (I.1.store hn hc hl2) (j_ok_set I.2.2.2.2.2.2.2 (I.2.2.2.2.2.2.1 _ List.mem_cons_self))))
theorem j_astore_n (x : j_X p l s m args meth c D tyc A own cc nL) {k : Fin 4} {v : Nat} (hd : decode cc pc = .ok (.astore_n k, 1)) (hn : (k : Nat) < nL) (hc : j_c1 L (k : Nat) = true) (kk : JJ p l e R s m args below meth c D tyc A n0 ad0 nL Q (pc + 1) (L.set (k : Nat) (some (.ref v))) (st) (h) (cells) (slots)) : JJ p l e R s m args below meth c D tyc A n0 ad0 nL Q (pc) (L) (.ref v :: st) (h) (cells) (slots) := by
  intro ad ls H locs I
  exact lv_astore_n x.1 x.2.1 hd rfl I.1.has hn rfl (fun ls2 hl2 => kk ad ls2 H locs (I.lo j_ok_tl (I.1.store hn hc hl2) (j_ok_set I.2.2.2.2.2.2.2 (I.2.2.2.2.2.2.1 _ List.mem_cons_self))))
theorem j_astore (x : j_X p l s m args meth c D tyc A own cc nL) {i : Nat} {v : Nat} (hd : decode cc pc = .ok (.astore i, 2)) (hn : i < nL) (hc : j_c1 L i = true) (kk : JJ p l e R s m args below meth c D tyc A n0 ad0 nL Q (pc + 2) (L.set i (some (.ref v))) (st) (h) (cells) (slots)) : JJ p l e R s m args below meth c D tyc A n0 ad0 nL Q (pc) (L) (.ref v :: st) (h) (cells) (slots) := by
  intro ad ls H locs I
  exact lv_astore x.1 x.2.1 hd I.1.has hn rfl (fun ls2 hl2 => kk ad ls2 H locs (I.lo j_ok_tl (I.1.store hn hc hl2) (j_ok_set I.2.2.2.2.2.2.2 (I.2.2.2.2.2.2.1 _ List.mem_cons_self))))
theorem j_fstore (x : j_X p l s m args meth c D tyc A own cc nL) {i : Nat} {v : UInt32} (hd : decode cc pc = .ok (.fstore i, 2)) (hn : i < nL) (hc : j_c1 L i = true) (kk : JJ p l e R s m args below meth c D tyc A n0 ad0 nL Q (pc + 2) (L.set i (some (.float v))) (st) (h) (cells) (slots)) : JJ p l e R s m args below meth c D tyc A n0 ad0 nL Q (pc) (L) (.float v :: st) (h) (cells) (slots) := by
  intro ad ls H locs I
  exact lv_fstore x.1 x.2.1 hd I.1.has hn rfl (fun ls2 hl2 => kk ad ls2 H locs (I.lo j_ok_tl (I.1.store hn hc hl2) (j_ok_set I.2.2.2.2.2.2.2 (I.2.2.2.2.2.2.1 _ List.mem_cons_self))))
theorem j_astore_nN (x : j_X p l s m args meth c D tyc A own cc nL) {k : Fin 4}  (hd : decode cc pc = .ok (.astore_n k, 1)) (hn : (k : Nat) < nL) (hc : j_c1 L (k : Nat) = true) (kk : JJ p l e R s m args below meth c D tyc A n0 ad0 nL Q (pc + 1) (L.set (k : Nat) (some (.null))) (st) (h) (cells) (slots)) : JJ p l e R s m args below meth c D tyc A n0 ad0 nL Q (pc) (L) (.null :: st) (h) (cells) (slots) := by
  intro ad ls H locs I
  exact lv_astore_nN x.1 x.2.1 hd rfl I.1.has hn rfl (fun ls2 hl2 => kk ad ls2 H locs (I.lo j_ok_tl (I.1.store hn hc hl2) (j_ok_set I.2.2.2.2.2.2.2 (I.2.2.2.2.2.2.1 _ List.mem_cons_self))))
theorem j_iinc (x : j_X p l s m args meth c D tyc A own cc nL) {i : Nat} {n : Int} {v : Int32} (hd : decode cc pc = .ok (.iinc i n, 3)) (hL : L[i]? = some (some (.int v))) (hn : i < nL) (hc : j_c1 L i = true) (kk : JJ p l e R s m args below meth c D tyc A n0 ad0 nL Q (pc + 3) (L.set i (some (.int (v + Int32.ofInt n)))) (st) (h) (cells) (slots)) : JJ p l e R s m args below meth c D tyc A n0 ad0 nL Q (pc) (L) (st) (h) (cells) (slots) := by
  intro ad ls H locs I
  obtain ⟨k, hk⟩ := List.getElem?_of_mem (j_lv_mem (ad := ad) hL)
  exact lv_iinc x.1 x.2.1 hd I.1.has hk rfl hn rfl (fun ls2 hl2 => kk ad ls2 H locs (I.lo id (I.1.store (v := .int (v + Int32.ofInt n)) hn hc hl2) (j_ok_set I.2.2.2.2.2.2.2 j_ok_int)))
theorem j_iconst (x : j_X p l s m args meth c D tyc A own cc nL) {n : Int} {v : Int32} (hd : decode cc pc = .ok (.iconst n, 1)) (hv : Int32.ofInt n = v) (kk : JJ p l e R s m args below meth c D tyc A n0 ad0 nL Q (pc + 1) (L) (.int v :: st) (h) (cells) (slots)) : JJ p l e R s m args below meth c D tyc A n0 ad0 nL Q (pc) (L) (st) (h) (cells) (slots) := by
  intro ad ls H locs I
  exact lv_iconst x.1 x.2.1 hd hv (kk ad ls H locs (I.st fun hs => j_ok_cons j_ok_int hs))
theorem j_bipush (x : j_X p l s m args meth c D tyc A own cc nL) {n : Int} {v : Int32} (hd : decode cc pc = .ok (.bipush n, 2)) (hv : (Int8.ofInt n).toInt32 = v) (kk : JJ p l e R s m args below meth c D tyc A n0 ad0 nL Q (pc + 2) (L) (.int v :: st) (h) (cells) (slots)) : JJ p l e R s m args below meth c D tyc A n0 ad0 nL Q (pc) (L) (st) (h) (cells) (slots) := by
  intro ad ls H locs I
  exact lv_bipush x.1 x.2.1 hd hv (kk ad ls H locs (I.st fun hs => j_ok_cons j_ok_int hs))
theorem j_sipush (x : j_X p l s m args meth c D tyc A own cc nL) {n : Int} {v : Int32} (hd : decode cc pc = .ok (.sipush n, 3)) (hv : (Int16.ofInt n).toInt32 = v) (kk : JJ p l e R s m args below meth c D tyc A n0 ad0 nL Q (pc + 3) (L) (.int v :: st) (h) (cells) (slots)) : JJ p l e R s m args below meth c D tyc A n0 ad0 nL Q (pc) (L) (st) (h) (cells) (slots) := by
  intro ad ls H locs I
  exact lv_sipush x.1 x.2.1 hd hv (kk ad ls H locs (I.st fun hs => j_ok_cons j_ok_int hs))
theorem j_lconst (x : j_X p l s m args meth c D tyc A own cc nL) {n : Fin 2} {v : Int64} (hd : decode cc pc = .ok (.lconst n, 1)) (hv : Int64.ofNat (n : Nat) = v) (kk : JJ p l e R s m args below meth c D tyc A n0 ad0 nL Q (pc + 1) (L) (.long v :: st) (h) (cells) (slots)) : JJ p l e R s m args below meth c D tyc A n0 ad0 nL Q (pc) (L) (st) (h) (cells) (slots) := by
  intro ad ls H locs I
  exact lv_lconst x.1 x.2.1 hd hv (kk ad ls H locs (I.st fun hs => j_ok_cons j_ok_long hs))
theorem j_null (x : j_X p l s m args meth c D tyc A own cc nL) (hd : decode cc pc = .ok (.aconst_null, 1)) (kk : JJ p l e R s m args below meth c D tyc A n0 ad0 nL Q (pc + 1) (L) (.null :: st) (h) (cells) (slots)) : JJ p l e R s m args below meth c D tyc A n0 ad0 nL Q (pc) (L) (st) (h) (cells) (slots) := by
  intro ad ls H locs I
  exact lv_null x.1 x.2.1 hd (kk ad ls H locs (I.st fun hs => j_ok_cons j_ok_null hs))
theorem j_ldci (x : j_X p l s m args meth c D tyc A own cc nL) {i : Nat} {v : Int32} (hd : decode cc pc = .ok (.ldc i, 2)) (hw : Cond.constant own i v ∈ j_all) (kk : JJ p l e R s m args below meth c D tyc A n0 ad0 nL Q (pc + 2) (L) (.int v :: st) (h) (cells) (slots)) : JJ p l e R s m args below meth c D tyc A n0 ad0 nL Q (pc) (L) (st) (h) (cells) (slots) := by
  intro ad ls H locs I
  exact lv_ldc x.1 x.2.1 x.2.2.2.1 (x.2.2.2.2.1 _ hw) hd (kk ad ls H locs (I.st fun hs => j_ok_cons j_ok_int hs))
theorem j_ldcwi (x : j_X p l s m args meth c D tyc A own cc nL) {i : Nat} {v : Int32} (hd : decode cc pc = .ok (.ldc_w i, 3)) (hw : Cond.constant own i v ∈ j_all) (kk : JJ p l e R s m args below meth c D tyc A n0 ad0 nL Q (pc + 3) (L) (.int v :: st) (h) (cells) (slots)) : JJ p l e R s m args below meth c D tyc A n0 ad0 nL Q (pc) (L) (st) (h) (cells) (slots) := by
  intro ad ls H locs I
  exact lv_ldcw x.1 x.2.1 x.2.2.2.1 (x.2.2.2.2.1 _ hw) hd (kk ad ls H locs (I.st fun hs => j_ok_cons j_ok_int hs))
theorem j_iadd (x : j_X p l s m args meth c D tyc A own cc nL) {v w : Int32} (hd : decode cc pc = .ok (.iadd, 1)) (kk : JJ p l e R s m args below meth c D tyc A n0 ad0 nL Q (pc + 1) (L) (.int (v + w) :: st) (h) (cells) (slots)) : JJ p l e R s m args below meth c D tyc A n0 ad0 nL Q (pc) (L) (.int w :: .int v :: st) (h) (cells) (slots) := by
  intro ad ls H locs I
  exact lv_iadd x.1 x.2.1 hd (kk ad ls H locs (I.st fun hs => j_ok_cons j_ok_int (j_ok_tl (j_ok_tl hs))))
theorem j_isub (x : j_X p l s m args meth c D tyc A own cc nL) {v w : Int32} (hd : decode cc pc = .ok (.isub, 1)) (kk : JJ p l e R s m args below meth c D tyc A n0 ad0 nL Q (pc + 1) (L) (.int (v - w) :: st) (h) (cells) (slots)) : JJ p l e R s m args below meth c D tyc A n0 ad0 nL Q (pc) (L) (.int w :: .int v :: st) (h) (cells) (slots) := by
  intro ad ls H locs I
  exact lv_isub x.1 x.2.1 hd (kk ad ls H locs (I.st fun hs => j_ok_cons j_ok_int (j_ok_tl (j_ok_tl hs))))
theorem j_imul (x : j_X p l s m args meth c D tyc A own cc nL) {v w : Int32} (hd : decode cc pc = .ok (.imul, 1)) (kk : JJ p l e R s m args below meth c D tyc A n0 ad0 nL Q (pc + 1) (L) (.int (v * w) :: st) (h) (cells) (slots)) : JJ p l e R s m args below meth c D tyc A n0 ad0 nL Q (pc) (L) (.int w :: .int v :: st) (h) (cells) (slots) := by
  intro ad ls H locs I
  exact lv_imul x.1 x.2.1 hd (kk ad ls H locs (I.st fun hs => j_ok_cons j_ok_int (j_ok_tl (j_ok_tl hs))))
theorem j_iand (x : j_X p l s m args meth c D tyc A own cc nL) {v w : Int32} (hd : decode cc pc = .ok (.iand, 1)) (kk : JJ p l e R s m args below meth c D tyc A n0 ad0 nL Q (pc + 1) (L) (.int (v &&& w) :: st) (h) (cells) (slots)) : JJ p l e R s m args below meth c D tyc A n0 ad0 nL Q (pc) (L) (.int w :: .int v :: st) (h) (cells) (slots) := by
  intro ad ls H locs I
  exact lv_iand x.1 x.2.1 hd (kk ad ls H locs (I.st fun hs => j_ok_cons j_ok_int (j_ok_tl (j_ok_tl hs))))
theorem j_ior (x : j_X p l s m args meth c D tyc A own cc nL) {v w : Int32} (hd : decode cc pc = .ok (.ior, 1)) (kk : JJ p l e R s m args below meth c D tyc A n0 ad0 nL Q (pc + 1) (L) (.int (v ||| w) :: st) (h) (cells) (slots)) : JJ p l e R s m args below meth c D tyc A n0 ad0 nL Q (pc) (L) (.int w :: .int v :: st) (h) (cells) (slots) := by
  intro ad ls H locs I
  exact lv_ior x.1 x.2.1 hd (kk ad ls H locs (I.st fun hs => j_ok_cons j_ok_int (j_ok_tl (j_ok_tl hs))))
theorem j_ixor (x : j_X p l s m args meth c D tyc A own cc nL) {v w : Int32} (hd : decode cc pc = .ok (.ixor, 1)) (kk : JJ p l e R s m args below meth c D tyc A n0 ad0 nL Q (pc + 1) (L) (.int (v ^^^ w) :: st) (h) (cells) (slots)) : JJ p l e R s m args below meth c D tyc A n0 ad0 nL Q (pc) (L) (.int w :: .int v :: st) (h) (cells) (slots) := by
  intro ad ls H locs I
  exact lv_ixor x.1 x.2.1 hd (kk ad ls H locs (I.st fun hs => j_ok_cons j_ok_int (j_ok_tl (j_ok_tl hs))))
theorem j_ishl (x : j_X p l s m args meth c D tyc A own cc nL) {v w : Int32} (hd : decode cc pc = .ok (.ishl, 1)) (kk : JJ p l e R s m args below meth c D tyc A n0 ad0 nL Q (pc + 1) (L) (.int (v <<< (w &&& 31)) :: st) (h) (cells) (slots)) : JJ p l e R s m args below meth c D tyc A n0 ad0 nL Q (pc) (L) (.int w :: .int v :: st) (h) (cells) (slots) := by
  intro ad ls H locs I
  exact lv_ishl x.1 x.2.1 hd (kk ad ls H locs (I.st fun hs => j_ok_cons j_ok_int (j_ok_tl (j_ok_tl hs))))
theorem j_ishr (x : j_X p l s m args meth c D tyc A own cc nL) {v w : Int32} (hd : decode cc pc = .ok (.ishr, 1)) (kk : JJ p l e R s m args below meth c D tyc A n0 ad0 nL Q (pc + 1) (L) (.int (v >>> (w &&& 31)) :: st) (h) (cells) (slots)) : JJ p l e R s m args below meth c D tyc A n0 ad0 nL Q (pc) (L) (.int w :: .int v :: st) (h) (cells) (slots) := by
  intro ad ls H locs I
  exact lv_ishr x.1 x.2.1 hd (kk ad ls H locs (I.st fun hs => j_ok_cons j_ok_int (j_ok_tl (j_ok_tl hs))))
theorem j_idiv (x : j_X p l s m args meth c D tyc A own cc nL) {v w : Int32} (hd : decode cc pc = .ok (.idiv, 1)) (h0 : ¬ w = 0) (kk : JJ p l e R s m args below meth c D tyc A n0 ad0 nL Q (pc + 1) (L) (.int (v / w) :: st) (h) (cells) (slots)) : JJ p l e R s m args below meth c D tyc A n0 ad0 nL Q (pc) (L) (.int w :: .int v :: st) (h) (cells) (slots) := by
  intro ad ls H locs I
  exact lv_idiv x.1 x.2.1 hd h0 (kk ad ls H locs (I.st fun hs => j_ok_cons j_ok_int (j_ok_tl (j_ok_tl hs))))
theorem j_irem (x : j_X p l s m args meth c D tyc A own cc nL) {v w : Int32} (hd : decode cc pc = .ok (.irem, 1)) (h0 : ¬ w = 0) (kk : JJ p l e R s m args below meth c D tyc A n0 ad0 nL Q (pc + 1) (L) (.int (v - v / w * w) :: st) (h) (cells) (slots)) : JJ p l e R s m args below meth c D tyc A n0 ad0 nL Q (pc) (L) (.int w :: .int v :: st) (h) (cells) (slots) := by
  intro ad ls H locs I
  exact lv_irem x.1 x.2.1 hd h0 (kk ad ls H locs (I.st fun hs => j_ok_cons j_ok_int (j_ok_tl (j_ok_tl hs))))
theorem j_iushr (x : j_X p l s m args meth c D tyc A own cc nL) {v w : Int32} (hd : decode cc pc = .ok (.iushr, 1)) (kk : JJ p l e R s m args below meth c D tyc A n0 ad0 nL Q (pc + 1) (L) (.int ((v.toUInt32 >>> (w.toUInt32 &&& Int32.toUInt32 31)).toInt32) :: st) (h) (cells) (slots)) : JJ p l e R s m args below meth c D tyc A n0 ad0 nL Q (pc) (L) (.int w :: .int v :: st) (h) (cells) (slots) := by
  intro ad ls H locs I
  exact lv_iushr x.1 x.2.1 hd rfl (kk ad ls H locs (I.st fun hs => j_ok_cons j_ok_int (j_ok_tl (j_ok_tl hs))))
theorem j_ineg (x : j_X p l s m args meth c D tyc A own cc nL) {v : Int32} (hd : decode cc pc = .ok (.ineg, 1)) (kk : JJ p l e R s m args below meth c D tyc A n0 ad0 nL Q (pc + 1) (L) (.int (-v) :: st) (h) (cells) (slots)) : JJ p l e R s m args below meth c D tyc A n0 ad0 nL Q (pc) (L) (.int v :: st) (h) (cells) (slots) := by
  intro ad ls H locs I
  exact lv_ineg x.1 x.2.1 hd (kk ad ls H locs (I.st fun hs => j_ok_cons j_ok_int (j_ok_tl hs)))
theorem j_i2c (x : j_X p l s m args meth c D tyc A own cc nL) {v : Int32} (hd : decode cc pc = .ok (.i2c, 1)) (kk : JJ p l e R s m args below meth c D tyc A n0 ad0 nL Q (pc + 1) (L) (.int ((v.toUInt32 % 65536).toInt32) :: st) (h) (cells) (slots)) : JJ p l e R s m args below meth c D tyc A n0 ad0 nL Q (pc) (L) (.int v :: st) (h) (cells) (slots) := by
  intro ad ls H locs I
  exact lv_i2c x.1 x.2.1 hd rfl (kk ad ls H locs (I.st fun hs => j_ok_cons j_ok_int (j_ok_tl hs)))
theorem j_i2b (x : j_X p l s m args meth c D tyc A own cc nL) {v : Int32} (hd : decode cc pc = .ok (.i2b, 1)) (kk : JJ p l e R s m args below meth c D tyc A n0 ad0 nL Q (pc + 1) (L) (.int (v.toInt8.toInt32) :: st) (h) (cells) (slots)) : JJ p l e R s m args below meth c D tyc A n0 ad0 nL Q (pc) (L) (.int v :: st) (h) (cells) (slots) := by
  intro ad ls H locs I
  exact lv_i2b x.1 x.2.1 hd rfl (kk ad ls H locs (I.st fun hs => j_ok_cons j_ok_int (j_ok_tl hs)))
theorem j_i2l (x : j_X p l s m args meth c D tyc A own cc nL) {v : Int32} (hd : decode cc pc = .ok (.i2l, 1)) (kk : JJ p l e R s m args below meth c D tyc A n0 ad0 nL Q (pc + 1) (L) (.long v.toInt64 :: st) (h) (cells) (slots)) : JJ p l e R s m args below meth c D tyc A n0 ad0 nL Q (pc) (L) (.int v :: st) (h) (cells) (slots) := by
  intro ad ls H locs I
  exact lv_i2l x.1 x.2.1 hd rfl (kk ad ls H locs (I.st fun hs => j_ok_cons j_ok_long (j_ok_tl hs)))
theorem j_i2d (x : j_X p l s m args meth c D tyc A own cc nL) {v : Int32} (hd : decode cc pc = .ok (.i2d, 1)) (kk : JJ p l e R s m args below meth c D tyc A n0 ad0 nL Q (pc + 1) (L) (.double (FP.i2d v) :: st) (h) (cells) (slots)) : JJ p l e R s m args below meth c D tyc A n0 ad0 nL Q (pc) (L) (.int v :: st) (h) (cells) (slots) := by
  intro ad ls H locs I
  exact lv_i2d x.1 x.2.1 hd (kk ad ls H locs (I.st fun hs => j_ok_cons j_ok_double (j_ok_tl hs)))
theorem j_i2f (x : j_X p l s m args meth c D tyc A own cc nL) {v : Int32} (hd : decode cc pc = .ok (.i2f, 1)) (kk : JJ p l e R s m args below meth c D tyc A n0 ad0 nL Q (pc + 1) (L) (.float (FP.i2f v) :: st) (h) (cells) (slots)) : JJ p l e R s m args below meth c D tyc A n0 ad0 nL Q (pc) (L) (.int v :: st) (h) (cells) (slots) := by
  intro ad ls H locs I
  exact lv_i2f x.1 x.2.1 hd (kk ad ls H locs (I.st fun hs => j_ok_cons j_ok_float (j_ok_tl hs)))
theorem j_lcmp (x : j_X p l s m args meth c D tyc A own cc nL) {v w : Int64} (hd : decode cc pc = .ok (.lcmp, 1)) (kk : JJ p l e R s m args below meth c D tyc A n0 ad0 nL Q (pc + 1) (L) (.int (lg_cmp v w) :: st) (h) (cells) (slots)) : JJ p l e R s m args below meth c D tyc A n0 ad0 nL Q (pc) (L) (.long w :: .long v :: st) (h) (cells) (slots) := by
  intro ad ls H locs I
  exact W.lcmp x.1 x.2.1 hd (kk ad ls H locs (I.st fun hs => j_ok_cons j_ok_int (j_ok_tl (j_ok_tl hs))))
theorem j_pop (x : j_X p l s m args meth c D tyc A own cc nL) {v : Value} (hd : decode cc pc = .ok (.pop, 1)) (hv : v.category = 1) (kk : JJ p l e R s m args below meth c D tyc A n0 ad0 nL Q (pc + 1) (L) (st) (h) (cells) (slots)) : JJ p l e R s m args below meth c D tyc A n0 ad0 nL Q (pc) (L) (v :: st) (h) (cells) (slots) := by
  intro ad ls H locs I
  exact lv_pop x.1 x.2.1 hd ((j_cv_cat ad v).trans hv) (kk ad ls H locs (I.st j_ok_tl))
theorem j_dup (x : j_X p l s m args meth c D tyc A own cc nL) {v : Value} (hd : decode cc pc = .ok (.dup, 1)) (hv : v.category = 1) (kk : JJ p l e R s m args below meth c D tyc A n0 ad0 nL Q (pc + 1) (L) (v :: v :: st) (h) (cells) (slots)) : JJ p l e R s m args below meth c D tyc A n0 ad0 nL Q (pc) (L) (v :: st) (h) (cells) (slots) := by
  intro ad ls H locs I
  exact lv_dup x.1 x.2.1 hd ((j_cv_cat ad v).trans hv) (kk ad ls H locs (I.st fun hs => j_ok_cons (hs _ List.mem_cons_self) hs))
theorem j_dup_x1 (x : j_X p l s m args meth c D tyc A own cc nL) {v w : Value} (hd : decode cc pc = .ok (.dup_x1, 1)) (hv : v.category = 1) (hw : w.category = 1) (kk : JJ p l e R s m args below meth c D tyc A n0 ad0 nL Q (pc + 1) (L) (v :: w :: v :: st) (h) (cells) (slots)) : JJ p l e R s m args below meth c D tyc A n0 ad0 nL Q (pc) (L) (v :: w :: st) (h) (cells) (slots) := by
  intro ad ls H locs I
  exact lv_dup_x1 x.1 x.2.1 hd ((j_cv_cat ad v).trans hv) ((j_cv_cat ad w).trans hw) (kk ad ls H locs (I.st fun hs => j_ok_cons (hs _ List.mem_cons_self) (j_ok_cons (j_ok_tl hs _ List.mem_cons_self) (j_ok_cons (hs _ List.mem_cons_self) (j_ok_tl (j_ok_tl hs))))))
theorem j_dup_x2 (x : j_X p l s m args meth c D tyc A own cc nL) {v w u : Value} (hd : decode cc pc = .ok (.dup_x2, 1)) (hv : v.category = 1) (hw : w.category = 1) (hu : u.category = 1) (kk : JJ p l e R s m args below meth c D tyc A n0 ad0 nL Q (pc + 1) (L) (v :: w :: u :: v :: st) (h) (cells) (slots)) : JJ p l e R s m args below meth c D tyc A n0 ad0 nL Q (pc) (L) (v :: w :: u :: st) (h) (cells) (slots) := by
  intro ad ls H locs I
  exact lv_dup_x2 x.1 x.2.1 hd ((j_cv_cat ad v).trans hv) ((j_cv_cat ad w).trans hw) ((j_cv_cat ad u).trans hu) (kk ad ls H locs (I.st fun hs => j_ok_cons (hs _ List.mem_cons_self) (j_ok_cons (j_ok_tl hs _ List.mem_cons_self) (j_ok_cons (j_ok_tl (j_ok_tl hs) _ List.mem_cons_self) (j_ok_cons (hs _ List.mem_cons_self) (j_ok_tl (j_ok_tl (j_ok_tl hs))))))))
theorem j_dup2 (x : j_X p l s m args meth c D tyc A own cc nL) {v w : Value} (hd : decode cc pc = .ok (.dup2, 1)) (hv : v.category = 1) (hw : w.category = 1) (kk : JJ p l e R s m args below meth c D tyc A n0 ad0 nL Q (pc + 1) (L) (v :: w :: v :: w :: st) (h) (cells) (slots)) : JJ p l e R s m args below meth c D tyc A n0 ad0 nL Q (pc) (L) (v :: w :: st) (h) (cells) (slots) := by
  intro ad ls H locs I
  exact lv_dup2_11 x.1 x.2.1 hd ((j_cv_cat ad v).trans hv) ((j_cv_cat ad w).trans hw) (kk ad ls H locs (I.st fun hs => j_ok_cons (hs _ List.mem_cons_self) (j_ok_cons (j_ok_tl hs _ List.mem_cons_self) hs)))
theorem j_if_eq (x : j_X p l s m args meth c D tyc A own cc nL) {v : Int32} {off : Int} {tgt : Nat} (hd : decode cc pc = .ok (.ifCond .eq off, 3)) (ht : (pc : Int) + off = (tgt : Int)) (kt : v = 0 → JJ p l e R s m args below meth c D tyc A n0 ad0 nL Q (tgt) (L) (st) (h) (cells) (slots)) (kf : ¬ v = 0 → JJ p l e R s m args below meth c D tyc A n0 ad0 nL Q (pc + 3) (L) (st) (h) (cells) (slots)) : JJ p l e R s m args below meth c D tyc A n0 ad0 nL Q (pc) (L) (.int v :: st) (h) (cells) (slots) := by
  intro ad ls H locs I
  exact lv_if_eq x.1 x.2.1 hd ht (fun hc => kt hc ad ls H locs (I.st j_ok_tl)) (fun hc => kf hc ad ls H locs (I.st j_ok_tl))
theorem j_icmp_eq (x : j_X p l s m args meth c D tyc A own cc nL) {v w : Int32} {off : Int} {tgt : Nat} (hd : decode cc pc = .ok (.if_icmp .eq off, 3)) (ht : (pc : Int) + off = (tgt : Int)) (kt : v = w → JJ p l e R s m args below meth c D tyc A n0 ad0 nL Q (tgt) (L) (st) (h) (cells) (slots)) (kf : ¬ v = w → JJ p l e R s m args below meth c D tyc A n0 ad0 nL Q (pc + 3) (L) (st) (h) (cells) (slots)) : JJ p l e R s m args below meth c D tyc A n0 ad0 nL Q (pc) (L) (.int w :: .int v :: st) (h) (cells) (slots) := by
  intro ad ls H locs I
  exact lv_icmp_eq x.1 x.2.1 hd ht (fun hc => kt hc ad ls H locs (I.st fun hs => j_ok_tl (j_ok_tl hs))) (fun hc => kf hc ad ls H locs (I.st fun hs => j_ok_tl (j_ok_tl hs)))
theorem j_if_ne (x : j_X p l s m args meth c D tyc A own cc nL) {v : Int32} {off : Int} {tgt : Nat} (hd : decode cc pc = .ok (.ifCond .ne off, 3)) (ht : (pc : Int) + off = (tgt : Int)) (kt : ¬ v = 0 → JJ p l e R s m args below meth c D tyc A n0 ad0 nL Q (tgt) (L) (st) (h) (cells) (slots)) (kf : v = 0 → JJ p l e R s m args below meth c D tyc A n0 ad0 nL Q (pc + 3) (L) (st) (h) (cells) (slots)) : JJ p l e R s m args below meth c D tyc A n0 ad0 nL Q (pc) (L) (.int v :: st) (h) (cells) (slots) := by
  intro ad ls H locs I
  exact lv_if_ne x.1 x.2.1 hd ht (fun hc => kt hc ad ls H locs (I.st j_ok_tl)) (fun hc => kf hc ad ls H locs (I.st j_ok_tl))
theorem j_icmp_ne (x : j_X p l s m args meth c D tyc A own cc nL) {v w : Int32} {off : Int} {tgt : Nat} (hd : decode cc pc = .ok (.if_icmp .ne off, 3)) (ht : (pc : Int) + off = (tgt : Int)) (kt : ¬ v = w → JJ p l e R s m args below meth c D tyc A n0 ad0 nL Q (tgt) (L) (st) (h) (cells) (slots)) (kf : v = w → JJ p l e R s m args below meth c D tyc A n0 ad0 nL Q (pc + 3) (L) (st) (h) (cells) (slots)) : JJ p l e R s m args below meth c D tyc A n0 ad0 nL Q (pc) (L) (.int w :: .int v :: st) (h) (cells) (slots) := by
  intro ad ls H locs I
  exact lv_icmp_ne x.1 x.2.1 hd ht (fun hc => kt hc ad ls H locs (I.st fun hs => j_ok_tl (j_ok_tl hs))) (fun hc => kf hc ad ls H locs (I.st fun hs => j_ok_tl (j_ok_tl hs)))
theorem j_if_lt (x : j_X p l s m args meth c D tyc A own cc nL) {v : Int32} {off : Int} {tgt : Nat} (hd : decode cc pc = .ok (.ifCond .lt off, 3)) (ht : (pc : Int) + off = (tgt : Int)) (kt : v < 0 → JJ p l e R s m args below meth c D tyc A n0 ad0 nL Q (tgt) (L) (st) (h) (cells) (slots)) (kf : ¬ v < 0 → JJ p l e R s m args below meth c D tyc A n0 ad0 nL Q (pc + 3) (L) (st) (h) (cells) (slots)) : JJ p l e R s m args below meth c D tyc A n0 ad0 nL Q (pc) (L) (.int v :: st) (h) (cells) (slots) := by
  intro ad ls H locs I
  exact lv_if_lt x.1 x.2.1 hd ht (fun hc => kt hc ad ls H locs (I.st j_ok_tl)) (fun hc => kf hc ad ls H locs (I.st j_ok_tl))
theorem j_icmp_lt (x : j_X p l s m args meth c D tyc A own cc nL) {v w : Int32} {off : Int} {tgt : Nat} (hd : decode cc pc = .ok (.if_icmp .lt off, 3)) (ht : (pc : Int) + off = (tgt : Int)) (kt : v < w → JJ p l e R s m args below meth c D tyc A n0 ad0 nL Q (tgt) (L) (st) (h) (cells) (slots)) (kf : ¬ v < w → JJ p l e R s m args below meth c D tyc A n0 ad0 nL Q (pc + 3) (L) (st) (h) (cells) (slots)) : JJ p l e R s m args below meth c D tyc A n0 ad0 nL Q (pc) (L) (.int w :: .int v :: st) (h) (cells) (slots) := by
  intro ad ls H locs I
  exact lv_icmp_lt x.1 x.2.1 hd ht (fun hc => kt hc ad ls H locs (I.st fun hs => j_ok_tl (j_ok_tl hs))) (fun hc => kf hc ad ls H locs (I.st fun hs => j_ok_tl (j_ok_tl hs)))
theorem j_if_ge (x : j_X p l s m args meth c D tyc A own cc nL) {v : Int32} {off : Int} {tgt : Nat} (hd : decode cc pc = .ok (.ifCond .ge off, 3)) (ht : (pc : Int) + off = (tgt : Int)) (kt : 0 ≤ v → JJ p l e R s m args below meth c D tyc A n0 ad0 nL Q (tgt) (L) (st) (h) (cells) (slots)) (kf : ¬ 0 ≤ v → JJ p l e R s m args below meth c D tyc A n0 ad0 nL Q (pc + 3) (L) (st) (h) (cells) (slots)) : JJ p l e R s m args below meth c D tyc A n0 ad0 nL Q (pc) (L) (.int v :: st) (h) (cells) (slots) := by
  intro ad ls H locs I
  exact lv_if_ge x.1 x.2.1 hd ht (fun hc => kt hc ad ls H locs (I.st j_ok_tl)) (fun hc => kf hc ad ls H locs (I.st j_ok_tl))
theorem j_icmp_ge (x : j_X p l s m args meth c D tyc A own cc nL) {v w : Int32} {off : Int} {tgt : Nat} (hd : decode cc pc = .ok (.if_icmp .ge off, 3)) (ht : (pc : Int) + off = (tgt : Int)) (kt : w ≤ v → JJ p l e R s m args below meth c D tyc A n0 ad0 nL Q (tgt) (L) (st) (h) (cells) (slots)) (kf : ¬ w ≤ v → JJ p l e R s m args below meth c D tyc A n0 ad0 nL Q (pc + 3) (L) (st) (h) (cells) (slots)) : JJ p l e R s m args below meth c D tyc A n0 ad0 nL Q (pc) (L) (.int w :: .int v :: st) (h) (cells) (slots) := by
  intro ad ls H locs I
  exact lv_icmp_ge x.1 x.2.1 hd ht (fun hc => kt hc ad ls H locs (I.st fun hs => j_ok_tl (j_ok_tl hs))) (fun hc => kf hc ad ls H locs (I.st fun hs => j_ok_tl (j_ok_tl hs)))
theorem j_if_gt (x : j_X p l s m args meth c D tyc A own cc nL) {v : Int32} {off : Int} {tgt : Nat} (hd : decode cc pc = .ok (.ifCond .gt off, 3)) (ht : (pc : Int) + off = (tgt : Int)) (kt : 0 < v → JJ p l e R s m args below meth c D tyc A n0 ad0 nL Q (tgt) (L) (st) (h) (cells) (slots)) (kf : ¬ 0 < v → JJ p l e R s m args below meth c D tyc A n0 ad0 nL Q (pc + 3) (L) (st) (h) (cells) (slots)) : JJ p l e R s m args below meth c D tyc A n0 ad0 nL Q (pc) (L) (.int v :: st) (h) (cells) (slots) := by
  intro ad ls H locs I
  exact lv_if_gt x.1 x.2.1 hd ht (fun hc => kt hc ad ls H locs (I.st j_ok_tl)) (fun hc => kf hc ad ls H locs (I.st j_ok_tl))
theorem j_icmp_gt (x : j_X p l s m args meth c D tyc A own cc nL) {v w : Int32} {off : Int} {tgt : Nat} (hd : decode cc pc = .ok (.if_icmp .gt off, 3)) (ht : (pc : Int) + off = (tgt : Int)) (kt : w < v → JJ p l e R s m args below meth c D tyc A n0 ad0 nL Q (tgt) (L) (st) (h) (cells) (slots)) (kf : ¬ w < v → JJ p l e R s m args below meth c D tyc A n0 ad0 nL Q (pc + 3) (L) (st) (h) (cells) (slots)) : JJ p l e R s m args below meth c D tyc A n0 ad0 nL Q (pc) (L) (.int w :: .int v :: st) (h) (cells) (slots) := by
  intro ad ls H locs I
  exact lv_icmp_gt x.1 x.2.1 hd ht (fun hc => kt hc ad ls H locs (I.st fun hs => j_ok_tl (j_ok_tl hs))) (fun hc => kf hc ad ls H locs (I.st fun hs => j_ok_tl (j_ok_tl hs)))
theorem j_if_le (x : j_X p l s m args meth c D tyc A own cc nL) {v : Int32} {off : Int} {tgt : Nat} (hd : decode cc pc = .ok (.ifCond .le off, 3)) (ht : (pc : Int) + off = (tgt : Int)) (kt : v ≤ 0 → JJ p l e R s m args below meth c D tyc A n0 ad0 nL Q (tgt) (L) (st) (h) (cells) (slots)) (kf : ¬ v ≤ 0 → JJ p l e R s m args below meth c D tyc A n0 ad0 nL Q (pc + 3) (L) (st) (h) (cells) (slots)) : JJ p l e R s m args below meth c D tyc A n0 ad0 nL Q (pc) (L) (.int v :: st) (h) (cells) (slots) := by
  intro ad ls H locs I
  exact lv_if_le x.1 x.2.1 hd ht (fun hc => kt hc ad ls H locs (I.st j_ok_tl)) (fun hc => kf hc ad ls H locs (I.st j_ok_tl))
theorem j_icmp_le (x : j_X p l s m args meth c D tyc A own cc nL) {v w : Int32} {off : Int} {tgt : Nat} (hd : decode cc pc = .ok (.if_icmp .le off, 3)) (ht : (pc : Int) + off = (tgt : Int)) (kt : v ≤ w → JJ p l e R s m args below meth c D tyc A n0 ad0 nL Q (tgt) (L) (st) (h) (cells) (slots)) (kf : ¬ v ≤ w → JJ p l e R s m args below meth c D tyc A n0 ad0 nL Q (pc + 3) (L) (st) (h) (cells) (slots)) : JJ p l e R s m args below meth c D tyc A n0 ad0 nL Q (pc) (L) (.int w :: .int v :: st) (h) (cells) (slots) := by
  intro ad ls H locs I
  exact lv_icmp_le x.1 x.2.1 hd ht (fun hc => kt hc ad ls H locs (I.st fun hs => j_ok_tl (j_ok_tl hs))) (fun hc => kf hc ad ls H locs (I.st fun hs => j_ok_tl (j_ok_tl hs)))
theorem j_goto (x : j_X p l s m args meth c D tyc A own cc nL) {off : Int} {tgt : Nat} (hd : decode cc pc = .ok (.goto off, 3)) (ht : (pc : Int) + off = (tgt : Int)) (kk : JJ p l e R s m args below meth c D tyc A n0 ad0 nL Q (tgt) (L) (st) (h) (cells) (slots)) : JJ p l e R s m args below meth c D tyc A n0 ad0 nL Q (pc) (L) (st) (h) (cells) (slots) := by
  intro ad ls H locs I
  exact lv_goto x.1 x.2.1 hd ht (kk ad ls H locs I)
theorem j_ifnull (x : j_X p l s m args meth c D tyc A own cc nL) {a : Nat} {off : Int} (hd : decode cc pc = .ok (.ifnull off, 3)) (kk : JJ p l e R s m args below meth c D tyc A n0 ad0 nL Q (pc + 3) (L) (st) (h) (cells) (slots)) : JJ p l e R s m args below meth c D tyc A n0 ad0 nL Q (pc) (L) (.ref a :: st) (h) (cells) (slots) := by
  intro ad ls H locs I
  exact lv_ifnull x.1 x.2.1 hd (kk ad ls H locs (I.st j_ok_tl))
theorem j_ifnullN (x : j_X p l s m args meth c D tyc A own cc nL) {off : Int} {tgt : Nat} (hd : decode cc pc = .ok (.ifnull off, 3)) (ht : (pc : Int) + off = (tgt : Int)) (kk : JJ p l e R s m args below meth c D tyc A n0 ad0 nL Q (tgt) (L) (st) (h) (cells) (slots)) : JJ p l e R s m args below meth c D tyc A n0 ad0 nL Q (pc) (L) (.null :: st) (h) (cells) (slots) := by
  intro ad ls H locs I
  exact lv_ifnullN x.1 x.2.1 hd ht (kk ad ls H locs (I.st j_ok_tl))
theorem j_ifnonnull (x : j_X p l s m args meth c D tyc A own cc nL) {a : Nat} {off : Int} {tgt : Nat} (hd : decode cc pc = .ok (.ifnonnull off, 3)) (ht : (pc : Int) + off = (tgt : Int)) (kk : JJ p l e R s m args below meth c D tyc A n0 ad0 nL Q (tgt) (L) (st) (h) (cells) (slots)) : JJ p l e R s m args below meth c D tyc A n0 ad0 nL Q (pc) (L) (.ref a :: st) (h) (cells) (slots) := by
  intro ad ls H locs I
  exact lv_ifnonnull x.1 x.2.1 hd ht (kk ad ls H locs (I.st j_ok_tl))
theorem j_tableIn (x : j_X p l s m args meth c D tyc A own cc nL) {dflt lo hi : Int} {offs : Array Int} {len : Nat} {v : Int32} {off : Int} {tgt : Nat} (hd : decode cc pc = .ok (.tableswitch dflt lo hi offs, len)) (h1 : ¬ v.toInt < lo) (h2 : ¬ hi < v.toInt) (ho : offs[(v.toInt - lo).toNat]? = some off) (ht : (pc : Int) + off = (tgt : Int)) (kk : JJ p l e R s m args below meth c D tyc A n0 ad0 nL Q (tgt) (L) (st) (h) (cells) (slots)) : JJ p l e R s m args below meth c D tyc A n0 ad0 nL Q (pc) (L) (.int v :: st) (h) (cells) (slots) := by
  intro ad ls H locs I
  exact lv_tableIn x.1 x.2.1 hd h1 h2 ho ht (kk ad ls H locs (I.st j_ok_tl))
theorem j_tableOut (x : j_X p l s m args meth c D tyc A own cc nL) {dflt lo hi : Int} {offs : Array Int} {len : Nat} {v : Int32} {tgt : Nat} (hd : decode cc pc = .ok (.tableswitch dflt lo hi offs, len)) (h1 : v.toInt < lo ∨ hi < v.toInt) (ht : (pc : Int) + dflt = (tgt : Int)) (kk : JJ p l e R s m args below meth c D tyc A n0 ad0 nL Q (tgt) (L) (st) (h) (cells) (slots)) : JJ p l e R s m args below meth c D tyc A n0 ad0 nL Q (pc) (L) (.int v :: st) (h) (cells) (slots) := by
  intro ad ls H locs I
  exact lv_tableOut x.1 x.2.1 hd h1 ht (kk ad ls H locs (I.st j_ok_tl))
theorem j_lookup (x : j_X p l s m args meth c D tyc A own cc nL) {dflt : Int} {ps : Array (Int × Int)} {len : Nat} {v : Int32} {off : Int} {tgt : Nat} (hd : decode cc pc = .ok (.lookupswitch dflt ps, len)) (hp : (ps.toList.zip (ps.toList.drop 1)).all (fun (a, next) => a.1 < next.1) = true) (ho : Op.lookupswitch.offset ps.toList dflt v.toInt = off) (ht : (pc : Int) + off = (tgt : Int)) (kk : JJ p l e R s m args below meth c D tyc A n0 ad0 nL Q (tgt) (L) (st) (h) (cells) (slots)) : JJ p l e R s m args below meth c D tyc A n0 ad0 nL Q (pc) (L) (.int v :: st) (h) (cells) (slots) := by
  intro ad ls H locs I
  exact lv_lookup x.1 x.2.1 hd hp ho ht (kk ad ls H locs (I.st j_ok_tl))
end JR
