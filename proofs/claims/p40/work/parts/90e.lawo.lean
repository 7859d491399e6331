/-! ===== the law: a league that is drawn from the script ===== -/
theorem lcmp_eq {v w : Int64} (h : v = w) : lg_cmp v w = 0 := by
  subst h
  unfold lg_cmp
  rw [if_neg (Int64.lt_irrefl), if_pos rfl]
theorem nI_min {n : Nat} (h : n < 1000) : (if nI n < (8 : Int32) then nI n else 8) = nI (min 8 n) := by
  by_cases c : n < 8
  · rw [if_pos (show nI n < (8 : Int32) from nI_lt c (by decide)), show min 8 n = n by omega]
  · rw [if_neg (show ¬ nI n < (8 : Int32) from nI_nlt (a := n) (b := 8) (by omega) (by omega)), show min 8 n = 8 by omega]
    rfl
/-- a row of eleven longs, in front -/
def Wc (w : Nat → Int64) : MH := (1, fun _ => (104, 11, fun k => .long (w k)))
section JO
variable {p : Program} {l : Launch} {e : Env} {R : Room} {s : State} {m : MethodId} {args : Array Value} {below : List Frame} {meth : Method} {c : Code} {D : va_G} {tyc : Nat → ClassId} {A0 : Nat → Prop} {n0 : Nat} {ad0 : Nat → Nat} {nL : Nat} {Qs : State → Prop}
variable {own : String} {cc : ByteArray} {pc : Nat} {L L' : List (Option Value)} {st : List Value} {g h : MH} {cells slots idx n : Nat} {b : SBt} {Y : OUt} {A B : MM}
theorem j_minR (x : j_X p l s m args meth c D tyc A0 own cc nL) {v w : Int32} (hm : j_math) (hd : decode cc pc = .ok (.invokestatic idx, 3)) (hw : Cond.methodLink own idx Lib.Math.min.name ∈ j_all) (hst : st.length ≤ 4) (hc : cells ≤ room_1.cells) (hs : slots ≤ room_1.slots)
    (kk : JJ p l e room_1 s m args below meth c D tyc A0 n0 ad0 nL Qs (pc + 3) L (.int (if w < v then w else v) :: st) h cells slots) : JJ p l e room_1 s m args below meth c D tyc A0 n0 ad0 nL Qs pc L (.int w :: .int v :: st) h cells slots := by
  intro ad ls H locs I
  have h8 := j_room (ad := ad) hst
  exact va_mmin x.1 x.2.1 (by rw [x.2.2.1]; exact I.1.1.symm) x.2.2.2.1 (x.2.2.2.2.1 _ hw) (x.2.2.2.2.1 _ hm.1.1) (x.2.2.2.2.1 _ hm.2.2) (x.2.2.2.2.1 _ hm.1.2) (by simp only [room_1]; omega) (by simp only [room_1]; omega) hc hs hd (kk ad ls H locs (I.st fun hs => j_ok_cons j_ok_int (j_ok_tl (j_ok_tl hs))))
/-- the store begins anew -/
theorem o_empty (hn : n0 = 0) (hl : L'.length = L.length) (hL : ∀ (i : Nat) (v : Value), L'[i]? = some (some v) → L[i]? = some (some v)) (hk : ∀ v, some v ∈ L' → ∃ a, v = .retAddr a)
    (kk : JJ p l e R s m args below meth c D tyc A0 n0 ad0 nL Qs pc L' [] (HS 0 fun _ _ => .null) cells slots) : JJ p l e R s m args below meth c D tyc A0 n0 ad0 nL Qs pc L [] h cells slots :=
  j_view (h' := HS 0 fun _ _ => .null) (st' := []) (fun i => i) (fun i hi => absurd hi (Nat.not_lt_zero i)) (fun i j hi _ _ => absurd hi (Nat.not_lt_zero i)) (fun i hi => absurd hi (Nat.not_lt_zero i)) (by omega) (fun _ _ => rfl) (fun i hi => absurd hi (Nat.not_lt_zero i)) hl (fun i v hv => by rw [hL i v hv]; exact congrArg (fun z => some (some z)) j_rnv_id.symm) rfl (fun v hv => by cases hv) (fun v hv => by
    obtain ⟨a, rfl⟩ := hk v hv
    exact j_ok_raw) kk
/-- a new row of longs goes in front -/
theorem o_view (hn : n0 = 0) (hok : j_okH h) (hpos : 0 < h.1) {sb : Nat} {S : Int64} {t : Int32} (kk : JJ p l e R s m args below meth c D tyc A0 n0 ad0 nL Qs pc [some (.retAddr sb), none, some (.ref 1), some (.long S), none, some (.int t), none, none, none, none, none] [.ref 0] (jcat (Wc fun _ => 0) h) cells slots) : JJ p l e R s m args below meth c D tyc A0 n0 ad0 nL Qs pc [some (.retAddr sb), none, some (.ref 0), some (.long S), none, some (.int t), none, none, none, none, none] [.ref h.1] (j_push h (104, 11, fun _ => .long 0)) cells slots := by
  have e1 : (jcat (Wc fun _ => 0) h).1 = 1 + h.1 := rfl
  have e2 : (j_push h (104, 11, fun _ => .long 0)).1 = h.1 + 1 := rfl
  refine j_view (h' := jcat (Wc fun _ => 0) h) (st' := [.ref 0]) (L' := [some (.retAddr sb), none, some (.ref 1), some (.long S), none, some (.int t), none, none, none, none, none]) (fun i => if i = 0 then h.1 else i - 1) (fun i hi => ?_) (fun i j hi hj q => ?_) (fun i hi => ?_) (by omega) (fun i hi => by omega) ?_ rfl (fun i v hv => ?_) rfl (fun v hv => ?_) (fun v hv => ?_) kk
  · rw [e1] at hi
    rw [e2]
    show (if i = 0 then h.1 else i - 1) < h.1 + 1
    split <;> omega
  · rw [e1] at hi hj
    have q : (if i = 0 then h.1 else i - 1) = (if j = 0 then h.1 else j - 1) := q
    by_cases ci : i = 0
    · by_cases cj : j = 0
      · omega
      · rw [if_pos ci, if_neg cj] at q; omega
    · by_cases cj : j = 0
      · rw [if_neg ci, if_pos cj] at q; omega
      · rw [if_neg ci, if_neg cj] at q; omega
  · rw [e1] at hi
    by_cases ci : i = 0
    · subst ci
      exact ju_s
    · obtain ⟨k, rfl⟩ : ∃ k, i = 1 + k := ⟨i - 1, by omega⟩
      rw [show (jcat (Wc fun _ => 0) h).2 (1 + k) = j_shc 1 (h.2 k) from jcat_R.2 k (by omega), j_shc_rn, j_rnc_rn]
      have e3 : (fun q : Nat => if 1 + q = 0 then h.1 else 1 + q - 1) = fun q => q := funext fun q => by rw [if_neg (by omega)]; omega
      show (j_push h (104, 11, fun _ => .long 0)).2 (if 1 + k = 0 then h.1 else 1 + k - 1) = j_rnc (fun q : Nat => if 1 + q = 0 then h.1 else 1 + q - 1) (h.2 k)
      rw [e3, j_rnc_id, if_neg (by omega), show 1 + k - 1 = k by omega]
      exact ju_n (by omega)
  · exact jcat_ok (fun i hi j => j_ok_long) hok
  · match i, hv with
    | 0, hv => cases hv; rfl
    | 1, hv => cases hv
    | 2, hv => cases hv; rfl
    | 3, hv => cases hv; rfl
    | 4, hv => cases hv
    | 5, hv => cases hv; rfl
    | 6, hv => cases hv
    | 7, hv => cases hv
    | 8, hv => cases hv
    | 9, hv => cases hv
    | 10, hv => cases hv
    | i + 11, hv => cases hv
  · rw [List.mem_singleton.mp hv]
    exact j_ok_ref (by rw [e1]; omega)
  · simp only [List.mem_cons, Option.some.injEq, List.not_mem_nil, or_false, false_or, reduceCtorEq] at hv
    rcases hv with rfl | rfl | rfl | rfl
    · exact j_ok_raw
    · exact j_ok_ref (by rw [e1]; omega)
    · exact j_ok_long
    · exact j_ok_int
/-- the row in front: written, read -/
theorem o_last (x : j_X p l s m args meth c D tyc A0 own cc nL) {w : Nat → Int64} {v : Int64} (hd : decode cc pc = .ok (.lastore, 1)) (hn : n < 11) (kk : JJ p l e R s m args below meth c D tyc A0 n0 ad0 nL Qs (pc + 1) L st (jcat (Wc fun k => if k = n then v else w k) h) cells slots) : JJ p l e R s m args below meth c D tyc A0 n0 ad0 nL Qs pc L (.long v :: .int (nI n) :: .ref 0 :: st) (jcat (Wc w) h) cells slots := by
  refine j_lastore x (i := 0) (k := nI n) hd (show 0 < 1 + h.1 by omega) rfl (show vp_in (nI n) 11 from vp_in_nI hn (by omega)) ?_
  rw [nI_clamp (by omega)]
  refine j_same (h' := jcat (Wc fun k => if k = n then v else w k) h) rfl (fun i hi => ?_) kk
  by_cases c : i = 0
  · subst c
    show (jcat (Wc fun k => if k = n then v else w k) h).2 0 = ju (jcat (Wc w) h).2 0 (((jcat (Wc w) h).2 0).1, ((jcat (Wc w) h).2 0).2.1, ju ((jcat (Wc w) h).2 0).2.2 n (.long v)) 0
    rw [ju_s]
    refine Prod.ext rfl (Prod.ext rfl (funext fun k => ?_))
    show Value.long (if k = n then v else w k) = ju (fun k => Value.long (w k)) n (.long v) k
    by_cases z : k = n
    · rw [if_pos z, z, ju_s]
    · rw [if_neg z, ju_n z]
  · show (jcat (Wc fun k => if k = n then v else w k) h).2 i = ju (jcat (Wc w) h).2 0 (((jcat (Wc w) h).2 0).1, ((jcat (Wc w) h).2 0).2.1, ju ((jcat (Wc w) h).2 0).2.2 n (.long v)) i
    rw [ju_n c]
    show (if i < 1 then _ else _) = (if i < 1 then _ else _)
    rw [if_neg (by omega), if_neg (by omega)]
    rfl
theorem o_lald (x : j_X p l s m args meth c D tyc A0 own cc nL) {w : Nat → Int64} (hd : decode cc pc = .ok (.laload, 1)) (hn : n < 11) (kk : JJ p l e R s m args below meth c D tyc A0 n0 ad0 nL Qs (pc + 1) L (.long (w n) :: st) (jcat (Wc w) h) cells slots) : JJ p l e R s m args below meth c D tyc A0 n0 ad0 nL Qs pc L (.int (nI n) :: .ref 0 :: st) (jcat (Wc w) h) cells slots :=
  j_laload x (i := 0) (k := nI n) hd (show 0 < 1 + h.1 by omega) rfl (show vp_in (nI n) 11 from vp_in_nI hn (by omega)) (by rw [nI_clamp (by omega)]; rfl) kk
/-- asks, alone and behind a row -/
theorem h_asks (x : j_X p l s m args meth c D tyc A0 own cc nL) {t : Nat} (I : InvP b A B) (Dd : Dr B t) (hd : decode cc pc = .ok (.invokestatic idx, 3)) (hw : Cond.methodLink own idx yL_asks ∈ j_all) (hst : st.length ≤ 4) (hfit : j_fit R 21 1050 28300 cells slots)
    (kk : ∀ b1 A1, InvP b1 A1 B → JJ p l e R s m args below meth c D tyc A0 n0 ad0 nL Qs (pc + 3) L (.long (VA (cn B) t) :: st) (HH b1 Y A1) (cells + 1050) (slots + 28300)) : JJ p l e R s m args below meth c D tyc A0 n0 ad0 nL Qs pc L (.ref 0 :: st) (HH b Y A) cells slots := by
  refine j_callS x hd (c_asks (d := 0) (Y := Y) I Dd) m_L_asks hw rfl hst hfit rfl (fun E k z => by obtain ⟨_, _, q, _⟩ := z; cases q) (fun v k z => ?_)
  obtain ⟨b1, A1, z1, rfl, I1⟩ := z
  cases z1
  exact kk b1 A1 I1
theorem o_asks (x : j_X p l s m args meth c D tyc A0 own cc nL) {w : Nat → Int64} {t : Nat} (I : InvP b A B) (Dd : Dr B t) (hd : decode cc pc = .ok (.invokestatic idx, 3)) (hw : Cond.methodLink own idx yL_asks ∈ j_all) (hst : st.length ≤ 4) (hfit : j_fit R 21 1050 28300 cells slots)
    (kk : ∀ b1 A1, InvP b1 A1 B → JJ p l e R s m args below meth c D tyc A0 n0 ad0 nL Qs (pc + 3) L (.long (VA (cn B) t) :: st) (jcat (Wc w) (HH b1 Y A1)) (cells + 1050) (slots + 28300)) : JJ p l e R s m args below meth c D tyc A0 n0 ad0 nL Qs pc L (.ref 1 :: st) (jcat (Wc w) (HH b Y A)) cells slots := by
  refine j_callR x hd (c_asks (d := 0) (Y := Y) I Dd) m_L_asks hw (fun v hv => by rw [List.mem_singleton.mp hv]; exact j_ok_ref (Nat.lt_of_lt_of_le (show 0 < 94 by decide) I.hb)) rfl hst hfit rfl (fun E k z => by obtain ⟨_, _, q, _⟩ := z; cases q) (fun v k z => ?_)
  obtain ⟨b1, A1, z1, rfl, I1⟩ := z
  cases z1
  exact kk b1 A1 I1
theorem o_changes (x : j_X p l s m args meth c D tyc A0 own cc nL) {w : Nat → Int64} {t : Nat} {u : Int32} (I : InvP b A B) (Dd : Dr B t) (hG : Gd (B 95)) (hd : decode cc pc = .ok (.invokestatic idx, 3)) (hw : Cond.methodLink own idx yL_changes ∈ j_all) (hst : st.length ≤ 4) (hfit : j_fit R 22 300 2000 cells slots)
    (kk : ∀ y A1 B1, InvP b A1 B1 → ChZ B y B1 → JJ p l e R s m args below meth c D tyc A0 n0 ad0 nL Qs (pc + 3) L (.int y :: st) (jcat (Wc w) (HH b Y A1)) (cells + 300) (slots + 2000)) : JJ p l e R s m args below meth c D tyc A0 n0 ad0 nL Qs pc L (.int u :: .ref 1 :: st) (jcat (Wc w) (HH b Y A)) cells slots := by
  refine j_callR x hd (c_changes (d := 0) (u := u) (Y := Y) I Dd hG) m_L_changes hw (fun v hv => ?_) rfl hst hfit rfl (fun E k z => by obtain ⟨_, _, _, q, _⟩ := z; cases q) (fun v k z => ?_)
  · rcases List.mem_cons.mp hv with rfl | hv
    · exact j_ok_ref (Nat.lt_of_lt_of_le (show 0 < 94 by decide) I.hb)
    · rw [List.mem_singleton.mp hv]; exact j_ok_int
  · obtain ⟨y, A1, B1, z1, rfl, I1, hz⟩ := z
    cases z1
    exact kk y A1 B1 I1 hz
/-- a helper without arguments, behind a row -/
theorem o_call (x : j_X p l s m args meth c D tyc A0 own cc nL) {w : Nat → Int64} {yL : MethodName} {cL : ByteArray} {mL : Nat} {hh : List (Nat × Nat × Nat × Nat)} {Z : Int32 → MM → Prop} (I : InvP b A B) (S : SPc b Y A B yL cL mL hh [.ref 0] Z) (hd : decode cc pc = .ok (.invokestatic idx, 3)) (hm : j_mH yL cL mL (some .int) hh 1) (hw : Cond.methodLink own idx yL ∈ j_all) (hst : st.length ≤ 4) (hfit : ∀ mc ms, mc ≤ 1 → ms ≤ 6 → j_fit R 20 mc ms cells slots)
    (kk : ∀ v A1 B1, InvP b A1 B1 → Z v B1 → JJ p l e R s m args below meth c D tyc A0 n0 ad0 nL Qs (pc + 3) L (.int v :: st) (jcat (Wc w) (HH b Y A1)) (cells + 1) (slots + 6)) : JJ p l e R s m args below meth c D tyc A0 n0 ad0 nL Qs pc L (.ref 1 :: st) (jcat (Wc w) (HH b Y A)) cells slots :=
  c_callR x S hd hm hw (fun v hv => by rw [List.mem_singleton.mp hv]; exact j_ok_ref (Nat.lt_of_lt_of_le (show 0 < 94 by decide) I.hb)) rfl hst hfit rfl kk
/-- a loop whose state is told by α -/
theorem o_loop {α : Type} (n : Nat) (Lf : Nat → α → List (Option Value)) (hf : α → MH) (Z : Nat → α → Prop) (a0 : α) (cb sb K S : Nat) (hZ : Z 0 a0) (h0 : wkL (Lf 0 a0) L) (he : h = hf a0) (hc : cells ≤ cb) (hs : slots ≤ sb)
    (step : ∀ j, j < n → ∀ a, Z j a → (∀ a2 L2 c2 s2, Z (j + 1) a2 → wkL (Lf (j + 1) a2) L2 → c2 ≤ cb + (j + 1) * K → s2 ≤ sb + (j + 1) * S → JJ p l e R s m args below meth c D tyc A0 n0 ad0 nL Qs pc L2 st (hf a2) c2 s2) → JJ p l e R s m args below meth c D tyc A0 n0 ad0 nL Qs pc (Lf j a) st (hf a) (cb + j * K) (sb + j * S))
    (last : ∀ a, Z n a → JJ p l e R s m args below meth c D tyc A0 n0 ad0 nL Qs pc (Lf n a) st (hf a) (cb + n * K) (sb + n * S)) : JJ p l e R s m args below meth c D tyc A0 n0 ad0 nL Qs pc L st h cells slots := by
  refine j_loop n (fun j L h c1 s1 => ∃ a, Z j a ∧ wkL (Lf j a) L ∧ h = hf a ∧ c1 ≤ cb + j * K ∧ s1 ≤ sb + j * S) ⟨a0, hZ, h0, he, by rw [Nat.zero_mul]; exact hc, by rw [Nat.zero_mul]; exact hs⟩ (fun j hj L h c1 s1 hV kk => ?_) (fun L h c1 s1 hV => ?_)
  · obtain ⟨a, hz, hw, rfl, h1, h2⟩ := hV
    exact j_locW hw (j_widen h1 h2 (step j hj a hz fun a2 L2 c2 s2 z2 w2 e1 e2 => kk L2 _ c2 s2 ⟨a2, z2, w2, rfl, e1, e2⟩))
  · obtain ⟨a, hz, hw, rfl, h1, h2⟩ := hV
    exact j_locW hw (j_widen h1 h2 (last a hz))
end JO
theorem VA_row {B : MM} {R : Nat → Int32} {t : Nat} (h : ∀ c, c < 466 → B 95 c = R c) : VA (cn B) t = VA (cl R) t := by rw [At_cn h]
theorem Dr_row {B : MM} {R : Nat → Int32} {t : Nat} (h : ∀ c, c < 466 → B 95 c = R c) (h0 : R 0 = nI t) (ht : t ≤ 8) (h1 : ¬ R 1 = 0) : Dr B t := ⟨(h 0 (by omega)).trans h0, ht, by rw [h 1 (by omega)]; exact h1⟩
/-- a row of a drawn league of t teams -/
def DrR (R : Nat → Int32) (t : Nat) : Prop := R 0 = nI t ∧ t ≤ 8 ∧ ¬ R 1 = 0
/-- the league that was saved: S -/
def SavS (B : MM) (S : Nat → Int32) : Prop := B 94 5 = 1 ∧ ∀ c, c < 466 → B 98 c = S c
theorem SavS_s {B B1 : MM} {S : Nat → Int32} (h : SavS B S) (hs : Same B B1) : SavS B1 S := ⟨hs.2.2.2.2.trans h.1, fun c hc => (hs.2.2.1 c).trans (h.2 c hc)⟩
theorem SavS_p {B B1 : MM} {S : Nat → Int32} (h : SavS B S) (hp : PushB B B1) : SavS B1 S := by
  obtain ⟨k, -, -, -, -, h5, h6⟩ := hp
  exact ⟨h6.trans h.1, fun c hc => (h5 c).trans (h.2 c hc)⟩
theorem SavS_u {B B1 : MM} {S : Nat → Int32} (h : SavS B S) (h98 : ∀ c, B1 98 c = B 98 c) (h5 : B1 94 5 = B 94 5) : SavS B1 S := ⟨h5.trans h.1, fun c hc => (h98 c).trans (h.2 c hc)⟩
/-- what is known in the loop of changes -/
abbrev OS : Type := Nat × SBt × MM × MM × (Nat → Nat → Int32) × (Nat → Int64)
def OZ (t : Nat) (S : Nat → Int32) (j : Nat) (a : OS) : Prop := a.1 ≤ j ∧ InvP a.2.1 a.2.2.1 a.2.2.2.1 ∧ Dr a.2.2.2.1 t ∧ Gd (a.2.2.2.1 95) ∧ SavS a.2.2.2.1 S ∧ HK a.2.2.2.1 a.1 a.2.2.2.2.1 ∧ ∀ i, i < a.1 → DrR (a.2.2.2.2.1 i) t ∧ a.2.2.2.2.2 i = VA (cl (a.2.2.2.2.1 i)) t
def Oh (a : OS) : MH := jcat (Wc a.2.2.2.2.2) (HH a.2.1 Y0 a.2.2.1)
theorem OZ_no {t d : Nat} {S : Nat → Int32} {j : Nat} {b b1 : SBt} {A A1 B B1 : MM} {G : Nat → Nat → Int32} {w : Nat → Int64} (hz : OZ t S j (d, b, A, B, G, w)) (I : InvP b1 A1 B1) (hs : Same B B1) : OZ t S (j + 1) (d, b1, A1, B1, G, w) := by
  obtain ⟨z1, -, z3, z4, z5, z6, z7⟩ := hz
  exact ⟨Nat.le_succ_of_le z1, I, Dr_same hs z3, Gd_c z4 (fun c hc => hs.1 (10 + c) (by omega)), SavS_s z5 hs, HK_same z6 hs, z7⟩
theorem OZ_ok {t d : Nat} {S : Nat → Int32} {j : Nat} {b b1 : SBt} {A A1 B B1 : MM} {G : Nat → Nat → Int32} {w : Nat → Int64} (hz : OZ t S j (d, b, A, B, G, w)) (I : InvP b1 A1 B1) (hp : PushB B B1) (hk : Kp B B1) : OZ t S (j + 1) (d + 1, b1, A1, B1, fun i => if i = d then B 95 else G i, fun k => if k = d then VA (cn B) t else w k) := by
  obtain ⟨z1, -, z3, z4, z5, z6, z7⟩ := hz
  refine ⟨Nat.succ_le_succ z1, I, ⟨hk.1.trans z3.1, z3.2.1, by show ¬ B1 95 1 = 0; rw [hk.2.1]; exact z3.2.2⟩, hk.2.2 z4, SavS_p z5 hp, HK_push z6 hp, fun i hi => ?_⟩
  have hi : i < d + 1 := hi
  show DrR (if i = d then B 95 else G i) t ∧ (if i = d then VA (cn B) t else w i) = VA (cl (if i = d then B 95 else G i)) t
  by_cases c : i = d
  · rw [if_pos c, if_pos c]
    exact ⟨z3, rfl⟩
  · rw [if_neg c, if_neg c]
    exact z7 i (by show i < d; omega)
/-- what is known in the loop of steps back: u of them -/
abbrev OU : Type := SBt × MM × MM
def OUZ (t n k : Nat) (S : Nat → Int32) (G : Nat → Nat → Int32) (u : Nat) (a : OU) : Prop := InvP a.1 a.2.1 a.2.2 ∧ SavS a.2.2 S ∧ HU a.2.2 n (min 8 n) u k G
section JLW
variable {p : Program} {l : Launch} {e : Env} {s : State} {m : MethodId} {below : List Frame} {meth : Method} {c : Code} {D : va_G} {tyc : Nat → ClassId} {sb : Nat} {xs : Nat → Int32} {ad0 : Nat → Nat}
set_option maxHeartbeats 20000000 in
/-- a league is made; asked twice; refuses; is saved -/
theorem law_o1 {N : Nat} (hN : N < 1000) (X : LX p l s m meth c D tyc sb N xs) (KK : ∀ b A B t, InvP b A B → Dr B t → Gd (B 95) → SavS B (B 95) → LJ p l e s m below meth c D tyc sb ad0 701 [some (.retAddr sb), none, some (.ref 0), some (.long (VA (cn B) t)), none, some (.int (nI t)), none, none, none, none, none] [] (HH b Y0 A) 11000 180000) {h : MH} : LJ p l e s m below meth c D tyc sb ad0 633 [some (.retAddr sb), some (.ref 0), none, none, none, none, none, none, none, none, none] [] (h) 500 4700 := by
  obtain ⟨x, hr, hX, hb1, hb2⟩ := id X
  have hSc : j_scr sb N xs (fun q => s.heap.size ≤ q) s s.heap := ⟨hX, hb1, hb2⟩
  refine o_empty (L' := [some (.retAddr sb), none, none, none, none, none, none, none, none, none, none]) rfl rfl (fun i v hv => ?_) (fun v hv => ?_) ?_
  · match i, hv with
    | 0, hv => exact hv
    | 1, hv => cases hv
    | i + 2, hv => exact hv
  · simp only [List.mem_cons, Option.some.injEq, List.not_mem_nil, or_false, reduceCtorEq] at hv
    exact ⟨_, hv⟩
  refine j3_new x dL_law_633 jc_9 wcL_8 wt_LeagueTables wi_LeagueTables rfl rfl (by decide) (by decide) ?_
  refine j_dup x dL_law_636 rfl ?_
  refine j3_init x dL_law_637 m_X5_init (k_LT (d := 0)) wmL_288 (by decide) rfl (Nat.le_of_ble_eq_true rfl) (j_fit_room (by decide) (by decide) (by decide)) rfl ?_
  refine j_astore_n x dL_law_640 (by decide) rfl ?_
  refine j3_eq (b := b0) (Y := Y0) (M := M0) rfl rfl (by decide) F0_ok ?_
  refine j_widen (c2 := 600) (s2 := 8000) (by decide) (by decide) ?_
  refine j_aload_n x dL_law_641 rfl ?_
  refine j_aload_nR x dL_law_642 rfl ?_
  refine j_callSS x hSc dL_law_643 (c_makes (d := 0) (Y := Y0) hN InvP_0 rfl rfl rfl rfl (by unfold Gd; decide +kernel)) m_L_makes wmL_296 rfl (Nat.le_of_ble_eq_true rfl) (j_fit_room (by decide) (by omega) (by omega)) rfl (fun E k z => by obtain ⟨_, _, _, q, _⟩ := z; cases q) (fun v k z => ?_)
  obtain ⟨A, B, t, z1, rfl, I, Dd, -, hB9, hB5, hG⟩ := z
  cases z1
  refine j_if_ne (tgt := 651) x dL_law_646 (by decide) (fun hc => ?_) (fun hc => absurd hc (by decide))
  refine j_aload_n x dL_law_651 rfl ?_
  refine h_asks x (t := t) I Dd dL_law_652 wmL_273 (Nat.le_of_ble_eq_true rfl) (j_fit_room (by decide) (by omega) (by omega)) (fun b A I => ?_)
  refine j_lstore_n x dL_law_655 (by decide) rfl ?_
  refine j_aload_n x dL_law_656 rfl ?_
  refine h_asks x (t := t) I Dd dL_law_657 wmL_273 (Nat.le_of_ble_eq_true rfl) (j_fit_room (by decide) (by omega) (by omega)) (fun b A I => ?_)
  refine j_lload_n x dL_law_660 rfl ?_
  refine j_lcmp x dL_law_661 ?_
  refine j_top (lcmp_eq (rfl)) ?_
  refine j_if_ne (tgt := 672) x dL_law_662 (by decide) (fun hc => absurd hc (fun z => z rfl)) (fun hc => ?_)
  refine j_aload_n x dL_law_665 rfl ?_
  refine j_callS x dL_law_666 (c_refused (d := 0) (Y := Y0) I Dd hB9) m_L_refused wmL_300 rfl (Nat.le_of_ble_eq_true rfl) (j_fit_room (by decide) (by omega) (by omega)) rfl (fun E k z => by obtain ⟨_, _, _, q, _⟩ := z; cases q) (fun v k z => ?_)
  obtain ⟨b, A, B1, z1, rfl, I, hs1, -⟩ := z
  cases z1
  have Dd := Dr_same hs1 Dd
  have hG1 : Gd (B1 95) := Gd_c hG (fun c hc => hs1.1 (10 + c) (by omega))
  refine j_if_ne (tgt := 674) x dL_law_669 (by decide) (fun hc => ?_) (fun hc => absurd hc (by decide))
  refine j_aload_n x dL_law_674 rfl ?_
  refine j_callV x dL_law_675 (c_saveP (d := 0) (Y := Y0) I) m_X5_save wmL_293 jc_9 rfl (Nat.lt_of_lt_of_le (show 0 < 94 by decide) I.hb) rfl rfl (Nat.le_of_ble_eq_true rfl) (j_fit_room (by decide) (by omega) (by omega)) rfl (fun E k z => by obtain ⟨_, _, q, _⟩ := z; cases q) (fun v k z => ?_)
  obtain ⟨A, B2, z1, rfl, I, hsv⟩ := z
  cases z1
  refine j_top Dd.1 ?_
  have Dd : Dr B2 t := ⟨(hsv.1 0 (by omega)).trans Dd.1, Dd.2.1, by rw [hsv.1 1 (by omega)]; exact Dd.2.2⟩
  have eS : VA (cn B2) t = VA (cn B) t := by rw [cn_eq hsv.1, cn_eq hs1.1]
  refine j_istore x dL_law_678 (by decide) rfl ?_
  refine j_iload x dL_law_680 rfl ?_
  refine j_aload_n x dL_law_682 rfl ?_
  refine j_iconst (v := 0) x dL_law_683 (by decide) ?_
  refine q_call x I (Q_n0 (Y := Y0) I Dd) dL_law_684 m_L_account (by decide) wmL_172 rfl (Nat.le_of_ble_eq_true rfl) (fun mc ms z1 z2 => j_fit_room (by decide) (by omega) (by omega)) rfl (fun A I => ?_)
  refine j_icmp_ne (tgt := 699) x dL_law_687 (by decide) (fun hc => absurd hc (fun z => z rfl)) (fun hc => ?_)
  refine j_aload_n x dL_law_690 rfl ?_
  refine h_asks x (t := t) I Dd dL_law_691 wmL_273 (Nat.le_of_ble_eq_true rfl) (j_fit_room (by decide) (by omega) (by omega)) (fun b A I => ?_)
  refine j_lload_n x dL_law_694 rfl ?_
  refine j_lcmp x dL_law_695 ?_
  refine j_top (lcmp_eq (eS)) ?_
  refine j_if_eq (tgt := 701) x dL_law_696 (by decide) (fun hc => ?_) (fun hc => absurd (rfl) hc)
  have K9 := KK b A B2 t I Dd (Gd_c hG1 (fun c hc => hsv.1 (10 + c) (by omega))) ⟨hsv.2.2.2.2.1, fun c hc => (hsv.2.2.1 c hc).trans (hsv.1 c hc).symm⟩
  rw [eS] at K9
  exact j_locW (wk_c rfl (wk_n (wk_c rfl (wk_c rfl (wk_n (wk_c rfl (wk_n (wk_n (wk_n (wk_n (wk_n wk_0))))))))))) (j_widen (by omega) (by omega) K9)
set_option maxHeartbeats 20000000 in
/-- a row for what was answered; ten turns, each a change or none -/
theorem law_o2 {N : Nat} (hN : N < 1000) (X : LX p l s m meth c D tyc sb N xs) {b : SBt} {A B : MM} {t : Nat} (I : InvP b A B) (Dd : Dr B t) (hG : Gd (B 95)) (hS : SavS B (B 95)) (KK : ∀ a : OS, OZ t (B 95) 10 a → LJ p l e s m below meth c D tyc sb ad0 780 [some (.retAddr sb), none, some (.ref 1), some (.long (VA (cl (B 95)) t)), none, some (.int (nI t)), some (.ref 0), some (.int (nI a.1)), none, none, none] [] (Oh a) 37000 830000) : LJ p l e s m below meth c D tyc sb ad0 701 [some (.retAddr sb), none, some (.ref 0), some (.long (VA (cl (B 95)) t)), none, some (.int (nI t)), none, none, none, none, none] [] (HH b Y0 A) 11000 180000 := by
  obtain ⟨x, hr, hX, hb1, hb2⟩ := id X
  have hSc : j_scr sb N xs (fun q => s.heap.size ≤ q) s s.heap := ⟨hX, hb1, hb2⟩
  obtain ⟨S, eS⟩ : ∃ S, B 95 = S := ⟨_, rfl⟩
  rw [eS] at KK hS ⊢
  refine j_bipush (v := 11) x dL_law_701 (by decide) ?_
  refine j_newa_long (N := 11) x dL_law_703 wa_long (by decide) (by decide) (by decide) (by decide) (by decide) ?_
  refine o_view rfl I.ok (Nat.lt_of_lt_of_le (show 0 < 94 by decide) I.hb) ?_
  refine j_astore x dL_law_705 (by decide) rfl ?_
  refine j_iconst (v := 0) x dL_law_707 (by decide) ?_
  refine j_istore x dL_law_708 (by decide) rfl ?_
  refine j_iconst (v := 0) x dL_law_710 (by decide) ?_
  refine j_istore x dL_law_711 (by decide) rfl ?_
  refine o_loop 10 (fun j (a : OS) => [some (.retAddr sb), none, some (.ref 1), some (.long (VA (cl S) t)), none, some (.int (nI t)), some (.ref 0), some (.int (nI a.1)), some (.int (nI j)), none, none]) Oh (OZ t S) (0, b, A, B, fun _ _ => 0, fun _ => 0) 11001 180011 2500 60000 ⟨Nat.le_refl _, I, Dd, hG, hS, HK_0 I _, fun i hi => absurd hi (Nat.not_lt_zero i)⟩ (wk_c rfl (wk_n (wk_c rfl (wk_c rfl (wk_n (wk_c rfl (wk_c rfl (wk_c rfl (wk_c rfl (wk_n (wk_n wk_0))))))))))) rfl (by omega) (by omega) (fun j hj a hz kk => ?_) (fun a hz => ?_)
  · obtain ⟨d, b, A, B, G, w⟩ := a
    have hz9 := hz
    obtain ⟨z1, I, Dd, hG, z5, z6, z7⟩ := hz
    have z1 : d ≤ j := z1
    have I : InvP b A B := I
    have Dd : Dr B t := Dd
    have hG : Gd (B 95) := hG
    change LJ p l e s m below meth c D tyc sb ad0 713 [some (.retAddr sb), none, some (.ref 1), some (.long (VA (cl S) t)), none, some (.int (nI t)), some (.ref 0), some (.int (nI d)), some (.int (nI j)), none, none] [] (jcat (Wc w) (HH b Y0 A)) (11001 + j * 2500) (180011 + j * 60000)
    refine j_iload x dL_law_713 rfl ?_
    refine j_bipush (v := 10) x dL_law_715 (by decide) ?_
    refine j_icmp_ge (tgt := 780) x dL_law_717 (by decide) (fun hc => absurd hc ((nI_ge hj (by decide) : ¬ nI 10 ≤ nI j))) (fun _ => ?_)
    refine j_aload_n x dL_law_720 rfl ?_
    refine o_asks x (t := t) I Dd dL_law_721 wmL_273 (Nat.le_of_ble_eq_true rfl) (j_fit_room (by decide) (by omega) (by omega)) (fun b A I => ?_)
    refine j_lstore x dL_law_724 (by decide) rfl ?_
    refine j_aload_n x dL_law_726 rfl ?_
    refine j_aload_nR x dL_law_727 rfl ?_
    refine j_bipush (v := 20) x dL_law_728 (by decide) ?_
    refine j_iload x dL_law_730 rfl ?_
    refine j_iadd x dL_law_732 ?_
    refine j_top (show (20 : Int32) + nI j = nI (20 + j) from nI_add 20 j) ?_
    refine j_callSS x hSc dL_law_733 (c_atS (d := 0) (j := 20 + j) hN (by omega)) m_L_at wmL_161 rfl (Nat.le_of_ble_eq_true rfl) (j_fit_room (by decide) (by omega) (by omega)) rfl (fun E k z => by cases z.1) (fun v k z => ?_)
    obtain ⟨z1, rfl⟩ := z
    cases z1
    refine j_iload x dL_law_736 rfl ?_
    refine j_sipush (v := 977) x dL_law_738 (by decide) ?_
    refine j_imul x dL_law_741 ?_
    refine j_ixor x dL_law_742 ?_
    refine o_changes x (t := t) I Dd hG dL_law_743 wmL_304 (Nat.le_of_ble_eq_true rfl) (j_fit_room (by decide) (by omega) (by omega)) (fun y A2 B2 I2 hc => ?_)
    rcases hc with ⟨rfl, hs⟩ | ⟨rfl, hp, hk⟩
    · refine j_if_eq (tgt := 762) x dL_law_746 (by decide) (fun hc => ?_) (fun hc => absurd (rfl) hc)
      refine j_aload_n x dL_law_762 rfl ?_
      refine o_asks x (t := t) I2 (Dr_same hs Dd) dL_law_763 wmL_273 (Nat.le_of_ble_eq_true rfl) (j_fit_room (by decide) (by omega) (by omega)) (fun b A I => ?_)
      refine j_lload x dL_law_766 rfl ?_
      refine j_lcmp x dL_law_768 ?_
      refine j_top (lcmp_eq (by rw [cn_eq hs.1])) ?_
      refine j_if_eq (tgt := 774) x dL_law_769 (by decide) (fun hc => ?_) (fun hc => absurd (rfl) hc)
      refine j_iinc x dL_law_774 rfl (by decide) rfl ?_
      refine j_goto (tgt := 713) x dL_law_777 (by decide) ?_
      exact kk (d, b, A, B2, G, w) _ _ _ (OZ_no hz9 I hs) (wk_c rfl (wk_n (wk_c rfl (wk_c rfl (wk_n (wk_c rfl (wk_c rfl (wk_c rfl (wk_c (congrArg (fun z => some (Value.int z)) (nI_1 _)) (wk_n (wk_n wk_0))))))))))) (by omega) (by omega)
    · refine j_if_eq (tgt := 762) x dL_law_746 (by decide) (fun hc => absurd hc (by decide)) (fun hc => ?_)
      refine j_aload x dL_law_749 rfl ?_
      refine j_iload x dL_law_751 rfl ?_
      refine j_iinc x dL_law_753 rfl (by decide) rfl ?_
      refine j_lload x dL_law_756 rfl ?_
      refine o_last x dL_law_758 (by omega) ?_
      refine j_goto (tgt := 774) x dL_law_759 (by decide) ?_
      refine j_iinc x dL_law_774 rfl (by decide) rfl ?_
      refine j_goto (tgt := 713) x dL_law_777 (by decide) ?_
      exact kk (d + 1, b, A2, B2, fun i => if i = d then B 95 else G i, fun k => if k = d then VA (cn B) t else w k) _ _ _ (OZ_ok hz9 I2 hp hk) (wk_c rfl (wk_n (wk_c rfl (wk_c rfl (wk_n (wk_c rfl (wk_c rfl (wk_c (congrArg (fun z => some (Value.int z)) (nI_1 _)) (wk_c (congrArg (fun z => some (Value.int z)) (nI_1 _)) (wk_n (wk_n wk_0))))))))))) (by omega) (by omega)
  · refine j_iload x dL_law_713 rfl ?_
    refine j_bipush (v := 10) x dL_law_715 (by decide) ?_
    refine j_icmp_ge (tgt := 780) x dL_law_717 (by decide) (fun _ => ?_) (fun hc => absurd ((nI_le (Nat.le_refl 10) (by decide) : nI 10 ≤ nI 10)) hc)
    exact j_locW (wk_c rfl (wk_n (wk_c rfl (wk_c rfl (wk_n (wk_c rfl (wk_c rfl (wk_c rfl (wk_n (wk_n (wk_n wk_0))))))))))) (j_widen (by omega) (by omega) (KK a hz))
set_option maxHeartbeats 20000000 in
/-- the changes are taken back, the last first -/
theorem law_o3 {N : Nat} (X : LX p l s m meth c D tyc sb N xs) {t : Nat} {S : Nat → Int32} {a : OS} (hz : OZ t S 10 a) (KK : ∀ b A B w, InvP b A B → SavS B S → LJ p l e s m below meth c D tyc sb ad0 849 [some (.retAddr sb), none, some (.ref 1), some (.long (VA (cl S) t)), none, some (.int (nI t)), none, none, none, none, none] [] (jcat (Wc w) (HH b Y0 A)) 47000 1100000) : LJ p l e s m below meth c D tyc sb ad0 780 [some (.retAddr sb), none, some (.ref 1), some (.long (VA (cl S) t)), none, some (.int (nI t)), some (.ref 0), some (.int (nI a.1)), none, none, none] [] (Oh a) 37000 830000 := by
  obtain ⟨x, hr, hX, hb1, hb2⟩ := id X
  obtain ⟨n, b, A, B, G, w⟩ := a
  obtain ⟨z1, I, Dd, hG, z5, z6, z7⟩ := hz
  have z1 : n ≤ 10 := z1
  have I : InvP b A B := I
  have Dd : Dr B t := Dd
  have z7 : ∀ i, i < n → DrR (G i) t ∧ w i = VA (cl (G i)) t := z7
  obtain ⟨k, hU⟩ := HU_0 (show HK B n G from z6)
  rw [Nat.min_comm n 8] at hU
  change LJ p l e s m below meth c D tyc sb ad0 780 [some (.retAddr sb), none, some (.ref 1), some (.long (VA (cl S) t)), none, some (.int (nI t)), some (.ref 0), some (.int (nI n)), none, none, none] [] (jcat (Wc w) (HH b Y0 A)) 37000 830000
  refine j_bipush (v := 8) x dL_law_780 (by decide) ?_
  refine j_iload x dL_law_782 rfl ?_
  refine j_minR x wmath dL_law_784 wmL_308 (Nat.le_of_ble_eq_true rfl) (by decide) (by decide) ?_
  refine j_top (nI_min (by omega)) ?_
  refine j_istore x dL_law_787 (by decide) rfl ?_
  refine j_iconst (v := 1) x dL_law_789 (by decide) ?_
  refine j_istore x dL_law_790 (by decide) rfl ?_
  refine o_loop (min 8 n) (fun j (a : OU) => [some (.retAddr sb), none, some (.ref 1), some (.long (VA (cl S) t)), none, some (.int (nI t)), some (.ref 0), some (.int (nI n)), some (.int (nI (min 8 n))), some (.int (nI (j + 1))), none]) (fun a : OU => jcat (Wc w) (HH a.1 Y0 a.2.1)) (OUZ t n k S G) (b, A, B) 37000 830000 1100 30000 ⟨I, z5, hU⟩ (wk_c rfl (wk_n (wk_c rfl (wk_c rfl (wk_n (wk_c rfl (wk_c rfl (wk_c rfl (wk_c rfl (wk_c rfl (wk_n wk_0))))))))))) rfl (by omega) (by omega) (fun j hj a hz kk => ?_) (fun a hz => ?_)
  · obtain ⟨b, A, B⟩ := a
    obtain ⟨I, z5, hU⟩ := hz
    have I : InvP b A B := I
    have hU : HU B n (min 8 n) j k G := hU
    have hk8 : k ≤ 8 := hU.1
    have hkc : min 8 n ≤ k := hU.2.1
    obtain ⟨hD, hw⟩ := z7 (n - 1 - j) (by omega)
    change LJ p l e s m below meth c D tyc sb ad0 792 [some (.retAddr sb), none, some (.ref 1), some (.long (VA (cl S) t)), none, some (.int (nI t)), some (.ref 0), some (.int (nI n)), some (.int (nI (min 8 n))), some (.int (nI (j + 1))), none] [] (jcat (Wc w) (HH b Y0 A)) (37000 + j * 1100) (830000 + j * 30000)
    refine j_iload x dL_law_792 rfl ?_
    refine j_iload x dL_law_794 rfl ?_
    refine j_icmp_gt (tgt := 849) x dL_law_796 (by decide) (fun hc => absurd hc (nI_nlt (by omega) (by omega))) (fun _ => ?_)
    refine j_aload_n x dL_law_799 rfl ?_
    refine o_call x I (P_undo (Y := Y0) I hU hj) dL_law_800 m_L_undo wmL_289 (Nat.le_of_ble_eq_true rfl) (fun mc ms z1 z2 => j_fit_room (by decide) (by omega) (by omega)) (fun v A B1 I hc => ?_)
    obtain ⟨rfl, hU1, hrow, h98, h5⟩ := hc
    have D1 : Dr B1 t := Dr_row hrow hD.1 hD.2.1 hD.2.2
    refine j_istore x dL_law_803 (by decide) rfl ?_
    refine j_iload x dL_law_805 rfl ?_
    refine j_iload x dL_law_807 rfl ?_
    refine j_iload x dL_law_809 rfl ?_
    refine j_isub x dL_law_811 ?_
    refine j_top (show nI (min 8 n) - nI (j + 1) = nI (min 8 n - (j + 1)) from nI_sub (a := min 8 n) (d := j + 1) (by omega)) ?_
    refine j_icmp_lt (tgt := 841) x dL_law_812 (by decide) (fun hc => absurd hc (nI_nlt (by omega) (by omega))) (fun _ => ?_)
    refine j_iload x dL_law_815 rfl ?_
    refine j_bipush (v := 8) x dL_law_817 (by decide) ?_
    refine j_iload x dL_law_819 rfl ?_
    refine j_isub x dL_law_821 ?_
    refine j_top (show (8 : Int32) - nI (j + 1) = nI (8 - (j + 1)) from nI_sub (a := 8) (d := j + 1) (by omega)) ?_
    refine j_icmp_gt (tgt := 841) x dL_law_822 (by decide) (fun hc => absurd hc (nI_nlt (by omega) (by omega))) (fun _ => ?_)
    refine j_aload_n x dL_law_825 rfl ?_
    refine o_asks x (t := t) I D1 dL_law_826 wmL_273 (Nat.le_of_ble_eq_true rfl) (j_fit_room (by decide) (by omega) (by omega)) (fun b A I => ?_)
    refine j_aload x dL_law_829 rfl ?_
    refine j_iload x dL_law_831 rfl ?_
    refine j_iload x dL_law_833 rfl ?_
    refine j_isub x dL_law_835 ?_
    refine j_top (show nI n - nI (j + 1) = nI (n - (j + 1)) from nI_sub (a := n) (d := j + 1) (by omega)) ?_
    refine o_lald x dL_law_836 (by omega) ?_
    refine j_lcmp x dL_law_837 ?_
    refine j_top (lcmp_eq ((VA_row hrow).trans (hw.symm.trans (congrArg w (by omega))))) ?_
    refine j_if_eq (tgt := 843) x dL_law_838 (by decide) (fun hc => ?_) (fun hc => absurd (rfl) hc)
    refine j_iinc x dL_law_843 rfl (by decide) rfl ?_
    refine j_goto (tgt := 792) x dL_law_846 (by decide) ?_
    exact kk (b, A, B1) _ _ _ ⟨I, SavS_u z5 h98 h5, hU1⟩ (wk_c rfl (wk_n (wk_c rfl (wk_c rfl (wk_n (wk_c rfl (wk_c rfl (wk_c rfl (wk_c rfl (wk_c (congrArg (fun z => some (Value.int z)) (nI_1 _)) (wk_n wk_0))))))))))) (by omega) (by omega)
  · obtain ⟨b, A, B⟩ := a
    refine j_iload x dL_law_792 rfl ?_
    refine j_iload x dL_law_794 rfl ?_
    refine j_icmp_gt (tgt := 849) x dL_law_796 (by decide) (fun _ => ?_) (fun hc => absurd (nI_lt (Nat.lt_succ_self _) (by omega)) hc)
    exact j_locW (wk_c rfl (wk_n (wk_c rfl (wk_c rfl (wk_n (wk_c rfl (wk_n (wk_n (wk_n (wk_n (wk_n wk_0))))))))))) (j_widen (by omega) (by omega) (KK b A B w hz.1 hz.2.1))
set_option maxHeartbeats 20000000 in
/-- what was saved comes back, twice -/
theorem law_o4 {N : Nat} (X : LX p l s m meth c D tyc sb N xs) {t : Nat} {S : Nat → Int32} (hDS : DrR S t) {b : SBt} {A B : MM} {w : Nat → Int64} (I : InvP b A B) (hS : SavS B S) : LJ p l e s m below meth c D tyc sb ad0 849 [some (.retAddr sb), none, some (.ref 1), some (.long (VA (cl S) t)), none, some (.int (nI t)), none, none, none, none, none] [] (jcat (Wc w) (HH b Y0 A)) 47000 1100000 := by
  obtain ⟨x, hr, hX, hb1, hb2⟩ := id X
  refine j_aload_n x dL_law_849 rfl ?_
  refine o_call x I (PW_ok (Y := Y0) I hS.1) dL_law_850 m_L_restore wmL_291 (Nat.le_of_ble_eq_true rfl) (fun mc ms z1 z2 => j_fit_room (by decide) (by omega) (by omega)) (fun v A B1 I hc => ?_)
  obtain ⟨ey, hR1⟩ := hc
  refine j_top (ey.trans ((hS.2 0 (by omega)).trans hDS.1)) ?_
  have r1 : ∀ c, c < 466 → B1 95 c = S c := fun c hc => (hR1.1 c hc).trans (hS.2 c hc)
  have hS : SavS B1 S := SavS_u hS hR1.2.2.1 hR1.2.2.2.2
  have Dd : Dr B1 t := Dr_row r1 hDS.1 hDS.2.1 hDS.2.2
  refine j_iload x dL_law_853 rfl ?_
  refine j_icmp_ne (tgt := 899) x dL_law_855 (by decide) (fun hc => absurd hc (fun z => z rfl)) (fun hc => ?_)
  refine j_aload_n x dL_law_858 rfl ?_
  refine o_call x I (PU_no (Y := Y0) I hR1.2.2.2.1) dL_law_859 m_L_undo wmL_289 (Nat.le_of_ble_eq_true rfl) (fun mc ms z1 z2 => j_fit_room (by decide) (by omega) (by omega)) (fun v A B9 I9 hc => ?_)
  obtain ⟨rfl, rfl⟩ := hc
  have I := I9
  refine j_sipush (v := (-1001)) x dL_law_862 (by decide) ?_
  refine j_icmp_ne (tgt := 899) x dL_law_865 (by decide) (fun hc => absurd hc (fun z => z rfl)) (fun hc => ?_)
  refine j_aload_n x dL_law_868 rfl ?_
  refine o_asks x (t := t) I Dd dL_law_869 wmL_273 (Nat.le_of_ble_eq_true rfl) (j_fit_room (by decide) (by omega) (by omega)) (fun b A I => ?_)
  refine j_lload_n x dL_law_872 rfl ?_
  refine j_lcmp x dL_law_873 ?_
  refine j_top (lcmp_eq (VA_row r1)) ?_
  refine j_if_ne (tgt := 899) x dL_law_874 (by decide) (fun hc => absurd hc (fun z => z rfl)) (fun hc => ?_)
  refine j_aload_n x dL_law_877 rfl ?_
  refine o_call x I (PW_ok (Y := Y0) I hS.1) dL_law_878 m_L_restore wmL_291 (Nat.le_of_ble_eq_true rfl) (fun mc ms z1 z2 => j_fit_room (by decide) (by omega) (by omega)) (fun v A B2 I hc => ?_)
  obtain ⟨ey, hR2⟩ := hc
  refine j_top (ey.trans ((hS.2 0 (by omega)).trans hDS.1)) ?_
  have r2 : ∀ c, c < 466 → B2 95 c = S c := fun c hc => (hR2.1 c hc).trans (hS.2 c hc)
  have hS : SavS B2 S := SavS_u hS hR2.2.2.1 hR2.2.2.2.2
  have Dd : Dr B2 t := Dr_row r2 hDS.1 hDS.2.1 hDS.2.2
  refine j_iload x dL_law_881 rfl ?_
  refine j_icmp_ne (tgt := 899) x dL_law_883 (by decide) (fun hc => absurd hc (fun z => z rfl)) (fun hc => ?_)
  refine j_aload_n x dL_law_886 rfl ?_
  refine o_asks x (t := t) I Dd dL_law_887 wmL_273 (Nat.le_of_ble_eq_true rfl) (j_fit_room (by decide) (by omega) (by omega)) (fun b A I => ?_)
  refine j_lload_n x dL_law_890 rfl ?_
  refine j_lcmp x dL_law_891 ?_
  refine j_top (lcmp_eq (VA_row r2)) ?_
  refine j_if_ne (tgt := 899) x dL_law_892 (by decide) (fun hc => absurd hc (fun z => z rfl)) (fun hc => ?_)
  exact j_widen (c2 := 600390) (s2 := 7289640) (by omega) (by omega) (law_ret X (Nat.le_refl _) (Nat.le_refl _))
/-- the law, from its first instruction -/
theorem law_entry {N : Nat} (hN : N < 1000) (X : LX p l s m meth c D tyc sb N xs) : LJ p l e s m below meth c D tyc sb ad0 0 [some (.retAddr sb), none, none, none, none, none, none, none, none, none, none] [] (HS 0 fun _ _ => .null) 0 0 := by
  refine law_e1 X fun A B I h1 h2 h3 h4 => ?_
  refine law_e2 X I h1 h2 h3 h4 fun A B I h1 h2 h3 h4 => ?_
  refine law_e3 X I h1 h2 h3 h4 fun A B I hz => ?_
  refine law_e4 X I hz fun A B I hz => ?_
  refine law_e5 X I hz fun A B I hz => ?_
  refine law_e6 X I hz fun A B I hz => ?_
  refine law_e7 X I hz fun A B I hz => ?_
  refine law_e8 X I hz fun A B I _ => ?_
  refine law_o1 hN X fun b A B t I Dd hG hS => ?_
  refine law_o2 hN X I Dd hG hS fun a hz => ?_
  refine law_o3 X hz fun b A B w I hS => ?_
  exact law_o4 X Dd I hS
end JLW
