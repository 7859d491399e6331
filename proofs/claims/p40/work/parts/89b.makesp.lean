/-! ===== how the law makes a league: what holds in its loops ===== -/
section QTOP
variable {p : Program} {l : Launch} {e : Env} {R : Room} {s : State} {m : MethodId} {args : Array Value} {below : List Frame} {meth : Method} {c : Code} {D : va_G} {tyc : Nat → ClassId} {A0 : Nat → Prop} {n0 : Nat} {ad0 : Nat → Nat} {nL : Nat} {Qs : State → Prop}
variable {pc : Nat} {L : List (Option Value)} {st : List Value} {h : MH} {cells slots : Nat} {b : SBt} {Y : OUt} {A B : MM}
theorem j_top {v w : Int32} (e1 : v = w) (kk : JJ p l e R s m args below meth c D tyc A0 n0 ad0 nL Qs pc L (.int w :: st) h cells slots) : JJ p l e R s m args below meth c D tyc A0 n0 ad0 nL Qs pc L (.int v :: st) h cells slots := by
  rw [e1]; exact kk
/-- a loop that changes the league: Z holds of it -/
theorem c_loop (n : Nat) (Lf : Nat → List (Option Value)) (Z : Nat → MM → Prop) (cb sb K S : Nat) (I : InvP b A B) (hZ : Z 0 B) (h0 : wkL (Lf 0) L) (hc : cells ≤ cb) (hs : slots ≤ sb)
    (step : ∀ j, j < n → ∀ A B, InvP b A B → Z j B → (∀ A2 B2 L2 c2 s2, InvP b A2 B2 → Z (j + 1) B2 → wkL (Lf (j + 1)) L2 → c2 ≤ cb + (j + 1) * K → s2 ≤ sb + (j + 1) * S → JJ p l e R s m args below meth c D tyc A0 n0 ad0 nL Qs pc L2 st (HH b Y A2) c2 s2) → JJ p l e R s m args below meth c D tyc A0 n0 ad0 nL Qs pc (Lf j) st (HH b Y A) (cb + j * K) (sb + j * S))
    (last : ∀ A B, InvP b A B → Z n B → JJ p l e R s m args below meth c D tyc A0 n0 ad0 nL Qs pc (Lf n) st (HH b Y A) (cb + n * K) (sb + n * S)) : JJ p l e R s m args below meth c D tyc A0 n0 ad0 nL Qs pc L st (HH b Y A) cells slots := by
  refine j_loop n (fun j L h c1 s1 => ∃ A B, InvP b A B ∧ Z j B ∧ wkL (Lf j) L ∧ h = HH b Y A ∧ c1 ≤ cb + j * K ∧ s1 ≤ sb + j * S) ⟨A, B, I, hZ, h0, rfl, by rw [Nat.zero_mul]; exact hc, by rw [Nat.zero_mul]; exact hs⟩ (fun j hj L h c1 s1 hV kk => ?_) (fun L h c1 s1 hV => ?_)
  · obtain ⟨A, B, I, hZ, hw, rfl, h1, h2⟩ := hV
    exact j_locW hw (j_widen h1 h2 (step j hj A B I hZ fun A2 B2 L2 c2 s2 I2 z2 w2 e1 e2 => kk L2 _ c2 s2 ⟨A2, B2, I2, z2, w2, rfl, e1, e2⟩))
  · obtain ⟨A, B, I, hZ, hw, rfl, h1, h2⟩ := hV
    exact j_locW hw (j_widen h1 h2 (last A B I hZ))
end QTOP
theorem jof_cn {B : MM} {m k : Nat} (hm : m < 56) (hk : k < 8) : jof (cn B) m k = jof B m k := cn_95 (by omega)
theorem jhow_cn {B : MM} {m : Nat} (hm : m < 56) : jhow (cn B) m = jhow B m := by
  unfold jhow
  rw [jof_cn hm (by omega), jof_cn hm (by omega)]
theorem jhow_1 {t : Nat} {C : Nat → Nat → Int32} {B : MM} (hL : rL t true C (B 95)) {m : Nat} (hm : m < nn t true) : jhow B m = 1 ↔ jof B m 4 = 1 := by
  obtain ⟨-, -, -, -, ⟨w0, w1, -, -, -, -, h5⟩, -⟩ := hL.2.2.2.2.2.2.2.2.2.2.2.2 m hm
  unfold jhow
  by_cases c : jof B m 4 = 1
  · rw [if_pos c]; exact ⟨fun _ => c, fun _ => rfl⟩
  · rw [if_neg c]
    refine ⟨fun z => ?_, fun z => absurd z c⟩
    rw [show jof B m 5 = _ from h5] at z
    by_cases e : w0 = w1
    · rw [if_pos e] at z; exact absurd z (by decide)
    · rw [if_neg e] at z; exact absurd z (by decide)
theorem InvP.un {b : SBt} {A B : MM} (I : InvP b A B) (h : B 95 1 = 0) : ∃ t, rL t false (lgC A 1) (B 95) := by
  obtain ⟨t, dr, hL, -⟩ := I.now
  cases dr with
  | false => exact ⟨t, hL⟩
  | true =>
    have := wT_pos (hL.2.2.2.2.1 rfl)
    have h14 := wT_le hL.1
    exact absurd (hL.2.2.2.2.2.2.1.symm.trans h) (nI_ne0 (n := wT t) (by omega) (by omega))
theorem InvP.h9 {b : SBt} {A B : MM} (I : InvP b A B) {t : Nat} (D : Dr B t) : B 95 9 = nI (nn t true) ∧ nn t true ≤ 56 ∧ B 95 1 = nI (zz t true) ∧ 2 ≤ zz t true ∧ zz t true ≤ 14 := by
  have hL := (I.dr D).1
  exact ⟨hL.2.2.2.2.2.2.2.1, nn_le hL.1, hL.2.2.2.2.2.2.1, wT_pos (hL.2.2.2.2.1 rfl), zz_le hL.1⟩
/-! what refuses, of a drawn league -/
theorem gNo_in {b : SBt} {A B : MM} (I : InvP b A B) {t m : Nat} (D : Dr B t) (hm : m < nn t true) {q : Option (Int32 × Int32)} : gNo B (nI m) q = q := by
  obtain ⟨h1, h2, -⟩ := I.h9 D
  unfold gNo
  rw [if_neg D.2.2, h1, if_neg (fun z => z ((in_q2 h2).mpr ⟨m, hm, rfl⟩))]
theorem rRes_in {b : SBt} {A B : MM} (I : InvP b A B) {t m : Nat} (D : Dr B t) (hm : m < nn t true) {u v : Int32} : rRes A (nI m) u v = gRes B m u v := by
  have h := (I.h9 D).2.1
  rw [res_r (I.dr D).1 (I.dr D).2, gNo_in I D hm, nI_clamp (by omega)]
theorem rPut_in {b : SBt} {A B : MM} (I : InvP b A B) {t m : Nat} (D : Dr B t) (hm : m < nn t true) {u : Int32} : rPut A (nI m) u = gPut B m u := by
  have h := (I.h9 D).2.1
  rw [put_r (I.dr D).1 (I.dr D).2, gNo_in I D hm, nI_clamp (by omega)]
theorem rBack_in {b : SBt} {A B : MM} (I : InvP b A B) {t m : Nat} (D : Dr B t) (hm : m < nn t true) : rBack A (nI m) = gBack B m := by
  have h := (I.h9 D).2.1
  rw [back_r (I.dr D).1 (I.dr D).2, gNo_in I D hm, nI_clamp (by omega)]
/-! makes: teams, then week by week -/
/-- no ground is the law's sign of a refusal -/
def Gd (R : Nat → Int32) : Prop := ∀ c, c < 8 → ¬ R (10 + c) = -1001
theorem Gd_c {R R2 : Nat → Int32} (h : Gd R) (e : ∀ c, c < 8 → R2 (10 + c) = R (10 + c)) : Gd R2 := fun c hc => by rw [e c hc]; exact h c hc
def ZT (j : Nat) (B : MM) : Prop := B 95 0 = nI j ∧ B 95 1 = 0 ∧ B 94 9 = 0 ∧ B 94 5 = 0 ∧ Gd (B 95)
theorem mk_team {B B1 : MM} {q : Nat} {u : Int32} (hu : ¬ u = -1001) (h : ZT q B) (hO : OkB B B1 (jm (jm B 95 0 (nI (q + 1))) 95 (10 + q) u 95)) : ZT (q + 1) B1 := by
  obtain ⟨⟨k, -, -, -, -, -, h5⟩, h1, h2, -⟩ := hO
  refine ⟨?_, ?_, h2.trans h.2.2.1, h5.trans h.2.2.2.1, fun c hc => ?_⟩
  · rw [h1, jm_n (by omega), jm_s]
  · rw [h1, jm_n (by omega), jm_n (by omega)]; exact h.2.1
  · rw [h1]
    by_cases e : c = q
    · subst e; rw [jm_s]; exact hu
    · rw [jm_n (by omega), jm_n (by omega)]; exact h.2.2.2.2 c hc
def ZW (t w : Nat) (B : MM) : Prop := Dr B t ∧ 2 ≤ t ∧ B 95 2 = nI w ∧ B 94 9 = 0 ∧ B 94 5 = 0 ∧ Gd (B 95)
theorem mk_draw {b : SBt} {A B B1 : MM} (I : InvP b A B) {t : Nat} (h : ZT t B) (h2 : 2 ≤ t) (ht : t ≤ 8) (hO : OkB B B1 (gdw B t (wT t) 95)) : ZW t 0 B1 := by
  obtain ⟨⟨k, -, -, -, -, -, h5⟩, h1, h3, -⟩ := hO
  obtain ⟨t2, hL⟩ := I.un h.2.1
  obtain ⟨w, w1, -, w3, -⟩ := hL.2.2.2.2.2.2.2.2.1
  have := wT_pos h2
  have h14 := wT_le ht
  refine ⟨⟨?_, ht, ?_⟩, h2, ?_, h3.trans h.2.2.1, h5.trans h.2.2.2.1, Gd_c h.2.2.2.2 (fun c hc => by rw [h1, gdw_n (by omega)])⟩
  · rw [h1, gdw_n (by omega)]; exact h.1
  · rw [h1, gdw_1]
    exact nI_ne0 (n := wT t) (by omega) (by omega)
  · rw [h1, gdw_n (by omega), w3, w1 rfl]
theorem mk_weeks : ∀ n, n < 9 → 2 ≤ n → 2 * (nI n + (nI n - nI n / 2 * 2) - 1) = nI (wT n) := by decide +kernel
def ZM (t w m : Nat) (B : MM) : Prop := ZW t w B ∧ ∀ m', m' < m → jof B m' 2 = nI w → jof B m' 4 = 1
theorem ZM_0 {t w : Nat} {B : MM} (h : ZW t w B) : ZM t w 0 B := ⟨h, fun m' hm => absurd hm (Nat.not_lt_zero m')⟩
theorem mk_skip {t w m : Nat} {B : MM} (h : ZM t w m B) (hs : jof B m 2 = nI w → jof B m 4 = 1) : ZM t w (m + 1) B := ⟨h.1, fun m' hm => by
  by_cases e : m' = m
  · subst e; exact hs
  · exact h.2 m' (by omega)⟩
theorem ZW_same {t w : Nat} {B B1 : MM} (h : ZW t w B) (hs : Same B B1) (h9 : B1 94 9 = B 94 9) : ZW t w B1 := by
  obtain ⟨⟨d1, d2, d3⟩, h2, h3, h4, h5, h6⟩ := h
  exact ⟨⟨(hs.1 0 (by omega)).trans d1, d2, by rw [hs.1 1 (by omega)]; exact d3⟩, h2, (hs.1 2 (by omega)).trans h3, h9.trans h4, hs.2.2.2.2.trans h5, Gd_c h6 (fun c hc => hs.1 (10 + c) (by omega))⟩
theorem mk_same {t w m : Nat} {B B1 : MM} (h : ZM t w m B) (hm : m ≤ 56) (hs : Same B B1) (h9 : B1 94 9 = B 94 9) : ZM t w m B1 := ⟨ZW_same h.1 hs h9, fun m' hm' => by
  have e : ∀ k, k < 8 → jof B1 m' k = jof B m' k := fun k hk => hs.1 (18 + 8 * m' + k) (by omega)
  rw [e 2 (by omega), e 4 (by omega)]
  exact h.2 m' hm'⟩
theorem ZW_row {t w : Nat} {B B1 : MM} {R : Nat → Int32} (h : ZW t w B) (hO : OkB B B1 R) (h0 : R 0 = B 95 0) (h1 : R 1 = B 95 1) (hg : ∀ c, c < 8 → R (10 + c) = B 95 (10 + c)) {w2 : Nat} (h2 : R 2 = nI w2) : ZW t w2 B1 := by
  obtain ⟨⟨d1, d2, d3⟩, e2, e3, e4, e5, e6⟩ := h
  obtain ⟨⟨k, -, -, -, -, -, p5⟩, p1, p3, -⟩ := hO
  exact ⟨⟨by rw [p1, h0]; exact d1, d2, by rw [p1, h1]; exact d3⟩, e2, by rw [p1]; exact h2, p3.trans e4, p5.trans e5, Gd_c e6 (fun c hc => by rw [p1]; exact hg c hc)⟩
theorem mk_res {t w m : Nat} {B B1 : MM} {u v : Int32} (h : ZM t w m B) (hO : OkB B B1 (gResS B m u v 95)) : ZM t w (m + 1) B1 := by
  have hn : ∀ k, k < 18 → gResS B m u v 95 k = B 95 k := fun k hk => by unfold gResS; rw [jsets_n (by omega), jsets_n (by omega), jsets_n (by omega)]
  have hr : ∀ m' k, jof B1 m' k = jof (gResS B m u v) m' k := fun m' k => congrFun hO.2.1 _
  refine ⟨ZW_row h.1 hO (hn 0 (by omega)) (hn 1 (by omega)) (fun c hc => hn (10 + c) (by omega)) ((hn 2 (by omega)).trans h.1.2.2.1), fun m' hm hw => ?_⟩
  rw [hr] at hw ⊢
  unfold gResS at hw ⊢
  by_cases e : m' = m
  · subst e
    rw [jsets_of (by omega) (by omega) (by omega), jsets_of (by omega) (by omega) (by omega), jsets_s]
  · rw [jsets_of (by omega) (by omega) (by omega), jsets_of (by omega) (by omega) (by omega), jsets_of (by omega) (by omega) (by omega)] at hw ⊢
    exact h.2 m' (by omega) hw
theorem mk_put {t w m e : Nat} {B B1 : MM} (h : ZM t w m B) (h1 : 1 ≤ e) (he : e ≤ 9) (hw14 : w ≤ 14) (hO : OkB B B1 (gPutS B m (nI e) 95)) : ZM t w (m + 1) B1 := by
  have hn : ∀ k, k < 18 → gPutS B m (nI e) 95 k = B 95 k := fun k hk => by unfold gPutS; rw [jsets_n (by omega), jsets_n (by omega)]
  have hr : ∀ m' k, jof B1 m' k = jof (gPutS B m (nI e)) m' k := fun m' k => congrFun hO.2.1 _
  refine ⟨ZW_row h.1 hO (hn 0 (by omega)) (hn 1 (by omega)) (fun c hc => hn (10 + c) (by omega)) ((hn 2 (by omega)).trans h.1.2.2.1), fun m' hm hw => ?_⟩
  rw [hr] at hw ⊢
  unfold gPutS at hw ⊢
  by_cases c : m' = m
  · subst c
    rw [jsets_of (by omega) (by omega) (by omega), jsets_s, h.1.2.2.1, nI_add, nI_eq (by omega) (by omega)] at hw
    omega
  · rw [jsets_of (by omega) (by omega) (by omega), jsets_of (by omega) (by omega) (by omega)] at hw ⊢
    exact h.2 m' (by omega) hw
theorem mk_left {t w n : Nat} {B : MM} (h : ZM t w n B) : jfst (gLeft B) n = -1 := jfst_none fun i hi z => by
  have hp := jb_p1 z
  exact hp.2 (h.2 i hi (hp.1.trans h.1.2.2.1))
theorem mk_gnext {t w n z : Nat} {B : MM} (h : ZM t w n B) (h1 : B 95 1 = nI z) (hz : z ≤ 14) (hw : w + 1 < z) : gNext B n = none := by
  unfold gNext
  rw [if_neg (fun y => y (mk_left h)), h.1.2.2.1, h1, if_neg (fun y => by
    obtain ⟨k, rfl⟩ : ∃ k, z = k + 1 := ⟨z - 1, by omega⟩
    rw [nI_pred, nI_eq (by omega) (by omega)] at y
    omega)]
theorem mk_next {t w n : Nat} {B B1 : MM} (h : ZM t w n B) (hO : OkB B B1 (jm B 95 2 (B 95 2 + 1) 95)) : ZW t (w + 1) B1 := by
  refine ZW_row h.1 hO (jm_n (by omega)) (jm_n (by omega)) (fun c hc => jm_n (by omega)) ?_
  rw [jm_s, h.1.2.2.1, nI_1]
theorem mk_gres {t w m : Nat} {B : MM} (h : ZM t w m B) (h2 : jof B m 2 = nI w) (h4 : ¬ jof B m 4 = 1) {q1 q2 : Nat} (g1 : q1 < 4) (g2 : q2 < 4) : gRes B m (nI q1) (nI q2) = none := by
  unfold gRes
  rw [if_neg (fun z => z ⟨⟨nI_pos (by omega), nI_nlt (a := 20) (b := q1) (by omega) (by decide)⟩, nI_pos (by omega), nI_nlt (a := 20) (b := q2) (by omega) (by decide)⟩), if_neg h4, if_neg (fun z => z (h2.trans h.1.2.2.1.symm))]
