/-- before the first call both sides agree -/
theorem rel_0 : Rel M0 M0 := by
  refine ⟨fun _ => (0, false), 0, 0, by omega, by omega, by decide +kernel, by decide +kernel, by decide +kernel, ?_, fun i hi => absurd hi (Nat.not_lt_zero i), fun i hi => absurd hi (Nat.not_lt_zero i), (fun h => by cases h), Or.inl ⟨by decide +kernel, by decide +kernel⟩, ⟨0, by omega, by decide +kernel, by decide +kernel, fun i hi => absurd hi (Nat.not_lt_zero i)⟩, ⟨by decide +kernel, by decide +kernel, by decide +kernel, by decide +kernel, by decide +kernel, 0, by omega, by decide +kernel⟩⟩
  refine ⟨Nat.zero_le 8, by decide +kernel, by decide +kernel, fun i hi => ?_, (fun h => by cases h), by decide +kernel, by decide +kernel, by decide +kernel, ⟨0, fun _ => rfl, by decide +kernel, by decide +kernel, (fun h => by cases h)⟩, ⟨3, by omega, by decide +kernel, by decide +kernel⟩, ⟨1, by omega, by decide +kernel, by decide +kernel⟩, ⟨2, by omega, by decide +kernel, by decide +kernel, fun i hi => ?_⟩, fun m hm => absurd hm (Nat.not_lt_zero m)⟩
  · rcases (show i = 0 ∨ i = 1 ∨ i = 2 ∨ i = 3 ∨ i = 4 ∨ i = 5 ∨ i = 6 ∨ i = 7 by omega) with rfl | rfl | rfl | rfl | rfl | rfl | rfl | rfl <;> decide +kernel
  · rcases (show i = 0 ∨ i = 1 by omega) with rfl | rfl
    · exact ⟨by decide +kernel, Or.inl (by decide +kernel)⟩
    · exact ⟨by decide +kernel, Or.inr (Or.inl (by decide +kernel))⟩
theorem Inv_0 : Inv b0 M0 := by
  refine ⟨rel_0, hLen b0 93, 0, ⟨Or.inl rfl, by decide, by decide, rfl, by decide +kernel, fun k => ?_⟩, by decide +kernel, by decide +kernel, by omega, by omega⟩
  show fits .byte (.int (M0 93 k)) = true
  have e : M0 93 k = 0 := rfl
  rw [e]
  decide
section JLN
variable {p : Program} {l : Launch} {e : Env} {R : Room} {s : State} {m : MethodId} {args : Array Value} {below : List Frame} {meth : Method} {c : Code} {D : va_G} {tyc : Nat → ClassId} {A : Nat → Prop} {n0 : Nat} {ad0 : Nat → Nat} {nL : Nat} {Q : State → Prop}
variable {own : String} {cc : ByteArray} {pc : Nat} {L : List (Option Value)} {st : List Value} {n : Nat} {f : Nat → Nat → Value} {cells slots : Nat}
theorem j3_newa_long (x : j_X p l s m args meth c D tyc A own cc nL) {v : Int32} {N : Nat} (hd : decode cc pc = .ok (.newarray .long, 2)) (hv : ¬ v < 0) (hN1 : v.toNatClampNeg = N) (hsm : N * 8 ≤ 536870912) (ht : hT n = 104) (hn : hN n = N) (hc1 : cells + 1 ≤ R.cells) (hs1 : slots + N ≤ R.slots)
    (kk : JJ p l e R s m args below meth c D tyc A n0 ad0 nL Q (pc + 2) L (.ref n :: st) (HS (n + 1) (fz f n (.long 0))) (cells + 1) (slots + N)) : JJ p l e R s m args below meth c D tyc A n0 ad0 nL Q pc L (.int v :: st) (HS n f) cells slots := by
  refine j_newa_long x hd wa_long hv hN1 hsm hc1 hs1 ?_
  rw [HS_push ht hn]
  exact kk
theorem j3_newa_double (x : j_X p l s m args meth c D tyc A own cc nL) {v : Int32} {N : Nat} (hd : decode cc pc = .ok (.newarray .double, 2)) (hv : ¬ v < 0) (hN1 : v.toNatClampNeg = N) (hsm : N * 8 ≤ 536870912) (ht : hT n = 105) (hn : hN n = N) (hc1 : cells + 1 ≤ R.cells) (hs1 : slots + N ≤ R.slots)
    (kk : JJ p l e R s m args below meth c D tyc A n0 ad0 nL Q (pc + 2) L (.ref n :: st) (HS (n + 1) (fz f n (.double 0))) (cells + 1) (slots + N)) : JJ p l e R s m args below meth c D tyc A n0 ad0 nL Q pc L (.int v :: st) (HS n f) cells slots := by
  refine j_newa_double x hd wa_double hv hN1 hsm hc1 hs1 ?_
  rw [HS_push ht hn]
  exact kk
end JLN

section JLE
variable {p : Program} {l : Launch} {e : Env} {s : State} {m : MethodId} {below : List Frame} {meth : Method} {c : Code} {D : va_G} {tyc : Nat → ClassId} {sb : Nat} {xs : Nat → Int32} {ad0 : Nat → Nat}
theorem law_entry {N : Nat} (hN : N ≤ 2048) (X : LX p l s m meth c D tyc sb N xs) : LJ p l e s m below meth c D tyc sb ad0 0 [some (.retAddr sb), none, none, none, none, none, none, none, none] [] (HS 0 fun _ _ => .null) 0 0 := by
  obtain ⟨x, hr, hX, hb1, hb2⟩ := id X
  refine j3_new x dL_law_0 jc_9 wcL_8 wt_LeagueTables wi_LeagueTables rfl rfl (by decide) (by decide) ?_
  refine j_dup x dL_law_3 rfl ?_
  refine j3_init x dL_law_4 m_X5_init (k_LT (d := 0)) wmL_135 (by decide) rfl (Nat.le_of_ble_eq_true rfl) (j_fit_room (by decide) (by decide) (by decide)) rfl ?_
  refine j_astore_n x dL_law_7 (by decide) rfl ?_
  refine j3_new x dL_law_8 jc_10 wcL_136 wt_LeagueTablesModel wi_LeagueTablesModel rfl rfl (by decide) (by decide) ?_
  refine j_dup x dL_law_11 rfl ?_
  refine j3_init x dL_law_12 m_X6_init (k_Mo (d := 0)) wmL_138 (by decide) rfl (Nat.le_of_ble_eq_true rfl) (j_fit_room (by decide) (by decide) (by decide)) rfl ?_
  refine j_astore_n x dL_law_15 (by decide) rfl ?_
  refine j_iconst (v := 1) x dL_law_16 (by decide) ?_
  refine j3_newa_long (N := 1) x dL_law_17 (by decide) (by decide) (by decide) rfl rfl (by decide) (by decide) ?_
  refine j_astore_n x dL_law_19 (by decide) rfl ?_
  refine j_iconst (v := 1) x dL_law_20 (by decide) ?_
  refine j3_newa_double (N := 1) x dL_law_21 (by decide) (by decide) (by decide) rfl rfl (by decide) (by decide) ?_
  refine j_astore x dL_law_23 (by decide) rfl ?_
  refine j_iconst (v := 0) x dL_law_25 (by decide) ?_
  refine j_istore x dL_law_26 (by decide) rfl ?_
  refine j3_eq (b := b0) (Y := Y0) (M := M0) rfl rfl (by decide) F0_ok ?_
  exact law_loop hN X N 0 (by omega) (by omega) b0 Y0 M0 none none none 104 7864 Inv_0 (by omega) (by omega)
end JLE
/-- THE LAW, from its entry -/
theorem whole_start {p : Program} {e : Env} {s : State} {m : MethodId} {below : List Frame} {meth : Method} {c : Code} (l : Launch) (hflags : l.flags = flags0) {b L : Nat} {xs : Nat → Int32} (hL : L ≤ 2048) (C0 : lw_At p s m meth c b L xs) : W p l e room_1 s m #[Value.ref b] below meth c s.heap [] 0 0 (lw_Z below #[Value.ref b] s) (entryFrame m ([Value.ref b] : List Value).toArray 9) := by
  obtain ⟨hx, hb, hr, hml, hown, hts, hX, hbl, hlocks, hgv⟩ := id C0
  obtain ⟨D, tyc, hK⟩ := law_K hts
  have X : LX p l s m meth c D tyc b L xs := ⟨⟨hx, hb, hml, hown, ext_ok hts, hK, fun q h => h, hlocks, by simp [Launch.stackTraces, hflags, flags0], law_env hts hgv⟩, hr, hX, hbl, Nat.not_le.mpr hbl⟩
  have hl0 := lv_entry ([.ref b]) (n := 9) (Nat.le_of_ble_eq_true rfl)
  rw [lg_entry_eq]
  refine law_entry (ad0 := fun _ => 0) hL X (fun _ => 0) _ s.heap [] ⟨j_L.entry (as := [.retAddr b]) (Nat.le_of_ble_eq_true rfl) (fun v hv => ?_) hl0, fun k q hq => (by cases hq), ⟨fun i j u v hi => (by cases hi), fun k q hq => (by cases hq)⟩, va_S.rf, ⟨Nat.le_refl _, fun i hi => absurd hi (Nat.not_lt_zero i)⟩, fun i hi => absurd hi (Nat.not_lt_zero i), fun v hv => (by cases hv), fun v hv => ?_⟩
  · rcases List.mem_cons.mp hv with rfl | hv
    · rfl
    · cases hv
  · rcases List.mem_cons.mp hv with hv | hv
    · cases hv
      exact j_ok_raw
    · simp at hv
