section JLN
variable {p : Program} {l : Launch} {e : Env} {R : Room} {s : State} {m : MethodId} {args : Array Value} {below : List Frame} {meth : Method} {c : Code} {D : va_G} {tyc : Nat → ClassId} {A : Nat → Prop} {n0 : Nat} {ad0 : Nat → Nat} {nL : Nat} {Q : State → Prop}
variable {own : String} {cc : ByteArray} {pc : Nat} {L : List (Option Value)} {st : List Value} {n : Nat} {f : Nat → Nat → Value} {cells slots : Nat}
theorem j3_newa_long (x : j_X p l s m args meth c D tyc A own cc nL) {v : Int32} {N : Nat} (hd : decode cc pc = .ok (.newarray .long, 2)) (hv : ¬ v < 0) (hN1 : v.toNatClampNeg = N) (hsm : N * 8 ≤ 536870912) (ht : hT n = 104) (hn : hN n = N) (hc1 : cells + 1 ≤ R.cells) (hs1 : slots + N ≤ R.slots)
    (kk : JJ p l e R s m args below meth c D tyc A n0 ad0 nL Q (pc + 2) L (.ref n :: st) (HS (n + 1) (fz f n (.long 0))) (cells + 1) (slots + N)) : JJ p l e R s m args below meth c D tyc A n0 ad0 nL Q pc L (.int v :: st) (HS n f) cells slots := by
  refine j_newa_long x hd wa_long hv hN1 hsm hc1 hs1 ?_
  rw [HS_push ht hn]
  exact kk
theorem j3_newa_double (x : j_X p l s m args meth c D tyc A own cc nL) {v : Int32} {N : Nat} (hd : decode cc pc = .ok (.newarray .double, 2)) (hv : ¬ v < 0) (hN1 : v.toNatClampNeg = N) (hsm : N * 8 ≤ 536870912) (ht : hT n = 105) (hn : hN n = N) (hc1 : cells + 1 ≤ R.cells) (hs1 : slots + N ≤ R.slots)
    (kk : JJ p l e R s m args below meth c D tyc A n0 ad0 nL Q (pc + 2) L (.ref n :: st) (HS (n + 1) (fz f n (.double 0))) (cells + 1) (slots + N)) : JJ p l e R s m args below meth c D tyc A n0 ad0 nL Q pc L (.int v :: st) (HS n f) cells slots := by
  refine j_newa_double x hd wa_double hv hN1 hsm hc1 hs1 ?_
  rw [HS_push ht hn]
  exact kk
end JLN

section JLE
variable {p : Program} {l : Launch} {e : Env} {s : State} {m : MethodId} {below : List Frame} {meth : Method} {c : Code} {D : va_G} {tyc : Nat → ClassId} {sb : Nat} {xs : Nat → Int32} {ad0 : Nat → Nat}
theorem law_switch (X : LX p l s m meth c D tyc sb 4 xs) : LJ p l e s m below meth c D tyc sb ad0 28 [some (.retAddr sb), some (.ref 0), some (.ref 94), some (.ref 102), some (.ref 103), some (.int 0), none, none, none] [] (HH b0 Y0 M0) 104 7864 := by
  obtain ⟨x, hr, hX, hb1, hb2⟩ := id X
  refine j_iload x dL_law_28 rfl ?_
  refine j_aload_nR x dL_law_30 rfl ?_
  refine j_slen x hX hb1 hb2 dL_law_31 ?_
  refine j_iconst (v := 4) x dL_law_32 (by decide) ?_
  refine j_isub x dL_law_33 ?_
  refine j_icmp_gt (tgt := 2307) x dL_law_34 (by decide) (fun h9 => absurd h9 (by decide)) (fun h9 => ?_)
  refine j_aload_nR x dL_law_37 rfl ?_
  refine j_iload x dL_law_38 rfl ?_
  refine j_sld (j := 0) x hX hb1 hb2 dL_law_40 (vp_c (by decide)) (by decide) ?_
  refine j_bipush (v := 63) x dL_law_41 (by decide) ?_
  refine j_iand x dL_law_43 ?_
  by_cases hd : (xs 0 &&& 63).toInt < 0 ∨ 36 < (xs 0 &&& 63).toInt
  · refine j_tableOut (tgt := 2301) x dL_law_44 hd (by decide) ?_
    exact law_end X (by decide) (by decide)
  · rcases (show (xs 0 &&& 63).toInt = 0 ∨ (xs 0 &&& 63).toInt = 1 ∨ (xs 0 &&& 63).toInt = 2 ∨ (xs 0 &&& 63).toInt = 3 ∨ (xs 0 &&& 63).toInt = 4 ∨ (xs 0 &&& 63).toInt = 5 ∨ (xs 0 &&& 63).toInt = 6 ∨ (xs 0 &&& 63).toInt = 7 ∨ (xs 0 &&& 63).toInt = 8 ∨ (xs 0 &&& 63).toInt = 9 ∨ (xs 0 &&& 63).toInt = 10 ∨ (xs 0 &&& 63).toInt = 11 ∨ (xs 0 &&& 63).toInt = 12 ∨ (xs 0 &&& 63).toInt = 13 ∨ (xs 0 &&& 63).toInt = 14 ∨ (xs 0 &&& 63).toInt = 15 ∨ (xs 0 &&& 63).toInt = 16 ∨ (xs 0 &&& 63).toInt = 17 ∨ (xs 0 &&& 63).toInt = 18 ∨ (xs 0 &&& 63).toInt = 19 ∨ (xs 0 &&& 63).toInt = 20 ∨ (xs 0 &&& 63).toInt = 21 ∨ (xs 0 &&& 63).toInt = 22 ∨ (xs 0 &&& 63).toInt = 23 ∨ (xs 0 &&& 63).toInt = 24 ∨ (xs 0 &&& 63).toInt = 25 ∨ (xs 0 &&& 63).toInt = 26 ∨ (xs 0 &&& 63).toInt = 27 ∨ (xs 0 &&& 63).toInt = 28 ∨ (xs 0 &&& 63).toInt = 29 ∨ (xs 0 &&& 63).toInt = 30 ∨ (xs 0 &&& 63).toInt = 31 ∨ (xs 0 &&& 63).toInt = 32 ∨ (xs 0 &&& 63).toInt = 33 ∨ (xs 0 &&& 63).toInt = 34 ∨ (xs 0 &&& 63).toInt = 35 ∨ (xs 0 &&& 63).toInt = 36 by omega) with h1 | h1 | h1 | h1 | h1 | h1 | h1 | h1 | h1 | h1 | h1 | h1 | h1 | h1 | h1 | h1 | h1 | h1 | h1 | h1 | h1 | h1 | h1 | h1 | h1 | h1 | h1 | h1 | h1 | h1 | h1 | h1 | h1 | h1 | h1 | h1 | h1
    · exact j_tableIn (off := 164) (tgt := 208) x dL_law_44 (by omega) (by omega) (by rw [h1]; rfl) (by decide) (law_case_0 X)
    · exact j_tableIn (off := 220) (tgt := 264) x dL_law_44 (by omega) (by omega) (by rw [h1]; rfl) (by decide) (law_case_1 X)
    · exact j_tableIn (off := 288) (tgt := 332) x dL_law_44 (by omega) (by omega) (by rw [h1]; rfl) (by decide) (law_case_2 X)
    · exact j_tableIn (off := 332) (tgt := 376) x dL_law_44 (by omega) (by omega) (by rw [h1]; rfl) (by decide) (law_case_3 X)
    · exact j_tableIn (off := 400) (tgt := 444) x dL_law_44 (by omega) (by omega) (by rw [h1]; rfl) (by decide) (law_case_4 X)
    · exact j_tableIn (off := 480) (tgt := 524) x dL_law_44 (by omega) (by omega) (by rw [h1]; rfl) (by decide) (law_case_5 X)
    · exact j_tableIn (off := 560) (tgt := 604) x dL_law_44 (by omega) (by omega) (by rw [h1]; rfl) (by decide) (law_case_6 X)
    · exact j_tableIn (off := 616) (tgt := 660) x dL_law_44 (by omega) (by omega) (by rw [h1]; rfl) (by decide) (law_case_7 X)
    · exact j_tableIn (off := 684) (tgt := 728) x dL_law_44 (by omega) (by omega) (by rw [h1]; rfl) (by decide) (law_case_8 X)
    · exact j_tableIn (off := 728) (tgt := 772) x dL_law_44 (by omega) (by omega) (by rw [h1]; rfl) (by decide) (law_case_9 X)
    · exact j_tableIn (off := 796) (tgt := 840) x dL_law_44 (by omega) (by omega) (by rw [h1]; rfl) (by decide) (law_case_10 X)
    · exact j_tableIn (off := 852) (tgt := 896) x dL_law_44 (by omega) (by omega) (by rw [h1]; rfl) (by decide) (law_case_11 X)
    · exact j_tableIn (off := 920) (tgt := 964) x dL_law_44 (by omega) (by omega) (by rw [h1]; rfl) (by decide) (law_case_12 X)
    · exact j_tableIn (off := 988) (tgt := 1032) x dL_law_44 (by omega) (by omega) (by rw [h1]; rfl) (by decide) (law_case_13 X)
    · exact j_tableIn (off := 1044) (tgt := 1088) x dL_law_44 (by omega) (by omega) (by rw [h1]; rfl) (by decide) (law_case_14 X)
    · exact j_tableIn (off := 1100) (tgt := 1144) x dL_law_44 (by omega) (by omega) (by rw [h1]; rfl) (by decide) (law_case_15 X)
    · exact j_tableIn (off := 1156) (tgt := 1200) x dL_law_44 (by omega) (by omega) (by rw [h1]; rfl) (by decide) (law_case_16 X)
    · exact j_tableIn (off := 1212) (tgt := 1256) x dL_law_44 (by omega) (by omega) (by rw [h1]; rfl) (by decide) (law_case_17 X)
    · exact j_tableIn (off := 1268) (tgt := 1312) x dL_law_44 (by omega) (by omega) (by rw [h1]; rfl) (by decide) (law_case_18 X)
    · exact j_tableIn (off := 1324) (tgt := 1368) x dL_law_44 (by omega) (by omega) (by rw [h1]; rfl) (by decide) (law_case_19 X)
    · exact j_tableIn (off := 1392) (tgt := 1436) x dL_law_44 (by omega) (by omega) (by rw [h1]; rfl) (by decide) (law_case_20 X)
    · exact j_tableIn (off := 1448) (tgt := 1492) x dL_law_44 (by omega) (by omega) (by rw [h1]; rfl) (by decide) (law_case_21 X)
    · exact j_tableIn (off := 1504) (tgt := 1548) x dL_law_44 (by omega) (by omega) (by rw [h1]; rfl) (by decide) (law_case_22 X)
    · exact j_tableIn (off := 1567) (tgt := 1611) x dL_law_44 (by omega) (by omega) (by rw [h1]; rfl) (by decide) (law_case_23 X)
    · exact j_tableIn (off := 1630) (tgt := 1674) x dL_law_44 (by omega) (by omega) (by rw [h1]; rfl) (by decide) (law_case_24 X)
    · exact j_tableIn (off := 1686) (tgt := 1730) x dL_law_44 (by omega) (by omega) (by rw [h1]; rfl) (by decide) (law_case_25 X)
    · exact j_tableIn (off := 1744) (tgt := 1788) x dL_law_44 (by omega) (by omega) (by rw [h1]; rfl) (by decide) (law_case_26 X)
    · exact j_tableIn (off := 1788) (tgt := 1832) x dL_law_44 (by omega) (by omega) (by rw [h1]; rfl) (by decide) (law_case_27 X)
    · exact j_tableIn (off := 1801) (tgt := 1845) x dL_law_44 (by omega) (by omega) (by rw [h1]; rfl) (by decide) (law_case_28 X)
    · exact j_tableIn (off := 1857) (tgt := 1901) x dL_law_44 (by omega) (by omega) (by rw [h1]; rfl) (by decide) (law_case_29 X)
    · exact j_tableIn (off := 1913) (tgt := 1957) x dL_law_44 (by omega) (by omega) (by rw [h1]; rfl) (by decide) (law_case_30 X)
    · exact j_tableIn (off := 1969) (tgt := 2013) x dL_law_44 (by omega) (by omega) (by rw [h1]; rfl) (by decide) (law_case_31 X)
    · exact j_tableIn (off := 2035) (tgt := 2079) x dL_law_44 (by omega) (by omega) (by rw [h1]; rfl) (by decide) (law_case_32 X)
    · exact j_tableIn (off := 2100) (tgt := 2144) x dL_law_44 (by omega) (by omega) (by rw [h1]; rfl) (by decide) (law_case_33 X)
    · exact j_tableIn (off := 2156) (tgt := 2200) x dL_law_44 (by omega) (by omega) (by rw [h1]; rfl) (by decide) (law_case_34 X)
    · exact j_tableIn (off := 2200) (tgt := 2244) x dL_law_44 (by omega) (by omega) (by rw [h1]; rfl) (by decide) (law_case_35 X)
    · exact j_tableIn (off := 2213) (tgt := 2257) x dL_law_44 (by omega) (by omega) (by rw [h1]; rfl) (by decide) (law_case_36 X)
theorem law_loop {N : Nat} (hN : N ≤ 4) (X : LX p l s m meth c D tyc sb N xs) : LJ p l e s m below meth c D tyc sb ad0 28 [some (.retAddr sb), some (.ref 0), some (.ref 94), some (.ref 102), some (.ref 103), some (.int 0), none, none, none] [] (HH b0 Y0 M0) 104 7864 := by
  by_cases h4 : N = 4
  · subst h4
    exact law_switch X
  · obtain ⟨x, hr, hX, hb1, hb2⟩ := id X
    refine j_iload x dL_law_28 rfl ?_
    refine j_aload_nR x dL_law_30 rfl ?_
    refine j_slen x hX hb1 hb2 dL_law_31 ?_
    refine j_iconst (v := 4) x dL_law_32 (by decide) ?_
    refine j_isub x dL_law_33 ?_
    have hlt : Int32.ofNat N - 4 < 0 := by
      rcases (show N = 0 ∨ N = 1 ∨ N = 2 ∨ N = 3 by omega) with rfl | rfl | rfl | rfl <;> decide
    refine j_icmp_gt (tgt := 2307) x dL_law_34 (by decide) (fun h9 => ?_) (fun h9 => absurd hlt h9)
    exact law_ret X (by decide) (by decide)
theorem law_entry {N : Nat} (hN : N ≤ 4) (X : LX p l s m meth c D tyc sb N xs) : LJ p l e s m below meth c D tyc sb ad0 0 [some (.retAddr sb), none, none, none, none, none, none, none, none] [] (HS 0 fun _ _ => .null) 0 0 := by
  obtain ⟨x, hr, hX, hb1, hb2⟩ := id X
  refine j3_new x dL_law_0 jc_9 wcL_8 wt_LeagueTables wi_LeagueTables rfl rfl (by decide) (by decide) ?_
  refine j_dup x dL_law_3 rfl ?_
  refine j3_init x dL_law_4 m_X5_init (k_LT (d := 0)) wmL_135 (by decide) rfl (Nat.le_of_ble_eq_true rfl) (j_fit_room (by decide) (by decide) (by decide)) rfl ?_
  refine j_astore_n x dL_law_7 (by decide) rfl ?_
  refine j3_new x dL_law_8 jc_10 wcL_136 wt_LeagueTablesModel wi_LeagueTablesModel rfl rfl (by decide) (by decide) ?_
  refine j_dup x dL_law_11 rfl ?_
  refine j3_init x dL_law_12 m_X6_init (k_Mo (d := 0)) wmL_138 (by decide) rfl (Nat.le_of_ble_eq_true rfl) (j_fit_room (by decide) (by decide) (by decide)) rfl ?_
  refine j_astore_n x dL_law_15 (by decide) rfl ?_
  refine j_iconst (v := 1) x dL_law_16 (by decide) ?_
  refine j3_newa_long (N := 1) x dL_law_17 (by decide) (by decide) (by decide) rfl rfl (by decide) (by decide) ?_
  refine j_astore_n x dL_law_19 (by decide) rfl ?_
  refine j_iconst (v := 1) x dL_law_20 (by decide) ?_
  refine j3_newa_double (N := 1) x dL_law_21 (by decide) (by decide) (by decide) rfl rfl (by decide) (by decide) ?_
  refine j_astore x dL_law_23 (by decide) rfl ?_
  refine j_iconst (v := 0) x dL_law_25 (by decide) ?_
  refine j_istore x dL_law_26 (by decide) rfl ?_
  refine j3_eq (b := b0) (Y := Y0) (M := M0) rfl rfl (by decide) F0_ok ?_
  exact law_loop hN X
end JLE
/-- THE LAW, from its entry -/
theorem whole_start {p : Program} {e : Env} {s : State} {m : MethodId} {below : List Frame} {meth : Method} {c : Code} (l : Launch) (hflags : l.flags = flags0) {b L : Nat} {xs : Nat → Int32} (hL : L ≤ 4) (C0 : lw_At p s m meth c b L xs) : W p l e room_1 s m #[Value.ref b] below meth c s.heap [] 0 0 (lw_Z below #[Value.ref b] s) (entryFrame m ([Value.ref b] : List Value).toArray 9) := by
  obtain ⟨hx, hb, hr, hml, hown, hts, hX, hbl, hlocks, hgv⟩ := id C0
  obtain ⟨D, tyc, hK⟩ := law_K hts
  have X : LX p l s m meth c D tyc b L xs := ⟨⟨hx, hb, hml, hown, fun w hw => hts w (List.mem_filter.mp hw).1, hK, fun q h => h, hlocks, by simp [Launch.stackTraces, hflags, flags0], law_env hts hgv⟩, hr, hX, hbl, Nat.not_le.mpr hbl⟩
  have hl0 := lv_entry ([.ref b]) (n := 9) (Nat.le_of_ble_eq_true rfl)
  rw [lg_entry_eq]
  refine law_entry (ad0 := fun _ => 0) hL X (fun _ => 0) _ s.heap [] ⟨j_L.entry (as := [.retAddr b]) (Nat.le_of_ble_eq_true rfl) (fun v hv => ?_) hl0, fun k q hq => (by cases hq), ⟨fun i j u v hi => (by cases hi), fun k q hq => (by cases hq)⟩, va_S.rf, ⟨Nat.le_refl _, fun i hi => absurd hi (Nat.not_lt_zero i)⟩, fun i hi => absurd hi (Nat.not_lt_zero i), fun v hv => (by cases hv), fun v hv => ?_⟩
  · rcases List.mem_cons.mp hv with rfl | hv
    · rfl
    · cases hv
  · rcases List.mem_cons.mp hv with hv | hv
    · cases hv
      exact j_ok_raw
    · simp at hv
