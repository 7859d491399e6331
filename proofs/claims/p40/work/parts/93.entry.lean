/-! ===== the law, as the claim has it ===== -/
theorem whole_start {p : Program} {e : Env} {s : State} {m : MethodId} {below : List Frame} {meth : Method} {c : Code} (l : Launch) (hflags : l.flags = flags0) {b L : Nat} {xs : Nat → Int32} (hL : L ≤ 260) (C0 : lw_At p s m meth c b L xs) : W p l e room_1 s m #[Value.ref b] below meth c s.heap [] 0 0 (lw_Z below #[Value.ref b] s) (entryFrame m ([Value.ref b] : List Value).toArray 11) := by
  obtain ⟨hx, hb, hr, hml, hown, hts, hX, hbl, hlocks, hgv⟩ := id C0
  obtain ⟨D, tyc, hK⟩ := law_K hts
  have X : LX p l s m meth c D tyc b L xs := ⟨⟨hx, hb, hml, hown, ext_ok hts, hK, fun q h => h, hlocks, by simp [Launch.stackTraces, hflags, flags0], law_env hts hgv⟩, hr, hX, hbl, Nat.not_le.mpr hbl⟩
  have hl0 := lv_entry ([.ref b]) (n := 11) (Nat.le_of_ble_eq_true rfl)
  rw [lg_entry_eq]
  refine law_entry (ad0 := fun _ => 0) (Nat.lt_of_le_of_lt hL (by decide)) X (fun _ => 0) _ s.heap [] ⟨j_L.entry (as := [.retAddr b]) (Nat.le_of_ble_eq_true rfl) (fun v hv => ?_) hl0, fun k q hq => (by cases hq), ⟨fun i j u v hi => (by cases hi), fun k q hq => (by cases hq)⟩, va_S.rf, ⟨Nat.le_refl _, fun i hi => absurd hi (Nat.not_lt_zero i)⟩, fun i hi => absurd hi (Nat.not_lt_zero i), fun v hv => (by cases hv), fun v hv => ?_⟩
  · rcases List.mem_cons.mp hv with rfl | hv
    · rfl
    · cases hv
  · rcases List.mem_cons.mp hv with hv | hv
    · cases hv
      exact j_ok_raw
    · simp at hv
