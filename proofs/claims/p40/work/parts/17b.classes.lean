theorem jc_1 : j_cls 1 (RJ4, TJ4, 4) tyJ4 := ⟨rfl, by decide, by decide +kernel, tyJ4_ok, nmJ4⟩
theorem jc_4 : j_cls 4 (RX0, TX0, 7) tyX0 := ⟨rfl, by decide, by decide +kernel, tyX0_ok, nmX0⟩
theorem jc_5 : j_cls 5 (RX1, TX1, 3) tyX1 := ⟨rfl, by decide, by decide +kernel, tyX1_ok, nmX1⟩
theorem jc_6 : j_cls 6 (RX2, TX2, 11) tyX2 := ⟨rfl, by decide, by decide +kernel, tyX2_ok, nmX2⟩
theorem jc_7 : j_cls 7 (RX3, TX3, 12) tyX3 := ⟨rfl, by decide, by decide +kernel, tyX3_ok, nmX3⟩
theorem jc_8 : j_cls 8 (RX4, TX4, 8) tyX4 := ⟨rfl, by decide, by decide +kernel, tyX4_ok, nmX4⟩
theorem jc_9 : j_cls 9 (RX5, TX5, 14) tyX5 := ⟨rfl, by decide, by decide +kernel, tyX5_ok, nmX5⟩
