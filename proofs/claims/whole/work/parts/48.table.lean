/-! ===== constructors ===== -/
theorem pfX1_9 : zPutF RX1 9 1 0 .int := ⟨RX1, TX1, 4, tyX1, rfl, by decide, ⟨by decide +kernel, rfl⟩, rfl, rfl, rfl, by decide +kernel, zlayX1, tyX1_ok, nmX1⟩
theorem pfX1_15 : zPutF RX1 15 1 1 .int := ⟨RX1, TX1, 4, tyX1, rfl, by decide, ⟨by decide +kernel, rfl⟩, rfl, rfl, rfl, by decide +kernel, zlayX1, tyX1_ok, nmX1⟩
theorem pfX1_18 : zPutF RX1 18 1 2 (.array .int) := ⟨RX1, TX1, 4, tyX1, rfl, by decide, ⟨by decide +kernel, rfl⟩, rfl, rfl, rfl, by decide +kernel, zlayX1, tyX1_ok, nmX1⟩
theorem zarI : zW (.arrayClass .int) := ⟨by decide +kernel, rfl⟩
theorem zarJ : zW (.arrayClass .long) := ⟨by decide +kernel, rfl⟩
