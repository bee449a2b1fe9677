theorem wX2_8 : jFw 2 8 := ⟨_, rfl, rfl, by decide +kernel, ⟨tyX2, tyX2_ok⟩, nmX2⟩
theorem wX4_3 : jFw 4 3 := ⟨_, rfl, rfl, by decide +kernel, ⟨tyX4, tyX4_ok⟩, nmX4⟩
theorem wX3_3 : jFw 3 3 := ⟨_, rfl, rfl, by decide +kernel, ⟨tyX3, tyX3_ok⟩, nmX3⟩
theorem wX8_2 : jFw 8 2 := ⟨_, rfl, rfl, by decide +kernel, ⟨tyX8, tyX8_ok⟩, nmX8⟩
theorem wX8_8 : jFw 8 8 := ⟨_, rfl, rfl, by decide +kernel, ⟨tyX8, tyX8_ok⟩, nmX8⟩
theorem wX8_14 : jFw 8 14 := ⟨_, rfl, rfl, by decide +kernel, ⟨tyX8, tyX8_ok⟩, nmX8⟩
theorem wX8_26 : jFw 8 26 := ⟨_, rfl, rfl, by decide +kernel, ⟨tyX8, tyX8_ok⟩, nmX8⟩
