theorem th_X8_78_82 : ThOK RX8 78 82 1 := ⟨by decide, by decide +kernel, inGi 424 (by decide +kernel) rfl, inGi 92 (by decide +kernel) rfl, by decide +kernel, by decide +kernel⟩
theorem th_X8_89_93 : ThOK RX8 89 93 2 := ⟨by decide, by decide +kernel, inGi 500 (by decide +kernel) rfl, inGi 93 (by decide +kernel) rfl, by decide +kernel, by decide +kernel⟩
theorem th_X8_156_160 : ThOK RX8 156 160 3 := ⟨by decide, by decide +kernel, inGi 873 (by decide +kernel) rfl, inGi 102 (by decide +kernel) rfl, by decide +kernel, by decide +kernel⟩
theorem th_X8_258_262 : ThOK RX8 258 262 5 := ⟨by decide, by decide +kernel, inGi 1096 (by decide +kernel) rfl, inGi 105 (by decide +kernel) rfl, by decide +kernel, by decide +kernel⟩
theorem th_X8_333_337 : ThOK RX8 333 337 6 := ⟨by decide, by decide +kernel, inGi 1322 (by decide +kernel) rfl, inGi 108 (by decide +kernel) rfl, by decide +kernel, by decide +kernel⟩
