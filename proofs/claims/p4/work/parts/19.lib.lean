/-! ===== words of the library ===== -/
theorem mj_min : mOk Lib.Math.min.name Lib.Math.min.code 2 := ⟨(inC3 (i := 114) (by decide +kernel) rfl), (inC1 (i := 12) (by decide +kernel) rfl), (inC3 (i := 115) (by decide +kernel) rfl)⟩
theorem mj_max : mOk Lib.Math.max.name Lib.Math.max.code 2 := ⟨(inC2 (i := 207) (by decide +kernel) rfl), (inC1 (i := 12) (by decide +kernel) rfl), (inC2 (i := 208) (by decide +kernel) rfl)⟩
theorem mj_abs : mOk Lib.Math.abs.name Lib.Math.abs.code 1 := ⟨(inC8 (i := 127) (by decide +kernel) rfl), (inC1 (i := 12) (by decide +kernel) rfl), (inC8 (i := 128) (by decide +kernel) rfl)⟩
theorem oi_1 : inT (.instanceMethod Lib.objectInit) := (inC1 (i := 36) (by decide +kernel) rfl)
theorem oi_2 : inT (.code Lib.objectInit ⟨#[0xb1]⟩ 1 none) := (inC1 (i := 37) (by decide +kernel) rfl)
theorem ac_1 : inT (.native arraycopyName) ∧ inT (.static arraycopyName) ∧ inT (.initialized "java/lang/System") := ⟨(inC3 (i := 118) (by decide +kernel) rfl), (inC3 (i := 117) (by decide +kernel) rfl), (inC1 (i := 13) (by decide +kernel) rfl)⟩
theorem kJ6_265 : inT (.constant RJ6 265 1431655765) := (inC3 (i := 1) (by decide +kernel) rfl)
theorem kJ6_266 : inT (.constant RJ6 266 858993459) := (inC3 (i := 2) (by decide +kernel) rfl)
theorem kJ6_267 : inT (.constant RJ6 267 252645135) := (inC3 (i := 3) (by decide +kernel) rfl)
theorem kX5_148 : inT (.constant RX5 148 1103515245) := (inC3 (i := 131) (by decide +kernel) rfl)
theorem kX0_113 : inT (.constantLong RX0 113 10000) := (inC6 (i := 182) (by decide +kernel) rfl)
theorem kX12_77 : inT (.constant RX12 77 1103515245) := (inC9 (i := 21) (by decide +kernel) rfl)
theorem kX12_401 : inT (.constant RX12 401 1000000) := (inC9 (i := 65) (by decide +kernel) rfl)
theorem kX12_454 : inT (.constantLong RX12 454 100) := (inC9 (i := 233) (by decide +kernel) rfl)
theorem kX12_456 : inT (.constantLong RX12 456 10000) := (inC9 (i := 234) (by decide +kernel) rfl)
theorem ar_int : inT (.arrayClass .int) := (inC1 (i := 107) (by decide +kernel) rfl)
theorem ar_byte : inT (.arrayClass .byte) := (inC1 (i := 53) (by decide +kernel) rfl)
theorem ar_long : inT (.arrayClass .long) := (inC7 (i := 96) (by decide +kernel) rfl)
theorem bigTbl : lw_tbl.length < 100000 := by decide +kernel
theorem nX11_7 : LN RX11 7 7 2 := ⟨_, rfl, aok_7, rfl, (inC1 (i := 38) (by decide +kernel) rfl), (inC1 (i := 39) (by decide +kernel) rfl), (inC1 (i := 2) (by decide +kernel) rfl), by decide⟩
theorem nX11_16 : LN RX11 16 6 3 := ⟨_, rfl, aok_6, rfl, (inC1 (i := 54) (by decide +kernel) rfl), (inC1 (i := 55) (by decide +kernel) rfl), (inC1 (i := 4) (by decide +kernel) rfl), by decide⟩
theorem nX11_23 : LN RX11 23 3 6 := ⟨_, rfl, aok_3, rfl, (inC2 (i := 2) (by decide +kernel) rfl), (inC2 (i := 3) (by decide +kernel) rfl), (inC1 (i := 8) (by decide +kernel) rfl), by decide⟩
theorem nX11_34 : LN RX11 34 5 18 := ⟨_, rfl, aok_5, rfl, (inC2 (i := 59) (by decide +kernel) rfl), (inC1 (i := 109) (by decide +kernel) rfl), (inC1 (i := 6) (by decide +kernel) rfl), by decide⟩
theorem nX11_41 : LN RX11 41 2 9 := ⟨_, rfl, aok_2, rfl, (inC2 (i := 61) (by decide +kernel) rfl), (inC2 (i := 9) (by decide +kernel) rfl), (inC1 (i := 9) (by decide +kernel) rfl), by decide⟩
theorem nX11_48 : LN RX11 48 0 2 := ⟨_, rfl, aok_0, rfl, (inC2 (i := 63) (by decide +kernel) rfl), (inC2 (i := 64) (by decide +kernel) rfl), (inC1 (i := 10) (by decide +kernel) rfl), by decide⟩
theorem tX11_iae : LT RX11 86 88 "java/lang/IllegalArgumentException" ["java/lang/RuntimeException", "java/lang/Exception"] := ⟨by decide +kernel, by decide +kernel, (inC4 (i := 230) (by decide +kernel) rfl), (inC1 (i := 23) (by decide +kernel) rfl), by unfold inX; decide +kernel, by decide⟩
theorem tX11_uoe : LT RX11 92 94 "java/lang/UnsupportedOperationException" ["java/lang/RuntimeException", "java/lang/Exception"] := ⟨by decide +kernel, by decide +kernel, (inC5 (i := 55) (by decide +kernel) rfl), (inC1 (i := 24) (by decide +kernel) rfl), by unfold inX; decide +kernel, by decide⟩
theorem tX11_nsee : LT RX11 138 140 "java/util/NoSuchElementException" ["java/lang/RuntimeException", "java/lang/Exception"] := ⟨by decide +kernel, by decide +kernel, (inC5 (i := 120) (by decide +kernel) rfl), (inC1 (i := 26) (by decide +kernel) rfl), by unfold inX; decide +kernel, by decide⟩
theorem tX11_ise : LT RX11 227 229 "java/lang/IllegalStateException" ["java/lang/RuntimeException", "java/lang/Exception"] := ⟨by decide +kernel, by decide +kernel, (inC5 (i := 159) (by decide +kernel) rfl), (inC1 (i := 28) (by decide +kernel) rfl), by unfold inX; decide +kernel, by decide⟩
theorem tX11_ioobe : LT RX11 382 384 "java/lang/IndexOutOfBoundsException" ["java/lang/RuntimeException", "java/lang/Exception"] := ⟨by decide +kernel, by decide +kernel, (inC5 (i := 97) (by decide +kernel) rfl), (inC1 (i := 25) (by decide +kernel) rfl), by unfold inX; decide +kernel, by decide⟩
theorem nX3_1 : LN RX3 1 2 9 := ⟨_, rfl, aok_2, rfl, (inC2 (i := 8) (by decide +kernel) rfl), (inC2 (i := 9) (by decide +kernel) rfl), (inC1 (i := 9) (by decide +kernel) rfl), by decide⟩
theorem nX5_49 : LN RX5 49 1 3 := ⟨_, rfl, aok_1, rfl, (inC1 (i := 114) (by decide +kernel) rfl), (inC1 (i := 115) (by decide +kernel) rfl), (inC1 (i := 7) (by decide +kernel) rfl), by decide⟩
theorem nX6_11 : LN RX6 11 5 18 := ⟨_, rfl, aok_5, rfl, (inC1 (i := 108) (by decide +kernel) rfl), (inC1 (i := 109) (by decide +kernel) rfl), (inC1 (i := 6) (by decide +kernel) rfl), by decide⟩
theorem nX8_9 : LN RX8 9 9 10 := ⟨_, rfl, aok_9, rfl, (inC1 (i := 63) (by decide +kernel) rfl), (inC1 (i := 64) (by decide +kernel) rfl), (inC1 (i := 5) (by decide +kernel) rfl), by decide⟩
theorem nL_8 : LN RL 8 11 14 := ⟨_, rfl, aok_11, rfl, (inC1 (i := 30) (by decide +kernel) rfl), (inC1 (i := 31) (by decide +kernel) rfl), (inC1 (i := 1) (by decide +kernel) rfl), by decide⟩
theorem nL_130 : LN RL 130 12 20 := ⟨_, rfl, aok_12, rfl, (inC7 (i := 29) (by decide +kernel) rfl), (inC7 (i := 30) (by decide +kernel) rfl), (inC1 (i := 11) (by decide +kernel) rfl), by decide⟩
