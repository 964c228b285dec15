/-! ===== words of the library ===== -/
theorem mj_min : mOk Lib.Math.min.name Lib.Math.min.code 2 := ⟨(inC3 (i := 114) rfl rfl), (inC1 (i := 12) rfl rfl), (inC3 (i := 115) rfl rfl)⟩
theorem mj_max : mOk Lib.Math.max.name Lib.Math.max.code 2 := ⟨(inC2 (i := 207) rfl rfl), (inC1 (i := 12) rfl rfl), (inC2 (i := 208) rfl rfl)⟩
theorem mj_abs : mOk Lib.Math.abs.name Lib.Math.abs.code 1 := ⟨(inC8 (i := 127) rfl rfl), (inC1 (i := 12) rfl rfl), (inC8 (i := 128) rfl rfl)⟩
theorem oi_1 : inT (.instanceMethod Lib.objectInit) := (inC1 (i := 36) rfl rfl)
theorem oi_2 : inT (.code Lib.objectInit ⟨#[0xb1]⟩ 1 none) := (inC1 (i := 37) rfl rfl)
theorem ac_1 : inT (.native arraycopyName) ∧ inT (.static arraycopyName) ∧ inT (.initialized "java/lang/System") := ⟨(inC3 (i := 118) rfl rfl), (inC3 (i := 117) rfl rfl), (inC1 (i := 13) rfl rfl)⟩
theorem kJ6_265 : inT (.constant RJ6 265 1431655765) := (inC3 (i := 1) rfl rfl)
theorem kJ6_266 : inT (.constant RJ6 266 858993459) := (inC3 (i := 2) rfl rfl)
theorem kJ6_267 : inT (.constant RJ6 267 252645135) := (inC3 (i := 3) rfl rfl)
theorem kX5_148 : inT (.constant RX5 148 1103515245) := (inC3 (i := 131) rfl rfl)
theorem kX0_113 : inT (.constantLong RX0 113 10000) := (inC6 (i := 182) rfl rfl)
theorem kX12_77 : inT (.constant RX12 77 1103515245) := (inC9 (i := 21) rfl rfl)
theorem kX12_401 : inT (.constant RX12 401 1000000) := (inC9 (i := 65) rfl rfl)
theorem kX12_454 : inT (.constantLong RX12 454 100) := (inC9 (i := 233) rfl rfl)
theorem kX12_456 : inT (.constantLong RX12 456 10000) := (inC9 (i := 234) rfl rfl)
theorem ar_int : inT (.arrayClass .int) := (inC1 (i := 107) rfl rfl)
theorem ar_byte : inT (.arrayClass .byte) := (inC1 (i := 53) rfl rfl)
theorem ar_long : inT (.arrayClass .long) := (inC7 (i := 96) rfl rfl)
theorem bigTbl : lw_tbl.length < 100000 := by decide +kernel
theorem nX11_7 : LN RX11 7 7 2 := ⟨_, rfl, aok_7, rfl, (inC1 (i := 38) rfl rfl), (inC1 (i := 39) rfl rfl), (inC1 (i := 2) rfl rfl), by decide⟩
theorem nX11_16 : LN RX11 16 6 3 := ⟨_, rfl, aok_6, rfl, (inC1 (i := 54) rfl rfl), (inC1 (i := 55) rfl rfl), (inC1 (i := 4) rfl rfl), by decide⟩
theorem nX11_23 : LN RX11 23 3 6 := ⟨_, rfl, aok_3, rfl, (inC2 (i := 2) rfl rfl), (inC2 (i := 3) rfl rfl), (inC1 (i := 8) rfl rfl), by decide⟩
theorem nX11_34 : LN RX11 34 5 18 := ⟨_, rfl, aok_5, rfl, (inC2 (i := 59) rfl rfl), (inC1 (i := 109) rfl rfl), (inC1 (i := 6) rfl rfl), by decide⟩
theorem nX11_41 : LN RX11 41 2 9 := ⟨_, rfl, aok_2, rfl, (inC2 (i := 61) rfl rfl), (inC2 (i := 9) rfl rfl), (inC1 (i := 9) rfl rfl), by decide⟩
theorem nX11_48 : LN RX11 48 0 2 := ⟨_, rfl, aok_0, rfl, (inC2 (i := 63) rfl rfl), (inC2 (i := 64) rfl rfl), (inC1 (i := 10) rfl rfl), by decide⟩
/-- the words of every exception, once -/
theorem thr_all : ∀ w ∈ Bundle.throwableAtoms.filter vx_no, inX w := by unfold inX; decide +kernel
theorem at0_of {own X : String} {ic : Nat} {names : List String} (h : ∀ w ∈ ((Bundle.ownAtoms0 own ic X names).drop Bundle.throwableAtoms.length).filter vx_no, inX w) : ∀ w ∈ vx_at0 own ic X names, inX w := by
  intro w hw
  obtain ⟨hw, hn⟩ := List.mem_filter.mp (show w ∈ (Bundle.ownAtoms0 own ic X names).filter vx_no from hw)
  have e : Bundle.ownAtoms0 own ic X names = Bundle.throwableAtoms ++ (Bundle.ownAtoms0 own ic X names).drop Bundle.throwableAtoms.length := by
    unfold Bundle.ownAtoms0
    rw [List.append_assoc, List.drop_left]
  rw [e] at hw
  rcases List.mem_append.mp hw with h1 | h1
  · exact thr_all w (List.mem_filter.mpr ⟨h1, hn⟩)
  · exact h w (List.mem_filter.mpr ⟨h1, hn⟩)
theorem tX11_iae : LT RX11 86 88 "java/lang/IllegalArgumentException" ["java/lang/RuntimeException", "java/lang/Exception"] := ⟨by decide +kernel, by decide +kernel, (inC4 (i := 230) rfl rfl), (inC1 (i := 23) rfl rfl), at0_of (by unfold inX; decide +kernel), by decide⟩
theorem tX11_uoe : LT RX11 92 94 "java/lang/UnsupportedOperationException" ["java/lang/RuntimeException", "java/lang/Exception"] := ⟨by decide +kernel, by decide +kernel, (inC5 (i := 55) rfl rfl), (inC1 (i := 24) rfl rfl), at0_of (by unfold inX; decide +kernel), by decide⟩
theorem tX11_nsee : LT RX11 138 140 "java/util/NoSuchElementException" ["java/lang/RuntimeException", "java/lang/Exception"] := ⟨by decide +kernel, by decide +kernel, (inC5 (i := 120) rfl rfl), (inC1 (i := 26) rfl rfl), at0_of (by unfold inX; decide +kernel), by decide⟩
theorem tX11_ise : LT RX11 227 229 "java/lang/IllegalStateException" ["java/lang/RuntimeException", "java/lang/Exception"] := ⟨by decide +kernel, by decide +kernel, (inC5 (i := 159) rfl rfl), (inC1 (i := 28) rfl rfl), at0_of (by unfold inX; decide +kernel), by decide⟩
theorem tX11_ioobe : LT RX11 382 384 "java/lang/IndexOutOfBoundsException" ["java/lang/RuntimeException", "java/lang/Exception"] := ⟨by decide +kernel, by decide +kernel, (inC5 (i := 97) rfl rfl), (inC1 (i := 25) rfl rfl), at0_of (by unfold inX; decide +kernel), by decide⟩
theorem nX3_1 : LN RX3 1 2 9 := ⟨_, rfl, aok_2, rfl, (inC2 (i := 8) rfl rfl), (inC2 (i := 9) rfl rfl), (inC1 (i := 9) rfl rfl), by decide⟩
theorem nX5_49 : LN RX5 49 1 3 := ⟨_, rfl, aok_1, rfl, (inC1 (i := 114) rfl rfl), (inC1 (i := 115) rfl rfl), (inC1 (i := 7) rfl rfl), by decide⟩
theorem nX6_11 : LN RX6 11 5 18 := ⟨_, rfl, aok_5, rfl, (inC1 (i := 108) rfl rfl), (inC1 (i := 109) rfl rfl), (inC1 (i := 6) rfl rfl), by decide⟩
theorem nX8_9 : LN RX8 9 9 10 := ⟨_, rfl, aok_9, rfl, (inC1 (i := 63) rfl rfl), (inC1 (i := 64) rfl rfl), (inC1 (i := 5) rfl rfl), by decide⟩
theorem nL_8 : LN RL 8 11 14 := ⟨_, rfl, aok_11, rfl, (inC1 (i := 30) rfl rfl), (inC1 (i := 31) rfl rfl), (inC1 (i := 1) rfl rfl), by decide⟩
theorem nL_130 : LN RL 130 12 20 := ⟨_, rfl, aok_12, rfl, (inC7 (i := 29) rfl rfl), (inC7 (i := 30) rfl rfl), (inC1 (i := 11) rfl rfl), by decide⟩
