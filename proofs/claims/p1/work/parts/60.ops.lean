/-! ===== every operation ===== -/
set_option maxRecDepth 100000
def opL : List Nat := [288, 361, 386, 430, 474, 487, 555, 623, 679, 735, 791, 847, 915, 983, 1051, 1107, 1132, 1145, 1213, 1281, 1361, 1374, 1458, 1514, 1527, 1540, 1596, 1652, 1708, 1764, 1820, 1864, 1908, 1921, 1934, 1947, 2015, 2095, 2108, 2121, 2134, 2202, 2270, 2326, 2339, 2352, 2365, 2421, 2434, 2514, 2598, 2682, 2766, 2834, 2859, 2872, 2883, 2896]
theorem opAt_all : ∀ n, n < 64 → opAt (nI n) = opL.getD n 2921 := by decide +kernel
theorem ops_0 {xs : Nat → Int32} (n : Nat) (h : 0 ≤ n) (h2 : n < 8) : OpOk xs (opL.getD n 2921) := by
  obtain ⟨k, rfl⟩ := Nat.exists_eq_add_of_le h
  rcases k with _ | _ | _ | _ | _ | _ | _ | _ | k
  · exact op_0
  · exact op_1
  · exact op_2
  · exact op_3
  · exact op_4
  · exact op_5
  · exact op_6
  · exact op_7
  · omega
theorem ops_8 {xs : Nat → Int32} (n : Nat) (h : 8 ≤ n) (h2 : n < 16) : OpOk xs (opL.getD n 2921) := by
  obtain ⟨k, rfl⟩ := Nat.exists_eq_add_of_le h
  rcases k with _ | _ | _ | _ | _ | _ | _ | _ | k
  · exact op_8
  · exact op_9
  · exact op_10
  · exact op_11
  · exact op_12
  · exact op_13
  · exact op_14
  · exact op_15
  · omega
theorem ops_16 {xs : Nat → Int32} (n : Nat) (h : 16 ≤ n) (h2 : n < 24) : OpOk xs (opL.getD n 2921) := by
  obtain ⟨k, rfl⟩ := Nat.exists_eq_add_of_le h
  rcases k with _ | _ | _ | _ | _ | _ | _ | _ | k
  · exact op_16
  · exact op_17
  · exact op_18
  · exact op_19
  · exact op_20
  · exact op_21
  · exact op_22
  · exact op_23
  · omega
theorem ops_24 {xs : Nat → Int32} (n : Nat) (h : 24 ≤ n) (h2 : n < 32) : OpOk xs (opL.getD n 2921) := by
  obtain ⟨k, rfl⟩ := Nat.exists_eq_add_of_le h
  rcases k with _ | _ | _ | _ | _ | _ | _ | _ | k
  · exact op_24
  · exact op_25
  · exact op_26
  · exact op_27
  · exact op_28
  · exact op_29
  · exact op_30
  · exact op_31
  · omega
theorem ops_32 {xs : Nat → Int32} (n : Nat) (h : 32 ≤ n) (h2 : n < 40) : OpOk xs (opL.getD n 2921) := by
  obtain ⟨k, rfl⟩ := Nat.exists_eq_add_of_le h
  rcases k with _ | _ | _ | _ | _ | _ | _ | _ | k
  · exact op_32
  · exact op_33
  · exact op_34
  · exact op_35
  · exact op_36
  · exact op_37
  · exact op_38
  · exact op_39
  · omega
theorem ops_40 {xs : Nat → Int32} (n : Nat) (h : 40 ≤ n) (h2 : n < 48) : OpOk xs (opL.getD n 2921) := by
  obtain ⟨k, rfl⟩ := Nat.exists_eq_add_of_le h
  rcases k with _ | _ | _ | _ | _ | _ | _ | _ | k
  · exact op_40
  · exact op_41
  · exact op_42
  · exact op_43
  · exact op_44
  · exact op_45
  · exact op_46
  · exact op_47
  · omega
theorem ops_48 {xs : Nat → Int32} (n : Nat) (h : 48 ≤ n) (h2 : n < 56) : OpOk xs (opL.getD n 2921) := by
  obtain ⟨k, rfl⟩ := Nat.exists_eq_add_of_le h
  rcases k with _ | _ | _ | _ | _ | _ | _ | _ | k
  · exact op_48
  · exact op_49
  · exact op_50
  · exact op_51
  · exact op_52
  · exact op_53
  · exact op_54
  · exact op_55
  · omega
theorem ops_56 {xs : Nat → Int32} (n : Nat) (h : 56 ≤ n) (h2 : n < 58) : OpOk xs (opL.getD n 2921) := by
  obtain ⟨k, rfl⟩ := Nat.exists_eq_add_of_le h
  rcases k with _ | _ | k
  · exact op_56
  · exact op_57
  · omega
theorem ops_ok (xs : Nat → Int32) : OpOk xs (opAt (xs 0 &&& 63)) := by
  obtain ⟨n, hn, e⟩ := and63 (xs 0)
  rw [e, opAt_all n hn]
  by_cases h : n < 58
  · by_cases h8 : n < 8
    · exact ops_0 n (by omega) h8
    by_cases h16 : n < 16
    · exact ops_8 n (by omega) h16
    by_cases h24 : n < 24
    · exact ops_16 n (by omega) h24
    by_cases h32 : n < 32
    · exact ops_24 n (by omega) h32
    by_cases h40 : n < 40
    · exact ops_32 n (by omega) h40
    by_cases h48 : n < 48
    · exact ops_40 n (by omega) h48
    by_cases h56 : n < 56
    · exact ops_48 n (by omega) h56
    by_cases h58 : n < 58
    · exact ops_56 n (by omega) h58
    · omega
  · have e2 : ∀ n, n < 64 → ¬ n < 58 → opL.getD n 2921 = 2921 := by decide +kernel
    rw [e2 n hn h]
    exact fin_ok
