/-! ===== the law's round and method (printed by program) ===== -/
section L82
variable {S : aS} {LL : Nat} {xs : Nat → Int32}
abbrev L0 : Nat → Nat → Int64 := fun _ _ => 0
def opL : List Nat := [288, 361, 386, 402, 418, 431, 471, 511, 539, 567, 595, 623, 663, 703, 743, 771, 796, 809, 849, 889, 941, 954, 1010, 1038, 1051, 1064, 1092, 1120, 1148, 1176, 1204, 1248, 1264, 1277, 1290, 1303, 1343, 1395, 1408, 1421, 1434, 1474, 1514, 1542, 1555, 1568, 1581, 1609, 1622, 1674, 1730, 1786, 1842, 1882, 1907, 1920, 1931, 1944]
def opAt (x : Int32) : Nat := opL.getD x.toNatClampNeg 1969
theorem sw_all : ∀ n : Nat, n < 64 → swT 40 1929 0 57 #[248, 321, 346, 362, 378, 391, 431, 471, 499, 527, 555, 583, 623, 663, 703, 731, 756, 769, 809, 849, 901, 914, 970, 998, 1011, 1024, 1052, 1080, 1108, 1136, 1164, 1208, 1224, 1237, 1250, 1263, 1303, 1355, 1368, 1381, 1394, 1434, 1474, 1502, 1515, 1528, 1541, 1569, 1582, 1634, 1690, 1746, 1802, 1842, 1867, 1880, 1891, 1904] (nI n).toInt = some (opAt (nI n)) := by decide +kernel
theorem opAt_all : ∀ n, n < 64 → opAt (nI n) = opL.getD n 1969 := by decide +kernel
theorem and63 (x : Int32) : ∃ n : Nat, n < 64 ∧ x &&& 63 = nI n := by
  refine ⟨(x &&& 63).toBitVec.toNat, ?_, ?_⟩
  · have h : (x &&& 63).toBitVec.toNat = x.toBitVec.toNat &&& 63 := by
      rw [Int32.toBitVec_and, BitVec.toNat_and]
      rfl
    rw [h]
    exact Nat.lt_succ_of_le Nat.and_le_right
  · apply Int32.toBitVec_inj.mp
    show _ = (Int32.ofNat _).toBitVec
    rw [Int32.toBitVec_ofNat', BitVec.ofNat_toNat, BitVec.setWidth_eq]
theorem sub6 : ∀ n, n < 3073 → (nI n - 6).toInt = (n : Int) - 6 := by
  intro n hn
  rcases Nat.lt_or_ge n 6 with c | c
  · have h : ∀ n, n < 6 → (nI n - 6).toInt = (n : Int) - 6 := by decide +kernel
    exact h n c
  · rw [show (6 : Int32) = nI 6 from rfl, nI_sub c, nI_toInt (by omega)]
    omega
theorem op_none {i : Nat} : OpOk S i 1969 := fun k1 k2 u5 u6 I L w1 w2 t hs hk1 hk2 hK => a_rm (by omega) (by omega) (hK _ _ _ _ _ _ _ hs hk1 hk2)
theorem ops_0 {i : Nat} (hS : HdS S) (hx : ScM S LL xs) (h3 : LL ≤ 3072) (hi : i + 6 ≤ LL) (n : Nat) (h : 0 ≤ n) (h2 : n < 8) : OpOk S i (opL.getD n 1969) := by
  obtain ⟨k, rfl⟩ := Nat.exists_eq_add_of_le h
  rcases k with _ | _ | _ | _ | _ | _ | _ | _ | k
  · exact op_0 hS hx h3 hi
  · exact op_1 hS hx h3 hi
  · exact op_2 hS hx h3 hi
  · exact op_3 hS hx h3 hi
  · exact op_4 hS hx h3 hi
  · exact op_5 hS hx h3 hi
  · exact op_6 hS hx h3 hi
  · exact op_7 hS hx h3 hi
  · omega
theorem ops_8 {i : Nat} (hS : HdS S) (hx : ScM S LL xs) (h3 : LL ≤ 3072) (hi : i + 6 ≤ LL) (n : Nat) (h : 8 ≤ n) (h2 : n < 16) : OpOk S i (opL.getD n 1969) := by
  obtain ⟨k, rfl⟩ := Nat.exists_eq_add_of_le h
  rcases k with _ | _ | _ | _ | _ | _ | _ | _ | k
  · exact op_8 hS hx h3 hi
  · exact op_9 hS hx h3 hi
  · exact op_10 hS hx h3 hi
  · exact op_11 hS hx h3 hi
  · exact op_12 hS hx h3 hi
  · exact op_13 hS hx h3 hi
  · exact op_14 hS hx h3 hi
  · exact op_15 hS hx h3 hi
  · omega
theorem ops_16 {i : Nat} (hS : HdS S) (hx : ScM S LL xs) (h3 : LL ≤ 3072) (hi : i + 6 ≤ LL) (n : Nat) (h : 16 ≤ n) (h2 : n < 24) : OpOk S i (opL.getD n 1969) := by
  obtain ⟨k, rfl⟩ := Nat.exists_eq_add_of_le h
  rcases k with _ | _ | _ | _ | _ | _ | _ | _ | k
  · exact op_16 hS hx h3 hi
  · exact op_17 hS hx h3 hi
  · exact op_18 hS hx h3 hi
  · exact op_19 hS hx h3 hi
  · exact op_20 hS hx h3 hi
  · exact op_21 hS hx h3 hi
  · exact op_22 hS hx h3 hi
  · exact op_23 hS hx h3 hi
  · omega
theorem ops_24 {i : Nat} (hS : HdS S) (hx : ScM S LL xs) (h3 : LL ≤ 3072) (hi : i + 6 ≤ LL) (n : Nat) (h : 24 ≤ n) (h2 : n < 32) : OpOk S i (opL.getD n 1969) := by
  obtain ⟨k, rfl⟩ := Nat.exists_eq_add_of_le h
  rcases k with _ | _ | _ | _ | _ | _ | _ | _ | k
  · exact op_24 hS hx h3 hi
  · exact op_25 hS hx h3 hi
  · exact op_26 hS hx h3 hi
  · exact op_27 hS hx h3 hi
  · exact op_28 hS hx h3 hi
  · exact op_29 hS hx h3 hi
  · exact op_30 hS hx h3 hi
  · exact op_31 hS hx h3 hi
  · omega
theorem ops_32 {i : Nat} (hS : HdS S) (hx : ScM S LL xs) (h3 : LL ≤ 3072) (hi : i + 6 ≤ LL) (n : Nat) (h : 32 ≤ n) (h2 : n < 40) : OpOk S i (opL.getD n 1969) := by
  obtain ⟨k, rfl⟩ := Nat.exists_eq_add_of_le h
  rcases k with _ | _ | _ | _ | _ | _ | _ | _ | k
  · exact op_32 hS hx h3 hi
  · exact op_33 hS hx h3 hi
  · exact op_34 hS hx h3 hi
  · exact op_35 hS hx h3 hi
  · exact op_36 hS hx h3 hi
  · exact op_37 hS hx h3 hi
  · exact op_38 hS hx h3 hi
  · exact op_39 hS hx h3 hi
  · omega
theorem ops_40 {i : Nat} (hS : HdS S) (hx : ScM S LL xs) (h3 : LL ≤ 3072) (hi : i + 6 ≤ LL) (n : Nat) (h : 40 ≤ n) (h2 : n < 48) : OpOk S i (opL.getD n 1969) := by
  obtain ⟨k, rfl⟩ := Nat.exists_eq_add_of_le h
  rcases k with _ | _ | _ | _ | _ | _ | _ | _ | k
  · exact op_40 hS hx h3 hi
  · exact op_41 hS hx h3 hi
  · exact op_42 hS hx h3 hi
  · exact op_43 hS hx h3 hi
  · exact op_44 hS hx h3 hi
  · exact op_45 hS hx h3 hi
  · exact op_46 hS hx h3 hi
  · exact op_47 hS hx h3 hi
  · omega
theorem ops_48 {i : Nat} (hS : HdS S) (hx : ScM S LL xs) (h3 : LL ≤ 3072) (hi : i + 6 ≤ LL) (n : Nat) (h : 48 ≤ n) (h2 : n < 56) : OpOk S i (opL.getD n 1969) := by
  obtain ⟨k, rfl⟩ := Nat.exists_eq_add_of_le h
  rcases k with _ | _ | _ | _ | _ | _ | _ | _ | k
  · exact op_48 hS hx h3 hi
  · exact op_49 hS hx h3 hi
  · exact op_50 hS hx h3 hi
  · exact op_51 hS hx h3 hi
  · exact op_52 hS hx h3 hi
  · exact op_53 hS hx h3 hi
  · exact op_54 hS hx h3 hi
  · exact op_55 hS hx h3 hi
  · omega
theorem ops_56 {i : Nat} (hS : HdS S) (hx : ScM S LL xs) (h3 : LL ≤ 3072) (hi : i + 6 ≤ LL) (n : Nat) (h : 56 ≤ n) (h2 : n < 64) : OpOk S i (opL.getD n 1969) := by
  obtain ⟨k, rfl⟩ := Nat.exists_eq_add_of_le h
  rcases k with _ | _ | _ | _ | _ | _ | _ | _ | k
  · exact op_56 hS hx h3 hi
  · exact op_57 hS hx h3 hi
  · exact op_none
  · exact op_none
  · exact op_none
  · exact op_none
  · exact op_none
  · exact op_none
  · omega
theorem ops_ok {i : Nat} (hS : HdS S) (hx : ScM S LL xs) (h3 : LL ≤ 3072) (hi : i + 6 ≤ LL) (n : Nat) (h : n < 64) : OpOk S i (opL.getD n 1969) := by
  rcases Nat.lt_or_ge n 8 with c0 | c0
  · exact ops_0 hS hx h3 hi n (Nat.zero_le _) c0
  rcases Nat.lt_or_ge n 16 with c8 | c8
  · exact ops_8 hS hx h3 hi n c0 c8
  rcases Nat.lt_or_ge n 24 with c16 | c16
  · exact ops_16 hS hx h3 hi n c8 c16
  rcases Nat.lt_or_ge n 32 with c24 | c24
  · exact ops_24 hS hx h3 hi n c16 c24
  rcases Nat.lt_or_ge n 40 with c32 | c32
  · exact ops_32 hS hx h3 hi n c24 c32
  rcases Nat.lt_or_ge n 48 with c40 | c40
  · exact ops_40 hS hx h3 hi n c32 c40
  rcases Nat.lt_or_ge n 56 with c48 | c48
  · exact ops_48 hS hx h3 hi n c40 c48
  exact ops_56 hS hx h3 hi n c48 h
set_option maxRecDepth 100000
theorem loop_ok (hS : HdS S) (hx : ScM S LL xs) (h3 : LL ≤ 3072) : ∀ (m i k1 k2 : Nat) (I : Nat → Nat → Int32) (L : Nat → Nat → Int64) (w1 w2 t : Nat), 3078 ≤ i + 6 * m → i ≤ 3078 → Sy I → WK w1 → WK w2 → AW S m_L_main 1050 QM XM (k1 + 4 * m) (k2 + 24 * m) 23 [some (.ref 199), some (.ref 200), some (.ref 420), some (.ref 431), some (.int (nI i)), none, none] [] (hp I L w1 w2 t) := by
  intro m
  induction m with
  | zero =>
    intro i k1 k2 I L w1 w2 t h1 h2 hs hk1 hk2
    refine a_l4 rfl rfl rfl ?_
    refine a_l0 rfl rfl rfl ?_
    refine a_lenc rfl hx rfl ?_
    refine a_s rfl rfl ?_
    refine a_s rfl rfl ?_
    refine a_ic_gt rfl (fun c => ?_) (fun c => ?_)
    · refine a_s rfl rfl ?_
      exact a_zret rfl rfl rfl rfl
    · exfalso
      have this : (nI i).toInt ≤ (nI LL - 6).toInt := Int32.le_iff_toInt_le.mp (Int32.not_lt.mp c)
      rw [sub6 LL (by omega), nI_toInt (by omega)] at this
      omega
  | succ m ih =>
    intro i k1 k2 I L w1 w2 t h1 h2 hs hk1 hk2
    refine a_l4 rfl rfl rfl ?_
    refine a_l0 rfl rfl rfl ?_
    refine a_lenc rfl hx rfl ?_
    refine a_s rfl rfl ?_
    refine a_s rfl rfl ?_
    refine a_ic_gt rfl (fun c => ?_) (fun c => ?_)
    · refine a_s rfl rfl ?_
      exact a_zret rfl rfl rfl rfl
    · have hi : i + 6 ≤ LL := by
        have this : (nI i).toInt ≤ (nI LL - 6).toInt := Int32.le_iff_toInt_le.mp (Int32.not_lt.mp c)
        rw [sub6 LL (by omega), nI_toInt (by omega)] at this
        omega
      refine a_l0 rfl rfl rfl ?_
      refine a_l4 rfl rfl rfl ?_
      refine a_ialdc rfl hx (inI_nI (by omega) (by omega)) ?_
      refine a_s rfl rfl ?_
      refine a_s rfl rfl ?_
      obtain ⟨n, hn, e⟩ := and63 (xs (nI i).toNatClampNeg)
      refine a_top (y := nI n) e ?_
      refine a_tsw (tg := opAt (nI n)) rfl (sw_all n hn) (by decide) ?_
      rw [opAt_all n hn]
      refine a_rm (k1 := k1 + 4 * m + 4) (k2 := k2 + 24 * m + 24) (by omega) (by omega) (ops_ok hS hx h3 hi n hn _ _ _ _ _ _ _ _ _ hs hk1 hk2 ?_)
      intro u5 u6 I2 L2 w3 w4 t2 hs2 hk3 hk4
      refine a_i4 rfl rfl rfl ?_
      refine a_goto rfl ?_
      exact a_less (ih (i + 6) k1 k2 I2 L2 w3 w4 t2 (by omega) (by omega) hs2 hk3 hk4) ⟨rfl, rfl, rfl, rfl, congrArg (fun z => some (Value.int z)) (nI_addl i 6), trivial⟩
theorem Tp_0 : Tp I0 := ⟨rfl, fun k _ => ⟨128, by decide, rfl⟩, rfl, rfl⟩
theorem Rg_0 : Rg (I0 421) := Rg.of (np := 0) (nd := 0) (by decide) (by decide) rfl rfl ⟨⟨0, by decide, rfl⟩, ⟨1, by decide, by decide, rfl⟩, ⟨0, by decide, rfl⟩, ⟨0, by decide, rfl⟩, ⟨2, by decide, by decide, rfl⟩, ⟨3, by decide, rfl⟩⟩ (fun p hp => absurd hp (Nat.not_lt_zero _)) (fun d hd => absurd hd (Nat.not_lt_zero _))
theorem Sd_0 : Sd I0 235 (I0 421) := ⟨by decide +kernel, by decide +kernel, by decide +kernel⟩
theorem Sim_0 : Sim I0 := ⟨⟨Sd_0, ⟨0, 0, by decide, by decide, rfl, rfl, rfl, fun k hk => absurd hk (Nat.not_lt_zero _)⟩, Rg_0⟩, ⟨0, 0, fun _ => 0, fun _ => 0, fun _ => 0, ⟨⟨Or.inl ⟨rfl, rfl⟩, by decide, by decide, fun i hi => absurd hi (Nat.not_lt_zero _), fun i hi => absurd hi (Nat.not_lt_zero _)⟩, ⟨Or.inl ⟨rfl, rfl⟩, by decide, by decide, fun i hi => absurd hi (Nat.not_lt_zero _), fun i hi => absurd hi (Nat.not_lt_zero _)⟩, fun i hi => absurd hi (Nat.not_lt_zero _), ⟨fun _ => rfl, fun _ => rfl⟩⟩, by decide, fun i hi => absurd hi (Nat.not_lt_zero _)⟩, Or.inl ⟨rfl, rfl⟩, 0, 0, by decide, by decide, rfl, rfl, rfl, fun i hi => absurd hi (Nat.not_lt_zero _)⟩
theorem Sy_0 : Sy I0 := by
  refine ⟨⟨fun a ha h2 => ⟨0, by decide, ?_⟩, Tp_0⟩, ⟨Sim_0, rfl⟩, 0, by decide, rfl, rfl⟩
  revert a
  decide +kernel
theorem main_ok (hS : HdS S) (hx : ScM S LL xs) (h3 : LL ≤ 3072) : AW S m_L_main 1050 QM XM 601024 7293034 0 (entL [.ref 199] 7) [] ((fun _ => (0, 0)), (fun _ _ => 0), L0, (fun _ _ => 0), 200) := by
  refine a_eq (ls' := [some (.ref 199), none, none, none, none, none, none]) (h' := ((fun _ => (0, 0)), (fun _ _ => 0), L0, (fun _ _ => 0), 200)) rfl rfl ?_
  have f : Fr (fun _ _ => 0) L0 (fun _ _ => 0) 200 := fun p hp => ⟨fun _ => rfl, fun _ => rfl, fun _ => rfl⟩
  refine a_new rfl nL_8 rfl rfl rfl f.i f.r ?_
  refine a_s rfl rfl ?_
  replace f := f.mono (t' := 201) (by decide)
  refine a_mI rfl lL_129 mo_X11_init (sp_X11_init upK_self f) rfl rfl rfl rfl ?_
  replace f := frX11 (z := 0) f
  refine a_s1 rfl rfl rfl rfl rfl rfl ?_
  refine a_new rfl nL_130 rfl rfl rfl f.i f.r ?_
  refine a_s rfl rfl ?_
  replace f := f.mono (t' := 421) (by decide)
  refine a_mI rfl lL_132 mo_X12_init (sp_X12_init upK_self f) rfl rfl rfl rfl ?_
  replace f := frX12 (z := 0) f
  refine a_s2 rfl rfl rfl rfl rfl rfl ?_
  refine a_s rfl rfl ?_
  refine a_newarr (N := 1) (tg := 2) rfl rfl rfl ar_long (by decide) (by decide) rfl rfl rfl rfl f.i f.l ?_
  refine a_s3 rfl rfl rfl rfl rfl rfl ?_
  refine a_s rfl rfl ?_
  refine a_s4 rfl rfl rfl rfl rfl rfl ?_
  refine a_eq (ls' := [some (.ref 199), some (.ref 200), some (.ref 420), some (.ref 431), some (.int (nI 0)), none, none]) (h' := hp I0 L0 0 0 432) rfl (by show (Kz, I0, L0, Rz, 432) = _; rw [Kz_eq, Rz_eq]) ?_
  exact a_rm (by decide) (by decide) (loop_ok hS hx h3 513 0 0 0 I0 L0 0 0 432 (by decide) (by decide) Sy_0 WK.nul WK.nul)
end L82
