/-! ===== the law's method ===== -/
/-- of the exceptions, which is none of which -/
def ncs : List (String × String) := [("java/lang/UnsupportedOperationException", "java/lang/IllegalArgumentException"), ("java/lang/IndexOutOfBoundsException", "java/lang/IllegalArgumentException"), ("java/util/NoSuchElementException", "java/lang/IllegalArgumentException"), ("java/lang/IllegalStateException", "java/lang/IllegalArgumentException"), ("java/lang/IllegalArgumentException", "java/lang/UnsupportedOperationException"), ("java/lang/IndexOutOfBoundsException", "java/lang/UnsupportedOperationException"), ("java/util/NoSuchElementException", "java/lang/UnsupportedOperationException"), ("java/lang/IllegalStateException", "java/lang/UnsupportedOperationException"), ("java/lang/IllegalArgumentException", "java/lang/IndexOutOfBoundsException"), ("java/lang/UnsupportedOperationException", "java/lang/IndexOutOfBoundsException"), ("java/util/NoSuchElementException", "java/lang/IndexOutOfBoundsException"), ("java/lang/IllegalStateException", "java/lang/IndexOutOfBoundsException"), ("java/lang/IllegalArgumentException", "java/util/NoSuchElementException"), ("java/lang/UnsupportedOperationException", "java/util/NoSuchElementException"), ("java/lang/IndexOutOfBoundsException", "java/util/NoSuchElementException"), ("java/lang/IllegalStateException", "java/util/NoSuchElementException"), ("java/lang/IllegalArgumentException", "java/lang/IllegalStateException"), ("java/lang/UnsupportedOperationException", "java/lang/IllegalStateException"), ("java/lang/IndexOutOfBoundsException", "java/lang/IllegalStateException"), ("java/util/NoSuchElementException", "java/lang/IllegalStateException")]
abbrev S1 (L : Nat) (xs : Nat → Int32) : aS := ([], [], [], [(199, .int, L, fun j => .int (xs j))], [], ncs)
section M1
variable {S : aS} {C C' : aM} {d d' : Nat} {Q Q' : Option Value → aH → Prop} {X X' : String → aH → Prop} {k1 k2 j1 j2 pc np tgt n : Nat} {w : Int32} {ls ls' : List (Option Value)} {st st' st0 : List Value} {h h' : aH} {ins : Instr} {As : List Value}
theorem a_ialdc {q N : Nat} {f : Nat → Int32} {i : Int32} (hC : look C pc = some (.iaload, np, tgt, w)) (hs : (q, .int, N, fun j => Value.int (f j)) ∈ S.2.2.2.1) (hi : inI i N) (kk : AW S C d Q X k1 k2 np ls (.int (f i.toNatClampNeg) :: st) h) : AW S C d Q X k1 k2 pc ls (.int i :: .ref q :: st) h := by
  intro p l e s m args below meth c H la locs cells slots mc ms G CC hS hL hR hF g1 g2
  obtain ⟨hd, rfl, -⟩ := okd CC.2.2.2.2.2.2.2.2.2 hC rfl
  obtain ⟨cell, r1, r2, r3, r4, r5, r6, r7⟩ := hS.2.2.2.1.2.2.2.2 _ hs
  have hq : H[ad G q]? = some cell := by
    rw [hF.2.1 _ (Array.getElem?_eq_some_iff.mp r1).1 r7]
    exact r1
  exact W.iald CC.1 CC.2.1 hq r2 r3 (inI_not ⟨hi.1, Nat.lt_of_lt_of_le hi.2 r4⟩) (r6 _ hi.2) rfl rfl hd (kk p l e s m args below meth c H la locs cells slots mc ms G CC hS hL hR hF g1 g2)
end M1
abbrev QM : Option Value → aH → Prop := fun v _ => v = some (.int 1)
abbrev XM : String → aH → Prop := fun _ _ => False
abbrev L0 : Nat → Nat → Int64 := fun _ _ => 0
section M2
variable {L : Nat} {xs : Nat → Int32}
theorem scr_mem : (199, FieldType.int, L, fun j => Value.int (xs j)) ∈ (S1 L xs).2.2.2.1 := List.mem_cons_self
/-- behind the only operation -/
theorem fin_ok {k1 k2 : Nat} {u1 u2 u5 u6 : Option Value} {h : aH} : AW (S1 6 xs) m_L_main 1050 QM XM k1 k2 2921 [some (.ref 199), u1, u2, some (.ref 431), some (.int 0), u5, u6] [] h := by
  refine a_i4 rfl rfl rfl ?_
  refine a_goto rfl ?_
  refine a_l4 rfl rfl rfl ?_
  refine a_l0 rfl rfl rfl ?_
  refine a_lenc rfl scr_mem rfl ?_
  refine a_s rfl rfl ?_
  refine a_s rfl rfl ?_
  refine a_ic_gt rfl (fun c => ?_) (fun c => absurd (by decide) c)
  refine a_s rfl rfl ?_
  exact a_zret rfl rfl rfl rfl
def OpOk (xs : Nat → Int32) (pc : Nat) : Prop := AW (S1 6 xs) m_L_main 1050 QM XM 599770 7281900 pc [some (.ref 199), some (.ref 200), some (.ref 420), some (.ref 431), some (.int 0), none, none] [] (hp I0 L0 0 0 432)
def opAt (x : Int32) : Nat := ([288, 361, 386, 430, 474, 487, 555, 623, 679, 735, 791, 847, 915, 983, 1051, 1107, 1132, 1145, 1213, 1281, 1361, 1374, 1458, 1514, 1527, 1540, 1596, 1652, 1708, 1764, 1820, 1864, 1908, 1921, 1934, 1947, 2015, 2095, 2108, 2121, 2134, 2202, 2270, 2326, 2339, 2352, 2365, 2421, 2434, 2514, 2598, 2682, 2766, 2834, 2859, 2872, 2883, 2896] : List Nat).getD x.toNatClampNeg 2921
theorem sw_all : ∀ n : Nat, n < 64 → swT 40 2881 0 57 #[248, 321, 346, 390, 434, 447, 515, 583, 639, 695, 751, 807, 875, 943, 1011, 1067, 1092, 1105, 1173, 1241, 1321, 1334, 1418, 1474, 1487, 1500, 1556, 1612, 1668, 1724, 1780, 1824, 1868, 1881, 1894, 1907, 1975, 2055, 2068, 2081, 2094, 2162, 2230, 2286, 2299, 2312, 2325, 2381, 2394, 2474, 2558, 2642, 2726, 2794, 2819, 2832, 2843, 2856] (nI n).toInt = some (opAt (nI n)) := by decide +kernel
theorem and63 (x : Int32) : ∃ n : Nat, n < 64 ∧ x &&& 63 = nI n := by
  refine ⟨(x &&& 63).toBitVec.toNat, ?_, ?_⟩
  · have h : (x &&& 63).toBitVec.toNat = x.toBitVec.toNat &&& 63 := by
      rw [Int32.toBitVec_and, BitVec.toNat_and]
      rfl
    rw [h]
    exact Nat.lt_succ_of_le Nat.and_le_right
  · apply Int32.toBitVec_inj.mp
    show _ = (Int32.ofNat _).toBitVec
    rw [Int32.toBitVec_ofNat', BitVec.ofNat_toNat, BitVec.setWidth_eq]
set_option maxRecDepth 100000 in
theorem main_ok (hL : L ≤ 6) (hop : L = 6 → OpOk xs (opAt (xs 0 &&& 63))) : AW (S1 L xs) m_L_main 1050 QM XM 600002 7302232 0 (entL [.ref 199] 7) [] ((fun _ => (0, 0)), (fun _ _ => 0), L0, (fun _ _ => 0), 200) := by
  refine a_eq (ls' := [some (.ref 199), none, none, none, none, none, none]) (h' := ((fun _ => (0, 0)), (fun _ _ => 0), L0, (fun _ _ => 0), 200)) rfl rfl ?_
  have f : Fr (fun _ _ => 0) L0 (fun _ _ => 0) 200 := fun p hp => ⟨fun _ => rfl, fun _ => rfl, fun _ => rfl⟩
  refine a_new rfl nL_8 rfl rfl rfl f.i f.r ?_
  refine a_s rfl rfl ?_
  replace f := f.mono (t' := 201) (by decide)
  refine a_mI rfl lL_129 mo_X11_init (sp_X11_init upK_self f) rfl rfl rfl rfl ?_
  replace f := frX11 (z := 0) f
  refine a_s1 rfl rfl rfl rfl rfl rfl ?_
  refine a_new rfl nL_130 rfl rfl rfl f.i f.r ?_
  refine a_s rfl rfl ?_
  replace f := f.mono (t' := 421) (by decide)
  refine a_mI rfl lL_132 mo_X12_init (sp_X12_init upK_self f) rfl rfl rfl rfl ?_
  replace f := frX12 (z := 0) f
  refine a_s2 rfl rfl rfl rfl rfl rfl ?_
  refine a_s rfl rfl ?_
  refine a_newarr (N := 1) (tg := 2) rfl rfl rfl ar_long (by decide) (by decide) rfl rfl rfl rfl f.i f.l ?_
  refine a_s3 rfl rfl rfl rfl rfl rfl ?_
  refine a_s rfl rfl ?_
  refine a_s4 rfl rfl rfl rfl rfl rfl ?_
  refine a_eq (ls' := [some (.ref 199), some (.ref 200), some (.ref 420), some (.ref 431), some (.int 0), none, none]) (h' := hp I0 L0 0 0 432) rfl (by show (Kz, I0, L0, Rz, 432) = _; rw [Kz_eq, Rz_eq]) ?_
  refine a_l4 rfl rfl rfl ?_
  refine a_l0 rfl rfl rfl ?_
  refine a_lenc rfl scr_mem rfl ?_
  refine a_s rfl rfl ?_
  refine a_s rfl rfl ?_
  refine a_ic_gt rfl (fun c => ?_) (fun c => ?_)
  · refine a_s rfl rfl ?_
    exact a_zret rfl rfl rfl rfl
  · have h6 : L = 6 := by
      rcases L with _ | _ | _ | _ | _ | _ | _ | L
      · exact absurd (by decide) c
      · exact absurd (by decide) c
      · exact absurd (by decide) c
      · exact absurd (by decide) c
      · exact absurd (by decide) c
      · exact absurd (by decide) c
      · rfl
      · omega
    subst h6
    refine a_l0 rfl rfl rfl ?_
    refine a_l4 rfl rfl rfl ?_
    refine a_ialdc rfl scr_mem ⟨by decide, by decide⟩ ?_
    refine a_s rfl rfl ?_
    refine a_s rfl rfl ?_
    obtain ⟨n, hn, e⟩ := and63 (xs 0)
    refine a_tsw (tg := opAt (xs 0 &&& 63)) rfl (by
      show swT 40 2881 0 57 _ (xs 0 &&& 63).toInt = _
      rw [e]
      exact sw_all n hn) (by decide) ?_
    exact hop rfl
end M2
