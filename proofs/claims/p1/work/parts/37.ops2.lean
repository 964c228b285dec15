/-! ===== seed, end ===== -/
set_option maxRecDepth 100000
theorem sp0_X11_end_lt {S : aS} {I : Nat → Nat → Int32} {L : Nat → Nat → Int64} {w1 w2 t : Nat} {x : Int32} (h : I 201 1 = 0) (hn : x < 0) : SpE S m_X11_end 12 [.ref 200, .int x] (hp I L w1 w2 t) (some (.int 0)) (hp I L w1 w2 t) := by
  refine SpE_of ok_X11_end rfl rfl ?_
  show AW S m_X11_end 12 _ _ 0 0 0 [some (.ref 200), some (.int x)] [] (hp I L w1 w2 t)
  refine a_l1 rfl rfl rfl ?_
  refine a_if_lt rfl (fun c1 => ?_) (fun c => absurd (hn) c)
  refine a_s rfl rfl ?_
  refine a_zret rfl rfl rfl ⟨rfl, rfl⟩
theorem sp0_X11_end_gt {S : aS} {I : Nat → Nat → Int32} {L : Nat → Nat → Int64} {w1 w2 t : Nat} {x : Int32} (h : I 201 1 = 0) (hn : 0 < x) : SpE S m_X11_end 12 [.ref 200, .int x] (hp I L w1 w2 t) (some (.int 0)) (hp I L w1 w2 t) := by
  refine SpE_of ok_X11_end rfl rfl ?_
  show AW S m_X11_end 12 _ _ 0 0 0 [some (.ref 200), some (.int x)] [] (hp I L w1 w2 t)
  refine a_l1 rfl rfl rfl ?_
  refine a_if_lt rfl (fun c => absurd c (fun z => Int32.lt_asymm hn z)) (fun c1 => ?_)
  refine a_l1 rfl rfl rfl ?_
  refine a_l0 rfl rfl rfl ?_
  refine a_getq rfl gfX11_10_11 rfl (rfl) ?_
  refine a_geti rfl gfX11_68_7 rfl ?_
  rw [h]
  refine a_ic_le rfl (fun c => absurd c (Int32.not_le.mpr hn)) (fun c12 => ?_)
  refine a_s rfl rfl ?_
  refine a_zret rfl rfl rfl ⟨rfl, rfl⟩
theorem sp0_X11_end_ok {S : aS} {I : Nat → Nat → Int32} {L : Nat → Nat → Int64} {w1 w2 t : Nat} {x : Int32} (h : I 201 1 = 0) (hn : x = 0) : SpE S m_X11_end 12 [.ref 200, .int x] (hp I L w1 w2 t) (some (.int 1)) (hp (up2 I 201 1 x) L w1 w2 t) := by
  refine SpE_of ok_X11_end rfl rfl ?_
  show AW S m_X11_end 12 _ _ 0 0 0 [some (.ref 200), some (.int x)] [] (hp I L w1 w2 t)
  refine a_l1 rfl rfl rfl ?_
  refine a_if_lt rfl (fun c => absurd c (by subst hn; decide)) (fun c1 => ?_)
  refine a_l1 rfl rfl rfl ?_
  refine a_l0 rfl rfl rfl ?_
  refine a_getq rfl gfX11_10_11 rfl (rfl) ?_
  refine a_geti rfl gfX11_68_7 rfl ?_
  rw [h]
  refine a_ic_le rfl (fun c12 => ?_) (fun c => absurd (by subst hn; exact Int32.le_refl _) c)
  refine a_l0 rfl rfl rfl ?_
  refine a_getq rfl gfX11_10_11 rfl (rfl) ?_
  refine a_l1 rfl rfl rfl ?_
  refine a_puti rfl pfX11_68_7 rfl ?_
  refine a_s rfl rfl ?_
  refine a_zret rfl rfl rfl ⟨rfl, rfl⟩
theorem sp0_X12_end_lt {S : aS} {I : Nat → Nat → Int32} {L : Nat → Nat → Int64} {w1 w2 t : Nat} {x : Int32} (h : I 420 9 = 0) (hn : x < 0) : SpE S m_X12_end 12 [.ref 420, .int x] (hp I L w1 w2 t) (some (.int 0)) (hp (up2 I 420 0 0) L w1 w2 t) := by
  refine SpE_of ok_X12_end rfl rfl ?_
  show AW S m_X12_end 12 _ _ 0 0 0 [some (.ref 420), some (.int x)] [] (hp I L w1 w2 t)
  refine a_l0 rfl rfl rfl ?_
  refine a_s rfl rfl ?_
  refine a_puti rfl pfX12_3_12 rfl ?_
  refine a_l1 rfl rfl rfl ?_
  refine a_if_lt rfl (fun c6 => ?_) (fun c => absurd (hn) c)
  refine a_s rfl rfl ?_
  refine a_zret rfl rfl rfl ⟨rfl, rfl⟩
theorem sp0_X12_end_gt {S : aS} {I : Nat → Nat → Int32} {L : Nat → Nat → Int64} {w1 w2 t : Nat} {x : Int32} (h : I 420 9 = 0) (hn : 0 < x) : SpE S m_X12_end 12 [.ref 420, .int x] (hp I L w1 w2 t) (some (.int 0)) (hp (up2 I 420 0 0) L w1 w2 t) := by
  refine SpE_of ok_X12_end rfl rfl ?_
  show AW S m_X12_end 12 _ _ 0 0 0 [some (.ref 420), some (.int x)] [] (hp I L w1 w2 t)
  refine a_l0 rfl rfl rfl ?_
  refine a_s rfl rfl ?_
  refine a_puti rfl pfX12_3_12 rfl ?_
  refine a_l1 rfl rfl rfl ?_
  refine a_if_lt rfl (fun c => absurd c (fun z => Int32.lt_asymm hn z)) (fun c6 => ?_)
  refine a_l1 rfl rfl rfl ?_
  refine a_l0 rfl rfl rfl ?_
  refine a_geti rfl gfX12_78_12 rfl ?_
  rw [up2_ne (by decide), h]
  refine a_ic_le rfl (fun c => absurd c (Int32.not_le.mpr hn)) (fun c14 => ?_)
  refine a_s rfl rfl ?_
  refine a_zret rfl rfl rfl ⟨rfl, rfl⟩
theorem sp0_X12_end_ok {S : aS} {I : Nat → Nat → Int32} {L : Nat → Nat → Int64} {w1 w2 t : Nat} {x : Int32} (h : I 420 9 = 0) (hn : x = 0) : SpE S m_X12_end 12 [.ref 420, .int x] (hp I L w1 w2 t) (some (.int 1)) (hp (up2 (up2 I 420 0 0) 420 9 x) L w1 w2 t) := by
  refine SpE_of ok_X12_end rfl rfl ?_
  show AW S m_X12_end 12 _ _ 0 0 0 [some (.ref 420), some (.int x)] [] (hp I L w1 w2 t)
  refine a_l0 rfl rfl rfl ?_
  refine a_s rfl rfl ?_
  refine a_puti rfl pfX12_3_12 rfl ?_
  refine a_l1 rfl rfl rfl ?_
  refine a_if_lt rfl (fun c => absurd c (by subst hn; decide)) (fun c6 => ?_)
  refine a_l1 rfl rfl rfl ?_
  refine a_l0 rfl rfl rfl ?_
  refine a_geti rfl gfX12_78_12 rfl ?_
  rw [up2_ne (by decide), h]
  refine a_ic_le rfl (fun c14 => ?_) (fun c => absurd (by subst hn; exact Int32.le_refl _) c)
  refine a_l0 rfl rfl rfl ?_
  refine a_l1 rfl rfl rfl ?_
  refine a_puti rfl pfX12_78_12 rfl ?_
  refine a_s rfl rfl ?_
  refine a_zret rfl rfl rfl ⟨rfl, rfl⟩
theorem I0_end : I0 201 1 = 0 ∧ I0 420 9 = 0 := by decide +kernel
theorem op_53 {xs : Nat → Int32} : OpOk xs 2834 := by
  show AW (S1 6 xs) m_L_main 1050 QM XM 599770 7281900 2834 [some (.ref 199), some (.ref 200), some (.ref 420), some (.ref 431), some (.int 0), none, none] [] (hp I0 L0 0 0 432)
  refine a_l1 rfl rfl rfl ?_
  refine a_l0 rfl rfl rfl ?_
  refine a_l4 rfl rfl rfl ?_
  refine a_s rfl rfl ?_
  refine a_s rfl rfl ?_
  refine a_ialdc rfl scr_mem ⟨by decide, by decide⟩ ?_
  refine a_eV1 rfl lL_322 mo_X11_seed (sp_X11_seed) rfl rfl rfl ⟨11, _, rfl, rfl, rfl⟩ rfl ?_
  refine a_l2 rfl rfl rfl ?_
  refine a_l0 rfl rfl rfl ?_
  refine a_l4 rfl rfl rfl ?_
  refine a_s rfl rfl ?_
  refine a_s rfl rfl ?_
  refine a_ialdc rfl scr_mem ⟨by decide, by decide⟩ ?_
  refine a_eV1 rfl lL_325 mo_X12_seed (sp_X12_seed) rfl rfl rfl ⟨12, _, rfl, rfl, rfl⟩ rfl ?_
  refine a_ic_eq rfl (fun c2854 => ?_) (fun c => absurd (by rw [up2_row (by decide)]; exact I0_facts.2.2.2.2.2) c)
  exact fin_ok
theorem op_1 {xs : Nat → Int32} : OpOk xs 361 := by
  show AW (S1 6 xs) m_L_main 1050 QM XM 599770 7281900 361 [some (.ref 199), some (.ref 200), some (.ref 420), some (.ref 431), some (.int 0), none, none] [] (hp I0 L0 0 0 432)
  by_cases hn : xs (Int32.toNatClampNeg (0 + 1)) < 0
  ·
    refine a_l1 rfl rfl rfl ?_
    refine a_l0 rfl rfl rfl ?_
    refine a_l4 rfl rfl rfl ?_
    refine a_s rfl rfl ?_
    refine a_s rfl rfl ?_
    refine a_ialdc rfl scr_mem ⟨by decide, by decide⟩ ?_
    refine a_eV1 rfl lL_138 mo_X11_end (sp0_X11_end_lt I0_end.1 hn) rfl rfl rfl ⟨11, _, rfl, rfl, rfl⟩ rfl ?_
    refine a_l2 rfl rfl rfl ?_
    refine a_l0 rfl rfl rfl ?_
    refine a_l4 rfl rfl rfl ?_
    refine a_s rfl rfl ?_
    refine a_s rfl rfl ?_
    refine a_ialdc rfl scr_mem ⟨by decide, by decide⟩ ?_
    refine a_eV1 rfl lL_142 mo_X12_end (sp0_X12_end_lt I0_end.2 hn) rfl rfl rfl ⟨12, _, rfl, rfl, rfl⟩ rfl ?_
    refine a_ic_eq rfl (fun c381 => ?_) (fun c => absurd (rfl) c)
    exact fin_ok
  by_cases hn2 : 0 < xs (Int32.toNatClampNeg (0 + 1))
  · have hn := hn2
    refine a_l1 rfl rfl rfl ?_
    refine a_l0 rfl rfl rfl ?_
    refine a_l4 rfl rfl rfl ?_
    refine a_s rfl rfl ?_
    refine a_s rfl rfl ?_
    refine a_ialdc rfl scr_mem ⟨by decide, by decide⟩ ?_
    refine a_eV1 rfl lL_138 mo_X11_end (sp0_X11_end_gt I0_end.1 hn) rfl rfl rfl ⟨11, _, rfl, rfl, rfl⟩ rfl ?_
    refine a_l2 rfl rfl rfl ?_
    refine a_l0 rfl rfl rfl ?_
    refine a_l4 rfl rfl rfl ?_
    refine a_s rfl rfl ?_
    refine a_s rfl rfl ?_
    refine a_ialdc rfl scr_mem ⟨by decide, by decide⟩ ?_
    refine a_eV1 rfl lL_142 mo_X12_end (sp0_X12_end_gt I0_end.2 hn) rfl rfl rfl ⟨12, _, rfl, rfl, rfl⟩ rfl ?_
    refine a_ic_eq rfl (fun c381 => ?_) (fun c => absurd (rfl) c)
    exact fin_ok
  · have hn : xs (Int32.toNatClampNeg (0 + 1)) = 0 := Int32.le_antisymm (Int32.not_lt.mp hn2) (Int32.not_lt.mp hn)
    refine a_l1 rfl rfl rfl ?_
    refine a_l0 rfl rfl rfl ?_
    refine a_l4 rfl rfl rfl ?_
    refine a_s rfl rfl ?_
    refine a_s rfl rfl ?_
    refine a_ialdc rfl scr_mem ⟨by decide, by decide⟩ ?_
    refine a_eV1 rfl lL_138 mo_X11_end (sp0_X11_end_ok I0_end.1 hn) rfl rfl rfl ⟨11, _, rfl, rfl, rfl⟩ rfl ?_
    refine a_l2 rfl rfl rfl ?_
    refine a_l0 rfl rfl rfl ?_
    refine a_l4 rfl rfl rfl ?_
    refine a_s rfl rfl ?_
    refine a_s rfl rfl ?_
    refine a_ialdc rfl scr_mem ⟨by decide, by decide⟩ ?_
    refine a_eV1 rfl lL_142 mo_X12_end (sp0_X12_end_ok (by rw [up2_row (by decide)]; exact I0_end.2) hn) rfl rfl rfl ⟨12, _, rfl, rfl, rfl⟩ rfl ?_
    refine a_ic_eq rfl (fun c381 => ?_) (fun c => absurd (rfl) c)
    exact fin_ok
