/-! ===== nothing to go over: most ===== -/
set_option maxRecDepth 100000
theorem sp0_X12_most {S : aS} {I : Nat → Nat → Int32} {L : Nat → Nat → Int64} {w1 w2 t : Nat} (hd : I 421 1 = 0) : SpE S m_X12_most 14 [.ref 420] (hp I L w1 w2 t) (some (.int 0)) (hp (up2 I 420 0 0) L w1 w2 t) := by
  refine SpE_of ok_X12_most rfl rfl ?_
  show AW S m_X12_most 14 _ _ 0 0 0 [some (.ref 420), none, none, none] [] (hp I L w1 w2 t)
  refine a_l0 rfl rfl rfl ?_
  refine a_s rfl rfl ?_
  refine a_puti rfl pfX12_3_12 rfl ?_
  refine a_l0 rfl rfl rfl ?_
  refine a_eV1 rfl lX12_286 mo_X12_canOnes (sp0_X12_canOnes (by rw [up2_row (by decide)]; exact hd)) rfl rfl rfl ⟨12, _, rfl, rfl, rfl⟩ rfl ?_
  refine a_s1 rfl rfl rfl rfl rfl rfl ?_
  refine a_s rfl rfl ?_
  refine a_s2 rfl rfl rfl rfl rfl rfl ?_
  refine a_s rfl rfl ?_
  refine a_s3 rfl rfl rfl rfl rfl rfl ?_
  refine a_l3 rfl rfl rfl ?_
  refine a_l1 rfl rfl rfl ?_
  refine a_ic_gt rfl (fun c16 => ?_) (fun c => absurd (by decide) c)
  refine a_l2 rfl rfl rfl ?_
  refine a_iret rfl rfl ⟨rfl, rfl⟩
theorem sp0_X5_canBits {S : aS} {I : Nat → Nat → Int32} {L : Nat → Nat → Int64} {w1 w2 t : Nat} (hd : I 235 3 = nI 0) : SpE S m_X5_canBits 17 [.ref 235] (hp I L w1 w2 t) (some (.int 0)) (hp I L w1 w2 t) := sp_X5_canBits (by decide) hd (by decide)
theorem sp0_X0_mostCalled {S : aS} {I : Nat → Nat → Int32} {L : Nat → Nat → Int64} {w1 w2 t : Nat} (hd : I 235 3 = nI 0) : SpE S m_X0_mostCalled 18 [.ref 254, .ref 235] (hp I L w1 w2 t) (some (.int 0)) (hp I L w1 w2 t) := by
  refine SpE_of ok_X0_mostCalled rfl rfl ?_
  show AW S m_X0_mostCalled 18 _ _ 0 0 0 [some (.ref 254), some (.ref 235), none, none, none, none] [] (hp I L w1 w2 t)
  refine a_l1 rfl rfl rfl ?_
  refine a_eV1 rfl lX0_18 mo_X5_canBits (sp0_X5_canBits hd) rfl rfl rfl ⟨5, _, rfl, rfl, rfl⟩ rfl ?_
  refine a_s2 rfl rfl rfl rfl rfl rfl ?_
  refine a_s rfl rfl ?_
  refine a_s3 rfl rfl rfl rfl rfl rfl ?_
  refine a_l3 rfl rfl rfl ?_
  refine a_l1 rfl rfl rfl ?_
  refine a_geti rfl gfX0_24_5 rfl ?_
  rw [hd, show nI 0 = 0 from rfl]
  refine a_ic_ge rfl (fun c12 => ?_) (fun c => absurd (by decide) c)
  refine a_s rfl rfl ?_
  refine a_s3 rfl rfl rfl rfl rfl rfl ?_
  refine a_s rfl rfl ?_
  refine a_s4 rfl rfl rfl rfl rfl rfl ?_
  refine a_l4 rfl rfl rfl ?_
  refine a_l2 rfl rfl rfl ?_
  refine a_ic_gt rfl (fun c42 => ?_) (fun c => absurd (by decide) c)
  refine a_l3 rfl rfl rfl ?_
  refine a_iret rfl rfl ⟨rfl, rfl⟩
theorem sp0_X11_most {S : aS} {I : Nat → Nat → Int32} {L : Nat → Nat → Int64} {w1 w2 t : Nat} (hd : I 235 3 = nI 0) : SpE S m_X11_most 19 [.ref 200] (hp I L w1 w2 t) (some (.int 0)) (hp I L w1 w2 t) := by
  refine SpE_of ok_X11_most rfl rfl ?_
  show AW S m_X11_most 19 _ _ 0 0 0 [some (.ref 200)] [] (hp I L w1 w2 t)
  refine a_l0 rfl rfl rfl ?_
  refine a_getq rfl gfX11_51_11 rfl (rfl) ?_
  refine a_l0 rfl rfl rfl ?_
  refine a_getq rfl gfX11_37_11 rfl (rfl) ?_
  refine a_eV1 rfl lX11_275 mo_X0_mostCalled (sp0_X0_mostCalled hd) rfl rfl rfl ⟨0, _, rfl, rfl, rfl⟩ rfl ?_
  refine a_iret rfl rfl ⟨rfl, rfl⟩
theorem op_20 {xs : Nat → Int32} : OpOk xs 1361 := by
  show AW (S1 6 xs) m_L_main 1050 QM XM 599770 7281900 1361 [some (.ref 199), some (.ref 200), some (.ref 420), some (.ref 431), some (.int 0), none, none] [] (hp I0 L0 0 0 432)
  refine a_l1 rfl rfl rfl ?_
  refine a_eV1 rfl lL_209 mo_X11_most (sp0_X11_most I0_nd) rfl rfl rfl ⟨11, _, rfl, rfl, rfl⟩ rfl ?_
  refine a_l2 rfl rfl rfl ?_
  refine a_eV1 rfl lL_212 mo_X12_most (sp0_X12_most I0_none.2.1) rfl rfl rfl ⟨12, _, rfl, rfl, rfl⟩ rfl ?_
  refine a_ic_eq rfl (fun c1369 => ?_) (fun c => absurd (rfl) c)
  exact fin_ok
theorem sp0_X11_missed {S : aS} {I : Nat → Nat → Int32} {L : Nat → Nat → Int64} {w1 w2 t : Nat} (hd : I 235 3 = 0) : SpE S m_X11_missed 13 [.ref 200] (hp I L w1 w2 t) (some (.int 0)) (hp I L w1 w2 t) := by
  refine SpE_of ok_X11_missed rfl rfl ?_
  show AW S m_X11_missed 13 _ _ 0 0 0 [some (.ref 200), none, none] [] (hp I L w1 w2 t)
  refine a_s rfl rfl ?_
  refine a_s1 rfl rfl rfl rfl rfl rfl ?_
  refine a_s rfl rfl ?_
  refine a_s2 rfl rfl rfl rfl rfl rfl ?_
  refine a_l2 rfl rfl rfl ?_
  refine a_l0 rfl rfl rfl ?_
  refine a_getq rfl gfX11_37_11 rfl (rfl) ?_
  refine a_geti rfl gfX11_182_5 rfl ?_
  rw [hd]
  refine a_ic_ge rfl (fun c12 => ?_) (fun c => absurd (by decide) c)
  refine a_l1 rfl rfl rfl ?_
  refine a_iret rfl rfl ⟨rfl, rfl⟩
theorem sp0_X12_missed {S : aS} {I : Nat → Nat → Int32} {L : Nat → Nat → Int64} {w1 w2 t : Nat} (hd : I 421 1 = 0) : SpE S m_X12_missed 13 [.ref 420] (hp I L w1 w2 t) (some (.int 0)) (hp (up2 I 420 0 0) L w1 w2 t) := by
  refine SpE_of ok_X12_missed rfl rfl ?_
  show AW S m_X12_missed 13 _ _ 0 0 0 [some (.ref 420), none, none] [] (hp I L w1 w2 t)
  refine a_l0 rfl rfl rfl ?_
  refine a_s rfl rfl ?_
  refine a_puti rfl pfX12_3_12 rfl ?_
  refine a_s rfl rfl ?_
  refine a_s1 rfl rfl rfl rfl rfl rfl ?_
  refine a_s rfl rfl ?_
  refine a_s2 rfl rfl rfl rfl rfl rfl ?_
  refine a_l2 rfl rfl rfl ?_
  refine a_l0 rfl rfl rfl ?_
  refine a_eV1 rfl lX12_74 mo_X12_duties (sp_X12_duties) rfl rfl rfl ⟨12, _, rfl, rfl, rfl⟩ rfl ?_
  rw [up2_row (by decide), hd]
  refine a_ic_ge rfl (fun c14 => ?_) (fun c => absurd (by decide) c)
  refine a_l1 rfl rfl rfl ?_
  refine a_iret rfl rfl ⟨rfl, rfl⟩
theorem op_34 {xs : Nat → Int32} : OpOk xs 1934 := by
  show AW (S1 6 xs) m_L_main 1050 QM XM 599770 7281900 1934 [some (.ref 199), some (.ref 200), some (.ref 420), some (.ref 431), some (.int 0), none, none] [] (hp I0 L0 0 0 432)
  refine a_l1 rfl rfl rfl ?_
  refine a_eV1 rfl lL_257 mo_X11_missed (sp0_X11_missed I0_none.1) rfl rfl rfl ⟨11, _, rfl, rfl, rfl⟩ rfl ?_
  refine a_l2 rfl rfl rfl ?_
  refine a_eV1 rfl lL_260 mo_X12_missed (sp0_X12_missed I0_none.2.1) rfl rfl rfl ⟨12, _, rfl, rfl, rfl⟩ rfl ?_
  refine a_ic_eq rfl (fun c1942 => ?_) (fun c => absurd (rfl) c)
  exact fin_ok
