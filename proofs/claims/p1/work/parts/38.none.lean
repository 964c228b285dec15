/-! ===== nothing to go over ===== -/
set_option maxRecDepth 100000
theorem sp0_X11_sponsor {S : aS} {I : Nat → Nat → Int32} {L : Nat → Nat → Int64} {w1 w2 t : Nat} (hd : I 235 3 = 0) (hp0 : I 235 0 = 0) : SpE S m_X11_sponsor 13 [.ref 200] (hp I L w1 w2 t) (some (.int 0)) (hp I L w1 w2 t) := by
  refine SpE_of ok_X11_sponsor rfl rfl ?_
  show AW S m_X11_sponsor 13 _ _ 0 0 0 [some (.ref 200), none, none] [] (hp I L w1 w2 t)
  refine a_s rfl rfl ?_
  refine a_s1 rfl rfl rfl rfl rfl rfl ?_
  refine a_s rfl rfl ?_
  refine a_s2 rfl rfl rfl rfl rfl rfl ?_
  refine a_l2 rfl rfl rfl ?_
  refine a_l0 rfl rfl rfl ?_
  refine a_getq rfl gfX11_37_11 rfl (rfl) ?_
  refine a_geti rfl gfX11_182_5 rfl ?_
  rw [hd]
  refine a_ic_ge rfl (fun c12 => ?_) (fun c => absurd (by decide) c)
  refine a_l1 rfl rfl rfl ?_
  refine a_iret rfl rfl ⟨rfl, rfl⟩
theorem sp0_X12_sponsor {S : aS} {I : Nat → Nat → Int32} {L : Nat → Nat → Int64} {w1 w2 t : Nat} (hd : I 421 1 = 0) (hp0 : I 421 0 = 0) : SpE S m_X12_sponsor 13 [.ref 420] (hp I L w1 w2 t) (some (.int 0)) (hp (up2 I 420 0 0) L w1 w2 t) := by
  refine SpE_of ok_X12_sponsor rfl rfl ?_
  show AW S m_X12_sponsor 13 _ _ 0 0 0 [some (.ref 420), none, none] [] (hp I L w1 w2 t)
  refine a_l0 rfl rfl rfl ?_
  refine a_s rfl rfl ?_
  refine a_puti rfl pfX12_3_12 rfl ?_
  refine a_s rfl rfl ?_
  refine a_s1 rfl rfl rfl rfl rfl rfl ?_
  refine a_s rfl rfl ?_
  refine a_s2 rfl rfl rfl rfl rfl rfl ?_
  refine a_l2 rfl rfl rfl ?_
  refine a_l0 rfl rfl rfl ?_
  refine a_eV1 rfl lX12_74 mo_X12_duties (sp_X12_duties) rfl rfl rfl ⟨12, _, rfl, rfl, rfl⟩ rfl ?_
  rw [up2_row (by decide), hd]
  refine a_ic_ge rfl (fun c14 => ?_) (fun c => absurd (by decide) c)
  refine a_l1 rfl rfl rfl ?_
  refine a_iret rfl rfl ⟨rfl, rfl⟩
theorem sp0_X11_idle {S : aS} {I : Nat → Nat → Int32} {L : Nat → Nat → Int64} {w1 w2 t : Nat} (hd : I 235 3 = 0) (hp0 : I 235 0 = 0) : SpE S m_X11_idle 13 [.ref 200] (hp I L w1 w2 t) (some (.int (-1))) (hp I L w1 w2 t) := by
  refine SpE_of ok_X11_idle rfl rfl ?_
  show AW S m_X11_idle 13 _ _ 0 0 0 [some (.ref 200), none, none, none, none] [] (hp I L w1 w2 t)
  refine a_s rfl rfl ?_
  refine a_s1 rfl rfl rfl rfl rfl rfl ?_
  refine a_s rfl rfl ?_
  refine a_s2 rfl rfl rfl rfl rfl rfl ?_
  refine a_s rfl rfl ?_
  refine a_s3 rfl rfl rfl rfl rfl rfl ?_
  refine a_l3 rfl rfl rfl ?_
  refine a_l0 rfl rfl rfl ?_
  refine a_getq rfl gfX11_37_11 rfl (rfl) ?_
  refine a_geti rfl gfX11_179_5 rfl ?_
  rw [hp0]
  refine a_ic_ge rfl (fun c14 => ?_) (fun c => absurd (by decide) c)
  refine a_l1 rfl rfl rfl ?_
  refine a_iret rfl rfl ⟨rfl, rfl⟩
theorem sp0_X12_idle {S : aS} {I : Nat → Nat → Int32} {L : Nat → Nat → Int64} {w1 w2 t : Nat} (hd : I 421 1 = 0) (hp0 : I 421 0 = 0) : SpE S m_X12_idle 13 [.ref 420] (hp I L w1 w2 t) (some (.int (-1))) (hp (up2 I 420 0 0) L w1 w2 t) := by
  refine SpE_of ok_X12_idle rfl rfl ?_
  show AW S m_X12_idle 13 _ _ 0 0 0 [some (.ref 420), none, none] [] (hp I L w1 w2 t)
  refine a_l0 rfl rfl rfl ?_
  refine a_s rfl rfl ?_
  refine a_puti rfl pfX12_3_12 rfl ?_
  refine a_s rfl rfl ?_
  refine a_s1 rfl rfl rfl rfl rfl rfl ?_
  refine a_s rfl rfl ?_
  refine a_s2 rfl rfl rfl rfl rfl rfl ?_
  refine a_l2 rfl rfl rfl ?_
  refine a_l0 rfl rfl rfl ?_
  refine a_eV1 rfl lX12_66 mo_X12_people (sp_X12_people) rfl rfl rfl ⟨12, _, rfl, rfl, rfl⟩ rfl ?_
  rw [up2_row (by decide), hp0]
  refine a_ic_ge rfl (fun c14 => ?_) (fun c => absurd (by decide) c)
  refine a_l1 rfl rfl rfl ?_
  refine a_iret rfl rfl ⟨rfl, rfl⟩
theorem sp0_X11_worst {S : aS} {I : Nat → Nat → Int32} {L : Nat → Nat → Int64} {w1 w2 t : Nat} (hd : I 235 3 = 0) (hp0 : I 235 0 = 0) : SpE S m_X11_worst 13 [.ref 200] (hp I L w1 w2 t) (some (.int (-1))) (hp I L w1 w2 t) := by
  refine SpE_of ok_X11_worst rfl rfl ?_
  show AW S m_X11_worst 13 _ _ 0 0 0 [some (.ref 200), none, none, none, none] [] (hp I L w1 w2 t)
  refine a_s rfl rfl ?_
  refine a_s1 rfl rfl rfl rfl rfl rfl ?_
  refine a_s rfl rfl ?_
  refine a_s2 rfl rfl rfl rfl rfl rfl ?_
  refine a_s rfl rfl ?_
  refine a_s3 rfl rfl rfl rfl rfl rfl ?_
  refine a_l3 rfl rfl rfl ?_
  refine a_l0 rfl rfl rfl ?_
  refine a_getq rfl gfX11_37_11 rfl (rfl) ?_
  refine a_geti rfl gfX11_182_5 rfl ?_
  rw [hd]
  refine a_ic_ge rfl (fun c14 => ?_) (fun c => absurd (by decide) c)
  refine a_l1 rfl rfl rfl ?_
  refine a_iret rfl rfl ⟨rfl, rfl⟩
theorem sp0_X12_worst {S : aS} {I : Nat → Nat → Int32} {L : Nat → Nat → Int64} {w1 w2 t : Nat} (hd : I 421 1 = 0) (hp0 : I 421 0 = 0) : SpE S m_X12_worst 13 [.ref 420] (hp I L w1 w2 t) (some (.int (-1))) (hp (up2 I 420 0 0) L w1 w2 t) := by
  refine SpE_of ok_X12_worst rfl rfl ?_
  show AW S m_X12_worst 13 _ _ 0 0 0 [some (.ref 420), none, none] [] (hp I L w1 w2 t)
  refine a_l0 rfl rfl rfl ?_
  refine a_s rfl rfl ?_
  refine a_puti rfl pfX12_3_12 rfl ?_
  refine a_s rfl rfl ?_
  refine a_s1 rfl rfl rfl rfl rfl rfl ?_
  refine a_s rfl rfl ?_
  refine a_s2 rfl rfl rfl rfl rfl rfl ?_
  refine a_l2 rfl rfl rfl ?_
  refine a_l0 rfl rfl rfl ?_
  refine a_eV1 rfl lX12_74 mo_X12_duties (sp_X12_duties) rfl rfl rfl ⟨12, _, rfl, rfl, rfl⟩ rfl ?_
  rw [up2_row (by decide), hd]
  refine a_ic_ge rfl (fun c14 => ?_) (fun c => absurd (by decide) c)
  refine a_l1 rfl rfl rfl ?_
  refine a_iret rfl rfl ⟨rfl, rfl⟩
theorem sp0_X11_alike {S : aS} {I : Nat → Nat → Int32} {L : Nat → Nat → Int64} {w1 w2 t : Nat} (hd : I 235 3 = 0) (hp0 : I 235 0 = 0) : SpE S m_X11_alike 13 [.ref 200] (hp I L w1 w2 t) (some (.int 0)) (hp I L w1 w2 t) := by
  refine SpE_of ok_X11_alike rfl rfl ?_
  show AW S m_X11_alike 13 _ _ 0 0 0 [some (.ref 200), none, none, none] [] (hp I L w1 w2 t)
  refine a_s rfl rfl ?_
  refine a_s1 rfl rfl rfl rfl rfl rfl ?_
  refine a_s rfl rfl ?_
  refine a_s2 rfl rfl rfl rfl rfl rfl ?_
  refine a_l2 rfl rfl rfl ?_
  refine a_l0 rfl rfl rfl ?_
  refine a_getq rfl gfX11_37_11 rfl (rfl) ?_
  refine a_geti rfl gfX11_182_5 rfl ?_
  rw [hd]
  refine a_ic_ge rfl (fun c12 => ?_) (fun c => absurd (by decide) c)
  refine a_l1 rfl rfl rfl ?_
  refine a_iret rfl rfl ⟨rfl, rfl⟩
theorem sp0_X12_alike {S : aS} {I : Nat → Nat → Int32} {L : Nat → Nat → Int64} {w1 w2 t : Nat} (hd : I 421 1 = 0) (hp0 : I 421 0 = 0) : SpE S m_X12_alike 13 [.ref 420] (hp I L w1 w2 t) (some (.int 0)) (hp (up2 I 420 0 0) L w1 w2 t) := by
  refine SpE_of ok_X12_alike rfl rfl ?_
  show AW S m_X12_alike 13 _ _ 0 0 0 [some (.ref 420), none, none, none] [] (hp I L w1 w2 t)
  refine a_l0 rfl rfl rfl ?_
  refine a_s rfl rfl ?_
  refine a_puti rfl pfX12_3_12 rfl ?_
  refine a_s rfl rfl ?_
  refine a_s1 rfl rfl rfl rfl rfl rfl ?_
  refine a_s rfl rfl ?_
  refine a_s2 rfl rfl rfl rfl rfl rfl ?_
  refine a_l2 rfl rfl rfl ?_
  refine a_l0 rfl rfl rfl ?_
  refine a_eV1 rfl lX12_74 mo_X12_duties (sp_X12_duties) rfl rfl rfl ⟨12, _, rfl, rfl, rfl⟩ rfl ?_
  rw [up2_row (by decide), hd]
  refine a_ic_ge rfl (fun c14 => ?_) (fun c => absurd (by decide) c)
  refine a_l1 rfl rfl rfl ?_
  refine a_iret rfl rfl ⟨rfl, rfl⟩
theorem sp0_X11_longest {S : aS} {I : Nat → Nat → Int32} {L : Nat → Nat → Int64} {w1 w2 t : Nat} (hd : I 235 3 = 0) (hp0 : I 235 0 = 0) : SpE S m_X11_longest 13 [.ref 200] (hp I L w1 w2 t) (some (.int 0)) (hp I L w1 w2 t) := by
  refine SpE_of ok_X11_longest rfl rfl ?_
  show AW S m_X11_longest 13 _ _ 0 0 0 [some (.ref 200), none, none] [] (hp I L w1 w2 t)
  refine a_s rfl rfl ?_
  refine a_s1 rfl rfl rfl rfl rfl rfl ?_
  refine a_s rfl rfl ?_
  refine a_s2 rfl rfl rfl rfl rfl rfl ?_
  refine a_l2 rfl rfl rfl ?_
  refine a_l0 rfl rfl rfl ?_
  refine a_getq rfl gfX11_37_11 rfl (rfl) ?_
  refine a_geti rfl gfX11_182_5 rfl ?_
  rw [hd]
  refine a_ic_ge rfl (fun c12 => ?_) (fun c => absurd (by decide) c)
  refine a_l1 rfl rfl rfl ?_
  refine a_iret rfl rfl ⟨rfl, rfl⟩
theorem sp0_X12_longest {S : aS} {I : Nat → Nat → Int32} {L : Nat → Nat → Int64} {w1 w2 t : Nat} (hd : I 421 1 = 0) (hp0 : I 421 0 = 0) : SpE S m_X12_longest 13 [.ref 420] (hp I L w1 w2 t) (some (.int 0)) (hp (up2 I 420 0 0) L w1 w2 t) := by
  refine SpE_of ok_X12_longest rfl rfl ?_
  show AW S m_X12_longest 13 _ _ 0 0 0 [some (.ref 420), none, none] [] (hp I L w1 w2 t)
  refine a_l0 rfl rfl rfl ?_
  refine a_s rfl rfl ?_
  refine a_puti rfl pfX12_3_12 rfl ?_
  refine a_s rfl rfl ?_
  refine a_s1 rfl rfl rfl rfl rfl rfl ?_
  refine a_s rfl rfl ?_
  refine a_s2 rfl rfl rfl rfl rfl rfl ?_
  refine a_l2 rfl rfl rfl ?_
  refine a_l0 rfl rfl rfl ?_
  refine a_eV1 rfl lX12_74 mo_X12_duties (sp_X12_duties) rfl rfl rfl ⟨12, _, rfl, rfl, rfl⟩ rfl ?_
  rw [up2_row (by decide), hd]
  refine a_ic_ge rfl (fun c14 => ?_) (fun c => absurd (by decide) c)
  refine a_l1 rfl rfl rfl ?_
  refine a_iret rfl rfl ⟨rfl, rfl⟩
theorem sp0_X12_ringOnes {S : aS} {I : Nat → Nat → Int32} {L : Nat → Nat → Int64} {w1 w2 t : Nat} (hd : I 421 1 = 0) : SpE S m_X12_ringOnes 13 [.ref 420] (hp I L w1 w2 t) (some (.int 0)) (hp I L w1 w2 t) := by
  refine SpE_of ok_X12_ringOnes rfl rfl ?_
  show AW S m_X12_ringOnes 13 _ _ 0 0 0 [some (.ref 420), none, none] [] (hp I L w1 w2 t)
  refine a_s rfl rfl ?_
  refine a_s1 rfl rfl rfl rfl rfl rfl ?_
  refine a_s rfl rfl ?_
  refine a_s2 rfl rfl rfl rfl rfl rfl ?_
  refine a_l2 rfl rfl rfl ?_
  refine a_l0 rfl rfl rfl ?_
  refine a_eV1 rfl lX12_74 mo_X12_duties (sp_X12_duties) rfl rfl rfl ⟨12, _, rfl, rfl, rfl⟩ rfl ?_
  rw [hd]
  refine a_ic_ge rfl (fun c9 => ?_) (fun c => absurd (by decide) c)
  refine a_l1 rfl rfl rfl ?_
  refine a_iret rfl rfl ⟨rfl, rfl⟩
theorem sp0_X12_canOnes {S : aS} {I : Nat → Nat → Int32} {L : Nat → Nat → Int64} {w1 w2 t : Nat} (hd : I 421 1 = 0) : SpE S m_X12_canOnes 13 [.ref 420] (hp I L w1 w2 t) (some (.int 0)) (hp I L w1 w2 t) := by
  refine SpE_of ok_X12_canOnes rfl rfl ?_
  show AW S m_X12_canOnes 13 _ _ 0 0 0 [some (.ref 420), none, none] [] (hp I L w1 w2 t)
  refine a_s rfl rfl ?_
  refine a_s1 rfl rfl rfl rfl rfl rfl ?_
  refine a_s rfl rfl ?_
  refine a_s2 rfl rfl rfl rfl rfl rfl ?_
  refine a_l2 rfl rfl rfl ?_
  refine a_l0 rfl rfl rfl ?_
  refine a_eV1 rfl lX12_74 mo_X12_duties (sp_X12_duties) rfl rfl rfl ⟨12, _, rfl, rfl, rfl⟩ rfl ?_
  rw [hd]
  refine a_ic_ge rfl (fun c9 => ?_) (fun c => absurd (by decide) c)
  refine a_l1 rfl rfl rfl ?_
  refine a_iret rfl rfl ⟨rfl, rfl⟩
theorem sp0_X12_ring {S : aS} {I : Nat → Nat → Int32} {L : Nat → Nat → Int64} {w1 w2 t : Nat} (hd : I 421 1 = 0) : SpE S m_X12_ring 14 [.ref 420] (hp I L w1 w2 t) (some (.int 0)) (hp (up2 I 420 0 0) L w1 w2 t) := by
  refine SpE_of ok_X12_ring rfl rfl ?_
  show AW S m_X12_ring 14 _ _ 0 0 0 [some (.ref 420)] [] (hp I L w1 w2 t)
  refine a_l0 rfl rfl rfl ?_
  refine a_s rfl rfl ?_
  refine a_puti rfl pfX12_3_12 rfl ?_
  refine a_l0 rfl rfl rfl ?_
  refine a_eV1 rfl lX12_420 mo_X12_ringOnes (sp0_X12_ringOnes (by rw [up2_row (by decide)]; exact hd)) rfl rfl rfl ⟨12, _, rfl, rfl, rfl⟩ rfl ?_
  refine a_iret rfl rfl ⟨rfl, rfl⟩
theorem sp0_X12_can {S : aS} {I : Nat → Nat → Int32} {L : Nat → Nat → Int64} {w1 w2 t : Nat} (hd : I 421 1 = 0) : SpE S m_X12_can 14 [.ref 420] (hp I L w1 w2 t) (some (.int 0)) (hp (up2 I 420 0 0) L w1 w2 t) := by
  refine SpE_of ok_X12_can rfl rfl ?_
  show AW S m_X12_can 14 _ _ 0 0 0 [some (.ref 420)] [] (hp I L w1 w2 t)
  refine a_l0 rfl rfl rfl ?_
  refine a_s rfl rfl ?_
  refine a_puti rfl pfX12_3_12 rfl ?_
  refine a_l0 rfl rfl rfl ?_
  refine a_eV1 rfl lX12_286 mo_X12_canOnes (sp0_X12_canOnes (by rw [up2_row (by decide)]; exact hd)) rfl rfl rfl ⟨12, _, rfl, rfl, rfl⟩ rfl ?_
  refine a_iret rfl rfl ⟨rfl, rfl⟩
theorem sp0_X4_ringBits {S : aS} {I : Nat → Nat → Int32} {L : Nat → Nat → Int64} {w1 w2 t : Nat} (hd : I 235 3 = 0) : SpE S m_X4_ringBits 13 [.ref 235] (hp I L w1 w2 t) (some (.int 0)) (hp I L w1 w2 t) := by
  refine SpE_of ok_X4_ringBits rfl rfl ?_
  show AW S m_X4_ringBits 13 _ _ 0 0 0 [some (.ref 235), none, none] [] (hp I L w1 w2 t)
  refine a_s rfl rfl ?_
  refine a_s1 rfl rfl rfl rfl rfl rfl ?_
  refine a_s rfl rfl ?_
  refine a_s2 rfl rfl rfl rfl rfl rfl ?_
  refine a_l2 rfl rfl rfl ?_
  refine a_l0 rfl rfl rfl ?_
  refine a_geti rfl gfX4_23_5 rfl ?_
  rw [hd]
  refine a_ic_ge rfl (fun c9 => ?_) (fun c => absurd (by decide) c)
  refine a_l1 rfl rfl rfl ?_
  refine a_iret rfl rfl ⟨rfl, rfl⟩
theorem sp0_X11_ring {S : aS} {I : Nat → Nat → Int32} {L : Nat → Nat → Int64} {w1 w2 t : Nat} (hd : I 235 3 = 0) : SpE S m_X11_ring 14 [.ref 200] (hp I L w1 w2 t) (some (.int 0)) (hp I L w1 w2 t) := by
  refine SpE_of ok_X11_ring rfl rfl ?_
  show AW S m_X11_ring 14 _ _ 0 0 0 [some (.ref 200)] [] (hp I L w1 w2 t)
  refine a_l0 rfl rfl rfl ?_
  refine a_getq rfl gfX11_37_11 rfl (rfl) ?_
  refine a_eS1 rfl lX11_295 mo_X4_ringBits (sp0_X4_ringBits hd) rfl rfl rfl rfl ?_
  refine a_iret rfl rfl ⟨rfl, rfl⟩
theorem I0_nd : I0 235 3 = nI 0 := by decide +kernel
theorem sp0_X11_can {S : aS} {I : Nat → Nat → Int32} {L : Nat → Nat → Int64} {w1 w2 t : Nat} (hd : I 235 3 = nI 0) : SpE S m_X11_can 18 [.ref 200] (hp I L w1 w2 t) (some (.int 0)) (hp I L w1 w2 t) := by
  refine SpE_of ok_X11_can rfl rfl ?_
  show AW S m_X11_can 18 _ _ 0 0 0 [some (.ref 200)] [] (hp I L w1 w2 t)
  refine a_l0 rfl rfl rfl ?_
  refine a_getq rfl gfX11_37_11 rfl (rfl) ?_
  refine a_eV1 rfl lX11_220 mo_X5_canBits (sp_X5_canBits (by decide) hd (by decide)) rfl rfl rfl ⟨5, _, rfl, rfl, rfl⟩ rfl ?_
  refine a_iret rfl rfl ⟨rfl, rfl⟩
theorem op_37 {xs : Nat → Int32} : OpOk xs 2095 := by
  show AW (S1 6 xs) m_L_main 1050 QM XM 599770 7281900 2095 [some (.ref 199), some (.ref 200), some (.ref 420), some (.ref 431), some (.int 0), none, none] [] (hp I0 L0 0 0 432)
  refine a_l1 rfl rfl rfl ?_
  refine a_eV1 rfl lL_267 mo_X11_sponsor (sp0_X11_sponsor I0_none.1 I0_none.2.2.1) rfl rfl rfl ⟨11, _, rfl, rfl, rfl⟩ rfl ?_
  refine a_l2 rfl rfl rfl ?_
  refine a_eV1 rfl lL_270 mo_X12_sponsor (sp0_X12_sponsor I0_none.2.1 I0_none.2.2.2) rfl rfl rfl ⟨12, _, rfl, rfl, rfl⟩ rfl ?_
  refine a_ic_eq rfl (fun c2103 => ?_) (fun c => absurd (rfl) c)
  exact fin_ok
theorem op_38 {xs : Nat → Int32} : OpOk xs 2108 := by
  show AW (S1 6 xs) m_L_main 1050 QM XM 599770 7281900 2108 [some (.ref 199), some (.ref 200), some (.ref 420), some (.ref 431), some (.int 0), none, none] [] (hp I0 L0 0 0 432)
  refine a_l1 rfl rfl rfl ?_
  refine a_eV1 rfl lL_271 mo_X11_idle (sp0_X11_idle I0_none.1 I0_none.2.2.1) rfl rfl rfl ⟨11, _, rfl, rfl, rfl⟩ rfl ?_
  refine a_l2 rfl rfl rfl ?_
  refine a_eV1 rfl lL_274 mo_X12_idle (sp0_X12_idle I0_none.2.1 I0_none.2.2.2) rfl rfl rfl ⟨12, _, rfl, rfl, rfl⟩ rfl ?_
  refine a_ic_eq rfl (fun c2116 => ?_) (fun c => absurd (rfl) c)
  exact fin_ok
theorem op_39 {xs : Nat → Int32} : OpOk xs 2121 := by
  show AW (S1 6 xs) m_L_main 1050 QM XM 599770 7281900 2121 [some (.ref 199), some (.ref 200), some (.ref 420), some (.ref 431), some (.int 0), none, none] [] (hp I0 L0 0 0 432)
  refine a_l1 rfl rfl rfl ?_
  refine a_eV1 rfl lL_275 mo_X11_worst (sp0_X11_worst I0_none.1 I0_none.2.2.1) rfl rfl rfl ⟨11, _, rfl, rfl, rfl⟩ rfl ?_
  refine a_l2 rfl rfl rfl ?_
  refine a_eV1 rfl lL_278 mo_X12_worst (sp0_X12_worst I0_none.2.1 I0_none.2.2.2) rfl rfl rfl ⟨12, _, rfl, rfl, rfl⟩ rfl ?_
  refine a_ic_eq rfl (fun c2129 => ?_) (fun c => absurd (rfl) c)
  exact fin_ok
theorem op_47 {xs : Nat → Int32} : OpOk xs 2421 := by
  show AW (S1 6 xs) m_L_main 1050 QM XM 599770 7281900 2421 [some (.ref 199), some (.ref 200), some (.ref 420), some (.ref 431), some (.int 0), none, none] [] (hp I0 L0 0 0 432)
  refine a_l1 rfl rfl rfl ?_
  refine a_eV1 rfl lL_303 mo_X11_alike (sp0_X11_alike I0_none.1 I0_none.2.2.1) rfl rfl rfl ⟨11, _, rfl, rfl, rfl⟩ rfl ?_
  refine a_l2 rfl rfl rfl ?_
  refine a_eV1 rfl lL_306 mo_X12_alike (sp0_X12_alike I0_none.2.1 I0_none.2.2.2) rfl rfl rfl ⟨12, _, rfl, rfl, rfl⟩ rfl ?_
  refine a_ic_eq rfl (fun c2429 => ?_) (fun c => absurd (rfl) c)
  exact fin_ok
theorem op_23 {xs : Nat → Int32} : OpOk xs 1514 := by
  show AW (S1 6 xs) m_L_main 1050 QM XM 599770 7281900 1514 [some (.ref 199), some (.ref 200), some (.ref 420), some (.ref 431), some (.int 0), none, none] [] (hp I0 L0 0 0 432)
  refine a_l1 rfl rfl rfl ?_
  refine a_eV1 rfl lL_220 mo_X11_longest (sp0_X11_longest I0_none.1 I0_none.2.2.1) rfl rfl rfl ⟨11, _, rfl, rfl, rfl⟩ rfl ?_
  refine a_l2 rfl rfl rfl ?_
  refine a_eV1 rfl lL_223 mo_X12_longest (sp0_X12_longest I0_none.2.1 I0_none.2.2.2) rfl rfl rfl ⟨12, _, rfl, rfl, rfl⟩ rfl ?_
  refine a_ic_eq rfl (fun c1522 => ?_) (fun c => absurd (rfl) c)
  exact fin_ok
theorem op_24 {xs : Nat → Int32} : OpOk xs 1527 := by
  show AW (S1 6 xs) m_L_main 1050 QM XM 599770 7281900 1527 [some (.ref 199), some (.ref 200), some (.ref 420), some (.ref 431), some (.int 0), none, none] [] (hp I0 L0 0 0 432)
  refine a_l1 rfl rfl rfl ?_
  refine a_eV1 rfl lL_224 mo_X11_ring (sp0_X11_ring I0_none.1) rfl rfl rfl ⟨11, _, rfl, rfl, rfl⟩ rfl ?_
  refine a_l2 rfl rfl rfl ?_
  refine a_eV1 rfl lL_227 mo_X12_ring (sp0_X12_ring I0_none.2.1) rfl rfl rfl ⟨12, _, rfl, rfl, rfl⟩ rfl ?_
  refine a_ic_eq rfl (fun c1535 => ?_) (fun c => absurd (rfl) c)
  exact fin_ok
theorem op_16 {xs : Nat → Int32} : OpOk xs 1132 := by
  show AW (S1 6 xs) m_L_main 1050 QM XM 599770 7281900 1132 [some (.ref 199), some (.ref 200), some (.ref 420), some (.ref 431), some (.int 0), none, none] [] (hp I0 L0 0 0 432)
  refine a_l1 rfl rfl rfl ?_
  refine a_eV1 rfl lL_195 mo_X11_can (sp0_X11_can I0_nd) rfl rfl rfl ⟨11, _, rfl, rfl, rfl⟩ rfl ?_
  refine a_l2 rfl rfl rfl ?_
  refine a_eV1 rfl lL_198 mo_X12_can (sp0_X12_can I0_none.2.1) rfl rfl rfl ⟨12, _, rfl, rfl, rfl⟩ rfl ?_
  refine a_ic_eq rfl (fun c1140 => ?_) (fun c => absurd (rfl) c)
  exact fin_ok
