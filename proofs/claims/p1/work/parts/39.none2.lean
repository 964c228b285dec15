/-! ===== nothing to go over, further ===== -/
set_option maxRecDepth 100000
theorem sp0_X5_dutyAt {S : aS} {I : Nat → Nat → Int32} {L : Nat → Nat → Int64} {w1 w2 t : Nat} {x : Int32} (hd : I 235 3 = 0) : SpE S m_X5_dutyAt 13 [.ref 235, .int x] (hp I L w1 w2 t) (some (.int (-1))) (hp I L w1 w2 t) := by
  refine SpE_of ok_X5_dutyAt rfl rfl ?_
  show AW S m_X5_dutyAt 13 _ _ 0 0 0 [some (.ref 235), some (.int x), none] [] (hp I L w1 w2 t)
  refine a_s rfl rfl ?_
  refine a_s2 rfl rfl rfl rfl rfl rfl ?_
  refine a_l2 rfl rfl rfl ?_
  refine a_l0 rfl rfl rfl ?_
  refine a_geti rfl gfX5_63_5 rfl ?_
  rw [hd]
  refine a_ic_ge rfl (fun c7 => ?_) (fun c => absurd (by decide) c)
  refine a_s rfl rfl ?_
  refine a_iret rfl rfl ⟨rfl, rfl⟩
theorem sp0_X11_parade {S : aS} {I : Nat → Nat → Int32} {L : Nat → Nat → Int64} {w1 w2 t : Nat} {x : Int32} (hd : I 235 3 = 0) : SpE S m_X11_parade 14 [.ref 200, .int x] (hp I L w1 w2 t) (some (.int (-1))) (hp I L w1 w2 t) := by
  refine SpE_of ok_X11_parade rfl rfl ?_
  show AW S m_X11_parade 14 _ _ 0 0 0 [some (.ref 200), some (.int x)] [] (hp I L w1 w2 t)
  refine a_l0 rfl rfl rfl ?_
  refine a_getq rfl gfX11_37_11 rfl (rfl) ?_
  refine a_l1 rfl rfl rfl ?_
  refine a_eV1 rfl lX11_266 mo_X5_dutyAt (sp0_X5_dutyAt hd) rfl rfl rfl ⟨5, _, rfl, rfl, rfl⟩ rfl ?_
  refine a_iret rfl rfl ⟨rfl, rfl⟩
theorem sp0_X12_parade {S : aS} {I : Nat → Nat → Int32} {L : Nat → Nat → Int64} {w1 w2 t : Nat} {x : Int32} (hd : I 421 1 = 0) : SpE S m_X12_parade 13 [.ref 420, .int x] (hp I L w1 w2 t) (some (.int (-1))) (hp (up2 I 420 0 0) L w1 w2 t) := by
  refine SpE_of ok_X12_parade rfl rfl ?_
  show AW S m_X12_parade 13 _ _ 0 0 0 [some (.ref 420), some (.int x), none] [] (hp I L w1 w2 t)
  refine a_l0 rfl rfl rfl ?_
  refine a_s rfl rfl ?_
  refine a_puti rfl pfX12_3_12 rfl ?_
  refine a_s rfl rfl ?_
  refine a_s2 rfl rfl rfl rfl rfl rfl ?_
  refine a_l2 rfl rfl rfl ?_
  refine a_l0 rfl rfl rfl ?_
  refine a_eV1 rfl lX12_74 mo_X12_duties (sp_X12_duties) rfl rfl rfl ⟨12, _, rfl, rfl, rfl⟩ rfl ?_
  rw [up2_row (by decide), hd]
  refine a_ic_ge rfl (fun c12 => ?_) (fun c => absurd (by decide) c)
  refine a_s rfl rfl ?_
  refine a_iret rfl rfl ⟨rfl, rfl⟩
theorem sp0_X12_ofState {S : aS} {I : Nat → Nat → Int32} {L : Nat → Nat → Int64} {w1 w2 t : Nat} {x : Int32} (hd : I 421 1 = 0) : SpE S m_X12_ofState 13 [.ref 420, .int x] (hp I L w1 w2 t) (some (.int 0)) (hp I L w1 w2 t) := by
  refine SpE_of ok_X12_ofState rfl rfl ?_
  show AW S m_X12_ofState 13 _ _ 0 0 0 [some (.ref 420), some (.int x), none, none] [] (hp I L w1 w2 t)
  refine a_s rfl rfl ?_
  refine a_s2 rfl rfl rfl rfl rfl rfl ?_
  refine a_s rfl rfl ?_
  refine a_s3 rfl rfl rfl rfl rfl rfl ?_
  refine a_l3 rfl rfl rfl ?_
  refine a_l0 rfl rfl rfl ?_
  refine a_eV1 rfl lX12_74 mo_X12_duties (sp_X12_duties) rfl rfl rfl ⟨12, _, rfl, rfl, rfl⟩ rfl ?_
  rw [hd]
  refine a_ic_ge rfl (fun c9 => ?_) (fun c => absurd (by decide) c)
  refine a_l2 rfl rfl rfl ?_
  refine a_iret rfl rfl ⟨rfl, rfl⟩
theorem sp0_X12_lost {S : aS} {I : Nat → Nat → Int32} {L : Nat → Nat → Int64} {w1 w2 t : Nat} (hd : I 421 1 = 0) : SpE S m_X12_lost 14 [.ref 420] (hp I L w1 w2 t) (some (.int 0)) (hp (up2 I 420 0 0) L w1 w2 t) := by
  refine SpE_of ok_X12_lost rfl rfl ?_
  show AW S m_X12_lost 14 _ _ 0 0 0 [some (.ref 420)] [] (hp I L w1 w2 t)
  refine a_l0 rfl rfl rfl ?_
  refine a_s rfl rfl ?_
  refine a_puti rfl pfX12_3_12 rfl ?_
  refine a_l0 rfl rfl rfl ?_
  refine a_s rfl rfl ?_
  refine a_eV1 rfl lX12_324 mo_X12_ofState (sp0_X12_ofState (by rw [up2_row (by decide)]; exact hd)) rfl rfl rfl ⟨12, _, rfl, rfl, rfl⟩ rfl ?_
  refine a_iret rfl rfl ⟨rfl, rfl⟩
theorem sp0_X11_lost {S : aS} {I : Nat → Nat → Int32} {L : Nat → Nat → Int64} {w1 w2 t : Nat} (hd : I 235 3 = nI 0) : SpE S m_X11_lost 16 [.ref 200] (hp I L w1 w2 t) (some (.int 0)) (hp I L w1 w2 t) := by
  refine SpE_of ok_X11_lost rfl rfl ?_
  show AW S m_X11_lost 16 _ _ 0 0 0 [some (.ref 200)] [] (hp I L w1 w2 t)
  refine a_l0 rfl rfl rfl ?_
  refine a_getq rfl gfX11_37_11 rfl (rfl) ?_
  refine a_s rfl rfl ?_
  refine a_eV1 rfl lX11_200 mo_X5_bitsIn (sp_X5_bitsIn (by decide) hd (by decide)) rfl rfl rfl ⟨5, _, rfl, rfl, rfl⟩ rfl ?_
  refine a_iret rfl rfl ⟨rfl, rfl⟩
theorem op_15 {xs : Nat → Int32} : OpOk xs 1107 := by
  show AW (S1 6 xs) m_L_main 1050 QM XM 599770 7281900 1107 [some (.ref 199), some (.ref 200), some (.ref 420), some (.ref 431), some (.int 0), none, none] [] (hp I0 L0 0 0 432)
  refine a_l1 rfl rfl rfl ?_
  refine a_l0 rfl rfl rfl ?_
  refine a_l4 rfl rfl rfl ?_
  refine a_s rfl rfl ?_
  refine a_s rfl rfl ?_
  refine a_ialdc rfl scr_mem ⟨by decide, by decide⟩ ?_
  refine a_eV1 rfl lL_191 mo_X11_parade (sp0_X11_parade I0_none.1) rfl rfl rfl ⟨11, _, rfl, rfl, rfl⟩ rfl ?_
  refine a_l2 rfl rfl rfl ?_
  refine a_l0 rfl rfl rfl ?_
  refine a_l4 rfl rfl rfl ?_
  refine a_s rfl rfl ?_
  refine a_s rfl rfl ?_
  refine a_ialdc rfl scr_mem ⟨by decide, by decide⟩ ?_
  refine a_eV1 rfl lL_194 mo_X12_parade (sp0_X12_parade I0_none.2.1) rfl rfl rfl ⟨12, _, rfl, rfl, rfl⟩ rfl ?_
  refine a_ic_eq rfl (fun c1127 => ?_) (fun c => absurd (rfl) c)
  exact fin_ok
theorem op_33 {xs : Nat → Int32} : OpOk xs 1921 := by
  show AW (S1 6 xs) m_L_main 1050 QM XM 599770 7281900 1921 [some (.ref 199), some (.ref 200), some (.ref 420), some (.ref 431), some (.int 0), none, none] [] (hp I0 L0 0 0 432)
  refine a_l1 rfl rfl rfl ?_
  refine a_eV1 rfl lL_253 mo_X11_lost (sp0_X11_lost I0_nd) rfl rfl rfl ⟨11, _, rfl, rfl, rfl⟩ rfl ?_
  refine a_l2 rfl rfl rfl ?_
  refine a_eV1 rfl lL_256 mo_X12_lost (sp0_X12_lost I0_none.2.1) rfl rfl rfl ⟨12, _, rfl, rfl, rfl⟩ rfl ?_
  refine a_ic_eq rfl (fun c1929 => ?_) (fun c => absurd (rfl) c)
  exact fin_ok
