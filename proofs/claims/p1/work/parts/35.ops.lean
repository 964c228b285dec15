/-! ===== operations on the fresh heap: the shortest ===== -/
set_option maxRecDepth 100000
theorem sp_X11_fault {S : aS} {I : Nat → Nat → Int32} {L : Nat → Nat → Int64} {w1 w2 t : Nat}  : SpE S m_X11_fault 12 [.ref 200] (hp I L w1 w2 t) (some (.int (I 200 3))) (hp I L w1 w2 t) := by
  refine SpE_of ok_X11_fault rfl rfl ?_
  show AW S m_X11_fault 12 _ _ 0 0 0 [some (.ref 200)] [] (hp I L w1 w2 t)
  refine a_l0 rfl rfl rfl ?_
  refine a_geti rfl gfX11_30_11 rfl ?_
  refine a_iret rfl rfl ⟨rfl, rfl⟩
theorem sp_X12_fault {S : aS} {I : Nat → Nat → Int32} {L : Nat → Nat → Int64} {w1 w2 t : Nat}  : SpE S m_X12_fault 12 [.ref 420] (hp I L w1 w2 t) (some (.int (I 420 14))) (hp (up2 I 420 0 0) L w1 w2 t) := by
  refine SpE_of ok_X12_fault rfl rfl ?_
  show AW S m_X12_fault 12 _ _ 0 0 0 [some (.ref 420)] [] (hp I L w1 w2 t)
  refine a_l0 rfl rfl rfl ?_
  refine a_s rfl rfl ?_
  refine a_puti rfl pfX12_3_12 rfl ?_
  refine a_l0 rfl rfl rfl ?_
  refine a_geti rfl gfX12_33_12 rfl ?_
  refine a_iret rfl rfl ⟨by rw [up2_ne (Or.inr (by decide))], rfl⟩
theorem sp0_X11_undo {S : aS} {I : Nat → Nat → Int32} {L : Nat → Nat → Int64} {w1 w2 t : Nat} (h : I 200 13 = 0) : SpE S m_X11_undo 12 [.ref 200] (hp I L w1 w2 t) (some (.int 0)) (hp I L w1 w2 t) := by
  refine SpE_of ok_X11_undo rfl rfl ?_
  show AW S m_X11_undo 12 _ _ 0 0 0 [some (.ref 200), none] [] (hp I L w1 w2 t)
  refine a_l0 rfl rfl rfl ?_
  refine a_geti rfl gfX11_95_11 rfl ?_
  rw [h]
  refine a_s rfl rfl ?_
  refine a_ic_ge rfl (fun c => absurd c (by decide)) (fun c5 => ?_)
  refine a_s rfl rfl ?_
  refine a_zret rfl rfl rfl ⟨rfl, rfl⟩
theorem sp0_X12_undo {S : aS} {I : Nat → Nat → Int32} {L : Nat → Nat → Int64} {w1 w2 t : Nat} (h : I 420 7 = 0) : SpE S m_X12_undo 12 [.ref 420] (hp I L w1 w2 t) (some (.int 0)) (hp (up2 I 420 0 0) L w1 w2 t) := by
  refine SpE_of ok_X12_undo rfl rfl ?_
  show AW S m_X12_undo 12 _ _ 0 0 0 [some (.ref 420), none] [] (hp I L w1 w2 t)
  refine a_l0 rfl rfl rfl ?_
  refine a_s rfl rfl ?_
  refine a_puti rfl pfX12_3_12 rfl ?_
  refine a_l0 rfl rfl rfl ?_
  refine a_geti rfl gfX12_53_12 rfl ?_
  rw [up2_ne (Or.inr (by decide)), h]
  refine a_if_ne rfl (fun c => absurd c (by decide)) (fun c9 => ?_)
  refine a_s rfl rfl ?_
  refine a_zret rfl rfl rfl ⟨rfl, rfl⟩
theorem sp0_X11_back {S : aS} {I : Nat → Nat → Int32} {L : Nat → Nat → Int64} {w1 w2 t : Nat} (h : I 200 10 = 0) : SpE S m_X11_back 12 [.ref 200] (hp I L w1 w2 t) (some (.int 0)) (hp I L w1 w2 t) := by
  refine SpE_of ok_X11_back rfl rfl ?_
  show AW S m_X11_back 12 _ _ 0 0 0 [some (.ref 200)] [] (hp I L w1 w2 t)
  refine a_l0 rfl rfl rfl ?_
  refine a_geti rfl gfX11_378_11 rfl ?_
  rw [h]
  refine a_if_ne rfl (fun c => absurd c (by decide)) (fun c4 => ?_)
  refine a_s rfl rfl ?_
  refine a_zret rfl rfl rfl ⟨rfl, rfl⟩
theorem sp0_X12_back {S : aS} {I : Nat → Nat → Int32} {L : Nat → Nat → Int64} {w1 w2 t : Nat} (h : I 420 6 = 0) : SpE S m_X12_back 12 [.ref 420] (hp I L w1 w2 t) (some (.int 0)) (hp (up2 I 420 0 0) L w1 w2 t) := by
  refine SpE_of ok_X12_back rfl rfl ?_
  show AW S m_X12_back 12 _ _ 0 0 0 [some (.ref 420), none] [] (hp I L w1 w2 t)
  refine a_l0 rfl rfl rfl ?_
  refine a_s rfl rfl ?_
  refine a_puti rfl pfX12_3_12 rfl ?_
  refine a_l0 rfl rfl rfl ?_
  refine a_geti rfl gfX12_49_12 rfl ?_
  rw [up2_ne (Or.inr (by decide)), h]
  refine a_if_ne rfl (fun c => absurd c (by decide)) (fun c9 => ?_)
  refine a_s rfl rfl ?_
  refine a_zret rfl rfl rfl ⟨rfl, rfl⟩
theorem sp_X11_seed {S : aS} {I : Nat → Nat → Int32} {L : Nat → Nat → Int64} {w1 w2 t : Nat} {x : Int32} : SpE S m_X11_seed 12 [.ref 200, .int x] (hp I L w1 w2 t) (some (.int (I 235 15))) (hp (up2 I 235 15 x) L w1 w2 t) := by
  refine SpE_of ok_X11_seed rfl rfl ?_
  show AW S m_X11_seed 12 _ _ 0 0 0 [some (.ref 200), some (.int x), none] [] (hp I L w1 w2 t)
  refine a_l0 rfl rfl rfl ?_
  refine a_getq rfl gfX11_37_11 rfl (rfl) ?_
  refine a_geti rfl gfX11_353_5 rfl ?_
  refine a_s2 rfl rfl rfl rfl rfl rfl ?_
  refine a_l0 rfl rfl rfl ?_
  refine a_getq rfl gfX11_37_11 rfl (rfl) ?_
  refine a_l1 rfl rfl rfl ?_
  refine a_puti rfl pfX11_353_5 rfl ?_
  refine a_l2 rfl rfl rfl ?_
  refine a_iret rfl rfl ⟨rfl, rfl⟩
theorem sp_X12_seed {S : aS} {I : Nat → Nat → Int32} {L : Nat → Nat → Int64} {w1 w2 t : Nat} {x : Int32} : SpE S m_X12_seed 12 [.ref 420, .int x] (hp I L w1 w2 t) (some (.int (I 421 10))) (hp (up2 (up2 I 420 0 0) 421 10 x) L w1 w2 t) := by
  refine SpE_of ok_X12_seed rfl rfl ?_
  show AW S m_X12_seed 12 _ _ 0 0 0 [some (.ref 420), some (.int x), none] [] (hp I L w1 w2 t)
  refine a_l0 rfl rfl rfl ?_
  refine a_s rfl rfl ?_
  refine a_puti rfl pfX12_3_12 rfl ?_
  refine a_l0 rfl rfl rfl ?_
  refine a_getq rfl gfX12_13_12 rfl (rfl) ?_
  refine a_s rfl rfl ?_
  refine a_iald rfl rfl (⟨by decide, by decide⟩) ?_
  refine a_s2 rfl rfl rfl rfl rfl rfl ?_
  refine a_l0 rfl rfl rfl ?_
  refine a_getq rfl gfX12_13_12 rfl (rfl) ?_
  refine a_s rfl rfl ?_
  refine a_l1 rfl rfl rfl ?_
  refine a_iast rfl (n := 2033) rfl (⟨by decide, by decide⟩) ?_
  refine a_l2 rfl rfl rfl ?_
  refine a_iret rfl rfl ⟨by rw [up2_ne (Or.inl (by decide))]; rfl, rfl⟩
theorem I0_facts : I0 200 3 = I0 420 14 ∧ I0 200 13 = 0 ∧ I0 420 7 = 0 ∧ I0 200 10 = 0 ∧ I0 420 6 = 0 ∧ I0 235 15 = I0 421 10 := by decide +kernel
theorem op_4 {xs : Nat → Int32} : OpOk xs 474 := by
  show AW (S1 6 xs) m_L_main 1050 QM XM 599770 7281900 474 [some (.ref 199), some (.ref 200), some (.ref 420), some (.ref 431), some (.int 0), none, none] [] (hp I0 L0 0 0 432)
  refine a_l1 rfl rfl rfl ?_
  refine a_eV1 rfl lL_155 mo_X11_fault (sp_X11_fault) rfl rfl rfl ⟨11, _, rfl, rfl, rfl⟩ rfl ?_
  refine a_l2 rfl rfl rfl ?_
  refine a_eV1 rfl lL_158 mo_X12_fault (sp_X12_fault) rfl rfl rfl ⟨12, _, rfl, rfl, rfl⟩ rfl ?_
  refine a_ic_eq rfl (fun c482 => ?_) (fun c => absurd (I0_facts.1) c)
  exact fin_ok
theorem op_54 {xs : Nat → Int32} : OpOk xs 2859 := by
  show AW (S1 6 xs) m_L_main 1050 QM XM 599770 7281900 2859 [some (.ref 199), some (.ref 200), some (.ref 420), some (.ref 431), some (.int 0), none, none] [] (hp I0 L0 0 0 432)
  refine a_l1 rfl rfl rfl ?_
  refine a_eV1 rfl lL_326 mo_X11_undo (sp0_X11_undo I0_facts.2.1) rfl rfl rfl ⟨11, _, rfl, rfl, rfl⟩ rfl ?_
  refine a_l2 rfl rfl rfl ?_
  refine a_eV1 rfl lL_330 mo_X12_undo (sp0_X12_undo I0_facts.2.2.1) rfl rfl rfl ⟨12, _, rfl, rfl, rfl⟩ rfl ?_
  refine a_ic_eq rfl (fun c2867 => ?_) (fun c => absurd (rfl) c)
  exact fin_ok
theorem op_56 {xs : Nat → Int32} : OpOk xs 2883 := by
  show AW (S1 6 xs) m_L_main 1050 QM XM 599770 7281900 2883 [some (.ref 199), some (.ref 200), some (.ref 420), some (.ref 431), some (.int 0), none, none] [] (hp I0 L0 0 0 432)
  refine a_l1 rfl rfl rfl ?_
  refine a_eV1 rfl lL_335 mo_X11_back (sp0_X11_back I0_facts.2.2.2.1) rfl rfl rfl ⟨11, _, rfl, rfl, rfl⟩ rfl ?_
  refine a_l2 rfl rfl rfl ?_
  refine a_eV1 rfl lL_338 mo_X12_back (sp0_X12_back I0_facts.2.2.2.2.1) rfl rfl rfl ⟨12, _, rfl, rfl, rfl⟩ rfl ?_
  refine a_ic_eq rfl (fun c2891 => ?_) (fun c => absurd (rfl) c)
  exact fin_ok
