/-! ===== operations that throw at once on the fresh heap ===== -/
set_option maxRecDepth 100000
abbrev eIO : String := "java/lang/IndexOutOfBoundsException"
section T1
variable {S : aS} {I : Nat → Nat → Int32} {L : Nat → Nat → Int64} {w1 w2 t : Nat}
theorem sp0_needDuty {x : Int32} (h : I 235 3 = 0) : SpX S m_X11_needDuty 12 [.ref 200, .int x] (hp I L w1 w2 t) eIO (hp I L w1 w2 0) := by
  refine SpX_of ok_X11_needDuty rfl rfl ?_
  show AW S m_X11_needDuty 12 _ _ 1 6 0 [some (.ref 200), some (.int x)] [] (hp I L w1 w2 t)
  refine a_l1 rfl rfl rfl ?_
  refine a_if_lt rfl (fun c => ?_) (fun c => ?_)
  · exact a_throw rfl rfl rfl rfl tX11_ioobe rfl rfl rfl rfl rfl ⟨rfl, rfl⟩
  · refine a_l1 rfl rfl rfl ?_
    refine a_l0 rfl rfl rfl ?_
    refine a_getq rfl gfX11_37_11 rfl rfl ?_
    refine a_geti rfl gfX11_182_5 rfl ?_
    rw [h]
    refine a_ic_lt rfl (fun c' => absurd c' c) (fun c' => ?_)
    exact a_throw rfl rfl rfl rfl tX11_ioobe rfl rfl rfl rfl rfl ⟨rfl, rfl⟩
theorem sp0_needPerson {x : Int32} (h : I 235 0 = 0) : SpX S m_X11_needPerson 12 [.ref 200, .int x] (hp I L w1 w2 t) eIO (hp I L w1 w2 0) := by
  refine SpX_of ok_X11_needPerson rfl rfl ?_
  show AW S m_X11_needPerson 12 _ _ 1 6 0 [some (.ref 200), some (.int x)] [] (hp I L w1 w2 t)
  refine a_l1 rfl rfl rfl ?_
  refine a_if_lt rfl (fun c => ?_) (fun c => ?_)
  · exact a_throw rfl rfl rfl rfl tX11_ioobe rfl rfl rfl rfl rfl ⟨rfl, rfl⟩
  · refine a_l1 rfl rfl rfl ?_
    refine a_l0 rfl rfl rfl ?_
    refine a_getq rfl gfX11_37_11 rfl rfl ?_
    refine a_geti rfl gfX11_179_5 rfl ?_
    rw [h]
    refine a_ic_lt rfl (fun c' => absurd c' c) (fun c' => ?_)
    exact a_throw rfl rfl rfl rfl tX11_ioobe rfl rfl rfl rfl rfl ⟨rfl, rfl⟩
end T1
theorem tkIO {S : aS} {pc a b hpc : Nat} {rs : List (Nat × Nat × Nat × Nat)} {C : aM} (hC : C.1.cls = RL) (h1 : a ≤ pc) (h2 : pc < b) : hTake S C pc eIO ((a, b, hpc, 24) :: rs) hpc := ⟨⟨h1, h2, by show (24 : Nat) ≠ 0; decide⟩, eIO, by rw [hC]; exact (inC5 (i := 87) rfl rfl), Or.inl ⟨⟨inD5 (i := 99) rfl, rfl⟩, rfl⟩⟩
section T2
variable {S : aS} {I : Nat → Nat → Int32} {L : Nat → Nat → Int64} {w1 w2 t : Nat}
theorem sp0_in {h : aH} {x : Int32} : SpE S m_X12_in 12 [.int x, .int 0, .int (-1)] h (some (.int 0)) h := by
  refine SpE_of ok_X12_in rfl rfl ?_
  show AW S m_X12_in 12 _ _ 0 0 0 [some (.int x), some (.int 0), some (.int (-1))] [] h
  refine a_l0 rfl rfl rfl ?_
  refine a_l1 rfl rfl rfl ?_
  refine a_ic_lt rfl (fun c => ?_) (fun c => ?_)
  · refine a_s rfl rfl ?_
    exact a_zret rfl rfl rfl ⟨rfl, rfl⟩
  · refine a_l0 rfl rfl rfl ?_
    refine a_l2 rfl rfl rfl ?_
    refine a_ic_gt rfl (fun c' => ?_) (fun c' => absurd (Int32.lt_iff_toInt_lt.mpr (by
      have h1 := Int32.le_iff_toInt_le.mp (Int32.not_lt.mp c)
      have h2 : (-1 : Int32).toInt = -1 := rfl
      have h3 : (0 : Int32).toInt = 0 := rfl
      omega)) c')
    refine a_s rfl rfl ?_
    exact a_zret rfl rfl rfl ⟨rfl, rfl⟩
theorem sp_X12_duties : SpE S m_X12_duties 12 [.ref 420] (hp I L w1 w2 t) (some (.int (I 421 1))) (hp I L w1 w2 t) := by
  refine SpE_of ok_X12_duties rfl rfl ?_
  show AW S m_X12_duties 12 _ _ 0 0 0 [some (.ref 420)] [] (hp I L w1 w2 t)
  refine a_l0 rfl rfl rfl ?_
  refine a_getq rfl gfX12_13_12 rfl (rfl) ?_
  refine a_s rfl rfl ?_
  refine a_iald rfl (n := 2033) rfl (⟨by decide, by decide⟩) ?_
  refine a_iret rfl rfl ⟨rfl, rfl⟩
theorem sp0_noDuty {x : Int32} (h : I 421 1 = 0) : SpE S m_X12_noDuty 13 [.ref 420, .int x] (hp I L w1 w2 t) (some (.int 1)) (hp I L w1 w2 t) := by
  refine SpE_of ok_X12_noDuty rfl rfl ?_
  show AW S m_X12_noDuty 13 _ _ 0 0 0 [some (.ref 420), some (.int x)] [] (hp I L w1 w2 t)
  refine a_l1 rfl rfl rfl ?_
  refine a_s rfl rfl ?_
  refine a_l0 rfl rfl rfl ?_
  refine a_eV1 rfl lX12_74 mo_X12_duties (sp_X12_duties) rfl rfl rfl ⟨12, _, rfl, rfl, rfl⟩ rfl ?_
  rw [h]
  refine a_s rfl rfl ?_
  refine a_s rfl rfl ?_
  refine a_eS1 rfl lX12_70 mo_X12_in (sp0_in) rfl rfl rfl rfl ?_
  refine a_if_ne rfl (fun c => absurd c (by decide)) (fun c11 => ?_)
  refine a_s rfl rfl ?_
  refine a_goto rfl ?_
  refine a_zret rfl rfl rfl ⟨rfl, rfl⟩
theorem sp_X12_people : SpE S m_X12_people 12 [.ref 420] (hp I L w1 w2 t) (some (.int (I 421 0))) (hp I L w1 w2 t) := by
  refine SpE_of ok_X12_people rfl rfl ?_
  show AW S m_X12_people 12 _ _ 0 0 0 [some (.ref 420)] [] (hp I L w1 w2 t)
  refine a_l0 rfl rfl rfl ?_
  refine a_getq rfl gfX12_13_12 rfl (rfl) ?_
  refine a_s rfl rfl ?_
  refine a_iald rfl (n := 2033) rfl (⟨by decide, by decide⟩) ?_
  refine a_iret rfl rfl ⟨rfl, rfl⟩
theorem sp0_noPerson {x : Int32} (h : I 421 0 = 0) : SpE S m_X12_noPerson 13 [.ref 420, .int x] (hp I L w1 w2 t) (some (.int 1)) (hp I L w1 w2 t) := by
  refine SpE_of ok_X12_noPerson rfl rfl ?_
  show AW S m_X12_noPerson 13 _ _ 0 0 0 [some (.ref 420), some (.int x)] [] (hp I L w1 w2 t)
  refine a_l1 rfl rfl rfl ?_
  refine a_s rfl rfl ?_
  refine a_l0 rfl rfl rfl ?_
  refine a_eV1 rfl lX12_66 mo_X12_people (sp_X12_people) rfl rfl rfl ⟨12, _, rfl, rfl, rfl⟩ rfl ?_
  rw [h]
  refine a_s rfl rfl ?_
  refine a_s rfl rfl ?_
  refine a_eS1 rfl lX12_70 mo_X12_in (sp0_in) rfl rfl rfl rfl ?_
  refine a_if_ne rfl (fun c => absurd c (by decide)) (fun c11 => ?_)
  refine a_s rfl rfl ?_
  refine a_goto rfl ?_
  refine a_zret rfl rfl rfl ⟨rfl, rfl⟩
theorem sp1_throwsIf {x : Int32} : SpE S m_X12_throwsIf 12 [.ref 420, .int 1, .int x] (hp I L w1 w2 t) (some (.int 1)) (hp (up2 I 420 0 x) L w1 w2 t) := by
  refine SpE_of ok_X12_throwsIf rfl rfl ?_
  show AW S m_X12_throwsIf 12 _ _ 0 0 0 [some (.ref 420), some (.int 1), some (.int x)] [] (hp I L w1 w2 t)
  refine a_l1 rfl rfl rfl ?_
  refine a_if_eq rfl (fun c => absurd c (by decide)) (fun c1 => ?_)
  refine a_l0 rfl rfl rfl ?_
  refine a_l2 rfl rfl rfl ?_
  refine a_puti rfl pfX12_3_12 rfl ?_
  refine a_l1 rfl rfl rfl ?_
  refine a_zret rfl rfl rfl ⟨rfl, rfl⟩
theorem sp_X12_thrown : SpE S m_X12_thrown 12 [.ref 420] (hp I L w1 w2 t) (some (.int (I 420 0))) (hp I L w1 w2 t) := by
  refine SpE_of ok_X12_thrown rfl rfl ?_
  show AW S m_X12_thrown 12 _ _ 0 0 0 [some (.ref 420)] [] (hp I L w1 w2 t)
  refine a_l0 rfl rfl rfl ?_
  refine a_geti rfl gfX12_3_12 rfl ?_
  refine a_iret rfl rfl ⟨rfl, rfl⟩
theorem sp0_X11_person {x0 x1 : Int32} (h : I 235 0 = 0) : SpX S m_X11_person 13 [.ref 200, .int x0, .int x1] (hp I L w1 w2 t) eIO (hp I L w1 w2 0) := by
  refine SpX_of ok_X11_person rfl rfl ?_
  show AW S m_X11_person 13 _ _ 1 6 0 [some (.ref 200), some (.int x0), some (.int x1)] [] (hp I L w1 w2 t)
  refine a_l0 rfl rfl rfl ?_
  refine a_l1 rfl rfl rfl ?_
  exact a_xV rfl lX11_110 mo_X11_needPerson (sp0_needPerson h) rfl rfl rfl ⟨11, _, rfl, rfl, rfl⟩ rfl ⟨rfl, rfl⟩
theorem sp0_L_person {x0 x1 : Int32} (h : I 235 0 = 0) : Sp S m_L_person 14 1 6 [.ref 200, .int x0, .int x1, .ref 431] (hp I L w1 w2 t) (fun v h' => v = some (.int 1) ∧ h' = hp I L w1 w2 0) (fun _ _ => False) := by
  refine Sp_of ok_L_person rfl rfl ?_
  show AW S m_L_person 14 _ _ 1 6 0 [some (.ref 200), some (.int x0), some (.int x1), some (.ref 431), none] [] (hp I L w1 w2 t)
  refine a_l3 rfl rfl rfl ?_
  refine a_s rfl rfl ?_
  refine a_l0 rfl rfl rfl ?_
  refine a_l1 rfl rfl rfl ?_
  refine a_l2 rfl rfl rfl ?_
  refine a_callVc rfl lL_20 mo_X11_person (sp0_X11_person h) rfl rfl rfl ⟨11, _, rfl, rfl, rfl⟩ (fun v h' hv => False.elim hv) (fun E h' hx => ?_)
  obtain ⟨rfl, rfl⟩ := hx
  refine ⟨13, _, _, _, _, 4, tkIO rfl (by decide) (by decide), rfl, rfl, by decide, ?_⟩
  refine a_s rfl rfl ?_
  exact a_iret rfl rfl ⟨rfl, rfl⟩
theorem sp0_X12_person {x0 x1 : Int32} (h : I 421 0 = 0) : SpE S m_X12_person 14 [.ref 420, .int x0, .int x1] (hp I L w1 w2 t) (some (.int 0)) (hp (up2 (up2 I 420 0 0) 420 0 1) L w1 w2 t) := by
  refine SpE_of ok_X12_person rfl rfl ?_
  show AW S m_X12_person 14 _ _ 0 0 0 [some (.ref 420), some (.int x0), some (.int x1)] [] (hp I L w1 w2 t)
  refine a_l0 rfl rfl rfl ?_
  refine a_s rfl rfl ?_
  refine a_puti rfl pfX12_3_12 rfl ?_
  refine a_l0 rfl rfl rfl ?_
  refine a_l0 rfl rfl rfl ?_
  refine a_l1 rfl rfl rfl ?_
  refine a_eV1 rfl lX12_342 mo_X12_noPerson (sp0_noPerson (by rw [up2_row (by decide)]; exact h)) rfl rfl rfl ⟨12, _, rfl, rfl, rfl⟩ rfl ?_
  refine a_s rfl rfl ?_
  refine a_eV1 rfl lX12_243 mo_X12_throwsIf (sp1_throwsIf) rfl rfl rfl ⟨12, _, rfl, rfl, rfl⟩ rfl ?_
  refine a_if_ne rfl (fun c15 => ?_) (fun c => absurd c (by decide))
  refine a_s rfl rfl ?_
  refine a_iret rfl rfl ⟨rfl, rfl⟩
theorem sp0_X11_duty {x0 x1 : Int32} (h : I 235 3 = 0) : SpX S m_X11_duty 13 [.ref 200, .int x0, .int x1] (hp I L w1 w2 t) eIO (hp I L w1 w2 0) := by
  refine SpX_of ok_X11_duty rfl rfl ?_
  show AW S m_X11_duty 13 _ _ 1 6 0 [some (.ref 200), some (.int x0), some (.int x1)] [] (hp I L w1 w2 t)
  refine a_l0 rfl rfl rfl ?_
  refine a_l1 rfl rfl rfl ?_
  exact a_xV rfl lX11_141 mo_X11_needDuty (sp0_needDuty h) rfl rfl rfl ⟨11, _, rfl, rfl, rfl⟩ rfl ⟨rfl, rfl⟩
theorem sp0_L_duty {x0 x1 : Int32} (h : I 235 3 = 0) : Sp S m_L_duty 14 1 6 [.ref 200, .int x0, .int x1, .ref 431] (hp I L w1 w2 t) (fun v h' => v = some (.int 1) ∧ h' = hp I L w1 w2 0) (fun _ _ => False) := by
  refine Sp_of ok_L_duty rfl rfl ?_
  show AW S m_L_duty 14 _ _ 1 6 0 [some (.ref 200), some (.int x0), some (.int x1), some (.ref 431), none] [] (hp I L w1 w2 t)
  refine a_l3 rfl rfl rfl ?_
  refine a_s rfl rfl ?_
  refine a_l0 rfl rfl rfl ?_
  refine a_l1 rfl rfl rfl ?_
  refine a_l2 rfl rfl rfl ?_
  refine a_callVc rfl lL_28 mo_X11_duty (sp0_X11_duty h) rfl rfl rfl ⟨11, _, rfl, rfl, rfl⟩ (fun v h' hv => False.elim hv) (fun E h' hx => ?_)
  obtain ⟨rfl, rfl⟩ := hx
  refine ⟨13, _, _, _, _, 4, tkIO rfl (by decide) (by decide), rfl, rfl, by decide, ?_⟩
  refine a_s rfl rfl ?_
  exact a_iret rfl rfl ⟨rfl, rfl⟩
theorem sp0_X12_duty {x0 x1 : Int32} (h : I 421 1 = 0) : SpE S m_X12_duty 14 [.ref 420, .int x0, .int x1] (hp I L w1 w2 t) (some (.int 0)) (hp (up2 (up2 I 420 0 0) 420 0 1) L w1 w2 t) := by
  refine SpE_of ok_X12_duty rfl rfl ?_
  show AW S m_X12_duty 14 _ _ 0 0 0 [some (.ref 420), some (.int x0), some (.int x1)] [] (hp I L w1 w2 t)
  refine a_l0 rfl rfl rfl ?_
  refine a_s rfl rfl ?_
  refine a_puti rfl pfX12_3_12 rfl ?_
  refine a_l0 rfl rfl rfl ?_
  refine a_l0 rfl rfl rfl ?_
  refine a_l1 rfl rfl rfl ?_
  refine a_eV1 rfl lX12_289 mo_X12_noDuty (sp0_noDuty (by rw [up2_row (by decide)]; exact h)) rfl rfl rfl ⟨12, _, rfl, rfl, rfl⟩ rfl ?_
  refine a_s rfl rfl ?_
  refine a_eV1 rfl lX12_243 mo_X12_throwsIf (sp1_throwsIf) rfl rfl rfl ⟨12, _, rfl, rfl, rfl⟩ rfl ?_
  refine a_if_ne rfl (fun c15 => ?_) (fun c => absurd c (by decide))
  refine a_s rfl rfl ?_
  refine a_iret rfl rfl ⟨rfl, rfl⟩
theorem sp0_X11_call {x0 : Int32} (h : I 235 3 = 0) : SpX S m_X11_call 13 [.ref 200, .int x0] (hp I L w1 w2 t) eIO (hp I L w1 w2 0) := by
  refine SpX_of ok_X11_call rfl rfl ?_
  show AW S m_X11_call 13 _ _ 1 6 0 [some (.ref 200), some (.int x0), none] [] (hp I L w1 w2 t)
  refine a_l0 rfl rfl rfl ?_
  refine a_l1 rfl rfl rfl ?_
  exact a_xV rfl lX11_141 mo_X11_needDuty (sp0_needDuty h) rfl rfl rfl ⟨11, _, rfl, rfl, rfl⟩ rfl ⟨rfl, rfl⟩
theorem sp0_L_call {x0 : Int32} (h : I 235 3 = 0) : Sp S m_L_call 14 1 6 [.ref 200, .int x0, .ref 431] (hp I L w1 w2 t) (fun v h' => v = some (.int 1) ∧ h' = hp I L w1 w2 0) (fun _ _ => False) := by
  refine Sp_of ok_L_call rfl rfl ?_
  show AW S m_L_call 14 _ _ 1 6 0 [some (.ref 200), some (.int x0), some (.ref 431), none] [] (hp I L w1 w2 t)
  refine a_l2 rfl rfl rfl ?_
  refine a_s rfl rfl ?_
  refine a_l0 rfl rfl rfl ?_
  refine a_l1 rfl rfl rfl ?_
  refine a_callVc rfl lL_31 mo_X11_call (sp0_X11_call h) rfl rfl rfl ⟨11, _, rfl, rfl, rfl⟩ (fun v h' hv => False.elim hv) (fun E h' hx => ?_)
  obtain ⟨rfl, rfl⟩ := hx
  refine ⟨12, _, _, _, _, 3, tkIO rfl (by decide) (by decide), rfl, rfl, by decide, ?_⟩
  refine a_s rfl rfl ?_
  exact a_iret rfl rfl ⟨rfl, rfl⟩
theorem sp0_X12_call {x0 : Int32} (h : I 421 1 = 0) : SpE S m_X12_call 14 [.ref 420, .int x0] (hp I L w1 w2 t) (some (.int 0)) (hp (up2 (up2 I 420 0 0) 420 0 1) L w1 w2 t) := by
  refine SpE_of ok_X12_call rfl rfl ?_
  show AW S m_X12_call 14 _ _ 0 0 0 [some (.ref 420), some (.int x0), none] [] (hp I L w1 w2 t)
  refine a_l0 rfl rfl rfl ?_
  refine a_s rfl rfl ?_
  refine a_puti rfl pfX12_3_12 rfl ?_
  refine a_l0 rfl rfl rfl ?_
  refine a_l0 rfl rfl rfl ?_
  refine a_l1 rfl rfl rfl ?_
  refine a_eV1 rfl lX12_289 mo_X12_noDuty (sp0_noDuty (by rw [up2_row (by decide)]; exact h)) rfl rfl rfl ⟨12, _, rfl, rfl, rfl⟩ rfl ?_
  refine a_s rfl rfl ?_
  refine a_eV1 rfl lX12_243 mo_X12_throwsIf (sp1_throwsIf) rfl rfl rfl ⟨12, _, rfl, rfl, rfl⟩ rfl ?_
  refine a_if_ne rfl (fun c15 => ?_) (fun c => absurd c (by decide))
  refine a_s rfl rfl ?_
  refine a_iret rfl rfl ⟨rfl, rfl⟩
theorem sp0_X11_led {x0 x1 : Int32} (h : I 235 3 = 0) : SpX S m_X11_led 13 [.ref 200, .int x0, .int x1] (hp I L w1 w2 t) eIO (hp I L w1 w2 0) := by
  refine SpX_of ok_X11_led rfl rfl ?_
  show AW S m_X11_led 13 _ _ 1 6 0 [some (.ref 200), some (.int x0), some (.int x1)] [] (hp I L w1 w2 t)
  refine a_l0 rfl rfl rfl ?_
  refine a_l1 rfl rfl rfl ?_
  exact a_xV rfl lX11_141 mo_X11_needDuty (sp0_needDuty h) rfl rfl rfl ⟨11, _, rfl, rfl, rfl⟩ rfl ⟨rfl, rfl⟩
theorem sp0_L_led {x0 x1 : Int32} (h : I 235 3 = 0) : Sp S m_L_led 14 1 6 [.ref 200, .int x0, .int x1, .ref 431] (hp I L w1 w2 t) (fun v h' => v = some (.int 1) ∧ h' = hp I L w1 w2 0) (fun _ _ => False) := by
  refine Sp_of ok_L_led rfl rfl ?_
  show AW S m_L_led 14 _ _ 1 6 0 [some (.ref 200), some (.int x0), some (.int x1), some (.ref 431), none] [] (hp I L w1 w2 t)
  refine a_l3 rfl rfl rfl ?_
  refine a_s rfl rfl ?_
  refine a_l0 rfl rfl rfl ?_
  refine a_l1 rfl rfl rfl ?_
  refine a_l2 rfl rfl rfl ?_
  refine a_callVc rfl lL_123 mo_X11_led (sp0_X11_led h) rfl rfl rfl ⟨11, _, rfl, rfl, rfl⟩ (fun v h' hv => False.elim hv) (fun E h' hx => ?_)
  obtain ⟨rfl, rfl⟩ := hx
  refine ⟨13, _, _, _, _, 4, tkIO rfl (by decide) (by decide), rfl, rfl, by decide, ?_⟩
  refine a_s rfl rfl ?_
  exact a_iret rfl rfl ⟨rfl, rfl⟩
theorem sp0_X12_led {x0 x1 : Int32} (h : I 421 1 = 0) : SpE S m_X12_led 14 [.ref 420, .int x0, .int x1] (hp I L w1 w2 t) (some (.int 0)) (hp (up2 (up2 I 420 0 0) 420 0 1) L w1 w2 t) := by
  refine SpE_of ok_X12_led rfl rfl ?_
  show AW S m_X12_led 14 _ _ 0 0 0 [some (.ref 420), some (.int x0), some (.int x1), none, none, none] [] (hp I L w1 w2 t)
  refine a_l0 rfl rfl rfl ?_
  refine a_s rfl rfl ?_
  refine a_puti rfl pfX12_3_12 rfl ?_
  refine a_l0 rfl rfl rfl ?_
  refine a_l0 rfl rfl rfl ?_
  refine a_l1 rfl rfl rfl ?_
  refine a_eV1 rfl lX12_289 mo_X12_noDuty (sp0_noDuty (by rw [up2_row (by decide)]; exact h)) rfl rfl rfl ⟨12, _, rfl, rfl, rfl⟩ rfl ?_
  refine a_s rfl rfl ?_
  refine a_eV1 rfl lX12_243 mo_X12_throwsIf (sp1_throwsIf) rfl rfl rfl ⟨12, _, rfl, rfl, rfl⟩ rfl ?_
  refine a_if_eq rfl (fun c => absurd c (by decide)) (fun c15 => ?_)
  refine a_s rfl rfl ?_
  refine a_iret rfl rfl ⟨rfl, rfl⟩
theorem sp0_X11_ahead {x0 x1 x2 : Int32} (h : I 235 3 = 0) : SpX S m_X11_ahead 13 [.ref 200, .int x0, .int x1, .int x2] (hp I L w1 w2 t) eIO (hp I L w1 w2 0) := by
  refine SpX_of ok_X11_ahead rfl rfl ?_
  show AW S m_X11_ahead 13 _ _ 1 6 0 [some (.ref 200), some (.int x0), some (.int x1), some (.int x2), none] [] (hp I L w1 w2 t)
  refine a_l0 rfl rfl rfl ?_
  refine a_l1 rfl rfl rfl ?_
  exact a_xV rfl lX11_141 mo_X11_needDuty (sp0_needDuty h) rfl rfl rfl ⟨11, _, rfl, rfl, rfl⟩ rfl ⟨rfl, rfl⟩
theorem sp0_L_ahead {x0 x1 x2 : Int32} (h : I 235 3 = 0) : Sp S m_L_ahead 14 1 6 [.ref 200, .int x0, .int x1, .int x2, .ref 431] (hp I L w1 w2 t) (fun v h' => v = some (.int 1) ∧ h' = hp I L w1 w2 0) (fun _ _ => False) := by
  refine Sp_of ok_L_ahead rfl rfl ?_
  show AW S m_L_ahead 14 _ _ 1 6 0 [some (.ref 200), some (.int x0), some (.int x1), some (.int x2), some (.ref 431), none] [] (hp I L w1 w2 t)
  refine a_l4 rfl rfl rfl ?_
  refine a_s rfl rfl ?_
  refine a_l0 rfl rfl rfl ?_
  refine a_l1 rfl rfl rfl ?_
  refine a_l2 rfl rfl rfl ?_
  refine a_l3 rfl rfl rfl ?_
  refine a_callVc rfl lL_114 mo_X11_ahead (sp0_X11_ahead h) rfl rfl rfl ⟨11, _, rfl, rfl, rfl⟩ (fun v h' hv => False.elim hv) (fun E h' hx => ?_)
  obtain ⟨rfl, rfl⟩ := hx
  refine ⟨15, _, _, _, _, 5, tkIO rfl (by decide) (by decide), rfl, rfl, by decide, ?_⟩
  refine a_s rfl rfl ?_
  exact a_iret rfl rfl ⟨rfl, rfl⟩
theorem sp0_X12_ahead {x0 x1 x2 : Int32} (h : I 421 1 = 0) : SpE S m_X12_ahead 14 [.ref 420, .int x0, .int x1, .int x2] (hp I L w1 w2 t) (some (.int 0)) (hp (up2 (up2 I 420 0 0) 420 0 1) L w1 w2 t) := by
  refine SpE_of ok_X12_ahead rfl rfl ?_
  show AW S m_X12_ahead 14 _ _ 0 0 0 [some (.ref 420), some (.int x0), some (.int x1), some (.int x2), none] [] (hp I L w1 w2 t)
  refine a_l0 rfl rfl rfl ?_
  refine a_s rfl rfl ?_
  refine a_puti rfl pfX12_3_12 rfl ?_
  refine a_l0 rfl rfl rfl ?_
  refine a_l0 rfl rfl rfl ?_
  refine a_l1 rfl rfl rfl ?_
  refine a_eV1 rfl lX12_289 mo_X12_noDuty (sp0_noDuty (by rw [up2_row (by decide)]; exact h)) rfl rfl rfl ⟨12, _, rfl, rfl, rfl⟩ rfl ?_
  refine a_s rfl rfl ?_
  refine a_eV1 rfl lX12_243 mo_X12_throwsIf (sp1_throwsIf) rfl rfl rfl ⟨12, _, rfl, rfl, rfl⟩ rfl ?_
  refine a_if_ne rfl (fun c15 => ?_) (fun c => absurd c (by decide))
  refine a_s rfl rfl ?_
  refine a_iret rfl rfl ⟨rfl, rfl⟩
theorem sp0_X11_put {x0 : Int32} (h : I 235 3 = 0) : SpX S m_X11_put 13 [.ref 200, .int x0] (hp I L w1 w2 t) eIO (hp I L w1 w2 0) := by
  refine SpX_of ok_X11_put rfl rfl ?_
  show AW S m_X11_put 13 _ _ 1 6 0 [some (.ref 200), some (.int x0)] [] (hp I L w1 w2 t)
  refine a_l0 rfl rfl rfl ?_
  refine a_l1 rfl rfl rfl ?_
  exact a_xV rfl lX11_141 mo_X11_needDuty (sp0_needDuty h) rfl rfl rfl ⟨11, _, rfl, rfl, rfl⟩ rfl ⟨rfl, rfl⟩
theorem sp0_L_put {x0 : Int32} (h : I 235 3 = 0) : Sp S m_L_put 14 1 6 [.ref 200, .int x0, .ref 431] (hp I L w1 w2 t) (fun v h' => v = some (.int 1) ∧ h' = hp I L w1 w2 0) (fun _ _ => False) := by
  refine Sp_of ok_L_put rfl rfl ?_
  show AW S m_L_put 14 _ _ 1 6 0 [some (.ref 200), some (.int x0), some (.ref 431), none] [] (hp I L w1 w2 t)
  refine a_l2 rfl rfl rfl ?_
  refine a_s rfl rfl ?_
  refine a_l0 rfl rfl rfl ?_
  refine a_l1 rfl rfl rfl ?_
  refine a_callVc rfl lL_37 mo_X11_put (sp0_X11_put h) rfl rfl rfl ⟨11, _, rfl, rfl, rfl⟩ (fun v h' hv => False.elim hv) (fun E h' hx => ?_)
  obtain ⟨rfl, rfl⟩ := hx
  refine ⟨12, _, _, _, _, 3, tkIO rfl (by decide) (by decide), rfl, rfl, by decide, ?_⟩
  refine a_s rfl rfl ?_
  exact a_iret rfl rfl ⟨rfl, rfl⟩
theorem sp0_X12_put {x0 : Int32} (h : I 421 1 = 0) : SpE S m_X12_put 14 [.ref 420, .int x0] (hp I L w1 w2 t) (some (.int 0)) (hp (up2 (up2 I 420 0 0) 420 0 1) L w1 w2 t) := by
  refine SpE_of ok_X12_put rfl rfl ?_
  show AW S m_X12_put 14 _ _ 0 0 0 [some (.ref 420), some (.int x0)] [] (hp I L w1 w2 t)
  refine a_l0 rfl rfl rfl ?_
  refine a_s rfl rfl ?_
  refine a_puti rfl pfX12_3_12 rfl ?_
  refine a_l0 rfl rfl rfl ?_
  refine a_l0 rfl rfl rfl ?_
  refine a_l1 rfl rfl rfl ?_
  refine a_eV1 rfl lX12_289 mo_X12_noDuty (sp0_noDuty (by rw [up2_row (by decide)]; exact h)) rfl rfl rfl ⟨12, _, rfl, rfl, rfl⟩ rfl ?_
  refine a_s rfl rfl ?_
  refine a_eV1 rfl lX12_243 mo_X12_throwsIf (sp1_throwsIf) rfl rfl rfl ⟨12, _, rfl, rfl, rfl⟩ rfl ?_
  refine a_if_ne rfl (fun c15 => ?_) (fun c => absurd c (by decide))
  refine a_s rfl rfl ?_
  refine a_iret rfl rfl ⟨rfl, rfl⟩
theorem sp0_X11_forget {x0 : Int32} (h : I 235 3 = 0) : SpX S m_X11_forget 13 [.ref 200, .int x0] (hp I L w1 w2 t) eIO (hp I L w1 w2 0) := by
  refine SpX_of ok_X11_forget rfl rfl ?_
  show AW S m_X11_forget 13 _ _ 1 6 0 [some (.ref 200), some (.int x0)] [] (hp I L w1 w2 t)
  refine a_l0 rfl rfl rfl ?_
  refine a_l1 rfl rfl rfl ?_
  exact a_xV rfl lX11_141 mo_X11_needDuty (sp0_needDuty h) rfl rfl rfl ⟨11, _, rfl, rfl, rfl⟩ rfl ⟨rfl, rfl⟩
theorem sp0_L_forget {x0 : Int32} (h : I 235 3 = 0) : Sp S m_L_forget 14 1 6 [.ref 200, .int x0, .ref 431] (hp I L w1 w2 t) (fun v h' => v = some (.int 1) ∧ h' = hp I L w1 w2 0) (fun _ _ => False) := by
  refine Sp_of ok_L_forget rfl rfl ?_
  show AW S m_L_forget 14 _ _ 1 6 0 [some (.ref 200), some (.int x0), some (.ref 431), none] [] (hp I L w1 w2 t)
  refine a_l2 rfl rfl rfl ?_
  refine a_s rfl rfl ?_
  refine a_l0 rfl rfl rfl ?_
  refine a_l1 rfl rfl rfl ?_
  refine a_callVc rfl lL_40 mo_X11_forget (sp0_X11_forget h) rfl rfl rfl ⟨11, _, rfl, rfl, rfl⟩ (fun v h' hv => False.elim hv) (fun E h' hx => ?_)
  obtain ⟨rfl, rfl⟩ := hx
  refine ⟨12, _, _, _, _, 3, tkIO rfl (by decide) (by decide), rfl, rfl, by decide, ?_⟩
  refine a_s rfl rfl ?_
  exact a_iret rfl rfl ⟨rfl, rfl⟩
theorem sp0_X12_forget {x0 : Int32} (h : I 421 1 = 0) : SpE S m_X12_forget 14 [.ref 420, .int x0] (hp I L w1 w2 t) (some (.int 0)) (hp (up2 (up2 I 420 0 0) 420 0 1) L w1 w2 t) := by
  refine SpE_of ok_X12_forget rfl rfl ?_
  show AW S m_X12_forget 14 _ _ 0 0 0 [some (.ref 420), some (.int x0)] [] (hp I L w1 w2 t)
  refine a_l0 rfl rfl rfl ?_
  refine a_s rfl rfl ?_
  refine a_puti rfl pfX12_3_12 rfl ?_
  refine a_l0 rfl rfl rfl ?_
  refine a_l0 rfl rfl rfl ?_
  refine a_l1 rfl rfl rfl ?_
  refine a_eV1 rfl lX12_289 mo_X12_noDuty (sp0_noDuty (by rw [up2_row (by decide)]; exact h)) rfl rfl rfl ⟨12, _, rfl, rfl, rfl⟩ rfl ?_
  refine a_s rfl rfl ?_
  refine a_eV1 rfl lX12_243 mo_X12_throwsIf (sp1_throwsIf) rfl rfl rfl ⟨12, _, rfl, rfl, rfl⟩ rfl ?_
  refine a_if_ne rfl (fun c15 => ?_) (fun c => absurd c (by decide))
  refine a_s rfl rfl ?_
  refine a_iret rfl rfl ⟨rfl, rfl⟩
theorem sp0_X11_recall {x0 : Int32} (h : I 235 3 = 0) : SpX S m_X11_recall 13 [.ref 200, .int x0] (hp I L w1 w2 t) eIO (hp I L w1 w2 0) := by
  refine SpX_of ok_X11_recall rfl rfl ?_
  show AW S m_X11_recall 13 _ _ 1 6 0 [some (.ref 200), some (.int x0)] [] (hp I L w1 w2 t)
  refine a_l0 rfl rfl rfl ?_
  refine a_l1 rfl rfl rfl ?_
  exact a_xV rfl lX11_141 mo_X11_needDuty (sp0_needDuty h) rfl rfl rfl ⟨11, _, rfl, rfl, rfl⟩ rfl ⟨rfl, rfl⟩
theorem sp0_L_recall {x0 : Int32} (h : I 235 3 = 0) : Sp S m_L_recall 14 1 6 [.ref 200, .int x0, .ref 431] (hp I L w1 w2 t) (fun v h' => v = some (.int 1) ∧ h' = hp I L w1 w2 0) (fun _ _ => False) := by
  refine Sp_of ok_L_recall rfl rfl ?_
  show AW S m_L_recall 14 _ _ 1 6 0 [some (.ref 200), some (.int x0), some (.ref 431), none] [] (hp I L w1 w2 t)
  refine a_l2 rfl rfl rfl ?_
  refine a_s rfl rfl ?_
  refine a_l0 rfl rfl rfl ?_
  refine a_l1 rfl rfl rfl ?_
  refine a_callVc rfl lL_43 mo_X11_recall (sp0_X11_recall h) rfl rfl rfl ⟨11, _, rfl, rfl, rfl⟩ (fun v h' hv => False.elim hv) (fun E h' hx => ?_)
  obtain ⟨rfl, rfl⟩ := hx
  refine ⟨12, _, _, _, _, 3, tkIO rfl (by decide) (by decide), rfl, rfl, by decide, ?_⟩
  refine a_s rfl rfl ?_
  exact a_iret rfl rfl ⟨rfl, rfl⟩
theorem sp0_X12_recall {x0 : Int32} (h : I 421 1 = 0) : SpE S m_X12_recall 14 [.ref 420, .int x0] (hp I L w1 w2 t) (some (.int 0)) (hp (up2 (up2 I 420 0 0) 420 0 1) L w1 w2 t) := by
  refine SpE_of ok_X12_recall rfl rfl ?_
  show AW S m_X12_recall 14 _ _ 0 0 0 [some (.ref 420), some (.int x0)] [] (hp I L w1 w2 t)
  refine a_l0 rfl rfl rfl ?_
  refine a_s rfl rfl ?_
  refine a_puti rfl pfX12_3_12 rfl ?_
  refine a_l0 rfl rfl rfl ?_
  refine a_l0 rfl rfl rfl ?_
  refine a_l1 rfl rfl rfl ?_
  refine a_eV1 rfl lX12_289 mo_X12_noDuty (sp0_noDuty (by rw [up2_row (by decide)]; exact h)) rfl rfl rfl ⟨12, _, rfl, rfl, rfl⟩ rfl ?_
  refine a_s rfl rfl ?_
  refine a_eV1 rfl lX12_243 mo_X12_throwsIf (sp1_throwsIf) rfl rfl rfl ⟨12, _, rfl, rfl, rfl⟩ rfl ?_
  refine a_if_ne rfl (fun c15 => ?_) (fun c => absurd c (by decide))
  refine a_s rfl rfl ?_
  refine a_iret rfl rfl ⟨rfl, rfl⟩
theorem sp0_X11_hand {x0 x1 : Int32} (h : I 235 3 = 0) : SpX S m_X11_hand 13 [.ref 200, .int x0, .int x1] (hp I L w1 w2 t) eIO (hp I L w1 w2 0) := by
  refine SpX_of ok_X11_hand rfl rfl ?_
  show AW S m_X11_hand 13 _ _ 1 6 0 [some (.ref 200), some (.int x0), some (.int x1), none] [] (hp I L w1 w2 t)
  refine a_l0 rfl rfl rfl ?_
  refine a_l1 rfl rfl rfl ?_
  exact a_xV rfl lX11_141 mo_X11_needDuty (sp0_needDuty h) rfl rfl rfl ⟨11, _, rfl, rfl, rfl⟩ rfl ⟨rfl, rfl⟩
theorem sp0_L_hand {x0 x1 : Int32} (h : I 235 3 = 0) : Sp S m_L_hand 14 1 6 [.ref 200, .int x0, .int x1, .ref 431] (hp I L w1 w2 t) (fun v h' => v = some (.int 1) ∧ h' = hp I L w1 w2 0) (fun _ _ => False) := by
  refine Sp_of ok_L_hand rfl rfl ?_
  show AW S m_L_hand 14 _ _ 1 6 0 [some (.ref 200), some (.int x0), some (.int x1), some (.ref 431), none] [] (hp I L w1 w2 t)
  refine a_l3 rfl rfl rfl ?_
  refine a_s rfl rfl ?_
  refine a_l0 rfl rfl rfl ?_
  refine a_l1 rfl rfl rfl ?_
  refine a_l2 rfl rfl rfl ?_
  refine a_callVc rfl lL_46 mo_X11_hand (sp0_X11_hand h) rfl rfl rfl ⟨11, _, rfl, rfl, rfl⟩ (fun v h' hv => False.elim hv) (fun E h' hx => ?_)
  obtain ⟨rfl, rfl⟩ := hx
  refine ⟨13, _, _, _, _, 4, tkIO rfl (by decide) (by decide), rfl, rfl, by decide, ?_⟩
  refine a_s rfl rfl ?_
  exact a_iret rfl rfl ⟨rfl, rfl⟩
theorem sp0_X12_hand {x0 x1 : Int32} (h : I 421 1 = 0) : SpE S m_X12_hand 14 [.ref 420, .int x0, .int x1] (hp I L w1 w2 t) (some (.int 0)) (hp (up2 (up2 I 420 0 0) 420 0 1) L w1 w2 t) := by
  refine SpE_of ok_X12_hand rfl rfl ?_
  show AW S m_X12_hand 14 _ _ 0 0 0 [some (.ref 420), some (.int x0), some (.int x1), none] [] (hp I L w1 w2 t)
  refine a_l0 rfl rfl rfl ?_
  refine a_s rfl rfl ?_
  refine a_puti rfl pfX12_3_12 rfl ?_
  refine a_l0 rfl rfl rfl ?_
  refine a_l0 rfl rfl rfl ?_
  refine a_l1 rfl rfl rfl ?_
  refine a_eV1 rfl lX12_289 mo_X12_noDuty (sp0_noDuty (by rw [up2_row (by decide)]; exact h)) rfl rfl rfl ⟨12, _, rfl, rfl, rfl⟩ rfl ?_
  refine a_if_ne rfl (fun c11 => ?_) (fun c => absurd c (by decide))
  refine a_s rfl rfl ?_
  refine a_goto rfl ?_
  refine a_s rfl rfl ?_
  refine a_eV1 rfl lX12_243 mo_X12_throwsIf (sp1_throwsIf) rfl rfl rfl ⟨12, _, rfl, rfl, rfl⟩ rfl ?_
  refine a_if_ne rfl (fun c31 => ?_) (fun c => absurd c (by decide))
  refine a_s rfl rfl ?_
  refine a_iret rfl rfl ⟨rfl, rfl⟩
theorem sp0_X11_lean {x0 x1 : Int32} (h : I 235 3 = 0) : SpX S m_X11_lean 13 [.ref 200, .int x0, .int x1] (hp I L w1 w2 t) eIO (hp I L w1 w2 0) := by
  refine SpX_of ok_X11_lean rfl rfl ?_
  show AW S m_X11_lean 13 _ _ 1 6 0 [some (.ref 200), some (.int x0), some (.int x1), none] [] (hp I L w1 w2 t)
  refine a_l0 rfl rfl rfl ?_
  refine a_l1 rfl rfl rfl ?_
  exact a_xV rfl lX11_141 mo_X11_needDuty (sp0_needDuty h) rfl rfl rfl ⟨11, _, rfl, rfl, rfl⟩ rfl ⟨rfl, rfl⟩
theorem sp0_L_lean {x0 x1 : Int32} (h : I 235 3 = 0) : Sp S m_L_lean 14 1 6 [.ref 200, .int x0, .int x1, .ref 431] (hp I L w1 w2 t) (fun v h' => v = some (.int 1) ∧ h' = hp I L w1 w2 0) (fun _ _ => False) := by
  refine Sp_of ok_L_lean rfl rfl ?_
  show AW S m_L_lean 14 _ _ 1 6 0 [some (.ref 200), some (.int x0), some (.int x1), some (.ref 431), none] [] (hp I L w1 w2 t)
  refine a_l3 rfl rfl rfl ?_
  refine a_s rfl rfl ?_
  refine a_l0 rfl rfl rfl ?_
  refine a_l1 rfl rfl rfl ?_
  refine a_l2 rfl rfl rfl ?_
  refine a_callVc rfl lL_49 mo_X11_lean (sp0_X11_lean h) rfl rfl rfl ⟨11, _, rfl, rfl, rfl⟩ (fun v h' hv => False.elim hv) (fun E h' hx => ?_)
  obtain ⟨rfl, rfl⟩ := hx
  refine ⟨13, _, _, _, _, 4, tkIO rfl (by decide) (by decide), rfl, rfl, by decide, ?_⟩
  refine a_s rfl rfl ?_
  exact a_iret rfl rfl ⟨rfl, rfl⟩
theorem sp0_X12_lean {x0 x1 : Int32} (h : I 421 1 = 0) : SpE S m_X12_lean 14 [.ref 420, .int x0, .int x1] (hp I L w1 w2 t) (some (.int 0)) (hp (up2 (up2 I 420 0 0) 420 0 1) L w1 w2 t) := by
  refine SpE_of ok_X12_lean rfl rfl ?_
  show AW S m_X12_lean 14 _ _ 0 0 0 [some (.ref 420), some (.int x0), some (.int x1), none] [] (hp I L w1 w2 t)
  refine a_l0 rfl rfl rfl ?_
  refine a_s rfl rfl ?_
  refine a_puti rfl pfX12_3_12 rfl ?_
  refine a_l0 rfl rfl rfl ?_
  refine a_l0 rfl rfl rfl ?_
  refine a_l1 rfl rfl rfl ?_
  refine a_eV1 rfl lX12_289 mo_X12_noDuty (sp0_noDuty (by rw [up2_row (by decide)]; exact h)) rfl rfl rfl ⟨12, _, rfl, rfl, rfl⟩ rfl ?_
  refine a_if_ne rfl (fun c11 => ?_) (fun c => absurd c (by decide))
  refine a_s rfl rfl ?_
  refine a_goto rfl ?_
  refine a_s rfl rfl ?_
  refine a_eV1 rfl lX12_243 mo_X12_throwsIf (sp1_throwsIf) rfl rfl rfl ⟨12, _, rfl, rfl, rfl⟩ rfl ?_
  refine a_if_ne rfl (fun c36 => ?_) (fun c => absurd c (by decide))
  refine a_s rfl rfl ?_
  refine a_iret rfl rfl ⟨rfl, rfl⟩
theorem sp0_X11_free {x0 x1 : Int32} (h : I 235 0 = 0) : SpX S m_X11_free 13 [.ref 200, .int x0, .int x1] (hp I L w1 w2 t) eIO (hp I L w1 w2 0) := by
  refine SpX_of ok_X11_free rfl rfl ?_
  show AW S m_X11_free 13 _ _ 1 6 0 [some (.ref 200), some (.int x0), some (.int x1), none] [] (hp I L w1 w2 t)
  refine a_l0 rfl rfl rfl ?_
  refine a_l1 rfl rfl rfl ?_
  exact a_xV rfl lX11_110 mo_X11_needPerson (sp0_needPerson h) rfl rfl rfl ⟨11, _, rfl, rfl, rfl⟩ rfl ⟨rfl, rfl⟩
theorem sp0_L_free {x0 x1 : Int32} (h : I 235 0 = 0) : Sp S m_L_free 14 1 6 [.ref 200, .int x0, .int x1, .ref 431] (hp I L w1 w2 t) (fun v h' => v = some (.int 1) ∧ h' = hp I L w1 w2 0) (fun _ _ => False) := by
  refine Sp_of ok_L_free rfl rfl ?_
  show AW S m_L_free 14 _ _ 1 6 0 [some (.ref 200), some (.int x0), some (.int x1), some (.ref 431), none] [] (hp I L w1 w2 t)
  refine a_l3 rfl rfl rfl ?_
  refine a_s rfl rfl ?_
  refine a_l0 rfl rfl rfl ?_
  refine a_l1 rfl rfl rfl ?_
  refine a_l2 rfl rfl rfl ?_
  refine a_callVc rfl lL_52 mo_X11_free (sp0_X11_free h) rfl rfl rfl ⟨11, _, rfl, rfl, rfl⟩ (fun v h' hv => False.elim hv) (fun E h' hx => ?_)
  obtain ⟨rfl, rfl⟩ := hx
  refine ⟨13, _, _, _, _, 4, tkIO rfl (by decide) (by decide), rfl, rfl, by decide, ?_⟩
  refine a_s rfl rfl ?_
  exact a_iret rfl rfl ⟨rfl, rfl⟩
theorem sp0_X12_free {x0 x1 : Int32} (h : I 421 0 = 0) : SpE S m_X12_free 14 [.ref 420, .int x0, .int x1] (hp I L w1 w2 t) (some (.int 0)) (hp (up2 (up2 I 420 0 0) 420 0 1) L w1 w2 t) := by
  refine SpE_of ok_X12_free rfl rfl ?_
  show AW S m_X12_free 14 _ _ 0 0 0 [some (.ref 420), some (.int x0), some (.int x1), none] [] (hp I L w1 w2 t)
  refine a_l0 rfl rfl rfl ?_
  refine a_s rfl rfl ?_
  refine a_puti rfl pfX12_3_12 rfl ?_
  refine a_l0 rfl rfl rfl ?_
  refine a_l0 rfl rfl rfl ?_
  refine a_l1 rfl rfl rfl ?_
  refine a_eV1 rfl lX12_342 mo_X12_noPerson (sp0_noPerson (by rw [up2_row (by decide)]; exact h)) rfl rfl rfl ⟨12, _, rfl, rfl, rfl⟩ rfl ?_
  refine a_s rfl rfl ?_
  refine a_eV1 rfl lX12_243 mo_X12_throwsIf (sp1_throwsIf) rfl rfl rfl ⟨12, _, rfl, rfl, rfl⟩ rfl ?_
  refine a_if_ne rfl (fun c15 => ?_) (fun c => absurd c (by decide))
  refine a_s rfl rfl ?_
  refine a_iret rfl rfl ⟨rfl, rfl⟩
theorem sp0_X11_greets {x0 x1 : Int32} (h : I 235 3 = 0) : SpX S m_X11_greets 13 [.ref 200, .int x0, .int x1] (hp I L w1 w2 t) eIO (hp I L w1 w2 0) := by
  refine SpX_of ok_X11_greets rfl rfl ?_
  show AW S m_X11_greets 13 _ _ 1 6 0 [some (.ref 200), some (.int x0), some (.int x1), none] [] (hp I L w1 w2 t)
  refine a_l0 rfl rfl rfl ?_
  refine a_l1 rfl rfl rfl ?_
  exact a_xV rfl lX11_141 mo_X11_needDuty (sp0_needDuty h) rfl rfl rfl ⟨11, _, rfl, rfl, rfl⟩ rfl ⟨rfl, rfl⟩
theorem sp0_L_greets {x0 x1 : Int32} (h : I 235 3 = 0) : Sp S m_L_greets 14 1 6 [.ref 200, .int x0, .int x1, .ref 431] (hp I L w1 w2 t) (fun v h' => v = some (.int 1) ∧ h' = hp I L w1 w2 0) (fun _ _ => False) := by
  refine Sp_of ok_L_greets rfl rfl ?_
  show AW S m_L_greets 14 _ _ 1 6 0 [some (.ref 200), some (.int x0), some (.int x1), some (.ref 431), none] [] (hp I L w1 w2 t)
  refine a_l3 rfl rfl rfl ?_
  refine a_s rfl rfl ?_
  refine a_l0 rfl rfl rfl ?_
  refine a_l1 rfl rfl rfl ?_
  refine a_l2 rfl rfl rfl ?_
  refine a_callVc rfl lL_58 mo_X11_greets (sp0_X11_greets h) rfl rfl rfl ⟨11, _, rfl, rfl, rfl⟩ (fun v h' hv => False.elim hv) (fun E h' hx => ?_)
  obtain ⟨rfl, rfl⟩ := hx
  refine ⟨13, _, _, _, _, 4, tkIO rfl (by decide) (by decide), rfl, rfl, by decide, ?_⟩
  refine a_s rfl rfl ?_
  exact a_iret rfl rfl ⟨rfl, rfl⟩
theorem sp0_X12_greets {x0 x1 : Int32} (h : I 421 1 = 0) : SpE S m_X12_greets 14 [.ref 420, .int x0, .int x1] (hp I L w1 w2 t) (some (.int 0)) (hp (up2 (up2 I 420 0 0) 420 0 1) L w1 w2 t) := by
  refine SpE_of ok_X12_greets rfl rfl ?_
  show AW S m_X12_greets 14 _ _ 0 0 0 [some (.ref 420), some (.int x0), some (.int x1)] [] (hp I L w1 w2 t)
  refine a_l0 rfl rfl rfl ?_
  refine a_s rfl rfl ?_
  refine a_puti rfl pfX12_3_12 rfl ?_
  refine a_l0 rfl rfl rfl ?_
  refine a_l0 rfl rfl rfl ?_
  refine a_l1 rfl rfl rfl ?_
  refine a_eV1 rfl lX12_289 mo_X12_noDuty (sp0_noDuty (by rw [up2_row (by decide)]; exact h)) rfl rfl rfl ⟨12, _, rfl, rfl, rfl⟩ rfl ?_
  refine a_if_ne rfl (fun c11 => ?_) (fun c => absurd c (by decide))
  refine a_s rfl rfl ?_
  refine a_goto rfl ?_
  refine a_s rfl rfl ?_
  refine a_eV1 rfl lX12_243 mo_X12_throwsIf (sp1_throwsIf) rfl rfl rfl ⟨12, _, rfl, rfl, rfl⟩ rfl ?_
  refine a_if_eq rfl (fun c => absurd c (by decide)) (fun c30 => ?_)
  refine a_s rfl rfl ?_
  refine a_iret rfl rfl ⟨rfl, rfl⟩
theorem sp0_X11_where {x0 x1 : Int32} (h : I 235 3 = 0) : SpX S m_X11_where 13 [.ref 200, .int x0, .int x1] (hp I L w1 w2 t) eIO (hp I L w1 w2 0) := by
  refine SpX_of ok_X11_where rfl rfl ?_
  show AW S m_X11_where 13 _ _ 1 6 0 [some (.ref 200), some (.int x0), some (.int x1)] [] (hp I L w1 w2 t)
  refine a_l0 rfl rfl rfl ?_
  refine a_l1 rfl rfl rfl ?_
  exact a_xV rfl lX11_141 mo_X11_needDuty (sp0_needDuty h) rfl rfl rfl ⟨11, _, rfl, rfl, rfl⟩ rfl ⟨rfl, rfl⟩
theorem sp0_L_where {x0 x1 : Int32} (h : I 235 3 = 0) : Sp S m_L_where 14 1 6 [.ref 200, .int x0, .int x1, .ref 431] (hp I L w1 w2 t) (fun v h' => v = some (.int 1) ∧ h' = hp I L w1 w2 0) (fun _ _ => False) := by
  refine Sp_of ok_L_where rfl rfl ?_
  show AW S m_L_where 14 _ _ 1 6 0 [some (.ref 200), some (.int x0), some (.int x1), some (.ref 431), none] [] (hp I L w1 w2 t)
  refine a_l3 rfl rfl rfl ?_
  refine a_s rfl rfl ?_
  refine a_l0 rfl rfl rfl ?_
  refine a_l1 rfl rfl rfl ?_
  refine a_l2 rfl rfl rfl ?_
  refine a_callVc rfl lL_61 mo_X11_where (sp0_X11_where h) rfl rfl rfl ⟨11, _, rfl, rfl, rfl⟩ (fun v h' hv => False.elim hv) (fun E h' hx => ?_)
  obtain ⟨rfl, rfl⟩ := hx
  refine ⟨13, _, _, _, _, 4, tkIO rfl (by decide) (by decide), rfl, rfl, by decide, ?_⟩
  refine a_s rfl rfl ?_
  exact a_iret rfl rfl ⟨rfl, rfl⟩
theorem sp0_X12_where {x0 x1 : Int32} (h : I 421 1 = 0) : SpE S m_X12_where 14 [.ref 420, .int x0, .int x1] (hp I L w1 w2 t) (some (.int 0)) (hp (up2 (up2 I 420 0 0) 420 0 1) L w1 w2 t) := by
  refine SpE_of ok_X12_where rfl rfl ?_
  show AW S m_X12_where 14 _ _ 0 0 0 [some (.ref 420), some (.int x0), some (.int x1)] [] (hp I L w1 w2 t)
  refine a_l0 rfl rfl rfl ?_
  refine a_s rfl rfl ?_
  refine a_puti rfl pfX12_3_12 rfl ?_
  refine a_l0 rfl rfl rfl ?_
  refine a_l0 rfl rfl rfl ?_
  refine a_l1 rfl rfl rfl ?_
  refine a_eV1 rfl lX12_289 mo_X12_noDuty (sp0_noDuty (by rw [up2_row (by decide)]; exact h)) rfl rfl rfl ⟨12, _, rfl, rfl, rfl⟩ rfl ?_
  refine a_s rfl rfl ?_
  refine a_eV1 rfl lX12_243 mo_X12_throwsIf (sp1_throwsIf) rfl rfl rfl ⟨12, _, rfl, rfl, rfl⟩ rfl ?_
  refine a_if_ne rfl (fun c15 => ?_) (fun c => absurd c (by decide))
  refine a_s rfl rfl ?_
  refine a_goto rfl ?_
  refine a_iret rfl rfl ⟨rfl, rfl⟩
theorem sp0_X11_soon {x0 : Int32} (h : I 235 3 = 0) : SpX S m_X11_soon 13 [.ref 200, .int x0] (hp I L w1 w2 t) eIO (hp I L w1 w2 0) := by
  refine SpX_of ok_X11_soon rfl rfl ?_
  show AW S m_X11_soon 13 _ _ 1 6 0 [some (.ref 200), some (.int x0)] [] (hp I L w1 w2 t)
  refine a_l0 rfl rfl rfl ?_
  refine a_l1 rfl rfl rfl ?_
  exact a_xV rfl lX11_141 mo_X11_needDuty (sp0_needDuty h) rfl rfl rfl ⟨11, _, rfl, rfl, rfl⟩ rfl ⟨rfl, rfl⟩
theorem sp0_L_soon {x0 : Int32} (h : I 235 3 = 0) : Sp S m_L_soon 14 1 6 [.ref 200, .int x0, .ref 431] (hp I L w1 w2 t) (fun v h' => v = some (.int 1) ∧ h' = hp I L w1 w2 0) (fun _ _ => False) := by
  refine Sp_of ok_L_soon rfl rfl ?_
  show AW S m_L_soon 14 _ _ 1 6 0 [some (.ref 200), some (.int x0), some (.ref 431), none] [] (hp I L w1 w2 t)
  refine a_l2 rfl rfl rfl ?_
  refine a_s rfl rfl ?_
  refine a_l0 rfl rfl rfl ?_
  refine a_l1 rfl rfl rfl ?_
  refine a_callVc rfl lL_72 mo_X11_soon (sp0_X11_soon h) rfl rfl rfl ⟨11, _, rfl, rfl, rfl⟩ (fun v h' hv => False.elim hv) (fun E h' hx => ?_)
  obtain ⟨rfl, rfl⟩ := hx
  refine ⟨12, _, _, _, _, 3, tkIO rfl (by decide) (by decide), rfl, rfl, by decide, ?_⟩
  refine a_s rfl rfl ?_
  exact a_iret rfl rfl ⟨rfl, rfl⟩
theorem sp0_X12_soon {x0 : Int32} (h : I 421 1 = 0) : SpE S m_X12_soon 14 [.ref 420, .int x0] (hp I L w1 w2 t) (some (.int 0)) (hp (up2 (up2 I 420 0 0) 420 0 1) L w1 w2 t) := by
  refine SpE_of ok_X12_soon rfl rfl ?_
  show AW S m_X12_soon 14 _ _ 0 0 0 [some (.ref 420), some (.int x0)] [] (hp I L w1 w2 t)
  refine a_l0 rfl rfl rfl ?_
  refine a_s rfl rfl ?_
  refine a_puti rfl pfX12_3_12 rfl ?_
  refine a_l0 rfl rfl rfl ?_
  refine a_l0 rfl rfl rfl ?_
  refine a_l1 rfl rfl rfl ?_
  refine a_eV1 rfl lX12_289 mo_X12_noDuty (sp0_noDuty (by rw [up2_row (by decide)]; exact h)) rfl rfl rfl ⟨12, _, rfl, rfl, rfl⟩ rfl ?_
  refine a_s rfl rfl ?_
  refine a_eV1 rfl lX12_243 mo_X12_throwsIf (sp1_throwsIf) rfl rfl rfl ⟨12, _, rfl, rfl, rfl⟩ rfl ?_
  refine a_if_eq rfl (fun c => absurd c (by decide)) (fun c15 => ?_)
  refine a_s rfl rfl ?_
  refine a_goto rfl ?_
  refine a_iret rfl rfl ⟨rfl, rfl⟩
theorem sp0_X11_before {x0 : Int32} (h : I 235 3 = 0) : SpX S m_X11_before 13 [.ref 200, .int x0] (hp I L w1 w2 t) eIO (hp I L w1 w2 0) := by
  refine SpX_of ok_X11_before rfl rfl ?_
  show AW S m_X11_before 13 _ _ 1 6 0 [some (.ref 200), some (.int x0)] [] (hp I L w1 w2 t)
  refine a_l0 rfl rfl rfl ?_
  refine a_l1 rfl rfl rfl ?_
  exact a_xV rfl lX11_141 mo_X11_needDuty (sp0_needDuty h) rfl rfl rfl ⟨11, _, rfl, rfl, rfl⟩ rfl ⟨rfl, rfl⟩
theorem sp0_L_before {x0 : Int32} (h : I 235 3 = 0) : Sp S m_L_before 14 1 6 [.ref 200, .int x0, .ref 431] (hp I L w1 w2 t) (fun v h' => v = some (.int 1) ∧ h' = hp I L w1 w2 0) (fun _ _ => False) := by
  refine Sp_of ok_L_before rfl rfl ?_
  show AW S m_L_before 14 _ _ 1 6 0 [some (.ref 200), some (.int x0), some (.ref 431), none] [] (hp I L w1 w2 t)
  refine a_l2 rfl rfl rfl ?_
  refine a_s rfl rfl ?_
  refine a_l0 rfl rfl rfl ?_
  refine a_l1 rfl rfl rfl ?_
  refine a_callVc rfl lL_75 mo_X11_before (sp0_X11_before h) rfl rfl rfl ⟨11, _, rfl, rfl, rfl⟩ (fun v h' hv => False.elim hv) (fun E h' hx => ?_)
  obtain ⟨rfl, rfl⟩ := hx
  refine ⟨12, _, _, _, _, 3, tkIO rfl (by decide) (by decide), rfl, rfl, by decide, ?_⟩
  refine a_s rfl rfl ?_
  exact a_iret rfl rfl ⟨rfl, rfl⟩
theorem sp0_X12_before {x0 : Int32} (h : I 421 1 = 0) : SpE S m_X12_before 14 [.ref 420, .int x0] (hp I L w1 w2 t) (some (.int 0)) (hp (up2 (up2 I 420 0 0) 420 0 1) L w1 w2 t) := by
  refine SpE_of ok_X12_before rfl rfl ?_
  show AW S m_X12_before 14 _ _ 0 0 0 [some (.ref 420), some (.int x0)] [] (hp I L w1 w2 t)
  refine a_l0 rfl rfl rfl ?_
  refine a_s rfl rfl ?_
  refine a_puti rfl pfX12_3_12 rfl ?_
  refine a_l0 rfl rfl rfl ?_
  refine a_l0 rfl rfl rfl ?_
  refine a_l1 rfl rfl rfl ?_
  refine a_eV1 rfl lX12_289 mo_X12_noDuty (sp0_noDuty (by rw [up2_row (by decide)]; exact h)) rfl rfl rfl ⟨12, _, rfl, rfl, rfl⟩ rfl ?_
  refine a_s rfl rfl ?_
  refine a_eV1 rfl lX12_243 mo_X12_throwsIf (sp1_throwsIf) rfl rfl rfl ⟨12, _, rfl, rfl, rfl⟩ rfl ?_
  refine a_if_eq rfl (fun c => absurd c (by decide)) (fun c15 => ?_)
  refine a_s rfl rfl ?_
  refine a_goto rfl ?_
  refine a_iret rfl rfl ⟨rfl, rfl⟩
theorem sp0_X11_after {x0 : Int32} (h : I 235 3 = 0) : SpX S m_X11_after 13 [.ref 200, .int x0] (hp I L w1 w2 t) eIO (hp I L w1 w2 0) := by
  refine SpX_of ok_X11_after rfl rfl ?_
  show AW S m_X11_after 13 _ _ 1 6 0 [some (.ref 200), some (.int x0)] [] (hp I L w1 w2 t)
  refine a_l0 rfl rfl rfl ?_
  refine a_l1 rfl rfl rfl ?_
  exact a_xV rfl lX11_141 mo_X11_needDuty (sp0_needDuty h) rfl rfl rfl ⟨11, _, rfl, rfl, rfl⟩ rfl ⟨rfl, rfl⟩
theorem sp0_L_after {x0 : Int32} (h : I 235 3 = 0) : Sp S m_L_after 14 1 6 [.ref 200, .int x0, .ref 431] (hp I L w1 w2 t) (fun v h' => v = some (.int 1) ∧ h' = hp I L w1 w2 0) (fun _ _ => False) := by
  refine Sp_of ok_L_after rfl rfl ?_
  show AW S m_L_after 14 _ _ 1 6 0 [some (.ref 200), some (.int x0), some (.ref 431), none] [] (hp I L w1 w2 t)
  refine a_l2 rfl rfl rfl ?_
  refine a_s rfl rfl ?_
  refine a_l0 rfl rfl rfl ?_
  refine a_l1 rfl rfl rfl ?_
  refine a_callVc rfl lL_78 mo_X11_after (sp0_X11_after h) rfl rfl rfl ⟨11, _, rfl, rfl, rfl⟩ (fun v h' hv => False.elim hv) (fun E h' hx => ?_)
  obtain ⟨rfl, rfl⟩ := hx
  refine ⟨12, _, _, _, _, 3, tkIO rfl (by decide) (by decide), rfl, rfl, by decide, ?_⟩
  refine a_s rfl rfl ?_
  exact a_iret rfl rfl ⟨rfl, rfl⟩
theorem sp0_X12_after {x0 : Int32} (h : I 421 1 = 0) : SpE S m_X12_after 14 [.ref 420, .int x0] (hp I L w1 w2 t) (some (.int 0)) (hp (up2 (up2 I 420 0 0) 420 0 1) L w1 w2 t) := by
  refine SpE_of ok_X12_after rfl rfl ?_
  show AW S m_X12_after 14 _ _ 0 0 0 [some (.ref 420), some (.int x0), none, none] [] (hp I L w1 w2 t)
  refine a_l0 rfl rfl rfl ?_
  refine a_s rfl rfl ?_
  refine a_puti rfl pfX12_3_12 rfl ?_
  refine a_l0 rfl rfl rfl ?_
  refine a_l0 rfl rfl rfl ?_
  refine a_l1 rfl rfl rfl ?_
  refine a_eV1 rfl lX12_289 mo_X12_noDuty (sp0_noDuty (by rw [up2_row (by decide)]; exact h)) rfl rfl rfl ⟨12, _, rfl, rfl, rfl⟩ rfl ?_
  refine a_s rfl rfl ?_
  refine a_eV1 rfl lX12_243 mo_X12_throwsIf (sp1_throwsIf) rfl rfl rfl ⟨12, _, rfl, rfl, rfl⟩ rfl ?_
  refine a_if_eq rfl (fun c => absurd c (by decide)) (fun c15 => ?_)
  refine a_s rfl rfl ?_
  refine a_iret rfl rfl ⟨rfl, rfl⟩
theorem sp0_X11_depth {x0 : Int32} (h : I 235 3 = 0) : SpX S m_X11_depth 13 [.ref 200, .int x0] (hp I L w1 w2 t) eIO (hp I L w1 w2 0) := by
  refine SpX_of ok_X11_depth rfl rfl ?_
  show AW S m_X11_depth 13 _ _ 1 6 0 [some (.ref 200), some (.int x0)] [] (hp I L w1 w2 t)
  refine a_l0 rfl rfl rfl ?_
  refine a_l1 rfl rfl rfl ?_
  exact a_xV rfl lX11_141 mo_X11_needDuty (sp0_needDuty h) rfl rfl rfl ⟨11, _, rfl, rfl, rfl⟩ rfl ⟨rfl, rfl⟩
theorem sp0_L_depth {x0 : Int32} (h : I 235 3 = 0) : Sp S m_L_depth 14 1 6 [.ref 200, .int x0, .ref 431] (hp I L w1 w2 t) (fun v h' => v = some (.int 1) ∧ h' = hp I L w1 w2 0) (fun _ _ => False) := by
  refine Sp_of ok_L_depth rfl rfl ?_
  show AW S m_L_depth 14 _ _ 1 6 0 [some (.ref 200), some (.int x0), some (.ref 431), none] [] (hp I L w1 w2 t)
  refine a_l2 rfl rfl rfl ?_
  refine a_s rfl rfl ?_
  refine a_l0 rfl rfl rfl ?_
  refine a_l1 rfl rfl rfl ?_
  refine a_callVc rfl lL_81 mo_X11_depth (sp0_X11_depth h) rfl rfl rfl ⟨11, _, rfl, rfl, rfl⟩ (fun v h' hv => False.elim hv) (fun E h' hx => ?_)
  obtain ⟨rfl, rfl⟩ := hx
  refine ⟨12, _, _, _, _, 3, tkIO rfl (by decide) (by decide), rfl, rfl, by decide, ?_⟩
  refine a_s rfl rfl ?_
  exact a_iret rfl rfl ⟨rfl, rfl⟩
theorem sp0_X12_depth {x0 : Int32} (h : I 421 1 = 0) : SpE S m_X12_depth 14 [.ref 420, .int x0] (hp I L w1 w2 t) (some (.int 0)) (hp (up2 (up2 I 420 0 0) 420 0 1) L w1 w2 t) := by
  refine SpE_of ok_X12_depth rfl rfl ?_
  show AW S m_X12_depth 14 _ _ 0 0 0 [some (.ref 420), some (.int x0)] [] (hp I L w1 w2 t)
  refine a_l0 rfl rfl rfl ?_
  refine a_s rfl rfl ?_
  refine a_puti rfl pfX12_3_12 rfl ?_
  refine a_l0 rfl rfl rfl ?_
  refine a_l0 rfl rfl rfl ?_
  refine a_l1 rfl rfl rfl ?_
  refine a_eV1 rfl lX12_289 mo_X12_noDuty (sp0_noDuty (by rw [up2_row (by decide)]; exact h)) rfl rfl rfl ⟨12, _, rfl, rfl, rfl⟩ rfl ?_
  refine a_s rfl rfl ?_
  refine a_eV1 rfl lX12_243 mo_X12_throwsIf (sp1_throwsIf) rfl rfl rfl ⟨12, _, rfl, rfl, rfl⟩ rfl ?_
  refine a_if_eq rfl (fun c => absurd c (by decide)) (fun c15 => ?_)
  refine a_s rfl rfl ?_
  refine a_goto rfl ?_
  refine a_iret rfl rfl ⟨rfl, rfl⟩
theorem sp0_X11_rests {x0 x1 x2 : Int32} (h : I 235 0 = 0) : SpX S m_X11_rests 13 [.ref 200, .int x0, .int x1, .int x2] (hp I L w1 w2 t) eIO (hp I L w1 w2 0) := by
  refine SpX_of ok_X11_rests rfl rfl ?_
  show AW S m_X11_rests 13 _ _ 1 6 0 [some (.ref 200), some (.int x0), some (.int x1), some (.int x2)] [] (hp I L w1 w2 t)
  refine a_l0 rfl rfl rfl ?_
  refine a_l1 rfl rfl rfl ?_
  exact a_xV rfl lX11_110 mo_X11_needPerson (sp0_needPerson h) rfl rfl rfl ⟨11, _, rfl, rfl, rfl⟩ rfl ⟨rfl, rfl⟩
theorem sp0_L_rests {x0 x1 x2 : Int32} (h : I 235 0 = 0) : Sp S m_L_rests 14 1 6 [.ref 200, .int x0, .int x1, .int x2, .ref 431] (hp I L w1 w2 t) (fun v h' => v = some (.int 1) ∧ h' = hp I L w1 w2 0) (fun _ _ => False) := by
  refine Sp_of ok_L_rests rfl rfl ?_
  show AW S m_L_rests 14 _ _ 1 6 0 [some (.ref 200), some (.int x0), some (.int x1), some (.int x2), some (.ref 431), none] [] (hp I L w1 w2 t)
  refine a_l4 rfl rfl rfl ?_
  refine a_s rfl rfl ?_
  refine a_l0 rfl rfl rfl ?_
  refine a_l1 rfl rfl rfl ?_
  refine a_l2 rfl rfl rfl ?_
  refine a_l3 rfl rfl rfl ?_
  refine a_callVc rfl lL_99 mo_X11_rests (sp0_X11_rests h) rfl rfl rfl ⟨11, _, rfl, rfl, rfl⟩ (fun v h' hv => False.elim hv) (fun E h' hx => ?_)
  obtain ⟨rfl, rfl⟩ := hx
  refine ⟨15, _, _, _, _, 5, tkIO rfl (by decide) (by decide), rfl, rfl, by decide, ?_⟩
  refine a_s rfl rfl ?_
  exact a_iret rfl rfl ⟨rfl, rfl⟩
theorem sp0_X12_rests {x0 x1 x2 : Int32} (h : I 421 0 = 0) : SpE S m_X12_rests 14 [.ref 420, .int x0, .int x1, .int x2] (hp I L w1 w2 t) (some (.int 0)) (hp (up2 (up2 I 420 0 0) 420 0 1) L w1 w2 t) := by
  refine SpE_of ok_X12_rests rfl rfl ?_
  show AW S m_X12_rests 14 _ _ 0 0 0 [some (.ref 420), some (.int x0), some (.int x1), some (.int x2), none, none, none] [] (hp I L w1 w2 t)
  refine a_l0 rfl rfl rfl ?_
  refine a_s rfl rfl ?_
  refine a_puti rfl pfX12_3_12 rfl ?_
  refine a_l0 rfl rfl rfl ?_
  refine a_l0 rfl rfl rfl ?_
  refine a_l1 rfl rfl rfl ?_
  refine a_eV1 rfl lX12_342 mo_X12_noPerson (sp0_noPerson (by rw [up2_row (by decide)]; exact h)) rfl rfl rfl ⟨12, _, rfl, rfl, rfl⟩ rfl ?_
  refine a_if_ne rfl (fun c11 => ?_) (fun c => absurd c (by decide))
  refine a_s rfl rfl ?_
  refine a_goto rfl ?_
  refine a_s rfl rfl ?_
  refine a_eV1 rfl lX12_243 mo_X12_throwsIf (sp1_throwsIf) rfl rfl rfl ⟨12, _, rfl, rfl, rfl⟩ rfl ?_
  refine a_if_ne rfl (fun c39 => ?_) (fun c => absurd c (by decide))
  refine a_s rfl rfl ?_
  refine a_iret rfl rfl ⟨rfl, rfl⟩
theorem sp0_X11_spare {x0 x1 : Int32} (h : I 235 0 = 0) : SpX S m_X11_spare 13 [.ref 200, .int x0, .int x1] (hp I L w1 w2 t) eIO (hp I L w1 w2 0) := by
  refine SpX_of ok_X11_spare rfl rfl ?_
  show AW S m_X11_spare 13 _ _ 1 6 0 [some (.ref 200), some (.int x0), some (.int x1)] [] (hp I L w1 w2 t)
  refine a_l0 rfl rfl rfl ?_
  refine a_l1 rfl rfl rfl ?_
  exact a_xV rfl lX11_110 mo_X11_needPerson (sp0_needPerson h) rfl rfl rfl ⟨11, _, rfl, rfl, rfl⟩ rfl ⟨rfl, rfl⟩
theorem sp0_L_spare {x0 x1 : Int32} (h : I 235 0 = 0) : Sp S m_L_spare 14 1 6 [.ref 200, .int x0, .int x1, .ref 431] (hp I L w1 w2 t) (fun v h' => v = some (.int 1) ∧ h' = hp I L w1 w2 0) (fun _ _ => False) := by
  refine Sp_of ok_L_spare rfl rfl ?_
  show AW S m_L_spare 14 _ _ 1 6 0 [some (.ref 200), some (.int x0), some (.int x1), some (.ref 431), none] [] (hp I L w1 w2 t)
  refine a_l3 rfl rfl rfl ?_
  refine a_s rfl rfl ?_
  refine a_l0 rfl rfl rfl ?_
  refine a_l1 rfl rfl rfl ?_
  refine a_l2 rfl rfl rfl ?_
  refine a_callVc rfl lL_105 mo_X11_spare (sp0_X11_spare h) rfl rfl rfl ⟨11, _, rfl, rfl, rfl⟩ (fun v h' hv => False.elim hv) (fun E h' hx => ?_)
  obtain ⟨rfl, rfl⟩ := hx
  refine ⟨13, _, _, _, _, 4, tkIO rfl (by decide) (by decide), rfl, rfl, by decide, ?_⟩
  refine a_s rfl rfl ?_
  exact a_iret rfl rfl ⟨rfl, rfl⟩
theorem sp0_X12_spare {x0 x1 : Int32} (h : I 421 0 = 0) : SpE S m_X12_spare 14 [.ref 420, .int x0, .int x1] (hp I L w1 w2 t) (some (.int 0)) (hp (up2 (up2 I 420 0 0) 420 0 1) L w1 w2 t) := by
  refine SpE_of ok_X12_spare rfl rfl ?_
  show AW S m_X12_spare 14 _ _ 0 0 0 [some (.ref 420), some (.int x0), some (.int x1), none, none] [] (hp I L w1 w2 t)
  refine a_l0 rfl rfl rfl ?_
  refine a_s rfl rfl ?_
  refine a_puti rfl pfX12_3_12 rfl ?_
  refine a_l0 rfl rfl rfl ?_
  refine a_l0 rfl rfl rfl ?_
  refine a_l1 rfl rfl rfl ?_
  refine a_eV1 rfl lX12_342 mo_X12_noPerson (sp0_noPerson (by rw [up2_row (by decide)]; exact h)) rfl rfl rfl ⟨12, _, rfl, rfl, rfl⟩ rfl ?_
  refine a_s rfl rfl ?_
  refine a_eV1 rfl lX12_243 mo_X12_throwsIf (sp1_throwsIf) rfl rfl rfl ⟨12, _, rfl, rfl, rfl⟩ rfl ?_
  refine a_if_ne rfl (fun c15 => ?_) (fun c => absurd c (by decide))
  refine a_s rfl rfl ?_
  refine a_iret rfl rfl ⟨rfl, rfl⟩
theorem sp0_X11_done {x0 : Int32} (h : I 235 3 = 0) : SpX S m_X11_done 13 [.ref 200, .int x0] (hp I L w1 w2 t) eIO (hp I L w1 w2 0) := by
  refine SpX_of ok_X11_done rfl rfl ?_
  show AW S m_X11_done 13 _ _ 1 6 0 [some (.ref 200), some (.int x0)] [] (hp I L w1 w2 t)
  refine a_l0 rfl rfl rfl ?_
  refine a_l1 rfl rfl rfl ?_
  exact a_xV rfl lX11_141 mo_X11_needDuty (sp0_needDuty h) rfl rfl rfl ⟨11, _, rfl, rfl, rfl⟩ rfl ⟨rfl, rfl⟩
theorem sp0_L_done {x0 : Int32} (h : I 235 3 = 0) : Sp S m_L_done 14 1 6 [.ref 200, .int x0, .ref 431] (hp I L w1 w2 t) (fun v h' => v = some (.int 1) ∧ h' = hp I L w1 w2 0) (fun _ _ => False) := by
  refine Sp_of ok_L_done rfl rfl ?_
  show AW S m_L_done 14 _ _ 1 6 0 [some (.ref 200), some (.int x0), some (.ref 431), none] [] (hp I L w1 w2 t)
  refine a_l2 rfl rfl rfl ?_
  refine a_s rfl rfl ?_
  refine a_l0 rfl rfl rfl ?_
  refine a_l1 rfl rfl rfl ?_
  refine a_callVc rfl lL_108 mo_X11_done (sp0_X11_done h) rfl rfl rfl ⟨11, _, rfl, rfl, rfl⟩ (fun v h' hv => False.elim hv) (fun E h' hx => ?_)
  obtain ⟨rfl, rfl⟩ := hx
  refine ⟨12, _, _, _, _, 3, tkIO rfl (by decide) (by decide), rfl, rfl, by decide, ?_⟩
  refine a_s rfl rfl ?_
  exact a_iret rfl rfl ⟨rfl, rfl⟩
theorem sp0_X12_done {x0 : Int32} (h : I 421 1 = 0) : SpE S m_X12_done 14 [.ref 420, .int x0] (hp I L w1 w2 t) (some (.int 0)) (hp (up2 (up2 I 420 0 0) 420 0 1) L w1 w2 t) := by
  refine SpE_of ok_X12_done rfl rfl ?_
  show AW S m_X12_done 14 _ _ 0 0 0 [some (.ref 420), some (.int x0)] [] (hp I L w1 w2 t)
  refine a_l0 rfl rfl rfl ?_
  refine a_s rfl rfl ?_
  refine a_puti rfl pfX12_3_12 rfl ?_
  refine a_l0 rfl rfl rfl ?_
  refine a_l0 rfl rfl rfl ?_
  refine a_l1 rfl rfl rfl ?_
  refine a_eV1 rfl lX12_289 mo_X12_noDuty (sp0_noDuty (by rw [up2_row (by decide)]; exact h)) rfl rfl rfl ⟨12, _, rfl, rfl, rfl⟩ rfl ?_
  refine a_s rfl rfl ?_
  refine a_eV1 rfl lX12_243 mo_X12_throwsIf (sp1_throwsIf) rfl rfl rfl ⟨12, _, rfl, rfl, rfl⟩ rfl ?_
  refine a_if_eq rfl (fun c => absurd c (by decide)) (fun c15 => ?_)
  refine a_s rfl rfl ?_
  refine a_iret rfl rfl ⟨rfl, rfl⟩
theorem sp0_X11_sick {x0 : Int32} (h : I 235 0 = 0) : SpX S m_X11_sick 13 [.ref 200, .int x0] (hp I L w1 w2 t) eIO (hp I L w1 w2 0) := by
  refine SpX_of ok_X11_sick rfl rfl ?_
  show AW S m_X11_sick 13 _ _ 1 6 0 [some (.ref 200), some (.int x0), none, none] [] (hp I L w1 w2 t)
  refine a_l0 rfl rfl rfl ?_
  refine a_l1 rfl rfl rfl ?_
  exact a_xV rfl lX11_110 mo_X11_needPerson (sp0_needPerson h) rfl rfl rfl ⟨11, _, rfl, rfl, rfl⟩ rfl ⟨rfl, rfl⟩
theorem sp0_L_sick {x0 : Int32} (h : I 235 0 = 0) : Sp S m_L_sick 14 1 6 [.ref 200, .int x0, .ref 431] (hp I L w1 w2 t) (fun v h' => v = some (.int 1) ∧ h' = hp I L w1 w2 0) (fun _ _ => False) := by
  refine Sp_of ok_L_sick rfl rfl ?_
  show AW S m_L_sick 14 _ _ 1 6 0 [some (.ref 200), some (.int x0), some (.ref 431), none] [] (hp I L w1 w2 t)
  refine a_l2 rfl rfl rfl ?_
  refine a_s rfl rfl ?_
  refine a_l0 rfl rfl rfl ?_
  refine a_l1 rfl rfl rfl ?_
  refine a_callVc rfl lL_111 mo_X11_sick (sp0_X11_sick h) rfl rfl rfl ⟨11, _, rfl, rfl, rfl⟩ (fun v h' hv => False.elim hv) (fun E h' hx => ?_)
  obtain ⟨rfl, rfl⟩ := hx
  refine ⟨12, _, _, _, _, 3, tkIO rfl (by decide) (by decide), rfl, rfl, by decide, ?_⟩
  refine a_s rfl rfl ?_
  exact a_iret rfl rfl ⟨rfl, rfl⟩
theorem sp0_X12_sick {x0 : Int32} (h : I 421 0 = 0) : SpE S m_X12_sick 14 [.ref 420, .int x0] (hp I L w1 w2 t) (some (.int 0)) (hp (up2 (up2 I 420 0 0) 420 0 1) L w1 w2 t) := by
  refine SpE_of ok_X12_sick rfl rfl ?_
  show AW S m_X12_sick 14 _ _ 0 0 0 [some (.ref 420), some (.int x0), none, none] [] (hp I L w1 w2 t)
  refine a_l0 rfl rfl rfl ?_
  refine a_s rfl rfl ?_
  refine a_puti rfl pfX12_3_12 rfl ?_
  refine a_l0 rfl rfl rfl ?_
  refine a_l0 rfl rfl rfl ?_
  refine a_l1 rfl rfl rfl ?_
  refine a_eV1 rfl lX12_342 mo_X12_noPerson (sp0_noPerson (by rw [up2_row (by decide)]; exact h)) rfl rfl rfl ⟨12, _, rfl, rfl, rfl⟩ rfl ?_
  refine a_s rfl rfl ?_
  refine a_eV1 rfl lX12_243 mo_X12_throwsIf (sp1_throwsIf) rfl rfl rfl ⟨12, _, rfl, rfl, rfl⟩ rfl ?_
  refine a_if_eq rfl (fun c => absurd c (by decide)) (fun c15 => ?_)
  refine a_s rfl rfl ?_
  refine a_iret rfl rfl ⟨rfl, rfl⟩
theorem sp0_X11_swap {x0 x1 : Int32} (h : I 235 0 = 0) : SpX S m_X11_swap 13 [.ref 200, .int x0, .int x1] (hp I L w1 w2 t) eIO (hp I L w1 w2 0) := by
  refine SpX_of ok_X11_swap rfl rfl ?_
  show AW S m_X11_swap 13 _ _ 1 6 0 [some (.ref 200), some (.int x0), some (.int x1)] [] (hp I L w1 w2 t)
  refine a_l0 rfl rfl rfl ?_
  refine a_l1 rfl rfl rfl ?_
  exact a_xV rfl lX11_110 mo_X11_needPerson (sp0_needPerson h) rfl rfl rfl ⟨11, _, rfl, rfl, rfl⟩ rfl ⟨rfl, rfl⟩
theorem sp0_L_swap {x0 x1 : Int32} (h : I 235 0 = 0) : Sp S m_L_swap 14 1 6 [.ref 200, .int x0, .int x1, .ref 431] (hp I L w1 w2 t) (fun v h' => v = some (.int 1) ∧ h' = hp I L w1 w2 0) (fun _ _ => False) := by
  refine Sp_of ok_L_swap rfl rfl ?_
  show AW S m_L_swap 14 _ _ 1 6 0 [some (.ref 200), some (.int x0), some (.int x1), some (.ref 431), none] [] (hp I L w1 w2 t)
  refine a_l3 rfl rfl rfl ?_
  refine a_s rfl rfl ?_
  refine a_l0 rfl rfl rfl ?_
  refine a_l1 rfl rfl rfl ?_
  refine a_l2 rfl rfl rfl ?_
  refine a_callVc rfl lL_96 mo_X11_swap (sp0_X11_swap h) rfl rfl rfl ⟨11, _, rfl, rfl, rfl⟩ (fun v h' hv => False.elim hv) (fun E h' hx => ?_)
  obtain ⟨rfl, rfl⟩ := hx
  refine ⟨13, _, _, _, _, 4, tkIO rfl (by decide) (by decide), rfl, rfl, by decide, ?_⟩
  refine a_s rfl rfl ?_
  exact a_iret rfl rfl ⟨rfl, rfl⟩
theorem sp0_X12_swap {x0 x1 : Int32} (h : I 421 0 = 0) : SpE S m_X12_swap 14 [.ref 420, .int x0, .int x1] (hp I L w1 w2 t) (some (.int 0)) (hp (up2 (up2 I 420 0 0) 420 0 1) L w1 w2 t) := by
  refine SpE_of ok_X12_swap rfl rfl ?_
  show AW S m_X12_swap 14 _ _ 0 0 0 [some (.ref 420), some (.int x0), some (.int x1), none, none] [] (hp I L w1 w2 t)
  refine a_l0 rfl rfl rfl ?_
  refine a_s rfl rfl ?_
  refine a_puti rfl pfX12_3_12 rfl ?_
  refine a_l0 rfl rfl rfl ?_
  refine a_l0 rfl rfl rfl ?_
  refine a_l1 rfl rfl rfl ?_
  refine a_eV1 rfl lX12_342 mo_X12_noPerson (sp0_noPerson (by rw [up2_row (by decide)]; exact h)) rfl rfl rfl ⟨12, _, rfl, rfl, rfl⟩ rfl ?_
  refine a_if_ne rfl (fun c11 => ?_) (fun c => absurd c (by decide))
  refine a_s rfl rfl ?_
  refine a_goto rfl ?_
  refine a_s rfl rfl ?_
  refine a_eV1 rfl lX12_243 mo_X12_throwsIf (sp1_throwsIf) rfl rfl rfl ⟨12, _, rfl, rfl, rfl⟩ rfl ?_
  refine a_if_ne rfl (fun c31 => ?_) (fun c => absurd c (by decide))
  refine a_s rfl rfl ?_
  refine a_iret rfl rfl ⟨rfl, rfl⟩
end T2
theorem I0_none : I0 235 3 = 0 ∧ I0 421 1 = 0 ∧ I0 235 0 = 0 ∧ I0 421 0 = 0 := by decide +kernel
theorem op_5 {xs : Nat → Int32} : OpOk xs 487 := by
  show AW (S1 6 xs) m_L_main 1050 QM XM 599770 7281900 487 [some (.ref 199), some (.ref 200), some (.ref 420), some (.ref 431), some (.int 0), none, none] [] (hp I0 L0 0 0 432)
  refine a_l1 rfl rfl rfl ?_
  refine a_l0 rfl rfl rfl ?_
  refine a_l4 rfl rfl rfl ?_
  refine a_s rfl rfl ?_
  refine a_s rfl rfl ?_
  refine a_ialdc rfl scr_mem ⟨by decide, by decide⟩ ?_
  refine a_l0 rfl rfl rfl ?_
  refine a_l4 rfl rfl rfl ?_
  refine a_s rfl rfl ?_
  refine a_s rfl rfl ?_
  refine a_ialdc rfl scr_mem ⟨by decide, by decide⟩ ?_
  refine a_l3 rfl rfl rfl ?_
  refine a_callW rfl lL_159 mo_L_person (sp0_L_person I0_none.2.2.1) rfl rfl rfl rfl (fun v h' hv => ?_) (fun E h' hx => False.elim hx)
  obtain ⟨rfl, rfl⟩ := hv
  refine a_s5 rfl rfl rfl rfl rfl rfl ?_
  refine a_l2 rfl rfl rfl ?_
  refine a_l0 rfl rfl rfl ?_
  refine a_l4 rfl rfl rfl ?_
  refine a_s rfl rfl ?_
  refine a_s rfl rfl ?_
  refine a_ialdc rfl scr_mem ⟨by decide, by decide⟩ ?_
  refine a_l0 rfl rfl rfl ?_
  refine a_l4 rfl rfl rfl ?_
  refine a_s rfl rfl ?_
  refine a_s rfl rfl ?_
  refine a_ialdc rfl scr_mem ⟨by decide, by decide⟩ ?_
  refine a_eV1 rfl lL_162 mo_X12_person (sp0_X12_person I0_none.2.2.2) rfl rfl rfl ⟨12, _, rfl, rfl, rfl⟩ rfl ?_
  refine a_s6 rfl rfl rfl rfl rfl rfl ?_
  refine a_l2 rfl rfl rfl ?_
  refine a_eV1 rfl lL_149 mo_X12_thrown (sp_X12_thrown) rfl rfl rfl ⟨12, _, rfl, rfl, rfl⟩ rfl ?_
  refine a_l5 rfl rfl rfl ?_
  refine a_ic_eq rfl (fun c530 => ?_) (fun c => absurd (by rw [up2_at]) c)
  refine a_l5 rfl rfl rfl ?_
  refine a_if_ne rfl (fun c537 => ?_) (fun c => absurd c (by decide))
  refine a_goto rfl ?_
  exact fin_ok
theorem op_6 {xs : Nat → Int32} : OpOk xs 555 := by
  show AW (S1 6 xs) m_L_main 1050 QM XM 599770 7281900 555 [some (.ref 199), some (.ref 200), some (.ref 420), some (.ref 431), some (.int 0), none, none] [] (hp I0 L0 0 0 432)
  refine a_l1 rfl rfl rfl ?_
  refine a_l0 rfl rfl rfl ?_
  refine a_l4 rfl rfl rfl ?_
  refine a_s rfl rfl ?_
  refine a_s rfl rfl ?_
  refine a_ialdc rfl scr_mem ⟨by decide, by decide⟩ ?_
  refine a_l0 rfl rfl rfl ?_
  refine a_l4 rfl rfl rfl ?_
  refine a_s rfl rfl ?_
  refine a_s rfl rfl ?_
  refine a_ialdc rfl scr_mem ⟨by decide, by decide⟩ ?_
  refine a_l3 rfl rfl rfl ?_
  refine a_callW rfl lL_163 mo_L_duty (sp0_L_duty I0_none.1) rfl rfl rfl rfl (fun v h' hv => ?_) (fun E h' hx => False.elim hx)
  obtain ⟨rfl, rfl⟩ := hv
  refine a_s5 rfl rfl rfl rfl rfl rfl ?_
  refine a_l2 rfl rfl rfl ?_
  refine a_l0 rfl rfl rfl ?_
  refine a_l4 rfl rfl rfl ?_
  refine a_s rfl rfl ?_
  refine a_s rfl rfl ?_
  refine a_ialdc rfl scr_mem ⟨by decide, by decide⟩ ?_
  refine a_l0 rfl rfl rfl ?_
  refine a_l4 rfl rfl rfl ?_
  refine a_s rfl rfl ?_
  refine a_s rfl rfl ?_
  refine a_ialdc rfl scr_mem ⟨by decide, by decide⟩ ?_
  refine a_eV1 rfl lL_165 mo_X12_duty (sp0_X12_duty I0_none.2.1) rfl rfl rfl ⟨12, _, rfl, rfl, rfl⟩ rfl ?_
  refine a_s6 rfl rfl rfl rfl rfl rfl ?_
  refine a_l2 rfl rfl rfl ?_
  refine a_eV1 rfl lL_149 mo_X12_thrown (sp_X12_thrown) rfl rfl rfl ⟨12, _, rfl, rfl, rfl⟩ rfl ?_
  refine a_l5 rfl rfl rfl ?_
  refine a_ic_eq rfl (fun c598 => ?_) (fun c => absurd (by rw [up2_at]) c)
  refine a_l5 rfl rfl rfl ?_
  refine a_if_ne rfl (fun c605 => ?_) (fun c => absurd c (by decide))
  refine a_goto rfl ?_
  exact fin_ok
theorem op_7 {xs : Nat → Int32} : OpOk xs 623 := by
  show AW (S1 6 xs) m_L_main 1050 QM XM 599770 7281900 623 [some (.ref 199), some (.ref 200), some (.ref 420), some (.ref 431), some (.int 0), none, none] [] (hp I0 L0 0 0 432)
  refine a_l1 rfl rfl rfl ?_
  refine a_l0 rfl rfl rfl ?_
  refine a_l4 rfl rfl rfl ?_
  refine a_s rfl rfl ?_
  refine a_s rfl rfl ?_
  refine a_ialdc rfl scr_mem ⟨by decide, by decide⟩ ?_
  refine a_l3 rfl rfl rfl ?_
  refine a_callW rfl lL_166 mo_L_call (sp0_L_call I0_none.1) rfl rfl rfl rfl (fun v h' hv => ?_) (fun E h' hx => False.elim hx)
  obtain ⟨rfl, rfl⟩ := hv
  refine a_s5 rfl rfl rfl rfl rfl rfl ?_
  refine a_l2 rfl rfl rfl ?_
  refine a_l0 rfl rfl rfl ?_
  refine a_l4 rfl rfl rfl ?_
  refine a_s rfl rfl ?_
  refine a_s rfl rfl ?_
  refine a_ialdc rfl scr_mem ⟨by decide, by decide⟩ ?_
  refine a_eV1 rfl lL_169 mo_X12_call (sp0_X12_call I0_none.2.1) rfl rfl rfl ⟨12, _, rfl, rfl, rfl⟩ rfl ?_
  refine a_s6 rfl rfl rfl rfl rfl rfl ?_
  refine a_l2 rfl rfl rfl ?_
  refine a_eV1 rfl lL_149 mo_X12_thrown (sp_X12_thrown) rfl rfl rfl ⟨12, _, rfl, rfl, rfl⟩ rfl ?_
  refine a_l5 rfl rfl rfl ?_
  refine a_ic_eq rfl (fun c654 => ?_) (fun c => absurd (by rw [up2_at]) c)
  refine a_l5 rfl rfl rfl ?_
  refine a_if_ne rfl (fun c661 => ?_) (fun c => absurd c (by decide))
  refine a_goto rfl ?_
  exact fin_ok
theorem op_51 {xs : Nat → Int32} : OpOk xs 2682 := by
  show AW (S1 6 xs) m_L_main 1050 QM XM 599770 7281900 2682 [some (.ref 199), some (.ref 200), some (.ref 420), some (.ref 431), some (.int 0), none, none] [] (hp I0 L0 0 0 432)
  refine a_l1 rfl rfl rfl ?_
  refine a_l0 rfl rfl rfl ?_
  refine a_l4 rfl rfl rfl ?_
  refine a_s rfl rfl ?_
  refine a_s rfl rfl ?_
  refine a_ialdc rfl scr_mem ⟨by decide, by decide⟩ ?_
  refine a_l0 rfl rfl rfl ?_
  refine a_l4 rfl rfl rfl ?_
  refine a_s rfl rfl ?_
  refine a_s rfl rfl ?_
  refine a_ialdc rfl scr_mem ⟨by decide, by decide⟩ ?_
  refine a_if_eq rfl (fun c2695 => ?_) (fun c2695 => ?_)
  · refine a_s rfl rfl ?_
    refine a_l3 rfl rfl rfl ?_
    refine a_callW rfl lL_316 mo_L_led (sp0_L_led I0_none.1) rfl rfl rfl rfl (fun v h' hv => ?_) (fun E h' hx => False.elim hx)
    obtain ⟨rfl, rfl⟩ := hv
    refine a_s5 rfl rfl rfl rfl rfl rfl ?_
    refine a_l2 rfl rfl rfl ?_
    refine a_l0 rfl rfl rfl ?_
    refine a_l4 rfl rfl rfl ?_
    refine a_s rfl rfl ?_
    refine a_s rfl rfl ?_
    refine a_ialdc rfl scr_mem ⟨by decide, by decide⟩ ?_
    refine a_l0 rfl rfl rfl ?_
    refine a_l4 rfl rfl rfl ?_
    refine a_s rfl rfl ?_
    refine a_s rfl rfl ?_
    refine a_ialdc rfl scr_mem ⟨by decide, by decide⟩ ?_
    refine a_if_eq rfl (fun c2722 => ?_) (fun c2722 => ?_)
    · refine a_s rfl rfl ?_
      refine a_eV1 rfl lL_318 mo_X12_led (sp0_X12_led I0_none.2.1) rfl rfl rfl ⟨12, _, rfl, rfl, rfl⟩ rfl ?_
      refine a_s6 rfl rfl rfl rfl rfl rfl ?_
      refine a_l2 rfl rfl rfl ?_
      refine a_eV1 rfl lL_149 mo_X12_thrown (sp_X12_thrown) rfl rfl rfl ⟨12, _, rfl, rfl, rfl⟩ rfl ?_
      refine a_l5 rfl rfl rfl ?_
      refine a_ic_eq rfl (fun c2741 => ?_) (fun c => absurd (by rw [up2_at]) c)
      refine a_l5 rfl rfl rfl ?_
      refine a_if_ne rfl (fun c2748 => ?_) (fun c => absurd c (by decide))
      refine a_goto rfl ?_
      exact fin_ok
    · refine a_s rfl rfl ?_
      refine a_goto rfl ?_
      refine a_eV1 rfl lL_318 mo_X12_led (sp0_X12_led I0_none.2.1) rfl rfl rfl ⟨12, _, rfl, rfl, rfl⟩ rfl ?_
      refine a_s6 rfl rfl rfl rfl rfl rfl ?_
      refine a_l2 rfl rfl rfl ?_
      refine a_eV1 rfl lL_149 mo_X12_thrown (sp_X12_thrown) rfl rfl rfl ⟨12, _, rfl, rfl, rfl⟩ rfl ?_
      refine a_l5 rfl rfl rfl ?_
      refine a_ic_eq rfl (fun c2741 => ?_) (fun c => absurd (by rw [up2_at]) c)
      refine a_l5 rfl rfl rfl ?_
      refine a_if_ne rfl (fun c2748 => ?_) (fun c => absurd c (by decide))
      refine a_goto rfl ?_
      exact fin_ok
  · refine a_s rfl rfl ?_
    refine a_goto rfl ?_
    refine a_l3 rfl rfl rfl ?_
    refine a_callW rfl lL_316 mo_L_led (sp0_L_led I0_none.1) rfl rfl rfl rfl (fun v h' hv => ?_) (fun E h' hx => False.elim hx)
    obtain ⟨rfl, rfl⟩ := hv
    refine a_s5 rfl rfl rfl rfl rfl rfl ?_
    refine a_l2 rfl rfl rfl ?_
    refine a_l0 rfl rfl rfl ?_
    refine a_l4 rfl rfl rfl ?_
    refine a_s rfl rfl ?_
    refine a_s rfl rfl ?_
    refine a_ialdc rfl scr_mem ⟨by decide, by decide⟩ ?_
    refine a_l0 rfl rfl rfl ?_
    refine a_l4 rfl rfl rfl ?_
    refine a_s rfl rfl ?_
    refine a_s rfl rfl ?_
    refine a_ialdc rfl scr_mem ⟨by decide, by decide⟩ ?_
    refine a_if_eq rfl (fun c2722 => ?_) (fun c2722 => ?_)
    · refine a_s rfl rfl ?_
      refine a_eV1 rfl lL_318 mo_X12_led (sp0_X12_led I0_none.2.1) rfl rfl rfl ⟨12, _, rfl, rfl, rfl⟩ rfl ?_
      refine a_s6 rfl rfl rfl rfl rfl rfl ?_
      refine a_l2 rfl rfl rfl ?_
      refine a_eV1 rfl lL_149 mo_X12_thrown (sp_X12_thrown) rfl rfl rfl ⟨12, _, rfl, rfl, rfl⟩ rfl ?_
      refine a_l5 rfl rfl rfl ?_
      refine a_ic_eq rfl (fun c2741 => ?_) (fun c => absurd (by rw [up2_at]) c)
      refine a_l5 rfl rfl rfl ?_
      refine a_if_ne rfl (fun c2748 => ?_) (fun c => absurd c (by decide))
      refine a_goto rfl ?_
      exact fin_ok
    · refine a_s rfl rfl ?_
      refine a_goto rfl ?_
      refine a_eV1 rfl lL_318 mo_X12_led (sp0_X12_led I0_none.2.1) rfl rfl rfl ⟨12, _, rfl, rfl, rfl⟩ rfl ?_
      refine a_s6 rfl rfl rfl rfl rfl rfl ?_
      refine a_l2 rfl rfl rfl ?_
      refine a_eV1 rfl lL_149 mo_X12_thrown (sp_X12_thrown) rfl rfl rfl ⟨12, _, rfl, rfl, rfl⟩ rfl ?_
      refine a_l5 rfl rfl rfl ?_
      refine a_ic_eq rfl (fun c2741 => ?_) (fun c => absurd (by rw [up2_at]) c)
      refine a_l5 rfl rfl rfl ?_
      refine a_if_ne rfl (fun c2748 => ?_) (fun c => absurd c (by decide))
      refine a_goto rfl ?_
      exact fin_ok
theorem op_48 {xs : Nat → Int32} : OpOk xs 2434 := by
  show AW (S1 6 xs) m_L_main 1050 QM XM 599770 7281900 2434 [some (.ref 199), some (.ref 200), some (.ref 420), some (.ref 431), some (.int 0), none, none] [] (hp I0 L0 0 0 432)
  refine a_l1 rfl rfl rfl ?_
  refine a_l0 rfl rfl rfl ?_
  refine a_l4 rfl rfl rfl ?_
  refine a_s rfl rfl ?_
  refine a_s rfl rfl ?_
  refine a_ialdc rfl scr_mem ⟨by decide, by decide⟩ ?_
  refine a_l0 rfl rfl rfl ?_
  refine a_l4 rfl rfl rfl ?_
  refine a_s rfl rfl ?_
  refine a_s rfl rfl ?_
  refine a_ialdc rfl scr_mem ⟨by decide, by decide⟩ ?_
  refine a_l0 rfl rfl rfl ?_
  refine a_l4 rfl rfl rfl ?_
  refine a_s rfl rfl ?_
  refine a_s rfl rfl ?_
  refine a_ialdc rfl scr_mem ⟨by decide, by decide⟩ ?_
  refine a_l3 rfl rfl rfl ?_
  refine a_callW rfl lL_307 mo_L_ahead (sp0_L_ahead I0_none.1) rfl rfl rfl rfl (fun v h' hv => ?_) (fun E h' hx => False.elim hx)
  obtain ⟨rfl, rfl⟩ := hv
  refine a_s5 rfl rfl rfl rfl rfl rfl ?_
  refine a_l2 rfl rfl rfl ?_
  refine a_l0 rfl rfl rfl ?_
  refine a_l4 rfl rfl rfl ?_
  refine a_s rfl rfl ?_
  refine a_s rfl rfl ?_
  refine a_ialdc rfl scr_mem ⟨by decide, by decide⟩ ?_
  refine a_l0 rfl rfl rfl ?_
  refine a_l4 rfl rfl rfl ?_
  refine a_s rfl rfl ?_
  refine a_s rfl rfl ?_
  refine a_ialdc rfl scr_mem ⟨by decide, by decide⟩ ?_
  refine a_l0 rfl rfl rfl ?_
  refine a_l4 rfl rfl rfl ?_
  refine a_s rfl rfl ?_
  refine a_s rfl rfl ?_
  refine a_ialdc rfl scr_mem ⟨by decide, by decide⟩ ?_
  refine a_eV1 rfl lL_309 mo_X12_ahead (sp0_X12_ahead I0_none.2.1) rfl rfl rfl ⟨12, _, rfl, rfl, rfl⟩ rfl ?_
  refine a_s6 rfl rfl rfl rfl rfl rfl ?_
  refine a_l2 rfl rfl rfl ?_
  refine a_eV1 rfl lL_149 mo_X12_thrown (sp_X12_thrown) rfl rfl rfl ⟨12, _, rfl, rfl, rfl⟩ rfl ?_
  refine a_l5 rfl rfl rfl ?_
  refine a_ic_eq rfl (fun c2489 => ?_) (fun c => absurd (by rw [up2_at]) c)
  refine a_l5 rfl rfl rfl ?_
  refine a_if_ne rfl (fun c2496 => ?_) (fun c => absurd c (by decide))
  refine a_goto rfl ?_
  exact fin_ok
theorem op_8 {xs : Nat → Int32} : OpOk xs 679 := by
  show AW (S1 6 xs) m_L_main 1050 QM XM 599770 7281900 679 [some (.ref 199), some (.ref 200), some (.ref 420), some (.ref 431), some (.int 0), none, none] [] (hp I0 L0 0 0 432)
  refine a_l1 rfl rfl rfl ?_
  refine a_l0 rfl rfl rfl ?_
  refine a_l4 rfl rfl rfl ?_
  refine a_s rfl rfl ?_
  refine a_s rfl rfl ?_
  refine a_ialdc rfl scr_mem ⟨by decide, by decide⟩ ?_
  refine a_l3 rfl rfl rfl ?_
  refine a_callW rfl lL_170 mo_L_put (sp0_L_put I0_none.1) rfl rfl rfl rfl (fun v h' hv => ?_) (fun E h' hx => False.elim hx)
  obtain ⟨rfl, rfl⟩ := hv
  refine a_s5 rfl rfl rfl rfl rfl rfl ?_
  refine a_l2 rfl rfl rfl ?_
  refine a_l0 rfl rfl rfl ?_
  refine a_l4 rfl rfl rfl ?_
  refine a_s rfl rfl ?_
  refine a_s rfl rfl ?_
  refine a_ialdc rfl scr_mem ⟨by decide, by decide⟩ ?_
  refine a_eV1 rfl lL_172 mo_X12_put (sp0_X12_put I0_none.2.1) rfl rfl rfl ⟨12, _, rfl, rfl, rfl⟩ rfl ?_
  refine a_s6 rfl rfl rfl rfl rfl rfl ?_
  refine a_l2 rfl rfl rfl ?_
  refine a_eV1 rfl lL_149 mo_X12_thrown (sp_X12_thrown) rfl rfl rfl ⟨12, _, rfl, rfl, rfl⟩ rfl ?_
  refine a_l5 rfl rfl rfl ?_
  refine a_ic_eq rfl (fun c710 => ?_) (fun c => absurd (by rw [up2_at]) c)
  refine a_l5 rfl rfl rfl ?_
  refine a_if_ne rfl (fun c717 => ?_) (fun c => absurd c (by decide))
  refine a_goto rfl ?_
  exact fin_ok
theorem op_9 {xs : Nat → Int32} : OpOk xs 735 := by
  show AW (S1 6 xs) m_L_main 1050 QM XM 599770 7281900 735 [some (.ref 199), some (.ref 200), some (.ref 420), some (.ref 431), some (.int 0), none, none] [] (hp I0 L0 0 0 432)
  refine a_l1 rfl rfl rfl ?_
  refine a_l0 rfl rfl rfl ?_
  refine a_l4 rfl rfl rfl ?_
  refine a_s rfl rfl ?_
  refine a_s rfl rfl ?_
  refine a_ialdc rfl scr_mem ⟨by decide, by decide⟩ ?_
  refine a_l3 rfl rfl rfl ?_
  refine a_callW rfl lL_173 mo_L_forget (sp0_L_forget I0_none.1) rfl rfl rfl rfl (fun v h' hv => ?_) (fun E h' hx => False.elim hx)
  obtain ⟨rfl, rfl⟩ := hv
  refine a_s5 rfl rfl rfl rfl rfl rfl ?_
  refine a_l2 rfl rfl rfl ?_
  refine a_l0 rfl rfl rfl ?_
  refine a_l4 rfl rfl rfl ?_
  refine a_s rfl rfl ?_
  refine a_s rfl rfl ?_
  refine a_ialdc rfl scr_mem ⟨by decide, by decide⟩ ?_
  refine a_eV1 rfl lL_175 mo_X12_forget (sp0_X12_forget I0_none.2.1) rfl rfl rfl ⟨12, _, rfl, rfl, rfl⟩ rfl ?_
  refine a_s6 rfl rfl rfl rfl rfl rfl ?_
  refine a_l2 rfl rfl rfl ?_
  refine a_eV1 rfl lL_149 mo_X12_thrown (sp_X12_thrown) rfl rfl rfl ⟨12, _, rfl, rfl, rfl⟩ rfl ?_
  refine a_l5 rfl rfl rfl ?_
  refine a_ic_eq rfl (fun c766 => ?_) (fun c => absurd (by rw [up2_at]) c)
  refine a_l5 rfl rfl rfl ?_
  refine a_if_ne rfl (fun c773 => ?_) (fun c => absurd c (by decide))
  refine a_goto rfl ?_
  exact fin_ok
theorem op_10 {xs : Nat → Int32} : OpOk xs 791 := by
  show AW (S1 6 xs) m_L_main 1050 QM XM 599770 7281900 791 [some (.ref 199), some (.ref 200), some (.ref 420), some (.ref 431), some (.int 0), none, none] [] (hp I0 L0 0 0 432)
  refine a_l1 rfl rfl rfl ?_
  refine a_l0 rfl rfl rfl ?_
  refine a_l4 rfl rfl rfl ?_
  refine a_s rfl rfl ?_
  refine a_s rfl rfl ?_
  refine a_ialdc rfl scr_mem ⟨by decide, by decide⟩ ?_
  refine a_l3 rfl rfl rfl ?_
  refine a_callW rfl lL_176 mo_L_recall (sp0_L_recall I0_none.1) rfl rfl rfl rfl (fun v h' hv => ?_) (fun E h' hx => False.elim hx)
  obtain ⟨rfl, rfl⟩ := hv
  refine a_s5 rfl rfl rfl rfl rfl rfl ?_
  refine a_l2 rfl rfl rfl ?_
  refine a_l0 rfl rfl rfl ?_
  refine a_l4 rfl rfl rfl ?_
  refine a_s rfl rfl ?_
  refine a_s rfl rfl ?_
  refine a_ialdc rfl scr_mem ⟨by decide, by decide⟩ ?_
  refine a_eV1 rfl lL_178 mo_X12_recall (sp0_X12_recall I0_none.2.1) rfl rfl rfl ⟨12, _, rfl, rfl, rfl⟩ rfl ?_
  refine a_s6 rfl rfl rfl rfl rfl rfl ?_
  refine a_l2 rfl rfl rfl ?_
  refine a_eV1 rfl lL_149 mo_X12_thrown (sp_X12_thrown) rfl rfl rfl ⟨12, _, rfl, rfl, rfl⟩ rfl ?_
  refine a_l5 rfl rfl rfl ?_
  refine a_ic_eq rfl (fun c822 => ?_) (fun c => absurd (by rw [up2_at]) c)
  refine a_l5 rfl rfl rfl ?_
  refine a_if_ne rfl (fun c829 => ?_) (fun c => absurd c (by decide))
  refine a_goto rfl ?_
  exact fin_ok
theorem op_11 {xs : Nat → Int32} : OpOk xs 847 := by
  show AW (S1 6 xs) m_L_main 1050 QM XM 599770 7281900 847 [some (.ref 199), some (.ref 200), some (.ref 420), some (.ref 431), some (.int 0), none, none] [] (hp I0 L0 0 0 432)
  refine a_l1 rfl rfl rfl ?_
  refine a_l0 rfl rfl rfl ?_
  refine a_l4 rfl rfl rfl ?_
  refine a_s rfl rfl ?_
  refine a_s rfl rfl ?_
  refine a_ialdc rfl scr_mem ⟨by decide, by decide⟩ ?_
  refine a_l0 rfl rfl rfl ?_
  refine a_l4 rfl rfl rfl ?_
  refine a_s rfl rfl ?_
  refine a_s rfl rfl ?_
  refine a_ialdc rfl scr_mem ⟨by decide, by decide⟩ ?_
  refine a_l3 rfl rfl rfl ?_
  refine a_callW rfl lL_179 mo_L_hand (sp0_L_hand I0_none.1) rfl rfl rfl rfl (fun v h' hv => ?_) (fun E h' hx => False.elim hx)
  obtain ⟨rfl, rfl⟩ := hv
  refine a_s5 rfl rfl rfl rfl rfl rfl ?_
  refine a_l2 rfl rfl rfl ?_
  refine a_l0 rfl rfl rfl ?_
  refine a_l4 rfl rfl rfl ?_
  refine a_s rfl rfl ?_
  refine a_s rfl rfl ?_
  refine a_ialdc rfl scr_mem ⟨by decide, by decide⟩ ?_
  refine a_l0 rfl rfl rfl ?_
  refine a_l4 rfl rfl rfl ?_
  refine a_s rfl rfl ?_
  refine a_s rfl rfl ?_
  refine a_ialdc rfl scr_mem ⟨by decide, by decide⟩ ?_
  refine a_eV1 rfl lL_181 mo_X12_hand (sp0_X12_hand I0_none.2.1) rfl rfl rfl ⟨12, _, rfl, rfl, rfl⟩ rfl ?_
  refine a_s6 rfl rfl rfl rfl rfl rfl ?_
  refine a_l2 rfl rfl rfl ?_
  refine a_eV1 rfl lL_149 mo_X12_thrown (sp_X12_thrown) rfl rfl rfl ⟨12, _, rfl, rfl, rfl⟩ rfl ?_
  refine a_l5 rfl rfl rfl ?_
  refine a_ic_eq rfl (fun c890 => ?_) (fun c => absurd (by rw [up2_at]) c)
  refine a_l5 rfl rfl rfl ?_
  refine a_if_ne rfl (fun c897 => ?_) (fun c => absurd c (by decide))
  refine a_goto rfl ?_
  exact fin_ok
theorem op_12 {xs : Nat → Int32} : OpOk xs 915 := by
  show AW (S1 6 xs) m_L_main 1050 QM XM 599770 7281900 915 [some (.ref 199), some (.ref 200), some (.ref 420), some (.ref 431), some (.int 0), none, none] [] (hp I0 L0 0 0 432)
  refine a_l1 rfl rfl rfl ?_
  refine a_l0 rfl rfl rfl ?_
  refine a_l4 rfl rfl rfl ?_
  refine a_s rfl rfl ?_
  refine a_s rfl rfl ?_
  refine a_ialdc rfl scr_mem ⟨by decide, by decide⟩ ?_
  refine a_l0 rfl rfl rfl ?_
  refine a_l4 rfl rfl rfl ?_
  refine a_s rfl rfl ?_
  refine a_s rfl rfl ?_
  refine a_ialdc rfl scr_mem ⟨by decide, by decide⟩ ?_
  refine a_l3 rfl rfl rfl ?_
  refine a_callW rfl lL_182 mo_L_lean (sp0_L_lean I0_none.1) rfl rfl rfl rfl (fun v h' hv => ?_) (fun E h' hx => False.elim hx)
  obtain ⟨rfl, rfl⟩ := hv
  refine a_s5 rfl rfl rfl rfl rfl rfl ?_
  refine a_l2 rfl rfl rfl ?_
  refine a_l0 rfl rfl rfl ?_
  refine a_l4 rfl rfl rfl ?_
  refine a_s rfl rfl ?_
  refine a_s rfl rfl ?_
  refine a_ialdc rfl scr_mem ⟨by decide, by decide⟩ ?_
  refine a_l0 rfl rfl rfl ?_
  refine a_l4 rfl rfl rfl ?_
  refine a_s rfl rfl ?_
  refine a_s rfl rfl ?_
  refine a_ialdc rfl scr_mem ⟨by decide, by decide⟩ ?_
  refine a_eV1 rfl lL_184 mo_X12_lean (sp0_X12_lean I0_none.2.1) rfl rfl rfl ⟨12, _, rfl, rfl, rfl⟩ rfl ?_
  refine a_s6 rfl rfl rfl rfl rfl rfl ?_
  refine a_l2 rfl rfl rfl ?_
  refine a_eV1 rfl lL_149 mo_X12_thrown (sp_X12_thrown) rfl rfl rfl ⟨12, _, rfl, rfl, rfl⟩ rfl ?_
  refine a_l5 rfl rfl rfl ?_
  refine a_ic_eq rfl (fun c958 => ?_) (fun c => absurd (by rw [up2_at]) c)
  refine a_l5 rfl rfl rfl ?_
  refine a_if_ne rfl (fun c965 => ?_) (fun c => absurd c (by decide))
  refine a_goto rfl ?_
  exact fin_ok
theorem op_13 {xs : Nat → Int32} : OpOk xs 983 := by
  show AW (S1 6 xs) m_L_main 1050 QM XM 599770 7281900 983 [some (.ref 199), some (.ref 200), some (.ref 420), some (.ref 431), some (.int 0), none, none] [] (hp I0 L0 0 0 432)
  refine a_l1 rfl rfl rfl ?_
  refine a_l0 rfl rfl rfl ?_
  refine a_l4 rfl rfl rfl ?_
  refine a_s rfl rfl ?_
  refine a_s rfl rfl ?_
  refine a_ialdc rfl scr_mem ⟨by decide, by decide⟩ ?_
  refine a_l0 rfl rfl rfl ?_
  refine a_l4 rfl rfl rfl ?_
  refine a_s rfl rfl ?_
  refine a_s rfl rfl ?_
  refine a_ialdc rfl scr_mem ⟨by decide, by decide⟩ ?_
  refine a_l3 rfl rfl rfl ?_
  refine a_callW rfl lL_185 mo_L_free (sp0_L_free I0_none.2.2.1) rfl rfl rfl rfl (fun v h' hv => ?_) (fun E h' hx => False.elim hx)
  obtain ⟨rfl, rfl⟩ := hv
  refine a_s5 rfl rfl rfl rfl rfl rfl ?_
  refine a_l2 rfl rfl rfl ?_
  refine a_l0 rfl rfl rfl ?_
  refine a_l4 rfl rfl rfl ?_
  refine a_s rfl rfl ?_
  refine a_s rfl rfl ?_
  refine a_ialdc rfl scr_mem ⟨by decide, by decide⟩ ?_
  refine a_l0 rfl rfl rfl ?_
  refine a_l4 rfl rfl rfl ?_
  refine a_s rfl rfl ?_
  refine a_s rfl rfl ?_
  refine a_ialdc rfl scr_mem ⟨by decide, by decide⟩ ?_
  refine a_eV1 rfl lL_187 mo_X12_free (sp0_X12_free I0_none.2.2.2) rfl rfl rfl ⟨12, _, rfl, rfl, rfl⟩ rfl ?_
  refine a_s6 rfl rfl rfl rfl rfl rfl ?_
  refine a_l2 rfl rfl rfl ?_
  refine a_eV1 rfl lL_149 mo_X12_thrown (sp_X12_thrown) rfl rfl rfl ⟨12, _, rfl, rfl, rfl⟩ rfl ?_
  refine a_l5 rfl rfl rfl ?_
  refine a_ic_eq rfl (fun c1026 => ?_) (fun c => absurd (by rw [up2_at]) c)
  refine a_l5 rfl rfl rfl ?_
  refine a_if_ne rfl (fun c1033 => ?_) (fun c => absurd c (by decide))
  refine a_goto rfl ?_
  exact fin_ok
theorem op_17 {xs : Nat → Int32} : OpOk xs 1145 := by
  show AW (S1 6 xs) m_L_main 1050 QM XM 599770 7281900 1145 [some (.ref 199), some (.ref 200), some (.ref 420), some (.ref 431), some (.int 0), none, none] [] (hp I0 L0 0 0 432)
  refine a_l1 rfl rfl rfl ?_
  refine a_l0 rfl rfl rfl ?_
  refine a_l4 rfl rfl rfl ?_
  refine a_s rfl rfl ?_
  refine a_s rfl rfl ?_
  refine a_ialdc rfl scr_mem ⟨by decide, by decide⟩ ?_
  refine a_l0 rfl rfl rfl ?_
  refine a_l4 rfl rfl rfl ?_
  refine a_s rfl rfl ?_
  refine a_s rfl rfl ?_
  refine a_ialdc rfl scr_mem ⟨by decide, by decide⟩ ?_
  refine a_l3 rfl rfl rfl ?_
  refine a_callW rfl lL_199 mo_L_greets (sp0_L_greets I0_none.1) rfl rfl rfl rfl (fun v h' hv => ?_) (fun E h' hx => False.elim hx)
  obtain ⟨rfl, rfl⟩ := hv
  refine a_s5 rfl rfl rfl rfl rfl rfl ?_
  refine a_l2 rfl rfl rfl ?_
  refine a_l0 rfl rfl rfl ?_
  refine a_l4 rfl rfl rfl ?_
  refine a_s rfl rfl ?_
  refine a_s rfl rfl ?_
  refine a_ialdc rfl scr_mem ⟨by decide, by decide⟩ ?_
  refine a_l0 rfl rfl rfl ?_
  refine a_l4 rfl rfl rfl ?_
  refine a_s rfl rfl ?_
  refine a_s rfl rfl ?_
  refine a_ialdc rfl scr_mem ⟨by decide, by decide⟩ ?_
  refine a_eV1 rfl lL_201 mo_X12_greets (sp0_X12_greets I0_none.2.1) rfl rfl rfl ⟨12, _, rfl, rfl, rfl⟩ rfl ?_
  refine a_s6 rfl rfl rfl rfl rfl rfl ?_
  refine a_l2 rfl rfl rfl ?_
  refine a_eV1 rfl lL_149 mo_X12_thrown (sp_X12_thrown) rfl rfl rfl ⟨12, _, rfl, rfl, rfl⟩ rfl ?_
  refine a_l5 rfl rfl rfl ?_
  refine a_ic_eq rfl (fun c1188 => ?_) (fun c => absurd (by rw [up2_at]) c)
  refine a_l5 rfl rfl rfl ?_
  refine a_if_ne rfl (fun c1195 => ?_) (fun c => absurd c (by decide))
  refine a_goto rfl ?_
  exact fin_ok
theorem op_18 {xs : Nat → Int32} : OpOk xs 1213 := by
  show AW (S1 6 xs) m_L_main 1050 QM XM 599770 7281900 1213 [some (.ref 199), some (.ref 200), some (.ref 420), some (.ref 431), some (.int 0), none, none] [] (hp I0 L0 0 0 432)
  refine a_l1 rfl rfl rfl ?_
  refine a_l0 rfl rfl rfl ?_
  refine a_l4 rfl rfl rfl ?_
  refine a_s rfl rfl ?_
  refine a_s rfl rfl ?_
  refine a_ialdc rfl scr_mem ⟨by decide, by decide⟩ ?_
  refine a_l0 rfl rfl rfl ?_
  refine a_l4 rfl rfl rfl ?_
  refine a_s rfl rfl ?_
  refine a_s rfl rfl ?_
  refine a_ialdc rfl scr_mem ⟨by decide, by decide⟩ ?_
  refine a_l3 rfl rfl rfl ?_
  refine a_callW rfl lL_202 mo_L_where (sp0_L_where I0_none.1) rfl rfl rfl rfl (fun v h' hv => ?_) (fun E h' hx => False.elim hx)
  obtain ⟨rfl, rfl⟩ := hv
  refine a_s5 rfl rfl rfl rfl rfl rfl ?_
  refine a_l2 rfl rfl rfl ?_
  refine a_l0 rfl rfl rfl ?_
  refine a_l4 rfl rfl rfl ?_
  refine a_s rfl rfl ?_
  refine a_s rfl rfl ?_
  refine a_ialdc rfl scr_mem ⟨by decide, by decide⟩ ?_
  refine a_l0 rfl rfl rfl ?_
  refine a_l4 rfl rfl rfl ?_
  refine a_s rfl rfl ?_
  refine a_s rfl rfl ?_
  refine a_ialdc rfl scr_mem ⟨by decide, by decide⟩ ?_
  refine a_eV1 rfl lL_204 mo_X12_where (sp0_X12_where I0_none.2.1) rfl rfl rfl ⟨12, _, rfl, rfl, rfl⟩ rfl ?_
  refine a_s6 rfl rfl rfl rfl rfl rfl ?_
  refine a_l2 rfl rfl rfl ?_
  refine a_eV1 rfl lL_149 mo_X12_thrown (sp_X12_thrown) rfl rfl rfl ⟨12, _, rfl, rfl, rfl⟩ rfl ?_
  refine a_l5 rfl rfl rfl ?_
  refine a_ic_eq rfl (fun c1256 => ?_) (fun c => absurd (by rw [up2_at]) c)
  refine a_l5 rfl rfl rfl ?_
  refine a_if_ne rfl (fun c1263 => ?_) (fun c => absurd c (by decide))
  refine a_goto rfl ?_
  exact fin_ok
theorem op_22 {xs : Nat → Int32} : OpOk xs 1458 := by
  show AW (S1 6 xs) m_L_main 1050 QM XM 599770 7281900 1458 [some (.ref 199), some (.ref 200), some (.ref 420), some (.ref 431), some (.int 0), none, none] [] (hp I0 L0 0 0 432)
  refine a_l1 rfl rfl rfl ?_
  refine a_l0 rfl rfl rfl ?_
  refine a_l4 rfl rfl rfl ?_
  refine a_s rfl rfl ?_
  refine a_s rfl rfl ?_
  refine a_ialdc rfl scr_mem ⟨by decide, by decide⟩ ?_
  refine a_l3 rfl rfl rfl ?_
  refine a_callW rfl lL_217 mo_L_soon (sp0_L_soon I0_none.1) rfl rfl rfl rfl (fun v h' hv => ?_) (fun E h' hx => False.elim hx)
  obtain ⟨rfl, rfl⟩ := hv
  refine a_s5 rfl rfl rfl rfl rfl rfl ?_
  refine a_l2 rfl rfl rfl ?_
  refine a_l0 rfl rfl rfl ?_
  refine a_l4 rfl rfl rfl ?_
  refine a_s rfl rfl ?_
  refine a_s rfl rfl ?_
  refine a_ialdc rfl scr_mem ⟨by decide, by decide⟩ ?_
  refine a_eV1 rfl lL_219 mo_X12_soon (sp0_X12_soon I0_none.2.1) rfl rfl rfl ⟨12, _, rfl, rfl, rfl⟩ rfl ?_
  refine a_s6 rfl rfl rfl rfl rfl rfl ?_
  refine a_l2 rfl rfl rfl ?_
  refine a_eV1 rfl lL_149 mo_X12_thrown (sp_X12_thrown) rfl rfl rfl ⟨12, _, rfl, rfl, rfl⟩ rfl ?_
  refine a_l5 rfl rfl rfl ?_
  refine a_ic_eq rfl (fun c1489 => ?_) (fun c => absurd (by rw [up2_at]) c)
  refine a_l5 rfl rfl rfl ?_
  refine a_if_ne rfl (fun c1496 => ?_) (fun c => absurd c (by decide))
  refine a_goto rfl ?_
  exact fin_ok
theorem op_25 {xs : Nat → Int32} : OpOk xs 1540 := by
  show AW (S1 6 xs) m_L_main 1050 QM XM 599770 7281900 1540 [some (.ref 199), some (.ref 200), some (.ref 420), some (.ref 431), some (.int 0), none, none] [] (hp I0 L0 0 0 432)
  refine a_l1 rfl rfl rfl ?_
  refine a_l0 rfl rfl rfl ?_
  refine a_l4 rfl rfl rfl ?_
  refine a_s rfl rfl ?_
  refine a_s rfl rfl ?_
  refine a_ialdc rfl scr_mem ⟨by decide, by decide⟩ ?_
  refine a_l3 rfl rfl rfl ?_
  refine a_callW rfl lL_228 mo_L_before (sp0_L_before I0_none.1) rfl rfl rfl rfl (fun v h' hv => ?_) (fun E h' hx => False.elim hx)
  obtain ⟨rfl, rfl⟩ := hv
  refine a_s5 rfl rfl rfl rfl rfl rfl ?_
  refine a_l2 rfl rfl rfl ?_
  refine a_l0 rfl rfl rfl ?_
  refine a_l4 rfl rfl rfl ?_
  refine a_s rfl rfl ?_
  refine a_s rfl rfl ?_
  refine a_ialdc rfl scr_mem ⟨by decide, by decide⟩ ?_
  refine a_eV1 rfl lL_230 mo_X12_before (sp0_X12_before I0_none.2.1) rfl rfl rfl ⟨12, _, rfl, rfl, rfl⟩ rfl ?_
  refine a_s6 rfl rfl rfl rfl rfl rfl ?_
  refine a_l2 rfl rfl rfl ?_
  refine a_eV1 rfl lL_149 mo_X12_thrown (sp_X12_thrown) rfl rfl rfl ⟨12, _, rfl, rfl, rfl⟩ rfl ?_
  refine a_l5 rfl rfl rfl ?_
  refine a_ic_eq rfl (fun c1571 => ?_) (fun c => absurd (by rw [up2_at]) c)
  refine a_l5 rfl rfl rfl ?_
  refine a_if_ne rfl (fun c1578 => ?_) (fun c => absurd c (by decide))
  refine a_goto rfl ?_
  exact fin_ok
theorem op_26 {xs : Nat → Int32} : OpOk xs 1596 := by
  show AW (S1 6 xs) m_L_main 1050 QM XM 599770 7281900 1596 [some (.ref 199), some (.ref 200), some (.ref 420), some (.ref 431), some (.int 0), none, none] [] (hp I0 L0 0 0 432)
  refine a_l1 rfl rfl rfl ?_
  refine a_l0 rfl rfl rfl ?_
  refine a_l4 rfl rfl rfl ?_
  refine a_s rfl rfl ?_
  refine a_s rfl rfl ?_
  refine a_ialdc rfl scr_mem ⟨by decide, by decide⟩ ?_
  refine a_l3 rfl rfl rfl ?_
  refine a_callW rfl lL_231 mo_L_after (sp0_L_after I0_none.1) rfl rfl rfl rfl (fun v h' hv => ?_) (fun E h' hx => False.elim hx)
  obtain ⟨rfl, rfl⟩ := hv
  refine a_s5 rfl rfl rfl rfl rfl rfl ?_
  refine a_l2 rfl rfl rfl ?_
  refine a_l0 rfl rfl rfl ?_
  refine a_l4 rfl rfl rfl ?_
  refine a_s rfl rfl ?_
  refine a_s rfl rfl ?_
  refine a_ialdc rfl scr_mem ⟨by decide, by decide⟩ ?_
  refine a_eV1 rfl lL_233 mo_X12_after (sp0_X12_after I0_none.2.1) rfl rfl rfl ⟨12, _, rfl, rfl, rfl⟩ rfl ?_
  refine a_s6 rfl rfl rfl rfl rfl rfl ?_
  refine a_l2 rfl rfl rfl ?_
  refine a_eV1 rfl lL_149 mo_X12_thrown (sp_X12_thrown) rfl rfl rfl ⟨12, _, rfl, rfl, rfl⟩ rfl ?_
  refine a_l5 rfl rfl rfl ?_
  refine a_ic_eq rfl (fun c1627 => ?_) (fun c => absurd (by rw [up2_at]) c)
  refine a_l5 rfl rfl rfl ?_
  refine a_if_ne rfl (fun c1634 => ?_) (fun c => absurd c (by decide))
  refine a_goto rfl ?_
  exact fin_ok
theorem op_27 {xs : Nat → Int32} : OpOk xs 1652 := by
  show AW (S1 6 xs) m_L_main 1050 QM XM 599770 7281900 1652 [some (.ref 199), some (.ref 200), some (.ref 420), some (.ref 431), some (.int 0), none, none] [] (hp I0 L0 0 0 432)
  refine a_l1 rfl rfl rfl ?_
  refine a_l0 rfl rfl rfl ?_
  refine a_l4 rfl rfl rfl ?_
  refine a_s rfl rfl ?_
  refine a_s rfl rfl ?_
  refine a_ialdc rfl scr_mem ⟨by decide, by decide⟩ ?_
  refine a_l3 rfl rfl rfl ?_
  refine a_callW rfl lL_234 mo_L_depth (sp0_L_depth I0_none.1) rfl rfl rfl rfl (fun v h' hv => ?_) (fun E h' hx => False.elim hx)
  obtain ⟨rfl, rfl⟩ := hv
  refine a_s5 rfl rfl rfl rfl rfl rfl ?_
  refine a_l2 rfl rfl rfl ?_
  refine a_l0 rfl rfl rfl ?_
  refine a_l4 rfl rfl rfl ?_
  refine a_s rfl rfl ?_
  refine a_s rfl rfl ?_
  refine a_ialdc rfl scr_mem ⟨by decide, by decide⟩ ?_
  refine a_eV1 rfl lL_236 mo_X12_depth (sp0_X12_depth I0_none.2.1) rfl rfl rfl ⟨12, _, rfl, rfl, rfl⟩ rfl ?_
  refine a_s6 rfl rfl rfl rfl rfl rfl ?_
  refine a_l2 rfl rfl rfl ?_
  refine a_eV1 rfl lL_149 mo_X12_thrown (sp_X12_thrown) rfl rfl rfl ⟨12, _, rfl, rfl, rfl⟩ rfl ?_
  refine a_l5 rfl rfl rfl ?_
  refine a_ic_eq rfl (fun c1683 => ?_) (fun c => absurd (by rw [up2_at]) c)
  refine a_l5 rfl rfl rfl ?_
  refine a_if_ne rfl (fun c1690 => ?_) (fun c => absurd c (by decide))
  refine a_goto rfl ?_
  exact fin_ok
theorem op_36 {xs : Nat → Int32} : OpOk xs 2015 := by
  show AW (S1 6 xs) m_L_main 1050 QM XM 599770 7281900 2015 [some (.ref 199), some (.ref 200), some (.ref 420), some (.ref 431), some (.int 0), none, none] [] (hp I0 L0 0 0 432)
  refine a_l1 rfl rfl rfl ?_
  refine a_l0 rfl rfl rfl ?_
  refine a_l4 rfl rfl rfl ?_
  refine a_s rfl rfl ?_
  refine a_s rfl rfl ?_
  refine a_ialdc rfl scr_mem ⟨by decide, by decide⟩ ?_
  refine a_l0 rfl rfl rfl ?_
  refine a_l4 rfl rfl rfl ?_
  refine a_s rfl rfl ?_
  refine a_s rfl rfl ?_
  refine a_ialdc rfl scr_mem ⟨by decide, by decide⟩ ?_
  refine a_l0 rfl rfl rfl ?_
  refine a_l4 rfl rfl rfl ?_
  refine a_s rfl rfl ?_
  refine a_s rfl rfl ?_
  refine a_ialdc rfl scr_mem ⟨by decide, by decide⟩ ?_
  refine a_l3 rfl rfl rfl ?_
  refine a_callW rfl lL_264 mo_L_rests (sp0_L_rests I0_none.2.2.1) rfl rfl rfl rfl (fun v h' hv => ?_) (fun E h' hx => False.elim hx)
  obtain ⟨rfl, rfl⟩ := hv
  refine a_s5 rfl rfl rfl rfl rfl rfl ?_
  refine a_l2 rfl rfl rfl ?_
  refine a_l0 rfl rfl rfl ?_
  refine a_l4 rfl rfl rfl ?_
  refine a_s rfl rfl ?_
  refine a_s rfl rfl ?_
  refine a_ialdc rfl scr_mem ⟨by decide, by decide⟩ ?_
  refine a_l0 rfl rfl rfl ?_
  refine a_l4 rfl rfl rfl ?_
  refine a_s rfl rfl ?_
  refine a_s rfl rfl ?_
  refine a_ialdc rfl scr_mem ⟨by decide, by decide⟩ ?_
  refine a_l0 rfl rfl rfl ?_
  refine a_l4 rfl rfl rfl ?_
  refine a_s rfl rfl ?_
  refine a_s rfl rfl ?_
  refine a_ialdc rfl scr_mem ⟨by decide, by decide⟩ ?_
  refine a_eV1 rfl lL_266 mo_X12_rests (sp0_X12_rests I0_none.2.2.2) rfl rfl rfl ⟨12, _, rfl, rfl, rfl⟩ rfl ?_
  refine a_s6 rfl rfl rfl rfl rfl rfl ?_
  refine a_l2 rfl rfl rfl ?_
  refine a_eV1 rfl lL_149 mo_X12_thrown (sp_X12_thrown) rfl rfl rfl ⟨12, _, rfl, rfl, rfl⟩ rfl ?_
  refine a_l5 rfl rfl rfl ?_
  refine a_ic_eq rfl (fun c2070 => ?_) (fun c => absurd (by rw [up2_at]) c)
  refine a_l5 rfl rfl rfl ?_
  refine a_if_ne rfl (fun c2077 => ?_) (fun c => absurd c (by decide))
  refine a_goto rfl ?_
  exact fin_ok
theorem op_41 {xs : Nat → Int32} : OpOk xs 2202 := by
  show AW (S1 6 xs) m_L_main 1050 QM XM 599770 7281900 2202 [some (.ref 199), some (.ref 200), some (.ref 420), some (.ref 431), some (.int 0), none, none] [] (hp I0 L0 0 0 432)
  refine a_l1 rfl rfl rfl ?_
  refine a_l0 rfl rfl rfl ?_
  refine a_l4 rfl rfl rfl ?_
  refine a_s rfl rfl ?_
  refine a_s rfl rfl ?_
  refine a_ialdc rfl scr_mem ⟨by decide, by decide⟩ ?_
  refine a_l0 rfl rfl rfl ?_
  refine a_l4 rfl rfl rfl ?_
  refine a_s rfl rfl ?_
  refine a_s rfl rfl ?_
  refine a_ialdc rfl scr_mem ⟨by decide, by decide⟩ ?_
  refine a_l3 rfl rfl rfl ?_
  refine a_callW rfl lL_282 mo_L_spare (sp0_L_spare I0_none.2.2.1) rfl rfl rfl rfl (fun v h' hv => ?_) (fun E h' hx => False.elim hx)
  obtain ⟨rfl, rfl⟩ := hv
  refine a_s5 rfl rfl rfl rfl rfl rfl ?_
  refine a_l2 rfl rfl rfl ?_
  refine a_l0 rfl rfl rfl ?_
  refine a_l4 rfl rfl rfl ?_
  refine a_s rfl rfl ?_
  refine a_s rfl rfl ?_
  refine a_ialdc rfl scr_mem ⟨by decide, by decide⟩ ?_
  refine a_l0 rfl rfl rfl ?_
  refine a_l4 rfl rfl rfl ?_
  refine a_s rfl rfl ?_
  refine a_s rfl rfl ?_
  refine a_ialdc rfl scr_mem ⟨by decide, by decide⟩ ?_
  refine a_eV1 rfl lL_284 mo_X12_spare (sp0_X12_spare I0_none.2.2.2) rfl rfl rfl ⟨12, _, rfl, rfl, rfl⟩ rfl ?_
  refine a_s6 rfl rfl rfl rfl rfl rfl ?_
  refine a_l2 rfl rfl rfl ?_
  refine a_eV1 rfl lL_149 mo_X12_thrown (sp_X12_thrown) rfl rfl rfl ⟨12, _, rfl, rfl, rfl⟩ rfl ?_
  refine a_l5 rfl rfl rfl ?_
  refine a_ic_eq rfl (fun c2245 => ?_) (fun c => absurd (by rw [up2_at]) c)
  refine a_l5 rfl rfl rfl ?_
  refine a_if_ne rfl (fun c2252 => ?_) (fun c => absurd c (by decide))
  refine a_goto rfl ?_
  exact fin_ok
theorem op_42 {xs : Nat → Int32} : OpOk xs 2270 := by
  show AW (S1 6 xs) m_L_main 1050 QM XM 599770 7281900 2270 [some (.ref 199), some (.ref 200), some (.ref 420), some (.ref 431), some (.int 0), none, none] [] (hp I0 L0 0 0 432)
  refine a_l1 rfl rfl rfl ?_
  refine a_l0 rfl rfl rfl ?_
  refine a_l4 rfl rfl rfl ?_
  refine a_s rfl rfl ?_
  refine a_s rfl rfl ?_
  refine a_ialdc rfl scr_mem ⟨by decide, by decide⟩ ?_
  refine a_l3 rfl rfl rfl ?_
  refine a_callW rfl lL_285 mo_L_done (sp0_L_done I0_none.1) rfl rfl rfl rfl (fun v h' hv => ?_) (fun E h' hx => False.elim hx)
  obtain ⟨rfl, rfl⟩ := hv
  refine a_s5 rfl rfl rfl rfl rfl rfl ?_
  refine a_l2 rfl rfl rfl ?_
  refine a_l0 rfl rfl rfl ?_
  refine a_l4 rfl rfl rfl ?_
  refine a_s rfl rfl ?_
  refine a_s rfl rfl ?_
  refine a_ialdc rfl scr_mem ⟨by decide, by decide⟩ ?_
  refine a_eV1 rfl lL_287 mo_X12_done (sp0_X12_done I0_none.2.1) rfl rfl rfl ⟨12, _, rfl, rfl, rfl⟩ rfl ?_
  refine a_s6 rfl rfl rfl rfl rfl rfl ?_
  refine a_l2 rfl rfl rfl ?_
  refine a_eV1 rfl lL_149 mo_X12_thrown (sp_X12_thrown) rfl rfl rfl ⟨12, _, rfl, rfl, rfl⟩ rfl ?_
  refine a_l5 rfl rfl rfl ?_
  refine a_ic_eq rfl (fun c2301 => ?_) (fun c => absurd (by rw [up2_at]) c)
  refine a_l5 rfl rfl rfl ?_
  refine a_if_ne rfl (fun c2308 => ?_) (fun c => absurd c (by decide))
  refine a_goto rfl ?_
  exact fin_ok
theorem op_46 {xs : Nat → Int32} : OpOk xs 2365 := by
  show AW (S1 6 xs) m_L_main 1050 QM XM 599770 7281900 2365 [some (.ref 199), some (.ref 200), some (.ref 420), some (.ref 431), some (.int 0), none, none] [] (hp I0 L0 0 0 432)
  refine a_l1 rfl rfl rfl ?_
  refine a_l0 rfl rfl rfl ?_
  refine a_l4 rfl rfl rfl ?_
  refine a_s rfl rfl ?_
  refine a_s rfl rfl ?_
  refine a_ialdc rfl scr_mem ⟨by decide, by decide⟩ ?_
  refine a_l3 rfl rfl rfl ?_
  refine a_callW rfl lL_300 mo_L_sick (sp0_L_sick I0_none.2.2.1) rfl rfl rfl rfl (fun v h' hv => ?_) (fun E h' hx => False.elim hx)
  obtain ⟨rfl, rfl⟩ := hv
  refine a_s5 rfl rfl rfl rfl rfl rfl ?_
  refine a_l2 rfl rfl rfl ?_
  refine a_l0 rfl rfl rfl ?_
  refine a_l4 rfl rfl rfl ?_
  refine a_s rfl rfl ?_
  refine a_s rfl rfl ?_
  refine a_ialdc rfl scr_mem ⟨by decide, by decide⟩ ?_
  refine a_eV1 rfl lL_302 mo_X12_sick (sp0_X12_sick I0_none.2.2.2) rfl rfl rfl ⟨12, _, rfl, rfl, rfl⟩ rfl ?_
  refine a_s6 rfl rfl rfl rfl rfl rfl ?_
  refine a_l2 rfl rfl rfl ?_
  refine a_eV1 rfl lL_149 mo_X12_thrown (sp_X12_thrown) rfl rfl rfl ⟨12, _, rfl, rfl, rfl⟩ rfl ?_
  refine a_l5 rfl rfl rfl ?_
  refine a_ic_eq rfl (fun c2396 => ?_) (fun c => absurd (by rw [up2_at]) c)
  refine a_l5 rfl rfl rfl ?_
  refine a_if_ne rfl (fun c2403 => ?_) (fun c => absurd c (by decide))
  refine a_goto rfl ?_
  exact fin_ok
theorem op_35 {xs : Nat → Int32} : OpOk xs 1947 := by
  show AW (S1 6 xs) m_L_main 1050 QM XM 599770 7281900 1947 [some (.ref 199), some (.ref 200), some (.ref 420), some (.ref 431), some (.int 0), none, none] [] (hp I0 L0 0 0 432)
  refine a_l1 rfl rfl rfl ?_
  refine a_l0 rfl rfl rfl ?_
  refine a_l4 rfl rfl rfl ?_
  refine a_s rfl rfl ?_
  refine a_s rfl rfl ?_
  refine a_ialdc rfl scr_mem ⟨by decide, by decide⟩ ?_
  refine a_l0 rfl rfl rfl ?_
  refine a_l4 rfl rfl rfl ?_
  refine a_s rfl rfl ?_
  refine a_s rfl rfl ?_
  refine a_ialdc rfl scr_mem ⟨by decide, by decide⟩ ?_
  refine a_l3 rfl rfl rfl ?_
  refine a_callW rfl lL_261 mo_L_swap (sp0_L_swap I0_none.2.2.1) rfl rfl rfl rfl (fun v h' hv => ?_) (fun E h' hx => False.elim hx)
  obtain ⟨rfl, rfl⟩ := hv
  refine a_s5 rfl rfl rfl rfl rfl rfl ?_
  refine a_l2 rfl rfl rfl ?_
  refine a_l0 rfl rfl rfl ?_
  refine a_l4 rfl rfl rfl ?_
  refine a_s rfl rfl ?_
  refine a_s rfl rfl ?_
  refine a_ialdc rfl scr_mem ⟨by decide, by decide⟩ ?_
  refine a_l0 rfl rfl rfl ?_
  refine a_l4 rfl rfl rfl ?_
  refine a_s rfl rfl ?_
  refine a_s rfl rfl ?_
  refine a_ialdc rfl scr_mem ⟨by decide, by decide⟩ ?_
  refine a_eV1 rfl lL_263 mo_X12_swap (sp0_X12_swap I0_none.2.2.2) rfl rfl rfl ⟨12, _, rfl, rfl, rfl⟩ rfl ?_
  refine a_s6 rfl rfl rfl rfl rfl rfl ?_
  refine a_l2 rfl rfl rfl ?_
  refine a_eV1 rfl lL_149 mo_X12_thrown (sp_X12_thrown) rfl rfl rfl ⟨12, _, rfl, rfl, rfl⟩ rfl ?_
  refine a_l5 rfl rfl rfl ?_
  refine a_ic_eq rfl (fun c1990 => ?_) (fun c => absurd (by rw [up2_at]) c)
  refine a_l5 rfl rfl rfl ?_
  refine a_if_ne rfl (fun c1997 => ?_) (fun c => absurd c (by decide))
  refine a_goto rfl ?_
  exact fin_ok
