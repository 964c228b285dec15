/-! ===== fault, exactly ===== -/
section T79zu
variable {S : aS} {I : Nat → Nat → Int32} {L : Nat → Nat → Int64} {w1 w2 t : Nat}
set_option maxRecDepth 100000
theorem f_fault : SpE S m_X11_fault 12 [.ref 200] (hp I L w1 w2 t) (some (.int (I 200 3))) (hp I L w1 w2 t) := by
  refine SpE_of ok_X11_fault rfl rfl ?_
  show AW S m_X11_fault 12 _ _ 0 0 0 [some (.ref 200)] [] (hp I L w1 w2 t)
  refine a_l0 rfl rfl rfl ?_
  refine a_geti rfl gfX11_30_11 rfl ?_
  exact a_iret rfl rfl ⟨rfl, rfl⟩
theorem h_fault : SpE S m_X12_fault 12 [.ref 420] (hp I L w1 w2 t) (some (.int (I 420 14))) (hp (up2 I 420 0 0) L w1 w2 t) := by
  refine SpE_of ok_X12_fault rfl rfl ?_
  show AW S m_X12_fault 12 _ _ 0 0 0 [some (.ref 420)] [] (hp I L w1 w2 t)
  refine a_l0 rfl rfl rfl ?_
  refine a_s rfl rfl ?_
  refine a_puti rfl pfX12_3_12 rfl ?_
  refine a_l0 rfl rfl rfl ?_
  refine a_getiv (v := I 420 14) rfl gfX12_33_12 rfl (up2_ne (Or.inr (by decide))) ?_
  exact a_iret rfl rfl ⟨rfl, rfl⟩
end T79zu
