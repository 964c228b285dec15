/-! ===== law, called by the law's round ===== -/
section T80b
variable {S : aS} {I : Nat → Nat → Int32} {L : Nat → Nat → Int64} {w1 w2 t : Nat} {e : Nat} {T : Nat → Int32}
set_option maxRecDepth 100000
theorem lcmp_self {x : Int64} : lg_cmp x x = 0 := by
  unfold lg_cmp
  simp
theorem f_L_law (hS : HdS S) (he : I 201 1 = nI e) (h4 : e ≤ 400) (hbt : BtT T) (hT : I 202 = T) (hm : I 220 1 = 12) : Sp S m_L_law 22 1 6 [.ref 200, .ref 431] (hp I L w1 w2 t) (fun v h' => ∃ J L' w t', h' = hp J L' w1 w t' ∧ WK w ∧ Mt0 I J ∧ (((lawP T e).1 = true ∧ v = some (.int 0) ∧ L' 431 0 = (nI (lawP T e).2.2.2.length).toInt64 ∧ LwC (lawP T e) J) ∨ ((lawP T e).1 = false ∧ v = some (.int 1) ∧ J 200 3 = nI (lawP T e).2.1))) nX := by
  refine Sp_of ok_L_law rfl rfl ?_
  show AW S m_L_law 22 _ _ 1 6 0 [some (.ref 200), some (.ref 431), none] [] (hp I L w1 w2 t)
  refine a_l1 rfl rfl rfl ?_
  refine a_s rfl rfl ?_
  refine a_l0 rfl rfl rfl ?_
  refine a_callVc rfl lL_17 mo_X11_law (f_lawC hS.1 he h4 hbt hT hm) rfl rfl rfl ⟨11, _, rfl, rfl, rfl⟩ (fun v' h' hv => ?_) (fun E h' hx => ?_)
  · obtain ⟨rfl, hz, J, w, rfl, hww, fM, hC⟩ := hv
    refine a_s rfl rfl ?_
    refine a_lastv (k := 0) rfl (n := 1) rfl ⟨by decide, by decide⟩ rfl ?_
    refine a_goto rfl ?_
    refine a_s rfl rfl ?_
    exact a_iret rfl rfl ⟨J, _, w, _, rfl, hww, fM, Or.inl ⟨hz, rfl, up2_at, hC⟩⟩
  · obtain ⟨rfl, hz, J, w, rfl, hww, fM, h3⟩ := hx
    refine ⟨11, _, _, _, _, 2, tk_13 rfl (by decide) (by decide), rfl, rfl, by decide, ?_⟩
    refine a_s rfl rfl ?_
    exact a_iret rfl rfl ⟨J, _, w, _, rfl, hww, fM, Or.inr ⟨hz, rfl, h3⟩⟩
end T80b
