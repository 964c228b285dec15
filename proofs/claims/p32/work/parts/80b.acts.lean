/-! ===== the law's wrappers of what changes both (printed by program) ===== -/
section T80b
variable {S : aS} {I : Nat → Nat → Int32} {L : Nat → Nat → Int64} {w1 w2 t n fa nl len e : Nat} {cd fc fn : Nat → Nat} {T : Nat → Int32}
set_option maxRecDepth 100000
theorem lcmp_self {x : Int64} : lg_cmp x x = 0 := by
  unfold lg_cmp
  simp
theorem fL_put (hS : HdS S) (h : Sy I) (ps : PsN I n fa) {x1 : Int32} : Sp S m_L_put 17 2 12 [.ref 200, .int x1, .ref 431] (hp I L w1 w2 t) (fun v h' => ∃ y J L' t', v = some (.int y) ∧ h' = hp J L' w1 w2 t' ∧ (∀ q, 420 ≤ q → J q = I q) ∧ AcJ (vS (dn (I 421)) (I 421) 0 x1) y (L' 431 0) (mn 99 (I 421 (23 + 6 * ixN x1 + 2) + 1)) J (up2 (reS I n fa) 240 (ixN x1) (mn 99 (I 421 (23 + 6 * ixN x1 + 2) + 1))) I) nX := by
  refine Sp_of ok_L_put rfl rfl ?_
  show AW S m_L_put 17 _ _ 2 12 0 [some (.ref 200), some (.int x1), some (.ref 431), none] [] (hp I L w1 w2 t)
  refine a_l2 rfl rfl rfl ?_
  refine a_s rfl rfl ?_
  refine a_l0 rfl rfl rfl ?_
  refine a_l1 rfl rfl rfl ?_
  refine a_callVc rfl lL_37 mo_X11_put (f_put h.nm.1 h.nm.2.2.1 ps.2.2.1 ps.1 ps.2.2.2.2.1 ps.2.1) rfl rfl rfl ⟨11, _, rfl, rfl, rfl⟩ (fun v' h' hv => ?_) (fun E h' hx => ?_)
  · obtain ⟨c0, rfl, rfl⟩ := hv
    refine a_s rfl rfl ?_
    refine a_lastv (k := 0) rfl (n := 1) rfl ⟨by decide, by decide⟩ rfl ?_
    refine a_goto rfl ?_
    refine a_s rfl rfl ?_
    exact a_iret rfl rfl ⟨0, _, _, _, rfl, rfl, (fun q hq => by show up2 (reS I n fa) 240 (ixN x1) (mn 99 (I 421 (23 + 6 * ixN x1 + 2) + 1)) q = I q; rw [up2_row (by omega), reS_row (by omega) (by omega)]), Or.inl ⟨c0, rfl, up2_at, rfl⟩⟩
  · obtain ⟨⟨x, hx, hc, rfl⟩, rfl⟩ := hx
    simp only [List.mem_cons, List.not_mem_nil, or_false] at hx
    rcases hx with rfl | rfl
    · have hc : vS (dn (I 421)) (I 421) 0 x1 = 1 := hc
      refine ⟨12, _, _, _, _, 3, tk_24 rfl (by decide) (by decide), rfl, rfl, by decide, ?_⟩
      refine a_s rfl rfl ?_
      exact a_iret rfl rfl ⟨1, _, _, _, rfl, rfl, fun _ _ => rfl, Or.inr ⟨(fun z => absurd (hc.symm.trans z) (by decide)), hc.symm, rfl⟩⟩
    · have hc : vS (dn (I 421)) (I 421) 0 x1 = 2 := hc
      refine ⟨15, _, _, _, _, 3, tn_24 rfl (by decide) (by decide) (hS.2 ("java/lang/IllegalStateException", "java/lang/IndexOutOfBoundsException") (by decide +kernel)) (tk_35 rfl (by decide) (by decide)), rfl, rfl, by decide, ?_⟩
      refine a_s rfl rfl ?_
      exact a_iret rfl rfl ⟨2, _, _, _, rfl, rfl, fun _ _ => rfl, Or.inr ⟨(fun z => absurd (hc.symm.trans z) (by decide)), hc.symm, rfl⟩⟩
theorem fL_forget (hS : HdS S) (h : Sy I) (ps : PsN I n fa) {x1 : Int32} : Sp S m_L_forget 17 2 12 [.ref 200, .int x1, .ref 431] (hp I L w1 w2 t) (fun v h' => ∃ y J L' t', v = some (.int y) ∧ h' = hp J L' w1 w2 t' ∧ (∀ q, 420 ≤ q → J q = I q) ∧ AcJ (vS (dn (I 421)) (I 421) 0 x1) y (L' 431 0) (I 421 (23 + 6 * ixN x1 + 1)) J (up2 (reS I n fa) 243 (ixN x1) 2) I) nX := by
  refine Sp_of ok_L_forget rfl rfl ?_
  show AW S m_L_forget 17 _ _ 2 12 0 [some (.ref 200), some (.int x1), some (.ref 431), none] [] (hp I L w1 w2 t)
  refine a_l2 rfl rfl rfl ?_
  refine a_s rfl rfl ?_
  refine a_l0 rfl rfl rfl ?_
  refine a_l1 rfl rfl rfl ?_
  refine a_callVc rfl lL_40 mo_X11_forget (f_forget h.nm.1 h.nm.2.2.1 ps.2.2.1 ps.1 ps.2.2.2.2.1 ps.2.1) rfl rfl rfl ⟨11, _, rfl, rfl, rfl⟩ (fun v' h' hv => ?_) (fun E h' hx => ?_)
  · obtain ⟨c0, rfl, rfl⟩ := hv
    refine a_s rfl rfl ?_
    refine a_lastv (k := 0) rfl (n := 1) rfl ⟨by decide, by decide⟩ rfl ?_
    refine a_goto rfl ?_
    refine a_s rfl rfl ?_
    exact a_iret rfl rfl ⟨0, _, _, _, rfl, rfl, (fun q hq => by show up2 (reS I n fa) 243 (ixN x1) 2 q = I q; rw [up2_row (by omega), reS_row (by omega) (by omega)]), Or.inl ⟨c0, rfl, up2_at, rfl⟩⟩
  · obtain ⟨⟨x, hx, hc, rfl⟩, rfl⟩ := hx
    simp only [List.mem_cons, List.not_mem_nil, or_false] at hx
    rcases hx with rfl | rfl
    · have hc : vS (dn (I 421)) (I 421) 0 x1 = 1 := hc
      refine ⟨12, _, _, _, _, 3, tk_24 rfl (by decide) (by decide), rfl, rfl, by decide, ?_⟩
      refine a_s rfl rfl ?_
      exact a_iret rfl rfl ⟨1, _, _, _, rfl, rfl, fun _ _ => rfl, Or.inr ⟨(fun z => absurd (hc.symm.trans z) (by decide)), hc.symm, rfl⟩⟩
    · have hc : vS (dn (I 421)) (I 421) 0 x1 = 2 := hc
      refine ⟨15, _, _, _, _, 3, tn_24 rfl (by decide) (by decide) (hS.2 ("java/lang/IllegalStateException", "java/lang/IndexOutOfBoundsException") (by decide +kernel)) (tk_35 rfl (by decide) (by decide)), rfl, rfl, by decide, ?_⟩
      refine a_s rfl rfl ?_
      exact a_iret rfl rfl ⟨2, _, _, _, rfl, rfl, fun _ _ => rfl, Or.inr ⟨(fun z => absurd (hc.symm.trans z) (by decide)), hc.symm, rfl⟩⟩
theorem fL_recall (hS : HdS S) (h : Sy I) (ps : PsN I n fa) {x1 : Int32} : Sp S m_L_recall 17 2 12 [.ref 200, .int x1, .ref 431] (hp I L w1 w2 t) (fun v h' => ∃ y J L' t', v = some (.int y) ∧ h' = hp J L' w1 w2 t' ∧ (∀ q, 420 ≤ q → J q = I q) ∧ AcJ (vS (dn (I 421)) (I 421) 2 x1) y (L' 431 0) (I 421 (23 + 6 * ixN x1 + 2)) J (up2 (reS I n fa) 243 (ixN x1) 0) I) nX := by
  refine Sp_of ok_L_recall rfl rfl ?_
  show AW S m_L_recall 17 _ _ 2 12 0 [some (.ref 200), some (.int x1), some (.ref 431), none] [] (hp I L w1 w2 t)
  refine a_l2 rfl rfl rfl ?_
  refine a_s rfl rfl ?_
  refine a_l0 rfl rfl rfl ?_
  refine a_l1 rfl rfl rfl ?_
  refine a_callVc rfl lL_43 mo_X11_recall (f_recall h.nm.1 h.nm.2.2.1 ps.2.2.1 ps.1 ps.2.2.2.2.1 ps.2.1) rfl rfl rfl ⟨11, _, rfl, rfl, rfl⟩ (fun v' h' hv => ?_) (fun E h' hx => ?_)
  · obtain ⟨c0, rfl, rfl⟩ := hv
    refine a_s rfl rfl ?_
    refine a_lastv (k := 0) rfl (n := 1) rfl ⟨by decide, by decide⟩ rfl ?_
    refine a_goto rfl ?_
    refine a_s rfl rfl ?_
    exact a_iret rfl rfl ⟨0, _, _, _, rfl, rfl, (fun q hq => by show up2 (reS I n fa) 243 (ixN x1) 0 q = I q; rw [up2_row (by omega), reS_row (by omega) (by omega)]), Or.inl ⟨c0, rfl, up2_at, rfl⟩⟩
  · obtain ⟨⟨x, hx, hc, rfl⟩, rfl⟩ := hx
    simp only [List.mem_cons, List.not_mem_nil, or_false] at hx
    rcases hx with rfl | rfl
    · have hc : vS (dn (I 421)) (I 421) 2 x1 = 1 := hc
      refine ⟨12, _, _, _, _, 3, tk_24 rfl (by decide) (by decide), rfl, rfl, by decide, ?_⟩
      refine a_s rfl rfl ?_
      exact a_iret rfl rfl ⟨1, _, _, _, rfl, rfl, fun _ _ => rfl, Or.inr ⟨(fun z => absurd (hc.symm.trans z) (by decide)), hc.symm, rfl⟩⟩
    · have hc : vS (dn (I 421)) (I 421) 2 x1 = 2 := hc
      refine ⟨15, _, _, _, _, 3, tn_24 rfl (by decide) (by decide) (hS.2 ("java/lang/IllegalStateException", "java/lang/IndexOutOfBoundsException") (by decide +kernel)) (tk_35 rfl (by decide) (by decide)), rfl, rfl, by decide, ?_⟩
      refine a_s rfl rfl ?_
      exact a_iret rfl rfl ⟨2, _, _, _, rfl, rfl, fun _ _ => rfl, Or.inr ⟨(fun z => absurd (hc.symm.trans z) (by decide)), hc.symm, rfl⟩⟩
theorem fL_call (hS : HdS S) (h : Sy I) (ps : PsN I n fa) {x1 : Int32} : Sp S m_L_call 20 2 12 [.ref 200, .int x1, .ref 431] (hp I L w1 w2 t) (fun v h' => ∃ y J L' t', v = some (.int y) ∧ h' = hp J L' w1 w2 t' ∧ (∀ q, 420 ≤ q → J q = I q) ∧ AcJ (vC (dn (I 421)) (I 421) x1) y (L' 431 0) (passR (dn (I 421)) (I 421) (ixN x1)) J (up2 (up2 (reS I n fa) 239 (ixN x1) 0) 243 (ixN x1) 1) I) nX := by
  refine Sp_of ok_L_call rfl rfl ?_
  show AW S m_L_call 20 _ _ 2 12 0 [some (.ref 200), some (.int x1), some (.ref 431), none] [] (hp I L w1 w2 t)
  refine a_l2 rfl rfl rfl ?_
  refine a_s rfl rfl ?_
  refine a_l0 rfl rfl rfl ?_
  refine a_l1 rfl rfl rfl ?_
  refine a_callVc rfl lL_31 mo_X11_call (f_call h.nm.1 h.nm.2.2 ps.2.2.1 ps.1 ps.2.2.2.2.1 ps.2.1) rfl rfl rfl ⟨11, _, rfl, rfl, rfl⟩ (fun v' h' hv => ?_) (fun E h' hx => ?_)
  · obtain ⟨c0, rfl, rfl⟩ := hv
    refine a_s rfl rfl ?_
    refine a_lastv (k := 0) rfl (n := 1) rfl ⟨by decide, by decide⟩ rfl ?_
    refine a_goto rfl ?_
    refine a_s rfl rfl ?_
    exact a_iret rfl rfl ⟨0, _, _, _, rfl, rfl, (fun q hq => by show up2 (up2 (reS I n fa) 239 (ixN x1) 0) 243 (ixN x1) 1 q = I q; rw [up2_row (by omega), up2_row (by omega), reS_row (by omega) (by omega)]), Or.inl ⟨c0, rfl, up2_at, rfl⟩⟩
  · obtain ⟨⟨x, hx, hc, rfl⟩, rfl⟩ := hx
    simp only [List.mem_cons, List.not_mem_nil, or_false] at hx
    rcases hx with rfl | rfl
    · have hc : vC (dn (I 421)) (I 421) x1 = 1 := hc
      refine ⟨12, _, _, _, _, 3, tk_24 rfl (by decide) (by decide), rfl, rfl, by decide, ?_⟩
      refine a_s rfl rfl ?_
      exact a_iret rfl rfl ⟨1, _, _, _, rfl, rfl, fun _ _ => rfl, Or.inr ⟨(fun z => absurd (hc.symm.trans z) (by decide)), hc.symm, rfl⟩⟩
    · have hc : vC (dn (I 421)) (I 421) x1 = 2 := hc
      refine ⟨15, _, _, _, _, 3, tn_24 rfl (by decide) (by decide) (hS.2 ("java/lang/IllegalStateException", "java/lang/IndexOutOfBoundsException") (by decide +kernel)) (tk_35 rfl (by decide) (by decide)), rfl, rfl, by decide, ?_⟩
      refine a_s rfl rfl ?_
      exact a_iret rfl rfl ⟨2, _, _, _, rfl, rfl, fun _ _ => rfl, Or.inr ⟨(fun z => absurd (hc.symm.trans z) (by decide)), hc.symm, rfl⟩⟩
theorem fL_hand (hS : HdS S) (h : Sy I) (ps : PsN I n fa) {x1 x2 : Int32} : Sp S m_L_hand 17 4 24 [.ref 200, .int x1, .int x2, .ref 431] (hp I L w1 w2 t) (fun v h' => ∃ y J L' t', v = some (.int y) ∧ h' = hp J L' w1 w2 t' ∧ (∀ q, 420 ≤ q → J q = I q) ∧ AcJ (vH (dn (I 421)) (pn (I 421)) (I 421) x1 x2) y (L' 431 0) (I 421 (23 + 6 * ixN x1 + 0)) J (up2 (reS I n fa) 238 (ixN x1) x2) I) nX := by
  refine Sp_of ok_L_hand rfl rfl ?_
  show AW S m_L_hand 17 _ _ 4 24 0 [some (.ref 200), some (.int x1), some (.int x2), some (.ref 431), none] [] (hp I L w1 w2 t)
  refine a_l3 rfl rfl rfl ?_
  refine a_s rfl rfl ?_
  refine a_l0 rfl rfl rfl ?_
  refine a_l1 rfl rfl rfl ?_
  refine a_l2 rfl rfl rfl ?_
  refine a_callVc rfl lL_46 mo_X11_hand (f_hand h.nm.1 h.nm.2.2.1 ps.2.2.1 ps.1 ps.2.2.2.2.1 ps.2.1) rfl rfl rfl ⟨11, _, rfl, rfl, rfl⟩ (fun v' h' hv => ?_) (fun E h' hx => ?_)
  · obtain ⟨c0, rfl, rfl⟩ := hv
    refine a_s rfl rfl ?_
    refine a_lastv (k := 0) rfl (n := 1) rfl ⟨by decide, by decide⟩ rfl ?_
    refine a_goto rfl ?_
    refine a_s rfl rfl ?_
    exact a_iret rfl rfl ⟨0, _, _, _, rfl, rfl, (fun q hq => by show up2 (reS I n fa) 238 (ixN x1) x2 q = I q; rw [up2_row (by omega), reS_row (by omega) (by omega)]), Or.inl ⟨c0, rfl, up2_at, rfl⟩⟩
  · obtain ⟨⟨x, hx, hc, rfl⟩, rfl⟩ := hx
    simp only [List.mem_cons, List.not_mem_nil, or_false] at hx
    rcases hx with rfl | rfl | rfl
    · have hc : vH (dn (I 421)) (pn (I 421)) (I 421) x1 x2 = 1 := hc
      refine ⟨13, _, _, _, _, 4, tk_24 rfl (by decide) (by decide), rfl, rfl, by decide, ?_⟩
      refine a_s rfl rfl ?_
      exact a_iret rfl rfl ⟨1, _, _, _, rfl, rfl, fun _ _ => rfl, Or.inr ⟨(fun z => absurd (hc.symm.trans z) (by decide)), hc.symm, rfl⟩⟩
    · have hc : vH (dn (I 421)) (pn (I 421)) (I 421) x1 x2 = 2 := hc
      refine ⟨17, _, _, _, _, 4, tn_24 rfl (by decide) (by decide) (hS.2 ("java/lang/IllegalArgumentException", "java/lang/IndexOutOfBoundsException") (by decide +kernel)) (tk_13 rfl (by decide) (by decide)), rfl, rfl, by decide, ?_⟩
      refine a_s rfl rfl ?_
      exact a_iret rfl rfl ⟨2, _, _, _, rfl, rfl, fun _ _ => rfl, Or.inr ⟨(fun z => absurd (hc.symm.trans z) (by decide)), hc.symm, rfl⟩⟩
    · have hc : vH (dn (I 421)) (pn (I 421)) (I 421) x1 x2 = 3 := hc
      refine ⟨21, _, _, _, _, 4, tn_24 rfl (by decide) (by decide) (hS.2 ("java/lang/IllegalStateException", "java/lang/IndexOutOfBoundsException") (by decide +kernel)) (tn_13 rfl (by decide) (by decide) (hS.2 ("java/lang/IllegalStateException", "java/lang/IllegalArgumentException") (by decide +kernel)) (tk_35 rfl (by decide) (by decide))), rfl, rfl, by decide, ?_⟩
      refine a_s rfl rfl ?_
      exact a_iret rfl rfl ⟨3, _, _, _, rfl, rfl, fun _ _ => rfl, Or.inr ⟨(fun z => absurd (hc.symm.trans z) (by decide)), hc.symm, rfl⟩⟩
theorem fL_lean (hS : HdS S) (h : Sy I) (ps : PsN I n fa) {x1 x2 : Int32} : Sp S m_L_lean 17 3 18 [.ref 200, .int x1, .int x2, .ref 431] (hp I L w1 w2 t) (fun v h' => ∃ y J L' t', v = some (.int y) ∧ h' = hp J L' w1 w2 t' ∧ (∀ q, 420 ≤ q → J q = I q) ∧ AcJ (vL (dn (I 421)) x1 x2) y (L' 431 0) (I 421 (23 + 6 * ixN x1 + 4)) J (up2 (reS I n fa) 242 (ixN x1) x2) I) nX := by
  refine Sp_of ok_L_lean rfl rfl ?_
  show AW S m_L_lean 17 _ _ 3 18 0 [some (.ref 200), some (.int x1), some (.int x2), some (.ref 431), none] [] (hp I L w1 w2 t)
  refine a_l3 rfl rfl rfl ?_
  refine a_s rfl rfl ?_
  refine a_l0 rfl rfl rfl ?_
  refine a_l1 rfl rfl rfl ?_
  refine a_l2 rfl rfl rfl ?_
  refine a_callVc rfl lL_49 mo_X11_lean (f_lean h.nm.1 h.nm.2.2.1 ps.2.2.1 ps.1 ps.2.2.2.2.1 ps.2.1) rfl rfl rfl ⟨11, _, rfl, rfl, rfl⟩ (fun v' h' hv => ?_) (fun E h' hx => ?_)
  · obtain ⟨c0, rfl, rfl⟩ := hv
    refine a_s rfl rfl ?_
    refine a_lastv (k := 0) rfl (n := 1) rfl ⟨by decide, by decide⟩ rfl ?_
    refine a_goto rfl ?_
    refine a_s rfl rfl ?_
    exact a_iret rfl rfl ⟨0, _, _, _, rfl, rfl, (fun q hq => by show up2 (reS I n fa) 242 (ixN x1) x2 q = I q; rw [up2_row (by omega), reS_row (by omega) (by omega)]), Or.inl ⟨c0, rfl, up2_at, rfl⟩⟩
  · obtain ⟨⟨x, hx, hc, rfl⟩, rfl⟩ := hx
    simp only [List.mem_cons, List.not_mem_nil, or_false] at hx
    rcases hx with rfl | rfl
    · have hc : vL (dn (I 421)) x1 x2 = 1 := hc
      refine ⟨13, _, _, _, _, 4, tk_24 rfl (by decide) (by decide), rfl, rfl, by decide, ?_⟩
      refine a_s rfl rfl ?_
      exact a_iret rfl rfl ⟨1, _, _, _, rfl, rfl, fun _ _ => rfl, Or.inr ⟨(fun z => absurd (hc.symm.trans z) (by decide)), hc.symm, rfl⟩⟩
    · have hc : vL (dn (I 421)) x1 x2 = 2 := hc
      refine ⟨17, _, _, _, _, 4, tn_24 rfl (by decide) (by decide) (hS.2 ("java/lang/IllegalArgumentException", "java/lang/IndexOutOfBoundsException") (by decide +kernel)) (tk_13 rfl (by decide) (by decide)), rfl, rfl, by decide, ?_⟩
      refine a_s rfl rfl ?_
      exact a_iret rfl rfl ⟨2, _, _, _, rfl, rfl, fun _ _ => rfl, Or.inr ⟨(fun z => absurd (hc.symm.trans z) (by decide)), hc.symm, rfl⟩⟩
theorem fL_free (hS : HdS S) (h : Sy I) (ps : PsN I n fa) {x1 x2 : Int32} : Sp S m_L_free 17 2 12 [.ref 200, .int x1, .int x2, .ref 431] (hp I L w1 w2 t) (fun v h' => ∃ y J L' t', v = some (.int y) ∧ h' = hp J L' w1 w2 t' ∧ (∀ q, 420 ≤ q → J q = I q) ∧ AcJ (vF (pn (I 421)) x1 x2) y (L' 431 0) (I 421 (11 + 2 * ixN x1 + 1)) J (up2 (reS I n fa) 237 (ixN x1) x2) I) nX := by
  refine Sp_of ok_L_free rfl rfl ?_
  show AW S m_L_free 17 _ _ 2 12 0 [some (.ref 200), some (.int x1), some (.int x2), some (.ref 431), none] [] (hp I L w1 w2 t)
  refine a_l3 rfl rfl rfl ?_
  refine a_s rfl rfl ?_
  refine a_l0 rfl rfl rfl ?_
  refine a_l1 rfl rfl rfl ?_
  refine a_l2 rfl rfl rfl ?_
  refine a_callVc rfl lL_52 mo_X11_free (f_free h.nm.1 h.nm.2.2.1 ps.2.2.1 ps.1 ps.2.2.2.2.1 ps.2.1) rfl rfl rfl ⟨11, _, rfl, rfl, rfl⟩ (fun v' h' hv => ?_) (fun E h' hx => ?_)
  · obtain ⟨c0, rfl, rfl⟩ := hv
    refine a_s rfl rfl ?_
    refine a_lastv (k := 0) rfl (n := 1) rfl ⟨by decide, by decide⟩ rfl ?_
    refine a_goto rfl ?_
    refine a_s rfl rfl ?_
    exact a_iret rfl rfl ⟨0, _, _, _, rfl, rfl, (fun q hq => by show up2 (reS I n fa) 237 (ixN x1) x2 q = I q; rw [up2_row (by omega), reS_row (by omega) (by omega)]), Or.inl ⟨c0, rfl, up2_at, rfl⟩⟩
  · obtain ⟨⟨x, hx, hc, rfl⟩, rfl⟩ := hx
    simp only [List.mem_cons, List.not_mem_nil, or_false] at hx
    rcases hx with rfl | rfl
    · have hc : vF (pn (I 421)) x1 x2 = 1 := hc
      refine ⟨13, _, _, _, _, 4, tk_24 rfl (by decide) (by decide), rfl, rfl, by decide, ?_⟩
      refine a_s rfl rfl ?_
      exact a_iret rfl rfl ⟨1, _, _, _, rfl, rfl, fun _ _ => rfl, Or.inr ⟨(fun z => absurd (hc.symm.trans z) (by decide)), hc.symm, rfl⟩⟩
    · have hc : vF (pn (I 421)) x1 x2 = 2 := hc
      refine ⟨17, _, _, _, _, 4, tn_24 rfl (by decide) (by decide) (hS.2 ("java/lang/IllegalArgumentException", "java/lang/IndexOutOfBoundsException") (by decide +kernel)) (tk_13 rfl (by decide) (by decide)), rfl, rfl, by decide, ?_⟩
      refine a_s rfl rfl ?_
      exact a_iret rfl rfl ⟨2, _, _, _, rfl, rfl, fun _ _ => rfl, Or.inr ⟨(fun z => absurd (hc.symm.trans z) (by decide)), hc.symm, rfl⟩⟩
theorem fL_days (hS : HdS S) (h : Sy I) (ps : PsN I n fa) (hL : LwS I 246 (I 421) nl len cd fc fn) (hN : LwN (I 421) nl) {x1 : Int32} : Sp S m_L_days 21 1 6 [.ref 200, .int x1, .ref 431] (hp I L w1 w2 t) (fun v h' => ∃ y J L' t', v = some (.int y) ∧ h' = hp J L' w1 w2 t' ∧ (∀ q, 420 ≤ q → J q = I q) ∧ ((∃ m, 1 ≤ m ∧ m ≤ 90 ∧ x1 = nI m ∧ y = 0 ∧ (∀ q, (q < 235 ∨ 245 < q) → q ≠ 252 → q ≠ 253 → J q = reS I n fa q) ∧ Sd J 235 (dsW false cd fc fn nl (I 421) m) ∧ Lg J 235 (dsW false cd fc fn nl (I 421) m)) ∨ (inB x1 1 90 = false ∧ y = 1 ∧ J = I))) nX := by
  refine Sp_of ok_L_days rfl rfl ?_
  show AW S m_L_days 21 _ _ 1 6 0 [some (.ref 200), some (.int x1), some (.ref 431), none] [] (hp I L w1 w2 t)
  refine a_l2 rfl rfl rfl ?_
  refine a_s rfl rfl ?_
  refine a_l0 rfl rfl rfl ?_
  refine a_l1 rfl rfl rfl ?_
  refine a_callVc rfl lL_55 mo_X11_days (f_days h.nm.1 h.nm.2.1 h.nm.2.2 hL hN ps.2.2.1 ps.1 ps.2.2.2.2.1 ps.2.1) rfl rfl rfl ⟨11, _, rfl, rfl, rfl⟩ (fun v' h' hv => ?_) (fun E h' hx => ?_)
  · obtain ⟨y, rfl, m, m1, m2, rfl, J, rfl, f, D, G⟩ := hv
    refine a_s rfl rfl ?_
    refine a_lastv (k := 0) rfl (n := 1) rfl ⟨by decide, by decide⟩ rfl ?_
    refine a_goto rfl ?_
    refine a_s rfl rfl ?_
    exact a_iret rfl rfl ⟨0, J, _, _, rfl, rfl, (fun q hq => by rw [f q (by omega) (by omega) (by omega), reS_row (by omega) (by omega)]), Or.inl ⟨m, m1, m2, rfl, rfl, f, D, G⟩⟩
  · obtain ⟨rfl, hc, rfl⟩ := hx
    refine ⟨12, _, _, _, _, 3, tk_13 rfl (by decide) (by decide), rfl, rfl, by decide, ?_⟩
    refine a_s rfl rfl ?_
    exact a_iret rfl rfl ⟨1, I, _, _, rfl, rfl, fun _ _ => rfl, Or.inr ⟨hc, rfl, rfl⟩⟩
theorem fL_street (hS : HdS S) (h : Sy I) (he : I 201 1 = nI e) (h4 : e ≤ 400) : Sp S m_L_street 22 1 6 [.ref 200, .ref 431] (hp I L w1 w2 t) (fun v h' => ∃ y J L' w t', v = some (.int y) ∧ h' = hp J L' w w2 t' ∧ WK w ∧ CI J ∧ Fm sJ I J ∧ J 201 1 = 0 ∧ StC (strP (I 202) e (I 421)) I J y (L' 431 0)) nX := by
  refine Sp_of ok_L_street rfl rfl ?_
  show AW S m_L_street 22 _ _ 1 6 0 [some (.ref 200), some (.ref 431), none] [] (hp I L w1 w2 t)
  refine a_l1 rfl rfl rfl ?_
  refine a_s rfl rfl ?_
  refine a_l0 rfl rfl rfl ?_
  refine a_callVc rfl lL_7 mo_X11_street (f_streetC hS.1 he h4 h.1.2.2.1 rfl h.1.2.2.2.1 h.1.1 h.nm.1 h.nm.2.2.1 h.nm.2.2.2.1.1) rfl rfl rfl ⟨11, _, rfl, rfl, rfl⟩ (fun v' h' hv => ?_) (fun E h' hx => ?_)
  · obtain ⟨rfl, hz, h2, J, w, rfl, hww, ci, f, c1, c3, c13, D⟩ := hv
    refine a_s rfl rfl ?_
    refine a_lastv (k := 0) rfl (n := 1) rfl ⟨by decide, by decide⟩ rfl ?_
    refine a_goto rfl ?_
    refine a_s rfl rfl ?_
    exact a_iret rfl rfl ⟨0, J, _, w, _, rfl, rfl, hww, ci, f, c1, Or.inl ⟨hz, h2, rfl, up2_at, c3, c13, D⟩⟩
  · obtain ⟨J, w, rfl, hww, ci, f, c1, c13, D, hc⟩ := hx
    rcases hc with ⟨rfl, hz, c3⟩ | ⟨rfl, hz, h2, c3⟩
    · refine ⟨11, _, _, _, _, 2, tk_13 rfl (by decide) (by decide), rfl, rfl, by decide, ?_⟩
      refine a_s rfl rfl ?_
      exact a_iret rfl rfl ⟨1, J, _, w, _, rfl, rfl, hww, ci, f, c1, Or.inr (Or.inl ⟨hz, rfl, c3, c13, D⟩)⟩
    · refine ⟨14, _, _, _, _, 2, tn_13 rfl (by decide) (by decide) (hS.2 ("java/lang/UnsupportedOperationException", "java/lang/IllegalArgumentException") (by decide +kernel)) (tk_15 rfl (by decide) (by decide)), rfl, rfl, by decide, ?_⟩
      refine a_s rfl rfl ?_
      exact a_iret rfl rfl ⟨2, J, _, w, _, rfl, rfl, hww, ci, f, c1, Or.inr (Or.inr ⟨hz, h2, rfl, c3, c13, D⟩)⟩
theorem fL_law (hS : HdS S) (h : Sy I) (he : I 201 1 = nI e) (h4 : e ≤ 400) : Sp S m_L_law 22 1 6 [.ref 200, .ref 431] (hp I L w1 w2 t) (fun v h' => ∃ y J L' w t', v = some (.int y) ∧ h' = hp J L' w1 w t' ∧ WK w ∧ Mt0 I J ∧ LaC (lawP (I 202) e) I J y (L' 431 0)) nX := by
  refine Sp_of ok_L_law rfl rfl ?_
  show AW S m_L_law 22 _ _ 1 6 0 [some (.ref 200), some (.ref 431), none] [] (hp I L w1 w2 t)
  refine a_l1 rfl rfl rfl ?_
  refine a_s rfl rfl ?_
  refine a_l0 rfl rfl rfl ?_
  refine a_callVc rfl lL_17 mo_X11_law (f_lawS hS.1 he h4 h.1.2.2.1 rfl h.1.2.2.2.2) rfl rfl rfl ⟨11, _, rfl, rfl, rfl⟩ (fun v' h' hv => ?_) (fun E h' hx => ?_)
  · obtain ⟨rfl, hz, J, w, rfl, hww, m, c, f, c12, c400⟩ := hv
    refine a_s rfl rfl ?_
    refine a_lastv (k := 0) rfl (n := 1) rfl ⟨by decide, by decide⟩ rfl ?_
    refine a_goto rfl ?_
    refine a_s rfl rfl ?_
    exact a_iret rfl rfl ⟨0, J, _, w, _, rfl, rfl, hww, m, Or.inl ⟨hz, rfl, up2_at, c, f, c12, c400⟩⟩
  · obtain ⟨rfl, hz, J, w, rfl, hww, m, c3, f⟩ := hx
    refine ⟨11, _, _, _, _, 2, tk_13 rfl (by decide) (by decide), rfl, rfl, by decide, ?_⟩
    refine a_s rfl rfl ?_
    exact a_iret rfl rfl ⟨1, J, _, w, _, rfl, rfl, hww, m, Or.inr ⟨hz, rfl, c3, f⟩⟩
theorem fL_whose (hS : HdS S) (h : Sy I) (he : I 201 1 = nI e) (h4 : e ≤ 400) : Sp S m_L_whose 19 1 6 [.ref 200, .ref 431] (hp I L w1 w2 t) (fun v h' => ∃ y L' t', v = some (.int y) ∧ h' = hp (up2 I 201 1 0) L' w1 w2 t' ∧ AcQ (vWs (I 202) e) y (L' 431 0) (fitW (I 202) (I 421) e)) nX := by
  refine Sp_of ok_L_whose rfl rfl ?_
  show AW S m_L_whose 19 _ _ 1 6 0 [some (.ref 200), some (.ref 431), none] [] (hp I L w1 w2 t)
  refine a_l1 rfl rfl rfl ?_
  refine a_s rfl rfl ?_
  refine a_l0 rfl rfl rfl ?_
  refine a_callVc rfl lL_90 mo_X11_whose (fq_whose h he h4) rfl rfl rfl ⟨11, _, rfl, rfl, rfl⟩ (fun v' h' hv => ?_) (fun E h' hx => ?_)
  · obtain ⟨c0, rfl, rfl⟩ := hv
    refine a_s rfl rfl ?_
    refine a_lastv (k := 0) rfl (n := 1) rfl ⟨by decide, by decide⟩ rfl ?_
    refine a_goto rfl ?_
    refine a_s rfl rfl ?_
    exact a_iret rfl rfl ⟨0, _, _, rfl, rfl, Or.inl ⟨c0, rfl, up2_at⟩⟩
  · obtain ⟨rfl, hc, rfl⟩ := hx
    refine ⟨11, _, _, _, _, 2, tk_13 rfl (by decide) (by decide), rfl, rfl, by decide, ?_⟩
    refine a_s rfl rfl ?_
    exact a_iret rfl rfl ⟨1, _, _, rfl, rfl, Or.inr ⟨(fun z => absurd (hc.symm.trans z) (by decide)), hc.symm⟩⟩
end T80b
