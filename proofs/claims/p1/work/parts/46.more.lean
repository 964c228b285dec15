/-! ===== log, crowd, count, gap on the fresh heap ===== -/
set_option maxRecDepth 100000
theorem au_X1_valueOf_106 {S : aS} {I : Nat → Nat → Int32} {L : Nat → Nat → Int64} {w1 w2 t : Nat} {x1 x2 : Int32}  (q0 : x1 < 0) : SpE S m_X1_valueOf 12 [.ref 244, .int x1, .int x2] (hp I L w1 w2 t) (some (.int (-1))) (hp I L w1 w2 t) := by
  refine SpE_of ok_X1_valueOf rfl rfl ?_
  show AW S m_X1_valueOf 12 _ _ 0 0 0 [some (.ref 244), some (.int x1), some (.int x2), none] [] (hp I L w1 w2 t)
  refine a_l1 rfl rfl rfl ?_
  refine a_if_lt rfl (fun c1 => ?_) (fun c => absurd (q0) c)
  refine a_s rfl rfl ?_
  exact a_iret rfl rfl ⟨rfl, rfl⟩
theorem au_X11_log_107 {S : aS} {I : Nat → Nat → Int32} {L : Nat → Nat → Int64} {w1 w2 t : Nat} {x1 x2 : Int32}  (q0 : ¬ x2 < 0) (q1 : x2 ≤ 3) (q2 : x1 < 0) : SpE S m_X11_log 13 [.ref 200, .int x1, .int x2] (hp I L w1 w2 t) (some (.int (-1))) (hp I L w1 w2 t) := by
  refine SpE_of ok_X11_log rfl rfl ?_
  show AW S m_X11_log 13 _ _ 0 0 0 [some (.ref 200), some (.int x1), some (.int x2)] [] (hp I L w1 w2 t)
  refine a_l2 rfl rfl rfl ?_
  refine a_if_lt rfl (fun c => absurd c (q0)) (fun c1 => ?_)
  refine a_l2 rfl rfl rfl ?_
  refine a_s rfl rfl ?_
  refine a_ic_le rfl (fun c6 => ?_) (fun c => absurd (q1) c)
  refine a_l0 rfl rfl rfl ?_
  refine a_getq rfl gfX11_37_11 rfl rfl ?_
  refine a_getq rfl gfX11_211_5 rfl rfl ?_
  refine a_l1 rfl rfl rfl ?_
  refine a_l2 rfl rfl rfl ?_
  refine a_eV1 rfl lX11_365 mo_X1_valueOf (au_X1_valueOf_106  (q2)) rfl rfl rfl ⟨1, _, rfl, rfl, rfl⟩ rfl ?_
  exact a_iret rfl rfl ⟨rfl, rfl⟩
theorem cr_X11_log_a {S : aS} {x0 x1 : Int32} (q : inB x1 0 3 = true) (p : x0 < 0) : CRet S m_X11_log 13 [.ref 200, .int x0, .int x1] (some (-1)) := CRet.of (au_X11_log_107  (inB_lo q) (inB_hi q) (p)) (fun _ _ => rfl)
theorem I0_244_0 : I0 244 0 = 0 := by decide +kernel
theorem au_X1_valueOf_108 {S : aS} {I : Nat → Nat → Int32} {L : Nat → Nat → Int64} {w1 w2 t : Nat} {x1 x2 : Int32} (h244_0 : I 244 0 = 0) (q0 : ¬ x1 < 0) : SpE S m_X1_valueOf 12 [.ref 244, .int x1, .int x2] (hp I L w1 w2 t) (some (.int (-1))) (hp I L w1 w2 t) := by
  refine SpE_of ok_X1_valueOf rfl rfl ?_
  show AW S m_X1_valueOf 12 _ _ 0 0 0 [some (.ref 244), some (.int x1), some (.int x2), none] [] (hp I L w1 w2 t)
  refine a_l1 rfl rfl rfl ?_
  refine a_if_lt rfl (fun c => absurd c (q0)) (fun c1 => ?_)
  refine a_l1 rfl rfl rfl ?_
  refine a_l0 rfl rfl rfl ?_
  refine a_getiv (v := 0) rfl gfX1_15_1 rfl h244_0 ?_
  refine a_ic_lt rfl (fun c => absurd c (q0)) (fun c9 => ?_)
  refine a_s rfl rfl ?_
  exact a_iret rfl rfl ⟨rfl, rfl⟩
theorem au_X11_log_109 {S : aS} {I : Nat → Nat → Int32} {L : Nat → Nat → Int64} {w1 w2 t : Nat} {x1 x2 : Int32} (h244_0 : I 244 0 = 0) (q0 : ¬ x2 < 0) (q1 : x2 ≤ 3) (q2 : ¬ x1 < 0) : SpE S m_X11_log 13 [.ref 200, .int x1, .int x2] (hp I L w1 w2 t) (some (.int (-1))) (hp I L w1 w2 t) := by
  refine SpE_of ok_X11_log rfl rfl ?_
  show AW S m_X11_log 13 _ _ 0 0 0 [some (.ref 200), some (.int x1), some (.int x2)] [] (hp I L w1 w2 t)
  refine a_l2 rfl rfl rfl ?_
  refine a_if_lt rfl (fun c => absurd c (q0)) (fun c1 => ?_)
  refine a_l2 rfl rfl rfl ?_
  refine a_s rfl rfl ?_
  refine a_ic_le rfl (fun c6 => ?_) (fun c => absurd (q1) c)
  refine a_l0 rfl rfl rfl ?_
  refine a_getq rfl gfX11_37_11 rfl rfl ?_
  refine a_getq rfl gfX11_211_5 rfl rfl ?_
  refine a_l1 rfl rfl rfl ?_
  refine a_l2 rfl rfl rfl ?_
  refine a_eV1 rfl lX11_365 mo_X1_valueOf (au_X1_valueOf_108 h244_0 (q2)) rfl rfl rfl ⟨1, _, rfl, rfl, rfl⟩ rfl ?_
  exact a_iret rfl rfl ⟨rfl, rfl⟩
theorem cr_X11_log_b {S : aS} {x0 x1 : Int32} (q : inB x1 0 3 = true) (p : ¬ x0 < 0) : CRet S m_X11_log 13 [.ref 200, .int x0, .int x1] (some (-1)) := CRet.of (au_X11_log_109 I0_244_0 (inB_lo q) (inB_hi q) (p)) (fun _ _ => rfl)
theorem I0_421_9 : I0 421 9 = 0 := by decide +kernel
theorem au_X12_log_110 {S : aS} {I : Nat → Nat → Int32} {L : Nat → Nat → Int64} {w1 w2 t : Nat} {x1 x2 : Int32} (h421_9 : I 421 9 = 0) (q0 : inB x2 0 3 = true) (q1 : inB x1 0 (-1) = false) : SpE S m_X12_log 13 [.ref 420, .int x1, .int x2] (hp I L w1 w2 t) (some (.int (-1))) (hp (up2 I 420 0 0) L w1 w2 t) := by
  refine SpE_of ok_X12_log rfl rfl ?_
  show AW S m_X12_log 13 _ _ 0 0 0 [some (.ref 420), some (.int x1), some (.int x2)] [] (hp I L w1 w2 t)
  refine a_l0 rfl rfl rfl ?_
  refine a_s rfl rfl ?_
  refine a_puti rfl pfX12_3_12 rfl ?_
  refine a_l0 rfl rfl rfl ?_
  refine a_l2 rfl rfl rfl ?_
  refine a_s rfl rfl ?_
  refine a_s rfl rfl ?_
  refine a_eS1 rfl lX12_70 mo_X12_in ((sp_X12_in (x := x2) (a := 0) (b := 3)).cast (r' := some (.int 1)) (by rw [q0]; rfl) rfl) rfl rfl rfl rfl ?_
  refine a_if_ne rfl (fun c12 => ?_) (fun c => absurd c (by decide))
  refine a_s rfl rfl ?_
  refine a_s rfl rfl ?_
  refine a_eV1 rfl lX12_243 mo_X12_throwsIf (au_X12_throwsIf_32  ) rfl rfl rfl ⟨12, _, rfl, rfl, rfl⟩ rfl ?_
  refine a_if_eq rfl (fun c24 => ?_) (fun c => absurd (by decide) c)
  refine a_l1 rfl rfl rfl ?_
  refine a_s rfl rfl ?_
  refine a_l0 rfl rfl rfl ?_
  refine a_getq rfl gfX12_13_12 rfl rfl ?_
  refine a_s rfl rfl ?_
  refine a_ialdv (v := 0) rfl (n := 2033) rfl ⟨by decide, by decide⟩ h421_9 ?_
  refine a_s rfl rfl ?_
  refine a_s rfl rfl ?_
  refine a_top (y := (-1)) (by decide) ?_
  refine a_eS1 rfl lX12_70 mo_X12_in ((sp_X12_in (x := x1) (a := 0) (b := (-1))).cast (r' := some (.int 0)) (by rw [q1]; rfl) rfl) rfl rfl rfl rfl ?_
  refine a_if_eq rfl (fun c43 => ?_) (fun c => absurd (by decide) c)
  refine a_s rfl rfl ?_
  exact a_iret rfl rfl ⟨rfl, rfl⟩
theorem rr_X12_log {S : aS} {x0 x1 : Int32} (q : inB x1 0 3 = true) : RRet S m_X12_log 13 [.ref 420, .int x0, .int x1] (some (-1)) 0 := RRet.of (fun I => up2 I 420 0 0) (fun I L w1 w2 t hz => au_X12_log_110 (hz.at rfl I0_421_9) (q) (inB_none _)) (fun I hz => rfl)
theorem cr_X11_log {S : aS} {x0 x1 : Int32} (q : inB x1 0 3 = true) : CRet S m_X11_log 13 [.ref 200, .int x0, .int x1] (some (-1)) := by
  by_cases p : x0 < 0
  · exact cr_X11_log_a q p
  · exact cr_X11_log_b q p
theorem au_X11_log_111 {S : aS} {I : Nat → Nat → Int32} {L : Nat → Nat → Int64} {w1 w2 t : Nat} {x1 x2 : Int32}  (q0 : x2 < 0) : SpX S m_X11_log 12 [.ref 200, .int x1, .int x2] (hp I L w1 w2 t) "java/util/NoSuchElementException" (hp I L w1 w2 0) := by
  refine SpX_of ok_X11_log rfl rfl ?_
  show AW S m_X11_log 12 _ _ 1 6 0 [some (.ref 200), some (.int x1), some (.int x2)] [] (hp I L w1 w2 t)
  refine a_l2 rfl rfl rfl ?_
  refine a_if_lt rfl (fun c1 => ?_) (fun c => absurd (q0) c)
  exact a_throw rfl rfl rfl rfl tX11_nsee rfl rfl rfl rfl rfl ⟨rfl, rfl⟩
theorem cx_X11_log_a {S : aS} {x0 x1 : Int32} (p : x1 < 0) : CThr S m_X11_log 12 [.ref 200, .int x0, .int x1] "java/util/NoSuchElementException" := CThr.of (au_X11_log_111  (p))
theorem au_X11_log_112 {S : aS} {I : Nat → Nat → Int32} {L : Nat → Nat → Int64} {w1 w2 t : Nat} {x1 x2 : Int32}  (q0 : ¬ x2 < 0) (q1 : ¬ x2 ≤ 3) : SpX S m_X11_log 12 [.ref 200, .int x1, .int x2] (hp I L w1 w2 t) "java/util/NoSuchElementException" (hp I L w1 w2 0) := by
  refine SpX_of ok_X11_log rfl rfl ?_
  show AW S m_X11_log 12 _ _ 1 6 0 [some (.ref 200), some (.int x1), some (.int x2)] [] (hp I L w1 w2 t)
  refine a_l2 rfl rfl rfl ?_
  refine a_if_lt rfl (fun c => absurd c (q0)) (fun c1 => ?_)
  refine a_l2 rfl rfl rfl ?_
  refine a_s rfl rfl ?_
  refine a_ic_le rfl (fun c => absurd c (q1)) (fun c6 => ?_)
  exact a_throw rfl rfl rfl rfl tX11_nsee rfl rfl rfl rfl rfl ⟨rfl, rfl⟩
theorem cx_X11_log_b {S : aS} {x0 x1 : Int32} (p : ¬ x1 < 0) (p2 : ¬ x1 ≤ 3) : CThr S m_X11_log 12 [.ref 200, .int x0, .int x1] "java/util/NoSuchElementException" := CThr.of (au_X11_log_112  (p) (p2))
theorem au_X12_log_113 {S : aS} {I : Nat → Nat → Int32} {L : Nat → Nat → Int64} {w1 w2 t : Nat} {x1 x2 : Int32}  (q0 : inB x2 0 3 = false) : SpE S m_X12_log 13 [.ref 420, .int x1, .int x2] (hp I L w1 w2 t) (some (.int 0)) (hp (up2 (up2 I 420 0 0) 420 0 1) L w1 w2 t) := by
  refine SpE_of ok_X12_log rfl rfl ?_
  show AW S m_X12_log 13 _ _ 0 0 0 [some (.ref 420), some (.int x1), some (.int x2)] [] (hp I L w1 w2 t)
  refine a_l0 rfl rfl rfl ?_
  refine a_s rfl rfl ?_
  refine a_puti rfl pfX12_3_12 rfl ?_
  refine a_l0 rfl rfl rfl ?_
  refine a_l2 rfl rfl rfl ?_
  refine a_s rfl rfl ?_
  refine a_s rfl rfl ?_
  refine a_eS1 rfl lX12_70 mo_X12_in ((sp_X12_in (x := x2) (a := 0) (b := 3)).cast (r' := some (.int 0)) (by rw [q0]; rfl) rfl) rfl rfl rfl rfl ?_
  refine a_if_ne rfl (fun c => absurd c (by decide)) (fun c12 => ?_)
  refine a_s rfl rfl ?_
  refine a_goto rfl ?_
  refine a_s rfl rfl ?_
  refine a_eV1 rfl lX12_243 mo_X12_throwsIf (au_X12_throwsIf_87  ) rfl rfl rfl ⟨12, _, rfl, rfl, rfl⟩ rfl ?_
  refine a_if_eq rfl (fun c => absurd c (by decide)) (fun c24 => ?_)
  refine a_s rfl rfl ?_
  exact a_iret rfl rfl ⟨rfl, rfl⟩
theorem rr_X12_log_x {S : aS} {x0 x1 : Int32} (q : inB x1 0 3 = false) : RRet S m_X12_log 13 [.ref 420, .int x0, .int x1] (some 0) 1 := RRet.of (fun I => up2 (up2 I 420 0 0) 420 0 1) (fun I L w1 w2 t hz => au_X12_log_113  (q)) (fun I hz => rfl)
theorem cx_X11_log {S : aS} {x0 x1 : Int32} (q : inB x1 0 3 = false) : CThr S m_X11_log 12 [.ref 200, .int x0, .int x1] "java/util/NoSuchElementException" := by
  by_cases p : x1 < 0
  · exact cx_X11_log_a p
  · exact cx_X11_log_b p (fun z => by rw [inB_of p z] at q; cases q)
theorem w_log {S : aS} {x0 x1 : Int32} {r : Int32} (h : CRet S m_X11_log 13 [.ref 200, .int x0, .int x1] (some r)) : Sp S m_L_log 14 0 0 [.ref 200, .int x0, .int x1, .ref 431] (hp I0 L0 0 0 432) (QW r) (fun _ _ => False) := by
  refine Sp_of ok_L_log rfl rfl ?_
  show AW S m_L_log 14 _ _ 0 0 0 [some (.ref 200), some (.int x0), some (.int x1), some (.ref 431), none] [] (hp I0 L0 0 0 432)
  refine a_l3 rfl rfl rfl ?_
  refine a_s rfl rfl ?_
  refine a_l0 rfl rfl rfl ?_
  refine a_l1 rfl rfl rfl ?_
  refine a_l2 rfl rfl rfl ?_
  refine a_callVc rfl lL_126 mo_X11_log h rfl rfl rfl ⟨11, _, rfl, rfl, rfl⟩ (fun v h' hv => ?_) (fun E h' hx => False.elim hx)
  obtain ⟨rfl, I, w1, w2, t, rfl, hz⟩ := hv
  refine a_s rfl rfl ?_
  refine a_last rfl (n := 1) rfl ⟨by decide, by decide⟩ ?_
  refine a_goto rfl ?_
  refine a_s rfl rfl ?_
  exact a_iret rfl rfl ⟨rfl, I, w1, w2, t, rfl, hz⟩
theorem wx_log_1 {xs : Nat → Int32} {x0 x1 : Int32} (h : CThr (S1 6 xs) m_X11_log 12 [.ref 200, .int x0, .int x1] "java/util/NoSuchElementException") : Sp (S1 6 xs) m_L_log 13 1 6 [.ref 200, .int x0, .int x1, .ref 431] (hp I0 L0 0 0 432) (QX 1) (fun _ _ => False) := by
  refine Sp_of ok_L_log rfl rfl ?_
  show AW (S1 6 xs) m_L_log 13 _ _ 1 6 0 [some (.ref 200), some (.int x0), some (.int x1), some (.ref 431), none] [] (hp I0 L0 0 0 432)
  refine a_l3 rfl rfl rfl ?_
  refine a_s rfl rfl ?_
  refine a_l0 rfl rfl rfl ?_
  refine a_l1 rfl rfl rfl ?_
  refine a_l2 rfl rfl rfl ?_
  refine a_callVc rfl lL_126 mo_X11_log h rfl rfl rfl ⟨11, _, rfl, rfl, rfl⟩ (fun v h' hv => False.elim hv) (fun E h' hx => ?_)
  obtain ⟨rfl, I, w1, w2, t, rfl, hz⟩ := hx
  refine ⟨13, _, _, _, _, 4, tk_26 rfl (by decide) (by decide), rfl, rfl, by decide, ?_⟩
  refine a_s rfl rfl ?_
  exact a_iret rfl rfl ⟨rfl, I, w1, w2, t, rfl, hz⟩
theorem op_52_0 {xs : Nat → Int32} (hb : inB (xs 2) 0 3 = true) : OpOk xs 2766 := by
  show AW (S1 6 xs) m_L_main 1050 QM XM 599770 7281900 2766 [some (.ref 199), some (.ref 200), some (.ref 420), some (.ref 431), some (.int 0), none, none] [] (hp I0 L0 0 0 432)
  refine a_l1 rfl rfl rfl ?_
  refine a_l0 rfl rfl rfl ?_
  refine a_l4 rfl rfl rfl ?_
  refine a_s rfl rfl ?_
  refine a_s rfl rfl ?_
  refine a_ialdc rfl scr_mem ⟨by decide, by decide⟩ ?_
  refine a_l0 rfl rfl rfl ?_
  refine a_l4 rfl rfl rfl ?_
  refine a_s rfl rfl ?_
  refine a_s rfl rfl ?_
  refine a_ialdc rfl scr_mem ⟨by decide, by decide⟩ ?_
  refine a_l3 rfl rfl rfl ?_
  refine a_callW rfl lL_319 mo_L_log (w_log (cr_X11_log hb)) rfl rfl rfl rfl (fun v h' hv => ?_) (fun E h' hx => False.elim hx)
  obtain ⟨rfl, I, w1, w2, t, rfl, hz⟩ := hv
  refine a_s5 rfl rfl rfl rfl rfl rfl ?_
  refine a_l2 rfl rfl rfl ?_
  refine a_l0 rfl rfl rfl ?_
  refine a_l4 rfl rfl rfl ?_
  refine a_s rfl rfl ?_
  refine a_s rfl rfl ?_
  refine a_ialdc rfl scr_mem ⟨by decide, by decide⟩ ?_
  refine a_l0 rfl rfl rfl ?_
  refine a_l4 rfl rfl rfl ?_
  refine a_s rfl rfl ?_
  refine a_s rfl rfl ?_
  refine a_ialdc rfl scr_mem ⟨by decide, by decide⟩ ?_
  refine a_callV rfl lL_321 mo_X12_log (rr_X12_log hb I _ w1 w2 t hz) rfl rfl rfl ⟨12, _, rfl, rfl, rfl⟩ rfl (fun v h' hv => ?_) (fun E h' hx => False.elim hx)
  obtain ⟨rfl, I', L', w1', w2', t', rfl, hk, hL⟩ := hv
  refine a_s6 rfl rfl rfl rfl rfl rfl ?_
  refine a_l2 rfl rfl rfl ?_
  refine a_eV1 rfl lL_149 mo_X12_thrown (sp_X12_thrown) rfl rfl rfl ⟨12, _, rfl, rfl, rfl⟩ rfl ?_
  refine a_l5 rfl rfl rfl ?_
  refine a_ic_eq rfl (fun c2809 => ?_) (fun c => absurd (hk) c)
  refine a_l5 rfl rfl rfl ?_
  refine a_if_ne rfl (fun c => absurd c (fun z => z rfl)) (fun c2816 => ?_)
  refine a_l3 rfl rfl rfl ?_
  refine a_s rfl rfl ?_
  refine a_lald rfl (n := 1) rfl ⟨by decide, by decide⟩ ?_
  rw [hL]
  refine a_l6 rfl rfl rfl ?_
  refine a_s rfl rfl ?_
  refine a_s rfl rfl ?_
  refine a_if_eq rfl (fun c2826 => ?_) (fun c => absurd (cmp_self _) c)
  refine a_goto rfl ?_
  exact fin_ok
theorem op_52_1 {xs : Nat → Int32} (hb : inB (xs 2) 0 3 = false) : OpOk xs 2766 := by
  show AW (S1 6 xs) m_L_main 1050 QM XM 599770 7281900 2766 [some (.ref 199), some (.ref 200), some (.ref 420), some (.ref 431), some (.int 0), none, none] [] (hp I0 L0 0 0 432)
  refine a_l1 rfl rfl rfl ?_
  refine a_l0 rfl rfl rfl ?_
  refine a_l4 rfl rfl rfl ?_
  refine a_s rfl rfl ?_
  refine a_s rfl rfl ?_
  refine a_ialdc rfl scr_mem ⟨by decide, by decide⟩ ?_
  refine a_l0 rfl rfl rfl ?_
  refine a_l4 rfl rfl rfl ?_
  refine a_s rfl rfl ?_
  refine a_s rfl rfl ?_
  refine a_ialdc rfl scr_mem ⟨by decide, by decide⟩ ?_
  refine a_l3 rfl rfl rfl ?_
  refine a_callW rfl lL_319 mo_L_log (wx_log_1 (cx_X11_log hb)) rfl rfl rfl rfl (fun v h' hv => ?_) (fun E h' hx => False.elim hx)
  obtain ⟨rfl, I, w1, w2, t, rfl, hz⟩ := hv
  refine a_s5 rfl rfl rfl rfl rfl rfl ?_
  refine a_l2 rfl rfl rfl ?_
  refine a_l0 rfl rfl rfl ?_
  refine a_l4 rfl rfl rfl ?_
  refine a_s rfl rfl ?_
  refine a_s rfl rfl ?_
  refine a_ialdc rfl scr_mem ⟨by decide, by decide⟩ ?_
  refine a_l0 rfl rfl rfl ?_
  refine a_l4 rfl rfl rfl ?_
  refine a_s rfl rfl ?_
  refine a_s rfl rfl ?_
  refine a_ialdc rfl scr_mem ⟨by decide, by decide⟩ ?_
  refine a_callV rfl lL_321 mo_X12_log (rr_X12_log_x hb I _ w1 w2 t hz) rfl rfl rfl ⟨12, _, rfl, rfl, rfl⟩ rfl (fun v h' hv => ?_) (fun E h' hx => False.elim hx)
  obtain ⟨rfl, I', L', w1', w2', t', rfl, hk, hL⟩ := hv
  refine a_s6 rfl rfl rfl rfl rfl rfl ?_
  refine a_l2 rfl rfl rfl ?_
  refine a_eV1 rfl lL_149 mo_X12_thrown (sp_X12_thrown) rfl rfl rfl ⟨12, _, rfl, rfl, rfl⟩ rfl ?_
  refine a_l5 rfl rfl rfl ?_
  refine a_ic_eq rfl (fun c2809 => ?_) (fun c => absurd (hk) c)
  refine a_l5 rfl rfl rfl ?_
  refine a_if_ne rfl (fun c2816 => ?_) (fun c => absurd c (by decide))
  refine a_goto rfl ?_
  exact fin_ok
theorem op_52 {xs : Nat → Int32} : OpOk xs 2766 := by
  cases hb : inB (xs 2) 0 3 with
  | true => exact op_52_0 hb
  | false => exact op_52_1 hb
theorem au_X11_crowd_114 {S : aS} {I : Nat → Nat → Int32} {L : Nat → Nat → Int64} {w1 w2 t : Nat} {x1 x2 x3 : Int32}  (q0 : inB x1 0 15 = false) : SpX S m_X11_crowd 13 [.ref 200, .int x1, .int x2, .int x3] (hp I L w1 w2 t) "java/lang/IndexOutOfBoundsException" (hp I L w1 w2 0) := by
  refine SpX_of ok_X11_crowd rfl rfl ?_
  show AW S m_X11_crowd 13 _ _ 1 6 0 [some (.ref 200), some (.int x1), some (.int x2), some (.int x3), none, none, none] [] (hp I L w1 w2 t)
  refine a_l1 rfl rfl rfl ?_
  exact a_xS rfl lX11_269 mo_X11_needKerb (spx_needKerb (q0)) rfl rfl rfl rfl ⟨rfl, rfl⟩
theorem cx_X11_crowd_1 {S : aS} {x0 x1 x2 : Int32} (q1 : inB x0 0 15 = false) : CThr S m_X11_crowd 13 [.ref 200, .int x0, .int x1, .int x2] "java/lang/IndexOutOfBoundsException" := CThr.of (au_X11_crowd_114  (q1))
theorem au_X12_noKerb_115 {S : aS} {I : Nat → Nat → Int32} {L : Nat → Nat → Int64} {w1 w2 t : Nat} {x0 : Int32}  (q0 : inB x0 0 15 = false) : SpE S m_X12_noKerb 13 [.int x0] (hp I L w1 w2 t) (some (.int 1)) (hp I L w1 w2 t) := by
  refine SpE_of ok_X12_noKerb rfl rfl ?_
  show AW S m_X12_noKerb 13 _ _ 0 0 0 [some (.int x0)] [] (hp I L w1 w2 t)
  refine a_l0 rfl rfl rfl ?_
  refine a_s rfl rfl ?_
  refine a_s rfl rfl ?_
  refine a_eS1 rfl lX12_70 mo_X12_in ((sp_X12_in (x := x0) (a := 0) (b := 15)).cast (r' := some (.int 0)) (by rw [q0]; rfl) rfl) rfl rfl rfl rfl ?_
  refine a_if_ne rfl (fun c => absurd c (by decide)) (fun c7 => ?_)
  refine a_s rfl rfl ?_
  refine a_goto rfl ?_
  exact a_zret rfl rfl rfl ⟨rfl, rfl⟩
theorem au_X12_crowd_116 {S : aS} {I : Nat → Nat → Int32} {L : Nat → Nat → Int64} {w1 w2 t : Nat} {x1 x2 x3 : Int32}  (q0 : inB x1 0 15 = false) : SpE S m_X12_crowd 14 [.ref 420, .int x1, .int x2, .int x3] (hp I L w1 w2 t) (some (.int 0)) (hp (up2 (up2 I 420 0 0) 420 0 1) L w1 w2 t) := by
  refine SpE_of ok_X12_crowd rfl rfl ?_
  show AW S m_X12_crowd 14 _ _ 0 0 0 [some (.ref 420), some (.int x1), some (.int x2), some (.int x3), none, none] [] (hp I L w1 w2 t)
  refine a_l0 rfl rfl rfl ?_
  refine a_s rfl rfl ?_
  refine a_puti rfl pfX12_3_12 rfl ?_
  refine a_l0 rfl rfl rfl ?_
  refine a_l1 rfl rfl rfl ?_
  refine a_eS1 rfl lX12_292 mo_X12_noKerb (au_X12_noKerb_115  (q0)) rfl rfl rfl rfl ?_
  refine a_if_ne rfl (fun c10 => ?_) (fun c => absurd c (by decide))
  refine a_s rfl rfl ?_
  refine a_goto rfl ?_
  refine a_s rfl rfl ?_
  refine a_eV1 rfl lX12_243 mo_X12_throwsIf (au_X12_throwsIf_87  ) rfl rfl rfl ⟨12, _, rfl, rfl, rfl⟩ rfl ?_
  refine a_if_ne rfl (fun c29 => ?_) (fun c => absurd c (by decide))
  refine a_s rfl rfl ?_
  exact a_iret rfl rfl ⟨rfl, rfl⟩
theorem rr_X12_crowd_1 {S : aS} {x0 x1 x2 : Int32} (q1 : inB x0 0 15 = false) : RRet S m_X12_crowd 14 [.ref 420, .int x0, .int x1, .int x2] (some 0) 1 := RRet.of (fun I => up2 (up2 I 420 0 0) 420 0 1) (fun I L w1 w2 t hz => au_X12_crowd_116  (q1)) (fun I hz => rfl)
theorem au_X11_crowd_117 {S : aS} {I : Nat → Nat → Int32} {L : Nat → Nat → Int64} {w1 w2 t : Nat} {x1 x2 x3 : Int32}  (q0 : inB x1 0 15 = true) (q1 : inB x2 0 15 = false) : SpX S m_X11_crowd 13 [.ref 200, .int x1, .int x2, .int x3] (hp I L w1 w2 t) "java/lang/IndexOutOfBoundsException" (hp I L w1 w2 0) := by
  refine SpX_of ok_X11_crowd rfl rfl ?_
  show AW S m_X11_crowd 13 _ _ 1 6 0 [some (.ref 200), some (.int x1), some (.int x2), some (.int x3), none, none, none] [] (hp I L w1 w2 t)
  refine a_l1 rfl rfl rfl ?_
  refine a_eS0 rfl lX11_269 mo_X11_needKerb (sp_needKerb (q0)) rfl rfl rfl rfl ?_
  refine a_l2 rfl rfl rfl ?_
  exact a_xS rfl lX11_269 mo_X11_needKerb (spx_needKerb (q1)) rfl rfl rfl rfl ⟨rfl, rfl⟩
theorem cx_X11_crowd_2 {S : aS} {x0 x1 x2 : Int32} (q1 : inB x0 0 15 = true) (q2 : inB x1 0 15 = false) : CThr S m_X11_crowd 13 [.ref 200, .int x0, .int x1, .int x2] "java/lang/IndexOutOfBoundsException" := CThr.of (au_X11_crowd_117  (q1) (q2))
theorem au_X12_noKerb_118 {S : aS} {I : Nat → Nat → Int32} {L : Nat → Nat → Int64} {w1 w2 t : Nat} {x0 : Int32}  (q0 : inB x0 0 15 = true) : SpE S m_X12_noKerb 13 [.int x0] (hp I L w1 w2 t) (some (.int 0)) (hp I L w1 w2 t) := by
  refine SpE_of ok_X12_noKerb rfl rfl ?_
  show AW S m_X12_noKerb 13 _ _ 0 0 0 [some (.int x0)] [] (hp I L w1 w2 t)
  refine a_l0 rfl rfl rfl ?_
  refine a_s rfl rfl ?_
  refine a_s rfl rfl ?_
  refine a_eS1 rfl lX12_70 mo_X12_in ((sp_X12_in (x := x0) (a := 0) (b := 15)).cast (r' := some (.int 1)) (by rw [q0]; rfl) rfl) rfl rfl rfl rfl ?_
  refine a_if_ne rfl (fun c7 => ?_) (fun c => absurd c (by decide))
  refine a_s rfl rfl ?_
  exact a_zret rfl rfl rfl ⟨rfl, rfl⟩
theorem au_X12_crowd_119 {S : aS} {I : Nat → Nat → Int32} {L : Nat → Nat → Int64} {w1 w2 t : Nat} {x1 x2 x3 : Int32}  (q0 : inB x1 0 15 = true) (q1 : inB x2 0 15 = false) : SpE S m_X12_crowd 14 [.ref 420, .int x1, .int x2, .int x3] (hp I L w1 w2 t) (some (.int 0)) (hp (up2 (up2 I 420 0 0) 420 0 1) L w1 w2 t) := by
  refine SpE_of ok_X12_crowd rfl rfl ?_
  show AW S m_X12_crowd 14 _ _ 0 0 0 [some (.ref 420), some (.int x1), some (.int x2), some (.int x3), none, none] [] (hp I L w1 w2 t)
  refine a_l0 rfl rfl rfl ?_
  refine a_s rfl rfl ?_
  refine a_puti rfl pfX12_3_12 rfl ?_
  refine a_l0 rfl rfl rfl ?_
  refine a_l1 rfl rfl rfl ?_
  refine a_eS1 rfl lX12_292 mo_X12_noKerb (au_X12_noKerb_118  (q0)) rfl rfl rfl rfl ?_
  refine a_if_ne rfl (fun c => absurd c (by decide)) (fun c10 => ?_)
  refine a_l2 rfl rfl rfl ?_
  refine a_eS1 rfl lX12_292 mo_X12_noKerb (au_X12_noKerb_115  (q1)) rfl rfl rfl rfl ?_
  refine a_if_eq rfl (fun c => absurd c (by decide)) (fun c17 => ?_)
  refine a_s rfl rfl ?_
  refine a_goto rfl ?_
  refine a_s rfl rfl ?_
  refine a_eV1 rfl lX12_243 mo_X12_throwsIf (au_X12_throwsIf_87  ) rfl rfl rfl ⟨12, _, rfl, rfl, rfl⟩ rfl ?_
  refine a_if_ne rfl (fun c29 => ?_) (fun c => absurd c (by decide))
  refine a_s rfl rfl ?_
  exact a_iret rfl rfl ⟨rfl, rfl⟩
theorem rr_X12_crowd_2 {S : aS} {x0 x1 x2 : Int32} (q1 : inB x0 0 15 = true) (q2 : inB x1 0 15 = false) : RRet S m_X12_crowd 14 [.ref 420, .int x0, .int x1, .int x2] (some 0) 1 := RRet.of (fun I => up2 (up2 I 420 0 0) 420 0 1) (fun I L w1 w2 t hz => au_X12_crowd_119  (q1) (q2)) (fun I hz => rfl)
theorem au_X11_crowd_120 {S : aS} {I : Nat → Nat → Int32} {L : Nat → Nat → Int64} {w1 w2 t : Nat} {x1 x2 x3 : Int32}  (q0 : inB x1 0 15 = true) (q1 : inB x2 0 15 = true) (q2 : inB x3 0 300 = false) : SpX S m_X11_crowd 13 [.ref 200, .int x1, .int x2, .int x3] (hp I L w1 w2 t) "java/lang/IllegalArgumentException" (hp I L w1 w2 0) := by
  refine SpX_of ok_X11_crowd rfl rfl ?_
  show AW S m_X11_crowd 13 _ _ 1 6 0 [some (.ref 200), some (.int x1), some (.int x2), some (.int x3), none, none, none] [] (hp I L w1 w2 t)
  refine a_l1 rfl rfl rfl ?_
  refine a_eS0 rfl lX11_269 mo_X11_needKerb (sp_needKerb (q0)) rfl rfl rfl rfl ?_
  refine a_l2 rfl rfl rfl ?_
  refine a_eS0 rfl lX11_269 mo_X11_needKerb (sp_needKerb (q1)) rfl rfl rfl rfl ?_
  refine a_l3 rfl rfl rfl ?_
  refine a_s rfl rfl ?_
  refine a_s rfl rfl ?_
  exact a_xS rfl lX11_250 mo_X11_needNumber (spx_needNumber (q2)) rfl rfl rfl rfl ⟨rfl, rfl⟩
theorem cx_X11_crowd_3 {S : aS} {x0 x1 x2 : Int32} (q1 : inB x0 0 15 = true) (q2 : inB x1 0 15 = true) (q3 : inB x2 0 300 = false) : CThr S m_X11_crowd 13 [.ref 200, .int x0, .int x1, .int x2] "java/lang/IllegalArgumentException" := CThr.of (au_X11_crowd_120  (q1) (q2) (q3))
theorem au_X12_noHour_121 {S : aS} {I : Nat → Nat → Int32} {L : Nat → Nat → Int64} {w1 w2 t : Nat} {x0 : Int32}  (q0 : inB x0 0 300 = false) : SpE S m_X12_noHour 13 [.int x0] (hp I L w1 w2 t) (some (.int 1)) (hp I L w1 w2 t) := by
  refine SpE_of ok_X12_noHour rfl rfl ?_
  show AW S m_X12_noHour 13 _ _ 0 0 0 [some (.int x0)] [] (hp I L w1 w2 t)
  refine a_l0 rfl rfl rfl ?_
  refine a_s rfl rfl ?_
  refine a_s rfl rfl ?_
  refine a_eS1 rfl lX12_70 mo_X12_in ((sp_X12_in (x := x0) (a := 0) (b := 300)).cast (r' := some (.int 0)) (by rw [q0]; rfl) rfl) rfl rfl rfl rfl ?_
  refine a_if_ne rfl (fun c => absurd c (by decide)) (fun c8 => ?_)
  refine a_s rfl rfl ?_
  refine a_goto rfl ?_
  exact a_zret rfl rfl rfl ⟨rfl, rfl⟩
theorem au_X12_throwsIf_122 {S : aS} {I : Nat → Nat → Int32} {L : Nat → Nat → Int64} {w1 w2 t : Nat}   : SpE S m_X12_throwsIf 12 [.ref 420, .int 1, .int 2] (hp I L w1 w2 t) (some (.int 1)) (hp (up2 I 420 0 2) L w1 w2 t) := by
  refine SpE_of ok_X12_throwsIf rfl rfl ?_
  show AW S m_X12_throwsIf 12 _ _ 0 0 0 [some (.ref 420), some (.int 1), some (.int 2)] [] (hp I L w1 w2 t)
  refine a_l1 rfl rfl rfl ?_
  refine a_if_eq rfl (fun c => absurd c (by decide)) (fun c1 => ?_)
  refine a_l0 rfl rfl rfl ?_
  refine a_l2 rfl rfl rfl ?_
  refine a_puti rfl pfX12_3_12 rfl ?_
  refine a_l1 rfl rfl rfl ?_
  exact a_zret rfl rfl rfl ⟨rfl, rfl⟩
theorem au_X12_crowd_123 {S : aS} {I : Nat → Nat → Int32} {L : Nat → Nat → Int64} {w1 w2 t : Nat} {x1 x2 x3 : Int32}  (q0 : inB x1 0 15 = true) (q1 : inB x2 0 15 = true) (q2 : inB x3 0 300 = false) : SpE S m_X12_crowd 14 [.ref 420, .int x1, .int x2, .int x3] (hp I L w1 w2 t) (some (.int 0)) (hp (up2 (up2 I 420 0 0) 420 0 2) L w1 w2 t) := by
  refine SpE_of ok_X12_crowd rfl rfl ?_
  show AW S m_X12_crowd 14 _ _ 0 0 0 [some (.ref 420), some (.int x1), some (.int x2), some (.int x3), none, none] [] (hp I L w1 w2 t)
  refine a_l0 rfl rfl rfl ?_
  refine a_s rfl rfl ?_
  refine a_puti rfl pfX12_3_12 rfl ?_
  refine a_l0 rfl rfl rfl ?_
  refine a_l1 rfl rfl rfl ?_
  refine a_eS1 rfl lX12_292 mo_X12_noKerb (au_X12_noKerb_118  (q0)) rfl rfl rfl rfl ?_
  refine a_if_ne rfl (fun c => absurd c (by decide)) (fun c10 => ?_)
  refine a_l2 rfl rfl rfl ?_
  refine a_eS1 rfl lX12_292 mo_X12_noKerb (au_X12_noKerb_118  (q1)) rfl rfl rfl rfl ?_
  refine a_if_eq rfl (fun c17 => ?_) (fun c => absurd (by decide) c)
  refine a_s rfl rfl ?_
  refine a_s rfl rfl ?_
  refine a_eV1 rfl lX12_243 mo_X12_throwsIf (au_X12_throwsIf_32  ) rfl rfl rfl ⟨12, _, rfl, rfl, rfl⟩ rfl ?_
  refine a_if_ne rfl (fun c => absurd c (by decide)) (fun c29 => ?_)
  refine a_l0 rfl rfl rfl ?_
  refine a_l3 rfl rfl rfl ?_
  refine a_eS1 rfl lX12_298 mo_X12_noHour (au_X12_noHour_121  (q2)) rfl rfl rfl rfl ?_
  refine a_if_ne rfl (fun c37 => ?_) (fun c => absurd c (by decide))
  refine a_s rfl rfl ?_
  refine a_goto rfl ?_
  refine a_s rfl rfl ?_
  refine a_eV1 rfl lX12_243 mo_X12_throwsIf (au_X12_throwsIf_122  ) rfl rfl rfl ⟨12, _, rfl, rfl, rfl⟩ rfl ?_
  refine a_if_eq rfl (fun c => absurd c (by decide)) (fun c54 => ?_)
  refine a_s rfl rfl ?_
  exact a_iret rfl rfl ⟨rfl, rfl⟩
theorem rr_X12_crowd_3 {S : aS} {x0 x1 x2 : Int32} (q1 : inB x0 0 15 = true) (q2 : inB x1 0 15 = true) (q3 : inB x2 0 300 = false) : RRet S m_X12_crowd 14 [.ref 420, .int x0, .int x1, .int x2] (some 0) 2 := RRet.of (fun I => up2 (up2 I 420 0 0) 420 0 2) (fun I L w1 w2 t hz => au_X12_crowd_123  (q1) (q2) (q3)) (fun I hz => rfl)
theorem au_X11_crowd_124 {S : aS} {I : Nat → Nat → Int32} {L : Nat → Nat → Int64} {w1 w2 t : Nat} {x1 x2 x3 : Int32}  (q0 : inB x1 0 15 = true) (q1 : inB x2 0 15 = true) (q2 : inB x3 0 300 = true) (q3 : inB x1 0 x2 = false) : SpX S m_X11_crowd 13 [.ref 200, .int x1, .int x2, .int x3] (hp I L w1 w2 t) "java/lang/IllegalArgumentException" (hp I L w1 w2 0) := by
  refine SpX_of ok_X11_crowd rfl rfl ?_
  show AW S m_X11_crowd 13 _ _ 1 6 0 [some (.ref 200), some (.int x1), some (.int x2), some (.int x3), none, none, none] [] (hp I L w1 w2 t)
  refine a_l1 rfl rfl rfl ?_
  refine a_eS0 rfl lX11_269 mo_X11_needKerb (sp_needKerb (q0)) rfl rfl rfl rfl ?_
  refine a_l2 rfl rfl rfl ?_
  refine a_eS0 rfl lX11_269 mo_X11_needKerb (sp_needKerb (q1)) rfl rfl rfl rfl ?_
  refine a_l3 rfl rfl rfl ?_
  refine a_s rfl rfl ?_
  refine a_s rfl rfl ?_
  refine a_eS0 rfl lX11_250 mo_X11_needNumber (sp_needNumber (q2)) rfl rfl rfl rfl ?_
  refine a_l1 rfl rfl rfl ?_
  refine a_s rfl rfl ?_
  refine a_l2 rfl rfl rfl ?_
  exact a_xS rfl lX11_250 mo_X11_needNumber (spx_needNumber (q3)) rfl rfl rfl rfl ⟨rfl, rfl⟩
theorem cx_X11_crowd_4 {S : aS} {x0 x1 x2 : Int32} (q1 : inB x0 0 15 = true) (q2 : inB x1 0 15 = true) (q3 : inB x2 0 300 = true) (q4 : inB x0 0 x1 = false) : CThr S m_X11_crowd 13 [.ref 200, .int x0, .int x1, .int x2] "java/lang/IllegalArgumentException" := CThr.of (au_X11_crowd_124  (q1) (q2) (q3) (q4))
theorem au_X12_noHour_125 {S : aS} {I : Nat → Nat → Int32} {L : Nat → Nat → Int64} {w1 w2 t : Nat} {x0 : Int32}  (q0 : inB x0 0 300 = true) : SpE S m_X12_noHour 13 [.int x0] (hp I L w1 w2 t) (some (.int 0)) (hp I L w1 w2 t) := by
  refine SpE_of ok_X12_noHour rfl rfl ?_
  show AW S m_X12_noHour 13 _ _ 0 0 0 [some (.int x0)] [] (hp I L w1 w2 t)
  refine a_l0 rfl rfl rfl ?_
  refine a_s rfl rfl ?_
  refine a_s rfl rfl ?_
  refine a_eS1 rfl lX12_70 mo_X12_in ((sp_X12_in (x := x0) (a := 0) (b := 300)).cast (r' := some (.int 1)) (by rw [q0]; rfl) rfl) rfl rfl rfl rfl ?_
  refine a_if_ne rfl (fun c8 => ?_) (fun c => absurd c (by decide))
  refine a_s rfl rfl ?_
  exact a_zret rfl rfl rfl ⟨rfl, rfl⟩
theorem au_X12_crowd_126 {S : aS} {I : Nat → Nat → Int32} {L : Nat → Nat → Int64} {w1 w2 t : Nat} {x1 x2 x3 : Int32}  (q0 : inB x1 0 15 = true) (q1 : inB x2 0 15 = true) (q2 : inB x3 0 300 = true) (q3 : ¬ x1 ≤ x2) : SpE S m_X12_crowd 14 [.ref 420, .int x1, .int x2, .int x3] (hp I L w1 w2 t) (some (.int 0)) (hp (up2 (up2 I 420 0 0) 420 0 2) L w1 w2 t) := by
  refine SpE_of ok_X12_crowd rfl rfl ?_
  show AW S m_X12_crowd 14 _ _ 0 0 0 [some (.ref 420), some (.int x1), some (.int x2), some (.int x3), none, none] [] (hp I L w1 w2 t)
  refine a_l0 rfl rfl rfl ?_
  refine a_s rfl rfl ?_
  refine a_puti rfl pfX12_3_12 rfl ?_
  refine a_l0 rfl rfl rfl ?_
  refine a_l1 rfl rfl rfl ?_
  refine a_eS1 rfl lX12_292 mo_X12_noKerb (au_X12_noKerb_118  (q0)) rfl rfl rfl rfl ?_
  refine a_if_ne rfl (fun c => absurd c (by decide)) (fun c10 => ?_)
  refine a_l2 rfl rfl rfl ?_
  refine a_eS1 rfl lX12_292 mo_X12_noKerb (au_X12_noKerb_118  (q1)) rfl rfl rfl rfl ?_
  refine a_if_eq rfl (fun c17 => ?_) (fun c => absurd (by decide) c)
  refine a_s rfl rfl ?_
  refine a_s rfl rfl ?_
  refine a_eV1 rfl lX12_243 mo_X12_throwsIf (au_X12_throwsIf_32  ) rfl rfl rfl ⟨12, _, rfl, rfl, rfl⟩ rfl ?_
  refine a_if_ne rfl (fun c => absurd c (by decide)) (fun c29 => ?_)
  refine a_l0 rfl rfl rfl ?_
  refine a_l3 rfl rfl rfl ?_
  refine a_eS1 rfl lX12_298 mo_X12_noHour (au_X12_noHour_125  (q2)) rfl rfl rfl rfl ?_
  refine a_if_ne rfl (fun c => absurd c (by decide)) (fun c37 => ?_)
  refine a_l1 rfl rfl rfl ?_
  refine a_l2 rfl rfl rfl ?_
  refine a_ic_le rfl (fun c => absurd c (q3)) (fun c42 => ?_)
  refine a_s rfl rfl ?_
  refine a_goto rfl ?_
  refine a_s rfl rfl ?_
  refine a_eV1 rfl lX12_243 mo_X12_throwsIf (au_X12_throwsIf_122  ) rfl rfl rfl ⟨12, _, rfl, rfl, rfl⟩ rfl ?_
  refine a_if_eq rfl (fun c => absurd c (by decide)) (fun c54 => ?_)
  refine a_s rfl rfl ?_
  exact a_iret rfl rfl ⟨rfl, rfl⟩
theorem rr_X12_crowd_4 {S : aS} {x0 x1 x2 : Int32} (q1 : inB x0 0 15 = true) (q2 : inB x1 0 15 = true) (q3 : inB x2 0 300 = true) (q4 : inB x0 0 x1 = false) : RRet S m_X12_crowd 14 [.ref 420, .int x0, .int x1, .int x2] (some 0) 2 := RRet.of (fun I => up2 (up2 I 420 0 0) 420 0 2) (fun I L w1 w2 t hz => au_X12_crowd_126  (q1) (q2) (q3) (inB_ge q1 q4)) (fun I hz => rfl)
theorem au_X11_crowd_127 {S : aS} {I : Nat → Nat → Int32} {L : Nat → Nat → Int64} {w1 w2 t : Nat} {x1 x2 x3 : Int32} (h235_3 : I 235 3 = 0) (q0 : inB x1 0 15 = true) (q1 : inB x2 0 15 = true) (q2 : inB x3 0 300 = true) (q3 : inB x1 0 x2 = true) : SpE S m_X11_crowd 13 [.ref 200, .int x1, .int x2, .int x3] (hp I L w1 w2 t) (some (.int 0)) (hp I L w1 w2 t) := by
  refine SpE_of ok_X11_crowd rfl rfl ?_
  show AW S m_X11_crowd 13 _ _ 0 0 0 [some (.ref 200), some (.int x1), some (.int x2), some (.int x3), none, none, none] [] (hp I L w1 w2 t)
  refine a_l1 rfl rfl rfl ?_
  refine a_eS0 rfl lX11_269 mo_X11_needKerb (sp_needKerb (q0)) rfl rfl rfl rfl ?_
  refine a_l2 rfl rfl rfl ?_
  refine a_eS0 rfl lX11_269 mo_X11_needKerb (sp_needKerb (q1)) rfl rfl rfl rfl ?_
  refine a_l3 rfl rfl rfl ?_
  refine a_s rfl rfl ?_
  refine a_s rfl rfl ?_
  refine a_eS0 rfl lX11_250 mo_X11_needNumber (sp_needNumber (q2)) rfl rfl rfl rfl ?_
  refine a_l1 rfl rfl rfl ?_
  refine a_s rfl rfl ?_
  refine a_l2 rfl rfl rfl ?_
  refine a_eS0 rfl lX11_250 mo_X11_needNumber (sp_needNumber (q3)) rfl rfl rfl rfl ?_
  refine a_s rfl rfl ?_
  refine a_s4 rfl rfl rfl rfl rfl rfl ?_
  refine a_s rfl rfl ?_
  refine a_s5 rfl rfl rfl rfl rfl rfl ?_
  refine a_l5 rfl rfl rfl ?_
  refine a_l0 rfl rfl rfl ?_
  refine a_getq rfl gfX11_37_11 rfl rfl ?_
  refine a_getiv (v := 0) rfl gfX11_182_5 rfl h235_3 ?_
  refine a_ic_ge rfl (fun c37 => ?_) (fun c => absurd (by decide) c)
  refine a_l4 rfl rfl rfl ?_
  exact a_iret rfl rfl ⟨rfl, rfl⟩
theorem cr_X11_crowd_5 {S : aS} {x0 x1 x2 : Int32} (q1 : inB x0 0 15 = true) (q2 : inB x1 0 15 = true) (q3 : inB x2 0 300 = true) (q4 : inB x0 0 x1 = true) : CRet S m_X11_crowd 13 [.ref 200, .int x0, .int x1, .int x2] (some 0) := CRet.of (au_X11_crowd_127 I0_235_3 (q1) (q2) (q3) (q4)) (fun _ _ => rfl)
theorem au_X12_crowd_128 {S : aS} {I : Nat → Nat → Int32} {L : Nat → Nat → Int64} {w1 w2 t : Nat} {x1 x2 x3 : Int32} (h421_1 : I 421 1 = 0) (q0 : inB x1 0 15 = true) (q1 : inB x2 0 15 = true) (q2 : inB x3 0 300 = true) (q3 : x1 ≤ x2) : SpE S m_X12_crowd 14 [.ref 420, .int x1, .int x2, .int x3] (hp I L w1 w2 t) (some (.int 0)) (hp (up2 I 420 0 0) L w1 w2 t) := by
  refine SpE_of ok_X12_crowd rfl rfl ?_
  show AW S m_X12_crowd 14 _ _ 0 0 0 [some (.ref 420), some (.int x1), some (.int x2), some (.int x3), none, none] [] (hp I L w1 w2 t)
  refine a_l0 rfl rfl rfl ?_
  refine a_s rfl rfl ?_
  refine a_puti rfl pfX12_3_12 rfl ?_
  refine a_l0 rfl rfl rfl ?_
  refine a_l1 rfl rfl rfl ?_
  refine a_eS1 rfl lX12_292 mo_X12_noKerb (au_X12_noKerb_118  (q0)) rfl rfl rfl rfl ?_
  refine a_if_ne rfl (fun c => absurd c (by decide)) (fun c10 => ?_)
  refine a_l2 rfl rfl rfl ?_
  refine a_eS1 rfl lX12_292 mo_X12_noKerb (au_X12_noKerb_118  (q1)) rfl rfl rfl rfl ?_
  refine a_if_eq rfl (fun c17 => ?_) (fun c => absurd (by decide) c)
  refine a_s rfl rfl ?_
  refine a_s rfl rfl ?_
  refine a_eV1 rfl lX12_243 mo_X12_throwsIf (au_X12_throwsIf_32  ) rfl rfl rfl ⟨12, _, rfl, rfl, rfl⟩ rfl ?_
  refine a_if_ne rfl (fun c => absurd c (by decide)) (fun c29 => ?_)
  refine a_l0 rfl rfl rfl ?_
  refine a_l3 rfl rfl rfl ?_
  refine a_eS1 rfl lX12_298 mo_X12_noHour (au_X12_noHour_125  (q2)) rfl rfl rfl rfl ?_
  refine a_if_ne rfl (fun c => absurd c (by decide)) (fun c37 => ?_)
  refine a_l1 rfl rfl rfl ?_
  refine a_l2 rfl rfl rfl ?_
  refine a_ic_le rfl (fun c42 => ?_) (fun c => absurd (q3) c)
  refine a_s rfl rfl ?_
  refine a_s rfl rfl ?_
  refine a_eV1 rfl lX12_243 mo_X12_throwsIf (au_X12_throwsIf_56  ) rfl rfl rfl ⟨12, _, rfl, rfl, rfl⟩ rfl ?_
  refine a_if_eq rfl (fun c54 => ?_) (fun c => absurd (by decide) c)
  refine a_s rfl rfl ?_
  refine a_s4 rfl rfl rfl rfl rfl rfl ?_
  refine a_s rfl rfl ?_
  refine a_s5 rfl rfl rfl rfl rfl rfl ?_
  refine a_l5 rfl rfl rfl ?_
  refine a_l0 rfl rfl rfl ?_
  refine a_eV1 rfl lX12_74 mo_X12_duties (au_X12_duties_4 h421_1 ) rfl rfl rfl ⟨12, _, rfl, rfl, rfl⟩ rfl ?_
  refine a_ic_ge rfl (fun c71 => ?_) (fun c => absurd (by decide) c)
  refine a_l4 rfl rfl rfl ?_
  exact a_iret rfl rfl ⟨rfl, rfl⟩
theorem rr_X12_crowd_5 {S : aS} {x0 x1 x2 : Int32} (q1 : inB x0 0 15 = true) (q2 : inB x1 0 15 = true) (q3 : inB x2 0 300 = true) (q4 : inB x0 0 x1 = true) : RRet S m_X12_crowd 14 [.ref 420, .int x0, .int x1, .int x2] (some 0) 0 := RRet.of (fun I => up2 I 420 0 0) (fun I L w1 w2 t hz => au_X12_crowd_128 (hz.at rfl I0_421_1) (q1) (q2) (q3) (inB_hi q4)) (fun I hz => rfl)
theorem w_crowd {S : aS} {x0 x1 x2 : Int32} {r : Int32} (h : CRet S m_X11_crowd 13 [.ref 200, .int x0, .int x1, .int x2] (some r)) : Sp S m_L_crowd 14 0 0 [.ref 200, .int x0, .int x1, .int x2, .ref 431] (hp I0 L0 0 0 432) (QW r) (fun _ _ => False) := by
  refine Sp_of ok_L_crowd rfl rfl ?_
  show AW S m_L_crowd 14 _ _ 0 0 0 [some (.ref 200), some (.int x0), some (.int x1), some (.int x2), some (.ref 431), none] [] (hp I0 L0 0 0 432)
  refine a_l4 rfl rfl rfl ?_
  refine a_s rfl rfl ?_
  refine a_l0 rfl rfl rfl ?_
  refine a_l1 rfl rfl rfl ?_
  refine a_l2 rfl rfl rfl ?_
  refine a_l3 rfl rfl rfl ?_
  refine a_callVc rfl lL_64 mo_X11_crowd h rfl rfl rfl ⟨11, _, rfl, rfl, rfl⟩ (fun v h' hv => ?_) (fun E h' hx => False.elim hx)
  obtain ⟨rfl, I, w1, w2, t, rfl, hz⟩ := hv
  refine a_s rfl rfl ?_
  refine a_last rfl (n := 1) rfl ⟨by decide, by decide⟩ ?_
  refine a_goto rfl ?_
  refine a_s rfl rfl ?_
  exact a_iret rfl rfl ⟨rfl, I, w1, w2, t, rfl, hz⟩
theorem wx_crowd_1 {xs : Nat → Int32} {x0 x1 x2 : Int32} (h : CThr (S1 6 xs) m_X11_crowd 13 [.ref 200, .int x0, .int x1, .int x2] "java/lang/IndexOutOfBoundsException") : Sp (S1 6 xs) m_L_crowd 14 1 6 [.ref 200, .int x0, .int x1, .int x2, .ref 431] (hp I0 L0 0 0 432) (QX 1) (fun _ _ => False) := by
  refine Sp_of ok_L_crowd rfl rfl ?_
  show AW (S1 6 xs) m_L_crowd 14 _ _ 1 6 0 [some (.ref 200), some (.int x0), some (.int x1), some (.int x2), some (.ref 431), none] [] (hp I0 L0 0 0 432)
  refine a_l4 rfl rfl rfl ?_
  refine a_s rfl rfl ?_
  refine a_l0 rfl rfl rfl ?_
  refine a_l1 rfl rfl rfl ?_
  refine a_l2 rfl rfl rfl ?_
  refine a_l3 rfl rfl rfl ?_
  refine a_callVc rfl lL_64 mo_X11_crowd h rfl rfl rfl ⟨11, _, rfl, rfl, rfl⟩ (fun v h' hv => False.elim hv) (fun E h' hx => ?_)
  obtain ⟨rfl, I, w1, w2, t, rfl, hz⟩ := hx
  refine ⟨15, _, _, _, _, 5, tk_24 rfl (by decide) (by decide), rfl, rfl, by decide, ?_⟩
  refine a_s rfl rfl ?_
  exact a_iret rfl rfl ⟨rfl, I, w1, w2, t, rfl, hz⟩
theorem wx_crowd_2 {xs : Nat → Int32} {x0 x1 x2 : Int32} (h : CThr (S1 6 xs) m_X11_crowd 13 [.ref 200, .int x0, .int x1, .int x2] "java/lang/IllegalArgumentException") : Sp (S1 6 xs) m_L_crowd 14 1 6 [.ref 200, .int x0, .int x1, .int x2, .ref 431] (hp I0 L0 0 0 432) (QX 2) (fun _ _ => False) := by
  refine Sp_of ok_L_crowd rfl rfl ?_
  show AW (S1 6 xs) m_L_crowd 14 _ _ 1 6 0 [some (.ref 200), some (.int x0), some (.int x1), some (.int x2), some (.ref 431), none] [] (hp I0 L0 0 0 432)
  refine a_l4 rfl rfl rfl ?_
  refine a_s rfl rfl ?_
  refine a_l0 rfl rfl rfl ?_
  refine a_l1 rfl rfl rfl ?_
  refine a_l2 rfl rfl rfl ?_
  refine a_l3 rfl rfl rfl ?_
  refine a_callVc rfl lL_64 mo_X11_crowd h rfl rfl rfl ⟨11, _, rfl, rfl, rfl⟩ (fun v h' hv => False.elim hv) (fun E h' hx => ?_)
  obtain ⟨rfl, I, w1, w2, t, rfl, hz⟩ := hx
  refine ⟨19, _, _, _, _, 5, tn_24 rfl (by decide) (by decide) (show ("java/lang/IllegalArgumentException", "java/lang/IndexOutOfBoundsException") ∈ ncs by decide +kernel) (tk_13 rfl (by decide) (by decide)), rfl, rfl, by decide, ?_⟩
  refine a_s rfl rfl ?_
  exact a_iret rfl rfl ⟨rfl, I, w1, w2, t, rfl, hz⟩
theorem op_19_1 {xs : Nat → Int32} (q1 : inB (xs 1) 0 15 = false) : OpOk xs 1281 := by
  show AW (S1 6 xs) m_L_main 1050 QM XM 599770 7281900 1281 [some (.ref 199), some (.ref 200), some (.ref 420), some (.ref 431), some (.int 0), none, none] [] (hp I0 L0 0 0 432)
  refine a_l1 rfl rfl rfl ?_
  refine a_l0 rfl rfl rfl ?_
  refine a_l4 rfl rfl rfl ?_
  refine a_s rfl rfl ?_
  refine a_s rfl rfl ?_
  refine a_ialdc rfl scr_mem ⟨by decide, by decide⟩ ?_
  refine a_l0 rfl rfl rfl ?_
  refine a_l4 rfl rfl rfl ?_
  refine a_s rfl rfl ?_
  refine a_s rfl rfl ?_
  refine a_ialdc rfl scr_mem ⟨by decide, by decide⟩ ?_
  refine a_l0 rfl rfl rfl ?_
  refine a_l4 rfl rfl rfl ?_
  refine a_s rfl rfl ?_
  refine a_s rfl rfl ?_
  refine a_ialdc rfl scr_mem ⟨by decide, by decide⟩ ?_
  refine a_l3 rfl rfl rfl ?_
  refine a_callW rfl lL_205 mo_L_crowd (wx_crowd_1 (cx_X11_crowd_1 q1)) rfl rfl rfl rfl (fun v h' hv => ?_) (fun E h' hx => False.elim hx)
  obtain ⟨rfl, I, w1, w2, t, rfl, hz⟩ := hv
  refine a_s5 rfl rfl rfl rfl rfl rfl ?_
  refine a_l2 rfl rfl rfl ?_
  refine a_l0 rfl rfl rfl ?_
  refine a_l4 rfl rfl rfl ?_
  refine a_s rfl rfl ?_
  refine a_s rfl rfl ?_
  refine a_ialdc rfl scr_mem ⟨by decide, by decide⟩ ?_
  refine a_l0 rfl rfl rfl ?_
  refine a_l4 rfl rfl rfl ?_
  refine a_s rfl rfl ?_
  refine a_s rfl rfl ?_
  refine a_ialdc rfl scr_mem ⟨by decide, by decide⟩ ?_
  refine a_l0 rfl rfl rfl ?_
  refine a_l4 rfl rfl rfl ?_
  refine a_s rfl rfl ?_
  refine a_s rfl rfl ?_
  refine a_ialdc rfl scr_mem ⟨by decide, by decide⟩ ?_
  refine a_callV rfl lL_208 mo_X12_crowd (rr_X12_crowd_1 q1 I _ w1 w2 t hz) rfl rfl rfl ⟨12, _, rfl, rfl, rfl⟩ rfl (fun v h' hv => ?_) (fun E h' hx => False.elim hx)
  obtain ⟨rfl, I', L', w1', w2', t', rfl, hk, hL⟩ := hv
  refine a_s6 rfl rfl rfl rfl rfl rfl ?_
  refine a_l2 rfl rfl rfl ?_
  refine a_eV1 rfl lL_149 mo_X12_thrown (sp_X12_thrown) rfl rfl rfl ⟨12, _, rfl, rfl, rfl⟩ rfl ?_
  refine a_l5 rfl rfl rfl ?_
  refine a_ic_eq rfl (fun c1336 => ?_) (fun c => absurd (hk) c)
  refine a_l5 rfl rfl rfl ?_
  refine a_if_ne rfl (fun c1343 => ?_) (fun c => absurd c (by decide))
  refine a_goto rfl ?_
  exact fin_ok
theorem op_19_2 {xs : Nat → Int32} (q1 : inB (xs 1) 0 15 = true) (q2 : inB (xs 2) 0 15 = false) : OpOk xs 1281 := by
  show AW (S1 6 xs) m_L_main 1050 QM XM 599770 7281900 1281 [some (.ref 199), some (.ref 200), some (.ref 420), some (.ref 431), some (.int 0), none, none] [] (hp I0 L0 0 0 432)
  refine a_l1 rfl rfl rfl ?_
  refine a_l0 rfl rfl rfl ?_
  refine a_l4 rfl rfl rfl ?_
  refine a_s rfl rfl ?_
  refine a_s rfl rfl ?_
  refine a_ialdc rfl scr_mem ⟨by decide, by decide⟩ ?_
  refine a_l0 rfl rfl rfl ?_
  refine a_l4 rfl rfl rfl ?_
  refine a_s rfl rfl ?_
  refine a_s rfl rfl ?_
  refine a_ialdc rfl scr_mem ⟨by decide, by decide⟩ ?_
  refine a_l0 rfl rfl rfl ?_
  refine a_l4 rfl rfl rfl ?_
  refine a_s rfl rfl ?_
  refine a_s rfl rfl ?_
  refine a_ialdc rfl scr_mem ⟨by decide, by decide⟩ ?_
  refine a_l3 rfl rfl rfl ?_
  refine a_callW rfl lL_205 mo_L_crowd (wx_crowd_1 (cx_X11_crowd_2 q1 q2)) rfl rfl rfl rfl (fun v h' hv => ?_) (fun E h' hx => False.elim hx)
  obtain ⟨rfl, I, w1, w2, t, rfl, hz⟩ := hv
  refine a_s5 rfl rfl rfl rfl rfl rfl ?_
  refine a_l2 rfl rfl rfl ?_
  refine a_l0 rfl rfl rfl ?_
  refine a_l4 rfl rfl rfl ?_
  refine a_s rfl rfl ?_
  refine a_s rfl rfl ?_
  refine a_ialdc rfl scr_mem ⟨by decide, by decide⟩ ?_
  refine a_l0 rfl rfl rfl ?_
  refine a_l4 rfl rfl rfl ?_
  refine a_s rfl rfl ?_
  refine a_s rfl rfl ?_
  refine a_ialdc rfl scr_mem ⟨by decide, by decide⟩ ?_
  refine a_l0 rfl rfl rfl ?_
  refine a_l4 rfl rfl rfl ?_
  refine a_s rfl rfl ?_
  refine a_s rfl rfl ?_
  refine a_ialdc rfl scr_mem ⟨by decide, by decide⟩ ?_
  refine a_callV rfl lL_208 mo_X12_crowd (rr_X12_crowd_2 q1 q2 I _ w1 w2 t hz) rfl rfl rfl ⟨12, _, rfl, rfl, rfl⟩ rfl (fun v h' hv => ?_) (fun E h' hx => False.elim hx)
  obtain ⟨rfl, I', L', w1', w2', t', rfl, hk, hL⟩ := hv
  refine a_s6 rfl rfl rfl rfl rfl rfl ?_
  refine a_l2 rfl rfl rfl ?_
  refine a_eV1 rfl lL_149 mo_X12_thrown (sp_X12_thrown) rfl rfl rfl ⟨12, _, rfl, rfl, rfl⟩ rfl ?_
  refine a_l5 rfl rfl rfl ?_
  refine a_ic_eq rfl (fun c1336 => ?_) (fun c => absurd (hk) c)
  refine a_l5 rfl rfl rfl ?_
  refine a_if_ne rfl (fun c1343 => ?_) (fun c => absurd c (by decide))
  refine a_goto rfl ?_
  exact fin_ok
theorem op_19_3 {xs : Nat → Int32} (q1 : inB (xs 1) 0 15 = true) (q2 : inB (xs 2) 0 15 = true) (q3 : inB (xs 3) 0 300 = false) : OpOk xs 1281 := by
  show AW (S1 6 xs) m_L_main 1050 QM XM 599770 7281900 1281 [some (.ref 199), some (.ref 200), some (.ref 420), some (.ref 431), some (.int 0), none, none] [] (hp I0 L0 0 0 432)
  refine a_l1 rfl rfl rfl ?_
  refine a_l0 rfl rfl rfl ?_
  refine a_l4 rfl rfl rfl ?_
  refine a_s rfl rfl ?_
  refine a_s rfl rfl ?_
  refine a_ialdc rfl scr_mem ⟨by decide, by decide⟩ ?_
  refine a_l0 rfl rfl rfl ?_
  refine a_l4 rfl rfl rfl ?_
  refine a_s rfl rfl ?_
  refine a_s rfl rfl ?_
  refine a_ialdc rfl scr_mem ⟨by decide, by decide⟩ ?_
  refine a_l0 rfl rfl rfl ?_
  refine a_l4 rfl rfl rfl ?_
  refine a_s rfl rfl ?_
  refine a_s rfl rfl ?_
  refine a_ialdc rfl scr_mem ⟨by decide, by decide⟩ ?_
  refine a_l3 rfl rfl rfl ?_
  refine a_callW rfl lL_205 mo_L_crowd (wx_crowd_2 (cx_X11_crowd_3 q1 q2 q3)) rfl rfl rfl rfl (fun v h' hv => ?_) (fun E h' hx => False.elim hx)
  obtain ⟨rfl, I, w1, w2, t, rfl, hz⟩ := hv
  refine a_s5 rfl rfl rfl rfl rfl rfl ?_
  refine a_l2 rfl rfl rfl ?_
  refine a_l0 rfl rfl rfl ?_
  refine a_l4 rfl rfl rfl ?_
  refine a_s rfl rfl ?_
  refine a_s rfl rfl ?_
  refine a_ialdc rfl scr_mem ⟨by decide, by decide⟩ ?_
  refine a_l0 rfl rfl rfl ?_
  refine a_l4 rfl rfl rfl ?_
  refine a_s rfl rfl ?_
  refine a_s rfl rfl ?_
  refine a_ialdc rfl scr_mem ⟨by decide, by decide⟩ ?_
  refine a_l0 rfl rfl rfl ?_
  refine a_l4 rfl rfl rfl ?_
  refine a_s rfl rfl ?_
  refine a_s rfl rfl ?_
  refine a_ialdc rfl scr_mem ⟨by decide, by decide⟩ ?_
  refine a_callV rfl lL_208 mo_X12_crowd (rr_X12_crowd_3 q1 q2 q3 I _ w1 w2 t hz) rfl rfl rfl ⟨12, _, rfl, rfl, rfl⟩ rfl (fun v h' hv => ?_) (fun E h' hx => False.elim hx)
  obtain ⟨rfl, I', L', w1', w2', t', rfl, hk, hL⟩ := hv
  refine a_s6 rfl rfl rfl rfl rfl rfl ?_
  refine a_l2 rfl rfl rfl ?_
  refine a_eV1 rfl lL_149 mo_X12_thrown (sp_X12_thrown) rfl rfl rfl ⟨12, _, rfl, rfl, rfl⟩ rfl ?_
  refine a_l5 rfl rfl rfl ?_
  refine a_ic_eq rfl (fun c1336 => ?_) (fun c => absurd (hk) c)
  refine a_l5 rfl rfl rfl ?_
  refine a_if_ne rfl (fun c1343 => ?_) (fun c => absurd c (by decide))
  refine a_goto rfl ?_
  exact fin_ok
theorem op_19_4 {xs : Nat → Int32} (q1 : inB (xs 1) 0 15 = true) (q2 : inB (xs 2) 0 15 = true) (q3 : inB (xs 3) 0 300 = true) (q4 : inB (xs 1) 0 (xs 2) = false) : OpOk xs 1281 := by
  show AW (S1 6 xs) m_L_main 1050 QM XM 599770 7281900 1281 [some (.ref 199), some (.ref 200), some (.ref 420), some (.ref 431), some (.int 0), none, none] [] (hp I0 L0 0 0 432)
  refine a_l1 rfl rfl rfl ?_
  refine a_l0 rfl rfl rfl ?_
  refine a_l4 rfl rfl rfl ?_
  refine a_s rfl rfl ?_
  refine a_s rfl rfl ?_
  refine a_ialdc rfl scr_mem ⟨by decide, by decide⟩ ?_
  refine a_l0 rfl rfl rfl ?_
  refine a_l4 rfl rfl rfl ?_
  refine a_s rfl rfl ?_
  refine a_s rfl rfl ?_
  refine a_ialdc rfl scr_mem ⟨by decide, by decide⟩ ?_
  refine a_l0 rfl rfl rfl ?_
  refine a_l4 rfl rfl rfl ?_
  refine a_s rfl rfl ?_
  refine a_s rfl rfl ?_
  refine a_ialdc rfl scr_mem ⟨by decide, by decide⟩ ?_
  refine a_l3 rfl rfl rfl ?_
  refine a_callW rfl lL_205 mo_L_crowd (wx_crowd_2 (cx_X11_crowd_4 q1 q2 q3 q4)) rfl rfl rfl rfl (fun v h' hv => ?_) (fun E h' hx => False.elim hx)
  obtain ⟨rfl, I, w1, w2, t, rfl, hz⟩ := hv
  refine a_s5 rfl rfl rfl rfl rfl rfl ?_
  refine a_l2 rfl rfl rfl ?_
  refine a_l0 rfl rfl rfl ?_
  refine a_l4 rfl rfl rfl ?_
  refine a_s rfl rfl ?_
  refine a_s rfl rfl ?_
  refine a_ialdc rfl scr_mem ⟨by decide, by decide⟩ ?_
  refine a_l0 rfl rfl rfl ?_
  refine a_l4 rfl rfl rfl ?_
  refine a_s rfl rfl ?_
  refine a_s rfl rfl ?_
  refine a_ialdc rfl scr_mem ⟨by decide, by decide⟩ ?_
  refine a_l0 rfl rfl rfl ?_
  refine a_l4 rfl rfl rfl ?_
  refine a_s rfl rfl ?_
  refine a_s rfl rfl ?_
  refine a_ialdc rfl scr_mem ⟨by decide, by decide⟩ ?_
  refine a_callV rfl lL_208 mo_X12_crowd (rr_X12_crowd_4 q1 q2 q3 q4 I _ w1 w2 t hz) rfl rfl rfl ⟨12, _, rfl, rfl, rfl⟩ rfl (fun v h' hv => ?_) (fun E h' hx => False.elim hx)
  obtain ⟨rfl, I', L', w1', w2', t', rfl, hk, hL⟩ := hv
  refine a_s6 rfl rfl rfl rfl rfl rfl ?_
  refine a_l2 rfl rfl rfl ?_
  refine a_eV1 rfl lL_149 mo_X12_thrown (sp_X12_thrown) rfl rfl rfl ⟨12, _, rfl, rfl, rfl⟩ rfl ?_
  refine a_l5 rfl rfl rfl ?_
  refine a_ic_eq rfl (fun c1336 => ?_) (fun c => absurd (hk) c)
  refine a_l5 rfl rfl rfl ?_
  refine a_if_ne rfl (fun c1343 => ?_) (fun c => absurd c (by decide))
  refine a_goto rfl ?_
  exact fin_ok
theorem op_19_5 {xs : Nat → Int32} (q1 : inB (xs 1) 0 15 = true) (q2 : inB (xs 2) 0 15 = true) (q3 : inB (xs 3) 0 300 = true) (q4 : inB (xs 1) 0 (xs 2) = true) : OpOk xs 1281 := by
  show AW (S1 6 xs) m_L_main 1050 QM XM 599770 7281900 1281 [some (.ref 199), some (.ref 200), some (.ref 420), some (.ref 431), some (.int 0), none, none] [] (hp I0 L0 0 0 432)
  refine a_l1 rfl rfl rfl ?_
  refine a_l0 rfl rfl rfl ?_
  refine a_l4 rfl rfl rfl ?_
  refine a_s rfl rfl ?_
  refine a_s rfl rfl ?_
  refine a_ialdc rfl scr_mem ⟨by decide, by decide⟩ ?_
  refine a_l0 rfl rfl rfl ?_
  refine a_l4 rfl rfl rfl ?_
  refine a_s rfl rfl ?_
  refine a_s rfl rfl ?_
  refine a_ialdc rfl scr_mem ⟨by decide, by decide⟩ ?_
  refine a_l0 rfl rfl rfl ?_
  refine a_l4 rfl rfl rfl ?_
  refine a_s rfl rfl ?_
  refine a_s rfl rfl ?_
  refine a_ialdc rfl scr_mem ⟨by decide, by decide⟩ ?_
  refine a_l3 rfl rfl rfl ?_
  refine a_callW rfl lL_205 mo_L_crowd (w_crowd (cr_X11_crowd_5 q1 q2 q3 q4)) rfl rfl rfl rfl (fun v h' hv => ?_) (fun E h' hx => False.elim hx)
  obtain ⟨rfl, I, w1, w2, t, rfl, hz⟩ := hv
  refine a_s5 rfl rfl rfl rfl rfl rfl ?_
  refine a_l2 rfl rfl rfl ?_
  refine a_l0 rfl rfl rfl ?_
  refine a_l4 rfl rfl rfl ?_
  refine a_s rfl rfl ?_
  refine a_s rfl rfl ?_
  refine a_ialdc rfl scr_mem ⟨by decide, by decide⟩ ?_
  refine a_l0 rfl rfl rfl ?_
  refine a_l4 rfl rfl rfl ?_
  refine a_s rfl rfl ?_
  refine a_s rfl rfl ?_
  refine a_ialdc rfl scr_mem ⟨by decide, by decide⟩ ?_
  refine a_l0 rfl rfl rfl ?_
  refine a_l4 rfl rfl rfl ?_
  refine a_s rfl rfl ?_
  refine a_s rfl rfl ?_
  refine a_ialdc rfl scr_mem ⟨by decide, by decide⟩ ?_
  refine a_callV rfl lL_208 mo_X12_crowd (rr_X12_crowd_5 q1 q2 q3 q4 I _ w1 w2 t hz) rfl rfl rfl ⟨12, _, rfl, rfl, rfl⟩ rfl (fun v h' hv => ?_) (fun E h' hx => False.elim hx)
  obtain ⟨rfl, I', L', w1', w2', t', rfl, hk, hL⟩ := hv
  refine a_s6 rfl rfl rfl rfl rfl rfl ?_
  refine a_l2 rfl rfl rfl ?_
  refine a_eV1 rfl lL_149 mo_X12_thrown (sp_X12_thrown) rfl rfl rfl ⟨12, _, rfl, rfl, rfl⟩ rfl ?_
  refine a_l5 rfl rfl rfl ?_
  refine a_ic_eq rfl (fun c1336 => ?_) (fun c => absurd (hk) c)
  refine a_l5 rfl rfl rfl ?_
  refine a_if_ne rfl (fun c => absurd c (fun z => z rfl)) (fun c1343 => ?_)
  refine a_l3 rfl rfl rfl ?_
  refine a_s rfl rfl ?_
  refine a_lald rfl (n := 1) rfl ⟨by decide, by decide⟩ ?_
  rw [hL]
  refine a_l6 rfl rfl rfl ?_
  refine a_s rfl rfl ?_
  refine a_s rfl rfl ?_
  refine a_if_eq rfl (fun c1353 => ?_) (fun c => absurd (cmp_self _) c)
  refine a_goto rfl ?_
  exact fin_ok
theorem op_19 {xs : Nat → Int32} : OpOk xs 1281 := by
  cases q1 : inB (xs 1) 0 15 with
  | false => exact op_19_1 q1
  | true =>
    cases q2 : inB (xs 2) 0 15 with
    | false => exact op_19_2 q1 q2
    | true =>
      cases q3 : inB (xs 3) 0 300 with
      | false => exact op_19_3 q1 q2 q3
      | true =>
        cases q4 : inB (xs 1) 0 (xs 2) with
        | false => exact op_19_4 q1 q2 q3 q4
        | true => exact op_19_5 q1 q2 q3 q4
theorem au_X11_count_129 {S : aS} {I : Nat → Nat → Int32} {L : Nat → Nat → Int64} {w1 w2 t : Nat} (h235_0 : I 235 0 = 0)  : SpE S m_X11_count 12 [.ref 200, .int 0] (hp I L w1 w2 t) (some (.int 0)) (hp I L w1 w2 t) := by
  refine SpE_of ok_X11_count rfl rfl ?_
  show AW S m_X11_count 12 _ _ 0 0 0 [some (.ref 200), some (.int 0)] [] (hp I L w1 w2 t)
  refine a_l1 rfl rfl rfl ?_
  refine a_tsw (tg := 76) rfl (by decide) (by decide) ?_
  refine a_l0 rfl rfl rfl ?_
  refine a_getq rfl gfX11_37_11 rfl rfl ?_
  refine a_getiv (v := 0) rfl gfX11_179_5 rfl h235_0 ?_
  exact a_iret rfl rfl ⟨rfl, rfl⟩
theorem cr_X11_count_0 {S : aS} : CRet S m_X11_count 12 [.ref 200, .int 0] (some 0) := CRet.of (au_X11_count_129 I0_235_0 ) (fun _ _ => rfl)
theorem au_X12_in_130 {S : aS} {I : Nat → Nat → Int32} {L : Nat → Nat → Int64} {w1 w2 t : Nat}   : SpE S m_X12_in 12 [.int 0, .int 0, .int 8] (hp I L w1 w2 t) (some (.int 1)) (hp I L w1 w2 t) := by
  refine SpE_of ok_X12_in rfl rfl ?_
  show AW S m_X12_in 12 _ _ 0 0 0 [some (.int 0), some (.int 0), some (.int 8)] [] (hp I L w1 w2 t)
  refine a_l0 rfl rfl rfl ?_
  refine a_l1 rfl rfl rfl ?_
  refine a_ic_lt rfl (fun c => absurd c (by decide)) (fun c2 => ?_)
  refine a_l0 rfl rfl rfl ?_
  refine a_l2 rfl rfl rfl ?_
  refine a_ic_gt rfl (fun c => absurd c (by decide)) (fun c7 => ?_)
  refine a_s rfl rfl ?_
  refine a_goto rfl ?_
  exact a_zret rfl rfl rfl ⟨rfl, rfl⟩
theorem au_X12_count_131 {S : aS} {I : Nat → Nat → Int32} {L : Nat → Nat → Int64} {w1 w2 t : Nat} (h421_0 : I 421 0 = 0)  : SpE S m_X12_count 13 [.ref 420, .int 0] (hp I L w1 w2 t) (some (.int 0)) (hp (up2 I 420 0 0) L w1 w2 t) := by
  refine SpE_of ok_X12_count rfl rfl ?_
  show AW S m_X12_count 13 _ _ 0 0 0 [some (.ref 420), some (.int 0)] [] (hp I L w1 w2 t)
  refine a_l0 rfl rfl rfl ?_
  refine a_s rfl rfl ?_
  refine a_puti rfl pfX12_3_12 rfl ?_
  refine a_l1 rfl rfl rfl ?_
  refine a_tsw (tg := 131) rfl (by decide) (by decide) ?_
  refine a_l1 rfl rfl rfl ?_
  refine a_s rfl rfl ?_
  refine a_s rfl rfl ?_
  refine a_eS1 rfl lX12_70 mo_X12_in (au_X12_in_130  ) rfl rfl rfl rfl ?_
  refine a_if_eq rfl (fun c => absurd c (by decide)) (fun c138 => ?_)
  refine a_l0 rfl rfl rfl ?_
  refine a_getq rfl gfX12_13_12 rfl rfl ?_
  refine a_l1 rfl rfl rfl ?_
  refine a_ialdv (v := 0) rfl (n := 2033) rfl ⟨by decide, by decide⟩ h421_0 ?_
  refine a_goto rfl ?_
  exact a_iret rfl rfl ⟨rfl, rfl⟩
theorem rr_X12_count_0 {S : aS} : RRet S m_X12_count 13 [.ref 420, .int 0] (some 0) 0 := RRet.of (fun I => up2 I 420 0 0) (fun I L w1 w2 t hz => au_X12_count_131 (hz.at rfl I0_421_0) ) (fun I hz => rfl)
theorem au_X11_count_132 {S : aS} {I : Nat → Nat → Int32} {L : Nat → Nat → Int64} {w1 w2 t : Nat} (h235_3 : I 235 3 = 0)  : SpE S m_X11_count 12 [.ref 200, .int 1] (hp I L w1 w2 t) (some (.int 0)) (hp I L w1 w2 t) := by
  refine SpE_of ok_X11_count rfl rfl ?_
  show AW S m_X11_count 12 _ _ 0 0 0 [some (.ref 200), some (.int 1)] [] (hp I L w1 w2 t)
  refine a_l1 rfl rfl rfl ?_
  refine a_tsw (tg := 84) rfl (by decide) (by decide) ?_
  refine a_l0 rfl rfl rfl ?_
  refine a_getq rfl gfX11_37_11 rfl rfl ?_
  refine a_getiv (v := 0) rfl gfX11_182_5 rfl h235_3 ?_
  exact a_iret rfl rfl ⟨rfl, rfl⟩
theorem cr_X11_count_1 {S : aS} : CRet S m_X11_count 12 [.ref 200, .int 1] (some 0) := CRet.of (au_X11_count_132 I0_235_3 ) (fun _ _ => rfl)
theorem au_X12_in_133 {S : aS} {I : Nat → Nat → Int32} {L : Nat → Nat → Int64} {w1 w2 t : Nat}   : SpE S m_X12_in 12 [.int 1, .int 0, .int 8] (hp I L w1 w2 t) (some (.int 1)) (hp I L w1 w2 t) := by
  refine SpE_of ok_X12_in rfl rfl ?_
  show AW S m_X12_in 12 _ _ 0 0 0 [some (.int 1), some (.int 0), some (.int 8)] [] (hp I L w1 w2 t)
  refine a_l0 rfl rfl rfl ?_
  refine a_l1 rfl rfl rfl ?_
  refine a_ic_lt rfl (fun c => absurd c (by decide)) (fun c2 => ?_)
  refine a_l0 rfl rfl rfl ?_
  refine a_l2 rfl rfl rfl ?_
  refine a_ic_gt rfl (fun c => absurd c (by decide)) (fun c7 => ?_)
  refine a_s rfl rfl ?_
  refine a_goto rfl ?_
  exact a_zret rfl rfl rfl ⟨rfl, rfl⟩
theorem au_X12_count_134 {S : aS} {I : Nat → Nat → Int32} {L : Nat → Nat → Int64} {w1 w2 t : Nat} (h421_1 : I 421 1 = 0)  : SpE S m_X12_count 13 [.ref 420, .int 1] (hp I L w1 w2 t) (some (.int 0)) (hp (up2 I 420 0 0) L w1 w2 t) := by
  refine SpE_of ok_X12_count rfl rfl ?_
  show AW S m_X12_count 13 _ _ 0 0 0 [some (.ref 420), some (.int 1)] [] (hp I L w1 w2 t)
  refine a_l0 rfl rfl rfl ?_
  refine a_s rfl rfl ?_
  refine a_puti rfl pfX12_3_12 rfl ?_
  refine a_l1 rfl rfl rfl ?_
  refine a_tsw (tg := 131) rfl (by decide) (by decide) ?_
  refine a_l1 rfl rfl rfl ?_
  refine a_s rfl rfl ?_
  refine a_s rfl rfl ?_
  refine a_eS1 rfl lX12_70 mo_X12_in (au_X12_in_133  ) rfl rfl rfl rfl ?_
  refine a_if_eq rfl (fun c => absurd c (by decide)) (fun c138 => ?_)
  refine a_l0 rfl rfl rfl ?_
  refine a_getq rfl gfX12_13_12 rfl rfl ?_
  refine a_l1 rfl rfl rfl ?_
  refine a_ialdv (v := 0) rfl (n := 2033) rfl ⟨by decide, by decide⟩ h421_1 ?_
  refine a_goto rfl ?_
  exact a_iret rfl rfl ⟨rfl, rfl⟩
theorem rr_X12_count_1 {S : aS} : RRet S m_X12_count 13 [.ref 420, .int 1] (some 0) 0 := RRet.of (fun I => up2 I 420 0 0) (fun I L w1 w2 t hz => au_X12_count_134 (hz.at rfl I0_421_1) ) (fun I hz => rfl)
theorem au_X11_count_135 {S : aS} {I : Nat → Nat → Int32} {L : Nat → Nat → Int64} {w1 w2 t : Nat} (h235_16 : I 235 16 = 0)  : SpE S m_X11_count 12 [.ref 200, .int 2] (hp I L w1 w2 t) (some (.int 0)) (hp I L w1 w2 t) := by
  refine SpE_of ok_X11_count rfl rfl ?_
  show AW S m_X11_count 12 _ _ 0 0 0 [some (.ref 200), some (.int 2)] [] (hp I L w1 w2 t)
  refine a_l1 rfl rfl rfl ?_
  refine a_tsw (tg := 92) rfl (by decide) (by decide) ?_
  refine a_l0 rfl rfl rfl ?_
  refine a_getq rfl gfX11_37_11 rfl rfl ?_
  refine a_getiv (v := 0) rfl gfX11_89_5 rfl h235_16 ?_
  exact a_iret rfl rfl ⟨rfl, rfl⟩
theorem cr_X11_count_2 {S : aS} : CRet S m_X11_count 12 [.ref 200, .int 2] (some 0) := CRet.of (au_X11_count_135 I0_235_16 ) (fun _ _ => rfl)
theorem au_X12_in_136 {S : aS} {I : Nat → Nat → Int32} {L : Nat → Nat → Int64} {w1 w2 t : Nat}   : SpE S m_X12_in 12 [.int 2, .int 0, .int 8] (hp I L w1 w2 t) (some (.int 1)) (hp I L w1 w2 t) := by
  refine SpE_of ok_X12_in rfl rfl ?_
  show AW S m_X12_in 12 _ _ 0 0 0 [some (.int 2), some (.int 0), some (.int 8)] [] (hp I L w1 w2 t)
  refine a_l0 rfl rfl rfl ?_
  refine a_l1 rfl rfl rfl ?_
  refine a_ic_lt rfl (fun c => absurd c (by decide)) (fun c2 => ?_)
  refine a_l0 rfl rfl rfl ?_
  refine a_l2 rfl rfl rfl ?_
  refine a_ic_gt rfl (fun c => absurd c (by decide)) (fun c7 => ?_)
  refine a_s rfl rfl ?_
  refine a_goto rfl ?_
  exact a_zret rfl rfl rfl ⟨rfl, rfl⟩
theorem au_X12_count_137 {S : aS} {I : Nat → Nat → Int32} {L : Nat → Nat → Int64} {w1 w2 t : Nat} (h421_2 : I 421 2 = 0)  : SpE S m_X12_count 13 [.ref 420, .int 2] (hp I L w1 w2 t) (some (.int 0)) (hp (up2 I 420 0 0) L w1 w2 t) := by
  refine SpE_of ok_X12_count rfl rfl ?_
  show AW S m_X12_count 13 _ _ 0 0 0 [some (.ref 420), some (.int 2)] [] (hp I L w1 w2 t)
  refine a_l0 rfl rfl rfl ?_
  refine a_s rfl rfl ?_
  refine a_puti rfl pfX12_3_12 rfl ?_
  refine a_l1 rfl rfl rfl ?_
  refine a_tsw (tg := 131) rfl (by decide) (by decide) ?_
  refine a_l1 rfl rfl rfl ?_
  refine a_s rfl rfl ?_
  refine a_s rfl rfl ?_
  refine a_eS1 rfl lX12_70 mo_X12_in (au_X12_in_136  ) rfl rfl rfl rfl ?_
  refine a_if_eq rfl (fun c => absurd c (by decide)) (fun c138 => ?_)
  refine a_l0 rfl rfl rfl ?_
  refine a_getq rfl gfX12_13_12 rfl rfl ?_
  refine a_l1 rfl rfl rfl ?_
  refine a_ialdv (v := 0) rfl (n := 2033) rfl ⟨by decide, by decide⟩ h421_2 ?_
  refine a_goto rfl ?_
  exact a_iret rfl rfl ⟨rfl, rfl⟩
theorem rr_X12_count_2 {S : aS} : RRet S m_X12_count 13 [.ref 420, .int 2] (some 0) 0 := RRet.of (fun I => up2 I 420 0 0) (fun I L w1 w2 t hz => au_X12_count_137 (hz.at rfl I0_421_2) ) (fun I hz => rfl)
theorem I0_246_0 : I0 246 0 = (-1) := by decide +kernel
theorem au_X11_count_138 {S : aS} {I : Nat → Nat → Int32} {L : Nat → Nat → Int64} {w1 w2 t : Nat} (h246_0 : I 246 0 = (-1))  : SpE S m_X11_count 12 [.ref 200, .int 3] (hp I L w1 w2 t) (some (.int (-1))) (hp I L w1 w2 t) := by
  refine SpE_of ok_X11_count rfl rfl ?_
  show AW S m_X11_count 12 _ _ 0 0 0 [some (.ref 200), some (.int 3)] [] (hp I L w1 w2 t)
  refine a_l1 rfl rfl rfl ?_
  refine a_tsw (tg := 100) rfl (by decide) (by decide) ?_
  refine a_l0 rfl rfl rfl ?_
  refine a_getq rfl gfX11_44_11 rfl rfl ?_
  refine a_getiv (v := (-1)) rfl gfX11_107_2 rfl h246_0 ?_
  exact a_iret rfl rfl ⟨rfl, rfl⟩
theorem cr_X11_count_3 {S : aS} : CRet S m_X11_count 12 [.ref 200, .int 3] (some (-1)) := CRet.of (au_X11_count_138 I0_246_0 ) (fun _ _ => rfl)
theorem I0_421_3 : I0 421 3 = 0 := by decide +kernel
theorem au_X12_count_139 {S : aS} {I : Nat → Nat → Int32} {L : Nat → Nat → Int64} {w1 w2 t : Nat} (h421_3 : I 421 3 = 0)  : SpE S m_X12_count 12 [.ref 420, .int 3] (hp I L w1 w2 t) (some (.int (-1))) (hp (up2 I 420 0 0) L w1 w2 t) := by
  refine SpE_of ok_X12_count rfl rfl ?_
  show AW S m_X12_count 12 _ _ 0 0 0 [some (.ref 420), some (.int 3)] [] (hp I L w1 w2 t)
  refine a_l0 rfl rfl rfl ?_
  refine a_s rfl rfl ?_
  refine a_puti rfl pfX12_3_12 rfl ?_
  refine a_l1 rfl rfl rfl ?_
  refine a_tsw (tg := 68) rfl (by decide) (by decide) ?_
  refine a_l0 rfl rfl rfl ?_
  refine a_getq rfl gfX12_13_12 rfl rfl ?_
  refine a_s rfl rfl ?_
  refine a_ialdv (v := 0) rfl (n := 2033) rfl ⟨by decide, by decide⟩ h421_3 ?_
  refine a_s rfl rfl ?_
  refine a_ic_ne rfl (fun c75 => ?_) (fun c => absurd c (by decide))
  refine a_s rfl rfl ?_
  exact a_iret rfl rfl ⟨rfl, rfl⟩
theorem rr_X12_count_3 {S : aS} : RRet S m_X12_count 12 [.ref 420, .int 3] (some (-1)) 0 := RRet.of (fun I => up2 I 420 0 0) (fun I L w1 w2 t hz => au_X12_count_139 (hz.at rfl I0_421_3) ) (fun I hz => rfl)
theorem I0_235_10 : I0 235 10 = 1 := by decide +kernel
theorem au_X11_count_140 {S : aS} {I : Nat → Nat → Int32} {L : Nat → Nat → Int64} {w1 w2 t : Nat} (h235_10 : I 235 10 = 1)  : SpE S m_X11_count 12 [.ref 200, .int 4] (hp I L w1 w2 t) (some (.int 1)) (hp I L w1 w2 t) := by
  refine SpE_of ok_X11_count rfl rfl ?_
  show AW S m_X11_count 12 _ _ 0 0 0 [some (.ref 200), some (.int 4)] [] (hp I L w1 w2 t)
  refine a_l1 rfl rfl rfl ?_
  refine a_tsw (tg := 108) rfl (by decide) (by decide) ?_
  refine a_l0 rfl rfl rfl ?_
  refine a_getq rfl gfX11_37_11 rfl rfl ?_
  refine a_getiv (v := 1) rfl gfX11_185_5 rfl h235_10 ?_
  exact a_iret rfl rfl ⟨rfl, rfl⟩
theorem cr_X11_count_4 {S : aS} : CRet S m_X11_count 12 [.ref 200, .int 4] (some 1) := CRet.of (au_X11_count_140 I0_235_10 ) (fun _ _ => rfl)
theorem au_X12_in_141 {S : aS} {I : Nat → Nat → Int32} {L : Nat → Nat → Int64} {w1 w2 t : Nat}   : SpE S m_X12_in 12 [.int 4, .int 0, .int 8] (hp I L w1 w2 t) (some (.int 1)) (hp I L w1 w2 t) := by
  refine SpE_of ok_X12_in rfl rfl ?_
  show AW S m_X12_in 12 _ _ 0 0 0 [some (.int 4), some (.int 0), some (.int 8)] [] (hp I L w1 w2 t)
  refine a_l0 rfl rfl rfl ?_
  refine a_l1 rfl rfl rfl ?_
  refine a_ic_lt rfl (fun c => absurd c (by decide)) (fun c2 => ?_)
  refine a_l0 rfl rfl rfl ?_
  refine a_l2 rfl rfl rfl ?_
  refine a_ic_gt rfl (fun c => absurd c (by decide)) (fun c7 => ?_)
  refine a_s rfl rfl ?_
  refine a_goto rfl ?_
  exact a_zret rfl rfl rfl ⟨rfl, rfl⟩
theorem au_X12_count_142 {S : aS} {I : Nat → Nat → Int32} {L : Nat → Nat → Int64} {w1 w2 t : Nat} (h421_4 : I 421 4 = 1)  : SpE S m_X12_count 13 [.ref 420, .int 4] (hp I L w1 w2 t) (some (.int 1)) (hp (up2 I 420 0 0) L w1 w2 t) := by
  refine SpE_of ok_X12_count rfl rfl ?_
  show AW S m_X12_count 13 _ _ 0 0 0 [some (.ref 420), some (.int 4)] [] (hp I L w1 w2 t)
  refine a_l0 rfl rfl rfl ?_
  refine a_s rfl rfl ?_
  refine a_puti rfl pfX12_3_12 rfl ?_
  refine a_l1 rfl rfl rfl ?_
  refine a_tsw (tg := 131) rfl (by decide) (by decide) ?_
  refine a_l1 rfl rfl rfl ?_
  refine a_s rfl rfl ?_
  refine a_s rfl rfl ?_
  refine a_eS1 rfl lX12_70 mo_X12_in (au_X12_in_141  ) rfl rfl rfl rfl ?_
  refine a_if_eq rfl (fun c => absurd c (by decide)) (fun c138 => ?_)
  refine a_l0 rfl rfl rfl ?_
  refine a_getq rfl gfX12_13_12 rfl rfl ?_
  refine a_l1 rfl rfl rfl ?_
  refine a_ialdv (v := 1) rfl (n := 2033) rfl ⟨by decide, by decide⟩ h421_4 ?_
  refine a_goto rfl ?_
  exact a_iret rfl rfl ⟨rfl, rfl⟩
theorem rr_X12_count_4 {S : aS} : RRet S m_X12_count 13 [.ref 420, .int 4] (some 1) 0 := RRet.of (fun I => up2 I 420 0 0) (fun I L w1 w2 t hz => au_X12_count_142 (hz.at rfl I0_421_4) ) (fun I hz => rfl)
theorem I0_235_11 : I0 235 11 = 0 := by decide +kernel
theorem au_X11_count_143 {S : aS} {I : Nat → Nat → Int32} {L : Nat → Nat → Int64} {w1 w2 t : Nat} (h235_11 : I 235 11 = 0)  : SpE S m_X11_count 12 [.ref 200, .int 5] (hp I L w1 w2 t) (some (.int 0)) (hp I L w1 w2 t) := by
  refine SpE_of ok_X11_count rfl rfl ?_
  show AW S m_X11_count 12 _ _ 0 0 0 [some (.ref 200), some (.int 5)] [] (hp I L w1 w2 t)
  refine a_l1 rfl rfl rfl ?_
  refine a_tsw (tg := 116) rfl (by decide) (by decide) ?_
  refine a_l0 rfl rfl rfl ?_
  refine a_getq rfl gfX11_37_11 rfl rfl ?_
  refine a_getiv (v := 0) rfl gfX11_188_5 rfl h235_11 ?_
  exact a_iret rfl rfl ⟨rfl, rfl⟩
theorem cr_X11_count_5 {S : aS} : CRet S m_X11_count 12 [.ref 200, .int 5] (some 0) := CRet.of (au_X11_count_143 I0_235_11 ) (fun _ _ => rfl)
theorem I0_421_5 : I0 421 5 = 0 := by decide +kernel
theorem au_X12_in_144 {S : aS} {I : Nat → Nat → Int32} {L : Nat → Nat → Int64} {w1 w2 t : Nat}   : SpE S m_X12_in 12 [.int 5, .int 0, .int 8] (hp I L w1 w2 t) (some (.int 1)) (hp I L w1 w2 t) := by
  refine SpE_of ok_X12_in rfl rfl ?_
  show AW S m_X12_in 12 _ _ 0 0 0 [some (.int 5), some (.int 0), some (.int 8)] [] (hp I L w1 w2 t)
  refine a_l0 rfl rfl rfl ?_
  refine a_l1 rfl rfl rfl ?_
  refine a_ic_lt rfl (fun c => absurd c (by decide)) (fun c2 => ?_)
  refine a_l0 rfl rfl rfl ?_
  refine a_l2 rfl rfl rfl ?_
  refine a_ic_gt rfl (fun c => absurd c (by decide)) (fun c7 => ?_)
  refine a_s rfl rfl ?_
  refine a_goto rfl ?_
  exact a_zret rfl rfl rfl ⟨rfl, rfl⟩
theorem au_X12_count_145 {S : aS} {I : Nat → Nat → Int32} {L : Nat → Nat → Int64} {w1 w2 t : Nat} (h421_5 : I 421 5 = 0)  : SpE S m_X12_count 13 [.ref 420, .int 5] (hp I L w1 w2 t) (some (.int 0)) (hp (up2 I 420 0 0) L w1 w2 t) := by
  refine SpE_of ok_X12_count rfl rfl ?_
  show AW S m_X12_count 13 _ _ 0 0 0 [some (.ref 420), some (.int 5)] [] (hp I L w1 w2 t)
  refine a_l0 rfl rfl rfl ?_
  refine a_s rfl rfl ?_
  refine a_puti rfl pfX12_3_12 rfl ?_
  refine a_l1 rfl rfl rfl ?_
  refine a_tsw (tg := 131) rfl (by decide) (by decide) ?_
  refine a_l1 rfl rfl rfl ?_
  refine a_s rfl rfl ?_
  refine a_s rfl rfl ?_
  refine a_eS1 rfl lX12_70 mo_X12_in (au_X12_in_144  ) rfl rfl rfl rfl ?_
  refine a_if_eq rfl (fun c => absurd c (by decide)) (fun c138 => ?_)
  refine a_l0 rfl rfl rfl ?_
  refine a_getq rfl gfX12_13_12 rfl rfl ?_
  refine a_l1 rfl rfl rfl ?_
  refine a_ialdv (v := 0) rfl (n := 2033) rfl ⟨by decide, by decide⟩ h421_5 ?_
  refine a_goto rfl ?_
  exact a_iret rfl rfl ⟨rfl, rfl⟩
theorem rr_X12_count_5 {S : aS} : RRet S m_X12_count 13 [.ref 420, .int 5] (some 0) 0 := RRet.of (fun I => up2 I 420 0 0) (fun I L w1 w2 t hz => au_X12_count_145 (hz.at rfl I0_421_5) ) (fun I hz => rfl)
theorem I0_235_12 : I0 235 12 = 0 := by decide +kernel
theorem au_X11_count_146 {S : aS} {I : Nat → Nat → Int32} {L : Nat → Nat → Int64} {w1 w2 t : Nat} (h235_12 : I 235 12 = 0)  : SpE S m_X11_count 12 [.ref 200, .int 6] (hp I L w1 w2 t) (some (.int 0)) (hp I L w1 w2 t) := by
  refine SpE_of ok_X11_count rfl rfl ?_
  show AW S m_X11_count 12 _ _ 0 0 0 [some (.ref 200), some (.int 6)] [] (hp I L w1 w2 t)
  refine a_l1 rfl rfl rfl ?_
  refine a_tsw (tg := 124) rfl (by decide) (by decide) ?_
  refine a_l0 rfl rfl rfl ?_
  refine a_getq rfl gfX11_37_11 rfl rfl ?_
  refine a_getiv (v := 0) rfl gfX11_191_5 rfl h235_12 ?_
  exact a_iret rfl rfl ⟨rfl, rfl⟩
theorem cr_X11_count_6 {S : aS} : CRet S m_X11_count 12 [.ref 200, .int 6] (some 0) := CRet.of (au_X11_count_146 I0_235_12 ) (fun _ _ => rfl)
theorem I0_421_6 : I0 421 6 = 0 := by decide +kernel
theorem au_X12_in_147 {S : aS} {I : Nat → Nat → Int32} {L : Nat → Nat → Int64} {w1 w2 t : Nat}   : SpE S m_X12_in 12 [.int 6, .int 0, .int 8] (hp I L w1 w2 t) (some (.int 1)) (hp I L w1 w2 t) := by
  refine SpE_of ok_X12_in rfl rfl ?_
  show AW S m_X12_in 12 _ _ 0 0 0 [some (.int 6), some (.int 0), some (.int 8)] [] (hp I L w1 w2 t)
  refine a_l0 rfl rfl rfl ?_
  refine a_l1 rfl rfl rfl ?_
  refine a_ic_lt rfl (fun c => absurd c (by decide)) (fun c2 => ?_)
  refine a_l0 rfl rfl rfl ?_
  refine a_l2 rfl rfl rfl ?_
  refine a_ic_gt rfl (fun c => absurd c (by decide)) (fun c7 => ?_)
  refine a_s rfl rfl ?_
  refine a_goto rfl ?_
  exact a_zret rfl rfl rfl ⟨rfl, rfl⟩
theorem au_X12_count_148 {S : aS} {I : Nat → Nat → Int32} {L : Nat → Nat → Int64} {w1 w2 t : Nat} (h421_6 : I 421 6 = 0)  : SpE S m_X12_count 13 [.ref 420, .int 6] (hp I L w1 w2 t) (some (.int 0)) (hp (up2 I 420 0 0) L w1 w2 t) := by
  refine SpE_of ok_X12_count rfl rfl ?_
  show AW S m_X12_count 13 _ _ 0 0 0 [some (.ref 420), some (.int 6)] [] (hp I L w1 w2 t)
  refine a_l0 rfl rfl rfl ?_
  refine a_s rfl rfl ?_
  refine a_puti rfl pfX12_3_12 rfl ?_
  refine a_l1 rfl rfl rfl ?_
  refine a_tsw (tg := 131) rfl (by decide) (by decide) ?_
  refine a_l1 rfl rfl rfl ?_
  refine a_s rfl rfl ?_
  refine a_s rfl rfl ?_
  refine a_eS1 rfl lX12_70 mo_X12_in (au_X12_in_147  ) rfl rfl rfl rfl ?_
  refine a_if_eq rfl (fun c => absurd c (by decide)) (fun c138 => ?_)
  refine a_l0 rfl rfl rfl ?_
  refine a_getq rfl gfX12_13_12 rfl rfl ?_
  refine a_l1 rfl rfl rfl ?_
  refine a_ialdv (v := 0) rfl (n := 2033) rfl ⟨by decide, by decide⟩ h421_6 ?_
  refine a_goto rfl ?_
  exact a_iret rfl rfl ⟨rfl, rfl⟩
theorem rr_X12_count_6 {S : aS} : RRet S m_X12_count 13 [.ref 420, .int 6] (some 0) 0 := RRet.of (fun I => up2 I 420 0 0) (fun I L w1 w2 t hz => au_X12_count_148 (hz.at rfl I0_421_6) ) (fun I hz => rfl)
theorem I0_235_13 : I0 235 13 = 2 := by decide +kernel
theorem au_X11_count_149 {S : aS} {I : Nat → Nat → Int32} {L : Nat → Nat → Int64} {w1 w2 t : Nat} (h235_13 : I 235 13 = 2)  : SpE S m_X11_count 12 [.ref 200, .int 7] (hp I L w1 w2 t) (some (.int 2)) (hp I L w1 w2 t) := by
  refine SpE_of ok_X11_count rfl rfl ?_
  show AW S m_X11_count 12 _ _ 0 0 0 [some (.ref 200), some (.int 7)] [] (hp I L w1 w2 t)
  refine a_l1 rfl rfl rfl ?_
  refine a_tsw (tg := 132) rfl (by decide) (by decide) ?_
  refine a_l0 rfl rfl rfl ?_
  refine a_getq rfl gfX11_37_11 rfl rfl ?_
  refine a_getiv (v := 2) rfl gfX11_194_5 rfl h235_13 ?_
  exact a_iret rfl rfl ⟨rfl, rfl⟩
theorem cr_X11_count_7 {S : aS} : CRet S m_X11_count 12 [.ref 200, .int 7] (some 2) := CRet.of (au_X11_count_149 I0_235_13 ) (fun _ _ => rfl)
theorem I0_421_7 : I0 421 7 = 2 := by decide +kernel
theorem au_X12_in_150 {S : aS} {I : Nat → Nat → Int32} {L : Nat → Nat → Int64} {w1 w2 t : Nat}   : SpE S m_X12_in 12 [.int 7, .int 0, .int 8] (hp I L w1 w2 t) (some (.int 1)) (hp I L w1 w2 t) := by
  refine SpE_of ok_X12_in rfl rfl ?_
  show AW S m_X12_in 12 _ _ 0 0 0 [some (.int 7), some (.int 0), some (.int 8)] [] (hp I L w1 w2 t)
  refine a_l0 rfl rfl rfl ?_
  refine a_l1 rfl rfl rfl ?_
  refine a_ic_lt rfl (fun c => absurd c (by decide)) (fun c2 => ?_)
  refine a_l0 rfl rfl rfl ?_
  refine a_l2 rfl rfl rfl ?_
  refine a_ic_gt rfl (fun c => absurd c (by decide)) (fun c7 => ?_)
  refine a_s rfl rfl ?_
  refine a_goto rfl ?_
  exact a_zret rfl rfl rfl ⟨rfl, rfl⟩
theorem au_X12_count_151 {S : aS} {I : Nat → Nat → Int32} {L : Nat → Nat → Int64} {w1 w2 t : Nat} (h421_7 : I 421 7 = 2)  : SpE S m_X12_count 13 [.ref 420, .int 7] (hp I L w1 w2 t) (some (.int 2)) (hp (up2 I 420 0 0) L w1 w2 t) := by
  refine SpE_of ok_X12_count rfl rfl ?_
  show AW S m_X12_count 13 _ _ 0 0 0 [some (.ref 420), some (.int 7)] [] (hp I L w1 w2 t)
  refine a_l0 rfl rfl rfl ?_
  refine a_s rfl rfl ?_
  refine a_puti rfl pfX12_3_12 rfl ?_
  refine a_l1 rfl rfl rfl ?_
  refine a_tsw (tg := 131) rfl (by decide) (by decide) ?_
  refine a_l1 rfl rfl rfl ?_
  refine a_s rfl rfl ?_
  refine a_s rfl rfl ?_
  refine a_eS1 rfl lX12_70 mo_X12_in (au_X12_in_150  ) rfl rfl rfl rfl ?_
  refine a_if_eq rfl (fun c => absurd c (by decide)) (fun c138 => ?_)
  refine a_l0 rfl rfl rfl ?_
  refine a_getq rfl gfX12_13_12 rfl rfl ?_
  refine a_l1 rfl rfl rfl ?_
  refine a_ialdv (v := 2) rfl (n := 2033) rfl ⟨by decide, by decide⟩ h421_7 ?_
  refine a_goto rfl ?_
  exact a_iret rfl rfl ⟨rfl, rfl⟩
theorem rr_X12_count_7 {S : aS} : RRet S m_X12_count 13 [.ref 420, .int 7] (some 2) 0 := RRet.of (fun I => up2 I 420 0 0) (fun I L w1 w2 t hz => au_X12_count_151 (hz.at rfl I0_421_7) ) (fun I hz => rfl)
theorem I0_235_14 : I0 235 14 = 3 := by decide +kernel
theorem au_X11_count_152 {S : aS} {I : Nat → Nat → Int32} {L : Nat → Nat → Int64} {w1 w2 t : Nat} (h235_14 : I 235 14 = 3)  : SpE S m_X11_count 12 [.ref 200, .int 8] (hp I L w1 w2 t) (some (.int 3)) (hp I L w1 w2 t) := by
  refine SpE_of ok_X11_count rfl rfl ?_
  show AW S m_X11_count 12 _ _ 0 0 0 [some (.ref 200), some (.int 8)] [] (hp I L w1 w2 t)
  refine a_l1 rfl rfl rfl ?_
  refine a_tsw (tg := 140) rfl (by decide) (by decide) ?_
  refine a_l0 rfl rfl rfl ?_
  refine a_getq rfl gfX11_37_11 rfl rfl ?_
  refine a_getiv (v := 3) rfl gfX11_197_5 rfl h235_14 ?_
  exact a_iret rfl rfl ⟨rfl, rfl⟩
theorem cr_X11_count_8 {S : aS} : CRet S m_X11_count 12 [.ref 200, .int 8] (some 3) := CRet.of (au_X11_count_152 I0_235_14 ) (fun _ _ => rfl)
theorem I0_421_8 : I0 421 8 = 3 := by decide +kernel
theorem au_X12_in_153 {S : aS} {I : Nat → Nat → Int32} {L : Nat → Nat → Int64} {w1 w2 t : Nat}   : SpE S m_X12_in 12 [.int 8, .int 0, .int 8] (hp I L w1 w2 t) (some (.int 1)) (hp I L w1 w2 t) := by
  refine SpE_of ok_X12_in rfl rfl ?_
  show AW S m_X12_in 12 _ _ 0 0 0 [some (.int 8), some (.int 0), some (.int 8)] [] (hp I L w1 w2 t)
  refine a_l0 rfl rfl rfl ?_
  refine a_l1 rfl rfl rfl ?_
  refine a_ic_lt rfl (fun c => absurd c (by decide)) (fun c2 => ?_)
  refine a_l0 rfl rfl rfl ?_
  refine a_l2 rfl rfl rfl ?_
  refine a_ic_gt rfl (fun c => absurd c (by decide)) (fun c7 => ?_)
  refine a_s rfl rfl ?_
  refine a_goto rfl ?_
  exact a_zret rfl rfl rfl ⟨rfl, rfl⟩
theorem au_X12_count_154 {S : aS} {I : Nat → Nat → Int32} {L : Nat → Nat → Int64} {w1 w2 t : Nat} (h421_8 : I 421 8 = 3)  : SpE S m_X12_count 13 [.ref 420, .int 8] (hp I L w1 w2 t) (some (.int 3)) (hp (up2 I 420 0 0) L w1 w2 t) := by
  refine SpE_of ok_X12_count rfl rfl ?_
  show AW S m_X12_count 13 _ _ 0 0 0 [some (.ref 420), some (.int 8)] [] (hp I L w1 w2 t)
  refine a_l0 rfl rfl rfl ?_
  refine a_s rfl rfl ?_
  refine a_puti rfl pfX12_3_12 rfl ?_
  refine a_l1 rfl rfl rfl ?_
  refine a_tsw (tg := 131) rfl (by decide) (by decide) ?_
  refine a_l1 rfl rfl rfl ?_
  refine a_s rfl rfl ?_
  refine a_s rfl rfl ?_
  refine a_eS1 rfl lX12_70 mo_X12_in (au_X12_in_153  ) rfl rfl rfl rfl ?_
  refine a_if_eq rfl (fun c => absurd c (by decide)) (fun c138 => ?_)
  refine a_l0 rfl rfl rfl ?_
  refine a_getq rfl gfX12_13_12 rfl rfl ?_
  refine a_l1 rfl rfl rfl ?_
  refine a_ialdv (v := 3) rfl (n := 2033) rfl ⟨by decide, by decide⟩ h421_8 ?_
  refine a_goto rfl ?_
  exact a_iret rfl rfl ⟨rfl, rfl⟩
theorem rr_X12_count_8 {S : aS} : RRet S m_X12_count 13 [.ref 420, .int 8] (some 3) 0 := RRet.of (fun I => up2 I 420 0 0) (fun I L w1 w2 t hz => au_X12_count_154 (hz.at rfl I0_421_8) ) (fun I hz => rfl)
theorem au_X11_count_155 {S : aS} {I : Nat → Nat → Int32} {L : Nat → Nat → Int64} {w1 w2 t : Nat} (h235_3 : I 235 3 = 0)  : SpE S m_X11_count 13 [.ref 200, .int 9] (hp I L w1 w2 t) (some (.int 0)) (hp I L w1 w2 t) := by
  refine SpE_of ok_X11_count rfl rfl ?_
  show AW S m_X11_count 13 _ _ 0 0 0 [some (.ref 200), some (.int 9)] [] (hp I L w1 w2 t)
  refine a_l1 rfl rfl rfl ?_
  refine a_tsw (tg := 148) rfl (by decide) (by decide) ?_
  refine a_l0 rfl rfl rfl ?_
  refine a_getq rfl gfX11_37_11 rfl rfl ?_
  refine a_s rfl rfl ?_
  refine a_eV1 rfl lX11_200 mo_X5_bitsIn (au_X5_bitsIn_93 h235_3 ) rfl rfl rfl ⟨5, _, rfl, rfl, rfl⟩ rfl ?_
  exact a_iret rfl rfl ⟨rfl, rfl⟩
theorem cr_X11_count_9 {S : aS} : CRet S m_X11_count 13 [.ref 200, .int 9] (some 0) := CRet.of (au_X11_count_155 I0_235_3 ) (fun _ _ => rfl)
theorem au_X12_count_156 {S : aS} {I : Nat → Nat → Int32} {L : Nat → Nat → Int64} {w1 w2 t : Nat} (h421_1 : I 421 1 = 0)  : SpE S m_X12_count 14 [.ref 420, .int 9] (hp I L w1 w2 t) (some (.int 0)) (hp (up2 I 420 0 0) L w1 w2 t) := by
  refine SpE_of ok_X12_count rfl rfl ?_
  show AW S m_X12_count 14 _ _ 0 0 0 [some (.ref 420), some (.int 9)] [] (hp I L w1 w2 t)
  refine a_l0 rfl rfl rfl ?_
  refine a_s rfl rfl ?_
  refine a_puti rfl pfX12_3_12 rfl ?_
  refine a_l1 rfl rfl rfl ?_
  refine a_tsw (tg := 91) rfl (by decide) (by decide) ?_
  refine a_l0 rfl rfl rfl ?_
  refine a_s rfl rfl ?_
  refine a_eV1 rfl lX12_324 mo_X12_ofState (au_X12_ofState_6 h421_1 ) rfl rfl rfl ⟨12, _, rfl, rfl, rfl⟩ rfl ?_
  exact a_iret rfl rfl ⟨rfl, rfl⟩
theorem rr_X12_count_9 {S : aS} : RRet S m_X12_count 14 [.ref 420, .int 9] (some 0) 0 := RRet.of (fun I => up2 I 420 0 0) (fun I L w1 w2 t hz => au_X12_count_156 (hz.at rfl I0_421_1) ) (fun I hz => rfl)
theorem au_X11_count_157 {S : aS} {I : Nat → Nat → Int32} {L : Nat → Nat → Int64} {w1 w2 t : Nat} (h235_3 : I 235 3 = 0)  : SpE S m_X11_count 13 [.ref 200, .int 10] (hp I L w1 w2 t) (some (.int 0)) (hp I L w1 w2 t) := by
  refine SpE_of ok_X11_count rfl rfl ?_
  show AW S m_X11_count 13 _ _ 0 0 0 [some (.ref 200), some (.int 10)] [] (hp I L w1 w2 t)
  refine a_l1 rfl rfl rfl ?_
  refine a_tsw (tg := 157) rfl (by decide) (by decide) ?_
  refine a_l0 rfl rfl rfl ?_
  refine a_getq rfl gfX11_37_11 rfl rfl ?_
  refine a_s rfl rfl ?_
  refine a_eV1 rfl lX11_200 mo_X5_bitsIn (au_X5_bitsIn_76 h235_3 ) rfl rfl rfl ⟨5, _, rfl, rfl, rfl⟩ rfl ?_
  exact a_iret rfl rfl ⟨rfl, rfl⟩
theorem cr_X11_count_10 {S : aS} : CRet S m_X11_count 13 [.ref 200, .int 10] (some 0) := CRet.of (au_X11_count_157 I0_235_3 ) (fun _ _ => rfl)
theorem au_X12_ofState_158 {S : aS} {I : Nat → Nat → Int32} {L : Nat → Nat → Int64} {w1 w2 t : Nat} (h421_1 : I 421 1 = 0)  : SpE S m_X12_ofState 13 [.ref 420, .int 1] (hp I L w1 w2 t) (some (.int 0)) (hp I L w1 w2 t) := by
  refine SpE_of ok_X12_ofState rfl rfl ?_
  show AW S m_X12_ofState 13 _ _ 0 0 0 [some (.ref 420), some (.int 1), none, none] [] (hp I L w1 w2 t)
  refine a_s rfl rfl ?_
  refine a_s2 rfl rfl rfl rfl rfl rfl ?_
  refine a_s rfl rfl ?_
  refine a_s3 rfl rfl rfl rfl rfl rfl ?_
  refine a_l3 rfl rfl rfl ?_
  refine a_l0 rfl rfl rfl ?_
  refine a_eV1 rfl lX12_74 mo_X12_duties (au_X12_duties_4 h421_1 ) rfl rfl rfl ⟨12, _, rfl, rfl, rfl⟩ rfl ?_
  refine a_ic_ge rfl (fun c9 => ?_) (fun c => absurd (by decide) c)
  refine a_l2 rfl rfl rfl ?_
  exact a_iret rfl rfl ⟨rfl, rfl⟩
theorem au_X12_count_159 {S : aS} {I : Nat → Nat → Int32} {L : Nat → Nat → Int64} {w1 w2 t : Nat} (h421_1 : I 421 1 = 0)  : SpE S m_X12_count 14 [.ref 420, .int 10] (hp I L w1 w2 t) (some (.int 0)) (hp (up2 I 420 0 0) L w1 w2 t) := by
  refine SpE_of ok_X12_count rfl rfl ?_
  show AW S m_X12_count 14 _ _ 0 0 0 [some (.ref 420), some (.int 10)] [] (hp I L w1 w2 t)
  refine a_l0 rfl rfl rfl ?_
  refine a_s rfl rfl ?_
  refine a_puti rfl pfX12_3_12 rfl ?_
  refine a_l1 rfl rfl rfl ?_
  refine a_tsw (tg := 97) rfl (by decide) (by decide) ?_
  refine a_l0 rfl rfl rfl ?_
  refine a_s rfl rfl ?_
  refine a_eV1 rfl lX12_324 mo_X12_ofState (au_X12_ofState_158 h421_1 ) rfl rfl rfl ⟨12, _, rfl, rfl, rfl⟩ rfl ?_
  exact a_iret rfl rfl ⟨rfl, rfl⟩
theorem rr_X12_count_10 {S : aS} : RRet S m_X12_count 14 [.ref 420, .int 10] (some 0) 0 := RRet.of (fun I => up2 I 420 0 0) (fun I L w1 w2 t hz => au_X12_count_159 (hz.at rfl I0_421_1) ) (fun I hz => rfl)
theorem au_X5_readyBits_160 {S : aS} {I : Nat → Nat → Int32} {L : Nat → Nat → Int64} {w1 w2 t : Nat} (h235_3 : I 235 3 = 0)  : SpE S m_X5_readyBits 12 [.ref 235] (hp I L w1 w2 t) (some (.int 0)) (hp I L w1 w2 t) := by
  refine SpE_of ok_X5_readyBits rfl rfl ?_
  show AW S m_X5_readyBits 12 _ _ 0 0 0 [some (.ref 235), none, none] [] (hp I L w1 w2 t)
  refine a_s rfl rfl ?_
  refine a_s1 rfl rfl rfl rfl rfl rfl ?_
  refine a_s rfl rfl ?_
  refine a_s2 rfl rfl rfl rfl rfl rfl ?_
  refine a_l2 rfl rfl rfl ?_
  refine a_l0 rfl rfl rfl ?_
  refine a_getiv (v := 0) rfl gfX5_63_5 rfl h235_3 ?_
  refine a_ic_ge rfl (fun c9 => ?_) (fun c => absurd (by decide) c)
  refine a_l1 rfl rfl rfl ?_
  exact a_iret rfl rfl ⟨rfl, rfl⟩
theorem au_X11_count_161 {S : aS} {I : Nat → Nat → Int32} {L : Nat → Nat → Int64} {w1 w2 t : Nat} (h235_3 : I 235 3 = 0)  : SpE S m_X11_count 13 [.ref 200, .int 11] (hp I L w1 w2 t) (some (.int 0)) (hp I L w1 w2 t) := by
  refine SpE_of ok_X11_count rfl rfl ?_
  show AW S m_X11_count 13 _ _ 0 0 0 [some (.ref 200), some (.int 11)] [] (hp I L w1 w2 t)
  refine a_l1 rfl rfl rfl ?_
  refine a_tsw (tg := 166) rfl (by decide) (by decide) ?_
  refine a_l0 rfl rfl rfl ?_
  refine a_getq rfl gfX11_37_11 rfl rfl ?_
  refine a_eV1 rfl lX11_203 mo_X5_readyBits (au_X5_readyBits_160 h235_3 ) rfl rfl rfl ⟨5, _, rfl, rfl, rfl⟩ rfl ?_
  exact a_iret rfl rfl ⟨rfl, rfl⟩
theorem cr_X11_count_11 {S : aS} : CRet S m_X11_count 13 [.ref 200, .int 11] (some 0) := CRet.of (au_X11_count_161 I0_235_3 ) (fun _ _ => rfl)
theorem au_X12_readyOnes_162 {S : aS} {I : Nat → Nat → Int32} {L : Nat → Nat → Int64} {w1 w2 t : Nat} (h421_1 : I 421 1 = 0)  : SpE S m_X12_readyOnes 13 [.ref 420] (hp I L w1 w2 t) (some (.int 0)) (hp I L w1 w2 t) := by
  refine SpE_of ok_X12_readyOnes rfl rfl ?_
  show AW S m_X12_readyOnes 13 _ _ 0 0 0 [some (.ref 420), none, none] [] (hp I L w1 w2 t)
  refine a_s rfl rfl ?_
  refine a_s1 rfl rfl rfl rfl rfl rfl ?_
  refine a_s rfl rfl ?_
  refine a_s2 rfl rfl rfl rfl rfl rfl ?_
  refine a_l2 rfl rfl rfl ?_
  refine a_l0 rfl rfl rfl ?_
  refine a_eV1 rfl lX12_74 mo_X12_duties (au_X12_duties_4 h421_1 ) rfl rfl rfl ⟨12, _, rfl, rfl, rfl⟩ rfl ?_
  refine a_ic_ge rfl (fun c9 => ?_) (fun c => absurd (by decide) c)
  refine a_l1 rfl rfl rfl ?_
  exact a_iret rfl rfl ⟨rfl, rfl⟩
theorem au_X12_count_163 {S : aS} {I : Nat → Nat → Int32} {L : Nat → Nat → Int64} {w1 w2 t : Nat} (h421_1 : I 421 1 = 0)  : SpE S m_X12_count 14 [.ref 420, .int 11] (hp I L w1 w2 t) (some (.int 0)) (hp (up2 I 420 0 0) L w1 w2 t) := by
  refine SpE_of ok_X12_count rfl rfl ?_
  show AW S m_X12_count 14 _ _ 0 0 0 [some (.ref 420), some (.int 11)] [] (hp I L w1 w2 t)
  refine a_l0 rfl rfl rfl ?_
  refine a_s rfl rfl ?_
  refine a_puti rfl pfX12_3_12 rfl ?_
  refine a_l1 rfl rfl rfl ?_
  refine a_tsw (tg := 103) rfl (by decide) (by decide) ?_
  refine a_l0 rfl rfl rfl ?_
  refine a_eV1 rfl lX12_464 mo_X12_readyOnes (au_X12_readyOnes_162 h421_1 ) rfl rfl rfl ⟨12, _, rfl, rfl, rfl⟩ rfl ?_
  exact a_iret rfl rfl ⟨rfl, rfl⟩
theorem rr_X12_count_11 {S : aS} : RRet S m_X12_count 14 [.ref 420, .int 11] (some 0) 0 := RRet.of (fun I => up2 I 420 0 0) (fun I L w1 w2 t hz => au_X12_count_163 (hz.at rfl I0_421_1) ) (fun I hz => rfl)
theorem au_X11_shameOfWaiting_164 {S : aS} {I : Nat → Nat → Int32} {L : Nat → Nat → Int64} {w1 w2 t : Nat} (h235_3 : I 235 3 = 0)  : SpE S m_X11_shameOfWaiting 13 [.ref 200, .ref 235] (hp I L w1 w2 t) (some (.int 0)) (hp I L w1 w2 t) := by
  refine SpE_of ok_X11_shameOfWaiting rfl rfl ?_
  show AW S m_X11_shameOfWaiting 13 _ _ 0 0 0 [some (.ref 200), some (.ref 235)] [] (hp I L w1 w2 t)
  refine a_l0 rfl rfl rfl ?_
  refine a_getq rfl gfX11_44_11 rfl rfl ?_
  refine a_l1 rfl rfl rfl ?_
  refine a_l1 rfl rfl rfl ?_
  refine a_s rfl rfl ?_
  refine a_eV1 rfl lX11_200 mo_X5_bitsIn (au_X5_bitsIn_93 h235_3 ) rfl rfl rfl ⟨5, _, rfl, rfl, rfl⟩ rfl ?_
  refine a_eV1 rfl lX11_282 mo_X2_shameOfSet (au_X2_shameOfSet_101 h235_3 ) rfl rfl rfl ⟨2, _, rfl, rfl, rfl⟩ rfl ?_
  exact a_iret rfl rfl ⟨rfl, rfl⟩
theorem au_X11_count_165 {S : aS} {I : Nat → Nat → Int32} {L : Nat → Nat → Int64} {w1 w2 t : Nat} (h235_3 : I 235 3 = 0)  : SpE S m_X11_count 14 [.ref 200, .int 12] (hp I L w1 w2 t) (some (.int 0)) (hp I L w1 w2 t) := by
  refine SpE_of ok_X11_count rfl rfl ?_
  show AW S m_X11_count 14 _ _ 0 0 0 [some (.ref 200), some (.int 12)] [] (hp I L w1 w2 t)
  refine a_l1 rfl rfl rfl ?_
  refine a_tsw (tg := 174) rfl (by decide) (by decide) ?_
  refine a_l0 rfl rfl rfl ?_
  refine a_l0 rfl rfl rfl ?_
  refine a_getq rfl gfX11_37_11 rfl rfl ?_
  refine a_eV1 rfl lX11_207 mo_X11_shameOfWaiting (au_X11_shameOfWaiting_164 h235_3 ) rfl rfl rfl ⟨11, _, rfl, rfl, rfl⟩ rfl ?_
  exact a_iret rfl rfl ⟨rfl, rfl⟩
theorem cr_X11_count_12 {S : aS} : CRet S m_X11_count 14 [.ref 200, .int 12] (some 0) := CRet.of (au_X11_count_165 I0_235_3 ) (fun _ _ => rfl)
theorem au_X12_count_166 {S : aS} {I : Nat → Nat → Int32} {L : Nat → Nat → Int64} {w1 w2 t : Nat} (h421_1 : I 421 1 = 0)  : SpE S m_X12_count 14 [.ref 420, .int 12] (hp I L w1 w2 t) (some (.int 0)) (hp (up2 I 420 0 0) L w1 w2 t) := by
  refine SpE_of ok_X12_count rfl rfl ?_
  show AW S m_X12_count 14 _ _ 0 0 0 [some (.ref 420), some (.int 12)] [] (hp I L w1 w2 t)
  refine a_l0 rfl rfl rfl ?_
  refine a_s rfl rfl ?_
  refine a_puti rfl pfX12_3_12 rfl ?_
  refine a_l1 rfl rfl rfl ?_
  refine a_tsw (tg := 108) rfl (by decide) (by decide) ?_
  refine a_l0 rfl rfl rfl ?_
  refine a_l0 rfl rfl rfl ?_
  refine a_s rfl rfl ?_
  refine a_eV1 rfl lX12_324 mo_X12_ofState (au_X12_ofState_6 h421_1 ) rfl rfl rfl ⟨12, _, rfl, rfl, rfl⟩ rfl ?_
  refine a_eV1 rfl lX12_339 mo_X12_shameOf (au_X12_shameOf_98 h421_1 ) rfl rfl rfl ⟨12, _, rfl, rfl, rfl⟩ rfl ?_
  exact a_iret rfl rfl ⟨rfl, rfl⟩
theorem rr_X12_count_12 {S : aS} : RRet S m_X12_count 14 [.ref 420, .int 12] (some 0) 0 := RRet.of (fun I => up2 I 420 0 0) (fun I L w1 w2 t hz => au_X12_count_166 (hz.at rfl I0_421_1) ) (fun I hz => rfl)
theorem au_X11_count_167 {S : aS} {I : Nat → Nat → Int32} {L : Nat → Nat → Int64} {w1 w2 t : Nat} (h244_0 : I 244 0 = 0)  : SpE S m_X11_count 12 [.ref 200, .int 13] (hp I L w1 w2 t) (some (.int 0)) (hp I L w1 w2 t) := by
  refine SpE_of ok_X11_count rfl rfl ?_
  show AW S m_X11_count 12 _ _ 0 0 0 [some (.ref 200), some (.int 13)] [] (hp I L w1 w2 t)
  refine a_l1 rfl rfl rfl ?_
  refine a_tsw (tg := 183) rfl (by decide) (by decide) ?_
  refine a_l0 rfl rfl rfl ?_
  refine a_getq rfl gfX11_37_11 rfl rfl ?_
  refine a_getq rfl gfX11_211_5 rfl rfl ?_
  refine a_getiv (v := 0) rfl gfX11_215_1 rfl h244_0 ?_
  exact a_iret rfl rfl ⟨rfl, rfl⟩
theorem cr_X11_count_13 {S : aS} : CRet S m_X11_count 12 [.ref 200, .int 13] (some 0) := CRet.of (au_X11_count_167 I0_244_0 ) (fun _ _ => rfl)
theorem au_X12_count_168 {S : aS} {I : Nat → Nat → Int32} {L : Nat → Nat → Int64} {w1 w2 t : Nat} (h421_9 : I 421 9 = 0)  : SpE S m_X12_count 12 [.ref 420, .int 13] (hp I L w1 w2 t) (some (.int 0)) (hp (up2 I 420 0 0) L w1 w2 t) := by
  refine SpE_of ok_X12_count rfl rfl ?_
  show AW S m_X12_count 12 _ _ 0 0 0 [some (.ref 420), some (.int 13)] [] (hp I L w1 w2 t)
  refine a_l0 rfl rfl rfl ?_
  refine a_s rfl rfl ?_
  refine a_puti rfl pfX12_3_12 rfl ?_
  refine a_l1 rfl rfl rfl ?_
  refine a_tsw (tg := 118) rfl (by decide) (by decide) ?_
  refine a_l0 rfl rfl rfl ?_
  refine a_getq rfl gfX12_13_12 rfl rfl ?_
  refine a_s rfl rfl ?_
  refine a_ialdv (v := 0) rfl (n := 2033) rfl ⟨by decide, by decide⟩ h421_9 ?_
  exact a_iret rfl rfl ⟨rfl, rfl⟩
theorem rr_X12_count_13 {S : aS} : RRet S m_X12_count 12 [.ref 420, .int 13] (some 0) 0 := RRet.of (fun I => up2 I 420 0 0) (fun I L w1 w2 t hz => au_X12_count_168 (hz.at rfl I0_421_9) ) (fun I hz => rfl)
theorem I0_200_13 : I0 200 13 = 0 := by decide +kernel
theorem au_X11_count_169 {S : aS} {I : Nat → Nat → Int32} {L : Nat → Nat → Int64} {w1 w2 t : Nat} (h200_13 : I 200 13 = 0)  : SpE S m_X11_count 12 [.ref 200, .int 14] (hp I L w1 w2 t) (some (.int 0)) (hp I L w1 w2 t) := by
  refine SpE_of ok_X11_count rfl rfl ?_
  show AW S m_X11_count 12 _ _ 0 0 0 [some (.ref 200), some (.int 14)] [] (hp I L w1 w2 t)
  refine a_l1 rfl rfl rfl ?_
  refine a_tsw (tg := 194) rfl (by decide) (by decide) ?_
  refine a_l0 rfl rfl rfl ?_
  refine a_getiv (v := 0) rfl gfX11_95_11 rfl h200_13 ?_
  exact a_iret rfl rfl ⟨rfl, rfl⟩
theorem cr_X11_count_14 {S : aS} : CRet S m_X11_count 12 [.ref 200, .int 14] (some 0) := CRet.of (au_X11_count_169 I0_200_13 ) (fun _ _ => rfl)
theorem I0_420_7 : I0 420 7 = 0 := by decide +kernel
theorem au_X12_count_170 {S : aS} {I : Nat → Nat → Int32} {L : Nat → Nat → Int64} {w1 w2 t : Nat} (h420_7 : I 420 7 = 0)  : SpE S m_X12_count 12 [.ref 420, .int 14] (hp I L w1 w2 t) (some (.int 0)) (hp (up2 I 420 0 0) L w1 w2 t) := by
  refine SpE_of ok_X12_count rfl rfl ?_
  show AW S m_X12_count 12 _ _ 0 0 0 [some (.ref 420), some (.int 14)] [] (hp I L w1 w2 t)
  refine a_l0 rfl rfl rfl ?_
  refine a_s rfl rfl ?_
  refine a_puti rfl pfX12_3_12 rfl ?_
  refine a_l1 rfl rfl rfl ?_
  refine a_tsw (tg := 126) rfl (by decide) (by decide) ?_
  refine a_l0 rfl rfl rfl ?_
  refine a_getiv (v := 0) rfl gfX12_53_12 rfl h420_7 ?_
  exact a_iret rfl rfl ⟨rfl, rfl⟩
theorem rr_X12_count_14 {S : aS} : RRet S m_X12_count 12 [.ref 420, .int 14] (some 0) 0 := RRet.of (fun I => up2 I 420 0 0) (fun I L w1 w2 t hz => au_X12_count_170 (hz.at rfl I0_420_7) ) (fun I hz => rfl)
theorem inB_tsw {x : Int32} (h : x.toInt < 0 ∨ 14 < x.toInt) : inB x 0 8 = false := by
  refine decide_eq_false fun z => ?_
  have h1 := Int32.le_iff_toInt_le.mp z.1
  have h2 := Int32.le_iff_toInt_le.mp z.2
  have h3 : (8 : Int32).toInt = 8 := rfl
  have h4 : (0 : Int32).toInt = 0 := rfl
  omega
theorem au_X11_count_171 {S : aS} {I : Nat → Nat → Int32} {L : Nat → Nat → Int64} {w1 w2 t : Nat} {x1 : Int32}  (q0 : x1.toInt < 0 ∨ 14 < x1.toInt) : SpE S m_X11_count 12 [.ref 200, .int x1] (hp I L w1 w2 t) (some (.int (-1))) (hp I L w1 w2 t) := by
  refine SpE_of ok_X11_count rfl rfl ?_
  show AW S m_X11_count 12 _ _ 0 0 0 [some (.ref 200), some (.int x1)] [] (hp I L w1 w2 t)
  refine a_l1 rfl rfl rfl ?_
  refine a_tsw (tg := 199) rfl (swT_out (q0) rfl) (by decide) ?_
  refine a_s rfl rfl ?_
  exact a_iret rfl rfl ⟨rfl, rfl⟩
theorem cr_X11_count_y {S : aS} {x0 : Int32} (q : x0.toInt < 0 ∨ 14 < x0.toInt) : CRet S m_X11_count 12 [.ref 200, .int x0] (some (-1)) := CRet.of (au_X11_count_171  (q)) (fun _ _ => rfl)
theorem au_X12_count_172 {S : aS} {I : Nat → Nat → Int32} {L : Nat → Nat → Int64} {w1 w2 t : Nat} {x1 : Int32}  (q0 : x1.toInt < 3 ∨ 14 < x1.toInt) (q1 : inB x1 0 8 = false) : SpE S m_X12_count 13 [.ref 420, .int x1] (hp I L w1 w2 t) (some (.int (-1))) (hp (up2 I 420 0 0) L w1 w2 t) := by
  refine SpE_of ok_X12_count rfl rfl ?_
  show AW S m_X12_count 13 _ _ 0 0 0 [some (.ref 420), some (.int x1)] [] (hp I L w1 w2 t)
  refine a_l0 rfl rfl rfl ?_
  refine a_s rfl rfl ?_
  refine a_puti rfl pfX12_3_12 rfl ?_
  refine a_l1 rfl rfl rfl ?_
  refine a_tsw (tg := 131) rfl (swT_out (q0) rfl) (by decide) ?_
  refine a_l1 rfl rfl rfl ?_
  refine a_s rfl rfl ?_
  refine a_s rfl rfl ?_
  refine a_eS1 rfl lX12_70 mo_X12_in ((sp_X12_in (x := x1) (a := 0) (b := 8)).cast (r' := some (.int 0)) (by rw [q1]; rfl) rfl) rfl rfl rfl rfl ?_
  refine a_if_eq rfl (fun c138 => ?_) (fun c => absurd (by decide) c)
  refine a_s rfl rfl ?_
  exact a_iret rfl rfl ⟨rfl, rfl⟩
theorem rr_X12_count_y {S : aS} {x0 : Int32} (q : x0.toInt < 0 ∨ 14 < x0.toInt) : RRet S m_X12_count 13 [.ref 420, .int x0] (some (-1)) 0 := RRet.of (fun I => up2 I 420 0 0) (fun I L w1 w2 t hz => au_X12_count_172  (by omega) (inB_tsw q)) (fun I hz => rfl)
theorem op_57_0 {xs : Nat → Int32} (e : xs 1 = 0) : OpOk xs 2896 := by
  have c : CRet (S1 6 xs) m_X11_count 12 [.ref 200, .int (xs 1)] (some 0) := by rw [e]; exact cr_X11_count_0
  have r : RRet (S1 6 xs) m_X12_count 13 [.ref 420, .int (xs 1)] (some 0) 0 := by rw [e]; exact rr_X12_count_0
  show AW (S1 6 xs) m_L_main 1050 QM XM 599770 7281900 2896 [some (.ref 199), some (.ref 200), some (.ref 420), some (.ref 431), some (.int 0), none, none] [] (hp I0 L0 0 0 432)
  refine a_l1 rfl rfl rfl ?_
  refine a_l0 rfl rfl rfl ?_
  refine a_l4 rfl rfl rfl ?_
  refine a_s rfl rfl ?_
  refine a_s rfl rfl ?_
  refine a_ialdc rfl scr_mem ⟨by decide, by decide⟩ ?_
  refine a_callV rfl lL_339 mo_X11_count (c) rfl rfl rfl ⟨11, _, rfl, rfl, rfl⟩ rfl (fun v h' hv => ?_) (fun E h' hx => False.elim hx)
  obtain ⟨rfl, I, w1, w2, t, rfl, hz⟩ := hv
  refine a_l2 rfl rfl rfl ?_
  refine a_l0 rfl rfl rfl ?_
  refine a_l4 rfl rfl rfl ?_
  refine a_s rfl rfl ?_
  refine a_s rfl rfl ?_
  refine a_ialdc rfl scr_mem ⟨by decide, by decide⟩ ?_
  refine a_callV rfl lL_342 mo_X12_count (r I _ w1 w2 t hz) rfl rfl rfl ⟨12, _, rfl, rfl, rfl⟩ rfl (fun v h' hv => ?_) (fun E h' hx => False.elim hx)
  obtain ⟨rfl, I', L', w1', w2', t', rfl, hk, hL⟩ := hv
  refine a_ic_eq rfl (fun c2916 => ?_) (fun c => absurd (rfl) c)
  exact fin_ok
theorem op_57_1 {xs : Nat → Int32} (e : xs 1 = 1) : OpOk xs 2896 := by
  have c : CRet (S1 6 xs) m_X11_count 12 [.ref 200, .int (xs 1)] (some 0) := by rw [e]; exact cr_X11_count_1
  have r : RRet (S1 6 xs) m_X12_count 13 [.ref 420, .int (xs 1)] (some 0) 0 := by rw [e]; exact rr_X12_count_1
  show AW (S1 6 xs) m_L_main 1050 QM XM 599770 7281900 2896 [some (.ref 199), some (.ref 200), some (.ref 420), some (.ref 431), some (.int 0), none, none] [] (hp I0 L0 0 0 432)
  refine a_l1 rfl rfl rfl ?_
  refine a_l0 rfl rfl rfl ?_
  refine a_l4 rfl rfl rfl ?_
  refine a_s rfl rfl ?_
  refine a_s rfl rfl ?_
  refine a_ialdc rfl scr_mem ⟨by decide, by decide⟩ ?_
  refine a_callV rfl lL_339 mo_X11_count (c) rfl rfl rfl ⟨11, _, rfl, rfl, rfl⟩ rfl (fun v h' hv => ?_) (fun E h' hx => False.elim hx)
  obtain ⟨rfl, I, w1, w2, t, rfl, hz⟩ := hv
  refine a_l2 rfl rfl rfl ?_
  refine a_l0 rfl rfl rfl ?_
  refine a_l4 rfl rfl rfl ?_
  refine a_s rfl rfl ?_
  refine a_s rfl rfl ?_
  refine a_ialdc rfl scr_mem ⟨by decide, by decide⟩ ?_
  refine a_callV rfl lL_342 mo_X12_count (r I _ w1 w2 t hz) rfl rfl rfl ⟨12, _, rfl, rfl, rfl⟩ rfl (fun v h' hv => ?_) (fun E h' hx => False.elim hx)
  obtain ⟨rfl, I', L', w1', w2', t', rfl, hk, hL⟩ := hv
  refine a_ic_eq rfl (fun c2916 => ?_) (fun c => absurd (rfl) c)
  exact fin_ok
theorem op_57_2 {xs : Nat → Int32} (e : xs 1 = 2) : OpOk xs 2896 := by
  have c : CRet (S1 6 xs) m_X11_count 12 [.ref 200, .int (xs 1)] (some 0) := by rw [e]; exact cr_X11_count_2
  have r : RRet (S1 6 xs) m_X12_count 13 [.ref 420, .int (xs 1)] (some 0) 0 := by rw [e]; exact rr_X12_count_2
  show AW (S1 6 xs) m_L_main 1050 QM XM 599770 7281900 2896 [some (.ref 199), some (.ref 200), some (.ref 420), some (.ref 431), some (.int 0), none, none] [] (hp I0 L0 0 0 432)
  refine a_l1 rfl rfl rfl ?_
  refine a_l0 rfl rfl rfl ?_
  refine a_l4 rfl rfl rfl ?_
  refine a_s rfl rfl ?_
  refine a_s rfl rfl ?_
  refine a_ialdc rfl scr_mem ⟨by decide, by decide⟩ ?_
  refine a_callV rfl lL_339 mo_X11_count (c) rfl rfl rfl ⟨11, _, rfl, rfl, rfl⟩ rfl (fun v h' hv => ?_) (fun E h' hx => False.elim hx)
  obtain ⟨rfl, I, w1, w2, t, rfl, hz⟩ := hv
  refine a_l2 rfl rfl rfl ?_
  refine a_l0 rfl rfl rfl ?_
  refine a_l4 rfl rfl rfl ?_
  refine a_s rfl rfl ?_
  refine a_s rfl rfl ?_
  refine a_ialdc rfl scr_mem ⟨by decide, by decide⟩ ?_
  refine a_callV rfl lL_342 mo_X12_count (r I _ w1 w2 t hz) rfl rfl rfl ⟨12, _, rfl, rfl, rfl⟩ rfl (fun v h' hv => ?_) (fun E h' hx => False.elim hx)
  obtain ⟨rfl, I', L', w1', w2', t', rfl, hk, hL⟩ := hv
  refine a_ic_eq rfl (fun c2916 => ?_) (fun c => absurd (rfl) c)
  exact fin_ok
theorem op_57_3 {xs : Nat → Int32} (e : xs 1 = 3) : OpOk xs 2896 := by
  have c : CRet (S1 6 xs) m_X11_count 12 [.ref 200, .int (xs 1)] (some (-1)) := by rw [e]; exact cr_X11_count_3
  have r : RRet (S1 6 xs) m_X12_count 12 [.ref 420, .int (xs 1)] (some (-1)) 0 := by rw [e]; exact rr_X12_count_3
  show AW (S1 6 xs) m_L_main 1050 QM XM 599770 7281900 2896 [some (.ref 199), some (.ref 200), some (.ref 420), some (.ref 431), some (.int 0), none, none] [] (hp I0 L0 0 0 432)
  refine a_l1 rfl rfl rfl ?_
  refine a_l0 rfl rfl rfl ?_
  refine a_l4 rfl rfl rfl ?_
  refine a_s rfl rfl ?_
  refine a_s rfl rfl ?_
  refine a_ialdc rfl scr_mem ⟨by decide, by decide⟩ ?_
  refine a_callV rfl lL_339 mo_X11_count (c) rfl rfl rfl ⟨11, _, rfl, rfl, rfl⟩ rfl (fun v h' hv => ?_) (fun E h' hx => False.elim hx)
  obtain ⟨rfl, I, w1, w2, t, rfl, hz⟩ := hv
  refine a_l2 rfl rfl rfl ?_
  refine a_l0 rfl rfl rfl ?_
  refine a_l4 rfl rfl rfl ?_
  refine a_s rfl rfl ?_
  refine a_s rfl rfl ?_
  refine a_ialdc rfl scr_mem ⟨by decide, by decide⟩ ?_
  refine a_callV rfl lL_342 mo_X12_count (r I _ w1 w2 t hz) rfl rfl rfl ⟨12, _, rfl, rfl, rfl⟩ rfl (fun v h' hv => ?_) (fun E h' hx => False.elim hx)
  obtain ⟨rfl, I', L', w1', w2', t', rfl, hk, hL⟩ := hv
  refine a_ic_eq rfl (fun c2916 => ?_) (fun c => absurd (rfl) c)
  exact fin_ok
theorem op_57_4 {xs : Nat → Int32} (e : xs 1 = 4) : OpOk xs 2896 := by
  have c : CRet (S1 6 xs) m_X11_count 12 [.ref 200, .int (xs 1)] (some 1) := by rw [e]; exact cr_X11_count_4
  have r : RRet (S1 6 xs) m_X12_count 13 [.ref 420, .int (xs 1)] (some 1) 0 := by rw [e]; exact rr_X12_count_4
  show AW (S1 6 xs) m_L_main 1050 QM XM 599770 7281900 2896 [some (.ref 199), some (.ref 200), some (.ref 420), some (.ref 431), some (.int 0), none, none] [] (hp I0 L0 0 0 432)
  refine a_l1 rfl rfl rfl ?_
  refine a_l0 rfl rfl rfl ?_
  refine a_l4 rfl rfl rfl ?_
  refine a_s rfl rfl ?_
  refine a_s rfl rfl ?_
  refine a_ialdc rfl scr_mem ⟨by decide, by decide⟩ ?_
  refine a_callV rfl lL_339 mo_X11_count (c) rfl rfl rfl ⟨11, _, rfl, rfl, rfl⟩ rfl (fun v h' hv => ?_) (fun E h' hx => False.elim hx)
  obtain ⟨rfl, I, w1, w2, t, rfl, hz⟩ := hv
  refine a_l2 rfl rfl rfl ?_
  refine a_l0 rfl rfl rfl ?_
  refine a_l4 rfl rfl rfl ?_
  refine a_s rfl rfl ?_
  refine a_s rfl rfl ?_
  refine a_ialdc rfl scr_mem ⟨by decide, by decide⟩ ?_
  refine a_callV rfl lL_342 mo_X12_count (r I _ w1 w2 t hz) rfl rfl rfl ⟨12, _, rfl, rfl, rfl⟩ rfl (fun v h' hv => ?_) (fun E h' hx => False.elim hx)
  obtain ⟨rfl, I', L', w1', w2', t', rfl, hk, hL⟩ := hv
  refine a_ic_eq rfl (fun c2916 => ?_) (fun c => absurd (rfl) c)
  exact fin_ok
theorem op_57_5 {xs : Nat → Int32} (e : xs 1 = 5) : OpOk xs 2896 := by
  have c : CRet (S1 6 xs) m_X11_count 12 [.ref 200, .int (xs 1)] (some 0) := by rw [e]; exact cr_X11_count_5
  have r : RRet (S1 6 xs) m_X12_count 13 [.ref 420, .int (xs 1)] (some 0) 0 := by rw [e]; exact rr_X12_count_5
  show AW (S1 6 xs) m_L_main 1050 QM XM 599770 7281900 2896 [some (.ref 199), some (.ref 200), some (.ref 420), some (.ref 431), some (.int 0), none, none] [] (hp I0 L0 0 0 432)
  refine a_l1 rfl rfl rfl ?_
  refine a_l0 rfl rfl rfl ?_
  refine a_l4 rfl rfl rfl ?_
  refine a_s rfl rfl ?_
  refine a_s rfl rfl ?_
  refine a_ialdc rfl scr_mem ⟨by decide, by decide⟩ ?_
  refine a_callV rfl lL_339 mo_X11_count (c) rfl rfl rfl ⟨11, _, rfl, rfl, rfl⟩ rfl (fun v h' hv => ?_) (fun E h' hx => False.elim hx)
  obtain ⟨rfl, I, w1, w2, t, rfl, hz⟩ := hv
  refine a_l2 rfl rfl rfl ?_
  refine a_l0 rfl rfl rfl ?_
  refine a_l4 rfl rfl rfl ?_
  refine a_s rfl rfl ?_
  refine a_s rfl rfl ?_
  refine a_ialdc rfl scr_mem ⟨by decide, by decide⟩ ?_
  refine a_callV rfl lL_342 mo_X12_count (r I _ w1 w2 t hz) rfl rfl rfl ⟨12, _, rfl, rfl, rfl⟩ rfl (fun v h' hv => ?_) (fun E h' hx => False.elim hx)
  obtain ⟨rfl, I', L', w1', w2', t', rfl, hk, hL⟩ := hv
  refine a_ic_eq rfl (fun c2916 => ?_) (fun c => absurd (rfl) c)
  exact fin_ok
theorem op_57_6 {xs : Nat → Int32} (e : xs 1 = 6) : OpOk xs 2896 := by
  have c : CRet (S1 6 xs) m_X11_count 12 [.ref 200, .int (xs 1)] (some 0) := by rw [e]; exact cr_X11_count_6
  have r : RRet (S1 6 xs) m_X12_count 13 [.ref 420, .int (xs 1)] (some 0) 0 := by rw [e]; exact rr_X12_count_6
  show AW (S1 6 xs) m_L_main 1050 QM XM 599770 7281900 2896 [some (.ref 199), some (.ref 200), some (.ref 420), some (.ref 431), some (.int 0), none, none] [] (hp I0 L0 0 0 432)
  refine a_l1 rfl rfl rfl ?_
  refine a_l0 rfl rfl rfl ?_
  refine a_l4 rfl rfl rfl ?_
  refine a_s rfl rfl ?_
  refine a_s rfl rfl ?_
  refine a_ialdc rfl scr_mem ⟨by decide, by decide⟩ ?_
  refine a_callV rfl lL_339 mo_X11_count (c) rfl rfl rfl ⟨11, _, rfl, rfl, rfl⟩ rfl (fun v h' hv => ?_) (fun E h' hx => False.elim hx)
  obtain ⟨rfl, I, w1, w2, t, rfl, hz⟩ := hv
  refine a_l2 rfl rfl rfl ?_
  refine a_l0 rfl rfl rfl ?_
  refine a_l4 rfl rfl rfl ?_
  refine a_s rfl rfl ?_
  refine a_s rfl rfl ?_
  refine a_ialdc rfl scr_mem ⟨by decide, by decide⟩ ?_
  refine a_callV rfl lL_342 mo_X12_count (r I _ w1 w2 t hz) rfl rfl rfl ⟨12, _, rfl, rfl, rfl⟩ rfl (fun v h' hv => ?_) (fun E h' hx => False.elim hx)
  obtain ⟨rfl, I', L', w1', w2', t', rfl, hk, hL⟩ := hv
  refine a_ic_eq rfl (fun c2916 => ?_) (fun c => absurd (rfl) c)
  exact fin_ok
theorem op_57_7 {xs : Nat → Int32} (e : xs 1 = 7) : OpOk xs 2896 := by
  have c : CRet (S1 6 xs) m_X11_count 12 [.ref 200, .int (xs 1)] (some 2) := by rw [e]; exact cr_X11_count_7
  have r : RRet (S1 6 xs) m_X12_count 13 [.ref 420, .int (xs 1)] (some 2) 0 := by rw [e]; exact rr_X12_count_7
  show AW (S1 6 xs) m_L_main 1050 QM XM 599770 7281900 2896 [some (.ref 199), some (.ref 200), some (.ref 420), some (.ref 431), some (.int 0), none, none] [] (hp I0 L0 0 0 432)
  refine a_l1 rfl rfl rfl ?_
  refine a_l0 rfl rfl rfl ?_
  refine a_l4 rfl rfl rfl ?_
  refine a_s rfl rfl ?_
  refine a_s rfl rfl ?_
  refine a_ialdc rfl scr_mem ⟨by decide, by decide⟩ ?_
  refine a_callV rfl lL_339 mo_X11_count (c) rfl rfl rfl ⟨11, _, rfl, rfl, rfl⟩ rfl (fun v h' hv => ?_) (fun E h' hx => False.elim hx)
  obtain ⟨rfl, I, w1, w2, t, rfl, hz⟩ := hv
  refine a_l2 rfl rfl rfl ?_
  refine a_l0 rfl rfl rfl ?_
  refine a_l4 rfl rfl rfl ?_
  refine a_s rfl rfl ?_
  refine a_s rfl rfl ?_
  refine a_ialdc rfl scr_mem ⟨by decide, by decide⟩ ?_
  refine a_callV rfl lL_342 mo_X12_count (r I _ w1 w2 t hz) rfl rfl rfl ⟨12, _, rfl, rfl, rfl⟩ rfl (fun v h' hv => ?_) (fun E h' hx => False.elim hx)
  obtain ⟨rfl, I', L', w1', w2', t', rfl, hk, hL⟩ := hv
  refine a_ic_eq rfl (fun c2916 => ?_) (fun c => absurd (rfl) c)
  exact fin_ok
theorem op_57_8 {xs : Nat → Int32} (e : xs 1 = 8) : OpOk xs 2896 := by
  have c : CRet (S1 6 xs) m_X11_count 12 [.ref 200, .int (xs 1)] (some 3) := by rw [e]; exact cr_X11_count_8
  have r : RRet (S1 6 xs) m_X12_count 13 [.ref 420, .int (xs 1)] (some 3) 0 := by rw [e]; exact rr_X12_count_8
  show AW (S1 6 xs) m_L_main 1050 QM XM 599770 7281900 2896 [some (.ref 199), some (.ref 200), some (.ref 420), some (.ref 431), some (.int 0), none, none] [] (hp I0 L0 0 0 432)
  refine a_l1 rfl rfl rfl ?_
  refine a_l0 rfl rfl rfl ?_
  refine a_l4 rfl rfl rfl ?_
  refine a_s rfl rfl ?_
  refine a_s rfl rfl ?_
  refine a_ialdc rfl scr_mem ⟨by decide, by decide⟩ ?_
  refine a_callV rfl lL_339 mo_X11_count (c) rfl rfl rfl ⟨11, _, rfl, rfl, rfl⟩ rfl (fun v h' hv => ?_) (fun E h' hx => False.elim hx)
  obtain ⟨rfl, I, w1, w2, t, rfl, hz⟩ := hv
  refine a_l2 rfl rfl rfl ?_
  refine a_l0 rfl rfl rfl ?_
  refine a_l4 rfl rfl rfl ?_
  refine a_s rfl rfl ?_
  refine a_s rfl rfl ?_
  refine a_ialdc rfl scr_mem ⟨by decide, by decide⟩ ?_
  refine a_callV rfl lL_342 mo_X12_count (r I _ w1 w2 t hz) rfl rfl rfl ⟨12, _, rfl, rfl, rfl⟩ rfl (fun v h' hv => ?_) (fun E h' hx => False.elim hx)
  obtain ⟨rfl, I', L', w1', w2', t', rfl, hk, hL⟩ := hv
  refine a_ic_eq rfl (fun c2916 => ?_) (fun c => absurd (rfl) c)
  exact fin_ok
theorem op_57_9 {xs : Nat → Int32} (e : xs 1 = 9) : OpOk xs 2896 := by
  have c : CRet (S1 6 xs) m_X11_count 13 [.ref 200, .int (xs 1)] (some 0) := by rw [e]; exact cr_X11_count_9
  have r : RRet (S1 6 xs) m_X12_count 14 [.ref 420, .int (xs 1)] (some 0) 0 := by rw [e]; exact rr_X12_count_9
  show AW (S1 6 xs) m_L_main 1050 QM XM 599770 7281900 2896 [some (.ref 199), some (.ref 200), some (.ref 420), some (.ref 431), some (.int 0), none, none] [] (hp I0 L0 0 0 432)
  refine a_l1 rfl rfl rfl ?_
  refine a_l0 rfl rfl rfl ?_
  refine a_l4 rfl rfl rfl ?_
  refine a_s rfl rfl ?_
  refine a_s rfl rfl ?_
  refine a_ialdc rfl scr_mem ⟨by decide, by decide⟩ ?_
  refine a_callV rfl lL_339 mo_X11_count (c) rfl rfl rfl ⟨11, _, rfl, rfl, rfl⟩ rfl (fun v h' hv => ?_) (fun E h' hx => False.elim hx)
  obtain ⟨rfl, I, w1, w2, t, rfl, hz⟩ := hv
  refine a_l2 rfl rfl rfl ?_
  refine a_l0 rfl rfl rfl ?_
  refine a_l4 rfl rfl rfl ?_
  refine a_s rfl rfl ?_
  refine a_s rfl rfl ?_
  refine a_ialdc rfl scr_mem ⟨by decide, by decide⟩ ?_
  refine a_callV rfl lL_342 mo_X12_count (r I _ w1 w2 t hz) rfl rfl rfl ⟨12, _, rfl, rfl, rfl⟩ rfl (fun v h' hv => ?_) (fun E h' hx => False.elim hx)
  obtain ⟨rfl, I', L', w1', w2', t', rfl, hk, hL⟩ := hv
  refine a_ic_eq rfl (fun c2916 => ?_) (fun c => absurd (rfl) c)
  exact fin_ok
theorem op_57_10 {xs : Nat → Int32} (e : xs 1 = 10) : OpOk xs 2896 := by
  have c : CRet (S1 6 xs) m_X11_count 13 [.ref 200, .int (xs 1)] (some 0) := by rw [e]; exact cr_X11_count_10
  have r : RRet (S1 6 xs) m_X12_count 14 [.ref 420, .int (xs 1)] (some 0) 0 := by rw [e]; exact rr_X12_count_10
  show AW (S1 6 xs) m_L_main 1050 QM XM 599770 7281900 2896 [some (.ref 199), some (.ref 200), some (.ref 420), some (.ref 431), some (.int 0), none, none] [] (hp I0 L0 0 0 432)
  refine a_l1 rfl rfl rfl ?_
  refine a_l0 rfl rfl rfl ?_
  refine a_l4 rfl rfl rfl ?_
  refine a_s rfl rfl ?_
  refine a_s rfl rfl ?_
  refine a_ialdc rfl scr_mem ⟨by decide, by decide⟩ ?_
  refine a_callV rfl lL_339 mo_X11_count (c) rfl rfl rfl ⟨11, _, rfl, rfl, rfl⟩ rfl (fun v h' hv => ?_) (fun E h' hx => False.elim hx)
  obtain ⟨rfl, I, w1, w2, t, rfl, hz⟩ := hv
  refine a_l2 rfl rfl rfl ?_
  refine a_l0 rfl rfl rfl ?_
  refine a_l4 rfl rfl rfl ?_
  refine a_s rfl rfl ?_
  refine a_s rfl rfl ?_
  refine a_ialdc rfl scr_mem ⟨by decide, by decide⟩ ?_
  refine a_callV rfl lL_342 mo_X12_count (r I _ w1 w2 t hz) rfl rfl rfl ⟨12, _, rfl, rfl, rfl⟩ rfl (fun v h' hv => ?_) (fun E h' hx => False.elim hx)
  obtain ⟨rfl, I', L', w1', w2', t', rfl, hk, hL⟩ := hv
  refine a_ic_eq rfl (fun c2916 => ?_) (fun c => absurd (rfl) c)
  exact fin_ok
theorem op_57_11 {xs : Nat → Int32} (e : xs 1 = 11) : OpOk xs 2896 := by
  have c : CRet (S1 6 xs) m_X11_count 13 [.ref 200, .int (xs 1)] (some 0) := by rw [e]; exact cr_X11_count_11
  have r : RRet (S1 6 xs) m_X12_count 14 [.ref 420, .int (xs 1)] (some 0) 0 := by rw [e]; exact rr_X12_count_11
  show AW (S1 6 xs) m_L_main 1050 QM XM 599770 7281900 2896 [some (.ref 199), some (.ref 200), some (.ref 420), some (.ref 431), some (.int 0), none, none] [] (hp I0 L0 0 0 432)
  refine a_l1 rfl rfl rfl ?_
  refine a_l0 rfl rfl rfl ?_
  refine a_l4 rfl rfl rfl ?_
  refine a_s rfl rfl ?_
  refine a_s rfl rfl ?_
  refine a_ialdc rfl scr_mem ⟨by decide, by decide⟩ ?_
  refine a_callV rfl lL_339 mo_X11_count (c) rfl rfl rfl ⟨11, _, rfl, rfl, rfl⟩ rfl (fun v h' hv => ?_) (fun E h' hx => False.elim hx)
  obtain ⟨rfl, I, w1, w2, t, rfl, hz⟩ := hv
  refine a_l2 rfl rfl rfl ?_
  refine a_l0 rfl rfl rfl ?_
  refine a_l4 rfl rfl rfl ?_
  refine a_s rfl rfl ?_
  refine a_s rfl rfl ?_
  refine a_ialdc rfl scr_mem ⟨by decide, by decide⟩ ?_
  refine a_callV rfl lL_342 mo_X12_count (r I _ w1 w2 t hz) rfl rfl rfl ⟨12, _, rfl, rfl, rfl⟩ rfl (fun v h' hv => ?_) (fun E h' hx => False.elim hx)
  obtain ⟨rfl, I', L', w1', w2', t', rfl, hk, hL⟩ := hv
  refine a_ic_eq rfl (fun c2916 => ?_) (fun c => absurd (rfl) c)
  exact fin_ok
theorem op_57_12 {xs : Nat → Int32} (e : xs 1 = 12) : OpOk xs 2896 := by
  have c : CRet (S1 6 xs) m_X11_count 14 [.ref 200, .int (xs 1)] (some 0) := by rw [e]; exact cr_X11_count_12
  have r : RRet (S1 6 xs) m_X12_count 14 [.ref 420, .int (xs 1)] (some 0) 0 := by rw [e]; exact rr_X12_count_12
  show AW (S1 6 xs) m_L_main 1050 QM XM 599770 7281900 2896 [some (.ref 199), some (.ref 200), some (.ref 420), some (.ref 431), some (.int 0), none, none] [] (hp I0 L0 0 0 432)
  refine a_l1 rfl rfl rfl ?_
  refine a_l0 rfl rfl rfl ?_
  refine a_l4 rfl rfl rfl ?_
  refine a_s rfl rfl ?_
  refine a_s rfl rfl ?_
  refine a_ialdc rfl scr_mem ⟨by decide, by decide⟩ ?_
  refine a_callV rfl lL_339 mo_X11_count (c) rfl rfl rfl ⟨11, _, rfl, rfl, rfl⟩ rfl (fun v h' hv => ?_) (fun E h' hx => False.elim hx)
  obtain ⟨rfl, I, w1, w2, t, rfl, hz⟩ := hv
  refine a_l2 rfl rfl rfl ?_
  refine a_l0 rfl rfl rfl ?_
  refine a_l4 rfl rfl rfl ?_
  refine a_s rfl rfl ?_
  refine a_s rfl rfl ?_
  refine a_ialdc rfl scr_mem ⟨by decide, by decide⟩ ?_
  refine a_callV rfl lL_342 mo_X12_count (r I _ w1 w2 t hz) rfl rfl rfl ⟨12, _, rfl, rfl, rfl⟩ rfl (fun v h' hv => ?_) (fun E h' hx => False.elim hx)
  obtain ⟨rfl, I', L', w1', w2', t', rfl, hk, hL⟩ := hv
  refine a_ic_eq rfl (fun c2916 => ?_) (fun c => absurd (rfl) c)
  exact fin_ok
theorem op_57_13 {xs : Nat → Int32} (e : xs 1 = 13) : OpOk xs 2896 := by
  have c : CRet (S1 6 xs) m_X11_count 12 [.ref 200, .int (xs 1)] (some 0) := by rw [e]; exact cr_X11_count_13
  have r : RRet (S1 6 xs) m_X12_count 12 [.ref 420, .int (xs 1)] (some 0) 0 := by rw [e]; exact rr_X12_count_13
  show AW (S1 6 xs) m_L_main 1050 QM XM 599770 7281900 2896 [some (.ref 199), some (.ref 200), some (.ref 420), some (.ref 431), some (.int 0), none, none] [] (hp I0 L0 0 0 432)
  refine a_l1 rfl rfl rfl ?_
  refine a_l0 rfl rfl rfl ?_
  refine a_l4 rfl rfl rfl ?_
  refine a_s rfl rfl ?_
  refine a_s rfl rfl ?_
  refine a_ialdc rfl scr_mem ⟨by decide, by decide⟩ ?_
  refine a_callV rfl lL_339 mo_X11_count (c) rfl rfl rfl ⟨11, _, rfl, rfl, rfl⟩ rfl (fun v h' hv => ?_) (fun E h' hx => False.elim hx)
  obtain ⟨rfl, I, w1, w2, t, rfl, hz⟩ := hv
  refine a_l2 rfl rfl rfl ?_
  refine a_l0 rfl rfl rfl ?_
  refine a_l4 rfl rfl rfl ?_
  refine a_s rfl rfl ?_
  refine a_s rfl rfl ?_
  refine a_ialdc rfl scr_mem ⟨by decide, by decide⟩ ?_
  refine a_callV rfl lL_342 mo_X12_count (r I _ w1 w2 t hz) rfl rfl rfl ⟨12, _, rfl, rfl, rfl⟩ rfl (fun v h' hv => ?_) (fun E h' hx => False.elim hx)
  obtain ⟨rfl, I', L', w1', w2', t', rfl, hk, hL⟩ := hv
  refine a_ic_eq rfl (fun c2916 => ?_) (fun c => absurd (rfl) c)
  exact fin_ok
theorem op_57_14 {xs : Nat → Int32} (e : xs 1 = 14) : OpOk xs 2896 := by
  have c : CRet (S1 6 xs) m_X11_count 12 [.ref 200, .int (xs 1)] (some 0) := by rw [e]; exact cr_X11_count_14
  have r : RRet (S1 6 xs) m_X12_count 12 [.ref 420, .int (xs 1)] (some 0) 0 := by rw [e]; exact rr_X12_count_14
  show AW (S1 6 xs) m_L_main 1050 QM XM 599770 7281900 2896 [some (.ref 199), some (.ref 200), some (.ref 420), some (.ref 431), some (.int 0), none, none] [] (hp I0 L0 0 0 432)
  refine a_l1 rfl rfl rfl ?_
  refine a_l0 rfl rfl rfl ?_
  refine a_l4 rfl rfl rfl ?_
  refine a_s rfl rfl ?_
  refine a_s rfl rfl ?_
  refine a_ialdc rfl scr_mem ⟨by decide, by decide⟩ ?_
  refine a_callV rfl lL_339 mo_X11_count (c) rfl rfl rfl ⟨11, _, rfl, rfl, rfl⟩ rfl (fun v h' hv => ?_) (fun E h' hx => False.elim hx)
  obtain ⟨rfl, I, w1, w2, t, rfl, hz⟩ := hv
  refine a_l2 rfl rfl rfl ?_
  refine a_l0 rfl rfl rfl ?_
  refine a_l4 rfl rfl rfl ?_
  refine a_s rfl rfl ?_
  refine a_s rfl rfl ?_
  refine a_ialdc rfl scr_mem ⟨by decide, by decide⟩ ?_
  refine a_callV rfl lL_342 mo_X12_count (r I _ w1 w2 t hz) rfl rfl rfl ⟨12, _, rfl, rfl, rfl⟩ rfl (fun v h' hv => ?_) (fun E h' hx => False.elim hx)
  obtain ⟨rfl, I', L', w1', w2', t', rfl, hk, hL⟩ := hv
  refine a_ic_eq rfl (fun c2916 => ?_) (fun c => absurd (rfl) c)
  exact fin_ok
theorem op_57_y {xs : Nat → Int32} (q : (xs 1).toInt < 0 ∨ 14 < (xs 1).toInt) : OpOk xs 2896 := by
  show AW (S1 6 xs) m_L_main 1050 QM XM 599770 7281900 2896 [some (.ref 199), some (.ref 200), some (.ref 420), some (.ref 431), some (.int 0), none, none] [] (hp I0 L0 0 0 432)
  refine a_l1 rfl rfl rfl ?_
  refine a_l0 rfl rfl rfl ?_
  refine a_l4 rfl rfl rfl ?_
  refine a_s rfl rfl ?_
  refine a_s rfl rfl ?_
  refine a_ialdc rfl scr_mem ⟨by decide, by decide⟩ ?_
  refine a_callV rfl lL_339 mo_X11_count (cr_X11_count_y q) rfl rfl rfl ⟨11, _, rfl, rfl, rfl⟩ rfl (fun v h' hv => ?_) (fun E h' hx => False.elim hx)
  obtain ⟨rfl, I, w1, w2, t, rfl, hz⟩ := hv
  refine a_l2 rfl rfl rfl ?_
  refine a_l0 rfl rfl rfl ?_
  refine a_l4 rfl rfl rfl ?_
  refine a_s rfl rfl ?_
  refine a_s rfl rfl ?_
  refine a_ialdc rfl scr_mem ⟨by decide, by decide⟩ ?_
  refine a_callV rfl lL_342 mo_X12_count (rr_X12_count_y q I _ w1 w2 t hz) rfl rfl rfl ⟨12, _, rfl, rfl, rfl⟩ rfl (fun v h' hv => ?_) (fun E h' hx => False.elim hx)
  obtain ⟨rfl, I', L', w1', w2', t', rfl, hk, hL⟩ := hv
  refine a_ic_eq rfl (fun c2916 => ?_) (fun c => absurd (rfl) c)
  exact fin_ok
theorem int_cases (x : Int32) : (x.toInt < 0 ∨ 14 < x.toInt) ∨ ∃ n : Nat, n < 15 ∧ x = nI n := by
  by_cases h : x.toInt < 0 ∨ 14 < x.toInt
  · exact Or.inl h
  · refine Or.inr ⟨x.toInt.toNat, by omega, ?_⟩
    apply Int32.toInt_inj.mp
    rw [nI_toInt (by omega)]
    omega
theorem op_57 {xs : Nat → Int32} : OpOk xs 2896 := by
  rcases int_cases (xs 1) with h | ⟨n, hn, e⟩
  · exact op_57_y h
  · rcases n with _ | _ | _ | _ | _ | _ | _ | _ | _ | _ | _ | _ | _ | _ | _ | n
    · exact op_57_0 e
    · exact op_57_1 e
    · exact op_57_2 e
    · exact op_57_3 e
    · exact op_57_4 e
    · exact op_57_5 e
    · exact op_57_6 e
    · exact op_57_7 e
    · exact op_57_8 e
    · exact op_57_9 e
    · exact op_57_10 e
    · exact op_57_11 e
    · exact op_57_12 e
    · exact op_57_13 e
    · exact op_57_14 e
    · omega
theorem au_X11_isGap_173 {S : aS} {I : Nat → Nat → Int32} {L : Nat → Nat → Int64} {w1 w2 t : Nat} {x1 : Int32} (h235_3 : I 235 3 = 0) (q0 : ¬ x1 < 0) (q1 : ¬ 99 ≤ x1) : SpE S m_X11_isGap 13 [.ref 200, .int x1] (hp I L w1 w2 t) (some (.int 0)) (hp I L w1 w2 t) := by
  refine SpE_of ok_X11_isGap rfl rfl ?_
  show AW S m_X11_isGap 13 _ _ 0 0 0 [some (.ref 200), some (.int x1), none] [] (hp I L w1 w2 t)
  refine a_l1 rfl rfl rfl ?_
  refine a_if_lt rfl (fun c => absurd c (q0)) (fun c1 => ?_)
  refine a_l1 rfl rfl rfl ?_
  refine a_s rfl rfl ?_
  refine a_ic_ge rfl (fun c => absurd c (q1)) (fun c7 => ?_)
  refine a_l0 rfl rfl rfl ?_
  refine a_getq rfl gfX11_37_11 rfl rfl ?_
  refine a_l1 rfl rfl rfl ?_
  refine a_eV1 rfl lX11_307 mo_X5_olderThan (au_X5_olderThan_75 h235_3 ) rfl rfl rfl ⟨5, _, rfl, rfl, rfl⟩ rfl ?_
  refine a_if_ne rfl (fun c => absurd c (by decide)) (fun c18 => ?_)
  refine a_s rfl rfl ?_
  exact a_zret rfl rfl rfl ⟨rfl, rfl⟩
theorem sp0_X11_gap {S : aS} {I : Nat → Nat → Int32} {L : Nat → Nat → Int64} {w1 w2 t : Nat} (hd : I 235 3 = 0) : SpE S m_X11_gap 14 [.ref 200] (hp I L w1 w2 t) (some (.int (-1))) (hp I L w1 w2 t) := by
  refine SpE_of ok_X11_gap rfl rfl ?_
  show AW S m_X11_gap 14 _ _ 0 0 0 [some (.ref 200), none] [] (hp I L w1 w2 t)
  refine a_s rfl rfl ?_
  refine a_s1 rfl rfl rfl rfl rfl rfl ?_
  refine a_forE (n := 99) (fun j => [some (.ref 200), some (.int (nI j))]) (fun j => hp I L w1 w2 t) (by simp [lsub, nI_0]) (rfl) ?_ (fun j hj ih2 => ?_)
  · refine a_l1 rfl rfl rfl ?_
    refine a_s rfl rfl ?_
    refine a_ic_ge rfl (fun c5 => ?_) (fun c => absurd (Int32.le_refl _) c)
    refine a_s rfl rfl ?_
    refine a_iret rfl rfl ⟨rfl, rfl⟩
  · refine a_l1 rfl rfl rfl ?_
    refine a_s rfl rfl ?_
    refine a_ic_ge rfl (fun c => absurd c (nI_ge (b := 99) hj (by omega))) (fun c5 => ?_)
    refine a_l0 rfl rfl rfl ?_
    refine a_l1 rfl rfl rfl ?_
    refine a_eV1 rfl lX11_316 mo_X11_isGap (au_X11_isGap_173 hd (nI_pos (by omega)) (nI_ge (b := 99) hj (by omega))) rfl rfl rfl ⟨11, _, rfl, rfl, rfl⟩ rfl ?_
    refine a_if_eq rfl (fun c13 => ?_) (fun c => absurd (rfl) c)
    refine a_i1 rfl rfl rfl ?_
    refine a_goto rfl ?_
    exact a_back ih2 (by simp [lsub, nI_1, *]) rfl
theorem au_X12_isGap_174 {S : aS} {I : Nat → Nat → Int32} {L : Nat → Nat → Int64} {w1 w2 t : Nat} {x1 : Int32} (h421_1 : I 421 1 = 0) (q0 : ¬ 99 ≤ x1) : SpE S m_X12_isGap 14 [.ref 420, .int x1] (hp I L w1 w2 t) (some (.int 0)) (hp I L w1 w2 t) := by
  refine SpE_of ok_X12_isGap rfl rfl ?_
  show AW S m_X12_isGap 14 _ _ 0 0 0 [some (.ref 420), some (.int x1), none, none] [] (hp I L w1 w2 t)
  refine a_l1 rfl rfl rfl ?_
  refine a_s rfl rfl ?_
  refine a_ic_ge rfl (fun c => absurd c (q0)) (fun c3 => ?_)
  refine a_s rfl rfl ?_
  refine a_goto rfl ?_
  refine a_s2 rfl rfl rfl rfl rfl rfl ?_
  refine a_s rfl rfl ?_
  refine a_s3 rfl rfl rfl rfl rfl rfl ?_
  refine a_l3 rfl rfl rfl ?_
  refine a_l0 rfl rfl rfl ?_
  refine a_eV1 rfl lX12_74 mo_X12_duties (au_X12_duties_4 h421_1 ) rfl rfl rfl ⟨12, _, rfl, rfl, rfl⟩ rfl ?_
  refine a_ic_ge rfl (fun c19 => ?_) (fun c => absurd (by decide) c)
  refine a_l2 rfl rfl rfl ?_
  refine a_if_eq rfl (fun c => absurd c (by decide)) (fun c57 => ?_)
  refine a_l0 rfl rfl rfl ?_
  refine a_l1 rfl rfl rfl ?_
  refine a_eV1 rfl lX12_429 mo_X12_olderOnes (au_X12_olderOnes_83 h421_1 ) rfl rfl rfl ⟨12, _, rfl, rfl, rfl⟩ rfl ?_
  refine a_if_eq rfl (fun c65 => ?_) (fun c => absurd (by decide) c)
  refine a_s rfl rfl ?_
  exact a_zret rfl rfl rfl ⟨rfl, rfl⟩
theorem sp0_X12_gap {S : aS} {I : Nat → Nat → Int32} {L : Nat → Nat → Int64} {w1 w2 t : Nat} (hd : I 421 1 = 0) : SpE S m_X12_gap 15 [.ref 420] (hp I L w1 w2 t) (some (.int (-1))) (hp (up2 I 420 0 0) L w1 w2 t) := by
  refine SpE_of ok_X12_gap rfl rfl ?_
  show AW S m_X12_gap 15 _ _ 0 0 0 [some (.ref 420), none] [] (hp I L w1 w2 t)
  refine a_l0 rfl rfl rfl ?_
  refine a_s rfl rfl ?_
  refine a_puti rfl pfX12_3_12 rfl ?_
  refine a_s rfl rfl ?_
  refine a_s1 rfl rfl rfl rfl rfl rfl ?_
  refine a_forE (n := 99) (fun j => [some (.ref 420), some (.int (nI j))]) (fun j => hp (up2 I 420 0 0) L w1 w2 t) (by simp [lsub, nI_0]) (rfl) ?_ (fun j hj ih7 => ?_)
  · refine a_l1 rfl rfl rfl ?_
    refine a_s rfl rfl ?_
    refine a_ic_ge rfl (fun c10 => ?_) (fun c => absurd (Int32.le_refl _) c)
    refine a_s rfl rfl ?_
    refine a_iret rfl rfl ⟨rfl, rfl⟩
  · refine a_l1 rfl rfl rfl ?_
    refine a_s rfl rfl ?_
    refine a_ic_ge rfl (fun c => absurd c (nI_ge (b := 99) hj (by omega))) (fun c10 => ?_)
    refine a_l0 rfl rfl rfl ?_
    refine a_l1 rfl rfl rfl ?_
    refine a_eV1 rfl lX12_444 mo_X12_isGap (au_X12_isGap_174 hd (nI_ge (b := 99) hj (by omega))) rfl rfl rfl ⟨12, _, rfl, rfl, rfl⟩ rfl ?_
    refine a_if_eq rfl (fun c18 => ?_) (fun c => absurd (rfl) c)
    refine a_i1 rfl rfl rfl ?_
    refine a_goto rfl ?_
    exact a_back ih7 (by simp [lsub, nI_1, *]) rfl
theorem cr_X11_gap {S : aS} : CRet S m_X11_gap 14 [.ref 200] (some (-1)) := CRet.of (sp0_X11_gap I0_235_3) (fun _ _ => rfl)
theorem rr_X12_gap {S : aS} : RRet S m_X12_gap 15 [.ref 420] (some (-1)) 0 := RRet.of (fun I => up2 I 420 0 0) (fun I L w1 w2 t hz => sp0_X12_gap (hz.at rfl I0_421_1)) (fun I hz => rfl)
theorem op_32 {xs : Nat → Int32} : OpOk xs 1908 := by
  show AW (S1 6 xs) m_L_main 1050 QM XM 599770 7281900 1908 [some (.ref 199), some (.ref 200), some (.ref 420), some (.ref 431), some (.int 0), none, none] [] (hp I0 L0 0 0 432)
  refine a_l1 rfl rfl rfl ?_
  refine a_callV rfl lL_249 mo_X11_gap (cr_X11_gap) rfl rfl rfl ⟨11, _, rfl, rfl, rfl⟩ rfl (fun v h' hv => ?_) (fun E h' hx => False.elim hx)
  obtain ⟨rfl, I, w1, w2, t, rfl, hz⟩ := hv
  refine a_l2 rfl rfl rfl ?_
  refine a_callV rfl lL_252 mo_X12_gap (rr_X12_gap I _ w1 w2 t hz) rfl rfl rfl ⟨12, _, rfl, rfl, rfl⟩ rfl (fun v h' hv => ?_) (fun E h' hx => False.elim hx)
  obtain ⟨rfl, I', L', w1', w2', t', rfl, hk, hL⟩ := hv
  refine a_ic_eq rfl (fun c1916 => ?_) (fun c => absurd (rfl) c)
  exact fin_ok
