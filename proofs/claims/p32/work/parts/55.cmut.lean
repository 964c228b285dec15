/-! ===== the class: acts, image, undo, tape (printed by program) ===== -/
set_option maxRecDepth 100000
theorem nI_leu {n j : Nat} (h : n ≤ j) (hj : j < 2 ^ 31) : nI n ≤ nI j := Int32.le_iff_toInt_le.mpr (by rw [nI_toInt (by omega), nI_toInt hj]; omega)
theorem past_R {w1 w2 : Nat} : ∀ i, i < 12 → Rw w1 w2 287 i = 288 + 11 * i + 1 := by
  intro i hi
  have h : ∀ i, i < 12 → Rc 287 i = 288 + 11 * i + 1 := by decide +kernel
  have h9 : Nat.beq 287 204 = false := rfl
  have h8 : Nat.beq 287 221 = false := rfl
  unfold Rw
  rw [h9, h8, h i hi]
  split <;> rfl
theorem past_st : ∀ i, i < 12 → stp (288 + 11 * i) := by decide +kernel
theorem q_pastAt {S : aS} {I : Nat → Nat → Int32} {L : Nat → Nat → Int64} {w1 w2 t : Nat} {x : Int32} : Sp S m_X11_pastAt 12 0 0 [.ref 200, .int x] (hp I L w1 w2 t) (fun v h' => (v = some .null ∨ ∃ i, i < 12 ∧ v = some (.ref (288 + 11 * i))) ∧ h' = hp I L w1 w2 t) nX := by
  refine Sp_of ok_X11_pastAt rfl rfl ?_
  show AW S m_X11_pastAt 12 _ _ 0 0 0 [some (.ref 200), some (.int x), none] [] (hp I L w1 w2 t)
  refine a_l1 rfl rfl rfl ?_
  refine a_s rfl rfl ?_
  refine a_irem rfl (by decide) ?_
  refine a_s2 rfl rfl rfl rfl rfl rfl ?_
  refine a_l2 rfl rfl rfl ?_
  refine a_if_lt rfl (fun c6 => ?_) (fun c6 => ?_)
  · refine a_s rfl rfl ?_
    exact a_aret (q := 0) rfl rfl rfl ⟨Or.inl rfl, rfl⟩
  · refine a_l2 rfl rfl rfl ?_
    refine a_l0 rfl rfl rfl ?_
    refine a_getq rfl gfX11_64_11 rfl (rfl) ?_
    refine a_len rfl rfl rfl rfl ?_
    refine a_ic_ge rfl (fun c15 => ?_) (fun c15 => ?_)
    · refine a_s rfl rfl ?_
      exact a_aret (q := 0) rfl rfl rfl ⟨Or.inl rfl, rfl⟩
    · refine a_l0 rfl rfl rfl ?_
      refine a_getq rfl gfX11_64_11 rfl (rfl) ?_
      refine a_l2 rfl rfl rfl ?_
      have hi := inI_of (n := 12) (by decide) c6 c15
      refine a_aald rfl rfl hi (past_R _ hi.2) ?_
      refine a_goto rfl ?_
      exact a_aret (q := 288 + 11 * _ + 1) rfl rfl rfl ⟨Or.inr ⟨_, hi.2, rfl⟩, rfl⟩
theorem q_X11_rememberAct_200 {S : aS} {I : Nat → Nat → Int32} {L : Nat → Nat → Int64} {w1 w2 t : Nat} : Sp S m_X11_rememberAct 15 0 0 [.ref 200] (hp I L w1 w2 t) (QR (Mt I) isV L w1 w2 t) nX := by
  refine Sp_of ok_X11_rememberAct rfl rfl ?_
  show AW S m_X11_rememberAct 15 _ _ 0 0 0 [some (.ref 200), none] [] (hp I L w1 w2 t)
  refine a_l0 rfl rfl rfl ?_
  refine a_geti rfl gfX11_95_11 rfl ?_
  refine a_s rfl rfl ?_
  refine a_ic_ne rfl (fun c6 => ?_) (fun c6 => ?_)
  · refine a_l0 rfl rfl rfl ?_
    refine a_l0 rfl rfl rfl ?_
    refine a_geti rfl gfX11_368_11 rfl ?_
    refine a_l0 rfl rfl rfl ?_
    refine a_geti rfl gfX11_95_11 rfl ?_
    refine a_s rfl rfl ?_
    refine a_gV rfl lX11_371 mo_X11_pastAt (q_pastAt) rfl rfl rfl ⟨11, _, rfl, rfl, rfl⟩ rfl (fun v' h' hv => ?_)
    obtain ⟨rfl | ⟨i, hi, rfl⟩, rfl⟩ := hv
    · refine a_s1 rfl rfl rfl rfl rfl rfl ?_
      refine a_l1 rfl rfl rfl ?_
      refine a_ifnull_t rfl ?_
      refine a_l0 rfl rfl rfl ?_
      refine a_s rfl rfl ?_
      refine a_geti rfl gfX11_95_11 rfl ?_
      refine a_s rfl rfl ?_
      refine a_s rfl rfl ?_
      refine a_puti rfl pfX11_95_11 rfl ?_
      refine a_ren (P := Mt I) (Mt.fm (Mt.rf) (Fm.up (Fm.rf (s := sM)) rfl)) (fun I1 f2 => ?_)
      exact a_vret rfl rfl ⟨rfl, _, rfl, f2⟩
    · refine a_s1 rfl rfl rfl rfl rfl rfl ?_
      refine a_l1 rfl rfl rfl ?_
      refine a_ifnull_f rfl ?_
      refine a_l1 rfl rfl rfl ?_
      refine a_l0 rfl rfl rfl ?_
      refine a_getq rfl gfX11_37_11 rfl (rfl) ?_
      refine a_eV0 rfl lX11_375 mo_X5_copyAll (sp_X5_copyAll (a := 288 + 11 * i) (b := 235) (past_st i hi) (by decide) (by omega)) rfl rfl rfl ⟨5, _, kS0 (past_st i hi), rfl, rfl⟩ rfl ?_
      refine a_ren (P := Mt I) (Mt.tr (Mt.rf) (Mt.cpA (past_st i hi) (by decide) (by decide))) (fun I3 f4 => ?_)
      refine a_l0 rfl rfl rfl ?_
      refine a_s rfl rfl ?_
      refine a_geti rfl gfX11_95_11 rfl ?_
      refine a_s rfl rfl ?_
      refine a_s rfl rfl ?_
      refine a_puti rfl pfX11_95_11 rfl ?_
      refine a_ren (P := Mt I) (Mt.fm (f4) (Fm.up (Fm.rf (s := sM)) rfl)) (fun I5 f6 => ?_)
      exact a_vret rfl rfl ⟨rfl, _, rfl, f6⟩
  · refine a_l0 rfl rfl rfl ?_
    refine a_l0 rfl rfl rfl ?_
    refine a_geti rfl gfX11_368_11 rfl ?_
    refine a_s rfl rfl ?_
    refine a_s rfl rfl ?_
    refine a_s rfl rfl ?_
    refine a_irem rfl (by decide) ?_
    refine a_puti rfl pfX11_368_11 rfl ?_
    refine a_ren (P := Mt I) (Mt.fm (Mt.rf) (Fm.up (Fm.rf (s := sM)) rfl)) (fun I7 f8 => ?_)
    refine a_l0 rfl rfl rfl ?_
    refine a_s rfl rfl ?_
    refine a_geti rfl gfX11_95_11 rfl ?_
    refine a_s rfl rfl ?_
    refine a_s rfl rfl ?_
    refine a_puti rfl pfX11_95_11 rfl ?_
    refine a_ren (P := Mt I) (Mt.fm (f8) (Fm.up (Fm.rf (s := sM)) rfl)) (fun I9 f10 => ?_)
    refine a_l0 rfl rfl rfl ?_
    refine a_l0 rfl rfl rfl ?_
    refine a_geti rfl gfX11_368_11 rfl ?_
    refine a_l0 rfl rfl rfl ?_
    refine a_geti rfl gfX11_95_11 rfl ?_
    refine a_s rfl rfl ?_
    refine a_gV rfl lX11_371 mo_X11_pastAt (q_pastAt) rfl rfl rfl ⟨11, _, rfl, rfl, rfl⟩ rfl (fun v' h' hv => ?_)
    obtain ⟨rfl | ⟨i, hi, rfl⟩, rfl⟩ := hv
    · refine a_s1 rfl rfl rfl rfl rfl rfl ?_
      refine a_l1 rfl rfl rfl ?_
      refine a_ifnull_t rfl ?_
      refine a_l0 rfl rfl rfl ?_
      refine a_s rfl rfl ?_
      refine a_geti rfl gfX11_95_11 rfl ?_
      refine a_s rfl rfl ?_
      refine a_s rfl rfl ?_
      refine a_puti rfl pfX11_95_11 rfl ?_
      refine a_ren (P := Mt I) (Mt.fm (f10) (Fm.up (Fm.rf (s := sM)) rfl)) (fun I11 f12 => ?_)
      exact a_vret rfl rfl ⟨rfl, _, rfl, f12⟩
    · refine a_s1 rfl rfl rfl rfl rfl rfl ?_
      refine a_l1 rfl rfl rfl ?_
      refine a_ifnull_f rfl ?_
      refine a_l1 rfl rfl rfl ?_
      refine a_l0 rfl rfl rfl ?_
      refine a_getq rfl gfX11_37_11 rfl (rfl) ?_
      refine a_eV0 rfl lX11_375 mo_X5_copyAll (sp_X5_copyAll (a := 288 + 11 * i) (b := 235) (past_st i hi) (by decide) (by omega)) rfl rfl rfl ⟨5, _, kS0 (past_st i hi), rfl, rfl⟩ rfl ?_
      refine a_ren (P := Mt I) (Mt.tr (f10) (Mt.cpA (past_st i hi) (by decide) (by decide))) (fun I13 f14 => ?_)
      refine a_l0 rfl rfl rfl ?_
      refine a_s rfl rfl ?_
      refine a_geti rfl gfX11_95_11 rfl ?_
      refine a_s rfl rfl ?_
      refine a_s rfl rfl ?_
      refine a_puti rfl pfX11_95_11 rfl ?_
      refine a_ren (P := Mt I) (Mt.fm (f14) (Fm.up (Fm.rf (s := sM)) rfl)) (fun I15 f16 => ?_)
      exact a_vret rfl rfl ⟨rfl, _, rfl, f16⟩
theorem q_X11_call_200 {S : aS} {I : Nat → Nat → Int32} {L : Nat → Nat → Int64} {w1 w2 t : Nat} {x1 : Int32} : Sp S m_X11_call 17 2 12 [.ref 200, .int x1] (hp I L w1 w2 t) (QR (Mt I) isI L w1 w2 t) (XR (Mt I) L w1 w2 [0, 2]) := by
  refine Sp_of ok_X11_call rfl rfl ?_
  show AW S m_X11_call 17 _ _ 2 12 0 [some (.ref 200), some (.int x1), none] [] (hp I L w1 w2 t)
  refine a_l0 rfl rfl rfl ?_
  refine a_l1 rfl rfl rfl ?_
  refine a_callV rfl lX11_141 mo_X11_needDuty (q_X11_needDuty_200) rfl rfl rfl ⟨11, _, rfl, rfl, rfl⟩ rfl (fun v' h' hv => ?_) (fun E h' hx => XR.cm hx (by decide) (fun _ z => Mt.fm (Mt.rf) (Fm.mo (z) sQ_sM)))
  obtain ⟨rfl, rfl⟩ := hv
  refine a_l0 rfl rfl rfl ?_
  refine a_getq rfl gfX11_37_11 rfl (rfl) ?_
  refine a_gV rfl lX11_220 mo_X5_canBits (q_X5_canBits_235) rfl rfl rfl ⟨5, _, rfl, rfl, rfl⟩ rfl (fun v' h' hv => ?_)
  obtain ⟨⟨v2, rfl⟩, rfl⟩ := hv
  refine a_l1 rfl rfl rfl ?_
  refine a_eS1 rfl lX11_223 mo_X11_has (sp_X11_has) rfl rfl rfl rfl ?_
  refine a_if_ne rfl (fun c16 => ?_) (fun c16 => ?_)
  · refine a_l0 rfl rfl rfl ?_
    refine a_getq rfl gfX11_37_11 rfl (rfl) ?_
    refine a_l1 rfl rfl rfl ?_
    refine a_gV rfl lX11_176 mo_X5_passesOf (q_X5_passesOf_235) rfl rfl rfl ⟨5, _, rfl, rfl, rfl⟩ rfl (fun v' h' hv => ?_)
    obtain ⟨⟨v3, rfl⟩, rfl⟩ := hv
    refine a_s2 rfl rfl rfl rfl rfl rfl ?_
    refine a_l0 rfl rfl rfl ?_
    refine a_gV rfl lX11_230 mo_X11_rememberAct (q_X11_rememberAct_200) rfl rfl rfl ⟨11, _, rfl, rfl, rfl⟩ rfl (fun v' h' hv => ?_)
    obtain ⟨rfl, I5, rfl, f6⟩ := hv
    refine a_l0 rfl rfl rfl ?_
    refine a_getq rfl gfX11_37_11 rfl (rfl) ?_
    refine a_l1 rfl rfl rfl ?_
    refine a_gV rfl lX11_233 mo_X5_finish (q_X5_finish_235_sN) rfl rfl rfl ⟨5, _, rfl, rfl, rfl⟩ rfl (fun v' h' hv => ?_)
    obtain ⟨rfl, I8, rfl, f9⟩ := hv
    replace f9 : Mt I I8 := Mt.fm (f6) (Fm.mo (f9) sN_sM)
    refine a_l2 rfl rfl rfl ?_
    exact a_iret rfl rfl ⟨⟨_, rfl⟩, _, rfl, f9⟩
  · exact a_throw rfl rfl rfl rfl tX11_ise rfl rfl rfl rfl rfl ⟨⟨2, by decide, rfl⟩, _, rfl, Mt.rf⟩
theorem q_X11_needState_200 {S : aS} {I : Nat → Nat → Int32} {L : Nat → Nat → Int64} {w1 w2 t : Nat} {x1 x2 : Int32} : Sp S m_X11_needState 13 1 6 [.ref 200, .int x1, .int x2] (hp I L w1 w2 t) (QE isV (hp I L w1 w2 t)) (XR (Fm sQ I) L w1 w2 [2]) := by
  refine Sp_of ok_X11_needState rfl rfl ?_
  show AW S m_X11_needState 13 _ _ 1 6 0 [some (.ref 200), some (.int x1), some (.int x2)] [] (hp I L w1 w2 t)
  refine a_l0 rfl rfl rfl ?_
  refine a_getq rfl gfX11_37_11 rfl (rfl) ?_
  refine a_getq rfl gfX11_159_5 rfl (rfl) ?_
  refine a_l1 rfl rfl rfl ?_
  refine a_eS1 rfl lX11_117 mo_X11_at (sp_X11_at rfl) rfl rfl rfl rfl ?_
  refine a_l2 rfl rfl rfl ?_
  refine a_ic_eq rfl (fun c12 => ?_) (fun c12 => ?_)
  · exact a_vret rfl rfl ⟨rfl, rfl⟩
  · exact a_throw rfl rfl rfl rfl tX11_ise rfl rfl rfl rfl rfl ⟨⟨2, by decide, rfl⟩, _, rfl, Fm.rf⟩
theorem q_X11_put_200 {S : aS} {I : Nat → Nat → Int32} {L : Nat → Nat → Int64} {w1 w2 t : Nat} {x1 : Int32} : Sp S m_X11_put 16 2 12 [.ref 200, .int x1] (hp I L w1 w2 t) (QR (Mt I) isI L w1 w2 t) (XR (Mt I) L w1 w2 [0, 2]) := by
  refine Sp_of ok_X11_put rfl rfl ?_
  show AW S m_X11_put 16 _ _ 2 12 0 [some (.ref 200), some (.int x1)] [] (hp I L w1 w2 t)
  refine a_l0 rfl rfl rfl ?_
  refine a_l1 rfl rfl rfl ?_
  refine a_callV rfl lX11_141 mo_X11_needDuty (q_X11_needDuty_200) rfl rfl rfl ⟨11, _, rfl, rfl, rfl⟩ rfl (fun v' h' hv => ?_) (fun E h' hx => XR.cm hx (by decide) (fun _ z => Mt.fm (Mt.rf) (Fm.mo (z) sQ_sM)))
  obtain ⟨rfl, rfl⟩ := hv
  refine a_l0 rfl rfl rfl ?_
  refine a_l1 rfl rfl rfl ?_
  refine a_s rfl rfl ?_
  refine a_callV rfl lX11_236 mo_X11_needState (q_X11_needState_200) rfl rfl rfl ⟨11, _, rfl, rfl, rfl⟩ rfl (fun v' h' hv => ?_) (fun E h' hx => XR.cm hx (by decide) (fun _ z => Mt.fm (Mt.rf) (Fm.mo (z) sQ_sM)))
  obtain ⟨rfl, rfl⟩ := hv
  refine a_l0 rfl rfl rfl ?_
  refine a_gV rfl lX11_230 mo_X11_rememberAct (q_X11_rememberAct_200) rfl rfl rfl ⟨11, _, rfl, rfl, rfl⟩ rfl (fun v' h' hv => ?_)
  obtain ⟨rfl, I4, rfl, f5⟩ := hv
  refine a_l0 rfl rfl rfl ?_
  refine a_getq rfl gfX11_37_11 rfl (rfl) ?_
  refine a_l1 rfl rfl rfl ?_
  refine a_gV rfl lX11_240 mo_X5_growOlder (q_X5_growOlder_235_sN) rfl rfl rfl ⟨5, _, rfl, rfl, rfl⟩ rfl (fun v' h' hv => ?_)
  obtain ⟨rfl, I7, rfl, f8⟩ := hv
  replace f8 : Mt I I7 := Mt.fm (f5) (Fm.mo (f8) sN_sM)
  refine a_l0 rfl rfl rfl ?_
  refine a_getq rfl gfX11_37_11 rfl (rfl) ?_
  refine a_getq rfl gfX11_150_5 rfl (rfl) ?_
  refine a_l1 rfl rfl rfl ?_
  refine a_eS1 rfl lX11_117 mo_X11_at (sp_X11_at rfl) rfl rfl rfl rfl ?_
  exact a_iret rfl rfl ⟨⟨_, rfl⟩, _, rfl, f8⟩
theorem q_X11_forget_200 {S : aS} {I : Nat → Nat → Int32} {L : Nat → Nat → Int64} {w1 w2 t : Nat} {x1 : Int32} : Sp S m_X11_forget 16 2 12 [.ref 200, .int x1] (hp I L w1 w2 t) (QR (Mt I) isI L w1 w2 t) (XR (Mt I) L w1 w2 [0, 2]) := by
  refine Sp_of ok_X11_forget rfl rfl ?_
  show AW S m_X11_forget 16 _ _ 2 12 0 [some (.ref 200), some (.int x1)] [] (hp I L w1 w2 t)
  refine a_l0 rfl rfl rfl ?_
  refine a_l1 rfl rfl rfl ?_
  refine a_callV rfl lX11_141 mo_X11_needDuty (q_X11_needDuty_200) rfl rfl rfl ⟨11, _, rfl, rfl, rfl⟩ rfl (fun v' h' hv => ?_) (fun E h' hx => XR.cm hx (by decide) (fun _ z => Mt.fm (Mt.rf) (Fm.mo (z) sQ_sM)))
  obtain ⟨rfl, rfl⟩ := hv
  refine a_l0 rfl rfl rfl ?_
  refine a_l1 rfl rfl rfl ?_
  refine a_s rfl rfl ?_
  refine a_callV rfl lX11_236 mo_X11_needState (q_X11_needState_200) rfl rfl rfl ⟨11, _, rfl, rfl, rfl⟩ rfl (fun v' h' hv => ?_) (fun E h' hx => XR.cm hx (by decide) (fun _ z => Mt.fm (Mt.rf) (Fm.mo (z) sQ_sM)))
  obtain ⟨rfl, rfl⟩ := hv
  refine a_l0 rfl rfl rfl ?_
  refine a_gV rfl lX11_230 mo_X11_rememberAct (q_X11_rememberAct_200) rfl rfl rfl ⟨11, _, rfl, rfl, rfl⟩ rfl (fun v' h' hv => ?_)
  obtain ⟨rfl, I4, rfl, f5⟩ := hv
  refine a_l0 rfl rfl rfl ?_
  refine a_getq rfl gfX11_37_11 rfl (rfl) ?_
  refine a_getq rfl gfX11_159_5 rfl (rfl) ?_
  refine a_l1 rfl rfl rfl ?_
  refine a_s rfl rfl ?_
  refine a_eS0 rfl lX11_243 mo_X11_setAt (sp_X11_setAt rfl) rfl rfl rfl rfl ?_
  refine a_ren (P := Mt I) (Mt.fm (f5) (Fm.st (Fm.rf (s := sM)) (fun _ => rfl))) (fun I6 f7 => ?_)
  refine a_l0 rfl rfl rfl ?_
  refine a_getq rfl gfX11_37_11 rfl (rfl) ?_
  refine a_getq rfl gfX11_147_5 rfl (rfl) ?_
  refine a_l1 rfl rfl rfl ?_
  refine a_eS1 rfl lX11_117 mo_X11_at (sp_X11_at rfl) rfl rfl rfl rfl ?_
  exact a_iret rfl rfl ⟨⟨_, rfl⟩, _, rfl, f7⟩
theorem q_X11_recall_200 {S : aS} {I : Nat → Nat → Int32} {L : Nat → Nat → Int64} {w1 w2 t : Nat} {x1 : Int32} : Sp S m_X11_recall 16 2 12 [.ref 200, .int x1] (hp I L w1 w2 t) (QR (Mt I) isI L w1 w2 t) (XR (Mt I) L w1 w2 [0, 2]) := by
  refine Sp_of ok_X11_recall rfl rfl ?_
  show AW S m_X11_recall 16 _ _ 2 12 0 [some (.ref 200), some (.int x1)] [] (hp I L w1 w2 t)
  refine a_l0 rfl rfl rfl ?_
  refine a_l1 rfl rfl rfl ?_
  refine a_callV rfl lX11_141 mo_X11_needDuty (q_X11_needDuty_200) rfl rfl rfl ⟨11, _, rfl, rfl, rfl⟩ rfl (fun v' h' hv => ?_) (fun E h' hx => XR.cm hx (by decide) (fun _ z => Mt.fm (Mt.rf) (Fm.mo (z) sQ_sM)))
  obtain ⟨rfl, rfl⟩ := hv
  refine a_l0 rfl rfl rfl ?_
  refine a_l1 rfl rfl rfl ?_
  refine a_s rfl rfl ?_
  refine a_callV rfl lX11_236 mo_X11_needState (q_X11_needState_200) rfl rfl rfl ⟨11, _, rfl, rfl, rfl⟩ rfl (fun v' h' hv => ?_) (fun E h' hx => XR.cm hx (by decide) (fun _ z => Mt.fm (Mt.rf) (Fm.mo (z) sQ_sM)))
  obtain ⟨rfl, rfl⟩ := hv
  refine a_l0 rfl rfl rfl ?_
  refine a_gV rfl lX11_230 mo_X11_rememberAct (q_X11_rememberAct_200) rfl rfl rfl ⟨11, _, rfl, rfl, rfl⟩ rfl (fun v' h' hv => ?_)
  obtain ⟨rfl, I4, rfl, f5⟩ := hv
  refine a_l0 rfl rfl rfl ?_
  refine a_getq rfl gfX11_37_11 rfl (rfl) ?_
  refine a_getq rfl gfX11_159_5 rfl (rfl) ?_
  refine a_l1 rfl rfl rfl ?_
  refine a_s rfl rfl ?_
  refine a_eS0 rfl lX11_243 mo_X11_setAt (sp_X11_setAt rfl) rfl rfl rfl rfl ?_
  refine a_ren (P := Mt I) (Mt.fm (f5) (Fm.st (Fm.rf (s := sM)) (fun _ => rfl))) (fun I6 f7 => ?_)
  refine a_l0 rfl rfl rfl ?_
  refine a_getq rfl gfX11_37_11 rfl (rfl) ?_
  refine a_getq rfl gfX11_150_5 rfl (rfl) ?_
  refine a_l1 rfl rfl rfl ?_
  refine a_eS1 rfl lX11_117 mo_X11_at (sp_X11_at rfl) rfl rfl rfl rfl ?_
  exact a_iret rfl rfl ⟨⟨_, rfl⟩, _, rfl, f7⟩
theorem q_X11_hand_200 {S : aS} {I : Nat → Nat → Int32} {L : Nat → Nat → Int64} {w1 w2 t : Nat} {x1 x2 : Int32} : Sp S m_X11_hand 16 4 24 [.ref 200, .int x1, .int x2] (hp I L w1 w2 t) (QR (Mt I) isI L w1 w2 t) (XR (Mt I) L w1 w2 [0, 1, 2]) := by
  refine Sp_of ok_X11_hand rfl rfl ?_
  show AW S m_X11_hand 16 _ _ 4 24 0 [some (.ref 200), some (.int x1), some (.int x2), none] [] (hp I L w1 w2 t)
  refine a_l0 rfl rfl rfl ?_
  refine a_l1 rfl rfl rfl ?_
  refine a_callV rfl lX11_141 mo_X11_needDuty (q_X11_needDuty_200) rfl rfl rfl ⟨11, _, rfl, rfl, rfl⟩ rfl (fun v' h' hv => ?_) (fun E h' hx => XR.cm hx (by decide) (fun _ z => Mt.fm (Mt.rf) (Fm.mo (z) sQ_sM)))
  obtain ⟨rfl, rfl⟩ := hv
  refine a_l0 rfl rfl rfl ?_
  refine a_l2 rfl rfl rfl ?_
  refine a_callV rfl lX11_110 mo_X11_needPerson (q_X11_needPerson_200) rfl rfl rfl ⟨11, _, rfl, rfl, rfl⟩ rfl (fun v' h' hv => ?_) (fun E h' hx => XR.cm hx (by decide) (fun _ z => Mt.fm (Mt.rf) (Fm.mo (z) sQ_sM)))
  obtain ⟨rfl, rfl⟩ := hv
  refine a_l0 rfl rfl rfl ?_
  refine a_getq rfl gfX11_37_11 rfl (rfl) ?_
  refine a_getq rfl gfX11_144_5 rfl (rfl) ?_
  refine a_l1 rfl rfl rfl ?_
  refine a_eS1 rfl lX11_117 mo_X11_at (sp_X11_at rfl) rfl rfl rfl rfl ?_
  refine a_s3 rfl rfl rfl rfl rfl rfl ?_
  refine a_l3 rfl rfl rfl ?_
  refine a_l2 rfl rfl rfl ?_
  refine a_callS rfl lX11_247 mo_X11_needTwo (q_X11_needTwo) rfl rfl rfl rfl (fun v' h' hv => ?_) (fun E h' hx => XR.cm hx (by decide) (fun _ z => Mt.fm (Mt.rf) (Fm.mo (z) sQ_sM)))
  obtain ⟨rfl, rfl⟩ := hv
  refine a_l0 rfl rfl rfl ?_
  refine a_getq rfl gfX11_37_11 rfl (rfl) ?_
  refine a_getq rfl gfX11_159_5 rfl (rfl) ?_
  refine a_l1 rfl rfl rfl ?_
  refine a_eS1 rfl lX11_117 mo_X11_at (sp_X11_at rfl) rfl rfl rfl rfl ?_
  refine a_s rfl rfl ?_
  refine a_ic_ne rfl (fun c39 => ?_) (fun c39 => ?_)
  · refine a_l0 rfl rfl rfl ?_
    refine a_gV rfl lX11_230 mo_X11_rememberAct (q_X11_rememberAct_200) rfl rfl rfl ⟨11, _, rfl, rfl, rfl⟩ rfl (fun v' h' hv => ?_)
    obtain ⟨rfl, I5, rfl, f6⟩ := hv
    refine a_l0 rfl rfl rfl ?_
    refine a_getq rfl gfX11_37_11 rfl (rfl) ?_
    refine a_getq rfl gfX11_144_5 rfl (rfl) ?_
    refine a_l1 rfl rfl rfl ?_
    refine a_l2 rfl rfl rfl ?_
    refine a_eS0 rfl lX11_243 mo_X11_setAt (sp_X11_setAt rfl) rfl rfl rfl rfl ?_
    refine a_ren (P := Mt I) (Mt.fm (f6) (Fm.st (Fm.rf (s := sM)) (fun _ => rfl))) (fun I7 f8 => ?_)
    refine a_l3 rfl rfl rfl ?_
    exact a_iret rfl rfl ⟨⟨_, rfl⟩, _, rfl, f8⟩
  · exact a_throw rfl rfl rfl rfl tX11_ise rfl rfl rfl rfl rfl ⟨⟨2, by decide, rfl⟩, _, rfl, Mt.rf⟩
theorem q_X11_lean_200 {S : aS} {I : Nat → Nat → Int32} {L : Nat → Nat → Int64} {w1 w2 t : Nat} {x1 x2 : Int32} : Sp S m_X11_lean 16 3 18 [.ref 200, .int x1, .int x2] (hp I L w1 w2 t) (QR (Mt I) isI L w1 w2 t) (XR (Mt I) L w1 w2 [0, 1]) := by
  refine Sp_of ok_X11_lean rfl rfl ?_
  show AW S m_X11_lean 16 _ _ 3 18 0 [some (.ref 200), some (.int x1), some (.int x2), none] [] (hp I L w1 w2 t)
  refine a_l0 rfl rfl rfl ?_
  refine a_l1 rfl rfl rfl ?_
  refine a_callV rfl lX11_141 mo_X11_needDuty (q_X11_needDuty_200) rfl rfl rfl ⟨11, _, rfl, rfl, rfl⟩ rfl (fun v' h' hv => ?_) (fun E h' hx => XR.cm hx (by decide) (fun _ z => Mt.fm (Mt.rf) (Fm.mo (z) sQ_sM)))
  obtain ⟨rfl, rfl⟩ := hv
  refine a_l2 rfl rfl rfl ?_
  refine a_s rfl rfl ?_
  refine a_ic_eq rfl (fun c7 => ?_) (fun c7 => ?_)
  · refine a_l1 rfl rfl rfl ?_
    refine a_l2 rfl rfl rfl ?_
    refine a_callS rfl lX11_247 mo_X11_needTwo (q_X11_needTwo) rfl rfl rfl rfl (fun v' h' hv => ?_) (fun E h' hx => XR.cm hx (by decide) (fun _ z => Mt.fm (Mt.rf) (Fm.mo (z) sQ_sM)))
    obtain ⟨rfl, rfl⟩ := hv
    refine a_l0 rfl rfl rfl ?_
    refine a_getq rfl gfX11_37_11 rfl (rfl) ?_
    refine a_getq rfl gfX11_156_5 rfl (rfl) ?_
    refine a_l1 rfl rfl rfl ?_
    refine a_eS1 rfl lX11_117 mo_X11_at (sp_X11_at rfl) rfl rfl rfl rfl ?_
    refine a_s3 rfl rfl rfl rfl rfl rfl ?_
    refine a_l0 rfl rfl rfl ?_
    refine a_gV rfl lX11_230 mo_X11_rememberAct (q_X11_rememberAct_200) rfl rfl rfl ⟨11, _, rfl, rfl, rfl⟩ rfl (fun v' h' hv => ?_)
    obtain ⟨rfl, I4, rfl, f5⟩ := hv
    refine a_l0 rfl rfl rfl ?_
    refine a_getq rfl gfX11_37_11 rfl (rfl) ?_
    refine a_getq rfl gfX11_156_5 rfl (rfl) ?_
    refine a_l1 rfl rfl rfl ?_
    refine a_l2 rfl rfl rfl ?_
    refine a_eS0 rfl lX11_243 mo_X11_setAt (sp_X11_setAt rfl) rfl rfl rfl rfl ?_
    refine a_ren (P := Mt I) (Mt.fm (f5) (Fm.st (Fm.rf (s := sM)) (fun _ => rfl))) (fun I6 f7 => ?_)
    refine a_l3 rfl rfl rfl ?_
    exact a_iret rfl rfl ⟨⟨_, rfl⟩, _, rfl, f7⟩
  · refine a_l0 rfl rfl rfl ?_
    refine a_l2 rfl rfl rfl ?_
    refine a_callV rfl lX11_141 mo_X11_needDuty (q_X11_needDuty_200) rfl rfl rfl ⟨11, _, rfl, rfl, rfl⟩ rfl (fun v' h' hv => ?_) (fun E h' hx => XR.cm hx (by decide) (fun _ z => Mt.fm (Mt.rf) (Fm.mo (z) sQ_sM)))
    obtain ⟨rfl, rfl⟩ := hv
    refine a_l1 rfl rfl rfl ?_
    refine a_l2 rfl rfl rfl ?_
    refine a_callS rfl lX11_247 mo_X11_needTwo (q_X11_needTwo) rfl rfl rfl rfl (fun v' h' hv => ?_) (fun E h' hx => XR.cm hx (by decide) (fun _ z => Mt.fm (Mt.rf) (Fm.mo (z) sQ_sM)))
    obtain ⟨rfl, rfl⟩ := hv
    refine a_l0 rfl rfl rfl ?_
    refine a_getq rfl gfX11_37_11 rfl (rfl) ?_
    refine a_getq rfl gfX11_156_5 rfl (rfl) ?_
    refine a_l1 rfl rfl rfl ?_
    refine a_eS1 rfl lX11_117 mo_X11_at (sp_X11_at rfl) rfl rfl rfl rfl ?_
    refine a_s3 rfl rfl rfl rfl rfl rfl ?_
    refine a_l0 rfl rfl rfl ?_
    refine a_gV rfl lX11_230 mo_X11_rememberAct (q_X11_rememberAct_200) rfl rfl rfl ⟨11, _, rfl, rfl, rfl⟩ rfl (fun v' h' hv => ?_)
    obtain ⟨rfl, I11, rfl, f12⟩ := hv
    refine a_l0 rfl rfl rfl ?_
    refine a_getq rfl gfX11_37_11 rfl (rfl) ?_
    refine a_getq rfl gfX11_156_5 rfl (rfl) ?_
    refine a_l1 rfl rfl rfl ?_
    refine a_l2 rfl rfl rfl ?_
    refine a_eS0 rfl lX11_243 mo_X11_setAt (sp_X11_setAt rfl) rfl rfl rfl rfl ?_
    refine a_ren (P := Mt I) (Mt.fm (f12) (Fm.st (Fm.rf (s := sM)) (fun _ => rfl))) (fun I13 f14 => ?_)
    refine a_l3 rfl rfl rfl ?_
    exact a_iret rfl rfl ⟨⟨_, rfl⟩, _, rfl, f14⟩
theorem q_X11_free_200 {S : aS} {I : Nat → Nat → Int32} {L : Nat → Nat → Int64} {w1 w2 t : Nat} {x1 x2 : Int32} : Sp S m_X11_free 16 2 12 [.ref 200, .int x1, .int x2] (hp I L w1 w2 t) (QR (Mt I) isI L w1 w2 t) (XR (Mt I) L w1 w2 [0, 1]) := by
  refine Sp_of ok_X11_free rfl rfl ?_
  show AW S m_X11_free 16 _ _ 2 12 0 [some (.ref 200), some (.int x1), some (.int x2), none] [] (hp I L w1 w2 t)
  refine a_l0 rfl rfl rfl ?_
  refine a_l1 rfl rfl rfl ?_
  refine a_callV rfl lX11_110 mo_X11_needPerson (q_X11_needPerson_200) rfl rfl rfl ⟨11, _, rfl, rfl, rfl⟩ rfl (fun v' h' hv => ?_) (fun E h' hx => XR.cm hx (by decide) (fun _ z => Mt.fm (Mt.rf) (Fm.mo (z) sQ_sM)))
  obtain ⟨rfl, rfl⟩ := hv
  refine a_l2 rfl rfl rfl ?_
  refine a_s rfl rfl ?_
  refine a_s rfl rfl ?_
  refine a_callS rfl lX11_250 mo_X11_needNumber q_needNumber rfl rfl rfl rfl (fun v' h' hv => ?_) (fun E h' hx => XR.cm hx (by decide) (fun _ z => Mt.fm (Mt.rf) (Fm.mo (z) sQ_sM)))
  obtain ⟨rfl, rfl, hbm2⟩ := hv
  obtain ⟨m2, hm2a, hm2b, rfl⟩ := inB_nI (a := 0) (b := 9) (by decide) hbm2
  refine a_l0 rfl rfl rfl ?_
  refine a_getq rfl gfX11_37_11 rfl (rfl) ?_
  refine a_getq rfl gfX11_121_5 rfl (rfl) ?_
  refine a_l1 rfl rfl rfl ?_
  refine a_eS1 rfl lX11_117 mo_X11_at (sp_X11_at rfl) rfl rfl rfl rfl ?_
  refine a_s3 rfl rfl rfl rfl rfl rfl ?_
  refine a_l0 rfl rfl rfl ?_
  refine a_gV rfl lX11_230 mo_X11_rememberAct (q_X11_rememberAct_200) rfl rfl rfl ⟨11, _, rfl, rfl, rfl⟩ rfl (fun v' h' hv => ?_)
  obtain ⟨rfl, I4, rfl, f5⟩ := hv
  refine a_l0 rfl rfl rfl ?_
  refine a_getq rfl gfX11_37_11 rfl (rfl) ?_
  refine a_getq rfl gfX11_121_5 rfl (rfl) ?_
  refine a_l1 rfl rfl rfl ?_
  refine a_l2 rfl rfl rfl ?_
  refine a_eS0 rfl lX11_243 mo_X11_setAt (sp_X11_setAt rfl) rfl rfl rfl rfl ?_
  refine a_ren (P := Mt I) (Mt.fm (f5) (Fm.st (Fm.rf (s := sM)) (fun _ => rfl))) (fun I6 f7 => ?_)
  refine a_l3 rfl rfl rfl ?_
  exact a_iret rfl rfl ⟨⟨_, rfl⟩, _, rfl, f7⟩
theorem q_X11_days_200 {S : aS} {I : Nat → Nat → Int32} {L : Nat → Nat → Int64} {w1 w2 t : Nat} {x1 : Int32} : Sp S m_X11_days 18 1 6 [.ref 200, .int x1] (hp I L w1 w2 t) (QR (Mt I) isI L w1 w2 t) (XR (Mt I) L w1 w2 [1]) := by
  refine Sp_of ok_X11_days rfl rfl ?_
  show AW S m_X11_days 18 _ _ 1 6 0 [some (.ref 200), some (.int x1), none, none] [] (hp I L w1 w2 t)
  refine a_l1 rfl rfl rfl ?_
  refine a_s rfl rfl ?_
  refine a_s rfl rfl ?_
  refine a_callS rfl lX11_250 mo_X11_needNumber q_needNumber rfl rfl rfl rfl (fun v' h' hv => ?_) (fun E h' hx => XR.cm hx (by decide) (fun _ z => Mt.fm (Mt.rf) (Fm.mo (z) sQ_sM)))
  obtain ⟨rfl, rfl, hbm1⟩ := hv
  obtain ⟨m1, hm1a, hm1b, rfl⟩ := inB_nI (a := 1) (b := 90) (by decide) hbm1
  refine a_l0 rfl rfl rfl ?_
  refine a_gV rfl lX11_230 mo_X11_rememberAct (q_X11_rememberAct_200) rfl rfl rfl ⟨11, _, rfl, rfl, rfl⟩ rfl (fun v' h' hv => ?_)
  obtain ⟨rfl, I3, rfl, f4⟩ := hv
  refine a_l0 rfl rfl rfl ?_
  refine a_getq rfl gfX11_37_11 rfl (rfl) ?_
  refine a_s rfl rfl ?_
  refine a_gV rfl lX11_200 mo_X5_bitsIn (q_X5_bitsIn_235) rfl rfl rfl ⟨5, _, rfl, rfl, rfl⟩ rfl (fun v' h' hv => ?_)
  obtain ⟨⟨v5, rfl⟩, rfl⟩ := hv
  refine a_s2 rfl rfl rfl rfl rfl rfl ?_
  refine a_s rfl rfl ?_
  refine a_s3 rfl rfl rfl rfl rfl rfl ?_
  refine a_cnt (j0 := 0) (fun j ls h => ∃ I', ls = [some (.ref 200), some (.int (nI m1)), some (.int v5), some (.int (nI j))] ∧ h = hp I' L w1 w2 t ∧ Mt I I') (by decide) ⟨_, rfl, rfl, f4⟩ ⟨rfl, rfl, rfl, rfl, trivial⟩ ?_
  rintro j22 _ _ hj22 ⟨Ih22, rfl, rfl, fh22⟩ ih22
  refine a_l3 rfl rfl rfl ?_
  refine a_l1 rfl rfl rfl ?_
  refine a_ic_ge rfl (fun c24 => ?_) (fun c24 => ?_)
  · refine a_l0 rfl rfl rfl ?_
    refine a_getq rfl gfX11_37_11 rfl (rfl) ?_
    refine a_s rfl rfl ?_
    refine a_gV rfl lX11_200 mo_X5_bitsIn (q_X5_bitsIn_235) rfl rfl rfl ⟨5, _, rfl, rfl, rfl⟩ rfl (fun v' h' hv => ?_)
    obtain ⟨⟨v6, rfl⟩, rfl⟩ := hv
    refine a_l2 rfl rfl rfl ?_
    refine a_s rfl rfl ?_
    refine a_s rfl rfl ?_
    refine a_s rfl rfl ?_
    refine a_eS1 rfl lX11_261 mo_J6_bitCount_0f7a4 (sp_bitCount) rfl rfl rfl rfl ?_
    exact a_iret rfl rfl ⟨⟨_, rfl⟩, _, rfl, fh22⟩
  · refine a_l0 rfl rfl rfl ?_
    refine a_getq rfl gfX11_37_11 rfl (rfl) ?_
    refine a_l0 rfl rfl rfl ?_
    refine a_getq rfl gfX11_44_11 rfl (rfl) ?_
    refine a_s rfl rfl ?_
    refine a_gV rfl lX11_254 mo_X5_passDay (q_X5_passDay_235_246_sN (b2 := true)) rfl rfl rfl ⟨5, _, rfl, rfl, rfl⟩ rfl (fun v' h' hv => ?_)
    obtain ⟨rfl, I8, rfl, f9⟩ := hv
    replace f9 : Mt I I8 := Mt.fm (fh22) (Fm.mo (f9) sN_sM)
    refine a_l0 rfl rfl rfl ?_
    refine a_getq rfl gfX11_37_11 rfl (rfl) ?_
    refine a_geti rfl gfX11_185_5 rfl ?_
    refine a_s rfl rfl ?_
    refine a_ic_ne rfl (fun c47 => ?_) (fun c47 => ?_)
    · refine a_i3 rfl rfl rfl ?_
      refine a_goto rfl ?_
      exact ih22 _ _ _ _ c24 ⟨_, rfl, rfl, f9⟩ ⟨rfl, rfl, rfl, nS _, trivial⟩
    · refine a_l0 rfl rfl rfl ?_
      refine a_gV rfl lX11_258 mo_X11_letParadeGoBy (q_X11_letParadeGoBy_200_sN) rfl rfl rfl ⟨11, _, rfl, rfl, rfl⟩ rfl (fun v' h' hv => ?_)
      obtain ⟨rfl, I11, rfl, f12⟩ := hv
      replace f12 : Mt I I11 := Mt.fm (f9) (Fm.mo (f12) sN_sM)
      refine a_i3 rfl rfl rfl ?_
      refine a_goto rfl ?_
      exact ih22 _ _ _ _ c24 ⟨_, rfl, rfl, f12⟩ ⟨rfl, rfl, rfl, nS _, trivial⟩
theorem q_X11_undo_200 {S : aS} {I : Nat → Nat → Int32} {L : Nat → Nat → Int64} {w1 w2 t : Nat} : Sp S m_X11_undo 15 0 0 [.ref 200] (hp I L w1 w2 t) (QR (Mt I) isZ L w1 w2 t) nX := by
  refine Sp_of ok_X11_undo rfl rfl ?_
  show AW S m_X11_undo 15 _ _ 0 0 0 [some (.ref 200), none] [] (hp I L w1 w2 t)
  refine a_l0 rfl rfl rfl ?_
  refine a_geti rfl gfX11_95_11 rfl ?_
  refine a_s rfl rfl ?_
  refine a_ic_ge rfl (fun c5 => ?_) (fun c5 => ?_)
  · refine a_l0 rfl rfl rfl ?_
    refine a_s rfl rfl ?_
    refine a_geti rfl gfX11_95_11 rfl ?_
    refine a_s rfl rfl ?_
    refine a_s rfl rfl ?_
    refine a_puti rfl pfX11_95_11 rfl ?_
    refine a_ren (P := Mt I) (Mt.fm (Mt.rf) (Fm.up (Fm.rf (s := sM)) rfl)) (fun I1 f2 => ?_)
    refine a_l0 rfl rfl rfl ?_
    refine a_l0 rfl rfl rfl ?_
    refine a_geti rfl gfX11_368_11 rfl ?_
    refine a_l0 rfl rfl rfl ?_
    refine a_geti rfl gfX11_95_11 rfl ?_
    refine a_s rfl rfl ?_
    refine a_gV rfl lX11_371 mo_X11_pastAt (q_pastAt) rfl rfl rfl ⟨11, _, rfl, rfl, rfl⟩ rfl (fun v' h' hv => ?_)
    obtain ⟨rfl | ⟨i, hi, rfl⟩, rfl⟩ := hv
    · refine a_s1 rfl rfl rfl rfl rfl rfl ?_
      refine a_l1 rfl rfl rfl ?_
      refine a_ifnull_t rfl ?_
      refine a_s rfl rfl ?_
      exact a_zret rfl rfl rfl ⟨⟨true, rfl⟩, _, rfl, f2⟩
    · refine a_s1 rfl rfl rfl rfl rfl rfl ?_
      refine a_l1 rfl rfl rfl ?_
      refine a_ifnull_f rfl ?_
      refine a_l0 rfl rfl rfl ?_
      refine a_getq rfl gfX11_37_11 rfl (rfl) ?_
      refine a_l1 rfl rfl rfl ?_
      refine a_eV0 rfl lX11_375 mo_X5_copyAll (sp_X5_copyAll (a := 235) (b := 288 + 11 * i) (by decide) (past_st i hi) (by omega)) rfl rfl rfl ⟨5, _, rfl, rfl, rfl⟩ rfl ?_
      refine a_ren (P := Mt I) (Mt.tr (f2) (Mt.cpA (by decide) (past_st i hi) (by omega))) (fun I3 f4 => ?_)
      refine a_s rfl rfl ?_
      exact a_zret rfl rfl rfl ⟨⟨true, rfl⟩, _, rfl, f4⟩
  · refine a_s rfl rfl ?_
    exact a_zret rfl rfl rfl ⟨⟨false, rfl⟩, _, rfl, Mt.rf⟩
theorem q_X11_back_200 {S : aS} {I : Nat → Nat → Int32} {L : Nat → Nat → Int64} {w1 w2 t : Nat} : Sp S m_X11_back 15 0 0 [.ref 200] (hp I L w1 w2 t) (fun v h' => v = some (.int (bI (decide (¬ I 200 10 = 0)))) ∧ ∃ I', h' = hp I' L w1 w2 t ∧ Mt I I') nX := by
  refine Sp_of ok_X11_back rfl rfl ?_
  show AW S m_X11_back 15 _ _ 0 0 0 [some (.ref 200)] [] (hp I L w1 w2 t)
  refine a_l0 rfl rfl rfl ?_
  refine a_geti rfl gfX11_378_11 rfl ?_
  refine a_if_ne rfl (fun c4 => ?_) (fun c4 => ?_)
  · refine a_l0 rfl rfl rfl ?_
    refine a_getq rfl gfX11_37_11 rfl (rfl) ?_
    refine a_l0 rfl rfl rfl ?_
    refine a_getq rfl gfX11_58_11 rfl (rfl) ?_
    refine a_eV0 rfl lX11_375 mo_X5_copyAll (sp_X5_copyAll (a := 235) (b := 268) (by decide) (by decide) (by decide)) rfl rfl rfl ⟨5, _, rfl, rfl, rfl⟩ rfl ?_
    refine a_ren (P := Mt I) (Mt.tr (Mt.rf) (Mt.cpA (by decide) (by decide) (by decide))) (fun I1 f2 => ?_)
    refine a_l0 rfl rfl rfl ?_
    refine a_getq rfl gfX11_44_11 rfl (rfl) ?_
    refine a_l0 rfl rfl rfl ?_
    refine a_getq rfl gfX11_61_11 rfl (rfl) ?_
    refine a_eV0 rfl lX11_104 mo_X2_copyFrom (sp_X2_copyFrom (a := 246) (b := 279) (by decide) (by decide) (by decide)) rfl rfl rfl ⟨2, _, rfl, rfl, rfl⟩ rfl ?_
    refine a_ren (P := Mt I) (Mt.fm (f2) (Fm.cl (Fm.rf (s := sM)) (by decide) (Fm_l246))) (fun I3 f4 => ?_)
    refine a_l0 rfl rfl rfl ?_
    refine a_s rfl rfl ?_
    refine a_puti rfl pfX11_95_11 rfl ?_
    refine a_ren (P := Mt I) (Mt.fm (f4) (Fm.up (Fm.rf (s := sM)) rfl)) (fun I5 f6 => ?_)
    refine a_s rfl rfl ?_
    exact a_zret rfl rfl rfl ⟨by rw [decide_eq_true c4]; rfl, _, rfl, f6⟩
  · refine a_s rfl rfl ?_
    exact a_zret rfl rfl rfl ⟨by rw [decide_eq_false (fun z => z c4)]; rfl, _, rfl, Mt.rf⟩
theorem q_X11_image {S : aS} {I : Nat → Nat → Int32} {L : Nat → Nat → Int64} {w1 w2 t : Nat} : Sp S m_X11_image 15 0 0 [.ref 200] (hp I L w1 w2 t) (fun v h' => v = none ∧ ∃ I', h' = hp (up2 I' 200 10 1) L w1 w2 t ∧ Mt I I') nX := by
  refine Sp_of ok_X11_image rfl rfl ?_
  show AW S m_X11_image 15 _ _ 0 0 0 [some (.ref 200)] [] (hp I L w1 w2 t)
  refine a_l0 rfl rfl rfl ?_
  refine a_getq rfl gfX11_58_11 rfl (rfl) ?_
  refine a_l0 rfl rfl rfl ?_
  refine a_getq rfl gfX11_37_11 rfl (rfl) ?_
  refine a_eV0 rfl lX11_375 mo_X5_copyAll (sp_X5_copyAll (a := 268) (b := 235) (by decide) (by decide) (by decide)) rfl rfl rfl ⟨5, _, rfl, rfl, rfl⟩ rfl ?_
  refine a_ren (P := Mt I) (Mt.cpA (by decide) (by decide) (by decide)) (fun I1 f1 => ?_)
  refine a_l0 rfl rfl rfl ?_
  refine a_getq rfl gfX11_61_11 rfl (rfl) ?_
  refine a_l0 rfl rfl rfl ?_
  refine a_getq rfl gfX11_44_11 rfl (rfl) ?_
  refine a_eV0 rfl lX11_104 mo_X2_copyFrom (sp_X2_copyFrom (a := 279) (b := 246) (by decide) (by decide) (by decide)) rfl rfl rfl ⟨2, _, rfl, rfl, rfl⟩ rfl ?_
  refine a_ren (P := Mt I) (f1.fm ((Fm.rf (s := sM)).cl (by decide) (Fm_l279))) (fun I2 f2 => ?_)
  refine a_l0 rfl rfl rfl ?_
  refine a_s rfl rfl ?_
  refine a_putz rfl pfX11_378_11 ⟨rfl, rfl⟩ rfl ?_
  exact a_vret rfl rfl ⟨rfl, _, rfl, f2⟩
def endB (n l : Int32) : Bool := decide (¬ n < 0 ∧ n ≤ l)
theorem q_X11_end {S : aS} {I : Nat → Nat → Int32} {L : Nat → Nat → Int64} {w1 w2 t : Nat} {x : Int32} : SpE S m_X11_end 12 [.ref 200, .int x] (hp I L w1 w2 t) (some (.int (bI (endB x (I 201 1))))) (hp (if endB x (I 201 1) then up2 I 201 1 x else I) L w1 w2 t) := by
  refine SpE_of ok_X11_end rfl rfl ?_
  show AW S m_X11_end 12 _ _ 0 0 0 [some (.ref 200), some (.int x)] [] (hp I L w1 w2 t)
  refine a_l1 rfl rfl rfl ?_
  refine a_if_lt rfl (fun c1 => ?_) (fun c1 => ?_)
  · refine a_s rfl rfl ?_
    exact a_zret rfl rfl rfl ⟨by simp [endB, bI, c1], by simp [endB, c1]⟩
  · refine a_l1 rfl rfl rfl ?_
    refine a_l0 rfl rfl rfl ?_
    refine a_getq rfl gfX11_10_11 rfl (rfl) ?_
    refine a_geti rfl gfX11_68_7 rfl ?_
    refine a_ic_le rfl (fun c12 => ?_) (fun c12 => ?_)
    · refine a_l0 rfl rfl rfl ?_
      refine a_getq rfl gfX11_10_11 rfl (rfl) ?_
      refine a_l1 rfl rfl rfl ?_
      refine a_puti rfl pfX11_68_7 rfl ?_
      refine a_s rfl rfl ?_
      have e : endB x (I 201 1) = true := decide_eq_true ⟨c1, c12⟩
      exact a_zret rfl rfl rfl ⟨by rw [e]; rfl, by rw [e]; rfl⟩
    · refine a_s rfl rfl ?_
      have e : endB x (I 201 1) = false := decide_eq_false (fun z => c12 z.2)
      exact a_zret rfl rfl rfl ⟨by rw [e]; rfl, by rw [e]; rfl⟩
/-- four bytes more -/
def byA (x : Int32) (s : Int32) : Int32 := (x >>> (s &&& 31)).toInt8.toInt32
def apH (I : Nat → Nat → Int32) (l : Nat) (x : Int32) : Nat → Nat → Int32 := up2 (up2 (up2 (up2 (up2 (up2 (up2 (up2 I 202 l (byA x 24)) 201 1 (nI (l + 1))) 202 (l + 1) (byA x 16)) 201 1 (nI (l + 2))) 202 (l + 2) (byA x 8)) 201 1 (nI (l + 3))) 202 (l + 3) (byA x 0)) 201 1 (nI (l + 4))
theorem q_X7_append {S : aS} {I : Nat → Nat → Int32} {L : Nat → Nat → Int64} {w1 w2 t : Nat} {l : Nat} {x : Int32} (hl : I 201 1 = nI l) (h4 : l + 4 ≤ 400) : SpE S m_X7_append 12 [.ref 201, .int x] (hp I L w1 w2 t) none (hp (apH I l x) L w1 w2 t) := by
  refine SpE_of ok_X7_append rfl rfl ?_
  show AW S m_X7_append 12 _ _ 0 0 0 [some (.ref 201), some (.int x), none] [] (hp I L w1 w2 t)
  refine a_s rfl rfl ?_
  refine a_s2 rfl rfl rfl rfl rfl rfl ?_
  refine a_l2 rfl rfl rfl ?_
  refine a_if_lt rfl (fun c => absurd c (by decide)) (fun _ => ?_)
  refine a_l0 rfl rfl rfl ?_
  refine a_geti rfl gfX7_15_7 rfl ?_
  refine a_top (y := nI (l)) (hl) ?_
  refine a_if_lt rfl (fun c => absurd c (nI_pos (by omega))) (fun _ => ?_)
  refine a_l0 rfl rfl rfl ?_
  refine a_geti rfl gfX7_15_7 rfl ?_
  refine a_top (y := nI (l)) (hl) ?_
  refine a_l0 rfl rfl rfl ?_
  refine a_getq rfl gfX7_9_7 rfl (rfl) ?_
  refine a_len rfl rfl rfl rfl ?_
  refine a_ic_ge rfl (fun c => absurd c (nI_ge (b := 400) (by omega) (by omega))) (fun _ => ?_)
  refine a_l0 rfl rfl rfl ?_
  refine a_getq rfl gfX7_9_7 rfl (rfl) ?_
  refine a_l0 rfl rfl rfl ?_
  refine a_geti rfl gfX7_15_7 rfl ?_
  refine a_top (y := nI (l)) (hl) ?_
  refine a_l1 rfl rfl rfl ?_
  refine a_l2 rfl rfl rfl ?_
  refine a_s rfl rfl ?_
  refine a_s rfl rfl ?_
  refine a_bastv (k := l) rfl rfl (inI_nI (by omega) (by omega)) (i2b_id _) (nI_clamp (by omega)) ?_
  refine a_l0 rfl rfl rfl ?_
  refine a_s rfl rfl ?_
  refine a_geti rfl gfX7_15_7 rfl ?_
  refine a_top (y := nI (l)) ((congrFun (up2_row (by decide)) 1).trans hl) ?_
  refine a_s rfl rfl ?_
  refine a_s rfl rfl ?_
  refine a_top (y := nI (l + 1)) (nI_succ _).symm ?_
  refine a_puti rfl pfX7_15_7 rfl ?_
  refine a_i2 rfl rfl rfl ?_
  refine a_goto rfl ?_
  refine a_l2 rfl rfl rfl ?_
  refine a_if_lt rfl (fun c => absurd c (by decide)) (fun _ => ?_)
  refine a_l0 rfl rfl rfl ?_
  refine a_geti rfl gfX7_15_7 rfl ?_
  refine a_top (y := nI (l + 1)) (up2_at) ?_
  refine a_if_lt rfl (fun c => absurd c (nI_pos (by omega))) (fun _ => ?_)
  refine a_l0 rfl rfl rfl ?_
  refine a_geti rfl gfX7_15_7 rfl ?_
  refine a_top (y := nI (l + 1)) (up2_at) ?_
  refine a_l0 rfl rfl rfl ?_
  refine a_getq rfl gfX7_9_7 rfl (rfl) ?_
  refine a_len rfl rfl rfl rfl ?_
  refine a_ic_ge rfl (fun c => absurd c (nI_ge (b := 400) (by omega) (by omega))) (fun _ => ?_)
  refine a_l0 rfl rfl rfl ?_
  refine a_getq rfl gfX7_9_7 rfl (rfl) ?_
  refine a_l0 rfl rfl rfl ?_
  refine a_geti rfl gfX7_15_7 rfl ?_
  refine a_top (y := nI (l + 1)) (up2_at) ?_
  refine a_l1 rfl rfl rfl ?_
  refine a_l2 rfl rfl rfl ?_
  refine a_s rfl rfl ?_
  refine a_s rfl rfl ?_
  refine a_bastv (k := l + 1) rfl rfl (inI_nI (by omega) (by omega)) (i2b_id _) (nI_clamp (by omega)) ?_
  refine a_l0 rfl rfl rfl ?_
  refine a_s rfl rfl ?_
  refine a_geti rfl gfX7_15_7 rfl ?_
  refine a_top (y := nI (l + 1)) ((congrFun (up2_row (by decide)) 1).trans up2_at) ?_
  refine a_s rfl rfl ?_
  refine a_s rfl rfl ?_
  refine a_top (y := nI (l + 2)) (nI_succ _).symm ?_
  refine a_puti rfl pfX7_15_7 rfl ?_
  refine a_i2 rfl rfl rfl ?_
  refine a_goto rfl ?_
  refine a_l2 rfl rfl rfl ?_
  refine a_if_lt rfl (fun c => absurd c (by decide)) (fun _ => ?_)
  refine a_l0 rfl rfl rfl ?_
  refine a_geti rfl gfX7_15_7 rfl ?_
  refine a_top (y := nI (l + 2)) (up2_at) ?_
  refine a_if_lt rfl (fun c => absurd c (nI_pos (by omega))) (fun _ => ?_)
  refine a_l0 rfl rfl rfl ?_
  refine a_geti rfl gfX7_15_7 rfl ?_
  refine a_top (y := nI (l + 2)) (up2_at) ?_
  refine a_l0 rfl rfl rfl ?_
  refine a_getq rfl gfX7_9_7 rfl (rfl) ?_
  refine a_len rfl rfl rfl rfl ?_
  refine a_ic_ge rfl (fun c => absurd c (nI_ge (b := 400) (by omega) (by omega))) (fun _ => ?_)
  refine a_l0 rfl rfl rfl ?_
  refine a_getq rfl gfX7_9_7 rfl (rfl) ?_
  refine a_l0 rfl rfl rfl ?_
  refine a_geti rfl gfX7_15_7 rfl ?_
  refine a_top (y := nI (l + 2)) (up2_at) ?_
  refine a_l1 rfl rfl rfl ?_
  refine a_l2 rfl rfl rfl ?_
  refine a_s rfl rfl ?_
  refine a_s rfl rfl ?_
  refine a_bastv (k := l + 2) rfl rfl (inI_nI (by omega) (by omega)) (i2b_id _) (nI_clamp (by omega)) ?_
  refine a_l0 rfl rfl rfl ?_
  refine a_s rfl rfl ?_
  refine a_geti rfl gfX7_15_7 rfl ?_
  refine a_top (y := nI (l + 2)) ((congrFun (up2_row (by decide)) 1).trans up2_at) ?_
  refine a_s rfl rfl ?_
  refine a_s rfl rfl ?_
  refine a_top (y := nI (l + 3)) (nI_succ _).symm ?_
  refine a_puti rfl pfX7_15_7 rfl ?_
  refine a_i2 rfl rfl rfl ?_
  refine a_goto rfl ?_
  refine a_l2 rfl rfl rfl ?_
  refine a_if_lt rfl (fun c => absurd c (by decide)) (fun _ => ?_)
  refine a_l0 rfl rfl rfl ?_
  refine a_geti rfl gfX7_15_7 rfl ?_
  refine a_top (y := nI (l + 3)) (up2_at) ?_
  refine a_if_lt rfl (fun c => absurd c (nI_pos (by omega))) (fun _ => ?_)
  refine a_l0 rfl rfl rfl ?_
  refine a_geti rfl gfX7_15_7 rfl ?_
  refine a_top (y := nI (l + 3)) (up2_at) ?_
  refine a_l0 rfl rfl rfl ?_
  refine a_getq rfl gfX7_9_7 rfl (rfl) ?_
  refine a_len rfl rfl rfl rfl ?_
  refine a_ic_ge rfl (fun c => absurd c (nI_ge (b := 400) (by omega) (by omega))) (fun _ => ?_)
  refine a_l0 rfl rfl rfl ?_
  refine a_getq rfl gfX7_9_7 rfl (rfl) ?_
  refine a_l0 rfl rfl rfl ?_
  refine a_geti rfl gfX7_15_7 rfl ?_
  refine a_top (y := nI (l + 3)) (up2_at) ?_
  refine a_l1 rfl rfl rfl ?_
  refine a_l2 rfl rfl rfl ?_
  refine a_s rfl rfl ?_
  refine a_s rfl rfl ?_
  refine a_bastv (k := l + 3) rfl rfl (inI_nI (by omega) (by omega)) (i2b_id _) (nI_clamp (by omega)) ?_
  refine a_l0 rfl rfl rfl ?_
  refine a_s rfl rfl ?_
  refine a_geti rfl gfX7_15_7 rfl ?_
  refine a_top (y := nI (l + 3)) ((congrFun (up2_row (by decide)) 1).trans up2_at) ?_
  refine a_s rfl rfl ?_
  refine a_s rfl rfl ?_
  refine a_top (y := nI (l + 4)) (nI_succ _).symm ?_
  refine a_puti rfl pfX7_15_7 rfl ?_
  refine a_i2 rfl rfl rfl ?_
  refine a_goto rfl ?_
  refine a_l2 rfl rfl rfl ?_
  refine a_if_lt rfl (fun _ => ?_) (fun c => absurd (by decide) c)
  exact a_vret rfl rfl ⟨rfl, rfl⟩
theorem apH_len {I : Nat → Nat → Int32} {l : Nat} {x : Int32} : apH I l x 201 1 = nI (l + 4) := up2_at
theorem apH_row {I : Nat → Nat → Int32} {l q : Nat} {x : Int32} (h1 : q ≠ 201) (h2 : q ≠ 202) : apH I l x q = I q := by
  unfold apH
  rw [up2_row h1, up2_row h2, up2_row h1, up2_row h2, up2_row h1, up2_row h2, up2_row h1, up2_row h2]
def fdH (I : Nat → Nat → Int32) (l : Nat) (x1 x2 x3 x4 x5 : Int32) : Nat → Nat → Int32 := apH (apH (apH (apH (apH I l x1) (l + 4) x2) (l + 8) x3) (l + 12) x4) (l + 16) x5
theorem q_X11_feed {S : aS} {I : Nat → Nat → Int32} {L : Nat → Nat → Int64} {w1 w2 t : Nat} {l : Nat} {x1 x2 x3 x4 x5 : Int32} (hl : I 201 1 = nI l) (h4 : l ≤ 400) : SpE S m_X11_feed 13 [.ref 200, .int x1, .int x2, .int x3, .int x4, .int x5] (hp I L w1 w2 t) (some (.int (if l + 20 ≤ 400 then nI (l + 20) else -1))) (hp (if l + 20 ≤ 400 then fdH I l x1 x2 x3 x4 x5 else I) L w1 w2 t) := by
  refine SpE_of ok_X11_feed rfl rfl ?_
  show AW S m_X11_feed 13 _ _ 0 0 0 [some (.ref 200), some (.int x1), some (.int x2), some (.int x3), some (.int x4), some (.int x5)] [] (hp I L w1 w2 t)
  refine a_l0 rfl rfl rfl ?_
  refine a_getq rfl gfX11_10_11 rfl (rfl) ?_
  refine a_geti rfl gfX11_68_7 rfl ?_
  refine a_top (y := nI l) hl ?_
  refine a_s rfl rfl ?_
  refine a_s rfl rfl ?_
  refine a_top (y := nI (l + 20)) (nI_addl l 20) ?_
  refine a_s rfl rfl ?_
  refine a_ic_le rfl (fun c => ?_) (fun c => ?_)
  · have hc : l + 20 ≤ 400 := nI_ge_of (a := 400) (b := l + 20) c (by decide) (by omega)
    rw [if_pos hc, if_pos hc]
    refine a_l0 rfl rfl rfl ?_
    refine a_getq rfl gfX11_10_11 rfl (rfl) ?_
    refine a_l1 rfl rfl rfl ?_
    refine a_eV0 rfl lX11_71 mo_X7_append (q_X7_append (l := l) hl (by omega)) rfl rfl rfl ⟨7, _, rfl, rfl, rfl⟩ rfl ?_
    refine a_l0 rfl rfl rfl ?_
    refine a_getq rfl gfX11_10_11 rfl (rfl) ?_
    refine a_l2 rfl rfl rfl ?_
    refine a_eV0 rfl lX11_71 mo_X7_append (q_X7_append (l := l + 4) apH_len (by omega)) rfl rfl rfl ⟨7, _, rfl, rfl, rfl⟩ rfl ?_
    refine a_l0 rfl rfl rfl ?_
    refine a_getq rfl gfX11_10_11 rfl (rfl) ?_
    refine a_l3 rfl rfl rfl ?_
    refine a_eV0 rfl lX11_71 mo_X7_append (q_X7_append (l := l + 8) apH_len (by omega)) rfl rfl rfl ⟨7, _, rfl, rfl, rfl⟩ rfl ?_
    refine a_l0 rfl rfl rfl ?_
    refine a_getq rfl gfX11_10_11 rfl (rfl) ?_
    refine a_l4 rfl rfl rfl ?_
    refine a_eV0 rfl lX11_71 mo_X7_append (q_X7_append (l := l + 12) apH_len (by omega)) rfl rfl rfl ⟨7, _, rfl, rfl, rfl⟩ rfl ?_
    refine a_l0 rfl rfl rfl ?_
    refine a_getq rfl gfX11_10_11 rfl (rfl) ?_
    refine a_l5 rfl rfl rfl ?_
    refine a_eV0 rfl lX11_71 mo_X7_append (q_X7_append (l := l + 16) apH_len (by omega)) rfl rfl rfl ⟨7, _, rfl, rfl, rfl⟩ rfl ?_
    refine a_l0 rfl rfl rfl ?_
    refine a_getq rfl gfX11_10_11 rfl (rfl) ?_
    refine a_geti rfl gfX11_68_7 rfl ?_
    refine a_top (y := nI (l + 20)) apH_len ?_
    exact a_iret rfl rfl ⟨rfl, rfl⟩
  · have hc : ¬ l + 20 ≤ 400 := fun z => c (nI_leu z (by decide))
    rw [if_neg hc, if_neg hc]
    refine a_s rfl rfl ?_
    exact a_iret rfl rfl ⟨rfl, rfl⟩
