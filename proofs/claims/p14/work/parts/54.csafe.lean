section
/-! ===== the class: safe walks (printed by program) ===== -/
set_option maxRecDepth 100000
theorem q_X2_setPart_246 {S : aS} {I : Nat → Nat → Int32} {L : Nat → Nat → Int64} {w1 w2 t : Nat} {x1 x2 : Int32} : Sp S m_X2_setPart 13 0 0 [.ref 246, .int x1, .int x2] (hp I L w1 w2 t) (QR (Fm sQ I) isV L w1 w2 t) nX := by
  refine Sp_of ok_X2_setPart rfl rfl ?_
  show AW S m_X2_setPart 13 _ _ 0 0 0 [some (.ref 246), some (.int x1), some (.int x2)] [] (hp I L w1 w2 t)
  refine a_l0 rfl rfl rfl ?_
  refine a_getq rfl gfX2_31_2 rfl (rfl) ?_
  refine a_l1 rfl rfl rfl ?_
  refine a_s rfl rfl ?_
  refine a_s rfl rfl ?_
  refine a_l2 rfl rfl rfl ?_
  refine a_eSN0 rfl lX2_44 mo_X11_setAt (sp_X11_setAt rfl) rfl rfl rfl rfl ?_
  refine a_ren (P := Fm sQ I) (Fm.st (Fm.rf (s := sQ)) (fun _ => rfl)) (fun I1 f2 => ?_)
  exact a_vret rfl rfl ⟨rfl, _, rfl, f2⟩
theorem q_X5_leansFreely_235 {S : aS} {I : Nat → Nat → Int32} {L : Nat → Nat → Int64} {w1 w2 t : Nat} {x1 : Int32} : Sp S m_X5_leansFreely 13 0 0 [.ref 235, .int x1] (hp I L w1 w2 t) (QE isZ (hp I L w1 w2 t)) nX := by
  refine Sp_of ok_X5_leansFreely rfl rfl ?_
  show AW S m_X5_leansFreely 13 _ _ 0 0 0 [some (.ref 235), some (.int x1), none] [] (hp I L w1 w2 t)
  refine a_l0 rfl rfl rfl ?_
  refine a_getq rfl gfX5_30_5 rfl (rfl) ?_
  refine a_l1 rfl rfl rfl ?_
  refine a_eSN1 rfl lX5_86 mo_X11_at (sp_X11_at rfl) rfl rfl rfl rfl ?_
  refine a_s2 rfl rfl rfl rfl rfl rfl ?_
  refine a_l2 rfl rfl rfl ?_
  refine a_s rfl rfl ?_
  refine a_ic_eq rfl (fun c11 => ?_) (fun c11 => ?_)
  · refine a_s rfl rfl ?_
    refine a_goto rfl ?_
    exact a_zret rfl rfl rfl ⟨⟨true, rfl⟩, rfl⟩
  · refine a_l0 rfl rfl rfl ?_
    refine a_getq rfl gfX5_33_5 rfl (rfl) ?_
    refine a_l2 rfl rfl rfl ?_
    refine a_eSN1 rfl lX5_86 mo_X11_at (sp_X11_at rfl) rfl rfl rfl rfl ?_
    refine a_s rfl rfl ?_
    refine a_ic_ne rfl (fun c23 => ?_) (fun c23 => ?_)
    · refine a_s rfl rfl ?_
      exact a_zret rfl rfl rfl ⟨⟨false, rfl⟩, rfl⟩
    · refine a_s rfl rfl ?_
      refine a_goto rfl ?_
      exact a_zret rfl rfl rfl ⟨⟨true, rfl⟩, rfl⟩
theorem q_X2_takeParts_246_235 {S : aS} {I : Nat → Nat → Int32} {L : Nat → Nat → Int64} {w1 w2 t : Nat} {x2 : Int32} : Sp S m_X2_takeParts 14 0 0 [.ref 246, .ref 235, .int x2] (hp I L w1 w2 t) (QR (Fm sQ I) isV L w1 w2 t) nX := by
  refine Sp_of ok_X2_takeParts rfl rfl ?_
  show AW S m_X2_takeParts 14 _ _ 0 0 0 [some (.ref 246), some (.ref 235), some (.int x2), none, none] [] (hp I L w1 w2 t)
  refine a_l1 rfl rfl rfl ?_
  refine a_getq rfl gfX2_82_5 rfl (rfl) ?_
  refine a_l2 rfl rfl rfl ?_
  refine a_eSN1 rfl lX2_61 mo_X11_at (sp_X11_at rfl) rfl rfl rfl rfl ?_
  refine a_s3 rfl rfl rfl rfl rfl rfl ?_
  refine a_l1 rfl rfl rfl ?_
  refine a_getq rfl gfX2_85_5 rfl (rfl) ?_
  refine a_l2 rfl rfl rfl ?_
  refine a_eSN1 rfl lX2_61 mo_X11_at (sp_X11_at rfl) rfl rfl rfl rfl ?_
  refine a_s4 rfl rfl rfl rfl rfl rfl ?_
  refine a_l0 rfl rfl rfl ?_
  refine a_s rfl rfl ?_
  refine a_l2 rfl rfl rfl ?_
  refine a_gV rfl lX2_88 mo_X2_setPart (q_X2_setPart_246) rfl rfl rfl ⟨2, _, rfl, rfl, rfl⟩ rfl (fun v' h' hv => ?_)
  obtain ⟨rfl, I2, rfl, f3⟩ := hv
  refine a_l0 rfl rfl rfl ?_
  refine a_s rfl rfl ?_
  refine a_l1 rfl rfl rfl ?_
  refine a_getq rfl gfX2_92_5 rfl (rfl) ?_
  refine a_l2 rfl rfl rfl ?_
  refine a_eSN1 rfl lX2_61 mo_X11_at (sp_X11_at rfl) rfl rfl rfl rfl ?_
  refine a_gV rfl lX2_88 mo_X2_setPart (q_X2_setPart_246) rfl rfl rfl ⟨2, _, rfl, rfl, rfl⟩ rfl (fun v' h' hv => ?_)
  obtain ⟨rfl, I5, rfl, f6⟩ := hv
  replace f6 : Fm sQ I I5 := Fm.tr (f3) (f6)
  refine a_l0 rfl rfl rfl ?_
  refine a_s rfl rfl ?_
  refine a_l1 rfl rfl rfl ?_
  refine a_getq rfl gfX2_56_5 rfl (rfl) ?_
  refine a_l2 rfl rfl rfl ?_
  refine a_eSN1 rfl lX2_61 mo_X11_at (sp_X11_at rfl) rfl rfl rfl rfl ?_
  refine a_gV rfl lX2_88 mo_X2_setPart (q_X2_setPart_246) rfl rfl rfl ⟨2, _, rfl, rfl, rfl⟩ rfl (fun v' h' hv => ?_)
  obtain ⟨rfl, I8, rfl, f9⟩ := hv
  replace f9 : Fm sQ I I8 := Fm.tr (f6) (f9)
  refine a_l0 rfl rfl rfl ?_
  refine a_s rfl rfl ?_
  refine a_l3 rfl rfl rfl ?_
  refine a_s rfl rfl ?_
  refine a_ic_ne rfl (fun c63 => ?_) (fun c63 => ?_)
  · refine a_l3 rfl rfl rfl ?_
    refine a_gV rfl lX2_88 mo_X2_setPart (q_X2_setPart_246) rfl rfl rfl ⟨2, _, rfl, rfl, rfl⟩ rfl (fun v' h' hv => ?_)
    obtain ⟨rfl, I11, rfl, f12⟩ := hv
    replace f12 : Fm sQ I I11 := Fm.tr (f9) (f12)
    refine a_l0 rfl rfl rfl ?_
    refine a_s rfl rfl ?_
    refine a_l4 rfl rfl rfl ?_
    refine a_gV rfl lX2_88 mo_X2_setPart (q_X2_setPart_246) rfl rfl rfl ⟨2, _, rfl, rfl, rfl⟩ rfl (fun v' h' hv => ?_)
    obtain ⟨rfl, I14, rfl, f15⟩ := hv
    replace f15 : Fm sQ I I14 := Fm.tr (f12) (f15)
    refine a_l0 rfl rfl rfl ?_
    refine a_s rfl rfl ?_
    refine a_l1 rfl rfl rfl ?_
    refine a_getq rfl gfX2_95_5 rfl (rfl) ?_
    refine a_l4 rfl rfl rfl ?_
    refine a_eSN1 rfl lX2_61 mo_X11_at (sp_X11_at rfl) rfl rfl rfl rfl ?_
    refine a_gV rfl lX2_88 mo_X2_setPart (q_X2_setPart_246) rfl rfl rfl ⟨2, _, rfl, rfl, rfl⟩ rfl (fun v' h' hv => ?_)
    obtain ⟨rfl, I17, rfl, f18⟩ := hv
    replace f18 : Fm sQ I I17 := Fm.tr (f15) (f18)
    refine a_l0 rfl rfl rfl ?_
    refine a_s rfl rfl ?_
    refine a_l1 rfl rfl rfl ?_
    refine a_geti rfl gfX2_98_5 rfl ?_
    refine a_gV rfl lX2_88 mo_X2_setPart (q_X2_setPart_246) rfl rfl rfl ⟨2, _, rfl, rfl, rfl⟩ rfl (fun v' h' hv => ?_)
    obtain ⟨rfl, I20, rfl, f21⟩ := hv
    replace f21 : Fm sQ I I20 := Fm.tr (f18) (f21)
    refine a_l0 rfl rfl rfl ?_
    refine a_s rfl rfl ?_
    refine a_l1 rfl rfl rfl ?_
    refine a_l2 rfl rfl rfl ?_
    refine a_gV rfl lX2_101 mo_X5_leansFreely (q_X5_leansFreely_235) rfl rfl rfl ⟨5, _, rfl, rfl, rfl⟩ rfl (fun v' h' hv => ?_)
    obtain ⟨⟨v22, rfl⟩, rfl⟩ := hv
    refine a_if_eq rfl (fun c120 => ?_) (fun c120 => ?_)
    · refine a_s rfl rfl ?_
      refine a_gV rfl lX2_88 mo_X2_setPart (q_X2_setPart_246) rfl rfl rfl ⟨2, _, rfl, rfl, rfl⟩ rfl (fun v' h' hv => ?_)
      obtain ⟨rfl, I24, rfl, f25⟩ := hv
      replace f25 : Fm sQ I I24 := Fm.tr (f21) (f25)
      refine a_l0 rfl rfl rfl ?_
      refine a_s rfl rfl ?_
      refine a_l1 rfl rfl rfl ?_
      refine a_getq rfl gfX2_56_5 rfl (rfl) ?_
      refine a_l2 rfl rfl rfl ?_
      refine a_eSN1 rfl lX2_61 mo_X11_at (sp_X11_at rfl) rfl rfl rfl rfl ?_
      refine a_s rfl rfl ?_
      refine a_ic_le rfl (fun c145 => ?_) (fun c145 => ?_)
      · refine a_s rfl rfl ?_
        refine a_gV rfl lX2_88 mo_X2_setPart (q_X2_setPart_246) rfl rfl rfl ⟨2, _, rfl, rfl, rfl⟩ rfl (fun v' h' hv => ?_)
        obtain ⟨rfl, I27, rfl, f28⟩ := hv
        replace f28 : Fm sQ I I27 := Fm.tr (f25) (f28)
        exact a_vret rfl rfl ⟨rfl, _, rfl, f28⟩
      · refine a_s rfl rfl ?_
        refine a_goto rfl ?_
        refine a_gV rfl lX2_88 mo_X2_setPart (q_X2_setPart_246) rfl rfl rfl ⟨2, _, rfl, rfl, rfl⟩ rfl (fun v' h' hv => ?_)
        obtain ⟨rfl, I30, rfl, f31⟩ := hv
        replace f31 : Fm sQ I I30 := Fm.tr (f25) (f31)
        exact a_vret rfl rfl ⟨rfl, _, rfl, f31⟩
    · refine a_s rfl rfl ?_
      refine a_goto rfl ?_
      refine a_gV rfl lX2_88 mo_X2_setPart (q_X2_setPart_246) rfl rfl rfl ⟨2, _, rfl, rfl, rfl⟩ rfl (fun v' h' hv => ?_)
      obtain ⟨rfl, I33, rfl, f34⟩ := hv
      replace f34 : Fm sQ I I33 := Fm.tr (f21) (f34)
      refine a_l0 rfl rfl rfl ?_
      refine a_s rfl rfl ?_
      refine a_l1 rfl rfl rfl ?_
      refine a_getq rfl gfX2_56_5 rfl (rfl) ?_
      refine a_l2 rfl rfl rfl ?_
      refine a_eSN1 rfl lX2_61 mo_X11_at (sp_X11_at rfl) rfl rfl rfl rfl ?_
      refine a_s rfl rfl ?_
      refine a_ic_le rfl (fun c145 => ?_) (fun c145 => ?_)
      · refine a_s rfl rfl ?_
        refine a_gV rfl lX2_88 mo_X2_setPart (q_X2_setPart_246) rfl rfl rfl ⟨2, _, rfl, rfl, rfl⟩ rfl (fun v' h' hv => ?_)
        obtain ⟨rfl, I36, rfl, f37⟩ := hv
        replace f37 : Fm sQ I I36 := Fm.tr (f34) (f37)
        exact a_vret rfl rfl ⟨rfl, _, rfl, f37⟩
      · refine a_s rfl rfl ?_
        refine a_goto rfl ?_
        refine a_gV rfl lX2_88 mo_X2_setPart (q_X2_setPart_246) rfl rfl rfl ⟨2, _, rfl, rfl, rfl⟩ rfl (fun v' h' hv => ?_)
        obtain ⟨rfl, I39, rfl, f40⟩ := hv
        replace f40 : Fm sQ I I39 := Fm.tr (f34) (f40)
        exact a_vret rfl rfl ⟨rfl, _, rfl, f40⟩
  · refine a_s rfl rfl ?_
    refine a_goto rfl ?_
    refine a_gV rfl lX2_88 mo_X2_setPart (q_X2_setPart_246) rfl rfl rfl ⟨2, _, rfl, rfl, rfl⟩ rfl (fun v' h' hv => ?_)
    obtain ⟨rfl, I42, rfl, f43⟩ := hv
    replace f43 : Fm sQ I I42 := Fm.tr (f9) (f43)
    refine a_l0 rfl rfl rfl ?_
    refine a_s rfl rfl ?_
    refine a_l4 rfl rfl rfl ?_
    refine a_gV rfl lX2_88 mo_X2_setPart (q_X2_setPart_246) rfl rfl rfl ⟨2, _, rfl, rfl, rfl⟩ rfl (fun v' h' hv => ?_)
    obtain ⟨rfl, I45, rfl, f46⟩ := hv
    replace f46 : Fm sQ I I45 := Fm.tr (f43) (f46)
    refine a_l0 rfl rfl rfl ?_
    refine a_s rfl rfl ?_
    refine a_l1 rfl rfl rfl ?_
    refine a_getq rfl gfX2_95_5 rfl (rfl) ?_
    refine a_l4 rfl rfl rfl ?_
    refine a_eSN1 rfl lX2_61 mo_X11_at (sp_X11_at rfl) rfl rfl rfl rfl ?_
    refine a_gV rfl lX2_88 mo_X2_setPart (q_X2_setPart_246) rfl rfl rfl ⟨2, _, rfl, rfl, rfl⟩ rfl (fun v' h' hv => ?_)
    obtain ⟨rfl, I48, rfl, f49⟩ := hv
    replace f49 : Fm sQ I I48 := Fm.tr (f46) (f49)
    refine a_l0 rfl rfl rfl ?_
    refine a_s rfl rfl ?_
    refine a_l1 rfl rfl rfl ?_
    refine a_geti rfl gfX2_98_5 rfl ?_
    refine a_gV rfl lX2_88 mo_X2_setPart (q_X2_setPart_246) rfl rfl rfl ⟨2, _, rfl, rfl, rfl⟩ rfl (fun v' h' hv => ?_)
    obtain ⟨rfl, I51, rfl, f52⟩ := hv
    replace f52 : Fm sQ I I51 := Fm.tr (f49) (f52)
    refine a_l0 rfl rfl rfl ?_
    refine a_s rfl rfl ?_
    refine a_l1 rfl rfl rfl ?_
    refine a_l2 rfl rfl rfl ?_
    refine a_gV rfl lX2_101 mo_X5_leansFreely (q_X5_leansFreely_235) rfl rfl rfl ⟨5, _, rfl, rfl, rfl⟩ rfl (fun v' h' hv => ?_)
    obtain ⟨⟨v53, rfl⟩, rfl⟩ := hv
    refine a_if_eq rfl (fun c120 => ?_) (fun c120 => ?_)
    · refine a_s rfl rfl ?_
      refine a_gV rfl lX2_88 mo_X2_setPart (q_X2_setPart_246) rfl rfl rfl ⟨2, _, rfl, rfl, rfl⟩ rfl (fun v' h' hv => ?_)
      obtain ⟨rfl, I55, rfl, f56⟩ := hv
      replace f56 : Fm sQ I I55 := Fm.tr (f52) (f56)
      refine a_l0 rfl rfl rfl ?_
      refine a_s rfl rfl ?_
      refine a_l1 rfl rfl rfl ?_
      refine a_getq rfl gfX2_56_5 rfl (rfl) ?_
      refine a_l2 rfl rfl rfl ?_
      refine a_eSN1 rfl lX2_61 mo_X11_at (sp_X11_at rfl) rfl rfl rfl rfl ?_
      refine a_s rfl rfl ?_
      refine a_ic_le rfl (fun c145 => ?_) (fun c145 => ?_)
      · refine a_s rfl rfl ?_
        refine a_gV rfl lX2_88 mo_X2_setPart (q_X2_setPart_246) rfl rfl rfl ⟨2, _, rfl, rfl, rfl⟩ rfl (fun v' h' hv => ?_)
        obtain ⟨rfl, I58, rfl, f59⟩ := hv
        replace f59 : Fm sQ I I58 := Fm.tr (f56) (f59)
        exact a_vret rfl rfl ⟨rfl, _, rfl, f59⟩
      · refine a_s rfl rfl ?_
        refine a_goto rfl ?_
        refine a_gV rfl lX2_88 mo_X2_setPart (q_X2_setPart_246) rfl rfl rfl ⟨2, _, rfl, rfl, rfl⟩ rfl (fun v' h' hv => ?_)
        obtain ⟨rfl, I61, rfl, f62⟩ := hv
        replace f62 : Fm sQ I I61 := Fm.tr (f56) (f62)
        exact a_vret rfl rfl ⟨rfl, _, rfl, f62⟩
    · refine a_s rfl rfl ?_
      refine a_goto rfl ?_
      refine a_gV rfl lX2_88 mo_X2_setPart (q_X2_setPart_246) rfl rfl rfl ⟨2, _, rfl, rfl, rfl⟩ rfl (fun v' h' hv => ?_)
      obtain ⟨rfl, I64, rfl, f65⟩ := hv
      replace f65 : Fm sQ I I64 := Fm.tr (f52) (f65)
      refine a_l0 rfl rfl rfl ?_
      refine a_s rfl rfl ?_
      refine a_l1 rfl rfl rfl ?_
      refine a_getq rfl gfX2_56_5 rfl (rfl) ?_
      refine a_l2 rfl rfl rfl ?_
      refine a_eSN1 rfl lX2_61 mo_X11_at (sp_X11_at rfl) rfl rfl rfl rfl ?_
      refine a_s rfl rfl ?_
      refine a_ic_le rfl (fun c145 => ?_) (fun c145 => ?_)
      · refine a_s rfl rfl ?_
        refine a_gV rfl lX2_88 mo_X2_setPart (q_X2_setPart_246) rfl rfl rfl ⟨2, _, rfl, rfl, rfl⟩ rfl (fun v' h' hv => ?_)
        obtain ⟨rfl, I67, rfl, f68⟩ := hv
        replace f68 : Fm sQ I I67 := Fm.tr (f65) (f68)
        exact a_vret rfl rfl ⟨rfl, _, rfl, f68⟩
      · refine a_s rfl rfl ?_
        refine a_goto rfl ?_
        refine a_gV rfl lX2_88 mo_X2_setPart (q_X2_setPart_246) rfl rfl rfl ⟨2, _, rfl, rfl, rfl⟩ rfl (fun v' h' hv => ?_)
        obtain ⟨rfl, I70, rfl, f71⟩ := hv
        replace f71 : Fm sQ I I70 := Fm.tr (f65) (f71)
        exact a_vret rfl rfl ⟨rfl, _, rfl, f71⟩
theorem q_X2_joined {S : aS} {I : Nat → Nat → Int32} {L : Nat → Nat → Int64} {w1 w2 t : Nat} {x0 x1 x2 : Int32} : Sp S m_X2_joined 12 0 0 [.int x0, .int x1, .int x2] (hp I L w1 w2 t) (QE isI (hp I L w1 w2 t)) nX := by
  refine Sp_of ok_X2_joined rfl rfl ?_
  show AW S m_X2_joined 12 _ _ 0 0 0 [some (.int x0), some (.int x1), some (.int x2)] [] (hp I L w1 w2 t)
  refine a_l0 rfl rfl rfl ?_
  refine a_tswA rfl (by decide) (by decide) (fun hx => ?_) (fun i o ho hx => ?_)
  · refine a_pc (pc' := 66) (by decide) ?_
    refine a_l1 rfl rfl rfl ?_
    refine a_l2 rfl rfl rfl ?_
    refine a_s rfl rfl ?_
    exact a_iret rfl rfl ⟨⟨_, rfl⟩, rfl⟩
  · rcases i with _ | _ | _ | _ | _ | i
    · cases ho
      refine a_pc (pc' := 36) (by decide) ?_
      refine a_l1 rfl rfl rfl ?_
      refine a_l2 rfl rfl rfl ?_
      refine a_s rfl rfl ?_
      exact a_iret rfl rfl ⟨⟨_, rfl⟩, rfl⟩
    · cases ho
      refine a_pc (pc' := 40) (by decide) ?_
      refine a_l1 rfl rfl rfl ?_
      refine a_l2 rfl rfl rfl ?_
      refine a_ic_ge rfl (fun c42 => ?_) (fun c42 => ?_)
      · refine a_s rfl rfl ?_
        exact a_iret rfl rfl ⟨⟨_, rfl⟩, rfl⟩
      · refine a_s rfl rfl ?_
        refine a_goto rfl ?_
        exact a_iret rfl rfl ⟨⟨_, rfl⟩, rfl⟩
    · cases ho
      refine a_pc (pc' := 51) (by decide) ?_
      refine a_l1 rfl rfl rfl ?_
      refine a_l2 rfl rfl rfl ?_
      refine a_ic_le rfl (fun c53 => ?_) (fun c53 => ?_)
      · refine a_s rfl rfl ?_
        exact a_iret rfl rfl ⟨⟨_, rfl⟩, rfl⟩
      · refine a_s rfl rfl ?_
        refine a_goto rfl ?_
        exact a_iret rfl rfl ⟨⟨_, rfl⟩, rfl⟩
    · cases ho
      refine a_pc (pc' := 66) (by decide) ?_
      refine a_l1 rfl rfl rfl ?_
      refine a_l2 rfl rfl rfl ?_
      refine a_s rfl rfl ?_
      exact a_iret rfl rfl ⟨⟨_, rfl⟩, rfl⟩
    · cases ho
      refine a_pc (pc' := 62) (by decide) ?_
      refine a_l1 rfl rfl rfl ?_
      refine a_l2 rfl rfl rfl ?_
      refine a_s rfl rfl ?_
      exact a_iret rfl rfl ⟨⟨_, rfl⟩, rfl⟩
    · cases ho
theorem q_X2_holds_246 {S : aS} {I : Nat → Nat → Int32} {L : Nat → Nat → Int64} {w1 w2 t : Nat} {x1 : Int32} : Sp S m_X2_holds 13 0 0 [.ref 246, .int x1] (hp I L w1 w2 t) (QR (Fm sQ I) isZ L w1 w2 t) nX := by
  refine Sp_of ok_X2_holds rfl rfl ?_
  show AW S m_X2_holds 13 _ _ 0 0 0 [some (.ref 246), some (.int x1), none, none, none, none] [] (hp I L w1 w2 t)
  refine a_s rfl rfl ?_
  refine a_s2 rfl rfl rfl rfl rfl rfl ?_
  refine a_l0 rfl rfl rfl ?_
  refine a_getq rfl gfX2_25_2 rfl (rfl) ?_
  refine a_l1 rfl rfl rfl ?_
  refine a_eSN1 rfl lX2_61 mo_X11_at (sp_X11_at rfl) rfl rfl rfl rfl ?_
  refine a_s3 rfl rfl rfl rfl rfl rfl ?_
  refine a_l0 rfl rfl rfl ?_
  refine a_getq rfl gfX2_22_2 rfl (rfl) ?_
  refine a_l1 rfl rfl rfl ?_
  refine a_eSN1 rfl lX2_61 mo_X11_at (sp_X11_at rfl) rfl rfl rfl rfl ?_
  refine a_s4 rfl rfl rfl rfl rfl rfl ?_
  refine a_cntI (fun y ls h => ∃ a0, ∃ a1, ∃ I', ls = [some (.ref 246), some (.int x1), some (.int a0), some (.int a1), some (.int y), none] ∧ h = hp I' L w1 w2 t ∧ Fm sQ I I') ⟨_, _, _, rfl, rfl, Fm.rf⟩ ⟨rfl, rfl, rfl, rfl, rfl, trivial⟩ ?_
  rintro y21 _ _ ⟨a0_21, a1_21, Ih21, rfl, rfl, fh21⟩ ih21
  refine a_l4 rfl rfl rfl ?_
  refine a_l3 rfl rfl rfl ?_
  refine a_ic_ge rfl (fun c24 => ?_) (fun c24 => ?_)
  · refine a_l2 rfl rfl rfl ?_
    refine a_if_eq rfl (fun c162 => ?_) (fun c162 => ?_)
    · refine a_s rfl rfl ?_
      refine a_goto rfl ?_
      exact a_zret rfl rfl rfl ⟨⟨true, rfl⟩, _, rfl, fh21⟩
    · refine a_l0 rfl rfl rfl ?_
      refine a_getq rfl gfX2_34_2 rfl (rfl) ?_
      refine a_s rfl rfl ?_
      refine a_eSN1 rfl lX2_61 mo_X11_at (sp_X11_at rfl) rfl rfl rfl rfl ?_
      refine a_if_eq rfl (fun c173 => ?_) (fun c173 => ?_)
      · refine a_s rfl rfl ?_
        exact a_zret rfl rfl rfl ⟨⟨false, rfl⟩, _, rfl, fh21⟩
      · refine a_s rfl rfl ?_
        refine a_goto rfl ?_
        exact a_zret rfl rfl rfl ⟨⟨true, rfl⟩, _, rfl, fh21⟩
  · refine a_l0 rfl rfl rfl ?_
    refine a_getq rfl gfX2_28_2 rfl (rfl) ?_
    refine a_l4 rfl rfl rfl ?_
    refine a_eSN1 rfl lX2_61 mo_X11_at (sp_X11_at rfl) rfl rfl rfl rfl ?_
    refine a_s5 rfl rfl rfl rfl rfl rfl ?_
    refine a_l5 rfl rfl rfl ?_
    refine a_s rfl rfl ?_
    refine a_ic_ge rfl (fun c43 => ?_) (fun c43 => ?_)
    · refine a_l5 rfl rfl rfl ?_
      refine a_s rfl rfl ?_
      refine a_ic_ne rfl (fun c91 => ?_) (fun c91 => ?_)
      · refine a_i2 rfl rfl rfl ?_
        refine a_l0 rfl rfl rfl ?_
        refine a_getq rfl gfX2_34_2 rfl (rfl) ?_
        refine a_l2 rfl rfl rfl ?_
        refine a_s rfl rfl ?_
        refine a_s rfl rfl ?_
        refine a_l5 rfl rfl rfl ?_
        refine a_l0 rfl rfl rfl ?_
        refine a_getq rfl gfX2_34_2 rfl (rfl) ?_
        refine a_l2 rfl rfl rfl ?_
        refine a_s rfl rfl ?_
        refine a_s rfl rfl ?_
        refine a_eSN1 rfl lX2_61 mo_X11_at (sp_X11_at rfl) rfl rfl rfl rfl ?_
        refine a_l0 rfl rfl rfl ?_
        refine a_getq rfl gfX2_34_2 rfl (rfl) ?_
        refine a_l2 rfl rfl rfl ?_
        refine a_eSN1 rfl lX2_61 mo_X11_at (sp_X11_at rfl) rfl rfl rfl rfl ?_
        refine a_gS rfl lX2_108 mo_X2_joined (q_X2_joined) rfl rfl rfl rfl (fun v' h' hv => ?_)
        obtain ⟨⟨v1, rfl⟩, rfl⟩ := hv
        refine a_eSN0 rfl lX2_44 mo_X11_setAt (sp_X11_setAt rfl) rfl rfl rfl rfl ?_
        refine a_ren (P := Fm sQ I) (Fm.tr (fh21) (Fm.st (Fm.rf (s := sQ)) (fun _ => rfl))) (fun I2 f3 => ?_)
        refine a_i4 rfl rfl rfl ?_
        refine a_goto rfl ?_
        exact ih21 _ _ _ _ c24 ⟨_, _, _, rfl, rfl, f3⟩ ⟨rfl, rfl, rfl, rfl, rfl, trivial⟩
      · refine a_l0 rfl rfl rfl ?_
        refine a_getq rfl gfX2_34_2 rfl (rfl) ?_
        refine a_l2 rfl rfl rfl ?_
        refine a_s rfl rfl ?_
        refine a_s rfl rfl ?_
        refine a_s rfl rfl ?_
        refine a_l0 rfl rfl rfl ?_
        refine a_getq rfl gfX2_34_2 rfl (rfl) ?_
        refine a_l2 rfl rfl rfl ?_
        refine a_s rfl rfl ?_
        refine a_s rfl rfl ?_
        refine a_eSN1 rfl lX2_61 mo_X11_at (sp_X11_at rfl) rfl rfl rfl rfl ?_
        refine a_s rfl rfl ?_
        refine a_eSN0 rfl lX2_44 mo_X11_setAt (sp_X11_setAt rfl) rfl rfl rfl rfl ?_
        refine a_ren (P := Fm sQ I) (Fm.tr (fh21) (Fm.st (Fm.rf (s := sQ)) (fun _ => rfl))) (fun I4 f5 => ?_)
        refine a_goto rfl ?_
        refine a_i4 rfl rfl rfl ?_
        refine a_goto rfl ?_
        exact ih21 _ _ _ _ c24 ⟨_, _, _, rfl, rfl, f5⟩ ⟨rfl, rfl, rfl, rfl, rfl, trivial⟩
    · refine a_l0 rfl rfl rfl ?_
      refine a_getq rfl gfX2_34_2 rfl (rfl) ?_
      refine a_l2 rfl rfl rfl ?_
      refine a_l5 rfl rfl rfl ?_
      refine a_s rfl rfl ?_
      refine a_ic_ge rfl (fun c56 => ?_) (fun c56 => ?_)
      · refine a_l0 rfl rfl rfl ?_
        refine a_getq rfl gfX2_31_2 rfl (rfl) ?_
        refine a_l5 rfl rfl rfl ?_
        refine a_s rfl rfl ?_
        refine a_s rfl rfl ?_
        refine a_eSN1 rfl lX2_61 mo_X11_at (sp_X11_at rfl) rfl rfl rfl rfl ?_
        refine a_eSN0 rfl lX2_44 mo_X11_setAt (sp_X11_setAt rfl) rfl rfl rfl rfl ?_
        refine a_ren (P := Fm sQ I) (Fm.tr (fh21) (Fm.st (Fm.rf (s := sQ)) (fun _ => rfl))) (fun I6 f7 => ?_)
        refine a_i2 rfl rfl rfl ?_
        refine a_goto rfl ?_
        refine a_i4 rfl rfl rfl ?_
        refine a_goto rfl ?_
        exact ih21 _ _ _ _ c24 ⟨_, _, _, rfl, rfl, f7⟩ ⟨rfl, rfl, rfl, rfl, rfl, trivial⟩
      · refine a_l5 rfl rfl rfl ?_
        refine a_goto rfl ?_
        refine a_eSN0 rfl lX2_44 mo_X11_setAt (sp_X11_setAt rfl) rfl rfl rfl rfl ?_
        refine a_ren (P := Fm sQ I) (Fm.tr (fh21) (Fm.st (Fm.rf (s := sQ)) (fun _ => rfl))) (fun I8 f9 => ?_)
        refine a_i2 rfl rfl rfl ?_
        refine a_goto rfl ?_
        refine a_i4 rfl rfl rfl ?_
        refine a_goto rfl ?_
        exact ih21 _ _ _ _ c24 ⟨_, _, _, rfl, rfl, f9⟩ ⟨rfl, rfl, rfl, rfl, rfl, trivial⟩
theorem q_X2_sumOfLines_246 {S : aS} {I : Nat → Nat → Int32} {L : Nat → Nat → Int64} {w1 w2 t : Nat} {x1 : Int32} : Sp S m_X2_sumOfLines 14 0 0 [.ref 246, .int x1] (hp I L w1 w2 t) (QR (Fm sQ I) isI L w1 w2 t) nX := by
  refine Sp_of ok_X2_sumOfLines rfl rfl ?_
  show AW S m_X2_sumOfLines 14 _ _ 0 0 0 [some (.ref 246), some (.int x1), none, none] [] (hp I L w1 w2 t)
  refine a_s rfl rfl ?_
  refine a_s2 rfl rfl rfl rfl rfl rfl ?_
  refine a_s rfl rfl ?_
  refine a_s3 rfl rfl rfl rfl rfl rfl ?_
  refine a_cnt (j0 := 0) (fun j ls h => ∃ a0, ∃ I', ls = [some (.ref 246), some (.int x1), some (.int a0), some (.int (nI j))] ∧ h = hp I' L w1 w2 t ∧ Fm sQ I I') (by decide) ⟨_, _, rfl, rfl, Fm.rf⟩ ⟨rfl, rfl, rfl, rfl, trivial⟩ ?_
  rintro j4 _ _ hj4 ⟨a0_4, Ih4, rfl, rfl, fh4⟩ ih4
  refine a_l3 rfl rfl rfl ?_
  refine a_l0 rfl rfl rfl ?_
  refine a_geti rfl gfX2_11_2 rfl ?_
  refine a_ic_ge rfl (fun c9 => ?_) (fun c9 => ?_)
  · refine a_l2 rfl rfl rfl ?_
    exact a_iret rfl rfl ⟨⟨_, rfl⟩, _, rfl, fh4⟩
  · refine a_l0 rfl rfl rfl ?_
    refine a_getq rfl gfX2_15_2 rfl (rfl) ?_
    refine a_l3 rfl rfl rfl ?_
    refine a_eSN1 rfl lX2_61 mo_X11_at (sp_X11_at rfl) rfl rfl rfl rfl ?_
    refine a_l1 rfl rfl rfl ?_
    refine a_ic_ne rfl (fun c21 => ?_) (fun c21 => ?_)
    · refine a_i3 rfl rfl rfl ?_
      refine a_goto rfl ?_
      exact ih4 _ _ _ _ c9 ⟨_, _, rfl, rfl, fh4⟩ ⟨rfl, rfl, rfl, nS _, trivial⟩
    · refine a_l0 rfl rfl rfl ?_
      refine a_l3 rfl rfl rfl ?_
      refine a_gV rfl lX2_105 mo_X2_holds (q_X2_holds_246) rfl rfl rfl ⟨2, _, rfl, rfl, rfl⟩ rfl (fun v' h' hv => ?_)
      obtain ⟨⟨v1, rfl⟩, I2, rfl, f3⟩ := hv
      replace f3 : Fm sQ I I2 := Fm.tr (fh4) (f3)
      refine a_if_eq rfl (fun c29 => ?_) (fun c29 => ?_)
      · refine a_i3 rfl rfl rfl ?_
        refine a_goto rfl ?_
        exact ih4 _ _ _ _ c9 ⟨_, _, rfl, rfl, f3⟩ ⟨rfl, rfl, rfl, nS _, trivial⟩
      · refine a_l2 rfl rfl rfl ?_
        refine a_l0 rfl rfl rfl ?_
        refine a_getq rfl gfX2_19_2 rfl (rfl) ?_
        refine a_l3 rfl rfl rfl ?_
        refine a_eSN1 rfl lX2_61 mo_X11_at (sp_X11_at rfl) rfl rfl rfl rfl ?_
        refine a_s rfl rfl ?_
        refine a_s2 rfl rfl rfl rfl rfl rfl ?_
        refine a_i3 rfl rfl rfl ?_
        refine a_goto rfl ?_
        exact ih4 _ _ _ _ c9 ⟨_, _, rfl, rfl, f3⟩ ⟨rfl, rfl, rfl, nS _, trivial⟩
theorem q_X2_shameOf_246_235 {S : aS} {I : Nat → Nat → Int32} {L : Nat → Nat → Int64} {w1 w2 t : Nat} {x2 : Int32} : Sp S m_X2_shameOf 15 0 0 [.ref 246, .ref 235, .int x2] (hp I L w1 w2 t) (QR (Fm sQ I) isI L w1 w2 t) nX := by
  refine Sp_of ok_X2_shameOf rfl rfl ?_
  show AW S m_X2_shameOf 15 _ _ 0 0 0 [some (.ref 246), some (.ref 235), some (.int x2)] [] (hp I L w1 w2 t)
  refine a_l0 rfl rfl rfl ?_
  refine a_l1 rfl rfl rfl ?_
  refine a_l2 rfl rfl rfl ?_
  refine a_gV rfl lX2_48 mo_X2_takeParts (q_X2_takeParts_246_235) rfl rfl rfl ⟨2, _, rfl, rfl, rfl⟩ rfl (fun v' h' hv => ?_)
  obtain ⟨rfl, I2, rfl, f3⟩ := hv
  refine a_s rfl rfl ?_
  refine a_l1 rfl rfl rfl ?_
  refine a_getq rfl gfX2_56_5 rfl (rfl) ?_
  refine a_l2 rfl rfl rfl ?_
  refine a_eSN1 rfl lX2_61 mo_X11_at (sp_X11_at rfl) rfl rfl rfl rfl ?_
  refine a_l0 rfl rfl rfl ?_
  refine a_s rfl rfl ?_
  refine a_gV rfl lX2_52 mo_X2_sumOfLines (q_X2_sumOfLines_246) rfl rfl rfl ⟨2, _, rfl, rfl, rfl⟩ rfl (fun v' h' hv => ?_)
  obtain ⟨⟨v4, rfl⟩, I5, rfl, f6⟩ := hv
  replace f6 : Fm sQ I I5 := Fm.tr (f3) (f6)
  refine a_s rfl rfl ?_
  refine a_l0 rfl rfl rfl ?_
  refine a_s rfl rfl ?_
  refine a_gV rfl lX2_52 mo_X2_sumOfLines (q_X2_sumOfLines_246) rfl rfl rfl ⟨2, _, rfl, rfl, rfl⟩ rfl (fun v' h' hv => ?_)
  obtain ⟨⟨v7, rfl⟩, I8, rfl, f9⟩ := hv
  replace f9 : Fm sQ I I8 := Fm.tr (f6) (f9)
  refine a_s rfl rfl ?_
  refine a_max rfl lX2_65 mj_max rfl rfl ?_
  exact a_iret rfl rfl ⟨⟨_, rfl⟩, _, rfl, f9⟩
theorem q_X2_shameOfSet_246_235 {S : aS} {I : Nat → Nat → Int32} {L : Nat → Nat → Int64} {w1 w2 t : Nat} {x2 : Int32} : Sp S m_X2_shameOfSet 16 0 0 [.ref 246, .ref 235, .int x2] (hp I L w1 w2 t) (QR (Fm sQ I) isI L w1 w2 t) nX := by
  refine Sp_of ok_X2_shameOfSet rfl rfl ?_
  show AW S m_X2_shameOfSet 16 _ _ 0 0 0 [some (.ref 246), some (.ref 235), some (.int x2), none, none] [] (hp I L w1 w2 t)
  refine a_s rfl rfl ?_
  refine a_s3 rfl rfl rfl rfl rfl rfl ?_
  refine a_s rfl rfl ?_
  refine a_s4 rfl rfl rfl rfl rfl rfl ?_
  refine a_cnt (j0 := 0) (fun j ls h => ∃ a0, ∃ I', ls = [some (.ref 246), some (.ref 235), some (.int x2), some (.int a0), some (.int (nI j))] ∧ h = hp I' L w1 w2 t ∧ Fm sQ I I') (by decide) ⟨_, _, rfl, rfl, Fm.rf⟩ ⟨rfl, rfl, rfl, rfl, rfl, trivial⟩ ?_
  rintro j5 _ _ hj5 ⟨a0_5, Ih5, rfl, rfl, fh5⟩ ih5
  refine a_l4 rfl rfl rfl ?_
  refine a_l1 rfl rfl rfl ?_
  refine a_geti rfl gfX2_71_5 rfl ?_
  refine a_ic_ge rfl (fun c11 => ?_) (fun c11 => ?_)
  · refine a_l3 rfl rfl rfl ?_
    exact a_iret rfl rfl ⟨⟨_, rfl⟩, _, rfl, fh5⟩
  · refine a_l2 rfl rfl rfl ?_
    refine a_l4 rfl rfl rfl ?_
    refine a_eSN1 rfl lX2_74 mo_X11_has (sp_X11_has) rfl rfl rfl rfl ?_
    refine a_if_eq rfl (fun c20 => ?_) (fun c20 => ?_)
    · refine a_i4 rfl rfl rfl ?_
      refine a_goto rfl ?_
      exact ih5 _ _ _ _ c11 ⟨_, _, rfl, rfl, fh5⟩ ⟨rfl, rfl, rfl, rfl, nS _, trivial⟩
    · refine a_l3 rfl rfl rfl ?_
      refine a_l0 rfl rfl rfl ?_
      refine a_l1 rfl rfl rfl ?_
      refine a_l4 rfl rfl rfl ?_
      refine a_gV rfl lX2_78 mo_X2_shameOf (q_X2_shameOf_246_235) rfl rfl rfl ⟨2, _, rfl, rfl, rfl⟩ rfl (fun v' h' hv => ?_)
      obtain ⟨⟨v1, rfl⟩, I2, rfl, f3⟩ := hv
      replace f3 : Fm sQ I I2 := Fm.tr (fh5) (f3)
      refine a_s rfl rfl ?_
      refine a_s3 rfl rfl rfl rfl rfl rfl ?_
      refine a_i4 rfl rfl rfl ?_
      refine a_goto rfl ?_
      exact ih5 _ _ _ _ c11 ⟨_, _, rfl, rfl, f3⟩ ⟨rfl, rfl, rfl, rfl, nS _, trivial⟩
theorem q_X2_growthOf_246_235 {S : aS} {I : Nat → Nat → Int32} {L : Nat → Nat → Int64} {w1 w2 t : Nat} {x2 : Int32} : Sp S m_X2_growthOf 15 0 0 [.ref 246, .ref 235, .int x2] (hp I L w1 w2 t) (QR (Fm sQ I) isI L w1 w2 t) nX := by
  refine Sp_of ok_X2_growthOf rfl rfl ?_
  show AW S m_X2_growthOf 15 _ _ 0 0 0 [some (.ref 246), some (.ref 235), some (.int x2)] [] (hp I L w1 w2 t)
  refine a_l0 rfl rfl rfl ?_
  refine a_l1 rfl rfl rfl ?_
  refine a_l2 rfl rfl rfl ?_
  refine a_gV rfl lX2_48 mo_X2_takeParts (q_X2_takeParts_246_235) rfl rfl rfl ⟨2, _, rfl, rfl, rfl⟩ rfl (fun v' h' hv => ?_)
  obtain ⟨rfl, I2, rfl, f3⟩ := hv
  refine a_l0 rfl rfl rfl ?_
  refine a_s rfl rfl ?_
  refine a_gV rfl lX2_52 mo_X2_sumOfLines (q_X2_sumOfLines_246) rfl rfl rfl ⟨2, _, rfl, rfl, rfl⟩ rfl (fun v' h' hv => ?_)
  obtain ⟨⟨v4, rfl⟩, I5, rfl, f6⟩ := hv
  replace f6 : Fm sQ I I5 := Fm.tr (f3) (f6)
  exact a_iret rfl rfl ⟨⟨_, rfl⟩, _, rfl, f6⟩
theorem q_X5_isWaiting_257 {S : aS} {I : Nat → Nat → Int32} {L : Nat → Nat → Int64} {w1 w2 t : Nat} {x1 : Int32} : Sp S m_X5_isWaiting 13 0 0 [.ref 257, .int x1] (hp I L w1 w2 t) (QE isZ (hp I L w1 w2 t)) nX := by
  refine Sp_of ok_X5_isWaiting rfl rfl ?_
  show AW S m_X5_isWaiting 13 _ _ 0 0 0 [some (.ref 257), some (.int x1)] [] (hp I L w1 w2 t)
  refine a_l1 rfl rfl rfl ?_
  refine a_if_lt rfl (fun c1 => ?_) (fun c1 => ?_)
  · refine a_s rfl rfl ?_
    exact a_zret rfl rfl rfl ⟨⟨false, rfl⟩, rfl⟩
  · refine a_l1 rfl rfl rfl ?_
    refine a_l0 rfl rfl rfl ?_
    refine a_geti rfl gfX5_63_5 rfl ?_
    refine a_ic_ge rfl (fun c9 => ?_) (fun c9 => ?_)
    · refine a_s rfl rfl ?_
      exact a_zret rfl rfl rfl ⟨⟨false, rfl⟩, rfl⟩
    · refine a_l0 rfl rfl rfl ?_
      refine a_getq rfl gfX5_33_5 rfl (rfl) ?_
      refine a_l1 rfl rfl rfl ?_
      refine a_eSN1 rfl lX5_86 mo_X11_at (sp_X11_at rfl) rfl rfl rfl rfl ?_
      refine a_if_ne rfl (fun c20 => ?_) (fun c20 => ?_)
      · refine a_s rfl rfl ?_
        exact a_zret rfl rfl rfl ⟨⟨false, rfl⟩, rfl⟩
      · refine a_s rfl rfl ?_
        refine a_goto rfl ?_
        exact a_zret rfl rfl rfl ⟨⟨true, rfl⟩, rfl⟩
theorem q_X5_growOlder_257 {S : aS} {I : Nat → Nat → Int32} {L : Nat → Nat → Int64} {w1 w2 t : Nat} {x1 : Int32} : Sp S m_X5_growOlder 13 0 0 [.ref 257, .int x1] (hp I L w1 w2 t) (QR (Fm sQ I) isV L w1 w2 t) nX := by
  refine Sp_of ok_X5_growOlder rfl rfl ?_
  show AW S m_X5_growOlder 13 _ _ 0 0 0 [some (.ref 257), some (.int x1)] [] (hp I L w1 w2 t)
  refine a_l0 rfl rfl rfl ?_
  refine a_getq rfl gfX5_24_5 rfl (rfl) ?_
  refine a_l1 rfl rfl rfl ?_
  refine a_s rfl rfl ?_
  refine a_l0 rfl rfl rfl ?_
  refine a_getq rfl gfX5_24_5 rfl (rfl) ?_
  refine a_l1 rfl rfl rfl ?_
  refine a_eSN1 rfl lX5_86 mo_X11_at (sp_X11_at rfl) rfl rfl rfl rfl ?_
  refine a_s rfl rfl ?_
  refine a_s rfl rfl ?_
  refine a_min rfl lX5_127 mj_min rfl rfl ?_
  refine a_eSN0 rfl lX5_82 mo_X11_setAt (sp_X11_setAt rfl) rfl rfl rfl rfl ?_
  refine a_ren (P := Fm sQ I) (Fm.st (Fm.rf (s := sQ)) (fun _ => rfl)) (fun I1 f2 => ?_)
  exact a_vret rfl rfl ⟨rfl, _, rfl, f2⟩
theorem q_X5_leansFreely_257 {S : aS} {I : Nat → Nat → Int32} {L : Nat → Nat → Int64} {w1 w2 t : Nat} {x1 : Int32} : Sp S m_X5_leansFreely 13 0 0 [.ref 257, .int x1] (hp I L w1 w2 t) (QE isZ (hp I L w1 w2 t)) nX := by
  refine Sp_of ok_X5_leansFreely rfl rfl ?_
  show AW S m_X5_leansFreely 13 _ _ 0 0 0 [some (.ref 257), some (.int x1), none] [] (hp I L w1 w2 t)
  refine a_l0 rfl rfl rfl ?_
  refine a_getq rfl gfX5_30_5 rfl (rfl) ?_
  refine a_l1 rfl rfl rfl ?_
  refine a_eSN1 rfl lX5_86 mo_X11_at (sp_X11_at rfl) rfl rfl rfl rfl ?_
  refine a_s2 rfl rfl rfl rfl rfl rfl ?_
  refine a_l2 rfl rfl rfl ?_
  refine a_s rfl rfl ?_
  refine a_ic_eq rfl (fun c11 => ?_) (fun c11 => ?_)
  · refine a_s rfl rfl ?_
    refine a_goto rfl ?_
    exact a_zret rfl rfl rfl ⟨⟨true, rfl⟩, rfl⟩
  · refine a_l0 rfl rfl rfl ?_
    refine a_getq rfl gfX5_33_5 rfl (rfl) ?_
    refine a_l2 rfl rfl rfl ?_
    refine a_eSN1 rfl lX5_86 mo_X11_at (sp_X11_at rfl) rfl rfl rfl rfl ?_
    refine a_s rfl rfl ?_
    refine a_ic_ne rfl (fun c23 => ?_) (fun c23 => ?_)
    · refine a_s rfl rfl ?_
      exact a_zret rfl rfl rfl ⟨⟨false, rfl⟩, rfl⟩
    · refine a_s rfl rfl ?_
      refine a_goto rfl ?_
      exact a_zret rfl rfl rfl ⟨⟨true, rfl⟩, rfl⟩
theorem q_X2_takeParts_246_257 {S : aS} {I : Nat → Nat → Int32} {L : Nat → Nat → Int64} {w1 w2 t : Nat} {x2 : Int32} : Sp S m_X2_takeParts 14 0 0 [.ref 246, .ref 257, .int x2] (hp I L w1 w2 t) (QR (Fm sQ I) isV L w1 w2 t) nX := by
  refine Sp_of ok_X2_takeParts rfl rfl ?_
  show AW S m_X2_takeParts 14 _ _ 0 0 0 [some (.ref 246), some (.ref 257), some (.int x2), none, none] [] (hp I L w1 w2 t)
  refine a_l1 rfl rfl rfl ?_
  refine a_getq rfl gfX2_82_5 rfl (rfl) ?_
  refine a_l2 rfl rfl rfl ?_
  refine a_eSN1 rfl lX2_61 mo_X11_at (sp_X11_at rfl) rfl rfl rfl rfl ?_
  refine a_s3 rfl rfl rfl rfl rfl rfl ?_
  refine a_l1 rfl rfl rfl ?_
  refine a_getq rfl gfX2_85_5 rfl (rfl) ?_
  refine a_l2 rfl rfl rfl ?_
  refine a_eSN1 rfl lX2_61 mo_X11_at (sp_X11_at rfl) rfl rfl rfl rfl ?_
  refine a_s4 rfl rfl rfl rfl rfl rfl ?_
  refine a_l0 rfl rfl rfl ?_
  refine a_s rfl rfl ?_
  refine a_l2 rfl rfl rfl ?_
  refine a_gV rfl lX2_88 mo_X2_setPart (q_X2_setPart_246) rfl rfl rfl ⟨2, _, rfl, rfl, rfl⟩ rfl (fun v' h' hv => ?_)
  obtain ⟨rfl, I2, rfl, f3⟩ := hv
  refine a_l0 rfl rfl rfl ?_
  refine a_s rfl rfl ?_
  refine a_l1 rfl rfl rfl ?_
  refine a_getq rfl gfX2_92_5 rfl (rfl) ?_
  refine a_l2 rfl rfl rfl ?_
  refine a_eSN1 rfl lX2_61 mo_X11_at (sp_X11_at rfl) rfl rfl rfl rfl ?_
  refine a_gV rfl lX2_88 mo_X2_setPart (q_X2_setPart_246) rfl rfl rfl ⟨2, _, rfl, rfl, rfl⟩ rfl (fun v' h' hv => ?_)
  obtain ⟨rfl, I5, rfl, f6⟩ := hv
  replace f6 : Fm sQ I I5 := Fm.tr (f3) (f6)
  refine a_l0 rfl rfl rfl ?_
  refine a_s rfl rfl ?_
  refine a_l1 rfl rfl rfl ?_
  refine a_getq rfl gfX2_56_5 rfl (rfl) ?_
  refine a_l2 rfl rfl rfl ?_
  refine a_eSN1 rfl lX2_61 mo_X11_at (sp_X11_at rfl) rfl rfl rfl rfl ?_
  refine a_gV rfl lX2_88 mo_X2_setPart (q_X2_setPart_246) rfl rfl rfl ⟨2, _, rfl, rfl, rfl⟩ rfl (fun v' h' hv => ?_)
  obtain ⟨rfl, I8, rfl, f9⟩ := hv
  replace f9 : Fm sQ I I8 := Fm.tr (f6) (f9)
  refine a_l0 rfl rfl rfl ?_
  refine a_s rfl rfl ?_
  refine a_l3 rfl rfl rfl ?_
  refine a_s rfl rfl ?_
  refine a_ic_ne rfl (fun c63 => ?_) (fun c63 => ?_)
  · refine a_l3 rfl rfl rfl ?_
    refine a_gV rfl lX2_88 mo_X2_setPart (q_X2_setPart_246) rfl rfl rfl ⟨2, _, rfl, rfl, rfl⟩ rfl (fun v' h' hv => ?_)
    obtain ⟨rfl, I11, rfl, f12⟩ := hv
    replace f12 : Fm sQ I I11 := Fm.tr (f9) (f12)
    refine a_l0 rfl rfl rfl ?_
    refine a_s rfl rfl ?_
    refine a_l4 rfl rfl rfl ?_
    refine a_gV rfl lX2_88 mo_X2_setPart (q_X2_setPart_246) rfl rfl rfl ⟨2, _, rfl, rfl, rfl⟩ rfl (fun v' h' hv => ?_)
    obtain ⟨rfl, I14, rfl, f15⟩ := hv
    replace f15 : Fm sQ I I14 := Fm.tr (f12) (f15)
    refine a_l0 rfl rfl rfl ?_
    refine a_s rfl rfl ?_
    refine a_l1 rfl rfl rfl ?_
    refine a_getq rfl gfX2_95_5 rfl (rfl) ?_
    refine a_l4 rfl rfl rfl ?_
    refine a_eSN1 rfl lX2_61 mo_X11_at (sp_X11_at rfl) rfl rfl rfl rfl ?_
    refine a_gV rfl lX2_88 mo_X2_setPart (q_X2_setPart_246) rfl rfl rfl ⟨2, _, rfl, rfl, rfl⟩ rfl (fun v' h' hv => ?_)
    obtain ⟨rfl, I17, rfl, f18⟩ := hv
    replace f18 : Fm sQ I I17 := Fm.tr (f15) (f18)
    refine a_l0 rfl rfl rfl ?_
    refine a_s rfl rfl ?_
    refine a_l1 rfl rfl rfl ?_
    refine a_geti rfl gfX2_98_5 rfl ?_
    refine a_gV rfl lX2_88 mo_X2_setPart (q_X2_setPart_246) rfl rfl rfl ⟨2, _, rfl, rfl, rfl⟩ rfl (fun v' h' hv => ?_)
    obtain ⟨rfl, I20, rfl, f21⟩ := hv
    replace f21 : Fm sQ I I20 := Fm.tr (f18) (f21)
    refine a_l0 rfl rfl rfl ?_
    refine a_s rfl rfl ?_
    refine a_l1 rfl rfl rfl ?_
    refine a_l2 rfl rfl rfl ?_
    refine a_gV rfl lX2_101 mo_X5_leansFreely (q_X5_leansFreely_257) rfl rfl rfl ⟨5, _, rfl, rfl, rfl⟩ rfl (fun v' h' hv => ?_)
    obtain ⟨⟨v22, rfl⟩, rfl⟩ := hv
    refine a_if_eq rfl (fun c120 => ?_) (fun c120 => ?_)
    · refine a_s rfl rfl ?_
      refine a_gV rfl lX2_88 mo_X2_setPart (q_X2_setPart_246) rfl rfl rfl ⟨2, _, rfl, rfl, rfl⟩ rfl (fun v' h' hv => ?_)
      obtain ⟨rfl, I24, rfl, f25⟩ := hv
      replace f25 : Fm sQ I I24 := Fm.tr (f21) (f25)
      refine a_l0 rfl rfl rfl ?_
      refine a_s rfl rfl ?_
      refine a_l1 rfl rfl rfl ?_
      refine a_getq rfl gfX2_56_5 rfl (rfl) ?_
      refine a_l2 rfl rfl rfl ?_
      refine a_eSN1 rfl lX2_61 mo_X11_at (sp_X11_at rfl) rfl rfl rfl rfl ?_
      refine a_s rfl rfl ?_
      refine a_ic_le rfl (fun c145 => ?_) (fun c145 => ?_)
      · refine a_s rfl rfl ?_
        refine a_gV rfl lX2_88 mo_X2_setPart (q_X2_setPart_246) rfl rfl rfl ⟨2, _, rfl, rfl, rfl⟩ rfl (fun v' h' hv => ?_)
        obtain ⟨rfl, I27, rfl, f28⟩ := hv
        replace f28 : Fm sQ I I27 := Fm.tr (f25) (f28)
        exact a_vret rfl rfl ⟨rfl, _, rfl, f28⟩
      · refine a_s rfl rfl ?_
        refine a_goto rfl ?_
        refine a_gV rfl lX2_88 mo_X2_setPart (q_X2_setPart_246) rfl rfl rfl ⟨2, _, rfl, rfl, rfl⟩ rfl (fun v' h' hv => ?_)
        obtain ⟨rfl, I30, rfl, f31⟩ := hv
        replace f31 : Fm sQ I I30 := Fm.tr (f25) (f31)
        exact a_vret rfl rfl ⟨rfl, _, rfl, f31⟩
    · refine a_s rfl rfl ?_
      refine a_goto rfl ?_
      refine a_gV rfl lX2_88 mo_X2_setPart (q_X2_setPart_246) rfl rfl rfl ⟨2, _, rfl, rfl, rfl⟩ rfl (fun v' h' hv => ?_)
      obtain ⟨rfl, I33, rfl, f34⟩ := hv
      replace f34 : Fm sQ I I33 := Fm.tr (f21) (f34)
      refine a_l0 rfl rfl rfl ?_
      refine a_s rfl rfl ?_
      refine a_l1 rfl rfl rfl ?_
      refine a_getq rfl gfX2_56_5 rfl (rfl) ?_
      refine a_l2 rfl rfl rfl ?_
      refine a_eSN1 rfl lX2_61 mo_X11_at (sp_X11_at rfl) rfl rfl rfl rfl ?_
      refine a_s rfl rfl ?_
      refine a_ic_le rfl (fun c145 => ?_) (fun c145 => ?_)
      · refine a_s rfl rfl ?_
        refine a_gV rfl lX2_88 mo_X2_setPart (q_X2_setPart_246) rfl rfl rfl ⟨2, _, rfl, rfl, rfl⟩ rfl (fun v' h' hv => ?_)
        obtain ⟨rfl, I36, rfl, f37⟩ := hv
        replace f37 : Fm sQ I I36 := Fm.tr (f34) (f37)
        exact a_vret rfl rfl ⟨rfl, _, rfl, f37⟩
      · refine a_s rfl rfl ?_
        refine a_goto rfl ?_
        refine a_gV rfl lX2_88 mo_X2_setPart (q_X2_setPart_246) rfl rfl rfl ⟨2, _, rfl, rfl, rfl⟩ rfl (fun v' h' hv => ?_)
        obtain ⟨rfl, I39, rfl, f40⟩ := hv
        replace f40 : Fm sQ I I39 := Fm.tr (f34) (f40)
        exact a_vret rfl rfl ⟨rfl, _, rfl, f40⟩
  · refine a_s rfl rfl ?_
    refine a_goto rfl ?_
    refine a_gV rfl lX2_88 mo_X2_setPart (q_X2_setPart_246) rfl rfl rfl ⟨2, _, rfl, rfl, rfl⟩ rfl (fun v' h' hv => ?_)
    obtain ⟨rfl, I42, rfl, f43⟩ := hv
    replace f43 : Fm sQ I I42 := Fm.tr (f9) (f43)
    refine a_l0 rfl rfl rfl ?_
    refine a_s rfl rfl ?_
    refine a_l4 rfl rfl rfl ?_
    refine a_gV rfl lX2_88 mo_X2_setPart (q_X2_setPart_246) rfl rfl rfl ⟨2, _, rfl, rfl, rfl⟩ rfl (fun v' h' hv => ?_)
    obtain ⟨rfl, I45, rfl, f46⟩ := hv
    replace f46 : Fm sQ I I45 := Fm.tr (f43) (f46)
    refine a_l0 rfl rfl rfl ?_
    refine a_s rfl rfl ?_
    refine a_l1 rfl rfl rfl ?_
    refine a_getq rfl gfX2_95_5 rfl (rfl) ?_
    refine a_l4 rfl rfl rfl ?_
    refine a_eSN1 rfl lX2_61 mo_X11_at (sp_X11_at rfl) rfl rfl rfl rfl ?_
    refine a_gV rfl lX2_88 mo_X2_setPart (q_X2_setPart_246) rfl rfl rfl ⟨2, _, rfl, rfl, rfl⟩ rfl (fun v' h' hv => ?_)
    obtain ⟨rfl, I48, rfl, f49⟩ := hv
    replace f49 : Fm sQ I I48 := Fm.tr (f46) (f49)
    refine a_l0 rfl rfl rfl ?_
    refine a_s rfl rfl ?_
    refine a_l1 rfl rfl rfl ?_
    refine a_geti rfl gfX2_98_5 rfl ?_
    refine a_gV rfl lX2_88 mo_X2_setPart (q_X2_setPart_246) rfl rfl rfl ⟨2, _, rfl, rfl, rfl⟩ rfl (fun v' h' hv => ?_)
    obtain ⟨rfl, I51, rfl, f52⟩ := hv
    replace f52 : Fm sQ I I51 := Fm.tr (f49) (f52)
    refine a_l0 rfl rfl rfl ?_
    refine a_s rfl rfl ?_
    refine a_l1 rfl rfl rfl ?_
    refine a_l2 rfl rfl rfl ?_
    refine a_gV rfl lX2_101 mo_X5_leansFreely (q_X5_leansFreely_257) rfl rfl rfl ⟨5, _, rfl, rfl, rfl⟩ rfl (fun v' h' hv => ?_)
    obtain ⟨⟨v53, rfl⟩, rfl⟩ := hv
    refine a_if_eq rfl (fun c120 => ?_) (fun c120 => ?_)
    · refine a_s rfl rfl ?_
      refine a_gV rfl lX2_88 mo_X2_setPart (q_X2_setPart_246) rfl rfl rfl ⟨2, _, rfl, rfl, rfl⟩ rfl (fun v' h' hv => ?_)
      obtain ⟨rfl, I55, rfl, f56⟩ := hv
      replace f56 : Fm sQ I I55 := Fm.tr (f52) (f56)
      refine a_l0 rfl rfl rfl ?_
      refine a_s rfl rfl ?_
      refine a_l1 rfl rfl rfl ?_
      refine a_getq rfl gfX2_56_5 rfl (rfl) ?_
      refine a_l2 rfl rfl rfl ?_
      refine a_eSN1 rfl lX2_61 mo_X11_at (sp_X11_at rfl) rfl rfl rfl rfl ?_
      refine a_s rfl rfl ?_
      refine a_ic_le rfl (fun c145 => ?_) (fun c145 => ?_)
      · refine a_s rfl rfl ?_
        refine a_gV rfl lX2_88 mo_X2_setPart (q_X2_setPart_246) rfl rfl rfl ⟨2, _, rfl, rfl, rfl⟩ rfl (fun v' h' hv => ?_)
        obtain ⟨rfl, I58, rfl, f59⟩ := hv
        replace f59 : Fm sQ I I58 := Fm.tr (f56) (f59)
        exact a_vret rfl rfl ⟨rfl, _, rfl, f59⟩
      · refine a_s rfl rfl ?_
        refine a_goto rfl ?_
        refine a_gV rfl lX2_88 mo_X2_setPart (q_X2_setPart_246) rfl rfl rfl ⟨2, _, rfl, rfl, rfl⟩ rfl (fun v' h' hv => ?_)
        obtain ⟨rfl, I61, rfl, f62⟩ := hv
        replace f62 : Fm sQ I I61 := Fm.tr (f56) (f62)
        exact a_vret rfl rfl ⟨rfl, _, rfl, f62⟩
    · refine a_s rfl rfl ?_
      refine a_goto rfl ?_
      refine a_gV rfl lX2_88 mo_X2_setPart (q_X2_setPart_246) rfl rfl rfl ⟨2, _, rfl, rfl, rfl⟩ rfl (fun v' h' hv => ?_)
      obtain ⟨rfl, I64, rfl, f65⟩ := hv
      replace f65 : Fm sQ I I64 := Fm.tr (f52) (f65)
      refine a_l0 rfl rfl rfl ?_
      refine a_s rfl rfl ?_
      refine a_l1 rfl rfl rfl ?_
      refine a_getq rfl gfX2_56_5 rfl (rfl) ?_
      refine a_l2 rfl rfl rfl ?_
      refine a_eSN1 rfl lX2_61 mo_X11_at (sp_X11_at rfl) rfl rfl rfl rfl ?_
      refine a_s rfl rfl ?_
      refine a_ic_le rfl (fun c145 => ?_) (fun c145 => ?_)
      · refine a_s rfl rfl ?_
        refine a_gV rfl lX2_88 mo_X2_setPart (q_X2_setPart_246) rfl rfl rfl ⟨2, _, rfl, rfl, rfl⟩ rfl (fun v' h' hv => ?_)
        obtain ⟨rfl, I67, rfl, f68⟩ := hv
        replace f68 : Fm sQ I I67 := Fm.tr (f65) (f68)
        exact a_vret rfl rfl ⟨rfl, _, rfl, f68⟩
      · refine a_s rfl rfl ?_
        refine a_goto rfl ?_
        refine a_gV rfl lX2_88 mo_X2_setPart (q_X2_setPart_246) rfl rfl rfl ⟨2, _, rfl, rfl, rfl⟩ rfl (fun v' h' hv => ?_)
        obtain ⟨rfl, I70, rfl, f71⟩ := hv
        replace f71 : Fm sQ I I70 := Fm.tr (f65) (f71)
        exact a_vret rfl rfl ⟨rfl, _, rfl, f71⟩
theorem q_X2_growthOf_246_257 {S : aS} {I : Nat → Nat → Int32} {L : Nat → Nat → Int64} {w1 w2 t : Nat} {x2 : Int32} : Sp S m_X2_growthOf 15 0 0 [.ref 246, .ref 257, .int x2] (hp I L w1 w2 t) (QR (Fm sQ I) isI L w1 w2 t) nX := by
  refine Sp_of ok_X2_growthOf rfl rfl ?_
  show AW S m_X2_growthOf 15 _ _ 0 0 0 [some (.ref 246), some (.ref 257), some (.int x2)] [] (hp I L w1 w2 t)
  refine a_l0 rfl rfl rfl ?_
  refine a_l1 rfl rfl rfl ?_
  refine a_l2 rfl rfl rfl ?_
  refine a_gV rfl lX2_48 mo_X2_takeParts (q_X2_takeParts_246_257) rfl rfl rfl ⟨2, _, rfl, rfl, rfl⟩ rfl (fun v' h' hv => ?_)
  obtain ⟨rfl, I2, rfl, f3⟩ := hv
  refine a_l0 rfl rfl rfl ?_
  refine a_s rfl rfl ?_
  refine a_gV rfl lX2_52 mo_X2_sumOfLines (q_X2_sumOfLines_246) rfl rfl rfl ⟨2, _, rfl, rfl, rfl⟩ rfl (fun v' h' hv => ?_)
  obtain ⟨⟨v4, rfl⟩, I5, rfl, f6⟩ := hv
  replace f6 : Fm sQ I I5 := Fm.tr (f3) (f6)
  exact a_iret rfl rfl ⟨⟨_, rfl⟩, _, rfl, f6⟩
theorem q_X5_passMonth_257_246 {S : aS} {I : Nat → Nat → Int32} {L : Nat → Nat → Int64} {w1 w2 t : Nat} : Sp S m_X5_passMonth 16 0 0 [.ref 257, .ref 246] (hp I L w1 w2 t) (QR (Fm sQ I) isV L w1 w2 t) nX := by
  refine Sp_of ok_X5_passMonth rfl rfl ?_
  show AW S m_X5_passMonth 16 _ _ 0 0 0 [some (.ref 257), some (.ref 246), none, none] [] (hp I L w1 w2 t)
  refine a_s rfl rfl ?_
  refine a_s2 rfl rfl rfl rfl rfl rfl ?_
  refine a_cnt (j0 := 0) (fun j ls h => ∃ I', ls = [some (.ref 257), some (.ref 246), some (.int (nI j)), none] ∧ h = hp I' L w1 w2 t ∧ Fm sQ I I') (by decide) ⟨_, rfl, rfl, Fm.rf⟩ ⟨rfl, rfl, rfl, trivial⟩ ?_
  rintro j2 _ _ hj2 ⟨Ih2, rfl, rfl, fh2⟩ ih2
  refine a_l2 rfl rfl rfl ?_
  refine a_l0 rfl rfl rfl ?_
  refine a_geti rfl gfX5_63_5 rfl ?_
  refine a_ic_ge rfl (fun c7 => ?_) (fun c7 => ?_)
  · exact a_vret rfl rfl ⟨rfl, _, rfl, fh2⟩
  · refine a_l0 rfl rfl rfl ?_
    refine a_l2 rfl rfl rfl ?_
    refine a_gV rfl lX5_90 mo_X5_isWaiting (q_X5_isWaiting_257) rfl rfl rfl ⟨5, _, rfl, rfl, rfl⟩ rfl (fun v' h' hv => ?_)
    obtain ⟨⟨v1, rfl⟩, rfl⟩ := hv
    refine a_if_eq rfl (fun c15 => ?_) (fun c15 => ?_)
    · refine a_l0 rfl rfl rfl ?_
      refine a_getq rfl gfX5_33_5 rfl (rfl) ?_
      refine a_l2 rfl rfl rfl ?_
      refine a_eSN1 rfl lX5_86 mo_X11_at (sp_X11_at rfl) rfl rfl rfl rfl ?_
      refine a_s rfl rfl ?_
      refine a_ic_eq rfl (fun c57 => ?_) (fun c57 => ?_)
      · refine a_i2 rfl rfl rfl ?_
        refine a_goto rfl ?_
        exact ih2 _ _ _ _ c7 ⟨_, rfl, rfl, fh2⟩ ⟨rfl, rfl, nS _, trivial⟩
      · refine a_l0 rfl rfl rfl ?_
        refine a_l2 rfl rfl rfl ?_
        refine a_gV rfl lX5_163 mo_X5_growOlder (q_X5_growOlder_257) rfl rfl rfl ⟨5, _, rfl, rfl, rfl⟩ rfl (fun v' h' hv => ?_)
        obtain ⟨rfl, I3, rfl, f4⟩ := hv
        replace f4 : Fm sQ I I3 := Fm.tr (fh2) (f4)
        refine a_i2 rfl rfl rfl ?_
        refine a_goto rfl ?_
        exact ih2 _ _ _ _ c7 ⟨_, rfl, rfl, f4⟩ ⟨rfl, rfl, nS _, trivial⟩
    · refine a_l0 rfl rfl rfl ?_
      refine a_getq rfl gfX5_21_5 rfl (rfl) ?_
      refine a_l2 rfl rfl rfl ?_
      refine a_eSN1 rfl lX5_86 mo_X11_at (sp_X11_at rfl) rfl rfl rfl rfl ?_
      refine a_l1 rfl rfl rfl ?_
      refine a_l0 rfl rfl rfl ?_
      refine a_l2 rfl rfl rfl ?_
      refine a_gV rfl lX5_157 mo_X2_growthOf (q_X2_growthOf_246_257) rfl rfl rfl ⟨2, _, rfl, rfl, rfl⟩ rfl (fun v' h' hv => ?_)
      obtain ⟨⟨v5, rfl⟩, I6, rfl, f7⟩ := hv
      replace f7 : Fm sQ I I6 := Fm.tr (fh2) (f7)
      refine a_s rfl rfl ?_
      refine a_s3 rfl rfl rfl rfl rfl rfl ?_
      refine a_l0 rfl rfl rfl ?_
      refine a_getq rfl gfX5_21_5 rfl (rfl) ?_
      refine a_l2 rfl rfl rfl ?_
      refine a_s rfl rfl ?_
      refine a_l3 rfl rfl rfl ?_
      refine a_min rfl lX5_127 mj_min rfl rfl ?_
      refine a_eSN0 rfl lX5_82 mo_X11_setAt (sp_X11_setAt rfl) rfl rfl rfl rfl ?_
      refine a_ren (P := Fm sQ I) (Fm.tr (f7) (Fm.st (Fm.rf (s := sQ)) (fun _ => rfl))) (fun I8 f9 => ?_)
      refine a_l0 rfl rfl rfl ?_
      refine a_getq rfl gfX5_33_5 rfl (rfl) ?_
      refine a_l2 rfl rfl rfl ?_
      refine a_eSN1 rfl lX5_86 mo_X11_at (sp_X11_at rfl) rfl rfl rfl rfl ?_
      refine a_s rfl rfl ?_
      refine a_ic_eq rfl (fun c57 => ?_) (fun c57 => ?_)
      · refine a_i2 rfl rfl rfl ?_
        refine a_goto rfl ?_
        exact ih2 _ _ _ _ c7 ⟨_, rfl, rfl, f9⟩ ⟨rfl, rfl, nS _, trivial⟩
      · refine a_l0 rfl rfl rfl ?_
        refine a_l2 rfl rfl rfl ?_
        refine a_gV rfl lX5_163 mo_X5_growOlder (q_X5_growOlder_257) rfl rfl rfl ⟨5, _, rfl, rfl, rfl⟩ rfl (fun v' h' hv => ?_)
        obtain ⟨rfl, I11, rfl, f12⟩ := hv
        replace f12 : Fm sQ I I11 := Fm.tr (f9) (f12)
        refine a_i2 rfl rfl rfl ?_
        refine a_goto rfl ?_
        exact ih2 _ _ _ _ c7 ⟨_, rfl, rfl, f12⟩ ⟨rfl, rfl, nS _, trivial⟩
theorem q_X5_isReady_257 {S : aS} {I : Nat → Nat → Int32} {L : Nat → Nat → Int64} {w1 w2 t : Nat} {x1 : Int32} : Sp S m_X5_isReady 14 0 0 [.ref 257, .int x1] (hp I L w1 w2 t) (QE isZ (hp I L w1 w2 t)) nX := by
  refine Sp_of ok_X5_isReady rfl rfl ?_
  show AW S m_X5_isReady 14 _ _ 0 0 0 [some (.ref 257), some (.int x1)] [] (hp I L w1 w2 t)
  refine a_l0 rfl rfl rfl ?_
  refine a_l1 rfl rfl rfl ?_
  refine a_gV rfl lX5_90 mo_X5_isWaiting (q_X5_isWaiting_257) rfl rfl rfl ⟨5, _, rfl, rfl, rfl⟩ rfl (fun v' h' hv => ?_)
  obtain ⟨⟨v1, rfl⟩, rfl⟩ := hv
  refine a_if_eq rfl (fun c5 => ?_) (fun c5 => ?_)
  · refine a_s rfl rfl ?_
    exact a_zret rfl rfl rfl ⟨⟨false, rfl⟩, rfl⟩
  · refine a_l0 rfl rfl rfl ?_
    refine a_l1 rfl rfl rfl ?_
    refine a_gV rfl lX5_94 mo_X5_leansFreely (q_X5_leansFreely_257) rfl rfl rfl ⟨5, _, rfl, rfl, rfl⟩ rfl (fun v' h' hv => ?_)
    obtain ⟨⟨v2, rfl⟩, rfl⟩ := hv
    refine a_if_eq rfl (fun c13 => ?_) (fun c13 => ?_)
    · refine a_s rfl rfl ?_
      exact a_zret rfl rfl rfl ⟨⟨false, rfl⟩, rfl⟩
    · refine a_s rfl rfl ?_
      refine a_goto rfl ?_
      exact a_zret rfl rfl rfl ⟨⟨true, rfl⟩, rfl⟩
theorem q_X5_finish_257 {S : aS} {I : Nat → Nat → Int32} {L : Nat → Nat → Int64} {w1 w2 t : Nat} {x1 : Int32} : Sp S m_X5_finish 13 0 0 [.ref 257, .int x1] (hp I L w1 w2 t) (QR (Fm sQ I) isV L w1 w2 t) nX := by
  refine Sp_of ok_X5_finish rfl rfl ?_
  show AW S m_X5_finish 13 _ _ 0 0 0 [some (.ref 257), some (.int x1)] [] (hp I L w1 w2 t)
  refine a_l0 rfl rfl rfl ?_
  refine a_getq rfl gfX5_21_5 rfl (rfl) ?_
  refine a_l1 rfl rfl rfl ?_
  refine a_s rfl rfl ?_
  refine a_eSN0 rfl lX5_82 mo_X11_setAt (sp_X11_setAt rfl) rfl rfl rfl rfl ?_
  refine a_ren (P := Fm sQ I) (Fm.st (Fm.rf (s := sQ)) (fun _ => rfl)) (fun I1 f2 => ?_)
  refine a_l0 rfl rfl rfl ?_
  refine a_getq rfl gfX5_33_5 rfl (rfl) ?_
  refine a_l1 rfl rfl rfl ?_
  refine a_s rfl rfl ?_
  refine a_eSN0 rfl lX5_82 mo_X11_setAt (sp_X11_setAt rfl) rfl rfl rfl rfl ?_
  refine a_ren (P := Fm sQ I) (Fm.tr (f2) (Fm.st (Fm.rf (s := sQ)) (fun _ => rfl))) (fun I3 f4 => ?_)
  exact a_vret rfl rfl ⟨rfl, _, rfl, f4⟩
theorem q_X5_work_257 {S : aS} {I : Nat → Nat → Int32} {L : Nat → Nat → Int64} {w1 w2 t : Nat} {x1 x2 : Int32} : Sp S m_X5_work 15 0 0 [.ref 257, .int x1, .int x2] (hp I L w1 w2 t) (QR (Fm sQ I) isI L w1 w2 t) nX := by
  refine Sp_of ok_X5_work rfl rfl ?_
  show AW S m_X5_work 15 _ _ 0 0 0 [some (.ref 257), some (.int x1), some (.int x2), none, none, none, none] [] (hp I L w1 w2 t)
  refine a_s rfl rfl ?_
  refine a_s3 rfl rfl rfl rfl rfl rfl ?_
  refine a_l0 rfl rfl rfl ?_
  refine a_getq rfl gfX5_15_5 rfl (rfl) ?_
  refine a_l1 rfl rfl rfl ?_
  refine a_eSN1 rfl lX5_86 mo_X11_at (sp_X11_at rfl) rfl rfl rfl rfl ?_
  refine a_s4 rfl rfl rfl rfl rfl rfl ?_
  refine a_s rfl rfl ?_
  refine a_s5 rfl rfl rfl rfl rfl rfl ?_
  refine a_cnt (j0 := 0) (fun j ls h => ∃ a0, ∃ a1, ∃ I', ls = [some (.ref 257), some (.int x1), some (.int x2), some (.int a0), some (.int a1), some (.int (nI j)), none] ∧ h = hp I' L w1 w2 t ∧ Fm sQ I I') (by decide) ⟨_, _, _, rfl, rfl, Fm.rf⟩ ⟨rfl, rfl, rfl, rfl, rfl, rfl, trivial⟩ ?_
  rintro j15 _ _ hj15 ⟨a0_15, a1_15, Ih15, rfl, rfl, fh15⟩ ih15
  refine a_l5 rfl rfl rfl ?_
  refine a_l0 rfl rfl rfl ?_
  refine a_geti rfl gfX5_63_5 rfl ?_
  refine a_ic_ge rfl (fun c21 => ?_) (fun c21 => ?_)
  · refine a_l3 rfl rfl rfl ?_
    exact a_iret rfl rfl ⟨⟨_, rfl⟩, _, rfl, fh15⟩
  · refine a_l4 rfl rfl rfl ?_
    refine a_if_le rfl (fun c26 => ?_) (fun c26 => ?_)
    · refine a_l3 rfl rfl rfl ?_
      exact a_iret rfl rfl ⟨⟨_, rfl⟩, _, rfl, fh15⟩
    · refine a_l0 rfl rfl rfl ?_
      refine a_getq rfl gfX5_18_5 rfl (rfl) ?_
      refine a_l5 rfl rfl rfl ?_
      refine a_eSN1 rfl lX5_86 mo_X11_at (sp_X11_at rfl) rfl rfl rfl rfl ?_
      refine a_l1 rfl rfl rfl ?_
      refine a_ic_ne rfl (fun c39 => ?_) (fun c39 => ?_)
      · refine a_i5 rfl rfl rfl ?_
        refine a_goto rfl ?_
        exact ih15 _ _ _ _ c21 ⟨_, _, _, rfl, rfl, fh15⟩ ⟨rfl, rfl, rfl, rfl, rfl, nS _, trivial⟩
      · refine a_l0 rfl rfl rfl ?_
        refine a_l5 rfl rfl rfl ?_
        refine a_gV rfl lX5_101 mo_X5_isReady (q_X5_isReady_257) rfl rfl rfl ⟨5, _, rfl, rfl, rfl⟩ rfl (fun v' h' hv => ?_)
        obtain ⟨⟨v1, rfl⟩, rfl⟩ := hv
        refine a_if_eq rfl (fun c48 => ?_) (fun c48 => ?_)
        · refine a_i5 rfl rfl rfl ?_
          refine a_goto rfl ?_
          exact ih15 _ _ _ _ c21 ⟨_, _, _, rfl, rfl, fh15⟩ ⟨rfl, rfl, rfl, rfl, rfl, nS _, trivial⟩
        · refine a_l2 rfl rfl rfl ?_
          refine a_l0 rfl rfl rfl ?_
          refine a_getq rfl gfX5_27_5 rfl (rfl) ?_
          refine a_l5 rfl rfl rfl ?_
          refine a_eSN1 rfl lX5_86 mo_X11_at (sp_X11_at rfl) rfl rfl rfl rfl ?_
          refine a_eSN1 rfl lX5_149 mo_X11_has (sp_X11_has) rfl rfl rfl rfl ?_
          refine a_if_ne rfl (fun c64 => ?_) (fun c64 => ?_)
          · refine a_i5 rfl rfl rfl ?_
            refine a_goto rfl ?_
            exact ih15 _ _ _ _ c21 ⟨_, _, _, rfl, rfl, fh15⟩ ⟨rfl, rfl, rfl, rfl, rfl, nS _, trivial⟩
          · refine a_l4 rfl rfl rfl ?_
            refine a_l0 rfl rfl rfl ?_
            refine a_getq rfl gfX5_21_5 rfl (rfl) ?_
            refine a_l5 rfl rfl rfl ?_
            refine a_eSN1 rfl lX5_86 mo_X11_at (sp_X11_at rfl) rfl rfl rfl rfl ?_
            refine a_min rfl lX5_127 mj_min rfl rfl ?_
            refine a_s6 rfl rfl rfl rfl rfl rfl ?_
            refine a_l4 rfl rfl rfl ?_
            refine a_l6 rfl rfl rfl ?_
            refine a_s rfl rfl ?_
            refine a_s4 rfl rfl rfl rfl rfl rfl ?_
            refine a_l3 rfl rfl rfl ?_
            refine a_l0 rfl rfl rfl ?_
            refine a_getq rfl gfX5_27_5 rfl (rfl) ?_
            refine a_l5 rfl rfl rfl ?_
            refine a_eSN1 rfl lX5_86 mo_X11_at (sp_X11_at rfl) rfl rfl rfl rfl ?_
            refine a_eSN1 rfl lX5_97 mo_X11_bit (sp_X11_bit) rfl rfl rfl rfl ?_
            refine a_s rfl rfl ?_
            refine a_s3 rfl rfl rfl rfl rfl rfl ?_
            refine a_l0 rfl rfl rfl ?_
            refine a_getq rfl gfX5_21_5 rfl (rfl) ?_
            refine a_l5 rfl rfl rfl ?_
            refine a_l0 rfl rfl rfl ?_
            refine a_getq rfl gfX5_21_5 rfl (rfl) ?_
            refine a_l5 rfl rfl rfl ?_
            refine a_eSN1 rfl lX5_86 mo_X11_at (sp_X11_at rfl) rfl rfl rfl rfl ?_
            refine a_l6 rfl rfl rfl ?_
            refine a_s rfl rfl ?_
            refine a_eSN0 rfl lX5_82 mo_X11_setAt (sp_X11_setAt rfl) rfl rfl rfl rfl ?_
            refine a_ren (P := Fm sQ I) (Fm.tr (fh15) (Fm.st (Fm.rf (s := sQ)) (fun _ => rfl))) (fun I2 f3 => ?_)
            refine a_l0 rfl rfl rfl ?_
            refine a_getq rfl gfX5_21_5 rfl (rfl) ?_
            refine a_l5 rfl rfl rfl ?_
            refine a_eSN1 rfl lX5_86 mo_X11_at (sp_X11_at rfl) rfl rfl rfl rfl ?_
            refine a_if_ne rfl (fun c135 => ?_) (fun c135 => ?_)
            · refine a_i5 rfl rfl rfl ?_
              refine a_goto rfl ?_
              exact ih15 _ _ _ _ c21 ⟨_, _, _, rfl, rfl, f3⟩ ⟨rfl, rfl, rfl, rfl, rfl, nS _, trivial⟩
            · refine a_l0 rfl rfl rfl ?_
              refine a_l5 rfl rfl rfl ?_
              refine a_gV rfl lX5_153 mo_X5_finish (q_X5_finish_257) rfl rfl rfl ⟨5, _, rfl, rfl, rfl⟩ rfl (fun v' h' hv => ?_)
              obtain ⟨rfl, I5, rfl, f6⟩ := hv
              replace f6 : Fm sQ I I5 := Fm.tr (f3) (f6)
              refine a_i5 rfl rfl rfl ?_
              refine a_goto rfl ?_
              exact ih15 _ _ _ _ c21 ⟨_, _, _, rfl, rfl, f6⟩ ⟨rfl, rfl, rfl, rfl, rfl, nS _, trivial⟩
theorem q_X5_passDay_257_246 {S : aS} {I : Nat → Nat → Int32} {L : Nat → Nat → Int64} {w1 w2 t : Nat} {b2 : Bool} : Sp S m_X5_passDay 17 0 0 [.ref 257, .ref 246, .int (bI b2)] (hp I L w1 w2 t) (QR (Fm sQ I) isV L w1 w2 t) nX := by
  refine Sp_of ok_X5_passDay rfl rfl ?_
  show AW S m_X5_passDay 17 _ _ 0 0 0 [some (.ref 257), some (.ref 246), some (.int (bI b2)), none, none, none] [] (hp I L w1 w2 t)
  refine a_s rfl rfl ?_
  refine a_s3 rfl rfl rfl rfl rfl rfl ?_
  refine a_s rfl rfl ?_
  refine a_s4 rfl rfl rfl rfl rfl rfl ?_
  refine a_cnt (j0 := 0) (fun j ls h => ∃ a0, ∃ I', ls = [some (.ref 257), some (.ref 246), some (.int (bI b2)), some (.int a0), some (.int (nI j)), none] ∧ h = hp I' L w1 w2 t ∧ Fm sQ I I') (by decide) ⟨_, _, rfl, rfl, Fm.rf⟩ ⟨rfl, rfl, rfl, rfl, rfl, trivial⟩ ?_
  rintro j5 _ _ hj5 ⟨a0_5, Ih5, rfl, rfl, fh5⟩ ih5
  refine a_l4 rfl rfl rfl ?_
  refine a_l0 rfl rfl rfl ?_
  refine a_geti rfl gfX5_56_5 rfl ?_
  refine a_ic_ge rfl (fun c11 => ?_) (fun c11 => ?_)
  · refine a_l0 rfl rfl rfl ?_
    refine a_s rfl rfl ?_
    refine a_geti rfl gfX5_36_5 rfl ?_
    refine a_s rfl rfl ?_
    refine a_s rfl rfl ?_
    refine a_puti rfl pfX5_36_5 rfl ?_
    refine a_ren (P := Fm sQ I) (Fm.tr (fh5) (Fm.up (Fm.rf (s := sQ)) rfl)) (fun I1 f2 => ?_)
    refine a_l0 rfl rfl rfl ?_
    refine a_geti rfl gfX5_36_5 rfl ?_
    refine a_s rfl rfl ?_
    refine a_ic_le rfl (fun c76 => ?_) (fun c76 => ?_)
    · exact a_vret rfl rfl ⟨rfl, _, rfl, f2⟩
    · refine a_l0 rfl rfl rfl ?_
      refine a_s rfl rfl ?_
      refine a_puti rfl pfX5_36_5 rfl ?_
      refine a_ren (P := Fm sQ I) (Fm.tr (f2) (Fm.up (Fm.rf (s := sQ)) rfl)) (fun I3 f4 => ?_)
      refine a_l0 rfl rfl rfl ?_
      refine a_s rfl rfl ?_
      refine a_l0 rfl rfl rfl ?_
      refine a_geti rfl gfX5_66_5 rfl ?_
      refine a_s rfl rfl ?_
      refine a_s rfl rfl ?_
      refine a_min rfl lX5_127 mj_min rfl rfl ?_
      refine a_puti rfl pfX5_66_5 rfl ?_
      refine a_ren (P := Fm sQ I) (Fm.tr (f4) (Fm.up (Fm.rf (s := sQ)) rfl)) (fun I5 f6 => ?_)
      refine a_l0 rfl rfl rfl ?_
      refine a_l1 rfl rfl rfl ?_
      refine a_gV rfl lX5_140 mo_X5_passMonth (q_X5_passMonth_257_246) rfl rfl rfl ⟨5, _, rfl, rfl, rfl⟩ rfl (fun v' h' hv => ?_)
      obtain ⟨rfl, I8, rfl, f9⟩ := hv
      replace f9 : Fm sQ I I8 := Fm.tr (f6) (f9)
      exact a_vret rfl rfl ⟨rfl, _, rfl, f9⟩
  · refine a_l2 rfl rfl rfl ?_
    refine a_if_eq rfl (fun c15 => ?_) (fun c15 => ?_)
    · refine a_s rfl rfl ?_
      refine a_s5 rfl rfl rfl rfl rfl rfl ?_
      refine a_l5 rfl rfl rfl ?_
      refine a_if_ne rfl (fun c41 => ?_) (fun c41 => ?_)
      · refine a_i4 rfl rfl rfl ?_
        refine a_goto rfl ?_
        exact ih5 _ _ _ _ c11 ⟨_, _, rfl, rfl, fh5⟩ ⟨rfl, rfl, rfl, rfl, nS _, trivial⟩
      · refine a_l3 rfl rfl rfl ?_
        refine a_l0 rfl rfl rfl ?_
        refine a_l4 rfl rfl rfl ?_
        refine a_l3 rfl rfl rfl ?_
        refine a_gV rfl lX5_137 mo_X5_work (q_X5_work_257) rfl rfl rfl ⟨5, _, rfl, rfl, rfl⟩ rfl (fun v' h' hv => ?_)
        obtain ⟨⟨v10, rfl⟩, I11, rfl, f12⟩ := hv
        replace f12 : Fm sQ I I11 := Fm.tr (fh5) (f12)
        refine a_s rfl rfl ?_
        refine a_s3 rfl rfl rfl rfl rfl rfl ?_
        refine a_i4 rfl rfl rfl ?_
        refine a_goto rfl ?_
        exact ih5 _ _ _ _ c11 ⟨_, _, rfl, rfl, f12⟩ ⟨rfl, rfl, rfl, rfl, nS _, trivial⟩
    · refine a_l0 rfl rfl rfl ?_
      refine a_eV1 rfl lX5_133 mo_X5_draw (sp_X5_draw (a := 257) (by decide)) rfl rfl rfl ⟨5, _, rfl, rfl, rfl⟩ rfl ?_
      refine a_ren (P := Fm sQ I) (Fm.tr (fh5) (Fm.up (Fm.rf (s := sQ)) rfl)) (fun I13 f14 => ?_)
      refine a_s rfl rfl ?_
      refine a_irem rfl (by decide) ?_
      refine a_l0 rfl rfl rfl ?_
      refine a_geti rfl gfX5_69_5 rfl ?_
      refine a_ic_ge rfl (fun c29 => ?_) (fun c29 => ?_)
      · refine a_s rfl rfl ?_
        refine a_s5 rfl rfl rfl rfl rfl rfl ?_
        refine a_l5 rfl rfl rfl ?_
        refine a_if_ne rfl (fun c41 => ?_) (fun c41 => ?_)
        · refine a_i4 rfl rfl rfl ?_
          refine a_goto rfl ?_
          exact ih5 _ _ _ _ c11 ⟨_, _, rfl, rfl, f14⟩ ⟨rfl, rfl, rfl, rfl, nS _, trivial⟩
        · refine a_l3 rfl rfl rfl ?_
          refine a_l0 rfl rfl rfl ?_
          refine a_l4 rfl rfl rfl ?_
          refine a_l3 rfl rfl rfl ?_
          refine a_gV rfl lX5_137 mo_X5_work (q_X5_work_257) rfl rfl rfl ⟨5, _, rfl, rfl, rfl⟩ rfl (fun v' h' hv => ?_)
          obtain ⟨⟨v15, rfl⟩, I16, rfl, f17⟩ := hv
          replace f17 : Fm sQ I I16 := Fm.tr (f14) (f17)
          refine a_s rfl rfl ?_
          refine a_s3 rfl rfl rfl rfl rfl rfl ?_
          refine a_i4 rfl rfl rfl ?_
          refine a_goto rfl ?_
          exact ih5 _ _ _ _ c11 ⟨_, _, rfl, rfl, f17⟩ ⟨rfl, rfl, rfl, rfl, nS _, trivial⟩
      · refine a_s rfl rfl ?_
        refine a_goto rfl ?_
        refine a_s5 rfl rfl rfl rfl rfl rfl ?_
        refine a_l5 rfl rfl rfl ?_
        refine a_if_ne rfl (fun c41 => ?_) (fun c41 => ?_)
        · refine a_i4 rfl rfl rfl ?_
          refine a_goto rfl ?_
          exact ih5 _ _ _ _ c11 ⟨_, _, rfl, rfl, f14⟩ ⟨rfl, rfl, rfl, rfl, nS _, trivial⟩
        · refine a_l3 rfl rfl rfl ?_
          refine a_l0 rfl rfl rfl ?_
          refine a_l4 rfl rfl rfl ?_
          refine a_l3 rfl rfl rfl ?_
          refine a_gV rfl lX5_137 mo_X5_work (q_X5_work_257) rfl rfl rfl ⟨5, _, rfl, rfl, rfl⟩ rfl (fun v' h' hv => ?_)
          obtain ⟨⟨v18, rfl⟩, I19, rfl, f20⟩ := hv
          replace f20 : Fm sQ I I19 := Fm.tr (f14) (f20)
          refine a_s rfl rfl ?_
          refine a_s3 rfl rfl rfl rfl rfl rfl ?_
          refine a_i4 rfl rfl rfl ?_
          refine a_goto rfl ?_
          exact ih5 _ _ _ _ c11 ⟨_, _, rfl, rfl, f20⟩ ⟨rfl, rfl, rfl, rfl, nS _, trivial⟩
theorem q_X5_daysTillDone_257_246 {S : aS} {I : Nat → Nat → Int32} {L : Nat → Nat → Int64} {w1 w2 t : Nat} {x2 : Int32} : Sp S m_X5_daysTillDone 18 0 0 [.ref 257, .ref 246, .int x2] (hp I L w1 w2 t) (QR (Fm sQ I) isI L w1 w2 t) nX := by
  refine Sp_of ok_X5_daysTillDone rfl rfl ?_
  show AW S m_X5_daysTillDone 18 _ _ 0 0 0 [some (.ref 257), some (.ref 246), some (.int x2), none] [] (hp I L w1 w2 t)
  refine a_s rfl rfl ?_
  refine a_s3 rfl rfl rfl rfl rfl rfl ?_
  refine a_cnt (j0 := 0) (fun j ls h => ∃ I', ls = [some (.ref 257), some (.ref 246), some (.int x2), some (.int (nI j))] ∧ h = hp I' L w1 w2 t ∧ Fm sQ I I') (by decide) ⟨_, rfl, rfl, Fm.rf⟩ ⟨rfl, rfl, rfl, rfl, trivial⟩ ?_
  rintro j2 _ _ hj2 ⟨Ih2, rfl, rfl, fh2⟩ ih2
  refine a_l3 rfl rfl rfl ?_
  refine a_s rfl rfl ?_
  refine a_ic_gt rfl (fun c5 => ?_) (fun c5 => ?_)
  · refine a_s rfl rfl ?_
    exact a_iret rfl rfl ⟨⟨_, rfl⟩, _, rfl, fh2⟩
  · refine a_l0 rfl rfl rfl ?_
    refine a_getq rfl gfX5_33_5 rfl (rfl) ?_
    refine a_l2 rfl rfl rfl ?_
    refine a_eSN1 rfl lX5_86 mo_X11_at (sp_X11_at rfl) rfl rfl rfl rfl ?_
    refine a_s rfl rfl ?_
    refine a_ic_ne rfl (fun c17 => ?_) (fun c17 => ?_)
    · refine a_l0 rfl rfl rfl ?_
      refine a_l1 rfl rfl rfl ?_
      refine a_s rfl rfl ?_
      refine a_gV rfl lX5_144 mo_X5_passDay (q_X5_passDay_257_246 (b2 := false)) rfl rfl rfl ⟨5, _, rfl, rfl, rfl⟩ rfl (fun v' h' hv => ?_)
      obtain ⟨rfl, I2, rfl, f3⟩ := hv
      replace f3 : Fm sQ I I2 := Fm.tr (fh2) (f3)
      refine a_i3 rfl rfl rfl ?_
      refine a_goto rfl ?_
      exact ih2 _ _ _ _ (nI_gt1 (a := 90) (by decide) hj2 c5) ⟨_, rfl, rfl, f3⟩ ⟨rfl, rfl, rfl, nS _, trivial⟩
    · refine a_l3 rfl rfl rfl ?_
      exact a_iret rfl rfl ⟨⟨_, rfl⟩, _, rfl, fh2⟩
theorem q_X5_bitsIn_257 {S : aS} {I : Nat → Nat → Int32} {L : Nat → Nat → Int64} {w1 w2 t : Nat} {x1 : Int32} : Sp S m_X5_bitsIn 13 0 0 [.ref 257, .int x1] (hp I L w1 w2 t) (QE isI (hp I L w1 w2 t)) nX := by
  refine Sp_of ok_X5_bitsIn rfl rfl ?_
  show AW S m_X5_bitsIn 13 _ _ 0 0 0 [some (.ref 257), some (.int x1), none, none] [] (hp I L w1 w2 t)
  refine a_s rfl rfl ?_
  refine a_s2 rfl rfl rfl rfl rfl rfl ?_
  refine a_s rfl rfl ?_
  refine a_s3 rfl rfl rfl rfl rfl rfl ?_
  refine a_cnt (j0 := 0) (fun j ls h => ∃ a0, ls = [some (.ref 257), some (.int x1), some (.int a0), some (.int (nI j))] ∧ h = hp I L w1 w2 t) (by decide) ⟨_, rfl, rfl⟩ ⟨rfl, rfl, rfl, rfl, trivial⟩ ?_
  rintro j4 _ _ hj4 ⟨a0_4, rfl, rfl⟩ ih4
  refine a_l3 rfl rfl rfl ?_
  refine a_l0 rfl rfl rfl ?_
  refine a_geti rfl gfX5_63_5 rfl ?_
  refine a_ic_ge rfl (fun c9 => ?_) (fun c9 => ?_)
  · refine a_l2 rfl rfl rfl ?_
    exact a_iret rfl rfl ⟨⟨_, rfl⟩, rfl⟩
  · refine a_l0 rfl rfl rfl ?_
    refine a_getq rfl gfX5_33_5 rfl (rfl) ?_
    refine a_l3 rfl rfl rfl ?_
    refine a_eSN1 rfl lX5_86 mo_X11_at (sp_X11_at rfl) rfl rfl rfl rfl ?_
    refine a_l1 rfl rfl rfl ?_
    refine a_ic_ne rfl (fun c21 => ?_) (fun c21 => ?_)
    · refine a_i3 rfl rfl rfl ?_
      refine a_goto rfl ?_
      exact ih4 _ _ _ _ c9 ⟨_, rfl, rfl⟩ ⟨rfl, rfl, rfl, nS _, trivial⟩
    · refine a_l2 rfl rfl rfl ?_
      refine a_l3 rfl rfl rfl ?_
      refine a_eSN1 rfl lX5_97 mo_X11_bit (sp_X11_bit) rfl rfl rfl rfl ?_
      refine a_s rfl rfl ?_
      refine a_s2 rfl rfl rfl rfl rfl rfl ?_
      refine a_i3 rfl rfl rfl ?_
      refine a_goto rfl ?_
      exact ih4 _ _ _ _ c9 ⟨_, rfl, rfl⟩ ⟨rfl, rfl, rfl, nS _, trivial⟩
theorem q_X5_daysTillNoneWaits_257_246 {S : aS} {I : Nat → Nat → Int32} {L : Nat → Nat → Int64} {w1 w2 t : Nat} : Sp S m_X5_daysTillNoneWaits 18 0 0 [.ref 257, .ref 246] (hp I L w1 w2 t) (QR (Fm sQ I) isI L w1 w2 t) nX := by
  refine Sp_of ok_X5_daysTillNoneWaits rfl rfl ?_
  show AW S m_X5_daysTillNoneWaits 18 _ _ 0 0 0 [some (.ref 257), some (.ref 246), none] [] (hp I L w1 w2 t)
  refine a_s rfl rfl ?_
  refine a_s2 rfl rfl rfl rfl rfl rfl ?_
  refine a_cnt (j0 := 0) (fun j ls h => ∃ I', ls = [some (.ref 257), some (.ref 246), some (.int (nI j))] ∧ h = hp I' L w1 w2 t ∧ Fm sQ I I') (by decide) ⟨_, rfl, rfl, Fm.rf⟩ ⟨rfl, rfl, rfl, trivial⟩ ?_
  rintro j2 _ _ hj2 ⟨Ih2, rfl, rfl, fh2⟩ ih2
  refine a_l2 rfl rfl rfl ?_
  refine a_s rfl rfl ?_
  refine a_ic_gt rfl (fun c5 => ?_) (fun c5 => ?_)
  · refine a_s rfl rfl ?_
    exact a_iret rfl rfl ⟨⟨_, rfl⟩, _, rfl, fh2⟩
  · refine a_l0 rfl rfl rfl ?_
    refine a_s rfl rfl ?_
    refine a_gV rfl lX5_104 mo_X5_bitsIn (q_X5_bitsIn_257) rfl rfl rfl ⟨5, _, rfl, rfl, rfl⟩ rfl (fun v' h' hv => ?_)
    obtain ⟨⟨v1, rfl⟩, rfl⟩ := hv
    refine a_if_ne rfl (fun c13 => ?_) (fun c13 => ?_)
    · refine a_l0 rfl rfl rfl ?_
      refine a_l1 rfl rfl rfl ?_
      refine a_s rfl rfl ?_
      refine a_gV rfl lX5_144 mo_X5_passDay (q_X5_passDay_257_246 (b2 := false)) rfl rfl rfl ⟨5, _, rfl, rfl, rfl⟩ rfl (fun v' h' hv => ?_)
      obtain ⟨rfl, I3, rfl, f4⟩ := hv
      replace f4 : Fm sQ I I3 := Fm.tr (fh2) (f4)
      refine a_i2 rfl rfl rfl ?_
      refine a_goto rfl ?_
      exact ih2 _ _ _ _ (nI_gt1 (a := 90) (by decide) hj2 c5) ⟨_, rfl, rfl, f4⟩ ⟨rfl, rfl, nS _, trivial⟩
    · refine a_l2 rfl rfl rfl ?_
      exact a_iret rfl rfl ⟨⟨_, rfl⟩, _, rfl, fh2⟩
theorem q_X4_chainOf_235 {S : aS} {I : Nat → Nat → Int32} {L : Nat → Nat → Int64} {w1 w2 t : Nat} {x1 : Int32} : Sp S m_X4_chainOf 13 0 0 [.ref 235, .int x1] (hp I L w1 w2 t) (QE isI (hp I L w1 w2 t)) nX := by
  refine Sp_of ok_X4_chainOf rfl rfl ?_
  show AW S m_X4_chainOf 13 _ _ 0 0 0 [some (.ref 235), some (.int x1), none, none, none] [] (hp I L w1 w2 t)
  refine a_s rfl rfl ?_
  refine a_s2 rfl rfl rfl rfl rfl rfl ?_
  refine a_l0 rfl rfl rfl ?_
  refine a_getq rfl gfX4_9_5 rfl (rfl) ?_
  refine a_l1 rfl rfl rfl ?_
  refine a_eSN1 rfl lX4_15 mo_X11_at (sp_X11_at rfl) rfl rfl rfl rfl ?_
  refine a_s3 rfl rfl rfl rfl rfl rfl ?_
  refine a_s rfl rfl ?_
  refine a_s4 rfl rfl rfl rfl rfl rfl ?_
  refine a_cnt (j0 := 0) (fun j ls h => ∃ a0, ∃ a1, ls = [some (.ref 235), some (.int x1), some (.int a0), some (.int a1), some (.int (nI j))] ∧ h = hp I L w1 w2 t) (by decide) ⟨_, _, rfl, rfl⟩ ⟨rfl, rfl, rfl, rfl, rfl, trivial⟩ ?_
  rintro j14 _ _ hj14 ⟨a0_14, a1_14, rfl, rfl⟩ ih14
  refine a_l4 rfl rfl rfl ?_
  refine a_s rfl rfl ?_
  refine a_ic_ge rfl (fun c18 => ?_) (fun c18 => ?_)
  · refine a_l2 rfl rfl rfl ?_
    exact a_iret rfl rfl ⟨⟨_, rfl⟩, rfl⟩
  · refine a_l3 rfl rfl rfl ?_
    refine a_s rfl rfl ?_
    refine a_ic_eq rfl (fun c23 => ?_) (fun c23 => ?_)
    · refine a_l2 rfl rfl rfl ?_
      exact a_iret rfl rfl ⟨⟨_, rfl⟩, rfl⟩
    · refine a_l2 rfl rfl rfl ?_
      refine a_l3 rfl rfl rfl ?_
      refine a_eSN1 rfl lX4_19 mo_X11_bit (sp_X11_bit) rfl rfl rfl rfl ?_
      refine a_s rfl rfl ?_
      refine a_s2 rfl rfl rfl rfl rfl rfl ?_
      refine a_l0 rfl rfl rfl ?_
      refine a_getq rfl gfX4_9_5 rfl (rfl) ?_
      refine a_l3 rfl rfl rfl ?_
      refine a_eSN1 rfl lX4_15 mo_X11_at (sp_X11_at rfl) rfl rfl rfl rfl ?_
      refine a_s3 rfl rfl rfl rfl rfl rfl ?_
      refine a_i4 rfl rfl rfl ?_
      refine a_goto rfl ?_
      exact ih14 _ _ _ _ c18 ⟨_, _, rfl, rfl⟩ ⟨rfl, rfl, rfl, rfl, nS _, trivial⟩
theorem q_X4_leaningOn_235 {S : aS} {I : Nat → Nat → Int32} {L : Nat → Nat → Int64} {w1 w2 t : Nat} {x1 : Int32} : Sp S m_X4_leaningOn 14 0 0 [.ref 235, .int x1] (hp I L w1 w2 t) (QE isI (hp I L w1 w2 t)) nX := by
  refine Sp_of ok_X4_leaningOn rfl rfl ?_
  show AW S m_X4_leaningOn 14 _ _ 0 0 0 [some (.ref 235), some (.int x1), none, none] [] (hp I L w1 w2 t)
  refine a_s rfl rfl ?_
  refine a_s2 rfl rfl rfl rfl rfl rfl ?_
  refine a_s rfl rfl ?_
  refine a_s3 rfl rfl rfl rfl rfl rfl ?_
  refine a_cnt (j0 := 0) (fun j ls h => ∃ a0, ls = [some (.ref 235), some (.int x1), some (.int a0), some (.int (nI j))] ∧ h = hp I L w1 w2 t) (by decide) ⟨_, rfl, rfl⟩ ⟨rfl, rfl, rfl, rfl, trivial⟩ ?_
  rintro j4 _ _ hj4 ⟨a0_4, rfl, rfl⟩ ih4
  refine a_l3 rfl rfl rfl ?_
  refine a_l0 rfl rfl rfl ?_
  refine a_geti rfl gfX4_23_5 rfl ?_
  refine a_ic_ge rfl (fun c9 => ?_) (fun c9 => ?_)
  · refine a_l2 rfl rfl rfl ?_
    exact a_iret rfl rfl ⟨⟨_, rfl⟩, rfl⟩
  · refine a_l0 rfl rfl rfl ?_
    refine a_l3 rfl rfl rfl ?_
    refine a_gS rfl lX4_27 mo_X4_chainOf (q_X4_chainOf_235) rfl rfl rfl rfl (fun v' h' hv => ?_)
    obtain ⟨⟨v1, rfl⟩, rfl⟩ := hv
    refine a_l1 rfl rfl rfl ?_
    refine a_eSN1 rfl lX4_33 mo_X11_has (sp_X11_has) rfl rfl rfl rfl ?_
    refine a_if_eq rfl (fun c21 => ?_) (fun c21 => ?_)
    · refine a_i3 rfl rfl rfl ?_
      refine a_goto rfl ?_
      exact ih4 _ _ _ _ c9 ⟨_, rfl, rfl⟩ ⟨rfl, rfl, rfl, nS _, trivial⟩
    · refine a_l2 rfl rfl rfl ?_
      refine a_l3 rfl rfl rfl ?_
      refine a_eSN1 rfl lX4_19 mo_X11_bit (sp_X11_bit) rfl rfl rfl rfl ?_
      refine a_s rfl rfl ?_
      refine a_s2 rfl rfl rfl rfl rfl rfl ?_
      refine a_i3 rfl rfl rfl ?_
      refine a_goto rfl ?_
      exact ih4 _ _ _ _ c9 ⟨_, rfl, rfl⟩ ⟨rfl, rfl, rfl, nS _, trivial⟩
theorem q_X4_ringBits_235 {S : aS} {I : Nat → Nat → Int32} {L : Nat → Nat → Int64} {w1 w2 t : Nat} : Sp S m_X4_ringBits 14 0 0 [.ref 235] (hp I L w1 w2 t) (QE isI (hp I L w1 w2 t)) nX := by
  refine Sp_of ok_X4_ringBits rfl rfl ?_
  show AW S m_X4_ringBits 14 _ _ 0 0 0 [some (.ref 235), none, none] [] (hp I L w1 w2 t)
  refine a_s rfl rfl ?_
  refine a_s1 rfl rfl rfl rfl rfl rfl ?_
  refine a_s rfl rfl ?_
  refine a_s2 rfl rfl rfl rfl rfl rfl ?_
  refine a_cnt (j0 := 0) (fun j ls h => ∃ a0, ls = [some (.ref 235), some (.int a0), some (.int (nI j))] ∧ h = hp I L w1 w2 t) (by decide) ⟨_, rfl, rfl⟩ ⟨rfl, rfl, rfl, trivial⟩ ?_
  rintro j4 _ _ hj4 ⟨a0_4, rfl, rfl⟩ ih4
  refine a_l2 rfl rfl rfl ?_
  refine a_l0 rfl rfl rfl ?_
  refine a_geti rfl gfX4_23_5 rfl ?_
  refine a_ic_ge rfl (fun c9 => ?_) (fun c9 => ?_)
  · refine a_l1 rfl rfl rfl ?_
    exact a_iret rfl rfl ⟨⟨_, rfl⟩, rfl⟩
  · refine a_l0 rfl rfl rfl ?_
    refine a_l2 rfl rfl rfl ?_
    refine a_gS rfl lX4_27 mo_X4_chainOf (q_X4_chainOf_235) rfl rfl rfl rfl (fun v' h' hv => ?_)
    obtain ⟨⟨v1, rfl⟩, rfl⟩ := hv
    refine a_l2 rfl rfl rfl ?_
    refine a_eSN1 rfl lX4_33 mo_X11_has (sp_X11_has) rfl rfl rfl rfl ?_
    refine a_if_eq rfl (fun c21 => ?_) (fun c21 => ?_)
    · refine a_i2 rfl rfl rfl ?_
      refine a_goto rfl ?_
      exact ih4 _ _ _ _ c9 ⟨_, rfl, rfl⟩ ⟨rfl, rfl, nS _, trivial⟩
    · refine a_l1 rfl rfl rfl ?_
      refine a_l2 rfl rfl rfl ?_
      refine a_eSN1 rfl lX4_19 mo_X11_bit (sp_X11_bit) rfl rfl rfl rfl ?_
      refine a_s rfl rfl ?_
      refine a_s1 rfl rfl rfl rfl rfl rfl ?_
      refine a_i2 rfl rfl rfl ?_
      refine a_goto rfl ?_
      exact ih4 _ _ _ _ c9 ⟨_, rfl, rfl⟩ ⟨rfl, rfl, nS _, trivial⟩
theorem q_X5_isWaiting_235 {S : aS} {I : Nat → Nat → Int32} {L : Nat → Nat → Int64} {w1 w2 t : Nat} {x1 : Int32} : Sp S m_X5_isWaiting 13 0 0 [.ref 235, .int x1] (hp I L w1 w2 t) (QE isZ (hp I L w1 w2 t)) nX := by
  refine Sp_of ok_X5_isWaiting rfl rfl ?_
  show AW S m_X5_isWaiting 13 _ _ 0 0 0 [some (.ref 235), some (.int x1)] [] (hp I L w1 w2 t)
  refine a_l1 rfl rfl rfl ?_
  refine a_if_lt rfl (fun c1 => ?_) (fun c1 => ?_)
  · refine a_s rfl rfl ?_
    exact a_zret rfl rfl rfl ⟨⟨false, rfl⟩, rfl⟩
  · refine a_l1 rfl rfl rfl ?_
    refine a_l0 rfl rfl rfl ?_
    refine a_geti rfl gfX5_63_5 rfl ?_
    refine a_ic_ge rfl (fun c9 => ?_) (fun c9 => ?_)
    · refine a_s rfl rfl ?_
      exact a_zret rfl rfl rfl ⟨⟨false, rfl⟩, rfl⟩
    · refine a_l0 rfl rfl rfl ?_
      refine a_getq rfl gfX5_33_5 rfl (rfl) ?_
      refine a_l1 rfl rfl rfl ?_
      refine a_eSN1 rfl lX5_86 mo_X11_at (sp_X11_at rfl) rfl rfl rfl rfl ?_
      refine a_if_ne rfl (fun c20 => ?_) (fun c20 => ?_)
      · refine a_s rfl rfl ?_
        exact a_zret rfl rfl rfl ⟨⟨false, rfl⟩, rfl⟩
      · refine a_s rfl rfl ?_
        refine a_goto rfl ?_
        exact a_zret rfl rfl rfl ⟨⟨true, rfl⟩, rfl⟩
theorem q_X5_bitsIn_235 {S : aS} {I : Nat → Nat → Int32} {L : Nat → Nat → Int64} {w1 w2 t : Nat} {x1 : Int32} : Sp S m_X5_bitsIn 13 0 0 [.ref 235, .int x1] (hp I L w1 w2 t) (QE isI (hp I L w1 w2 t)) nX := by
  refine Sp_of ok_X5_bitsIn rfl rfl ?_
  show AW S m_X5_bitsIn 13 _ _ 0 0 0 [some (.ref 235), some (.int x1), none, none] [] (hp I L w1 w2 t)
  refine a_s rfl rfl ?_
  refine a_s2 rfl rfl rfl rfl rfl rfl ?_
  refine a_s rfl rfl ?_
  refine a_s3 rfl rfl rfl rfl rfl rfl ?_
  refine a_cnt (j0 := 0) (fun j ls h => ∃ a0, ls = [some (.ref 235), some (.int x1), some (.int a0), some (.int (nI j))] ∧ h = hp I L w1 w2 t) (by decide) ⟨_, rfl, rfl⟩ ⟨rfl, rfl, rfl, rfl, trivial⟩ ?_
  rintro j4 _ _ hj4 ⟨a0_4, rfl, rfl⟩ ih4
  refine a_l3 rfl rfl rfl ?_
  refine a_l0 rfl rfl rfl ?_
  refine a_geti rfl gfX5_63_5 rfl ?_
  refine a_ic_ge rfl (fun c9 => ?_) (fun c9 => ?_)
  · refine a_l2 rfl rfl rfl ?_
    exact a_iret rfl rfl ⟨⟨_, rfl⟩, rfl⟩
  · refine a_l0 rfl rfl rfl ?_
    refine a_getq rfl gfX5_33_5 rfl (rfl) ?_
    refine a_l3 rfl rfl rfl ?_
    refine a_eSN1 rfl lX5_86 mo_X11_at (sp_X11_at rfl) rfl rfl rfl rfl ?_
    refine a_l1 rfl rfl rfl ?_
    refine a_ic_ne rfl (fun c21 => ?_) (fun c21 => ?_)
    · refine a_i3 rfl rfl rfl ?_
      refine a_goto rfl ?_
      exact ih4 _ _ _ _ c9 ⟨_, rfl, rfl⟩ ⟨rfl, rfl, rfl, nS _, trivial⟩
    · refine a_l2 rfl rfl rfl ?_
      refine a_l3 rfl rfl rfl ?_
      refine a_eSN1 rfl lX5_97 mo_X11_bit (sp_X11_bit) rfl rfl rfl rfl ?_
      refine a_s rfl rfl ?_
      refine a_s2 rfl rfl rfl rfl rfl rfl ?_
      refine a_i3 rfl rfl rfl ?_
      refine a_goto rfl ?_
      exact ih4 _ _ _ _ c9 ⟨_, rfl, rfl⟩ ⟨rfl, rfl, rfl, nS _, trivial⟩
theorem q_X4_hoursOf_235 {S : aS} {I : Nat → Nat → Int32} {L : Nat → Nat → Int64} {w1 w2 t : Nat} {x1 : Int32} : Sp S m_X4_hoursOf 15 0 0 [.ref 235, .int x1] (hp I L w1 w2 t) (QE isI (hp I L w1 w2 t)) nX := by
  refine Sp_of ok_X4_hoursOf rfl rfl ?_
  show AW S m_X4_hoursOf 15 _ _ 0 0 0 [some (.ref 235), some (.int x1), none] [] (hp I L w1 w2 t)
  refine a_l0 rfl rfl rfl ?_
  refine a_gS rfl lX4_50 mo_X4_ringBits (q_X4_ringBits_235) rfl rfl rfl rfl (fun v' h' hv => ?_)
  obtain ⟨⟨v1, rfl⟩, rfl⟩ := hv
  refine a_l0 rfl rfl rfl ?_
  refine a_s rfl rfl ?_
  refine a_gV rfl lX4_47 mo_X5_bitsIn (q_X5_bitsIn_235) rfl rfl rfl ⟨5, _, rfl, rfl, rfl⟩ rfl (fun v' h' hv => ?_)
  obtain ⟨⟨v2, rfl⟩, rfl⟩ := hv
  refine a_s rfl rfl ?_
  refine a_s2 rfl rfl rfl rfl rfl rfl ?_
  refine a_l1 rfl rfl rfl ?_
  refine a_l2 rfl rfl rfl ?_
  refine a_s rfl rfl ?_
  refine a_if_eq rfl (fun c14 => ?_) (fun c14 => ?_)
  · refine a_l0 rfl rfl rfl ?_
    refine a_getq rfl gfX4_54_5 rfl (rfl) ?_
    refine a_l1 rfl rfl rfl ?_
    refine a_eSN1 rfl lX4_57 mo_X11_sumOver (sp_X11_sumOver rfl) rfl rfl rfl rfl ?_
    exact a_iret rfl rfl ⟨⟨_, rfl⟩, rfl⟩
  · refine a_s rfl rfl ?_
    refine a_goto rfl ?_
    exact a_iret rfl rfl ⟨⟨_, rfl⟩, rfl⟩
theorem q_X4_hoursTill_235 {S : aS} {I : Nat → Nat → Int32} {L : Nat → Nat → Int64} {w1 w2 t : Nat} {x1 : Int32} : Sp S m_X4_hoursTill 16 0 0 [.ref 235, .int x1] (hp I L w1 w2 t) (QE isI (hp I L w1 w2 t)) nX := by
  refine Sp_of ok_X4_hoursTill rfl rfl ?_
  show AW S m_X4_hoursTill 16 _ _ 0 0 0 [some (.ref 235), some (.int x1)] [] (hp I L w1 w2 t)
  refine a_l0 rfl rfl rfl ?_
  refine a_l1 rfl rfl rfl ?_
  refine a_gV rfl lX4_37 mo_X5_isWaiting (q_X5_isWaiting_235) rfl rfl rfl ⟨5, _, rfl, rfl, rfl⟩ rfl (fun v' h' hv => ?_)
  obtain ⟨⟨v1, rfl⟩, rfl⟩ := hv
  refine a_if_eq rfl (fun c5 => ?_) (fun c5 => ?_)
  · refine a_s rfl rfl ?_
    exact a_iret rfl rfl ⟨⟨_, rfl⟩, rfl⟩
  · refine a_l0 rfl rfl rfl ?_
    refine a_l1 rfl rfl rfl ?_
    refine a_eSN1 rfl lX4_19 mo_X11_bit (sp_X11_bit) rfl rfl rfl rfl ?_
    refine a_l0 rfl rfl rfl ?_
    refine a_l1 rfl rfl rfl ?_
    refine a_gS rfl lX4_27 mo_X4_chainOf (q_X4_chainOf_235) rfl rfl rfl rfl (fun v' h' hv => ?_)
    obtain ⟨⟨v2, rfl⟩, rfl⟩ := hv
    refine a_s rfl rfl ?_
    refine a_gS rfl lX4_41 mo_X4_hoursOf (q_X4_hoursOf_235) rfl rfl rfl rfl (fun v' h' hv => ?_)
    obtain ⟨⟨v3, rfl⟩, rfl⟩ := hv
    refine a_goto rfl ?_
    exact a_iret rfl rfl ⟨⟨_, rfl⟩, rfl⟩
theorem q_X5_olderThan_235 {S : aS} {I : Nat → Nat → Int32} {L : Nat → Nat → Int64} {w1 w2 t : Nat} {x1 : Int32} : Sp S m_X5_olderThan 14 0 0 [.ref 235, .int x1] (hp I L w1 w2 t) (QE isI (hp I L w1 w2 t)) nX := by
  refine Sp_of ok_X5_olderThan rfl rfl ?_
  show AW S m_X5_olderThan 14 _ _ 0 0 0 [some (.ref 235), some (.int x1), none, none] [] (hp I L w1 w2 t)
  refine a_s rfl rfl ?_
  refine a_s2 rfl rfl rfl rfl rfl rfl ?_
  refine a_s rfl rfl ?_
  refine a_s3 rfl rfl rfl rfl rfl rfl ?_
  refine a_cnt (j0 := 0) (fun j ls h => ∃ a0, ls = [some (.ref 235), some (.int x1), some (.int a0), some (.int (nI j))] ∧ h = hp I L w1 w2 t) (by decide) ⟨_, rfl, rfl⟩ ⟨rfl, rfl, rfl, rfl, trivial⟩ ?_
  rintro j4 _ _ hj4 ⟨a0_4, rfl, rfl⟩ ih4
  refine a_l3 rfl rfl rfl ?_
  refine a_l0 rfl rfl rfl ?_
  refine a_geti rfl gfX5_63_5 rfl ?_
  refine a_ic_ge rfl (fun c9 => ?_) (fun c9 => ?_)
  · refine a_l2 rfl rfl rfl ?_
    exact a_iret rfl rfl ⟨⟨_, rfl⟩, rfl⟩
  · refine a_l0 rfl rfl rfl ?_
    refine a_l3 rfl rfl rfl ?_
    refine a_gV rfl lX5_90 mo_X5_isWaiting (q_X5_isWaiting_235) rfl rfl rfl ⟨5, _, rfl, rfl, rfl⟩ rfl (fun v' h' hv => ?_)
    obtain ⟨⟨v1, rfl⟩, rfl⟩ := hv
    refine a_if_eq rfl (fun c17 => ?_) (fun c17 => ?_)
    · refine a_i3 rfl rfl rfl ?_
      refine a_goto rfl ?_
      exact ih4 _ _ _ _ c9 ⟨_, rfl, rfl⟩ ⟨rfl, rfl, rfl, nS _, trivial⟩
    · refine a_l0 rfl rfl rfl ?_
      refine a_getq rfl gfX5_24_5 rfl (rfl) ?_
      refine a_l3 rfl rfl rfl ?_
      refine a_eSN1 rfl lX5_86 mo_X11_at (sp_X11_at rfl) rfl rfl rfl rfl ?_
      refine a_l1 rfl rfl rfl ?_
      refine a_ic_le rfl (fun c29 => ?_) (fun c29 => ?_)
      · refine a_i3 rfl rfl rfl ?_
        refine a_goto rfl ?_
        exact ih4 _ _ _ _ c9 ⟨_, rfl, rfl⟩ ⟨rfl, rfl, rfl, nS _, trivial⟩
      · refine a_l2 rfl rfl rfl ?_
        refine a_l3 rfl rfl rfl ?_
        refine a_eSN1 rfl lX5_97 mo_X11_bit (sp_X11_bit) rfl rfl rfl rfl ?_
        refine a_s rfl rfl ?_
        refine a_s2 rfl rfl rfl rfl rfl rfl ?_
        refine a_i3 rfl rfl rfl ?_
        refine a_goto rfl ?_
        exact ih4 _ _ _ _ c9 ⟨_, rfl, rfl⟩ ⟨rfl, rfl, rfl, nS _, trivial⟩
theorem q_X4_hoursTillYoung_235 {S : aS} {I : Nat → Nat → Int32} {L : Nat → Nat → Int64} {w1 w2 t : Nat} {x1 : Int32} : Sp S m_X4_hoursTillYoung 16 0 0 [.ref 235, .int x1] (hp I L w1 w2 t) (QE isI (hp I L w1 w2 t)) nX := by
  refine Sp_of ok_X4_hoursTillYoung rfl rfl ?_
  show AW S m_X4_hoursTillYoung 16 _ _ 0 0 0 [some (.ref 235), some (.int x1), none, none, none] [] (hp I L w1 w2 t)
  refine a_l0 rfl rfl rfl ?_
  refine a_l1 rfl rfl rfl ?_
  refine a_gV rfl lX4_44 mo_X5_olderThan (q_X5_olderThan_235) rfl rfl rfl ⟨5, _, rfl, rfl, rfl⟩ rfl (fun v' h' hv => ?_)
  obtain ⟨⟨v1, rfl⟩, rfl⟩ := hv
  refine a_s2 rfl rfl rfl rfl rfl rfl ?_
  refine a_l2 rfl rfl rfl ?_
  refine a_s3 rfl rfl rfl rfl rfl rfl ?_
  refine a_s rfl rfl ?_
  refine a_s4 rfl rfl rfl rfl rfl rfl ?_
  refine a_cnt (j0 := 0) (fun j ls h => ∃ a0, ls = [some (.ref 235), some (.int x1), some (.int v1), some (.int a0), some (.int (nI j))] ∧ h = hp I L w1 w2 t) (by decide) ⟨_, rfl, rfl⟩ ⟨rfl, rfl, rfl, rfl, rfl, trivial⟩ ?_
  rintro j11 _ _ hj11 ⟨a0_11, rfl, rfl⟩ ih11
  refine a_l4 rfl rfl rfl ?_
  refine a_l0 rfl rfl rfl ?_
  refine a_geti rfl gfX4_23_5 rfl ?_
  refine a_ic_ge rfl (fun c17 => ?_) (fun c17 => ?_)
  · refine a_l0 rfl rfl rfl ?_
    refine a_l3 rfl rfl rfl ?_
    refine a_l0 rfl rfl rfl ?_
    refine a_s rfl rfl ?_
    refine a_gV rfl lX4_47 mo_X5_bitsIn (q_X5_bitsIn_235) rfl rfl rfl ⟨5, _, rfl, rfl, rfl⟩ rfl (fun v' h' hv => ?_)
    obtain ⟨⟨v2, rfl⟩, rfl⟩ := hv
    refine a_s rfl rfl ?_
    refine a_s rfl rfl ?_
    refine a_s rfl rfl ?_
    refine a_gS rfl lX4_41 mo_X4_hoursOf (q_X4_hoursOf_235) rfl rfl rfl rfl (fun v' h' hv => ?_)
    obtain ⟨⟨v3, rfl⟩, rfl⟩ := hv
    exact a_iret rfl rfl ⟨⟨_, rfl⟩, rfl⟩
  · refine a_l2 rfl rfl rfl ?_
    refine a_l4 rfl rfl rfl ?_
    refine a_eSN1 rfl lX4_33 mo_X11_has (sp_X11_has) rfl rfl rfl rfl ?_
    refine a_if_eq rfl (fun c26 => ?_) (fun c26 => ?_)
    · refine a_i4 rfl rfl rfl ?_
      refine a_goto rfl ?_
      exact ih11 _ _ _ _ c17 ⟨_, rfl, rfl⟩ ⟨rfl, rfl, rfl, rfl, nS _, trivial⟩
    · refine a_l3 rfl rfl rfl ?_
      refine a_l0 rfl rfl rfl ?_
      refine a_l4 rfl rfl rfl ?_
      refine a_gS rfl lX4_27 mo_X4_chainOf (q_X4_chainOf_235) rfl rfl rfl rfl (fun v' h' hv => ?_)
      obtain ⟨⟨v4, rfl⟩, rfl⟩ := hv
      refine a_s rfl rfl ?_
      refine a_s3 rfl rfl rfl rfl rfl rfl ?_
      refine a_i4 rfl rfl rfl ?_
      refine a_goto rfl ?_
      exact ih11 _ _ _ _ c17 ⟨_, rfl, rfl⟩ ⟨rfl, rfl, rfl, rfl, nS _, trivial⟩
theorem q_X5_ownedBy_235 {S : aS} {I : Nat → Nat → Int32} {L : Nat → Nat → Int64} {w1 w2 t : Nat} {x1 : Int32} : Sp S m_X5_ownedBy 13 0 0 [.ref 235, .int x1] (hp I L w1 w2 t) (QE isI (hp I L w1 w2 t)) nX := by
  refine Sp_of ok_X5_ownedBy rfl rfl ?_
  show AW S m_X5_ownedBy 13 _ _ 0 0 0 [some (.ref 235), some (.int x1), none, none] [] (hp I L w1 w2 t)
  refine a_s rfl rfl ?_
  refine a_s2 rfl rfl rfl rfl rfl rfl ?_
  refine a_s rfl rfl ?_
  refine a_s3 rfl rfl rfl rfl rfl rfl ?_
  refine a_cnt (j0 := 0) (fun j ls h => ∃ a0, ls = [some (.ref 235), some (.int x1), some (.int a0), some (.int (nI j))] ∧ h = hp I L w1 w2 t) (by decide) ⟨_, rfl, rfl⟩ ⟨rfl, rfl, rfl, rfl, trivial⟩ ?_
  rintro j4 _ _ hj4 ⟨a0_4, rfl, rfl⟩ ih4
  refine a_l3 rfl rfl rfl ?_
  refine a_l0 rfl rfl rfl ?_
  refine a_geti rfl gfX5_63_5 rfl ?_
  refine a_ic_ge rfl (fun c9 => ?_) (fun c9 => ?_)
  · refine a_l2 rfl rfl rfl ?_
    exact a_iret rfl rfl ⟨⟨_, rfl⟩, rfl⟩
  · refine a_l0 rfl rfl rfl ?_
    refine a_getq rfl gfX5_18_5 rfl (rfl) ?_
    refine a_l3 rfl rfl rfl ?_
    refine a_eSN1 rfl lX5_86 mo_X11_at (sp_X11_at rfl) rfl rfl rfl rfl ?_
    refine a_l1 rfl rfl rfl ?_
    refine a_ic_ne rfl (fun c21 => ?_) (fun c21 => ?_)
    · refine a_i3 rfl rfl rfl ?_
      refine a_goto rfl ?_
      exact ih4 _ _ _ _ c9 ⟨_, rfl, rfl⟩ ⟨rfl, rfl, rfl, nS _, trivial⟩
    · refine a_l2 rfl rfl rfl ?_
      refine a_l3 rfl rfl rfl ?_
      refine a_eSN1 rfl lX5_97 mo_X11_bit (sp_X11_bit) rfl rfl rfl rfl ?_
      refine a_s rfl rfl ?_
      refine a_s2 rfl rfl rfl rfl rfl rfl ?_
      refine a_i3 rfl rfl rfl ?_
      refine a_goto rfl ?_
      exact ih4 _ _ _ _ c9 ⟨_, rfl, rfl⟩ ⟨rfl, rfl, rfl, nS _, trivial⟩
theorem q_X5_loadOf_235 {S : aS} {I : Nat → Nat → Int32} {L : Nat → Nat → Int64} {w1 w2 t : Nat} {x1 : Int32} : Sp S m_X5_loadOf 14 0 0 [.ref 235, .int x1] (hp I L w1 w2 t) (QE isI (hp I L w1 w2 t)) nX := by
  refine Sp_of ok_X5_loadOf rfl rfl ?_
  show AW S m_X5_loadOf 14 _ _ 0 0 0 [some (.ref 235), some (.int x1)] [] (hp I L w1 w2 t)
  refine a_l0 rfl rfl rfl ?_
  refine a_getq rfl gfX5_21_5 rfl (rfl) ?_
  refine a_l0 rfl rfl rfl ?_
  refine a_s rfl rfl ?_
  refine a_gV rfl lX5_104 mo_X5_bitsIn (q_X5_bitsIn_235) rfl rfl rfl ⟨5, _, rfl, rfl, rfl⟩ rfl (fun v' h' hv => ?_)
  obtain ⟨⟨v1, rfl⟩, rfl⟩ := hv
  refine a_l0 rfl rfl rfl ?_
  refine a_l1 rfl rfl rfl ?_
  refine a_gV rfl lX5_107 mo_X5_ownedBy (q_X5_ownedBy_235) rfl rfl rfl ⟨5, _, rfl, rfl, rfl⟩ rfl (fun v' h' hv => ?_)
  obtain ⟨⟨v2, rfl⟩, rfl⟩ := hv
  refine a_s rfl rfl ?_
  refine a_eSN1 rfl lX5_110 mo_X11_sumOver (sp_X11_sumOver rfl) rfl rfl rfl rfl ?_
  exact a_iret rfl rfl ⟨⟨_, rfl⟩, rfl⟩
theorem q_X0_gainOf_235 {S : aS} {I : Nat → Nat → Int32} {L : Nat → Nat → Int64} {w1 w2 t : Nat} {x1 x2 : Int32} : Sp S m_X0_gainOf 15 0 0 [.ref 235, .int x1, .int x2] (hp I L w1 w2 t) (QE isI (hp I L w1 w2 t)) nX := by
  refine Sp_of ok_X0_gainOf rfl rfl ?_
  show AW S m_X0_gainOf 15 _ _ 0 0 0 [some (.ref 235), some (.int x1), some (.int x2), none, none] [] (hp I L w1 w2 t)
  refine a_l0 rfl rfl rfl ?_
  refine a_l1 rfl rfl rfl ?_
  refine a_gV rfl lX0_91 mo_X5_loadOf (q_X5_loadOf_235) rfl rfl rfl ⟨5, _, rfl, rfl, rfl⟩ rfl (fun v' h' hv => ?_)
  obtain ⟨⟨v1, rfl⟩, rfl⟩ := hv
  refine a_s3 rfl rfl rfl rfl rfl rfl ?_
  refine a_l0 rfl rfl rfl ?_
  refine a_getq rfl gfX0_94_5 rfl (rfl) ?_
  refine a_l1 rfl rfl rfl ?_
  refine a_eSN1 rfl lX0_52 mo_X11_at (sp_X11_at rfl) rfl rfl rfl rfl ?_
  refine a_s4 rfl rfl rfl rfl rfl rfl ?_
  refine a_l3 rfl rfl rfl ?_
  refine a_l4 rfl rfl rfl ?_
  refine a_eSN1 rfl lX0_97 mo_X11_needsOf (sp_X11_needsOf) rfl rfl rfl rfl ?_
  refine a_l3 rfl rfl rfl ?_
  refine a_l2 rfl rfl rfl ?_
  refine a_s rfl rfl ?_
  refine a_l4 rfl rfl rfl ?_
  refine a_eSN1 rfl lX0_97 mo_X11_needsOf (sp_X11_needsOf) rfl rfl rfl rfl ?_
  refine a_s rfl rfl ?_
  exact a_iret rfl rfl ⟨⟨_, rfl⟩, rfl⟩
theorem q_X0_firstSwap_235 {S : aS} {I : Nat → Nat → Int32} {L : Nat → Nat → Int64} {w1 w2 t : Nat} {x1 x2 : Int32} : Sp S m_X0_firstSwap 16 0 0 [.ref 235, .int x1, .int x2] (hp I L w1 w2 t) (QE isI (hp I L w1 w2 t)) nX := by
  refine Sp_of ok_X0_firstSwap rfl rfl ?_
  show AW S m_X0_firstSwap 16 _ _ 0 0 0 [some (.ref 235), some (.int x1), some (.int x2), none, none, none, none, none, none, none, none] [] (hp I L w1 w2 t)
  refine a_l0 rfl rfl rfl ?_
  refine a_s rfl rfl ?_
  refine a_gV rfl lX0_59 mo_X5_bitsIn (q_X5_bitsIn_235) rfl rfl rfl ⟨5, _, rfl, rfl, rfl⟩ rfl (fun v' h' hv => ?_)
  obtain ⟨⟨v1, rfl⟩, rfl⟩ := hv
  refine a_s3 rfl rfl rfl rfl rfl rfl ?_
  refine a_l3 rfl rfl rfl ?_
  refine a_l0 rfl rfl rfl ?_
  refine a_l1 rfl rfl rfl ?_
  refine a_gV rfl lX0_84 mo_X5_ownedBy (q_X5_ownedBy_235) rfl rfl rfl ⟨5, _, rfl, rfl, rfl⟩ rfl (fun v' h' hv => ?_)
  obtain ⟨⟨v2, rfl⟩, rfl⟩ := hv
  refine a_s rfl rfl ?_
  refine a_s4 rfl rfl rfl rfl rfl rfl ?_
  refine a_l3 rfl rfl rfl ?_
  refine a_l0 rfl rfl rfl ?_
  refine a_l2 rfl rfl rfl ?_
  refine a_gV rfl lX0_84 mo_X5_ownedBy (q_X5_ownedBy_235) rfl rfl rfl ⟨5, _, rfl, rfl, rfl⟩ rfl (fun v' h' hv => ?_)
  obtain ⟨⟨v3, rfl⟩, rfl⟩ := hv
  refine a_s rfl rfl ?_
  refine a_s5 rfl rfl rfl rfl rfl rfl ?_
  refine a_s rfl rfl ?_
  refine a_s6 rfl rfl rfl rfl rfl rfl ?_
  refine a_cnt (j0 := 0) (fun j ls h => ∃ a0, ∃ a1, ls = [some (.ref 235), some (.int x1), some (.int x2), some (.int v1), some (.int a0), some (.int a1), some (.int (nI j)), none, none, none, none] ∧ h = hp I L w1 w2 t) (by decide) ⟨_, _, rfl, rfl⟩ ⟨rfl, rfl, rfl, rfl, rfl, rfl, rfl, trivial⟩ ?_
  rintro j27 _ _ hj27 ⟨a0_27, a1_27, rfl, rfl⟩ ih27
  refine a_l6 rfl rfl rfl ?_
  refine a_l0 rfl rfl rfl ?_
  refine a_geti rfl gfX0_24_5 rfl ?_
  refine a_ic_ge rfl (fun c33 => ?_) (fun c33 => ?_)
  · refine a_s rfl rfl ?_
    exact a_iret rfl rfl ⟨⟨_, rfl⟩, rfl⟩
  · refine a_s rfl rfl ?_
    refine a_s7 rfl rfl rfl rfl rfl rfl ?_
    refine a_cnt (j0 := 0) (fun j ls h => ls = [some (.ref 235), some (.int x1), some (.int x2), some (.int v1), some (.int a0_27), some (.int a1_27), some (.int (nI j27)), some (.int (nI j)), none, none, none] ∧ h = hp I L w1 w2 t) (by decide) ⟨rfl, rfl⟩ ⟨rfl, rfl, rfl, rfl, rfl, rfl, rfl, rfl, trivial⟩ ?_
    rintro j39 _ _ hj39 ⟨rfl, rfl⟩ ih39
    refine a_l7 rfl rfl rfl ?_
    refine a_l0 rfl rfl rfl ?_
    refine a_geti rfl gfX0_24_5 rfl ?_
    refine a_ic_ge rfl (fun c45 => ?_) (fun c45 => ?_)
    · refine a_i6 rfl rfl rfl ?_
      refine a_goto rfl ?_
      exact ih27 _ _ _ _ c33 ⟨_, _, rfl, rfl⟩ ⟨rfl, rfl, rfl, rfl, rfl, rfl, nS _, trivial⟩
    · refine a_l4 rfl rfl rfl ?_
      refine a_l6 rfl rfl rfl ?_
      refine a_eSN1 rfl lX0_45 mo_X11_has (sp_X11_has) rfl rfl rfl rfl ?_
      refine a_if_eq rfl (fun c55 => ?_) (fun c55 => ?_)
      · refine a_i7 rfl rfl rfl ?_
        refine a_goto rfl ?_
        exact ih39 _ _ _ _ c45 ⟨rfl, rfl⟩ ⟨rfl, rfl, rfl, rfl, rfl, rfl, rfl, nS _, trivial⟩
      · refine a_l5 rfl rfl rfl ?_
        refine a_l7 rfl rfl rfl ?_
        refine a_eSN1 rfl lX0_45 mo_X11_has (sp_X11_has) rfl rfl rfl rfl ?_
        refine a_if_eq rfl (fun c65 => ?_) (fun c65 => ?_)
        · refine a_i7 rfl rfl rfl ?_
          refine a_goto rfl ?_
          exact ih39 _ _ _ _ c45 ⟨rfl, rfl⟩ ⟨rfl, rfl, rfl, rfl, rfl, rfl, rfl, nS _, trivial⟩
        · refine a_l0 rfl rfl rfl ?_
          refine a_getq rfl gfX0_68_5 rfl (rfl) ?_
          refine a_l7 rfl rfl rfl ?_
          refine a_eSN1 rfl lX0_52 mo_X11_at (sp_X11_at rfl) rfl rfl rfl rfl ?_
          refine a_l0 rfl rfl rfl ?_
          refine a_getq rfl gfX0_68_5 rfl (rfl) ?_
          refine a_l6 rfl rfl rfl ?_
          refine a_eSN1 rfl lX0_52 mo_X11_at (sp_X11_at rfl) rfl rfl rfl rfl ?_
          refine a_s rfl rfl ?_
          refine a_s8 rfl rfl rfl rfl rfl rfl ?_
          refine a_l0 rfl rfl rfl ?_
          refine a_l1 rfl rfl rfl ?_
          refine a_l8 rfl rfl rfl ?_
          refine a_gS rfl lX0_87 mo_X0_gainOf (q_X0_gainOf_235) rfl rfl rfl rfl (fun v' h' hv => ?_)
          obtain ⟨⟨v4, rfl⟩, rfl⟩ := hv
          refine a_s9 rfl rfl rfl rfl rfl rfl ?_
          refine a_l0 rfl rfl rfl ?_
          refine a_l2 rfl rfl rfl ?_
          refine a_l8 rfl rfl rfl ?_
          refine a_s rfl rfl ?_
          refine a_gS rfl lX0_87 mo_X0_gainOf (q_X0_gainOf_235) rfl rfl rfl rfl (fun v' h' hv => ?_)
          obtain ⟨⟨v5, rfl⟩, rfl⟩ := hv
          refine a_s10 rfl rfl rfl rfl rfl rfl ?_
          refine a_l9 rfl rfl rfl ?_
          refine a_if_lt rfl (fun c110 => ?_) (fun c110 => ?_)
          · refine a_i7 rfl rfl rfl ?_
            refine a_goto rfl ?_
            exact ih39 _ _ _ _ c45 ⟨rfl, rfl⟩ ⟨rfl, rfl, rfl, rfl, rfl, rfl, rfl, nS _, trivial⟩
          · refine a_l10 rfl rfl rfl ?_
            refine a_if_lt rfl (fun c115 => ?_) (fun c115 => ?_)
            · refine a_i7 rfl rfl rfl ?_
              refine a_goto rfl ?_
              exact ih39 _ _ _ _ c45 ⟨rfl, rfl⟩ ⟨rfl, rfl, rfl, rfl, rfl, rfl, rfl, nS _, trivial⟩
            · refine a_l9 rfl rfl rfl ?_
              refine a_l10 rfl rfl rfl ?_
              refine a_s rfl rfl ?_
              refine a_if_le rfl (fun c123 => ?_) (fun c123 => ?_)
              · refine a_i7 rfl rfl rfl ?_
                refine a_goto rfl ?_
                exact ih39 _ _ _ _ c45 ⟨rfl, rfl⟩ ⟨rfl, rfl, rfl, rfl, rfl, rfl, rfl, nS _, trivial⟩
              · refine a_s rfl rfl ?_
                refine a_l6 rfl rfl rfl ?_
                refine a_s rfl rfl ?_
                refine a_l7 rfl rfl rfl ?_
                refine a_s rfl rfl ?_
                exact a_iret rfl rfl ⟨⟨_, rfl⟩, rfl⟩
theorem q_X0_payOf {S : aS} {I : Nat → Nat → Int32} {L : Nat → Nat → Int64} {w1 w2 t : Nat} {x0 x1 x2 x3 : Int32} : Sp S m_X0_payOf 12 0 0 [.int x0, .int x1, .int x2, .int x3] (hp I L w1 w2 t) (QE isI (hp I L w1 w2 t)) nX := by
  refine Sp_of ok_X0_payOf rfl rfl ?_
  show AW S m_X0_payOf 12 _ _ 0 0 0 [some (.int x0), some (.int x1), some (.int x2), some (.int x3)] [] (hp I L w1 w2 t)
  refine a_l0 rfl rfl rfl ?_
  refine a_if_ne rfl (fun c1 => ?_) (fun c1 => ?_)
  · refine a_l1 rfl rfl rfl ?_
    refine a_if_ne rfl (fun c21 => ?_) (fun c21 => ?_)
    · refine a_l2 rfl rfl rfl ?_
      refine a_s rfl rfl ?_
      exact a_iret rfl rfl ⟨⟨_, rfl⟩, rfl⟩
    · refine a_l2 rfl rfl rfl ?_
      refine a_goto rfl ?_
      exact a_iret rfl rfl ⟨⟨_, rfl⟩, rfl⟩
  · refine a_l1 rfl rfl rfl ?_
    refine a_if_ne rfl (fun c5 => ?_) (fun c5 => ?_)
    · refine a_l2 rfl rfl rfl ?_
      refine a_l3 rfl rfl rfl ?_
      refine a_s rfl rfl ?_
      exact a_iret rfl rfl ⟨⟨_, rfl⟩, rfl⟩
    · refine a_l2 rfl rfl rfl ?_
      refine a_l3 rfl rfl rfl ?_
      refine a_s rfl rfl ?_
      refine a_idiv rfl (by decide) ?_
      refine a_s rfl rfl ?_
      refine a_goto rfl ?_
      exact a_iret rfl rfl ⟨⟨_, rfl⟩, rfl⟩
theorem q_X0_isBest {S : aS} {I : Nat → Nat → Int32} {L : Nat → Nat → Int64} {w1 w2 t : Nat} {x0 x1 x2 x3 : Int32} : Sp S m_X0_isBest 13 0 0 [.int x0, .int x1, .int x2, .int x3] (hp I L w1 w2 t) (QE isZ (hp I L w1 w2 t)) nX := by
  refine Sp_of ok_X0_isBest rfl rfl ?_
  show AW S m_X0_isBest 13 _ _ 0 0 0 [some (.int x0), some (.int x1), some (.int x2), some (.int x3)] [] (hp I L w1 w2 t)
  refine a_l0 rfl rfl rfl ?_
  refine a_l1 rfl rfl rfl ?_
  refine a_l2 rfl rfl rfl ?_
  refine a_l3 rfl rfl rfl ?_
  refine a_gS rfl lX0_105 mo_X0_payOf (q_X0_payOf) rfl rfl rfl rfl (fun v' h' hv => ?_)
  obtain ⟨⟨v1, rfl⟩, rfl⟩ := hv
  refine a_s rfl rfl ?_
  refine a_l0 rfl rfl rfl ?_
  refine a_s rfl rfl ?_
  refine a_l1 rfl rfl rfl ?_
  refine a_l2 rfl rfl rfl ?_
  refine a_l3 rfl rfl rfl ?_
  refine a_gS rfl lX0_105 mo_X0_payOf (q_X0_payOf) rfl rfl rfl rfl (fun v' h' hv => ?_)
  obtain ⟨⟨v2, rfl⟩, rfl⟩ := hv
  refine a_ic_lt rfl (fun c16 => ?_) (fun c16 => ?_)
  · refine a_s rfl rfl ?_
    exact a_zret rfl rfl rfl ⟨⟨false, rfl⟩, rfl⟩
  · refine a_s rfl rfl ?_
    refine a_goto rfl ?_
    exact a_zret rfl rfl rfl ⟨⟨true, rfl⟩, rfl⟩
theorem q_X0_restingChoices {S : aS} {I : Nat → Nat → Int32} {L : Nat → Nat → Int64} {w1 w2 t : Nat} {x0 x1 : Int32} : Sp S m_X0_restingChoices 14 0 0 [.int x0, .int x1] (hp I L w1 w2 t) (QE isI (hp I L w1 w2 t)) nX := by
  refine Sp_of ok_X0_restingChoices rfl rfl ?_
  show AW S m_X0_restingChoices 14 _ _ 0 0 0 [some (.int x0), some (.int x1), none, none, none] [] (hp I L w1 w2 t)
  refine a_s rfl rfl ?_
  refine a_s2 rfl rfl rfl rfl rfl rfl ?_
  refine a_s rfl rfl ?_
  refine a_s3 rfl rfl rfl rfl rfl rfl ?_
  refine a_cnt (j0 := 0) (fun j ls h => ∃ a0, ls = [some (.int x0), some (.int x1), some (.int a0), some (.int (nI j)), none] ∧ h = hp I L w1 w2 t) (by decide) ⟨_, rfl, rfl⟩ ⟨rfl, rfl, rfl, rfl, trivial⟩ ?_
  rintro j4 _ _ hj4 ⟨a0_4, rfl, rfl⟩ ih4
  refine a_l3 rfl rfl rfl ?_
  refine a_s rfl rfl ?_
  refine a_ic_ge rfl (fun c6 => ?_) (fun c6 => ?_)
  · refine a_l2 rfl rfl rfl ?_
    exact a_iret rfl rfl ⟨⟨_, rfl⟩, rfl⟩
  · refine a_s rfl rfl ?_
    refine a_s4 rfl rfl rfl rfl rfl rfl ?_
    refine a_cnt (j0 := 0) (fun j ls h => ∃ a0, ls = [some (.int x0), some (.int x1), some (.int a0), some (.int (nI j4)), some (.int (nI j))] ∧ h = hp I L w1 w2 t) (by decide) ⟨_, rfl, rfl⟩ ⟨rfl, rfl, rfl, rfl, rfl, trivial⟩ ?_
    rintro j12 _ _ hj12 ⟨a0_12, rfl, rfl⟩ ih12
    refine a_l4 rfl rfl rfl ?_
    refine a_s rfl rfl ?_
    refine a_ic_ge rfl (fun c15 => ?_) (fun c15 => ?_)
    · refine a_i3 rfl rfl rfl ?_
      refine a_goto rfl ?_
      exact ih4 _ _ _ _ c6 ⟨_, rfl, rfl⟩ ⟨rfl, rfl, rfl, nS _, trivial⟩
    · refine a_l3 rfl rfl rfl ?_
      refine a_l4 rfl rfl rfl ?_
      refine a_l0 rfl rfl rfl ?_
      refine a_l1 rfl rfl rfl ?_
      refine a_gS rfl lX0_101 mo_X0_isBest (q_X0_isBest) rfl rfl rfl rfl (fun v' h' hv => ?_)
      obtain ⟨⟨v1, rfl⟩, rfl⟩ := hv
      refine a_if_eq rfl (fun c26 => ?_) (fun c26 => ?_)
      · refine a_i4 rfl rfl rfl ?_
        refine a_goto rfl ?_
        exact ih12 _ _ _ _ c15 ⟨_, rfl, rfl⟩ ⟨rfl, rfl, rfl, rfl, nS _, trivial⟩
      · refine a_l4 rfl rfl rfl ?_
        refine a_l3 rfl rfl rfl ?_
        refine a_l0 rfl rfl rfl ?_
        refine a_l1 rfl rfl rfl ?_
        refine a_gS rfl lX0_101 mo_X0_isBest (q_X0_isBest) rfl rfl rfl rfl (fun v' h' hv => ?_)
        obtain ⟨⟨v2, rfl⟩, rfl⟩ := hv
        refine a_if_eq rfl (fun c37 => ?_) (fun c37 => ?_)
        · refine a_i4 rfl rfl rfl ?_
          refine a_goto rfl ?_
          exact ih12 _ _ _ _ c15 ⟨_, rfl, rfl⟩ ⟨rfl, rfl, rfl, rfl, nS _, trivial⟩
        · refine a_l2 rfl rfl rfl ?_
          refine a_s rfl rfl ?_
          refine a_l3 rfl rfl rfl ?_
          refine a_s rfl rfl ?_
          refine a_l4 rfl rfl rfl ?_
          refine a_s rfl rfl ?_
          refine a_eSN1 rfl lX0_56 mo_X11_bit (sp_X11_bit) rfl rfl rfl rfl ?_
          refine a_s rfl rfl ?_
          refine a_s2 rfl rfl rfl rfl rfl rfl ?_
          refine a_i4 rfl rfl rfl ?_
          refine a_goto rfl ?_
          exact ih12 _ _ _ _ c15 ⟨_, rfl, rfl⟩ ⟨rfl, rfl, rfl, rfl, nS _, trivial⟩
theorem q_X11_fault_200 {S : aS} {I : Nat → Nat → Int32} {L : Nat → Nat → Int64} {w1 w2 t : Nat} : Sp S m_X11_fault 12 0 0 [.ref 200] (hp I L w1 w2 t) (QE isI (hp I L w1 w2 t)) nX := by
  refine Sp_of ok_X11_fault rfl rfl ?_
  show AW S m_X11_fault 12 _ _ 0 0 0 [some (.ref 200)] [] (hp I L w1 w2 t)
  refine a_l0 rfl rfl rfl ?_
  refine a_geti rfl gfX11_30_11 rfl ?_
  exact a_iret rfl rfl ⟨⟨_, rfl⟩, rfl⟩
theorem q_X5_isReady_235 {S : aS} {I : Nat → Nat → Int32} {L : Nat → Nat → Int64} {w1 w2 t : Nat} {x1 : Int32} : Sp S m_X5_isReady 14 0 0 [.ref 235, .int x1] (hp I L w1 w2 t) (QE isZ (hp I L w1 w2 t)) nX := by
  refine Sp_of ok_X5_isReady rfl rfl ?_
  show AW S m_X5_isReady 14 _ _ 0 0 0 [some (.ref 235), some (.int x1)] [] (hp I L w1 w2 t)
  refine a_l0 rfl rfl rfl ?_
  refine a_l1 rfl rfl rfl ?_
  refine a_gV rfl lX5_90 mo_X5_isWaiting (q_X5_isWaiting_235) rfl rfl rfl ⟨5, _, rfl, rfl, rfl⟩ rfl (fun v' h' hv => ?_)
  obtain ⟨⟨v1, rfl⟩, rfl⟩ := hv
  refine a_if_eq rfl (fun c5 => ?_) (fun c5 => ?_)
  · refine a_s rfl rfl ?_
    exact a_zret rfl rfl rfl ⟨⟨false, rfl⟩, rfl⟩
  · refine a_l0 rfl rfl rfl ?_
    refine a_l1 rfl rfl rfl ?_
    refine a_gV rfl lX5_94 mo_X5_leansFreely (q_X5_leansFreely_235) rfl rfl rfl ⟨5, _, rfl, rfl, rfl⟩ rfl (fun v' h' hv => ?_)
    obtain ⟨⟨v2, rfl⟩, rfl⟩ := hv
    refine a_if_eq rfl (fun c13 => ?_) (fun c13 => ?_)
    · refine a_s rfl rfl ?_
      exact a_zret rfl rfl rfl ⟨⟨false, rfl⟩, rfl⟩
    · refine a_s rfl rfl ?_
      refine a_goto rfl ?_
      exact a_zret rfl rfl rfl ⟨⟨true, rfl⟩, rfl⟩
theorem q_X5_readyBits_235 {S : aS} {I : Nat → Nat → Int32} {L : Nat → Nat → Int64} {w1 w2 t : Nat} : Sp S m_X5_readyBits 15 0 0 [.ref 235] (hp I L w1 w2 t) (QE isI (hp I L w1 w2 t)) nX := by
  refine Sp_of ok_X5_readyBits rfl rfl ?_
  show AW S m_X5_readyBits 15 _ _ 0 0 0 [some (.ref 235), none, none] [] (hp I L w1 w2 t)
  refine a_s rfl rfl ?_
  refine a_s1 rfl rfl rfl rfl rfl rfl ?_
  refine a_s rfl rfl ?_
  refine a_s2 rfl rfl rfl rfl rfl rfl ?_
  refine a_cnt (j0 := 0) (fun j ls h => ∃ a0, ls = [some (.ref 235), some (.int a0), some (.int (nI j))] ∧ h = hp I L w1 w2 t) (by decide) ⟨_, rfl, rfl⟩ ⟨rfl, rfl, rfl, trivial⟩ ?_
  rintro j4 _ _ hj4 ⟨a0_4, rfl, rfl⟩ ih4
  refine a_l2 rfl rfl rfl ?_
  refine a_l0 rfl rfl rfl ?_
  refine a_geti rfl gfX5_63_5 rfl ?_
  refine a_ic_ge rfl (fun c9 => ?_) (fun c9 => ?_)
  · refine a_l1 rfl rfl rfl ?_
    exact a_iret rfl rfl ⟨⟨_, rfl⟩, rfl⟩
  · refine a_l0 rfl rfl rfl ?_
    refine a_l2 rfl rfl rfl ?_
    refine a_gV rfl lX5_101 mo_X5_isReady (q_X5_isReady_235) rfl rfl rfl ⟨5, _, rfl, rfl, rfl⟩ rfl (fun v' h' hv => ?_)
    obtain ⟨⟨v1, rfl⟩, rfl⟩ := hv
    refine a_if_eq rfl (fun c17 => ?_) (fun c17 => ?_)
    · refine a_i2 rfl rfl rfl ?_
      refine a_goto rfl ?_
      exact ih4 _ _ _ _ c9 ⟨_, rfl, rfl⟩ ⟨rfl, rfl, nS _, trivial⟩
    · refine a_l1 rfl rfl rfl ?_
      refine a_l2 rfl rfl rfl ?_
      refine a_eSN1 rfl lX5_97 mo_X11_bit (sp_X11_bit) rfl rfl rfl rfl ?_
      refine a_s rfl rfl ?_
      refine a_s1 rfl rfl rfl rfl rfl rfl ?_
      refine a_i2 rfl rfl rfl ?_
      refine a_goto rfl ?_
      exact ih4 _ _ _ _ c9 ⟨_, rfl, rfl⟩ ⟨rfl, rfl, nS _, trivial⟩
theorem q_X11_shameOfWaiting_200_235 {S : aS} {I : Nat → Nat → Int32} {L : Nat → Nat → Int64} {w1 w2 t : Nat} : Sp S m_X11_shameOfWaiting 17 0 0 [.ref 200, .ref 235] (hp I L w1 w2 t) (QR (Fm sQ I) isI L w1 w2 t) nX := by
  refine Sp_of ok_X11_shameOfWaiting rfl rfl ?_
  show AW S m_X11_shameOfWaiting 17 _ _ 0 0 0 [some (.ref 200), some (.ref 235)] [] (hp I L w1 w2 t)
  refine a_l0 rfl rfl rfl ?_
  refine a_getq rfl gfX11_44_11 rfl (rfl) ?_
  refine a_l1 rfl rfl rfl ?_
  refine a_l1 rfl rfl rfl ?_
  refine a_s rfl rfl ?_
  refine a_gV rfl lX11_200 mo_X5_bitsIn (q_X5_bitsIn_235) rfl rfl rfl ⟨5, _, rfl, rfl, rfl⟩ rfl (fun v' h' hv => ?_)
  obtain ⟨⟨v1, rfl⟩, rfl⟩ := hv
  refine a_gV rfl lX11_282 mo_X2_shameOfSet (q_X2_shameOfSet_246_235) rfl rfl rfl ⟨2, _, rfl, rfl, rfl⟩ rfl (fun v' h' hv => ?_)
  obtain ⟨⟨v2, rfl⟩, I3, rfl, f4⟩ := hv
  exact a_iret rfl rfl ⟨⟨_, rfl⟩, _, rfl, f4⟩
theorem q_X11_count_200 {S : aS} {I : Nat → Nat → Int32} {L : Nat → Nat → Int64} {w1 w2 t : Nat} {x1 : Int32} : Sp S m_X11_count 18 0 0 [.ref 200, .int x1] (hp I L w1 w2 t) (QR (Fm sQ I) isI L w1 w2 t) nX := by
  refine Sp_of ok_X11_count rfl rfl ?_
  show AW S m_X11_count 18 _ _ 0 0 0 [some (.ref 200), some (.int x1)] [] (hp I L w1 w2 t)
  refine a_l1 rfl rfl rfl ?_
  refine a_tswA rfl (by decide) (by decide) (fun hx => ?_) (fun i o ho hx => ?_)
  · refine a_pc (pc' := 199) (by decide) ?_
    refine a_s rfl rfl ?_
    exact a_iret rfl rfl ⟨⟨_, rfl⟩, _, rfl, Fm.rf⟩
  · rcases i with _ | _ | _ | _ | _ | _ | _ | _ | _ | _ | _ | _ | _ | _ | _ | i
    · cases ho
      refine a_pc (pc' := 76) (by decide) ?_
      refine a_l0 rfl rfl rfl ?_
      refine a_getq rfl gfX11_37_11 rfl (rfl) ?_
      refine a_geti rfl gfX11_179_5 rfl ?_
      exact a_iret rfl rfl ⟨⟨_, rfl⟩, _, rfl, Fm.rf⟩
    · cases ho
      refine a_pc (pc' := 84) (by decide) ?_
      refine a_l0 rfl rfl rfl ?_
      refine a_getq rfl gfX11_37_11 rfl (rfl) ?_
      refine a_geti rfl gfX11_182_5 rfl ?_
      exact a_iret rfl rfl ⟨⟨_, rfl⟩, _, rfl, Fm.rf⟩
    · cases ho
      refine a_pc (pc' := 92) (by decide) ?_
      refine a_l0 rfl rfl rfl ?_
      refine a_getq rfl gfX11_37_11 rfl (rfl) ?_
      refine a_geti rfl gfX11_89_5 rfl ?_
      exact a_iret rfl rfl ⟨⟨_, rfl⟩, _, rfl, Fm.rf⟩
    · cases ho
      refine a_pc (pc' := 100) (by decide) ?_
      refine a_l0 rfl rfl rfl ?_
      refine a_getq rfl gfX11_44_11 rfl (rfl) ?_
      refine a_geti rfl gfX11_107_2 rfl ?_
      exact a_iret rfl rfl ⟨⟨_, rfl⟩, _, rfl, Fm.rf⟩
    · cases ho
      refine a_pc (pc' := 108) (by decide) ?_
      refine a_l0 rfl rfl rfl ?_
      refine a_getq rfl gfX11_37_11 rfl (rfl) ?_
      refine a_geti rfl gfX11_185_5 rfl ?_
      exact a_iret rfl rfl ⟨⟨_, rfl⟩, _, rfl, Fm.rf⟩
    · cases ho
      refine a_pc (pc' := 116) (by decide) ?_
      refine a_l0 rfl rfl rfl ?_
      refine a_getq rfl gfX11_37_11 rfl (rfl) ?_
      refine a_geti rfl gfX11_188_5 rfl ?_
      exact a_iret rfl rfl ⟨⟨_, rfl⟩, _, rfl, Fm.rf⟩
    · cases ho
      refine a_pc (pc' := 124) (by decide) ?_
      refine a_l0 rfl rfl rfl ?_
      refine a_getq rfl gfX11_37_11 rfl (rfl) ?_
      refine a_geti rfl gfX11_191_5 rfl ?_
      exact a_iret rfl rfl ⟨⟨_, rfl⟩, _, rfl, Fm.rf⟩
    · cases ho
      refine a_pc (pc' := 132) (by decide) ?_
      refine a_l0 rfl rfl rfl ?_
      refine a_getq rfl gfX11_37_11 rfl (rfl) ?_
      refine a_geti rfl gfX11_194_5 rfl ?_
      exact a_iret rfl rfl ⟨⟨_, rfl⟩, _, rfl, Fm.rf⟩
    · cases ho
      refine a_pc (pc' := 140) (by decide) ?_
      refine a_l0 rfl rfl rfl ?_
      refine a_getq rfl gfX11_37_11 rfl (rfl) ?_
      refine a_geti rfl gfX11_197_5 rfl ?_
      exact a_iret rfl rfl ⟨⟨_, rfl⟩, _, rfl, Fm.rf⟩
    · cases ho
      refine a_pc (pc' := 148) (by decide) ?_
      refine a_l0 rfl rfl rfl ?_
      refine a_getq rfl gfX11_37_11 rfl (rfl) ?_
      refine a_s rfl rfl ?_
      refine a_gV rfl lX11_200 mo_X5_bitsIn (q_X5_bitsIn_235) rfl rfl rfl ⟨5, _, rfl, rfl, rfl⟩ rfl (fun v' h' hv => ?_)
      obtain ⟨⟨v1, rfl⟩, rfl⟩ := hv
      exact a_iret rfl rfl ⟨⟨_, rfl⟩, _, rfl, Fm.rf⟩
    · cases ho
      refine a_pc (pc' := 157) (by decide) ?_
      refine a_l0 rfl rfl rfl ?_
      refine a_getq rfl gfX11_37_11 rfl (rfl) ?_
      refine a_s rfl rfl ?_
      refine a_gV rfl lX11_200 mo_X5_bitsIn (q_X5_bitsIn_235) rfl rfl rfl ⟨5, _, rfl, rfl, rfl⟩ rfl (fun v' h' hv => ?_)
      obtain ⟨⟨v2, rfl⟩, rfl⟩ := hv
      exact a_iret rfl rfl ⟨⟨_, rfl⟩, _, rfl, Fm.rf⟩
    · cases ho
      refine a_pc (pc' := 166) (by decide) ?_
      refine a_l0 rfl rfl rfl ?_
      refine a_getq rfl gfX11_37_11 rfl (rfl) ?_
      refine a_gV rfl lX11_203 mo_X5_readyBits (q_X5_readyBits_235) rfl rfl rfl ⟨5, _, rfl, rfl, rfl⟩ rfl (fun v' h' hv => ?_)
      obtain ⟨⟨v3, rfl⟩, rfl⟩ := hv
      exact a_iret rfl rfl ⟨⟨_, rfl⟩, _, rfl, Fm.rf⟩
    · cases ho
      refine a_pc (pc' := 174) (by decide) ?_
      refine a_l0 rfl rfl rfl ?_
      refine a_l0 rfl rfl rfl ?_
      refine a_getq rfl gfX11_37_11 rfl (rfl) ?_
      refine a_gV rfl lX11_207 mo_X11_shameOfWaiting (q_X11_shameOfWaiting_200_235) rfl rfl rfl ⟨11, _, rfl, rfl, rfl⟩ rfl (fun v' h' hv => ?_)
      obtain ⟨⟨v4, rfl⟩, I5, rfl, f6⟩ := hv
      exact a_iret rfl rfl ⟨⟨_, rfl⟩, _, rfl, f6⟩
    · cases ho
      refine a_pc (pc' := 183) (by decide) ?_
      refine a_l0 rfl rfl rfl ?_
      refine a_getq rfl gfX11_37_11 rfl (rfl) ?_
      refine a_getq rfl gfX11_211_5 rfl (rfl) ?_
      refine a_geti rfl gfX11_215_1 rfl ?_
      exact a_iret rfl rfl ⟨⟨_, rfl⟩, _, rfl, Fm.rf⟩
    · cases ho
      refine a_pc (pc' := 194) (by decide) ?_
      refine a_l0 rfl rfl rfl ?_
      refine a_geti rfl gfX11_95_11 rfl ?_
      exact a_iret rfl rfl ⟨⟨_, rfl⟩, _, rfl, Fm.rf⟩
    · cases ho
theorem q_X5_placeOf_235 {S : aS} {I : Nat → Nat → Int32} {L : Nat → Nat → Int64} {w1 w2 t : Nat} {x1 : Int32} : Sp S m_X5_placeOf 14 0 0 [.ref 235, .int x1] (hp I L w1 w2 t) (QE isI (hp I L w1 w2 t)) nX := by
  refine Sp_of ok_X5_placeOf rfl rfl ?_
  show AW S m_X5_placeOf 14 _ _ 0 0 0 [some (.ref 235), some (.int x1), none, none, none, none] [] (hp I L w1 w2 t)
  refine a_l0 rfl rfl rfl ?_
  refine a_l1 rfl rfl rfl ?_
  refine a_gV rfl lX5_90 mo_X5_isWaiting (q_X5_isWaiting_235) rfl rfl rfl ⟨5, _, rfl, rfl, rfl⟩ rfl (fun v' h' hv => ?_)
  obtain ⟨⟨v1, rfl⟩, rfl⟩ := hv
  refine a_if_ne rfl (fun c5 => ?_) (fun c5 => ?_)
  · refine a_l0 rfl rfl rfl ?_
    refine a_getq rfl gfX5_24_5 rfl (rfl) ?_
    refine a_l1 rfl rfl rfl ?_
    refine a_eSN1 rfl lX5_86 mo_X11_at (sp_X11_at rfl) rfl rfl rfl rfl ?_
    refine a_s2 rfl rfl rfl rfl rfl rfl ?_
    refine a_s rfl rfl ?_
    refine a_s3 rfl rfl rfl rfl rfl rfl ?_
    refine a_s rfl rfl ?_
    refine a_s4 rfl rfl rfl rfl rfl rfl ?_
    refine a_cnt (j0 := 0) (fun j ls h => ∃ a0, ∃ a1, ls = [some (.ref 235), some (.int x1), some (.int a0), some (.int a1), some (.int (nI j)), none] ∧ h = hp I L w1 w2 t) (by decide) ⟨_, _, rfl, rfl⟩ ⟨rfl, rfl, rfl, rfl, rfl, trivial⟩ ?_
    rintro j24 _ _ hj24 ⟨a0_24, a1_24, rfl, rfl⟩ ih24
    refine a_l4 rfl rfl rfl ?_
    refine a_l0 rfl rfl rfl ?_
    refine a_geti rfl gfX5_63_5 rfl ?_
    refine a_ic_ge rfl (fun c30 => ?_) (fun c30 => ?_)
    · refine a_l3 rfl rfl rfl ?_
      exact a_iret rfl rfl ⟨⟨_, rfl⟩, rfl⟩
    · refine a_l0 rfl rfl rfl ?_
      refine a_getq rfl gfX5_24_5 rfl (rfl) ?_
      refine a_l4 rfl rfl rfl ?_
      refine a_eSN1 rfl lX5_86 mo_X11_at (sp_X11_at rfl) rfl rfl rfl rfl ?_
      refine a_s5 rfl rfl rfl rfl rfl rfl ?_
      refine a_l0 rfl rfl rfl ?_
      refine a_l4 rfl rfl rfl ?_
      refine a_gV rfl lX5_90 mo_X5_isWaiting (q_X5_isWaiting_235) rfl rfl rfl ⟨5, _, rfl, rfl, rfl⟩ rfl (fun v' h' hv => ?_)
      obtain ⟨⟨v2, rfl⟩, rfl⟩ := hv
      refine a_if_eq rfl (fun c50 => ?_) (fun c50 => ?_)
      · refine a_i4 rfl rfl rfl ?_
        refine a_goto rfl ?_
        exact ih24 _ _ _ _ c30 ⟨_, _, rfl, rfl⟩ ⟨rfl, rfl, rfl, rfl, nS _, trivial⟩
      · refine a_l5 rfl rfl rfl ?_
        refine a_l2 rfl rfl rfl ?_
        refine a_ic_lt rfl (fun c56 => ?_) (fun c56 => ?_)
        · refine a_i3 rfl rfl rfl ?_
          refine a_i4 rfl rfl rfl ?_
          refine a_goto rfl ?_
          exact ih24 _ _ _ _ c30 ⟨_, _, rfl, rfl⟩ ⟨rfl, rfl, rfl, rfl, nS _, trivial⟩
        · refine a_l5 rfl rfl rfl ?_
          refine a_l2 rfl rfl rfl ?_
          refine a_ic_ne rfl (fun c62 => ?_) (fun c62 => ?_)
          · refine a_i4 rfl rfl rfl ?_
            refine a_goto rfl ?_
            exact ih24 _ _ _ _ c30 ⟨_, _, rfl, rfl⟩ ⟨rfl, rfl, rfl, rfl, nS _, trivial⟩
          · refine a_l4 rfl rfl rfl ?_
            refine a_l1 rfl rfl rfl ?_
            refine a_ic_ge rfl (fun c68 => ?_) (fun c68 => ?_)
            · refine a_i4 rfl rfl rfl ?_
              refine a_goto rfl ?_
              exact ih24 _ _ _ _ c30 ⟨_, _, rfl, rfl⟩ ⟨rfl, rfl, rfl, rfl, nS _, trivial⟩
            · refine a_i3 rfl rfl rfl ?_
              refine a_i4 rfl rfl rfl ?_
              refine a_goto rfl ?_
              exact ih24 _ _ _ _ c30 ⟨_, _, rfl, rfl⟩ ⟨rfl, rfl, rfl, rfl, nS _, trivial⟩
  · refine a_s rfl rfl ?_
    exact a_iret rfl rfl ⟨⟨_, rfl⟩, rfl⟩
theorem q_X5_dutyAt_235 {S : aS} {I : Nat → Nat → Int32} {L : Nat → Nat → Int64} {w1 w2 t : Nat} {x1 : Int32} : Sp S m_X5_dutyAt 15 0 0 [.ref 235, .int x1] (hp I L w1 w2 t) (QE isI (hp I L w1 w2 t)) nX := by
  refine Sp_of ok_X5_dutyAt rfl rfl ?_
  show AW S m_X5_dutyAt 15 _ _ 0 0 0 [some (.ref 235), some (.int x1), none] [] (hp I L w1 w2 t)
  refine a_s rfl rfl ?_
  refine a_s2 rfl rfl rfl rfl rfl rfl ?_
  refine a_cnt (j0 := 0) (fun j ls h => ls = [some (.ref 235), some (.int x1), some (.int (nI j))] ∧ h = hp I L w1 w2 t) (by decide) ⟨rfl, rfl⟩ ⟨rfl, rfl, rfl, trivial⟩ ?_
  rintro j2 _ _ hj2 ⟨rfl, rfl⟩ ih2
  refine a_l2 rfl rfl rfl ?_
  refine a_l0 rfl rfl rfl ?_
  refine a_geti rfl gfX5_63_5 rfl ?_
  refine a_ic_ge rfl (fun c7 => ?_) (fun c7 => ?_)
  · refine a_s rfl rfl ?_
    exact a_iret rfl rfl ⟨⟨_, rfl⟩, rfl⟩
  · refine a_l0 rfl rfl rfl ?_
    refine a_l2 rfl rfl rfl ?_
    refine a_gV rfl lX5_90 mo_X5_isWaiting (q_X5_isWaiting_235) rfl rfl rfl ⟨5, _, rfl, rfl, rfl⟩ rfl (fun v' h' hv => ?_)
    obtain ⟨⟨v1, rfl⟩, rfl⟩ := hv
    refine a_if_eq rfl (fun c15 => ?_) (fun c15 => ?_)
    · refine a_i2 rfl rfl rfl ?_
      refine a_goto rfl ?_
      exact ih2 _ _ _ _ c7 ⟨rfl, rfl⟩ ⟨rfl, rfl, nS _, trivial⟩
    · refine a_l0 rfl rfl rfl ?_
      refine a_l2 rfl rfl rfl ?_
      refine a_gV rfl lX5_113 mo_X5_placeOf (q_X5_placeOf_235) rfl rfl rfl ⟨5, _, rfl, rfl, rfl⟩ rfl (fun v' h' hv => ?_)
      obtain ⟨⟨v2, rfl⟩, rfl⟩ := hv
      refine a_l1 rfl rfl rfl ?_
      refine a_ic_ne rfl (fun c24 => ?_) (fun c24 => ?_)
      · refine a_i2 rfl rfl rfl ?_
        refine a_goto rfl ?_
        exact ih2 _ _ _ _ c7 ⟨rfl, rfl⟩ ⟨rfl, rfl, nS _, trivial⟩
      · refine a_l2 rfl rfl rfl ?_
        exact a_iret rfl rfl ⟨⟨_, rfl⟩, rfl⟩
theorem q_X11_parade_200 {S : aS} {I : Nat → Nat → Int32} {L : Nat → Nat → Int64} {w1 w2 t : Nat} {x1 : Int32} : Sp S m_X11_parade 16 0 0 [.ref 200, .int x1] (hp I L w1 w2 t) (QE isI (hp I L w1 w2 t)) nX := by
  refine Sp_of ok_X11_parade rfl rfl ?_
  show AW S m_X11_parade 16 _ _ 0 0 0 [some (.ref 200), some (.int x1)] [] (hp I L w1 w2 t)
  refine a_l0 rfl rfl rfl ?_
  refine a_getq rfl gfX11_37_11 rfl (rfl) ?_
  refine a_l1 rfl rfl rfl ?_
  refine a_gV rfl lX11_266 mo_X5_dutyAt (q_X5_dutyAt_235) rfl rfl rfl ⟨5, _, rfl, rfl, rfl⟩ rfl (fun v' h' hv => ?_)
  obtain ⟨⟨v1, rfl⟩, rfl⟩ := hv
  exact a_iret rfl rfl ⟨⟨_, rfl⟩, rfl⟩
theorem q_X5_passesOf_235 {S : aS} {I : Nat → Nat → Int32} {L : Nat → Nat → Int64} {w1 w2 t : Nat} {x1 : Int32} : Sp S m_X5_passesOf 15 0 0 [.ref 235, .int x1] (hp I L w1 w2 t) (QE isI (hp I L w1 w2 t)) nX := by
  refine Sp_of ok_X5_passesOf rfl rfl ?_
  show AW S m_X5_passesOf 15 _ _ 0 0 0 [some (.ref 235), some (.int x1), none] [] (hp I L w1 w2 t)
  refine a_l0 rfl rfl rfl ?_
  refine a_l1 rfl rfl rfl ?_
  refine a_gV rfl lX5_90 mo_X5_isWaiting (q_X5_isWaiting_235) rfl rfl rfl ⟨5, _, rfl, rfl, rfl⟩ rfl (fun v' h' hv => ?_)
  obtain ⟨⟨v1, rfl⟩, rfl⟩ := hv
  refine a_if_ne rfl (fun c5 => ?_) (fun c5 => ?_)
  · refine a_l0 rfl rfl rfl ?_
    refine a_s rfl rfl ?_
    refine a_gV rfl lX5_104 mo_X5_bitsIn (q_X5_bitsIn_235) rfl rfl rfl ⟨5, _, rfl, rfl, rfl⟩ rfl (fun v' h' hv => ?_)
    obtain ⟨⟨v2, rfl⟩, rfl⟩ := hv
    refine a_l0 rfl rfl rfl ?_
    refine a_l0 rfl rfl rfl ?_
    refine a_getq rfl gfX5_24_5 rfl (rfl) ?_
    refine a_l1 rfl rfl rfl ?_
    refine a_eSN1 rfl lX5_86 mo_X11_at (sp_X11_at rfl) rfl rfl rfl rfl ?_
    refine a_gV rfl lX5_116 mo_X5_olderThan (q_X5_olderThan_235) rfl rfl rfl ⟨5, _, rfl, rfl, rfl⟩ rfl (fun v' h' hv => ?_)
    obtain ⟨⟨v3, rfl⟩, rfl⟩ := hv
    refine a_s rfl rfl ?_
    refine a_s rfl rfl ?_
    refine a_s rfl rfl ?_
    refine a_s2 rfl rfl rfl rfl rfl rfl ?_
    refine a_l0 rfl rfl rfl ?_
    refine a_geti rfl gfX5_40_5 rfl ?_
    refine a_l2 rfl rfl rfl ?_
    refine a_eS1 rfl lX5_119 mo_J6_bitCount_0f7a4 (sp_bitCount) rfl rfl rfl rfl ?_
    refine a_s rfl rfl ?_
    exact a_iret rfl rfl ⟨⟨_, rfl⟩, rfl⟩
  · refine a_s rfl rfl ?_
    exact a_iret rfl rfl ⟨⟨_, rfl⟩, rfl⟩
theorem q_X5_canBits_235 {S : aS} {I : Nat → Nat → Int32} {L : Nat → Nat → Int64} {w1 w2 t : Nat} : Sp S m_X5_canBits 16 0 0 [.ref 235] (hp I L w1 w2 t) (QE isI (hp I L w1 w2 t)) nX := by
  refine Sp_of ok_X5_canBits rfl rfl ?_
  show AW S m_X5_canBits 16 _ _ 0 0 0 [some (.ref 235), none, none] [] (hp I L w1 w2 t)
  refine a_s rfl rfl ?_
  refine a_s1 rfl rfl rfl rfl rfl rfl ?_
  refine a_s rfl rfl ?_
  refine a_s2 rfl rfl rfl rfl rfl rfl ?_
  refine a_cnt (j0 := 0) (fun j ls h => ∃ a0, ls = [some (.ref 235), some (.int a0), some (.int (nI j))] ∧ h = hp I L w1 w2 t) (by decide) ⟨_, rfl, rfl⟩ ⟨rfl, rfl, rfl, trivial⟩ ?_
  rintro j4 _ _ hj4 ⟨a0_4, rfl, rfl⟩ ih4
  refine a_l2 rfl rfl rfl ?_
  refine a_l0 rfl rfl rfl ?_
  refine a_geti rfl gfX5_63_5 rfl ?_
  refine a_ic_ge rfl (fun c9 => ?_) (fun c9 => ?_)
  · refine a_l1 rfl rfl rfl ?_
    exact a_iret rfl rfl ⟨⟨_, rfl⟩, rfl⟩
  · refine a_l0 rfl rfl rfl ?_
    refine a_l2 rfl rfl rfl ?_
    refine a_gV rfl lX5_101 mo_X5_isReady (q_X5_isReady_235) rfl rfl rfl ⟨5, _, rfl, rfl, rfl⟩ rfl (fun v' h' hv => ?_)
    obtain ⟨⟨v1, rfl⟩, rfl⟩ := hv
    refine a_if_eq rfl (fun c17 => ?_) (fun c17 => ?_)
    · refine a_i2 rfl rfl rfl ?_
      refine a_goto rfl ?_
      exact ih4 _ _ _ _ c9 ⟨_, rfl, rfl⟩ ⟨rfl, rfl, nS _, trivial⟩
    · refine a_l0 rfl rfl rfl ?_
      refine a_getq rfl gfX5_21_5 rfl (rfl) ?_
      refine a_l2 rfl rfl rfl ?_
      refine a_eSN1 rfl lX5_86 mo_X11_at (sp_X11_at rfl) rfl rfl rfl rfl ?_
      refine a_l0 rfl rfl rfl ?_
      refine a_l2 rfl rfl rfl ?_
      refine a_gV rfl lX5_124 mo_X5_passesOf (q_X5_passesOf_235) rfl rfl rfl ⟨5, _, rfl, rfl, rfl⟩ rfl (fun v' h' hv => ?_)
      obtain ⟨⟨v2, rfl⟩, rfl⟩ := hv
      refine a_ic_gt rfl (fun c33 => ?_) (fun c33 => ?_)
      · refine a_i2 rfl rfl rfl ?_
        refine a_goto rfl ?_
        exact ih4 _ _ _ _ c9 ⟨_, rfl, rfl⟩ ⟨rfl, rfl, nS _, trivial⟩
      · refine a_l1 rfl rfl rfl ?_
        refine a_l2 rfl rfl rfl ?_
        refine a_eSN1 rfl lX5_97 mo_X11_bit (sp_X11_bit) rfl rfl rfl rfl ?_
        refine a_s rfl rfl ?_
        refine a_s1 rfl rfl rfl rfl rfl rfl ?_
        refine a_i2 rfl rfl rfl ?_
        refine a_goto rfl ?_
        exact ih4 _ _ _ _ c9 ⟨_, rfl, rfl⟩ ⟨rfl, rfl, nS _, trivial⟩
theorem q_X11_can_200 {S : aS} {I : Nat → Nat → Int32} {L : Nat → Nat → Int64} {w1 w2 t : Nat} : Sp S m_X11_can 17 0 0 [.ref 200] (hp I L w1 w2 t) (QE isI (hp I L w1 w2 t)) nX := by
  refine Sp_of ok_X11_can rfl rfl ?_
  show AW S m_X11_can 17 _ _ 0 0 0 [some (.ref 200)] [] (hp I L w1 w2 t)
  refine a_l0 rfl rfl rfl ?_
  refine a_getq rfl gfX11_37_11 rfl (rfl) ?_
  refine a_gV rfl lX11_220 mo_X5_canBits (q_X5_canBits_235) rfl rfl rfl ⟨5, _, rfl, rfl, rfl⟩ rfl (fun v' h' hv => ?_)
  obtain ⟨⟨v1, rfl⟩, rfl⟩ := hv
  exact a_iret rfl rfl ⟨⟨_, rfl⟩, rfl⟩
theorem q_X11_ring_200 {S : aS} {I : Nat → Nat → Int32} {L : Nat → Nat → Int64} {w1 w2 t : Nat} : Sp S m_X11_ring 15 0 0 [.ref 200] (hp I L w1 w2 t) (QE isI (hp I L w1 w2 t)) nX := by
  refine Sp_of ok_X11_ring rfl rfl ?_
  show AW S m_X11_ring 15 _ _ 0 0 0 [some (.ref 200)] [] (hp I L w1 w2 t)
  refine a_l0 rfl rfl rfl ?_
  refine a_getq rfl gfX11_37_11 rfl (rfl) ?_
  refine a_gS rfl lX11_295 mo_X4_ringBits (q_X4_ringBits_235) rfl rfl rfl rfl (fun v' h' hv => ?_)
  obtain ⟨⟨v1, rfl⟩, rfl⟩ := hv
  exact a_iret rfl rfl ⟨⟨_, rfl⟩, rfl⟩
theorem q_X11_longest_200 {S : aS} {I : Nat → Nat → Int32} {L : Nat → Nat → Int64} {w1 w2 t : Nat} : Sp S m_X11_longest 17 0 0 [.ref 200] (hp I L w1 w2 t) (QE isI (hp I L w1 w2 t)) nX := by
  refine Sp_of ok_X11_longest rfl rfl ?_
  show AW S m_X11_longest 17 _ _ 0 0 0 [some (.ref 200), none, none] [] (hp I L w1 w2 t)
  refine a_s rfl rfl ?_
  refine a_s1 rfl rfl rfl rfl rfl rfl ?_
  refine a_s rfl rfl ?_
  refine a_s2 rfl rfl rfl rfl rfl rfl ?_
  refine a_cnt (j0 := 0) (fun j ls h => ∃ a0, ls = [some (.ref 200), some (.int a0), some (.int (nI j))] ∧ h = hp I L w1 w2 t) (by decide) ⟨_, rfl, rfl⟩ ⟨rfl, rfl, rfl, trivial⟩ ?_
  rintro j4 _ _ hj4 ⟨a0_4, rfl, rfl⟩ ih4
  refine a_l2 rfl rfl rfl ?_
  refine a_l0 rfl rfl rfl ?_
  refine a_getq rfl gfX11_37_11 rfl (rfl) ?_
  refine a_geti rfl gfX11_182_5 rfl ?_
  refine a_ic_ge rfl (fun c12 => ?_) (fun c12 => ?_)
  · refine a_l1 rfl rfl rfl ?_
    exact a_iret rfl rfl ⟨⟨_, rfl⟩, rfl⟩
  · refine a_l1 rfl rfl rfl ?_
    refine a_l0 rfl rfl rfl ?_
    refine a_getq rfl gfX11_37_11 rfl (rfl) ?_
    refine a_l2 rfl rfl rfl ?_
    refine a_gS rfl lX11_285 mo_X4_hoursTill (q_X4_hoursTill_235) rfl rfl rfl rfl (fun v' h' hv => ?_)
    obtain ⟨⟨v1, rfl⟩, rfl⟩ := hv
    refine a_max rfl lX11_290 mj_max rfl rfl ?_
    refine a_s1 rfl rfl rfl rfl rfl rfl ?_
    refine a_i2 rfl rfl rfl ?_
    refine a_goto rfl ?_
    exact ih4 _ _ _ _ c12 ⟨_, rfl, rfl⟩ ⟨rfl, rfl, nS _, trivial⟩
theorem q_X11_isGap_200 {S : aS} {I : Nat → Nat → Int32} {L : Nat → Nat → Int64} {w1 w2 t : Nat} {x1 : Int32} : Sp S m_X11_isGap 15 0 0 [.ref 200, .int x1] (hp I L w1 w2 t) (QE isZ (hp I L w1 w2 t)) nX := by
  refine Sp_of ok_X11_isGap rfl rfl ?_
  show AW S m_X11_isGap 15 _ _ 0 0 0 [some (.ref 200), some (.int x1), none] [] (hp I L w1 w2 t)
  refine a_l1 rfl rfl rfl ?_
  refine a_if_lt rfl (fun c1 => ?_) (fun c1 => ?_)
  · refine a_s rfl rfl ?_
    exact a_zret rfl rfl rfl ⟨⟨false, rfl⟩, rfl⟩
  · refine a_l1 rfl rfl rfl ?_
    refine a_s rfl rfl ?_
    refine a_ic_ge rfl (fun c7 => ?_) (fun c7 => ?_)
    · refine a_s rfl rfl ?_
      exact a_zret rfl rfl rfl ⟨⟨false, rfl⟩, rfl⟩
    · refine a_l0 rfl rfl rfl ?_
      refine a_getq rfl gfX11_37_11 rfl (rfl) ?_
      refine a_l1 rfl rfl rfl ?_
      refine a_gV rfl lX11_307 mo_X5_olderThan (q_X5_olderThan_235) rfl rfl rfl ⟨5, _, rfl, rfl, rfl⟩ rfl (fun v' h' hv => ?_)
      obtain ⟨⟨v1, rfl⟩, rfl⟩ := hv
      refine a_if_ne rfl (fun c18 => ?_) (fun c18 => ?_)
      · refine a_s rfl rfl ?_
        refine a_s2 rfl rfl rfl rfl rfl rfl ?_
        refine a_cnt (j0 := 0) (fun j ls h => ls = [some (.ref 200), some (.int x1), some (.int (nI j))] ∧ h = hp I L w1 w2 t) (by decide) ⟨rfl, rfl⟩ ⟨rfl, rfl, rfl, trivial⟩ ?_
        rintro j25 _ _ hj25 ⟨rfl, rfl⟩ ih25
        refine a_l2 rfl rfl rfl ?_
        refine a_l0 rfl rfl rfl ?_
        refine a_getq rfl gfX11_37_11 rfl (rfl) ?_
        refine a_geti rfl gfX11_182_5 rfl ?_
        refine a_ic_ge rfl (fun c33 => ?_) (fun c33 => ?_)
        · refine a_s rfl rfl ?_
          exact a_zret rfl rfl rfl ⟨⟨true, rfl⟩, rfl⟩
        · refine a_l0 rfl rfl rfl ?_
          refine a_getq rfl gfX11_37_11 rfl (rfl) ?_
          refine a_l2 rfl rfl rfl ?_
          refine a_gV rfl lX11_329 mo_X5_isWaiting (q_X5_isWaiting_235) rfl rfl rfl ⟨5, _, rfl, rfl, rfl⟩ rfl (fun v' h' hv => ?_)
          obtain ⟨⟨v2, rfl⟩, rfl⟩ := hv
          refine a_if_eq rfl (fun c44 => ?_) (fun c44 => ?_)
          · refine a_i2 rfl rfl rfl ?_
            refine a_goto rfl ?_
            exact ih25 _ _ _ _ c33 ⟨rfl, rfl⟩ ⟨rfl, rfl, nS _, trivial⟩
          · refine a_l0 rfl rfl rfl ?_
            refine a_getq rfl gfX11_37_11 rfl (rfl) ?_
            refine a_getq rfl gfX11_150_5 rfl (rfl) ?_
            refine a_l2 rfl rfl rfl ?_
            refine a_eS1 rfl lX11_117 mo_X11_at (sp_X11_at rfl) rfl rfl rfl rfl ?_
            refine a_l1 rfl rfl rfl ?_
            refine a_ic_ne rfl (fun c59 => ?_) (fun c59 => ?_)
            · refine a_i2 rfl rfl rfl ?_
              refine a_goto rfl ?_
              exact ih25 _ _ _ _ c33 ⟨rfl, rfl⟩ ⟨rfl, rfl, nS _, trivial⟩
            · refine a_s rfl rfl ?_
              exact a_zret rfl rfl rfl ⟨⟨false, rfl⟩, rfl⟩
      · refine a_s rfl rfl ?_
        exact a_zret rfl rfl rfl ⟨⟨false, rfl⟩, rfl⟩
theorem q_X11_gap_200 {S : aS} {I : Nat → Nat → Int32} {L : Nat → Nat → Int64} {w1 w2 t : Nat} : Sp S m_X11_gap 16 0 0 [.ref 200] (hp I L w1 w2 t) (QE isI (hp I L w1 w2 t)) nX := by
  refine Sp_of ok_X11_gap rfl rfl ?_
  show AW S m_X11_gap 16 _ _ 0 0 0 [some (.ref 200), none] [] (hp I L w1 w2 t)
  refine a_s rfl rfl ?_
  refine a_s1 rfl rfl rfl rfl rfl rfl ?_
  refine a_cnt (j0 := 0) (fun j ls h => ls = [some (.ref 200), some (.int (nI j))] ∧ h = hp I L w1 w2 t) (by decide) ⟨rfl, rfl⟩ ⟨rfl, rfl, trivial⟩ ?_
  rintro j2 _ _ hj2 ⟨rfl, rfl⟩ ih2
  refine a_l1 rfl rfl rfl ?_
  refine a_s rfl rfl ?_
  refine a_ic_ge rfl (fun c5 => ?_) (fun c5 => ?_)
  · refine a_s rfl rfl ?_
    exact a_iret rfl rfl ⟨⟨_, rfl⟩, rfl⟩
  · refine a_l0 rfl rfl rfl ?_
    refine a_l1 rfl rfl rfl ?_
    refine a_gV rfl lX11_316 mo_X11_isGap (q_X11_isGap_200) rfl rfl rfl ⟨11, _, rfl, rfl, rfl⟩ rfl (fun v' h' hv => ?_)
    obtain ⟨⟨v1, rfl⟩, rfl⟩ := hv
    refine a_if_eq rfl (fun c13 => ?_) (fun c13 => ?_)
    · refine a_i1 rfl rfl rfl ?_
      refine a_goto rfl ?_
      exact ih2 _ _ _ _ c5 ⟨rfl, rfl⟩ ⟨rfl, nS _, trivial⟩
    · refine a_l1 rfl rfl rfl ?_
      exact a_iret rfl rfl ⟨⟨_, rfl⟩, rfl⟩
theorem q_X11_lost_200 {S : aS} {I : Nat → Nat → Int32} {L : Nat → Nat → Int64} {w1 w2 t : Nat} : Sp S m_X11_lost 14 0 0 [.ref 200] (hp I L w1 w2 t) (QE isI (hp I L w1 w2 t)) nX := by
  refine Sp_of ok_X11_lost rfl rfl ?_
  show AW S m_X11_lost 14 _ _ 0 0 0 [some (.ref 200)] [] (hp I L w1 w2 t)
  refine a_l0 rfl rfl rfl ?_
  refine a_getq rfl gfX11_37_11 rfl (rfl) ?_
  refine a_s rfl rfl ?_
  refine a_gV rfl lX11_200 mo_X5_bitsIn (q_X5_bitsIn_235) rfl rfl rfl ⟨5, _, rfl, rfl, rfl⟩ rfl (fun v' h' hv => ?_)
  obtain ⟨⟨v1, rfl⟩, rfl⟩ := hv
  exact a_iret rfl rfl ⟨⟨_, rfl⟩, rfl⟩
theorem q_X11_missed_200 {S : aS} {I : Nat → Nat → Int32} {L : Nat → Nat → Int64} {w1 w2 t : Nat} : Sp S m_X11_missed 16 0 0 [.ref 200] (hp I L w1 w2 t) (QE isI (hp I L w1 w2 t)) nX := by
  refine Sp_of ok_X11_missed rfl rfl ?_
  show AW S m_X11_missed 16 _ _ 0 0 0 [some (.ref 200), none, none] [] (hp I L w1 w2 t)
  refine a_s rfl rfl ?_
  refine a_s1 rfl rfl rfl rfl rfl rfl ?_
  refine a_s rfl rfl ?_
  refine a_s2 rfl rfl rfl rfl rfl rfl ?_
  refine a_cnt (j0 := 0) (fun j ls h => ∃ a0, ls = [some (.ref 200), some (.int a0), some (.int (nI j))] ∧ h = hp I L w1 w2 t) (by decide) ⟨_, rfl, rfl⟩ ⟨rfl, rfl, rfl, trivial⟩ ?_
  rintro j4 _ _ hj4 ⟨a0_4, rfl, rfl⟩ ih4
  refine a_l2 rfl rfl rfl ?_
  refine a_l0 rfl rfl rfl ?_
  refine a_getq rfl gfX11_37_11 rfl (rfl) ?_
  refine a_geti rfl gfX11_182_5 rfl ?_
  refine a_ic_ge rfl (fun c12 => ?_) (fun c12 => ?_)
  · refine a_l1 rfl rfl rfl ?_
    exact a_iret rfl rfl ⟨⟨_, rfl⟩, rfl⟩
  · refine a_l0 rfl rfl rfl ?_
    refine a_getq rfl gfX11_37_11 rfl (rfl) ?_
    refine a_getq rfl gfX11_159_5 rfl (rfl) ?_
    refine a_l2 rfl rfl rfl ?_
    refine a_eS1 rfl lX11_117 mo_X11_at (sp_X11_at rfl) rfl rfl rfl rfl ?_
    refine a_s rfl rfl ?_
    refine a_ic_ne rfl (fun c27 => ?_) (fun c27 => ?_)
    · refine a_i2 rfl rfl rfl ?_
      refine a_goto rfl ?_
      exact ih4 _ _ _ _ c12 ⟨_, rfl, rfl⟩ ⟨rfl, rfl, nS _, trivial⟩
    · refine a_l0 rfl rfl rfl ?_
      refine a_l0 rfl rfl rfl ?_
      refine a_getq rfl gfX11_37_11 rfl (rfl) ?_
      refine a_getq rfl gfX11_150_5 rfl (rfl) ?_
      refine a_l2 rfl rfl rfl ?_
      refine a_eS1 rfl lX11_117 mo_X11_at (sp_X11_at rfl) rfl rfl rfl rfl ?_
      refine a_gV rfl lX11_316 mo_X11_isGap (q_X11_isGap_200) rfl rfl rfl ⟨11, _, rfl, rfl, rfl⟩ rfl (fun v' h' hv => ?_)
      obtain ⟨⟨v1, rfl⟩, rfl⟩ := hv
      refine a_if_eq rfl (fun c45 => ?_) (fun c45 => ?_)
      · refine a_i2 rfl rfl rfl ?_
        refine a_goto rfl ?_
        exact ih4 _ _ _ _ c12 ⟨_, rfl, rfl⟩ ⟨rfl, rfl, nS _, trivial⟩
      · refine a_l1 rfl rfl rfl ?_
        refine a_l2 rfl rfl rfl ?_
        refine a_eS1 rfl lX11_319 mo_X11_bit (sp_X11_bit) rfl rfl rfl rfl ?_
        refine a_s rfl rfl ?_
        refine a_s1 rfl rfl rfl rfl rfl rfl ?_
        refine a_i2 rfl rfl rfl ?_
        refine a_goto rfl ?_
        exact ih4 _ _ _ _ c12 ⟨_, rfl, rfl⟩ ⟨rfl, rfl, nS _, trivial⟩
theorem q_X11_sponsor_200 {S : aS} {I : Nat → Nat → Int32} {L : Nat → Nat → Int64} {w1 w2 t : Nat} : Sp S m_X11_sponsor 14 0 0 [.ref 200] (hp I L w1 w2 t) (QE isI (hp I L w1 w2 t)) nX := by
  refine Sp_of ok_X11_sponsor rfl rfl ?_
  show AW S m_X11_sponsor 14 _ _ 0 0 0 [some (.ref 200), none, none] [] (hp I L w1 w2 t)
  refine a_s rfl rfl ?_
  refine a_s1 rfl rfl rfl rfl rfl rfl ?_
  refine a_s rfl rfl ?_
  refine a_s2 rfl rfl rfl rfl rfl rfl ?_
  refine a_cnt (j0 := 0) (fun j ls h => ∃ a0, ls = [some (.ref 200), some (.int a0), some (.int (nI j))] ∧ h = hp I L w1 w2 t) (by decide) ⟨_, rfl, rfl⟩ ⟨rfl, rfl, rfl, trivial⟩ ?_
  rintro j4 _ _ hj4 ⟨a0_4, rfl, rfl⟩ ih4
  refine a_l2 rfl rfl rfl ?_
  refine a_l0 rfl rfl rfl ?_
  refine a_getq rfl gfX11_37_11 rfl (rfl) ?_
  refine a_geti rfl gfX11_182_5 rfl ?_
  refine a_ic_ge rfl (fun c12 => ?_) (fun c12 => ?_)
  · refine a_l1 rfl rfl rfl ?_
    exact a_iret rfl rfl ⟨⟨_, rfl⟩, rfl⟩
  · refine a_l0 rfl rfl rfl ?_
    refine a_getq rfl gfX11_37_11 rfl (rfl) ?_
    refine a_l2 rfl rfl rfl ?_
    refine a_gV rfl lX11_329 mo_X5_isWaiting (q_X5_isWaiting_235) rfl rfl rfl ⟨5, _, rfl, rfl, rfl⟩ rfl (fun v' h' hv => ?_)
    obtain ⟨⟨v1, rfl⟩, rfl⟩ := hv
    refine a_if_eq rfl (fun c23 => ?_) (fun c23 => ?_)
    · refine a_i2 rfl rfl rfl ?_
      refine a_goto rfl ?_
      exact ih4 _ _ _ _ c12 ⟨_, rfl, rfl⟩ ⟨rfl, rfl, nS _, trivial⟩
    · refine a_l1 rfl rfl rfl ?_
      refine a_s rfl rfl ?_
      refine a_l0 rfl rfl rfl ?_
      refine a_getq rfl gfX11_37_11 rfl (rfl) ?_
      refine a_geti rfl gfX11_197_5 rfl ?_
      refine a_l0 rfl rfl rfl ?_
      refine a_getq rfl gfX11_37_11 rfl (rfl) ?_
      refine a_getq rfl gfX11_150_5 rfl (rfl) ?_
      refine a_l2 rfl rfl rfl ?_
      refine a_eS1 rfl lX11_117 mo_X11_at (sp_X11_at rfl) rfl rfl rfl rfl ?_
      refine a_s rfl rfl ?_
      refine a_l0 rfl rfl rfl ?_
      refine a_getq rfl gfX11_37_11 rfl (rfl) ?_
      refine a_getq rfl gfX11_147_5 rfl (rfl) ?_
      refine a_l2 rfl rfl rfl ?_
      refine a_eS1 rfl lX11_117 mo_X11_at (sp_X11_at rfl) rfl rfl rfl rfl ?_
      refine a_s rfl rfl ?_
      refine a_max rfl lX11_290 mj_max rfl rfl ?_
      refine a_s rfl rfl ?_
      refine a_s1 rfl rfl rfl rfl rfl rfl ?_
      refine a_i2 rfl rfl rfl ?_
      refine a_goto rfl ?_
      exact ih4 _ _ _ _ c12 ⟨_, rfl, rfl⟩ ⟨rfl, rfl, nS _, trivial⟩
theorem q_X11_idle_200 {S : aS} {I : Nat → Nat → Int32} {L : Nat → Nat → Int64} {w1 w2 t : Nat} : Sp S m_X11_idle 15 0 0 [.ref 200] (hp I L w1 w2 t) (QE isI (hp I L w1 w2 t)) nX := by
  refine Sp_of ok_X11_idle rfl rfl ?_
  show AW S m_X11_idle 15 _ _ 0 0 0 [some (.ref 200), none, none, none, none] [] (hp I L w1 w2 t)
  refine a_s rfl rfl ?_
  refine a_s1 rfl rfl rfl rfl rfl rfl ?_
  refine a_s rfl rfl ?_
  refine a_s2 rfl rfl rfl rfl rfl rfl ?_
  refine a_s rfl rfl ?_
  refine a_s3 rfl rfl rfl rfl rfl rfl ?_
  refine a_cnt (j0 := 0) (fun j ls h => ∃ a0, ∃ a1, ls = [some (.ref 200), some (.int a0), some (.int a1), some (.int (nI j)), none] ∧ h = hp I L w1 w2 t) (by decide) ⟨_, _, rfl, rfl⟩ ⟨rfl, rfl, rfl, rfl, trivial⟩ ?_
  rintro j6 _ _ hj6 ⟨a0_6, a1_6, rfl, rfl⟩ ih6
  refine a_l3 rfl rfl rfl ?_
  refine a_l0 rfl rfl rfl ?_
  refine a_getq rfl gfX11_37_11 rfl (rfl) ?_
  refine a_geti rfl gfX11_179_5 rfl ?_
  refine a_ic_ge rfl (fun c14 => ?_) (fun c14 => ?_)
  · refine a_l1 rfl rfl rfl ?_
    exact a_iret rfl rfl ⟨⟨_, rfl⟩, rfl⟩
  · refine a_l0 rfl rfl rfl ?_
    refine a_getq rfl gfX11_37_11 rfl (rfl) ?_
    refine a_l3 rfl rfl rfl ?_
    refine a_gV rfl lX11_128 mo_X5_loadOf (q_X5_loadOf_235) rfl rfl rfl ⟨5, _, rfl, rfl, rfl⟩ rfl (fun v' h' hv => ?_)
    obtain ⟨⟨v1, rfl⟩, rfl⟩ := hv
    refine a_s4 rfl rfl rfl rfl rfl rfl ?_
    refine a_l1 rfl rfl rfl ?_
    refine a_s rfl rfl ?_
    refine a_ic_eq rfl (fun c29 => ?_) (fun c29 => ?_)
    · refine a_l3 rfl rfl rfl ?_
      refine a_s1 rfl rfl rfl rfl rfl rfl ?_
      refine a_l4 rfl rfl rfl ?_
      refine a_s2 rfl rfl rfl rfl rfl rfl ?_
      refine a_i3 rfl rfl rfl ?_
      refine a_goto rfl ?_
      exact ih6 _ _ _ _ c14 ⟨_, _, rfl, rfl⟩ ⟨rfl, rfl, rfl, nS _, trivial⟩
    · refine a_l4 rfl rfl rfl ?_
      refine a_l2 rfl rfl rfl ?_
      refine a_ic_ge rfl (fun c35 => ?_) (fun c35 => ?_)
      · refine a_i3 rfl rfl rfl ?_
        refine a_goto rfl ?_
        exact ih6 _ _ _ _ c14 ⟨_, _, rfl, rfl⟩ ⟨rfl, rfl, rfl, nS _, trivial⟩
      · refine a_l3 rfl rfl rfl ?_
        refine a_s1 rfl rfl rfl rfl rfl rfl ?_
        refine a_l4 rfl rfl rfl ?_
        refine a_s2 rfl rfl rfl rfl rfl rfl ?_
        refine a_i3 rfl rfl rfl ?_
        refine a_goto rfl ?_
        exact ih6 _ _ _ _ c14 ⟨_, _, rfl, rfl⟩ ⟨rfl, rfl, rfl, nS _, trivial⟩
theorem q_X11_worst_200 {S : aS} {I : Nat → Nat → Int32} {L : Nat → Nat → Int64} {w1 w2 t : Nat} : Sp S m_X11_worst 16 0 0 [.ref 200] (hp I L w1 w2 t) (QR (Fm sQ I) isI L w1 w2 t) nX := by
  refine Sp_of ok_X11_worst rfl rfl ?_
  show AW S m_X11_worst 16 _ _ 0 0 0 [some (.ref 200), none, none, none, none] [] (hp I L w1 w2 t)
  refine a_s rfl rfl ?_
  refine a_s1 rfl rfl rfl rfl rfl rfl ?_
  refine a_s rfl rfl ?_
  refine a_s2 rfl rfl rfl rfl rfl rfl ?_
  refine a_s rfl rfl ?_
  refine a_s3 rfl rfl rfl rfl rfl rfl ?_
  refine a_cnt (j0 := 0) (fun j ls h => ∃ a0, ∃ a1, ∃ I', ls = [some (.ref 200), some (.int a0), some (.int a1), some (.int (nI j)), none] ∧ h = hp I' L w1 w2 t ∧ Fm sQ I I') (by decide) ⟨_, _, _, rfl, rfl, Fm.rf⟩ ⟨rfl, rfl, rfl, rfl, trivial⟩ ?_
  rintro j6 _ _ hj6 ⟨a0_6, a1_6, Ih6, rfl, rfl, fh6⟩ ih6
  refine a_l3 rfl rfl rfl ?_
  refine a_l0 rfl rfl rfl ?_
  refine a_getq rfl gfX11_37_11 rfl (rfl) ?_
  refine a_geti rfl gfX11_182_5 rfl ?_
  refine a_ic_ge rfl (fun c14 => ?_) (fun c14 => ?_)
  · refine a_l1 rfl rfl rfl ?_
    exact a_iret rfl rfl ⟨⟨_, rfl⟩, _, rfl, fh6⟩
  · refine a_l0 rfl rfl rfl ?_
    refine a_getq rfl gfX11_37_11 rfl (rfl) ?_
    refine a_l3 rfl rfl rfl ?_
    refine a_gV rfl lX11_329 mo_X5_isWaiting (q_X5_isWaiting_235) rfl rfl rfl ⟨5, _, rfl, rfl, rfl⟩ rfl (fun v' h' hv => ?_)
    obtain ⟨⟨v1, rfl⟩, rfl⟩ := hv
    refine a_if_eq rfl (fun c25 => ?_) (fun c25 => ?_)
    · refine a_s rfl rfl ?_
      refine a_s4 rfl rfl rfl rfl rfl rfl ?_
      refine a_l4 rfl rfl rfl ?_
      refine a_l2 rfl rfl rfl ?_
      refine a_ic_le rfl (fun c49 => ?_) (fun c49 => ?_)
      · refine a_i3 rfl rfl rfl ?_
        refine a_goto rfl ?_
        exact ih6 _ _ _ _ c14 ⟨_, _, _, rfl, rfl, fh6⟩ ⟨rfl, rfl, rfl, nS _, trivial⟩
      · refine a_l3 rfl rfl rfl ?_
        refine a_s1 rfl rfl rfl rfl rfl rfl ?_
        refine a_l4 rfl rfl rfl ?_
        refine a_s2 rfl rfl rfl rfl rfl rfl ?_
        refine a_i3 rfl rfl rfl ?_
        refine a_goto rfl ?_
        exact ih6 _ _ _ _ c14 ⟨_, _, _, rfl, rfl, fh6⟩ ⟨rfl, rfl, rfl, nS _, trivial⟩
    · refine a_l0 rfl rfl rfl ?_
      refine a_getq rfl gfX11_44_11 rfl (rfl) ?_
      refine a_l0 rfl rfl rfl ?_
      refine a_getq rfl gfX11_37_11 rfl (rfl) ?_
      refine a_l3 rfl rfl rfl ?_
      refine a_gV rfl lX11_170 mo_X2_shameOf (q_X2_shameOf_246_235) rfl rfl rfl ⟨2, _, rfl, rfl, rfl⟩ rfl (fun v' h' hv => ?_)
      obtain ⟨⟨v2, rfl⟩, I3, rfl, f4⟩ := hv
      replace f4 : Fm sQ I I3 := Fm.tr (fh6) (f4)
      refine a_goto rfl ?_
      refine a_s4 rfl rfl rfl rfl rfl rfl ?_
      refine a_l4 rfl rfl rfl ?_
      refine a_l2 rfl rfl rfl ?_
      refine a_ic_le rfl (fun c49 => ?_) (fun c49 => ?_)
      · refine a_i3 rfl rfl rfl ?_
        refine a_goto rfl ?_
        exact ih6 _ _ _ _ c14 ⟨_, _, _, rfl, rfl, f4⟩ ⟨rfl, rfl, rfl, nS _, trivial⟩
      · refine a_l3 rfl rfl rfl ?_
        refine a_s1 rfl rfl rfl rfl rfl rfl ?_
        refine a_l4 rfl rfl rfl ?_
        refine a_s2 rfl rfl rfl rfl rfl rfl ?_
        refine a_i3 rfl rfl rfl ?_
        refine a_goto rfl ?_
        exact ih6 _ _ _ _ c14 ⟨_, _, _, rfl, rfl, f4⟩ ⟨rfl, rfl, rfl, nS _, trivial⟩
theorem q_X5_areAlike_235 {S : aS} {I : Nat → Nat → Int32} {L : Nat → Nat → Int64} {w1 w2 t : Nat} {x1 x2 : Int32} : Sp S m_X5_areAlike 14 0 0 [.ref 235, .int x1, .int x2] (hp I L w1 w2 t) (QE isZ (hp I L w1 w2 t)) nX := by
  refine Sp_of ok_X5_areAlike rfl rfl ?_
  show AW S m_X5_areAlike 14 _ _ 0 0 0 [some (.ref 235), some (.int x1), some (.int x2)] [] (hp I L w1 w2 t)
  refine a_l0 rfl rfl rfl ?_
  refine a_l1 rfl rfl rfl ?_
  refine a_gV rfl lX5_90 mo_X5_isWaiting (q_X5_isWaiting_235) rfl rfl rfl ⟨5, _, rfl, rfl, rfl⟩ rfl (fun v' h' hv => ?_)
  obtain ⟨⟨v1, rfl⟩, rfl⟩ := hv
  refine a_if_eq rfl (fun c5 => ?_) (fun c5 => ?_)
  · refine a_s rfl rfl ?_
    exact a_zret rfl rfl rfl ⟨⟨false, rfl⟩, rfl⟩
  · refine a_l0 rfl rfl rfl ?_
    refine a_l2 rfl rfl rfl ?_
    refine a_gV rfl lX5_90 mo_X5_isWaiting (q_X5_isWaiting_235) rfl rfl rfl ⟨5, _, rfl, rfl, rfl⟩ rfl (fun v' h' hv => ?_)
    obtain ⟨⟨v2, rfl⟩, rfl⟩ := hv
    refine a_if_eq rfl (fun c13 => ?_) (fun c13 => ?_)
    · refine a_s rfl rfl ?_
      exact a_zret rfl rfl rfl ⟨⟨false, rfl⟩, rfl⟩
    · refine a_l0 rfl rfl rfl ?_
      refine a_getq rfl gfX5_21_5 rfl (rfl) ?_
      refine a_l1 rfl rfl rfl ?_
      refine a_eSN1 rfl lX5_86 mo_X11_at (sp_X11_at rfl) rfl rfl rfl rfl ?_
      refine a_l0 rfl rfl rfl ?_
      refine a_getq rfl gfX5_21_5 rfl (rfl) ?_
      refine a_l2 rfl rfl rfl ?_
      refine a_eSN1 rfl lX5_86 mo_X11_at (sp_X11_at rfl) rfl rfl rfl rfl ?_
      refine a_ic_ne rfl (fun c32 => ?_) (fun c32 => ?_)
      · refine a_s rfl rfl ?_
        exact a_zret rfl rfl rfl ⟨⟨false, rfl⟩, rfl⟩
      · refine a_l0 rfl rfl rfl ?_
        refine a_getq rfl gfX5_24_5 rfl (rfl) ?_
        refine a_l1 rfl rfl rfl ?_
        refine a_eSN1 rfl lX5_86 mo_X11_at (sp_X11_at rfl) rfl rfl rfl rfl ?_
        refine a_l0 rfl rfl rfl ?_
        refine a_getq rfl gfX5_24_5 rfl (rfl) ?_
        refine a_l2 rfl rfl rfl ?_
        refine a_eSN1 rfl lX5_86 mo_X11_at (sp_X11_at rfl) rfl rfl rfl rfl ?_
        refine a_ic_ne rfl (fun c51 => ?_) (fun c51 => ?_)
        · refine a_s rfl rfl ?_
          exact a_zret rfl rfl rfl ⟨⟨false, rfl⟩, rfl⟩
        · refine a_s rfl rfl ?_
          refine a_goto rfl ?_
          exact a_zret rfl rfl rfl ⟨⟨true, rfl⟩, rfl⟩
theorem q_X11_alike_200 {S : aS} {I : Nat → Nat → Int32} {L : Nat → Nat → Int64} {w1 w2 t : Nat} : Sp S m_X11_alike 15 0 0 [.ref 200] (hp I L w1 w2 t) (QE isI (hp I L w1 w2 t)) nX := by
  refine Sp_of ok_X11_alike rfl rfl ?_
  show AW S m_X11_alike 15 _ _ 0 0 0 [some (.ref 200), none, none, none] [] (hp I L w1 w2 t)
  refine a_s rfl rfl ?_
  refine a_s1 rfl rfl rfl rfl rfl rfl ?_
  refine a_s rfl rfl ?_
  refine a_s2 rfl rfl rfl rfl rfl rfl ?_
  refine a_cnt (j0 := 0) (fun j ls h => ∃ a0, ls = [some (.ref 200), some (.int a0), some (.int (nI j)), none] ∧ h = hp I L w1 w2 t) (by decide) ⟨_, rfl, rfl⟩ ⟨rfl, rfl, rfl, trivial⟩ ?_
  rintro j4 _ _ hj4 ⟨a0_4, rfl, rfl⟩ ih4
  refine a_l2 rfl rfl rfl ?_
  refine a_l0 rfl rfl rfl ?_
  refine a_getq rfl gfX11_37_11 rfl (rfl) ?_
  refine a_geti rfl gfX11_182_5 rfl ?_
  refine a_ic_ge rfl (fun c12 => ?_) (fun c12 => ?_)
  · refine a_l1 rfl rfl rfl ?_
    exact a_iret rfl rfl ⟨⟨_, rfl⟩, rfl⟩
  · refine a_l2 rfl rfl rfl ?_
    refine a_s rfl rfl ?_
    refine a_s rfl rfl ?_
    refine a_s3 rfl rfl rfl rfl rfl rfl ?_
    refine a_cnt (j0 := j4 + 1) (fun j ls h => ∃ a0, ls = [some (.ref 200), some (.int a0), some (.int (nI j4)), some (.int (nI j))] ∧ h = hp I L w1 w2 t) (nI_b1 hj4 c12) ⟨_, rfl, rfl⟩ ⟨rfl, rfl, rfl, nS _, trivial⟩ ?_
    rintro j19 _ _ hj19 ⟨a0_19, rfl, rfl⟩ ih19
    refine a_l3 rfl rfl rfl ?_
    refine a_l0 rfl rfl rfl ?_
    refine a_getq rfl gfX11_37_11 rfl (rfl) ?_
    refine a_geti rfl gfX11_182_5 rfl ?_
    refine a_ic_ge rfl (fun c27 => ?_) (fun c27 => ?_)
    · refine a_i2 rfl rfl rfl ?_
      refine a_goto rfl ?_
      exact ih4 _ _ _ _ c12 ⟨_, rfl, rfl⟩ ⟨rfl, rfl, nS _, trivial⟩
    · refine a_l0 rfl rfl rfl ?_
      refine a_getq rfl gfX11_37_11 rfl (rfl) ?_
      refine a_l2 rfl rfl rfl ?_
      refine a_l3 rfl rfl rfl ?_
      refine a_gV rfl lX11_332 mo_X5_areAlike (q_X5_areAlike_235) rfl rfl rfl ⟨5, _, rfl, rfl, rfl⟩ rfl (fun v' h' hv => ?_)
      obtain ⟨⟨v1, rfl⟩, rfl⟩ := hv
      refine a_if_eq rfl (fun c39 => ?_) (fun c39 => ?_)
      · refine a_i3 rfl rfl rfl ?_
        refine a_goto rfl ?_
        exact ih19 _ _ _ _ c27 ⟨_, rfl, rfl⟩ ⟨rfl, rfl, rfl, nS _, trivial⟩
      · refine a_i1 rfl rfl rfl ?_
        refine a_i3 rfl rfl rfl ?_
        refine a_goto rfl ?_
        exact ih19 _ _ _ _ c27 ⟨_, rfl, rfl⟩ ⟨rfl, rfl, rfl, nS _, trivial⟩
theorem q_X11_shareOf_200 {S : aS} {I : Nat → Nat → Int32} {L : Nat → Nat → Int64} {w1 w2 t : Nat} {x1 : Int32} : Sp S m_X11_shareOf 18 0 0 [.ref 200, .int x1] (hp I L w1 w2 t) (QR (Fm sQ I) isI L w1 w2 t) nX := by
  refine Sp_of ok_X11_shareOf rfl rfl ?_
  show AW S m_X11_shareOf 18 _ _ 0 0 0 [some (.ref 200), some (.int x1), none, none] [] (hp I L w1 w2 t)
  refine a_l0 rfl rfl rfl ?_
  refine a_l0 rfl rfl rfl ?_
  refine a_getq rfl gfX11_37_11 rfl (rfl) ?_
  refine a_gV rfl lX11_207 mo_X11_shameOfWaiting (q_X11_shameOfWaiting_200_235) rfl rfl rfl ⟨11, _, rfl, rfl, rfl⟩ rfl (fun v' h' hv => ?_)
  obtain ⟨⟨v1, rfl⟩, I2, rfl, f3⟩ := hv
  refine a_s2 rfl rfl rfl rfl rfl rfl ?_
  refine a_l0 rfl rfl rfl ?_
  refine a_getq rfl gfX11_44_11 rfl (rfl) ?_
  refine a_l0 rfl rfl rfl ?_
  refine a_getq rfl gfX11_37_11 rfl (rfl) ?_
  refine a_l0 rfl rfl rfl ?_
  refine a_getq rfl gfX11_37_11 rfl (rfl) ?_
  refine a_s rfl rfl ?_
  refine a_gV rfl lX11_200 mo_X5_bitsIn (q_X5_bitsIn_235) rfl rfl rfl ⟨5, _, rfl, rfl, rfl⟩ rfl (fun v' h' hv => ?_)
  obtain ⟨⟨v4, rfl⟩, rfl⟩ := hv
  refine a_l0 rfl rfl rfl ?_
  refine a_getq rfl gfX11_37_11 rfl (rfl) ?_
  refine a_l1 rfl rfl rfl ?_
  refine a_gV rfl lX11_124 mo_X5_ownedBy (q_X5_ownedBy_235) rfl rfl rfl ⟨5, _, rfl, rfl, rfl⟩ rfl (fun v' h' hv => ?_)
  obtain ⟨⟨v5, rfl⟩, rfl⟩ := hv
  refine a_s rfl rfl ?_
  refine a_gV rfl lX11_282 mo_X2_shameOfSet (q_X2_shameOfSet_246_235) rfl rfl rfl ⟨2, _, rfl, rfl, rfl⟩ rfl (fun v' h' hv => ?_)
  obtain ⟨⟨v6, rfl⟩, I7, rfl, f8⟩ := hv
  replace f8 : Fm sQ I I7 := Fm.tr (f3) (f8)
  refine a_s3 rfl rfl rfl rfl rfl rfl ?_
  refine a_l2 rfl rfl rfl ?_
  refine a_if_le rfl (fun c39 => ?_) (fun c39 => ?_)
  · refine a_s rfl rfl ?_
    exact a_iret rfl rfl ⟨⟨_, rfl⟩, _, rfl, f8⟩
  · refine a_l3 rfl rfl rfl ?_
    refine a_s rfl rfl ?_
    refine a_s rfl rfl ?_
    refine a_l2 rfl rfl rfl ?_
    refine a_idiv rfl (fun z => c39 (by rw [z]; decide)) ?_
    refine a_goto rfl ?_
    exact a_iret rfl rfl ⟨⟨_, rfl⟩, _, rfl, f8⟩
theorem q_X5_standingBetween_235 {S : aS} {I : Nat → Nat → Int32} {L : Nat → Nat → Int64} {w1 w2 t : Nat} {x1 x2 : Int32} : Sp S m_X5_standingBetween 13 0 0 [.ref 235, .int x1, .int x2] (hp I L w1 w2 t) (QE isI (hp I L w1 w2 t)) nX := by
  refine Sp_of ok_X5_standingBetween rfl rfl ?_
  show AW S m_X5_standingBetween 13 _ _ 0 0 0 [some (.ref 235), some (.int x1), some (.int x2), none, none] [] (hp I L w1 w2 t)
  refine a_s rfl rfl ?_
  refine a_s3 rfl rfl rfl rfl rfl rfl ?_
  refine a_s rfl rfl ?_
  refine a_s4 rfl rfl rfl rfl rfl rfl ?_
  refine a_cnt (j0 := 0) (fun j ls h => ∃ a0, ls = [some (.ref 235), some (.int x1), some (.int x2), some (.int a0), some (.int (nI j))] ∧ h = hp I L w1 w2 t) (by decide) ⟨_, rfl, rfl⟩ ⟨rfl, rfl, rfl, rfl, rfl, trivial⟩ ?_
  rintro j5 _ _ hj5 ⟨a0_5, rfl, rfl⟩ ih5
  refine a_l4 rfl rfl rfl ?_
  refine a_l0 rfl rfl rfl ?_
  refine a_geti rfl gfX5_56_5 rfl ?_
  refine a_ic_ge rfl (fun c11 => ?_) (fun c11 => ?_)
  · refine a_l3 rfl rfl rfl ?_
    exact a_iret rfl rfl ⟨⟨_, rfl⟩, rfl⟩
  · refine a_l0 rfl rfl rfl ?_
    refine a_getq rfl gfX5_9_5 rfl (rfl) ?_
    refine a_l4 rfl rfl rfl ?_
    refine a_eSN1 rfl lX5_86 mo_X11_at (sp_X11_at rfl) rfl rfl rfl rfl ?_
    refine a_l1 rfl rfl rfl ?_
    refine a_ic_lt rfl (fun c24 => ?_) (fun c24 => ?_)
    · refine a_i4 rfl rfl rfl ?_
      refine a_goto rfl ?_
      exact ih5 _ _ _ _ c11 ⟨_, rfl, rfl⟩ ⟨rfl, rfl, rfl, rfl, nS _, trivial⟩
    · refine a_l0 rfl rfl rfl ?_
      refine a_getq rfl gfX5_9_5 rfl (rfl) ?_
      refine a_l4 rfl rfl rfl ?_
      refine a_eSN1 rfl lX5_86 mo_X11_at (sp_X11_at rfl) rfl rfl rfl rfl ?_
      refine a_l2 rfl rfl rfl ?_
      refine a_ic_gt rfl (fun c37 => ?_) (fun c37 => ?_)
      · refine a_i4 rfl rfl rfl ?_
        refine a_goto rfl ?_
        exact ih5 _ _ _ _ c11 ⟨_, rfl, rfl⟩ ⟨rfl, rfl, rfl, rfl, nS _, trivial⟩
      · refine a_l3 rfl rfl rfl ?_
        refine a_l4 rfl rfl rfl ?_
        refine a_eSN1 rfl lX5_97 mo_X11_bit (sp_X11_bit) rfl rfl rfl rfl ?_
        refine a_s rfl rfl ?_
        refine a_s3 rfl rfl rfl rfl rfl rfl ?_
        refine a_i4 rfl rfl rfl ?_
        refine a_goto rfl ?_
        exact ih5 _ _ _ _ c11 ⟨_, rfl, rfl⟩ ⟨rfl, rfl, rfl, rfl, nS _, trivial⟩
theorem q_X11_kerbToAskFor_200 {S : aS} {I : Nat → Nat → Int32} {L : Nat → Nat → Int64} {w1 w2 t : Nat} {x1 : Int32} : Sp S m_X11_kerbToAskFor 14 0 0 [.ref 200, .int x1] (hp I L w1 w2 t) (QE isI (hp I L w1 w2 t)) nX := by
  refine Sp_of ok_X11_kerbToAskFor rfl rfl ?_
  show AW S m_X11_kerbToAskFor 14 _ _ 0 0 0 [some (.ref 200), some (.int x1), none, none, none, none, none, none] [] (hp I L w1 w2 t)
  refine a_l1 rfl rfl rfl ?_
  refine a_eS1 rfl lX11_261 mo_J6_bitCount_0f7a4 (sp_bitCount) rfl rfl rfl rfl ?_
  refine a_s2 rfl rfl rfl rfl rfl rfl ?_
  refine a_l2 rfl rfl rfl ?_
  refine a_s rfl rfl ?_
  refine a_ic_ge rfl (fun c7 => ?_) (fun c7 => ?_)
  · refine a_s rfl rfl ?_
    refine a_s3 rfl rfl rfl rfl rfl rfl ?_
    refine a_l2 rfl rfl rfl ?_
    refine a_s rfl rfl ?_
    refine a_s rfl rfl ?_
    refine a_s4 rfl rfl rfl rfl rfl rfl ?_
    refine a_s rfl rfl ?_
    refine a_s5 rfl rfl rfl rfl rfl rfl ?_
    refine a_cnt (j0 := 0) (fun j ls h => ∃ a0, ∃ a1, ∃ a2, ls = [some (.ref 200), some (.int x1), some (.int a0), some (.int a1), some (.int a2), some (.int (nI j)), none, none] ∧ h = hp I L w1 w2 t) (by decide) ⟨_, _, _, rfl, rfl⟩ ⟨rfl, rfl, rfl, rfl, rfl, rfl, trivial⟩ ?_
    rintro j22 _ _ hj22 ⟨a0_22, a1_22, a2_22, rfl, rfl⟩ ih22
    refine a_l5 rfl rfl rfl ?_
    refine a_s rfl rfl ?_
    refine a_ic_ge rfl (fun c26 => ?_) (fun c26 => ?_)
    · refine a_l3 rfl rfl rfl ?_
      exact a_iret rfl rfl ⟨⟨_, rfl⟩, rfl⟩
    · refine a_l1 rfl rfl rfl ?_
      refine a_l0 rfl rfl rfl ?_
      refine a_getq rfl gfX11_37_11 rfl (rfl) ?_
      refine a_s rfl rfl ?_
      refine a_l5 rfl rfl rfl ?_
      refine a_gV rfl lX11_395 mo_X5_standingBetween (q_X5_standingBetween_235) rfl rfl rfl ⟨5, _, rfl, rfl, rfl⟩ rfl (fun v' h' hv => ?_)
      obtain ⟨⟨v1, rfl⟩, rfl⟩ := hv
      refine a_s rfl rfl ?_
      refine a_eS1 rfl lX11_261 mo_J6_bitCount_0f7a4 (sp_bitCount) rfl rfl rfl rfl ?_
      refine a_s6 rfl rfl rfl rfl rfl rfl ?_
      refine a_l6 rfl rfl rfl ?_
      refine a_l2 rfl rfl rfl ?_
      refine a_l6 rfl rfl rfl ?_
      refine a_s rfl rfl ?_
      refine a_max rfl lX11_290 mj_max rfl rfl ?_
      refine a_s7 rfl rfl rfl rfl rfl rfl ?_
      refine a_l7 rfl rfl rfl ?_
      refine a_l4 rfl rfl rfl ?_
      refine a_ic_ge rfl (fun c61 => ?_) (fun c61 => ?_)
      · refine a_i5 rfl rfl rfl ?_
        refine a_goto rfl ?_
        exact ih22 _ _ _ _ c26 ⟨_, _, _, rfl, rfl⟩ ⟨rfl, rfl, rfl, rfl, rfl, nS _, trivial⟩
      · refine a_l5 rfl rfl rfl ?_
        refine a_s3 rfl rfl rfl rfl rfl rfl ?_
        refine a_l7 rfl rfl rfl ?_
        refine a_s4 rfl rfl rfl rfl rfl rfl ?_
        refine a_i5 rfl rfl rfl ?_
        refine a_goto rfl ?_
        exact ih22 _ _ _ _ c26 ⟨_, _, _, rfl, rfl⟩ ⟨rfl, rfl, rfl, rfl, rfl, nS _, trivial⟩
  · refine a_s rfl rfl ?_
    exact a_iret rfl rfl ⟨⟨_, rfl⟩, rfl⟩
theorem q_X7_byteAt_201 {S : aS} {I : Nat → Nat → Int32} {L : Nat → Nat → Int64} {w1 w2 t : Nat} {x1 : Int32} : Sp S m_X7_byteAt 12 0 0 [.ref 201, .int x1] (hp I L w1 w2 t) (QE isI (hp I L w1 w2 t)) nX := by
  refine Sp_of ok_X7_byteAt rfl rfl ?_
  show AW S m_X7_byteAt 12 _ _ 0 0 0 [some (.ref 201), some (.int x1)] [] (hp I L w1 w2 t)
  refine a_l1 rfl rfl rfl ?_
  refine a_if_lt rfl (fun c1 => ?_) (fun c1 => ?_)
  · refine a_s rfl rfl ?_
    exact a_iret rfl rfl ⟨⟨_, rfl⟩, rfl⟩
  · refine a_l1 rfl rfl rfl ?_
    refine a_l0 rfl rfl rfl ?_
    refine a_geti rfl gfX7_15_7 rfl ?_
    refine a_ic_ge rfl (fun c9 => ?_) (fun c9 => ?_)
    · refine a_s rfl rfl ?_
      exact a_iret rfl rfl ⟨⟨_, rfl⟩, rfl⟩
    · refine a_l1 rfl rfl rfl ?_
      refine a_l0 rfl rfl rfl ?_
      refine a_getq rfl gfX7_9_7 rfl (rfl) ?_
      refine a_len rfl rfl rfl rfl ?_
      refine a_ic_ge rfl (fun c18 => ?_) (fun c18 => ?_)
      · refine a_s rfl rfl ?_
        exact a_iret rfl rfl ⟨⟨_, rfl⟩, rfl⟩
      · refine a_l0 rfl rfl rfl ?_
        refine a_getq rfl gfX7_9_7 rfl (rfl) ?_
        refine a_l1 rfl rfl rfl ?_
        refine a_bald rfl rfl (inI_of (by decide) c1 c18) ?_
        refine a_s rfl rfl ?_
        refine a_s rfl rfl ?_
        refine a_goto rfl ?_
        exact a_iret rfl rfl ⟨⟨_, rfl⟩, rfl⟩
theorem q_X11_whoFits_200 {S : aS} {I : Nat → Nat → Int32} {L : Nat → Nat → Int64} {w1 w2 t : Nat} : Sp S m_X11_whoFits 14 0 0 [.ref 200] (hp I L w1 w2 t) (QE isI (hp I L w1 w2 t)) nX := by
  refine Sp_of ok_X11_whoFits rfl rfl ?_
  show AW S m_X11_whoFits 14 _ _ 0 0 0 [some (.ref 200), none, none, none, none] [] (hp I L w1 w2 t)
  refine a_l0 rfl rfl rfl ?_
  refine a_getq rfl gfX11_10_11 rfl (rfl) ?_
  refine a_geti rfl gfX11_68_7 rfl ?_
  refine a_s rfl rfl ?_
  refine a_ic_gt rfl (fun c9 => ?_) (fun c9 => ?_)
  · refine a_s rfl rfl ?_
    exact a_iret rfl rfl ⟨⟨_, rfl⟩, rfl⟩
  · refine a_l0 rfl rfl rfl ?_
    refine a_getq rfl gfX11_10_11 rfl (rfl) ?_
    refine a_geti rfl gfX11_68_7 rfl ?_
    refine a_s rfl rfl ?_
    refine a_irem rfl (by decide) ?_
    refine a_if_eq rfl (fun c21 => ?_) (fun c21 => ?_)
    · refine a_l0 rfl rfl rfl ?_
      refine a_getq rfl gfX11_37_11 rfl (rfl) ?_
      refine a_geti rfl gfX11_179_5 rfl ?_
      refine a_eS1 rfl lX11_319 mo_X11_bit (sp_X11_bit) rfl rfl rfl rfl ?_
      refine a_s rfl rfl ?_
      refine a_s rfl rfl ?_
      refine a_s1 rfl rfl rfl rfl rfl rfl ?_
      refine a_s rfl rfl ?_
      refine a_s2 rfl rfl rfl rfl rfl rfl ?_
      refine a_cntI2 (fun y ls h => ∃ a0, ls = [some (.ref 200), some (.int a0), some (.int y), none, none] ∧ h = hp I L w1 w2 t) ⟨_, rfl, rfl⟩ ⟨rfl, rfl, rfl, trivial⟩ ?_
      rintro y41 _ _ ⟨a0_41, rfl, rfl⟩ ih41
      refine a_l2 rfl rfl rfl ?_
      refine a_l0 rfl rfl rfl ?_
      refine a_getq rfl gfX11_10_11 rfl (rfl) ?_
      refine a_geti rfl gfX11_68_7 rfl ?_
      refine a_ic_ge rfl (fun c49 => ?_) (fun c49 => ?_)
      · refine a_l1 rfl rfl rfl ?_
        exact a_iret rfl rfl ⟨⟨_, rfl⟩, rfl⟩
      · refine a_l0 rfl rfl rfl ?_
        refine a_getq rfl gfX11_10_11 rfl (rfl) ?_
        refine a_l2 rfl rfl rfl ?_
        refine a_gV rfl lX11_392 mo_X7_byteAt (q_X7_byteAt_201) rfl rfl rfl ⟨7, _, rfl, rfl, rfl⟩ rfl (fun v' h' hv => ?_)
        obtain ⟨⟨v1, rfl⟩, rfl⟩ := hv
        refine a_s3 rfl rfl rfl rfl rfl rfl ?_
        refine a_l0 rfl rfl rfl ?_
        refine a_getq rfl gfX11_10_11 rfl (rfl) ?_
        refine a_l2 rfl rfl rfl ?_
        refine a_s rfl rfl ?_
        refine a_s rfl rfl ?_
        refine a_gV rfl lX11_392 mo_X7_byteAt (q_X7_byteAt_201) rfl rfl rfl ⟨7, _, rfl, rfl, rfl⟩ rfl (fun v' h' hv => ?_)
        obtain ⟨⟨v2, rfl⟩, rfl⟩ := hv
        refine a_s4 rfl rfl rfl rfl rfl rfl ?_
        refine a_l3 rfl rfl rfl ?_
        refine a_l4 rfl rfl rfl ?_
        refine a_ic_gt rfl (fun c76 => ?_) (fun c76 => ?_)
        · refine a_s rfl rfl ?_
          exact a_iret rfl rfl ⟨⟨_, rfl⟩, rfl⟩
        · refine a_l4 rfl rfl rfl ?_
          refine a_s rfl rfl ?_
          refine a_ic_le rfl (fun c83 => ?_) (fun c83 => ?_)
          · refine a_l1 rfl rfl rfl ?_
            refine a_l0 rfl rfl rfl ?_
            refine a_getq rfl gfX11_37_11 rfl (rfl) ?_
            refine a_l3 rfl rfl rfl ?_
            refine a_l4 rfl rfl rfl ?_
            refine a_gV rfl lX11_395 mo_X5_standingBetween (q_X5_standingBetween_235) rfl rfl rfl ⟨5, _, rfl, rfl, rfl⟩ rfl (fun v' h' hv => ?_)
            obtain ⟨⟨v3, rfl⟩, rfl⟩ := hv
            refine a_s rfl rfl ?_
            refine a_s1 rfl rfl rfl rfl rfl rfl ?_
            refine a_i2 rfl rfl rfl ?_
            refine a_goto rfl ?_
            exact ih41 _ _ _ _ ⟨c49, c9⟩ ⟨_, rfl, rfl⟩ ⟨rfl, rfl, rfl, trivial⟩
          · refine a_s rfl rfl ?_
            exact a_iret rfl rfl ⟨⟨_, rfl⟩, rfl⟩
    · refine a_s rfl rfl ?_
      exact a_iret rfl rfl ⟨⟨_, rfl⟩, rfl⟩
theorem q_X2_shameOf_246_257 {S : aS} {I : Nat → Nat → Int32} {L : Nat → Nat → Int64} {w1 w2 t : Nat} {x2 : Int32} : Sp S m_X2_shameOf 15 0 0 [.ref 246, .ref 257, .int x2] (hp I L w1 w2 t) (QR (Fm sQ I) isI L w1 w2 t) nX := by
  refine Sp_of ok_X2_shameOf rfl rfl ?_
  show AW S m_X2_shameOf 15 _ _ 0 0 0 [some (.ref 246), some (.ref 257), some (.int x2)] [] (hp I L w1 w2 t)
  refine a_l0 rfl rfl rfl ?_
  refine a_l1 rfl rfl rfl ?_
  refine a_l2 rfl rfl rfl ?_
  refine a_gV rfl lX2_48 mo_X2_takeParts (q_X2_takeParts_246_257) rfl rfl rfl ⟨2, _, rfl, rfl, rfl⟩ rfl (fun v' h' hv => ?_)
  obtain ⟨rfl, I2, rfl, f3⟩ := hv
  refine a_s rfl rfl ?_
  refine a_l1 rfl rfl rfl ?_
  refine a_getq rfl gfX2_56_5 rfl (rfl) ?_
  refine a_l2 rfl rfl rfl ?_
  refine a_eSN1 rfl lX2_61 mo_X11_at (sp_X11_at rfl) rfl rfl rfl rfl ?_
  refine a_l0 rfl rfl rfl ?_
  refine a_s rfl rfl ?_
  refine a_gV rfl lX2_52 mo_X2_sumOfLines (q_X2_sumOfLines_246) rfl rfl rfl ⟨2, _, rfl, rfl, rfl⟩ rfl (fun v' h' hv => ?_)
  obtain ⟨⟨v4, rfl⟩, I5, rfl, f6⟩ := hv
  replace f6 : Fm sQ I I5 := Fm.tr (f3) (f6)
  refine a_s rfl rfl ?_
  refine a_l0 rfl rfl rfl ?_
  refine a_s rfl rfl ?_
  refine a_gV rfl lX2_52 mo_X2_sumOfLines (q_X2_sumOfLines_246) rfl rfl rfl ⟨2, _, rfl, rfl, rfl⟩ rfl (fun v' h' hv => ?_)
  obtain ⟨⟨v7, rfl⟩, I8, rfl, f9⟩ := hv
  replace f9 : Fm sQ I I8 := Fm.tr (f6) (f9)
  refine a_s rfl rfl ?_
  refine a_max rfl lX2_65 mj_max rfl rfl ?_
  exact a_iret rfl rfl ⟨⟨_, rfl⟩, _, rfl, f9⟩
theorem q_X2_shameOfSet_246_257 {S : aS} {I : Nat → Nat → Int32} {L : Nat → Nat → Int64} {w1 w2 t : Nat} {x2 : Int32} : Sp S m_X2_shameOfSet 16 0 0 [.ref 246, .ref 257, .int x2] (hp I L w1 w2 t) (QR (Fm sQ I) isI L w1 w2 t) nX := by
  refine Sp_of ok_X2_shameOfSet rfl rfl ?_
  show AW S m_X2_shameOfSet 16 _ _ 0 0 0 [some (.ref 246), some (.ref 257), some (.int x2), none, none] [] (hp I L w1 w2 t)
  refine a_s rfl rfl ?_
  refine a_s3 rfl rfl rfl rfl rfl rfl ?_
  refine a_s rfl rfl ?_
  refine a_s4 rfl rfl rfl rfl rfl rfl ?_
  refine a_cnt (j0 := 0) (fun j ls h => ∃ a0, ∃ I', ls = [some (.ref 246), some (.ref 257), some (.int x2), some (.int a0), some (.int (nI j))] ∧ h = hp I' L w1 w2 t ∧ Fm sQ I I') (by decide) ⟨_, _, rfl, rfl, Fm.rf⟩ ⟨rfl, rfl, rfl, rfl, rfl, trivial⟩ ?_
  rintro j5 _ _ hj5 ⟨a0_5, Ih5, rfl, rfl, fh5⟩ ih5
  refine a_l4 rfl rfl rfl ?_
  refine a_l1 rfl rfl rfl ?_
  refine a_geti rfl gfX2_71_5 rfl ?_
  refine a_ic_ge rfl (fun c11 => ?_) (fun c11 => ?_)
  · refine a_l3 rfl rfl rfl ?_
    exact a_iret rfl rfl ⟨⟨_, rfl⟩, _, rfl, fh5⟩
  · refine a_l2 rfl rfl rfl ?_
    refine a_l4 rfl rfl rfl ?_
    refine a_eSN1 rfl lX2_74 mo_X11_has (sp_X11_has) rfl rfl rfl rfl ?_
    refine a_if_eq rfl (fun c20 => ?_) (fun c20 => ?_)
    · refine a_i4 rfl rfl rfl ?_
      refine a_goto rfl ?_
      exact ih5 _ _ _ _ c11 ⟨_, _, rfl, rfl, fh5⟩ ⟨rfl, rfl, rfl, rfl, nS _, trivial⟩
    · refine a_l3 rfl rfl rfl ?_
      refine a_l0 rfl rfl rfl ?_
      refine a_l1 rfl rfl rfl ?_
      refine a_l4 rfl rfl rfl ?_
      refine a_gV rfl lX2_78 mo_X2_shameOf (q_X2_shameOf_246_257) rfl rfl rfl ⟨2, _, rfl, rfl, rfl⟩ rfl (fun v' h' hv => ?_)
      obtain ⟨⟨v1, rfl⟩, I2, rfl, f3⟩ := hv
      replace f3 : Fm sQ I I2 := Fm.tr (fh5) (f3)
      refine a_s rfl rfl ?_
      refine a_s3 rfl rfl rfl rfl rfl rfl ?_
      refine a_i4 rfl rfl rfl ?_
      refine a_goto rfl ?_
      exact ih5 _ _ _ _ c11 ⟨_, _, rfl, rfl, f3⟩ ⟨rfl, rfl, rfl, rfl, nS _, trivial⟩
theorem q_X11_shameOfWaiting_200_257 {S : aS} {I : Nat → Nat → Int32} {L : Nat → Nat → Int64} {w1 w2 t : Nat} : Sp S m_X11_shameOfWaiting 17 0 0 [.ref 200, .ref 257] (hp I L w1 w2 t) (QR (Fm sQ I) isI L w1 w2 t) nX := by
  refine Sp_of ok_X11_shameOfWaiting rfl rfl ?_
  show AW S m_X11_shameOfWaiting 17 _ _ 0 0 0 [some (.ref 200), some (.ref 257)] [] (hp I L w1 w2 t)
  refine a_l0 rfl rfl rfl ?_
  refine a_getq rfl gfX11_44_11 rfl (rfl) ?_
  refine a_l1 rfl rfl rfl ?_
  refine a_l1 rfl rfl rfl ?_
  refine a_s rfl rfl ?_
  refine a_gV rfl lX11_200 mo_X5_bitsIn (q_X5_bitsIn_257) rfl rfl rfl ⟨5, _, rfl, rfl, rfl⟩ rfl (fun v' h' hv => ?_)
  obtain ⟨⟨v1, rfl⟩, rfl⟩ := hv
  refine a_gV rfl lX11_282 mo_X2_shameOfSet (q_X2_shameOfSet_246_257) rfl rfl rfl ⟨2, _, rfl, rfl, rfl⟩ rfl (fun v' h' hv => ?_)
  obtain ⟨⟨v2, rfl⟩, I3, rfl, f4⟩ := hv
  exact a_iret rfl rfl ⟨⟨_, rfl⟩, _, rfl, f4⟩
theorem q_X11_shameTriedOut_200 {S : aS} {I : Nat → Nat → Int32} {L : Nat → Nat → Int64} {w1 w2 t : Nat} {x1 x2 : Int32} : Sp S m_X11_shameTriedOut 18 0 0 [.ref 200, .int x1, .int x2] (hp I L w1 w2 t) (QR (Fm sQ I) isI L w1 w2 t) nX := by
  refine Sp_of ok_X11_shameTriedOut rfl rfl ?_
  show AW S m_X11_shameTriedOut 18 _ _ 0 0 0 [some (.ref 200), some (.int x1), some (.int x2), none] [] (hp I L w1 w2 t)
  refine a_l0 rfl rfl rfl ?_
  refine a_getq rfl gfX11_55_11 rfl (rfl) ?_
  refine a_l0 rfl rfl rfl ?_
  refine a_getq rfl gfX11_37_11 rfl (rfl) ?_
  refine a_eV0 rfl lX11_78 mo_X5_copyFrom (sp_X5_copyFrom (a := 257) (b := 235) (by decide) (by decide) (by decide)) rfl rfl rfl ⟨5, _, rfl, rfl, rfl⟩ rfl ?_
  refine a_ren (P := Fm sQ I) (Fm.cp (Fm.rf (s := sQ)) sQ_257) (fun I1 f2 => ?_)
  refine a_l0 rfl rfl rfl ?_
  refine a_getq rfl gfX11_55_11 rfl (rfl) ?_
  refine a_l2 rfl rfl rfl ?_
  refine a_puti rfl pfX11_353_5 rfl ?_
  refine a_ren (P := Fm sQ I) (Fm.tr (f2) (Fm.up (Fm.rf (s := sQ)) rfl)) (fun I3 f4 => ?_)
  refine a_s rfl rfl ?_
  refine a_s3 rfl rfl rfl rfl rfl rfl ?_
  refine a_cnt (j0 := 0) (fun j ls h => ∃ I', ls = [some (.ref 200), some (.int x1), some (.int x2), some (.int (nI j))] ∧ h = hp I' L w1 w2 t ∧ Fm sQ I I') (by decide) ⟨_, rfl, rfl, f4⟩ ⟨rfl, rfl, rfl, rfl, trivial⟩ ?_
  rintro j21 _ _ hj21 ⟨Ih21, rfl, rfl, fh21⟩ ih21
  refine a_l3 rfl rfl rfl ?_
  refine a_l1 rfl rfl rfl ?_
  refine a_ic_ge rfl (fun c23 => ?_) (fun c23 => ?_)
  · refine a_l0 rfl rfl rfl ?_
    refine a_l0 rfl rfl rfl ?_
    refine a_getq rfl gfX11_55_11 rfl (rfl) ?_
    refine a_gV rfl lX11_207 mo_X11_shameOfWaiting (q_X11_shameOfWaiting_200_257) rfl rfl rfl ⟨11, _, rfl, rfl, rfl⟩ rfl (fun v' h' hv => ?_)
    obtain ⟨⟨v5, rfl⟩, I6, rfl, f7⟩ := hv
    replace f7 : Fm sQ I I6 := Fm.tr (fh21) (f7)
    exact a_iret rfl rfl ⟨⟨_, rfl⟩, _, rfl, f7⟩
  · refine a_l0 rfl rfl rfl ?_
    refine a_getq rfl gfX11_55_11 rfl (rfl) ?_
    refine a_l0 rfl rfl rfl ?_
    refine a_getq rfl gfX11_44_11 rfl (rfl) ?_
    refine a_s rfl rfl ?_
    refine a_gV rfl lX11_254 mo_X5_passDay (q_X5_passDay_257_246 (b2 := true)) rfl rfl rfl ⟨5, _, rfl, rfl, rfl⟩ rfl (fun v' h' hv => ?_)
    obtain ⟨rfl, I9, rfl, f10⟩ := hv
    replace f10 : Fm sQ I I9 := Fm.tr (fh21) (f10)
    refine a_i3 rfl rfl rfl ?_
    refine a_goto rfl ?_
    exact ih21 _ _ _ _ c23 ⟨_, rfl, rfl, f10⟩ ⟨rfl, rfl, rfl, nS _, trivial⟩
theorem q_X11_needPerson_200 {S : aS} {I : Nat → Nat → Int32} {L : Nat → Nat → Int64} {w1 w2 t : Nat} {x1 : Int32} : Sp S m_X11_needPerson 13 1 6 [.ref 200, .int x1] (hp I L w1 w2 t) (QE isV (hp I L w1 w2 t)) (XR (Fm sQ I) L w1 w2 [0]) := by
  refine Sp_of ok_X11_needPerson rfl rfl ?_
  show AW S m_X11_needPerson 13 _ _ 1 6 0 [some (.ref 200), some (.int x1)] [] (hp I L w1 w2 t)
  refine a_l1 rfl rfl rfl ?_
  refine a_if_lt rfl (fun c1 => ?_) (fun c1 => ?_)
  · exact a_throw rfl rfl rfl rfl tX11_ioobe rfl rfl rfl rfl rfl ⟨⟨0, by decide, rfl⟩, _, rfl, Fm.rf⟩
  · refine a_l1 rfl rfl rfl ?_
    refine a_l0 rfl rfl rfl ?_
    refine a_getq rfl gfX11_37_11 rfl (rfl) ?_
    refine a_geti rfl gfX11_179_5 rfl ?_
    refine a_ic_lt rfl (fun c12 => ?_) (fun c12 => ?_)
    · exact a_vret rfl rfl ⟨rfl, rfl⟩
    · exact a_throw rfl rfl rfl rfl tX11_ioobe rfl rfl rfl rfl rfl ⟨⟨0, by decide, rfl⟩, _, rfl, Fm.rf⟩
theorem q_X11_person_200 {S : aS} {I : Nat → Nat → Int32} {L : Nat → Nat → Int64} {w1 w2 t : Nat} {x1 x2 : Int32} : Sp S m_X11_person 19 2 12 [.ref 200, .int x1, .int x2] (hp I L w1 w2 t) (QR (Fm sQ I) isI L w1 w2 t) (XR (Fm sQ I) L w1 w2 [0, 4]) := by
  refine Sp_of ok_X11_person rfl rfl ?_
  show AW S m_X11_person 19 _ _ 2 12 0 [some (.ref 200), some (.int x1), some (.int x2)] [] (hp I L w1 w2 t)
  refine a_l0 rfl rfl rfl ?_
  refine a_l1 rfl rfl rfl ?_
  refine a_callV rfl lX11_110 mo_X11_needPerson (q_X11_needPerson_200) rfl rfl rfl ⟨11, _, rfl, rfl, rfl⟩ rfl (fun v' h' hv => ?_) (fun E h' hx => XR.cm hx (by decide) (fun _ z => z))
  obtain ⟨rfl, rfl⟩ := hv
  refine a_l2 rfl rfl rfl ?_
  refine a_tswA rfl (by decide) (by decide) (fun hx => ?_) (fun i o ho hx => ?_)
  · refine a_pc (pc' := 115) (by decide) ?_
    exact a_throw rfl rfl rfl rfl tX11_nsee rfl rfl rfl rfl rfl ⟨⟨4, by decide, rfl⟩, _, rfl, Fm.rf⟩
  · rcases i with _ | _ | _ | _ | _ | _ | i
    · cases ho
      refine a_pc (pc' := 44) (by decide) ?_
      refine a_l0 rfl rfl rfl ?_
      refine a_getq rfl gfX11_37_11 rfl (rfl) ?_
      refine a_getq rfl gfX11_113_5 rfl (rfl) ?_
      refine a_l1 rfl rfl rfl ?_
      refine a_eS1 rfl lX11_117 mo_X11_at (sp_X11_at rfl) rfl rfl rfl rfl ?_
      exact a_iret rfl rfl ⟨⟨_, rfl⟩, _, rfl, Fm.rf⟩
    · cases ho
      refine a_pc (pc' := 56) (by decide) ?_
      refine a_l0 rfl rfl rfl ?_
      refine a_getq rfl gfX11_37_11 rfl (rfl) ?_
      refine a_getq rfl gfX11_121_5 rfl (rfl) ?_
      refine a_l1 rfl rfl rfl ?_
      refine a_eS1 rfl lX11_117 mo_X11_at (sp_X11_at rfl) rfl rfl rfl rfl ?_
      exact a_iret rfl rfl ⟨⟨_, rfl⟩, _, rfl, Fm.rf⟩
    · cases ho
      refine a_pc (pc' := 68) (by decide) ?_
      refine a_l0 rfl rfl rfl ?_
      refine a_getq rfl gfX11_37_11 rfl (rfl) ?_
      refine a_l1 rfl rfl rfl ?_
      refine a_gV rfl lX11_124 mo_X5_ownedBy (q_X5_ownedBy_235) rfl rfl rfl ⟨5, _, rfl, rfl, rfl⟩ rfl (fun v' h' hv => ?_)
      obtain ⟨⟨v2, rfl⟩, rfl⟩ := hv
      exact a_iret rfl rfl ⟨⟨_, rfl⟩, _, rfl, Fm.rf⟩
    · cases ho
      refine a_pc (pc' := 77) (by decide) ?_
      refine a_l0 rfl rfl rfl ?_
      refine a_getq rfl gfX11_37_11 rfl (rfl) ?_
      refine a_l1 rfl rfl rfl ?_
      refine a_gV rfl lX11_128 mo_X5_loadOf (q_X5_loadOf_235) rfl rfl rfl ⟨5, _, rfl, rfl, rfl⟩ rfl (fun v' h' hv => ?_)
      obtain ⟨⟨v3, rfl⟩, rfl⟩ := hv
      exact a_iret rfl rfl ⟨⟨_, rfl⟩, _, rfl, Fm.rf⟩
    · cases ho
      refine a_pc (pc' := 86) (by decide) ?_
      refine a_l0 rfl rfl rfl ?_
      refine a_getq rfl gfX11_37_11 rfl (rfl) ?_
      refine a_l1 rfl rfl rfl ?_
      refine a_gV rfl lX11_128 mo_X5_loadOf (q_X5_loadOf_235) rfl rfl rfl ⟨5, _, rfl, rfl, rfl⟩ rfl (fun v' h' hv => ?_)
      obtain ⟨⟨v4, rfl⟩, rfl⟩ := hv
      refine a_l0 rfl rfl rfl ?_
      refine a_getq rfl gfX11_37_11 rfl (rfl) ?_
      refine a_getq rfl gfX11_121_5 rfl (rfl) ?_
      refine a_l1 rfl rfl rfl ?_
      refine a_eS1 rfl lX11_117 mo_X11_at (sp_X11_at rfl) rfl rfl rfl rfl ?_
      refine a_eS1 rfl lX11_131 mo_X11_needsOf (sp_X11_needsOf) rfl rfl rfl rfl ?_
      exact a_iret rfl rfl ⟨⟨_, rfl⟩, _, rfl, Fm.rf⟩
    · cases ho
      refine a_pc (pc' := 109) (by decide) ?_
      refine a_l0 rfl rfl rfl ?_
      refine a_l1 rfl rfl rfl ?_
      refine a_gV rfl lX11_135 mo_X11_shareOf (q_X11_shareOf_200) rfl rfl rfl ⟨11, _, rfl, rfl, rfl⟩ rfl (fun v' h' hv => ?_)
      obtain ⟨⟨v5, rfl⟩, I6, rfl, f7⟩ := hv
      exact a_iret rfl rfl ⟨⟨_, rfl⟩, _, rfl, f7⟩
    · cases ho
theorem q_X11_needDuty_200 {S : aS} {I : Nat → Nat → Int32} {L : Nat → Nat → Int64} {w1 w2 t : Nat} {x1 : Int32} : Sp S m_X11_needDuty 13 1 6 [.ref 200, .int x1] (hp I L w1 w2 t) (QE isV (hp I L w1 w2 t)) (XR (Fm sQ I) L w1 w2 [0]) := by
  refine Sp_of ok_X11_needDuty rfl rfl ?_
  show AW S m_X11_needDuty 13 _ _ 1 6 0 [some (.ref 200), some (.int x1)] [] (hp I L w1 w2 t)
  refine a_l1 rfl rfl rfl ?_
  refine a_if_lt rfl (fun c1 => ?_) (fun c1 => ?_)
  · exact a_throw rfl rfl rfl rfl tX11_ioobe rfl rfl rfl rfl rfl ⟨⟨0, by decide, rfl⟩, _, rfl, Fm.rf⟩
  · refine a_l1 rfl rfl rfl ?_
    refine a_l0 rfl rfl rfl ?_
    refine a_getq rfl gfX11_37_11 rfl (rfl) ?_
    refine a_geti rfl gfX11_182_5 rfl ?_
    refine a_ic_lt rfl (fun c12 => ?_) (fun c12 => ?_)
    · exact a_vret rfl rfl ⟨rfl, rfl⟩
    · exact a_throw rfl rfl rfl rfl tX11_ioobe rfl rfl rfl rfl rfl ⟨⟨0, by decide, rfl⟩, _, rfl, Fm.rf⟩
theorem q_X11_duty_200 {S : aS} {I : Nat → Nat → Int32} {L : Nat → Nat → Int64} {w1 w2 t : Nat} {x1 x2 : Int32} : Sp S m_X11_duty 16 2 12 [.ref 200, .int x1, .int x2] (hp I L w1 w2 t) (QR (Fm sQ I) isI L w1 w2 t) (XR (Fm sQ I) L w1 w2 [0, 4]) := by
  refine Sp_of ok_X11_duty rfl rfl ?_
  show AW S m_X11_duty 16 _ _ 2 12 0 [some (.ref 200), some (.int x1), some (.int x2)] [] (hp I L w1 w2 t)
  refine a_l0 rfl rfl rfl ?_
  refine a_l1 rfl rfl rfl ?_
  refine a_callV rfl lX11_141 mo_X11_needDuty (q_X11_needDuty_200) rfl rfl rfl ⟨11, _, rfl, rfl, rfl⟩ rfl (fun v' h' hv => ?_) (fun E h' hx => XR.cm hx (by decide) (fun _ z => z))
  obtain ⟨rfl, rfl⟩ := hv
  refine a_l2 rfl rfl rfl ?_
  refine a_tswA rfl (by decide) (by decide) (fun hx => ?_) (fun i o ho hx => ?_)
  · refine a_pc (pc' := 197) (by decide) ?_
    exact a_throw rfl rfl rfl rfl tX11_nsee rfl rfl rfl rfl rfl ⟨⟨4, by decide, rfl⟩, _, rfl, Fm.rf⟩
  · rcases i with _ | _ | _ | _ | _ | _ | _ | _ | _ | _ | _ | i
    · cases ho
      refine a_pc (pc' := 64) (by decide) ?_
      refine a_l0 rfl rfl rfl ?_
      refine a_getq rfl gfX11_37_11 rfl (rfl) ?_
      refine a_getq rfl gfX11_144_5 rfl (rfl) ?_
      refine a_l1 rfl rfl rfl ?_
      refine a_eS1 rfl lX11_117 mo_X11_at (sp_X11_at rfl) rfl rfl rfl rfl ?_
      exact a_iret rfl rfl ⟨⟨_, rfl⟩, _, rfl, Fm.rf⟩
    · cases ho
      refine a_pc (pc' := 76) (by decide) ?_
      refine a_l0 rfl rfl rfl ?_
      refine a_getq rfl gfX11_37_11 rfl (rfl) ?_
      refine a_getq rfl gfX11_147_5 rfl (rfl) ?_
      refine a_l1 rfl rfl rfl ?_
      refine a_eS1 rfl lX11_117 mo_X11_at (sp_X11_at rfl) rfl rfl rfl rfl ?_
      exact a_iret rfl rfl ⟨⟨_, rfl⟩, _, rfl, Fm.rf⟩
    · cases ho
      refine a_pc (pc' := 88) (by decide) ?_
      refine a_l0 rfl rfl rfl ?_
      refine a_getq rfl gfX11_37_11 rfl (rfl) ?_
      refine a_getq rfl gfX11_150_5 rfl (rfl) ?_
      refine a_l1 rfl rfl rfl ?_
      refine a_eS1 rfl lX11_117 mo_X11_at (sp_X11_at rfl) rfl rfl rfl rfl ?_
      exact a_iret rfl rfl ⟨⟨_, rfl⟩, _, rfl, Fm.rf⟩
    · cases ho
      refine a_pc (pc' := 100) (by decide) ?_
      refine a_l0 rfl rfl rfl ?_
      refine a_getq rfl gfX11_37_11 rfl (rfl) ?_
      refine a_getq rfl gfX11_153_5 rfl (rfl) ?_
      refine a_l1 rfl rfl rfl ?_
      refine a_eS1 rfl lX11_117 mo_X11_at (sp_X11_at rfl) rfl rfl rfl rfl ?_
      exact a_iret rfl rfl ⟨⟨_, rfl⟩, _, rfl, Fm.rf⟩
    · cases ho
      refine a_pc (pc' := 112) (by decide) ?_
      refine a_l0 rfl rfl rfl ?_
      refine a_getq rfl gfX11_37_11 rfl (rfl) ?_
      refine a_getq rfl gfX11_156_5 rfl (rfl) ?_
      refine a_l1 rfl rfl rfl ?_
      refine a_eS1 rfl lX11_117 mo_X11_at (sp_X11_at rfl) rfl rfl rfl rfl ?_
      exact a_iret rfl rfl ⟨⟨_, rfl⟩, _, rfl, Fm.rf⟩
    · cases ho
      refine a_pc (pc' := 124) (by decide) ?_
      refine a_l0 rfl rfl rfl ?_
      refine a_getq rfl gfX11_37_11 rfl (rfl) ?_
      refine a_getq rfl gfX11_159_5 rfl (rfl) ?_
      refine a_l1 rfl rfl rfl ?_
      refine a_eS1 rfl lX11_117 mo_X11_at (sp_X11_at rfl) rfl rfl rfl rfl ?_
      exact a_iret rfl rfl ⟨⟨_, rfl⟩, _, rfl, Fm.rf⟩
    · cases ho
      refine a_pc (pc' := 136) (by decide) ?_
      refine a_l0 rfl rfl rfl ?_
      refine a_getq rfl gfX11_37_11 rfl (rfl) ?_
      refine a_l1 rfl rfl rfl ?_
      refine a_gV rfl lX11_162 mo_X5_isReady (q_X5_isReady_235) rfl rfl rfl ⟨5, _, rfl, rfl, rfl⟩ rfl (fun v' h' hv => ?_)
      obtain ⟨⟨v2, rfl⟩, rfl⟩ := hv
      refine a_if_eq rfl (fun c144 => ?_) (fun c144 => ?_)
      · refine a_s rfl rfl ?_
        exact a_iret rfl rfl ⟨⟨_, rfl⟩, _, rfl, Fm.rf⟩
      · refine a_s rfl rfl ?_
        refine a_goto rfl ?_
        exact a_iret rfl rfl ⟨⟨_, rfl⟩, _, rfl, Fm.rf⟩
    · cases ho
      refine a_pc (pc' := 153) (by decide) ?_
      refine a_l0 rfl rfl rfl ?_
      refine a_getq rfl gfX11_44_11 rfl (rfl) ?_
      refine a_l0 rfl rfl rfl ?_
      refine a_getq rfl gfX11_37_11 rfl (rfl) ?_
      refine a_l1 rfl rfl rfl ?_
      refine a_gV rfl lX11_166 mo_X2_growthOf (q_X2_growthOf_246_235) rfl rfl rfl ⟨2, _, rfl, rfl, rfl⟩ rfl (fun v' h' hv => ?_)
      obtain ⟨⟨v3, rfl⟩, I4, rfl, f5⟩ := hv
      exact a_iret rfl rfl ⟨⟨_, rfl⟩, _, rfl, f5⟩
    · cases ho
      refine a_pc (pc' := 166) (by decide) ?_
      refine a_l0 rfl rfl rfl ?_
      refine a_getq rfl gfX11_44_11 rfl (rfl) ?_
      refine a_l0 rfl rfl rfl ?_
      refine a_getq rfl gfX11_37_11 rfl (rfl) ?_
      refine a_l1 rfl rfl rfl ?_
      refine a_gV rfl lX11_170 mo_X2_shameOf (q_X2_shameOf_246_235) rfl rfl rfl ⟨2, _, rfl, rfl, rfl⟩ rfl (fun v' h' hv => ?_)
      obtain ⟨⟨v6, rfl⟩, I7, rfl, f8⟩ := hv
      exact a_iret rfl rfl ⟨⟨_, rfl⟩, _, rfl, f8⟩
    · cases ho
      refine a_pc (pc' := 179) (by decide) ?_
      refine a_l0 rfl rfl rfl ?_
      refine a_getq rfl gfX11_37_11 rfl (rfl) ?_
      refine a_l1 rfl rfl rfl ?_
      refine a_gV rfl lX11_173 mo_X5_placeOf (q_X5_placeOf_235) rfl rfl rfl ⟨5, _, rfl, rfl, rfl⟩ rfl (fun v' h' hv => ?_)
      obtain ⟨⟨v9, rfl⟩, rfl⟩ := hv
      exact a_iret rfl rfl ⟨⟨_, rfl⟩, _, rfl, Fm.rf⟩
    · cases ho
      refine a_pc (pc' := 188) (by decide) ?_
      refine a_l0 rfl rfl rfl ?_
      refine a_getq rfl gfX11_37_11 rfl (rfl) ?_
      refine a_l1 rfl rfl rfl ?_
      refine a_gV rfl lX11_176 mo_X5_passesOf (q_X5_passesOf_235) rfl rfl rfl ⟨5, _, rfl, rfl, rfl⟩ rfl (fun v' h' hv => ?_)
      obtain ⟨⟨v10, rfl⟩, rfl⟩ := hv
      exact a_iret rfl rfl ⟨⟨_, rfl⟩, _, rfl, Fm.rf⟩
    · cases ho
theorem q_X11_soon_200 {S : aS} {I : Nat → Nat → Int32} {L : Nat → Nat → Int64} {w1 w2 t : Nat} {x1 : Int32} : Sp S m_X11_soon 17 1 6 [.ref 200, .int x1] (hp I L w1 w2 t) (QE isI (hp I L w1 w2 t)) (XR (Fm sQ I) L w1 w2 [0]) := by
  refine Sp_of ok_X11_soon rfl rfl ?_
  show AW S m_X11_soon 17 _ _ 1 6 0 [some (.ref 200), some (.int x1)] [] (hp I L w1 w2 t)
  refine a_l0 rfl rfl rfl ?_
  refine a_l1 rfl rfl rfl ?_
  refine a_callV rfl lX11_141 mo_X11_needDuty (q_X11_needDuty_200) rfl rfl rfl ⟨11, _, rfl, rfl, rfl⟩ rfl (fun v' h' hv => ?_) (fun E h' hx => XR.cm hx (by decide) (fun _ z => z))
  obtain ⟨rfl, rfl⟩ := hv
  refine a_l0 rfl rfl rfl ?_
  refine a_getq rfl gfX11_37_11 rfl (rfl) ?_
  refine a_l1 rfl rfl rfl ?_
  refine a_gS rfl lX11_285 mo_X4_hoursTill (q_X4_hoursTill_235) rfl rfl rfl rfl (fun v' h' hv => ?_)
  obtain ⟨⟨v2, rfl⟩, rfl⟩ := hv
  exact a_iret rfl rfl ⟨⟨_, rfl⟩, rfl⟩
theorem q_X11_before_200 {S : aS} {I : Nat → Nat → Int32} {L : Nat → Nat → Int64} {w1 w2 t : Nat} {x1 : Int32} : Sp S m_X11_before 14 1 6 [.ref 200, .int x1] (hp I L w1 w2 t) (QE isI (hp I L w1 w2 t)) (XR (Fm sQ I) L w1 w2 [0]) := by
  refine Sp_of ok_X11_before rfl rfl ?_
  show AW S m_X11_before 14 _ _ 1 6 0 [some (.ref 200), some (.int x1)] [] (hp I L w1 w2 t)
  refine a_l0 rfl rfl rfl ?_
  refine a_l1 rfl rfl rfl ?_
  refine a_callV rfl lX11_141 mo_X11_needDuty (q_X11_needDuty_200) rfl rfl rfl ⟨11, _, rfl, rfl, rfl⟩ rfl (fun v' h' hv => ?_) (fun E h' hx => XR.cm hx (by decide) (fun _ z => z))
  obtain ⟨rfl, rfl⟩ := hv
  refine a_l0 rfl rfl rfl ?_
  refine a_getq rfl gfX11_37_11 rfl (rfl) ?_
  refine a_l1 rfl rfl rfl ?_
  refine a_gS rfl lX11_298 mo_X4_chainOf (q_X4_chainOf_235) rfl rfl rfl rfl (fun v' h' hv => ?_)
  obtain ⟨⟨v2, rfl⟩, rfl⟩ := hv
  exact a_iret rfl rfl ⟨⟨_, rfl⟩, rfl⟩
theorem q_X11_after_200 {S : aS} {I : Nat → Nat → Int32} {L : Nat → Nat → Int64} {w1 w2 t : Nat} {x1 : Int32} : Sp S m_X11_after 15 1 6 [.ref 200, .int x1] (hp I L w1 w2 t) (QE isI (hp I L w1 w2 t)) (XR (Fm sQ I) L w1 w2 [0]) := by
  refine Sp_of ok_X11_after rfl rfl ?_
  show AW S m_X11_after 15 _ _ 1 6 0 [some (.ref 200), some (.int x1)] [] (hp I L w1 w2 t)
  refine a_l0 rfl rfl rfl ?_
  refine a_l1 rfl rfl rfl ?_
  refine a_callV rfl lX11_141 mo_X11_needDuty (q_X11_needDuty_200) rfl rfl rfl ⟨11, _, rfl, rfl, rfl⟩ rfl (fun v' h' hv => ?_) (fun E h' hx => XR.cm hx (by decide) (fun _ z => z))
  obtain ⟨rfl, rfl⟩ := hv
  refine a_l0 rfl rfl rfl ?_
  refine a_getq rfl gfX11_37_11 rfl (rfl) ?_
  refine a_l1 rfl rfl rfl ?_
  refine a_gS rfl lX11_301 mo_X4_leaningOn (q_X4_leaningOn_235) rfl rfl rfl rfl (fun v' h' hv => ?_)
  obtain ⟨⟨v2, rfl⟩, rfl⟩ := hv
  exact a_iret rfl rfl ⟨⟨_, rfl⟩, rfl⟩
theorem q_X11_depth_200 {S : aS} {I : Nat → Nat → Int32} {L : Nat → Nat → Int64} {w1 w2 t : Nat} {x1 : Int32} : Sp S m_X11_depth 14 1 6 [.ref 200, .int x1] (hp I L w1 w2 t) (QE isI (hp I L w1 w2 t)) (XR (Fm sQ I) L w1 w2 [0]) := by
  refine Sp_of ok_X11_depth rfl rfl ?_
  show AW S m_X11_depth 14 _ _ 1 6 0 [some (.ref 200), some (.int x1)] [] (hp I L w1 w2 t)
  refine a_l0 rfl rfl rfl ?_
  refine a_l1 rfl rfl rfl ?_
  refine a_callV rfl lX11_141 mo_X11_needDuty (q_X11_needDuty_200) rfl rfl rfl ⟨11, _, rfl, rfl, rfl⟩ rfl (fun v' h' hv => ?_) (fun E h' hx => XR.cm hx (by decide) (fun _ z => z))
  obtain ⟨rfl, rfl⟩ := hv
  refine a_l0 rfl rfl rfl ?_
  refine a_getq rfl gfX11_37_11 rfl (rfl) ?_
  refine a_l1 rfl rfl rfl ?_
  refine a_gS rfl lX11_298 mo_X4_chainOf (q_X4_chainOf_235) rfl rfl rfl rfl (fun v' h' hv => ?_)
  obtain ⟨⟨v2, rfl⟩, rfl⟩ := hv
  refine a_l0 rfl rfl rfl ?_
  refine a_getq rfl gfX11_37_11 rfl (rfl) ?_
  refine a_s rfl rfl ?_
  refine a_gV rfl lX11_200 mo_X5_bitsIn (q_X5_bitsIn_235) rfl rfl rfl ⟨5, _, rfl, rfl, rfl⟩ rfl (fun v' h' hv => ?_)
  obtain ⟨⟨v3, rfl⟩, rfl⟩ := hv
  refine a_s rfl rfl ?_
  refine a_s rfl rfl ?_
  refine a_s rfl rfl ?_
  refine a_eS1 rfl lX11_261 mo_J6_bitCount_0f7a4 (sp_bitCount) rfl rfl rfl rfl ?_
  exact a_iret rfl rfl ⟨⟨_, rfl⟩, rfl⟩
theorem q_X11_older_200 {S : aS} {I : Nat → Nat → Int32} {L : Nat → Nat → Int64} {w1 w2 t : Nat} {x1 : Int32} : Sp S m_X11_older 15 1 6 [.ref 200, .int x1] (hp I L w1 w2 t) (QE isI (hp I L w1 w2 t)) (XR (Fm sQ I) L w1 w2 [1]) := by
  refine Sp_of ok_X11_older rfl rfl ?_
  show AW S m_X11_older 15 _ _ 1 6 0 [some (.ref 200), some (.int x1)] [] (hp I L w1 w2 t)
  refine a_l1 rfl rfl rfl ?_
  refine a_s rfl rfl ?_
  refine a_s rfl rfl ?_
  refine a_callS rfl lX11_250 mo_X11_needNumber q_needNumber rfl rfl rfl rfl (fun v' h' hv => ?_) (fun E h' hx => XR.cm hx (by decide) (fun _ z => z))
  obtain ⟨rfl, rfl, hbm1⟩ := hv
  obtain ⟨m1, hm1a, hm1b, rfl⟩ := inB_nI (a := 0) (b := 99) (by decide) hbm1
  refine a_l0 rfl rfl rfl ?_
  refine a_getq rfl gfX11_37_11 rfl (rfl) ?_
  refine a_l1 rfl rfl rfl ?_
  refine a_gV rfl lX11_307 mo_X5_olderThan (q_X5_olderThan_235) rfl rfl rfl ⟨5, _, rfl, rfl, rfl⟩ rfl (fun v' h' hv => ?_)
  obtain ⟨⟨v2, rfl⟩, rfl⟩ := hv
  refine a_eS1 rfl lX11_261 mo_J6_bitCount_0f7a4 (sp_bitCount) rfl rfl rfl rfl ?_
  exact a_iret rfl rfl ⟨⟨_, rfl⟩, rfl⟩
theorem q_X11_young_200 {S : aS} {I : Nat → Nat → Int32} {L : Nat → Nat → Int64} {w1 w2 t : Nat} {x1 : Int32} : Sp S m_X11_young 17 1 6 [.ref 200, .int x1] (hp I L w1 w2 t) (QE isI (hp I L w1 w2 t)) (XR (Fm sQ I) L w1 w2 [1]) := by
  refine Sp_of ok_X11_young rfl rfl ?_
  show AW S m_X11_young 17 _ _ 1 6 0 [some (.ref 200), some (.int x1)] [] (hp I L w1 w2 t)
  refine a_l1 rfl rfl rfl ?_
  refine a_s rfl rfl ?_
  refine a_s rfl rfl ?_
  refine a_callS rfl lX11_250 mo_X11_needNumber q_needNumber rfl rfl rfl rfl (fun v' h' hv => ?_) (fun E h' hx => XR.cm hx (by decide) (fun _ z => z))
  obtain ⟨rfl, rfl, hbm1⟩ := hv
  obtain ⟨m1, hm1a, hm1b, rfl⟩ := inB_nI (a := 0) (b := 98) (by decide) hbm1
  refine a_l0 rfl rfl rfl ?_
  refine a_getq rfl gfX11_37_11 rfl (rfl) ?_
  refine a_l1 rfl rfl rfl ?_
  refine a_gS rfl lX11_304 mo_X4_hoursTillYoung (q_X4_hoursTillYoung_235) rfl rfl rfl rfl (fun v' h' hv => ?_)
  obtain ⟨⟨v2, rfl⟩, rfl⟩ := hv
  exact a_iret rfl rfl ⟨⟨_, rfl⟩, rfl⟩
theorem q_X5_kerbAt_235 {S : aS} {I : Nat → Nat → Int32} {L : Nat → Nat → Int64} {w1 w2 t : Nat} {x1 x2 : Int32} : Sp S m_X5_kerbAt 15 0 0 [.ref 235, .int x1, .int x2] (hp I L w1 w2 t) (QE isI (hp I L w1 w2 t)) nX := by
  refine Sp_of ok_X5_kerbAt rfl rfl ?_
  show AW S m_X5_kerbAt 15 _ _ 0 0 0 [some (.ref 235), some (.int x1), some (.int x2), none, none] [] (hp I L w1 w2 t)
  refine a_l0 rfl rfl rfl ?_
  refine a_l1 rfl rfl rfl ?_
  refine a_gV rfl lX5_113 mo_X5_placeOf (q_X5_placeOf_235) rfl rfl rfl ⟨5, _, rfl, rfl, rfl⟩ rfl (fun v' h' hv => ?_)
  obtain ⟨⟨v1, rfl⟩, rfl⟩ := hv
  refine a_s3 rfl rfl rfl rfl rfl rfl ?_
  refine a_l3 rfl rfl rfl ?_
  refine a_s rfl rfl ?_
  refine a_ic_eq rfl (fun c8 => ?_) (fun c8 => ?_)
  · refine a_s rfl rfl ?_
    exact a_iret rfl rfl ⟨⟨_, rfl⟩, rfl⟩
  · refine a_l0 rfl rfl rfl ?_
    refine a_geti rfl gfX5_40_5 rfl ?_
    refine a_s rfl rfl ?_
    refine a_ic_ge rfl (fun c16 => ?_) (fun c16 => ?_)
    · refine a_l2 rfl rfl rfl ?_
      refine a_l0 rfl rfl rfl ?_
      refine a_geti rfl gfX5_40_5 rfl ?_
      refine a_idiv rfl (fun z => by rw [z] at c16; exact absurd c16 (by decide)) ?_
      refine a_l3 rfl rfl rfl ?_
      refine a_s rfl rfl ?_
      refine a_s4 rfl rfl rfl rfl rfl rfl ?_
      refine a_l4 rfl rfl rfl ?_
      refine a_if_ge rfl (fun c33 => ?_) (fun c33 => ?_)
      · refine a_l4 rfl rfl rfl ?_
        refine a_s rfl rfl ?_
        refine a_min rfl lX5_127 mj_min rfl rfl ?_
        exact a_iret rfl rfl ⟨⟨_, rfl⟩, rfl⟩
      · refine a_s rfl rfl ?_
        refine a_goto rfl ?_
        exact a_iret rfl rfl ⟨⟨_, rfl⟩, rfl⟩
    · refine a_s rfl rfl ?_
      exact a_iret rfl rfl ⟨⟨_, rfl⟩, rfl⟩
theorem q_X11_where_200 {S : aS} {I : Nat → Nat → Int32} {L : Nat → Nat → Int64} {w1 w2 t : Nat} {x1 x2 : Int32} : Sp S m_X11_where 16 2 12 [.ref 200, .int x1, .int x2] (hp I L w1 w2 t) (QE isI (hp I L w1 w2 t)) (XR (Fm sQ I) L w1 w2 [0, 1]) := by
  refine Sp_of ok_X11_where rfl rfl ?_
  show AW S m_X11_where 16 _ _ 2 12 0 [some (.ref 200), some (.int x1), some (.int x2)] [] (hp I L w1 w2 t)
  refine a_l0 rfl rfl rfl ?_
  refine a_l1 rfl rfl rfl ?_
  refine a_callV rfl lX11_141 mo_X11_needDuty (q_X11_needDuty_200) rfl rfl rfl ⟨11, _, rfl, rfl, rfl⟩ rfl (fun v' h' hv => ?_) (fun E h' hx => XR.cm hx (by decide) (fun _ z => z))
  obtain ⟨rfl, rfl⟩ := hv
  refine a_l2 rfl rfl rfl ?_
  refine a_s rfl rfl ?_
  refine a_s rfl rfl ?_
  refine a_callS rfl lX11_250 mo_X11_needNumber q_needNumber rfl rfl rfl rfl (fun v' h' hv => ?_) (fun E h' hx => XR.cm hx (by decide) (fun _ z => z))
  obtain ⟨rfl, rfl, hbm2⟩ := hv
  obtain ⟨m2, hm2a, hm2b, rfl⟩ := inB_nI (a := 0) (b := 300) (by decide) hbm2
  refine a_l0 rfl rfl rfl ?_
  refine a_getq rfl gfX11_37_11 rfl (rfl) ?_
  refine a_l1 rfl rfl rfl ?_
  refine a_l2 rfl rfl rfl ?_
  refine a_gV rfl lX11_272 mo_X5_kerbAt (q_X5_kerbAt_235) rfl rfl rfl ⟨5, _, rfl, rfl, rfl⟩ rfl (fun v' h' hv => ?_)
  obtain ⟨⟨v3, rfl⟩, rfl⟩ := hv
  exact a_iret rfl rfl ⟨⟨_, rfl⟩, rfl⟩
theorem q_X11_needKerb {S : aS} {I : Nat → Nat → Int32} {L : Nat → Nat → Int64} {w1 w2 t : Nat} {x0 : Int32} : Sp S m_X11_needKerb 13 1 6 [.int x0] (hp I L w1 w2 t) (QE isV (hp I L w1 w2 t)) (XR (Fm sQ I) L w1 w2 [0]) := by
  refine Sp_of ok_X11_needKerb rfl rfl ?_
  show AW S m_X11_needKerb 13 _ _ 1 6 0 [some (.int x0)] [] (hp I L w1 w2 t)
  refine a_l0 rfl rfl rfl ?_
  refine a_if_lt rfl (fun c1 => ?_) (fun c1 => ?_)
  · exact a_throw rfl rfl rfl rfl tX11_ioobe rfl rfl rfl rfl rfl ⟨⟨0, by decide, rfl⟩, _, rfl, Fm.rf⟩
  · refine a_l0 rfl rfl rfl ?_
    refine a_s rfl rfl ?_
    refine a_ic_le rfl (fun c7 => ?_) (fun c7 => ?_)
    · exact a_vret rfl rfl ⟨rfl, rfl⟩
    · exact a_throw rfl rfl rfl rfl tX11_ioobe rfl rfl rfl rfl rfl ⟨⟨0, by decide, rfl⟩, _, rfl, Fm.rf⟩
theorem q_X11_greets_200 {S : aS} {I : Nat → Nat → Int32} {L : Nat → Nat → Int64} {w1 w2 t : Nat} {x1 x2 : Int32} : Sp S m_X11_greets 15 2 12 [.ref 200, .int x1, .int x2] (hp I L w1 w2 t) (QE isI (hp I L w1 w2 t)) (XR (Fm sQ I) L w1 w2 [0]) := by
  refine Sp_of ok_X11_greets rfl rfl ?_
  show AW S m_X11_greets 15 _ _ 2 12 0 [some (.ref 200), some (.int x1), some (.int x2), none] [] (hp I L w1 w2 t)
  refine a_l0 rfl rfl rfl ?_
  refine a_l1 rfl rfl rfl ?_
  refine a_callV rfl lX11_141 mo_X11_needDuty (q_X11_needDuty_200) rfl rfl rfl ⟨11, _, rfl, rfl, rfl⟩ rfl (fun v' h' hv => ?_) (fun E h' hx => XR.cm hx (by decide) (fun _ z => z))
  obtain ⟨rfl, rfl⟩ := hv
  refine a_l2 rfl rfl rfl ?_
  refine a_callS rfl lX11_269 mo_X11_needKerb (q_X11_needKerb) rfl rfl rfl rfl (fun v' h' hv => ?_) (fun E h' hx => XR.cm hx (by decide) (fun _ z => z))
  obtain ⟨rfl, rfl⟩ := hv
  refine a_l0 rfl rfl rfl ?_
  refine a_getq rfl gfX11_37_11 rfl (rfl) ?_
  refine a_l1 rfl rfl rfl ?_
  refine a_gV rfl lX11_173 mo_X5_placeOf (q_X5_placeOf_235) rfl rfl rfl ⟨5, _, rfl, rfl, rfl⟩ rfl (fun v' h' hv => ?_)
  obtain ⟨⟨v3, rfl⟩, rfl⟩ := hv
  refine a_s3 rfl rfl rfl rfl rfl rfl ?_
  refine a_l3 rfl rfl rfl ?_
  refine a_s rfl rfl ?_
  refine a_ic_ne rfl (fun c20 => ?_) (fun c20 => ?_)
  · refine a_l0 rfl rfl rfl ?_
    refine a_getq rfl gfX11_37_11 rfl (rfl) ?_
    refine a_geti rfl gfX11_194_5 rfl ?_
    refine a_l3 rfl rfl rfl ?_
    refine a_l2 rfl rfl rfl ?_
    refine a_s rfl rfl ?_
    refine a_s rfl rfl ?_
    exact a_iret rfl rfl ⟨⟨_, rfl⟩, rfl⟩
  · refine a_s rfl rfl ?_
    refine a_goto rfl ?_
    exact a_iret rfl rfl ⟨⟨_, rfl⟩, rfl⟩
theorem q_X11_crowd_200 {S : aS} {I : Nat → Nat → Int32} {L : Nat → Nat → Int64} {w1 w2 t : Nat} {x1 x2 x3 : Int32} : Sp S m_X11_crowd 16 4 24 [.ref 200, .int x1, .int x2, .int x3] (hp I L w1 w2 t) (QE isI (hp I L w1 w2 t)) (XR (Fm sQ I) L w1 w2 [0, 1]) := by
  refine Sp_of ok_X11_crowd rfl rfl ?_
  show AW S m_X11_crowd 16 _ _ 4 24 0 [some (.ref 200), some (.int x1), some (.int x2), some (.int x3), none, none, none] [] (hp I L w1 w2 t)
  refine a_l1 rfl rfl rfl ?_
  refine a_callS rfl lX11_269 mo_X11_needKerb (q_X11_needKerb) rfl rfl rfl rfl (fun v' h' hv => ?_) (fun E h' hx => XR.cm hx (by decide) (fun _ z => z))
  obtain ⟨rfl, rfl⟩ := hv
  refine a_l2 rfl rfl rfl ?_
  refine a_callS rfl lX11_269 mo_X11_needKerb (q_X11_needKerb) rfl rfl rfl rfl (fun v' h' hv => ?_) (fun E h' hx => XR.cm hx (by decide) (fun _ z => z))
  obtain ⟨rfl, rfl⟩ := hv
  refine a_l3 rfl rfl rfl ?_
  refine a_s rfl rfl ?_
  refine a_s rfl rfl ?_
  refine a_callS rfl lX11_250 mo_X11_needNumber q_needNumber rfl rfl rfl rfl (fun v' h' hv => ?_) (fun E h' hx => XR.cm hx (by decide) (fun _ z => z))
  obtain ⟨rfl, rfl, hbm3⟩ := hv
  obtain ⟨m3, hm3a, hm3b, rfl⟩ := inB_nI (a := 0) (b := 300) (by decide) hbm3
  refine a_l1 rfl rfl rfl ?_
  refine a_s rfl rfl ?_
  refine a_l2 rfl rfl rfl ?_
  refine a_callS rfl lX11_250 mo_X11_needNumber q_needNumber rfl rfl rfl rfl (fun v' h' hv => ?_) (fun E h' hx => XR.cm hx (by decide) (fun _ z => z))
  obtain ⟨rfl, rfl, hbm4⟩ := hv
  refine a_s rfl rfl ?_
  refine a_s4 rfl rfl rfl rfl rfl rfl ?_
  refine a_s rfl rfl ?_
  refine a_s5 rfl rfl rfl rfl rfl rfl ?_
  refine a_cnt (j0 := 0) (fun j ls h => ∃ a0, ls = [some (.ref 200), some (.int x1), some (.int x2), some (.int (nI m3)), some (.int a0), some (.int (nI j)), none] ∧ h = hp I L w1 w2 t) (by decide) ⟨_, rfl, rfl⟩ ⟨rfl, rfl, rfl, rfl, rfl, rfl, trivial⟩ ?_
  rintro j28 _ _ hj28 ⟨a0_28, rfl, rfl⟩ ih28
  refine a_l5 rfl rfl rfl ?_
  refine a_l0 rfl rfl rfl ?_
  refine a_getq rfl gfX11_37_11 rfl (rfl) ?_
  refine a_geti rfl gfX11_182_5 rfl ?_
  refine a_ic_ge rfl (fun c37 => ?_) (fun c37 => ?_)
  · refine a_l4 rfl rfl rfl ?_
    exact a_iret rfl rfl ⟨⟨_, rfl⟩, rfl⟩
  · refine a_l0 rfl rfl rfl ?_
    refine a_getq rfl gfX11_37_11 rfl (rfl) ?_
    refine a_l5 rfl rfl rfl ?_
    refine a_l3 rfl rfl rfl ?_
    refine a_gV rfl lX11_272 mo_X5_kerbAt (q_X5_kerbAt_235) rfl rfl rfl ⟨5, _, rfl, rfl, rfl⟩ rfl (fun v' h' hv => ?_)
    obtain ⟨⟨v5, rfl⟩, rfl⟩ := hv
    refine a_s6 rfl rfl rfl rfl rfl rfl ?_
    refine a_l6 rfl rfl rfl ?_
    refine a_l1 rfl rfl rfl ?_
    refine a_ic_lt rfl (fun c55 => ?_) (fun c55 => ?_)
    · refine a_i5 rfl rfl rfl ?_
      refine a_goto rfl ?_
      exact ih28 _ _ _ _ c37 ⟨_, rfl, rfl⟩ ⟨rfl, rfl, rfl, rfl, rfl, nS _, trivial⟩
    · refine a_l6 rfl rfl rfl ?_
      refine a_l2 rfl rfl rfl ?_
      refine a_ic_gt rfl (fun c61 => ?_) (fun c61 => ?_)
      · refine a_i5 rfl rfl rfl ?_
        refine a_goto rfl ?_
        exact ih28 _ _ _ _ c37 ⟨_, rfl, rfl⟩ ⟨rfl, rfl, rfl, rfl, rfl, nS _, trivial⟩
      · refine a_i4 rfl rfl rfl ?_
        refine a_i5 rfl rfl rfl ?_
        refine a_goto rfl ?_
        exact ih28 _ _ _ _ c37 ⟨_, rfl, rfl⟩ ⟨rfl, rfl, rfl, rfl, rfl, nS _, trivial⟩
theorem q_X11_needTwo {S : aS} {I : Nat → Nat → Int32} {L : Nat → Nat → Int64} {w1 w2 t : Nat} {x0 x1 : Int32} : Sp S m_X11_needTwo 13 1 6 [.int x0, .int x1] (hp I L w1 w2 t) (QE isV (hp I L w1 w2 t)) (XR (Fm sQ I) L w1 w2 [1]) := by
  refine Sp_of ok_X11_needTwo rfl rfl ?_
  show AW S m_X11_needTwo 13 _ _ 1 6 0 [some (.int x0), some (.int x1)] [] (hp I L w1 w2 t)
  refine a_l0 rfl rfl rfl ?_
  refine a_l1 rfl rfl rfl ?_
  refine a_ic_ne rfl (fun c2 => ?_) (fun c2 => ?_)
  · exact a_vret rfl rfl ⟨rfl, rfl⟩
  · exact a_throw rfl rfl rfl rfl tX11_iae rfl rfl rfl rfl rfl ⟨⟨1, by decide, rfl⟩, _, rfl, Fm.rf⟩
theorem q_X11_swap_200 {S : aS} {I : Nat → Nat → Int32} {L : Nat → Nat → Int64} {w1 w2 t : Nat} {x1 x2 : Int32} : Sp S m_X11_swap 17 3 18 [.ref 200, .int x1, .int x2] (hp I L w1 w2 t) (QE isI (hp I L w1 w2 t)) (XR (Fm sQ I) L w1 w2 [0, 1]) := by
  refine Sp_of ok_X11_swap rfl rfl ?_
  show AW S m_X11_swap 17 _ _ 3 18 0 [some (.ref 200), some (.int x1), some (.int x2)] [] (hp I L w1 w2 t)
  refine a_l0 rfl rfl rfl ?_
  refine a_l1 rfl rfl rfl ?_
  refine a_callV rfl lX11_110 mo_X11_needPerson (q_X11_needPerson_200) rfl rfl rfl ⟨11, _, rfl, rfl, rfl⟩ rfl (fun v' h' hv => ?_) (fun E h' hx => XR.cm hx (by decide) (fun _ z => z))
  obtain ⟨rfl, rfl⟩ := hv
  refine a_l0 rfl rfl rfl ?_
  refine a_l2 rfl rfl rfl ?_
  refine a_callV rfl lX11_110 mo_X11_needPerson (q_X11_needPerson_200) rfl rfl rfl ⟨11, _, rfl, rfl, rfl⟩ rfl (fun v' h' hv => ?_) (fun E h' hx => XR.cm hx (by decide) (fun _ z => z))
  obtain ⟨rfl, rfl⟩ := hv
  refine a_l1 rfl rfl rfl ?_
  refine a_l2 rfl rfl rfl ?_
  refine a_callS rfl lX11_247 mo_X11_needTwo (q_X11_needTwo) rfl rfl rfl rfl (fun v' h' hv => ?_) (fun E h' hx => XR.cm hx (by decide) (fun _ z => z))
  obtain ⟨rfl, rfl⟩ := hv
  refine a_l0 rfl rfl rfl ?_
  refine a_getq rfl gfX11_37_11 rfl (rfl) ?_
  refine a_l1 rfl rfl rfl ?_
  refine a_l2 rfl rfl rfl ?_
  refine a_gS rfl lX11_322 mo_X0_firstSwap (q_X0_firstSwap_235) rfl rfl rfl rfl (fun v' h' hv => ?_)
  obtain ⟨⟨v4, rfl⟩, rfl⟩ := hv
  exact a_iret rfl rfl ⟨⟨_, rfl⟩, rfl⟩
theorem q_X11_rests_200 {S : aS} {I : Nat → Nat → Int32} {L : Nat → Nat → Int64} {w1 w2 t : Nat} {x1 x2 x3 : Int32} : Sp S m_X11_rests 16 4 24 [.ref 200, .int x1, .int x2, .int x3] (hp I L w1 w2 t) (QR (Fm sQ I) isI L w1 w2 t) (XR (Fm sQ I) L w1 w2 [0, 1]) := by
  refine Sp_of ok_X11_rests rfl rfl ?_
  show AW S m_X11_rests 16 _ _ 4 24 0 [some (.ref 200), some (.int x1), some (.int x2), some (.int x3)] [] (hp I L w1 w2 t)
  refine a_l0 rfl rfl rfl ?_
  refine a_l1 rfl rfl rfl ?_
  refine a_callV rfl lX11_110 mo_X11_needPerson (q_X11_needPerson_200) rfl rfl rfl ⟨11, _, rfl, rfl, rfl⟩ rfl (fun v' h' hv => ?_) (fun E h' hx => XR.cm hx (by decide) (fun _ z => z))
  obtain ⟨rfl, rfl⟩ := hv
  refine a_l0 rfl rfl rfl ?_
  refine a_l2 rfl rfl rfl ?_
  refine a_callV rfl lX11_110 mo_X11_needPerson (q_X11_needPerson_200) rfl rfl rfl ⟨11, _, rfl, rfl, rfl⟩ rfl (fun v' h' hv => ?_) (fun E h' hx => XR.cm hx (by decide) (fun _ z => z))
  obtain ⟨rfl, rfl⟩ := hv
  refine a_l0 rfl rfl rfl ?_
  refine a_l3 rfl rfl rfl ?_
  refine a_callV rfl lX11_141 mo_X11_needDuty (q_X11_needDuty_200) rfl rfl rfl ⟨11, _, rfl, rfl, rfl⟩ rfl (fun v' h' hv => ?_) (fun E h' hx => XR.cm hx (by decide) (fun _ z => z))
  obtain ⟨rfl, rfl⟩ := hv
  refine a_l1 rfl rfl rfl ?_
  refine a_l2 rfl rfl rfl ?_
  refine a_callS rfl lX11_247 mo_X11_needTwo (q_X11_needTwo) rfl rfl rfl rfl (fun v' h' hv => ?_) (fun E h' hx => XR.cm hx (by decide) (fun _ z => z))
  obtain ⟨rfl, rfl⟩ := hv
  refine a_l0 rfl rfl rfl ?_
  refine a_getq rfl gfX11_44_11 rfl (rfl) ?_
  refine a_l0 rfl rfl rfl ?_
  refine a_getq rfl gfX11_37_11 rfl (rfl) ?_
  refine a_l3 rfl rfl rfl ?_
  refine a_gV rfl lX11_170 mo_X2_shameOf (q_X2_shameOf_246_235) rfl rfl rfl ⟨2, _, rfl, rfl, rfl⟩ rfl (fun v' h' hv => ?_)
  obtain ⟨⟨v5, rfl⟩, I6, rfl, f7⟩ := hv
  refine a_l0 rfl rfl rfl ?_
  refine a_getq rfl gfX11_37_11 rfl (rfl) ?_
  refine a_getq rfl gfX11_147_5 rfl (rfl) ?_
  refine a_l3 rfl rfl rfl ?_
  refine a_eS1 rfl lX11_117 mo_X11_at (sp_X11_at rfl) rfl rfl rfl rfl ?_
  refine a_gS rfl lX11_326 mo_X0_restingChoices (q_X0_restingChoices) rfl rfl rfl rfl (fun v' h' hv => ?_)
  obtain ⟨⟨v8, rfl⟩, rfl⟩ := hv
  exact a_iret rfl rfl ⟨⟨_, rfl⟩, _, rfl, f7⟩
theorem q_X11_done_200 {S : aS} {I : Nat → Nat → Int32} {L : Nat → Nat → Int64} {w1 w2 t : Nat} {x1 : Int32} : Sp S m_X11_done 19 1 6 [.ref 200, .int x1] (hp I L w1 w2 t) (QR (Fm sQ I) isI L w1 w2 t) (XR (Fm sQ I) L w1 w2 [0]) := by
  refine Sp_of ok_X11_done rfl rfl ?_
  show AW S m_X11_done 19 _ _ 1 6 0 [some (.ref 200), some (.int x1)] [] (hp I L w1 w2 t)
  refine a_l0 rfl rfl rfl ?_
  refine a_l1 rfl rfl rfl ?_
  refine a_callV rfl lX11_141 mo_X11_needDuty (q_X11_needDuty_200) rfl rfl rfl ⟨11, _, rfl, rfl, rfl⟩ rfl (fun v' h' hv => ?_) (fun E h' hx => XR.cm hx (by decide) (fun _ z => z))
  obtain ⟨rfl, rfl⟩ := hv
  refine a_l0 rfl rfl rfl ?_
  refine a_getq rfl gfX11_55_11 rfl (rfl) ?_
  refine a_l0 rfl rfl rfl ?_
  refine a_getq rfl gfX11_37_11 rfl (rfl) ?_
  refine a_eV0 rfl lX11_78 mo_X5_copyFrom (sp_X5_copyFrom (a := 257) (b := 235) (by decide) (by decide) (by decide)) rfl rfl rfl ⟨5, _, rfl, rfl, rfl⟩ rfl ?_
  refine a_ren (P := Fm sQ I) (Fm.cp (Fm.rf (s := sQ)) sQ_257) (fun I2 f3 => ?_)
  refine a_l0 rfl rfl rfl ?_
  refine a_getq rfl gfX11_55_11 rfl (rfl) ?_
  refine a_l0 rfl rfl rfl ?_
  refine a_getq rfl gfX11_44_11 rfl (rfl) ?_
  refine a_l1 rfl rfl rfl ?_
  refine a_gV rfl lX11_342 mo_X5_daysTillDone (q_X5_daysTillDone_257_246) rfl rfl rfl ⟨5, _, rfl, rfl, rfl⟩ rfl (fun v' h' hv => ?_)
  obtain ⟨⟨v4, rfl⟩, I5, rfl, f6⟩ := hv
  replace f6 : Fm sQ I I5 := Fm.tr (f3) (f6)
  exact a_iret rfl rfl ⟨⟨_, rfl⟩, _, rfl, f6⟩
theorem q_X11_all_200 {S : aS} {I : Nat → Nat → Int32} {L : Nat → Nat → Int64} {w1 w2 t : Nat} : Sp S m_X11_all 19 0 0 [.ref 200] (hp I L w1 w2 t) (QR (Fm sQ I) isI L w1 w2 t) nX := by
  refine Sp_of ok_X11_all rfl rfl ?_
  show AW S m_X11_all 19 _ _ 0 0 0 [some (.ref 200), none] [] (hp I L w1 w2 t)
  refine a_l0 rfl rfl rfl ?_
  refine a_getq rfl gfX11_55_11 rfl (rfl) ?_
  refine a_l0 rfl rfl rfl ?_
  refine a_getq rfl gfX11_37_11 rfl (rfl) ?_
  refine a_eV0 rfl lX11_78 mo_X5_copyFrom (sp_X5_copyFrom (a := 257) (b := 235) (by decide) (by decide) (by decide)) rfl rfl rfl ⟨5, _, rfl, rfl, rfl⟩ rfl ?_
  refine a_ren (P := Fm sQ I) (Fm.cp (Fm.rf (s := sQ)) sQ_257) (fun I1 f2 => ?_)
  refine a_l0 rfl rfl rfl ?_
  refine a_getq rfl gfX11_55_11 rfl (rfl) ?_
  refine a_l0 rfl rfl rfl ?_
  refine a_getq rfl gfX11_44_11 rfl (rfl) ?_
  refine a_gV rfl lX11_346 mo_X5_daysTillNoneWaits (q_X5_daysTillNoneWaits_257_246) rfl rfl rfl ⟨5, _, rfl, rfl, rfl⟩ rfl (fun v' h' hv => ?_)
  obtain ⟨⟨v3, rfl⟩, I4, rfl, f5⟩ := hv
  replace f5 : Fm sQ I I4 := Fm.tr (f2) (f5)
  refine a_s1 rfl rfl rfl rfl rfl rfl ?_
  refine a_l1 rfl rfl rfl ?_
  refine a_s rfl rfl ?_
  refine a_ic_ne rfl (fun c27 => ?_) (fun c27 => ?_)
  · refine a_l1 rfl rfl rfl ?_
    exact a_iret rfl rfl ⟨⟨_, rfl⟩, _, rfl, f5⟩
  · refine a_s rfl rfl ?_
    refine a_goto rfl ?_
    exact a_iret rfl rfl ⟨⟨_, rfl⟩, _, rfl, f5⟩
theorem q_X11_help_200 {S : aS} {I : Nat → Nat → Int32} {L : Nat → Nat → Int64} {w1 w2 t : Nat} : Sp S m_X11_help 19 0 0 [.ref 200] (hp I L w1 w2 t) (QR (Fm sQ I) isI L w1 w2 t) nX := by
  refine Sp_of ok_X11_help rfl rfl ?_
  show AW S m_X11_help 19 _ _ 0 0 0 [some (.ref 200), none, none, none, none] [] (hp I L w1 w2 t)
  refine a_l0 rfl rfl rfl ?_
  refine a_getq rfl gfX11_55_11 rfl (rfl) ?_
  refine a_l0 rfl rfl rfl ?_
  refine a_getq rfl gfX11_37_11 rfl (rfl) ?_
  refine a_eV0 rfl lX11_78 mo_X5_copyFrom (sp_X5_copyFrom (a := 257) (b := 235) (by decide) (by decide) (by decide)) rfl rfl rfl ⟨5, _, rfl, rfl, rfl⟩ rfl ?_
  refine a_ren (P := Fm sQ I) (Fm.cp (Fm.rf (s := sQ)) sQ_257) (fun I1 f2 => ?_)
  refine a_l0 rfl rfl rfl ?_
  refine a_getq rfl gfX11_55_11 rfl (rfl) ?_
  refine a_l0 rfl rfl rfl ?_
  refine a_getq rfl gfX11_44_11 rfl (rfl) ?_
  refine a_gV rfl lX11_346 mo_X5_daysTillNoneWaits (q_X5_daysTillNoneWaits_257_246) rfl rfl rfl ⟨5, _, rfl, rfl, rfl⟩ rfl (fun v' h' hv => ?_)
  obtain ⟨⟨v3, rfl⟩, I4, rfl, f5⟩ := hv
  replace f5 : Fm sQ I I4 := Fm.tr (f2) (f5)
  refine a_s1 rfl rfl rfl rfl rfl rfl ?_
  refine a_s rfl rfl ?_
  refine a_s2 rfl rfl rfl rfl rfl rfl ?_
  refine a_s rfl rfl ?_
  refine a_s3 rfl rfl rfl rfl rfl rfl ?_
  refine a_cnt (j0 := 0) (fun j ls h => ∃ a0, ∃ a1, ∃ I', ls = [some (.ref 200), some (.int a0), some (.int a1), some (.int (nI j)), none] ∧ h = hp I' L w1 w2 t ∧ Fm sQ I I') (by decide) ⟨_, _, _, rfl, rfl, f5⟩ ⟨rfl, rfl, rfl, rfl, trivial⟩ ?_
  rintro j27 _ _ hj27 ⟨a0_27, a1_27, Ih27, rfl, rfl, fh27⟩ ih27
  refine a_l3 rfl rfl rfl ?_
  refine a_l0 rfl rfl rfl ?_
  refine a_getq rfl gfX11_37_11 rfl (rfl) ?_
  refine a_geti rfl gfX11_179_5 rfl ?_
  refine a_ic_ge rfl (fun c35 => ?_) (fun c35 => ?_)
  · refine a_l2 rfl rfl rfl ?_
    exact a_iret rfl rfl ⟨⟨_, rfl⟩, _, rfl, fh27⟩
  · refine a_l0 rfl rfl rfl ?_
    refine a_getq rfl gfX11_55_11 rfl (rfl) ?_
    refine a_l0 rfl rfl rfl ?_
    refine a_getq rfl gfX11_37_11 rfl (rfl) ?_
    refine a_eV0 rfl lX11_78 mo_X5_copyFrom (sp_X5_copyFrom (a := 257) (b := 235) (by decide) (by decide) (by decide)) rfl rfl rfl ⟨5, _, rfl, rfl, rfl⟩ rfl ?_
    refine a_ren (P := Fm sQ I) (Fm.tr (fh27) (Fm.cp (Fm.rf (s := sQ)) sQ_257)) (fun I6 f7 => ?_)
    refine a_l0 rfl rfl rfl ?_
    refine a_getq rfl gfX11_55_11 rfl (rfl) ?_
    refine a_getq rfl gfX11_121_5 rfl (rfl) ?_
    refine a_l3 rfl rfl rfl ?_
    refine a_s rfl rfl ?_
    refine a_l0 rfl rfl rfl ?_
    refine a_getq rfl gfX11_37_11 rfl (rfl) ?_
    refine a_getq rfl gfX11_121_5 rfl (rfl) ?_
    refine a_l3 rfl rfl rfl ?_
    refine a_eS1 rfl lX11_117 mo_X11_at (sp_X11_at rfl) rfl rfl rfl rfl ?_
    refine a_s rfl rfl ?_
    refine a_s rfl rfl ?_
    refine a_min rfl lX11_350 mj_min rfl rfl ?_
    refine a_eS0 rfl lX11_243 mo_X11_setAt (sp_X11_setAt rfl) rfl rfl rfl rfl ?_
    refine a_ren (P := Fm sQ I) (Fm.tr (f7) (Fm.st (Fm.rf (s := sQ)) (fun _ => rfl))) (fun I8 f9 => ?_)
    refine a_l0 rfl rfl rfl ?_
    refine a_getq rfl gfX11_55_11 rfl (rfl) ?_
    refine a_l0 rfl rfl rfl ?_
    refine a_getq rfl gfX11_44_11 rfl (rfl) ?_
    refine a_gV rfl lX11_346 mo_X5_daysTillNoneWaits (q_X5_daysTillNoneWaits_257_246) rfl rfl rfl ⟨5, _, rfl, rfl, rfl⟩ rfl (fun v' h' hv => ?_)
    obtain ⟨⟨v10, rfl⟩, I11, rfl, f12⟩ := hv
    replace f12 : Fm sQ I I11 := Fm.tr (f9) (f12)
    refine a_s4 rfl rfl rfl rfl rfl rfl ?_
    refine a_l4 rfl rfl rfl ?_
    refine a_l1 rfl rfl rfl ?_
    refine a_ic_ge rfl (fun c94 => ?_) (fun c94 => ?_)
    · refine a_i3 rfl rfl rfl ?_
      refine a_goto rfl ?_
      exact ih27 _ _ _ _ c35 ⟨_, _, _, rfl, rfl, f12⟩ ⟨rfl, rfl, rfl, nS _, trivial⟩
    · refine a_l4 rfl rfl rfl ?_
      refine a_s1 rfl rfl rfl rfl rfl rfl ?_
      refine a_l3 rfl rfl rfl ?_
      refine a_s2 rfl rfl rfl rfl rfl rfl ?_
      refine a_i3 rfl rfl rfl ?_
      refine a_goto rfl ?_
      exact ih27 _ _ _ _ c35 ⟨_, _, _, rfl, rfl, f12⟩ ⟨rfl, rfl, rfl, nS _, trivial⟩
theorem q_X11_crux_200 {S : aS} {I : Nat → Nat → Int32} {L : Nat → Nat → Int64} {w1 w2 t : Nat} : Sp S m_X11_crux 19 0 0 [.ref 200] (hp I L w1 w2 t) (QR (Fm sQ I) isI L w1 w2 t) nX := by
  refine Sp_of ok_X11_crux rfl rfl ?_
  show AW S m_X11_crux 19 _ _ 0 0 0 [some (.ref 200), none, none, none, none] [] (hp I L w1 w2 t)
  refine a_l0 rfl rfl rfl ?_
  refine a_getq rfl gfX11_55_11 rfl (rfl) ?_
  refine a_l0 rfl rfl rfl ?_
  refine a_getq rfl gfX11_37_11 rfl (rfl) ?_
  refine a_eV0 rfl lX11_78 mo_X5_copyFrom (sp_X5_copyFrom (a := 257) (b := 235) (by decide) (by decide) (by decide)) rfl rfl rfl ⟨5, _, rfl, rfl, rfl⟩ rfl ?_
  refine a_ren (P := Fm sQ I) (Fm.cp (Fm.rf (s := sQ)) sQ_257) (fun I1 f2 => ?_)
  refine a_l0 rfl rfl rfl ?_
  refine a_getq rfl gfX11_55_11 rfl (rfl) ?_
  refine a_l0 rfl rfl rfl ?_
  refine a_getq rfl gfX11_44_11 rfl (rfl) ?_
  refine a_gV rfl lX11_346 mo_X5_daysTillNoneWaits (q_X5_daysTillNoneWaits_257_246) rfl rfl rfl ⟨5, _, rfl, rfl, rfl⟩ rfl (fun v' h' hv => ?_)
  obtain ⟨⟨v3, rfl⟩, I4, rfl, f5⟩ := hv
  replace f5 : Fm sQ I I4 := Fm.tr (f2) (f5)
  refine a_s1 rfl rfl rfl rfl rfl rfl ?_
  refine a_s rfl rfl ?_
  refine a_s2 rfl rfl rfl rfl rfl rfl ?_
  refine a_s rfl rfl ?_
  refine a_s3 rfl rfl rfl rfl rfl rfl ?_
  refine a_cnt (j0 := 0) (fun j ls h => ∃ a0, ∃ a1, ∃ I', ls = [some (.ref 200), some (.int a0), some (.int a1), some (.int (nI j)), none] ∧ h = hp I' L w1 w2 t ∧ Fm sQ I I') (by decide) ⟨_, _, _, rfl, rfl, f5⟩ ⟨rfl, rfl, rfl, rfl, trivial⟩ ?_
  rintro j27 _ _ hj27 ⟨a0_27, a1_27, Ih27, rfl, rfl, fh27⟩ ih27
  refine a_l3 rfl rfl rfl ?_
  refine a_l0 rfl rfl rfl ?_
  refine a_getq rfl gfX11_37_11 rfl (rfl) ?_
  refine a_geti rfl gfX11_182_5 rfl ?_
  refine a_ic_ge rfl (fun c35 => ?_) (fun c35 => ?_)
  · refine a_l2 rfl rfl rfl ?_
    exact a_iret rfl rfl ⟨⟨_, rfl⟩, _, rfl, fh27⟩
  · refine a_l0 rfl rfl rfl ?_
    refine a_getq rfl gfX11_37_11 rfl (rfl) ?_
    refine a_l3 rfl rfl rfl ?_
    refine a_gV rfl lX11_329 mo_X5_isWaiting (q_X5_isWaiting_235) rfl rfl rfl ⟨5, _, rfl, rfl, rfl⟩ rfl (fun v' h' hv => ?_)
    obtain ⟨⟨v6, rfl⟩, rfl⟩ := hv
    refine a_if_eq rfl (fun c46 => ?_) (fun c46 => ?_)
    · refine a_i3 rfl rfl rfl ?_
      refine a_goto rfl ?_
      exact ih27 _ _ _ _ c35 ⟨_, _, _, rfl, rfl, fh27⟩ ⟨rfl, rfl, rfl, nS _, trivial⟩
    · refine a_l0 rfl rfl rfl ?_
      refine a_getq rfl gfX11_55_11 rfl (rfl) ?_
      refine a_l0 rfl rfl rfl ?_
      refine a_getq rfl gfX11_37_11 rfl (rfl) ?_
      refine a_eV0 rfl lX11_78 mo_X5_copyFrom (sp_X5_copyFrom (a := 257) (b := 235) (by decide) (by decide) (by decide)) rfl rfl rfl ⟨5, _, rfl, rfl, rfl⟩ rfl ?_
      refine a_ren (P := Fm sQ I) (Fm.tr (fh27) (Fm.cp (Fm.rf (s := sQ)) sQ_257)) (fun I7 f8 => ?_)
      refine a_l0 rfl rfl rfl ?_
      refine a_getq rfl gfX11_55_11 rfl (rfl) ?_
      refine a_l3 rfl rfl rfl ?_
      refine a_gV rfl lX11_233 mo_X5_finish (q_X5_finish_257) rfl rfl rfl ⟨5, _, rfl, rfl, rfl⟩ rfl (fun v' h' hv => ?_)
      obtain ⟨rfl, I10, rfl, f11⟩ := hv
      replace f11 : Fm sQ I I10 := Fm.tr (f8) (f11)
      refine a_l0 rfl rfl rfl ?_
      refine a_getq rfl gfX11_55_11 rfl (rfl) ?_
      refine a_l0 rfl rfl rfl ?_
      refine a_getq rfl gfX11_44_11 rfl (rfl) ?_
      refine a_gV rfl lX11_346 mo_X5_daysTillNoneWaits (q_X5_daysTillNoneWaits_257_246) rfl rfl rfl ⟨5, _, rfl, rfl, rfl⟩ rfl (fun v' h' hv => ?_)
      obtain ⟨⟨v12, rfl⟩, I13, rfl, f14⟩ := hv
      replace f14 : Fm sQ I I13 := Fm.tr (f11) (f14)
      refine a_s4 rfl rfl rfl rfl rfl rfl ?_
      refine a_l4 rfl rfl rfl ?_
      refine a_l1 rfl rfl rfl ?_
      refine a_ic_ge rfl (fun c84 => ?_) (fun c84 => ?_)
      · refine a_i3 rfl rfl rfl ?_
        refine a_goto rfl ?_
        exact ih27 _ _ _ _ c35 ⟨_, _, _, rfl, rfl, f14⟩ ⟨rfl, rfl, rfl, nS _, trivial⟩
      · refine a_l4 rfl rfl rfl ?_
        refine a_s1 rfl rfl rfl rfl rfl rfl ?_
        refine a_l3 rfl rfl rfl ?_
        refine a_s2 rfl rfl rfl rfl rfl rfl ?_
        refine a_i3 rfl rfl rfl ?_
        refine a_goto rfl ?_
        exact ih27 _ _ _ _ c35 ⟨_, _, _, rfl, rfl, f14⟩ ⟨rfl, rfl, rfl, nS _, trivial⟩
theorem q_X11_sick_200 {S : aS} {I : Nat → Nat → Int32} {L : Nat → Nat → Int64} {w1 w2 t : Nat} {x1 : Int32} : Sp S m_X11_sick 19 1 6 [.ref 200, .int x1] (hp I L w1 w2 t) (QR (Fm sQ I) isI L w1 w2 t) (XR (Fm sQ I) L w1 w2 [0]) := by
  refine Sp_of ok_X11_sick rfl rfl ?_
  show AW S m_X11_sick 19 _ _ 1 6 0 [some (.ref 200), some (.int x1), none, none] [] (hp I L w1 w2 t)
  refine a_l0 rfl rfl rfl ?_
  refine a_l1 rfl rfl rfl ?_
  refine a_callV rfl lX11_110 mo_X11_needPerson (q_X11_needPerson_200) rfl rfl rfl ⟨11, _, rfl, rfl, rfl⟩ rfl (fun v' h' hv => ?_) (fun E h' hx => XR.cm hx (by decide) (fun _ z => z))
  obtain ⟨rfl, rfl⟩ := hv
  refine a_l0 rfl rfl rfl ?_
  refine a_getq rfl gfX11_55_11 rfl (rfl) ?_
  refine a_l0 rfl rfl rfl ?_
  refine a_getq rfl gfX11_37_11 rfl (rfl) ?_
  refine a_eV0 rfl lX11_78 mo_X5_copyFrom (sp_X5_copyFrom (a := 257) (b := 235) (by decide) (by decide) (by decide)) rfl rfl rfl ⟨5, _, rfl, rfl, rfl⟩ rfl ?_
  refine a_ren (P := Fm sQ I) (Fm.cp (Fm.rf (s := sQ)) sQ_257) (fun I2 f3 => ?_)
  refine a_l0 rfl rfl rfl ?_
  refine a_getq rfl gfX11_55_11 rfl (rfl) ?_
  refine a_l0 rfl rfl rfl ?_
  refine a_getq rfl gfX11_44_11 rfl (rfl) ?_
  refine a_gV rfl lX11_346 mo_X5_daysTillNoneWaits (q_X5_daysTillNoneWaits_257_246) rfl rfl rfl ⟨5, _, rfl, rfl, rfl⟩ rfl (fun v' h' hv => ?_)
  obtain ⟨⟨v4, rfl⟩, I5, rfl, f6⟩ := hv
  replace f6 : Fm sQ I I5 := Fm.tr (f3) (f6)
  refine a_s2 rfl rfl rfl rfl rfl rfl ?_
  refine a_l2 rfl rfl rfl ?_
  refine a_s rfl rfl ?_
  refine a_ic_ne rfl (fun c32 => ?_) (fun c32 => ?_)
  · refine a_l0 rfl rfl rfl ?_
    refine a_getq rfl gfX11_55_11 rfl (rfl) ?_
    refine a_l0 rfl rfl rfl ?_
    refine a_getq rfl gfX11_37_11 rfl (rfl) ?_
    refine a_eV0 rfl lX11_78 mo_X5_copyFrom (sp_X5_copyFrom (a := 257) (b := 235) (by decide) (by decide) (by decide)) rfl rfl rfl ⟨5, _, rfl, rfl, rfl⟩ rfl ?_
    refine a_ren (P := Fm sQ I) (Fm.tr (f6) (Fm.cp (Fm.rf (s := sQ)) sQ_257)) (fun I7 f8 => ?_)
    refine a_l0 rfl rfl rfl ?_
    refine a_getq rfl gfX11_55_11 rfl (rfl) ?_
    refine a_getq rfl gfX11_121_5 rfl (rfl) ?_
    refine a_l1 rfl rfl rfl ?_
    refine a_s rfl rfl ?_
    refine a_eS0 rfl lX11_243 mo_X11_setAt (sp_X11_setAt rfl) rfl rfl rfl rfl ?_
    refine a_ren (P := Fm sQ I) (Fm.tr (f8) (Fm.st (Fm.rf (s := sQ)) (fun _ => rfl))) (fun I9 f10 => ?_)
    refine a_l0 rfl rfl rfl ?_
    refine a_getq rfl gfX11_55_11 rfl (rfl) ?_
    refine a_l0 rfl rfl rfl ?_
    refine a_getq rfl gfX11_44_11 rfl (rfl) ?_
    refine a_gV rfl lX11_346 mo_X5_daysTillNoneWaits (q_X5_daysTillNoneWaits_257_246) rfl rfl rfl ⟨5, _, rfl, rfl, rfl⟩ rfl (fun v' h' hv => ?_)
    obtain ⟨⟨v11, rfl⟩, I12, rfl, f13⟩ := hv
    replace f13 : Fm sQ I I12 := Fm.tr (f10) (f13)
    refine a_s3 rfl rfl rfl rfl rfl rfl ?_
    refine a_l3 rfl rfl rfl ?_
    refine a_s rfl rfl ?_
    refine a_ic_ne rfl (fun c76 => ?_) (fun c76 => ?_)
    · refine a_l3 rfl rfl rfl ?_
      refine a_l2 rfl rfl rfl ?_
      refine a_s rfl rfl ?_
      exact a_iret rfl rfl ⟨⟨_, rfl⟩, _, rfl, f13⟩
    · refine a_s rfl rfl ?_
      refine a_goto rfl ?_
      exact a_iret rfl rfl ⟨⟨_, rfl⟩, _, rfl, f13⟩
  · refine a_s rfl rfl ?_
    exact a_iret rfl rfl ⟨⟨_, rfl⟩, _, rfl, f6⟩
theorem q_X11_ahead_200 {S : aS} {I : Nat → Nat → Int32} {L : Nat → Nat → Int64} {w1 w2 t : Nat} {x1 x2 x3 : Int32} : Sp S m_X11_ahead 18 3 18 [.ref 200, .int x1, .int x2, .int x3] (hp I L w1 w2 t) (QR (Fm sQ I) isI L w1 w2 t) (XR (Fm sQ I) L w1 w2 [0, 1, 4]) := by
  refine Sp_of ok_X11_ahead rfl rfl ?_
  show AW S m_X11_ahead 18 _ _ 3 18 0 [some (.ref 200), some (.int x1), some (.int x2), some (.int x3), none] [] (hp I L w1 w2 t)
  refine a_l0 rfl rfl rfl ?_
  refine a_l1 rfl rfl rfl ?_
  refine a_callV rfl lX11_141 mo_X11_needDuty (q_X11_needDuty_200) rfl rfl rfl ⟨11, _, rfl, rfl, rfl⟩ rfl (fun v' h' hv => ?_) (fun E h' hx => XR.cm hx (by decide) (fun _ z => z))
  obtain ⟨rfl, rfl⟩ := hv
  refine a_l2 rfl rfl rfl ?_
  refine a_s rfl rfl ?_
  refine a_s rfl rfl ?_
  refine a_callS rfl lX11_250 mo_X11_needNumber q_needNumber rfl rfl rfl rfl (fun v' h' hv => ?_) (fun E h' hx => XR.cm hx (by decide) (fun _ z => z))
  obtain ⟨rfl, rfl, hbm2⟩ := hv
  obtain ⟨m2, hm2a, hm2b, rfl⟩ := inB_nI (a := 0) (b := 90) (by decide) hbm2
  refine a_l3 rfl rfl rfl ?_
  refine a_if_lt rfl (fun c13 => ?_) (fun c13 => ?_)
  · exact a_throw rfl rfl rfl rfl tX11_nsee rfl rfl rfl rfl rfl ⟨⟨4, by decide, rfl⟩, _, rfl, Fm.rf⟩
  · refine a_l3 rfl rfl rfl ?_
    refine a_s rfl rfl ?_
    refine a_ic_le rfl (fun c18 => ?_) (fun c18 => ?_)
    · refine a_l0 rfl rfl rfl ?_
      refine a_getq rfl gfX11_55_11 rfl (rfl) ?_
      refine a_l0 rfl rfl rfl ?_
      refine a_getq rfl gfX11_37_11 rfl (rfl) ?_
      refine a_eV0 rfl lX11_78 mo_X5_copyFrom (sp_X5_copyFrom (a := 257) (b := 235) (by decide) (by decide) (by decide)) rfl rfl rfl ⟨5, _, rfl, rfl, rfl⟩ rfl ?_
      refine a_ren (P := Fm sQ I) (Fm.cp (Fm.rf (s := sQ)) sQ_257) (fun I3 f4 => ?_)
      refine a_s rfl rfl ?_
      refine a_s4 rfl rfl rfl rfl rfl rfl ?_
      refine a_cnt (j0 := 0) (fun j ls h => ∃ I', ls = [some (.ref 200), some (.int x1), some (.int (nI m2)), some (.int x3), some (.int (nI j))] ∧ h = hp I' L w1 w2 t ∧ Fm sQ I I') (by decide) ⟨_, rfl, rfl, f4⟩ ⟨rfl, rfl, rfl, rfl, rfl, trivial⟩ ?_
      rintro j43 _ _ hj43 ⟨Ih43, rfl, rfl, fh43⟩ ih43
      refine a_l4 rfl rfl rfl ?_
      refine a_l2 rfl rfl rfl ?_
      refine a_ic_ge rfl (fun c46 => ?_) (fun c46 => ?_)
      · refine a_l3 rfl rfl rfl ?_
        refine a_lsw2 rfl (by decide) (by decide) (fun hx => ?_) (fun hx => ?_) (fun hx hx2 => ?_)
        · refine a_pc (pc' := 96) (by decide) ?_
          refine a_l0 rfl rfl rfl ?_
          refine a_getq rfl gfX11_55_11 rfl (rfl) ?_
          refine a_getq rfl gfX11_147_5 rfl (rfl) ?_
          refine a_l1 rfl rfl rfl ?_
          refine a_eS1 rfl lX11_117 mo_X11_at (sp_X11_at rfl) rfl rfl rfl rfl ?_
          exact a_iret rfl rfl ⟨⟨_, rfl⟩, _, rfl, fh43⟩
        · refine a_pc (pc' := 108) (by decide) ?_
          refine a_l0 rfl rfl rfl ?_
          refine a_getq rfl gfX11_55_11 rfl (rfl) ?_
          refine a_getq rfl gfX11_150_5 rfl (rfl) ?_
          refine a_l1 rfl rfl rfl ?_
          refine a_eS1 rfl lX11_117 mo_X11_at (sp_X11_at rfl) rfl rfl rfl rfl ?_
          exact a_iret rfl rfl ⟨⟨_, rfl⟩, _, rfl, fh43⟩
        · refine a_pc (pc' := 120) (by decide) ?_
          refine a_l0 rfl rfl rfl ?_
          refine a_getq rfl gfX11_55_11 rfl (rfl) ?_
          refine a_getq rfl gfX11_159_5 rfl (rfl) ?_
          refine a_l1 rfl rfl rfl ?_
          refine a_eS1 rfl lX11_117 mo_X11_at (sp_X11_at rfl) rfl rfl rfl rfl ?_
          exact a_iret rfl rfl ⟨⟨_, rfl⟩, _, rfl, fh43⟩
      · refine a_l0 rfl rfl rfl ?_
        refine a_getq rfl gfX11_55_11 rfl (rfl) ?_
        refine a_l0 rfl rfl rfl ?_
        refine a_getq rfl gfX11_44_11 rfl (rfl) ?_
        refine a_s rfl rfl ?_
        refine a_gV rfl lX11_254 mo_X5_passDay (q_X5_passDay_257_246 (b2 := false)) rfl rfl rfl ⟨5, _, rfl, rfl, rfl⟩ rfl (fun v' h' hv => ?_)
        obtain ⟨rfl, I6, rfl, f7⟩ := hv
        replace f7 : Fm sQ I I6 := Fm.tr (fh43) (f7)
        refine a_i4 rfl rfl rfl ?_
        refine a_goto rfl ?_
        exact ih43 _ _ _ _ c46 ⟨_, rfl, rfl, f7⟩ ⟨rfl, rfl, rfl, rfl, nS _, trivial⟩
    · exact a_throw rfl rfl rfl rfl tX11_nsee rfl rfl rfl rfl rfl ⟨⟨4, by decide, rfl⟩, _, rfl, Fm.rf⟩
theorem q_X11_trial_200 {S : aS} {I : Nat → Nat → Int32} {L : Nat → Nat → Int64} {w1 w2 t : Nat} {x1 : Int32} {b2 : Bool} : Sp S m_X11_trial 19 1 6 [.ref 200, .int x1, .int (bI b2)] (hp I L w1 w2 t) (QR (Fm sQ I) isI L w1 w2 t) (XR (Fm sQ I) L w1 w2 [1]) := by
  refine Sp_of ok_X11_trial rfl rfl ?_
  show AW S m_X11_trial 19 _ _ 1 6 0 [some (.ref 200), some (.int x1), some (.int (bI b2)), none] [] (hp I L w1 w2 t)
  refine a_l1 rfl rfl rfl ?_
  refine a_s rfl rfl ?_
  refine a_s rfl rfl ?_
  refine a_callS rfl lX11_250 mo_X11_needNumber q_needNumber rfl rfl rfl rfl (fun v' h' hv => ?_) (fun E h' hx => XR.cm hx (by decide) (fun _ z => z))
  obtain ⟨rfl, rfl, hbm1⟩ := hv
  obtain ⟨m1, hm1a, hm1b, rfl⟩ := inB_nI (a := 0) (b := 90) (by decide) hbm1
  refine a_l0 rfl rfl rfl ?_
  refine a_l1 rfl rfl rfl ?_
  refine a_l0 rfl rfl rfl ?_
  refine a_getq rfl gfX11_37_11 rfl (rfl) ?_
  refine a_geti rfl gfX11_353_5 rfl ?_
  refine a_gV rfl lX11_356 mo_X11_shameTriedOut (q_X11_shameTriedOut_200) rfl rfl rfl ⟨11, _, rfl, rfl, rfl⟩ rfl (fun v' h' hv => ?_)
  obtain ⟨⟨v2, rfl⟩, I3, rfl, f4⟩ := hv
  refine a_s3 rfl rfl rfl rfl rfl rfl ?_
  refine a_l2 rfl rfl rfl ?_
  refine a_if_eq rfl (fun c21 => ?_) (fun c21 => ?_)
  · refine a_l3 rfl rfl rfl ?_
    exact a_iret rfl rfl ⟨⟨_, rfl⟩, _, rfl, f4⟩
  · refine a_l0 rfl rfl rfl ?_
    refine a_getq rfl gfX11_55_11 rfl (rfl) ?_
    refine a_s rfl rfl ?_
    refine a_gV rfl lX11_200 mo_X5_bitsIn (q_X5_bitsIn_257) rfl rfl rfl ⟨5, _, rfl, rfl, rfl⟩ rfl (fun v' h' hv => ?_)
    obtain ⟨⟨v5, rfl⟩, rfl⟩ := hv
    refine a_goto rfl ?_
    exact a_iret rfl rfl ⟨⟨_, rfl⟩, _, rfl, f4⟩
theorem q_X11_span_200 {S : aS} {I : Nat → Nat → Int32} {L : Nat → Nat → Int64} {w1 w2 t : Nat} {x1 : Int32} {b2 : Bool} : Sp S m_X11_span 19 1 6 [.ref 200, .int x1, .int (bI b2)] (hp I L w1 w2 t) (QR (Fm sQ I) isI L w1 w2 t) (XR (Fm sQ I) L w1 w2 [1]) := by
  refine Sp_of ok_X11_span rfl rfl ?_
  show AW S m_X11_span 19 _ _ 1 6 0 [some (.ref 200), some (.int x1), some (.int (bI b2)), none, none, none] [] (hp I L w1 w2 t)
  refine a_l1 rfl rfl rfl ?_
  refine a_s rfl rfl ?_
  refine a_s rfl rfl ?_
  refine a_callS rfl lX11_250 mo_X11_needNumber q_needNumber rfl rfl rfl rfl (fun v' h' hv => ?_) (fun E h' hx => XR.cm hx (by decide) (fun _ z => z))
  obtain ⟨rfl, rfl, hbm1⟩ := hv
  obtain ⟨m1, hm1a, hm1b, rfl⟩ := inB_nI (a := 0) (b := 90) (by decide) hbm1
  refine a_l0 rfl rfl rfl ?_
  refine a_l1 rfl rfl rfl ?_
  refine a_s rfl rfl ?_
  refine a_gV rfl lX11_356 mo_X11_shameTriedOut (q_X11_shameTriedOut_200) rfl rfl rfl ⟨11, _, rfl, rfl, rfl⟩ rfl (fun v' h' hv => ?_)
  obtain ⟨⟨v2, rfl⟩, I3, rfl, f4⟩ := hv
  refine a_s3 rfl rfl rfl rfl rfl rfl ?_
  refine a_s rfl rfl ?_
  refine a_s4 rfl rfl rfl rfl rfl rfl ?_
  refine a_cnt (j0 := 2) (fun j ls h => ∃ a0, ∃ I', ls = [some (.ref 200), some (.int (nI m1)), some (.int (bI b2)), some (.int a0), some (.int (nI j)), none] ∧ h = hp I' L w1 w2 t ∧ Fm sQ I I') (by decide) ⟨_, _, rfl, rfl, f4⟩ ⟨rfl, rfl, rfl, rfl, rfl, trivial⟩ ?_
  rintro j17 _ _ hj17 ⟨a0_17, Ih17, rfl, rfl, fh17⟩ ih17
  refine a_l4 rfl rfl rfl ?_
  refine a_s rfl rfl ?_
  refine a_ic_gt rfl (fun c21 => ?_) (fun c21 => ?_)
  · refine a_l3 rfl rfl rfl ?_
    exact a_iret rfl rfl ⟨⟨_, rfl⟩, _, rfl, fh17⟩
  · refine a_l0 rfl rfl rfl ?_
    refine a_l1 rfl rfl rfl ?_
    refine a_l4 rfl rfl rfl ?_
    refine a_gV rfl lX11_356 mo_X11_shameTriedOut (q_X11_shameTriedOut_200) rfl rfl rfl ⟨11, _, rfl, rfl, rfl⟩ rfl (fun v' h' hv => ?_)
    obtain ⟨⟨v5, rfl⟩, I6, rfl, f7⟩ := hv
    replace f7 : Fm sQ I I6 := Fm.tr (fh17) (f7)
    refine a_s5 rfl rfl rfl rfl rfl rfl ?_
    refine a_l2 rfl rfl rfl ?_
    refine a_if_eq rfl (fun c34 => ?_) (fun c34 => ?_)
    · refine a_l3 rfl rfl rfl ?_
      refine a_l5 rfl rfl rfl ?_
      refine a_min rfl lX11_350 mj_min rfl rfl ?_
      refine a_s3 rfl rfl rfl rfl rfl rfl ?_
      refine a_i4 rfl rfl rfl ?_
      refine a_goto rfl ?_
      exact ih17 _ _ _ _ (nI_gt1 (a := 6) (by decide) hj17 c21) ⟨_, _, rfl, rfl, f7⟩ ⟨rfl, rfl, rfl, rfl, nS _, trivial⟩
    · refine a_l3 rfl rfl rfl ?_
      refine a_l5 rfl rfl rfl ?_
      refine a_max rfl lX11_290 mj_max rfl rfl ?_
      refine a_goto rfl ?_
      refine a_s3 rfl rfl rfl rfl rfl rfl ?_
      refine a_i4 rfl rfl rfl ?_
      refine a_goto rfl ?_
      exact ih17 _ _ _ _ (nI_gt1 (a := 6) (by decide) hj17 c21) ⟨_, _, rfl, rfl, f7⟩ ⟨rfl, rfl, rfl, rfl, nS _, trivial⟩
theorem q_X1_valueOf_244 {S : aS} {I : Nat → Nat → Int32} {L : Nat → Nat → Int64} {w1 w2 t : Nat} {x1 x2 : Int32} : Sp S m_X1_valueOf 13 0 0 [.ref 244, .int x1, .int x2] (hp I L w1 w2 t) (QE isI (hp I L w1 w2 t)) nX := by
  refine Sp_of ok_X1_valueOf rfl rfl ?_
  show AW S m_X1_valueOf 13 _ _ 0 0 0 [some (.ref 244), some (.int x1), some (.int x2), none] [] (hp I L w1 w2 t)
  refine a_l1 rfl rfl rfl ?_
  refine a_if_lt rfl (fun c1 => ?_) (fun c1 => ?_)
  · refine a_s rfl rfl ?_
    exact a_iret rfl rfl ⟨⟨_, rfl⟩, rfl⟩
  · refine a_l1 rfl rfl rfl ?_
    refine a_l0 rfl rfl rfl ?_
    refine a_geti rfl gfX1_15_1 rfl ?_
    refine a_ic_lt rfl (fun c9 => ?_) (fun c9 => ?_)
    · refine a_l0 rfl rfl rfl ?_
      refine a_geti rfl gfX1_19_1 rfl ?_
      refine a_s rfl rfl ?_
      refine a_s rfl rfl ?_
      refine a_l1 rfl rfl rfl ?_
      refine a_s rfl rfl ?_
      refine a_s rfl rfl ?_
      refine a_s rfl rfl ?_
      refine a_s rfl rfl ?_
      refine a_irem rfl (by decide) ?_
      refine a_s3 rfl rfl rfl rfl rfl rfl ?_
      refine a_l0 rfl rfl rfl ?_
      refine a_getq rfl gfX1_11_1 rfl (rfl) ?_
      refine a_l3 rfl rfl rfl ?_
      refine a_s rfl rfl ?_
      refine a_s rfl rfl ?_
      refine a_l2 rfl rfl rfl ?_
      refine a_s rfl rfl ?_
      refine a_eSN1 rfl lX1_36 mo_X11_at (sp_X11_at rfl) rfl rfl rfl rfl ?_
      exact a_iret rfl rfl ⟨⟨_, rfl⟩, rfl⟩
    · refine a_s rfl rfl ?_
      exact a_iret rfl rfl ⟨⟨_, rfl⟩, rfl⟩
theorem q_X1_rowsOf_244 {S : aS} {I : Nat → Nat → Int32} {L : Nat → Nat → Int64} {w1 w2 t : Nat} {x1 : Int32} : Sp S m_X1_rowsOf 14 0 0 [.ref 244, .int x1] (hp I L w1 w2 t) (QE isI (hp I L w1 w2 t)) nX := by
  refine Sp_of ok_X1_rowsOf rfl rfl ?_
  show AW S m_X1_rowsOf 14 _ _ 0 0 0 [some (.ref 244), some (.int x1), none, none] [] (hp I L w1 w2 t)
  refine a_s rfl rfl ?_
  refine a_s2 rfl rfl rfl rfl rfl rfl ?_
  refine a_s rfl rfl ?_
  refine a_s3 rfl rfl rfl rfl rfl rfl ?_
  refine a_cnt (j0 := 0) (fun j ls h => ∃ a0, ls = [some (.ref 244), some (.int x1), some (.int a0), some (.int (nI j))] ∧ h = hp I L w1 w2 t) (by decide) ⟨_, rfl, rfl⟩ ⟨rfl, rfl, rfl, rfl, trivial⟩ ?_
  rintro j4 _ _ hj4 ⟨a0_4, rfl, rfl⟩ ih4
  refine a_l3 rfl rfl rfl ?_
  refine a_l0 rfl rfl rfl ?_
  refine a_geti rfl gfX1_15_1 rfl ?_
  refine a_ic_ge rfl (fun c9 => ?_) (fun c9 => ?_)
  · refine a_l2 rfl rfl rfl ?_
    exact a_iret rfl rfl ⟨⟨_, rfl⟩, rfl⟩
  · refine a_l0 rfl rfl rfl ?_
    refine a_l3 rfl rfl rfl ?_
    refine a_s rfl rfl ?_
    refine a_gV rfl lX1_40 mo_X1_valueOf (q_X1_valueOf_244) rfl rfl rfl ⟨1, _, rfl, rfl, rfl⟩ rfl (fun v' h' hv => ?_)
    obtain ⟨⟨v1, rfl⟩, rfl⟩ := hv
    refine a_l1 rfl rfl rfl ?_
    refine a_ic_ne rfl (fun c19 => ?_) (fun c19 => ?_)
    · refine a_i3 rfl rfl rfl ?_
      refine a_goto rfl ?_
      exact ih4 _ _ _ _ c9 ⟨_, rfl, rfl⟩ ⟨rfl, rfl, rfl, nS _, trivial⟩
    · refine a_i2 rfl rfl rfl ?_
      refine a_i3 rfl rfl rfl ?_
      refine a_goto rfl ?_
      exact ih4 _ _ _ _ c9 ⟨_, rfl, rfl⟩ ⟨rfl, rfl, rfl, nS _, trivial⟩
theorem q_X1_latestMonthOf_244 {S : aS} {I : Nat → Nat → Int32} {L : Nat → Nat → Int64} {w1 w2 t : Nat} {x1 : Int32} : Sp S m_X1_latestMonthOf 14 0 0 [.ref 244, .int x1] (hp I L w1 w2 t) (QE isI (hp I L w1 w2 t)) nX := by
  refine Sp_of ok_X1_latestMonthOf rfl rfl ?_
  show AW S m_X1_latestMonthOf 14 _ _ 0 0 0 [some (.ref 244), some (.int x1), none] [] (hp I L w1 w2 t)
  refine a_s rfl rfl ?_
  refine a_s2 rfl rfl rfl rfl rfl rfl ?_
  refine a_cnt (j0 := 0) (fun j ls h => ls = [some (.ref 244), some (.int x1), some (.int (nI j))] ∧ h = hp I L w1 w2 t) (by decide) ⟨rfl, rfl⟩ ⟨rfl, rfl, rfl, trivial⟩ ?_
  rintro j2 _ _ hj2 ⟨rfl, rfl⟩ ih2
  refine a_l2 rfl rfl rfl ?_
  refine a_l0 rfl rfl rfl ?_
  refine a_geti rfl gfX1_15_1 rfl ?_
  refine a_ic_ge rfl (fun c7 => ?_) (fun c7 => ?_)
  · refine a_s rfl rfl ?_
    exact a_iret rfl rfl ⟨⟨_, rfl⟩, rfl⟩
  · refine a_l0 rfl rfl rfl ?_
    refine a_l2 rfl rfl rfl ?_
    refine a_s rfl rfl ?_
    refine a_gV rfl lX1_40 mo_X1_valueOf (q_X1_valueOf_244) rfl rfl rfl ⟨1, _, rfl, rfl, rfl⟩ rfl (fun v' h' hv => ?_)
    obtain ⟨⟨v1, rfl⟩, rfl⟩ := hv
    refine a_l1 rfl rfl rfl ?_
    refine a_ic_ne rfl (fun c17 => ?_) (fun c17 => ?_)
    · refine a_i2 rfl rfl rfl ?_
      refine a_goto rfl ?_
      exact ih2 _ _ _ _ c7 ⟨rfl, rfl⟩ ⟨rfl, rfl, nS _, trivial⟩
    · refine a_l0 rfl rfl rfl ?_
      refine a_l2 rfl rfl rfl ?_
      refine a_s rfl rfl ?_
      refine a_gV rfl lX1_40 mo_X1_valueOf (q_X1_valueOf_244) rfl rfl rfl ⟨1, _, rfl, rfl, rfl⟩ rfl (fun v' h' hv => ?_)
      obtain ⟨⟨v2, rfl⟩, rfl⟩ := hv
      exact a_iret rfl rfl ⟨⟨_, rfl⟩, rfl⟩
theorem q_X11_led_200 {S : aS} {I : Nat → Nat → Int32} {L : Nat → Nat → Int64} {w1 w2 t : Nat} {x1 : Int32} {b2 : Bool} : Sp S m_X11_led 15 1 6 [.ref 200, .int x1, .int (bI b2)] (hp I L w1 w2 t) (QE isI (hp I L w1 w2 t)) (XR (Fm sQ I) L w1 w2 [0]) := by
  refine Sp_of ok_X11_led rfl rfl ?_
  show AW S m_X11_led 15 _ _ 1 6 0 [some (.ref 200), some (.int x1), some (.int (bI b2))] [] (hp I L w1 w2 t)
  refine a_l0 rfl rfl rfl ?_
  refine a_l1 rfl rfl rfl ?_
  refine a_callV rfl lX11_141 mo_X11_needDuty (q_X11_needDuty_200) rfl rfl rfl ⟨11, _, rfl, rfl, rfl⟩ rfl (fun v' h' hv => ?_) (fun E h' hx => XR.cm hx (by decide) (fun _ z => z))
  obtain ⟨rfl, rfl⟩ := hv
  refine a_l2 rfl rfl rfl ?_
  refine a_if_eq rfl (fun c6 => ?_) (fun c6 => ?_)
  · refine a_l0 rfl rfl rfl ?_
    refine a_getq rfl gfX11_37_11 rfl (rfl) ?_
    refine a_getq rfl gfX11_211_5 rfl (rfl) ?_
    refine a_l1 rfl rfl rfl ?_
    refine a_gV rfl lX11_362 mo_X1_rowsOf (q_X1_rowsOf_244) rfl rfl rfl ⟨1, _, rfl, rfl, rfl⟩ rfl (fun v' h' hv => ?_)
    obtain ⟨⟨v2, rfl⟩, rfl⟩ := hv
    exact a_iret rfl rfl ⟨⟨_, rfl⟩, rfl⟩
  · refine a_l0 rfl rfl rfl ?_
    refine a_getq rfl gfX11_37_11 rfl (rfl) ?_
    refine a_getq rfl gfX11_211_5 rfl (rfl) ?_
    refine a_l1 rfl rfl rfl ?_
    refine a_gV rfl lX11_359 mo_X1_latestMonthOf (q_X1_latestMonthOf_244) rfl rfl rfl ⟨1, _, rfl, rfl, rfl⟩ rfl (fun v' h' hv => ?_)
    obtain ⟨⟨v3, rfl⟩, rfl⟩ := hv
    refine a_goto rfl ?_
    exact a_iret rfl rfl ⟨⟨_, rfl⟩, rfl⟩
theorem q_X11_log_200 {S : aS} {I : Nat → Nat → Int32} {L : Nat → Nat → Int64} {w1 w2 t : Nat} {x1 x2 : Int32} : Sp S m_X11_log 14 1 6 [.ref 200, .int x1, .int x2] (hp I L w1 w2 t) (QE isI (hp I L w1 w2 t)) (XR (Fm sQ I) L w1 w2 [4]) := by
  refine Sp_of ok_X11_log rfl rfl ?_
  show AW S m_X11_log 14 _ _ 1 6 0 [some (.ref 200), some (.int x1), some (.int x2)] [] (hp I L w1 w2 t)
  refine a_l2 rfl rfl rfl ?_
  refine a_if_lt rfl (fun c1 => ?_) (fun c1 => ?_)
  · exact a_throw rfl rfl rfl rfl tX11_nsee rfl rfl rfl rfl rfl ⟨⟨4, by decide, rfl⟩, _, rfl, Fm.rf⟩
  · refine a_l2 rfl rfl rfl ?_
    refine a_s rfl rfl ?_
    refine a_ic_le rfl (fun c6 => ?_) (fun c6 => ?_)
    · refine a_l0 rfl rfl rfl ?_
      refine a_getq rfl gfX11_37_11 rfl (rfl) ?_
      refine a_getq rfl gfX11_211_5 rfl (rfl) ?_
      refine a_l1 rfl rfl rfl ?_
      refine a_l2 rfl rfl rfl ?_
      refine a_gV rfl lX11_365 mo_X1_valueOf (q_X1_valueOf_244) rfl rfl rfl ⟨1, _, rfl, rfl, rfl⟩ rfl (fun v' h' hv => ?_)
      obtain ⟨⟨v1, rfl⟩, rfl⟩ := hv
      exact a_iret rfl rfl ⟨⟨_, rfl⟩, rfl⟩
    · exact a_throw rfl rfl rfl rfl tX11_nsee rfl rfl rfl rfl rfl ⟨⟨4, by decide, rfl⟩, _, rfl, Fm.rf⟩
theorem q_X0_leansWithin_235 {S : aS} {I : Nat → Nat → Int32} {L : Nat → Nat → Int64} {w1 w2 t : Nat} {x1 : Int32} : Sp S m_X0_leansWithin 14 0 0 [.ref 235, .int x1] (hp I L w1 w2 t) (QE isZ (hp I L w1 w2 t)) nX := by
  refine Sp_of ok_X0_leansWithin rfl rfl ?_
  show AW S m_X0_leansWithin 14 _ _ 0 0 0 [some (.ref 235), some (.int x1), none] [] (hp I L w1 w2 t)
  refine a_s rfl rfl ?_
  refine a_s2 rfl rfl rfl rfl rfl rfl ?_
  refine a_cnt (j0 := 0) (fun j ls h => ls = [some (.ref 235), some (.int x1), some (.int (nI j))] ∧ h = hp I L w1 w2 t) (by decide) ⟨rfl, rfl⟩ ⟨rfl, rfl, rfl, trivial⟩ ?_
  rintro j2 _ _ hj2 ⟨rfl, rfl⟩ ih2
  refine a_l2 rfl rfl rfl ?_
  refine a_l0 rfl rfl rfl ?_
  refine a_geti rfl gfX0_24_5 rfl ?_
  refine a_ic_ge rfl (fun c7 => ?_) (fun c7 => ?_)
  · refine a_s rfl rfl ?_
    exact a_zret rfl rfl rfl ⟨⟨true, rfl⟩, rfl⟩
  · refine a_l1 rfl rfl rfl ?_
    refine a_l2 rfl rfl rfl ?_
    refine a_eSN1 rfl lX0_45 mo_X11_has (sp_X11_has) rfl rfl rfl rfl ?_
    refine a_if_eq rfl (fun c15 => ?_) (fun c15 => ?_)
    · refine a_i2 rfl rfl rfl ?_
      refine a_goto rfl ?_
      exact ih2 _ _ _ _ c7 ⟨rfl, rfl⟩ ⟨rfl, rfl, nS _, trivial⟩
    · refine a_l0 rfl rfl rfl ?_
      refine a_l2 rfl rfl rfl ?_
      refine a_gV rfl lX0_77 mo_X5_leansFreely (q_X5_leansFreely_235) rfl rfl rfl ⟨5, _, rfl, rfl, rfl⟩ rfl (fun v' h' hv => ?_)
      obtain ⟨⟨v1, rfl⟩, rfl⟩ := hv
      refine a_if_ne rfl (fun c23 => ?_) (fun c23 => ?_)
      · refine a_i2 rfl rfl rfl ?_
        refine a_goto rfl ?_
        exact ih2 _ _ _ _ c7 ⟨rfl, rfl⟩ ⟨rfl, rfl, nS _, trivial⟩
      · refine a_l1 rfl rfl rfl ?_
        refine a_l0 rfl rfl rfl ?_
        refine a_getq rfl gfX0_81_5 rfl (rfl) ?_
        refine a_l2 rfl rfl rfl ?_
        refine a_eSN1 rfl lX0_52 mo_X11_at (sp_X11_at rfl) rfl rfl rfl rfl ?_
        refine a_eSN1 rfl lX0_45 mo_X11_has (sp_X11_has) rfl rfl rfl rfl ?_
        refine a_if_ne rfl (fun c38 => ?_) (fun c38 => ?_)
        · refine a_i2 rfl rfl rfl ?_
          refine a_goto rfl ?_
          exact ih2 _ _ _ _ c7 ⟨rfl, rfl⟩ ⟨rfl, rfl, nS _, trivial⟩
        · refine a_s rfl rfl ?_
          exact a_zret rfl rfl rfl ⟨⟨false, rfl⟩, rfl⟩
theorem q_X0_leastShame_254_235_246 {S : aS} {I : Nat → Nat → Int32} {L : Nat → Nat → Int64} {w1 w2 t : Nat} {x3 : Int32} {nd : Nat} (hd : I 235 3 = nI nd) (hn : nd ≤ 12) : Sp S m_X0_leastShame 16 0 0 [.ref 254, .ref 235, .ref 246, .int x3] (hp I L w1 w2 t) (QR (Fm sQ I) isI L w1 w2 t) nX := by
  refine Sp_of ok_X0_leastShame rfl rfl ?_
  show AW S m_X0_leastShame 16 _ _ 0 0 0 [some (.ref 254), some (.ref 235), some (.ref 246), some (.int x3), none, none, none, none, none] [] (hp I L w1 w2 t)
  refine a_l1 rfl rfl rfl ?_
  refine a_s rfl rfl ?_
  refine a_eV1 rfl lX0_59 mo_X5_bitsIn (sp_X5_bitsIn (a := 235) (by decide) hd hn) rfl rfl rfl ⟨5, _, rfl, rfl, rfl⟩ rfl ?_
  obtain ⟨mc, hmc, emc⟩ := bs_nI12 hn (P := fun d => decide (I (235 + 8) d = 0))
  refine a_top (y := nI mc) emc ?_
  refine a_s4 rfl rfl rfl rfl rfl rfl ?_
  refine a_s rfl rfl ?_
  refine a_s5 rfl rfl rfl rfl rfl rfl ?_
  refine a_cnt (j0 := 0) (fun j ls h => ∃ I', ls = [some (.ref 254), some (.ref 235), some (.ref 246), some (.int x3), some (.int (nI mc)), some (.int (nI j)), none, none, none] ∧ h = hp I' L w1 w2 t ∧ Fm sQ I I') (by decide) ⟨_, rfl, rfl, Fm.rf⟩ ⟨rfl, rfl, rfl, rfl, rfl, rfl, trivial⟩ ?_
  rintro j10 _ _ hj10 ⟨Ih10, rfl, rfl, fh10⟩ ih10
  refine a_l5 rfl rfl rfl ?_
  refine a_l1 rfl rfl rfl ?_
  refine a_geti rfl gfX0_24_5 rfl ?_
  refine a_ic_ge rfl (fun c16 => ?_) (fun c16 => ?_)
  · refine a_s rfl rfl ?_
    refine a_s5 rfl rfl rfl rfl rfl rfl ?_
    refine a_s rfl rfl ?_
    refine a_s6 rfl rfl rfl rfl rfl rfl ?_
    refine a_s rfl rfl ?_
    refine a_s7 rfl rfl rfl rfl rfl rfl ?_
    refine a_cnt (j0 := 0) (fun j ls h => ∃ a0, ∃ a1, ∃ I', ls = [some (.ref 254), some (.ref 235), some (.ref 246), some (.int x3), some (.int (nI mc)), some (.int a0), some (.int a1), some (.int (nI j)), none] ∧ h = hp I' L w1 w2 t ∧ Fm sQ I I') (by decide) ⟨_, _, _, rfl, rfl, fh10⟩ ⟨rfl, rfl, rfl, rfl, rfl, rfl, rfl, rfl, trivial⟩ ?_
    rintro j50 _ _ hj50 ⟨a0_50, a1_50, Ih50, rfl, rfl, fh50⟩ ih50
    refine a_l7 rfl rfl rfl ?_
    refine a_l4 rfl rfl rfl ?_
    refine a_ic_gt rfl (fun c54 => ?_) (fun c54 => ?_)
    · refine a_l5 rfl rfl rfl ?_
      exact a_iret rfl rfl ⟨⟨_, rfl⟩, _, rfl, fh50⟩
    · refine a_l7 rfl rfl rfl ?_
      refine a_l4 rfl rfl rfl ?_
      refine a_s rfl rfl ?_
      refine a_s rfl rfl ?_
      refine a_s rfl rfl ?_
      refine a_if_ne rfl (fun c64 => ?_) (fun c64 => ?_)
      · refine a_i7 rfl rfl rfl ?_
        refine a_goto rfl ?_
        exact ih50 _ _ _ _ (nI_gt1 (a := mc) (by omega) hj50 c54) ⟨_, _, _, rfl, rfl, fh50⟩ ⟨rfl, rfl, rfl, rfl, rfl, rfl, rfl, nS _, trivial⟩
      · refine a_l1 rfl rfl rfl ?_
        refine a_getq rfl gfX0_68_5 rfl (rfl) ?_
        refine a_l7 rfl rfl rfl ?_
        refine a_eSN1 rfl lX0_71 mo_X11_sumOver (sp_X11_sumOver rfl) rfl rfl rfl rfl ?_
        refine a_l3 rfl rfl rfl ?_
        refine a_ic_gt rfl (fun c77 => ?_) (fun c77 => ?_)
        · refine a_i7 rfl rfl rfl ?_
          refine a_goto rfl ?_
          exact ih50 _ _ _ _ (nI_gt1 (a := mc) (by omega) hj50 c54) ⟨_, _, _, rfl, rfl, fh50⟩ ⟨rfl, rfl, rfl, rfl, rfl, rfl, rfl, nS _, trivial⟩
        · refine a_l1 rfl rfl rfl ?_
          refine a_l7 rfl rfl rfl ?_
          refine a_gS rfl lX0_74 mo_X0_leansWithin (q_X0_leansWithin_235) rfl rfl rfl rfl (fun v' h' hv => ?_)
          obtain ⟨⟨v1, rfl⟩, rfl⟩ := hv
          refine a_if_eq rfl (fun c86 => ?_) (fun c86 => ?_)
          · refine a_i7 rfl rfl rfl ?_
            refine a_goto rfl ?_
            exact ih50 _ _ _ _ (nI_gt1 (a := mc) (by omega) hj50 c54) ⟨_, _, _, rfl, rfl, fh50⟩ ⟨rfl, rfl, rfl, rfl, rfl, rfl, rfl, nS _, trivial⟩
          · refine a_l0 rfl rfl rfl ?_
            refine a_getq rfl gfX0_15_0 rfl (rfl) ?_
            refine a_l7 rfl rfl rfl ?_
            refine a_eSN1 rfl lX0_71 mo_X11_sumOver (sp_X11_sumOver rfl) rfl rfl rfl rfl ?_
            refine a_s8 rfl rfl rfl rfl rfl rfl ?_
            refine a_l8 rfl rfl rfl ?_
            refine a_l6 rfl rfl rfl ?_
            refine a_ic_le rfl (fun c104 => ?_) (fun c104 => ?_)
            · refine a_i7 rfl rfl rfl ?_
              refine a_goto rfl ?_
              exact ih50 _ _ _ _ (nI_gt1 (a := mc) (by omega) hj50 c54) ⟨_, _, _, rfl, rfl, fh50⟩ ⟨rfl, rfl, rfl, rfl, rfl, rfl, rfl, nS _, trivial⟩
            · refine a_l7 rfl rfl rfl ?_
              refine a_s5 rfl rfl rfl rfl rfl rfl ?_
              refine a_l8 rfl rfl rfl ?_
              refine a_s6 rfl rfl rfl rfl rfl rfl ?_
              refine a_i7 rfl rfl rfl ?_
              refine a_goto rfl ?_
              exact ih50 _ _ _ _ (nI_gt1 (a := mc) (by omega) hj50 c54) ⟨_, _, _, rfl, rfl, fh50⟩ ⟨rfl, rfl, rfl, rfl, rfl, rfl, rfl, nS _, trivial⟩
  · refine a_l0 rfl rfl rfl ?_
    refine a_getq rfl gfX0_15_0 rfl (rfl) ?_
    refine a_l5 rfl rfl rfl ?_
    refine a_l2 rfl rfl rfl ?_
    refine a_l1 rfl rfl rfl ?_
    refine a_l5 rfl rfl rfl ?_
    refine a_gV rfl lX0_62 mo_X2_shameOf (q_X2_shameOf_246_235) rfl rfl rfl ⟨2, _, rfl, rfl, rfl⟩ rfl (fun v' h' hv => ?_)
    obtain ⟨⟨v2, rfl⟩, I3, rfl, f4⟩ := hv
    replace f4 : Fm sQ I I3 := Fm.tr (fh10) (f4)
    refine a_eSN0 rfl lX0_32 mo_X11_setAt (sp_X11_setAt rfl) rfl rfl rfl rfl ?_
    refine a_ren (P := Fm sQ I) (Fm.tr (f4) (Fm.st (Fm.rf (s := sQ)) (fun _ => rfl))) (fun I5 f6 => ?_)
    refine a_i5 rfl rfl rfl ?_
    refine a_goto rfl ?_
    exact ih10 _ _ _ _ c16 ⟨_, rfl, rfl, f6⟩ ⟨rfl, rfl, rfl, rfl, rfl, nS _, trivial⟩
theorem q_X11_does_200 {S : aS} {I : Nat → Nat → Int32} {L : Nat → Nat → Int64} {w1 w2 t : Nat} {x1 : Int32} {b2 : Bool} {nd : Nat} (hd : I 235 3 = nI nd) (hn : nd ≤ 12) : Sp S m_X11_does 17 1 6 [.ref 200, .int x1, .int (bI b2)] (hp I L w1 w2 t) (QR (Fm sQ I) isI L w1 w2 t) (XR (Fm sQ I) L w1 w2 [1]) := by
  refine Sp_of ok_X11_does rfl rfl ?_
  show AW S m_X11_does 17 _ _ 1 6 0 [some (.ref 200), some (.int x1), some (.int (bI b2)), none] [] (hp I L w1 w2 t)
  refine a_l1 rfl rfl rfl ?_
  refine a_s rfl rfl ?_
  refine a_s rfl rfl ?_
  refine a_callS rfl lX11_250 mo_X11_needNumber q_needNumber rfl rfl rfl rfl (fun v' h' hv => ?_) (fun E h' hx => XR.cm hx (by decide) (fun _ z => z))
  obtain ⟨rfl, rfl, hbm1⟩ := hv
  obtain ⟨m1, hm1a, hm1b, rfl⟩ := inB_nI (a := 0) (b := 99) (by decide) hbm1
  refine a_l0 rfl rfl rfl ?_
  refine a_getq rfl gfX11_51_11 rfl (rfl) ?_
  refine a_l0 rfl rfl rfl ?_
  refine a_getq rfl gfX11_37_11 rfl (rfl) ?_
  refine a_l0 rfl rfl rfl ?_
  refine a_getq rfl gfX11_44_11 rfl (rfl) ?_
  refine a_l1 rfl rfl rfl ?_
  refine a_gV rfl lX11_278 mo_X0_leastShame (q_X0_leastShame_254_235_246 hd hn) rfl rfl rfl ⟨0, _, rfl, rfl, rfl⟩ rfl (fun v' h' hv => ?_)
  obtain ⟨⟨v2, rfl⟩, I3, rfl, f4⟩ := hv
  refine a_s3 rfl rfl rfl rfl rfl rfl ?_
  refine a_l2 rfl rfl rfl ?_
  refine a_if_eq rfl (fun c25 => ?_) (fun c25 => ?_)
  · refine a_l3 rfl rfl rfl ?_
    exact a_iret rfl rfl ⟨⟨_, rfl⟩, _, rfl, f4⟩
  · refine a_l0 rfl rfl rfl ?_
    refine a_getq rfl gfX11_44_11 rfl (rfl) ?_
    refine a_l0 rfl rfl rfl ?_
    refine a_getq rfl gfX11_37_11 rfl (rfl) ?_
    refine a_l0 rfl rfl rfl ?_
    refine a_getq rfl gfX11_37_11 rfl (rfl) ?_
    refine a_s rfl rfl ?_
    refine a_gV rfl lX11_200 mo_X5_bitsIn (q_X5_bitsIn_235) rfl rfl rfl ⟨5, _, rfl, rfl, rfl⟩ rfl (fun v' h' hv => ?_)
    obtain ⟨⟨v5, rfl⟩, rfl⟩ := hv
    refine a_l3 rfl rfl rfl ?_
    refine a_s rfl rfl ?_
    refine a_s rfl rfl ?_
    refine a_s rfl rfl ?_
    refine a_gV rfl lX11_282 mo_X2_shameOfSet (q_X2_shameOfSet_246_235) rfl rfl rfl ⟨2, _, rfl, rfl, rfl⟩ rfl (fun v' h' hv => ?_)
    obtain ⟨⟨v6, rfl⟩, I7, rfl, f8⟩ := hv
    replace f8 : Fm sQ I I7 := Fm.tr (f4) (f8)
    refine a_goto rfl ?_
    exact a_iret rfl rfl ⟨⟨_, rfl⟩, _, rfl, f8⟩
theorem q_X0_canBeCalledTogether_254_235 {S : aS} {I : Nat → Nat → Int32} {L : Nat → Nat → Int64} {w1 w2 t : Nat} {x2 : Int32} : Sp S m_X0_canBeCalledTogether 14 0 0 [.ref 254, .ref 235, .int x2] (hp I L w1 w2 t) (QE isZ (hp I L w1 w2 t)) nX := by
  refine Sp_of ok_X0_canBeCalledTogether rfl rfl ?_
  show AW S m_X0_canBeCalledTogether 14 _ _ 0 0 0 [some (.ref 254), some (.ref 235), some (.int x2), none, none, none, none] [] (hp I L w1 w2 t)
  refine a_s rfl rfl ?_
  refine a_s3 rfl rfl rfl rfl rfl rfl ?_
  refine a_s rfl rfl ?_
  refine a_s4 rfl rfl rfl rfl rfl rfl ?_
  refine a_s rfl rfl ?_
  refine a_s5 rfl rfl rfl rfl rfl rfl ?_
  refine a_cnt (j0 := 0) (fun j ls h => ∃ a0, ∃ a1, ls = [some (.ref 254), some (.ref 235), some (.int x2), some (.int a0), some (.int a1), some (.int (nI j)), none] ∧ h = hp I L w1 w2 t) (by decide) ⟨_, _, rfl, rfl⟩ ⟨rfl, rfl, rfl, rfl, rfl, rfl, trivial⟩ ?_
  rintro j8 _ _ hj8 ⟨a0_8, a1_8, rfl, rfl⟩ ih8
  refine a_l5 rfl rfl rfl ?_
  refine a_l1 rfl rfl rfl ?_
  refine a_geti rfl gfX0_24_5 rfl ?_
  refine a_ic_ge rfl (fun c14 => ?_) (fun c14 => ?_)
  · refine a_l4 rfl rfl rfl ?_
    refine a_l4 rfl rfl rfl ?_
    refine a_s rfl rfl ?_
    refine a_s rfl rfl ?_
    refine a_s rfl rfl ?_
    refine a_if_ne rfl (fun c84 => ?_) (fun c84 => ?_)
    · refine a_s rfl rfl ?_
      exact a_zret rfl rfl rfl ⟨⟨false, rfl⟩, rfl⟩
    · refine a_s rfl rfl ?_
      refine a_goto rfl ?_
      exact a_zret rfl rfl rfl ⟨⟨true, rfl⟩, rfl⟩
  · refine a_l2 rfl rfl rfl ?_
    refine a_l5 rfl rfl rfl ?_
    refine a_eSN1 rfl lX0_45 mo_X11_has (sp_X11_has) rfl rfl rfl rfl ?_
    refine a_if_eq rfl (fun c23 => ?_) (fun c23 => ?_)
    · refine a_i5 rfl rfl rfl ?_
      refine a_goto rfl ?_
      exact ih8 _ _ _ _ c14 ⟨_, _, rfl, rfl⟩ ⟨rfl, rfl, rfl, rfl, rfl, nS _, trivial⟩
    · refine a_l1 rfl rfl rfl ?_
      refine a_getq rfl gfX0_49_5 rfl (rfl) ?_
      refine a_l5 rfl rfl rfl ?_
      refine a_eSN1 rfl lX0_52 mo_X11_at (sp_X11_at rfl) rfl rfl rfl rfl ?_
      refine a_eSN1 rfl lX0_56 mo_X11_bit (sp_X11_bit) rfl rfl rfl rfl ?_
      refine a_s6 rfl rfl rfl rfl rfl rfl ?_
      refine a_l3 rfl rfl rfl ?_
      refine a_l6 rfl rfl rfl ?_
      refine a_s rfl rfl ?_
      refine a_if_eq rfl (fun c44 => ?_) (fun c44 => ?_)
      · refine a_l3 rfl rfl rfl ?_
        refine a_l6 rfl rfl rfl ?_
        refine a_s rfl rfl ?_
        refine a_s3 rfl rfl rfl rfl rfl rfl ?_
        refine a_l4 rfl rfl rfl ?_
        refine a_l0 rfl rfl rfl ?_
        refine a_getq rfl gfX0_9_0 rfl (rfl) ?_
        refine a_l5 rfl rfl rfl ?_
        refine a_eSN1 rfl lX0_52 mo_X11_at (sp_X11_at rfl) rfl rfl rfl rfl ?_
        refine a_eSN1 rfl lX0_56 mo_X11_bit (sp_X11_bit) rfl rfl rfl rfl ?_
        refine a_s rfl rfl ?_
        refine a_s4 rfl rfl rfl rfl rfl rfl ?_
        refine a_i5 rfl rfl rfl ?_
        refine a_goto rfl ?_
        exact ih8 _ _ _ _ c14 ⟨_, _, rfl, rfl⟩ ⟨rfl, rfl, rfl, rfl, rfl, nS _, trivial⟩
      · refine a_s rfl rfl ?_
        exact a_zret rfl rfl rfl ⟨⟨false, rfl⟩, rfl⟩
theorem q_X0_mostCalled_254_235 {S : aS} {I : Nat → Nat → Int32} {L : Nat → Nat → Int64} {w1 w2 t : Nat} {nd : Nat} (hd : I 235 3 = nI nd) (hn : nd ≤ 12) : Sp S m_X0_mostCalled 18 0 0 [.ref 254, .ref 235] (hp I L w1 w2 t) (QR (Fm sQ I) isI L w1 w2 t) nX := by
  refine Sp_of ok_X0_mostCalled rfl rfl ?_
  show AW S m_X0_mostCalled 18 _ _ 0 0 0 [some (.ref 254), some (.ref 235), none, none, none, none] [] (hp I L w1 w2 t)
  refine a_l1 rfl rfl rfl ?_
  refine a_eV1 rfl lX0_18 mo_X5_canBits (sp_X5_canBits (a := 235) (by decide) hd hn) rfl rfl rfl ⟨5, _, rfl, rfl, rfl⟩ rfl ?_
  obtain ⟨mc, hmc, emc⟩ := bs_nI12 hn (P := fun d => rdF nd (I (235 + 8)) (I (235 + 7)) (nI d) && decide (I (235 + 4) d ≤ passF nd (I (235 + 8)) (I (235 + 5)) (I 235 13) (nI d)))
  refine a_top (y := nI mc) emc ?_
  refine a_s2 rfl rfl rfl rfl rfl rfl ?_
  refine a_s rfl rfl ?_
  refine a_s3 rfl rfl rfl rfl rfl rfl ?_
  refine a_cnt (j0 := 0) (fun j ls h => ∃ I', ls = [some (.ref 254), some (.ref 235), some (.int (nI mc)), some (.int (nI j)), none, none] ∧ h = hp I' L w1 w2 t ∧ Fm sQ I I') (by decide) ⟨_, rfl, rfl, Fm.rf⟩ ⟨rfl, rfl, rfl, rfl, trivial⟩ ?_
  rintro j7 _ _ hj7 ⟨Ih7, rfl, rfl, fh7⟩ ih7
  refine a_l3 rfl rfl rfl ?_
  refine a_l1 rfl rfl rfl ?_
  refine a_geti rfl gfX0_24_5 rfl ?_
  refine a_ic_ge rfl (fun c12 => ?_) (fun c12 => ?_)
  · refine a_s rfl rfl ?_
    refine a_s3 rfl rfl rfl rfl rfl rfl ?_
    refine a_s rfl rfl ?_
    refine a_s4 rfl rfl rfl rfl rfl rfl ?_
    refine a_cnt (j0 := 1) (fun j ls h => ∃ a0, ∃ I', ls = [some (.ref 254), some (.ref 235), some (.int (nI mc)), some (.int a0), some (.int (nI j)), none] ∧ h = hp I' L w1 w2 t ∧ Fm sQ I I') (by decide) ⟨_, _, rfl, rfl, fh7⟩ ⟨rfl, rfl, rfl, rfl, rfl, trivial⟩ ?_
    rintro j39 _ _ hj39 ⟨a0_39, Ih39, rfl, rfl, fh39⟩ ih39
    refine a_l4 rfl rfl rfl ?_
    refine a_l2 rfl rfl rfl ?_
    refine a_ic_gt rfl (fun c42 => ?_) (fun c42 => ?_)
    · refine a_l3 rfl rfl rfl ?_
      exact a_iret rfl rfl ⟨⟨_, rfl⟩, _, rfl, fh39⟩
    · refine a_l4 rfl rfl rfl ?_
      refine a_l2 rfl rfl rfl ?_
      refine a_s rfl rfl ?_
      refine a_s rfl rfl ?_
      refine a_s rfl rfl ?_
      refine a_if_ne rfl (fun c51 => ?_) (fun c51 => ?_)
      · refine a_s rfl rfl ?_
        refine a_s5 rfl rfl rfl rfl rfl rfl ?_
        refine a_l5 rfl rfl rfl ?_
        refine a_if_eq rfl (fun c63 => ?_) (fun c63 => ?_)
        · refine a_i4 rfl rfl rfl ?_
          refine a_goto rfl ?_
          exact ih39 _ _ _ _ (nI_gt1 (a := mc) (by omega) hj39 c42) ⟨_, _, rfl, rfl, fh39⟩ ⟨rfl, rfl, rfl, rfl, nS _, trivial⟩
        · refine a_l4 rfl rfl rfl ?_
          refine a_eS1 rfl lX0_36 mo_J6_bitCount_0f7a4 (sp_bitCount) rfl rfl rfl rfl ?_
          refine a_l3 rfl rfl rfl ?_
          refine a_eS1 rfl lX0_36 mo_J6_bitCount_0f7a4 (sp_bitCount) rfl rfl rfl rfl ?_
          refine a_ic_le rfl (fun c75 => ?_) (fun c75 => ?_)
          · refine a_i4 rfl rfl rfl ?_
            refine a_goto rfl ?_
            exact ih39 _ _ _ _ (nI_gt1 (a := mc) (by omega) hj39 c42) ⟨_, _, rfl, rfl, fh39⟩ ⟨rfl, rfl, rfl, rfl, nS _, trivial⟩
          · refine a_l0 rfl rfl rfl ?_
            refine a_l1 rfl rfl rfl ?_
            refine a_l4 rfl rfl rfl ?_
            refine a_gV rfl lX0_41 mo_X0_canBeCalledTogether (q_X0_canBeCalledTogether_254_235) rfl rfl rfl ⟨0, _, rfl, rfl, rfl⟩ rfl (fun v' h' hv => ?_)
            obtain ⟨⟨v1, rfl⟩, rfl⟩ := hv
            refine a_if_eq rfl (fun c85 => ?_) (fun c85 => ?_)
            · refine a_i4 rfl rfl rfl ?_
              refine a_goto rfl ?_
              exact ih39 _ _ _ _ (nI_gt1 (a := mc) (by omega) hj39 c42) ⟨_, _, rfl, rfl, fh39⟩ ⟨rfl, rfl, rfl, rfl, nS _, trivial⟩
            · refine a_l4 rfl rfl rfl ?_
              refine a_s3 rfl rfl rfl rfl rfl rfl ?_
              refine a_i4 rfl rfl rfl ?_
              refine a_goto rfl ?_
              exact ih39 _ _ _ _ (nI_gt1 (a := mc) (by omega) hj39 c42) ⟨_, _, rfl, rfl, fh39⟩ ⟨rfl, rfl, rfl, rfl, nS _, trivial⟩
      · refine a_s rfl rfl ?_
        refine a_goto rfl ?_
        refine a_s5 rfl rfl rfl rfl rfl rfl ?_
        refine a_l5 rfl rfl rfl ?_
        refine a_if_eq rfl (fun c63 => ?_) (fun c63 => ?_)
        · refine a_i4 rfl rfl rfl ?_
          refine a_goto rfl ?_
          exact ih39 _ _ _ _ (nI_gt1 (a := mc) (by omega) hj39 c42) ⟨_, _, rfl, rfl, fh39⟩ ⟨rfl, rfl, rfl, rfl, nS _, trivial⟩
        · refine a_l4 rfl rfl rfl ?_
          refine a_eS1 rfl lX0_36 mo_J6_bitCount_0f7a4 (sp_bitCount) rfl rfl rfl rfl ?_
          refine a_l3 rfl rfl rfl ?_
          refine a_eS1 rfl lX0_36 mo_J6_bitCount_0f7a4 (sp_bitCount) rfl rfl rfl rfl ?_
          refine a_ic_le rfl (fun c75 => ?_) (fun c75 => ?_)
          · refine a_i4 rfl rfl rfl ?_
            refine a_goto rfl ?_
            exact ih39 _ _ _ _ (nI_gt1 (a := mc) (by omega) hj39 c42) ⟨_, _, rfl, rfl, fh39⟩ ⟨rfl, rfl, rfl, rfl, nS _, trivial⟩
          · refine a_l0 rfl rfl rfl ?_
            refine a_l1 rfl rfl rfl ?_
            refine a_l4 rfl rfl rfl ?_
            refine a_gV rfl lX0_41 mo_X0_canBeCalledTogether (q_X0_canBeCalledTogether_254_235) rfl rfl rfl ⟨0, _, rfl, rfl, rfl⟩ rfl (fun v' h' hv => ?_)
            obtain ⟨⟨v2, rfl⟩, rfl⟩ := hv
            refine a_if_eq rfl (fun c85 => ?_) (fun c85 => ?_)
            · refine a_i4 rfl rfl rfl ?_
              refine a_goto rfl ?_
              exact ih39 _ _ _ _ (nI_gt1 (a := mc) (by omega) hj39 c42) ⟨_, _, rfl, rfl, fh39⟩ ⟨rfl, rfl, rfl, rfl, nS _, trivial⟩
            · refine a_l4 rfl rfl rfl ?_
              refine a_s3 rfl rfl rfl rfl rfl rfl ?_
              refine a_i4 rfl rfl rfl ?_
              refine a_goto rfl ?_
              exact ih39 _ _ _ _ (nI_gt1 (a := mc) (by omega) hj39 c42) ⟨_, _, rfl, rfl, fh39⟩ ⟨rfl, rfl, rfl, rfl, nS _, trivial⟩
  · refine a_l0 rfl rfl rfl ?_
    refine a_getq rfl gfX0_9_0 rfl (rfl) ?_
    refine a_l3 rfl rfl rfl ?_
    refine a_l1 rfl rfl rfl ?_
    refine a_l3 rfl rfl rfl ?_
    refine a_gV rfl lX0_28 mo_X5_placeOf (q_X5_placeOf_235) rfl rfl rfl ⟨5, _, rfl, rfl, rfl⟩ rfl (fun v' h' hv => ?_)
    obtain ⟨⟨v3, rfl⟩, rfl⟩ := hv
    refine a_eSN0 rfl lX0_32 mo_X11_setAt (sp_X11_setAt rfl) rfl rfl rfl rfl ?_
    refine a_ren (P := Fm sQ I) (Fm.tr (fh7) (Fm.st (Fm.rf (s := sQ)) (fun _ => rfl))) (fun I4 f5 => ?_)
    refine a_i3 rfl rfl rfl ?_
    refine a_goto rfl ?_
    exact ih7 _ _ _ _ c12 ⟨_, rfl, rfl, f5⟩ ⟨rfl, rfl, rfl, nS _, trivial⟩
theorem q_X11_most_200 {S : aS} {I : Nat → Nat → Int32} {L : Nat → Nat → Int64} {w1 w2 t : Nat} {nd : Nat} (hd : I 235 3 = nI nd) (hn : nd ≤ 12) : Sp S m_X11_most 19 0 0 [.ref 200] (hp I L w1 w2 t) (QR (Fm sQ I) isI L w1 w2 t) nX := by
  refine Sp_of ok_X11_most rfl rfl ?_
  show AW S m_X11_most 19 _ _ 0 0 0 [some (.ref 200)] [] (hp I L w1 w2 t)
  refine a_l0 rfl rfl rfl ?_
  refine a_getq rfl gfX11_51_11 rfl (rfl) ?_
  refine a_l0 rfl rfl rfl ?_
  refine a_getq rfl gfX11_37_11 rfl (rfl) ?_
  refine a_gV rfl lX11_275 mo_X0_mostCalled (q_X0_mostCalled_254_235 hd hn) rfl rfl rfl ⟨0, _, rfl, rfl, rfl⟩ rfl (fun v' h' hv => ?_)
  obtain ⟨⟨v1, rfl⟩, I2, rfl, f3⟩ := hv
  exact a_iret rfl rfl ⟨⟨_, rfl⟩, _, rfl, f3⟩
theorem q_X0_power {S : aS} {I : Nat → Nat → Int32} {L : Nat → Nat → Int64} {w1 w2 t : Nat} {x0 x1 : Int32} : Sp S m_X0_power 12 0 0 [.int x0, .int x1] (hp I L w1 w2 t) (QE isL (hp I L w1 w2 t)) nX := by
  refine Sp_of ok_X0_power rfl rfl ?_
  show AW S m_X0_power 12 _ _ 0 0 0 [some (.int x0), some (.int x1), none, none, none] [] (hp I L w1 w2 t)
  refine a_s rfl rfl ?_
  refine a_sL2 rfl rfl rfl rfl ?_
  refine a_s rfl rfl ?_
  refine a_s4 rfl rfl rfl rfl rfl rfl ?_
  refine a_cnt (j0 := 0) (fun j ls h => ∃ a0L, ls = [some (.int x0), some (.int x1), some (.long a0L), none, some (.int (nI j))] ∧ h = hp I L w1 w2 t) (by decide) ⟨_, rfl, rfl⟩ ⟨rfl, rfl, rfl, rfl, trivial⟩ ?_
  rintro j5 _ _ hj5 ⟨a0L_5, rfl, rfl⟩ ih5
  refine a_l4 rfl rfl rfl ?_
  refine a_l1 rfl rfl rfl ?_
  refine a_ic_ge rfl (fun c8 => ?_) (fun c8 => ?_)
  · refine a_l2 rfl rfl rfl ?_
    exact a_lret rfl rfl ⟨⟨_, rfl⟩, rfl⟩
  · refine a_l2 rfl rfl rfl ?_
    refine a_l0 rfl rfl rfl ?_
    refine a_s rfl rfl ?_
    refine a_s rfl rfl ?_
    refine a_sL2 rfl rfl rfl rfl ?_
    refine a_i4 rfl rfl rfl ?_
    refine a_goto rfl ?_
    exact ih5 _ _ _ _ c8 ⟨_, rfl, rfl⟩ ⟨rfl, rfl, rfl, nS _, trivial⟩
theorem q_X0_oddsOf {S : aS} {I : Nat → Nat → Int32} {L : Nat → Nat → Int64} {w1 w2 t : Nat} {x0 x2 : Int32} {m1 : Nat} (hm1 : m1 ≤ 6) : Sp S m_X0_oddsOf 13 0 0 [.int x0, .int (nI m1), .int x2] (hp I L w1 w2 t) (QE isI (hp I L w1 w2 t)) nX := by
  refine Sp_of ok_X0_oddsOf rfl rfl ?_
  show AW S m_X0_oddsOf 13 _ _ 0 0 0 [some (.int x0), some (.int (nI m1)), some (.int x2), none, none, none, none, none, none, none] [] (hp I L w1 w2 t)
  refine a_s rfl rfl ?_
  refine a_sL3 rfl rfl rfl rfl ?_
  refine a_s rfl rfl ?_
  refine a_l1 rfl rfl rfl ?_
  refine a_gS rfl lX0_109 mo_X0_power (q_X0_power) rfl rfl rfl rfl (fun v' h' hv => ?_)
  obtain ⟨⟨v1, rfl⟩, rfl⟩ := hv
  refine a_sL5 rfl rfl rfl rfl ?_
  refine a_s rfl rfl ?_
  refine a_sL7 rfl rfl rfl rfl ?_
  refine a_s rfl rfl ?_
  refine a_s9 rfl rfl rfl rfl rfl rfl ?_
  refine a_cnt (j0 := 0) (fun j ls h => ∃ a0L, ∃ a1L, ∃ a2L, ls = [some (.int x0), some (.int (nI m1)), some (.int x2), some (.long a0L), none, some (.long a1L), none, some (.long a2L), none, some (.int (nI j))] ∧ h = hp I L w1 w2 t) (by decide) ⟨_, _, _, rfl, rfl⟩ ⟨rfl, rfl, rfl, rfl, rfl, rfl, rfl, trivial⟩ ?_
  rintro j16 _ _ hj16 ⟨a0L_16, a1L_16, a2L_16, rfl, rfl⟩ ih16
  refine a_l9 rfl rfl rfl ?_
  refine a_l1 rfl rfl rfl ?_
  refine a_ic_gt rfl (fun c19 => ?_) (fun c19 => ?_)
  · refine a_l5 rfl rfl rfl ?_
    refine a_s rfl rfl ?_
    refine a_s rfl rfl ?_
    refine a_if_le rfl (fun c78 => ?_) (fun c78 => ?_)
    · refine a_s rfl rfl ?_
      exact a_iret rfl rfl ⟨⟨_, rfl⟩, rfl⟩
    · refine a_l3 rfl rfl rfl ?_
      refine a_ldc2 rfl kX0_113 ?_
      refine a_s rfl rfl ?_
      refine a_l5 rfl rfl rfl ?_
      refine a_ldiv rfl (fun z => c78 (by rw [z]; decide)) ?_
      refine a_s rfl rfl ?_
      refine a_goto rfl ?_
      exact a_iret rfl rfl ⟨⟨_, rfl⟩, rfl⟩
  · refine a_l9 rfl rfl rfl ?_
    refine a_l2 rfl rfl rfl ?_
    refine a_ic_lt rfl (fun c25 => ?_) (fun c25 => ?_)
    · refine a_l7 rfl rfl rfl ?_
      refine a_l1 rfl rfl rfl ?_
      refine a_l9 rfl rfl rfl ?_
      refine a_s rfl rfl ?_
      refine a_s rfl rfl ?_
      refine a_s rfl rfl ?_
      refine a_l9 rfl rfl rfl ?_
      refine a_s rfl rfl ?_
      refine a_s rfl rfl ?_
      refine a_s rfl rfl ?_
      refine a_ldiv rfl (odd_nz hm1 hj16 c19) ?_
      refine a_sL7 rfl rfl rfl rfl ?_
      refine a_i9 rfl rfl rfl ?_
      refine a_goto rfl ?_
      exact ih16 _ _ _ _ (nI_gt1 (a := m1) (by omega) hj16 c19) ⟨_, _, _, rfl, rfl⟩ ⟨rfl, rfl, rfl, rfl, rfl, rfl, nS _, trivial⟩
    · refine a_l3 rfl rfl rfl ?_
      refine a_l7 rfl rfl rfl ?_
      refine a_l0 rfl rfl rfl ?_
      refine a_l9 rfl rfl rfl ?_
      refine a_gS rfl lX0_109 mo_X0_power (q_X0_power) rfl rfl rfl rfl (fun v' h' hv => ?_)
      obtain ⟨⟨v2, rfl⟩, rfl⟩ := hv
      refine a_s rfl rfl ?_
      refine a_s rfl rfl ?_
      refine a_l0 rfl rfl rfl ?_
      refine a_s rfl rfl ?_
      refine a_l1 rfl rfl rfl ?_
      refine a_l9 rfl rfl rfl ?_
      refine a_s rfl rfl ?_
      refine a_gS rfl lX0_109 mo_X0_power (q_X0_power) rfl rfl rfl rfl (fun v' h' hv => ?_)
      obtain ⟨⟨v3, rfl⟩, rfl⟩ := hv
      refine a_s rfl rfl ?_
      refine a_s rfl rfl ?_
      refine a_sL3 rfl rfl rfl rfl ?_
      refine a_l7 rfl rfl rfl ?_
      refine a_l1 rfl rfl rfl ?_
      refine a_l9 rfl rfl rfl ?_
      refine a_s rfl rfl ?_
      refine a_s rfl rfl ?_
      refine a_s rfl rfl ?_
      refine a_l9 rfl rfl rfl ?_
      refine a_s rfl rfl ?_
      refine a_s rfl rfl ?_
      refine a_s rfl rfl ?_
      refine a_ldiv rfl (odd_nz hm1 hj16 c19) ?_
      refine a_sL7 rfl rfl rfl rfl ?_
      refine a_i9 rfl rfl rfl ?_
      refine a_goto rfl ?_
      exact ih16 _ _ _ _ (nI_gt1 (a := m1) (by omega) hj16 c19) ⟨_, _, _, rfl, rfl⟩ ⟨rfl, rfl, rfl, rfl, rfl, rfl, nS _, trivial⟩
theorem q_X11_odds_200 {S : aS} {I : Nat → Nat → Int32} {L : Nat → Nat → Int64} {w1 w2 t : Nat} {x1 x2 : Int32} : Sp S m_X11_odds 14 2 12 [.ref 200, .int x1, .int x2] (hp I L w1 w2 t) (QE isI (hp I L w1 w2 t)) (XR (Fm sQ I) L w1 w2 [1]) := by
  refine Sp_of ok_X11_odds rfl rfl ?_
  show AW S m_X11_odds 14 _ _ 2 12 0 [some (.ref 200), some (.int x1), some (.int x2)] [] (hp I L w1 w2 t)
  refine a_l1 rfl rfl rfl ?_
  refine a_s rfl rfl ?_
  refine a_s rfl rfl ?_
  refine a_callS rfl lX11_250 mo_X11_needNumber q_needNumber rfl rfl rfl rfl (fun v' h' hv => ?_) (fun E h' hx => XR.cm hx (by decide) (fun _ z => z))
  obtain ⟨rfl, rfl, hbm1⟩ := hv
  obtain ⟨m1, hm1a, hm1b, rfl⟩ := inB_nI (a := 0) (b := 6) (by decide) hbm1
  refine a_l2 rfl rfl rfl ?_
  refine a_s rfl rfl ?_
  refine a_s rfl rfl ?_
  refine a_callS rfl lX11_250 mo_X11_needNumber q_needNumber rfl rfl rfl rfl (fun v' h' hv => ?_) (fun E h' hx => XR.cm hx (by decide) (fun _ z => z))
  obtain ⟨rfl, rfl, hbm2⟩ := hv
  obtain ⟨m2, hm2a, hm2b, rfl⟩ := inB_nI (a := 0) (b := 6) (by decide) hbm2
  refine a_l0 rfl rfl rfl ?_
  refine a_getq rfl gfX11_37_11 rfl (rfl) ?_
  refine a_geti rfl gfX11_191_5 rfl ?_
  refine a_l1 rfl rfl rfl ?_
  refine a_l2 rfl rfl rfl ?_
  refine a_gS rfl lX11_335 mo_X0_oddsOf (q_X0_oddsOf (m1 := m1) (by omega)) rfl rfl rfl rfl (fun v' h' hv => ?_)
  obtain ⟨⟨v3, rfl⟩, rfl⟩ := hv
  exact a_iret rfl rfl ⟨⟨_, rfl⟩, rfl⟩
theorem q_X0_daysToLeaveFree {S : aS} {I : Nat → Nat → Int32} {L : Nat → Nat → Int64} {w1 w2 t : Nat} {x0 x1 x2 : Int32} : Sp S m_X0_daysToLeaveFree 14 0 0 [.int x0, .int x1, .int x2] (hp I L w1 w2 t) (QE isI (hp I L w1 w2 t)) nX := by
  refine Sp_of ok_X0_daysToLeaveFree rfl rfl ?_
  show AW S m_X0_daysToLeaveFree 14 _ _ 0 0 0 [some (.int x0), some (.int x1), some (.int x2), none, none] [] (hp I L w1 w2 t)
  refine a_l2 rfl rfl rfl ?_
  refine a_l1 rfl rfl rfl ?_
  refine a_eSN1 rfl lX0_97 mo_X11_needsOf (sp_X11_needsOf) rfl rfl rfl rfl ?_
  refine a_s3 rfl rfl rfl rfl rfl rfl ?_
  refine a_s rfl rfl ?_
  refine a_s4 rfl rfl rfl rfl rfl rfl ?_
  refine a_cnt (j0 := 1) (fun j ls h => ∃ a0, ls = [some (.int x0), some (.int x1), some (.int x2), some (.int a0), some (.int (nI j))] ∧ h = hp I L w1 w2 t) (by decide) ⟨_, rfl, rfl⟩ ⟨rfl, rfl, rfl, rfl, rfl, trivial⟩ ?_
  rintro j9 _ _ hj9 ⟨a0_9, rfl, rfl⟩ ih9
  refine a_l4 rfl rfl rfl ?_
  refine a_s rfl rfl ?_
  refine a_ic_gt rfl (fun c13 => ?_) (fun c13 => ?_)
  · refine a_s rfl rfl ?_
    exact a_iret rfl rfl ⟨⟨_, rfl⟩, rfl⟩
  · refine a_l0 rfl rfl rfl ?_
    refine a_l4 rfl rfl rfl ?_
    refine a_l3 rfl rfl rfl ?_
    refine a_gS rfl lX0_115 mo_X0_oddsOf (q_X0_oddsOf (m1 := j9) (by have := nI_le_of (a := j9) (b := 6) c13 hj9 (by decide); omega)) rfl rfl rfl rfl (fun v' h' hv => ?_)
    obtain ⟨⟨v1, rfl⟩, rfl⟩ := hv
    refine a_s rfl rfl ?_
    refine a_ic_lt rfl (fun c26 => ?_) (fun c26 => ?_)
    · refine a_i4 rfl rfl rfl ?_
      refine a_goto rfl ?_
      exact ih9 _ _ _ _ (nI_gt1 (a := 6) (by decide) hj9 c13) ⟨_, rfl, rfl⟩ ⟨rfl, rfl, rfl, rfl, nS _, trivial⟩
    · refine a_l4 rfl rfl rfl ?_
      exact a_iret rfl rfl ⟨⟨_, rfl⟩, rfl⟩
theorem q_X11_spare_200 {S : aS} {I : Nat → Nat → Int32} {L : Nat → Nat → Int64} {w1 w2 t : Nat} {x1 x2 : Int32} : Sp S m_X11_spare 15 2 12 [.ref 200, .int x1, .int x2] (hp I L w1 w2 t) (QE isI (hp I L w1 w2 t)) (XR (Fm sQ I) L w1 w2 [0, 1]) := by
  refine Sp_of ok_X11_spare rfl rfl ?_
  show AW S m_X11_spare 15 _ _ 2 12 0 [some (.ref 200), some (.int x1), some (.int x2)] [] (hp I L w1 w2 t)
  refine a_l0 rfl rfl rfl ?_
  refine a_l1 rfl rfl rfl ?_
  refine a_callV rfl lX11_110 mo_X11_needPerson (q_X11_needPerson_200) rfl rfl rfl ⟨11, _, rfl, rfl, rfl⟩ rfl (fun v' h' hv => ?_) (fun E h' hx => XR.cm hx (by decide) (fun _ z => z))
  obtain ⟨rfl, rfl⟩ := hv
  refine a_l2 rfl rfl rfl ?_
  refine a_s rfl rfl ?_
  refine a_s rfl rfl ?_
  refine a_callS rfl lX11_250 mo_X11_needNumber q_needNumber rfl rfl rfl rfl (fun v' h' hv => ?_) (fun E h' hx => XR.cm hx (by decide) (fun _ z => z))
  obtain ⟨rfl, rfl, hbm2⟩ := hv
  obtain ⟨m2, hm2a, hm2b, rfl⟩ := inB_nI (a := 1) (b := 54) (by decide) hbm2
  refine a_s rfl rfl ?_
  refine a_l0 rfl rfl rfl ?_
  refine a_getq rfl gfX11_37_11 rfl (rfl) ?_
  refine a_geti rfl gfX11_191_5 rfl ?_
  refine a_s rfl rfl ?_
  refine a_l0 rfl rfl rfl ?_
  refine a_getq rfl gfX11_37_11 rfl (rfl) ?_
  refine a_getq rfl gfX11_121_5 rfl (rfl) ?_
  refine a_l1 rfl rfl rfl ?_
  refine a_eS1 rfl lX11_117 mo_X11_at (sp_X11_at rfl) rfl rfl rfl rfl ?_
  refine a_l2 rfl rfl rfl ?_
  refine a_gS rfl lX11_339 mo_X0_daysToLeaveFree (q_X0_daysToLeaveFree) rfl rfl rfl rfl (fun v' h' hv => ?_)
  obtain ⟨⟨v3, rfl⟩, rfl⟩ := hv
  exact a_iret rfl rfl ⟨⟨_, rfl⟩, rfl⟩
theorem q_X11_takeWhoFits_200 {S : aS} {I : Nat → Nat → Int32} {L : Nat → Nat → Int64} {w1 w2 t : Nat} : Sp S m_X11_takeWhoFits 15 0 0 [.ref 200] (hp I L w1 w2 t) (QE isI (hp (up2 I 201 1 0) L w1 w2 t)) nX := by
  refine Sp_of ok_X11_takeWhoFits rfl rfl ?_
  show AW S m_X11_takeWhoFits 15 _ _ 0 0 0 [some (.ref 200), none] [] (hp I L w1 w2 t)
  refine a_l0 rfl rfl rfl ?_
  refine a_gV rfl lX11_389 mo_X11_whoFits (q_X11_whoFits_200) rfl rfl rfl ⟨11, _, rfl, rfl, rfl⟩ rfl (fun v' h' hv => ?_)
  obtain ⟨⟨v1, rfl⟩, rfl⟩ := hv
  refine a_s1 rfl rfl rfl rfl rfl rfl ?_
  refine a_l0 rfl rfl rfl ?_
  refine a_getq rfl gfX11_10_11 rfl (rfl) ?_
  refine a_s rfl rfl ?_
  refine a_puti rfl pfX11_68_7 rfl ?_
  refine a_l1 rfl rfl rfl ?_
  exact a_iret rfl rfl ⟨⟨_, rfl⟩, rfl⟩
theorem q_X11_whose_200 {S : aS} {I : Nat → Nat → Int32} {L : Nat → Nat → Int64} {w1 w2 t : Nat} : Sp S m_X11_whose 16 1 6 [.ref 200] (hp I L w1 w2 t) (QE isI (hp (up2 I 201 1 0) L w1 w2 t)) (XH [1] (hp (up2 I 201 1 0) L w1 w2 0)) := by
  refine Sp_of ok_X11_whose rfl rfl ?_
  show AW S m_X11_whose 16 _ _ 1 6 0 [some (.ref 200), none] [] (hp I L w1 w2 t)
  refine a_l0 rfl rfl rfl ?_
  refine a_gV rfl lX11_310 mo_X11_takeWhoFits (q_X11_takeWhoFits_200) rfl rfl rfl ⟨11, _, rfl, rfl, rfl⟩ rfl (fun v' h' hv => ?_)
  obtain ⟨⟨v1, rfl⟩, rfl⟩ := hv
  refine a_s1 rfl rfl rfl rfl rfl rfl ?_
  refine a_l1 rfl rfl rfl ?_
  refine a_s rfl rfl ?_
  refine a_ic_ne rfl (fun c7 => ?_) (fun c7 => ?_)
  · refine a_l1 rfl rfl rfl ?_
    exact a_iret rfl rfl ⟨⟨_, rfl⟩, rfl⟩
  · exact a_throw rfl rfl rfl rfl tX11_iae rfl rfl rfl rfl rfl ⟨⟨1, by decide, rfl⟩, rfl⟩
theorem q_X11_ask_200 {S : aS} {I : Nat → Nat → Int32} {L : Nat → Nat → Int64} {w1 w2 t : Nat} : Sp S m_X11_ask 16 1 6 [.ref 200] (hp I L w1 w2 t) (QE isI (hp (up2 I 201 1 0) L w1 w2 t)) (XH [1] (hp (up2 I 201 1 0) L w1 w2 0)) := by
  refine Sp_of ok_X11_ask rfl rfl ?_
  show AW S m_X11_ask 16 _ _ 1 6 0 [some (.ref 200), none] [] (hp I L w1 w2 t)
  refine a_l0 rfl rfl rfl ?_
  refine a_gV rfl lX11_310 mo_X11_takeWhoFits (q_X11_takeWhoFits_200) rfl rfl rfl ⟨11, _, rfl, rfl, rfl⟩ rfl (fun v' h' hv => ?_)
  obtain ⟨⟨v1, rfl⟩, rfl⟩ := hv
  refine a_s1 rfl rfl rfl rfl rfl rfl ?_
  refine a_l1 rfl rfl rfl ?_
  refine a_s rfl rfl ?_
  refine a_ic_ne rfl (fun c7 => ?_) (fun c7 => ?_)
  · refine a_l0 rfl rfl rfl ?_
    refine a_l1 rfl rfl rfl ?_
    refine a_gV rfl lX11_313 mo_X11_kerbToAskFor (q_X11_kerbToAskFor_200) rfl rfl rfl ⟨11, _, rfl, rfl, rfl⟩ rfl (fun v' h' hv => ?_)
    obtain ⟨⟨v2, rfl⟩, rfl⟩ := hv
    exact a_iret rfl rfl ⟨⟨_, rfl⟩, rfl⟩
  · exact a_throw rfl rfl rfl rfl tX11_iae rfl rfl rfl rfl rfl ⟨⟨1, by decide, rfl⟩, rfl⟩
theorem q_X11_seed_200_sN {S : aS} {I : Nat → Nat → Int32} {L : Nat → Nat → Int64} {w1 w2 t : Nat} {x1 : Int32} : Sp S m_X11_seed 12 0 0 [.ref 200, .int x1] (hp I L w1 w2 t) (QR (Fm sN I) isI L w1 w2 t) nX := by
  refine Sp_of ok_X11_seed rfl rfl ?_
  show AW S m_X11_seed 12 _ _ 0 0 0 [some (.ref 200), some (.int x1), none] [] (hp I L w1 w2 t)
  refine a_l0 rfl rfl rfl ?_
  refine a_getq rfl gfX11_37_11 rfl (rfl) ?_
  refine a_geti rfl gfX11_353_5 rfl ?_
  refine a_s2 rfl rfl rfl rfl rfl rfl ?_
  refine a_l0 rfl rfl rfl ?_
  refine a_getq rfl gfX11_37_11 rfl (rfl) ?_
  refine a_l1 rfl rfl rfl ?_
  refine a_puti rfl pfX11_353_5 rfl ?_
  refine a_ren (P := Fm sN I) (Fm.up (Fm.rf (s := sN)) rfl) (fun I1 f2 => ?_)
  refine a_l2 rfl rfl rfl ?_
  exact a_iret rfl rfl ⟨⟨_, rfl⟩, _, rfl, f2⟩
theorem q_X1_add_244_sN {S : aS} {I : Nat → Nat → Int32} {L : Nat → Nat → Int64} {w1 w2 t : Nat} {x1 x2 x3 x4 : Int32} : Sp S m_X1_add 13 0 0 [.ref 244, .int x1, .int x2, .int x3, .int x4] (hp I L w1 w2 t) (QR (Fm sN I) isV L w1 w2 t) nX := by
  refine Sp_of ok_X1_add rfl rfl ?_
  show AW S m_X1_add 13 _ _ 0 0 0 [some (.ref 244), some (.int x1), some (.int x2), some (.int x3), some (.int x4), none] [] (hp I L w1 w2 t)
  refine a_l0 rfl rfl rfl ?_
  refine a_geti rfl gfX1_19_1 rfl ?_
  refine a_s rfl rfl ?_
  refine a_s rfl rfl ?_
  refine a_s5 rfl rfl rfl rfl rfl rfl ?_
  refine a_l0 rfl rfl rfl ?_
  refine a_getq rfl gfX1_11_1 rfl (rfl) ?_
  refine a_l5 rfl rfl rfl ?_
  refine a_l1 rfl rfl rfl ?_
  refine a_eSN0 rfl lX1_26 mo_X11_setAt (sp_X11_setAt rfl) rfl rfl rfl rfl ?_
  refine a_ren (P := Fm sN I) (Fm.st (Fm.rf (s := sN)) (fun _ => rfl)) (fun I1 f2 => ?_)
  refine a_l0 rfl rfl rfl ?_
  refine a_getq rfl gfX1_11_1 rfl (rfl) ?_
  refine a_l5 rfl rfl rfl ?_
  refine a_s rfl rfl ?_
  refine a_s rfl rfl ?_
  refine a_l2 rfl rfl rfl ?_
  refine a_eSN0 rfl lX1_26 mo_X11_setAt (sp_X11_setAt rfl) rfl rfl rfl rfl ?_
  refine a_ren (P := Fm sN I) (Fm.tr (f2) (Fm.st (Fm.rf (s := sN)) (fun _ => rfl))) (fun I3 f4 => ?_)
  refine a_l0 rfl rfl rfl ?_
  refine a_getq rfl gfX1_11_1 rfl (rfl) ?_
  refine a_l5 rfl rfl rfl ?_
  refine a_s rfl rfl ?_
  refine a_s rfl rfl ?_
  refine a_l3 rfl rfl rfl ?_
  refine a_eSN0 rfl lX1_26 mo_X11_setAt (sp_X11_setAt rfl) rfl rfl rfl rfl ?_
  refine a_ren (P := Fm sN I) (Fm.tr (f4) (Fm.st (Fm.rf (s := sN)) (fun _ => rfl))) (fun I5 f6 => ?_)
  refine a_l0 rfl rfl rfl ?_
  refine a_getq rfl gfX1_11_1 rfl (rfl) ?_
  refine a_l5 rfl rfl rfl ?_
  refine a_s rfl rfl ?_
  refine a_s rfl rfl ?_
  refine a_l4 rfl rfl rfl ?_
  refine a_eSN0 rfl lX1_26 mo_X11_setAt (sp_X11_setAt rfl) rfl rfl rfl rfl ?_
  refine a_ren (P := Fm sN I) (Fm.tr (f6) (Fm.st (Fm.rf (s := sN)) (fun _ => rfl))) (fun I7 f8 => ?_)
  refine a_l0 rfl rfl rfl ?_
  refine a_l0 rfl rfl rfl ?_
  refine a_geti rfl gfX1_19_1 rfl ?_
  refine a_s rfl rfl ?_
  refine a_s rfl rfl ?_
  refine a_s rfl rfl ?_
  refine a_irem rfl (by decide) ?_
  refine a_puti rfl pfX1_19_1 rfl ?_
  refine a_ren (P := Fm sN I) (Fm.tr (f8) (Fm.up (Fm.rf (s := sN)) rfl)) (fun I9 f10 => ?_)
  refine a_l0 rfl rfl rfl ?_
  refine a_s rfl rfl ?_
  refine a_l0 rfl rfl rfl ?_
  refine a_geti rfl gfX1_15_1 rfl ?_
  refine a_s rfl rfl ?_
  refine a_s rfl rfl ?_
  refine a_min rfl lX1_30 mj_min rfl rfl ?_
  refine a_puti rfl pfX1_15_1 rfl ?_
  refine a_ren (P := Fm sN I) (Fm.tr (f10) (Fm.up (Fm.rf (s := sN)) rfl)) (fun I11 f12 => ?_)
  exact a_vret rfl rfl ⟨rfl, _, rfl, f12⟩
theorem q_X11_letParadeGoBy_200_sN {S : aS} {I : Nat → Nat → Int32} {L : Nat → Nat → Int64} {w1 w2 t : Nat} : Sp S m_X11_letParadeGoBy 16 0 0 [.ref 200] (hp I L w1 w2 t) (QR (Fm sN I) isV L w1 w2 t) nX := by
  refine Sp_of ok_X11_letParadeGoBy rfl rfl ?_
  show AW S m_X11_letParadeGoBy 16 _ _ 0 0 0 [some (.ref 200), none, none] [] (hp I L w1 w2 t)
  refine a_s rfl rfl ?_
  refine a_s1 rfl rfl rfl rfl rfl rfl ?_
  refine a_cnt (j0 := 0) (fun j ls h => ∃ I', ls = [some (.ref 200), some (.int (nI j)), none] ∧ h = hp I' L w1 w2 t ∧ Fm sN I I') (by decide) ⟨_, rfl, rfl, Fm.rf⟩ ⟨rfl, rfl, trivial⟩ ?_
  rintro j2 _ _ hj2 ⟨Ih2, rfl, rfl, fh2⟩ ih2
  refine a_l1 rfl rfl rfl ?_
  refine a_s rfl rfl ?_
  refine a_ic_ge rfl (fun c5 => ?_) (fun c5 => ?_)
  · exact a_vret rfl rfl ⟨rfl, _, rfl, fh2⟩
  · refine a_l0 rfl rfl rfl ?_
    refine a_getq rfl gfX11_37_11 rfl (rfl) ?_
    refine a_l1 rfl rfl rfl ?_
    refine a_gV rfl lX11_266 mo_X5_dutyAt (q_X5_dutyAt_235) rfl rfl rfl ⟨5, _, rfl, rfl, rfl⟩ rfl (fun v' h' hv => ?_)
    obtain ⟨⟨v1, rfl⟩, rfl⟩ := hv
    refine a_s2 rfl rfl rfl rfl rfl rfl ?_
    refine a_l2 rfl rfl rfl ?_
    refine a_s rfl rfl ?_
    refine a_ic_eq rfl (fun c19 => ?_) (fun c19 => ?_)
    · refine a_i1 rfl rfl rfl ?_
      refine a_goto rfl ?_
      exact ih2 _ _ _ _ c5 ⟨_, rfl, rfl, fh2⟩ ⟨rfl, nS _, trivial⟩
    · refine a_l0 rfl rfl rfl ?_
      refine a_getq rfl gfX11_37_11 rfl (rfl) ?_
      refine a_getq rfl gfX11_211_5 rfl (rfl) ?_
      refine a_l0 rfl rfl rfl ?_
      refine a_getq rfl gfX11_37_11 rfl (rfl) ?_
      refine a_geti rfl gfX11_188_5 rfl ?_
      refine a_l2 rfl rfl rfl ?_
      refine a_l1 rfl rfl rfl ?_
      refine a_l0 rfl rfl rfl ?_
      refine a_getq rfl gfX11_44_11 rfl (rfl) ?_
      refine a_l0 rfl rfl rfl ?_
      refine a_getq rfl gfX11_37_11 rfl (rfl) ?_
      refine a_l2 rfl rfl rfl ?_
      refine a_gV rfl lX11_170 mo_X2_shameOf (q_X2_shameOf_246_235) rfl rfl rfl ⟨2, _, rfl, rfl, rfl⟩ rfl (fun v' h' hv => ?_)
      obtain ⟨⟨v2, rfl⟩, I3, rfl, f4⟩ := hv
      replace f4 : Fm sN I I3 := Fm.tr (fh2) (Fm.mo (f4) sQ_sN)
      refine a_gV rfl lX11_385 mo_X1_add (q_X1_add_244_sN) rfl rfl rfl ⟨1, _, rfl, rfl, rfl⟩ rfl (fun v' h' hv => ?_)
      obtain ⟨rfl, I6, rfl, f7⟩ := hv
      replace f7 : Fm sN I I6 := Fm.tr (f4) (f7)
      refine a_i1 rfl rfl rfl ?_
      refine a_goto rfl ?_
      exact ih2 _ _ _ _ c5 ⟨_, rfl, rfl, f7⟩ ⟨rfl, nS _, trivial⟩
theorem q_X5_growOlder_235_sN {S : aS} {I : Nat → Nat → Int32} {L : Nat → Nat → Int64} {w1 w2 t : Nat} {x1 : Int32} : Sp S m_X5_growOlder 13 0 0 [.ref 235, .int x1] (hp I L w1 w2 t) (QR (Fm sN I) isV L w1 w2 t) nX := by
  refine Sp_of ok_X5_growOlder rfl rfl ?_
  show AW S m_X5_growOlder 13 _ _ 0 0 0 [some (.ref 235), some (.int x1)] [] (hp I L w1 w2 t)
  refine a_l0 rfl rfl rfl ?_
  refine a_getq rfl gfX5_24_5 rfl (rfl) ?_
  refine a_l1 rfl rfl rfl ?_
  refine a_s rfl rfl ?_
  refine a_l0 rfl rfl rfl ?_
  refine a_getq rfl gfX5_24_5 rfl (rfl) ?_
  refine a_l1 rfl rfl rfl ?_
  refine a_eSN1 rfl lX5_86 mo_X11_at (sp_X11_at rfl) rfl rfl rfl rfl ?_
  refine a_s rfl rfl ?_
  refine a_s rfl rfl ?_
  refine a_min rfl lX5_127 mj_min rfl rfl ?_
  refine a_eSN0 rfl lX5_82 mo_X11_setAt (sp_X11_setAt rfl) rfl rfl rfl rfl ?_
  refine a_ren (P := Fm sN I) (Fm.st (Fm.rf (s := sN)) (fun _ => rfl)) (fun I1 f2 => ?_)
  exact a_vret rfl rfl ⟨rfl, _, rfl, f2⟩
theorem q_X5_passMonth_235_246_sN {S : aS} {I : Nat → Nat → Int32} {L : Nat → Nat → Int64} {w1 w2 t : Nat} : Sp S m_X5_passMonth 16 0 0 [.ref 235, .ref 246] (hp I L w1 w2 t) (QR (Fm sN I) isV L w1 w2 t) nX := by
  refine Sp_of ok_X5_passMonth rfl rfl ?_
  show AW S m_X5_passMonth 16 _ _ 0 0 0 [some (.ref 235), some (.ref 246), none, none] [] (hp I L w1 w2 t)
  refine a_s rfl rfl ?_
  refine a_s2 rfl rfl rfl rfl rfl rfl ?_
  refine a_cnt (j0 := 0) (fun j ls h => ∃ I', ls = [some (.ref 235), some (.ref 246), some (.int (nI j)), none] ∧ h = hp I' L w1 w2 t ∧ Fm sN I I') (by decide) ⟨_, rfl, rfl, Fm.rf⟩ ⟨rfl, rfl, rfl, trivial⟩ ?_
  rintro j2 _ _ hj2 ⟨Ih2, rfl, rfl, fh2⟩ ih2
  refine a_l2 rfl rfl rfl ?_
  refine a_l0 rfl rfl rfl ?_
  refine a_geti rfl gfX5_63_5 rfl ?_
  refine a_ic_ge rfl (fun c7 => ?_) (fun c7 => ?_)
  · exact a_vret rfl rfl ⟨rfl, _, rfl, fh2⟩
  · refine a_l0 rfl rfl rfl ?_
    refine a_l2 rfl rfl rfl ?_
    refine a_gV rfl lX5_90 mo_X5_isWaiting (q_X5_isWaiting_235) rfl rfl rfl ⟨5, _, rfl, rfl, rfl⟩ rfl (fun v' h' hv => ?_)
    obtain ⟨⟨v1, rfl⟩, rfl⟩ := hv
    refine a_if_eq rfl (fun c15 => ?_) (fun c15 => ?_)
    · refine a_l0 rfl rfl rfl ?_
      refine a_getq rfl gfX5_33_5 rfl (rfl) ?_
      refine a_l2 rfl rfl rfl ?_
      refine a_eSN1 rfl lX5_86 mo_X11_at (sp_X11_at rfl) rfl rfl rfl rfl ?_
      refine a_s rfl rfl ?_
      refine a_ic_eq rfl (fun c57 => ?_) (fun c57 => ?_)
      · refine a_i2 rfl rfl rfl ?_
        refine a_goto rfl ?_
        exact ih2 _ _ _ _ c7 ⟨_, rfl, rfl, fh2⟩ ⟨rfl, rfl, nS _, trivial⟩
      · refine a_l0 rfl rfl rfl ?_
        refine a_l2 rfl rfl rfl ?_
        refine a_gV rfl lX5_163 mo_X5_growOlder (q_X5_growOlder_235_sN) rfl rfl rfl ⟨5, _, rfl, rfl, rfl⟩ rfl (fun v' h' hv => ?_)
        obtain ⟨rfl, I3, rfl, f4⟩ := hv
        replace f4 : Fm sN I I3 := Fm.tr (fh2) (f4)
        refine a_i2 rfl rfl rfl ?_
        refine a_goto rfl ?_
        exact ih2 _ _ _ _ c7 ⟨_, rfl, rfl, f4⟩ ⟨rfl, rfl, nS _, trivial⟩
    · refine a_l0 rfl rfl rfl ?_
      refine a_getq rfl gfX5_21_5 rfl (rfl) ?_
      refine a_l2 rfl rfl rfl ?_
      refine a_eSN1 rfl lX5_86 mo_X11_at (sp_X11_at rfl) rfl rfl rfl rfl ?_
      refine a_l1 rfl rfl rfl ?_
      refine a_l0 rfl rfl rfl ?_
      refine a_l2 rfl rfl rfl ?_
      refine a_gV rfl lX5_157 mo_X2_growthOf (q_X2_growthOf_246_235) rfl rfl rfl ⟨2, _, rfl, rfl, rfl⟩ rfl (fun v' h' hv => ?_)
      obtain ⟨⟨v5, rfl⟩, I6, rfl, f7⟩ := hv
      replace f7 : Fm sN I I6 := Fm.tr (fh2) (Fm.mo (f7) sQ_sN)
      refine a_s rfl rfl ?_
      refine a_s3 rfl rfl rfl rfl rfl rfl ?_
      refine a_l0 rfl rfl rfl ?_
      refine a_getq rfl gfX5_21_5 rfl (rfl) ?_
      refine a_l2 rfl rfl rfl ?_
      refine a_s rfl rfl ?_
      refine a_l3 rfl rfl rfl ?_
      refine a_min rfl lX5_127 mj_min rfl rfl ?_
      refine a_eSN0 rfl lX5_82 mo_X11_setAt (sp_X11_setAt rfl) rfl rfl rfl rfl ?_
      refine a_ren (P := Fm sN I) (Fm.tr (f7) (Fm.st (Fm.rf (s := sN)) (fun _ => rfl))) (fun I8 f9 => ?_)
      refine a_l0 rfl rfl rfl ?_
      refine a_getq rfl gfX5_33_5 rfl (rfl) ?_
      refine a_l2 rfl rfl rfl ?_
      refine a_eSN1 rfl lX5_86 mo_X11_at (sp_X11_at rfl) rfl rfl rfl rfl ?_
      refine a_s rfl rfl ?_
      refine a_ic_eq rfl (fun c57 => ?_) (fun c57 => ?_)
      · refine a_i2 rfl rfl rfl ?_
        refine a_goto rfl ?_
        exact ih2 _ _ _ _ c7 ⟨_, rfl, rfl, f9⟩ ⟨rfl, rfl, nS _, trivial⟩
      · refine a_l0 rfl rfl rfl ?_
        refine a_l2 rfl rfl rfl ?_
        refine a_gV rfl lX5_163 mo_X5_growOlder (q_X5_growOlder_235_sN) rfl rfl rfl ⟨5, _, rfl, rfl, rfl⟩ rfl (fun v' h' hv => ?_)
        obtain ⟨rfl, I11, rfl, f12⟩ := hv
        replace f12 : Fm sN I I11 := Fm.tr (f9) (f12)
        refine a_i2 rfl rfl rfl ?_
        refine a_goto rfl ?_
        exact ih2 _ _ _ _ c7 ⟨_, rfl, rfl, f12⟩ ⟨rfl, rfl, nS _, trivial⟩
theorem q_X5_finish_235_sN {S : aS} {I : Nat → Nat → Int32} {L : Nat → Nat → Int64} {w1 w2 t : Nat} {x1 : Int32} : Sp S m_X5_finish 13 0 0 [.ref 235, .int x1] (hp I L w1 w2 t) (QR (Fm sN I) isV L w1 w2 t) nX := by
  refine Sp_of ok_X5_finish rfl rfl ?_
  show AW S m_X5_finish 13 _ _ 0 0 0 [some (.ref 235), some (.int x1)] [] (hp I L w1 w2 t)
  refine a_l0 rfl rfl rfl ?_
  refine a_getq rfl gfX5_21_5 rfl (rfl) ?_
  refine a_l1 rfl rfl rfl ?_
  refine a_s rfl rfl ?_
  refine a_eSN0 rfl lX5_82 mo_X11_setAt (sp_X11_setAt rfl) rfl rfl rfl rfl ?_
  refine a_ren (P := Fm sN I) (Fm.st (Fm.rf (s := sN)) (fun _ => rfl)) (fun I1 f2 => ?_)
  refine a_l0 rfl rfl rfl ?_
  refine a_getq rfl gfX5_33_5 rfl (rfl) ?_
  refine a_l1 rfl rfl rfl ?_
  refine a_s rfl rfl ?_
  refine a_eSN0 rfl lX5_82 mo_X11_setAt (sp_X11_setAt rfl) rfl rfl rfl rfl ?_
  refine a_ren (P := Fm sN I) (Fm.tr (f2) (Fm.st (Fm.rf (s := sN)) (fun _ => rfl))) (fun I3 f4 => ?_)
  exact a_vret rfl rfl ⟨rfl, _, rfl, f4⟩
theorem q_X5_work_235_sN {S : aS} {I : Nat → Nat → Int32} {L : Nat → Nat → Int64} {w1 w2 t : Nat} {x1 x2 : Int32} : Sp S m_X5_work 15 0 0 [.ref 235, .int x1, .int x2] (hp I L w1 w2 t) (QR (Fm sN I) isI L w1 w2 t) nX := by
  refine Sp_of ok_X5_work rfl rfl ?_
  show AW S m_X5_work 15 _ _ 0 0 0 [some (.ref 235), some (.int x1), some (.int x2), none, none, none, none] [] (hp I L w1 w2 t)
  refine a_s rfl rfl ?_
  refine a_s3 rfl rfl rfl rfl rfl rfl ?_
  refine a_l0 rfl rfl rfl ?_
  refine a_getq rfl gfX5_15_5 rfl (rfl) ?_
  refine a_l1 rfl rfl rfl ?_
  refine a_eSN1 rfl lX5_86 mo_X11_at (sp_X11_at rfl) rfl rfl rfl rfl ?_
  refine a_s4 rfl rfl rfl rfl rfl rfl ?_
  refine a_s rfl rfl ?_
  refine a_s5 rfl rfl rfl rfl rfl rfl ?_
  refine a_cnt (j0 := 0) (fun j ls h => ∃ a0, ∃ a1, ∃ I', ls = [some (.ref 235), some (.int x1), some (.int x2), some (.int a0), some (.int a1), some (.int (nI j)), none] ∧ h = hp I' L w1 w2 t ∧ Fm sN I I') (by decide) ⟨_, _, _, rfl, rfl, Fm.rf⟩ ⟨rfl, rfl, rfl, rfl, rfl, rfl, trivial⟩ ?_
  rintro j15 _ _ hj15 ⟨a0_15, a1_15, Ih15, rfl, rfl, fh15⟩ ih15
  refine a_l5 rfl rfl rfl ?_
  refine a_l0 rfl rfl rfl ?_
  refine a_geti rfl gfX5_63_5 rfl ?_
  refine a_ic_ge rfl (fun c21 => ?_) (fun c21 => ?_)
  · refine a_l3 rfl rfl rfl ?_
    exact a_iret rfl rfl ⟨⟨_, rfl⟩, _, rfl, fh15⟩
  · refine a_l4 rfl rfl rfl ?_
    refine a_if_le rfl (fun c26 => ?_) (fun c26 => ?_)
    · refine a_l3 rfl rfl rfl ?_
      exact a_iret rfl rfl ⟨⟨_, rfl⟩, _, rfl, fh15⟩
    · refine a_l0 rfl rfl rfl ?_
      refine a_getq rfl gfX5_18_5 rfl (rfl) ?_
      refine a_l5 rfl rfl rfl ?_
      refine a_eSN1 rfl lX5_86 mo_X11_at (sp_X11_at rfl) rfl rfl rfl rfl ?_
      refine a_l1 rfl rfl rfl ?_
      refine a_ic_ne rfl (fun c39 => ?_) (fun c39 => ?_)
      · refine a_i5 rfl rfl rfl ?_
        refine a_goto rfl ?_
        exact ih15 _ _ _ _ c21 ⟨_, _, _, rfl, rfl, fh15⟩ ⟨rfl, rfl, rfl, rfl, rfl, nS _, trivial⟩
      · refine a_l0 rfl rfl rfl ?_
        refine a_l5 rfl rfl rfl ?_
        refine a_gV rfl lX5_101 mo_X5_isReady (q_X5_isReady_235) rfl rfl rfl ⟨5, _, rfl, rfl, rfl⟩ rfl (fun v' h' hv => ?_)
        obtain ⟨⟨v1, rfl⟩, rfl⟩ := hv
        refine a_if_eq rfl (fun c48 => ?_) (fun c48 => ?_)
        · refine a_i5 rfl rfl rfl ?_
          refine a_goto rfl ?_
          exact ih15 _ _ _ _ c21 ⟨_, _, _, rfl, rfl, fh15⟩ ⟨rfl, rfl, rfl, rfl, rfl, nS _, trivial⟩
        · refine a_l2 rfl rfl rfl ?_
          refine a_l0 rfl rfl rfl ?_
          refine a_getq rfl gfX5_27_5 rfl (rfl) ?_
          refine a_l5 rfl rfl rfl ?_
          refine a_eSN1 rfl lX5_86 mo_X11_at (sp_X11_at rfl) rfl rfl rfl rfl ?_
          refine a_eSN1 rfl lX5_149 mo_X11_has (sp_X11_has) rfl rfl rfl rfl ?_
          refine a_if_ne rfl (fun c64 => ?_) (fun c64 => ?_)
          · refine a_i5 rfl rfl rfl ?_
            refine a_goto rfl ?_
            exact ih15 _ _ _ _ c21 ⟨_, _, _, rfl, rfl, fh15⟩ ⟨rfl, rfl, rfl, rfl, rfl, nS _, trivial⟩
          · refine a_l4 rfl rfl rfl ?_
            refine a_l0 rfl rfl rfl ?_
            refine a_getq rfl gfX5_21_5 rfl (rfl) ?_
            refine a_l5 rfl rfl rfl ?_
            refine a_eSN1 rfl lX5_86 mo_X11_at (sp_X11_at rfl) rfl rfl rfl rfl ?_
            refine a_min rfl lX5_127 mj_min rfl rfl ?_
            refine a_s6 rfl rfl rfl rfl rfl rfl ?_
            refine a_l4 rfl rfl rfl ?_
            refine a_l6 rfl rfl rfl ?_
            refine a_s rfl rfl ?_
            refine a_s4 rfl rfl rfl rfl rfl rfl ?_
            refine a_l3 rfl rfl rfl ?_
            refine a_l0 rfl rfl rfl ?_
            refine a_getq rfl gfX5_27_5 rfl (rfl) ?_
            refine a_l5 rfl rfl rfl ?_
            refine a_eSN1 rfl lX5_86 mo_X11_at (sp_X11_at rfl) rfl rfl rfl rfl ?_
            refine a_eSN1 rfl lX5_97 mo_X11_bit (sp_X11_bit) rfl rfl rfl rfl ?_
            refine a_s rfl rfl ?_
            refine a_s3 rfl rfl rfl rfl rfl rfl ?_
            refine a_l0 rfl rfl rfl ?_
            refine a_getq rfl gfX5_21_5 rfl (rfl) ?_
            refine a_l5 rfl rfl rfl ?_
            refine a_l0 rfl rfl rfl ?_
            refine a_getq rfl gfX5_21_5 rfl (rfl) ?_
            refine a_l5 rfl rfl rfl ?_
            refine a_eSN1 rfl lX5_86 mo_X11_at (sp_X11_at rfl) rfl rfl rfl rfl ?_
            refine a_l6 rfl rfl rfl ?_
            refine a_s rfl rfl ?_
            refine a_eSN0 rfl lX5_82 mo_X11_setAt (sp_X11_setAt rfl) rfl rfl rfl rfl ?_
            refine a_ren (P := Fm sN I) (Fm.tr (fh15) (Fm.st (Fm.rf (s := sN)) (fun _ => rfl))) (fun I2 f3 => ?_)
            refine a_l0 rfl rfl rfl ?_
            refine a_getq rfl gfX5_21_5 rfl (rfl) ?_
            refine a_l5 rfl rfl rfl ?_
            refine a_eSN1 rfl lX5_86 mo_X11_at (sp_X11_at rfl) rfl rfl rfl rfl ?_
            refine a_if_ne rfl (fun c135 => ?_) (fun c135 => ?_)
            · refine a_i5 rfl rfl rfl ?_
              refine a_goto rfl ?_
              exact ih15 _ _ _ _ c21 ⟨_, _, _, rfl, rfl, f3⟩ ⟨rfl, rfl, rfl, rfl, rfl, nS _, trivial⟩
            · refine a_l0 rfl rfl rfl ?_
              refine a_l5 rfl rfl rfl ?_
              refine a_gV rfl lX5_153 mo_X5_finish (q_X5_finish_235_sN) rfl rfl rfl ⟨5, _, rfl, rfl, rfl⟩ rfl (fun v' h' hv => ?_)
              obtain ⟨rfl, I5, rfl, f6⟩ := hv
              replace f6 : Fm sN I I5 := Fm.tr (f3) (f6)
              refine a_i5 rfl rfl rfl ?_
              refine a_goto rfl ?_
              exact ih15 _ _ _ _ c21 ⟨_, _, _, rfl, rfl, f6⟩ ⟨rfl, rfl, rfl, rfl, rfl, nS _, trivial⟩
theorem q_X5_passDay_235_246_sN {S : aS} {I : Nat → Nat → Int32} {L : Nat → Nat → Int64} {w1 w2 t : Nat} {b2 : Bool} : Sp S m_X5_passDay 17 0 0 [.ref 235, .ref 246, .int (bI b2)] (hp I L w1 w2 t) (QR (Fm sN I) isV L w1 w2 t) nX := by
  refine Sp_of ok_X5_passDay rfl rfl ?_
  show AW S m_X5_passDay 17 _ _ 0 0 0 [some (.ref 235), some (.ref 246), some (.int (bI b2)), none, none, none] [] (hp I L w1 w2 t)
  refine a_s rfl rfl ?_
  refine a_s3 rfl rfl rfl rfl rfl rfl ?_
  refine a_s rfl rfl ?_
  refine a_s4 rfl rfl rfl rfl rfl rfl ?_
  refine a_cnt (j0 := 0) (fun j ls h => ∃ a0, ∃ I', ls = [some (.ref 235), some (.ref 246), some (.int (bI b2)), some (.int a0), some (.int (nI j)), none] ∧ h = hp I' L w1 w2 t ∧ Fm sN I I') (by decide) ⟨_, _, rfl, rfl, Fm.rf⟩ ⟨rfl, rfl, rfl, rfl, rfl, trivial⟩ ?_
  rintro j5 _ _ hj5 ⟨a0_5, Ih5, rfl, rfl, fh5⟩ ih5
  refine a_l4 rfl rfl rfl ?_
  refine a_l0 rfl rfl rfl ?_
  refine a_geti rfl gfX5_56_5 rfl ?_
  refine a_ic_ge rfl (fun c11 => ?_) (fun c11 => ?_)
  · refine a_l0 rfl rfl rfl ?_
    refine a_s rfl rfl ?_
    refine a_geti rfl gfX5_36_5 rfl ?_
    refine a_s rfl rfl ?_
    refine a_s rfl rfl ?_
    refine a_puti rfl pfX5_36_5 rfl ?_
    refine a_ren (P := Fm sN I) (Fm.tr (fh5) (Fm.up (Fm.rf (s := sN)) rfl)) (fun I1 f2 => ?_)
    refine a_l0 rfl rfl rfl ?_
    refine a_geti rfl gfX5_36_5 rfl ?_
    refine a_s rfl rfl ?_
    refine a_ic_le rfl (fun c76 => ?_) (fun c76 => ?_)
    · exact a_vret rfl rfl ⟨rfl, _, rfl, f2⟩
    · refine a_l0 rfl rfl rfl ?_
      refine a_s rfl rfl ?_
      refine a_puti rfl pfX5_36_5 rfl ?_
      refine a_ren (P := Fm sN I) (Fm.tr (f2) (Fm.up (Fm.rf (s := sN)) rfl)) (fun I3 f4 => ?_)
      refine a_l0 rfl rfl rfl ?_
      refine a_s rfl rfl ?_
      refine a_l0 rfl rfl rfl ?_
      refine a_geti rfl gfX5_66_5 rfl ?_
      refine a_s rfl rfl ?_
      refine a_s rfl rfl ?_
      refine a_min rfl lX5_127 mj_min rfl rfl ?_
      refine a_puti rfl pfX5_66_5 rfl ?_
      refine a_ren (P := Fm sN I) (Fm.tr (f4) (Fm.up (Fm.rf (s := sN)) rfl)) (fun I5 f6 => ?_)
      refine a_l0 rfl rfl rfl ?_
      refine a_l1 rfl rfl rfl ?_
      refine a_gV rfl lX5_140 mo_X5_passMonth (q_X5_passMonth_235_246_sN) rfl rfl rfl ⟨5, _, rfl, rfl, rfl⟩ rfl (fun v' h' hv => ?_)
      obtain ⟨rfl, I8, rfl, f9⟩ := hv
      replace f9 : Fm sN I I8 := Fm.tr (f6) (f9)
      exact a_vret rfl rfl ⟨rfl, _, rfl, f9⟩
  · refine a_l2 rfl rfl rfl ?_
    refine a_if_eq rfl (fun c15 => ?_) (fun c15 => ?_)
    · refine a_s rfl rfl ?_
      refine a_s5 rfl rfl rfl rfl rfl rfl ?_
      refine a_l5 rfl rfl rfl ?_
      refine a_if_ne rfl (fun c41 => ?_) (fun c41 => ?_)
      · refine a_i4 rfl rfl rfl ?_
        refine a_goto rfl ?_
        exact ih5 _ _ _ _ c11 ⟨_, _, rfl, rfl, fh5⟩ ⟨rfl, rfl, rfl, rfl, nS _, trivial⟩
      · refine a_l3 rfl rfl rfl ?_
        refine a_l0 rfl rfl rfl ?_
        refine a_l4 rfl rfl rfl ?_
        refine a_l3 rfl rfl rfl ?_
        refine a_gV rfl lX5_137 mo_X5_work (q_X5_work_235_sN) rfl rfl rfl ⟨5, _, rfl, rfl, rfl⟩ rfl (fun v' h' hv => ?_)
        obtain ⟨⟨v10, rfl⟩, I11, rfl, f12⟩ := hv
        replace f12 : Fm sN I I11 := Fm.tr (fh5) (f12)
        refine a_s rfl rfl ?_
        refine a_s3 rfl rfl rfl rfl rfl rfl ?_
        refine a_i4 rfl rfl rfl ?_
        refine a_goto rfl ?_
        exact ih5 _ _ _ _ c11 ⟨_, _, rfl, rfl, f12⟩ ⟨rfl, rfl, rfl, rfl, nS _, trivial⟩
    · refine a_l0 rfl rfl rfl ?_
      refine a_eV1 rfl lX5_133 mo_X5_draw (sp_X5_draw (a := 235) (by decide)) rfl rfl rfl ⟨5, _, rfl, rfl, rfl⟩ rfl ?_
      refine a_ren (P := Fm sN I) (Fm.tr (fh5) (Fm.up (Fm.rf (s := sN)) rfl)) (fun I13 f14 => ?_)
      refine a_s rfl rfl ?_
      refine a_irem rfl (by decide) ?_
      refine a_l0 rfl rfl rfl ?_
      refine a_geti rfl gfX5_69_5 rfl ?_
      refine a_ic_ge rfl (fun c29 => ?_) (fun c29 => ?_)
      · refine a_s rfl rfl ?_
        refine a_s5 rfl rfl rfl rfl rfl rfl ?_
        refine a_l5 rfl rfl rfl ?_
        refine a_if_ne rfl (fun c41 => ?_) (fun c41 => ?_)
        · refine a_i4 rfl rfl rfl ?_
          refine a_goto rfl ?_
          exact ih5 _ _ _ _ c11 ⟨_, _, rfl, rfl, f14⟩ ⟨rfl, rfl, rfl, rfl, nS _, trivial⟩
        · refine a_l3 rfl rfl rfl ?_
          refine a_l0 rfl rfl rfl ?_
          refine a_l4 rfl rfl rfl ?_
          refine a_l3 rfl rfl rfl ?_
          refine a_gV rfl lX5_137 mo_X5_work (q_X5_work_235_sN) rfl rfl rfl ⟨5, _, rfl, rfl, rfl⟩ rfl (fun v' h' hv => ?_)
          obtain ⟨⟨v15, rfl⟩, I16, rfl, f17⟩ := hv
          replace f17 : Fm sN I I16 := Fm.tr (f14) (f17)
          refine a_s rfl rfl ?_
          refine a_s3 rfl rfl rfl rfl rfl rfl ?_
          refine a_i4 rfl rfl rfl ?_
          refine a_goto rfl ?_
          exact ih5 _ _ _ _ c11 ⟨_, _, rfl, rfl, f17⟩ ⟨rfl, rfl, rfl, rfl, nS _, trivial⟩
      · refine a_s rfl rfl ?_
        refine a_goto rfl ?_
        refine a_s5 rfl rfl rfl rfl rfl rfl ?_
        refine a_l5 rfl rfl rfl ?_
        refine a_if_ne rfl (fun c41 => ?_) (fun c41 => ?_)
        · refine a_i4 rfl rfl rfl ?_
          refine a_goto rfl ?_
          exact ih5 _ _ _ _ c11 ⟨_, _, rfl, rfl, f14⟩ ⟨rfl, rfl, rfl, rfl, nS _, trivial⟩
        · refine a_l3 rfl rfl rfl ?_
          refine a_l0 rfl rfl rfl ?_
          refine a_l4 rfl rfl rfl ?_
          refine a_l3 rfl rfl rfl ?_
          refine a_gV rfl lX5_137 mo_X5_work (q_X5_work_235_sN) rfl rfl rfl ⟨5, _, rfl, rfl, rfl⟩ rfl (fun v' h' hv => ?_)
          obtain ⟨⟨v18, rfl⟩, I19, rfl, f20⟩ := hv
          replace f20 : Fm sN I I19 := Fm.tr (f14) (f20)
          refine a_s rfl rfl ?_
          refine a_s3 rfl rfl rfl rfl rfl rfl ?_
          refine a_i4 rfl rfl rfl ?_
          refine a_goto rfl ?_
          exact ih5 _ _ _ _ c11 ⟨_, _, rfl, rfl, f20⟩ ⟨rfl, rfl, rfl, rfl, nS _, trivial⟩
end
section
/-! ===== the class: acts, image, undo, tape (printed by program) ===== -/
set_option maxRecDepth 100000
theorem nI_leu {n j : Nat} (h : n ≤ j) (hj : j < 2 ^ 31) : nI n ≤ nI j := Int32.le_iff_toInt_le.mpr (by rw [nI_toInt (by omega), nI_toInt hj]; omega)
theorem past_R {w1 w2 : Nat} : ∀ i, i < 12 → Rw w1 w2 287 i = 288 + 11 * i + 1 := by
  intro i hi
  have h : ∀ i, i < 12 → Rc 287 i = 288 + 11 * i + 1 := by decide +kernel
  have h9 : Nat.beq 287 204 = false := rfl
  have h8 : Nat.beq 287 221 = false := rfl
  unfold Rw
  rw [h9, h8, h i hi]
  split <;> rfl
theorem past_st : ∀ i, i < 12 → stp (288 + 11 * i) := by decide +kernel
theorem q_pastAt {S : aS} {I : Nat → Nat → Int32} {L : Nat → Nat → Int64} {w1 w2 t : Nat} {x : Int32} : Sp S m_X11_pastAt 12 0 0 [.ref 200, .int x] (hp I L w1 w2 t) (fun v h' => (v = some .null ∨ ∃ i, i < 12 ∧ v = some (.ref (288 + 11 * i))) ∧ h' = hp I L w1 w2 t) nX := by
  refine Sp_of ok_X11_pastAt rfl rfl ?_
  show AW S m_X11_pastAt 12 _ _ 0 0 0 [some (.ref 200), some (.int x), none] [] (hp I L w1 w2 t)
  refine a_l1 rfl rfl rfl ?_
  refine a_s rfl rfl ?_
  refine a_irem rfl (by decide) ?_
  refine a_s2 rfl rfl rfl rfl rfl rfl ?_
  refine a_l2 rfl rfl rfl ?_
  refine a_if_lt rfl (fun c6 => ?_) (fun c6 => ?_)
  · refine a_s rfl rfl ?_
    exact a_aret (q := 0) rfl rfl rfl ⟨Or.inl rfl, rfl⟩
  · refine a_l2 rfl rfl rfl ?_
    refine a_l0 rfl rfl rfl ?_
    refine a_getq rfl gfX11_64_11 rfl (rfl) ?_
    refine a_len rfl rfl rfl rfl ?_
    refine a_ic_ge rfl (fun c15 => ?_) (fun c15 => ?_)
    · refine a_s rfl rfl ?_
      exact a_aret (q := 0) rfl rfl rfl ⟨Or.inl rfl, rfl⟩
    · refine a_l0 rfl rfl rfl ?_
      refine a_getq rfl gfX11_64_11 rfl (rfl) ?_
      refine a_l2 rfl rfl rfl ?_
      have hi := inI_of (n := 12) (by decide) c6 c15
      refine a_aald rfl rfl hi (past_R _ hi.2) ?_
      refine a_goto rfl ?_
      exact a_aret (q := 288 + 11 * _ + 1) rfl rfl rfl ⟨Or.inr ⟨_, hi.2, rfl⟩, rfl⟩
theorem q_X11_rememberAct_200 {S : aS} {I : Nat → Nat → Int32} {L : Nat → Nat → Int64} {w1 w2 t : Nat} : Sp S m_X11_rememberAct 15 0 0 [.ref 200] (hp I L w1 w2 t) (QR (Mt I) isV L w1 w2 t) nX := by
  refine Sp_of ok_X11_rememberAct rfl rfl ?_
  show AW S m_X11_rememberAct 15 _ _ 0 0 0 [some (.ref 200), none] [] (hp I L w1 w2 t)
  refine a_l0 rfl rfl rfl ?_
  refine a_geti rfl gfX11_95_11 rfl ?_
  refine a_s rfl rfl ?_
  refine a_ic_ne rfl (fun c6 => ?_) (fun c6 => ?_)
  · refine a_l0 rfl rfl rfl ?_
    refine a_l0 rfl rfl rfl ?_
    refine a_geti rfl gfX11_368_11 rfl ?_
    refine a_l0 rfl rfl rfl ?_
    refine a_geti rfl gfX11_95_11 rfl ?_
    refine a_s rfl rfl ?_
    refine a_gV rfl lX11_371 mo_X11_pastAt (q_pastAt) rfl rfl rfl ⟨11, _, rfl, rfl, rfl⟩ rfl (fun v' h' hv => ?_)
    obtain ⟨rfl | ⟨i, hi, rfl⟩, rfl⟩ := hv
    · refine a_s1 rfl rfl rfl rfl rfl rfl ?_
      refine a_l1 rfl rfl rfl ?_
      refine a_ifnull_t rfl ?_
      refine a_l0 rfl rfl rfl ?_
      refine a_s rfl rfl ?_
      refine a_geti rfl gfX11_95_11 rfl ?_
      refine a_s rfl rfl ?_
      refine a_s rfl rfl ?_
      refine a_puti rfl pfX11_95_11 rfl ?_
      refine a_ren (P := Mt I) (Mt.fm (Mt.rf) (Fm.up (Fm.rf (s := sM)) rfl)) (fun I1 f2 => ?_)
      exact a_vret rfl rfl ⟨rfl, _, rfl, f2⟩
    · refine a_s1 rfl rfl rfl rfl rfl rfl ?_
      refine a_l1 rfl rfl rfl ?_
      refine a_ifnull_f rfl ?_
      refine a_l1 rfl rfl rfl ?_
      refine a_l0 rfl rfl rfl ?_
      refine a_getq rfl gfX11_37_11 rfl (rfl) ?_
      refine a_eV0 rfl lX11_375 mo_X5_copyAll (sp_X5_copyAll (a := 288 + 11 * i) (b := 235) (past_st i hi) (by decide) (by omega)) rfl rfl rfl ⟨5, _, kS0 (past_st i hi), rfl, rfl⟩ rfl ?_
      refine a_ren (P := Mt I) (Mt.tr (Mt.rf) (Mt.cpA (past_st i hi) (by decide) (by decide))) (fun I3 f4 => ?_)
      refine a_l0 rfl rfl rfl ?_
      refine a_s rfl rfl ?_
      refine a_geti rfl gfX11_95_11 rfl ?_
      refine a_s rfl rfl ?_
      refine a_s rfl rfl ?_
      refine a_puti rfl pfX11_95_11 rfl ?_
      refine a_ren (P := Mt I) (Mt.fm (f4) (Fm.up (Fm.rf (s := sM)) rfl)) (fun I5 f6 => ?_)
      exact a_vret rfl rfl ⟨rfl, _, rfl, f6⟩
  · refine a_l0 rfl rfl rfl ?_
    refine a_l0 rfl rfl rfl ?_
    refine a_geti rfl gfX11_368_11 rfl ?_
    refine a_s rfl rfl ?_
    refine a_s rfl rfl ?_
    refine a_s rfl rfl ?_
    refine a_irem rfl (by decide) ?_
    refine a_puti rfl pfX11_368_11 rfl ?_
    refine a_ren (P := Mt I) (Mt.fm (Mt.rf) (Fm.up (Fm.rf (s := sM)) rfl)) (fun I7 f8 => ?_)
    refine a_l0 rfl rfl rfl ?_
    refine a_s rfl rfl ?_
    refine a_geti rfl gfX11_95_11 rfl ?_
    refine a_s rfl rfl ?_
    refine a_s rfl rfl ?_
    refine a_puti rfl pfX11_95_11 rfl ?_
    refine a_ren (P := Mt I) (Mt.fm (f8) (Fm.up (Fm.rf (s := sM)) rfl)) (fun I9 f10 => ?_)
    refine a_l0 rfl rfl rfl ?_
    refine a_l0 rfl rfl rfl ?_
    refine a_geti rfl gfX11_368_11 rfl ?_
    refine a_l0 rfl rfl rfl ?_
    refine a_geti rfl gfX11_95_11 rfl ?_
    refine a_s rfl rfl ?_
    refine a_gV rfl lX11_371 mo_X11_pastAt (q_pastAt) rfl rfl rfl ⟨11, _, rfl, rfl, rfl⟩ rfl (fun v' h' hv => ?_)
    obtain ⟨rfl | ⟨i, hi, rfl⟩, rfl⟩ := hv
    · refine a_s1 rfl rfl rfl rfl rfl rfl ?_
      refine a_l1 rfl rfl rfl ?_
      refine a_ifnull_t rfl ?_
      refine a_l0 rfl rfl rfl ?_
      refine a_s rfl rfl ?_
      refine a_geti rfl gfX11_95_11 rfl ?_
      refine a_s rfl rfl ?_
      refine a_s rfl rfl ?_
      refine a_puti rfl pfX11_95_11 rfl ?_
      refine a_ren (P := Mt I) (Mt.fm (f10) (Fm.up (Fm.rf (s := sM)) rfl)) (fun I11 f12 => ?_)
      exact a_vret rfl rfl ⟨rfl, _, rfl, f12⟩
    · refine a_s1 rfl rfl rfl rfl rfl rfl ?_
      refine a_l1 rfl rfl rfl ?_
      refine a_ifnull_f rfl ?_
      refine a_l1 rfl rfl rfl ?_
      refine a_l0 rfl rfl rfl ?_
      refine a_getq rfl gfX11_37_11 rfl (rfl) ?_
      refine a_eV0 rfl lX11_375 mo_X5_copyAll (sp_X5_copyAll (a := 288 + 11 * i) (b := 235) (past_st i hi) (by decide) (by omega)) rfl rfl rfl ⟨5, _, kS0 (past_st i hi), rfl, rfl⟩ rfl ?_
      refine a_ren (P := Mt I) (Mt.tr (f10) (Mt.cpA (past_st i hi) (by decide) (by decide))) (fun I13 f14 => ?_)
      refine a_l0 rfl rfl rfl ?_
      refine a_s rfl rfl ?_
      refine a_geti rfl gfX11_95_11 rfl ?_
      refine a_s rfl rfl ?_
      refine a_s rfl rfl ?_
      refine a_puti rfl pfX11_95_11 rfl ?_
      refine a_ren (P := Mt I) (Mt.fm (f14) (Fm.up (Fm.rf (s := sM)) rfl)) (fun I15 f16 => ?_)
      exact a_vret rfl rfl ⟨rfl, _, rfl, f16⟩
theorem q_X11_call_200 {S : aS} {I : Nat → Nat → Int32} {L : Nat → Nat → Int64} {w1 w2 t : Nat} {x1 : Int32} : Sp S m_X11_call 17 2 12 [.ref 200, .int x1] (hp I L w1 w2 t) (QR (Mt I) isI L w1 w2 t) (XR (Mt I) L w1 w2 [0, 2]) := by
  refine Sp_of ok_X11_call rfl rfl ?_
  show AW S m_X11_call 17 _ _ 2 12 0 [some (.ref 200), some (.int x1), none] [] (hp I L w1 w2 t)
  refine a_l0 rfl rfl rfl ?_
  refine a_l1 rfl rfl rfl ?_
  refine a_callV rfl lX11_141 mo_X11_needDuty (q_X11_needDuty_200) rfl rfl rfl ⟨11, _, rfl, rfl, rfl⟩ rfl (fun v' h' hv => ?_) (fun E h' hx => XR.cm hx (by decide) (fun _ z => Mt.fm (Mt.rf) (Fm.mo (z) sQ_sM)))
  obtain ⟨rfl, rfl⟩ := hv
  refine a_l0 rfl rfl rfl ?_
  refine a_getq rfl gfX11_37_11 rfl (rfl) ?_
  refine a_gV rfl lX11_220 mo_X5_canBits (q_X5_canBits_235) rfl rfl rfl ⟨5, _, rfl, rfl, rfl⟩ rfl (fun v' h' hv => ?_)
  obtain ⟨⟨v2, rfl⟩, rfl⟩ := hv
  refine a_l1 rfl rfl rfl ?_
  refine a_eS1 rfl lX11_223 mo_X11_has (sp_X11_has) rfl rfl rfl rfl ?_
  refine a_if_ne rfl (fun c16 => ?_) (fun c16 => ?_)
  · refine a_l0 rfl rfl rfl ?_
    refine a_getq rfl gfX11_37_11 rfl (rfl) ?_
    refine a_l1 rfl rfl rfl ?_
    refine a_gV rfl lX11_176 mo_X5_passesOf (q_X5_passesOf_235) rfl rfl rfl ⟨5, _, rfl, rfl, rfl⟩ rfl (fun v' h' hv => ?_)
    obtain ⟨⟨v3, rfl⟩, rfl⟩ := hv
    refine a_s2 rfl rfl rfl rfl rfl rfl ?_
    refine a_l0 rfl rfl rfl ?_
    refine a_gV rfl lX11_230 mo_X11_rememberAct (q_X11_rememberAct_200) rfl rfl rfl ⟨11, _, rfl, rfl, rfl⟩ rfl (fun v' h' hv => ?_)
    obtain ⟨rfl, I5, rfl, f6⟩ := hv
    refine a_l0 rfl rfl rfl ?_
    refine a_getq rfl gfX11_37_11 rfl (rfl) ?_
    refine a_l1 rfl rfl rfl ?_
    refine a_gV rfl lX11_233 mo_X5_finish (q_X5_finish_235_sN) rfl rfl rfl ⟨5, _, rfl, rfl, rfl⟩ rfl (fun v' h' hv => ?_)
    obtain ⟨rfl, I8, rfl, f9⟩ := hv
    replace f9 : Mt I I8 := Mt.fm (f6) (Fm.mo (f9) sN_sM)
    refine a_l2 rfl rfl rfl ?_
    exact a_iret rfl rfl ⟨⟨_, rfl⟩, _, rfl, f9⟩
  · exact a_throw rfl rfl rfl rfl tX11_ise rfl rfl rfl rfl rfl ⟨⟨2, by decide, rfl⟩, _, rfl, Mt.rf⟩
theorem q_X11_needState_200 {S : aS} {I : Nat → Nat → Int32} {L : Nat → Nat → Int64} {w1 w2 t : Nat} {x1 x2 : Int32} : Sp S m_X11_needState 13 1 6 [.ref 200, .int x1, .int x2] (hp I L w1 w2 t) (QE isV (hp I L w1 w2 t)) (XR (Fm sQ I) L w1 w2 [2]) := by
  refine Sp_of ok_X11_needState rfl rfl ?_
  show AW S m_X11_needState 13 _ _ 1 6 0 [some (.ref 200), some (.int x1), some (.int x2)] [] (hp I L w1 w2 t)
  refine a_l0 rfl rfl rfl ?_
  refine a_getq rfl gfX11_37_11 rfl (rfl) ?_
  refine a_getq rfl gfX11_159_5 rfl (rfl) ?_
  refine a_l1 rfl rfl rfl ?_
  refine a_eS1 rfl lX11_117 mo_X11_at (sp_X11_at rfl) rfl rfl rfl rfl ?_
  refine a_l2 rfl rfl rfl ?_
  refine a_ic_eq rfl (fun c12 => ?_) (fun c12 => ?_)
  · exact a_vret rfl rfl ⟨rfl, rfl⟩
  · exact a_throw rfl rfl rfl rfl tX11_ise rfl rfl rfl rfl rfl ⟨⟨2, by decide, rfl⟩, _, rfl, Fm.rf⟩
theorem q_X11_put_200 {S : aS} {I : Nat → Nat → Int32} {L : Nat → Nat → Int64} {w1 w2 t : Nat} {x1 : Int32} : Sp S m_X11_put 16 2 12 [.ref 200, .int x1] (hp I L w1 w2 t) (QR (Mt I) isI L w1 w2 t) (XR (Mt I) L w1 w2 [0, 2]) := by
  refine Sp_of ok_X11_put rfl rfl ?_
  show AW S m_X11_put 16 _ _ 2 12 0 [some (.ref 200), some (.int x1)] [] (hp I L w1 w2 t)
  refine a_l0 rfl rfl rfl ?_
  refine a_l1 rfl rfl rfl ?_
  refine a_callV rfl lX11_141 mo_X11_needDuty (q_X11_needDuty_200) rfl rfl rfl ⟨11, _, rfl, rfl, rfl⟩ rfl (fun v' h' hv => ?_) (fun E h' hx => XR.cm hx (by decide) (fun _ z => Mt.fm (Mt.rf) (Fm.mo (z) sQ_sM)))
  obtain ⟨rfl, rfl⟩ := hv
  refine a_l0 rfl rfl rfl ?_
  refine a_l1 rfl rfl rfl ?_
  refine a_s rfl rfl ?_
  refine a_callV rfl lX11_236 mo_X11_needState (q_X11_needState_200) rfl rfl rfl ⟨11, _, rfl, rfl, rfl⟩ rfl (fun v' h' hv => ?_) (fun E h' hx => XR.cm hx (by decide) (fun _ z => Mt.fm (Mt.rf) (Fm.mo (z) sQ_sM)))
  obtain ⟨rfl, rfl⟩ := hv
  refine a_l0 rfl rfl rfl ?_
  refine a_gV rfl lX11_230 mo_X11_rememberAct (q_X11_rememberAct_200) rfl rfl rfl ⟨11, _, rfl, rfl, rfl⟩ rfl (fun v' h' hv => ?_)
  obtain ⟨rfl, I4, rfl, f5⟩ := hv
  refine a_l0 rfl rfl rfl ?_
  refine a_getq rfl gfX11_37_11 rfl (rfl) ?_
  refine a_l1 rfl rfl rfl ?_
  refine a_gV rfl lX11_240 mo_X5_growOlder (q_X5_growOlder_235_sN) rfl rfl rfl ⟨5, _, rfl, rfl, rfl⟩ rfl (fun v' h' hv => ?_)
  obtain ⟨rfl, I7, rfl, f8⟩ := hv
  replace f8 : Mt I I7 := Mt.fm (f5) (Fm.mo (f8) sN_sM)
  refine a_l0 rfl rfl rfl ?_
  refine a_getq rfl gfX11_37_11 rfl (rfl) ?_
  refine a_getq rfl gfX11_150_5 rfl (rfl) ?_
  refine a_l1 rfl rfl rfl ?_
  refine a_eS1 rfl lX11_117 mo_X11_at (sp_X11_at rfl) rfl rfl rfl rfl ?_
  exact a_iret rfl rfl ⟨⟨_, rfl⟩, _, rfl, f8⟩
theorem q_X11_forget_200 {S : aS} {I : Nat → Nat → Int32} {L : Nat → Nat → Int64} {w1 w2 t : Nat} {x1 : Int32} : Sp S m_X11_forget 16 2 12 [.ref 200, .int x1] (hp I L w1 w2 t) (QR (Mt I) isI L w1 w2 t) (XR (Mt I) L w1 w2 [0, 2]) := by
  refine Sp_of ok_X11_forget rfl rfl ?_
  show AW S m_X11_forget 16 _ _ 2 12 0 [some (.ref 200), some (.int x1)] [] (hp I L w1 w2 t)
  refine a_l0 rfl rfl rfl ?_
  refine a_l1 rfl rfl rfl ?_
  refine a_callV rfl lX11_141 mo_X11_needDuty (q_X11_needDuty_200) rfl rfl rfl ⟨11, _, rfl, rfl, rfl⟩ rfl (fun v' h' hv => ?_) (fun E h' hx => XR.cm hx (by decide) (fun _ z => Mt.fm (Mt.rf) (Fm.mo (z) sQ_sM)))
  obtain ⟨rfl, rfl⟩ := hv
  refine a_l0 rfl rfl rfl ?_
  refine a_l1 rfl rfl rfl ?_
  refine a_s rfl rfl ?_
  refine a_callV rfl lX11_236 mo_X11_needState (q_X11_needState_200) rfl rfl rfl ⟨11, _, rfl, rfl, rfl⟩ rfl (fun v' h' hv => ?_) (fun E h' hx => XR.cm hx (by decide) (fun _ z => Mt.fm (Mt.rf) (Fm.mo (z) sQ_sM)))
  obtain ⟨rfl, rfl⟩ := hv
  refine a_l0 rfl rfl rfl ?_
  refine a_gV rfl lX11_230 mo_X11_rememberAct (q_X11_rememberAct_200) rfl rfl rfl ⟨11, _, rfl, rfl, rfl⟩ rfl (fun v' h' hv => ?_)
  obtain ⟨rfl, I4, rfl, f5⟩ := hv
  refine a_l0 rfl rfl rfl ?_
  refine a_getq rfl gfX11_37_11 rfl (rfl) ?_
  refine a_getq rfl gfX11_159_5 rfl (rfl) ?_
  refine a_l1 rfl rfl rfl ?_
  refine a_s rfl rfl ?_
  refine a_eS0 rfl lX11_243 mo_X11_setAt (sp_X11_setAt rfl) rfl rfl rfl rfl ?_
  refine a_ren (P := Mt I) (Mt.fm (f5) (Fm.st (Fm.rf (s := sM)) (fun _ => rfl))) (fun I6 f7 => ?_)
  refine a_l0 rfl rfl rfl ?_
  refine a_getq rfl gfX11_37_11 rfl (rfl) ?_
  refine a_getq rfl gfX11_147_5 rfl (rfl) ?_
  refine a_l1 rfl rfl rfl ?_
  refine a_eS1 rfl lX11_117 mo_X11_at (sp_X11_at rfl) rfl rfl rfl rfl ?_
  exact a_iret rfl rfl ⟨⟨_, rfl⟩, _, rfl, f7⟩
theorem q_X11_recall_200 {S : aS} {I : Nat → Nat → Int32} {L : Nat → Nat → Int64} {w1 w2 t : Nat} {x1 : Int32} : Sp S m_X11_recall 16 2 12 [.ref 200, .int x1] (hp I L w1 w2 t) (QR (Mt I) isI L w1 w2 t) (XR (Mt I) L w1 w2 [0, 2]) := by
  refine Sp_of ok_X11_recall rfl rfl ?_
  show AW S m_X11_recall 16 _ _ 2 12 0 [some (.ref 200), some (.int x1)] [] (hp I L w1 w2 t)
  refine a_l0 rfl rfl rfl ?_
  refine a_l1 rfl rfl rfl ?_
  refine a_callV rfl lX11_141 mo_X11_needDuty (q_X11_needDuty_200) rfl rfl rfl ⟨11, _, rfl, rfl, rfl⟩ rfl (fun v' h' hv => ?_) (fun E h' hx => XR.cm hx (by decide) (fun _ z => Mt.fm (Mt.rf) (Fm.mo (z) sQ_sM)))
  obtain ⟨rfl, rfl⟩ := hv
  refine a_l0 rfl rfl rfl ?_
  refine a_l1 rfl rfl rfl ?_
  refine a_s rfl rfl ?_
  refine a_callV rfl lX11_236 mo_X11_needState (q_X11_needState_200) rfl rfl rfl ⟨11, _, rfl, rfl, rfl⟩ rfl (fun v' h' hv => ?_) (fun E h' hx => XR.cm hx (by decide) (fun _ z => Mt.fm (Mt.rf) (Fm.mo (z) sQ_sM)))
  obtain ⟨rfl, rfl⟩ := hv
  refine a_l0 rfl rfl rfl ?_
  refine a_gV rfl lX11_230 mo_X11_rememberAct (q_X11_rememberAct_200) rfl rfl rfl ⟨11, _, rfl, rfl, rfl⟩ rfl (fun v' h' hv => ?_)
  obtain ⟨rfl, I4, rfl, f5⟩ := hv
  refine a_l0 rfl rfl rfl ?_
  refine a_getq rfl gfX11_37_11 rfl (rfl) ?_
  refine a_getq rfl gfX11_159_5 rfl (rfl) ?_
  refine a_l1 rfl rfl rfl ?_
  refine a_s rfl rfl ?_
  refine a_eS0 rfl lX11_243 mo_X11_setAt (sp_X11_setAt rfl) rfl rfl rfl rfl ?_
  refine a_ren (P := Mt I) (Mt.fm (f5) (Fm.st (Fm.rf (s := sM)) (fun _ => rfl))) (fun I6 f7 => ?_)
  refine a_l0 rfl rfl rfl ?_
  refine a_getq rfl gfX11_37_11 rfl (rfl) ?_
  refine a_getq rfl gfX11_150_5 rfl (rfl) ?_
  refine a_l1 rfl rfl rfl ?_
  refine a_eS1 rfl lX11_117 mo_X11_at (sp_X11_at rfl) rfl rfl rfl rfl ?_
  exact a_iret rfl rfl ⟨⟨_, rfl⟩, _, rfl, f7⟩
theorem q_X11_hand_200 {S : aS} {I : Nat → Nat → Int32} {L : Nat → Nat → Int64} {w1 w2 t : Nat} {x1 x2 : Int32} : Sp S m_X11_hand 16 4 24 [.ref 200, .int x1, .int x2] (hp I L w1 w2 t) (QR (Mt I) isI L w1 w2 t) (XR (Mt I) L w1 w2 [0, 1, 2]) := by
  refine Sp_of ok_X11_hand rfl rfl ?_
  show AW S m_X11_hand 16 _ _ 4 24 0 [some (.ref 200), some (.int x1), some (.int x2), none] [] (hp I L w1 w2 t)
  refine a_l0 rfl rfl rfl ?_
  refine a_l1 rfl rfl rfl ?_
  refine a_callV rfl lX11_141 mo_X11_needDuty (q_X11_needDuty_200) rfl rfl rfl ⟨11, _, rfl, rfl, rfl⟩ rfl (fun v' h' hv => ?_) (fun E h' hx => XR.cm hx (by decide) (fun _ z => Mt.fm (Mt.rf) (Fm.mo (z) sQ_sM)))
  obtain ⟨rfl, rfl⟩ := hv
  refine a_l0 rfl rfl rfl ?_
  refine a_l2 rfl rfl rfl ?_
  refine a_callV rfl lX11_110 mo_X11_needPerson (q_X11_needPerson_200) rfl rfl rfl ⟨11, _, rfl, rfl, rfl⟩ rfl (fun v' h' hv => ?_) (fun E h' hx => XR.cm hx (by decide) (fun _ z => Mt.fm (Mt.rf) (Fm.mo (z) sQ_sM)))
  obtain ⟨rfl, rfl⟩ := hv
  refine a_l0 rfl rfl rfl ?_
  refine a_getq rfl gfX11_37_11 rfl (rfl) ?_
  refine a_getq rfl gfX11_144_5 rfl (rfl) ?_
  refine a_l1 rfl rfl rfl ?_
  refine a_eS1 rfl lX11_117 mo_X11_at (sp_X11_at rfl) rfl rfl rfl rfl ?_
  refine a_s3 rfl rfl rfl rfl rfl rfl ?_
  refine a_l3 rfl rfl rfl ?_
  refine a_l2 rfl rfl rfl ?_
  refine a_callS rfl lX11_247 mo_X11_needTwo (q_X11_needTwo) rfl rfl rfl rfl (fun v' h' hv => ?_) (fun E h' hx => XR.cm hx (by decide) (fun _ z => Mt.fm (Mt.rf) (Fm.mo (z) sQ_sM)))
  obtain ⟨rfl, rfl⟩ := hv
  refine a_l0 rfl rfl rfl ?_
  refine a_getq rfl gfX11_37_11 rfl (rfl) ?_
  refine a_getq rfl gfX11_159_5 rfl (rfl) ?_
  refine a_l1 rfl rfl rfl ?_
  refine a_eS1 rfl lX11_117 mo_X11_at (sp_X11_at rfl) rfl rfl rfl rfl ?_
  refine a_s rfl rfl ?_
  refine a_ic_ne rfl (fun c39 => ?_) (fun c39 => ?_)
  · refine a_l0 rfl rfl rfl ?_
    refine a_gV rfl lX11_230 mo_X11_rememberAct (q_X11_rememberAct_200) rfl rfl rfl ⟨11, _, rfl, rfl, rfl⟩ rfl (fun v' h' hv => ?_)
    obtain ⟨rfl, I5, rfl, f6⟩ := hv
    refine a_l0 rfl rfl rfl ?_
    refine a_getq rfl gfX11_37_11 rfl (rfl) ?_
    refine a_getq rfl gfX11_144_5 rfl (rfl) ?_
    refine a_l1 rfl rfl rfl ?_
    refine a_l2 rfl rfl rfl ?_
    refine a_eS0 rfl lX11_243 mo_X11_setAt (sp_X11_setAt rfl) rfl rfl rfl rfl ?_
    refine a_ren (P := Mt I) (Mt.fm (f6) (Fm.st (Fm.rf (s := sM)) (fun _ => rfl))) (fun I7 f8 => ?_)
    refine a_l3 rfl rfl rfl ?_
    exact a_iret rfl rfl ⟨⟨_, rfl⟩, _, rfl, f8⟩
  · exact a_throw rfl rfl rfl rfl tX11_ise rfl rfl rfl rfl rfl ⟨⟨2, by decide, rfl⟩, _, rfl, Mt.rf⟩
theorem q_X11_lean_200 {S : aS} {I : Nat → Nat → Int32} {L : Nat → Nat → Int64} {w1 w2 t : Nat} {x1 x2 : Int32} : Sp S m_X11_lean 16 3 18 [.ref 200, .int x1, .int x2] (hp I L w1 w2 t) (QR (Mt I) isI L w1 w2 t) (XR (Mt I) L w1 w2 [0, 1]) := by
  refine Sp_of ok_X11_lean rfl rfl ?_
  show AW S m_X11_lean 16 _ _ 3 18 0 [some (.ref 200), some (.int x1), some (.int x2), none] [] (hp I L w1 w2 t)
  refine a_l0 rfl rfl rfl ?_
  refine a_l1 rfl rfl rfl ?_
  refine a_callV rfl lX11_141 mo_X11_needDuty (q_X11_needDuty_200) rfl rfl rfl ⟨11, _, rfl, rfl, rfl⟩ rfl (fun v' h' hv => ?_) (fun E h' hx => XR.cm hx (by decide) (fun _ z => Mt.fm (Mt.rf) (Fm.mo (z) sQ_sM)))
  obtain ⟨rfl, rfl⟩ := hv
  refine a_l2 rfl rfl rfl ?_
  refine a_s rfl rfl ?_
  refine a_ic_eq rfl (fun c7 => ?_) (fun c7 => ?_)
  · refine a_l1 rfl rfl rfl ?_
    refine a_l2 rfl rfl rfl ?_
    refine a_callS rfl lX11_247 mo_X11_needTwo (q_X11_needTwo) rfl rfl rfl rfl (fun v' h' hv => ?_) (fun E h' hx => XR.cm hx (by decide) (fun _ z => Mt.fm (Mt.rf) (Fm.mo (z) sQ_sM)))
    obtain ⟨rfl, rfl⟩ := hv
    refine a_l0 rfl rfl rfl ?_
    refine a_getq rfl gfX11_37_11 rfl (rfl) ?_
    refine a_getq rfl gfX11_156_5 rfl (rfl) ?_
    refine a_l1 rfl rfl rfl ?_
    refine a_eS1 rfl lX11_117 mo_X11_at (sp_X11_at rfl) rfl rfl rfl rfl ?_
    refine a_s3 rfl rfl rfl rfl rfl rfl ?_
    refine a_l0 rfl rfl rfl ?_
    refine a_gV rfl lX11_230 mo_X11_rememberAct (q_X11_rememberAct_200) rfl rfl rfl ⟨11, _, rfl, rfl, rfl⟩ rfl (fun v' h' hv => ?_)
    obtain ⟨rfl, I4, rfl, f5⟩ := hv
    refine a_l0 rfl rfl rfl ?_
    refine a_getq rfl gfX11_37_11 rfl (rfl) ?_
    refine a_getq rfl gfX11_156_5 rfl (rfl) ?_
    refine a_l1 rfl rfl rfl ?_
    refine a_l2 rfl rfl rfl ?_
    refine a_eS0 rfl lX11_243 mo_X11_setAt (sp_X11_setAt rfl) rfl rfl rfl rfl ?_
    refine a_ren (P := Mt I) (Mt.fm (f5) (Fm.st (Fm.rf (s := sM)) (fun _ => rfl))) (fun I6 f7 => ?_)
    refine a_l3 rfl rfl rfl ?_
    exact a_iret rfl rfl ⟨⟨_, rfl⟩, _, rfl, f7⟩
  · refine a_l0 rfl rfl rfl ?_
    refine a_l2 rfl rfl rfl ?_
    refine a_callV rfl lX11_141 mo_X11_needDuty (q_X11_needDuty_200) rfl rfl rfl ⟨11, _, rfl, rfl, rfl⟩ rfl (fun v' h' hv => ?_) (fun E h' hx => XR.cm hx (by decide) (fun _ z => Mt.fm (Mt.rf) (Fm.mo (z) sQ_sM)))
    obtain ⟨rfl, rfl⟩ := hv
    refine a_l1 rfl rfl rfl ?_
    refine a_l2 rfl rfl rfl ?_
    refine a_callS rfl lX11_247 mo_X11_needTwo (q_X11_needTwo) rfl rfl rfl rfl (fun v' h' hv => ?_) (fun E h' hx => XR.cm hx (by decide) (fun _ z => Mt.fm (Mt.rf) (Fm.mo (z) sQ_sM)))
    obtain ⟨rfl, rfl⟩ := hv
    refine a_l0 rfl rfl rfl ?_
    refine a_getq rfl gfX11_37_11 rfl (rfl) ?_
    refine a_getq rfl gfX11_156_5 rfl (rfl) ?_
    refine a_l1 rfl rfl rfl ?_
    refine a_eS1 rfl lX11_117 mo_X11_at (sp_X11_at rfl) rfl rfl rfl rfl ?_
    refine a_s3 rfl rfl rfl rfl rfl rfl ?_
    refine a_l0 rfl rfl rfl ?_
    refine a_gV rfl lX11_230 mo_X11_rememberAct (q_X11_rememberAct_200) rfl rfl rfl ⟨11, _, rfl, rfl, rfl⟩ rfl (fun v' h' hv => ?_)
    obtain ⟨rfl, I11, rfl, f12⟩ := hv
    refine a_l0 rfl rfl rfl ?_
    refine a_getq rfl gfX11_37_11 rfl (rfl) ?_
    refine a_getq rfl gfX11_156_5 rfl (rfl) ?_
    refine a_l1 rfl rfl rfl ?_
    refine a_l2 rfl rfl rfl ?_
    refine a_eS0 rfl lX11_243 mo_X11_setAt (sp_X11_setAt rfl) rfl rfl rfl rfl ?_
    refine a_ren (P := Mt I) (Mt.fm (f12) (Fm.st (Fm.rf (s := sM)) (fun _ => rfl))) (fun I13 f14 => ?_)
    refine a_l3 rfl rfl rfl ?_
    exact a_iret rfl rfl ⟨⟨_, rfl⟩, _, rfl, f14⟩
theorem q_X11_free_200 {S : aS} {I : Nat → Nat → Int32} {L : Nat → Nat → Int64} {w1 w2 t : Nat} {x1 x2 : Int32} : Sp S m_X11_free 16 2 12 [.ref 200, .int x1, .int x2] (hp I L w1 w2 t) (QR (Mt I) isI L w1 w2 t) (XR (Mt I) L w1 w2 [0, 1]) := by
  refine Sp_of ok_X11_free rfl rfl ?_
  show AW S m_X11_free 16 _ _ 2 12 0 [some (.ref 200), some (.int x1), some (.int x2), none] [] (hp I L w1 w2 t)
  refine a_l0 rfl rfl rfl ?_
  refine a_l1 rfl rfl rfl ?_
  refine a_callV rfl lX11_110 mo_X11_needPerson (q_X11_needPerson_200) rfl rfl rfl ⟨11, _, rfl, rfl, rfl⟩ rfl (fun v' h' hv => ?_) (fun E h' hx => XR.cm hx (by decide) (fun _ z => Mt.fm (Mt.rf) (Fm.mo (z) sQ_sM)))
  obtain ⟨rfl, rfl⟩ := hv
  refine a_l2 rfl rfl rfl ?_
  refine a_s rfl rfl ?_
  refine a_s rfl rfl ?_
  refine a_callS rfl lX11_250 mo_X11_needNumber q_needNumber rfl rfl rfl rfl (fun v' h' hv => ?_) (fun E h' hx => XR.cm hx (by decide) (fun _ z => Mt.fm (Mt.rf) (Fm.mo (z) sQ_sM)))
  obtain ⟨rfl, rfl, hbm2⟩ := hv
  obtain ⟨m2, hm2a, hm2b, rfl⟩ := inB_nI (a := 0) (b := 9) (by decide) hbm2
  refine a_l0 rfl rfl rfl ?_
  refine a_getq rfl gfX11_37_11 rfl (rfl) ?_
  refine a_getq rfl gfX11_121_5 rfl (rfl) ?_
  refine a_l1 rfl rfl rfl ?_
  refine a_eS1 rfl lX11_117 mo_X11_at (sp_X11_at rfl) rfl rfl rfl rfl ?_
  refine a_s3 rfl rfl rfl rfl rfl rfl ?_
  refine a_l0 rfl rfl rfl ?_
  refine a_gV rfl lX11_230 mo_X11_rememberAct (q_X11_rememberAct_200) rfl rfl rfl ⟨11, _, rfl, rfl, rfl⟩ rfl (fun v' h' hv => ?_)
  obtain ⟨rfl, I4, rfl, f5⟩ := hv
  refine a_l0 rfl rfl rfl ?_
  refine a_getq rfl gfX11_37_11 rfl (rfl) ?_
  refine a_getq rfl gfX11_121_5 rfl (rfl) ?_
  refine a_l1 rfl rfl rfl ?_
  refine a_l2 rfl rfl rfl ?_
  refine a_eS0 rfl lX11_243 mo_X11_setAt (sp_X11_setAt rfl) rfl rfl rfl rfl ?_
  refine a_ren (P := Mt I) (Mt.fm (f5) (Fm.st (Fm.rf (s := sM)) (fun _ => rfl))) (fun I6 f7 => ?_)
  refine a_l3 rfl rfl rfl ?_
  exact a_iret rfl rfl ⟨⟨_, rfl⟩, _, rfl, f7⟩
theorem q_X11_days_200 {S : aS} {I : Nat → Nat → Int32} {L : Nat → Nat → Int64} {w1 w2 t : Nat} {x1 : Int32} : Sp S m_X11_days 18 1 6 [.ref 200, .int x1] (hp I L w1 w2 t) (QR (Mt I) isI L w1 w2 t) (XR (Mt I) L w1 w2 [1]) := by
  refine Sp_of ok_X11_days rfl rfl ?_
  show AW S m_X11_days 18 _ _ 1 6 0 [some (.ref 200), some (.int x1), none, none] [] (hp I L w1 w2 t)
  refine a_l1 rfl rfl rfl ?_
  refine a_s rfl rfl ?_
  refine a_s rfl rfl ?_
  refine a_callS rfl lX11_250 mo_X11_needNumber q_needNumber rfl rfl rfl rfl (fun v' h' hv => ?_) (fun E h' hx => XR.cm hx (by decide) (fun _ z => Mt.fm (Mt.rf) (Fm.mo (z) sQ_sM)))
  obtain ⟨rfl, rfl, hbm1⟩ := hv
  obtain ⟨m1, hm1a, hm1b, rfl⟩ := inB_nI (a := 1) (b := 90) (by decide) hbm1
  refine a_l0 rfl rfl rfl ?_
  refine a_gV rfl lX11_230 mo_X11_rememberAct (q_X11_rememberAct_200) rfl rfl rfl ⟨11, _, rfl, rfl, rfl⟩ rfl (fun v' h' hv => ?_)
  obtain ⟨rfl, I3, rfl, f4⟩ := hv
  refine a_l0 rfl rfl rfl ?_
  refine a_getq rfl gfX11_37_11 rfl (rfl) ?_
  refine a_s rfl rfl ?_
  refine a_gV rfl lX11_200 mo_X5_bitsIn (q_X5_bitsIn_235) rfl rfl rfl ⟨5, _, rfl, rfl, rfl⟩ rfl (fun v' h' hv => ?_)
  obtain ⟨⟨v5, rfl⟩, rfl⟩ := hv
  refine a_s2 rfl rfl rfl rfl rfl rfl ?_
  refine a_s rfl rfl ?_
  refine a_s3 rfl rfl rfl rfl rfl rfl ?_
  refine a_cnt (j0 := 0) (fun j ls h => ∃ I', ls = [some (.ref 200), some (.int (nI m1)), some (.int v5), some (.int (nI j))] ∧ h = hp I' L w1 w2 t ∧ Mt I I') (by decide) ⟨_, rfl, rfl, f4⟩ ⟨rfl, rfl, rfl, rfl, trivial⟩ ?_
  rintro j22 _ _ hj22 ⟨Ih22, rfl, rfl, fh22⟩ ih22
  refine a_l3 rfl rfl rfl ?_
  refine a_l1 rfl rfl rfl ?_
  refine a_ic_ge rfl (fun c24 => ?_) (fun c24 => ?_)
  · refine a_l0 rfl rfl rfl ?_
    refine a_getq rfl gfX11_37_11 rfl (rfl) ?_
    refine a_s rfl rfl ?_
    refine a_gV rfl lX11_200 mo_X5_bitsIn (q_X5_bitsIn_235) rfl rfl rfl ⟨5, _, rfl, rfl, rfl⟩ rfl (fun v' h' hv => ?_)
    obtain ⟨⟨v6, rfl⟩, rfl⟩ := hv
    refine a_l2 rfl rfl rfl ?_
    refine a_s rfl rfl ?_
    refine a_s rfl rfl ?_
    refine a_s rfl rfl ?_
    refine a_eS1 rfl lX11_261 mo_J6_bitCount_0f7a4 (sp_bitCount) rfl rfl rfl rfl ?_
    exact a_iret rfl rfl ⟨⟨_, rfl⟩, _, rfl, fh22⟩
  · refine a_l0 rfl rfl rfl ?_
    refine a_getq rfl gfX11_37_11 rfl (rfl) ?_
    refine a_l0 rfl rfl rfl ?_
    refine a_getq rfl gfX11_44_11 rfl (rfl) ?_
    refine a_s rfl rfl ?_
    refine a_gV rfl lX11_254 mo_X5_passDay (q_X5_passDay_235_246_sN (b2 := true)) rfl rfl rfl ⟨5, _, rfl, rfl, rfl⟩ rfl (fun v' h' hv => ?_)
    obtain ⟨rfl, I8, rfl, f9⟩ := hv
    replace f9 : Mt I I8 := Mt.fm (fh22) (Fm.mo (f9) sN_sM)
    refine a_l0 rfl rfl rfl ?_
    refine a_getq rfl gfX11_37_11 rfl (rfl) ?_
    refine a_geti rfl gfX11_185_5 rfl ?_
    refine a_s rfl rfl ?_
    refine a_ic_ne rfl (fun c47 => ?_) (fun c47 => ?_)
    · refine a_i3 rfl rfl rfl ?_
      refine a_goto rfl ?_
      exact ih22 _ _ _ _ c24 ⟨_, rfl, rfl, f9⟩ ⟨rfl, rfl, rfl, nS _, trivial⟩
    · refine a_l0 rfl rfl rfl ?_
      refine a_gV rfl lX11_258 mo_X11_letParadeGoBy (q_X11_letParadeGoBy_200_sN) rfl rfl rfl ⟨11, _, rfl, rfl, rfl⟩ rfl (fun v' h' hv => ?_)
      obtain ⟨rfl, I11, rfl, f12⟩ := hv
      replace f12 : Mt I I11 := Mt.fm (f9) (Fm.mo (f12) sN_sM)
      refine a_i3 rfl rfl rfl ?_
      refine a_goto rfl ?_
      exact ih22 _ _ _ _ c24 ⟨_, rfl, rfl, f12⟩ ⟨rfl, rfl, rfl, nS _, trivial⟩
theorem q_X11_undo_200 {S : aS} {I : Nat → Nat → Int32} {L : Nat → Nat → Int64} {w1 w2 t : Nat} : Sp S m_X11_undo 15 0 0 [.ref 200] (hp I L w1 w2 t) (QR (Mt I) isZ L w1 w2 t) nX := by
  refine Sp_of ok_X11_undo rfl rfl ?_
  show AW S m_X11_undo 15 _ _ 0 0 0 [some (.ref 200), none] [] (hp I L w1 w2 t)
  refine a_l0 rfl rfl rfl ?_
  refine a_geti rfl gfX11_95_11 rfl ?_
  refine a_s rfl rfl ?_
  refine a_ic_ge rfl (fun c5 => ?_) (fun c5 => ?_)
  · refine a_l0 rfl rfl rfl ?_
    refine a_s rfl rfl ?_
    refine a_geti rfl gfX11_95_11 rfl ?_
    refine a_s rfl rfl ?_
    refine a_s rfl rfl ?_
    refine a_puti rfl pfX11_95_11 rfl ?_
    refine a_ren (P := Mt I) (Mt.fm (Mt.rf) (Fm.up (Fm.rf (s := sM)) rfl)) (fun I1 f2 => ?_)
    refine a_l0 rfl rfl rfl ?_
    refine a_l0 rfl rfl rfl ?_
    refine a_geti rfl gfX11_368_11 rfl ?_
    refine a_l0 rfl rfl rfl ?_
    refine a_geti rfl gfX11_95_11 rfl ?_
    refine a_s rfl rfl ?_
    refine a_gV rfl lX11_371 mo_X11_pastAt (q_pastAt) rfl rfl rfl ⟨11, _, rfl, rfl, rfl⟩ rfl (fun v' h' hv => ?_)
    obtain ⟨rfl | ⟨i, hi, rfl⟩, rfl⟩ := hv
    · refine a_s1 rfl rfl rfl rfl rfl rfl ?_
      refine a_l1 rfl rfl rfl ?_
      refine a_ifnull_t rfl ?_
      refine a_s rfl rfl ?_
      exact a_zret rfl rfl rfl ⟨⟨true, rfl⟩, _, rfl, f2⟩
    · refine a_s1 rfl rfl rfl rfl rfl rfl ?_
      refine a_l1 rfl rfl rfl ?_
      refine a_ifnull_f rfl ?_
      refine a_l0 rfl rfl rfl ?_
      refine a_getq rfl gfX11_37_11 rfl (rfl) ?_
      refine a_l1 rfl rfl rfl ?_
      refine a_eV0 rfl lX11_375 mo_X5_copyAll (sp_X5_copyAll (a := 235) (b := 288 + 11 * i) (by decide) (past_st i hi) (by omega)) rfl rfl rfl ⟨5, _, rfl, rfl, rfl⟩ rfl ?_
      refine a_ren (P := Mt I) (Mt.tr (f2) (Mt.cpA (by decide) (past_st i hi) (by omega))) (fun I3 f4 => ?_)
      refine a_s rfl rfl ?_
      exact a_zret rfl rfl rfl ⟨⟨true, rfl⟩, _, rfl, f4⟩
  · refine a_s rfl rfl ?_
    exact a_zret rfl rfl rfl ⟨⟨false, rfl⟩, _, rfl, Mt.rf⟩
theorem q_X11_back_200 {S : aS} {I : Nat → Nat → Int32} {L : Nat → Nat → Int64} {w1 w2 t : Nat} : Sp S m_X11_back 15 0 0 [.ref 200] (hp I L w1 w2 t) (fun v h' => v = some (.int (bI (decide (¬ I 200 10 = 0)))) ∧ ∃ I', h' = hp I' L w1 w2 t ∧ Mt I I') nX := by
  refine Sp_of ok_X11_back rfl rfl ?_
  show AW S m_X11_back 15 _ _ 0 0 0 [some (.ref 200)] [] (hp I L w1 w2 t)
  refine a_l0 rfl rfl rfl ?_
  refine a_geti rfl gfX11_378_11 rfl ?_
  refine a_if_ne rfl (fun c4 => ?_) (fun c4 => ?_)
  · refine a_l0 rfl rfl rfl ?_
    refine a_getq rfl gfX11_37_11 rfl (rfl) ?_
    refine a_l0 rfl rfl rfl ?_
    refine a_getq rfl gfX11_58_11 rfl (rfl) ?_
    refine a_eV0 rfl lX11_375 mo_X5_copyAll (sp_X5_copyAll (a := 235) (b := 268) (by decide) (by decide) (by decide)) rfl rfl rfl ⟨5, _, rfl, rfl, rfl⟩ rfl ?_
    refine a_ren (P := Mt I) (Mt.tr (Mt.rf) (Mt.cpA (by decide) (by decide) (by decide))) (fun I1 f2 => ?_)
    refine a_l0 rfl rfl rfl ?_
    refine a_getq rfl gfX11_44_11 rfl (rfl) ?_
    refine a_l0 rfl rfl rfl ?_
    refine a_getq rfl gfX11_61_11 rfl (rfl) ?_
    refine a_eV0 rfl lX11_104 mo_X2_copyFrom (sp_X2_copyFrom (a := 246) (b := 279) (by decide) (by decide) (by decide)) rfl rfl rfl ⟨2, _, rfl, rfl, rfl⟩ rfl ?_
    refine a_ren (P := Mt I) (Mt.fm (f2) (Fm.cl (Fm.rf (s := sM)) (by decide) (Fm_l246))) (fun I3 f4 => ?_)
    refine a_l0 rfl rfl rfl ?_
    refine a_s rfl rfl ?_
    refine a_puti rfl pfX11_95_11 rfl ?_
    refine a_ren (P := Mt I) (Mt.fm (f4) (Fm.up (Fm.rf (s := sM)) rfl)) (fun I5 f6 => ?_)
    refine a_s rfl rfl ?_
    exact a_zret rfl rfl rfl ⟨by rw [decide_eq_true c4]; rfl, _, rfl, f6⟩
  · refine a_s rfl rfl ?_
    exact a_zret rfl rfl rfl ⟨by rw [decide_eq_false (fun z => z c4)]; rfl, _, rfl, Mt.rf⟩
theorem q_X11_image {S : aS} {I : Nat → Nat → Int32} {L : Nat → Nat → Int64} {w1 w2 t : Nat} : Sp S m_X11_image 15 0 0 [.ref 200] (hp I L w1 w2 t) (fun v h' => v = none ∧ ∃ I', h' = hp (up2 I' 200 10 1) L w1 w2 t ∧ Mt I I') nX := by
  refine Sp_of ok_X11_image rfl rfl ?_
  show AW S m_X11_image 15 _ _ 0 0 0 [some (.ref 200)] [] (hp I L w1 w2 t)
  refine a_l0 rfl rfl rfl ?_
  refine a_getq rfl gfX11_58_11 rfl (rfl) ?_
  refine a_l0 rfl rfl rfl ?_
  refine a_getq rfl gfX11_37_11 rfl (rfl) ?_
  refine a_eV0 rfl lX11_375 mo_X5_copyAll (sp_X5_copyAll (a := 268) (b := 235) (by decide) (by decide) (by decide)) rfl rfl rfl ⟨5, _, rfl, rfl, rfl⟩ rfl ?_
  refine a_ren (P := Mt I) (Mt.cpA (by decide) (by decide) (by decide)) (fun I1 f1 => ?_)
  refine a_l0 rfl rfl rfl ?_
  refine a_getq rfl gfX11_61_11 rfl (rfl) ?_
  refine a_l0 rfl rfl rfl ?_
  refine a_getq rfl gfX11_44_11 rfl (rfl) ?_
  refine a_eV0 rfl lX11_104 mo_X2_copyFrom (sp_X2_copyFrom (a := 279) (b := 246) (by decide) (by decide) (by decide)) rfl rfl rfl ⟨2, _, rfl, rfl, rfl⟩ rfl ?_
  refine a_ren (P := Mt I) (f1.fm ((Fm.rf (s := sM)).cl (by decide) (Fm_l279))) (fun I2 f2 => ?_)
  refine a_l0 rfl rfl rfl ?_
  refine a_s rfl rfl ?_
  refine a_putz rfl pfX11_378_11 ⟨rfl, rfl⟩ rfl ?_
  exact a_vret rfl rfl ⟨rfl, _, rfl, f2⟩
def endB (n l : Int32) : Bool := decide (¬ n < 0 ∧ n ≤ l)
theorem q_X11_end {S : aS} {I : Nat → Nat → Int32} {L : Nat → Nat → Int64} {w1 w2 t : Nat} {x : Int32} : SpE S m_X11_end 12 [.ref 200, .int x] (hp I L w1 w2 t) (some (.int (bI (endB x (I 201 1))))) (hp (if endB x (I 201 1) then up2 I 201 1 x else I) L w1 w2 t) := by
  refine SpE_of ok_X11_end rfl rfl ?_
  show AW S m_X11_end 12 _ _ 0 0 0 [some (.ref 200), some (.int x)] [] (hp I L w1 w2 t)
  refine a_l1 rfl rfl rfl ?_
  refine a_if_lt rfl (fun c1 => ?_) (fun c1 => ?_)
  · refine a_s rfl rfl ?_
    exact a_zret rfl rfl rfl ⟨by simp [endB, bI, c1], by simp [endB, c1]⟩
  · refine a_l1 rfl rfl rfl ?_
    refine a_l0 rfl rfl rfl ?_
    refine a_getq rfl gfX11_10_11 rfl (rfl) ?_
    refine a_geti rfl gfX11_68_7 rfl ?_
    refine a_ic_le rfl (fun c12 => ?_) (fun c12 => ?_)
    · refine a_l0 rfl rfl rfl ?_
      refine a_getq rfl gfX11_10_11 rfl (rfl) ?_
      refine a_l1 rfl rfl rfl ?_
      refine a_puti rfl pfX11_68_7 rfl ?_
      refine a_s rfl rfl ?_
      have e : endB x (I 201 1) = true := decide_eq_true ⟨c1, c12⟩
      exact a_zret rfl rfl rfl ⟨by rw [e]; rfl, by rw [e]; rfl⟩
    · refine a_s rfl rfl ?_
      have e : endB x (I 201 1) = false := decide_eq_false (fun z => c12 z.2)
      exact a_zret rfl rfl rfl ⟨by rw [e]; rfl, by rw [e]; rfl⟩
/-- four bytes more -/
def byA (x : Int32) (s : Int32) : Int32 := (x >>> (s &&& 31)).toInt8.toInt32
def apH (I : Nat → Nat → Int32) (l : Nat) (x : Int32) : Nat → Nat → Int32 := up2 (up2 (up2 (up2 (up2 (up2 (up2 (up2 I 202 l (byA x 24)) 201 1 (nI (l + 1))) 202 (l + 1) (byA x 16)) 201 1 (nI (l + 2))) 202 (l + 2) (byA x 8)) 201 1 (nI (l + 3))) 202 (l + 3) (byA x 0)) 201 1 (nI (l + 4))
theorem q_X7_append {S : aS} {I : Nat → Nat → Int32} {L : Nat → Nat → Int64} {w1 w2 t : Nat} {l : Nat} {x : Int32} (hl : I 201 1 = nI l) (h4 : l + 4 ≤ 400) : SpE S m_X7_append 12 [.ref 201, .int x] (hp I L w1 w2 t) none (hp (apH I l x) L w1 w2 t) := by
  refine SpE_of ok_X7_append rfl rfl ?_
  show AW S m_X7_append 12 _ _ 0 0 0 [some (.ref 201), some (.int x), none] [] (hp I L w1 w2 t)
  refine a_s rfl rfl ?_
  refine a_s2 rfl rfl rfl rfl rfl rfl ?_
  refine a_l2 rfl rfl rfl ?_
  refine a_if_lt rfl (fun c => absurd c (by decide)) (fun _ => ?_)
  refine a_l0 rfl rfl rfl ?_
  refine a_geti rfl gfX7_15_7 rfl ?_
  refine a_top (y := nI (l)) (hl) ?_
  refine a_if_lt rfl (fun c => absurd c (nI_pos (by omega))) (fun _ => ?_)
  refine a_l0 rfl rfl rfl ?_
  refine a_geti rfl gfX7_15_7 rfl ?_
  refine a_top (y := nI (l)) (hl) ?_
  refine a_l0 rfl rfl rfl ?_
  refine a_getq rfl gfX7_9_7 rfl (rfl) ?_
  refine a_len rfl rfl rfl rfl ?_
  refine a_ic_ge rfl (fun c => absurd c (nI_ge (b := 400) (by omega) (by omega))) (fun _ => ?_)
  refine a_l0 rfl rfl rfl ?_
  refine a_getq rfl gfX7_9_7 rfl (rfl) ?_
  refine a_l0 rfl rfl rfl ?_
  refine a_geti rfl gfX7_15_7 rfl ?_
  refine a_top (y := nI (l)) (hl) ?_
  refine a_l1 rfl rfl rfl ?_
  refine a_l2 rfl rfl rfl ?_
  refine a_s rfl rfl ?_
  refine a_s rfl rfl ?_
  refine a_bastv (k := l) rfl rfl (inI_nI (by omega) (by omega)) (i2b_id _) (nI_clamp (by omega)) ?_
  refine a_l0 rfl rfl rfl ?_
  refine a_s rfl rfl ?_
  refine a_geti rfl gfX7_15_7 rfl ?_
  refine a_top (y := nI (l)) ((congrFun (up2_row (by decide)) 1).trans hl) ?_
  refine a_s rfl rfl ?_
  refine a_s rfl rfl ?_
  refine a_top (y := nI (l + 1)) (nI_succ _).symm ?_
  refine a_puti rfl pfX7_15_7 rfl ?_
  refine a_i2 rfl rfl rfl ?_
  refine a_goto rfl ?_
  refine a_l2 rfl rfl rfl ?_
  refine a_if_lt rfl (fun c => absurd c (by decide)) (fun _ => ?_)
  refine a_l0 rfl rfl rfl ?_
  refine a_geti rfl gfX7_15_7 rfl ?_
  refine a_top (y := nI (l + 1)) (up2_at) ?_
  refine a_if_lt rfl (fun c => absurd c (nI_pos (by omega))) (fun _ => ?_)
  refine a_l0 rfl rfl rfl ?_
  refine a_geti rfl gfX7_15_7 rfl ?_
  refine a_top (y := nI (l + 1)) (up2_at) ?_
  refine a_l0 rfl rfl rfl ?_
  refine a_getq rfl gfX7_9_7 rfl (rfl) ?_
  refine a_len rfl rfl rfl rfl ?_
  refine a_ic_ge rfl (fun c => absurd c (nI_ge (b := 400) (by omega) (by omega))) (fun _ => ?_)
  refine a_l0 rfl rfl rfl ?_
  refine a_getq rfl gfX7_9_7 rfl (rfl) ?_
  refine a_l0 rfl rfl rfl ?_
  refine a_geti rfl gfX7_15_7 rfl ?_
  refine a_top (y := nI (l + 1)) (up2_at) ?_
  refine a_l1 rfl rfl rfl ?_
  refine a_l2 rfl rfl rfl ?_
  refine a_s rfl rfl ?_
  refine a_s rfl rfl ?_
  refine a_bastv (k := l + 1) rfl rfl (inI_nI (by omega) (by omega)) (i2b_id _) (nI_clamp (by omega)) ?_
  refine a_l0 rfl rfl rfl ?_
  refine a_s rfl rfl ?_
  refine a_geti rfl gfX7_15_7 rfl ?_
  refine a_top (y := nI (l + 1)) ((congrFun (up2_row (by decide)) 1).trans up2_at) ?_
  refine a_s rfl rfl ?_
  refine a_s rfl rfl ?_
  refine a_top (y := nI (l + 2)) (nI_succ _).symm ?_
  refine a_puti rfl pfX7_15_7 rfl ?_
  refine a_i2 rfl rfl rfl ?_
  refine a_goto rfl ?_
  refine a_l2 rfl rfl rfl ?_
  refine a_if_lt rfl (fun c => absurd c (by decide)) (fun _ => ?_)
  refine a_l0 rfl rfl rfl ?_
  refine a_geti rfl gfX7_15_7 rfl ?_
  refine a_top (y := nI (l + 2)) (up2_at) ?_
  refine a_if_lt rfl (fun c => absurd c (nI_pos (by omega))) (fun _ => ?_)
  refine a_l0 rfl rfl rfl ?_
  refine a_geti rfl gfX7_15_7 rfl ?_
  refine a_top (y := nI (l + 2)) (up2_at) ?_
  refine a_l0 rfl rfl rfl ?_
  refine a_getq rfl gfX7_9_7 rfl (rfl) ?_
  refine a_len rfl rfl rfl rfl ?_
  refine a_ic_ge rfl (fun c => absurd c (nI_ge (b := 400) (by omega) (by omega))) (fun _ => ?_)
  refine a_l0 rfl rfl rfl ?_
  refine a_getq rfl gfX7_9_7 rfl (rfl) ?_
  refine a_l0 rfl rfl rfl ?_
  refine a_geti rfl gfX7_15_7 rfl ?_
  refine a_top (y := nI (l + 2)) (up2_at) ?_
  refine a_l1 rfl rfl rfl ?_
  refine a_l2 rfl rfl rfl ?_
  refine a_s rfl rfl ?_
  refine a_s rfl rfl ?_
  refine a_bastv (k := l + 2) rfl rfl (inI_nI (by omega) (by omega)) (i2b_id _) (nI_clamp (by omega)) ?_
  refine a_l0 rfl rfl rfl ?_
  refine a_s rfl rfl ?_
  refine a_geti rfl gfX7_15_7 rfl ?_
  refine a_top (y := nI (l + 2)) ((congrFun (up2_row (by decide)) 1).trans up2_at) ?_
  refine a_s rfl rfl ?_
  refine a_s rfl rfl ?_
  refine a_top (y := nI (l + 3)) (nI_succ _).symm ?_
  refine a_puti rfl pfX7_15_7 rfl ?_
  refine a_i2 rfl rfl rfl ?_
  refine a_goto rfl ?_
  refine a_l2 rfl rfl rfl ?_
  refine a_if_lt rfl (fun c => absurd c (by decide)) (fun _ => ?_)
  refine a_l0 rfl rfl rfl ?_
  refine a_geti rfl gfX7_15_7 rfl ?_
  refine a_top (y := nI (l + 3)) (up2_at) ?_
  refine a_if_lt rfl (fun c => absurd c (nI_pos (by omega))) (fun _ => ?_)
  refine a_l0 rfl rfl rfl ?_
  refine a_geti rfl gfX7_15_7 rfl ?_
  refine a_top (y := nI (l + 3)) (up2_at) ?_
  refine a_l0 rfl rfl rfl ?_
  refine a_getq rfl gfX7_9_7 rfl (rfl) ?_
  refine a_len rfl rfl rfl rfl ?_
  refine a_ic_ge rfl (fun c => absurd c (nI_ge (b := 400) (by omega) (by omega))) (fun _ => ?_)
  refine a_l0 rfl rfl rfl ?_
  refine a_getq rfl gfX7_9_7 rfl (rfl) ?_
  refine a_l0 rfl rfl rfl ?_
  refine a_geti rfl gfX7_15_7 rfl ?_
  refine a_top (y := nI (l + 3)) (up2_at) ?_
  refine a_l1 rfl rfl rfl ?_
  refine a_l2 rfl rfl rfl ?_
  refine a_s rfl rfl ?_
  refine a_s rfl rfl ?_
  refine a_bastv (k := l + 3) rfl rfl (inI_nI (by omega) (by omega)) (i2b_id _) (nI_clamp (by omega)) ?_
  refine a_l0 rfl rfl rfl ?_
  refine a_s rfl rfl ?_
  refine a_geti rfl gfX7_15_7 rfl ?_
  refine a_top (y := nI (l + 3)) ((congrFun (up2_row (by decide)) 1).trans up2_at) ?_
  refine a_s rfl rfl ?_
  refine a_s rfl rfl ?_
  refine a_top (y := nI (l + 4)) (nI_succ _).symm ?_
  refine a_puti rfl pfX7_15_7 rfl ?_
  refine a_i2 rfl rfl rfl ?_
  refine a_goto rfl ?_
  refine a_l2 rfl rfl rfl ?_
  refine a_if_lt rfl (fun _ => ?_) (fun c => absurd (by decide) c)
  exact a_vret rfl rfl ⟨rfl, rfl⟩
theorem apH_len {I : Nat → Nat → Int32} {l : Nat} {x : Int32} : apH I l x 201 1 = nI (l + 4) := up2_at
theorem apH_row {I : Nat → Nat → Int32} {l q : Nat} {x : Int32} (h1 : q ≠ 201) (h2 : q ≠ 202) : apH I l x q = I q := by
  unfold apH
  rw [up2_row h1, up2_row h2, up2_row h1, up2_row h2, up2_row h1, up2_row h2, up2_row h1, up2_row h2]
def fdH (I : Nat → Nat → Int32) (l : Nat) (x1 x2 x3 x4 x5 : Int32) : Nat → Nat → Int32 := apH (apH (apH (apH (apH I l x1) (l + 4) x2) (l + 8) x3) (l + 12) x4) (l + 16) x5
theorem q_X11_feed {S : aS} {I : Nat → Nat → Int32} {L : Nat → Nat → Int64} {w1 w2 t : Nat} {l : Nat} {x1 x2 x3 x4 x5 : Int32} (hl : I 201 1 = nI l) (h4 : l ≤ 400) : SpE S m_X11_feed 13 [.ref 200, .int x1, .int x2, .int x3, .int x4, .int x5] (hp I L w1 w2 t) (some (.int (if l + 20 ≤ 400 then nI (l + 20) else -1))) (hp (if l + 20 ≤ 400 then fdH I l x1 x2 x3 x4 x5 else I) L w1 w2 t) := by
  refine SpE_of ok_X11_feed rfl rfl ?_
  show AW S m_X11_feed 13 _ _ 0 0 0 [some (.ref 200), some (.int x1), some (.int x2), some (.int x3), some (.int x4), some (.int x5)] [] (hp I L w1 w2 t)
  refine a_l0 rfl rfl rfl ?_
  refine a_getq rfl gfX11_10_11 rfl (rfl) ?_
  refine a_geti rfl gfX11_68_7 rfl ?_
  refine a_top (y := nI l) hl ?_
  refine a_s rfl rfl ?_
  refine a_s rfl rfl ?_
  refine a_top (y := nI (l + 20)) (nI_addl l 20) ?_
  refine a_s rfl rfl ?_
  refine a_ic_le rfl (fun c => ?_) (fun c => ?_)
  · have hc : l + 20 ≤ 400 := nI_ge_of (a := 400) (b := l + 20) c (by decide) (by omega)
    rw [if_pos hc, if_pos hc]
    refine a_l0 rfl rfl rfl ?_
    refine a_getq rfl gfX11_10_11 rfl (rfl) ?_
    refine a_l1 rfl rfl rfl ?_
    refine a_eV0 rfl lX11_71 mo_X7_append (q_X7_append (l := l) hl (by omega)) rfl rfl rfl ⟨7, _, rfl, rfl, rfl⟩ rfl ?_
    refine a_l0 rfl rfl rfl ?_
    refine a_getq rfl gfX11_10_11 rfl (rfl) ?_
    refine a_l2 rfl rfl rfl ?_
    refine a_eV0 rfl lX11_71 mo_X7_append (q_X7_append (l := l + 4) apH_len (by omega)) rfl rfl rfl ⟨7, _, rfl, rfl, rfl⟩ rfl ?_
    refine a_l0 rfl rfl rfl ?_
    refine a_getq rfl gfX11_10_11 rfl (rfl) ?_
    refine a_l3 rfl rfl rfl ?_
    refine a_eV0 rfl lX11_71 mo_X7_append (q_X7_append (l := l + 8) apH_len (by omega)) rfl rfl rfl ⟨7, _, rfl, rfl, rfl⟩ rfl ?_
    refine a_l0 rfl rfl rfl ?_
    refine a_getq rfl gfX11_10_11 rfl (rfl) ?_
    refine a_l4 rfl rfl rfl ?_
    refine a_eV0 rfl lX11_71 mo_X7_append (q_X7_append (l := l + 12) apH_len (by omega)) rfl rfl rfl ⟨7, _, rfl, rfl, rfl⟩ rfl ?_
    refine a_l0 rfl rfl rfl ?_
    refine a_getq rfl gfX11_10_11 rfl (rfl) ?_
    refine a_l5 rfl rfl rfl ?_
    refine a_eV0 rfl lX11_71 mo_X7_append (q_X7_append (l := l + 16) apH_len (by omega)) rfl rfl rfl ⟨7, _, rfl, rfl, rfl⟩ rfl ?_
    refine a_l0 rfl rfl rfl ?_
    refine a_getq rfl gfX11_10_11 rfl (rfl) ?_
    refine a_geti rfl gfX11_68_7 rfl ?_
    refine a_top (y := nI (l + 20)) apH_len ?_
    exact a_iret rfl rfl ⟨rfl, rfl⟩
  · have hc : ¬ l + 20 ≤ 400 := fun z => c (nI_leu z (by decide))
    rw [if_neg hc, if_neg hc]
    refine a_s rfl rfl ?_
    exact a_iret rfl rfl ⟨rfl, rfl⟩
end
