section
/-! ===== the class: safe walks (printed by program) ===== -/
set_option maxRecDepth 100000
theorem q_X2_setPart_246 {S : aS} {I : Nat → Nat → Int32} {L : Nat → Nat → Int64} {w1 w2 t : Nat} {x1 x2 : Int32} : Sp S m_X2_setPart 13 0 0 [.ref 246, .int x1, .int x2] (hp I L w1 w2 t) (QR (Fm sQ I) isV L w1 w2 t) nX := by
  refine Sp_of ok_X2_setPart rfl rfl ?_
  show AW S m_X2_setPart 13 _ _ 0 0 0 [some (.ref 246), some (.int x1), some (.int x2)] [] (hp I L w1 w2 t)
  refine a_l0 rfl rfl rfl ?_
  refine a_getq rfl gfX2_31_2 rfl (rfl) ?_
  refine a_l1 rfl rfl rfl ?_
  refine a_s rfl rfl ?_
  refine a_s rfl rfl ?_
  refine a_l2 rfl rfl rfl ?_
  refine a_eSN0 rfl lX2_44 mo_X11_setAt (sp_X11_setAt rfl) rfl rfl rfl rfl ?_
  refine a_ren (P := Fm sQ I) (Fm.st (Fm.rf (s := sQ)) (fun _ => rfl)) (fun I1 f2 => ?_)
  exact a_vret rfl rfl ⟨rfl, _, rfl, f2⟩
theorem q_X5_leansFreely_235 {S : aS} {I : Nat → Nat → Int32} {L : Nat → Nat → Int64} {w1 w2 t : Nat} {x1 : Int32} : Sp S m_X5_leansFreely 13 0 0 [.ref 235, .int x1] (hp I L w1 w2 t) (QE isZ (hp I L w1 w2 t)) nX := by
  refine Sp_of ok_X5_leansFreely rfl rfl ?_
  show AW S m_X5_leansFreely 13 _ _ 0 0 0 [some (.ref 235), some (.int x1), none] [] (hp I L w1 w2 t)
  refine a_l0 rfl rfl rfl ?_
  refine a_getq rfl gfX5_30_5 rfl (rfl) ?_
  refine a_l1 rfl rfl rfl ?_
  refine a_eSN1 rfl lX5_86 mo_X11_at (sp_X11_at rfl) rfl rfl rfl rfl ?_
  refine a_s2 rfl rfl rfl rfl rfl rfl ?_
  refine a_l2 rfl rfl rfl ?_
  refine a_s rfl rfl ?_
  refine a_ic_eq rfl (fun c11 => ?_) (fun c11 => ?_)
  · refine a_s rfl rfl ?_
    refine a_goto rfl ?_
    exact a_zret rfl rfl rfl ⟨⟨true, rfl⟩, rfl⟩
  · refine a_l0 rfl rfl rfl ?_
    refine a_getq rfl gfX5_33_5 rfl (rfl) ?_
    refine a_l2 rfl rfl rfl ?_
    refine a_eSN1 rfl lX5_86 mo_X11_at (sp_X11_at rfl) rfl rfl rfl rfl ?_
    refine a_s rfl rfl ?_
    refine a_ic_ne rfl (fun c23 => ?_) (fun c23 => ?_)
    · refine a_s rfl rfl ?_
      exact a_zret rfl rfl rfl ⟨⟨false, rfl⟩, rfl⟩
    · refine a_s rfl rfl ?_
      refine a_goto rfl ?_
      exact a_zret rfl rfl rfl ⟨⟨true, rfl⟩, rfl⟩
theorem q_X2_takeParts_246_235 {S : aS} {I : Nat → Nat → Int32} {L : Nat → Nat → Int64} {w1 w2 t : Nat} {x2 : Int32} : Sp S m_X2_takeParts 14 0 0 [.ref 246, .ref 235, .int x2] (hp I L w1 w2 t) (QR (Fm sQ I) isV L w1 w2 t) nX := by
  refine Sp_of ok_X2_takeParts rfl rfl ?_
  show AW S m_X2_takeParts 14 _ _ 0 0 0 [some (.ref 246), some (.ref 235), some (.int x2), none, none] [] (hp I L w1 w2 t)
  refine a_l1 rfl rfl rfl ?_
  refine a_getq rfl gfX2_82_5 rfl (rfl) ?_
  refine a_l2 rfl rfl rfl ?_
  refine a_eSN1 rfl lX2_61 mo_X11_at (sp_X11_at rfl) rfl rfl rfl rfl ?_
  refine a_s3 rfl rfl rfl rfl rfl rfl ?_
  refine a_l1 rfl rfl rfl ?_
  refine a_getq rfl gfX2_85_5 rfl (rfl) ?_
  refine a_l2 rfl rfl rfl ?_
  refine a_eSN1 rfl lX2_61 mo_X11_at (sp_X11_at rfl) rfl rfl rfl rfl ?_
  refine a_s4 rfl rfl rfl rfl rfl rfl ?_
  refine a_l0 rfl rfl rfl ?_
  refine a_s rfl rfl ?_
  refine a_l2 rfl rfl rfl ?_
  refine a_gV rfl lX2_88 mo_X2_setPart (q_X2_setPart_246) rfl rfl rfl ⟨2, _, rfl, rfl, rfl⟩ rfl (fun v' h' hv => ?_)
  obtain ⟨rfl, I2, rfl, f3⟩ := hv
  refine a_l0 rfl rfl rfl ?_
  refine a_s rfl rfl ?_
  refine a_l1 rfl rfl rfl ?_
  refine a_getq rfl gfX2_92_5 rfl (rfl) ?_
  refine a_l2 rfl rfl rfl ?_
  refine a_eSN1 rfl lX2_61 mo_X11_at (sp_X11_at rfl) rfl rfl rfl rfl ?_
  refine a_gV rfl lX2_88 mo_X2_setPart (q_X2_setPart_246) rfl rfl rfl ⟨2, _, rfl, rfl, rfl⟩ rfl (fun v' h' hv => ?_)
  obtain ⟨rfl, I5, rfl, f6⟩ := hv
  replace f6 : Fm sQ I I5 := Fm.tr (f3) (f6)
  refine a_l0 rfl rfl rfl ?_
  refine a_s rfl rfl ?_
  refine a_l1 rfl rfl rfl ?_
  refine a_getq rfl gfX2_56_5 rfl (rfl) ?_
  refine a_l2 rfl rfl rfl ?_
  refine a_eSN1 rfl lX2_61 mo_X11_at (sp_X11_at rfl) rfl rfl rfl rfl ?_
  refine a_gV rfl lX2_88 mo_X2_setPart (q_X2_setPart_246) rfl rfl rfl ⟨2, _, rfl, rfl, rfl⟩ rfl (fun v' h' hv => ?_)
  obtain ⟨rfl, I8, rfl, f9⟩ := hv
  replace f9 : Fm sQ I I8 := Fm.tr (f6) (f9)
  refine a_l0 rfl rfl rfl ?_
  refine a_s rfl rfl ?_
  refine a_l3 rfl rfl rfl ?_
  refine a_s rfl rfl ?_
  refine a_ic_ne rfl (fun c63 => ?_) (fun c63 => ?_)
  · refine a_l3 rfl rfl rfl ?_
    refine a_gV rfl lX2_88 mo_X2_setPart (q_X2_setPart_246) rfl rfl rfl ⟨2, _, rfl, rfl, rfl⟩ rfl (fun v' h' hv => ?_)
    obtain ⟨rfl, I11, rfl, f12⟩ := hv
    replace f12 : Fm sQ I I11 := Fm.tr (f9) (f12)
    refine a_l0 rfl rfl rfl ?_
    refine a_s rfl rfl ?_
    refine a_l4 rfl rfl rfl ?_
    refine a_gV rfl lX2_88 mo_X2_setPart (q_X2_setPart_246) rfl rfl rfl ⟨2, _, rfl, rfl, rfl⟩ rfl (fun v' h' hv => ?_)
    obtain ⟨rfl, I14, rfl, f15⟩ := hv
    replace f15 : Fm sQ I I14 := Fm.tr (f12) (f15)
    refine a_l0 rfl rfl rfl ?_
    refine a_s rfl rfl ?_
    refine a_l1 rfl rfl rfl ?_
    refine a_getq rfl gfX2_95_5 rfl (rfl) ?_
    refine a_l4 rfl rfl rfl ?_
    refine a_eSN1 rfl lX2_61 mo_X11_at (sp_X11_at rfl) rfl rfl rfl rfl ?_
    refine a_gV rfl lX2_88 mo_X2_setPart (q_X2_setPart_246) rfl rfl rfl ⟨2, _, rfl, rfl, rfl⟩ rfl (fun v' h' hv => ?_)
    obtain ⟨rfl, I17, rfl, f18⟩ := hv
    replace f18 : Fm sQ I I17 := Fm.tr (f15) (f18)
    refine a_l0 rfl rfl rfl ?_
    refine a_s rfl rfl ?_
    refine a_l1 rfl rfl rfl ?_
    refine a_geti rfl gfX2_98_5 rfl ?_
    refine a_gV rfl lX2_88 mo_X2_setPart (q_X2_setPart_246) rfl rfl rfl ⟨2, _, rfl, rfl, rfl⟩ rfl (fun v' h' hv => ?_)
    obtain ⟨rfl, I20, rfl, f21⟩ := hv
    replace f21 : Fm sQ I I20 := Fm.tr (f18) (f21)
    refine a_l0 rfl rfl rfl ?_
    refine a_s rfl rfl ?_
    refine a_l1 rfl rfl rfl ?_
    refine a_l2 rfl rfl rfl ?_
    refine a_gV rfl lX2_101 mo_X5_leansFreely (q_X5_leansFreely_235) rfl rfl rfl ⟨5, _, rfl, rfl, rfl⟩ rfl (fun v' h' hv => ?_)
    obtain ⟨⟨v22, rfl⟩, rfl⟩ := hv
    refine a_if_eq rfl (fun c120 => ?_) (fun c120 => ?_)
    · refine a_s rfl rfl ?_
      refine a_gV rfl lX2_88 mo_X2_setPart (q_X2_setPart_246) rfl rfl rfl ⟨2, _, rfl, rfl, rfl⟩ rfl (fun v' h' hv => ?_)
      obtain ⟨rfl, I24, rfl, f25⟩ := hv
      replace f25 : Fm sQ I I24 := Fm.tr (f21) (f25)
      refine a_l0 rfl rfl rfl ?_
      refine a_s rfl rfl ?_
      refine a_l1 rfl rfl rfl ?_
      refine a_getq rfl gfX2_56_5 rfl (rfl) ?_
      refine a_l2 rfl rfl rfl ?_
      refine a_eSN1 rfl lX2_61 mo_X11_at (sp_X11_at rfl) rfl rfl rfl rfl ?_
      refine a_s rfl rfl ?_
      refine a_ic_le rfl (fun c145 => ?_) (fun c145 => ?_)
      · refine a_s rfl rfl ?_
        refine a_gV rfl lX2_88 mo_X2_setPart (q_X2_setPart_246) rfl rfl rfl ⟨2, _, rfl, rfl, rfl⟩ rfl (fun v' h' hv => ?_)
        obtain ⟨rfl, I27, rfl, f28⟩ := hv
        replace f28 : Fm sQ I I27 := Fm.tr (f25) (f28)
        exact a_vret rfl rfl ⟨rfl, _, rfl, f28⟩
      · refine a_s rfl rfl ?_
        refine a_goto rfl ?_
        refine a_gV rfl lX2_88 mo_X2_setPart (q_X2_setPart_246) rfl rfl rfl ⟨2, _, rfl, rfl, rfl⟩ rfl (fun v' h' hv => ?_)
        obtain ⟨rfl, I30, rfl, f31⟩ := hv
        replace f31 : Fm sQ I I30 := Fm.tr (f25) (f31)
        exact a_vret rfl rfl ⟨rfl, _, rfl, f31⟩
    · refine a_s rfl rfl ?_
      refine a_goto rfl ?_
      refine a_gV rfl lX2_88 mo_X2_setPart (q_X2_setPart_246) rfl rfl rfl ⟨2, _, rfl, rfl, rfl⟩ rfl (fun v' h' hv => ?_)
      obtain ⟨rfl, I33, rfl, f34⟩ := hv
      replace f34 : Fm sQ I I33 := Fm.tr (f21) (f34)
      refine a_l0 rfl rfl rfl ?_
      refine a_s rfl rfl ?_
      refine a_l1 rfl rfl rfl ?_
      refine a_getq rfl gfX2_56_5 rfl (rfl) ?_
      refine a_l2 rfl rfl rfl ?_
      refine a_eSN1 rfl lX2_61 mo_X11_at (sp_X11_at rfl) rfl rfl rfl rfl ?_
      refine a_s rfl rfl ?_
      refine a_ic_le rfl (fun c145 => ?_) (fun c145 => ?_)
      · refine a_s rfl rfl ?_
        refine a_gV rfl lX2_88 mo_X2_setPart (q_X2_setPart_246) rfl rfl rfl ⟨2, _, rfl, rfl, rfl⟩ rfl (fun v' h' hv => ?_)
        obtain ⟨rfl, I36, rfl, f37⟩ := hv
        replace f37 : Fm sQ I I36 := Fm.tr (f34) (f37)
        exact a_vret rfl rfl ⟨rfl, _, rfl, f37⟩
      · refine a_s rfl rfl ?_
        refine a_goto rfl ?_
        refine a_gV rfl lX2_88 mo_X2_setPart (q_X2_setPart_246) rfl rfl rfl ⟨2, _, rfl, rfl, rfl⟩ rfl (fun v' h' hv => ?_)
        obtain ⟨rfl, I39, rfl, f40⟩ := hv
        replace f40 : Fm sQ I I39 := Fm.tr (f34) (f40)
        exact a_vret rfl rfl ⟨rfl, _, rfl, f40⟩
  · refine a_s rfl rfl ?_
    refine a_goto rfl ?_
    refine a_gV rfl lX2_88 mo_X2_setPart (q_X2_setPart_246) rfl rfl rfl ⟨2, _, rfl, rfl, rfl⟩ rfl (fun v' h' hv => ?_)
    obtain ⟨rfl, I42, rfl, f43⟩ := hv
    replace f43 : Fm sQ I I42 := Fm.tr (f9) (f43)
    refine a_l0 rfl rfl rfl ?_
    refine a_s rfl rfl ?_
    refine a_l4 rfl rfl rfl ?_
    refine a_gV rfl lX2_88 mo_X2_setPart (q_X2_setPart_246) rfl rfl rfl ⟨2, _, rfl, rfl, rfl⟩ rfl (fun v' h' hv => ?_)
    obtain ⟨rfl, I45, rfl, f46⟩ := hv
    replace f46 : Fm sQ I I45 := Fm.tr (f43) (f46)
    refine a_l0 rfl rfl rfl ?_
    refine a_s rfl rfl ?_
    refine a_l1 rfl rfl rfl ?_
    refine a_getq rfl gfX2_95_5 rfl (rfl) ?_
    refine a_l4 rfl rfl rfl ?_
    refine a_eSN1 rfl lX2_61 mo_X11_at (sp_X11_at rfl) rfl rfl rfl rfl ?_
    refine a_gV rfl lX2_88 mo_X2_setPart (q_X2_setPart_246) rfl rfl rfl ⟨2, _, rfl, rfl, rfl⟩ rfl (fun v' h' hv => ?_)
    obtain ⟨rfl, I48, rfl, f49⟩ := hv
    replace f49 : Fm sQ I I48 := Fm.tr (f46) (f49)
    refine a_l0 rfl rfl rfl ?_
    refine a_s rfl rfl ?_
    refine a_l1 rfl rfl rfl ?_
    refine a_geti rfl gfX2_98_5 rfl ?_
    refine a_gV rfl lX2_88 mo_X2_setPart (q_X2_setPart_246) rfl rfl rfl ⟨2, _, rfl, rfl, rfl⟩ rfl (fun v' h' hv => ?_)
    obtain ⟨rfl, I51, rfl, f52⟩ := hv
    replace f52 : Fm sQ I I51 := Fm.tr (f49) (f52)
    refine a_l0 rfl rfl rfl ?_
    refine a_s rfl rfl ?_
    refine a_l1 rfl rfl rfl ?_
    refine a_l2 rfl rfl rfl ?_
    refine a_gV rfl lX2_101 mo_X5_leansFreely (q_X5_leansFreely_235) rfl rfl rfl ⟨5, _, rfl, rfl, rfl⟩ rfl (fun v' h' hv => ?_)
    obtain ⟨⟨v53, rfl⟩, rfl⟩ := hv
    refine a_if_eq rfl (fun c120 => ?_) (fun c120 => ?_)
    · refine a_s rfl rfl ?_
      refine a_gV rfl lX2_88 mo_X2_setPart (q_X2_setPart_246) rfl rfl rfl ⟨2, _, rfl, rfl, rfl⟩ rfl (fun v' h' hv => ?_)
      obtain ⟨rfl, I55, rfl, f56⟩ := hv
      replace f56 : Fm sQ I I55 := Fm.tr (f52) (f56)
      refine a_l0 rfl rfl rfl ?_
      refine a_s rfl rfl ?_
      refine a_l1 rfl rfl rfl ?_
      refine a_getq rfl gfX2_56_5 rfl (rfl) ?_
      refine a_l2 rfl rfl rfl ?_
      refine a_eSN1 rfl lX2_61 mo_X11_at (sp_X11_at rfl) rfl rfl rfl rfl ?_
      refine a_s rfl rfl ?_
      refine a_ic_le rfl (fun c145 => ?_) (fun c145 => ?_)
      · refine a_s rfl rfl ?_
        refine a_gV rfl lX2_88 mo_X2_setPart (q_X2_setPart_246) rfl rfl rfl ⟨2, _, rfl, rfl, rfl⟩ rfl (fun v' h' hv => ?_)
        obtain ⟨rfl, I58, rfl, f59⟩ := hv
        replace f59 : Fm sQ I I58 := Fm.tr (f56) (f59)
        exact a_vret rfl rfl ⟨rfl, _, rfl, f59⟩
      · refine a_s rfl rfl ?_
        refine a_goto rfl ?_
        refine a_gV rfl lX2_88 mo_X2_setPart (q_X2_setPart_246) rfl rfl rfl ⟨2, _, rfl, rfl, rfl⟩ rfl (fun v' h' hv => ?_)
        obtain ⟨rfl, I61, rfl, f62⟩ := hv
        replace f62 : Fm sQ I I61 := Fm.tr (f56) (f62)
        exact a_vret rfl rfl ⟨rfl, _, rfl, f62⟩
    · refine a_s rfl rfl ?_
      refine a_goto rfl ?_
      refine a_gV rfl lX2_88 mo_X2_setPart (q_X2_setPart_246) rfl rfl rfl ⟨2, _, rfl, rfl, rfl⟩ rfl (fun v' h' hv => ?_)
      obtain ⟨rfl, I64, rfl, f65⟩ := hv
      replace f65 : Fm sQ I I64 := Fm.tr (f52) (f65)
      refine a_l0 rfl rfl rfl ?_
      refine a_s rfl rfl ?_
      refine a_l1 rfl rfl rfl ?_
      refine a_getq rfl gfX2_56_5 rfl (rfl) ?_
      refine a_l2 rfl rfl rfl ?_
      refine a_eSN1 rfl lX2_61 mo_X11_at (sp_X11_at rfl) rfl rfl rfl rfl ?_
      refine a_s rfl rfl ?_
      refine a_ic_le rfl (fun c145 => ?_) (fun c145 => ?_)
      · refine a_s rfl rfl ?_
        refine a_gV rfl lX2_88 mo_X2_setPart (q_X2_setPart_246) rfl rfl rfl ⟨2, _, rfl, rfl, rfl⟩ rfl (fun v' h' hv => ?_)
        obtain ⟨rfl, I67, rfl, f68⟩ := hv
        replace f68 : Fm sQ I I67 := Fm.tr (f65) (f68)
        exact a_vret rfl rfl ⟨rfl, _, rfl, f68⟩
      · refine a_s rfl rfl ?_
        refine a_goto rfl ?_
        refine a_gV rfl lX2_88 mo_X2_setPart (q_X2_setPart_246) rfl rfl rfl ⟨2, _, rfl, rfl, rfl⟩ rfl (fun v' h' hv => ?_)
        obtain ⟨rfl, I70, rfl, f71⟩ := hv
        replace f71 : Fm sQ I I70 := Fm.tr (f65) (f71)
        exact a_vret rfl rfl ⟨rfl, _, rfl, f71⟩
theorem q_X2_joined {S : aS} {I : Nat → Nat → Int32} {L : Nat → Nat → Int64} {w1 w2 t : Nat} {x0 x1 x2 : Int32} : Sp S m_X2_joined 12 0 0 [.int x0, .int x1, .int x2] (hp I L w1 w2 t) (QE isI (hp I L w1 w2 t)) nX := by
  refine Sp_of ok_X2_joined rfl rfl ?_
  show AW S m_X2_joined 12 _ _ 0 0 0 [some (.int x0), some (.int x1), some (.int x2)] [] (hp I L w1 w2 t)
  refine a_l0 rfl rfl rfl ?_
  refine a_tswA rfl (by decide) (by decide) (fun hx => ?_) (fun i o ho hx => ?_)
  · refine a_pc (pc' := 66) (by decide) ?_
    refine a_l1 rfl rfl rfl ?_
    refine a_l2 rfl rfl rfl ?_
    refine a_s rfl rfl ?_
    exact a_iret rfl rfl ⟨⟨_, rfl⟩, rfl⟩
  · rcases i with _ | _ | _ | _ | _ | i
    · cases ho
      refine a_pc (pc' := 36) (by decide) ?_
      refine a_l1 rfl rfl rfl ?_
      refine a_l2 rfl rfl rfl ?_
      refine a_s rfl rfl ?_
      exact a_iret rfl rfl ⟨⟨_, rfl⟩, rfl⟩
    · cases ho
      refine a_pc (pc' := 40) (by decide) ?_
      refine a_l1 rfl rfl rfl ?_
      refine a_l2 rfl rfl rfl ?_
      refine a_ic_ge rfl (fun c42 => ?_) (fun c42 => ?_)
      · refine a_s rfl rfl ?_
        exact a_iret rfl rfl ⟨⟨_, rfl⟩, rfl⟩
      · refine a_s rfl rfl ?_
        refine a_goto rfl ?_
        exact a_iret rfl rfl ⟨⟨_, rfl⟩, rfl⟩
    · cases ho
      refine a_pc (pc' := 51) (by decide) ?_
      refine a_l1 rfl rfl rfl ?_
      refine a_l2 rfl rfl rfl ?_
      refine a_ic_le rfl (fun c53 => ?_) (fun c53 => ?_)
      · refine a_s rfl rfl ?_
        exact a_iret rfl rfl ⟨⟨_, rfl⟩, rfl⟩
      · refine a_s rfl rfl ?_
        refine a_goto rfl ?_
        exact a_iret rfl rfl ⟨⟨_, rfl⟩, rfl⟩
    · cases ho
      refine a_pc (pc' := 66) (by decide) ?_
      refine a_l1 rfl rfl rfl ?_
      refine a_l2 rfl rfl rfl ?_
      refine a_s rfl rfl ?_
      exact a_iret rfl rfl ⟨⟨_, rfl⟩, rfl⟩
    · cases ho
      refine a_pc (pc' := 62) (by decide) ?_
      refine a_l1 rfl rfl rfl ?_
      refine a_l2 rfl rfl rfl ?_
      refine a_s rfl rfl ?_
      exact a_iret rfl rfl ⟨⟨_, rfl⟩, rfl⟩
    · cases ho
theorem q_X2_holds_246 {S : aS} {I : Nat → Nat → Int32} {L : Nat → Nat → Int64} {w1 w2 t : Nat} {x1 : Int32} : Sp S m_X2_holds 13 0 0 [.ref 246, .int x1] (hp I L w1 w2 t) (QR (Fm sQ I) isZ L w1 w2 t) nX := by
  refine Sp_of ok_X2_holds rfl rfl ?_
  show AW S m_X2_holds 13 _ _ 0 0 0 [some (.ref 246), some (.int x1), none, none, none, none] [] (hp I L w1 w2 t)
  refine a_s rfl rfl ?_
  refine a_s2 rfl rfl rfl rfl rfl rfl ?_
  refine a_l0 rfl rfl rfl ?_
  refine a_getq rfl gfX2_25_2 rfl (rfl) ?_
  refine a_l1 rfl rfl rfl ?_
  refine a_eSN1 rfl lX2_61 mo_X11_at (sp_X11_at rfl) rfl rfl rfl rfl ?_
  refine a_s3 rfl rfl rfl rfl rfl rfl ?_
  refine a_l0 rfl rfl rfl ?_
  refine a_getq rfl gfX2_22_2 rfl (rfl) ?_
  refine a_l1 rfl rfl rfl ?_
  refine a_eSN1 rfl lX2_61 mo_X11_at (sp_X11_at rfl) rfl rfl rfl rfl ?_
  refine a_s4 rfl rfl rfl rfl rfl rfl ?_
  refine a_cntI (fun y ls h => ∃ a0, ∃ a1, ∃ I', ls = [some (.ref 246), some (.int x1), some (.int a0), some (.int a1), some (.int y), none] ∧ h = hp I' L w1 w2 t ∧ Fm sQ I I') ⟨_, _, _, rfl, rfl, Fm.rf⟩ ⟨rfl, rfl, rfl, rfl, rfl, trivial⟩ ?_
  rintro y21 _ _ ⟨a0_21, a1_21, Ih21, rfl, rfl, fh21⟩ ih21
  refine a_l4 rfl rfl rfl ?_
  refine a_l3 rfl rfl rfl ?_
  refine a_ic_ge rfl (fun c24 => ?_) (fun c24 => ?_)
  · refine a_l2 rfl rfl rfl ?_
    refine a_if_eq rfl (fun c162 => ?_) (fun c162 => ?_)
    · refine a_s rfl rfl ?_
      refine a_goto rfl ?_
      exact a_zret rfl rfl rfl ⟨⟨true, rfl⟩, _, rfl, fh21⟩
    · refine a_l0 rfl rfl rfl ?_
      refine a_getq rfl gfX2_34_2 rfl (rfl) ?_
      refine a_s rfl rfl ?_
      refine a_eSN1 rfl lX2_61 mo_X11_at (sp_X11_at rfl) rfl rfl rfl rfl ?_
      refine a_if_eq rfl (fun c173 => ?_) (fun c173 => ?_)
      · refine a_s rfl rfl ?_
        exact a_zret rfl rfl rfl ⟨⟨false, rfl⟩, _, rfl, fh21⟩
      · refine a_s rfl rfl ?_
        refine a_goto rfl ?_
        exact a_zret rfl rfl rfl ⟨⟨true, rfl⟩, _, rfl, fh21⟩
  · refine a_l0 rfl rfl rfl ?_
    refine a_getq rfl gfX2_28_2 rfl (rfl) ?_
    refine a_l4 rfl rfl rfl ?_
    refine a_eSN1 rfl lX2_61 mo_X11_at (sp_X11_at rfl) rfl rfl rfl rfl ?_
    refine a_s5 rfl rfl rfl rfl rfl rfl ?_
    refine a_l5 rfl rfl rfl ?_
    refine a_s rfl rfl ?_
    refine a_ic_ge rfl (fun c43 => ?_) (fun c43 => ?_)
    · refine a_l5 rfl rfl rfl ?_
      refine a_s rfl rfl ?_
      refine a_ic_ne rfl (fun c91 => ?_) (fun c91 => ?_)
      · refine a_i2 rfl rfl rfl ?_
        refine a_l0 rfl rfl rfl ?_
        refine a_getq rfl gfX2_34_2 rfl (rfl) ?_
        refine a_l2 rfl rfl rfl ?_
        refine a_s rfl rfl ?_
        refine a_s rfl rfl ?_
        refine a_l5 rfl rfl rfl ?_
        refine a_l0 rfl rfl rfl ?_
        refine a_getq rfl gfX2_34_2 rfl (rfl) ?_
        refine a_l2 rfl rfl rfl ?_
        refine a_s rfl rfl ?_
        refine a_s rfl rfl ?_
        refine a_eSN1 rfl lX2_61 mo_X11_at (sp_X11_at rfl) rfl rfl rfl rfl ?_
        refine a_l0 rfl rfl rfl ?_
        refine a_getq rfl gfX2_34_2 rfl (rfl) ?_
        refine a_l2 rfl rfl rfl ?_
        refine a_eSN1 rfl lX2_61 mo_X11_at (sp_X11_at rfl) rfl rfl rfl rfl ?_
        refine a_gS rfl lX2_108 mo_X2_joined (q_X2_joined) rfl rfl rfl rfl (fun v' h' hv => ?_)
        obtain ⟨⟨v1, rfl⟩, rfl⟩ := hv
        refine a_eSN0 rfl lX2_44 mo_X11_setAt (sp_X11_setAt rfl) rfl rfl rfl rfl ?_
        refine a_ren (P := Fm sQ I) (Fm.tr (fh21) (Fm.st (Fm.rf (s := sQ)) (fun _ => rfl))) (fun I2 f3 => ?_)
        refine a_i4 rfl rfl rfl ?_
        refine a_goto rfl ?_
        exact ih21 _ _ _ _ c24 ⟨_, _, _, rfl, rfl, f3⟩ ⟨rfl, rfl, rfl, rfl, rfl, trivial⟩
      · refine a_l0 rfl rfl rfl ?_
        refine a_getq rfl gfX2_34_2 rfl (rfl) ?_
        refine a_l2 rfl rfl rfl ?_
        refine a_s rfl rfl ?_
        refine a_s rfl rfl ?_
        refine a_s rfl rfl ?_
        refine a_l0 rfl rfl rfl ?_
        refine a_getq rfl gfX2_34_2 rfl (rfl) ?_
        refine a_l2 rfl rfl rfl ?_
        refine a_s rfl rfl ?_
        refine a_s rfl rfl ?_
        refine a_eSN1 rfl lX2_61 mo_X11_at (sp_X11_at rfl) rfl rfl rfl rfl ?_
        refine a_s rfl rfl ?_
        refine a_eSN0 rfl lX2_44 mo_X11_setAt (sp_X11_setAt rfl) rfl rfl rfl rfl ?_
        refine a_ren (P := Fm sQ I) (Fm.tr (fh21) (Fm.st (Fm.rf (s := sQ)) (fun _ => rfl))) (fun I4 f5 => ?_)
        refine a_goto rfl ?_
        refine a_i4 rfl rfl rfl ?_
        refine a_goto rfl ?_
        exact ih21 _ _ _ _ c24 ⟨_, _, _, rfl, rfl, f5⟩ ⟨rfl, rfl, rfl, rfl, rfl, trivial⟩
    · refine a_l0 rfl rfl rfl ?_
      refine a_getq rfl gfX2_34_2 rfl (rfl) ?_
      refine a_l2 rfl rfl rfl ?_
      refine a_l5 rfl rfl rfl ?_
      refine a_s rfl rfl ?_
      refine a_ic_ge rfl (fun c56 => ?_) (fun c56 => ?_)
      · refine a_l0 rfl rfl rfl ?_
        refine a_getq rfl gfX2_31_2 rfl (rfl) ?_
        refine a_l5 rfl rfl rfl ?_
        refine a_s rfl rfl ?_
        refine a_s rfl rfl ?_
        refine a_eSN1 rfl lX2_61 mo_X11_at (sp_X11_at rfl) rfl rfl rfl rfl ?_
        refine a_eSN0 rfl lX2_44 mo_X11_setAt (sp_X11_setAt rfl) rfl rfl rfl rfl ?_
        refine a_ren (P := Fm sQ I) (Fm.tr (fh21) (Fm.st (Fm.rf (s := sQ)) (fun _ => rfl))) (fun I6 f7 => ?_)
        refine a_i2 rfl rfl rfl ?_
        refine a_goto rfl ?_
        refine a_i4 rfl rfl rfl ?_
        refine a_goto rfl ?_
        exact ih21 _ _ _ _ c24 ⟨_, _, _, rfl, rfl, f7⟩ ⟨rfl, rfl, rfl, rfl, rfl, trivial⟩
      · refine a_l5 rfl rfl rfl ?_
        refine a_goto rfl ?_
        refine a_eSN0 rfl lX2_44 mo_X11_setAt (sp_X11_setAt rfl) rfl rfl rfl rfl ?_
        refine a_ren (P := Fm sQ I) (Fm.tr (fh21) (Fm.st (Fm.rf (s := sQ)) (fun _ => rfl))) (fun I8 f9 => ?_)
        refine a_i2 rfl rfl rfl ?_
        refine a_goto rfl ?_
        refine a_i4 rfl rfl rfl ?_
        refine a_goto rfl ?_
        exact ih21 _ _ _ _ c24 ⟨_, _, _, rfl, rfl, f9⟩ ⟨rfl, rfl, rfl, rfl, rfl, trivial⟩
theorem q_X2_sumOfLines_246 {S : aS} {I : Nat → Nat → Int32} {L : Nat → Nat → Int64} {w1 w2 t : Nat} {x1 : Int32} : Sp S m_X2_sumOfLines 14 0 0 [.ref 246, .int x1] (hp I L w1 w2 t) (QR (Fm sQ I) isI L w1 w2 t) nX := by
  refine Sp_of ok_X2_sumOfLines rfl rfl ?_
  show AW S m_X2_sumOfLines 14 _ _ 0 0 0 [some (.ref 246), some (.int x1), none, none] [] (hp I L w1 w2 t)
  refine a_s rfl rfl ?_
  refine a_s2 rfl rfl rfl rfl rfl rfl ?_
  refine a_s rfl rfl ?_
  refine a_s3 rfl rfl rfl rfl rfl rfl ?_
  refine a_cnt (j0 := 0) (fun j ls h => ∃ a0, ∃ I', ls = [some (.ref 246), some (.int x1), some (.int a0), some (.int (nI j))] ∧ h = hp I' L w1 w2 t ∧ Fm sQ I I') (by decide) ⟨_, _, rfl, rfl, Fm.rf⟩ ⟨rfl, rfl, rfl, rfl, trivial⟩ ?_
  rintro j4 _ _ hj4 ⟨a0_4, Ih4, rfl, rfl, fh4⟩ ih4
  refine a_l3 rfl rfl rfl ?_
  refine a_l0 rfl rfl rfl ?_
  refine a_geti rfl gfX2_11_2 rfl ?_
  refine a_ic_ge rfl (fun c9 => ?_) (fun c9 => ?_)
  · refine a_l2 rfl rfl rfl ?_
    exact a_iret rfl rfl ⟨⟨_, rfl⟩, _, rfl, fh4⟩
  · refine a_l0 rfl rfl rfl ?_
    refine a_getq rfl gfX2_15_2 rfl (rfl) ?_
    refine a_l3 rfl rfl rfl ?_
    refine a_eSN1 rfl lX2_61 mo_X11_at (sp_X11_at rfl) rfl rfl rfl rfl ?_
    refine a_l1 rfl rfl rfl ?_
    refine a_ic_ne rfl (fun c21 => ?_) (fun c21 => ?_)
    · refine a_i3 rfl rfl rfl ?_
      refine a_goto rfl ?_
      exact ih4 _ _ _ _ c9 ⟨_, _, rfl, rfl, fh4⟩ ⟨rfl, rfl, rfl, nS _, trivial⟩
    · refine a_l0 rfl rfl rfl ?_
      refine a_l3 rfl rfl rfl ?_
      refine a_gV rfl lX2_105 mo_X2_holds (q_X2_holds_246) rfl rfl rfl ⟨2, _, rfl, rfl, rfl⟩ rfl (fun v' h' hv => ?_)
      obtain ⟨⟨v1, rfl⟩, I2, rfl, f3⟩ := hv
      replace f3 : Fm sQ I I2 := Fm.tr (fh4) (f3)
      refine a_if_eq rfl (fun c29 => ?_) (fun c29 => ?_)
      · refine a_i3 rfl rfl rfl ?_
        refine a_goto rfl ?_
        exact ih4 _ _ _ _ c9 ⟨_, _, rfl, rfl, f3⟩ ⟨rfl, rfl, rfl, nS _, trivial⟩
      · refine a_l2 rfl rfl rfl ?_
        refine a_l0 rfl rfl rfl ?_
        refine a_getq rfl gfX2_19_2 rfl (rfl) ?_
        refine a_l3 rfl rfl rfl ?_
        refine a_eSN1 rfl lX2_61 mo_X11_at (sp_X11_at rfl) rfl rfl rfl rfl ?_
        refine a_s rfl rfl ?_
        refine a_s2 rfl rfl rfl rfl rfl rfl ?_
        refine a_i3 rfl rfl rfl ?_
        refine a_goto rfl ?_
        exact ih4 _ _ _ _ c9 ⟨_, _, rfl, rfl, f3⟩ ⟨rfl, rfl, rfl, nS _, trivial⟩
theorem q_X2_shameOf_246_235 {S : aS} {I : Nat → Nat → Int32} {L : Nat → Nat → Int64} {w1 w2 t : Nat} {x2 : Int32} : Sp S m_X2_shameOf 15 0 0 [.ref 246, .ref 235, .int x2] (hp I L w1 w2 t) (QR (Fm sQ I) isI L w1 w2 t) nX := by
  refine Sp_of ok_X2_shameOf rfl rfl ?_
  show AW S m_X2_shameOf 15 _ _ 0 0 0 [some (.ref 246), some (.ref 235), some (.int x2)] [] (hp I L w1 w2 t)
  refine a_l0 rfl rfl rfl ?_
  refine a_l1 rfl rfl rfl ?_
  refine a_l2 rfl rfl rfl ?_
  refine a_gV rfl lX2_48 mo_X2_takeParts (q_X2_takeParts_246_235) rfl rfl rfl ⟨2, _, rfl, rfl, rfl⟩ rfl (fun v' h' hv => ?_)
  obtain ⟨rfl, I2, rfl, f3⟩ := hv
  refine a_s rfl rfl ?_
  refine a_l1 rfl rfl rfl ?_
  refine a_getq rfl gfX2_56_5 rfl (rfl) ?_
  refine a_l2 rfl rfl rfl ?_
  refine a_eSN1 rfl lX2_61 mo_X11_at (sp_X11_at rfl) rfl rfl rfl rfl ?_
  refine a_l0 rfl rfl rfl ?_
  refine a_s rfl rfl ?_
  refine a_gV rfl lX2_52 mo_X2_sumOfLines (q_X2_sumOfLines_246) rfl rfl rfl ⟨2, _, rfl, rfl, rfl⟩ rfl (fun v' h' hv => ?_)
  obtain ⟨⟨v4, rfl⟩, I5, rfl, f6⟩ := hv
  replace f6 : Fm sQ I I5 := Fm.tr (f3) (f6)
  refine a_s rfl rfl ?_
  refine a_l0 rfl rfl rfl ?_
  refine a_s rfl rfl ?_
  refine a_gV rfl lX2_52 mo_X2_sumOfLines (q_X2_sumOfLines_246) rfl rfl rfl ⟨2, _, rfl, rfl, rfl⟩ rfl (fun v' h' hv => ?_)
  obtain ⟨⟨v7, rfl⟩, I8, rfl, f9⟩ := hv
  replace f9 : Fm sQ I I8 := Fm.tr (f6) (f9)
  refine a_s rfl rfl ?_
  refine a_max rfl lX2_65 mj_max rfl rfl ?_
  exact a_iret rfl rfl ⟨⟨_, rfl⟩, _, rfl, f9⟩
theorem q_X2_shameOfSet_246_235 {S : aS} {I : Nat → Nat → Int32} {L : Nat → Nat → Int64} {w1 w2 t : Nat} {x2 : Int32} : Sp S m_X2_shameOfSet 16 0 0 [.ref 246, .ref 235, .int x2] (hp I L w1 w2 t) (QR (Fm sQ I) isI L w1 w2 t) nX := by
  refine Sp_of ok_X2_shameOfSet rfl rfl ?_
  show AW S m_X2_shameOfSet 16 _ _ 0 0 0 [some (.ref 246), some (.ref 235), some (.int x2), none, none] [] (hp I L w1 w2 t)
  refine a_s rfl rfl ?_
  refine a_s3 rfl rfl rfl rfl rfl rfl ?_
  refine a_s rfl rfl ?_
  refine a_s4 rfl rfl rfl rfl rfl rfl ?_
  refine a_cnt (j0 := 0) (fun j ls h => ∃ a0, ∃ I', ls = [some (.ref 246), some (.ref 235), some (.int x2), some (.int a0), some (.int (nI j))] ∧ h = hp I' L w1 w2 t ∧ Fm sQ I I') (by decide) ⟨_, _, rfl, rfl, Fm.rf⟩ ⟨rfl, rfl, rfl, rfl, rfl, trivial⟩ ?_
  rintro j5 _ _ hj5 ⟨a0_5, Ih5, rfl, rfl, fh5⟩ ih5
  refine a_l4 rfl rfl rfl ?_
  refine a_l1 rfl rfl rfl ?_
  refine a_geti rfl gfX2_71_5 rfl ?_
  refine a_ic_ge rfl (fun c11 => ?_) (fun c11 => ?_)
  · refine a_l3 rfl rfl rfl ?_
    exact a_iret rfl rfl ⟨⟨_, rfl⟩, _, rfl, fh5⟩
  · refine a_l2 rfl rfl rfl ?_
    refine a_l4 rfl rfl rfl ?_
    refine a_eSN1 rfl lX2_74 mo_X11_has (sp_X11_has) rfl rfl rfl rfl ?_
    refine a_if_eq rfl (fun c20 => ?_) (fun c20 => ?_)
    · refine a_i4 rfl rfl rfl ?_
      refine a_goto rfl ?_
      exact ih5 _ _ _ _ c11 ⟨_, _, rfl, rfl, fh5⟩ ⟨rfl, rfl, rfl, rfl, nS _, trivial⟩
    · refine a_l3 rfl rfl rfl ?_
      refine a_l0 rfl rfl rfl ?_
      refine a_l1 rfl rfl rfl ?_
      refine a_l4 rfl rfl rfl ?_
      refine a_gV rfl lX2_78 mo_X2_shameOf (q_X2_shameOf_246_235) rfl rfl rfl ⟨2, _, rfl, rfl, rfl⟩ rfl (fun v' h' hv => ?_)
      obtain ⟨⟨v1, rfl⟩, I2, rfl, f3⟩ := hv
      replace f3 : Fm sQ I I2 := Fm.tr (fh5) (f3)
      refine a_s rfl rfl ?_
      refine a_s3 rfl rfl rfl rfl rfl rfl ?_
      refine a_i4 rfl rfl rfl ?_
      refine a_goto rfl ?_
      exact ih5 _ _ _ _ c11 ⟨_, _, rfl, rfl, f3⟩ ⟨rfl, rfl, rfl, rfl, nS _, trivial⟩
theorem q_X2_growthOf_246_235 {S : aS} {I : Nat → Nat → Int32} {L : Nat → Nat → Int64} {w1 w2 t : Nat} {x2 : Int32} : Sp S m_X2_growthOf 15 0 0 [.ref 246, .ref 235, .int x2] (hp I L w1 w2 t) (QR (Fm sQ I) isI L w1 w2 t) nX := by
  refine Sp_of ok_X2_growthOf rfl rfl ?_
  show AW S m_X2_growthOf 15 _ _ 0 0 0 [some (.ref 246), some (.ref 235), some (.int x2)] [] (hp I L w1 w2 t)
  refine a_l0 rfl rfl rfl ?_
  refine a_l1 rfl rfl rfl ?_
  refine a_l2 rfl rfl rfl ?_
  refine a_gV rfl lX2_48 mo_X2_takeParts (q_X2_takeParts_246_235) rfl rfl rfl ⟨2, _, rfl, rfl, rfl⟩ rfl (fun v' h' hv => ?_)
  obtain ⟨rfl, I2, rfl, f3⟩ := hv
  refine a_l0 rfl rfl rfl ?_
  refine a_s rfl rfl ?_
  refine a_gV rfl lX2_52 mo_X2_sumOfLines (q_X2_sumOfLines_246) rfl rfl rfl ⟨2, _, rfl, rfl, rfl⟩ rfl (fun v' h' hv => ?_)
  obtain ⟨⟨v4, rfl⟩, I5, rfl, f6⟩ := hv
  replace f6 : Fm sQ I I5 := Fm.tr (f3) (f6)
  exact a_iret rfl rfl ⟨⟨_, rfl⟩, _, rfl, f6⟩
theorem q_X5_isWaiting_257 {S : aS} {I : Nat → Nat → Int32} {L : Nat → Nat → Int64} {w1 w2 t : Nat} {x1 : Int32} : Sp S m_X5_isWaiting 13 0 0 [.ref 257, .int x1] (hp I L w1 w2 t) (QE isZ (hp I L w1 w2 t)) nX := by
  refine Sp_of ok_X5_isWaiting rfl rfl ?_
  show AW S m_X5_isWaiting 13 _ _ 0 0 0 [some (.ref 257), some (.int x1)] [] (hp I L w1 w2 t)
  refine a_l1 rfl rfl rfl ?_
  refine a_if_lt rfl (fun c1 => ?_) (fun c1 => ?_)
  · refine a_s rfl rfl ?_
    exact a_zret rfl rfl rfl ⟨⟨false, rfl⟩, rfl⟩
  · refine a_l1 rfl rfl rfl ?_
    refine a_l0 rfl rfl rfl ?_
    refine a_geti rfl gfX5_63_5 rfl ?_
    refine a_ic_ge rfl (fun c9 => ?_) (fun c9 => ?_)
    · refine a_s rfl rfl ?_
      exact a_zret rfl rfl rfl ⟨⟨false, rfl⟩, rfl⟩
    · refine a_l0 rfl rfl rfl ?_
      refine a_getq rfl gfX5_33_5 rfl (rfl) ?_
      refine a_l1 rfl rfl rfl ?_
      refine a_eSN1 rfl lX5_86 mo_X11_at (sp_X11_at rfl) rfl rfl rfl rfl ?_
      refine a_if_ne rfl (fun c20 => ?_) (fun c20 => ?_)
      · refine a_s rfl rfl ?_
        exact a_zret rfl rfl rfl ⟨⟨false, rfl⟩, rfl⟩
      · refine a_s rfl rfl ?_
        refine a_goto rfl ?_
        exact a_zret rfl rfl rfl ⟨⟨true, rfl⟩, rfl⟩
theorem q_X5_growOlder_257 {S : aS} {I : Nat → Nat → Int32} {L : Nat → Nat → Int64} {w1 w2 t : Nat} {x1 : Int32} : Sp S m_X5_growOlder 13 0 0 [.ref 257, .int x1] (hp I L w1 w2 t) (QR (Fm sQ I) isV L w1 w2 t) nX := by
  refine Sp_of ok_X5_growOlder rfl rfl ?_
  show AW S m_X5_growOlder 13 _ _ 0 0 0 [some (.ref 257), some (.int x1)] [] (hp I L w1 w2 t)
  refine a_l0 rfl rfl rfl ?_
  refine a_getq rfl gfX5_24_5 rfl (rfl) ?_
  refine a_l1 rfl rfl rfl ?_
  refine a_s rfl rfl ?_
  refine a_l0 rfl rfl rfl ?_
  refine a_getq rfl gfX5_24_5 rfl (rfl) ?_
  refine a_l1 rfl rfl rfl ?_
  refine a_eSN1 rfl lX5_86 mo_X11_at (sp_X11_at rfl) rfl rfl rfl rfl ?_
  refine a_s rfl rfl ?_
  refine a_s rfl rfl ?_
  refine a_min rfl lX5_127 mj_min rfl rfl ?_
  refine a_eSN0 rfl lX5_82 mo_X11_setAt (sp_X11_setAt rfl) rfl rfl rfl rfl ?_
  refine a_ren (P := Fm sQ I) (Fm.st (Fm.rf (s := sQ)) (fun _ => rfl)) (fun I1 f2 => ?_)
  exact a_vret rfl rfl ⟨rfl, _, rfl, f2⟩
theorem q_X5_leansFreely_257 {S : aS} {I : Nat → Nat → Int32} {L : Nat → Nat → Int64} {w1 w2 t : Nat} {x1 : Int32} : Sp S m_X5_leansFreely 13 0 0 [.ref 257, .int x1] (hp I L w1 w2 t) (QE isZ (hp I L w1 w2 t)) nX := by
  refine Sp_of ok_X5_leansFreely rfl rfl ?_
  show AW S m_X5_leansFreely 13 _ _ 0 0 0 [some (.ref 257), some (.int x1), none] [] (hp I L w1 w2 t)
  refine a_l0 rfl rfl rfl ?_
  refine a_getq rfl gfX5_30_5 rfl (rfl) ?_
  refine a_l1 rfl rfl rfl ?_
  refine a_eSN1 rfl lX5_86 mo_X11_at (sp_X11_at rfl) rfl rfl rfl rfl ?_
  refine a_s2 rfl rfl rfl rfl rfl rfl ?_
  refine a_l2 rfl rfl rfl ?_
  refine a_s rfl rfl ?_
  refine a_ic_eq rfl (fun c11 => ?_) (fun c11 => ?_)
  · refine a_s rfl rfl ?_
    refine a_goto rfl ?_
    exact a_zret rfl rfl rfl ⟨⟨true, rfl⟩, rfl⟩
  · refine a_l0 rfl rfl rfl ?_
    refine a_getq rfl gfX5_33_5 rfl (rfl) ?_
    refine a_l2 rfl rfl rfl ?_
    refine a_eSN1 rfl lX5_86 mo_X11_at (sp_X11_at rfl) rfl rfl rfl rfl ?_
    refine a_s rfl rfl ?_
    refine a_ic_ne rfl (fun c23 => ?_) (fun c23 => ?_)
    · refine a_s rfl rfl ?_
      exact a_zret rfl rfl rfl ⟨⟨false, rfl⟩, rfl⟩
    · refine a_s rfl rfl ?_
      refine a_goto rfl ?_
      exact a_zret rfl rfl rfl ⟨⟨true, rfl⟩, rfl⟩
theorem q_X2_takeParts_246_257 {S : aS} {I : Nat → Nat → Int32} {L : Nat → Nat → Int64} {w1 w2 t : Nat} {x2 : Int32} : Sp S m_X2_takeParts 14 0 0 [.ref 246, .ref 257, .int x2] (hp I L w1 w2 t) (QR (Fm sQ I) isV L w1 w2 t) nX := by
  refine Sp_of ok_X2_takeParts rfl rfl ?_
  show AW S m_X2_takeParts 14 _ _ 0 0 0 [some (.ref 246), some (.ref 257), some (.int x2), none, none] [] (hp I L w1 w2 t)
  refine a_l1 rfl rfl rfl ?_
  refine a_getq rfl gfX2_82_5 rfl (rfl) ?_
  refine a_l2 rfl rfl rfl ?_
  refine a_eSN1 rfl lX2_61 mo_X11_at (sp_X11_at rfl) rfl rfl rfl rfl ?_
  refine a_s3 rfl rfl rfl rfl rfl rfl ?_
  refine a_l1 rfl rfl rfl ?_
  refine a_getq rfl gfX2_85_5 rfl (rfl) ?_
  refine a_l2 rfl rfl rfl ?_
  refine a_eSN1 rfl lX2_61 mo_X11_at (sp_X11_at rfl) rfl rfl rfl rfl ?_
  refine a_s4 rfl rfl rfl rfl rfl rfl ?_
  refine a_l0 rfl rfl rfl ?_
  refine a_s rfl rfl ?_
  refine a_l2 rfl rfl rfl ?_
  refine a_gV rfl lX2_88 mo_X2_setPart (q_X2_setPart_246) rfl rfl rfl ⟨2, _, rfl, rfl, rfl⟩ rfl (fun v' h' hv => ?_)
  obtain ⟨rfl, I2, rfl, f3⟩ := hv
  refine a_l0 rfl rfl rfl ?_
  refine a_s rfl rfl ?_
  refine a_l1 rfl rfl rfl ?_
  refine a_getq rfl gfX2_92_5 rfl (rfl) ?_
  refine a_l2 rfl rfl rfl ?_
  refine a_eSN1 rfl lX2_61 mo_X11_at (sp_X11_at rfl) rfl rfl rfl rfl ?_
  refine a_gV rfl lX2_88 mo_X2_setPart (q_X2_setPart_246) rfl rfl rfl ⟨2, _, rfl, rfl, rfl⟩ rfl (fun v' h' hv => ?_)
  obtain ⟨rfl, I5, rfl, f6⟩ := hv
  replace f6 : Fm sQ I I5 := Fm.tr (f3) (f6)
  refine a_l0 rfl rfl rfl ?_
  refine a_s rfl rfl ?_
  refine a_l1 rfl rfl rfl ?_
  refine a_getq rfl gfX2_56_5 rfl (rfl) ?_
  refine a_l2 rfl rfl rfl ?_
  refine a_eSN1 rfl lX2_61 mo_X11_at (sp_X11_at rfl) rfl rfl rfl rfl ?_
  refine a_gV rfl lX2_88 mo_X2_setPart (q_X2_setPart_246) rfl rfl rfl ⟨2, _, rfl, rfl, rfl⟩ rfl (fun v' h' hv => ?_)
  obtain ⟨rfl, I8, rfl, f9⟩ := hv
  replace f9 : Fm sQ I I8 := Fm.tr (f6) (f9)
  refine a_l0 rfl rfl rfl ?_
  refine a_s rfl rfl ?_
  refine a_l3 rfl rfl rfl ?_
  refine a_s rfl rfl ?_
  refine a_ic_ne rfl (fun c63 => ?_) (fun c63 => ?_)
  · refine a_l3 rfl rfl rfl ?_
    refine a_gV rfl lX2_88 mo_X2_setPart (q_X2_setPart_246) rfl rfl rfl ⟨2, _, rfl, rfl, rfl⟩ rfl (fun v' h' hv => ?_)
    obtain ⟨rfl, I11, rfl, f12⟩ := hv
    replace f12 : Fm sQ I I11 := Fm.tr (f9) (f12)
    refine a_l0 rfl rfl rfl ?_
    refine a_s rfl rfl ?_
    refine a_l4 rfl rfl rfl ?_
    refine a_gV rfl lX2_88 mo_X2_setPart (q_X2_setPart_246) rfl rfl rfl ⟨2, _, rfl, rfl, rfl⟩ rfl (fun v' h' hv => ?_)
    obtain ⟨rfl, I14, rfl, f15⟩ := hv
    replace f15 : Fm sQ I I14 := Fm.tr (f12) (f15)
    refine a_l0 rfl rfl rfl ?_
    refine a_s rfl rfl ?_
    refine a_l1 rfl rfl rfl ?_
    refine a_getq rfl gfX2_95_5 rfl (rfl) ?_
    refine a_l4 rfl rfl rfl ?_
    refine a_eSN1 rfl lX2_61 mo_X11_at (sp_X11_at rfl) rfl rfl rfl rfl ?_
    refine a_gV rfl lX2_88 mo_X2_setPart (q_X2_setPart_246) rfl rfl rfl ⟨2, _, rfl, rfl, rfl⟩ rfl (fun v' h' hv => ?_)
    obtain ⟨rfl, I17, rfl, f18⟩ := hv
    replace f18 : Fm sQ I I17 := Fm.tr (f15) (f18)
    refine a_l0 rfl rfl rfl ?_
    refine a_s rfl rfl ?_
    refine a_l1 rfl rfl rfl ?_
    refine a_geti rfl gfX2_98_5 rfl ?_
    refine a_gV rfl lX2_88 mo_X2_setPart (q_X2_setPart_246) rfl rfl rfl ⟨2, _, rfl, rfl, rfl⟩ rfl (fun v' h' hv => ?_)
    obtain ⟨rfl, I20, rfl, f21⟩ := hv
    replace f21 : Fm sQ I I20 := Fm.tr (f18) (f21)
    refine a_l0 rfl rfl rfl ?_
    refine a_s rfl rfl ?_
    refine a_l1 rfl rfl rfl ?_
    refine a_l2 rfl rfl rfl ?_
    refine a_gV rfl lX2_101 mo_X5_leansFreely (q_X5_leansFreely_257) rfl rfl rfl ⟨5, _, rfl, rfl, rfl⟩ rfl (fun v' h' hv => ?_)
    obtain ⟨⟨v22, rfl⟩, rfl⟩ := hv
    refine a_if_eq rfl (fun c120 => ?_) (fun c120 => ?_)
    · refine a_s rfl rfl ?_
      refine a_gV rfl lX2_88 mo_X2_setPart (q_X2_setPart_246) rfl rfl rfl ⟨2, _, rfl, rfl, rfl⟩ rfl (fun v' h' hv => ?_)
      obtain ⟨rfl, I24, rfl, f25⟩ := hv
      replace f25 : Fm sQ I I24 := Fm.tr (f21) (f25)
      refine a_l0 rfl rfl rfl ?_
      refine a_s rfl rfl ?_
      refine a_l1 rfl rfl rfl ?_
      refine a_getq rfl gfX2_56_5 rfl (rfl) ?_
      refine a_l2 rfl rfl rfl ?_
      refine a_eSN1 rfl lX2_61 mo_X11_at (sp_X11_at rfl) rfl rfl rfl rfl ?_
      refine a_s rfl rfl ?_
      refine a_ic_le rfl (fun c145 => ?_) (fun c145 => ?_)
      · refine a_s rfl rfl ?_
        refine a_gV rfl lX2_88 mo_X2_setPart (q_X2_setPart_246) rfl rfl rfl ⟨2, _, rfl, rfl, rfl⟩ rfl (fun v' h' hv => ?_)
        obtain ⟨rfl, I27, rfl, f28⟩ := hv
        replace f28 : Fm sQ I I27 := Fm.tr (f25) (f28)
        exact a_vret rfl rfl ⟨rfl, _, rfl, f28⟩
      · refine a_s rfl rfl ?_
        refine a_goto rfl ?_
        refine a_gV rfl lX2_88 mo_X2_setPart (q_X2_setPart_246) rfl rfl rfl ⟨2, _, rfl, rfl, rfl⟩ rfl (fun v' h' hv => ?_)
        obtain ⟨rfl, I30, rfl, f31⟩ := hv
        replace f31 : Fm sQ I I30 := Fm.tr (f25) (f31)
        exact a_vret rfl rfl ⟨rfl, _, rfl, f31⟩
    · refine a_s rfl rfl ?_
      refine a_goto rfl ?_
      refine a_gV rfl lX2_88 mo_X2_setPart (q_X2_setPart_246) rfl rfl rfl ⟨2, _, rfl, rfl, rfl⟩ rfl (fun v' h' hv => ?_)
      obtain ⟨rfl, I33, rfl, f34⟩ := hv
      replace f34 : Fm sQ I I33 := Fm.tr (f21) (f34)
      refine a_l0 rfl rfl rfl ?_
      refine a_s rfl rfl ?_
      refine a_l1 rfl rfl rfl ?_
      refine a_getq rfl gfX2_56_5 rfl (rfl) ?_
      refine a_l2 rfl rfl rfl ?_
      refine a_eSN1 rfl lX2_61 mo_X11_at (sp_X11_at rfl) rfl rfl rfl rfl ?_
      refine a_s rfl rfl ?_
      refine a_ic_le rfl (fun c145 => ?_) (fun c145 => ?_)
      · refine a_s rfl rfl ?_
        refine a_gV rfl lX2_88 mo_X2_setPart (q_X2_setPart_246) rfl rfl rfl ⟨2, _, rfl, rfl, rfl⟩ rfl (fun v' h' hv => ?_)
        obtain ⟨rfl, I36, rfl, f37⟩ := hv
        replace f37 : Fm sQ I I36 := Fm.tr (f34) (f37)
        exact a_vret rfl rfl ⟨rfl, _, rfl, f37⟩
      · refine a_s rfl rfl ?_
        refine a_goto rfl ?_
        refine a_gV rfl lX2_88 mo_X2_setPart (q_X2_setPart_246) rfl rfl rfl ⟨2, _, rfl, rfl, rfl⟩ rfl (fun v' h' hv => ?_)
        obtain ⟨rfl, I39, rfl, f40⟩ := hv
        replace f40 : Fm sQ I I39 := Fm.tr (f34) (f40)
        exact a_vret rfl rfl ⟨rfl, _, rfl, f40⟩
  · refine a_s rfl rfl ?_
    refine a_goto rfl ?_
    refine a_gV rfl lX2_88 mo_X2_setPart (q_X2_setPart_246) rfl rfl rfl ⟨2, _, rfl, rfl, rfl⟩ rfl (fun v' h' hv => ?_)
    obtain ⟨rfl, I42, rfl, f43⟩ := hv
    replace f43 : Fm sQ I I42 := Fm.tr (f9) (f43)
    refine a_l0 rfl rfl rfl ?_
    refine a_s rfl rfl ?_
    refine a_l4 rfl rfl rfl ?_
    refine a_gV rfl lX2_88 mo_X2_setPart (q_X2_setPart_246) rfl rfl rfl ⟨2, _, rfl, rfl, rfl⟩ rfl (fun v' h' hv => ?_)
    obtain ⟨rfl, I45, rfl, f46⟩ := hv
    replace f46 : Fm sQ I I45 := Fm.tr (f43) (f46)
    refine a_l0 rfl rfl rfl ?_
    refine a_s rfl rfl ?_
    refine a_l1 rfl rfl rfl ?_
    refine a_getq rfl gfX2_95_5 rfl (rfl) ?_
    refine a_l4 rfl rfl rfl ?_
    refine a_eSN1 rfl lX2_61 mo_X11_at (sp_X11_at rfl) rfl rfl rfl rfl ?_
    refine a_gV rfl lX2_88 mo_X2_setPart (q_X2_setPart_246) rfl rfl rfl ⟨2, _, rfl, rfl, rfl⟩ rfl (fun v' h' hv => ?_)
    obtain ⟨rfl, I48, rfl, f49⟩ := hv
    replace f49 : Fm sQ I I48 := Fm.tr (f46) (f49)
    refine a_l0 rfl rfl rfl ?_
    refine a_s rfl rfl ?_
    refine a_l1 rfl rfl rfl ?_
    refine a_geti rfl gfX2_98_5 rfl ?_
    refine a_gV rfl lX2_88 mo_X2_setPart (q_X2_setPart_246) rfl rfl rfl ⟨2, _, rfl, rfl, rfl⟩ rfl (fun v' h' hv => ?_)
    obtain ⟨rfl, I51, rfl, f52⟩ := hv
    replace f52 : Fm sQ I I51 := Fm.tr (f49) (f52)
    refine a_l0 rfl rfl rfl ?_
    refine a_s rfl rfl ?_
    refine a_l1 rfl rfl rfl ?_
    refine a_l2 rfl rfl rfl ?_
    refine a_gV rfl lX2_101 mo_X5_leansFreely (q_X5_leansFreely_257) rfl rfl rfl ⟨5, _, rfl, rfl, rfl⟩ rfl (fun v' h' hv => ?_)
    obtain ⟨⟨v53, rfl⟩, rfl⟩ := hv
    refine a_if_eq rfl (fun c120 => ?_) (fun c120 => ?_)
    · refine a_s rfl rfl ?_
      refine a_gV rfl lX2_88 mo_X2_setPart (q_X2_setPart_246) rfl rfl rfl ⟨2, _, rfl, rfl, rfl⟩ rfl (fun v' h' hv => ?_)
      obtain ⟨rfl, I55, rfl, f56⟩ := hv
      replace f56 : Fm sQ I I55 := Fm.tr (f52) (f56)
      refine a_l0 rfl rfl rfl ?_
      refine a_s rfl rfl ?_
      refine a_l1 rfl rfl rfl ?_
      refine a_getq rfl gfX2_56_5 rfl (rfl) ?_
      refine a_l2 rfl rfl rfl ?_
      refine a_eSN1 rfl lX2_61 mo_X11_at (sp_X11_at rfl) rfl rfl rfl rfl ?_
      refine a_s rfl rfl ?_
      refine a_ic_le rfl (fun c145 => ?_) (fun c145 => ?_)
      · refine a_s rfl rfl ?_
        refine a_gV rfl lX2_88 mo_X2_setPart (q_X2_setPart_246) rfl rfl rfl ⟨2, _, rfl, rfl, rfl⟩ rfl (fun v' h' hv => ?_)
        obtain ⟨rfl, I58, rfl, f59⟩ := hv
        replace f59 : Fm sQ I I58 := Fm.tr (f56) (f59)
        exact a_vret rfl rfl ⟨rfl, _, rfl, f59⟩
      · refine a_s rfl rfl ?_
        refine a_goto rfl ?_
        refine a_gV rfl lX2_88 mo_X2_setPart (q_X2_setPart_246) rfl rfl rfl ⟨2, _, rfl, rfl, rfl⟩ rfl (fun v' h' hv => ?_)
        obtain ⟨rfl, I61, rfl, f62⟩ := hv
        replace f62 : Fm sQ I I61 := Fm.tr (f56) (f62)
        exact a_vret rfl rfl ⟨rfl, _, rfl, f62⟩
    · refine a_s rfl rfl ?_
      refine a_goto rfl ?_
      refine a_gV rfl lX2_88 mo_X2_setPart (q_X2_setPart_246) rfl rfl rfl ⟨2, _, rfl, rfl, rfl⟩ rfl (fun v' h' hv => ?_)
      obtain ⟨rfl, I64, rfl, f65⟩ := hv
      replace f65 : Fm sQ I I64 := Fm.tr (f52) (f65)
      refine a_l0 rfl rfl rfl ?_
      refine a_s rfl rfl ?_
      refine a_l1 rfl rfl rfl ?_
      refine a_getq rfl gfX2_56_5 rfl (rfl) ?_
      refine a_l2 rfl rfl rfl ?_
      refine a_eSN1 rfl lX2_61 mo_X11_at (sp_X11_at rfl) rfl rfl rfl rfl ?_
      refine a_s rfl rfl ?_
      refine a_ic_le rfl (fun c145 => ?_) (fun c145 => ?_)
      · refine a_s rfl rfl ?_
        refine a_gV rfl lX2_88 mo_X2_setPart (q_X2_setPart_246) rfl rfl rfl ⟨2, _, rfl, rfl, rfl⟩ rfl (fun v' h' hv => ?_)
        obtain ⟨rfl, I67, rfl, f68⟩ := hv
        replace f68 : Fm sQ I I67 := Fm.tr (f65) (f68)
        exact a_vret rfl rfl ⟨rfl, _, rfl, f68⟩
      · refine a_s rfl rfl ?_
        refine a_goto rfl ?_
        refine a_gV rfl lX2_88 mo_X2_setPart (q_X2_setPart_246) rfl rfl rfl ⟨2, _, rfl, rfl, rfl⟩ rfl (fun v' h' hv => ?_)
        obtain ⟨rfl, I70, rfl, f71⟩ := hv
        replace f71 : Fm sQ I I70 := Fm.tr (f65) (f71)
        exact a_vret rfl rfl ⟨rfl, _, rfl, f71⟩
theorem q_X2_growthOf_246_257 {S : aS} {I : Nat → Nat → Int32} {L : Nat → Nat → Int64} {w1 w2 t : Nat} {x2 : Int32} : Sp S m_X2_growthOf 15 0 0 [.ref 246, .ref 257, .int x2] (hp I L w1 w2 t) (QR (Fm sQ I) isI L w1 w2 t) nX := by
  refine Sp_of ok_X2_growthOf rfl rfl ?_
  show AW S m_X2_growthOf 15 _ _ 0 0 0 [some (.ref 246), some (.ref 257), some (.int x2)] [] (hp I L w1 w2 t)
  refine a_l0 rfl rfl rfl ?_
  refine a_l1 rfl rfl rfl ?_
  refine a_l2 rfl rfl rfl ?_
  refine a_gV rfl lX2_48 mo_X2_takeParts (q_X2_takeParts_246_257) rfl rfl rfl ⟨2, _, rfl, rfl, rfl⟩ rfl (fun v' h' hv => ?_)
  obtain ⟨rfl, I2, rfl, f3⟩ := hv
  refine a_l0 rfl rfl rfl ?_
  refine a_s rfl rfl ?_
  refine a_gV rfl lX2_52 mo_X2_sumOfLines (q_X2_sumOfLines_246) rfl rfl rfl ⟨2, _, rfl, rfl, rfl⟩ rfl (fun v' h' hv => ?_)
  obtain ⟨⟨v4, rfl⟩, I5, rfl, f6⟩ := hv
  replace f6 : Fm sQ I I5 := Fm.tr (f3) (f6)
  exact a_iret rfl rfl ⟨⟨_, rfl⟩, _, rfl, f6⟩
theorem q_X5_passMonth_257_246 {S : aS} {I : Nat → Nat → Int32} {L : Nat → Nat → Int64} {w1 w2 t : Nat} : Sp S m_X5_passMonth 16 0 0 [.ref 257, .ref 246] (hp I L w1 w2 t) (QR (Fm sQ I) isV L w1 w2 t) nX := by
  refine Sp_of ok_X5_passMonth rfl rfl ?_
  show AW S m_X5_passMonth 16 _ _ 0 0 0 [some (.ref 257), some (.ref 246), none, none] [] (hp I L w1 w2 t)
  refine a_s rfl rfl ?_
  refine a_s2 rfl rfl rfl rfl rfl rfl ?_
  refine a_cnt (j0 := 0) (fun j ls h => ∃ I', ls = [some (.ref 257), some (.ref 246), some (.int (nI j)), none] ∧ h = hp I' L w1 w2 t ∧ Fm sQ I I') (by decide) ⟨_, rfl, rfl, Fm.rf⟩ ⟨rfl, rfl, rfl, trivial⟩ ?_
  rintro j2 _ _ hj2 ⟨Ih2, rfl, rfl, fh2⟩ ih2
  refine a_l2 rfl rfl rfl ?_
  refine a_l0 rfl rfl rfl ?_
  refine a_geti rfl gfX5_63_5 rfl ?_
  refine a_ic_ge rfl (fun c7 => ?_) (fun c7 => ?_)
  · exact a_vret rfl rfl ⟨rfl, _, rfl, fh2⟩
  · refine a_l0 rfl rfl rfl ?_
    refine a_l2 rfl rfl rfl ?_
    refine a_gV rfl lX5_90 mo_X5_isWaiting (q_X5_isWaiting_257) rfl rfl rfl ⟨5, _, rfl, rfl, rfl⟩ rfl (fun v' h' hv => ?_)
    obtain ⟨⟨v1, rfl⟩, rfl⟩ := hv
    refine a_if_eq rfl (fun c15 => ?_) (fun c15 => ?_)
    · refine a_l0 rfl rfl rfl ?_
      refine a_getq rfl gfX5_33_5 rfl (rfl) ?_
      refine a_l2 rfl rfl rfl ?_
      refine a_eSN1 rfl lX5_86 mo_X11_at (sp_X11_at rfl) rfl rfl rfl rfl ?_
      refine a_s rfl rfl ?_
      refine a_ic_eq rfl (fun c57 => ?_) (fun c57 => ?_)
      · refine a_i2 rfl rfl rfl ?_
        refine a_goto rfl ?_
        exact ih2 _ _ _ _ c7 ⟨_, rfl, rfl, fh2⟩ ⟨rfl, rfl, nS _, trivial⟩
      · refine a_l0 rfl rfl rfl ?_
        refine a_l2 rfl rfl rfl ?_
        refine a_gV rfl lX5_163 mo_X5_growOlder (q_X5_growOlder_257) rfl rfl rfl ⟨5, _, rfl, rfl, rfl⟩ rfl (fun v' h' hv => ?_)
        obtain ⟨rfl, I3, rfl, f4⟩ := hv
        replace f4 : Fm sQ I I3 := Fm.tr (fh2) (f4)
        refine a_i2 rfl rfl rfl ?_
        refine a_goto rfl ?_
        exact ih2 _ _ _ _ c7 ⟨_, rfl, rfl, f4⟩ ⟨rfl, rfl, nS _, trivial⟩
    · refine a_l0 rfl rfl rfl ?_
      refine a_getq rfl gfX5_21_5 rfl (rfl) ?_
      refine a_l2 rfl rfl rfl ?_
      refine a_eSN1 rfl lX5_86 mo_X11_at (sp_X11_at rfl) rfl rfl rfl rfl ?_
      refine a_l1 rfl rfl rfl ?_
      refine a_l0 rfl rfl rfl ?_
      refine a_l2 rfl rfl rfl ?_
      refine a_gV rfl lX5_157 mo_X2_growthOf (q_X2_growthOf_246_257) rfl rfl rfl ⟨2, _, rfl, rfl, rfl⟩ rfl (fun v' h' hv => ?_)
      obtain ⟨⟨v5, rfl⟩, I6, rfl, f7⟩ := hv
      replace f7 : Fm sQ I I6 := Fm.tr (fh2) (f7)
      refine a_s rfl rfl ?_
      refine a_s3 rfl rfl rfl rfl rfl rfl ?_
      refine a_l0 rfl rfl rfl ?_
      refine a_getq rfl gfX5_21_5 rfl (rfl) ?_
      refine a_l2 rfl rfl rfl ?_
      refine a_s rfl rfl ?_
      refine a_l3 rfl rfl rfl ?_
      refine a_min rfl lX5_127 mj_min rfl rfl ?_
      refine a_eSN0 rfl lX5_82 mo_X11_setAt (sp_X11_setAt rfl) rfl rfl rfl rfl ?_
      refine a_ren (P := Fm sQ I) (Fm.tr (f7) (Fm.st (Fm.rf (s := sQ)) (fun _ => rfl))) (fun I8 f9 => ?_)
      refine a_l0 rfl rfl rfl ?_
      refine a_getq rfl gfX5_33_5 rfl (rfl) ?_
      refine a_l2 rfl rfl rfl ?_
      refine a_eSN1 rfl lX5_86 mo_X11_at (sp_X11_at rfl) rfl rfl rfl rfl ?_
      refine a_s rfl rfl ?_
      refine a_ic_eq rfl (fun c57 => ?_) (fun c57 => ?_)
      · refine a_i2 rfl rfl rfl ?_
        refine a_goto rfl ?_
        exact ih2 _ _ _ _ c7 ⟨_, rfl, rfl, f9⟩ ⟨rfl, rfl, nS _, trivial⟩
      · refine a_l0 rfl rfl rfl ?_
        refine a_l2 rfl rfl rfl ?_
        refine a_gV rfl lX5_163 mo_X5_growOlder (q_X5_growOlder_257) rfl rfl rfl ⟨5, _, rfl, rfl, rfl⟩ rfl (fun v' h' hv => ?_)
        obtain ⟨rfl, I11, rfl, f12⟩ := hv
        replace f12 : Fm sQ I I11 := Fm.tr (f9) (f12)
        refine a_i2 rfl rfl rfl ?_
        refine a_goto rfl ?_
        exact ih2 _ _ _ _ c7 ⟨_, rfl, rfl, f12⟩ ⟨rfl, rfl, nS _, trivial⟩
theorem q_X5_isReady_257 {S : aS} {I : Nat → Nat → Int32} {L : Nat → Nat → Int64} {w1 w2 t : Nat} {x1 : Int32} : Sp S m_X5_isReady 14 0 0 [.ref 257, .int x1] (hp I L w1 w2 t) (QE isZ (hp I L w1 w2 t)) nX := by
  refine Sp_of ok_X5_isReady rfl rfl ?_
  show AW S m_X5_isReady 14 _ _ 0 0 0 [some (.ref 257), some (.int x1)] [] (hp I L w1 w2 t)
  refine a_l0 rfl rfl rfl ?_
  refine a_l1 rfl rfl rfl ?_
  refine a_gV rfl lX5_90 mo_X5_isWaiting (q_X5_isWaiting_257) rfl rfl rfl ⟨5, _, rfl, rfl, rfl⟩ rfl (fun v' h' hv => ?_)
  obtain ⟨⟨v1, rfl⟩, rfl⟩ := hv
  refine a_if_eq rfl (fun c5 => ?_) (fun c5 => ?_)
  · refine a_s rfl rfl ?_
    exact a_zret rfl rfl rfl ⟨⟨false, rfl⟩, rfl⟩
  · refine a_l0 rfl rfl rfl ?_
    refine a_l1 rfl rfl rfl ?_
    refine a_gV rfl lX5_94 mo_X5_leansFreely (q_X5_leansFreely_257) rfl rfl rfl ⟨5, _, rfl, rfl, rfl⟩ rfl (fun v' h' hv => ?_)
    obtain ⟨⟨v2, rfl⟩, rfl⟩ := hv
    refine a_if_eq rfl (fun c13 => ?_) (fun c13 => ?_)
    · refine a_s rfl rfl ?_
      exact a_zret rfl rfl rfl ⟨⟨false, rfl⟩, rfl⟩
    · refine a_s rfl rfl ?_
      refine a_goto rfl ?_
      exact a_zret rfl rfl rfl ⟨⟨true, rfl⟩, rfl⟩
theorem q_X5_finish_257 {S : aS} {I : Nat → Nat → Int32} {L : Nat → Nat → Int64} {w1 w2 t : Nat} {x1 : Int32} : Sp S m_X5_finish 13 0 0 [.ref 257, .int x1] (hp I L w1 w2 t) (QR (Fm sQ I) isV L w1 w2 t) nX := by
  refine Sp_of ok_X5_finish rfl rfl ?_
  show AW S m_X5_finish 13 _ _ 0 0 0 [some (.ref 257), some (.int x1)] [] (hp I L w1 w2 t)
  refine a_l0 rfl rfl rfl ?_
  refine a_getq rfl gfX5_21_5 rfl (rfl) ?_
  refine a_l1 rfl rfl rfl ?_
  refine a_s rfl rfl ?_
  refine a_eSN0 rfl lX5_82 mo_X11_setAt (sp_X11_setAt rfl) rfl rfl rfl rfl ?_
  refine a_ren (P := Fm sQ I) (Fm.st (Fm.rf (s := sQ)) (fun _ => rfl)) (fun I1 f2 => ?_)
  refine a_l0 rfl rfl rfl ?_
  refine a_getq rfl gfX5_33_5 rfl (rfl) ?_
  refine a_l1 rfl rfl rfl ?_
  refine a_s rfl rfl ?_
  refine a_eSN0 rfl lX5_82 mo_X11_setAt (sp_X11_setAt rfl) rfl rfl rfl rfl ?_
  refine a_ren (P := Fm sQ I) (Fm.tr (f2) (Fm.st (Fm.rf (s := sQ)) (fun _ => rfl))) (fun I3 f4 => ?_)
  exact a_vret rfl rfl ⟨rfl, _, rfl, f4⟩
theorem q_X5_work_257 {S : aS} {I : Nat → Nat → Int32} {L : Nat → Nat → Int64} {w1 w2 t : Nat} {x1 x2 : Int32} : Sp S m_X5_work 15 0 0 [.ref 257, .int x1, .int x2] (hp I L w1 w2 t) (QR (Fm sQ I) isI L w1 w2 t) nX := by
  refine Sp_of ok_X5_work rfl rfl ?_
  show AW S m_X5_work 15 _ _ 0 0 0 [some (.ref 257), some (.int x1), some (.int x2), none, none, none, none] [] (hp I L w1 w2 t)
  refine a_s rfl rfl ?_
  refine a_s3 rfl rfl rfl rfl rfl rfl ?_
  refine a_l0 rfl rfl rfl ?_
  refine a_getq rfl gfX5_15_5 rfl (rfl) ?_
  refine a_l1 rfl rfl rfl ?_
  refine a_eSN1 rfl lX5_86 mo_X11_at (sp_X11_at rfl) rfl rfl rfl rfl ?_
  refine a_s4 rfl rfl rfl rfl rfl rfl ?_
  refine a_s rfl rfl ?_
  refine a_s5 rfl rfl rfl rfl rfl rfl ?_
  refine a_cnt (j0 := 0) (fun j ls h => ∃ a0, ∃ a1, ∃ I', ls = [some (.ref 257), some (.int x1), some (.int x2), some (.int a0), some (.int a1), some (.int (nI j)), none] ∧ h = hp I' L w1 w2 t ∧ Fm sQ I I') (by decide) ⟨_, _, _, rfl, rfl, Fm.rf⟩ ⟨rfl, rfl, rfl, rfl, rfl, rfl, trivial⟩ ?_
  rintro j15 _ _ hj15 ⟨a0_15, a1_15, Ih15, rfl, rfl, fh15⟩ ih15
  refine a_l5 rfl rfl rfl ?_
  refine a_l0 rfl rfl rfl ?_
  refine a_geti rfl gfX5_63_5 rfl ?_
  refine a_ic_ge rfl (fun c21 => ?_) (fun c21 => ?_)
  · refine a_l3 rfl rfl rfl ?_
    exact a_iret rfl rfl ⟨⟨_, rfl⟩, _, rfl, fh15⟩
  · refine a_l4 rfl rfl rfl ?_
    refine a_if_le rfl (fun c26 => ?_) (fun c26 => ?_)
    · refine a_l3 rfl rfl rfl ?_
      exact a_iret rfl rfl ⟨⟨_, rfl⟩, _, rfl, fh15⟩
    · refine a_l0 rfl rfl rfl ?_
      refine a_getq rfl gfX5_18_5 rfl (rfl) ?_
      refine a_l5 rfl rfl rfl ?_
      refine a_eSN1 rfl lX5_86 mo_X11_at (sp_X11_at rfl) rfl rfl rfl rfl ?_
      refine a_l1 rfl rfl rfl ?_
      refine a_ic_ne rfl (fun c39 => ?_) (fun c39 => ?_)
      · refine a_i5 rfl rfl rfl ?_
        refine a_goto rfl ?_
        exact ih15 _ _ _ _ c21 ⟨_, _, _, rfl, rfl, fh15⟩ ⟨rfl, rfl, rfl, rfl, rfl, nS _, trivial⟩
      · refine a_l0 rfl rfl rfl ?_
        refine a_l5 rfl rfl rfl ?_
        refine a_gV rfl lX5_101 mo_X5_isReady (q_X5_isReady_257) rfl rfl rfl ⟨5, _, rfl, rfl, rfl⟩ rfl (fun v' h' hv => ?_)
        obtain ⟨⟨v1, rfl⟩, rfl⟩ := hv
        refine a_if_eq rfl (fun c48 => ?_) (fun c48 => ?_)
        · refine a_i5 rfl rfl rfl ?_
          refine a_goto rfl ?_
          exact ih15 _ _ _ _ c21 ⟨_, _, _, rfl, rfl, fh15⟩ ⟨rfl, rfl, rfl, rfl, rfl, nS _, trivial⟩
        · refine a_l2 rfl rfl rfl ?_
          refine a_l0 rfl rfl rfl ?_
          refine a_getq rfl gfX5_27_5 rfl (rfl) ?_
          refine a_l5 rfl rfl rfl ?_
          refine a_eSN1 rfl lX5_86 mo_X11_at (sp_X11_at rfl) rfl rfl rfl rfl ?_
          refine a_eSN1 rfl lX5_149 mo_X11_has (sp_X11_has) rfl rfl rfl rfl ?_
          refine a_if_ne rfl (fun c64 => ?_) (fun c64 => ?_)
          · refine a_i5 rfl rfl rfl ?_
            refine a_goto rfl ?_
            exact ih15 _ _ _ _ c21 ⟨_, _, _, rfl, rfl, fh15⟩ ⟨rfl, rfl, rfl, rfl, rfl, nS _, trivial⟩
          · refine a_l4 rfl rfl rfl ?_
            refine a_l0 rfl rfl rfl ?_
            refine a_getq rfl gfX5_21_5 rfl (rfl) ?_
            refine a_l5 rfl rfl rfl ?_
            refine a_eSN1 rfl lX5_86 mo_X11_at (sp_X11_at rfl) rfl rfl rfl rfl ?_
            refine a_min rfl lX5_127 mj_min rfl rfl ?_
            refine a_s6 rfl rfl rfl rfl rfl rfl ?_
            refine a_l4 rfl rfl rfl ?_
            refine a_l6 rfl rfl rfl ?_
            refine a_s rfl rfl ?_
            refine a_s4 rfl rfl rfl rfl rfl rfl ?_
            refine a_l3 rfl rfl rfl ?_
            refine a_l0 rfl rfl rfl ?_
            refine a_getq rfl gfX5_27_5 rfl (rfl) ?_
            refine a_l5 rfl rfl rfl ?_
            refine a_eSN1 rfl lX5_86 mo_X11_at (sp_X11_at rfl) rfl rfl rfl rfl ?_
            refine a_eSN1 rfl lX5_97 mo_X11_bit (sp_X11_bit) rfl rfl rfl rfl ?_
            refine a_s rfl rfl ?_
            refine a_s3 rfl rfl rfl rfl rfl rfl ?_
            refine a_l0 rfl rfl rfl ?_
            refine a_getq rfl gfX5_21_5 rfl (rfl) ?_
            refine a_l5 rfl rfl rfl ?_
            refine a_l0 rfl rfl rfl ?_
            refine a_getq rfl gfX5_21_5 rfl (rfl) ?_
            refine a_l5 rfl rfl rfl ?_
            refine a_eSN1 rfl lX5_86 mo_X11_at (sp_X11_at rfl) rfl rfl rfl rfl ?_
            refine a_l6 rfl rfl rfl ?_
            refine a_s rfl rfl ?_
            refine a_eSN0 rfl lX5_82 mo_X11_setAt (sp_X11_setAt rfl) rfl rfl rfl rfl ?_
            refine a_ren (P := Fm sQ I) (Fm.tr (fh15) (Fm.st (Fm.rf (s := sQ)) (fun _ => rfl))) (fun I2 f3 => ?_)
            refine a_l0 rfl rfl rfl ?_
            refine a_getq rfl gfX5_21_5 rfl (rfl) ?_
            refine a_l5 rfl rfl rfl ?_
            refine a_eSN1 rfl lX5_86 mo_X11_at (sp_X11_at rfl) rfl rfl rfl rfl ?_
            refine a_if_ne rfl (fun c135 => ?_) (fun c135 => ?_)
            · refine a_i5 rfl rfl rfl ?_
              refine a_goto rfl ?_
              exact ih15 _ _ _ _ c21 ⟨_, _, _, rfl, rfl, f3⟩ ⟨rfl, rfl, rfl, rfl, rfl, nS _, trivial⟩
            · refine a_l0 rfl rfl rfl ?_
              refine a_l5 rfl rfl rfl ?_
              refine a_gV rfl lX5_153 mo_X5_finish (q_X5_finish_257) rfl rfl rfl ⟨5, _, rfl, rfl, rfl⟩ rfl (fun v' h' hv => ?_)
              obtain ⟨rfl, I5, rfl, f6⟩ := hv
              replace f6 : Fm sQ I I5 := Fm.tr (f3) (f6)
              refine a_i5 rfl rfl rfl ?_
              refine a_goto rfl ?_
              exact ih15 _ _ _ _ c21 ⟨_, _, _, rfl, rfl, f6⟩ ⟨rfl, rfl, rfl, rfl, rfl, nS _, trivial⟩
theorem q_X5_passDay_257_246 {S : aS} {I : Nat → Nat → Int32} {L : Nat → Nat → Int64} {w1 w2 t : Nat} {b2 : Bool} : Sp S m_X5_passDay 17 0 0 [.ref 257, .ref 246, .int (bI b2)] (hp I L w1 w2 t) (QR (Fm sQ I) isV L w1 w2 t) nX := by
  refine Sp_of ok_X5_passDay rfl rfl ?_
  show AW S m_X5_passDay 17 _ _ 0 0 0 [some (.ref 257), some (.ref 246), some (.int (bI b2)), none, none, none] [] (hp I L w1 w2 t)
  refine a_s rfl rfl ?_
  refine a_s3 rfl rfl rfl rfl rfl rfl ?_
  refine a_s rfl rfl ?_
  refine a_s4 rfl rfl rfl rfl rfl rfl ?_
  refine a_cnt (j0 := 0) (fun j ls h => ∃ a0, ∃ I', ls = [some (.ref 257), some (.ref 246), some (.int (bI b2)), some (.int a0), some (.int (nI j)), none] ∧ h = hp I' L w1 w2 t ∧ Fm sQ I I') (by decide) ⟨_, _, rfl, rfl, Fm.rf⟩ ⟨rfl, rfl, rfl, rfl, rfl, trivial⟩ ?_
  rintro j5 _ _ hj5 ⟨a0_5, Ih5, rfl, rfl, fh5⟩ ih5
  refine a_l4 rfl rfl rfl ?_
  refine a_l0 rfl rfl rfl ?_
  refine a_geti rfl gfX5_56_5 rfl ?_
  refine a_ic_ge rfl (fun c11 => ?_) (fun c11 => ?_)
  · refine a_l0 rfl rfl rfl ?_
    refine a_s rfl rfl ?_
    refine a_geti rfl gfX5_36_5 rfl ?_
    refine a_s rfl rfl ?_
    refine a_s rfl rfl ?_
    refine a_puti rfl pfX5_36_5 rfl ?_
    refine a_ren (P := Fm sQ I) (Fm.tr (fh5) (Fm.up (Fm.rf (s := sQ)) rfl)) (fun I1 f2 => ?_)
    refine a_l0 rfl rfl rfl ?_
    refine a_geti rfl gfX5_36_5 rfl ?_
    refine a_s rfl rfl ?_
    refine a_ic_le rfl (fun c76 => ?_) (fun c76 => ?_)
    · exact a_vret rfl rfl ⟨rfl, _, rfl, f2⟩
    · refine a_l0 rfl rfl rfl ?_
      refine a_s rfl rfl ?_
      refine a_puti rfl pfX5_36_5 rfl ?_
      refine a_ren (P := Fm sQ I) (Fm.tr (f2) (Fm.up (Fm.rf (s := sQ)) rfl)) (fun I3 f4 => ?_)
      refine a_l0 rfl rfl rfl ?_
      refine a_s rfl rfl ?_
      refine a_l0 rfl rfl rfl ?_
      refine a_geti rfl gfX5_66_5 rfl ?_
      refine a_s rfl rfl ?_
      refine a_s rfl rfl ?_
      refine a_min rfl lX5_127 mj_min rfl rfl ?_
      refine a_puti rfl pfX5_66_5 rfl ?_
      refine a_ren (P := Fm sQ I) (Fm.tr (f4) (Fm.up (Fm.rf (s := sQ)) rfl)) (fun I5 f6 => ?_)
      refine a_l0 rfl rfl rfl ?_
      refine a_l1 rfl rfl rfl ?_
      refine a_gV rfl lX5_140 mo_X5_passMonth (q_X5_passMonth_257_246) rfl rfl rfl ⟨5, _, rfl, rfl, rfl⟩ rfl (fun v' h' hv => ?_)
      obtain ⟨rfl, I8, rfl, f9⟩ := hv
      replace f9 : Fm sQ I I8 := Fm.tr (f6) (f9)
      exact a_vret rfl rfl ⟨rfl, _, rfl, f9⟩
  · refine a_l2 rfl rfl rfl ?_
    refine a_if_eq rfl (fun c15 => ?_) (fun c15 => ?_)
    · refine a_s rfl rfl ?_
      refine a_s5 rfl rfl rfl rfl rfl rfl ?_
      refine a_l5 rfl rfl rfl ?_
      refine a_if_ne rfl (fun c41 => ?_) (fun c41 => ?_)
      · refine a_i4 rfl rfl rfl ?_
        refine a_goto rfl ?_
        exact ih5 _ _ _ _ c11 ⟨_, _, rfl, rfl, fh5⟩ ⟨rfl, rfl, rfl, rfl, nS _, trivial⟩
      · refine a_l3 rfl rfl rfl ?_
        refine a_l0 rfl rfl rfl ?_
        refine a_l4 rfl rfl rfl ?_
        refine a_l3 rfl rfl rfl ?_
        refine a_gV rfl lX5_137 mo_X5_work (q_X5_work_257) rfl rfl rfl ⟨5, _, rfl, rfl, rfl⟩ rfl (fun v' h' hv => ?_)
        obtain ⟨⟨v10, rfl⟩, I11, rfl, f12⟩ := hv
        replace f12 : Fm sQ I I11 := Fm.tr (fh5) (f12)
        refine a_s rfl rfl ?_
        refine a_s3 rfl rfl rfl rfl rfl rfl ?_
        refine a_i4 rfl rfl rfl ?_
        refine a_goto rfl ?_
        exact ih5 _ _ _ _ c11 ⟨_, _, rfl, rfl, f12⟩ ⟨rfl, rfl, rfl, rfl, nS _, trivial⟩
    · refine a_l0 rfl rfl rfl ?_
      refine a_eV1 rfl lX5_133 mo_X5_draw (sp_X5_draw (a := 257) (by decide)) rfl rfl rfl ⟨5, _, rfl, rfl, rfl⟩ rfl ?_
      refine a_ren (P := Fm sQ I) (Fm.tr (fh5) (Fm.up (Fm.rf (s := sQ)) rfl)) (fun I13 f14 => ?_)
      refine a_s rfl rfl ?_
      refine a_irem rfl (by decide) ?_
      refine a_l0 rfl rfl rfl ?_
      refine a_geti rfl gfX5_69_5 rfl ?_
      refine a_ic_ge rfl (fun c29 => ?_) (fun c29 => ?_)
      · refine a_s rfl rfl ?_
        refine a_s5 rfl rfl rfl rfl rfl rfl ?_
        refine a_l5 rfl rfl rfl ?_
        refine a_if_ne rfl (fun c41 => ?_) (fun c41 => ?_)
        · refine a_i4 rfl rfl rfl ?_
          refine a_goto rfl ?_
          exact ih5 _ _ _ _ c11 ⟨_, _, rfl, rfl, f14⟩ ⟨rfl, rfl, rfl, rfl, nS _, trivial⟩
        · refine a_l3 rfl rfl rfl ?_
          refine a_l0 rfl rfl rfl ?_
          refine a_l4 rfl rfl rfl ?_
          refine a_l3 rfl rfl rfl ?_
          refine a_gV rfl lX5_137 mo_X5_work (q_X5_work_257) rfl rfl rfl ⟨5, _, rfl, rfl, rfl⟩ rfl (fun v' h' hv => ?_)
          obtain ⟨⟨v15, rfl⟩, I16, rfl, f17⟩ := hv
          replace f17 : Fm sQ I I16 := Fm.tr (f14) (f17)
          refine a_s rfl rfl ?_
          refine a_s3 rfl rfl rfl rfl rfl rfl ?_
          refine a_i4 rfl rfl rfl ?_
          refine a_goto rfl ?_
          exact ih5 _ _ _ _ c11 ⟨_, _, rfl, rfl, f17⟩ ⟨rfl, rfl, rfl, rfl, nS _, trivial⟩
      · refine a_s rfl rfl ?_
        refine a_goto rfl ?_
        refine a_s5 rfl rfl rfl rfl rfl rfl ?_
        refine a_l5 rfl rfl rfl ?_
        refine a_if_ne rfl (fun c41 => ?_) (fun c41 => ?_)
        · refine a_i4 rfl rfl rfl ?_
          refine a_goto rfl ?_
          exact ih5 _ _ _ _ c11 ⟨_, _, rfl, rfl, f14⟩ ⟨rfl, rfl, rfl, rfl, nS _, trivial⟩
        · refine a_l3 rfl rfl rfl ?_
          refine a_l0 rfl rfl rfl ?_
          refine a_l4 rfl rfl rfl ?_
          refine a_l3 rfl rfl rfl ?_
          refine a_gV rfl lX5_137 mo_X5_work (q_X5_work_257) rfl rfl rfl ⟨5, _, rfl, rfl, rfl⟩ rfl (fun v' h' hv => ?_)
          obtain ⟨⟨v18, rfl⟩, I19, rfl, f20⟩ := hv
          replace f20 : Fm sQ I I19 := Fm.tr (f14) (f20)
          refine a_s rfl rfl ?_
          refine a_s3 rfl rfl rfl rfl rfl rfl ?_
          refine a_i4 rfl rfl rfl ?_
          refine a_goto rfl ?_
          exact ih5 _ _ _ _ c11 ⟨_, _, rfl, rfl, f20⟩ ⟨rfl, rfl, rfl, rfl, nS _, trivial⟩
theorem q_X5_daysTillDone_257_246 {S : aS} {I : Nat → Nat → Int32} {L : Nat → Nat → Int64} {w1 w2 t : Nat} {x2 : Int32} : Sp S m_X5_daysTillDone 18 0 0 [.ref 257, .ref 246, .int x2] (hp I L w1 w2 t) (QR (Fm sQ I) isI L w1 w2 t) nX := by
  refine Sp_of ok_X5_daysTillDone rfl rfl ?_
  show AW S m_X5_daysTillDone 18 _ _ 0 0 0 [some (.ref 257), some (.ref 246), some (.int x2), none] [] (hp I L w1 w2 t)
  refine a_s rfl rfl ?_
  refine a_s3 rfl rfl rfl rfl rfl rfl ?_
  refine a_cnt (j0 := 0) (fun j ls h => ∃ I', ls = [some (.ref 257), some (.ref 246), some (.int x2), some (.int (nI j))] ∧ h = hp I' L w1 w2 t ∧ Fm sQ I I') (by decide) ⟨_, rfl, rfl, Fm.rf⟩ ⟨rfl, rfl, rfl, rfl, trivial⟩ ?_
  rintro j2 _ _ hj2 ⟨Ih2, rfl, rfl, fh2⟩ ih2
  refine a_l3 rfl rfl rfl ?_
  refine a_s rfl rfl ?_
  refine a_ic_gt rfl (fun c5 => ?_) (fun c5 => ?_)
  · refine a_s rfl rfl ?_
    exact a_iret rfl rfl ⟨⟨_, rfl⟩, _, rfl, fh2⟩
  · refine a_l0 rfl rfl rfl ?_
    refine a_getq rfl gfX5_33_5 rfl (rfl) ?_
    refine a_l2 rfl rfl rfl ?_
    refine a_eSN1 rfl lX5_86 mo_X11_at (sp_X11_at rfl) rfl rfl rfl rfl ?_
    refine a_s rfl rfl ?_
    refine a_ic_ne rfl (fun c17 => ?_) (fun c17 => ?_)
    · refine a_l0 rfl rfl rfl ?_
      refine a_l1 rfl rfl rfl ?_
      refine a_s rfl rfl ?_
      refine a_gV rfl lX5_144 mo_X5_passDay (q_X5_passDay_257_246 (b2 := false)) rfl rfl rfl ⟨5, _, rfl, rfl, rfl⟩ rfl (fun v' h' hv => ?_)
      obtain ⟨rfl, I2, rfl, f3⟩ := hv
      replace f3 : Fm sQ I I2 := Fm.tr (fh2) (f3)
      refine a_i3 rfl rfl rfl ?_
      refine a_goto rfl ?_
      exact ih2 _ _ _ _ (nI_gt1 (a := 90) (by decide) hj2 c5) ⟨_, rfl, rfl, f3⟩ ⟨rfl, rfl, rfl, nS _, trivial⟩
    · refine a_l3 rfl rfl rfl ?_
      exact a_iret rfl rfl ⟨⟨_, rfl⟩, _, rfl, fh2⟩
theorem q_X5_bitsIn_257 {S : aS} {I : Nat → Nat → Int32} {L : Nat → Nat → Int64} {w1 w2 t : Nat} {x1 : Int32} : Sp S m_X5_bitsIn 13 0 0 [.ref 257, .int x1] (hp I L w1 w2 t) (QE isI (hp I L w1 w2 t)) nX := by
  refine Sp_of ok_X5_bitsIn rfl rfl ?_
  show AW S m_X5_bitsIn 13 _ _ 0 0 0 [some (.ref 257), some (.int x1), none, none] [] (hp I L w1 w2 t)
  refine a_s rfl rfl ?_
  refine a_s2 rfl rfl rfl rfl rfl rfl ?_
  refine a_s rfl rfl ?_
  refine a_s3 rfl rfl rfl rfl rfl rfl ?_
  refine a_cnt (j0 := 0) (fun j ls h => ∃ a0, ls = [some (.ref 257), some (.int x1), some (.int a0), some (.int (nI j))] ∧ h = hp I L w1 w2 t) (by decide) ⟨_, rfl, rfl⟩ ⟨rfl, rfl, rfl, rfl, trivial⟩ ?_
  rintro j4 _ _ hj4 ⟨a0_4, rfl, rfl⟩ ih4
  refine a_l3 rfl rfl rfl ?_
  refine a_l0 rfl rfl rfl ?_
  refine a_geti rfl gfX5_63_5 rfl ?_
  refine a_ic_ge rfl (fun c9 => ?_) (fun c9 => ?_)
  · refine a_l2 rfl rfl rfl ?_
    exact a_iret rfl rfl ⟨⟨_, rfl⟩, rfl⟩
  · refine a_l0 rfl rfl rfl ?_
    refine a_getq rfl gfX5_33_5 rfl (rfl) ?_
    refine a_l3 rfl rfl rfl ?_
    refine a_eSN1 rfl lX5_86 mo_X11_at (sp_X11_at rfl) rfl rfl rfl rfl ?_
    refine a_l1 rfl rfl rfl ?_
    refine a_ic_ne rfl (fun c21 => ?_) (fun c21 => ?_)
    · refine a_i3 rfl rfl rfl ?_
      refine a_goto rfl ?_
      exact ih4 _ _ _ _ c9 ⟨_, rfl, rfl⟩ ⟨rfl, rfl, rfl, nS _, trivial⟩
    · refine a_l2 rfl rfl rfl ?_
      refine a_l3 rfl rfl rfl ?_
      refine a_eSN1 rfl lX5_97 mo_X11_bit (sp_X11_bit) rfl rfl rfl rfl ?_
      refine a_s rfl rfl ?_
      refine a_s2 rfl rfl rfl rfl rfl rfl ?_
      refine a_i3 rfl rfl rfl ?_
      refine a_goto rfl ?_
      exact ih4 _ _ _ _ c9 ⟨_, rfl, rfl⟩ ⟨rfl, rfl, rfl, nS _, trivial⟩
theorem q_X5_daysTillNoneWaits_257_246 {S : aS} {I : Nat → Nat → Int32} {L : Nat → Nat → Int64} {w1 w2 t : Nat} : Sp S m_X5_daysTillNoneWaits 18 0 0 [.ref 257, .ref 246] (hp I L w1 w2 t) (QR (Fm sQ I) isI L w1 w2 t) nX := by
  refine Sp_of ok_X5_daysTillNoneWaits rfl rfl ?_
  show AW S m_X5_daysTillNoneWaits 18 _ _ 0 0 0 [some (.ref 257), some (.ref 246), none] [] (hp I L w1 w2 t)
  refine a_s rfl rfl ?_
  refine a_s2 rfl rfl rfl rfl rfl rfl ?_
  refine a_cnt (j0 := 0) (fun j ls h => ∃ I', ls = [some (.ref 257), some (.ref 246), some (.int (nI j))] ∧ h = hp I' L w1 w2 t ∧ Fm sQ I I') (by decide) ⟨_, rfl, rfl, Fm.rf⟩ ⟨rfl, rfl, rfl, trivial⟩ ?_
  rintro j2 _ _ hj2 ⟨Ih2, rfl, rfl, fh2⟩ ih2
  refine a_l2 rfl rfl rfl ?_
  refine a_s rfl rfl ?_
  refine a_ic_gt rfl (fun c5 => ?_) (fun c5 => ?_)
  · refine a_s rfl rfl ?_
    exact a_iret rfl rfl ⟨⟨_, rfl⟩, _, rfl, fh2⟩
  · refine a_l0 rfl rfl rfl ?_
    refine a_s rfl rfl ?_
    refine a_gV rfl lX5_104 mo_X5_bitsIn (q_X5_bitsIn_257) rfl rfl rfl ⟨5, _, rfl, rfl, rfl⟩ rfl (fun v' h' hv => ?_)
    obtain ⟨⟨v1, rfl⟩, rfl⟩ := hv
    refine a_if_ne rfl (fun c13 => ?_) (fun c13 => ?_)
    · refine a_l0 rfl rfl rfl ?_
      refine a_l1 rfl rfl rfl ?_
      refine a_s rfl rfl ?_
      refine a_gV rfl lX5_144 mo_X5_passDay (q_X5_passDay_257_246 (b2 := false)) rfl rfl rfl ⟨5, _, rfl, rfl, rfl⟩ rfl (fun v' h' hv => ?_)
      obtain ⟨rfl, I3, rfl, f4⟩ := hv
      replace f4 : Fm sQ I I3 := Fm.tr (fh2) (f4)
      refine a_i2 rfl rfl rfl ?_
      refine a_goto rfl ?_
      exact ih2 _ _ _ _ (nI_gt1 (a := 90) (by decide) hj2 c5) ⟨_, rfl, rfl, f4⟩ ⟨rfl, rfl, nS _, trivial⟩
    · refine a_l2 rfl rfl rfl ?_
      exact a_iret rfl rfl ⟨⟨_, rfl⟩, _, rfl, fh2⟩
theorem q_X4_chainOf_235 {S : aS} {I : Nat → Nat → Int32} {L : Nat → Nat → Int64} {w1 w2 t : Nat} {x1 : Int32} : Sp S m_X4_chainOf 13 0 0 [.ref 235, .int x1] (hp I L w1 w2 t) (QE isI (hp I L w1 w2 t)) nX := by
  refine Sp_of ok_X4_chainOf rfl rfl ?_
  show AW S m_X4_chainOf 13 _ _ 0 0 0 [some (.ref 235), some (.int x1), none, none, none] [] (hp I L w1 w2 t)
  refine a_s rfl rfl ?_
  refine a_s2 rfl rfl rfl rfl rfl rfl ?_
  refine a_l0 rfl rfl rfl ?_
  refine a_getq rfl gfX4_9_5 rfl (rfl) ?_
  refine a_l1 rfl rfl rfl ?_
  refine a_eSN1 rfl lX4_15 mo_X11_at (sp_X11_at rfl) rfl rfl rfl rfl ?_
  refine a_s3 rfl rfl rfl rfl rfl rfl ?_
  refine a_s rfl rfl ?_
  refine a_s4 rfl rfl rfl rfl rfl rfl ?_
  refine a_cnt (j0 := 0) (fun j ls h => ∃ a0, ∃ a1, ls = [some (.ref 235), some (.int x1), some (.int a0), some (.int a1), some (.int (nI j))] ∧ h = hp I L w1 w2 t) (by decide) ⟨_, _, rfl, rfl⟩ ⟨rfl, rfl, rfl, rfl, rfl, trivial⟩ ?_
  rintro j14 _ _ hj14 ⟨a0_14, a1_14, rfl, rfl⟩ ih14
  refine a_l4 rfl rfl rfl ?_
  refine a_s rfl rfl ?_
  refine a_ic_ge rfl (fun c18 => ?_) (fun c18 => ?_)
  · refine a_l2 rfl rfl rfl ?_
    exact a_iret rfl rfl ⟨⟨_, rfl⟩, rfl⟩
  · refine a_l3 rfl rfl rfl ?_
    refine a_s rfl rfl ?_
    refine a_ic_eq rfl (fun c23 => ?_) (fun c23 => ?_)
    · refine a_l2 rfl rfl rfl ?_
      exact a_iret rfl rfl ⟨⟨_, rfl⟩, rfl⟩
    · refine a_l2 rfl rfl rfl ?_
      refine a_l3 rfl rfl rfl ?_
      refine a_eSN1 rfl lX4_19 mo_X11_bit (sp_X11_bit) rfl rfl rfl rfl ?_
      refine a_s rfl rfl ?_
      refine a_s2 rfl rfl rfl rfl rfl rfl ?_
      refine a_l0 rfl rfl rfl ?_
      refine a_getq rfl gfX4_9_5 rfl (rfl) ?_
      refine a_l3 rfl rfl rfl ?_
      refine a_eSN1 rfl lX4_15 mo_X11_at (sp_X11_at rfl) rfl rfl rfl rfl ?_
      refine a_s3 rfl rfl rfl rfl rfl rfl ?_
      refine a_i4 rfl rfl rfl ?_
      refine a_goto rfl ?_
      exact ih14 _ _ _ _ c18 ⟨_, _, rfl, rfl⟩ ⟨rfl, rfl, rfl, rfl, nS _, trivial⟩
theorem q_X4_leaningOn_235 {S : aS} {I : Nat → Nat → Int32} {L : Nat → Nat → Int64} {w1 w2 t : Nat} {x1 : Int32} : Sp S m_X4_leaningOn 14 0 0 [.ref 235, .int x1] (hp I L w1 w2 t) (QE isI (hp I L w1 w2 t)) nX := by
  refine Sp_of ok_X4_leaningOn rfl rfl ?_
  show AW S m_X4_leaningOn 14 _ _ 0 0 0 [some (.ref 235), some (.int x1), none, none] [] (hp I L w1 w2 t)
  refine a_s rfl rfl ?_
  refine a_s2 rfl rfl rfl rfl rfl rfl ?_
  refine a_s rfl rfl ?_
  refine a_s3 rfl rfl rfl rfl rfl rfl ?_
  refine a_cnt (j0 := 0) (fun j ls h => ∃ a0, ls = [some (.ref 235), some (.int x1), some (.int a0), some (.int (nI j))] ∧ h = hp I L w1 w2 t) (by decide) ⟨_, rfl, rfl⟩ ⟨rfl, rfl, rfl, rfl, trivial⟩ ?_
  rintro j4 _ _ hj4 ⟨a0_4, rfl, rfl⟩ ih4
  refine a_l3 rfl rfl rfl ?_
  refine a_l0 rfl rfl rfl ?_
  refine a_geti rfl gfX4_23_5 rfl ?_
  refine a_ic_ge rfl (fun c9 => ?_) (fun c9 => ?_)
  · refine a_l2 rfl rfl rfl ?_
    exact a_iret rfl rfl ⟨⟨_, rfl⟩, rfl⟩
  · refine a_l0 rfl rfl rfl ?_
    refine a_l3 rfl rfl rfl ?_
    refine a_gS rfl lX4_27 mo_X4_chainOf (q_X4_chainOf_235) rfl rfl rfl rfl (fun v' h' hv => ?_)
    obtain ⟨⟨v1, rfl⟩, rfl⟩ := hv
    refine a_l1 rfl rfl rfl ?_
    refine a_eSN1 rfl lX4_33 mo_X11_has (sp_X11_has) rfl rfl rfl rfl ?_
    refine a_if_eq rfl (fun c21 => ?_) (fun c21 => ?_)
    · refine a_i3 rfl rfl rfl ?_
      refine a_goto rfl ?_
      exact ih4 _ _ _ _ c9 ⟨_, rfl, rfl⟩ ⟨rfl, rfl, rfl, nS _, trivial⟩
    · refine a_l2 rfl rfl rfl ?_
      refine a_l3 rfl rfl rfl ?_
      refine a_eSN1 rfl lX4_19 mo_X11_bit (sp_X11_bit) rfl rfl rfl rfl ?_
      refine a_s rfl rfl ?_
      refine a_s2 rfl rfl rfl rfl rfl rfl ?_
      refine a_i3 rfl rfl rfl ?_
      refine a_goto rfl ?_
      exact ih4 _ _ _ _ c9 ⟨_, rfl, rfl⟩ ⟨rfl, rfl, rfl, nS _, trivial⟩
theorem q_X4_ringBits_235 {S : aS} {I : Nat → Nat → Int32} {L : Nat → Nat → Int64} {w1 w2 t : Nat} : Sp S m_X4_ringBits 14 0 0 [.ref 235] (hp I L w1 w2 t) (QE isI (hp I L w1 w2 t)) nX := by
  refine Sp_of ok_X4_ringBits rfl rfl ?_
  show AW S m_X4_ringBits 14 _ _ 0 0 0 [some (.ref 235), none, none] [] (hp I L w1 w2 t)
  refine a_s rfl rfl ?_
  refine a_s1 rfl rfl rfl rfl rfl rfl ?_
  refine a_s rfl rfl ?_
  refine a_s2 rfl rfl rfl rfl rfl rfl ?_
  refine a_cnt (j0 := 0) (fun j ls h => ∃ a0, ls = [some (.ref 235), some (.int a0), some (.int (nI j))] ∧ h = hp I L w1 w2 t) (by decide) ⟨_, rfl, rfl⟩ ⟨rfl, rfl, rfl, trivial⟩ ?_
  rintro j4 _ _ hj4 ⟨a0_4, rfl, rfl⟩ ih4
  refine a_l2 rfl rfl rfl ?_
  refine a_l0 rfl rfl rfl ?_
  refine a_geti rfl gfX4_23_5 rfl ?_
  refine a_ic_ge rfl (fun c9 => ?_) (fun c9 => ?_)
  · refine a_l1 rfl rfl rfl ?_
    exact a_iret rfl rfl ⟨⟨_, rfl⟩, rfl⟩
  · refine a_l0 rfl rfl rfl ?_
    refine a_l2 rfl rfl rfl ?_
    refine a_gS rfl lX4_27 mo_X4_chainOf (q_X4_chainOf_235) rfl rfl rfl rfl (fun v' h' hv => ?_)
    obtain ⟨⟨v1, rfl⟩, rfl⟩ := hv
    refine a_l2 rfl rfl rfl ?_
    refine a_eSN1 rfl lX4_33 mo_X11_has (sp_X11_has) rfl rfl rfl rfl ?_
    refine a_if_eq rfl (fun c21 => ?_) (fun c21 => ?_)
    · refine a_i2 rfl rfl rfl ?_
      refine a_goto rfl ?_
      exact ih4 _ _ _ _ c9 ⟨_, rfl, rfl⟩ ⟨rfl, rfl, nS _, trivial⟩
    · refine a_l1 rfl rfl rfl ?_
      refine a_l2 rfl rfl rfl ?_
      refine a_eSN1 rfl lX4_19 mo_X11_bit (sp_X11_bit) rfl rfl rfl rfl ?_
      refine a_s rfl rfl ?_
      refine a_s1 rfl rfl rfl rfl rfl rfl ?_
      refine a_i2 rfl rfl rfl ?_
      refine a_goto rfl ?_
      exact ih4 _ _ _ _ c9 ⟨_, rfl, rfl⟩ ⟨rfl, rfl, nS _, trivial⟩
theorem q_X5_isWaiting_235 {S : aS} {I : Nat → Nat → Int32} {L : Nat → Nat → Int64} {w1 w2 t : Nat} {x1 : Int32} : Sp S m_X5_isWaiting 13 0 0 [.ref 235, .int x1] (hp I L w1 w2 t) (QE isZ (hp I L w1 w2 t)) nX := by
  refine Sp_of ok_X5_isWaiting rfl rfl ?_
  show AW S m_X5_isWaiting 13 _ _ 0 0 0 [some (.ref 235), some (.int x1)] [] (hp I L w1 w2 t)
  refine a_l1 rfl rfl rfl ?_
  refine a_if_lt rfl (fun c1 => ?_) (fun c1 => ?_)
  · refine a_s rfl rfl ?_
    exact a_zret rfl rfl rfl ⟨⟨false, rfl⟩, rfl⟩
  · refine a_l1 rfl rfl rfl ?_
    refine a_l0 rfl rfl rfl ?_
    refine a_geti rfl gfX5_63_5 rfl ?_
    refine a_ic_ge rfl (fun c9 => ?_) (fun c9 => ?_)
    · refine a_s rfl rfl ?_
      exact a_zret rfl rfl rfl ⟨⟨false, rfl⟩, rfl⟩
    · refine a_l0 rfl rfl rfl ?_
      refine a_getq rfl gfX5_33_5 rfl (rfl) ?_
      refine a_l1 rfl rfl rfl ?_
      refine a_eSN1 rfl lX5_86 mo_X11_at (sp_X11_at rfl) rfl rfl rfl rfl ?_
      refine a_if_ne rfl (fun c20 => ?_) (fun c20 => ?_)
      · refine a_s rfl rfl ?_
        exact a_zret rfl rfl rfl ⟨⟨false, rfl⟩, rfl⟩
      · refine a_s rfl rfl ?_
        refine a_goto rfl ?_
        exact a_zret rfl rfl rfl ⟨⟨true, rfl⟩, rfl⟩
theorem q_X5_bitsIn_235 {S : aS} {I : Nat → Nat → Int32} {L : Nat → Nat → Int64} {w1 w2 t : Nat} {x1 : Int32} : Sp S m_X5_bitsIn 13 0 0 [.ref 235, .int x1] (hp I L w1 w2 t) (QE isI (hp I L w1 w2 t)) nX := by
  refine Sp_of ok_X5_bitsIn rfl rfl ?_
  show AW S m_X5_bitsIn 13 _ _ 0 0 0 [some (.ref 235), some (.int x1), none, none] [] (hp I L w1 w2 t)
  refine a_s rfl rfl ?_
  refine a_s2 rfl rfl rfl rfl rfl rfl ?_
  refine a_s rfl rfl ?_
  refine a_s3 rfl rfl rfl rfl rfl rfl ?_
  refine a_cnt (j0 := 0) (fun j ls h => ∃ a0, ls = [some (.ref 235), some (.int x1), some (.int a0), some (.int (nI j))] ∧ h = hp I L w1 w2 t) (by decide) ⟨_, rfl, rfl⟩ ⟨rfl, rfl, rfl, rfl, trivial⟩ ?_
  rintro j4 _ _ hj4 ⟨a0_4, rfl, rfl⟩ ih4
  refine a_l3 rfl rfl rfl ?_
  refine a_l0 rfl rfl rfl ?_
  refine a_geti rfl gfX5_63_5 rfl ?_
  refine a_ic_ge rfl (fun c9 => ?_) (fun c9 => ?_)
  · refine a_l2 rfl rfl rfl ?_
    exact a_iret rfl rfl ⟨⟨_, rfl⟩, rfl⟩
  · refine a_l0 rfl rfl rfl ?_
    refine a_getq rfl gfX5_33_5 rfl (rfl) ?_
    refine a_l3 rfl rfl rfl ?_
    refine a_eSN1 rfl lX5_86 mo_X11_at (sp_X11_at rfl) rfl rfl rfl rfl ?_
    refine a_l1 rfl rfl rfl ?_
    refine a_ic_ne rfl (fun c21 => ?_) (fun c21 => ?_)
    · refine a_i3 rfl rfl rfl ?_
      refine a_goto rfl ?_
      exact ih4 _ _ _ _ c9 ⟨_, rfl, rfl⟩ ⟨rfl, rfl, rfl, nS _, trivial⟩
    · refine a_l2 rfl rfl rfl ?_
      refine a_l3 rfl rfl rfl ?_
      refine a_eSN1 rfl lX5_97 mo_X11_bit (sp_X11_bit) rfl rfl rfl rfl ?_
      refine a_s rfl rfl ?_
      refine a_s2 rfl rfl rfl rfl rfl rfl ?_
      refine a_i3 rfl rfl rfl ?_
      refine a_goto rfl ?_
      exact ih4 _ _ _ _ c9 ⟨_, rfl, rfl⟩ ⟨rfl, rfl, rfl, nS _, trivial⟩
theorem q_X4_hoursOf_235 {S : aS} {I : Nat → Nat → Int32} {L : Nat → Nat → Int64} {w1 w2 t : Nat} {x1 : Int32} : Sp S m_X4_hoursOf 15 0 0 [.ref 235, .int x1] (hp I L w1 w2 t) (QE isI (hp I L w1 w2 t)) nX := by
  refine Sp_of ok_X4_hoursOf rfl rfl ?_
  show AW S m_X4_hoursOf 15 _ _ 0 0 0 [some (.ref 235), some (.int x1), none] [] (hp I L w1 w2 t)
  refine a_l0 rfl rfl rfl ?_
  refine a_gS rfl lX4_50 mo_X4_ringBits (q_X4_ringBits_235) rfl rfl rfl rfl (fun v' h' hv => ?_)
  obtain ⟨⟨v1, rfl⟩, rfl⟩ := hv
  refine a_l0 rfl rfl rfl ?_
  refine a_s rfl rfl ?_
  refine a_gV rfl lX4_47 mo_X5_bitsIn (q_X5_bitsIn_235) rfl rfl rfl ⟨5, _, rfl, rfl, rfl⟩ rfl (fun v' h' hv => ?_)
  obtain ⟨⟨v2, rfl⟩, rfl⟩ := hv
  refine a_s rfl rfl ?_
  refine a_s2 rfl rfl rfl rfl rfl rfl ?_
  refine a_l1 rfl rfl rfl ?_
  refine a_l2 rfl rfl rfl ?_
  refine a_s rfl rfl ?_
  refine a_if_eq rfl (fun c14 => ?_) (fun c14 => ?_)
  · refine a_l0 rfl rfl rfl ?_
    refine a_getq rfl gfX4_54_5 rfl (rfl) ?_
    refine a_l1 rfl rfl rfl ?_
    refine a_eSN1 rfl lX4_57 mo_X11_sumOver (sp_X11_sumOver rfl) rfl rfl rfl rfl ?_
    exact a_iret rfl rfl ⟨⟨_, rfl⟩, rfl⟩
  · refine a_s rfl rfl ?_
    refine a_goto rfl ?_
    exact a_iret rfl rfl ⟨⟨_, rfl⟩, rfl⟩
theorem q_X4_hoursTill_235 {S : aS} {I : Nat → Nat → Int32} {L : Nat → Nat → Int64} {w1 w2 t : Nat} {x1 : Int32} : Sp S m_X4_hoursTill 16 0 0 [.ref 235, .int x1] (hp I L w1 w2 t) (QE isI (hp I L w1 w2 t)) nX := by
  refine Sp_of ok_X4_hoursTill rfl rfl ?_
  show AW S m_X4_hoursTill 16 _ _ 0 0 0 [some (.ref 235), some (.int x1)] [] (hp I L w1 w2 t)
  refine a_l0 rfl rfl rfl ?_
  refine a_l1 rfl rfl rfl ?_
  refine a_gV rfl lX4_37 mo_X5_isWaiting (q_X5_isWaiting_235) rfl rfl rfl ⟨5, _, rfl, rfl, rfl⟩ rfl (fun v' h' hv => ?_)
  obtain ⟨⟨v1, rfl⟩, rfl⟩ := hv
  refine a_if_eq rfl (fun c5 => ?_) (fun c5 => ?_)
  · refine a_s rfl rfl ?_
    exact a_iret rfl rfl ⟨⟨_, rfl⟩, rfl⟩
  · refine a_l0 rfl rfl rfl ?_
    refine a_l1 rfl rfl rfl ?_
    refine a_eSN1 rfl lX4_19 mo_X11_bit (sp_X11_bit) rfl rfl rfl rfl ?_
    refine a_l0 rfl rfl rfl ?_
    refine a_l1 rfl rfl rfl ?_
    refine a_gS rfl lX4_27 mo_X4_chainOf (q_X4_chainOf_235) rfl rfl rfl rfl (fun v' h' hv => ?_)
    obtain ⟨⟨v2, rfl⟩, rfl⟩ := hv
    refine a_s rfl rfl ?_
    refine a_gS rfl lX4_41 mo_X4_hoursOf (q_X4_hoursOf_235) rfl rfl rfl rfl (fun v' h' hv => ?_)
    obtain ⟨⟨v3, rfl⟩, rfl⟩ := hv
    refine a_goto rfl ?_
    exact a_iret rfl rfl ⟨⟨_, rfl⟩, rfl⟩
theorem q_X5_olderThan_235 {S : aS} {I : Nat → Nat → Int32} {L : Nat → Nat → Int64} {w1 w2 t : Nat} {x1 : Int32} : Sp S m_X5_olderThan 14 0 0 [.ref 235, .int x1] (hp I L w1 w2 t) (QE isI (hp I L w1 w2 t)) nX := by
  refine Sp_of ok_X5_olderThan rfl rfl ?_
  show AW S m_X5_olderThan 14 _ _ 0 0 0 [some (.ref 235), some (.int x1), none, none] [] (hp I L w1 w2 t)
  refine a_s rfl rfl ?_
  refine a_s2 rfl rfl rfl rfl rfl rfl ?_
  refine a_s rfl rfl ?_
  refine a_s3 rfl rfl rfl rfl rfl rfl ?_
  refine a_cnt (j0 := 0) (fun j ls h => ∃ a0, ls = [some (.ref 235), some (.int x1), some (.int a0), some (.int (nI j))] ∧ h = hp I L w1 w2 t) (by decide) ⟨_, rfl, rfl⟩ ⟨rfl, rfl, rfl, rfl, trivial⟩ ?_
  rintro j4 _ _ hj4 ⟨a0_4, rfl, rfl⟩ ih4
  refine a_l3 rfl rfl rfl ?_
  refine a_l0 rfl rfl rfl ?_
  refine a_geti rfl gfX5_63_5 rfl ?_
  refine a_ic_ge rfl (fun c9 => ?_) (fun c9 => ?_)
  · refine a_l2 rfl rfl rfl ?_
    exact a_iret rfl rfl ⟨⟨_, rfl⟩, rfl⟩
  · refine a_l0 rfl rfl rfl ?_
    refine a_l3 rfl rfl rfl ?_
    refine a_gV rfl lX5_90 mo_X5_isWaiting (q_X5_isWaiting_235) rfl rfl rfl ⟨5, _, rfl, rfl, rfl⟩ rfl (fun v' h' hv => ?_)
    obtain ⟨⟨v1, rfl⟩, rfl⟩ := hv
    refine a_if_eq rfl (fun c17 => ?_) (fun c17 => ?_)
    · refine a_i3 rfl rfl rfl ?_
      refine a_goto rfl ?_
      exact ih4 _ _ _ _ c9 ⟨_, rfl, rfl⟩ ⟨rfl, rfl, rfl, nS _, trivial⟩
    · refine a_l0 rfl rfl rfl ?_
      refine a_getq rfl gfX5_24_5 rfl (rfl) ?_
      refine a_l3 rfl rfl rfl ?_
      refine a_eSN1 rfl lX5_86 mo_X11_at (sp_X11_at rfl) rfl rfl rfl rfl ?_
      refine a_l1 rfl rfl rfl ?_
      refine a_ic_le rfl (fun c29 => ?_) (fun c29 => ?_)
      · refine a_i3 rfl rfl rfl ?_
        refine a_goto rfl ?_
        exact ih4 _ _ _ _ c9 ⟨_, rfl, rfl⟩ ⟨rfl, rfl, rfl, nS _, trivial⟩
      · refine a_l2 rfl rfl rfl ?_
        refine a_l3 rfl rfl rfl ?_
        refine a_eSN1 rfl lX5_97 mo_X11_bit (sp_X11_bit) rfl rfl rfl rfl ?_
        refine a_s rfl rfl ?_
        refine a_s2 rfl rfl rfl rfl rfl rfl ?_
        refine a_i3 rfl rfl rfl ?_
        refine a_goto rfl ?_
        exact ih4 _ _ _ _ c9 ⟨_, rfl, rfl⟩ ⟨rfl, rfl, rfl, nS _, trivial⟩
theorem q_X4_hoursTillYoung_235 {S : aS} {I : Nat → Nat → Int32} {L : Nat → Nat → Int64} {w1 w2 t : Nat} {x1 : Int32} : Sp S m_X4_hoursTillYoung 16 0 0 [.ref 235, .int x1] (hp I L w1 w2 t) (QE isI (hp I L w1 w2 t)) nX := by
  refine Sp_of ok_X4_hoursTillYoung rfl rfl ?_
  show AW S m_X4_hoursTillYoung 16 _ _ 0 0 0 [some (.ref 235), some (.int x1), none, none, none] [] (hp I L w1 w2 t)
  refine a_l0 rfl rfl rfl ?_
  refine a_l1 rfl rfl rfl ?_
  refine a_gV rfl lX4_44 mo_X5_olderThan (q_X5_olderThan_235) rfl rfl rfl ⟨5, _, rfl, rfl, rfl⟩ rfl (fun v' h' hv => ?_)
  obtain ⟨⟨v1, rfl⟩, rfl⟩ := hv
  refine a_s2 rfl rfl rfl rfl rfl rfl ?_
  refine a_l2 rfl rfl rfl ?_
  refine a_s3 rfl rfl rfl rfl rfl rfl ?_
  refine a_s rfl rfl ?_
  refine a_s4 rfl rfl rfl rfl rfl rfl ?_
  refine a_cnt (j0 := 0) (fun j ls h => ∃ a0, ls = [some (.ref 235), some (.int x1), some (.int v1), some (.int a0), some (.int (nI j))] ∧ h = hp I L w1 w2 t) (by decide) ⟨_, rfl, rfl⟩ ⟨rfl, rfl, rfl, rfl, rfl, trivial⟩ ?_
  rintro j11 _ _ hj11 ⟨a0_11, rfl, rfl⟩ ih11
  refine a_l4 rfl rfl rfl ?_
  refine a_l0 rfl rfl rfl ?_
  refine a_geti rfl gfX4_23_5 rfl ?_
  refine a_ic_ge rfl (fun c17 => ?_) (fun c17 => ?_)
  · refine a_l0 rfl rfl rfl ?_
    refine a_l3 rfl rfl rfl ?_
    refine a_l0 rfl rfl rfl ?_
    refine a_s rfl rfl ?_
    refine a_gV rfl lX4_47 mo_X5_bitsIn (q_X5_bitsIn_235) rfl rfl rfl ⟨5, _, rfl, rfl, rfl⟩ rfl (fun v' h' hv => ?_)
    obtain ⟨⟨v2, rfl⟩, rfl⟩ := hv
    refine a_s rfl rfl ?_
    refine a_s rfl rfl ?_
    refine a_s rfl rfl ?_
    refine a_gS rfl lX4_41 mo_X4_hoursOf (q_X4_hoursOf_235) rfl rfl rfl rfl (fun v' h' hv => ?_)
    obtain ⟨⟨v3, rfl⟩, rfl⟩ := hv
    exact a_iret rfl rfl ⟨⟨_, rfl⟩, rfl⟩
  · refine a_l2 rfl rfl rfl ?_
    refine a_l4 rfl rfl rfl ?_
    refine a_eSN1 rfl lX4_33 mo_X11_has (sp_X11_has) rfl rfl rfl rfl ?_
    refine a_if_eq rfl (fun c26 => ?_) (fun c26 => ?_)
    · refine a_i4 rfl rfl rfl ?_
      refine a_goto rfl ?_
      exact ih11 _ _ _ _ c17 ⟨_, rfl, rfl⟩ ⟨rfl, rfl, rfl, rfl, nS _, trivial⟩
    · refine a_l3 rfl rfl rfl ?_
      refine a_l0 rfl rfl rfl ?_
      refine a_l4 rfl rfl rfl ?_
      refine a_gS rfl lX4_27 mo_X4_chainOf (q_X4_chainOf_235) rfl rfl rfl rfl (fun v' h' hv => ?_)
      obtain ⟨⟨v4, rfl⟩, rfl⟩ := hv
      refine a_s rfl rfl ?_
      refine a_s3 rfl rfl rfl rfl rfl rfl ?_
      refine a_i4 rfl rfl rfl ?_
      refine a_goto rfl ?_
      exact ih11 _ _ _ _ c17 ⟨_, rfl, rfl⟩ ⟨rfl, rfl, rfl, rfl, nS _, trivial⟩
theorem q_X5_ownedBy_235 {S : aS} {I : Nat → Nat → Int32} {L : Nat → Nat → Int64} {w1 w2 t : Nat} {x1 : Int32} : Sp S m_X5_ownedBy 13 0 0 [.ref 235, .int x1] (hp I L w1 w2 t) (QE isI (hp I L w1 w2 t)) nX := by
  refine Sp_of ok_X5_ownedBy rfl rfl ?_
  show AW S m_X5_ownedBy 13 _ _ 0 0 0 [some (.ref 235), some (.int x1), none, none] [] (hp I L w1 w2 t)
  refine a_s rfl rfl ?_
  refine a_s2 rfl rfl rfl rfl rfl rfl ?_
  refine a_s rfl rfl ?_
  refine a_s3 rfl rfl rfl rfl rfl rfl ?_
  refine a_cnt (j0 := 0) (fun j ls h => ∃ a0, ls = [some (.ref 235), some (.int x1), some (.int a0), some (.int (nI j))] ∧ h = hp I L w1 w2 t) (by decide) ⟨_, rfl, rfl⟩ ⟨rfl, rfl, rfl, rfl, trivial⟩ ?_
  rintro j4 _ _ hj4 ⟨a0_4, rfl, rfl⟩ ih4
  refine a_l3 rfl rfl rfl ?_
  refine a_l0 rfl rfl rfl ?_
  refine a_geti rfl gfX5_63_5 rfl ?_
  refine a_ic_ge rfl (fun c9 => ?_) (fun c9 => ?_)
  · refine a_l2 rfl rfl rfl ?_
    exact a_iret rfl rfl ⟨⟨_, rfl⟩, rfl⟩
  · refine a_l0 rfl rfl rfl ?_
    refine a_getq rfl gfX5_18_5 rfl (rfl) ?_
    refine a_l3 rfl rfl rfl ?_
    refine a_eSN1 rfl lX5_86 mo_X11_at (sp_X11_at rfl) rfl rfl rfl rfl ?_
    refine a_l1 rfl rfl rfl ?_
    refine a_ic_ne rfl (fun c21 => ?_) (fun c21 => ?_)
    · refine a_i3 rfl rfl rfl ?_
      refine a_goto rfl ?_
      exact ih4 _ _ _ _ c9 ⟨_, rfl, rfl⟩ ⟨rfl, rfl, rfl, nS _, trivial⟩
    · refine a_l2 rfl rfl rfl ?_
      refine a_l3 rfl rfl rfl ?_
      refine a_eSN1 rfl lX5_97 mo_X11_bit (sp_X11_bit) rfl rfl rfl rfl ?_
      refine a_s rfl rfl ?_
      refine a_s2 rfl rfl rfl rfl rfl rfl ?_
      refine a_i3 rfl rfl rfl ?_
      refine a_goto rfl ?_
      exact ih4 _ _ _ _ c9 ⟨_, rfl, rfl⟩ ⟨rfl, rfl, rfl, nS _, trivial⟩
theorem q_X5_loadOf_235 {S : aS} {I : Nat → Nat → Int32} {L : Nat → Nat → Int64} {w1 w2 t : Nat} {x1 : Int32} : Sp S m_X5_loadOf 14 0 0 [.ref 235, .int x1] (hp I L w1 w2 t) (QE isI (hp I L w1 w2 t)) nX := by
  refine Sp_of ok_X5_loadOf rfl rfl ?_
  show AW S m_X5_loadOf 14 _ _ 0 0 0 [some (.ref 235), some (.int x1)] [] (hp I L w1 w2 t)
  refine a_l0 rfl rfl rfl ?_
  refine a_getq rfl gfX5_21_5 rfl (rfl) ?_
  refine a_l0 rfl rfl rfl ?_
  refine a_s rfl rfl ?_
  refine a_gV rfl lX5_104 mo_X5_bitsIn (q_X5_bitsIn_235) rfl rfl rfl ⟨5, _, rfl, rfl, rfl⟩ rfl (fun v' h' hv => ?_)
  obtain ⟨⟨v1, rfl⟩, rfl⟩ := hv
  refine a_l0 rfl rfl rfl ?_
  refine a_l1 rfl rfl rfl ?_
  refine a_gV rfl lX5_107 mo_X5_ownedBy (q_X5_ownedBy_235) rfl rfl rfl ⟨5, _, rfl, rfl, rfl⟩ rfl (fun v' h' hv => ?_)
  obtain ⟨⟨v2, rfl⟩, rfl⟩ := hv
  refine a_s rfl rfl ?_
  refine a_eSN1 rfl lX5_110 mo_X11_sumOver (sp_X11_sumOver rfl) rfl rfl rfl rfl ?_
  exact a_iret rfl rfl ⟨⟨_, rfl⟩, rfl⟩
theorem q_X0_gainOf_235 {S : aS} {I : Nat → Nat → Int32} {L : Nat → Nat → Int64} {w1 w2 t : Nat} {x1 x2 : Int32} : Sp S m_X0_gainOf 15 0 0 [.ref 235, .int x1, .int x2] (hp I L w1 w2 t) (QE isI (hp I L w1 w2 t)) nX := by
  refine Sp_of ok_X0_gainOf rfl rfl ?_
  show AW S m_X0_gainOf 15 _ _ 0 0 0 [some (.ref 235), some (.int x1), some (.int x2), none, none] [] (hp I L w1 w2 t)
  refine a_l0 rfl rfl rfl ?_
  refine a_l1 rfl rfl rfl ?_
  refine a_gV rfl lX0_91 mo_X5_loadOf (q_X5_loadOf_235) rfl rfl rfl ⟨5, _, rfl, rfl, rfl⟩ rfl (fun v' h' hv => ?_)
  obtain ⟨⟨v1, rfl⟩, rfl⟩ := hv
  refine a_s3 rfl rfl rfl rfl rfl rfl ?_
  refine a_l0 rfl rfl rfl ?_
  refine a_getq rfl gfX0_94_5 rfl (rfl) ?_
  refine a_l1 rfl rfl rfl ?_
  refine a_eSN1 rfl lX0_52 mo_X11_at (sp_X11_at rfl) rfl rfl rfl rfl ?_
  refine a_s4 rfl rfl rfl rfl rfl rfl ?_
  refine a_l3 rfl rfl rfl ?_
  refine a_l4 rfl rfl rfl ?_
  refine a_eSN1 rfl lX0_97 mo_X11_needsOf (sp_X11_needsOf) rfl rfl rfl rfl ?_
  refine a_l3 rfl rfl rfl ?_
  refine a_l2 rfl rfl rfl ?_
  refine a_s rfl rfl ?_
  refine a_l4 rfl rfl rfl ?_
  refine a_eSN1 rfl lX0_97 mo_X11_needsOf (sp_X11_needsOf) rfl rfl rfl rfl ?_
  refine a_s rfl rfl ?_
  exact a_iret rfl rfl ⟨⟨_, rfl⟩, rfl⟩
theorem q_X0_firstSwap_235 {S : aS} {I : Nat → Nat → Int32} {L : Nat → Nat → Int64} {w1 w2 t : Nat} {x1 x2 : Int32} : Sp S m_X0_firstSwap 16 0 0 [.ref 235, .int x1, .int x2] (hp I L w1 w2 t) (QE isI (hp I L w1 w2 t)) nX := by
  refine Sp_of ok_X0_firstSwap rfl rfl ?_
  show AW S m_X0_firstSwap 16 _ _ 0 0 0 [some (.ref 235), some (.int x1), some (.int x2), none, none, none, none, none, none, none, none] [] (hp I L w1 w2 t)
  refine a_l0 rfl rfl rfl ?_
  refine a_s rfl rfl ?_
  refine a_gV rfl lX0_59 mo_X5_bitsIn (q_X5_bitsIn_235) rfl rfl rfl ⟨5, _, rfl, rfl, rfl⟩ rfl (fun v' h' hv => ?_)
  obtain ⟨⟨v1, rfl⟩, rfl⟩ := hv
  refine a_s3 rfl rfl rfl rfl rfl rfl ?_
  refine a_l3 rfl rfl rfl ?_
  refine a_l0 rfl rfl rfl ?_
  refine a_l1 rfl rfl rfl ?_
  refine a_gV rfl lX0_84 mo_X5_ownedBy (q_X5_ownedBy_235) rfl rfl rfl ⟨5, _, rfl, rfl, rfl⟩ rfl (fun v' h' hv => ?_)
  obtain ⟨⟨v2, rfl⟩, rfl⟩ := hv
  refine a_s rfl rfl ?_
  refine a_s4 rfl rfl rfl rfl rfl rfl ?_
  refine a_l3 rfl rfl rfl ?_
  refine a_l0 rfl rfl rfl ?_
  refine a_l2 rfl rfl rfl ?_
  refine a_gV rfl lX0_84 mo_X5_ownedBy (q_X5_ownedBy_235) rfl rfl rfl ⟨5, _, rfl, rfl, rfl⟩ rfl (fun v' h' hv => ?_)
  obtain ⟨⟨v3, rfl⟩, rfl⟩ := hv
  refine a_s rfl rfl ?_
  refine a_s5 rfl rfl rfl rfl rfl rfl ?_
  refine a_s rfl rfl ?_
  refine a_s6 rfl rfl rfl rfl rfl rfl ?_
  refine a_cnt (j0 := 0) (fun j ls h => ∃ a0, ∃ a1, ls = [some (.ref 235), some (.int x1), some (.int x2), some (.int v1), some (.int a0), some (.int a1), some (.int (nI j)), none, none, none, none] ∧ h = hp I L w1 w2 t) (by decide) ⟨_, _, rfl, rfl⟩ ⟨rfl, rfl, rfl, rfl, rfl, rfl, rfl, trivial⟩ ?_
  rintro j27 _ _ hj27 ⟨a0_27, a1_27, rfl, rfl⟩ ih27
  refine a_l6 rfl rfl rfl ?_
  refine a_l0 rfl rfl rfl ?_
  refine a_geti rfl gfX0_24_5 rfl ?_
  refine a_ic_ge rfl (fun c33 => ?_) (fun c33 => ?_)
  · refine a_s rfl rfl ?_
    exact a_iret rfl rfl ⟨⟨_, rfl⟩, rfl⟩
  · refine a_s rfl rfl ?_
    refine a_s7 rfl rfl rfl rfl rfl rfl ?_
    refine a_cnt (j0 := 0) (fun j ls h => ls = [some (.ref 235), some (.int x1), some (.int x2), some (.int v1), some (.int a0_27), some (.int a1_27), some (.int (nI j27)), some (.int (nI j)), none, none, none] ∧ h = hp I L w1 w2 t) (by decide) ⟨rfl, rfl⟩ ⟨rfl, rfl, rfl, rfl, rfl, rfl, rfl, rfl, trivial⟩ ?_
    rintro j39 _ _ hj39 ⟨rfl, rfl⟩ ih39
    refine a_l7 rfl rfl rfl ?_
    refine a_l0 rfl rfl rfl ?_
    refine a_geti rfl gfX0_24_5 rfl ?_
    refine a_ic_ge rfl (fun c45 => ?_) (fun c45 => ?_)
    · refine a_i6 rfl rfl rfl ?_
      refine a_goto rfl ?_
      exact ih27 _ _ _ _ c33 ⟨_, _, rfl, rfl⟩ ⟨rfl, rfl, rfl, rfl, rfl, rfl, nS _, trivial⟩
    · refine a_l4 rfl rfl rfl ?_
      refine a_l6 rfl rfl rfl ?_
      refine a_eSN1 rfl lX0_45 mo_X11_has (sp_X11_has) rfl rfl rfl rfl ?_
      refine a_if_eq rfl (fun c55 => ?_) (fun c55 => ?_)
      · refine a_i7 rfl rfl rfl ?_
        refine a_goto rfl ?_
        exact ih39 _ _ _ _ c45 ⟨rfl, rfl⟩ ⟨rfl, rfl, rfl, rfl, rfl, rfl, rfl, nS _, trivial⟩
      · refine a_l5 rfl rfl rfl ?_
        refine a_l7 rfl rfl rfl ?_
        refine a_eSN1 rfl lX0_45 mo_X11_has (sp_X11_has) rfl rfl rfl rfl ?_
        refine a_if_eq rfl (fun c65 => ?_) (fun c65 => ?_)
        · refine a_i7 rfl rfl rfl ?_
          refine a_goto rfl ?_
          exact ih39 _ _ _ _ c45 ⟨rfl, rfl⟩ ⟨rfl, rfl, rfl, rfl, rfl, rfl, rfl, nS _, trivial⟩
        · refine a_l0 rfl rfl rfl ?_
          refine a_getq rfl gfX0_68_5 rfl (rfl) ?_
          refine a_l7 rfl rfl rfl ?_
          refine a_eSN1 rfl lX0_52 mo_X11_at (sp_X11_at rfl) rfl rfl rfl rfl ?_
          refine a_l0 rfl rfl rfl ?_
          refine a_getq rfl gfX0_68_5 rfl (rfl) ?_
          refine a_l6 rfl rfl rfl ?_
          refine a_eSN1 rfl lX0_52 mo_X11_at (sp_X11_at rfl) rfl rfl rfl rfl ?_
          refine a_s rfl rfl ?_
          refine a_s8 rfl rfl rfl rfl rfl rfl ?_
          refine a_l0 rfl rfl rfl ?_
          refine a_l1 rfl rfl rfl ?_
          refine a_l8 rfl rfl rfl ?_
          refine a_gS rfl lX0_87 mo_X0_gainOf (q_X0_gainOf_235) rfl rfl rfl rfl (fun v' h' hv => ?_)
          obtain ⟨⟨v4, rfl⟩, rfl⟩ := hv
          refine a_s9 rfl rfl rfl rfl rfl rfl ?_
          refine a_l0 rfl rfl rfl ?_
          refine a_l2 rfl rfl rfl ?_
          refine a_l8 rfl rfl rfl ?_
          refine a_s rfl rfl ?_
          refine a_gS rfl lX0_87 mo_X0_gainOf (q_X0_gainOf_235) rfl rfl rfl rfl (fun v' h' hv => ?_)
          obtain ⟨⟨v5, rfl⟩, rfl⟩ := hv
          refine a_s10 rfl rfl rfl rfl rfl rfl ?_
          refine a_l9 rfl rfl rfl ?_
          refine a_if_lt rfl (fun c110 => ?_) (fun c110 => ?_)
          · refine a_i7 rfl rfl rfl ?_
            refine a_goto rfl ?_
            exact ih39 _ _ _ _ c45 ⟨rfl, rfl⟩ ⟨rfl, rfl, rfl, rfl, rfl, rfl, rfl, nS _, trivial⟩
          · refine a_l10 rfl rfl rfl ?_
            refine a_if_lt rfl (fun c115 => ?_) (fun c115 => ?_)
            · refine a_i7 rfl rfl rfl ?_
              refine a_goto rfl ?_
              exact ih39 _ _ _ _ c45 ⟨rfl, rfl⟩ ⟨rfl, rfl, rfl, rfl, rfl, rfl, rfl, nS _, trivial⟩
            · refine a_l9 rfl rfl rfl ?_
              refine a_l10 rfl rfl rfl ?_
              refine a_s rfl rfl ?_
              refine a_if_le rfl (fun c123 => ?_) (fun c123 => ?_)
              · refine a_i7 rfl rfl rfl ?_
                refine a_goto rfl ?_
                exact ih39 _ _ _ _ c45 ⟨rfl, rfl⟩ ⟨rfl, rfl, rfl, rfl, rfl, rfl, rfl, nS _, trivial⟩
              · refine a_s rfl rfl ?_
                refine a_l6 rfl rfl rfl ?_
                refine a_s rfl rfl ?_
                refine a_l7 rfl rfl rfl ?_
                refine a_s rfl rfl ?_
                exact a_iret rfl rfl ⟨⟨_, rfl⟩, rfl⟩
theorem q_X0_payOf {S : aS} {I : Nat → Nat → Int32} {L : Nat → Nat → Int64} {w1 w2 t : Nat} {x0 x1 x2 x3 : Int32} : Sp S m_X0_payOf 12 0 0 [.int x0, .int x1, .int x2, .int x3] (hp I L w1 w2 t) (QE isI (hp I L w1 w2 t)) nX := by
  refine Sp_of ok_X0_payOf rfl rfl ?_
  show AW S m_X0_payOf 12 _ _ 0 0 0 [some (.int x0), some (.int x1), some (.int x2), some (.int x3)] [] (hp I L w1 w2 t)
  refine a_l0 rfl rfl rfl ?_
  refine a_if_ne rfl (fun c1 => ?_) (fun c1 => ?_)
  · refine a_l1 rfl rfl rfl ?_
    refine a_if_ne rfl (fun c21 => ?_) (fun c21 => ?_)
    · refine a_l2 rfl rfl rfl ?_
      refine a_s rfl rfl ?_
      exact a_iret rfl rfl ⟨⟨_, rfl⟩, rfl⟩
    · refine a_l2 rfl rfl rfl ?_
      refine a_goto rfl ?_
      exact a_iret rfl rfl ⟨⟨_, rfl⟩, rfl⟩
  · refine a_l1 rfl rfl rfl ?_
    refine a_if_ne rfl (fun c5 => ?_) (fun c5 => ?_)
    · refine a_l2 rfl rfl rfl ?_
      refine a_l3 rfl rfl rfl ?_
      refine a_s rfl rfl ?_
      exact a_iret rfl rfl ⟨⟨_, rfl⟩, rfl⟩
    · refine a_l2 rfl rfl rfl ?_
      refine a_l3 rfl rfl rfl ?_
      refine a_s rfl rfl ?_
      refine a_idiv rfl (by decide) ?_
      refine a_s rfl rfl ?_
      refine a_goto rfl ?_
      exact a_iret rfl rfl ⟨⟨_, rfl⟩, rfl⟩
theorem q_X0_isBest {S : aS} {I : Nat → Nat → Int32} {L : Nat → Nat → Int64} {w1 w2 t : Nat} {x0 x1 x2 x3 : Int32} : Sp S m_X0_isBest 13 0 0 [.int x0, .int x1, .int x2, .int x3] (hp I L w1 w2 t) (QE isZ (hp I L w1 w2 t)) nX := by
  refine Sp_of ok_X0_isBest rfl rfl ?_
  show AW S m_X0_isBest 13 _ _ 0 0 0 [some (.int x0), some (.int x1), some (.int x2), some (.int x3)] [] (hp I L w1 w2 t)
  refine a_l0 rfl rfl rfl ?_
  refine a_l1 rfl rfl rfl ?_
  refine a_l2 rfl rfl rfl ?_
  refine a_l3 rfl rfl rfl ?_
  refine a_gS rfl lX0_105 mo_X0_payOf (q_X0_payOf) rfl rfl rfl rfl (fun v' h' hv => ?_)
  obtain ⟨⟨v1, rfl⟩, rfl⟩ := hv
  refine a_s rfl rfl ?_
  refine a_l0 rfl rfl rfl ?_
  refine a_s rfl rfl ?_
  refine a_l1 rfl rfl rfl ?_
  refine a_l2 rfl rfl rfl ?_
  refine a_l3 rfl rfl rfl ?_
  refine a_gS rfl lX0_105 mo_X0_payOf (q_X0_payOf) rfl rfl rfl rfl (fun v' h' hv => ?_)
  obtain ⟨⟨v2, rfl⟩, rfl⟩ := hv
  refine a_ic_lt rfl (fun c16 => ?_) (fun c16 => ?_)
  · refine a_s rfl rfl ?_
    exact a_zret rfl rfl rfl ⟨⟨false, rfl⟩, rfl⟩
  · refine a_s rfl rfl ?_
    refine a_goto rfl ?_
    exact a_zret rfl rfl rfl ⟨⟨true, rfl⟩, rfl⟩
theorem q_X0_restingChoices {S : aS} {I : Nat → Nat → Int32} {L : Nat → Nat → Int64} {w1 w2 t : Nat} {x0 x1 : Int32} : Sp S m_X0_restingChoices 14 0 0 [.int x0, .int x1] (hp I L w1 w2 t) (QE isI (hp I L w1 w2 t)) nX := by
  refine Sp_of ok_X0_restingChoices rfl rfl ?_
  show AW S m_X0_restingChoices 14 _ _ 0 0 0 [some (.int x0), some (.int x1), none, none, none] [] (hp I L w1 w2 t)
  refine a_s rfl rfl ?_
  refine a_s2 rfl rfl rfl rfl rfl rfl ?_
  refine a_s rfl rfl ?_
  refine a_s3 rfl rfl rfl rfl rfl rfl ?_
  refine a_cnt (j0 := 0) (fun j ls h => ∃ a0, ls = [some (.int x0), some (.int x1), some (.int a0), some (.int (nI j)), none] ∧ h = hp I L w1 w2 t) (by decide) ⟨_, rfl, rfl⟩ ⟨rfl, rfl, rfl, rfl, trivial⟩ ?_
  rintro j4 _ _ hj4 ⟨a0_4, rfl, rfl⟩ ih4
  refine a_l3 rfl rfl rfl ?_
  refine a_s rfl rfl ?_
  refine a_ic_ge rfl (fun c6 => ?_) (fun c6 => ?_)
  · refine a_l2 rfl rfl rfl ?_
    exact a_iret rfl rfl ⟨⟨_, rfl⟩, rfl⟩
  · refine a_s rfl rfl ?_
    refine a_s4 rfl rfl rfl rfl rfl rfl ?_
    refine a_cnt (j0 := 0) (fun j ls h => ∃ a0, ls = [some (.int x0), some (.int x1), some (.int a0), some (.int (nI j4)), some (.int (nI j))] ∧ h = hp I L w1 w2 t) (by decide) ⟨_, rfl, rfl⟩ ⟨rfl, rfl, rfl, rfl, rfl, trivial⟩ ?_
    rintro j12 _ _ hj12 ⟨a0_12, rfl, rfl⟩ ih12
    refine a_l4 rfl rfl rfl ?_
    refine a_s rfl rfl ?_
    refine a_ic_ge rfl (fun c15 => ?_) (fun c15 => ?_)
    · refine a_i3 rfl rfl rfl ?_
      refine a_goto rfl ?_
      exact ih4 _ _ _ _ c6 ⟨_, rfl, rfl⟩ ⟨rfl, rfl, rfl, nS _, trivial⟩
    · refine a_l3 rfl rfl rfl ?_
      refine a_l4 rfl rfl rfl ?_
      refine a_l0 rfl rfl rfl ?_
      refine a_l1 rfl rfl rfl ?_
      refine a_gS rfl lX0_101 mo_X0_isBest (q_X0_isBest) rfl rfl rfl rfl (fun v' h' hv => ?_)
      obtain ⟨⟨v1, rfl⟩, rfl⟩ := hv
      refine a_if_eq rfl (fun c26 => ?_) (fun c26 => ?_)
      · refine a_i4 rfl rfl rfl ?_
        refine a_goto rfl ?_
        exact ih12 _ _ _ _ c15 ⟨_, rfl, rfl⟩ ⟨rfl, rfl, rfl, rfl, nS _, trivial⟩
      · refine a_l4 rfl rfl rfl ?_
        refine a_l3 rfl rfl rfl ?_
        refine a_l0 rfl rfl rfl ?_
        refine a_l1 rfl rfl rfl ?_
        refine a_gS rfl lX0_101 mo_X0_isBest (q_X0_isBest) rfl rfl rfl rfl (fun v' h' hv => ?_)
        obtain ⟨⟨v2, rfl⟩, rfl⟩ := hv
        refine a_if_eq rfl (fun c37 => ?_) (fun c37 => ?_)
        · refine a_i4 rfl rfl rfl ?_
          refine a_goto rfl ?_
          exact ih12 _ _ _ _ c15 ⟨_, rfl, rfl⟩ ⟨rfl, rfl, rfl, rfl, nS _, trivial⟩
        · refine a_l2 rfl rfl rfl ?_
          refine a_s rfl rfl ?_
          refine a_l3 rfl rfl rfl ?_
          refine a_s rfl rfl ?_
          refine a_l4 rfl rfl rfl ?_
          refine a_s rfl rfl ?_
          refine a_eSN1 rfl lX0_56 mo_X11_bit (sp_X11_bit) rfl rfl rfl rfl ?_
          refine a_s rfl rfl ?_
          refine a_s2 rfl rfl rfl rfl rfl rfl ?_
          refine a_i4 rfl rfl rfl ?_
          refine a_goto rfl ?_
          exact ih12 _ _ _ _ c15 ⟨_, rfl, rfl⟩ ⟨rfl, rfl, rfl, rfl, nS _, trivial⟩
theorem q_X11_fault_200 {S : aS} {I : Nat → Nat → Int32} {L : Nat → Nat → Int64} {w1 w2 t : Nat} : Sp S m_X11_fault 12 0 0 [.ref 200] (hp I L w1 w2 t) (QE isI (hp I L w1 w2 t)) nX := by
  refine Sp_of ok_X11_fault rfl rfl ?_
  show AW S m_X11_fault 12 _ _ 0 0 0 [some (.ref 200)] [] (hp I L w1 w2 t)
  refine a_l0 rfl rfl rfl ?_
  refine a_geti rfl gfX11_30_11 rfl ?_
  exact a_iret rfl rfl ⟨⟨_, rfl⟩, rfl⟩
theorem q_X5_isReady_235 {S : aS} {I : Nat → Nat → Int32} {L : Nat → Nat → Int64} {w1 w2 t : Nat} {x1 : Int32} : Sp S m_X5_isReady 14 0 0 [.ref 235, .int x1] (hp I L w1 w2 t) (QE isZ (hp I L w1 w2 t)) nX := by
  refine Sp_of ok_X5_isReady rfl rfl ?_
  show AW S m_X5_isReady 14 _ _ 0 0 0 [some (.ref 235), some (.int x1)] [] (hp I L w1 w2 t)
  refine a_l0 rfl rfl rfl ?_
  refine a_l1 rfl rfl rfl ?_
  refine a_gV rfl lX5_90 mo_X5_isWaiting (q_X5_isWaiting_235) rfl rfl rfl ⟨5, _, rfl, rfl, rfl⟩ rfl (fun v' h' hv => ?_)
  obtain ⟨⟨v1, rfl⟩, rfl⟩ := hv
  refine a_if_eq rfl (fun c5 => ?_) (fun c5 => ?_)
  · refine a_s rfl rfl ?_
    exact a_zret rfl rfl rfl ⟨⟨false, rfl⟩, rfl⟩
  · refine a_l0 rfl rfl rfl ?_
    refine a_l1 rfl rfl rfl ?_
    refine a_gV rfl lX5_94 mo_X5_leansFreely (q_X5_leansFreely_235) rfl rfl rfl ⟨5, _, rfl, rfl, rfl⟩ rfl (fun v' h' hv => ?_)
    obtain ⟨⟨v2, rfl⟩, rfl⟩ := hv
    refine a_if_eq rfl (fun c13 => ?_) (fun c13 => ?_)
    · refine a_s rfl rfl ?_
      exact a_zret rfl rfl rfl ⟨⟨false, rfl⟩, rfl⟩
    · refine a_s rfl rfl ?_
      refine a_goto rfl ?_
      exact a_zret rfl rfl rfl ⟨⟨true, rfl⟩, rfl⟩
theorem q_X5_readyBits_235 {S : aS} {I : Nat → Nat → Int32} {L : Nat → Nat → Int64} {w1 w2 t : Nat} : Sp S m_X5_readyBits 15 0 0 [.ref 235] (hp I L w1 w2 t) (QE isI (hp I L w1 w2 t)) nX := by
  refine Sp_of ok_X5_readyBits rfl rfl ?_
  show AW S m_X5_readyBits 15 _ _ 0 0 0 [some (.ref 235), none, none] [] (hp I L w1 w2 t)
  refine a_s rfl rfl ?_
  refine a_s1 rfl rfl rfl rfl rfl rfl ?_
  refine a_s rfl rfl ?_
  refine a_s2 rfl rfl rfl rfl rfl rfl ?_
  refine a_cnt (j0 := 0) (fun j ls h => ∃ a0, ls = [some (.ref 235), some (.int a0), some (.int (nI j))] ∧ h = hp I L w1 w2 t) (by decide) ⟨_, rfl, rfl⟩ ⟨rfl, rfl, rfl, trivial⟩ ?_
  rintro j4 _ _ hj4 ⟨a0_4, rfl, rfl⟩ ih4
  refine a_l2 rfl rfl rfl ?_
  refine a_l0 rfl rfl rfl ?_
  refine a_geti rfl gfX5_63_5 rfl ?_
  refine a_ic_ge rfl (fun c9 => ?_) (fun c9 => ?_)
  · refine a_l1 rfl rfl rfl ?_
    exact a_iret rfl rfl ⟨⟨_, rfl⟩, rfl⟩
  · refine a_l0 rfl rfl rfl ?_
    refine a_l2 rfl rfl rfl ?_
    refine a_gV rfl lX5_101 mo_X5_isReady (q_X5_isReady_235) rfl rfl rfl ⟨5, _, rfl, rfl, rfl⟩ rfl (fun v' h' hv => ?_)
    obtain ⟨⟨v1, rfl⟩, rfl⟩ := hv
    refine a_if_eq rfl (fun c17 => ?_) (fun c17 => ?_)
    · refine a_i2 rfl rfl rfl ?_
      refine a_goto rfl ?_
      exact ih4 _ _ _ _ c9 ⟨_, rfl, rfl⟩ ⟨rfl, rfl, nS _, trivial⟩
    · refine a_l1 rfl rfl rfl ?_
      refine a_l2 rfl rfl rfl ?_
      refine a_eSN1 rfl lX5_97 mo_X11_bit (sp_X11_bit) rfl rfl rfl rfl ?_
      refine a_s rfl rfl ?_
      refine a_s1 rfl rfl rfl rfl rfl rfl ?_
      refine a_i2 rfl rfl rfl ?_
      refine a_goto rfl ?_
      exact ih4 _ _ _ _ c9 ⟨_, rfl, rfl⟩ ⟨rfl, rfl, nS _, trivial⟩
theorem q_X11_shameOfWaiting_200_235 {S : aS} {I : Nat → Nat → Int32} {L : Nat → Nat → Int64} {w1 w2 t : Nat} : Sp S m_X11_shameOfWaiting 17 0 0 [.ref 200, .ref 235] (hp I L w1 w2 t) (QR (Fm sQ I) isI L w1 w2 t) nX := by
  refine Sp_of ok_X11_shameOfWaiting rfl rfl ?_
  show AW S m_X11_shameOfWaiting 17 _ _ 0 0 0 [some (.ref 200), some (.ref 235)] [] (hp I L w1 w2 t)
  refine a_l0 rfl rfl rfl ?_
  refine a_getq rfl gfX11_44_11 rfl (rfl) ?_
  refine a_l1 rfl rfl rfl ?_
  refine a_l1 rfl rfl rfl ?_
  refine a_s rfl rfl ?_
  refine a_gV rfl lX11_200 mo_X5_bitsIn (q_X5_bitsIn_235) rfl rfl rfl ⟨5, _, rfl, rfl, rfl⟩ rfl (fun v' h' hv => ?_)
  obtain ⟨⟨v1, rfl⟩, rfl⟩ := hv
  refine a_gV rfl lX11_282 mo_X2_shameOfSet (q_X2_shameOfSet_246_235) rfl rfl rfl ⟨2, _, rfl, rfl, rfl⟩ rfl (fun v' h' hv => ?_)
  obtain ⟨⟨v2, rfl⟩, I3, rfl, f4⟩ := hv
  exact a_iret rfl rfl ⟨⟨_, rfl⟩, _, rfl, f4⟩
theorem q_X11_count_200 {S : aS} {I : Nat → Nat → Int32} {L : Nat → Nat → Int64} {w1 w2 t : Nat} {x1 : Int32} : Sp S m_X11_count 18 0 0 [.ref 200, .int x1] (hp I L w1 w2 t) (QR (Fm sQ I) isI L w1 w2 t) nX := by
  refine Sp_of ok_X11_count rfl rfl ?_
  show AW S m_X11_count 18 _ _ 0 0 0 [some (.ref 200), some (.int x1)] [] (hp I L w1 w2 t)
  refine a_l1 rfl rfl rfl ?_
  refine a_tswA rfl (by decide) (by decide) (fun hx => ?_) (fun i o ho hx => ?_)
  · refine a_pc (pc' := 199) (by decide) ?_
    refine a_s rfl rfl ?_
    exact a_iret rfl rfl ⟨⟨_, rfl⟩, _, rfl, Fm.rf⟩
  · rcases i with _ | _ | _ | _ | _ | _ | _ | _ | _ | _ | _ | _ | _ | _ | _ | i
    · cases ho
      refine a_pc (pc' := 76) (by decide) ?_
      refine a_l0 rfl rfl rfl ?_
      refine a_getq rfl gfX11_37_11 rfl (rfl) ?_
      refine a_geti rfl gfX11_179_5 rfl ?_
      exact a_iret rfl rfl ⟨⟨_, rfl⟩, _, rfl, Fm.rf⟩
    · cases ho
      refine a_pc (pc' := 84) (by decide) ?_
      refine a_l0 rfl rfl rfl ?_
      refine a_getq rfl gfX11_37_11 rfl (rfl) ?_
      refine a_geti rfl gfX11_182_5 rfl ?_
      exact a_iret rfl rfl ⟨⟨_, rfl⟩, _, rfl, Fm.rf⟩
    · cases ho
      refine a_pc (pc' := 92) (by decide) ?_
      refine a_l0 rfl rfl rfl ?_
      refine a_getq rfl gfX11_37_11 rfl (rfl) ?_
      refine a_geti rfl gfX11_89_5 rfl ?_
      exact a_iret rfl rfl ⟨⟨_, rfl⟩, _, rfl, Fm.rf⟩
    · cases ho
      refine a_pc (pc' := 100) (by decide) ?_
      refine a_l0 rfl rfl rfl ?_
      refine a_getq rfl gfX11_44_11 rfl (rfl) ?_
      refine a_geti rfl gfX11_107_2 rfl ?_
      exact a_iret rfl rfl ⟨⟨_, rfl⟩, _, rfl, Fm.rf⟩
    · cases ho
      refine a_pc (pc' := 108) (by decide) ?_
      refine a_l0 rfl rfl rfl ?_
      refine a_getq rfl gfX11_37_11 rfl (rfl) ?_
      refine a_geti rfl gfX11_185_5 rfl ?_
      exact a_iret rfl rfl ⟨⟨_, rfl⟩, _, rfl, Fm.rf⟩
    · cases ho
      refine a_pc (pc' := 116) (by decide) ?_
      refine a_l0 rfl rfl rfl ?_
      refine a_getq rfl gfX11_37_11 rfl (rfl) ?_
      refine a_geti rfl gfX11_188_5 rfl ?_
      exact a_iret rfl rfl ⟨⟨_, rfl⟩, _, rfl, Fm.rf⟩
    · cases ho
      refine a_pc (pc' := 124) (by decide) ?_
      refine a_l0 rfl rfl rfl ?_
      refine a_getq rfl gfX11_37_11 rfl (rfl) ?_
      refine a_geti rfl gfX11_191_5 rfl ?_
      exact a_iret rfl rfl ⟨⟨_, rfl⟩, _, rfl, Fm.rf⟩
    · cases ho
      refine a_pc (pc' := 132) (by decide) ?_
      refine a_l0 rfl rfl rfl ?_
      refine a_getq rfl gfX11_37_11 rfl (rfl) ?_
      refine a_geti rfl gfX11_194_5 rfl ?_
      exact a_iret rfl rfl ⟨⟨_, rfl⟩, _, rfl, Fm.rf⟩
    · cases ho
      refine a_pc (pc' := 140) (by decide) ?_
      refine a_l0 rfl rfl rfl ?_
      refine a_getq rfl gfX11_37_11 rfl (rfl) ?_
      refine a_geti rfl gfX11_197_5 rfl ?_
      exact a_iret rfl rfl ⟨⟨_, rfl⟩, _, rfl, Fm.rf⟩
    · cases ho
      refine a_pc (pc' := 148) (by decide) ?_
      refine a_l0 rfl rfl rfl ?_
      refine a_getq rfl gfX11_37_11 rfl (rfl) ?_
      refine a_s rfl rfl ?_
      refine a_gV rfl lX11_200 mo_X5_bitsIn (q_X5_bitsIn_235) rfl rfl rfl ⟨5, _, rfl, rfl, rfl⟩ rfl (fun v' h' hv => ?_)
      obtain ⟨⟨v1, rfl⟩, rfl⟩ := hv
      exact a_iret rfl rfl ⟨⟨_, rfl⟩, _, rfl, Fm.rf⟩
    · cases ho
      refine a_pc (pc' := 157) (by decide) ?_
      refine a_l0 rfl rfl rfl ?_
      refine a_getq rfl gfX11_37_11 rfl (rfl) ?_
      refine a_s rfl rfl ?_
      refine a_gV rfl lX11_200 mo_X5_bitsIn (q_X5_bitsIn_235) rfl rfl rfl ⟨5, _, rfl, rfl, rfl⟩ rfl (fun v' h' hv => ?_)
      obtain ⟨⟨v2, rfl⟩, rfl⟩ := hv
      exact a_iret rfl rfl ⟨⟨_, rfl⟩, _, rfl, Fm.rf⟩
    · cases ho
      refine a_pc (pc' := 166) (by decide) ?_
      refine a_l0 rfl rfl rfl ?_
      refine a_getq rfl gfX11_37_11 rfl (rfl) ?_
      refine a_gV rfl lX11_203 mo_X5_readyBits (q_X5_readyBits_235) rfl rfl rfl ⟨5, _, rfl, rfl, rfl⟩ rfl (fun v' h' hv => ?_)
      obtain ⟨⟨v3, rfl⟩, rfl⟩ := hv
      exact a_iret rfl rfl ⟨⟨_, rfl⟩, _, rfl, Fm.rf⟩
    · cases ho
      refine a_pc (pc' := 174) (by decide) ?_
      refine a_l0 rfl rfl rfl ?_
      refine a_l0 rfl rfl rfl ?_
      refine a_getq rfl gfX11_37_11 rfl (rfl) ?_
      refine a_gV rfl lX11_207 mo_X11_shameOfWaiting (q_X11_shameOfWaiting_200_235) rfl rfl rfl ⟨11, _, rfl, rfl, rfl⟩ rfl (fun v' h' hv => ?_)
      obtain ⟨⟨v4, rfl⟩, I5, rfl, f6⟩ := hv
      exact a_iret rfl rfl ⟨⟨_, rfl⟩, _, rfl, f6⟩
    · cases ho
      refine a_pc (pc' := 183) (by decide) ?_
      refine a_l0 rfl rfl rfl ?_
      refine a_getq rfl gfX11_37_11 rfl (rfl) ?_
      refine a_getq rfl gfX11_211_5 rfl (rfl) ?_
      refine a_geti rfl gfX11_215_1 rfl ?_
      exact a_iret rfl rfl ⟨⟨_, rfl⟩, _, rfl, Fm.rf⟩
    · cases ho
      refine a_pc (pc' := 194) (by decide) ?_
      refine a_l0 rfl rfl rfl ?_
      refine a_geti rfl gfX11_95_11 rfl ?_
      exact a_iret rfl rfl ⟨⟨_, rfl⟩, _, rfl, Fm.rf⟩
    · cases ho
theorem q_X5_placeOf_235 {S : aS} {I : Nat → Nat → Int32} {L : Nat → Nat → Int64} {w1 w2 t : Nat} {x1 : Int32} : Sp S m_X5_placeOf 14 0 0 [.ref 235, .int x1] (hp I L w1 w2 t) (QE isI (hp I L w1 w2 t)) nX := by
  refine Sp_of ok_X5_placeOf rfl rfl ?_
  show AW S m_X5_placeOf 14 _ _ 0 0 0 [some (.ref 235), some (.int x1), none, none, none, none] [] (hp I L w1 w2 t)
  refine a_l0 rfl rfl rfl ?_
  refine a_l1 rfl rfl rfl ?_
  refine a_gV rfl lX5_90 mo_X5_isWaiting (q_X5_isWaiting_235) rfl rfl rfl ⟨5, _, rfl, rfl, rfl⟩ rfl (fun v' h' hv => ?_)
  obtain ⟨⟨v1, rfl⟩, rfl⟩ := hv
  refine a_if_ne rfl (fun c5 => ?_) (fun c5 => ?_)
  · refine a_l0 rfl rfl rfl ?_
    refine a_getq rfl gfX5_24_5 rfl (rfl) ?_
    refine a_l1 rfl rfl rfl ?_
    refine a_eSN1 rfl lX5_86 mo_X11_at (sp_X11_at rfl) rfl rfl rfl rfl ?_
    refine a_s2 rfl rfl rfl rfl rfl rfl ?_
    refine a_s rfl rfl ?_
    refine a_s3 rfl rfl rfl rfl rfl rfl ?_
    refine a_s rfl rfl ?_
    refine a_s4 rfl rfl rfl rfl rfl rfl ?_
    refine a_cnt (j0 := 0) (fun j ls h => ∃ a0, ∃ a1, ls = [some (.ref 235), some (.int x1), some (.int a0), some (.int a1), some (.int (nI j)), none] ∧ h = hp I L w1 w2 t) (by decide) ⟨_, _, rfl, rfl⟩ ⟨rfl, rfl, rfl, rfl, rfl, trivial⟩ ?_
    rintro j24 _ _ hj24 ⟨a0_24, a1_24, rfl, rfl⟩ ih24
    refine a_l4 rfl rfl rfl ?_
    refine a_l0 rfl rfl rfl ?_
    refine a_geti rfl gfX5_63_5 rfl ?_
    refine a_ic_ge rfl (fun c30 => ?_) (fun c30 => ?_)
    · refine a_l3 rfl rfl rfl ?_
      exact a_iret rfl rfl ⟨⟨_, rfl⟩, rfl⟩
    · refine a_l0 rfl rfl rfl ?_
      refine a_getq rfl gfX5_24_5 rfl (rfl) ?_
      refine a_l4 rfl rfl rfl ?_
      refine a_eSN1 rfl lX5_86 mo_X11_at (sp_X11_at rfl) rfl rfl rfl rfl ?_
      refine a_s5 rfl rfl rfl rfl rfl rfl ?_
      refine a_l0 rfl rfl rfl ?_
      refine a_l4 rfl rfl rfl ?_
      refine a_gV rfl lX5_90 mo_X5_isWaiting (q_X5_isWaiting_235) rfl rfl rfl ⟨5, _, rfl, rfl, rfl⟩ rfl (fun v' h' hv => ?_)
      obtain ⟨⟨v2, rfl⟩, rfl⟩ := hv
      refine a_if_eq rfl (fun c50 => ?_) (fun c50 => ?_)
      · refine a_i4 rfl rfl rfl ?_
        refine a_goto rfl ?_
        exact ih24 _ _ _ _ c30 ⟨_, _, rfl, rfl⟩ ⟨rfl, rfl, rfl, rfl, nS _, trivial⟩
      · refine a_l5 rfl rfl rfl ?_
        refine a_l2 rfl rfl rfl ?_
        refine a_ic_lt rfl (fun c56 => ?_) (fun c56 => ?_)
        · refine a_i3 rfl rfl rfl ?_
          refine a_i4 rfl rfl rfl ?_
          refine a_goto rfl ?_
          exact ih24 _ _ _ _ c30 ⟨_, _, rfl, rfl⟩ ⟨rfl, rfl, rfl, rfl, nS _, trivial⟩
        · refine a_l5 rfl rfl rfl ?_
          refine a_l2 rfl rfl rfl ?_
          refine a_ic_ne rfl (fun c62 => ?_) (fun c62 => ?_)
          · refine a_i4 rfl rfl rfl ?_
            refine a_goto rfl ?_
            exact ih24 _ _ _ _ c30 ⟨_, _, rfl, rfl⟩ ⟨rfl, rfl, rfl, rfl, nS _, trivial⟩
          · refine a_l4 rfl rfl rfl ?_
            refine a_l1 rfl rfl rfl ?_
            refine a_ic_ge rfl (fun c68 => ?_) (fun c68 => ?_)
            · refine a_i4 rfl rfl rfl ?_
              refine a_goto rfl ?_
              exact ih24 _ _ _ _ c30 ⟨_, _, rfl, rfl⟩ ⟨rfl, rfl, rfl, rfl, nS _, trivial⟩
            · refine a_i3 rfl rfl rfl ?_
              refine a_i4 rfl rfl rfl ?_
              refine a_goto rfl ?_
              exact ih24 _ _ _ _ c30 ⟨_, _, rfl, rfl⟩ ⟨rfl, rfl, rfl, rfl, nS _, trivial⟩
  · refine a_s rfl rfl ?_
    exact a_iret rfl rfl ⟨⟨_, rfl⟩, rfl⟩
theorem q_X5_dutyAt_235 {S : aS} {I : Nat → Nat → Int32} {L : Nat → Nat → Int64} {w1 w2 t : Nat} {x1 : Int32} : Sp S m_X5_dutyAt 15 0 0 [.ref 235, .int x1] (hp I L w1 w2 t) (QE isI (hp I L w1 w2 t)) nX := by
  refine Sp_of ok_X5_dutyAt rfl rfl ?_
  show AW S m_X5_dutyAt 15 _ _ 0 0 0 [some (.ref 235), some (.int x1), none] [] (hp I L w1 w2 t)
  refine a_s rfl rfl ?_
  refine a_s2 rfl rfl rfl rfl rfl rfl ?_
  refine a_cnt (j0 := 0) (fun j ls h => ls = [some (.ref 235), some (.int x1), some (.int (nI j))] ∧ h = hp I L w1 w2 t) (by decide) ⟨rfl, rfl⟩ ⟨rfl, rfl, rfl, trivial⟩ ?_
  rintro j2 _ _ hj2 ⟨rfl, rfl⟩ ih2
  refine a_l2 rfl rfl rfl ?_
  refine a_l0 rfl rfl rfl ?_
  refine a_geti rfl gfX5_63_5 rfl ?_
  refine a_ic_ge rfl (fun c7 => ?_) (fun c7 => ?_)
  · refine a_s rfl rfl ?_
    exact a_iret rfl rfl ⟨⟨_, rfl⟩, rfl⟩
  · refine a_l0 rfl rfl rfl ?_
    refine a_l2 rfl rfl rfl ?_
    refine a_gV rfl lX5_90 mo_X5_isWaiting (q_X5_isWaiting_235) rfl rfl rfl ⟨5, _, rfl, rfl, rfl⟩ rfl (fun v' h' hv => ?_)
    obtain ⟨⟨v1, rfl⟩, rfl⟩ := hv
    refine a_if_eq rfl (fun c15 => ?_) (fun c15 => ?_)
    · refine a_i2 rfl rfl rfl ?_
      refine a_goto rfl ?_
      exact ih2 _ _ _ _ c7 ⟨rfl, rfl⟩ ⟨rfl, rfl, nS _, trivial⟩
    · refine a_l0 rfl rfl rfl ?_
      refine a_l2 rfl rfl rfl ?_
      refine a_gV rfl lX5_113 mo_X5_placeOf (q_X5_placeOf_235) rfl rfl rfl ⟨5, _, rfl, rfl, rfl⟩ rfl (fun v' h' hv => ?_)
      obtain ⟨⟨v2, rfl⟩, rfl⟩ := hv
      refine a_l1 rfl rfl rfl ?_
      refine a_ic_ne rfl (fun c24 => ?_) (fun c24 => ?_)
      · refine a_i2 rfl rfl rfl ?_
        refine a_goto rfl ?_
        exact ih2 _ _ _ _ c7 ⟨rfl, rfl⟩ ⟨rfl, rfl, nS _, trivial⟩
      · refine a_l2 rfl rfl rfl ?_
        exact a_iret rfl rfl ⟨⟨_, rfl⟩, rfl⟩
theorem q_X11_parade_200 {S : aS} {I : Nat → Nat → Int32} {L : Nat → Nat → Int64} {w1 w2 t : Nat} {x1 : Int32} : Sp S m_X11_parade 16 0 0 [.ref 200, .int x1] (hp I L w1 w2 t) (QE isI (hp I L w1 w2 t)) nX := by
  refine Sp_of ok_X11_parade rfl rfl ?_
  show AW S m_X11_parade 16 _ _ 0 0 0 [some (.ref 200), some (.int x1)] [] (hp I L w1 w2 t)
  refine a_l0 rfl rfl rfl ?_
  refine a_getq rfl gfX11_37_11 rfl (rfl) ?_
  refine a_l1 rfl rfl rfl ?_
  refine a_gV rfl lX11_266 mo_X5_dutyAt (q_X5_dutyAt_235) rfl rfl rfl ⟨5, _, rfl, rfl, rfl⟩ rfl (fun v' h' hv => ?_)
  obtain ⟨⟨v1, rfl⟩, rfl⟩ := hv
  exact a_iret rfl rfl ⟨⟨_, rfl⟩, rfl⟩
theorem q_X5_passesOf_235 {S : aS} {I : Nat → Nat → Int32} {L : Nat → Nat → Int64} {w1 w2 t : Nat} {x1 : Int32} : Sp S m_X5_passesOf 15 0 0 [.ref 235, .int x1] (hp I L w1 w2 t) (QE isI (hp I L w1 w2 t)) nX := by
  refine Sp_of ok_X5_passesOf rfl rfl ?_
  show AW S m_X5_passesOf 15 _ _ 0 0 0 [some (.ref 235), some (.int x1), none] [] (hp I L w1 w2 t)
  refine a_l0 rfl rfl rfl ?_
  refine a_l1 rfl rfl rfl ?_
  refine a_gV rfl lX5_90 mo_X5_isWaiting (q_X5_isWaiting_235) rfl rfl rfl ⟨5, _, rfl, rfl, rfl⟩ rfl (fun v' h' hv => ?_)
  obtain ⟨⟨v1, rfl⟩, rfl⟩ := hv
  refine a_if_ne rfl (fun c5 => ?_) (fun c5 => ?_)
  · refine a_l0 rfl rfl rfl ?_
    refine a_s rfl rfl ?_
    refine a_gV rfl lX5_104 mo_X5_bitsIn (q_X5_bitsIn_235) rfl rfl rfl ⟨5, _, rfl, rfl, rfl⟩ rfl (fun v' h' hv => ?_)
    obtain ⟨⟨v2, rfl⟩, rfl⟩ := hv
    refine a_l0 rfl rfl rfl ?_
    refine a_l0 rfl rfl rfl ?_
    refine a_getq rfl gfX5_24_5 rfl (rfl) ?_
    refine a_l1 rfl rfl rfl ?_
    refine a_eSN1 rfl lX5_86 mo_X11_at (sp_X11_at rfl) rfl rfl rfl rfl ?_
    refine a_gV rfl lX5_116 mo_X5_olderThan (q_X5_olderThan_235) rfl rfl rfl ⟨5, _, rfl, rfl, rfl⟩ rfl (fun v' h' hv => ?_)
    obtain ⟨⟨v3, rfl⟩, rfl⟩ := hv
    refine a_s rfl rfl ?_
    refine a_s rfl rfl ?_
    refine a_s rfl rfl ?_
    refine a_s2 rfl rfl rfl rfl rfl rfl ?_
    refine a_l0 rfl rfl rfl ?_
    refine a_geti rfl gfX5_40_5 rfl ?_
    refine a_l2 rfl rfl rfl ?_
    refine a_eS1 rfl lX5_119 mo_J6_bitCount_0f7a4 (sp_bitCount) rfl rfl rfl rfl ?_
    refine a_s rfl rfl ?_
    exact a_iret rfl rfl ⟨⟨_, rfl⟩, rfl⟩
  · refine a_s rfl rfl ?_
    exact a_iret rfl rfl ⟨⟨_, rfl⟩, rfl⟩
theorem q_X5_canBits_235 {S : aS} {I : Nat → Nat → Int32} {L : Nat → Nat → Int64} {w1 w2 t : Nat} : Sp S m_X5_canBits 16 0 0 [.ref 235] (hp I L w1 w2 t) (QE isI (hp I L w1 w2 t)) nX := by
  refine Sp_of ok_X5_canBits rfl rfl ?_
  show AW S m_X5_canBits 16 _ _ 0 0 0 [some (.ref 235), none, none] [] (hp I L w1 w2 t)
  refine a_s rfl rfl ?_
  refine a_s1 rfl rfl rfl rfl rfl rfl ?_
  refine a_s rfl rfl ?_
  refine a_s2 rfl rfl rfl rfl rfl rfl ?_
  refine a_cnt (j0 := 0) (fun j ls h => ∃ a0, ls = [some (.ref 235), some (.int a0), some (.int (nI j))] ∧ h = hp I L w1 w2 t) (by decide) ⟨_, rfl, rfl⟩ ⟨rfl, rfl, rfl, trivial⟩ ?_
  rintro j4 _ _ hj4 ⟨a0_4, rfl, rfl⟩ ih4
  refine a_l2 rfl rfl rfl ?_
  refine a_l0 rfl rfl rfl ?_
  refine a_geti rfl gfX5_63_5 rfl ?_
  refine a_ic_ge rfl (fun c9 => ?_) (fun c9 => ?_)
  · refine a_l1 rfl rfl rfl ?_
    exact a_iret rfl rfl ⟨⟨_, rfl⟩, rfl⟩
  · refine a_l0 rfl rfl rfl ?_
    refine a_l2 rfl rfl rfl ?_
    refine a_gV rfl lX5_101 mo_X5_isReady (q_X5_isReady_235) rfl rfl rfl ⟨5, _, rfl, rfl, rfl⟩ rfl (fun v' h' hv => ?_)
    obtain ⟨⟨v1, rfl⟩, rfl⟩ := hv
    refine a_if_eq rfl (fun c17 => ?_) (fun c17 => ?_)
    · refine a_i2 rfl rfl rfl ?_
      refine a_goto rfl ?_
      exact ih4 _ _ _ _ c9 ⟨_, rfl, rfl⟩ ⟨rfl, rfl, nS _, trivial⟩
    · refine a_l0 rfl rfl rfl ?_
      refine a_getq rfl gfX5_21_5 rfl (rfl) ?_
      refine a_l2 rfl rfl rfl ?_
      refine a_eSN1 rfl lX5_86 mo_X11_at (sp_X11_at rfl) rfl rfl rfl rfl ?_
      refine a_l0 rfl rfl rfl ?_
      refine a_l2 rfl rfl rfl ?_
      refine a_gV rfl lX5_124 mo_X5_passesOf (q_X5_passesOf_235) rfl rfl rfl ⟨5, _, rfl, rfl, rfl⟩ rfl (fun v' h' hv => ?_)
      obtain ⟨⟨v2, rfl⟩, rfl⟩ := hv
      refine a_ic_gt rfl (fun c33 => ?_) (fun c33 => ?_)
      · refine a_i2 rfl rfl rfl ?_
        refine a_goto rfl ?_
        exact ih4 _ _ _ _ c9 ⟨_, rfl, rfl⟩ ⟨rfl, rfl, nS _, trivial⟩
      · refine a_l1 rfl rfl rfl ?_
        refine a_l2 rfl rfl rfl ?_
        refine a_eSN1 rfl lX5_97 mo_X11_bit (sp_X11_bit) rfl rfl rfl rfl ?_
        refine a_s rfl rfl ?_
        refine a_s1 rfl rfl rfl rfl rfl rfl ?_
        refine a_i2 rfl rfl rfl ?_
        refine a_goto rfl ?_
        exact ih4 _ _ _ _ c9 ⟨_, rfl, rfl⟩ ⟨rfl, rfl, nS _, trivial⟩
theorem q_X11_can_200 {S : aS} {I : Nat → Nat → Int32} {L : Nat → Nat → Int64} {w1 w2 t : Nat} : Sp S m_X11_can 17 0 0 [.ref 200] (hp I L w1 w2 t) (QE isI (hp I L w1 w2 t)) nX := by
  refine Sp_of ok_X11_can rfl rfl ?_
  show AW S m_X11_can 17 _ _ 0 0 0 [some (.ref 200)] [] (hp I L w1 w2 t)
  refine a_l0 rfl rfl rfl ?_
  refine a_getq rfl gfX11_37_11 rfl (rfl) ?_
  refine a_gV rfl lX11_220 mo_X5_canBits (q_X5_canBits_235) rfl rfl rfl ⟨5, _, rfl, rfl, rfl⟩ rfl (fun v' h' hv => ?_)
  obtain ⟨⟨v1, rfl⟩, rfl⟩ := hv
  exact a_iret rfl rfl ⟨⟨_, rfl⟩, rfl⟩
theorem q_X11_ring_200 {S : aS} {I : Nat → Nat → Int32} {L : Nat → Nat → Int64} {w1 w2 t : Nat} : Sp S m_X11_ring 15 0 0 [.ref 200] (hp I L w1 w2 t) (QE isI (hp I L w1 w2 t)) nX := by
  refine Sp_of ok_X11_ring rfl rfl ?_
  show AW S m_X11_ring 15 _ _ 0 0 0 [some (.ref 200)] [] (hp I L w1 w2 t)
  refine a_l0 rfl rfl rfl ?_
  refine a_getq rfl gfX11_37_11 rfl (rfl) ?_
  refine a_gS rfl lX11_295 mo_X4_ringBits (q_X4_ringBits_235) rfl rfl rfl rfl (fun v' h' hv => ?_)
  obtain ⟨⟨v1, rfl⟩, rfl⟩ := hv
  exact a_iret rfl rfl ⟨⟨_, rfl⟩, rfl⟩
theorem q_X11_longest_200 {S : aS} {I : Nat → Nat → Int32} {L : Nat → Nat → Int64} {w1 w2 t : Nat} : Sp S m_X11_longest 17 0 0 [.ref 200] (hp I L w1 w2 t) (QE isI (hp I L w1 w2 t)) nX := by
  refine Sp_of ok_X11_longest rfl rfl ?_
  show AW S m_X11_longest 17 _ _ 0 0 0 [some (.ref 200), none, none] [] (hp I L w1 w2 t)
  refine a_s rfl rfl ?_
  refine a_s1 rfl rfl rfl rfl rfl rfl ?_
  refine a_s rfl rfl ?_
  refine a_s2 rfl rfl rfl rfl rfl rfl ?_
  refine a_cnt (j0 := 0) (fun j ls h => ∃ a0, ls = [some (.ref 200), some (.int a0), some (.int (nI j))] ∧ h = hp I L w1 w2 t) (by decide) ⟨_, rfl, rfl⟩ ⟨rfl, rfl, rfl, trivial⟩ ?_
  rintro j4 _ _ hj4 ⟨a0_4, rfl, rfl⟩ ih4
  refine a_l2 rfl rfl rfl ?_
  refine a_l0 rfl rfl rfl ?_
  refine a_getq rfl gfX11_37_11 rfl (rfl) ?_
  refine a_geti rfl gfX11_182_5 rfl ?_
  refine a_ic_ge rfl (fun c12 => ?_) (fun c12 => ?_)
  · refine a_l1 rfl rfl rfl ?_
    exact a_iret rfl rfl ⟨⟨_, rfl⟩, rfl⟩
  · refine a_l1 rfl rfl rfl ?_
    refine a_l0 rfl rfl rfl ?_
    refine a_getq rfl gfX11_37_11 rfl (rfl) ?_
    refine a_l2 rfl rfl rfl ?_
    refine a_gS rfl lX11_285 mo_X4_hoursTill (q_X4_hoursTill_235) rfl rfl rfl rfl (fun v' h' hv => ?_)
    obtain ⟨⟨v1, rfl⟩, rfl⟩ := hv
    refine a_max rfl lX11_290 mj_max rfl rfl ?_
    refine a_s1 rfl rfl rfl rfl rfl rfl ?_
    refine a_i2 rfl rfl rfl ?_
    refine a_goto rfl ?_
    exact ih4 _ _ _ _ c12 ⟨_, rfl, rfl⟩ ⟨rfl, rfl, nS _, trivial⟩
theorem q_X11_isGap_200 {S : aS} {I : Nat → Nat → Int32} {L : Nat → Nat → Int64} {w1 w2 t : Nat} {x1 : Int32} : Sp S m_X11_isGap 15 0 0 [.ref 200, .int x1] (hp I L w1 w2 t) (QE isZ (hp I L w1 w2 t)) nX := by
  refine Sp_of ok_X11_isGap rfl rfl ?_
  show AW S m_X11_isGap 15 _ _ 0 0 0 [some (.ref 200), some (.int x1), none] [] (hp I L w1 w2 t)
  refine a_l1 rfl rfl rfl ?_
  refine a_if_lt rfl (fun c1 => ?_) (fun c1 => ?_)
  · refine a_s rfl rfl ?_
    exact a_zret rfl rfl rfl ⟨⟨false, rfl⟩, rfl⟩
  · refine a_l1 rfl rfl rfl ?_
    refine a_s rfl rfl ?_
    refine a_ic_ge rfl (fun c7 => ?_) (fun c7 => ?_)
    · refine a_s rfl rfl ?_
      exact a_zret rfl rfl rfl ⟨⟨false, rfl⟩, rfl⟩
    · refine a_l0 rfl rfl rfl ?_
      refine a_getq rfl gfX11_37_11 rfl (rfl) ?_
      refine a_l1 rfl rfl rfl ?_
      refine a_gV rfl lX11_307 mo_X5_olderThan (q_X5_olderThan_235) rfl rfl rfl ⟨5, _, rfl, rfl, rfl⟩ rfl (fun v' h' hv => ?_)
      obtain ⟨⟨v1, rfl⟩, rfl⟩ := hv
      refine a_if_ne rfl (fun c18 => ?_) (fun c18 => ?_)
      · refine a_s rfl rfl ?_
        refine a_s2 rfl rfl rfl rfl rfl rfl ?_
        refine a_cnt (j0 := 0) (fun j ls h => ls = [some (.ref 200), some (.int x1), some (.int (nI j))] ∧ h = hp I L w1 w2 t) (by decide) ⟨rfl, rfl⟩ ⟨rfl, rfl, rfl, trivial⟩ ?_
        rintro j25 _ _ hj25 ⟨rfl, rfl⟩ ih25
        refine a_l2 rfl rfl rfl ?_
        refine a_l0 rfl rfl rfl ?_
        refine a_getq rfl gfX11_37_11 rfl (rfl) ?_
        refine a_geti rfl gfX11_182_5 rfl ?_
        refine a_ic_ge rfl (fun c33 => ?_) (fun c33 => ?_)
        · refine a_s rfl rfl ?_
          exact a_zret rfl rfl rfl ⟨⟨true, rfl⟩, rfl⟩
        · refine a_l0 rfl rfl rfl ?_
          refine a_getq rfl gfX11_37_11 rfl (rfl) ?_
          refine a_l2 rfl rfl rfl ?_
          refine a_gV rfl lX11_329 mo_X5_isWaiting (q_X5_isWaiting_235) rfl rfl rfl ⟨5, _, rfl, rfl, rfl⟩ rfl (fun v' h' hv => ?_)
          obtain ⟨⟨v2, rfl⟩, rfl⟩ := hv
          refine a_if_eq rfl (fun c44 => ?_) (fun c44 => ?_)
          · refine a_i2 rfl rfl rfl ?_
            refine a_goto rfl ?_
            exact ih25 _ _ _ _ c33 ⟨rfl, rfl⟩ ⟨rfl, rfl, nS _, trivial⟩
          · refine a_l0 rfl rfl rfl ?_
            refine a_getq rfl gfX11_37_11 rfl (rfl) ?_
            refine a_getq rfl gfX11_150_5 rfl (rfl) ?_
            refine a_l2 rfl rfl rfl ?_
            refine a_eS1 rfl lX11_117 mo_X11_at (sp_X11_at rfl) rfl rfl rfl rfl ?_
            refine a_l1 rfl rfl rfl ?_
            refine a_ic_ne rfl (fun c59 => ?_) (fun c59 => ?_)
            · refine a_i2 rfl rfl rfl ?_
              refine a_goto rfl ?_
              exact ih25 _ _ _ _ c33 ⟨rfl, rfl⟩ ⟨rfl, rfl, nS _, trivial⟩
            · refine a_s rfl rfl ?_
              exact a_zret rfl rfl rfl ⟨⟨false, rfl⟩, rfl⟩
      · refine a_s rfl rfl ?_
        exact a_zret rfl rfl rfl ⟨⟨false, rfl⟩, rfl⟩
theorem q_X11_gap_200 {S : aS} {I : Nat → Nat → Int32} {L : Nat → Nat → Int64} {w1 w2 t : Nat} : Sp S m_X11_gap 16 0 0 [.ref 200] (hp I L w1 w2 t) (QE isI (hp I L w1 w2 t)) nX := by
  refine Sp_of ok_X11_gap rfl rfl ?_
  show AW S m_X11_gap 16 _ _ 0 0 0 [some (.ref 200), none] [] (hp I L w1 w2 t)
  refine a_s rfl rfl ?_
  refine a_s1 rfl rfl rfl rfl rfl rfl ?_
  refine a_cnt (j0 := 0) (fun j ls h => ls = [some (.ref 200), some (.int (nI j))] ∧ h = hp I L w1 w2 t) (by decide) ⟨rfl, rfl⟩ ⟨rfl, rfl, trivial⟩ ?_
  rintro j2 _ _ hj2 ⟨rfl, rfl⟩ ih2
  refine a_l1 rfl rfl rfl ?_
  refine a_s rfl rfl ?_
  refine a_ic_ge rfl (fun c5 => ?_) (fun c5 => ?_)
  · refine a_s rfl rfl ?_
    exact a_iret rfl rfl ⟨⟨_, rfl⟩, rfl⟩
  · refine a_l0 rfl rfl rfl ?_
    refine a_l1 rfl rfl rfl ?_
    refine a_gV rfl lX11_316 mo_X11_isGap (q_X11_isGap_200) rfl rfl rfl ⟨11, _, rfl, rfl, rfl⟩ rfl (fun v' h' hv => ?_)
    obtain ⟨⟨v1, rfl⟩, rfl⟩ := hv
    refine a_if_eq rfl (fun c13 => ?_) (fun c13 => ?_)
    · refine a_i1 rfl rfl rfl ?_
      refine a_goto rfl ?_
      exact ih2 _ _ _ _ c5 ⟨rfl, rfl⟩ ⟨rfl, nS _, trivial⟩
    · refine a_l1 rfl rfl rfl ?_
      exact a_iret rfl rfl ⟨⟨_, rfl⟩, rfl⟩
theorem q_X11_lost_200 {S : aS} {I : Nat → Nat → Int32} {L : Nat → Nat → Int64} {w1 w2 t : Nat} : Sp S m_X11_lost 14 0 0 [.ref 200] (hp I L w1 w2 t) (QE isI (hp I L w1 w2 t)) nX := by
  refine Sp_of ok_X11_lost rfl rfl ?_
  show AW S m_X11_lost 14 _ _ 0 0 0 [some (.ref 200)] [] (hp I L w1 w2 t)
  refine a_l0 rfl rfl rfl ?_
  refine a_getq rfl gfX11_37_11 rfl (rfl) ?_
  refine a_s rfl rfl ?_
  refine a_gV rfl lX11_200 mo_X5_bitsIn (q_X5_bitsIn_235) rfl rfl rfl ⟨5, _, rfl, rfl, rfl⟩ rfl (fun v' h' hv => ?_)
  obtain ⟨⟨v1, rfl⟩, rfl⟩ := hv
  exact a_iret rfl rfl ⟨⟨_, rfl⟩, rfl⟩
theorem q_X11_missed_200 {S : aS} {I : Nat → Nat → Int32} {L : Nat → Nat → Int64} {w1 w2 t : Nat} : Sp S m_X11_missed 16 0 0 [.ref 200] (hp I L w1 w2 t) (QE isI (hp I L w1 w2 t)) nX := by
  refine Sp_of ok_X11_missed rfl rfl ?_
  show AW S m_X11_missed 16 _ _ 0 0 0 [some (.ref 200), none, none] [] (hp I L w1 w2 t)
  refine a_s rfl rfl ?_
  refine a_s1 rfl rfl rfl rfl rfl rfl ?_
  refine a_s rfl rfl ?_
  refine a_s2 rfl rfl rfl rfl rfl rfl ?_
  refine a_cnt (j0 := 0) (fun j ls h => ∃ a0, ls = [some (.ref 200), some (.int a0), some (.int (nI j))] ∧ h = hp I L w1 w2 t) (by decide) ⟨_, rfl, rfl⟩ ⟨rfl, rfl, rfl, trivial⟩ ?_
  rintro j4 _ _ hj4 ⟨a0_4, rfl, rfl⟩ ih4
  refine a_l2 rfl rfl rfl ?_
  refine a_l0 rfl rfl rfl ?_
  refine a_getq rfl gfX11_37_11 rfl (rfl) ?_
  refine a_geti rfl gfX11_182_5 rfl ?_
  refine a_ic_ge rfl (fun c12 => ?_) (fun c12 => ?_)
  · refine a_l1 rfl rfl rfl ?_
    exact a_iret rfl rfl ⟨⟨_, rfl⟩, rfl⟩
  · refine a_l0 rfl rfl rfl ?_
    refine a_getq rfl gfX11_37_11 rfl (rfl) ?_
    refine a_getq rfl gfX11_159_5 rfl (rfl) ?_
    refine a_l2 rfl rfl rfl ?_
    refine a_eS1 rfl lX11_117 mo_X11_at (sp_X11_at rfl) rfl rfl rfl rfl ?_
    refine a_s rfl rfl ?_
    refine a_ic_ne rfl (fun c27 => ?_) (fun c27 => ?_)
    · refine a_i2 rfl rfl rfl ?_
      refine a_goto rfl ?_
      exact ih4 _ _ _ _ c12 ⟨_, rfl, rfl⟩ ⟨rfl, rfl, nS _, trivial⟩
    · refine a_l0 rfl rfl rfl ?_
      refine a_l0 rfl rfl rfl ?_
      refine a_getq rfl gfX11_37_11 rfl (rfl) ?_
      refine a_getq rfl gfX11_150_5 rfl (rfl) ?_
      refine a_l2 rfl rfl rfl ?_
      refine a_eS1 rfl lX11_117 mo_X11_at (sp_X11_at rfl) rfl rfl rfl rfl ?_
      refine a_gV rfl lX11_316 mo_X11_isGap (q_X11_isGap_200) rfl rfl rfl ⟨11, _, rfl, rfl, rfl⟩ rfl (fun v' h' hv => ?_)
      obtain ⟨⟨v1, rfl⟩, rfl⟩ := hv
      refine a_if_eq rfl (fun c45 => ?_) (fun c45 => ?_)
      · refine a_i2 rfl rfl rfl ?_
        refine a_goto rfl ?_
        exact ih4 _ _ _ _ c12 ⟨_, rfl, rfl⟩ ⟨rfl, rfl, nS _, trivial⟩
      · refine a_l1 rfl rfl rfl ?_
        refine a_l2 rfl rfl rfl ?_
        refine a_eS1 rfl lX11_319 mo_X11_bit (sp_X11_bit) rfl rfl rfl rfl ?_
        refine a_s rfl rfl ?_
        refine a_s1 rfl rfl rfl rfl rfl rfl ?_
        refine a_i2 rfl rfl rfl ?_
        refine a_goto rfl ?_
        exact ih4 _ _ _ _ c12 ⟨_, rfl, rfl⟩ ⟨rfl, rfl, nS _, trivial⟩
theorem q_X11_sponsor_200 {S : aS} {I : Nat → Nat → Int32} {L : Nat → Nat → Int64} {w1 w2 t : Nat} : Sp S m_X11_sponsor 14 0 0 [.ref 200] (hp I L w1 w2 t) (QE isI (hp I L w1 w2 t)) nX := by
  refine Sp_of ok_X11_sponsor rfl rfl ?_
  show AW S m_X11_sponsor 14 _ _ 0 0 0 [some (.ref 200), none, none] [] (hp I L w1 w2 t)
  refine a_s rfl rfl ?_
  refine a_s1 rfl rfl rfl rfl rfl rfl ?_
  refine a_s rfl rfl ?_
  refine a_s2 rfl rfl rfl rfl rfl rfl ?_
  refine a_cnt (j0 := 0) (fun j ls h => ∃ a0, ls = [some (.ref 200), some (.int a0), some (.int (nI j))] ∧ h = hp I L w1 w2 t) (by decide) ⟨_, rfl, rfl⟩ ⟨rfl, rfl, rfl, trivial⟩ ?_
  rintro j4 _ _ hj4 ⟨a0_4, rfl, rfl⟩ ih4
  refine a_l2 rfl rfl rfl ?_
  refine a_l0 rfl rfl rfl ?_
  refine a_getq rfl gfX11_37_11 rfl (rfl) ?_
  refine a_geti rfl gfX11_182_5 rfl ?_
  refine a_ic_ge rfl (fun c12 => ?_) (fun c12 => ?_)
  · refine a_l1 rfl rfl rfl ?_
    exact a_iret rfl rfl ⟨⟨_, rfl⟩, rfl⟩
  · refine a_l0 rfl rfl rfl ?_
    refine a_getq rfl gfX11_37_11 rfl (rfl) ?_
    refine a_l2 rfl rfl rfl ?_
    refine a_gV rfl lX11_329 mo_X5_isWaiting (q_X5_isWaiting_235) rfl rfl rfl ⟨5, _, rfl, rfl, rfl⟩ rfl (fun v' h' hv => ?_)
    obtain ⟨⟨v1, rfl⟩, rfl⟩ := hv
    refine a_if_eq rfl (fun c23 => ?_) (fun c23 => ?_)
    · refine a_i2 rfl rfl rfl ?_
      refine a_goto rfl ?_
      exact ih4 _ _ _ _ c12 ⟨_, rfl, rfl⟩ ⟨rfl, rfl, nS _, trivial⟩
    · refine a_l1 rfl rfl rfl ?_
      refine a_s rfl rfl ?_
      refine a_l0 rfl rfl rfl ?_
      refine a_getq rfl gfX11_37_11 rfl (rfl) ?_
      refine a_geti rfl gfX11_197_5 rfl ?_
      refine a_l0 rfl rfl rfl ?_
      refine a_getq rfl gfX11_37_11 rfl (rfl) ?_
      refine a_getq rfl gfX11_150_5 rfl (rfl) ?_
      refine a_l2 rfl rfl rfl ?_
      refine a_eS1 rfl lX11_117 mo_X11_at (sp_X11_at rfl) rfl rfl rfl rfl ?_
      refine a_s rfl rfl ?_
      refine a_l0 rfl rfl rfl ?_
      refine a_getq rfl gfX11_37_11 rfl (rfl) ?_
      refine a_getq rfl gfX11_147_5 rfl (rfl) ?_
      refine a_l2 rfl rfl rfl ?_
      refine a_eS1 rfl lX11_117 mo_X11_at (sp_X11_at rfl) rfl rfl rfl rfl ?_
      refine a_s rfl rfl ?_
      refine a_max rfl lX11_290 mj_max rfl rfl ?_
      refine a_s rfl rfl ?_
      refine a_s1 rfl rfl rfl rfl rfl rfl ?_
      refine a_i2 rfl rfl rfl ?_
      refine a_goto rfl ?_
      exact ih4 _ _ _ _ c12 ⟨_, rfl, rfl⟩ ⟨rfl, rfl, nS _, trivial⟩
theorem q_X11_idle_200 {S : aS} {I : Nat → Nat → Int32} {L : Nat → Nat → Int64} {w1 w2 t : Nat} : Sp S m_X11_idle 15 0 0 [.ref 200] (hp I L w1 w2 t) (QE isI (hp I L w1 w2 t)) nX := by
  refine Sp_of ok_X11_idle rfl rfl ?_
  show AW S m_X11_idle 15 _ _ 0 0 0 [some (.ref 200), none, none, none, none] [] (hp I L w1 w2 t)
  refine a_s rfl rfl ?_
  refine a_s1 rfl rfl rfl rfl rfl rfl ?_
  refine a_s rfl rfl ?_
  refine a_s2 rfl rfl rfl rfl rfl rfl ?_
  refine a_s rfl rfl ?_
  refine a_s3 rfl rfl rfl rfl rfl rfl ?_
  refine a_cnt (j0 := 0) (fun j ls h => ∃ a0, ∃ a1, ls = [some (.ref 200), some (.int a0), some (.int a1), some (.int (nI j)), none] ∧ h = hp I L w1 w2 t) (by decide) ⟨_, _, rfl, rfl⟩ ⟨rfl, rfl, rfl, rfl, trivial⟩ ?_
  rintro j6 _ _ hj6 ⟨a0_6, a1_6, rfl, rfl⟩ ih6
  refine a_l3 rfl rfl rfl ?_
  refine a_l0 rfl rfl rfl ?_
  refine a_getq rfl gfX11_37_11 rfl (rfl) ?_
  refine a_geti rfl gfX11_179_5 rfl ?_
  refine a_ic_ge rfl (fun c14 => ?_) (fun c14 => ?_)
  · refine a_l1 rfl rfl rfl ?_
    exact a_iret rfl rfl ⟨⟨_, rfl⟩, rfl⟩
  · refine a_l0 rfl rfl rfl ?_
    refine a_getq rfl gfX11_37_11 rfl (rfl) ?_
    refine a_l3 rfl rfl rfl ?_
    refine a_gV rfl lX11_128 mo_X5_loadOf (q_X5_loadOf_235) rfl rfl rfl ⟨5, _, rfl, rfl, rfl⟩ rfl (fun v' h' hv => ?_)
    obtain ⟨⟨v1, rfl⟩, rfl⟩ := hv
    refine a_s4 rfl rfl rfl rfl rfl rfl ?_
    refine a_l1 rfl rfl rfl ?_
    refine a_s rfl rfl ?_
    refine a_ic_eq rfl (fun c29 => ?_) (fun c29 => ?_)
    · refine a_l3 rfl rfl rfl ?_
      refine a_s1 rfl rfl rfl rfl rfl rfl ?_
      refine a_l4 rfl rfl rfl ?_
      refine a_s2 rfl rfl rfl rfl rfl rfl ?_
      refine a_i3 rfl rfl rfl ?_
      refine a_goto rfl ?_
      exact ih6 _ _ _ _ c14 ⟨_, _, rfl, rfl⟩ ⟨rfl, rfl, rfl, nS _, trivial⟩
    · refine a_l4 rfl rfl rfl ?_
      refine a_l2 rfl rfl rfl ?_
      refine a_ic_ge rfl (fun c35 => ?_) (fun c35 => ?_)
      · refine a_i3 rfl rfl rfl ?_
        refine a_goto rfl ?_
        exact ih6 _ _ _ _ c14 ⟨_, _, rfl, rfl⟩ ⟨rfl, rfl, rfl, nS _, trivial⟩
      · refine a_l3 rfl rfl rfl ?_
        refine a_s1 rfl rfl rfl rfl rfl rfl ?_
        refine a_l4 rfl rfl rfl ?_
        refine a_s2 rfl rfl rfl rfl rfl rfl ?_
        refine a_i3 rfl rfl rfl ?_
        refine a_goto rfl ?_
        exact ih6 _ _ _ _ c14 ⟨_, _, rfl, rfl⟩ ⟨rfl, rfl, rfl, nS _, trivial⟩
theorem q_X11_worst_200 {S : aS} {I : Nat → Nat → Int32} {L : Nat → Nat → Int64} {w1 w2 t : Nat} : Sp S m_X11_worst 16 0 0 [.ref 200] (hp I L w1 w2 t) (QR (Fm sQ I) isI L w1 w2 t) nX := by
  refine Sp_of ok_X11_worst rfl rfl ?_
  show AW S m_X11_worst 16 _ _ 0 0 0 [some (.ref 200), none, none, none, none] [] (hp I L w1 w2 t)
  refine a_s rfl rfl ?_
  refine a_s1 rfl rfl rfl rfl rfl rfl ?_
  refine a_s rfl rfl ?_
  refine a_s2 rfl rfl rfl rfl rfl rfl ?_
  refine a_s rfl rfl ?_
  refine a_s3 rfl rfl rfl rfl rfl rfl ?_
  refine a_cnt (j0 := 0) (fun j ls h => ∃ a0, ∃ a1, ∃ I', ls = [some (.ref 200), some (.int a0), some (.int a1), some (.int (nI j)), none] ∧ h = hp I' L w1 w2 t ∧ Fm sQ I I') (by decide) ⟨_, _, _, rfl, rfl, Fm.rf⟩ ⟨rfl, rfl, rfl, rfl, trivial⟩ ?_
  rintro j6 _ _ hj6 ⟨a0_6, a1_6, Ih6, rfl, rfl, fh6⟩ ih6
  refine a_l3 rfl rfl rfl ?_
  refine a_l0 rfl rfl rfl ?_
  refine a_getq rfl gfX11_37_11 rfl (rfl) ?_
  refine a_geti rfl gfX11_182_5 rfl ?_
  refine a_ic_ge rfl (fun c14 => ?_) (fun c14 => ?_)
  · refine a_l1 rfl rfl rfl ?_
    exact a_iret rfl rfl ⟨⟨_, rfl⟩, _, rfl, fh6⟩
  · refine a_l0 rfl rfl rfl ?_
    refine a_getq rfl gfX11_37_11 rfl (rfl) ?_
    refine a_l3 rfl rfl rfl ?_
    refine a_gV rfl lX11_329 mo_X5_isWaiting (q_X5_isWaiting_235) rfl rfl rfl ⟨5, _, rfl, rfl, rfl⟩ rfl (fun v' h' hv => ?_)
    obtain ⟨⟨v1, rfl⟩, rfl⟩ := hv
    refine a_if_eq rfl (fun c25 => ?_) (fun c25 => ?_)
    · refine a_s rfl rfl ?_
      refine a_s4 rfl rfl rfl rfl rfl rfl ?_
      refine a_l4 rfl rfl rfl ?_
      refine a_l2 rfl rfl rfl ?_
      refine a_ic_le rfl (fun c49 => ?_) (fun c49 => ?_)
      · refine a_i3 rfl rfl rfl ?_
        refine a_goto rfl ?_
        exact ih6 _ _ _ _ c14 ⟨_, _, _, rfl, rfl, fh6⟩ ⟨rfl, rfl, rfl, nS _, trivial⟩
      · refine a_l3 rfl rfl rfl ?_
        refine a_s1 rfl rfl rfl rfl rfl rfl ?_
        refine a_l4 rfl rfl rfl ?_
        refine a_s2 rfl rfl rfl rfl rfl rfl ?_
        refine a_i3 rfl rfl rfl ?_
        refine a_goto rfl ?_
        exact ih6 _ _ _ _ c14 ⟨_, _, _, rfl, rfl, fh6⟩ ⟨rfl, rfl, rfl, nS _, trivial⟩
    · refine a_l0 rfl rfl rfl ?_
      refine a_getq rfl gfX11_44_11 rfl (rfl) ?_
      refine a_l0 rfl rfl rfl ?_
      refine a_getq rfl gfX11_37_11 rfl (rfl) ?_
      refine a_l3 rfl rfl rfl ?_
      refine a_gV rfl lX11_170 mo_X2_shameOf (q_X2_shameOf_246_235) rfl rfl rfl ⟨2, _, rfl, rfl, rfl⟩ rfl (fun v' h' hv => ?_)
      obtain ⟨⟨v2, rfl⟩, I3, rfl, f4⟩ := hv
      replace f4 : Fm sQ I I3 := Fm.tr (fh6) (f4)
      refine a_goto rfl ?_
      refine a_s4 rfl rfl rfl rfl rfl rfl ?_
      refine a_l4 rfl rfl rfl ?_
      refine a_l2 rfl rfl rfl ?_
      refine a_ic_le rfl (fun c49 => ?_) (fun c49 => ?_)
      · refine a_i3 rfl rfl rfl ?_
        refine a_goto rfl ?_
        exact ih6 _ _ _ _ c14 ⟨_, _, _, rfl, rfl, f4⟩ ⟨rfl, rfl, rfl, nS _, trivial⟩
      · refine a_l3 rfl rfl rfl ?_
        refine a_s1 rfl rfl rfl rfl rfl rfl ?_
        refine a_l4 rfl rfl rfl ?_
        refine a_s2 rfl rfl rfl rfl rfl rfl ?_
        refine a_i3 rfl rfl rfl ?_
        refine a_goto rfl ?_
        exact ih6 _ _ _ _ c14 ⟨_, _, _, rfl, rfl, f4⟩ ⟨rfl, rfl, rfl, nS _, trivial⟩
theorem q_X5_areAlike_235 {S : aS} {I : Nat → Nat → Int32} {L : Nat → Nat → Int64} {w1 w2 t : Nat} {x1 x2 : Int32} : Sp S m_X5_areAlike 14 0 0 [.ref 235, .int x1, .int x2] (hp I L w1 w2 t) (QE isZ (hp I L w1 w2 t)) nX := by
  refine Sp_of ok_X5_areAlike rfl rfl ?_
  show AW S m_X5_areAlike 14 _ _ 0 0 0 [some (.ref 235), some (.int x1), some (.int x2)] [] (hp I L w1 w2 t)
  refine a_l0 rfl rfl rfl ?_
  refine a_l1 rfl rfl rfl ?_
  refine a_gV rfl lX5_90 mo_X5_isWaiting (q_X5_isWaiting_235) rfl rfl rfl ⟨5, _, rfl, rfl, rfl⟩ rfl (fun v' h' hv => ?_)
  obtain ⟨⟨v1, rfl⟩, rfl⟩ := hv
  refine a_if_eq rfl (fun c5 => ?_) (fun c5 => ?_)
  · refine a_s rfl rfl ?_
    exact a_zret rfl rfl rfl ⟨⟨false, rfl⟩, rfl⟩
  · refine a_l0 rfl rfl rfl ?_
    refine a_l2 rfl rfl rfl ?_
    refine a_gV rfl lX5_90 mo_X5_isWaiting (q_X5_isWaiting_235) rfl rfl rfl ⟨5, _, rfl, rfl, rfl⟩ rfl (fun v' h' hv => ?_)
    obtain ⟨⟨v2, rfl⟩, rfl⟩ := hv
    refine a_if_eq rfl (fun c13 => ?_) (fun c13 => ?_)
    · refine a_s rfl rfl ?_
      exact a_zret rfl rfl rfl ⟨⟨false, rfl⟩, rfl⟩
    · refine a_l0 rfl rfl rfl ?_
      refine a_getq rfl gfX5_21_5 rfl (rfl) ?_
      refine a_l1 rfl rfl rfl ?_
      refine a_eSN1 rfl lX5_86 mo_X11_at (sp_X11_at rfl) rfl rfl rfl rfl ?_
      refine a_l0 rfl rfl rfl ?_
      refine a_getq rfl gfX5_21_5 rfl (rfl) ?_
      refine a_l2 rfl rfl rfl ?_
      refine a_eSN1 rfl lX5_86 mo_X11_at (sp_X11_at rfl) rfl rfl rfl rfl ?_
      refine a_ic_ne rfl (fun c32 => ?_) (fun c32 => ?_)
      · refine a_s rfl rfl ?_
        exact a_zret rfl rfl rfl ⟨⟨false, rfl⟩, rfl⟩
      · refine a_l0 rfl rfl rfl ?_
        refine a_getq rfl gfX5_24_5 rfl (rfl) ?_
        refine a_l1 rfl rfl rfl ?_
        refine a_eSN1 rfl lX5_86 mo_X11_at (sp_X11_at rfl) rfl rfl rfl rfl ?_
        refine a_l0 rfl rfl rfl ?_
        refine a_getq rfl gfX5_24_5 rfl (rfl) ?_
        refine a_l2 rfl rfl rfl ?_
        refine a_eSN1 rfl lX5_86 mo_X11_at (sp_X11_at rfl) rfl rfl rfl rfl ?_
        refine a_ic_ne rfl (fun c51 => ?_) (fun c51 => ?_)
        · refine a_s rfl rfl ?_
          exact a_zret rfl rfl rfl ⟨⟨false, rfl⟩, rfl⟩
        · refine a_s rfl rfl ?_
          refine a_goto rfl ?_
          exact a_zret rfl rfl rfl ⟨⟨true, rfl⟩, rfl⟩
theorem q_X11_alike_200 {S : aS} {I : Nat → Nat → Int32} {L : Nat → Nat → Int64} {w1 w2 t : Nat} : Sp S m_X11_alike 15 0 0 [.ref 200] (hp I L w1 w2 t) (QE isI (hp I L w1 w2 t)) nX := by
  refine Sp_of ok_X11_alike rfl rfl ?_
  show AW S m_X11_alike 15 _ _ 0 0 0 [some (.ref 200), none, none, none] [] (hp I L w1 w2 t)
  refine a_s rfl rfl ?_
  refine a_s1 rfl rfl rfl rfl rfl rfl ?_
  refine a_s rfl rfl ?_
  refine a_s2 rfl rfl rfl rfl rfl rfl ?_
  refine a_cnt (j0 := 0) (fun j ls h => ∃ a0, ls = [some (.ref 200), some (.int a0), some (.int (nI j)), none] ∧ h = hp I L w1 w2 t) (by decide) ⟨_, rfl, rfl⟩ ⟨rfl, rfl, rfl, trivial⟩ ?_
  rintro j4 _ _ hj4 ⟨a0_4, rfl, rfl⟩ ih4
  refine a_l2 rfl rfl rfl ?_
  refine a_l0 rfl rfl rfl ?_
  refine a_getq rfl gfX11_37_11 rfl (rfl) ?_
  refine a_geti rfl gfX11_182_5 rfl ?_
  refine a_ic_ge rfl (fun c12 => ?_) (fun c12 => ?_)
  · refine a_l1 rfl rfl rfl ?_
    exact a_iret rfl rfl ⟨⟨_, rfl⟩, rfl⟩
  · refine a_l2 rfl rfl rfl ?_
    refine a_s rfl rfl ?_
    refine a_s rfl rfl ?_
    refine a_s3 rfl rfl rfl rfl rfl rfl ?_
    refine a_cnt (j0 := j4 + 1) (fun j ls h => ∃ a0, ls = [some (.ref 200), some (.int a0), some (.int (nI j4)), some (.int (nI j))] ∧ h = hp I L w1 w2 t) (nI_b1 hj4 c12) ⟨_, rfl, rfl⟩ ⟨rfl, rfl, rfl, nS _, trivial⟩ ?_
    rintro j19 _ _ hj19 ⟨a0_19, rfl, rfl⟩ ih19
    refine a_l3 rfl rfl rfl ?_
    refine a_l0 rfl rfl rfl ?_
    refine a_getq rfl gfX11_37_11 rfl (rfl) ?_
    refine a_geti rfl gfX11_182_5 rfl ?_
    refine a_ic_ge rfl (fun c27 => ?_) (fun c27 => ?_)
    · refine a_i2 rfl rfl rfl ?_
      refine a_goto rfl ?_
      exact ih4 _ _ _ _ c12 ⟨_, rfl, rfl⟩ ⟨rfl, rfl, nS _, trivial⟩
    · refine a_l0 rfl rfl rfl ?_
      refine a_getq rfl gfX11_37_11 rfl (rfl) ?_
      refine a_l2 rfl rfl rfl ?_
      refine a_l3 rfl rfl rfl ?_
      refine a_gV rfl lX11_332 mo_X5_areAlike (q_X5_areAlike_235) rfl rfl rfl ⟨5, _, rfl, rfl, rfl⟩ rfl (fun v' h' hv => ?_)
      obtain ⟨⟨v1, rfl⟩, rfl⟩ := hv
      refine a_if_eq rfl (fun c39 => ?_) (fun c39 => ?_)
      · refine a_i3 rfl rfl rfl ?_
        refine a_goto rfl ?_
        exact ih19 _ _ _ _ c27 ⟨_, rfl, rfl⟩ ⟨rfl, rfl, rfl, nS _, trivial⟩
      · refine a_i1 rfl rfl rfl ?_
        refine a_i3 rfl rfl rfl ?_
        refine a_goto rfl ?_
        exact ih19 _ _ _ _ c27 ⟨_, rfl, rfl⟩ ⟨rfl, rfl, rfl, nS _, trivial⟩
theorem q_X11_shareOf_200 {S : aS} {I : Nat → Nat → Int32} {L : Nat → Nat → Int64} {w1 w2 t : Nat} {x1 : Int32} : Sp S m_X11_shareOf 18 0 0 [.ref 200, .int x1] (hp I L w1 w2 t) (QR (Fm sQ I) isI L w1 w2 t) nX := by
  refine Sp_of ok_X11_shareOf rfl rfl ?_
  show AW S m_X11_shareOf 18 _ _ 0 0 0 [some (.ref 200), some (.int x1), none, none] [] (hp I L w1 w2 t)
  refine a_l0 rfl rfl rfl ?_
  refine a_l0 rfl rfl rfl ?_
  refine a_getq rfl gfX11_37_11 rfl (rfl) ?_
  refine a_gV rfl lX11_207 mo_X11_shameOfWaiting (q_X11_shameOfWaiting_200_235) rfl rfl rfl ⟨11, _, rfl, rfl, rfl⟩ rfl (fun v' h' hv => ?_)
  obtain ⟨⟨v1, rfl⟩, I2, rfl, f3⟩ := hv
  refine a_s2 rfl rfl rfl rfl rfl rfl ?_
  refine a_l0 rfl rfl rfl ?_
  refine a_getq rfl gfX11_44_11 rfl (rfl) ?_
  refine a_l0 rfl rfl rfl ?_
  refine a_getq rfl gfX11_37_11 rfl (rfl) ?_
  refine a_l0 rfl rfl rfl ?_
  refine a_getq rfl gfX11_37_11 rfl (rfl) ?_
  refine a_s rfl rfl ?_
  refine a_gV rfl lX11_200 mo_X5_bitsIn (q_X5_bitsIn_235) rfl rfl rfl ⟨5, _, rfl, rfl, rfl⟩ rfl (fun v' h' hv => ?_)
  obtain ⟨⟨v4, rfl⟩, rfl⟩ := hv
  refine a_l0 rfl rfl rfl ?_
  refine a_getq rfl gfX11_37_11 rfl (rfl) ?_
  refine a_l1 rfl rfl rfl ?_
  refine a_gV rfl lX11_124 mo_X5_ownedBy (q_X5_ownedBy_235) rfl rfl rfl ⟨5, _, rfl, rfl, rfl⟩ rfl (fun v' h' hv => ?_)
  obtain ⟨⟨v5, rfl⟩, rfl⟩ := hv
  refine a_s rfl rfl ?_
  refine a_gV rfl lX11_282 mo_X2_shameOfSet (q_X2_shameOfSet_246_235) rfl rfl rfl ⟨2, _, rfl, rfl, rfl⟩ rfl (fun v' h' hv => ?_)
  obtain ⟨⟨v6, rfl⟩, I7, rfl, f8⟩ := hv
  replace f8 : Fm sQ I I7 := Fm.tr (f3) (f8)
  refine a_s3 rfl rfl rfl rfl rfl rfl ?_
  refine a_l2 rfl rfl rfl ?_
  refine a_if_le rfl (fun c39 => ?_) (fun c39 => ?_)
  · refine a_s rfl rfl ?_
    exact a_iret rfl rfl ⟨⟨_, rfl⟩, _, rfl, f8⟩
  · refine a_l3 rfl rfl rfl ?_
    refine a_s rfl rfl ?_
    refine a_s rfl rfl ?_
    refine a_l2 rfl rfl rfl ?_
    refine a_idiv rfl (fun z => c39 (by rw [z]; decide)) ?_
    refine a_goto rfl ?_
    exact a_iret rfl rfl ⟨⟨_, rfl⟩, _, rfl, f8⟩
theorem q_X5_standingBetween_235 {S : aS} {I : Nat → Nat → Int32} {L : Nat → Nat → Int64} {w1 w2 t : Nat} {x1 x2 : Int32} : Sp S m_X5_standingBetween 13 0 0 [.ref 235, .int x1, .int x2] (hp I L w1 w2 t) (QE isI (hp I L w1 w2 t)) nX := by
  refine Sp_of ok_X5_standingBetween rfl rfl ?_
  show AW S m_X5_standingBetween 13 _ _ 0 0 0 [some (.ref 235), some (.int x1), some (.int x2), none, none] [] (hp I L w1 w2 t)
  refine a_s rfl rfl ?_
  refine a_s3 rfl rfl rfl rfl rfl rfl ?_
  refine a_s rfl rfl ?_
  refine a_s4 rfl rfl rfl rfl rfl rfl ?_
  refine a_cnt (j0 := 0) (fun j ls h => ∃ a0, ls = [some (.ref 235), some (.int x1), some (.int x2), some (.int a0), some (.int (nI j))] ∧ h = hp I L w1 w2 t) (by decide) ⟨_, rfl, rfl⟩ ⟨rfl, rfl, rfl, rfl, rfl, trivial⟩ ?_
  rintro j5 _ _ hj5 ⟨a0_5, rfl, rfl⟩ ih5
  refine a_l4 rfl rfl rfl ?_
  refine a_l0 rfl rfl rfl ?_
  refine a_geti rfl gfX5_56_5 rfl ?_
  refine a_ic_ge rfl (fun c11 => ?_) (fun c11 => ?_)
  · refine a_l3 rfl rfl rfl ?_
    exact a_iret rfl rfl ⟨⟨_, rfl⟩, rfl⟩
  · refine a_l0 rfl rfl rfl ?_
    refine a_getq rfl gfX5_9_5 rfl (rfl) ?_
    refine a_l4 rfl rfl rfl ?_
    refine a_eSN1 rfl lX5_86 mo_X11_at (sp_X11_at rfl) rfl rfl rfl rfl ?_
    refine a_l1 rfl rfl rfl ?_
    refine a_ic_lt rfl (fun c24 => ?_) (fun c24 => ?_)
    · refine a_i4 rfl rfl rfl ?_
      refine a_goto rfl ?_
      exact ih5 _ _ _ _ c11 ⟨_, rfl, rfl⟩ ⟨rfl, rfl, rfl, rfl, nS _, trivial⟩
    · refine a_l0 rfl rfl rfl ?_
      refine a_getq rfl gfX5_9_5 rfl (rfl) ?_
      refine a_l4 rfl rfl rfl ?_
      refine a_eSN1 rfl lX5_86 mo_X11_at (sp_X11_at rfl) rfl rfl rfl rfl ?_
      refine a_l2 rfl rfl rfl ?_
      refine a_ic_gt rfl (fun c37 => ?_) (fun c37 => ?_)
      · refine a_i4 rfl rfl rfl ?_
        refine a_goto rfl ?_
        exact ih5 _ _ _ _ c11 ⟨_, rfl, rfl⟩ ⟨rfl, rfl, rfl, rfl, nS _, trivial⟩
      · refine a_l3 rfl rfl rfl ?_
        refine a_l4 rfl rfl rfl ?_
        refine a_eSN1 rfl lX5_97 mo_X11_bit (sp_X11_bit) rfl rfl rfl rfl ?_
        refine a_s rfl rfl ?_
        refine a_s3 rfl rfl rfl rfl rfl rfl ?_
        refine a_i4 rfl rfl rfl ?_
        refine a_goto rfl ?_
        exact ih5 _ _ _ _ c11 ⟨_, rfl, rfl⟩ ⟨rfl, rfl, rfl, rfl, nS _, trivial⟩
theorem q_X11_kerbToAskFor_200 {S : aS} {I : Nat → Nat → Int32} {L : Nat → Nat → Int64} {w1 w2 t : Nat} {x1 : Int32} : Sp S m_X11_kerbToAskFor 14 0 0 [.ref 200, .int x1] (hp I L w1 w2 t) (QE isI (hp I L w1 w2 t)) nX := by
  refine Sp_of ok_X11_kerbToAskFor rfl rfl ?_
  show AW S m_X11_kerbToAskFor 14 _ _ 0 0 0 [some (.ref 200), some (.int x1), none, none, none, none, none, none] [] (hp I L w1 w2 t)
  refine a_l1 rfl rfl rfl ?_
  refine a_eS1 rfl lX11_261 mo_J6_bitCount_0f7a4 (sp_bitCount) rfl rfl rfl rfl ?_
  refine a_s2 rfl rfl rfl rfl rfl rfl ?_
  refine a_l2 rfl rfl rfl ?_
  refine a_s rfl rfl ?_
  refine a_ic_ge rfl (fun c7 => ?_) (fun c7 => ?_)
  · refine a_s rfl rfl ?_
    refine a_s3 rfl rfl rfl rfl rfl rfl ?_
    refine a_l2 rfl rfl rfl ?_
    refine a_s rfl rfl ?_
    refine a_s rfl rfl ?_
    refine a_s4 rfl rfl rfl rfl rfl rfl ?_
    refine a_s rfl rfl ?_
    refine a_s5 rfl rfl rfl rfl rfl rfl ?_
    refine a_cnt (j0 := 0) (fun j ls h => ∃ a0, ∃ a1, ∃ a2, ls = [some (.ref 200), some (.int x1), some (.int a0), some (.int a1), some (.int a2), some (.int (nI j)), none, none] ∧ h = hp I L w1 w2 t) (by decide) ⟨_, _, _, rfl, rfl⟩ ⟨rfl, rfl, rfl, rfl, rfl, rfl, trivial⟩ ?_
    rintro j22 _ _ hj22 ⟨a0_22, a1_22, a2_22, rfl, rfl⟩ ih22
    refine a_l5 rfl rfl rfl ?_
    refine a_s rfl rfl ?_
    refine a_ic_ge rfl (fun c26 => ?_) (fun c26 => ?_)
    · refine a_l3 rfl rfl rfl ?_
      exact a_iret rfl rfl ⟨⟨_, rfl⟩, rfl⟩
    · refine a_l1 rfl rfl rfl ?_
      refine a_l0 rfl rfl rfl ?_
      refine a_getq rfl gfX11_37_11 rfl (rfl) ?_
      refine a_s rfl rfl ?_
      refine a_l5 rfl rfl rfl ?_
      refine a_gV rfl lX11_395 mo_X5_standingBetween (q_X5_standingBetween_235) rfl rfl rfl ⟨5, _, rfl, rfl, rfl⟩ rfl (fun v' h' hv => ?_)
      obtain ⟨⟨v1, rfl⟩, rfl⟩ := hv
      refine a_s rfl rfl ?_
      refine a_eS1 rfl lX11_261 mo_J6_bitCount_0f7a4 (sp_bitCount) rfl rfl rfl rfl ?_
      refine a_s6 rfl rfl rfl rfl rfl rfl ?_
      refine a_l6 rfl rfl rfl ?_
      refine a_l2 rfl rfl rfl ?_
      refine a_l6 rfl rfl rfl ?_
      refine a_s rfl rfl ?_
      refine a_max rfl lX11_290 mj_max rfl rfl ?_
      refine a_s7 rfl rfl rfl rfl rfl rfl ?_
      refine a_l7 rfl rfl rfl ?_
      refine a_l4 rfl rfl rfl ?_
      refine a_ic_ge rfl (fun c61 => ?_) (fun c61 => ?_)
      · refine a_i5 rfl rfl rfl ?_
        refine a_goto rfl ?_
        exact ih22 _ _ _ _ c26 ⟨_, _, _, rfl, rfl⟩ ⟨rfl, rfl, rfl, rfl, rfl, nS _, trivial⟩
      · refine a_l5 rfl rfl rfl ?_
        refine a_s3 rfl rfl rfl rfl rfl rfl ?_
        refine a_l7 rfl rfl rfl ?_
        refine a_s4 rfl rfl rfl rfl rfl rfl ?_
        refine a_i5 rfl rfl rfl ?_
        refine a_goto rfl ?_
        exact ih22 _ _ _ _ c26 ⟨_, _, _, rfl, rfl⟩ ⟨rfl, rfl, rfl, rfl, rfl, nS _, trivial⟩
  · refine a_s rfl rfl ?_
    exact a_iret rfl rfl ⟨⟨_, rfl⟩, rfl⟩
theorem q_X7_byteAt_201 {S : aS} {I : Nat → Nat → Int32} {L : Nat → Nat → Int64} {w1 w2 t : Nat} {x1 : Int32} : Sp S m_X7_byteAt 12 0 0 [.ref 201, .int x1] (hp I L w1 w2 t) (QE isI (hp I L w1 w2 t)) nX := by
  refine Sp_of ok_X7_byteAt rfl rfl ?_
  show AW S m_X7_byteAt 12 _ _ 0 0 0 [some (.ref 201), some (.int x1)] [] (hp I L w1 w2 t)
  refine a_l1 rfl rfl rfl ?_
  refine a_if_lt rfl (fun c1 => ?_) (fun c1 => ?_)
  · refine a_s rfl rfl ?_
    exact a_iret rfl rfl ⟨⟨_, rfl⟩, rfl⟩
  · refine a_l1 rfl rfl rfl ?_
    refine a_l0 rfl rfl rfl ?_
    refine a_geti rfl gfX7_15_7 rfl ?_
    refine a_ic_ge rfl (fun c9 => ?_) (fun c9 => ?_)
    · refine a_s rfl rfl ?_
      exact a_iret rfl rfl ⟨⟨_, rfl⟩, rfl⟩
    · refine a_l1 rfl rfl rfl ?_
      refine a_l0 rfl rfl rfl ?_
      refine a_getq rfl gfX7_9_7 rfl (rfl) ?_
      refine a_len rfl rfl rfl rfl ?_
      refine a_ic_ge rfl (fun c18 => ?_) (fun c18 => ?_)
      · refine a_s rfl rfl ?_
        exact a_iret rfl rfl ⟨⟨_, rfl⟩, rfl⟩
      · refine a_l0 rfl rfl rfl ?_
        refine a_getq rfl gfX7_9_7 rfl (rfl) ?_
        refine a_l1 rfl rfl rfl ?_
        refine a_bald rfl rfl (inI_of (by decide) c1 c18) ?_
        refine a_s rfl rfl ?_
        refine a_s rfl rfl ?_
        refine a_goto rfl ?_
        exact a_iret rfl rfl ⟨⟨_, rfl⟩, rfl⟩
theorem q_X11_whoFits_200 {S : aS} {I : Nat → Nat → Int32} {L : Nat → Nat → Int64} {w1 w2 t : Nat} : Sp S m_X11_whoFits 14 0 0 [.ref 200] (hp I L w1 w2 t) (QE isI (hp I L w1 w2 t)) nX := by
  refine Sp_of ok_X11_whoFits rfl rfl ?_
  show AW S m_X11_whoFits 14 _ _ 0 0 0 [some (.ref 200), none, none, none, none] [] (hp I L w1 w2 t)
  refine a_l0 rfl rfl rfl ?_
  refine a_getq rfl gfX11_10_11 rfl (rfl) ?_
  refine a_geti rfl gfX11_68_7 rfl ?_
  refine a_s rfl rfl ?_
  refine a_ic_gt rfl (fun c9 => ?_) (fun c9 => ?_)
  · refine a_s rfl rfl ?_
    exact a_iret rfl rfl ⟨⟨_, rfl⟩, rfl⟩
  · refine a_l0 rfl rfl rfl ?_
    refine a_getq rfl gfX11_10_11 rfl (rfl) ?_
    refine a_geti rfl gfX11_68_7 rfl ?_
    refine a_s rfl rfl ?_
    refine a_irem rfl (by decide) ?_
    refine a_if_eq rfl (fun c21 => ?_) (fun c21 => ?_)
    · refine a_l0 rfl rfl rfl ?_
      refine a_getq rfl gfX11_37_11 rfl (rfl) ?_
      refine a_geti rfl gfX11_179_5 rfl ?_
      refine a_eS1 rfl lX11_319 mo_X11_bit (sp_X11_bit) rfl rfl rfl rfl ?_
      refine a_s rfl rfl ?_
      refine a_s rfl rfl ?_
      refine a_s1 rfl rfl rfl rfl rfl rfl ?_
      refine a_s rfl rfl ?_
      refine a_s2 rfl rfl rfl rfl rfl rfl ?_
      refine a_cntI2 (fun y ls h => ∃ a0, ls = [some (.ref 200), some (.int a0), some (.int y), none, none] ∧ h = hp I L w1 w2 t) ⟨_, rfl, rfl⟩ ⟨rfl, rfl, rfl, trivial⟩ ?_
      rintro y41 _ _ ⟨a0_41, rfl, rfl⟩ ih41
      refine a_l2 rfl rfl rfl ?_
      refine a_l0 rfl rfl rfl ?_
      refine a_getq rfl gfX11_10_11 rfl (rfl) ?_
      refine a_geti rfl gfX11_68_7 rfl ?_
      refine a_ic_ge rfl (fun c49 => ?_) (fun c49 => ?_)
      · refine a_l1 rfl rfl rfl ?_
        exact a_iret rfl rfl ⟨⟨_, rfl⟩, rfl⟩
      · refine a_l0 rfl rfl rfl ?_
        refine a_getq rfl gfX11_10_11 rfl (rfl) ?_
        refine a_l2 rfl rfl rfl ?_
        refine a_gV rfl lX11_392 mo_X7_byteAt (q_X7_byteAt_201) rfl rfl rfl ⟨7, _, rfl, rfl, rfl⟩ rfl (fun v' h' hv => ?_)
        obtain ⟨⟨v1, rfl⟩, rfl⟩ := hv
        refine a_s3 rfl rfl rfl rfl rfl rfl ?_
        refine a_l0 rfl rfl rfl ?_
        refine a_getq rfl gfX11_10_11 rfl (rfl) ?_
        refine a_l2 rfl rfl rfl ?_
        refine a_s rfl rfl ?_
        refine a_s rfl rfl ?_
        refine a_gV rfl lX11_392 mo_X7_byteAt (q_X7_byteAt_201) rfl rfl rfl ⟨7, _, rfl, rfl, rfl⟩ rfl (fun v' h' hv => ?_)
        obtain ⟨⟨v2, rfl⟩, rfl⟩ := hv
        refine a_s4 rfl rfl rfl rfl rfl rfl ?_
        refine a_l3 rfl rfl rfl ?_
        refine a_l4 rfl rfl rfl ?_
        refine a_ic_gt rfl (fun c76 => ?_) (fun c76 => ?_)
        · refine a_s rfl rfl ?_
          exact a_iret rfl rfl ⟨⟨_, rfl⟩, rfl⟩
        · refine a_l4 rfl rfl rfl ?_
          refine a_s rfl rfl ?_
          refine a_ic_le rfl (fun c83 => ?_) (fun c83 => ?_)
          · refine a_l1 rfl rfl rfl ?_
            refine a_l0 rfl rfl rfl ?_
            refine a_getq rfl gfX11_37_11 rfl (rfl) ?_
            refine a_l3 rfl rfl rfl ?_
            refine a_l4 rfl rfl rfl ?_
            refine a_gV rfl lX11_395 mo_X5_standingBetween (q_X5_standingBetween_235) rfl rfl rfl ⟨5, _, rfl, rfl, rfl⟩ rfl (fun v' h' hv => ?_)
            obtain ⟨⟨v3, rfl⟩, rfl⟩ := hv
            refine a_s rfl rfl ?_
            refine a_s1 rfl rfl rfl rfl rfl rfl ?_
            refine a_i2 rfl rfl rfl ?_
            refine a_goto rfl ?_
            exact ih41 _ _ _ _ ⟨c49, c9⟩ ⟨_, rfl, rfl⟩ ⟨rfl, rfl, rfl, trivial⟩
          · refine a_s rfl rfl ?_
            exact a_iret rfl rfl ⟨⟨_, rfl⟩, rfl⟩
    · refine a_s rfl rfl ?_
      exact a_iret rfl rfl ⟨⟨_, rfl⟩, rfl⟩
theorem q_X2_shameOf_246_257 {S : aS} {I : Nat → Nat → Int32} {L : Nat → Nat → Int64} {w1 w2 t : Nat} {x2 : Int32} : Sp S m_X2_shameOf 15 0 0 [.ref 246, .ref 257, .int x2] (hp I L w1 w2 t) (QR (Fm sQ I) isI L w1 w2 t) nX := by
  refine Sp_of ok_X2_shameOf rfl rfl ?_
  show AW S m_X2_shameOf 15 _ _ 0 0 0 [some (.ref 246), some (.ref 257), some (.int x2)] [] (hp I L w1 w2 t)
  refine a_l0 rfl rfl rfl ?_
  refine a_l1 rfl rfl rfl ?_
  refine a_l2 rfl rfl rfl ?_
  refine a_gV rfl lX2_48 mo_X2_takeParts (q_X2_takeParts_246_257) rfl rfl rfl ⟨2, _, rfl, rfl, rfl⟩ rfl (fun v' h' hv => ?_)
  obtain ⟨rfl, I2, rfl, f3⟩ := hv
  refine a_s rfl rfl ?_
  refine a_l1 rfl rfl rfl ?_
  refine a_getq rfl gfX2_56_5 rfl (rfl) ?_
  refine a_l2 rfl rfl rfl ?_
  refine a_eSN1 rfl lX2_61 mo_X11_at (sp_X11_at rfl) rfl rfl rfl rfl ?_
  refine a_l0 rfl rfl rfl ?_
  refine a_s rfl rfl ?_
  refine a_gV rfl lX2_52 mo_X2_sumOfLines (q_X2_sumOfLines_246) rfl rfl rfl ⟨2, _, rfl, rfl, rfl⟩ rfl (fun v' h' hv => ?_)
  obtain ⟨⟨v4, rfl⟩, I5, rfl, f6⟩ := hv
  replace f6 : Fm sQ I I5 := Fm.tr (f3) (f6)
  refine a_s rfl rfl ?_
  refine a_l0 rfl rfl rfl ?_
  refine a_s rfl rfl ?_
  refine a_gV rfl lX2_52 mo_X2_sumOfLines (q_X2_sumOfLines_246) rfl rfl rfl ⟨2, _, rfl, rfl, rfl⟩ rfl (fun v' h' hv => ?_)
  obtain ⟨⟨v7, rfl⟩, I8, rfl, f9⟩ := hv
  replace f9 : Fm sQ I I8 := Fm.tr (f6) (f9)
  refine a_s rfl rfl ?_
  refine a_max rfl lX2_65 mj_max rfl rfl ?_
  exact a_iret rfl rfl ⟨⟨_, rfl⟩, _, rfl, f9⟩
theorem q_X2_shameOfSet_246_257 {S : aS} {I : Nat → Nat → Int32} {L : Nat → Nat → Int64} {w1 w2 t : Nat} {x2 : Int32} : Sp S m_X2_shameOfSet 16 0 0 [.ref 246, .ref 257, .int x2] (hp I L w1 w2 t) (QR (Fm sQ I) isI L w1 w2 t) nX := by
  refine Sp_of ok_X2_shameOfSet rfl rfl ?_
  show AW S m_X2_shameOfSet 16 _ _ 0 0 0 [some (.ref 246), some (.ref 257), some (.int x2), none, none] [] (hp I L w1 w2 t)
  refine a_s rfl rfl ?_
  refine a_s3 rfl rfl rfl rfl rfl rfl ?_
  refine a_s rfl rfl ?_
  refine a_s4 rfl rfl rfl rfl rfl rfl ?_
  refine a_cnt (j0 := 0) (fun j ls h => ∃ a0, ∃ I', ls = [some (.ref 246), some (.ref 257), some (.int x2), some (.int a0), some (.int (nI j))] ∧ h = hp I' L w1 w2 t ∧ Fm sQ I I') (by decide) ⟨_, _, rfl, rfl, Fm.rf⟩ ⟨rfl, rfl, rfl, rfl, rfl, trivial⟩ ?_
  rintro j5 _ _ hj5 ⟨a0_5, Ih5, rfl, rfl, fh5⟩ ih5
  refine a_l4 rfl rfl rfl ?_
  refine a_l1 rfl rfl rfl ?_
  refine a_geti rfl gfX2_71_5 rfl ?_
  refine a_ic_ge rfl (fun c11 => ?_) (fun c11 => ?_)
  · refine a_l3 rfl rfl rfl ?_
    exact a_iret rfl rfl ⟨⟨_, rfl⟩, _, rfl, fh5⟩
  · refine a_l2 rfl rfl rfl ?_
    refine a_l4 rfl rfl rfl ?_
    refine a_eSN1 rfl lX2_74 mo_X11_has (sp_X11_has) rfl rfl rfl rfl ?_
    refine a_if_eq rfl (fun c20 => ?_) (fun c20 => ?_)
    · refine a_i4 rfl rfl rfl ?_
      refine a_goto rfl ?_
      exact ih5 _ _ _ _ c11 ⟨_, _, rfl, rfl, fh5⟩ ⟨rfl, rfl, rfl, rfl, nS _, trivial⟩
    · refine a_l3 rfl rfl rfl ?_
      refine a_l0 rfl rfl rfl ?_
      refine a_l1 rfl rfl rfl ?_
      refine a_l4 rfl rfl rfl ?_
      refine a_gV rfl lX2_78 mo_X2_shameOf (q_X2_shameOf_246_257) rfl rfl rfl ⟨2, _, rfl, rfl, rfl⟩ rfl (fun v' h' hv => ?_)
      obtain ⟨⟨v1, rfl⟩, I2, rfl, f3⟩ := hv
      replace f3 : Fm sQ I I2 := Fm.tr (fh5) (f3)
      refine a_s rfl rfl ?_
      refine a_s3 rfl rfl rfl rfl rfl rfl ?_
      refine a_i4 rfl rfl rfl ?_
      refine a_goto rfl ?_
      exact ih5 _ _ _ _ c11 ⟨_, _, rfl, rfl, f3⟩ ⟨rfl, rfl, rfl, rfl, nS _, trivial⟩
theorem q_X11_shameOfWaiting_200_257 {S : aS} {I : Nat → Nat → Int32} {L : Nat → Nat → Int64} {w1 w2 t : Nat} : Sp S m_X11_shameOfWaiting 17 0 0 [.ref 200, .ref 257] (hp I L w1 w2 t) (QR (Fm sQ I) isI L w1 w2 t) nX := by
  refine Sp_of ok_X11_shameOfWaiting rfl rfl ?_
  show AW S m_X11_shameOfWaiting 17 _ _ 0 0 0 [some (.ref 200), some (.ref 257)] [] (hp I L w1 w2 t)
  refine a_l0 rfl rfl rfl ?_
  refine a_getq rfl gfX11_44_11 rfl (rfl) ?_
  refine a_l1 rfl rfl rfl ?_
  refine a_l1 rfl rfl rfl ?_
  refine a_s rfl rfl ?_
  refine a_gV rfl lX11_200 mo_X5_bitsIn (q_X5_bitsIn_257) rfl rfl rfl ⟨5, _, rfl, rfl, rfl⟩ rfl (fun v' h' hv => ?_)
  obtain ⟨⟨v1, rfl⟩, rfl⟩ := hv
  refine a_gV rfl lX11_282 mo_X2_shameOfSet (q_X2_shameOfSet_246_257) rfl rfl rfl ⟨2, _, rfl, rfl, rfl⟩ rfl (fun v' h' hv => ?_)
  obtain ⟨⟨v2, rfl⟩, I3, rfl, f4⟩ := hv
  exact a_iret rfl rfl ⟨⟨_, rfl⟩, _, rfl, f4⟩
theorem q_X11_shameTriedOut_200 {S : aS} {I : Nat → Nat → Int32} {L : Nat → Nat → Int64} {w1 w2 t : Nat} {x1 x2 : Int32} : Sp S m_X11_shameTriedOut 18 0 0 [.ref 200, .int x1, .int x2] (hp I L w1 w2 t) (QR (Fm sQ I) isI L w1 w2 t) nX := by
  refine Sp_of ok_X11_shameTriedOut rfl rfl ?_
  show AW S m_X11_shameTriedOut 18 _ _ 0 0 0 [some (.ref 200), some (.int x1), some (.int x2), none] [] (hp I L w1 w2 t)
  refine a_l0 rfl rfl rfl ?_
  refine a_getq rfl gfX11_55_11 rfl (rfl) ?_
  refine a_l0 rfl rfl rfl ?_
  refine a_getq rfl gfX11_37_11 rfl (rfl) ?_
  refine a_eV0 rfl lX11_78 mo_X5_copyFrom (sp_X5_copyFrom (a := 257) (b := 235) (by decide) (by decide) (by decide)) rfl rfl rfl ⟨5, _, rfl, rfl, rfl⟩ rfl ?_
  refine a_ren (P := Fm sQ I) (Fm.cp (Fm.rf (s := sQ)) sQ_257) (fun I1 f2 => ?_)
  refine a_l0 rfl rfl rfl ?_
  refine a_getq rfl gfX11_55_11 rfl (rfl) ?_
  refine a_l2 rfl rfl rfl ?_
  refine a_puti rfl pfX11_353_5 rfl ?_
  refine a_ren (P := Fm sQ I) (Fm.tr (f2) (Fm.up (Fm.rf (s := sQ)) rfl)) (fun I3 f4 => ?_)
  refine a_s rfl rfl ?_
  refine a_s3 rfl rfl rfl rfl rfl rfl ?_
  refine a_cnt (j0 := 0) (fun j ls h => ∃ I', ls = [some (.ref 200), some (.int x1), some (.int x2), some (.int (nI j))] ∧ h = hp I' L w1 w2 t ∧ Fm sQ I I') (by decide) ⟨_, rfl, rfl, f4⟩ ⟨rfl, rfl, rfl, rfl, trivial⟩ ?_
  rintro j21 _ _ hj21 ⟨Ih21, rfl, rfl, fh21⟩ ih21
  refine a_l3 rfl rfl rfl ?_
  refine a_l1 rfl rfl rfl ?_
  refine a_ic_ge rfl (fun c23 => ?_) (fun c23 => ?_)
  · refine a_l0 rfl rfl rfl ?_
    refine a_l0 rfl rfl rfl ?_
    refine a_getq rfl gfX11_55_11 rfl (rfl) ?_
    refine a_gV rfl lX11_207 mo_X11_shameOfWaiting (q_X11_shameOfWaiting_200_257) rfl rfl rfl ⟨11, _, rfl, rfl, rfl⟩ rfl (fun v' h' hv => ?_)
    obtain ⟨⟨v5, rfl⟩, I6, rfl, f7⟩ := hv
    replace f7 : Fm sQ I I6 := Fm.tr (fh21) (f7)
    exact a_iret rfl rfl ⟨⟨_, rfl⟩, _, rfl, f7⟩
  · refine a_l0 rfl rfl rfl ?_
    refine a_getq rfl gfX11_55_11 rfl (rfl) ?_
    refine a_l0 rfl rfl rfl ?_
    refine a_getq rfl gfX11_44_11 rfl (rfl) ?_
    refine a_s rfl rfl ?_
    refine a_gV rfl lX11_254 mo_X5_passDay (q_X5_passDay_257_246 (b2 := true)) rfl rfl rfl ⟨5, _, rfl, rfl, rfl⟩ rfl (fun v' h' hv => ?_)
    obtain ⟨rfl, I9, rfl, f10⟩ := hv
    replace f10 : Fm sQ I I9 := Fm.tr (fh21) (f10)
    refine a_i3 rfl rfl rfl ?_
    refine a_goto rfl ?_
    exact ih21 _ _ _ _ c23 ⟨_, rfl, rfl, f10⟩ ⟨rfl, rfl, rfl, nS _, trivial⟩
theorem q_X11_needPerson_200 {S : aS} {I : Nat → Nat → Int32} {L : Nat → Nat → Int64} {w1 w2 t : Nat} {x1 : Int32} : Sp S m_X11_needPerson 13 1 6 [.ref 200, .int x1] (hp I L w1 w2 t) (QE isV (hp I L w1 w2 t)) (XR (Fm sQ I) L w1 w2 [0]) := by
  refine Sp_of ok_X11_needPerson rfl rfl ?_
  show AW S m_X11_needPerson 13 _ _ 1 6 0 [some (.ref 200), some (.int x1)] [] (hp I L w1 w2 t)
  refine a_l1 rfl rfl rfl ?_
  refine a_if_lt rfl (fun c1 => ?_) (fun c1 => ?_)
  · exact a_throw rfl rfl rfl rfl tX11_ioobe rfl rfl rfl rfl rfl ⟨⟨0, by decide, rfl⟩, _, rfl, Fm.rf⟩
  · refine a_l1 rfl rfl rfl ?_
    refine a_l0 rfl rfl rfl ?_
    refine a_getq rfl gfX11_37_11 rfl (rfl) ?_
    refine a_geti rfl gfX11_179_5 rfl ?_
    refine a_ic_lt rfl (fun c12 => ?_) (fun c12 => ?_)
    · exact a_vret rfl rfl ⟨rfl, rfl⟩
    · exact a_throw rfl rfl rfl rfl tX11_ioobe rfl rfl rfl rfl rfl ⟨⟨0, by decide, rfl⟩, _, rfl, Fm.rf⟩
theorem q_X11_person_200 {S : aS} {I : Nat → Nat → Int32} {L : Nat → Nat → Int64} {w1 w2 t : Nat} {x1 x2 : Int32} : Sp S m_X11_person 19 2 12 [.ref 200, .int x1, .int x2] (hp I L w1 w2 t) (QR (Fm sQ I) isI L w1 w2 t) (XR (Fm sQ I) L w1 w2 [0, 4]) := by
  refine Sp_of ok_X11_person rfl rfl ?_
  show AW S m_X11_person 19 _ _ 2 12 0 [some (.ref 200), some (.int x1), some (.int x2)] [] (hp I L w1 w2 t)
  refine a_l0 rfl rfl rfl ?_
  refine a_l1 rfl rfl rfl ?_
  refine a_callV rfl lX11_110 mo_X11_needPerson (q_X11_needPerson_200) rfl rfl rfl ⟨11, _, rfl, rfl, rfl⟩ rfl (fun v' h' hv => ?_) (fun E h' hx => XR.cm hx (by decide) (fun _ z => z))
  obtain ⟨rfl, rfl⟩ := hv
  refine a_l2 rfl rfl rfl ?_
  refine a_tswA rfl (by decide) (by decide) (fun hx => ?_) (fun i o ho hx => ?_)
  · refine a_pc (pc' := 115) (by decide) ?_
    exact a_throw rfl rfl rfl rfl tX11_nsee rfl rfl rfl rfl rfl ⟨⟨4, by decide, rfl⟩, _, rfl, Fm.rf⟩
  · rcases i with _ | _ | _ | _ | _ | _ | i
    · cases ho
      refine a_pc (pc' := 44) (by decide) ?_
      refine a_l0 rfl rfl rfl ?_
      refine a_getq rfl gfX11_37_11 rfl (rfl) ?_
      refine a_getq rfl gfX11_113_5 rfl (rfl) ?_
      refine a_l1 rfl rfl rfl ?_
      refine a_eS1 rfl lX11_117 mo_X11_at (sp_X11_at rfl) rfl rfl rfl rfl ?_
      exact a_iret rfl rfl ⟨⟨_, rfl⟩, _, rfl, Fm.rf⟩
    · cases ho
      refine a_pc (pc' := 56) (by decide) ?_
      refine a_l0 rfl rfl rfl ?_
      refine a_getq rfl gfX11_37_11 rfl (rfl) ?_
      refine a_getq rfl gfX11_121_5 rfl (rfl) ?_
      refine a_l1 rfl rfl rfl ?_
      refine a_eS1 rfl lX11_117 mo_X11_at (sp_X11_at rfl) rfl rfl rfl rfl ?_
      exact a_iret rfl rfl ⟨⟨_, rfl⟩, _, rfl, Fm.rf⟩
    · cases ho
      refine a_pc (pc' := 68) (by decide) ?_
      refine a_l0 rfl rfl rfl ?_
      refine a_getq rfl gfX11_37_11 rfl (rfl) ?_
      refine a_l1 rfl rfl rfl ?_
      refine a_gV rfl lX11_124 mo_X5_ownedBy (q_X5_ownedBy_235) rfl rfl rfl ⟨5, _, rfl, rfl, rfl⟩ rfl (fun v' h' hv => ?_)
      obtain ⟨⟨v2, rfl⟩, rfl⟩ := hv
      exact a_iret rfl rfl ⟨⟨_, rfl⟩, _, rfl, Fm.rf⟩
    · cases ho
      refine a_pc (pc' := 77) (by decide) ?_
      refine a_l0 rfl rfl rfl ?_
      refine a_getq rfl gfX11_37_11 rfl (rfl) ?_
      refine a_l1 rfl rfl rfl ?_
      refine a_gV rfl lX11_128 mo_X5_loadOf (q_X5_loadOf_235) rfl rfl rfl ⟨5, _, rfl, rfl, rfl⟩ rfl (fun v' h' hv => ?_)
      obtain ⟨⟨v3, rfl⟩, rfl⟩ := hv
      exact a_iret rfl rfl ⟨⟨_, rfl⟩, _, rfl, Fm.rf⟩
    · cases ho
      refine a_pc (pc' := 86) (by decide) ?_
      refine a_l0 rfl rfl rfl ?_
      refine a_getq rfl gfX11_37_11 rfl (rfl) ?_
      refine a_l1 rfl rfl rfl ?_
      refine a_gV rfl lX11_128 mo_X5_loadOf (q_X5_loadOf_235) rfl rfl rfl ⟨5, _, rfl, rfl, rfl⟩ rfl (fun v' h' hv => ?_)
      obtain ⟨⟨v4, rfl⟩, rfl⟩ := hv
      refine a_l0 rfl rfl rfl ?_
      refine a_getq rfl gfX11_37_11 rfl (rfl) ?_
      refine a_getq rfl gfX11_121_5 rfl (rfl) ?_
      refine a_l1 rfl rfl rfl ?_
      refine a_eS1 rfl lX11_117 mo_X11_at (sp_X11_at rfl) rfl rfl rfl rfl ?_
      refine a_eS1 rfl lX11_131 mo_X11_needsOf (sp_X11_needsOf) rfl rfl rfl rfl ?_
      exact a_iret rfl rfl ⟨⟨_, rfl⟩, _, rfl, Fm.rf⟩
    · cases ho
      refine a_pc (pc' := 109) (by decide) ?_
      refine a_l0 rfl rfl rfl ?_
      refine a_l1 rfl rfl rfl ?_
      refine a_gV rfl lX11_135 mo_X11_shareOf (q_X11_shareOf_200) rfl rfl rfl ⟨11, _, rfl, rfl, rfl⟩ rfl (fun v' h' hv => ?_)
      obtain ⟨⟨v5, rfl⟩, I6, rfl, f7⟩ := hv
      exact a_iret rfl rfl ⟨⟨_, rfl⟩, _, rfl, f7⟩
    · cases ho
theorem q_X11_needDuty_200 {S : aS} {I : Nat → Nat → Int32} {L : Nat → Nat → Int64} {w1 w2 t : Nat} {x1 : Int32} : Sp S m_X11_needDuty 13 1 6 [.ref 200, .int x1] (hp I L w1 w2 t) (QE isV (hp I L w1 w2 t)) (XR (Fm sQ I) L w1 w2 [0]) := by
  refine Sp_of ok_X11_needDuty rfl rfl ?_
  show AW S m_X11_needDuty 13 _ _ 1 6 0 [some (.ref 200), some (.int x1)] [] (hp I L w1 w2 t)
  refine a_l1 rfl rfl rfl ?_
  refine a_if_lt rfl (fun c1 => ?_) (fun c1 => ?_)
  · exact a_throw rfl rfl rfl rfl tX11_ioobe rfl rfl rfl rfl rfl ⟨⟨0, by decide, rfl⟩, _, rfl, Fm.rf⟩
  · refine a_l1 rfl rfl rfl ?_
    refine a_l0 rfl rfl rfl ?_
    refine a_getq rfl gfX11_37_11 rfl (rfl) ?_
    refine a_geti rfl gfX11_182_5 rfl ?_
    refine a_ic_lt rfl (fun c12 => ?_) (fun c12 => ?_)
    · exact a_vret rfl rfl ⟨rfl, rfl⟩
    · exact a_throw rfl rfl rfl rfl tX11_ioobe rfl rfl rfl rfl rfl ⟨⟨0, by decide, rfl⟩, _, rfl, Fm.rf⟩
theorem q_X11_duty_200 {S : aS} {I : Nat → Nat → Int32} {L : Nat → Nat → Int64} {w1 w2 t : Nat} {x1 x2 : Int32} : Sp S m_X11_duty 16 2 12 [.ref 200, .int x1, .int x2] (hp I L w1 w2 t) (QR (Fm sQ I) isI L w1 w2 t) (XR (Fm sQ I) L w1 w2 [0, 4]) := by
  refine Sp_of ok_X11_duty rfl rfl ?_
  show AW S m_X11_duty 16 _ _ 2 12 0 [some (.ref 200), some (.int x1), some (.int x2)] [] (hp I L w1 w2 t)
  refine a_l0 rfl rfl rfl ?_
  refine a_l1 rfl rfl rfl ?_
  refine a_callV rfl lX11_141 mo_X11_needDuty (q_X11_needDuty_200) rfl rfl rfl ⟨11, _, rfl, rfl, rfl⟩ rfl (fun v' h' hv => ?_) (fun E h' hx => XR.cm hx (by decide) (fun _ z => z))
  obtain ⟨rfl, rfl⟩ := hv
  refine a_l2 rfl rfl rfl ?_
  refine a_tswA rfl (by decide) (by decide) (fun hx => ?_) (fun i o ho hx => ?_)
  · refine a_pc (pc' := 197) (by decide) ?_
    exact a_throw rfl rfl rfl rfl tX11_nsee rfl rfl rfl rfl rfl ⟨⟨4, by decide, rfl⟩, _, rfl, Fm.rf⟩
  · rcases i with _ | _ | _ | _ | _ | _ | _ | _ | _ | _ | _ | i
    · cases ho
      refine a_pc (pc' := 64) (by decide) ?_
      refine a_l0 rfl rfl rfl ?_
      refine a_getq rfl gfX11_37_11 rfl (rfl) ?_
      refine a_getq rfl gfX11_144_5 rfl (rfl) ?_
      refine a_l1 rfl rfl rfl ?_
      refine a_eS1 rfl lX11_117 mo_X11_at (sp_X11_at rfl) rfl rfl rfl rfl ?_
      exact a_iret rfl rfl ⟨⟨_, rfl⟩, _, rfl, Fm.rf⟩
    · cases ho
      refine a_pc (pc' := 76) (by decide) ?_
      refine a_l0 rfl rfl rfl ?_
      refine a_getq rfl gfX11_37_11 rfl (rfl) ?_
      refine a_getq rfl gfX11_147_5 rfl (rfl) ?_
      refine a_l1 rfl rfl rfl ?_
      refine a_eS1 rfl lX11_117 mo_X11_at (sp_X11_at rfl) rfl rfl rfl rfl ?_
      exact a_iret rfl rfl ⟨⟨_, rfl⟩, _, rfl, Fm.rf⟩
    · cases ho
      refine a_pc (pc' := 88) (by decide) ?_
      refine a_l0 rfl rfl rfl ?_
      refine a_getq rfl gfX11_37_11 rfl (rfl) ?_
      refine a_getq rfl gfX11_150_5 rfl (rfl) ?_
      refine a_l1 rfl rfl rfl ?_
      refine a_eS1 rfl lX11_117 mo_X11_at (sp_X11_at rfl) rfl rfl rfl rfl ?_
      exact a_iret rfl rfl ⟨⟨_, rfl⟩, _, rfl, Fm.rf⟩
    · cases ho
      refine a_pc (pc' := 100) (by decide) ?_
      refine a_l0 rfl rfl rfl ?_
      refine a_getq rfl gfX11_37_11 rfl (rfl) ?_
      refine a_getq rfl gfX11_153_5 rfl (rfl) ?_
      refine a_l1 rfl rfl rfl ?_
      refine a_eS1 rfl lX11_117 mo_X11_at (sp_X11_at rfl) rfl rfl rfl rfl ?_
      exact a_iret rfl rfl ⟨⟨_, rfl⟩, _, rfl, Fm.rf⟩
    · cases ho
      refine a_pc (pc' := 112) (by decide) ?_
      refine a_l0 rfl rfl rfl ?_
      refine a_getq rfl gfX11_37_11 rfl (rfl) ?_
      refine a_getq rfl gfX11_156_5 rfl (rfl) ?_
      refine a_l1 rfl rfl rfl ?_
      refine a_eS1 rfl lX11_117 mo_X11_at (sp_X11_at rfl) rfl rfl rfl rfl ?_
      exact a_iret rfl rfl ⟨⟨_, rfl⟩, _, rfl, Fm.rf⟩
    · cases ho
      refine a_pc (pc' := 124) (by decide) ?_
      refine a_l0 rfl rfl rfl ?_
      refine a_getq rfl gfX11_37_11 rfl (rfl) ?_
      refine a_getq rfl gfX11_159_5 rfl (rfl) ?_
      refine a_l1 rfl rfl rfl ?_
      refine a_eS1 rfl lX11_117 mo_X11_at (sp_X11_at rfl) rfl rfl rfl rfl ?_
      exact a_iret rfl rfl ⟨⟨_, rfl⟩, _, rfl, Fm.rf⟩
    · cases ho
      refine a_pc (pc' := 136) (by decide) ?_
      refine a_l0 rfl rfl rfl ?_
      refine a_getq rfl gfX11_37_11 rfl (rfl) ?_
      refine a_l1 rfl rfl rfl ?_
      refine a_gV rfl lX11_162 mo_X5_isReady (q_X5_isReady_235) rfl rfl rfl ⟨5, _, rfl, rfl, rfl⟩ rfl (fun v' h' hv => ?_)
      obtain ⟨⟨v2, rfl⟩, rfl⟩ := hv
      refine a_if_eq rfl (fun c144 => ?_) (fun c144 => ?_)
      · refine a_s rfl rfl ?_
        exact a_iret rfl rfl ⟨⟨_, rfl⟩, _, rfl, Fm.rf⟩
      · refine a_s rfl rfl ?_
        refine a_goto rfl ?_
        exact a_iret rfl rfl ⟨⟨_, rfl⟩, _, rfl, Fm.rf⟩
    · cases ho
      refine a_pc (pc' := 153) (by decide) ?_
      refine a_l0 rfl rfl rfl ?_
      refine a_getq rfl gfX11_44_11 rfl (rfl) ?_
      refine a_l0 rfl rfl rfl ?_
      refine a_getq rfl gfX11_37_11 rfl (rfl) ?_
      refine a_l1 rfl rfl rfl ?_
      refine a_gV rfl lX11_166 mo_X2_growthOf (q_X2_growthOf_246_235) rfl rfl rfl ⟨2, _, rfl, rfl, rfl⟩ rfl (fun v' h' hv => ?_)
      obtain ⟨⟨v3, rfl⟩, I4, rfl, f5⟩ := hv
      exact a_iret rfl rfl ⟨⟨_, rfl⟩, _, rfl, f5⟩
    · cases ho
      refine a_pc (pc' := 166) (by decide) ?_
      refine a_l0 rfl rfl rfl ?_
      refine a_getq rfl gfX11_44_11 rfl (rfl) ?_
      refine a_l0 rfl rfl rfl ?_
      refine a_getq rfl gfX11_37_11 rfl (rfl) ?_
      refine a_l1 rfl rfl rfl ?_
      refine a_gV rfl lX11_170 mo_X2_shameOf (q_X2_shameOf_246_235) rfl rfl rfl ⟨2, _, rfl, rfl, rfl⟩ rfl (fun v' h' hv => ?_)
      obtain ⟨⟨v6, rfl⟩, I7, rfl, f8⟩ := hv
      exact a_iret rfl rfl ⟨⟨_, rfl⟩, _, rfl, f8⟩
    · cases ho
      refine a_pc (pc' := 179) (by decide) ?_
      refine a_l0 rfl rfl rfl ?_
      refine a_getq rfl gfX11_37_11 rfl (rfl) ?_
      refine a_l1 rfl rfl rfl ?_
      refine a_gV rfl lX11_173 mo_X5_placeOf (q_X5_placeOf_235) rfl rfl rfl ⟨5, _, rfl, rfl, rfl⟩ rfl (fun v' h' hv => ?_)
      obtain ⟨⟨v9, rfl⟩, rfl⟩ := hv
      exact a_iret rfl rfl ⟨⟨_, rfl⟩, _, rfl, Fm.rf⟩
    · cases ho
      refine a_pc (pc' := 188) (by decide) ?_
      refine a_l0 rfl rfl rfl ?_
      refine a_getq rfl gfX11_37_11 rfl (rfl) ?_
      refine a_l1 rfl rfl rfl ?_
      refine a_gV rfl lX11_176 mo_X5_passesOf (q_X5_passesOf_235) rfl rfl rfl ⟨5, _, rfl, rfl, rfl⟩ rfl (fun v' h' hv => ?_)
      obtain ⟨⟨v10, rfl⟩, rfl⟩ := hv
      exact a_iret rfl rfl ⟨⟨_, rfl⟩, _, rfl, Fm.rf⟩
    · cases ho
theorem q_X11_soon_200 {S : aS} {I : Nat → Nat → Int32} {L : Nat → Nat → Int64} {w1 w2 t : Nat} {x1 : Int32} : Sp S m_X11_soon 17 1 6 [.ref 200, .int x1] (hp I L w1 w2 t) (QE isI (hp I L w1 w2 t)) (XR (Fm sQ I) L w1 w2 [0]) := by
  refine Sp_of ok_X11_soon rfl rfl ?_
  show AW S m_X11_soon 17 _ _ 1 6 0 [some (.ref 200), some (.int x1)] [] (hp I L w1 w2 t)
  refine a_l0 rfl rfl rfl ?_
  refine a_l1 rfl rfl rfl ?_
  refine a_callV rfl lX11_141 mo_X11_needDuty (q_X11_needDuty_200) rfl rfl rfl ⟨11, _, rfl, rfl, rfl⟩ rfl (fun v' h' hv => ?_) (fun E h' hx => XR.cm hx (by decide) (fun _ z => z))
  obtain ⟨rfl, rfl⟩ := hv
  refine a_l0 rfl rfl rfl ?_
  refine a_getq rfl gfX11_37_11 rfl (rfl) ?_
  refine a_l1 rfl rfl rfl ?_
  refine a_gS rfl lX11_285 mo_X4_hoursTill (q_X4_hoursTill_235) rfl rfl rfl rfl (fun v' h' hv => ?_)
  obtain ⟨⟨v2, rfl⟩, rfl⟩ := hv
  exact a_iret rfl rfl ⟨⟨_, rfl⟩, rfl⟩
theorem q_X11_before_200 {S : aS} {I : Nat → Nat → Int32} {L : Nat → Nat → Int64} {w1 w2 t : Nat} {x1 : Int32} : Sp S m_X11_before 14 1 6 [.ref 200, .int x1] (hp I L w1 w2 t) (QE isI (hp I L w1 w2 t)) (XR (Fm sQ I) L w1 w2 [0]) := by
  refine Sp_of ok_X11_before rfl rfl ?_
  show AW S m_X11_before 14 _ _ 1 6 0 [some (.ref 200), some (.int x1)] [] (hp I L w1 w2 t)
  refine a_l0 rfl rfl rfl ?_
  refine a_l1 rfl rfl rfl ?_
  refine a_callV rfl lX11_141 mo_X11_needDuty (q_X11_needDuty_200) rfl rfl rfl ⟨11, _, rfl, rfl, rfl⟩ rfl (fun v' h' hv => ?_) (fun E h' hx => XR.cm hx (by decide) (fun _ z => z))
  obtain ⟨rfl, rfl⟩ := hv
  refine a_l0 rfl rfl rfl ?_
  refine a_getq rfl gfX11_37_11 rfl (rfl) ?_
  refine a_l1 rfl rfl rfl ?_
  refine a_gS rfl lX11_298 mo_X4_chainOf (q_X4_chainOf_235) rfl rfl rfl rfl (fun v' h' hv => ?_)
  obtain ⟨⟨v2, rfl⟩, rfl⟩ := hv
  exact a_iret rfl rfl ⟨⟨_, rfl⟩, rfl⟩
theorem q_X11_after_200 {S : aS} {I : Nat → Nat → Int32} {L : Nat → Nat → Int64} {w1 w2 t : Nat} {x1 : Int32} : Sp S m_X11_after 15 1 6 [.ref 200, .int x1] (hp I L w1 w2 t) (QE isI (hp I L w1 w2 t)) (XR (Fm sQ I) L w1 w2 [0]) := by
  refine Sp_of ok_X11_after rfl rfl ?_
  show AW S m_X11_after 15 _ _ 1 6 0 [some (.ref 200), some (.int x1)] [] (hp I L w1 w2 t)
  refine a_l0 rfl rfl rfl ?_
  refine a_l1 rfl rfl rfl ?_
  refine a_callV rfl lX11_141 mo_X11_needDuty (q_X11_needDuty_200) rfl rfl rfl ⟨11, _, rfl, rfl, rfl⟩ rfl (fun v' h' hv => ?_) (fun E h' hx => XR.cm hx (by decide) (fun _ z => z))
  obtain ⟨rfl, rfl⟩ := hv
  refine a_l0 rfl rfl rfl ?_
  refine a_getq rfl gfX11_37_11 rfl (rfl) ?_
  refine a_l1 rfl rfl rfl ?_
  refine a_gS rfl lX11_301 mo_X4_leaningOn (q_X4_leaningOn_235) rfl rfl rfl rfl (fun v' h' hv => ?_)
  obtain ⟨⟨v2, rfl⟩, rfl⟩ := hv
  exact a_iret rfl rfl ⟨⟨_, rfl⟩, rfl⟩
theorem q_X11_depth_200 {S : aS} {I : Nat → Nat → Int32} {L : Nat → Nat → Int64} {w1 w2 t : Nat} {x1 : Int32} : Sp S m_X11_depth 14 1 6 [.ref 200, .int x1] (hp I L w1 w2 t) (QE isI (hp I L w1 w2 t)) (XR (Fm sQ I) L w1 w2 [0]) := by
  refine Sp_of ok_X11_depth rfl rfl ?_
  show AW S m_X11_depth 14 _ _ 1 6 0 [some (.ref 200), some (.int x1)] [] (hp I L w1 w2 t)
  refine a_l0 rfl rfl rfl ?_
  refine a_l1 rfl rfl rfl ?_
  refine a_callV rfl lX11_141 mo_X11_needDuty (q_X11_needDuty_200) rfl rfl rfl ⟨11, _, rfl, rfl, rfl⟩ rfl (fun v' h' hv => ?_) (fun E h' hx => XR.cm hx (by decide) (fun _ z => z))
  obtain ⟨rfl, rfl⟩ := hv
  refine a_l0 rfl rfl rfl ?_
  refine a_getq rfl gfX11_37_11 rfl (rfl) ?_
  refine a_l1 rfl rfl rfl ?_
  refine a_gS rfl lX11_298 mo_X4_chainOf (q_X4_chainOf_235) rfl rfl rfl rfl (fun v' h' hv => ?_)
  obtain ⟨⟨v2, rfl⟩, rfl⟩ := hv
  refine a_l0 rfl rfl rfl ?_
  refine a_getq rfl gfX11_37_11 rfl (rfl) ?_
  refine a_s rfl rfl ?_
  refine a_gV rfl lX11_200 mo_X5_bitsIn (q_X5_bitsIn_235) rfl rfl rfl ⟨5, _, rfl, rfl, rfl⟩ rfl (fun v' h' hv => ?_)
  obtain ⟨⟨v3, rfl⟩, rfl⟩ := hv
  refine a_s rfl rfl ?_
  refine a_s rfl rfl ?_
  refine a_s rfl rfl ?_
  refine a_eS1 rfl lX11_261 mo_J6_bitCount_0f7a4 (sp_bitCount) rfl rfl rfl rfl ?_
  exact a_iret rfl rfl ⟨⟨_, rfl⟩, rfl⟩
theorem q_X11_older_200 {S : aS} {I : Nat → Nat → Int32} {L : Nat → Nat → Int64} {w1 w2 t : Nat} {x1 : Int32} : Sp S m_X11_older 15 1 6 [.ref 200, .int x1] (hp I L w1 w2 t) (QE isI (hp I L w1 w2 t)) (XR (Fm sQ I) L w1 w2 [1]) := by
  refine Sp_of ok_X11_older rfl rfl ?_
  show AW S m_X11_older 15 _ _ 1 6 0 [some (.ref 200), some (.int x1)] [] (hp I L w1 w2 t)
  refine a_l1 rfl rfl rfl ?_
  refine a_s rfl rfl ?_
  refine a_s rfl rfl ?_
  refine a_callS rfl lX11_250 mo_X11_needNumber q_needNumber rfl rfl rfl rfl (fun v' h' hv => ?_) (fun E h' hx => XR.cm hx (by decide) (fun _ z => z))
  obtain ⟨rfl, rfl, hbm1⟩ := hv
  obtain ⟨m1, hm1a, hm1b, rfl⟩ := inB_nI (a := 0) (b := 99) (by decide) hbm1
  refine a_l0 rfl rfl rfl ?_
  refine a_getq rfl gfX11_37_11 rfl (rfl) ?_
  refine a_l1 rfl rfl rfl ?_
  refine a_gV rfl lX11_307 mo_X5_olderThan (q_X5_olderThan_235) rfl rfl rfl ⟨5, _, rfl, rfl, rfl⟩ rfl (fun v' h' hv => ?_)
  obtain ⟨⟨v2, rfl⟩, rfl⟩ := hv
  refine a_eS1 rfl lX11_261 mo_J6_bitCount_0f7a4 (sp_bitCount) rfl rfl rfl rfl ?_
  exact a_iret rfl rfl ⟨⟨_, rfl⟩, rfl⟩
theorem q_X11_young_200 {S : aS} {I : Nat → Nat → Int32} {L : Nat → Nat → Int64} {w1 w2 t : Nat} {x1 : Int32} : Sp S m_X11_young 17 1 6 [.ref 200, .int x1] (hp I L w1 w2 t) (QE isI (hp I L w1 w2 t)) (XR (Fm sQ I) L w1 w2 [1]) := by
  refine Sp_of ok_X11_young rfl rfl ?_
  show AW S m_X11_young 17 _ _ 1 6 0 [some (.ref 200), some (.int x1)] [] (hp I L w1 w2 t)
  refine a_l1 rfl rfl rfl ?_
  refine a_s rfl rfl ?_
  refine a_s rfl rfl ?_
  refine a_callS rfl lX11_250 mo_X11_needNumber q_needNumber rfl rfl rfl rfl (fun v' h' hv => ?_) (fun E h' hx => XR.cm hx (by decide) (fun _ z => z))
  obtain ⟨rfl, rfl, hbm1⟩ := hv
  obtain ⟨m1, hm1a, hm1b, rfl⟩ := inB_nI (a := 0) (b := 98) (by decide) hbm1
  refine a_l0 rfl rfl rfl ?_
  refine a_getq rfl gfX11_37_11 rfl (rfl) ?_
  refine a_l1 rfl rfl rfl ?_
  refine a_gS rfl lX11_304 mo_X4_hoursTillYoung (q_X4_hoursTillYoung_235) rfl rfl rfl rfl (fun v' h' hv => ?_)
  obtain ⟨⟨v2, rfl⟩, rfl⟩ := hv
  exact a_iret rfl rfl ⟨⟨_, rfl⟩, rfl⟩
theorem q_X5_kerbAt_235 {S : aS} {I : Nat → Nat → Int32} {L : Nat → Nat → Int64} {w1 w2 t : Nat} {x1 x2 : Int32} : Sp S m_X5_kerbAt 15 0 0 [.ref 235, .int x1, .int x2] (hp I L w1 w2 t) (QE isI (hp I L w1 w2 t)) nX := by
  refine Sp_of ok_X5_kerbAt rfl rfl ?_
  show AW S m_X5_kerbAt 15 _ _ 0 0 0 [some (.ref 235), some (.int x1), some (.int x2), none, none] [] (hp I L w1 w2 t)
  refine a_l0 rfl rfl rfl ?_
  refine a_l1 rfl rfl rfl ?_
  refine a_gV rfl lX5_113 mo_X5_placeOf (q_X5_placeOf_235) rfl rfl rfl ⟨5, _, rfl, rfl, rfl⟩ rfl (fun v' h' hv => ?_)
  obtain ⟨⟨v1, rfl⟩, rfl⟩ := hv
  refine a_s3 rfl rfl rfl rfl rfl rfl ?_
  refine a_l3 rfl rfl rfl ?_
  refine a_s rfl rfl ?_
  refine a_ic_eq rfl (fun c8 => ?_) (fun c8 => ?_)
  · refine a_s rfl rfl ?_
    exact a_iret rfl rfl ⟨⟨_, rfl⟩, rfl⟩
  · refine a_l0 rfl rfl rfl ?_
    refine a_geti rfl gfX5_40_5 rfl ?_
    refine a_s rfl rfl ?_
    refine a_ic_ge rfl (fun c16 => ?_) (fun c16 => ?_)
    · refine a_l2 rfl rfl rfl ?_
      refine a_l0 rfl rfl rfl ?_
      refine a_geti rfl gfX5_40_5 rfl ?_
      refine a_idiv rfl (fun z => by rw [z] at c16; exact absurd c16 (by decide)) ?_
      refine a_l3 rfl rfl rfl ?_
      refine a_s rfl rfl ?_
      refine a_s4 rfl rfl rfl rfl rfl rfl ?_
      refine a_l4 rfl rfl rfl ?_
      refine a_if_ge rfl (fun c33 => ?_) (fun c33 => ?_)
      · refine a_l4 rfl rfl rfl ?_
        refine a_s rfl rfl ?_
        refine a_min rfl lX5_127 mj_min rfl rfl ?_
        exact a_iret rfl rfl ⟨⟨_, rfl⟩, rfl⟩
      · refine a_s rfl rfl ?_
        refine a_goto rfl ?_
        exact a_iret rfl rfl ⟨⟨_, rfl⟩, rfl⟩
    · refine a_s rfl rfl ?_
      exact a_iret rfl rfl ⟨⟨_, rfl⟩, rfl⟩
theorem q_X11_where_200 {S : aS} {I : Nat → Nat → Int32} {L : Nat → Nat → Int64} {w1 w2 t : Nat} {x1 x2 : Int32} : Sp S m_X11_where 16 2 12 [.ref 200, .int x1, .int x2] (hp I L w1 w2 t) (QE isI (hp I L w1 w2 t)) (XR (Fm sQ I) L w1 w2 [0, 1]) := by
  refine Sp_of ok_X11_where rfl rfl ?_
  show AW S m_X11_where 16 _ _ 2 12 0 [some (.ref 200), some (.int x1), some (.int x2)] [] (hp I L w1 w2 t)
  refine a_l0 rfl rfl rfl ?_
  refine a_l1 rfl rfl rfl ?_
  refine a_callV rfl lX11_141 mo_X11_needDuty (q_X11_needDuty_200) rfl rfl rfl ⟨11, _, rfl, rfl, rfl⟩ rfl (fun v' h' hv => ?_) (fun E h' hx => XR.cm hx (by decide) (fun _ z => z))
  obtain ⟨rfl, rfl⟩ := hv
  refine a_l2 rfl rfl rfl ?_
  refine a_s rfl rfl ?_
  refine a_s rfl rfl ?_
  refine a_callS rfl lX11_250 mo_X11_needNumber q_needNumber rfl rfl rfl rfl (fun v' h' hv => ?_) (fun E h' hx => XR.cm hx (by decide) (fun _ z => z))
  obtain ⟨rfl, rfl, hbm2⟩ := hv
  obtain ⟨m2, hm2a, hm2b, rfl⟩ := inB_nI (a := 0) (b := 300) (by decide) hbm2
  refine a_l0 rfl rfl rfl ?_
  refine a_getq rfl gfX11_37_11 rfl (rfl) ?_
  refine a_l1 rfl rfl rfl ?_
  refine a_l2 rfl rfl rfl ?_
  refine a_gV rfl lX11_272 mo_X5_kerbAt (q_X5_kerbAt_235) rfl rfl rfl ⟨5, _, rfl, rfl, rfl⟩ rfl (fun v' h' hv => ?_)
  obtain ⟨⟨v3, rfl⟩, rfl⟩ := hv
  exact a_iret rfl rfl ⟨⟨_, rfl⟩, rfl⟩
theorem q_X11_needKerb {S : aS} {I : Nat → Nat → Int32} {L : Nat → Nat → Int64} {w1 w2 t : Nat} {x0 : Int32} : Sp S m_X11_needKerb 13 1 6 [.int x0] (hp I L w1 w2 t) (QE isV (hp I L w1 w2 t)) (XR (Fm sQ I) L w1 w2 [0]) := by
  refine Sp_of ok_X11_needKerb rfl rfl ?_
  show AW S m_X11_needKerb 13 _ _ 1 6 0 [some (.int x0)] [] (hp I L w1 w2 t)
  refine a_l0 rfl rfl rfl ?_
  refine a_if_lt rfl (fun c1 => ?_) (fun c1 => ?_)
  · exact a_throw rfl rfl rfl rfl tX11_ioobe rfl rfl rfl rfl rfl ⟨⟨0, by decide, rfl⟩, _, rfl, Fm.rf⟩
  · refine a_l0 rfl rfl rfl ?_
    refine a_s rfl rfl ?_
    refine a_ic_le rfl (fun c7 => ?_) (fun c7 => ?_)
    · exact a_vret rfl rfl ⟨rfl, rfl⟩
    · exact a_throw rfl rfl rfl rfl tX11_ioobe rfl rfl rfl rfl rfl ⟨⟨0, by decide, rfl⟩, _, rfl, Fm.rf⟩
theorem q_X11_greets_200 {S : aS} {I : Nat → Nat → Int32} {L : Nat → Nat → Int64} {w1 w2 t : Nat} {x1 x2 : Int32} : Sp S m_X11_greets 15 2 12 [.ref 200, .int x1, .int x2] (hp I L w1 w2 t) (QE isI (hp I L w1 w2 t)) (XR (Fm sQ I) L w1 w2 [0]) := by
  refine Sp_of ok_X11_greets rfl rfl ?_
  show AW S m_X11_greets 15 _ _ 2 12 0 [some (.ref 200), some (.int x1), some (.int x2), none] [] (hp I L w1 w2 t)
  refine a_l0 rfl rfl rfl ?_
  refine a_l1 rfl rfl rfl ?_
  refine a_callV rfl lX11_141 mo_X11_needDuty (q_X11_needDuty_200) rfl rfl rfl ⟨11, _, rfl, rfl, rfl⟩ rfl (fun v' h' hv => ?_) (fun E h' hx => XR.cm hx (by decide) (fun _ z => z))
  obtain ⟨rfl, rfl⟩ := hv
  refine a_l2 rfl rfl rfl ?_
  refine a_callS rfl lX11_269 mo_X11_needKerb (q_X11_needKerb) rfl rfl rfl rfl (fun v' h' hv => ?_) (fun E h' hx => XR.cm hx (by decide) (fun _ z => z))
  obtain ⟨rfl, rfl⟩ := hv
  refine a_l0 rfl rfl rfl ?_
  refine a_getq rfl gfX11_37_11 rfl (rfl) ?_
  refine a_l1 rfl rfl rfl ?_
  refine a_gV rfl lX11_173 mo_X5_placeOf (q_X5_placeOf_235) rfl rfl rfl ⟨5, _, rfl, rfl, rfl⟩ rfl (fun v' h' hv => ?_)
  obtain ⟨⟨v3, rfl⟩, rfl⟩ := hv
  refine a_s3 rfl rfl rfl rfl rfl rfl ?_
  refine a_l3 rfl rfl rfl ?_
  refine a_s rfl rfl ?_
  refine a_ic_ne rfl (fun c20 => ?_) (fun c20 => ?_)
  · refine a_l0 rfl rfl rfl ?_
    refine a_getq rfl gfX11_37_11 rfl (rfl) ?_
    refine a_geti rfl gfX11_194_5 rfl ?_
    refine a_l3 rfl rfl rfl ?_
    refine a_l2 rfl rfl rfl ?_
    refine a_s rfl rfl ?_
    refine a_s rfl rfl ?_
    exact a_iret rfl rfl ⟨⟨_, rfl⟩, rfl⟩
  · refine a_s rfl rfl ?_
    refine a_goto rfl ?_
    exact a_iret rfl rfl ⟨⟨_, rfl⟩, rfl⟩
theorem q_X11_crowd_200 {S : aS} {I : Nat → Nat → Int32} {L : Nat → Nat → Int64} {w1 w2 t : Nat} {x1 x2 x3 : Int32} : Sp S m_X11_crowd 16 4 24 [.ref 200, .int x1, .int x2, .int x3] (hp I L w1 w2 t) (QE isI (hp I L w1 w2 t)) (XR (Fm sQ I) L w1 w2 [0, 1]) := by
  refine Sp_of ok_X11_crowd rfl rfl ?_
  show AW S m_X11_crowd 16 _ _ 4 24 0 [some (.ref 200), some (.int x1), some (.int x2), some (.int x3), none, none, none] [] (hp I L w1 w2 t)
  refine a_l1 rfl rfl rfl ?_
  refine a_callS rfl lX11_269 mo_X11_needKerb (q_X11_needKerb) rfl rfl rfl rfl (fun v' h' hv => ?_) (fun E h' hx => XR.cm hx (by decide) (fun _ z => z))
  obtain ⟨rfl, rfl⟩ := hv
  refine a_l2 rfl rfl rfl ?_
  refine a_callS rfl lX11_269 mo_X11_needKerb (q_X11_needKerb) rfl rfl rfl rfl (fun v' h' hv => ?_) (fun E h' hx => XR.cm hx (by decide) (fun _ z => z))
  obtain ⟨rfl, rfl⟩ := hv
  refine a_l3 rfl rfl rfl ?_
  refine a_s rfl rfl ?_
  refine a_s rfl rfl ?_
  refine a_callS rfl lX11_250 mo_X11_needNumber q_needNumber rfl rfl rfl rfl (fun v' h' hv => ?_) (fun E h' hx => XR.cm hx (by decide) (fun _ z => z))
  obtain ⟨rfl, rfl, hbm3⟩ := hv
  obtain ⟨m3, hm3a, hm3b, rfl⟩ := inB_nI (a := 0) (b := 300) (by decide) hbm3
  refine a_l1 rfl rfl rfl ?_
  refine a_s rfl rfl ?_
  refine a_l2 rfl rfl rfl ?_
  refine a_callS rfl lX11_250 mo_X11_needNumber q_needNumber rfl rfl rfl rfl (fun v' h' hv => ?_) (fun E h' hx => XR.cm hx (by decide) (fun _ z => z))
  obtain ⟨rfl, rfl, hbm4⟩ := hv
  refine a_s rfl rfl ?_
  refine a_s4 rfl rfl rfl rfl rfl rfl ?_
  refine a_s rfl rfl ?_
  refine a_s5 rfl rfl rfl rfl rfl rfl ?_
  refine a_cnt (j0 := 0) (fun j ls h => ∃ a0, ls = [some (.ref 200), some (.int x1), some (.int x2), some (.int (nI m3)), some (.int a0), some (.int (nI j)), none] ∧ h = hp I L w1 w2 t) (by decide) ⟨_, rfl, rfl⟩ ⟨rfl, rfl, rfl, rfl, rfl, rfl, trivial⟩ ?_
  rintro j28 _ _ hj28 ⟨a0_28, rfl, rfl⟩ ih28
  refine a_l5 rfl rfl rfl ?_
  refine a_l0 rfl rfl rfl ?_
  refine a_getq rfl gfX11_37_11 rfl (rfl) ?_
  refine a_geti rfl gfX11_182_5 rfl ?_
  refine a_ic_ge rfl (fun c37 => ?_) (fun c37 => ?_)
  · refine a_l4 rfl rfl rfl ?_
    exact a_iret rfl rfl ⟨⟨_, rfl⟩, rfl⟩
  · refine a_l0 rfl rfl rfl ?_
    refine a_getq rfl gfX11_37_11 rfl (rfl) ?_
    refine a_l5 rfl rfl rfl ?_
    refine a_l3 rfl rfl rfl ?_
    refine a_gV rfl lX11_272 mo_X5_kerbAt (q_X5_kerbAt_235) rfl rfl rfl ⟨5, _, rfl, rfl, rfl⟩ rfl (fun v' h' hv => ?_)
    obtain ⟨⟨v5, rfl⟩, rfl⟩ := hv
    refine a_s6 rfl rfl rfl rfl rfl rfl ?_
    refine a_l6 rfl rfl rfl ?_
    refine a_l1 rfl rfl rfl ?_
    refine a_ic_lt rfl (fun c55 => ?_) (fun c55 => ?_)
    · refine a_i5 rfl rfl rfl ?_
      refine a_goto rfl ?_
      exact ih28 _ _ _ _ c37 ⟨_, rfl, rfl⟩ ⟨rfl, rfl, rfl, rfl, rfl, nS _, trivial⟩
    · refine a_l6 rfl rfl rfl ?_
      refine a_l2 rfl rfl rfl ?_
      refine a_ic_gt rfl (fun c61 => ?_) (fun c61 => ?_)
      · refine a_i5 rfl rfl rfl ?_
        refine a_goto rfl ?_
        exact ih28 _ _ _ _ c37 ⟨_, rfl, rfl⟩ ⟨rfl, rfl, rfl, rfl, rfl, nS _, trivial⟩
      · refine a_i4 rfl rfl rfl ?_
        refine a_i5 rfl rfl rfl ?_
        refine a_goto rfl ?_
        exact ih28 _ _ _ _ c37 ⟨_, rfl, rfl⟩ ⟨rfl, rfl, rfl, rfl, rfl, nS _, trivial⟩
theorem q_X11_needTwo {S : aS} {I : Nat → Nat → Int32} {L : Nat → Nat → Int64} {w1 w2 t : Nat} {x0 x1 : Int32} : Sp S m_X11_needTwo 13 1 6 [.int x0, .int x1] (hp I L w1 w2 t) (QE isV (hp I L w1 w2 t)) (XR (Fm sQ I) L w1 w2 [1]) := by
  refine Sp_of ok_X11_needTwo rfl rfl ?_
  show AW S m_X11_needTwo 13 _ _ 1 6 0 [some (.int x0), some (.int x1)] [] (hp I L w1 w2 t)
  refine a_l0 rfl rfl rfl ?_
  refine a_l1 rfl rfl rfl ?_
  refine a_ic_ne rfl (fun c2 => ?_) (fun c2 => ?_)
  · exact a_vret rfl rfl ⟨rfl, rfl⟩
  · exact a_throw rfl rfl rfl rfl tX11_iae rfl rfl rfl rfl rfl ⟨⟨1, by decide, rfl⟩, _, rfl, Fm.rf⟩
theorem q_X11_swap_200 {S : aS} {I : Nat → Nat → Int32} {L : Nat → Nat → Int64} {w1 w2 t : Nat} {x1 x2 : Int32} : Sp S m_X11_swap 17 3 18 [.ref 200, .int x1, .int x2] (hp I L w1 w2 t) (QE isI (hp I L w1 w2 t)) (XR (Fm sQ I) L w1 w2 [0, 1]) := by
  refine Sp_of ok_X11_swap rfl rfl ?_
  show AW S m_X11_swap 17 _ _ 3 18 0 [some (.ref 200), some (.int x1), some (.int x2)] [] (hp I L w1 w2 t)
  refine a_l0 rfl rfl rfl ?_
  refine a_l1 rfl rfl rfl ?_
  refine a_callV rfl lX11_110 mo_X11_needPerson (q_X11_needPerson_200) rfl rfl rfl ⟨11, _, rfl, rfl, rfl⟩ rfl (fun v' h' hv => ?_) (fun E h' hx => XR.cm hx (by decide) (fun _ z => z))
  obtain ⟨rfl, rfl⟩ := hv
  refine a_l0 rfl rfl rfl ?_
  refine a_l2 rfl rfl rfl ?_
  refine a_callV rfl lX11_110 mo_X11_needPerson (q_X11_needPerson_200) rfl rfl rfl ⟨11, _, rfl, rfl, rfl⟩ rfl (fun v' h' hv => ?_) (fun E h' hx => XR.cm hx (by decide) (fun _ z => z))
  obtain ⟨rfl, rfl⟩ := hv
  refine a_l1 rfl rfl rfl ?_
  refine a_l2 rfl rfl rfl ?_
  refine a_callS rfl lX11_247 mo_X11_needTwo (q_X11_needTwo) rfl rfl rfl rfl (fun v' h' hv => ?_) (fun E h' hx => XR.cm hx (by decide) (fun _ z => z))
  obtain ⟨rfl, rfl⟩ := hv
  refine a_l0 rfl rfl rfl ?_
  refine a_getq rfl gfX11_37_11 rfl (rfl) ?_
  refine a_l1 rfl rfl rfl ?_
  refine a_l2 rfl rfl rfl ?_
  refine a_gS rfl lX11_322 mo_X0_firstSwap (q_X0_firstSwap_235) rfl rfl rfl rfl (fun v' h' hv => ?_)
  obtain ⟨⟨v4, rfl⟩, rfl⟩ := hv
  exact a_iret rfl rfl ⟨⟨_, rfl⟩, rfl⟩
theorem q_X11_rests_200 {S : aS} {I : Nat → Nat → Int32} {L : Nat → Nat → Int64} {w1 w2 t : Nat} {x1 x2 x3 : Int32} : Sp S m_X11_rests 16 4 24 [.ref 200, .int x1, .int x2, .int x3] (hp I L w1 w2 t) (QR (Fm sQ I) isI L w1 w2 t) (XR (Fm sQ I) L w1 w2 [0, 1]) := by
  refine Sp_of ok_X11_rests rfl rfl ?_
  show AW S m_X11_rests 16 _ _ 4 24 0 [some (.ref 200), some (.int x1), some (.int x2), some (.int x3)] [] (hp I L w1 w2 t)
  refine a_l0 rfl rfl rfl ?_
  refine a_l1 rfl rfl rfl ?_
  refine a_callV rfl lX11_110 mo_X11_needPerson (q_X11_needPerson_200) rfl rfl rfl ⟨11, _, rfl, rfl, rfl⟩ rfl (fun v' h' hv => ?_) (fun E h' hx => XR.cm hx (by decide) (fun _ z => z))
  obtain ⟨rfl, rfl⟩ := hv
  refine a_l0 rfl rfl rfl ?_
  refine a_l2 rfl rfl rfl ?_
  refine a_callV rfl lX11_110 mo_X11_needPerson (q_X11_needPerson_200) rfl rfl rfl ⟨11, _, rfl, rfl, rfl⟩ rfl (fun v' h' hv => ?_) (fun E h' hx => XR.cm hx (by decide) (fun _ z => z))
  obtain ⟨rfl, rfl⟩ := hv
  refine a_l0 rfl rfl rfl ?_
  refine a_l3 rfl rfl rfl ?_
  refine a_callV rfl lX11_141 mo_X11_needDuty (q_X11_needDuty_200) rfl rfl rfl ⟨11, _, rfl, rfl, rfl⟩ rfl (fun v' h' hv => ?_) (fun E h' hx => XR.cm hx (by decide) (fun _ z => z))
  obtain ⟨rfl, rfl⟩ := hv
  refine a_l1 rfl rfl rfl ?_
  refine a_l2 rfl rfl rfl ?_
  refine a_callS rfl lX11_247 mo_X11_needTwo (q_X11_needTwo) rfl rfl rfl rfl (fun v' h' hv => ?_) (fun E h' hx => XR.cm hx (by decide) (fun _ z => z))
  obtain ⟨rfl, rfl⟩ := hv
  refine a_l0 rfl rfl rfl ?_
  refine a_getq rfl gfX11_44_11 rfl (rfl) ?_
  refine a_l0 rfl rfl rfl ?_
  refine a_getq rfl gfX11_37_11 rfl (rfl) ?_
  refine a_l3 rfl rfl rfl ?_
  refine a_gV rfl lX11_170 mo_X2_shameOf (q_X2_shameOf_246_235) rfl rfl rfl ⟨2, _, rfl, rfl, rfl⟩ rfl (fun v' h' hv => ?_)
  obtain ⟨⟨v5, rfl⟩, I6, rfl, f7⟩ := hv
  refine a_l0 rfl rfl rfl ?_
  refine a_getq rfl gfX11_37_11 rfl (rfl) ?_
  refine a_getq rfl gfX11_147_5 rfl (rfl) ?_
  refine a_l3 rfl rfl rfl ?_
  refine a_eS1 rfl lX11_117 mo_X11_at (sp_X11_at rfl) rfl rfl rfl rfl ?_
  refine a_gS rfl lX11_326 mo_X0_restingChoices (q_X0_restingChoices) rfl rfl rfl rfl (fun v' h' hv => ?_)
  obtain ⟨⟨v8, rfl⟩, rfl⟩ := hv
  exact a_iret rfl rfl ⟨⟨_, rfl⟩, _, rfl, f7⟩
theorem q_X11_done_200 {S : aS} {I : Nat → Nat → Int32} {L : Nat → Nat → Int64} {w1 w2 t : Nat} {x1 : Int32} : Sp S m_X11_done 19 1 6 [.ref 200, .int x1] (hp I L w1 w2 t) (QR (Fm sQ I) isI L w1 w2 t) (XR (Fm sQ I) L w1 w2 [0]) := by
  refine Sp_of ok_X11_done rfl rfl ?_
  show AW S m_X11_done 19 _ _ 1 6 0 [some (.ref 200), some (.int x1)] [] (hp I L w1 w2 t)
  refine a_l0 rfl rfl rfl ?_
  refine a_l1 rfl rfl rfl ?_
  refine a_callV rfl lX11_141 mo_X11_needDuty (q_X11_needDuty_200) rfl rfl rfl ⟨11, _, rfl, rfl, rfl⟩ rfl (fun v' h' hv => ?_) (fun E h' hx => XR.cm hx (by decide) (fun _ z => z))
  obtain ⟨rfl, rfl⟩ := hv
  refine a_l0 rfl rfl rfl ?_
  refine a_getq rfl gfX11_55_11 rfl (rfl) ?_
  refine a_l0 rfl rfl rfl ?_
  refine a_getq rfl gfX11_37_11 rfl (rfl) ?_
  refine a_eV0 rfl lX11_78 mo_X5_copyFrom (sp_X5_copyFrom (a := 257) (b := 235) (by decide) (by decide) (by decide)) rfl rfl rfl ⟨5, _, rfl, rfl, rfl⟩ rfl ?_
  refine a_ren (P := Fm sQ I) (Fm.cp (Fm.rf (s := sQ)) sQ_257) (fun I2 f3 => ?_)
  refine a_l0 rfl rfl rfl ?_
  refine a_getq rfl gfX11_55_11 rfl (rfl) ?_
  refine a_l0 rfl rfl rfl ?_
  refine a_getq rfl gfX11_44_11 rfl (rfl) ?_
  refine a_l1 rfl rfl rfl ?_
  refine a_gV rfl lX11_342 mo_X5_daysTillDone (q_X5_daysTillDone_257_246) rfl rfl rfl ⟨5, _, rfl, rfl, rfl⟩ rfl (fun v' h' hv => ?_)
  obtain ⟨⟨v4, rfl⟩, I5, rfl, f6⟩ := hv
  replace f6 : Fm sQ I I5 := Fm.tr (f3) (f6)
  exact a_iret rfl rfl ⟨⟨_, rfl⟩, _, rfl, f6⟩
theorem q_X11_all_200 {S : aS} {I : Nat → Nat → Int32} {L : Nat → Nat → Int64} {w1 w2 t : Nat} : Sp S m_X11_all 19 0 0 [.ref 200] (hp I L w1 w2 t) (QR (Fm sQ I) isI L w1 w2 t) nX := by
  refine Sp_of ok_X11_all rfl rfl ?_
  show AW S m_X11_all 19 _ _ 0 0 0 [some (.ref 200), none] [] (hp I L w1 w2 t)
  refine a_l0 rfl rfl rfl ?_
  refine a_getq rfl gfX11_55_11 rfl (rfl) ?_
  refine a_l0 rfl rfl rfl ?_
  refine a_getq rfl gfX11_37_11 rfl (rfl) ?_
  refine a_eV0 rfl lX11_78 mo_X5_copyFrom (sp_X5_copyFrom (a := 257) (b := 235) (by decide) (by decide) (by decide)) rfl rfl rfl ⟨5, _, rfl, rfl, rfl⟩ rfl ?_
  refine a_ren (P := Fm sQ I) (Fm.cp (Fm.rf (s := sQ)) sQ_257) (fun I1 f2 => ?_)
  refine a_l0 rfl rfl rfl ?_
  refine a_getq rfl gfX11_55_11 rfl (rfl) ?_
  refine a_l0 rfl rfl rfl ?_
  refine a_getq rfl gfX11_44_11 rfl (rfl) ?_
  refine a_gV rfl lX11_346 mo_X5_daysTillNoneWaits (q_X5_daysTillNoneWaits_257_246) rfl rfl rfl ⟨5, _, rfl, rfl, rfl⟩ rfl (fun v' h' hv => ?_)
  obtain ⟨⟨v3, rfl⟩, I4, rfl, f5⟩ := hv
  replace f5 : Fm sQ I I4 := Fm.tr (f2) (f5)
  refine a_s1 rfl rfl rfl rfl rfl rfl ?_
  refine a_l1 rfl rfl rfl ?_
  refine a_s rfl rfl ?_
  refine a_ic_ne rfl (fun c27 => ?_) (fun c27 => ?_)
  · refine a_l1 rfl rfl rfl ?_
    exact a_iret rfl rfl ⟨⟨_, rfl⟩, _, rfl, f5⟩
  · refine a_s rfl rfl ?_
    refine a_goto rfl ?_
    exact a_iret rfl rfl ⟨⟨_, rfl⟩, _, rfl, f5⟩
theorem q_X11_help_200 {S : aS} {I : Nat → Nat → Int32} {L : Nat → Nat → Int64} {w1 w2 t : Nat} : Sp S m_X11_help 19 0 0 [.ref 200] (hp I L w1 w2 t) (QR (Fm sQ I) isI L w1 w2 t) nX := by
  refine Sp_of ok_X11_help rfl rfl ?_
  show AW S m_X11_help 19 _ _ 0 0 0 [some (.ref 200), none, none, none, none] [] (hp I L w1 w2 t)
  refine a_l0 rfl rfl rfl ?_
  refine a_getq rfl gfX11_55_11 rfl (rfl) ?_
  refine a_l0 rfl rfl rfl ?_
  refine a_getq rfl gfX11_37_11 rfl (rfl) ?_
  refine a_eV0 rfl lX11_78 mo_X5_copyFrom (sp_X5_copyFrom (a := 257) (b := 235) (by decide) (by decide) (by decide)) rfl rfl rfl ⟨5, _, rfl, rfl, rfl⟩ rfl ?_
  refine a_ren (P := Fm sQ I) (Fm.cp (Fm.rf (s := sQ)) sQ_257) (fun I1 f2 => ?_)
  refine a_l0 rfl rfl rfl ?_
  refine a_getq rfl gfX11_55_11 rfl (rfl) ?_
  refine a_l0 rfl rfl rfl ?_
  refine a_getq rfl gfX11_44_11 rfl (rfl) ?_
  refine a_gV rfl lX11_346 mo_X5_daysTillNoneWaits (q_X5_daysTillNoneWaits_257_246) rfl rfl rfl ⟨5, _, rfl, rfl, rfl⟩ rfl (fun v' h' hv => ?_)
  obtain ⟨⟨v3, rfl⟩, I4, rfl, f5⟩ := hv
  replace f5 : Fm sQ I I4 := Fm.tr (f2) (f5)
  refine a_s1 rfl rfl rfl rfl rfl rfl ?_
  refine a_s rfl rfl ?_
  refine a_s2 rfl rfl rfl rfl rfl rfl ?_
  refine a_s rfl rfl ?_
  refine a_s3 rfl rfl rfl rfl rfl rfl ?_
  refine a_cnt (j0 := 0) (fun j ls h => ∃ a0, ∃ a1, ∃ I', ls = [some (.ref 200), some (.int a0), some (.int a1), some (.int (nI j)), none] ∧ h = hp I' L w1 w2 t ∧ Fm sQ I I') (by decide) ⟨_, _, _, rfl, rfl, f5⟩ ⟨rfl, rfl, rfl, rfl, trivial⟩ ?_
  rintro j27 _ _ hj27 ⟨a0_27, a1_27, Ih27, rfl, rfl, fh27⟩ ih27
  refine a_l3 rfl rfl rfl ?_
  refine a_l0 rfl rfl rfl ?_
  refine a_getq rfl gfX11_37_11 rfl (rfl) ?_
  refine a_geti rfl gfX11_179_5 rfl ?_
  refine a_ic_ge rfl (fun c35 => ?_) (fun c35 => ?_)
  · refine a_l2 rfl rfl rfl ?_
    exact a_iret rfl rfl ⟨⟨_, rfl⟩, _, rfl, fh27⟩
  · refine a_l0 rfl rfl rfl ?_
    refine a_getq rfl gfX11_55_11 rfl (rfl) ?_
    refine a_l0 rfl rfl rfl ?_
    refine a_getq rfl gfX11_37_11 rfl (rfl) ?_
    refine a_eV0 rfl lX11_78 mo_X5_copyFrom (sp_X5_copyFrom (a := 257) (b := 235) (by decide) (by decide) (by decide)) rfl rfl rfl ⟨5, _, rfl, rfl, rfl⟩ rfl ?_
    refine a_ren (P := Fm sQ I) (Fm.tr (fh27) (Fm.cp (Fm.rf (s := sQ)) sQ_257)) (fun I6 f7 => ?_)
    refine a_l0 rfl rfl rfl ?_
    refine a_getq rfl gfX11_55_11 rfl (rfl) ?_
    refine a_getq rfl gfX11_121_5 rfl (rfl) ?_
    refine a_l3 rfl rfl rfl ?_
    refine a_s rfl rfl ?_
    refine a_l0 rfl rfl rfl ?_
    refine a_getq rfl gfX11_37_11 rfl (rfl) ?_
    refine a_getq rfl gfX11_121_5 rfl (rfl) ?_
    refine a_l3 rfl rfl rfl ?_
    refine a_eS1 rfl lX11_117 mo_X11_at (sp_X11_at rfl) rfl rfl rfl rfl ?_
    refine a_s rfl rfl ?_
    refine a_s rfl rfl ?_
    refine a_min rfl lX11_350 mj_min rfl rfl ?_
    refine a_eS0 rfl lX11_243 mo_X11_setAt (sp_X11_setAt rfl) rfl rfl rfl rfl ?_
    refine a_ren (P := Fm sQ I) (Fm.tr (f7) (Fm.st (Fm.rf (s := sQ)) (fun _ => rfl))) (fun I8 f9 => ?_)
    refine a_l0 rfl rfl rfl ?_
    refine a_getq rfl gfX11_55_11 rfl (rfl) ?_
    refine a_l0 rfl rfl rfl ?_
    refine a_getq rfl gfX11_44_11 rfl (rfl) ?_
    refine a_gV rfl lX11_346 mo_X5_daysTillNoneWaits (q_X5_daysTillNoneWaits_257_246) rfl rfl rfl ⟨5, _, rfl, rfl, rfl⟩ rfl (fun v' h' hv => ?_)
    obtain ⟨⟨v10, rfl⟩, I11, rfl, f12⟩ := hv
    replace f12 : Fm sQ I I11 := Fm.tr (f9) (f12)
    refine a_s4 rfl rfl rfl rfl rfl rfl ?_
    refine a_l4 rfl rfl rfl ?_
    refine a_l1 rfl rfl rfl ?_
    refine a_ic_ge rfl (fun c94 => ?_) (fun c94 => ?_)
    · refine a_i3 rfl rfl rfl ?_
      refine a_goto rfl ?_
      exact ih27 _ _ _ _ c35 ⟨_, _, _, rfl, rfl, f12⟩ ⟨rfl, rfl, rfl, nS _, trivial⟩
    · refine a_l4 rfl rfl rfl ?_
      refine a_s1 rfl rfl rfl rfl rfl rfl ?_
      refine a_l3 rfl rfl rfl ?_
      refine a_s2 rfl rfl rfl rfl rfl rfl ?_
      refine a_i3 rfl rfl rfl ?_
      refine a_goto rfl ?_
      exact ih27 _ _ _ _ c35 ⟨_, _, _, rfl, rfl, f12⟩ ⟨rfl, rfl, rfl, nS _, trivial⟩
theorem q_X11_crux_200 {S : aS} {I : Nat → Nat → Int32} {L : Nat → Nat → Int64} {w1 w2 t : Nat} : Sp S m_X11_crux 19 0 0 [.ref 200] (hp I L w1 w2 t) (QR (Fm sQ I) isI L w1 w2 t) nX := by
  refine Sp_of ok_X11_crux rfl rfl ?_
  show AW S m_X11_crux 19 _ _ 0 0 0 [some (.ref 200), none, none, none, none] [] (hp I L w1 w2 t)
  refine a_l0 rfl rfl rfl ?_
  refine a_getq rfl gfX11_55_11 rfl (rfl) ?_
  refine a_l0 rfl rfl rfl ?_
  refine a_getq rfl gfX11_37_11 rfl (rfl) ?_
  refine a_eV0 rfl lX11_78 mo_X5_copyFrom (sp_X5_copyFrom (a := 257) (b := 235) (by decide) (by decide) (by decide)) rfl rfl rfl ⟨5, _, rfl, rfl, rfl⟩ rfl ?_
  refine a_ren (P := Fm sQ I) (Fm.cp (Fm.rf (s := sQ)) sQ_257) (fun I1 f2 => ?_)
  refine a_l0 rfl rfl rfl ?_
  refine a_getq rfl gfX11_55_11 rfl (rfl) ?_
  refine a_l0 rfl rfl rfl ?_
  refine a_getq rfl gfX11_44_11 rfl (rfl) ?_
  refine a_gV rfl lX11_346 mo_X5_daysTillNoneWaits (q_X5_daysTillNoneWaits_257_246) rfl rfl rfl ⟨5, _, rfl, rfl, rfl⟩ rfl (fun v' h' hv => ?_)
  obtain ⟨⟨v3, rfl⟩, I4, rfl, f5⟩ := hv
  replace f5 : Fm sQ I I4 := Fm.tr (f2) (f5)
  refine a_s1 rfl rfl rfl rfl rfl rfl ?_
  refine a_s rfl rfl ?_
  refine a_s2 rfl rfl rfl rfl rfl rfl ?_
  refine a_s rfl rfl ?_
  refine a_s3 rfl rfl rfl rfl rfl rfl ?_
  refine a_cnt (j0 := 0) (fun j ls h => ∃ a0, ∃ a1, ∃ I', ls = [some (.ref 200), some (.int a0), some (.int a1), some (.int (nI j)), none] ∧ h = hp I' L w1 w2 t ∧ Fm sQ I I') (by decide) ⟨_, _, _, rfl, rfl, f5⟩ ⟨rfl, rfl, rfl, rfl, trivial⟩ ?_
  rintro j27 _ _ hj27 ⟨a0_27, a1_27, Ih27, rfl, rfl, fh27⟩ ih27
  refine a_l3 rfl rfl rfl ?_
  refine a_l0 rfl rfl rfl ?_
  refine a_getq rfl gfX11_37_11 rfl (rfl) ?_
  refine a_geti rfl gfX11_182_5 rfl ?_
  refine a_ic_ge rfl (fun c35 => ?_) (fun c35 => ?_)
  · refine a_l2 rfl rfl rfl ?_
    exact a_iret rfl rfl ⟨⟨_, rfl⟩, _, rfl, fh27⟩
  · refine a_l0 rfl rfl rfl ?_
    refine a_getq rfl gfX11_37_11 rfl (rfl) ?_
    refine a_l3 rfl rfl rfl ?_
    refine a_gV rfl lX11_329 mo_X5_isWaiting (q_X5_isWaiting_235) rfl rfl rfl ⟨5, _, rfl, rfl, rfl⟩ rfl (fun v' h' hv => ?_)
    obtain ⟨⟨v6, rfl⟩, rfl⟩ := hv
    refine a_if_eq rfl (fun c46 => ?_) (fun c46 => ?_)
    · refine a_i3 rfl rfl rfl ?_
      refine a_goto rfl ?_
      exact ih27 _ _ _ _ c35 ⟨_, _, _, rfl, rfl, fh27⟩ ⟨rfl, rfl, rfl, nS _, trivial⟩
    · refine a_l0 rfl rfl rfl ?_
      refine a_getq rfl gfX11_55_11 rfl (rfl) ?_
      refine a_l0 rfl rfl rfl ?_
      refine a_getq rfl gfX11_37_11 rfl (rfl) ?_
      refine a_eV0 rfl lX11_78 mo_X5_copyFrom (sp_X5_copyFrom (a := 257) (b := 235) (by decide) (by decide) (by decide)) rfl rfl rfl ⟨5, _, rfl, rfl, rfl⟩ rfl ?_
      refine a_ren (P := Fm sQ I) (Fm.tr (fh27) (Fm.cp (Fm.rf (s := sQ)) sQ_257)) (fun I7 f8 => ?_)
      refine a_l0 rfl rfl rfl ?_
      refine a_getq rfl gfX11_55_11 rfl (rfl) ?_
      refine a_l3 rfl rfl rfl ?_
      refine a_gV rfl lX11_233 mo_X5_finish (q_X5_finish_257) rfl rfl rfl ⟨5, _, rfl, rfl, rfl⟩ rfl (fun v' h' hv => ?_)
      obtain ⟨rfl, I10, rfl, f11⟩ := hv
      replace f11 : Fm sQ I I10 := Fm.tr (f8) (f11)
      refine a_l0 rfl rfl rfl ?_
      refine a_getq rfl gfX11_55_11 rfl (rfl) ?_
      refine a_l0 rfl rfl rfl ?_
      refine a_getq rfl gfX11_44_11 rfl (rfl) ?_
      refine a_gV rfl lX11_346 mo_X5_daysTillNoneWaits (q_X5_daysTillNoneWaits_257_246) rfl rfl rfl ⟨5, _, rfl, rfl, rfl⟩ rfl (fun v' h' hv => ?_)
      obtain ⟨⟨v12, rfl⟩, I13, rfl, f14⟩ := hv
      replace f14 : Fm sQ I I13 := Fm.tr (f11) (f14)
      refine a_s4 rfl rfl rfl rfl rfl rfl ?_
      refine a_l4 rfl rfl rfl ?_
      refine a_l1 rfl rfl rfl ?_
      refine a_ic_ge rfl (fun c84 => ?_) (fun c84 => ?_)
      · refine a_i3 rfl rfl rfl ?_
        refine a_goto rfl ?_
        exact ih27 _ _ _ _ c35 ⟨_, _, _, rfl, rfl, f14⟩ ⟨rfl, rfl, rfl, nS _, trivial⟩
      · refine a_l4 rfl rfl rfl ?_
        refine a_s1 rfl rfl rfl rfl rfl rfl ?_
        refine a_l3 rfl rfl rfl ?_
        refine a_s2 rfl rfl rfl rfl rfl rfl ?_
        refine a_i3 rfl rfl rfl ?_
        refine a_goto rfl ?_
        exact ih27 _ _ _ _ c35 ⟨_, _, _, rfl, rfl, f14⟩ ⟨rfl, rfl, rfl, nS _, trivial⟩
theorem q_X11_sick_200 {S : aS} {I : Nat → Nat → Int32} {L : Nat → Nat → Int64} {w1 w2 t : Nat} {x1 : Int32} : Sp S m_X11_sick 19 1 6 [.ref 200, .int x1] (hp I L w1 w2 t) (QR (Fm sQ I) isI L w1 w2 t) (XR (Fm sQ I) L w1 w2 [0]) := by
  refine Sp_of ok_X11_sick rfl rfl ?_
  show AW S m_X11_sick 19 _ _ 1 6 0 [some (.ref 200), some (.int x1), none, none] [] (hp I L w1 w2 t)
  refine a_l0 rfl rfl rfl ?_
  refine a_l1 rfl rfl rfl ?_
  refine a_callV rfl lX11_110 mo_X11_needPerson (q_X11_needPerson_200) rfl rfl rfl ⟨11, _, rfl, rfl, rfl⟩ rfl (fun v' h' hv => ?_) (fun E h' hx => XR.cm hx (by decide) (fun _ z => z))
  obtain ⟨rfl, rfl⟩ := hv
  refine a_l0 rfl rfl rfl ?_
  refine a_getq rfl gfX11_55_11 rfl (rfl) ?_
  refine a_l0 rfl rfl rfl ?_
  refine a_getq rfl gfX11_37_11 rfl (rfl) ?_
  refine a_eV0 rfl lX11_78 mo_X5_copyFrom (sp_X5_copyFrom (a := 257) (b := 235) (by decide) (by decide) (by decide)) rfl rfl rfl ⟨5, _, rfl, rfl, rfl⟩ rfl ?_
  refine a_ren (P := Fm sQ I) (Fm.cp (Fm.rf (s := sQ)) sQ_257) (fun I2 f3 => ?_)
  refine a_l0 rfl rfl rfl ?_
  refine a_getq rfl gfX11_55_11 rfl (rfl) ?_
  refine a_l0 rfl rfl rfl ?_
  refine a_getq rfl gfX11_44_11 rfl (rfl) ?_
  refine a_gV rfl lX11_346 mo_X5_daysTillNoneWaits (q_X5_daysTillNoneWaits_257_246) rfl rfl rfl ⟨5, _, rfl, rfl, rfl⟩ rfl (fun v' h' hv => ?_)
  obtain ⟨⟨v4, rfl⟩, I5, rfl, f6⟩ := hv
  replace f6 : Fm sQ I I5 := Fm.tr (f3) (f6)
  refine a_s2 rfl rfl rfl rfl rfl rfl ?_
  refine a_l2 rfl rfl rfl ?_
  refine a_s rfl rfl ?_
  refine a_ic_ne rfl (fun c32 => ?_) (fun c32 => ?_)
  · refine a_l0 rfl rfl rfl ?_
    refine a_getq rfl gfX11_55_11 rfl (rfl) ?_
    refine a_l0 rfl rfl rfl ?_
    refine a_getq rfl gfX11_37_11 rfl (rfl) ?_
    refine a_eV0 rfl lX11_78 mo_X5_copyFrom (sp_X5_copyFrom (a := 257) (b := 235) (by decide) (by decide) (by decide)) rfl rfl rfl ⟨5, _, rfl, rfl, rfl⟩ rfl ?_
    refine a_ren (P := Fm sQ I) (Fm.tr (f6) (Fm.cp (Fm.rf (s := sQ)) sQ_257)) (fun I7 f8 => ?_)
    refine a_l0 rfl rfl rfl ?_
    refine a_getq rfl gfX11_55_11 rfl (rfl) ?_
    refine a_getq rfl gfX11_121_5 rfl (rfl) ?_
    refine a_l1 rfl rfl rfl ?_
    refine a_s rfl rfl ?_
    refine a_eS0 rfl lX11_243 mo_X11_setAt (sp_X11_setAt rfl) rfl rfl rfl rfl ?_
    refine a_ren (P := Fm sQ I) (Fm.tr (f8) (Fm.st (Fm.rf (s := sQ)) (fun _ => rfl))) (fun I9 f10 => ?_)
    refine a_l0 rfl rfl rfl ?_
    refine a_getq rfl gfX11_55_11 rfl (rfl) ?_
    refine a_l0 rfl rfl rfl ?_
    refine a_getq rfl gfX11_44_11 rfl (rfl) ?_
    refine a_gV rfl lX11_346 mo_X5_daysTillNoneWaits (q_X5_daysTillNoneWaits_257_246) rfl rfl rfl ⟨5, _, rfl, rfl, rfl⟩ rfl (fun v' h' hv => ?_)
    obtain ⟨⟨v11, rfl⟩, I12, rfl, f13⟩ := hv
    replace f13 : Fm sQ I I12 := Fm.tr (f10) (f13)
    refine a_s3 rfl rfl rfl rfl rfl rfl ?_
    refine a_l3 rfl rfl rfl ?_
    refine a_s rfl rfl ?_
    refine a_ic_ne rfl (fun c76 => ?_) (fun c76 => ?_)
    · refine a_l3 rfl rfl rfl ?_
      refine a_l2 rfl rfl rfl ?_
      refine a_s rfl rfl ?_
      exact a_iret rfl rfl ⟨⟨_, rfl⟩, _, rfl, f13⟩
    · refine a_s rfl rfl ?_
      refine a_goto rfl ?_
      exact a_iret rfl rfl ⟨⟨_, rfl⟩, _, rfl, f13⟩
  · refine a_s rfl rfl ?_
    exact a_iret rfl rfl ⟨⟨_, rfl⟩, _, rfl, f6⟩
theorem q_X11_ahead_200 {S : aS} {I : Nat → Nat → Int32} {L : Nat → Nat → Int64} {w1 w2 t : Nat} {x1 x2 x3 : Int32} : Sp S m_X11_ahead 18 3 18 [.ref 200, .int x1, .int x2, .int x3] (hp I L w1 w2 t) (QR (Fm sQ I) isI L w1 w2 t) (XR (Fm sQ I) L w1 w2 [0, 1, 4]) := by
  refine Sp_of ok_X11_ahead rfl rfl ?_
  show AW S m_X11_ahead 18 _ _ 3 18 0 [some (.ref 200), some (.int x1), some (.int x2), some (.int x3), none] [] (hp I L w1 w2 t)
  refine a_l0 rfl rfl rfl ?_
  refine a_l1 rfl rfl rfl ?_
  refine a_callV rfl lX11_141 mo_X11_needDuty (q_X11_needDuty_200) rfl rfl rfl ⟨11, _, rfl, rfl, rfl⟩ rfl (fun v' h' hv => ?_) (fun E h' hx => XR.cm hx (by decide) (fun _ z => z))
  obtain ⟨rfl, rfl⟩ := hv
  refine a_l2 rfl rfl rfl ?_
  refine a_s rfl rfl ?_
  refine a_s rfl rfl ?_
  refine a_callS rfl lX11_250 mo_X11_needNumber q_needNumber rfl rfl rfl rfl (fun v' h' hv => ?_) (fun E h' hx => XR.cm hx (by decide) (fun _ z => z))
  obtain ⟨rfl, rfl, hbm2⟩ := hv
  obtain ⟨m2, hm2a, hm2b, rfl⟩ := inB_nI (a := 0) (b := 90) (by decide) hbm2
  refine a_l3 rfl rfl rfl ?_
  refine a_if_lt rfl (fun c13 => ?_) (fun c13 => ?_)
  · exact a_throw rfl rfl rfl rfl tX11_nsee rfl rfl rfl rfl rfl ⟨⟨4, by decide, rfl⟩, _, rfl, Fm.rf⟩
  · refine a_l3 rfl rfl rfl ?_
    refine a_s rfl rfl ?_
    refine a_ic_le rfl (fun c18 => ?_) (fun c18 => ?_)
    · refine a_l0 rfl rfl rfl ?_
      refine a_getq rfl gfX11_55_11 rfl (rfl) ?_
      refine a_l0 rfl rfl rfl ?_
      refine a_getq rfl gfX11_37_11 rfl (rfl) ?_
      refine a_eV0 rfl lX11_78 mo_X5_copyFrom (sp_X5_copyFrom (a := 257) (b := 235) (by decide) (by decide) (by decide)) rfl rfl rfl ⟨5, _, rfl, rfl, rfl⟩ rfl ?_
      refine a_ren (P := Fm sQ I) (Fm.cp (Fm.rf (s := sQ)) sQ_257) (fun I3 f4 => ?_)
      refine a_s rfl rfl ?_
      refine a_s4 rfl rfl rfl rfl rfl rfl ?_
      refine a_cnt (j0 := 0) (fun j ls h => ∃ I', ls = [some (.ref 200), some (.int x1), some (.int (nI m2)), some (.int x3), some (.int (nI j))] ∧ h = hp I' L w1 w2 t ∧ Fm sQ I I') (by decide) ⟨_, rfl, rfl, f4⟩ ⟨rfl, rfl, rfl, rfl, rfl, trivial⟩ ?_
      rintro j43 _ _ hj43 ⟨Ih43, rfl, rfl, fh43⟩ ih43
      refine a_l4 rfl rfl rfl ?_
      refine a_l2 rfl rfl rfl ?_
      refine a_ic_ge rfl (fun c46 => ?_) (fun c46 => ?_)
      · refine a_l3 rfl rfl rfl ?_
        refine a_lsw2 rfl (by decide) (by decide) (fun hx => ?_) (fun hx => ?_) (fun hx hx2 => ?_)
        · refine a_pc (pc' := 96) (by decide) ?_
          refine a_l0 rfl rfl rfl ?_
          refine a_getq rfl gfX11_55_11 rfl (rfl) ?_
          refine a_getq rfl gfX11_147_5 rfl (rfl) ?_
          refine a_l1 rfl rfl rfl ?_
          refine a_eS1 rfl lX11_117 mo_X11_at (sp_X11_at rfl) rfl rfl rfl rfl ?_
          exact a_iret rfl rfl ⟨⟨_, rfl⟩, _, rfl, fh43⟩
        · refine a_pc (pc' := 108) (by decide) ?_
          refine a_l0 rfl rfl rfl ?_
          refine a_getq rfl gfX11_55_11 rfl (rfl) ?_
          refine a_getq rfl gfX11_150_5 rfl (rfl) ?_
          refine a_l1 rfl rfl rfl ?_
          refine a_eS1 rfl lX11_117 mo_X11_at (sp_X11_at rfl) rfl rfl rfl rfl ?_
          exact a_iret rfl rfl ⟨⟨_, rfl⟩, _, rfl, fh43⟩
        · refine a_pc (pc' := 120) (by decide) ?_
          refine a_l0 rfl rfl rfl ?_
          refine a_getq rfl gfX11_55_11 rfl (rfl) ?_
          refine a_getq rfl gfX11_159_5 rfl (rfl) ?_
          refine a_l1 rfl rfl rfl ?_
          refine a_eS1 rfl lX11_117 mo_X11_at (sp_X11_at rfl) rfl rfl rfl rfl ?_
          exact a_iret rfl rfl ⟨⟨_, rfl⟩, _, rfl, fh43⟩
      · refine a_l0 rfl rfl rfl ?_
        refine a_getq rfl gfX11_55_11 rfl (rfl) ?_
        refine a_l0 rfl rfl rfl ?_
        refine a_getq rfl gfX11_44_11 rfl (rfl) ?_
        refine a_s rfl rfl ?_
        refine a_gV rfl lX11_254 mo_X5_passDay (q_X5_passDay_257_246 (b2 := false)) rfl rfl rfl ⟨5, _, rfl, rfl, rfl⟩ rfl (fun v' h' hv => ?_)
        obtain ⟨rfl, I6, rfl, f7⟩ := hv
        replace f7 : Fm sQ I I6 := Fm.tr (fh43) (f7)
        refine a_i4 rfl rfl rfl ?_
        refine a_goto rfl ?_
        exact ih43 _ _ _ _ c46 ⟨_, rfl, rfl, f7⟩ ⟨rfl, rfl, rfl, rfl, nS _, trivial⟩
    · exact a_throw rfl rfl rfl rfl tX11_nsee rfl rfl rfl rfl rfl ⟨⟨4, by decide, rfl⟩, _, rfl, Fm.rf⟩
theorem q_X11_trial_200 {S : aS} {I : Nat → Nat → Int32} {L : Nat → Nat → Int64} {w1 w2 t : Nat} {x1 : Int32} {b2 : Bool} : Sp S m_X11_trial 19 1 6 [.ref 200, .int x1, .int (bI b2)] (hp I L w1 w2 t) (QR (Fm sQ I) isI L w1 w2 t) (XR (Fm sQ I) L w1 w2 [1]) := by
  refine Sp_of ok_X11_trial rfl rfl ?_
  show AW S m_X11_trial 19 _ _ 1 6 0 [some (.ref 200), some (.int x1), some (.int (bI b2)), none] [] (hp I L w1 w2 t)
  refine a_l1 rfl rfl rfl ?_
  refine a_s rfl rfl ?_
  refine a_s rfl rfl ?_
  refine a_callS rfl lX11_250 mo_X11_needNumber q_needNumber rfl rfl rfl rfl (fun v' h' hv => ?_) (fun E h' hx => XR.cm hx (by decide) (fun _ z => z))
  obtain ⟨rfl, rfl, hbm1⟩ := hv
  obtain ⟨m1, hm1a, hm1b, rfl⟩ := inB_nI (a := 0) (b := 90) (by decide) hbm1
  refine a_l0 rfl rfl rfl ?_
  refine a_l1 rfl rfl rfl ?_
  refine a_l0 rfl rfl rfl ?_
  refine a_getq rfl gfX11_37_11 rfl (rfl) ?_
  refine a_geti rfl gfX11_353_5 rfl ?_
  refine a_gV rfl lX11_356 mo_X11_shameTriedOut (q_X11_shameTriedOut_200) rfl rfl rfl ⟨11, _, rfl, rfl, rfl⟩ rfl (fun v' h' hv => ?_)
  obtain ⟨⟨v2, rfl⟩, I3, rfl, f4⟩ := hv
  refine a_s3 rfl rfl rfl rfl rfl rfl ?_
  refine a_l2 rfl rfl rfl ?_
  refine a_if_eq rfl (fun c21 => ?_) (fun c21 => ?_)
  · refine a_l3 rfl rfl rfl ?_
    exact a_iret rfl rfl ⟨⟨_, rfl⟩, _, rfl, f4⟩
  · refine a_l0 rfl rfl rfl ?_
    refine a_getq rfl gfX11_55_11 rfl (rfl) ?_
    refine a_s rfl rfl ?_
    refine a_gV rfl lX11_200 mo_X5_bitsIn (q_X5_bitsIn_257) rfl rfl rfl ⟨5, _, rfl, rfl, rfl⟩ rfl (fun v' h' hv => ?_)
    obtain ⟨⟨v5, rfl⟩, rfl⟩ := hv
    refine a_goto rfl ?_
    exact a_iret rfl rfl ⟨⟨_, rfl⟩, _, rfl, f4⟩
theorem q_X11_span_200 {S : aS} {I : Nat → Nat → Int32} {L : Nat → Nat → Int64} {w1 w2 t : Nat} {x1 : Int32} {b2 : Bool} : Sp S m_X11_span 19 1 6 [.ref 200, .int x1, .int (bI b2)] (hp I L w1 w2 t) (QR (Fm sQ I) isI L w1 w2 t) (XR (Fm sQ I) L w1 w2 [1]) := by
  refine Sp_of ok_X11_span rfl rfl ?_
  show AW S m_X11_span 19 _ _ 1 6 0 [some (.ref 200), some (.int x1), some (.int (bI b2)), none, none, none] [] (hp I L w1 w2 t)
  refine a_l1 rfl rfl rfl ?_
  refine a_s rfl rfl ?_
  refine a_s rfl rfl ?_
  refine a_callS rfl lX11_250 mo_X11_needNumber q_needNumber rfl rfl rfl rfl (fun v' h' hv => ?_) (fun E h' hx => XR.cm hx (by decide) (fun _ z => z))
  obtain ⟨rfl, rfl, hbm1⟩ := hv
  obtain ⟨m1, hm1a, hm1b, rfl⟩ := inB_nI (a := 0) (b := 90) (by decide) hbm1
  refine a_l0 rfl rfl rfl ?_
  refine a_l1 rfl rfl rfl ?_
  refine a_s rfl rfl ?_
  refine a_gV rfl lX11_356 mo_X11_shameTriedOut (q_X11_shameTriedOut_200) rfl rfl rfl ⟨11, _, rfl, rfl, rfl⟩ rfl (fun v' h' hv => ?_)
  obtain ⟨⟨v2, rfl⟩, I3, rfl, f4⟩ := hv
  refine a_s3 rfl rfl rfl rfl rfl rfl ?_
  refine a_s rfl rfl ?_
  refine a_s4 rfl rfl rfl rfl rfl rfl ?_
  refine a_cnt (j0 := 2) (fun j ls h => ∃ a0, ∃ I', ls = [some (.ref 200), some (.int (nI m1)), some (.int (bI b2)), some (.int a0), some (.int (nI j)), none] ∧ h = hp I' L w1 w2 t ∧ Fm sQ I I') (by decide) ⟨_, _, rfl, rfl, f4⟩ ⟨rfl, rfl, rfl, rfl, rfl, trivial⟩ ?_
  rintro j17 _ _ hj17 ⟨a0_17, Ih17, rfl, rfl, fh17⟩ ih17
  refine a_l4 rfl rfl rfl ?_
  refine a_s rfl rfl ?_
  refine a_ic_gt rfl (fun c21 => ?_) (fun c21 => ?_)
  · refine a_l3 rfl rfl rfl ?_
    exact a_iret rfl rfl ⟨⟨_, rfl⟩, _, rfl, fh17⟩
  · refine a_l0 rfl rfl rfl ?_
    refine a_l1 rfl rfl rfl ?_
    refine a_l4 rfl rfl rfl ?_
    refine a_gV rfl lX11_356 mo_X11_shameTriedOut (q_X11_shameTriedOut_200) rfl rfl rfl ⟨11, _, rfl, rfl, rfl⟩ rfl (fun v' h' hv => ?_)
    obtain ⟨⟨v5, rfl⟩, I6, rfl, f7⟩ := hv
    replace f7 : Fm sQ I I6 := Fm.tr (fh17) (f7)
    refine a_s5 rfl rfl rfl rfl rfl rfl ?_
    refine a_l2 rfl rfl rfl ?_
    refine a_if_eq rfl (fun c34 => ?_) (fun c34 => ?_)
    · refine a_l3 rfl rfl rfl ?_
      refine a_l5 rfl rfl rfl ?_
      refine a_min rfl lX11_350 mj_min rfl rfl ?_
      refine a_s3 rfl rfl rfl rfl rfl rfl ?_
      refine a_i4 rfl rfl rfl ?_
      refine a_goto rfl ?_
      exact ih17 _ _ _ _ (nI_gt1 (a := 6) (by decide) hj17 c21) ⟨_, _, rfl, rfl, f7⟩ ⟨rfl, rfl, rfl, rfl, nS _, trivial⟩
    · refine a_l3 rfl rfl rfl ?_
      refine a_l5 rfl rfl rfl ?_
      refine a_max rfl lX11_290 mj_max rfl rfl ?_
      refine a_goto rfl ?_
      refine a_s3 rfl rfl rfl rfl rfl rfl ?_
      refine a_i4 rfl rfl rfl ?_
      refine a_goto rfl ?_
      exact ih17 _ _ _ _ (nI_gt1 (a := 6) (by decide) hj17 c21) ⟨_, _, rfl, rfl, f7⟩ ⟨rfl, rfl, rfl, rfl, nS _, trivial⟩
theorem q_X1_valueOf_244 {S : aS} {I : Nat → Nat → Int32} {L : Nat → Nat → Int64} {w1 w2 t : Nat} {x1 x2 : Int32} : Sp S m_X1_valueOf 13 0 0 [.ref 244, .int x1, .int x2] (hp I L w1 w2 t) (QE isI (hp I L w1 w2 t)) nX := by
  refine Sp_of ok_X1_valueOf rfl rfl ?_
  show AW S m_X1_valueOf 13 _ _ 0 0 0 [some (.ref 244), some (.int x1), some (.int x2), none] [] (hp I L w1 w2 t)
  refine a_l1 rfl rfl rfl ?_
  refine a_if_lt rfl (fun c1 => ?_) (fun c1 => ?_)
  · refine a_s rfl rfl ?_
    exact a_iret rfl rfl ⟨⟨_, rfl⟩, rfl⟩
  · refine a_l1 rfl rfl rfl ?_
    refine a_l0 rfl rfl rfl ?_
    refine a_geti rfl gfX1_15_1 rfl ?_
    refine a_ic_lt rfl (fun c9 => ?_) (fun c9 => ?_)
    · refine a_l0 rfl rfl rfl ?_
      refine a_geti rfl gfX1_19_1 rfl ?_
      refine a_s rfl rfl ?_
      refine a_s rfl rfl ?_
      refine a_l1 rfl rfl rfl ?_
      refine a_s rfl rfl ?_
      refine a_s rfl rfl ?_
      refine a_s rfl rfl ?_
      refine a_s rfl rfl ?_
      refine a_irem rfl (by decide) ?_
      refine a_s3 rfl rfl rfl rfl rfl rfl ?_
      refine a_l0 rfl rfl rfl ?_
      refine a_getq rfl gfX1_11_1 rfl (rfl) ?_
      refine a_l3 rfl rfl rfl ?_
      refine a_s rfl rfl ?_
      refine a_s rfl rfl ?_
      refine a_l2 rfl rfl rfl ?_
      refine a_s rfl rfl ?_
      refine a_eSN1 rfl lX1_36 mo_X11_at (sp_X11_at rfl) rfl rfl rfl rfl ?_
      exact a_iret rfl rfl ⟨⟨_, rfl⟩, rfl⟩
    · refine a_s rfl rfl ?_
      exact a_iret rfl rfl ⟨⟨_, rfl⟩, rfl⟩
theorem q_X1_rowsOf_244 {S : aS} {I : Nat → Nat → Int32} {L : Nat → Nat → Int64} {w1 w2 t : Nat} {x1 : Int32} : Sp S m_X1_rowsOf 14 0 0 [.ref 244, .int x1] (hp I L w1 w2 t) (QE isI (hp I L w1 w2 t)) nX := by
  refine Sp_of ok_X1_rowsOf rfl rfl ?_
  show AW S m_X1_rowsOf 14 _ _ 0 0 0 [some (.ref 244), some (.int x1), none, none] [] (hp I L w1 w2 t)
  refine a_s rfl rfl ?_
  refine a_s2 rfl rfl rfl rfl rfl rfl ?_
  refine a_s rfl rfl ?_
  refine a_s3 rfl rfl rfl rfl rfl rfl ?_
  refine a_cnt (j0 := 0) (fun j ls h => ∃ a0, ls = [some (.ref 244), some (.int x1), some (.int a0), some (.int (nI j))] ∧ h = hp I L w1 w2 t) (by decide) ⟨_, rfl, rfl⟩ ⟨rfl, rfl, rfl, rfl, trivial⟩ ?_
  rintro j4 _ _ hj4 ⟨a0_4, rfl, rfl⟩ ih4
  refine a_l3 rfl rfl rfl ?_
  refine a_l0 rfl rfl rfl ?_
  refine a_geti rfl gfX1_15_1 rfl ?_
  refine a_ic_ge rfl (fun c9 => ?_) (fun c9 => ?_)
  · refine a_l2 rfl rfl rfl ?_
    exact a_iret rfl rfl ⟨⟨_, rfl⟩, rfl⟩
  · refine a_l0 rfl rfl rfl ?_
    refine a_l3 rfl rfl rfl ?_
    refine a_s rfl rfl ?_
    refine a_gV rfl lX1_40 mo_X1_valueOf (q_X1_valueOf_244) rfl rfl rfl ⟨1, _, rfl, rfl, rfl⟩ rfl (fun v' h' hv => ?_)
    obtain ⟨⟨v1, rfl⟩, rfl⟩ := hv
    refine a_l1 rfl rfl rfl ?_
    refine a_ic_ne rfl (fun c19 => ?_) (fun c19 => ?_)
    · refine a_i3 rfl rfl rfl ?_
      refine a_goto rfl ?_
      exact ih4 _ _ _ _ c9 ⟨_, rfl, rfl⟩ ⟨rfl, rfl, rfl, nS _, trivial⟩
    · refine a_i2 rfl rfl rfl ?_
      refine a_i3 rfl rfl rfl ?_
      refine a_goto rfl ?_
      exact ih4 _ _ _ _ c9 ⟨_, rfl, rfl⟩ ⟨rfl, rfl, rfl, nS _, trivial⟩
theorem q_X1_latestMonthOf_244 {S : aS} {I : Nat → Nat → Int32} {L : Nat → Nat → Int64} {w1 w2 t : Nat} {x1 : Int32} : Sp S m_X1_latestMonthOf 14 0 0 [.ref 244, .int x1] (hp I L w1 w2 t) (QE isI (hp I L w1 w2 t)) nX := by
  refine Sp_of ok_X1_latestMonthOf rfl rfl ?_
  show AW S m_X1_latestMonthOf 14 _ _ 0 0 0 [some (.ref 244), some (.int x1), none] [] (hp I L w1 w2 t)
  refine a_s rfl rfl ?_
  refine a_s2 rfl rfl rfl rfl rfl rfl ?_
  refine a_cnt (j0 := 0) (fun j ls h => ls = [some (.ref 244), some (.int x1), some (.int (nI j))] ∧ h = hp I L w1 w2 t) (by decide) ⟨rfl, rfl⟩ ⟨rfl, rfl, rfl, trivial⟩ ?_
  rintro j2 _ _ hj2 ⟨rfl, rfl⟩ ih2
  refine a_l2 rfl rfl rfl ?_
  refine a_l0 rfl rfl rfl ?_
  refine a_geti rfl gfX1_15_1 rfl ?_
  refine a_ic_ge rfl (fun c7 => ?_) (fun c7 => ?_)
  · refine a_s rfl rfl ?_
    exact a_iret rfl rfl ⟨⟨_, rfl⟩, rfl⟩
  · refine a_l0 rfl rfl rfl ?_
    refine a_l2 rfl rfl rfl ?_
    refine a_s rfl rfl ?_
    refine a_gV rfl lX1_40 mo_X1_valueOf (q_X1_valueOf_244) rfl rfl rfl ⟨1, _, rfl, rfl, rfl⟩ rfl (fun v' h' hv => ?_)
    obtain ⟨⟨v1, rfl⟩, rfl⟩ := hv
    refine a_l1 rfl rfl rfl ?_
    refine a_ic_ne rfl (fun c17 => ?_) (fun c17 => ?_)
    · refine a_i2 rfl rfl rfl ?_
      refine a_goto rfl ?_
      exact ih2 _ _ _ _ c7 ⟨rfl, rfl⟩ ⟨rfl, rfl, nS _, trivial⟩
    · refine a_l0 rfl rfl rfl ?_
      refine a_l2 rfl rfl rfl ?_
      refine a_s rfl rfl ?_
      refine a_gV rfl lX1_40 mo_X1_valueOf (q_X1_valueOf_244) rfl rfl rfl ⟨1, _, rfl, rfl, rfl⟩ rfl (fun v' h' hv => ?_)
      obtain ⟨⟨v2, rfl⟩, rfl⟩ := hv
      exact a_iret rfl rfl ⟨⟨_, rfl⟩, rfl⟩
theorem q_X11_led_200 {S : aS} {I : Nat → Nat → Int32} {L : Nat → Nat → Int64} {w1 w2 t : Nat} {x1 : Int32} {b2 : Bool} : Sp S m_X11_led 15 1 6 [.ref 200, .int x1, .int (bI b2)] (hp I L w1 w2 t) (QE isI (hp I L w1 w2 t)) (XR (Fm sQ I) L w1 w2 [0]) := by
  refine Sp_of ok_X11_led rfl rfl ?_
  show AW S m_X11_led 15 _ _ 1 6 0 [some (.ref 200), some (.int x1), some (.int (bI b2))] [] (hp I L w1 w2 t)
  refine a_l0 rfl rfl rfl ?_
  refine a_l1 rfl rfl rfl ?_
  refine a_callV rfl lX11_141 mo_X11_needDuty (q_X11_needDuty_200) rfl rfl rfl ⟨11, _, rfl, rfl, rfl⟩ rfl (fun v' h' hv => ?_) (fun E h' hx => XR.cm hx (by decide) (fun _ z => z))
  obtain ⟨rfl, rfl⟩ := hv
  refine a_l2 rfl rfl rfl ?_
  refine a_if_eq rfl (fun c6 => ?_) (fun c6 => ?_)
  · refine a_l0 rfl rfl rfl ?_
    refine a_getq rfl gfX11_37_11 rfl (rfl) ?_
    refine a_getq rfl gfX11_211_5 rfl (rfl) ?_
    refine a_l1 rfl rfl rfl ?_
    refine a_gV rfl lX11_362 mo_X1_rowsOf (q_X1_rowsOf_244) rfl rfl rfl ⟨1, _, rfl, rfl, rfl⟩ rfl (fun v' h' hv => ?_)
    obtain ⟨⟨v2, rfl⟩, rfl⟩ := hv
    exact a_iret rfl rfl ⟨⟨_, rfl⟩, rfl⟩
  · refine a_l0 rfl rfl rfl ?_
    refine a_getq rfl gfX11_37_11 rfl (rfl) ?_
    refine a_getq rfl gfX11_211_5 rfl (rfl) ?_
    refine a_l1 rfl rfl rfl ?_
    refine a_gV rfl lX11_359 mo_X1_latestMonthOf (q_X1_latestMonthOf_244) rfl rfl rfl ⟨1, _, rfl, rfl, rfl⟩ rfl (fun v' h' hv => ?_)
    obtain ⟨⟨v3, rfl⟩, rfl⟩ := hv
    refine a_goto rfl ?_
    exact a_iret rfl rfl ⟨⟨_, rfl⟩, rfl⟩
theorem q_X11_log_200 {S : aS} {I : Nat → Nat → Int32} {L : Nat → Nat → Int64} {w1 w2 t : Nat} {x1 x2 : Int32} : Sp S m_X11_log 14 1 6 [.ref 200, .int x1, .int x2] (hp I L w1 w2 t) (QE isI (hp I L w1 w2 t)) (XR (Fm sQ I) L w1 w2 [4]) := by
  refine Sp_of ok_X11_log rfl rfl ?_
  show AW S m_X11_log 14 _ _ 1 6 0 [some (.ref 200), some (.int x1), some (.int x2)] [] (hp I L w1 w2 t)
  refine a_l2 rfl rfl rfl ?_
  refine a_if_lt rfl (fun c1 => ?_) (fun c1 => ?_)
  · exact a_throw rfl rfl rfl rfl tX11_nsee rfl rfl rfl rfl rfl ⟨⟨4, by decide, rfl⟩, _, rfl, Fm.rf⟩
  · refine a_l2 rfl rfl rfl ?_
    refine a_s rfl rfl ?_
    refine a_ic_le rfl (fun c6 => ?_) (fun c6 => ?_)
    · refine a_l0 rfl rfl rfl ?_
      refine a_getq rfl gfX11_37_11 rfl (rfl) ?_
      refine a_getq rfl gfX11_211_5 rfl (rfl) ?_
      refine a_l1 rfl rfl rfl ?_
      refine a_l2 rfl rfl rfl ?_
      refine a_gV rfl lX11_365 mo_X1_valueOf (q_X1_valueOf_244) rfl rfl rfl ⟨1, _, rfl, rfl, rfl⟩ rfl (fun v' h' hv => ?_)
      obtain ⟨⟨v1, rfl⟩, rfl⟩ := hv
      exact a_iret rfl rfl ⟨⟨_, rfl⟩, rfl⟩
    · exact a_throw rfl rfl rfl rfl tX11_nsee rfl rfl rfl rfl rfl ⟨⟨4, by decide, rfl⟩, _, rfl, Fm.rf⟩
theorem q_X0_leansWithin_235 {S : aS} {I : Nat → Nat → Int32} {L : Nat → Nat → Int64} {w1 w2 t : Nat} {x1 : Int32} : Sp S m_X0_leansWithin 14 0 0 [.ref 235, .int x1] (hp I L w1 w2 t) (QE isZ (hp I L w1 w2 t)) nX := by
  refine Sp_of ok_X0_leansWithin rfl rfl ?_
  show AW S m_X0_leansWithin 14 _ _ 0 0 0 [some (.ref 235), some (.int x1), none] [] (hp I L w1 w2 t)
  refine a_s rfl rfl ?_
  refine a_s2 rfl rfl rfl rfl rfl rfl ?_
  refine a_cnt (j0 := 0) (fun j ls h => ls = [some (.ref 235), some (.int x1), some (.int (nI j))] ∧ h = hp I L w1 w2 t) (by decide) ⟨rfl, rfl⟩ ⟨rfl, rfl, rfl, trivial⟩ ?_
  rintro j2 _ _ hj2 ⟨rfl, rfl⟩ ih2
  refine a_l2 rfl rfl rfl ?_
  refine a_l0 rfl rfl rfl ?_
  refine a_geti rfl gfX0_24_5 rfl ?_
  refine a_ic_ge rfl (fun c7 => ?_) (fun c7 => ?_)
  · refine a_s rfl rfl ?_
    exact a_zret rfl rfl rfl ⟨⟨true, rfl⟩, rfl⟩
  · refine a_l1 rfl rfl rfl ?_
    refine a_l2 rfl rfl rfl ?_
    refine a_eSN1 rfl lX0_45 mo_X11_has (sp_X11_has) rfl rfl rfl rfl ?_
    refine a_if_eq rfl (fun c15 => ?_) (fun c15 => ?_)
    · refine a_i2 rfl rfl rfl ?_
      refine a_goto rfl ?_
      exact ih2 _ _ _ _ c7 ⟨rfl, rfl⟩ ⟨rfl, rfl, nS _, trivial⟩
    · refine a_l0 rfl rfl rfl ?_
      refine a_l2 rfl rfl rfl ?_
      refine a_gV rfl lX0_77 mo_X5_leansFreely (q_X5_leansFreely_235) rfl rfl rfl ⟨5, _, rfl, rfl, rfl⟩ rfl (fun v' h' hv => ?_)
      obtain ⟨⟨v1, rfl⟩, rfl⟩ := hv
      refine a_if_ne rfl (fun c23 => ?_) (fun c23 => ?_)
      · refine a_i2 rfl rfl rfl ?_
        refine a_goto rfl ?_
        exact ih2 _ _ _ _ c7 ⟨rfl, rfl⟩ ⟨rfl, rfl, nS _, trivial⟩
      · refine a_l1 rfl rfl rfl ?_
        refine a_l0 rfl rfl rfl ?_
        refine a_getq rfl gfX0_81_5 rfl (rfl) ?_
        refine a_l2 rfl rfl rfl ?_
        refine a_eSN1 rfl lX0_52 mo_X11_at (sp_X11_at rfl) rfl rfl rfl rfl ?_
        refine a_eSN1 rfl lX0_45 mo_X11_has (sp_X11_has) rfl rfl rfl rfl ?_
        refine a_if_ne rfl (fun c38 => ?_) (fun c38 => ?_)
        · refine a_i2 rfl rfl rfl ?_
          refine a_goto rfl ?_
          exact ih2 _ _ _ _ c7 ⟨rfl, rfl⟩ ⟨rfl, rfl, nS _, trivial⟩
        · refine a_s rfl rfl ?_
          exact a_zret rfl rfl rfl ⟨⟨false, rfl⟩, rfl⟩
theorem q_X0_leastShame_254_235_246 {S : aS} {I : Nat → Nat → Int32} {L : Nat → Nat → Int64} {w1 w2 t : Nat} {x3 : Int32} {nd : Nat} (hd : I 235 3 = nI nd) (hn : nd ≤ 12) : Sp S m_X0_leastShame 16 0 0 [.ref 254, .ref 235, .ref 246, .int x3] (hp I L w1 w2 t) (QR (Fm sQ I) isI L w1 w2 t) nX := by
  refine Sp_of ok_X0_leastShame rfl rfl ?_
  show AW S m_X0_leastShame 16 _ _ 0 0 0 [some (.ref 254), some (.ref 235), some (.ref 246), some (.int x3), none, none, none, none, none] [] (hp I L w1 w2 t)
  refine a_l1 rfl rfl rfl ?_
  refine a_s rfl rfl ?_
  refine a_eV1 rfl lX0_59 mo_X5_bitsIn (sp_X5_bitsIn (a := 235) (by decide) hd hn) rfl rfl rfl ⟨5, _, rfl, rfl, rfl⟩ rfl ?_
  obtain ⟨mc, hmc, emc⟩ := bs_nI12 hn (P := fun d => decide (I (235 + 8) d = 0))
  refine a_top (y := nI mc) emc ?_
  refine a_s4 rfl rfl rfl rfl rfl rfl ?_
  refine a_s rfl rfl ?_
  refine a_s5 rfl rfl rfl rfl rfl rfl ?_
  refine a_cnt (j0 := 0) (fun j ls h => ∃ I', ls = [some (.ref 254), some (.ref 235), some (.ref 246), some (.int x3), some (.int (nI mc)), some (.int (nI j)), none, none, none] ∧ h = hp I' L w1 w2 t ∧ Fm sQ I I') (by decide) ⟨_, rfl, rfl, Fm.rf⟩ ⟨rfl, rfl, rfl, rfl, rfl, rfl, trivial⟩ ?_
  rintro j10 _ _ hj10 ⟨Ih10, rfl, rfl, fh10⟩ ih10
  refine a_l5 rfl rfl rfl ?_
  refine a_l1 rfl rfl rfl ?_
  refine a_geti rfl gfX0_24_5 rfl ?_
  refine a_ic_ge rfl (fun c16 => ?_) (fun c16 => ?_)
  · refine a_s rfl rfl ?_
    refine a_s5 rfl rfl rfl rfl rfl rfl ?_
    refine a_s rfl rfl ?_
    refine a_s6 rfl rfl rfl rfl rfl rfl ?_
    refine a_s rfl rfl ?_
    refine a_s7 rfl rfl rfl rfl rfl rfl ?_
    refine a_cnt (j0 := 0) (fun j ls h => ∃ a0, ∃ a1, ∃ I', ls = [some (.ref 254), some (.ref 235), some (.ref 246), some (.int x3), some (.int (nI mc)), some (.int a0), some (.int a1), some (.int (nI j)), none] ∧ h = hp I' L w1 w2 t ∧ Fm sQ I I') (by decide) ⟨_, _, _, rfl, rfl, fh10⟩ ⟨rfl, rfl, rfl, rfl, rfl, rfl, rfl, rfl, trivial⟩ ?_
    rintro j50 _ _ hj50 ⟨a0_50, a1_50, Ih50, rfl, rfl, fh50⟩ ih50
    refine a_l7 rfl rfl rfl ?_
    refine a_l4 rfl rfl rfl ?_
    refine a_ic_gt rfl (fun c54 => ?_) (fun c54 => ?_)
    · refine a_l5 rfl rfl rfl ?_
      exact a_iret rfl rfl ⟨⟨_, rfl⟩, _, rfl, fh50⟩
    · refine a_l7 rfl rfl rfl ?_
      refine a_l4 rfl rfl rfl ?_
      refine a_s rfl rfl ?_
      refine a_s rfl rfl ?_
      refine a_s rfl rfl ?_
      refine a_if_ne rfl (fun c64 => ?_) (fun c64 => ?_)
      · refine a_i7 rfl rfl rfl ?_
        refine a_goto rfl ?_
        exact ih50 _ _ _ _ (nI_gt1 (a := mc) (by omega) hj50 c54) ⟨_, _, _, rfl, rfl, fh50⟩ ⟨rfl, rfl, rfl, rfl, rfl, rfl, rfl, nS _, trivial⟩
      · refine a_l1 rfl rfl rfl ?_
        refine a_getq rfl gfX0_68_5 rfl (rfl) ?_
        refine a_l7 rfl rfl rfl ?_
        refine a_eSN1 rfl lX0_71 mo_X11_sumOver (sp_X11_sumOver rfl) rfl rfl rfl rfl ?_
        refine a_l3 rfl rfl rfl ?_
        refine a_ic_gt rfl (fun c77 => ?_) (fun c77 => ?_)
        · refine a_i7 rfl rfl rfl ?_
          refine a_goto rfl ?_
          exact ih50 _ _ _ _ (nI_gt1 (a := mc) (by omega) hj50 c54) ⟨_, _, _, rfl, rfl, fh50⟩ ⟨rfl, rfl, rfl, rfl, rfl, rfl, rfl, nS _, trivial⟩
        · refine a_l1 rfl rfl rfl ?_
          refine a_l7 rfl rfl rfl ?_
          refine a_gS rfl lX0_74 mo_X0_leansWithin (q_X0_leansWithin_235) rfl rfl rfl rfl (fun v' h' hv => ?_)
          obtain ⟨⟨v1, rfl⟩, rfl⟩ := hv
          refine a_if_eq rfl (fun c86 => ?_) (fun c86 => ?_)
          · refine a_i7 rfl rfl rfl ?_
            refine a_goto rfl ?_
            exact ih50 _ _ _ _ (nI_gt1 (a := mc) (by omega) hj50 c54) ⟨_, _, _, rfl, rfl, fh50⟩ ⟨rfl, rfl, rfl, rfl, rfl, rfl, rfl, nS _, trivial⟩
          · refine a_l0 rfl rfl rfl ?_
            refine a_getq rfl gfX0_15_0 rfl (rfl) ?_
            refine a_l7 rfl rfl rfl ?_
            refine a_eSN1 rfl lX0_71 mo_X11_sumOver (sp_X11_sumOver rfl) rfl rfl rfl rfl ?_
            refine a_s8 rfl rfl rfl rfl rfl rfl ?_
            refine a_l8 rfl rfl rfl ?_
            refine a_l6 rfl rfl rfl ?_
            refine a_ic_le rfl (fun c104 => ?_) (fun c104 => ?_)
            · refine a_i7 rfl rfl rfl ?_
              refine a_goto rfl ?_
              exact ih50 _ _ _ _ (nI_gt1 (a := mc) (by omega) hj50 c54) ⟨_, _, _, rfl, rfl, fh50⟩ ⟨rfl, rfl, rfl, rfl, rfl, rfl, rfl, nS _, trivial⟩
            · refine a_l7 rfl rfl rfl ?_
              refine a_s5 rfl rfl rfl rfl rfl rfl ?_
              refine a_l8 rfl rfl rfl ?_
              refine a_s6 rfl rfl rfl rfl rfl rfl ?_
              refine a_i7 rfl rfl rfl ?_
              refine a_goto rfl ?_
              exact ih50 _ _ _ _ (nI_gt1 (a := mc) (by omega) hj50 c54) ⟨_, _, _, rfl, rfl, fh50⟩ ⟨rfl, rfl, rfl, rfl, rfl, rfl, rfl, nS _, trivial⟩
  · refine a_l0 rfl rfl rfl ?_
    refine a_getq rfl gfX0_15_0 rfl (rfl) ?_
    refine a_l5 rfl rfl rfl ?_
    refine a_l2 rfl rfl rfl ?_
    refine a_l1 rfl rfl rfl ?_
    refine a_l5 rfl rfl rfl ?_
    refine a_gV rfl lX0_62 mo_X2_shameOf (q_X2_shameOf_246_235) rfl rfl rfl ⟨2, _, rfl, rfl, rfl⟩ rfl (fun v' h' hv => ?_)
    obtain ⟨⟨v2, rfl⟩, I3, rfl, f4⟩ := hv
    replace f4 : Fm sQ I I3 := Fm.tr (fh10) (f4)
    refine a_eSN0 rfl lX0_32 mo_X11_setAt (sp_X11_setAt rfl) rfl rfl rfl rfl ?_
    refine a_ren (P := Fm sQ I) (Fm.tr (f4) (Fm.st (Fm.rf (s := sQ)) (fun _ => rfl))) (fun I5 f6 => ?_)
    refine a_i5 rfl rfl rfl ?_
    refine a_goto rfl ?_
    exact ih10 _ _ _ _ c16 ⟨_, rfl, rfl, f6⟩ ⟨rfl, rfl, rfl, rfl, rfl, nS _, trivial⟩
theorem q_X11_does_200 {S : aS} {I : Nat → Nat → Int32} {L : Nat → Nat → Int64} {w1 w2 t : Nat} {x1 : Int32} {b2 : Bool} {nd : Nat} (hd : I 235 3 = nI nd) (hn : nd ≤ 12) : Sp S m_X11_does 17 1 6 [.ref 200, .int x1, .int (bI b2)] (hp I L w1 w2 t) (QR (Fm sQ I) isI L w1 w2 t) (XR (Fm sQ I) L w1 w2 [1]) := by
  refine Sp_of ok_X11_does rfl rfl ?_
  show AW S m_X11_does 17 _ _ 1 6 0 [some (.ref 200), some (.int x1), some (.int (bI b2)), none] [] (hp I L w1 w2 t)
  refine a_l1 rfl rfl rfl ?_
  refine a_s rfl rfl ?_
  refine a_s rfl rfl ?_
  refine a_callS rfl lX11_250 mo_X11_needNumber q_needNumber rfl rfl rfl rfl (fun v' h' hv => ?_) (fun E h' hx => XR.cm hx (by decide) (fun _ z => z))
  obtain ⟨rfl, rfl, hbm1⟩ := hv
  obtain ⟨m1, hm1a, hm1b, rfl⟩ := inB_nI (a := 0) (b := 99) (by decide) hbm1
  refine a_l0 rfl rfl rfl ?_
  refine a_getq rfl gfX11_51_11 rfl (rfl) ?_
  refine a_l0 rfl rfl rfl ?_
  refine a_getq rfl gfX11_37_11 rfl (rfl) ?_
  refine a_l0 rfl rfl rfl ?_
  refine a_getq rfl gfX11_44_11 rfl (rfl) ?_
  refine a_l1 rfl rfl rfl ?_
  refine a_gV rfl lX11_278 mo_X0_leastShame (q_X0_leastShame_254_235_246 hd hn) rfl rfl rfl ⟨0, _, rfl, rfl, rfl⟩ rfl (fun v' h' hv => ?_)
  obtain ⟨⟨v2, rfl⟩, I3, rfl, f4⟩ := hv
  refine a_s3 rfl rfl rfl rfl rfl rfl ?_
  refine a_l2 rfl rfl rfl ?_
  refine a_if_eq rfl (fun c25 => ?_) (fun c25 => ?_)
  · refine a_l3 rfl rfl rfl ?_
    exact a_iret rfl rfl ⟨⟨_, rfl⟩, _, rfl, f4⟩
  · refine a_l0 rfl rfl rfl ?_
    refine a_getq rfl gfX11_44_11 rfl (rfl) ?_
    refine a_l0 rfl rfl rfl ?_
    refine a_getq rfl gfX11_37_11 rfl (rfl) ?_
    refine a_l0 rfl rfl rfl ?_
    refine a_getq rfl gfX11_37_11 rfl (rfl) ?_
    refine a_s rfl rfl ?_
    refine a_gV rfl lX11_200 mo_X5_bitsIn (q_X5_bitsIn_235) rfl rfl rfl ⟨5, _, rfl, rfl, rfl⟩ rfl (fun v' h' hv => ?_)
    obtain ⟨⟨v5, rfl⟩, rfl⟩ := hv
    refine a_l3 rfl rfl rfl ?_
    refine a_s rfl rfl ?_
    refine a_s rfl rfl ?_
    refine a_s rfl rfl ?_
    refine a_gV rfl lX11_282 mo_X2_shameOfSet (q_X2_shameOfSet_246_235) rfl rfl rfl ⟨2, _, rfl, rfl, rfl⟩ rfl (fun v' h' hv => ?_)
    obtain ⟨⟨v6, rfl⟩, I7, rfl, f8⟩ := hv
    replace f8 : Fm sQ I I7 := Fm.tr (f4) (f8)
    refine a_goto rfl ?_
    exact a_iret rfl rfl ⟨⟨_, rfl⟩, _, rfl, f8⟩
theorem q_X0_canBeCalledTogether_254_235 {S : aS} {I : Nat → Nat → Int32} {L : Nat → Nat → Int64} {w1 w2 t : Nat} {x2 : Int32} : Sp S m_X0_canBeCalledTogether 14 0 0 [.ref 254, .ref 235, .int x2] (hp I L w1 w2 t) (QE isZ (hp I L w1 w2 t)) nX := by
  refine Sp_of ok_X0_canBeCalledTogether rfl rfl ?_
  show AW S m_X0_canBeCalledTogether 14 _ _ 0 0 0 [some (.ref 254), some (.ref 235), some (.int x2), none, none, none, none] [] (hp I L w1 w2 t)
  refine a_s rfl rfl ?_
  refine a_s3 rfl rfl rfl rfl rfl rfl ?_
  refine a_s rfl rfl ?_
  refine a_s4 rfl rfl rfl rfl rfl rfl ?_
  refine a_s rfl rfl ?_
  refine a_s5 rfl rfl rfl rfl rfl rfl ?_
  refine a_cnt (j0 := 0) (fun j ls h => ∃ a0, ∃ a1, ls = [some (.ref 254), some (.ref 235), some (.int x2), some (.int a0), some (.int a1), some (.int (nI j)), none] ∧ h = hp I L w1 w2 t) (by decide) ⟨_, _, rfl, rfl⟩ ⟨rfl, rfl, rfl, rfl, rfl, rfl, trivial⟩ ?_
  rintro j8 _ _ hj8 ⟨a0_8, a1_8, rfl, rfl⟩ ih8
  refine a_l5 rfl rfl rfl ?_
  refine a_l1 rfl rfl rfl ?_
  refine a_geti rfl gfX0_24_5 rfl ?_
  refine a_ic_ge rfl (fun c14 => ?_) (fun c14 => ?_)
  · refine a_l4 rfl rfl rfl ?_
    refine a_l4 rfl rfl rfl ?_
    refine a_s rfl rfl ?_
    refine a_s rfl rfl ?_
    refine a_s rfl rfl ?_
    refine a_if_ne rfl (fun c84 => ?_) (fun c84 => ?_)
    · refine a_s rfl rfl ?_
      exact a_zret rfl rfl rfl ⟨⟨false, rfl⟩, rfl⟩
    · refine a_s rfl rfl ?_
      refine a_goto rfl ?_
      exact a_zret rfl rfl rfl ⟨⟨true, rfl⟩, rfl⟩
  · refine a_l2 rfl rfl rfl ?_
    refine a_l5 rfl rfl rfl ?_
    refine a_eSN1 rfl lX0_45 mo_X11_has (sp_X11_has) rfl rfl rfl rfl ?_
    refine a_if_eq rfl (fun c23 => ?_) (fun c23 => ?_)
    · refine a_i5 rfl rfl rfl ?_
      refine a_goto rfl ?_
      exact ih8 _ _ _ _ c14 ⟨_, _, rfl, rfl⟩ ⟨rfl, rfl, rfl, rfl, rfl, nS _, trivial⟩
    · refine a_l1 rfl rfl rfl ?_
      refine a_getq rfl gfX0_49_5 rfl (rfl) ?_
      refine a_l5 rfl rfl rfl ?_
      refine a_eSN1 rfl lX0_52 mo_X11_at (sp_X11_at rfl) rfl rfl rfl rfl ?_
      refine a_eSN1 rfl lX0_56 mo_X11_bit (sp_X11_bit) rfl rfl rfl rfl ?_
      refine a_s6 rfl rfl rfl rfl rfl rfl ?_
      refine a_l3 rfl rfl rfl ?_
      refine a_l6 rfl rfl rfl ?_
      refine a_s rfl rfl ?_
      refine a_if_eq rfl (fun c44 => ?_) (fun c44 => ?_)
      · refine a_l3 rfl rfl rfl ?_
        refine a_l6 rfl rfl rfl ?_
        refine a_s rfl rfl ?_
        refine a_s3 rfl rfl rfl rfl rfl rfl ?_
        refine a_l4 rfl rfl rfl ?_
        refine a_l0 rfl rfl rfl ?_
        refine a_getq rfl gfX0_9_0 rfl (rfl) ?_
        refine a_l5 rfl rfl rfl ?_
        refine a_eSN1 rfl lX0_52 mo_X11_at (sp_X11_at rfl) rfl rfl rfl rfl ?_
        refine a_eSN1 rfl lX0_56 mo_X11_bit (sp_X11_bit) rfl rfl rfl rfl ?_
        refine a_s rfl rfl ?_
        refine a_s4 rfl rfl rfl rfl rfl rfl ?_
        refine a_i5 rfl rfl rfl ?_
        refine a_goto rfl ?_
        exact ih8 _ _ _ _ c14 ⟨_, _, rfl, rfl⟩ ⟨rfl, rfl, rfl, rfl, rfl, nS _, trivial⟩
      · refine a_s rfl rfl ?_
        exact a_zret rfl rfl rfl ⟨⟨false, rfl⟩, rfl⟩
theorem q_X0_mostCalled_254_235 {S : aS} {I : Nat → Nat → Int32} {L : Nat → Nat → Int64} {w1 w2 t : Nat} {nd : Nat} (hd : I 235 3 = nI nd) (hn : nd ≤ 12) : Sp S m_X0_mostCalled 18 0 0 [.ref 254, .ref 235] (hp I L w1 w2 t) (QR (Fm sQ I) isI L w1 w2 t) nX := by
  refine Sp_of ok_X0_mostCalled rfl rfl ?_
  show AW S m_X0_mostCalled 18 _ _ 0 0 0 [some (.ref 254), some (.ref 235), none, none, none, none] [] (hp I L w1 w2 t)
  refine a_l1 rfl rfl rfl ?_
  refine a_eV1 rfl lX0_18 mo_X5_canBits (sp_X5_canBits (a := 235) (by decide) hd hn) rfl rfl rfl ⟨5, _, rfl, rfl, rfl⟩ rfl ?_
  obtain ⟨mc, hmc, emc⟩ := bs_nI12 hn (P := fun d => rdF nd (I (235 + 8)) (I (235 + 7)) (nI d) && decide (I (235 + 4) d ≤ passF nd (I (235 + 8)) (I (235 + 5)) (I 235 13) (nI d)))
  refine a_top (y := nI mc) emc ?_
  refine a_s2 rfl rfl rfl rfl rfl rfl ?_
  refine a_s rfl rfl ?_
  refine a_s3 rfl rfl rfl rfl rfl rfl ?_
  refine a_cnt (j0 := 0) (fun j ls h => ∃ I', ls = [some (.ref 254), some (.ref 235), some (.int (nI mc)), some (.int (nI j)), none, none] ∧ h = hp I' L w1 w2 t ∧ Fm sQ I I') (by decide) ⟨_, rfl, rfl, Fm.rf⟩ ⟨rfl, rfl, rfl, rfl, trivial⟩ ?_
  rintro j7 _ _ hj7 ⟨Ih7, rfl, rfl, fh7⟩ ih7
  refine a_l3 rfl rfl rfl ?_
  refine a_l1 rfl rfl rfl ?_
  refine a_geti rfl gfX0_24_5 rfl ?_
  refine a_ic_ge rfl (fun c12 => ?_) (fun c12 => ?_)
  · refine a_s rfl rfl ?_
    refine a_s3 rfl rfl rfl rfl rfl rfl ?_
    refine a_s rfl rfl ?_
    refine a_s4 rfl rfl rfl rfl rfl rfl ?_
    refine a_cnt (j0 := 1) (fun j ls h => ∃ a0, ∃ I', ls = [some (.ref 254), some (.ref 235), some (.int (nI mc)), some (.int a0), some (.int (nI j)), none] ∧ h = hp I' L w1 w2 t ∧ Fm sQ I I') (by decide) ⟨_, _, rfl, rfl, fh7⟩ ⟨rfl, rfl, rfl, rfl, rfl, trivial⟩ ?_
    rintro j39 _ _ hj39 ⟨a0_39, Ih39, rfl, rfl, fh39⟩ ih39
    refine a_l4 rfl rfl rfl ?_
    refine a_l2 rfl rfl rfl ?_
    refine a_ic_gt rfl (fun c42 => ?_) (fun c42 => ?_)
    · refine a_l3 rfl rfl rfl ?_
      exact a_iret rfl rfl ⟨⟨_, rfl⟩, _, rfl, fh39⟩
    · refine a_l4 rfl rfl rfl ?_
      refine a_l2 rfl rfl rfl ?_
      refine a_s rfl rfl ?_
      refine a_s rfl rfl ?_
      refine a_s rfl rfl ?_
      refine a_if_ne rfl (fun c51 => ?_) (fun c51 => ?_)
      · refine a_s rfl rfl ?_
        refine a_s5 rfl rfl rfl rfl rfl rfl ?_
        refine a_l5 rfl rfl rfl ?_
        refine a_if_eq rfl (fun c63 => ?_) (fun c63 => ?_)
        · refine a_i4 rfl rfl rfl ?_
          refine a_goto rfl ?_
          exact ih39 _ _ _ _ (nI_gt1 (a := mc) (by omega) hj39 c42) ⟨_, _, rfl, rfl, fh39⟩ ⟨rfl, rfl, rfl, rfl, nS _, trivial⟩
        · refine a_l4 rfl rfl rfl ?_
          refine a_eS1 rfl lX0_36 mo_J6_bitCount_0f7a4 (sp_bitCount) rfl rfl rfl rfl ?_
          refine a_l3 rfl rfl rfl ?_
          refine a_eS1 rfl lX0_36 mo_J6_bitCount_0f7a4 (sp_bitCount) rfl rfl rfl rfl ?_
          refine a_ic_le rfl (fun c75 => ?_) (fun c75 => ?_)
          · refine a_i4 rfl rfl rfl ?_
            refine a_goto rfl ?_
            exact ih39 _ _ _ _ (nI_gt1 (a := mc) (by omega) hj39 c42) ⟨_, _, rfl, rfl, fh39⟩ ⟨rfl, rfl, rfl, rfl, nS _, trivial⟩
          · refine a_l0 rfl rfl rfl ?_
            refine a_l1 rfl rfl rfl ?_
            refine a_l4 rfl rfl rfl ?_
            refine a_gV rfl lX0_41 mo_X0_canBeCalledTogether (q_X0_canBeCalledTogether_254_235) rfl rfl rfl ⟨0, _, rfl, rfl, rfl⟩ rfl (fun v' h' hv => ?_)
            obtain ⟨⟨v1, rfl⟩, rfl⟩ := hv
            refine a_if_eq rfl (fun c85 => ?_) (fun c85 => ?_)
            · refine a_i4 rfl rfl rfl ?_
              refine a_goto rfl ?_
              exact ih39 _ _ _ _ (nI_gt1 (a := mc) (by omega) hj39 c42) ⟨_, _, rfl, rfl, fh39⟩ ⟨rfl, rfl, rfl, rfl, nS _, trivial⟩
            · refine a_l4 rfl rfl rfl ?_
              refine a_s3 rfl rfl rfl rfl rfl rfl ?_
              refine a_i4 rfl rfl rfl ?_
              refine a_goto rfl ?_
              exact ih39 _ _ _ _ (nI_gt1 (a := mc) (by omega) hj39 c42) ⟨_, _, rfl, rfl, fh39⟩ ⟨rfl, rfl, rfl, rfl, nS _, trivial⟩
      · refine a_s rfl rfl ?_
        refine a_goto rfl ?_
        refine a_s5 rfl rfl rfl rfl rfl rfl ?_
        refine a_l5 rfl rfl rfl ?_
        refine a_if_eq rfl (fun c63 => ?_) (fun c63 => ?_)
        · refine a_i4 rfl rfl rfl ?_
          refine a_goto rfl ?_
          exact ih39 _ _ _ _ (nI_gt1 (a := mc) (by omega) hj39 c42) ⟨_, _, rfl, rfl, fh39⟩ ⟨rfl, rfl, rfl, rfl, nS _, trivial⟩
        · refine a_l4 rfl rfl rfl ?_
          refine a_eS1 rfl lX0_36 mo_J6_bitCount_0f7a4 (sp_bitCount) rfl rfl rfl rfl ?_
          refine a_l3 rfl rfl rfl ?_
          refine a_eS1 rfl lX0_36 mo_J6_bitCount_0f7a4 (sp_bitCount) rfl rfl rfl rfl ?_
          refine a_ic_le rfl (fun c75 => ?_) (fun c75 => ?_)
          · refine a_i4 rfl rfl rfl ?_
            refine a_goto rfl ?_
            exact ih39 _ _ _ _ (nI_gt1 (a := mc) (by omega) hj39 c42) ⟨_, _, rfl, rfl, fh39⟩ ⟨rfl, rfl, rfl, rfl, nS _, trivial⟩
          · refine a_l0 rfl rfl rfl ?_
            refine a_l1 rfl rfl rfl ?_
            refine a_l4 rfl rfl rfl ?_
            refine a_gV rfl lX0_41 mo_X0_canBeCalledTogether (q_X0_canBeCalledTogether_254_235) rfl rfl rfl ⟨0, _, rfl, rfl, rfl⟩ rfl (fun v' h' hv => ?_)
            obtain ⟨⟨v2, rfl⟩, rfl⟩ := hv
            refine a_if_eq rfl (fun c85 => ?_) (fun c85 => ?_)
            · refine a_i4 rfl rfl rfl ?_
              refine a_goto rfl ?_
              exact ih39 _ _ _ _ (nI_gt1 (a := mc) (by omega) hj39 c42) ⟨_, _, rfl, rfl, fh39⟩ ⟨rfl, rfl, rfl, rfl, nS _, trivial⟩
            · refine a_l4 rfl rfl rfl ?_
              refine a_s3 rfl rfl rfl rfl rfl rfl ?_
              refine a_i4 rfl rfl rfl ?_
              refine a_goto rfl ?_
              exact ih39 _ _ _ _ (nI_gt1 (a := mc) (by omega) hj39 c42) ⟨_, _, rfl, rfl, fh39⟩ ⟨rfl, rfl, rfl, rfl, nS _, trivial⟩
  · refine a_l0 rfl rfl rfl ?_
    refine a_getq rfl gfX0_9_0 rfl (rfl) ?_
    refine a_l3 rfl rfl rfl ?_
    refine a_l1 rfl rfl rfl ?_
    refine a_l3 rfl rfl rfl ?_
    refine a_gV rfl lX0_28 mo_X5_placeOf (q_X5_placeOf_235) rfl rfl rfl ⟨5, _, rfl, rfl, rfl⟩ rfl (fun v' h' hv => ?_)
    obtain ⟨⟨v3, rfl⟩, rfl⟩ := hv
    refine a_eSN0 rfl lX0_32 mo_X11_setAt (sp_X11_setAt rfl) rfl rfl rfl rfl ?_
    refine a_ren (P := Fm sQ I) (Fm.tr (fh7) (Fm.st (Fm.rf (s := sQ)) (fun _ => rfl))) (fun I4 f5 => ?_)
    refine a_i3 rfl rfl rfl ?_
    refine a_goto rfl ?_
    exact ih7 _ _ _ _ c12 ⟨_, rfl, rfl, f5⟩ ⟨rfl, rfl, rfl, nS _, trivial⟩
theorem q_X11_most_200 {S : aS} {I : Nat → Nat → Int32} {L : Nat → Nat → Int64} {w1 w2 t : Nat} {nd : Nat} (hd : I 235 3 = nI nd) (hn : nd ≤ 12) : Sp S m_X11_most 19 0 0 [.ref 200] (hp I L w1 w2 t) (QR (Fm sQ I) isI L w1 w2 t) nX := by
  refine Sp_of ok_X11_most rfl rfl ?_
  show AW S m_X11_most 19 _ _ 0 0 0 [some (.ref 200)] [] (hp I L w1 w2 t)
  refine a_l0 rfl rfl rfl ?_
  refine a_getq rfl gfX11_51_11 rfl (rfl) ?_
  refine a_l0 rfl rfl rfl ?_
  refine a_getq rfl gfX11_37_11 rfl (rfl) ?_
  refine a_gV rfl lX11_275 mo_X0_mostCalled (q_X0_mostCalled_254_235 hd hn) rfl rfl rfl ⟨0, _, rfl, rfl, rfl⟩ rfl (fun v' h' hv => ?_)
  obtain ⟨⟨v1, rfl⟩, I2, rfl, f3⟩ := hv
  exact a_iret rfl rfl ⟨⟨_, rfl⟩, _, rfl, f3⟩
theorem q_X0_power {S : aS} {I : Nat → Nat → Int32} {L : Nat → Nat → Int64} {w1 w2 t : Nat} {x0 x1 : Int32} : Sp S m_X0_power 12 0 0 [.int x0, .int x1] (hp I L w1 w2 t) (QE isL (hp I L w1 w2 t)) nX := by
  refine Sp_of ok_X0_power rfl rfl ?_
  show AW S m_X0_power 12 _ _ 0 0 0 [some (.int x0), some (.int x1), none, none, none] [] (hp I L w1 w2 t)
  refine a_s rfl rfl ?_
  refine a_sL2 rfl rfl rfl rfl ?_
  refine a_s rfl rfl ?_
  refine a_s4 rfl rfl rfl rfl rfl rfl ?_
  refine a_cnt (j0 := 0) (fun j ls h => ∃ a0L, ls = [some (.int x0), some (.int x1), some (.long a0L), none, some (.int (nI j))] ∧ h = hp I L w1 w2 t) (by decide) ⟨_, rfl, rfl⟩ ⟨rfl, rfl, rfl, rfl, trivial⟩ ?_
  rintro j5 _ _ hj5 ⟨a0L_5, rfl, rfl⟩ ih5
  refine a_l4 rfl rfl rfl ?_
  refine a_l1 rfl rfl rfl ?_
  refine a_ic_ge rfl (fun c8 => ?_) (fun c8 => ?_)
  · refine a_l2 rfl rfl rfl ?_
    exact a_lret rfl rfl ⟨⟨_, rfl⟩, rfl⟩
  · refine a_l2 rfl rfl rfl ?_
    refine a_l0 rfl rfl rfl ?_
    refine a_s rfl rfl ?_
    refine a_s rfl rfl ?_
    refine a_sL2 rfl rfl rfl rfl ?_
    refine a_i4 rfl rfl rfl ?_
    refine a_goto rfl ?_
    exact ih5 _ _ _ _ c8 ⟨_, rfl, rfl⟩ ⟨rfl, rfl, rfl, nS _, trivial⟩
theorem q_X0_oddsOf {S : aS} {I : Nat → Nat → Int32} {L : Nat → Nat → Int64} {w1 w2 t : Nat} {x0 x2 : Int32} {m1 : Nat} (hm1 : m1 ≤ 6) : Sp S m_X0_oddsOf 13 0 0 [.int x0, .int (nI m1), .int x2] (hp I L w1 w2 t) (QE isI (hp I L w1 w2 t)) nX := by
  refine Sp_of ok_X0_oddsOf rfl rfl ?_
  show AW S m_X0_oddsOf 13 _ _ 0 0 0 [some (.int x0), some (.int (nI m1)), some (.int x2), none, none, none, none, none, none, none] [] (hp I L w1 w2 t)
  refine a_s rfl rfl ?_
  refine a_sL3 rfl rfl rfl rfl ?_
  refine a_s rfl rfl ?_
  refine a_l1 rfl rfl rfl ?_
  refine a_gS rfl lX0_109 mo_X0_power (q_X0_power) rfl rfl rfl rfl (fun v' h' hv => ?_)
  obtain ⟨⟨v1, rfl⟩, rfl⟩ := hv
  refine a_sL5 rfl rfl rfl rfl ?_
  refine a_s rfl rfl ?_
  refine a_sL7 rfl rfl rfl rfl ?_
  refine a_s rfl rfl ?_
  refine a_s9 rfl rfl rfl rfl rfl rfl ?_
  refine a_cnt (j0 := 0) (fun j ls h => ∃ a0L, ∃ a1L, ∃ a2L, ls = [some (.int x0), some (.int (nI m1)), some (.int x2), some (.long a0L), none, some (.long a1L), none, some (.long a2L), none, some (.int (nI j))] ∧ h = hp I L w1 w2 t) (by decide) ⟨_, _, _, rfl, rfl⟩ ⟨rfl, rfl, rfl, rfl, rfl, rfl, rfl, trivial⟩ ?_
  rintro j16 _ _ hj16 ⟨a0L_16, a1L_16, a2L_16, rfl, rfl⟩ ih16
  refine a_l9 rfl rfl rfl ?_
  refine a_l1 rfl rfl rfl ?_
  refine a_ic_gt rfl (fun c19 => ?_) (fun c19 => ?_)
  · refine a_l5 rfl rfl rfl ?_
    refine a_s rfl rfl ?_
    refine a_s rfl rfl ?_
    refine a_if_le rfl (fun c78 => ?_) (fun c78 => ?_)
    · refine a_s rfl rfl ?_
      exact a_iret rfl rfl ⟨⟨_, rfl⟩, rfl⟩
    · refine a_l3 rfl rfl rfl ?_
      refine a_ldc2 rfl kX0_113 ?_
      refine a_s rfl rfl ?_
      refine a_l5 rfl rfl rfl ?_
      refine a_ldiv rfl (fun z => c78 (by rw [z]; decide)) ?_
      refine a_s rfl rfl ?_
      refine a_goto rfl ?_
      exact a_iret rfl rfl ⟨⟨_, rfl⟩, rfl⟩
  · refine a_l9 rfl rfl rfl ?_
    refine a_l2 rfl rfl rfl ?_
    refine a_ic_lt rfl (fun c25 => ?_) (fun c25 => ?_)
    · refine a_l7 rfl rfl rfl ?_
      refine a_l1 rfl rfl rfl ?_
      refine a_l9 rfl rfl rfl ?_
      refine a_s rfl rfl ?_
      refine a_s rfl rfl ?_
      refine a_s rfl rfl ?_
      refine a_l9 rfl rfl rfl ?_
      refine a_s rfl rfl ?_
      refine a_s rfl rfl ?_
      refine a_s rfl rfl ?_
      refine a_ldiv rfl (odd_nz hm1 hj16 c19) ?_
      refine a_sL7 rfl rfl rfl rfl ?_
      refine a_i9 rfl rfl rfl ?_
      refine a_goto rfl ?_
      exact ih16 _ _ _ _ (nI_gt1 (a := m1) (by omega) hj16 c19) ⟨_, _, _, rfl, rfl⟩ ⟨rfl, rfl, rfl, rfl, rfl, rfl, nS _, trivial⟩
    · refine a_l3 rfl rfl rfl ?_
      refine a_l7 rfl rfl rfl ?_
      refine a_l0 rfl rfl rfl ?_
      refine a_l9 rfl rfl rfl ?_
      refine a_gS rfl lX0_109 mo_X0_power (q_X0_power) rfl rfl rfl rfl (fun v' h' hv => ?_)
      obtain ⟨⟨v2, rfl⟩, rfl⟩ := hv
      refine a_s rfl rfl ?_
      refine a_s rfl rfl ?_
      refine a_l0 rfl rfl rfl ?_
      refine a_s rfl rfl ?_
      refine a_l1 rfl rfl rfl ?_
      refine a_l9 rfl rfl rfl ?_
      refine a_s rfl rfl ?_
      refine a_gS rfl lX0_109 mo_X0_power (q_X0_power) rfl rfl rfl rfl (fun v' h' hv => ?_)
      obtain ⟨⟨v3, rfl⟩, rfl⟩ := hv
      refine a_s rfl rfl ?_
      refine a_s rfl rfl ?_
      refine a_sL3 rfl rfl rfl rfl ?_
      refine a_l7 rfl rfl rfl ?_
      refine a_l1 rfl rfl rfl ?_
      refine a_l9 rfl rfl rfl ?_
      refine a_s rfl rfl ?_
      refine a_s rfl rfl ?_
      refine a_s rfl rfl ?_
      refine a_l9 rfl rfl rfl ?_
      refine a_s rfl rfl ?_
      refine a_s rfl rfl ?_
      refine a_s rfl rfl ?_
      refine a_ldiv rfl (odd_nz hm1 hj16 c19) ?_
      refine a_sL7 rfl rfl rfl rfl ?_
      refine a_i9 rfl rfl rfl ?_
      refine a_goto rfl ?_
      exact ih16 _ _ _ _ (nI_gt1 (a := m1) (by omega) hj16 c19) ⟨_, _, _, rfl, rfl⟩ ⟨rfl, rfl, rfl, rfl, rfl, rfl, nS _, trivial⟩
theorem q_X11_odds_200 {S : aS} {I : Nat → Nat → Int32} {L : Nat → Nat → Int64} {w1 w2 t : Nat} {x1 x2 : Int32} : Sp S m_X11_odds 14 2 12 [.ref 200, .int x1, .int x2] (hp I L w1 w2 t) (QE isI (hp I L w1 w2 t)) (XR (Fm sQ I) L w1 w2 [1]) := by
  refine Sp_of ok_X11_odds rfl rfl ?_
  show AW S m_X11_odds 14 _ _ 2 12 0 [some (.ref 200), some (.int x1), some (.int x2)] [] (hp I L w1 w2 t)
  refine a_l1 rfl rfl rfl ?_
  refine a_s rfl rfl ?_
  refine a_s rfl rfl ?_
  refine a_callS rfl lX11_250 mo_X11_needNumber q_needNumber rfl rfl rfl rfl (fun v' h' hv => ?_) (fun E h' hx => XR.cm hx (by decide) (fun _ z => z))
  obtain ⟨rfl, rfl, hbm1⟩ := hv
  obtain ⟨m1, hm1a, hm1b, rfl⟩ := inB_nI (a := 0) (b := 6) (by decide) hbm1
  refine a_l2 rfl rfl rfl ?_
  refine a_s rfl rfl ?_
  refine a_s rfl rfl ?_
  refine a_callS rfl lX11_250 mo_X11_needNumber q_needNumber rfl rfl rfl rfl (fun v' h' hv => ?_) (fun E h' hx => XR.cm hx (by decide) (fun _ z => z))
  obtain ⟨rfl, rfl, hbm2⟩ := hv
  obtain ⟨m2, hm2a, hm2b, rfl⟩ := inB_nI (a := 0) (b := 6) (by decide) hbm2
  refine a_l0 rfl rfl rfl ?_
  refine a_getq rfl gfX11_37_11 rfl (rfl) ?_
  refine a_geti rfl gfX11_191_5 rfl ?_
  refine a_l1 rfl rfl rfl ?_
  refine a_l2 rfl rfl rfl ?_
  refine a_gS rfl lX11_335 mo_X0_oddsOf (q_X0_oddsOf (m1 := m1) (by omega)) rfl rfl rfl rfl (fun v' h' hv => ?_)
  obtain ⟨⟨v3, rfl⟩, rfl⟩ := hv
  exact a_iret rfl rfl ⟨⟨_, rfl⟩, rfl⟩
theorem q_X0_daysToLeaveFree {S : aS} {I : Nat → Nat → Int32} {L : Nat → Nat → Int64} {w1 w2 t : Nat} {x0 x1 x2 : Int32} : Sp S m_X0_daysToLeaveFree 14 0 0 [.int x0, .int x1, .int x2] (hp I L w1 w2 t) (QE isI (hp I L w1 w2 t)) nX := by
  refine Sp_of ok_X0_daysToLeaveFree rfl rfl ?_
  show AW S m_X0_daysToLeaveFree 14 _ _ 0 0 0 [some (.int x0), some (.int x1), some (.int x2), none, none] [] (hp I L w1 w2 t)
  refine a_l2 rfl rfl rfl ?_
  refine a_l1 rfl rfl rfl ?_
  refine a_eSN1 rfl lX0_97 mo_X11_needsOf (sp_X11_needsOf) rfl rfl rfl rfl ?_
  refine a_s3 rfl rfl rfl rfl rfl rfl ?_
  refine a_s rfl rfl ?_
  refine a_s4 rfl rfl rfl rfl rfl rfl ?_
  refine a_cnt (j0 := 1) (fun j ls h => ∃ a0, ls = [some (.int x0), some (.int x1), some (.int x2), some (.int a0), some (.int (nI j))] ∧ h = hp I L w1 w2 t) (by decide) ⟨_, rfl, rfl⟩ ⟨rfl, rfl, rfl, rfl, rfl, trivial⟩ ?_
  rintro j9 _ _ hj9 ⟨a0_9, rfl, rfl⟩ ih9
  refine a_l4 rfl rfl rfl ?_
  refine a_s rfl rfl ?_
  refine a_ic_gt rfl (fun c13 => ?_) (fun c13 => ?_)
  · refine a_s rfl rfl ?_
    exact a_iret rfl rfl ⟨⟨_, rfl⟩, rfl⟩
  · refine a_l0 rfl rfl rfl ?_
    refine a_l4 rfl rfl rfl ?_
    refine a_l3 rfl rfl rfl ?_
    refine a_gS rfl lX0_115 mo_X0_oddsOf (q_X0_oddsOf (m1 := j9) (by have := nI_le_of (a := j9) (b := 6) c13 hj9 (by decide); omega)) rfl rfl rfl rfl (fun v' h' hv => ?_)
    obtain ⟨⟨v1, rfl⟩, rfl⟩ := hv
    refine a_s rfl rfl ?_
    refine a_ic_lt rfl (fun c26 => ?_) (fun c26 => ?_)
    · refine a_i4 rfl rfl rfl ?_
      refine a_goto rfl ?_
      exact ih9 _ _ _ _ (nI_gt1 (a := 6) (by decide) hj9 c13) ⟨_, rfl, rfl⟩ ⟨rfl, rfl, rfl, rfl, nS _, trivial⟩
    · refine a_l4 rfl rfl rfl ?_
      exact a_iret rfl rfl ⟨⟨_, rfl⟩, rfl⟩
theorem q_X11_spare_200 {S : aS} {I : Nat → Nat → Int32} {L : Nat → Nat → Int64} {w1 w2 t : Nat} {x1 x2 : Int32} : Sp S m_X11_spare 15 2 12 [.ref 200, .int x1, .int x2] (hp I L w1 w2 t) (QE isI (hp I L w1 w2 t)) (XR (Fm sQ I) L w1 w2 [0, 1]) := by
  refine Sp_of ok_X11_spare rfl rfl ?_
  show AW S m_X11_spare 15 _ _ 2 12 0 [some (.ref 200), some (.int x1), some (.int x2)] [] (hp I L w1 w2 t)
  refine a_l0 rfl rfl rfl ?_
  refine a_l1 rfl rfl rfl ?_
  refine a_callV rfl lX11_110 mo_X11_needPerson (q_X11_needPerson_200) rfl rfl rfl ⟨11, _, rfl, rfl, rfl⟩ rfl (fun v' h' hv => ?_) (fun E h' hx => XR.cm hx (by decide) (fun _ z => z))
  obtain ⟨rfl, rfl⟩ := hv
  refine a_l2 rfl rfl rfl ?_
  refine a_s rfl rfl ?_
  refine a_s rfl rfl ?_
  refine a_callS rfl lX11_250 mo_X11_needNumber q_needNumber rfl rfl rfl rfl (fun v' h' hv => ?_) (fun E h' hx => XR.cm hx (by decide) (fun _ z => z))
  obtain ⟨rfl, rfl, hbm2⟩ := hv
  obtain ⟨m2, hm2a, hm2b, rfl⟩ := inB_nI (a := 1) (b := 54) (by decide) hbm2
  refine a_s rfl rfl ?_
  refine a_l0 rfl rfl rfl ?_
  refine a_getq rfl gfX11_37_11 rfl (rfl) ?_
  refine a_geti rfl gfX11_191_5 rfl ?_
  refine a_s rfl rfl ?_
  refine a_l0 rfl rfl rfl ?_
  refine a_getq rfl gfX11_37_11 rfl (rfl) ?_
  refine a_getq rfl gfX11_121_5 rfl (rfl) ?_
  refine a_l1 rfl rfl rfl ?_
  refine a_eS1 rfl lX11_117 mo_X11_at (sp_X11_at rfl) rfl rfl rfl rfl ?_
  refine a_l2 rfl rfl rfl ?_
  refine a_gS rfl lX11_339 mo_X0_daysToLeaveFree (q_X0_daysToLeaveFree) rfl rfl rfl rfl (fun v' h' hv => ?_)
  obtain ⟨⟨v3, rfl⟩, rfl⟩ := hv
  exact a_iret rfl rfl ⟨⟨_, rfl⟩, rfl⟩
theorem q_X11_takeWhoFits_200 {S : aS} {I : Nat → Nat → Int32} {L : Nat → Nat → Int64} {w1 w2 t : Nat} : Sp S m_X11_takeWhoFits 15 0 0 [.ref 200] (hp I L w1 w2 t) (QE isI (hp (up2 I 201 1 0) L w1 w2 t)) nX := by
  refine Sp_of ok_X11_takeWhoFits rfl rfl ?_
  show AW S m_X11_takeWhoFits 15 _ _ 0 0 0 [some (.ref 200), none] [] (hp I L w1 w2 t)
  refine a_l0 rfl rfl rfl ?_
  refine a_gV rfl lX11_389 mo_X11_whoFits (q_X11_whoFits_200) rfl rfl rfl ⟨11, _, rfl, rfl, rfl⟩ rfl (fun v' h' hv => ?_)
  obtain ⟨⟨v1, rfl⟩, rfl⟩ := hv
  refine a_s1 rfl rfl rfl rfl rfl rfl ?_
  refine a_l0 rfl rfl rfl ?_
  refine a_getq rfl gfX11_10_11 rfl (rfl) ?_
  refine a_s rfl rfl ?_
  refine a_puti rfl pfX11_68_7 rfl ?_
  refine a_l1 rfl rfl rfl ?_
  exact a_iret rfl rfl ⟨⟨_, rfl⟩, rfl⟩
theorem q_X11_whose_200 {S : aS} {I : Nat → Nat → Int32} {L : Nat → Nat → Int64} {w1 w2 t : Nat} : Sp S m_X11_whose 16 1 6 [.ref 200] (hp I L w1 w2 t) (QE isI (hp (up2 I 201 1 0) L w1 w2 t)) (XH [1] (hp (up2 I 201 1 0) L w1 w2 0)) := by
  refine Sp_of ok_X11_whose rfl rfl ?_
  show AW S m_X11_whose 16 _ _ 1 6 0 [some (.ref 200), none] [] (hp I L w1 w2 t)
  refine a_l0 rfl rfl rfl ?_
  refine a_gV rfl lX11_310 mo_X11_takeWhoFits (q_X11_takeWhoFits_200) rfl rfl rfl ⟨11, _, rfl, rfl, rfl⟩ rfl (fun v' h' hv => ?_)
  obtain ⟨⟨v1, rfl⟩, rfl⟩ := hv
  refine a_s1 rfl rfl rfl rfl rfl rfl ?_
  refine a_l1 rfl rfl rfl ?_
  refine a_s rfl rfl ?_
  refine a_ic_ne rfl (fun c7 => ?_) (fun c7 => ?_)
  · refine a_l1 rfl rfl rfl ?_
    exact a_iret rfl rfl ⟨⟨_, rfl⟩, rfl⟩
  · exact a_throw rfl rfl rfl rfl tX11_iae rfl rfl rfl rfl rfl ⟨⟨1, by decide, rfl⟩, rfl⟩
theorem q_X11_ask_200 {S : aS} {I : Nat → Nat → Int32} {L : Nat → Nat → Int64} {w1 w2 t : Nat} : Sp S m_X11_ask 16 1 6 [.ref 200] (hp I L w1 w2 t) (QE isI (hp (up2 I 201 1 0) L w1 w2 t)) (XH [1] (hp (up2 I 201 1 0) L w1 w2 0)) := by
  refine Sp_of ok_X11_ask rfl rfl ?_
  show AW S m_X11_ask 16 _ _ 1 6 0 [some (.ref 200), none] [] (hp I L w1 w2 t)
  refine a_l0 rfl rfl rfl ?_
  refine a_gV rfl lX11_310 mo_X11_takeWhoFits (q_X11_takeWhoFits_200) rfl rfl rfl ⟨11, _, rfl, rfl, rfl⟩ rfl (fun v' h' hv => ?_)
  obtain ⟨⟨v1, rfl⟩, rfl⟩ := hv
  refine a_s1 rfl rfl rfl rfl rfl rfl ?_
  refine a_l1 rfl rfl rfl ?_
  refine a_s rfl rfl ?_
  refine a_ic_ne rfl (fun c7 => ?_) (fun c7 => ?_)
  · refine a_l0 rfl rfl rfl ?_
    refine a_l1 rfl rfl rfl ?_
    refine a_gV rfl lX11_313 mo_X11_kerbToAskFor (q_X11_kerbToAskFor_200) rfl rfl rfl ⟨11, _, rfl, rfl, rfl⟩ rfl (fun v' h' hv => ?_)
    obtain ⟨⟨v2, rfl⟩, rfl⟩ := hv
    exact a_iret rfl rfl ⟨⟨_, rfl⟩, rfl⟩
  · exact a_throw rfl rfl rfl rfl tX11_iae rfl rfl rfl rfl rfl ⟨⟨1, by decide, rfl⟩, rfl⟩
theorem q_X11_seed_200_sN {S : aS} {I : Nat → Nat → Int32} {L : Nat → Nat → Int64} {w1 w2 t : Nat} {x1 : Int32} : Sp S m_X11_seed 12 0 0 [.ref 200, .int x1] (hp I L w1 w2 t) (QR (Fm sN I) isI L w1 w2 t) nX := by
  refine Sp_of ok_X11_seed rfl rfl ?_
  show AW S m_X11_seed 12 _ _ 0 0 0 [some (.ref 200), some (.int x1), none] [] (hp I L w1 w2 t)
  refine a_l0 rfl rfl rfl ?_
  refine a_getq rfl gfX11_37_11 rfl (rfl) ?_
  refine a_geti rfl gfX11_353_5 rfl ?_
  refine a_s2 rfl rfl rfl rfl rfl rfl ?_
  refine a_l0 rfl rfl rfl ?_
  refine a_getq rfl gfX11_37_11 rfl (rfl) ?_
  refine a_l1 rfl rfl rfl ?_
  refine a_puti rfl pfX11_353_5 rfl ?_
  refine a_ren (P := Fm sN I) (Fm.up (Fm.rf (s := sN)) rfl) (fun I1 f2 => ?_)
  refine a_l2 rfl rfl rfl ?_
  exact a_iret rfl rfl ⟨⟨_, rfl⟩, _, rfl, f2⟩
theorem q_X1_add_244_sN {S : aS} {I : Nat → Nat → Int32} {L : Nat → Nat → Int64} {w1 w2 t : Nat} {x1 x2 x3 x4 : Int32} : Sp S m_X1_add 13 0 0 [.ref 244, .int x1, .int x2, .int x3, .int x4] (hp I L w1 w2 t) (QR (Fm sN I) isV L w1 w2 t) nX := by
  refine Sp_of ok_X1_add rfl rfl ?_
  show AW S m_X1_add 13 _ _ 0 0 0 [some (.ref 244), some (.int x1), some (.int x2), some (.int x3), some (.int x4), none] [] (hp I L w1 w2 t)
  refine a_l0 rfl rfl rfl ?_
  refine a_geti rfl gfX1_19_1 rfl ?_
  refine a_s rfl rfl ?_
  refine a_s rfl rfl ?_
  refine a_s5 rfl rfl rfl rfl rfl rfl ?_
  refine a_l0 rfl rfl rfl ?_
  refine a_getq rfl gfX1_11_1 rfl (rfl) ?_
  refine a_l5 rfl rfl rfl ?_
  refine a_l1 rfl rfl rfl ?_
  refine a_eSN0 rfl lX1_26 mo_X11_setAt (sp_X11_setAt rfl) rfl rfl rfl rfl ?_
  refine a_ren (P := Fm sN I) (Fm.st (Fm.rf (s := sN)) (fun _ => rfl)) (fun I1 f2 => ?_)
  refine a_l0 rfl rfl rfl ?_
  refine a_getq rfl gfX1_11_1 rfl (rfl) ?_
  refine a_l5 rfl rfl rfl ?_
  refine a_s rfl rfl ?_
  refine a_s rfl rfl ?_
  refine a_l2 rfl rfl rfl ?_
  refine a_eSN0 rfl lX1_26 mo_X11_setAt (sp_X11_setAt rfl) rfl rfl rfl rfl ?_
  refine a_ren (P := Fm sN I) (Fm.tr (f2) (Fm.st (Fm.rf (s := sN)) (fun _ => rfl))) (fun I3 f4 => ?_)
  refine a_l0 rfl rfl rfl ?_
  refine a_getq rfl gfX1_11_1 rfl (rfl) ?_
  refine a_l5 rfl rfl rfl ?_
  refine a_s rfl rfl ?_
  refine a_s rfl rfl ?_
  refine a_l3 rfl rfl rfl ?_
  refine a_eSN0 rfl lX1_26 mo_X11_setAt (sp_X11_setAt rfl) rfl rfl rfl rfl ?_
  refine a_ren (P := Fm sN I) (Fm.tr (f4) (Fm.st (Fm.rf (s := sN)) (fun _ => rfl))) (fun I5 f6 => ?_)
  refine a_l0 rfl rfl rfl ?_
  refine a_getq rfl gfX1_11_1 rfl (rfl) ?_
  refine a_l5 rfl rfl rfl ?_
  refine a_s rfl rfl ?_
  refine a_s rfl rfl ?_
  refine a_l4 rfl rfl rfl ?_
  refine a_eSN0 rfl lX1_26 mo_X11_setAt (sp_X11_setAt rfl) rfl rfl rfl rfl ?_
  refine a_ren (P := Fm sN I) (Fm.tr (f6) (Fm.st (Fm.rf (s := sN)) (fun _ => rfl))) (fun I7 f8 => ?_)
  refine a_l0 rfl rfl rfl ?_
  refine a_l0 rfl rfl rfl ?_
  refine a_geti rfl gfX1_19_1 rfl ?_
  refine a_s rfl rfl ?_
  refine a_s rfl rfl ?_
  refine a_s rfl rfl ?_
  refine a_irem rfl (by decide) ?_
  refine a_puti rfl pfX1_19_1 rfl ?_
  refine a_ren (P := Fm sN I) (Fm.tr (f8) (Fm.up (Fm.rf (s := sN)) rfl)) (fun I9 f10 => ?_)
  refine a_l0 rfl rfl rfl ?_
  refine a_s rfl rfl ?_
  refine a_l0 rfl rfl rfl ?_
  refine a_geti rfl gfX1_15_1 rfl ?_
  refine a_s rfl rfl ?_
  refine a_s rfl rfl ?_
  refine a_min rfl lX1_30 mj_min rfl rfl ?_
  refine a_puti rfl pfX1_15_1 rfl ?_
  refine a_ren (P := Fm sN I) (Fm.tr (f10) (Fm.up (Fm.rf (s := sN)) rfl)) (fun I11 f12 => ?_)
  exact a_vret rfl rfl ⟨rfl, _, rfl, f12⟩
theorem q_X11_letParadeGoBy_200_sN {S : aS} {I : Nat → Nat → Int32} {L : Nat → Nat → Int64} {w1 w2 t : Nat} : Sp S m_X11_letParadeGoBy 16 0 0 [.ref 200] (hp I L w1 w2 t) (QR (Fm sN I) isV L w1 w2 t) nX := by
  refine Sp_of ok_X11_letParadeGoBy rfl rfl ?_
  show AW S m_X11_letParadeGoBy 16 _ _ 0 0 0 [some (.ref 200), none, none] [] (hp I L w1 w2 t)
  refine a_s rfl rfl ?_
  refine a_s1 rfl rfl rfl rfl rfl rfl ?_
  refine a_cnt (j0 := 0) (fun j ls h => ∃ I', ls = [some (.ref 200), some (.int (nI j)), none] ∧ h = hp I' L w1 w2 t ∧ Fm sN I I') (by decide) ⟨_, rfl, rfl, Fm.rf⟩ ⟨rfl, rfl, trivial⟩ ?_
  rintro j2 _ _ hj2 ⟨Ih2, rfl, rfl, fh2⟩ ih2
  refine a_l1 rfl rfl rfl ?_
  refine a_s rfl rfl ?_
  refine a_ic_ge rfl (fun c5 => ?_) (fun c5 => ?_)
  · exact a_vret rfl rfl ⟨rfl, _, rfl, fh2⟩
  · refine a_l0 rfl rfl rfl ?_
    refine a_getq rfl gfX11_37_11 rfl (rfl) ?_
    refine a_l1 rfl rfl rfl ?_
    refine a_gV rfl lX11_266 mo_X5_dutyAt (q_X5_dutyAt_235) rfl rfl rfl ⟨5, _, rfl, rfl, rfl⟩ rfl (fun v' h' hv => ?_)
    obtain ⟨⟨v1, rfl⟩, rfl⟩ := hv
    refine a_s2 rfl rfl rfl rfl rfl rfl ?_
    refine a_l2 rfl rfl rfl ?_
    refine a_s rfl rfl ?_
    refine a_ic_eq rfl (fun c19 => ?_) (fun c19 => ?_)
    · refine a_i1 rfl rfl rfl ?_
      refine a_goto rfl ?_
      exact ih2 _ _ _ _ c5 ⟨_, rfl, rfl, fh2⟩ ⟨rfl, nS _, trivial⟩
    · refine a_l0 rfl rfl rfl ?_
      refine a_getq rfl gfX11_37_11 rfl (rfl) ?_
      refine a_getq rfl gfX11_211_5 rfl (rfl) ?_
      refine a_l0 rfl rfl rfl ?_
      refine a_getq rfl gfX11_37_11 rfl (rfl) ?_
      refine a_geti rfl gfX11_188_5 rfl ?_
      refine a_l2 rfl rfl rfl ?_
      refine a_l1 rfl rfl rfl ?_
      refine a_l0 rfl rfl rfl ?_
      refine a_getq rfl gfX11_44_11 rfl (rfl) ?_
      refine a_l0 rfl rfl rfl ?_
      refine a_getq rfl gfX11_37_11 rfl (rfl) ?_
      refine a_l2 rfl rfl rfl ?_
      refine a_gV rfl lX11_170 mo_X2_shameOf (q_X2_shameOf_246_235) rfl rfl rfl ⟨2, _, rfl, rfl, rfl⟩ rfl (fun v' h' hv => ?_)
      obtain ⟨⟨v2, rfl⟩, I3, rfl, f4⟩ := hv
      replace f4 : Fm sN I I3 := Fm.tr (fh2) (Fm.mo (f4) sQ_sN)
      refine a_gV rfl lX11_385 mo_X1_add (q_X1_add_244_sN) rfl rfl rfl ⟨1, _, rfl, rfl, rfl⟩ rfl (fun v' h' hv => ?_)
      obtain ⟨rfl, I6, rfl, f7⟩ := hv
      replace f7 : Fm sN I I6 := Fm.tr (f4) (f7)
      refine a_i1 rfl rfl rfl ?_
      refine a_goto rfl ?_
      exact ih2 _ _ _ _ c5 ⟨_, rfl, rfl, f7⟩ ⟨rfl, nS _, trivial⟩
theorem q_X5_growOlder_235_sN {S : aS} {I : Nat → Nat → Int32} {L : Nat → Nat → Int64} {w1 w2 t : Nat} {x1 : Int32} : Sp S m_X5_growOlder 13 0 0 [.ref 235, .int x1] (hp I L w1 w2 t) (QR (Fm sN I) isV L w1 w2 t) nX := by
  refine Sp_of ok_X5_growOlder rfl rfl ?_
  show AW S m_X5_growOlder 13 _ _ 0 0 0 [some (.ref 235), some (.int x1)] [] (hp I L w1 w2 t)
  refine a_l0 rfl rfl rfl ?_
  refine a_getq rfl gfX5_24_5 rfl (rfl) ?_
  refine a_l1 rfl rfl rfl ?_
  refine a_s rfl rfl ?_
  refine a_l0 rfl rfl rfl ?_
  refine a_getq rfl gfX5_24_5 rfl (rfl) ?_
  refine a_l1 rfl rfl rfl ?_
  refine a_eSN1 rfl lX5_86 mo_X11_at (sp_X11_at rfl) rfl rfl rfl rfl ?_
  refine a_s rfl rfl ?_
  refine a_s rfl rfl ?_
  refine a_min rfl lX5_127 mj_min rfl rfl ?_
  refine a_eSN0 rfl lX5_82 mo_X11_setAt (sp_X11_setAt rfl) rfl rfl rfl rfl ?_
  refine a_ren (P := Fm sN I) (Fm.st (Fm.rf (s := sN)) (fun _ => rfl)) (fun I1 f2 => ?_)
  exact a_vret rfl rfl ⟨rfl, _, rfl, f2⟩
theorem q_X5_passMonth_235_246_sN {S : aS} {I : Nat → Nat → Int32} {L : Nat → Nat → Int64} {w1 w2 t : Nat} : Sp S m_X5_passMonth 16 0 0 [.ref 235, .ref 246] (hp I L w1 w2 t) (QR (Fm sN I) isV L w1 w2 t) nX := by
  refine Sp_of ok_X5_passMonth rfl rfl ?_
  show AW S m_X5_passMonth 16 _ _ 0 0 0 [some (.ref 235), some (.ref 246), none, none] [] (hp I L w1 w2 t)
  refine a_s rfl rfl ?_
  refine a_s2 rfl rfl rfl rfl rfl rfl ?_
  refine a_cnt (j0 := 0) (fun j ls h => ∃ I', ls = [some (.ref 235), some (.ref 246), some (.int (nI j)), none] ∧ h = hp I' L w1 w2 t ∧ Fm sN I I') (by decide) ⟨_, rfl, rfl, Fm.rf⟩ ⟨rfl, rfl, rfl, trivial⟩ ?_
  rintro j2 _ _ hj2 ⟨Ih2, rfl, rfl, fh2⟩ ih2
  refine a_l2 rfl rfl rfl ?_
  refine a_l0 rfl rfl rfl ?_
  refine a_geti rfl gfX5_63_5 rfl ?_
  refine a_ic_ge rfl (fun c7 => ?_) (fun c7 => ?_)
  · exact a_vret rfl rfl ⟨rfl, _, rfl, fh2⟩
  · refine a_l0 rfl rfl rfl ?_
    refine a_l2 rfl rfl rfl ?_
    refine a_gV rfl lX5_90 mo_X5_isWaiting (q_X5_isWaiting_235) rfl rfl rfl ⟨5, _, rfl, rfl, rfl⟩ rfl (fun v' h' hv => ?_)
    obtain ⟨⟨v1, rfl⟩, rfl⟩ := hv
    refine a_if_eq rfl (fun c15 => ?_) (fun c15 => ?_)
    · refine a_l0 rfl rfl rfl ?_
      refine a_getq rfl gfX5_33_5 rfl (rfl) ?_
      refine a_l2 rfl rfl rfl ?_
      refine a_eSN1 rfl lX5_86 mo_X11_at (sp_X11_at rfl) rfl rfl rfl rfl ?_
      refine a_s rfl rfl ?_
      refine a_ic_eq rfl (fun c57 => ?_) (fun c57 => ?_)
      · refine a_i2 rfl rfl rfl ?_
        refine a_goto rfl ?_
        exact ih2 _ _ _ _ c7 ⟨_, rfl, rfl, fh2⟩ ⟨rfl, rfl, nS _, trivial⟩
      · refine a_l0 rfl rfl rfl ?_
        refine a_l2 rfl rfl rfl ?_
        refine a_gV rfl lX5_163 mo_X5_growOlder (q_X5_growOlder_235_sN) rfl rfl rfl ⟨5, _, rfl, rfl, rfl⟩ rfl (fun v' h' hv => ?_)
        obtain ⟨rfl, I3, rfl, f4⟩ := hv
        replace f4 : Fm sN I I3 := Fm.tr (fh2) (f4)
        refine a_i2 rfl rfl rfl ?_
        refine a_goto rfl ?_
        exact ih2 _ _ _ _ c7 ⟨_, rfl, rfl, f4⟩ ⟨rfl, rfl, nS _, trivial⟩
    · refine a_l0 rfl rfl rfl ?_
      refine a_getq rfl gfX5_21_5 rfl (rfl) ?_
      refine a_l2 rfl rfl rfl ?_
      refine a_eSN1 rfl lX5_86 mo_X11_at (sp_X11_at rfl) rfl rfl rfl rfl ?_
      refine a_l1 rfl rfl rfl ?_
      refine a_l0 rfl rfl rfl ?_
      refine a_l2 rfl rfl rfl ?_
      refine a_gV rfl lX5_157 mo_X2_growthOf (q_X2_growthOf_246_235) rfl rfl rfl ⟨2, _, rfl, rfl, rfl⟩ rfl (fun v' h' hv => ?_)
      obtain ⟨⟨v5, rfl⟩, I6, rfl, f7⟩ := hv
      replace f7 : Fm sN I I6 := Fm.tr (fh2) (Fm.mo (f7) sQ_sN)
      refine a_s rfl rfl ?_
      refine a_s3 rfl rfl rfl rfl rfl rfl ?_
      refine a_l0 rfl rfl rfl ?_
      refine a_getq rfl gfX5_21_5 rfl (rfl) ?_
      refine a_l2 rfl rfl rfl ?_
      refine a_s rfl rfl ?_
      refine a_l3 rfl rfl rfl ?_
      refine a_min rfl lX5_127 mj_min rfl rfl ?_
      refine a_eSN0 rfl lX5_82 mo_X11_setAt (sp_X11_setAt rfl) rfl rfl rfl rfl ?_
      refine a_ren (P := Fm sN I) (Fm.tr (f7) (Fm.st (Fm.rf (s := sN)) (fun _ => rfl))) (fun I8 f9 => ?_)
      refine a_l0 rfl rfl rfl ?_
      refine a_getq rfl gfX5_33_5 rfl (rfl) ?_
      refine a_l2 rfl rfl rfl ?_
      refine a_eSN1 rfl lX5_86 mo_X11_at (sp_X11_at rfl) rfl rfl rfl rfl ?_
      refine a_s rfl rfl ?_
      refine a_ic_eq rfl (fun c57 => ?_) (fun c57 => ?_)
      · refine a_i2 rfl rfl rfl ?_
        refine a_goto rfl ?_
        exact ih2 _ _ _ _ c7 ⟨_, rfl, rfl, f9⟩ ⟨rfl, rfl, nS _, trivial⟩
      · refine a_l0 rfl rfl rfl ?_
        refine a_l2 rfl rfl rfl ?_
        refine a_gV rfl lX5_163 mo_X5_growOlder (q_X5_growOlder_235_sN) rfl rfl rfl ⟨5, _, rfl, rfl, rfl⟩ rfl (fun v' h' hv => ?_)
        obtain ⟨rfl, I11, rfl, f12⟩ := hv
        replace f12 : Fm sN I I11 := Fm.tr (f9) (f12)
        refine a_i2 rfl rfl rfl ?_
        refine a_goto rfl ?_
        exact ih2 _ _ _ _ c7 ⟨_, rfl, rfl, f12⟩ ⟨rfl, rfl, nS _, trivial⟩
theorem q_X5_finish_235_sN {S : aS} {I : Nat → Nat → Int32} {L : Nat → Nat → Int64} {w1 w2 t : Nat} {x1 : Int32} : Sp S m_X5_finish 13 0 0 [.ref 235, .int x1] (hp I L w1 w2 t) (QR (Fm sN I) isV L w1 w2 t) nX := by
  refine Sp_of ok_X5_finish rfl rfl ?_
  show AW S m_X5_finish 13 _ _ 0 0 0 [some (.ref 235), some (.int x1)] [] (hp I L w1 w2 t)
  refine a_l0 rfl rfl rfl ?_
  refine a_getq rfl gfX5_21_5 rfl (rfl) ?_
  refine a_l1 rfl rfl rfl ?_
  refine a_s rfl rfl ?_
  refine a_eSN0 rfl lX5_82 mo_X11_setAt (sp_X11_setAt rfl) rfl rfl rfl rfl ?_
  refine a_ren (P := Fm sN I) (Fm.st (Fm.rf (s := sN)) (fun _ => rfl)) (fun I1 f2 => ?_)
  refine a_l0 rfl rfl rfl ?_
  refine a_getq rfl gfX5_33_5 rfl (rfl) ?_
  refine a_l1 rfl rfl rfl ?_
  refine a_s rfl rfl ?_
  refine a_eSN0 rfl lX5_82 mo_X11_setAt (sp_X11_setAt rfl) rfl rfl rfl rfl ?_
  refine a_ren (P := Fm sN I) (Fm.tr (f2) (Fm.st (Fm.rf (s := sN)) (fun _ => rfl))) (fun I3 f4 => ?_)
  exact a_vret rfl rfl ⟨rfl, _, rfl, f4⟩
theorem q_X5_work_235_sN {S : aS} {I : Nat → Nat → Int32} {L : Nat → Nat → Int64} {w1 w2 t : Nat} {x1 x2 : Int32} : Sp S m_X5_work 15 0 0 [.ref 235, .int x1, .int x2] (hp I L w1 w2 t) (QR (Fm sN I) isI L w1 w2 t) nX := by
  refine Sp_of ok_X5_work rfl rfl ?_
  show AW S m_X5_work 15 _ _ 0 0 0 [some (.ref 235), some (.int x1), some (.int x2), none, none, none, none] [] (hp I L w1 w2 t)
  refine a_s rfl rfl ?_
  refine a_s3 rfl rfl rfl rfl rfl rfl ?_
  refine a_l0 rfl rfl rfl ?_
  refine a_getq rfl gfX5_15_5 rfl (rfl) ?_
  refine a_l1 rfl rfl rfl ?_
  refine a_eSN1 rfl lX5_86 mo_X11_at (sp_X11_at rfl) rfl rfl rfl rfl ?_
  refine a_s4 rfl rfl rfl rfl rfl rfl ?_
  refine a_s rfl rfl ?_
  refine a_s5 rfl rfl rfl rfl rfl rfl ?_
  refine a_cnt (j0 := 0) (fun j ls h => ∃ a0, ∃ a1, ∃ I', ls = [some (.ref 235), some (.int x1), some (.int x2), some (.int a0), some (.int a1), some (.int (nI j)), none] ∧ h = hp I' L w1 w2 t ∧ Fm sN I I') (by decide) ⟨_, _, _, rfl, rfl, Fm.rf⟩ ⟨rfl, rfl, rfl, rfl, rfl, rfl, trivial⟩ ?_
  rintro j15 _ _ hj15 ⟨a0_15, a1_15, Ih15, rfl, rfl, fh15⟩ ih15
  refine a_l5 rfl rfl rfl ?_
  refine a_l0 rfl rfl rfl ?_
  refine a_geti rfl gfX5_63_5 rfl ?_
  refine a_ic_ge rfl (fun c21 => ?_) (fun c21 => ?_)
  · refine a_l3 rfl rfl rfl ?_
    exact a_iret rfl rfl ⟨⟨_, rfl⟩, _, rfl, fh15⟩
  · refine a_l4 rfl rfl rfl ?_
    refine a_if_le rfl (fun c26 => ?_) (fun c26 => ?_)
    · refine a_l3 rfl rfl rfl ?_
      exact a_iret rfl rfl ⟨⟨_, rfl⟩, _, rfl, fh15⟩
    · refine a_l0 rfl rfl rfl ?_
      refine a_getq rfl gfX5_18_5 rfl (rfl) ?_
      refine a_l5 rfl rfl rfl ?_
      refine a_eSN1 rfl lX5_86 mo_X11_at (sp_X11_at rfl) rfl rfl rfl rfl ?_
      refine a_l1 rfl rfl rfl ?_
      refine a_ic_ne rfl (fun c39 => ?_) (fun c39 => ?_)
      · refine a_i5 rfl rfl rfl ?_
        refine a_goto rfl ?_
        exact ih15 _ _ _ _ c21 ⟨_, _, _, rfl, rfl, fh15⟩ ⟨rfl, rfl, rfl, rfl, rfl, nS _, trivial⟩
      · refine a_l0 rfl rfl rfl ?_
        refine a_l5 rfl rfl rfl ?_
        refine a_gV rfl lX5_101 mo_X5_isReady (q_X5_isReady_235) rfl rfl rfl ⟨5, _, rfl, rfl, rfl⟩ rfl (fun v' h' hv => ?_)
        obtain ⟨⟨v1, rfl⟩, rfl⟩ := hv
        refine a_if_eq rfl (fun c48 => ?_) (fun c48 => ?_)
        · refine a_i5 rfl rfl rfl ?_
          refine a_goto rfl ?_
          exact ih15 _ _ _ _ c21 ⟨_, _, _, rfl, rfl, fh15⟩ ⟨rfl, rfl, rfl, rfl, rfl, nS _, trivial⟩
        · refine a_l2 rfl rfl rfl ?_
          refine a_l0 rfl rfl rfl ?_
          refine a_getq rfl gfX5_27_5 rfl (rfl) ?_
          refine a_l5 rfl rfl rfl ?_
          refine a_eSN1 rfl lX5_86 mo_X11_at (sp_X11_at rfl) rfl rfl rfl rfl ?_
          refine a_eSN1 rfl lX5_149 mo_X11_has (sp_X11_has) rfl rfl rfl rfl ?_
          refine a_if_ne rfl (fun c64 => ?_) (fun c64 => ?_)
          · refine a_i5 rfl rfl rfl ?_
            refine a_goto rfl ?_
            exact ih15 _ _ _ _ c21 ⟨_, _, _, rfl, rfl, fh15⟩ ⟨rfl, rfl, rfl, rfl, rfl, nS _, trivial⟩
          · refine a_l4 rfl rfl rfl ?_
            refine a_l0 rfl rfl rfl ?_
            refine a_getq rfl gfX5_21_5 rfl (rfl) ?_
            refine a_l5 rfl rfl rfl ?_
            refine a_eSN1 rfl lX5_86 mo_X11_at (sp_X11_at rfl) rfl rfl rfl rfl ?_
            refine a_min rfl lX5_127 mj_min rfl rfl ?_
            refine a_s6 rfl rfl rfl rfl rfl rfl ?_
            refine a_l4 rfl rfl rfl ?_
            refine a_l6 rfl rfl rfl ?_
            refine a_s rfl rfl ?_
            refine a_s4 rfl rfl rfl rfl rfl rfl ?_
            refine a_l3 rfl rfl rfl ?_
            refine a_l0 rfl rfl rfl ?_
            refine a_getq rfl gfX5_27_5 rfl (rfl) ?_
            refine a_l5 rfl rfl rfl ?_
            refine a_eSN1 rfl lX5_86 mo_X11_at (sp_X11_at rfl) rfl rfl rfl rfl ?_
            refine a_eSN1 rfl lX5_97 mo_X11_bit (sp_X11_bit) rfl rfl rfl rfl ?_
            refine a_s rfl rfl ?_
            refine a_s3 rfl rfl rfl rfl rfl rfl ?_
            refine a_l0 rfl rfl rfl ?_
            refine a_getq rfl gfX5_21_5 rfl (rfl) ?_
            refine a_l5 rfl rfl rfl ?_
            refine a_l0 rfl rfl rfl ?_
            refine a_getq rfl gfX5_21_5 rfl (rfl) ?_
            refine a_l5 rfl rfl rfl ?_
            refine a_eSN1 rfl lX5_86 mo_X11_at (sp_X11_at rfl) rfl rfl rfl rfl ?_
            refine a_l6 rfl rfl rfl ?_
            refine a_s rfl rfl ?_
            refine a_eSN0 rfl lX5_82 mo_X11_setAt (sp_X11_setAt rfl) rfl rfl rfl rfl ?_
            refine a_ren (P := Fm sN I) (Fm.tr (fh15) (Fm.st (Fm.rf (s := sN)) (fun _ => rfl))) (fun I2 f3 => ?_)
            refine a_l0 rfl rfl rfl ?_
            refine a_getq rfl gfX5_21_5 rfl (rfl) ?_
            refine a_l5 rfl rfl rfl ?_
            refine a_eSN1 rfl lX5_86 mo_X11_at (sp_X11_at rfl) rfl rfl rfl rfl ?_
            refine a_if_ne rfl (fun c135 => ?_) (fun c135 => ?_)
            · refine a_i5 rfl rfl rfl ?_
              refine a_goto rfl ?_
              exact ih15 _ _ _ _ c21 ⟨_, _, _, rfl, rfl, f3⟩ ⟨rfl, rfl, rfl, rfl, rfl, nS _, trivial⟩
            · refine a_l0 rfl rfl rfl ?_
              refine a_l5 rfl rfl rfl ?_
              refine a_gV rfl lX5_153 mo_X5_finish (q_X5_finish_235_sN) rfl rfl rfl ⟨5, _, rfl, rfl, rfl⟩ rfl (fun v' h' hv => ?_)
              obtain ⟨rfl, I5, rfl, f6⟩ := hv
              replace f6 : Fm sN I I5 := Fm.tr (f3) (f6)
              refine a_i5 rfl rfl rfl ?_
              refine a_goto rfl ?_
              exact ih15 _ _ _ _ c21 ⟨_, _, _, rfl, rfl, f6⟩ ⟨rfl, rfl, rfl, rfl, rfl, nS _, trivial⟩
theorem q_X5_passDay_235_246_sN {S : aS} {I : Nat → Nat → Int32} {L : Nat → Nat → Int64} {w1 w2 t : Nat} {b2 : Bool} : Sp S m_X5_passDay 17 0 0 [.ref 235, .ref 246, .int (bI b2)] (hp I L w1 w2 t) (QR (Fm sN I) isV L w1 w2 t) nX := by
  refine Sp_of ok_X5_passDay rfl rfl ?_
  show AW S m_X5_passDay 17 _ _ 0 0 0 [some (.ref 235), some (.ref 246), some (.int (bI b2)), none, none, none] [] (hp I L w1 w2 t)
  refine a_s rfl rfl ?_
  refine a_s3 rfl rfl rfl rfl rfl rfl ?_
  refine a_s rfl rfl ?_
  refine a_s4 rfl rfl rfl rfl rfl rfl ?_
  refine a_cnt (j0 := 0) (fun j ls h => ∃ a0, ∃ I', ls = [some (.ref 235), some (.ref 246), some (.int (bI b2)), some (.int a0), some (.int (nI j)), none] ∧ h = hp I' L w1 w2 t ∧ Fm sN I I') (by decide) ⟨_, _, rfl, rfl, Fm.rf⟩ ⟨rfl, rfl, rfl, rfl, rfl, trivial⟩ ?_
  rintro j5 _ _ hj5 ⟨a0_5, Ih5, rfl, rfl, fh5⟩ ih5
  refine a_l4 rfl rfl rfl ?_
  refine a_l0 rfl rfl rfl ?_
  refine a_geti rfl gfX5_56_5 rfl ?_
  refine a_ic_ge rfl (fun c11 => ?_) (fun c11 => ?_)
  · refine a_l0 rfl rfl rfl ?_
    refine a_s rfl rfl ?_
    refine a_geti rfl gfX5_36_5 rfl ?_
    refine a_s rfl rfl ?_
    refine a_s rfl rfl ?_
    refine a_puti rfl pfX5_36_5 rfl ?_
    refine a_ren (P := Fm sN I) (Fm.tr (fh5) (Fm.up (Fm.rf (s := sN)) rfl)) (fun I1 f2 => ?_)
    refine a_l0 rfl rfl rfl ?_
    refine a_geti rfl gfX5_36_5 rfl ?_
    refine a_s rfl rfl ?_
    refine a_ic_le rfl (fun c76 => ?_) (fun c76 => ?_)
    · exact a_vret rfl rfl ⟨rfl, _, rfl, f2⟩
    · refine a_l0 rfl rfl rfl ?_
      refine a_s rfl rfl ?_
      refine a_puti rfl pfX5_36_5 rfl ?_
      refine a_ren (P := Fm sN I) (Fm.tr (f2) (Fm.up (Fm.rf (s := sN)) rfl)) (fun I3 f4 => ?_)
      refine a_l0 rfl rfl rfl ?_
      refine a_s rfl rfl ?_
      refine a_l0 rfl rfl rfl ?_
      refine a_geti rfl gfX5_66_5 rfl ?_
      refine a_s rfl rfl ?_
      refine a_s rfl rfl ?_
      refine a_min rfl lX5_127 mj_min rfl rfl ?_
      refine a_puti rfl pfX5_66_5 rfl ?_
      refine a_ren (P := Fm sN I) (Fm.tr (f4) (Fm.up (Fm.rf (s := sN)) rfl)) (fun I5 f6 => ?_)
      refine a_l0 rfl rfl rfl ?_
      refine a_l1 rfl rfl rfl ?_
      refine a_gV rfl lX5_140 mo_X5_passMonth (q_X5_passMonth_235_246_sN) rfl rfl rfl ⟨5, _, rfl, rfl, rfl⟩ rfl (fun v' h' hv => ?_)
      obtain ⟨rfl, I8, rfl, f9⟩ := hv
      replace f9 : Fm sN I I8 := Fm.tr (f6) (f9)
      exact a_vret rfl rfl ⟨rfl, _, rfl, f9⟩
  · refine a_l2 rfl rfl rfl ?_
    refine a_if_eq rfl (fun c15 => ?_) (fun c15 => ?_)
    · refine a_s rfl rfl ?_
      refine a_s5 rfl rfl rfl rfl rfl rfl ?_
      refine a_l5 rfl rfl rfl ?_
      refine a_if_ne rfl (fun c41 => ?_) (fun c41 => ?_)
      · refine a_i4 rfl rfl rfl ?_
        refine a_goto rfl ?_
        exact ih5 _ _ _ _ c11 ⟨_, _, rfl, rfl, fh5⟩ ⟨rfl, rfl, rfl, rfl, nS _, trivial⟩
      · refine a_l3 rfl rfl rfl ?_
        refine a_l0 rfl rfl rfl ?_
        refine a_l4 rfl rfl rfl ?_
        refine a_l3 rfl rfl rfl ?_
        refine a_gV rfl lX5_137 mo_X5_work (q_X5_work_235_sN) rfl rfl rfl ⟨5, _, rfl, rfl, rfl⟩ rfl (fun v' h' hv => ?_)
        obtain ⟨⟨v10, rfl⟩, I11, rfl, f12⟩ := hv
        replace f12 : Fm sN I I11 := Fm.tr (fh5) (f12)
        refine a_s rfl rfl ?_
        refine a_s3 rfl rfl rfl rfl rfl rfl ?_
        refine a_i4 rfl rfl rfl ?_
        refine a_goto rfl ?_
        exact ih5 _ _ _ _ c11 ⟨_, _, rfl, rfl, f12⟩ ⟨rfl, rfl, rfl, rfl, nS _, trivial⟩
    · refine a_l0 rfl rfl rfl ?_
      refine a_eV1 rfl lX5_133 mo_X5_draw (sp_X5_draw (a := 235) (by decide)) rfl rfl rfl ⟨5, _, rfl, rfl, rfl⟩ rfl ?_
      refine a_ren (P := Fm sN I) (Fm.tr (fh5) (Fm.up (Fm.rf (s := sN)) rfl)) (fun I13 f14 => ?_)
      refine a_s rfl rfl ?_
      refine a_irem rfl (by decide) ?_
      refine a_l0 rfl rfl rfl ?_
      refine a_geti rfl gfX5_69_5 rfl ?_
      refine a_ic_ge rfl (fun c29 => ?_) (fun c29 => ?_)
      · refine a_s rfl rfl ?_
        refine a_s5 rfl rfl rfl rfl rfl rfl ?_
        refine a_l5 rfl rfl rfl ?_
        refine a_if_ne rfl (fun c41 => ?_) (fun c41 => ?_)
        · refine a_i4 rfl rfl rfl ?_
          refine a_goto rfl ?_
          exact ih5 _ _ _ _ c11 ⟨_, _, rfl, rfl, f14⟩ ⟨rfl, rfl, rfl, rfl, nS _, trivial⟩
        · refine a_l3 rfl rfl rfl ?_
          refine a_l0 rfl rfl rfl ?_
          refine a_l4 rfl rfl rfl ?_
          refine a_l3 rfl rfl rfl ?_
          refine a_gV rfl lX5_137 mo_X5_work (q_X5_work_235_sN) rfl rfl rfl ⟨5, _, rfl, rfl, rfl⟩ rfl (fun v' h' hv => ?_)
          obtain ⟨⟨v15, rfl⟩, I16, rfl, f17⟩ := hv
          replace f17 : Fm sN I I16 := Fm.tr (f14) (f17)
          refine a_s rfl rfl ?_
          refine a_s3 rfl rfl rfl rfl rfl rfl ?_
          refine a_i4 rfl rfl rfl ?_
          refine a_goto rfl ?_
          exact ih5 _ _ _ _ c11 ⟨_, _, rfl, rfl, f17⟩ ⟨rfl, rfl, rfl, rfl, nS _, trivial⟩
      · refine a_s rfl rfl ?_
        refine a_goto rfl ?_
        refine a_s5 rfl rfl rfl rfl rfl rfl ?_
        refine a_l5 rfl rfl rfl ?_
        refine a_if_ne rfl (fun c41 => ?_) (fun c41 => ?_)
        · refine a_i4 rfl rfl rfl ?_
          refine a_goto rfl ?_
          exact ih5 _ _ _ _ c11 ⟨_, _, rfl, rfl, f14⟩ ⟨rfl, rfl, rfl, rfl, nS _, trivial⟩
        · refine a_l3 rfl rfl rfl ?_
          refine a_l0 rfl rfl rfl ?_
          refine a_l4 rfl rfl rfl ?_
          refine a_l3 rfl rfl rfl ?_
          refine a_gV rfl lX5_137 mo_X5_work (q_X5_work_235_sN) rfl rfl rfl ⟨5, _, rfl, rfl, rfl⟩ rfl (fun v' h' hv => ?_)
          obtain ⟨⟨v18, rfl⟩, I19, rfl, f20⟩ := hv
          replace f20 : Fm sN I I19 := Fm.tr (f14) (f20)
          refine a_s rfl rfl ?_
          refine a_s3 rfl rfl rfl rfl rfl rfl ?_
          refine a_i4 rfl rfl rfl ?_
          refine a_goto rfl ?_
          exact ih5 _ _ _ _ c11 ⟨_, _, rfl, rfl, f20⟩ ⟨rfl, rfl, rfl, rfl, nS _, trivial⟩
end
section
/-! ===== the class: acts, image, undo, tape (printed by program) ===== -/
set_option maxRecDepth 100000
theorem nI_leu {n j : Nat} (h : n ≤ j) (hj : j < 2 ^ 31) : nI n ≤ nI j := Int32.le_iff_toInt_le.mpr (by rw [nI_toInt (by omega), nI_toInt hj]; omega)
theorem past_R {w1 w2 : Nat} : ∀ i, i < 12 → Rw w1 w2 287 i = 288 + 11 * i + 1 := by
  intro i hi
  have h : ∀ i, i < 12 → Rc 287 i = 288 + 11 * i + 1 := by decide +kernel
  have h9 : Nat.beq 287 204 = false := rfl
  have h8 : Nat.beq 287 221 = false := rfl
  unfold Rw
  rw [h9, h8, h i hi]
  split <;> rfl
theorem past_st : ∀ i, i < 12 → stp (288 + 11 * i) := by decide +kernel
theorem q_pastAt {S : aS} {I : Nat → Nat → Int32} {L : Nat → Nat → Int64} {w1 w2 t : Nat} {x : Int32} : Sp S m_X11_pastAt 12 0 0 [.ref 200, .int x] (hp I L w1 w2 t) (fun v h' => (v = some .null ∨ ∃ i, i < 12 ∧ v = some (.ref (288 + 11 * i))) ∧ h' = hp I L w1 w2 t) nX := by
  refine Sp_of ok_X11_pastAt rfl rfl ?_
  show AW S m_X11_pastAt 12 _ _ 0 0 0 [some (.ref 200), some (.int x), none] [] (hp I L w1 w2 t)
  refine a_l1 rfl rfl rfl ?_
  refine a_s rfl rfl ?_
  refine a_irem rfl (by decide) ?_
  refine a_s2 rfl rfl rfl rfl rfl rfl ?_
  refine a_l2 rfl rfl rfl ?_
  refine a_if_lt rfl (fun c6 => ?_) (fun c6 => ?_)
  · refine a_s rfl rfl ?_
    exact a_aret (q := 0) rfl rfl rfl ⟨Or.inl rfl, rfl⟩
  · refine a_l2 rfl rfl rfl ?_
    refine a_l0 rfl rfl rfl ?_
    refine a_getq rfl gfX11_64_11 rfl (rfl) ?_
    refine a_len rfl rfl rfl rfl ?_
    refine a_ic_ge rfl (fun c15 => ?_) (fun c15 => ?_)
    · refine a_s rfl rfl ?_
      exact a_aret (q := 0) rfl rfl rfl ⟨Or.inl rfl, rfl⟩
    · refine a_l0 rfl rfl rfl ?_
      refine a_getq rfl gfX11_64_11 rfl (rfl) ?_
      refine a_l2 rfl rfl rfl ?_
      have hi := inI_of (n := 12) (by decide) c6 c15
      refine a_aald rfl rfl hi (past_R _ hi.2) ?_
      refine a_goto rfl ?_
      exact a_aret (q := 288 + 11 * _ + 1) rfl rfl rfl ⟨Or.inr ⟨_, hi.2, rfl⟩, rfl⟩
theorem q_X11_rememberAct_200 {S : aS} {I : Nat → Nat → Int32} {L : Nat → Nat → Int64} {w1 w2 t : Nat} : Sp S m_X11_rememberAct 15 0 0 [.ref 200] (hp I L w1 w2 t) (QR (Mt I) isV L w1 w2 t) nX := by
  refine Sp_of ok_X11_rememberAct rfl rfl ?_
  show AW S m_X11_rememberAct 15 _ _ 0 0 0 [some (.ref 200), none] [] (hp I L w1 w2 t)
  refine a_l0 rfl rfl rfl ?_
  refine a_geti rfl gfX11_95_11 rfl ?_
  refine a_s rfl rfl ?_
  refine a_ic_ne rfl (fun c6 => ?_) (fun c6 => ?_)
  · refine a_l0 rfl rfl rfl ?_
    refine a_l0 rfl rfl rfl ?_
    refine a_geti rfl gfX11_368_11 rfl ?_
    refine a_l0 rfl rfl rfl ?_
    refine a_geti rfl gfX11_95_11 rfl ?_
    refine a_s rfl rfl ?_
    refine a_gV rfl lX11_371 mo_X11_pastAt (q_pastAt) rfl rfl rfl ⟨11, _, rfl, rfl, rfl⟩ rfl (fun v' h' hv => ?_)
    obtain ⟨rfl | ⟨i, hi, rfl⟩, rfl⟩ := hv
    · refine a_s1 rfl rfl rfl rfl rfl rfl ?_
      refine a_l1 rfl rfl rfl ?_
      refine a_ifnull_t rfl ?_
      refine a_l0 rfl rfl rfl ?_
      refine a_s rfl rfl ?_
      refine a_geti rfl gfX11_95_11 rfl ?_
      refine a_s rfl rfl ?_
      refine a_s rfl rfl ?_
      refine a_puti rfl pfX11_95_11 rfl ?_
      refine a_ren (P := Mt I) (Mt.fm (Mt.rf) (Fm.up (Fm.rf (s := sM)) rfl)) (fun I1 f2 => ?_)
      exact a_vret rfl rfl ⟨rfl, _, rfl, f2⟩
    · refine a_s1 rfl rfl rfl rfl rfl rfl ?_
      refine a_l1 rfl rfl rfl ?_
      refine a_ifnull_f rfl ?_
      refine a_l1 rfl rfl rfl ?_
      refine a_l0 rfl rfl rfl ?_
      refine a_getq rfl gfX11_37_11 rfl (rfl) ?_
      refine a_eV0 rfl lX11_375 mo_X5_copyAll (sp_X5_copyAll (a := 288 + 11 * i) (b := 235) (past_st i hi) (by decide) (by omega)) rfl rfl rfl ⟨5, _, kS0 (past_st i hi), rfl, rfl⟩ rfl ?_
      refine a_ren (P := Mt I) (Mt.tr (Mt.rf) (Mt.cpA (past_st i hi) (by decide) (by decide))) (fun I3 f4 => ?_)
      refine a_l0 rfl rfl rfl ?_
      refine a_s rfl rfl ?_
      refine a_geti rfl gfX11_95_11 rfl ?_
      refine a_s rfl rfl ?_
      refine a_s rfl rfl ?_
      refine a_puti rfl pfX11_95_11 rfl ?_
      refine a_ren (P := Mt I) (Mt.fm (f4) (Fm.up (Fm.rf (s := sM)) rfl)) (fun I5 f6 => ?_)
      exact a_vret rfl rfl ⟨rfl, _, rfl, f6⟩
  · refine a_l0 rfl rfl rfl ?_
    refine a_l0 rfl rfl rfl ?_
    refine a_geti rfl gfX11_368_11 rfl ?_
    refine a_s rfl rfl ?_
    refine a_s rfl rfl ?_
    refine a_s rfl rfl ?_
    refine a_irem rfl (by decide) ?_
    refine a_puti rfl pfX11_368_11 rfl ?_
    refine a_ren (P := Mt I) (Mt.fm (Mt.rf) (Fm.up (Fm.rf (s := sM)) rfl)) (fun I7 f8 => ?_)
    refine a_l0 rfl rfl rfl ?_
    refine a_s rfl rfl ?_
    refine a_geti rfl gfX11_95_11 rfl ?_
    refine a_s rfl rfl ?_
    refine a_s rfl rfl ?_
    refine a_puti rfl pfX11_95_11 rfl ?_
    refine a_ren (P := Mt I) (Mt.fm (f8) (Fm.up (Fm.rf (s := sM)) rfl)) (fun I9 f10 => ?_)
    refine a_l0 rfl rfl rfl ?_
    refine a_l0 rfl rfl rfl ?_
    refine a_geti rfl gfX11_368_11 rfl ?_
    refine a_l0 rfl rfl rfl ?_
    refine a_geti rfl gfX11_95_11 rfl ?_
    refine a_s rfl rfl ?_
    refine a_gV rfl lX11_371 mo_X11_pastAt (q_pastAt) rfl rfl rfl ⟨11, _, rfl, rfl, rfl⟩ rfl (fun v' h' hv => ?_)
    obtain ⟨rfl | ⟨i, hi, rfl⟩, rfl⟩ := hv
    · refine a_s1 rfl rfl rfl rfl rfl rfl ?_
      refine a_l1 rfl rfl rfl ?_
      refine a_ifnull_t rfl ?_
      refine a_l0 rfl rfl rfl ?_
      refine a_s rfl rfl ?_
      refine a_geti rfl gfX11_95_11 rfl ?_
      refine a_s rfl rfl ?_
      refine a_s rfl rfl ?_
      refine a_puti rfl pfX11_95_11 rfl ?_
      refine a_ren (P := Mt I) (Mt.fm (f10) (Fm.up (Fm.rf (s := sM)) rfl)) (fun I11 f12 => ?_)
      exact a_vret rfl rfl ⟨rfl, _, rfl, f12⟩
    · refine a_s1 rfl rfl rfl rfl rfl rfl ?_
      refine a_l1 rfl rfl rfl ?_
      refine a_ifnull_f rfl ?_
      refine a_l1 rfl rfl rfl ?_
      refine a_l0 rfl rfl rfl ?_
      refine a_getq rfl gfX11_37_11 rfl (rfl) ?_
      refine a_eV0 rfl lX11_375 mo_X5_copyAll (sp_X5_copyAll (a := 288 + 11 * i) (b := 235) (past_st i hi) (by decide) (by omega)) rfl rfl rfl ⟨5, _, kS0 (past_st i hi), rfl, rfl⟩ rfl ?_
      refine a_ren (P := Mt I) (Mt.tr (f10) (Mt.cpA (past_st i hi) (by decide) (by decide))) (fun I13 f14 => ?_)
      refine a_l0 rfl rfl rfl ?_
      refine a_s rfl rfl ?_
      refine a_geti rfl gfX11_95_11 rfl ?_
      refine a_s rfl rfl ?_
      refine a_s rfl rfl ?_
      refine a_puti rfl pfX11_95_11 rfl ?_
      refine a_ren (P := Mt I) (Mt.fm (f14) (Fm.up (Fm.rf (s := sM)) rfl)) (fun I15 f16 => ?_)
      exact a_vret rfl rfl ⟨rfl, _, rfl, f16⟩
theorem q_X11_call_200 {S : aS} {I : Nat → Nat → Int32} {L : Nat → Nat → Int64} {w1 w2 t : Nat} {x1 : Int32} : Sp S m_X11_call 17 2 12 [.ref 200, .int x1] (hp I L w1 w2 t) (QR (Mt I) isI L w1 w2 t) (XR (Mt I) L w1 w2 [0, 2]) := by
  refine Sp_of ok_X11_call rfl rfl ?_
  show AW S m_X11_call 17 _ _ 2 12 0 [some (.ref 200), some (.int x1), none] [] (hp I L w1 w2 t)
  refine a_l0 rfl rfl rfl ?_
  refine a_l1 rfl rfl rfl ?_
  refine a_callV rfl lX11_141 mo_X11_needDuty (q_X11_needDuty_200) rfl rfl rfl ⟨11, _, rfl, rfl, rfl⟩ rfl (fun v' h' hv => ?_) (fun E h' hx => XR.cm hx (by decide) (fun _ z => Mt.fm (Mt.rf) (Fm.mo (z) sQ_sM)))
  obtain ⟨rfl, rfl⟩ := hv
  refine a_l0 rfl rfl rfl ?_
  refine a_getq rfl gfX11_37_11 rfl (rfl) ?_
  refine a_gV rfl lX11_220 mo_X5_canBits (q_X5_canBits_235) rfl rfl rfl ⟨5, _, rfl, rfl, rfl⟩ rfl (fun v' h' hv => ?_)
  obtain ⟨⟨v2, rfl⟩, rfl⟩ := hv
  refine a_l1 rfl rfl rfl ?_
  refine a_eS1 rfl lX11_223 mo_X11_has (sp_X11_has) rfl rfl rfl rfl ?_
  refine a_if_ne rfl (fun c16 => ?_) (fun c16 => ?_)
  · refine a_l0 rfl rfl rfl ?_
    refine a_getq rfl gfX11_37_11 rfl (rfl) ?_
    refine a_l1 rfl rfl rfl ?_
    refine a_gV rfl lX11_176 mo_X5_passesOf (q_X5_passesOf_235) rfl rfl rfl ⟨5, _, rfl, rfl, rfl⟩ rfl (fun v' h' hv => ?_)
    obtain ⟨⟨v3, rfl⟩, rfl⟩ := hv
    refine a_s2 rfl rfl rfl rfl rfl rfl ?_
    refine a_l0 rfl rfl rfl ?_
    refine a_gV rfl lX11_230 mo_X11_rememberAct (q_X11_rememberAct_200) rfl rfl rfl ⟨11, _, rfl, rfl, rfl⟩ rfl (fun v' h' hv => ?_)
    obtain ⟨rfl, I5, rfl, f6⟩ := hv
    refine a_l0 rfl rfl rfl ?_
    refine a_getq rfl gfX11_37_11 rfl (rfl) ?_
    refine a_l1 rfl rfl rfl ?_
    refine a_gV rfl lX11_233 mo_X5_finish (q_X5_finish_235_sN) rfl rfl rfl ⟨5, _, rfl, rfl, rfl⟩ rfl (fun v' h' hv => ?_)
    obtain ⟨rfl, I8, rfl, f9⟩ := hv
    replace f9 : Mt I I8 := Mt.fm (f6) (Fm.mo (f9) sN_sM)
    refine a_l2 rfl rfl rfl ?_
    exact a_iret rfl rfl ⟨⟨_, rfl⟩, _, rfl, f9⟩
  · exact a_throw rfl rfl rfl rfl tX11_ise rfl rfl rfl rfl rfl ⟨⟨2, by decide, rfl⟩, _, rfl, Mt.rf⟩
theorem q_X11_needState_200 {S : aS} {I : Nat → Nat → Int32} {L : Nat → Nat → Int64} {w1 w2 t : Nat} {x1 x2 : Int32} : Sp S m_X11_needState 13 1 6 [.ref 200, .int x1, .int x2] (hp I L w1 w2 t) (QE isV (hp I L w1 w2 t)) (XR (Fm sQ I) L w1 w2 [2]) := by
  refine Sp_of ok_X11_needState rfl rfl ?_
  show AW S m_X11_needState 13 _ _ 1 6 0 [some (.ref 200), some (.int x1), some (.int x2)] [] (hp I L w1 w2 t)
  refine a_l0 rfl rfl rfl ?_
  refine a_getq rfl gfX11_37_11 rfl (rfl) ?_
  refine a_getq rfl gfX11_159_5 rfl (rfl) ?_
  refine a_l1 rfl rfl rfl ?_
  refine a_eS1 rfl lX11_117 mo_X11_at (sp_X11_at rfl) rfl rfl rfl rfl ?_
  refine a_l2 rfl rfl rfl ?_
  refine a_ic_eq rfl (fun c12 => ?_) (fun c12 => ?_)
  · exact a_vret rfl rfl ⟨rfl, rfl⟩
  · exact a_throw rfl rfl rfl rfl tX11_ise rfl rfl rfl rfl rfl ⟨⟨2, by decide, rfl⟩, _, rfl, Fm.rf⟩
theorem q_X11_put_200 {S : aS} {I : Nat → Nat → Int32} {L : Nat → Nat → Int64} {w1 w2 t : Nat} {x1 : Int32} : Sp S m_X11_put 16 2 12 [.ref 200, .int x1] (hp I L w1 w2 t) (QR (Mt I) isI L w1 w2 t) (XR (Mt I) L w1 w2 [0, 2]) := by
  refine Sp_of ok_X11_put rfl rfl ?_
  show AW S m_X11_put 16 _ _ 2 12 0 [some (.ref 200), some (.int x1)] [] (hp I L w1 w2 t)
  refine a_l0 rfl rfl rfl ?_
  refine a_l1 rfl rfl rfl ?_
  refine a_callV rfl lX11_141 mo_X11_needDuty (q_X11_needDuty_200) rfl rfl rfl ⟨11, _, rfl, rfl, rfl⟩ rfl (fun v' h' hv => ?_) (fun E h' hx => XR.cm hx (by decide) (fun _ z => Mt.fm (Mt.rf) (Fm.mo (z) sQ_sM)))
  obtain ⟨rfl, rfl⟩ := hv
  refine a_l0 rfl rfl rfl ?_
  refine a_l1 rfl rfl rfl ?_
  refine a_s rfl rfl ?_
  refine a_callV rfl lX11_236 mo_X11_needState (q_X11_needState_200) rfl rfl rfl ⟨11, _, rfl, rfl, rfl⟩ rfl (fun v' h' hv => ?_) (fun E h' hx => XR.cm hx (by decide) (fun _ z => Mt.fm (Mt.rf) (Fm.mo (z) sQ_sM)))
  obtain ⟨rfl, rfl⟩ := hv
  refine a_l0 rfl rfl rfl ?_
  refine a_gV rfl lX11_230 mo_X11_rememberAct (q_X11_rememberAct_200) rfl rfl rfl ⟨11, _, rfl, rfl, rfl⟩ rfl (fun v' h' hv => ?_)
  obtain ⟨rfl, I4, rfl, f5⟩ := hv
  refine a_l0 rfl rfl rfl ?_
  refine a_getq rfl gfX11_37_11 rfl (rfl) ?_
  refine a_l1 rfl rfl rfl ?_
  refine a_gV rfl lX11_240 mo_X5_growOlder (q_X5_growOlder_235_sN) rfl rfl rfl ⟨5, _, rfl, rfl, rfl⟩ rfl (fun v' h' hv => ?_)
  obtain ⟨rfl, I7, rfl, f8⟩ := hv
  replace f8 : Mt I I7 := Mt.fm (f5) (Fm.mo (f8) sN_sM)
  refine a_l0 rfl rfl rfl ?_
  refine a_getq rfl gfX11_37_11 rfl (rfl) ?_
  refine a_getq rfl gfX11_150_5 rfl (rfl) ?_
  refine a_l1 rfl rfl rfl ?_
  refine a_eS1 rfl lX11_117 mo_X11_at (sp_X11_at rfl) rfl rfl rfl rfl ?_
  exact a_iret rfl rfl ⟨⟨_, rfl⟩, _, rfl, f8⟩
theorem q_X11_forget_200 {S : aS} {I : Nat → Nat → Int32} {L : Nat → Nat → Int64} {w1 w2 t : Nat} {x1 : Int32} : Sp S m_X11_forget 16 2 12 [.ref 200, .int x1] (hp I L w1 w2 t) (QR (Mt I) isI L w1 w2 t) (XR (Mt I) L w1 w2 [0, 2]) := by
  refine Sp_of ok_X11_forget rfl rfl ?_
  show AW S m_X11_forget 16 _ _ 2 12 0 [some (.ref 200), some (.int x1)] [] (hp I L w1 w2 t)
  refine a_l0 rfl rfl rfl ?_
  refine a_l1 rfl rfl rfl ?_
  refine a_callV rfl lX11_141 mo_X11_needDuty (q_X11_needDuty_200) rfl rfl rfl ⟨11, _, rfl, rfl, rfl⟩ rfl (fun v' h' hv => ?_) (fun E h' hx => XR.cm hx (by decide) (fun _ z => Mt.fm (Mt.rf) (Fm.mo (z) sQ_sM)))
  obtain ⟨rfl, rfl⟩ := hv
  refine a_l0 rfl rfl rfl ?_
  refine a_l1 rfl rfl rfl ?_
  refine a_s rfl rfl ?_
  refine a_callV rfl lX11_236 mo_X11_needState (q_X11_needState_200) rfl rfl rfl ⟨11, _, rfl, rfl, rfl⟩ rfl (fun v' h' hv => ?_) (fun E h' hx => XR.cm hx (by decide) (fun _ z => Mt.fm (Mt.rf) (Fm.mo (z) sQ_sM)))
  obtain ⟨rfl, rfl⟩ := hv
  refine a_l0 rfl rfl rfl ?_
  refine a_gV rfl lX11_230 mo_X11_rememberAct (q_X11_rememberAct_200) rfl rfl rfl ⟨11, _, rfl, rfl, rfl⟩ rfl (fun v' h' hv => ?_)
  obtain ⟨rfl, I4, rfl, f5⟩ := hv
  refine a_l0 rfl rfl rfl ?_
  refine a_getq rfl gfX11_37_11 rfl (rfl) ?_
  refine a_getq rfl gfX11_159_5 rfl (rfl) ?_
  refine a_l1 rfl rfl rfl ?_
  refine a_s rfl rfl ?_
  refine a_eS0 rfl lX11_243 mo_X11_setAt (sp_X11_setAt rfl) rfl rfl rfl rfl ?_
  refine a_ren (P := Mt I) (Mt.fm (f5) (Fm.st (Fm.rf (s := sM)) (fun _ => rfl))) (fun I6 f7 => ?_)
  refine a_l0 rfl rfl rfl ?_
  refine a_getq rfl gfX11_37_11 rfl (rfl) ?_
  refine a_getq rfl gfX11_147_5 rfl (rfl) ?_
  refine a_l1 rfl rfl rfl ?_
  refine a_eS1 rfl lX11_117 mo_X11_at (sp_X11_at rfl) rfl rfl rfl rfl ?_
  exact a_iret rfl rfl ⟨⟨_, rfl⟩, _, rfl, f7⟩
theorem q_X11_recall_200 {S : aS} {I : Nat → Nat → Int32} {L : Nat → Nat → Int64} {w1 w2 t : Nat} {x1 : Int32} : Sp S m_X11_recall 16 2 12 [.ref 200, .int x1] (hp I L w1 w2 t) (QR (Mt I) isI L w1 w2 t) (XR (Mt I) L w1 w2 [0, 2]) := by
  refine Sp_of ok_X11_recall rfl rfl ?_
  show AW S m_X11_recall 16 _ _ 2 12 0 [some (.ref 200), some (.int x1)] [] (hp I L w1 w2 t)
  refine a_l0 rfl rfl rfl ?_
  refine a_l1 rfl rfl rfl ?_
  refine a_callV rfl lX11_141 mo_X11_needDuty (q_X11_needDuty_200) rfl rfl rfl ⟨11, _, rfl, rfl, rfl⟩ rfl (fun v' h' hv => ?_) (fun E h' hx => XR.cm hx (by decide) (fun _ z => Mt.fm (Mt.rf) (Fm.mo (z) sQ_sM)))
  obtain ⟨rfl, rfl⟩ := hv
  refine a_l0 rfl rfl rfl ?_
  refine a_l1 rfl rfl rfl ?_
  refine a_s rfl rfl ?_
  refine a_callV rfl lX11_236 mo_X11_needState (q_X11_needState_200) rfl rfl rfl ⟨11, _, rfl, rfl, rfl⟩ rfl (fun v' h' hv => ?_) (fun E h' hx => XR.cm hx (by decide) (fun _ z => Mt.fm (Mt.rf) (Fm.mo (z) sQ_sM)))
  obtain ⟨rfl, rfl⟩ := hv
  refine a_l0 rfl rfl rfl ?_
  refine a_gV rfl lX11_230 mo_X11_rememberAct (q_X11_rememberAct_200) rfl rfl rfl ⟨11, _, rfl, rfl, rfl⟩ rfl (fun v' h' hv => ?_)
  obtain ⟨rfl, I4, rfl, f5⟩ := hv
  refine a_l0 rfl rfl rfl ?_
  refine a_getq rfl gfX11_37_11 rfl (rfl) ?_
  refine a_getq rfl gfX11_159_5 rfl (rfl) ?_
  refine a_l1 rfl rfl rfl ?_
  refine a_s rfl rfl ?_
  refine a_eS0 rfl lX11_243 mo_X11_setAt (sp_X11_setAt rfl) rfl rfl rfl rfl ?_
  refine a_ren (P := Mt I) (Mt.fm (f5) (Fm.st (Fm.rf (s := sM)) (fun _ => rfl))) (fun I6 f7 => ?_)
  refine a_l0 rfl rfl rfl ?_
  refine a_getq rfl gfX11_37_11 rfl (rfl) ?_
  refine a_getq rfl gfX11_150_5 rfl (rfl) ?_
  refine a_l1 rfl rfl rfl ?_
  refine a_eS1 rfl lX11_117 mo_X11_at (sp_X11_at rfl) rfl rfl rfl rfl ?_
  exact a_iret rfl rfl ⟨⟨_, rfl⟩, _, rfl, f7⟩
theorem q_X11_hand_200 {S : aS} {I : Nat → Nat → Int32} {L : Nat → Nat → Int64} {w1 w2 t : Nat} {x1 x2 : Int32} : Sp S m_X11_hand 16 4 24 [.ref 200, .int x1, .int x2] (hp I L w1 w2 t) (QR (Mt I) isI L w1 w2 t) (XR (Mt I) L w1 w2 [0, 1, 2]) := by
  refine Sp_of ok_X11_hand rfl rfl ?_
  show AW S m_X11_hand 16 _ _ 4 24 0 [some (.ref 200), some (.int x1), some (.int x2), none] [] (hp I L w1 w2 t)
  refine a_l0 rfl rfl rfl ?_
  refine a_l1 rfl rfl rfl ?_
  refine a_callV rfl lX11_141 mo_X11_needDuty (q_X11_needDuty_200) rfl rfl rfl ⟨11, _, rfl, rfl, rfl⟩ rfl (fun v' h' hv => ?_) (fun E h' hx => XR.cm hx (by decide) (fun _ z => Mt.fm (Mt.rf) (Fm.mo (z) sQ_sM)))
  obtain ⟨rfl, rfl⟩ := hv
  refine a_l0 rfl rfl rfl ?_
  refine a_l2 rfl rfl rfl ?_
  refine a_callV rfl lX11_110 mo_X11_needPerson (q_X11_needPerson_200) rfl rfl rfl ⟨11, _, rfl, rfl, rfl⟩ rfl (fun v' h' hv => ?_) (fun E h' hx => XR.cm hx (by decide) (fun _ z => Mt.fm (Mt.rf) (Fm.mo (z) sQ_sM)))
  obtain ⟨rfl, rfl⟩ := hv
  refine a_l0 rfl rfl rfl ?_
  refine a_getq rfl gfX11_37_11 rfl (rfl) ?_
  refine a_getq rfl gfX11_144_5 rfl (rfl) ?_
  refine a_l1 rfl rfl rfl ?_
  refine a_eS1 rfl lX11_117 mo_X11_at (sp_X11_at rfl) rfl rfl rfl rfl ?_
  refine a_s3 rfl rfl rfl rfl rfl rfl ?_
  refine a_l3 rfl rfl rfl ?_
  refine a_l2 rfl rfl rfl ?_
  refine a_callS rfl lX11_247 mo_X11_needTwo (q_X11_needTwo) rfl rfl rfl rfl (fun v' h' hv => ?_) (fun E h' hx => XR.cm hx (by decide) (fun _ z => Mt.fm (Mt.rf) (Fm.mo (z) sQ_sM)))
  obtain ⟨rfl, rfl⟩ := hv
  refine a_l0 rfl rfl rfl ?_
  refine a_getq rfl gfX11_37_11 rfl (rfl) ?_
  refine a_getq rfl gfX11_159_5 rfl (rfl) ?_
  refine a_l1 rfl rfl rfl ?_
  refine a_eS1 rfl lX11_117 mo_X11_at (sp_X11_at rfl) rfl rfl rfl rfl ?_
  refine a_s rfl rfl ?_
  refine a_ic_ne rfl (fun c39 => ?_) (fun c39 => ?_)
  · refine a_l0 rfl rfl rfl ?_
    refine a_gV rfl lX11_230 mo_X11_rememberAct (q_X11_rememberAct_200) rfl rfl rfl ⟨11, _, rfl, rfl, rfl⟩ rfl (fun v' h' hv => ?_)
    obtain ⟨rfl, I5, rfl, f6⟩ := hv
    refine a_l0 rfl rfl rfl ?_
    refine a_getq rfl gfX11_37_11 rfl (rfl) ?_
    refine a_getq rfl gfX11_144_5 rfl (rfl) ?_
    refine a_l1 rfl rfl rfl ?_
    refine a_l2 rfl rfl rfl ?_
    refine a_eS0 rfl lX11_243 mo_X11_setAt (sp_X11_setAt rfl) rfl rfl rfl rfl ?_
    refine a_ren (P := Mt I) (Mt.fm (f6) (Fm.st (Fm.rf (s := sM)) (fun _ => rfl))) (fun I7 f8 => ?_)
    refine a_l3 rfl rfl rfl ?_
    exact a_iret rfl rfl ⟨⟨_, rfl⟩, _, rfl, f8⟩
  · exact a_throw rfl rfl rfl rfl tX11_ise rfl rfl rfl rfl rfl ⟨⟨2, by decide, rfl⟩, _, rfl, Mt.rf⟩
theorem q_X11_lean_200 {S : aS} {I : Nat → Nat → Int32} {L : Nat → Nat → Int64} {w1 w2 t : Nat} {x1 x2 : Int32} : Sp S m_X11_lean 16 3 18 [.ref 200, .int x1, .int x2] (hp I L w1 w2 t) (QR (Mt I) isI L w1 w2 t) (XR (Mt I) L w1 w2 [0, 1]) := by
  refine Sp_of ok_X11_lean rfl rfl ?_
  show AW S m_X11_lean 16 _ _ 3 18 0 [some (.ref 200), some (.int x1), some (.int x2), none] [] (hp I L w1 w2 t)
  refine a_l0 rfl rfl rfl ?_
  refine a_l1 rfl rfl rfl ?_
  refine a_callV rfl lX11_141 mo_X11_needDuty (q_X11_needDuty_200) rfl rfl rfl ⟨11, _, rfl, rfl, rfl⟩ rfl (fun v' h' hv => ?_) (fun E h' hx => XR.cm hx (by decide) (fun _ z => Mt.fm (Mt.rf) (Fm.mo (z) sQ_sM)))
  obtain ⟨rfl, rfl⟩ := hv
  refine a_l2 rfl rfl rfl ?_
  refine a_s rfl rfl ?_
  refine a_ic_eq rfl (fun c7 => ?_) (fun c7 => ?_)
  · refine a_l1 rfl rfl rfl ?_
    refine a_l2 rfl rfl rfl ?_
    refine a_callS rfl lX11_247 mo_X11_needTwo (q_X11_needTwo) rfl rfl rfl rfl (fun v' h' hv => ?_) (fun E h' hx => XR.cm hx (by decide) (fun _ z => Mt.fm (Mt.rf) (Fm.mo (z) sQ_sM)))
    obtain ⟨rfl, rfl⟩ := hv
    refine a_l0 rfl rfl rfl ?_
    refine a_getq rfl gfX11_37_11 rfl (rfl) ?_
    refine a_getq rfl gfX11_156_5 rfl (rfl) ?_
    refine a_l1 rfl rfl rfl ?_
    refine a_eS1 rfl lX11_117 mo_X11_at (sp_X11_at rfl) rfl rfl rfl rfl ?_
    refine a_s3 rfl rfl rfl rfl rfl rfl ?_
    refine a_l0 rfl rfl rfl ?_
    refine a_gV rfl lX11_230 mo_X11_rememberAct (q_X11_rememberAct_200) rfl rfl rfl ⟨11, _, rfl, rfl, rfl⟩ rfl (fun v' h' hv => ?_)
    obtain ⟨rfl, I4, rfl, f5⟩ := hv
    refine a_l0 rfl rfl rfl ?_
    refine a_getq rfl gfX11_37_11 rfl (rfl) ?_
    refine a_getq rfl gfX11_156_5 rfl (rfl) ?_
    refine a_l1 rfl rfl rfl ?_
    refine a_l2 rfl rfl rfl ?_
    refine a_eS0 rfl lX11_243 mo_X11_setAt (sp_X11_setAt rfl) rfl rfl rfl rfl ?_
    refine a_ren (P := Mt I) (Mt.fm (f5) (Fm.st (Fm.rf (s := sM)) (fun _ => rfl))) (fun I6 f7 => ?_)
    refine a_l3 rfl rfl rfl ?_
    exact a_iret rfl rfl ⟨⟨_, rfl⟩, _, rfl, f7⟩
  · refine a_l0 rfl rfl rfl ?_
    refine a_l2 rfl rfl rfl ?_
    refine a_callV rfl lX11_141 mo_X11_needDuty (q_X11_needDuty_200) rfl rfl rfl ⟨11, _, rfl, rfl, rfl⟩ rfl (fun v' h' hv => ?_) (fun E h' hx => XR.cm hx (by decide) (fun _ z => Mt.fm (Mt.rf) (Fm.mo (z) sQ_sM)))
    obtain ⟨rfl, rfl⟩ := hv
    refine a_l1 rfl rfl rfl ?_
    refine a_l2 rfl rfl rfl ?_
    refine a_callS rfl lX11_247 mo_X11_needTwo (q_X11_needTwo) rfl rfl rfl rfl (fun v' h' hv => ?_) (fun E h' hx => XR.cm hx (by decide) (fun _ z => Mt.fm (Mt.rf) (Fm.mo (z) sQ_sM)))
    obtain ⟨rfl, rfl⟩ := hv
    refine a_l0 rfl rfl rfl ?_
    refine a_getq rfl gfX11_37_11 rfl (rfl) ?_
    refine a_getq rfl gfX11_156_5 rfl (rfl) ?_
    refine a_l1 rfl rfl rfl ?_
    refine a_eS1 rfl lX11_117 mo_X11_at (sp_X11_at rfl) rfl rfl rfl rfl ?_
    refine a_s3 rfl rfl rfl rfl rfl rfl ?_
    refine a_l0 rfl rfl rfl ?_
    refine a_gV rfl lX11_230 mo_X11_rememberAct (q_X11_rememberAct_200) rfl rfl rfl ⟨11, _, rfl, rfl, rfl⟩ rfl (fun v' h' hv => ?_)
    obtain ⟨rfl, I11, rfl, f12⟩ := hv
    refine a_l0 rfl rfl rfl ?_
    refine a_getq rfl gfX11_37_11 rfl (rfl) ?_
    refine a_getq rfl gfX11_156_5 rfl (rfl) ?_
    refine a_l1 rfl rfl rfl ?_
    refine a_l2 rfl rfl rfl ?_
    refine a_eS0 rfl lX11_243 mo_X11_setAt (sp_X11_setAt rfl) rfl rfl rfl rfl ?_
    refine a_ren (P := Mt I) (Mt.fm (f12) (Fm.st (Fm.rf (s := sM)) (fun _ => rfl))) (fun I13 f14 => ?_)
    refine a_l3 rfl rfl rfl ?_
    exact a_iret rfl rfl ⟨⟨_, rfl⟩, _, rfl, f14⟩
theorem q_X11_free_200 {S : aS} {I : Nat → Nat → Int32} {L : Nat → Nat → Int64} {w1 w2 t : Nat} {x1 x2 : Int32} : Sp S m_X11_free 16 2 12 [.ref 200, .int x1, .int x2] (hp I L w1 w2 t) (QR (Mt I) isI L w1 w2 t) (XR (Mt I) L w1 w2 [0, 1]) := by
  refine Sp_of ok_X11_free rfl rfl ?_
  show AW S m_X11_free 16 _ _ 2 12 0 [some (.ref 200), some (.int x1), some (.int x2), none] [] (hp I L w1 w2 t)
  refine a_l0 rfl rfl rfl ?_
  refine a_l1 rfl rfl rfl ?_
  refine a_callV rfl lX11_110 mo_X11_needPerson (q_X11_needPerson_200) rfl rfl rfl ⟨11, _, rfl, rfl, rfl⟩ rfl (fun v' h' hv => ?_) (fun E h' hx => XR.cm hx (by decide) (fun _ z => Mt.fm (Mt.rf) (Fm.mo (z) sQ_sM)))
  obtain ⟨rfl, rfl⟩ := hv
  refine a_l2 rfl rfl rfl ?_
  refine a_s rfl rfl ?_
  refine a_s rfl rfl ?_
  refine a_callS rfl lX11_250 mo_X11_needNumber q_needNumber rfl rfl rfl rfl (fun v' h' hv => ?_) (fun E h' hx => XR.cm hx (by decide) (fun _ z => Mt.fm (Mt.rf) (Fm.mo (z) sQ_sM)))
  obtain ⟨rfl, rfl, hbm2⟩ := hv
  obtain ⟨m2, hm2a, hm2b, rfl⟩ := inB_nI (a := 0) (b := 9) (by decide) hbm2
  refine a_l0 rfl rfl rfl ?_
  refine a_getq rfl gfX11_37_11 rfl (rfl) ?_
  refine a_getq rfl gfX11_121_5 rfl (rfl) ?_
  refine a_l1 rfl rfl rfl ?_
  refine a_eS1 rfl lX11_117 mo_X11_at (sp_X11_at rfl) rfl rfl rfl rfl ?_
  refine a_s3 rfl rfl rfl rfl rfl rfl ?_
  refine a_l0 rfl rfl rfl ?_
  refine a_gV rfl lX11_230 mo_X11_rememberAct (q_X11_rememberAct_200) rfl rfl rfl ⟨11, _, rfl, rfl, rfl⟩ rfl (fun v' h' hv => ?_)
  obtain ⟨rfl, I4, rfl, f5⟩ := hv
  refine a_l0 rfl rfl rfl ?_
  refine a_getq rfl gfX11_37_11 rfl (rfl) ?_
  refine a_getq rfl gfX11_121_5 rfl (rfl) ?_
  refine a_l1 rfl rfl rfl ?_
  refine a_l2 rfl rfl rfl ?_
  refine a_eS0 rfl lX11_243 mo_X11_setAt (sp_X11_setAt rfl) rfl rfl rfl rfl ?_
  refine a_ren (P := Mt I) (Mt.fm (f5) (Fm.st (Fm.rf (s := sM)) (fun _ => rfl))) (fun I6 f7 => ?_)
  refine a_l3 rfl rfl rfl ?_
  exact a_iret rfl rfl ⟨⟨_, rfl⟩, _, rfl, f7⟩
theorem q_X11_days_200 {S : aS} {I : Nat → Nat → Int32} {L : Nat → Nat → Int64} {w1 w2 t : Nat} {x1 : Int32} : Sp S m_X11_days 18 1 6 [.ref 200, .int x1] (hp I L w1 w2 t) (QR (Mt I) isI L w1 w2 t) (XR (Mt I) L w1 w2 [1]) := by
  refine Sp_of ok_X11_days rfl rfl ?_
  show AW S m_X11_days 18 _ _ 1 6 0 [some (.ref 200), some (.int x1), none, none] [] (hp I L w1 w2 t)
  refine a_l1 rfl rfl rfl ?_
  refine a_s rfl rfl ?_
  refine a_s rfl rfl ?_
  refine a_callS rfl lX11_250 mo_X11_needNumber q_needNumber rfl rfl rfl rfl (fun v' h' hv => ?_) (fun E h' hx => XR.cm hx (by decide) (fun _ z => Mt.fm (Mt.rf) (Fm.mo (z) sQ_sM)))
  obtain ⟨rfl, rfl, hbm1⟩ := hv
  obtain ⟨m1, hm1a, hm1b, rfl⟩ := inB_nI (a := 1) (b := 90) (by decide) hbm1
  refine a_l0 rfl rfl rfl ?_
  refine a_gV rfl lX11_230 mo_X11_rememberAct (q_X11_rememberAct_200) rfl rfl rfl ⟨11, _, rfl, rfl, rfl⟩ rfl (fun v' h' hv => ?_)
  obtain ⟨rfl, I3, rfl, f4⟩ := hv
  refine a_l0 rfl rfl rfl ?_
  refine a_getq rfl gfX11_37_11 rfl (rfl) ?_
  refine a_s rfl rfl ?_
  refine a_gV rfl lX11_200 mo_X5_bitsIn (q_X5_bitsIn_235) rfl rfl rfl ⟨5, _, rfl, rfl, rfl⟩ rfl (fun v' h' hv => ?_)
  obtain ⟨⟨v5, rfl⟩, rfl⟩ := hv
  refine a_s2 rfl rfl rfl rfl rfl rfl ?_
  refine a_s rfl rfl ?_
  refine a_s3 rfl rfl rfl rfl rfl rfl ?_
  refine a_cnt (j0 := 0) (fun j ls h => ∃ I', ls = [some (.ref 200), some (.int (nI m1)), some (.int v5), some (.int (nI j))] ∧ h = hp I' L w1 w2 t ∧ Mt I I') (by decide) ⟨_, rfl, rfl, f4⟩ ⟨rfl, rfl, rfl, rfl, trivial⟩ ?_
  rintro j22 _ _ hj22 ⟨Ih22, rfl, rfl, fh22⟩ ih22
  refine a_l3 rfl rfl rfl ?_
  refine a_l1 rfl rfl rfl ?_
  refine a_ic_ge rfl (fun c24 => ?_) (fun c24 => ?_)
  · refine a_l0 rfl rfl rfl ?_
    refine a_getq rfl gfX11_37_11 rfl (rfl) ?_
    refine a_s rfl rfl ?_
    refine a_gV rfl lX11_200 mo_X5_bitsIn (q_X5_bitsIn_235) rfl rfl rfl ⟨5, _, rfl, rfl, rfl⟩ rfl (fun v' h' hv => ?_)
    obtain ⟨⟨v6, rfl⟩, rfl⟩ := hv
    refine a_l2 rfl rfl rfl ?_
    refine a_s rfl rfl ?_
    refine a_s rfl rfl ?_
    refine a_s rfl rfl ?_
    refine a_eS1 rfl lX11_261 mo_J6_bitCount_0f7a4 (sp_bitCount) rfl rfl rfl rfl ?_
    exact a_iret rfl rfl ⟨⟨_, rfl⟩, _, rfl, fh22⟩
  · refine a_l0 rfl rfl rfl ?_
    refine a_getq rfl gfX11_37_11 rfl (rfl) ?_
    refine a_l0 rfl rfl rfl ?_
    refine a_getq rfl gfX11_44_11 rfl (rfl) ?_
    refine a_s rfl rfl ?_
    refine a_gV rfl lX11_254 mo_X5_passDay (q_X5_passDay_235_246_sN (b2 := true)) rfl rfl rfl ⟨5, _, rfl, rfl, rfl⟩ rfl (fun v' h' hv => ?_)
    obtain ⟨rfl, I8, rfl, f9⟩ := hv
    replace f9 : Mt I I8 := Mt.fm (fh22) (Fm.mo (f9) sN_sM)
    refine a_l0 rfl rfl rfl ?_
    refine a_getq rfl gfX11_37_11 rfl (rfl) ?_
    refine a_geti rfl gfX11_185_5 rfl ?_
    refine a_s rfl rfl ?_
    refine a_ic_ne rfl (fun c47 => ?_) (fun c47 => ?_)
    · refine a_i3 rfl rfl rfl ?_
      refine a_goto rfl ?_
      exact ih22 _ _ _ _ c24 ⟨_, rfl, rfl, f9⟩ ⟨rfl, rfl, rfl, nS _, trivial⟩
    · refine a_l0 rfl rfl rfl ?_
      refine a_gV rfl lX11_258 mo_X11_letParadeGoBy (q_X11_letParadeGoBy_200_sN) rfl rfl rfl ⟨11, _, rfl, rfl, rfl⟩ rfl (fun v' h' hv => ?_)
      obtain ⟨rfl, I11, rfl, f12⟩ := hv
      replace f12 : Mt I I11 := Mt.fm (f9) (Fm.mo (f12) sN_sM)
      refine a_i3 rfl rfl rfl ?_
      refine a_goto rfl ?_
      exact ih22 _ _ _ _ c24 ⟨_, rfl, rfl, f12⟩ ⟨rfl, rfl, rfl, nS _, trivial⟩
theorem q_X11_undo_200 {S : aS} {I : Nat → Nat → Int32} {L : Nat → Nat → Int64} {w1 w2 t : Nat} : Sp S m_X11_undo 15 0 0 [.ref 200] (hp I L w1 w2 t) (QR (Mt I) isZ L w1 w2 t) nX := by
  refine Sp_of ok_X11_undo rfl rfl ?_
  show AW S m_X11_undo 15 _ _ 0 0 0 [some (.ref 200), none] [] (hp I L w1 w2 t)
  refine a_l0 rfl rfl rfl ?_
  refine a_geti rfl gfX11_95_11 rfl ?_
  refine a_s rfl rfl ?_
  refine a_ic_ge rfl (fun c5 => ?_) (fun c5 => ?_)
  · refine a_l0 rfl rfl rfl ?_
    refine a_s rfl rfl ?_
    refine a_geti rfl gfX11_95_11 rfl ?_
    refine a_s rfl rfl ?_
    refine a_s rfl rfl ?_
    refine a_puti rfl pfX11_95_11 rfl ?_
    refine a_ren (P := Mt I) (Mt.fm (Mt.rf) (Fm.up (Fm.rf (s := sM)) rfl)) (fun I1 f2 => ?_)
    refine a_l0 rfl rfl rfl ?_
    refine a_l0 rfl rfl rfl ?_
    refine a_geti rfl gfX11_368_11 rfl ?_
    refine a_l0 rfl rfl rfl ?_
    refine a_geti rfl gfX11_95_11 rfl ?_
    refine a_s rfl rfl ?_
    refine a_gV rfl lX11_371 mo_X11_pastAt (q_pastAt) rfl rfl rfl ⟨11, _, rfl, rfl, rfl⟩ rfl (fun v' h' hv => ?_)
    obtain ⟨rfl | ⟨i, hi, rfl⟩, rfl⟩ := hv
    · refine a_s1 rfl rfl rfl rfl rfl rfl ?_
      refine a_l1 rfl rfl rfl ?_
      refine a_ifnull_t rfl ?_
      refine a_s rfl rfl ?_
      exact a_zret rfl rfl rfl ⟨⟨true, rfl⟩, _, rfl, f2⟩
    · refine a_s1 rfl rfl rfl rfl rfl rfl ?_
      refine a_l1 rfl rfl rfl ?_
      refine a_ifnull_f rfl ?_
      refine a_l0 rfl rfl rfl ?_
      refine a_getq rfl gfX11_37_11 rfl (rfl) ?_
      refine a_l1 rfl rfl rfl ?_
      refine a_eV0 rfl lX11_375 mo_X5_copyAll (sp_X5_copyAll (a := 235) (b := 288 + 11 * i) (by decide) (past_st i hi) (by omega)) rfl rfl rfl ⟨5, _, rfl, rfl, rfl⟩ rfl ?_
      refine a_ren (P := Mt I) (Mt.tr (f2) (Mt.cpA (by decide) (past_st i hi) (by omega))) (fun I3 f4 => ?_)
      refine a_s rfl rfl ?_
      exact a_zret rfl rfl rfl ⟨⟨true, rfl⟩, _, rfl, f4⟩
  · refine a_s rfl rfl ?_
    exact a_zret rfl rfl rfl ⟨⟨false, rfl⟩, _, rfl, Mt.rf⟩
theorem q_X11_back_200 {S : aS} {I : Nat → Nat → Int32} {L : Nat → Nat → Int64} {w1 w2 t : Nat} : Sp S m_X11_back 15 0 0 [.ref 200] (hp I L w1 w2 t) (fun v h' => v = some (.int (bI (decide (¬ I 200 10 = 0)))) ∧ ∃ I', h' = hp I' L w1 w2 t ∧ Mt I I') nX := by
  refine Sp_of ok_X11_back rfl rfl ?_
  show AW S m_X11_back 15 _ _ 0 0 0 [some (.ref 200)] [] (hp I L w1 w2 t)
  refine a_l0 rfl rfl rfl ?_
  refine a_geti rfl gfX11_378_11 rfl ?_
  refine a_if_ne rfl (fun c4 => ?_) (fun c4 => ?_)
  · refine a_l0 rfl rfl rfl ?_
    refine a_getq rfl gfX11_37_11 rfl (rfl) ?_
    refine a_l0 rfl rfl rfl ?_
    refine a_getq rfl gfX11_58_11 rfl (rfl) ?_
    refine a_eV0 rfl lX11_375 mo_X5_copyAll (sp_X5_copyAll (a := 235) (b := 268) (by decide) (by decide) (by decide)) rfl rfl rfl ⟨5, _, rfl, rfl, rfl⟩ rfl ?_
    refine a_ren (P := Mt I) (Mt.tr (Mt.rf) (Mt.cpA (by decide) (by decide) (by decide))) (fun I1 f2 => ?_)
    refine a_l0 rfl rfl rfl ?_
    refine a_getq rfl gfX11_44_11 rfl (rfl) ?_
    refine a_l0 rfl rfl rfl ?_
    refine a_getq rfl gfX11_61_11 rfl (rfl) ?_
    refine a_eV0 rfl lX11_104 mo_X2_copyFrom (sp_X2_copyFrom (a := 246) (b := 279) (by decide) (by decide) (by decide)) rfl rfl rfl ⟨2, _, rfl, rfl, rfl⟩ rfl ?_
    refine a_ren (P := Mt I) (Mt.fm (f2) (Fm.cl (Fm.rf (s := sM)) (by decide) (Fm_l246))) (fun I3 f4 => ?_)
    refine a_l0 rfl rfl rfl ?_
    refine a_s rfl rfl ?_
    refine a_puti rfl pfX11_95_11 rfl ?_
    refine a_ren (P := Mt I) (Mt.fm (f4) (Fm.up (Fm.rf (s := sM)) rfl)) (fun I5 f6 => ?_)
    refine a_s rfl rfl ?_
    exact a_zret rfl rfl rfl ⟨by rw [decide_eq_true c4]; rfl, _, rfl, f6⟩
  · refine a_s rfl rfl ?_
    exact a_zret rfl rfl rfl ⟨by rw [decide_eq_false (fun z => z c4)]; rfl, _, rfl, Mt.rf⟩
theorem q_X11_image {S : aS} {I : Nat → Nat → Int32} {L : Nat → Nat → Int64} {w1 w2 t : Nat} : Sp S m_X11_image 15 0 0 [.ref 200] (hp I L w1 w2 t) (fun v h' => v = none ∧ ∃ I', h' = hp (up2 I' 200 10 1) L w1 w2 t ∧ Mt I I') nX := by
  refine Sp_of ok_X11_image rfl rfl ?_
  show AW S m_X11_image 15 _ _ 0 0 0 [some (.ref 200)] [] (hp I L w1 w2 t)
  refine a_l0 rfl rfl rfl ?_
  refine a_getq rfl gfX11_58_11 rfl (rfl) ?_
  refine a_l0 rfl rfl rfl ?_
  refine a_getq rfl gfX11_37_11 rfl (rfl) ?_
  refine a_eV0 rfl lX11_375 mo_X5_copyAll (sp_X5_copyAll (a := 268) (b := 235) (by decide) (by decide) (by decide)) rfl rfl rfl ⟨5, _, rfl, rfl, rfl⟩ rfl ?_
  refine a_ren (P := Mt I) (Mt.cpA (by decide) (by decide) (by decide)) (fun I1 f1 => ?_)
  refine a_l0 rfl rfl rfl ?_
  refine a_getq rfl gfX11_61_11 rfl (rfl) ?_
  refine a_l0 rfl rfl rfl ?_
  refine a_getq rfl gfX11_44_11 rfl (rfl) ?_
  refine a_eV0 rfl lX11_104 mo_X2_copyFrom (sp_X2_copyFrom (a := 279) (b := 246) (by decide) (by decide) (by decide)) rfl rfl rfl ⟨2, _, rfl, rfl, rfl⟩ rfl ?_
  refine a_ren (P := Mt I) (f1.fm ((Fm.rf (s := sM)).cl (by decide) (Fm_l279))) (fun I2 f2 => ?_)
  refine a_l0 rfl rfl rfl ?_
  refine a_s rfl rfl ?_
  refine a_putz rfl pfX11_378_11 ⟨rfl, rfl⟩ rfl ?_
  exact a_vret rfl rfl ⟨rfl, _, rfl, f2⟩
def endB (n l : Int32) : Bool := decide (¬ n < 0 ∧ n ≤ l)
theorem q_X11_end {S : aS} {I : Nat → Nat → Int32} {L : Nat → Nat → Int64} {w1 w2 t : Nat} {x : Int32} : SpE S m_X11_end 12 [.ref 200, .int x] (hp I L w1 w2 t) (some (.int (bI (endB x (I 201 1))))) (hp (if endB x (I 201 1) then up2 I 201 1 x else I) L w1 w2 t) := by
  refine SpE_of ok_X11_end rfl rfl ?_
  show AW S m_X11_end 12 _ _ 0 0 0 [some (.ref 200), some (.int x)] [] (hp I L w1 w2 t)
  refine a_l1 rfl rfl rfl ?_
  refine a_if_lt rfl (fun c1 => ?_) (fun c1 => ?_)
  · refine a_s rfl rfl ?_
    exact a_zret rfl rfl rfl ⟨by simp [endB, bI, c1], by simp [endB, c1]⟩
  · refine a_l1 rfl rfl rfl ?_
    refine a_l0 rfl rfl rfl ?_
    refine a_getq rfl gfX11_10_11 rfl (rfl) ?_
    refine a_geti rfl gfX11_68_7 rfl ?_
    refine a_ic_le rfl (fun c12 => ?_) (fun c12 => ?_)
    · refine a_l0 rfl rfl rfl ?_
      refine a_getq rfl gfX11_10_11 rfl (rfl) ?_
      refine a_l1 rfl rfl rfl ?_
      refine a_puti rfl pfX11_68_7 rfl ?_
      refine a_s rfl rfl ?_
      have e : endB x (I 201 1) = true := decide_eq_true ⟨c1, c12⟩
      exact a_zret rfl rfl rfl ⟨by rw [e]; rfl, by rw [e]; rfl⟩
    · refine a_s rfl rfl ?_
      have e : endB x (I 201 1) = false := decide_eq_false (fun z => c12 z.2)
      exact a_zret rfl rfl rfl ⟨by rw [e]; rfl, by rw [e]; rfl⟩
/-- four bytes more -/
def byA (x : Int32) (s : Int32) : Int32 := (x >>> (s &&& 31)).toInt8.toInt32
def apH (I : Nat → Nat → Int32) (l : Nat) (x : Int32) : Nat → Nat → Int32 := up2 (up2 (up2 (up2 (up2 (up2 (up2 (up2 I 202 l (byA x 24)) 201 1 (nI (l + 1))) 202 (l + 1) (byA x 16)) 201 1 (nI (l + 2))) 202 (l + 2) (byA x 8)) 201 1 (nI (l + 3))) 202 (l + 3) (byA x 0)) 201 1 (nI (l + 4))
theorem q_X7_append {S : aS} {I : Nat → Nat → Int32} {L : Nat → Nat → Int64} {w1 w2 t : Nat} {l : Nat} {x : Int32} (hl : I 201 1 = nI l) (h4 : l + 4 ≤ 400) : SpE S m_X7_append 12 [.ref 201, .int x] (hp I L w1 w2 t) none (hp (apH I l x) L w1 w2 t) := by
  refine SpE_of ok_X7_append rfl rfl ?_
  show AW S m_X7_append 12 _ _ 0 0 0 [some (.ref 201), some (.int x), none] [] (hp I L w1 w2 t)
  refine a_s rfl rfl ?_
  refine a_s2 rfl rfl rfl rfl rfl rfl ?_
  refine a_l2 rfl rfl rfl ?_
  refine a_if_lt rfl (fun c => absurd c (by decide)) (fun _ => ?_)
  refine a_l0 rfl rfl rfl ?_
  refine a_geti rfl gfX7_15_7 rfl ?_
  refine a_top (y := nI (l)) (hl) ?_
  refine a_if_lt rfl (fun c => absurd c (nI_pos (by omega))) (fun _ => ?_)
  refine a_l0 rfl rfl rfl ?_
  refine a_geti rfl gfX7_15_7 rfl ?_
  refine a_top (y := nI (l)) (hl) ?_
  refine a_l0 rfl rfl rfl ?_
  refine a_getq rfl gfX7_9_7 rfl (rfl) ?_
  refine a_len rfl rfl rfl rfl ?_
  refine a_ic_ge rfl (fun c => absurd c (nI_ge (b := 400) (by omega) (by omega))) (fun _ => ?_)
  refine a_l0 rfl rfl rfl ?_
  refine a_getq rfl gfX7_9_7 rfl (rfl) ?_
  refine a_l0 rfl rfl rfl ?_
  refine a_geti rfl gfX7_15_7 rfl ?_
  refine a_top (y := nI (l)) (hl) ?_
  refine a_l1 rfl rfl rfl ?_
  refine a_l2 rfl rfl rfl ?_
  refine a_s rfl rfl ?_
  refine a_s rfl rfl ?_
  refine a_bastv (k := l) rfl rfl (inI_nI (by omega) (by omega)) (i2b_id _) (nI_clamp (by omega)) ?_
  refine a_l0 rfl rfl rfl ?_
  refine a_s rfl rfl ?_
  refine a_geti rfl gfX7_15_7 rfl ?_
  refine a_top (y := nI (l)) ((congrFun (up2_row (by decide)) 1).trans hl) ?_
  refine a_s rfl rfl ?_
  refine a_s rfl rfl ?_
  refine a_top (y := nI (l + 1)) (nI_succ _).symm ?_
  refine a_puti rfl pfX7_15_7 rfl ?_
  refine a_i2 rfl rfl rfl ?_
  refine a_goto rfl ?_
  refine a_l2 rfl rfl rfl ?_
  refine a_if_lt rfl (fun c => absurd c (by decide)) (fun _ => ?_)
  refine a_l0 rfl rfl rfl ?_
  refine a_geti rfl gfX7_15_7 rfl ?_
  refine a_top (y := nI (l + 1)) (up2_at) ?_
  refine a_if_lt rfl (fun c => absurd c (nI_pos (by omega))) (fun _ => ?_)
  refine a_l0 rfl rfl rfl ?_
  refine a_geti rfl gfX7_15_7 rfl ?_
  refine a_top (y := nI (l + 1)) (up2_at) ?_
  refine a_l0 rfl rfl rfl ?_
  refine a_getq rfl gfX7_9_7 rfl (rfl) ?_
  refine a_len rfl rfl rfl rfl ?_
  refine a_ic_ge rfl (fun c => absurd c (nI_ge (b := 400) (by omega) (by omega))) (fun _ => ?_)
  refine a_l0 rfl rfl rfl ?_
  refine a_getq rfl gfX7_9_7 rfl (rfl) ?_
  refine a_l0 rfl rfl rfl ?_
  refine a_geti rfl gfX7_15_7 rfl ?_
  refine a_top (y := nI (l + 1)) (up2_at) ?_
  refine a_l1 rfl rfl rfl ?_
  refine a_l2 rfl rfl rfl ?_
  refine a_s rfl rfl ?_
  refine a_s rfl rfl ?_
  refine a_bastv (k := l + 1) rfl rfl (inI_nI (by omega) (by omega)) (i2b_id _) (nI_clamp (by omega)) ?_
  refine a_l0 rfl rfl rfl ?_
  refine a_s rfl rfl ?_
  refine a_geti rfl gfX7_15_7 rfl ?_
  refine a_top (y := nI (l + 1)) ((congrFun (up2_row (by decide)) 1).trans up2_at) ?_
  refine a_s rfl rfl ?_
  refine a_s rfl rfl ?_
  refine a_top (y := nI (l + 2)) (nI_succ _).symm ?_
  refine a_puti rfl pfX7_15_7 rfl ?_
  refine a_i2 rfl rfl rfl ?_
  refine a_goto rfl ?_
  refine a_l2 rfl rfl rfl ?_
  refine a_if_lt rfl (fun c => absurd c (by decide)) (fun _ => ?_)
  refine a_l0 rfl rfl rfl ?_
  refine a_geti rfl gfX7_15_7 rfl ?_
  refine a_top (y := nI (l + 2)) (up2_at) ?_
  refine a_if_lt rfl (fun c => absurd c (nI_pos (by omega))) (fun _ => ?_)
  refine a_l0 rfl rfl rfl ?_
  refine a_geti rfl gfX7_15_7 rfl ?_
  refine a_top (y := nI (l + 2)) (up2_at) ?_
  refine a_l0 rfl rfl rfl ?_
  refine a_getq rfl gfX7_9_7 rfl (rfl) ?_
  refine a_len rfl rfl rfl rfl ?_
  refine a_ic_ge rfl (fun c => absurd c (nI_ge (b := 400) (by omega) (by omega))) (fun _ => ?_)
  refine a_l0 rfl rfl rfl ?_
  refine a_getq rfl gfX7_9_7 rfl (rfl) ?_
  refine a_l0 rfl rfl rfl ?_
  refine a_geti rfl gfX7_15_7 rfl ?_
  refine a_top (y := nI (l + 2)) (up2_at) ?_
  refine a_l1 rfl rfl rfl ?_
  refine a_l2 rfl rfl rfl ?_
  refine a_s rfl rfl ?_
  refine a_s rfl rfl ?_
  refine a_bastv (k := l + 2) rfl rfl (inI_nI (by omega) (by omega)) (i2b_id _) (nI_clamp (by omega)) ?_
  refine a_l0 rfl rfl rfl ?_
  refine a_s rfl rfl ?_
  refine a_geti rfl gfX7_15_7 rfl ?_
  refine a_top (y := nI (l + 2)) ((congrFun (up2_row (by decide)) 1).trans up2_at) ?_
  refine a_s rfl rfl ?_
  refine a_s rfl rfl ?_
  refine a_top (y := nI (l + 3)) (nI_succ _).symm ?_
  refine a_puti rfl pfX7_15_7 rfl ?_
  refine a_i2 rfl rfl rfl ?_
  refine a_goto rfl ?_
  refine a_l2 rfl rfl rfl ?_
  refine a_if_lt rfl (fun c => absurd c (by decide)) (fun _ => ?_)
  refine a_l0 rfl rfl rfl ?_
  refine a_geti rfl gfX7_15_7 rfl ?_
  refine a_top (y := nI (l + 3)) (up2_at) ?_
  refine a_if_lt rfl (fun c => absurd c (nI_pos (by omega))) (fun _ => ?_)
  refine a_l0 rfl rfl rfl ?_
  refine a_geti rfl gfX7_15_7 rfl ?_
  refine a_top (y := nI (l + 3)) (up2_at) ?_
  refine a_l0 rfl rfl rfl ?_
  refine a_getq rfl gfX7_9_7 rfl (rfl) ?_
  refine a_len rfl rfl rfl rfl ?_
  refine a_ic_ge rfl (fun c => absurd c (nI_ge (b := 400) (by omega) (by omega))) (fun _ => ?_)
  refine a_l0 rfl rfl rfl ?_
  refine a_getq rfl gfX7_9_7 rfl (rfl) ?_
  refine a_l0 rfl rfl rfl ?_
  refine a_geti rfl gfX7_15_7 rfl ?_
  refine a_top (y := nI (l + 3)) (up2_at) ?_
  refine a_l1 rfl rfl rfl ?_
  refine a_l2 rfl rfl rfl ?_
  refine a_s rfl rfl ?_
  refine a_s rfl rfl ?_
  refine a_bastv (k := l + 3) rfl rfl (inI_nI (by omega) (by omega)) (i2b_id _) (nI_clamp (by omega)) ?_
  refine a_l0 rfl rfl rfl ?_
  refine a_s rfl rfl ?_
  refine a_geti rfl gfX7_15_7 rfl ?_
  refine a_top (y := nI (l + 3)) ((congrFun (up2_row (by decide)) 1).trans up2_at) ?_
  refine a_s rfl rfl ?_
  refine a_s rfl rfl ?_
  refine a_top (y := nI (l + 4)) (nI_succ _).symm ?_
  refine a_puti rfl pfX7_15_7 rfl ?_
  refine a_i2 rfl rfl rfl ?_
  refine a_goto rfl ?_
  refine a_l2 rfl rfl rfl ?_
  refine a_if_lt rfl (fun _ => ?_) (fun c => absurd (by decide) c)
  exact a_vret rfl rfl ⟨rfl, rfl⟩
theorem apH_len {I : Nat → Nat → Int32} {l : Nat} {x : Int32} : apH I l x 201 1 = nI (l + 4) := up2_at
theorem apH_row {I : Nat → Nat → Int32} {l q : Nat} {x : Int32} (h1 : q ≠ 201) (h2 : q ≠ 202) : apH I l x q = I q := by
  unfold apH
  rw [up2_row h1, up2_row h2, up2_row h1, up2_row h2, up2_row h1, up2_row h2, up2_row h1, up2_row h2]
def fdH (I : Nat → Nat → Int32) (l : Nat) (x1 x2 x3 x4 x5 : Int32) : Nat → Nat → Int32 := apH (apH (apH (apH (apH I l x1) (l + 4) x2) (l + 8) x3) (l + 12) x4) (l + 16) x5
theorem q_X11_feed {S : aS} {I : Nat → Nat → Int32} {L : Nat → Nat → Int64} {w1 w2 t : Nat} {l : Nat} {x1 x2 x3 x4 x5 : Int32} (hl : I 201 1 = nI l) (h4 : l ≤ 400) : SpE S m_X11_feed 13 [.ref 200, .int x1, .int x2, .int x3, .int x4, .int x5] (hp I L w1 w2 t) (some (.int (if l + 20 ≤ 400 then nI (l + 20) else -1))) (hp (if l + 20 ≤ 400 then fdH I l x1 x2 x3 x4 x5 else I) L w1 w2 t) := by
  refine SpE_of ok_X11_feed rfl rfl ?_
  show AW S m_X11_feed 13 _ _ 0 0 0 [some (.ref 200), some (.int x1), some (.int x2), some (.int x3), some (.int x4), some (.int x5)] [] (hp I L w1 w2 t)
  refine a_l0 rfl rfl rfl ?_
  refine a_getq rfl gfX11_10_11 rfl (rfl) ?_
  refine a_geti rfl gfX11_68_7 rfl ?_
  refine a_top (y := nI l) hl ?_
  refine a_s rfl rfl ?_
  refine a_s rfl rfl ?_
  refine a_top (y := nI (l + 20)) (nI_addl l 20) ?_
  refine a_s rfl rfl ?_
  refine a_ic_le rfl (fun c => ?_) (fun c => ?_)
  · have hc : l + 20 ≤ 400 := nI_ge_of (a := 400) (b := l + 20) c (by decide) (by omega)
    rw [if_pos hc, if_pos hc]
    refine a_l0 rfl rfl rfl ?_
    refine a_getq rfl gfX11_10_11 rfl (rfl) ?_
    refine a_l1 rfl rfl rfl ?_
    refine a_eV0 rfl lX11_71 mo_X7_append (q_X7_append (l := l) hl (by omega)) rfl rfl rfl ⟨7, _, rfl, rfl, rfl⟩ rfl ?_
    refine a_l0 rfl rfl rfl ?_
    refine a_getq rfl gfX11_10_11 rfl (rfl) ?_
    refine a_l2 rfl rfl rfl ?_
    refine a_eV0 rfl lX11_71 mo_X7_append (q_X7_append (l := l + 4) apH_len (by omega)) rfl rfl rfl ⟨7, _, rfl, rfl, rfl⟩ rfl ?_
    refine a_l0 rfl rfl rfl ?_
    refine a_getq rfl gfX11_10_11 rfl (rfl) ?_
    refine a_l3 rfl rfl rfl ?_
    refine a_eV0 rfl lX11_71 mo_X7_append (q_X7_append (l := l + 8) apH_len (by omega)) rfl rfl rfl ⟨7, _, rfl, rfl, rfl⟩ rfl ?_
    refine a_l0 rfl rfl rfl ?_
    refine a_getq rfl gfX11_10_11 rfl (rfl) ?_
    refine a_l4 rfl rfl rfl ?_
    refine a_eV0 rfl lX11_71 mo_X7_append (q_X7_append (l := l + 12) apH_len (by omega)) rfl rfl rfl ⟨7, _, rfl, rfl, rfl⟩ rfl ?_
    refine a_l0 rfl rfl rfl ?_
    refine a_getq rfl gfX11_10_11 rfl (rfl) ?_
    refine a_l5 rfl rfl rfl ?_
    refine a_eV0 rfl lX11_71 mo_X7_append (q_X7_append (l := l + 16) apH_len (by omega)) rfl rfl rfl ⟨7, _, rfl, rfl, rfl⟩ rfl ?_
    refine a_l0 rfl rfl rfl ?_
    refine a_getq rfl gfX11_10_11 rfl (rfl) ?_
    refine a_geti rfl gfX11_68_7 rfl ?_
    refine a_top (y := nI (l + 20)) apH_len ?_
    exact a_iret rfl rfl ⟨rfl, rfl⟩
  · have hc : ¬ l + 20 ≤ 400 := fun z => c (nI_leu z (by decide))
    rw [if_neg hc, if_neg hc]
    refine a_s rfl rfl ?_
    exact a_iret rfl rfl ⟨rfl, rfl⟩
end
section
/-! ===== constants: the words, their texts, strings ===== -/
section A56
variable {S : aS} {C C' : aM} {d d' : Nat} {Q Q' : Option Value → aH → Prop} {X X' : String → aH → Prop} {k1 k2 j1 j2 pc np tgt n : Nat} {w : Int32} {ls ls' : List (Option Value)} {st st' st0 : List Value} {h h' : aH} {ins : Instr} {As : List Value} {v : Value}
theorem a_i2c {x y : Int32} {r : List Value} (hC : look C pc = some (.i2c, np, tgt, w)) (hv : x.toUInt32.toUInt16.toUInt32.toInt32 = y) (k : AW S C d Q X k1 k2 np ls (.int y :: r) h) : AW S C d Q X k1 k2 pc ls (.int x :: r) h := by
  intro p l e s m args below meth c H la locs cells slots mc ms G CC hS hL hR hF h1 h2
  have K := k p l e s m args below meth c H la locs cells slots mc ms G CC hS hL hR hF h1 h2
  obtain ⟨hd, rfl, -⟩ := okd CC.2.2.2.2.2.2.2.2.2 hC rfl
  have hexec := CC.1
  have hb := CC.2.1
  intro T hT X
  obtain ⟨t, a, b⟩ := K T hT X
  refine ⟨t, ?_, b⟩
  rw [List.map_cons, show mv G (Value.int y) = .int y from rfl, ← hv] at a
  rw [List.map_cons, show mv G (Value.int x) = .int x from rfl]
  jvm_step X.here [X.here.top, hexec, hb, hd]
  exact a
theorem a_bret {x : Int32} (hC : look C pc = some (.ireturn, np, tgt, w)) (hr : C.2.2.2.1 = some .byte) (hx : narrow .byte (.int x) = .int x) (hQ : Q (some (.int x)) h) : AW S C d Q X k1 k2 pc ls [.int x] h := by
  intro p' l e s m args below meth c H la locs cells slots mc ms G CC hS hL hR hF h1 h2
  obtain ⟨hd, rfl, -⟩ := okd CC.2.2.2.2.2.2.2.2.2 hC rfl
  have hlk := CC.2.2.2.1
  refine vx_ret (W.widen (k := mc) (n := ms) (by omega) (by omega) (W.zret CC.1 CC.2.1 (CC.2.2.1.trans hr) hx (fun t ht hW => ⟨some (.int x), h, rfl, hQ, by rw [ht]; exact hR, hF.F ht⟩) hF.2.2 hd hlk))
end A56
def dWd : String := "LPutOffParade$Word;"
def wNm (i : Nat) : String := (["PERSON", "AT", "FREE", "DUTY", "OF", "TAKES", "AGE", "TOOL", "ON", "FORGOTTEN", "ILL", "PACE", "PRICE", "DAY", "MONTH", "GROW", "SHAME", "EASE", "IF", "OR", "AND", "NOT", "READY", "OLD", "LEFT", "OWNER", "KERB"] : List String).getD i ""
def wTx (i : Nat) : String := (["person", "at", "free", "duty", "of", "takes", "age", "tool", "on", "forgotten", "ill", "pace", "price", "day", "month", "grow", "shame", "ease", "if", "or", "and", "not", "ready", "old", "left", "owner", "kerb"] : List String).getD i ""
def wBy (i : Nat) : List Nat := ([[112, 101, 114, 115, 111, 110], [97, 116], [102, 114, 101, 101], [100, 117, 116, 121], [111, 102], [116, 97, 107, 101, 115], [97, 103, 101], [116, 111, 111, 108], [111, 110], [102, 111, 114, 103, 111, 116, 116, 101, 110], [105, 108, 108], [112, 97, 99, 101], [112, 114, 105, 99, 101], [100, 97, 121], [109, 111, 110, 116, 104], [103, 114, 111, 119], [115, 104, 97, 109, 101], [101, 97, 115, 101], [105, 102], [111, 114], [97, 110, 100], [110, 111, 116], [114, 101, 97, 100, 121], [111, 108, 100], [108, 101, 102, 116], [111, 119, 110, 101, 114], [107, 101, 114, 98]] : List (List Nat)).getD i []
def wMi (i : Nat) : Nat := ([139, 116, 121, 145, 123, 124, 126, 131, 133, 150, 155, 160, 162, 164, 166, 218, 220, 222, 224, 216, 211, 200, 190, 192, 171, 173, 175] : List Nat).getD i 0
def wPa (i : Nat) : Int32 := ([(-1), (-1), (-1), 1000, (-1), (-1), 1002, 1003, (-1), (-1), (-1), (-1), (-1), 1006, (-1), (-1), (-1), (-1), (-1), (-1), (-1), (-1), (-1), (-1), 1001, 1004, 1005] : List Int32).getD i (-1)
def wLen (i : Nat) : Nat := (wBy i).length
def wC (i j : Nat) : Int32 := nI ((wBy i).getD j 0)
/-- places: words 100 + i, texts 130 + i, their bytes 160 + i, all words 190, the formatter 191 -/
def WdS (S : aS) : Prop :=
  (∀ i, i < 27 → (RX10, wNm i, dWd, Value.ref (100 + i)) ∈ S.1) ∧ (RX9, "WORDS", "[LPutOffParade$Word;", Value.ref 190) ∈ S.1 ∧ (RJ0, "COMPACT_STRINGS", "Z", Value.int 1) ∈ S.1 ∧ (∃ v, (v = Value.null ∨ v = Value.ref 191) ∧ (RJ3, "SIOOBE_FORMATTER", "Ljava/util/function/BiFunction;", v) ∈ S.1) ∧
  (∀ i, i < 27 → (100 + i, RX10) ∈ S.2.1) ∧ (∀ i, i < 27 → (130 + i, RJ0) ∈ S.2.1) ∧
  (∀ i, i < 27 → (100 + i, RX10, "text", "Ljava/lang/String;", Value.ref (130 + i)) ∈ S.2.2.1) ∧ (∀ i, i < 27 → (100 + i, RX10, "part", "I", Value.int (wPa i)) ∈ S.2.2.1) ∧
  (∀ i, i < 27 → (130 + i, RJ0, "value", "[B", Value.ref (160 + i)) ∈ S.2.2.1) ∧ (∀ i, i < 27 → (130 + i, RJ0, "coder", "B", Value.int 0) ∈ S.2.2.1) ∧
  (190, FieldType.object RX10, 27, fun j => Value.ref (100 + j)) ∈ S.2.2.2.1 ∧ (∀ i, i < 27 → (160 + i, FieldType.byte, wLen i, fun j => Value.int (wC i j)) ∈ S.2.2.2.1) ∧
  (∀ i, i < 27 → (RX12, wMi i, wTx i, 130 + i) ∈ S.2.2.2.2.1)
section B56
variable {S : aS}
theorem WdS.st (h : WdS S) {i : Nat} (hi : i < 27) : (RX10, wNm i, dWd, Value.ref (100 + i)) ∈ S.1 := h.1 i hi
theorem WdS.al (h : WdS S) : (RX9, "WORDS", "[LPutOffParade$Word;", Value.ref 190) ∈ S.1 := h.2.1
theorem WdS.cs (h : WdS S) : (RJ0, "COMPACT_STRINGS", "Z", Value.int 1) ∈ S.1 := h.2.2.1
theorem WdS.sf (h : WdS S) : (∃ v, (v = Value.null ∨ v = Value.ref 191) ∧ (RJ3, "SIOOBE_FORMATTER", "Ljava/util/function/BiFunction;", v) ∈ S.1) := h.2.2.2.1
theorem WdS.ob (h : WdS S) {i : Nat} (hi : i < 27) : (100 + i, RX10) ∈ S.2.1 := h.2.2.2.2.1 i hi
theorem WdS.so (h : WdS S) {i : Nat} (hi : i < 27) : (130 + i, RJ0) ∈ S.2.1 := h.2.2.2.2.2.1 i hi
theorem WdS.tx (h : WdS S) {i : Nat} (hi : i < 27) : (100 + i, RX10, "text", "Ljava/lang/String;", Value.ref (130 + i)) ∈ S.2.2.1 := h.2.2.2.2.2.2.1 i hi
theorem WdS.pa (h : WdS S) {i : Nat} (hi : i < 27) : (100 + i, RX10, "part", "I", Value.int (wPa i)) ∈ S.2.2.1 := h.2.2.2.2.2.2.2.1 i hi
theorem WdS.va (h : WdS S) {i : Nat} (hi : i < 27) : (130 + i, RJ0, "value", "[B", Value.ref (160 + i)) ∈ S.2.2.1 := h.2.2.2.2.2.2.2.2.1 i hi
theorem WdS.co (h : WdS S) {i : Nat} (hi : i < 27) : (130 + i, RJ0, "coder", "B", Value.int 0) ∈ S.2.2.1 := h.2.2.2.2.2.2.2.2.2.1 i hi
theorem WdS.ar (h : WdS S) : (190, FieldType.object RX10, 27, fun j => Value.ref (100 + j)) ∈ S.2.2.2.1 := h.2.2.2.2.2.2.2.2.2.2.1
theorem WdS.by (h : WdS S) {i : Nat} (hi : i < 27) : (160 + i, FieldType.byte, wLen i, fun j => Value.int (wC i j)) ∈ S.2.2.2.1 := h.2.2.2.2.2.2.2.2.2.2.2.1 i hi
theorem WdS.ld (h : WdS S) {i : Nat} (hi : i < 27) : (RX12, wMi i, wTx i, 130 + i) ∈ S.2.2.2.2.1 := h.2.2.2.2.2.2.2.2.2.2.2.2 i hi
theorem wC_ok : ∀ i, i < 27 → ∀ j, j < wLen i → ∃ b, 97 ≤ b ∧ b ≤ 122 ∧ wC i j = nI b ∧ (wC i j &&& 255).toUInt32.toUInt16.toUInt32.toInt32 = nI b := by
  have h : ∀ i, i < 27 → ∀ j, j < wLen i → 97 ≤ (wBy i).getD j 0 ∧ (wBy i).getD j 0 ≤ 122 := by decide +kernel
  have h2 : ∀ b, b < 123 → (nI b &&& 255).toUInt32.toUInt16.toUInt32.toInt32 = nI b := by decide +kernel
  intro i hi j hj
  have := h i hi j hj
  exact ⟨_, this.1, this.2, rfl, h2 _ (by omega)⟩
theorem nr_char : ∀ b, b < 123 → narrow .char (.int (nI b)) = .int (nI b) := by decide +kernel
set_option maxRecDepth 100000
theorem q_coder {h : aH} (hw : WdS S) {i : Nat} (hi : i < 27) : SpE S m_J0_coder_7d493 12 [.ref (130 + i)] h (some (.int 0)) h := by
  refine SpE_of ok_J0_coder_7d493 rfl rfl ?_
  show AW S m_J0_coder_7d493 12 _ _ 0 0 0 [some (.ref (130 + i))] [] h
  refine a_gets rfl (inC4 (i := 14) rfl rfl) hw.cs ?_
  refine a_if_eq rfl (fun c => absurd c (by decide)) (fun _ => ?_)
  refine a_l0 rfl rfl rfl ?_
  refine a_getc rfl (inC10 (i := 52) rfl rfl) (hw.co hi) ?_
  refine a_goto rfl ?_
  exact a_bret rfl rfl rfl ⟨rfl, rfl⟩
theorem q_isLatin1 {h : aH} (hw : WdS S) {i : Nat} (hi : i < 27) : SpE S m_J0_isLatin1_aae02 12 [.ref (130 + i)] h (some (.int 1)) h := by
  refine SpE_of ok_J0_isLatin1_aae02 rfl rfl ?_
  show AW S m_J0_isLatin1_aae02 12 _ _ 0 0 0 [some (.ref (130 + i))] [] h
  refine a_gets rfl (inC4 (i := 14) rfl rfl) hw.cs ?_
  refine a_if_eq rfl (fun c => absurd c (by decide)) (fun _ => ?_)
  refine a_l0 rfl rfl rfl ?_
  refine a_getc rfl (inC10 (i := 52) rfl rfl) (hw.co hi) ?_
  refine a_if_ne rfl (fun c => absurd rfl c) (fun _ => ?_)
  refine a_s rfl rfl ?_
  refine a_goto rfl ?_
  exact a_zret rfl rfl rfl ⟨rfl, rfl⟩
theorem q_strlen {h : aH} (hw : WdS S) {i : Nat} (hi : i < 27) : SpE S m_J0_length_8abf5 13 [.ref (130 + i)] h (some (.int (nI (wLen i)))) h := by
  refine SpE_of ok_J0_length_8abf5 rfl rfl ?_
  show AW S m_J0_length_8abf5 13 _ _ 0 0 0 [some (.ref (130 + i))] [] h
  refine a_l0 rfl rfl rfl ?_
  refine a_getc rfl (inC10 (i := 51) rfl rfl) (hw.va hi) ?_
  refine a_lenc rfl (hw.by hi) rfl ?_
  refine a_l0 rfl rfl rfl ?_
  refine a_eK1 rfl lJ0_335 mo_J0_coder_7d493 (q_coder hw hi) rfl rfl rfl (hw.so hi) rfl ?_
  refine a_s rfl rfl ?_
  refine a_top (y := nI (wLen i)) ?_ ?_
  · have h : ∀ i, i < 27 → nI (wLen i) >>> (0 &&& 31) = nI (wLen i) := by decide +kernel
    exact h i hi
  · exact a_iret rfl rfl ⟨rfl, rfl⟩
theorem q_chk3 {h : aH} {j n : Nat} (hj : j < n) (hn : n < 2 ^ 31) : SpE S m_J3_checkIndex_8e157 12 [.int (nI j), .int (nI n), .ref 191] h (some (.int (nI j))) h := by
  refine SpE_of ok_J3_checkIndex_8e157 rfl rfl ?_
  show AW S m_J3_checkIndex_8e157 12 _ _ 0 0 0 [some (.int (nI j)), some (.int (nI n)), some (.ref 191)] [] h
  refine a_l0 rfl rfl rfl ?_
  refine a_if_lt rfl (fun c => absurd c (nI_pos (by omega))) (fun _ => ?_)
  refine a_l0 rfl rfl rfl ?_
  refine a_l1 rfl rfl rfl ?_
  refine a_ic_lt rfl (fun _ => ?_) (fun c => absurd (nI_ltu hj hn) c)
  refine a_l0 rfl rfl rfl ?_
  exact a_iret rfl rfl ⟨rfl, rfl⟩
theorem q_chk3n {h : aH} {j n : Nat} (hj : j < n) (hn : n < 2 ^ 31) : SpE S m_J3_checkIndex_8e157 12 [.int (nI j), .int (nI n), .null] h (some (.int (nI j))) h := by
  refine SpE_of ok_J3_checkIndex_8e157 rfl rfl ?_
  show AW S m_J3_checkIndex_8e157 12 _ _ 0 0 0 [some (.int (nI j)), some (.int (nI n)), some (.null)] [] h
  refine a_l0 rfl rfl rfl ?_
  refine a_if_lt rfl (fun c => absurd c (nI_pos (by omega))) (fun _ => ?_)
  refine a_l0 rfl rfl rfl ?_
  refine a_l1 rfl rfl rfl ?_
  refine a_ic_lt rfl (fun _ => ?_) (fun c => absurd (nI_ltu hj hn) c)
  refine a_l0 rfl rfl rfl ?_
  exact a_iret rfl rfl ⟨rfl, rfl⟩
theorem q_chk0 {h : aH} (hw : WdS S) {j n : Nat} (hj : j < n) (hn : n < 2 ^ 31) : SpE S m_J0_checkIndex_df160 13 [.int (nI j), .int (nI n)] h none h := by
  refine SpE_of ok_J0_checkIndex_df160 rfl rfl ?_
  show AW S m_J0_checkIndex_df160 13 _ _ 0 0 0 [some (.int (nI j)), some (.int (nI n))] [] h
  obtain ⟨v, rfl | rfl, hm⟩ := hw.sf
  · refine a_l0 rfl rfl rfl ?_
    refine a_l1 rfl rfl rfl ?_
    refine a_gets rfl (inC4 (i := 30) rfl rfl) hm ?_
    refine a_eS1 rfl lJ0_1059 mo_J3_checkIndex_8e157 (q_chk3n hj hn) rfl rfl rfl rfl ?_
    refine a_s rfl rfl ?_
    exact a_vret rfl rfl ⟨rfl, rfl⟩
  · refine a_l0 rfl rfl rfl ?_
    refine a_l1 rfl rfl rfl ?_
    refine a_gets rfl (inC4 (i := 30) rfl rfl) hm ?_
    refine a_eS1 rfl lJ0_1059 mo_J3_checkIndex_8e157 (q_chk3 hj hn) rfl rfl rfl rfl ?_
    refine a_s rfl rfl ?_
    exact a_vret rfl rfl ⟨rfl, rfl⟩
theorem wLen_lt : ∀ i, i < 27 → wLen i < 2 ^ 31 := by decide +kernel
theorem q_chL {h : aH} (hw : WdS S) {i j : Nat} (hi : i < 27) (hj : j < wLen i) : SpE S m_J1_charAt_3b067 14 [.ref (160 + i), .int (nI j)] h (some (.int (wC i j))) h := by
  refine SpE_of ok_J1_charAt_3b067 rfl rfl ?_
  show AW S m_J1_charAt_3b067 14 _ _ 0 0 0 [some (.ref (160 + i)), some (.int (nI j))] [] h
  have hn := wLen_lt i hi
  obtain ⟨b, b1, b2, b3, b4⟩ := wC_ok i hi j hj
  refine a_l1 rfl rfl rfl ?_
  refine a_l0 rfl rfl rfl ?_
  refine a_lenc rfl (hw.by hi) rfl ?_
  refine a_eS0 rfl lJ1_9 mo_J0_checkIndex_df160 (q_chk0 hw hj hn) rfl rfl rfl rfl ?_
  refine a_l0 rfl rfl rfl ?_
  refine a_l1 rfl rfl rfl ?_
  refine a_baldc rfl (hw.by hi) (inI_nI hj hn) ?_
  refine a_top (y := wC i j) (by rw [nI_clamp (by omega)]) ?_
  refine a_s rfl rfl ?_
  refine a_s rfl rfl ?_
  refine a_i2c rfl b4 ?_
  exact a_cret rfl rfl (nr_char b (by omega)) ⟨by rw [b3], rfl⟩
theorem q_charAt {h : aH} (hw : WdS S) {i j : Nat} (hi : i < 27) (hj : j < wLen i) : SpE S m_J0_charAt_5068e 15 [.ref (130 + i), .int (nI j)] h (some (.int (wC i j))) h := by
  refine SpE_of ok_J0_charAt_5068e rfl rfl ?_
  show AW S m_J0_charAt_5068e 15 _ _ 0 0 0 [some (.ref (130 + i)), some (.int (nI j))] [] h
  obtain ⟨b, b1, b2, b3, b4⟩ := wC_ok i hi j hj
  refine a_l0 rfl rfl rfl ?_
  refine a_eK1 rfl lJ0_492 mo_J0_isLatin1_aae02 (q_isLatin1 hw hi) rfl rfl rfl (hw.so hi) rfl ?_
  refine a_if_eq rfl (fun c => absurd c (by decide)) (fun _ => ?_)
  refine a_l0 rfl rfl rfl ?_
  refine a_getc rfl (inC10 (i := 51) rfl rfl) (hw.va hi) ?_
  refine a_l1 rfl rfl rfl ?_
  refine a_eS1 rfl lJ0_495 mo_J1_charAt_3b067 (q_chL hw hi hj) rfl rfl rfl rfl ?_
  exact a_cret rfl rfl (by rw [b3]; exact nr_char b (by omega)) ⟨rfl, rfl⟩
end B56
/-- a word at hand: none, or one of all -/
def WK (w : Nat) : Prop := w = 0 ∨ ∃ i, i < 27 ∧ w = 100 + i + 1
theorem WK.nul : WK 0 := Or.inl rfl
theorem WK.con {i : Nat} (h : i < 27) : WK (100 + i + 1) := Or.inr ⟨i, h, rfl⟩
theorem WK.ck {S : aS} (hw : WdS S) {i : Nat} (h : i < 27) : 100 + i + 1 = 0 ∨ ∃ E, (100 + i + 1 - 1, E) ∈ S.2.1 := Or.inr ⟨_, by rw [Nat.add_sub_cancel]; exact hw.ob h⟩
theorem WK.ac {S : aS} {w : Nat} (h : WK w) (hw : WdS S) : w = 0 ∨ ∃ E, (w - 1, E) ∈ S.2.1 := by
  rcases h with h | ⟨i, hi, h⟩
  · exact Or.inl h
  · rw [h]
    exact WK.ck hw hi
abbrev QT (P : (Nat → Nat → Int32) → Prop) (z : Option Value → Prop) (L : Nat → Nat → Int64) (t : Nat) : Option Value → aH → Prop := fun v h' => z v ∧ ∃ I' w1' w2', h' = hp I' L w1' w2' t ∧ P I' ∧ WK w1' ∧ WK w2'
def XT (P : (Nat → Nat → Int32) → Prop) (L : Nat → Nat → Int64) (ks : List Nat) : String → aH → Prop := fun E h' => (∃ k, k ∈ ks ∧ E = exN k) ∧ ∃ I' w1' w2', h' = hp I' L w1' w2' 0 ∧ P I' ∧ WK w1' ∧ WK w2'
section C56
variable {S : aS} {C : aM} {d : Nat} {Q : Option Value → aH → Prop} {X : String → aH → Prop} {k1 k2 pc np tgt idx : Nat} {w : Int32} {ls : List (Option Value)} {st : List Value} {I : Nat → Nat → Int32} {L : Nat → Nat → Int64} {w1 w2 t q : Nat}
theorem a_putw1 (hC : look C pc = some (.putfield idx, np, tgt, w)) (hf : LPr C.1.cls C.1.name idx 9 9) (kk : AW S C d Q X k1 k2 np ls st (hp I L q w2 t)) : AW S C d Q X k1 k2 pc ls (rv q :: .ref 204 :: st) (hp I L w1 w2 t) := by
  refine a_putr hC hf rfl ?_
  rw [Rw_1]
  exact kk
theorem a_putw2 (hC : look C pc = some (.putfield idx, np, tgt, w)) (hf : LPr C.1.cls C.1.name idx 9 9) (kk : AW S C d Q X k1 k2 np ls st (hp I L w1 q t)) : AW S C d Q X k1 k2 pc ls (rv q :: .ref 221 :: st) (hp I L w1 w2 t) := by
  refine a_putr hC hf rfl ?_
  rw [Rw_2]
  exact kk
end C56
end
section
/-! ===== the class: tokens and readers (printed by program) ===== -/
set_option maxRecDepth 100000
def emitH (I : Nat → Nat → Int32) (x : Int32) : Nat → Nat → Int32 := up2 (setF I 231 400 (I 226 1) x) 226 1 (I 226 1 + 1)
theorem q_X2_emit {S : aS} {I : Nat → Nat → Int32} {L : Nat → Nat → Int64} {w1 w2 t : Nat} {x : Int32} : SpE S m_X2_emit 13 [.ref 226, .int x] (hp I L w1 w2 t) none (hp (emitH I x) L w1 w2 t) := by
  refine SpE_of ok_X2_emit rfl rfl ?_
  show AW S m_X2_emit 13 _ _ 0 0 0 [some (.ref 226), some (.int x)] [] (hp I L w1 w2 t)
  refine a_l0 rfl rfl rfl ?_
  refine a_getq rfl gfX2_28_2 rfl (rfl) ?_
  refine a_l0 rfl rfl rfl ?_
  refine a_geti rfl gfX2_41_2 rfl ?_
  refine a_l1 rfl rfl rfl ?_
  refine a_eSN0 rfl lX2_44 mo_X11_setAt (sp_X11_setAt rfl) rfl rfl rfl rfl ?_
  refine a_l0 rfl rfl rfl ?_
  refine a_s rfl rfl ?_
  refine a_geti rfl gfX2_41_2 rfl ?_
  refine a_top (y := I 226 1) (congrFun (setF_row (by decide)) 1) ?_
  refine a_s rfl rfl ?_
  refine a_s rfl rfl ?_
  refine a_puti rfl pfX2_41_2 rfl ?_
  exact a_vret rfl rfl ⟨rfl, rfl⟩
theorem emitH_fm {I : Nat → Nat → Int32} {x : Int32} : Fm sM I (emitH I x) := (Fm.rf.st (fun k => sM_mid (by omega) (by omega) fun z => by have := isSt_lt 231 (by omega) z; omega)).up rfl
theorem emitH_at {I : Nat → Nat → Int32} {x : Int32} {k : Nat} : emitH I x 220 k = I 220 k := by
  unfold emitH
  rw [up2_row (by decide), setF_row (by decide)]
def addH (I : Nat → Nat → Int32) (x1 x2 x3 x4 x5 : Int32) : Nat → Nat → Int32 := up2 (setF (setF (setF (setF (setF (setF I 212 12 (I 209 3) x1) 213 12 (I 209 3) x2) 214 12 (I 209 3) x3) 215 12 (I 209 3) x4) 216 12 (I 209 3) x5) 217 12 (I 209 3) 0) 209 3 (I 209 3 + 1)
theorem q_X5_addDuty {S : aS} {I : Nat → Nat → Int32} {L : Nat → Nat → Int64} {w1 w2 t : Nat} {x1 x2 x3 x4 x5 : Int32} : SpE S m_X5_addDuty 13 [.ref 209, .int x1, .int x2, .int x3, .int x4, .int x5] (hp I L w1 w2 t) none (hp (addH I x1 x2 x3 x4 x5) L w1 w2 t) := by
  refine SpE_of ok_X5_addDuty rfl rfl ?_
  show AW S m_X5_addDuty 13 _ _ 0 0 0 [some (.ref 209), some (.int x1), some (.int x2), some (.int x3), some (.int x4), some (.int x5)] [] (hp I L w1 w2 t)
  refine a_l0 rfl rfl rfl ?_
  refine a_getq rfl gfX5_18_5 rfl (rfl) ?_
  refine a_l0 rfl rfl rfl ?_
  refine a_geti rfl gfX5_63_5 rfl ?_
  refine a_top (y := I 209 3) (by simp (disch := omega) only [setF_row]) ?_
  refine a_l1 rfl rfl rfl ?_
  refine a_eSN0 rfl lX5_82 mo_X11_setAt (sp_X11_setAt rfl) rfl rfl rfl rfl ?_
  refine a_l0 rfl rfl rfl ?_
  refine a_getq rfl gfX5_21_5 rfl (rfl) ?_
  refine a_l0 rfl rfl rfl ?_
  refine a_geti rfl gfX5_63_5 rfl ?_
  refine a_top (y := I 209 3) (by simp (disch := omega) only [setF_row]) ?_
  refine a_l2 rfl rfl rfl ?_
  refine a_eSN0 rfl lX5_82 mo_X11_setAt (sp_X11_setAt rfl) rfl rfl rfl rfl ?_
  refine a_l0 rfl rfl rfl ?_
  refine a_getq rfl gfX5_24_5 rfl (rfl) ?_
  refine a_l0 rfl rfl rfl ?_
  refine a_geti rfl gfX5_63_5 rfl ?_
  refine a_top (y := I 209 3) (by simp (disch := omega) only [setF_row]) ?_
  refine a_l3 rfl rfl rfl ?_
  refine a_eSN0 rfl lX5_82 mo_X11_setAt (sp_X11_setAt rfl) rfl rfl rfl rfl ?_
  refine a_l0 rfl rfl rfl ?_
  refine a_getq rfl gfX5_27_5 rfl (rfl) ?_
  refine a_l0 rfl rfl rfl ?_
  refine a_geti rfl gfX5_63_5 rfl ?_
  refine a_top (y := I 209 3) (by simp (disch := omega) only [setF_row]) ?_
  refine a_l4 rfl rfl rfl ?_
  refine a_eSN0 rfl lX5_82 mo_X11_setAt (sp_X11_setAt rfl) rfl rfl rfl rfl ?_
  refine a_l0 rfl rfl rfl ?_
  refine a_getq rfl gfX5_30_5 rfl (rfl) ?_
  refine a_l0 rfl rfl rfl ?_
  refine a_geti rfl gfX5_63_5 rfl ?_
  refine a_top (y := I 209 3) (by simp (disch := omega) only [setF_row]) ?_
  refine a_l5 rfl rfl rfl ?_
  refine a_eSN0 rfl lX5_82 mo_X11_setAt (sp_X11_setAt rfl) rfl rfl rfl rfl ?_
  refine a_l0 rfl rfl rfl ?_
  refine a_getq rfl gfX5_33_5 rfl (rfl) ?_
  refine a_l0 rfl rfl rfl ?_
  refine a_geti rfl gfX5_63_5 rfl ?_
  refine a_top (y := I 209 3) (by simp (disch := omega) only [setF_row]) ?_
  refine a_s rfl rfl ?_
  refine a_eSN0 rfl lX5_82 mo_X11_setAt (sp_X11_setAt rfl) rfl rfl rfl rfl ?_
  refine a_l0 rfl rfl rfl ?_
  refine a_s rfl rfl ?_
  refine a_geti rfl gfX5_63_5 rfl ?_
  refine a_top (y := I 209 3) (by simp (disch := omega) only [setF_row]) ?_
  refine a_s rfl rfl ?_
  refine a_s rfl rfl ?_
  refine a_puti rfl pfX5_63_5 rfl ?_
  exact a_vret rfl rfl ⟨rfl, rfl⟩
theorem stp_far : ∀ a ∈ stps, a ≠ 209 → 235 ≤ a := by decide +kernel
theorem Mt.ad {I : Nat → Nat → Int32} {x1 x2 x3 x4 x5 : Int32} (hdl : ∃ nd, nd < 12 ∧ I 209 3 = nI nd) : Mt I (addH I x1 x2 x3 x4 x5) := by
  have hr : ∀ q, ¬ (209 ≤ q ∧ q ≤ 217) → addH I x1 x2 x3 x4 x5 q = I q := fun q hq => by
    unfold addH
    rw [up2_row (by omega), setF_row (by omega), setF_row (by omega), setF_row (by omega), setF_row (by omega), setF_row (by omega), setF_row (by omega)]
  refine ⟨fun q hq => hr q (by omega), by rw [hr 201 (by decide)], by rw [hr 200 (by decide)], fun h a ha h2 => ?_, hr 202 (by decide), by rw [hr 203 (by decide)], by rw [hr 220 (by decide)]⟩
  by_cases e : a = 209
  · subst e
    obtain ⟨nd, h3, h4⟩ := hdl
    refine ⟨nd + 1, by omega, ?_⟩
    unfold addH
    rw [up2_at, h4, nI_succ]
  · have := stp_far a ha e
    rw [hr a (by omega)]
    exact h a ha h2
theorem DL.of {I : Nat → Nat → Int32} (hci : CI I) (c : ¬ 12 ≤ I 209 3) : ∃ nd, nd < 12 ∧ I 209 3 = nI nd := by
  obtain ⟨nd, h1, h2⟩ := hci 209 (by decide) (by decide)
  refine ⟨nd, ?_, h2⟩
  rw [h2] at c
  exact nI_lt_of (b := 12) c (by omega) (by decide)
theorem i_pred {x : Int32} (h : ¬ x ≤ 0) : (x - 1).toInt = x.toInt - 1 := by
  rw [Int32.le_iff_toInt_le, show (0 : Int32).toInt = 0 from rfl] at h
  have := Int32.toInt_lt x
  rw [Int32.toInt_sub, show (1 : Int32).toInt = 1 from rfl]
  exact Int.bmod_eq_of_le (by omega) (by omega)
theorem q_X3_emitHeld {S : aS} {I : Nat → Nat → Int32} {L : Nat → Nat → Int64} {w1 w2 t : Nat} {x1 : Int32} : Sp S m_X3_emitHeld 14 0 0 [.ref 220, .int x1] (hp I L w1 w2 t) (QR (Mt I) isV L w1 w2 t) nX := by
  refine Sp_of ok_X3_emitHeld rfl rfl ?_
  show AW S m_X3_emitHeld 14 _ _ 0 0 0 [some (.ref 220), some (.int x1), none] [] (hp I L w1 w2 t)
  refine a_inv (n := (I 220 4).toInt.toNat) (fun m ls h => ∃ I', ls = [some (.ref 220), some (.int x1), none] ∧ h = hp I' L w1 w2 t ∧ Mt I I' ∧ (I' 220 4).toInt.toNat = m) ⟨_, rfl, rfl, Mt.rf, rfl⟩ ?_
  rintro m _ _ ⟨I1, rfl, rfl, f1, rfl⟩ ih
  refine a_l0 rfl rfl rfl ?_
  refine a_geti rfl gfX3_68_3 rfl ?_
  refine a_if_le rfl (fun c4 => ?_) (fun c4 => ?_)
  · exact a_vret rfl rfl ⟨rfl, _, rfl, f1⟩
  · refine a_l0 rfl rfl rfl ?_
    refine a_getq rfl gfX3_20_3 rfl (rfl) ?_
    refine a_l0 rfl rfl rfl ?_
    refine a_geti rfl gfX3_68_3 rfl ?_
    refine a_s rfl rfl ?_
    refine a_s rfl rfl ?_
    refine a_eSN1 rfl lX3_116 mo_X11_at (sp_X11_at rfl) rfl rfl rfl rfl ?_
    refine a_l1 rfl rfl rfl ?_
    refine a_ic_gt rfl (fun _ => ?_) (fun _ => ?_)
    · exact a_vret rfl rfl ⟨rfl, _, rfl, f1⟩
    · refine a_l0 rfl rfl rfl ?_
      refine a_s rfl rfl ?_
      refine a_geti rfl gfX3_68_3 rfl ?_
      refine a_s rfl rfl ?_
      refine a_s rfl rfl ?_
      refine a_puti rfl pfX3_68_3 rfl ?_
      have hm : ((up2 I1 220 4 (I1 220 4 - 1)) 220 4).toInt.toNat < (I1 220 4).toInt.toNat := by
        rw [up2_at, i_pred c4]
        rw [Int32.le_iff_toInt_le, show (0 : Int32).toInt = 0 from rfl] at c4
        omega
      have f2 : Mt I (up2 I1 220 4 (I1 220 4 - 1)) := f1.fm (Fm.rf.up rfl)
      refine a_ren (P := fun J => Mt I J ∧ (J 220 4).toInt.toNat < (I1 220 4).toInt.toNat) ⟨f2, hm⟩ (fun I2 hI2 => ?_)
      clear f2 hm
      obtain ⟨f2, hm⟩ := hI2
      refine a_l0 rfl rfl rfl ?_
      refine a_getq rfl gfX3_20_3 rfl (rfl) ?_
      refine a_l0 rfl rfl rfl ?_
      refine a_geti rfl gfX3_68_3 rfl ?_
      refine a_eSN1 rfl lX3_116 mo_X11_at (sp_X11_at rfl) rfl rfl rfl rfl ?_
      refine a_s2 rfl rfl rfl rfl rfl rfl ?_
      refine a_l2 rfl rfl rfl ?_
      refine a_s rfl rfl ?_
      have fin : ∀ {x : Int32} {J : Nat → Nat → Int32}, Mt I J → (J 220 4).toInt.toNat < (I1 220 4).toInt.toNat → AW S m_X3_emitHeld 14 (QR (Mt I) isV L w1 w2 t) nX 0 0 63 [some (.ref 220), some (.int x1), some (.int x)] [] (hp J L w1 w2 t) := by
        intro x J f3 hm3
        refine a_l0 rfl rfl rfl ?_
        refine a_getq rfl gfX3_14_3 rfl (rfl) ?_
        refine a_l2 rfl rfl rfl ?_
        refine a_eV0 rfl lX3_120 mo_X2_emit q_X2_emit rfl rfl rfl ⟨2, _, rfl, rfl, rfl⟩ rfl ?_
        refine a_goto rfl ?_
        exact a_less (ih _ _ _ hm3 ⟨_, rfl, rfl, f3.fm emitH_fm, by rw [emitH_at]⟩) ⟨rfl, rfl, trivial⟩
      refine a_ic_ne rfl (fun _ => ?_) (fun _ => ?_)
      · exact fin f2 hm
      · refine a_l0 rfl rfl rfl ?_
        refine a_s rfl rfl ?_
        refine a_geti rfl gfX3_72_3 rfl ?_
        refine a_s rfl rfl ?_
        refine a_s rfl rfl ?_
        refine a_puti rfl pfX3_72_3 rfl ?_
        exact fin (f2.fm (Fm.rf.up rfl)) (by rw [up2_ne (Or.inr (by decide))]; exact hm)
theorem q_X9_isText_204_201 {S : aS} {I : Nat → Nat → Int32} {L : Nat → Nat → Int64} {w1 w2 t : Nat} {x2 : Int32} (hw : WdS S) (kk1 : WK w1) (kk2 : WK w2) {k3 : Nat} (hk3 : k3 < 27) : Sp S m_X9_isText 16 0 0 [.ref 204, .ref 201, .int x2, .ref (130 + k3)] (hp I L w1 w2 t) (QE isZ (hp I L w1 w2 t)) nX := by
  refine Sp_of ok_X9_isText rfl rfl ?_
  show AW S m_X9_isText 16 _ _ 0 0 0 [some (.ref 204), some (.ref 201), some (.int x2), some (.ref (130 + k3)), none, none] [] (hp I L w1 w2 t)
  refine a_l0 rfl rfl rfl ?_
  refine a_getq rfl gfX9_15_9 rfl (rfl) ?_
  refine a_l2 rfl rfl rfl ?_
  refine a_eSN1 rfl lX9_58 mo_X11_at (sp_X11_at rfl) rfl rfl rfl rfl ?_
  refine a_s4 rfl rfl rfl rfl rfl rfl ?_
  refine a_l0 rfl rfl rfl ?_
  refine a_getq rfl gfX9_18_9 rfl (rfl) ?_
  refine a_l2 rfl rfl rfl ?_
  refine a_eSN1 rfl lX9_58 mo_X11_at (sp_X11_at rfl) rfl rfl rfl rfl ?_
  refine a_l4 rfl rfl rfl ?_
  refine a_s rfl rfl ?_
  refine a_l3 rfl rfl rfl ?_
  refine a_eK1 rfl lX9_82 mo_J0_length_8abf5 (q_strlen hw hk3) rfl rfl rfl (hw.so hk3) rfl ?_
  refine a_ic_eq rfl (fun c25 => ?_) (fun c25 => ?_)
  · refine a_s rfl rfl ?_
    refine a_s5 rfl rfl rfl rfl rfl rfl ?_
    refine a_cnt (j0 := 0) (fun j ls h => ∃ a0, ls = [some (.ref 204), some (.ref 201), some (.int x2), some (.ref (130 + k3)), some (.int a0), some (.int (nI j))] ∧ h = hp I L w1 w2 t) (by decide) ⟨_, rfl, rfl⟩ ⟨rfl, rfl, rfl, rfl, rfl, rfl, trivial⟩ ?_
    rintro j33 _ _ hj33 ⟨a0_33, rfl, rfl⟩ ih33
    refine a_l5 rfl rfl rfl ?_
    refine a_l3 rfl rfl rfl ?_
    refine a_eK1 rfl lX9_82 mo_J0_length_8abf5 (q_strlen hw hk3) rfl rfl rfl (hw.so hk3) rfl ?_
    refine a_ic_ge rfl (fun c39 => ?_) (fun c39 => ?_)
    · refine a_s rfl rfl ?_
      exact a_zret rfl rfl rfl ⟨⟨true, rfl⟩, rfl⟩
    · refine a_l1 rfl rfl rfl ?_
      refine a_l4 rfl rfl rfl ?_
      refine a_l5 rfl rfl rfl ?_
      refine a_s rfl rfl ?_
      refine a_gV rfl lX9_33 mo_X7_byteAt (q_X7_byteAt_201) rfl rfl rfl ⟨7, _, rfl, rfl, rfl⟩ rfl (fun v' h' hv => ?_)
      obtain ⟨⟨v1, rfl⟩, rfl⟩ := hv
      refine a_l3 rfl rfl rfl ?_
      refine a_l5 rfl rfl rfl ?_
      refine a_eK1 rfl lX9_87 mo_J0_charAt_5068e (q_charAt hw hk3 (nI_lt_of c39 hj33 (wLen_lt _ hk3))) rfl rfl rfl (hw.so hk3) rfl ?_
      refine a_ic_eq rfl (fun c57 => ?_) (fun c57 => ?_)
      · refine a_i5 rfl rfl rfl ?_
        refine a_goto rfl ?_
        exact ih33 _ _ _ _ c39 ⟨_, rfl, rfl⟩ ⟨rfl, rfl, rfl, rfl, rfl, nS _, trivial⟩
      · refine a_s rfl rfl ?_
        exact a_zret rfl rfl rfl ⟨⟨false, rfl⟩, rfl⟩
  · refine a_s rfl rfl ?_
    exact a_zret rfl rfl rfl ⟨⟨false, rfl⟩, rfl⟩
theorem q_X9_wordOf_204_201 {S : aS} {I : Nat → Nat → Int32} {L : Nat → Nat → Int64} {w1 w2 t : Nat} {x2 : Int32} (hw : WdS S) (kk1 : WK w1) (kk2 : WK w2) : Sp S m_X9_wordOf 17 0 0 [.ref 204, .ref 201, .int x2] (hp I L w1 w2 t) (QE isI (hp I L w1 w2 t)) nX := by
  refine Sp_of ok_X9_wordOf rfl rfl ?_
  show AW S m_X9_wordOf 17 _ _ 0 0 0 [some (.ref 204), some (.ref 201), some (.int x2), none, none] [] (hp I L w1 w2 t)
  refine a_s rfl rfl ?_
  refine a_s3 rfl rfl rfl rfl rfl rfl ?_
  refine a_cnt (j0 := 0) (fun j ls h => ls = [some (.ref 204), some (.ref 201), some (.int x2), some (.int (nI j)), none] ∧ h = hp I L w1 w2 t) (by decide) ⟨rfl, rfl⟩ ⟨rfl, rfl, rfl, rfl, trivial⟩ ?_
  rintro j2 _ _ hj2 ⟨rfl, rfl⟩ ih2
  refine a_l3 rfl rfl rfl ?_
  refine a_gets rfl (inC4 (i := 0) rfl rfl) hw.al ?_
  refine a_lenc rfl hw.ar rfl ?_
  refine a_ic_ge rfl (fun c7 => ?_) (fun c7 => ?_)
  · refine a_s rfl rfl ?_
    exact a_iret rfl rfl ⟨⟨_, rfl⟩, rfl⟩
  · refine a_gets rfl (inC4 (i := 0) rfl rfl) hw.al ?_
    refine a_l3 rfl rfl rfl ?_
    refine a_aaldc rfl hw.ar rfl (inI_nI (nI_lt_of (b := 27) c7 hj2 (by decide)) (by decide)) ?_
    refine a_s4 rfl rfl rfl rfl rfl rfl ?_
    refine a_l4 rfl rfl rfl ?_
    refine a_ifnull_f rfl ?_
    refine a_l0 rfl rfl rfl ?_
    refine a_l1 rfl rfl rfl ?_
    refine a_l2 rfl rfl rfl ?_
    refine a_l4 rfl rfl rfl ?_
    refine a_getc rfl (inC10 (i := 50) rfl rfl) (hw.tx (inI_nI (n := 27) (nI_lt_of (b := 27) c7 hj2 (by decide)) (by decide)).2) ?_
    refine a_gV rfl lX9_78 mo_X9_isText (q_X9_isText_204_201 hw kk1 kk2 (inI_nI (n := 27) (nI_lt_of (b := 27) c7 hj2 (by decide)) (by decide)).2) rfl rfl rfl ⟨9, _, rfl, rfl, rfl⟩ rfl (fun v' h' hv => ?_)
    obtain ⟨⟨v1, rfl⟩, rfl⟩ := hv
    refine a_if_eq rfl (fun c33 => ?_) (fun c33 => ?_)
    · refine a_i3 rfl rfl rfl ?_
      refine a_goto rfl ?_
      exact ih2 _ _ _ _ c7 ⟨rfl, rfl⟩ ⟨rfl, rfl, rfl, nS _, trivial⟩
    · refine a_l3 rfl rfl rfl ?_
      exact a_iret rfl rfl ⟨⟨_, rfl⟩, rfl⟩
theorem q_X9_numberOf_204_201 {S : aS} {I : Nat → Nat → Int32} {L : Nat → Nat → Int64} {w1 w2 t : Nat} {x2 : Int32} : Sp S m_X9_numberOf 13 0 0 [.ref 204, .ref 201, .int x2] (hp I L w1 w2 t) (QE isI (hp I L w1 w2 t)) nX := by
  refine Sp_of ok_X9_numberOf rfl rfl ?_
  show AW S m_X9_numberOf 13 _ _ 0 0 0 [some (.ref 204), some (.ref 201), some (.int x2), none, none, none, none] [] (hp I L w1 w2 t)
  refine a_l0 rfl rfl rfl ?_
  refine a_getq rfl gfX9_15_9 rfl (rfl) ?_
  refine a_l2 rfl rfl rfl ?_
  refine a_eSN1 rfl lX9_58 mo_X11_at (sp_X11_at rfl) rfl rfl rfl rfl ?_
  refine a_s3 rfl rfl rfl rfl rfl rfl ?_
  refine a_l0 rfl rfl rfl ?_
  refine a_getq rfl gfX9_18_9 rfl (rfl) ?_
  refine a_l2 rfl rfl rfl ?_
  refine a_eSN1 rfl lX9_58 mo_X11_at (sp_X11_at rfl) rfl rfl rfl rfl ?_
  refine a_s4 rfl rfl rfl rfl rfl rfl ?_
  refine a_l4 rfl rfl rfl ?_
  refine a_l3 rfl rfl rfl ?_
  refine a_s rfl rfl ?_
  refine a_s rfl rfl ?_
  refine a_ic_le rfl (fun c24 => ?_) (fun c24 => ?_)
  · refine a_s rfl rfl ?_
    refine a_s5 rfl rfl rfl rfl rfl rfl ?_
    refine a_l3 rfl rfl rfl ?_
    refine a_s6 rfl rfl rfl rfl rfl rfl ?_
    refine a_cntI (fun y ls h => ∃ a0, ∃ a1, ∃ a2, ls = [some (.ref 204), some (.ref 201), some (.int x2), some (.int a0), some (.int a1), some (.int a2), some (.int y)] ∧ h = hp I L w1 w2 t) ⟨_, _, _, rfl, rfl⟩ ⟨rfl, rfl, rfl, rfl, rfl, rfl, rfl, trivial⟩ ?_
    rintro y35 _ _ ⟨a0_35, a1_35, a2_35, rfl, rfl⟩ ih35
    refine a_l6 rfl rfl rfl ?_
    refine a_l4 rfl rfl rfl ?_
    refine a_ic_ge rfl (fun c39 => ?_) (fun c39 => ?_)
    · refine a_l5 rfl rfl rfl ?_
      exact a_iret rfl rfl ⟨⟨_, rfl⟩, rfl⟩
    · refine a_l5 rfl rfl rfl ?_
      refine a_s rfl rfl ?_
      refine a_s rfl rfl ?_
      refine a_l1 rfl rfl rfl ?_
      refine a_l6 rfl rfl rfl ?_
      refine a_gV rfl lX9_33 mo_X7_byteAt (q_X7_byteAt_201) rfl rfl rfl ⟨7, _, rfl, rfl, rfl⟩ rfl (fun v' h' hv => ?_)
      obtain ⟨⟨v1, rfl⟩, rfl⟩ := hv
      refine a_s rfl rfl ?_
      refine a_s rfl rfl ?_
      refine a_s rfl rfl ?_
      refine a_s5 rfl rfl rfl rfl rfl rfl ?_
      refine a_i6 rfl rfl rfl ?_
      refine a_goto rfl ?_
      exact ih35 _ _ _ _ c39 ⟨_, _, _, rfl, rfl⟩ ⟨rfl, rfl, rfl, rfl, rfl, rfl, rfl, trivial⟩
  · refine a_s rfl rfl ?_
    exact a_iret rfl rfl ⟨⟨_, rfl⟩, rfl⟩
theorem q_X9_valueOf_204_201 {S : aS} {I : Nat → Nat → Int32} {L : Nat → Nat → Int64} {w1 w2 t : Nat} {x2 : Int32} (hw : WdS S) (kk1 : WK w1) (kk2 : WK w2) : Sp S m_X9_valueOf 18 0 0 [.ref 204, .ref 201, .int x2] (hp I L w1 w2 t) (QE isI (hp I L w1 w2 t)) nX := by
  refine Sp_of ok_X9_valueOf rfl rfl ?_
  show AW S m_X9_valueOf 18 _ _ 0 0 0 [some (.ref 204), some (.ref 201), some (.int x2)] [] (hp I L w1 w2 t)
  refine a_l0 rfl rfl rfl ?_
  refine a_getq rfl gfX9_9_9 rfl (rfl) ?_
  refine a_l2 rfl rfl rfl ?_
  refine a_eSN1 rfl lX9_58 mo_X11_at (sp_X11_at rfl) rfl rfl rfl rfl ?_
  refine a_lsw2 rfl (by decide) (by decide) (fun hx => ?_) (fun hx => ?_) (fun hx hx2 => ?_)
  · refine a_pc (pc' := 36) (by decide) ?_
    refine a_l0 rfl rfl rfl ?_
    refine a_l1 rfl rfl rfl ?_
    refine a_l2 rfl rfl rfl ?_
    refine a_gV rfl lX9_62 mo_X9_wordOf (q_X9_wordOf_204_201 hw kk1 kk2) rfl rfl rfl ⟨9, _, rfl, rfl, rfl⟩ rfl (fun v' h' hv => ?_)
    obtain ⟨⟨v1, rfl⟩, rfl⟩ := hv
    exact a_iret rfl rfl ⟨⟨_, rfl⟩, rfl⟩
  · refine a_pc (pc' := 43) (by decide) ?_
    refine a_l0 rfl rfl rfl ?_
    refine a_l1 rfl rfl rfl ?_
    refine a_l2 rfl rfl rfl ?_
    refine a_gV rfl lX9_65 mo_X9_numberOf (q_X9_numberOf_204_201) rfl rfl rfl ⟨9, _, rfl, rfl, rfl⟩ rfl (fun v' h' hv => ?_)
    obtain ⟨⟨v2, rfl⟩, rfl⟩ := hv
    exact a_iret rfl rfl ⟨⟨_, rfl⟩, rfl⟩
  · refine a_pc (pc' := 50) (by decide) ?_
    refine a_l1 rfl rfl rfl ?_
    refine a_l0 rfl rfl rfl ?_
    refine a_getq rfl gfX9_15_9 rfl (rfl) ?_
    refine a_l2 rfl rfl rfl ?_
    refine a_eSN1 rfl lX9_58 mo_X11_at (sp_X11_at rfl) rfl rfl rfl rfl ?_
    refine a_gV rfl lX9_33 mo_X7_byteAt (q_X7_byteAt_201) rfl rfl rfl ⟨7, _, rfl, rfl, rfl⟩ rfl (fun v' h' hv => ?_)
    obtain ⟨⟨v3, rfl⟩, rfl⟩ := hv
    exact a_iret rfl rfl ⟨⟨_, rfl⟩, rfl⟩
theorem q_X9_open_204_sT {S : aS} {I : Nat → Nat → Int32} {L : Nat → Nat → Int64} {w1 w2 t : Nat} {x1 x2 : Int32} : Sp S m_X9_open 13 0 0 [.ref 204, .int x1, .int x2] (hp I L w1 w2 t) (QR (Fm sT I) isV L w1 w2 t) nX := by
  refine Sp_of ok_X9_open rfl rfl ?_
  show AW S m_X9_open 13 _ _ 0 0 0 [some (.ref 204), some (.int x1), some (.int x2)] [] (hp I L w1 w2 t)
  refine a_l0 rfl rfl rfl ?_
  refine a_getq rfl gfX9_9_9 rfl (rfl) ?_
  refine a_l0 rfl rfl rfl ?_
  refine a_geti rfl gfX9_24_9 rfl ?_
  refine a_l1 rfl rfl rfl ?_
  refine a_eSN0 rfl lX9_44 mo_X11_setAt (sp_X11_setAt rfl) rfl rfl rfl rfl ?_
  refine a_ren (P := Fm sT I) (Fm.st (Fm.rf (s := sT)) (fun _ => rfl)) (fun I1 f2 => ?_)
  refine a_l0 rfl rfl rfl ?_
  refine a_getq rfl gfX9_15_9 rfl (rfl) ?_
  refine a_l0 rfl rfl rfl ?_
  refine a_geti rfl gfX9_24_9 rfl ?_
  refine a_l2 rfl rfl rfl ?_
  refine a_eSN0 rfl lX9_44 mo_X11_setAt (sp_X11_setAt rfl) rfl rfl rfl rfl ?_
  refine a_ren (P := Fm sT I) (Fm.tr (f2) (Fm.st (Fm.rf (s := sT)) (fun _ => rfl))) (fun I3 f4 => ?_)
  refine a_l0 rfl rfl rfl ?_
  refine a_getq rfl gfX9_18_9 rfl (rfl) ?_
  refine a_l0 rfl rfl rfl ?_
  refine a_geti rfl gfX9_24_9 rfl ?_
  refine a_l2 rfl rfl rfl ?_
  refine a_eSN0 rfl lX9_44 mo_X11_setAt (sp_X11_setAt rfl) rfl rfl rfl rfl ?_
  refine a_ren (P := Fm sT I) (Fm.tr (f4) (Fm.st (Fm.rf (s := sT)) (fun _ => rfl))) (fun I5 f6 => ?_)
  refine a_l0 rfl rfl rfl ?_
  refine a_s rfl rfl ?_
  refine a_geti rfl gfX9_24_9 rfl ?_
  refine a_s rfl rfl ?_
  refine a_s rfl rfl ?_
  refine a_puti rfl pfX9_24_9 rfl ?_
  refine a_ren (P := Fm sT I) (Fm.tr (f6) (Fm.up (Fm.rf (s := sT)) rfl)) (fun I7 f8 => ?_)
  exact a_vret rfl rfl ⟨rfl, _, rfl, f8⟩
theorem q_X9_next_204_sT {S : aS} {I : Nat → Nat → Int32} {L : Nat → Nat → Int64} {w1 w2 t : Nat} (hw : WdS S) (kk1 : WK w1) (kk2 : WK w2) : Sp S m_X9_next 13 0 0 [.ref 204] (hp I L w1 w2 t) (QT (Fm sT I) isV L t) nX := by
  refine Sp_of ok_X9_next rfl rfl ?_
  show AW S m_X9_next 13 _ _ 0 0 0 [some (.ref 204)] [] (hp I L w1 w2 t)
  refine a_l0 rfl rfl rfl ?_
  refine a_l0 rfl rfl rfl ?_
  refine a_geti rfl gfX9_52_9 rfl ?_
  refine a_s rfl rfl ?_
  refine a_s rfl rfl ?_
  refine a_l0 rfl rfl rfl ?_
  refine a_geti rfl gfX9_24_9 rfl ?_
  refine a_s rfl rfl ?_
  refine a_s rfl rfl ?_
  refine a_min rfl lX9_91 mj_min rfl rfl ?_
  refine a_puti rfl pfX9_52_9 rfl ?_
  refine a_ren (P := Fm sT I) (Fm.up (Fm.rf (s := sT)) rfl) (fun I1 f2 => ?_)
  refine a_l0 rfl rfl rfl ?_
  refine a_l0 rfl rfl rfl ?_
  refine a_getq rfl gfX9_9_9 rfl (rfl) ?_
  refine a_l0 rfl rfl rfl ?_
  refine a_geti rfl gfX9_52_9 rfl ?_
  refine a_eSN1 rfl lX9_58 mo_X11_at (sp_X11_at rfl) rfl rfl rfl rfl ?_
  refine a_puti rfl pfX9_97_9 rfl ?_
  refine a_ren (P := Fm sT I) (Fm.tr (f2) (Fm.up (Fm.rf (s := sT)) rfl)) (fun I3 f4 => ?_)
  refine a_l0 rfl rfl rfl ?_
  refine a_l0 rfl rfl rfl ?_
  refine a_getq rfl gfX9_15_9 rfl (rfl) ?_
  refine a_l0 rfl rfl rfl ?_
  refine a_geti rfl gfX9_52_9 rfl ?_
  refine a_eSN1 rfl lX9_58 mo_X11_at (sp_X11_at rfl) rfl rfl rfl rfl ?_
  refine a_puti rfl pfX9_100_9 rfl ?_
  refine a_ren (P := Fm sT I) (Fm.tr (f4) (Fm.up (Fm.rf (s := sT)) rfl)) (fun I5 f6 => ?_)
  refine a_l0 rfl rfl rfl ?_
  refine a_l0 rfl rfl rfl ?_
  refine a_getq rfl gfX9_21_9 rfl (rfl) ?_
  refine a_l0 rfl rfl rfl ?_
  refine a_geti rfl gfX9_52_9 rfl ?_
  refine a_eSN1 rfl lX9_58 mo_X11_at (sp_X11_at rfl) rfl rfl rfl rfl ?_
  refine a_puti rfl pfX9_103_9 rfl ?_
  refine a_ren (P := Fm sT I) (Fm.tr (f6) (Fm.up (Fm.rf (s := sT)) rfl)) (fun I7 f8 => ?_)
  refine a_l0 rfl rfl rfl ?_
  refine a_l0 rfl rfl rfl ?_
  refine a_geti rfl gfX9_97_9 rfl ?_
  refine a_s rfl rfl ?_
  refine a_ic_ne rfl (fun c70 => ?_) (fun c70 => ?_)
  · refine a_s rfl rfl ?_
    refine a_putw1 (q := 0) rfl pfX9_106_9 ?_
    exact a_vret rfl rfl ⟨rfl, _, _, _, rfl, f8, WK.nul, kk2⟩
  · refine a_l0 rfl rfl rfl ?_
    refine a_geti rfl gfX9_103_9 rfl ?_
    refine a_if_lt rfl (fun c77 => ?_) (fun c77 => ?_)
    · refine a_s rfl rfl ?_
      refine a_putw1 (q := 0) rfl pfX9_106_9 ?_
      exact a_vret rfl rfl ⟨rfl, _, _, _, rfl, f8, WK.nul, kk2⟩
    · refine a_l0 rfl rfl rfl ?_
      refine a_geti rfl gfX9_103_9 rfl ?_
      refine a_gets rfl (inC4 (i := 0) rfl rfl) hw.al ?_
      refine a_lenc rfl hw.ar rfl ?_
      refine a_ic_ge rfl (fun c88 => ?_) (fun c88 => ?_)
      · refine a_s rfl rfl ?_
        refine a_putw1 (q := 0) rfl pfX9_106_9 ?_
        exact a_vret rfl rfl ⟨rfl, _, _, _, rfl, f8, WK.nul, kk2⟩
      · refine a_gets rfl (inC4 (i := 0) rfl rfl) hw.al ?_
        refine a_l0 rfl rfl rfl ?_
        refine a_geti rfl gfX9_103_9 rfl ?_
        refine a_aaldc rfl hw.ar rfl (inI_of (n := 27) (by decide) c77 c88) ?_
        refine a_goto rfl ?_
        refine a_putw1 (q := (100 + (Int32.toNatClampNeg (I7 204 8)) + 1)) rfl pfX9_106_9 ?_
        exact a_vret rfl rfl ⟨rfl, _, _, _, rfl, f8, (WK.con (inI_of (n := 27) (by decide) c77 c88).2), kk2⟩
theorem q_X9_kindOf {S : aS} {I : Nat → Nat → Int32} {L : Nat → Nat → Int64} {w1 w2 t : Nat} {x0 : Int32} : Sp S m_X9_kindOf 12 0 0 [.int x0] (hp I L w1 w2 t) (QE isI (hp I L w1 w2 t)) nX := by
  refine Sp_of ok_X9_kindOf rfl rfl ?_
  show AW S m_X9_kindOf 12 _ _ 0 0 0 [some (.int x0)] [] (hp I L w1 w2 t)
  refine a_l0 rfl rfl rfl ?_
  refine a_s rfl rfl ?_
  refine a_ic_ne rfl (fun c3 => ?_) (fun c3 => ?_)
  · refine a_l0 rfl rfl rfl ?_
    refine a_s rfl rfl ?_
    refine a_ic_lt rfl (fun c11 => ?_) (fun c11 => ?_)
    · refine a_l0 rfl rfl rfl ?_
      refine a_s rfl rfl ?_
      refine a_ic_lt rfl (fun c25 => ?_) (fun c25 => ?_)
      · refine a_s rfl rfl ?_
        exact a_iret rfl rfl ⟨⟨_, rfl⟩, rfl⟩
      · refine a_l0 rfl rfl rfl ?_
        refine a_s rfl rfl ?_
        refine a_ic_gt rfl (fun c31 => ?_) (fun c31 => ?_)
        · refine a_s rfl rfl ?_
          exact a_iret rfl rfl ⟨⟨_, rfl⟩, rfl⟩
        · refine a_s rfl rfl ?_
          refine a_goto rfl ?_
          exact a_iret rfl rfl ⟨⟨_, rfl⟩, rfl⟩
    · refine a_l0 rfl rfl rfl ?_
      refine a_s rfl rfl ?_
      refine a_ic_gt rfl (fun c17 => ?_) (fun c17 => ?_)
      · refine a_l0 rfl rfl rfl ?_
        refine a_s rfl rfl ?_
        refine a_ic_lt rfl (fun c25 => ?_) (fun c25 => ?_)
        · refine a_s rfl rfl ?_
          exact a_iret rfl rfl ⟨⟨_, rfl⟩, rfl⟩
        · refine a_l0 rfl rfl rfl ?_
          refine a_s rfl rfl ?_
          refine a_ic_gt rfl (fun c31 => ?_) (fun c31 => ?_)
          · refine a_s rfl rfl ?_
            exact a_iret rfl rfl ⟨⟨_, rfl⟩, rfl⟩
          · refine a_s rfl rfl ?_
            refine a_goto rfl ?_
            exact a_iret rfl rfl ⟨⟨_, rfl⟩, rfl⟩
      · refine a_s rfl rfl ?_
        exact a_iret rfl rfl ⟨⟨_, rfl⟩, rfl⟩
  · refine a_s rfl rfl ?_
    exact a_iret rfl rfl ⟨⟨_, rfl⟩, rfl⟩
theorem q_X9_scan_204_201_sT {S : aS} {I : Nat → Nat → Int32} {L : Nat → Nat → Int64} {w1 w2 t : Nat} (hw : WdS S) (kk1 : WK w1) (kk2 : WK w2) : Sp S m_X9_scan 19 0 0 [.ref 204, .ref 201] (hp I L w1 w2 t) (QT (Fm sT I) isV L t) nX := by
  refine Sp_of ok_X9_scan rfl rfl ?_
  show AW S m_X9_scan 19 _ _ 0 0 0 [some (.ref 204), some (.ref 201), none, none, none] [] (hp I L w1 w2 t)
  refine a_l0 rfl rfl rfl ?_
  refine a_s rfl rfl ?_
  refine a_puti rfl pfX9_24_9 rfl ?_
  refine a_ren (P := Fm sT I) (Fm.up (Fm.rf (s := sT)) rfl) (fun I1 f2 => ?_)
  refine a_s rfl rfl ?_
  refine a_s2 rfl rfl rfl rfl rfl rfl ?_
  refine a_s rfl rfl ?_
  refine a_s3 rfl rfl rfl rfl rfl rfl ?_
  refine a_cnt (j0 := 0) (fun j ls h => ∃ a0, ∃ I' w1' w2', ls = [some (.ref 204), some (.ref 201), some (.int a0), some (.int (nI j)), none] ∧ h = hp I' L w1' w2' t ∧ Fm sT I I' ∧ WK w1' ∧ WK w2') (by decide) ⟨_, _, _, _, rfl, rfl, f2, kk1, kk2⟩ ⟨rfl, rfl, rfl, rfl, trivial⟩ ?_
  rintro j9 _ _ hj9 ⟨a0_9, Ih9, w1h9, w2h9, rfl, rfl, fh9, k1h9, k2h9⟩ ih9
  refine a_l3 rfl rfl rfl ?_
  refine a_l1 rfl rfl rfl ?_
  refine a_geti rfl gfX9_28_7 rfl ?_
  refine a_ic_ge rfl (fun c14 => ?_) (fun c14 => ?_)
  · refine a_l0 rfl rfl rfl ?_
    refine a_s rfl rfl ?_
    refine a_l1 rfl rfl rfl ?_
    refine a_geti rfl gfX9_28_7 rfl ?_
    refine a_gV rfl lX9_40 mo_X9_open (q_X9_open_204_sT) rfl rfl rfl ⟨9, _, rfl, rfl, rfl⟩ rfl (fun v' h' hv => ?_)
    obtain ⟨rfl, I4, rfl, f5⟩ := hv
    replace f5 : Fm sT I I4 := Fm.tr (fh9) (f5)
    refine a_s rfl rfl ?_
    refine a_s3 rfl rfl rfl rfl rfl rfl ?_
    refine a_cnt (j0 := 0) (fun j ls h => ∃ I' w1' w2', ls = [some (.ref 204), some (.ref 201), some (.int a0_9), some (.int (nI j)), none] ∧ h = hp I' L w1' w2' t ∧ Fm sT I I' ∧ WK w1' ∧ WK w2') (by decide) ⟨_, _, _, rfl, rfl, f5, k1h9, k2h9⟩ ⟨rfl, rfl, rfl, rfl, trivial⟩ ?_
    rintro j94 _ _ hj94 ⟨Ih94, w1h94, w2h94, rfl, rfl, fh94, k1h94, k2h94⟩ ih94
    refine a_l3 rfl rfl rfl ?_
    refine a_l0 rfl rfl rfl ?_
    refine a_geti rfl gfX9_24_9 rfl ?_
    refine a_ic_ge rfl (fun c99 => ?_) (fun c99 => ?_)
    · refine a_l0 rfl rfl rfl ?_
      refine a_s rfl rfl ?_
      refine a_puti rfl pfX9_52_9 rfl ?_
      refine a_ren (P := Fm sT I) (Fm.tr (fh94) (Fm.up (Fm.rf (s := sT)) rfl)) (fun I6 f7 => ?_)
      refine a_l0 rfl rfl rfl ?_
      refine a_gV rfl lX9_55 mo_X9_next (q_X9_next_204_sT hw k1h94 k2h94) rfl rfl rfl ⟨9, _, rfl, rfl, rfl⟩ rfl (fun v' h' hv => ?_)
      obtain ⟨rfl, I9, w1_9, w2_9, rfl, f9, k1_9, k2_9⟩ := hv
      replace f9 := Fm.tr (f7) f9
      exact a_vret rfl rfl ⟨rfl, _, _, _, rfl, f9, k1_9, k2_9⟩
    · refine a_l0 rfl rfl rfl ?_
      refine a_getq rfl gfX9_21_9 rfl (rfl) ?_
      refine a_l3 rfl rfl rfl ?_
      refine a_l0 rfl rfl rfl ?_
      refine a_l1 rfl rfl rfl ?_
      refine a_l3 rfl rfl rfl ?_
      refine a_gV rfl lX9_48 mo_X9_valueOf (q_X9_valueOf_204_201 hw k1h94 k2h94) rfl rfl rfl ⟨9, _, rfl, rfl, rfl⟩ rfl (fun v' h' hv => ?_)
      obtain ⟨⟨v10, rfl⟩, rfl⟩ := hv
      refine a_eSN0 rfl lX9_44 mo_X11_setAt (sp_X11_setAt rfl) rfl rfl rfl rfl ?_
      refine a_ren (P := Fm sT I) (Fm.tr (fh94) (Fm.st (Fm.rf (s := sT)) (fun _ => rfl))) (fun I11 f12 => ?_)
      refine a_i3 rfl rfl rfl ?_
      refine a_goto rfl ?_
      exact ih94 _ _ _ _ c99 ⟨_, _, _, rfl, rfl, f12, k1h94, k2h94⟩ ⟨rfl, rfl, rfl, nS _, trivial⟩
  · refine a_l1 rfl rfl rfl ?_
    refine a_l3 rfl rfl rfl ?_
    refine a_gV rfl lX9_33 mo_X7_byteAt (q_X7_byteAt_201) rfl rfl rfl ⟨7, _, rfl, rfl, rfl⟩ rfl (fun v' h' hv => ?_)
    obtain ⟨⟨v13, rfl⟩, rfl⟩ := hv
    refine a_gS rfl lX9_37 mo_X9_kindOf (q_X9_kindOf) rfl rfl rfl rfl (fun v' h' hv => ?_)
    obtain ⟨⟨v14, rfl⟩, rfl⟩ := hv
    refine a_s4 rfl rfl rfl rfl rfl rfl ?_
    refine a_l4 rfl rfl rfl ?_
    refine a_s rfl rfl ?_
    refine a_ic_eq rfl (fun c30 => ?_) (fun c30 => ?_)
    · refine a_l0 rfl rfl rfl ?_
      refine a_l4 rfl rfl rfl ?_
      refine a_l3 rfl rfl rfl ?_
      refine a_gV rfl lX9_40 mo_X9_open (q_X9_open_204_sT) rfl rfl rfl ⟨9, _, rfl, rfl, rfl⟩ rfl (fun v' h' hv => ?_)
      obtain ⟨rfl, I16, rfl, f17⟩ := hv
      replace f17 : Fm sT I I16 := Fm.tr (fh9) (f17)
      refine a_l4 rfl rfl rfl ?_
      refine a_s rfl rfl ?_
      refine a_ic_eq rfl (fun c55 => ?_) (fun c55 => ?_)
      · refine a_l4 rfl rfl rfl ?_
        refine a_s2 rfl rfl rfl rfl rfl rfl ?_
        refine a_i3 rfl rfl rfl ?_
        refine a_goto rfl ?_
        exact ih9 _ _ _ _ c14 ⟨_, _, _, _, rfl, rfl, f17, k1h9, k2h9⟩ ⟨rfl, rfl, rfl, nS _, trivial⟩
      · refine a_l0 rfl rfl rfl ?_
        refine a_getq rfl gfX9_18_9 rfl (rfl) ?_
        refine a_l0 rfl rfl rfl ?_
        refine a_geti rfl gfX9_24_9 rfl ?_
        refine a_s rfl rfl ?_
        refine a_s rfl rfl ?_
        refine a_l3 rfl rfl rfl ?_
        refine a_s rfl rfl ?_
        refine a_s rfl rfl ?_
        refine a_eSN0 rfl lX9_44 mo_X11_setAt (sp_X11_setAt rfl) rfl rfl rfl rfl ?_
        refine a_ren (P := Fm sT I) (Fm.tr (f17) (Fm.st (Fm.rf (s := sT)) (fun _ => rfl))) (fun I18 f19 => ?_)
        refine a_l4 rfl rfl rfl ?_
        refine a_s2 rfl rfl rfl rfl rfl rfl ?_
        refine a_i3 rfl rfl rfl ?_
        refine a_goto rfl ?_
        exact ih9 _ _ _ _ c14 ⟨_, _, _, _, rfl, rfl, f19, k1h9, k2h9⟩ ⟨rfl, rfl, rfl, nS _, trivial⟩
    · refine a_l4 rfl rfl rfl ?_
      refine a_s rfl rfl ?_
      refine a_ic_eq rfl (fun c36 => ?_) (fun c36 => ?_)
      · refine a_l4 rfl rfl rfl ?_
        refine a_s rfl rfl ?_
        refine a_ic_eq rfl (fun c55 => ?_) (fun c55 => ?_)
        · refine a_l4 rfl rfl rfl ?_
          refine a_s2 rfl rfl rfl rfl rfl rfl ?_
          refine a_i3 rfl rfl rfl ?_
          refine a_goto rfl ?_
          exact ih9 _ _ _ _ c14 ⟨_, _, _, _, rfl, rfl, fh9, k1h9, k2h9⟩ ⟨rfl, rfl, rfl, nS _, trivial⟩
        · refine a_l0 rfl rfl rfl ?_
          refine a_getq rfl gfX9_18_9 rfl (rfl) ?_
          refine a_l0 rfl rfl rfl ?_
          refine a_geti rfl gfX9_24_9 rfl ?_
          refine a_s rfl rfl ?_
          refine a_s rfl rfl ?_
          refine a_l3 rfl rfl rfl ?_
          refine a_s rfl rfl ?_
          refine a_s rfl rfl ?_
          refine a_eSN0 rfl lX9_44 mo_X11_setAt (sp_X11_setAt rfl) rfl rfl rfl rfl ?_
          refine a_ren (P := Fm sT I) (Fm.tr (fh9) (Fm.st (Fm.rf (s := sT)) (fun _ => rfl))) (fun I20 f21 => ?_)
          refine a_l4 rfl rfl rfl ?_
          refine a_s2 rfl rfl rfl rfl rfl rfl ?_
          refine a_i3 rfl rfl rfl ?_
          refine a_goto rfl ?_
          exact ih9 _ _ _ _ c14 ⟨_, _, _, _, rfl, rfl, f21, k1h9, k2h9⟩ ⟨rfl, rfl, rfl, nS _, trivial⟩
      · refine a_l4 rfl rfl rfl ?_
        refine a_l2 rfl rfl rfl ?_
        refine a_ic_eq rfl (fun c42 => ?_) (fun c42 => ?_)
        · refine a_l4 rfl rfl rfl ?_
          refine a_s rfl rfl ?_
          refine a_ic_eq rfl (fun c55 => ?_) (fun c55 => ?_)
          · refine a_l4 rfl rfl rfl ?_
            refine a_s2 rfl rfl rfl rfl rfl rfl ?_
            refine a_i3 rfl rfl rfl ?_
            refine a_goto rfl ?_
            exact ih9 _ _ _ _ c14 ⟨_, _, _, _, rfl, rfl, fh9, k1h9, k2h9⟩ ⟨rfl, rfl, rfl, nS _, trivial⟩
          · refine a_l0 rfl rfl rfl ?_
            refine a_getq rfl gfX9_18_9 rfl (rfl) ?_
            refine a_l0 rfl rfl rfl ?_
            refine a_geti rfl gfX9_24_9 rfl ?_
            refine a_s rfl rfl ?_
            refine a_s rfl rfl ?_
            refine a_l3 rfl rfl rfl ?_
            refine a_s rfl rfl ?_
            refine a_s rfl rfl ?_
            refine a_eSN0 rfl lX9_44 mo_X11_setAt (sp_X11_setAt rfl) rfl rfl rfl rfl ?_
            refine a_ren (P := Fm sT I) (Fm.tr (fh9) (Fm.st (Fm.rf (s := sT)) (fun _ => rfl))) (fun I22 f23 => ?_)
            refine a_l4 rfl rfl rfl ?_
            refine a_s2 rfl rfl rfl rfl rfl rfl ?_
            refine a_i3 rfl rfl rfl ?_
            refine a_goto rfl ?_
            exact ih9 _ _ _ _ c14 ⟨_, _, _, _, rfl, rfl, f23, k1h9, k2h9⟩ ⟨rfl, rfl, rfl, nS _, trivial⟩
        · refine a_l0 rfl rfl rfl ?_
          refine a_l4 rfl rfl rfl ?_
          refine a_l3 rfl rfl rfl ?_
          refine a_gV rfl lX9_40 mo_X9_open (q_X9_open_204_sT) rfl rfl rfl ⟨9, _, rfl, rfl, rfl⟩ rfl (fun v' h' hv => ?_)
          obtain ⟨rfl, I25, rfl, f26⟩ := hv
          replace f26 : Fm sT I I25 := Fm.tr (fh9) (f26)
          refine a_l4 rfl rfl rfl ?_
          refine a_s rfl rfl ?_
          refine a_ic_eq rfl (fun c55 => ?_) (fun c55 => ?_)
          · refine a_l4 rfl rfl rfl ?_
            refine a_s2 rfl rfl rfl rfl rfl rfl ?_
            refine a_i3 rfl rfl rfl ?_
            refine a_goto rfl ?_
            exact ih9 _ _ _ _ c14 ⟨_, _, _, _, rfl, rfl, f26, k1h9, k2h9⟩ ⟨rfl, rfl, rfl, nS _, trivial⟩
          · refine a_l0 rfl rfl rfl ?_
            refine a_getq rfl gfX9_18_9 rfl (rfl) ?_
            refine a_l0 rfl rfl rfl ?_
            refine a_geti rfl gfX9_24_9 rfl ?_
            refine a_s rfl rfl ?_
            refine a_s rfl rfl ?_
            refine a_l3 rfl rfl rfl ?_
            refine a_s rfl rfl ?_
            refine a_s rfl rfl ?_
            refine a_eSN0 rfl lX9_44 mo_X11_setAt (sp_X11_setAt rfl) rfl rfl rfl rfl ?_
            refine a_ren (P := Fm sT I) (Fm.tr (f26) (Fm.st (Fm.rf (s := sT)) (fun _ => rfl))) (fun I27 f28 => ?_)
            refine a_l4 rfl rfl rfl ?_
            refine a_s2 rfl rfl rfl rfl rfl rfl ?_
            refine a_i3 rfl rfl rfl ?_
            refine a_goto rfl ?_
            exact ih9 _ _ _ _ c14 ⟨_, _, _, _, rfl, rfl, f28, k1h9, k2h9⟩ ⟨rfl, rfl, rfl, nS _, trivial⟩
theorem q_X9_isEnd_204 {S : aS} {I : Nat → Nat → Int32} {L : Nat → Nat → Int64} {w1 w2 t : Nat} : Sp S m_X9_isEnd 12 0 0 [.ref 204] (hp I L w1 w2 t) (QE isZ (hp I L w1 w2 t)) nX := by
  refine Sp_of ok_X9_isEnd rfl rfl ?_
  show AW S m_X9_isEnd 12 _ _ 0 0 0 [some (.ref 204)] [] (hp I L w1 w2 t)
  refine a_l0 rfl rfl rfl ?_
  refine a_geti rfl gfX9_97_9 rfl ?_
  refine a_if_ne rfl (fun c4 => ?_) (fun c4 => ?_)
  · refine a_s rfl rfl ?_
    exact a_zret rfl rfl rfl ⟨⟨false, rfl⟩, rfl⟩
  · refine a_s rfl rfl ?_
    refine a_goto rfl ?_
    exact a_zret rfl rfl rfl ⟨⟨true, rfl⟩, rfl⟩
theorem q_X9_isSign_204 {S : aS} {I : Nat → Nat → Int32} {L : Nat → Nat → Int64} {w1 w2 t : Nat} {x1 : Int32} : Sp S m_X9_isSign 12 0 0 [.ref 204, .int x1] (hp I L w1 w2 t) (QE isZ (hp I L w1 w2 t)) nX := by
  refine Sp_of ok_X9_isSign rfl rfl ?_
  show AW S m_X9_isSign 12 _ _ 0 0 0 [some (.ref 204), some (.int x1)] [] (hp I L w1 w2 t)
  refine a_l0 rfl rfl rfl ?_
  refine a_geti rfl gfX9_97_9 rfl ?_
  refine a_s rfl rfl ?_
  refine a_ic_ne rfl (fun c5 => ?_) (fun c5 => ?_)
  · refine a_s rfl rfl ?_
    exact a_zret rfl rfl rfl ⟨⟨false, rfl⟩, rfl⟩
  · refine a_l0 rfl rfl rfl ?_
    refine a_geti rfl gfX9_103_9 rfl ?_
    refine a_l1 rfl rfl rfl ?_
    refine a_ic_ne rfl (fun c13 => ?_) (fun c13 => ?_)
    · refine a_s rfl rfl ?_
      exact a_zret rfl rfl rfl ⟨⟨false, rfl⟩, rfl⟩
    · refine a_s rfl rfl ?_
      refine a_goto rfl ?_
      exact a_zret rfl rfl rfl ⟨⟨true, rfl⟩, rfl⟩
theorem q_X9_takeSign_204_sT {S : aS} {I : Nat → Nat → Int32} {L : Nat → Nat → Int64} {w1 w2 t : Nat} {x1 : Int32} (hw : WdS S) (kk1 : WK w1) (kk2 : WK w2) : Sp S m_X9_takeSign 14 0 0 [.ref 204, .int x1] (hp I L w1 w2 t) (QT (Fm sT I) isZ L t) nX := by
  refine Sp_of ok_X9_takeSign rfl rfl ?_
  show AW S m_X9_takeSign 14 _ _ 0 0 0 [some (.ref 204), some (.int x1), none] [] (hp I L w1 w2 t)
  refine a_l0 rfl rfl rfl ?_
  refine a_l1 rfl rfl rfl ?_
  refine a_gV rfl lX9_110 mo_X9_isSign (q_X9_isSign_204) rfl rfl rfl ⟨9, _, rfl, rfl, rfl⟩ rfl (fun v' h' hv => ?_)
  obtain ⟨⟨v1, rfl⟩, rfl⟩ := hv
  refine a_s2 rfl rfl rfl rfl rfl rfl ?_
  refine a_l2 rfl rfl rfl ?_
  refine a_if_eq rfl (fun c7 => ?_) (fun c7 => ?_)
  · refine a_l2 rfl rfl rfl ?_
    exact a_zret rfl rfl (bI_nar _) ⟨⟨_, rfl⟩, _, _, _, rfl, Fm.rf, kk1, kk2⟩
  · refine a_l0 rfl rfl rfl ?_
    refine a_gV rfl lX9_55 mo_X9_next (q_X9_next_204_sT hw kk1 kk2) rfl rfl rfl ⟨9, _, rfl, rfl, rfl⟩ rfl (fun v' h' hv => ?_)
    obtain ⟨rfl, I3, w1_3, w2_3, rfl, f3, k1_3, k2_3⟩ := hv
    refine a_l2 rfl rfl rfl ?_
    exact a_zret rfl rfl (bI_nar _) ⟨⟨_, rfl⟩, _, _, _, rfl, f3, k1_3, k2_3⟩
theorem q_X9_takeWord_204_sT {S : aS} {I : Nat → Nat → Int32} {L : Nat → Nat → Int64} {w1 w2 t : Nat} (hw : WdS S) (kk1 : WK w1) (kk2 : WK w2) {k1 : Nat} (hk1 : k1 < 27) : Sp S m_X9_takeWord 14 0 0 [.ref 204, .ref (100 + k1)] (hp I L w1 w2 t) (QT (Fm sT I) isZ L t) nX := by
  refine Sp_of ok_X9_takeWord rfl rfl ?_
  show AW S m_X9_takeWord 14 _ _ 0 0 0 [some (.ref 204), some (.ref (100 + k1)), none] [] (hp I L w1 w2 t)
  refine a_l0 rfl rfl rfl ?_
  refine a_getr rfl gfX9_106_9 rfl ?_
  refine a_pop1 (show _ = rv w1 :: _ from rfl) ?_
  refine a_l1 rfl rfl rfl ?_
  refine a_acmp_ne (rx := w1) (ry := 100 + k1 + 1) rfl (kk1.ac hw) (WK.ck hw hk1) (fun c5 => ?_) (fun c5 => ?_)
  · refine a_s rfl rfl ?_
    refine a_s2 rfl rfl rfl rfl rfl rfl ?_
    refine a_l2 rfl rfl rfl ?_
    refine a_if_eq rfl (fun c15 => ?_) (fun c15 => ?_)
    · refine a_l2 rfl rfl rfl ?_
      exact a_zret rfl rfl rfl ⟨⟨false, rfl⟩, _, _, _, rfl, Fm.rf, kk1, kk2⟩
    · refine a_l0 rfl rfl rfl ?_
      refine a_gV rfl lX9_55 mo_X9_next (q_X9_next_204_sT hw kk1 kk2) rfl rfl rfl ⟨9, _, rfl, rfl, rfl⟩ rfl (fun v' h' hv => ?_)
      obtain ⟨rfl, I2, w1_2, w2_2, rfl, f2, k1_2, k2_2⟩ := hv
      refine a_l2 rfl rfl rfl ?_
      exact a_zret rfl rfl rfl ⟨⟨false, rfl⟩, _, _, _, rfl, f2, k1_2, k2_2⟩
  · refine a_s rfl rfl ?_
    refine a_goto rfl ?_
    refine a_s2 rfl rfl rfl rfl rfl rfl ?_
    refine a_l2 rfl rfl rfl ?_
    refine a_if_eq rfl (fun c15 => ?_) (fun c15 => ?_)
    · refine a_l2 rfl rfl rfl ?_
      exact a_zret rfl rfl rfl ⟨⟨true, rfl⟩, _, _, _, rfl, Fm.rf, kk1, kk2⟩
    · refine a_l0 rfl rfl rfl ?_
      refine a_gV rfl lX9_55 mo_X9_next (q_X9_next_204_sT hw kk1 kk2) rfl rfl rfl ⟨9, _, rfl, rfl, rfl⟩ rfl (fun v' h' hv => ?_)
      obtain ⟨rfl, I4, w1_4, w2_4, rfl, f4, k1_4, k2_4⟩ := hv
      refine a_l2 rfl rfl rfl ?_
      exact a_zret rfl rfl rfl ⟨⟨true, rfl⟩, _, _, _, rfl, f4, k1_4, k2_4⟩
theorem q_X9_takeNumber_204_sT {S : aS} {I : Nat → Nat → Int32} {L : Nat → Nat → Int64} {w1 w2 t : Nat} {x1 x2 : Int32} (hw : WdS S) (kk1 : WK w1) (kk2 : WK w2) : Sp S m_X9_takeNumber 14 0 0 [.ref 204, .int x1, .int x2] (hp I L w1 w2 t) (QT (Fm sT I) isI L t) nX := by
  refine Sp_of ok_X9_takeNumber rfl rfl ?_
  show AW S m_X9_takeNumber 14 _ _ 0 0 0 [some (.ref 204), some (.int x1), some (.int x2), none] [] (hp I L w1 w2 t)
  refine a_l0 rfl rfl rfl ?_
  refine a_geti rfl gfX9_103_9 rfl ?_
  refine a_s3 rfl rfl rfl rfl rfl rfl ?_
  refine a_l0 rfl rfl rfl ?_
  refine a_geti rfl gfX9_97_9 rfl ?_
  refine a_s rfl rfl ?_
  refine a_ic_ne rfl (fun c10 => ?_) (fun c10 => ?_)
  · refine a_s rfl rfl ?_
    exact a_iret rfl rfl ⟨⟨_, rfl⟩, _, _, _, rfl, Fm.rf, kk1, kk2⟩
  · refine a_l3 rfl rfl rfl ?_
    refine a_l1 rfl rfl rfl ?_
    refine a_ic_lt rfl (fun c15 => ?_) (fun c15 => ?_)
    · refine a_s rfl rfl ?_
      exact a_iret rfl rfl ⟨⟨_, rfl⟩, _, _, _, rfl, Fm.rf, kk1, kk2⟩
    · refine a_l3 rfl rfl rfl ?_
      refine a_l2 rfl rfl rfl ?_
      refine a_ic_le rfl (fun c20 => ?_) (fun c20 => ?_)
      · refine a_l0 rfl rfl rfl ?_
        refine a_gV rfl lX9_55 mo_X9_next (q_X9_next_204_sT hw kk1 kk2) rfl rfl rfl ⟨9, _, rfl, rfl, rfl⟩ rfl (fun v' h' hv => ?_)
        obtain ⟨rfl, I2, w1_2, w2_2, rfl, f2, k1_2, k2_2⟩ := hv
        refine a_l3 rfl rfl rfl ?_
        exact a_iret rfl rfl ⟨⟨_, rfl⟩, _, _, _, rfl, f2, k1_2, k2_2⟩
      · refine a_s rfl rfl ?_
        exact a_iret rfl rfl ⟨⟨_, rfl⟩, _, _, _, rfl, Fm.rf, kk1, kk2⟩
theorem q_X9_isText_221_201 {S : aS} {I : Nat → Nat → Int32} {L : Nat → Nat → Int64} {w1 w2 t : Nat} {x2 : Int32} (hw : WdS S) (kk1 : WK w1) (kk2 : WK w2) {k3 : Nat} (hk3 : k3 < 27) : Sp S m_X9_isText 16 0 0 [.ref 221, .ref 201, .int x2, .ref (130 + k3)] (hp I L w1 w2 t) (QE isZ (hp I L w1 w2 t)) nX := by
  refine Sp_of ok_X9_isText rfl rfl ?_
  show AW S m_X9_isText 16 _ _ 0 0 0 [some (.ref 221), some (.ref 201), some (.int x2), some (.ref (130 + k3)), none, none] [] (hp I L w1 w2 t)
  refine a_l0 rfl rfl rfl ?_
  refine a_getq rfl gfX9_15_9 rfl (rfl) ?_
  refine a_l2 rfl rfl rfl ?_
  refine a_eSN1 rfl lX9_58 mo_X11_at (sp_X11_at rfl) rfl rfl rfl rfl ?_
  refine a_s4 rfl rfl rfl rfl rfl rfl ?_
  refine a_l0 rfl rfl rfl ?_
  refine a_getq rfl gfX9_18_9 rfl (rfl) ?_
  refine a_l2 rfl rfl rfl ?_
  refine a_eSN1 rfl lX9_58 mo_X11_at (sp_X11_at rfl) rfl rfl rfl rfl ?_
  refine a_l4 rfl rfl rfl ?_
  refine a_s rfl rfl ?_
  refine a_l3 rfl rfl rfl ?_
  refine a_eK1 rfl lX9_82 mo_J0_length_8abf5 (q_strlen hw hk3) rfl rfl rfl (hw.so hk3) rfl ?_
  refine a_ic_eq rfl (fun c25 => ?_) (fun c25 => ?_)
  · refine a_s rfl rfl ?_
    refine a_s5 rfl rfl rfl rfl rfl rfl ?_
    refine a_cnt (j0 := 0) (fun j ls h => ∃ a0, ls = [some (.ref 221), some (.ref 201), some (.int x2), some (.ref (130 + k3)), some (.int a0), some (.int (nI j))] ∧ h = hp I L w1 w2 t) (by decide) ⟨_, rfl, rfl⟩ ⟨rfl, rfl, rfl, rfl, rfl, rfl, trivial⟩ ?_
    rintro j33 _ _ hj33 ⟨a0_33, rfl, rfl⟩ ih33
    refine a_l5 rfl rfl rfl ?_
    refine a_l3 rfl rfl rfl ?_
    refine a_eK1 rfl lX9_82 mo_J0_length_8abf5 (q_strlen hw hk3) rfl rfl rfl (hw.so hk3) rfl ?_
    refine a_ic_ge rfl (fun c39 => ?_) (fun c39 => ?_)
    · refine a_s rfl rfl ?_
      exact a_zret rfl rfl rfl ⟨⟨true, rfl⟩, rfl⟩
    · refine a_l1 rfl rfl rfl ?_
      refine a_l4 rfl rfl rfl ?_
      refine a_l5 rfl rfl rfl ?_
      refine a_s rfl rfl ?_
      refine a_gV rfl lX9_33 mo_X7_byteAt (q_X7_byteAt_201) rfl rfl rfl ⟨7, _, rfl, rfl, rfl⟩ rfl (fun v' h' hv => ?_)
      obtain ⟨⟨v1, rfl⟩, rfl⟩ := hv
      refine a_l3 rfl rfl rfl ?_
      refine a_l5 rfl rfl rfl ?_
      refine a_eK1 rfl lX9_87 mo_J0_charAt_5068e (q_charAt hw hk3 (nI_lt_of c39 hj33 (wLen_lt _ hk3))) rfl rfl rfl (hw.so hk3) rfl ?_
      refine a_ic_eq rfl (fun c57 => ?_) (fun c57 => ?_)
      · refine a_i5 rfl rfl rfl ?_
        refine a_goto rfl ?_
        exact ih33 _ _ _ _ c39 ⟨_, rfl, rfl⟩ ⟨rfl, rfl, rfl, rfl, rfl, nS _, trivial⟩
      · refine a_s rfl rfl ?_
        exact a_zret rfl rfl rfl ⟨⟨false, rfl⟩, rfl⟩
  · refine a_s rfl rfl ?_
    exact a_zret rfl rfl rfl ⟨⟨false, rfl⟩, rfl⟩
theorem q_X9_wordOf_221_201 {S : aS} {I : Nat → Nat → Int32} {L : Nat → Nat → Int64} {w1 w2 t : Nat} {x2 : Int32} (hw : WdS S) (kk1 : WK w1) (kk2 : WK w2) : Sp S m_X9_wordOf 17 0 0 [.ref 221, .ref 201, .int x2] (hp I L w1 w2 t) (QE isI (hp I L w1 w2 t)) nX := by
  refine Sp_of ok_X9_wordOf rfl rfl ?_
  show AW S m_X9_wordOf 17 _ _ 0 0 0 [some (.ref 221), some (.ref 201), some (.int x2), none, none] [] (hp I L w1 w2 t)
  refine a_s rfl rfl ?_
  refine a_s3 rfl rfl rfl rfl rfl rfl ?_
  refine a_cnt (j0 := 0) (fun j ls h => ls = [some (.ref 221), some (.ref 201), some (.int x2), some (.int (nI j)), none] ∧ h = hp I L w1 w2 t) (by decide) ⟨rfl, rfl⟩ ⟨rfl, rfl, rfl, rfl, trivial⟩ ?_
  rintro j2 _ _ hj2 ⟨rfl, rfl⟩ ih2
  refine a_l3 rfl rfl rfl ?_
  refine a_gets rfl (inC4 (i := 0) rfl rfl) hw.al ?_
  refine a_lenc rfl hw.ar rfl ?_
  refine a_ic_ge rfl (fun c7 => ?_) (fun c7 => ?_)
  · refine a_s rfl rfl ?_
    exact a_iret rfl rfl ⟨⟨_, rfl⟩, rfl⟩
  · refine a_gets rfl (inC4 (i := 0) rfl rfl) hw.al ?_
    refine a_l3 rfl rfl rfl ?_
    refine a_aaldc rfl hw.ar rfl (inI_nI (nI_lt_of (b := 27) c7 hj2 (by decide)) (by decide)) ?_
    refine a_s4 rfl rfl rfl rfl rfl rfl ?_
    refine a_l4 rfl rfl rfl ?_
    refine a_ifnull_f rfl ?_
    refine a_l0 rfl rfl rfl ?_
    refine a_l1 rfl rfl rfl ?_
    refine a_l2 rfl rfl rfl ?_
    refine a_l4 rfl rfl rfl ?_
    refine a_getc rfl (inC10 (i := 50) rfl rfl) (hw.tx (inI_nI (n := 27) (nI_lt_of (b := 27) c7 hj2 (by decide)) (by decide)).2) ?_
    refine a_gV rfl lX9_78 mo_X9_isText (q_X9_isText_221_201 hw kk1 kk2 (inI_nI (n := 27) (nI_lt_of (b := 27) c7 hj2 (by decide)) (by decide)).2) rfl rfl rfl ⟨9, _, rfl, rfl, rfl⟩ rfl (fun v' h' hv => ?_)
    obtain ⟨⟨v1, rfl⟩, rfl⟩ := hv
    refine a_if_eq rfl (fun c33 => ?_) (fun c33 => ?_)
    · refine a_i3 rfl rfl rfl ?_
      refine a_goto rfl ?_
      exact ih2 _ _ _ _ c7 ⟨rfl, rfl⟩ ⟨rfl, rfl, rfl, nS _, trivial⟩
    · refine a_l3 rfl rfl rfl ?_
      exact a_iret rfl rfl ⟨⟨_, rfl⟩, rfl⟩
theorem q_X9_numberOf_221_201 {S : aS} {I : Nat → Nat → Int32} {L : Nat → Nat → Int64} {w1 w2 t : Nat} {x2 : Int32} : Sp S m_X9_numberOf 13 0 0 [.ref 221, .ref 201, .int x2] (hp I L w1 w2 t) (QE isI (hp I L w1 w2 t)) nX := by
  refine Sp_of ok_X9_numberOf rfl rfl ?_
  show AW S m_X9_numberOf 13 _ _ 0 0 0 [some (.ref 221), some (.ref 201), some (.int x2), none, none, none, none] [] (hp I L w1 w2 t)
  refine a_l0 rfl rfl rfl ?_
  refine a_getq rfl gfX9_15_9 rfl (rfl) ?_
  refine a_l2 rfl rfl rfl ?_
  refine a_eSN1 rfl lX9_58 mo_X11_at (sp_X11_at rfl) rfl rfl rfl rfl ?_
  refine a_s3 rfl rfl rfl rfl rfl rfl ?_
  refine a_l0 rfl rfl rfl ?_
  refine a_getq rfl gfX9_18_9 rfl (rfl) ?_
  refine a_l2 rfl rfl rfl ?_
  refine a_eSN1 rfl lX9_58 mo_X11_at (sp_X11_at rfl) rfl rfl rfl rfl ?_
  refine a_s4 rfl rfl rfl rfl rfl rfl ?_
  refine a_l4 rfl rfl rfl ?_
  refine a_l3 rfl rfl rfl ?_
  refine a_s rfl rfl ?_
  refine a_s rfl rfl ?_
  refine a_ic_le rfl (fun c24 => ?_) (fun c24 => ?_)
  · refine a_s rfl rfl ?_
    refine a_s5 rfl rfl rfl rfl rfl rfl ?_
    refine a_l3 rfl rfl rfl ?_
    refine a_s6 rfl rfl rfl rfl rfl rfl ?_
    refine a_cntI (fun y ls h => ∃ a0, ∃ a1, ∃ a2, ls = [some (.ref 221), some (.ref 201), some (.int x2), some (.int a0), some (.int a1), some (.int a2), some (.int y)] ∧ h = hp I L w1 w2 t) ⟨_, _, _, rfl, rfl⟩ ⟨rfl, rfl, rfl, rfl, rfl, rfl, rfl, trivial⟩ ?_
    rintro y35 _ _ ⟨a0_35, a1_35, a2_35, rfl, rfl⟩ ih35
    refine a_l6 rfl rfl rfl ?_
    refine a_l4 rfl rfl rfl ?_
    refine a_ic_ge rfl (fun c39 => ?_) (fun c39 => ?_)
    · refine a_l5 rfl rfl rfl ?_
      exact a_iret rfl rfl ⟨⟨_, rfl⟩, rfl⟩
    · refine a_l5 rfl rfl rfl ?_
      refine a_s rfl rfl ?_
      refine a_s rfl rfl ?_
      refine a_l1 rfl rfl rfl ?_
      refine a_l6 rfl rfl rfl ?_
      refine a_gV rfl lX9_33 mo_X7_byteAt (q_X7_byteAt_201) rfl rfl rfl ⟨7, _, rfl, rfl, rfl⟩ rfl (fun v' h' hv => ?_)
      obtain ⟨⟨v1, rfl⟩, rfl⟩ := hv
      refine a_s rfl rfl ?_
      refine a_s rfl rfl ?_
      refine a_s rfl rfl ?_
      refine a_s5 rfl rfl rfl rfl rfl rfl ?_
      refine a_i6 rfl rfl rfl ?_
      refine a_goto rfl ?_
      exact ih35 _ _ _ _ c39 ⟨_, _, _, rfl, rfl⟩ ⟨rfl, rfl, rfl, rfl, rfl, rfl, rfl, trivial⟩
  · refine a_s rfl rfl ?_
    exact a_iret rfl rfl ⟨⟨_, rfl⟩, rfl⟩
theorem q_X9_valueOf_221_201 {S : aS} {I : Nat → Nat → Int32} {L : Nat → Nat → Int64} {w1 w2 t : Nat} {x2 : Int32} (hw : WdS S) (kk1 : WK w1) (kk2 : WK w2) : Sp S m_X9_valueOf 18 0 0 [.ref 221, .ref 201, .int x2] (hp I L w1 w2 t) (QE isI (hp I L w1 w2 t)) nX := by
  refine Sp_of ok_X9_valueOf rfl rfl ?_
  show AW S m_X9_valueOf 18 _ _ 0 0 0 [some (.ref 221), some (.ref 201), some (.int x2)] [] (hp I L w1 w2 t)
  refine a_l0 rfl rfl rfl ?_
  refine a_getq rfl gfX9_9_9 rfl (rfl) ?_
  refine a_l2 rfl rfl rfl ?_
  refine a_eSN1 rfl lX9_58 mo_X11_at (sp_X11_at rfl) rfl rfl rfl rfl ?_
  refine a_lsw2 rfl (by decide) (by decide) (fun hx => ?_) (fun hx => ?_) (fun hx hx2 => ?_)
  · refine a_pc (pc' := 36) (by decide) ?_
    refine a_l0 rfl rfl rfl ?_
    refine a_l1 rfl rfl rfl ?_
    refine a_l2 rfl rfl rfl ?_
    refine a_gV rfl lX9_62 mo_X9_wordOf (q_X9_wordOf_221_201 hw kk1 kk2) rfl rfl rfl ⟨9, _, rfl, rfl, rfl⟩ rfl (fun v' h' hv => ?_)
    obtain ⟨⟨v1, rfl⟩, rfl⟩ := hv
    exact a_iret rfl rfl ⟨⟨_, rfl⟩, rfl⟩
  · refine a_pc (pc' := 43) (by decide) ?_
    refine a_l0 rfl rfl rfl ?_
    refine a_l1 rfl rfl rfl ?_
    refine a_l2 rfl rfl rfl ?_
    refine a_gV rfl lX9_65 mo_X9_numberOf (q_X9_numberOf_221_201) rfl rfl rfl ⟨9, _, rfl, rfl, rfl⟩ rfl (fun v' h' hv => ?_)
    obtain ⟨⟨v2, rfl⟩, rfl⟩ := hv
    exact a_iret rfl rfl ⟨⟨_, rfl⟩, rfl⟩
  · refine a_pc (pc' := 50) (by decide) ?_
    refine a_l1 rfl rfl rfl ?_
    refine a_l0 rfl rfl rfl ?_
    refine a_getq rfl gfX9_15_9 rfl (rfl) ?_
    refine a_l2 rfl rfl rfl ?_
    refine a_eSN1 rfl lX9_58 mo_X11_at (sp_X11_at rfl) rfl rfl rfl rfl ?_
    refine a_gV rfl lX9_33 mo_X7_byteAt (q_X7_byteAt_201) rfl rfl rfl ⟨7, _, rfl, rfl, rfl⟩ rfl (fun v' h' hv => ?_)
    obtain ⟨⟨v3, rfl⟩, rfl⟩ := hv
    exact a_iret rfl rfl ⟨⟨_, rfl⟩, rfl⟩
theorem q_X9_open_221_sT {S : aS} {I : Nat → Nat → Int32} {L : Nat → Nat → Int64} {w1 w2 t : Nat} {x1 x2 : Int32} : Sp S m_X9_open 13 0 0 [.ref 221, .int x1, .int x2] (hp I L w1 w2 t) (QR (Fm sT I) isV L w1 w2 t) nX := by
  refine Sp_of ok_X9_open rfl rfl ?_
  show AW S m_X9_open 13 _ _ 0 0 0 [some (.ref 221), some (.int x1), some (.int x2)] [] (hp I L w1 w2 t)
  refine a_l0 rfl rfl rfl ?_
  refine a_getq rfl gfX9_9_9 rfl (rfl) ?_
  refine a_l0 rfl rfl rfl ?_
  refine a_geti rfl gfX9_24_9 rfl ?_
  refine a_l1 rfl rfl rfl ?_
  refine a_eSN0 rfl lX9_44 mo_X11_setAt (sp_X11_setAt rfl) rfl rfl rfl rfl ?_
  refine a_ren (P := Fm sT I) (Fm.st (Fm.rf (s := sT)) (fun _ => rfl)) (fun I1 f2 => ?_)
  refine a_l0 rfl rfl rfl ?_
  refine a_getq rfl gfX9_15_9 rfl (rfl) ?_
  refine a_l0 rfl rfl rfl ?_
  refine a_geti rfl gfX9_24_9 rfl ?_
  refine a_l2 rfl rfl rfl ?_
  refine a_eSN0 rfl lX9_44 mo_X11_setAt (sp_X11_setAt rfl) rfl rfl rfl rfl ?_
  refine a_ren (P := Fm sT I) (Fm.tr (f2) (Fm.st (Fm.rf (s := sT)) (fun _ => rfl))) (fun I3 f4 => ?_)
  refine a_l0 rfl rfl rfl ?_
  refine a_getq rfl gfX9_18_9 rfl (rfl) ?_
  refine a_l0 rfl rfl rfl ?_
  refine a_geti rfl gfX9_24_9 rfl ?_
  refine a_l2 rfl rfl rfl ?_
  refine a_eSN0 rfl lX9_44 mo_X11_setAt (sp_X11_setAt rfl) rfl rfl rfl rfl ?_
  refine a_ren (P := Fm sT I) (Fm.tr (f4) (Fm.st (Fm.rf (s := sT)) (fun _ => rfl))) (fun I5 f6 => ?_)
  refine a_l0 rfl rfl rfl ?_
  refine a_s rfl rfl ?_
  refine a_geti rfl gfX9_24_9 rfl ?_
  refine a_s rfl rfl ?_
  refine a_s rfl rfl ?_
  refine a_puti rfl pfX9_24_9 rfl ?_
  refine a_ren (P := Fm sT I) (Fm.tr (f6) (Fm.up (Fm.rf (s := sT)) rfl)) (fun I7 f8 => ?_)
  exact a_vret rfl rfl ⟨rfl, _, rfl, f8⟩
theorem q_X9_next_221_sT {S : aS} {I : Nat → Nat → Int32} {L : Nat → Nat → Int64} {w1 w2 t : Nat} (hw : WdS S) (kk1 : WK w1) (kk2 : WK w2) : Sp S m_X9_next 13 0 0 [.ref 221] (hp I L w1 w2 t) (QT (Fm sT I) isV L t) nX := by
  refine Sp_of ok_X9_next rfl rfl ?_
  show AW S m_X9_next 13 _ _ 0 0 0 [some (.ref 221)] [] (hp I L w1 w2 t)
  refine a_l0 rfl rfl rfl ?_
  refine a_l0 rfl rfl rfl ?_
  refine a_geti rfl gfX9_52_9 rfl ?_
  refine a_s rfl rfl ?_
  refine a_s rfl rfl ?_
  refine a_l0 rfl rfl rfl ?_
  refine a_geti rfl gfX9_24_9 rfl ?_
  refine a_s rfl rfl ?_
  refine a_s rfl rfl ?_
  refine a_min rfl lX9_91 mj_min rfl rfl ?_
  refine a_puti rfl pfX9_52_9 rfl ?_
  refine a_ren (P := Fm sT I) (Fm.up (Fm.rf (s := sT)) rfl) (fun I1 f2 => ?_)
  refine a_l0 rfl rfl rfl ?_
  refine a_l0 rfl rfl rfl ?_
  refine a_getq rfl gfX9_9_9 rfl (rfl) ?_
  refine a_l0 rfl rfl rfl ?_
  refine a_geti rfl gfX9_52_9 rfl ?_
  refine a_eSN1 rfl lX9_58 mo_X11_at (sp_X11_at rfl) rfl rfl rfl rfl ?_
  refine a_puti rfl pfX9_97_9 rfl ?_
  refine a_ren (P := Fm sT I) (Fm.tr (f2) (Fm.up (Fm.rf (s := sT)) rfl)) (fun I3 f4 => ?_)
  refine a_l0 rfl rfl rfl ?_
  refine a_l0 rfl rfl rfl ?_
  refine a_getq rfl gfX9_15_9 rfl (rfl) ?_
  refine a_l0 rfl rfl rfl ?_
  refine a_geti rfl gfX9_52_9 rfl ?_
  refine a_eSN1 rfl lX9_58 mo_X11_at (sp_X11_at rfl) rfl rfl rfl rfl ?_
  refine a_puti rfl pfX9_100_9 rfl ?_
  refine a_ren (P := Fm sT I) (Fm.tr (f4) (Fm.up (Fm.rf (s := sT)) rfl)) (fun I5 f6 => ?_)
  refine a_l0 rfl rfl rfl ?_
  refine a_l0 rfl rfl rfl ?_
  refine a_getq rfl gfX9_21_9 rfl (rfl) ?_
  refine a_l0 rfl rfl rfl ?_
  refine a_geti rfl gfX9_52_9 rfl ?_
  refine a_eSN1 rfl lX9_58 mo_X11_at (sp_X11_at rfl) rfl rfl rfl rfl ?_
  refine a_puti rfl pfX9_103_9 rfl ?_
  refine a_ren (P := Fm sT I) (Fm.tr (f6) (Fm.up (Fm.rf (s := sT)) rfl)) (fun I7 f8 => ?_)
  refine a_l0 rfl rfl rfl ?_
  refine a_l0 rfl rfl rfl ?_
  refine a_geti rfl gfX9_97_9 rfl ?_
  refine a_s rfl rfl ?_
  refine a_ic_ne rfl (fun c70 => ?_) (fun c70 => ?_)
  · refine a_s rfl rfl ?_
    refine a_putw2 (q := 0) rfl pfX9_106_9 ?_
    exact a_vret rfl rfl ⟨rfl, _, _, _, rfl, f8, kk1, WK.nul⟩
  · refine a_l0 rfl rfl rfl ?_
    refine a_geti rfl gfX9_103_9 rfl ?_
    refine a_if_lt rfl (fun c77 => ?_) (fun c77 => ?_)
    · refine a_s rfl rfl ?_
      refine a_putw2 (q := 0) rfl pfX9_106_9 ?_
      exact a_vret rfl rfl ⟨rfl, _, _, _, rfl, f8, kk1, WK.nul⟩
    · refine a_l0 rfl rfl rfl ?_
      refine a_geti rfl gfX9_103_9 rfl ?_
      refine a_gets rfl (inC4 (i := 0) rfl rfl) hw.al ?_
      refine a_lenc rfl hw.ar rfl ?_
      refine a_ic_ge rfl (fun c88 => ?_) (fun c88 => ?_)
      · refine a_s rfl rfl ?_
        refine a_putw2 (q := 0) rfl pfX9_106_9 ?_
        exact a_vret rfl rfl ⟨rfl, _, _, _, rfl, f8, kk1, WK.nul⟩
      · refine a_gets rfl (inC4 (i := 0) rfl rfl) hw.al ?_
        refine a_l0 rfl rfl rfl ?_
        refine a_geti rfl gfX9_103_9 rfl ?_
        refine a_aaldc rfl hw.ar rfl (inI_of (n := 27) (by decide) c77 c88) ?_
        refine a_goto rfl ?_
        refine a_putw2 (q := (100 + (Int32.toNatClampNeg (I7 221 8)) + 1)) rfl pfX9_106_9 ?_
        exact a_vret rfl rfl ⟨rfl, _, _, _, rfl, f8, kk1, (WK.con (inI_of (n := 27) (by decide) c77 c88).2)⟩
theorem q_X9_scan_221_201_sT {S : aS} {I : Nat → Nat → Int32} {L : Nat → Nat → Int64} {w1 w2 t : Nat} (hw : WdS S) (kk1 : WK w1) (kk2 : WK w2) : Sp S m_X9_scan 19 0 0 [.ref 221, .ref 201] (hp I L w1 w2 t) (QT (Fm sT I) isV L t) nX := by
  refine Sp_of ok_X9_scan rfl rfl ?_
  show AW S m_X9_scan 19 _ _ 0 0 0 [some (.ref 221), some (.ref 201), none, none, none] [] (hp I L w1 w2 t)
  refine a_l0 rfl rfl rfl ?_
  refine a_s rfl rfl ?_
  refine a_puti rfl pfX9_24_9 rfl ?_
  refine a_ren (P := Fm sT I) (Fm.up (Fm.rf (s := sT)) rfl) (fun I1 f2 => ?_)
  refine a_s rfl rfl ?_
  refine a_s2 rfl rfl rfl rfl rfl rfl ?_
  refine a_s rfl rfl ?_
  refine a_s3 rfl rfl rfl rfl rfl rfl ?_
  refine a_cnt (j0 := 0) (fun j ls h => ∃ a0, ∃ I' w1' w2', ls = [some (.ref 221), some (.ref 201), some (.int a0), some (.int (nI j)), none] ∧ h = hp I' L w1' w2' t ∧ Fm sT I I' ∧ WK w1' ∧ WK w2') (by decide) ⟨_, _, _, _, rfl, rfl, f2, kk1, kk2⟩ ⟨rfl, rfl, rfl, rfl, trivial⟩ ?_
  rintro j9 _ _ hj9 ⟨a0_9, Ih9, w1h9, w2h9, rfl, rfl, fh9, k1h9, k2h9⟩ ih9
  refine a_l3 rfl rfl rfl ?_
  refine a_l1 rfl rfl rfl ?_
  refine a_geti rfl gfX9_28_7 rfl ?_
  refine a_ic_ge rfl (fun c14 => ?_) (fun c14 => ?_)
  · refine a_l0 rfl rfl rfl ?_
    refine a_s rfl rfl ?_
    refine a_l1 rfl rfl rfl ?_
    refine a_geti rfl gfX9_28_7 rfl ?_
    refine a_gV rfl lX9_40 mo_X9_open (q_X9_open_221_sT) rfl rfl rfl ⟨9, _, rfl, rfl, rfl⟩ rfl (fun v' h' hv => ?_)
    obtain ⟨rfl, I4, rfl, f5⟩ := hv
    replace f5 : Fm sT I I4 := Fm.tr (fh9) (f5)
    refine a_s rfl rfl ?_
    refine a_s3 rfl rfl rfl rfl rfl rfl ?_
    refine a_cnt (j0 := 0) (fun j ls h => ∃ I' w1' w2', ls = [some (.ref 221), some (.ref 201), some (.int a0_9), some (.int (nI j)), none] ∧ h = hp I' L w1' w2' t ∧ Fm sT I I' ∧ WK w1' ∧ WK w2') (by decide) ⟨_, _, _, rfl, rfl, f5, k1h9, k2h9⟩ ⟨rfl, rfl, rfl, rfl, trivial⟩ ?_
    rintro j94 _ _ hj94 ⟨Ih94, w1h94, w2h94, rfl, rfl, fh94, k1h94, k2h94⟩ ih94
    refine a_l3 rfl rfl rfl ?_
    refine a_l0 rfl rfl rfl ?_
    refine a_geti rfl gfX9_24_9 rfl ?_
    refine a_ic_ge rfl (fun c99 => ?_) (fun c99 => ?_)
    · refine a_l0 rfl rfl rfl ?_
      refine a_s rfl rfl ?_
      refine a_puti rfl pfX9_52_9 rfl ?_
      refine a_ren (P := Fm sT I) (Fm.tr (fh94) (Fm.up (Fm.rf (s := sT)) rfl)) (fun I6 f7 => ?_)
      refine a_l0 rfl rfl rfl ?_
      refine a_gV rfl lX9_55 mo_X9_next (q_X9_next_221_sT hw k1h94 k2h94) rfl rfl rfl ⟨9, _, rfl, rfl, rfl⟩ rfl (fun v' h' hv => ?_)
      obtain ⟨rfl, I9, w1_9, w2_9, rfl, f9, k1_9, k2_9⟩ := hv
      replace f9 := Fm.tr (f7) f9
      exact a_vret rfl rfl ⟨rfl, _, _, _, rfl, f9, k1_9, k2_9⟩
    · refine a_l0 rfl rfl rfl ?_
      refine a_getq rfl gfX9_21_9 rfl (rfl) ?_
      refine a_l3 rfl rfl rfl ?_
      refine a_l0 rfl rfl rfl ?_
      refine a_l1 rfl rfl rfl ?_
      refine a_l3 rfl rfl rfl ?_
      refine a_gV rfl lX9_48 mo_X9_valueOf (q_X9_valueOf_221_201 hw k1h94 k2h94) rfl rfl rfl ⟨9, _, rfl, rfl, rfl⟩ rfl (fun v' h' hv => ?_)
      obtain ⟨⟨v10, rfl⟩, rfl⟩ := hv
      refine a_eSN0 rfl lX9_44 mo_X11_setAt (sp_X11_setAt rfl) rfl rfl rfl rfl ?_
      refine a_ren (P := Fm sT I) (Fm.tr (fh94) (Fm.st (Fm.rf (s := sT)) (fun _ => rfl))) (fun I11 f12 => ?_)
      refine a_i3 rfl rfl rfl ?_
      refine a_goto rfl ?_
      exact ih94 _ _ _ _ c99 ⟨_, _, _, rfl, rfl, f12, k1h94, k2h94⟩ ⟨rfl, rfl, rfl, nS _, trivial⟩
  · refine a_l1 rfl rfl rfl ?_
    refine a_l3 rfl rfl rfl ?_
    refine a_gV rfl lX9_33 mo_X7_byteAt (q_X7_byteAt_201) rfl rfl rfl ⟨7, _, rfl, rfl, rfl⟩ rfl (fun v' h' hv => ?_)
    obtain ⟨⟨v13, rfl⟩, rfl⟩ := hv
    refine a_gS rfl lX9_37 mo_X9_kindOf (q_X9_kindOf) rfl rfl rfl rfl (fun v' h' hv => ?_)
    obtain ⟨⟨v14, rfl⟩, rfl⟩ := hv
    refine a_s4 rfl rfl rfl rfl rfl rfl ?_
    refine a_l4 rfl rfl rfl ?_
    refine a_s rfl rfl ?_
    refine a_ic_eq rfl (fun c30 => ?_) (fun c30 => ?_)
    · refine a_l0 rfl rfl rfl ?_
      refine a_l4 rfl rfl rfl ?_
      refine a_l3 rfl rfl rfl ?_
      refine a_gV rfl lX9_40 mo_X9_open (q_X9_open_221_sT) rfl rfl rfl ⟨9, _, rfl, rfl, rfl⟩ rfl (fun v' h' hv => ?_)
      obtain ⟨rfl, I16, rfl, f17⟩ := hv
      replace f17 : Fm sT I I16 := Fm.tr (fh9) (f17)
      refine a_l4 rfl rfl rfl ?_
      refine a_s rfl rfl ?_
      refine a_ic_eq rfl (fun c55 => ?_) (fun c55 => ?_)
      · refine a_l4 rfl rfl rfl ?_
        refine a_s2 rfl rfl rfl rfl rfl rfl ?_
        refine a_i3 rfl rfl rfl ?_
        refine a_goto rfl ?_
        exact ih9 _ _ _ _ c14 ⟨_, _, _, _, rfl, rfl, f17, k1h9, k2h9⟩ ⟨rfl, rfl, rfl, nS _, trivial⟩
      · refine a_l0 rfl rfl rfl ?_
        refine a_getq rfl gfX9_18_9 rfl (rfl) ?_
        refine a_l0 rfl rfl rfl ?_
        refine a_geti rfl gfX9_24_9 rfl ?_
        refine a_s rfl rfl ?_
        refine a_s rfl rfl ?_
        refine a_l3 rfl rfl rfl ?_
        refine a_s rfl rfl ?_
        refine a_s rfl rfl ?_
        refine a_eSN0 rfl lX9_44 mo_X11_setAt (sp_X11_setAt rfl) rfl rfl rfl rfl ?_
        refine a_ren (P := Fm sT I) (Fm.tr (f17) (Fm.st (Fm.rf (s := sT)) (fun _ => rfl))) (fun I18 f19 => ?_)
        refine a_l4 rfl rfl rfl ?_
        refine a_s2 rfl rfl rfl rfl rfl rfl ?_
        refine a_i3 rfl rfl rfl ?_
        refine a_goto rfl ?_
        exact ih9 _ _ _ _ c14 ⟨_, _, _, _, rfl, rfl, f19, k1h9, k2h9⟩ ⟨rfl, rfl, rfl, nS _, trivial⟩
    · refine a_l4 rfl rfl rfl ?_
      refine a_s rfl rfl ?_
      refine a_ic_eq rfl (fun c36 => ?_) (fun c36 => ?_)
      · refine a_l4 rfl rfl rfl ?_
        refine a_s rfl rfl ?_
        refine a_ic_eq rfl (fun c55 => ?_) (fun c55 => ?_)
        · refine a_l4 rfl rfl rfl ?_
          refine a_s2 rfl rfl rfl rfl rfl rfl ?_
          refine a_i3 rfl rfl rfl ?_
          refine a_goto rfl ?_
          exact ih9 _ _ _ _ c14 ⟨_, _, _, _, rfl, rfl, fh9, k1h9, k2h9⟩ ⟨rfl, rfl, rfl, nS _, trivial⟩
        · refine a_l0 rfl rfl rfl ?_
          refine a_getq rfl gfX9_18_9 rfl (rfl) ?_
          refine a_l0 rfl rfl rfl ?_
          refine a_geti rfl gfX9_24_9 rfl ?_
          refine a_s rfl rfl ?_
          refine a_s rfl rfl ?_
          refine a_l3 rfl rfl rfl ?_
          refine a_s rfl rfl ?_
          refine a_s rfl rfl ?_
          refine a_eSN0 rfl lX9_44 mo_X11_setAt (sp_X11_setAt rfl) rfl rfl rfl rfl ?_
          refine a_ren (P := Fm sT I) (Fm.tr (fh9) (Fm.st (Fm.rf (s := sT)) (fun _ => rfl))) (fun I20 f21 => ?_)
          refine a_l4 rfl rfl rfl ?_
          refine a_s2 rfl rfl rfl rfl rfl rfl ?_
          refine a_i3 rfl rfl rfl ?_
          refine a_goto rfl ?_
          exact ih9 _ _ _ _ c14 ⟨_, _, _, _, rfl, rfl, f21, k1h9, k2h9⟩ ⟨rfl, rfl, rfl, nS _, trivial⟩
      · refine a_l4 rfl rfl rfl ?_
        refine a_l2 rfl rfl rfl ?_
        refine a_ic_eq rfl (fun c42 => ?_) (fun c42 => ?_)
        · refine a_l4 rfl rfl rfl ?_
          refine a_s rfl rfl ?_
          refine a_ic_eq rfl (fun c55 => ?_) (fun c55 => ?_)
          · refine a_l4 rfl rfl rfl ?_
            refine a_s2 rfl rfl rfl rfl rfl rfl ?_
            refine a_i3 rfl rfl rfl ?_
            refine a_goto rfl ?_
            exact ih9 _ _ _ _ c14 ⟨_, _, _, _, rfl, rfl, fh9, k1h9, k2h9⟩ ⟨rfl, rfl, rfl, nS _, trivial⟩
          · refine a_l0 rfl rfl rfl ?_
            refine a_getq rfl gfX9_18_9 rfl (rfl) ?_
            refine a_l0 rfl rfl rfl ?_
            refine a_geti rfl gfX9_24_9 rfl ?_
            refine a_s rfl rfl ?_
            refine a_s rfl rfl ?_
            refine a_l3 rfl rfl rfl ?_
            refine a_s rfl rfl ?_
            refine a_s rfl rfl ?_
            refine a_eSN0 rfl lX9_44 mo_X11_setAt (sp_X11_setAt rfl) rfl rfl rfl rfl ?_
            refine a_ren (P := Fm sT I) (Fm.tr (fh9) (Fm.st (Fm.rf (s := sT)) (fun _ => rfl))) (fun I22 f23 => ?_)
            refine a_l4 rfl rfl rfl ?_
            refine a_s2 rfl rfl rfl rfl rfl rfl ?_
            refine a_i3 rfl rfl rfl ?_
            refine a_goto rfl ?_
            exact ih9 _ _ _ _ c14 ⟨_, _, _, _, rfl, rfl, f23, k1h9, k2h9⟩ ⟨rfl, rfl, rfl, nS _, trivial⟩
        · refine a_l0 rfl rfl rfl ?_
          refine a_l4 rfl rfl rfl ?_
          refine a_l3 rfl rfl rfl ?_
          refine a_gV rfl lX9_40 mo_X9_open (q_X9_open_221_sT) rfl rfl rfl ⟨9, _, rfl, rfl, rfl⟩ rfl (fun v' h' hv => ?_)
          obtain ⟨rfl, I25, rfl, f26⟩ := hv
          replace f26 : Fm sT I I25 := Fm.tr (fh9) (f26)
          refine a_l4 rfl rfl rfl ?_
          refine a_s rfl rfl ?_
          refine a_ic_eq rfl (fun c55 => ?_) (fun c55 => ?_)
          · refine a_l4 rfl rfl rfl ?_
            refine a_s2 rfl rfl rfl rfl rfl rfl ?_
            refine a_i3 rfl rfl rfl ?_
            refine a_goto rfl ?_
            exact ih9 _ _ _ _ c14 ⟨_, _, _, _, rfl, rfl, f26, k1h9, k2h9⟩ ⟨rfl, rfl, rfl, nS _, trivial⟩
          · refine a_l0 rfl rfl rfl ?_
            refine a_getq rfl gfX9_18_9 rfl (rfl) ?_
            refine a_l0 rfl rfl rfl ?_
            refine a_geti rfl gfX9_24_9 rfl ?_
            refine a_s rfl rfl ?_
            refine a_s rfl rfl ?_
            refine a_l3 rfl rfl rfl ?_
            refine a_s rfl rfl ?_
            refine a_s rfl rfl ?_
            refine a_eSN0 rfl lX9_44 mo_X11_setAt (sp_X11_setAt rfl) rfl rfl rfl rfl ?_
            refine a_ren (P := Fm sT I) (Fm.tr (f26) (Fm.st (Fm.rf (s := sT)) (fun _ => rfl))) (fun I27 f28 => ?_)
            refine a_l4 rfl rfl rfl ?_
            refine a_s2 rfl rfl rfl rfl rfl rfl ?_
            refine a_i3 rfl rfl rfl ?_
            refine a_goto rfl ?_
            exact ih9 _ _ _ _ c14 ⟨_, _, _, _, rfl, rfl, f28, k1h9, k2h9⟩ ⟨rfl, rfl, rfl, nS _, trivial⟩
theorem q_X9_isEnd_221 {S : aS} {I : Nat → Nat → Int32} {L : Nat → Nat → Int64} {w1 w2 t : Nat} : Sp S m_X9_isEnd 12 0 0 [.ref 221] (hp I L w1 w2 t) (QE isZ (hp I L w1 w2 t)) nX := by
  refine Sp_of ok_X9_isEnd rfl rfl ?_
  show AW S m_X9_isEnd 12 _ _ 0 0 0 [some (.ref 221)] [] (hp I L w1 w2 t)
  refine a_l0 rfl rfl rfl ?_
  refine a_geti rfl gfX9_97_9 rfl ?_
  refine a_if_ne rfl (fun c4 => ?_) (fun c4 => ?_)
  · refine a_s rfl rfl ?_
    exact a_zret rfl rfl rfl ⟨⟨false, rfl⟩, rfl⟩
  · refine a_s rfl rfl ?_
    refine a_goto rfl ?_
    exact a_zret rfl rfl rfl ⟨⟨true, rfl⟩, rfl⟩
theorem q_X9_isSign_221 {S : aS} {I : Nat → Nat → Int32} {L : Nat → Nat → Int64} {w1 w2 t : Nat} {x1 : Int32} : Sp S m_X9_isSign 12 0 0 [.ref 221, .int x1] (hp I L w1 w2 t) (QE isZ (hp I L w1 w2 t)) nX := by
  refine Sp_of ok_X9_isSign rfl rfl ?_
  show AW S m_X9_isSign 12 _ _ 0 0 0 [some (.ref 221), some (.int x1)] [] (hp I L w1 w2 t)
  refine a_l0 rfl rfl rfl ?_
  refine a_geti rfl gfX9_97_9 rfl ?_
  refine a_s rfl rfl ?_
  refine a_ic_ne rfl (fun c5 => ?_) (fun c5 => ?_)
  · refine a_s rfl rfl ?_
    exact a_zret rfl rfl rfl ⟨⟨false, rfl⟩, rfl⟩
  · refine a_l0 rfl rfl rfl ?_
    refine a_geti rfl gfX9_103_9 rfl ?_
    refine a_l1 rfl rfl rfl ?_
    refine a_ic_ne rfl (fun c13 => ?_) (fun c13 => ?_)
    · refine a_s rfl rfl ?_
      exact a_zret rfl rfl rfl ⟨⟨false, rfl⟩, rfl⟩
    · refine a_s rfl rfl ?_
      refine a_goto rfl ?_
      exact a_zret rfl rfl rfl ⟨⟨true, rfl⟩, rfl⟩
theorem q_X9_takeSign_221_sT {S : aS} {I : Nat → Nat → Int32} {L : Nat → Nat → Int64} {w1 w2 t : Nat} {x1 : Int32} (hw : WdS S) (kk1 : WK w1) (kk2 : WK w2) : Sp S m_X9_takeSign 14 0 0 [.ref 221, .int x1] (hp I L w1 w2 t) (QT (Fm sT I) isZ L t) nX := by
  refine Sp_of ok_X9_takeSign rfl rfl ?_
  show AW S m_X9_takeSign 14 _ _ 0 0 0 [some (.ref 221), some (.int x1), none] [] (hp I L w1 w2 t)
  refine a_l0 rfl rfl rfl ?_
  refine a_l1 rfl rfl rfl ?_
  refine a_gV rfl lX9_110 mo_X9_isSign (q_X9_isSign_221) rfl rfl rfl ⟨9, _, rfl, rfl, rfl⟩ rfl (fun v' h' hv => ?_)
  obtain ⟨⟨v1, rfl⟩, rfl⟩ := hv
  refine a_s2 rfl rfl rfl rfl rfl rfl ?_
  refine a_l2 rfl rfl rfl ?_
  refine a_if_eq rfl (fun c7 => ?_) (fun c7 => ?_)
  · refine a_l2 rfl rfl rfl ?_
    exact a_zret rfl rfl (bI_nar _) ⟨⟨_, rfl⟩, _, _, _, rfl, Fm.rf, kk1, kk2⟩
  · refine a_l0 rfl rfl rfl ?_
    refine a_gV rfl lX9_55 mo_X9_next (q_X9_next_221_sT hw kk1 kk2) rfl rfl rfl ⟨9, _, rfl, rfl, rfl⟩ rfl (fun v' h' hv => ?_)
    obtain ⟨rfl, I3, w1_3, w2_3, rfl, f3, k1_3, k2_3⟩ := hv
    refine a_l2 rfl rfl rfl ?_
    exact a_zret rfl rfl (bI_nar _) ⟨⟨_, rfl⟩, _, _, _, rfl, f3, k1_3, k2_3⟩
theorem q_X9_takeWord_221_sT {S : aS} {I : Nat → Nat → Int32} {L : Nat → Nat → Int64} {w1 w2 t : Nat} (hw : WdS S) (kk1 : WK w1) (kk2 : WK w2) {k1 : Nat} (hk1 : k1 < 27) : Sp S m_X9_takeWord 14 0 0 [.ref 221, .ref (100 + k1)] (hp I L w1 w2 t) (QT (Fm sT I) isZ L t) nX := by
  refine Sp_of ok_X9_takeWord rfl rfl ?_
  show AW S m_X9_takeWord 14 _ _ 0 0 0 [some (.ref 221), some (.ref (100 + k1)), none] [] (hp I L w1 w2 t)
  refine a_l0 rfl rfl rfl ?_
  refine a_getr rfl gfX9_106_9 rfl ?_
  refine a_pop1 (show _ = rv w2 :: _ from rfl) ?_
  refine a_l1 rfl rfl rfl ?_
  refine a_acmp_ne (rx := w2) (ry := 100 + k1 + 1) rfl (kk2.ac hw) (WK.ck hw hk1) (fun c5 => ?_) (fun c5 => ?_)
  · refine a_s rfl rfl ?_
    refine a_s2 rfl rfl rfl rfl rfl rfl ?_
    refine a_l2 rfl rfl rfl ?_
    refine a_if_eq rfl (fun c15 => ?_) (fun c15 => ?_)
    · refine a_l2 rfl rfl rfl ?_
      exact a_zret rfl rfl rfl ⟨⟨false, rfl⟩, _, _, _, rfl, Fm.rf, kk1, kk2⟩
    · refine a_l0 rfl rfl rfl ?_
      refine a_gV rfl lX9_55 mo_X9_next (q_X9_next_221_sT hw kk1 kk2) rfl rfl rfl ⟨9, _, rfl, rfl, rfl⟩ rfl (fun v' h' hv => ?_)
      obtain ⟨rfl, I2, w1_2, w2_2, rfl, f2, k1_2, k2_2⟩ := hv
      refine a_l2 rfl rfl rfl ?_
      exact a_zret rfl rfl rfl ⟨⟨false, rfl⟩, _, _, _, rfl, f2, k1_2, k2_2⟩
  · refine a_s rfl rfl ?_
    refine a_goto rfl ?_
    refine a_s2 rfl rfl rfl rfl rfl rfl ?_
    refine a_l2 rfl rfl rfl ?_
    refine a_if_eq rfl (fun c15 => ?_) (fun c15 => ?_)
    · refine a_l2 rfl rfl rfl ?_
      exact a_zret rfl rfl rfl ⟨⟨true, rfl⟩, _, _, _, rfl, Fm.rf, kk1, kk2⟩
    · refine a_l0 rfl rfl rfl ?_
      refine a_gV rfl lX9_55 mo_X9_next (q_X9_next_221_sT hw kk1 kk2) rfl rfl rfl ⟨9, _, rfl, rfl, rfl⟩ rfl (fun v' h' hv => ?_)
      obtain ⟨rfl, I4, w1_4, w2_4, rfl, f4, k1_4, k2_4⟩ := hv
      refine a_l2 rfl rfl rfl ?_
      exact a_zret rfl rfl rfl ⟨⟨true, rfl⟩, _, _, _, rfl, f4, k1_4, k2_4⟩
theorem q_X9_takeNumber_221_sT {S : aS} {I : Nat → Nat → Int32} {L : Nat → Nat → Int64} {w1 w2 t : Nat} {x1 x2 : Int32} (hw : WdS S) (kk1 : WK w1) (kk2 : WK w2) : Sp S m_X9_takeNumber 14 0 0 [.ref 221, .int x1, .int x2] (hp I L w1 w2 t) (QT (Fm sT I) isI L t) nX := by
  refine Sp_of ok_X9_takeNumber rfl rfl ?_
  show AW S m_X9_takeNumber 14 _ _ 0 0 0 [some (.ref 221), some (.int x1), some (.int x2), none] [] (hp I L w1 w2 t)
  refine a_l0 rfl rfl rfl ?_
  refine a_geti rfl gfX9_103_9 rfl ?_
  refine a_s3 rfl rfl rfl rfl rfl rfl ?_
  refine a_l0 rfl rfl rfl ?_
  refine a_geti rfl gfX9_97_9 rfl ?_
  refine a_s rfl rfl ?_
  refine a_ic_ne rfl (fun c10 => ?_) (fun c10 => ?_)
  · refine a_s rfl rfl ?_
    exact a_iret rfl rfl ⟨⟨_, rfl⟩, _, _, _, rfl, Fm.rf, kk1, kk2⟩
  · refine a_l3 rfl rfl rfl ?_
    refine a_l1 rfl rfl rfl ?_
    refine a_ic_lt rfl (fun c15 => ?_) (fun c15 => ?_)
    · refine a_s rfl rfl ?_
      exact a_iret rfl rfl ⟨⟨_, rfl⟩, _, _, _, rfl, Fm.rf, kk1, kk2⟩
    · refine a_l3 rfl rfl rfl ?_
      refine a_l2 rfl rfl rfl ?_
      refine a_ic_le rfl (fun c20 => ?_) (fun c20 => ?_)
      · refine a_l0 rfl rfl rfl ?_
        refine a_gV rfl lX9_55 mo_X9_next (q_X9_next_221_sT hw kk1 kk2) rfl rfl rfl ⟨9, _, rfl, rfl, rfl⟩ rfl (fun v' h' hv => ?_)
        obtain ⟨rfl, I2, w1_2, w2_2, rfl, f2, k1_2, k2_2⟩ := hv
        refine a_l3 rfl rfl rfl ?_
        exact a_iret rfl rfl ⟨⟨_, rfl⟩, _, _, _, rfl, f2, k1_2, k2_2⟩
      · refine a_s rfl rfl ?_
        exact a_iret rfl rfl ⟨⟨_, rfl⟩, _, _, _, rfl, Fm.rf, kk1, kk2⟩
theorem q_X6_readNumberOf_203_sT {S : aS} {I : Nat → Nat → Int32} {L : Nat → Nat → Int64} {w1 w2 t : Nat} {x2 x3 : Int32} (hw : WdS S) (kk1 : WK w1) (kk2 : WK w2) {k1 : Nat} (hk1 : k1 < 27) : Sp S m_X6_readNumberOf 15 0 0 [.ref 203, .ref (100 + k1), .int x2, .int x3] (hp I L w1 w2 t) (QT (Fm sT I) isI L t) nX := by
  refine Sp_of ok_X6_readNumberOf rfl rfl ?_
  show AW S m_X6_readNumberOf 15 _ _ 0 0 0 [some (.ref 203), some (.ref (100 + k1)), some (.int x2), some (.int x3)] [] (hp I L w1 w2 t)
  refine a_l0 rfl rfl rfl ?_
  refine a_getq rfl gfX6_20_6 rfl (rfl) ?_
  refine a_l1 rfl rfl rfl ?_
  refine a_gV rfl lX6_55 mo_X9_takeWord (q_X9_takeWord_204_sT hw kk1 kk2 hk1) rfl rfl rfl ⟨9, _, rfl, rfl, rfl⟩ rfl (fun v' h' hv => ?_)
  obtain ⟨⟨v1, rfl⟩, I2, w1_2, w2_2, rfl, f2, k1_2, k2_2⟩ := hv
  refine a_if_eq rfl (fun c8 => ?_) (fun c8 => ?_)
  · refine a_s rfl rfl ?_
    exact a_iret rfl rfl ⟨⟨_, rfl⟩, _, _, _, rfl, f2, k1_2, k2_2⟩
  · refine a_l0 rfl rfl rfl ?_
    refine a_getq rfl gfX6_20_6 rfl (rfl) ?_
    refine a_l2 rfl rfl rfl ?_
    refine a_l3 rfl rfl rfl ?_
    refine a_gV rfl lX6_149 mo_X9_takeNumber (q_X9_takeNumber_204_sT hw k1_2 k2_2) rfl rfl rfl ⟨9, _, rfl, rfl, rfl⟩ rfl (fun v' h' hv => ?_)
    obtain ⟨⟨v3, rfl⟩, I4, w1_4, w2_4, rfl, f4, k1_4, k2_4⟩ := hv
    replace f4 := Fm.tr (f2) f4
    refine a_goto rfl ?_
    exact a_iret rfl rfl ⟨⟨_, rfl⟩, _, _, _, rfl, f4, k1_4, k2_4⟩
theorem q_X5_addPerson_209 {S : aS} {I : Nat → Nat → Int32} {L : Nat → Nat → Int64} {w1 w2 t : Nat} {x1 x2 : Int32} : Sp S m_X5_addPerson 13 0 0 [.ref 209, .int x1, .int x2] (hp I L w1 w2 t) (QR (Mt I) isV L w1 w2 t) nX := by
  refine Sp_of ok_X5_addPerson rfl rfl ?_
  show AW S m_X5_addPerson 13 _ _ 0 0 0 [some (.ref 209), some (.int x1), some (.int x2)] [] (hp I L w1 w2 t)
  refine a_l0 rfl rfl rfl ?_
  refine a_getq rfl gfX5_9_5 rfl (rfl) ?_
  refine a_l0 rfl rfl rfl ?_
  refine a_geti rfl gfX5_56_5 rfl ?_
  refine a_l1 rfl rfl rfl ?_
  refine a_eSN0 rfl lX5_82 mo_X11_setAt (sp_X11_setAt rfl) rfl rfl rfl rfl ?_
  refine a_ren (P := Mt I) (Mt.fm (Mt.rf) (Fm.st (Fm.rf (s := sM)) (fun _ => rfl))) (fun I1 f2 => ?_)
  refine a_l0 rfl rfl rfl ?_
  refine a_getq rfl gfX5_15_5 rfl (rfl) ?_
  refine a_l0 rfl rfl rfl ?_
  refine a_geti rfl gfX5_56_5 rfl ?_
  refine a_l2 rfl rfl rfl ?_
  refine a_eSN0 rfl lX5_82 mo_X11_setAt (sp_X11_setAt rfl) rfl rfl rfl rfl ?_
  refine a_ren (P := Mt I) (Mt.fm (f2) (Fm.st (Fm.rf (s := sM)) (fun _ => rfl))) (fun I3 f4 => ?_)
  refine a_l0 rfl rfl rfl ?_
  refine a_s rfl rfl ?_
  refine a_geti rfl gfX5_56_5 rfl ?_
  refine a_s rfl rfl ?_
  refine a_s rfl rfl ?_
  refine a_puti rfl pfX5_56_5 rfl ?_
  refine a_ren (P := Mt I) (Mt.fm (f4) (Fm.up (Fm.rf (s := sM)) rfl)) (fun I5 f6 => ?_)
  exact a_vret rfl rfl ⟨rfl, _, rfl, f6⟩
theorem q_X6_readPerson_203 {S : aS} {I : Nat → Nat → Int32} {L : Nat → Nat → Int64} {w1 w2 t : Nat} (hw : WdS S) (kk1 : WK w1) (kk2 : WK w2) : Sp S m_X6_readPerson 16 0 0 [.ref 203] (hp I L w1 w2 t) (QT (Mt I) isZ L t) nX := by
  refine Sp_of ok_X6_readPerson rfl rfl ?_
  show AW S m_X6_readPerson 16 _ _ 0 0 0 [some (.ref 203), none, none] [] (hp I L w1 w2 t)
  refine a_l0 rfl rfl rfl ?_
  refine a_getq rfl gfX6_20_6 rfl (rfl) ?_
  refine a_gV rfl lX6_65 mo_X9_next (q_X9_next_204_sT hw kk1 kk2) rfl rfl rfl ⟨9, _, rfl, rfl, rfl⟩ rfl (fun v' h' hv => ?_)
  obtain ⟨rfl, I2, w1_2, w2_2, rfl, f2, k1_2, k2_2⟩ := hv
  replace f2 : Mt I I2 := Mt.fm (Mt.rf) (Fm.mo f2 sT_sM)
  refine a_l0 rfl rfl rfl ?_
  refine a_gets rfl (inC4 (i := 173) rfl rfl) (hw.st (i := 1) (by decide)) ?_
  refine a_s rfl rfl ?_
  refine a_s rfl rfl ?_
  refine a_gV rfl lX6_71 mo_X6_readNumberOf (q_X6_readNumberOf_203_sT hw k1_2 k2_2 ((show 1 < 27 by decide))) rfl rfl rfl ⟨6, _, rfl, rfl, rfl⟩ rfl (fun v' h' hv => ?_)
  obtain ⟨⟨v3, rfl⟩, I4, w1_4, w2_4, rfl, f4, k1_4, k2_4⟩ := hv
  replace f4 : Mt I I4 := Mt.fm (f2) (Fm.mo f4 sT_sM)
  refine a_s1 rfl rfl rfl rfl rfl rfl ?_
  refine a_l1 rfl rfl rfl ?_
  refine a_s rfl rfl ?_
  refine a_ic_ne rfl (fun c20 => ?_) (fun c20 => ?_)
  · refine a_l0 rfl rfl rfl ?_
    refine a_gets rfl (inC4 (i := 181) rfl rfl) (hw.st (i := 2) (by decide)) ?_
    refine a_s rfl rfl ?_
    refine a_s rfl rfl ?_
    refine a_gV rfl lX6_71 mo_X6_readNumberOf (q_X6_readNumberOf_203_sT hw k1_4 k2_4 ((show 2 < 27 by decide))) rfl rfl rfl ⟨6, _, rfl, rfl, rfl⟩ rfl (fun v' h' hv => ?_)
    obtain ⟨⟨v5, rfl⟩, I6, w1_6, w2_6, rfl, f6, k1_6, k2_6⟩ := hv
    replace f6 : Mt I I6 := Mt.fm (f4) (Fm.mo f6 sT_sM)
    refine a_s2 rfl rfl rfl rfl rfl rfl ?_
    refine a_l2 rfl rfl rfl ?_
    refine a_s rfl rfl ?_
    refine a_ic_ne rfl (fun c38 => ?_) (fun c38 => ?_)
    · refine a_l0 rfl rfl rfl ?_
      refine a_getq rfl gfX6_16_6 rfl (rfl) ?_
      refine a_l1 rfl rfl rfl ?_
      refine a_l2 rfl rfl rfl ?_
      refine a_gV rfl lX6_78 mo_X5_addPerson (q_X5_addPerson_209) rfl rfl rfl ⟨5, _, rfl, rfl, rfl⟩ rfl (fun v' h' hv => ?_)
      obtain ⟨rfl, I8, rfl, f9⟩ := hv
      replace f9 := Mt.tr (f6) f9
      refine a_s rfl rfl ?_
      exact a_zret rfl rfl rfl ⟨⟨true, rfl⟩, _, _, _, rfl, f9, k1_6, k2_6⟩
    · refine a_s rfl rfl ?_
      exact a_zret rfl rfl rfl ⟨⟨false, rfl⟩, _, _, _, rfl, f6, k1_6, k2_6⟩
  · refine a_s rfl rfl ?_
    exact a_zret rfl rfl rfl ⟨⟨false, rfl⟩, _, _, _, rfl, f4, k1_4, k2_4⟩
theorem q_X5_isWaiting_209 {S : aS} {I : Nat → Nat → Int32} {L : Nat → Nat → Int64} {w1 w2 t : Nat} {x1 : Int32} : Sp S m_X5_isWaiting 13 0 0 [.ref 209, .int x1] (hp I L w1 w2 t) (QE isZ (hp I L w1 w2 t)) nX := by
  refine Sp_of ok_X5_isWaiting rfl rfl ?_
  show AW S m_X5_isWaiting 13 _ _ 0 0 0 [some (.ref 209), some (.int x1)] [] (hp I L w1 w2 t)
  refine a_l1 rfl rfl rfl ?_
  refine a_if_lt rfl (fun c1 => ?_) (fun c1 => ?_)
  · refine a_s rfl rfl ?_
    exact a_zret rfl rfl rfl ⟨⟨false, rfl⟩, rfl⟩
  · refine a_l1 rfl rfl rfl ?_
    refine a_l0 rfl rfl rfl ?_
    refine a_geti rfl gfX5_63_5 rfl ?_
    refine a_ic_ge rfl (fun c9 => ?_) (fun c9 => ?_)
    · refine a_s rfl rfl ?_
      exact a_zret rfl rfl rfl ⟨⟨false, rfl⟩, rfl⟩
    · refine a_l0 rfl rfl rfl ?_
      refine a_getq rfl gfX5_33_5 rfl (rfl) ?_
      refine a_l1 rfl rfl rfl ?_
      refine a_eSN1 rfl lX5_86 mo_X11_at (sp_X11_at rfl) rfl rfl rfl rfl ?_
      refine a_if_ne rfl (fun c20 => ?_) (fun c20 => ?_)
      · refine a_s rfl rfl ?_
        exact a_zret rfl rfl rfl ⟨⟨false, rfl⟩, rfl⟩
      · refine a_s rfl rfl ?_
        refine a_goto rfl ?_
        exact a_zret rfl rfl rfl ⟨⟨true, rfl⟩, rfl⟩
theorem q_X6_readForgotten_203 {S : aS} {I : Nat → Nat → Int32} {L : Nat → Nat → Int64} {w1 w2 t : Nat} (hw : WdS S) (kk1 : WK w1) (kk2 : WK w2) : Sp S m_X6_readForgotten 14 0 0 [.ref 203] (hp I L w1 w2 t) (QT (Mt I) isZ L t) nX := by
  refine Sp_of ok_X6_readForgotten rfl rfl ?_
  show AW S m_X6_readForgotten 14 _ _ 0 0 0 [some (.ref 203)] [] (hp I L w1 w2 t)
  refine a_l0 rfl rfl rfl ?_
  refine a_getq rfl gfX6_20_6 rfl (rfl) ?_
  refine a_geti rfl gfX6_101_9 rfl ?_
  refine a_s rfl rfl ?_
  refine a_ic_ne rfl (fun c8 => ?_) (fun c8 => ?_)
  · refine a_s rfl rfl ?_
    exact a_zret rfl rfl rfl ⟨⟨false, rfl⟩, _, _, _, rfl, Mt.rf, kk1, kk2⟩
  · refine a_l0 rfl rfl rfl ?_
    refine a_getq rfl gfX6_16_6 rfl (rfl) ?_
    refine a_l0 rfl rfl rfl ?_
    refine a_getq rfl gfX6_20_6 rfl (rfl) ?_
    refine a_geti rfl gfX6_104_9 rfl ?_
    refine a_gV rfl lX6_107 mo_X5_isWaiting (q_X5_isWaiting_209) rfl rfl rfl ⟨5, _, rfl, rfl, rfl⟩ rfl (fun v' h' hv => ?_)
    obtain ⟨⟨v1, rfl⟩, rfl⟩ := hv
    refine a_if_ne rfl (fun c25 => ?_) (fun c25 => ?_)
    · refine a_l0 rfl rfl rfl ?_
      refine a_getq rfl gfX6_16_6 rfl (rfl) ?_
      refine a_getq rfl gfX6_111_5 rfl (rfl) ?_
      refine a_l0 rfl rfl rfl ?_
      refine a_getq rfl gfX6_20_6 rfl (rfl) ?_
      refine a_geti rfl gfX6_104_9 rfl ?_
      refine a_s rfl rfl ?_
      refine a_eSN0 rfl lX6_115 mo_X11_setAt (sp_X11_setAt rfl) rfl rfl rfl rfl ?_
      refine a_ren (P := Mt I) (Mt.fm (Mt.rf) (Fm.st (Fm.rf (s := sM)) (fun _ => rfl))) (fun I2 f3 => ?_)
      refine a_l0 rfl rfl rfl ?_
      refine a_getq rfl gfX6_20_6 rfl (rfl) ?_
      refine a_gV rfl lX6_65 mo_X9_next (q_X9_next_204_sT hw kk1 kk2) rfl rfl rfl ⟨9, _, rfl, rfl, rfl⟩ rfl (fun v' h' hv => ?_)
      obtain ⟨rfl, I5, w1_5, w2_5, rfl, f5, k1_5, k2_5⟩ := hv
      replace f5 : Mt I I5 := Mt.fm (f3) (Fm.mo f5 sT_sM)
      refine a_s rfl rfl ?_
      exact a_zret rfl rfl rfl ⟨⟨true, rfl⟩, _, _, _, rfl, f5, k1_5, k2_5⟩
    · refine a_s rfl rfl ?_
      exact a_zret rfl rfl rfl ⟨⟨false, rfl⟩, _, _, _, rfl, Mt.rf, kk1, kk2⟩
theorem q_X6_readSetting_203 {S : aS} {I : Nat → Nat → Int32} {L : Nat → Nat → Int64} {w1 w2 t : Nat} (hw : WdS S) (kk1 : WK w1) (kk2 : WK w2) : Sp S m_X6_readSetting 16 0 0 [.ref 203] (hp I L w1 w2 t) (QT (Mt I) isZ L t) nX := by
  refine Sp_of ok_X6_readSetting rfl rfl ?_
  show AW S m_X6_readSetting 16 _ _ 0 0 0 [some (.ref 203)] [] (hp I L w1 w2 t)
  refine a_l0 rfl rfl rfl ?_
  refine a_getq rfl gfX6_20_6 rfl (rfl) ?_
  refine a_getr rfl gfX6_24_9 rfl ?_
  refine a_pop1 (show _ = rv w1 :: _ from rfl) ?_
  refine a_gets rfl (inC4 (i := 219) rfl rfl) (hw.st (i := 10) (by decide)) ?_
  refine a_acmp_ne (rx := w1) (ry := 100 + 10 + 1) rfl (kk1.ac hw) (WK.ck hw (i := 10) (by decide)) (fun c10 => ?_) (fun c10 => ?_)
  · refine a_l0 rfl rfl rfl ?_
    refine a_getq rfl gfX6_20_6 rfl (rfl) ?_
    refine a_getr rfl gfX6_24_9 rfl ?_
    refine a_pop1 (show _ = rv w1 :: _ from rfl) ?_
    refine a_gets rfl (inC4 (i := 221) rfl rfl) (hw.st (i := 11) (by decide)) ?_
    refine a_acmp_ne (rx := w1) (ry := 100 + 11 + 1) rfl (kk1.ac hw) (WK.ck hw (i := 11) (by decide)) (fun c57 => ?_) (fun c57 => ?_)
    · refine a_l0 rfl rfl rfl ?_
      refine a_getq rfl gfX6_20_6 rfl (rfl) ?_
      refine a_getr rfl gfX6_24_9 rfl ?_
      refine a_pop1 (show _ = rv w1 :: _ from rfl) ?_
      refine a_gets rfl (inC4 (i := 223) rfl rfl) (hw.st (i := 12) (by decide)) ?_
      refine a_acmp_ne (rx := w1) (ry := 100 + 12 + 1) rfl (kk1.ac hw) (WK.ck hw (i := 12) (by decide)) (fun c104 => ?_) (fun c104 => ?_)
      · refine a_l0 rfl rfl rfl ?_
        refine a_getq rfl gfX6_20_6 rfl (rfl) ?_
        refine a_getr rfl gfX6_24_9 rfl ?_
        refine a_pop1 (show _ = rv w1 :: _ from rfl) ?_
        refine a_gets rfl (inC4 (i := 225) rfl rfl) (hw.st (i := 13) (by decide)) ?_
        refine a_acmp_ne (rx := w1) (ry := 100 + 13 + 1) rfl (kk1.ac hw) (WK.ck hw (i := 13) (by decide)) (fun c151 => ?_) (fun c151 => ?_)
        · refine a_l0 rfl rfl rfl ?_
          refine a_getq rfl gfX6_16_6 rfl (rfl) ?_
          refine a_l0 rfl rfl rfl ?_
          refine a_gets rfl (inC4 (i := 227) rfl rfl) (hw.st (i := 14) (by decide)) ?_
          refine a_s rfl rfl ?_
          refine a_s rfl rfl ?_
          refine a_gV rfl lX6_71 mo_X6_readNumberOf (q_X6_readNumberOf_203_sT hw kk1 kk2 ((show 14 < 27 by decide))) rfl rfl rfl ⟨6, _, rfl, rfl, rfl⟩ rfl (fun v' h' hv => ?_)
          obtain ⟨⟨v1, rfl⟩, I2, w1_2, w2_2, rfl, f2, k1_2, k2_2⟩ := hv
          replace f2 : Mt I I2 := Mt.fm (Mt.rf) (Fm.mo f2 sT_sM)
          refine a_puti rfl pfX6_146_5 rfl ?_
          refine a_ren (P := Mt I) (Mt.fm (f2) (Fm.up (Fm.rf (s := sM)) rfl)) (fun I3 f4 => ?_)
          refine a_l0 rfl rfl rfl ?_
          refine a_getq rfl gfX6_16_6 rfl (rfl) ?_
          refine a_geti rfl gfX6_146_5 rfl ?_
          refine a_s rfl rfl ?_
          refine a_ic_eq rfl (fun c214 => ?_) (fun c214 => ?_)
          · refine a_s rfl rfl ?_
            exact a_zret rfl rfl rfl ⟨⟨false, rfl⟩, _, _, _, rfl, f4, k1_2, k2_2⟩
          · refine a_s rfl rfl ?_
            refine a_goto rfl ?_
            exact a_zret rfl rfl rfl ⟨⟨true, rfl⟩, _, _, _, rfl, f4, k1_2, k2_2⟩
        · refine a_l0 rfl rfl rfl ?_
          refine a_getq rfl gfX6_16_6 rfl (rfl) ?_
          refine a_l0 rfl rfl rfl ?_
          refine a_gets rfl (inC4 (i := 225) rfl rfl) (hw.st (i := 13) (by decide)) ?_
          refine a_s rfl rfl ?_
          refine a_s rfl rfl ?_
          refine a_gV rfl lX6_71 mo_X6_readNumberOf (q_X6_readNumberOf_203_sT hw kk1 kk2 ((show 13 < 27 by decide))) rfl rfl rfl ⟨6, _, rfl, rfl, rfl⟩ rfl (fun v' h' hv => ?_)
          obtain ⟨⟨v5, rfl⟩, I6, w1_6, w2_6, rfl, f6, k1_6, k2_6⟩ := hv
          replace f6 : Mt I I6 := Mt.fm (Mt.rf) (Fm.mo f6 sT_sM)
          refine a_puti rfl pfX6_140_5 rfl ?_
          refine a_ren (P := Mt I) (Mt.fm (f6) (Fm.up (Fm.rf (s := sM)) rfl)) (fun I7 f8 => ?_)
          refine a_l0 rfl rfl rfl ?_
          refine a_getq rfl gfX6_16_6 rfl (rfl) ?_
          refine a_geti rfl gfX6_140_5 rfl ?_
          refine a_s rfl rfl ?_
          refine a_ic_eq rfl (fun c179 => ?_) (fun c179 => ?_)
          · refine a_s rfl rfl ?_
            exact a_zret rfl rfl rfl ⟨⟨false, rfl⟩, _, _, _, rfl, f8, k1_6, k2_6⟩
          · refine a_s rfl rfl ?_
            refine a_goto rfl ?_
            exact a_zret rfl rfl rfl ⟨⟨true, rfl⟩, _, _, _, rfl, f8, k1_6, k2_6⟩
      · refine a_l0 rfl rfl rfl ?_
        refine a_getq rfl gfX6_16_6 rfl (rfl) ?_
        refine a_l0 rfl rfl rfl ?_
        refine a_gets rfl (inC4 (i := 223) rfl rfl) (hw.st (i := 12) (by decide)) ?_
        refine a_s rfl rfl ?_
        refine a_s rfl rfl ?_
        refine a_gV rfl lX6_71 mo_X6_readNumberOf (q_X6_readNumberOf_203_sT hw kk1 kk2 ((show 12 < 27 by decide))) rfl rfl rfl ⟨6, _, rfl, rfl, rfl⟩ rfl (fun v' h' hv => ?_)
        obtain ⟨⟨v9, rfl⟩, I10, w1_10, w2_10, rfl, f10, k1_10, k2_10⟩ := hv
        replace f10 : Mt I I10 := Mt.fm (Mt.rf) (Fm.mo f10 sT_sM)
        refine a_puti rfl pfX6_134_5 rfl ?_
        refine a_ren (P := Mt I) (Mt.fm (f10) (Fm.up (Fm.rf (s := sM)) rfl)) (fun I11 f12 => ?_)
        refine a_l0 rfl rfl rfl ?_
        refine a_getq rfl gfX6_16_6 rfl (rfl) ?_
        refine a_geti rfl gfX6_134_5 rfl ?_
        refine a_s rfl rfl ?_
        refine a_ic_eq rfl (fun c132 => ?_) (fun c132 => ?_)
        · refine a_s rfl rfl ?_
          exact a_zret rfl rfl rfl ⟨⟨false, rfl⟩, _, _, _, rfl, f12, k1_10, k2_10⟩
        · refine a_s rfl rfl ?_
          refine a_goto rfl ?_
          exact a_zret rfl rfl rfl ⟨⟨true, rfl⟩, _, _, _, rfl, f12, k1_10, k2_10⟩
    · refine a_l0 rfl rfl rfl ?_
      refine a_getq rfl gfX6_16_6 rfl (rfl) ?_
      refine a_l0 rfl rfl rfl ?_
      refine a_gets rfl (inC4 (i := 221) rfl rfl) (hw.st (i := 11) (by decide)) ?_
      refine a_s rfl rfl ?_
      refine a_s rfl rfl ?_
      refine a_gV rfl lX6_71 mo_X6_readNumberOf (q_X6_readNumberOf_203_sT hw kk1 kk2 ((show 11 < 27 by decide))) rfl rfl rfl ⟨6, _, rfl, rfl, rfl⟩ rfl (fun v' h' hv => ?_)
      obtain ⟨⟨v13, rfl⟩, I14, w1_14, w2_14, rfl, f14, k1_14, k2_14⟩ := hv
      replace f14 : Mt I I14 := Mt.fm (Mt.rf) (Fm.mo f14 sT_sM)
      refine a_puti rfl pfX6_128_5 rfl ?_
      refine a_ren (P := Mt I) (Mt.fm (f14) (Fm.up (Fm.rf (s := sM)) rfl)) (fun I15 f16 => ?_)
      refine a_l0 rfl rfl rfl ?_
      refine a_getq rfl gfX6_16_6 rfl (rfl) ?_
      refine a_geti rfl gfX6_128_5 rfl ?_
      refine a_s rfl rfl ?_
      refine a_ic_eq rfl (fun c85 => ?_) (fun c85 => ?_)
      · refine a_s rfl rfl ?_
        exact a_zret rfl rfl rfl ⟨⟨false, rfl⟩, _, _, _, rfl, f16, k1_14, k2_14⟩
      · refine a_s rfl rfl ?_
        refine a_goto rfl ?_
        exact a_zret rfl rfl rfl ⟨⟨true, rfl⟩, _, _, _, rfl, f16, k1_14, k2_14⟩
  · refine a_l0 rfl rfl rfl ?_
    refine a_getq rfl gfX6_16_6 rfl (rfl) ?_
    refine a_l0 rfl rfl rfl ?_
    refine a_gets rfl (inC4 (i := 219) rfl rfl) (hw.st (i := 10) (by decide)) ?_
    refine a_s rfl rfl ?_
    refine a_s rfl rfl ?_
    refine a_gV rfl lX6_71 mo_X6_readNumberOf (q_X6_readNumberOf_203_sT hw kk1 kk2 ((show 10 < 27 by decide))) rfl rfl rfl ⟨6, _, rfl, rfl, rfl⟩ rfl (fun v' h' hv => ?_)
    obtain ⟨⟨v17, rfl⟩, I18, w1_18, w2_18, rfl, f18, k1_18, k2_18⟩ := hv
    replace f18 : Mt I I18 := Mt.fm (Mt.rf) (Fm.mo f18 sT_sM)
    refine a_puti rfl pfX6_122_5 rfl ?_
    refine a_ren (P := Mt I) (Mt.fm (f18) (Fm.up (Fm.rf (s := sM)) rfl)) (fun I19 f20 => ?_)
    refine a_l0 rfl rfl rfl ?_
    refine a_getq rfl gfX6_16_6 rfl (rfl) ?_
    refine a_geti rfl gfX6_122_5 rfl ?_
    refine a_s rfl rfl ?_
    refine a_ic_eq rfl (fun c38 => ?_) (fun c38 => ?_)
    · refine a_s rfl rfl ?_
      exact a_zret rfl rfl rfl ⟨⟨false, rfl⟩, _, _, _, rfl, f20, k1_18, k2_18⟩
    · refine a_s rfl rfl ?_
      refine a_goto rfl ?_
      exact a_zret rfl rfl rfl ⟨⟨true, rfl⟩, _, _, _, rfl, f20, k1_18, k2_18⟩
theorem q_X6_readDuty_203 {S : aS} {I : Nat → Nat → Int32} {L : Nat → Nat → Int64} {w1 w2 t : Nat} (hw : WdS S) (kk1 : WK w1) (kk2 : WK w2) (hdl : ∃ nd, nd < 12 ∧ I 209 3 = nI nd) : Sp S m_X6_readDuty 16 0 0 [.ref 203] (hp I L w1 w2 t) (QT (Mt I) isZ L t) nX := by
  refine Sp_of ok_X6_readDuty rfl rfl ?_
  show AW S m_X6_readDuty 16 _ _ 0 0 0 [some (.ref 203), none, none, none, none, none] [] (hp I L w1 w2 t)
  refine a_l0 rfl rfl rfl ?_
  refine a_getq rfl gfX6_20_6 rfl (rfl) ?_
  refine a_gV rfl lX6_65 mo_X9_next (q_X9_next_204_sT hw kk1 kk2) rfl rfl rfl ⟨9, _, rfl, rfl, rfl⟩ rfl (fun v' h' hv => ?_)
  obtain ⟨rfl, I2, w1_2, w2_2, rfl, f2, k1_2, k2_2⟩ := hv
  refine a_l0 rfl rfl rfl ?_
  refine a_gets rfl (inC4 (i := 193) rfl rfl) (hw.st (i := 4) (by decide)) ?_
  refine a_s rfl rfl ?_
  refine a_l0 rfl rfl rfl ?_
  refine a_getq rfl gfX6_16_6 rfl (rfl) ?_
  refine a_geti rfl gfX6_35_5 rfl ?_
  refine a_s rfl rfl ?_
  refine a_s rfl rfl ?_
  refine a_gV rfl lX6_71 mo_X6_readNumberOf (q_X6_readNumberOf_203_sT hw k1_2 k2_2 ((show 4 < 27 by decide))) rfl rfl rfl ⟨6, _, rfl, rfl, rfl⟩ rfl (fun v' h' hv => ?_)
  obtain ⟨⟨v3, rfl⟩, I4, w1_4, w2_4, rfl, f4, k1_4, k2_4⟩ := hv
  replace f4 := Fm.tr (f2) f4
  refine a_s1 rfl rfl rfl rfl rfl rfl ?_
  refine a_l1 rfl rfl rfl ?_
  refine a_s rfl rfl ?_
  refine a_ic_ne rfl (fun c27 => ?_) (fun c27 => ?_)
  · refine a_l0 rfl rfl rfl ?_
    refine a_gets rfl (inC4 (i := 195) rfl rfl) (hw.st (i := 5) (by decide)) ?_
    refine a_s rfl rfl ?_
    refine a_s rfl rfl ?_
    refine a_gV rfl lX6_71 mo_X6_readNumberOf (q_X6_readNumberOf_203_sT hw k1_4 k2_4 ((show 5 < 27 by decide))) rfl rfl rfl ⟨6, _, rfl, rfl, rfl⟩ rfl (fun v' h' hv => ?_)
    obtain ⟨⟨v5, rfl⟩, I6, w1_6, w2_6, rfl, f6, k1_6, k2_6⟩ := hv
    replace f6 := Fm.tr (f4) f6
    refine a_s2 rfl rfl rfl rfl rfl rfl ?_
    refine a_l2 rfl rfl rfl ?_
    refine a_s rfl rfl ?_
    refine a_ic_ne rfl (fun c45 => ?_) (fun c45 => ?_)
    · refine a_s rfl rfl ?_
      refine a_s3 rfl rfl rfl rfl rfl rfl ?_
      refine a_l0 rfl rfl rfl ?_
      refine a_getq rfl gfX6_20_6 rfl (rfl) ?_
      refine a_getr rfl gfX6_24_9 rfl ?_
      refine a_pop1 (show _ = rv w1_6 :: _ from rfl) ?_
      refine a_gets rfl (inC4 (i := 197) rfl rfl) (hw.st (i := 6) (by decide)) ?_
      refine a_acmp_ne (rx := w1_6) (ry := 100 + 6 + 1) rfl (k1_6.ac hw) (WK.ck hw (i := 6) (by decide)) (fun c62 => ?_) (fun c62 => ?_)
      · refine a_s rfl rfl ?_
        refine a_s4 rfl rfl rfl rfl rfl rfl ?_
        refine a_l0 rfl rfl rfl ?_
        refine a_getq rfl gfX6_20_6 rfl (rfl) ?_
        refine a_getr rfl gfX6_24_9 rfl ?_
        refine a_pop1 (show _ = rv w1_6 :: _ from rfl) ?_
        refine a_gets rfl (inC4 (i := 199) rfl rfl) (hw.st (i := 7) (by decide)) ?_
        refine a_acmp_ne (rx := w1_6) (ry := 100 + 7 + 1) rfl (k1_6.ac hw) (WK.ck hw (i := 7) (by decide)) (fun c96 => ?_) (fun c96 => ?_)
        · refine a_s rfl rfl ?_
          refine a_s5 rfl rfl rfl rfl rfl rfl ?_
          refine a_l0 rfl rfl rfl ?_
          refine a_getq rfl gfX6_20_6 rfl (rfl) ?_
          refine a_getr rfl gfX6_24_9 rfl ?_
          refine a_pop1 (show _ = rv w1_6 :: _ from rfl) ?_
          refine a_gets rfl (inC4 (i := 201) rfl rfl) (hw.st (i := 8) (by decide)) ?_
          refine a_acmp_ne (rx := w1_6) (ry := 100 + 8 + 1) rfl (k1_6.ac hw) (WK.ck hw (i := 8) (by decide)) (fun c131 => ?_) (fun c131 => ?_)
          · refine a_l0 rfl rfl rfl ?_
            refine a_getq rfl gfX6_16_6 rfl (rfl) ?_
            refine a_l1 rfl rfl rfl ?_
            refine a_l2 rfl rfl rfl ?_
            refine a_l3 rfl rfl rfl ?_
            refine a_l4 rfl rfl rfl ?_
            refine a_l5 rfl rfl rfl ?_
            refine a_eV0 rfl lX6_97 mo_X5_addDuty q_X5_addDuty rfl rfl rfl ⟨5, _, rfl, rfl, rfl⟩ rfl ?_
            refine a_ren (P := Mt I) (Mt.tr (Mt.of (Fm.mo (f6) sT_sM)) (Mt.ad (match hdl with | ⟨nd, h1, h2⟩ => ⟨nd, h1, Eq.trans ((f6) 209 3 rfl) h2⟩))) (fun I7 f8 => ?_)
            refine a_s rfl rfl ?_
            exact a_zret rfl rfl rfl ⟨⟨true, rfl⟩, _, _, _, rfl, f8, k1_6, k2_6⟩
          · refine a_l0 rfl rfl rfl ?_
            refine a_gets rfl (inC4 (i := 201) rfl rfl) (hw.st (i := 8) (by decide)) ?_
            refine a_s rfl rfl ?_
            refine a_l0 rfl rfl rfl ?_
            refine a_getq rfl gfX6_16_6 rfl (rfl) ?_
            refine a_geti rfl gfX6_46_5 rfl ?_
            refine a_s rfl rfl ?_
            refine a_s rfl rfl ?_
            refine a_gV rfl lX6_71 mo_X6_readNumberOf (q_X6_readNumberOf_203_sT hw k1_6 k2_6 ((show 8 < 27 by decide))) rfl rfl rfl ⟨6, _, rfl, rfl, rfl⟩ rfl (fun v' h' hv => ?_)
            obtain ⟨⟨v9, rfl⟩, I10, w1_10, w2_10, rfl, f10, k1_10, k2_10⟩ := hv
            replace f10 := Fm.tr (f6) f10
            refine a_s5 rfl rfl rfl rfl rfl rfl ?_
            refine a_l5 rfl rfl rfl ?_
            refine a_s rfl rfl ?_
            refine a_ic_ne rfl (fun c156 => ?_) (fun c156 => ?_)
            · refine a_l0 rfl rfl rfl ?_
              refine a_getq rfl gfX6_16_6 rfl (rfl) ?_
              refine a_l1 rfl rfl rfl ?_
              refine a_l2 rfl rfl rfl ?_
              refine a_l3 rfl rfl rfl ?_
              refine a_l4 rfl rfl rfl ?_
              refine a_l5 rfl rfl rfl ?_
              refine a_eV0 rfl lX6_97 mo_X5_addDuty q_X5_addDuty rfl rfl rfl ⟨5, _, rfl, rfl, rfl⟩ rfl ?_
              refine a_ren (P := Mt I) (Mt.tr (Mt.of (Fm.mo (f10) sT_sM)) (Mt.ad (match hdl with | ⟨nd, h1, h2⟩ => ⟨nd, h1, Eq.trans ((f10) 209 3 rfl) h2⟩))) (fun I11 f12 => ?_)
              refine a_s rfl rfl ?_
              exact a_zret rfl rfl rfl ⟨⟨true, rfl⟩, _, _, _, rfl, f12, k1_10, k2_10⟩
            · refine a_s rfl rfl ?_
              exact a_zret rfl rfl rfl ⟨⟨false, rfl⟩, _, _, _, rfl, Mt.of (Fm.mo (f10) sT_sM), k1_10, k2_10⟩
        · refine a_l0 rfl rfl rfl ?_
          refine a_gets rfl (inC4 (i := 199) rfl rfl) (hw.st (i := 7) (by decide)) ?_
          refine a_s rfl rfl ?_
          refine a_s rfl rfl ?_
          refine a_gV rfl lX6_71 mo_X6_readNumberOf (q_X6_readNumberOf_203_sT hw k1_6 k2_6 ((show 7 < 27 by decide))) rfl rfl rfl ⟨6, _, rfl, rfl, rfl⟩ rfl (fun v' h' hv => ?_)
          obtain ⟨⟨v13, rfl⟩, I14, w1_14, w2_14, rfl, f14, k1_14, k2_14⟩ := hv
          replace f14 := Fm.tr (f6) f14
          refine a_s4 rfl rfl rfl rfl rfl rfl ?_
          refine a_l4 rfl rfl rfl ?_
          refine a_s rfl rfl ?_
          refine a_ic_ne rfl (fun c113 => ?_) (fun c113 => ?_)
          · refine a_s rfl rfl ?_
            refine a_s5 rfl rfl rfl rfl rfl rfl ?_
            refine a_l0 rfl rfl rfl ?_
            refine a_getq rfl gfX6_20_6 rfl (rfl) ?_
            refine a_getr rfl gfX6_24_9 rfl ?_
            refine a_pop1 (show _ = rv w1_14 :: _ from rfl) ?_
            refine a_gets rfl (inC4 (i := 201) rfl rfl) (hw.st (i := 8) (by decide)) ?_
            refine a_acmp_ne (rx := w1_14) (ry := 100 + 8 + 1) rfl (k1_14.ac hw) (WK.ck hw (i := 8) (by decide)) (fun c131 => ?_) (fun c131 => ?_)
            · refine a_l0 rfl rfl rfl ?_
              refine a_getq rfl gfX6_16_6 rfl (rfl) ?_
              refine a_l1 rfl rfl rfl ?_
              refine a_l2 rfl rfl rfl ?_
              refine a_l3 rfl rfl rfl ?_
              refine a_l4 rfl rfl rfl ?_
              refine a_l5 rfl rfl rfl ?_
              refine a_eV0 rfl lX6_97 mo_X5_addDuty q_X5_addDuty rfl rfl rfl ⟨5, _, rfl, rfl, rfl⟩ rfl ?_
              refine a_ren (P := Mt I) (Mt.tr (Mt.of (Fm.mo (f14) sT_sM)) (Mt.ad (match hdl with | ⟨nd, h1, h2⟩ => ⟨nd, h1, Eq.trans ((f14) 209 3 rfl) h2⟩))) (fun I15 f16 => ?_)
              refine a_s rfl rfl ?_
              exact a_zret rfl rfl rfl ⟨⟨true, rfl⟩, _, _, _, rfl, f16, k1_14, k2_14⟩
            · refine a_l0 rfl rfl rfl ?_
              refine a_gets rfl (inC4 (i := 201) rfl rfl) (hw.st (i := 8) (by decide)) ?_
              refine a_s rfl rfl ?_
              refine a_l0 rfl rfl rfl ?_
              refine a_getq rfl gfX6_16_6 rfl (rfl) ?_
              refine a_geti rfl gfX6_46_5 rfl ?_
              refine a_s rfl rfl ?_
              refine a_s rfl rfl ?_
              refine a_gV rfl lX6_71 mo_X6_readNumberOf (q_X6_readNumberOf_203_sT hw k1_14 k2_14 ((show 8 < 27 by decide))) rfl rfl rfl ⟨6, _, rfl, rfl, rfl⟩ rfl (fun v' h' hv => ?_)
              obtain ⟨⟨v17, rfl⟩, I18, w1_18, w2_18, rfl, f18, k1_18, k2_18⟩ := hv
              replace f18 := Fm.tr (f14) f18
              refine a_s5 rfl rfl rfl rfl rfl rfl ?_
              refine a_l5 rfl rfl rfl ?_
              refine a_s rfl rfl ?_
              refine a_ic_ne rfl (fun c156 => ?_) (fun c156 => ?_)
              · refine a_l0 rfl rfl rfl ?_
                refine a_getq rfl gfX6_16_6 rfl (rfl) ?_
                refine a_l1 rfl rfl rfl ?_
                refine a_l2 rfl rfl rfl ?_
                refine a_l3 rfl rfl rfl ?_
                refine a_l4 rfl rfl rfl ?_
                refine a_l5 rfl rfl rfl ?_
                refine a_eV0 rfl lX6_97 mo_X5_addDuty q_X5_addDuty rfl rfl rfl ⟨5, _, rfl, rfl, rfl⟩ rfl ?_
                refine a_ren (P := Mt I) (Mt.tr (Mt.of (Fm.mo (f18) sT_sM)) (Mt.ad (match hdl with | ⟨nd, h1, h2⟩ => ⟨nd, h1, Eq.trans ((f18) 209 3 rfl) h2⟩))) (fun I19 f20 => ?_)
                refine a_s rfl rfl ?_
                exact a_zret rfl rfl rfl ⟨⟨true, rfl⟩, _, _, _, rfl, f20, k1_18, k2_18⟩
              · refine a_s rfl rfl ?_
                exact a_zret rfl rfl rfl ⟨⟨false, rfl⟩, _, _, _, rfl, Mt.of (Fm.mo (f18) sT_sM), k1_18, k2_18⟩
          · refine a_s rfl rfl ?_
            exact a_zret rfl rfl rfl ⟨⟨false, rfl⟩, _, _, _, rfl, Mt.of (Fm.mo (f14) sT_sM), k1_14, k2_14⟩
      · refine a_l0 rfl rfl rfl ?_
        refine a_gets rfl (inC4 (i := 197) rfl rfl) (hw.st (i := 6) (by decide)) ?_
        refine a_s rfl rfl ?_
        refine a_s rfl rfl ?_
        refine a_gV rfl lX6_71 mo_X6_readNumberOf (q_X6_readNumberOf_203_sT hw k1_6 k2_6 ((show 6 < 27 by decide))) rfl rfl rfl ⟨6, _, rfl, rfl, rfl⟩ rfl (fun v' h' hv => ?_)
        obtain ⟨⟨v21, rfl⟩, I22, w1_22, w2_22, rfl, f22, k1_22, k2_22⟩ := hv
        replace f22 := Fm.tr (f6) f22
        refine a_s3 rfl rfl rfl rfl rfl rfl ?_
        refine a_l3 rfl rfl rfl ?_
        refine a_s rfl rfl ?_
        refine a_ic_ne rfl (fun c78 => ?_) (fun c78 => ?_)
        · refine a_s rfl rfl ?_
          refine a_s4 rfl rfl rfl rfl rfl rfl ?_
          refine a_l0 rfl rfl rfl ?_
          refine a_getq rfl gfX6_20_6 rfl (rfl) ?_
          refine a_getr rfl gfX6_24_9 rfl ?_
          refine a_pop1 (show _ = rv w1_22 :: _ from rfl) ?_
          refine a_gets rfl (inC4 (i := 199) rfl rfl) (hw.st (i := 7) (by decide)) ?_
          refine a_acmp_ne (rx := w1_22) (ry := 100 + 7 + 1) rfl (k1_22.ac hw) (WK.ck hw (i := 7) (by decide)) (fun c96 => ?_) (fun c96 => ?_)
          · refine a_s rfl rfl ?_
            refine a_s5 rfl rfl rfl rfl rfl rfl ?_
            refine a_l0 rfl rfl rfl ?_
            refine a_getq rfl gfX6_20_6 rfl (rfl) ?_
            refine a_getr rfl gfX6_24_9 rfl ?_
            refine a_pop1 (show _ = rv w1_22 :: _ from rfl) ?_
            refine a_gets rfl (inC4 (i := 201) rfl rfl) (hw.st (i := 8) (by decide)) ?_
            refine a_acmp_ne (rx := w1_22) (ry := 100 + 8 + 1) rfl (k1_22.ac hw) (WK.ck hw (i := 8) (by decide)) (fun c131 => ?_) (fun c131 => ?_)
            · refine a_l0 rfl rfl rfl ?_
              refine a_getq rfl gfX6_16_6 rfl (rfl) ?_
              refine a_l1 rfl rfl rfl ?_
              refine a_l2 rfl rfl rfl ?_
              refine a_l3 rfl rfl rfl ?_
              refine a_l4 rfl rfl rfl ?_
              refine a_l5 rfl rfl rfl ?_
              refine a_eV0 rfl lX6_97 mo_X5_addDuty q_X5_addDuty rfl rfl rfl ⟨5, _, rfl, rfl, rfl⟩ rfl ?_
              refine a_ren (P := Mt I) (Mt.tr (Mt.of (Fm.mo (f22) sT_sM)) (Mt.ad (match hdl with | ⟨nd, h1, h2⟩ => ⟨nd, h1, Eq.trans ((f22) 209 3 rfl) h2⟩))) (fun I23 f24 => ?_)
              refine a_s rfl rfl ?_
              exact a_zret rfl rfl rfl ⟨⟨true, rfl⟩, _, _, _, rfl, f24, k1_22, k2_22⟩
            · refine a_l0 rfl rfl rfl ?_
              refine a_gets rfl (inC4 (i := 201) rfl rfl) (hw.st (i := 8) (by decide)) ?_
              refine a_s rfl rfl ?_
              refine a_l0 rfl rfl rfl ?_
              refine a_getq rfl gfX6_16_6 rfl (rfl) ?_
              refine a_geti rfl gfX6_46_5 rfl ?_
              refine a_s rfl rfl ?_
              refine a_s rfl rfl ?_
              refine a_gV rfl lX6_71 mo_X6_readNumberOf (q_X6_readNumberOf_203_sT hw k1_22 k2_22 ((show 8 < 27 by decide))) rfl rfl rfl ⟨6, _, rfl, rfl, rfl⟩ rfl (fun v' h' hv => ?_)
              obtain ⟨⟨v25, rfl⟩, I26, w1_26, w2_26, rfl, f26, k1_26, k2_26⟩ := hv
              replace f26 := Fm.tr (f22) f26
              refine a_s5 rfl rfl rfl rfl rfl rfl ?_
              refine a_l5 rfl rfl rfl ?_
              refine a_s rfl rfl ?_
              refine a_ic_ne rfl (fun c156 => ?_) (fun c156 => ?_)
              · refine a_l0 rfl rfl rfl ?_
                refine a_getq rfl gfX6_16_6 rfl (rfl) ?_
                refine a_l1 rfl rfl rfl ?_
                refine a_l2 rfl rfl rfl ?_
                refine a_l3 rfl rfl rfl ?_
                refine a_l4 rfl rfl rfl ?_
                refine a_l5 rfl rfl rfl ?_
                refine a_eV0 rfl lX6_97 mo_X5_addDuty q_X5_addDuty rfl rfl rfl ⟨5, _, rfl, rfl, rfl⟩ rfl ?_
                refine a_ren (P := Mt I) (Mt.tr (Mt.of (Fm.mo (f26) sT_sM)) (Mt.ad (match hdl with | ⟨nd, h1, h2⟩ => ⟨nd, h1, Eq.trans ((f26) 209 3 rfl) h2⟩))) (fun I27 f28 => ?_)
                refine a_s rfl rfl ?_
                exact a_zret rfl rfl rfl ⟨⟨true, rfl⟩, _, _, _, rfl, f28, k1_26, k2_26⟩
              · refine a_s rfl rfl ?_
                exact a_zret rfl rfl rfl ⟨⟨false, rfl⟩, _, _, _, rfl, Mt.of (Fm.mo (f26) sT_sM), k1_26, k2_26⟩
          · refine a_l0 rfl rfl rfl ?_
            refine a_gets rfl (inC4 (i := 199) rfl rfl) (hw.st (i := 7) (by decide)) ?_
            refine a_s rfl rfl ?_
            refine a_s rfl rfl ?_
            refine a_gV rfl lX6_71 mo_X6_readNumberOf (q_X6_readNumberOf_203_sT hw k1_22 k2_22 ((show 7 < 27 by decide))) rfl rfl rfl ⟨6, _, rfl, rfl, rfl⟩ rfl (fun v' h' hv => ?_)
            obtain ⟨⟨v29, rfl⟩, I30, w1_30, w2_30, rfl, f30, k1_30, k2_30⟩ := hv
            replace f30 := Fm.tr (f22) f30
            refine a_s4 rfl rfl rfl rfl rfl rfl ?_
            refine a_l4 rfl rfl rfl ?_
            refine a_s rfl rfl ?_
            refine a_ic_ne rfl (fun c113 => ?_) (fun c113 => ?_)
            · refine a_s rfl rfl ?_
              refine a_s5 rfl rfl rfl rfl rfl rfl ?_
              refine a_l0 rfl rfl rfl ?_
              refine a_getq rfl gfX6_20_6 rfl (rfl) ?_
              refine a_getr rfl gfX6_24_9 rfl ?_
              refine a_pop1 (show _ = rv w1_30 :: _ from rfl) ?_
              refine a_gets rfl (inC4 (i := 201) rfl rfl) (hw.st (i := 8) (by decide)) ?_
              refine a_acmp_ne (rx := w1_30) (ry := 100 + 8 + 1) rfl (k1_30.ac hw) (WK.ck hw (i := 8) (by decide)) (fun c131 => ?_) (fun c131 => ?_)
              · refine a_l0 rfl rfl rfl ?_
                refine a_getq rfl gfX6_16_6 rfl (rfl) ?_
                refine a_l1 rfl rfl rfl ?_
                refine a_l2 rfl rfl rfl ?_
                refine a_l3 rfl rfl rfl ?_
                refine a_l4 rfl rfl rfl ?_
                refine a_l5 rfl rfl rfl ?_
                refine a_eV0 rfl lX6_97 mo_X5_addDuty q_X5_addDuty rfl rfl rfl ⟨5, _, rfl, rfl, rfl⟩ rfl ?_
                refine a_ren (P := Mt I) (Mt.tr (Mt.of (Fm.mo (f30) sT_sM)) (Mt.ad (match hdl with | ⟨nd, h1, h2⟩ => ⟨nd, h1, Eq.trans ((f30) 209 3 rfl) h2⟩))) (fun I31 f32 => ?_)
                refine a_s rfl rfl ?_
                exact a_zret rfl rfl rfl ⟨⟨true, rfl⟩, _, _, _, rfl, f32, k1_30, k2_30⟩
              · refine a_l0 rfl rfl rfl ?_
                refine a_gets rfl (inC4 (i := 201) rfl rfl) (hw.st (i := 8) (by decide)) ?_
                refine a_s rfl rfl ?_
                refine a_l0 rfl rfl rfl ?_
                refine a_getq rfl gfX6_16_6 rfl (rfl) ?_
                refine a_geti rfl gfX6_46_5 rfl ?_
                refine a_s rfl rfl ?_
                refine a_s rfl rfl ?_
                refine a_gV rfl lX6_71 mo_X6_readNumberOf (q_X6_readNumberOf_203_sT hw k1_30 k2_30 ((show 8 < 27 by decide))) rfl rfl rfl ⟨6, _, rfl, rfl, rfl⟩ rfl (fun v' h' hv => ?_)
                obtain ⟨⟨v33, rfl⟩, I34, w1_34, w2_34, rfl, f34, k1_34, k2_34⟩ := hv
                replace f34 := Fm.tr (f30) f34
                refine a_s5 rfl rfl rfl rfl rfl rfl ?_
                refine a_l5 rfl rfl rfl ?_
                refine a_s rfl rfl ?_
                refine a_ic_ne rfl (fun c156 => ?_) (fun c156 => ?_)
                · refine a_l0 rfl rfl rfl ?_
                  refine a_getq rfl gfX6_16_6 rfl (rfl) ?_
                  refine a_l1 rfl rfl rfl ?_
                  refine a_l2 rfl rfl rfl ?_
                  refine a_l3 rfl rfl rfl ?_
                  refine a_l4 rfl rfl rfl ?_
                  refine a_l5 rfl rfl rfl ?_
                  refine a_eV0 rfl lX6_97 mo_X5_addDuty q_X5_addDuty rfl rfl rfl ⟨5, _, rfl, rfl, rfl⟩ rfl ?_
                  refine a_ren (P := Mt I) (Mt.tr (Mt.of (Fm.mo (f34) sT_sM)) (Mt.ad (match hdl with | ⟨nd, h1, h2⟩ => ⟨nd, h1, Eq.trans ((f34) 209 3 rfl) h2⟩))) (fun I35 f36 => ?_)
                  refine a_s rfl rfl ?_
                  exact a_zret rfl rfl rfl ⟨⟨true, rfl⟩, _, _, _, rfl, f36, k1_34, k2_34⟩
                · refine a_s rfl rfl ?_
                  exact a_zret rfl rfl rfl ⟨⟨false, rfl⟩, _, _, _, rfl, Mt.of (Fm.mo (f34) sT_sM), k1_34, k2_34⟩
            · refine a_s rfl rfl ?_
              exact a_zret rfl rfl rfl ⟨⟨false, rfl⟩, _, _, _, rfl, Mt.of (Fm.mo (f30) sT_sM), k1_30, k2_30⟩
        · refine a_s rfl rfl ?_
          exact a_zret rfl rfl rfl ⟨⟨false, rfl⟩, _, _, _, rfl, Mt.of (Fm.mo (f22) sT_sM), k1_22, k2_22⟩
    · refine a_s rfl rfl ?_
      exact a_zret rfl rfl rfl ⟨⟨false, rfl⟩, _, _, _, rfl, Mt.of (Fm.mo (f6) sT_sM), k1_6, k2_6⟩
  · refine a_s rfl rfl ?_
    exact a_zret rfl rfl rfl ⟨⟨false, rfl⟩, _, _, _, rfl, Mt.of (Fm.mo (f4) sT_sM), k1_4, k2_4⟩
theorem q_X6_readLine_203 {S : aS} {I : Nat → Nat → Int32} {L : Nat → Nat → Int64} {w1 w2 t : Nat} (hw : WdS S) (kk1 : WK w1) (kk2 : WK w2) (hci : CI I) : Sp S m_X6_readLine 17 0 0 [.ref 203] (hp I L w1 w2 t) (QT (Mt I) isZ L t) nX := by
  refine Sp_of ok_X6_readLine rfl rfl ?_
  show AW S m_X6_readLine 17 _ _ 0 0 0 [some (.ref 203)] [] (hp I L w1 w2 t)
  refine a_l0 rfl rfl rfl ?_
  refine a_getq rfl gfX6_20_6 rfl (rfl) ?_
  refine a_getr rfl gfX6_24_9 rfl ?_
  refine a_pop1 (show _ = rv w1 :: _ from rfl) ?_
  refine a_gets rfl (inC4 (i := 166) rfl rfl) (hw.st (i := 0) (by decide)) ?_
  refine a_acmp_ne (rx := w1) (ry := 100 + 0 + 1) rfl (kk1.ac hw) (WK.ck hw (i := 0) (by decide)) (fun c10 => ?_) (fun c10 => ?_)
  · refine a_l0 rfl rfl rfl ?_
    refine a_getq rfl gfX6_20_6 rfl (rfl) ?_
    refine a_getr rfl gfX6_24_9 rfl ?_
    refine a_pop1 (show _ = rv w1 :: _ from rfl) ?_
    refine a_gets rfl (inC4 (i := 187) rfl rfl) (hw.st (i := 3) (by decide)) ?_
    refine a_acmp_ne (rx := w1) (ry := 100 + 3 + 1) rfl (kk1.ac hw) (WK.ck hw (i := 3) (by decide)) (fun c48 => ?_) (fun c48 => ?_)
    · refine a_l0 rfl rfl rfl ?_
      refine a_getq rfl gfX6_20_6 rfl (rfl) ?_
      refine a_gets rfl (inC4 (i := 207) rfl rfl) (hw.st (i := 9) (by decide)) ?_
      refine a_gV rfl lX6_55 mo_X9_takeWord (q_X9_takeWord_204_sT hw kk1 kk2 ((show 9 < 27 by decide))) rfl rfl rfl ⟨9, _, rfl, rfl, rfl⟩ rfl (fun v' h' hv => ?_)
      obtain ⟨⟨v1, rfl⟩, I2, w1_2, w2_2, rfl, f2, k1_2, k2_2⟩ := hv
      replace f2 : Mt I I2 := Mt.fm (Mt.rf) (Fm.mo f2 sT_sM)
      refine a_if_eq rfl (fun c86 => ?_) (fun c86 => ?_)
      · refine a_l0 rfl rfl rfl ?_
        refine a_gV rfl lX6_62 mo_X6_readSetting (q_X6_readSetting_203 hw k1_2 k2_2) rfl rfl rfl ⟨6, _, rfl, rfl, rfl⟩ rfl (fun v' h' hv => ?_)
        obtain ⟨⟨v3, rfl⟩, I4, w1_4, w2_4, rfl, f4, k1_4, k2_4⟩ := hv
        replace f4 := Mt.tr (f2) f4
        exact a_zret rfl rfl (bI_nar _) ⟨⟨_, rfl⟩, _, _, _, rfl, f4, k1_4, k2_4⟩
      · refine a_l0 rfl rfl rfl ?_
        refine a_gV rfl lX6_59 mo_X6_readForgotten (q_X6_readForgotten_203 hw k1_2 k2_2) rfl rfl rfl ⟨6, _, rfl, rfl, rfl⟩ rfl (fun v' h' hv => ?_)
        obtain ⟨⟨v5, rfl⟩, I6, w1_6, w2_6, rfl, f6, k1_6, k2_6⟩ := hv
        replace f6 := Mt.tr (f2) f6
        exact a_zret rfl rfl (bI_nar _) ⟨⟨_, rfl⟩, _, _, _, rfl, f6, k1_6, k2_6⟩
    · refine a_l0 rfl rfl rfl ?_
      refine a_getq rfl gfX6_16_6 rfl (rfl) ?_
      refine a_geti rfl gfX6_46_5 rfl ?_
      refine a_s rfl rfl ?_
      refine a_ic_ge rfl (fun c60 => ?_) (fun c60 => ?_)
      · refine a_s rfl rfl ?_
        exact a_zret rfl rfl rfl ⟨⟨false, rfl⟩, _, _, _, rfl, Mt.rf, kk1, kk2⟩
      · refine a_l0 rfl rfl rfl ?_
        refine a_gV rfl lX6_49 mo_X6_readDuty (q_X6_readDuty_203 hw kk1 kk2 (DL.of hci c60)) rfl rfl rfl ⟨6, _, rfl, rfl, rfl⟩ rfl (fun v' h' hv => ?_)
        obtain ⟨⟨v7, rfl⟩, I8, w1_8, w2_8, rfl, f8, k1_8, k2_8⟩ := hv
        refine a_if_eq rfl (fun c67 => ?_) (fun c67 => ?_)
        · refine a_s rfl rfl ?_
          exact a_zret rfl rfl rfl ⟨⟨false, rfl⟩, _, _, _, rfl, f8, k1_8, k2_8⟩
        · refine a_s rfl rfl ?_
          refine a_goto rfl ?_
          exact a_zret rfl rfl rfl ⟨⟨true, rfl⟩, _, _, _, rfl, f8, k1_8, k2_8⟩
  · refine a_l0 rfl rfl rfl ?_
    refine a_getq rfl gfX6_16_6 rfl (rfl) ?_
    refine a_geti rfl gfX6_35_5 rfl ?_
    refine a_s rfl rfl ?_
    refine a_ic_ge rfl (fun c22 => ?_) (fun c22 => ?_)
    · refine a_s rfl rfl ?_
      exact a_zret rfl rfl rfl ⟨⟨false, rfl⟩, _, _, _, rfl, Mt.rf, kk1, kk2⟩
    · refine a_l0 rfl rfl rfl ?_
      refine a_gV rfl lX6_39 mo_X6_readPerson (q_X6_readPerson_203 hw kk1 kk2) rfl rfl rfl ⟨6, _, rfl, rfl, rfl⟩ rfl (fun v' h' hv => ?_)
      obtain ⟨⟨v9, rfl⟩, I10, w1_10, w2_10, rfl, f10, k1_10, k2_10⟩ := hv
      refine a_if_eq rfl (fun c29 => ?_) (fun c29 => ?_)
      · refine a_s rfl rfl ?_
        exact a_zret rfl rfl rfl ⟨⟨false, rfl⟩, _, _, _, rfl, f10, k1_10, k2_10⟩
      · refine a_s rfl rfl ?_
        refine a_goto rfl ?_
        exact a_zret rfl rfl rfl ⟨⟨true, rfl⟩, _, _, _, rfl, f10, k1_10, k2_10⟩
theorem q_X3_takeKind_220_sT {S : aS} {I : Nat → Nat → Int32} {L : Nat → Nat → Int64} {w1 w2 t : Nat} (hw : WdS S) (kk1 : WK w1) (kk2 : WK w2) : Sp S m_X3_takeKind 15 0 0 [.ref 220] (hp I L w1 w2 t) (QT (Fm sT I) isI L t) nX := by
  refine Sp_of ok_X3_takeKind rfl rfl ?_
  show AW S m_X3_takeKind 15 _ _ 0 0 0 [some (.ref 220)] [] (hp I L w1 w2 t)
  refine a_l0 rfl rfl rfl ?_
  refine a_getq rfl gfX3_28_3 rfl (rfl) ?_
  refine a_gets rfl (inC4 (i := 77) rfl rfl) (hw.st (i := 15) (by decide)) ?_
  refine a_gV rfl lX3_48 mo_X9_takeWord (q_X9_takeWord_221_sT hw kk1 kk2 ((show 15 < 27 by decide))) rfl rfl rfl ⟨9, _, rfl, rfl, rfl⟩ rfl (fun v' h' hv => ?_)
  obtain ⟨⟨v1, rfl⟩, I2, w1_2, w2_2, rfl, f2, k1_2, k2_2⟩ := hv
  refine a_if_eq rfl (fun c10 => ?_) (fun c10 => ?_)
  · refine a_l0 rfl rfl rfl ?_
    refine a_getq rfl gfX3_28_3 rfl (rfl) ?_
    refine a_gets rfl (inC4 (i := 83) rfl rfl) (hw.st (i := 16) (by decide)) ?_
    refine a_gV rfl lX3_48 mo_X9_takeWord (q_X9_takeWord_221_sT hw k1_2 k2_2 ((show 16 < 27 by decide))) rfl rfl rfl ⟨9, _, rfl, rfl, rfl⟩ rfl (fun v' h' hv => ?_)
    obtain ⟨⟨v3, rfl⟩, I4, w1_4, w2_4, rfl, f4, k1_4, k2_4⟩ := hv
    replace f4 := Fm.tr (f2) f4
    refine a_if_eq rfl (fun c25 => ?_) (fun c25 => ?_)
    · refine a_l0 rfl rfl rfl ?_
      refine a_getq rfl gfX3_28_3 rfl (rfl) ?_
      refine a_gets rfl (inC4 (i := 85) rfl rfl) (hw.st (i := 17) (by decide)) ?_
      refine a_gV rfl lX3_48 mo_X9_takeWord (q_X9_takeWord_221_sT hw k1_4 k2_4 ((show 17 < 27 by decide))) rfl rfl rfl ⟨9, _, rfl, rfl, rfl⟩ rfl (fun v' h' hv => ?_)
      obtain ⟨⟨v5, rfl⟩, I6, w1_6, w2_6, rfl, f6, k1_6, k2_6⟩ := hv
      replace f6 := Fm.tr (f4) f6
      refine a_if_eq rfl (fun c40 => ?_) (fun c40 => ?_)
      · refine a_s rfl rfl ?_
        exact a_iret rfl rfl ⟨⟨_, rfl⟩, _, _, _, rfl, f6, k1_6, k2_6⟩
      · refine a_s rfl rfl ?_
        refine a_goto rfl ?_
        exact a_iret rfl rfl ⟨⟨_, rfl⟩, _, _, _, rfl, f6, k1_6, k2_6⟩
    · refine a_s rfl rfl ?_
      exact a_iret rfl rfl ⟨⟨_, rfl⟩, _, _, _, rfl, f4, k1_4, k2_4⟩
  · refine a_s rfl rfl ?_
    exact a_iret rfl rfl ⟨⟨_, rfl⟩, _, _, _, rfl, f2, k1_2, k2_2⟩
theorem q_X3_joinAtHand_220 {S : aS} {I : Nat → Nat → Int32} {L : Nat → Nat → Int64} {w1 w2 t : Nat} (hw : WdS S) (kk1 : WK w1) (kk2 : WK w2) : Sp S m_X3_joinAtHand 12 0 0 [.ref 220] (hp I L w1 w2 t) (QE isI (hp I L w1 w2 t)) nX := by
  refine Sp_of ok_X3_joinAtHand rfl rfl ?_
  show AW S m_X3_joinAtHand 12 _ _ 0 0 0 [some (.ref 220)] [] (hp I L w1 w2 t)
  refine a_l0 rfl rfl rfl ?_
  refine a_getq rfl gfX3_28_3 rfl (rfl) ?_
  refine a_getr rfl gfX3_96_9 rfl ?_
  refine a_pop1 (show _ = rv w2 :: _ from rfl) ?_
  refine a_gets rfl (inC4 (i := 155) rfl rfl) (hw.st (i := 20) (by decide)) ?_
  refine a_acmp_ne (rx := w2) (ry := 100 + 20 + 1) rfl (kk2.ac hw) (WK.ck hw (i := 20) (by decide)) (fun c10 => ?_) (fun c10 => ?_)
  · refine a_l0 rfl rfl rfl ?_
    refine a_getq rfl gfX3_28_3 rfl (rfl) ?_
    refine a_getr rfl gfX3_96_9 rfl ?_
    refine a_pop1 (show _ = rv w2 :: _ from rfl) ?_
    refine a_gets rfl (inC4 (i := 157) rfl rfl) (hw.st (i := 19) (by decide)) ?_
    refine a_acmp_ne (rx := w2) (ry := 100 + 19 + 1) rfl (kk2.ac hw) (WK.ck hw (i := 19) (by decide)) (fun c27 => ?_) (fun c27 => ?_)
    · refine a_s rfl rfl ?_
      exact a_iret rfl rfl ⟨⟨_, rfl⟩, rfl⟩
    · refine a_s rfl rfl ?_
      refine a_goto rfl ?_
      exact a_iret rfl rfl ⟨⟨_, rfl⟩, rfl⟩
  · refine a_s rfl rfl ?_
    exact a_iret rfl rfl ⟨⟨_, rfl⟩, rfl⟩
theorem q_X3_partAtHand_220 {S : aS} {I : Nat → Nat → Int32} {L : Nat → Nat → Int64} {w1 w2 t : Nat} (hw : WdS S) (kk1 : WK w1) (kk2 : WK w2) : Sp S m_X3_partAtHand 12 0 0 [.ref 220] (hp I L w1 w2 t) (QE isI (hp I L w1 w2 t)) nX := by
  refine Sp_of ok_X3_partAtHand rfl rfl ?_
  show AW S m_X3_partAtHand 12 _ _ 0 0 0 [some (.ref 220), none] [] (hp I L w1 w2 t)
  refine a_l0 rfl rfl rfl ?_
  refine a_getq rfl gfX3_28_3 rfl (rfl) ?_
  refine a_geti rfl gfX3_138_9 rfl ?_
  refine a_s rfl rfl ?_
  refine a_ic_ne rfl (fun c8 => ?_) (fun c8 => ?_)
  · refine a_l0 rfl rfl rfl ?_
    refine a_getq rfl gfX3_28_3 rfl (rfl) ?_
    refine a_getr rfl gfX3_96_9 rfl ?_
    refine a_pop1 (show _ = rv w2 :: _ from rfl) ?_
    rcases kk2 with rfl | ⟨i, hi, rfl⟩
    · refine a_s1 rfl rfl rfl rfl rfl rfl ?_
      refine a_l1 rfl rfl rfl ?_
      refine a_ifnonnull_f rfl ?_
      refine a_s rfl rfl ?_
      refine a_goto rfl ?_
      exact a_iret rfl rfl ⟨⟨_, rfl⟩, rfl⟩
    · refine a_s1 rfl rfl rfl rfl rfl rfl ?_
      refine a_l1 rfl rfl rfl ?_
      refine a_ifnonnull_t rfl ?_
      refine a_l1 rfl rfl rfl ?_
      refine a_getc rfl (inC10 (i := 53) rfl rfl) (hw.pa hi) ?_
      exact a_iret rfl rfl ⟨⟨_, rfl⟩, rfl⟩
  · refine a_l0 rfl rfl rfl ?_
    refine a_getq rfl gfX3_28_3 rfl (rfl) ?_
    refine a_geti rfl gfX3_141_9 rfl ?_
    exact a_iret rfl rfl ⟨⟨_, rfl⟩, rfl⟩
theorem q_X3_hold_220 {S : aS} {I : Nat → Nat → Int32} {L : Nat → Nat → Int64} {w1 w2 t : Nat} {x1 : Int32} : Sp S m_X3_hold 13 0 0 [.ref 220, .int x1] (hp I L w1 w2 t) (QR (Mt I) isV L w1 w2 t) nX := by
  refine Sp_of ok_X3_hold rfl rfl ?_
  show AW S m_X3_hold 13 _ _ 0 0 0 [some (.ref 220), some (.int x1)] [] (hp I L w1 w2 t)
  refine a_l0 rfl rfl rfl ?_
  refine a_getq rfl gfX3_20_3 rfl (rfl) ?_
  refine a_l0 rfl rfl rfl ?_
  refine a_geti rfl gfX3_68_3 rfl ?_
  refine a_l1 rfl rfl rfl ?_
  refine a_eSN0 rfl lX3_112 mo_X11_setAt (sp_X11_setAt rfl) rfl rfl rfl rfl ?_
  refine a_ren (P := Mt I) (Mt.fm (Mt.rf) (Fm.st (Fm.rf (s := sM)) (fun _ => rfl))) (fun I1 f2 => ?_)
  refine a_l0 rfl rfl rfl ?_
  refine a_s rfl rfl ?_
  refine a_geti rfl gfX3_68_3 rfl ?_
  refine a_s rfl rfl ?_
  refine a_s rfl rfl ?_
  refine a_puti rfl pfX3_68_3 rfl ?_
  refine a_ren (P := Mt I) (Mt.fm (f2) (Fm.up (Fm.rf (s := sM)) rfl)) (fun I3 f4 => ?_)
  exact a_vret rfl rfl ⟨rfl, _, rfl, f4⟩
theorem q_X3_openDeeper_220 {S : aS} {I : Nat → Nat → Int32} {L : Nat → Nat → Int64} {w1 w2 t : Nat} (hw : WdS S) (kk1 : WK w1) (kk2 : WK w2) : Sp S m_X3_openDeeper 14 0 0 [.ref 220] (hp I L w1 w2 t) (QT (Mt I) isZ L t) nX := by
  refine Sp_of ok_X3_openDeeper rfl rfl ?_
  show AW S m_X3_openDeeper 14 _ _ 0 0 0 [some (.ref 220), none, none] [] (hp I L w1 w2 t)
  refine a_s rfl rfl ?_
  refine a_s1 rfl rfl rfl rfl rfl rfl ?_
  refine a_cnt (j0 := 0) (fun j ls h => ∃ I' w1' w2', ls = [some (.ref 220), some (.int (nI j)), none] ∧ h = hp I' L w1' w2' t ∧ Mt I I' ∧ WK w1' ∧ WK w2') (by decide) ⟨_, _, _, rfl, rfl, Mt.rf, kk1, kk2⟩ ⟨rfl, rfl, trivial⟩ ?_
  rintro j2 _ _ hj2 ⟨Ih2, w1h2, w2h2, rfl, rfl, fh2, k1h2, k2h2⟩ ih2
  refine a_l1 rfl rfl rfl ?_
  refine a_s rfl rfl ?_
  refine a_ic_gt rfl (fun c5 => ?_) (fun c5 => ?_)
  · refine a_s rfl rfl ?_
    exact a_zret rfl rfl rfl ⟨⟨false, rfl⟩, _, _, _, rfl, fh2, k1h2, k2h2⟩
  · refine a_l0 rfl rfl rfl ?_
    refine a_getq rfl gfX3_28_3 rfl (rfl) ?_
    refine a_getr rfl gfX3_96_9 rfl ?_
    refine a_pop1 (show _ = rv w2h2 :: _ from rfl) ?_
    refine a_gets rfl (inC4 (i := 105) rfl rfl) (hw.st (i := 21) (by decide)) ?_
    refine a_acmp_ne (rx := w2h2) (ry := 100 + 21 + 1) rfl (k2h2.ac hw) (WK.ck hw (i := 21) (by decide)) (fun c18 => ?_) (fun c18 => ?_)
    · refine a_s rfl rfl ?_
      refine a_s2 rfl rfl rfl rfl rfl rfl ?_
      refine a_l2 rfl rfl rfl ?_
      refine a_if_ne rfl (fun c28 => ?_) (fun c28 => ?_)
      · refine a_l0 rfl rfl rfl ?_
        refine a_geti rfl gfX3_72_3 rfl ?_
        refine a_s rfl rfl ?_
        refine a_ic_lt rfl (fun c51 => ?_) (fun c51 => ?_)
        · refine a_l0 rfl rfl rfl ?_
          refine a_s rfl rfl ?_
          refine a_geti rfl gfX3_72_3 rfl ?_
          refine a_s rfl rfl ?_
          refine a_s rfl rfl ?_
          refine a_puti rfl pfX3_72_3 rfl ?_
          refine a_ren (P := Mt I) (Mt.fm (fh2) (Fm.up (Fm.rf (s := sM)) rfl)) (fun I1 f2 => ?_)
          refine a_l0 rfl rfl rfl ?_
          refine a_l2 rfl rfl rfl ?_
          refine a_if_eq rfl (fun c68 => ?_) (fun c68 => ?_)
          · refine a_s rfl rfl ?_
            refine a_gV rfl lX3_90 mo_X3_hold (q_X3_hold_220) rfl rfl rfl ⟨3, _, rfl, rfl, rfl⟩ rfl (fun v' h' hv => ?_)
            obtain ⟨rfl, I4, rfl, f5⟩ := hv
            replace f5 := Mt.tr (f2) f5
            refine a_l0 rfl rfl rfl ?_
            refine a_getq rfl gfX3_28_3 rfl (rfl) ?_
            refine a_gV rfl lX3_93 mo_X9_next (q_X9_next_221_sT hw k1h2 k2h2) rfl rfl rfl ⟨9, _, rfl, rfl, rfl⟩ rfl (fun v' h' hv => ?_)
            obtain ⟨rfl, I7, w1_7, w2_7, rfl, f7, k1_7, k2_7⟩ := hv
            replace f7 : Mt I I7 := Mt.fm (f5) (Fm.mo f7 sT_sM)
            refine a_i1 rfl rfl rfl ?_
            refine a_goto rfl ?_
            exact ih2 _ _ _ _ (nI_gt1 (a := 6) (by decide) hj2 c5) ⟨_, _, _, rfl, rfl, f7, k1_7, k2_7⟩ ⟨rfl, nS _, trivial⟩
          · refine a_s rfl rfl ?_
            refine a_goto rfl ?_
            refine a_gV rfl lX3_90 mo_X3_hold (q_X3_hold_220) rfl rfl rfl ⟨3, _, rfl, rfl, rfl⟩ rfl (fun v' h' hv => ?_)
            obtain ⟨rfl, I9, rfl, f10⟩ := hv
            replace f10 := Mt.tr (f2) f10
            refine a_l0 rfl rfl rfl ?_
            refine a_getq rfl gfX3_28_3 rfl (rfl) ?_
            refine a_gV rfl lX3_93 mo_X9_next (q_X9_next_221_sT hw k1h2 k2h2) rfl rfl rfl ⟨9, _, rfl, rfl, rfl⟩ rfl (fun v' h' hv => ?_)
            obtain ⟨rfl, I12, w1_12, w2_12, rfl, f12, k1_12, k2_12⟩ := hv
            replace f12 : Mt I I12 := Mt.fm (f10) (Fm.mo f12 sT_sM)
            refine a_i1 rfl rfl rfl ?_
            refine a_goto rfl ?_
            exact ih2 _ _ _ _ (nI_gt1 (a := 6) (by decide) hj2 c5) ⟨_, _, _, rfl, rfl, f12, k1_12, k2_12⟩ ⟨rfl, nS _, trivial⟩
        · refine a_s rfl rfl ?_
          exact a_zret rfl rfl rfl ⟨⟨false, rfl⟩, _, _, _, rfl, fh2, k1h2, k2h2⟩
      · refine a_l0 rfl rfl rfl ?_
        refine a_getq rfl gfX3_28_3 rfl (rfl) ?_
        refine a_s rfl rfl ?_
        refine a_gV rfl lX3_108 mo_X9_isSign (q_X9_isSign_221) rfl rfl rfl ⟨9, _, rfl, rfl, rfl⟩ rfl (fun v' h' hv => ?_)
        obtain ⟨⟨v13, rfl⟩, rfl⟩ := hv
        refine a_if_ne rfl (fun c40 => ?_) (fun c40 => ?_)
        · refine a_l0 rfl rfl rfl ?_
          refine a_geti rfl gfX3_72_3 rfl ?_
          refine a_s rfl rfl ?_
          refine a_ic_lt rfl (fun c51 => ?_) (fun c51 => ?_)
          · refine a_l0 rfl rfl rfl ?_
            refine a_s rfl rfl ?_
            refine a_geti rfl gfX3_72_3 rfl ?_
            refine a_s rfl rfl ?_
            refine a_s rfl rfl ?_
            refine a_puti rfl pfX3_72_3 rfl ?_
            refine a_ren (P := Mt I) (Mt.fm (fh2) (Fm.up (Fm.rf (s := sM)) rfl)) (fun I14 f15 => ?_)
            refine a_l0 rfl rfl rfl ?_
            refine a_l2 rfl rfl rfl ?_
            refine a_if_eq rfl (fun c68 => ?_) (fun c68 => ?_)
            · refine a_s rfl rfl ?_
              refine a_gV rfl lX3_90 mo_X3_hold (q_X3_hold_220) rfl rfl rfl ⟨3, _, rfl, rfl, rfl⟩ rfl (fun v' h' hv => ?_)
              obtain ⟨rfl, I17, rfl, f18⟩ := hv
              replace f18 := Mt.tr (f15) f18
              refine a_l0 rfl rfl rfl ?_
              refine a_getq rfl gfX3_28_3 rfl (rfl) ?_
              refine a_gV rfl lX3_93 mo_X9_next (q_X9_next_221_sT hw k1h2 k2h2) rfl rfl rfl ⟨9, _, rfl, rfl, rfl⟩ rfl (fun v' h' hv => ?_)
              obtain ⟨rfl, I20, w1_20, w2_20, rfl, f20, k1_20, k2_20⟩ := hv
              replace f20 : Mt I I20 := Mt.fm (f18) (Fm.mo f20 sT_sM)
              refine a_i1 rfl rfl rfl ?_
              refine a_goto rfl ?_
              exact ih2 _ _ _ _ (nI_gt1 (a := 6) (by decide) hj2 c5) ⟨_, _, _, rfl, rfl, f20, k1_20, k2_20⟩ ⟨rfl, nS _, trivial⟩
            · refine a_s rfl rfl ?_
              refine a_goto rfl ?_
              refine a_gV rfl lX3_90 mo_X3_hold (q_X3_hold_220) rfl rfl rfl ⟨3, _, rfl, rfl, rfl⟩ rfl (fun v' h' hv => ?_)
              obtain ⟨rfl, I22, rfl, f23⟩ := hv
              replace f23 := Mt.tr (f15) f23
              refine a_l0 rfl rfl rfl ?_
              refine a_getq rfl gfX3_28_3 rfl (rfl) ?_
              refine a_gV rfl lX3_93 mo_X9_next (q_X9_next_221_sT hw k1h2 k2h2) rfl rfl rfl ⟨9, _, rfl, rfl, rfl⟩ rfl (fun v' h' hv => ?_)
              obtain ⟨rfl, I25, w1_25, w2_25, rfl, f25, k1_25, k2_25⟩ := hv
              replace f25 : Mt I I25 := Mt.fm (f23) (Fm.mo f25 sT_sM)
              refine a_i1 rfl rfl rfl ?_
              refine a_goto rfl ?_
              exact ih2 _ _ _ _ (nI_gt1 (a := 6) (by decide) hj2 c5) ⟨_, _, _, rfl, rfl, f25, k1_25, k2_25⟩ ⟨rfl, nS _, trivial⟩
          · refine a_s rfl rfl ?_
            exact a_zret rfl rfl rfl ⟨⟨false, rfl⟩, _, _, _, rfl, fh2, k1h2, k2h2⟩
        · refine a_s rfl rfl ?_
          exact a_zret rfl rfl rfl ⟨⟨true, rfl⟩, _, _, _, rfl, fh2, k1h2, k2h2⟩
    · refine a_s rfl rfl ?_
      refine a_goto rfl ?_
      refine a_s2 rfl rfl rfl rfl rfl rfl ?_
      refine a_l2 rfl rfl rfl ?_
      refine a_if_ne rfl (fun c28 => ?_) (fun c28 => ?_)
      · refine a_l0 rfl rfl rfl ?_
        refine a_geti rfl gfX3_72_3 rfl ?_
        refine a_s rfl rfl ?_
        refine a_ic_lt rfl (fun c51 => ?_) (fun c51 => ?_)
        · refine a_l0 rfl rfl rfl ?_
          refine a_s rfl rfl ?_
          refine a_geti rfl gfX3_72_3 rfl ?_
          refine a_s rfl rfl ?_
          refine a_s rfl rfl ?_
          refine a_puti rfl pfX3_72_3 rfl ?_
          refine a_ren (P := Mt I) (Mt.fm (fh2) (Fm.up (Fm.rf (s := sM)) rfl)) (fun I26 f27 => ?_)
          refine a_l0 rfl rfl rfl ?_
          refine a_l2 rfl rfl rfl ?_
          refine a_if_eq rfl (fun c68 => ?_) (fun c68 => ?_)
          · refine a_s rfl rfl ?_
            refine a_gV rfl lX3_90 mo_X3_hold (q_X3_hold_220) rfl rfl rfl ⟨3, _, rfl, rfl, rfl⟩ rfl (fun v' h' hv => ?_)
            obtain ⟨rfl, I29, rfl, f30⟩ := hv
            replace f30 := Mt.tr (f27) f30
            refine a_l0 rfl rfl rfl ?_
            refine a_getq rfl gfX3_28_3 rfl (rfl) ?_
            refine a_gV rfl lX3_93 mo_X9_next (q_X9_next_221_sT hw k1h2 k2h2) rfl rfl rfl ⟨9, _, rfl, rfl, rfl⟩ rfl (fun v' h' hv => ?_)
            obtain ⟨rfl, I32, w1_32, w2_32, rfl, f32, k1_32, k2_32⟩ := hv
            replace f32 : Mt I I32 := Mt.fm (f30) (Fm.mo f32 sT_sM)
            refine a_i1 rfl rfl rfl ?_
            refine a_goto rfl ?_
            exact ih2 _ _ _ _ (nI_gt1 (a := 6) (by decide) hj2 c5) ⟨_, _, _, rfl, rfl, f32, k1_32, k2_32⟩ ⟨rfl, nS _, trivial⟩
          · refine a_s rfl rfl ?_
            refine a_goto rfl ?_
            refine a_gV rfl lX3_90 mo_X3_hold (q_X3_hold_220) rfl rfl rfl ⟨3, _, rfl, rfl, rfl⟩ rfl (fun v' h' hv => ?_)
            obtain ⟨rfl, I34, rfl, f35⟩ := hv
            replace f35 := Mt.tr (f27) f35
            refine a_l0 rfl rfl rfl ?_
            refine a_getq rfl gfX3_28_3 rfl (rfl) ?_
            refine a_gV rfl lX3_93 mo_X9_next (q_X9_next_221_sT hw k1h2 k2h2) rfl rfl rfl ⟨9, _, rfl, rfl, rfl⟩ rfl (fun v' h' hv => ?_)
            obtain ⟨rfl, I37, w1_37, w2_37, rfl, f37, k1_37, k2_37⟩ := hv
            replace f37 : Mt I I37 := Mt.fm (f35) (Fm.mo f37 sT_sM)
            refine a_i1 rfl rfl rfl ?_
            refine a_goto rfl ?_
            exact ih2 _ _ _ _ (nI_gt1 (a := 6) (by decide) hj2 c5) ⟨_, _, _, rfl, rfl, f37, k1_37, k2_37⟩ ⟨rfl, nS _, trivial⟩
        · refine a_s rfl rfl ?_
          exact a_zret rfl rfl rfl ⟨⟨false, rfl⟩, _, _, _, rfl, fh2, k1h2, k2h2⟩
      · refine a_l0 rfl rfl rfl ?_
        refine a_getq rfl gfX3_28_3 rfl (rfl) ?_
        refine a_s rfl rfl ?_
        refine a_gV rfl lX3_108 mo_X9_isSign (q_X9_isSign_221) rfl rfl rfl ⟨9, _, rfl, rfl, rfl⟩ rfl (fun v' h' hv => ?_)
        obtain ⟨⟨v38, rfl⟩, rfl⟩ := hv
        refine a_if_ne rfl (fun c40 => ?_) (fun c40 => ?_)
        · refine a_l0 rfl rfl rfl ?_
          refine a_geti rfl gfX3_72_3 rfl ?_
          refine a_s rfl rfl ?_
          refine a_ic_lt rfl (fun c51 => ?_) (fun c51 => ?_)
          · refine a_l0 rfl rfl rfl ?_
            refine a_s rfl rfl ?_
            refine a_geti rfl gfX3_72_3 rfl ?_
            refine a_s rfl rfl ?_
            refine a_s rfl rfl ?_
            refine a_puti rfl pfX3_72_3 rfl ?_
            refine a_ren (P := Mt I) (Mt.fm (fh2) (Fm.up (Fm.rf (s := sM)) rfl)) (fun I39 f40 => ?_)
            refine a_l0 rfl rfl rfl ?_
            refine a_l2 rfl rfl rfl ?_
            refine a_if_eq rfl (fun c68 => ?_) (fun c68 => ?_)
            · refine a_s rfl rfl ?_
              refine a_gV rfl lX3_90 mo_X3_hold (q_X3_hold_220) rfl rfl rfl ⟨3, _, rfl, rfl, rfl⟩ rfl (fun v' h' hv => ?_)
              obtain ⟨rfl, I42, rfl, f43⟩ := hv
              replace f43 := Mt.tr (f40) f43
              refine a_l0 rfl rfl rfl ?_
              refine a_getq rfl gfX3_28_3 rfl (rfl) ?_
              refine a_gV rfl lX3_93 mo_X9_next (q_X9_next_221_sT hw k1h2 k2h2) rfl rfl rfl ⟨9, _, rfl, rfl, rfl⟩ rfl (fun v' h' hv => ?_)
              obtain ⟨rfl, I45, w1_45, w2_45, rfl, f45, k1_45, k2_45⟩ := hv
              replace f45 : Mt I I45 := Mt.fm (f43) (Fm.mo f45 sT_sM)
              refine a_i1 rfl rfl rfl ?_
              refine a_goto rfl ?_
              exact ih2 _ _ _ _ (nI_gt1 (a := 6) (by decide) hj2 c5) ⟨_, _, _, rfl, rfl, f45, k1_45, k2_45⟩ ⟨rfl, nS _, trivial⟩
            · refine a_s rfl rfl ?_
              refine a_goto rfl ?_
              refine a_gV rfl lX3_90 mo_X3_hold (q_X3_hold_220) rfl rfl rfl ⟨3, _, rfl, rfl, rfl⟩ rfl (fun v' h' hv => ?_)
              obtain ⟨rfl, I47, rfl, f48⟩ := hv
              replace f48 := Mt.tr (f40) f48
              refine a_l0 rfl rfl rfl ?_
              refine a_getq rfl gfX3_28_3 rfl (rfl) ?_
              refine a_gV rfl lX3_93 mo_X9_next (q_X9_next_221_sT hw k1h2 k2h2) rfl rfl rfl ⟨9, _, rfl, rfl, rfl⟩ rfl (fun v' h' hv => ?_)
              obtain ⟨rfl, I50, w1_50, w2_50, rfl, f50, k1_50, k2_50⟩ := hv
              replace f50 : Mt I I50 := Mt.fm (f48) (Fm.mo f50 sT_sM)
              refine a_i1 rfl rfl rfl ?_
              refine a_goto rfl ?_
              exact ih2 _ _ _ _ (nI_gt1 (a := 6) (by decide) hj2 c5) ⟨_, _, _, rfl, rfl, f50, k1_50, k2_50⟩ ⟨rfl, nS _, trivial⟩
          · refine a_s rfl rfl ?_
            exact a_zret rfl rfl rfl ⟨⟨false, rfl⟩, _, _, _, rfl, fh2, k1h2, k2h2⟩
        · refine a_s rfl rfl ?_
          exact a_zret rfl rfl rfl ⟨⟨true, rfl⟩, _, _, _, rfl, fh2, k1h2, k2h2⟩
theorem q_X3_closeDeeper_220 {S : aS} {I : Nat → Nat → Int32} {L : Nat → Nat → Int64} {w1 w2 t : Nat} (hw : WdS S) (kk1 : WK w1) (kk2 : WK w2) : Sp S m_X3_closeDeeper 15 0 0 [.ref 220] (hp I L w1 w2 t) (QT (Mt I) isV L t) nX := by
  refine Sp_of ok_X3_closeDeeper rfl rfl ?_
  show AW S m_X3_closeDeeper 15 _ _ 0 0 0 [some (.ref 220), none] [] (hp I L w1 w2 t)
  refine a_s rfl rfl ?_
  refine a_s1 rfl rfl rfl rfl rfl rfl ?_
  refine a_cnt (j0 := 0) (fun j ls h => ∃ I' w1' w2', ls = [some (.ref 220), some (.int (nI j))] ∧ h = hp I' L w1' w2' t ∧ Mt I I' ∧ WK w1' ∧ WK w2') (by decide) ⟨_, _, _, rfl, rfl, Mt.rf, kk1, kk2⟩ ⟨rfl, rfl, trivial⟩ ?_
  rintro j2 _ _ hj2 ⟨Ih2, w1h2, w2h2, rfl, rfl, fh2, k1h2, k2h2⟩ ih2
  refine a_l1 rfl rfl rfl ?_
  refine a_s rfl rfl ?_
  refine a_ic_ge rfl (fun c5 => ?_) (fun c5 => ?_)
  · exact a_vret rfl rfl ⟨rfl, _, _, _, rfl, fh2, k1h2, k2h2⟩
  · refine a_l0 rfl rfl rfl ?_
    refine a_getq rfl gfX3_28_3 rfl (rfl) ?_
    refine a_s rfl rfl ?_
    refine a_gV rfl lX3_108 mo_X9_isSign (q_X9_isSign_221) rfl rfl rfl ⟨9, _, rfl, rfl, rfl⟩ rfl (fun v' h' hv => ?_)
    obtain ⟨⟨v1, rfl⟩, rfl⟩ := hv
    refine a_if_eq rfl (fun c17 => ?_) (fun c17 => ?_)
    · exact a_vret rfl rfl ⟨rfl, _, _, _, rfl, fh2, k1h2, k2h2⟩
    · refine a_l0 rfl rfl rfl ?_
      refine a_s rfl rfl ?_
      refine a_gV rfl lX3_87 mo_X3_emitHeld (q_X3_emitHeld) rfl rfl rfl ⟨3, _, rfl, rfl, rfl⟩ rfl (fun v' h' hv => ?_)
      obtain ⟨rfl, I3, rfl, f4⟩ := hv
      replace f4 := Mt.tr (fh2) f4
      refine a_l0 rfl rfl rfl ?_
      refine a_geti rfl gfX3_68_3 rfl ?_
      refine a_if_ne rfl (fun c31 => ?_) (fun c31 => ?_)
      · refine a_l0 rfl rfl rfl ?_
        refine a_s rfl rfl ?_
        refine a_geti rfl gfX3_68_3 rfl ?_
        refine a_s rfl rfl ?_
        refine a_s rfl rfl ?_
        refine a_puti rfl pfX3_68_3 rfl ?_
        refine a_ren (P := Mt I) (Mt.fm (f4) (Fm.up (Fm.rf (s := sM)) rfl)) (fun I5 f6 => ?_)
        refine a_l0 rfl rfl rfl ?_
        refine a_s rfl rfl ?_
        refine a_geti rfl gfX3_72_3 rfl ?_
        refine a_s rfl rfl ?_
        refine a_s rfl rfl ?_
        refine a_puti rfl pfX3_72_3 rfl ?_
        refine a_ren (P := Mt I) (Mt.fm (f6) (Fm.up (Fm.rf (s := sM)) rfl)) (fun I7 f8 => ?_)
        refine a_l0 rfl rfl rfl ?_
        refine a_getq rfl gfX3_28_3 rfl (rfl) ?_
        refine a_gV rfl lX3_93 mo_X9_next (q_X9_next_221_sT hw k1h2 k2h2) rfl rfl rfl ⟨9, _, rfl, rfl, rfl⟩ rfl (fun v' h' hv => ?_)
        obtain ⟨rfl, I10, w1_10, w2_10, rfl, f10, k1_10, k2_10⟩ := hv
        replace f10 : Mt I I10 := Mt.fm (f8) (Fm.mo f10 sT_sM)
        refine a_i1 rfl rfl rfl ?_
        refine a_goto rfl ?_
        exact ih2 _ _ _ _ c5 ⟨_, _, _, rfl, rfl, f10, k1_10, k2_10⟩ ⟨rfl, nS _, trivial⟩
      · exact a_vret rfl rfl ⟨rfl, _, _, _, rfl, f4, k1h2, k2h2⟩
theorem q_X3_readSum_220 {S : aS} {I : Nat → Nat → Int32} {L : Nat → Nat → Int64} {w1 w2 t : Nat} (hw : WdS S) (kk1 : WK w1) (kk2 : WK w2) : Sp S m_X3_readSum 14 0 0 [.ref 220] (hp I L w1 w2 t) (QT (Mt I) isZ L t) nX := by
  refine Sp_of ok_X3_readSum rfl rfl ?_
  show AW S m_X3_readSum 14 _ _ 0 0 0 [some (.ref 220), none, none] [] (hp I L w1 w2 t)
  refine a_l0 rfl rfl rfl ?_
  refine a_gV rfl lX3_135 mo_X3_partAtHand (q_X3_partAtHand_220 hw kk1 kk2) rfl rfl rfl ⟨3, _, rfl, rfl, rfl⟩ rfl (fun v' h' hv => ?_)
  obtain ⟨⟨v1, rfl⟩, rfl⟩ := hv
  refine a_s1 rfl rfl rfl rfl rfl rfl ?_
  refine a_l1 rfl rfl rfl ?_
  refine a_s rfl rfl ?_
  refine a_ic_ne rfl (fun c7 => ?_) (fun c7 => ?_)
  · refine a_l0 rfl rfl rfl ?_
    refine a_getq rfl gfX3_28_3 rfl (rfl) ?_
    refine a_gV rfl lX3_93 mo_X9_next (q_X9_next_221_sT hw kk1 kk2) rfl rfl rfl ⟨9, _, rfl, rfl, rfl⟩ rfl (fun v' h' hv => ?_)
    obtain ⟨rfl, I3, w1_3, w2_3, rfl, f3, k1_3, k2_3⟩ := hv
    replace f3 : Mt I I3 := Mt.fm (Mt.rf) (Fm.mo f3 sT_sM)
    refine a_l0 rfl rfl rfl ?_
    refine a_getq rfl gfX3_14_3 rfl (rfl) ?_
    refine a_l1 rfl rfl rfl ?_
    refine a_eV0 rfl lX3_120 mo_X2_emit (q_X2_emit) rfl rfl rfl ⟨2, _, rfl, rfl, rfl⟩ rfl ?_
    refine a_ren (P := Mt I) (Mt.fm (f3) (Fm.tr (Fm.rf (s := sM)) emitH_fm)) (fun I4 f5 => ?_)
    refine a_s rfl rfl ?_
    refine a_s2 rfl rfl rfl rfl rfl rfl ?_
    refine a_cnt (j0 := 0) (fun j ls h => ∃ a0, ∃ I' w1' w2', ls = [some (.ref 220), some (.int a0), some (.int (nI j))] ∧ h = hp I' L w1' w2' t ∧ Mt I I' ∧ WK w1' ∧ WK w2') (by decide) ⟨_, _, _, _, rfl, rfl, f5, k1_3, k2_3⟩ ⟨rfl, rfl, rfl, trivial⟩ ?_
    rintro j29 _ _ hj29 ⟨a0_29, Ih29, w1h29, w2h29, rfl, rfl, fh29, k1h29, k2h29⟩ ih29
    refine a_l2 rfl rfl rfl ?_
    refine a_s rfl rfl ?_
    refine a_ic_ge rfl (fun c33 => ?_) (fun c33 => ?_)
    · refine a_s rfl rfl ?_
      exact a_zret rfl rfl rfl ⟨⟨true, rfl⟩, _, _, _, rfl, fh29, k1h29, k2h29⟩
    · refine a_l0 rfl rfl rfl ?_
      refine a_getq rfl gfX3_28_3 rfl (rfl) ?_
      refine a_s rfl rfl ?_
      refine a_gV rfl lX3_108 mo_X9_isSign (q_X9_isSign_221) rfl rfl rfl ⟨9, _, rfl, rfl, rfl⟩ rfl (fun v' h' hv => ?_)
      obtain ⟨⟨v6, rfl⟩, rfl⟩ := hv
      refine a_if_eq rfl (fun c45 => ?_) (fun c45 => ?_)
      · refine a_s rfl rfl ?_
        exact a_zret rfl rfl rfl ⟨⟨true, rfl⟩, _, _, _, rfl, fh29, k1h29, k2h29⟩
      · refine a_l0 rfl rfl rfl ?_
        refine a_getq rfl gfX3_28_3 rfl (rfl) ?_
        refine a_gV rfl lX3_93 mo_X9_next (q_X9_next_221_sT hw k1h29 k2h29) rfl rfl rfl ⟨9, _, rfl, rfl, rfl⟩ rfl (fun v' h' hv => ?_)
        obtain ⟨rfl, I8, w1_8, w2_8, rfl, f8, k1_8, k2_8⟩ := hv
        replace f8 : Mt I I8 := Mt.fm (fh29) (Fm.mo f8 sT_sM)
        refine a_l0 rfl rfl rfl ?_
        refine a_gV rfl lX3_135 mo_X3_partAtHand (q_X3_partAtHand_220 hw k1_8 k2_8) rfl rfl rfl ⟨3, _, rfl, rfl, rfl⟩ rfl (fun v' h' hv => ?_)
        obtain ⟨⟨v9, rfl⟩, rfl⟩ := hv
        refine a_s1 rfl rfl rfl rfl rfl rfl ?_
        refine a_l1 rfl rfl rfl ?_
        refine a_s rfl rfl ?_
        refine a_ic_ne rfl (fun c62 => ?_) (fun c62 => ?_)
        · refine a_l0 rfl rfl rfl ?_
          refine a_getq rfl gfX3_28_3 rfl (rfl) ?_
          refine a_gV rfl lX3_93 mo_X9_next (q_X9_next_221_sT hw k1_8 k2_8) rfl rfl rfl ⟨9, _, rfl, rfl, rfl⟩ rfl (fun v' h' hv => ?_)
          obtain ⟨rfl, I11, w1_11, w2_11, rfl, f11, k1_11, k2_11⟩ := hv
          replace f11 : Mt I I11 := Mt.fm (f8) (Fm.mo f11 sT_sM)
          refine a_l0 rfl rfl rfl ?_
          refine a_getq rfl gfX3_14_3 rfl (rfl) ?_
          refine a_l1 rfl rfl rfl ?_
          refine a_eV0 rfl lX3_120 mo_X2_emit (q_X2_emit) rfl rfl rfl ⟨2, _, rfl, rfl, rfl⟩ rfl ?_
          refine a_ren (P := Mt I) (Mt.fm (f11) (Fm.tr (Fm.rf (s := sM)) emitH_fm)) (fun I12 f13 => ?_)
          refine a_l0 rfl rfl rfl ?_
          refine a_getq rfl gfX3_14_3 rfl (rfl) ?_
          refine a_s rfl rfl ?_
          refine a_eV0 rfl lX3_120 mo_X2_emit (q_X2_emit) rfl rfl rfl ⟨2, _, rfl, rfl, rfl⟩ rfl ?_
          refine a_ren (P := Mt I) (Mt.fm (f13) (Fm.tr (Fm.rf (s := sM)) emitH_fm)) (fun I14 f15 => ?_)
          refine a_i2 rfl rfl rfl ?_
          refine a_goto rfl ?_
          exact ih29 _ _ _ _ c33 ⟨_, _, _, _, rfl, rfl, f15, k1_11, k2_11⟩ ⟨rfl, rfl, nS _, trivial⟩
        · refine a_s rfl rfl ?_
          exact a_zret rfl rfl rfl ⟨⟨false, rfl⟩, _, _, _, rfl, f8, k1_8, k2_8⟩
  · refine a_s rfl rfl ?_
    exact a_zret rfl rfl rfl ⟨⟨false, rfl⟩, _, _, _, rfl, Mt.rf, kk1, kk2⟩
theorem q_X3_readAtom_220 {S : aS} {I : Nat → Nat → Int32} {L : Nat → Nat → Int64} {w1 w2 t : Nat} (hw : WdS S) (kk1 : WK w1) (kk2 : WK w2) : Sp S m_X3_readAtom 15 0 0 [.ref 220] (hp I L w1 w2 t) (QT (Mt I) isZ L t) nX := by
  refine Sp_of ok_X3_readAtom rfl rfl ?_
  show AW S m_X3_readAtom 15 _ _ 0 0 0 [some (.ref 220), none, none] [] (hp I L w1 w2 t)
  refine a_l0 rfl rfl rfl ?_
  refine a_getq rfl gfX3_28_3 rfl (rfl) ?_
  refine a_gets rfl (inC4 (i := 121) rfl rfl) (hw.st (i := 22) (by decide)) ?_
  refine a_gV rfl lX3_48 mo_X9_takeWord (q_X9_takeWord_221_sT hw kk1 kk2 ((show 22 < 27 by decide))) rfl rfl rfl ⟨9, _, rfl, rfl, rfl⟩ rfl (fun v' h' hv => ?_)
  obtain ⟨⟨v1, rfl⟩, I2, w1_2, w2_2, rfl, f2, k1_2, k2_2⟩ := hv
  replace f2 : Mt I I2 := Mt.fm (Mt.rf) (Fm.mo f2 sT_sM)
  refine a_if_eq rfl (fun c10 => ?_) (fun c10 => ?_)
  · refine a_l0 rfl rfl rfl ?_
    refine a_getq rfl gfX3_28_3 rfl (rfl) ?_
    refine a_gets rfl (inC4 (i := 127) rfl rfl) (hw.st (i := 23) (by decide)) ?_
    refine a_gV rfl lX3_48 mo_X9_takeWord (q_X9_takeWord_221_sT hw k1_2 k2_2 ((show 23 < 27 by decide))) rfl rfl rfl ⟨9, _, rfl, rfl, rfl⟩ rfl (fun v' h' hv => ?_)
    obtain ⟨⟨v3, rfl⟩, I4, w1_4, w2_4, rfl, f4, k1_4, k2_4⟩ := hv
    replace f4 : Mt I I4 := Mt.fm (f2) (Fm.mo f4 sT_sM)
    refine a_if_eq rfl (fun c35 => ?_) (fun c35 => ?_)
    · refine a_l0 rfl rfl rfl ?_
      refine a_gV rfl lX3_129 mo_X3_readSum (q_X3_readSum_220 hw k1_4 k2_4) rfl rfl rfl ⟨3, _, rfl, rfl, rfl⟩ rfl (fun v' h' hv => ?_)
      obtain ⟨⟨v5, rfl⟩, I6, w1_6, w2_6, rfl, f6, k1_6, k2_6⟩ := hv
      replace f6 := Mt.tr (f4) f6
      refine a_if_ne rfl (fun c54 => ?_) (fun c54 => ?_)
      · refine a_l0 rfl rfl rfl ?_
        refine a_getq rfl gfX3_28_3 rfl (rfl) ?_
        refine a_s rfl rfl ?_
        refine a_gV rfl lX3_108 mo_X9_isSign (q_X9_isSign_221) rfl rfl rfl ⟨9, _, rfl, rfl, rfl⟩ rfl (fun v' h' hv => ?_)
        obtain ⟨⟨v7, rfl⟩, rfl⟩ := hv
        refine a_if_eq rfl (fun c68 => ?_) (fun c68 => ?_)
        · refine a_s rfl rfl ?_
          refine a_s1 rfl rfl rfl rfl rfl rfl ?_
          refine a_l0 rfl rfl rfl ?_
          refine a_getq rfl gfX3_28_3 rfl (rfl) ?_
          refine a_s rfl rfl ?_
          refine a_gV rfl lX3_132 mo_X9_takeSign (q_X9_takeSign_221_sT hw k1_6 k2_6) rfl rfl rfl ⟨9, _, rfl, rfl, rfl⟩ rfl (fun v' h' hv => ?_)
          obtain ⟨⟨v8, rfl⟩, I9, w1_9, w2_9, rfl, f9, k1_9, k2_9⟩ := hv
          replace f9 : Mt I I9 := Mt.fm (f6) (Fm.mo f9 sT_sM)
          refine a_if_ne rfl (fun c90 => ?_) (fun c90 => ?_)
          · refine a_l0 rfl rfl rfl ?_
            refine a_gV rfl lX3_129 mo_X3_readSum (q_X3_readSum_220 hw k1_9 k2_9) rfl rfl rfl ⟨3, _, rfl, rfl, rfl⟩ rfl (fun v' h' hv => ?_)
            obtain ⟨⟨v10, rfl⟩, I11, w1_11, w2_11, rfl, f11, k1_11, k2_11⟩ := hv
            replace f11 := Mt.tr (f9) f11
            refine a_s2 rfl rfl rfl rfl rfl rfl ?_
            refine a_l0 rfl rfl rfl ?_
            refine a_getq rfl gfX3_14_3 rfl (rfl) ?_
            refine a_l1 rfl rfl rfl ?_
            refine a_eV0 rfl lX3_120 mo_X2_emit (q_X2_emit) rfl rfl rfl ⟨2, _, rfl, rfl, rfl⟩ rfl ?_
            refine a_ren (P := Mt I) (Mt.fm (f11) (Fm.tr (Fm.rf (s := sM)) emitH_fm)) (fun I12 f13 => ?_)
            refine a_l2 rfl rfl rfl ?_
            exact a_zret rfl rfl (bI_nar _) ⟨⟨_, rfl⟩, _, _, _, rfl, f13, k1_11, k2_11⟩
          · refine a_l0 rfl rfl rfl ?_
            refine a_getq rfl gfX3_28_3 rfl (rfl) ?_
            refine a_s rfl rfl ?_
            refine a_gV rfl lX3_132 mo_X9_takeSign (q_X9_takeSign_221_sT hw k1_9 k2_9) rfl rfl rfl ⟨9, _, rfl, rfl, rfl⟩ rfl (fun v' h' hv => ?_)
            obtain ⟨⟨v14, rfl⟩, I15, w1_15, w2_15, rfl, f15, k1_15, k2_15⟩ := hv
            replace f15 : Mt I I15 := Mt.fm (f9) (Fm.mo f15 sT_sM)
            refine a_if_ne rfl (fun c102 => ?_) (fun c102 => ?_)
            · refine a_l0 rfl rfl rfl ?_
              refine a_gV rfl lX3_129 mo_X3_readSum (q_X3_readSum_220 hw k1_15 k2_15) rfl rfl rfl ⟨3, _, rfl, rfl, rfl⟩ rfl (fun v' h' hv => ?_)
              obtain ⟨⟨v16, rfl⟩, I17, w1_17, w2_17, rfl, f17, k1_17, k2_17⟩ := hv
              replace f17 := Mt.tr (f15) f17
              refine a_s2 rfl rfl rfl rfl rfl rfl ?_
              refine a_l0 rfl rfl rfl ?_
              refine a_getq rfl gfX3_14_3 rfl (rfl) ?_
              refine a_l1 rfl rfl rfl ?_
              refine a_eV0 rfl lX3_120 mo_X2_emit (q_X2_emit) rfl rfl rfl ⟨2, _, rfl, rfl, rfl⟩ rfl ?_
              refine a_ren (P := Mt I) (Mt.fm (f17) (Fm.tr (Fm.rf (s := sM)) emitH_fm)) (fun I18 f19 => ?_)
              refine a_l2 rfl rfl rfl ?_
              exact a_zret rfl rfl (bI_nar _) ⟨⟨_, rfl⟩, _, _, _, rfl, f19, k1_17, k2_17⟩
            · refine a_s rfl rfl ?_
              exact a_zret rfl rfl rfl ⟨⟨false, rfl⟩, _, _, _, rfl, f15, k1_15, k2_15⟩
        · refine a_s rfl rfl ?_
          refine a_goto rfl ?_
          refine a_s1 rfl rfl rfl rfl rfl rfl ?_
          refine a_l0 rfl rfl rfl ?_
          refine a_getq rfl gfX3_28_3 rfl (rfl) ?_
          refine a_s rfl rfl ?_
          refine a_gV rfl lX3_132 mo_X9_takeSign (q_X9_takeSign_221_sT hw k1_6 k2_6) rfl rfl rfl ⟨9, _, rfl, rfl, rfl⟩ rfl (fun v' h' hv => ?_)
          obtain ⟨⟨v20, rfl⟩, I21, w1_21, w2_21, rfl, f21, k1_21, k2_21⟩ := hv
          replace f21 : Mt I I21 := Mt.fm (f6) (Fm.mo f21 sT_sM)
          refine a_if_ne rfl (fun c90 => ?_) (fun c90 => ?_)
          · refine a_l0 rfl rfl rfl ?_
            refine a_gV rfl lX3_129 mo_X3_readSum (q_X3_readSum_220 hw k1_21 k2_21) rfl rfl rfl ⟨3, _, rfl, rfl, rfl⟩ rfl (fun v' h' hv => ?_)
            obtain ⟨⟨v22, rfl⟩, I23, w1_23, w2_23, rfl, f23, k1_23, k2_23⟩ := hv
            replace f23 := Mt.tr (f21) f23
            refine a_s2 rfl rfl rfl rfl rfl rfl ?_
            refine a_l0 rfl rfl rfl ?_
            refine a_getq rfl gfX3_14_3 rfl (rfl) ?_
            refine a_l1 rfl rfl rfl ?_
            refine a_eV0 rfl lX3_120 mo_X2_emit (q_X2_emit) rfl rfl rfl ⟨2, _, rfl, rfl, rfl⟩ rfl ?_
            refine a_ren (P := Mt I) (Mt.fm (f23) (Fm.tr (Fm.rf (s := sM)) emitH_fm)) (fun I24 f25 => ?_)
            refine a_l2 rfl rfl rfl ?_
            exact a_zret rfl rfl (bI_nar _) ⟨⟨_, rfl⟩, _, _, _, rfl, f25, k1_23, k2_23⟩
          · refine a_l0 rfl rfl rfl ?_
            refine a_getq rfl gfX3_28_3 rfl (rfl) ?_
            refine a_s rfl rfl ?_
            refine a_gV rfl lX3_132 mo_X9_takeSign (q_X9_takeSign_221_sT hw k1_21 k2_21) rfl rfl rfl ⟨9, _, rfl, rfl, rfl⟩ rfl (fun v' h' hv => ?_)
            obtain ⟨⟨v26, rfl⟩, I27, w1_27, w2_27, rfl, f27, k1_27, k2_27⟩ := hv
            replace f27 : Mt I I27 := Mt.fm (f21) (Fm.mo f27 sT_sM)
            refine a_if_ne rfl (fun c102 => ?_) (fun c102 => ?_)
            · refine a_l0 rfl rfl rfl ?_
              refine a_gV rfl lX3_129 mo_X3_readSum (q_X3_readSum_220 hw k1_27 k2_27) rfl rfl rfl ⟨3, _, rfl, rfl, rfl⟩ rfl (fun v' h' hv => ?_)
              obtain ⟨⟨v28, rfl⟩, I29, w1_29, w2_29, rfl, f29, k1_29, k2_29⟩ := hv
              replace f29 := Mt.tr (f27) f29
              refine a_s2 rfl rfl rfl rfl rfl rfl ?_
              refine a_l0 rfl rfl rfl ?_
              refine a_getq rfl gfX3_14_3 rfl (rfl) ?_
              refine a_l1 rfl rfl rfl ?_
              refine a_eV0 rfl lX3_120 mo_X2_emit (q_X2_emit) rfl rfl rfl ⟨2, _, rfl, rfl, rfl⟩ rfl ?_
              refine a_ren (P := Mt I) (Mt.fm (f29) (Fm.tr (Fm.rf (s := sM)) emitH_fm)) (fun I30 f31 => ?_)
              refine a_l2 rfl rfl rfl ?_
              exact a_zret rfl rfl (bI_nar _) ⟨⟨_, rfl⟩, _, _, _, rfl, f31, k1_29, k2_29⟩
            · refine a_s rfl rfl ?_
              exact a_zret rfl rfl rfl ⟨⟨false, rfl⟩, _, _, _, rfl, f27, k1_27, k2_27⟩
      · refine a_s rfl rfl ?_
        exact a_zret rfl rfl rfl ⟨⟨false, rfl⟩, _, _, _, rfl, f6, k1_6, k2_6⟩
    · refine a_l0 rfl rfl rfl ?_
      refine a_getq rfl gfX3_14_3 rfl (rfl) ?_
      refine a_s rfl rfl ?_
      refine a_eV0 rfl lX3_120 mo_X2_emit (q_X2_emit) rfl rfl rfl ⟨2, _, rfl, rfl, rfl⟩ rfl ?_
      refine a_ren (P := Mt I) (Mt.fm (f4) (Fm.tr (Fm.rf (s := sM)) emitH_fm)) (fun I32 f33 => ?_)
      refine a_s rfl rfl ?_
      exact a_zret rfl rfl rfl ⟨⟨true, rfl⟩, _, _, _, rfl, f33, k1_4, k2_4⟩
  · refine a_l0 rfl rfl rfl ?_
    refine a_getq rfl gfX3_14_3 rfl (rfl) ?_
    refine a_s rfl rfl ?_
    refine a_eV0 rfl lX3_120 mo_X2_emit (q_X2_emit) rfl rfl rfl ⟨2, _, rfl, rfl, rfl⟩ rfl ?_
    refine a_ren (P := Mt I) (Mt.fm (f2) (Fm.tr (Fm.rf (s := sM)) emitH_fm)) (fun I34 f35 => ?_)
    refine a_s rfl rfl ?_
    exact a_zret rfl rfl rfl ⟨⟨true, rfl⟩, _, _, _, rfl, f35, k1_2, k2_2⟩
theorem q_X3_readCondition_220 {S : aS} {I : Nat → Nat → Int32} {L : Nat → Nat → Int64} {w1 w2 t : Nat} (hw : WdS S) (kk1 : WK w1) (kk2 : WK w2) : Sp S m_X3_readCondition 16 0 0 [.ref 220] (hp I L w1 w2 t) (QT (Mt I) isZ L t) nX := by
  refine Sp_of ok_X3_readCondition rfl rfl ?_
  show AW S m_X3_readCondition 16 _ _ 0 0 0 [some (.ref 220), none, none] [] (hp I L w1 w2 t)
  refine a_l0 rfl rfl rfl ?_
  refine a_s rfl rfl ?_
  refine a_puti rfl pfX3_68_3 rfl ?_
  refine a_ren (P := Mt I) (Mt.fm (Mt.rf) (Fm.up (Fm.rf (s := sM)) rfl)) (fun I1 f2 => ?_)
  refine a_l0 rfl rfl rfl ?_
  refine a_s rfl rfl ?_
  refine a_puti rfl pfX3_72_3 rfl ?_
  refine a_ren (P := Mt I) (Mt.fm (f2) (Fm.up (Fm.rf (s := sM)) rfl)) (fun I3 f4 => ?_)
  refine a_s rfl rfl ?_
  refine a_s1 rfl rfl rfl rfl rfl rfl ?_
  refine a_cnt (j0 := 0) (fun j ls h => ∃ I' w1' w2', ls = [some (.ref 220), some (.int (nI j)), none] ∧ h = hp I' L w1' w2' t ∧ Mt I I' ∧ WK w1' ∧ WK w2') (by decide) ⟨_, _, _, rfl, rfl, f4, kk1, kk2⟩ ⟨rfl, rfl, trivial⟩ ?_
  rintro j12 _ _ hj12 ⟨Ih12, w1h12, w2h12, rfl, rfl, fh12, k1h12, k2h12⟩ ih12
  refine a_l1 rfl rfl rfl ?_
  refine a_s rfl rfl ?_
  refine a_ic_ge rfl (fun c16 => ?_) (fun c16 => ?_)
  · refine a_s rfl rfl ?_
    exact a_zret rfl rfl rfl ⟨⟨false, rfl⟩, _, _, _, rfl, fh12, k1h12, k2h12⟩
  · refine a_l0 rfl rfl rfl ?_
    refine a_gV rfl lX3_75 mo_X3_openDeeper (q_X3_openDeeper_220 hw k1h12 k2h12) rfl rfl rfl ⟨3, _, rfl, rfl, rfl⟩ rfl (fun v' h' hv => ?_)
    obtain ⟨⟨v5, rfl⟩, I6, w1_6, w2_6, rfl, f6, k1_6, k2_6⟩ := hv
    replace f6 := Mt.tr (fh12) f6
    refine a_if_eq rfl (fun c23 => ?_) (fun c23 => ?_)
    · refine a_s rfl rfl ?_
      exact a_zret rfl rfl rfl ⟨⟨false, rfl⟩, _, _, _, rfl, f6, k1_6, k2_6⟩
    · refine a_l0 rfl rfl rfl ?_
      refine a_gV rfl lX3_78 mo_X3_readAtom (q_X3_readAtom_220 hw k1_6 k2_6) rfl rfl rfl ⟨3, _, rfl, rfl, rfl⟩ rfl (fun v' h' hv => ?_)
      obtain ⟨⟨v7, rfl⟩, I8, w1_8, w2_8, rfl, f8, k1_8, k2_8⟩ := hv
      replace f8 := Mt.tr (f6) f8
      refine a_if_ne rfl (fun c30 => ?_) (fun c30 => ?_)
      · refine a_l0 rfl rfl rfl ?_
        refine a_gV rfl lX3_81 mo_X3_closeDeeper (q_X3_closeDeeper_220 hw k1_8 k2_8) rfl rfl rfl ⟨3, _, rfl, rfl, rfl⟩ rfl (fun v' h' hv => ?_)
        obtain ⟨rfl, I10, w1_10, w2_10, rfl, f10, k1_10, k2_10⟩ := hv
        replace f10 := Mt.tr (f8) f10
        refine a_l0 rfl rfl rfl ?_
        refine a_gV rfl lX3_84 mo_X3_joinAtHand (q_X3_joinAtHand_220 hw k1_10 k2_10) rfl rfl rfl ⟨3, _, rfl, rfl, rfl⟩ rfl (fun v' h' hv => ?_)
        obtain ⟨⟨v11, rfl⟩, rfl⟩ := hv
        refine a_s2 rfl rfl rfl rfl rfl rfl ?_
        refine a_l2 rfl rfl rfl ?_
        refine a_s rfl rfl ?_
        refine a_ic_ne rfl (fun c46 => ?_) (fun c46 => ?_)
        · refine a_l0 rfl rfl rfl ?_
          refine a_l2 rfl rfl rfl ?_
          refine a_gV rfl lX3_87 mo_X3_emitHeld (q_X3_emitHeld) rfl rfl rfl ⟨3, _, rfl, rfl, rfl⟩ rfl (fun v' h' hv => ?_)
          obtain ⟨rfl, I13, rfl, f14⟩ := hv
          replace f14 := Mt.tr (f10) f14
          refine a_l0 rfl rfl rfl ?_
          refine a_l2 rfl rfl rfl ?_
          refine a_gV rfl lX3_90 mo_X3_hold (q_X3_hold_220) rfl rfl rfl ⟨3, _, rfl, rfl, rfl⟩ rfl (fun v' h' hv => ?_)
          obtain ⟨rfl, I16, rfl, f17⟩ := hv
          replace f17 := Mt.tr (f14) f17
          refine a_l0 rfl rfl rfl ?_
          refine a_getq rfl gfX3_28_3 rfl (rfl) ?_
          refine a_gV rfl lX3_93 mo_X9_next (q_X9_next_221_sT hw k1_10 k2_10) rfl rfl rfl ⟨9, _, rfl, rfl, rfl⟩ rfl (fun v' h' hv => ?_)
          obtain ⟨rfl, I19, w1_19, w2_19, rfl, f19, k1_19, k2_19⟩ := hv
          replace f19 : Mt I I19 := Mt.fm (f17) (Fm.mo f19 sT_sM)
          refine a_i1 rfl rfl rfl ?_
          refine a_goto rfl ?_
          exact ih12 _ _ _ _ c16 ⟨_, _, _, rfl, rfl, f19, k1_19, k2_19⟩ ⟨rfl, nS _, trivial⟩
        · refine a_l0 rfl rfl rfl ?_
          refine a_s rfl rfl ?_
          refine a_gV rfl lX3_87 mo_X3_emitHeld (q_X3_emitHeld) rfl rfl rfl ⟨3, _, rfl, rfl, rfl⟩ rfl (fun v' h' hv => ?_)
          obtain ⟨rfl, I21, rfl, f22⟩ := hv
          replace f22 := Mt.tr (f10) f22
          refine a_l0 rfl rfl rfl ?_
          refine a_geti rfl gfX3_68_3 rfl ?_
          refine a_if_ne rfl (fun c60 => ?_) (fun c60 => ?_)
          · refine a_s rfl rfl ?_
            exact a_zret rfl rfl rfl ⟨⟨false, rfl⟩, _, _, _, rfl, f22, k1_10, k2_10⟩
          · refine a_s rfl rfl ?_
            refine a_goto rfl ?_
            exact a_zret rfl rfl rfl ⟨⟨true, rfl⟩, _, _, _, rfl, f22, k1_10, k2_10⟩
      · refine a_s rfl rfl ?_
        exact a_zret rfl rfl rfl ⟨⟨false, rfl⟩, _, _, _, rfl, f8, k1_8, k2_8⟩
theorem q_X2_openLine_226 {S : aS} {I : Nat → Nat → Int32} {L : Nat → Nat → Int64} {w1 w2 t : Nat} {x1 x2 : Int32} : Sp S m_X2_openLine 13 0 0 [.ref 226, .int x1, .int x2] (hp I L w1 w2 t) (QR (Mt I) isV L w1 w2 t) nX := by
  refine Sp_of ok_X2_openLine rfl rfl ?_
  show AW S m_X2_openLine 13 _ _ 0 0 0 [some (.ref 226), some (.int x1), some (.int x2)] [] (hp I L w1 w2 t)
  refine a_l0 rfl rfl rfl ?_
  refine a_getq rfl gfX2_15_2 rfl (rfl) ?_
  refine a_l0 rfl rfl rfl ?_
  refine a_geti rfl gfX2_11_2 rfl ?_
  refine a_l1 rfl rfl rfl ?_
  refine a_eSN0 rfl lX2_44 mo_X11_setAt (sp_X11_setAt rfl) rfl rfl rfl rfl ?_
  refine a_ren (P := Mt I) (Mt.fm (Mt.rf) (Fm.st (Fm.rf (s := sM)) (fun _ => rfl))) (fun I1 f2 => ?_)
  refine a_l0 rfl rfl rfl ?_
  refine a_getq rfl gfX2_19_2 rfl (rfl) ?_
  refine a_l0 rfl rfl rfl ?_
  refine a_geti rfl gfX2_11_2 rfl ?_
  refine a_l2 rfl rfl rfl ?_
  refine a_eSN0 rfl lX2_44 mo_X11_setAt (sp_X11_setAt rfl) rfl rfl rfl rfl ?_
  refine a_ren (P := Mt I) (Mt.fm (f2) (Fm.st (Fm.rf (s := sM)) (fun _ => rfl))) (fun I3 f4 => ?_)
  refine a_l0 rfl rfl rfl ?_
  refine a_getq rfl gfX2_22_2 rfl (rfl) ?_
  refine a_l0 rfl rfl rfl ?_
  refine a_geti rfl gfX2_11_2 rfl ?_
  refine a_l0 rfl rfl rfl ?_
  refine a_geti rfl gfX2_41_2 rfl ?_
  refine a_eSN0 rfl lX2_44 mo_X11_setAt (sp_X11_setAt rfl) rfl rfl rfl rfl ?_
  refine a_ren (P := Mt I) (Mt.fm (f4) (Fm.st (Fm.rf (s := sM)) (fun _ => rfl))) (fun I5 f6 => ?_)
  exact a_vret rfl rfl ⟨rfl, _, rfl, f6⟩
theorem q_X2_closeLine_226 {S : aS} {I : Nat → Nat → Int32} {L : Nat → Nat → Int64} {w1 w2 t : Nat} : Sp S m_X2_closeLine 13 0 0 [.ref 226] (hp I L w1 w2 t) (QR (Mt I) isV L w1 w2 t) nX := by
  refine Sp_of ok_X2_closeLine rfl rfl ?_
  show AW S m_X2_closeLine 13 _ _ 0 0 0 [some (.ref 226)] [] (hp I L w1 w2 t)
  refine a_l0 rfl rfl rfl ?_
  refine a_getq rfl gfX2_25_2 rfl (rfl) ?_
  refine a_l0 rfl rfl rfl ?_
  refine a_geti rfl gfX2_11_2 rfl ?_
  refine a_l0 rfl rfl rfl ?_
  refine a_geti rfl gfX2_41_2 rfl ?_
  refine a_eSN0 rfl lX2_44 mo_X11_setAt (sp_X11_setAt rfl) rfl rfl rfl rfl ?_
  refine a_ren (P := Mt I) (Mt.fm (Mt.rf) (Fm.st (Fm.rf (s := sM)) (fun _ => rfl))) (fun I1 f2 => ?_)
  refine a_l0 rfl rfl rfl ?_
  refine a_s rfl rfl ?_
  refine a_geti rfl gfX2_11_2 rfl ?_
  refine a_s rfl rfl ?_
  refine a_s rfl rfl ?_
  refine a_puti rfl pfX2_11_2 rfl ?_
  refine a_ren (P := Mt I) (Mt.fm (f2) (Fm.up (Fm.rf (s := sM)) rfl)) (fun I3 f4 => ?_)
  exact a_vret rfl rfl ⟨rfl, _, rfl, f4⟩
theorem q_X3_readLine_220 {S : aS} {I : Nat → Nat → Int32} {L : Nat → Nat → Int64} {w1 w2 t : Nat} (hw : WdS S) (kk1 : WK w1) (kk2 : WK w2) : Sp S m_X3_readLine 17 0 0 [.ref 220] (hp I L w1 w2 t) (QT (Mt I) isZ L t) nX := by
  refine Sp_of ok_X3_readLine rfl rfl ?_
  show AW S m_X3_readLine 17 _ _ 0 0 0 [some (.ref 220), none, none] [] (hp I L w1 w2 t)
  refine a_l0 rfl rfl rfl ?_
  refine a_gV rfl lX3_24 mo_X3_takeKind (q_X3_takeKind_220_sT hw kk1 kk2) rfl rfl rfl ⟨3, _, rfl, rfl, rfl⟩ rfl (fun v' h' hv => ?_)
  obtain ⟨⟨v1, rfl⟩, I2, w1_2, w2_2, rfl, f2, k1_2, k2_2⟩ := hv
  replace f2 : Mt I I2 := Mt.fm (Mt.rf) (Fm.mo f2 sT_sM)
  refine a_s1 rfl rfl rfl rfl rfl rfl ?_
  refine a_l1 rfl rfl rfl ?_
  refine a_s rfl rfl ?_
  refine a_ic_ne rfl (fun c7 => ?_) (fun c7 => ?_)
  · refine a_l0 rfl rfl rfl ?_
    refine a_getq rfl gfX3_28_3 rfl (rfl) ?_
    refine a_s rfl rfl ?_
    refine a_s rfl rfl ?_
    refine a_gV rfl lX3_32 mo_X9_takeNumber (q_X9_takeNumber_221_sT hw k1_2 k2_2) rfl rfl rfl ⟨9, _, rfl, rfl, rfl⟩ rfl (fun v' h' hv => ?_)
    obtain ⟨⟨v3, rfl⟩, I4, w1_4, w2_4, rfl, f4, k1_4, k2_4⟩ := hv
    replace f4 : Mt I I4 := Mt.fm (f2) (Fm.mo f4 sT_sM)
    refine a_s2 rfl rfl rfl rfl rfl rfl ?_
    refine a_l2 rfl rfl rfl ?_
    refine a_s rfl rfl ?_
    refine a_ic_ne rfl (fun c25 => ?_) (fun c25 => ?_)
    · refine a_l0 rfl rfl rfl ?_
      refine a_getq rfl gfX3_14_3 rfl (rfl) ?_
      refine a_l1 rfl rfl rfl ?_
      refine a_l2 rfl rfl rfl ?_
      refine a_gV rfl lX3_38 mo_X2_openLine (q_X2_openLine_226) rfl rfl rfl ⟨2, _, rfl, rfl, rfl⟩ rfl (fun v' h' hv => ?_)
      obtain ⟨rfl, I6, rfl, f7⟩ := hv
      replace f7 := Mt.tr (f4) f7
      refine a_l0 rfl rfl rfl ?_
      refine a_getq rfl gfX3_28_3 rfl (rfl) ?_
      refine a_gets rfl (inC4 (i := 95) rfl rfl) (hw.st (i := 18) (by decide)) ?_
      refine a_gV rfl lX3_48 mo_X9_takeWord (q_X9_takeWord_221_sT hw k1_4 k2_4 ((show 18 < 27 by decide))) rfl rfl rfl ⟨9, _, rfl, rfl, rfl⟩ rfl (fun v' h' hv => ?_)
      obtain ⟨⟨v8, rfl⟩, I9, w1_9, w2_9, rfl, f9, k1_9, k2_9⟩ := hv
      replace f9 : Mt I I9 := Mt.fm (f7) (Fm.mo f9 sT_sM)
      refine a_if_eq rfl (fun c49 => ?_) (fun c49 => ?_)
      · refine a_l0 rfl rfl rfl ?_
        refine a_getq rfl gfX3_14_3 rfl (rfl) ?_
        refine a_gV rfl lX3_56 mo_X2_closeLine (q_X2_closeLine_226) rfl rfl rfl ⟨2, _, rfl, rfl, rfl⟩ rfl (fun v' h' hv => ?_)
        obtain ⟨rfl, I11, rfl, f12⟩ := hv
        replace f12 := Mt.tr (f9) f12
        refine a_s rfl rfl ?_
        exact a_zret rfl rfl rfl ⟨⟨true, rfl⟩, _, _, _, rfl, f12, k1_9, k2_9⟩
      · refine a_l0 rfl rfl rfl ?_
        refine a_gV rfl lX3_52 mo_X3_readCondition (q_X3_readCondition_220 hw k1_9 k2_9) rfl rfl rfl ⟨3, _, rfl, rfl, rfl⟩ rfl (fun v' h' hv => ?_)
        obtain ⟨⟨v13, rfl⟩, I14, w1_14, w2_14, rfl, f14, k1_14, k2_14⟩ := hv
        replace f14 := Mt.tr (f9) f14
        refine a_if_ne rfl (fun c56 => ?_) (fun c56 => ?_)
        · refine a_l0 rfl rfl rfl ?_
          refine a_getq rfl gfX3_14_3 rfl (rfl) ?_
          refine a_gV rfl lX3_56 mo_X2_closeLine (q_X2_closeLine_226) rfl rfl rfl ⟨2, _, rfl, rfl, rfl⟩ rfl (fun v' h' hv => ?_)
          obtain ⟨rfl, I16, rfl, f17⟩ := hv
          replace f17 := Mt.tr (f14) f17
          refine a_s rfl rfl ?_
          exact a_zret rfl rfl rfl ⟨⟨true, rfl⟩, _, _, _, rfl, f17, k1_14, k2_14⟩
        · refine a_s rfl rfl ?_
          exact a_zret rfl rfl rfl ⟨⟨false, rfl⟩, _, _, _, rfl, f14, k1_14, k2_14⟩
    · refine a_s rfl rfl ?_
      exact a_zret rfl rfl rfl ⟨⟨false, rfl⟩, _, _, _, rfl, f4, k1_4, k2_4⟩
  · refine a_s rfl rfl ?_
    exact a_zret rfl rfl rfl ⟨⟨false, rfl⟩, _, _, _, rfl, f2, k1_2, k2_2⟩
theorem dc_readLines {S : aS} : ∀ (G : aG) (s : State), SW S G s → va_Decl s ⟨RX8, "readLines", "(LPutOffParade$Tape;)I"⟩ := fun G s hS => va_Decl.of (args := #[]) (gT_ok hS _ (inT_gT (inC3 (i := 213) rfl rfl))) (gT_ok hS _ (inT_gT (inC3 (i := 214) rfl rfl)))
theorem dc_readLine {S : aS} : ∀ (G : aG) (s : State), SW S G s → va_Decl s ⟨RX8, "readLine", "()Z"⟩ := fun G s hS => va_Decl.abs (va_Nw.of rfl (hS.2.2.1 (.declares ⟨RX8, "readLine", "()Z"⟩) (inD4 (i := 68) rfl) rfl #[]))
theorem lu_82 : ∀ z ∈ [Cond.methodLink RX11 82 ⟨RX6, "readLines", "(LPutOffParade$Tape;)I"⟩, .sameMethod RX6 RX8 "readLines" "(LPutOffParade$Tape;)I", .selects RX6 ⟨RX6, "readLines", "(LPutOffParade$Tape;)I"⟩ m_X8_readLines.1, .instanceMethod m_X8_readLines.1], inT z := all4 (inC3 (i := 209) rfl rfl) (inC3 (i := 210) rfl rfl) (inC3 (i := 212) rfl rfl) (inC3 (i := 213) rfl rfl)
theorem lu_103 : ∀ z ∈ [Cond.methodLink RX11 103 ⟨RX3, "readLines", "(LPutOffParade$Tape;)I"⟩, .sameMethod RX3 RX8 "readLines" "(LPutOffParade$Tape;)I", .selects RX3 ⟨RX3, "readLines", "(LPutOffParade$Tape;)I"⟩ m_X8_readLines.1, .instanceMethod m_X8_readLines.1], inT z := all4 (inC5 (i := 81) rfl rfl) (inC5 (i := 82) rfl rfl) (inC5 (i := 83) rfl rfl) (inC3 (i := 213) rfl rfl)
theorem lu_30_6 : ∀ z ∈ [Cond.methodLink RX8 30 ⟨RX8, "readLine", "()Z"⟩, .sameMethod RX8 RX8 "readLine" "()Z", .selects RX6 ⟨RX8, "readLine", "()Z"⟩ m_X6_readLine.1, .instanceMethod m_X6_readLine.1], inT z := all4 (inC4 (i := 67) rfl rfl) (inC4 (i := 69) rfl rfl) (inC4 (i := 163) rfl rfl) (inC4 (i := 164) rfl rfl)
theorem lu_30_3 : ∀ z ∈ [Cond.methodLink RX8 30 ⟨RX8, "readLine", "()Z"⟩, .sameMethod RX8 RX8 "readLine" "()Z", .selects RX3 ⟨RX8, "readLine", "()Z"⟩ m_X3_readLine.1, .instanceMethod m_X3_readLine.1], inT z := all4 (inC4 (i := 67) rfl rfl) (inC4 (i := 69) rfl rfl) (inC4 (i := 70) rfl rfl) (inC4 (i := 71) rfl rfl)
theorem hx_rl : RX8 ≠ "java/lang/invoke/MethodHandle" ∧ RX8 ≠ "java/lang/invoke/VarHandle" ∧ (parseMethodDescriptor "(LPutOffParade$Tape;)I").map (fun d => d.parameters.length) = some 1 := by decide +kernel
theorem hx_rl0 : RX8 ≠ "java/lang/invoke/MethodHandle" ∧ RX8 ≠ "java/lang/invoke/VarHandle" ∧ (parseMethodDescriptor "()Z").map (fun d => d.parameters.length) = some 0 := by decide +kernel
theorem q_X8_readLines_203_201 {S : aS} {I : Nat → Nat → Int32} {L : Nat → Nat → Int64} {w1 w2 t : Nat} (hw : WdS S) (kk1 : WK w1) (kk2 : WK w2) (hci : CI I) : Sp S m_X8_readLines 20 0 0 [.ref 203, .ref 201] (hp I L w1 w2 t) (QT (Mt I) isI L t) nX := by
  refine Sp_of ok_X8_readLines rfl rfl ?_
  show AW S m_X8_readLines 20 _ _ 0 0 0 [some (.ref 203), some (.ref 201), none] [] (hp I L w1 w2 t)
  refine a_l0 rfl rfl rfl ?_
  refine a_getq rfl gfX8_12_6 rfl (rfl) ?_
  refine a_l1 rfl rfl rfl ?_
  refine a_gV rfl lX8_22 mo_X9_scan (q_X9_scan_204_201_sT hw kk1 kk2) rfl rfl rfl ⟨9, _, rfl, rfl, rfl⟩ rfl (fun v' h' hv => ?_)
  obtain ⟨rfl, I2, w1_2, w2_2, rfl, f2, k1_2, k2_2⟩ := hv
  replace f2 : Mt I I2 := Mt.fm (Mt.rf) (Fm.mo f2 sT_sM)
  refine a_l0 rfl rfl rfl ?_
  refine a_getq rfl gfX8_12_6 rfl (rfl) ?_
  refine a_gV rfl lX8_26 mo_X9_isEnd (q_X9_isEnd_204) rfl rfl rfl ⟨9, _, rfl, rfl, rfl⟩ rfl (fun v' h' hv => ?_)
  obtain ⟨⟨v3, rfl⟩, rfl⟩ := hv
  refine a_if_eq rfl (fun c15 => ?_) (fun c15 => ?_)
  · refine a_s rfl rfl ?_
    refine a_s2 rfl rfl rfl rfl rfl rfl ?_
    refine a_cnt (j0 := 0) (fun j ls h => ∃ I' w1' w2', ls = [some (.ref 203), some (.ref 201), some (.int (nI j))] ∧ h = hp I' L w1' w2' t ∧ Mt I I' ∧ WK w1' ∧ WK w2') (by decide) ⟨_, _, _, rfl, rfl, f2, k1_2, k2_2⟩ ⟨rfl, rfl, rfl, trivial⟩ ?_
    rintro j22 _ _ hj22 ⟨Ih22, w1h22, w2h22, rfl, rfl, fh22, k1h22, k2h22⟩ ih22
    refine a_l2 rfl rfl rfl ?_
    refine a_l0 rfl rfl rfl ?_
    refine a_geti rfl gfX8_18_6 rfl ?_
    refine a_ic_ge rfl (fun c27 => ?_) (fun c27 => ?_)
    · refine a_l0 rfl rfl rfl ?_
      refine a_getq rfl gfX8_12_6 rfl (rfl) ?_
      refine a_geti rfl gfX8_33_9 rfl ?_
      exact a_iret rfl rfl ⟨⟨_, rfl⟩, _, _, _, rfl, fh22, k1h22, k2h22⟩
    · refine a_l0 rfl rfl rfl ?_
      refine a_callU rfl lu_30_6 dc_readLine mo_X6_readLine hx_rl0 (q_X6_readLine_203 hw k1h22 k2h22 ((fh22).2.2.2.1 hci)) rfl rfl rfl ⟨6, _, rfl, rfl, rfl⟩ rfl (fun v' h' hv => ?_) (fun _ _ z => False.elim z)
      obtain ⟨⟨v4, rfl⟩, I5, w1_5, w2_5, rfl, f5, k1_5, k2_5⟩ := hv
      replace f5 := Mt.tr (fh22) f5
      refine a_if_ne rfl (fun c34 => ?_) (fun c34 => ?_)
      · refine a_l0 rfl rfl rfl ?_
        refine a_getq rfl gfX8_12_6 rfl (rfl) ?_
        refine a_gV rfl lX8_26 mo_X9_isEnd (q_X9_isEnd_204) rfl rfl rfl ⟨9, _, rfl, rfl, rfl⟩ rfl (fun v' h' hv => ?_)
        obtain ⟨⟨v6, rfl⟩, rfl⟩ := hv
        refine a_if_eq rfl (fun c52 => ?_) (fun c52 => ?_)
        · refine a_l0 rfl rfl rfl ?_
          refine a_getq rfl gfX8_12_6 rfl (rfl) ?_
          refine a_s rfl rfl ?_
          refine a_gV rfl lX8_36 mo_X9_takeSign (q_X9_takeSign_204_sT hw k1_5 k2_5) rfl rfl rfl ⟨9, _, rfl, rfl, rfl⟩ rfl (fun v' h' hv => ?_)
          obtain ⟨⟨v7, rfl⟩, I8, w1_8, w2_8, rfl, f8, k1_8, k2_8⟩ := hv
          replace f8 : Mt I I8 := Mt.fm (f5) (Fm.mo f8 sT_sM)
          refine a_if_ne rfl (fun c66 => ?_) (fun c66 => ?_)
          · refine a_i2 rfl rfl rfl ?_
            refine a_goto rfl ?_
            exact ih22 _ _ _ _ c27 ⟨_, _, _, rfl, rfl, f8, k1_8, k2_8⟩ ⟨rfl, rfl, nS _, trivial⟩
          · refine a_l0 rfl rfl rfl ?_
            refine a_getq rfl gfX8_12_6 rfl (rfl) ?_
            refine a_geti rfl gfX8_33_9 rfl ?_
            exact a_iret rfl rfl ⟨⟨_, rfl⟩, _, _, _, rfl, f8, k1_8, k2_8⟩
        · refine a_s rfl rfl ?_
          exact a_iret rfl rfl ⟨⟨_, rfl⟩, _, _, _, rfl, f5, k1_5, k2_5⟩
      · refine a_l0 rfl rfl rfl ?_
        refine a_getq rfl gfX8_12_6 rfl (rfl) ?_
        refine a_geti rfl gfX8_33_9 rfl ?_
        exact a_iret rfl rfl ⟨⟨_, rfl⟩, _, _, _, rfl, f5, k1_5, k2_5⟩
  · refine a_s rfl rfl ?_
    exact a_iret rfl rfl ⟨⟨_, rfl⟩, _, _, _, rfl, f2, k1_2, k2_2⟩
theorem q_X8_readLines_220_201 {S : aS} {I : Nat → Nat → Int32} {L : Nat → Nat → Int64} {w1 w2 t : Nat} (hw : WdS S) (kk1 : WK w1) (kk2 : WK w2) : Sp S m_X8_readLines 20 0 0 [.ref 220, .ref 201] (hp I L w1 w2 t) (QT (Mt I) isI L t) nX := by
  refine Sp_of ok_X8_readLines rfl rfl ?_
  show AW S m_X8_readLines 20 _ _ 0 0 0 [some (.ref 220), some (.ref 201), none] [] (hp I L w1 w2 t)
  refine a_l0 rfl rfl rfl ?_
  refine a_getq rfl gfX8_12_3 rfl (rfl) ?_
  refine a_l1 rfl rfl rfl ?_
  refine a_gV rfl lX8_22 mo_X9_scan (q_X9_scan_221_201_sT hw kk1 kk2) rfl rfl rfl ⟨9, _, rfl, rfl, rfl⟩ rfl (fun v' h' hv => ?_)
  obtain ⟨rfl, I2, w1_2, w2_2, rfl, f2, k1_2, k2_2⟩ := hv
  replace f2 : Mt I I2 := Mt.fm (Mt.rf) (Fm.mo f2 sT_sM)
  refine a_l0 rfl rfl rfl ?_
  refine a_getq rfl gfX8_12_3 rfl (rfl) ?_
  refine a_gV rfl lX8_26 mo_X9_isEnd (q_X9_isEnd_221) rfl rfl rfl ⟨9, _, rfl, rfl, rfl⟩ rfl (fun v' h' hv => ?_)
  obtain ⟨⟨v3, rfl⟩, rfl⟩ := hv
  refine a_if_eq rfl (fun c15 => ?_) (fun c15 => ?_)
  · refine a_s rfl rfl ?_
    refine a_s2 rfl rfl rfl rfl rfl rfl ?_
    refine a_cnt (j0 := 0) (fun j ls h => ∃ I' w1' w2', ls = [some (.ref 220), some (.ref 201), some (.int (nI j))] ∧ h = hp I' L w1' w2' t ∧ Mt I I' ∧ WK w1' ∧ WK w2') (by decide) ⟨_, _, _, rfl, rfl, f2, k1_2, k2_2⟩ ⟨rfl, rfl, rfl, trivial⟩ ?_
    rintro j22 _ _ hj22 ⟨Ih22, w1h22, w2h22, rfl, rfl, fh22, k1h22, k2h22⟩ ih22
    refine a_l2 rfl rfl rfl ?_
    refine a_l0 rfl rfl rfl ?_
    refine a_geti rfl gfX8_18_3 rfl ?_
    refine a_ic_ge rfl (fun c27 => ?_) (fun c27 => ?_)
    · refine a_l0 rfl rfl rfl ?_
      refine a_getq rfl gfX8_12_3 rfl (rfl) ?_
      refine a_geti rfl gfX8_33_9 rfl ?_
      exact a_iret rfl rfl ⟨⟨_, rfl⟩, _, _, _, rfl, fh22, k1h22, k2h22⟩
    · refine a_l0 rfl rfl rfl ?_
      refine a_callU rfl lu_30_3 dc_readLine mo_X3_readLine hx_rl0 (q_X3_readLine_220 hw k1h22 k2h22) rfl rfl rfl ⟨3, _, rfl, rfl, rfl⟩ rfl (fun v' h' hv => ?_) (fun _ _ z => False.elim z)
      obtain ⟨⟨v4, rfl⟩, I5, w1_5, w2_5, rfl, f5, k1_5, k2_5⟩ := hv
      replace f5 := Mt.tr (fh22) f5
      refine a_if_ne rfl (fun c34 => ?_) (fun c34 => ?_)
      · refine a_l0 rfl rfl rfl ?_
        refine a_getq rfl gfX8_12_3 rfl (rfl) ?_
        refine a_gV rfl lX8_26 mo_X9_isEnd (q_X9_isEnd_221) rfl rfl rfl ⟨9, _, rfl, rfl, rfl⟩ rfl (fun v' h' hv => ?_)
        obtain ⟨⟨v6, rfl⟩, rfl⟩ := hv
        refine a_if_eq rfl (fun c52 => ?_) (fun c52 => ?_)
        · refine a_l0 rfl rfl rfl ?_
          refine a_getq rfl gfX8_12_3 rfl (rfl) ?_
          refine a_s rfl rfl ?_
          refine a_gV rfl lX8_36 mo_X9_takeSign (q_X9_takeSign_221_sT hw k1_5 k2_5) rfl rfl rfl ⟨9, _, rfl, rfl, rfl⟩ rfl (fun v' h' hv => ?_)
          obtain ⟨⟨v7, rfl⟩, I8, w1_8, w2_8, rfl, f8, k1_8, k2_8⟩ := hv
          replace f8 : Mt I I8 := Mt.fm (f5) (Fm.mo f8 sT_sM)
          refine a_if_ne rfl (fun c66 => ?_) (fun c66 => ?_)
          · refine a_i2 rfl rfl rfl ?_
            refine a_goto rfl ?_
            exact ih22 _ _ _ _ c27 ⟨_, _, _, rfl, rfl, f8, k1_8, k2_8⟩ ⟨rfl, rfl, nS _, trivial⟩
          · refine a_l0 rfl rfl rfl ?_
            refine a_getq rfl gfX8_12_3 rfl (rfl) ?_
            refine a_geti rfl gfX8_33_9 rfl ?_
            exact a_iret rfl rfl ⟨⟨_, rfl⟩, _, _, _, rfl, f8, k1_8, k2_8⟩
        · refine a_s rfl rfl ?_
          exact a_iret rfl rfl ⟨⟨_, rfl⟩, _, _, _, rfl, f5, k1_5, k2_5⟩
      · refine a_l0 rfl rfl rfl ?_
        refine a_getq rfl gfX8_12_3 rfl (rfl) ?_
        refine a_geti rfl gfX8_33_9 rfl ?_
        exact a_iret rfl rfl ⟨⟨_, rfl⟩, _, _, _, rfl, f5, k1_5, k2_5⟩
  · refine a_s rfl rfl ?_
    exact a_iret rfl rfl ⟨⟨_, rfl⟩, _, _, _, rfl, f2, k1_2, k2_2⟩
theorem q_X11_street_200 {S : aS} {I : Nat → Nat → Int32} {L : Nat → Nat → Int64} {w1 w2 t : Nat} (hw : WdS S) (kk1 : WK w1) (kk2 : WK w2) (hci : CI I) : Sp S m_X11_street 21 1 6 [.ref 200] (hp I L w1 w2 t) (QT (Mt0 I) isI L t) (XT (Mt0 I) L [1, 3]) := by
  refine Sp_of ok_X11_street rfl rfl ?_
  show AW S m_X11_street 21 _ _ 1 6 0 [some (.ref 200)] [] (hp I L w1 w2 t)
  refine a_l0 rfl rfl rfl ?_
  refine a_getq rfl gfX11_19_11 rfl (rfl) ?_
  refine a_getq rfl gfX11_75_6 rfl (rfl) ?_
  refine a_l0 rfl rfl rfl ?_
  refine a_getq rfl gfX11_37_11 rfl (rfl) ?_
  refine a_eV0 rfl lX11_78 mo_X5_copyFrom (sp_X5_copyFrom (a := 209) (b := 235) (by decide) (by decide) (by decide)) rfl rfl rfl ⟨5, _, rfl, rfl, rfl⟩ rfl ?_
  refine a_ren (P := Mt I) (Mt.tr (Mt.rf) (Mt.cpM (by decide) (by decide) (by decide) (by decide) (by decide))) (fun I1 f2 => ?_)
  refine a_l0 rfl rfl rfl ?_
  refine a_l0 rfl rfl rfl ?_
  refine a_getq rfl gfX11_19_11 rfl (rfl) ?_
  refine a_l0 rfl rfl rfl ?_
  refine a_getq rfl gfX11_10_11 rfl (rfl) ?_
  refine a_callU rfl lu_82 dc_readLines mo_X8_readLines hx_rl (q_X8_readLines_203_201 hw kk1 kk2 ((f2).2.2.2.1 hci)) rfl rfl rfl ⟨6, _, rfl, rfl, rfl⟩ rfl (fun v' h' hv => ?_) (fun _ _ z => False.elim z)
  obtain ⟨⟨v3, rfl⟩, I4, w1_4, w2_4, rfl, f4, k1_4, k2_4⟩ := hv
  replace f4 := Mt.tr (f2) f4
  refine a_puti rfl pfX11_30_11 rfl ?_
  refine a_ren (P := Mt I) (Mt.fm (f4) (Fm.up (Fm.rf (s := sM)) rfl)) (fun I5 f6 => ?_)
  refine a_l0 rfl rfl rfl ?_
  refine a_getq rfl gfX11_10_11 rfl (rfl) ?_
  refine a_s rfl rfl ?_
  refine a_puti rfl pfX11_68_7 rfl ?_
  refine a_ren (P := Mt0 I) (Mt0.mk (f6)) (fun I7 f8 => ?_)
  refine a_l0 rfl rfl rfl ?_
  refine a_geti rfl gfX11_30_11 rfl ?_
  refine a_s rfl rfl ?_
  refine a_ic_eq rfl (fun c42 => ?_) (fun c42 => ?_)
  · refine a_l0 rfl rfl rfl ?_
    refine a_getq rfl gfX11_37_11 rfl (rfl) ?_
    refine a_geti rfl gfX11_89_5 rfl ?_
    refine a_s rfl rfl ?_
    refine a_ic_lt rfl (fun c62 => ?_) (fun c62 => ?_)
    · refine a_l0 rfl rfl rfl ?_
      refine a_getq rfl gfX11_37_11 rfl (rfl) ?_
      refine a_l0 rfl rfl rfl ?_
      refine a_getq rfl gfX11_19_11 rfl (rfl) ?_
      refine a_getq rfl gfX11_75_6 rfl (rfl) ?_
      refine a_eV0 rfl lX11_78 mo_X5_copyFrom (sp_X5_copyFrom (a := 235) (b := 209) (by decide) (by decide) (by decide)) rfl rfl rfl ⟨5, _, rfl, rfl, rfl⟩ rfl ?_
      refine a_ren (P := Mt0 I) (Mt0.tr (f8) (Mt.cpM (by decide) (by decide) (by decide) (by decide) (by decide))) (fun I9 f10 => ?_)
      refine a_l0 rfl rfl rfl ?_
      refine a_getq rfl gfX11_37_11 rfl (rfl) ?_
      refine a_s rfl rfl ?_
      refine a_geti rfl gfX11_89_5 rfl ?_
      refine a_s rfl rfl ?_
      refine a_s rfl rfl ?_
      refine a_puti rfl pfX11_89_5 rfl ?_
      refine a_ren (P := Mt0 I) (Mt0.fm (f10) (Fm.up (Fm.rf (s := sM)) rfl)) (fun I11 f12 => ?_)
      refine a_l0 rfl rfl rfl ?_
      refine a_s rfl rfl ?_
      refine a_puti rfl pfX11_95_11 rfl ?_
      refine a_ren (P := Mt0 I) (Mt0.fm (f12) (Fm.up (Fm.rf (s := sM)) rfl)) (fun I13 f14 => ?_)
      refine a_l0 rfl rfl rfl ?_
      refine a_getq rfl gfX11_37_11 rfl (rfl) ?_
      refine a_geti rfl gfX11_89_5 rfl ?_
      exact a_iret rfl rfl ⟨⟨_, rfl⟩, _, _, _, rfl, f14, k1_4, k2_4⟩
    · exact a_throw rfl rfl rfl rfl tX11_uoe rfl rfl rfl rfl rfl ⟨⟨3, by decide, rfl⟩, _, _, _, rfl, f8, k1_4, k2_4⟩
  · exact a_throw rfl rfl rfl rfl tX11_iae rfl rfl rfl rfl rfl ⟨⟨1, by decide, rfl⟩, _, _, _, rfl, f8, k1_4, k2_4⟩
theorem q_X2_clear_226 {S : aS} {I : Nat → Nat → Int32} {L : Nat → Nat → Int64} {w1 w2 t : Nat} : Sp S m_X2_clear 12 0 0 [.ref 226] (hp I L w1 w2 t) (QR (Mt I) isV L w1 w2 t) nX := by
  refine Sp_of ok_X2_clear rfl rfl ?_
  show AW S m_X2_clear 12 _ _ 0 0 0 [some (.ref 226)] [] (hp I L w1 w2 t)
  refine a_l0 rfl rfl rfl ?_
  refine a_s rfl rfl ?_
  refine a_puti rfl pfX2_11_2 rfl ?_
  refine a_ren (P := Mt I) (Mt.fm (Mt.rf) (Fm.up (Fm.rf (s := sM)) rfl)) (fun I1 f2 => ?_)
  refine a_l0 rfl rfl rfl ?_
  refine a_s rfl rfl ?_
  refine a_puti rfl pfX2_41_2 rfl ?_
  refine a_ren (P := Mt I) (Mt.fm (f2) (Fm.up (Fm.rf (s := sM)) rfl)) (fun I3 f4 => ?_)
  exact a_vret rfl rfl ⟨rfl, _, rfl, f4⟩
theorem q_X11_law_200 {S : aS} {I : Nat → Nat → Int32} {L : Nat → Nat → Int64} {w1 w2 t : Nat} (hw : WdS S) (kk1 : WK w1) (kk2 : WK w2) : Sp S m_X11_law 21 1 6 [.ref 200] (hp I L w1 w2 t) (QT (Mt0 I) isI L t) (XT (Mt0 I) L [1]) := by
  refine Sp_of ok_X11_law rfl rfl ?_
  show AW S m_X11_law 21 _ _ 1 6 0 [some (.ref 200)] [] (hp I L w1 w2 t)
  refine a_l0 rfl rfl rfl ?_
  refine a_getq rfl gfX11_26_11 rfl (rfl) ?_
  refine a_getq rfl gfX11_98_3 rfl (rfl) ?_
  refine a_gV rfl lX11_100 mo_X2_clear (q_X2_clear_226) rfl rfl rfl ⟨2, _, rfl, rfl, rfl⟩ rfl (fun v' h' hv => ?_)
  obtain ⟨rfl, I2, rfl, f3⟩ := hv
  refine a_l0 rfl rfl rfl ?_
  refine a_l0 rfl rfl rfl ?_
  refine a_getq rfl gfX11_26_11 rfl (rfl) ?_
  refine a_l0 rfl rfl rfl ?_
  refine a_getq rfl gfX11_10_11 rfl (rfl) ?_
  refine a_callU rfl lu_103 dc_readLines mo_X8_readLines hx_rl (q_X8_readLines_220_201 hw kk1 kk2) rfl rfl rfl ⟨3, _, rfl, rfl, rfl⟩ rfl (fun v' h' hv => ?_) (fun _ _ z => False.elim z)
  obtain ⟨⟨v4, rfl⟩, I5, w1_5, w2_5, rfl, f5, k1_5, k2_5⟩ := hv
  replace f5 := Mt.tr (f3) f5
  refine a_puti rfl pfX11_30_11 rfl ?_
  refine a_ren (P := Mt I) (Mt.fm (f5) (Fm.up (Fm.rf (s := sM)) rfl)) (fun I6 f7 => ?_)
  refine a_l0 rfl rfl rfl ?_
  refine a_getq rfl gfX11_10_11 rfl (rfl) ?_
  refine a_s rfl rfl ?_
  refine a_puti rfl pfX11_68_7 rfl ?_
  refine a_ren (P := Mt0 I) (Mt0.mk (f7)) (fun I8 f9 => ?_)
  refine a_l0 rfl rfl rfl ?_
  refine a_geti rfl gfX11_30_11 rfl ?_
  refine a_s rfl rfl ?_
  refine a_ic_eq rfl (fun c38 => ?_) (fun c38 => ?_)
  · refine a_l0 rfl rfl rfl ?_
    refine a_getq rfl gfX11_44_11 rfl (rfl) ?_
    refine a_l0 rfl rfl rfl ?_
    refine a_getq rfl gfX11_26_11 rfl (rfl) ?_
    refine a_getq rfl gfX11_98_3 rfl (rfl) ?_
    refine a_eV0 rfl lX11_104 mo_X2_copyFrom (sp_X2_copyFrom (a := 246) (b := 226) (by decide) (by decide) (by decide)) rfl rfl rfl ⟨2, _, rfl, rfl, rfl⟩ rfl ?_
    refine a_ren (P := Mt0 I) (Mt0.fm (f9) (Fm.cl (Fm.rf (s := sM)) (by decide) (Fm_l246))) (fun I10 f11 => ?_)
    refine a_l0 rfl rfl rfl ?_
    refine a_s rfl rfl ?_
    refine a_puti rfl pfX11_95_11 rfl ?_
    refine a_ren (P := Mt0 I) (Mt0.fm (f11) (Fm.up (Fm.rf (s := sM)) rfl)) (fun I12 f13 => ?_)
    refine a_l0 rfl rfl rfl ?_
    refine a_getq rfl gfX11_44_11 rfl (rfl) ?_
    refine a_geti rfl gfX11_107_2 rfl ?_
    exact a_iret rfl rfl ⟨⟨_, rfl⟩, _, _, _, rfl, f13, k1_5, k2_5⟩
  · exact a_throw rfl rfl rfl rfl tX11_iae rfl rfl rfl rfl rfl ⟨⟨1, by decide, rfl⟩, _, _, _, rfl, f9, k1_5, k2_5⟩
end
section
/-! ===== the reference: ranges, frames ===== -/
/-- a world's state: counts, what leans, whose, tools, pace -/
def SO (nd np : Nat) (W : Nat → Int32) : Prop := nd ≤ 12 ∧ np ≤ 6 ∧ W 1 = nI nd ∧ W 0 = nI np ∧ LeW nd W ∧ OwW nd np W ∧ (∀ d, d < nd → vd W 3 d = -1 ∨ ∃ k, k < 6 ∧ vd W 3 d = nI k) ∧ ¬ W 7 = 0
theorem SO.n {nd np : Nat} {W : Nat → Int32} (h : SO nd np W) : nd ≤ 12 := h.1
theorem SO.p {nd np : Nat} {W : Nat → Int32} (h : SO nd np W) : np ≤ 6 := h.2.1
theorem SO.du {nd np : Nat} {W : Nat → Int32} (h : SO nd np W) : W 1 = nI nd := h.2.2.1
theorem SO.pu {nd np : Nat} {W : Nat → Int32} (h : SO nd np W) : W 0 = nI np := h.2.2.2.1
theorem SO.l {nd np : Nat} {W : Nat → Int32} (h : SO nd np W) : LeW nd W := h.2.2.2.2.1
theorem SO.o {nd np : Nat} {W : Nat → Int32} (h : SO nd np W) : OwW nd np W := h.2.2.2.2.2.1
theorem SO.t {nd np : Nat} {W : Nat → Int32} (h : SO nd np W) : ∀ d, d < nd → vd W 3 d = -1 ∨ ∃ k, k < 6 ∧ vd W 3 d = nI k := h.2.2.2.2.2.2.1
theorem SO.h7 {nd np : Nat} {W : Nat → Int32} (h : SO nd np W) : ¬ W 7 = 0 := h.2.2.2.2.2.2.2
def LgW (W : Nat → Int32) : Prop := ∃ k, k ≤ 60 ∧ W 9 = nI k
def LwW (W : Nat → Int32) : Prop := ∃ nl len cd fa fn, LawR W nl len cd fa fn
/-- what a look may change: the values of a line, who has which tool, what was thrown; and what is kept meanwhile -/
def sU (q k : Nat) : Bool := Nat.beq q 428 || (Nat.beq q 429 || (Nat.beq q 420 && Nat.beq k 0))
def sV (q k : Nat) : Bool := sU q k || Nat.beq q 424
theorem sU_sV : ∀ q k, sU q k = true → sV q k = true := fun q k h => by
  unfold sV
  rw [h]
  rfl
/-- of a world what days change -/
def dayC (k : Nat) : Bool := Nat.beq k 4 || (Nat.beq k 5 || (Nat.beq k 9 || (Nat.beq k 10 || ((Nat.ble 23 k && Nat.blt k 95) && (Nat.beq ((k - 23) % 6) 1 || (Nat.beq ((k - 23) % 6) 2 || Nat.beq ((k - 23) % 6) 5)) || (Nat.ble 95 k && Nat.blt k 335)))))
def sD (q k : Nat) : Bool := sU q k || (Nat.beq q 421 && dayC k)
theorem sV_421 {k : Nat} : sV 421 k = false := rfl
theorem sD_421 {k : Nat} : sD 421 k = dayC k := rfl
theorem sU_sD : ∀ q k, sU q k = true → sD q k = true := fun q k h => by
  unfold sD
  rw [h]
  rfl
theorem dayC_lo : ∀ k, k < 95 → dayC k = true → k = 4 ∨ k = 5 ∨ k = 9 ∨ k = 10 ∨ (23 ≤ k ∧ ((k - 23) % 6 = 1 ∨ (k - 23) % 6 = 2 ∨ (k - 23) % 6 = 5)) := by decide +kernel
theorem dayC_hi {k : Nat} (h : 335 ≤ k) : dayC k = false := by
  have b : ∀ n, n < 335 → Nat.beq k n = false := fun n hn => beqF (by omega)
  have e : ∀ n, n ≤ 335 → Nat.blt k n = false := fun n hn => by
    cases hb : Nat.blt k n with
    | false => rfl
    | true => exact absurd (Nat.le_of_ble_eq_true hb) (by omega)
  simp [dayC, b, e]
theorem dayC_at1 : ∀ d, d < 12 → dayC (23 + 6 * d + 1) = true := by decide +kernel
theorem dayC_at2 : ∀ d, d < 12 → dayC (23 + 6 * d + 2) = true := by decide +kernel
theorem dayC_at5 : ∀ d, d < 12 → dayC (23 + 6 * d + 5) = true := by decide +kernel
theorem dayC_log {k : Nat} (h1 : 95 ≤ k) (h2 : k < 335) : dayC k = true := by
  have e1 : Nat.ble 95 k = true := Nat.ble_eq_true_of_le h1
  have e2 : Nat.blt k 335 = true := Nat.ble_eq_true_of_le h2
  simp [dayC, e1, e2]
theorem SO.eq {nd np : Nat} {W W' : Nat → Int32} (h : SO nd np W) (e0 : W' 0 = W 0) (e1 : W' 1 = W 1) (e7 : W' 7 = W 7) (e : ∀ d k, d < 12 → (k = 0 ∨ k = 3 ∨ k = 4) → vd W' k d = vd W k d) (e5 : ∀ d, d < 12 → True) : SO nd np W' := by
  have hn := h.n
  refine ⟨h.1, h.2.1, e1.trans h.du, e0.trans h.pu, fun d hd => ?_, fun d hd => ?_, fun d hd => ?_, fun z => h.h7 (e7.symm.trans z)⟩
  · rw [e d 4 (by omega) (by omega)]
    exact h.l d hd
  · rw [e d 0 (by omega) (by omega)]
    exact h.o d hd
  · rw [e d 3 (by omega) (by omega)]
    exact h.t d hd
theorem SO.fm {nd np : Nat} {I I' : Nat → Nat → Int32} (h : SO nd np (I 421)) (f : Fm sV I I') : SO nd np (I' 421) := by
  rw [show I' 421 = I 421 from funext fun k => f 421 k rfl]
  exact h
theorem dayC_st : ∀ d, d < 12 → dayC (23 + 6 * d + 0) = false ∧ dayC (23 + 6 * d + 3) = false ∧ dayC (23 + 6 * d + 4) = false := by decide +kernel
theorem SO.dy {nd np : Nat} {I I' : Nat → Nat → Int32} (h : SO nd np (I 421)) (f : Fm sD I I') : SO nd np (I' 421) := by
  refine h.eq (f 421 0 rfl) (f 421 1 rfl) (f 421 7 rfl) (fun d k hd hk => ?_) (fun _ _ => trivial)
  have := dayC_st d hd
  rcases hk with rfl | rfl | rfl
  · exact f 421 _ this.1
  · exact f 421 _ this.2.1
  · exact f 421 _ this.2.2
theorem LwW.eq {W W' : Nat → Int32} (h : LwW W) (e3 : W' 3 = W 3) (e : ∀ k, 335 ≤ k → k < 1184 → W' k = W k) : LwW W' := by
  obtain ⟨nl, len, cd, fa, fn, h1, h2, h3, h4, h5⟩ := h
  refine ⟨nl, len, cd, fa, fn, ?_, h2, h3, ?_, ?_⟩
  · rw [e3, e 335 (by omega) (by omega)]
    exact h1
  · intro i hi
    rw [e _ (by omega) (by omega), e _ (by omega) (by omega)]
    exact h4 i hi
  · intro n hn
    rw [e _ (by omega) (by omega), e _ (by omega) (by omega)]
    exact h5 n hn
theorem LwW.fm {I I' : Nat → Nat → Int32} (h : LwW (I 421)) (f : Fm sV I I') : LwW (I' 421) := by
  rw [show I' 421 = I 421 from funext fun k => f 421 k rfl]
  exact h
theorem LwW.dy {I I' : Nat → Nat → Int32} (h : LwW (I 421)) (f : Fm sD I I') : LwW (I' 421) := h.eq (f 421 3 rfl) (fun k h1 _ => f 421 k (dayC_hi h1))
theorem LgW.fm {I I' : Nat → Nat → Int32} (h : LgW (I 421)) (f : Fm sV I I') : LgW (I' 421) := by
  rw [show I' 421 = I 421 from funext fun k => f 421 k rfl]
  exact h
/-- days: their places alone have changed, the log is not too long -/
def Dd (I I' : Nat → Nat → Int32) : Prop := Fm sD I I' ∧ (LgW (I 421) → LgW (I' 421))
theorem Dd.rf {I : Nat → Nat → Int32} : Dd I I := ⟨Fm.rf, id⟩
theorem Dd.tr {I I' I'' : Nat → Nat → Int32} (h : Dd I I') (h2 : Dd I' I'') : Dd I I'' := ⟨h.1.tr h2.1, fun z => h2.2 (h.2 z)⟩
theorem Dd.of {I I' : Nat → Nat → Int32} (f : Fm sU I I') : Dd I I' := ⟨f.mo sU_sD, fun z => z.fm (f.mo sU_sV)⟩
theorem Dd.fm {I I' I'' : Nat → Nat → Int32} (h : Dd I I') (f : Fm sU I' I'') : Dd I I'' := h.tr (Dd.of f)
theorem Dd.up {I I' : Nat → Nat → Int32} {k : Nat} {v : Int32} (h : Dd I I') (hk : dayC k = true) (h9 : k ≠ 9) : Dd I (up2 I' 421 k v) := h.tr ⟨Fm.rf.up hk, fun z => by
  obtain ⟨n, h1, h2⟩ := z
  exact ⟨n, h1, by rw [up2_ne (Or.inr (fun e => h9 e.symm))]; exact h2⟩⟩
theorem Dd.so {nd np : Nat} {I I' : Nat → Nat → Int32} (h : SO nd np (I 421)) (f : Dd I I') : SO nd np (I' 421) := h.dy f.1
theorem Dd.lw {I I' : Nat → Nat → Int32} (h : LwW (I 421)) (f : Dd I I') : LwW (I' 421) := h.dy f.1
theorem Dd.lg {I I' : Nat → Nat → Int32} (h : LgW (I 421)) (f : Dd I I') : LgW (I' 421) := f.2 h
/-- a number that is one of so many -/
theorem isIx {n : Nat} {x : Int32} (hn : n < 2 ^ 31) (h : bI (!inB x 0 (nI n - 1)) = 0) : ∃ j, j < n ∧ x = nI j := by
  have h := (bI_0 _).mp h
  have h2 : inB x 0 (nI n - 1) = true := by
    cases hb : inB x 0 (nI n - 1) with
    | true => rfl
    | false => rw [hb] at h; cases h
  obtain ⟨h3, h4⟩ := of_decide_eq_true h2
  have e0 : (0 : Int32).toInt = 0 := rfl
  rw [Int32.le_iff_toInt_le, e0] at h3
  rcases n with _ | n
  · exfalso
    rw [show nI 0 - 1 = -1 from rfl, Int32.le_iff_toInt_le, show (-1 : Int32).toInt = -1 from rfl] at h4
    omega
  · rw [nI_dec, Int32.le_iff_toInt_le, nI_toInt (by omega)] at h4
    refine ⟨x.toInt.toNat, by omega, ?_⟩
    rw [← Int32.toInt_inj, nI_toInt (by omega)]
    omega
theorem upr_ne {I : Nat → Nat → Int32} {p q : Nat} {f : Nat → Int32} (h : q ≠ p) : upr I p f q = I q := upr_row h
/-- looking ahead: the state that is kept in 424 -/
def Kp (nd np : Nat) (I I' : Nat → Nat → Int32) : Prop := (∀ q k, ¬ (q = 421 ∧ k < 335) → sV q k = false → I' q k = I q k) ∧ (∀ k, k < 335 → I' 424 k = I 421 k) ∧ SO nd np (I' 421) ∧ LwW (I' 421) ∧ LgW (I' 421)
theorem Kp.so {nd np : Nat} {I I' : Nat → Nat → Int32} (h : Kp nd np I I') : SO nd np (I' 421) := h.2.2.1
theorem Kp.lw {nd np : Nat} {I I' : Nat → Nat → Int32} (h : Kp nd np I I') : LwW (I' 421) := h.2.2.2.1
theorem Kp.lg {nd np : Nat} {I I' : Nat → Nat → Int32} (h : Kp nd np I I') : LgW (I' 421) := h.2.2.2.2
theorem Kp.mk {nd np : Nat} {I I' : Nat → Nat → Int32} (f : Fm sV I I') (hs : SO nd np (I 421)) (hw : LwW (I 421)) (lg : LgW (I 421)) : Kp nd np I (cpP I' 424 421 335) := by
  have e : I' 421 = I 421 := funext fun k => f 421 k rfl
  have e2 : cpP I' 424 421 335 421 = I 421 := (cpP_out (by decide)).trans e
  refine ⟨fun q k _ hq => ?_, fun k hk => ?_, by rw [e2]; exact hs, by rw [e2]; exact hw, by rw [e2]; exact lg⟩
  · rw [cpP_out (by intro z; subst z; simp [sV] at hq)]
    exact f q k hq
  · unfold cpP
    rw [upr_at, if_pos hk, e]
theorem sV_of {q k : Nat} (h : sV q k = false) : sU q k = false := by
  cases h2 : sU q k with
  | false => rfl
  | true => rw [sU_sV q k h2] at h; cases h
theorem Kp.dd {nd np : Nat} {I I' I'' : Nat → Nat → Int32} (h : Kp nd np I I') (f : Dd I' I'') : Kp nd np I I'' := by
  refine ⟨fun q k hn hq => ?_, fun k hk => ?_, f.so h.so, f.lw h.lw, f.lg h.lg⟩
  · rw [f.1 q k ?_]
    · exact h.1 q k hn hq
    · unfold sD
      rw [sV_of hq]
      by_cases e : q = 421
      · subst e
        have : ¬ k < 335 := fun z => hn ⟨rfl, z⟩
        rw [dayC_hi (by omega)]
        rfl
      · rw [beqF e]
        rfl
  · rw [f.1 424 k rfl]
    exact h.2.1 k hk
theorem Kp.fm {nd np : Nat} {I I' I'' : Nat → Nat → Int32} (h : Kp nd np I I') (f : Fm sU I' I'') : Kp nd np I I'' := h.dd (Dd.of f)
/-- what was kept comes back -/
theorem Kp.bk {nd np : Nat} {I I' : Nat → Nat → Int32} (h : Kp nd np I I') : Fm sV I (cpP I' 421 424 335) := fun q k hq => by
  by_cases e : q = 421
  · subst e
    unfold cpP
    rw [upr_at]
    by_cases hk : k < 335
    · rw [if_pos hk, h.2.1 k hk]
    · rw [if_neg hk, h.1 421 k (fun z => hk z.2) hq]
  · rw [cpP_out e]
    exact h.1 q k (fun z => e z.1) hq
theorem Kp.bk2 {nd np : Nat} {I I' : Nat → Nat → Int32} (h : Kp nd np I I') (hs : SO nd np (I 421)) (hw : LwW (I 421)) (lg : LgW (I 421)) : Kp nd np I (cpP I' 421 424 335) := by
  have f := h.bk
  have e : cpP I' 421 424 335 421 = I 421 := funext fun k => f 421 k rfl
  refine ⟨fun q k _ hq => f q k hq, fun k hk => ?_, by rw [e]; exact hs, by rw [e]; exact hw, by rw [e]; exact lg⟩
  rw [cpP_out (by decide)]
  exact h.2.1 k hk
theorem SO.fr {nd np p : Nat} {W : Nat → Nat → Int32} {v : Int32} (h : SO nd np (W 421)) (hp : p < np) : SO nd np (up2 W 421 (11 + 2 * p + 1) v 421) := by
  have := h.p
  have e : ∀ k, k ≠ 11 + 2 * p + 1 → up2 W 421 (11 + 2 * p + 1) v 421 k = W 421 k := fun k hk => up2_ne (Or.inr hk)
  refine h.eq (e 0 (by omega)) (e 1 (by omega)) (e 7 (by omega)) (fun d k hd hk => ?_) (fun _ _ => trivial)
  exact e _ (by omega)
theorem Kp.fr {nd np p : Nat} {I I' : Nat → Nat → Int32} {v : Int32} (h : Kp nd np I I') (hp : p < np) : Kp nd np I (up2 I' 421 (11 + 2 * p + 1) v) := by
  have h6 := h.so.p
  refine ⟨fun q k hn hq => ?_, fun k hk => ?_, h.so.fr hp, h.lw.eq (up2_ne (Or.inr (by omega))) (fun k h1 _ => up2_ne (Or.inr (by omega))), ?_⟩
  · rw [up2_ne (by
      by_cases e : q = 421
      · exact Or.inr (fun z => hn ⟨e, by omega⟩)
      · exact Or.inl e)]
    exact h.1 q k hn hq
  · rw [up2_row (by decide)]
    exact h.2.1 k hk
  · obtain ⟨n, h1, h2⟩ := h.lg
    exact ⟨n, h1, by rw [up2_ne (Or.inr (by omega))]; exact h2⟩
/-- both: kept, and as it was -/
def Kw (nd np : Nat) (I I' : Nat → Nat → Int32) : Prop := Kp nd np I I' ∧ Fm sV I I'
theorem Kw.mk {nd np : Nat} {I I' : Nat → Nat → Int32} (f : Fm sV I I') (hs : SO nd np (I 421)) (hw : LwW (I 421)) (lg : LgW (I 421)) : Kw nd np I (cpP I' 424 421 335) := ⟨Kp.mk f hs hw lg, Fm.of1 f (fun _ hq => cpP_out hq) (fun _ => rfl)⟩
end
section
/-! ===== Int32 by its bits: bt x i ===== -/
def bt (x : Int32) (i : Nat) : Bool := x.toBitVec.getLsbD i
theorem b_ext {x y : Int32} (h : ∀ i, i < 32 → bt x i = bt y i) : x = y := Int32.toBitVec_inj.mp (BitVec.eq_of_getLsbD_eq (fun i hi => h i hi))
theorem b_or (x y : Int32) (i : Nat) : bt (x ||| y) i = (bt x i || bt y i) := by unfold bt; rw [Int32.toBitVec_or, BitVec.getLsbD_or]
theorem b_and (x y : Int32) (i : Nat) : bt (x &&& y) i = (bt x i && bt y i) := by unfold bt; rw [Int32.toBitVec_and, BitVec.getLsbD_and]
theorem b_xor (x y : Int32) (i : Nat) : bt (x ^^^ y) i = (bt x i ^^ bt y i) := by unfold bt; rw [Int32.toBitVec_xor, BitVec.getLsbD_xor]
theorem b_big {x : Int32} {i : Nat} (h : 32 ≤ i) : bt x i = false := BitVec.getLsbD_of_ge _ _ h
theorem b_255 (i : Nat) : bt 255 i = decide (i < 8) := by
  rcases Nat.lt_or_ge i 32 with h | h
  · exact (by decide +kernel : ∀ i, i < 32 → bt 255 i = decide (i < 8)) i h
  · rw [b_big h, decide_eq_false (by omega)]
theorem b_65535 (i : Nat) : bt 65535 i = decide (i < 16) := by
  rcases Nat.lt_or_ge i 32 with h | h
  · exact (by decide +kernel : ∀ i, i < 32 → bt 65535 i = decide (i < 16)) i h
  · rw [b_big h, decide_eq_false (by omega)]
theorem b_m1 : ∀ i, i < 32 → bt (-1) i = true := by decide +kernel
theorem b_0 (i : Nat) : bt 0 i = false := BitVec.getLsbD_zero
theorem s_l : ∀ n, n < 32 → ((nI n &&& 31).toBitVec.smod 32).toNat = n := by decide +kernel
theorem s_u : ∀ n, n < 32 → (((nI n).toUInt32 &&& Int32.toUInt32 31).toBitVec % 32).toNat = n := by decide +kernel
theorem b_shl (n : Nat) (hn : n < 32) (x : Int32) {i : Nat} (hi : i < 32) : bt (x <<< (nI n &&& 31)) i = (decide (n ≤ i) && bt x (i - n)) := by
  unfold bt
  rw [Int32.toBitVec_shiftLeft]
  show (x.toBitVec <<< ((nI n &&& 31).toBitVec.smod 32).toNat).getLsbD i = _
  rw [s_l n hn, BitVec.getLsbD_shiftLeft]
  rcases Nat.lt_or_ge i n with h | h
  · simp [h, Nat.not_le.mpr h]
  · simp [hi, h, Nat.not_lt.mpr h]
theorem b_ushr (n : Nat) (hn : n < 32) (x : Int32) (i : Nat) : bt ((x.toUInt32 >>> ((nI n).toUInt32 &&& Int32.toUInt32 31)).toInt32) i = bt x (n + i) := by
  show (x.toUInt32 >>> ((nI n).toUInt32 &&& Int32.toUInt32 31)).toBitVec.getLsbD i = x.toUInt32.toBitVec.getLsbD (n + i)
  rw [UInt32.toBitVec_shiftRight]
  show (x.toUInt32.toBitVec >>> (((nI n).toUInt32 &&& Int32.toUInt32 31).toBitVec % 32).toNat).getLsbD i = _
  rw [s_u n hn, BitVec.getLsbD_ushiftRight]
theorem b_sshr (n : Nat) (hn : n < 32) (x : Int32) {i : Nat} (hi : i < 32) : bt (x >>> (nI n &&& 31)) i = if n + i < 32 then bt x (n + i) else bt x 31 := by
  unfold bt
  rw [Int32.toBitVec_shiftRight]
  show (x.toBitVec.sshiftRight ((nI n &&& 31).toBitVec.smod 32).toNat).getLsbD i = _
  rw [s_l n hn, BitVec.getLsbD_sshiftRight, BitVec.msb_eq_getLsbD_last]
  simp [hi]
/-! ===== Int32 as a set of bits: test, set ===== -/
def nf_M (m : Int32) : Nat := 4294967296 - m.toBitVec.toNat
theorem nf_sh : ∀ l, l < 32 → ((1 : Int32) <<< (nI l &&& 31)).toBitVec = BitVec.twoPow 32 l := by decide +kernel
theorem nf_sl : ∀ l, l < 32 → (((nI l).toUInt32 &&& Int32.toUInt32 31).toBitVec % 32).toNat = l := by decide +kernel
theorem nf_tp : ∀ l, l < 32 → BitVec.twoPow 32 l ≠ 0#32 := by decide +kernel
theorem nf_bit (m : Int32) (l : Nat) (hl : l < 32) : ((m.toUInt32 >>> ((nI l).toUInt32 &&& Int32.toUInt32 31)).toInt32 &&& 1) = 0 ↔ (m &&& ((1 : Int32) <<< (nI l &&& 31))) = 0 := by
  have e : ((m.toUInt32 >>> ((nI l).toUInt32 &&& Int32.toUInt32 31)).toInt32).toBitVec = m.toBitVec >>> l := by
    show m.toBitVec >>> (((nI l).toUInt32 &&& Int32.toUInt32 31).toBitVec % 32) = m.toBitVec >>> l
    rw [BitVec.ushiftRight_eq', nf_sl l hl]
  rw [← Int32.toBitVec_inj, ← Int32.toBitVec_inj, Int32.toBitVec_and, Int32.toBitVec_and, nf_sh l hl, e, BitVec.and_twoPow]
  show (m.toBitVec >>> l &&& 1#32) = 0#32 ↔ _ = 0#32
  rw [BitVec.and_one_eq_setWidth_ofBool_getLsbD, BitVec.getLsbD_ushiftRight, Nat.add_zero]
  cases hb : m.toBitVec.getLsbD l
  · exact ⟨fun _ => by simp, fun _ => by decide⟩
  · exact ⟨fun z => absurd z (by decide), fun z => absurd ((if_pos rfl).symm.trans z) (nf_tp l hl)⟩
theorem nf_gr (m k : Int32) (h : m &&& k = 0) (hk : k ≠ 0) : nf_M (m ||| k) < nf_M m := by
  have hm := m.toBitVec.isLt
  have hm' := (m ||| k).toBitVec.isLt
  have h1 : m.toBitVec.toNat ≤ (m ||| k).toBitVec.toNat := by
    rw [Int32.toBitVec_or, BitVec.toNat_or]
    exact Nat.left_le_or
  have h2 : m.toBitVec.toNat ≠ (m ||| k).toBitVec.toNat := by
    intro e
    have e2 : m = m ||| k := Int32.toBitVec_inj.mp (BitVec.eq_of_toNat_eq e)
    apply hk
    apply Int32.toBitVec_inj.mp
    show k.toBitVec = 0#32
    apply BitVec.eq_of_getLsbD_eq
    intro i hi
    have a : m.toBitVec.getLsbD i = (m.toBitVec.getLsbD i || k.toBitVec.getLsbD i) := by rw [← BitVec.getLsbD_or, ← Int32.toBitVec_or, ← e2]
    have b : (m.toBitVec.getLsbD i && k.toBitVec.getLsbD i) = false := by
      rw [← BitVec.getLsbD_and, ← Int32.toBitVec_and, h]
      exact BitVec.getLsbD_zero
    rw [BitVec.getLsbD_zero]
    revert a b
    cases m.toBitVec.getLsbD i <;> cases k.toBitVec.getLsbD i <;> simp
  unfold nf_M
  omega
/-! ===== a bit that was not yet there ===== -/
theorem bt_1 : ∀ j, j < 32 → bt 1 j = decide (j = 0) := by decide +kernel
theorem bt_sh {e i : Nat} (he : e < 32) (hi : i < 32) : bt ((1 : Int32) <<< (nI e &&& 31)) i = decide (i = e) := by
  rw [b_shl e he 1 hi]
  by_cases h : e ≤ i
  · rw [decide_eq_true h, Bool.true_and, bt_1 _ (by omega)]
    by_cases h2 : i = e
    · rw [decide_eq_true h2, decide_eq_true (by omega)]
    · rw [decide_eq_false h2, decide_eq_false (by omega)]
  · rw [decide_eq_false h, Bool.false_and, decide_eq_false (by omega)]
theorem shb_bt {b : Int32} {e : Nat} (he : e < 31) (h : shb b e = false) : bt b e = false := by
  unfold shb at h
  have h1 := of_decide_eq_false h
  have h2 : (b >>> (nI e &&& 31)) &&& 1 = 0 := Classical.byContradiction h1
  have h3 : bt ((b >>> (nI e &&& 31)) &&& 1) 0 = false := by rw [h2]; exact b_0 0
  rw [b_and, b_sshr e (by omega) b (by decide), if_pos (by omega), bt_1 0 (by decide)] at h3
  simpa using h3
theorem grow_bit {b : Int32} {e : Nat} (he : e < 31) (h : shb b e = false) : nf_M (b ||| ((1 : Int32) <<< (nI e &&& 31))) < nf_M b := by
  refine nf_gr b _ (b_ext fun i hi => ?_) ?_
  · rw [b_and, bt_sh (by omega) hi, b_0]
    by_cases h2 : i = e
    · subst h2
      rw [shb_bt he h]
      rfl
    · rw [decide_eq_false h2, Bool.and_false]
  · intro z
    have h4 := nf_tp e (by omega)
    rw [← nf_sh e (by omega), z] at h4
    exact h4 rfl
end
