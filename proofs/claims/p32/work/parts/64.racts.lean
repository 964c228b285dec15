/-! ===== the reference: acts, safe (printed by program) ===== -/
set_option maxRecDepth 100000
theorem r_X12_call {S : aS} {I : Nat → Nat → Int32} {L : Nat → Nat → Int64} {w1 w2 t : Nat} {x1 : Int32} {nd np : Nat} (hr : RI nd np I) : Sp S m_X12_call 18 0 0 [.ref 420, .int x1] (hp I L w1 w2 t) (QR (Mr nd np I) isI L w1 w2 t) nX := by
  have hs := RI.so hr
  have hw := RI.lw hr
  have lg := RI.lg hr
  refine Sp_of ok_X12_call rfl rfl ?_
  show AW S m_X12_call 18 _ _ 0 0 0 [some (.ref 420), some (.int x1), none] [] (hp I L w1 w2 t)
  refine a_l0 rfl rfl rfl ?_
  refine a_s rfl rfl ?_
  refine a_puti rfl pfX12_3_12 rfl ?_
  refine a_ren (P := Mr nd np I) (Mr.fm ((Mr.rf hr)) (Fm.up (Fm.rf (s := sU)) rfl)) (fun I1 f2 => ?_)
  have s2 := RI.so f2.2; have l2 := RI.lw f2.2; have g2 := RI.lg f2.2
  refine a_l0 rfl rfl rfl ?_
  refine a_l0 rfl rfl rfl ?_
  refine a_l1 rfl rfl rfl ?_
  refine a_eV1 rfl lX12_289 mo_X12_noDuty (r_X12_noDuty s2) rfl rfl rfl ⟨12, _, rfl, rfl, rfl⟩ rfl ?_
  refine a_s rfl rfl ?_
  refine a_gV rfl lX12_243 mo_X12_throwsIf (r_X12_throwsIf) rfl rfl rfl ⟨12, _, rfl, rfl, rfl⟩ rfl (fun v' h' hv => ?_)
  obtain ⟨rfl, I3, rfl, f4⟩ := hv
  replace f4 : Mr nd np I I3 := Mr.fm (f2) (f4)
  have s4 := RI.so f4.2; have l4 := RI.lw f4.2; have g4 := RI.lg f4.2
  refine a_if_ne rfl (fun c15 => ?_) (fun c15 => ?_)
  · refine a_s rfl rfl ?_
    exact a_iret rfl rfl ⟨⟨_, rfl⟩, _, rfl, f4⟩
  · obtain ⟨i5, hi5, rfl⟩ := isIx (n := nd) (by have := hs.n; have := hs.p; omega) c15
    refine a_l0 rfl rfl rfl ?_
    refine a_l0 rfl rfl rfl ?_
    refine a_l1 rfl rfl rfl ?_
    refine a_eV1 rfl lX12_280 mo_X12_canBeCalled (sp_X12_canBeCalled s4.n s4.du s4.l hi5) rfl rfl rfl ⟨12, _, rfl, rfl, rfl⟩ rfl ?_
    refine a_if_ne rfl (fun c24 => ?_) (fun c24 => ?_)
    · refine a_s rfl rfl ?_
      refine a_s rfl rfl ?_
      refine a_gV rfl lX12_243 mo_X12_throwsIf (r_X12_throwsIf (b := false)) rfl rfl rfl ⟨12, _, rfl, rfl, rfl⟩ rfl (fun v' h' hv => ?_)
      obtain ⟨rfl, I6, rfl, f7⟩ := hv
      replace f7 : Mr nd np I I6 := Mr.fm (f4) (f7)
      have s7 := RI.so f7.2; have l7 := RI.lw f7.2; have g7 := RI.lg f7.2
      refine a_if_eq rfl (fun _ => ?_) (fun c => absurd (by decide) c)
      refine a_l0 rfl rfl rfl ?_
      refine a_gV rfl lX12_357 mo_X12_remembers (r_X12_remembers f7.2) rfl rfl rfl ⟨12, _, rfl, rfl, rfl⟩ rfl (fun v' h' hv => ?_)
      obtain ⟨rfl, I8, rfl, f9, -⟩ := hv
      replace f9 := Mr.tr (f7) f9
      have s9 := RI.so f9.2; have l9 := RI.lw f9.2; have g9 := RI.lg f9.2
      refine a_l0 rfl rfl rfl ?_
      refine a_l1 rfl rfl rfl ?_
      refine a_eV1 rfl lX12_276 mo_X12_passesBy (sp_X12_passesBy s9.n s9.du hi5) rfl rfl rfl ⟨12, _, rfl, rfl, rfl⟩ rfl ?_
      refine a_s2 rfl rfl rfl rfl rfl rfl ?_
      refine a_l0 rfl rfl rfl ?_
      refine a_l1 rfl rfl rfl ?_
      refine a_gV rfl lX12_360 mo_X12_finishes (r_X12_finishes s9 l9 g9 hi5) rfl rfl rfl ⟨12, _, rfl, rfl, rfl⟩ rfl (fun v' h' hv => ?_)
      obtain ⟨rfl, I11, rfl, f12⟩ := hv
      replace f12 := Mr.dd (f9) f12
      have s12 := RI.so f12.2; have l12 := RI.lw f12.2; have g12 := RI.lg f12.2
      refine a_l2 rfl rfl rfl ?_
      exact a_iret rfl rfl ⟨⟨_, rfl⟩, _, rfl, f12⟩
    · refine a_s rfl rfl ?_
      refine a_goto rfl ?_
      refine a_s rfl rfl ?_
      refine a_gV rfl lX12_243 mo_X12_throwsIf (r_X12_throwsIf (b := true)) rfl rfl rfl ⟨12, _, rfl, rfl, rfl⟩ rfl (fun v' h' hv => ?_)
      obtain ⟨rfl, I13, rfl, f14⟩ := hv
      replace f14 : Mr nd np I I13 := Mr.fm (f4) (f14)
      have s14 := RI.so f14.2; have l14 := RI.lw f14.2; have g14 := RI.lg f14.2
      refine a_if_eq rfl (fun c => absurd c (by decide)) (fun _ => ?_)
      refine a_s rfl rfl ?_
      exact a_iret rfl rfl ⟨⟨_, rfl⟩, _, rfl, f14⟩
theorem r_X12_put {S : aS} {I : Nat → Nat → Int32} {L : Nat → Nat → Int64} {w1 w2 t : Nat} {x1 : Int32} {nd np : Nat} (hr : RI nd np I) : Sp S m_X12_put 15 0 0 [.ref 420, .int x1] (hp I L w1 w2 t) (QR (Mr nd np I) isI L w1 w2 t) nX := by
  have hs := RI.so hr
  have hw := RI.lw hr
  have lg := RI.lg hr
  refine Sp_of ok_X12_put rfl rfl ?_
  show AW S m_X12_put 15 _ _ 0 0 0 [some (.ref 420), some (.int x1)] [] (hp I L w1 w2 t)
  refine a_l0 rfl rfl rfl ?_
  refine a_s rfl rfl ?_
  refine a_puti rfl pfX12_3_12 rfl ?_
  refine a_ren (P := Mr nd np I) (Mr.fm ((Mr.rf hr)) (Fm.up (Fm.rf (s := sU)) rfl)) (fun I1 f2 => ?_)
  have s2 := RI.so f2.2; have l2 := RI.lw f2.2; have g2 := RI.lg f2.2
  refine a_l0 rfl rfl rfl ?_
  refine a_l0 rfl rfl rfl ?_
  refine a_l1 rfl rfl rfl ?_
  refine a_eV1 rfl lX12_289 mo_X12_noDuty (r_X12_noDuty s2) rfl rfl rfl ⟨12, _, rfl, rfl, rfl⟩ rfl ?_
  refine a_s rfl rfl ?_
  refine a_gV rfl lX12_243 mo_X12_throwsIf (r_X12_throwsIf) rfl rfl rfl ⟨12, _, rfl, rfl, rfl⟩ rfl (fun v' h' hv => ?_)
  obtain ⟨rfl, I3, rfl, f4⟩ := hv
  replace f4 : Mr nd np I I3 := Mr.fm (f2) (f4)
  have s4 := RI.so f4.2; have l4 := RI.lw f4.2; have g4 := RI.lg f4.2
  refine a_if_ne rfl (fun c15 => ?_) (fun c15 => ?_)
  · refine a_s rfl rfl ?_
    exact a_iret rfl rfl ⟨⟨_, rfl⟩, _, rfl, f4⟩
  · obtain ⟨i5, hi5, rfl⟩ := isIx (n := nd) (by have := hs.n; have := hs.p; omega) c15
    refine a_l0 rfl rfl rfl ?_
    refine a_l0 rfl rfl rfl ?_
    refine a_l1 rfl rfl rfl ?_
    refine a_eV1 rfl lX12_135 mo_X12_isWaiting (sp_X12_isWaiting (d := i5) (Nat.lt_of_lt_of_le hi5 s4.n)) rfl rfl rfl ⟨12, _, rfl, rfl, rfl⟩ rfl ?_
    refine a_if_ne rfl (fun c24 => ?_) (fun c24 => ?_)
    · refine a_s rfl rfl ?_
      refine a_s rfl rfl ?_
      refine a_gV rfl lX12_243 mo_X12_throwsIf (r_X12_throwsIf (b := false)) rfl rfl rfl ⟨12, _, rfl, rfl, rfl⟩ rfl (fun v' h' hv => ?_)
      obtain ⟨rfl, I6, rfl, f7⟩ := hv
      replace f7 : Mr nd np I I6 := Mr.fm (f4) (f7)
      have s7 := RI.so f7.2; have l7 := RI.lw f7.2; have g7 := RI.lg f7.2
      refine a_if_eq rfl (fun _ => ?_) (fun c => absurd (by decide) c)
      refine a_l0 rfl rfl rfl ?_
      refine a_gV rfl lX12_357 mo_X12_remembers (r_X12_remembers f7.2) rfl rfl rfl ⟨12, _, rfl, rfl, rfl⟩ rfl (fun v' h' hv => ?_)
      obtain ⟨rfl, I8, rfl, f9, -⟩ := hv
      replace f9 := Mr.tr (f7) f9
      have s9 := RI.so f9.2; have l9 := RI.lw f9.2; have g9 := RI.lg f9.2
      refine a_l0 rfl rfl rfl ?_
      refine a_getq rfl gfX12_13_12 rfl (rfl) ?_
      refine a_l1 rfl rfl rfl ?_
      refine a_s rfl rfl ?_
      refine a_eS1 rfl lX12_60 mo_X12_at (sp_X12_at (d := i5) (k := 2)) rfl rfl rfl rfl ?_
      refine a_s rfl rfl ?_
      refine a_l0 rfl rfl rfl ?_
      refine a_l1 rfl rfl rfl ?_
      refine a_s rfl rfl ?_
      refine a_eV1 rfl lX12_63 mo_X12_of (sp_X12_of (d := i5) (k := 2) (Nat.lt_of_lt_of_le hi5 s9.n) (by decide)) rfl rfl rfl ⟨12, _, rfl, rfl, rfl⟩ rfl ?_
      refine a_s rfl rfl ?_
      refine a_s rfl rfl ?_
      refine a_min rfl lX12_295 mj_min rfl rfl ?_
      refine a_iastv (k := (23 + 6 * i5 + 2)) rfl (n := 2033) rfl (inI_nI (by have := hs.n; have := hs.p; omega) (by have := hs.n; have := hs.p; omega)) (nI_clamp (by have := hs.n; have := hs.p; omega)) ?_
      refine a_ren (P := Mr nd np I) (Mr.dd (f9) (Dd.up Dd.rf (dayC_at2 _ (Nat.lt_of_lt_of_le hi5 hs.n)) (by omega))) (fun I10 f11 => ?_)
      have s11 := RI.so f11.2; have l11 := RI.lw f11.2; have g11 := RI.lg f11.2
      refine a_l0 rfl rfl rfl ?_
      refine a_l1 rfl rfl rfl ?_
      refine a_s rfl rfl ?_
      refine a_eV1 rfl lX12_63 mo_X12_of (sp_X12_of (d := i5) (k := 2) (Nat.lt_of_lt_of_le hi5 s11.n) (by decide)) rfl rfl rfl ⟨12, _, rfl, rfl, rfl⟩ rfl ?_
      exact a_iret rfl rfl ⟨⟨_, rfl⟩, _, rfl, f11⟩
    · refine a_s rfl rfl ?_
      refine a_goto rfl ?_
      refine a_s rfl rfl ?_
      refine a_gV rfl lX12_243 mo_X12_throwsIf (r_X12_throwsIf (b := true)) rfl rfl rfl ⟨12, _, rfl, rfl, rfl⟩ rfl (fun v' h' hv => ?_)
      obtain ⟨rfl, I12, rfl, f13⟩ := hv
      replace f13 : Mr nd np I I12 := Mr.fm (f4) (f13)
      have s13 := RI.so f13.2; have l13 := RI.lw f13.2; have g13 := RI.lg f13.2
      refine a_if_eq rfl (fun c => absurd c (by decide)) (fun _ => ?_)
      refine a_s rfl rfl ?_
      exact a_iret rfl rfl ⟨⟨_, rfl⟩, _, rfl, f13⟩
theorem r_X12_forget {S : aS} {I : Nat → Nat → Int32} {L : Nat → Nat → Int64} {w1 w2 t : Nat} {x1 : Int32} {nd np : Nat} (hr : RI nd np I) : Sp S m_X12_forget 15 0 0 [.ref 420, .int x1] (hp I L w1 w2 t) (QR (Mr nd np I) isI L w1 w2 t) nX := by
  have hs := RI.so hr
  have hw := RI.lw hr
  have lg := RI.lg hr
  refine Sp_of ok_X12_forget rfl rfl ?_
  show AW S m_X12_forget 15 _ _ 0 0 0 [some (.ref 420), some (.int x1)] [] (hp I L w1 w2 t)
  refine a_l0 rfl rfl rfl ?_
  refine a_s rfl rfl ?_
  refine a_puti rfl pfX12_3_12 rfl ?_
  refine a_ren (P := Mr nd np I) (Mr.fm ((Mr.rf hr)) (Fm.up (Fm.rf (s := sU)) rfl)) (fun I1 f2 => ?_)
  have s2 := RI.so f2.2; have l2 := RI.lw f2.2; have g2 := RI.lg f2.2
  refine a_l0 rfl rfl rfl ?_
  refine a_l0 rfl rfl rfl ?_
  refine a_l1 rfl rfl rfl ?_
  refine a_eV1 rfl lX12_289 mo_X12_noDuty (r_X12_noDuty s2) rfl rfl rfl ⟨12, _, rfl, rfl, rfl⟩ rfl ?_
  refine a_s rfl rfl ?_
  refine a_gV rfl lX12_243 mo_X12_throwsIf (r_X12_throwsIf) rfl rfl rfl ⟨12, _, rfl, rfl, rfl⟩ rfl (fun v' h' hv => ?_)
  obtain ⟨rfl, I3, rfl, f4⟩ := hv
  replace f4 : Mr nd np I I3 := Mr.fm (f2) (f4)
  have s4 := RI.so f4.2; have l4 := RI.lw f4.2; have g4 := RI.lg f4.2
  refine a_if_ne rfl (fun c15 => ?_) (fun c15 => ?_)
  · refine a_s rfl rfl ?_
    exact a_iret rfl rfl ⟨⟨_, rfl⟩, _, rfl, f4⟩
  · obtain ⟨i5, hi5, rfl⟩ := isIx (n := nd) (by have := hs.n; have := hs.p; omega) c15
    refine a_l0 rfl rfl rfl ?_
    refine a_l0 rfl rfl rfl ?_
    refine a_l1 rfl rfl rfl ?_
    refine a_eV1 rfl lX12_135 mo_X12_isWaiting (sp_X12_isWaiting (d := i5) (Nat.lt_of_lt_of_le hi5 s4.n)) rfl rfl rfl ⟨12, _, rfl, rfl, rfl⟩ rfl ?_
    refine a_if_ne rfl (fun c24 => ?_) (fun c24 => ?_)
    · refine a_s rfl rfl ?_
      refine a_s rfl rfl ?_
      refine a_gV rfl lX12_243 mo_X12_throwsIf (r_X12_throwsIf (b := false)) rfl rfl rfl ⟨12, _, rfl, rfl, rfl⟩ rfl (fun v' h' hv => ?_)
      obtain ⟨rfl, I6, rfl, f7⟩ := hv
      replace f7 : Mr nd np I I6 := Mr.fm (f4) (f7)
      have s7 := RI.so f7.2; have l7 := RI.lw f7.2; have g7 := RI.lg f7.2
      refine a_if_eq rfl (fun _ => ?_) (fun c => absurd (by decide) c)
      refine a_l0 rfl rfl rfl ?_
      refine a_gV rfl lX12_357 mo_X12_remembers (r_X12_remembers f7.2) rfl rfl rfl ⟨12, _, rfl, rfl, rfl⟩ rfl (fun v' h' hv => ?_)
      obtain ⟨rfl, I8, rfl, f9, -⟩ := hv
      replace f9 := Mr.tr (f7) f9
      have s9 := RI.so f9.2; have l9 := RI.lw f9.2; have g9 := RI.lg f9.2
      refine a_l0 rfl rfl rfl ?_
      refine a_l1 rfl rfl rfl ?_
      refine a_s rfl rfl ?_
      refine a_gV rfl lX12_354 mo_X12_isNow (r_X12_isNow s9 l9 g9 hi5) rfl rfl rfl ⟨12, _, rfl, rfl, rfl⟩ rfl (fun v' h' hv => ?_)
      obtain ⟨rfl, I11, rfl, f12⟩ := hv
      replace f12 := Mr.dd (f9) f12
      have s12 := RI.so f12.2; have l12 := RI.lw f12.2; have g12 := RI.lg f12.2
      refine a_l0 rfl rfl rfl ?_
      refine a_l1 rfl rfl rfl ?_
      refine a_s rfl rfl ?_
      refine a_eV1 rfl lX12_63 mo_X12_of (sp_X12_of (d := i5) (k := 1) (Nat.lt_of_lt_of_le hi5 s12.n) (by decide)) rfl rfl rfl ⟨12, _, rfl, rfl, rfl⟩ rfl ?_
      exact a_iret rfl rfl ⟨⟨_, rfl⟩, _, rfl, f12⟩
    · refine a_s rfl rfl ?_
      refine a_goto rfl ?_
      refine a_s rfl rfl ?_
      refine a_gV rfl lX12_243 mo_X12_throwsIf (r_X12_throwsIf (b := true)) rfl rfl rfl ⟨12, _, rfl, rfl, rfl⟩ rfl (fun v' h' hv => ?_)
      obtain ⟨rfl, I13, rfl, f14⟩ := hv
      replace f14 : Mr nd np I I13 := Mr.fm (f4) (f14)
      have s14 := RI.so f14.2; have l14 := RI.lw f14.2; have g14 := RI.lg f14.2
      refine a_if_eq rfl (fun c => absurd c (by decide)) (fun _ => ?_)
      refine a_s rfl rfl ?_
      exact a_iret rfl rfl ⟨⟨_, rfl⟩, _, rfl, f14⟩
theorem r_X12_recall {S : aS} {I : Nat → Nat → Int32} {L : Nat → Nat → Int64} {w1 w2 t : Nat} {x1 : Int32} {nd np : Nat} (hr : RI nd np I) : Sp S m_X12_recall 15 0 0 [.ref 420, .int x1] (hp I L w1 w2 t) (QR (Mr nd np I) isI L w1 w2 t) nX := by
  have hs := RI.so hr
  have hw := RI.lw hr
  have lg := RI.lg hr
  refine Sp_of ok_X12_recall rfl rfl ?_
  show AW S m_X12_recall 15 _ _ 0 0 0 [some (.ref 420), some (.int x1)] [] (hp I L w1 w2 t)
  refine a_l0 rfl rfl rfl ?_
  refine a_s rfl rfl ?_
  refine a_puti rfl pfX12_3_12 rfl ?_
  refine a_ren (P := Mr nd np I) (Mr.fm ((Mr.rf hr)) (Fm.up (Fm.rf (s := sU)) rfl)) (fun I1 f2 => ?_)
  have s2 := RI.so f2.2; have l2 := RI.lw f2.2; have g2 := RI.lg f2.2
  refine a_l0 rfl rfl rfl ?_
  refine a_l0 rfl rfl rfl ?_
  refine a_l1 rfl rfl rfl ?_
  refine a_eV1 rfl lX12_289 mo_X12_noDuty (r_X12_noDuty s2) rfl rfl rfl ⟨12, _, rfl, rfl, rfl⟩ rfl ?_
  refine a_s rfl rfl ?_
  refine a_gV rfl lX12_243 mo_X12_throwsIf (r_X12_throwsIf) rfl rfl rfl ⟨12, _, rfl, rfl, rfl⟩ rfl (fun v' h' hv => ?_)
  obtain ⟨rfl, I3, rfl, f4⟩ := hv
  replace f4 : Mr nd np I I3 := Mr.fm (f2) (f4)
  have s4 := RI.so f4.2; have l4 := RI.lw f4.2; have g4 := RI.lg f4.2
  refine a_if_ne rfl (fun c15 => ?_) (fun c15 => ?_)
  · refine a_s rfl rfl ?_
    exact a_iret rfl rfl ⟨⟨_, rfl⟩, _, rfl, f4⟩
  · obtain ⟨i5, hi5, rfl⟩ := isIx (n := nd) (by have := hs.n; have := hs.p; omega) c15
    refine a_l0 rfl rfl rfl ?_
    refine a_l0 rfl rfl rfl ?_
    refine a_l1 rfl rfl rfl ?_
    refine a_eV1 rfl lX12_364 mo_X12_isForgotten (sp_X12_isForgotten (d := i5) (Nat.lt_of_lt_of_le hi5 s4.n)) rfl rfl rfl ⟨12, _, rfl, rfl, rfl⟩ rfl ?_
    refine a_if_ne rfl (fun c24 => ?_) (fun c24 => ?_)
    · refine a_s rfl rfl ?_
      refine a_s rfl rfl ?_
      refine a_gV rfl lX12_243 mo_X12_throwsIf (r_X12_throwsIf (b := false)) rfl rfl rfl ⟨12, _, rfl, rfl, rfl⟩ rfl (fun v' h' hv => ?_)
      obtain ⟨rfl, I6, rfl, f7⟩ := hv
      replace f7 : Mr nd np I I6 := Mr.fm (f4) (f7)
      have s7 := RI.so f7.2; have l7 := RI.lw f7.2; have g7 := RI.lg f7.2
      refine a_if_eq rfl (fun _ => ?_) (fun c => absurd (by decide) c)
      refine a_l0 rfl rfl rfl ?_
      refine a_gV rfl lX12_357 mo_X12_remembers (r_X12_remembers f7.2) rfl rfl rfl ⟨12, _, rfl, rfl, rfl⟩ rfl (fun v' h' hv => ?_)
      obtain ⟨rfl, I8, rfl, f9, -⟩ := hv
      replace f9 := Mr.tr (f7) f9
      have s9 := RI.so f9.2; have l9 := RI.lw f9.2; have g9 := RI.lg f9.2
      refine a_l0 rfl rfl rfl ?_
      refine a_l1 rfl rfl rfl ?_
      refine a_s rfl rfl ?_
      refine a_gV rfl lX12_354 mo_X12_isNow (r_X12_isNow s9 l9 g9 hi5) rfl rfl rfl ⟨12, _, rfl, rfl, rfl⟩ rfl (fun v' h' hv => ?_)
      obtain ⟨rfl, I11, rfl, f12⟩ := hv
      replace f12 := Mr.dd (f9) f12
      have s12 := RI.so f12.2; have l12 := RI.lw f12.2; have g12 := RI.lg f12.2
      refine a_l0 rfl rfl rfl ?_
      refine a_l1 rfl rfl rfl ?_
      refine a_s rfl rfl ?_
      refine a_eV1 rfl lX12_63 mo_X12_of (sp_X12_of (d := i5) (k := 2) (Nat.lt_of_lt_of_le hi5 s12.n) (by decide)) rfl rfl rfl ⟨12, _, rfl, rfl, rfl⟩ rfl ?_
      exact a_iret rfl rfl ⟨⟨_, rfl⟩, _, rfl, f12⟩
    · refine a_s rfl rfl ?_
      refine a_goto rfl ?_
      refine a_s rfl rfl ?_
      refine a_gV rfl lX12_243 mo_X12_throwsIf (r_X12_throwsIf (b := true)) rfl rfl rfl ⟨12, _, rfl, rfl, rfl⟩ rfl (fun v' h' hv => ?_)
      obtain ⟨rfl, I13, rfl, f14⟩ := hv
      replace f14 : Mr nd np I I13 := Mr.fm (f4) (f14)
      have s14 := RI.so f14.2; have l14 := RI.lw f14.2; have g14 := RI.lg f14.2
      refine a_if_eq rfl (fun c => absurd c (by decide)) (fun _ => ?_)
      refine a_s rfl rfl ?_
      exact a_iret rfl rfl ⟨⟨_, rfl⟩, _, rfl, f14⟩
theorem r_X12_hand {S : aS} {I : Nat → Nat → Int32} {L : Nat → Nat → Int64} {w1 w2 t : Nat} {x1 x2 : Int32} {nd np : Nat} (hr : RI nd np I) : Sp S m_X12_hand 15 0 0 [.ref 420, .int x1, .int x2] (hp I L w1 w2 t) (QR (Mr nd np I) isI L w1 w2 t) nX := by
  have hs := RI.so hr
  have hw := RI.lw hr
  have lg := RI.lg hr
  refine Sp_of ok_X12_hand rfl rfl ?_
  show AW S m_X12_hand 15 _ _ 0 0 0 [some (.ref 420), some (.int x1), some (.int x2), none] [] (hp I L w1 w2 t)
  refine a_l0 rfl rfl rfl ?_
  refine a_s rfl rfl ?_
  refine a_puti rfl pfX12_3_12 rfl ?_
  refine a_ren (P := Mr nd np I) (Mr.fm ((Mr.rf hr)) (Fm.up (Fm.rf (s := sU)) rfl)) (fun I1 f2 => ?_)
  have s2 := RI.so f2.2; have l2 := RI.lw f2.2; have g2 := RI.lg f2.2
  refine a_l0 rfl rfl rfl ?_
  refine a_l0 rfl rfl rfl ?_
  refine a_l1 rfl rfl rfl ?_
  refine a_eV1 rfl lX12_289 mo_X12_noDuty (r_X12_noDuty s2) rfl rfl rfl ⟨12, _, rfl, rfl, rfl⟩ rfl ?_
  refine a_if_ne rfl (fun c11 => ?_) (fun c11 => ?_)
  · refine a_s rfl rfl ?_
    refine a_goto rfl ?_
    refine a_s rfl rfl ?_
    refine a_gV rfl lX12_243 mo_X12_throwsIf (r_X12_throwsIf (b := true)) rfl rfl rfl ⟨12, _, rfl, rfl, rfl⟩ rfl (fun v' h' hv => ?_)
    obtain ⟨rfl, I3, rfl, f4⟩ := hv
    replace f4 : Mr nd np I I3 := Mr.fm (f2) (f4)
    have s4 := RI.so f4.2; have l4 := RI.lw f4.2; have g4 := RI.lg f4.2
    refine a_if_ne rfl (fun _ => ?_) (fun c => absurd c (by decide))
    refine a_s rfl rfl ?_
    exact a_iret rfl rfl ⟨⟨_, rfl⟩, _, rfl, f4⟩
  · obtain ⟨i5, hi5, rfl⟩ := isIx (n := nd) (by have := hs.n; have := hs.p; omega) c11
    refine a_l0 rfl rfl rfl ?_
    refine a_l2 rfl rfl rfl ?_
    refine a_eV1 rfl lX12_342 mo_X12_noPerson (r_X12_noPerson s2) rfl rfl rfl ⟨12, _, rfl, rfl, rfl⟩ rfl ?_
    refine a_if_eq rfl (fun c19 => ?_) (fun c19 => ?_)
    · obtain ⟨i6, hi6, rfl⟩ := isIx (n := np) (by have := hs.n; have := hs.p; omega) c19
      refine a_s rfl rfl ?_
      refine a_s rfl rfl ?_
      refine a_gV rfl lX12_243 mo_X12_throwsIf (r_X12_throwsIf (b := false)) rfl rfl rfl ⟨12, _, rfl, rfl, rfl⟩ rfl (fun v' h' hv => ?_)
      obtain ⟨rfl, I7, rfl, f8⟩ := hv
      replace f8 : Mr nd np I I7 := Mr.fm (f2) (f8)
      have s8 := RI.so f8.2; have l8 := RI.lw f8.2; have g8 := RI.lg f8.2
      refine a_if_ne rfl (fun c => absurd (by decide) c) (fun _ => ?_)
      refine a_l0 rfl rfl rfl ?_
      refine a_l0 rfl rfl rfl ?_
      refine a_l1 rfl rfl rfl ?_
      refine a_s rfl rfl ?_
      refine a_eV1 rfl lX12_63 mo_X12_of (sp_X12_of (d := i5) (k := 0) (Nat.lt_of_lt_of_le hi5 s8.n) (by decide)) rfl rfl rfl ⟨12, _, rfl, rfl, rfl⟩ rfl ?_
      refine a_l2 rfl rfl rfl ?_
      refine a_ic_ne rfl (fun c42 => ?_) (fun c42 => ?_)
      · refine a_s rfl rfl ?_
        refine a_s rfl rfl ?_
        refine a_gV rfl lX12_243 mo_X12_throwsIf (r_X12_throwsIf (b := false)) rfl rfl rfl ⟨12, _, rfl, rfl, rfl⟩ rfl (fun v' h' hv => ?_)
        obtain ⟨rfl, I9, rfl, f10⟩ := hv
        replace f10 : Mr nd np I I9 := Mr.fm (f8) (f10)
        have s10 := RI.so f10.2; have l10 := RI.lw f10.2; have g10 := RI.lg f10.2
        refine a_if_ne rfl (fun c => absurd (by decide) c) (fun _ => ?_)
        refine a_l0 rfl rfl rfl ?_
        refine a_l0 rfl rfl rfl ?_
        refine a_l1 rfl rfl rfl ?_
        refine a_eV1 rfl lX12_246 mo_X12_isDone (sp_X12_isDone (d := i5) (Nat.lt_of_lt_of_le hi5 s10.n)) rfl rfl rfl ⟨12, _, rfl, rfl, rfl⟩ rfl ?_
        refine a_s rfl rfl ?_
        refine a_gV rfl lX12_243 mo_X12_throwsIf (r_X12_throwsIf) rfl rfl rfl ⟨12, _, rfl, rfl, rfl⟩ rfl (fun v' h' hv => ?_)
        obtain ⟨rfl, I11, rfl, f12⟩ := hv
        replace f12 : Mr nd np I I11 := Mr.fm (f10) (f12)
        have s12 := RI.so f12.2; have l12 := RI.lw f12.2; have g12 := RI.lg f12.2
        refine a_if_eq rfl (fun c67 => ?_) (fun c67 => ?_)
        · refine a_l0 rfl rfl rfl ?_
          refine a_gV rfl lX12_357 mo_X12_remembers (r_X12_remembers f12.2) rfl rfl rfl ⟨12, _, rfl, rfl, rfl⟩ rfl (fun v' h' hv => ?_)
          obtain ⟨rfl, I13, rfl, f14, -⟩ := hv
          replace f14 := Mr.tr (f12) f14
          have s14 := RI.so f14.2; have l14 := RI.lw f14.2; have g14 := RI.lg f14.2
          refine a_l0 rfl rfl rfl ?_
          refine a_l1 rfl rfl rfl ?_
          refine a_s rfl rfl ?_
          refine a_eV1 rfl lX12_63 mo_X12_of (sp_X12_of (d := i5) (k := 0) (Nat.lt_of_lt_of_le hi5 s14.n) (by decide)) rfl rfl rfl ⟨12, _, rfl, rfl, rfl⟩ rfl ?_
          refine a_s3 rfl rfl rfl rfl rfl rfl ?_
          refine a_l0 rfl rfl rfl ?_
          refine a_getq rfl gfX12_13_12 rfl (rfl) ?_
          refine a_l1 rfl rfl rfl ?_
          refine a_s rfl rfl ?_
          refine a_eS1 rfl lX12_60 mo_X12_at (sp_X12_at (d := i5) (k := 0)) rfl rfl rfl rfl ?_
          refine a_l2 rfl rfl rfl ?_
          refine a_iastv (k := (23 + 6 * i5 + 0)) rfl (n := 2033) rfl (inI_nI (by have := hs.n; have := hs.p; omega) (by have := hs.n; have := hs.p; omega)) (nI_clamp (by have := hs.n; have := hs.p; omega)) ?_
          refine a_ren (P := Mr nd np I) (Mr.own (f14) hi5 hi6) (fun I15 f16 => ?_)
          have s16 := RI.so f16.2; have l16 := RI.lw f16.2; have g16 := RI.lg f16.2
          refine a_l3 rfl rfl rfl ?_
          exact a_iret rfl rfl ⟨⟨_, rfl⟩, _, rfl, f16⟩
        · refine a_s rfl rfl ?_
          exact a_iret rfl rfl ⟨⟨_, rfl⟩, _, rfl, f12⟩
      · refine a_s rfl rfl ?_
        refine a_goto rfl ?_
        refine a_s rfl rfl ?_
        refine a_gV rfl lX12_243 mo_X12_throwsIf (r_X12_throwsIf (b := true)) rfl rfl rfl ⟨12, _, rfl, rfl, rfl⟩ rfl (fun v' h' hv => ?_)
        obtain ⟨rfl, I17, rfl, f18⟩ := hv
        replace f18 : Mr nd np I I17 := Mr.fm (f8) (f18)
        have s18 := RI.so f18.2; have l18 := RI.lw f18.2; have g18 := RI.lg f18.2
        refine a_if_ne rfl (fun _ => ?_) (fun c => absurd c (by decide))
        refine a_s rfl rfl ?_
        exact a_iret rfl rfl ⟨⟨_, rfl⟩, _, rfl, f18⟩
    · refine a_s rfl rfl ?_
      refine a_goto rfl ?_
      refine a_s rfl rfl ?_
      refine a_gV rfl lX12_243 mo_X12_throwsIf (r_X12_throwsIf (b := true)) rfl rfl rfl ⟨12, _, rfl, rfl, rfl⟩ rfl (fun v' h' hv => ?_)
      obtain ⟨rfl, I19, rfl, f20⟩ := hv
      replace f20 : Mr nd np I I19 := Mr.fm (f2) (f20)
      have s20 := RI.so f20.2; have l20 := RI.lw f20.2; have g20 := RI.lg f20.2
      refine a_if_ne rfl (fun _ => ?_) (fun c => absurd c (by decide))
      refine a_s rfl rfl ?_
      exact a_iret rfl rfl ⟨⟨_, rfl⟩, _, rfl, f20⟩
theorem r_X12_lean {S : aS} {I : Nat → Nat → Int32} {L : Nat → Nat → Int64} {w1 w2 t : Nat} {x1 x2 : Int32} {nd np : Nat} (hr : RI nd np I) : Sp S m_X12_lean 15 0 0 [.ref 420, .int x1, .int x2] (hp I L w1 w2 t) (QR (Mr nd np I) isI L w1 w2 t) nX := by
  have hs := RI.so hr
  have hw := RI.lw hr
  have lg := RI.lg hr
  refine Sp_of ok_X12_lean rfl rfl ?_
  show AW S m_X12_lean 15 _ _ 0 0 0 [some (.ref 420), some (.int x1), some (.int x2), none] [] (hp I L w1 w2 t)
  refine a_l0 rfl rfl rfl ?_
  refine a_s rfl rfl ?_
  refine a_puti rfl pfX12_3_12 rfl ?_
  refine a_ren (P := Mr nd np I) (Mr.fm ((Mr.rf hr)) (Fm.up (Fm.rf (s := sU)) rfl)) (fun I1 f2 => ?_)
  have s2 := RI.so f2.2; have l2 := RI.lw f2.2; have g2 := RI.lg f2.2
  refine a_l0 rfl rfl rfl ?_
  refine a_l0 rfl rfl rfl ?_
  refine a_l1 rfl rfl rfl ?_
  refine a_eV1 rfl lX12_289 mo_X12_noDuty (r_X12_noDuty s2) rfl rfl rfl ⟨12, _, rfl, rfl, rfl⟩ rfl ?_
  refine a_if_ne rfl (fun c11 => ?_) (fun c11 => ?_)
  · refine a_s rfl rfl ?_
    refine a_goto rfl ?_
    refine a_s rfl rfl ?_
    refine a_gV rfl lX12_243 mo_X12_throwsIf (r_X12_throwsIf (b := true)) rfl rfl rfl ⟨12, _, rfl, rfl, rfl⟩ rfl (fun v' h' hv => ?_)
    obtain ⟨rfl, I3, rfl, f4⟩ := hv
    replace f4 : Mr nd np I I3 := Mr.fm (f2) (f4)
    have s4 := RI.so f4.2; have l4 := RI.lw f4.2; have g4 := RI.lg f4.2
    refine a_if_ne rfl (fun _ => ?_) (fun c => absurd c (by decide))
    refine a_s rfl rfl ?_
    exact a_iret rfl rfl ⟨⟨_, rfl⟩, _, rfl, f4⟩
  · obtain ⟨i5, hi5, rfl⟩ := isIx (n := nd) (by have := hs.n; have := hs.p; omega) c11
    refine a_l2 rfl rfl rfl ?_
    refine a_s rfl rfl ?_
    refine a_ic_eq rfl (fun c16 => ?_) (fun c16 => ?_)
    · subst c16
      refine a_s rfl rfl ?_
      refine a_s rfl rfl ?_
      refine a_gV rfl lX12_243 mo_X12_throwsIf (r_X12_throwsIf (b := false)) rfl rfl rfl ⟨12, _, rfl, rfl, rfl⟩ rfl (fun v' h' hv => ?_)
      obtain ⟨rfl, I6, rfl, f7⟩ := hv
      replace f7 : Mr nd np I I6 := Mr.fm (f2) (f7)
      have s7 := RI.so f7.2; have l7 := RI.lw f7.2; have g7 := RI.lg f7.2
      refine a_if_ne rfl (fun c => absurd (by decide) c) (fun _ => ?_)
      refine a_l0 rfl rfl rfl ?_
      refine a_l1 rfl rfl rfl ?_
      refine a_l2 rfl rfl rfl ?_
      refine a_ic_ne rfl (fun c42 => ?_) (fun c42 => ?_)
      · refine a_s rfl rfl ?_
        refine a_s rfl rfl ?_
        refine a_gV rfl lX12_243 mo_X12_throwsIf (r_X12_throwsIf (b := false)) rfl rfl rfl ⟨12, _, rfl, rfl, rfl⟩ rfl (fun v' h' hv => ?_)
        obtain ⟨rfl, I8, rfl, f9⟩ := hv
        replace f9 : Mr nd np I I8 := Mr.fm (f7) (f9)
        have s9 := RI.so f9.2; have l9 := RI.lw f9.2; have g9 := RI.lg f9.2
        refine a_if_eq rfl (fun _ => ?_) (fun c => absurd (by decide) c)
        refine a_l0 rfl rfl rfl ?_
        refine a_gV rfl lX12_357 mo_X12_remembers (r_X12_remembers f9.2) rfl rfl rfl ⟨12, _, rfl, rfl, rfl⟩ rfl (fun v' h' hv => ?_)
        obtain ⟨rfl, I10, rfl, f11, -⟩ := hv
        replace f11 := Mr.tr (f9) f11
        have s11 := RI.so f11.2; have l11 := RI.lw f11.2; have g11 := RI.lg f11.2
        refine a_l0 rfl rfl rfl ?_
        refine a_l1 rfl rfl rfl ?_
        refine a_s rfl rfl ?_
        refine a_eV1 rfl lX12_63 mo_X12_of (sp_X12_of (d := i5) (k := 4) (Nat.lt_of_lt_of_le hi5 s11.n) (by decide)) rfl rfl rfl ⟨12, _, rfl, rfl, rfl⟩ rfl ?_
        refine a_s3 rfl rfl rfl rfl rfl rfl ?_
        refine a_l0 rfl rfl rfl ?_
        refine a_getq rfl gfX12_13_12 rfl (rfl) ?_
        refine a_l1 rfl rfl rfl ?_
        refine a_s rfl rfl ?_
        refine a_eS1 rfl lX12_60 mo_X12_at (sp_X12_at (d := i5) (k := 4)) rfl rfl rfl rfl ?_
        refine a_l2 rfl rfl rfl ?_
        refine a_iastv (k := (23 + 6 * i5 + 4)) rfl (n := 2033) rfl (inI_nI (by have := hs.n; have := hs.p; omega) (by have := hs.n; have := hs.p; omega)) (nI_clamp (by have := hs.n; have := hs.p; omega)) ?_
        refine a_ren (P := Mr nd np I) (Mr.le (f11) hi5 (Or.inl rfl)) (fun I12 f13 => ?_)
        have s13 := RI.so f13.2; have l13 := RI.lw f13.2; have g13 := RI.lg f13.2
        refine a_l3 rfl rfl rfl ?_
        exact a_iret rfl rfl ⟨⟨_, rfl⟩, _, rfl, f13⟩
      · refine a_s rfl rfl ?_
        refine a_goto rfl ?_
        refine a_s rfl rfl ?_
        refine a_gV rfl lX12_243 mo_X12_throwsIf (r_X12_throwsIf (b := true)) rfl rfl rfl ⟨12, _, rfl, rfl, rfl⟩ rfl (fun v' h' hv => ?_)
        obtain ⟨rfl, I14, rfl, f15⟩ := hv
        replace f15 : Mr nd np I I14 := Mr.fm (f7) (f15)
        have s15 := RI.so f15.2; have l15 := RI.lw f15.2; have g15 := RI.lg f15.2
        refine a_if_eq rfl (fun c => absurd c (by decide)) (fun _ => ?_)
        refine a_s rfl rfl ?_
        exact a_iret rfl rfl ⟨⟨_, rfl⟩, _, rfl, f15⟩
    · refine a_l0 rfl rfl rfl ?_
      refine a_l2 rfl rfl rfl ?_
      refine a_eV1 rfl lX12_289 mo_X12_noDuty (r_X12_noDuty s2) rfl rfl rfl ⟨12, _, rfl, rfl, rfl⟩ rfl ?_
      refine a_if_eq rfl (fun c24 => ?_) (fun c24 => ?_)
      · obtain ⟨i16, hi16, rfl⟩ := isIx (n := nd) (by have := hs.n; have := hs.p; omega) c24
        refine a_s rfl rfl ?_
        refine a_s rfl rfl ?_
        refine a_gV rfl lX12_243 mo_X12_throwsIf (r_X12_throwsIf (b := false)) rfl rfl rfl ⟨12, _, rfl, rfl, rfl⟩ rfl (fun v' h' hv => ?_)
        obtain ⟨rfl, I17, rfl, f18⟩ := hv
        replace f18 : Mr nd np I I17 := Mr.fm (f2) (f18)
        have s18 := RI.so f18.2; have l18 := RI.lw f18.2; have g18 := RI.lg f18.2
        refine a_if_ne rfl (fun c => absurd (by decide) c) (fun _ => ?_)
        refine a_l0 rfl rfl rfl ?_
        refine a_l1 rfl rfl rfl ?_
        refine a_l2 rfl rfl rfl ?_
        refine a_ic_ne rfl (fun c42 => ?_) (fun c42 => ?_)
        · refine a_s rfl rfl ?_
          refine a_s rfl rfl ?_
          refine a_gV rfl lX12_243 mo_X12_throwsIf (r_X12_throwsIf (b := false)) rfl rfl rfl ⟨12, _, rfl, rfl, rfl⟩ rfl (fun v' h' hv => ?_)
          obtain ⟨rfl, I19, rfl, f20⟩ := hv
          replace f20 : Mr nd np I I19 := Mr.fm (f18) (f20)
          have s20 := RI.so f20.2; have l20 := RI.lw f20.2; have g20 := RI.lg f20.2
          refine a_if_eq rfl (fun _ => ?_) (fun c => absurd (by decide) c)
          refine a_l0 rfl rfl rfl ?_
          refine a_gV rfl lX12_357 mo_X12_remembers (r_X12_remembers f20.2) rfl rfl rfl ⟨12, _, rfl, rfl, rfl⟩ rfl (fun v' h' hv => ?_)
          obtain ⟨rfl, I21, rfl, f22, -⟩ := hv
          replace f22 := Mr.tr (f20) f22
          have s22 := RI.so f22.2; have l22 := RI.lw f22.2; have g22 := RI.lg f22.2
          refine a_l0 rfl rfl rfl ?_
          refine a_l1 rfl rfl rfl ?_
          refine a_s rfl rfl ?_
          refine a_eV1 rfl lX12_63 mo_X12_of (sp_X12_of (d := i5) (k := 4) (Nat.lt_of_lt_of_le hi5 s22.n) (by decide)) rfl rfl rfl ⟨12, _, rfl, rfl, rfl⟩ rfl ?_
          refine a_s3 rfl rfl rfl rfl rfl rfl ?_
          refine a_l0 rfl rfl rfl ?_
          refine a_getq rfl gfX12_13_12 rfl (rfl) ?_
          refine a_l1 rfl rfl rfl ?_
          refine a_s rfl rfl ?_
          refine a_eS1 rfl lX12_60 mo_X12_at (sp_X12_at (d := i5) (k := 4)) rfl rfl rfl rfl ?_
          refine a_l2 rfl rfl rfl ?_
          refine a_iastv (k := (23 + 6 * i5 + 4)) rfl (n := 2033) rfl (inI_nI (by have := hs.n; have := hs.p; omega) (by have := hs.n; have := hs.p; omega)) (nI_clamp (by have := hs.n; have := hs.p; omega)) ?_
          refine a_ren (P := Mr nd np I) (Mr.le (f22) hi5 (Or.inr ⟨_, hi16, rfl⟩)) (fun I23 f24 => ?_)
          have s24 := RI.so f24.2; have l24 := RI.lw f24.2; have g24 := RI.lg f24.2
          refine a_l3 rfl rfl rfl ?_
          exact a_iret rfl rfl ⟨⟨_, rfl⟩, _, rfl, f24⟩
        · refine a_s rfl rfl ?_
          refine a_goto rfl ?_
          refine a_s rfl rfl ?_
          refine a_gV rfl lX12_243 mo_X12_throwsIf (r_X12_throwsIf (b := true)) rfl rfl rfl ⟨12, _, rfl, rfl, rfl⟩ rfl (fun v' h' hv => ?_)
          obtain ⟨rfl, I25, rfl, f26⟩ := hv
          replace f26 : Mr nd np I I25 := Mr.fm (f18) (f26)
          have s26 := RI.so f26.2; have l26 := RI.lw f26.2; have g26 := RI.lg f26.2
          refine a_if_eq rfl (fun c => absurd c (by decide)) (fun _ => ?_)
          refine a_s rfl rfl ?_
          exact a_iret rfl rfl ⟨⟨_, rfl⟩, _, rfl, f26⟩
      · refine a_s rfl rfl ?_
        refine a_goto rfl ?_
        refine a_s rfl rfl ?_
        refine a_gV rfl lX12_243 mo_X12_throwsIf (r_X12_throwsIf (b := true)) rfl rfl rfl ⟨12, _, rfl, rfl, rfl⟩ rfl (fun v' h' hv => ?_)
        obtain ⟨rfl, I27, rfl, f28⟩ := hv
        replace f28 : Mr nd np I I27 := Mr.fm (f2) (f28)
        have s28 := RI.so f28.2; have l28 := RI.lw f28.2; have g28 := RI.lg f28.2
        refine a_if_ne rfl (fun _ => ?_) (fun c => absurd c (by decide))
        refine a_s rfl rfl ?_
        exact a_iret rfl rfl ⟨⟨_, rfl⟩, _, rfl, f28⟩
theorem r_X12_free {S : aS} {I : Nat → Nat → Int32} {L : Nat → Nat → Int64} {w1 w2 t : Nat} {x1 x2 : Int32} {nd np : Nat} (hr : RI nd np I) : Sp S m_X12_free 15 0 0 [.ref 420, .int x1, .int x2] (hp I L w1 w2 t) (QR (Mr nd np I) isI L w1 w2 t) nX := by
  have hs := RI.so hr
  have hw := RI.lw hr
  have lg := RI.lg hr
  refine Sp_of ok_X12_free rfl rfl ?_
  show AW S m_X12_free 15 _ _ 0 0 0 [some (.ref 420), some (.int x1), some (.int x2), none] [] (hp I L w1 w2 t)
  refine a_l0 rfl rfl rfl ?_
  refine a_s rfl rfl ?_
  refine a_puti rfl pfX12_3_12 rfl ?_
  refine a_ren (P := Mr nd np I) (Mr.fm ((Mr.rf hr)) (Fm.up (Fm.rf (s := sU)) rfl)) (fun I1 f2 => ?_)
  have s2 := RI.so f2.2; have l2 := RI.lw f2.2; have g2 := RI.lg f2.2
  refine a_l0 rfl rfl rfl ?_
  refine a_l0 rfl rfl rfl ?_
  refine a_l1 rfl rfl rfl ?_
  refine a_eV1 rfl lX12_342 mo_X12_noPerson (r_X12_noPerson s2) rfl rfl rfl ⟨12, _, rfl, rfl, rfl⟩ rfl ?_
  refine a_s rfl rfl ?_
  refine a_gV rfl lX12_243 mo_X12_throwsIf (r_X12_throwsIf) rfl rfl rfl ⟨12, _, rfl, rfl, rfl⟩ rfl (fun v' h' hv => ?_)
  obtain ⟨rfl, I3, rfl, f4⟩ := hv
  replace f4 : Mr nd np I I3 := Mr.fm (f2) (f4)
  have s4 := RI.so f4.2; have l4 := RI.lw f4.2; have g4 := RI.lg f4.2
  refine a_if_ne rfl (fun c15 => ?_) (fun c15 => ?_)
  · refine a_s rfl rfl ?_
    exact a_iret rfl rfl ⟨⟨_, rfl⟩, _, rfl, f4⟩
  · obtain ⟨i5, hi5, rfl⟩ := isIx (n := np) (by have := hs.n; have := hs.p; omega) c15
    refine a_l0 rfl rfl rfl ?_
    refine a_l2 rfl rfl rfl ?_
    refine a_s rfl rfl ?_
    refine a_s rfl rfl ?_
    refine a_eS1 rfl lX12_70 mo_X12_in (sp_X12_in) rfl rfl rfl rfl ?_
    refine a_if_ne rfl (fun c26 => ?_) (fun c26 => ?_)
    · obtain ⟨m6, hm6a, hm6b, rfl⟩ := inB_nI (a := 0) (b := 9) (by decide) (bI_t c26)
      refine a_s rfl rfl ?_
      refine a_s rfl rfl ?_
      refine a_gV rfl lX12_243 mo_X12_throwsIf (r_X12_throwsIf (b := false)) rfl rfl rfl ⟨12, _, rfl, rfl, rfl⟩ rfl (fun v' h' hv => ?_)
      obtain ⟨rfl, I7, rfl, f8⟩ := hv
      replace f8 : Mr nd np I I7 := Mr.fm (f4) (f8)
      have s8 := RI.so f8.2; have l8 := RI.lw f8.2; have g8 := RI.lg f8.2
      refine a_if_eq rfl (fun _ => ?_) (fun c => absurd (by decide) c)
      refine a_l0 rfl rfl rfl ?_
      refine a_gV rfl lX12_357 mo_X12_remembers (r_X12_remembers f8.2) rfl rfl rfl ⟨12, _, rfl, rfl, rfl⟩ rfl (fun v' h' hv => ?_)
      obtain ⟨rfl, I9, rfl, f10, -⟩ := hv
      replace f10 := Mr.tr (f8) f10
      have s10 := RI.so f10.2; have l10 := RI.lw f10.2; have g10 := RI.lg f10.2
      refine a_l0 rfl rfl rfl ?_
      refine a_l1 rfl rfl rfl ?_
      refine a_s rfl rfl ?_
      refine a_eV1 rfl lX12_252 mo_X12_ofPerson (sp_X12_ofPerson (d := i5) (k := 1) (Nat.lt_of_lt_of_le hi5 s10.p) (by decide)) rfl rfl rfl ⟨12, _, rfl, rfl, rfl⟩ rfl ?_
      refine a_s3 rfl rfl rfl rfl rfl rfl ?_
      refine a_l0 rfl rfl rfl ?_
      refine a_getq rfl gfX12_13_12 rfl (rfl) ?_
      refine a_l1 rfl rfl rfl ?_
      refine a_s rfl rfl ?_
      refine a_eS1 rfl lX12_56 mo_X12_personAt (sp_X12_personAt (d := i5) (k := 1)) rfl rfl rfl rfl ?_
      refine a_l2 rfl rfl rfl ?_
      refine a_iastv (k := (11 + 2 * i5 + 1)) rfl (n := 2033) rfl (inI_nI (by have := hs.n; have := hs.p; omega) (by have := hs.n; have := hs.p; omega)) (nI_clamp (by have := hs.n; have := hs.p; omega)) ?_
      refine a_ren (P := Mr nd np I) (Mr.free (f10) hi5 hm6b) (fun I11 f12 => ?_)
      have s12 := RI.so f12.2; have l12 := RI.lw f12.2; have g12 := RI.lg f12.2
      refine a_l3 rfl rfl rfl ?_
      exact a_iret rfl rfl ⟨⟨_, rfl⟩, _, rfl, f12⟩
    · refine a_s rfl rfl ?_
      refine a_goto rfl ?_
      refine a_s rfl rfl ?_
      refine a_gV rfl lX12_243 mo_X12_throwsIf (r_X12_throwsIf (b := true)) rfl rfl rfl ⟨12, _, rfl, rfl, rfl⟩ rfl (fun v' h' hv => ?_)
      obtain ⟨rfl, I13, rfl, f14⟩ := hv
      replace f14 : Mr nd np I I13 := Mr.fm (f4) (f14)
      have s14 := RI.so f14.2; have l14 := RI.lw f14.2; have g14 := RI.lg f14.2
      refine a_if_eq rfl (fun c => absurd c (by decide)) (fun _ => ?_)
      refine a_s rfl rfl ?_
      exact a_iret rfl rfl ⟨⟨_, rfl⟩, _, rfl, f14⟩
theorem r_X12_days {S : aS} {I : Nat → Nat → Int32} {L : Nat → Nat → Int64} {w1 w2 t : Nat} {x1 : Int32} {nd np : Nat} (hr : RI nd np I) : Sp S m_X12_days 24 0 0 [.ref 420, .int x1] (hp I L w1 w2 t) (QR (Mr nd np I) isI L w1 w2 t) nX := by
  have hs := RI.so hr
  have hw := RI.lw hr
  have lg := RI.lg hr
  refine Sp_of ok_X12_days rfl rfl ?_
  show AW S m_X12_days 24 _ _ 0 0 0 [some (.ref 420), some (.int x1)] [] (hp I L w1 w2 t)
  refine a_l0 rfl rfl rfl ?_
  refine a_s rfl rfl ?_
  refine a_puti rfl pfX12_3_12 rfl ?_
  refine a_ren (P := Mr nd np I) (Mr.fm ((Mr.rf hr)) (Fm.up (Fm.rf (s := sU)) rfl)) (fun I1 f2 => ?_)
  have s2 := RI.so f2.2; have l2 := RI.lw f2.2; have g2 := RI.lg f2.2
  refine a_l0 rfl rfl rfl ?_
  refine a_l1 rfl rfl rfl ?_
  refine a_s rfl rfl ?_
  refine a_s rfl rfl ?_
  refine a_eS1 rfl lX12_70 mo_X12_in (sp_X12_in) rfl rfl rfl rfl ?_
  refine a_if_ne rfl (fun c13 => ?_) (fun c13 => ?_)
  · obtain ⟨m3, hm3a, hm3b, rfl⟩ := inB_nI (a := 1) (b := 90) (by decide) (bI_t c13)
    refine a_s rfl rfl ?_
    refine a_s rfl rfl ?_
    refine a_gV rfl lX12_243 mo_X12_throwsIf (r_X12_throwsIf (b := false)) rfl rfl rfl ⟨12, _, rfl, rfl, rfl⟩ rfl (fun v' h' hv => ?_)
    obtain ⟨rfl, I4, rfl, f5⟩ := hv
    replace f5 : Mr nd np I I4 := Mr.fm (f2) (f5)
    have s5 := RI.so f5.2; have l5 := RI.lw f5.2; have g5 := RI.lg f5.2
    refine a_if_eq rfl (fun _ => ?_) (fun c => absurd (by decide) c)
    refine a_l0 rfl rfl rfl ?_
    refine a_gV rfl lX12_357 mo_X12_remembers (r_X12_remembers f5.2) rfl rfl rfl ⟨12, _, rfl, rfl, rfl⟩ rfl (fun v' h' hv => ?_)
    obtain ⟨rfl, I6, rfl, f7, -⟩ := hv
    replace f7 := Mr.tr (f5) f7
    have s7 := RI.so f7.2; have l7 := RI.lw f7.2; have g7 := RI.lg f7.2
    refine a_l0 rfl rfl rfl ?_
    refine a_l1 rfl rfl rfl ?_
    refine a_s rfl rfl ?_
    refine a_gV rfl lX12_388 mo_X12_goesOn (r_X12_goesOn s7 l7 g7 (b2 := false)) rfl rfl rfl ⟨12, _, rfl, rfl, rfl⟩ rfl (fun v' h' hv => ?_)
    obtain ⟨⟨v8, rfl⟩, I9, rfl, f10⟩ := hv
    replace f10 := Mr.dd (f7) f10
    have s10 := RI.so f10.2; have l10 := RI.lw f10.2; have g10 := RI.lg f10.2
    exact a_iret rfl rfl ⟨⟨_, rfl⟩, _, rfl, f10⟩
  · refine a_s rfl rfl ?_
    refine a_goto rfl ?_
    refine a_s rfl rfl ?_
    refine a_gV rfl lX12_243 mo_X12_throwsIf (r_X12_throwsIf (b := true)) rfl rfl rfl ⟨12, _, rfl, rfl, rfl⟩ rfl (fun v' h' hv => ?_)
    obtain ⟨rfl, I11, rfl, f12⟩ := hv
    replace f12 : Mr nd np I I11 := Mr.fm (f2) (f12)
    have s12 := RI.so f12.2; have l12 := RI.lw f12.2; have g12 := RI.lg f12.2
    refine a_if_eq rfl (fun c => absurd c (by decide)) (fun _ => ?_)
    refine a_s rfl rfl ?_
    exact a_iret rfl rfl ⟨⟨_, rfl⟩, _, rfl, f12⟩
