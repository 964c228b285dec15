/-! ===== the reference: a duty's line, the street's line ===== -/
section T69
variable {S : aS} {I : Nat → Nat → Int32} {L : Nat → Nat → Int64} {w1 w2 t : Nat} {e p nd np : Nat}
set_option maxRecDepth 100000
def dutH (J : Nat → Nat → Int32) (nd : Nat) (x0 x1 x2 x3 x4 : Int32) : Nat → Nat → Int32 := up2 (up2 (up2 (up2 (up2 (up2 (up2 J 421 (23 + 6 * nd + 0) x0) 421 (23 + 6 * nd + 1) x1) 421 (23 + 6 * nd + 2) x2) 421 (23 + 6 * nd + 3) x3) 421 (23 + 6 * nd + 4) x4) 421 (23 + 6 * nd + 5) 0) 421 1 (nI (nd + 1))
theorem dutH_row {J : Nat → Nat → Int32} {x0 x1 x2 x3 x4 : Int32} {q : Nat} (h : q ≠ 421) : dutH J nd x0 x1 x2 x3 x4 q = J q := by
  unfold dutH
  rw [up2_row h, up2_row h, up2_row h, up2_row h, up2_row h, up2_row h, up2_row h]
theorem dutH_lo {J : Nat → Nat → Int32} {x0 x1 x2 x3 x4 : Int32} {k : Nat} (h : k ≠ 1) (h2 : k < 23 + 6 * nd) : dutH J nd x0 x1 x2 x3 x4 421 k = J 421 k := by
  unfold dutH
  rw [u2_lo h, u2_lo (by omega), u2_lo (by omega), u2_lo (by omega), u2_lo (by omega), u2_lo (by omega), u2_lo (by omega)]
theorem dutH_1 {J : Nat → Nat → Int32} {x0 x1 x2 x3 x4 : Int32} : dutH J nd x0 x1 x2 x3 x4 421 1 = nI (nd + 1) := up2_at
theorem dutH_at0 {J : Nat → Nat → Int32} {x0 x1 x2 x3 x4 : Int32} : dutH J nd x0 x1 x2 x3 x4 421 (23 + 6 * nd + 0) = x0 := by
  unfold dutH
  rw [u2_lo (by omega), u2_lo (by omega), u2_lo (by omega), u2_lo (by omega), u2_lo (by omega), u2_lo (by omega)]
  exact up2_at
theorem dutH_at3 {J : Nat → Nat → Int32} {x0 x1 x2 x3 x4 : Int32} : dutH J nd x0 x1 x2 x3 x4 421 (23 + 6 * nd + 3) = x3 := by
  unfold dutH
  rw [u2_lo (by omega), u2_lo (by omega), u2_lo (by omega)]
  exact up2_at
theorem dutH_at4 {J : Nat → Nat → Int32} {x0 x1 x2 x3 x4 : Int32} : dutH J nd x0 x1 x2 x3 x4 421 (23 + 6 * nd + 4) = x4 := by
  unfold dutH
  rw [u2_lo (by omega), u2_lo (by omega)]
  exact up2_at
theorem dutH_fm {J : Nat → Nat → Int32} {x0 x1 x2 x3 x4 : Int32} (hn : nd < 12) (f : Fm sS I J) : Fm sS I (dutH J nd x0 x1 x2 x3 x4) := by
  unfold dutH
  exact Fm.up (Fm.up (Fm.up (Fm.up (Fm.up (Fm.up (Fm.up f (sS_at (stC_of _ (by omega) (by omega) (by omega)))) (sS_at (stC_of _ (by omega) (by omega) (by omega)))) (sS_at (stC_of _ (by omega) (by omega) (by omega)))) (sS_at (stC_of _ (by omega) (by omega) (by omega)))) (sS_at (stC_of _ (by omega) (by omega) (by omega)))) (sS_at (stC_of _ (by omega) (by omega) (by omega)))) (sS_at rfl)
theorem r_X12_readDuty (hw : WdS S) (s : SF nd np I) (hq : Pp e p I) : Sp S m_X12_readDuty 18 0 0 [.ref 420] (hp I L w1 w2 t) (QL e p I L w1 w2 t) nX := by
  have hs := s.1
  have hn := hs.n
  have h6 := hs.p
  refine Sp_of ok_X12_readDuty rfl rfl ?_
  show AW S m_X12_readDuty 18 _ _ 0 0 0 [some (.ref 420), none, none, none, none, none, none, none, none] [] (hp I L w1 w2 t)
  refine a_l0 rfl rfl rfl ?_
  refine a_eV1 rfl lX12_74 mo_X12_duties sp_X12_duties rfl rfl rfl ⟨12, _, rfl, rfl, rfl⟩ rfl ?_
  refine a_top (y := nI nd) (hs.du) ?_
  refine a_s1 rfl rfl rfl rfl rfl rfl ?_
  refine a_l1 rfl rfl rfl ?_
  refine a_s rfl rfl ?_
  refine a_ic_ne rfl (fun c => ?_) (fun _ => ?_)
  rotate_left
  · refine a_s rfl rfl ?_
    exact a_zret rfl rfl rfl (QL.re (z := false) hq s)
  have hlt : nd < 12 := by
    rcases Nat.lt_or_ge nd 12 with g | g
    · exact g
    · exact absurd (congrArg nI (show nd = 12 by omega)) c
  have k156 : ∀ {j : Nat} {x1 x2 x3 x4 : Int32} {u5 u7 : Option Value} {b p' : Nat} {J : Nat → Nat → Int32}, Rd e p b p' I J → j < np → (x3 = -1 ∨ ∃ k, k ≤ 5 ∧ x3 = nI k) → (x4 = -1 ∨ ∃ k, k < nd ∧ x4 = nI k) → AW S m_X12_readDuty 18 (QL e p I L w1 w2 t) nX 0 0 156 [some (.ref 420), some (.int (nI nd)), some (.int (nI j)), some (.int x1), some (.int x2), u5, some (.int x3), u7, some (.int x4)] [] (hp J L w1 w2 t) := by
    intro j x1 x2 x3 x4 u5 u7 b p' J h hj h3 h4
    refine a_l0 rfl rfl rfl ?_
    refine a_getq rfl gfX12_13_12 rfl (rfl) ?_
    refine a_l1 rfl rfl rfl ?_
    refine a_s rfl rfl ?_
    refine a_eS1 rfl lX12_60 mo_X12_at (sp_X12_at (d := nd) (k := 0)) rfl rfl rfl rfl ?_
    refine a_l2 rfl rfl rfl ?_
    refine a_iastv (k := 23 + 6 * nd + 0) rfl (n := 2033) rfl (inI_nI (by omega) (by omega)) (nI_clamp (by omega)) ?_
    refine a_l0 rfl rfl rfl ?_
    refine a_getq rfl gfX12_13_12 rfl (rfl) ?_
    refine a_l1 rfl rfl rfl ?_
    refine a_s rfl rfl ?_
    refine a_eS1 rfl lX12_60 mo_X12_at (sp_X12_at (d := nd) (k := 1)) rfl rfl rfl rfl ?_
    refine a_l3 rfl rfl rfl ?_
    refine a_iastv (k := 23 + 6 * nd + 1) rfl (n := 2033) rfl (inI_nI (by omega) (by omega)) (nI_clamp (by omega)) ?_
    refine a_l0 rfl rfl rfl ?_
    refine a_getq rfl gfX12_13_12 rfl (rfl) ?_
    refine a_l1 rfl rfl rfl ?_
    refine a_s rfl rfl ?_
    refine a_eS1 rfl lX12_60 mo_X12_at (sp_X12_at (d := nd) (k := 2)) rfl rfl rfl rfl ?_
    refine a_l4 rfl rfl rfl ?_
    refine a_iastv (k := 23 + 6 * nd + 2) rfl (n := 2033) rfl (inI_nI (by omega) (by omega)) (nI_clamp (by omega)) ?_
    refine a_l0 rfl rfl rfl ?_
    refine a_getq rfl gfX12_13_12 rfl (rfl) ?_
    refine a_l1 rfl rfl rfl ?_
    refine a_s rfl rfl ?_
    refine a_eS1 rfl lX12_60 mo_X12_at (sp_X12_at (d := nd) (k := 3)) rfl rfl rfl rfl ?_
    refine a_l6 rfl rfl rfl ?_
    refine a_iastv (k := 23 + 6 * nd + 3) rfl (n := 2033) rfl (inI_nI (by omega) (by omega)) (nI_clamp (by omega)) ?_
    refine a_l0 rfl rfl rfl ?_
    refine a_getq rfl gfX12_13_12 rfl (rfl) ?_
    refine a_l1 rfl rfl rfl ?_
    refine a_s rfl rfl ?_
    refine a_eS1 rfl lX12_60 mo_X12_at (sp_X12_at (d := nd) (k := 4)) rfl rfl rfl rfl ?_
    refine a_l8 rfl rfl rfl ?_
    refine a_iastv (k := 23 + 6 * nd + 4) rfl (n := 2033) rfl (inI_nI (by omega) (by omega)) (nI_clamp (by omega)) ?_
    refine a_l0 rfl rfl rfl ?_
    refine a_getq rfl gfX12_13_12 rfl (rfl) ?_
    refine a_l1 rfl rfl rfl ?_
    refine a_s rfl rfl ?_
    refine a_eS1 rfl lX12_60 mo_X12_at (sp_X12_at (d := nd) (k := 5)) rfl rfl rfl rfl ?_
    refine a_s rfl rfl ?_
    refine a_iastv (k := 23 + 6 * nd + 5) rfl (n := 2033) rfl (inI_nI (by omega) (by omega)) (nI_clamp (by omega)) ?_
    refine a_l0 rfl rfl rfl ?_
    refine a_getq rfl gfX12_13_12 rfl (rfl) ?_
    refine a_s rfl rfl ?_
    refine a_s rfl rfl ?_
    refine a_ialdv (v := nI nd) rfl (n := 2033) rfl ⟨by decide, by decide⟩ ?_ ?_
    · show up2 (up2 (up2 (up2 (up2 (up2 J 421 (23 + 6 * nd + 0) _) 421 (23 + 6 * nd + 1) _) 421 (23 + 6 * nd + 2) _) 421 (23 + 6 * nd + 3) _) 421 (23 + 6 * nd + 4) _) 421 (23 + 6 * nd + 5) _ 421 1 = nI nd
      rw [u2_lo (by omega), u2_lo (by omega), u2_lo (by omega), u2_lo (by omega), u2_lo (by omega), u2_lo (by omega), Rd.w h]
      exact hs.du
    refine a_s rfl rfl ?_
    refine a_s rfl rfl ?_
    refine a_top (y := nI (nd + 1)) ((nI_succ _).symm) ?_
    refine a_iastv (k := 1) rfl (n := 2033) rfl ⟨by decide, by decide⟩ rfl ?_
    refine a_s rfl rfl ?_
    have hle := Nat.le_trans (Rd.pb h) (Rd.bp h)
    have h3' : x3 = -1 ∨ ∃ k, k < 6 ∧ x3 = nI k := by
      rcases h3 with g | ⟨k, g1, g2⟩
      · exact Or.inl g
      · exact Or.inr ⟨k, by omega, g2⟩
    refine a_zret rfl rfl rfl ⟨true, p', dutH J nd (nI j) x1 x2 x3 x4, rfl, rfl, dutH_fm hlt (Fm.mo (Rd.fm h) sR_sS), ⟨nd + 1, np, SO.duty hs s.2 hlt hj h3' h4 dutH_1 dutH_at0 dutH_at3 dutH_at4 (fun k k1 k2 => by rw [dutH_lo k1 k2, Rd.w h])⟩, hle, ?_⟩
    unfold Pp
    rw [dutH_row (by decide)]
    exact Rd.pp h
  have no : ∀ {u1 u2 u3 u4 u5 u6 u7 u8 : Option Value} {pc b p' : Nat} {J : Nat → Nat → Int32}, Rd e p b p' I J → (pc = 49 ∨ pc = 78 ∨ pc = 115 ∨ pc = 154) → AW S m_X12_readDuty 18 (QL e p I L w1 w2 t) nX 0 0 pc [some (.ref 420), u1, u2, u3, u4, u5, u6, u7, u8] [] (hp J L w1 w2 t) := by
    intro u1 u2 u3 u4 u5 u6 u7 u8 pc b p' J h hpc
    rcases hpc with rfl | rfl | rfl | rfl
    · refine a_s rfl rfl ?_
      exact a_zret rfl rfl rfl (QL.rd (z := false) h s)
    · refine a_s rfl rfl ?_
      exact a_zret rfl rfl rfl (QL.rd (z := false) h s)
    · refine a_s rfl rfl ?_
      exact a_zret rfl rfl rfl (QL.rd (z := false) h s)
    · refine a_s rfl rfl ?_
      exact a_zret rfl rfl rfl (QL.rd (z := false) h s)
  have k142 : ∀ {j : Nat} {x1 x2 x3 x4 : Int32} {z7 : Bool} {u5 : Option Value} {b p' : Nat} {J : Nat → Nat → Int32}, Rd e p b p' I J → j < np → (x3 = -1 ∨ ∃ k, k ≤ 5 ∧ x3 = nI k) → (x4 = -1 ∨ ∃ k, k < nd ∧ x4 = nI k) → AW S m_X12_readDuty 18 (QL e p I L w1 w2 t) nX 0 0 142 [some (.ref 420), some (.int (nI nd)), some (.int (nI j)), some (.int x1), some (.int x2), u5, some (.int x3), some (.int (bI z7)), none] [.int x4] (hp J L w1 w2 t) := by
    intro j x1 x2 x3 x4 z7 u5 b p' J h hj h3 h4
    refine a_s8 rfl rfl rfl rfl rfl rfl ?_
    refine a_l7 rfl rfl rfl ?_
    refine a_if_eq rfl (fun _ => k156 h hj h3 h4) (fun _ => ?_)
    refine a_l8 rfl rfl rfl ?_
    exact a_if_ge rfl (fun _ => k156 h hj h3 h4) (fun _ => no h (by decide))
  have k117 : ∀ {j : Nat} {x1 x2 x3 : Int32} {u5 : Option Value} {b p' : Nat} {J : Nat → Nat → Int32}, Rd e p b p' I J → j < np → (x3 = -1 ∨ ∃ k, k ≤ 5 ∧ x3 = nI k) → AW S m_X12_readDuty 18 (QL e p I L w1 w2 t) nX 0 0 117 [some (.ref 420), some (.int (nI nd)), some (.int (nI j)), some (.int x1), some (.int x2), u5, some (.int x3), none, none] [] (hp J L w1 w2 t) := by
    intro j x1 x2 x3 u5 b p' J h hj h3
    refine a_l0 rfl rfl rfl ?_
    refine a_ldcs (q := 130 + 8) rfl (hw.ld (i := 8) (by decide)) ?_
    refine a_gV rfl lX12_128 mo_X12_passes (r_X12_passes (k := 8) hw (by decide) (Rd.pp h)) rfl rfl rfl ⟨12, _, rfl, rfl, rfl⟩ rfl (fun v' h' hv => ?_)
    obtain ⟨z, b2, p2, J2, rfl, rfl, h2, -⟩ := hv
    refine a_s7 rfl rfl rfl rfl rfl rfl ?_
    refine a_l7 rfl rfl rfl ?_
    refine a_if_eq rfl (fun _ => ?_) (fun _ => ?_)
    · refine a_s rfl rfl ?_
      exact k142 (Rd.tr h h2) hj h3 (Or.inl rfl)
    · refine a_l0 rfl rfl rfl ?_
      refine a_s rfl rfl ?_
      refine a_l1 rfl rfl rfl ?_
      refine a_s rfl rfl ?_
      refine a_s rfl rfl ?_
      refine a_gV rfl lX12_113 mo_X12_number (r_X12_number (Rd.pp h2)) rfl rfl rfl ⟨12, _, rfl, rfl, rfl⟩ rfl (fun v' h' hv => ?_)
      obtain ⟨y, b3, p3, J3, rfl, rfl, hr3, hy⟩ := hv
      refine a_goto rfl ?_
      exact k142 (Rd.tr (Rd.tr h h2) hr3) hj h3 (nmI (by omega) hy)
  have k103 : ∀ {j : Nat} {x1 x2 x3 : Int32} {z5 : Bool} {b p' : Nat} {J : Nat → Nat → Int32}, Rd e p b p' I J → j < np → (x3 = -1 ∨ ∃ k, k ≤ 5 ∧ x3 = nI k) → AW S m_X12_readDuty 18 (QL e p I L w1 w2 t) nX 0 0 103 [some (.ref 420), some (.int (nI nd)), some (.int (nI j)), some (.int x1), some (.int x2), some (.int (bI z5)), none, none, none] [.int x3] (hp J L w1 w2 t) := by
    intro j x1 x2 x3 z5 b p' J h hj h3
    refine a_s6 rfl rfl rfl rfl rfl rfl ?_
    refine a_l5 rfl rfl rfl ?_
    refine a_if_eq rfl (fun _ => k117 h hj h3) (fun _ => ?_)
    refine a_l6 rfl rfl rfl ?_
    exact a_if_ge rfl (fun _ => k117 h hj h3) (fun _ => no h (by decide))
  have k80 : ∀ {j : Nat} {x1 x2 : Int32} {b p' : Nat} {J : Nat → Nat → Int32}, Rd e p b p' I J → j < np → AW S m_X12_readDuty 18 (QL e p I L w1 w2 t) nX 0 0 80 [some (.ref 420), some (.int (nI nd)), some (.int (nI j)), some (.int x1), some (.int x2), none, none, none, none] [] (hp J L w1 w2 t) := by
    intro j x1 x2 b p' J h hj
    refine a_l0 rfl rfl rfl ?_
    refine a_ldcs (q := 130 + 7) rfl (hw.ld (i := 7) (by decide)) ?_
    refine a_gV rfl lX12_128 mo_X12_passes (r_X12_passes (k := 7) hw (by decide) (Rd.pp h)) rfl rfl rfl ⟨12, _, rfl, rfl, rfl⟩ rfl (fun v' h' hv => ?_)
    obtain ⟨z, b2, p2, J2, rfl, rfl, h2, -⟩ := hv
    refine a_s5 rfl rfl rfl rfl rfl rfl ?_
    refine a_l5 rfl rfl rfl ?_
    refine a_if_eq rfl (fun _ => ?_) (fun _ => ?_)
    · refine a_s rfl rfl ?_
      exact k103 (Rd.tr h h2) hj (Or.inl rfl)
    · refine a_l0 rfl rfl rfl ?_
      refine a_s rfl rfl ?_
      refine a_s rfl rfl ?_
      refine a_gV rfl lX12_113 mo_X12_number (r_X12_number (Rd.pp h2)) rfl rfl rfl ⟨12, _, rfl, rfl, rfl⟩ rfl (fun v' h' hv => ?_)
      obtain ⟨y, b3, p3, J3, rfl, rfl, hr3, hy⟩ := hv
      refine a_goto rfl ?_
      exact k103 (Rd.tr (Rd.tr h h2) hr3) hj (nmN (m := 5) (by decide) hy)
  have k71 : ∀ {j : Nat} {x1 x2 : Int32} {b p' : Nat} {J : Nat → Nat → Int32}, Rd e p b p' I J → j < np → AW S m_X12_readDuty 18 (QL e p I L w1 w2 t) nX 0 0 71 [some (.ref 420), some (.int (nI nd)), some (.int (nI j)), some (.int x1), none, none, none, none, none] [.int x2] (hp J L w1 w2 t) := by
    intro j x1 x2 b p' J h hj
    refine a_s4 rfl rfl rfl rfl rfl rfl ?_
    refine a_l4 rfl rfl rfl ?_
    exact a_if_ge rfl (fun _ => k80 h hj) (fun _ => no h (by decide))
  have k44 : ∀ {n x1 : Int32} {b p' : Nat} {J : Nat → Nat → Int32}, Rd e p b p' I J → (x1 = -1 ∨ ∃ j, j < np ∧ n = nI j) → AW S m_X12_readDuty 18 (QL e p I L w1 w2 t) nX 0 0 44 [some (.ref 420), some (.int (nI nd)), some (.int n), none, none, none, none, none, none] [.int x1] (hp J L w1 w2 t) := by
    intro n x1 b p' J h hn1
    refine a_s3 rfl rfl rfl rfl rfl rfl ?_
    refine a_l3 rfl rfl rfl ?_
    refine a_if_ge rfl (fun c => ?_) (fun _ => no h (by decide))
    obtain ⟨j, hj, rfl⟩ := hn1.resolve_left (fun z => by subst z; exact absurd c (by decide))
    refine a_l0 rfl rfl rfl ?_
    refine a_ldcs (q := 130 + 6) rfl (hw.ld (i := 6) (by decide)) ?_
    refine a_gV rfl lX12_128 mo_X12_passes (r_X12_passes (k := 6) hw (by decide) (Rd.pp h)) rfl rfl rfl ⟨12, _, rfl, rfl, rfl⟩ rfl (fun v' h' hv => ?_)
    obtain ⟨z, b2, p2, J2, rfl, rfl, h2, -⟩ := hv
    refine a_if_eq rfl (fun _ => ?_) (fun _ => ?_)
    · refine a_s rfl rfl ?_
      exact k71 (Rd.tr h h2) hj
    · refine a_l0 rfl rfl rfl ?_
      refine a_s rfl rfl ?_
      refine a_s rfl rfl ?_
      refine a_gV rfl lX12_113 mo_X12_number (r_X12_number (Rd.pp h2)) rfl rfl rfl ⟨12, _, rfl, rfl, rfl⟩ rfl (fun v' h' hv => ?_)
      obtain ⟨y, b3, p3, J3, rfl, rfl, hr3, hy⟩ := hv
      refine a_goto rfl ?_
      exact k71 (Rd.tr (Rd.tr h h2) hr3) hj
  refine a_l0 rfl rfl rfl ?_
  refine a_ldcs (q := 130 + 4) rfl (hw.ld (i := 4) (by decide)) ?_
  refine a_s rfl rfl ?_
  refine a_l0 rfl rfl rfl ?_
  refine a_eV1 rfl lX12_66 mo_X12_people sp_X12_people rfl rfl rfl ⟨12, _, rfl, rfl, rfl⟩ rfl ?_
  refine a_top (y := nI np) (hs.pu) ?_
  refine a_s rfl rfl ?_
  refine a_s rfl rfl ?_
  refine a_gV rfl lX12_117 mo_X12_numberBehind (r_X12_numberBehind (k := 4) hw (by decide) hq) rfl rfl rfl ⟨12, _, rfl, rfl, rfl⟩ rfl (fun v' h' hv => ?_)
  obtain ⟨n, b1, p1, J1, rfl, rfl, h1, hn1⟩ := hv
  replace hn1 := nmI (by omega) hn1
  refine a_s2 rfl rfl rfl rfl rfl rfl ?_
  refine a_l2 rfl rfl rfl ?_
  refine a_if_ge rfl (fun c2 => ?_) (fun _ => ?_)
  · refine a_l0 rfl rfl rfl ?_
    refine a_ldcs (q := 130 + 5) rfl (hw.ld (i := 5) (by decide)) ?_
    refine a_s rfl rfl ?_
    refine a_s rfl rfl ?_
    refine a_gV rfl lX12_117 mo_X12_numberBehind (r_X12_numberBehind (k := 5) hw (by decide) (Rd.pp h1)) rfl rfl rfl ⟨12, _, rfl, rfl, rfl⟩ rfl (fun v' h' hv => ?_)
    obtain ⟨y, b2, p2, J2, rfl, rfl, h2, hy⟩ := hv
    exact k44 (Rd.tr h1 h2) (Or.inr (hn1.resolve_left (fun z => by subst z; exact absurd c2 (by decide))))
  · refine a_s rfl rfl ?_
    refine a_goto rfl ?_
    exact k44 h1 (Or.inl rfl)
theorem r_X12_readStreetLine {b : Nat} (hw : WdS S) (s : SF nd np I) (h12 : I 420 12 = nI b) (hbp : b ≤ p) (hq : Pp e p I) : Sp S m_X12_readStreetLine 19 0 0 [.ref 420] (hp I L w1 w2 t) (QL e p I L w1 w2 t) nX := by
  refine Sp_of ok_X12_readStreetLine rfl rfl ?_
  show AW S m_X12_readStreetLine 19 _ _ 0 0 0 [some (.ref 420)] [] (hp I L w1 w2 t)
  refine a_l0 rfl rfl rfl ?_
  refine a_ldcs (q := 130 + 0) rfl (hw.ld (i := 0) (by decide)) ?_
  refine a_gV rfl lX12_109 mo_X12_isWord (r_X12_isWord (k := 0) hw (by decide) h12 hbp hq) rfl rfl rfl ⟨12, _, rfl, rfl, rfl⟩ rfl (fun v' h' hv => ?_)
  obtain ⟨rfl, z, rfl, -⟩ := hv
  refine a_if_eq rfl (fun _ => ?_) (fun _ => ?_)
  rotate_left
  · refine a_l0 rfl rfl rfl ?_
    refine a_gV rfl lX12_141 mo_X12_readPerson (r_X12_readPerson hw s hq) rfl rfl rfl ⟨12, _, rfl, rfl, rfl⟩ rfl (fun v' h' hv => ?_)
    obtain ⟨z, p', J, rfl, rfl, h⟩ := hv
    exact a_zret rfl rfl (bI_nar _) ⟨z, p', J, rfl, rfl, h⟩
  refine a_l0 rfl rfl rfl ?_
  refine a_ldcs (q := 130 + 3) rfl (hw.ld (i := 3) (by decide)) ?_
  refine a_gV rfl lX12_109 mo_X12_isWord (r_X12_isWord (k := 3) hw (by decide) h12 hbp hq) rfl rfl rfl ⟨12, _, rfl, rfl, rfl⟩ rfl (fun v' h' hv => ?_)
  obtain ⟨rfl, z, rfl, -⟩ := hv
  refine a_if_eq rfl (fun _ => ?_) (fun _ => ?_)
  rotate_left
  · refine a_l0 rfl rfl rfl ?_
    refine a_gV rfl lX12_147 mo_X12_readDuty (r_X12_readDuty hw s hq) rfl rfl rfl ⟨12, _, rfl, rfl, rfl⟩ rfl (fun v' h' hv => ?_)
    obtain ⟨z, p', J, rfl, rfl, h⟩ := hv
    exact a_zret rfl rfl (bI_nar _) ⟨z, p', J, rfl, rfl, h⟩
  refine a_l0 rfl rfl rfl ?_
  refine a_ldcs (q := 130 + 9) rfl (hw.ld (i := 9) (by decide)) ?_
  refine a_gV rfl lX12_109 mo_X12_isWord (r_X12_isWord (k := 9) hw (by decide) h12 hbp hq) rfl rfl rfl ⟨12, _, rfl, rfl, rfl⟩ rfl (fun v' h' hv => ?_)
  obtain ⟨rfl, z, rfl, -⟩ := hv
  refine a_if_eq rfl (fun _ => ?_) (fun _ => ?_)
  rotate_left
  · refine a_l0 rfl rfl rfl ?_
    refine a_gV rfl lX12_152 mo_X12_readForgotten (r_X12_readForgotten s hq) rfl rfl rfl ⟨12, _, rfl, rfl, rfl⟩ rfl (fun v' h' hv => ?_)
    obtain ⟨z, p', J, rfl, rfl, h⟩ := hv
    exact a_zret rfl rfl (bI_nar _) ⟨z, p', J, rfl, rfl, h⟩
  refine a_l0 rfl rfl rfl ?_
  refine a_ldcs (q := 130 + 10) rfl (hw.ld (i := 10) (by decide)) ?_
  refine a_gV rfl lX12_109 mo_X12_isWord (r_X12_isWord (k := 10) hw (by decide) h12 hbp hq) rfl rfl rfl ⟨12, _, rfl, rfl, rfl⟩ rfl (fun v' h' hv => ?_)
  obtain ⟨rfl, z, rfl, -⟩ := hv
  refine a_if_eq rfl (fun _ => ?_) (fun _ => ?_)
  rotate_left
  · refine a_l0 rfl rfl rfl ?_
    refine a_s rfl rfl ?_
    refine a_s rfl rfl ?_
    refine a_s rfl rfl ?_
    refine a_gV rfl lX12_157 mo_X12_readNumber (r_X12_readNumber (i := 6) (by decide) (by decide) (by decide) s hq) rfl rfl rfl ⟨12, _, rfl, rfl, rfl⟩ rfl (fun v' h' hv => ?_)
    obtain ⟨z, p', J, rfl, rfl, h⟩ := hv
    exact a_zret rfl rfl (bI_nar _) ⟨z, p', J, rfl, rfl, h⟩
  refine a_l0 rfl rfl rfl ?_
  refine a_ldcs (q := 130 + 11) rfl (hw.ld (i := 11) (by decide)) ?_
  refine a_gV rfl lX12_109 mo_X12_isWord (r_X12_isWord (k := 11) hw (by decide) h12 hbp hq) rfl rfl rfl ⟨12, _, rfl, rfl, rfl⟩ rfl (fun v' h' hv => ?_)
  obtain ⟨rfl, z, rfl, -⟩ := hv
  refine a_if_eq rfl (fun _ => ?_) (fun _ => ?_)
  rotate_left
  · refine a_l0 rfl rfl rfl ?_
    refine a_s rfl rfl ?_
    refine a_s rfl rfl ?_
    refine a_s rfl rfl ?_
    refine a_gV rfl lX12_157 mo_X12_readNumber (r_X12_readNumber (i := 7) (by decide) (by decide) (by decide) s hq) rfl rfl rfl ⟨12, _, rfl, rfl, rfl⟩ rfl (fun v' h' hv => ?_)
    obtain ⟨z, p', J, rfl, rfl, h⟩ := hv
    exact a_zret rfl rfl (bI_nar _) ⟨z, p', J, rfl, rfl, h⟩
  refine a_l0 rfl rfl rfl ?_
  refine a_ldcs (q := 130 + 12) rfl (hw.ld (i := 12) (by decide)) ?_
  refine a_gV rfl lX12_109 mo_X12_isWord (r_X12_isWord (k := 12) hw (by decide) h12 hbp hq) rfl rfl rfl ⟨12, _, rfl, rfl, rfl⟩ rfl (fun v' h' hv => ?_)
  obtain ⟨rfl, z, rfl, -⟩ := hv
  refine a_if_eq rfl (fun _ => ?_) (fun _ => ?_)
  rotate_left
  · refine a_l0 rfl rfl rfl ?_
    refine a_s rfl rfl ?_
    refine a_s rfl rfl ?_
    refine a_s rfl rfl ?_
    refine a_gV rfl lX12_157 mo_X12_readNumber (r_X12_readNumber (i := 8) (by decide) (by decide) (by decide) s hq) rfl rfl rfl ⟨12, _, rfl, rfl, rfl⟩ rfl (fun v' h' hv => ?_)
    obtain ⟨z, p', J, rfl, rfl, h⟩ := hv
    exact a_zret rfl rfl (bI_nar _) ⟨z, p', J, rfl, rfl, h⟩
  refine a_l0 rfl rfl rfl ?_
  refine a_ldcs (q := 130 + 13) rfl (hw.ld (i := 13) (by decide)) ?_
  refine a_gV rfl lX12_109 mo_X12_isWord (r_X12_isWord (k := 13) hw (by decide) h12 hbp hq) rfl rfl rfl ⟨12, _, rfl, rfl, rfl⟩ rfl (fun v' h' hv => ?_)
  obtain ⟨rfl, z, rfl, -⟩ := hv
  refine a_if_eq rfl (fun _ => ?_) (fun _ => ?_)
  rotate_left
  · refine a_l0 rfl rfl rfl ?_
    refine a_s rfl rfl ?_
    refine a_s rfl rfl ?_
    refine a_s rfl rfl ?_
    refine a_gV rfl lX12_157 mo_X12_readNumber (r_X12_readNumber (i := 4) (by decide) (by decide) (by decide) s hq) rfl rfl rfl ⟨12, _, rfl, rfl, rfl⟩ rfl (fun v' h' hv => ?_)
    obtain ⟨z, p', J, rfl, rfl, h⟩ := hv
    exact a_zret rfl rfl (bI_nar _) ⟨z, p', J, rfl, rfl, h⟩
  refine a_l0 rfl rfl rfl ?_
  refine a_ldcs (q := 130 + 14) rfl (hw.ld (i := 14) (by decide)) ?_
  refine a_gV rfl lX12_109 mo_X12_isWord (r_X12_isWord (k := 14) hw (by decide) h12 hbp hq) rfl rfl rfl ⟨12, _, rfl, rfl, rfl⟩ rfl (fun v' h' hv => ?_)
  obtain ⟨rfl, z, rfl, -⟩ := hv
  refine a_if_eq rfl (fun _ => ?_) (fun _ => ?_)
  · refine a_s rfl rfl ?_
    exact a_zret rfl rfl rfl (QL.re (z := false) hq s)
  · refine a_l0 rfl rfl rfl ?_
    refine a_s rfl rfl ?_
    refine a_s rfl rfl ?_
    refine a_s rfl rfl ?_
    refine a_gV rfl lX12_157 mo_X12_readNumber (r_X12_readNumber (i := 5) (by decide) (by decide) (by decide) s hq) rfl rfl rfl ⟨12, _, rfl, rfl, rfl⟩ rfl (fun v' h' hv => ?_)
    obtain ⟨z, p', J, rfl, rfl, h⟩ := hv
    refine a_if_eq rfl (fun _ => ?_) (fun _ => ?_)
    · refine a_s rfl rfl ?_
      exact a_zret rfl rfl rfl ⟨false, p', J, rfl, rfl, h⟩
    · refine a_s rfl rfl ?_
      refine a_goto rfl ?_
      exact a_zret rfl rfl rfl ⟨true, p', J, rfl, rfl, h⟩
end T69
