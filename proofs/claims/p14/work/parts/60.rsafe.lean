section
/-! ===== the reference: safe walks (printed by program) ===== -/
set_option maxRecDepth 100000
theorem r_X12_canAll {S : aS} {I : Nat → Nat → Int32} {L : Nat → Nat → Int64} {w1 w2 t : Nat} {x1 : Int32} {nd np : Nat} (hs : SO nd np (I 421)) (hw : LwW (I 421)) (lg : LgW (I 421)) : Sp S m_X12_canAll 16 0 0 [.ref 420, .int x1] (hp I L w1 w2 t) (QE isZ (hp I L w1 w2 t)) nX := by
  refine Sp_of ok_X12_canAll rfl rfl ?_
  show AW S m_X12_canAll 16 _ _ 0 0 0 [some (.ref 420), some (.int x1), none, none, none] [] (hp I L w1 w2 t)
  refine a_s rfl rfl ?_
  refine a_s2 rfl rfl rfl rfl rfl rfl ?_
  refine a_s rfl rfl ?_
  refine a_s3 rfl rfl rfl rfl rfl rfl ?_
  refine a_cnt (j0 := 0) (fun j ls h => ∃ z0, ls = [some (.ref 420), some (.int x1), some (.int (bI z0)), some (.int (nI j)), none] ∧ h = hp I L w1 w2 t) (by decide) ⟨true, rfl, rfl⟩ ⟨rfl, rfl, rfl, rfl, trivial⟩ ?_
  rintro j4 _ _ hj4 ⟨z0_4, rfl, rfl⟩ ih4
  refine a_l3 rfl rfl rfl ?_
  refine a_l0 rfl rfl rfl ?_
  refine a_eV1 rfl lX12_74 mo_X12_duties (sp_X12_duties) rfl rfl rfl ⟨12, _, rfl, rfl, rfl⟩ rfl ?_
  refine a_top (y := nI nd) hs.du ?_
  refine a_ic_ge rfl (fun c9 => ?_) (fun c9 => ?_)
  · refine a_l2 rfl rfl rfl ?_
    exact a_zret rfl rfl (bI_nar _) ⟨⟨_, rfl⟩, rfl⟩
  · have hd4 : j4 < nd := nI_lt_of c9 hj4 (by have := hs.n; omega)
    refine a_s rfl rfl ?_
    refine a_s4 rfl rfl rfl rfl rfl rfl ?_
    refine a_cnt (j0 := 0) (fun j ls h => ∃ z0, ls = [some (.ref 420), some (.int x1), some (.int (bI z0)), some (.int (nI j4)), some (.int (nI j))] ∧ h = hp I L w1 w2 t) (by decide) ⟨_, rfl, rfl⟩ ⟨rfl, rfl, rfl, rfl, rfl, trivial⟩ ?_
    rintro j15 _ _ hj15 ⟨z0_15, rfl, rfl⟩ ih15
    refine a_l4 rfl rfl rfl ?_
    refine a_l3 rfl rfl rfl ?_
    refine a_ic_ge rfl (fun c18 => ?_) (fun c18 => ?_)
    · refine a_i3 rfl rfl rfl ?_
      refine a_goto rfl ?_
      exact ih4 _ _ _ _ c9 ⟨_, rfl, rfl⟩ ⟨rfl, rfl, rfl, nS _, trivial⟩
    · have hd15 : j15 < nd := Nat.lt_trans (nI_lt_of c18 hj15 (by have := hs.n; have := hs.p; omega)) hd4
      refine a_l1 rfl rfl rfl ?_
      refine a_l3 rfl rfl rfl ?_
      refine a_gS rfl lX12_304 mo_X12_has (r_X12_has) rfl rfl rfl rfl (fun v' h' hv => ?_)
      obtain ⟨⟨v1, rfl⟩, rfl⟩ := hv
      refine a_if_eq rfl (fun c26 => ?_) (fun c26 => ?_)
      · refine a_i4 rfl rfl rfl ?_
        refine a_goto rfl ?_
        exact ih15 _ _ _ _ c18 ⟨_, rfl, rfl⟩ ⟨rfl, rfl, rfl, rfl, nS _, trivial⟩
      · refine a_l1 rfl rfl rfl ?_
        refine a_l4 rfl rfl rfl ?_
        refine a_gS rfl lX12_304 mo_X12_has (r_X12_has) rfl rfl rfl rfl (fun v' h' hv => ?_)
        obtain ⟨⟨v2, rfl⟩, rfl⟩ := hv
        refine a_if_ne rfl (fun c35 => ?_) (fun c35 => ?_)
        · refine a_l2 rfl rfl rfl ?_
          refine a_if_eq rfl (fun c42 => ?_) (fun c42 => ?_)
          · refine a_s rfl rfl ?_
            refine a_s2 rfl rfl rfl rfl rfl rfl ?_
            refine a_i4 rfl rfl rfl ?_
            refine a_goto rfl ?_
            exact ih15 _ _ _ _ c18 ⟨false, rfl, rfl⟩ ⟨rfl, rfl, rfl, rfl, nS _, trivial⟩
          · refine a_l0 rfl rfl rfl ?_
            refine a_l3 rfl rfl rfl ?_
            refine a_s rfl rfl ?_
            refine a_eV1 rfl lX12_63 mo_X12_of (sp_X12_of (d := j4) (k := 0) (Nat.lt_of_lt_of_le hd4 hs.n) (by decide)) rfl rfl rfl ⟨12, _, rfl, rfl, rfl⟩ rfl ?_
            refine a_l0 rfl rfl rfl ?_
            refine a_l4 rfl rfl rfl ?_
            refine a_s rfl rfl ?_
            refine a_eV1 rfl lX12_63 mo_X12_of (sp_X12_of (d := j15) (k := 0) (Nat.lt_of_lt_of_le hd15 hs.n) (by decide)) rfl rfl rfl ⟨12, _, rfl, rfl, rfl⟩ rfl ?_
            refine a_ic_eq rfl (fun c58 => ?_) (fun c58 => ?_)
            · refine a_s rfl rfl ?_
              refine a_s2 rfl rfl rfl rfl rfl rfl ?_
              refine a_i4 rfl rfl rfl ?_
              refine a_goto rfl ?_
              exact ih15 _ _ _ _ c18 ⟨false, rfl, rfl⟩ ⟨rfl, rfl, rfl, rfl, nS _, trivial⟩
            · refine a_l0 rfl rfl rfl ?_
              refine a_l3 rfl rfl rfl ?_
              refine a_eV1 rfl lX12_283 mo_X12_placeOf (sp_X12_placeOf hs.n hs.du hd4) rfl rfl rfl ⟨12, _, rfl, rfl, rfl⟩ rfl ?_
              refine a_l0 rfl rfl rfl ?_
              refine a_l4 rfl rfl rfl ?_
              refine a_eV1 rfl lX12_283 mo_X12_placeOf (sp_X12_placeOf hs.n hs.du hd15) rfl rfl rfl ⟨12, _, rfl, rfl, rfl⟩ rfl ?_
              refine a_s rfl rfl ?_
              refine a_abs rfl lX12_307 mj_abs rfl rfl ?_
              refine a_s rfl rfl ?_
              refine a_ic_le rfl (fun c77 => ?_) (fun c77 => ?_)
              · refine a_s rfl rfl ?_
                refine a_s2 rfl rfl rfl rfl rfl rfl ?_
                refine a_i4 rfl rfl rfl ?_
                refine a_goto rfl ?_
                exact ih15 _ _ _ _ c18 ⟨false, rfl, rfl⟩ ⟨rfl, rfl, rfl, rfl, nS _, trivial⟩
              · refine a_s rfl rfl ?_
                refine a_goto rfl ?_
                refine a_s2 rfl rfl rfl rfl rfl rfl ?_
                refine a_i4 rfl rfl rfl ?_
                refine a_goto rfl ?_
                exact ih15 _ _ _ _ c18 ⟨true, rfl, rfl⟩ ⟨rfl, rfl, rfl, rfl, nS _, trivial⟩
        · refine a_goto rfl ?_
          refine a_i4 rfl rfl rfl ?_
          refine a_goto rfl ?_
          exact ih15 _ _ _ _ c18 ⟨_, rfl, rfl⟩ ⟨rfl, rfl, rfl, rfl, nS _, trivial⟩
theorem r_X12_most {S : aS} {I : Nat → Nat → Int32} {L : Nat → Nat → Int64} {w1 w2 t : Nat} {nd np : Nat} (hs : SO nd np (I 421)) (hw : LwW (I 421)) (lg : LgW (I 421)) : Sp S m_X12_most 19 0 0 [.ref 420] (hp I L w1 w2 t) (QR (Fm sU I) isI L w1 w2 t) nX := by
  refine Sp_of ok_X12_most rfl rfl ?_
  show AW S m_X12_most 19 _ _ 0 0 0 [some (.ref 420), none, none, none] [] (hp I L w1 w2 t)
  refine a_l0 rfl rfl rfl ?_
  refine a_s rfl rfl ?_
  refine a_puti rfl pfX12_3_12 rfl ?_
  refine a_ren (P := Fm sU I) (Fm.up (Fm.rf (s := sU)) rfl) (fun I1 f2 => ?_)
  have s2 := SO.fm hs (Fm.mo f2 sU_sV); have l2 := LwW.fm hw (Fm.mo f2 sU_sV); have g2 := LgW.fm lg (Fm.mo f2 sU_sV)
  refine a_l0 rfl rfl rfl ?_
  refine a_eV1 rfl lX12_286 mo_X12_canOnes (sp_X12_canOnes s2.n s2.du s2.l) rfl rfl rfl ⟨12, _, rfl, rfl, rfl⟩ rfl ?_
  refine a_topE (bs_nI12 s2.n) (fun mc3 hmc3 => ?_)
  refine a_s1 rfl rfl rfl rfl rfl rfl ?_
  refine a_s rfl rfl ?_
  refine a_s2 rfl rfl rfl rfl rfl rfl ?_
  refine a_s rfl rfl ?_
  refine a_s3 rfl rfl rfl rfl rfl rfl ?_
  refine a_cnt (j0 := 1) (fun j ls h => ∃ a0, ∃ I', ls = [some (.ref 420), some (.int (nI mc3)), some (.int a0), some (.int (nI j))] ∧ h = hp I' L w1 w2 t ∧ Fm sU I I') (by decide) ⟨_, _, rfl, rfl, f2⟩ ⟨rfl, rfl, rfl, rfl, trivial⟩ ?_
  rintro j14 _ _ hj14 ⟨a0_14, Ih14, rfl, rfl, fh14⟩ ih14
  have sh14 := SO.fm hs (Fm.mo fh14 sU_sV); have lh14 := LwW.fm hw (Fm.mo fh14 sU_sV); have gh14 := LgW.fm lg (Fm.mo fh14 sU_sV)
  refine a_l3 rfl rfl rfl ?_
  refine a_l1 rfl rfl rfl ?_
  refine a_ic_gt rfl (fun c16 => ?_) (fun c16 => ?_)
  · refine a_l2 rfl rfl rfl ?_
    exact a_iret rfl rfl ⟨⟨_, rfl⟩, _, rfl, fh14⟩
  · refine a_l3 rfl rfl rfl ?_
    refine a_l1 rfl rfl rfl ?_
    refine a_s rfl rfl ?_
    refine a_s rfl rfl ?_
    refine a_s rfl rfl ?_
    refine a_if_ne rfl (fun c24 => ?_) (fun c24 => ?_)
    · refine a_i3 rfl rfl rfl ?_
      refine a_goto rfl ?_
      exact ih14 _ _ _ _ (nI_gt1 (a := mc3) (by omega) hj14 c16) ⟨_, _, rfl, rfl, fh14⟩ ⟨rfl, rfl, rfl, nS _, trivial⟩
    · refine a_l3 rfl rfl rfl ?_
      refine a_eS1 rfl lX12_310 mo_J6_bitCount_0f7a4 (sp_bitCount) rfl rfl rfl rfl ?_
      refine a_l2 rfl rfl rfl ?_
      refine a_eS1 rfl lX12_310 mo_J6_bitCount_0f7a4 (sp_bitCount) rfl rfl rfl rfl ?_
      refine a_ic_le rfl (fun c35 => ?_) (fun c35 => ?_)
      · refine a_i3 rfl rfl rfl ?_
        refine a_goto rfl ?_
        exact ih14 _ _ _ _ (nI_gt1 (a := mc3) (by omega) hj14 c16) ⟨_, _, rfl, rfl, fh14⟩ ⟨rfl, rfl, rfl, nS _, trivial⟩
      · refine a_l0 rfl rfl rfl ?_
        refine a_l3 rfl rfl rfl ?_
        refine a_gV rfl lX12_315 mo_X12_canAll (r_X12_canAll sh14 lh14 gh14) rfl rfl rfl ⟨12, _, rfl, rfl, rfl⟩ rfl (fun v' h' hv => ?_)
        obtain ⟨⟨v4, rfl⟩, rfl⟩ := hv
        refine a_if_eq rfl (fun c43 => ?_) (fun c43 => ?_)
        · refine a_i3 rfl rfl rfl ?_
          refine a_goto rfl ?_
          exact ih14 _ _ _ _ (nI_gt1 (a := mc3) (by omega) hj14 c16) ⟨_, _, rfl, rfl, fh14⟩ ⟨rfl, rfl, rfl, nS _, trivial⟩
        · refine a_l3 rfl rfl rfl ?_
          refine a_s2 rfl rfl rfl rfl rfl rfl ?_
          refine a_i3 rfl rfl rfl ?_
          refine a_goto rfl ?_
          exact ih14 _ _ _ _ (nI_gt1 (a := mc3) (by omega) hj14 c16) ⟨_, _, rfl, rfl, fh14⟩ ⟨rfl, rfl, rfl, nS _, trivial⟩
theorem r_X12_shareOf {S : aS} {I : Nat → Nat → Int32} {L : Nat → Nat → Int64} {w1 w2 t : Nat} {nd np : Nat} (hs : SO nd np (I 421)) (hw : LwW (I 421)) (lg : LgW (I 421)) {i1 : Nat} (hi1 : i1 < np) : Sp S m_X12_shareOf 21 0 0 [.ref 420, .int (nI i1)] (hp I L w1 w2 t) (QR (Fm sU I) isI L w1 w2 t) nX := by
  refine Sp_of ok_X12_shareOf rfl rfl ?_
  show AW S m_X12_shareOf 21 _ _ 0 0 0 [some (.ref 420), some (.int (nI i1)), none] [] (hp I L w1 w2 t)
  refine a_l0 rfl rfl rfl ?_
  refine a_l0 rfl rfl rfl ?_
  refine a_s rfl rfl ?_
  refine a_eV1 rfl lX12_324 mo_X12_ofState (sp_X12_ofState hs.n hs.du) rfl rfl rfl ⟨12, _, rfl, rfl, rfl⟩ rfl ?_
  refine a_topE (bs_nI12 hs.n) (fun mc1 hmc1 => ?_)
  refine a_gV rfl lX12_339 mo_X12_shameOf (r_X12_shameOf hs hw lg) rfl rfl rfl ⟨12, _, rfl, rfl, rfl⟩ rfl (fun v' h' hv => ?_)
  obtain ⟨⟨v2, rfl⟩, I3, rfl, f4⟩ := hv
  have s4 := SO.fm hs (Fm.mo f4 sU_sV); have l4 := LwW.fm hw (Fm.mo f4 sU_sV); have g4 := LgW.fm lg (Fm.mo f4 sU_sV)
  refine a_s2 rfl rfl rfl rfl rfl rfl ?_
  refine a_l2 rfl rfl rfl ?_
  refine a_if_ne rfl (fun c11 => ?_) (fun c11 => ?_)
  · refine a_s rfl rfl ?_
    refine a_l0 rfl rfl rfl ?_
    refine a_l0 rfl rfl rfl ?_
    refine a_l1 rfl rfl rfl ?_
    refine a_eV1 rfl lX12_327 mo_X12_waitingOf (sp_X12_waitingOf s4.n s4.du) rfl rfl rfl ⟨12, _, rfl, rfl, rfl⟩ rfl ?_
    refine a_gV rfl lX12_339 mo_X12_shameOf (r_X12_shameOf s4 l4 g4) rfl rfl rfl ⟨12, _, rfl, rfl, rfl⟩ rfl (fun v' h' hv => ?_)
    obtain ⟨⟨v5, rfl⟩, I6, rfl, f7⟩ := hv
    replace f7 : Fm sU I I6 := Fm.tr (f4) (f7)
    have s7 := SO.fm hs (Fm.mo f7 sU_sV); have l7 := LwW.fm hw (Fm.mo f7 sU_sV); have g7 := LgW.fm lg (Fm.mo f7 sU_sV)
    refine a_s rfl rfl ?_
    refine a_l2 rfl rfl rfl ?_
    refine a_idiv rfl (c11) ?_
    exact a_iret rfl rfl ⟨⟨_, rfl⟩, _, rfl, f7⟩
  · refine a_s rfl rfl ?_
    refine a_goto rfl ?_
    exact a_iret rfl rfl ⟨⟨_, rfl⟩, _, rfl, f4⟩
theorem r_X12_hasTool {S : aS} {I : Nat → Nat → Int32} {L : Nat → Nat → Int64} {w1 w2 t : Nat} {nd np : Nat} (hs : SO nd np (I 421)) (hw : LwW (I 421)) (lg : LgW (I 421)) {i1 : Nat} (hi1 : i1 < nd) {i2 : Nat} (hi2 : i2 < np) : Sp S m_X12_hasTool 14 0 0 [.ref 420, .int (nI i1), .int (nI i2)] (hp I L w1 w2 t) (QE isZ (hp I L w1 w2 t)) nX := by
  refine Sp_of ok_X12_hasTool rfl rfl ?_
  show AW S m_X12_hasTool 14 _ _ 0 0 0 [some (.ref 420), some (.int (nI i1)), some (.int (nI i2)), none] [] (hp I L w1 w2 t)
  refine a_l0 rfl rfl rfl ?_
  refine a_l1 rfl rfl rfl ?_
  refine a_s rfl rfl ?_
  refine a_eV1 rfl lX12_63 mo_X12_of (sp_X12_of (d := i1) (k := 3) (Nat.lt_of_lt_of_le hi1 hs.n) (by decide)) rfl rfl rfl ⟨12, _, rfl, rfl, rfl⟩ rfl ?_
  refine a_s3 rfl rfl rfl rfl rfl rfl ?_
  refine a_l3 rfl rfl rfl ?_
  refine a_s rfl rfl ?_
  refine a_ic_eq rfl (fun c9 => ?_) (fun c9 => ?_)
  · refine a_s rfl rfl ?_
    refine a_goto rfl ?_
    exact a_zret rfl rfl rfl ⟨⟨true, rfl⟩, rfl⟩
  · refine a_l0 rfl rfl rfl ?_
    refine a_getq rfl gfX12_42_12 rfl (rfl) ?_
    refine a_l3 rfl rfl rfl ?_
    refine a_iald rfl (n := 6) rfl (inTool (hs.t _ hi1) c9) ?_
    refine a_s rfl rfl ?_
    refine a_ic_eq rfl (fun c19 => ?_) (fun c19 => ?_)
    · refine a_s rfl rfl ?_
      refine a_goto rfl ?_
      exact a_zret rfl rfl rfl ⟨⟨true, rfl⟩, rfl⟩
    · refine a_l0 rfl rfl rfl ?_
      refine a_getq rfl gfX12_42_12 rfl (rfl) ?_
      refine a_l3 rfl rfl rfl ?_
      refine a_iald rfl (n := 6) rfl (inTool (hs.t _ hi1) c9) ?_
      refine a_l2 rfl rfl rfl ?_
      refine a_ic_ne rfl (fun c29 => ?_) (fun c29 => ?_)
      · refine a_s rfl rfl ?_
        exact a_zret rfl rfl rfl ⟨⟨false, rfl⟩, rfl⟩
      · refine a_s rfl rfl ?_
        refine a_goto rfl ?_
        exact a_zret rfl rfl rfl ⟨⟨true, rfl⟩, rfl⟩
theorem r_X12_leanWithin {S : aS} {I : Nat → Nat → Int32} {L : Nat → Nat → Int64} {w1 w2 t : Nat} {x1 : Int32} {nd np : Nat} (hs : SO nd np (I 421)) (hw : LwW (I 421)) (lg : LgW (I 421)) : Sp S m_X12_leanWithin 16 0 0 [.ref 420, .int x1] (hp I L w1 w2 t) (QE isZ (hp I L w1 w2 t)) nX := by
  refine Sp_of ok_X12_leanWithin rfl rfl ?_
  show AW S m_X12_leanWithin 16 _ _ 0 0 0 [some (.ref 420), some (.int x1), none, none] [] (hp I L w1 w2 t)
  refine a_s rfl rfl ?_
  refine a_s2 rfl rfl rfl rfl rfl rfl ?_
  refine a_s rfl rfl ?_
  refine a_s3 rfl rfl rfl rfl rfl rfl ?_
  refine a_cnt (j0 := 0) (fun j ls h => ∃ z0, ls = [some (.ref 420), some (.int x1), some (.int (bI z0)), some (.int (nI j))] ∧ h = hp I L w1 w2 t) (by decide) ⟨true, rfl, rfl⟩ ⟨rfl, rfl, rfl, rfl, trivial⟩ ?_
  rintro j4 _ _ hj4 ⟨z0_4, rfl, rfl⟩ ih4
  refine a_l3 rfl rfl rfl ?_
  refine a_l0 rfl rfl rfl ?_
  refine a_eV1 rfl lX12_74 mo_X12_duties (sp_X12_duties) rfl rfl rfl ⟨12, _, rfl, rfl, rfl⟩ rfl ?_
  refine a_top (y := nI nd) hs.du ?_
  refine a_ic_ge rfl (fun c9 => ?_) (fun c9 => ?_)
  · refine a_l2 rfl rfl rfl ?_
    exact a_zret rfl rfl (bI_nar _) ⟨⟨_, rfl⟩, rfl⟩
  · have hd4 : j4 < nd := nI_lt_of c9 hj4 (by have := hs.n; omega)
    refine a_l2 rfl rfl rfl ?_
    refine a_if_eq rfl (fun c13 => ?_) (fun c13 => ?_)
    · refine a_s rfl rfl ?_
      refine a_s2 rfl rfl rfl rfl rfl rfl ?_
      refine a_i3 rfl rfl rfl ?_
      refine a_goto rfl ?_
      exact ih4 _ _ _ _ c9 ⟨false, rfl, rfl⟩ ⟨rfl, rfl, rfl, nS _, trivial⟩
    · refine a_l1 rfl rfl rfl ?_
      refine a_l3 rfl rfl rfl ?_
      refine a_gS rfl lX12_304 mo_X12_has (r_X12_has) rfl rfl rfl rfl (fun v' h' hv => ?_)
      obtain ⟨⟨v1, rfl⟩, rfl⟩ := hv
      refine a_if_eq rfl (fun c21 => ?_) (fun c21 => ?_)
      · refine a_s rfl rfl ?_
        refine a_goto rfl ?_
        refine a_s2 rfl rfl rfl rfl rfl rfl ?_
        refine a_i3 rfl rfl rfl ?_
        refine a_goto rfl ?_
        exact ih4 _ _ _ _ c9 ⟨true, rfl, rfl⟩ ⟨rfl, rfl, rfl, nS _, trivial⟩
      · refine a_l0 rfl rfl rfl ?_
        refine a_l3 rfl rfl rfl ?_
        refine a_eV1 rfl lX12_249 mo_X12_leansWell (sp_X12_leansWell hs.n hd4 hs.l) rfl rfl rfl ⟨12, _, rfl, rfl, rfl⟩ rfl ?_
        refine a_if_ne rfl (fun c29 => ?_) (fun c29 => ?_)
        · refine a_s rfl rfl ?_
          refine a_goto rfl ?_
          refine a_s2 rfl rfl rfl rfl rfl rfl ?_
          refine a_i3 rfl rfl rfl ?_
          refine a_goto rfl ?_
          exact ih4 _ _ _ _ c9 ⟨true, rfl, rfl⟩ ⟨rfl, rfl, rfl, nS _, trivial⟩
        · refine a_l1 rfl rfl rfl ?_
          refine a_l0 rfl rfl rfl ?_
          refine a_l3 rfl rfl rfl ?_
          refine a_s rfl rfl ?_
          refine a_eV1 rfl lX12_63 mo_X12_of (sp_X12_of (d := j4) (k := 4) (Nat.lt_of_lt_of_le hd4 hs.n) (by decide)) rfl rfl rfl ⟨12, _, rfl, rfl, rfl⟩ rfl ?_
          refine a_gS rfl lX12_304 mo_X12_has (r_X12_has) rfl rfl rfl rfl (fun v' h' hv => ?_)
          obtain ⟨⟨v2, rfl⟩, rfl⟩ := hv
          refine a_if_eq rfl (fun c42 => ?_) (fun c42 => ?_)
          · refine a_s rfl rfl ?_
            refine a_s2 rfl rfl rfl rfl rfl rfl ?_
            refine a_i3 rfl rfl rfl ?_
            refine a_goto rfl ?_
            exact ih4 _ _ _ _ c9 ⟨false, rfl, rfl⟩ ⟨rfl, rfl, rfl, nS _, trivial⟩
          · refine a_s rfl rfl ?_
            refine a_goto rfl ?_
            refine a_s2 rfl rfl rfl rfl rfl rfl ?_
            refine a_i3 rfl rfl rfl ?_
            refine a_goto rfl ?_
            exact ih4 _ _ _ _ c9 ⟨true, rfl, rfl⟩ ⟨rfl, rfl, rfl, nS _, trivial⟩
theorem r_X12_toDo {S : aS} {I : Nat → Nat → Int32} {L : Nat → Nat → Int64} {w1 w2 t : Nat} {x1 : Int32} {nd np : Nat} (hs : SO nd np (I 421)) (hw : LwW (I 421)) (lg : LgW (I 421)) : Sp S m_X12_toDo 21 0 0 [.ref 420, .int x1] (hp I L w1 w2 t) (QR (Fm sU I) isI L w1 w2 t) nX := by
  refine Sp_of ok_X12_toDo rfl rfl ?_
  show AW S m_X12_toDo 21 _ _ 0 0 0 [some (.ref 420), some (.int x1), none, none, none, none, none] [] (hp I L w1 w2 t)
  refine a_l0 rfl rfl rfl ?_
  refine a_s rfl rfl ?_
  refine a_eV1 rfl lX12_324 mo_X12_ofState (sp_X12_ofState hs.n hs.du) rfl rfl rfl ⟨12, _, rfl, rfl, rfl⟩ rfl ?_
  refine a_topE (bs_nI12 hs.n) (fun mc1 hmc1 => ?_)
  refine a_s2 rfl rfl rfl rfl rfl rfl ?_
  refine a_s rfl rfl ?_
  refine a_s3 rfl rfl rfl rfl rfl rfl ?_
  refine a_l0 rfl rfl rfl ?_
  refine a_l2 rfl rfl rfl ?_
  refine a_gV rfl lX12_339 mo_X12_shameOf (r_X12_shameOf hs hw lg) rfl rfl rfl ⟨12, _, rfl, rfl, rfl⟩ rfl (fun v' h' hv => ?_)
  obtain ⟨⟨v2, rfl⟩, I3, rfl, f4⟩ := hv
  have s4 := SO.fm hs (Fm.mo f4 sU_sV); have l4 := LwW.fm hw (Fm.mo f4 sU_sV); have g4 := LgW.fm lg (Fm.mo f4 sU_sV)
  refine a_s4 rfl rfl rfl rfl rfl rfl ?_
  refine a_s rfl rfl ?_
  refine a_s5 rfl rfl rfl rfl rfl rfl ?_
  refine a_cnt (j0 := 1) (fun j ls h => ∃ a0, ∃ a1, ∃ I', ls = [some (.ref 420), some (.int x1), some (.int (nI mc1)), some (.int a0), some (.int a1), some (.int (nI j)), none] ∧ h = hp I' L w1 w2 t ∧ Fm sU I I') (by decide) ⟨_, _, _, rfl, rfl, f4⟩ ⟨rfl, rfl, rfl, rfl, rfl, rfl, trivial⟩ ?_
  rintro j18 _ _ hj18 ⟨a0_18, a1_18, Ih18, rfl, rfl, fh18⟩ ih18
  have sh18 := SO.fm hs (Fm.mo fh18 sU_sV); have lh18 := LwW.fm hw (Fm.mo fh18 sU_sV); have gh18 := LgW.fm lg (Fm.mo fh18 sU_sV)
  refine a_l5 rfl rfl rfl ?_
  refine a_l2 rfl rfl rfl ?_
  refine a_ic_gt rfl (fun c21 => ?_) (fun c21 => ?_)
  · refine a_l3 rfl rfl rfl ?_
    exact a_iret rfl rfl ⟨⟨_, rfl⟩, _, rfl, fh18⟩
  · refine a_l5 rfl rfl rfl ?_
    refine a_l2 rfl rfl rfl ?_
    refine a_s rfl rfl ?_
    refine a_s rfl rfl ?_
    refine a_s rfl rfl ?_
    refine a_if_ne rfl (fun c30 => ?_) (fun c30 => ?_)
    · refine a_i5 rfl rfl rfl ?_
      refine a_goto rfl ?_
      exact ih18 _ _ _ _ (nI_gt1 (a := mc1) (by omega) hj18 c21) ⟨_, _, _, rfl, rfl, fh18⟩ ⟨rfl, rfl, rfl, rfl, rfl, nS _, trivial⟩
    · refine a_l0 rfl rfl rfl ?_
      refine a_l5 rfl rfl rfl ?_
      refine a_eV1 rfl lX12_330 mo_X12_hoursOf (sp_X12_hoursOf sh18.n sh18.du) rfl rfl rfl ⟨12, _, rfl, rfl, rfl⟩ rfl ?_
      refine a_l1 rfl rfl rfl ?_
      refine a_ic_gt rfl (fun c40 => ?_) (fun c40 => ?_)
      · refine a_i5 rfl rfl rfl ?_
        refine a_goto rfl ?_
        exact ih18 _ _ _ _ (nI_gt1 (a := mc1) (by omega) hj18 c21) ⟨_, _, _, rfl, rfl, fh18⟩ ⟨rfl, rfl, rfl, rfl, rfl, nS _, trivial⟩
      · refine a_l0 rfl rfl rfl ?_
        refine a_l5 rfl rfl rfl ?_
        refine a_gV rfl lX12_432 mo_X12_leanWithin (r_X12_leanWithin sh18 lh18 gh18) rfl rfl rfl ⟨12, _, rfl, rfl, rfl⟩ rfl (fun v' h' hv => ?_)
        obtain ⟨⟨v5, rfl⟩, rfl⟩ := hv
        refine a_if_ne rfl (fun c49 => ?_) (fun c49 => ?_)
        · refine a_l0 rfl rfl rfl ?_
          refine a_l2 rfl rfl rfl ?_
          refine a_l5 rfl rfl rfl ?_
          refine a_s rfl rfl ?_
          refine a_s rfl rfl ?_
          refine a_s rfl rfl ?_
          refine a_gV rfl lX12_339 mo_X12_shameOf (r_X12_shameOf sh18 lh18 gh18) rfl rfl rfl ⟨12, _, rfl, rfl, rfl⟩ rfl (fun v' h' hv => ?_)
          obtain ⟨⟨v6, rfl⟩, I7, rfl, f8⟩ := hv
          replace f8 : Fm sU I I7 := Fm.tr (fh18) (f8)
          have s8 := SO.fm hs (Fm.mo f8 sU_sV); have l8 := LwW.fm hw (Fm.mo f8 sU_sV); have g8 := LgW.fm lg (Fm.mo f8 sU_sV)
          refine a_s6 rfl rfl rfl rfl rfl rfl ?_
          refine a_l6 rfl rfl rfl ?_
          refine a_l4 rfl rfl rfl ?_
          refine a_ic_ge rfl (fun c71 => ?_) (fun c71 => ?_)
          · refine a_l3 rfl rfl rfl ?_
            refine a_s3 rfl rfl rfl rfl rfl rfl ?_
            refine a_l4 rfl rfl rfl ?_
            refine a_l6 rfl rfl rfl ?_
            refine a_min rfl lX12_295 mj_min rfl rfl ?_
            refine a_s4 rfl rfl rfl rfl rfl rfl ?_
            refine a_i5 rfl rfl rfl ?_
            refine a_goto rfl ?_
            exact ih18 _ _ _ _ (nI_gt1 (a := mc1) (by omega) hj18 c21) ⟨_, _, _, rfl, rfl, f8⟩ ⟨rfl, rfl, rfl, rfl, rfl, nS _, trivial⟩
          · refine a_l5 rfl rfl rfl ?_
            refine a_goto rfl ?_
            refine a_s3 rfl rfl rfl rfl rfl rfl ?_
            refine a_l4 rfl rfl rfl ?_
            refine a_l6 rfl rfl rfl ?_
            refine a_min rfl lX12_295 mj_min rfl rfl ?_
            refine a_s4 rfl rfl rfl rfl rfl rfl ?_
            refine a_i5 rfl rfl rfl ?_
            refine a_goto rfl ?_
            exact ih18 _ _ _ _ (nI_gt1 (a := mc1) (by omega) hj18 c21) ⟨_, _, _, rfl, rfl, f8⟩ ⟨rfl, rfl, rfl, rfl, rfl, nS _, trivial⟩
        · refine a_goto rfl ?_
          refine a_i5 rfl rfl rfl ?_
          refine a_goto rfl ?_
          exact ih18 _ _ _ _ (nI_gt1 (a := mc1) (by omega) hj18 c21) ⟨_, _, _, rfl, rfl, fh18⟩ ⟨rfl, rfl, rfl, rfl, rfl, nS _, trivial⟩
theorem r_X12_isGap {S : aS} {I : Nat → Nat → Int32} {L : Nat → Nat → Int64} {w1 w2 t : Nat} {x1 : Int32} {nd np : Nat} (hs : SO nd np (I 421)) (hw : LwW (I 421)) (lg : LgW (I 421)) : Sp S m_X12_isGap 16 0 0 [.ref 420, .int x1] (hp I L w1 w2 t) (QE isZ (hp I L w1 w2 t)) nX := by
  refine Sp_of ok_X12_isGap rfl rfl ?_
  show AW S m_X12_isGap 16 _ _ 0 0 0 [some (.ref 420), some (.int x1), none, none] [] (hp I L w1 w2 t)
  refine a_l1 rfl rfl rfl ?_
  refine a_s rfl rfl ?_
  refine a_ic_ge rfl (fun c3 => ?_) (fun c3 => ?_)
  · refine a_s rfl rfl ?_
    refine a_s2 rfl rfl rfl rfl rfl rfl ?_
    refine a_s rfl rfl ?_
    refine a_s3 rfl rfl rfl rfl rfl rfl ?_
    refine a_cnt (j0 := 0) (fun j ls h => ∃ z0, ls = [some (.ref 420), some (.int x1), some (.int (bI z0)), some (.int (nI j))] ∧ h = hp I L w1 w2 t) (by decide) ⟨false, rfl, rfl⟩ ⟨rfl, rfl, rfl, rfl, trivial⟩ ?_
    rintro j14 _ _ hj14 ⟨z0_14, rfl, rfl⟩ ih14
    refine a_l3 rfl rfl rfl ?_
    refine a_l0 rfl rfl rfl ?_
    refine a_eV1 rfl lX12_74 mo_X12_duties (sp_X12_duties) rfl rfl rfl ⟨12, _, rfl, rfl, rfl⟩ rfl ?_
    refine a_top (y := nI nd) hs.du ?_
    refine a_ic_ge rfl (fun c19 => ?_) (fun c19 => ?_)
    · refine a_l2 rfl rfl rfl ?_
      refine a_if_eq rfl (fun c57 => ?_) (fun c57 => ?_)
      · refine a_s rfl rfl ?_
        exact a_zret rfl rfl rfl ⟨⟨false, rfl⟩, rfl⟩
      · refine a_l0 rfl rfl rfl ?_
        refine a_l1 rfl rfl rfl ?_
        refine a_eV1 rfl lX12_429 mo_X12_olderOnes (sp_X12_olderOnes hs.n hs.du) rfl rfl rfl ⟨12, _, rfl, rfl, rfl⟩ rfl ?_
        refine a_if_eq rfl (fun c65 => ?_) (fun c65 => ?_)
        · refine a_s rfl rfl ?_
          exact a_zret rfl rfl rfl ⟨⟨false, rfl⟩, rfl⟩
        · refine a_s rfl rfl ?_
          refine a_goto rfl ?_
          exact a_zret rfl rfl rfl ⟨⟨true, rfl⟩, rfl⟩
    · have hd14 : j14 < nd := nI_lt_of c19 hj14 (by have := hs.n; omega)
      refine a_l2 rfl rfl rfl ?_
      refine a_if_eq rfl (fun c23 => ?_) (fun c23 => ?_)
      · refine a_s rfl rfl ?_
        refine a_s2 rfl rfl rfl rfl rfl rfl ?_
        refine a_i3 rfl rfl rfl ?_
        refine a_goto rfl ?_
        exact ih14 _ _ _ _ c19 ⟨false, rfl, rfl⟩ ⟨rfl, rfl, rfl, nS _, trivial⟩
      · refine a_l0 rfl rfl rfl ?_
        refine a_l3 rfl rfl rfl ?_
        refine a_eV1 rfl lX12_135 mo_X12_isWaiting (sp_X12_isWaiting (d := j14) (Nat.lt_of_lt_of_le hd14 hs.n)) rfl rfl rfl ⟨12, _, rfl, rfl, rfl⟩ rfl ?_
        refine a_if_eq rfl (fun c31 => ?_) (fun c31 => ?_)
        · refine a_s rfl rfl ?_
          refine a_goto rfl ?_
          refine a_s2 rfl rfl rfl rfl rfl rfl ?_
          refine a_i3 rfl rfl rfl ?_
          refine a_goto rfl ?_
          exact ih14 _ _ _ _ c19 ⟨true, rfl, rfl⟩ ⟨rfl, rfl, rfl, nS _, trivial⟩
        · refine a_l0 rfl rfl rfl ?_
          refine a_l3 rfl rfl rfl ?_
          refine a_s rfl rfl ?_
          refine a_eV1 rfl lX12_63 mo_X12_of (sp_X12_of (d := j14) (k := 2) (Nat.lt_of_lt_of_le hd14 hs.n) (by decide)) rfl rfl rfl ⟨12, _, rfl, rfl, rfl⟩ rfl ?_
          refine a_l1 rfl rfl rfl ?_
          refine a_ic_eq rfl (fun c41 => ?_) (fun c41 => ?_)
          · refine a_s rfl rfl ?_
            refine a_s2 rfl rfl rfl rfl rfl rfl ?_
            refine a_i3 rfl rfl rfl ?_
            refine a_goto rfl ?_
            exact ih14 _ _ _ _ c19 ⟨false, rfl, rfl⟩ ⟨rfl, rfl, rfl, nS _, trivial⟩
          · refine a_s rfl rfl ?_
            refine a_goto rfl ?_
            refine a_s2 rfl rfl rfl rfl rfl rfl ?_
            refine a_i3 rfl rfl rfl ?_
            refine a_goto rfl ?_
            exact ih14 _ _ _ _ c19 ⟨true, rfl, rfl⟩ ⟨rfl, rfl, rfl, nS _, trivial⟩
  · refine a_s rfl rfl ?_
    refine a_goto rfl ?_
    refine a_s2 rfl rfl rfl rfl rfl rfl ?_
    refine a_s rfl rfl ?_
    refine a_s3 rfl rfl rfl rfl rfl rfl ?_
    refine a_cnt (j0 := 0) (fun j ls h => ∃ z0, ls = [some (.ref 420), some (.int x1), some (.int (bI z0)), some (.int (nI j))] ∧ h = hp I L w1 w2 t) (by decide) ⟨true, rfl, rfl⟩ ⟨rfl, rfl, rfl, rfl, trivial⟩ ?_
    rintro j14 _ _ hj14 ⟨z0_14, rfl, rfl⟩ ih14
    refine a_l3 rfl rfl rfl ?_
    refine a_l0 rfl rfl rfl ?_
    refine a_eV1 rfl lX12_74 mo_X12_duties (sp_X12_duties) rfl rfl rfl ⟨12, _, rfl, rfl, rfl⟩ rfl ?_
    refine a_top (y := nI nd) hs.du ?_
    refine a_ic_ge rfl (fun c19 => ?_) (fun c19 => ?_)
    · refine a_l2 rfl rfl rfl ?_
      refine a_if_eq rfl (fun c57 => ?_) (fun c57 => ?_)
      · refine a_s rfl rfl ?_
        exact a_zret rfl rfl rfl ⟨⟨false, rfl⟩, rfl⟩
      · refine a_l0 rfl rfl rfl ?_
        refine a_l1 rfl rfl rfl ?_
        refine a_eV1 rfl lX12_429 mo_X12_olderOnes (sp_X12_olderOnes hs.n hs.du) rfl rfl rfl ⟨12, _, rfl, rfl, rfl⟩ rfl ?_
        refine a_if_eq rfl (fun c65 => ?_) (fun c65 => ?_)
        · refine a_s rfl rfl ?_
          exact a_zret rfl rfl rfl ⟨⟨false, rfl⟩, rfl⟩
        · refine a_s rfl rfl ?_
          refine a_goto rfl ?_
          exact a_zret rfl rfl rfl ⟨⟨true, rfl⟩, rfl⟩
    · have hd14 : j14 < nd := nI_lt_of c19 hj14 (by have := hs.n; omega)
      refine a_l2 rfl rfl rfl ?_
      refine a_if_eq rfl (fun c23 => ?_) (fun c23 => ?_)
      · refine a_s rfl rfl ?_
        refine a_s2 rfl rfl rfl rfl rfl rfl ?_
        refine a_i3 rfl rfl rfl ?_
        refine a_goto rfl ?_
        exact ih14 _ _ _ _ c19 ⟨false, rfl, rfl⟩ ⟨rfl, rfl, rfl, nS _, trivial⟩
      · refine a_l0 rfl rfl rfl ?_
        refine a_l3 rfl rfl rfl ?_
        refine a_eV1 rfl lX12_135 mo_X12_isWaiting (sp_X12_isWaiting (d := j14) (Nat.lt_of_lt_of_le hd14 hs.n)) rfl rfl rfl ⟨12, _, rfl, rfl, rfl⟩ rfl ?_
        refine a_if_eq rfl (fun c31 => ?_) (fun c31 => ?_)
        · refine a_s rfl rfl ?_
          refine a_goto rfl ?_
          refine a_s2 rfl rfl rfl rfl rfl rfl ?_
          refine a_i3 rfl rfl rfl ?_
          refine a_goto rfl ?_
          exact ih14 _ _ _ _ c19 ⟨true, rfl, rfl⟩ ⟨rfl, rfl, rfl, nS _, trivial⟩
        · refine a_l0 rfl rfl rfl ?_
          refine a_l3 rfl rfl rfl ?_
          refine a_s rfl rfl ?_
          refine a_eV1 rfl lX12_63 mo_X12_of (sp_X12_of (d := j14) (k := 2) (Nat.lt_of_lt_of_le hd14 hs.n) (by decide)) rfl rfl rfl ⟨12, _, rfl, rfl, rfl⟩ rfl ?_
          refine a_l1 rfl rfl rfl ?_
          refine a_ic_eq rfl (fun c41 => ?_) (fun c41 => ?_)
          · refine a_s rfl rfl ?_
            refine a_s2 rfl rfl rfl rfl rfl rfl ?_
            refine a_i3 rfl rfl rfl ?_
            refine a_goto rfl ?_
            exact ih14 _ _ _ _ c19 ⟨false, rfl, rfl⟩ ⟨rfl, rfl, rfl, nS _, trivial⟩
          · refine a_s rfl rfl ?_
            refine a_goto rfl ?_
            refine a_s2 rfl rfl rfl rfl rfl rfl ?_
            refine a_i3 rfl rfl rfl ?_
            refine a_goto rfl ?_
            exact ih14 _ _ _ _ c19 ⟨true, rfl, rfl⟩ ⟨rfl, rfl, rfl, nS _, trivial⟩
theorem r_X12_serves {S : aS} {I : Nat → Nat → Int32} {L : Nat → Nat → Int64} {w1 w2 t : Nat} {nd np : Nat} (hs : SO nd np (I 421)) (hw : LwW (I 421)) (lg : LgW (I 421)) {i1 : Nat} (hi1 : i1 < np) {i2 : Nat} (hi2 : i2 < np) {i3 : Nat} (hi3 : i3 < nd) {i4 : Nat} (hi4 : i4 < nd) : Sp S m_X12_serves 18 0 0 [.ref 420, .int (nI i1), .int (nI i2), .int (nI i3), .int (nI i4)] (hp I L w1 w2 t) (QE isZ (hp I L w1 w2 t)) nX := by
  refine Sp_of ok_X12_serves rfl rfl ?_
  show AW S m_X12_serves 18 _ _ 0 0 0 [some (.ref 420), some (.int (nI i1)), some (.int (nI i2)), some (.int (nI i3)), some (.int (nI i4)), none, none] [] (hp I L w1 w2 t)
  refine a_l0 rfl rfl rfl ?_
  refine a_l1 rfl rfl rfl ?_
  refine a_eV1 rfl lX12_333 mo_X12_loadOf (sp_X12_loadOf hs.n hs.du) rfl rfl rfl ⟨12, _, rfl, rfl, rfl⟩ rfl ?_
  refine a_l0 rfl rfl rfl ?_
  refine a_l3 rfl rfl rfl ?_
  refine a_s rfl rfl ?_
  refine a_eV1 rfl lX12_63 mo_X12_of (sp_X12_of (d := i3) (k := 1) (Nat.lt_of_lt_of_le hi3 hs.n) (by decide)) rfl rfl rfl ⟨12, _, rfl, rfl, rfl⟩ rfl ?_
  refine a_s rfl rfl ?_
  refine a_l0 rfl rfl rfl ?_
  refine a_l4 rfl rfl rfl ?_
  refine a_s rfl rfl ?_
  refine a_eV1 rfl lX12_63 mo_X12_of (sp_X12_of (d := i4) (k := 1) (Nat.lt_of_lt_of_le hi4 hs.n) (by decide)) rfl rfl rfl ⟨12, _, rfl, rfl, rfl⟩ rfl ?_
  refine a_s rfl rfl ?_
  refine a_l0 rfl rfl rfl ?_
  refine a_l1 rfl rfl rfl ?_
  refine a_s rfl rfl ?_
  refine a_eV1 rfl lX12_252 mo_X12_ofPerson (sp_X12_ofPerson (d := i1) (k := 1) (Nat.lt_of_lt_of_le hi1 hs.p) (by decide)) rfl rfl rfl ⟨12, _, rfl, rfl, rfl⟩ rfl ?_
  refine a_eS1 rfl lX12_336 mo_X12_daysFor (sp_X12_daysFor) rfl rfl rfl rfl ?_
  refine a_s5 rfl rfl rfl rfl rfl rfl ?_
  refine a_l0 rfl rfl rfl ?_
  refine a_l2 rfl rfl rfl ?_
  refine a_eV1 rfl lX12_333 mo_X12_loadOf (sp_X12_loadOf hs.n hs.du) rfl rfl rfl ⟨12, _, rfl, rfl, rfl⟩ rfl ?_
  refine a_l0 rfl rfl rfl ?_
  refine a_l4 rfl rfl rfl ?_
  refine a_s rfl rfl ?_
  refine a_eV1 rfl lX12_63 mo_X12_of (sp_X12_of (d := i4) (k := 1) (Nat.lt_of_lt_of_le hi4 hs.n) (by decide)) rfl rfl rfl ⟨12, _, rfl, rfl, rfl⟩ rfl ?_
  refine a_s rfl rfl ?_
  refine a_l0 rfl rfl rfl ?_
  refine a_l3 rfl rfl rfl ?_
  refine a_s rfl rfl ?_
  refine a_eV1 rfl lX12_63 mo_X12_of (sp_X12_of (d := i3) (k := 1) (Nat.lt_of_lt_of_le hi3 hs.n) (by decide)) rfl rfl rfl ⟨12, _, rfl, rfl, rfl⟩ rfl ?_
  refine a_s rfl rfl ?_
  refine a_l0 rfl rfl rfl ?_
  refine a_l2 rfl rfl rfl ?_
  refine a_s rfl rfl ?_
  refine a_eV1 rfl lX12_252 mo_X12_ofPerson (sp_X12_ofPerson (d := i2) (k := 1) (Nat.lt_of_lt_of_le hi2 hs.p) (by decide)) rfl rfl rfl ⟨12, _, rfl, rfl, rfl⟩ rfl ?_
  refine a_eS1 rfl lX12_336 mo_X12_daysFor (sp_X12_daysFor) rfl rfl rfl rfl ?_
  refine a_s6 rfl rfl rfl rfl rfl rfl ?_
  refine a_l5 rfl rfl rfl ?_
  refine a_l0 rfl rfl rfl ?_
  refine a_l1 rfl rfl rfl ?_
  refine a_eV1 rfl lX12_345 mo_X12_needsOf (sp_X12_needsOf hs.n hs.du (Nat.lt_of_lt_of_le hi1 hs.p)) rfl rfl rfl ⟨12, _, rfl, rfl, rfl⟩ rfl ?_
  refine a_ic_gt rfl (fun c69 => ?_) (fun c69 => ?_)
  · refine a_s rfl rfl ?_
    exact a_zret rfl rfl rfl ⟨⟨false, rfl⟩, rfl⟩
  · refine a_l6 rfl rfl rfl ?_
    refine a_l0 rfl rfl rfl ?_
    refine a_l2 rfl rfl rfl ?_
    refine a_eV1 rfl lX12_345 mo_X12_needsOf (sp_X12_needsOf hs.n hs.du (Nat.lt_of_lt_of_le hi2 hs.p)) rfl rfl rfl ⟨12, _, rfl, rfl, rfl⟩ rfl ?_
    refine a_ic_gt rfl (fun c79 => ?_) (fun c79 => ?_)
    · refine a_s rfl rfl ?_
      exact a_zret rfl rfl rfl ⟨⟨false, rfl⟩, rfl⟩
    · refine a_l5 rfl rfl rfl ?_
      refine a_l6 rfl rfl rfl ?_
      refine a_s rfl rfl ?_
      refine a_l0 rfl rfl rfl ?_
      refine a_l1 rfl rfl rfl ?_
      refine a_eV1 rfl lX12_345 mo_X12_needsOf (sp_X12_needsOf hs.n hs.du (Nat.lt_of_lt_of_le hi1 hs.p)) rfl rfl rfl ⟨12, _, rfl, rfl, rfl⟩ rfl ?_
      refine a_l0 rfl rfl rfl ?_
      refine a_l2 rfl rfl rfl ?_
      refine a_eV1 rfl lX12_345 mo_X12_needsOf (sp_X12_needsOf hs.n hs.du (Nat.lt_of_lt_of_le hi2 hs.p)) rfl rfl rfl ⟨12, _, rfl, rfl, rfl⟩ rfl ?_
      refine a_s rfl rfl ?_
      refine a_ic_ge rfl (fun c98 => ?_) (fun c98 => ?_)
      · refine a_s rfl rfl ?_
        exact a_zret rfl rfl rfl ⟨⟨false, rfl⟩, rfl⟩
      · refine a_s rfl rfl ?_
        refine a_goto rfl ?_
        exact a_zret rfl rfl rfl ⟨⟨true, rfl⟩, rfl⟩
theorem r_X12_hasBy {S : aS} {I : Nat → Nat → Int32} {L : Nat → Nat → Int64} {w1 w2 t : Nat} {x2 x3 : Int32} {nd np : Nat} (hs : SO nd np (I 421)) (hw : LwW (I 421)) (lg : LgW (I 421)) {i1 : Nat} (hi1 : i1 < nd) : Sp S m_X12_hasBy 20 0 0 [.ref 420, .int (nI i1), .int x2, .int x3] (hp I L w1 w2 t) (QR (Fm sU I) isI L w1 w2 t) nX := by
  refine Sp_of ok_X12_hasBy rfl rfl ?_
  show AW S m_X12_hasBy 20 _ _ 0 0 0 [some (.ref 420), some (.int (nI i1)), some (.int x2), some (.int x3), none] [] (hp I L w1 w2 t)
  refine a_l0 rfl rfl rfl ?_
  refine a_l1 rfl rfl rfl ?_
  refine a_gV rfl lX12_318 mo_X12_shamesBy (r_X12_shamesBy hs hw lg hi1) rfl rfl rfl ⟨12, _, rfl, rfl, rfl⟩ rfl (fun v' h' hv => ?_)
  obtain ⟨⟨v1, rfl⟩, I2, rfl, f3⟩ := hv
  have s3 := SO.fm hs (Fm.mo f3 sU_sV); have l3 := LwW.fm hw (Fm.mo f3 sU_sV); have g3 := LgW.fm lg (Fm.mo f3 sU_sV)
  refine a_s4 rfl rfl rfl rfl rfl rfl ?_
  refine a_l2 rfl rfl rfl ?_
  refine a_s rfl rfl ?_
  refine a_ic_ne rfl (fun c9 => ?_) (fun c9 => ?_)
  · refine a_l4 rfl rfl rfl ?_
    refine a_l3 rfl rfl rfl ?_
    refine a_if_ne rfl (fun c28 => ?_) (fun c28 => ?_)
    · refine a_l0 rfl rfl rfl ?_
      refine a_l1 rfl rfl rfl ?_
      refine a_s rfl rfl ?_
      refine a_eV1 rfl lX12_63 mo_X12_of (sp_X12_of (d := i1) (k := 1) (Nat.lt_of_lt_of_le hi1 s3.n) (by decide)) rfl rfl rfl ⟨12, _, rfl, rfl, rfl⟩ rfl ?_
      refine a_s rfl rfl ?_
      exact a_iret rfl rfl ⟨⟨_, rfl⟩, _, rfl, f3⟩
    · refine a_l0 rfl rfl rfl ?_
      refine a_l1 rfl rfl rfl ?_
      refine a_s rfl rfl ?_
      refine a_eV1 rfl lX12_63 mo_X12_of (sp_X12_of (d := i1) (k := 1) (Nat.lt_of_lt_of_le hi1 s3.n) (by decide)) rfl rfl rfl ⟨12, _, rfl, rfl, rfl⟩ rfl ?_
      refine a_s rfl rfl ?_
      refine a_idiv rfl (by decide) ?_
      refine a_goto rfl ?_
      refine a_s rfl rfl ?_
      exact a_iret rfl rfl ⟨⟨_, rfl⟩, _, rfl, f3⟩
  · refine a_l3 rfl rfl rfl ?_
    refine a_if_ne rfl (fun c13 => ?_) (fun c13 => ?_)
    · refine a_l4 rfl rfl rfl ?_
      refine a_s rfl rfl ?_
      exact a_iret rfl rfl ⟨⟨_, rfl⟩, _, rfl, f3⟩
    · refine a_l4 rfl rfl rfl ?_
      refine a_goto rfl ?_
      exact a_iret rfl rfl ⟨⟨_, rfl⟩, _, rfl, f3⟩
theorem r_X12_isNow {S : aS} {I : Nat → Nat → Int32} {L : Nat → Nat → Int64} {w1 w2 t : Nat} {x2 : Int32} {nd np : Nat} (hs : SO nd np (I 421)) (hw : LwW (I 421)) (lg : LgW (I 421)) {i1 : Nat} (hi1 : i1 < nd) : Sp S m_X12_isNow 13 0 0 [.ref 420, .int (nI i1), .int x2] (hp I L w1 w2 t) (QR (Dd I) isV L w1 w2 t) nX := by
  refine Sp_of ok_X12_isNow rfl rfl ?_
  show AW S m_X12_isNow 13 _ _ 0 0 0 [some (.ref 420), some (.int (nI i1)), some (.int x2)] [] (hp I L w1 w2 t)
  refine a_l0 rfl rfl rfl ?_
  refine a_getq rfl gfX12_13_12 rfl (rfl) ?_
  refine a_l1 rfl rfl rfl ?_
  refine a_s rfl rfl ?_
  refine a_eS1 rfl lX12_60 mo_X12_at (sp_X12_at (d := i1) (k := 5)) rfl rfl rfl rfl ?_
  refine a_l2 rfl rfl rfl ?_
  refine a_iastv (k := (23 + 6 * i1 + 5)) rfl (n := 2033) rfl (inI_nI (by have := hs.n; have := hs.p; omega) (by have := hs.n; have := hs.p; omega)) (nI_clamp (by have := hs.n; have := hs.p; omega)) ?_
  refine a_ren (P := Dd I) (Dd.up (Dd.rf) (dayC_at5 _ (Nat.lt_of_lt_of_le hi1 hs.n)) (by omega)) (fun I1 f2 => ?_)
  have s2 := Dd.so hs f2; have l2 := Dd.lw hw f2; have g2 := Dd.lg lg f2
  exact a_vret rfl rfl ⟨rfl, _, rfl, f2⟩
theorem r_X12_finishes {S : aS} {I : Nat → Nat → Int32} {L : Nat → Nat → Int64} {w1 w2 t : Nat} {nd np : Nat} (hs : SO nd np (I 421)) (hw : LwW (I 421)) (lg : LgW (I 421)) {i1 : Nat} (hi1 : i1 < nd) : Sp S m_X12_finishes 14 0 0 [.ref 420, .int (nI i1)] (hp I L w1 w2 t) (QR (Dd I) isV L w1 w2 t) nX := by
  refine Sp_of ok_X12_finishes rfl rfl ?_
  show AW S m_X12_finishes 14 _ _ 0 0 0 [some (.ref 420), some (.int (nI i1))] [] (hp I L w1 w2 t)
  refine a_l0 rfl rfl rfl ?_
  refine a_getq rfl gfX12_13_12 rfl (rfl) ?_
  refine a_l1 rfl rfl rfl ?_
  refine a_s rfl rfl ?_
  refine a_eS1 rfl lX12_60 mo_X12_at (sp_X12_at (d := i1) (k := 1)) rfl rfl rfl rfl ?_
  refine a_s rfl rfl ?_
  refine a_iastv (k := (23 + 6 * i1 + 1)) rfl (n := 2033) rfl (inI_nI (by have := hs.n; have := hs.p; omega) (by have := hs.n; have := hs.p; omega)) (nI_clamp (by have := hs.n; have := hs.p; omega)) ?_
  refine a_ren (P := Dd I) (Dd.up (Dd.rf) (dayC_at1 _ (Nat.lt_of_lt_of_le hi1 hs.n)) (by omega)) (fun I1 f2 => ?_)
  have s2 := Dd.so hs f2; have l2 := Dd.lw hw f2; have g2 := Dd.lg lg f2
  refine a_l0 rfl rfl rfl ?_
  refine a_l1 rfl rfl rfl ?_
  refine a_s rfl rfl ?_
  refine a_gV rfl lX12_354 mo_X12_isNow (r_X12_isNow s2 l2 g2 hi1) rfl rfl rfl ⟨12, _, rfl, rfl, rfl⟩ rfl (fun v' h' hv => ?_)
  obtain ⟨rfl, I4, rfl, f5⟩ := hv
  replace f5 := Dd.tr (f2) f5
  have s5 := Dd.so hs f5; have l5 := Dd.lw hw f5; have g5 := Dd.lg lg f5
  exact a_vret rfl rfl ⟨rfl, _, rfl, f5⟩
theorem r_X12_growsOlder {S : aS} {I : Nat → Nat → Int32} {L : Nat → Nat → Int64} {w1 w2 t : Nat} {nd np : Nat} (hs : SO nd np (I 421)) (hw : LwW (I 421)) (lg : LgW (I 421)) {i1 : Nat} (hi1 : i1 < nd) : Sp S m_X12_growsOlder 20 0 0 [.ref 420, .int (nI i1)] (hp I L w1 w2 t) (QR (Dd I) isV L w1 w2 t) nX := by
  refine Sp_of ok_X12_growsOlder rfl rfl ?_
  show AW S m_X12_growsOlder 20 _ _ 0 0 0 [some (.ref 420), some (.int (nI i1)), none] [] (hp I L w1 w2 t)
  refine a_l0 rfl rfl rfl ?_
  refine a_l1 rfl rfl rfl ?_
  refine a_eV1 rfl lX12_246 mo_X12_isDone (sp_X12_isDone (d := i1) (Nat.lt_of_lt_of_le hi1 hs.n)) rfl rfl rfl ⟨12, _, rfl, rfl, rfl⟩ rfl ?_
  refine a_if_eq rfl (fun c5 => ?_) (fun c5 => ?_)
  · refine a_l0 rfl rfl rfl ?_
    refine a_l1 rfl rfl rfl ?_
    refine a_eV1 rfl lX12_135 mo_X12_isWaiting (sp_X12_isWaiting (d := i1) (Nat.lt_of_lt_of_le hi1 hs.n)) rfl rfl rfl ⟨12, _, rfl, rfl, rfl⟩ rfl ?_
    refine a_if_eq rfl (fun c14 => ?_) (fun c14 => ?_)
    · refine a_s rfl rfl ?_
      refine a_s2 rfl rfl rfl rfl rfl rfl ?_
      refine a_l0 rfl rfl rfl ?_
      refine a_getq rfl gfX12_13_12 rfl (rfl) ?_
      refine a_l1 rfl rfl rfl ?_
      refine a_s rfl rfl ?_
      refine a_eS1 rfl lX12_60 mo_X12_at (sp_X12_at (d := i1) (k := 2)) rfl rfl rfl rfl ?_
      refine a_s rfl rfl ?_
      refine a_l0 rfl rfl rfl ?_
      refine a_l1 rfl rfl rfl ?_
      refine a_s rfl rfl ?_
      refine a_eV1 rfl lX12_63 mo_X12_of (sp_X12_of (d := i1) (k := 2) (Nat.lt_of_lt_of_le hi1 hs.n) (by decide)) rfl rfl rfl ⟨12, _, rfl, rfl, rfl⟩ rfl ?_
      refine a_s rfl rfl ?_
      refine a_s rfl rfl ?_
      refine a_min rfl lX12_295 mj_min rfl rfl ?_
      refine a_iastv (k := (23 + 6 * i1 + 2)) rfl (n := 2033) rfl (inI_nI (by have := hs.n; have := hs.p; omega) (by have := hs.n; have := hs.p; omega)) (nI_clamp (by have := hs.n; have := hs.p; omega)) ?_
      refine a_ren (P := Dd I) (Dd.up (Dd.rf) (dayC_at2 _ (Nat.lt_of_lt_of_le hi1 hs.n)) (by omega)) (fun I1 f2 => ?_)
      have s2 := Dd.so hs f2; have l2 := Dd.lw hw f2; have g2 := Dd.lg lg f2
      refine a_l0 rfl rfl rfl ?_
      refine a_getq rfl gfX12_13_12 rfl (rfl) ?_
      refine a_l1 rfl rfl rfl ?_
      refine a_s rfl rfl ?_
      refine a_eS1 rfl lX12_60 mo_X12_at (sp_X12_at (d := i1) (k := 1)) rfl rfl rfl rfl ?_
      refine a_s rfl rfl ?_
      refine a_l0 rfl rfl rfl ?_
      refine a_l1 rfl rfl rfl ?_
      refine a_s rfl rfl ?_
      refine a_eV1 rfl lX12_63 mo_X12_of (sp_X12_of (d := i1) (k := 1) (Nat.lt_of_lt_of_le hi1 s2.n) (by decide)) rfl rfl rfl ⟨12, _, rfl, rfl, rfl⟩ rfl ?_
      refine a_l2 rfl rfl rfl ?_
      refine a_s rfl rfl ?_
      refine a_min rfl lX12_295 mj_min rfl rfl ?_
      refine a_iastv (k := (23 + 6 * i1 + 1)) rfl (n := 2033) rfl (inI_nI (by have := hs.n; have := hs.p; omega) (by have := hs.n; have := hs.p; omega)) (nI_clamp (by have := hs.n; have := hs.p; omega)) ?_
      refine a_ren (P := Dd I) (Dd.up (f2) (dayC_at1 _ (Nat.lt_of_lt_of_le hi1 hs.n)) (by omega)) (fun I3 f4 => ?_)
      have s4 := Dd.so hs f4; have l4 := Dd.lw hw f4; have g4 := Dd.lg lg f4
      exact a_vret rfl rfl ⟨rfl, _, rfl, f4⟩
    · refine a_l0 rfl rfl rfl ?_
      refine a_l1 rfl rfl rfl ?_
      refine a_gV rfl lX12_351 mo_X12_growsBy (r_X12_growsBy hs hw lg hi1) rfl rfl rfl ⟨12, _, rfl, rfl, rfl⟩ rfl (fun v' h' hv => ?_)
      obtain ⟨⟨v5, rfl⟩, I6, rfl, f7⟩ := hv
      replace f7 : Dd I I6 := Dd.fm (Dd.rf) (f7)
      have s7 := Dd.so hs f7; have l7 := Dd.lw hw f7; have g7 := Dd.lg lg f7
      refine a_goto rfl ?_
      refine a_s2 rfl rfl rfl rfl rfl rfl ?_
      refine a_l0 rfl rfl rfl ?_
      refine a_getq rfl gfX12_13_12 rfl (rfl) ?_
      refine a_l1 rfl rfl rfl ?_
      refine a_s rfl rfl ?_
      refine a_eS1 rfl lX12_60 mo_X12_at (sp_X12_at (d := i1) (k := 2)) rfl rfl rfl rfl ?_
      refine a_s rfl rfl ?_
      refine a_l0 rfl rfl rfl ?_
      refine a_l1 rfl rfl rfl ?_
      refine a_s rfl rfl ?_
      refine a_eV1 rfl lX12_63 mo_X12_of (sp_X12_of (d := i1) (k := 2) (Nat.lt_of_lt_of_le hi1 s7.n) (by decide)) rfl rfl rfl ⟨12, _, rfl, rfl, rfl⟩ rfl ?_
      refine a_s rfl rfl ?_
      refine a_s rfl rfl ?_
      refine a_min rfl lX12_295 mj_min rfl rfl ?_
      refine a_iastv (k := (23 + 6 * i1 + 2)) rfl (n := 2033) rfl (inI_nI (by have := hs.n; have := hs.p; omega) (by have := hs.n; have := hs.p; omega)) (nI_clamp (by have := hs.n; have := hs.p; omega)) ?_
      refine a_ren (P := Dd I) (Dd.up (f7) (dayC_at2 _ (Nat.lt_of_lt_of_le hi1 hs.n)) (by omega)) (fun I8 f9 => ?_)
      have s9 := Dd.so hs f9; have l9 := Dd.lw hw f9; have g9 := Dd.lg lg f9
      refine a_l0 rfl rfl rfl ?_
      refine a_getq rfl gfX12_13_12 rfl (rfl) ?_
      refine a_l1 rfl rfl rfl ?_
      refine a_s rfl rfl ?_
      refine a_eS1 rfl lX12_60 mo_X12_at (sp_X12_at (d := i1) (k := 1)) rfl rfl rfl rfl ?_
      refine a_s rfl rfl ?_
      refine a_l0 rfl rfl rfl ?_
      refine a_l1 rfl rfl rfl ?_
      refine a_s rfl rfl ?_
      refine a_eV1 rfl lX12_63 mo_X12_of (sp_X12_of (d := i1) (k := 1) (Nat.lt_of_lt_of_le hi1 s9.n) (by decide)) rfl rfl rfl ⟨12, _, rfl, rfl, rfl⟩ rfl ?_
      refine a_l2 rfl rfl rfl ?_
      refine a_s rfl rfl ?_
      refine a_min rfl lX12_295 mj_min rfl rfl ?_
      refine a_iastv (k := (23 + 6 * i1 + 1)) rfl (n := 2033) rfl (inI_nI (by have := hs.n; have := hs.p; omega) (by have := hs.n; have := hs.p; omega)) (nI_clamp (by have := hs.n; have := hs.p; omega)) ?_
      refine a_ren (P := Dd I) (Dd.up (f9) (dayC_at1 _ (Nat.lt_of_lt_of_le hi1 hs.n)) (by omega)) (fun I10 f11 => ?_)
      have s11 := Dd.so hs f11; have l11 := Dd.lw hw f11; have g11 := Dd.lg lg f11
      exact a_vret rfl rfl ⟨rfl, _, rfl, f11⟩
  · exact a_vret rfl rfl ⟨rfl, _, rfl, Dd.rf⟩
theorem r_X12_works {S : aS} {I : Nat → Nat → Int32} {L : Nat → Nat → Int64} {w1 w2 t : Nat} {nd np : Nat} (hs : SO nd np (I 421)) (hw : LwW (I 421)) (lg : LgW (I 421)) {i1 : Nat} (hi1 : i1 < np) : Sp S m_X12_works 17 0 0 [.ref 420, .int (nI i1)] (hp I L w1 w2 t) (QR (Dd I) isI L w1 w2 t) nX := by
  refine Sp_of ok_X12_works rfl rfl ?_
  show AW S m_X12_works 17 _ _ 0 0 0 [some (.ref 420), some (.int (nI i1)), none, none, none, none] [] (hp I L w1 w2 t)
  refine a_l0 rfl rfl rfl ?_
  refine a_l1 rfl rfl rfl ?_
  refine a_s rfl rfl ?_
  refine a_eV1 rfl lX12_252 mo_X12_ofPerson (sp_X12_ofPerson (d := i1) (k := 1) (Nat.lt_of_lt_of_le hi1 hs.p) (by decide)) rfl rfl rfl ⟨12, _, rfl, rfl, rfl⟩ rfl ?_
  refine a_s2 rfl rfl rfl rfl rfl rfl ?_
  refine a_s rfl rfl ?_
  refine a_s3 rfl rfl rfl rfl rfl rfl ?_
  refine a_s rfl rfl ?_
  refine a_s4 rfl rfl rfl rfl rfl rfl ?_
  refine a_cnt (j0 := 0) (fun j ls h => ∃ a0, ∃ a1, ∃ I', ls = [some (.ref 420), some (.int (nI i1)), some (.int a0), some (.int a1), some (.int (nI j)), none] ∧ h = hp I' L w1 w2 t ∧ Dd I I') (by decide) ⟨_, _, _, rfl, rfl, Dd.rf⟩ ⟨rfl, rfl, rfl, rfl, rfl, trivial⟩ ?_
  rintro j12 _ _ hj12 ⟨a0_12, a1_12, Ih12, rfl, rfl, fh12⟩ ih12
  have sh12 := Dd.so hs fh12; have lh12 := Dd.lw hw fh12; have gh12 := Dd.lg lg fh12
  refine a_l4 rfl rfl rfl ?_
  refine a_l0 rfl rfl rfl ?_
  refine a_eV1 rfl lX12_74 mo_X12_duties (sp_X12_duties) rfl rfl rfl ⟨12, _, rfl, rfl, rfl⟩ rfl ?_
  refine a_top (y := nI nd) sh12.du ?_
  refine a_ic_ge rfl (fun c18 => ?_) (fun c18 => ?_)
  · refine a_l3 rfl rfl rfl ?_
    exact a_iret rfl rfl ⟨⟨_, rfl⟩, _, rfl, fh12⟩
  · have hd12 : j12 < nd := nI_lt_of c18 hj12 (by have := hs.n; omega)
    refine a_l0 rfl rfl rfl ?_
    refine a_l4 rfl rfl rfl ?_
    refine a_s rfl rfl ?_
    refine a_eV1 rfl lX12_63 mo_X12_of (sp_X12_of (d := j12) (k := 0) (Nat.lt_of_lt_of_le hd12 sh12.n) (by decide)) rfl rfl rfl ⟨12, _, rfl, rfl, rfl⟩ rfl ?_
    refine a_l1 rfl rfl rfl ?_
    refine a_ic_ne rfl (fun c29 => ?_) (fun c29 => ?_)
    · refine a_i4 rfl rfl rfl ?_
      refine a_goto rfl ?_
      exact ih12 _ _ _ _ c18 ⟨_, _, _, rfl, rfl, fh12⟩ ⟨rfl, rfl, rfl, rfl, nS _, trivial⟩
    · refine a_l0 rfl rfl rfl ?_
      refine a_l4 rfl rfl rfl ?_
      refine a_eV1 rfl lX12_273 mo_X12_isReady (sp_X12_isReady sh12.n hd12 sh12.l) rfl rfl rfl ⟨12, _, rfl, rfl, rfl⟩ rfl ?_
      refine a_if_eq rfl (fun c38 => ?_) (fun c38 => ?_)
      · refine a_i4 rfl rfl rfl ?_
        refine a_goto rfl ?_
        exact ih12 _ _ _ _ c18 ⟨_, _, _, rfl, rfl, fh12⟩ ⟨rfl, rfl, rfl, rfl, nS _, trivial⟩
      · refine a_l0 rfl rfl rfl ?_
        refine a_l4 rfl rfl rfl ?_
        refine a_l1 rfl rfl rfl ?_
        refine a_gV rfl lX12_367 mo_X12_hasTool (r_X12_hasTool sh12 lh12 gh12 hd12 hi1) rfl rfl rfl ⟨12, _, rfl, rfl, rfl⟩ rfl (fun v' h' hv => ?_)
        obtain ⟨⟨v1, rfl⟩, rfl⟩ := hv
        refine a_if_ne rfl (fun c48 => ?_) (fun c48 => ?_)
        · refine a_l2 rfl rfl rfl ?_
          refine a_l0 rfl rfl rfl ?_
          refine a_l4 rfl rfl rfl ?_
          refine a_s rfl rfl ?_
          refine a_eV1 rfl lX12_63 mo_X12_of (sp_X12_of (d := j12) (k := 1) (Nat.lt_of_lt_of_le hd12 sh12.n) (by decide)) rfl rfl rfl ⟨12, _, rfl, rfl, rfl⟩ rfl ?_
          refine a_min rfl lX12_295 mj_min rfl rfl ?_
          refine a_s5 rfl rfl rfl rfl rfl rfl ?_
          refine a_l5 rfl rfl rfl ?_
          refine a_if_le rfl (fun c69 => ?_) (fun c69 => ?_)
          · refine a_l2 rfl rfl rfl ?_
            refine a_l5 rfl rfl rfl ?_
            refine a_s rfl rfl ?_
            refine a_s2 rfl rfl rfl rfl rfl rfl ?_
            refine a_l0 rfl rfl rfl ?_
            refine a_getq rfl gfX12_13_12 rfl (rfl) ?_
            refine a_l4 rfl rfl rfl ?_
            refine a_s rfl rfl ?_
            refine a_eS1 rfl lX12_60 mo_X12_at (sp_X12_at (d := j12) (k := 1)) rfl rfl rfl rfl ?_
            refine a_s rfl rfl ?_
            refine a_iald rfl (n := 2033) rfl (inI_nI (by have := hs.n; have := hs.p; omega) (by have := hs.n; have := hs.p; omega)) ?_
            refine a_l5 rfl rfl rfl ?_
            refine a_s rfl rfl ?_
            refine a_iastv (k := (23 + 6 * j12 + 1)) rfl (n := 2033) rfl (inI_nI (by have := hs.n; have := hs.p; omega) (by have := hs.n; have := hs.p; omega)) (nI_clamp (by have := hs.n; have := hs.p; omega)) ?_
            refine a_ren (P := Dd I) (Dd.up (fh12) (dayC_at1 _ (Nat.lt_of_lt_of_le hd12 hs.n)) (by omega)) (fun I2 f3 => ?_)
            have s3 := Dd.so hs f3; have l3 := Dd.lw hw f3; have g3 := Dd.lg lg f3
            refine a_l0 rfl rfl rfl ?_
            refine a_l4 rfl rfl rfl ?_
            refine a_s rfl rfl ?_
            refine a_eV1 rfl lX12_63 mo_X12_of (sp_X12_of (d := j12) (k := 1) (Nat.lt_of_lt_of_le hd12 s3.n) (by decide)) rfl rfl rfl ⟨12, _, rfl, rfl, rfl⟩ rfl ?_
            refine a_if_le rfl (fun c124 => ?_) (fun c124 => ?_)
            · refine a_l0 rfl rfl rfl ?_
              refine a_l4 rfl rfl rfl ?_
              refine a_gV rfl lX12_360 mo_X12_finishes (r_X12_finishes s3 l3 g3 hd12) rfl rfl rfl ⟨12, _, rfl, rfl, rfl⟩ rfl (fun v' h' hv => ?_)
              obtain ⟨rfl, I5, rfl, f6⟩ := hv
              replace f6 := Dd.tr (f3) f6
              have s6 := Dd.so hs f6; have l6 := Dd.lw hw f6; have g6 := Dd.lg lg f6
              refine a_i3 rfl rfl rfl ?_
              refine a_i4 rfl rfl rfl ?_
              refine a_goto rfl ?_
              exact ih12 _ _ _ _ c18 ⟨_, _, _, rfl, rfl, f6⟩ ⟨rfl, rfl, rfl, rfl, nS _, trivial⟩
            · refine a_goto rfl ?_
              refine a_i4 rfl rfl rfl ?_
              refine a_goto rfl ?_
              exact ih12 _ _ _ _ c18 ⟨_, _, _, rfl, rfl, f3⟩ ⟨rfl, rfl, rfl, rfl, nS _, trivial⟩
          · refine a_l0 rfl rfl rfl ?_
            refine a_l4 rfl rfl rfl ?_
            refine a_s rfl rfl ?_
            refine a_eV1 rfl lX12_63 mo_X12_of (sp_X12_of (d := j12) (k := 3) (Nat.lt_of_lt_of_le hd12 sh12.n) (by decide)) rfl rfl rfl ⟨12, _, rfl, rfl, rfl⟩ rfl ?_
            refine a_s rfl rfl ?_
            refine a_ic_eq rfl (fun c80 => ?_) (fun c80 => ?_)
            · refine a_l2 rfl rfl rfl ?_
              refine a_l5 rfl rfl rfl ?_
              refine a_s rfl rfl ?_
              refine a_s2 rfl rfl rfl rfl rfl rfl ?_
              refine a_l0 rfl rfl rfl ?_
              refine a_getq rfl gfX12_13_12 rfl (rfl) ?_
              refine a_l4 rfl rfl rfl ?_
              refine a_s rfl rfl ?_
              refine a_eS1 rfl lX12_60 mo_X12_at (sp_X12_at (d := j12) (k := 1)) rfl rfl rfl rfl ?_
              refine a_s rfl rfl ?_
              refine a_iald rfl (n := 2033) rfl (inI_nI (by have := hs.n; have := hs.p; omega) (by have := hs.n; have := hs.p; omega)) ?_
              refine a_l5 rfl rfl rfl ?_
              refine a_s rfl rfl ?_
              refine a_iastv (k := (23 + 6 * j12 + 1)) rfl (n := 2033) rfl (inI_nI (by have := hs.n; have := hs.p; omega) (by have := hs.n; have := hs.p; omega)) (nI_clamp (by have := hs.n; have := hs.p; omega)) ?_
              refine a_ren (P := Dd I) (Dd.up (fh12) (dayC_at1 _ (Nat.lt_of_lt_of_le hd12 hs.n)) (by omega)) (fun I7 f8 => ?_)
              have s8 := Dd.so hs f8; have l8 := Dd.lw hw f8; have g8 := Dd.lg lg f8
              refine a_l0 rfl rfl rfl ?_
              refine a_l4 rfl rfl rfl ?_
              refine a_s rfl rfl ?_
              refine a_eV1 rfl lX12_63 mo_X12_of (sp_X12_of (d := j12) (k := 1) (Nat.lt_of_lt_of_le hd12 s8.n) (by decide)) rfl rfl rfl ⟨12, _, rfl, rfl, rfl⟩ rfl ?_
              refine a_if_le rfl (fun c124 => ?_) (fun c124 => ?_)
              · refine a_l0 rfl rfl rfl ?_
                refine a_l4 rfl rfl rfl ?_
                refine a_gV rfl lX12_360 mo_X12_finishes (r_X12_finishes s8 l8 g8 hd12) rfl rfl rfl ⟨12, _, rfl, rfl, rfl⟩ rfl (fun v' h' hv => ?_)
                obtain ⟨rfl, I10, rfl, f11⟩ := hv
                replace f11 := Dd.tr (f8) f11
                have s11 := Dd.so hs f11; have l11 := Dd.lw hw f11; have g11 := Dd.lg lg f11
                refine a_i3 rfl rfl rfl ?_
                refine a_i4 rfl rfl rfl ?_
                refine a_goto rfl ?_
                exact ih12 _ _ _ _ c18 ⟨_, _, _, rfl, rfl, f11⟩ ⟨rfl, rfl, rfl, rfl, nS _, trivial⟩
              · refine a_goto rfl ?_
                refine a_i4 rfl rfl rfl ?_
                refine a_goto rfl ?_
                exact ih12 _ _ _ _ c18 ⟨_, _, _, rfl, rfl, f8⟩ ⟨rfl, rfl, rfl, rfl, nS _, trivial⟩
            · refine a_l0 rfl rfl rfl ?_
              refine a_getq rfl gfX12_42_12 rfl (rfl) ?_
              refine a_l0 rfl rfl rfl ?_
              refine a_l4 rfl rfl rfl ?_
              refine a_s rfl rfl ?_
              refine a_eV1 rfl lX12_63 mo_X12_of (sp_X12_of (d := j12) (k := 3) (Nat.lt_of_lt_of_le hd12 sh12.n) (by decide)) rfl rfl rfl ⟨12, _, rfl, rfl, rfl⟩ rfl ?_
              refine a_l1 rfl rfl rfl ?_
              refine a_iastv (k := _) rfl (n := 6) rfl (inTool (sh12.t _ hd12) c80) (rfl) ?_
              refine a_ren (P := Dd I) (Dd.fm (fh12) (Fm.up (Fm.rf (s := sU)) rfl)) (fun I12 f13 => ?_)
              have s13 := Dd.so hs f13; have l13 := Dd.lw hw f13; have g13 := Dd.lg lg f13
              refine a_l2 rfl rfl rfl ?_
              refine a_l5 rfl rfl rfl ?_
              refine a_s rfl rfl ?_
              refine a_s2 rfl rfl rfl rfl rfl rfl ?_
              refine a_l0 rfl rfl rfl ?_
              refine a_getq rfl gfX12_13_12 rfl (rfl) ?_
              refine a_l4 rfl rfl rfl ?_
              refine a_s rfl rfl ?_
              refine a_eS1 rfl lX12_60 mo_X12_at (sp_X12_at (d := j12) (k := 1)) rfl rfl rfl rfl ?_
              refine a_s rfl rfl ?_
              refine a_iald rfl (n := 2033) rfl (inI_nI (by have := hs.n; have := hs.p; omega) (by have := hs.n; have := hs.p; omega)) ?_
              refine a_l5 rfl rfl rfl ?_
              refine a_s rfl rfl ?_
              refine a_iastv (k := (23 + 6 * j12 + 1)) rfl (n := 2033) rfl (inI_nI (by have := hs.n; have := hs.p; omega) (by have := hs.n; have := hs.p; omega)) (nI_clamp (by have := hs.n; have := hs.p; omega)) ?_
              refine a_ren (P := Dd I) (Dd.up (f13) (dayC_at1 _ (Nat.lt_of_lt_of_le hd12 hs.n)) (by omega)) (fun I14 f15 => ?_)
              have s15 := Dd.so hs f15; have l15 := Dd.lw hw f15; have g15 := Dd.lg lg f15
              refine a_l0 rfl rfl rfl ?_
              refine a_l4 rfl rfl rfl ?_
              refine a_s rfl rfl ?_
              refine a_eV1 rfl lX12_63 mo_X12_of (sp_X12_of (d := j12) (k := 1) (Nat.lt_of_lt_of_le hd12 s15.n) (by decide)) rfl rfl rfl ⟨12, _, rfl, rfl, rfl⟩ rfl ?_
              refine a_if_le rfl (fun c124 => ?_) (fun c124 => ?_)
              · refine a_l0 rfl rfl rfl ?_
                refine a_l4 rfl rfl rfl ?_
                refine a_gV rfl lX12_360 mo_X12_finishes (r_X12_finishes s15 l15 g15 hd12) rfl rfl rfl ⟨12, _, rfl, rfl, rfl⟩ rfl (fun v' h' hv => ?_)
                obtain ⟨rfl, I17, rfl, f18⟩ := hv
                replace f18 := Dd.tr (f15) f18
                have s18 := Dd.so hs f18; have l18 := Dd.lw hw f18; have g18 := Dd.lg lg f18
                refine a_i3 rfl rfl rfl ?_
                refine a_i4 rfl rfl rfl ?_
                refine a_goto rfl ?_
                exact ih12 _ _ _ _ c18 ⟨_, _, _, rfl, rfl, f18⟩ ⟨rfl, rfl, rfl, rfl, nS _, trivial⟩
              · refine a_goto rfl ?_
                refine a_i4 rfl rfl rfl ?_
                refine a_goto rfl ?_
                exact ih12 _ _ _ _ c18 ⟨_, _, _, rfl, rfl, f15⟩ ⟨rfl, rfl, rfl, rfl, nS _, trivial⟩
        · refine a_goto rfl ?_
          refine a_i4 rfl rfl rfl ?_
          refine a_goto rfl ?_
          exact ih12 _ _ _ _ c18 ⟨_, _, _, rfl, rfl, fh12⟩ ⟨rfl, rfl, rfl, rfl, nS _, trivial⟩
theorem r_X12_goesBy {S : aS} {I : Nat → Nat → Int32} {L : Nat → Nat → Int64} {w1 w2 t : Nat} {nd np : Nat} (hs : SO nd np (I 421)) (hw : LwW (I 421)) (lg : LgW (I 421)) : Sp S m_X12_goesBy 21 0 0 [.ref 420] (hp I L w1 w2 t) (QR (Dd I) isV L w1 w2 t) nX := by
  refine Sp_of ok_X12_goesBy rfl rfl ?_
  show AW S m_X12_goesBy 21 _ _ 0 0 0 [some (.ref 420), none, none] [] (hp I L w1 w2 t)
  refine a_s rfl rfl ?_
  refine a_s1 rfl rfl rfl rfl rfl rfl ?_
  refine a_cnt (j0 := 0) (fun j ls h => ∃ I', ls = [some (.ref 420), some (.int (nI j)), none] ∧ h = hp I' L w1 w2 t ∧ Dd I I') (by decide) ⟨_, rfl, rfl, Dd.rf⟩ ⟨rfl, rfl, trivial⟩ ?_
  rintro j2 _ _ hj2 ⟨Ih2, rfl, rfl, fh2⟩ ih2
  have sh2 := Dd.so hs fh2; have lh2 := Dd.lw hw fh2; have gh2 := Dd.lg lg fh2
  refine a_l1 rfl rfl rfl ?_
  refine a_l0 rfl rfl rfl ?_
  refine a_eV1 rfl lX12_74 mo_X12_duties (sp_X12_duties) rfl rfl rfl ⟨12, _, rfl, rfl, rfl⟩ rfl ?_
  refine a_top (y := nI nd) sh2.du ?_
  refine a_ic_ge rfl (fun c7 => ?_) (fun c7 => ?_)
  · exact a_vret rfl rfl ⟨rfl, _, rfl, fh2⟩
  · have hd2 : j2 < nd := nI_lt_of c7 hj2 (by have := hs.n; omega)
    refine a_s rfl rfl ?_
    refine a_s2 rfl rfl rfl rfl rfl rfl ?_
    refine a_cnt (j0 := 0) (fun j ls h => ∃ I', ls = [some (.ref 420), some (.int (nI j2)), some (.int (nI j))] ∧ h = hp I' L w1 w2 t ∧ Dd I I') (by decide) ⟨_, rfl, rfl, fh2⟩ ⟨rfl, rfl, rfl, trivial⟩ ?_
    rintro j12 _ _ hj12 ⟨Ih12, rfl, rfl, fh12⟩ ih12
    have sh12 := Dd.so hs fh12; have lh12 := Dd.lw hw fh12; have gh12 := Dd.lg lg fh12
    refine a_l2 rfl rfl rfl ?_
    refine a_l0 rfl rfl rfl ?_
    refine a_eV1 rfl lX12_74 mo_X12_duties (sp_X12_duties) rfl rfl rfl ⟨12, _, rfl, rfl, rfl⟩ rfl ?_
    refine a_top (y := nI nd) sh12.du ?_
    refine a_ic_ge rfl (fun c17 => ?_) (fun c17 => ?_)
    · refine a_i1 rfl rfl rfl ?_
      refine a_goto rfl ?_
      exact ih2 _ _ _ _ c7 ⟨_, rfl, rfl, fh12⟩ ⟨rfl, nS _, trivial⟩
    · have hd12 : j12 < nd := nI_lt_of c17 hj12 (by have := hs.n; omega)
      refine a_l0 rfl rfl rfl ?_
      refine a_l2 rfl rfl rfl ?_
      refine a_eV1 rfl lX12_283 mo_X12_placeOf (sp_X12_placeOf sh12.n sh12.du hd12) rfl rfl rfl ⟨12, _, rfl, rfl, rfl⟩ rfl ?_
      refine a_l1 rfl rfl rfl ?_
      refine a_ic_ne rfl (fun c26 => ?_) (fun c26 => ?_)
      · refine a_i2 rfl rfl rfl ?_
        refine a_goto rfl ?_
        exact ih12 _ _ _ _ c17 ⟨_, rfl, rfl, fh12⟩ ⟨rfl, rfl, nS _, trivial⟩
      · refine a_l0 rfl rfl rfl ?_
        refine a_l2 rfl rfl rfl ?_
        refine a_l1 rfl rfl rfl ?_
        refine a_gV rfl lX12_370 mo_X12_tells (r_X12_tells sh12 lh12 gh12 hd12) rfl rfl rfl ⟨12, _, rfl, rfl, rfl⟩ rfl (fun v' h' hv => ?_)
        obtain ⟨rfl, I2, rfl, f3⟩ := hv
        replace f3 := Dd.tr (fh12) f3
        have s3 := Dd.so hs f3; have l3 := Dd.lw hw f3; have g3 := Dd.lg lg f3
        refine a_i2 rfl rfl rfl ?_
        refine a_goto rfl ?_
        exact ih12 _ _ _ _ c17 ⟨_, rfl, rfl, f3⟩ ⟨rfl, rfl, nS _, trivial⟩
theorem r_X12_oneDay {S : aS} {I : Nat → Nat → Int32} {L : Nat → Nat → Int64} {w1 w2 t : Nat} {b1 : Bool} {nd np : Nat} (hs : SO nd np (I 421)) (hw : LwW (I 421)) (lg : LgW (I 421)) : Sp S m_X12_oneDay 22 0 0 [.ref 420, .int (bI b1)] (hp I L w1 w2 t) (QR (Dd I) isI L w1 w2 t) nX := by
  refine Sp_of ok_X12_oneDay rfl rfl ?_
  show AW S m_X12_oneDay 22 _ _ 0 0 0 [some (.ref 420), some (.int (bI b1)), none, none] [] (hp I L w1 w2 t)
  refine a_s rfl rfl ?_
  refine a_s2 rfl rfl rfl rfl rfl rfl ?_
  refine a_s rfl rfl ?_
  refine a_s3 rfl rfl rfl rfl rfl rfl ?_
  refine a_cnt (j0 := 0) (fun j ls h => ∃ I', ls = [some (.ref 420), some (.int (bI b1)), some (.int 0), some (.int (nI j))] ∧ h = hp I' L w1 w2 t ∧ Dd I I') (by decide) ⟨_, rfl, rfl, Dd.rf⟩ ⟨rfl, rfl, rfl, rfl, trivial⟩ ?_
  rintro j4 _ _ hj4 ⟨Ih4, rfl, rfl, fh4⟩ ih4
  have sh4 := Dd.so hs fh4; have lh4 := Dd.lw hw fh4; have gh4 := Dd.lg lg fh4
  refine a_l3 rfl rfl rfl ?_
  refine a_s rfl rfl ?_
  refine a_ic_ge rfl (fun c7 => ?_) (fun c7 => ?_)
  · refine a_s rfl rfl ?_
    refine a_s3 rfl rfl rfl rfl rfl rfl ?_
    refine a_cnt (j0 := 0) (fun j ls h => ∃ a0, ∃ I', ls = [some (.ref 420), some (.int (bI b1)), some (.int a0), some (.int (nI j))] ∧ h = hp I' L w1 w2 t ∧ Dd I I') (by decide) ⟨_, _, rfl, rfl, fh4⟩ ⟨rfl, rfl, rfl, rfl, trivial⟩ ?_
    rintro j25 _ _ hj25 ⟨a0_25, Ih25, rfl, rfl, fh25⟩ ih25
    have sh25 := Dd.so hs fh25; have lh25 := Dd.lw hw fh25; have gh25 := Dd.lg lg fh25
    refine a_l3 rfl rfl rfl ?_
    refine a_l0 rfl rfl rfl ?_
    refine a_eV1 rfl lX12_66 mo_X12_people (sp_X12_people) rfl rfl rfl ⟨12, _, rfl, rfl, rfl⟩ rfl ?_
    refine a_top (y := nI np) sh25.pu ?_
    refine a_ic_ge rfl (fun c30 => ?_) (fun c30 => ?_)
    · refine a_l0 rfl rfl rfl ?_
      refine a_getq rfl gfX12_13_12 rfl (rfl) ?_
      refine a_s rfl rfl ?_
      refine a_s rfl rfl ?_
      refine a_iald rfl (n := 2033) rfl (⟨by decide, by decide⟩) ?_
      refine a_s rfl rfl ?_
      refine a_s rfl rfl ?_
      refine a_iastv (k := 4) rfl (n := 2033) rfl (⟨by decide, by decide⟩) (rfl) ?_
      refine a_ren (P := Dd I) (Dd.up (fh25) rfl (by decide)) (fun I1 f2 => ?_)
      have s2 := Dd.so hs f2; have l2 := Dd.lw hw f2; have g2 := Dd.lg lg f2
      refine a_l0 rfl rfl rfl ?_
      refine a_getq rfl gfX12_13_12 rfl (rfl) ?_
      refine a_s rfl rfl ?_
      refine a_iald rfl (n := 2033) rfl (⟨by decide, by decide⟩) ?_
      refine a_s rfl rfl ?_
      refine a_ic_le rfl (fun c89 => ?_) (fun c89 => ?_)
      · refine a_l0 rfl rfl rfl ?_
        refine a_getq rfl gfX12_13_12 rfl (rfl) ?_
        refine a_s rfl rfl ?_
        refine a_iald rfl (n := 2033) rfl (⟨by decide, by decide⟩) ?_
        refine a_s rfl rfl ?_
        refine a_ic_ne rfl (fun c147 => ?_) (fun c147 => ?_)
        · refine a_l2 rfl rfl rfl ?_
          exact a_iret rfl rfl ⟨⟨_, rfl⟩, _, rfl, f2⟩
        · refine a_l0 rfl rfl rfl ?_
          refine a_gV rfl lX12_382 mo_X12_goesBy (r_X12_goesBy s2 l2 g2) rfl rfl rfl ⟨12, _, rfl, rfl, rfl⟩ rfl (fun v' h' hv => ?_)
          obtain ⟨rfl, I4, rfl, f5⟩ := hv
          replace f5 := Dd.tr (f2) f5
          have s5 := Dd.so hs f5; have l5 := Dd.lw hw f5; have g5 := Dd.lg lg f5
          refine a_l2 rfl rfl rfl ?_
          exact a_iret rfl rfl ⟨⟨_, rfl⟩, _, rfl, f5⟩
      · refine a_l0 rfl rfl rfl ?_
        refine a_getq rfl gfX12_13_12 rfl (rfl) ?_
        refine a_s rfl rfl ?_
        refine a_s rfl rfl ?_
        refine a_iastv (k := 4) rfl (n := 2033) rfl (⟨by decide, by decide⟩) (rfl) ?_
        refine a_ren (P := Dd I) (Dd.up (f2) rfl (by decide)) (fun I6 f7 => ?_)
        have s7 := Dd.so hs f7; have l7 := Dd.lw hw f7; have g7 := Dd.lg lg f7
        refine a_l0 rfl rfl rfl ?_
        refine a_getq rfl gfX12_13_12 rfl (rfl) ?_
        refine a_s rfl rfl ?_
        refine a_s rfl rfl ?_
        refine a_l0 rfl rfl rfl ?_
        refine a_getq rfl gfX12_13_12 rfl (rfl) ?_
        refine a_s rfl rfl ?_
        refine a_iald rfl (n := 2033) rfl (⟨by decide, by decide⟩) ?_
        refine a_s rfl rfl ?_
        refine a_s rfl rfl ?_
        refine a_min rfl lX12_295 mj_min rfl rfl ?_
        refine a_iastv (k := 5) rfl (n := 2033) rfl (⟨by decide, by decide⟩) (rfl) ?_
        refine a_ren (P := Dd I) (Dd.up (f7) rfl (by decide)) (fun I8 f9 => ?_)
        have s9 := Dd.so hs f9; have l9 := Dd.lw hw f9; have g9 := Dd.lg lg f9
        refine a_s rfl rfl ?_
        refine a_s3 rfl rfl rfl rfl rfl rfl ?_
        refine a_cnt (j0 := 0) (fun j ls h => ∃ I', ls = [some (.ref 420), some (.int (bI b1)), some (.int a0_25), some (.int (nI j))] ∧ h = hp I' L w1 w2 t ∧ Dd I I') (by decide) ⟨_, rfl, rfl, f9⟩ ⟨rfl, rfl, rfl, rfl, trivial⟩ ?_
        rintro j121 _ _ hj121 ⟨Ih121, rfl, rfl, fh121⟩ ih121
        have sh121 := Dd.so hs fh121; have lh121 := Dd.lw hw fh121; have gh121 := Dd.lg lg fh121
        refine a_l3 rfl rfl rfl ?_
        refine a_l0 rfl rfl rfl ?_
        refine a_eV1 rfl lX12_74 mo_X12_duties (sp_X12_duties) rfl rfl rfl ⟨12, _, rfl, rfl, rfl⟩ rfl ?_
        refine a_top (y := nI nd) sh121.du ?_
        refine a_ic_ge rfl (fun c126 => ?_) (fun c126 => ?_)
        · refine a_l0 rfl rfl rfl ?_
          refine a_getq rfl gfX12_13_12 rfl (rfl) ?_
          refine a_s rfl rfl ?_
          refine a_iald rfl (n := 2033) rfl (⟨by decide, by decide⟩) ?_
          refine a_s rfl rfl ?_
          refine a_ic_ne rfl (fun c147 => ?_) (fun c147 => ?_)
          · refine a_l2 rfl rfl rfl ?_
            exact a_iret rfl rfl ⟨⟨_, rfl⟩, _, rfl, fh121⟩
          · refine a_l0 rfl rfl rfl ?_
            refine a_gV rfl lX12_382 mo_X12_goesBy (r_X12_goesBy sh121 lh121 gh121) rfl rfl rfl ⟨12, _, rfl, rfl, rfl⟩ rfl (fun v' h' hv => ?_)
            obtain ⟨rfl, I11, rfl, f12⟩ := hv
            replace f12 := Dd.tr (fh121) f12
            have s12 := Dd.so hs f12; have l12 := Dd.lw hw f12; have g12 := Dd.lg lg f12
            refine a_l2 rfl rfl rfl ?_
            exact a_iret rfl rfl ⟨⟨_, rfl⟩, _, rfl, f12⟩
        · have hd121 : j121 < nd := nI_lt_of c126 hj121 (by have := hs.n; omega)
          refine a_l0 rfl rfl rfl ?_
          refine a_l3 rfl rfl rfl ?_
          refine a_gV rfl lX12_379 mo_X12_growsOlder (r_X12_growsOlder sh121 lh121 gh121 hd121) rfl rfl rfl ⟨12, _, rfl, rfl, rfl⟩ rfl (fun v' h' hv => ?_)
          obtain ⟨rfl, I14, rfl, f15⟩ := hv
          replace f15 := Dd.tr (fh121) f15
          have s15 := Dd.so hs f15; have l15 := Dd.lw hw f15; have g15 := Dd.lg lg f15
          refine a_i3 rfl rfl rfl ?_
          refine a_goto rfl ?_
          exact ih121 _ _ _ _ c126 ⟨_, rfl, rfl, f15⟩ ⟨rfl, rfl, rfl, nS _, trivial⟩
    · have hd25 : j25 < np := nI_lt_of c30 hj25 (by have := hs.p; omega)
      refine a_l2 rfl rfl rfl ?_
      refine a_l1 rfl rfl rfl ?_
      refine a_if_ne rfl (fun c35 => ?_) (fun c35 => ?_)
      · refine a_l0 rfl rfl rfl ?_
        refine a_l3 rfl rfl rfl ?_
        refine a_gV rfl lX12_376 mo_X12_works (r_X12_works sh25 lh25 gh25 hd25) rfl rfl rfl ⟨12, _, rfl, rfl, rfl⟩ rfl (fun v' h' hv => ?_)
        obtain ⟨⟨v16, rfl⟩, I17, rfl, f18⟩ := hv
        replace f18 := Dd.tr (fh25) f18
        have s18 := Dd.so hs f18; have l18 := Dd.lw hw f18; have g18 := Dd.lg lg f18
        refine a_s rfl rfl ?_
        refine a_s2 rfl rfl rfl rfl rfl rfl ?_
        refine a_i3 rfl rfl rfl ?_
        refine a_goto rfl ?_
        exact ih25 _ _ _ _ c30 ⟨_, _, rfl, rfl, f18⟩ ⟨rfl, rfl, rfl, nS _, trivial⟩
      · refine a_l0 rfl rfl rfl ?_
        refine a_s rfl rfl ?_
        refine a_gV rfl lX12_373 mo_X12_drawn (r_X12_drawn sh25 lh25 gh25) rfl rfl rfl ⟨12, _, rfl, rfl, rfl⟩ rfl (fun v' h' hv => ?_)
        obtain ⟨⟨v19, rfl⟩, I20, rfl, f21⟩ := hv
        replace f21 := Dd.tr (fh25) f21
        have s21 := Dd.so hs f21; have l21 := Dd.lw hw f21; have g21 := Dd.lg lg f21
        refine a_l0 rfl rfl rfl ?_
        refine a_getq rfl gfX12_13_12 rfl (rfl) ?_
        refine a_s rfl rfl ?_
        refine a_iald rfl (n := 2033) rfl (⟨by decide, by decide⟩) ?_
        refine a_ic_ge rfl (fun c51 => ?_) (fun c51 => ?_)
        · refine a_l0 rfl rfl rfl ?_
          refine a_l3 rfl rfl rfl ?_
          refine a_gV rfl lX12_376 mo_X12_works (r_X12_works s21 l21 g21 hd25) rfl rfl rfl ⟨12, _, rfl, rfl, rfl⟩ rfl (fun v' h' hv => ?_)
          obtain ⟨⟨v22, rfl⟩, I23, rfl, f24⟩ := hv
          replace f24 := Dd.tr (f21) f24
          have s24 := Dd.so hs f24; have l24 := Dd.lw hw f24; have g24 := Dd.lg lg f24
          refine a_s rfl rfl ?_
          refine a_s2 rfl rfl rfl rfl rfl rfl ?_
          refine a_i3 rfl rfl rfl ?_
          refine a_goto rfl ?_
          exact ih25 _ _ _ _ c30 ⟨_, _, rfl, rfl, f24⟩ ⟨rfl, rfl, rfl, nS _, trivial⟩
        · refine a_s rfl rfl ?_
          refine a_goto rfl ?_
          refine a_s rfl rfl ?_
          refine a_s2 rfl rfl rfl rfl rfl rfl ?_
          refine a_i3 rfl rfl rfl ?_
          refine a_goto rfl ?_
          exact ih25 _ _ _ _ c30 ⟨_, _, rfl, rfl, f21⟩ ⟨rfl, rfl, rfl, nS _, trivial⟩
  · have hd4 : j4 < 6 := nI_lt_of (b := 6) c7 hj4 (by decide)
    refine a_l0 rfl rfl rfl ?_
    refine a_getq rfl gfX12_42_12 rfl (rfl) ?_
    refine a_l3 rfl rfl rfl ?_
    refine a_s rfl rfl ?_
    refine a_iastv (k := j4) rfl (n := 6) rfl (inI_nI (by have := hs.n; have := hs.p; omega) (by have := hs.n; have := hs.p; omega)) (nI_clamp (by have := hs.n; have := hs.p; omega)) ?_
    refine a_ren (P := Dd I) (Dd.fm (fh4) (Fm.up (Fm.rf (s := sU)) rfl)) (fun I25 f26 => ?_)
    have s26 := Dd.so hs f26; have l26 := Dd.lw hw f26; have g26 := Dd.lg lg f26
    refine a_i3 rfl rfl rfl ?_
    refine a_goto rfl ?_
    exact ih4 _ _ _ _ c7 ⟨_, rfl, rfl, f26⟩ ⟨rfl, rfl, rfl, nS _, trivial⟩
theorem r_X12_goesOn {S : aS} {I : Nat → Nat → Int32} {L : Nat → Nat → Int64} {w1 w2 t : Nat} {x1 : Int32} {b2 : Bool} {nd np : Nat} (hs : SO nd np (I 421)) (hw : LwW (I 421)) (lg : LgW (I 421)) : Sp S m_X12_goesOn 23 0 0 [.ref 420, .int x1, .int (bI b2)] (hp I L w1 w2 t) (QR (Dd I) isI L w1 w2 t) nX := by
  refine Sp_of ok_X12_goesOn rfl rfl ?_
  show AW S m_X12_goesOn 23 _ _ 0 0 0 [some (.ref 420), some (.int x1), some (.int (bI b2)), none, none] [] (hp I L w1 w2 t)
  refine a_s rfl rfl ?_
  refine a_s3 rfl rfl rfl rfl rfl rfl ?_
  refine a_s rfl rfl ?_
  refine a_s4 rfl rfl rfl rfl rfl rfl ?_
  refine a_cnt (j0 := 0) (fun j ls h => ∃ a0, ∃ I', ls = [some (.ref 420), some (.int x1), some (.int (bI b2)), some (.int a0), some (.int (nI j))] ∧ h = hp I' L w1 w2 t ∧ Dd I I') (by decide) ⟨_, _, rfl, rfl, Dd.rf⟩ ⟨rfl, rfl, rfl, rfl, rfl, trivial⟩ ?_
  rintro j5 _ _ hj5 ⟨a0_5, Ih5, rfl, rfl, fh5⟩ ih5
  have sh5 := Dd.so hs fh5; have lh5 := Dd.lw hw fh5; have gh5 := Dd.lg lg fh5
  refine a_l4 rfl rfl rfl ?_
  refine a_l1 rfl rfl rfl ?_
  refine a_ic_ge rfl (fun c8 => ?_) (fun c8 => ?_)
  · refine a_l3 rfl rfl rfl ?_
    exact a_iret rfl rfl ⟨⟨_, rfl⟩, _, rfl, fh5⟩
  · refine a_l3 rfl rfl rfl ?_
    refine a_l0 rfl rfl rfl ?_
    refine a_l2 rfl rfl rfl ?_
    refine a_gV rfl lX12_385 mo_X12_oneDay (r_X12_oneDay sh5 lh5 gh5) rfl rfl rfl ⟨12, _, rfl, rfl, rfl⟩ rfl (fun v' h' hv => ?_)
    obtain ⟨⟨v1, rfl⟩, I2, rfl, f3⟩ := hv
    replace f3 := Dd.tr (fh5) f3
    have s3 := Dd.so hs f3; have l3 := Dd.lw hw f3; have g3 := Dd.lg lg f3
    refine a_s rfl rfl ?_
    refine a_s3 rfl rfl rfl rfl rfl rfl ?_
    refine a_i4 rfl rfl rfl ?_
    refine a_goto rfl ?_
    exact ih5 _ _ _ _ c8 ⟨_, _, rfl, rfl, f3⟩ ⟨rfl, rfl, rfl, rfl, nS _, trivial⟩
theorem r_X12_allDuties {S : aS} {I : Nat → Nat → Int32} {L : Nat → Nat → Int64} {w1 w2 t : Nat} {nd np : Nat} (hs : SO nd np (I 421)) (hw : LwW (I 421)) (lg : LgW (I 421)) : Sp S m_X12_allDuties 13 0 0 [.ref 420] (hp I L w1 w2 t) (QE isI (hp I L w1 w2 t)) nX := by
  refine Sp_of ok_X12_allDuties rfl rfl ?_
  show AW S m_X12_allDuties 13 _ _ 0 0 0 [some (.ref 420)] [] (hp I L w1 w2 t)
  refine a_s rfl rfl ?_
  refine a_l0 rfl rfl rfl ?_
  refine a_eV1 rfl lX12_74 mo_X12_duties (sp_X12_duties) rfl rfl rfl ⟨12, _, rfl, rfl, rfl⟩ rfl ?_
  refine a_top (y := nI nd) hs.du ?_
  refine a_s rfl rfl ?_
  refine a_s rfl rfl ?_
  refine a_s rfl rfl ?_
  exact a_iret rfl rfl ⟨⟨_, rfl⟩, rfl⟩
theorem r_X12_overIn {S : aS} {I0 I : Nat → Nat → Int32} {L : Nat → Nat → Int64} {w1 w2 t : Nat} {nd np : Nat} (hs : SO nd np (I0 421)) (hw : LwW (I0 421)) (lg : LgW (I0 421)) (hk : Kp nd np I0 I) {x1 : Int32} {b2 : Bool} : Sp S m_X12_overIn 23 0 0 [.ref 420, .int x1, .int (bI b2)] (hp I L w1 w2 t) (QR (Fm sV I0) isI L w1 w2 t) nX := by
  have sK := Kp.so hk
  have lK := Kp.lw hk
  have gK := Kp.lg hk
  refine Sp_of ok_X12_overIn rfl rfl ?_
  show AW S m_X12_overIn 23 _ _ 0 0 0 [some (.ref 420), some (.int x1), some (.int (bI b2)), none, none, none] [] (hp I L w1 w2 t)
  refine a_ldcw rfl kX12_401 ?_
  refine a_s3 rfl rfl rfl rfl rfl rfl ?_
  refine a_s rfl rfl ?_
  refine a_s4 rfl rfl rfl rfl rfl rfl ?_
  refine a_cnt (j0 := 0) (fun j ls h => ∃ a0, ∃ I', ls = [some (.ref 420), some (.int x1), some (.int (bI b2)), some (.int a0), some (.int (nI j)), none] ∧ h = hp I' L w1 w2 t ∧ Kp nd np I0 I') (by decide) ⟨_, _, rfl, rfl, hk⟩ ⟨rfl, rfl, rfl, rfl, rfl, trivial⟩ ?_
  rintro j7 _ _ hj7 ⟨a0_7, Ih7, rfl, rfl, fh7⟩ ih7
  have sh7 := Kp.so fh7; have lh7 := Kp.lw fh7; have gh7 := Kp.lg fh7
  refine a_l4 rfl rfl rfl ?_
  refine a_s rfl rfl ?_
  refine a_ic_gt rfl (fun c11 => ?_) (fun c11 => ?_)
  · refine a_l0 rfl rfl rfl ?_
    refine a_eV0 rfl lX12_398 mo_X12_bringsBack (sp_X12_bringsBack) rfl rfl rfl ⟨12, _, rfl, rfl, rfl⟩ rfl ?_
    refine a_ren (P := Fm sV I0) (Kp.bk (fh7)) (fun I1 f2 => ?_)
    have s2 := SO.fm hs f2; have l2 := LwW.fm hw f2; have g2 := LgW.fm lg f2
    refine a_l3 rfl rfl rfl ?_
    exact a_iret rfl rfl ⟨⟨_, rfl⟩, _, rfl, f2⟩
  · refine a_l3 rfl rfl rfl ?_
    refine a_ldcw rfl kX12_401 ?_
    refine a_ic_ne rfl (fun c18 => ?_) (fun c18 => ?_)
    · refine a_l0 rfl rfl rfl ?_
      refine a_eV0 rfl lX12_398 mo_X12_bringsBack (sp_X12_bringsBack) rfl rfl rfl ⟨12, _, rfl, rfl, rfl⟩ rfl ?_
      refine a_ren (P := Fm sV I0) (Kp.bk (fh7)) (fun I3 f4 => ?_)
      have s4 := SO.fm hs f4; have l4 := LwW.fm hw f4; have g4 := LgW.fm lg f4
      refine a_l3 rfl rfl rfl ?_
      exact a_iret rfl rfl ⟨⟨_, rfl⟩, _, rfl, f4⟩
    · refine a_l2 rfl rfl rfl ?_
      refine a_if_eq rfl (fun c22 => ?_) (fun c22 => ?_)
      · refine a_l1 rfl rfl rfl ?_
        refine a_l0 rfl rfl rfl ?_
        refine a_s rfl rfl ?_
        refine a_eV1 rfl lX12_324 mo_X12_ofState (sp_X12_ofState sh7.n sh7.du) rfl rfl rfl ⟨12, _, rfl, rfl, rfl⟩ rfl ?_
        refine a_topE (bs_nI12 sh7.n) (fun mc5 hmc5 => ?_)
        refine a_s rfl rfl ?_
        refine a_s5 rfl rfl rfl rfl rfl rfl ?_
        refine a_l5 rfl rfl rfl ?_
        refine a_if_ne rfl (fun c48 => ?_) (fun c48 => ?_)
        · refine a_ldcw rfl kX12_401 ?_
          refine a_s3 rfl rfl rfl rfl rfl rfl ?_
          refine a_l0 rfl rfl rfl ?_
          refine a_s rfl rfl ?_
          refine a_gV rfl lX12_385 mo_X12_oneDay (r_X12_oneDay sh7 lh7 gh7 (b1 := true)) rfl rfl rfl ⟨12, _, rfl, rfl, rfl⟩ rfl (fun v' h' hv => ?_)
          obtain ⟨⟨v6, rfl⟩, I7, rfl, f8⟩ := hv
          replace f8 := Kp.dd (fh7) f8
          have s8 := Kp.so f8; have l8 := Kp.lw f8; have g8 := Kp.lg f8
          refine a_s rfl rfl ?_
          refine a_i4 rfl rfl rfl ?_
          refine a_goto rfl ?_
          exact ih7 _ _ _ _ (nI_gt1 (a := 90) (by decide) hj7 c11) ⟨_, _, rfl, rfl, f8⟩ ⟨rfl, rfl, rfl, rfl, nS _, trivial⟩
        · refine a_l4 rfl rfl rfl ?_
          refine a_goto rfl ?_
          refine a_s3 rfl rfl rfl rfl rfl rfl ?_
          refine a_l0 rfl rfl rfl ?_
          refine a_s rfl rfl ?_
          refine a_gV rfl lX12_385 mo_X12_oneDay (r_X12_oneDay sh7 lh7 gh7 (b1 := true)) rfl rfl rfl ⟨12, _, rfl, rfl, rfl⟩ rfl (fun v' h' hv => ?_)
          obtain ⟨⟨v9, rfl⟩, I10, rfl, f11⟩ := hv
          replace f11 := Kp.dd (fh7) f11
          have s11 := Kp.so f11; have l11 := Kp.lw f11; have g11 := Kp.lg f11
          refine a_s rfl rfl ?_
          refine a_i4 rfl rfl rfl ?_
          refine a_goto rfl ?_
          exact ih7 _ _ _ _ (nI_gt1 (a := 90) (by decide) hj7 c11) ⟨_, _, rfl, rfl, f11⟩ ⟨rfl, rfl, rfl, rfl, nS _, trivial⟩
      · refine a_l1 rfl rfl rfl ?_
        refine a_l0 rfl rfl rfl ?_
        refine a_s rfl rfl ?_
        refine a_eV1 rfl lX12_324 mo_X12_ofState (sp_X12_ofState sh7.n sh7.du) rfl rfl rfl ⟨12, _, rfl, rfl, rfl⟩ rfl ?_
        refine a_topE (bs_nI12 sh7.n) (fun mc12 hmc12 => ?_)
        refine a_s rfl rfl ?_
        refine a_s rfl rfl ?_
        refine a_s rfl rfl ?_
        refine a_goto rfl ?_
        refine a_s5 rfl rfl rfl rfl rfl rfl ?_
        refine a_l5 rfl rfl rfl ?_
        refine a_if_ne rfl (fun c48 => ?_) (fun c48 => ?_)
        · refine a_ldcw rfl kX12_401 ?_
          refine a_s3 rfl rfl rfl rfl rfl rfl ?_
          refine a_l0 rfl rfl rfl ?_
          refine a_s rfl rfl ?_
          refine a_gV rfl lX12_385 mo_X12_oneDay (r_X12_oneDay sh7 lh7 gh7 (b1 := true)) rfl rfl rfl ⟨12, _, rfl, rfl, rfl⟩ rfl (fun v' h' hv => ?_)
          obtain ⟨⟨v13, rfl⟩, I14, rfl, f15⟩ := hv
          replace f15 := Kp.dd (fh7) f15
          have s15 := Kp.so f15; have l15 := Kp.lw f15; have g15 := Kp.lg f15
          refine a_s rfl rfl ?_
          refine a_i4 rfl rfl rfl ?_
          refine a_goto rfl ?_
          exact ih7 _ _ _ _ (nI_gt1 (a := 90) (by decide) hj7 c11) ⟨_, _, rfl, rfl, f15⟩ ⟨rfl, rfl, rfl, rfl, nS _, trivial⟩
        · refine a_l4 rfl rfl rfl ?_
          refine a_goto rfl ?_
          refine a_s3 rfl rfl rfl rfl rfl rfl ?_
          refine a_l0 rfl rfl rfl ?_
          refine a_s rfl rfl ?_
          refine a_gV rfl lX12_385 mo_X12_oneDay (r_X12_oneDay sh7 lh7 gh7 (b1 := true)) rfl rfl rfl ⟨12, _, rfl, rfl, rfl⟩ rfl (fun v' h' hv => ?_)
          obtain ⟨⟨v16, rfl⟩, I17, rfl, f18⟩ := hv
          replace f18 := Kp.dd (fh7) f18
          have s18 := Kp.so f18; have l18 := Kp.lw f18; have g18 := Kp.lg f18
          refine a_s rfl rfl ?_
          refine a_i4 rfl rfl rfl ?_
          refine a_goto rfl ?_
          exact ih7 _ _ _ _ (nI_gt1 (a := 90) (by decide) hj7 c11) ⟨_, _, rfl, rfl, f18⟩ ⟨rfl, rfl, rfl, rfl, nS _, trivial⟩
theorem r_X12_overWith {S : aS} {I : Nat → Nat → Int32} {L : Nat → Nat → Int64} {w1 w2 t : Nat} {x2 : Int32} {nd np : Nat} (hs : SO nd np (I 421)) (hw : LwW (I 421)) (lg : LgW (I 421)) {i1 : Nat} (hi1 : i1 < np) : Sp S m_X12_overWith 24 0 0 [.ref 420, .int (nI i1), .int x2] (hp I L w1 w2 t) (QR (Fm sV I) isI L w1 w2 t) nX := by
  refine Sp_of ok_X12_overWith rfl rfl ?_
  show AW S m_X12_overWith 24 _ _ 0 0 0 [some (.ref 420), some (.int (nI i1)), some (.int x2)] [] (hp I L w1 w2 t)
  refine a_l0 rfl rfl rfl ?_
  refine a_eV0 rfl lX12_395 mo_X12_keepsAll (sp_X12_keepsAll) rfl rfl rfl ⟨12, _, rfl, rfl, rfl⟩ rfl ?_
  refine a_ren (P := Kp nd np I) (Kp.mk (Fm.rf) hs hw lg) (fun I1 f2 => ?_)
  have s2 := Kp.so f2; have l2 := Kp.lw f2; have g2 := Kp.lg f2
  refine a_l0 rfl rfl rfl ?_
  refine a_getq rfl gfX12_13_12 rfl (rfl) ?_
  refine a_l1 rfl rfl rfl ?_
  refine a_s rfl rfl ?_
  refine a_eS1 rfl lX12_56 mo_X12_personAt (sp_X12_personAt (d := i1) (k := 1)) rfl rfl rfl rfl ?_
  refine a_l2 rfl rfl rfl ?_
  refine a_iastv (k := (11 + 2 * i1 + 1)) rfl (n := 2033) rfl (inI_nI (by have := hs.n; have := hs.p; omega) (by have := hs.n; have := hs.p; omega)) (nI_clamp (by have := hs.n; have := hs.p; omega)) ?_
  refine a_ren (P := Kp nd np I) (Kp.fr (f2) hi1) (fun I3 f4 => ?_)
  have s4 := Kp.so f4; have l4 := Kp.lw f4; have g4 := Kp.lg f4
  refine a_l0 rfl rfl rfl ?_
  refine a_l0 rfl rfl rfl ?_
  refine a_gV rfl lX12_402 mo_X12_allDuties (r_X12_allDuties s4 l4 g4) rfl rfl rfl ⟨12, _, rfl, rfl, rfl⟩ rfl (fun v' h' hv => ?_)
  obtain ⟨⟨v5, rfl⟩, rfl⟩ := hv
  refine a_s rfl rfl ?_
  refine a_gV rfl lX12_405 mo_X12_overIn (r_X12_overIn (I0 := I) hs hw lg f4 (b2 := false)) rfl rfl rfl ⟨12, _, rfl, rfl, rfl⟩ rfl (fun v' h' hv => ?_)
  obtain ⟨⟨v8, rfl⟩, I6, rfl, f7⟩ := hv
  have s7 := SO.fm hs f7; have l7 := LwW.fm hw f7; have g7 := LgW.fm lg f7
  exact a_iret rfl rfl ⟨⟨_, rfl⟩, _, rfl, f7⟩
theorem r_X12_allOver {S : aS} {I : Nat → Nat → Int32} {L : Nat → Nat → Int64} {w1 w2 t : Nat} {nd np : Nat} (hs : SO nd np (I 421)) (hw : LwW (I 421)) (lg : LgW (I 421)) : Sp S m_X12_allOver 24 0 0 [.ref 420] (hp I L w1 w2 t) (QR (Fm sV I) isI L w1 w2 t) nX := by
  refine Sp_of ok_X12_allOver rfl rfl ?_
  show AW S m_X12_allOver 24 _ _ 0 0 0 [some (.ref 420)] [] (hp I L w1 w2 t)
  refine a_l0 rfl rfl rfl ?_
  refine a_eV0 rfl lX12_395 mo_X12_keepsAll (sp_X12_keepsAll) rfl rfl rfl ⟨12, _, rfl, rfl, rfl⟩ rfl ?_
  refine a_ren (P := Kp nd np I) (Kp.mk (Fm.rf) hs hw lg) (fun I1 f2 => ?_)
  have s2 := Kp.so f2; have l2 := Kp.lw f2; have g2 := Kp.lg f2
  refine a_l0 rfl rfl rfl ?_
  refine a_l0 rfl rfl rfl ?_
  refine a_gV rfl lX12_402 mo_X12_allDuties (r_X12_allDuties s2 l2 g2) rfl rfl rfl ⟨12, _, rfl, rfl, rfl⟩ rfl (fun v' h' hv => ?_)
  obtain ⟨⟨v3, rfl⟩, rfl⟩ := hv
  refine a_s rfl rfl ?_
  refine a_gV rfl lX12_405 mo_X12_overIn (r_X12_overIn (I0 := I) hs hw lg f2 (b2 := false)) rfl rfl rfl ⟨12, _, rfl, rfl, rfl⟩ rfl (fun v' h' hv => ?_)
  obtain ⟨⟨v6, rfl⟩, I4, rfl, f5⟩ := hv
  have s5 := SO.fm hs f5; have l5 := LwW.fm hw f5; have g5 := LgW.fm lg f5
  exact a_iret rfl rfl ⟨⟨_, rfl⟩, _, rfl, f5⟩
theorem r_X12_ringOnes {S : aS} {I : Nat → Nat → Int32} {L : Nat → Nat → Int64} {w1 w2 t : Nat} {nd np : Nat} (hs : SO nd np (I 421)) (hw : LwW (I 421)) (lg : LgW (I 421)) : Sp S m_X12_ringOnes 15 0 0 [.ref 420] (hp I L w1 w2 t) (QE isI (hp I L w1 w2 t)) nX := by
  refine Sp_of ok_X12_ringOnes rfl rfl ?_
  show AW S m_X12_ringOnes 15 _ _ 0 0 0 [some (.ref 420), none, none] [] (hp I L w1 w2 t)
  refine a_s rfl rfl ?_
  refine a_s1 rfl rfl rfl rfl rfl rfl ?_
  refine a_s rfl rfl ?_
  refine a_s2 rfl rfl rfl rfl rfl rfl ?_
  refine a_cnt (j0 := 0) (fun j ls h => ∃ a0, ls = [some (.ref 420), some (.int a0), some (.int (nI j))] ∧ h = hp I L w1 w2 t) (by decide) ⟨_, rfl, rfl⟩ ⟨rfl, rfl, rfl, trivial⟩ ?_
  rintro j4 _ _ hj4 ⟨a0_4, rfl, rfl⟩ ih4
  refine a_l2 rfl rfl rfl ?_
  refine a_l0 rfl rfl rfl ?_
  refine a_eV1 rfl lX12_74 mo_X12_duties (sp_X12_duties) rfl rfl rfl ⟨12, _, rfl, rfl, rfl⟩ rfl ?_
  refine a_top (y := nI nd) hs.du ?_
  refine a_ic_ge rfl (fun c9 => ?_) (fun c9 => ?_)
  · refine a_l1 rfl rfl rfl ?_
    exact a_iret rfl rfl ⟨⟨_, rfl⟩, rfl⟩
  · have hd4 : j4 < nd := nI_lt_of c9 hj4 (by have := hs.n; omega)
    refine a_l1 rfl rfl rfl ?_
    refine a_l0 rfl rfl rfl ?_
    refine a_l2 rfl rfl rfl ?_
    refine a_gV rfl lX12_417 mo_X12_beforeOf (r_X12_beforeOf hs hw lg hd4) rfl rfl rfl ⟨12, _, rfl, rfl, rfl⟩ rfl (fun v' h' hv => ?_)
    obtain ⟨⟨v1, rfl⟩, rfl⟩ := hv
    refine a_l2 rfl rfl rfl ?_
    refine a_gS rfl lX12_304 mo_X12_has (r_X12_has) rfl rfl rfl rfl (fun v' h' hv => ?_)
    obtain ⟨⟨v2, rfl⟩, rfl⟩ := hv
    refine a_if_eq rfl (fun c22 => ?_) (fun c22 => ?_)
    · refine a_s rfl rfl ?_
      refine a_s rfl rfl ?_
      refine a_s1 rfl rfl rfl rfl rfl rfl ?_
      refine a_i2 rfl rfl rfl ?_
      refine a_goto rfl ?_
      exact ih4 _ _ _ _ c9 ⟨_, rfl, rfl⟩ ⟨rfl, rfl, nS _, trivial⟩
    · refine a_s rfl rfl ?_
      refine a_l2 rfl rfl rfl ?_
      refine a_s rfl rfl ?_
      refine a_goto rfl ?_
      refine a_s rfl rfl ?_
      refine a_s1 rfl rfl rfl rfl rfl rfl ?_
      refine a_i2 rfl rfl rfl ?_
      refine a_goto rfl ?_
      exact ih4 _ _ _ _ c9 ⟨_, rfl, rfl⟩ ⟨rfl, rfl, nS _, trivial⟩
theorem r_X12_soonOf {S : aS} {I : Nat → Nat → Int32} {L : Nat → Nat → Int64} {w1 w2 t : Nat} {nd np : Nat} (hs : SO nd np (I 421)) (hw : LwW (I 421)) (lg : LgW (I 421)) {i1 : Nat} (hi1 : i1 < nd) : Sp S m_X12_soonOf 16 0 0 [.ref 420, .int (nI i1)] (hp I L w1 w2 t) (QE isI (hp I L w1 w2 t)) nX := by
  refine Sp_of ok_X12_soonOf rfl rfl ?_
  show AW S m_X12_soonOf 16 _ _ 0 0 0 [some (.ref 420), some (.int (nI i1)), none] [] (hp I L w1 w2 t)
  refine a_l0 rfl rfl rfl ?_
  refine a_l1 rfl rfl rfl ?_
  refine a_eV1 rfl lX12_135 mo_X12_isWaiting (sp_X12_isWaiting (d := i1) (Nat.lt_of_lt_of_le hi1 hs.n)) rfl rfl rfl ⟨12, _, rfl, rfl, rfl⟩ rfl ?_
  refine a_if_ne rfl (fun c5 => ?_) (fun c5 => ?_)
  · refine a_l0 rfl rfl rfl ?_
    refine a_l1 rfl rfl rfl ?_
    refine a_gV rfl lX12_423 mo_X12_chainOf (r_X12_chainOf hs hw lg hi1) rfl rfl rfl ⟨12, _, rfl, rfl, rfl⟩ rfl (fun v' h' hv => ?_)
    obtain ⟨⟨v1, rfl⟩, rfl⟩ := hv
    refine a_s2 rfl rfl rfl rfl rfl rfl ?_
    refine a_l2 rfl rfl rfl ?_
    refine a_s rfl rfl ?_
    refine a_ic_ne rfl (fun c18 => ?_) (fun c18 => ?_)
    · refine a_l0 rfl rfl rfl ?_
      refine a_l2 rfl rfl rfl ?_
      refine a_eV1 rfl lX12_330 mo_X12_hoursOf (sp_X12_hoursOf hs.n hs.du) rfl rfl rfl ⟨12, _, rfl, rfl, rfl⟩ rfl ?_
      exact a_iret rfl rfl ⟨⟨_, rfl⟩, rfl⟩
    · refine a_s rfl rfl ?_
      refine a_goto rfl ?_
      exact a_iret rfl rfl ⟨⟨_, rfl⟩, rfl⟩
  · refine a_s rfl rfl ?_
    exact a_iret rfl rfl ⟨⟨_, rfl⟩, rfl⟩
theorem r_X12_fault {S : aS} {I : Nat → Nat → Int32} {L : Nat → Nat → Int64} {w1 w2 t : Nat} {nd np : Nat} (hs : SO nd np (I 421)) (hw : LwW (I 421)) (lg : LgW (I 421)) : Sp S m_X12_fault 12 0 0 [.ref 420] (hp I L w1 w2 t) (QR (Fm sU I) isI L w1 w2 t) nX := by
  refine Sp_of ok_X12_fault rfl rfl ?_
  show AW S m_X12_fault 12 _ _ 0 0 0 [some (.ref 420)] [] (hp I L w1 w2 t)
  refine a_l0 rfl rfl rfl ?_
  refine a_s rfl rfl ?_
  refine a_puti rfl pfX12_3_12 rfl ?_
  refine a_ren (P := Fm sU I) (Fm.up (Fm.rf (s := sU)) rfl) (fun I1 f2 => ?_)
  have s2 := SO.fm hs (Fm.mo f2 sU_sV); have l2 := LwW.fm hw (Fm.mo f2 sU_sV); have g2 := LgW.fm lg (Fm.mo f2 sU_sV)
  refine a_l0 rfl rfl rfl ?_
  refine a_geti rfl gfX12_33_12 rfl ?_
  exact a_iret rfl rfl ⟨⟨_, rfl⟩, _, rfl, f2⟩
theorem r_X12_parade {S : aS} {I : Nat → Nat → Int32} {L : Nat → Nat → Int64} {w1 w2 t : Nat} {x1 : Int32} {nd np : Nat} (hs : SO nd np (I 421)) (hw : LwW (I 421)) (lg : LgW (I 421)) : Sp S m_X12_parade 16 0 0 [.ref 420, .int x1] (hp I L w1 w2 t) (QR (Fm sU I) isI L w1 w2 t) nX := by
  refine Sp_of ok_X12_parade rfl rfl ?_
  show AW S m_X12_parade 16 _ _ 0 0 0 [some (.ref 420), some (.int x1), none] [] (hp I L w1 w2 t)
  refine a_l0 rfl rfl rfl ?_
  refine a_s rfl rfl ?_
  refine a_puti rfl pfX12_3_12 rfl ?_
  refine a_ren (P := Fm sU I) (Fm.up (Fm.rf (s := sU)) rfl) (fun I1 f2 => ?_)
  have s2 := SO.fm hs (Fm.mo f2 sU_sV); have l2 := LwW.fm hw (Fm.mo f2 sU_sV); have g2 := LgW.fm lg (Fm.mo f2 sU_sV)
  refine a_s rfl rfl ?_
  refine a_s2 rfl rfl rfl rfl rfl rfl ?_
  refine a_cnt (j0 := 0) (fun j ls h => ∃ I', ls = [some (.ref 420), some (.int x1), some (.int (nI j))] ∧ h = hp I' L w1 w2 t ∧ Fm sU I I') (by decide) ⟨_, rfl, rfl, f2⟩ ⟨rfl, rfl, rfl, trivial⟩ ?_
  rintro j7 _ _ hj7 ⟨Ih7, rfl, rfl, fh7⟩ ih7
  have sh7 := SO.fm hs (Fm.mo fh7 sU_sV); have lh7 := LwW.fm hw (Fm.mo fh7 sU_sV); have gh7 := LgW.fm lg (Fm.mo fh7 sU_sV)
  refine a_l2 rfl rfl rfl ?_
  refine a_l0 rfl rfl rfl ?_
  refine a_eV1 rfl lX12_74 mo_X12_duties (sp_X12_duties) rfl rfl rfl ⟨12, _, rfl, rfl, rfl⟩ rfl ?_
  refine a_top (y := nI nd) sh7.du ?_
  refine a_ic_ge rfl (fun c12 => ?_) (fun c12 => ?_)
  · refine a_s rfl rfl ?_
    exact a_iret rfl rfl ⟨⟨_, rfl⟩, _, rfl, fh7⟩
  · have hd7 : j7 < nd := nI_lt_of c12 hj7 (by have := hs.n; omega)
    refine a_l1 rfl rfl rfl ?_
    refine a_if_lt rfl (fun c16 => ?_) (fun c16 => ?_)
    · refine a_i2 rfl rfl rfl ?_
      refine a_goto rfl ?_
      exact ih7 _ _ _ _ c12 ⟨_, rfl, rfl, fh7⟩ ⟨rfl, rfl, nS _, trivial⟩
    · refine a_l0 rfl rfl rfl ?_
      refine a_l2 rfl rfl rfl ?_
      refine a_eV1 rfl lX12_283 mo_X12_placeOf (sp_X12_placeOf sh7.n sh7.du hd7) rfl rfl rfl ⟨12, _, rfl, rfl, rfl⟩ rfl ?_
      refine a_l1 rfl rfl rfl ?_
      refine a_ic_ne rfl (fun c25 => ?_) (fun c25 => ?_)
      · refine a_i2 rfl rfl rfl ?_
        refine a_goto rfl ?_
        exact ih7 _ _ _ _ c12 ⟨_, rfl, rfl, fh7⟩ ⟨rfl, rfl, nS _, trivial⟩
      · refine a_l2 rfl rfl rfl ?_
        exact a_iret rfl rfl ⟨⟨_, rfl⟩, _, rfl, fh7⟩
theorem r_X12_can {S : aS} {I : Nat → Nat → Int32} {L : Nat → Nat → Int64} {w1 w2 t : Nat} {nd np : Nat} (hs : SO nd np (I 421)) (hw : LwW (I 421)) (lg : LgW (I 421)) : Sp S m_X12_can 19 0 0 [.ref 420] (hp I L w1 w2 t) (QR (Fm sU I) isI L w1 w2 t) nX := by
  refine Sp_of ok_X12_can rfl rfl ?_
  show AW S m_X12_can 19 _ _ 0 0 0 [some (.ref 420)] [] (hp I L w1 w2 t)
  refine a_l0 rfl rfl rfl ?_
  refine a_s rfl rfl ?_
  refine a_puti rfl pfX12_3_12 rfl ?_
  refine a_ren (P := Fm sU I) (Fm.up (Fm.rf (s := sU)) rfl) (fun I1 f2 => ?_)
  have s2 := SO.fm hs (Fm.mo f2 sU_sV); have l2 := LwW.fm hw (Fm.mo f2 sU_sV); have g2 := LgW.fm lg (Fm.mo f2 sU_sV)
  refine a_l0 rfl rfl rfl ?_
  refine a_eV1 rfl lX12_286 mo_X12_canOnes (sp_X12_canOnes s2.n s2.du s2.l) rfl rfl rfl ⟨12, _, rfl, rfl, rfl⟩ rfl ?_
  refine a_topE (bs_nI12 s2.n) (fun mc3 hmc3 => ?_)
  exact a_iret rfl rfl ⟨⟨_, rfl⟩, _, rfl, f2⟩
theorem r_X12_greets {S : aS} {I : Nat → Nat → Int32} {L : Nat → Nat → Int64} {w1 w2 t : Nat} {x1 x2 : Int32} {nd np : Nat} (hs : SO nd np (I 421)) (hw : LwW (I 421)) (lg : LgW (I 421)) : Sp S m_X12_greets 16 0 0 [.ref 420, .int x1, .int x2] (hp I L w1 w2 t) (QR (Fm sU I) isI L w1 w2 t) nX := by
  refine Sp_of ok_X12_greets rfl rfl ?_
  show AW S m_X12_greets 16 _ _ 0 0 0 [some (.ref 420), some (.int x1), some (.int x2)] [] (hp I L w1 w2 t)
  refine a_l0 rfl rfl rfl ?_
  refine a_s rfl rfl ?_
  refine a_puti rfl pfX12_3_12 rfl ?_
  refine a_ren (P := Fm sU I) (Fm.up (Fm.rf (s := sU)) rfl) (fun I1 f2 => ?_)
  have s2 := SO.fm hs (Fm.mo f2 sU_sV); have l2 := LwW.fm hw (Fm.mo f2 sU_sV); have g2 := LgW.fm lg (Fm.mo f2 sU_sV)
  refine a_l0 rfl rfl rfl ?_
  refine a_l0 rfl rfl rfl ?_
  refine a_l1 rfl rfl rfl ?_
  refine a_eV1 rfl lX12_289 mo_X12_noDuty (r_X12_noDuty s2) rfl rfl rfl ⟨12, _, rfl, rfl, rfl⟩ rfl ?_
  refine a_if_ne rfl (fun c11 => ?_) (fun c11 => ?_)
  · refine a_s rfl rfl ?_
    refine a_goto rfl ?_
    refine a_s rfl rfl ?_
    refine a_gV rfl lX12_243 mo_X12_throwsIf (r_X12_throwsIf (b := true)) rfl rfl rfl ⟨12, _, rfl, rfl, rfl⟩ rfl (fun v' h' hv => ?_)
    obtain ⟨rfl, I3, rfl, f4⟩ := hv
    replace f4 : Fm sU I I3 := Fm.tr (f2) (f4)
    have s4 := SO.fm hs (Fm.mo f4 sU_sV); have l4 := LwW.fm hw (Fm.mo f4 sU_sV); have g4 := LgW.fm lg (Fm.mo f4 sU_sV)
    refine a_if_eq rfl (fun c => absurd c (by decide)) (fun _ => ?_)
    refine a_s rfl rfl ?_
    exact a_iret rfl rfl ⟨⟨_, rfl⟩, _, rfl, f4⟩
  · obtain ⟨i5, hi5, rfl⟩ := isIx (n := nd) (by have := hs.n; have := hs.p; omega) c11
    refine a_l2 rfl rfl rfl ?_
    refine a_eS1 rfl lX12_292 mo_X12_noKerb (sp_X12_noKerb) rfl rfl rfl rfl ?_
    refine a_if_eq rfl (fun c18 => ?_) (fun c18 => ?_)
    · refine a_s rfl rfl ?_
      refine a_s rfl rfl ?_
      refine a_gV rfl lX12_243 mo_X12_throwsIf (r_X12_throwsIf (b := false)) rfl rfl rfl ⟨12, _, rfl, rfl, rfl⟩ rfl (fun v' h' hv => ?_)
      obtain ⟨rfl, I6, rfl, f7⟩ := hv
      replace f7 : Fm sU I I6 := Fm.tr (f2) (f7)
      have s7 := SO.fm hs (Fm.mo f7 sU_sV); have l7 := LwW.fm hw (Fm.mo f7 sU_sV); have g7 := LgW.fm lg (Fm.mo f7 sU_sV)
      refine a_if_eq rfl (fun _ => ?_) (fun c => absurd (by decide) c)
      refine a_l0 rfl rfl rfl ?_
      refine a_l1 rfl rfl rfl ?_
      refine a_eV1 rfl lX12_135 mo_X12_isWaiting (sp_X12_isWaiting (d := i5) (Nat.lt_of_lt_of_le hi5 s7.n)) rfl rfl rfl ⟨12, _, rfl, rfl, rfl⟩ rfl ?_
      refine a_if_eq rfl (fun c40 => ?_) (fun c40 => ?_)
      · refine a_s rfl rfl ?_
        exact a_iret rfl rfl ⟨⟨_, rfl⟩, _, rfl, f7⟩
      · refine a_l0 rfl rfl rfl ?_
        refine a_getq rfl gfX12_13_12 rfl (rfl) ?_
        refine a_s rfl rfl ?_
        refine a_iald rfl (n := 2033) rfl (⟨by decide, by decide⟩) ?_
        refine a_l0 rfl rfl rfl ?_
        refine a_l1 rfl rfl rfl ?_
        refine a_eV1 rfl lX12_283 mo_X12_placeOf (sp_X12_placeOf s7.n s7.du hi5) rfl rfl rfl ⟨12, _, rfl, rfl, rfl⟩ rfl ?_
        refine a_l2 rfl rfl rfl ?_
        refine a_s rfl rfl ?_
        refine a_s rfl rfl ?_
        refine a_goto rfl ?_
        exact a_iret rfl rfl ⟨⟨_, rfl⟩, _, rfl, f7⟩
    · refine a_s rfl rfl ?_
      refine a_goto rfl ?_
      refine a_s rfl rfl ?_
      refine a_gV rfl lX12_243 mo_X12_throwsIf (r_X12_throwsIf (b := true)) rfl rfl rfl ⟨12, _, rfl, rfl, rfl⟩ rfl (fun v' h' hv => ?_)
      obtain ⟨rfl, I8, rfl, f9⟩ := hv
      replace f9 : Fm sU I I8 := Fm.tr (f2) (f9)
      have s9 := SO.fm hs (Fm.mo f9 sU_sV); have l9 := LwW.fm hw (Fm.mo f9 sU_sV); have g9 := LgW.fm lg (Fm.mo f9 sU_sV)
      refine a_if_eq rfl (fun c => absurd c (by decide)) (fun _ => ?_)
      refine a_s rfl rfl ?_
      exact a_iret rfl rfl ⟨⟨_, rfl⟩, _, rfl, f9⟩
theorem r_X12_where {S : aS} {I : Nat → Nat → Int32} {L : Nat → Nat → Int64} {w1 w2 t : Nat} {x1 x2 : Int32} {nd np : Nat} (hs : SO nd np (I 421)) (hw : LwW (I 421)) (lg : LgW (I 421)) : Sp S m_X12_where 17 0 0 [.ref 420, .int x1, .int x2] (hp I L w1 w2 t) (QR (Fm sU I) isI L w1 w2 t) nX := by
  refine Sp_of ok_X12_where rfl rfl ?_
  show AW S m_X12_where 17 _ _ 0 0 0 [some (.ref 420), some (.int x1), some (.int x2)] [] (hp I L w1 w2 t)
  refine a_l0 rfl rfl rfl ?_
  refine a_s rfl rfl ?_
  refine a_puti rfl pfX12_3_12 rfl ?_
  refine a_ren (P := Fm sU I) (Fm.up (Fm.rf (s := sU)) rfl) (fun I1 f2 => ?_)
  have s2 := SO.fm hs (Fm.mo f2 sU_sV); have l2 := LwW.fm hw (Fm.mo f2 sU_sV); have g2 := LgW.fm lg (Fm.mo f2 sU_sV)
  refine a_l0 rfl rfl rfl ?_
  refine a_l0 rfl rfl rfl ?_
  refine a_l1 rfl rfl rfl ?_
  refine a_eV1 rfl lX12_289 mo_X12_noDuty (r_X12_noDuty s2) rfl rfl rfl ⟨12, _, rfl, rfl, rfl⟩ rfl ?_
  refine a_s rfl rfl ?_
  refine a_gV rfl lX12_243 mo_X12_throwsIf (r_X12_throwsIf) rfl rfl rfl ⟨12, _, rfl, rfl, rfl⟩ rfl (fun v' h' hv => ?_)
  obtain ⟨rfl, I3, rfl, f4⟩ := hv
  replace f4 : Fm sU I I3 := Fm.tr (f2) (f4)
  have s4 := SO.fm hs (Fm.mo f4 sU_sV); have l4 := LwW.fm hw (Fm.mo f4 sU_sV); have g4 := LgW.fm lg (Fm.mo f4 sU_sV)
  refine a_if_ne rfl (fun c15 => ?_) (fun c15 => ?_)
  · refine a_s rfl rfl ?_
    refine a_goto rfl ?_
    exact a_iret rfl rfl ⟨⟨_, rfl⟩, _, rfl, f4⟩
  · obtain ⟨i5, hi5, rfl⟩ := isIx (n := nd) (by have := hs.n; have := hs.p; omega) c15
    refine a_l0 rfl rfl rfl ?_
    refine a_l2 rfl rfl rfl ?_
    refine a_eS1 rfl lX12_298 mo_X12_noHour (sp_X12_noHour) rfl rfl rfl rfl ?_
    refine a_s rfl rfl ?_
    refine a_gV rfl lX12_243 mo_X12_throwsIf (r_X12_throwsIf) rfl rfl rfl ⟨12, _, rfl, rfl, rfl⟩ rfl (fun v' h' hv => ?_)
    obtain ⟨rfl, I6, rfl, f7⟩ := hv
    replace f7 : Fm sU I I6 := Fm.tr (f4) (f7)
    have s7 := SO.fm hs (Fm.mo f7 sU_sV); have l7 := LwW.fm hw (Fm.mo f7 sU_sV); have g7 := LgW.fm lg (Fm.mo f7 sU_sV)
    refine a_if_eq rfl (fun c27 => ?_) (fun c27 => ?_)
    · refine a_l0 rfl rfl rfl ?_
      refine a_l1 rfl rfl rfl ?_
      refine a_l2 rfl rfl rfl ?_
      refine a_eV1 rfl lX12_301 mo_X12_whereAt (sp_X12_whereAt s7.n s7.du hi5 s7.h7) rfl rfl rfl ⟨12, _, rfl, rfl, rfl⟩ rfl ?_
      exact a_iret rfl rfl ⟨⟨_, rfl⟩, _, rfl, f7⟩
    · refine a_s rfl rfl ?_
      refine a_goto rfl ?_
      exact a_iret rfl rfl ⟨⟨_, rfl⟩, _, rfl, f7⟩
theorem r_X12_crowd {S : aS} {I : Nat → Nat → Int32} {L : Nat → Nat → Int64} {w1 w2 t : Nat} {x1 x2 x3 : Int32} {nd np : Nat} (hs : SO nd np (I 421)) (hw : LwW (I 421)) (lg : LgW (I 421)) : Sp S m_X12_crowd 17 0 0 [.ref 420, .int x1, .int x2, .int x3] (hp I L w1 w2 t) (QR (Fm sU I) isI L w1 w2 t) nX := by
  refine Sp_of ok_X12_crowd rfl rfl ?_
  show AW S m_X12_crowd 17 _ _ 0 0 0 [some (.ref 420), some (.int x1), some (.int x2), some (.int x3), none, none] [] (hp I L w1 w2 t)
  refine a_l0 rfl rfl rfl ?_
  refine a_s rfl rfl ?_
  refine a_puti rfl pfX12_3_12 rfl ?_
  refine a_ren (P := Fm sU I) (Fm.up (Fm.rf (s := sU)) rfl) (fun I1 f2 => ?_)
  have s2 := SO.fm hs (Fm.mo f2 sU_sV); have l2 := LwW.fm hw (Fm.mo f2 sU_sV); have g2 := LgW.fm lg (Fm.mo f2 sU_sV)
  refine a_l0 rfl rfl rfl ?_
  refine a_l1 rfl rfl rfl ?_
  refine a_eS1 rfl lX12_292 mo_X12_noKerb (sp_X12_noKerb) rfl rfl rfl rfl ?_
  refine a_if_ne rfl (fun c10 => ?_) (fun c10 => ?_)
  · refine a_s rfl rfl ?_
    refine a_goto rfl ?_
    refine a_s rfl rfl ?_
    refine a_gV rfl lX12_243 mo_X12_throwsIf (r_X12_throwsIf (b := true)) rfl rfl rfl ⟨12, _, rfl, rfl, rfl⟩ rfl (fun v' h' hv => ?_)
    obtain ⟨rfl, I3, rfl, f4⟩ := hv
    replace f4 : Fm sU I I3 := Fm.tr (f2) (f4)
    have s4 := SO.fm hs (Fm.mo f4 sU_sV); have l4 := LwW.fm hw (Fm.mo f4 sU_sV); have g4 := LgW.fm lg (Fm.mo f4 sU_sV)
    refine a_if_ne rfl (fun _ => ?_) (fun c => absurd c (by decide))
    refine a_s rfl rfl ?_
    exact a_iret rfl rfl ⟨⟨_, rfl⟩, _, rfl, f4⟩
  · refine a_l2 rfl rfl rfl ?_
    refine a_eS1 rfl lX12_292 mo_X12_noKerb (sp_X12_noKerb) rfl rfl rfl rfl ?_
    refine a_if_eq rfl (fun c17 => ?_) (fun c17 => ?_)
    · refine a_s rfl rfl ?_
      refine a_s rfl rfl ?_
      refine a_gV rfl lX12_243 mo_X12_throwsIf (r_X12_throwsIf (b := false)) rfl rfl rfl ⟨12, _, rfl, rfl, rfl⟩ rfl (fun v' h' hv => ?_)
      obtain ⟨rfl, I5, rfl, f6⟩ := hv
      replace f6 : Fm sU I I5 := Fm.tr (f2) (f6)
      have s6 := SO.fm hs (Fm.mo f6 sU_sV); have l6 := LwW.fm hw (Fm.mo f6 sU_sV); have g6 := LgW.fm lg (Fm.mo f6 sU_sV)
      refine a_if_ne rfl (fun c => absurd (by decide) c) (fun _ => ?_)
      refine a_l0 rfl rfl rfl ?_
      refine a_l3 rfl rfl rfl ?_
      refine a_eS1 rfl lX12_298 mo_X12_noHour (sp_X12_noHour) rfl rfl rfl rfl ?_
      refine a_if_ne rfl (fun c37 => ?_) (fun c37 => ?_)
      · refine a_s rfl rfl ?_
        refine a_goto rfl ?_
        refine a_s rfl rfl ?_
        refine a_gV rfl lX12_243 mo_X12_throwsIf (r_X12_throwsIf (b := true)) rfl rfl rfl ⟨12, _, rfl, rfl, rfl⟩ rfl (fun v' h' hv => ?_)
        obtain ⟨rfl, I7, rfl, f8⟩ := hv
        replace f8 : Fm sU I I7 := Fm.tr (f6) (f8)
        have s8 := SO.fm hs (Fm.mo f8 sU_sV); have l8 := LwW.fm hw (Fm.mo f8 sU_sV); have g8 := LgW.fm lg (Fm.mo f8 sU_sV)
        refine a_if_eq rfl (fun c => absurd c (by decide)) (fun _ => ?_)
        refine a_s rfl rfl ?_
        exact a_iret rfl rfl ⟨⟨_, rfl⟩, _, rfl, f8⟩
      · refine a_l1 rfl rfl rfl ?_
        refine a_l2 rfl rfl rfl ?_
        refine a_ic_le rfl (fun c42 => ?_) (fun c42 => ?_)
        · refine a_s rfl rfl ?_
          refine a_s rfl rfl ?_
          refine a_gV rfl lX12_243 mo_X12_throwsIf (r_X12_throwsIf (b := false)) rfl rfl rfl ⟨12, _, rfl, rfl, rfl⟩ rfl (fun v' h' hv => ?_)
          obtain ⟨rfl, I9, rfl, f10⟩ := hv
          replace f10 : Fm sU I I9 := Fm.tr (f6) (f10)
          have s10 := SO.fm hs (Fm.mo f10 sU_sV); have l10 := LwW.fm hw (Fm.mo f10 sU_sV); have g10 := LgW.fm lg (Fm.mo f10 sU_sV)
          refine a_if_eq rfl (fun _ => ?_) (fun c => absurd (by decide) c)
          refine a_s rfl rfl ?_
          refine a_s4 rfl rfl rfl rfl rfl rfl ?_
          refine a_s rfl rfl ?_
          refine a_s5 rfl rfl rfl rfl rfl rfl ?_
          refine a_cnt (j0 := 0) (fun j ls h => ∃ a0, ∃ I', ls = [some (.ref 420), some (.int x1), some (.int x2), some (.int x3), some (.int a0), some (.int (nI j))] ∧ h = hp I' L w1 w2 t ∧ Fm sU I I') (by decide) ⟨_, _, rfl, rfl, f10⟩ ⟨rfl, rfl, rfl, rfl, rfl, rfl, trivial⟩ ?_
          rintro j65 _ _ hj65 ⟨a0_65, Ih65, rfl, rfl, fh65⟩ ih65
          have sh65 := SO.fm hs (Fm.mo fh65 sU_sV); have lh65 := LwW.fm hw (Fm.mo fh65 sU_sV); have gh65 := LgW.fm lg (Fm.mo fh65 sU_sV)
          refine a_l5 rfl rfl rfl ?_
          refine a_l0 rfl rfl rfl ?_
          refine a_eV1 rfl lX12_74 mo_X12_duties (sp_X12_duties) rfl rfl rfl ⟨12, _, rfl, rfl, rfl⟩ rfl ?_
          refine a_top (y := nI nd) sh65.du ?_
          refine a_ic_ge rfl (fun c71 => ?_) (fun c71 => ?_)
          · refine a_l4 rfl rfl rfl ?_
            exact a_iret rfl rfl ⟨⟨_, rfl⟩, _, rfl, fh65⟩
          · have hd65 : j65 < nd := nI_lt_of c71 hj65 (by have := hs.n; omega)
            refine a_l4 rfl rfl rfl ?_
            refine a_l0 rfl rfl rfl ?_
            refine a_l5 rfl rfl rfl ?_
            refine a_l3 rfl rfl rfl ?_
            refine a_eV1 rfl lX12_301 mo_X12_whereAt (sp_X12_whereAt sh65.n sh65.du hd65 sh65.h7) rfl rfl rfl ⟨12, _, rfl, rfl, rfl⟩ rfl ?_
            refine a_l1 rfl rfl rfl ?_
            refine a_l2 rfl rfl rfl ?_
            refine a_eS1 rfl lX12_70 mo_X12_in (sp_X12_in) rfl rfl rfl rfl ?_
            refine a_if_eq rfl (fun c88 => ?_) (fun c88 => ?_)
            · refine a_s rfl rfl ?_
              refine a_s rfl rfl ?_
              refine a_s4 rfl rfl rfl rfl rfl rfl ?_
              refine a_i5 rfl rfl rfl ?_
              refine a_goto rfl ?_
              exact ih65 _ _ _ _ c71 ⟨_, _, rfl, rfl, fh65⟩ ⟨rfl, rfl, rfl, rfl, rfl, nS _, trivial⟩
            · refine a_s rfl rfl ?_
              refine a_goto rfl ?_
              refine a_s rfl rfl ?_
              refine a_s4 rfl rfl rfl rfl rfl rfl ?_
              refine a_i5 rfl rfl rfl ?_
              refine a_goto rfl ?_
              exact ih65 _ _ _ _ c71 ⟨_, _, rfl, rfl, fh65⟩ ⟨rfl, rfl, rfl, rfl, rfl, nS _, trivial⟩
        · refine a_s rfl rfl ?_
          refine a_goto rfl ?_
          refine a_s rfl rfl ?_
          refine a_gV rfl lX12_243 mo_X12_throwsIf (r_X12_throwsIf (b := true)) rfl rfl rfl ⟨12, _, rfl, rfl, rfl⟩ rfl (fun v' h' hv => ?_)
          obtain ⟨rfl, I11, rfl, f12⟩ := hv
          replace f12 : Fm sU I I11 := Fm.tr (f6) (f12)
          have s12 := SO.fm hs (Fm.mo f12 sU_sV); have l12 := LwW.fm hw (Fm.mo f12 sU_sV); have g12 := LgW.fm lg (Fm.mo f12 sU_sV)
          refine a_if_eq rfl (fun c => absurd c (by decide)) (fun _ => ?_)
          refine a_s rfl rfl ?_
          exact a_iret rfl rfl ⟨⟨_, rfl⟩, _, rfl, f12⟩
    · refine a_s rfl rfl ?_
      refine a_goto rfl ?_
      refine a_s rfl rfl ?_
      refine a_gV rfl lX12_243 mo_X12_throwsIf (r_X12_throwsIf (b := true)) rfl rfl rfl ⟨12, _, rfl, rfl, rfl⟩ rfl (fun v' h' hv => ?_)
      obtain ⟨rfl, I13, rfl, f14⟩ := hv
      replace f14 : Fm sU I I13 := Fm.tr (f2) (f14)
      have s14 := SO.fm hs (Fm.mo f14 sU_sV); have l14 := LwW.fm hw (Fm.mo f14 sU_sV); have g14 := LgW.fm lg (Fm.mo f14 sU_sV)
      refine a_if_ne rfl (fun _ => ?_) (fun c => absurd c (by decide))
      refine a_s rfl rfl ?_
      exact a_iret rfl rfl ⟨⟨_, rfl⟩, _, rfl, f14⟩
theorem r_X12_person {S : aS} {I : Nat → Nat → Int32} {L : Nat → Nat → Int64} {w1 w2 t : Nat} {x1 x2 : Int32} {nd np : Nat} (hs : SO nd np (I 421)) (hw : LwW (I 421)) (lg : LgW (I 421)) : Sp S m_X12_person 22 0 0 [.ref 420, .int x1, .int x2] (hp I L w1 w2 t) (QR (Fm sU I) isI L w1 w2 t) nX := by
  refine Sp_of ok_X12_person rfl rfl ?_
  show AW S m_X12_person 22 _ _ 0 0 0 [some (.ref 420), some (.int x1), some (.int x2)] [] (hp I L w1 w2 t)
  refine a_l0 rfl rfl rfl ?_
  refine a_s rfl rfl ?_
  refine a_puti rfl pfX12_3_12 rfl ?_
  refine a_ren (P := Fm sU I) (Fm.up (Fm.rf (s := sU)) rfl) (fun I1 f2 => ?_)
  have s2 := SO.fm hs (Fm.mo f2 sU_sV); have l2 := LwW.fm hw (Fm.mo f2 sU_sV); have g2 := LgW.fm lg (Fm.mo f2 sU_sV)
  refine a_l0 rfl rfl rfl ?_
  refine a_l0 rfl rfl rfl ?_
  refine a_l1 rfl rfl rfl ?_
  refine a_eV1 rfl lX12_342 mo_X12_noPerson (r_X12_noPerson s2) rfl rfl rfl ⟨12, _, rfl, rfl, rfl⟩ rfl ?_
  refine a_s rfl rfl ?_
  refine a_gV rfl lX12_243 mo_X12_throwsIf (r_X12_throwsIf) rfl rfl rfl ⟨12, _, rfl, rfl, rfl⟩ rfl (fun v' h' hv => ?_)
  obtain ⟨rfl, I3, rfl, f4⟩ := hv
  replace f4 : Fm sU I I3 := Fm.tr (f2) (f4)
  have s4 := SO.fm hs (Fm.mo f4 sU_sV); have l4 := LwW.fm hw (Fm.mo f4 sU_sV); have g4 := LgW.fm lg (Fm.mo f4 sU_sV)
  refine a_if_ne rfl (fun c15 => ?_) (fun c15 => ?_)
  · refine a_s rfl rfl ?_
    exact a_iret rfl rfl ⟨⟨_, rfl⟩, _, rfl, f4⟩
  · obtain ⟨i5, hi5, rfl⟩ := isIx (n := np) (by have := hs.n; have := hs.p; omega) c15
    refine a_l0 rfl rfl rfl ?_
    refine a_l2 rfl rfl rfl ?_
    refine a_s rfl rfl ?_
    refine a_s rfl rfl ?_
    refine a_eS1 rfl lX12_70 mo_X12_in (sp_X12_in) rfl rfl rfl rfl ?_
    refine a_if_ne rfl (fun c25 => ?_) (fun c25 => ?_)
    · obtain ⟨m6, hm6a, hm6b, rfl⟩ := inB_nI (a := 0) (b := 5) (by decide) (bI_t c25)
      refine a_s rfl rfl ?_
      refine a_s rfl rfl ?_
      refine a_gV rfl lX12_243 mo_X12_throwsIf (r_X12_throwsIf (b := false)) rfl rfl rfl ⟨12, _, rfl, rfl, rfl⟩ rfl (fun v' h' hv => ?_)
      obtain ⟨rfl, I7, rfl, f8⟩ := hv
      replace f8 : Fm sU I I7 := Fm.tr (f4) (f8)
      have s8 := SO.fm hs (Fm.mo f8 sU_sV); have l8 := LwW.fm hw (Fm.mo f8 sU_sV); have g8 := LgW.fm lg (Fm.mo f8 sU_sV)
      refine a_if_eq rfl (fun _ => ?_) (fun c => absurd (by decide) c)
      refine a_l2 rfl rfl rfl ?_
      refine a_tswA rfl (by decide) (by decide) (fun hx => ?_) (fun i o ho hx => ?_)
      · refine a_pc (pc' := 96) (by decide) ?_
        refine a_l0 rfl rfl rfl ?_
        refine a_l1 rfl rfl rfl ?_
        refine a_l2 rfl rfl rfl ?_
        refine a_eV1 rfl lX12_252 mo_X12_ofPerson (sp_X12_ofPerson (d := i5) (k := m6) (Nat.lt_of_lt_of_le hi5 s8.p) (by rw [nI_toInt (by omega)] at hx; omega)) rfl rfl rfl ⟨12, _, rfl, rfl, rfl⟩ rfl ?_
        exact a_iret rfl rfl ⟨⟨_, rfl⟩, _, rfl, f8⟩
      · rcases i with _ | _ | _ | _ | i
        · cases ho
          refine a_pc (pc' := 72) (by decide) ?_
          refine a_l0 rfl rfl rfl ?_
          refine a_l1 rfl rfl rfl ?_
          refine a_eV1 rfl lX12_321 mo_X12_ownedBy (sp_X12_ownedBy s8.n s8.du) rfl rfl rfl ⟨12, _, rfl, rfl, rfl⟩ rfl ?_
          exact a_iret rfl rfl ⟨⟨_, rfl⟩, _, rfl, f8⟩
        · cases ho
          refine a_pc (pc' := 78) (by decide) ?_
          refine a_l0 rfl rfl rfl ?_
          refine a_l1 rfl rfl rfl ?_
          refine a_eV1 rfl lX12_333 mo_X12_loadOf (sp_X12_loadOf s8.n s8.du) rfl rfl rfl ⟨12, _, rfl, rfl, rfl⟩ rfl ?_
          exact a_iret rfl rfl ⟨⟨_, rfl⟩, _, rfl, f8⟩
        · cases ho
          refine a_pc (pc' := 84) (by decide) ?_
          refine a_l0 rfl rfl rfl ?_
          refine a_l1 rfl rfl rfl ?_
          refine a_eV1 rfl lX12_345 mo_X12_needsOf (sp_X12_needsOf s8.n s8.du (Nat.lt_of_lt_of_le hi5 s8.p)) rfl rfl rfl ⟨12, _, rfl, rfl, rfl⟩ rfl ?_
          exact a_iret rfl rfl ⟨⟨_, rfl⟩, _, rfl, f8⟩
        · cases ho
          refine a_pc (pc' := 90) (by decide) ?_
          refine a_l0 rfl rfl rfl ?_
          refine a_l1 rfl rfl rfl ?_
          refine a_gV rfl lX12_348 mo_X12_shareOf (r_X12_shareOf s8 l8 g8 hi5) rfl rfl rfl ⟨12, _, rfl, rfl, rfl⟩ rfl (fun v' h' hv => ?_)
          obtain ⟨⟨v9, rfl⟩, I10, rfl, f11⟩ := hv
          replace f11 : Fm sU I I10 := Fm.tr (f8) (f11)
          have s11 := SO.fm hs (Fm.mo f11 sU_sV); have l11 := LwW.fm hw (Fm.mo f11 sU_sV); have g11 := LgW.fm lg (Fm.mo f11 sU_sV)
          exact a_iret rfl rfl ⟨⟨_, rfl⟩, _, rfl, f11⟩
        · cases ho
    · refine a_s rfl rfl ?_
      refine a_goto rfl ?_
      refine a_s rfl rfl ?_
      refine a_gV rfl lX12_243 mo_X12_throwsIf (r_X12_throwsIf (b := true)) rfl rfl rfl ⟨12, _, rfl, rfl, rfl⟩ rfl (fun v' h' hv => ?_)
      obtain ⟨rfl, I12, rfl, f13⟩ := hv
      replace f13 : Fm sU I I12 := Fm.tr (f4) (f13)
      have s13 := SO.fm hs (Fm.mo f13 sU_sV); have l13 := LwW.fm hw (Fm.mo f13 sU_sV); have g13 := LgW.fm lg (Fm.mo f13 sU_sV)
      refine a_if_eq rfl (fun c => absurd c (by decide)) (fun _ => ?_)
      refine a_s rfl rfl ?_
      exact a_iret rfl rfl ⟨⟨_, rfl⟩, _, rfl, f13⟩
theorem r_X12_duty {S : aS} {I : Nat → Nat → Int32} {L : Nat → Nat → Int64} {w1 w2 t : Nat} {x1 x2 : Int32} {nd np : Nat} (hs : SO nd np (I 421)) (hw : LwW (I 421)) (lg : LgW (I 421)) : Sp S m_X12_duty 20 0 0 [.ref 420, .int x1, .int x2] (hp I L w1 w2 t) (QR (Fm sU I) isI L w1 w2 t) nX := by
  refine Sp_of ok_X12_duty rfl rfl ?_
  show AW S m_X12_duty 20 _ _ 0 0 0 [some (.ref 420), some (.int x1), some (.int x2)] [] (hp I L w1 w2 t)
  refine a_l0 rfl rfl rfl ?_
  refine a_s rfl rfl ?_
  refine a_puti rfl pfX12_3_12 rfl ?_
  refine a_ren (P := Fm sU I) (Fm.up (Fm.rf (s := sU)) rfl) (fun I1 f2 => ?_)
  have s2 := SO.fm hs (Fm.mo f2 sU_sV); have l2 := LwW.fm hw (Fm.mo f2 sU_sV); have g2 := LgW.fm lg (Fm.mo f2 sU_sV)
  refine a_l0 rfl rfl rfl ?_
  refine a_l0 rfl rfl rfl ?_
  refine a_l1 rfl rfl rfl ?_
  refine a_eV1 rfl lX12_289 mo_X12_noDuty (r_X12_noDuty s2) rfl rfl rfl ⟨12, _, rfl, rfl, rfl⟩ rfl ?_
  refine a_s rfl rfl ?_
  refine a_gV rfl lX12_243 mo_X12_throwsIf (r_X12_throwsIf) rfl rfl rfl ⟨12, _, rfl, rfl, rfl⟩ rfl (fun v' h' hv => ?_)
  obtain ⟨rfl, I3, rfl, f4⟩ := hv
  replace f4 : Fm sU I I3 := Fm.tr (f2) (f4)
  have s4 := SO.fm hs (Fm.mo f4 sU_sV); have l4 := LwW.fm hw (Fm.mo f4 sU_sV); have g4 := LgW.fm lg (Fm.mo f4 sU_sV)
  refine a_if_ne rfl (fun c15 => ?_) (fun c15 => ?_)
  · refine a_s rfl rfl ?_
    exact a_iret rfl rfl ⟨⟨_, rfl⟩, _, rfl, f4⟩
  · obtain ⟨i5, hi5, rfl⟩ := isIx (n := nd) (by have := hs.n; have := hs.p; omega) c15
    refine a_l0 rfl rfl rfl ?_
    refine a_l2 rfl rfl rfl ?_
    refine a_s rfl rfl ?_
    refine a_s rfl rfl ?_
    refine a_eS1 rfl lX12_70 mo_X12_in (sp_X12_in) rfl rfl rfl rfl ?_
    refine a_if_ne rfl (fun c26 => ?_) (fun c26 => ?_)
    · obtain ⟨m6, hm6a, hm6b, rfl⟩ := inB_nI (a := 0) (b := 10) (by decide) (bI_t c26)
      refine a_s rfl rfl ?_
      refine a_s rfl rfl ?_
      refine a_gV rfl lX12_243 mo_X12_throwsIf (r_X12_throwsIf (b := false)) rfl rfl rfl ⟨12, _, rfl, rfl, rfl⟩ rfl (fun v' h' hv => ?_)
      obtain ⟨rfl, I7, rfl, f8⟩ := hv
      replace f8 : Fm sU I I7 := Fm.tr (f4) (f8)
      have s8 := SO.fm hs (Fm.mo f8 sU_sV); have l8 := LwW.fm hw (Fm.mo f8 sU_sV); have g8 := LgW.fm lg (Fm.mo f8 sU_sV)
      refine a_if_eq rfl (fun _ => ?_) (fun c => absurd (by decide) c)
      refine a_l2 rfl rfl rfl ?_
      refine a_tswA rfl (by decide) (by decide) (fun hx => ?_) (fun i o ho hx => ?_)
      · refine a_pc (pc' := 118) (by decide) ?_
        refine a_l0 rfl rfl rfl ?_
        refine a_l1 rfl rfl rfl ?_
        refine a_l2 rfl rfl rfl ?_
        refine a_eV1 rfl lX12_63 mo_X12_of (sp_X12_of (d := i5) (k := m6) (Nat.lt_of_lt_of_le hi5 s8.n) (by rw [nI_toInt (by omega)] at hx; omega)) rfl rfl rfl ⟨12, _, rfl, rfl, rfl⟩ rfl ?_
        exact a_iret rfl rfl ⟨⟨_, rfl⟩, _, rfl, f8⟩
      · rcases i with _ | _ | _ | _ | _ | i
        · cases ho
          refine a_pc (pc' := 80) (by decide) ?_
          refine a_l0 rfl rfl rfl ?_
          refine a_l1 rfl rfl rfl ?_
          refine a_eV1 rfl lX12_273 mo_X12_isReady (sp_X12_isReady s8.n hi5 s8.l) rfl rfl rfl ⟨12, _, rfl, rfl, rfl⟩ rfl ?_
          refine a_if_eq rfl (fun c85 => ?_) (fun c85 => ?_)
          · refine a_s rfl rfl ?_
            exact a_iret rfl rfl ⟨⟨_, rfl⟩, _, rfl, f8⟩
          · refine a_s rfl rfl ?_
            refine a_goto rfl ?_
            exact a_iret rfl rfl ⟨⟨_, rfl⟩, _, rfl, f8⟩
        · cases ho
          refine a_pc (pc' := 94) (by decide) ?_
          refine a_l0 rfl rfl rfl ?_
          refine a_l1 rfl rfl rfl ?_
          refine a_gV rfl lX12_351 mo_X12_growsBy (r_X12_growsBy s8 l8 g8 hi5) rfl rfl rfl ⟨12, _, rfl, rfl, rfl⟩ rfl (fun v' h' hv => ?_)
          obtain ⟨⟨v9, rfl⟩, I10, rfl, f11⟩ := hv
          replace f11 : Fm sU I I10 := Fm.tr (f8) (f11)
          have s11 := SO.fm hs (Fm.mo f11 sU_sV); have l11 := LwW.fm hw (Fm.mo f11 sU_sV); have g11 := LgW.fm lg (Fm.mo f11 sU_sV)
          exact a_iret rfl rfl ⟨⟨_, rfl⟩, _, rfl, f11⟩
        · cases ho
          refine a_pc (pc' := 100) (by decide) ?_
          refine a_l0 rfl rfl rfl ?_
          refine a_l1 rfl rfl rfl ?_
          refine a_gV rfl lX12_318 mo_X12_shamesBy (r_X12_shamesBy s8 l8 g8 hi5) rfl rfl rfl ⟨12, _, rfl, rfl, rfl⟩ rfl (fun v' h' hv => ?_)
          obtain ⟨⟨v12, rfl⟩, I13, rfl, f14⟩ := hv
          replace f14 : Fm sU I I13 := Fm.tr (f8) (f14)
          have s14 := SO.fm hs (Fm.mo f14 sU_sV); have l14 := LwW.fm hw (Fm.mo f14 sU_sV); have g14 := LgW.fm lg (Fm.mo f14 sU_sV)
          exact a_iret rfl rfl ⟨⟨_, rfl⟩, _, rfl, f14⟩
        · cases ho
          refine a_pc (pc' := 106) (by decide) ?_
          refine a_l0 rfl rfl rfl ?_
          refine a_l1 rfl rfl rfl ?_
          refine a_eV1 rfl lX12_283 mo_X12_placeOf (sp_X12_placeOf s8.n s8.du hi5) rfl rfl rfl ⟨12, _, rfl, rfl, rfl⟩ rfl ?_
          exact a_iret rfl rfl ⟨⟨_, rfl⟩, _, rfl, f8⟩
        · cases ho
          refine a_pc (pc' := 112) (by decide) ?_
          refine a_l0 rfl rfl rfl ?_
          refine a_l1 rfl rfl rfl ?_
          refine a_eV1 rfl lX12_276 mo_X12_passesBy (sp_X12_passesBy s8.n s8.du hi5) rfl rfl rfl ⟨12, _, rfl, rfl, rfl⟩ rfl ?_
          exact a_iret rfl rfl ⟨⟨_, rfl⟩, _, rfl, f8⟩
        · cases ho
    · refine a_s rfl rfl ?_
      refine a_goto rfl ?_
      refine a_s rfl rfl ?_
      refine a_gV rfl lX12_243 mo_X12_throwsIf (r_X12_throwsIf (b := true)) rfl rfl rfl ⟨12, _, rfl, rfl, rfl⟩ rfl (fun v' h' hv => ?_)
      obtain ⟨rfl, I15, rfl, f16⟩ := hv
      replace f16 : Fm sU I I15 := Fm.tr (f4) (f16)
      have s16 := SO.fm hs (Fm.mo f16 sU_sV); have l16 := LwW.fm hw (Fm.mo f16 sU_sV); have g16 := LgW.fm lg (Fm.mo f16 sU_sV)
      refine a_if_eq rfl (fun c => absurd c (by decide)) (fun _ => ?_)
      refine a_s rfl rfl ?_
      exact a_iret rfl rfl ⟨⟨_, rfl⟩, _, rfl, f16⟩
theorem r_X12_ring {S : aS} {I : Nat → Nat → Int32} {L : Nat → Nat → Int64} {w1 w2 t : Nat} {nd np : Nat} (hs : SO nd np (I 421)) (hw : LwW (I 421)) (lg : LgW (I 421)) : Sp S m_X12_ring 16 0 0 [.ref 420] (hp I L w1 w2 t) (QR (Fm sU I) isI L w1 w2 t) nX := by
  refine Sp_of ok_X12_ring rfl rfl ?_
  show AW S m_X12_ring 16 _ _ 0 0 0 [some (.ref 420)] [] (hp I L w1 w2 t)
  refine a_l0 rfl rfl rfl ?_
  refine a_s rfl rfl ?_
  refine a_puti rfl pfX12_3_12 rfl ?_
  refine a_ren (P := Fm sU I) (Fm.up (Fm.rf (s := sU)) rfl) (fun I1 f2 => ?_)
  have s2 := SO.fm hs (Fm.mo f2 sU_sV); have l2 := LwW.fm hw (Fm.mo f2 sU_sV); have g2 := LgW.fm lg (Fm.mo f2 sU_sV)
  refine a_l0 rfl rfl rfl ?_
  refine a_gV rfl lX12_420 mo_X12_ringOnes (r_X12_ringOnes s2 l2 g2) rfl rfl rfl ⟨12, _, rfl, rfl, rfl⟩ rfl (fun v' h' hv => ?_)
  obtain ⟨⟨v3, rfl⟩, rfl⟩ := hv
  exact a_iret rfl rfl ⟨⟨_, rfl⟩, _, rfl, f2⟩
theorem r_X12_before {S : aS} {I : Nat → Nat → Int32} {L : Nat → Nat → Int64} {w1 w2 t : Nat} {x1 : Int32} {nd np : Nat} (hs : SO nd np (I 421)) (hw : LwW (I 421)) (lg : LgW (I 421)) : Sp S m_X12_before 15 0 0 [.ref 420, .int x1] (hp I L w1 w2 t) (QR (Fm sU I) isI L w1 w2 t) nX := by
  refine Sp_of ok_X12_before rfl rfl ?_
  show AW S m_X12_before 15 _ _ 0 0 0 [some (.ref 420), some (.int x1)] [] (hp I L w1 w2 t)
  refine a_l0 rfl rfl rfl ?_
  refine a_s rfl rfl ?_
  refine a_puti rfl pfX12_3_12 rfl ?_
  refine a_ren (P := Fm sU I) (Fm.up (Fm.rf (s := sU)) rfl) (fun I1 f2 => ?_)
  have s2 := SO.fm hs (Fm.mo f2 sU_sV); have l2 := LwW.fm hw (Fm.mo f2 sU_sV); have g2 := LgW.fm lg (Fm.mo f2 sU_sV)
  refine a_l0 rfl rfl rfl ?_
  refine a_l0 rfl rfl rfl ?_
  refine a_l1 rfl rfl rfl ?_
  refine a_eV1 rfl lX12_289 mo_X12_noDuty (r_X12_noDuty s2) rfl rfl rfl ⟨12, _, rfl, rfl, rfl⟩ rfl ?_
  refine a_s rfl rfl ?_
  refine a_gV rfl lX12_243 mo_X12_throwsIf (r_X12_throwsIf) rfl rfl rfl ⟨12, _, rfl, rfl, rfl⟩ rfl (fun v' h' hv => ?_)
  obtain ⟨rfl, I3, rfl, f4⟩ := hv
  replace f4 : Fm sU I I3 := Fm.tr (f2) (f4)
  have s4 := SO.fm hs (Fm.mo f4 sU_sV); have l4 := LwW.fm hw (Fm.mo f4 sU_sV); have g4 := LgW.fm lg (Fm.mo f4 sU_sV)
  refine a_if_eq rfl (fun c15 => ?_) (fun c15 => ?_)
  · obtain ⟨i5, hi5, rfl⟩ := isIx (n := nd) (by have := hs.n; have := hs.p; omega) c15
    refine a_l0 rfl rfl rfl ?_
    refine a_l1 rfl rfl rfl ?_
    refine a_gV rfl lX12_417 mo_X12_beforeOf (r_X12_beforeOf s4 l4 g4 hi5) rfl rfl rfl ⟨12, _, rfl, rfl, rfl⟩ rfl (fun v' h' hv => ?_)
    obtain ⟨⟨v6, rfl⟩, rfl⟩ := hv
    exact a_iret rfl rfl ⟨⟨_, rfl⟩, _, rfl, f4⟩
  · refine a_s rfl rfl ?_
    refine a_goto rfl ?_
    exact a_iret rfl rfl ⟨⟨_, rfl⟩, _, rfl, f4⟩
theorem r_X12_after {S : aS} {I : Nat → Nat → Int32} {L : Nat → Nat → Int64} {w1 w2 t : Nat} {x1 : Int32} {nd np : Nat} (hs : SO nd np (I 421)) (hw : LwW (I 421)) (lg : LgW (I 421)) : Sp S m_X12_after 15 0 0 [.ref 420, .int x1] (hp I L w1 w2 t) (QR (Fm sU I) isI L w1 w2 t) nX := by
  refine Sp_of ok_X12_after rfl rfl ?_
  show AW S m_X12_after 15 _ _ 0 0 0 [some (.ref 420), some (.int x1), none, none] [] (hp I L w1 w2 t)
  refine a_l0 rfl rfl rfl ?_
  refine a_s rfl rfl ?_
  refine a_puti rfl pfX12_3_12 rfl ?_
  refine a_ren (P := Fm sU I) (Fm.up (Fm.rf (s := sU)) rfl) (fun I1 f2 => ?_)
  have s2 := SO.fm hs (Fm.mo f2 sU_sV); have l2 := LwW.fm hw (Fm.mo f2 sU_sV); have g2 := LgW.fm lg (Fm.mo f2 sU_sV)
  refine a_l0 rfl rfl rfl ?_
  refine a_l0 rfl rfl rfl ?_
  refine a_l1 rfl rfl rfl ?_
  refine a_eV1 rfl lX12_289 mo_X12_noDuty (r_X12_noDuty s2) rfl rfl rfl ⟨12, _, rfl, rfl, rfl⟩ rfl ?_
  refine a_s rfl rfl ?_
  refine a_gV rfl lX12_243 mo_X12_throwsIf (r_X12_throwsIf) rfl rfl rfl ⟨12, _, rfl, rfl, rfl⟩ rfl (fun v' h' hv => ?_)
  obtain ⟨rfl, I3, rfl, f4⟩ := hv
  replace f4 : Fm sU I I3 := Fm.tr (f2) (f4)
  have s4 := SO.fm hs (Fm.mo f4 sU_sV); have l4 := LwW.fm hw (Fm.mo f4 sU_sV); have g4 := LgW.fm lg (Fm.mo f4 sU_sV)
  refine a_if_eq rfl (fun c15 => ?_) (fun c15 => ?_)
  · obtain ⟨i5, hi5, rfl⟩ := isIx (n := nd) (by have := hs.n; have := hs.p; omega) c15
    refine a_s rfl rfl ?_
    refine a_s2 rfl rfl rfl rfl rfl rfl ?_
    refine a_s rfl rfl ?_
    refine a_s3 rfl rfl rfl rfl rfl rfl ?_
    refine a_cnt (j0 := 0) (fun j ls h => ∃ a0, ∃ I', ls = [some (.ref 420), some (.int (nI i5)), some (.int a0), some (.int (nI j))] ∧ h = hp I' L w1 w2 t ∧ Fm sU I I') (by decide) ⟨_, _, rfl, rfl, f4⟩ ⟨rfl, rfl, rfl, rfl, trivial⟩ ?_
    rintro j24 _ _ hj24 ⟨a0_24, Ih24, rfl, rfl, fh24⟩ ih24
    have sh24 := SO.fm hs (Fm.mo fh24 sU_sV); have lh24 := LwW.fm hw (Fm.mo fh24 sU_sV); have gh24 := LgW.fm lg (Fm.mo fh24 sU_sV)
    refine a_l3 rfl rfl rfl ?_
    refine a_l0 rfl rfl rfl ?_
    refine a_eV1 rfl lX12_74 mo_X12_duties (sp_X12_duties) rfl rfl rfl ⟨12, _, rfl, rfl, rfl⟩ rfl ?_
    refine a_top (y := nI nd) sh24.du ?_
    refine a_ic_ge rfl (fun c29 => ?_) (fun c29 => ?_)
    · refine a_l2 rfl rfl rfl ?_
      exact a_iret rfl rfl ⟨⟨_, rfl⟩, _, rfl, fh24⟩
    · have hd24 : j24 < nd := nI_lt_of c29 hj24 (by have := hs.n; omega)
      refine a_l2 rfl rfl rfl ?_
      refine a_l0 rfl rfl rfl ?_
      refine a_l3 rfl rfl rfl ?_
      refine a_gV rfl lX12_417 mo_X12_beforeOf (r_X12_beforeOf sh24 lh24 gh24 hd24) rfl rfl rfl ⟨12, _, rfl, rfl, rfl⟩ rfl (fun v' h' hv => ?_)
      obtain ⟨⟨v6, rfl⟩, rfl⟩ := hv
      refine a_l1 rfl rfl rfl ?_
      refine a_gS rfl lX12_304 mo_X12_has (r_X12_has) rfl rfl rfl rfl (fun v' h' hv => ?_)
      obtain ⟨⟨v7, rfl⟩, rfl⟩ := hv
      refine a_if_eq rfl (fun c42 => ?_) (fun c42 => ?_)
      · refine a_s rfl rfl ?_
        refine a_s rfl rfl ?_
        refine a_s2 rfl rfl rfl rfl rfl rfl ?_
        refine a_i3 rfl rfl rfl ?_
        refine a_goto rfl ?_
        exact ih24 _ _ _ _ c29 ⟨_, _, rfl, rfl, fh24⟩ ⟨rfl, rfl, rfl, nS _, trivial⟩
      · refine a_s rfl rfl ?_
        refine a_l3 rfl rfl rfl ?_
        refine a_s rfl rfl ?_
        refine a_goto rfl ?_
        refine a_s rfl rfl ?_
        refine a_s2 rfl rfl rfl rfl rfl rfl ?_
        refine a_i3 rfl rfl rfl ?_
        refine a_goto rfl ?_
        exact ih24 _ _ _ _ c29 ⟨_, _, rfl, rfl, fh24⟩ ⟨rfl, rfl, rfl, nS _, trivial⟩
  · refine a_s rfl rfl ?_
    exact a_iret rfl rfl ⟨⟨_, rfl⟩, _, rfl, f4⟩
theorem r_X12_depth {S : aS} {I : Nat → Nat → Int32} {L : Nat → Nat → Int64} {w1 w2 t : Nat} {x1 : Int32} {nd np : Nat} (hs : SO nd np (I 421)) (hw : LwW (I 421)) (lg : LgW (I 421)) : Sp S m_X12_depth 15 0 0 [.ref 420, .int x1] (hp I L w1 w2 t) (QR (Fm sU I) isI L w1 w2 t) nX := by
  refine Sp_of ok_X12_depth rfl rfl ?_
  show AW S m_X12_depth 15 _ _ 0 0 0 [some (.ref 420), some (.int x1)] [] (hp I L w1 w2 t)
  refine a_l0 rfl rfl rfl ?_
  refine a_s rfl rfl ?_
  refine a_puti rfl pfX12_3_12 rfl ?_
  refine a_ren (P := Fm sU I) (Fm.up (Fm.rf (s := sU)) rfl) (fun I1 f2 => ?_)
  have s2 := SO.fm hs (Fm.mo f2 sU_sV); have l2 := LwW.fm hw (Fm.mo f2 sU_sV); have g2 := LgW.fm lg (Fm.mo f2 sU_sV)
  refine a_l0 rfl rfl rfl ?_
  refine a_l0 rfl rfl rfl ?_
  refine a_l1 rfl rfl rfl ?_
  refine a_eV1 rfl lX12_289 mo_X12_noDuty (r_X12_noDuty s2) rfl rfl rfl ⟨12, _, rfl, rfl, rfl⟩ rfl ?_
  refine a_s rfl rfl ?_
  refine a_gV rfl lX12_243 mo_X12_throwsIf (r_X12_throwsIf) rfl rfl rfl ⟨12, _, rfl, rfl, rfl⟩ rfl (fun v' h' hv => ?_)
  obtain ⟨rfl, I3, rfl, f4⟩ := hv
  replace f4 : Fm sU I I3 := Fm.tr (f2) (f4)
  have s4 := SO.fm hs (Fm.mo f4 sU_sV); have l4 := LwW.fm hw (Fm.mo f4 sU_sV); have g4 := LgW.fm lg (Fm.mo f4 sU_sV)
  refine a_if_eq rfl (fun c15 => ?_) (fun c15 => ?_)
  · obtain ⟨i5, hi5, rfl⟩ := isIx (n := nd) (by have := hs.n; have := hs.p; omega) c15
    refine a_l0 rfl rfl rfl ?_
    refine a_l1 rfl rfl rfl ?_
    refine a_gV rfl lX12_417 mo_X12_beforeOf (r_X12_beforeOf s4 l4 g4 hi5) rfl rfl rfl ⟨12, _, rfl, rfl, rfl⟩ rfl (fun v' h' hv => ?_)
    obtain ⟨⟨v6, rfl⟩, rfl⟩ := hv
    refine a_l0 rfl rfl rfl ?_
    refine a_s rfl rfl ?_
    refine a_eV1 rfl lX12_324 mo_X12_ofState (sp_X12_ofState s4.n s4.du) rfl rfl rfl ⟨12, _, rfl, rfl, rfl⟩ rfl ?_
    refine a_topE (bs_nI12 s4.n) (fun mc7 hmc7 => ?_)
    refine a_s rfl rfl ?_
    refine a_s rfl rfl ?_
    refine a_s rfl rfl ?_
    refine a_eS1 rfl lX12_310 mo_J6_bitCount_0f7a4 (sp_bitCount) rfl rfl rfl rfl ?_
    exact a_iret rfl rfl ⟨⟨_, rfl⟩, _, rfl, f4⟩
  · refine a_s rfl rfl ?_
    refine a_goto rfl ?_
    exact a_iret rfl rfl ⟨⟨_, rfl⟩, _, rfl, f4⟩
theorem r_X12_soon {S : aS} {I : Nat → Nat → Int32} {L : Nat → Nat → Int64} {w1 w2 t : Nat} {x1 : Int32} {nd np : Nat} (hs : SO nd np (I 421)) (hw : LwW (I 421)) (lg : LgW (I 421)) : Sp S m_X12_soon 17 0 0 [.ref 420, .int x1] (hp I L w1 w2 t) (QR (Fm sU I) isI L w1 w2 t) nX := by
  refine Sp_of ok_X12_soon rfl rfl ?_
  show AW S m_X12_soon 17 _ _ 0 0 0 [some (.ref 420), some (.int x1)] [] (hp I L w1 w2 t)
  refine a_l0 rfl rfl rfl ?_
  refine a_s rfl rfl ?_
  refine a_puti rfl pfX12_3_12 rfl ?_
  refine a_ren (P := Fm sU I) (Fm.up (Fm.rf (s := sU)) rfl) (fun I1 f2 => ?_)
  have s2 := SO.fm hs (Fm.mo f2 sU_sV); have l2 := LwW.fm hw (Fm.mo f2 sU_sV); have g2 := LgW.fm lg (Fm.mo f2 sU_sV)
  refine a_l0 rfl rfl rfl ?_
  refine a_l0 rfl rfl rfl ?_
  refine a_l1 rfl rfl rfl ?_
  refine a_eV1 rfl lX12_289 mo_X12_noDuty (r_X12_noDuty s2) rfl rfl rfl ⟨12, _, rfl, rfl, rfl⟩ rfl ?_
  refine a_s rfl rfl ?_
  refine a_gV rfl lX12_243 mo_X12_throwsIf (r_X12_throwsIf) rfl rfl rfl ⟨12, _, rfl, rfl, rfl⟩ rfl (fun v' h' hv => ?_)
  obtain ⟨rfl, I3, rfl, f4⟩ := hv
  replace f4 : Fm sU I I3 := Fm.tr (f2) (f4)
  have s4 := SO.fm hs (Fm.mo f4 sU_sV); have l4 := LwW.fm hw (Fm.mo f4 sU_sV); have g4 := LgW.fm lg (Fm.mo f4 sU_sV)
  refine a_if_eq rfl (fun c15 => ?_) (fun c15 => ?_)
  · obtain ⟨i5, hi5, rfl⟩ := isIx (n := nd) (by have := hs.n; have := hs.p; omega) c15
    refine a_l0 rfl rfl rfl ?_
    refine a_l1 rfl rfl rfl ?_
    refine a_gV rfl lX12_426 mo_X12_soonOf (r_X12_soonOf s4 l4 g4 hi5) rfl rfl rfl ⟨12, _, rfl, rfl, rfl⟩ rfl (fun v' h' hv => ?_)
    obtain ⟨⟨v6, rfl⟩, rfl⟩ := hv
    exact a_iret rfl rfl ⟨⟨_, rfl⟩, _, rfl, f4⟩
  · refine a_s rfl rfl ?_
    refine a_goto rfl ?_
    exact a_iret rfl rfl ⟨⟨_, rfl⟩, _, rfl, f4⟩
theorem r_X12_longest {S : aS} {I : Nat → Nat → Int32} {L : Nat → Nat → Int64} {w1 w2 t : Nat} {nd np : Nat} (hs : SO nd np (I 421)) (hw : LwW (I 421)) (lg : LgW (I 421)) : Sp S m_X12_longest 17 0 0 [.ref 420] (hp I L w1 w2 t) (QR (Fm sU I) isI L w1 w2 t) nX := by
  refine Sp_of ok_X12_longest rfl rfl ?_
  show AW S m_X12_longest 17 _ _ 0 0 0 [some (.ref 420), none, none] [] (hp I L w1 w2 t)
  refine a_l0 rfl rfl rfl ?_
  refine a_s rfl rfl ?_
  refine a_puti rfl pfX12_3_12 rfl ?_
  refine a_ren (P := Fm sU I) (Fm.up (Fm.rf (s := sU)) rfl) (fun I1 f2 => ?_)
  have s2 := SO.fm hs (Fm.mo f2 sU_sV); have l2 := LwW.fm hw (Fm.mo f2 sU_sV); have g2 := LgW.fm lg (Fm.mo f2 sU_sV)
  refine a_s rfl rfl ?_
  refine a_s1 rfl rfl rfl rfl rfl rfl ?_
  refine a_s rfl rfl ?_
  refine a_s2 rfl rfl rfl rfl rfl rfl ?_
  refine a_cnt (j0 := 0) (fun j ls h => ∃ a0, ∃ I', ls = [some (.ref 420), some (.int a0), some (.int (nI j))] ∧ h = hp I' L w1 w2 t ∧ Fm sU I I') (by decide) ⟨_, _, rfl, rfl, f2⟩ ⟨rfl, rfl, rfl, trivial⟩ ?_
  rintro j9 _ _ hj9 ⟨a0_9, Ih9, rfl, rfl, fh9⟩ ih9
  have sh9 := SO.fm hs (Fm.mo fh9 sU_sV); have lh9 := LwW.fm hw (Fm.mo fh9 sU_sV); have gh9 := LgW.fm lg (Fm.mo fh9 sU_sV)
  refine a_l2 rfl rfl rfl ?_
  refine a_l0 rfl rfl rfl ?_
  refine a_eV1 rfl lX12_74 mo_X12_duties (sp_X12_duties) rfl rfl rfl ⟨12, _, rfl, rfl, rfl⟩ rfl ?_
  refine a_top (y := nI nd) sh9.du ?_
  refine a_ic_ge rfl (fun c14 => ?_) (fun c14 => ?_)
  · refine a_l1 rfl rfl rfl ?_
    exact a_iret rfl rfl ⟨⟨_, rfl⟩, _, rfl, fh9⟩
  · have hd9 : j9 < nd := nI_lt_of c14 hj9 (by have := hs.n; omega)
    refine a_l1 rfl rfl rfl ?_
    refine a_l0 rfl rfl rfl ?_
    refine a_l2 rfl rfl rfl ?_
    refine a_gV rfl lX12_426 mo_X12_soonOf (r_X12_soonOf sh9 lh9 gh9 hd9) rfl rfl rfl ⟨12, _, rfl, rfl, rfl⟩ rfl (fun v' h' hv => ?_)
    obtain ⟨⟨v3, rfl⟩, rfl⟩ := hv
    refine a_max rfl lX12_265 mj_max rfl rfl ?_
    refine a_s1 rfl rfl rfl rfl rfl rfl ?_
    refine a_i2 rfl rfl rfl ?_
    refine a_goto rfl ?_
    exact ih9 _ _ _ _ c14 ⟨_, _, rfl, rfl, fh9⟩ ⟨rfl, rfl, nS _, trivial⟩
theorem r_X12_young {S : aS} {I : Nat → Nat → Int32} {L : Nat → Nat → Int64} {w1 w2 t : Nat} {x1 : Int32} {nd np : Nat} (hs : SO nd np (I 421)) (hw : LwW (I 421)) (lg : LgW (I 421)) : Sp S m_X12_young 16 0 0 [.ref 420, .int x1] (hp I L w1 w2 t) (QR (Fm sU I) isI L w1 w2 t) nX := by
  refine Sp_of ok_X12_young rfl rfl ?_
  show AW S m_X12_young 16 _ _ 0 0 0 [some (.ref 420), some (.int x1), none, none, none] [] (hp I L w1 w2 t)
  refine a_l0 rfl rfl rfl ?_
  refine a_s rfl rfl ?_
  refine a_puti rfl pfX12_3_12 rfl ?_
  refine a_ren (P := Fm sU I) (Fm.up (Fm.rf (s := sU)) rfl) (fun I1 f2 => ?_)
  have s2 := SO.fm hs (Fm.mo f2 sU_sV); have l2 := LwW.fm hw (Fm.mo f2 sU_sV); have g2 := LgW.fm lg (Fm.mo f2 sU_sV)
  refine a_l0 rfl rfl rfl ?_
  refine a_l1 rfl rfl rfl ?_
  refine a_s rfl rfl ?_
  refine a_s rfl rfl ?_
  refine a_eS1 rfl lX12_70 mo_X12_in (sp_X12_in) rfl rfl rfl rfl ?_
  refine a_if_ne rfl (fun c13 => ?_) (fun c13 => ?_)
  · obtain ⟨m3, hm3a, hm3b, rfl⟩ := inB_nI (a := 0) (b := 98) (by decide) (bI_t c13)
    refine a_s rfl rfl ?_
    refine a_s rfl rfl ?_
    refine a_gV rfl lX12_243 mo_X12_throwsIf (r_X12_throwsIf (b := false)) rfl rfl rfl ⟨12, _, rfl, rfl, rfl⟩ rfl (fun v' h' hv => ?_)
    obtain ⟨rfl, I4, rfl, f5⟩ := hv
    replace f5 : Fm sU I I4 := Fm.tr (f2) (f5)
    have s5 := SO.fm hs (Fm.mo f5 sU_sV); have l5 := LwW.fm hw (Fm.mo f5 sU_sV); have g5 := LgW.fm lg (Fm.mo f5 sU_sV)
    refine a_if_eq rfl (fun _ => ?_) (fun c => absurd (by decide) c)
    refine a_l0 rfl rfl rfl ?_
    refine a_l1 rfl rfl rfl ?_
    refine a_eV1 rfl lX12_429 mo_X12_olderOnes (sp_X12_olderOnes s5.n s5.du) rfl rfl rfl ⟨12, _, rfl, rfl, rfl⟩ rfl ?_
    refine a_s2 rfl rfl rfl rfl rfl rfl ?_
    refine a_s rfl rfl ?_
    refine a_s3 rfl rfl rfl rfl rfl rfl ?_
    refine a_s rfl rfl ?_
    refine a_s4 rfl rfl rfl rfl rfl rfl ?_
    refine a_cnt (j0 := 0) (fun j ls h => ∃ a0, ∃ a1, ∃ I', ls = [some (.ref 420), some (.int (nI m3)), some (.int a0), some (.int a1), some (.int (nI j))] ∧ h = hp I' L w1 w2 t ∧ Fm sU I I') (by decide) ⟨_, _, _, rfl, rfl, f5⟩ ⟨rfl, rfl, rfl, rfl, rfl, trivial⟩ ?_
    rintro j41 _ _ hj41 ⟨a0_41, a1_41, Ih41, rfl, rfl, fh41⟩ ih41
    have sh41 := SO.fm hs (Fm.mo fh41 sU_sV); have lh41 := LwW.fm hw (Fm.mo fh41 sU_sV); have gh41 := LgW.fm lg (Fm.mo fh41 sU_sV)
    refine a_l4 rfl rfl rfl ?_
    refine a_l0 rfl rfl rfl ?_
    refine a_eV1 rfl lX12_74 mo_X12_duties (sp_X12_duties) rfl rfl rfl ⟨12, _, rfl, rfl, rfl⟩ rfl ?_
    refine a_top (y := nI nd) sh41.du ?_
    refine a_ic_ge rfl (fun c47 => ?_) (fun c47 => ?_)
    · refine a_l0 rfl rfl rfl ?_
      refine a_l3 rfl rfl rfl ?_
      refine a_eV1 rfl lX12_330 mo_X12_hoursOf (sp_X12_hoursOf sh41.n sh41.du) rfl rfl rfl ⟨12, _, rfl, rfl, rfl⟩ rfl ?_
      exact a_iret rfl rfl ⟨⟨_, rfl⟩, _, rfl, fh41⟩
    · have hd41 : j41 < nd := nI_lt_of c47 hj41 (by have := hs.n; omega)
      refine a_l2 rfl rfl rfl ?_
      refine a_l4 rfl rfl rfl ?_
      refine a_gS rfl lX12_304 mo_X12_has (r_X12_has) rfl rfl rfl rfl (fun v' h' hv => ?_)
      obtain ⟨⟨v6, rfl⟩, rfl⟩ := hv
      refine a_if_ne rfl (fun c56 => ?_) (fun c56 => ?_)
      · refine a_l0 rfl rfl rfl ?_
        refine a_l4 rfl rfl rfl ?_
        refine a_gV rfl lX12_423 mo_X12_chainOf (r_X12_chainOf sh41 lh41 gh41 hd41) rfl rfl rfl ⟨12, _, rfl, rfl, rfl⟩ rfl (fun v' h' hv => ?_)
        obtain ⟨⟨v7, rfl⟩, rfl⟩ := hv
        refine a_s rfl rfl ?_
        refine a_ic_ne rfl (fun c69 => ?_) (fun c69 => ?_)
        · refine a_l3 rfl rfl rfl ?_
          refine a_l0 rfl rfl rfl ?_
          refine a_l4 rfl rfl rfl ?_
          refine a_gV rfl lX12_423 mo_X12_chainOf (r_X12_chainOf sh41 lh41 gh41 hd41) rfl rfl rfl ⟨12, _, rfl, rfl, rfl⟩ rfl (fun v' h' hv => ?_)
          obtain ⟨⟨v8, rfl⟩, rfl⟩ := hv
          refine a_s rfl rfl ?_
          refine a_s3 rfl rfl rfl rfl rfl rfl ?_
          refine a_i4 rfl rfl rfl ?_
          refine a_goto rfl ?_
          exact ih41 _ _ _ _ c47 ⟨_, _, _, rfl, rfl, fh41⟩ ⟨rfl, rfl, rfl, rfl, nS _, trivial⟩
        · refine a_s rfl rfl ?_
          exact a_iret rfl rfl ⟨⟨_, rfl⟩, _, rfl, fh41⟩
      · refine a_goto rfl ?_
        refine a_i4 rfl rfl rfl ?_
        refine a_goto rfl ?_
        exact ih41 _ _ _ _ c47 ⟨_, _, _, rfl, rfl, fh41⟩ ⟨rfl, rfl, rfl, rfl, nS _, trivial⟩
  · refine a_s rfl rfl ?_
    refine a_goto rfl ?_
    refine a_s rfl rfl ?_
    refine a_gV rfl lX12_243 mo_X12_throwsIf (r_X12_throwsIf (b := true)) rfl rfl rfl ⟨12, _, rfl, rfl, rfl⟩ rfl (fun v' h' hv => ?_)
    obtain ⟨rfl, I9, rfl, f10⟩ := hv
    replace f10 : Fm sU I I9 := Fm.tr (f2) (f10)
    have s10 := SO.fm hs (Fm.mo f10 sU_sV); have l10 := LwW.fm hw (Fm.mo f10 sU_sV); have g10 := LgW.fm lg (Fm.mo f10 sU_sV)
    refine a_if_eq rfl (fun c => absurd c (by decide)) (fun _ => ?_)
    refine a_s rfl rfl ?_
    exact a_iret rfl rfl ⟨⟨_, rfl⟩, _, rfl, f10⟩
theorem r_X12_older {S : aS} {I : Nat → Nat → Int32} {L : Nat → Nat → Int64} {w1 w2 t : Nat} {x1 : Int32} {nd np : Nat} (hs : SO nd np (I 421)) (hw : LwW (I 421)) (lg : LgW (I 421)) : Sp S m_X12_older 16 0 0 [.ref 420, .int x1] (hp I L w1 w2 t) (QR (Fm sU I) isI L w1 w2 t) nX := by
  refine Sp_of ok_X12_older rfl rfl ?_
  show AW S m_X12_older 16 _ _ 0 0 0 [some (.ref 420), some (.int x1)] [] (hp I L w1 w2 t)
  refine a_l0 rfl rfl rfl ?_
  refine a_s rfl rfl ?_
  refine a_puti rfl pfX12_3_12 rfl ?_
  refine a_ren (P := Fm sU I) (Fm.up (Fm.rf (s := sU)) rfl) (fun I1 f2 => ?_)
  have s2 := SO.fm hs (Fm.mo f2 sU_sV); have l2 := LwW.fm hw (Fm.mo f2 sU_sV); have g2 := LgW.fm lg (Fm.mo f2 sU_sV)
  refine a_l0 rfl rfl rfl ?_
  refine a_l1 rfl rfl rfl ?_
  refine a_s rfl rfl ?_
  refine a_s rfl rfl ?_
  refine a_eS1 rfl lX12_70 mo_X12_in (sp_X12_in) rfl rfl rfl rfl ?_
  refine a_if_ne rfl (fun c13 => ?_) (fun c13 => ?_)
  · obtain ⟨m3, hm3a, hm3b, rfl⟩ := inB_nI (a := 0) (b := 99) (by decide) (bI_t c13)
    refine a_s rfl rfl ?_
    refine a_s rfl rfl ?_
    refine a_gV rfl lX12_243 mo_X12_throwsIf (r_X12_throwsIf (b := false)) rfl rfl rfl ⟨12, _, rfl, rfl, rfl⟩ rfl (fun v' h' hv => ?_)
    obtain ⟨rfl, I4, rfl, f5⟩ := hv
    replace f5 : Fm sU I I4 := Fm.tr (f2) (f5)
    have s5 := SO.fm hs (Fm.mo f5 sU_sV); have l5 := LwW.fm hw (Fm.mo f5 sU_sV); have g5 := LgW.fm lg (Fm.mo f5 sU_sV)
    refine a_if_eq rfl (fun _ => ?_) (fun c => absurd (by decide) c)
    refine a_l0 rfl rfl rfl ?_
    refine a_l1 rfl rfl rfl ?_
    refine a_eV1 rfl lX12_429 mo_X12_olderOnes (sp_X12_olderOnes s5.n s5.du) rfl rfl rfl ⟨12, _, rfl, rfl, rfl⟩ rfl ?_
    refine a_eS1 rfl lX12_310 mo_J6_bitCount_0f7a4 (sp_bitCount) rfl rfl rfl rfl ?_
    exact a_iret rfl rfl ⟨⟨_, rfl⟩, _, rfl, f5⟩
  · refine a_s rfl rfl ?_
    refine a_goto rfl ?_
    refine a_s rfl rfl ?_
    refine a_gV rfl lX12_243 mo_X12_throwsIf (r_X12_throwsIf (b := true)) rfl rfl rfl ⟨12, _, rfl, rfl, rfl⟩ rfl (fun v' h' hv => ?_)
    obtain ⟨rfl, I6, rfl, f7⟩ := hv
    replace f7 : Fm sU I I6 := Fm.tr (f2) (f7)
    have s7 := SO.fm hs (Fm.mo f7 sU_sV); have l7 := LwW.fm hw (Fm.mo f7 sU_sV); have g7 := LgW.fm lg (Fm.mo f7 sU_sV)
    refine a_if_eq rfl (fun c => absurd c (by decide)) (fun _ => ?_)
    refine a_s rfl rfl ?_
    refine a_goto rfl ?_
    exact a_iret rfl rfl ⟨⟨_, rfl⟩, _, rfl, f7⟩
theorem r_X12_does {S : aS} {I : Nat → Nat → Int32} {L : Nat → Nat → Int64} {w1 w2 t : Nat} {x1 : Int32} {b2 : Bool} {nd np : Nat} (hs : SO nd np (I 421)) (hw : LwW (I 421)) (lg : LgW (I 421)) : Sp S m_X12_does 22 0 0 [.ref 420, .int x1, .int (bI b2)] (hp I L w1 w2 t) (QR (Fm sU I) isI L w1 w2 t) nX := by
  refine Sp_of ok_X12_does rfl rfl ?_
  show AW S m_X12_does 22 _ _ 0 0 0 [some (.ref 420), some (.int x1), some (.int (bI b2)), none] [] (hp I L w1 w2 t)
  refine a_l0 rfl rfl rfl ?_
  refine a_s rfl rfl ?_
  refine a_puti rfl pfX12_3_12 rfl ?_
  refine a_ren (P := Fm sU I) (Fm.up (Fm.rf (s := sU)) rfl) (fun I1 f2 => ?_)
  have s2 := SO.fm hs (Fm.mo f2 sU_sV); have l2 := LwW.fm hw (Fm.mo f2 sU_sV); have g2 := LgW.fm lg (Fm.mo f2 sU_sV)
  refine a_l0 rfl rfl rfl ?_
  refine a_l1 rfl rfl rfl ?_
  refine a_s rfl rfl ?_
  refine a_s rfl rfl ?_
  refine a_eS1 rfl lX12_70 mo_X12_in (sp_X12_in) rfl rfl rfl rfl ?_
  refine a_if_ne rfl (fun c13 => ?_) (fun c13 => ?_)
  · obtain ⟨m3, hm3a, hm3b, rfl⟩ := inB_nI (a := 0) (b := 99) (by decide) (bI_t c13)
    refine a_s rfl rfl ?_
    refine a_s rfl rfl ?_
    refine a_gV rfl lX12_243 mo_X12_throwsIf (r_X12_throwsIf (b := false)) rfl rfl rfl ⟨12, _, rfl, rfl, rfl⟩ rfl (fun v' h' hv => ?_)
    obtain ⟨rfl, I4, rfl, f5⟩ := hv
    replace f5 : Fm sU I I4 := Fm.tr (f2) (f5)
    have s5 := SO.fm hs (Fm.mo f5 sU_sV); have l5 := LwW.fm hw (Fm.mo f5 sU_sV); have g5 := LgW.fm lg (Fm.mo f5 sU_sV)
    refine a_if_eq rfl (fun _ => ?_) (fun c => absurd (by decide) c)
    refine a_l0 rfl rfl rfl ?_
    refine a_l1 rfl rfl rfl ?_
    refine a_gV rfl lX12_435 mo_X12_toDo (r_X12_toDo s5 l5 g5) rfl rfl rfl ⟨12, _, rfl, rfl, rfl⟩ rfl (fun v' h' hv => ?_)
    obtain ⟨⟨v6, rfl⟩, I7, rfl, f8⟩ := hv
    replace f8 : Fm sU I I7 := Fm.tr (f5) (f8)
    have s8 := SO.fm hs (Fm.mo f8 sU_sV); have l8 := LwW.fm hw (Fm.mo f8 sU_sV); have g8 := LgW.fm lg (Fm.mo f8 sU_sV)
    refine a_s3 rfl rfl rfl rfl rfl rfl ?_
    refine a_l2 rfl rfl rfl ?_
    refine a_if_eq rfl (fun c37 => ?_) (fun c37 => ?_)
    · refine a_l3 rfl rfl rfl ?_
      exact a_iret rfl rfl ⟨⟨_, rfl⟩, _, rfl, f8⟩
    · refine a_l0 rfl rfl rfl ?_
      refine a_l0 rfl rfl rfl ?_
      refine a_s rfl rfl ?_
      refine a_eV1 rfl lX12_324 mo_X12_ofState (sp_X12_ofState s8.n s8.du) rfl rfl rfl ⟨12, _, rfl, rfl, rfl⟩ rfl ?_
      refine a_topE (bs_nI12 s8.n) (fun mc9 hmc9 => ?_)
      refine a_l3 rfl rfl rfl ?_
      refine a_s rfl rfl ?_
      refine a_s rfl rfl ?_
      refine a_s rfl rfl ?_
      refine a_gV rfl lX12_339 mo_X12_shameOf (r_X12_shameOf s8 l8 g8) rfl rfl rfl ⟨12, _, rfl, rfl, rfl⟩ rfl (fun v' h' hv => ?_)
      obtain ⟨⟨v10, rfl⟩, I11, rfl, f12⟩ := hv
      replace f12 : Fm sU I I11 := Fm.tr (f8) (f12)
      have s12 := SO.fm hs (Fm.mo f12 sU_sV); have l12 := LwW.fm hw (Fm.mo f12 sU_sV); have g12 := LgW.fm lg (Fm.mo f12 sU_sV)
      refine a_goto rfl ?_
      exact a_iret rfl rfl ⟨⟨_, rfl⟩, _, rfl, f12⟩
  · refine a_s rfl rfl ?_
    refine a_goto rfl ?_
    refine a_s rfl rfl ?_
    refine a_gV rfl lX12_243 mo_X12_throwsIf (r_X12_throwsIf (b := true)) rfl rfl rfl ⟨12, _, rfl, rfl, rfl⟩ rfl (fun v' h' hv => ?_)
    obtain ⟨rfl, I13, rfl, f14⟩ := hv
    replace f14 : Fm sU I I13 := Fm.tr (f2) (f14)
    have s14 := SO.fm hs (Fm.mo f14 sU_sV); have l14 := LwW.fm hw (Fm.mo f14 sU_sV); have g14 := LgW.fm lg (Fm.mo f14 sU_sV)
    refine a_if_eq rfl (fun c => absurd c (by decide)) (fun _ => ?_)
    refine a_s rfl rfl ?_
    exact a_iret rfl rfl ⟨⟨_, rfl⟩, _, rfl, f14⟩
theorem r_X12_gap {S : aS} {I : Nat → Nat → Int32} {L : Nat → Nat → Int64} {w1 w2 t : Nat} {nd np : Nat} (hs : SO nd np (I 421)) (hw : LwW (I 421)) (lg : LgW (I 421)) : Sp S m_X12_gap 17 0 0 [.ref 420] (hp I L w1 w2 t) (QR (Fm sU I) isI L w1 w2 t) nX := by
  refine Sp_of ok_X12_gap rfl rfl ?_
  show AW S m_X12_gap 17 _ _ 0 0 0 [some (.ref 420), none] [] (hp I L w1 w2 t)
  refine a_l0 rfl rfl rfl ?_
  refine a_s rfl rfl ?_
  refine a_puti rfl pfX12_3_12 rfl ?_
  refine a_ren (P := Fm sU I) (Fm.up (Fm.rf (s := sU)) rfl) (fun I1 f2 => ?_)
  have s2 := SO.fm hs (Fm.mo f2 sU_sV); have l2 := LwW.fm hw (Fm.mo f2 sU_sV); have g2 := LgW.fm lg (Fm.mo f2 sU_sV)
  refine a_s rfl rfl ?_
  refine a_s1 rfl rfl rfl rfl rfl rfl ?_
  refine a_cnt (j0 := 0) (fun j ls h => ∃ I', ls = [some (.ref 420), some (.int (nI j))] ∧ h = hp I' L w1 w2 t ∧ Fm sU I I') (by decide) ⟨_, rfl, rfl, f2⟩ ⟨rfl, rfl, trivial⟩ ?_
  rintro j7 _ _ hj7 ⟨Ih7, rfl, rfl, fh7⟩ ih7
  have sh7 := SO.fm hs (Fm.mo fh7 sU_sV); have lh7 := LwW.fm hw (Fm.mo fh7 sU_sV); have gh7 := LgW.fm lg (Fm.mo fh7 sU_sV)
  refine a_l1 rfl rfl rfl ?_
  refine a_s rfl rfl ?_
  refine a_ic_ge rfl (fun c10 => ?_) (fun c10 => ?_)
  · refine a_s rfl rfl ?_
    exact a_iret rfl rfl ⟨⟨_, rfl⟩, _, rfl, fh7⟩
  · have hd7 : j7 < 99 := nI_lt_of (b := 99) c10 hj7 (by decide)
    refine a_l0 rfl rfl rfl ?_
    refine a_l1 rfl rfl rfl ?_
    refine a_gV rfl lX12_444 mo_X12_isGap (r_X12_isGap sh7 lh7 gh7) rfl rfl rfl ⟨12, _, rfl, rfl, rfl⟩ rfl (fun v' h' hv => ?_)
    obtain ⟨⟨v3, rfl⟩, rfl⟩ := hv
    refine a_if_eq rfl (fun c18 => ?_) (fun c18 => ?_)
    · refine a_i1 rfl rfl rfl ?_
      refine a_goto rfl ?_
      exact ih7 _ _ _ _ c10 ⟨_, rfl, rfl, fh7⟩ ⟨rfl, nS _, trivial⟩
    · refine a_l1 rfl rfl rfl ?_
      exact a_iret rfl rfl ⟨⟨_, rfl⟩, _, rfl, fh7⟩
theorem r_X12_lost {S : aS} {I : Nat → Nat → Int32} {L : Nat → Nat → Int64} {w1 w2 t : Nat} {nd np : Nat} (hs : SO nd np (I 421)) (hw : LwW (I 421)) (lg : LgW (I 421)) : Sp S m_X12_lost 15 0 0 [.ref 420] (hp I L w1 w2 t) (QR (Fm sU I) isI L w1 w2 t) nX := by
  refine Sp_of ok_X12_lost rfl rfl ?_
  show AW S m_X12_lost 15 _ _ 0 0 0 [some (.ref 420)] [] (hp I L w1 w2 t)
  refine a_l0 rfl rfl rfl ?_
  refine a_s rfl rfl ?_
  refine a_puti rfl pfX12_3_12 rfl ?_
  refine a_ren (P := Fm sU I) (Fm.up (Fm.rf (s := sU)) rfl) (fun I1 f2 => ?_)
  have s2 := SO.fm hs (Fm.mo f2 sU_sV); have l2 := LwW.fm hw (Fm.mo f2 sU_sV); have g2 := LgW.fm lg (Fm.mo f2 sU_sV)
  refine a_l0 rfl rfl rfl ?_
  refine a_s rfl rfl ?_
  refine a_eV1 rfl lX12_324 mo_X12_ofState (sp_X12_ofState s2.n s2.du) rfl rfl rfl ⟨12, _, rfl, rfl, rfl⟩ rfl ?_
  refine a_topE (bs_nI12 s2.n) (fun mc3 hmc3 => ?_)
  exact a_iret rfl rfl ⟨⟨_, rfl⟩, _, rfl, f2⟩
theorem r_X12_missed {S : aS} {I : Nat → Nat → Int32} {L : Nat → Nat → Int64} {w1 w2 t : Nat} {nd np : Nat} (hs : SO nd np (I 421)) (hw : LwW (I 421)) (lg : LgW (I 421)) : Sp S m_X12_missed 17 0 0 [.ref 420] (hp I L w1 w2 t) (QR (Fm sU I) isI L w1 w2 t) nX := by
  refine Sp_of ok_X12_missed rfl rfl ?_
  show AW S m_X12_missed 17 _ _ 0 0 0 [some (.ref 420), none, none] [] (hp I L w1 w2 t)
  refine a_l0 rfl rfl rfl ?_
  refine a_s rfl rfl ?_
  refine a_puti rfl pfX12_3_12 rfl ?_
  refine a_ren (P := Fm sU I) (Fm.up (Fm.rf (s := sU)) rfl) (fun I1 f2 => ?_)
  have s2 := SO.fm hs (Fm.mo f2 sU_sV); have l2 := LwW.fm hw (Fm.mo f2 sU_sV); have g2 := LgW.fm lg (Fm.mo f2 sU_sV)
  refine a_s rfl rfl ?_
  refine a_s1 rfl rfl rfl rfl rfl rfl ?_
  refine a_s rfl rfl ?_
  refine a_s2 rfl rfl rfl rfl rfl rfl ?_
  refine a_cnt (j0 := 0) (fun j ls h => ∃ a0, ∃ I', ls = [some (.ref 420), some (.int a0), some (.int (nI j))] ∧ h = hp I' L w1 w2 t ∧ Fm sU I I') (by decide) ⟨_, _, rfl, rfl, f2⟩ ⟨rfl, rfl, rfl, trivial⟩ ?_
  rintro j9 _ _ hj9 ⟨a0_9, Ih9, rfl, rfl, fh9⟩ ih9
  have sh9 := SO.fm hs (Fm.mo fh9 sU_sV); have lh9 := LwW.fm hw (Fm.mo fh9 sU_sV); have gh9 := LgW.fm lg (Fm.mo fh9 sU_sV)
  refine a_l2 rfl rfl rfl ?_
  refine a_l0 rfl rfl rfl ?_
  refine a_eV1 rfl lX12_74 mo_X12_duties (sp_X12_duties) rfl rfl rfl ⟨12, _, rfl, rfl, rfl⟩ rfl ?_
  refine a_top (y := nI nd) sh9.du ?_
  refine a_ic_ge rfl (fun c14 => ?_) (fun c14 => ?_)
  · refine a_l1 rfl rfl rfl ?_
    exact a_iret rfl rfl ⟨⟨_, rfl⟩, _, rfl, fh9⟩
  · have hd9 : j9 < nd := nI_lt_of c14 hj9 (by have := hs.n; omega)
    refine a_l1 rfl rfl rfl ?_
    refine a_l0 rfl rfl rfl ?_
    refine a_l2 rfl rfl rfl ?_
    refine a_eV1 rfl lX12_364 mo_X12_isForgotten (sp_X12_isForgotten (d := j9) (Nat.lt_of_lt_of_le hd9 sh9.n)) rfl rfl rfl ⟨12, _, rfl, rfl, rfl⟩ rfl ?_
    refine a_if_eq rfl (fun c23 => ?_) (fun c23 => ?_)
    · refine a_s rfl rfl ?_
      refine a_s rfl rfl ?_
      refine a_s1 rfl rfl rfl rfl rfl rfl ?_
      refine a_i2 rfl rfl rfl ?_
      refine a_goto rfl ?_
      exact ih9 _ _ _ _ c14 ⟨_, _, rfl, rfl, fh9⟩ ⟨rfl, rfl, nS _, trivial⟩
    · refine a_l0 rfl rfl rfl ?_
      refine a_l0 rfl rfl rfl ?_
      refine a_l2 rfl rfl rfl ?_
      refine a_s rfl rfl ?_
      refine a_eV1 rfl lX12_63 mo_X12_of (sp_X12_of (d := j9) (k := 2) (Nat.lt_of_lt_of_le hd9 sh9.n) (by decide)) rfl rfl rfl ⟨12, _, rfl, rfl, rfl⟩ rfl ?_
      refine a_gV rfl lX12_444 mo_X12_isGap (r_X12_isGap sh9 lh9 gh9) rfl rfl rfl ⟨12, _, rfl, rfl, rfl⟩ rfl (fun v' h' hv => ?_)
      obtain ⟨⟨v3, rfl⟩, rfl⟩ := hv
      refine a_if_eq rfl (fun c36 => ?_) (fun c36 => ?_)
      · refine a_s rfl rfl ?_
        refine a_s rfl rfl ?_
        refine a_s1 rfl rfl rfl rfl rfl rfl ?_
        refine a_i2 rfl rfl rfl ?_
        refine a_goto rfl ?_
        exact ih9 _ _ _ _ c14 ⟨_, _, rfl, rfl, fh9⟩ ⟨rfl, rfl, nS _, trivial⟩
      · refine a_s rfl rfl ?_
        refine a_l2 rfl rfl rfl ?_
        refine a_s rfl rfl ?_
        refine a_goto rfl ?_
        refine a_s rfl rfl ?_
        refine a_s1 rfl rfl rfl rfl rfl rfl ?_
        refine a_i2 rfl rfl rfl ?_
        refine a_goto rfl ?_
        exact ih9 _ _ _ _ c14 ⟨_, _, rfl, rfl, fh9⟩ ⟨rfl, rfl, nS _, trivial⟩
theorem r_X12_swap {S : aS} {I : Nat → Nat → Int32} {L : Nat → Nat → Int64} {w1 w2 t : Nat} {x1 x2 : Int32} {nd np : Nat} (hs : SO nd np (I 421)) (hw : LwW (I 421)) (lg : LgW (I 421)) : Sp S m_X12_swap 19 0 0 [.ref 420, .int x1, .int x2] (hp I L w1 w2 t) (QR (Fm sU I) isI L w1 w2 t) nX := by
  refine Sp_of ok_X12_swap rfl rfl ?_
  show AW S m_X12_swap 19 _ _ 0 0 0 [some (.ref 420), some (.int x1), some (.int x2), none, none] [] (hp I L w1 w2 t)
  refine a_l0 rfl rfl rfl ?_
  refine a_s rfl rfl ?_
  refine a_puti rfl pfX12_3_12 rfl ?_
  refine a_ren (P := Fm sU I) (Fm.up (Fm.rf (s := sU)) rfl) (fun I1 f2 => ?_)
  have s2 := SO.fm hs (Fm.mo f2 sU_sV); have l2 := LwW.fm hw (Fm.mo f2 sU_sV); have g2 := LgW.fm lg (Fm.mo f2 sU_sV)
  refine a_l0 rfl rfl rfl ?_
  refine a_l0 rfl rfl rfl ?_
  refine a_l1 rfl rfl rfl ?_
  refine a_eV1 rfl lX12_342 mo_X12_noPerson (r_X12_noPerson s2) rfl rfl rfl ⟨12, _, rfl, rfl, rfl⟩ rfl ?_
  refine a_if_ne rfl (fun c11 => ?_) (fun c11 => ?_)
  · refine a_s rfl rfl ?_
    refine a_goto rfl ?_
    refine a_s rfl rfl ?_
    refine a_gV rfl lX12_243 mo_X12_throwsIf (r_X12_throwsIf (b := true)) rfl rfl rfl ⟨12, _, rfl, rfl, rfl⟩ rfl (fun v' h' hv => ?_)
    obtain ⟨rfl, I3, rfl, f4⟩ := hv
    replace f4 : Fm sU I I3 := Fm.tr (f2) (f4)
    have s4 := SO.fm hs (Fm.mo f4 sU_sV); have l4 := LwW.fm hw (Fm.mo f4 sU_sV); have g4 := LgW.fm lg (Fm.mo f4 sU_sV)
    refine a_if_ne rfl (fun _ => ?_) (fun c => absurd c (by decide))
    refine a_s rfl rfl ?_
    exact a_iret rfl rfl ⟨⟨_, rfl⟩, _, rfl, f4⟩
  · obtain ⟨i5, hi5, rfl⟩ := isIx (n := np) (by have := hs.n; have := hs.p; omega) c11
    refine a_l0 rfl rfl rfl ?_
    refine a_l2 rfl rfl rfl ?_
    refine a_eV1 rfl lX12_342 mo_X12_noPerson (r_X12_noPerson s2) rfl rfl rfl ⟨12, _, rfl, rfl, rfl⟩ rfl ?_
    refine a_if_eq rfl (fun c19 => ?_) (fun c19 => ?_)
    · obtain ⟨i6, hi6, rfl⟩ := isIx (n := np) (by have := hs.n; have := hs.p; omega) c19
      refine a_s rfl rfl ?_
      refine a_s rfl rfl ?_
      refine a_gV rfl lX12_243 mo_X12_throwsIf (r_X12_throwsIf (b := false)) rfl rfl rfl ⟨12, _, rfl, rfl, rfl⟩ rfl (fun v' h' hv => ?_)
      obtain ⟨rfl, I7, rfl, f8⟩ := hv
      replace f8 : Fm sU I I7 := Fm.tr (f2) (f8)
      have s8 := SO.fm hs (Fm.mo f8 sU_sV); have l8 := LwW.fm hw (Fm.mo f8 sU_sV); have g8 := LgW.fm lg (Fm.mo f8 sU_sV)
      refine a_if_ne rfl (fun c => absurd (by decide) c) (fun _ => ?_)
      refine a_l0 rfl rfl rfl ?_
      refine a_l1 rfl rfl rfl ?_
      refine a_l2 rfl rfl rfl ?_
      refine a_ic_ne rfl (fun c37 => ?_) (fun c37 => ?_)
      · refine a_s rfl rfl ?_
        refine a_s rfl rfl ?_
        refine a_gV rfl lX12_243 mo_X12_throwsIf (r_X12_throwsIf (b := false)) rfl rfl rfl ⟨12, _, rfl, rfl, rfl⟩ rfl (fun v' h' hv => ?_)
        obtain ⟨rfl, I9, rfl, f10⟩ := hv
        replace f10 : Fm sU I I9 := Fm.tr (f8) (f10)
        have s10 := SO.fm hs (Fm.mo f10 sU_sV); have l10 := LwW.fm hw (Fm.mo f10 sU_sV); have g10 := LgW.fm lg (Fm.mo f10 sU_sV)
        refine a_if_eq rfl (fun _ => ?_) (fun c => absurd (by decide) c)
        refine a_s rfl rfl ?_
        refine a_s3 rfl rfl rfl rfl rfl rfl ?_
        refine a_cnt (j0 := 0) (fun j ls h => ∃ I', ls = [some (.ref 420), some (.int (nI i5)), some (.int (nI i6)), some (.int (nI j)), none] ∧ h = hp I' L w1 w2 t ∧ Fm sU I I') (by decide) ⟨_, rfl, rfl, f10⟩ ⟨rfl, rfl, rfl, rfl, trivial⟩ ?_
        rintro j56 _ _ hj56 ⟨Ih56, rfl, rfl, fh56⟩ ih56
        have sh56 := SO.fm hs (Fm.mo fh56 sU_sV); have lh56 := LwW.fm hw (Fm.mo fh56 sU_sV); have gh56 := LgW.fm lg (Fm.mo fh56 sU_sV)
        refine a_l3 rfl rfl rfl ?_
        refine a_l0 rfl rfl rfl ?_
        refine a_eV1 rfl lX12_74 mo_X12_duties (sp_X12_duties) rfl rfl rfl ⟨12, _, rfl, rfl, rfl⟩ rfl ?_
        refine a_top (y := nI nd) sh56.du ?_
        refine a_ic_ge rfl (fun c61 => ?_) (fun c61 => ?_)
        · refine a_s rfl rfl ?_
          exact a_iret rfl rfl ⟨⟨_, rfl⟩, _, rfl, fh56⟩
        · have hd56 : j56 < nd := nI_lt_of c61 hj56 (by have := hs.n; omega)
          refine a_s rfl rfl ?_
          refine a_s4 rfl rfl rfl rfl rfl rfl ?_
          refine a_cnt (j0 := 0) (fun j ls h => ∃ I', ls = [some (.ref 420), some (.int (nI i5)), some (.int (nI i6)), some (.int (nI j56)), some (.int (nI j))] ∧ h = hp I' L w1 w2 t ∧ Fm sU I I') (by decide) ⟨_, rfl, rfl, fh56⟩ ⟨rfl, rfl, rfl, rfl, rfl, trivial⟩ ?_
          rintro j67 _ _ hj67 ⟨Ih67, rfl, rfl, fh67⟩ ih67
          have sh67 := SO.fm hs (Fm.mo fh67 sU_sV); have lh67 := LwW.fm hw (Fm.mo fh67 sU_sV); have gh67 := LgW.fm lg (Fm.mo fh67 sU_sV)
          refine a_l4 rfl rfl rfl ?_
          refine a_l0 rfl rfl rfl ?_
          refine a_eV1 rfl lX12_74 mo_X12_duties (sp_X12_duties) rfl rfl rfl ⟨12, _, rfl, rfl, rfl⟩ rfl ?_
          refine a_top (y := nI nd) sh67.du ?_
          refine a_ic_ge rfl (fun c73 => ?_) (fun c73 => ?_)
          · refine a_i3 rfl rfl rfl ?_
            refine a_goto rfl ?_
            exact ih56 _ _ _ _ c61 ⟨_, rfl, rfl, fh67⟩ ⟨rfl, rfl, rfl, nS _, trivial⟩
          · have hd67 : j67 < nd := nI_lt_of c73 hj67 (by have := hs.n; omega)
            refine a_l0 rfl rfl rfl ?_
            refine a_l1 rfl rfl rfl ?_
            refine a_eV1 rfl lX12_327 mo_X12_waitingOf (sp_X12_waitingOf sh67.n sh67.du) rfl rfl rfl ⟨12, _, rfl, rfl, rfl⟩ rfl ?_
            refine a_l3 rfl rfl rfl ?_
            refine a_gS rfl lX12_304 mo_X12_has (r_X12_has) rfl rfl rfl rfl (fun v' h' hv => ?_)
            obtain ⟨⟨v11, rfl⟩, rfl⟩ := hv
            refine a_if_eq rfl (fun c85 => ?_) (fun c85 => ?_)
            · refine a_i4 rfl rfl rfl ?_
              refine a_goto rfl ?_
              exact ih67 _ _ _ _ c73 ⟨_, rfl, rfl, fh67⟩ ⟨rfl, rfl, rfl, rfl, nS _, trivial⟩
            · refine a_l0 rfl rfl rfl ?_
              refine a_l2 rfl rfl rfl ?_
              refine a_eV1 rfl lX12_327 mo_X12_waitingOf (sp_X12_waitingOf sh67.n sh67.du) rfl rfl rfl ⟨12, _, rfl, rfl, rfl⟩ rfl ?_
              refine a_l4 rfl rfl rfl ?_
              refine a_gS rfl lX12_304 mo_X12_has (r_X12_has) rfl rfl rfl rfl (fun v' h' hv => ?_)
              obtain ⟨⟨v12, rfl⟩, rfl⟩ := hv
              refine a_if_eq rfl (fun c98 => ?_) (fun c98 => ?_)
              · refine a_i4 rfl rfl rfl ?_
                refine a_goto rfl ?_
                exact ih67 _ _ _ _ c73 ⟨_, rfl, rfl, fh67⟩ ⟨rfl, rfl, rfl, rfl, nS _, trivial⟩
              · refine a_l0 rfl rfl rfl ?_
                refine a_l1 rfl rfl rfl ?_
                refine a_l2 rfl rfl rfl ?_
                refine a_l3 rfl rfl rfl ?_
                refine a_l4 rfl rfl rfl ?_
                refine a_gV rfl lX12_447 mo_X12_serves (r_X12_serves sh67 lh67 gh67 hi5 hi6 hd56 hd67) rfl rfl rfl ⟨12, _, rfl, rfl, rfl⟩ rfl (fun v' h' hv => ?_)
                obtain ⟨⟨v13, rfl⟩, rfl⟩ := hv
                refine a_if_eq rfl (fun c110 => ?_) (fun c110 => ?_)
                · refine a_i4 rfl rfl rfl ?_
                  refine a_goto rfl ?_
                  exact ih67 _ _ _ _ c73 ⟨_, rfl, rfl, fh67⟩ ⟨rfl, rfl, rfl, rfl, nS _, trivial⟩
                · refine a_s rfl rfl ?_
                  refine a_l3 rfl rfl rfl ?_
                  refine a_s rfl rfl ?_
                  refine a_l4 rfl rfl rfl ?_
                  refine a_s rfl rfl ?_
                  exact a_iret rfl rfl ⟨⟨_, rfl⟩, _, rfl, fh67⟩
      · refine a_s rfl rfl ?_
        refine a_goto rfl ?_
        refine a_s rfl rfl ?_
        refine a_gV rfl lX12_243 mo_X12_throwsIf (r_X12_throwsIf (b := true)) rfl rfl rfl ⟨12, _, rfl, rfl, rfl⟩ rfl (fun v' h' hv => ?_)
        obtain ⟨rfl, I14, rfl, f15⟩ := hv
        replace f15 : Fm sU I I14 := Fm.tr (f8) (f15)
        have s15 := SO.fm hs (Fm.mo f15 sU_sV); have l15 := LwW.fm hw (Fm.mo f15 sU_sV); have g15 := LgW.fm lg (Fm.mo f15 sU_sV)
        refine a_if_eq rfl (fun c => absurd c (by decide)) (fun _ => ?_)
        refine a_s rfl rfl ?_
        exact a_iret rfl rfl ⟨⟨_, rfl⟩, _, rfl, f15⟩
    · refine a_s rfl rfl ?_
      refine a_goto rfl ?_
      refine a_s rfl rfl ?_
      refine a_gV rfl lX12_243 mo_X12_throwsIf (r_X12_throwsIf (b := true)) rfl rfl rfl ⟨12, _, rfl, rfl, rfl⟩ rfl (fun v' h' hv => ?_)
      obtain ⟨rfl, I16, rfl, f17⟩ := hv
      replace f17 : Fm sU I I16 := Fm.tr (f2) (f17)
      have s17 := SO.fm hs (Fm.mo f17 sU_sV); have l17 := LwW.fm hw (Fm.mo f17 sU_sV); have g17 := LgW.fm lg (Fm.mo f17 sU_sV)
      refine a_if_ne rfl (fun _ => ?_) (fun c => absurd c (by decide))
      refine a_s rfl rfl ?_
      exact a_iret rfl rfl ⟨⟨_, rfl⟩, _, rfl, f17⟩
theorem r_X12_rests {S : aS} {I : Nat → Nat → Int32} {L : Nat → Nat → Int64} {w1 w2 t : Nat} {x1 x2 x3 : Int32} {nd np : Nat} (hs : SO nd np (I 421)) (hw : LwW (I 421)) (lg : LgW (I 421)) : Sp S m_X12_rests 21 0 0 [.ref 420, .int x1, .int x2, .int x3] (hp I L w1 w2 t) (QR (Fm sU I) isI L w1 w2 t) nX := by
  refine Sp_of ok_X12_rests rfl rfl ?_
  show AW S m_X12_rests 21 _ _ 0 0 0 [some (.ref 420), some (.int x1), some (.int x2), some (.int x3), none, none, none] [] (hp I L w1 w2 t)
  refine a_l0 rfl rfl rfl ?_
  refine a_s rfl rfl ?_
  refine a_puti rfl pfX12_3_12 rfl ?_
  refine a_ren (P := Fm sU I) (Fm.up (Fm.rf (s := sU)) rfl) (fun I1 f2 => ?_)
  have s2 := SO.fm hs (Fm.mo f2 sU_sV); have l2 := LwW.fm hw (Fm.mo f2 sU_sV); have g2 := LgW.fm lg (Fm.mo f2 sU_sV)
  refine a_l0 rfl rfl rfl ?_
  refine a_l0 rfl rfl rfl ?_
  refine a_l1 rfl rfl rfl ?_
  refine a_eV1 rfl lX12_342 mo_X12_noPerson (r_X12_noPerson s2) rfl rfl rfl ⟨12, _, rfl, rfl, rfl⟩ rfl ?_
  refine a_if_ne rfl (fun c11 => ?_) (fun c11 => ?_)
  · refine a_s rfl rfl ?_
    refine a_goto rfl ?_
    refine a_s rfl rfl ?_
    refine a_gV rfl lX12_243 mo_X12_throwsIf (r_X12_throwsIf (b := true)) rfl rfl rfl ⟨12, _, rfl, rfl, rfl⟩ rfl (fun v' h' hv => ?_)
    obtain ⟨rfl, I3, rfl, f4⟩ := hv
    replace f4 : Fm sU I I3 := Fm.tr (f2) (f4)
    have s4 := SO.fm hs (Fm.mo f4 sU_sV); have l4 := LwW.fm hw (Fm.mo f4 sU_sV); have g4 := LgW.fm lg (Fm.mo f4 sU_sV)
    refine a_if_ne rfl (fun _ => ?_) (fun c => absurd c (by decide))
    refine a_s rfl rfl ?_
    exact a_iret rfl rfl ⟨⟨_, rfl⟩, _, rfl, f4⟩
  · obtain ⟨i5, hi5, rfl⟩ := isIx (n := np) (by have := hs.n; have := hs.p; omega) c11
    refine a_l0 rfl rfl rfl ?_
    refine a_l2 rfl rfl rfl ?_
    refine a_eV1 rfl lX12_342 mo_X12_noPerson (r_X12_noPerson s2) rfl rfl rfl ⟨12, _, rfl, rfl, rfl⟩ rfl ?_
    refine a_if_ne rfl (fun c19 => ?_) (fun c19 => ?_)
    · refine a_s rfl rfl ?_
      refine a_goto rfl ?_
      refine a_s rfl rfl ?_
      refine a_gV rfl lX12_243 mo_X12_throwsIf (r_X12_throwsIf (b := true)) rfl rfl rfl ⟨12, _, rfl, rfl, rfl⟩ rfl (fun v' h' hv => ?_)
      obtain ⟨rfl, I6, rfl, f7⟩ := hv
      replace f7 : Fm sU I I6 := Fm.tr (f2) (f7)
      have s7 := SO.fm hs (Fm.mo f7 sU_sV); have l7 := LwW.fm hw (Fm.mo f7 sU_sV); have g7 := LgW.fm lg (Fm.mo f7 sU_sV)
      refine a_if_ne rfl (fun _ => ?_) (fun c => absurd c (by decide))
      refine a_s rfl rfl ?_
      exact a_iret rfl rfl ⟨⟨_, rfl⟩, _, rfl, f7⟩
    · obtain ⟨i8, hi8, rfl⟩ := isIx (n := np) (by have := hs.n; have := hs.p; omega) c19
      refine a_l0 rfl rfl rfl ?_
      refine a_l3 rfl rfl rfl ?_
      refine a_eV1 rfl lX12_289 mo_X12_noDuty (r_X12_noDuty s2) rfl rfl rfl ⟨12, _, rfl, rfl, rfl⟩ rfl ?_
      refine a_if_eq rfl (fun c27 => ?_) (fun c27 => ?_)
      · obtain ⟨i9, hi9, rfl⟩ := isIx (n := nd) (by have := hs.n; have := hs.p; omega) c27
        refine a_s rfl rfl ?_
        refine a_s rfl rfl ?_
        refine a_gV rfl lX12_243 mo_X12_throwsIf (r_X12_throwsIf (b := false)) rfl rfl rfl ⟨12, _, rfl, rfl, rfl⟩ rfl (fun v' h' hv => ?_)
        obtain ⟨rfl, I10, rfl, f11⟩ := hv
        replace f11 : Fm sU I I10 := Fm.tr (f2) (f11)
        have s11 := SO.fm hs (Fm.mo f11 sU_sV); have l11 := LwW.fm hw (Fm.mo f11 sU_sV); have g11 := LgW.fm lg (Fm.mo f11 sU_sV)
        refine a_if_ne rfl (fun c => absurd (by decide) c) (fun _ => ?_)
        refine a_l0 rfl rfl rfl ?_
        refine a_l1 rfl rfl rfl ?_
        refine a_l2 rfl rfl rfl ?_
        refine a_ic_ne rfl (fun c45 => ?_) (fun c45 => ?_)
        · refine a_s rfl rfl ?_
          refine a_s rfl rfl ?_
          refine a_gV rfl lX12_243 mo_X12_throwsIf (r_X12_throwsIf (b := false)) rfl rfl rfl ⟨12, _, rfl, rfl, rfl⟩ rfl (fun v' h' hv => ?_)
          obtain ⟨rfl, I12, rfl, f13⟩ := hv
          replace f13 : Fm sU I I12 := Fm.tr (f11) (f13)
          have s13 := SO.fm hs (Fm.mo f13 sU_sV); have l13 := LwW.fm hw (Fm.mo f13 sU_sV); have g13 := LgW.fm lg (Fm.mo f13 sU_sV)
          refine a_if_eq rfl (fun _ => ?_) (fun c => absurd (by decide) c)
          refine a_s rfl rfl ?_
          refine a_s4 rfl rfl rfl rfl rfl rfl ?_
          refine a_s rfl rfl ?_
          refine a_s5 rfl rfl rfl rfl rfl rfl ?_
          refine a_cnt (j0 := 0) (fun j ls h => ∃ a0, ∃ I', ls = [some (.ref 420), some (.int (nI i5)), some (.int (nI i8)), some (.int (nI i9)), some (.int a0), some (.int (nI j)), none] ∧ h = hp I' L w1 w2 t ∧ Fm sU I I') (by decide) ⟨_, _, rfl, rfl, f13⟩ ⟨rfl, rfl, rfl, rfl, rfl, rfl, trivial⟩ ?_
          rintro j68 _ _ hj68 ⟨a0_68, Ih68, rfl, rfl, fh68⟩ ih68
          have sh68 := SO.fm hs (Fm.mo fh68 sU_sV); have lh68 := LwW.fm hw (Fm.mo fh68 sU_sV); have gh68 := LgW.fm lg (Fm.mo fh68 sU_sV)
          refine a_l5 rfl rfl rfl ?_
          refine a_s rfl rfl ?_
          refine a_ic_ge rfl (fun c71 => ?_) (fun c71 => ?_)
          · refine a_l4 rfl rfl rfl ?_
            exact a_iret rfl rfl ⟨⟨_, rfl⟩, _, rfl, fh68⟩
          · have hd68 : j68 < 2 := nI_lt_of (b := 2) c71 hj68 (by decide)
            refine a_s rfl rfl ?_
            refine a_s6 rfl rfl rfl rfl rfl rfl ?_
            refine a_cnt (j0 := 0) (fun j ls h => ∃ a0, ∃ I', ls = [some (.ref 420), some (.int (nI i5)), some (.int (nI i8)), some (.int (nI i9)), some (.int a0), some (.int (nI j68)), some (.int (nI j))] ∧ h = hp I' L w1 w2 t ∧ Fm sU I I') (by decide) ⟨_, _, rfl, rfl, fh68⟩ ⟨rfl, rfl, rfl, rfl, rfl, rfl, rfl, trivial⟩ ?_
            rintro j77 _ _ hj77 ⟨a0_77, Ih77, rfl, rfl, fh77⟩ ih77
            have sh77 := SO.fm hs (Fm.mo fh77 sU_sV); have lh77 := LwW.fm hw (Fm.mo fh77 sU_sV); have gh77 := LgW.fm lg (Fm.mo fh77 sU_sV)
            refine a_l6 rfl rfl rfl ?_
            refine a_s rfl rfl ?_
            refine a_ic_ge rfl (fun c80 => ?_) (fun c80 => ?_)
            · refine a_i5 rfl rfl rfl ?_
              refine a_goto rfl ?_
              exact ih68 _ _ _ _ c71 ⟨_, _, rfl, rfl, fh77⟩ ⟨rfl, rfl, rfl, rfl, rfl, nS _, trivial⟩
            · have hd77 : j77 < 2 := nI_lt_of (b := 2) c80 hj77 (by decide)
              refine a_l4 rfl rfl rfl ?_
              refine a_l0 rfl rfl rfl ?_
              refine a_l3 rfl rfl rfl ?_
              refine a_l5 rfl rfl rfl ?_
              refine a_l6 rfl rfl rfl ?_
              refine a_gV rfl lX12_451 mo_X12_hasBy (r_X12_hasBy sh77 lh77 gh77 hi9) rfl rfl rfl ⟨12, _, rfl, rfl, rfl⟩ rfl (fun v' h' hv => ?_)
              obtain ⟨⟨v14, rfl⟩, I15, rfl, f16⟩ := hv
              replace f16 : Fm sU I I15 := Fm.tr (fh77) (f16)
              have s16 := SO.fm hs (Fm.mo f16 sU_sV); have l16 := LwW.fm hw (Fm.mo f16 sU_sV); have g16 := LgW.fm lg (Fm.mo f16 sU_sV)
              refine a_l0 rfl rfl rfl ?_
              refine a_l3 rfl rfl rfl ?_
              refine a_s rfl rfl ?_
              refine a_l5 rfl rfl rfl ?_
              refine a_s rfl rfl ?_
              refine a_l6 rfl rfl rfl ?_
              refine a_gV rfl lX12_451 mo_X12_hasBy (r_X12_hasBy s16 l16 g16 hi9) rfl rfl rfl ⟨12, _, rfl, rfl, rfl⟩ rfl (fun v' h' hv => ?_)
              obtain ⟨⟨v17, rfl⟩, I18, rfl, f19⟩ := hv
              replace f19 : Fm sU I I18 := Fm.tr (f16) (f19)
              have s19 := SO.fm hs (Fm.mo f19 sU_sV); have l19 := LwW.fm hw (Fm.mo f19 sU_sV); have g19 := LgW.fm lg (Fm.mo f19 sU_sV)
              refine a_ic_lt rfl (fun c105 => ?_) (fun c105 => ?_)
              · refine a_s rfl rfl ?_
                refine a_s rfl rfl ?_
                refine a_s4 rfl rfl rfl rfl rfl rfl ?_
                refine a_i6 rfl rfl rfl ?_
                refine a_goto rfl ?_
                exact ih77 _ _ _ _ c80 ⟨_, _, rfl, rfl, f19⟩ ⟨rfl, rfl, rfl, rfl, rfl, rfl, nS _, trivial⟩
              · refine a_l0 rfl rfl rfl ?_
                refine a_l3 rfl rfl rfl ?_
                refine a_l6 rfl rfl rfl ?_
                refine a_l5 rfl rfl rfl ?_
                refine a_gV rfl lX12_451 mo_X12_hasBy (r_X12_hasBy s19 l19 g19 hi9) rfl rfl rfl ⟨12, _, rfl, rfl, rfl⟩ rfl (fun v' h' hv => ?_)
                obtain ⟨⟨v20, rfl⟩, I21, rfl, f22⟩ := hv
                replace f22 : Fm sU I I21 := Fm.tr (f19) (f22)
                have s22 := SO.fm hs (Fm.mo f22 sU_sV); have l22 := LwW.fm hw (Fm.mo f22 sU_sV); have g22 := LgW.fm lg (Fm.mo f22 sU_sV)
                refine a_l0 rfl rfl rfl ?_
                refine a_l3 rfl rfl rfl ?_
                refine a_s rfl rfl ?_
                refine a_l6 rfl rfl rfl ?_
                refine a_s rfl rfl ?_
                refine a_l5 rfl rfl rfl ?_
                refine a_gV rfl lX12_451 mo_X12_hasBy (r_X12_hasBy s22 l22 g22 hi9) rfl rfl rfl ⟨12, _, rfl, rfl, rfl⟩ rfl (fun v' h' hv => ?_)
                obtain ⟨⟨v23, rfl⟩, I24, rfl, f25⟩ := hv
                replace f25 : Fm sU I I24 := Fm.tr (f22) (f25)
                have s25 := SO.fm hs (Fm.mo f25 sU_sV); have l25 := LwW.fm hw (Fm.mo f25 sU_sV); have g25 := LgW.fm lg (Fm.mo f25 sU_sV)
                refine a_ic_lt rfl (fun c128 => ?_) (fun c128 => ?_)
                · refine a_s rfl rfl ?_
                  refine a_s rfl rfl ?_
                  refine a_s4 rfl rfl rfl rfl rfl rfl ?_
                  refine a_i6 rfl rfl rfl ?_
                  refine a_goto rfl ?_
                  exact ih77 _ _ _ _ c80 ⟨_, _, rfl, rfl, f25⟩ ⟨rfl, rfl, rfl, rfl, rfl, rfl, nS _, trivial⟩
                · refine a_s rfl rfl ?_
                  refine a_s rfl rfl ?_
                  refine a_l5 rfl rfl rfl ?_
                  refine a_s rfl rfl ?_
                  refine a_l6 rfl rfl rfl ?_
                  refine a_s rfl rfl ?_
                  refine a_s rfl rfl ?_
                  refine a_goto rfl ?_
                  refine a_s rfl rfl ?_
                  refine a_s4 rfl rfl rfl rfl rfl rfl ?_
                  refine a_i6 rfl rfl rfl ?_
                  refine a_goto rfl ?_
                  exact ih77 _ _ _ _ c80 ⟨_, _, rfl, rfl, f25⟩ ⟨rfl, rfl, rfl, rfl, rfl, rfl, nS _, trivial⟩
        · refine a_s rfl rfl ?_
          refine a_goto rfl ?_
          refine a_s rfl rfl ?_
          refine a_gV rfl lX12_243 mo_X12_throwsIf (r_X12_throwsIf (b := true)) rfl rfl rfl ⟨12, _, rfl, rfl, rfl⟩ rfl (fun v' h' hv => ?_)
          obtain ⟨rfl, I26, rfl, f27⟩ := hv
          replace f27 : Fm sU I I26 := Fm.tr (f11) (f27)
          have s27 := SO.fm hs (Fm.mo f27 sU_sV); have l27 := LwW.fm hw (Fm.mo f27 sU_sV); have g27 := LgW.fm lg (Fm.mo f27 sU_sV)
          refine a_if_eq rfl (fun c => absurd c (by decide)) (fun _ => ?_)
          refine a_s rfl rfl ?_
          exact a_iret rfl rfl ⟨⟨_, rfl⟩, _, rfl, f27⟩
      · refine a_s rfl rfl ?_
        refine a_goto rfl ?_
        refine a_s rfl rfl ?_
        refine a_gV rfl lX12_243 mo_X12_throwsIf (r_X12_throwsIf (b := true)) rfl rfl rfl ⟨12, _, rfl, rfl, rfl⟩ rfl (fun v' h' hv => ?_)
        obtain ⟨rfl, I28, rfl, f29⟩ := hv
        replace f29 : Fm sU I I28 := Fm.tr (f2) (f29)
        have s29 := SO.fm hs (Fm.mo f29 sU_sV); have l29 := LwW.fm hw (Fm.mo f29 sU_sV); have g29 := LgW.fm lg (Fm.mo f29 sU_sV)
        refine a_if_ne rfl (fun _ => ?_) (fun c => absurd c (by decide))
        refine a_s rfl rfl ?_
        exact a_iret rfl rfl ⟨⟨_, rfl⟩, _, rfl, f29⟩
theorem r_X12_sponsor {S : aS} {I : Nat → Nat → Int32} {L : Nat → Nat → Int64} {w1 w2 t : Nat} {nd np : Nat} (hs : SO nd np (I 421)) (hw : LwW (I 421)) (lg : LgW (I 421)) : Sp S m_X12_sponsor 15 0 0 [.ref 420] (hp I L w1 w2 t) (QR (Fm sU I) isI L w1 w2 t) nX := by
  refine Sp_of ok_X12_sponsor rfl rfl ?_
  show AW S m_X12_sponsor 15 _ _ 0 0 0 [some (.ref 420), none, none] [] (hp I L w1 w2 t)
  refine a_l0 rfl rfl rfl ?_
  refine a_s rfl rfl ?_
  refine a_puti rfl pfX12_3_12 rfl ?_
  refine a_ren (P := Fm sU I) (Fm.up (Fm.rf (s := sU)) rfl) (fun I1 f2 => ?_)
  have s2 := SO.fm hs (Fm.mo f2 sU_sV); have l2 := LwW.fm hw (Fm.mo f2 sU_sV); have g2 := LgW.fm lg (Fm.mo f2 sU_sV)
  refine a_s rfl rfl ?_
  refine a_s1 rfl rfl rfl rfl rfl rfl ?_
  refine a_s rfl rfl ?_
  refine a_s2 rfl rfl rfl rfl rfl rfl ?_
  refine a_cnt (j0 := 0) (fun j ls h => ∃ a0, ∃ I', ls = [some (.ref 420), some (.int a0), some (.int (nI j))] ∧ h = hp I' L w1 w2 t ∧ Fm sU I I') (by decide) ⟨_, _, rfl, rfl, f2⟩ ⟨rfl, rfl, rfl, trivial⟩ ?_
  rintro j9 _ _ hj9 ⟨a0_9, Ih9, rfl, rfl, fh9⟩ ih9
  have sh9 := SO.fm hs (Fm.mo fh9 sU_sV); have lh9 := LwW.fm hw (Fm.mo fh9 sU_sV); have gh9 := LgW.fm lg (Fm.mo fh9 sU_sV)
  refine a_l2 rfl rfl rfl ?_
  refine a_l0 rfl rfl rfl ?_
  refine a_eV1 rfl lX12_74 mo_X12_duties (sp_X12_duties) rfl rfl rfl ⟨12, _, rfl, rfl, rfl⟩ rfl ?_
  refine a_top (y := nI nd) sh9.du ?_
  refine a_ic_ge rfl (fun c14 => ?_) (fun c14 => ?_)
  · refine a_l1 rfl rfl rfl ?_
    exact a_iret rfl rfl ⟨⟨_, rfl⟩, _, rfl, fh9⟩
  · have hd9 : j9 < nd := nI_lt_of c14 hj9 (by have := hs.n; omega)
    refine a_l1 rfl rfl rfl ?_
    refine a_l0 rfl rfl rfl ?_
    refine a_l2 rfl rfl rfl ?_
    refine a_eV1 rfl lX12_135 mo_X12_isWaiting (sp_X12_isWaiting (d := j9) (Nat.lt_of_lt_of_le hd9 sh9.n)) rfl rfl rfl ⟨12, _, rfl, rfl, rfl⟩ rfl ?_
    refine a_if_eq rfl (fun c23 => ?_) (fun c23 => ?_)
    · refine a_s rfl rfl ?_
      refine a_s rfl rfl ?_
      refine a_s1 rfl rfl rfl rfl rfl rfl ?_
      refine a_i2 rfl rfl rfl ?_
      refine a_goto rfl ?_
      exact ih9 _ _ _ _ c14 ⟨_, _, rfl, rfl, fh9⟩ ⟨rfl, rfl, nS _, trivial⟩
    · refine a_s rfl rfl ?_
      refine a_l0 rfl rfl rfl ?_
      refine a_getq rfl gfX12_13_12 rfl (rfl) ?_
      refine a_s rfl rfl ?_
      refine a_iald rfl (n := 2033) rfl (⟨by decide, by decide⟩) ?_
      refine a_l0 rfl rfl rfl ?_
      refine a_l2 rfl rfl rfl ?_
      refine a_s rfl rfl ?_
      refine a_eV1 rfl lX12_63 mo_X12_of (sp_X12_of (d := j9) (k := 2) (Nat.lt_of_lt_of_le hd9 sh9.n) (by decide)) rfl rfl rfl ⟨12, _, rfl, rfl, rfl⟩ rfl ?_
      refine a_s rfl rfl ?_
      refine a_l0 rfl rfl rfl ?_
      refine a_l2 rfl rfl rfl ?_
      refine a_s rfl rfl ?_
      refine a_eV1 rfl lX12_63 mo_X12_of (sp_X12_of (d := j9) (k := 1) (Nat.lt_of_lt_of_le hd9 sh9.n) (by decide)) rfl rfl rfl ⟨12, _, rfl, rfl, rfl⟩ rfl ?_
      refine a_s rfl rfl ?_
      refine a_max rfl lX12_265 mj_max rfl rfl ?_
      refine a_goto rfl ?_
      refine a_s rfl rfl ?_
      refine a_s1 rfl rfl rfl rfl rfl rfl ?_
      refine a_i2 rfl rfl rfl ?_
      refine a_goto rfl ?_
      exact ih9 _ _ _ _ c14 ⟨_, _, rfl, rfl, fh9⟩ ⟨rfl, rfl, nS _, trivial⟩
theorem r_X12_idle {S : aS} {I : Nat → Nat → Int32} {L : Nat → Nat → Int64} {w1 w2 t : Nat} {nd np : Nat} (hs : SO nd np (I 421)) (hw : LwW (I 421)) (lg : LgW (I 421)) : Sp S m_X12_idle 17 0 0 [.ref 420] (hp I L w1 w2 t) (QR (Fm sU I) isI L w1 w2 t) nX := by
  refine Sp_of ok_X12_idle rfl rfl ?_
  show AW S m_X12_idle 17 _ _ 0 0 0 [some (.ref 420), none, none] [] (hp I L w1 w2 t)
  refine a_l0 rfl rfl rfl ?_
  refine a_s rfl rfl ?_
  refine a_puti rfl pfX12_3_12 rfl ?_
  refine a_ren (P := Fm sU I) (Fm.up (Fm.rf (s := sU)) rfl) (fun I1 f2 => ?_)
  have s2 := SO.fm hs (Fm.mo f2 sU_sV); have l2 := LwW.fm hw (Fm.mo f2 sU_sV); have g2 := LgW.fm lg (Fm.mo f2 sU_sV)
  refine a_s rfl rfl ?_
  refine a_s1 rfl rfl rfl rfl rfl rfl ?_
  refine a_s rfl rfl ?_
  refine a_s2 rfl rfl rfl rfl rfl rfl ?_
  refine a_cnt (j0 := 0) (fun j ls h => ∃ a0, ∃ I', ls = [some (.ref 420), some (.int a0), some (.int (nI j))] ∧ h = hp I' L w1 w2 t ∧ Fm sU I I') (by decide) ⟨_, _, rfl, rfl, f2⟩ ⟨rfl, rfl, rfl, trivial⟩ ?_
  rintro j9 _ _ hj9 ⟨a0_9, Ih9, rfl, rfl, fh9⟩ ih9
  have sh9 := SO.fm hs (Fm.mo fh9 sU_sV); have lh9 := LwW.fm hw (Fm.mo fh9 sU_sV); have gh9 := LgW.fm lg (Fm.mo fh9 sU_sV)
  refine a_l2 rfl rfl rfl ?_
  refine a_l0 rfl rfl rfl ?_
  refine a_eV1 rfl lX12_66 mo_X12_people (sp_X12_people) rfl rfl rfl ⟨12, _, rfl, rfl, rfl⟩ rfl ?_
  refine a_top (y := nI np) sh9.pu ?_
  refine a_ic_ge rfl (fun c14 => ?_) (fun c14 => ?_)
  · refine a_l1 rfl rfl rfl ?_
    exact a_iret rfl rfl ⟨⟨_, rfl⟩, _, rfl, fh9⟩
  · have hd9 : j9 < np := nI_lt_of c14 hj9 (by have := hs.p; omega)
    refine a_l1 rfl rfl rfl ?_
    refine a_s rfl rfl ?_
    refine a_ic_eq rfl (fun c19 => ?_) (fun c19 => ?_)
    · refine a_l2 rfl rfl rfl ?_
      refine a_s1 rfl rfl rfl rfl rfl rfl ?_
      refine a_i2 rfl rfl rfl ?_
      refine a_goto rfl ?_
      exact ih9 _ _ _ _ c14 ⟨_, _, rfl, rfl, fh9⟩ ⟨rfl, rfl, nS _, trivial⟩
    · refine a_l0 rfl rfl rfl ?_
      refine a_l2 rfl rfl rfl ?_
      refine a_eV1 rfl lX12_333 mo_X12_loadOf (sp_X12_loadOf sh9.n sh9.du) rfl rfl rfl ⟨12, _, rfl, rfl, rfl⟩ rfl ?_
      refine a_l0 rfl rfl rfl ?_
      refine a_l1 rfl rfl rfl ?_
      refine a_eV1 rfl lX12_333 mo_X12_loadOf (sp_X12_loadOf sh9.n sh9.du) rfl rfl rfl ⟨12, _, rfl, rfl, rfl⟩ rfl ?_
      refine a_ic_ge rfl (fun c32 => ?_) (fun c32 => ?_)
      · refine a_i2 rfl rfl rfl ?_
        refine a_goto rfl ?_
        exact ih9 _ _ _ _ c14 ⟨_, _, rfl, rfl, fh9⟩ ⟨rfl, rfl, nS _, trivial⟩
      · refine a_l2 rfl rfl rfl ?_
        refine a_s1 rfl rfl rfl rfl rfl rfl ?_
        refine a_i2 rfl rfl rfl ?_
        refine a_goto rfl ?_
        exact ih9 _ _ _ _ c14 ⟨_, _, rfl, rfl, fh9⟩ ⟨rfl, rfl, nS _, trivial⟩
theorem r_X12_worst {S : aS} {I : Nat → Nat → Int32} {L : Nat → Nat → Int64} {w1 w2 t : Nat} {nd np : Nat} (hs : SO nd np (I 421)) (hw : LwW (I 421)) (lg : LgW (I 421)) : Sp S m_X12_worst 20 0 0 [.ref 420] (hp I L w1 w2 t) (QR (Fm sU I) isI L w1 w2 t) nX := by
  refine Sp_of ok_X12_worst rfl rfl ?_
  show AW S m_X12_worst 20 _ _ 0 0 0 [some (.ref 420), none, none] [] (hp I L w1 w2 t)
  refine a_l0 rfl rfl rfl ?_
  refine a_s rfl rfl ?_
  refine a_puti rfl pfX12_3_12 rfl ?_
  refine a_ren (P := Fm sU I) (Fm.up (Fm.rf (s := sU)) rfl) (fun I1 f2 => ?_)
  have s2 := SO.fm hs (Fm.mo f2 sU_sV); have l2 := LwW.fm hw (Fm.mo f2 sU_sV); have g2 := LgW.fm lg (Fm.mo f2 sU_sV)
  refine a_s rfl rfl ?_
  refine a_s1 rfl rfl rfl rfl rfl rfl ?_
  refine a_s rfl rfl ?_
  refine a_s2 rfl rfl rfl rfl rfl rfl ?_
  refine a_cnt (j0 := 0) (fun j ls h => ∃ a0, ∃ I', ls = [some (.ref 420), some (.int a0), some (.int (nI j))] ∧ h = hp I' L w1 w2 t ∧ Fm sU I I' ∧ (a0 = -1 ∨ ∃ e, e < nd ∧ a0 = nI e)) (by decide) ⟨_, _, rfl, rfl, f2, Or.inl rfl⟩ ⟨rfl, rfl, rfl, trivial⟩ ?_
  rintro j9 _ _ hj9 ⟨a0_9, Ih9, rfl, rfl, fh9, ha0_9⟩ ih9
  have sh9 := SO.fm hs (Fm.mo fh9 sU_sV); have lh9 := LwW.fm hw (Fm.mo fh9 sU_sV); have gh9 := LgW.fm lg (Fm.mo fh9 sU_sV)
  refine a_l2 rfl rfl rfl ?_
  refine a_l0 rfl rfl rfl ?_
  refine a_eV1 rfl lX12_74 mo_X12_duties (sp_X12_duties) rfl rfl rfl ⟨12, _, rfl, rfl, rfl⟩ rfl ?_
  refine a_top (y := nI nd) sh9.du ?_
  refine a_ic_ge rfl (fun c14 => ?_) (fun c14 => ?_)
  · refine a_l1 rfl rfl rfl ?_
    exact a_iret rfl rfl ⟨⟨_, rfl⟩, _, rfl, fh9⟩
  · have hd9 : j9 < nd := nI_lt_of c14 hj9 (by have := hs.n; omega)
    refine a_l0 rfl rfl rfl ?_
    refine a_l2 rfl rfl rfl ?_
    refine a_eV1 rfl lX12_135 mo_X12_isWaiting (sp_X12_isWaiting (d := j9) (Nat.lt_of_lt_of_le hd9 sh9.n)) rfl rfl rfl ⟨12, _, rfl, rfl, rfl⟩ rfl ?_
    refine a_if_eq rfl (fun c22 => ?_) (fun c22 => ?_)
    · refine a_i2 rfl rfl rfl ?_
      refine a_goto rfl ?_
      exact ih9 _ _ _ _ c14 ⟨_, _, rfl, rfl, fh9, ha0_9⟩ ⟨rfl, rfl, nS _, trivial⟩
    · refine a_l1 rfl rfl rfl ?_
      refine a_s rfl rfl ?_
      refine a_ic_eq rfl (fun c27 => ?_) (fun c27 => ?_)
      · refine a_l2 rfl rfl rfl ?_
        refine a_s1 rfl rfl rfl rfl rfl rfl ?_
        refine a_i2 rfl rfl rfl ?_
        refine a_goto rfl ?_
        exact ih9 _ _ _ _ c14 ⟨_, _, rfl, rfl, fh9, Or.inr ⟨_, hd9, rfl⟩⟩ ⟨rfl, rfl, nS _, trivial⟩
      · obtain ⟨e3, he3, rfl⟩ := ha0_9.resolve_left c27
        refine a_l0 rfl rfl rfl ?_
        refine a_l2 rfl rfl rfl ?_
        refine a_gV rfl lX12_318 mo_X12_shamesBy (r_X12_shamesBy sh9 lh9 gh9 hd9) rfl rfl rfl ⟨12, _, rfl, rfl, rfl⟩ rfl (fun v' h' hv => ?_)
        obtain ⟨⟨v4, rfl⟩, I5, rfl, f6⟩ := hv
        replace f6 : Fm sU I I5 := Fm.tr (fh9) (f6)
        have s6 := SO.fm hs (Fm.mo f6 sU_sV); have l6 := LwW.fm hw (Fm.mo f6 sU_sV); have g6 := LgW.fm lg (Fm.mo f6 sU_sV)
        refine a_l0 rfl rfl rfl ?_
        refine a_l1 rfl rfl rfl ?_
        refine a_gV rfl lX12_318 mo_X12_shamesBy (r_X12_shamesBy s6 l6 g6 he3) rfl rfl rfl ⟨12, _, rfl, rfl, rfl⟩ rfl (fun v' h' hv => ?_)
        obtain ⟨⟨v7, rfl⟩, I8, rfl, f9⟩ := hv
        replace f9 : Fm sU I I8 := Fm.tr (f6) (f9)
        have s9 := SO.fm hs (Fm.mo f9 sU_sV); have l9 := LwW.fm hw (Fm.mo f9 sU_sV); have g9 := LgW.fm lg (Fm.mo f9 sU_sV)
        refine a_ic_le rfl (fun c40 => ?_) (fun c40 => ?_)
        · refine a_i2 rfl rfl rfl ?_
          refine a_goto rfl ?_
          exact ih9 _ _ _ _ c14 ⟨_, _, rfl, rfl, f9, Or.inr ⟨_, he3, rfl⟩⟩ ⟨rfl, rfl, nS _, trivial⟩
        · refine a_l2 rfl rfl rfl ?_
          refine a_s1 rfl rfl rfl rfl rfl rfl ?_
          refine a_i2 rfl rfl rfl ?_
          refine a_goto rfl ?_
          exact ih9 _ _ _ _ c14 ⟨_, _, rfl, rfl, f9, Or.inr ⟨_, hd9, rfl⟩⟩ ⟨rfl, rfl, nS _, trivial⟩
theorem r_X12_alike {S : aS} {I : Nat → Nat → Int32} {L : Nat → Nat → Int64} {w1 w2 t : Nat} {nd np : Nat} (hs : SO nd np (I 421)) (hw : LwW (I 421)) (lg : LgW (I 421)) : Sp S m_X12_alike 15 0 0 [.ref 420] (hp I L w1 w2 t) (QR (Fm sU I) isI L w1 w2 t) nX := by
  refine Sp_of ok_X12_alike rfl rfl ?_
  show AW S m_X12_alike 15 _ _ 0 0 0 [some (.ref 420), none, none, none] [] (hp I L w1 w2 t)
  refine a_l0 rfl rfl rfl ?_
  refine a_s rfl rfl ?_
  refine a_puti rfl pfX12_3_12 rfl ?_
  refine a_ren (P := Fm sU I) (Fm.up (Fm.rf (s := sU)) rfl) (fun I1 f2 => ?_)
  have s2 := SO.fm hs (Fm.mo f2 sU_sV); have l2 := LwW.fm hw (Fm.mo f2 sU_sV); have g2 := LgW.fm lg (Fm.mo f2 sU_sV)
  refine a_s rfl rfl ?_
  refine a_s1 rfl rfl rfl rfl rfl rfl ?_
  refine a_s rfl rfl ?_
  refine a_s2 rfl rfl rfl rfl rfl rfl ?_
  refine a_cnt (j0 := 0) (fun j ls h => ∃ a0, ∃ I', ls = [some (.ref 420), some (.int a0), some (.int (nI j)), none] ∧ h = hp I' L w1 w2 t ∧ Fm sU I I') (by decide) ⟨_, _, rfl, rfl, f2⟩ ⟨rfl, rfl, rfl, trivial⟩ ?_
  rintro j9 _ _ hj9 ⟨a0_9, Ih9, rfl, rfl, fh9⟩ ih9
  have sh9 := SO.fm hs (Fm.mo fh9 sU_sV); have lh9 := LwW.fm hw (Fm.mo fh9 sU_sV); have gh9 := LgW.fm lg (Fm.mo fh9 sU_sV)
  refine a_l2 rfl rfl rfl ?_
  refine a_l0 rfl rfl rfl ?_
  refine a_eV1 rfl lX12_74 mo_X12_duties (sp_X12_duties) rfl rfl rfl ⟨12, _, rfl, rfl, rfl⟩ rfl ?_
  refine a_top (y := nI nd) sh9.du ?_
  refine a_ic_ge rfl (fun c14 => ?_) (fun c14 => ?_)
  · refine a_l1 rfl rfl rfl ?_
    exact a_iret rfl rfl ⟨⟨_, rfl⟩, _, rfl, fh9⟩
  · have hd9 : j9 < nd := nI_lt_of c14 hj9 (by have := hs.n; omega)
    refine a_s rfl rfl ?_
    refine a_s3 rfl rfl rfl rfl rfl rfl ?_
    refine a_cnt (j0 := 0) (fun j ls h => ∃ a0, ∃ I', ls = [some (.ref 420), some (.int a0), some (.int (nI j9)), some (.int (nI j))] ∧ h = hp I' L w1 w2 t ∧ Fm sU I I') (by decide) ⟨_, _, rfl, rfl, fh9⟩ ⟨rfl, rfl, rfl, rfl, trivial⟩ ?_
    rintro j19 _ _ hj19 ⟨a0_19, Ih19, rfl, rfl, fh19⟩ ih19
    have sh19 := SO.fm hs (Fm.mo fh19 sU_sV); have lh19 := LwW.fm hw (Fm.mo fh19 sU_sV); have gh19 := LgW.fm lg (Fm.mo fh19 sU_sV)
    refine a_l3 rfl rfl rfl ?_
    refine a_l2 rfl rfl rfl ?_
    refine a_ic_ge rfl (fun c21 => ?_) (fun c21 => ?_)
    · refine a_i2 rfl rfl rfl ?_
      refine a_goto rfl ?_
      exact ih9 _ _ _ _ c14 ⟨_, _, rfl, rfl, fh19⟩ ⟨rfl, rfl, nS _, trivial⟩
    · have hd19 : j19 < nd := Nat.lt_trans (nI_lt_of c21 hj19 (by have := hs.n; have := hs.p; omega)) hd9
      refine a_l1 rfl rfl rfl ?_
      refine a_l0 rfl rfl rfl ?_
      refine a_l2 rfl rfl rfl ?_
      refine a_eV1 rfl lX12_135 mo_X12_isWaiting (sp_X12_isWaiting (d := j9) (Nat.lt_of_lt_of_le hd9 sh19.n)) rfl rfl rfl ⟨12, _, rfl, rfl, rfl⟩ rfl ?_
      refine a_if_eq rfl (fun c30 => ?_) (fun c30 => ?_)
      · refine a_s rfl rfl ?_
        refine a_s rfl rfl ?_
        refine a_s1 rfl rfl rfl rfl rfl rfl ?_
        refine a_i3 rfl rfl rfl ?_
        refine a_goto rfl ?_
        exact ih19 _ _ _ _ c21 ⟨_, _, rfl, rfl, fh19⟩ ⟨rfl, rfl, rfl, nS _, trivial⟩
      · refine a_l0 rfl rfl rfl ?_
        refine a_l3 rfl rfl rfl ?_
        refine a_eV1 rfl lX12_135 mo_X12_isWaiting (sp_X12_isWaiting (d := j19) (Nat.lt_of_lt_of_le hd19 sh19.n)) rfl rfl rfl ⟨12, _, rfl, rfl, rfl⟩ rfl ?_
        refine a_if_eq rfl (fun c38 => ?_) (fun c38 => ?_)
        · refine a_s rfl rfl ?_
          refine a_s rfl rfl ?_
          refine a_s1 rfl rfl rfl rfl rfl rfl ?_
          refine a_i3 rfl rfl rfl ?_
          refine a_goto rfl ?_
          exact ih19 _ _ _ _ c21 ⟨_, _, rfl, rfl, fh19⟩ ⟨rfl, rfl, rfl, nS _, trivial⟩
        · refine a_l0 rfl rfl rfl ?_
          refine a_l2 rfl rfl rfl ?_
          refine a_s rfl rfl ?_
          refine a_eV1 rfl lX12_63 mo_X12_of (sp_X12_of (d := j9) (k := 1) (Nat.lt_of_lt_of_le hd9 sh19.n) (by decide)) rfl rfl rfl ⟨12, _, rfl, rfl, rfl⟩ rfl ?_
          refine a_l0 rfl rfl rfl ?_
          refine a_l3 rfl rfl rfl ?_
          refine a_s rfl rfl ?_
          refine a_eV1 rfl lX12_63 mo_X12_of (sp_X12_of (d := j19) (k := 1) (Nat.lt_of_lt_of_le hd19 sh19.n) (by decide)) rfl rfl rfl ⟨12, _, rfl, rfl, rfl⟩ rfl ?_
          refine a_ic_ne rfl (fun c53 => ?_) (fun c53 => ?_)
          · refine a_s rfl rfl ?_
            refine a_s rfl rfl ?_
            refine a_s1 rfl rfl rfl rfl rfl rfl ?_
            refine a_i3 rfl rfl rfl ?_
            refine a_goto rfl ?_
            exact ih19 _ _ _ _ c21 ⟨_, _, rfl, rfl, fh19⟩ ⟨rfl, rfl, rfl, nS _, trivial⟩
          · refine a_l0 rfl rfl rfl ?_
            refine a_l2 rfl rfl rfl ?_
            refine a_s rfl rfl ?_
            refine a_eV1 rfl lX12_63 mo_X12_of (sp_X12_of (d := j9) (k := 2) (Nat.lt_of_lt_of_le hd9 sh19.n) (by decide)) rfl rfl rfl ⟨12, _, rfl, rfl, rfl⟩ rfl ?_
            refine a_l0 rfl rfl rfl ?_
            refine a_l3 rfl rfl rfl ?_
            refine a_s rfl rfl ?_
            refine a_eV1 rfl lX12_63 mo_X12_of (sp_X12_of (d := j19) (k := 2) (Nat.lt_of_lt_of_le hd19 sh19.n) (by decide)) rfl rfl rfl ⟨12, _, rfl, rfl, rfl⟩ rfl ?_
            refine a_ic_ne rfl (fun c68 => ?_) (fun c68 => ?_)
            · refine a_s rfl rfl ?_
              refine a_s rfl rfl ?_
              refine a_s1 rfl rfl rfl rfl rfl rfl ?_
              refine a_i3 rfl rfl rfl ?_
              refine a_goto rfl ?_
              exact ih19 _ _ _ _ c21 ⟨_, _, rfl, rfl, fh19⟩ ⟨rfl, rfl, rfl, nS _, trivial⟩
            · refine a_s rfl rfl ?_
              refine a_goto rfl ?_
              refine a_s rfl rfl ?_
              refine a_s1 rfl rfl rfl rfl rfl rfl ?_
              refine a_i3 rfl rfl rfl ?_
              refine a_goto rfl ?_
              exact ih19 _ _ _ _ c21 ⟨_, _, rfl, rfl, fh19⟩ ⟨rfl, rfl, rfl, nS _, trivial⟩
theorem r_X12_ahead {S : aS} {I : Nat → Nat → Int32} {L : Nat → Nat → Int64} {w1 w2 t : Nat} {x1 x2 x3 : Int32} {nd np : Nat} (hs : SO nd np (I 421)) (hw : LwW (I 421)) (lg : LgW (I 421)) : Sp S m_X12_ahead 24 0 0 [.ref 420, .int x1, .int x2, .int x3] (hp I L w1 w2 t) (QR (Fm sV I) isI L w1 w2 t) nX := by
  refine Sp_of ok_X12_ahead rfl rfl ?_
  show AW S m_X12_ahead 24 _ _ 0 0 0 [some (.ref 420), some (.int x1), some (.int x2), some (.int x3), none] [] (hp I L w1 w2 t)
  refine a_l0 rfl rfl rfl ?_
  refine a_s rfl rfl ?_
  refine a_puti rfl pfX12_3_12 rfl ?_
  refine a_ren (P := Fm sV I) (Fm.mo (Fm.up (Fm.rf (s := sU)) rfl) sU_sV) (fun I1 f2 => ?_)
  have s2 := SO.fm hs f2; have l2 := LwW.fm hw f2; have g2 := LgW.fm lg f2
  refine a_l0 rfl rfl rfl ?_
  refine a_l0 rfl rfl rfl ?_
  refine a_l1 rfl rfl rfl ?_
  refine a_eV1 rfl lX12_289 mo_X12_noDuty (r_X12_noDuty s2) rfl rfl rfl ⟨12, _, rfl, rfl, rfl⟩ rfl ?_
  refine a_s rfl rfl ?_
  refine a_gV rfl lX12_243 mo_X12_throwsIf (r_X12_throwsIf) rfl rfl rfl ⟨12, _, rfl, rfl, rfl⟩ rfl (fun v' h' hv => ?_)
  obtain ⟨rfl, I3, rfl, f4⟩ := hv
  replace f4 : Fm sV I I3 := Fm.tr (f2) (Fm.mo (f4) sU_sV)
  have s4 := SO.fm hs f4; have l4 := LwW.fm hw f4; have g4 := LgW.fm lg f4
  refine a_if_ne rfl (fun c15 => ?_) (fun c15 => ?_)
  · refine a_s rfl rfl ?_
    exact a_iret rfl rfl ⟨⟨_, rfl⟩, _, rfl, f4⟩
  · obtain ⟨i5, hi5, rfl⟩ := isIx (n := nd) (by have := hs.n; have := hs.p; omega) c15
    refine a_l0 rfl rfl rfl ?_
    refine a_l2 rfl rfl rfl ?_
    refine a_eS1 rfl lX12_392 mo_X12_noDays (sp_X12_noDays) rfl rfl rfl rfl ?_
    refine a_s rfl rfl ?_
    refine a_gV rfl lX12_243 mo_X12_throwsIf (r_X12_throwsIf) rfl rfl rfl ⟨12, _, rfl, rfl, rfl⟩ rfl (fun v' h' hv => ?_)
    obtain ⟨rfl, I6, rfl, f7⟩ := hv
    replace f7 : Fm sV I I6 := Fm.tr (f4) (Fm.mo (f7) sU_sV)
    have s7 := SO.fm hs f7; have l7 := LwW.fm hw f7; have g7 := LgW.fm lg f7
    refine a_if_ne rfl (fun c27 => ?_) (fun c27 => ?_)
    · refine a_s rfl rfl ?_
      exact a_iret rfl rfl ⟨⟨_, rfl⟩, _, rfl, f7⟩
    · refine a_l0 rfl rfl rfl ?_
      refine a_l3 rfl rfl rfl ?_
      refine a_s rfl rfl ?_
      refine a_s rfl rfl ?_
      refine a_eS1 rfl lX12_70 mo_X12_in (sp_X12_in) rfl rfl rfl rfl ?_
      refine a_if_ne rfl (fun c37 => ?_) (fun c37 => ?_)
      · obtain ⟨m8, hm8a, hm8b, rfl⟩ := inB_nI (a := 0) (b := 2) (by decide) (bI_t c37)
        refine a_s rfl rfl ?_
        refine a_s rfl rfl ?_
        refine a_gV rfl lX12_243 mo_X12_throwsIf (r_X12_throwsIf (b := false)) rfl rfl rfl ⟨12, _, rfl, rfl, rfl⟩ rfl (fun v' h' hv => ?_)
        obtain ⟨rfl, I9, rfl, f10⟩ := hv
        replace f10 : Fm sV I I9 := Fm.tr (f7) (Fm.mo (f10) sU_sV)
        have s10 := SO.fm hs f10; have l10 := LwW.fm hw f10; have g10 := LgW.fm lg f10
        refine a_if_eq rfl (fun _ => ?_) (fun c => absurd (by decide) c)
        refine a_l0 rfl rfl rfl ?_
        refine a_eV0 rfl lX12_395 mo_X12_keepsAll (sp_X12_keepsAll) rfl rfl rfl ⟨12, _, rfl, rfl, rfl⟩ rfl ?_
        refine a_ren (P := Kp nd np I) (Kp.mk (f10) hs hw lg) (fun I11 f12 => ?_)
        have s12 := Kp.so f12; have l12 := Kp.lw f12; have g12 := Kp.lg f12
        refine a_l0 rfl rfl rfl ?_
        refine a_l2 rfl rfl rfl ?_
        refine a_s rfl rfl ?_
        refine a_gV rfl lX12_388 mo_X12_goesOn (r_X12_goesOn s12 l12 g12 (b2 := true)) rfl rfl rfl ⟨12, _, rfl, rfl, rfl⟩ rfl (fun v' h' hv => ?_)
        obtain ⟨⟨v13, rfl⟩, I14, rfl, f15⟩ := hv
        replace f15 := Kp.dd (f12) f15
        have s15 := Kp.so f15; have l15 := Kp.lw f15; have g15 := Kp.lg f15
        refine a_s rfl rfl ?_
        refine a_l3 rfl rfl rfl ?_
        refine a_if_ne rfl (fun c66 => ?_) (fun c66 => ?_)
        · refine a_l3 rfl rfl rfl ?_
          refine a_s rfl rfl ?_
          refine a_ic_ne rfl (fun c80 => ?_) (fun c80 => ?_)
          · refine a_l0 rfl rfl rfl ?_
            refine a_l1 rfl rfl rfl ?_
            refine a_s rfl rfl ?_
            refine a_eV1 rfl lX12_63 mo_X12_of (sp_X12_of (d := i5) (k := 5) (Nat.lt_of_lt_of_le hi5 s15.n) (by decide)) rfl rfl rfl ⟨12, _, rfl, rfl, rfl⟩ rfl ?_
            refine a_s4 rfl rfl rfl rfl rfl rfl ?_
            refine a_l0 rfl rfl rfl ?_
            refine a_eV0 rfl lX12_398 mo_X12_bringsBack (sp_X12_bringsBack) rfl rfl rfl ⟨12, _, rfl, rfl, rfl⟩ rfl ?_
            refine a_ren (P := Fm sV I) (Kp.bk (f15)) (fun I16 f17 => ?_)
            have s17 := SO.fm hs f17; have l17 := LwW.fm hw f17; have g17 := LgW.fm lg f17
            refine a_l4 rfl rfl rfl ?_
            exact a_iret rfl rfl ⟨⟨_, rfl⟩, _, rfl, f17⟩
          · refine a_l0 rfl rfl rfl ?_
            refine a_l1 rfl rfl rfl ?_
            refine a_s rfl rfl ?_
            refine a_eV1 rfl lX12_63 mo_X12_of (sp_X12_of (d := i5) (k := 2) (Nat.lt_of_lt_of_le hi5 s15.n) (by decide)) rfl rfl rfl ⟨12, _, rfl, rfl, rfl⟩ rfl ?_
            refine a_goto rfl ?_
            refine a_s4 rfl rfl rfl rfl rfl rfl ?_
            refine a_l0 rfl rfl rfl ?_
            refine a_eV0 rfl lX12_398 mo_X12_bringsBack (sp_X12_bringsBack) rfl rfl rfl ⟨12, _, rfl, rfl, rfl⟩ rfl ?_
            refine a_ren (P := Fm sV I) (Kp.bk (f15)) (fun I18 f19 => ?_)
            have s19 := SO.fm hs f19; have l19 := LwW.fm hw f19; have g19 := LgW.fm lg f19
            refine a_l4 rfl rfl rfl ?_
            exact a_iret rfl rfl ⟨⟨_, rfl⟩, _, rfl, f19⟩
        · refine a_l0 rfl rfl rfl ?_
          refine a_l1 rfl rfl rfl ?_
          refine a_s rfl rfl ?_
          refine a_eV1 rfl lX12_63 mo_X12_of (sp_X12_of (d := i5) (k := 1) (Nat.lt_of_lt_of_le hi5 s15.n) (by decide)) rfl rfl rfl ⟨12, _, rfl, rfl, rfl⟩ rfl ?_
          refine a_goto rfl ?_
          refine a_s4 rfl rfl rfl rfl rfl rfl ?_
          refine a_l0 rfl rfl rfl ?_
          refine a_eV0 rfl lX12_398 mo_X12_bringsBack (sp_X12_bringsBack) rfl rfl rfl ⟨12, _, rfl, rfl, rfl⟩ rfl ?_
          refine a_ren (P := Fm sV I) (Kp.bk (f15)) (fun I20 f21 => ?_)
          have s21 := SO.fm hs f21; have l21 := LwW.fm hw f21; have g21 := LgW.fm lg f21
          refine a_l4 rfl rfl rfl ?_
          exact a_iret rfl rfl ⟨⟨_, rfl⟩, _, rfl, f21⟩
      · refine a_s rfl rfl ?_
        refine a_goto rfl ?_
        refine a_s rfl rfl ?_
        refine a_gV rfl lX12_243 mo_X12_throwsIf (r_X12_throwsIf (b := true)) rfl rfl rfl ⟨12, _, rfl, rfl, rfl⟩ rfl (fun v' h' hv => ?_)
        obtain ⟨rfl, I22, rfl, f23⟩ := hv
        replace f23 : Fm sV I I22 := Fm.tr (f7) (Fm.mo (f23) sU_sV)
        have s23 := SO.fm hs f23; have l23 := LwW.fm hw f23; have g23 := LgW.fm lg f23
        refine a_if_eq rfl (fun c => absurd c (by decide)) (fun _ => ?_)
        refine a_s rfl rfl ?_
        exact a_iret rfl rfl ⟨⟨_, rfl⟩, _, rfl, f23⟩
theorem r_X12_orNone {S : aS} {I : Nat → Nat → Int32} {L : Nat → Nat → Int64} {w1 w2 t : Nat} {x0 : Int32} {nd np : Nat} (hs : SO nd np (I 421)) (hw : LwW (I 421)) (lg : LgW (I 421)) : Sp S m_X12_orNone 12 0 0 [.int x0] (hp I L w1 w2 t) (QE isI (hp I L w1 w2 t)) nX := by
  refine Sp_of ok_X12_orNone rfl rfl ?_
  show AW S m_X12_orNone 12 _ _ 0 0 0 [some (.int x0)] [] (hp I L w1 w2 t)
  refine a_l0 rfl rfl rfl ?_
  refine a_ldcw rfl kX12_401 ?_
  refine a_ic_lt rfl (fun c4 => ?_) (fun c4 => ?_)
  · refine a_l0 rfl rfl rfl ?_
    exact a_iret rfl rfl ⟨⟨_, rfl⟩, rfl⟩
  · refine a_s rfl rfl ?_
    refine a_goto rfl ?_
    exact a_iret rfl rfl ⟨⟨_, rfl⟩, rfl⟩
theorem r_X12_done {S : aS} {I : Nat → Nat → Int32} {L : Nat → Nat → Int64} {w1 w2 t : Nat} {x1 : Int32} {nd np : Nat} (hs : SO nd np (I 421)) (hw : LwW (I 421)) (lg : LgW (I 421)) : Sp S m_X12_done 24 0 0 [.ref 420, .int x1] (hp I L w1 w2 t) (QR (Fm sV I) isI L w1 w2 t) nX := by
  refine Sp_of ok_X12_done rfl rfl ?_
  show AW S m_X12_done 24 _ _ 0 0 0 [some (.ref 420), some (.int x1)] [] (hp I L w1 w2 t)
  refine a_l0 rfl rfl rfl ?_
  refine a_s rfl rfl ?_
  refine a_puti rfl pfX12_3_12 rfl ?_
  refine a_ren (P := Fm sV I) (Fm.mo (Fm.up (Fm.rf (s := sU)) rfl) sU_sV) (fun I1 f2 => ?_)
  have s2 := SO.fm hs f2; have l2 := LwW.fm hw f2; have g2 := LgW.fm lg f2
  refine a_l0 rfl rfl rfl ?_
  refine a_l0 rfl rfl rfl ?_
  refine a_l1 rfl rfl rfl ?_
  refine a_eV1 rfl lX12_289 mo_X12_noDuty (r_X12_noDuty s2) rfl rfl rfl ⟨12, _, rfl, rfl, rfl⟩ rfl ?_
  refine a_s rfl rfl ?_
  refine a_gV rfl lX12_243 mo_X12_throwsIf (r_X12_throwsIf) rfl rfl rfl ⟨12, _, rfl, rfl, rfl⟩ rfl (fun v' h' hv => ?_)
  obtain ⟨rfl, I3, rfl, f4⟩ := hv
  replace f4 : Fm sV I I3 := Fm.tr (f2) (Fm.mo (f4) sU_sV)
  have s4 := SO.fm hs f4; have l4 := LwW.fm hw f4; have g4 := LgW.fm lg f4
  refine a_if_eq rfl (fun c15 => ?_) (fun c15 => ?_)
  · obtain ⟨i5, hi5, rfl⟩ := isIx (n := nd) (by have := hs.n; have := hs.p; omega) c15
    refine a_l0 rfl rfl rfl ?_
    refine a_eV0 rfl lX12_395 mo_X12_keepsAll (sp_X12_keepsAll) rfl rfl rfl ⟨12, _, rfl, rfl, rfl⟩ rfl ?_
    refine a_ren (P := Kp nd np I) (Kp.mk (f4) hs hw lg) (fun I6 f7 => ?_)
    have s7 := Kp.so f7; have l7 := Kp.lw f7; have g7 := Kp.lg f7
    refine a_l0 rfl rfl rfl ?_
    refine a_s rfl rfl ?_
    refine a_l1 rfl rfl rfl ?_
    refine a_s rfl rfl ?_
    refine a_s rfl rfl ?_
    refine a_gV rfl lX12_405 mo_X12_overIn (r_X12_overIn (I0 := I) hs hw lg f7 (b2 := true)) rfl rfl rfl ⟨12, _, rfl, rfl, rfl⟩ rfl (fun v' h' hv => ?_)
    obtain ⟨⟨v10, rfl⟩, I8, rfl, f9⟩ := hv
    have s9 := SO.fm hs f9; have l9 := LwW.fm hw f9; have g9 := LgW.fm lg f9
    refine a_gS rfl lX12_408 mo_X12_orNone (r_X12_orNone s9 l9 g9) rfl rfl rfl rfl (fun v' h' hv => ?_)
    obtain ⟨⟨v11, rfl⟩, rfl⟩ := hv
    exact a_iret rfl rfl ⟨⟨_, rfl⟩, _, rfl, f9⟩
  · refine a_s rfl rfl ?_
    exact a_iret rfl rfl ⟨⟨_, rfl⟩, _, rfl, f4⟩
theorem r_X12_all {S : aS} {I : Nat → Nat → Int32} {L : Nat → Nat → Int64} {w1 w2 t : Nat} {nd np : Nat} (hs : SO nd np (I 421)) (hw : LwW (I 421)) (lg : LgW (I 421)) : Sp S m_X12_all 25 0 0 [.ref 420] (hp I L w1 w2 t) (QR (Fm sV I) isI L w1 w2 t) nX := by
  refine Sp_of ok_X12_all rfl rfl ?_
  show AW S m_X12_all 25 _ _ 0 0 0 [some (.ref 420)] [] (hp I L w1 w2 t)
  refine a_l0 rfl rfl rfl ?_
  refine a_s rfl rfl ?_
  refine a_puti rfl pfX12_3_12 rfl ?_
  refine a_ren (P := Fm sV I) (Fm.mo (Fm.up (Fm.rf (s := sU)) rfl) sU_sV) (fun I1 f2 => ?_)
  have s2 := SO.fm hs f2; have l2 := LwW.fm hw f2; have g2 := LgW.fm lg f2
  refine a_l0 rfl rfl rfl ?_
  refine a_gV rfl lX12_411 mo_X12_allOver (r_X12_allOver s2 l2 g2) rfl rfl rfl ⟨12, _, rfl, rfl, rfl⟩ rfl (fun v' h' hv => ?_)
  obtain ⟨⟨v3, rfl⟩, I4, rfl, f5⟩ := hv
  replace f5 : Fm sV I I4 := Fm.tr (f2) (f5)
  have s5 := SO.fm hs f5; have l5 := LwW.fm hw f5; have g5 := LgW.fm lg f5
  refine a_gS rfl lX12_408 mo_X12_orNone (r_X12_orNone s5 l5 g5) rfl rfl rfl rfl (fun v' h' hv => ?_)
  obtain ⟨⟨v6, rfl⟩, rfl⟩ := hv
  exact a_iret rfl rfl ⟨⟨_, rfl⟩, _, rfl, f5⟩
theorem r_X12_help {S : aS} {I : Nat → Nat → Int32} {L : Nat → Nat → Int64} {w1 w2 t : Nat} {nd np : Nat} (hs : SO nd np (I 421)) (hw : LwW (I 421)) (lg : LgW (I 421)) : Sp S m_X12_help 25 0 0 [.ref 420] (hp I L w1 w2 t) (QR (Fm sV I) isI L w1 w2 t) nX := by
  refine Sp_of ok_X12_help rfl rfl ?_
  show AW S m_X12_help 25 _ _ 0 0 0 [some (.ref 420), none, none, none, none] [] (hp I L w1 w2 t)
  refine a_l0 rfl rfl rfl ?_
  refine a_s rfl rfl ?_
  refine a_puti rfl pfX12_3_12 rfl ?_
  refine a_ren (P := Fm sV I) (Fm.mo (Fm.up (Fm.rf (s := sU)) rfl) sU_sV) (fun I1 f2 => ?_)
  have s2 := SO.fm hs f2; have l2 := LwW.fm hw f2; have g2 := LgW.fm lg f2
  refine a_s rfl rfl ?_
  refine a_s1 rfl rfl rfl rfl rfl rfl ?_
  refine a_l0 rfl rfl rfl ?_
  refine a_gV rfl lX12_411 mo_X12_allOver (r_X12_allOver s2 l2 g2) rfl rfl rfl ⟨12, _, rfl, rfl, rfl⟩ rfl (fun v' h' hv => ?_)
  obtain ⟨⟨v3, rfl⟩, I4, rfl, f5⟩ := hv
  replace f5 : Fm sV I I4 := Fm.tr (f2) (f5)
  have s5 := SO.fm hs f5; have l5 := LwW.fm hw f5; have g5 := LgW.fm lg f5
  refine a_s2 rfl rfl rfl rfl rfl rfl ?_
  refine a_s rfl rfl ?_
  refine a_s3 rfl rfl rfl rfl rfl rfl ?_
  refine a_cnt (j0 := 0) (fun j ls h => ∃ a0, ∃ a1, ∃ I', ls = [some (.ref 420), some (.int a0), some (.int a1), some (.int (nI j)), none] ∧ h = hp I' L w1 w2 t ∧ Fm sV I I') (by decide) ⟨_, _, _, rfl, rfl, f5⟩ ⟨rfl, rfl, rfl, rfl, trivial⟩ ?_
  rintro j14 _ _ hj14 ⟨a0_14, a1_14, Ih14, rfl, rfl, fh14⟩ ih14
  have sh14 := SO.fm hs fh14; have lh14 := LwW.fm hw fh14; have gh14 := LgW.fm lg fh14
  refine a_l3 rfl rfl rfl ?_
  refine a_l0 rfl rfl rfl ?_
  refine a_eV1 rfl lX12_66 mo_X12_people (sp_X12_people) rfl rfl rfl ⟨12, _, rfl, rfl, rfl⟩ rfl ?_
  refine a_top (y := nI np) sh14.pu ?_
  refine a_ic_ge rfl (fun c19 => ?_) (fun c19 => ?_)
  · refine a_l1 rfl rfl rfl ?_
    exact a_iret rfl rfl ⟨⟨_, rfl⟩, _, rfl, fh14⟩
  · have hd14 : j14 < np := nI_lt_of c19 hj14 (by have := hs.p; omega)
    refine a_l0 rfl rfl rfl ?_
    refine a_l3 rfl rfl rfl ?_
    refine a_s rfl rfl ?_
    refine a_l0 rfl rfl rfl ?_
    refine a_l3 rfl rfl rfl ?_
    refine a_s rfl rfl ?_
    refine a_eV1 rfl lX12_252 mo_X12_ofPerson (sp_X12_ofPerson (d := j14) (k := 1) (Nat.lt_of_lt_of_le hd14 sh14.p) (by decide)) rfl rfl rfl ⟨12, _, rfl, rfl, rfl⟩ rfl ?_
    refine a_s rfl rfl ?_
    refine a_s rfl rfl ?_
    refine a_min rfl lX12_295 mj_min rfl rfl ?_
    refine a_gV rfl lX12_414 mo_X12_overWith (r_X12_overWith sh14 lh14 gh14 hd14) rfl rfl rfl ⟨12, _, rfl, rfl, rfl⟩ rfl (fun v' h' hv => ?_)
    obtain ⟨⟨v6, rfl⟩, I7, rfl, f8⟩ := hv
    replace f8 : Fm sV I I7 := Fm.tr (fh14) (f8)
    have s8 := SO.fm hs f8; have l8 := LwW.fm hw f8; have g8 := LgW.fm lg f8
    refine a_s4 rfl rfl rfl rfl rfl rfl ?_
    refine a_l4 rfl rfl rfl ?_
    refine a_l2 rfl rfl rfl ?_
    refine a_ic_ge rfl (fun c45 => ?_) (fun c45 => ?_)
    · refine a_l1 rfl rfl rfl ?_
      refine a_s1 rfl rfl rfl rfl rfl rfl ?_
      refine a_l2 rfl rfl rfl ?_
      refine a_l4 rfl rfl rfl ?_
      refine a_min rfl lX12_295 mj_min rfl rfl ?_
      refine a_s2 rfl rfl rfl rfl rfl rfl ?_
      refine a_i3 rfl rfl rfl ?_
      refine a_goto rfl ?_
      exact ih14 _ _ _ _ c19 ⟨_, _, _, rfl, rfl, f8⟩ ⟨rfl, rfl, rfl, nS _, trivial⟩
    · refine a_l3 rfl rfl rfl ?_
      refine a_goto rfl ?_
      refine a_s1 rfl rfl rfl rfl rfl rfl ?_
      refine a_l2 rfl rfl rfl ?_
      refine a_l4 rfl rfl rfl ?_
      refine a_min rfl lX12_295 mj_min rfl rfl ?_
      refine a_s2 rfl rfl rfl rfl rfl rfl ?_
      refine a_i3 rfl rfl rfl ?_
      refine a_goto rfl ?_
      exact ih14 _ _ _ _ c19 ⟨_, _, _, rfl, rfl, f8⟩ ⟨rfl, rfl, rfl, nS _, trivial⟩
theorem r_X12_crux {S : aS} {I : Nat → Nat → Int32} {L : Nat → Nat → Int64} {w1 w2 t : Nat} {nd np : Nat} (hs : SO nd np (I 421)) (hw : LwW (I 421)) (lg : LgW (I 421)) : Sp S m_X12_crux 25 0 0 [.ref 420] (hp I L w1 w2 t) (QR (Fm sV I) isI L w1 w2 t) nX := by
  refine Sp_of ok_X12_crux rfl rfl ?_
  show AW S m_X12_crux 25 _ _ 0 0 0 [some (.ref 420), none, none, none, none] [] (hp I L w1 w2 t)
  refine a_l0 rfl rfl rfl ?_
  refine a_s rfl rfl ?_
  refine a_puti rfl pfX12_3_12 rfl ?_
  refine a_ren (P := Fm sV I) (Fm.mo (Fm.up (Fm.rf (s := sU)) rfl) sU_sV) (fun I1 f2 => ?_)
  have s2 := SO.fm hs f2; have l2 := LwW.fm hw f2; have g2 := LgW.fm lg f2
  refine a_s rfl rfl ?_
  refine a_s1 rfl rfl rfl rfl rfl rfl ?_
  refine a_l0 rfl rfl rfl ?_
  refine a_gV rfl lX12_411 mo_X12_allOver (r_X12_allOver s2 l2 g2) rfl rfl rfl ⟨12, _, rfl, rfl, rfl⟩ rfl (fun v' h' hv => ?_)
  obtain ⟨⟨v3, rfl⟩, I4, rfl, f5⟩ := hv
  replace f5 : Fm sV I I4 := Fm.tr (f2) (f5)
  have s5 := SO.fm hs f5; have l5 := LwW.fm hw f5; have g5 := LgW.fm lg f5
  refine a_s2 rfl rfl rfl rfl rfl rfl ?_
  refine a_s rfl rfl ?_
  refine a_s3 rfl rfl rfl rfl rfl rfl ?_
  refine a_cnt (j0 := 0) (fun j ls h => ∃ a0, ∃ a1, ∃ I', ls = [some (.ref 420), some (.int a0), some (.int a1), some (.int (nI j)), none] ∧ h = hp I' L w1 w2 t ∧ Fm sV I I') (by decide) ⟨_, _, _, rfl, rfl, f5⟩ ⟨rfl, rfl, rfl, rfl, trivial⟩ ?_
  rintro j14 _ _ hj14 ⟨a0_14, a1_14, Ih14, rfl, rfl, fh14⟩ ih14
  have sh14 := SO.fm hs fh14; have lh14 := LwW.fm hw fh14; have gh14 := LgW.fm lg fh14
  refine a_l3 rfl rfl rfl ?_
  refine a_l0 rfl rfl rfl ?_
  refine a_eV1 rfl lX12_74 mo_X12_duties (sp_X12_duties) rfl rfl rfl ⟨12, _, rfl, rfl, rfl⟩ rfl ?_
  refine a_top (y := nI nd) sh14.du ?_
  refine a_ic_ge rfl (fun c19 => ?_) (fun c19 => ?_)
  · refine a_l1 rfl rfl rfl ?_
    exact a_iret rfl rfl ⟨⟨_, rfl⟩, _, rfl, fh14⟩
  · have hd14 : j14 < nd := nI_lt_of c19 hj14 (by have := hs.n; omega)
    refine a_l0 rfl rfl rfl ?_
    refine a_l3 rfl rfl rfl ?_
    refine a_eV1 rfl lX12_135 mo_X12_isWaiting (sp_X12_isWaiting (d := j14) (Nat.lt_of_lt_of_le hd14 sh14.n)) rfl rfl rfl ⟨12, _, rfl, rfl, rfl⟩ rfl ?_
    refine a_if_ne rfl (fun c27 => ?_) (fun c27 => ?_)
    · refine a_l0 rfl rfl rfl ?_
      refine a_eV0 rfl lX12_395 mo_X12_keepsAll (sp_X12_keepsAll) rfl rfl rfl ⟨12, _, rfl, rfl, rfl⟩ rfl ?_
      refine a_ren (P := Kp nd np I) (Kp.mk (fh14) hs hw lg) (fun I6 f7 => ?_)
      have s7 := Kp.so f7; have l7 := Kp.lw f7; have g7 := Kp.lg f7
      refine a_l0 rfl rfl rfl ?_
      refine a_l3 rfl rfl rfl ?_
      refine a_gV rfl lX12_360 mo_X12_finishes (r_X12_finishes s7 l7 g7 hd14) rfl rfl rfl ⟨12, _, rfl, rfl, rfl⟩ rfl (fun v' h' hv => ?_)
      obtain ⟨rfl, I9, rfl, f10⟩ := hv
      replace f10 := Kp.dd (f7) f10
      have s10 := Kp.so f10; have l10 := Kp.lw f10; have g10 := Kp.lg f10
      refine a_l0 rfl rfl rfl ?_
      refine a_l0 rfl rfl rfl ?_
      refine a_gV rfl lX12_402 mo_X12_allDuties (r_X12_allDuties s10 l10 g10) rfl rfl rfl ⟨12, _, rfl, rfl, rfl⟩ rfl (fun v' h' hv => ?_)
      obtain ⟨⟨v11, rfl⟩, rfl⟩ := hv
      refine a_s rfl rfl ?_
      refine a_gV rfl lX12_405 mo_X12_overIn (r_X12_overIn (I0 := I) hs hw lg f10 (b2 := false)) rfl rfl rfl ⟨12, _, rfl, rfl, rfl⟩ rfl (fun v' h' hv => ?_)
      obtain ⟨⟨v14, rfl⟩, I12, rfl, f13⟩ := hv
      have s13 := SO.fm hs f13; have l13 := LwW.fm hw f13; have g13 := LgW.fm lg f13
      refine a_s4 rfl rfl rfl rfl rfl rfl ?_
      refine a_l4 rfl rfl rfl ?_
      refine a_l2 rfl rfl rfl ?_
      refine a_ic_ge rfl (fun c56 => ?_) (fun c56 => ?_)
      · refine a_l1 rfl rfl rfl ?_
        refine a_s1 rfl rfl rfl rfl rfl rfl ?_
        refine a_l2 rfl rfl rfl ?_
        refine a_l4 rfl rfl rfl ?_
        refine a_min rfl lX12_295 mj_min rfl rfl ?_
        refine a_s2 rfl rfl rfl rfl rfl rfl ?_
        refine a_i3 rfl rfl rfl ?_
        refine a_goto rfl ?_
        exact ih14 _ _ _ _ c19 ⟨_, _, _, rfl, rfl, f13⟩ ⟨rfl, rfl, rfl, nS _, trivial⟩
      · refine a_l3 rfl rfl rfl ?_
        refine a_goto rfl ?_
        refine a_s1 rfl rfl rfl rfl rfl rfl ?_
        refine a_l2 rfl rfl rfl ?_
        refine a_l4 rfl rfl rfl ?_
        refine a_min rfl lX12_295 mj_min rfl rfl ?_
        refine a_s2 rfl rfl rfl rfl rfl rfl ?_
        refine a_i3 rfl rfl rfl ?_
        refine a_goto rfl ?_
        exact ih14 _ _ _ _ c19 ⟨_, _, _, rfl, rfl, f13⟩ ⟨rfl, rfl, rfl, nS _, trivial⟩
    · refine a_goto rfl ?_
      refine a_i3 rfl rfl rfl ?_
      refine a_goto rfl ?_
      exact ih14 _ _ _ _ c19 ⟨_, _, _, rfl, rfl, fh14⟩ ⟨rfl, rfl, rfl, nS _, trivial⟩
theorem r_X12_sick {S : aS} {I : Nat → Nat → Int32} {L : Nat → Nat → Int64} {w1 w2 t : Nat} {x1 : Int32} {nd np : Nat} (hs : SO nd np (I 421)) (hw : LwW (I 421)) (lg : LgW (I 421)) : Sp S m_X12_sick 25 0 0 [.ref 420, .int x1] (hp I L w1 w2 t) (QR (Fm sV I) isI L w1 w2 t) nX := by
  refine Sp_of ok_X12_sick rfl rfl ?_
  show AW S m_X12_sick 25 _ _ 0 0 0 [some (.ref 420), some (.int x1), none, none] [] (hp I L w1 w2 t)
  refine a_l0 rfl rfl rfl ?_
  refine a_s rfl rfl ?_
  refine a_puti rfl pfX12_3_12 rfl ?_
  refine a_ren (P := Fm sV I) (Fm.mo (Fm.up (Fm.rf (s := sU)) rfl) sU_sV) (fun I1 f2 => ?_)
  have s2 := SO.fm hs f2; have l2 := LwW.fm hw f2; have g2 := LgW.fm lg f2
  refine a_l0 rfl rfl rfl ?_
  refine a_l0 rfl rfl rfl ?_
  refine a_l1 rfl rfl rfl ?_
  refine a_eV1 rfl lX12_342 mo_X12_noPerson (r_X12_noPerson s2) rfl rfl rfl ⟨12, _, rfl, rfl, rfl⟩ rfl ?_
  refine a_s rfl rfl ?_
  refine a_gV rfl lX12_243 mo_X12_throwsIf (r_X12_throwsIf) rfl rfl rfl ⟨12, _, rfl, rfl, rfl⟩ rfl (fun v' h' hv => ?_)
  obtain ⟨rfl, I3, rfl, f4⟩ := hv
  replace f4 : Fm sV I I3 := Fm.tr (f2) (Fm.mo (f4) sU_sV)
  have s4 := SO.fm hs f4; have l4 := LwW.fm hw f4; have g4 := LgW.fm lg f4
  refine a_if_eq rfl (fun c15 => ?_) (fun c15 => ?_)
  · obtain ⟨i5, hi5, rfl⟩ := isIx (n := np) (by have := hs.n; have := hs.p; omega) c15
    refine a_l0 rfl rfl rfl ?_
    refine a_gV rfl lX12_411 mo_X12_allOver (r_X12_allOver s4 l4 g4) rfl rfl rfl ⟨12, _, rfl, rfl, rfl⟩ rfl (fun v' h' hv => ?_)
    obtain ⟨⟨v6, rfl⟩, I7, rfl, f8⟩ := hv
    replace f8 : Fm sV I I7 := Fm.tr (f4) (f8)
    have s8 := SO.fm hs f8; have l8 := LwW.fm hw f8; have g8 := LgW.fm lg f8
    refine a_s2 rfl rfl rfl rfl rfl rfl ?_
    refine a_l0 rfl rfl rfl ?_
    refine a_l1 rfl rfl rfl ?_
    refine a_s rfl rfl ?_
    refine a_gV rfl lX12_414 mo_X12_overWith (r_X12_overWith s8 l8 g8 hi5) rfl rfl rfl ⟨12, _, rfl, rfl, rfl⟩ rfl (fun v' h' hv => ?_)
    obtain ⟨⟨v9, rfl⟩, I10, rfl, f11⟩ := hv
    replace f11 : Fm sV I I10 := Fm.tr (f8) (f11)
    have s11 := SO.fm hs f11; have l11 := LwW.fm hw f11; have g11 := LgW.fm lg f11
    refine a_s3 rfl rfl rfl rfl rfl rfl ?_
    refine a_l2 rfl rfl rfl ?_
    refine a_ldcw rfl kX12_401 ?_
    refine a_ic_ne rfl (fun c36 => ?_) (fun c36 => ?_)
    · refine a_l3 rfl rfl rfl ?_
      refine a_ldcw rfl kX12_401 ?_
      refine a_ic_ne rfl (fun c45 => ?_) (fun c45 => ?_)
      · refine a_l3 rfl rfl rfl ?_
        refine a_l2 rfl rfl rfl ?_
        refine a_s rfl rfl ?_
        exact a_iret rfl rfl ⟨⟨_, rfl⟩, _, rfl, f11⟩
      · refine a_s rfl rfl ?_
        refine a_goto rfl ?_
        exact a_iret rfl rfl ⟨⟨_, rfl⟩, _, rfl, f11⟩
    · refine a_s rfl rfl ?_
      exact a_iret rfl rfl ⟨⟨_, rfl⟩, _, rfl, f11⟩
  · refine a_s rfl rfl ?_
    exact a_iret rfl rfl ⟨⟨_, rfl⟩, _, rfl, f4⟩
theorem r_X12_trial {S : aS} {I : Nat → Nat → Int32} {L : Nat → Nat → Int64} {w1 w2 t : Nat} {x1 : Int32} {b2 : Bool} {nd np : Nat} (hs : SO nd np (I 421)) (hw : LwW (I 421)) (lg : LgW (I 421)) : Sp S m_X12_trial 24 0 0 [.ref 420, .int x1, .int (bI b2)] (hp I L w1 w2 t) (QR (Fm sV I) isI L w1 w2 t) nX := by
  refine Sp_of ok_X12_trial rfl rfl ?_
  show AW S m_X12_trial 24 _ _ 0 0 0 [some (.ref 420), some (.int x1), some (.int (bI b2)), none] [] (hp I L w1 w2 t)
  refine a_l0 rfl rfl rfl ?_
  refine a_s rfl rfl ?_
  refine a_puti rfl pfX12_3_12 rfl ?_
  refine a_ren (P := Fm sV I) (Fm.mo (Fm.up (Fm.rf (s := sU)) rfl) sU_sV) (fun I1 f2 => ?_)
  have s2 := SO.fm hs f2; have l2 := LwW.fm hw f2; have g2 := LgW.fm lg f2
  refine a_l0 rfl rfl rfl ?_
  refine a_l1 rfl rfl rfl ?_
  refine a_eS1 rfl lX12_392 mo_X12_noDays (sp_X12_noDays) rfl rfl rfl rfl ?_
  refine a_s rfl rfl ?_
  refine a_gV rfl lX12_243 mo_X12_throwsIf (r_X12_throwsIf) rfl rfl rfl ⟨12, _, rfl, rfl, rfl⟩ rfl (fun v' h' hv => ?_)
  obtain ⟨rfl, I3, rfl, f4⟩ := hv
  replace f4 : Fm sV I I3 := Fm.tr (f2) (Fm.mo (f4) sU_sV)
  have s4 := SO.fm hs f4; have l4 := LwW.fm hw f4; have g4 := LgW.fm lg f4
  refine a_if_eq rfl (fun c14 => ?_) (fun c14 => ?_)
  · refine a_l0 rfl rfl rfl ?_
    refine a_eV0 rfl lX12_395 mo_X12_keepsAll (sp_X12_keepsAll) rfl rfl rfl ⟨12, _, rfl, rfl, rfl⟩ rfl ?_
    refine a_ren (P := Kp nd np I) (Kp.mk (f4) hs hw lg) (fun I5 f6 => ?_)
    have s6 := Kp.so f6; have l6 := Kp.lw f6; have g6 := Kp.lg f6
    refine a_l0 rfl rfl rfl ?_
    refine a_l1 rfl rfl rfl ?_
    refine a_s rfl rfl ?_
    refine a_gV rfl lX12_388 mo_X12_goesOn (r_X12_goesOn s6 l6 g6 (b2 := false)) rfl rfl rfl ⟨12, _, rfl, rfl, rfl⟩ rfl (fun v' h' hv => ?_)
    obtain ⟨⟨v7, rfl⟩, I8, rfl, f9⟩ := hv
    replace f9 := Kp.dd (f6) f9
    have s9 := Kp.so f9; have l9 := Kp.lw f9; have g9 := Kp.lg f9
    refine a_s rfl rfl ?_
    refine a_l2 rfl rfl rfl ?_
    refine a_if_eq rfl (fun c31 => ?_) (fun c31 => ?_)
    · refine a_l0 rfl rfl rfl ?_
      refine a_l0 rfl rfl rfl ?_
      refine a_s rfl rfl ?_
      refine a_eV1 rfl lX12_324 mo_X12_ofState (sp_X12_ofState s9.n s9.du) rfl rfl rfl ⟨12, _, rfl, rfl, rfl⟩ rfl ?_
      refine a_topE (bs_nI12 s9.n) (fun mc10 hmc10 => ?_)
      refine a_gV rfl lX12_339 mo_X12_shameOf (r_X12_shameOf s9 l9 g9) rfl rfl rfl ⟨12, _, rfl, rfl, rfl⟩ rfl (fun v' h' hv => ?_)
      obtain ⟨⟨v11, rfl⟩, I12, rfl, f13⟩ := hv
      replace f13 : Kp nd np I I12 := Kp.fm (f9) (f13)
      have s13 := Kp.so f13; have l13 := Kp.lw f13; have g13 := Kp.lg f13
      refine a_s3 rfl rfl rfl rfl rfl rfl ?_
      refine a_l0 rfl rfl rfl ?_
      refine a_eV0 rfl lX12_398 mo_X12_bringsBack (sp_X12_bringsBack) rfl rfl rfl ⟨12, _, rfl, rfl, rfl⟩ rfl ?_
      refine a_ren (P := Fm sV I) (Kp.bk (f13)) (fun I14 f15 => ?_)
      have s15 := SO.fm hs f15; have l15 := LwW.fm hw f15; have g15 := LgW.fm lg f15
      refine a_l3 rfl rfl rfl ?_
      exact a_iret rfl rfl ⟨⟨_, rfl⟩, _, rfl, f15⟩
    · refine a_l0 rfl rfl rfl ?_
      refine a_s rfl rfl ?_
      refine a_eV1 rfl lX12_324 mo_X12_ofState (sp_X12_ofState s9.n s9.du) rfl rfl rfl ⟨12, _, rfl, rfl, rfl⟩ rfl ?_
      refine a_topE (bs_nI12 s9.n) (fun mc16 hmc16 => ?_)
      refine a_goto rfl ?_
      refine a_s3 rfl rfl rfl rfl rfl rfl ?_
      refine a_l0 rfl rfl rfl ?_
      refine a_eV0 rfl lX12_398 mo_X12_bringsBack (sp_X12_bringsBack) rfl rfl rfl ⟨12, _, rfl, rfl, rfl⟩ rfl ?_
      refine a_ren (P := Fm sV I) (Kp.bk (f9)) (fun I17 f18 => ?_)
      have s18 := SO.fm hs f18; have l18 := LwW.fm hw f18; have g18 := LgW.fm lg f18
      refine a_l3 rfl rfl rfl ?_
      exact a_iret rfl rfl ⟨⟨_, rfl⟩, _, rfl, f18⟩
  · refine a_s rfl rfl ?_
    exact a_iret rfl rfl ⟨⟨_, rfl⟩, _, rfl, f4⟩
theorem r_X12_span {S : aS} {I : Nat → Nat → Int32} {L : Nat → Nat → Int64} {w1 w2 t : Nat} {x1 : Int32} {b2 : Bool} {nd np : Nat} (hs : SO nd np (I 421)) (hw : LwW (I 421)) (lg : LgW (I 421)) : Sp S m_X12_span 24 0 0 [.ref 420, .int x1, .int (bI b2)] (hp I L w1 w2 t) (QR (Fm sV I) isI L w1 w2 t) nX := by
  refine Sp_of ok_X12_span rfl rfl ?_
  show AW S m_X12_span 24 _ _ 0 0 0 [some (.ref 420), some (.int x1), some (.int (bI b2)), none, none, none] [] (hp I L w1 w2 t)
  refine a_l0 rfl rfl rfl ?_
  refine a_s rfl rfl ?_
  refine a_puti rfl pfX12_3_12 rfl ?_
  refine a_ren (P := Fm sV I) (Fm.mo (Fm.up (Fm.rf (s := sU)) rfl) sU_sV) (fun I1 f2 => ?_)
  have s2 := SO.fm hs f2; have l2 := LwW.fm hw f2; have g2 := LgW.fm lg f2
  refine a_l0 rfl rfl rfl ?_
  refine a_l1 rfl rfl rfl ?_
  refine a_eS1 rfl lX12_392 mo_X12_noDays (sp_X12_noDays) rfl rfl rfl rfl ?_
  refine a_s rfl rfl ?_
  refine a_gV rfl lX12_243 mo_X12_throwsIf (r_X12_throwsIf) rfl rfl rfl ⟨12, _, rfl, rfl, rfl⟩ rfl (fun v' h' hv => ?_)
  obtain ⟨rfl, I3, rfl, f4⟩ := hv
  replace f4 : Fm sV I I3 := Fm.tr (f2) (Fm.mo (f4) sU_sV)
  have s4 := SO.fm hs f4; have l4 := LwW.fm hw f4; have g4 := LgW.fm lg f4
  refine a_if_eq rfl (fun c14 => ?_) (fun c14 => ?_)
  · refine a_l0 rfl rfl rfl ?_
    refine a_eV0 rfl lX12_395 mo_X12_keepsAll (sp_X12_keepsAll) rfl rfl rfl ⟨12, _, rfl, rfl, rfl⟩ rfl ?_
    refine a_ren (P := Kw nd np I) (Kw.mk (f4) hs hw lg) (fun I5 f6 => ?_)
    have s6 := Kp.so f6.1; have l6 := Kp.lw f6.1; have g6 := Kp.lg f6.1
    refine a_s rfl rfl ?_
    refine a_s3 rfl rfl rfl rfl rfl rfl ?_
    refine a_s rfl rfl ?_
    refine a_s4 rfl rfl rfl rfl rfl rfl ?_
    refine a_cnt (j0 := 1) (fun j ls h => ∃ a0, ∃ I', ls = [some (.ref 420), some (.int x1), some (.int (bI b2)), some (.int a0), some (.int (nI j)), none] ∧ h = hp I' L w1 w2 t ∧ Kw nd np I I') (by decide) ⟨_, _, rfl, rfl, f6⟩ ⟨rfl, rfl, rfl, rfl, rfl, trivial⟩ ?_
    rintro j28 _ _ hj28 ⟨a0_28, Ih28, rfl, rfl, fh28⟩ ih28
    have sh28 := Kp.so fh28.1; have lh28 := Kp.lw fh28.1; have gh28 := Kp.lg fh28.1
    refine a_l4 rfl rfl rfl ?_
    refine a_s rfl rfl ?_
    refine a_ic_gt rfl (fun c32 => ?_) (fun c32 => ?_)
    · have fz := fh28.2
      refine a_l3 rfl rfl rfl ?_
      exact a_iret rfl rfl ⟨⟨_, rfl⟩, _, rfl, fz⟩
    · have fk := fh28.1
      refine a_l0 rfl rfl rfl ?_
      refine a_getq rfl gfX12_13_12 rfl (rfl) ?_
      refine a_s rfl rfl ?_
      refine a_l4 rfl rfl rfl ?_
      refine a_iastv (k := 10) rfl (n := 2033) rfl (⟨by decide, by decide⟩) (rfl) ?_
      refine a_ren (P := Kp nd np I) (Kp.dd (fk) (Dd.up Dd.rf rfl (by decide))) (fun I7 f8 => ?_)
      have s8 := Kp.so f8; have l8 := Kp.lw f8; have g8 := Kp.lg f8
      refine a_l0 rfl rfl rfl ?_
      refine a_l1 rfl rfl rfl ?_
      refine a_s rfl rfl ?_
      refine a_gV rfl lX12_388 mo_X12_goesOn (r_X12_goesOn s8 l8 g8 (b2 := false)) rfl rfl rfl ⟨12, _, rfl, rfl, rfl⟩ rfl (fun v' h' hv => ?_)
      obtain ⟨⟨v9, rfl⟩, I10, rfl, f11⟩ := hv
      replace f11 := Kp.dd (f8) f11
      have s11 := Kp.so f11; have l11 := Kp.lw f11; have g11 := Kp.lg f11
      refine a_s rfl rfl ?_
      refine a_l0 rfl rfl rfl ?_
      refine a_l0 rfl rfl rfl ?_
      refine a_s rfl rfl ?_
      refine a_eV1 rfl lX12_324 mo_X12_ofState (sp_X12_ofState s11.n s11.du) rfl rfl rfl ⟨12, _, rfl, rfl, rfl⟩ rfl ?_
      refine a_topE (bs_nI12 s11.n) (fun mc12 hmc12 => ?_)
      refine a_gV rfl lX12_339 mo_X12_shameOf (r_X12_shameOf s11 l11 g11) rfl rfl rfl ⟨12, _, rfl, rfl, rfl⟩ rfl (fun v' h' hv => ?_)
      obtain ⟨⟨v13, rfl⟩, I14, rfl, f15⟩ := hv
      replace f15 : Kp nd np I I14 := Kp.fm (f11) (f15)
      have s15 := Kp.so f15; have l15 := Kp.lw f15; have g15 := Kp.lg f15
      refine a_s5 rfl rfl rfl rfl rfl rfl ?_
      refine a_l0 rfl rfl rfl ?_
      refine a_eV0 rfl lX12_398 mo_X12_bringsBack (sp_X12_bringsBack) rfl rfl rfl ⟨12, _, rfl, rfl, rfl⟩ rfl ?_
      refine a_ren (P := Kw nd np I) (⟨Kp.bk2 (f15) hs hw lg, Kp.bk (f15)⟩) (fun I16 f17 => ?_)
      have s17 := Kp.so f17.1; have l17 := Kp.lw f17.1; have g17 := Kp.lg f17.1
      refine a_l3 rfl rfl rfl ?_
      refine a_if_ge rfl (fun c67 => ?_) (fun c67 => ?_)
      · refine a_l2 rfl rfl rfl ?_
        refine a_if_eq rfl (fun c76 => ?_) (fun c76 => ?_)
        · refine a_l3 rfl rfl rfl ?_
          refine a_l5 rfl rfl rfl ?_
          refine a_min rfl lX12_295 mj_min rfl rfl ?_
          refine a_s3 rfl rfl rfl rfl rfl rfl ?_
          refine a_i4 rfl rfl rfl ?_
          refine a_goto rfl ?_
          exact ih28 _ _ _ _ (nI_gt1 (a := 6) (by decide) hj28 c32) ⟨_, _, rfl, rfl, f17⟩ ⟨rfl, rfl, rfl, rfl, nS _, trivial⟩
        · refine a_l3 rfl rfl rfl ?_
          refine a_l5 rfl rfl rfl ?_
          refine a_max rfl lX12_265 mj_max rfl rfl ?_
          refine a_goto rfl ?_
          refine a_s3 rfl rfl rfl rfl rfl rfl ?_
          refine a_i4 rfl rfl rfl ?_
          refine a_goto rfl ?_
          exact ih28 _ _ _ _ (nI_gt1 (a := 6) (by decide) hj28 c32) ⟨_, _, rfl, rfl, f17⟩ ⟨rfl, rfl, rfl, rfl, nS _, trivial⟩
      · refine a_l5 rfl rfl rfl ?_
        refine a_goto rfl ?_
        refine a_s3 rfl rfl rfl rfl rfl rfl ?_
        refine a_i4 rfl rfl rfl ?_
        refine a_goto rfl ?_
        exact ih28 _ _ _ _ (nI_gt1 (a := 6) (by decide) hj28 c32) ⟨_, _, rfl, rfl, f17⟩ ⟨rfl, rfl, rfl, rfl, nS _, trivial⟩
  · refine a_s rfl rfl ?_
    exact a_iret rfl rfl ⟨⟨_, rfl⟩, _, rfl, f4⟩
theorem r_X12_seed {S : aS} {I : Nat → Nat → Int32} {L : Nat → Nat → Int64} {w1 w2 t : Nat} {x1 : Int32} {nd np : Nat} (hs : SO nd np (I 421)) (hw : LwW (I 421)) (lg : LgW (I 421)) : Sp S m_X12_seed 12 0 0 [.ref 420, .int x1] (hp I L w1 w2 t) (QR (Dd I) isI L w1 w2 t) nX := by
  refine Sp_of ok_X12_seed rfl rfl ?_
  show AW S m_X12_seed 12 _ _ 0 0 0 [some (.ref 420), some (.int x1), none] [] (hp I L w1 w2 t)
  refine a_l0 rfl rfl rfl ?_
  refine a_s rfl rfl ?_
  refine a_puti rfl pfX12_3_12 rfl ?_
  refine a_ren (P := Dd I) (Dd.fm (Dd.rf) (Fm.up (Fm.rf (s := sU)) rfl)) (fun I1 f2 => ?_)
  have s2 := Dd.so hs f2; have l2 := Dd.lw hw f2; have g2 := Dd.lg lg f2
  refine a_l0 rfl rfl rfl ?_
  refine a_getq rfl gfX12_13_12 rfl (rfl) ?_
  refine a_s rfl rfl ?_
  refine a_iald rfl (n := 2033) rfl (⟨by decide, by decide⟩) ?_
  refine a_s2 rfl rfl rfl rfl rfl rfl ?_
  refine a_l0 rfl rfl rfl ?_
  refine a_getq rfl gfX12_13_12 rfl (rfl) ?_
  refine a_s rfl rfl ?_
  refine a_l1 rfl rfl rfl ?_
  refine a_iastv (k := 10) rfl (n := 2033) rfl (⟨by decide, by decide⟩) (rfl) ?_
  refine a_ren (P := Dd I) (Dd.up (f2) rfl (by decide)) (fun I3 f4 => ?_)
  have s4 := Dd.so hs f4; have l4 := Dd.lw hw f4; have g4 := Dd.lg lg f4
  refine a_l2 rfl rfl rfl ?_
  exact a_iret rfl rfl ⟨⟨_, rfl⟩, _, rfl, f4⟩
theorem r_X12_count {S : aS} {I : Nat → Nat → Int32} {L : Nat → Nat → Int64} {w1 w2 t : Nat} {x1 : Int32} {nd np : Nat} (hs : SO nd np (I 421)) (hw : LwW (I 421)) (lg : LgW (I 421)) : Sp S m_X12_count 21 0 0 [.ref 420, .int x1] (hp I L w1 w2 t) (QR (Fm sU I) isI L w1 w2 t) nX := by
  refine Sp_of ok_X12_count rfl rfl ?_
  show AW S m_X12_count 21 _ _ 0 0 0 [some (.ref 420), some (.int x1)] [] (hp I L w1 w2 t)
  refine a_l0 rfl rfl rfl ?_
  refine a_s rfl rfl ?_
  refine a_puti rfl pfX12_3_12 rfl ?_
  refine a_ren (P := Fm sU I) (Fm.up (Fm.rf (s := sU)) rfl) (fun I1 f2 => ?_)
  have s2 := SO.fm hs (Fm.mo f2 sU_sV); have l2 := LwW.fm hw (Fm.mo f2 sU_sV); have g2 := LgW.fm lg (Fm.mo f2 sU_sV)
  refine a_l1 rfl rfl rfl ?_
  refine a_tswA rfl (by decide) (by decide) (fun hx => ?_) (fun i o ho hx => ?_)
  · refine a_pc (pc' := 131) (by decide) ?_
    refine a_l1 rfl rfl rfl ?_
    refine a_s rfl rfl ?_
    refine a_s rfl rfl ?_
    refine a_eS1 rfl lX12_70 mo_X12_in (sp_X12_in) rfl rfl rfl rfl ?_
    refine a_if_eq rfl (fun c138 => ?_) (fun c138 => ?_)
    · refine a_s rfl rfl ?_
      exact a_iret rfl rfl ⟨⟨_, rfl⟩, _, rfl, f2⟩
    · obtain ⟨m3, hm3a, hm3b, rfl⟩ := inB_nI (a := 0) (b := 8) (by decide) (bI_t c138)
      refine a_l0 rfl rfl rfl ?_
      refine a_getq rfl gfX12_13_12 rfl (rfl) ?_
      refine a_l1 rfl rfl rfl ?_
      refine a_iald rfl (n := 2033) rfl (inI_nI (by have := hs.n; have := hs.p; omega) (by have := hs.n; have := hs.p; omega)) ?_
      refine a_goto rfl ?_
      exact a_iret rfl rfl ⟨⟨_, rfl⟩, _, rfl, f2⟩
  · rcases i with _ | _ | _ | _ | _ | _ | _ | _ | _ | _ | _ | _ | i
    · cases ho
      refine a_pc (pc' := 68) (by decide) ?_
      refine a_l0 rfl rfl rfl ?_
      refine a_getq rfl gfX12_13_12 rfl (rfl) ?_
      refine a_s rfl rfl ?_
      refine a_iald rfl (n := 2033) rfl (⟨by decide, by decide⟩) ?_
      refine a_s rfl rfl ?_
      refine a_ic_ne rfl (fun c75 => ?_) (fun c75 => ?_)
      · refine a_s rfl rfl ?_
        exact a_iret rfl rfl ⟨⟨_, rfl⟩, _, rfl, f2⟩
      · refine a_l0 rfl rfl rfl ?_
        refine a_getq rfl gfX12_13_12 rfl (rfl) ?_
        refine a_s rfl rfl ?_
        refine a_iald rfl (n := 2033) rfl (⟨by decide, by decide⟩) ?_
        refine a_goto rfl ?_
        exact a_iret rfl rfl ⟨⟨_, rfl⟩, _, rfl, f2⟩
    · cases ho
      refine a_pc (pc' := 131) (by decide) ?_
      refine a_l1 rfl rfl rfl ?_
      refine a_s rfl rfl ?_
      refine a_s rfl rfl ?_
      refine a_eS1 rfl lX12_70 mo_X12_in (sp_X12_in) rfl rfl rfl rfl ?_
      refine a_if_eq rfl (fun c138 => ?_) (fun c138 => ?_)
      · refine a_s rfl rfl ?_
        exact a_iret rfl rfl ⟨⟨_, rfl⟩, _, rfl, f2⟩
      · obtain ⟨m4, hm4a, hm4b, rfl⟩ := inB_nI (a := 0) (b := 8) (by decide) (bI_t c138)
        refine a_l0 rfl rfl rfl ?_
        refine a_getq rfl gfX12_13_12 rfl (rfl) ?_
        refine a_l1 rfl rfl rfl ?_
        refine a_iald rfl (n := 2033) rfl (inI_nI (by have := hs.n; have := hs.p; omega) (by have := hs.n; have := hs.p; omega)) ?_
        refine a_goto rfl ?_
        exact a_iret rfl rfl ⟨⟨_, rfl⟩, _, rfl, f2⟩
    · cases ho
      refine a_pc (pc' := 131) (by decide) ?_
      refine a_l1 rfl rfl rfl ?_
      refine a_s rfl rfl ?_
      refine a_s rfl rfl ?_
      refine a_eS1 rfl lX12_70 mo_X12_in (sp_X12_in) rfl rfl rfl rfl ?_
      refine a_if_eq rfl (fun c138 => ?_) (fun c138 => ?_)
      · refine a_s rfl rfl ?_
        exact a_iret rfl rfl ⟨⟨_, rfl⟩, _, rfl, f2⟩
      · obtain ⟨m5, hm5a, hm5b, rfl⟩ := inB_nI (a := 0) (b := 8) (by decide) (bI_t c138)
        refine a_l0 rfl rfl rfl ?_
        refine a_getq rfl gfX12_13_12 rfl (rfl) ?_
        refine a_l1 rfl rfl rfl ?_
        refine a_iald rfl (n := 2033) rfl (inI_nI (by have := hs.n; have := hs.p; omega) (by have := hs.n; have := hs.p; omega)) ?_
        refine a_goto rfl ?_
        exact a_iret rfl rfl ⟨⟨_, rfl⟩, _, rfl, f2⟩
    · cases ho
      refine a_pc (pc' := 131) (by decide) ?_
      refine a_l1 rfl rfl rfl ?_
      refine a_s rfl rfl ?_
      refine a_s rfl rfl ?_
      refine a_eS1 rfl lX12_70 mo_X12_in (sp_X12_in) rfl rfl rfl rfl ?_
      refine a_if_eq rfl (fun c138 => ?_) (fun c138 => ?_)
      · refine a_s rfl rfl ?_
        exact a_iret rfl rfl ⟨⟨_, rfl⟩, _, rfl, f2⟩
      · obtain ⟨m6, hm6a, hm6b, rfl⟩ := inB_nI (a := 0) (b := 8) (by decide) (bI_t c138)
        refine a_l0 rfl rfl rfl ?_
        refine a_getq rfl gfX12_13_12 rfl (rfl) ?_
        refine a_l1 rfl rfl rfl ?_
        refine a_iald rfl (n := 2033) rfl (inI_nI (by have := hs.n; have := hs.p; omega) (by have := hs.n; have := hs.p; omega)) ?_
        refine a_goto rfl ?_
        exact a_iret rfl rfl ⟨⟨_, rfl⟩, _, rfl, f2⟩
    · cases ho
      refine a_pc (pc' := 131) (by decide) ?_
      refine a_l1 rfl rfl rfl ?_
      refine a_s rfl rfl ?_
      refine a_s rfl rfl ?_
      refine a_eS1 rfl lX12_70 mo_X12_in (sp_X12_in) rfl rfl rfl rfl ?_
      refine a_if_eq rfl (fun c138 => ?_) (fun c138 => ?_)
      · refine a_s rfl rfl ?_
        exact a_iret rfl rfl ⟨⟨_, rfl⟩, _, rfl, f2⟩
      · obtain ⟨m7, hm7a, hm7b, rfl⟩ := inB_nI (a := 0) (b := 8) (by decide) (bI_t c138)
        refine a_l0 rfl rfl rfl ?_
        refine a_getq rfl gfX12_13_12 rfl (rfl) ?_
        refine a_l1 rfl rfl rfl ?_
        refine a_iald rfl (n := 2033) rfl (inI_nI (by have := hs.n; have := hs.p; omega) (by have := hs.n; have := hs.p; omega)) ?_
        refine a_goto rfl ?_
        exact a_iret rfl rfl ⟨⟨_, rfl⟩, _, rfl, f2⟩
    · cases ho
      refine a_pc (pc' := 131) (by decide) ?_
      refine a_l1 rfl rfl rfl ?_
      refine a_s rfl rfl ?_
      refine a_s rfl rfl ?_
      refine a_eS1 rfl lX12_70 mo_X12_in (sp_X12_in) rfl rfl rfl rfl ?_
      refine a_if_eq rfl (fun c138 => ?_) (fun c138 => ?_)
      · refine a_s rfl rfl ?_
        exact a_iret rfl rfl ⟨⟨_, rfl⟩, _, rfl, f2⟩
      · obtain ⟨m8, hm8a, hm8b, rfl⟩ := inB_nI (a := 0) (b := 8) (by decide) (bI_t c138)
        refine a_l0 rfl rfl rfl ?_
        refine a_getq rfl gfX12_13_12 rfl (rfl) ?_
        refine a_l1 rfl rfl rfl ?_
        refine a_iald rfl (n := 2033) rfl (inI_nI (by have := hs.n; have := hs.p; omega) (by have := hs.n; have := hs.p; omega)) ?_
        refine a_goto rfl ?_
        exact a_iret rfl rfl ⟨⟨_, rfl⟩, _, rfl, f2⟩
    · cases ho
      refine a_pc (pc' := 91) (by decide) ?_
      refine a_l0 rfl rfl rfl ?_
      refine a_s rfl rfl ?_
      refine a_eV1 rfl lX12_324 mo_X12_ofState (sp_X12_ofState s2.n s2.du) rfl rfl rfl ⟨12, _, rfl, rfl, rfl⟩ rfl ?_
      refine a_topE (bs_nI12 s2.n) (fun mc9 hmc9 => ?_)
      exact a_iret rfl rfl ⟨⟨_, rfl⟩, _, rfl, f2⟩
    · cases ho
      refine a_pc (pc' := 97) (by decide) ?_
      refine a_l0 rfl rfl rfl ?_
      refine a_s rfl rfl ?_
      refine a_eV1 rfl lX12_324 mo_X12_ofState (sp_X12_ofState s2.n s2.du) rfl rfl rfl ⟨12, _, rfl, rfl, rfl⟩ rfl ?_
      refine a_topE (bs_nI12 s2.n) (fun mc10 hmc10 => ?_)
      exact a_iret rfl rfl ⟨⟨_, rfl⟩, _, rfl, f2⟩
    · cases ho
      refine a_pc (pc' := 103) (by decide) ?_
      refine a_l0 rfl rfl rfl ?_
      refine a_eV1 rfl lX12_464 mo_X12_readyOnes (sp_X12_readyOnes s2.n s2.du s2.l) rfl rfl rfl ⟨12, _, rfl, rfl, rfl⟩ rfl ?_
      exact a_iret rfl rfl ⟨⟨_, rfl⟩, _, rfl, f2⟩
    · cases ho
      refine a_pc (pc' := 108) (by decide) ?_
      refine a_l0 rfl rfl rfl ?_
      refine a_l0 rfl rfl rfl ?_
      refine a_s rfl rfl ?_
      refine a_eV1 rfl lX12_324 mo_X12_ofState (sp_X12_ofState s2.n s2.du) rfl rfl rfl ⟨12, _, rfl, rfl, rfl⟩ rfl ?_
      refine a_topE (bs_nI12 s2.n) (fun mc11 hmc11 => ?_)
      refine a_gV rfl lX12_339 mo_X12_shameOf (r_X12_shameOf s2 l2 g2) rfl rfl rfl ⟨12, _, rfl, rfl, rfl⟩ rfl (fun v' h' hv => ?_)
      obtain ⟨⟨v12, rfl⟩, I13, rfl, f14⟩ := hv
      replace f14 : Fm sU I I13 := Fm.tr (f2) (f14)
      have s14 := SO.fm hs (Fm.mo f14 sU_sV); have l14 := LwW.fm hw (Fm.mo f14 sU_sV); have g14 := LgW.fm lg (Fm.mo f14 sU_sV)
      exact a_iret rfl rfl ⟨⟨_, rfl⟩, _, rfl, f14⟩
    · cases ho
      refine a_pc (pc' := 118) (by decide) ?_
      refine a_l0 rfl rfl rfl ?_
      refine a_getq rfl gfX12_13_12 rfl (rfl) ?_
      refine a_s rfl rfl ?_
      refine a_iald rfl (n := 2033) rfl (⟨by decide, by decide⟩) ?_
      exact a_iret rfl rfl ⟨⟨_, rfl⟩, _, rfl, f2⟩
    · cases ho
      refine a_pc (pc' := 126) (by decide) ?_
      refine a_l0 rfl rfl rfl ?_
      refine a_geti rfl gfX12_53_12 rfl ?_
      exact a_iret rfl rfl ⟨⟨_, rfl⟩, _, rfl, f2⟩
    · cases ho
end
section
/-! ===== the reference: odds (as in p1's 47.odds), ranges of all of it ===== -/
set_option maxRecDepth 100000
theorem nI_ltn {n : Nat} (h : n + 1 < 2 ^ 31) : nI n < nI (n + 1) := Int32.lt_iff_toInt_lt.mpr (by rw [nI_toInt (by omega), nI_toInt h]; omega)
def setW (L : Nat → Nat → Int64) (f : Nat → Int64) : Nat → Nat → Int64 := up2 (up2 (up2 (up2 (up2 (up2 (up2 L 430 0 (f 0)) 430 1 (f 1)) 430 2 (f 2)) 430 3 (f 3)) 430 4 (f 4)) 430 5 (f 5)) 430 6 (f 6)
def stepW (h : Int32) (f : Nat → Int64) : Nat → Int64
  | 0 => f 0 * (100 - h).toInt64 + 0
  | k + 1 => f (k + 1) * (100 - h).toInt64 + f k * h.toInt64
def rowW (h : Int32) : Nat → Nat → Int64
  | 0 => fun k => if k = 0 then 1 else 0
  | d + 1 => stepW h (rowW h d)
def allW : Nat → Int64
  | 0 => 1
  | d + 1 => allW d * 100
def sumW (f : Nat → Int64) (m : Nat) : Nat → Int64
  | 0 => 0
  | j + 1 => sumW f m j + f (m + j)
def oddsR (h : Int32) (n m : Nat) : Int32 := (10000 * sumW (rowW h n) m (7 - m) / allW n).toInt32
theorem setW_at {L : Nat → Nat → Int64} {f : Nat → Int64} {k : Nat} (hk : k < 7) : setW L f 430 k = f k := by
  rcases k with _ | _ | _ | _ | _ | _ | _ | k <;> first | rfl | omega
theorem setW_row {L : Nat → Nat → Int64} {f : Nat → Int64} {q : Nat} (h : q ≠ 430) : setW L f q = L q := by
  unfold setW
  simp only [up2_row h]
theorem setW_step {L : Nat → Nat → Int64} {f g : Nat → Int64} : up2 (up2 (up2 (up2 (up2 (up2 (up2 (setW L f) 430 6 (g 6)) 430 5 (g 5)) 430 4 (g 4)) 430 3 (g 3)) 430 2 (g 2)) 430 1 (g 1)) 430 0 (g 0) = setW L g := by
  funext q k
  by_cases hq : q = 430
  · subst hq
    rcases k with _ | _ | _ | _ | _ | _ | _ | k
    all_goals rfl
  · rw [setW_row hq]
    simp only [up2_row hq, setW_row hq]
theorem allW_ne : ∀ n, n ≤ 6 → ¬ allW n = 0 := by decide +kernel
theorem sp_X12_oddsOf {S : aS} {I : Nat → Nat → Int32} {L : Nat → Nat → Int64} {w1 w2 t : Nat} {h : Int32} {n m : Nat} (hn : n ≤ 6) (hm : m ≤ 6) : SpE S m_X12_oddsOf 12 [.ref 420, .int (nI n), .int (nI m), .int h] (hp I L w1 w2 t) (some (.int (oddsR h n m))) (hp I (setW L (rowW h n)) w1 w2 t) := by
  refine SpE_of ok_X12_oddsOf rfl rfl ?_
  show AW S m_X12_oddsOf 12 _ _ 0 0 0 [some (.ref 420), some (.int (nI n)), some (.int (nI m)), some (.int h), none, none, none, none, none] [] (hp I L w1 w2 t)
  refine a_s rfl rfl ?_
  refine a_sL4 rfl rfl rfl rfl ?_
  refine a_s rfl rfl ?_
  refine a_s6 rfl rfl rfl rfl rfl rfl ?_
  refine a_l6 rfl rfl rfl ?_
  refine a_s rfl rfl ?_
  refine a_ic_gt rfl (fun c => absurd c (by decide)) (fun c10 => ?_)
  refine a_l0 rfl rfl rfl ?_
  refine a_getq rfl gfX12_45_12 rfl rfl ?_
  refine a_l6 rfl rfl rfl ?_
  refine a_l6 rfl rfl rfl ?_
  refine a_if_ne rfl (fun c => absurd c (by decide)) (fun c21 => ?_)
  refine a_s rfl rfl ?_
  refine a_goto rfl ?_
  refine a_lastv (k := 0) rfl (n := 7) rfl ⟨by decide, by decide⟩ (by decide) ?_
  refine a_iv6 (y := 1) rfl rfl rfl (by decide) ?_
  refine a_goto rfl ?_
  refine a_l6 rfl rfl rfl ?_
  refine a_s rfl rfl ?_
  refine a_ic_gt rfl (fun c => absurd c (by decide)) (fun c10 => ?_)
  refine a_l0 rfl rfl rfl ?_
  refine a_getq rfl gfX12_45_12 rfl rfl ?_
  refine a_l6 rfl rfl rfl ?_
  refine a_l6 rfl rfl rfl ?_
  refine a_if_ne rfl (fun c21 => ?_) (fun c => absurd c (by decide))
  refine a_s rfl rfl ?_
  refine a_lastv (k := 1) rfl (n := 7) rfl ⟨by decide, by decide⟩ (by decide) ?_
  refine a_iv6 (y := 2) rfl rfl rfl (by decide) ?_
  refine a_goto rfl ?_
  refine a_l6 rfl rfl rfl ?_
  refine a_s rfl rfl ?_
  refine a_ic_gt rfl (fun c => absurd c (by decide)) (fun c10 => ?_)
  refine a_l0 rfl rfl rfl ?_
  refine a_getq rfl gfX12_45_12 rfl rfl ?_
  refine a_l6 rfl rfl rfl ?_
  refine a_l6 rfl rfl rfl ?_
  refine a_if_ne rfl (fun c21 => ?_) (fun c => absurd c (by decide))
  refine a_s rfl rfl ?_
  refine a_lastv (k := 2) rfl (n := 7) rfl ⟨by decide, by decide⟩ (by decide) ?_
  refine a_iv6 (y := 3) rfl rfl rfl (by decide) ?_
  refine a_goto rfl ?_
  refine a_l6 rfl rfl rfl ?_
  refine a_s rfl rfl ?_
  refine a_ic_gt rfl (fun c => absurd c (by decide)) (fun c10 => ?_)
  refine a_l0 rfl rfl rfl ?_
  refine a_getq rfl gfX12_45_12 rfl rfl ?_
  refine a_l6 rfl rfl rfl ?_
  refine a_l6 rfl rfl rfl ?_
  refine a_if_ne rfl (fun c21 => ?_) (fun c => absurd c (by decide))
  refine a_s rfl rfl ?_
  refine a_lastv (k := 3) rfl (n := 7) rfl ⟨by decide, by decide⟩ (by decide) ?_
  refine a_iv6 (y := 4) rfl rfl rfl (by decide) ?_
  refine a_goto rfl ?_
  refine a_l6 rfl rfl rfl ?_
  refine a_s rfl rfl ?_
  refine a_ic_gt rfl (fun c => absurd c (by decide)) (fun c10 => ?_)
  refine a_l0 rfl rfl rfl ?_
  refine a_getq rfl gfX12_45_12 rfl rfl ?_
  refine a_l6 rfl rfl rfl ?_
  refine a_l6 rfl rfl rfl ?_
  refine a_if_ne rfl (fun c21 => ?_) (fun c => absurd c (by decide))
  refine a_s rfl rfl ?_
  refine a_lastv (k := 4) rfl (n := 7) rfl ⟨by decide, by decide⟩ (by decide) ?_
  refine a_iv6 (y := 5) rfl rfl rfl (by decide) ?_
  refine a_goto rfl ?_
  refine a_l6 rfl rfl rfl ?_
  refine a_s rfl rfl ?_
  refine a_ic_gt rfl (fun c => absurd c (by decide)) (fun c10 => ?_)
  refine a_l0 rfl rfl rfl ?_
  refine a_getq rfl gfX12_45_12 rfl rfl ?_
  refine a_l6 rfl rfl rfl ?_
  refine a_l6 rfl rfl rfl ?_
  refine a_if_ne rfl (fun c21 => ?_) (fun c => absurd c (by decide))
  refine a_s rfl rfl ?_
  refine a_lastv (k := 5) rfl (n := 7) rfl ⟨by decide, by decide⟩ (by decide) ?_
  refine a_iv6 (y := 6) rfl rfl rfl (by decide) ?_
  refine a_goto rfl ?_
  refine a_l6 rfl rfl rfl ?_
  refine a_s rfl rfl ?_
  refine a_ic_gt rfl (fun c => absurd c (by decide)) (fun c10 => ?_)
  refine a_l0 rfl rfl rfl ?_
  refine a_getq rfl gfX12_45_12 rfl rfl ?_
  refine a_l6 rfl rfl rfl ?_
  refine a_l6 rfl rfl rfl ?_
  refine a_if_ne rfl (fun c21 => ?_) (fun c => absurd c (by decide))
  refine a_s rfl rfl ?_
  refine a_lastv (k := 6) rfl (n := 7) rfl ⟨by decide, by decide⟩ (by decide) ?_
  refine a_iv6 (y := 7) rfl rfl rfl (by decide) ?_
  refine a_goto rfl ?_
  refine a_l6 rfl rfl rfl ?_
  refine a_s rfl rfl ?_
  refine a_ic_gt rfl (fun c10 => ?_) (fun c => absurd (by decide) c)
  refine a_eq (h' := hp I (setW L (rowW h 0)) w1 w2 t) rfl rfl ?_
  refine a_s rfl rfl ?_
  refine a_s6 rfl rfl rfl rfl rfl rfl ?_
  refine a_forE (n := n) (fun j => [some (.ref 420), some (.int (nI n)), some (.int (nI m)), some (.int h), some (.long (allW j)), none, some (.int (nI j)), none, none]) (fun j => hp I (setW L (rowW h j)) w1 w2 t) (by simp [lsub, nI_0, allW]) rfl ?_ (fun j hj ih39 => ?_)
  rotate_left
  · refine a_l6 rfl rfl rfl ?_
    refine a_l1 rfl rfl rfl ?_
    refine a_ic_ge rfl (fun c => absurd c (nI_ge hj (by omega))) (fun c42 => ?_)
    refine a_s rfl rfl ?_
    refine a_s7 rfl rfl rfl rfl rfl rfl ?_
    refine a_l7 rfl rfl rfl ?_
    refine a_if_lt rfl (fun c => absurd c (by decide)) (fun c51 => ?_)
    refine a_l0 rfl rfl rfl ?_
    refine a_getq rfl gfX12_45_12 rfl rfl ?_
    refine a_l7 rfl rfl rfl ?_
    refine a_l0 rfl rfl rfl ?_
    refine a_getq rfl gfX12_45_12 rfl rfl ?_
    refine a_l7 rfl rfl rfl ?_
    refine a_laldv (v := rowW h j 6) rfl (n := 7) rfl ⟨by decide, by decide⟩ rfl ?_
    refine a_s rfl rfl ?_
    refine a_l3 rfl rfl rfl ?_
    refine a_s rfl rfl ?_
    refine a_s rfl rfl ?_
    refine a_s rfl rfl ?_
    refine a_l7 rfl rfl rfl ?_
    refine a_if_ne rfl (fun c75 => ?_) (fun c => absurd c (by decide))
    refine a_l0 rfl rfl rfl ?_
    refine a_getq rfl gfX12_45_12 rfl rfl ?_
    refine a_l7 rfl rfl rfl ?_
    refine a_s rfl rfl ?_
    refine a_s rfl rfl ?_
    refine a_top (y := 5) (by decide) ?_
    refine a_laldv (v := rowW h j 5) rfl (n := 7) rfl ⟨by decide, by decide⟩ rfl ?_
    refine a_l3 rfl rfl rfl ?_
    refine a_s rfl rfl ?_
    refine a_s rfl rfl ?_
    refine a_s rfl rfl ?_
    refine a_lastv (k := 6) rfl (n := 7) rfl ⟨by decide, by decide⟩ (by decide) ?_
    refine a_iv7 (y := 5) rfl rfl rfl (by decide) ?_
    refine a_goto rfl ?_
    refine a_l7 rfl rfl rfl ?_
    refine a_if_lt rfl (fun c => absurd c (by decide)) (fun c51 => ?_)
    refine a_l0 rfl rfl rfl ?_
    refine a_getq rfl gfX12_45_12 rfl rfl ?_
    refine a_l7 rfl rfl rfl ?_
    refine a_l0 rfl rfl rfl ?_
    refine a_getq rfl gfX12_45_12 rfl rfl ?_
    refine a_l7 rfl rfl rfl ?_
    refine a_laldv (v := rowW h j 5) rfl (n := 7) rfl ⟨by decide, by decide⟩ rfl ?_
    refine a_s rfl rfl ?_
    refine a_l3 rfl rfl rfl ?_
    refine a_s rfl rfl ?_
    refine a_s rfl rfl ?_
    refine a_s rfl rfl ?_
    refine a_l7 rfl rfl rfl ?_
    refine a_if_ne rfl (fun c75 => ?_) (fun c => absurd c (by decide))
    refine a_l0 rfl rfl rfl ?_
    refine a_getq rfl gfX12_45_12 rfl rfl ?_
    refine a_l7 rfl rfl rfl ?_
    refine a_s rfl rfl ?_
    refine a_s rfl rfl ?_
    refine a_top (y := 4) (by decide) ?_
    refine a_laldv (v := rowW h j 4) rfl (n := 7) rfl ⟨by decide, by decide⟩ rfl ?_
    refine a_l3 rfl rfl rfl ?_
    refine a_s rfl rfl ?_
    refine a_s rfl rfl ?_
    refine a_s rfl rfl ?_
    refine a_lastv (k := 5) rfl (n := 7) rfl ⟨by decide, by decide⟩ (by decide) ?_
    refine a_iv7 (y := 4) rfl rfl rfl (by decide) ?_
    refine a_goto rfl ?_
    refine a_l7 rfl rfl rfl ?_
    refine a_if_lt rfl (fun c => absurd c (by decide)) (fun c51 => ?_)
    refine a_l0 rfl rfl rfl ?_
    refine a_getq rfl gfX12_45_12 rfl rfl ?_
    refine a_l7 rfl rfl rfl ?_
    refine a_l0 rfl rfl rfl ?_
    refine a_getq rfl gfX12_45_12 rfl rfl ?_
    refine a_l7 rfl rfl rfl ?_
    refine a_laldv (v := rowW h j 4) rfl (n := 7) rfl ⟨by decide, by decide⟩ rfl ?_
    refine a_s rfl rfl ?_
    refine a_l3 rfl rfl rfl ?_
    refine a_s rfl rfl ?_
    refine a_s rfl rfl ?_
    refine a_s rfl rfl ?_
    refine a_l7 rfl rfl rfl ?_
    refine a_if_ne rfl (fun c75 => ?_) (fun c => absurd c (by decide))
    refine a_l0 rfl rfl rfl ?_
    refine a_getq rfl gfX12_45_12 rfl rfl ?_
    refine a_l7 rfl rfl rfl ?_
    refine a_s rfl rfl ?_
    refine a_s rfl rfl ?_
    refine a_top (y := 3) (by decide) ?_
    refine a_laldv (v := rowW h j 3) rfl (n := 7) rfl ⟨by decide, by decide⟩ rfl ?_
    refine a_l3 rfl rfl rfl ?_
    refine a_s rfl rfl ?_
    refine a_s rfl rfl ?_
    refine a_s rfl rfl ?_
    refine a_lastv (k := 4) rfl (n := 7) rfl ⟨by decide, by decide⟩ (by decide) ?_
    refine a_iv7 (y := 3) rfl rfl rfl (by decide) ?_
    refine a_goto rfl ?_
    refine a_l7 rfl rfl rfl ?_
    refine a_if_lt rfl (fun c => absurd c (by decide)) (fun c51 => ?_)
    refine a_l0 rfl rfl rfl ?_
    refine a_getq rfl gfX12_45_12 rfl rfl ?_
    refine a_l7 rfl rfl rfl ?_
    refine a_l0 rfl rfl rfl ?_
    refine a_getq rfl gfX12_45_12 rfl rfl ?_
    refine a_l7 rfl rfl rfl ?_
    refine a_laldv (v := rowW h j 3) rfl (n := 7) rfl ⟨by decide, by decide⟩ rfl ?_
    refine a_s rfl rfl ?_
    refine a_l3 rfl rfl rfl ?_
    refine a_s rfl rfl ?_
    refine a_s rfl rfl ?_
    refine a_s rfl rfl ?_
    refine a_l7 rfl rfl rfl ?_
    refine a_if_ne rfl (fun c75 => ?_) (fun c => absurd c (by decide))
    refine a_l0 rfl rfl rfl ?_
    refine a_getq rfl gfX12_45_12 rfl rfl ?_
    refine a_l7 rfl rfl rfl ?_
    refine a_s rfl rfl ?_
    refine a_s rfl rfl ?_
    refine a_top (y := 2) (by decide) ?_
    refine a_laldv (v := rowW h j 2) rfl (n := 7) rfl ⟨by decide, by decide⟩ rfl ?_
    refine a_l3 rfl rfl rfl ?_
    refine a_s rfl rfl ?_
    refine a_s rfl rfl ?_
    refine a_s rfl rfl ?_
    refine a_lastv (k := 3) rfl (n := 7) rfl ⟨by decide, by decide⟩ (by decide) ?_
    refine a_iv7 (y := 2) rfl rfl rfl (by decide) ?_
    refine a_goto rfl ?_
    refine a_l7 rfl rfl rfl ?_
    refine a_if_lt rfl (fun c => absurd c (by decide)) (fun c51 => ?_)
    refine a_l0 rfl rfl rfl ?_
    refine a_getq rfl gfX12_45_12 rfl rfl ?_
    refine a_l7 rfl rfl rfl ?_
    refine a_l0 rfl rfl rfl ?_
    refine a_getq rfl gfX12_45_12 rfl rfl ?_
    refine a_l7 rfl rfl rfl ?_
    refine a_laldv (v := rowW h j 2) rfl (n := 7) rfl ⟨by decide, by decide⟩ rfl ?_
    refine a_s rfl rfl ?_
    refine a_l3 rfl rfl rfl ?_
    refine a_s rfl rfl ?_
    refine a_s rfl rfl ?_
    refine a_s rfl rfl ?_
    refine a_l7 rfl rfl rfl ?_
    refine a_if_ne rfl (fun c75 => ?_) (fun c => absurd c (by decide))
    refine a_l0 rfl rfl rfl ?_
    refine a_getq rfl gfX12_45_12 rfl rfl ?_
    refine a_l7 rfl rfl rfl ?_
    refine a_s rfl rfl ?_
    refine a_s rfl rfl ?_
    refine a_top (y := 1) (by decide) ?_
    refine a_laldv (v := rowW h j 1) rfl (n := 7) rfl ⟨by decide, by decide⟩ rfl ?_
    refine a_l3 rfl rfl rfl ?_
    refine a_s rfl rfl ?_
    refine a_s rfl rfl ?_
    refine a_s rfl rfl ?_
    refine a_lastv (k := 2) rfl (n := 7) rfl ⟨by decide, by decide⟩ (by decide) ?_
    refine a_iv7 (y := 1) rfl rfl rfl (by decide) ?_
    refine a_goto rfl ?_
    refine a_l7 rfl rfl rfl ?_
    refine a_if_lt rfl (fun c => absurd c (by decide)) (fun c51 => ?_)
    refine a_l0 rfl rfl rfl ?_
    refine a_getq rfl gfX12_45_12 rfl rfl ?_
    refine a_l7 rfl rfl rfl ?_
    refine a_l0 rfl rfl rfl ?_
    refine a_getq rfl gfX12_45_12 rfl rfl ?_
    refine a_l7 rfl rfl rfl ?_
    refine a_laldv (v := rowW h j 1) rfl (n := 7) rfl ⟨by decide, by decide⟩ rfl ?_
    refine a_s rfl rfl ?_
    refine a_l3 rfl rfl rfl ?_
    refine a_s rfl rfl ?_
    refine a_s rfl rfl ?_
    refine a_s rfl rfl ?_
    refine a_l7 rfl rfl rfl ?_
    refine a_if_ne rfl (fun c75 => ?_) (fun c => absurd c (by decide))
    refine a_l0 rfl rfl rfl ?_
    refine a_getq rfl gfX12_45_12 rfl rfl ?_
    refine a_l7 rfl rfl rfl ?_
    refine a_s rfl rfl ?_
    refine a_s rfl rfl ?_
    refine a_top (y := 0) (by decide) ?_
    refine a_laldv (v := rowW h j 0) rfl (n := 7) rfl ⟨by decide, by decide⟩ rfl ?_
    refine a_l3 rfl rfl rfl ?_
    refine a_s rfl rfl ?_
    refine a_s rfl rfl ?_
    refine a_s rfl rfl ?_
    refine a_lastv (k := 1) rfl (n := 7) rfl ⟨by decide, by decide⟩ (by decide) ?_
    refine a_iv7 (y := 0) rfl rfl rfl (by decide) ?_
    refine a_goto rfl ?_
    refine a_l7 rfl rfl rfl ?_
    refine a_if_lt rfl (fun c => absurd c (by decide)) (fun c51 => ?_)
    refine a_l0 rfl rfl rfl ?_
    refine a_getq rfl gfX12_45_12 rfl rfl ?_
    refine a_l7 rfl rfl rfl ?_
    refine a_l0 rfl rfl rfl ?_
    refine a_getq rfl gfX12_45_12 rfl rfl ?_
    refine a_l7 rfl rfl rfl ?_
    refine a_laldv (v := rowW h j 0) rfl (n := 7) rfl ⟨by decide, by decide⟩ rfl ?_
    refine a_s rfl rfl ?_
    refine a_l3 rfl rfl rfl ?_
    refine a_s rfl rfl ?_
    refine a_s rfl rfl ?_
    refine a_s rfl rfl ?_
    refine a_l7 rfl rfl rfl ?_
    refine a_if_ne rfl (fun c => absurd c (by decide)) (fun c75 => ?_)
    refine a_s rfl rfl ?_
    refine a_goto rfl ?_
    refine a_s rfl rfl ?_
    refine a_lastv (k := 0) rfl (n := 7) rfl ⟨by decide, by decide⟩ (by decide) ?_
    refine a_iv7 (y := (-1)) rfl rfl rfl (by decide) ?_
    refine a_goto rfl ?_
    refine a_l7 rfl rfl rfl ?_
    refine a_if_lt rfl (fun c51 => ?_) (fun c => absurd (by decide) c)
    refine a_l4 rfl rfl rfl ?_
    refine a_ldc2 rfl kX12_454 ?_
    refine a_s rfl rfl ?_
    refine a_sL4 rfl rfl rfl rfl ?_
    refine a_i6 rfl rfl rfl ?_
    refine a_goto rfl ?_
    exact a_back ih39 (by simp [lsub, nI_1, allW]) (by show (K0, I, _, _, _) = (K0, I, _, _, _); rw [show rowW h (j + 1) = stepW h (rowW h j) from rfl, ← setW_step (L := L) (f := rowW h j) (g := stepW h (rowW h j))]; rfl)
  refine a_l6 rfl rfl rfl ?_
  refine a_l1 rfl rfl rfl ?_
  refine a_ic_ge rfl (fun c42 => ?_) (fun c => absurd (Int32.le_refl _) c)
  refine a_s rfl rfl ?_
  refine a_sL6 rfl rfl rfl rfl ?_
  refine a_l2 rfl rfl rfl ?_
  refine a_s8 rfl rfl rfl rfl rfl rfl ?_
  refine a_forE (n := 7 - m) (fun j => [some (.ref 420), some (.int (nI n)), some (.int (nI m)), some (.int h), some (.long (allW n)), none, some (.long (sumW (rowW h n) m j)), none, some (.int (nI (m + j)))]) (fun j => hp I (setW L (rowW h n)) w1 w2 t) (by simp [lsub, sumW]) rfl ?_ (fun j hj ih122 => ?_)
  rotate_left
  · refine a_l8 rfl rfl rfl ?_
    refine a_s rfl rfl ?_
    refine a_ic_gt rfl (fun c => absurd c (nI_nlu (n := 6) (by omega) (by omega))) (fun c126 => ?_)
    refine a_l6 rfl rfl rfl ?_
    refine a_l0 rfl rfl rfl ?_
    refine a_getq rfl gfX12_45_12 rfl (rfl) ?_
    refine a_l8 rfl rfl rfl ?_
    refine a_laldv (v := rowW h n (m + j)) rfl (n := 7) rfl (inI_nI (by omega) (by omega)) (by rw [nI_clamp (by omega)]; exact setW_at (by omega)) ?_
    refine a_s rfl rfl ?_
    refine a_sL6 rfl rfl rfl rfl ?_
    refine a_i8 rfl rfl rfl ?_
    refine a_goto rfl ?_
    exact a_back ih122 (by simp [lsub, nI_1, sumW, Nat.add_assoc]) rfl
  refine a_l8 rfl rfl rfl ?_
  refine a_s rfl rfl ?_
  refine a_ic_gt rfl (fun c126 => ?_) (fun c => absurd (by rw [show m + (7 - m) = 6 + 1 by omega]; exact nI_ltn (n := 6) (by omega)) c)
  refine a_ldc2 rfl kX12_456 ?_
  refine a_l6 rfl rfl rfl ?_
  refine a_s rfl rfl ?_
  refine a_l4 rfl rfl rfl ?_
  refine a_ldiv rfl (allW_ne n hn) ?_
  refine a_s rfl rfl ?_
  refine a_iret rfl rfl ⟨rfl, rfl⟩
end
section
/-! ===== the reference: all of its ranges; what it remembers ===== -/
def FrW (np : Nat) (W : Nat → Int32) : Prop := ∀ p, p < np → ∃ f, f ≤ 9 ∧ vp W 1 p = nI f
def StW (W : Nat → Int32) : Prop := ∃ nd np, SO nd np W ∧ FrW np W ∧ LgW W
def Img (I : Nat → Nat → Int32) : Prop := I 420 6 = 0 ∨ (StW (I 422) ∧ LwW (I 422))
def Act (I : Nat → Nat → Int32) : Prop := ∃ r, r ≤ 12 ∧ I 420 7 = nI r ∧ ∀ i, i < r → StW (fun k => I 425 (335 * i + k)) ∧ I 425 (335 * i + 3) = I 421 3
/-- all that is known of the reference between two calls, but for its tape -/
def RI (nd np : Nat) (I : Nat → Nat → Int32) : Prop := SO nd np (I 421) ∧ FrW np (I 421) ∧ LwW (I 421) ∧ LgW (I 421) ∧ Img I ∧ Act I
def Fk (I I' : Nat → Nat → Int32) : Prop := (∀ q, (q < 420 ∨ q = 426) → I' q = I q) ∧ I' 420 9 = I 420 9 ∧ I' 420 6 = I 420 6
theorem Fk.rf {I : Nat → Nat → Int32} : Fk I I := ⟨fun _ _ => rfl, rfl, rfl⟩
theorem Fk.tr {I I' I'' : Nat → Nat → Int32} (h : Fk I I') (h2 : Fk I' I'') : Fk I I'' := ⟨fun q hq => (h2.1 q hq).trans (h.1 q hq), h2.2.1.trans h.2.1, h2.2.2.trans h.2.2⟩
def Mr (nd np : Nat) (I I' : Nat → Nat → Int32) : Prop := Fk I I' ∧ RI nd np I'
theorem Mr.rf {nd np : Nat} {I : Nat → Nat → Int32} (h : RI nd np I) : Mr nd np I I := ⟨Fk.rf, h⟩
theorem Mr.tr {nd np : Nat} {I I' I'' : Nat → Nat → Int32} (h : Mr nd np I I') (h2 : Mr nd np I' I'') : Mr nd np I I'' := ⟨h.1.tr h2.1, h2.2⟩
theorem RI.so {nd np : Nat} {I : Nat → Nat → Int32} (h : RI nd np I) : SO nd np (I 421) := h.1
theorem RI.fr {nd np : Nat} {I : Nat → Nat → Int32} (h : RI nd np I) : FrW np (I 421) := h.2.1
theorem RI.lw {nd np : Nat} {I : Nat → Nat → Int32} (h : RI nd np I) : LwW (I 421) := h.2.2.1
theorem RI.lg {nd np : Nat} {I : Nat → Nat → Int32} (h : RI nd np I) : LgW (I 421) := h.2.2.2.1
theorem RI.im {nd np : Nat} {I : Nat → Nat → Int32} (h : RI nd np I) : Img I := h.2.2.2.2.1
theorem RI.ac {nd np : Nat} {I : Nat → Nat → Int32} (h : RI nd np I) : Act I := h.2.2.2.2.2
theorem Img.eq {I I' : Nat → Nat → Int32} (h : Img I) (e6 : I' 420 6 = I 420 6) (e : I' 422 = I 422) : Img I' := by
  unfold Img
  rw [e6, e]
  exact h
theorem Act.eq {I I' : Nat → Nat → Int32} (h : Act I) (e7 : I' 420 7 = I 420 7) (e : I' 425 = I 425) (e3 : I' 421 3 = I 421 3) : Act I' := by
  unfold Act
  rw [e7, e, e3]
  exact h
/-- a change of the world alone, not of whether there is a law -/
theorem Mr.wd {nd np : Nat} {I I' : Nat → Nat → Int32} (h : RI nd np I) (hf : ∀ q, q ≠ 421 → I' q = I q) (e3 : I' 421 3 = I 421 3) (h1 : SO nd np (I' 421)) (h2 : FrW np (I' 421)) (h3 : LwW (I' 421)) (h4 : LgW (I' 421)) : Mr nd np I I' :=
  ⟨⟨fun q hq => hf q (by omega), by rw [hf 420 (by decide)], by rw [hf 420 (by decide)]⟩, h1, h2, h3, h4, h.im.eq (by rw [hf 420 (by decide)]) (hf 422 (by decide)), h.ac.eq (by rw [hf 420 (by decide)]) (hf 425 (by decide)) e3⟩
theorem dayC_per : ∀ p, p < 6 → dayC (11 + 2 * p + 1) = false := by decide +kernel
theorem sD_low {q k : Nat} (h : q < 420 ∨ q = 426) : sD q k = false := by
  have b : ∀ n, 420 ≤ n → n ≠ 426 → Nat.beq q n = false := fun n hn hn2 => beqF (by omega)
  simp [sD, sU, b]
theorem Mr.ofD {nd np : Nat} {I I' : Nat → Nat → Int32} (h : RI nd np I) (f : Dd I I') : Mr nd np I I' := by
  refine ⟨⟨fun q hq => funext fun k => f.1 q k (sD_low hq), f.1 420 9 rfl, f.1 420 6 rfl⟩, f.so h.so, fun p hp => ?_, f.lw h.lw, f.lg h.lg, h.im.eq (f.1 420 6 rfl) (funext fun k => f.1 422 k rfl), h.ac.eq (f.1 420 7 rfl) (funext fun k => f.1 425 k rfl) (f.1 421 3 rfl)⟩
  have h6 := h.so.p
  show ∃ g, g ≤ 9 ∧ I' 421 (11 + 2 * p + 1) = nI g
  rw [f.1 421 _ (dayC_per p (by omega))]
  exact h.fr p hp
theorem Mr.dd {nd np : Nat} {I I' I'' : Nat → Nat → Int32} (h : Mr nd np I I') (f : Dd I' I'') : Mr nd np I I'' := h.tr (Mr.ofD h.2 f)
theorem Mr.fm {nd np : Nat} {I I' I'' : Nat → Nat → Int32} (h : Mr nd np I I') (f : Fm sU I' I'') : Mr nd np I I'' := h.dd (Dd.of f)
theorem sV_low {q k : Nat} (h : q < 420 ∨ q = 426) : sV q k = false := by
  have b : ∀ n, 420 ≤ n → n ≠ 426 → Nat.beq q n = false := fun n hn hn2 => beqF (by omega)
  simp [sV, sU, b]
theorem Mr.ofV {nd np : Nat} {I I' : Nat → Nat → Int32} (h : RI nd np I) (f : Fm sV I I') : Mr nd np I I' := by
  have e : I' 421 = I 421 := funext fun k => f 421 k rfl
  refine ⟨⟨fun q hq => funext fun k => f q k (sV_low hq), f 420 9 rfl, f 420 6 rfl⟩, by rw [e]; exact h.so, by rw [e]; exact h.fr, by rw [e]; exact h.lw, by rw [e]; exact h.lg, h.im.eq (f 420 6 rfl) (funext fun k => f 422 k rfl), h.ac.eq (f 420 7 rfl) (funext fun k => f 425 k rfl) (f 421 3 rfl)⟩
theorem u2_lo {I : Nat → Nat → Int32} {j k : Nat} {v : Int32} (h : k ≠ j) : up2 I 421 j v 421 k = I 421 k := up2_ne (Or.inr h)
theorem LgW.up {I : Nat → Nat → Int32} {j : Nat} {v : Int32} (h : LgW (I 421)) (hj : j ≠ 9) : LgW (up2 I 421 j v 421) := by
  obtain ⟨n, h1, h2⟩ := h
  exact ⟨n, h1, by rw [u2_lo (fun e => hj e.symm)]; exact h2⟩
theorem LwW.up {I : Nat → Nat → Int32} {j : Nat} {v : Int32} (h : LwW (I 421)) (hj : j ≠ 3) (hj2 : j < 335) : LwW (up2 I 421 j v 421) := h.eq (u2_lo (fun e => hj e.symm)) (fun k h1 _ => u2_lo (by omega))
theorem Mr.own {nd np d p : Nat} {I I' : Nat → Nat → Int32} (h : Mr nd np I I') (hd : d < nd) (hp : p < np) : Mr nd np I (up2 I' 421 (23 + 6 * d + 0) (nI p)) := by
  have hs := h.2.so
  have hn := hs.n
  have h6 := hs.p
  refine h.tr (Mr.wd h.2 (fun q hq => up2_row hq) (u2_lo (by omega)) ⟨hs.n, hs.p, (u2_lo (by omega)).trans hs.du, (u2_lo (by omega)).trans hs.pu, fun e he => ?_, fun e he => ?_, fun e he => ?_, fun z => hs.h7 ((u2_lo (by omega)).symm.trans z)⟩ (fun q hq => ?_) (h.2.lw.up (by omega) (by omega)) (h.2.lg.up (by omega)))
  · show up2 I' 421 _ _ 421 (23 + 6 * e + 4) = -1 ∨ ∃ g, g < nd ∧ up2 I' 421 _ _ 421 (23 + 6 * e + 4) = nI g
    rw [u2_lo (by omega)]
    exact hs.l e he
  · show ∃ g, g < np ∧ up2 I' 421 _ _ 421 (23 + 6 * e + 0) = nI g
    by_cases hed : e = d
    · subst hed
      exact ⟨p, hp, up2_at⟩
    · rw [u2_lo (by omega)]
      exact hs.o e he
  · show up2 I' 421 _ _ 421 (23 + 6 * e + 3) = -1 ∨ ∃ g, g < 6 ∧ up2 I' 421 _ _ 421 (23 + 6 * e + 3) = nI g
    rw [u2_lo (by omega)]
    exact hs.t e he
  · show ∃ g, g ≤ 9 ∧ up2 I' 421 _ _ 421 (11 + 2 * q + 1) = nI g
    rw [u2_lo (by omega)]
    exact h.2.fr q hq
theorem Mr.le {nd np d : Nat} {I I' : Nat → Nat → Int32} {x : Int32} (h : Mr nd np I I') (hd : d < nd) (hx : x = -1 ∨ ∃ e, e < nd ∧ x = nI e) : Mr nd np I (up2 I' 421 (23 + 6 * d + 4) x) := by
  have hs := h.2.so
  have hn := hs.n
  have h6 := hs.p
  refine h.tr (Mr.wd h.2 (fun q hq => up2_row hq) (u2_lo (by omega)) ⟨hs.n, hs.p, (u2_lo (by omega)).trans hs.du, (u2_lo (by omega)).trans hs.pu, fun e he => ?_, fun e he => ?_, fun e he => ?_, fun z => hs.h7 ((u2_lo (by omega)).symm.trans z)⟩ (fun q hq => ?_) (h.2.lw.up (by omega) (by omega)) (h.2.lg.up (by omega)))
  · show up2 I' 421 _ _ 421 (23 + 6 * e + 4) = -1 ∨ ∃ g, g < nd ∧ up2 I' 421 _ _ 421 (23 + 6 * e + 4) = nI g
    by_cases hed : e = d
    · subst hed
      rw [up2_at]
      exact hx
    · rw [u2_lo (by omega)]
      exact hs.l e he
  · show ∃ g, g < np ∧ up2 I' 421 _ _ 421 (23 + 6 * e + 0) = nI g
    rw [u2_lo (by omega)]
    exact hs.o e he
  · show up2 I' 421 _ _ 421 (23 + 6 * e + 3) = -1 ∨ ∃ g, g < 6 ∧ up2 I' 421 _ _ 421 (23 + 6 * e + 3) = nI g
    rw [u2_lo (by omega)]
    exact hs.t e he
  · show ∃ g, g ≤ 9 ∧ up2 I' 421 _ _ 421 (11 + 2 * q + 1) = nI g
    rw [u2_lo (by omega)]
    exact h.2.fr q hq
theorem Mr.free {nd np p m : Nat} {I I' : Nat → Nat → Int32} (h : Mr nd np I I') (hp : p < np) (hm : m ≤ 9) : Mr nd np I (up2 I' 421 (11 + 2 * p + 1) (nI m)) := by
  have hs := h.2.so
  have h6 := hs.p
  refine h.tr (Mr.wd h.2 (fun q hq => up2_row hq) (u2_lo (by omega)) (hs.fr hp) (fun q hq => ?_) (h.2.lw.up (by omega) (by omega)) (h.2.lg.up (by omega)))
  show ∃ g, g ≤ 9 ∧ up2 I' 421 _ _ 421 (11 + 2 * q + 1) = nI g
  by_cases e : q = p
  · subst e
    exact ⟨m, hm, up2_at⟩
  · rw [u2_lo (by omega)]
    exact h.2.fr q hq
/-! what is remembered: rows within a row -/
def cpR (I : Nat → Nat → Int32) (p a q b n : Nat) : Nat → Nat → Int32 := upr I p (fun k => if a ≤ k ∧ k < a + n then I q (k - a + b) else I p k)
theorem cpR_0 {I : Nat → Nat → Int32} {p a q b : Nat} : cpR I p a q b 0 = I := by
  funext x
  unfold cpR upr
  split
  · next h =>
    subst h
    funext k
    rw [if_neg (by omega)]
  · rfl
theorem cpR_row {I : Nat → Nat → Int32} {p a q b n x : Nat} (h : x ≠ p) : cpR I p a q b n x = I x := upr_row h
theorem cpR_in {I : Nat → Nat → Int32} {p a q b n k : Nat} (h1 : k < n) : cpR I p a q b n p (a + k) = I q (k + b) := by
  unfold cpR
  rw [upr_at, if_pos ⟨by omega, by omega⟩]
  congr 1
  omega
theorem cpR_out {I : Nat → Nat → Int32} {p a q b n k : Nat} (h : ¬ (a ≤ k ∧ k < a + n)) : cpR I p a q b n p k = I p k := by
  unfold cpR
  rw [upr_at, if_neg h]
/-- one more; the row copied from is another, or lies behind -/
theorem cpR_succ {I : Nat → Nat → Int32} {p a q b n : Nat} : up2 (cpR I p a q b n) p (a + n) (I q (n + b)) = cpR I p a q b (n + 1) := by
  funext x k
  by_cases hx : x = p
  · subst hx
    by_cases hk : k = a + n
    · subst hk
      rw [up2_at, cpR_in (by omega)]
    · rw [up2_ne (Or.inr hk)]
      unfold cpR
      rw [upr_at, upr_at]
      by_cases h : a ≤ k ∧ k < a + n
      · rw [if_pos h, if_pos ⟨h.1, by omega⟩]
      · rw [if_neg h, if_neg (by omega)]
  · rw [up2_row hx, cpR_row hx, cpR_row hx]
theorem StW.eq {W W' : Nat → Int32} (h : StW W) (e : ∀ k, k < 335 → W' k = W k) : StW W' := by
  obtain ⟨nd, np, h1, h2, h3⟩ := h
  have hn := h1.n
  have h6 := h1.p
  refine ⟨nd, np, h1.eq (e 0 (by decide)) (e 1 (by decide)) (e 7 (by decide)) (fun d k hd hk => e _ (by omega)) (fun _ _ => trivial), fun p hp => ?_, ?_⟩
  · show ∃ g, g ≤ 9 ∧ W' (11 + 2 * p + 1) = nI g
    rw [e _ (by omega)]
    exact h2 p hp
  · obtain ⟨k, h4, h5⟩ := h3
    exact ⟨k, h4, (e 9 (by decide)).trans h5⟩
theorem RI.st {nd np : Nat} {I : Nat → Nat → Int32} (h : RI nd np I) : StW (I 421) := ⟨nd, np, h.so, h.fr, h.lg⟩
/-- twelve are there: the eldest goes; else one more -/
def remH (I : Nat → Nat → Int32) (r : Nat) : Nat → Nat → Int32 := if r = 12 then cpR (cpR I 425 0 425 335 3685) 425 (335 * 11) 421 0 335 else cpR (up2 I 420 7 (nI (r + 1))) 425 (335 * r) 421 0 335
theorem Mr.rem {nd np r : Nat} {I : Nat → Nat → Int32} (h : RI nd np I) (hr : r ≤ 12) (er : I 420 7 = nI r) (ha : ∀ i, i < r → StW (fun k => I 425 (335 * i + k)) ∧ I 425 (335 * i + 3) = I 421 3) : Mr nd np I (remH I r) ∧ remH I r 421 = I 421 := by
  have e1 : ∀ q, q ≠ 425 → q ≠ 420 → remH I r q = I q := fun q h1 h2 => by
    unfold remH
    split
    · rw [cpR_row h1, cpR_row h1]
    · rw [cpR_row h1, up2_row h2]
  have e2 : ∀ k, k ≠ 7 → remH I r 420 k = I 420 k := fun k hk => by
    unfold remH
    split
    · rw [cpR_row (by decide), cpR_row (by decide)]
    · rw [cpR_row (by decide), up2_ne (Or.inr hk)]
  refine ⟨⟨⟨fun q hq => e1 q (by omega) (by omega), e2 9 (by decide), e2 6 (by decide)⟩, ?_⟩, e1 421 (by decide) (by decide)⟩
  unfold RI
  rw [e1 421 (by decide) (by decide)]
  refine ⟨h.so, h.fr, h.lw, h.lg, h.im.eq (e2 6 (by decide)) (e1 422 (by decide) (by decide)), ?_⟩
  unfold Act
  rw [e1 421 (by decide) (by decide)]
  by_cases h12 : r = 12
  · subst h12
    refine ⟨12, by decide, ?_, fun i hi => ?_⟩
    · unfold remH
      rw [if_pos rfl, cpR_row (by decide), cpR_row (by decide)]
      exact er
    · have e3 : ∀ k, k < 335 → remH I 12 425 (335 * i + k) = if i = 11 then I 421 k else I 425 (335 * (i + 1) + k) := fun k hk => by
        unfold remH
        rw [if_pos rfl]
        by_cases h11 : i = 11
        · subst h11
          rw [if_pos rfl, cpR_in hk, cpR_row (by decide), Nat.add_zero]
        · rw [if_neg h11, cpR_out (by omega), show 335 * i + k = 0 + (335 * i + k) by omega, cpR_in (by omega)]
          congr 1
          omega
      by_cases h11 : i = 11
      · refine ⟨h.st.eq fun k hk => (e3 k hk).trans (if_pos h11), (e3 3 (by decide)).trans (if_pos h11)⟩
      · have h9 := ha (i + 1) (by omega)
        exact ⟨h9.1.eq fun k hk => (e3 k hk).trans (if_neg h11), ((e3 3 (by decide)).trans (if_neg h11)).trans h9.2⟩
  · refine ⟨r + 1, by omega, ?_, fun i hi => ?_⟩
    · unfold remH
      rw [if_neg h12, cpR_row (by decide), up2_at]
    · have e3 : ∀ k, k < 335 → remH I r 425 (335 * i + k) = if i = r then I 421 k else I 425 (335 * i + k) := fun k hk => by
        unfold remH
        rw [if_neg h12]
        by_cases h11 : i = r
        · subst h11
          rw [if_pos rfl, cpR_in hk, up2_row (by decide), Nat.add_zero]
        · rw [if_neg h11, cpR_out (by omega), up2_row (by decide)]
      by_cases h11 : i = r
      · exact ⟨h.st.eq fun k hk => (e3 k hk).trans (if_pos h11), (e3 3 (by decide)).trans (if_pos h11)⟩
      · have h9 := ha i (by omega)
        exact ⟨h9.1.eq fun k hk => (e3 k hk).trans (if_neg h11), ((e3 3 (by decide)).trans (if_neg h11)).trans h9.2⟩
end
