section
/-! ===== the reference: what is walked by hand ===== -/
section H59
variable {S : aS} {I : Nat → Nat → Int32} {L : Nat → Nat → Int64} {w1 w2 t : Nat} {nd np : Nat}
set_option maxRecDepth 100000
theorem r_X12_noDuty (hs : SO nd np (I 421)) {x : Int32} : SpE S m_X12_noDuty 13 [.ref 420, .int x] (hp I L w1 w2 t) (some (.int (bI (!inB x 0 (nI nd - 1))))) (hp I L w1 w2 t) := by
  refine SpE_of ok_X12_noDuty rfl rfl ?_
  show AW S m_X12_noDuty 13 _ _ 0 0 0 [some (.ref 420), some (.int x)] [] (hp I L w1 w2 t)
  refine a_l1 rfl rfl rfl ?_
  refine a_s rfl rfl ?_
  refine a_l0 rfl rfl rfl ?_
  refine a_eV1 rfl lX12_74 mo_X12_duties sp_X12_duties rfl rfl rfl ⟨12, _, rfl, rfl, rfl⟩ rfl ?_
  refine a_top (y := nI nd) hs.du ?_
  refine a_s rfl rfl ?_
  refine a_s rfl rfl ?_
  refine a_eS1 rfl lX12_70 mo_X12_in sp_X12_in rfl rfl rfl rfl ?_
  refine a_if_ne rfl (fun c => ?_) (fun c => ?_)
  · refine a_s rfl rfl ?_
    exact a_zret rfl rfl rfl ⟨by rw [bI_t c]; rfl, rfl⟩
  · refine a_s rfl rfl ?_
    refine a_goto rfl ?_
    exact a_zret rfl rfl rfl ⟨by rw [bI_f c]; rfl, rfl⟩
theorem r_X12_noPerson (hs : SO nd np (I 421)) {x : Int32} : SpE S m_X12_noPerson 13 [.ref 420, .int x] (hp I L w1 w2 t) (some (.int (bI (!inB x 0 (nI np - 1))))) (hp I L w1 w2 t) := by
  refine SpE_of ok_X12_noPerson rfl rfl ?_
  show AW S m_X12_noPerson 13 _ _ 0 0 0 [some (.ref 420), some (.int x)] [] (hp I L w1 w2 t)
  refine a_l1 rfl rfl rfl ?_
  refine a_s rfl rfl ?_
  refine a_l0 rfl rfl rfl ?_
  refine a_eV1 rfl lX12_66 mo_X12_people sp_X12_people rfl rfl rfl ⟨12, _, rfl, rfl, rfl⟩ rfl ?_
  refine a_top (y := nI np) hs.pu ?_
  refine a_s rfl rfl ?_
  refine a_s rfl rfl ?_
  refine a_eS1 rfl lX12_70 mo_X12_in sp_X12_in rfl rfl rfl rfl ?_
  refine a_if_ne rfl (fun c => ?_) (fun c => ?_)
  · refine a_s rfl rfl ?_
    exact a_zret rfl rfl rfl ⟨by rw [bI_t c]; rfl, rfl⟩
  · refine a_s rfl rfl ?_
    refine a_goto rfl ?_
    exact a_zret rfl rfl rfl ⟨by rw [bI_f c]; rfl, rfl⟩
theorem r_X12_throwsIf {b : Bool} {x : Int32} : Sp S m_X12_throwsIf 12 0 0 [.ref 420, .int (bI b), .int x] (hp I L w1 w2 t) (fun v h' => v = some (.int (bI b)) ∧ ∃ I', h' = hp I' L w1 w2 t ∧ Fm sU I I') nX := by
  refine Sp_of ok_X12_throwsIf rfl rfl ?_
  show AW S m_X12_throwsIf 12 _ _ 0 0 0 [some (.ref 420), some (.int (bI b)), some (.int x)] [] (hp I L w1 w2 t)
  refine a_l1 rfl rfl rfl ?_
  refine a_if_eq rfl (fun c => ?_) (fun c => ?_)
  · refine a_l1 rfl rfl rfl ?_
    exact a_zret rfl rfl (bI_nar _) ⟨rfl, _, rfl, Fm.rf⟩
  · refine a_l0 rfl rfl rfl ?_
    refine a_l2 rfl rfl rfl ?_
    refine a_puti rfl pfX12_3_12 rfl ?_
    refine a_l1 rfl rfl rfl ?_
    exact a_zret rfl rfl (bI_nar _) ⟨rfl, _, rfl, Fm.up Fm.rf rfl⟩
theorem r_X12_has {x y : Int32} : Sp S m_X12_has 12 0 0 [.int x, .int y] (hp I L w1 w2 t) (QE isZ (hp I L w1 w2 t)) nX := by
  refine Sp_of ok_X12_has rfl rfl ?_
  show AW S m_X12_has 12 _ _ 0 0 0 [some (.int x), some (.int y)] [] (hp I L w1 w2 t)
  refine a_l0 rfl rfl rfl ?_
  refine a_l1 rfl rfl rfl ?_
  refine a_s rfl rfl ?_
  refine a_s rfl rfl ?_
  refine a_s rfl rfl ?_
  refine a_s rfl rfl ?_
  refine a_ic_ne rfl (fun c => ?_) (fun c => ?_)
  · refine a_s rfl rfl ?_
    exact a_zret rfl rfl rfl ⟨⟨false, rfl⟩, rfl⟩
  · refine a_s rfl rfl ?_
    refine a_goto rfl ?_
    exact a_zret rfl rfl rfl ⟨⟨true, rfl⟩, rfl⟩
theorem r_X12_growsBy (hs : SO nd np (I 421)) (hw : LwW (I 421)) (lg : LgW (I 421)) {i1 : Nat} (hi1 : i1 < nd) : Sp S m_X12_growsBy 19 0 0 [.ref 420, .int (nI i1)] (hp I L w1 w2 t) (QR (Fm sU I) isI L w1 w2 t) nX := by
  obtain ⟨nl, len, cd, fa, fn, h⟩ := hw
  exact Sp.weaken (sp_X12_growsBy hs.n hs.p hi1 hs.l hs.o h) (fun v h' hv => ⟨⟨_, hv.1⟩, by obtain ⟨_, f, rfl⟩ := hv; exact ⟨_, rfl, Fm.row Fm.rf (fun _ => rfl)⟩⟩) (fun _ _ z => z)
theorem r_X12_shamesBy (hs : SO nd np (I 421)) (hw : LwW (I 421)) (lg : LgW (I 421)) {i1 : Nat} (hi1 : i1 < nd) : Sp S m_X12_shamesBy 19 0 0 [.ref 420, .int (nI i1)] (hp I L w1 w2 t) (QR (Fm sU I) isI L w1 w2 t) nX := by
  obtain ⟨nl, len, cd, fa, fn, h⟩ := hw
  exact Sp.weaken (sp_X12_shamesBy hs.n hs.p hi1 hs.l hs.o h) (fun v h' hv => ⟨⟨_, hv.1⟩, by obtain ⟨_, f, rfl⟩ := hv; exact ⟨_, rfl, Fm.row Fm.rf (fun _ => rfl)⟩⟩) (fun _ _ z => z)
theorem r_X12_shameOf (hs : SO nd np (I 421)) (hw : LwW (I 421)) (lg : LgW (I 421)) {x1 : Int32} : Sp S m_X12_shameOf 20 0 0 [.ref 420, .int x1] (hp I L w1 w2 t) (QR (Fm sU I) isI L w1 w2 t) nX := by
  obtain ⟨nl, len, cd, fa, fn, h⟩ := hw
  exact Sp.weaken (sp_X12_shameOf hs.n hs.p hs.du hs.l hs.o h) (fun v h' hv => ⟨⟨_, hv.1⟩, by obtain ⟨_, f, rfl⟩ := hv; exact ⟨_, rfl, Fm.row Fm.rf (fun _ => rfl)⟩⟩) (fun _ _ z => z)
theorem r_X12_beforeOf (hs : SO nd np (I 421)) (hw : LwW (I 421)) (lg : LgW (I 421)) {i1 : Nat} (hi1 : i1 < nd) : Sp S m_X12_beforeOf 14 0 0 [.ref 420, .int (nI i1)] (hp I L w1 w2 t) (QE isI (hp I L w1 w2 t)) nX := by
  have hn := hs.n
  refine Sp_of ok_X12_beforeOf rfl rfl ?_
  show AW S m_X12_beforeOf 14 _ _ 0 0 0 [some (.ref 420), some (.int (nI i1)), none, none] [] (hp I L w1 w2 t)
  refine a_s rfl rfl ?_
  refine a_s2 rfl rfl rfl rfl rfl rfl ?_
  refine a_l0 rfl rfl rfl ?_
  refine a_l1 rfl rfl rfl ?_
  refine a_s rfl rfl ?_
  refine a_eV1 rfl lX12_63 mo_X12_of (sp_X12_of (d := i1) (k := 4) (by omega) (by decide)) rfl rfl rfl ⟨12, _, rfl, rfl, rfl⟩ rfl ?_
  refine a_s3 rfl rfl rfl rfl rfl rfl ?_
  refine a_inv (n := nf_M 0) (fun m ls h => ∃ b x, ls = [some (.ref 420), some (.int (nI i1)), some (.int b), some (.int x)] ∧ h = hp I L w1 w2 t ∧ nf_M b = m ∧ (x = -1 ∨ ∃ e, e < nd ∧ x = nI e)) ⟨0, _, rfl, rfl, rfl, hs.l i1 hi1⟩ ?_
  rintro m _ _ ⟨b, x, rfl, rfl, rfl, hx⟩ ih
  refine a_l3 rfl rfl rfl ?_
  refine a_s rfl rfl ?_
  refine a_ic_eq rfl (fun c => ?_) (fun c => ?_)
  · refine a_l2 rfl rfl rfl ?_
    exact a_iret rfl rfl ⟨⟨_, rfl⟩, rfl⟩
  · obtain ⟨e, he, rfl⟩ := hx.resolve_left c
    refine a_l2 rfl rfl rfl ?_
    refine a_l3 rfl rfl rfl ?_
    refine a_eS1 rfl lX12_304 mo_X12_has (sp_X12_has (d := e)) rfl rfl rfl rfl ?_
    refine a_if_ne rfl (fun c2 => ?_) (fun c2 => ?_)
    · refine a_l2 rfl rfl rfl ?_
      exact a_iret rfl rfl ⟨⟨_, rfl⟩, rfl⟩
    · have e1 := grow_bit (e := e) (by omega) (bI_f c2)
      refine a_l2 rfl rfl rfl ?_
      refine a_s rfl rfl ?_
      refine a_l3 rfl rfl rfl ?_
      refine a_s rfl rfl ?_
      refine a_s rfl rfl ?_
      refine a_s2 rfl rfl rfl rfl rfl rfl ?_
      refine a_l0 rfl rfl rfl ?_
      refine a_l3 rfl rfl rfl ?_
      refine a_s rfl rfl ?_
      refine a_eV1 rfl lX12_63 mo_X12_of (sp_X12_of (d := e) (k := 4) (by omega) (by decide)) rfl rfl rfl ⟨12, _, rfl, rfl, rfl⟩ rfl ?_
      refine a_s3 rfl rfl rfl rfl rfl rfl ?_
      refine a_goto rfl ?_
      exact ih _ _ _ e1 ⟨_, _, rfl, rfl, rfl, hs.l e he⟩
theorem r_X12_chainOf (hs : SO nd np (I 421)) (hw : LwW (I 421)) (lg : LgW (I 421)) {i1 : Nat} (hi1 : i1 < nd) : Sp S m_X12_chainOf 15 0 0 [.ref 420, .int (nI i1)] (hp I L w1 w2 t) (QE isI (hp I L w1 w2 t)) nX := by
  have hn := hs.n
  refine Sp_of ok_X12_chainOf rfl rfl ?_
  show AW S m_X12_chainOf 15 _ _ 0 0 0 [some (.ref 420), some (.int (nI i1)), none, none] [] (hp I L w1 w2 t)
  refine a_s rfl rfl ?_
  refine a_s2 rfl rfl rfl rfl rfl rfl ?_
  refine a_l1 rfl rfl rfl ?_
  refine a_s3 rfl rfl rfl rfl rfl rfl ?_
  refine a_inv (n := nf_M 0) (fun m ls h => ∃ b x, ls = [some (.ref 420), some (.int (nI i1)), some (.int b), some (.int x)] ∧ h = hp I L w1 w2 t ∧ nf_M b = m ∧ (x = -1 ∨ ∃ e, e < nd ∧ x = nI e)) ⟨0, _, rfl, rfl, rfl, Or.inr ⟨i1, hi1, rfl⟩⟩ ?_
  rintro m _ _ ⟨b, x, rfl, rfl, rfl, hx⟩ ih
  refine a_l3 rfl rfl rfl ?_
  refine a_s rfl rfl ?_
  refine a_ic_eq rfl (fun c => ?_) (fun c => ?_)
  · refine a_l2 rfl rfl rfl ?_
    exact a_iret rfl rfl ⟨⟨_, rfl⟩, rfl⟩
  · obtain ⟨e, he, rfl⟩ := hx.resolve_left c
    refine a_l0 rfl rfl rfl ?_
    refine a_l3 rfl rfl rfl ?_
    refine a_eV1 rfl lX12_246 mo_X12_isDone (sp_X12_isDone (d := e) (by omega)) rfl rfl rfl ⟨12, _, rfl, rfl, rfl⟩ rfl ?_
    refine a_if_ne rfl (fun c1 => ?_) (fun c1 => ?_)
    · refine a_l2 rfl rfl rfl ?_
      exact a_iret rfl rfl ⟨⟨_, rfl⟩, rfl⟩
    · refine a_l2 rfl rfl rfl ?_
      refine a_l3 rfl rfl rfl ?_
      refine a_eS1 rfl lX12_304 mo_X12_has (sp_X12_has (d := e)) rfl rfl rfl rfl ?_
      refine a_if_ne rfl (fun c2 => ?_) (fun c2 => ?_)
      · refine a_s rfl rfl ?_
        exact a_iret rfl rfl ⟨⟨_, rfl⟩, rfl⟩
      · have e1 := grow_bit (e := e) (by omega) (bI_f c2)
        refine a_l0 rfl rfl rfl ?_
        refine a_l3 rfl rfl rfl ?_
        refine a_eV1 rfl lX12_364 mo_X12_isForgotten (sp_X12_isForgotten (d := e) (by omega)) rfl rfl rfl ⟨12, _, rfl, rfl, rfl⟩ rfl ?_
        refine a_if_eq rfl (fun c3 => ?_) (fun c3 => ?_)
        · refine a_l2 rfl rfl rfl ?_
          refine a_s rfl rfl ?_
          refine a_l3 rfl rfl rfl ?_
          refine a_s rfl rfl ?_
          refine a_s rfl rfl ?_
          refine a_s2 rfl rfl rfl rfl rfl rfl ?_
          refine a_l0 rfl rfl rfl ?_
          refine a_l3 rfl rfl rfl ?_
          refine a_s rfl rfl ?_
          refine a_eV1 rfl lX12_63 mo_X12_of (sp_X12_of (d := e) (k := 4) (by omega) (by decide)) rfl rfl rfl ⟨12, _, rfl, rfl, rfl⟩ rfl ?_
          refine a_s3 rfl rfl rfl rfl rfl rfl ?_
          refine a_goto rfl ?_
          exact ih _ _ _ e1 ⟨_, _, rfl, rfl, rfl, hs.l e he⟩
        · refine a_s rfl rfl ?_
          exact a_iret rfl rfl ⟨⟨_, rfl⟩, rfl⟩
theorem inTool {x : Int32} (h : x = -1 ∨ ∃ k, k < 6 ∧ x = nI k) (c : ¬ x = -1) : inI x 6 := by
  obtain ⟨k, hk, rfl⟩ := h.resolve_left c
  exact inI_nI hk (by decide)
theorem r_X12_drawn (hs : SO nd np (I 421)) (hw : LwW (I 421)) (lg : LgW (I 421)) : Sp S m_X12_drawn 12 0 0 [.ref 420, .int 100] (hp I L w1 w2 t) (QR (Dd I) isI L w1 w2 t) nX := by
  refine Sp_of ok_X12_drawn rfl rfl ?_
  show AW S m_X12_drawn 12 _ _ 0 0 0 [some (.ref 420), some (.int 100)] [] (hp I L w1 w2 t)
  refine a_l0 rfl rfl rfl ?_
  refine a_getq rfl gfX12_13_12 rfl (rfl) ?_
  refine a_s rfl rfl ?_
  refine a_ldc rfl kX12_77 ?_
  refine a_l0 rfl rfl rfl ?_
  refine a_getq rfl gfX12_13_12 rfl (rfl) ?_
  refine a_s rfl rfl ?_
  refine a_iald rfl (n := 2033) rfl ⟨by decide, by decide⟩ ?_
  refine a_s rfl rfl ?_
  refine a_s rfl rfl ?_
  refine a_s rfl rfl ?_
  refine a_iastv (k := 10) rfl (n := 2033) rfl ⟨by decide, by decide⟩ rfl ?_
  refine a_ren (P := Dd I) (Dd.up Dd.rf rfl (by decide)) (fun I1 f1 => ?_)
  refine a_l0 rfl rfl rfl ?_
  refine a_getq rfl gfX12_13_12 rfl (rfl) ?_
  refine a_s rfl rfl ?_
  refine a_iald rfl (n := 2033) rfl ⟨by decide, by decide⟩ ?_
  refine a_s rfl rfl ?_
  refine a_s rfl rfl ?_
  refine a_s rfl rfl ?_
  refine a_s rfl rfl ?_
  refine a_l1 rfl rfl rfl ?_
  refine a_irem rfl (by decide) ?_
  exact a_iret rfl rfl ⟨⟨_, rfl⟩, _, rfl, f1⟩
theorem Dd.l9 {J : Nat → Nat → Int32} (h : Dd I J) : Dd I (up2 J 421 9 (if J 421 9 + 1 < 60 then J 421 9 + 1 else 60)) := h.tr ⟨Fm.up Fm.rf rfl, fun z => by
  obtain ⟨k, h1, h2⟩ := z
  unfold LgW
  rw [up2_at, h2, ← nI_succ]
  split
  · next hc =>
    refine ⟨k + 1, ?_, rfl⟩
    have := Int32.lt_iff_toInt_lt.mp hc
    rw [nI_toInt (by omega), show (60 : Int32).toInt = 60 from rfl] at this
    omega
  · exact ⟨60, by decide, rfl⟩⟩
theorem r_X12_tells (hs : SO nd np (I 421)) (hw : LwW (I 421)) (lg : LgW (I 421)) {i1 : Nat} (hi1 : i1 < nd) {x2 : Int32} : Sp S m_X12_tells 20 0 0 [.ref 420, .int (nI i1), .int x2] (hp I L w1 w2 t) (QR (Dd I) isV L w1 w2 t) nX := by
  have hn := hs.n
  refine Sp_of ok_X12_tells rfl rfl ?_
  show AW S m_X12_tells 20 _ _ 0 0 0 [some (.ref 420), some (.int (nI i1)), some (.int x2), none] [] (hp I L w1 w2 t)
  refine a_s rfl rfl ?_
  refine a_s3 rfl rfl rfl rfl rfl rfl ?_
  refine a_inv (n := 236) (fun m ls h => ∃ I', ls = [some (.ref 420), some (.int (nI i1)), some (.int x2), some (.int (nI (m + 3)))] ∧ h = hp I' L w1 w2 t ∧ Dd I I' ∧ m ≤ 236) ⟨_, rfl, rfl, Dd.rf, by decide⟩ ?_
  rintro m _ _ ⟨I1, rfl, rfl, f1, hm⟩ ih
  refine a_l3 rfl rfl rfl ?_
  refine a_s rfl rfl ?_
  refine a_ic_lt rfl (fun c => ?_) (fun c => ?_)
  · refine a_l0 rfl rfl rfl ?_
    refine a_getq rfl gfX12_13_12 rfl (rfl) ?_
    refine a_s rfl rfl ?_
    refine a_l0 rfl rfl rfl ?_
    refine a_getq rfl gfX12_13_12 rfl (rfl) ?_
    refine a_s rfl rfl ?_
    refine a_iald rfl (n := 2033) rfl ⟨by decide, by decide⟩ ?_
    refine a_iastv (k := 95) rfl (n := 2033) rfl ⟨by decide, by decide⟩ rfl ?_
    refine a_ren (P := Dd I) (Dd.up f1 rfl (by decide)) (fun I2 f2 => ?_)
    refine a_l0 rfl rfl rfl ?_
    refine a_getq rfl gfX12_13_12 rfl (rfl) ?_
    refine a_s rfl rfl ?_
    refine a_l1 rfl rfl rfl ?_
    refine a_iastv (k := 96) rfl (n := 2033) rfl ⟨by decide, by decide⟩ rfl ?_
    refine a_ren (P := Dd I) (Dd.up f2 rfl (by decide)) (fun I3 f3 => ?_)
    refine a_l0 rfl rfl rfl ?_
    refine a_getq rfl gfX12_13_12 rfl (rfl) ?_
    refine a_s rfl rfl ?_
    refine a_l2 rfl rfl rfl ?_
    refine a_iastv (k := 97) rfl (n := 2033) rfl ⟨by decide, by decide⟩ rfl ?_
    refine a_ren (P := Dd I) (Dd.up f3 rfl (by decide)) (fun I4 f4 => ?_)
    refine a_l0 rfl rfl rfl ?_
    refine a_getq rfl gfX12_13_12 rfl (rfl) ?_
    refine a_s rfl rfl ?_
    refine a_l0 rfl rfl rfl ?_
    refine a_l1 rfl rfl rfl ?_
    refine a_gV rfl lX12_318 mo_X12_shamesBy (r_X12_shamesBy (f4.so hs) (f4.lw hw) (f4.lg lg) hi1) rfl rfl rfl ⟨12, _, rfl, rfl, rfl⟩ rfl (fun v' h' hv => ?_)
    obtain ⟨⟨v, rfl⟩, I5, rfl, f5⟩ := hv
    replace f5 : Dd I I5 := Dd.fm f4 f5
    refine a_iastv (k := 98) rfl (n := 2033) rfl ⟨by decide, by decide⟩ rfl ?_
    refine a_ren (P := Dd I) (Dd.up f5 rfl (by decide)) (fun I6 f6 => ?_)
    refine a_l0 rfl rfl rfl ?_
    refine a_getq rfl gfX12_13_12 rfl (rfl) ?_
    refine a_s rfl rfl ?_
    refine a_s rfl rfl ?_
    refine a_l0 rfl rfl rfl ?_
    refine a_getq rfl gfX12_13_12 rfl (rfl) ?_
    refine a_s rfl rfl ?_
    refine a_iald rfl (n := 2033) rfl ⟨by decide, by decide⟩ ?_
    refine a_s rfl rfl ?_
    refine a_s rfl rfl ?_
    refine a_min rfl lX12_295 mj_min rfl rfl ?_
    refine a_iastv (k := 9) rfl (n := 2033) rfl ⟨by decide, by decide⟩ rfl ?_
    exact a_vret rfl rfl ⟨rfl, _, rfl, Dd.l9 f6⟩
  · have h4 : 4 ≤ m + 3 := nI_le_of (a := 4) (b := m + 3) c (by decide) (by omega)
    refine a_l0 rfl rfl rfl ?_
    refine a_getq rfl gfX12_13_12 rfl (rfl) ?_
    refine a_s rfl rfl ?_
    refine a_l3 rfl rfl rfl ?_
    refine a_s rfl rfl ?_
    refine a_top (y := nI (95 + (m + 3))) (nI_addl 95 (m + 3)) ?_
    refine a_l0 rfl rfl rfl ?_
    refine a_getq rfl gfX12_13_12 rfl (rfl) ?_
    refine a_s rfl rfl ?_
    refine a_l3 rfl rfl rfl ?_
    refine a_s rfl rfl ?_
    refine a_s rfl rfl ?_
    refine a_s rfl rfl ?_
    refine a_top (y := nI (95 + (m + 3) - 4)) (by rw [show (95 : Int32) + nI (m + 3) = nI (95 + (m + 3)) from nI_addl 95 (m + 3)]; exact nI_sub (j := 4) (by omega)) ?_
    refine a_iald rfl (n := 2033) rfl (inI_nI (by omega) (by omega)) ?_
    refine a_iastv (k := 95 + (m + 3)) rfl (n := 2033) rfl (inI_nI (by omega) (by omega)) (nI_clamp (by omega)) ?_
    refine a_ren (P := Dd I) (Dd.up f1 (dayC_log (by omega) (by omega)) (by omega)) (fun I2 f2 => ?_)
    refine a_i3 rfl rfl rfl ?_
    refine a_goto rfl ?_
    refine a_less (ih (m - 1) _ _ (by omega) ⟨_, rfl, rfl, f2, by omega⟩) ⟨rfl, rfl, rfl, ?_, trivial⟩
    rw [show m + 3 = m - 1 + 3 + 1 by omega, nI_decm]
theorem a_topE {C : aM} {d : Nat} {Q : Option Value → aH → Prop} {X : String → aH → Prop} {k1 k2 pc : Nat} {ls : List (Option Value)} {st : List Value} {h : aH} {x : Int32} (e : ∃ m, m < 4096 ∧ x = nI m) (kk : ∀ m, m < 4096 → AW S C d Q X k1 k2 pc ls (.int (nI m) :: st) h) : AW S C d Q X k1 k2 pc ls (.int x :: st) h := by
  obtain ⟨m, h1, h2⟩ := e
  rw [h2]
  exact kk m h1
theorem r_X12_ofLog {a b : Nat} (ha : a < 60) (hb : b ≤ 3) : Sp S m_X12_ofLog 12 0 0 [.ref 420, .int (nI a), .int (nI b)] (hp I L w1 w2 t) (QE isI (hp I L w1 w2 t)) nX := by
  refine Sp_of ok_X12_ofLog rfl rfl ?_
  show AW S m_X12_ofLog 12 _ _ 0 0 0 [some (.ref 420), some (.int (nI a)), some (.int (nI b))] [] (hp I L w1 w2 t)
  refine a_l0 rfl rfl rfl ?_
  refine a_getq rfl gfX12_13_12 rfl (rfl) ?_
  refine a_s rfl rfl ?_
  refine a_s rfl rfl ?_
  refine a_l1 rfl rfl rfl ?_
  refine a_s rfl rfl ?_
  refine a_top (y := nI (4 * a)) (nI_mul 4 a) ?_
  refine a_s rfl rfl ?_
  refine a_top (y := nI (95 + 4 * a)) (nI_addl 95 (4 * a)) ?_
  refine a_l2 rfl rfl rfl ?_
  refine a_s rfl rfl ?_
  refine a_top (y := nI (95 + 4 * a + b)) (nI_addl _ _) ?_
  refine a_iald rfl (n := 2033) rfl (inI_nI (by omega) (by omega)) ?_
  exact a_iret rfl rfl ⟨⟨_, rfl⟩, rfl⟩
theorem nI_m1 {m : Nat} (h : ¬ nI m - 1 < 0) (hm : m < 2 ^ 31) : ∃ k, m = k + 1 ∧ nI m - 1 = nI k := by
  rcases m with _ | k
  · exact absurd (by decide) h
  · exact ⟨k, rfl, nI_dec k⟩
theorem r_X12_led (hs : SO nd np (I 421)) (hw : LwW (I 421)) (lg : LgW (I 421)) {x1 : Int32} {b2 : Bool} : Sp S m_X12_led 14 0 0 [.ref 420, .int x1, .int (bI b2)] (hp I L w1 w2 t) (QR (Fm sV I) isI L w1 w2 t) nX := by
  have hn := hs.n
  refine Sp_of ok_X12_led rfl rfl ?_
  show AW S m_X12_led 14 _ _ 0 0 0 [some (.ref 420), some (.int x1), some (.int (bI b2)), none, none, none] [] (hp I L w1 w2 t)
  refine a_l0 rfl rfl rfl ?_
  refine a_s rfl rfl ?_
  refine a_puti rfl pfX12_3_12 rfl ?_
  refine a_ren (P := Fm sV I) (Fm.up Fm.rf rfl) (fun I1 f1 => ?_)
  refine a_l0 rfl rfl rfl ?_
  refine a_l0 rfl rfl rfl ?_
  refine a_l1 rfl rfl rfl ?_
  refine a_eV1 rfl lX12_289 mo_X12_noDuty (r_X12_noDuty (SO.fm hs f1)) rfl rfl rfl ⟨12, _, rfl, rfl, rfl⟩ rfl ?_
  refine a_s rfl rfl ?_
  refine a_gV rfl lX12_243 mo_X12_throwsIf r_X12_throwsIf rfl rfl rfl ⟨12, _, rfl, rfl, rfl⟩ rfl (fun v' h' hv => ?_)
  obtain ⟨rfl, I2, rfl, f2⟩ := hv
  replace f2 : Fm sV I I2 := Fm.tr f1 (Fm.mo f2 sU_sV)
  refine a_if_eq rfl (fun c => ?_) (fun c => ?_)
  · refine a_s rfl rfl ?_
    refine a_s3 rfl rfl rfl rfl rfl rfl ?_
    refine a_s rfl rfl ?_
    refine a_s4 rfl rfl rfl rfl rfl rfl ?_
    refine a_l0 rfl rfl rfl ?_
    refine a_getq rfl gfX12_13_12 rfl (rfl) ?_
    refine a_s rfl rfl ?_
    refine a_iald rfl (n := 2033) rfl ⟨by decide, by decide⟩ ?_
    obtain ⟨m0, hm0, em0⟩ := LgW.fm lg f2
    refine a_top (y := nI m0) em0 ?_
    refine a_s rfl rfl ?_
    refine a_s rfl rfl ?_
    refine a_s5 rfl rfl rfl rfl rfl rfl ?_
    refine a_inv (n := m0) (fun m ls h => ∃ a3 a4, ls = [some (.ref 420), some (.int x1), some (.int (bI b2)), some (.int a3), some (.int a4), some (.int (nI m - 1))] ∧ h = hp I2 L w1 w2 t ∧ m ≤ 60) ⟨_, _, rfl, rfl, hm0⟩ ?_
    rintro m _ _ ⟨a3, a4, rfl, rfl, hm⟩ ih
    refine a_l5 rfl rfl rfl ?_
    refine a_if_lt rfl (fun c2 => ?_) (fun c2 => ?_)
    · refine a_l2 rfl rfl rfl ?_
      refine a_if_eq rfl (fun _ => ?_) (fun _ => ?_)
      · refine a_l3 rfl rfl rfl ?_
        exact a_iret rfl rfl ⟨⟨_, rfl⟩, _, rfl, f2⟩
      · refine a_l4 rfl rfl rfl ?_
        refine a_goto rfl ?_
        exact a_iret rfl rfl ⟨⟨_, rfl⟩, _, rfl, f2⟩
    · obtain ⟨k, rfl, ek⟩ := nI_m1 c2 (by omega)
      have ek2 : nI k + -1 = nI k - 1 := (Int32.sub_eq_add_neg _ _).symm
      refine a_l0 rfl rfl rfl ?_
      refine a_l5 rfl rfl rfl ?_
      refine a_top (y := nI k) ek ?_
      refine a_s rfl rfl ?_
      refine a_gV rfl lX12_461 mo_X12_ofLog (r_X12_ofLog (a := k) (b := 1) (by omega) (by decide)) rfl rfl rfl ⟨12, _, rfl, rfl, rfl⟩ rfl (fun v' h' hv => ?_)
      obtain ⟨⟨v, rfl⟩, rfl⟩ := hv
      refine a_l1 rfl rfl rfl ?_
      refine a_ic_eq rfl (fun _ => ?_) (fun _ => ?_)
      · refine a_i3 rfl rfl rfl ?_
        refine a_l0 rfl rfl rfl ?_
        refine a_l5 rfl rfl rfl ?_
        refine a_top (y := nI k) ek ?_
        refine a_s rfl rfl ?_
        refine a_gV rfl lX12_461 mo_X12_ofLog (r_X12_ofLog (a := k) (b := 0) (by omega) (by decide)) rfl rfl rfl ⟨12, _, rfl, rfl, rfl⟩ rfl (fun v' h' hv => ?_)
        obtain ⟨⟨v2, rfl⟩, rfl⟩ := hv
        refine a_s4 rfl rfl rfl rfl rfl rfl ?_
        refine a_i5 rfl rfl rfl ?_
        refine a_goto rfl ?_
        refine a_less (ih k _ _ (by omega) ⟨_, _, rfl, rfl, by omega⟩) ⟨rfl, rfl, rfl, rfl, rfl, ?_, trivial⟩
        rw [ek]
        exact congrArg (fun z => some (Value.int z)) ek2
      · refine a_goto rfl ?_
        refine a_i5 rfl rfl rfl ?_
        refine a_goto rfl ?_
        refine a_less (ih k _ _ (by omega) ⟨_, _, rfl, rfl, by omega⟩) ⟨rfl, rfl, rfl, rfl, rfl, ?_, trivial⟩
        rw [ek]
        exact congrArg (fun z => some (Value.int z)) ek2
  · refine a_s rfl rfl ?_
    exact a_iret rfl rfl ⟨⟨_, rfl⟩, _, rfl, f2⟩
theorem r_X12_log (hs : SO nd np (I 421)) (hw : LwW (I 421)) (lg : LgW (I 421)) {x1 x2 : Int32} : Sp S m_X12_log 14 0 0 [.ref 420, .int x1, .int x2] (hp I L w1 w2 t) (QR (Fm sV I) isI L w1 w2 t) nX := by
  refine Sp_of ok_X12_log rfl rfl ?_
  show AW S m_X12_log 14 _ _ 0 0 0 [some (.ref 420), some (.int x1), some (.int x2)] [] (hp I L w1 w2 t)
  refine a_l0 rfl rfl rfl ?_
  refine a_s rfl rfl ?_
  refine a_puti rfl pfX12_3_12 rfl ?_
  refine a_ren (P := Fm sV I) (Fm.up Fm.rf rfl) (fun I1 f1 => ?_)
  refine a_l0 rfl rfl rfl ?_
  refine a_l2 rfl rfl rfl ?_
  refine a_s rfl rfl ?_
  refine a_s rfl rfl ?_
  refine a_eS1 rfl lX12_70 mo_X12_in sp_X12_in rfl rfl rfl rfl ?_
  refine a_if_ne rfl (fun c => ?_) (fun c => ?_)
  · obtain ⟨b, -, hb, rfl⟩ := inB_nI (a := 0) (b := 3) (by decide) (bI_t c)
    refine a_s rfl rfl ?_
    refine a_s rfl rfl ?_
    refine a_gV rfl lX12_243 mo_X12_throwsIf (r_X12_throwsIf (b := false)) rfl rfl rfl ⟨12, _, rfl, rfl, rfl⟩ rfl (fun v' h' hv => ?_)
    obtain ⟨rfl, I2, rfl, f2⟩ := hv
    replace f2 : Fm sV I I2 := Fm.tr f1 (Fm.mo f2 sU_sV)
    refine a_if_eq rfl (fun _ => ?_) (fun c => absurd (by decide) c)
    refine a_l1 rfl rfl rfl ?_
    refine a_s rfl rfl ?_
    refine a_l0 rfl rfl rfl ?_
    refine a_getq rfl gfX12_13_12 rfl (rfl) ?_
    refine a_s rfl rfl ?_
    refine a_iald rfl (n := 2033) rfl ⟨by decide, by decide⟩ ?_
    obtain ⟨m0, hm0, em0⟩ := LgW.fm lg f2
    refine a_top (y := nI m0) em0 ?_
    refine a_s rfl rfl ?_
    refine a_s rfl rfl ?_
    refine a_eS1 rfl lX12_70 mo_X12_in sp_X12_in rfl rfl rfl rfl ?_
    refine a_if_eq rfl (fun _ => ?_) (fun c2 => ?_)
    · refine a_s rfl rfl ?_
      exact a_iret rfl rfl ⟨⟨_, rfl⟩, _, rfl, f2⟩
    · obtain ⟨a, ha, rfl⟩ := isIx (n := m0) (by omega) (show bI (!inB x1 0 (nI m0 - 1)) = 0 by rw [bI_t c2]; rfl)
      refine a_l0 rfl rfl rfl ?_
      refine a_l1 rfl rfl rfl ?_
      refine a_l2 rfl rfl rfl ?_
      refine a_gV rfl lX12_461 mo_X12_ofLog (r_X12_ofLog (a := a) (b := b) (by omega) hb) rfl rfl rfl ⟨12, _, rfl, rfl, rfl⟩ rfl (fun v' h' hv => ?_)
      obtain ⟨⟨v, rfl⟩, rfl⟩ := hv
      refine a_goto rfl ?_
      exact a_iret rfl rfl ⟨⟨_, rfl⟩, _, rfl, f2⟩
  · refine a_s rfl rfl ?_
    refine a_goto rfl ?_
    refine a_s rfl rfl ?_
    refine a_gV rfl lX12_243 mo_X12_throwsIf (r_X12_throwsIf (b := true)) rfl rfl rfl ⟨12, _, rfl, rfl, rfl⟩ rfl (fun v' h' hv => ?_)
    obtain ⟨rfl, I2, rfl, f2⟩ := hv
    replace f2 : Fm sV I I2 := Fm.tr f1 (Fm.mo f2 sU_sV)
    refine a_if_eq rfl (fun c => absurd c (by decide)) (fun _ => ?_)
    refine a_s rfl rfl ?_
    exact a_iret rfl rfl ⟨⟨_, rfl⟩, _, rfl, f2⟩
end H59
end
section
/-! ===== the reference: safe walks (printed by program) ===== -/
set_option maxRecDepth 100000
theorem r_X12_canAll {S : aS} {I : Nat → Nat → Int32} {L : Nat → Nat → Int64} {w1 w2 t : Nat} {x1 : Int32} {nd np : Nat} (hs : SO nd np (I 421)) (hw : LwW (I 421)) (lg : LgW (I 421)) : Sp S m_X12_canAll 16 0 0 [.ref 420, .int x1] (hp I L w1 w2 t) (QE isZ (hp I L w1 w2 t)) nX := by
  refine Sp_of ok_X12_canAll rfl rfl ?_
  show AW S m_X12_canAll 16 _ _ 0 0 0 [some (.ref 420), some (.int x1), none, none, none] [] (hp I L w1 w2 t)
  refine a_s rfl rfl ?_
  refine a_s2 rfl rfl rfl rfl rfl rfl ?_
  refine a_s rfl rfl ?_
  refine a_s3 rfl rfl rfl rfl rfl rfl ?_
  refine a_cnt (j0 := 0) (fun j ls h => ∃ z0, ls = [some (.ref 420), some (.int x1), some (.int (bI z0)), some (.int (nI j)), none] ∧ h = hp I L w1 w2 t) (by decide) ⟨true, rfl, rfl⟩ ⟨rfl, rfl, rfl, rfl, trivial⟩ ?_
  rintro j4 _ _ hj4 ⟨z0_4, rfl, rfl⟩ ih4
  refine a_l3 rfl rfl rfl ?_
  refine a_l0 rfl rfl rfl ?_
  refine a_eV1 rfl lX12_74 mo_X12_duties (sp_X12_duties) rfl rfl rfl ⟨12, _, rfl, rfl, rfl⟩ rfl ?_
  refine a_top (y := nI nd) hs.du ?_
  refine a_ic_ge rfl (fun c9 => ?_) (fun c9 => ?_)
  · refine a_l2 rfl rfl rfl ?_
    exact a_zret rfl rfl (bI_nar _) ⟨⟨_, rfl⟩, rfl⟩
  · have hd4 : j4 < nd := nI_lt_of c9 hj4 (by have := hs.n; omega)
    refine a_s rfl rfl ?_
    refine a_s4 rfl rfl rfl rfl rfl rfl ?_
    refine a_cnt (j0 := 0) (fun j ls h => ∃ z0, ls = [some (.ref 420), some (.int x1), some (.int (bI z0)), some (.int (nI j4)), some (.int (nI j))] ∧ h = hp I L w1 w2 t) (by decide) ⟨_, rfl, rfl⟩ ⟨rfl, rfl, rfl, rfl, rfl, trivial⟩ ?_
    rintro j15 _ _ hj15 ⟨z0_15, rfl, rfl⟩ ih15
    refine a_l4 rfl rfl rfl ?_
    refine a_l3 rfl rfl rfl ?_
    refine a_ic_ge rfl (fun c18 => ?_) (fun c18 => ?_)
    · refine a_i3 rfl rfl rfl ?_
      refine a_goto rfl ?_
      exact ih4 _ _ _ _ c9 ⟨_, rfl, rfl⟩ ⟨rfl, rfl, rfl, nS _, trivial⟩
    · have hd15 : j15 < nd := Nat.lt_trans (nI_lt_of c18 hj15 (by have := hs.n; have := hs.p; omega)) hd4
      refine a_l1 rfl rfl rfl ?_
      refine a_l3 rfl rfl rfl ?_
      refine a_gS rfl lX12_304 mo_X12_has (r_X12_has) rfl rfl rfl rfl (fun v' h' hv => ?_)
      obtain ⟨⟨v1, rfl⟩, rfl⟩ := hv
      refine a_if_eq rfl (fun c26 => ?_) (fun c26 => ?_)
      · refine a_i4 rfl rfl rfl ?_
        refine a_goto rfl ?_
        exact ih15 _ _ _ _ c18 ⟨_, rfl, rfl⟩ ⟨rfl, rfl, rfl, rfl, nS _, trivial⟩
      · refine a_l1 rfl rfl rfl ?_
        refine a_l4 rfl rfl rfl ?_
        refine a_gS rfl lX12_304 mo_X12_has (r_X12_has) rfl rfl rfl rfl (fun v' h' hv => ?_)
        obtain ⟨⟨v2, rfl⟩, rfl⟩ := hv
        refine a_if_ne rfl (fun c35 => ?_) (fun c35 => ?_)
        · refine a_l2 rfl rfl rfl ?_
          refine a_if_eq rfl (fun c42 => ?_) (fun c42 => ?_)
          · refine a_s rfl rfl ?_
            refine a_s2 rfl rfl rfl rfl rfl rfl ?_
            refine a_i4 rfl rfl rfl ?_
            refine a_goto rfl ?_
            exact ih15 _ _ _ _ c18 ⟨false, rfl, rfl⟩ ⟨rfl, rfl, rfl, rfl, nS _, trivial⟩
          · refine a_l0 rfl rfl rfl ?_
            refine a_l3 rfl rfl rfl ?_
            refine a_s rfl rfl ?_
            refine a_eV1 rfl lX12_63 mo_X12_of (sp_X12_of (d := j4) (k := 0) (Nat.lt_of_lt_of_le hd4 hs.n) (by decide)) rfl rfl rfl ⟨12, _, rfl, rfl, rfl⟩ rfl ?_
            refine a_l0 rfl rfl rfl ?_
            refine a_l4 rfl rfl rfl ?_
            refine a_s rfl rfl ?_
            refine a_eV1 rfl lX12_63 mo_X12_of (sp_X12_of (d := j15) (k := 0) (Nat.lt_of_lt_of_le hd15 hs.n) (by decide)) rfl rfl rfl ⟨12, _, rfl, rfl, rfl⟩ rfl ?_
            refine a_ic_eq rfl (fun c58 => ?_) (fun c58 => ?_)
            · refine a_s rfl rfl ?_
              refine a_s2 rfl rfl rfl rfl rfl rfl ?_
              refine a_i4 rfl rfl rfl ?_
              refine a_goto rfl ?_
              exact ih15 _ _ _ _ c18 ⟨false, rfl, rfl⟩ ⟨rfl, rfl, rfl, rfl, nS _, trivial⟩
            · refine a_l0 rfl rfl rfl ?_
              refine a_l3 rfl rfl rfl ?_
              refine a_eV1 rfl lX12_283 mo_X12_placeOf (sp_X12_placeOf hs.n hs.du hd4) rfl rfl rfl ⟨12, _, rfl, rfl, rfl⟩ rfl ?_
              refine a_l0 rfl rfl rfl ?_
              refine a_l4 rfl rfl rfl ?_
              refine a_eV1 rfl lX12_283 mo_X12_placeOf (sp_X12_placeOf hs.n hs.du hd15) rfl rfl rfl ⟨12, _, rfl, rfl, rfl⟩ rfl ?_
              refine a_s rfl rfl ?_
              refine a_abs rfl lX12_307 mj_abs rfl rfl ?_
              refine a_s rfl rfl ?_
              refine a_ic_le rfl (fun c77 => ?_) (fun c77 => ?_)
              · refine a_s rfl rfl ?_
                refine a_s2 rfl rfl rfl rfl rfl rfl ?_
                refine a_i4 rfl rfl rfl ?_
                refine a_goto rfl ?_
                exact ih15 _ _ _ _ c18 ⟨false, rfl, rfl⟩ ⟨rfl, rfl, rfl, rfl, nS _, trivial⟩
              · refine a_s rfl rfl ?_
                refine a_goto rfl ?_
                refine a_s2 rfl rfl rfl rfl rfl rfl ?_
                refine a_i4 rfl rfl rfl ?_
                refine a_goto rfl ?_
                exact ih15 _ _ _ _ c18 ⟨true, rfl, rfl⟩ ⟨rfl, rfl, rfl, rfl, nS _, trivial⟩
        · refine a_goto rfl ?_
          refine a_i4 rfl rfl rfl ?_
          refine a_goto rfl ?_
          exact ih15 _ _ _ _ c18 ⟨_, rfl, rfl⟩ ⟨rfl, rfl, rfl, rfl, nS _, trivial⟩
theorem r_X12_most {S : aS} {I : Nat → Nat → Int32} {L : Nat → Nat → Int64} {w1 w2 t : Nat} {nd np : Nat} (hs : SO nd np (I 421)) (hw : LwW (I 421)) (lg : LgW (I 421)) : Sp S m_X12_most 19 0 0 [.ref 420] (hp I L w1 w2 t) (QR (Fm sU I) isI L w1 w2 t) nX := by
  refine Sp_of ok_X12_most rfl rfl ?_
  show AW S m_X12_most 19 _ _ 0 0 0 [some (.ref 420), none, none, none] [] (hp I L w1 w2 t)
  refine a_l0 rfl rfl rfl ?_
  refine a_s rfl rfl ?_
  refine a_puti rfl pfX12_3_12 rfl ?_
  refine a_ren (P := Fm sU I) (Fm.up (Fm.rf (s := sU)) rfl) (fun I1 f2 => ?_)
  have s2 := SO.fm hs (Fm.mo f2 sU_sV); have l2 := LwW.fm hw (Fm.mo f2 sU_sV); have g2 := LgW.fm lg (Fm.mo f2 sU_sV)
  refine a_l0 rfl rfl rfl ?_
  refine a_eV1 rfl lX12_286 mo_X12_canOnes (sp_X12_canOnes s2.n s2.du s2.l) rfl rfl rfl ⟨12, _, rfl, rfl, rfl⟩ rfl ?_
  refine a_topE (bs_nI12 s2.n) (fun mc3 hmc3 => ?_)
  refine a_s1 rfl rfl rfl rfl rfl rfl ?_
  refine a_s rfl rfl ?_
  refine a_s2 rfl rfl rfl rfl rfl rfl ?_
  refine a_s rfl rfl ?_
  refine a_s3 rfl rfl rfl rfl rfl rfl ?_
  refine a_cnt (j0 := 1) (fun j ls h => ∃ a0, ∃ I', ls = [some (.ref 420), some (.int (nI mc3)), some (.int a0), some (.int (nI j))] ∧ h = hp I' L w1 w2 t ∧ Fm sU I I') (by decide) ⟨_, _, rfl, rfl, f2⟩ ⟨rfl, rfl, rfl, rfl, trivial⟩ ?_
  rintro j14 _ _ hj14 ⟨a0_14, Ih14, rfl, rfl, fh14⟩ ih14
  have sh14 := SO.fm hs (Fm.mo fh14 sU_sV); have lh14 := LwW.fm hw (Fm.mo fh14 sU_sV); have gh14 := LgW.fm lg (Fm.mo fh14 sU_sV)
  refine a_l3 rfl rfl rfl ?_
  refine a_l1 rfl rfl rfl ?_
  refine a_ic_gt rfl (fun c16 => ?_) (fun c16 => ?_)
  · refine a_l2 rfl rfl rfl ?_
    exact a_iret rfl rfl ⟨⟨_, rfl⟩, _, rfl, fh14⟩
  · refine a_l3 rfl rfl rfl ?_
    refine a_l1 rfl rfl rfl ?_
    refine a_s rfl rfl ?_
    refine a_s rfl rfl ?_
    refine a_s rfl rfl ?_
    refine a_if_ne rfl (fun c24 => ?_) (fun c24 => ?_)
    · refine a_i3 rfl rfl rfl ?_
      refine a_goto rfl ?_
      exact ih14 _ _ _ _ (nI_gt1 (a := mc3) (by omega) hj14 c16) ⟨_, _, rfl, rfl, fh14⟩ ⟨rfl, rfl, rfl, nS _, trivial⟩
    · refine a_l3 rfl rfl rfl ?_
      refine a_eS1 rfl lX12_310 mo_J6_bitCount_0f7a4 (sp_bitCount) rfl rfl rfl rfl ?_
      refine a_l2 rfl rfl rfl ?_
      refine a_eS1 rfl lX12_310 mo_J6_bitCount_0f7a4 (sp_bitCount) rfl rfl rfl rfl ?_
      refine a_ic_le rfl (fun c35 => ?_) (fun c35 => ?_)
      · refine a_i3 rfl rfl rfl ?_
        refine a_goto rfl ?_
        exact ih14 _ _ _ _ (nI_gt1 (a := mc3) (by omega) hj14 c16) ⟨_, _, rfl, rfl, fh14⟩ ⟨rfl, rfl, rfl, nS _, trivial⟩
      · refine a_l0 rfl rfl rfl ?_
        refine a_l3 rfl rfl rfl ?_
        refine a_gV rfl lX12_315 mo_X12_canAll (r_X12_canAll sh14 lh14 gh14) rfl rfl rfl ⟨12, _, rfl, rfl, rfl⟩ rfl (fun v' h' hv => ?_)
        obtain ⟨⟨v4, rfl⟩, rfl⟩ := hv
        refine a_if_eq rfl (fun c43 => ?_) (fun c43 => ?_)
        · refine a_i3 rfl rfl rfl ?_
          refine a_goto rfl ?_
          exact ih14 _ _ _ _ (nI_gt1 (a := mc3) (by omega) hj14 c16) ⟨_, _, rfl, rfl, fh14⟩ ⟨rfl, rfl, rfl, nS _, trivial⟩
        · refine a_l3 rfl rfl rfl ?_
          refine a_s2 rfl rfl rfl rfl rfl rfl ?_
          refine a_i3 rfl rfl rfl ?_
          refine a_goto rfl ?_
          exact ih14 _ _ _ _ (nI_gt1 (a := mc3) (by omega) hj14 c16) ⟨_, _, rfl, rfl, fh14⟩ ⟨rfl, rfl, rfl, nS _, trivial⟩
theorem r_X12_shareOf {S : aS} {I : Nat → Nat → Int32} {L : Nat → Nat → Int64} {w1 w2 t : Nat} {nd np : Nat} (hs : SO nd np (I 421)) (hw : LwW (I 421)) (lg : LgW (I 421)) {i1 : Nat} (hi1 : i1 < np) : Sp S m_X12_shareOf 21 0 0 [.ref 420, .int (nI i1)] (hp I L w1 w2 t) (QR (Fm sU I) isI L w1 w2 t) nX := by
  refine Sp_of ok_X12_shareOf rfl rfl ?_
  show AW S m_X12_shareOf 21 _ _ 0 0 0 [some (.ref 420), some (.int (nI i1)), none] [] (hp I L w1 w2 t)
  refine a_l0 rfl rfl rfl ?_
  refine a_l0 rfl rfl rfl ?_
  refine a_s rfl rfl ?_
  refine a_eV1 rfl lX12_324 mo_X12_ofState (sp_X12_ofState hs.n hs.du) rfl rfl rfl ⟨12, _, rfl, rfl, rfl⟩ rfl ?_
  refine a_topE (bs_nI12 hs.n) (fun mc1 hmc1 => ?_)
  refine a_gV rfl lX12_339 mo_X12_shameOf (r_X12_shameOf hs hw lg) rfl rfl rfl ⟨12, _, rfl, rfl, rfl⟩ rfl (fun v' h' hv => ?_)
  obtain ⟨⟨v2, rfl⟩, I3, rfl, f4⟩ := hv
  have s4 := SO.fm hs (Fm.mo f4 sU_sV); have l4 := LwW.fm hw (Fm.mo f4 sU_sV); have g4 := LgW.fm lg (Fm.mo f4 sU_sV)
  refine a_s2 rfl rfl rfl rfl rfl rfl ?_
  refine a_l2 rfl rfl rfl ?_
  refine a_if_ne rfl (fun c11 => ?_) (fun c11 => ?_)
  · refine a_s rfl rfl ?_
    refine a_l0 rfl rfl rfl ?_
    refine a_l0 rfl rfl rfl ?_
    refine a_l1 rfl rfl rfl ?_
    refine a_eV1 rfl lX12_327 mo_X12_waitingOf (sp_X12_waitingOf s4.n s4.du) rfl rfl rfl ⟨12, _, rfl, rfl, rfl⟩ rfl ?_
    refine a_gV rfl lX12_339 mo_X12_shameOf (r_X12_shameOf s4 l4 g4) rfl rfl rfl ⟨12, _, rfl, rfl, rfl⟩ rfl (fun v' h' hv => ?_)
    obtain ⟨⟨v5, rfl⟩, I6, rfl, f7⟩ := hv
    replace f7 : Fm sU I I6 := Fm.tr (f4) (f7)
    have s7 := SO.fm hs (Fm.mo f7 sU_sV); have l7 := LwW.fm hw (Fm.mo f7 sU_sV); have g7 := LgW.fm lg (Fm.mo f7 sU_sV)
    refine a_s rfl rfl ?_
    refine a_l2 rfl rfl rfl ?_
    refine a_idiv rfl (c11) ?_
    exact a_iret rfl rfl ⟨⟨_, rfl⟩, _, rfl, f7⟩
  · refine a_s rfl rfl ?_
    refine a_goto rfl ?_
    exact a_iret rfl rfl ⟨⟨_, rfl⟩, _, rfl, f4⟩
theorem r_X12_hasTool {S : aS} {I : Nat → Nat → Int32} {L : Nat → Nat → Int64} {w1 w2 t : Nat} {nd np : Nat} (hs : SO nd np (I 421)) (hw : LwW (I 421)) (lg : LgW (I 421)) {i1 : Nat} (hi1 : i1 < nd) {i2 : Nat} (hi2 : i2 < np) : Sp S m_X12_hasTool 14 0 0 [.ref 420, .int (nI i1), .int (nI i2)] (hp I L w1 w2 t) (QE isZ (hp I L w1 w2 t)) nX := by
  refine Sp_of ok_X12_hasTool rfl rfl ?_
  show AW S m_X12_hasTool 14 _ _ 0 0 0 [some (.ref 420), some (.int (nI i1)), some (.int (nI i2)), none] [] (hp I L w1 w2 t)
  refine a_l0 rfl rfl rfl ?_
  refine a_l1 rfl rfl rfl ?_
  refine a_s rfl rfl ?_
  refine a_eV1 rfl lX12_63 mo_X12_of (sp_X12_of (d := i1) (k := 3) (Nat.lt_of_lt_of_le hi1 hs.n) (by decide)) rfl rfl rfl ⟨12, _, rfl, rfl, rfl⟩ rfl ?_
  refine a_s3 rfl rfl rfl rfl rfl rfl ?_
  refine a_l3 rfl rfl rfl ?_
  refine a_s rfl rfl ?_
  refine a_ic_eq rfl (fun c9 => ?_) (fun c9 => ?_)
  · refine a_s rfl rfl ?_
    refine a_goto rfl ?_
    exact a_zret rfl rfl rfl ⟨⟨true, rfl⟩, rfl⟩
  · refine a_l0 rfl rfl rfl ?_
    refine a_getq rfl gfX12_42_12 rfl (rfl) ?_
    refine a_l3 rfl rfl rfl ?_
    refine a_iald rfl (n := 6) rfl (inTool (hs.t _ hi1) c9) ?_
    refine a_s rfl rfl ?_
    refine a_ic_eq rfl (fun c19 => ?_) (fun c19 => ?_)
    · refine a_s rfl rfl ?_
      refine a_goto rfl ?_
      exact a_zret rfl rfl rfl ⟨⟨true, rfl⟩, rfl⟩
    · refine a_l0 rfl rfl rfl ?_
      refine a_getq rfl gfX12_42_12 rfl (rfl) ?_
      refine a_l3 rfl rfl rfl ?_
      refine a_iald rfl (n := 6) rfl (inTool (hs.t _ hi1) c9) ?_
      refine a_l2 rfl rfl rfl ?_
      refine a_ic_ne rfl (fun c29 => ?_) (fun c29 => ?_)
      · refine a_s rfl rfl ?_
        exact a_zret rfl rfl rfl ⟨⟨false, rfl⟩, rfl⟩
      · refine a_s rfl rfl ?_
        refine a_goto rfl ?_
        exact a_zret rfl rfl rfl ⟨⟨true, rfl⟩, rfl⟩
theorem r_X12_leanWithin {S : aS} {I : Nat → Nat → Int32} {L : Nat → Nat → Int64} {w1 w2 t : Nat} {x1 : Int32} {nd np : Nat} (hs : SO nd np (I 421)) (hw : LwW (I 421)) (lg : LgW (I 421)) : Sp S m_X12_leanWithin 16 0 0 [.ref 420, .int x1] (hp I L w1 w2 t) (QE isZ (hp I L w1 w2 t)) nX := by
  refine Sp_of ok_X12_leanWithin rfl rfl ?_
  show AW S m_X12_leanWithin 16 _ _ 0 0 0 [some (.ref 420), some (.int x1), none, none] [] (hp I L w1 w2 t)
  refine a_s rfl rfl ?_
  refine a_s2 rfl rfl rfl rfl rfl rfl ?_
  refine a_s rfl rfl ?_
  refine a_s3 rfl rfl rfl rfl rfl rfl ?_
  refine a_cnt (j0 := 0) (fun j ls h => ∃ z0, ls = [some (.ref 420), some (.int x1), some (.int (bI z0)), some (.int (nI j))] ∧ h = hp I L w1 w2 t) (by decide) ⟨true, rfl, rfl⟩ ⟨rfl, rfl, rfl, rfl, trivial⟩ ?_
  rintro j4 _ _ hj4 ⟨z0_4, rfl, rfl⟩ ih4
  refine a_l3 rfl rfl rfl ?_
  refine a_l0 rfl rfl rfl ?_
  refine a_eV1 rfl lX12_74 mo_X12_duties (sp_X12_duties) rfl rfl rfl ⟨12, _, rfl, rfl, rfl⟩ rfl ?_
  refine a_top (y := nI nd) hs.du ?_
  refine a_ic_ge rfl (fun c9 => ?_) (fun c9 => ?_)
  · refine a_l2 rfl rfl rfl ?_
    exact a_zret rfl rfl (bI_nar _) ⟨⟨_, rfl⟩, rfl⟩
  · have hd4 : j4 < nd := nI_lt_of c9 hj4 (by have := hs.n; omega)
    refine a_l2 rfl rfl rfl ?_
    refine a_if_eq rfl (fun c13 => ?_) (fun c13 => ?_)
    · refine a_s rfl rfl ?_
      refine a_s2 rfl rfl rfl rfl rfl rfl ?_
      refine a_i3 rfl rfl rfl ?_
      refine a_goto rfl ?_
      exact ih4 _ _ _ _ c9 ⟨false, rfl, rfl⟩ ⟨rfl, rfl, rfl, nS _, trivial⟩
    · refine a_l1 rfl rfl rfl ?_
      refine a_l3 rfl rfl rfl ?_
      refine a_gS rfl lX12_304 mo_X12_has (r_X12_has) rfl rfl rfl rfl (fun v' h' hv => ?_)
      obtain ⟨⟨v1, rfl⟩, rfl⟩ := hv
      refine a_if_eq rfl (fun c21 => ?_) (fun c21 => ?_)
      · refine a_s rfl rfl ?_
        refine a_goto rfl ?_
        refine a_s2 rfl rfl rfl rfl rfl rfl ?_
        refine a_i3 rfl rfl rfl ?_
        refine a_goto rfl ?_
        exact ih4 _ _ _ _ c9 ⟨true, rfl, rfl⟩ ⟨rfl, rfl, rfl, nS _, trivial⟩
      · refine a_l0 rfl rfl rfl ?_
        refine a_l3 rfl rfl rfl ?_
        refine a_eV1 rfl lX12_249 mo_X12_leansWell (sp_X12_leansWell hs.n hd4 hs.l) rfl rfl rfl ⟨12, _, rfl, rfl, rfl⟩ rfl ?_
        refine a_if_ne rfl (fun c29 => ?_) (fun c29 => ?_)
        · refine a_s rfl rfl ?_
          refine a_goto rfl ?_
          refine a_s2 rfl rfl rfl rfl rfl rfl ?_
          refine a_i3 rfl rfl rfl ?_
          refine a_goto rfl ?_
          exact ih4 _ _ _ _ c9 ⟨true, rfl, rfl⟩ ⟨rfl, rfl, rfl, nS _, trivial⟩
        · refine a_l1 rfl rfl rfl ?_
          refine a_l0 rfl rfl rfl ?_
          refine a_l3 rfl rfl rfl ?_
          refine a_s rfl rfl ?_
          refine a_eV1 rfl lX12_63 mo_X12_of (sp_X12_of (d := j4) (k := 4) (Nat.lt_of_lt_of_le hd4 hs.n) (by decide)) rfl rfl rfl ⟨12, _, rfl, rfl, rfl⟩ rfl ?_
          refine a_gS rfl lX12_304 mo_X12_has (r_X12_has) rfl rfl rfl rfl (fun v' h' hv => ?_)
          obtain ⟨⟨v2, rfl⟩, rfl⟩ := hv
          refine a_if_eq rfl (fun c42 => ?_) (fun c42 => ?_)
          · refine a_s rfl rfl ?_
            refine a_s2 rfl rfl rfl rfl rfl rfl ?_
            refine a_i3 rfl rfl rfl ?_
            refine a_goto rfl ?_
            exact ih4 _ _ _ _ c9 ⟨false, rfl, rfl⟩ ⟨rfl, rfl, rfl, nS _, trivial⟩
          · refine a_s rfl rfl ?_
            refine a_goto rfl ?_
            refine a_s2 rfl rfl rfl rfl rfl rfl ?_
            refine a_i3 rfl rfl rfl ?_
            refine a_goto rfl ?_
            exact ih4 _ _ _ _ c9 ⟨true, rfl, rfl⟩ ⟨rfl, rfl, rfl, nS _, trivial⟩
theorem r_X12_toDo {S : aS} {I : Nat → Nat → Int32} {L : Nat → Nat → Int64} {w1 w2 t : Nat} {x1 : Int32} {nd np : Nat} (hs : SO nd np (I 421)) (hw : LwW (I 421)) (lg : LgW (I 421)) : Sp S m_X12_toDo 21 0 0 [.ref 420, .int x1] (hp I L w1 w2 t) (QR (Fm sU I) isI L w1 w2 t) nX := by
  refine Sp_of ok_X12_toDo rfl rfl ?_
  show AW S m_X12_toDo 21 _ _ 0 0 0 [some (.ref 420), some (.int x1), none, none, none, none, none] [] (hp I L w1 w2 t)
  refine a_l0 rfl rfl rfl ?_
  refine a_s rfl rfl ?_
  refine a_eV1 rfl lX12_324 mo_X12_ofState (sp_X12_ofState hs.n hs.du) rfl rfl rfl ⟨12, _, rfl, rfl, rfl⟩ rfl ?_
  refine a_topE (bs_nI12 hs.n) (fun mc1 hmc1 => ?_)
  refine a_s2 rfl rfl rfl rfl rfl rfl ?_
  refine a_s rfl rfl ?_
  refine a_s3 rfl rfl rfl rfl rfl rfl ?_
  refine a_l0 rfl rfl rfl ?_
  refine a_l2 rfl rfl rfl ?_
  refine a_gV rfl lX12_339 mo_X12_shameOf (r_X12_shameOf hs hw lg) rfl rfl rfl ⟨12, _, rfl, rfl, rfl⟩ rfl (fun v' h' hv => ?_)
  obtain ⟨⟨v2, rfl⟩, I3, rfl, f4⟩ := hv
  have s4 := SO.fm hs (Fm.mo f4 sU_sV); have l4 := LwW.fm hw (Fm.mo f4 sU_sV); have g4 := LgW.fm lg (Fm.mo f4 sU_sV)
  refine a_s4 rfl rfl rfl rfl rfl rfl ?_
  refine a_s rfl rfl ?_
  refine a_s5 rfl rfl rfl rfl rfl rfl ?_
  refine a_cnt (j0 := 1) (fun j ls h => ∃ a0, ∃ a1, ∃ I', ls = [some (.ref 420), some (.int x1), some (.int (nI mc1)), some (.int a0), some (.int a1), some (.int (nI j)), none] ∧ h = hp I' L w1 w2 t ∧ Fm sU I I') (by decide) ⟨_, _, _, rfl, rfl, f4⟩ ⟨rfl, rfl, rfl, rfl, rfl, rfl, trivial⟩ ?_
  rintro j18 _ _ hj18 ⟨a0_18, a1_18, Ih18, rfl, rfl, fh18⟩ ih18
  have sh18 := SO.fm hs (Fm.mo fh18 sU_sV); have lh18 := LwW.fm hw (Fm.mo fh18 sU_sV); have gh18 := LgW.fm lg (Fm.mo fh18 sU_sV)
  refine a_l5 rfl rfl rfl ?_
  refine a_l2 rfl rfl rfl ?_
  refine a_ic_gt rfl (fun c21 => ?_) (fun c21 => ?_)
  · refine a_l3 rfl rfl rfl ?_
    exact a_iret rfl rfl ⟨⟨_, rfl⟩, _, rfl, fh18⟩
  · refine a_l5 rfl rfl rfl ?_
    refine a_l2 rfl rfl rfl ?_
    refine a_s rfl rfl ?_
    refine a_s rfl rfl ?_
    refine a_s rfl rfl ?_
    refine a_if_ne rfl (fun c30 => ?_) (fun c30 => ?_)
    · refine a_i5 rfl rfl rfl ?_
      refine a_goto rfl ?_
      exact ih18 _ _ _ _ (nI_gt1 (a := mc1) (by omega) hj18 c21) ⟨_, _, _, rfl, rfl, fh18⟩ ⟨rfl, rfl, rfl, rfl, rfl, nS _, trivial⟩
    · refine a_l0 rfl rfl rfl ?_
      refine a_l5 rfl rfl rfl ?_
      refine a_eV1 rfl lX12_330 mo_X12_hoursOf (sp_X12_hoursOf sh18.n sh18.du) rfl rfl rfl ⟨12, _, rfl, rfl, rfl⟩ rfl ?_
      refine a_l1 rfl rfl rfl ?_
      refine a_ic_gt rfl (fun c40 => ?_) (fun c40 => ?_)
      · refine a_i5 rfl rfl rfl ?_
        refine a_goto rfl ?_
        exact ih18 _ _ _ _ (nI_gt1 (a := mc1) (by omega) hj18 c21) ⟨_, _, _, rfl, rfl, fh18⟩ ⟨rfl, rfl, rfl, rfl, rfl, nS _, trivial⟩
      · refine a_l0 rfl rfl rfl ?_
        refine a_l5 rfl rfl rfl ?_
        refine a_gV rfl lX12_432 mo_X12_leanWithin (r_X12_leanWithin sh18 lh18 gh18) rfl rfl rfl ⟨12, _, rfl, rfl, rfl⟩ rfl (fun v' h' hv => ?_)
        obtain ⟨⟨v5, rfl⟩, rfl⟩ := hv
        refine a_if_ne rfl (fun c49 => ?_) (fun c49 => ?_)
        · refine a_l0 rfl rfl rfl ?_
          refine a_l2 rfl rfl rfl ?_
          refine a_l5 rfl rfl rfl ?_
          refine a_s rfl rfl ?_
          refine a_s rfl rfl ?_
          refine a_s rfl rfl ?_
          refine a_gV rfl lX12_339 mo_X12_shameOf (r_X12_shameOf sh18 lh18 gh18) rfl rfl rfl ⟨12, _, rfl, rfl, rfl⟩ rfl (fun v' h' hv => ?_)
          obtain ⟨⟨v6, rfl⟩, I7, rfl, f8⟩ := hv
          replace f8 : Fm sU I I7 := Fm.tr (fh18) (f8)
          have s8 := SO.fm hs (Fm.mo f8 sU_sV); have l8 := LwW.fm hw (Fm.mo f8 sU_sV); have g8 := LgW.fm lg (Fm.mo f8 sU_sV)
          refine a_s6 rfl rfl rfl rfl rfl rfl ?_
          refine a_l6 rfl rfl rfl ?_
          refine a_l4 rfl rfl rfl ?_
          refine a_ic_ge rfl (fun c71 => ?_) (fun c71 => ?_)
          · refine a_l3 rfl rfl rfl ?_
            refine a_s3 rfl rfl rfl rfl rfl rfl ?_
            refine a_l4 rfl rfl rfl ?_
            refine a_l6 rfl rfl rfl ?_
            refine a_min rfl lX12_295 mj_min rfl rfl ?_
            refine a_s4 rfl rfl rfl rfl rfl rfl ?_
            refine a_i5 rfl rfl rfl ?_
            refine a_goto rfl ?_
            exact ih18 _ _ _ _ (nI_gt1 (a := mc1) (by omega) hj18 c21) ⟨_, _, _, rfl, rfl, f8⟩ ⟨rfl, rfl, rfl, rfl, rfl, nS _, trivial⟩
          · refine a_l5 rfl rfl rfl ?_
            refine a_goto rfl ?_
            refine a_s3 rfl rfl rfl rfl rfl rfl ?_
            refine a_l4 rfl rfl rfl ?_
            refine a_l6 rfl rfl rfl ?_
            refine a_min rfl lX12_295 mj_min rfl rfl ?_
            refine a_s4 rfl rfl rfl rfl rfl rfl ?_
            refine a_i5 rfl rfl rfl ?_
            refine a_goto rfl ?_
            exact ih18 _ _ _ _ (nI_gt1 (a := mc1) (by omega) hj18 c21) ⟨_, _, _, rfl, rfl, f8⟩ ⟨rfl, rfl, rfl, rfl, rfl, nS _, trivial⟩
        · refine a_goto rfl ?_
          refine a_i5 rfl rfl rfl ?_
          refine a_goto rfl ?_
          exact ih18 _ _ _ _ (nI_gt1 (a := mc1) (by omega) hj18 c21) ⟨_, _, _, rfl, rfl, fh18⟩ ⟨rfl, rfl, rfl, rfl, rfl, nS _, trivial⟩
theorem r_X12_isGap {S : aS} {I : Nat → Nat → Int32} {L : Nat → Nat → Int64} {w1 w2 t : Nat} {x1 : Int32} {nd np : Nat} (hs : SO nd np (I 421)) (hw : LwW (I 421)) (lg : LgW (I 421)) : Sp S m_X12_isGap 16 0 0 [.ref 420, .int x1] (hp I L w1 w2 t) (QE isZ (hp I L w1 w2 t)) nX := by
  refine Sp_of ok_X12_isGap rfl rfl ?_
  show AW S m_X12_isGap 16 _ _ 0 0 0 [some (.ref 420), some (.int x1), none, none] [] (hp I L w1 w2 t)
  refine a_l1 rfl rfl rfl ?_
  refine a_s rfl rfl ?_
  refine a_ic_ge rfl (fun c3 => ?_) (fun c3 => ?_)
  · refine a_s rfl rfl ?_
    refine a_s2 rfl rfl rfl rfl rfl rfl ?_
    refine a_s rfl rfl ?_
    refine a_s3 rfl rfl rfl rfl rfl rfl ?_
    refine a_cnt (j0 := 0) (fun j ls h => ∃ z0, ls = [some (.ref 420), some (.int x1), some (.int (bI z0)), some (.int (nI j))] ∧ h = hp I L w1 w2 t) (by decide) ⟨false, rfl, rfl⟩ ⟨rfl, rfl, rfl, rfl, trivial⟩ ?_
    rintro j14 _ _ hj14 ⟨z0_14, rfl, rfl⟩ ih14
    refine a_l3 rfl rfl rfl ?_
    refine a_l0 rfl rfl rfl ?_
    refine a_eV1 rfl lX12_74 mo_X12_duties (sp_X12_duties) rfl rfl rfl ⟨12, _, rfl, rfl, rfl⟩ rfl ?_
    refine a_top (y := nI nd) hs.du ?_
    refine a_ic_ge rfl (fun c19 => ?_) (fun c19 => ?_)
    · refine a_l2 rfl rfl rfl ?_
      refine a_if_eq rfl (fun c57 => ?_) (fun c57 => ?_)
      · refine a_s rfl rfl ?_
        exact a_zret rfl rfl rfl ⟨⟨false, rfl⟩, rfl⟩
      · refine a_l0 rfl rfl rfl ?_
        refine a_l1 rfl rfl rfl ?_
        refine a_eV1 rfl lX12_429 mo_X12_olderOnes (sp_X12_olderOnes hs.n hs.du) rfl rfl rfl ⟨12, _, rfl, rfl, rfl⟩ rfl ?_
        refine a_if_eq rfl (fun c65 => ?_) (fun c65 => ?_)
        · refine a_s rfl rfl ?_
          exact a_zret rfl rfl rfl ⟨⟨false, rfl⟩, rfl⟩
        · refine a_s rfl rfl ?_
          refine a_goto rfl ?_
          exact a_zret rfl rfl rfl ⟨⟨true, rfl⟩, rfl⟩
    · have hd14 : j14 < nd := nI_lt_of c19 hj14 (by have := hs.n; omega)
      refine a_l2 rfl rfl rfl ?_
      refine a_if_eq rfl (fun c23 => ?_) (fun c23 => ?_)
      · refine a_s rfl rfl ?_
        refine a_s2 rfl rfl rfl rfl rfl rfl ?_
        refine a_i3 rfl rfl rfl ?_
        refine a_goto rfl ?_
        exact ih14 _ _ _ _ c19 ⟨false, rfl, rfl⟩ ⟨rfl, rfl, rfl, nS _, trivial⟩
      · refine a_l0 rfl rfl rfl ?_
        refine a_l3 rfl rfl rfl ?_
        refine a_eV1 rfl lX12_135 mo_X12_isWaiting (sp_X12_isWaiting (d := j14) (Nat.lt_of_lt_of_le hd14 hs.n)) rfl rfl rfl ⟨12, _, rfl, rfl, rfl⟩ rfl ?_
        refine a_if_eq rfl (fun c31 => ?_) (fun c31 => ?_)
        · refine a_s rfl rfl ?_
          refine a_goto rfl ?_
          refine a_s2 rfl rfl rfl rfl rfl rfl ?_
          refine a_i3 rfl rfl rfl ?_
          refine a_goto rfl ?_
          exact ih14 _ _ _ _ c19 ⟨true, rfl, rfl⟩ ⟨rfl, rfl, rfl, nS _, trivial⟩
        · refine a_l0 rfl rfl rfl ?_
          refine a_l3 rfl rfl rfl ?_
          refine a_s rfl rfl ?_
          refine a_eV1 rfl lX12_63 mo_X12_of (sp_X12_of (d := j14) (k := 2) (Nat.lt_of_lt_of_le hd14 hs.n) (by decide)) rfl rfl rfl ⟨12, _, rfl, rfl, rfl⟩ rfl ?_
          refine a_l1 rfl rfl rfl ?_
          refine a_ic_eq rfl (fun c41 => ?_) (fun c41 => ?_)
          · refine a_s rfl rfl ?_
            refine a_s2 rfl rfl rfl rfl rfl rfl ?_
            refine a_i3 rfl rfl rfl ?_
            refine a_goto rfl ?_
            exact ih14 _ _ _ _ c19 ⟨false, rfl, rfl⟩ ⟨rfl, rfl, rfl, nS _, trivial⟩
          · refine a_s rfl rfl ?_
            refine a_goto rfl ?_
            refine a_s2 rfl rfl rfl rfl rfl rfl ?_
            refine a_i3 rfl rfl rfl ?_
            refine a_goto rfl ?_
            exact ih14 _ _ _ _ c19 ⟨true, rfl, rfl⟩ ⟨rfl, rfl, rfl, nS _, trivial⟩
  · refine a_s rfl rfl ?_
    refine a_goto rfl ?_
    refine a_s2 rfl rfl rfl rfl rfl rfl ?_
    refine a_s rfl rfl ?_
    refine a_s3 rfl rfl rfl rfl rfl rfl ?_
    refine a_cnt (j0 := 0) (fun j ls h => ∃ z0, ls = [some (.ref 420), some (.int x1), some (.int (bI z0)), some (.int (nI j))] ∧ h = hp I L w1 w2 t) (by decide) ⟨true, rfl, rfl⟩ ⟨rfl, rfl, rfl, rfl, trivial⟩ ?_
    rintro j14 _ _ hj14 ⟨z0_14, rfl, rfl⟩ ih14
    refine a_l3 rfl rfl rfl ?_
    refine a_l0 rfl rfl rfl ?_
    refine a_eV1 rfl lX12_74 mo_X12_duties (sp_X12_duties) rfl rfl rfl ⟨12, _, rfl, rfl, rfl⟩ rfl ?_
    refine a_top (y := nI nd) hs.du ?_
    refine a_ic_ge rfl (fun c19 => ?_) (fun c19 => ?_)
    · refine a_l2 rfl rfl rfl ?_
      refine a_if_eq rfl (fun c57 => ?_) (fun c57 => ?_)
      · refine a_s rfl rfl ?_
        exact a_zret rfl rfl rfl ⟨⟨false, rfl⟩, rfl⟩
      · refine a_l0 rfl rfl rfl ?_
        refine a_l1 rfl rfl rfl ?_
        refine a_eV1 rfl lX12_429 mo_X12_olderOnes (sp_X12_olderOnes hs.n hs.du) rfl rfl rfl ⟨12, _, rfl, rfl, rfl⟩ rfl ?_
        refine a_if_eq rfl (fun c65 => ?_) (fun c65 => ?_)
        · refine a_s rfl rfl ?_
          exact a_zret rfl rfl rfl ⟨⟨false, rfl⟩, rfl⟩
        · refine a_s rfl rfl ?_
          refine a_goto rfl ?_
          exact a_zret rfl rfl rfl ⟨⟨true, rfl⟩, rfl⟩
    · have hd14 : j14 < nd := nI_lt_of c19 hj14 (by have := hs.n; omega)
      refine a_l2 rfl rfl rfl ?_
      refine a_if_eq rfl (fun c23 => ?_) (fun c23 => ?_)
      · refine a_s rfl rfl ?_
        refine a_s2 rfl rfl rfl rfl rfl rfl ?_
        refine a_i3 rfl rfl rfl ?_
        refine a_goto rfl ?_
        exact ih14 _ _ _ _ c19 ⟨false, rfl, rfl⟩ ⟨rfl, rfl, rfl, nS _, trivial⟩
      · refine a_l0 rfl rfl rfl ?_
        refine a_l3 rfl rfl rfl ?_
        refine a_eV1 rfl lX12_135 mo_X12_isWaiting (sp_X12_isWaiting (d := j14) (Nat.lt_of_lt_of_le hd14 hs.n)) rfl rfl rfl ⟨12, _, rfl, rfl, rfl⟩ rfl ?_
        refine a_if_eq rfl (fun c31 => ?_) (fun c31 => ?_)
        · refine a_s rfl rfl ?_
          refine a_goto rfl ?_
          refine a_s2 rfl rfl rfl rfl rfl rfl ?_
          refine a_i3 rfl rfl rfl ?_
          refine a_goto rfl ?_
          exact ih14 _ _ _ _ c19 ⟨true, rfl, rfl⟩ ⟨rfl, rfl, rfl, nS _, trivial⟩
        · refine a_l0 rfl rfl rfl ?_
          refine a_l3 rfl rfl rfl ?_
          refine a_s rfl rfl ?_
          refine a_eV1 rfl lX12_63 mo_X12_of (sp_X12_of (d := j14) (k := 2) (Nat.lt_of_lt_of_le hd14 hs.n) (by decide)) rfl rfl rfl ⟨12, _, rfl, rfl, rfl⟩ rfl ?_
          refine a_l1 rfl rfl rfl ?_
          refine a_ic_eq rfl (fun c41 => ?_) (fun c41 => ?_)
          · refine a_s rfl rfl ?_
            refine a_s2 rfl rfl rfl rfl rfl rfl ?_
            refine a_i3 rfl rfl rfl ?_
            refine a_goto rfl ?_
            exact ih14 _ _ _ _ c19 ⟨false, rfl, rfl⟩ ⟨rfl, rfl, rfl, nS _, trivial⟩
          · refine a_s rfl rfl ?_
            refine a_goto rfl ?_
            refine a_s2 rfl rfl rfl rfl rfl rfl ?_
            refine a_i3 rfl rfl rfl ?_
            refine a_goto rfl ?_
            exact ih14 _ _ _ _ c19 ⟨true, rfl, rfl⟩ ⟨rfl, rfl, rfl, nS _, trivial⟩
theorem r_X12_serves {S : aS} {I : Nat → Nat → Int32} {L : Nat → Nat → Int64} {w1 w2 t : Nat} {nd np : Nat} (hs : SO nd np (I 421)) (hw : LwW (I 421)) (lg : LgW (I 421)) {i1 : Nat} (hi1 : i1 < np) {i2 : Nat} (hi2 : i2 < np) {i3 : Nat} (hi3 : i3 < nd) {i4 : Nat} (hi4 : i4 < nd) : Sp S m_X12_serves 18 0 0 [.ref 420, .int (nI i1), .int (nI i2), .int (nI i3), .int (nI i4)] (hp I L w1 w2 t) (QE isZ (hp I L w1 w2 t)) nX := by
  refine Sp_of ok_X12_serves rfl rfl ?_
  show AW S m_X12_serves 18 _ _ 0 0 0 [some (.ref 420), some (.int (nI i1)), some (.int (nI i2)), some (.int (nI i3)), some (.int (nI i4)), none, none] [] (hp I L w1 w2 t)
  refine a_l0 rfl rfl rfl ?_
  refine a_l1 rfl rfl rfl ?_
  refine a_eV1 rfl lX12_333 mo_X12_loadOf (sp_X12_loadOf hs.n hs.du) rfl rfl rfl ⟨12, _, rfl, rfl, rfl⟩ rfl ?_
  refine a_l0 rfl rfl rfl ?_
  refine a_l3 rfl rfl rfl ?_
  refine a_s rfl rfl ?_
  refine a_eV1 rfl lX12_63 mo_X12_of (sp_X12_of (d := i3) (k := 1) (Nat.lt_of_lt_of_le hi3 hs.n) (by decide)) rfl rfl rfl ⟨12, _, rfl, rfl, rfl⟩ rfl ?_
  refine a_s rfl rfl ?_
  refine a_l0 rfl rfl rfl ?_
  refine a_l4 rfl rfl rfl ?_
  refine a_s rfl rfl ?_
  refine a_eV1 rfl lX12_63 mo_X12_of (sp_X12_of (d := i4) (k := 1) (Nat.lt_of_lt_of_le hi4 hs.n) (by decide)) rfl rfl rfl ⟨12, _, rfl, rfl, rfl⟩ rfl ?_
  refine a_s rfl rfl ?_
  refine a_l0 rfl rfl rfl ?_
  refine a_l1 rfl rfl rfl ?_
  refine a_s rfl rfl ?_
  refine a_eV1 rfl lX12_252 mo_X12_ofPerson (sp_X12_ofPerson (d := i1) (k := 1) (Nat.lt_of_lt_of_le hi1 hs.p) (by decide)) rfl rfl rfl ⟨12, _, rfl, rfl, rfl⟩ rfl ?_
  refine a_eS1 rfl lX12_336 mo_X12_daysFor (sp_X12_daysFor) rfl rfl rfl rfl ?_
  refine a_s5 rfl rfl rfl rfl rfl rfl ?_
  refine a_l0 rfl rfl rfl ?_
  refine a_l2 rfl rfl rfl ?_
  refine a_eV1 rfl lX12_333 mo_X12_loadOf (sp_X12_loadOf hs.n hs.du) rfl rfl rfl ⟨12, _, rfl, rfl, rfl⟩ rfl ?_
  refine a_l0 rfl rfl rfl ?_
  refine a_l4 rfl rfl rfl ?_
  refine a_s rfl rfl ?_
  refine a_eV1 rfl lX12_63 mo_X12_of (sp_X12_of (d := i4) (k := 1) (Nat.lt_of_lt_of_le hi4 hs.n) (by decide)) rfl rfl rfl ⟨12, _, rfl, rfl, rfl⟩ rfl ?_
  refine a_s rfl rfl ?_
  refine a_l0 rfl rfl rfl ?_
  refine a_l3 rfl rfl rfl ?_
  refine a_s rfl rfl ?_
  refine a_eV1 rfl lX12_63 mo_X12_of (sp_X12_of (d := i3) (k := 1) (Nat.lt_of_lt_of_le hi3 hs.n) (by decide)) rfl rfl rfl ⟨12, _, rfl, rfl, rfl⟩ rfl ?_
  refine a_s rfl rfl ?_
  refine a_l0 rfl rfl rfl ?_
  refine a_l2 rfl rfl rfl ?_
  refine a_s rfl rfl ?_
  refine a_eV1 rfl lX12_252 mo_X12_ofPerson (sp_X12_ofPerson (d := i2) (k := 1) (Nat.lt_of_lt_of_le hi2 hs.p) (by decide)) rfl rfl rfl ⟨12, _, rfl, rfl, rfl⟩ rfl ?_
  refine a_eS1 rfl lX12_336 mo_X12_daysFor (sp_X12_daysFor) rfl rfl rfl rfl ?_
  refine a_s6 rfl rfl rfl rfl rfl rfl ?_
  refine a_l5 rfl rfl rfl ?_
  refine a_l0 rfl rfl rfl ?_
  refine a_l1 rfl rfl rfl ?_
  refine a_eV1 rfl lX12_345 mo_X12_needsOf (sp_X12_needsOf hs.n hs.du (Nat.lt_of_lt_of_le hi1 hs.p)) rfl rfl rfl ⟨12, _, rfl, rfl, rfl⟩ rfl ?_
  refine a_ic_gt rfl (fun c69 => ?_) (fun c69 => ?_)
  · refine a_s rfl rfl ?_
    exact a_zret rfl rfl rfl ⟨⟨false, rfl⟩, rfl⟩
  · refine a_l6 rfl rfl rfl ?_
    refine a_l0 rfl rfl rfl ?_
    refine a_l2 rfl rfl rfl ?_
    refine a_eV1 rfl lX12_345 mo_X12_needsOf (sp_X12_needsOf hs.n hs.du (Nat.lt_of_lt_of_le hi2 hs.p)) rfl rfl rfl ⟨12, _, rfl, rfl, rfl⟩ rfl ?_
    refine a_ic_gt rfl (fun c79 => ?_) (fun c79 => ?_)
    · refine a_s rfl rfl ?_
      exact a_zret rfl rfl rfl ⟨⟨false, rfl⟩, rfl⟩
    · refine a_l5 rfl rfl rfl ?_
      refine a_l6 rfl rfl rfl ?_
      refine a_s rfl rfl ?_
      refine a_l0 rfl rfl rfl ?_
      refine a_l1 rfl rfl rfl ?_
      refine a_eV1 rfl lX12_345 mo_X12_needsOf (sp_X12_needsOf hs.n hs.du (Nat.lt_of_lt_of_le hi1 hs.p)) rfl rfl rfl ⟨12, _, rfl, rfl, rfl⟩ rfl ?_
      refine a_l0 rfl rfl rfl ?_
      refine a_l2 rfl rfl rfl ?_
      refine a_eV1 rfl lX12_345 mo_X12_needsOf (sp_X12_needsOf hs.n hs.du (Nat.lt_of_lt_of_le hi2 hs.p)) rfl rfl rfl ⟨12, _, rfl, rfl, rfl⟩ rfl ?_
      refine a_s rfl rfl ?_
      refine a_ic_ge rfl (fun c98 => ?_) (fun c98 => ?_)
      · refine a_s rfl rfl ?_
        exact a_zret rfl rfl rfl ⟨⟨false, rfl⟩, rfl⟩
      · refine a_s rfl rfl ?_
        refine a_goto rfl ?_
        exact a_zret rfl rfl rfl ⟨⟨true, rfl⟩, rfl⟩
theorem r_X12_hasBy {S : aS} {I : Nat → Nat → Int32} {L : Nat → Nat → Int64} {w1 w2 t : Nat} {x2 x3 : Int32} {nd np : Nat} (hs : SO nd np (I 421)) (hw : LwW (I 421)) (lg : LgW (I 421)) {i1 : Nat} (hi1 : i1 < nd) : Sp S m_X12_hasBy 20 0 0 [.ref 420, .int (nI i1), .int x2, .int x3] (hp I L w1 w2 t) (QR (Fm sU I) isI L w1 w2 t) nX := by
  refine Sp_of ok_X12_hasBy rfl rfl ?_
  show AW S m_X12_hasBy 20 _ _ 0 0 0 [some (.ref 420), some (.int (nI i1)), some (.int x2), some (.int x3), none] [] (hp I L w1 w2 t)
  refine a_l0 rfl rfl rfl ?_
  refine a_l1 rfl rfl rfl ?_
  refine a_gV rfl lX12_318 mo_X12_shamesBy (r_X12_shamesBy hs hw lg hi1) rfl rfl rfl ⟨12, _, rfl, rfl, rfl⟩ rfl (fun v' h' hv => ?_)
  obtain ⟨⟨v1, rfl⟩, I2, rfl, f3⟩ := hv
  have s3 := SO.fm hs (Fm.mo f3 sU_sV); have l3 := LwW.fm hw (Fm.mo f3 sU_sV); have g3 := LgW.fm lg (Fm.mo f3 sU_sV)
  refine a_s4 rfl rfl rfl rfl rfl rfl ?_
  refine a_l2 rfl rfl rfl ?_
  refine a_s rfl rfl ?_
  refine a_ic_ne rfl (fun c9 => ?_) (fun c9 => ?_)
  · refine a_l4 rfl rfl rfl ?_
    refine a_l3 rfl rfl rfl ?_
    refine a_if_ne rfl (fun c28 => ?_) (fun c28 => ?_)
    · refine a_l0 rfl rfl rfl ?_
      refine a_l1 rfl rfl rfl ?_
      refine a_s rfl rfl ?_
      refine a_eV1 rfl lX12_63 mo_X12_of (sp_X12_of (d := i1) (k := 1) (Nat.lt_of_lt_of_le hi1 s3.n) (by decide)) rfl rfl rfl ⟨12, _, rfl, rfl, rfl⟩ rfl ?_
      refine a_s rfl rfl ?_
      exact a_iret rfl rfl ⟨⟨_, rfl⟩, _, rfl, f3⟩
    · refine a_l0 rfl rfl rfl ?_
      refine a_l1 rfl rfl rfl ?_
      refine a_s rfl rfl ?_
      refine a_eV1 rfl lX12_63 mo_X12_of (sp_X12_of (d := i1) (k := 1) (Nat.lt_of_lt_of_le hi1 s3.n) (by decide)) rfl rfl rfl ⟨12, _, rfl, rfl, rfl⟩ rfl ?_
      refine a_s rfl rfl ?_
      refine a_idiv rfl (by decide) ?_
      refine a_goto rfl ?_
      refine a_s rfl rfl ?_
      exact a_iret rfl rfl ⟨⟨_, rfl⟩, _, rfl, f3⟩
  · refine a_l3 rfl rfl rfl ?_
    refine a_if_ne rfl (fun c13 => ?_) (fun c13 => ?_)
    · refine a_l4 rfl rfl rfl ?_
      refine a_s rfl rfl ?_
      exact a_iret rfl rfl ⟨⟨_, rfl⟩, _, rfl, f3⟩
    · refine a_l4 rfl rfl rfl ?_
      refine a_goto rfl ?_
      exact a_iret rfl rfl ⟨⟨_, rfl⟩, _, rfl, f3⟩
theorem r_X12_isNow {S : aS} {I : Nat → Nat → Int32} {L : Nat → Nat → Int64} {w1 w2 t : Nat} {x2 : Int32} {nd np : Nat} (hs : SO nd np (I 421)) (hw : LwW (I 421)) (lg : LgW (I 421)) {i1 : Nat} (hi1 : i1 < nd) : Sp S m_X12_isNow 13 0 0 [.ref 420, .int (nI i1), .int x2] (hp I L w1 w2 t) (QR (Dd I) isV L w1 w2 t) nX := by
  refine Sp_of ok_X12_isNow rfl rfl ?_
  show AW S m_X12_isNow 13 _ _ 0 0 0 [some (.ref 420), some (.int (nI i1)), some (.int x2)] [] (hp I L w1 w2 t)
  refine a_l0 rfl rfl rfl ?_
  refine a_getq rfl gfX12_13_12 rfl (rfl) ?_
  refine a_l1 rfl rfl rfl ?_
  refine a_s rfl rfl ?_
  refine a_eS1 rfl lX12_60 mo_X12_at (sp_X12_at (d := i1) (k := 5)) rfl rfl rfl rfl ?_
  refine a_l2 rfl rfl rfl ?_
  refine a_iastv (k := (23 + 6 * i1 + 5)) rfl (n := 2033) rfl (inI_nI (by have := hs.n; have := hs.p; omega) (by have := hs.n; have := hs.p; omega)) (nI_clamp (by have := hs.n; have := hs.p; omega)) ?_
  refine a_ren (P := Dd I) (Dd.up (Dd.rf) (dayC_at5 _ (Nat.lt_of_lt_of_le hi1 hs.n)) (by omega)) (fun I1 f2 => ?_)
  have s2 := Dd.so hs f2; have l2 := Dd.lw hw f2; have g2 := Dd.lg lg f2
  exact a_vret rfl rfl ⟨rfl, _, rfl, f2⟩
theorem r_X12_finishes {S : aS} {I : Nat → Nat → Int32} {L : Nat → Nat → Int64} {w1 w2 t : Nat} {nd np : Nat} (hs : SO nd np (I 421)) (hw : LwW (I 421)) (lg : LgW (I 421)) {i1 : Nat} (hi1 : i1 < nd) : Sp S m_X12_finishes 14 0 0 [.ref 420, .int (nI i1)] (hp I L w1 w2 t) (QR (Dd I) isV L w1 w2 t) nX := by
  refine Sp_of ok_X12_finishes rfl rfl ?_
  show AW S m_X12_finishes 14 _ _ 0 0 0 [some (.ref 420), some (.int (nI i1))] [] (hp I L w1 w2 t)
  refine a_l0 rfl rfl rfl ?_
  refine a_getq rfl gfX12_13_12 rfl (rfl) ?_
  refine a_l1 rfl rfl rfl ?_
  refine a_s rfl rfl ?_
  refine a_eS1 rfl lX12_60 mo_X12_at (sp_X12_at (d := i1) (k := 1)) rfl rfl rfl rfl ?_
  refine a_s rfl rfl ?_
  refine a_iastv (k := (23 + 6 * i1 + 1)) rfl (n := 2033) rfl (inI_nI (by have := hs.n; have := hs.p; omega) (by have := hs.n; have := hs.p; omega)) (nI_clamp (by have := hs.n; have := hs.p; omega)) ?_
  refine a_ren (P := Dd I) (Dd.up (Dd.rf) (dayC_at1 _ (Nat.lt_of_lt_of_le hi1 hs.n)) (by omega)) (fun I1 f2 => ?_)
  have s2 := Dd.so hs f2; have l2 := Dd.lw hw f2; have g2 := Dd.lg lg f2
  refine a_l0 rfl rfl rfl ?_
  refine a_l1 rfl rfl rfl ?_
  refine a_s rfl rfl ?_
  refine a_gV rfl lX12_354 mo_X12_isNow (r_X12_isNow s2 l2 g2 hi1) rfl rfl rfl ⟨12, _, rfl, rfl, rfl⟩ rfl (fun v' h' hv => ?_)
  obtain ⟨rfl, I4, rfl, f5⟩ := hv
  replace f5 := Dd.tr (f2) f5
  have s5 := Dd.so hs f5; have l5 := Dd.lw hw f5; have g5 := Dd.lg lg f5
  exact a_vret rfl rfl ⟨rfl, _, rfl, f5⟩
theorem r_X12_growsOlder {S : aS} {I : Nat → Nat → Int32} {L : Nat → Nat → Int64} {w1 w2 t : Nat} {nd np : Nat} (hs : SO nd np (I 421)) (hw : LwW (I 421)) (lg : LgW (I 421)) {i1 : Nat} (hi1 : i1 < nd) : Sp S m_X12_growsOlder 20 0 0 [.ref 420, .int (nI i1)] (hp I L w1 w2 t) (QR (Dd I) isV L w1 w2 t) nX := by
  refine Sp_of ok_X12_growsOlder rfl rfl ?_
  show AW S m_X12_growsOlder 20 _ _ 0 0 0 [some (.ref 420), some (.int (nI i1)), none] [] (hp I L w1 w2 t)
  refine a_l0 rfl rfl rfl ?_
  refine a_l1 rfl rfl rfl ?_
  refine a_eV1 rfl lX12_246 mo_X12_isDone (sp_X12_isDone (d := i1) (Nat.lt_of_lt_of_le hi1 hs.n)) rfl rfl rfl ⟨12, _, rfl, rfl, rfl⟩ rfl ?_
  refine a_if_eq rfl (fun c5 => ?_) (fun c5 => ?_)
  · refine a_l0 rfl rfl rfl ?_
    refine a_l1 rfl rfl rfl ?_
    refine a_eV1 rfl lX12_135 mo_X12_isWaiting (sp_X12_isWaiting (d := i1) (Nat.lt_of_lt_of_le hi1 hs.n)) rfl rfl rfl ⟨12, _, rfl, rfl, rfl⟩ rfl ?_
    refine a_if_eq rfl (fun c14 => ?_) (fun c14 => ?_)
    · refine a_s rfl rfl ?_
      refine a_s2 rfl rfl rfl rfl rfl rfl ?_
      refine a_l0 rfl rfl rfl ?_
      refine a_getq rfl gfX12_13_12 rfl (rfl) ?_
      refine a_l1 rfl rfl rfl ?_
      refine a_s rfl rfl ?_
      refine a_eS1 rfl lX12_60 mo_X12_at (sp_X12_at (d := i1) (k := 2)) rfl rfl rfl rfl ?_
      refine a_s rfl rfl ?_
      refine a_l0 rfl rfl rfl ?_
      refine a_l1 rfl rfl rfl ?_
      refine a_s rfl rfl ?_
      refine a_eV1 rfl lX12_63 mo_X12_of (sp_X12_of (d := i1) (k := 2) (Nat.lt_of_lt_of_le hi1 hs.n) (by decide)) rfl rfl rfl ⟨12, _, rfl, rfl, rfl⟩ rfl ?_
      refine a_s rfl rfl ?_
      refine a_s rfl rfl ?_
      refine a_min rfl lX12_295 mj_min rfl rfl ?_
      refine a_iastv (k := (23 + 6 * i1 + 2)) rfl (n := 2033) rfl (inI_nI (by have := hs.n; have := hs.p; omega) (by have := hs.n; have := hs.p; omega)) (nI_clamp (by have := hs.n; have := hs.p; omega)) ?_
      refine a_ren (P := Dd I) (Dd.up (Dd.rf) (dayC_at2 _ (Nat.lt_of_lt_of_le hi1 hs.n)) (by omega)) (fun I1 f2 => ?_)
      have s2 := Dd.so hs f2; have l2 := Dd.lw hw f2; have g2 := Dd.lg lg f2
      refine a_l0 rfl rfl rfl ?_
      refine a_getq rfl gfX12_13_12 rfl (rfl) ?_
      refine a_l1 rfl rfl rfl ?_
      refine a_s rfl rfl ?_
      refine a_eS1 rfl lX12_60 mo_X12_at (sp_X12_at (d := i1) (k := 1)) rfl rfl rfl rfl ?_
      refine a_s rfl rfl ?_
      refine a_l0 rfl rfl rfl ?_
      refine a_l1 rfl rfl rfl ?_
      refine a_s rfl rfl ?_
      refine a_eV1 rfl lX12_63 mo_X12_of (sp_X12_of (d := i1) (k := 1) (Nat.lt_of_lt_of_le hi1 s2.n) (by decide)) rfl rfl rfl ⟨12, _, rfl, rfl, rfl⟩ rfl ?_
      refine a_l2 rfl rfl rfl ?_
      refine a_s rfl rfl ?_
      refine a_min rfl lX12_295 mj_min rfl rfl ?_
      refine a_iastv (k := (23 + 6 * i1 + 1)) rfl (n := 2033) rfl (inI_nI (by have := hs.n; have := hs.p; omega) (by have := hs.n; have := hs.p; omega)) (nI_clamp (by have := hs.n; have := hs.p; omega)) ?_
      refine a_ren (P := Dd I) (Dd.up (f2) (dayC_at1 _ (Nat.lt_of_lt_of_le hi1 hs.n)) (by omega)) (fun I3 f4 => ?_)
      have s4 := Dd.so hs f4; have l4 := Dd.lw hw f4; have g4 := Dd.lg lg f4
      exact a_vret rfl rfl ⟨rfl, _, rfl, f4⟩
    · refine a_l0 rfl rfl rfl ?_
      refine a_l1 rfl rfl rfl ?_
      refine a_gV rfl lX12_351 mo_X12_growsBy (r_X12_growsBy hs hw lg hi1) rfl rfl rfl ⟨12, _, rfl, rfl, rfl⟩ rfl (fun v' h' hv => ?_)
      obtain ⟨⟨v5, rfl⟩, I6, rfl, f7⟩ := hv
      replace f7 : Dd I I6 := Dd.fm (Dd.rf) (f7)
      have s7 := Dd.so hs f7; have l7 := Dd.lw hw f7; have g7 := Dd.lg lg f7
      refine a_goto rfl ?_
      refine a_s2 rfl rfl rfl rfl rfl rfl ?_
      refine a_l0 rfl rfl rfl ?_
      refine a_getq rfl gfX12_13_12 rfl (rfl) ?_
      refine a_l1 rfl rfl rfl ?_
      refine a_s rfl rfl ?_
      refine a_eS1 rfl lX12_60 mo_X12_at (sp_X12_at (d := i1) (k := 2)) rfl rfl rfl rfl ?_
      refine a_s rfl rfl ?_
      refine a_l0 rfl rfl rfl ?_
      refine a_l1 rfl rfl rfl ?_
      refine a_s rfl rfl ?_
      refine a_eV1 rfl lX12_63 mo_X12_of (sp_X12_of (d := i1) (k := 2) (Nat.lt_of_lt_of_le hi1 s7.n) (by decide)) rfl rfl rfl ⟨12, _, rfl, rfl, rfl⟩ rfl ?_
      refine a_s rfl rfl ?_
      refine a_s rfl rfl ?_
      refine a_min rfl lX12_295 mj_min rfl rfl ?_
      refine a_iastv (k := (23 + 6 * i1 + 2)) rfl (n := 2033) rfl (inI_nI (by have := hs.n; have := hs.p; omega) (by have := hs.n; have := hs.p; omega)) (nI_clamp (by have := hs.n; have := hs.p; omega)) ?_
      refine a_ren (P := Dd I) (Dd.up (f7) (dayC_at2 _ (Nat.lt_of_lt_of_le hi1 hs.n)) (by omega)) (fun I8 f9 => ?_)
      have s9 := Dd.so hs f9; have l9 := Dd.lw hw f9; have g9 := Dd.lg lg f9
      refine a_l0 rfl rfl rfl ?_
      refine a_getq rfl gfX12_13_12 rfl (rfl) ?_
      refine a_l1 rfl rfl rfl ?_
      refine a_s rfl rfl ?_
      refine a_eS1 rfl lX12_60 mo_X12_at (sp_X12_at (d := i1) (k := 1)) rfl rfl rfl rfl ?_
      refine a_s rfl rfl ?_
      refine a_l0 rfl rfl rfl ?_
      refine a_l1 rfl rfl rfl ?_
      refine a_s rfl rfl ?_
      refine a_eV1 rfl lX12_63 mo_X12_of (sp_X12_of (d := i1) (k := 1) (Nat.lt_of_lt_of_le hi1 s9.n) (by decide)) rfl rfl rfl ⟨12, _, rfl, rfl, rfl⟩ rfl ?_
      refine a_l2 rfl rfl rfl ?_
      refine a_s rfl rfl ?_
      refine a_min rfl lX12_295 mj_min rfl rfl ?_
      refine a_iastv (k := (23 + 6 * i1 + 1)) rfl (n := 2033) rfl (inI_nI (by have := hs.n; have := hs.p; omega) (by have := hs.n; have := hs.p; omega)) (nI_clamp (by have := hs.n; have := hs.p; omega)) ?_
      refine a_ren (P := Dd I) (Dd.up (f9) (dayC_at1 _ (Nat.lt_of_lt_of_le hi1 hs.n)) (by omega)) (fun I10 f11 => ?_)
      have s11 := Dd.so hs f11; have l11 := Dd.lw hw f11; have g11 := Dd.lg lg f11
      exact a_vret rfl rfl ⟨rfl, _, rfl, f11⟩
  · exact a_vret rfl rfl ⟨rfl, _, rfl, Dd.rf⟩
theorem r_X12_works {S : aS} {I : Nat → Nat → Int32} {L : Nat → Nat → Int64} {w1 w2 t : Nat} {nd np : Nat} (hs : SO nd np (I 421)) (hw : LwW (I 421)) (lg : LgW (I 421)) {i1 : Nat} (hi1 : i1 < np) : Sp S m_X12_works 17 0 0 [.ref 420, .int (nI i1)] (hp I L w1 w2 t) (QR (Dd I) isI L w1 w2 t) nX := by
  refine Sp_of ok_X12_works rfl rfl ?_
  show AW S m_X12_works 17 _ _ 0 0 0 [some (.ref 420), some (.int (nI i1)), none, none, none, none] [] (hp I L w1 w2 t)
  refine a_l0 rfl rfl rfl ?_
  refine a_l1 rfl rfl rfl ?_
  refine a_s rfl rfl ?_
  refine a_eV1 rfl lX12_252 mo_X12_ofPerson (sp_X12_ofPerson (d := i1) (k := 1) (Nat.lt_of_lt_of_le hi1 hs.p) (by decide)) rfl rfl rfl ⟨12, _, rfl, rfl, rfl⟩ rfl ?_
  refine a_s2 rfl rfl rfl rfl rfl rfl ?_
  refine a_s rfl rfl ?_
  refine a_s3 rfl rfl rfl rfl rfl rfl ?_
  refine a_s rfl rfl ?_
  refine a_s4 rfl rfl rfl rfl rfl rfl ?_
  refine a_cnt (j0 := 0) (fun j ls h => ∃ a0, ∃ a1, ∃ I', ls = [some (.ref 420), some (.int (nI i1)), some (.int a0), some (.int a1), some (.int (nI j)), none] ∧ h = hp I' L w1 w2 t ∧ Dd I I') (by decide) ⟨_, _, _, rfl, rfl, Dd.rf⟩ ⟨rfl, rfl, rfl, rfl, rfl, trivial⟩ ?_
  rintro j12 _ _ hj12 ⟨a0_12, a1_12, Ih12, rfl, rfl, fh12⟩ ih12
  have sh12 := Dd.so hs fh12; have lh12 := Dd.lw hw fh12; have gh12 := Dd.lg lg fh12
  refine a_l4 rfl rfl rfl ?_
  refine a_l0 rfl rfl rfl ?_
  refine a_eV1 rfl lX12_74 mo_X12_duties (sp_X12_duties) rfl rfl rfl ⟨12, _, rfl, rfl, rfl⟩ rfl ?_
  refine a_top (y := nI nd) sh12.du ?_
  refine a_ic_ge rfl (fun c18 => ?_) (fun c18 => ?_)
  · refine a_l3 rfl rfl rfl ?_
    exact a_iret rfl rfl ⟨⟨_, rfl⟩, _, rfl, fh12⟩
  · have hd12 : j12 < nd := nI_lt_of c18 hj12 (by have := hs.n; omega)
    refine a_l0 rfl rfl rfl ?_
    refine a_l4 rfl rfl rfl ?_
    refine a_s rfl rfl ?_
    refine a_eV1 rfl lX12_63 mo_X12_of (sp_X12_of (d := j12) (k := 0) (Nat.lt_of_lt_of_le hd12 sh12.n) (by decide)) rfl rfl rfl ⟨12, _, rfl, rfl, rfl⟩ rfl ?_
    refine a_l1 rfl rfl rfl ?_
    refine a_ic_ne rfl (fun c29 => ?_) (fun c29 => ?_)
    · refine a_i4 rfl rfl rfl ?_
      refine a_goto rfl ?_
      exact ih12 _ _ _ _ c18 ⟨_, _, _, rfl, rfl, fh12⟩ ⟨rfl, rfl, rfl, rfl, nS _, trivial⟩
    · refine a_l0 rfl rfl rfl ?_
      refine a_l4 rfl rfl rfl ?_
      refine a_eV1 rfl lX12_273 mo_X12_isReady (sp_X12_isReady sh12.n hd12 sh12.l) rfl rfl rfl ⟨12, _, rfl, rfl, rfl⟩ rfl ?_
      refine a_if_eq rfl (fun c38 => ?_) (fun c38 => ?_)
      · refine a_i4 rfl rfl rfl ?_
        refine a_goto rfl ?_
        exact ih12 _ _ _ _ c18 ⟨_, _, _, rfl, rfl, fh12⟩ ⟨rfl, rfl, rfl, rfl, nS _, trivial⟩
      · refine a_l0 rfl rfl rfl ?_
        refine a_l4 rfl rfl rfl ?_
        refine a_l1 rfl rfl rfl ?_
        refine a_gV rfl lX12_367 mo_X12_hasTool (r_X12_hasTool sh12 lh12 gh12 hd12 hi1) rfl rfl rfl ⟨12, _, rfl, rfl, rfl⟩ rfl (fun v' h' hv => ?_)
        obtain ⟨⟨v1, rfl⟩, rfl⟩ := hv
        refine a_if_ne rfl (fun c48 => ?_) (fun c48 => ?_)
        · refine a_l2 rfl rfl rfl ?_
          refine a_l0 rfl rfl rfl ?_
          refine a_l4 rfl rfl rfl ?_
          refine a_s rfl rfl ?_
          refine a_eV1 rfl lX12_63 mo_X12_of (sp_X12_of (d := j12) (k := 1) (Nat.lt_of_lt_of_le hd12 sh12.n) (by decide)) rfl rfl rfl ⟨12, _, rfl, rfl, rfl⟩ rfl ?_
          refine a_min rfl lX12_295 mj_min rfl rfl ?_
          refine a_s5 rfl rfl rfl rfl rfl rfl ?_
          refine a_l5 rfl rfl rfl ?_
          refine a_if_le rfl (fun c69 => ?_) (fun c69 => ?_)
          · refine a_l2 rfl rfl rfl ?_
            refine a_l5 rfl rfl rfl ?_
            refine a_s rfl rfl ?_
            refine a_s2 rfl rfl rfl rfl rfl rfl ?_
            refine a_l0 rfl rfl rfl ?_
            refine a_getq rfl gfX12_13_12 rfl (rfl) ?_
            refine a_l4 rfl rfl rfl ?_
            refine a_s rfl rfl ?_
            refine a_eS1 rfl lX12_60 mo_X12_at (sp_X12_at (d := j12) (k := 1)) rfl rfl rfl rfl ?_
            refine a_s rfl rfl ?_
            refine a_iald rfl (n := 2033) rfl (inI_nI (by have := hs.n; have := hs.p; omega) (by have := hs.n; have := hs.p; omega)) ?_
            refine a_l5 rfl rfl rfl ?_
            refine a_s rfl rfl ?_
            refine a_iastv (k := (23 + 6 * j12 + 1)) rfl (n := 2033) rfl (inI_nI (by have := hs.n; have := hs.p; omega) (by have := hs.n; have := hs.p; omega)) (nI_clamp (by have := hs.n; have := hs.p; omega)) ?_
            refine a_ren (P := Dd I) (Dd.up (fh12) (dayC_at1 _ (Nat.lt_of_lt_of_le hd12 hs.n)) (by omega)) (fun I2 f3 => ?_)
            have s3 := Dd.so hs f3; have l3 := Dd.lw hw f3; have g3 := Dd.lg lg f3
            refine a_l0 rfl rfl rfl ?_
            refine a_l4 rfl rfl rfl ?_
            refine a_s rfl rfl ?_
            refine a_eV1 rfl lX12_63 mo_X12_of (sp_X12_of (d := j12) (k := 1) (Nat.lt_of_lt_of_le hd12 s3.n) (by decide)) rfl rfl rfl ⟨12, _, rfl, rfl, rfl⟩ rfl ?_
            refine a_if_le rfl (fun c124 => ?_) (fun c124 => ?_)
            · refine a_l0 rfl rfl rfl ?_
              refine a_l4 rfl rfl rfl ?_
              refine a_gV rfl lX12_360 mo_X12_finishes (r_X12_finishes s3 l3 g3 hd12) rfl rfl rfl ⟨12, _, rfl, rfl, rfl⟩ rfl (fun v' h' hv => ?_)
              obtain ⟨rfl, I5, rfl, f6⟩ := hv
              replace f6 := Dd.tr (f3) f6
              have s6 := Dd.so hs f6; have l6 := Dd.lw hw f6; have g6 := Dd.lg lg f6
              refine a_i3 rfl rfl rfl ?_
              refine a_i4 rfl rfl rfl ?_
              refine a_goto rfl ?_
              exact ih12 _ _ _ _ c18 ⟨_, _, _, rfl, rfl, f6⟩ ⟨rfl, rfl, rfl, rfl, nS _, trivial⟩
            · refine a_goto rfl ?_
              refine a_i4 rfl rfl rfl ?_
              refine a_goto rfl ?_
              exact ih12 _ _ _ _ c18 ⟨_, _, _, rfl, rfl, f3⟩ ⟨rfl, rfl, rfl, rfl, nS _, trivial⟩
          · refine a_l0 rfl rfl rfl ?_
            refine a_l4 rfl rfl rfl ?_
            refine a_s rfl rfl ?_
            refine a_eV1 rfl lX12_63 mo_X12_of (sp_X12_of (d := j12) (k := 3) (Nat.lt_of_lt_of_le hd12 sh12.n) (by decide)) rfl rfl rfl ⟨12, _, rfl, rfl, rfl⟩ rfl ?_
            refine a_s rfl rfl ?_
            refine a_ic_eq rfl (fun c80 => ?_) (fun c80 => ?_)
            · refine a_l2 rfl rfl rfl ?_
              refine a_l5 rfl rfl rfl ?_
              refine a_s rfl rfl ?_
              refine a_s2 rfl rfl rfl rfl rfl rfl ?_
              refine a_l0 rfl rfl rfl ?_
              refine a_getq rfl gfX12_13_12 rfl (rfl) ?_
              refine a_l4 rfl rfl rfl ?_
              refine a_s rfl rfl ?_
              refine a_eS1 rfl lX12_60 mo_X12_at (sp_X12_at (d := j12) (k := 1)) rfl rfl rfl rfl ?_
              refine a_s rfl rfl ?_
              refine a_iald rfl (n := 2033) rfl (inI_nI (by have := hs.n; have := hs.p; omega) (by have := hs.n; have := hs.p; omega)) ?_
              refine a_l5 rfl rfl rfl ?_
              refine a_s rfl rfl ?_
              refine a_iastv (k := (23 + 6 * j12 + 1)) rfl (n := 2033) rfl (inI_nI (by have := hs.n; have := hs.p; omega) (by have := hs.n; have := hs.p; omega)) (nI_clamp (by have := hs.n; have := hs.p; omega)) ?_
              refine a_ren (P := Dd I) (Dd.up (fh12) (dayC_at1 _ (Nat.lt_of_lt_of_le hd12 hs.n)) (by omega)) (fun I7 f8 => ?_)
              have s8 := Dd.so hs f8; have l8 := Dd.lw hw f8; have g8 := Dd.lg lg f8
              refine a_l0 rfl rfl rfl ?_
              refine a_l4 rfl rfl rfl ?_
              refine a_s rfl rfl ?_
              refine a_eV1 rfl lX12_63 mo_X12_of (sp_X12_of (d := j12) (k := 1) (Nat.lt_of_lt_of_le hd12 s8.n) (by decide)) rfl rfl rfl ⟨12, _, rfl, rfl, rfl⟩ rfl ?_
              refine a_if_le rfl (fun c124 => ?_) (fun c124 => ?_)
              · refine a_l0 rfl rfl rfl ?_
                refine a_l4 rfl rfl rfl ?_
                refine a_gV rfl lX12_360 mo_X12_finishes (r_X12_finishes s8 l8 g8 hd12) rfl rfl rfl ⟨12, _, rfl, rfl, rfl⟩ rfl (fun v' h' hv => ?_)
                obtain ⟨rfl, I10, rfl, f11⟩ := hv
                replace f11 := Dd.tr (f8) f11
                have s11 := Dd.so hs f11; have l11 := Dd.lw hw f11; have g11 := Dd.lg lg f11
                refine a_i3 rfl rfl rfl ?_
                refine a_i4 rfl rfl rfl ?_
                refine a_goto rfl ?_
                exact ih12 _ _ _ _ c18 ⟨_, _, _, rfl, rfl, f11⟩ ⟨rfl, rfl, rfl, rfl, nS _, trivial⟩
              · refine a_goto rfl ?_
                refine a_i4 rfl rfl rfl ?_
                refine a_goto rfl ?_
                exact ih12 _ _ _ _ c18 ⟨_, _, _, rfl, rfl, f8⟩ ⟨rfl, rfl, rfl, rfl, nS _, trivial⟩
            · refine a_l0 rfl rfl rfl ?_
              refine a_getq rfl gfX12_42_12 rfl (rfl) ?_
              refine a_l0 rfl rfl rfl ?_
              refine a_l4 rfl rfl rfl ?_
              refine a_s rfl rfl ?_
              refine a_eV1 rfl lX12_63 mo_X12_of (sp_X12_of (d := j12) (k := 3) (Nat.lt_of_lt_of_le hd12 sh12.n) (by decide)) rfl rfl rfl ⟨12, _, rfl, rfl, rfl⟩ rfl ?_
              refine a_l1 rfl rfl rfl ?_
              refine a_iastv (k := _) rfl (n := 6) rfl (inTool (sh12.t _ hd12) c80) (rfl) ?_
              refine a_ren (P := Dd I) (Dd.fm (fh12) (Fm.up (Fm.rf (s := sU)) rfl)) (fun I12 f13 => ?_)
              have s13 := Dd.so hs f13; have l13 := Dd.lw hw f13; have g13 := Dd.lg lg f13
              refine a_l2 rfl rfl rfl ?_
              refine a_l5 rfl rfl rfl ?_
              refine a_s rfl rfl ?_
              refine a_s2 rfl rfl rfl rfl rfl rfl ?_
              refine a_l0 rfl rfl rfl ?_
              refine a_getq rfl gfX12_13_12 rfl (rfl) ?_
              refine a_l4 rfl rfl rfl ?_
              refine a_s rfl rfl ?_
              refine a_eS1 rfl lX12_60 mo_X12_at (sp_X12_at (d := j12) (k := 1)) rfl rfl rfl rfl ?_
              refine a_s rfl rfl ?_
              refine a_iald rfl (n := 2033) rfl (inI_nI (by have := hs.n; have := hs.p; omega) (by have := hs.n; have := hs.p; omega)) ?_
              refine a_l5 rfl rfl rfl ?_
              refine a_s rfl rfl ?_
              refine a_iastv (k := (23 + 6 * j12 + 1)) rfl (n := 2033) rfl (inI_nI (by have := hs.n; have := hs.p; omega) (by have := hs.n; have := hs.p; omega)) (nI_clamp (by have := hs.n; have := hs.p; omega)) ?_
              refine a_ren (P := Dd I) (Dd.up (f13) (dayC_at1 _ (Nat.lt_of_lt_of_le hd12 hs.n)) (by omega)) (fun I14 f15 => ?_)
              have s15 := Dd.so hs f15; have l15 := Dd.lw hw f15; have g15 := Dd.lg lg f15
              refine a_l0 rfl rfl rfl ?_
              refine a_l4 rfl rfl rfl ?_
              refine a_s rfl rfl ?_
              refine a_eV1 rfl lX12_63 mo_X12_of (sp_X12_of (d := j12) (k := 1) (Nat.lt_of_lt_of_le hd12 s15.n) (by decide)) rfl rfl rfl ⟨12, _, rfl, rfl, rfl⟩ rfl ?_
              refine a_if_le rfl (fun c124 => ?_) (fun c124 => ?_)
              · refine a_l0 rfl rfl rfl ?_
                refine a_l4 rfl rfl rfl ?_
                refine a_gV rfl lX12_360 mo_X12_finishes (r_X12_finishes s15 l15 g15 hd12) rfl rfl rfl ⟨12, _, rfl, rfl, rfl⟩ rfl (fun v' h' hv => ?_)
                obtain ⟨rfl, I17, rfl, f18⟩ := hv
                replace f18 := Dd.tr (f15) f18
                have s18 := Dd.so hs f18; have l18 := Dd.lw hw f18; have g18 := Dd.lg lg f18
                refine a_i3 rfl rfl rfl ?_
                refine a_i4 rfl rfl rfl ?_
                refine a_goto rfl ?_
                exact ih12 _ _ _ _ c18 ⟨_, _, _, rfl, rfl, f18⟩ ⟨rfl, rfl, rfl, rfl, nS _, trivial⟩
              · refine a_goto rfl ?_
                refine a_i4 rfl rfl rfl ?_
                refine a_goto rfl ?_
                exact ih12 _ _ _ _ c18 ⟨_, _, _, rfl, rfl, f15⟩ ⟨rfl, rfl, rfl, rfl, nS _, trivial⟩
        · refine a_goto rfl ?_
          refine a_i4 rfl rfl rfl ?_
          refine a_goto rfl ?_
          exact ih12 _ _ _ _ c18 ⟨_, _, _, rfl, rfl, fh12⟩ ⟨rfl, rfl, rfl, rfl, nS _, trivial⟩
theorem r_X12_goesBy {S : aS} {I : Nat → Nat → Int32} {L : Nat → Nat → Int64} {w1 w2 t : Nat} {nd np : Nat} (hs : SO nd np (I 421)) (hw : LwW (I 421)) (lg : LgW (I 421)) : Sp S m_X12_goesBy 21 0 0 [.ref 420] (hp I L w1 w2 t) (QR (Dd I) isV L w1 w2 t) nX := by
  refine Sp_of ok_X12_goesBy rfl rfl ?_
  show AW S m_X12_goesBy 21 _ _ 0 0 0 [some (.ref 420), none, none] [] (hp I L w1 w2 t)
  refine a_s rfl rfl ?_
  refine a_s1 rfl rfl rfl rfl rfl rfl ?_
  refine a_cnt (j0 := 0) (fun j ls h => ∃ I', ls = [some (.ref 420), some (.int (nI j)), none] ∧ h = hp I' L w1 w2 t ∧ Dd I I') (by decide) ⟨_, rfl, rfl, Dd.rf⟩ ⟨rfl, rfl, trivial⟩ ?_
  rintro j2 _ _ hj2 ⟨Ih2, rfl, rfl, fh2⟩ ih2
  have sh2 := Dd.so hs fh2; have lh2 := Dd.lw hw fh2; have gh2 := Dd.lg lg fh2
  refine a_l1 rfl rfl rfl ?_
  refine a_l0 rfl rfl rfl ?_
  refine a_eV1 rfl lX12_74 mo_X12_duties (sp_X12_duties) rfl rfl rfl ⟨12, _, rfl, rfl, rfl⟩ rfl ?_
  refine a_top (y := nI nd) sh2.du ?_
  refine a_ic_ge rfl (fun c7 => ?_) (fun c7 => ?_)
  · exact a_vret rfl rfl ⟨rfl, _, rfl, fh2⟩
  · have hd2 : j2 < nd := nI_lt_of c7 hj2 (by have := hs.n; omega)
    refine a_s rfl rfl ?_
    refine a_s2 rfl rfl rfl rfl rfl rfl ?_
    refine a_cnt (j0 := 0) (fun j ls h => ∃ I', ls = [some (.ref 420), some (.int (nI j2)), some (.int (nI j))] ∧ h = hp I' L w1 w2 t ∧ Dd I I') (by decide) ⟨_, rfl, rfl, fh2⟩ ⟨rfl, rfl, rfl, trivial⟩ ?_
    rintro j12 _ _ hj12 ⟨Ih12, rfl, rfl, fh12⟩ ih12
    have sh12 := Dd.so hs fh12; have lh12 := Dd.lw hw fh12; have gh12 := Dd.lg lg fh12
    refine a_l2 rfl rfl rfl ?_
    refine a_l0 rfl rfl rfl ?_
    refine a_eV1 rfl lX12_74 mo_X12_duties (sp_X12_duties) rfl rfl rfl ⟨12, _, rfl, rfl, rfl⟩ rfl ?_
    refine a_top (y := nI nd) sh12.du ?_
    refine a_ic_ge rfl (fun c17 => ?_) (fun c17 => ?_)
    · refine a_i1 rfl rfl rfl ?_
      refine a_goto rfl ?_
      exact ih2 _ _ _ _ c7 ⟨_, rfl, rfl, fh12⟩ ⟨rfl, nS _, trivial⟩
    · have hd12 : j12 < nd := nI_lt_of c17 hj12 (by have := hs.n; omega)
      refine a_l0 rfl rfl rfl ?_
      refine a_l2 rfl rfl rfl ?_
      refine a_eV1 rfl lX12_283 mo_X12_placeOf (sp_X12_placeOf sh12.n sh12.du hd12) rfl rfl rfl ⟨12, _, rfl, rfl, rfl⟩ rfl ?_
      refine a_l1 rfl rfl rfl ?_
      refine a_ic_ne rfl (fun c26 => ?_) (fun c26 => ?_)
      · refine a_i2 rfl rfl rfl ?_
        refine a_goto rfl ?_
        exact ih12 _ _ _ _ c17 ⟨_, rfl, rfl, fh12⟩ ⟨rfl, rfl, nS _, trivial⟩
      · refine a_l0 rfl rfl rfl ?_
        refine a_l2 rfl rfl rfl ?_
        refine a_l1 rfl rfl rfl ?_
        refine a_gV rfl lX12_370 mo_X12_tells (r_X12_tells sh12 lh12 gh12 hd12) rfl rfl rfl ⟨12, _, rfl, rfl, rfl⟩ rfl (fun v' h' hv => ?_)
        obtain ⟨rfl, I2, rfl, f3⟩ := hv
        replace f3 := Dd.tr (fh12) f3
        have s3 := Dd.so hs f3; have l3 := Dd.lw hw f3; have g3 := Dd.lg lg f3
        refine a_i2 rfl rfl rfl ?_
        refine a_goto rfl ?_
        exact ih12 _ _ _ _ c17 ⟨_, rfl, rfl, f3⟩ ⟨rfl, rfl, nS _, trivial⟩
theorem r_X12_oneDay {S : aS} {I : Nat → Nat → Int32} {L : Nat → Nat → Int64} {w1 w2 t : Nat} {b1 : Bool} {nd np : Nat} (hs : SO nd np (I 421)) (hw : LwW (I 421)) (lg : LgW (I 421)) : Sp S m_X12_oneDay 22 0 0 [.ref 420, .int (bI b1)] (hp I L w1 w2 t) (QR (Dd I) isI L w1 w2 t) nX := by
  refine Sp_of ok_X12_oneDay rfl rfl ?_
  show AW S m_X12_oneDay 22 _ _ 0 0 0 [some (.ref 420), some (.int (bI b1)), none, none] [] (hp I L w1 w2 t)
  refine a_s rfl rfl ?_
  refine a_s2 rfl rfl rfl rfl rfl rfl ?_
  refine a_s rfl rfl ?_
  refine a_s3 rfl rfl rfl rfl rfl rfl ?_
  refine a_cnt (j0 := 0) (fun j ls h => ∃ I', ls = [some (.ref 420), some (.int (bI b1)), some (.int 0), some (.int (nI j))] ∧ h = hp I' L w1 w2 t ∧ Dd I I') (by decide) ⟨_, rfl, rfl, Dd.rf⟩ ⟨rfl, rfl, rfl, rfl, trivial⟩ ?_
  rintro j4 _ _ hj4 ⟨Ih4, rfl, rfl, fh4⟩ ih4
  have sh4 := Dd.so hs fh4; have lh4 := Dd.lw hw fh4; have gh4 := Dd.lg lg fh4
  refine a_l3 rfl rfl rfl ?_
  refine a_s rfl rfl ?_
  refine a_ic_ge rfl (fun c7 => ?_) (fun c7 => ?_)
  · refine a_s rfl rfl ?_
    refine a_s3 rfl rfl rfl rfl rfl rfl ?_
    refine a_cnt (j0 := 0) (fun j ls h => ∃ a0, ∃ I', ls = [some (.ref 420), some (.int (bI b1)), some (.int a0), some (.int (nI j))] ∧ h = hp I' L w1 w2 t ∧ Dd I I') (by decide) ⟨_, _, rfl, rfl, fh4⟩ ⟨rfl, rfl, rfl, rfl, trivial⟩ ?_
    rintro j25 _ _ hj25 ⟨a0_25, Ih25, rfl, rfl, fh25⟩ ih25
    have sh25 := Dd.so hs fh25; have lh25 := Dd.lw hw fh25; have gh25 := Dd.lg lg fh25
    refine a_l3 rfl rfl rfl ?_
    refine a_l0 rfl rfl rfl ?_
    refine a_eV1 rfl lX12_66 mo_X12_people (sp_X12_people) rfl rfl rfl ⟨12, _, rfl, rfl, rfl⟩ rfl ?_
    refine a_top (y := nI np) sh25.pu ?_
    refine a_ic_ge rfl (fun c30 => ?_) (fun c30 => ?_)
    · refine a_l0 rfl rfl rfl ?_
      refine a_getq rfl gfX12_13_12 rfl (rfl) ?_
      refine a_s rfl rfl ?_
      refine a_s rfl rfl ?_
      refine a_iald rfl (n := 2033) rfl (⟨by decide, by decide⟩) ?_
      refine a_s rfl rfl ?_
      refine a_s rfl rfl ?_
      refine a_iastv (k := 4) rfl (n := 2033) rfl (⟨by decide, by decide⟩) (rfl) ?_
      refine a_ren (P := Dd I) (Dd.up (fh25) rfl (by decide)) (fun I1 f2 => ?_)
      have s2 := Dd.so hs f2; have l2 := Dd.lw hw f2; have g2 := Dd.lg lg f2
      refine a_l0 rfl rfl rfl ?_
      refine a_getq rfl gfX12_13_12 rfl (rfl) ?_
      refine a_s rfl rfl ?_
      refine a_iald rfl (n := 2033) rfl (⟨by decide, by decide⟩) ?_
      refine a_s rfl rfl ?_
      refine a_ic_le rfl (fun c89 => ?_) (fun c89 => ?_)
      · refine a_l0 rfl rfl rfl ?_
        refine a_getq rfl gfX12_13_12 rfl (rfl) ?_
        refine a_s rfl rfl ?_
        refine a_iald rfl (n := 2033) rfl (⟨by decide, by decide⟩) ?_
        refine a_s rfl rfl ?_
        refine a_ic_ne rfl (fun c147 => ?_) (fun c147 => ?_)
        · refine a_l2 rfl rfl rfl ?_
          exact a_iret rfl rfl ⟨⟨_, rfl⟩, _, rfl, f2⟩
        · refine a_l0 rfl rfl rfl ?_
          refine a_gV rfl lX12_382 mo_X12_goesBy (r_X12_goesBy s2 l2 g2) rfl rfl rfl ⟨12, _, rfl, rfl, rfl⟩ rfl (fun v' h' hv => ?_)
          obtain ⟨rfl, I4, rfl, f5⟩ := hv
          replace f5 := Dd.tr (f2) f5
          have s5 := Dd.so hs f5; have l5 := Dd.lw hw f5; have g5 := Dd.lg lg f5
          refine a_l2 rfl rfl rfl ?_
          exact a_iret rfl rfl ⟨⟨_, rfl⟩, _, rfl, f5⟩
      · refine a_l0 rfl rfl rfl ?_
        refine a_getq rfl gfX12_13_12 rfl (rfl) ?_
        refine a_s rfl rfl ?_
        refine a_s rfl rfl ?_
        refine a_iastv (k := 4) rfl (n := 2033) rfl (⟨by decide, by decide⟩) (rfl) ?_
        refine a_ren (P := Dd I) (Dd.up (f2) rfl (by decide)) (fun I6 f7 => ?_)
        have s7 := Dd.so hs f7; have l7 := Dd.lw hw f7; have g7 := Dd.lg lg f7
        refine a_l0 rfl rfl rfl ?_
        refine a_getq rfl gfX12_13_12 rfl (rfl) ?_
        refine a_s rfl rfl ?_
        refine a_s rfl rfl ?_
        refine a_l0 rfl rfl rfl ?_
        refine a_getq rfl gfX12_13_12 rfl (rfl) ?_
        refine a_s rfl rfl ?_
        refine a_iald rfl (n := 2033) rfl (⟨by decide, by decide⟩) ?_
        refine a_s rfl rfl ?_
        refine a_s rfl rfl ?_
        refine a_min rfl lX12_295 mj_min rfl rfl ?_
        refine a_iastv (k := 5) rfl (n := 2033) rfl (⟨by decide, by decide⟩) (rfl) ?_
        refine a_ren (P := Dd I) (Dd.up (f7) rfl (by decide)) (fun I8 f9 => ?_)
        have s9 := Dd.so hs f9; have l9 := Dd.lw hw f9; have g9 := Dd.lg lg f9
        refine a_s rfl rfl ?_
        refine a_s3 rfl rfl rfl rfl rfl rfl ?_
        refine a_cnt (j0 := 0) (fun j ls h => ∃ I', ls = [some (.ref 420), some (.int (bI b1)), some (.int a0_25), some (.int (nI j))] ∧ h = hp I' L w1 w2 t ∧ Dd I I') (by decide) ⟨_, rfl, rfl, f9⟩ ⟨rfl, rfl, rfl, rfl, trivial⟩ ?_
        rintro j121 _ _ hj121 ⟨Ih121, rfl, rfl, fh121⟩ ih121
        have sh121 := Dd.so hs fh121; have lh121 := Dd.lw hw fh121; have gh121 := Dd.lg lg fh121
        refine a_l3 rfl rfl rfl ?_
        refine a_l0 rfl rfl rfl ?_
        refine a_eV1 rfl lX12_74 mo_X12_duties (sp_X12_duties) rfl rfl rfl ⟨12, _, rfl, rfl, rfl⟩ rfl ?_
        refine a_top (y := nI nd) sh121.du ?_
        refine a_ic_ge rfl (fun c126 => ?_) (fun c126 => ?_)
        · refine a_l0 rfl rfl rfl ?_
          refine a_getq rfl gfX12_13_12 rfl (rfl) ?_
          refine a_s rfl rfl ?_
          refine a_iald rfl (n := 2033) rfl (⟨by decide, by decide⟩) ?_
          refine a_s rfl rfl ?_
          refine a_ic_ne rfl (fun c147 => ?_) (fun c147 => ?_)
          · refine a_l2 rfl rfl rfl ?_
            exact a_iret rfl rfl ⟨⟨_, rfl⟩, _, rfl, fh121⟩
          · refine a_l0 rfl rfl rfl ?_
            refine a_gV rfl lX12_382 mo_X12_goesBy (r_X12_goesBy sh121 lh121 gh121) rfl rfl rfl ⟨12, _, rfl, rfl, rfl⟩ rfl (fun v' h' hv => ?_)
            obtain ⟨rfl, I11, rfl, f12⟩ := hv
            replace f12 := Dd.tr (fh121) f12
            have s12 := Dd.so hs f12; have l12 := Dd.lw hw f12; have g12 := Dd.lg lg f12
            refine a_l2 rfl rfl rfl ?_
            exact a_iret rfl rfl ⟨⟨_, rfl⟩, _, rfl, f12⟩
        · have hd121 : j121 < nd := nI_lt_of c126 hj121 (by have := hs.n; omega)
          refine a_l0 rfl rfl rfl ?_
          refine a_l3 rfl rfl rfl ?_
          refine a_gV rfl lX12_379 mo_X12_growsOlder (r_X12_growsOlder sh121 lh121 gh121 hd121) rfl rfl rfl ⟨12, _, rfl, rfl, rfl⟩ rfl (fun v' h' hv => ?_)
          obtain ⟨rfl, I14, rfl, f15⟩ := hv
          replace f15 := Dd.tr (fh121) f15
          have s15 := Dd.so hs f15; have l15 := Dd.lw hw f15; have g15 := Dd.lg lg f15
          refine a_i3 rfl rfl rfl ?_
          refine a_goto rfl ?_
          exact ih121 _ _ _ _ c126 ⟨_, rfl, rfl, f15⟩ ⟨rfl, rfl, rfl, nS _, trivial⟩
    · have hd25 : j25 < np := nI_lt_of c30 hj25 (by have := hs.p; omega)
      refine a_l2 rfl rfl rfl ?_
      refine a_l1 rfl rfl rfl ?_
      refine a_if_ne rfl (fun c35 => ?_) (fun c35 => ?_)
      · refine a_l0 rfl rfl rfl ?_
        refine a_l3 rfl rfl rfl ?_
        refine a_gV rfl lX12_376 mo_X12_works (r_X12_works sh25 lh25 gh25 hd25) rfl rfl rfl ⟨12, _, rfl, rfl, rfl⟩ rfl (fun v' h' hv => ?_)
        obtain ⟨⟨v16, rfl⟩, I17, rfl, f18⟩ := hv
        replace f18 := Dd.tr (fh25) f18
        have s18 := Dd.so hs f18; have l18 := Dd.lw hw f18; have g18 := Dd.lg lg f18
        refine a_s rfl rfl ?_
        refine a_s2 rfl rfl rfl rfl rfl rfl ?_
        refine a_i3 rfl rfl rfl ?_
        refine a_goto rfl ?_
        exact ih25 _ _ _ _ c30 ⟨_, _, rfl, rfl, f18⟩ ⟨rfl, rfl, rfl, nS _, trivial⟩
      · refine a_l0 rfl rfl rfl ?_
        refine a_s rfl rfl ?_
        refine a_gV rfl lX12_373 mo_X12_drawn (r_X12_drawn sh25 lh25 gh25) rfl rfl rfl ⟨12, _, rfl, rfl, rfl⟩ rfl (fun v' h' hv => ?_)
        obtain ⟨⟨v19, rfl⟩, I20, rfl, f21⟩ := hv
        replace f21 := Dd.tr (fh25) f21
        have s21 := Dd.so hs f21; have l21 := Dd.lw hw f21; have g21 := Dd.lg lg f21
        refine a_l0 rfl rfl rfl ?_
        refine a_getq rfl gfX12_13_12 rfl (rfl) ?_
        refine a_s rfl rfl ?_
        refine a_iald rfl (n := 2033) rfl (⟨by decide, by decide⟩) ?_
        refine a_ic_ge rfl (fun c51 => ?_) (fun c51 => ?_)
        · refine a_l0 rfl rfl rfl ?_
          refine a_l3 rfl rfl rfl ?_
          refine a_gV rfl lX12_376 mo_X12_works (r_X12_works s21 l21 g21 hd25) rfl rfl rfl ⟨12, _, rfl, rfl, rfl⟩ rfl (fun v' h' hv => ?_)
          obtain ⟨⟨v22, rfl⟩, I23, rfl, f24⟩ := hv
          replace f24 := Dd.tr (f21) f24
          have s24 := Dd.so hs f24; have l24 := Dd.lw hw f24; have g24 := Dd.lg lg f24
          refine a_s rfl rfl ?_
          refine a_s2 rfl rfl rfl rfl rfl rfl ?_
          refine a_i3 rfl rfl rfl ?_
          refine a_goto rfl ?_
          exact ih25 _ _ _ _ c30 ⟨_, _, rfl, rfl, f24⟩ ⟨rfl, rfl, rfl, nS _, trivial⟩
        · refine a_s rfl rfl ?_
          refine a_goto rfl ?_
          refine a_s rfl rfl ?_
          refine a_s2 rfl rfl rfl rfl rfl rfl ?_
          refine a_i3 rfl rfl rfl ?_
          refine a_goto rfl ?_
          exact ih25 _ _ _ _ c30 ⟨_, _, rfl, rfl, f21⟩ ⟨rfl, rfl, rfl, nS _, trivial⟩
  · have hd4 : j4 < 6 := nI_lt_of (b := 6) c7 hj4 (by decide)
    refine a_l0 rfl rfl rfl ?_
    refine a_getq rfl gfX12_42_12 rfl (rfl) ?_
    refine a_l3 rfl rfl rfl ?_
    refine a_s rfl rfl ?_
    refine a_iastv (k := j4) rfl (n := 6) rfl (inI_nI (by have := hs.n; have := hs.p; omega) (by have := hs.n; have := hs.p; omega)) (nI_clamp (by have := hs.n; have := hs.p; omega)) ?_
    refine a_ren (P := Dd I) (Dd.fm (fh4) (Fm.up (Fm.rf (s := sU)) rfl)) (fun I25 f26 => ?_)
    have s26 := Dd.so hs f26; have l26 := Dd.lw hw f26; have g26 := Dd.lg lg f26
    refine a_i3 rfl rfl rfl ?_
    refine a_goto rfl ?_
    exact ih4 _ _ _ _ c7 ⟨_, rfl, rfl, f26⟩ ⟨rfl, rfl, rfl, nS _, trivial⟩
theorem r_X12_goesOn {S : aS} {I : Nat → Nat → Int32} {L : Nat → Nat → Int64} {w1 w2 t : Nat} {x1 : Int32} {b2 : Bool} {nd np : Nat} (hs : SO nd np (I 421)) (hw : LwW (I 421)) (lg : LgW (I 421)) : Sp S m_X12_goesOn 23 0 0 [.ref 420, .int x1, .int (bI b2)] (hp I L w1 w2 t) (QR (Dd I) isI L w1 w2 t) nX := by
  refine Sp_of ok_X12_goesOn rfl rfl ?_
  show AW S m_X12_goesOn 23 _ _ 0 0 0 [some (.ref 420), some (.int x1), some (.int (bI b2)), none, none] [] (hp I L w1 w2 t)
  refine a_s rfl rfl ?_
  refine a_s3 rfl rfl rfl rfl rfl rfl ?_
  refine a_s rfl rfl ?_
  refine a_s4 rfl rfl rfl rfl rfl rfl ?_
  refine a_cnt (j0 := 0) (fun j ls h => ∃ a0, ∃ I', ls = [some (.ref 420), some (.int x1), some (.int (bI b2)), some (.int a0), some (.int (nI j))] ∧ h = hp I' L w1 w2 t ∧ Dd I I') (by decide) ⟨_, _, rfl, rfl, Dd.rf⟩ ⟨rfl, rfl, rfl, rfl, rfl, trivial⟩ ?_
  rintro j5 _ _ hj5 ⟨a0_5, Ih5, rfl, rfl, fh5⟩ ih5
  have sh5 := Dd.so hs fh5; have lh5 := Dd.lw hw fh5; have gh5 := Dd.lg lg fh5
  refine a_l4 rfl rfl rfl ?_
  refine a_l1 rfl rfl rfl ?_
  refine a_ic_ge rfl (fun c8 => ?_) (fun c8 => ?_)
  · refine a_l3 rfl rfl rfl ?_
    exact a_iret rfl rfl ⟨⟨_, rfl⟩, _, rfl, fh5⟩
  · refine a_l3 rfl rfl rfl ?_
    refine a_l0 rfl rfl rfl ?_
    refine a_l2 rfl rfl rfl ?_
    refine a_gV rfl lX12_385 mo_X12_oneDay (r_X12_oneDay sh5 lh5 gh5) rfl rfl rfl ⟨12, _, rfl, rfl, rfl⟩ rfl (fun v' h' hv => ?_)
    obtain ⟨⟨v1, rfl⟩, I2, rfl, f3⟩ := hv
    replace f3 := Dd.tr (fh5) f3
    have s3 := Dd.so hs f3; have l3 := Dd.lw hw f3; have g3 := Dd.lg lg f3
    refine a_s rfl rfl ?_
    refine a_s3 rfl rfl rfl rfl rfl rfl ?_
    refine a_i4 rfl rfl rfl ?_
    refine a_goto rfl ?_
    exact ih5 _ _ _ _ c8 ⟨_, _, rfl, rfl, f3⟩ ⟨rfl, rfl, rfl, rfl, nS _, trivial⟩
theorem r_X12_allDuties {S : aS} {I : Nat → Nat → Int32} {L : Nat → Nat → Int64} {w1 w2 t : Nat} {nd np : Nat} (hs : SO nd np (I 421)) (hw : LwW (I 421)) (lg : LgW (I 421)) : Sp S m_X12_allDuties 13 0 0 [.ref 420] (hp I L w1 w2 t) (QE isI (hp I L w1 w2 t)) nX := by
  refine Sp_of ok_X12_allDuties rfl rfl ?_
  show AW S m_X12_allDuties 13 _ _ 0 0 0 [some (.ref 420)] [] (hp I L w1 w2 t)
  refine a_s rfl rfl ?_
  refine a_l0 rfl rfl rfl ?_
  refine a_eV1 rfl lX12_74 mo_X12_duties (sp_X12_duties) rfl rfl rfl ⟨12, _, rfl, rfl, rfl⟩ rfl ?_
  refine a_top (y := nI nd) hs.du ?_
  refine a_s rfl rfl ?_
  refine a_s rfl rfl ?_
  refine a_s rfl rfl ?_
  exact a_iret rfl rfl ⟨⟨_, rfl⟩, rfl⟩
theorem r_X12_overIn {S : aS} {I0 I : Nat → Nat → Int32} {L : Nat → Nat → Int64} {w1 w2 t : Nat} {nd np : Nat} (hs : SO nd np (I0 421)) (hw : LwW (I0 421)) (lg : LgW (I0 421)) (hk : Kp nd np I0 I) {x1 : Int32} {b2 : Bool} : Sp S m_X12_overIn 23 0 0 [.ref 420, .int x1, .int (bI b2)] (hp I L w1 w2 t) (QR (Fm sV I0) isI L w1 w2 t) nX := by
  have sK := Kp.so hk
  have lK := Kp.lw hk
  have gK := Kp.lg hk
  refine Sp_of ok_X12_overIn rfl rfl ?_
  show AW S m_X12_overIn 23 _ _ 0 0 0 [some (.ref 420), some (.int x1), some (.int (bI b2)), none, none, none] [] (hp I L w1 w2 t)
  refine a_ldcw rfl kX12_401 ?_
  refine a_s3 rfl rfl rfl rfl rfl rfl ?_
  refine a_s rfl rfl ?_
  refine a_s4 rfl rfl rfl rfl rfl rfl ?_
  refine a_cnt (j0 := 0) (fun j ls h => ∃ a0, ∃ I', ls = [some (.ref 420), some (.int x1), some (.int (bI b2)), some (.int a0), some (.int (nI j)), none] ∧ h = hp I' L w1 w2 t ∧ Kp nd np I0 I') (by decide) ⟨_, _, rfl, rfl, hk⟩ ⟨rfl, rfl, rfl, rfl, rfl, trivial⟩ ?_
  rintro j7 _ _ hj7 ⟨a0_7, Ih7, rfl, rfl, fh7⟩ ih7
  have sh7 := Kp.so fh7; have lh7 := Kp.lw fh7; have gh7 := Kp.lg fh7
  refine a_l4 rfl rfl rfl ?_
  refine a_s rfl rfl ?_
  refine a_ic_gt rfl (fun c11 => ?_) (fun c11 => ?_)
  · refine a_l0 rfl rfl rfl ?_
    refine a_eV0 rfl lX12_398 mo_X12_bringsBack (sp_X12_bringsBack) rfl rfl rfl ⟨12, _, rfl, rfl, rfl⟩ rfl ?_
    refine a_ren (P := Fm sV I0) (Kp.bk (fh7)) (fun I1 f2 => ?_)
    have s2 := SO.fm hs f2; have l2 := LwW.fm hw f2; have g2 := LgW.fm lg f2
    refine a_l3 rfl rfl rfl ?_
    exact a_iret rfl rfl ⟨⟨_, rfl⟩, _, rfl, f2⟩
  · refine a_l3 rfl rfl rfl ?_
    refine a_ldcw rfl kX12_401 ?_
    refine a_ic_ne rfl (fun c18 => ?_) (fun c18 => ?_)
    · refine a_l0 rfl rfl rfl ?_
      refine a_eV0 rfl lX12_398 mo_X12_bringsBack (sp_X12_bringsBack) rfl rfl rfl ⟨12, _, rfl, rfl, rfl⟩ rfl ?_
      refine a_ren (P := Fm sV I0) (Kp.bk (fh7)) (fun I3 f4 => ?_)
      have s4 := SO.fm hs f4; have l4 := LwW.fm hw f4; have g4 := LgW.fm lg f4
      refine a_l3 rfl rfl rfl ?_
      exact a_iret rfl rfl ⟨⟨_, rfl⟩, _, rfl, f4⟩
    · refine a_l2 rfl rfl rfl ?_
      refine a_if_eq rfl (fun c22 => ?_) (fun c22 => ?_)
      · refine a_l1 rfl rfl rfl ?_
        refine a_l0 rfl rfl rfl ?_
        refine a_s rfl rfl ?_
        refine a_eV1 rfl lX12_324 mo_X12_ofState (sp_X12_ofState sh7.n sh7.du) rfl rfl rfl ⟨12, _, rfl, rfl, rfl⟩ rfl ?_
        refine a_topE (bs_nI12 sh7.n) (fun mc5 hmc5 => ?_)
        refine a_s rfl rfl ?_
        refine a_s5 rfl rfl rfl rfl rfl rfl ?_
        refine a_l5 rfl rfl rfl ?_
        refine a_if_ne rfl (fun c48 => ?_) (fun c48 => ?_)
        · refine a_ldcw rfl kX12_401 ?_
          refine a_s3 rfl rfl rfl rfl rfl rfl ?_
          refine a_l0 rfl rfl rfl ?_
          refine a_s rfl rfl ?_
          refine a_gV rfl lX12_385 mo_X12_oneDay (r_X12_oneDay sh7 lh7 gh7 (b1 := true)) rfl rfl rfl ⟨12, _, rfl, rfl, rfl⟩ rfl (fun v' h' hv => ?_)
          obtain ⟨⟨v6, rfl⟩, I7, rfl, f8⟩ := hv
          replace f8 := Kp.dd (fh7) f8
          have s8 := Kp.so f8; have l8 := Kp.lw f8; have g8 := Kp.lg f8
          refine a_s rfl rfl ?_
          refine a_i4 rfl rfl rfl ?_
          refine a_goto rfl ?_
          exact ih7 _ _ _ _ (nI_gt1 (a := 90) (by decide) hj7 c11) ⟨_, _, rfl, rfl, f8⟩ ⟨rfl, rfl, rfl, rfl, nS _, trivial⟩
        · refine a_l4 rfl rfl rfl ?_
          refine a_goto rfl ?_
          refine a_s3 rfl rfl rfl rfl rfl rfl ?_
          refine a_l0 rfl rfl rfl ?_
          refine a_s rfl rfl ?_
          refine a_gV rfl lX12_385 mo_X12_oneDay (r_X12_oneDay sh7 lh7 gh7 (b1 := true)) rfl rfl rfl ⟨12, _, rfl, rfl, rfl⟩ rfl (fun v' h' hv => ?_)
          obtain ⟨⟨v9, rfl⟩, I10, rfl, f11⟩ := hv
          replace f11 := Kp.dd (fh7) f11
          have s11 := Kp.so f11; have l11 := Kp.lw f11; have g11 := Kp.lg f11
          refine a_s rfl rfl ?_
          refine a_i4 rfl rfl rfl ?_
          refine a_goto rfl ?_
          exact ih7 _ _ _ _ (nI_gt1 (a := 90) (by decide) hj7 c11) ⟨_, _, rfl, rfl, f11⟩ ⟨rfl, rfl, rfl, rfl, nS _, trivial⟩
      · refine a_l1 rfl rfl rfl ?_
        refine a_l0 rfl rfl rfl ?_
        refine a_s rfl rfl ?_
        refine a_eV1 rfl lX12_324 mo_X12_ofState (sp_X12_ofState sh7.n sh7.du) rfl rfl rfl ⟨12, _, rfl, rfl, rfl⟩ rfl ?_
        refine a_topE (bs_nI12 sh7.n) (fun mc12 hmc12 => ?_)
        refine a_s rfl rfl ?_
        refine a_s rfl rfl ?_
        refine a_s rfl rfl ?_
        refine a_goto rfl ?_
        refine a_s5 rfl rfl rfl rfl rfl rfl ?_
        refine a_l5 rfl rfl rfl ?_
        refine a_if_ne rfl (fun c48 => ?_) (fun c48 => ?_)
        · refine a_ldcw rfl kX12_401 ?_
          refine a_s3 rfl rfl rfl rfl rfl rfl ?_
          refine a_l0 rfl rfl rfl ?_
          refine a_s rfl rfl ?_
          refine a_gV rfl lX12_385 mo_X12_oneDay (r_X12_oneDay sh7 lh7 gh7 (b1 := true)) rfl rfl rfl ⟨12, _, rfl, rfl, rfl⟩ rfl (fun v' h' hv => ?_)
          obtain ⟨⟨v13, rfl⟩, I14, rfl, f15⟩ := hv
          replace f15 := Kp.dd (fh7) f15
          have s15 := Kp.so f15; have l15 := Kp.lw f15; have g15 := Kp.lg f15
          refine a_s rfl rfl ?_
          refine a_i4 rfl rfl rfl ?_
          refine a_goto rfl ?_
          exact ih7 _ _ _ _ (nI_gt1 (a := 90) (by decide) hj7 c11) ⟨_, _, rfl, rfl, f15⟩ ⟨rfl, rfl, rfl, rfl, nS _, trivial⟩
        · refine a_l4 rfl rfl rfl ?_
          refine a_goto rfl ?_
          refine a_s3 rfl rfl rfl rfl rfl rfl ?_
          refine a_l0 rfl rfl rfl ?_
          refine a_s rfl rfl ?_
          refine a_gV rfl lX12_385 mo_X12_oneDay (r_X12_oneDay sh7 lh7 gh7 (b1 := true)) rfl rfl rfl ⟨12, _, rfl, rfl, rfl⟩ rfl (fun v' h' hv => ?_)
          obtain ⟨⟨v16, rfl⟩, I17, rfl, f18⟩ := hv
          replace f18 := Kp.dd (fh7) f18
          have s18 := Kp.so f18; have l18 := Kp.lw f18; have g18 := Kp.lg f18
          refine a_s rfl rfl ?_
          refine a_i4 rfl rfl rfl ?_
          refine a_goto rfl ?_
          exact ih7 _ _ _ _ (nI_gt1 (a := 90) (by decide) hj7 c11) ⟨_, _, rfl, rfl, f18⟩ ⟨rfl, rfl, rfl, rfl, nS _, trivial⟩
theorem r_X12_overWith {S : aS} {I : Nat → Nat → Int32} {L : Nat → Nat → Int64} {w1 w2 t : Nat} {x2 : Int32} {nd np : Nat} (hs : SO nd np (I 421)) (hw : LwW (I 421)) (lg : LgW (I 421)) {i1 : Nat} (hi1 : i1 < np) : Sp S m_X12_overWith 24 0 0 [.ref 420, .int (nI i1), .int x2] (hp I L w1 w2 t) (QR (Fm sV I) isI L w1 w2 t) nX := by
  refine Sp_of ok_X12_overWith rfl rfl ?_
  show AW S m_X12_overWith 24 _ _ 0 0 0 [some (.ref 420), some (.int (nI i1)), some (.int x2)] [] (hp I L w1 w2 t)
  refine a_l0 rfl rfl rfl ?_
  refine a_eV0 rfl lX12_395 mo_X12_keepsAll (sp_X12_keepsAll) rfl rfl rfl ⟨12, _, rfl, rfl, rfl⟩ rfl ?_
  refine a_ren (P := Kp nd np I) (Kp.mk (Fm.rf) hs hw lg) (fun I1 f2 => ?_)
  have s2 := Kp.so f2; have l2 := Kp.lw f2; have g2 := Kp.lg f2
  refine a_l0 rfl rfl rfl ?_
  refine a_getq rfl gfX12_13_12 rfl (rfl) ?_
  refine a_l1 rfl rfl rfl ?_
  refine a_s rfl rfl ?_
  refine a_eS1 rfl lX12_56 mo_X12_personAt (sp_X12_personAt (d := i1) (k := 1)) rfl rfl rfl rfl ?_
  refine a_l2 rfl rfl rfl ?_
  refine a_iastv (k := (11 + 2 * i1 + 1)) rfl (n := 2033) rfl (inI_nI (by have := hs.n; have := hs.p; omega) (by have := hs.n; have := hs.p; omega)) (nI_clamp (by have := hs.n; have := hs.p; omega)) ?_
  refine a_ren (P := Kp nd np I) (Kp.fr (f2) hi1) (fun I3 f4 => ?_)
  have s4 := Kp.so f4; have l4 := Kp.lw f4; have g4 := Kp.lg f4
  refine a_l0 rfl rfl rfl ?_
  refine a_l0 rfl rfl rfl ?_
  refine a_gV rfl lX12_402 mo_X12_allDuties (r_X12_allDuties s4 l4 g4) rfl rfl rfl ⟨12, _, rfl, rfl, rfl⟩ rfl (fun v' h' hv => ?_)
  obtain ⟨⟨v5, rfl⟩, rfl⟩ := hv
  refine a_s rfl rfl ?_
  refine a_gV rfl lX12_405 mo_X12_overIn (r_X12_overIn (I0 := I) hs hw lg f4 (b2 := false)) rfl rfl rfl ⟨12, _, rfl, rfl, rfl⟩ rfl (fun v' h' hv => ?_)
  obtain ⟨⟨v8, rfl⟩, I6, rfl, f7⟩ := hv
  have s7 := SO.fm hs f7; have l7 := LwW.fm hw f7; have g7 := LgW.fm lg f7
  exact a_iret rfl rfl ⟨⟨_, rfl⟩, _, rfl, f7⟩
theorem r_X12_allOver {S : aS} {I : Nat → Nat → Int32} {L : Nat → Nat → Int64} {w1 w2 t : Nat} {nd np : Nat} (hs : SO nd np (I 421)) (hw : LwW (I 421)) (lg : LgW (I 421)) : Sp S m_X12_allOver 24 0 0 [.ref 420] (hp I L w1 w2 t) (QR (Fm sV I) isI L w1 w2 t) nX := by
  refine Sp_of ok_X12_allOver rfl rfl ?_
  show AW S m_X12_allOver 24 _ _ 0 0 0 [some (.ref 420)] [] (hp I L w1 w2 t)
  refine a_l0 rfl rfl rfl ?_
  refine a_eV0 rfl lX12_395 mo_X12_keepsAll (sp_X12_keepsAll) rfl rfl rfl ⟨12, _, rfl, rfl, rfl⟩ rfl ?_
  refine a_ren (P := Kp nd np I) (Kp.mk (Fm.rf) hs hw lg) (fun I1 f2 => ?_)
  have s2 := Kp.so f2; have l2 := Kp.lw f2; have g2 := Kp.lg f2
  refine a_l0 rfl rfl rfl ?_
  refine a_l0 rfl rfl rfl ?_
  refine a_gV rfl lX12_402 mo_X12_allDuties (r_X12_allDuties s2 l2 g2) rfl rfl rfl ⟨12, _, rfl, rfl, rfl⟩ rfl (fun v' h' hv => ?_)
  obtain ⟨⟨v3, rfl⟩, rfl⟩ := hv
  refine a_s rfl rfl ?_
  refine a_gV rfl lX12_405 mo_X12_overIn (r_X12_overIn (I0 := I) hs hw lg f2 (b2 := false)) rfl rfl rfl ⟨12, _, rfl, rfl, rfl⟩ rfl (fun v' h' hv => ?_)
  obtain ⟨⟨v6, rfl⟩, I4, rfl, f5⟩ := hv
  have s5 := SO.fm hs f5; have l5 := LwW.fm hw f5; have g5 := LgW.fm lg f5
  exact a_iret rfl rfl ⟨⟨_, rfl⟩, _, rfl, f5⟩
theorem r_X12_ringOnes {S : aS} {I : Nat → Nat → Int32} {L : Nat → Nat → Int64} {w1 w2 t : Nat} {nd np : Nat} (hs : SO nd np (I 421)) (hw : LwW (I 421)) (lg : LgW (I 421)) : Sp S m_X12_ringOnes 15 0 0 [.ref 420] (hp I L w1 w2 t) (QE isI (hp I L w1 w2 t)) nX := by
  refine Sp_of ok_X12_ringOnes rfl rfl ?_
  show AW S m_X12_ringOnes 15 _ _ 0 0 0 [some (.ref 420), none, none] [] (hp I L w1 w2 t)
  refine a_s rfl rfl ?_
  refine a_s1 rfl rfl rfl rfl rfl rfl ?_
  refine a_s rfl rfl ?_
  refine a_s2 rfl rfl rfl rfl rfl rfl ?_
  refine a_cnt (j0 := 0) (fun j ls h => ∃ a0, ls = [some (.ref 420), some (.int a0), some (.int (nI j))] ∧ h = hp I L w1 w2 t) (by decide) ⟨_, rfl, rfl⟩ ⟨rfl, rfl, rfl, trivial⟩ ?_
  rintro j4 _ _ hj4 ⟨a0_4, rfl, rfl⟩ ih4
  refine a_l2 rfl rfl rfl ?_
  refine a_l0 rfl rfl rfl ?_
  refine a_eV1 rfl lX12_74 mo_X12_duties (sp_X12_duties) rfl rfl rfl ⟨12, _, rfl, rfl, rfl⟩ rfl ?_
  refine a_top (y := nI nd) hs.du ?_
  refine a_ic_ge rfl (fun c9 => ?_) (fun c9 => ?_)
  · refine a_l1 rfl rfl rfl ?_
    exact a_iret rfl rfl ⟨⟨_, rfl⟩, rfl⟩
  · have hd4 : j4 < nd := nI_lt_of c9 hj4 (by have := hs.n; omega)
    refine a_l1 rfl rfl rfl ?_
    refine a_l0 rfl rfl rfl ?_
    refine a_l2 rfl rfl rfl ?_
    refine a_gV rfl lX12_417 mo_X12_beforeOf (r_X12_beforeOf hs hw lg hd4) rfl rfl rfl ⟨12, _, rfl, rfl, rfl⟩ rfl (fun v' h' hv => ?_)
    obtain ⟨⟨v1, rfl⟩, rfl⟩ := hv
    refine a_l2 rfl rfl rfl ?_
    refine a_gS rfl lX12_304 mo_X12_has (r_X12_has) rfl rfl rfl rfl (fun v' h' hv => ?_)
    obtain ⟨⟨v2, rfl⟩, rfl⟩ := hv
    refine a_if_eq rfl (fun c22 => ?_) (fun c22 => ?_)
    · refine a_s rfl rfl ?_
      refine a_s rfl rfl ?_
      refine a_s1 rfl rfl rfl rfl rfl rfl ?_
      refine a_i2 rfl rfl rfl ?_
      refine a_goto rfl ?_
      exact ih4 _ _ _ _ c9 ⟨_, rfl, rfl⟩ ⟨rfl, rfl, nS _, trivial⟩
    · refine a_s rfl rfl ?_
      refine a_l2 rfl rfl rfl ?_
      refine a_s rfl rfl ?_
      refine a_goto rfl ?_
      refine a_s rfl rfl ?_
      refine a_s1 rfl rfl rfl rfl rfl rfl ?_
      refine a_i2 rfl rfl rfl ?_
      refine a_goto rfl ?_
      exact ih4 _ _ _ _ c9 ⟨_, rfl, rfl⟩ ⟨rfl, rfl, nS _, trivial⟩
theorem r_X12_soonOf {S : aS} {I : Nat → Nat → Int32} {L : Nat → Nat → Int64} {w1 w2 t : Nat} {nd np : Nat} (hs : SO nd np (I 421)) (hw : LwW (I 421)) (lg : LgW (I 421)) {i1 : Nat} (hi1 : i1 < nd) : Sp S m_X12_soonOf 16 0 0 [.ref 420, .int (nI i1)] (hp I L w1 w2 t) (QE isI (hp I L w1 w2 t)) nX := by
  refine Sp_of ok_X12_soonOf rfl rfl ?_
  show AW S m_X12_soonOf 16 _ _ 0 0 0 [some (.ref 420), some (.int (nI i1)), none] [] (hp I L w1 w2 t)
  refine a_l0 rfl rfl rfl ?_
  refine a_l1 rfl rfl rfl ?_
  refine a_eV1 rfl lX12_135 mo_X12_isWaiting (sp_X12_isWaiting (d := i1) (Nat.lt_of_lt_of_le hi1 hs.n)) rfl rfl rfl ⟨12, _, rfl, rfl, rfl⟩ rfl ?_
  refine a_if_ne rfl (fun c5 => ?_) (fun c5 => ?_)
  · refine a_l0 rfl rfl rfl ?_
    refine a_l1 rfl rfl rfl ?_
    refine a_gV rfl lX12_423 mo_X12_chainOf (r_X12_chainOf hs hw lg hi1) rfl rfl rfl ⟨12, _, rfl, rfl, rfl⟩ rfl (fun v' h' hv => ?_)
    obtain ⟨⟨v1, rfl⟩, rfl⟩ := hv
    refine a_s2 rfl rfl rfl rfl rfl rfl ?_
    refine a_l2 rfl rfl rfl ?_
    refine a_s rfl rfl ?_
    refine a_ic_ne rfl (fun c18 => ?_) (fun c18 => ?_)
    · refine a_l0 rfl rfl rfl ?_
      refine a_l2 rfl rfl rfl ?_
      refine a_eV1 rfl lX12_330 mo_X12_hoursOf (sp_X12_hoursOf hs.n hs.du) rfl rfl rfl ⟨12, _, rfl, rfl, rfl⟩ rfl ?_
      exact a_iret rfl rfl ⟨⟨_, rfl⟩, rfl⟩
    · refine a_s rfl rfl ?_
      refine a_goto rfl ?_
      exact a_iret rfl rfl ⟨⟨_, rfl⟩, rfl⟩
  · refine a_s rfl rfl ?_
    exact a_iret rfl rfl ⟨⟨_, rfl⟩, rfl⟩
theorem r_X12_fault {S : aS} {I : Nat → Nat → Int32} {L : Nat → Nat → Int64} {w1 w2 t : Nat} {nd np : Nat} (hs : SO nd np (I 421)) (hw : LwW (I 421)) (lg : LgW (I 421)) : Sp S m_X12_fault 12 0 0 [.ref 420] (hp I L w1 w2 t) (QR (Fm sU I) isI L w1 w2 t) nX := by
  refine Sp_of ok_X12_fault rfl rfl ?_
  show AW S m_X12_fault 12 _ _ 0 0 0 [some (.ref 420)] [] (hp I L w1 w2 t)
  refine a_l0 rfl rfl rfl ?_
  refine a_s rfl rfl ?_
  refine a_puti rfl pfX12_3_12 rfl ?_
  refine a_ren (P := Fm sU I) (Fm.up (Fm.rf (s := sU)) rfl) (fun I1 f2 => ?_)
  have s2 := SO.fm hs (Fm.mo f2 sU_sV); have l2 := LwW.fm hw (Fm.mo f2 sU_sV); have g2 := LgW.fm lg (Fm.mo f2 sU_sV)
  refine a_l0 rfl rfl rfl ?_
  refine a_geti rfl gfX12_33_12 rfl ?_
  exact a_iret rfl rfl ⟨⟨_, rfl⟩, _, rfl, f2⟩
theorem r_X12_parade {S : aS} {I : Nat → Nat → Int32} {L : Nat → Nat → Int64} {w1 w2 t : Nat} {x1 : Int32} {nd np : Nat} (hs : SO nd np (I 421)) (hw : LwW (I 421)) (lg : LgW (I 421)) : Sp S m_X12_parade 16 0 0 [.ref 420, .int x1] (hp I L w1 w2 t) (QR (Fm sU I) isI L w1 w2 t) nX := by
  refine Sp_of ok_X12_parade rfl rfl ?_
  show AW S m_X12_parade 16 _ _ 0 0 0 [some (.ref 420), some (.int x1), none] [] (hp I L w1 w2 t)
  refine a_l0 rfl rfl rfl ?_
  refine a_s rfl rfl ?_
  refine a_puti rfl pfX12_3_12 rfl ?_
  refine a_ren (P := Fm sU I) (Fm.up (Fm.rf (s := sU)) rfl) (fun I1 f2 => ?_)
  have s2 := SO.fm hs (Fm.mo f2 sU_sV); have l2 := LwW.fm hw (Fm.mo f2 sU_sV); have g2 := LgW.fm lg (Fm.mo f2 sU_sV)
  refine a_s rfl rfl ?_
  refine a_s2 rfl rfl rfl rfl rfl rfl ?_
  refine a_cnt (j0 := 0) (fun j ls h => ∃ I', ls = [some (.ref 420), some (.int x1), some (.int (nI j))] ∧ h = hp I' L w1 w2 t ∧ Fm sU I I') (by decide) ⟨_, rfl, rfl, f2⟩ ⟨rfl, rfl, rfl, trivial⟩ ?_
  rintro j7 _ _ hj7 ⟨Ih7, rfl, rfl, fh7⟩ ih7
  have sh7 := SO.fm hs (Fm.mo fh7 sU_sV); have lh7 := LwW.fm hw (Fm.mo fh7 sU_sV); have gh7 := LgW.fm lg (Fm.mo fh7 sU_sV)
  refine a_l2 rfl rfl rfl ?_
  refine a_l0 rfl rfl rfl ?_
  refine a_eV1 rfl lX12_74 mo_X12_duties (sp_X12_duties) rfl rfl rfl ⟨12, _, rfl, rfl, rfl⟩ rfl ?_
  refine a_top (y := nI nd) sh7.du ?_
  refine a_ic_ge rfl (fun c12 => ?_) (fun c12 => ?_)
  · refine a_s rfl rfl ?_
    exact a_iret rfl rfl ⟨⟨_, rfl⟩, _, rfl, fh7⟩
  · have hd7 : j7 < nd := nI_lt_of c12 hj7 (by have := hs.n; omega)
    refine a_l1 rfl rfl rfl ?_
    refine a_if_lt rfl (fun c16 => ?_) (fun c16 => ?_)
    · refine a_i2 rfl rfl rfl ?_
      refine a_goto rfl ?_
      exact ih7 _ _ _ _ c12 ⟨_, rfl, rfl, fh7⟩ ⟨rfl, rfl, nS _, trivial⟩
    · refine a_l0 rfl rfl rfl ?_
      refine a_l2 rfl rfl rfl ?_
      refine a_eV1 rfl lX12_283 mo_X12_placeOf (sp_X12_placeOf sh7.n sh7.du hd7) rfl rfl rfl ⟨12, _, rfl, rfl, rfl⟩ rfl ?_
      refine a_l1 rfl rfl rfl ?_
      refine a_ic_ne rfl (fun c25 => ?_) (fun c25 => ?_)
      · refine a_i2 rfl rfl rfl ?_
        refine a_goto rfl ?_
        exact ih7 _ _ _ _ c12 ⟨_, rfl, rfl, fh7⟩ ⟨rfl, rfl, nS _, trivial⟩
      · refine a_l2 rfl rfl rfl ?_
        exact a_iret rfl rfl ⟨⟨_, rfl⟩, _, rfl, fh7⟩
theorem r_X12_can {S : aS} {I : Nat → Nat → Int32} {L : Nat → Nat → Int64} {w1 w2 t : Nat} {nd np : Nat} (hs : SO nd np (I 421)) (hw : LwW (I 421)) (lg : LgW (I 421)) : Sp S m_X12_can 19 0 0 [.ref 420] (hp I L w1 w2 t) (QR (Fm sU I) isI L w1 w2 t) nX := by
  refine Sp_of ok_X12_can rfl rfl ?_
  show AW S m_X12_can 19 _ _ 0 0 0 [some (.ref 420)] [] (hp I L w1 w2 t)
  refine a_l0 rfl rfl rfl ?_
  refine a_s rfl rfl ?_
  refine a_puti rfl pfX12_3_12 rfl ?_
  refine a_ren (P := Fm sU I) (Fm.up (Fm.rf (s := sU)) rfl) (fun I1 f2 => ?_)
  have s2 := SO.fm hs (Fm.mo f2 sU_sV); have l2 := LwW.fm hw (Fm.mo f2 sU_sV); have g2 := LgW.fm lg (Fm.mo f2 sU_sV)
  refine a_l0 rfl rfl rfl ?_
  refine a_eV1 rfl lX12_286 mo_X12_canOnes (sp_X12_canOnes s2.n s2.du s2.l) rfl rfl rfl ⟨12, _, rfl, rfl, rfl⟩ rfl ?_
  refine a_topE (bs_nI12 s2.n) (fun mc3 hmc3 => ?_)
  exact a_iret rfl rfl ⟨⟨_, rfl⟩, _, rfl, f2⟩
theorem r_X12_greets {S : aS} {I : Nat → Nat → Int32} {L : Nat → Nat → Int64} {w1 w2 t : Nat} {x1 x2 : Int32} {nd np : Nat} (hs : SO nd np (I 421)) (hw : LwW (I 421)) (lg : LgW (I 421)) : Sp S m_X12_greets 16 0 0 [.ref 420, .int x1, .int x2] (hp I L w1 w2 t) (QR (Fm sU I) isI L w1 w2 t) nX := by
  refine Sp_of ok_X12_greets rfl rfl ?_
  show AW S m_X12_greets 16 _ _ 0 0 0 [some (.ref 420), some (.int x1), some (.int x2)] [] (hp I L w1 w2 t)
  refine a_l0 rfl rfl rfl ?_
  refine a_s rfl rfl ?_
  refine a_puti rfl pfX12_3_12 rfl ?_
  refine a_ren (P := Fm sU I) (Fm.up (Fm.rf (s := sU)) rfl) (fun I1 f2 => ?_)
  have s2 := SO.fm hs (Fm.mo f2 sU_sV); have l2 := LwW.fm hw (Fm.mo f2 sU_sV); have g2 := LgW.fm lg (Fm.mo f2 sU_sV)
  refine a_l0 rfl rfl rfl ?_
  refine a_l0 rfl rfl rfl ?_
  refine a_l1 rfl rfl rfl ?_
  refine a_eV1 rfl lX12_289 mo_X12_noDuty (r_X12_noDuty s2) rfl rfl rfl ⟨12, _, rfl, rfl, rfl⟩ rfl ?_
  refine a_if_ne rfl (fun c11 => ?_) (fun c11 => ?_)
  · refine a_s rfl rfl ?_
    refine a_goto rfl ?_
    refine a_s rfl rfl ?_
    refine a_gV rfl lX12_243 mo_X12_throwsIf (r_X12_throwsIf (b := true)) rfl rfl rfl ⟨12, _, rfl, rfl, rfl⟩ rfl (fun v' h' hv => ?_)
    obtain ⟨rfl, I3, rfl, f4⟩ := hv
    replace f4 : Fm sU I I3 := Fm.tr (f2) (f4)
    have s4 := SO.fm hs (Fm.mo f4 sU_sV); have l4 := LwW.fm hw (Fm.mo f4 sU_sV); have g4 := LgW.fm lg (Fm.mo f4 sU_sV)
    refine a_if_eq rfl (fun c => absurd c (by decide)) (fun _ => ?_)
    refine a_s rfl rfl ?_
    exact a_iret rfl rfl ⟨⟨_, rfl⟩, _, rfl, f4⟩
  · obtain ⟨i5, hi5, rfl⟩ := isIx (n := nd) (by have := hs.n; have := hs.p; omega) c11
    refine a_l2 rfl rfl rfl ?_
    refine a_eS1 rfl lX12_292 mo_X12_noKerb (sp_X12_noKerb) rfl rfl rfl rfl ?_
    refine a_if_eq rfl (fun c18 => ?_) (fun c18 => ?_)
    · refine a_s rfl rfl ?_
      refine a_s rfl rfl ?_
      refine a_gV rfl lX12_243 mo_X12_throwsIf (r_X12_throwsIf (b := false)) rfl rfl rfl ⟨12, _, rfl, rfl, rfl⟩ rfl (fun v' h' hv => ?_)
      obtain ⟨rfl, I6, rfl, f7⟩ := hv
      replace f7 : Fm sU I I6 := Fm.tr (f2) (f7)
      have s7 := SO.fm hs (Fm.mo f7 sU_sV); have l7 := LwW.fm hw (Fm.mo f7 sU_sV); have g7 := LgW.fm lg (Fm.mo f7 sU_sV)
      refine a_if_eq rfl (fun _ => ?_) (fun c => absurd (by decide) c)
      refine a_l0 rfl rfl rfl ?_
      refine a_l1 rfl rfl rfl ?_
      refine a_eV1 rfl lX12_135 mo_X12_isWaiting (sp_X12_isWaiting (d := i5) (Nat.lt_of_lt_of_le hi5 s7.n)) rfl rfl rfl ⟨12, _, rfl, rfl, rfl⟩ rfl ?_
      refine a_if_eq rfl (fun c40 => ?_) (fun c40 => ?_)
      · refine a_s rfl rfl ?_
        exact a_iret rfl rfl ⟨⟨_, rfl⟩, _, rfl, f7⟩
      · refine a_l0 rfl rfl rfl ?_
        refine a_getq rfl gfX12_13_12 rfl (rfl) ?_
        refine a_s rfl rfl ?_
        refine a_iald rfl (n := 2033) rfl (⟨by decide, by decide⟩) ?_
        refine a_l0 rfl rfl rfl ?_
        refine a_l1 rfl rfl rfl ?_
        refine a_eV1 rfl lX12_283 mo_X12_placeOf (sp_X12_placeOf s7.n s7.du hi5) rfl rfl rfl ⟨12, _, rfl, rfl, rfl⟩ rfl ?_
        refine a_l2 rfl rfl rfl ?_
        refine a_s rfl rfl ?_
        refine a_s rfl rfl ?_
        refine a_goto rfl ?_
        exact a_iret rfl rfl ⟨⟨_, rfl⟩, _, rfl, f7⟩
    · refine a_s rfl rfl ?_
      refine a_goto rfl ?_
      refine a_s rfl rfl ?_
      refine a_gV rfl lX12_243 mo_X12_throwsIf (r_X12_throwsIf (b := true)) rfl rfl rfl ⟨12, _, rfl, rfl, rfl⟩ rfl (fun v' h' hv => ?_)
      obtain ⟨rfl, I8, rfl, f9⟩ := hv
      replace f9 : Fm sU I I8 := Fm.tr (f2) (f9)
      have s9 := SO.fm hs (Fm.mo f9 sU_sV); have l9 := LwW.fm hw (Fm.mo f9 sU_sV); have g9 := LgW.fm lg (Fm.mo f9 sU_sV)
      refine a_if_eq rfl (fun c => absurd c (by decide)) (fun _ => ?_)
      refine a_s rfl rfl ?_
      exact a_iret rfl rfl ⟨⟨_, rfl⟩, _, rfl, f9⟩
theorem r_X12_where {S : aS} {I : Nat → Nat → Int32} {L : Nat → Nat → Int64} {w1 w2 t : Nat} {x1 x2 : Int32} {nd np : Nat} (hs : SO nd np (I 421)) (hw : LwW (I 421)) (lg : LgW (I 421)) : Sp S m_X12_where 17 0 0 [.ref 420, .int x1, .int x2] (hp I L w1 w2 t) (QR (Fm sU I) isI L w1 w2 t) nX := by
  refine Sp_of ok_X12_where rfl rfl ?_
  show AW S m_X12_where 17 _ _ 0 0 0 [some (.ref 420), some (.int x1), some (.int x2)] [] (hp I L w1 w2 t)
  refine a_l0 rfl rfl rfl ?_
  refine a_s rfl rfl ?_
  refine a_puti rfl pfX12_3_12 rfl ?_
  refine a_ren (P := Fm sU I) (Fm.up (Fm.rf (s := sU)) rfl) (fun I1 f2 => ?_)
  have s2 := SO.fm hs (Fm.mo f2 sU_sV); have l2 := LwW.fm hw (Fm.mo f2 sU_sV); have g2 := LgW.fm lg (Fm.mo f2 sU_sV)
  refine a_l0 rfl rfl rfl ?_
  refine a_l0 rfl rfl rfl ?_
  refine a_l1 rfl rfl rfl ?_
  refine a_eV1 rfl lX12_289 mo_X12_noDuty (r_X12_noDuty s2) rfl rfl rfl ⟨12, _, rfl, rfl, rfl⟩ rfl ?_
  refine a_s rfl rfl ?_
  refine a_gV rfl lX12_243 mo_X12_throwsIf (r_X12_throwsIf) rfl rfl rfl ⟨12, _, rfl, rfl, rfl⟩ rfl (fun v' h' hv => ?_)
  obtain ⟨rfl, I3, rfl, f4⟩ := hv
  replace f4 : Fm sU I I3 := Fm.tr (f2) (f4)
  have s4 := SO.fm hs (Fm.mo f4 sU_sV); have l4 := LwW.fm hw (Fm.mo f4 sU_sV); have g4 := LgW.fm lg (Fm.mo f4 sU_sV)
  refine a_if_ne rfl (fun c15 => ?_) (fun c15 => ?_)
  · refine a_s rfl rfl ?_
    refine a_goto rfl ?_
    exact a_iret rfl rfl ⟨⟨_, rfl⟩, _, rfl, f4⟩
  · obtain ⟨i5, hi5, rfl⟩ := isIx (n := nd) (by have := hs.n; have := hs.p; omega) c15
    refine a_l0 rfl rfl rfl ?_
    refine a_l2 rfl rfl rfl ?_
    refine a_eS1 rfl lX12_298 mo_X12_noHour (sp_X12_noHour) rfl rfl rfl rfl ?_
    refine a_s rfl rfl ?_
    refine a_gV rfl lX12_243 mo_X12_throwsIf (r_X12_throwsIf) rfl rfl rfl ⟨12, _, rfl, rfl, rfl⟩ rfl (fun v' h' hv => ?_)
    obtain ⟨rfl, I6, rfl, f7⟩ := hv
    replace f7 : Fm sU I I6 := Fm.tr (f4) (f7)
    have s7 := SO.fm hs (Fm.mo f7 sU_sV); have l7 := LwW.fm hw (Fm.mo f7 sU_sV); have g7 := LgW.fm lg (Fm.mo f7 sU_sV)
    refine a_if_eq rfl (fun c27 => ?_) (fun c27 => ?_)
    · refine a_l0 rfl rfl rfl ?_
      refine a_l1 rfl rfl rfl ?_
      refine a_l2 rfl rfl rfl ?_
      refine a_eV1 rfl lX12_301 mo_X12_whereAt (sp_X12_whereAt s7.n s7.du hi5 s7.h7) rfl rfl rfl ⟨12, _, rfl, rfl, rfl⟩ rfl ?_
      exact a_iret rfl rfl ⟨⟨_, rfl⟩, _, rfl, f7⟩
    · refine a_s rfl rfl ?_
      refine a_goto rfl ?_
      exact a_iret rfl rfl ⟨⟨_, rfl⟩, _, rfl, f7⟩
theorem r_X12_crowd {S : aS} {I : Nat → Nat → Int32} {L : Nat → Nat → Int64} {w1 w2 t : Nat} {x1 x2 x3 : Int32} {nd np : Nat} (hs : SO nd np (I 421)) (hw : LwW (I 421)) (lg : LgW (I 421)) : Sp S m_X12_crowd 17 0 0 [.ref 420, .int x1, .int x2, .int x3] (hp I L w1 w2 t) (QR (Fm sU I) isI L w1 w2 t) nX := by
  refine Sp_of ok_X12_crowd rfl rfl ?_
  show AW S m_X12_crowd 17 _ _ 0 0 0 [some (.ref 420), some (.int x1), some (.int x2), some (.int x3), none, none] [] (hp I L w1 w2 t)
  refine a_l0 rfl rfl rfl ?_
  refine a_s rfl rfl ?_
  refine a_puti rfl pfX12_3_12 rfl ?_
  refine a_ren (P := Fm sU I) (Fm.up (Fm.rf (s := sU)) rfl) (fun I1 f2 => ?_)
  have s2 := SO.fm hs (Fm.mo f2 sU_sV); have l2 := LwW.fm hw (Fm.mo f2 sU_sV); have g2 := LgW.fm lg (Fm.mo f2 sU_sV)
  refine a_l0 rfl rfl rfl ?_
  refine a_l1 rfl rfl rfl ?_
  refine a_eS1 rfl lX12_292 mo_X12_noKerb (sp_X12_noKerb) rfl rfl rfl rfl ?_
  refine a_if_ne rfl (fun c10 => ?_) (fun c10 => ?_)
  · refine a_s rfl rfl ?_
    refine a_goto rfl ?_
    refine a_s rfl rfl ?_
    refine a_gV rfl lX12_243 mo_X12_throwsIf (r_X12_throwsIf (b := true)) rfl rfl rfl ⟨12, _, rfl, rfl, rfl⟩ rfl (fun v' h' hv => ?_)
    obtain ⟨rfl, I3, rfl, f4⟩ := hv
    replace f4 : Fm sU I I3 := Fm.tr (f2) (f4)
    have s4 := SO.fm hs (Fm.mo f4 sU_sV); have l4 := LwW.fm hw (Fm.mo f4 sU_sV); have g4 := LgW.fm lg (Fm.mo f4 sU_sV)
    refine a_if_ne rfl (fun _ => ?_) (fun c => absurd c (by decide))
    refine a_s rfl rfl ?_
    exact a_iret rfl rfl ⟨⟨_, rfl⟩, _, rfl, f4⟩
  · refine a_l2 rfl rfl rfl ?_
    refine a_eS1 rfl lX12_292 mo_X12_noKerb (sp_X12_noKerb) rfl rfl rfl rfl ?_
    refine a_if_eq rfl (fun c17 => ?_) (fun c17 => ?_)
    · refine a_s rfl rfl ?_
      refine a_s rfl rfl ?_
      refine a_gV rfl lX12_243 mo_X12_throwsIf (r_X12_throwsIf (b := false)) rfl rfl rfl ⟨12, _, rfl, rfl, rfl⟩ rfl (fun v' h' hv => ?_)
      obtain ⟨rfl, I5, rfl, f6⟩ := hv
      replace f6 : Fm sU I I5 := Fm.tr (f2) (f6)
      have s6 := SO.fm hs (Fm.mo f6 sU_sV); have l6 := LwW.fm hw (Fm.mo f6 sU_sV); have g6 := LgW.fm lg (Fm.mo f6 sU_sV)
      refine a_if_ne rfl (fun c => absurd (by decide) c) (fun _ => ?_)
      refine a_l0 rfl rfl rfl ?_
      refine a_l3 rfl rfl rfl ?_
      refine a_eS1 rfl lX12_298 mo_X12_noHour (sp_X12_noHour) rfl rfl rfl rfl ?_
      refine a_if_ne rfl (fun c37 => ?_) (fun c37 => ?_)
      · refine a_s rfl rfl ?_
        refine a_goto rfl ?_
        refine a_s rfl rfl ?_
        refine a_gV rfl lX12_243 mo_X12_throwsIf (r_X12_throwsIf (b := true)) rfl rfl rfl ⟨12, _, rfl, rfl, rfl⟩ rfl (fun v' h' hv => ?_)
        obtain ⟨rfl, I7, rfl, f8⟩ := hv
        replace f8 : Fm sU I I7 := Fm.tr (f6) (f8)
        have s8 := SO.fm hs (Fm.mo f8 sU_sV); have l8 := LwW.fm hw (Fm.mo f8 sU_sV); have g8 := LgW.fm lg (Fm.mo f8 sU_sV)
        refine a_if_eq rfl (fun c => absurd c (by decide)) (fun _ => ?_)
        refine a_s rfl rfl ?_
        exact a_iret rfl rfl ⟨⟨_, rfl⟩, _, rfl, f8⟩
      · refine a_l1 rfl rfl rfl ?_
        refine a_l2 rfl rfl rfl ?_
        refine a_ic_le rfl (fun c42 => ?_) (fun c42 => ?_)
        · refine a_s rfl rfl ?_
          refine a_s rfl rfl ?_
          refine a_gV rfl lX12_243 mo_X12_throwsIf (r_X12_throwsIf (b := false)) rfl rfl rfl ⟨12, _, rfl, rfl, rfl⟩ rfl (fun v' h' hv => ?_)
          obtain ⟨rfl, I9, rfl, f10⟩ := hv
          replace f10 : Fm sU I I9 := Fm.tr (f6) (f10)
          have s10 := SO.fm hs (Fm.mo f10 sU_sV); have l10 := LwW.fm hw (Fm.mo f10 sU_sV); have g10 := LgW.fm lg (Fm.mo f10 sU_sV)
          refine a_if_eq rfl (fun _ => ?_) (fun c => absurd (by decide) c)
          refine a_s rfl rfl ?_
          refine a_s4 rfl rfl rfl rfl rfl rfl ?_
          refine a_s rfl rfl ?_
          refine a_s5 rfl rfl rfl rfl rfl rfl ?_
          refine a_cnt (j0 := 0) (fun j ls h => ∃ a0, ∃ I', ls = [some (.ref 420), some (.int x1), some (.int x2), some (.int x3), some (.int a0), some (.int (nI j))] ∧ h = hp I' L w1 w2 t ∧ Fm sU I I') (by decide) ⟨_, _, rfl, rfl, f10⟩ ⟨rfl, rfl, rfl, rfl, rfl, rfl, trivial⟩ ?_
          rintro j65 _ _ hj65 ⟨a0_65, Ih65, rfl, rfl, fh65⟩ ih65
          have sh65 := SO.fm hs (Fm.mo fh65 sU_sV); have lh65 := LwW.fm hw (Fm.mo fh65 sU_sV); have gh65 := LgW.fm lg (Fm.mo fh65 sU_sV)
          refine a_l5 rfl rfl rfl ?_
          refine a_l0 rfl rfl rfl ?_
          refine a_eV1 rfl lX12_74 mo_X12_duties (sp_X12_duties) rfl rfl rfl ⟨12, _, rfl, rfl, rfl⟩ rfl ?_
          refine a_top (y := nI nd) sh65.du ?_
          refine a_ic_ge rfl (fun c71 => ?_) (fun c71 => ?_)
          · refine a_l4 rfl rfl rfl ?_
            exact a_iret rfl rfl ⟨⟨_, rfl⟩, _, rfl, fh65⟩
          · have hd65 : j65 < nd := nI_lt_of c71 hj65 (by have := hs.n; omega)
            refine a_l4 rfl rfl rfl ?_
            refine a_l0 rfl rfl rfl ?_
            refine a_l5 rfl rfl rfl ?_
            refine a_l3 rfl rfl rfl ?_
            refine a_eV1 rfl lX12_301 mo_X12_whereAt (sp_X12_whereAt sh65.n sh65.du hd65 sh65.h7) rfl rfl rfl ⟨12, _, rfl, rfl, rfl⟩ rfl ?_
            refine a_l1 rfl rfl rfl ?_
            refine a_l2 rfl rfl rfl ?_
            refine a_eS1 rfl lX12_70 mo_X12_in (sp_X12_in) rfl rfl rfl rfl ?_
            refine a_if_eq rfl (fun c88 => ?_) (fun c88 => ?_)
            · refine a_s rfl rfl ?_
              refine a_s rfl rfl ?_
              refine a_s4 rfl rfl rfl rfl rfl rfl ?_
              refine a_i5 rfl rfl rfl ?_
              refine a_goto rfl ?_
              exact ih65 _ _ _ _ c71 ⟨_, _, rfl, rfl, fh65⟩ ⟨rfl, rfl, rfl, rfl, rfl, nS _, trivial⟩
            · refine a_s rfl rfl ?_
              refine a_goto rfl ?_
              refine a_s rfl rfl ?_
              refine a_s4 rfl rfl rfl rfl rfl rfl ?_
              refine a_i5 rfl rfl rfl ?_
              refine a_goto rfl ?_
              exact ih65 _ _ _ _ c71 ⟨_, _, rfl, rfl, fh65⟩ ⟨rfl, rfl, rfl, rfl, rfl, nS _, trivial⟩
        · refine a_s rfl rfl ?_
          refine a_goto rfl ?_
          refine a_s rfl rfl ?_
          refine a_gV rfl lX12_243 mo_X12_throwsIf (r_X12_throwsIf (b := true)) rfl rfl rfl ⟨12, _, rfl, rfl, rfl⟩ rfl (fun v' h' hv => ?_)
          obtain ⟨rfl, I11, rfl, f12⟩ := hv
          replace f12 : Fm sU I I11 := Fm.tr (f6) (f12)
          have s12 := SO.fm hs (Fm.mo f12 sU_sV); have l12 := LwW.fm hw (Fm.mo f12 sU_sV); have g12 := LgW.fm lg (Fm.mo f12 sU_sV)
          refine a_if_eq rfl (fun c => absurd c (by decide)) (fun _ => ?_)
          refine a_s rfl rfl ?_
          exact a_iret rfl rfl ⟨⟨_, rfl⟩, _, rfl, f12⟩
    · refine a_s rfl rfl ?_
      refine a_goto rfl ?_
      refine a_s rfl rfl ?_
      refine a_gV rfl lX12_243 mo_X12_throwsIf (r_X12_throwsIf (b := true)) rfl rfl rfl ⟨12, _, rfl, rfl, rfl⟩ rfl (fun v' h' hv => ?_)
      obtain ⟨rfl, I13, rfl, f14⟩ := hv
      replace f14 : Fm sU I I13 := Fm.tr (f2) (f14)
      have s14 := SO.fm hs (Fm.mo f14 sU_sV); have l14 := LwW.fm hw (Fm.mo f14 sU_sV); have g14 := LgW.fm lg (Fm.mo f14 sU_sV)
      refine a_if_ne rfl (fun _ => ?_) (fun c => absurd c (by decide))
      refine a_s rfl rfl ?_
      exact a_iret rfl rfl ⟨⟨_, rfl⟩, _, rfl, f14⟩
theorem r_X12_person {S : aS} {I : Nat → Nat → Int32} {L : Nat → Nat → Int64} {w1 w2 t : Nat} {x1 x2 : Int32} {nd np : Nat} (hs : SO nd np (I 421)) (hw : LwW (I 421)) (lg : LgW (I 421)) : Sp S m_X12_person 22 0 0 [.ref 420, .int x1, .int x2] (hp I L w1 w2 t) (QR (Fm sU I) isI L w1 w2 t) nX := by
  refine Sp_of ok_X12_person rfl rfl ?_
  show AW S m_X12_person 22 _ _ 0 0 0 [some (.ref 420), some (.int x1), some (.int x2)] [] (hp I L w1 w2 t)
  refine a_l0 rfl rfl rfl ?_
  refine a_s rfl rfl ?_
  refine a_puti rfl pfX12_3_12 rfl ?_
  refine a_ren (P := Fm sU I) (Fm.up (Fm.rf (s := sU)) rfl) (fun I1 f2 => ?_)
  have s2 := SO.fm hs (Fm.mo f2 sU_sV); have l2 := LwW.fm hw (Fm.mo f2 sU_sV); have g2 := LgW.fm lg (Fm.mo f2 sU_sV)
  refine a_l0 rfl rfl rfl ?_
  refine a_l0 rfl rfl rfl ?_
  refine a_l1 rfl rfl rfl ?_
  refine a_eV1 rfl lX12_342 mo_X12_noPerson (r_X12_noPerson s2) rfl rfl rfl ⟨12, _, rfl, rfl, rfl⟩ rfl ?_
  refine a_s rfl rfl ?_
  refine a_gV rfl lX12_243 mo_X12_throwsIf (r_X12_throwsIf) rfl rfl rfl ⟨12, _, rfl, rfl, rfl⟩ rfl (fun v' h' hv => ?_)
  obtain ⟨rfl, I3, rfl, f4⟩ := hv
  replace f4 : Fm sU I I3 := Fm.tr (f2) (f4)
  have s4 := SO.fm hs (Fm.mo f4 sU_sV); have l4 := LwW.fm hw (Fm.mo f4 sU_sV); have g4 := LgW.fm lg (Fm.mo f4 sU_sV)
  refine a_if_ne rfl (fun c15 => ?_) (fun c15 => ?_)
  · refine a_s rfl rfl ?_
    exact a_iret rfl rfl ⟨⟨_, rfl⟩, _, rfl, f4⟩
  · obtain ⟨i5, hi5, rfl⟩ := isIx (n := np) (by have := hs.n; have := hs.p; omega) c15
    refine a_l0 rfl rfl rfl ?_
    refine a_l2 rfl rfl rfl ?_
    refine a_s rfl rfl ?_
    refine a_s rfl rfl ?_
    refine a_eS1 rfl lX12_70 mo_X12_in (sp_X12_in) rfl rfl rfl rfl ?_
    refine a_if_ne rfl (fun c25 => ?_) (fun c25 => ?_)
    · obtain ⟨m6, hm6a, hm6b, rfl⟩ := inB_nI (a := 0) (b := 5) (by decide) (bI_t c25)
      refine a_s rfl rfl ?_
      refine a_s rfl rfl ?_
      refine a_gV rfl lX12_243 mo_X12_throwsIf (r_X12_throwsIf (b := false)) rfl rfl rfl ⟨12, _, rfl, rfl, rfl⟩ rfl (fun v' h' hv => ?_)
      obtain ⟨rfl, I7, rfl, f8⟩ := hv
      replace f8 : Fm sU I I7 := Fm.tr (f4) (f8)
      have s8 := SO.fm hs (Fm.mo f8 sU_sV); have l8 := LwW.fm hw (Fm.mo f8 sU_sV); have g8 := LgW.fm lg (Fm.mo f8 sU_sV)
      refine a_if_eq rfl (fun _ => ?_) (fun c => absurd (by decide) c)
      refine a_l2 rfl rfl rfl ?_
      refine a_tswA rfl (by decide) (by decide) (fun hx => ?_) (fun i o ho hx => ?_)
      · refine a_pc (pc' := 96) (by decide) ?_
        refine a_l0 rfl rfl rfl ?_
        refine a_l1 rfl rfl rfl ?_
        refine a_l2 rfl rfl rfl ?_
        refine a_eV1 rfl lX12_252 mo_X12_ofPerson (sp_X12_ofPerson (d := i5) (k := m6) (Nat.lt_of_lt_of_le hi5 s8.p) (by rw [nI_toInt (by omega)] at hx; omega)) rfl rfl rfl ⟨12, _, rfl, rfl, rfl⟩ rfl ?_
        exact a_iret rfl rfl ⟨⟨_, rfl⟩, _, rfl, f8⟩
      · rcases i with _ | _ | _ | _ | i
        · cases ho
          refine a_pc (pc' := 72) (by decide) ?_
          refine a_l0 rfl rfl rfl ?_
          refine a_l1 rfl rfl rfl ?_
          refine a_eV1 rfl lX12_321 mo_X12_ownedBy (sp_X12_ownedBy s8.n s8.du) rfl rfl rfl ⟨12, _, rfl, rfl, rfl⟩ rfl ?_
          exact a_iret rfl rfl ⟨⟨_, rfl⟩, _, rfl, f8⟩
        · cases ho
          refine a_pc (pc' := 78) (by decide) ?_
          refine a_l0 rfl rfl rfl ?_
          refine a_l1 rfl rfl rfl ?_
          refine a_eV1 rfl lX12_333 mo_X12_loadOf (sp_X12_loadOf s8.n s8.du) rfl rfl rfl ⟨12, _, rfl, rfl, rfl⟩ rfl ?_
          exact a_iret rfl rfl ⟨⟨_, rfl⟩, _, rfl, f8⟩
        · cases ho
          refine a_pc (pc' := 84) (by decide) ?_
          refine a_l0 rfl rfl rfl ?_
          refine a_l1 rfl rfl rfl ?_
          refine a_eV1 rfl lX12_345 mo_X12_needsOf (sp_X12_needsOf s8.n s8.du (Nat.lt_of_lt_of_le hi5 s8.p)) rfl rfl rfl ⟨12, _, rfl, rfl, rfl⟩ rfl ?_
          exact a_iret rfl rfl ⟨⟨_, rfl⟩, _, rfl, f8⟩
        · cases ho
          refine a_pc (pc' := 90) (by decide) ?_
          refine a_l0 rfl rfl rfl ?_
          refine a_l1 rfl rfl rfl ?_
          refine a_gV rfl lX12_348 mo_X12_shareOf (r_X12_shareOf s8 l8 g8 hi5) rfl rfl rfl ⟨12, _, rfl, rfl, rfl⟩ rfl (fun v' h' hv => ?_)
          obtain ⟨⟨v9, rfl⟩, I10, rfl, f11⟩ := hv
          replace f11 : Fm sU I I10 := Fm.tr (f8) (f11)
          have s11 := SO.fm hs (Fm.mo f11 sU_sV); have l11 := LwW.fm hw (Fm.mo f11 sU_sV); have g11 := LgW.fm lg (Fm.mo f11 sU_sV)
          exact a_iret rfl rfl ⟨⟨_, rfl⟩, _, rfl, f11⟩
        · cases ho
    · refine a_s rfl rfl ?_
      refine a_goto rfl ?_
      refine a_s rfl rfl ?_
      refine a_gV rfl lX12_243 mo_X12_throwsIf (r_X12_throwsIf (b := true)) rfl rfl rfl ⟨12, _, rfl, rfl, rfl⟩ rfl (fun v' h' hv => ?_)
      obtain ⟨rfl, I12, rfl, f13⟩ := hv
      replace f13 : Fm sU I I12 := Fm.tr (f4) (f13)
      have s13 := SO.fm hs (Fm.mo f13 sU_sV); have l13 := LwW.fm hw (Fm.mo f13 sU_sV); have g13 := LgW.fm lg (Fm.mo f13 sU_sV)
      refine a_if_eq rfl (fun c => absurd c (by decide)) (fun _ => ?_)
      refine a_s rfl rfl ?_
      exact a_iret rfl rfl ⟨⟨_, rfl⟩, _, rfl, f13⟩
theorem r_X12_duty {S : aS} {I : Nat → Nat → Int32} {L : Nat → Nat → Int64} {w1 w2 t : Nat} {x1 x2 : Int32} {nd np : Nat} (hs : SO nd np (I 421)) (hw : LwW (I 421)) (lg : LgW (I 421)) : Sp S m_X12_duty 20 0 0 [.ref 420, .int x1, .int x2] (hp I L w1 w2 t) (QR (Fm sU I) isI L w1 w2 t) nX := by
  refine Sp_of ok_X12_duty rfl rfl ?_
  show AW S m_X12_duty 20 _ _ 0 0 0 [some (.ref 420), some (.int x1), some (.int x2)] [] (hp I L w1 w2 t)
  refine a_l0 rfl rfl rfl ?_
  refine a_s rfl rfl ?_
  refine a_puti rfl pfX12_3_12 rfl ?_
  refine a_ren (P := Fm sU I) (Fm.up (Fm.rf (s := sU)) rfl) (fun I1 f2 => ?_)
  have s2 := SO.fm hs (Fm.mo f2 sU_sV); have l2 := LwW.fm hw (Fm.mo f2 sU_sV); have g2 := LgW.fm lg (Fm.mo f2 sU_sV)
  refine a_l0 rfl rfl rfl ?_
  refine a_l0 rfl rfl rfl ?_
  refine a_l1 rfl rfl rfl ?_
  refine a_eV1 rfl lX12_289 mo_X12_noDuty (r_X12_noDuty s2) rfl rfl rfl ⟨12, _, rfl, rfl, rfl⟩ rfl ?_
  refine a_s rfl rfl ?_
  refine a_gV rfl lX12_243 mo_X12_throwsIf (r_X12_throwsIf) rfl rfl rfl ⟨12, _, rfl, rfl, rfl⟩ rfl (fun v' h' hv => ?_)
  obtain ⟨rfl, I3, rfl, f4⟩ := hv
  replace f4 : Fm sU I I3 := Fm.tr (f2) (f4)
  have s4 := SO.fm hs (Fm.mo f4 sU_sV); have l4 := LwW.fm hw (Fm.mo f4 sU_sV); have g4 := LgW.fm lg (Fm.mo f4 sU_sV)
  refine a_if_ne rfl (fun c15 => ?_) (fun c15 => ?_)
  · refine a_s rfl rfl ?_
    exact a_iret rfl rfl ⟨⟨_, rfl⟩, _, rfl, f4⟩
  · obtain ⟨i5, hi5, rfl⟩ := isIx (n := nd) (by have := hs.n; have := hs.p; omega) c15
    refine a_l0 rfl rfl rfl ?_
    refine a_l2 rfl rfl rfl ?_
    refine a_s rfl rfl ?_
    refine a_s rfl rfl ?_
    refine a_eS1 rfl lX12_70 mo_X12_in (sp_X12_in) rfl rfl rfl rfl ?_
    refine a_if_ne rfl (fun c26 => ?_) (fun c26 => ?_)
    · obtain ⟨m6, hm6a, hm6b, rfl⟩ := inB_nI (a := 0) (b := 10) (by decide) (bI_t c26)
      refine a_s rfl rfl ?_
      refine a_s rfl rfl ?_
      refine a_gV rfl lX12_243 mo_X12_throwsIf (r_X12_throwsIf (b := false)) rfl rfl rfl ⟨12, _, rfl, rfl, rfl⟩ rfl (fun v' h' hv => ?_)
      obtain ⟨rfl, I7, rfl, f8⟩ := hv
      replace f8 : Fm sU I I7 := Fm.tr (f4) (f8)
      have s8 := SO.fm hs (Fm.mo f8 sU_sV); have l8 := LwW.fm hw (Fm.mo f8 sU_sV); have g8 := LgW.fm lg (Fm.mo f8 sU_sV)
      refine a_if_eq rfl (fun _ => ?_) (fun c => absurd (by decide) c)
      refine a_l2 rfl rfl rfl ?_
      refine a_tswA rfl (by decide) (by decide) (fun hx => ?_) (fun i o ho hx => ?_)
      · refine a_pc (pc' := 118) (by decide) ?_
        refine a_l0 rfl rfl rfl ?_
        refine a_l1 rfl rfl rfl ?_
        refine a_l2 rfl rfl rfl ?_
        refine a_eV1 rfl lX12_63 mo_X12_of (sp_X12_of (d := i5) (k := m6) (Nat.lt_of_lt_of_le hi5 s8.n) (by rw [nI_toInt (by omega)] at hx; omega)) rfl rfl rfl ⟨12, _, rfl, rfl, rfl⟩ rfl ?_
        exact a_iret rfl rfl ⟨⟨_, rfl⟩, _, rfl, f8⟩
      · rcases i with _ | _ | _ | _ | _ | i
        · cases ho
          refine a_pc (pc' := 80) (by decide) ?_
          refine a_l0 rfl rfl rfl ?_
          refine a_l1 rfl rfl rfl ?_
          refine a_eV1 rfl lX12_273 mo_X12_isReady (sp_X12_isReady s8.n hi5 s8.l) rfl rfl rfl ⟨12, _, rfl, rfl, rfl⟩ rfl ?_
          refine a_if_eq rfl (fun c85 => ?_) (fun c85 => ?_)
          · refine a_s rfl rfl ?_
            exact a_iret rfl rfl ⟨⟨_, rfl⟩, _, rfl, f8⟩
          · refine a_s rfl rfl ?_
            refine a_goto rfl ?_
            exact a_iret rfl rfl ⟨⟨_, rfl⟩, _, rfl, f8⟩
        · cases ho
          refine a_pc (pc' := 94) (by decide) ?_
          refine a_l0 rfl rfl rfl ?_
          refine a_l1 rfl rfl rfl ?_
          refine a_gV rfl lX12_351 mo_X12_growsBy (r_X12_growsBy s8 l8 g8 hi5) rfl rfl rfl ⟨12, _, rfl, rfl, rfl⟩ rfl (fun v' h' hv => ?_)
          obtain ⟨⟨v9, rfl⟩, I10, rfl, f11⟩ := hv
          replace f11 : Fm sU I I10 := Fm.tr (f8) (f11)
          have s11 := SO.fm hs (Fm.mo f11 sU_sV); have l11 := LwW.fm hw (Fm.mo f11 sU_sV); have g11 := LgW.fm lg (Fm.mo f11 sU_sV)
          exact a_iret rfl rfl ⟨⟨_, rfl⟩, _, rfl, f11⟩
        · cases ho
          refine a_pc (pc' := 100) (by decide) ?_
          refine a_l0 rfl rfl rfl ?_
          refine a_l1 rfl rfl rfl ?_
          refine a_gV rfl lX12_318 mo_X12_shamesBy (r_X12_shamesBy s8 l8 g8 hi5) rfl rfl rfl ⟨12, _, rfl, rfl, rfl⟩ rfl (fun v' h' hv => ?_)
          obtain ⟨⟨v12, rfl⟩, I13, rfl, f14⟩ := hv
          replace f14 : Fm sU I I13 := Fm.tr (f8) (f14)
          have s14 := SO.fm hs (Fm.mo f14 sU_sV); have l14 := LwW.fm hw (Fm.mo f14 sU_sV); have g14 := LgW.fm lg (Fm.mo f14 sU_sV)
          exact a_iret rfl rfl ⟨⟨_, rfl⟩, _, rfl, f14⟩
        · cases ho
          refine a_pc (pc' := 106) (by decide) ?_
          refine a_l0 rfl rfl rfl ?_
          refine a_l1 rfl rfl rfl ?_
          refine a_eV1 rfl lX12_283 mo_X12_placeOf (sp_X12_placeOf s8.n s8.du hi5) rfl rfl rfl ⟨12, _, rfl, rfl, rfl⟩ rfl ?_
          exact a_iret rfl rfl ⟨⟨_, rfl⟩, _, rfl, f8⟩
        · cases ho
          refine a_pc (pc' := 112) (by decide) ?_
          refine a_l0 rfl rfl rfl ?_
          refine a_l1 rfl rfl rfl ?_
          refine a_eV1 rfl lX12_276 mo_X12_passesBy (sp_X12_passesBy s8.n s8.du hi5) rfl rfl rfl ⟨12, _, rfl, rfl, rfl⟩ rfl ?_
          exact a_iret rfl rfl ⟨⟨_, rfl⟩, _, rfl, f8⟩
        · cases ho
    · refine a_s rfl rfl ?_
      refine a_goto rfl ?_
      refine a_s rfl rfl ?_
      refine a_gV rfl lX12_243 mo_X12_throwsIf (r_X12_throwsIf (b := true)) rfl rfl rfl ⟨12, _, rfl, rfl, rfl⟩ rfl (fun v' h' hv => ?_)
      obtain ⟨rfl, I15, rfl, f16⟩ := hv
      replace f16 : Fm sU I I15 := Fm.tr (f4) (f16)
      have s16 := SO.fm hs (Fm.mo f16 sU_sV); have l16 := LwW.fm hw (Fm.mo f16 sU_sV); have g16 := LgW.fm lg (Fm.mo f16 sU_sV)
      refine a_if_eq rfl (fun c => absurd c (by decide)) (fun _ => ?_)
      refine a_s rfl rfl ?_
      exact a_iret rfl rfl ⟨⟨_, rfl⟩, _, rfl, f16⟩
theorem r_X12_ring {S : aS} {I : Nat → Nat → Int32} {L : Nat → Nat → Int64} {w1 w2 t : Nat} {nd np : Nat} (hs : SO nd np (I 421)) (hw : LwW (I 421)) (lg : LgW (I 421)) : Sp S m_X12_ring 16 0 0 [.ref 420] (hp I L w1 w2 t) (QR (Fm sU I) isI L w1 w2 t) nX := by
  refine Sp_of ok_X12_ring rfl rfl ?_
  show AW S m_X12_ring 16 _ _ 0 0 0 [some (.ref 420)] [] (hp I L w1 w2 t)
  refine a_l0 rfl rfl rfl ?_
  refine a_s rfl rfl ?_
  refine a_puti rfl pfX12_3_12 rfl ?_
  refine a_ren (P := Fm sU I) (Fm.up (Fm.rf (s := sU)) rfl) (fun I1 f2 => ?_)
  have s2 := SO.fm hs (Fm.mo f2 sU_sV); have l2 := LwW.fm hw (Fm.mo f2 sU_sV); have g2 := LgW.fm lg (Fm.mo f2 sU_sV)
  refine a_l0 rfl rfl rfl ?_
  refine a_gV rfl lX12_420 mo_X12_ringOnes (r_X12_ringOnes s2 l2 g2) rfl rfl rfl ⟨12, _, rfl, rfl, rfl⟩ rfl (fun v' h' hv => ?_)
  obtain ⟨⟨v3, rfl⟩, rfl⟩ := hv
  exact a_iret rfl rfl ⟨⟨_, rfl⟩, _, rfl, f2⟩
theorem r_X12_before {S : aS} {I : Nat → Nat → Int32} {L : Nat → Nat → Int64} {w1 w2 t : Nat} {x1 : Int32} {nd np : Nat} (hs : SO nd np (I 421)) (hw : LwW (I 421)) (lg : LgW (I 421)) : Sp S m_X12_before 15 0 0 [.ref 420, .int x1] (hp I L w1 w2 t) (QR (Fm sU I) isI L w1 w2 t) nX := by
  refine Sp_of ok_X12_before rfl rfl ?_
  show AW S m_X12_before 15 _ _ 0 0 0 [some (.ref 420), some (.int x1)] [] (hp I L w1 w2 t)
  refine a_l0 rfl rfl rfl ?_
  refine a_s rfl rfl ?_
  refine a_puti rfl pfX12_3_12 rfl ?_
  refine a_ren (P := Fm sU I) (Fm.up (Fm.rf (s := sU)) rfl) (fun I1 f2 => ?_)
  have s2 := SO.fm hs (Fm.mo f2 sU_sV); have l2 := LwW.fm hw (Fm.mo f2 sU_sV); have g2 := LgW.fm lg (Fm.mo f2 sU_sV)
  refine a_l0 rfl rfl rfl ?_
  refine a_l0 rfl rfl rfl ?_
  refine a_l1 rfl rfl rfl ?_
  refine a_eV1 rfl lX12_289 mo_X12_noDuty (r_X12_noDuty s2) rfl rfl rfl ⟨12, _, rfl, rfl, rfl⟩ rfl ?_
  refine a_s rfl rfl ?_
  refine a_gV rfl lX12_243 mo_X12_throwsIf (r_X12_throwsIf) rfl rfl rfl ⟨12, _, rfl, rfl, rfl⟩ rfl (fun v' h' hv => ?_)
  obtain ⟨rfl, I3, rfl, f4⟩ := hv
  replace f4 : Fm sU I I3 := Fm.tr (f2) (f4)
  have s4 := SO.fm hs (Fm.mo f4 sU_sV); have l4 := LwW.fm hw (Fm.mo f4 sU_sV); have g4 := LgW.fm lg (Fm.mo f4 sU_sV)
  refine a_if_eq rfl (fun c15 => ?_) (fun c15 => ?_)
  · obtain ⟨i5, hi5, rfl⟩ := isIx (n := nd) (by have := hs.n; have := hs.p; omega) c15
    refine a_l0 rfl rfl rfl ?_
    refine a_l1 rfl rfl rfl ?_
    refine a_gV rfl lX12_417 mo_X12_beforeOf (r_X12_beforeOf s4 l4 g4 hi5) rfl rfl rfl ⟨12, _, rfl, rfl, rfl⟩ rfl (fun v' h' hv => ?_)
    obtain ⟨⟨v6, rfl⟩, rfl⟩ := hv
    exact a_iret rfl rfl ⟨⟨_, rfl⟩, _, rfl, f4⟩
  · refine a_s rfl rfl ?_
    refine a_goto rfl ?_
    exact a_iret rfl rfl ⟨⟨_, rfl⟩, _, rfl, f4⟩
theorem r_X12_after {S : aS} {I : Nat → Nat → Int32} {L : Nat → Nat → Int64} {w1 w2 t : Nat} {x1 : Int32} {nd np : Nat} (hs : SO nd np (I 421)) (hw : LwW (I 421)) (lg : LgW (I 421)) : Sp S m_X12_after 15 0 0 [.ref 420, .int x1] (hp I L w1 w2 t) (QR (Fm sU I) isI L w1 w2 t) nX := by
  refine Sp_of ok_X12_after rfl rfl ?_
  show AW S m_X12_after 15 _ _ 0 0 0 [some (.ref 420), some (.int x1), none, none] [] (hp I L w1 w2 t)
  refine a_l0 rfl rfl rfl ?_
  refine a_s rfl rfl ?_
  refine a_puti rfl pfX12_3_12 rfl ?_
  refine a_ren (P := Fm sU I) (Fm.up (Fm.rf (s := sU)) rfl) (fun I1 f2 => ?_)
  have s2 := SO.fm hs (Fm.mo f2 sU_sV); have l2 := LwW.fm hw (Fm.mo f2 sU_sV); have g2 := LgW.fm lg (Fm.mo f2 sU_sV)
  refine a_l0 rfl rfl rfl ?_
  refine a_l0 rfl rfl rfl ?_
  refine a_l1 rfl rfl rfl ?_
  refine a_eV1 rfl lX12_289 mo_X12_noDuty (r_X12_noDuty s2) rfl rfl rfl ⟨12, _, rfl, rfl, rfl⟩ rfl ?_
  refine a_s rfl rfl ?_
  refine a_gV rfl lX12_243 mo_X12_throwsIf (r_X12_throwsIf) rfl rfl rfl ⟨12, _, rfl, rfl, rfl⟩ rfl (fun v' h' hv => ?_)
  obtain ⟨rfl, I3, rfl, f4⟩ := hv
  replace f4 : Fm sU I I3 := Fm.tr (f2) (f4)
  have s4 := SO.fm hs (Fm.mo f4 sU_sV); have l4 := LwW.fm hw (Fm.mo f4 sU_sV); have g4 := LgW.fm lg (Fm.mo f4 sU_sV)
  refine a_if_eq rfl (fun c15 => ?_) (fun c15 => ?_)
  · obtain ⟨i5, hi5, rfl⟩ := isIx (n := nd) (by have := hs.n; have := hs.p; omega) c15
    refine a_s rfl rfl ?_
    refine a_s2 rfl rfl rfl rfl rfl rfl ?_
    refine a_s rfl rfl ?_
    refine a_s3 rfl rfl rfl rfl rfl rfl ?_
    refine a_cnt (j0 := 0) (fun j ls h => ∃ a0, ∃ I', ls = [some (.ref 420), some (.int (nI i5)), some (.int a0), some (.int (nI j))] ∧ h = hp I' L w1 w2 t ∧ Fm sU I I') (by decide) ⟨_, _, rfl, rfl, f4⟩ ⟨rfl, rfl, rfl, rfl, trivial⟩ ?_
    rintro j24 _ _ hj24 ⟨a0_24, Ih24, rfl, rfl, fh24⟩ ih24
    have sh24 := SO.fm hs (Fm.mo fh24 sU_sV); have lh24 := LwW.fm hw (Fm.mo fh24 sU_sV); have gh24 := LgW.fm lg (Fm.mo fh24 sU_sV)
    refine a_l3 rfl rfl rfl ?_
    refine a_l0 rfl rfl rfl ?_
    refine a_eV1 rfl lX12_74 mo_X12_duties (sp_X12_duties) rfl rfl rfl ⟨12, _, rfl, rfl, rfl⟩ rfl ?_
    refine a_top (y := nI nd) sh24.du ?_
    refine a_ic_ge rfl (fun c29 => ?_) (fun c29 => ?_)
    · refine a_l2 rfl rfl rfl ?_
      exact a_iret rfl rfl ⟨⟨_, rfl⟩, _, rfl, fh24⟩
    · have hd24 : j24 < nd := nI_lt_of c29 hj24 (by have := hs.n; omega)
      refine a_l2 rfl rfl rfl ?_
      refine a_l0 rfl rfl rfl ?_
      refine a_l3 rfl rfl rfl ?_
      refine a_gV rfl lX12_417 mo_X12_beforeOf (r_X12_beforeOf sh24 lh24 gh24 hd24) rfl rfl rfl ⟨12, _, rfl, rfl, rfl⟩ rfl (fun v' h' hv => ?_)
      obtain ⟨⟨v6, rfl⟩, rfl⟩ := hv
      refine a_l1 rfl rfl rfl ?_
      refine a_gS rfl lX12_304 mo_X12_has (r_X12_has) rfl rfl rfl rfl (fun v' h' hv => ?_)
      obtain ⟨⟨v7, rfl⟩, rfl⟩ := hv
      refine a_if_eq rfl (fun c42 => ?_) (fun c42 => ?_)
      · refine a_s rfl rfl ?_
        refine a_s rfl rfl ?_
        refine a_s2 rfl rfl rfl rfl rfl rfl ?_
        refine a_i3 rfl rfl rfl ?_
        refine a_goto rfl ?_
        exact ih24 _ _ _ _ c29 ⟨_, _, rfl, rfl, fh24⟩ ⟨rfl, rfl, rfl, nS _, trivial⟩
      · refine a_s rfl rfl ?_
        refine a_l3 rfl rfl rfl ?_
        refine a_s rfl rfl ?_
        refine a_goto rfl ?_
        refine a_s rfl rfl ?_
        refine a_s2 rfl rfl rfl rfl rfl rfl ?_
        refine a_i3 rfl rfl rfl ?_
        refine a_goto rfl ?_
        exact ih24 _ _ _ _ c29 ⟨_, _, rfl, rfl, fh24⟩ ⟨rfl, rfl, rfl, nS _, trivial⟩
  · refine a_s rfl rfl ?_
    exact a_iret rfl rfl ⟨⟨_, rfl⟩, _, rfl, f4⟩
theorem r_X12_depth {S : aS} {I : Nat → Nat → Int32} {L : Nat → Nat → Int64} {w1 w2 t : Nat} {x1 : Int32} {nd np : Nat} (hs : SO nd np (I 421)) (hw : LwW (I 421)) (lg : LgW (I 421)) : Sp S m_X12_depth 15 0 0 [.ref 420, .int x1] (hp I L w1 w2 t) (QR (Fm sU I) isI L w1 w2 t) nX := by
  refine Sp_of ok_X12_depth rfl rfl ?_
  show AW S m_X12_depth 15 _ _ 0 0 0 [some (.ref 420), some (.int x1)] [] (hp I L w1 w2 t)
  refine a_l0 rfl rfl rfl ?_
  refine a_s rfl rfl ?_
  refine a_puti rfl pfX12_3_12 rfl ?_
  refine a_ren (P := Fm sU I) (Fm.up (Fm.rf (s := sU)) rfl) (fun I1 f2 => ?_)
  have s2 := SO.fm hs (Fm.mo f2 sU_sV); have l2 := LwW.fm hw (Fm.mo f2 sU_sV); have g2 := LgW.fm lg (Fm.mo f2 sU_sV)
  refine a_l0 rfl rfl rfl ?_
  refine a_l0 rfl rfl rfl ?_
  refine a_l1 rfl rfl rfl ?_
  refine a_eV1 rfl lX12_289 mo_X12_noDuty (r_X12_noDuty s2) rfl rfl rfl ⟨12, _, rfl, rfl, rfl⟩ rfl ?_
  refine a_s rfl rfl ?_
  refine a_gV rfl lX12_243 mo_X12_throwsIf (r_X12_throwsIf) rfl rfl rfl ⟨12, _, rfl, rfl, rfl⟩ rfl (fun v' h' hv => ?_)
  obtain ⟨rfl, I3, rfl, f4⟩ := hv
  replace f4 : Fm sU I I3 := Fm.tr (f2) (f4)
  have s4 := SO.fm hs (Fm.mo f4 sU_sV); have l4 := LwW.fm hw (Fm.mo f4 sU_sV); have g4 := LgW.fm lg (Fm.mo f4 sU_sV)
  refine a_if_eq rfl (fun c15 => ?_) (fun c15 => ?_)
  · obtain ⟨i5, hi5, rfl⟩ := isIx (n := nd) (by have := hs.n; have := hs.p; omega) c15
    refine a_l0 rfl rfl rfl ?_
    refine a_l1 rfl rfl rfl ?_
    refine a_gV rfl lX12_417 mo_X12_beforeOf (r_X12_beforeOf s4 l4 g4 hi5) rfl rfl rfl ⟨12, _, rfl, rfl, rfl⟩ rfl (fun v' h' hv => ?_)
    obtain ⟨⟨v6, rfl⟩, rfl⟩ := hv
    refine a_l0 rfl rfl rfl ?_
    refine a_s rfl rfl ?_
    refine a_eV1 rfl lX12_324 mo_X12_ofState (sp_X12_ofState s4.n s4.du) rfl rfl rfl ⟨12, _, rfl, rfl, rfl⟩ rfl ?_
    refine a_topE (bs_nI12 s4.n) (fun mc7 hmc7 => ?_)
    refine a_s rfl rfl ?_
    refine a_s rfl rfl ?_
    refine a_s rfl rfl ?_
    refine a_eS1 rfl lX12_310 mo_J6_bitCount_0f7a4 (sp_bitCount) rfl rfl rfl rfl ?_
    exact a_iret rfl rfl ⟨⟨_, rfl⟩, _, rfl, f4⟩
  · refine a_s rfl rfl ?_
    refine a_goto rfl ?_
    exact a_iret rfl rfl ⟨⟨_, rfl⟩, _, rfl, f4⟩
theorem r_X12_soon {S : aS} {I : Nat → Nat → Int32} {L : Nat → Nat → Int64} {w1 w2 t : Nat} {x1 : Int32} {nd np : Nat} (hs : SO nd np (I 421)) (hw : LwW (I 421)) (lg : LgW (I 421)) : Sp S m_X12_soon 17 0 0 [.ref 420, .int x1] (hp I L w1 w2 t) (QR (Fm sU I) isI L w1 w2 t) nX := by
  refine Sp_of ok_X12_soon rfl rfl ?_
  show AW S m_X12_soon 17 _ _ 0 0 0 [some (.ref 420), some (.int x1)] [] (hp I L w1 w2 t)
  refine a_l0 rfl rfl rfl ?_
  refine a_s rfl rfl ?_
  refine a_puti rfl pfX12_3_12 rfl ?_
  refine a_ren (P := Fm sU I) (Fm.up (Fm.rf (s := sU)) rfl) (fun I1 f2 => ?_)
  have s2 := SO.fm hs (Fm.mo f2 sU_sV); have l2 := LwW.fm hw (Fm.mo f2 sU_sV); have g2 := LgW.fm lg (Fm.mo f2 sU_sV)
  refine a_l0 rfl rfl rfl ?_
  refine a_l0 rfl rfl rfl ?_
  refine a_l1 rfl rfl rfl ?_
  refine a_eV1 rfl lX12_289 mo_X12_noDuty (r_X12_noDuty s2) rfl rfl rfl ⟨12, _, rfl, rfl, rfl⟩ rfl ?_
  refine a_s rfl rfl ?_
  refine a_gV rfl lX12_243 mo_X12_throwsIf (r_X12_throwsIf) rfl rfl rfl ⟨12, _, rfl, rfl, rfl⟩ rfl (fun v' h' hv => ?_)
  obtain ⟨rfl, I3, rfl, f4⟩ := hv
  replace f4 : Fm sU I I3 := Fm.tr (f2) (f4)
  have s4 := SO.fm hs (Fm.mo f4 sU_sV); have l4 := LwW.fm hw (Fm.mo f4 sU_sV); have g4 := LgW.fm lg (Fm.mo f4 sU_sV)
  refine a_if_eq rfl (fun c15 => ?_) (fun c15 => ?_)
  · obtain ⟨i5, hi5, rfl⟩ := isIx (n := nd) (by have := hs.n; have := hs.p; omega) c15
    refine a_l0 rfl rfl rfl ?_
    refine a_l1 rfl rfl rfl ?_
    refine a_gV rfl lX12_426 mo_X12_soonOf (r_X12_soonOf s4 l4 g4 hi5) rfl rfl rfl ⟨12, _, rfl, rfl, rfl⟩ rfl (fun v' h' hv => ?_)
    obtain ⟨⟨v6, rfl⟩, rfl⟩ := hv
    exact a_iret rfl rfl ⟨⟨_, rfl⟩, _, rfl, f4⟩
  · refine a_s rfl rfl ?_
    refine a_goto rfl ?_
    exact a_iret rfl rfl ⟨⟨_, rfl⟩, _, rfl, f4⟩
theorem r_X12_longest {S : aS} {I : Nat → Nat → Int32} {L : Nat → Nat → Int64} {w1 w2 t : Nat} {nd np : Nat} (hs : SO nd np (I 421)) (hw : LwW (I 421)) (lg : LgW (I 421)) : Sp S m_X12_longest 17 0 0 [.ref 420] (hp I L w1 w2 t) (QR (Fm sU I) isI L w1 w2 t) nX := by
  refine Sp_of ok_X12_longest rfl rfl ?_
  show AW S m_X12_longest 17 _ _ 0 0 0 [some (.ref 420), none, none] [] (hp I L w1 w2 t)
  refine a_l0 rfl rfl rfl ?_
  refine a_s rfl rfl ?_
  refine a_puti rfl pfX12_3_12 rfl ?_
  refine a_ren (P := Fm sU I) (Fm.up (Fm.rf (s := sU)) rfl) (fun I1 f2 => ?_)
  have s2 := SO.fm hs (Fm.mo f2 sU_sV); have l2 := LwW.fm hw (Fm.mo f2 sU_sV); have g2 := LgW.fm lg (Fm.mo f2 sU_sV)
  refine a_s rfl rfl ?_
  refine a_s1 rfl rfl rfl rfl rfl rfl ?_
  refine a_s rfl rfl ?_
  refine a_s2 rfl rfl rfl rfl rfl rfl ?_
  refine a_cnt (j0 := 0) (fun j ls h => ∃ a0, ∃ I', ls = [some (.ref 420), some (.int a0), some (.int (nI j))] ∧ h = hp I' L w1 w2 t ∧ Fm sU I I') (by decide) ⟨_, _, rfl, rfl, f2⟩ ⟨rfl, rfl, rfl, trivial⟩ ?_
  rintro j9 _ _ hj9 ⟨a0_9, Ih9, rfl, rfl, fh9⟩ ih9
  have sh9 := SO.fm hs (Fm.mo fh9 sU_sV); have lh9 := LwW.fm hw (Fm.mo fh9 sU_sV); have gh9 := LgW.fm lg (Fm.mo fh9 sU_sV)
  refine a_l2 rfl rfl rfl ?_
  refine a_l0 rfl rfl rfl ?_
  refine a_eV1 rfl lX12_74 mo_X12_duties (sp_X12_duties) rfl rfl rfl ⟨12, _, rfl, rfl, rfl⟩ rfl ?_
  refine a_top (y := nI nd) sh9.du ?_
  refine a_ic_ge rfl (fun c14 => ?_) (fun c14 => ?_)
  · refine a_l1 rfl rfl rfl ?_
    exact a_iret rfl rfl ⟨⟨_, rfl⟩, _, rfl, fh9⟩
  · have hd9 : j9 < nd := nI_lt_of c14 hj9 (by have := hs.n; omega)
    refine a_l1 rfl rfl rfl ?_
    refine a_l0 rfl rfl rfl ?_
    refine a_l2 rfl rfl rfl ?_
    refine a_gV rfl lX12_426 mo_X12_soonOf (r_X12_soonOf sh9 lh9 gh9 hd9) rfl rfl rfl ⟨12, _, rfl, rfl, rfl⟩ rfl (fun v' h' hv => ?_)
    obtain ⟨⟨v3, rfl⟩, rfl⟩ := hv
    refine a_max rfl lX12_265 mj_max rfl rfl ?_
    refine a_s1 rfl rfl rfl rfl rfl rfl ?_
    refine a_i2 rfl rfl rfl ?_
    refine a_goto rfl ?_
    exact ih9 _ _ _ _ c14 ⟨_, _, rfl, rfl, fh9⟩ ⟨rfl, rfl, nS _, trivial⟩
theorem r_X12_young {S : aS} {I : Nat → Nat → Int32} {L : Nat → Nat → Int64} {w1 w2 t : Nat} {x1 : Int32} {nd np : Nat} (hs : SO nd np (I 421)) (hw : LwW (I 421)) (lg : LgW (I 421)) : Sp S m_X12_young 16 0 0 [.ref 420, .int x1] (hp I L w1 w2 t) (QR (Fm sU I) isI L w1 w2 t) nX := by
  refine Sp_of ok_X12_young rfl rfl ?_
  show AW S m_X12_young 16 _ _ 0 0 0 [some (.ref 420), some (.int x1), none, none, none] [] (hp I L w1 w2 t)
  refine a_l0 rfl rfl rfl ?_
  refine a_s rfl rfl ?_
  refine a_puti rfl pfX12_3_12 rfl ?_
  refine a_ren (P := Fm sU I) (Fm.up (Fm.rf (s := sU)) rfl) (fun I1 f2 => ?_)
  have s2 := SO.fm hs (Fm.mo f2 sU_sV); have l2 := LwW.fm hw (Fm.mo f2 sU_sV); have g2 := LgW.fm lg (Fm.mo f2 sU_sV)
  refine a_l0 rfl rfl rfl ?_
  refine a_l1 rfl rfl rfl ?_
  refine a_s rfl rfl ?_
  refine a_s rfl rfl ?_
  refine a_eS1 rfl lX12_70 mo_X12_in (sp_X12_in) rfl rfl rfl rfl ?_
  refine a_if_ne rfl (fun c13 => ?_) (fun c13 => ?_)
  · obtain ⟨m3, hm3a, hm3b, rfl⟩ := inB_nI (a := 0) (b := 98) (by decide) (bI_t c13)
    refine a_s rfl rfl ?_
    refine a_s rfl rfl ?_
    refine a_gV rfl lX12_243 mo_X12_throwsIf (r_X12_throwsIf (b := false)) rfl rfl rfl ⟨12, _, rfl, rfl, rfl⟩ rfl (fun v' h' hv => ?_)
    obtain ⟨rfl, I4, rfl, f5⟩ := hv
    replace f5 : Fm sU I I4 := Fm.tr (f2) (f5)
    have s5 := SO.fm hs (Fm.mo f5 sU_sV); have l5 := LwW.fm hw (Fm.mo f5 sU_sV); have g5 := LgW.fm lg (Fm.mo f5 sU_sV)
    refine a_if_eq rfl (fun _ => ?_) (fun c => absurd (by decide) c)
    refine a_l0 rfl rfl rfl ?_
    refine a_l1 rfl rfl rfl ?_
    refine a_eV1 rfl lX12_429 mo_X12_olderOnes (sp_X12_olderOnes s5.n s5.du) rfl rfl rfl ⟨12, _, rfl, rfl, rfl⟩ rfl ?_
    refine a_s2 rfl rfl rfl rfl rfl rfl ?_
    refine a_s rfl rfl ?_
    refine a_s3 rfl rfl rfl rfl rfl rfl ?_
    refine a_s rfl rfl ?_
    refine a_s4 rfl rfl rfl rfl rfl rfl ?_
    refine a_cnt (j0 := 0) (fun j ls h => ∃ a0, ∃ a1, ∃ I', ls = [some (.ref 420), some (.int (nI m3)), some (.int a0), some (.int a1), some (.int (nI j))] ∧ h = hp I' L w1 w2 t ∧ Fm sU I I') (by decide) ⟨_, _, _, rfl, rfl, f5⟩ ⟨rfl, rfl, rfl, rfl, rfl, trivial⟩ ?_
    rintro j41 _ _ hj41 ⟨a0_41, a1_41, Ih41, rfl, rfl, fh41⟩ ih41
    have sh41 := SO.fm hs (Fm.mo fh41 sU_sV); have lh41 := LwW.fm hw (Fm.mo fh41 sU_sV); have gh41 := LgW.fm lg (Fm.mo fh41 sU_sV)
    refine a_l4 rfl rfl rfl ?_
    refine a_l0 rfl rfl rfl ?_
    refine a_eV1 rfl lX12_74 mo_X12_duties (sp_X12_duties) rfl rfl rfl ⟨12, _, rfl, rfl, rfl⟩ rfl ?_
    refine a_top (y := nI nd) sh41.du ?_
    refine a_ic_ge rfl (fun c47 => ?_) (fun c47 => ?_)
    · refine a_l0 rfl rfl rfl ?_
      refine a_l3 rfl rfl rfl ?_
      refine a_eV1 rfl lX12_330 mo_X12_hoursOf (sp_X12_hoursOf sh41.n sh41.du) rfl rfl rfl ⟨12, _, rfl, rfl, rfl⟩ rfl ?_
      exact a_iret rfl rfl ⟨⟨_, rfl⟩, _, rfl, fh41⟩
    · have hd41 : j41 < nd := nI_lt_of c47 hj41 (by have := hs.n; omega)
      refine a_l2 rfl rfl rfl ?_
      refine a_l4 rfl rfl rfl ?_
      refine a_gS rfl lX12_304 mo_X12_has (r_X12_has) rfl rfl rfl rfl (fun v' h' hv => ?_)
      obtain ⟨⟨v6, rfl⟩, rfl⟩ := hv
      refine a_if_ne rfl (fun c56 => ?_) (fun c56 => ?_)
      · refine a_l0 rfl rfl rfl ?_
        refine a_l4 rfl rfl rfl ?_
        refine a_gV rfl lX12_423 mo_X12_chainOf (r_X12_chainOf sh41 lh41 gh41 hd41) rfl rfl rfl ⟨12, _, rfl, rfl, rfl⟩ rfl (fun v' h' hv => ?_)
        obtain ⟨⟨v7, rfl⟩, rfl⟩ := hv
        refine a_s rfl rfl ?_
        refine a_ic_ne rfl (fun c69 => ?_) (fun c69 => ?_)
        · refine a_l3 rfl rfl rfl ?_
          refine a_l0 rfl rfl rfl ?_
          refine a_l4 rfl rfl rfl ?_
          refine a_gV rfl lX12_423 mo_X12_chainOf (r_X12_chainOf sh41 lh41 gh41 hd41) rfl rfl rfl ⟨12, _, rfl, rfl, rfl⟩ rfl (fun v' h' hv => ?_)
          obtain ⟨⟨v8, rfl⟩, rfl⟩ := hv
          refine a_s rfl rfl ?_
          refine a_s3 rfl rfl rfl rfl rfl rfl ?_
          refine a_i4 rfl rfl rfl ?_
          refine a_goto rfl ?_
          exact ih41 _ _ _ _ c47 ⟨_, _, _, rfl, rfl, fh41⟩ ⟨rfl, rfl, rfl, rfl, nS _, trivial⟩
        · refine a_s rfl rfl ?_
          exact a_iret rfl rfl ⟨⟨_, rfl⟩, _, rfl, fh41⟩
      · refine a_goto rfl ?_
        refine a_i4 rfl rfl rfl ?_
        refine a_goto rfl ?_
        exact ih41 _ _ _ _ c47 ⟨_, _, _, rfl, rfl, fh41⟩ ⟨rfl, rfl, rfl, rfl, nS _, trivial⟩
  · refine a_s rfl rfl ?_
    refine a_goto rfl ?_
    refine a_s rfl rfl ?_
    refine a_gV rfl lX12_243 mo_X12_throwsIf (r_X12_throwsIf (b := true)) rfl rfl rfl ⟨12, _, rfl, rfl, rfl⟩ rfl (fun v' h' hv => ?_)
    obtain ⟨rfl, I9, rfl, f10⟩ := hv
    replace f10 : Fm sU I I9 := Fm.tr (f2) (f10)
    have s10 := SO.fm hs (Fm.mo f10 sU_sV); have l10 := LwW.fm hw (Fm.mo f10 sU_sV); have g10 := LgW.fm lg (Fm.mo f10 sU_sV)
    refine a_if_eq rfl (fun c => absurd c (by decide)) (fun _ => ?_)
    refine a_s rfl rfl ?_
    exact a_iret rfl rfl ⟨⟨_, rfl⟩, _, rfl, f10⟩
theorem r_X12_older {S : aS} {I : Nat → Nat → Int32} {L : Nat → Nat → Int64} {w1 w2 t : Nat} {x1 : Int32} {nd np : Nat} (hs : SO nd np (I 421)) (hw : LwW (I 421)) (lg : LgW (I 421)) : Sp S m_X12_older 16 0 0 [.ref 420, .int x1] (hp I L w1 w2 t) (QR (Fm sU I) isI L w1 w2 t) nX := by
  refine Sp_of ok_X12_older rfl rfl ?_
  show AW S m_X12_older 16 _ _ 0 0 0 [some (.ref 420), some (.int x1)] [] (hp I L w1 w2 t)
  refine a_l0 rfl rfl rfl ?_
  refine a_s rfl rfl ?_
  refine a_puti rfl pfX12_3_12 rfl ?_
  refine a_ren (P := Fm sU I) (Fm.up (Fm.rf (s := sU)) rfl) (fun I1 f2 => ?_)
  have s2 := SO.fm hs (Fm.mo f2 sU_sV); have l2 := LwW.fm hw (Fm.mo f2 sU_sV); have g2 := LgW.fm lg (Fm.mo f2 sU_sV)
  refine a_l0 rfl rfl rfl ?_
  refine a_l1 rfl rfl rfl ?_
  refine a_s rfl rfl ?_
  refine a_s rfl rfl ?_
  refine a_eS1 rfl lX12_70 mo_X12_in (sp_X12_in) rfl rfl rfl rfl ?_
  refine a_if_ne rfl (fun c13 => ?_) (fun c13 => ?_)
  · obtain ⟨m3, hm3a, hm3b, rfl⟩ := inB_nI (a := 0) (b := 99) (by decide) (bI_t c13)
    refine a_s rfl rfl ?_
    refine a_s rfl rfl ?_
    refine a_gV rfl lX12_243 mo_X12_throwsIf (r_X12_throwsIf (b := false)) rfl rfl rfl ⟨12, _, rfl, rfl, rfl⟩ rfl (fun v' h' hv => ?_)
    obtain ⟨rfl, I4, rfl, f5⟩ := hv
    replace f5 : Fm sU I I4 := Fm.tr (f2) (f5)
    have s5 := SO.fm hs (Fm.mo f5 sU_sV); have l5 := LwW.fm hw (Fm.mo f5 sU_sV); have g5 := LgW.fm lg (Fm.mo f5 sU_sV)
    refine a_if_eq rfl (fun _ => ?_) (fun c => absurd (by decide) c)
    refine a_l0 rfl rfl rfl ?_
    refine a_l1 rfl rfl rfl ?_
    refine a_eV1 rfl lX12_429 mo_X12_olderOnes (sp_X12_olderOnes s5.n s5.du) rfl rfl rfl ⟨12, _, rfl, rfl, rfl⟩ rfl ?_
    refine a_eS1 rfl lX12_310 mo_J6_bitCount_0f7a4 (sp_bitCount) rfl rfl rfl rfl ?_
    exact a_iret rfl rfl ⟨⟨_, rfl⟩, _, rfl, f5⟩
  · refine a_s rfl rfl ?_
    refine a_goto rfl ?_
    refine a_s rfl rfl ?_
    refine a_gV rfl lX12_243 mo_X12_throwsIf (r_X12_throwsIf (b := true)) rfl rfl rfl ⟨12, _, rfl, rfl, rfl⟩ rfl (fun v' h' hv => ?_)
    obtain ⟨rfl, I6, rfl, f7⟩ := hv
    replace f7 : Fm sU I I6 := Fm.tr (f2) (f7)
    have s7 := SO.fm hs (Fm.mo f7 sU_sV); have l7 := LwW.fm hw (Fm.mo f7 sU_sV); have g7 := LgW.fm lg (Fm.mo f7 sU_sV)
    refine a_if_eq rfl (fun c => absurd c (by decide)) (fun _ => ?_)
    refine a_s rfl rfl ?_
    refine a_goto rfl ?_
    exact a_iret rfl rfl ⟨⟨_, rfl⟩, _, rfl, f7⟩
theorem r_X12_does {S : aS} {I : Nat → Nat → Int32} {L : Nat → Nat → Int64} {w1 w2 t : Nat} {x1 : Int32} {b2 : Bool} {nd np : Nat} (hs : SO nd np (I 421)) (hw : LwW (I 421)) (lg : LgW (I 421)) : Sp S m_X12_does 22 0 0 [.ref 420, .int x1, .int (bI b2)] (hp I L w1 w2 t) (QR (Fm sU I) isI L w1 w2 t) nX := by
  refine Sp_of ok_X12_does rfl rfl ?_
  show AW S m_X12_does 22 _ _ 0 0 0 [some (.ref 420), some (.int x1), some (.int (bI b2)), none] [] (hp I L w1 w2 t)
  refine a_l0 rfl rfl rfl ?_
  refine a_s rfl rfl ?_
  refine a_puti rfl pfX12_3_12 rfl ?_
  refine a_ren (P := Fm sU I) (Fm.up (Fm.rf (s := sU)) rfl) (fun I1 f2 => ?_)
  have s2 := SO.fm hs (Fm.mo f2 sU_sV); have l2 := LwW.fm hw (Fm.mo f2 sU_sV); have g2 := LgW.fm lg (Fm.mo f2 sU_sV)
  refine a_l0 rfl rfl rfl ?_
  refine a_l1 rfl rfl rfl ?_
  refine a_s rfl rfl ?_
  refine a_s rfl rfl ?_
  refine a_eS1 rfl lX12_70 mo_X12_in (sp_X12_in) rfl rfl rfl rfl ?_
  refine a_if_ne rfl (fun c13 => ?_) (fun c13 => ?_)
  · obtain ⟨m3, hm3a, hm3b, rfl⟩ := inB_nI (a := 0) (b := 99) (by decide) (bI_t c13)
    refine a_s rfl rfl ?_
    refine a_s rfl rfl ?_
    refine a_gV rfl lX12_243 mo_X12_throwsIf (r_X12_throwsIf (b := false)) rfl rfl rfl ⟨12, _, rfl, rfl, rfl⟩ rfl (fun v' h' hv => ?_)
    obtain ⟨rfl, I4, rfl, f5⟩ := hv
    replace f5 : Fm sU I I4 := Fm.tr (f2) (f5)
    have s5 := SO.fm hs (Fm.mo f5 sU_sV); have l5 := LwW.fm hw (Fm.mo f5 sU_sV); have g5 := LgW.fm lg (Fm.mo f5 sU_sV)
    refine a_if_eq rfl (fun _ => ?_) (fun c => absurd (by decide) c)
    refine a_l0 rfl rfl rfl ?_
    refine a_l1 rfl rfl rfl ?_
    refine a_gV rfl lX12_435 mo_X12_toDo (r_X12_toDo s5 l5 g5) rfl rfl rfl ⟨12, _, rfl, rfl, rfl⟩ rfl (fun v' h' hv => ?_)
    obtain ⟨⟨v6, rfl⟩, I7, rfl, f8⟩ := hv
    replace f8 : Fm sU I I7 := Fm.tr (f5) (f8)
    have s8 := SO.fm hs (Fm.mo f8 sU_sV); have l8 := LwW.fm hw (Fm.mo f8 sU_sV); have g8 := LgW.fm lg (Fm.mo f8 sU_sV)
    refine a_s3 rfl rfl rfl rfl rfl rfl ?_
    refine a_l2 rfl rfl rfl ?_
    refine a_if_eq rfl (fun c37 => ?_) (fun c37 => ?_)
    · refine a_l3 rfl rfl rfl ?_
      exact a_iret rfl rfl ⟨⟨_, rfl⟩, _, rfl, f8⟩
    · refine a_l0 rfl rfl rfl ?_
      refine a_l0 rfl rfl rfl ?_
      refine a_s rfl rfl ?_
      refine a_eV1 rfl lX12_324 mo_X12_ofState (sp_X12_ofState s8.n s8.du) rfl rfl rfl ⟨12, _, rfl, rfl, rfl⟩ rfl ?_
      refine a_topE (bs_nI12 s8.n) (fun mc9 hmc9 => ?_)
      refine a_l3 rfl rfl rfl ?_
      refine a_s rfl rfl ?_
      refine a_s rfl rfl ?_
      refine a_s rfl rfl ?_
      refine a_gV rfl lX12_339 mo_X12_shameOf (r_X12_shameOf s8 l8 g8) rfl rfl rfl ⟨12, _, rfl, rfl, rfl⟩ rfl (fun v' h' hv => ?_)
      obtain ⟨⟨v10, rfl⟩, I11, rfl, f12⟩ := hv
      replace f12 : Fm sU I I11 := Fm.tr (f8) (f12)
      have s12 := SO.fm hs (Fm.mo f12 sU_sV); have l12 := LwW.fm hw (Fm.mo f12 sU_sV); have g12 := LgW.fm lg (Fm.mo f12 sU_sV)
      refine a_goto rfl ?_
      exact a_iret rfl rfl ⟨⟨_, rfl⟩, _, rfl, f12⟩
  · refine a_s rfl rfl ?_
    refine a_goto rfl ?_
    refine a_s rfl rfl ?_
    refine a_gV rfl lX12_243 mo_X12_throwsIf (r_X12_throwsIf (b := true)) rfl rfl rfl ⟨12, _, rfl, rfl, rfl⟩ rfl (fun v' h' hv => ?_)
    obtain ⟨rfl, I13, rfl, f14⟩ := hv
    replace f14 : Fm sU I I13 := Fm.tr (f2) (f14)
    have s14 := SO.fm hs (Fm.mo f14 sU_sV); have l14 := LwW.fm hw (Fm.mo f14 sU_sV); have g14 := LgW.fm lg (Fm.mo f14 sU_sV)
    refine a_if_eq rfl (fun c => absurd c (by decide)) (fun _ => ?_)
    refine a_s rfl rfl ?_
    exact a_iret rfl rfl ⟨⟨_, rfl⟩, _, rfl, f14⟩
theorem r_X12_gap {S : aS} {I : Nat → Nat → Int32} {L : Nat → Nat → Int64} {w1 w2 t : Nat} {nd np : Nat} (hs : SO nd np (I 421)) (hw : LwW (I 421)) (lg : LgW (I 421)) : Sp S m_X12_gap 17 0 0 [.ref 420] (hp I L w1 w2 t) (QR (Fm sU I) isI L w1 w2 t) nX := by
  refine Sp_of ok_X12_gap rfl rfl ?_
  show AW S m_X12_gap 17 _ _ 0 0 0 [some (.ref 420), none] [] (hp I L w1 w2 t)
  refine a_l0 rfl rfl rfl ?_
  refine a_s rfl rfl ?_
  refine a_puti rfl pfX12_3_12 rfl ?_
  refine a_ren (P := Fm sU I) (Fm.up (Fm.rf (s := sU)) rfl) (fun I1 f2 => ?_)
  have s2 := SO.fm hs (Fm.mo f2 sU_sV); have l2 := LwW.fm hw (Fm.mo f2 sU_sV); have g2 := LgW.fm lg (Fm.mo f2 sU_sV)
  refine a_s rfl rfl ?_
  refine a_s1 rfl rfl rfl rfl rfl rfl ?_
  refine a_cnt (j0 := 0) (fun j ls h => ∃ I', ls = [some (.ref 420), some (.int (nI j))] ∧ h = hp I' L w1 w2 t ∧ Fm sU I I') (by decide) ⟨_, rfl, rfl, f2⟩ ⟨rfl, rfl, trivial⟩ ?_
  rintro j7 _ _ hj7 ⟨Ih7, rfl, rfl, fh7⟩ ih7
  have sh7 := SO.fm hs (Fm.mo fh7 sU_sV); have lh7 := LwW.fm hw (Fm.mo fh7 sU_sV); have gh7 := LgW.fm lg (Fm.mo fh7 sU_sV)
  refine a_l1 rfl rfl rfl ?_
  refine a_s rfl rfl ?_
  refine a_ic_ge rfl (fun c10 => ?_) (fun c10 => ?_)
  · refine a_s rfl rfl ?_
    exact a_iret rfl rfl ⟨⟨_, rfl⟩, _, rfl, fh7⟩
  · have hd7 : j7 < 99 := nI_lt_of (b := 99) c10 hj7 (by decide)
    refine a_l0 rfl rfl rfl ?_
    refine a_l1 rfl rfl rfl ?_
    refine a_gV rfl lX12_444 mo_X12_isGap (r_X12_isGap sh7 lh7 gh7) rfl rfl rfl ⟨12, _, rfl, rfl, rfl⟩ rfl (fun v' h' hv => ?_)
    obtain ⟨⟨v3, rfl⟩, rfl⟩ := hv
    refine a_if_eq rfl (fun c18 => ?_) (fun c18 => ?_)
    · refine a_i1 rfl rfl rfl ?_
      refine a_goto rfl ?_
      exact ih7 _ _ _ _ c10 ⟨_, rfl, rfl, fh7⟩ ⟨rfl, nS _, trivial⟩
    · refine a_l1 rfl rfl rfl ?_
      exact a_iret rfl rfl ⟨⟨_, rfl⟩, _, rfl, fh7⟩
theorem r_X12_lost {S : aS} {I : Nat → Nat → Int32} {L : Nat → Nat → Int64} {w1 w2 t : Nat} {nd np : Nat} (hs : SO nd np (I 421)) (hw : LwW (I 421)) (lg : LgW (I 421)) : Sp S m_X12_lost 15 0 0 [.ref 420] (hp I L w1 w2 t) (QR (Fm sU I) isI L w1 w2 t) nX := by
  refine Sp_of ok_X12_lost rfl rfl ?_
  show AW S m_X12_lost 15 _ _ 0 0 0 [some (.ref 420)] [] (hp I L w1 w2 t)
  refine a_l0 rfl rfl rfl ?_
  refine a_s rfl rfl ?_
  refine a_puti rfl pfX12_3_12 rfl ?_
  refine a_ren (P := Fm sU I) (Fm.up (Fm.rf (s := sU)) rfl) (fun I1 f2 => ?_)
  have s2 := SO.fm hs (Fm.mo f2 sU_sV); have l2 := LwW.fm hw (Fm.mo f2 sU_sV); have g2 := LgW.fm lg (Fm.mo f2 sU_sV)
  refine a_l0 rfl rfl rfl ?_
  refine a_s rfl rfl ?_
  refine a_eV1 rfl lX12_324 mo_X12_ofState (sp_X12_ofState s2.n s2.du) rfl rfl rfl ⟨12, _, rfl, rfl, rfl⟩ rfl ?_
  refine a_topE (bs_nI12 s2.n) (fun mc3 hmc3 => ?_)
  exact a_iret rfl rfl ⟨⟨_, rfl⟩, _, rfl, f2⟩
theorem r_X12_missed {S : aS} {I : Nat → Nat → Int32} {L : Nat → Nat → Int64} {w1 w2 t : Nat} {nd np : Nat} (hs : SO nd np (I 421)) (hw : LwW (I 421)) (lg : LgW (I 421)) : Sp S m_X12_missed 17 0 0 [.ref 420] (hp I L w1 w2 t) (QR (Fm sU I) isI L w1 w2 t) nX := by
  refine Sp_of ok_X12_missed rfl rfl ?_
  show AW S m_X12_missed 17 _ _ 0 0 0 [some (.ref 420), none, none] [] (hp I L w1 w2 t)
  refine a_l0 rfl rfl rfl ?_
  refine a_s rfl rfl ?_
  refine a_puti rfl pfX12_3_12 rfl ?_
  refine a_ren (P := Fm sU I) (Fm.up (Fm.rf (s := sU)) rfl) (fun I1 f2 => ?_)
  have s2 := SO.fm hs (Fm.mo f2 sU_sV); have l2 := LwW.fm hw (Fm.mo f2 sU_sV); have g2 := LgW.fm lg (Fm.mo f2 sU_sV)
  refine a_s rfl rfl ?_
  refine a_s1 rfl rfl rfl rfl rfl rfl ?_
  refine a_s rfl rfl ?_
  refine a_s2 rfl rfl rfl rfl rfl rfl ?_
  refine a_cnt (j0 := 0) (fun j ls h => ∃ a0, ∃ I', ls = [some (.ref 420), some (.int a0), some (.int (nI j))] ∧ h = hp I' L w1 w2 t ∧ Fm sU I I') (by decide) ⟨_, _, rfl, rfl, f2⟩ ⟨rfl, rfl, rfl, trivial⟩ ?_
  rintro j9 _ _ hj9 ⟨a0_9, Ih9, rfl, rfl, fh9⟩ ih9
  have sh9 := SO.fm hs (Fm.mo fh9 sU_sV); have lh9 := LwW.fm hw (Fm.mo fh9 sU_sV); have gh9 := LgW.fm lg (Fm.mo fh9 sU_sV)
  refine a_l2 rfl rfl rfl ?_
  refine a_l0 rfl rfl rfl ?_
  refine a_eV1 rfl lX12_74 mo_X12_duties (sp_X12_duties) rfl rfl rfl ⟨12, _, rfl, rfl, rfl⟩ rfl ?_
  refine a_top (y := nI nd) sh9.du ?_
  refine a_ic_ge rfl (fun c14 => ?_) (fun c14 => ?_)
  · refine a_l1 rfl rfl rfl ?_
    exact a_iret rfl rfl ⟨⟨_, rfl⟩, _, rfl, fh9⟩
  · have hd9 : j9 < nd := nI_lt_of c14 hj9 (by have := hs.n; omega)
    refine a_l1 rfl rfl rfl ?_
    refine a_l0 rfl rfl rfl ?_
    refine a_l2 rfl rfl rfl ?_
    refine a_eV1 rfl lX12_364 mo_X12_isForgotten (sp_X12_isForgotten (d := j9) (Nat.lt_of_lt_of_le hd9 sh9.n)) rfl rfl rfl ⟨12, _, rfl, rfl, rfl⟩ rfl ?_
    refine a_if_eq rfl (fun c23 => ?_) (fun c23 => ?_)
    · refine a_s rfl rfl ?_
      refine a_s rfl rfl ?_
      refine a_s1 rfl rfl rfl rfl rfl rfl ?_
      refine a_i2 rfl rfl rfl ?_
      refine a_goto rfl ?_
      exact ih9 _ _ _ _ c14 ⟨_, _, rfl, rfl, fh9⟩ ⟨rfl, rfl, nS _, trivial⟩
    · refine a_l0 rfl rfl rfl ?_
      refine a_l0 rfl rfl rfl ?_
      refine a_l2 rfl rfl rfl ?_
      refine a_s rfl rfl ?_
      refine a_eV1 rfl lX12_63 mo_X12_of (sp_X12_of (d := j9) (k := 2) (Nat.lt_of_lt_of_le hd9 sh9.n) (by decide)) rfl rfl rfl ⟨12, _, rfl, rfl, rfl⟩ rfl ?_
      refine a_gV rfl lX12_444 mo_X12_isGap (r_X12_isGap sh9 lh9 gh9) rfl rfl rfl ⟨12, _, rfl, rfl, rfl⟩ rfl (fun v' h' hv => ?_)
      obtain ⟨⟨v3, rfl⟩, rfl⟩ := hv
      refine a_if_eq rfl (fun c36 => ?_) (fun c36 => ?_)
      · refine a_s rfl rfl ?_
        refine a_s rfl rfl ?_
        refine a_s1 rfl rfl rfl rfl rfl rfl ?_
        refine a_i2 rfl rfl rfl ?_
        refine a_goto rfl ?_
        exact ih9 _ _ _ _ c14 ⟨_, _, rfl, rfl, fh9⟩ ⟨rfl, rfl, nS _, trivial⟩
      · refine a_s rfl rfl ?_
        refine a_l2 rfl rfl rfl ?_
        refine a_s rfl rfl ?_
        refine a_goto rfl ?_
        refine a_s rfl rfl ?_
        refine a_s1 rfl rfl rfl rfl rfl rfl ?_
        refine a_i2 rfl rfl rfl ?_
        refine a_goto rfl ?_
        exact ih9 _ _ _ _ c14 ⟨_, _, rfl, rfl, fh9⟩ ⟨rfl, rfl, nS _, trivial⟩
theorem r_X12_swap {S : aS} {I : Nat → Nat → Int32} {L : Nat → Nat → Int64} {w1 w2 t : Nat} {x1 x2 : Int32} {nd np : Nat} (hs : SO nd np (I 421)) (hw : LwW (I 421)) (lg : LgW (I 421)) : Sp S m_X12_swap 19 0 0 [.ref 420, .int x1, .int x2] (hp I L w1 w2 t) (QR (Fm sU I) isI L w1 w2 t) nX := by
  refine Sp_of ok_X12_swap rfl rfl ?_
  show AW S m_X12_swap 19 _ _ 0 0 0 [some (.ref 420), some (.int x1), some (.int x2), none, none] [] (hp I L w1 w2 t)
  refine a_l0 rfl rfl rfl ?_
  refine a_s rfl rfl ?_
  refine a_puti rfl pfX12_3_12 rfl ?_
  refine a_ren (P := Fm sU I) (Fm.up (Fm.rf (s := sU)) rfl) (fun I1 f2 => ?_)
  have s2 := SO.fm hs (Fm.mo f2 sU_sV); have l2 := LwW.fm hw (Fm.mo f2 sU_sV); have g2 := LgW.fm lg (Fm.mo f2 sU_sV)
  refine a_l0 rfl rfl rfl ?_
  refine a_l0 rfl rfl rfl ?_
  refine a_l1 rfl rfl rfl ?_
  refine a_eV1 rfl lX12_342 mo_X12_noPerson (r_X12_noPerson s2) rfl rfl rfl ⟨12, _, rfl, rfl, rfl⟩ rfl ?_
  refine a_if_ne rfl (fun c11 => ?_) (fun c11 => ?_)
  · refine a_s rfl rfl ?_
    refine a_goto rfl ?_
    refine a_s rfl rfl ?_
    refine a_gV rfl lX12_243 mo_X12_throwsIf (r_X12_throwsIf (b := true)) rfl rfl rfl ⟨12, _, rfl, rfl, rfl⟩ rfl (fun v' h' hv => ?_)
    obtain ⟨rfl, I3, rfl, f4⟩ := hv
    replace f4 : Fm sU I I3 := Fm.tr (f2) (f4)
    have s4 := SO.fm hs (Fm.mo f4 sU_sV); have l4 := LwW.fm hw (Fm.mo f4 sU_sV); have g4 := LgW.fm lg (Fm.mo f4 sU_sV)
    refine a_if_ne rfl (fun _ => ?_) (fun c => absurd c (by decide))
    refine a_s rfl rfl ?_
    exact a_iret rfl rfl ⟨⟨_, rfl⟩, _, rfl, f4⟩
  · obtain ⟨i5, hi5, rfl⟩ := isIx (n := np) (by have := hs.n; have := hs.p; omega) c11
    refine a_l0 rfl rfl rfl ?_
    refine a_l2 rfl rfl rfl ?_
    refine a_eV1 rfl lX12_342 mo_X12_noPerson (r_X12_noPerson s2) rfl rfl rfl ⟨12, _, rfl, rfl, rfl⟩ rfl ?_
    refine a_if_eq rfl (fun c19 => ?_) (fun c19 => ?_)
    · obtain ⟨i6, hi6, rfl⟩ := isIx (n := np) (by have := hs.n; have := hs.p; omega) c19
      refine a_s rfl rfl ?_
      refine a_s rfl rfl ?_
      refine a_gV rfl lX12_243 mo_X12_throwsIf (r_X12_throwsIf (b := false)) rfl rfl rfl ⟨12, _, rfl, rfl, rfl⟩ rfl (fun v' h' hv => ?_)
      obtain ⟨rfl, I7, rfl, f8⟩ := hv
      replace f8 : Fm sU I I7 := Fm.tr (f2) (f8)
      have s8 := SO.fm hs (Fm.mo f8 sU_sV); have l8 := LwW.fm hw (Fm.mo f8 sU_sV); have g8 := LgW.fm lg (Fm.mo f8 sU_sV)
      refine a_if_ne rfl (fun c => absurd (by decide) c) (fun _ => ?_)
      refine a_l0 rfl rfl rfl ?_
      refine a_l1 rfl rfl rfl ?_
      refine a_l2 rfl rfl rfl ?_
      refine a_ic_ne rfl (fun c37 => ?_) (fun c37 => ?_)
      · refine a_s rfl rfl ?_
        refine a_s rfl rfl ?_
        refine a_gV rfl lX12_243 mo_X12_throwsIf (r_X12_throwsIf (b := false)) rfl rfl rfl ⟨12, _, rfl, rfl, rfl⟩ rfl (fun v' h' hv => ?_)
        obtain ⟨rfl, I9, rfl, f10⟩ := hv
        replace f10 : Fm sU I I9 := Fm.tr (f8) (f10)
        have s10 := SO.fm hs (Fm.mo f10 sU_sV); have l10 := LwW.fm hw (Fm.mo f10 sU_sV); have g10 := LgW.fm lg (Fm.mo f10 sU_sV)
        refine a_if_eq rfl (fun _ => ?_) (fun c => absurd (by decide) c)
        refine a_s rfl rfl ?_
        refine a_s3 rfl rfl rfl rfl rfl rfl ?_
        refine a_cnt (j0 := 0) (fun j ls h => ∃ I', ls = [some (.ref 420), some (.int (nI i5)), some (.int (nI i6)), some (.int (nI j)), none] ∧ h = hp I' L w1 w2 t ∧ Fm sU I I') (by decide) ⟨_, rfl, rfl, f10⟩ ⟨rfl, rfl, rfl, rfl, trivial⟩ ?_
        rintro j56 _ _ hj56 ⟨Ih56, rfl, rfl, fh56⟩ ih56
        have sh56 := SO.fm hs (Fm.mo fh56 sU_sV); have lh56 := LwW.fm hw (Fm.mo fh56 sU_sV); have gh56 := LgW.fm lg (Fm.mo fh56 sU_sV)
        refine a_l3 rfl rfl rfl ?_
        refine a_l0 rfl rfl rfl ?_
        refine a_eV1 rfl lX12_74 mo_X12_duties (sp_X12_duties) rfl rfl rfl ⟨12, _, rfl, rfl, rfl⟩ rfl ?_
        refine a_top (y := nI nd) sh56.du ?_
        refine a_ic_ge rfl (fun c61 => ?_) (fun c61 => ?_)
        · refine a_s rfl rfl ?_
          exact a_iret rfl rfl ⟨⟨_, rfl⟩, _, rfl, fh56⟩
        · have hd56 : j56 < nd := nI_lt_of c61 hj56 (by have := hs.n; omega)
          refine a_s rfl rfl ?_
          refine a_s4 rfl rfl rfl rfl rfl rfl ?_
          refine a_cnt (j0 := 0) (fun j ls h => ∃ I', ls = [some (.ref 420), some (.int (nI i5)), some (.int (nI i6)), some (.int (nI j56)), some (.int (nI j))] ∧ h = hp I' L w1 w2 t ∧ Fm sU I I') (by decide) ⟨_, rfl, rfl, fh56⟩ ⟨rfl, rfl, rfl, rfl, rfl, trivial⟩ ?_
          rintro j67 _ _ hj67 ⟨Ih67, rfl, rfl, fh67⟩ ih67
          have sh67 := SO.fm hs (Fm.mo fh67 sU_sV); have lh67 := LwW.fm hw (Fm.mo fh67 sU_sV); have gh67 := LgW.fm lg (Fm.mo fh67 sU_sV)
          refine a_l4 rfl rfl rfl ?_
          refine a_l0 rfl rfl rfl ?_
          refine a_eV1 rfl lX12_74 mo_X12_duties (sp_X12_duties) rfl rfl rfl ⟨12, _, rfl, rfl, rfl⟩ rfl ?_
          refine a_top (y := nI nd) sh67.du ?_
          refine a_ic_ge rfl (fun c73 => ?_) (fun c73 => ?_)
          · refine a_i3 rfl rfl rfl ?_
            refine a_goto rfl ?_
            exact ih56 _ _ _ _ c61 ⟨_, rfl, rfl, fh67⟩ ⟨rfl, rfl, rfl, nS _, trivial⟩
          · have hd67 : j67 < nd := nI_lt_of c73 hj67 (by have := hs.n; omega)
            refine a_l0 rfl rfl rfl ?_
            refine a_l1 rfl rfl rfl ?_
            refine a_eV1 rfl lX12_327 mo_X12_waitingOf (sp_X12_waitingOf sh67.n sh67.du) rfl rfl rfl ⟨12, _, rfl, rfl, rfl⟩ rfl ?_
            refine a_l3 rfl rfl rfl ?_
            refine a_gS rfl lX12_304 mo_X12_has (r_X12_has) rfl rfl rfl rfl (fun v' h' hv => ?_)
            obtain ⟨⟨v11, rfl⟩, rfl⟩ := hv
            refine a_if_eq rfl (fun c85 => ?_) (fun c85 => ?_)
            · refine a_i4 rfl rfl rfl ?_
              refine a_goto rfl ?_
              exact ih67 _ _ _ _ c73 ⟨_, rfl, rfl, fh67⟩ ⟨rfl, rfl, rfl, rfl, nS _, trivial⟩
            · refine a_l0 rfl rfl rfl ?_
              refine a_l2 rfl rfl rfl ?_
              refine a_eV1 rfl lX12_327 mo_X12_waitingOf (sp_X12_waitingOf sh67.n sh67.du) rfl rfl rfl ⟨12, _, rfl, rfl, rfl⟩ rfl ?_
              refine a_l4 rfl rfl rfl ?_
              refine a_gS rfl lX12_304 mo_X12_has (r_X12_has) rfl rfl rfl rfl (fun v' h' hv => ?_)
              obtain ⟨⟨v12, rfl⟩, rfl⟩ := hv
              refine a_if_eq rfl (fun c98 => ?_) (fun c98 => ?_)
              · refine a_i4 rfl rfl rfl ?_
                refine a_goto rfl ?_
                exact ih67 _ _ _ _ c73 ⟨_, rfl, rfl, fh67⟩ ⟨rfl, rfl, rfl, rfl, nS _, trivial⟩
              · refine a_l0 rfl rfl rfl ?_
                refine a_l1 rfl rfl rfl ?_
                refine a_l2 rfl rfl rfl ?_
                refine a_l3 rfl rfl rfl ?_
                refine a_l4 rfl rfl rfl ?_
                refine a_gV rfl lX12_447 mo_X12_serves (r_X12_serves sh67 lh67 gh67 hi5 hi6 hd56 hd67) rfl rfl rfl ⟨12, _, rfl, rfl, rfl⟩ rfl (fun v' h' hv => ?_)
                obtain ⟨⟨v13, rfl⟩, rfl⟩ := hv
                refine a_if_eq rfl (fun c110 => ?_) (fun c110 => ?_)
                · refine a_i4 rfl rfl rfl ?_
                  refine a_goto rfl ?_
                  exact ih67 _ _ _ _ c73 ⟨_, rfl, rfl, fh67⟩ ⟨rfl, rfl, rfl, rfl, nS _, trivial⟩
                · refine a_s rfl rfl ?_
                  refine a_l3 rfl rfl rfl ?_
                  refine a_s rfl rfl ?_
                  refine a_l4 rfl rfl rfl ?_
                  refine a_s rfl rfl ?_
                  exact a_iret rfl rfl ⟨⟨_, rfl⟩, _, rfl, fh67⟩
      · refine a_s rfl rfl ?_
        refine a_goto rfl ?_
        refine a_s rfl rfl ?_
        refine a_gV rfl lX12_243 mo_X12_throwsIf (r_X12_throwsIf (b := true)) rfl rfl rfl ⟨12, _, rfl, rfl, rfl⟩ rfl (fun v' h' hv => ?_)
        obtain ⟨rfl, I14, rfl, f15⟩ := hv
        replace f15 : Fm sU I I14 := Fm.tr (f8) (f15)
        have s15 := SO.fm hs (Fm.mo f15 sU_sV); have l15 := LwW.fm hw (Fm.mo f15 sU_sV); have g15 := LgW.fm lg (Fm.mo f15 sU_sV)
        refine a_if_eq rfl (fun c => absurd c (by decide)) (fun _ => ?_)
        refine a_s rfl rfl ?_
        exact a_iret rfl rfl ⟨⟨_, rfl⟩, _, rfl, f15⟩
    · refine a_s rfl rfl ?_
      refine a_goto rfl ?_
      refine a_s rfl rfl ?_
      refine a_gV rfl lX12_243 mo_X12_throwsIf (r_X12_throwsIf (b := true)) rfl rfl rfl ⟨12, _, rfl, rfl, rfl⟩ rfl (fun v' h' hv => ?_)
      obtain ⟨rfl, I16, rfl, f17⟩ := hv
      replace f17 : Fm sU I I16 := Fm.tr (f2) (f17)
      have s17 := SO.fm hs (Fm.mo f17 sU_sV); have l17 := LwW.fm hw (Fm.mo f17 sU_sV); have g17 := LgW.fm lg (Fm.mo f17 sU_sV)
      refine a_if_ne rfl (fun _ => ?_) (fun c => absurd c (by decide))
      refine a_s rfl rfl ?_
      exact a_iret rfl rfl ⟨⟨_, rfl⟩, _, rfl, f17⟩
theorem r_X12_rests {S : aS} {I : Nat → Nat → Int32} {L : Nat → Nat → Int64} {w1 w2 t : Nat} {x1 x2 x3 : Int32} {nd np : Nat} (hs : SO nd np (I 421)) (hw : LwW (I 421)) (lg : LgW (I 421)) : Sp S m_X12_rests 21 0 0 [.ref 420, .int x1, .int x2, .int x3] (hp I L w1 w2 t) (QR (Fm sU I) isI L w1 w2 t) nX := by
  refine Sp_of ok_X12_rests rfl rfl ?_
  show AW S m_X12_rests 21 _ _ 0 0 0 [some (.ref 420), some (.int x1), some (.int x2), some (.int x3), none, none, none] [] (hp I L w1 w2 t)
  refine a_l0 rfl rfl rfl ?_
  refine a_s rfl rfl ?_
  refine a_puti rfl pfX12_3_12 rfl ?_
  refine a_ren (P := Fm sU I) (Fm.up (Fm.rf (s := sU)) rfl) (fun I1 f2 => ?_)
  have s2 := SO.fm hs (Fm.mo f2 sU_sV); have l2 := LwW.fm hw (Fm.mo f2 sU_sV); have g2 := LgW.fm lg (Fm.mo f2 sU_sV)
  refine a_l0 rfl rfl rfl ?_
  refine a_l0 rfl rfl rfl ?_
  refine a_l1 rfl rfl rfl ?_
  refine a_eV1 rfl lX12_342 mo_X12_noPerson (r_X12_noPerson s2) rfl rfl rfl ⟨12, _, rfl, rfl, rfl⟩ rfl ?_
  refine a_if_ne rfl (fun c11 => ?_) (fun c11 => ?_)
  · refine a_s rfl rfl ?_
    refine a_goto rfl ?_
    refine a_s rfl rfl ?_
    refine a_gV rfl lX12_243 mo_X12_throwsIf (r_X12_throwsIf (b := true)) rfl rfl rfl ⟨12, _, rfl, rfl, rfl⟩ rfl (fun v' h' hv => ?_)
    obtain ⟨rfl, I3, rfl, f4⟩ := hv
    replace f4 : Fm sU I I3 := Fm.tr (f2) (f4)
    have s4 := SO.fm hs (Fm.mo f4 sU_sV); have l4 := LwW.fm hw (Fm.mo f4 sU_sV); have g4 := LgW.fm lg (Fm.mo f4 sU_sV)
    refine a_if_ne rfl (fun _ => ?_) (fun c => absurd c (by decide))
    refine a_s rfl rfl ?_
    exact a_iret rfl rfl ⟨⟨_, rfl⟩, _, rfl, f4⟩
  · obtain ⟨i5, hi5, rfl⟩ := isIx (n := np) (by have := hs.n; have := hs.p; omega) c11
    refine a_l0 rfl rfl rfl ?_
    refine a_l2 rfl rfl rfl ?_
    refine a_eV1 rfl lX12_342 mo_X12_noPerson (r_X12_noPerson s2) rfl rfl rfl ⟨12, _, rfl, rfl, rfl⟩ rfl ?_
    refine a_if_ne rfl (fun c19 => ?_) (fun c19 => ?_)
    · refine a_s rfl rfl ?_
      refine a_goto rfl ?_
      refine a_s rfl rfl ?_
      refine a_gV rfl lX12_243 mo_X12_throwsIf (r_X12_throwsIf (b := true)) rfl rfl rfl ⟨12, _, rfl, rfl, rfl⟩ rfl (fun v' h' hv => ?_)
      obtain ⟨rfl, I6, rfl, f7⟩ := hv
      replace f7 : Fm sU I I6 := Fm.tr (f2) (f7)
      have s7 := SO.fm hs (Fm.mo f7 sU_sV); have l7 := LwW.fm hw (Fm.mo f7 sU_sV); have g7 := LgW.fm lg (Fm.mo f7 sU_sV)
      refine a_if_ne rfl (fun _ => ?_) (fun c => absurd c (by decide))
      refine a_s rfl rfl ?_
      exact a_iret rfl rfl ⟨⟨_, rfl⟩, _, rfl, f7⟩
    · obtain ⟨i8, hi8, rfl⟩ := isIx (n := np) (by have := hs.n; have := hs.p; omega) c19
      refine a_l0 rfl rfl rfl ?_
      refine a_l3 rfl rfl rfl ?_
      refine a_eV1 rfl lX12_289 mo_X12_noDuty (r_X12_noDuty s2) rfl rfl rfl ⟨12, _, rfl, rfl, rfl⟩ rfl ?_
      refine a_if_eq rfl (fun c27 => ?_) (fun c27 => ?_)
      · obtain ⟨i9, hi9, rfl⟩ := isIx (n := nd) (by have := hs.n; have := hs.p; omega) c27
        refine a_s rfl rfl ?_
        refine a_s rfl rfl ?_
        refine a_gV rfl lX12_243 mo_X12_throwsIf (r_X12_throwsIf (b := false)) rfl rfl rfl ⟨12, _, rfl, rfl, rfl⟩ rfl (fun v' h' hv => ?_)
        obtain ⟨rfl, I10, rfl, f11⟩ := hv
        replace f11 : Fm sU I I10 := Fm.tr (f2) (f11)
        have s11 := SO.fm hs (Fm.mo f11 sU_sV); have l11 := LwW.fm hw (Fm.mo f11 sU_sV); have g11 := LgW.fm lg (Fm.mo f11 sU_sV)
        refine a_if_ne rfl (fun c => absurd (by decide) c) (fun _ => ?_)
        refine a_l0 rfl rfl rfl ?_
        refine a_l1 rfl rfl rfl ?_
        refine a_l2 rfl rfl rfl ?_
        refine a_ic_ne rfl (fun c45 => ?_) (fun c45 => ?_)
        · refine a_s rfl rfl ?_
          refine a_s rfl rfl ?_
          refine a_gV rfl lX12_243 mo_X12_throwsIf (r_X12_throwsIf (b := false)) rfl rfl rfl ⟨12, _, rfl, rfl, rfl⟩ rfl (fun v' h' hv => ?_)
          obtain ⟨rfl, I12, rfl, f13⟩ := hv
          replace f13 : Fm sU I I12 := Fm.tr (f11) (f13)
          have s13 := SO.fm hs (Fm.mo f13 sU_sV); have l13 := LwW.fm hw (Fm.mo f13 sU_sV); have g13 := LgW.fm lg (Fm.mo f13 sU_sV)
          refine a_if_eq rfl (fun _ => ?_) (fun c => absurd (by decide) c)
          refine a_s rfl rfl ?_
          refine a_s4 rfl rfl rfl rfl rfl rfl ?_
          refine a_s rfl rfl ?_
          refine a_s5 rfl rfl rfl rfl rfl rfl ?_
          refine a_cnt (j0 := 0) (fun j ls h => ∃ a0, ∃ I', ls = [some (.ref 420), some (.int (nI i5)), some (.int (nI i8)), some (.int (nI i9)), some (.int a0), some (.int (nI j)), none] ∧ h = hp I' L w1 w2 t ∧ Fm sU I I') (by decide) ⟨_, _, rfl, rfl, f13⟩ ⟨rfl, rfl, rfl, rfl, rfl, rfl, trivial⟩ ?_
          rintro j68 _ _ hj68 ⟨a0_68, Ih68, rfl, rfl, fh68⟩ ih68
          have sh68 := SO.fm hs (Fm.mo fh68 sU_sV); have lh68 := LwW.fm hw (Fm.mo fh68 sU_sV); have gh68 := LgW.fm lg (Fm.mo fh68 sU_sV)
          refine a_l5 rfl rfl rfl ?_
          refine a_s rfl rfl ?_
          refine a_ic_ge rfl (fun c71 => ?_) (fun c71 => ?_)
          · refine a_l4 rfl rfl rfl ?_
            exact a_iret rfl rfl ⟨⟨_, rfl⟩, _, rfl, fh68⟩
          · have hd68 : j68 < 2 := nI_lt_of (b := 2) c71 hj68 (by decide)
            refine a_s rfl rfl ?_
            refine a_s6 rfl rfl rfl rfl rfl rfl ?_
            refine a_cnt (j0 := 0) (fun j ls h => ∃ a0, ∃ I', ls = [some (.ref 420), some (.int (nI i5)), some (.int (nI i8)), some (.int (nI i9)), some (.int a0), some (.int (nI j68)), some (.int (nI j))] ∧ h = hp I' L w1 w2 t ∧ Fm sU I I') (by decide) ⟨_, _, rfl, rfl, fh68⟩ ⟨rfl, rfl, rfl, rfl, rfl, rfl, rfl, trivial⟩ ?_
            rintro j77 _ _ hj77 ⟨a0_77, Ih77, rfl, rfl, fh77⟩ ih77
            have sh77 := SO.fm hs (Fm.mo fh77 sU_sV); have lh77 := LwW.fm hw (Fm.mo fh77 sU_sV); have gh77 := LgW.fm lg (Fm.mo fh77 sU_sV)
            refine a_l6 rfl rfl rfl ?_
            refine a_s rfl rfl ?_
            refine a_ic_ge rfl (fun c80 => ?_) (fun c80 => ?_)
            · refine a_i5 rfl rfl rfl ?_
              refine a_goto rfl ?_
              exact ih68 _ _ _ _ c71 ⟨_, _, rfl, rfl, fh77⟩ ⟨rfl, rfl, rfl, rfl, rfl, nS _, trivial⟩
            · have hd77 : j77 < 2 := nI_lt_of (b := 2) c80 hj77 (by decide)
              refine a_l4 rfl rfl rfl ?_
              refine a_l0 rfl rfl rfl ?_
              refine a_l3 rfl rfl rfl ?_
              refine a_l5 rfl rfl rfl ?_
              refine a_l6 rfl rfl rfl ?_
              refine a_gV rfl lX12_451 mo_X12_hasBy (r_X12_hasBy sh77 lh77 gh77 hi9) rfl rfl rfl ⟨12, _, rfl, rfl, rfl⟩ rfl (fun v' h' hv => ?_)
              obtain ⟨⟨v14, rfl⟩, I15, rfl, f16⟩ := hv
              replace f16 : Fm sU I I15 := Fm.tr (fh77) (f16)
              have s16 := SO.fm hs (Fm.mo f16 sU_sV); have l16 := LwW.fm hw (Fm.mo f16 sU_sV); have g16 := LgW.fm lg (Fm.mo f16 sU_sV)
              refine a_l0 rfl rfl rfl ?_
              refine a_l3 rfl rfl rfl ?_
              refine a_s rfl rfl ?_
              refine a_l5 rfl rfl rfl ?_
              refine a_s rfl rfl ?_
              refine a_l6 rfl rfl rfl ?_
              refine a_gV rfl lX12_451 mo_X12_hasBy (r_X12_hasBy s16 l16 g16 hi9) rfl rfl rfl ⟨12, _, rfl, rfl, rfl⟩ rfl (fun v' h' hv => ?_)
              obtain ⟨⟨v17, rfl⟩, I18, rfl, f19⟩ := hv
              replace f19 : Fm sU I I18 := Fm.tr (f16) (f19)
              have s19 := SO.fm hs (Fm.mo f19 sU_sV); have l19 := LwW.fm hw (Fm.mo f19 sU_sV); have g19 := LgW.fm lg (Fm.mo f19 sU_sV)
              refine a_ic_lt rfl (fun c105 => ?_) (fun c105 => ?_)
              · refine a_s rfl rfl ?_
                refine a_s rfl rfl ?_
                refine a_s4 rfl rfl rfl rfl rfl rfl ?_
                refine a_i6 rfl rfl rfl ?_
                refine a_goto rfl ?_
                exact ih77 _ _ _ _ c80 ⟨_, _, rfl, rfl, f19⟩ ⟨rfl, rfl, rfl, rfl, rfl, rfl, nS _, trivial⟩
              · refine a_l0 rfl rfl rfl ?_
                refine a_l3 rfl rfl rfl ?_
                refine a_l6 rfl rfl rfl ?_
                refine a_l5 rfl rfl rfl ?_
                refine a_gV rfl lX12_451 mo_X12_hasBy (r_X12_hasBy s19 l19 g19 hi9) rfl rfl rfl ⟨12, _, rfl, rfl, rfl⟩ rfl (fun v' h' hv => ?_)
                obtain ⟨⟨v20, rfl⟩, I21, rfl, f22⟩ := hv
                replace f22 : Fm sU I I21 := Fm.tr (f19) (f22)
                have s22 := SO.fm hs (Fm.mo f22 sU_sV); have l22 := LwW.fm hw (Fm.mo f22 sU_sV); have g22 := LgW.fm lg (Fm.mo f22 sU_sV)
                refine a_l0 rfl rfl rfl ?_
                refine a_l3 rfl rfl rfl ?_
                refine a_s rfl rfl ?_
                refine a_l6 rfl rfl rfl ?_
                refine a_s rfl rfl ?_
                refine a_l5 rfl rfl rfl ?_
                refine a_gV rfl lX12_451 mo_X12_hasBy (r_X12_hasBy s22 l22 g22 hi9) rfl rfl rfl ⟨12, _, rfl, rfl, rfl⟩ rfl (fun v' h' hv => ?_)
                obtain ⟨⟨v23, rfl⟩, I24, rfl, f25⟩ := hv
                replace f25 : Fm sU I I24 := Fm.tr (f22) (f25)
                have s25 := SO.fm hs (Fm.mo f25 sU_sV); have l25 := LwW.fm hw (Fm.mo f25 sU_sV); have g25 := LgW.fm lg (Fm.mo f25 sU_sV)
                refine a_ic_lt rfl (fun c128 => ?_) (fun c128 => ?_)
                · refine a_s rfl rfl ?_
                  refine a_s rfl rfl ?_
                  refine a_s4 rfl rfl rfl rfl rfl rfl ?_
                  refine a_i6 rfl rfl rfl ?_
                  refine a_goto rfl ?_
                  exact ih77 _ _ _ _ c80 ⟨_, _, rfl, rfl, f25⟩ ⟨rfl, rfl, rfl, rfl, rfl, rfl, nS _, trivial⟩
                · refine a_s rfl rfl ?_
                  refine a_s rfl rfl ?_
                  refine a_l5 rfl rfl rfl ?_
                  refine a_s rfl rfl ?_
                  refine a_l6 rfl rfl rfl ?_
                  refine a_s rfl rfl ?_
                  refine a_s rfl rfl ?_
                  refine a_goto rfl ?_
                  refine a_s rfl rfl ?_
                  refine a_s4 rfl rfl rfl rfl rfl rfl ?_
                  refine a_i6 rfl rfl rfl ?_
                  refine a_goto rfl ?_
                  exact ih77 _ _ _ _ c80 ⟨_, _, rfl, rfl, f25⟩ ⟨rfl, rfl, rfl, rfl, rfl, rfl, nS _, trivial⟩
        · refine a_s rfl rfl ?_
          refine a_goto rfl ?_
          refine a_s rfl rfl ?_
          refine a_gV rfl lX12_243 mo_X12_throwsIf (r_X12_throwsIf (b := true)) rfl rfl rfl ⟨12, _, rfl, rfl, rfl⟩ rfl (fun v' h' hv => ?_)
          obtain ⟨rfl, I26, rfl, f27⟩ := hv
          replace f27 : Fm sU I I26 := Fm.tr (f11) (f27)
          have s27 := SO.fm hs (Fm.mo f27 sU_sV); have l27 := LwW.fm hw (Fm.mo f27 sU_sV); have g27 := LgW.fm lg (Fm.mo f27 sU_sV)
          refine a_if_eq rfl (fun c => absurd c (by decide)) (fun _ => ?_)
          refine a_s rfl rfl ?_
          exact a_iret rfl rfl ⟨⟨_, rfl⟩, _, rfl, f27⟩
      · refine a_s rfl rfl ?_
        refine a_goto rfl ?_
        refine a_s rfl rfl ?_
        refine a_gV rfl lX12_243 mo_X12_throwsIf (r_X12_throwsIf (b := true)) rfl rfl rfl ⟨12, _, rfl, rfl, rfl⟩ rfl (fun v' h' hv => ?_)
        obtain ⟨rfl, I28, rfl, f29⟩ := hv
        replace f29 : Fm sU I I28 := Fm.tr (f2) (f29)
        have s29 := SO.fm hs (Fm.mo f29 sU_sV); have l29 := LwW.fm hw (Fm.mo f29 sU_sV); have g29 := LgW.fm lg (Fm.mo f29 sU_sV)
        refine a_if_ne rfl (fun _ => ?_) (fun c => absurd c (by decide))
        refine a_s rfl rfl ?_
        exact a_iret rfl rfl ⟨⟨_, rfl⟩, _, rfl, f29⟩
theorem r_X12_sponsor {S : aS} {I : Nat → Nat → Int32} {L : Nat → Nat → Int64} {w1 w2 t : Nat} {nd np : Nat} (hs : SO nd np (I 421)) (hw : LwW (I 421)) (lg : LgW (I 421)) : Sp S m_X12_sponsor 15 0 0 [.ref 420] (hp I L w1 w2 t) (QR (Fm sU I) isI L w1 w2 t) nX := by
  refine Sp_of ok_X12_sponsor rfl rfl ?_
  show AW S m_X12_sponsor 15 _ _ 0 0 0 [some (.ref 420), none, none] [] (hp I L w1 w2 t)
  refine a_l0 rfl rfl rfl ?_
  refine a_s rfl rfl ?_
  refine a_puti rfl pfX12_3_12 rfl ?_
  refine a_ren (P := Fm sU I) (Fm.up (Fm.rf (s := sU)) rfl) (fun I1 f2 => ?_)
  have s2 := SO.fm hs (Fm.mo f2 sU_sV); have l2 := LwW.fm hw (Fm.mo f2 sU_sV); have g2 := LgW.fm lg (Fm.mo f2 sU_sV)
  refine a_s rfl rfl ?_
  refine a_s1 rfl rfl rfl rfl rfl rfl ?_
  refine a_s rfl rfl ?_
  refine a_s2 rfl rfl rfl rfl rfl rfl ?_
  refine a_cnt (j0 := 0) (fun j ls h => ∃ a0, ∃ I', ls = [some (.ref 420), some (.int a0), some (.int (nI j))] ∧ h = hp I' L w1 w2 t ∧ Fm sU I I') (by decide) ⟨_, _, rfl, rfl, f2⟩ ⟨rfl, rfl, rfl, trivial⟩ ?_
  rintro j9 _ _ hj9 ⟨a0_9, Ih9, rfl, rfl, fh9⟩ ih9
  have sh9 := SO.fm hs (Fm.mo fh9 sU_sV); have lh9 := LwW.fm hw (Fm.mo fh9 sU_sV); have gh9 := LgW.fm lg (Fm.mo fh9 sU_sV)
  refine a_l2 rfl rfl rfl ?_
  refine a_l0 rfl rfl rfl ?_
  refine a_eV1 rfl lX12_74 mo_X12_duties (sp_X12_duties) rfl rfl rfl ⟨12, _, rfl, rfl, rfl⟩ rfl ?_
  refine a_top (y := nI nd) sh9.du ?_
  refine a_ic_ge rfl (fun c14 => ?_) (fun c14 => ?_)
  · refine a_l1 rfl rfl rfl ?_
    exact a_iret rfl rfl ⟨⟨_, rfl⟩, _, rfl, fh9⟩
  · have hd9 : j9 < nd := nI_lt_of c14 hj9 (by have := hs.n; omega)
    refine a_l1 rfl rfl rfl ?_
    refine a_l0 rfl rfl rfl ?_
    refine a_l2 rfl rfl rfl ?_
    refine a_eV1 rfl lX12_135 mo_X12_isWaiting (sp_X12_isWaiting (d := j9) (Nat.lt_of_lt_of_le hd9 sh9.n)) rfl rfl rfl ⟨12, _, rfl, rfl, rfl⟩ rfl ?_
    refine a_if_eq rfl (fun c23 => ?_) (fun c23 => ?_)
    · refine a_s rfl rfl ?_
      refine a_s rfl rfl ?_
      refine a_s1 rfl rfl rfl rfl rfl rfl ?_
      refine a_i2 rfl rfl rfl ?_
      refine a_goto rfl ?_
      exact ih9 _ _ _ _ c14 ⟨_, _, rfl, rfl, fh9⟩ ⟨rfl, rfl, nS _, trivial⟩
    · refine a_s rfl rfl ?_
      refine a_l0 rfl rfl rfl ?_
      refine a_getq rfl gfX12_13_12 rfl (rfl) ?_
      refine a_s rfl rfl ?_
      refine a_iald rfl (n := 2033) rfl (⟨by decide, by decide⟩) ?_
      refine a_l0 rfl rfl rfl ?_
      refine a_l2 rfl rfl rfl ?_
      refine a_s rfl rfl ?_
      refine a_eV1 rfl lX12_63 mo_X12_of (sp_X12_of (d := j9) (k := 2) (Nat.lt_of_lt_of_le hd9 sh9.n) (by decide)) rfl rfl rfl ⟨12, _, rfl, rfl, rfl⟩ rfl ?_
      refine a_s rfl rfl ?_
      refine a_l0 rfl rfl rfl ?_
      refine a_l2 rfl rfl rfl ?_
      refine a_s rfl rfl ?_
      refine a_eV1 rfl lX12_63 mo_X12_of (sp_X12_of (d := j9) (k := 1) (Nat.lt_of_lt_of_le hd9 sh9.n) (by decide)) rfl rfl rfl ⟨12, _, rfl, rfl, rfl⟩ rfl ?_
      refine a_s rfl rfl ?_
      refine a_max rfl lX12_265 mj_max rfl rfl ?_
      refine a_goto rfl ?_
      refine a_s rfl rfl ?_
      refine a_s1 rfl rfl rfl rfl rfl rfl ?_
      refine a_i2 rfl rfl rfl ?_
      refine a_goto rfl ?_
      exact ih9 _ _ _ _ c14 ⟨_, _, rfl, rfl, fh9⟩ ⟨rfl, rfl, nS _, trivial⟩
theorem r_X12_idle {S : aS} {I : Nat → Nat → Int32} {L : Nat → Nat → Int64} {w1 w2 t : Nat} {nd np : Nat} (hs : SO nd np (I 421)) (hw : LwW (I 421)) (lg : LgW (I 421)) : Sp S m_X12_idle 17 0 0 [.ref 420] (hp I L w1 w2 t) (QR (Fm sU I) isI L w1 w2 t) nX := by
  refine Sp_of ok_X12_idle rfl rfl ?_
  show AW S m_X12_idle 17 _ _ 0 0 0 [some (.ref 420), none, none] [] (hp I L w1 w2 t)
  refine a_l0 rfl rfl rfl ?_
  refine a_s rfl rfl ?_
  refine a_puti rfl pfX12_3_12 rfl ?_
  refine a_ren (P := Fm sU I) (Fm.up (Fm.rf (s := sU)) rfl) (fun I1 f2 => ?_)
  have s2 := SO.fm hs (Fm.mo f2 sU_sV); have l2 := LwW.fm hw (Fm.mo f2 sU_sV); have g2 := LgW.fm lg (Fm.mo f2 sU_sV)
  refine a_s rfl rfl ?_
  refine a_s1 rfl rfl rfl rfl rfl rfl ?_
  refine a_s rfl rfl ?_
  refine a_s2 rfl rfl rfl rfl rfl rfl ?_
  refine a_cnt (j0 := 0) (fun j ls h => ∃ a0, ∃ I', ls = [some (.ref 420), some (.int a0), some (.int (nI j))] ∧ h = hp I' L w1 w2 t ∧ Fm sU I I') (by decide) ⟨_, _, rfl, rfl, f2⟩ ⟨rfl, rfl, rfl, trivial⟩ ?_
  rintro j9 _ _ hj9 ⟨a0_9, Ih9, rfl, rfl, fh9⟩ ih9
  have sh9 := SO.fm hs (Fm.mo fh9 sU_sV); have lh9 := LwW.fm hw (Fm.mo fh9 sU_sV); have gh9 := LgW.fm lg (Fm.mo fh9 sU_sV)
  refine a_l2 rfl rfl rfl ?_
  refine a_l0 rfl rfl rfl ?_
  refine a_eV1 rfl lX12_66 mo_X12_people (sp_X12_people) rfl rfl rfl ⟨12, _, rfl, rfl, rfl⟩ rfl ?_
  refine a_top (y := nI np) sh9.pu ?_
  refine a_ic_ge rfl (fun c14 => ?_) (fun c14 => ?_)
  · refine a_l1 rfl rfl rfl ?_
    exact a_iret rfl rfl ⟨⟨_, rfl⟩, _, rfl, fh9⟩
  · have hd9 : j9 < np := nI_lt_of c14 hj9 (by have := hs.p; omega)
    refine a_l1 rfl rfl rfl ?_
    refine a_s rfl rfl ?_
    refine a_ic_eq rfl (fun c19 => ?_) (fun c19 => ?_)
    · refine a_l2 rfl rfl rfl ?_
      refine a_s1 rfl rfl rfl rfl rfl rfl ?_
      refine a_i2 rfl rfl rfl ?_
      refine a_goto rfl ?_
      exact ih9 _ _ _ _ c14 ⟨_, _, rfl, rfl, fh9⟩ ⟨rfl, rfl, nS _, trivial⟩
    · refine a_l0 rfl rfl rfl ?_
      refine a_l2 rfl rfl rfl ?_
      refine a_eV1 rfl lX12_333 mo_X12_loadOf (sp_X12_loadOf sh9.n sh9.du) rfl rfl rfl ⟨12, _, rfl, rfl, rfl⟩ rfl ?_
      refine a_l0 rfl rfl rfl ?_
      refine a_l1 rfl rfl rfl ?_
      refine a_eV1 rfl lX12_333 mo_X12_loadOf (sp_X12_loadOf sh9.n sh9.du) rfl rfl rfl ⟨12, _, rfl, rfl, rfl⟩ rfl ?_
      refine a_ic_ge rfl (fun c32 => ?_) (fun c32 => ?_)
      · refine a_i2 rfl rfl rfl ?_
        refine a_goto rfl ?_
        exact ih9 _ _ _ _ c14 ⟨_, _, rfl, rfl, fh9⟩ ⟨rfl, rfl, nS _, trivial⟩
      · refine a_l2 rfl rfl rfl ?_
        refine a_s1 rfl rfl rfl rfl rfl rfl ?_
        refine a_i2 rfl rfl rfl ?_
        refine a_goto rfl ?_
        exact ih9 _ _ _ _ c14 ⟨_, _, rfl, rfl, fh9⟩ ⟨rfl, rfl, nS _, trivial⟩
theorem r_X12_worst {S : aS} {I : Nat → Nat → Int32} {L : Nat → Nat → Int64} {w1 w2 t : Nat} {nd np : Nat} (hs : SO nd np (I 421)) (hw : LwW (I 421)) (lg : LgW (I 421)) : Sp S m_X12_worst 20 0 0 [.ref 420] (hp I L w1 w2 t) (QR (Fm sU I) isI L w1 w2 t) nX := by
  refine Sp_of ok_X12_worst rfl rfl ?_
  show AW S m_X12_worst 20 _ _ 0 0 0 [some (.ref 420), none, none] [] (hp I L w1 w2 t)
  refine a_l0 rfl rfl rfl ?_
  refine a_s rfl rfl ?_
  refine a_puti rfl pfX12_3_12 rfl ?_
  refine a_ren (P := Fm sU I) (Fm.up (Fm.rf (s := sU)) rfl) (fun I1 f2 => ?_)
  have s2 := SO.fm hs (Fm.mo f2 sU_sV); have l2 := LwW.fm hw (Fm.mo f2 sU_sV); have g2 := LgW.fm lg (Fm.mo f2 sU_sV)
  refine a_s rfl rfl ?_
  refine a_s1 rfl rfl rfl rfl rfl rfl ?_
  refine a_s rfl rfl ?_
  refine a_s2 rfl rfl rfl rfl rfl rfl ?_
  refine a_cnt (j0 := 0) (fun j ls h => ∃ a0, ∃ I', ls = [some (.ref 420), some (.int a0), some (.int (nI j))] ∧ h = hp I' L w1 w2 t ∧ Fm sU I I' ∧ (a0 = -1 ∨ ∃ e, e < nd ∧ a0 = nI e)) (by decide) ⟨_, _, rfl, rfl, f2, Or.inl rfl⟩ ⟨rfl, rfl, rfl, trivial⟩ ?_
  rintro j9 _ _ hj9 ⟨a0_9, Ih9, rfl, rfl, fh9, ha0_9⟩ ih9
  have sh9 := SO.fm hs (Fm.mo fh9 sU_sV); have lh9 := LwW.fm hw (Fm.mo fh9 sU_sV); have gh9 := LgW.fm lg (Fm.mo fh9 sU_sV)
  refine a_l2 rfl rfl rfl ?_
  refine a_l0 rfl rfl rfl ?_
  refine a_eV1 rfl lX12_74 mo_X12_duties (sp_X12_duties) rfl rfl rfl ⟨12, _, rfl, rfl, rfl⟩ rfl ?_
  refine a_top (y := nI nd) sh9.du ?_
  refine a_ic_ge rfl (fun c14 => ?_) (fun c14 => ?_)
  · refine a_l1 rfl rfl rfl ?_
    exact a_iret rfl rfl ⟨⟨_, rfl⟩, _, rfl, fh9⟩
  · have hd9 : j9 < nd := nI_lt_of c14 hj9 (by have := hs.n; omega)
    refine a_l0 rfl rfl rfl ?_
    refine a_l2 rfl rfl rfl ?_
    refine a_eV1 rfl lX12_135 mo_X12_isWaiting (sp_X12_isWaiting (d := j9) (Nat.lt_of_lt_of_le hd9 sh9.n)) rfl rfl rfl ⟨12, _, rfl, rfl, rfl⟩ rfl ?_
    refine a_if_eq rfl (fun c22 => ?_) (fun c22 => ?_)
    · refine a_i2 rfl rfl rfl ?_
      refine a_goto rfl ?_
      exact ih9 _ _ _ _ c14 ⟨_, _, rfl, rfl, fh9, ha0_9⟩ ⟨rfl, rfl, nS _, trivial⟩
    · refine a_l1 rfl rfl rfl ?_
      refine a_s rfl rfl ?_
      refine a_ic_eq rfl (fun c27 => ?_) (fun c27 => ?_)
      · refine a_l2 rfl rfl rfl ?_
        refine a_s1 rfl rfl rfl rfl rfl rfl ?_
        refine a_i2 rfl rfl rfl ?_
        refine a_goto rfl ?_
        exact ih9 _ _ _ _ c14 ⟨_, _, rfl, rfl, fh9, Or.inr ⟨_, hd9, rfl⟩⟩ ⟨rfl, rfl, nS _, trivial⟩
      · obtain ⟨e3, he3, rfl⟩ := ha0_9.resolve_left c27
        refine a_l0 rfl rfl rfl ?_
        refine a_l2 rfl rfl rfl ?_
        refine a_gV rfl lX12_318 mo_X12_shamesBy (r_X12_shamesBy sh9 lh9 gh9 hd9) rfl rfl rfl ⟨12, _, rfl, rfl, rfl⟩ rfl (fun v' h' hv => ?_)
        obtain ⟨⟨v4, rfl⟩, I5, rfl, f6⟩ := hv
        replace f6 : Fm sU I I5 := Fm.tr (fh9) (f6)
        have s6 := SO.fm hs (Fm.mo f6 sU_sV); have l6 := LwW.fm hw (Fm.mo f6 sU_sV); have g6 := LgW.fm lg (Fm.mo f6 sU_sV)
        refine a_l0 rfl rfl rfl ?_
        refine a_l1 rfl rfl rfl ?_
        refine a_gV rfl lX12_318 mo_X12_shamesBy (r_X12_shamesBy s6 l6 g6 he3) rfl rfl rfl ⟨12, _, rfl, rfl, rfl⟩ rfl (fun v' h' hv => ?_)
        obtain ⟨⟨v7, rfl⟩, I8, rfl, f9⟩ := hv
        replace f9 : Fm sU I I8 := Fm.tr (f6) (f9)
        have s9 := SO.fm hs (Fm.mo f9 sU_sV); have l9 := LwW.fm hw (Fm.mo f9 sU_sV); have g9 := LgW.fm lg (Fm.mo f9 sU_sV)
        refine a_ic_le rfl (fun c40 => ?_) (fun c40 => ?_)
        · refine a_i2 rfl rfl rfl ?_
          refine a_goto rfl ?_
          exact ih9 _ _ _ _ c14 ⟨_, _, rfl, rfl, f9, Or.inr ⟨_, he3, rfl⟩⟩ ⟨rfl, rfl, nS _, trivial⟩
        · refine a_l2 rfl rfl rfl ?_
          refine a_s1 rfl rfl rfl rfl rfl rfl ?_
          refine a_i2 rfl rfl rfl ?_
          refine a_goto rfl ?_
          exact ih9 _ _ _ _ c14 ⟨_, _, rfl, rfl, f9, Or.inr ⟨_, hd9, rfl⟩⟩ ⟨rfl, rfl, nS _, trivial⟩
theorem r_X12_alike {S : aS} {I : Nat → Nat → Int32} {L : Nat → Nat → Int64} {w1 w2 t : Nat} {nd np : Nat} (hs : SO nd np (I 421)) (hw : LwW (I 421)) (lg : LgW (I 421)) : Sp S m_X12_alike 15 0 0 [.ref 420] (hp I L w1 w2 t) (QR (Fm sU I) isI L w1 w2 t) nX := by
  refine Sp_of ok_X12_alike rfl rfl ?_
  show AW S m_X12_alike 15 _ _ 0 0 0 [some (.ref 420), none, none, none] [] (hp I L w1 w2 t)
  refine a_l0 rfl rfl rfl ?_
  refine a_s rfl rfl ?_
  refine a_puti rfl pfX12_3_12 rfl ?_
  refine a_ren (P := Fm sU I) (Fm.up (Fm.rf (s := sU)) rfl) (fun I1 f2 => ?_)
  have s2 := SO.fm hs (Fm.mo f2 sU_sV); have l2 := LwW.fm hw (Fm.mo f2 sU_sV); have g2 := LgW.fm lg (Fm.mo f2 sU_sV)
  refine a_s rfl rfl ?_
  refine a_s1 rfl rfl rfl rfl rfl rfl ?_
  refine a_s rfl rfl ?_
  refine a_s2 rfl rfl rfl rfl rfl rfl ?_
  refine a_cnt (j0 := 0) (fun j ls h => ∃ a0, ∃ I', ls = [some (.ref 420), some (.int a0), some (.int (nI j)), none] ∧ h = hp I' L w1 w2 t ∧ Fm sU I I') (by decide) ⟨_, _, rfl, rfl, f2⟩ ⟨rfl, rfl, rfl, trivial⟩ ?_
  rintro j9 _ _ hj9 ⟨a0_9, Ih9, rfl, rfl, fh9⟩ ih9
  have sh9 := SO.fm hs (Fm.mo fh9 sU_sV); have lh9 := LwW.fm hw (Fm.mo fh9 sU_sV); have gh9 := LgW.fm lg (Fm.mo fh9 sU_sV)
  refine a_l2 rfl rfl rfl ?_
  refine a_l0 rfl rfl rfl ?_
  refine a_eV1 rfl lX12_74 mo_X12_duties (sp_X12_duties) rfl rfl rfl ⟨12, _, rfl, rfl, rfl⟩ rfl ?_
  refine a_top (y := nI nd) sh9.du ?_
  refine a_ic_ge rfl (fun c14 => ?_) (fun c14 => ?_)
  · refine a_l1 rfl rfl rfl ?_
    exact a_iret rfl rfl ⟨⟨_, rfl⟩, _, rfl, fh9⟩
  · have hd9 : j9 < nd := nI_lt_of c14 hj9 (by have := hs.n; omega)
    refine a_s rfl rfl ?_
    refine a_s3 rfl rfl rfl rfl rfl rfl ?_
    refine a_cnt (j0 := 0) (fun j ls h => ∃ a0, ∃ I', ls = [some (.ref 420), some (.int a0), some (.int (nI j9)), some (.int (nI j))] ∧ h = hp I' L w1 w2 t ∧ Fm sU I I') (by decide) ⟨_, _, rfl, rfl, fh9⟩ ⟨rfl, rfl, rfl, rfl, trivial⟩ ?_
    rintro j19 _ _ hj19 ⟨a0_19, Ih19, rfl, rfl, fh19⟩ ih19
    have sh19 := SO.fm hs (Fm.mo fh19 sU_sV); have lh19 := LwW.fm hw (Fm.mo fh19 sU_sV); have gh19 := LgW.fm lg (Fm.mo fh19 sU_sV)
    refine a_l3 rfl rfl rfl ?_
    refine a_l2 rfl rfl rfl ?_
    refine a_ic_ge rfl (fun c21 => ?_) (fun c21 => ?_)
    · refine a_i2 rfl rfl rfl ?_
      refine a_goto rfl ?_
      exact ih9 _ _ _ _ c14 ⟨_, _, rfl, rfl, fh19⟩ ⟨rfl, rfl, nS _, trivial⟩
    · have hd19 : j19 < nd := Nat.lt_trans (nI_lt_of c21 hj19 (by have := hs.n; have := hs.p; omega)) hd9
      refine a_l1 rfl rfl rfl ?_
      refine a_l0 rfl rfl rfl ?_
      refine a_l2 rfl rfl rfl ?_
      refine a_eV1 rfl lX12_135 mo_X12_isWaiting (sp_X12_isWaiting (d := j9) (Nat.lt_of_lt_of_le hd9 sh19.n)) rfl rfl rfl ⟨12, _, rfl, rfl, rfl⟩ rfl ?_
      refine a_if_eq rfl (fun c30 => ?_) (fun c30 => ?_)
      · refine a_s rfl rfl ?_
        refine a_s rfl rfl ?_
        refine a_s1 rfl rfl rfl rfl rfl rfl ?_
        refine a_i3 rfl rfl rfl ?_
        refine a_goto rfl ?_
        exact ih19 _ _ _ _ c21 ⟨_, _, rfl, rfl, fh19⟩ ⟨rfl, rfl, rfl, nS _, trivial⟩
      · refine a_l0 rfl rfl rfl ?_
        refine a_l3 rfl rfl rfl ?_
        refine a_eV1 rfl lX12_135 mo_X12_isWaiting (sp_X12_isWaiting (d := j19) (Nat.lt_of_lt_of_le hd19 sh19.n)) rfl rfl rfl ⟨12, _, rfl, rfl, rfl⟩ rfl ?_
        refine a_if_eq rfl (fun c38 => ?_) (fun c38 => ?_)
        · refine a_s rfl rfl ?_
          refine a_s rfl rfl ?_
          refine a_s1 rfl rfl rfl rfl rfl rfl ?_
          refine a_i3 rfl rfl rfl ?_
          refine a_goto rfl ?_
          exact ih19 _ _ _ _ c21 ⟨_, _, rfl, rfl, fh19⟩ ⟨rfl, rfl, rfl, nS _, trivial⟩
        · refine a_l0 rfl rfl rfl ?_
          refine a_l2 rfl rfl rfl ?_
          refine a_s rfl rfl ?_
          refine a_eV1 rfl lX12_63 mo_X12_of (sp_X12_of (d := j9) (k := 1) (Nat.lt_of_lt_of_le hd9 sh19.n) (by decide)) rfl rfl rfl ⟨12, _, rfl, rfl, rfl⟩ rfl ?_
          refine a_l0 rfl rfl rfl ?_
          refine a_l3 rfl rfl rfl ?_
          refine a_s rfl rfl ?_
          refine a_eV1 rfl lX12_63 mo_X12_of (sp_X12_of (d := j19) (k := 1) (Nat.lt_of_lt_of_le hd19 sh19.n) (by decide)) rfl rfl rfl ⟨12, _, rfl, rfl, rfl⟩ rfl ?_
          refine a_ic_ne rfl (fun c53 => ?_) (fun c53 => ?_)
          · refine a_s rfl rfl ?_
            refine a_s rfl rfl ?_
            refine a_s1 rfl rfl rfl rfl rfl rfl ?_
            refine a_i3 rfl rfl rfl ?_
            refine a_goto rfl ?_
            exact ih19 _ _ _ _ c21 ⟨_, _, rfl, rfl, fh19⟩ ⟨rfl, rfl, rfl, nS _, trivial⟩
          · refine a_l0 rfl rfl rfl ?_
            refine a_l2 rfl rfl rfl ?_
            refine a_s rfl rfl ?_
            refine a_eV1 rfl lX12_63 mo_X12_of (sp_X12_of (d := j9) (k := 2) (Nat.lt_of_lt_of_le hd9 sh19.n) (by decide)) rfl rfl rfl ⟨12, _, rfl, rfl, rfl⟩ rfl ?_
            refine a_l0 rfl rfl rfl ?_
            refine a_l3 rfl rfl rfl ?_
            refine a_s rfl rfl ?_
            refine a_eV1 rfl lX12_63 mo_X12_of (sp_X12_of (d := j19) (k := 2) (Nat.lt_of_lt_of_le hd19 sh19.n) (by decide)) rfl rfl rfl ⟨12, _, rfl, rfl, rfl⟩ rfl ?_
            refine a_ic_ne rfl (fun c68 => ?_) (fun c68 => ?_)
            · refine a_s rfl rfl ?_
              refine a_s rfl rfl ?_
              refine a_s1 rfl rfl rfl rfl rfl rfl ?_
              refine a_i3 rfl rfl rfl ?_
              refine a_goto rfl ?_
              exact ih19 _ _ _ _ c21 ⟨_, _, rfl, rfl, fh19⟩ ⟨rfl, rfl, rfl, nS _, trivial⟩
            · refine a_s rfl rfl ?_
              refine a_goto rfl ?_
              refine a_s rfl rfl ?_
              refine a_s1 rfl rfl rfl rfl rfl rfl ?_
              refine a_i3 rfl rfl rfl ?_
              refine a_goto rfl ?_
              exact ih19 _ _ _ _ c21 ⟨_, _, rfl, rfl, fh19⟩ ⟨rfl, rfl, rfl, nS _, trivial⟩
theorem r_X12_ahead {S : aS} {I : Nat → Nat → Int32} {L : Nat → Nat → Int64} {w1 w2 t : Nat} {x1 x2 x3 : Int32} {nd np : Nat} (hs : SO nd np (I 421)) (hw : LwW (I 421)) (lg : LgW (I 421)) : Sp S m_X12_ahead 24 0 0 [.ref 420, .int x1, .int x2, .int x3] (hp I L w1 w2 t) (QR (Fm sV I) isI L w1 w2 t) nX := by
  refine Sp_of ok_X12_ahead rfl rfl ?_
  show AW S m_X12_ahead 24 _ _ 0 0 0 [some (.ref 420), some (.int x1), some (.int x2), some (.int x3), none] [] (hp I L w1 w2 t)
  refine a_l0 rfl rfl rfl ?_
  refine a_s rfl rfl ?_
  refine a_puti rfl pfX12_3_12 rfl ?_
  refine a_ren (P := Fm sV I) (Fm.mo (Fm.up (Fm.rf (s := sU)) rfl) sU_sV) (fun I1 f2 => ?_)
  have s2 := SO.fm hs f2; have l2 := LwW.fm hw f2; have g2 := LgW.fm lg f2
  refine a_l0 rfl rfl rfl ?_
  refine a_l0 rfl rfl rfl ?_
  refine a_l1 rfl rfl rfl ?_
  refine a_eV1 rfl lX12_289 mo_X12_noDuty (r_X12_noDuty s2) rfl rfl rfl ⟨12, _, rfl, rfl, rfl⟩ rfl ?_
  refine a_s rfl rfl ?_
  refine a_gV rfl lX12_243 mo_X12_throwsIf (r_X12_throwsIf) rfl rfl rfl ⟨12, _, rfl, rfl, rfl⟩ rfl (fun v' h' hv => ?_)
  obtain ⟨rfl, I3, rfl, f4⟩ := hv
  replace f4 : Fm sV I I3 := Fm.tr (f2) (Fm.mo (f4) sU_sV)
  have s4 := SO.fm hs f4; have l4 := LwW.fm hw f4; have g4 := LgW.fm lg f4
  refine a_if_ne rfl (fun c15 => ?_) (fun c15 => ?_)
  · refine a_s rfl rfl ?_
    exact a_iret rfl rfl ⟨⟨_, rfl⟩, _, rfl, f4⟩
  · obtain ⟨i5, hi5, rfl⟩ := isIx (n := nd) (by have := hs.n; have := hs.p; omega) c15
    refine a_l0 rfl rfl rfl ?_
    refine a_l2 rfl rfl rfl ?_
    refine a_eS1 rfl lX12_392 mo_X12_noDays (sp_X12_noDays) rfl rfl rfl rfl ?_
    refine a_s rfl rfl ?_
    refine a_gV rfl lX12_243 mo_X12_throwsIf (r_X12_throwsIf) rfl rfl rfl ⟨12, _, rfl, rfl, rfl⟩ rfl (fun v' h' hv => ?_)
    obtain ⟨rfl, I6, rfl, f7⟩ := hv
    replace f7 : Fm sV I I6 := Fm.tr (f4) (Fm.mo (f7) sU_sV)
    have s7 := SO.fm hs f7; have l7 := LwW.fm hw f7; have g7 := LgW.fm lg f7
    refine a_if_ne rfl (fun c27 => ?_) (fun c27 => ?_)
    · refine a_s rfl rfl ?_
      exact a_iret rfl rfl ⟨⟨_, rfl⟩, _, rfl, f7⟩
    · refine a_l0 rfl rfl rfl ?_
      refine a_l3 rfl rfl rfl ?_
      refine a_s rfl rfl ?_
      refine a_s rfl rfl ?_
      refine a_eS1 rfl lX12_70 mo_X12_in (sp_X12_in) rfl rfl rfl rfl ?_
      refine a_if_ne rfl (fun c37 => ?_) (fun c37 => ?_)
      · obtain ⟨m8, hm8a, hm8b, rfl⟩ := inB_nI (a := 0) (b := 2) (by decide) (bI_t c37)
        refine a_s rfl rfl ?_
        refine a_s rfl rfl ?_
        refine a_gV rfl lX12_243 mo_X12_throwsIf (r_X12_throwsIf (b := false)) rfl rfl rfl ⟨12, _, rfl, rfl, rfl⟩ rfl (fun v' h' hv => ?_)
        obtain ⟨rfl, I9, rfl, f10⟩ := hv
        replace f10 : Fm sV I I9 := Fm.tr (f7) (Fm.mo (f10) sU_sV)
        have s10 := SO.fm hs f10; have l10 := LwW.fm hw f10; have g10 := LgW.fm lg f10
        refine a_if_eq rfl (fun _ => ?_) (fun c => absurd (by decide) c)
        refine a_l0 rfl rfl rfl ?_
        refine a_eV0 rfl lX12_395 mo_X12_keepsAll (sp_X12_keepsAll) rfl rfl rfl ⟨12, _, rfl, rfl, rfl⟩ rfl ?_
        refine a_ren (P := Kp nd np I) (Kp.mk (f10) hs hw lg) (fun I11 f12 => ?_)
        have s12 := Kp.so f12; have l12 := Kp.lw f12; have g12 := Kp.lg f12
        refine a_l0 rfl rfl rfl ?_
        refine a_l2 rfl rfl rfl ?_
        refine a_s rfl rfl ?_
        refine a_gV rfl lX12_388 mo_X12_goesOn (r_X12_goesOn s12 l12 g12 (b2 := true)) rfl rfl rfl ⟨12, _, rfl, rfl, rfl⟩ rfl (fun v' h' hv => ?_)
        obtain ⟨⟨v13, rfl⟩, I14, rfl, f15⟩ := hv
        replace f15 := Kp.dd (f12) f15
        have s15 := Kp.so f15; have l15 := Kp.lw f15; have g15 := Kp.lg f15
        refine a_s rfl rfl ?_
        refine a_l3 rfl rfl rfl ?_
        refine a_if_ne rfl (fun c66 => ?_) (fun c66 => ?_)
        · refine a_l3 rfl rfl rfl ?_
          refine a_s rfl rfl ?_
          refine a_ic_ne rfl (fun c80 => ?_) (fun c80 => ?_)
          · refine a_l0 rfl rfl rfl ?_
            refine a_l1 rfl rfl rfl ?_
            refine a_s rfl rfl ?_
            refine a_eV1 rfl lX12_63 mo_X12_of (sp_X12_of (d := i5) (k := 5) (Nat.lt_of_lt_of_le hi5 s15.n) (by decide)) rfl rfl rfl ⟨12, _, rfl, rfl, rfl⟩ rfl ?_
            refine a_s4 rfl rfl rfl rfl rfl rfl ?_
            refine a_l0 rfl rfl rfl ?_
            refine a_eV0 rfl lX12_398 mo_X12_bringsBack (sp_X12_bringsBack) rfl rfl rfl ⟨12, _, rfl, rfl, rfl⟩ rfl ?_
            refine a_ren (P := Fm sV I) (Kp.bk (f15)) (fun I16 f17 => ?_)
            have s17 := SO.fm hs f17; have l17 := LwW.fm hw f17; have g17 := LgW.fm lg f17
            refine a_l4 rfl rfl rfl ?_
            exact a_iret rfl rfl ⟨⟨_, rfl⟩, _, rfl, f17⟩
          · refine a_l0 rfl rfl rfl ?_
            refine a_l1 rfl rfl rfl ?_
            refine a_s rfl rfl ?_
            refine a_eV1 rfl lX12_63 mo_X12_of (sp_X12_of (d := i5) (k := 2) (Nat.lt_of_lt_of_le hi5 s15.n) (by decide)) rfl rfl rfl ⟨12, _, rfl, rfl, rfl⟩ rfl ?_
            refine a_goto rfl ?_
            refine a_s4 rfl rfl rfl rfl rfl rfl ?_
            refine a_l0 rfl rfl rfl ?_
            refine a_eV0 rfl lX12_398 mo_X12_bringsBack (sp_X12_bringsBack) rfl rfl rfl ⟨12, _, rfl, rfl, rfl⟩ rfl ?_
            refine a_ren (P := Fm sV I) (Kp.bk (f15)) (fun I18 f19 => ?_)
            have s19 := SO.fm hs f19; have l19 := LwW.fm hw f19; have g19 := LgW.fm lg f19
            refine a_l4 rfl rfl rfl ?_
            exact a_iret rfl rfl ⟨⟨_, rfl⟩, _, rfl, f19⟩
        · refine a_l0 rfl rfl rfl ?_
          refine a_l1 rfl rfl rfl ?_
          refine a_s rfl rfl ?_
          refine a_eV1 rfl lX12_63 mo_X12_of (sp_X12_of (d := i5) (k := 1) (Nat.lt_of_lt_of_le hi5 s15.n) (by decide)) rfl rfl rfl ⟨12, _, rfl, rfl, rfl⟩ rfl ?_
          refine a_goto rfl ?_
          refine a_s4 rfl rfl rfl rfl rfl rfl ?_
          refine a_l0 rfl rfl rfl ?_
          refine a_eV0 rfl lX12_398 mo_X12_bringsBack (sp_X12_bringsBack) rfl rfl rfl ⟨12, _, rfl, rfl, rfl⟩ rfl ?_
          refine a_ren (P := Fm sV I) (Kp.bk (f15)) (fun I20 f21 => ?_)
          have s21 := SO.fm hs f21; have l21 := LwW.fm hw f21; have g21 := LgW.fm lg f21
          refine a_l4 rfl rfl rfl ?_
          exact a_iret rfl rfl ⟨⟨_, rfl⟩, _, rfl, f21⟩
      · refine a_s rfl rfl ?_
        refine a_goto rfl ?_
        refine a_s rfl rfl ?_
        refine a_gV rfl lX12_243 mo_X12_throwsIf (r_X12_throwsIf (b := true)) rfl rfl rfl ⟨12, _, rfl, rfl, rfl⟩ rfl (fun v' h' hv => ?_)
        obtain ⟨rfl, I22, rfl, f23⟩ := hv
        replace f23 : Fm sV I I22 := Fm.tr (f7) (Fm.mo (f23) sU_sV)
        have s23 := SO.fm hs f23; have l23 := LwW.fm hw f23; have g23 := LgW.fm lg f23
        refine a_if_eq rfl (fun c => absurd c (by decide)) (fun _ => ?_)
        refine a_s rfl rfl ?_
        exact a_iret rfl rfl ⟨⟨_, rfl⟩, _, rfl, f23⟩
theorem r_X12_orNone {S : aS} {I : Nat → Nat → Int32} {L : Nat → Nat → Int64} {w1 w2 t : Nat} {x0 : Int32} {nd np : Nat} (hs : SO nd np (I 421)) (hw : LwW (I 421)) (lg : LgW (I 421)) : Sp S m_X12_orNone 12 0 0 [.int x0] (hp I L w1 w2 t) (QE isI (hp I L w1 w2 t)) nX := by
  refine Sp_of ok_X12_orNone rfl rfl ?_
  show AW S m_X12_orNone 12 _ _ 0 0 0 [some (.int x0)] [] (hp I L w1 w2 t)
  refine a_l0 rfl rfl rfl ?_
  refine a_ldcw rfl kX12_401 ?_
  refine a_ic_lt rfl (fun c4 => ?_) (fun c4 => ?_)
  · refine a_l0 rfl rfl rfl ?_
    exact a_iret rfl rfl ⟨⟨_, rfl⟩, rfl⟩
  · refine a_s rfl rfl ?_
    refine a_goto rfl ?_
    exact a_iret rfl rfl ⟨⟨_, rfl⟩, rfl⟩
theorem r_X12_done {S : aS} {I : Nat → Nat → Int32} {L : Nat → Nat → Int64} {w1 w2 t : Nat} {x1 : Int32} {nd np : Nat} (hs : SO nd np (I 421)) (hw : LwW (I 421)) (lg : LgW (I 421)) : Sp S m_X12_done 24 0 0 [.ref 420, .int x1] (hp I L w1 w2 t) (QR (Fm sV I) isI L w1 w2 t) nX := by
  refine Sp_of ok_X12_done rfl rfl ?_
  show AW S m_X12_done 24 _ _ 0 0 0 [some (.ref 420), some (.int x1)] [] (hp I L w1 w2 t)
  refine a_l0 rfl rfl rfl ?_
  refine a_s rfl rfl ?_
  refine a_puti rfl pfX12_3_12 rfl ?_
  refine a_ren (P := Fm sV I) (Fm.mo (Fm.up (Fm.rf (s := sU)) rfl) sU_sV) (fun I1 f2 => ?_)
  have s2 := SO.fm hs f2; have l2 := LwW.fm hw f2; have g2 := LgW.fm lg f2
  refine a_l0 rfl rfl rfl ?_
  refine a_l0 rfl rfl rfl ?_
  refine a_l1 rfl rfl rfl ?_
  refine a_eV1 rfl lX12_289 mo_X12_noDuty (r_X12_noDuty s2) rfl rfl rfl ⟨12, _, rfl, rfl, rfl⟩ rfl ?_
  refine a_s rfl rfl ?_
  refine a_gV rfl lX12_243 mo_X12_throwsIf (r_X12_throwsIf) rfl rfl rfl ⟨12, _, rfl, rfl, rfl⟩ rfl (fun v' h' hv => ?_)
  obtain ⟨rfl, I3, rfl, f4⟩ := hv
  replace f4 : Fm sV I I3 := Fm.tr (f2) (Fm.mo (f4) sU_sV)
  have s4 := SO.fm hs f4; have l4 := LwW.fm hw f4; have g4 := LgW.fm lg f4
  refine a_if_eq rfl (fun c15 => ?_) (fun c15 => ?_)
  · obtain ⟨i5, hi5, rfl⟩ := isIx (n := nd) (by have := hs.n; have := hs.p; omega) c15
    refine a_l0 rfl rfl rfl ?_
    refine a_eV0 rfl lX12_395 mo_X12_keepsAll (sp_X12_keepsAll) rfl rfl rfl ⟨12, _, rfl, rfl, rfl⟩ rfl ?_
    refine a_ren (P := Kp nd np I) (Kp.mk (f4) hs hw lg) (fun I6 f7 => ?_)
    have s7 := Kp.so f7; have l7 := Kp.lw f7; have g7 := Kp.lg f7
    refine a_l0 rfl rfl rfl ?_
    refine a_s rfl rfl ?_
    refine a_l1 rfl rfl rfl ?_
    refine a_s rfl rfl ?_
    refine a_s rfl rfl ?_
    refine a_gV rfl lX12_405 mo_X12_overIn (r_X12_overIn (I0 := I) hs hw lg f7 (b2 := true)) rfl rfl rfl ⟨12, _, rfl, rfl, rfl⟩ rfl (fun v' h' hv => ?_)
    obtain ⟨⟨v10, rfl⟩, I8, rfl, f9⟩ := hv
    have s9 := SO.fm hs f9; have l9 := LwW.fm hw f9; have g9 := LgW.fm lg f9
    refine a_gS rfl lX12_408 mo_X12_orNone (r_X12_orNone s9 l9 g9) rfl rfl rfl rfl (fun v' h' hv => ?_)
    obtain ⟨⟨v11, rfl⟩, rfl⟩ := hv
    exact a_iret rfl rfl ⟨⟨_, rfl⟩, _, rfl, f9⟩
  · refine a_s rfl rfl ?_
    exact a_iret rfl rfl ⟨⟨_, rfl⟩, _, rfl, f4⟩
theorem r_X12_all {S : aS} {I : Nat → Nat → Int32} {L : Nat → Nat → Int64} {w1 w2 t : Nat} {nd np : Nat} (hs : SO nd np (I 421)) (hw : LwW (I 421)) (lg : LgW (I 421)) : Sp S m_X12_all 25 0 0 [.ref 420] (hp I L w1 w2 t) (QR (Fm sV I) isI L w1 w2 t) nX := by
  refine Sp_of ok_X12_all rfl rfl ?_
  show AW S m_X12_all 25 _ _ 0 0 0 [some (.ref 420)] [] (hp I L w1 w2 t)
  refine a_l0 rfl rfl rfl ?_
  refine a_s rfl rfl ?_
  refine a_puti rfl pfX12_3_12 rfl ?_
  refine a_ren (P := Fm sV I) (Fm.mo (Fm.up (Fm.rf (s := sU)) rfl) sU_sV) (fun I1 f2 => ?_)
  have s2 := SO.fm hs f2; have l2 := LwW.fm hw f2; have g2 := LgW.fm lg f2
  refine a_l0 rfl rfl rfl ?_
  refine a_gV rfl lX12_411 mo_X12_allOver (r_X12_allOver s2 l2 g2) rfl rfl rfl ⟨12, _, rfl, rfl, rfl⟩ rfl (fun v' h' hv => ?_)
  obtain ⟨⟨v3, rfl⟩, I4, rfl, f5⟩ := hv
  replace f5 : Fm sV I I4 := Fm.tr (f2) (f5)
  have s5 := SO.fm hs f5; have l5 := LwW.fm hw f5; have g5 := LgW.fm lg f5
  refine a_gS rfl lX12_408 mo_X12_orNone (r_X12_orNone s5 l5 g5) rfl rfl rfl rfl (fun v' h' hv => ?_)
  obtain ⟨⟨v6, rfl⟩, rfl⟩ := hv
  exact a_iret rfl rfl ⟨⟨_, rfl⟩, _, rfl, f5⟩
theorem r_X12_help {S : aS} {I : Nat → Nat → Int32} {L : Nat → Nat → Int64} {w1 w2 t : Nat} {nd np : Nat} (hs : SO nd np (I 421)) (hw : LwW (I 421)) (lg : LgW (I 421)) : Sp S m_X12_help 25 0 0 [.ref 420] (hp I L w1 w2 t) (QR (Fm sV I) isI L w1 w2 t) nX := by
  refine Sp_of ok_X12_help rfl rfl ?_
  show AW S m_X12_help 25 _ _ 0 0 0 [some (.ref 420), none, none, none, none] [] (hp I L w1 w2 t)
  refine a_l0 rfl rfl rfl ?_
  refine a_s rfl rfl ?_
  refine a_puti rfl pfX12_3_12 rfl ?_
  refine a_ren (P := Fm sV I) (Fm.mo (Fm.up (Fm.rf (s := sU)) rfl) sU_sV) (fun I1 f2 => ?_)
  have s2 := SO.fm hs f2; have l2 := LwW.fm hw f2; have g2 := LgW.fm lg f2
  refine a_s rfl rfl ?_
  refine a_s1 rfl rfl rfl rfl rfl rfl ?_
  refine a_l0 rfl rfl rfl ?_
  refine a_gV rfl lX12_411 mo_X12_allOver (r_X12_allOver s2 l2 g2) rfl rfl rfl ⟨12, _, rfl, rfl, rfl⟩ rfl (fun v' h' hv => ?_)
  obtain ⟨⟨v3, rfl⟩, I4, rfl, f5⟩ := hv
  replace f5 : Fm sV I I4 := Fm.tr (f2) (f5)
  have s5 := SO.fm hs f5; have l5 := LwW.fm hw f5; have g5 := LgW.fm lg f5
  refine a_s2 rfl rfl rfl rfl rfl rfl ?_
  refine a_s rfl rfl ?_
  refine a_s3 rfl rfl rfl rfl rfl rfl ?_
  refine a_cnt (j0 := 0) (fun j ls h => ∃ a0, ∃ a1, ∃ I', ls = [some (.ref 420), some (.int a0), some (.int a1), some (.int (nI j)), none] ∧ h = hp I' L w1 w2 t ∧ Fm sV I I') (by decide) ⟨_, _, _, rfl, rfl, f5⟩ ⟨rfl, rfl, rfl, rfl, trivial⟩ ?_
  rintro j14 _ _ hj14 ⟨a0_14, a1_14, Ih14, rfl, rfl, fh14⟩ ih14
  have sh14 := SO.fm hs fh14; have lh14 := LwW.fm hw fh14; have gh14 := LgW.fm lg fh14
  refine a_l3 rfl rfl rfl ?_
  refine a_l0 rfl rfl rfl ?_
  refine a_eV1 rfl lX12_66 mo_X12_people (sp_X12_people) rfl rfl rfl ⟨12, _, rfl, rfl, rfl⟩ rfl ?_
  refine a_top (y := nI np) sh14.pu ?_
  refine a_ic_ge rfl (fun c19 => ?_) (fun c19 => ?_)
  · refine a_l1 rfl rfl rfl ?_
    exact a_iret rfl rfl ⟨⟨_, rfl⟩, _, rfl, fh14⟩
  · have hd14 : j14 < np := nI_lt_of c19 hj14 (by have := hs.p; omega)
    refine a_l0 rfl rfl rfl ?_
    refine a_l3 rfl rfl rfl ?_
    refine a_s rfl rfl ?_
    refine a_l0 rfl rfl rfl ?_
    refine a_l3 rfl rfl rfl ?_
    refine a_s rfl rfl ?_
    refine a_eV1 rfl lX12_252 mo_X12_ofPerson (sp_X12_ofPerson (d := j14) (k := 1) (Nat.lt_of_lt_of_le hd14 sh14.p) (by decide)) rfl rfl rfl ⟨12, _, rfl, rfl, rfl⟩ rfl ?_
    refine a_s rfl rfl ?_
    refine a_s rfl rfl ?_
    refine a_min rfl lX12_295 mj_min rfl rfl ?_
    refine a_gV rfl lX12_414 mo_X12_overWith (r_X12_overWith sh14 lh14 gh14 hd14) rfl rfl rfl ⟨12, _, rfl, rfl, rfl⟩ rfl (fun v' h' hv => ?_)
    obtain ⟨⟨v6, rfl⟩, I7, rfl, f8⟩ := hv
    replace f8 : Fm sV I I7 := Fm.tr (fh14) (f8)
    have s8 := SO.fm hs f8; have l8 := LwW.fm hw f8; have g8 := LgW.fm lg f8
    refine a_s4 rfl rfl rfl rfl rfl rfl ?_
    refine a_l4 rfl rfl rfl ?_
    refine a_l2 rfl rfl rfl ?_
    refine a_ic_ge rfl (fun c45 => ?_) (fun c45 => ?_)
    · refine a_l1 rfl rfl rfl ?_
      refine a_s1 rfl rfl rfl rfl rfl rfl ?_
      refine a_l2 rfl rfl rfl ?_
      refine a_l4 rfl rfl rfl ?_
      refine a_min rfl lX12_295 mj_min rfl rfl ?_
      refine a_s2 rfl rfl rfl rfl rfl rfl ?_
      refine a_i3 rfl rfl rfl ?_
      refine a_goto rfl ?_
      exact ih14 _ _ _ _ c19 ⟨_, _, _, rfl, rfl, f8⟩ ⟨rfl, rfl, rfl, nS _, trivial⟩
    · refine a_l3 rfl rfl rfl ?_
      refine a_goto rfl ?_
      refine a_s1 rfl rfl rfl rfl rfl rfl ?_
      refine a_l2 rfl rfl rfl ?_
      refine a_l4 rfl rfl rfl ?_
      refine a_min rfl lX12_295 mj_min rfl rfl ?_
      refine a_s2 rfl rfl rfl rfl rfl rfl ?_
      refine a_i3 rfl rfl rfl ?_
      refine a_goto rfl ?_
      exact ih14 _ _ _ _ c19 ⟨_, _, _, rfl, rfl, f8⟩ ⟨rfl, rfl, rfl, nS _, trivial⟩
theorem r_X12_crux {S : aS} {I : Nat → Nat → Int32} {L : Nat → Nat → Int64} {w1 w2 t : Nat} {nd np : Nat} (hs : SO nd np (I 421)) (hw : LwW (I 421)) (lg : LgW (I 421)) : Sp S m_X12_crux 25 0 0 [.ref 420] (hp I L w1 w2 t) (QR (Fm sV I) isI L w1 w2 t) nX := by
  refine Sp_of ok_X12_crux rfl rfl ?_
  show AW S m_X12_crux 25 _ _ 0 0 0 [some (.ref 420), none, none, none, none] [] (hp I L w1 w2 t)
  refine a_l0 rfl rfl rfl ?_
  refine a_s rfl rfl ?_
  refine a_puti rfl pfX12_3_12 rfl ?_
  refine a_ren (P := Fm sV I) (Fm.mo (Fm.up (Fm.rf (s := sU)) rfl) sU_sV) (fun I1 f2 => ?_)
  have s2 := SO.fm hs f2; have l2 := LwW.fm hw f2; have g2 := LgW.fm lg f2
  refine a_s rfl rfl ?_
  refine a_s1 rfl rfl rfl rfl rfl rfl ?_
  refine a_l0 rfl rfl rfl ?_
  refine a_gV rfl lX12_411 mo_X12_allOver (r_X12_allOver s2 l2 g2) rfl rfl rfl ⟨12, _, rfl, rfl, rfl⟩ rfl (fun v' h' hv => ?_)
  obtain ⟨⟨v3, rfl⟩, I4, rfl, f5⟩ := hv
  replace f5 : Fm sV I I4 := Fm.tr (f2) (f5)
  have s5 := SO.fm hs f5; have l5 := LwW.fm hw f5; have g5 := LgW.fm lg f5
  refine a_s2 rfl rfl rfl rfl rfl rfl ?_
  refine a_s rfl rfl ?_
  refine a_s3 rfl rfl rfl rfl rfl rfl ?_
  refine a_cnt (j0 := 0) (fun j ls h => ∃ a0, ∃ a1, ∃ I', ls = [some (.ref 420), some (.int a0), some (.int a1), some (.int (nI j)), none] ∧ h = hp I' L w1 w2 t ∧ Fm sV I I') (by decide) ⟨_, _, _, rfl, rfl, f5⟩ ⟨rfl, rfl, rfl, rfl, trivial⟩ ?_
  rintro j14 _ _ hj14 ⟨a0_14, a1_14, Ih14, rfl, rfl, fh14⟩ ih14
  have sh14 := SO.fm hs fh14; have lh14 := LwW.fm hw fh14; have gh14 := LgW.fm lg fh14
  refine a_l3 rfl rfl rfl ?_
  refine a_l0 rfl rfl rfl ?_
  refine a_eV1 rfl lX12_74 mo_X12_duties (sp_X12_duties) rfl rfl rfl ⟨12, _, rfl, rfl, rfl⟩ rfl ?_
  refine a_top (y := nI nd) sh14.du ?_
  refine a_ic_ge rfl (fun c19 => ?_) (fun c19 => ?_)
  · refine a_l1 rfl rfl rfl ?_
    exact a_iret rfl rfl ⟨⟨_, rfl⟩, _, rfl, fh14⟩
  · have hd14 : j14 < nd := nI_lt_of c19 hj14 (by have := hs.n; omega)
    refine a_l0 rfl rfl rfl ?_
    refine a_l3 rfl rfl rfl ?_
    refine a_eV1 rfl lX12_135 mo_X12_isWaiting (sp_X12_isWaiting (d := j14) (Nat.lt_of_lt_of_le hd14 sh14.n)) rfl rfl rfl ⟨12, _, rfl, rfl, rfl⟩ rfl ?_
    refine a_if_ne rfl (fun c27 => ?_) (fun c27 => ?_)
    · refine a_l0 rfl rfl rfl ?_
      refine a_eV0 rfl lX12_395 mo_X12_keepsAll (sp_X12_keepsAll) rfl rfl rfl ⟨12, _, rfl, rfl, rfl⟩ rfl ?_
      refine a_ren (P := Kp nd np I) (Kp.mk (fh14) hs hw lg) (fun I6 f7 => ?_)
      have s7 := Kp.so f7; have l7 := Kp.lw f7; have g7 := Kp.lg f7
      refine a_l0 rfl rfl rfl ?_
      refine a_l3 rfl rfl rfl ?_
      refine a_gV rfl lX12_360 mo_X12_finishes (r_X12_finishes s7 l7 g7 hd14) rfl rfl rfl ⟨12, _, rfl, rfl, rfl⟩ rfl (fun v' h' hv => ?_)
      obtain ⟨rfl, I9, rfl, f10⟩ := hv
      replace f10 := Kp.dd (f7) f10
      have s10 := Kp.so f10; have l10 := Kp.lw f10; have g10 := Kp.lg f10
      refine a_l0 rfl rfl rfl ?_
      refine a_l0 rfl rfl rfl ?_
      refine a_gV rfl lX12_402 mo_X12_allDuties (r_X12_allDuties s10 l10 g10) rfl rfl rfl ⟨12, _, rfl, rfl, rfl⟩ rfl (fun v' h' hv => ?_)
      obtain ⟨⟨v11, rfl⟩, rfl⟩ := hv
      refine a_s rfl rfl ?_
      refine a_gV rfl lX12_405 mo_X12_overIn (r_X12_overIn (I0 := I) hs hw lg f10 (b2 := false)) rfl rfl rfl ⟨12, _, rfl, rfl, rfl⟩ rfl (fun v' h' hv => ?_)
      obtain ⟨⟨v14, rfl⟩, I12, rfl, f13⟩ := hv
      have s13 := SO.fm hs f13; have l13 := LwW.fm hw f13; have g13 := LgW.fm lg f13
      refine a_s4 rfl rfl rfl rfl rfl rfl ?_
      refine a_l4 rfl rfl rfl ?_
      refine a_l2 rfl rfl rfl ?_
      refine a_ic_ge rfl (fun c56 => ?_) (fun c56 => ?_)
      · refine a_l1 rfl rfl rfl ?_
        refine a_s1 rfl rfl rfl rfl rfl rfl ?_
        refine a_l2 rfl rfl rfl ?_
        refine a_l4 rfl rfl rfl ?_
        refine a_min rfl lX12_295 mj_min rfl rfl ?_
        refine a_s2 rfl rfl rfl rfl rfl rfl ?_
        refine a_i3 rfl rfl rfl ?_
        refine a_goto rfl ?_
        exact ih14 _ _ _ _ c19 ⟨_, _, _, rfl, rfl, f13⟩ ⟨rfl, rfl, rfl, nS _, trivial⟩
      · refine a_l3 rfl rfl rfl ?_
        refine a_goto rfl ?_
        refine a_s1 rfl rfl rfl rfl rfl rfl ?_
        refine a_l2 rfl rfl rfl ?_
        refine a_l4 rfl rfl rfl ?_
        refine a_min rfl lX12_295 mj_min rfl rfl ?_
        refine a_s2 rfl rfl rfl rfl rfl rfl ?_
        refine a_i3 rfl rfl rfl ?_
        refine a_goto rfl ?_
        exact ih14 _ _ _ _ c19 ⟨_, _, _, rfl, rfl, f13⟩ ⟨rfl, rfl, rfl, nS _, trivial⟩
    · refine a_goto rfl ?_
      refine a_i3 rfl rfl rfl ?_
      refine a_goto rfl ?_
      exact ih14 _ _ _ _ c19 ⟨_, _, _, rfl, rfl, fh14⟩ ⟨rfl, rfl, rfl, nS _, trivial⟩
theorem r_X12_sick {S : aS} {I : Nat → Nat → Int32} {L : Nat → Nat → Int64} {w1 w2 t : Nat} {x1 : Int32} {nd np : Nat} (hs : SO nd np (I 421)) (hw : LwW (I 421)) (lg : LgW (I 421)) : Sp S m_X12_sick 25 0 0 [.ref 420, .int x1] (hp I L w1 w2 t) (QR (Fm sV I) isI L w1 w2 t) nX := by
  refine Sp_of ok_X12_sick rfl rfl ?_
  show AW S m_X12_sick 25 _ _ 0 0 0 [some (.ref 420), some (.int x1), none, none] [] (hp I L w1 w2 t)
  refine a_l0 rfl rfl rfl ?_
  refine a_s rfl rfl ?_
  refine a_puti rfl pfX12_3_12 rfl ?_
  refine a_ren (P := Fm sV I) (Fm.mo (Fm.up (Fm.rf (s := sU)) rfl) sU_sV) (fun I1 f2 => ?_)
  have s2 := SO.fm hs f2; have l2 := LwW.fm hw f2; have g2 := LgW.fm lg f2
  refine a_l0 rfl rfl rfl ?_
  refine a_l0 rfl rfl rfl ?_
  refine a_l1 rfl rfl rfl ?_
  refine a_eV1 rfl lX12_342 mo_X12_noPerson (r_X12_noPerson s2) rfl rfl rfl ⟨12, _, rfl, rfl, rfl⟩ rfl ?_
  refine a_s rfl rfl ?_
  refine a_gV rfl lX12_243 mo_X12_throwsIf (r_X12_throwsIf) rfl rfl rfl ⟨12, _, rfl, rfl, rfl⟩ rfl (fun v' h' hv => ?_)
  obtain ⟨rfl, I3, rfl, f4⟩ := hv
  replace f4 : Fm sV I I3 := Fm.tr (f2) (Fm.mo (f4) sU_sV)
  have s4 := SO.fm hs f4; have l4 := LwW.fm hw f4; have g4 := LgW.fm lg f4
  refine a_if_eq rfl (fun c15 => ?_) (fun c15 => ?_)
  · obtain ⟨i5, hi5, rfl⟩ := isIx (n := np) (by have := hs.n; have := hs.p; omega) c15
    refine a_l0 rfl rfl rfl ?_
    refine a_gV rfl lX12_411 mo_X12_allOver (r_X12_allOver s4 l4 g4) rfl rfl rfl ⟨12, _, rfl, rfl, rfl⟩ rfl (fun v' h' hv => ?_)
    obtain ⟨⟨v6, rfl⟩, I7, rfl, f8⟩ := hv
    replace f8 : Fm sV I I7 := Fm.tr (f4) (f8)
    have s8 := SO.fm hs f8; have l8 := LwW.fm hw f8; have g8 := LgW.fm lg f8
    refine a_s2 rfl rfl rfl rfl rfl rfl ?_
    refine a_l0 rfl rfl rfl ?_
    refine a_l1 rfl rfl rfl ?_
    refine a_s rfl rfl ?_
    refine a_gV rfl lX12_414 mo_X12_overWith (r_X12_overWith s8 l8 g8 hi5) rfl rfl rfl ⟨12, _, rfl, rfl, rfl⟩ rfl (fun v' h' hv => ?_)
    obtain ⟨⟨v9, rfl⟩, I10, rfl, f11⟩ := hv
    replace f11 : Fm sV I I10 := Fm.tr (f8) (f11)
    have s11 := SO.fm hs f11; have l11 := LwW.fm hw f11; have g11 := LgW.fm lg f11
    refine a_s3 rfl rfl rfl rfl rfl rfl ?_
    refine a_l2 rfl rfl rfl ?_
    refine a_ldcw rfl kX12_401 ?_
    refine a_ic_ne rfl (fun c36 => ?_) (fun c36 => ?_)
    · refine a_l3 rfl rfl rfl ?_
      refine a_ldcw rfl kX12_401 ?_
      refine a_ic_ne rfl (fun c45 => ?_) (fun c45 => ?_)
      · refine a_l3 rfl rfl rfl ?_
        refine a_l2 rfl rfl rfl ?_
        refine a_s rfl rfl ?_
        exact a_iret rfl rfl ⟨⟨_, rfl⟩, _, rfl, f11⟩
      · refine a_s rfl rfl ?_
        refine a_goto rfl ?_
        exact a_iret rfl rfl ⟨⟨_, rfl⟩, _, rfl, f11⟩
    · refine a_s rfl rfl ?_
      exact a_iret rfl rfl ⟨⟨_, rfl⟩, _, rfl, f11⟩
  · refine a_s rfl rfl ?_
    exact a_iret rfl rfl ⟨⟨_, rfl⟩, _, rfl, f4⟩
theorem r_X12_trial {S : aS} {I : Nat → Nat → Int32} {L : Nat → Nat → Int64} {w1 w2 t : Nat} {x1 : Int32} {b2 : Bool} {nd np : Nat} (hs : SO nd np (I 421)) (hw : LwW (I 421)) (lg : LgW (I 421)) : Sp S m_X12_trial 24 0 0 [.ref 420, .int x1, .int (bI b2)] (hp I L w1 w2 t) (QR (Fm sV I) isI L w1 w2 t) nX := by
  refine Sp_of ok_X12_trial rfl rfl ?_
  show AW S m_X12_trial 24 _ _ 0 0 0 [some (.ref 420), some (.int x1), some (.int (bI b2)), none] [] (hp I L w1 w2 t)
  refine a_l0 rfl rfl rfl ?_
  refine a_s rfl rfl ?_
  refine a_puti rfl pfX12_3_12 rfl ?_
  refine a_ren (P := Fm sV I) (Fm.mo (Fm.up (Fm.rf (s := sU)) rfl) sU_sV) (fun I1 f2 => ?_)
  have s2 := SO.fm hs f2; have l2 := LwW.fm hw f2; have g2 := LgW.fm lg f2
  refine a_l0 rfl rfl rfl ?_
  refine a_l1 rfl rfl rfl ?_
  refine a_eS1 rfl lX12_392 mo_X12_noDays (sp_X12_noDays) rfl rfl rfl rfl ?_
  refine a_s rfl rfl ?_
  refine a_gV rfl lX12_243 mo_X12_throwsIf (r_X12_throwsIf) rfl rfl rfl ⟨12, _, rfl, rfl, rfl⟩ rfl (fun v' h' hv => ?_)
  obtain ⟨rfl, I3, rfl, f4⟩ := hv
  replace f4 : Fm sV I I3 := Fm.tr (f2) (Fm.mo (f4) sU_sV)
  have s4 := SO.fm hs f4; have l4 := LwW.fm hw f4; have g4 := LgW.fm lg f4
  refine a_if_eq rfl (fun c14 => ?_) (fun c14 => ?_)
  · refine a_l0 rfl rfl rfl ?_
    refine a_eV0 rfl lX12_395 mo_X12_keepsAll (sp_X12_keepsAll) rfl rfl rfl ⟨12, _, rfl, rfl, rfl⟩ rfl ?_
    refine a_ren (P := Kp nd np I) (Kp.mk (f4) hs hw lg) (fun I5 f6 => ?_)
    have s6 := Kp.so f6; have l6 := Kp.lw f6; have g6 := Kp.lg f6
    refine a_l0 rfl rfl rfl ?_
    refine a_l1 rfl rfl rfl ?_
    refine a_s rfl rfl ?_
    refine a_gV rfl lX12_388 mo_X12_goesOn (r_X12_goesOn s6 l6 g6 (b2 := false)) rfl rfl rfl ⟨12, _, rfl, rfl, rfl⟩ rfl (fun v' h' hv => ?_)
    obtain ⟨⟨v7, rfl⟩, I8, rfl, f9⟩ := hv
    replace f9 := Kp.dd (f6) f9
    have s9 := Kp.so f9; have l9 := Kp.lw f9; have g9 := Kp.lg f9
    refine a_s rfl rfl ?_
    refine a_l2 rfl rfl rfl ?_
    refine a_if_eq rfl (fun c31 => ?_) (fun c31 => ?_)
    · refine a_l0 rfl rfl rfl ?_
      refine a_l0 rfl rfl rfl ?_
      refine a_s rfl rfl ?_
      refine a_eV1 rfl lX12_324 mo_X12_ofState (sp_X12_ofState s9.n s9.du) rfl rfl rfl ⟨12, _, rfl, rfl, rfl⟩ rfl ?_
      refine a_topE (bs_nI12 s9.n) (fun mc10 hmc10 => ?_)
      refine a_gV rfl lX12_339 mo_X12_shameOf (r_X12_shameOf s9 l9 g9) rfl rfl rfl ⟨12, _, rfl, rfl, rfl⟩ rfl (fun v' h' hv => ?_)
      obtain ⟨⟨v11, rfl⟩, I12, rfl, f13⟩ := hv
      replace f13 : Kp nd np I I12 := Kp.fm (f9) (f13)
      have s13 := Kp.so f13; have l13 := Kp.lw f13; have g13 := Kp.lg f13
      refine a_s3 rfl rfl rfl rfl rfl rfl ?_
      refine a_l0 rfl rfl rfl ?_
      refine a_eV0 rfl lX12_398 mo_X12_bringsBack (sp_X12_bringsBack) rfl rfl rfl ⟨12, _, rfl, rfl, rfl⟩ rfl ?_
      refine a_ren (P := Fm sV I) (Kp.bk (f13)) (fun I14 f15 => ?_)
      have s15 := SO.fm hs f15; have l15 := LwW.fm hw f15; have g15 := LgW.fm lg f15
      refine a_l3 rfl rfl rfl ?_
      exact a_iret rfl rfl ⟨⟨_, rfl⟩, _, rfl, f15⟩
    · refine a_l0 rfl rfl rfl ?_
      refine a_s rfl rfl ?_
      refine a_eV1 rfl lX12_324 mo_X12_ofState (sp_X12_ofState s9.n s9.du) rfl rfl rfl ⟨12, _, rfl, rfl, rfl⟩ rfl ?_
      refine a_topE (bs_nI12 s9.n) (fun mc16 hmc16 => ?_)
      refine a_goto rfl ?_
      refine a_s3 rfl rfl rfl rfl rfl rfl ?_
      refine a_l0 rfl rfl rfl ?_
      refine a_eV0 rfl lX12_398 mo_X12_bringsBack (sp_X12_bringsBack) rfl rfl rfl ⟨12, _, rfl, rfl, rfl⟩ rfl ?_
      refine a_ren (P := Fm sV I) (Kp.bk (f9)) (fun I17 f18 => ?_)
      have s18 := SO.fm hs f18; have l18 := LwW.fm hw f18; have g18 := LgW.fm lg f18
      refine a_l3 rfl rfl rfl ?_
      exact a_iret rfl rfl ⟨⟨_, rfl⟩, _, rfl, f18⟩
  · refine a_s rfl rfl ?_
    exact a_iret rfl rfl ⟨⟨_, rfl⟩, _, rfl, f4⟩
theorem r_X12_span {S : aS} {I : Nat → Nat → Int32} {L : Nat → Nat → Int64} {w1 w2 t : Nat} {x1 : Int32} {b2 : Bool} {nd np : Nat} (hs : SO nd np (I 421)) (hw : LwW (I 421)) (lg : LgW (I 421)) : Sp S m_X12_span 24 0 0 [.ref 420, .int x1, .int (bI b2)] (hp I L w1 w2 t) (QR (Fm sV I) isI L w1 w2 t) nX := by
  refine Sp_of ok_X12_span rfl rfl ?_
  show AW S m_X12_span 24 _ _ 0 0 0 [some (.ref 420), some (.int x1), some (.int (bI b2)), none, none, none] [] (hp I L w1 w2 t)
  refine a_l0 rfl rfl rfl ?_
  refine a_s rfl rfl ?_
  refine a_puti rfl pfX12_3_12 rfl ?_
  refine a_ren (P := Fm sV I) (Fm.mo (Fm.up (Fm.rf (s := sU)) rfl) sU_sV) (fun I1 f2 => ?_)
  have s2 := SO.fm hs f2; have l2 := LwW.fm hw f2; have g2 := LgW.fm lg f2
  refine a_l0 rfl rfl rfl ?_
  refine a_l1 rfl rfl rfl ?_
  refine a_eS1 rfl lX12_392 mo_X12_noDays (sp_X12_noDays) rfl rfl rfl rfl ?_
  refine a_s rfl rfl ?_
  refine a_gV rfl lX12_243 mo_X12_throwsIf (r_X12_throwsIf) rfl rfl rfl ⟨12, _, rfl, rfl, rfl⟩ rfl (fun v' h' hv => ?_)
  obtain ⟨rfl, I3, rfl, f4⟩ := hv
  replace f4 : Fm sV I I3 := Fm.tr (f2) (Fm.mo (f4) sU_sV)
  have s4 := SO.fm hs f4; have l4 := LwW.fm hw f4; have g4 := LgW.fm lg f4
  refine a_if_eq rfl (fun c14 => ?_) (fun c14 => ?_)
  · refine a_l0 rfl rfl rfl ?_
    refine a_eV0 rfl lX12_395 mo_X12_keepsAll (sp_X12_keepsAll) rfl rfl rfl ⟨12, _, rfl, rfl, rfl⟩ rfl ?_
    refine a_ren (P := Kw nd np I) (Kw.mk (f4) hs hw lg) (fun I5 f6 => ?_)
    have s6 := Kp.so f6.1; have l6 := Kp.lw f6.1; have g6 := Kp.lg f6.1
    refine a_s rfl rfl ?_
    refine a_s3 rfl rfl rfl rfl rfl rfl ?_
    refine a_s rfl rfl ?_
    refine a_s4 rfl rfl rfl rfl rfl rfl ?_
    refine a_cnt (j0 := 1) (fun j ls h => ∃ a0, ∃ I', ls = [some (.ref 420), some (.int x1), some (.int (bI b2)), some (.int a0), some (.int (nI j)), none] ∧ h = hp I' L w1 w2 t ∧ Kw nd np I I') (by decide) ⟨_, _, rfl, rfl, f6⟩ ⟨rfl, rfl, rfl, rfl, rfl, trivial⟩ ?_
    rintro j28 _ _ hj28 ⟨a0_28, Ih28, rfl, rfl, fh28⟩ ih28
    have sh28 := Kp.so fh28.1; have lh28 := Kp.lw fh28.1; have gh28 := Kp.lg fh28.1
    refine a_l4 rfl rfl rfl ?_
    refine a_s rfl rfl ?_
    refine a_ic_gt rfl (fun c32 => ?_) (fun c32 => ?_)
    · have fz := fh28.2
      refine a_l3 rfl rfl rfl ?_
      exact a_iret rfl rfl ⟨⟨_, rfl⟩, _, rfl, fz⟩
    · have fk := fh28.1
      refine a_l0 rfl rfl rfl ?_
      refine a_getq rfl gfX12_13_12 rfl (rfl) ?_
      refine a_s rfl rfl ?_
      refine a_l4 rfl rfl rfl ?_
      refine a_iastv (k := 10) rfl (n := 2033) rfl (⟨by decide, by decide⟩) (rfl) ?_
      refine a_ren (P := Kp nd np I) (Kp.dd (fk) (Dd.up Dd.rf rfl (by decide))) (fun I7 f8 => ?_)
      have s8 := Kp.so f8; have l8 := Kp.lw f8; have g8 := Kp.lg f8
      refine a_l0 rfl rfl rfl ?_
      refine a_l1 rfl rfl rfl ?_
      refine a_s rfl rfl ?_
      refine a_gV rfl lX12_388 mo_X12_goesOn (r_X12_goesOn s8 l8 g8 (b2 := false)) rfl rfl rfl ⟨12, _, rfl, rfl, rfl⟩ rfl (fun v' h' hv => ?_)
      obtain ⟨⟨v9, rfl⟩, I10, rfl, f11⟩ := hv
      replace f11 := Kp.dd (f8) f11
      have s11 := Kp.so f11; have l11 := Kp.lw f11; have g11 := Kp.lg f11
      refine a_s rfl rfl ?_
      refine a_l0 rfl rfl rfl ?_
      refine a_l0 rfl rfl rfl ?_
      refine a_s rfl rfl ?_
      refine a_eV1 rfl lX12_324 mo_X12_ofState (sp_X12_ofState s11.n s11.du) rfl rfl rfl ⟨12, _, rfl, rfl, rfl⟩ rfl ?_
      refine a_topE (bs_nI12 s11.n) (fun mc12 hmc12 => ?_)
      refine a_gV rfl lX12_339 mo_X12_shameOf (r_X12_shameOf s11 l11 g11) rfl rfl rfl ⟨12, _, rfl, rfl, rfl⟩ rfl (fun v' h' hv => ?_)
      obtain ⟨⟨v13, rfl⟩, I14, rfl, f15⟩ := hv
      replace f15 : Kp nd np I I14 := Kp.fm (f11) (f15)
      have s15 := Kp.so f15; have l15 := Kp.lw f15; have g15 := Kp.lg f15
      refine a_s5 rfl rfl rfl rfl rfl rfl ?_
      refine a_l0 rfl rfl rfl ?_
      refine a_eV0 rfl lX12_398 mo_X12_bringsBack (sp_X12_bringsBack) rfl rfl rfl ⟨12, _, rfl, rfl, rfl⟩ rfl ?_
      refine a_ren (P := Kw nd np I) (⟨Kp.bk2 (f15) hs hw lg, Kp.bk (f15)⟩) (fun I16 f17 => ?_)
      have s17 := Kp.so f17.1; have l17 := Kp.lw f17.1; have g17 := Kp.lg f17.1
      refine a_l3 rfl rfl rfl ?_
      refine a_if_ge rfl (fun c67 => ?_) (fun c67 => ?_)
      · refine a_l2 rfl rfl rfl ?_
        refine a_if_eq rfl (fun c76 => ?_) (fun c76 => ?_)
        · refine a_l3 rfl rfl rfl ?_
          refine a_l5 rfl rfl rfl ?_
          refine a_min rfl lX12_295 mj_min rfl rfl ?_
          refine a_s3 rfl rfl rfl rfl rfl rfl ?_
          refine a_i4 rfl rfl rfl ?_
          refine a_goto rfl ?_
          exact ih28 _ _ _ _ (nI_gt1 (a := 6) (by decide) hj28 c32) ⟨_, _, rfl, rfl, f17⟩ ⟨rfl, rfl, rfl, rfl, nS _, trivial⟩
        · refine a_l3 rfl rfl rfl ?_
          refine a_l5 rfl rfl rfl ?_
          refine a_max rfl lX12_265 mj_max rfl rfl ?_
          refine a_goto rfl ?_
          refine a_s3 rfl rfl rfl rfl rfl rfl ?_
          refine a_i4 rfl rfl rfl ?_
          refine a_goto rfl ?_
          exact ih28 _ _ _ _ (nI_gt1 (a := 6) (by decide) hj28 c32) ⟨_, _, rfl, rfl, f17⟩ ⟨rfl, rfl, rfl, rfl, nS _, trivial⟩
      · refine a_l5 rfl rfl rfl ?_
        refine a_goto rfl ?_
        refine a_s3 rfl rfl rfl rfl rfl rfl ?_
        refine a_i4 rfl rfl rfl ?_
        refine a_goto rfl ?_
        exact ih28 _ _ _ _ (nI_gt1 (a := 6) (by decide) hj28 c32) ⟨_, _, rfl, rfl, f17⟩ ⟨rfl, rfl, rfl, rfl, nS _, trivial⟩
  · refine a_s rfl rfl ?_
    exact a_iret rfl rfl ⟨⟨_, rfl⟩, _, rfl, f4⟩
theorem r_X12_seed {S : aS} {I : Nat → Nat → Int32} {L : Nat → Nat → Int64} {w1 w2 t : Nat} {x1 : Int32} {nd np : Nat} (hs : SO nd np (I 421)) (hw : LwW (I 421)) (lg : LgW (I 421)) : Sp S m_X12_seed 12 0 0 [.ref 420, .int x1] (hp I L w1 w2 t) (QR (Dd I) isI L w1 w2 t) nX := by
  refine Sp_of ok_X12_seed rfl rfl ?_
  show AW S m_X12_seed 12 _ _ 0 0 0 [some (.ref 420), some (.int x1), none] [] (hp I L w1 w2 t)
  refine a_l0 rfl rfl rfl ?_
  refine a_s rfl rfl ?_
  refine a_puti rfl pfX12_3_12 rfl ?_
  refine a_ren (P := Dd I) (Dd.fm (Dd.rf) (Fm.up (Fm.rf (s := sU)) rfl)) (fun I1 f2 => ?_)
  have s2 := Dd.so hs f2; have l2 := Dd.lw hw f2; have g2 := Dd.lg lg f2
  refine a_l0 rfl rfl rfl ?_
  refine a_getq rfl gfX12_13_12 rfl (rfl) ?_
  refine a_s rfl rfl ?_
  refine a_iald rfl (n := 2033) rfl (⟨by decide, by decide⟩) ?_
  refine a_s2 rfl rfl rfl rfl rfl rfl ?_
  refine a_l0 rfl rfl rfl ?_
  refine a_getq rfl gfX12_13_12 rfl (rfl) ?_
  refine a_s rfl rfl ?_
  refine a_l1 rfl rfl rfl ?_
  refine a_iastv (k := 10) rfl (n := 2033) rfl (⟨by decide, by decide⟩) (rfl) ?_
  refine a_ren (P := Dd I) (Dd.up (f2) rfl (by decide)) (fun I3 f4 => ?_)
  have s4 := Dd.so hs f4; have l4 := Dd.lw hw f4; have g4 := Dd.lg lg f4
  refine a_l2 rfl rfl rfl ?_
  exact a_iret rfl rfl ⟨⟨_, rfl⟩, _, rfl, f4⟩
theorem r_X12_count {S : aS} {I : Nat → Nat → Int32} {L : Nat → Nat → Int64} {w1 w2 t : Nat} {x1 : Int32} {nd np : Nat} (hs : SO nd np (I 421)) (hw : LwW (I 421)) (lg : LgW (I 421)) : Sp S m_X12_count 21 0 0 [.ref 420, .int x1] (hp I L w1 w2 t) (QR (Fm sU I) isI L w1 w2 t) nX := by
  refine Sp_of ok_X12_count rfl rfl ?_
  show AW S m_X12_count 21 _ _ 0 0 0 [some (.ref 420), some (.int x1)] [] (hp I L w1 w2 t)
  refine a_l0 rfl rfl rfl ?_
  refine a_s rfl rfl ?_
  refine a_puti rfl pfX12_3_12 rfl ?_
  refine a_ren (P := Fm sU I) (Fm.up (Fm.rf (s := sU)) rfl) (fun I1 f2 => ?_)
  have s2 := SO.fm hs (Fm.mo f2 sU_sV); have l2 := LwW.fm hw (Fm.mo f2 sU_sV); have g2 := LgW.fm lg (Fm.mo f2 sU_sV)
  refine a_l1 rfl rfl rfl ?_
  refine a_tswA rfl (by decide) (by decide) (fun hx => ?_) (fun i o ho hx => ?_)
  · refine a_pc (pc' := 131) (by decide) ?_
    refine a_l1 rfl rfl rfl ?_
    refine a_s rfl rfl ?_
    refine a_s rfl rfl ?_
    refine a_eS1 rfl lX12_70 mo_X12_in (sp_X12_in) rfl rfl rfl rfl ?_
    refine a_if_eq rfl (fun c138 => ?_) (fun c138 => ?_)
    · refine a_s rfl rfl ?_
      exact a_iret rfl rfl ⟨⟨_, rfl⟩, _, rfl, f2⟩
    · obtain ⟨m3, hm3a, hm3b, rfl⟩ := inB_nI (a := 0) (b := 8) (by decide) (bI_t c138)
      refine a_l0 rfl rfl rfl ?_
      refine a_getq rfl gfX12_13_12 rfl (rfl) ?_
      refine a_l1 rfl rfl rfl ?_
      refine a_iald rfl (n := 2033) rfl (inI_nI (by have := hs.n; have := hs.p; omega) (by have := hs.n; have := hs.p; omega)) ?_
      refine a_goto rfl ?_
      exact a_iret rfl rfl ⟨⟨_, rfl⟩, _, rfl, f2⟩
  · rcases i with _ | _ | _ | _ | _ | _ | _ | _ | _ | _ | _ | _ | i
    · cases ho
      refine a_pc (pc' := 68) (by decide) ?_
      refine a_l0 rfl rfl rfl ?_
      refine a_getq rfl gfX12_13_12 rfl (rfl) ?_
      refine a_s rfl rfl ?_
      refine a_iald rfl (n := 2033) rfl (⟨by decide, by decide⟩) ?_
      refine a_s rfl rfl ?_
      refine a_ic_ne rfl (fun c75 => ?_) (fun c75 => ?_)
      · refine a_s rfl rfl ?_
        exact a_iret rfl rfl ⟨⟨_, rfl⟩, _, rfl, f2⟩
      · refine a_l0 rfl rfl rfl ?_
        refine a_getq rfl gfX12_13_12 rfl (rfl) ?_
        refine a_s rfl rfl ?_
        refine a_iald rfl (n := 2033) rfl (⟨by decide, by decide⟩) ?_
        refine a_goto rfl ?_
        exact a_iret rfl rfl ⟨⟨_, rfl⟩, _, rfl, f2⟩
    · cases ho
      refine a_pc (pc' := 131) (by decide) ?_
      refine a_l1 rfl rfl rfl ?_
      refine a_s rfl rfl ?_
      refine a_s rfl rfl ?_
      refine a_eS1 rfl lX12_70 mo_X12_in (sp_X12_in) rfl rfl rfl rfl ?_
      refine a_if_eq rfl (fun c138 => ?_) (fun c138 => ?_)
      · refine a_s rfl rfl ?_
        exact a_iret rfl rfl ⟨⟨_, rfl⟩, _, rfl, f2⟩
      · obtain ⟨m4, hm4a, hm4b, rfl⟩ := inB_nI (a := 0) (b := 8) (by decide) (bI_t c138)
        refine a_l0 rfl rfl rfl ?_
        refine a_getq rfl gfX12_13_12 rfl (rfl) ?_
        refine a_l1 rfl rfl rfl ?_
        refine a_iald rfl (n := 2033) rfl (inI_nI (by have := hs.n; have := hs.p; omega) (by have := hs.n; have := hs.p; omega)) ?_
        refine a_goto rfl ?_
        exact a_iret rfl rfl ⟨⟨_, rfl⟩, _, rfl, f2⟩
    · cases ho
      refine a_pc (pc' := 131) (by decide) ?_
      refine a_l1 rfl rfl rfl ?_
      refine a_s rfl rfl ?_
      refine a_s rfl rfl ?_
      refine a_eS1 rfl lX12_70 mo_X12_in (sp_X12_in) rfl rfl rfl rfl ?_
      refine a_if_eq rfl (fun c138 => ?_) (fun c138 => ?_)
      · refine a_s rfl rfl ?_
        exact a_iret rfl rfl ⟨⟨_, rfl⟩, _, rfl, f2⟩
      · obtain ⟨m5, hm5a, hm5b, rfl⟩ := inB_nI (a := 0) (b := 8) (by decide) (bI_t c138)
        refine a_l0 rfl rfl rfl ?_
        refine a_getq rfl gfX12_13_12 rfl (rfl) ?_
        refine a_l1 rfl rfl rfl ?_
        refine a_iald rfl (n := 2033) rfl (inI_nI (by have := hs.n; have := hs.p; omega) (by have := hs.n; have := hs.p; omega)) ?_
        refine a_goto rfl ?_
        exact a_iret rfl rfl ⟨⟨_, rfl⟩, _, rfl, f2⟩
    · cases ho
      refine a_pc (pc' := 131) (by decide) ?_
      refine a_l1 rfl rfl rfl ?_
      refine a_s rfl rfl ?_
      refine a_s rfl rfl ?_
      refine a_eS1 rfl lX12_70 mo_X12_in (sp_X12_in) rfl rfl rfl rfl ?_
      refine a_if_eq rfl (fun c138 => ?_) (fun c138 => ?_)
      · refine a_s rfl rfl ?_
        exact a_iret rfl rfl ⟨⟨_, rfl⟩, _, rfl, f2⟩
      · obtain ⟨m6, hm6a, hm6b, rfl⟩ := inB_nI (a := 0) (b := 8) (by decide) (bI_t c138)
        refine a_l0 rfl rfl rfl ?_
        refine a_getq rfl gfX12_13_12 rfl (rfl) ?_
        refine a_l1 rfl rfl rfl ?_
        refine a_iald rfl (n := 2033) rfl (inI_nI (by have := hs.n; have := hs.p; omega) (by have := hs.n; have := hs.p; omega)) ?_
        refine a_goto rfl ?_
        exact a_iret rfl rfl ⟨⟨_, rfl⟩, _, rfl, f2⟩
    · cases ho
      refine a_pc (pc' := 131) (by decide) ?_
      refine a_l1 rfl rfl rfl ?_
      refine a_s rfl rfl ?_
      refine a_s rfl rfl ?_
      refine a_eS1 rfl lX12_70 mo_X12_in (sp_X12_in) rfl rfl rfl rfl ?_
      refine a_if_eq rfl (fun c138 => ?_) (fun c138 => ?_)
      · refine a_s rfl rfl ?_
        exact a_iret rfl rfl ⟨⟨_, rfl⟩, _, rfl, f2⟩
      · obtain ⟨m7, hm7a, hm7b, rfl⟩ := inB_nI (a := 0) (b := 8) (by decide) (bI_t c138)
        refine a_l0 rfl rfl rfl ?_
        refine a_getq rfl gfX12_13_12 rfl (rfl) ?_
        refine a_l1 rfl rfl rfl ?_
        refine a_iald rfl (n := 2033) rfl (inI_nI (by have := hs.n; have := hs.p; omega) (by have := hs.n; have := hs.p; omega)) ?_
        refine a_goto rfl ?_
        exact a_iret rfl rfl ⟨⟨_, rfl⟩, _, rfl, f2⟩
    · cases ho
      refine a_pc (pc' := 131) (by decide) ?_
      refine a_l1 rfl rfl rfl ?_
      refine a_s rfl rfl ?_
      refine a_s rfl rfl ?_
      refine a_eS1 rfl lX12_70 mo_X12_in (sp_X12_in) rfl rfl rfl rfl ?_
      refine a_if_eq rfl (fun c138 => ?_) (fun c138 => ?_)
      · refine a_s rfl rfl ?_
        exact a_iret rfl rfl ⟨⟨_, rfl⟩, _, rfl, f2⟩
      · obtain ⟨m8, hm8a, hm8b, rfl⟩ := inB_nI (a := 0) (b := 8) (by decide) (bI_t c138)
        refine a_l0 rfl rfl rfl ?_
        refine a_getq rfl gfX12_13_12 rfl (rfl) ?_
        refine a_l1 rfl rfl rfl ?_
        refine a_iald rfl (n := 2033) rfl (inI_nI (by have := hs.n; have := hs.p; omega) (by have := hs.n; have := hs.p; omega)) ?_
        refine a_goto rfl ?_
        exact a_iret rfl rfl ⟨⟨_, rfl⟩, _, rfl, f2⟩
    · cases ho
      refine a_pc (pc' := 91) (by decide) ?_
      refine a_l0 rfl rfl rfl ?_
      refine a_s rfl rfl ?_
      refine a_eV1 rfl lX12_324 mo_X12_ofState (sp_X12_ofState s2.n s2.du) rfl rfl rfl ⟨12, _, rfl, rfl, rfl⟩ rfl ?_
      refine a_topE (bs_nI12 s2.n) (fun mc9 hmc9 => ?_)
      exact a_iret rfl rfl ⟨⟨_, rfl⟩, _, rfl, f2⟩
    · cases ho
      refine a_pc (pc' := 97) (by decide) ?_
      refine a_l0 rfl rfl rfl ?_
      refine a_s rfl rfl ?_
      refine a_eV1 rfl lX12_324 mo_X12_ofState (sp_X12_ofState s2.n s2.du) rfl rfl rfl ⟨12, _, rfl, rfl, rfl⟩ rfl ?_
      refine a_topE (bs_nI12 s2.n) (fun mc10 hmc10 => ?_)
      exact a_iret rfl rfl ⟨⟨_, rfl⟩, _, rfl, f2⟩
    · cases ho
      refine a_pc (pc' := 103) (by decide) ?_
      refine a_l0 rfl rfl rfl ?_
      refine a_eV1 rfl lX12_464 mo_X12_readyOnes (sp_X12_readyOnes s2.n s2.du s2.l) rfl rfl rfl ⟨12, _, rfl, rfl, rfl⟩ rfl ?_
      exact a_iret rfl rfl ⟨⟨_, rfl⟩, _, rfl, f2⟩
    · cases ho
      refine a_pc (pc' := 108) (by decide) ?_
      refine a_l0 rfl rfl rfl ?_
      refine a_l0 rfl rfl rfl ?_
      refine a_s rfl rfl ?_
      refine a_eV1 rfl lX12_324 mo_X12_ofState (sp_X12_ofState s2.n s2.du) rfl rfl rfl ⟨12, _, rfl, rfl, rfl⟩ rfl ?_
      refine a_topE (bs_nI12 s2.n) (fun mc11 hmc11 => ?_)
      refine a_gV rfl lX12_339 mo_X12_shameOf (r_X12_shameOf s2 l2 g2) rfl rfl rfl ⟨12, _, rfl, rfl, rfl⟩ rfl (fun v' h' hv => ?_)
      obtain ⟨⟨v12, rfl⟩, I13, rfl, f14⟩ := hv
      replace f14 : Fm sU I I13 := Fm.tr (f2) (f14)
      have s14 := SO.fm hs (Fm.mo f14 sU_sV); have l14 := LwW.fm hw (Fm.mo f14 sU_sV); have g14 := LgW.fm lg (Fm.mo f14 sU_sV)
      exact a_iret rfl rfl ⟨⟨_, rfl⟩, _, rfl, f14⟩
    · cases ho
      refine a_pc (pc' := 118) (by decide) ?_
      refine a_l0 rfl rfl rfl ?_
      refine a_getq rfl gfX12_13_12 rfl (rfl) ?_
      refine a_s rfl rfl ?_
      refine a_iald rfl (n := 2033) rfl (⟨by decide, by decide⟩) ?_
      exact a_iret rfl rfl ⟨⟨_, rfl⟩, _, rfl, f2⟩
    · cases ho
      refine a_pc (pc' := 126) (by decide) ?_
      refine a_l0 rfl rfl rfl ?_
      refine a_geti rfl gfX12_53_12 rfl ?_
      exact a_iret rfl rfl ⟨⟨_, rfl⟩, _, rfl, f2⟩
    · cases ho
end
section
/-! ===== the reference: odds (as in p1's 47.odds), ranges of all of it ===== -/
set_option maxRecDepth 100000
theorem nI_ltn {n : Nat} (h : n + 1 < 2 ^ 31) : nI n < nI (n + 1) := Int32.lt_iff_toInt_lt.mpr (by rw [nI_toInt (by omega), nI_toInt h]; omega)
def setW (L : Nat → Nat → Int64) (f : Nat → Int64) : Nat → Nat → Int64 := up2 (up2 (up2 (up2 (up2 (up2 (up2 L 430 0 (f 0)) 430 1 (f 1)) 430 2 (f 2)) 430 3 (f 3)) 430 4 (f 4)) 430 5 (f 5)) 430 6 (f 6)
def stepW (h : Int32) (f : Nat → Int64) : Nat → Int64
  | 0 => f 0 * (100 - h).toInt64 + 0
  | k + 1 => f (k + 1) * (100 - h).toInt64 + f k * h.toInt64
def rowW (h : Int32) : Nat → Nat → Int64
  | 0 => fun k => if k = 0 then 1 else 0
  | d + 1 => stepW h (rowW h d)
def allW : Nat → Int64
  | 0 => 1
  | d + 1 => allW d * 100
def sumW (f : Nat → Int64) (m : Nat) : Nat → Int64
  | 0 => 0
  | j + 1 => sumW f m j + f (m + j)
def oddsR (h : Int32) (n m : Nat) : Int32 := (10000 * sumW (rowW h n) m (7 - m) / allW n).toInt32
theorem setW_at {L : Nat → Nat → Int64} {f : Nat → Int64} {k : Nat} (hk : k < 7) : setW L f 430 k = f k := by
  rcases k with _ | _ | _ | _ | _ | _ | _ | k <;> first | rfl | omega
theorem setW_row {L : Nat → Nat → Int64} {f : Nat → Int64} {q : Nat} (h : q ≠ 430) : setW L f q = L q := by
  unfold setW
  simp only [up2_row h]
theorem setW_step {L : Nat → Nat → Int64} {f g : Nat → Int64} : up2 (up2 (up2 (up2 (up2 (up2 (up2 (setW L f) 430 6 (g 6)) 430 5 (g 5)) 430 4 (g 4)) 430 3 (g 3)) 430 2 (g 2)) 430 1 (g 1)) 430 0 (g 0) = setW L g := by
  funext q k
  by_cases hq : q = 430
  · subst hq
    rcases k with _ | _ | _ | _ | _ | _ | _ | k
    all_goals rfl
  · rw [setW_row hq]
    simp only [up2_row hq, setW_row hq]
theorem allW_ne : ∀ n, n ≤ 6 → ¬ allW n = 0 := by decide +kernel
theorem sp_X12_oddsOf {S : aS} {I : Nat → Nat → Int32} {L : Nat → Nat → Int64} {w1 w2 t : Nat} {h : Int32} {n m : Nat} (hn : n ≤ 6) (hm : m ≤ 6) : SpE S m_X12_oddsOf 12 [.ref 420, .int (nI n), .int (nI m), .int h] (hp I L w1 w2 t) (some (.int (oddsR h n m))) (hp I (setW L (rowW h n)) w1 w2 t) := by
  refine SpE_of ok_X12_oddsOf rfl rfl ?_
  show AW S m_X12_oddsOf 12 _ _ 0 0 0 [some (.ref 420), some (.int (nI n)), some (.int (nI m)), some (.int h), none, none, none, none, none] [] (hp I L w1 w2 t)
  refine a_s rfl rfl ?_
  refine a_sL4 rfl rfl rfl rfl ?_
  refine a_s rfl rfl ?_
  refine a_s6 rfl rfl rfl rfl rfl rfl ?_
  refine a_l6 rfl rfl rfl ?_
  refine a_s rfl rfl ?_
  refine a_ic_gt rfl (fun c => absurd c (by decide)) (fun c10 => ?_)
  refine a_l0 rfl rfl rfl ?_
  refine a_getq rfl gfX12_45_12 rfl rfl ?_
  refine a_l6 rfl rfl rfl ?_
  refine a_l6 rfl rfl rfl ?_
  refine a_if_ne rfl (fun c => absurd c (by decide)) (fun c21 => ?_)
  refine a_s rfl rfl ?_
  refine a_goto rfl ?_
  refine a_lastv (k := 0) rfl (n := 7) rfl ⟨by decide, by decide⟩ (by decide) ?_
  refine a_iv6 (y := 1) rfl rfl rfl (by decide) ?_
  refine a_goto rfl ?_
  refine a_l6 rfl rfl rfl ?_
  refine a_s rfl rfl ?_
  refine a_ic_gt rfl (fun c => absurd c (by decide)) (fun c10 => ?_)
  refine a_l0 rfl rfl rfl ?_
  refine a_getq rfl gfX12_45_12 rfl rfl ?_
  refine a_l6 rfl rfl rfl ?_
  refine a_l6 rfl rfl rfl ?_
  refine a_if_ne rfl (fun c21 => ?_) (fun c => absurd c (by decide))
  refine a_s rfl rfl ?_
  refine a_lastv (k := 1) rfl (n := 7) rfl ⟨by decide, by decide⟩ (by decide) ?_
  refine a_iv6 (y := 2) rfl rfl rfl (by decide) ?_
  refine a_goto rfl ?_
  refine a_l6 rfl rfl rfl ?_
  refine a_s rfl rfl ?_
  refine a_ic_gt rfl (fun c => absurd c (by decide)) (fun c10 => ?_)
  refine a_l0 rfl rfl rfl ?_
  refine a_getq rfl gfX12_45_12 rfl rfl ?_
  refine a_l6 rfl rfl rfl ?_
  refine a_l6 rfl rfl rfl ?_
  refine a_if_ne rfl (fun c21 => ?_) (fun c => absurd c (by decide))
  refine a_s rfl rfl ?_
  refine a_lastv (k := 2) rfl (n := 7) rfl ⟨by decide, by decide⟩ (by decide) ?_
  refine a_iv6 (y := 3) rfl rfl rfl (by decide) ?_
  refine a_goto rfl ?_
  refine a_l6 rfl rfl rfl ?_
  refine a_s rfl rfl ?_
  refine a_ic_gt rfl (fun c => absurd c (by decide)) (fun c10 => ?_)
  refine a_l0 rfl rfl rfl ?_
  refine a_getq rfl gfX12_45_12 rfl rfl ?_
  refine a_l6 rfl rfl rfl ?_
  refine a_l6 rfl rfl rfl ?_
  refine a_if_ne rfl (fun c21 => ?_) (fun c => absurd c (by decide))
  refine a_s rfl rfl ?_
  refine a_lastv (k := 3) rfl (n := 7) rfl ⟨by decide, by decide⟩ (by decide) ?_
  refine a_iv6 (y := 4) rfl rfl rfl (by decide) ?_
  refine a_goto rfl ?_
  refine a_l6 rfl rfl rfl ?_
  refine a_s rfl rfl ?_
  refine a_ic_gt rfl (fun c => absurd c (by decide)) (fun c10 => ?_)
  refine a_l0 rfl rfl rfl ?_
  refine a_getq rfl gfX12_45_12 rfl rfl ?_
  refine a_l6 rfl rfl rfl ?_
  refine a_l6 rfl rfl rfl ?_
  refine a_if_ne rfl (fun c21 => ?_) (fun c => absurd c (by decide))
  refine a_s rfl rfl ?_
  refine a_lastv (k := 4) rfl (n := 7) rfl ⟨by decide, by decide⟩ (by decide) ?_
  refine a_iv6 (y := 5) rfl rfl rfl (by decide) ?_
  refine a_goto rfl ?_
  refine a_l6 rfl rfl rfl ?_
  refine a_s rfl rfl ?_
  refine a_ic_gt rfl (fun c => absurd c (by decide)) (fun c10 => ?_)
  refine a_l0 rfl rfl rfl ?_
  refine a_getq rfl gfX12_45_12 rfl rfl ?_
  refine a_l6 rfl rfl rfl ?_
  refine a_l6 rfl rfl rfl ?_
  refine a_if_ne rfl (fun c21 => ?_) (fun c => absurd c (by decide))
  refine a_s rfl rfl ?_
  refine a_lastv (k := 5) rfl (n := 7) rfl ⟨by decide, by decide⟩ (by decide) ?_
  refine a_iv6 (y := 6) rfl rfl rfl (by decide) ?_
  refine a_goto rfl ?_
  refine a_l6 rfl rfl rfl ?_
  refine a_s rfl rfl ?_
  refine a_ic_gt rfl (fun c => absurd c (by decide)) (fun c10 => ?_)
  refine a_l0 rfl rfl rfl ?_
  refine a_getq rfl gfX12_45_12 rfl rfl ?_
  refine a_l6 rfl rfl rfl ?_
  refine a_l6 rfl rfl rfl ?_
  refine a_if_ne rfl (fun c21 => ?_) (fun c => absurd c (by decide))
  refine a_s rfl rfl ?_
  refine a_lastv (k := 6) rfl (n := 7) rfl ⟨by decide, by decide⟩ (by decide) ?_
  refine a_iv6 (y := 7) rfl rfl rfl (by decide) ?_
  refine a_goto rfl ?_
  refine a_l6 rfl rfl rfl ?_
  refine a_s rfl rfl ?_
  refine a_ic_gt rfl (fun c10 => ?_) (fun c => absurd (by decide) c)
  refine a_eq (h' := hp I (setW L (rowW h 0)) w1 w2 t) rfl rfl ?_
  refine a_s rfl rfl ?_
  refine a_s6 rfl rfl rfl rfl rfl rfl ?_
  refine a_forE (n := n) (fun j => [some (.ref 420), some (.int (nI n)), some (.int (nI m)), some (.int h), some (.long (allW j)), none, some (.int (nI j)), none, none]) (fun j => hp I (setW L (rowW h j)) w1 w2 t) (by simp [lsub, nI_0, allW]) rfl ?_ (fun j hj ih39 => ?_)
  rotate_left
  · refine a_l6 rfl rfl rfl ?_
    refine a_l1 rfl rfl rfl ?_
    refine a_ic_ge rfl (fun c => absurd c (nI_ge hj (by omega))) (fun c42 => ?_)
    refine a_s rfl rfl ?_
    refine a_s7 rfl rfl rfl rfl rfl rfl ?_
    refine a_l7 rfl rfl rfl ?_
    refine a_if_lt rfl (fun c => absurd c (by decide)) (fun c51 => ?_)
    refine a_l0 rfl rfl rfl ?_
    refine a_getq rfl gfX12_45_12 rfl rfl ?_
    refine a_l7 rfl rfl rfl ?_
    refine a_l0 rfl rfl rfl ?_
    refine a_getq rfl gfX12_45_12 rfl rfl ?_
    refine a_l7 rfl rfl rfl ?_
    refine a_laldv (v := rowW h j 6) rfl (n := 7) rfl ⟨by decide, by decide⟩ rfl ?_
    refine a_s rfl rfl ?_
    refine a_l3 rfl rfl rfl ?_
    refine a_s rfl rfl ?_
    refine a_s rfl rfl ?_
    refine a_s rfl rfl ?_
    refine a_l7 rfl rfl rfl ?_
    refine a_if_ne rfl (fun c75 => ?_) (fun c => absurd c (by decide))
    refine a_l0 rfl rfl rfl ?_
    refine a_getq rfl gfX12_45_12 rfl rfl ?_
    refine a_l7 rfl rfl rfl ?_
    refine a_s rfl rfl ?_
    refine a_s rfl rfl ?_
    refine a_top (y := 5) (by decide) ?_
    refine a_laldv (v := rowW h j 5) rfl (n := 7) rfl ⟨by decide, by decide⟩ rfl ?_
    refine a_l3 rfl rfl rfl ?_
    refine a_s rfl rfl ?_
    refine a_s rfl rfl ?_
    refine a_s rfl rfl ?_
    refine a_lastv (k := 6) rfl (n := 7) rfl ⟨by decide, by decide⟩ (by decide) ?_
    refine a_iv7 (y := 5) rfl rfl rfl (by decide) ?_
    refine a_goto rfl ?_
    refine a_l7 rfl rfl rfl ?_
    refine a_if_lt rfl (fun c => absurd c (by decide)) (fun c51 => ?_)
    refine a_l0 rfl rfl rfl ?_
    refine a_getq rfl gfX12_45_12 rfl rfl ?_
    refine a_l7 rfl rfl rfl ?_
    refine a_l0 rfl rfl rfl ?_
    refine a_getq rfl gfX12_45_12 rfl rfl ?_
    refine a_l7 rfl rfl rfl ?_
    refine a_laldv (v := rowW h j 5) rfl (n := 7) rfl ⟨by decide, by decide⟩ rfl ?_
    refine a_s rfl rfl ?_
    refine a_l3 rfl rfl rfl ?_
    refine a_s rfl rfl ?_
    refine a_s rfl rfl ?_
    refine a_s rfl rfl ?_
    refine a_l7 rfl rfl rfl ?_
    refine a_if_ne rfl (fun c75 => ?_) (fun c => absurd c (by decide))
    refine a_l0 rfl rfl rfl ?_
    refine a_getq rfl gfX12_45_12 rfl rfl ?_
    refine a_l7 rfl rfl rfl ?_
    refine a_s rfl rfl ?_
    refine a_s rfl rfl ?_
    refine a_top (y := 4) (by decide) ?_
    refine a_laldv (v := rowW h j 4) rfl (n := 7) rfl ⟨by decide, by decide⟩ rfl ?_
    refine a_l3 rfl rfl rfl ?_
    refine a_s rfl rfl ?_
    refine a_s rfl rfl ?_
    refine a_s rfl rfl ?_
    refine a_lastv (k := 5) rfl (n := 7) rfl ⟨by decide, by decide⟩ (by decide) ?_
    refine a_iv7 (y := 4) rfl rfl rfl (by decide) ?_
    refine a_goto rfl ?_
    refine a_l7 rfl rfl rfl ?_
    refine a_if_lt rfl (fun c => absurd c (by decide)) (fun c51 => ?_)
    refine a_l0 rfl rfl rfl ?_
    refine a_getq rfl gfX12_45_12 rfl rfl ?_
    refine a_l7 rfl rfl rfl ?_
    refine a_l0 rfl rfl rfl ?_
    refine a_getq rfl gfX12_45_12 rfl rfl ?_
    refine a_l7 rfl rfl rfl ?_
    refine a_laldv (v := rowW h j 4) rfl (n := 7) rfl ⟨by decide, by decide⟩ rfl ?_
    refine a_s rfl rfl ?_
    refine a_l3 rfl rfl rfl ?_
    refine a_s rfl rfl ?_
    refine a_s rfl rfl ?_
    refine a_s rfl rfl ?_
    refine a_l7 rfl rfl rfl ?_
    refine a_if_ne rfl (fun c75 => ?_) (fun c => absurd c (by decide))
    refine a_l0 rfl rfl rfl ?_
    refine a_getq rfl gfX12_45_12 rfl rfl ?_
    refine a_l7 rfl rfl rfl ?_
    refine a_s rfl rfl ?_
    refine a_s rfl rfl ?_
    refine a_top (y := 3) (by decide) ?_
    refine a_laldv (v := rowW h j 3) rfl (n := 7) rfl ⟨by decide, by decide⟩ rfl ?_
    refine a_l3 rfl rfl rfl ?_
    refine a_s rfl rfl ?_
    refine a_s rfl rfl ?_
    refine a_s rfl rfl ?_
    refine a_lastv (k := 4) rfl (n := 7) rfl ⟨by decide, by decide⟩ (by decide) ?_
    refine a_iv7 (y := 3) rfl rfl rfl (by decide) ?_
    refine a_goto rfl ?_
    refine a_l7 rfl rfl rfl ?_
    refine a_if_lt rfl (fun c => absurd c (by decide)) (fun c51 => ?_)
    refine a_l0 rfl rfl rfl ?_
    refine a_getq rfl gfX12_45_12 rfl rfl ?_
    refine a_l7 rfl rfl rfl ?_
    refine a_l0 rfl rfl rfl ?_
    refine a_getq rfl gfX12_45_12 rfl rfl ?_
    refine a_l7 rfl rfl rfl ?_
    refine a_laldv (v := rowW h j 3) rfl (n := 7) rfl ⟨by decide, by decide⟩ rfl ?_
    refine a_s rfl rfl ?_
    refine a_l3 rfl rfl rfl ?_
    refine a_s rfl rfl ?_
    refine a_s rfl rfl ?_
    refine a_s rfl rfl ?_
    refine a_l7 rfl rfl rfl ?_
    refine a_if_ne rfl (fun c75 => ?_) (fun c => absurd c (by decide))
    refine a_l0 rfl rfl rfl ?_
    refine a_getq rfl gfX12_45_12 rfl rfl ?_
    refine a_l7 rfl rfl rfl ?_
    refine a_s rfl rfl ?_
    refine a_s rfl rfl ?_
    refine a_top (y := 2) (by decide) ?_
    refine a_laldv (v := rowW h j 2) rfl (n := 7) rfl ⟨by decide, by decide⟩ rfl ?_
    refine a_l3 rfl rfl rfl ?_
    refine a_s rfl rfl ?_
    refine a_s rfl rfl ?_
    refine a_s rfl rfl ?_
    refine a_lastv (k := 3) rfl (n := 7) rfl ⟨by decide, by decide⟩ (by decide) ?_
    refine a_iv7 (y := 2) rfl rfl rfl (by decide) ?_
    refine a_goto rfl ?_
    refine a_l7 rfl rfl rfl ?_
    refine a_if_lt rfl (fun c => absurd c (by decide)) (fun c51 => ?_)
    refine a_l0 rfl rfl rfl ?_
    refine a_getq rfl gfX12_45_12 rfl rfl ?_
    refine a_l7 rfl rfl rfl ?_
    refine a_l0 rfl rfl rfl ?_
    refine a_getq rfl gfX12_45_12 rfl rfl ?_
    refine a_l7 rfl rfl rfl ?_
    refine a_laldv (v := rowW h j 2) rfl (n := 7) rfl ⟨by decide, by decide⟩ rfl ?_
    refine a_s rfl rfl ?_
    refine a_l3 rfl rfl rfl ?_
    refine a_s rfl rfl ?_
    refine a_s rfl rfl ?_
    refine a_s rfl rfl ?_
    refine a_l7 rfl rfl rfl ?_
    refine a_if_ne rfl (fun c75 => ?_) (fun c => absurd c (by decide))
    refine a_l0 rfl rfl rfl ?_
    refine a_getq rfl gfX12_45_12 rfl rfl ?_
    refine a_l7 rfl rfl rfl ?_
    refine a_s rfl rfl ?_
    refine a_s rfl rfl ?_
    refine a_top (y := 1) (by decide) ?_
    refine a_laldv (v := rowW h j 1) rfl (n := 7) rfl ⟨by decide, by decide⟩ rfl ?_
    refine a_l3 rfl rfl rfl ?_
    refine a_s rfl rfl ?_
    refine a_s rfl rfl ?_
    refine a_s rfl rfl ?_
    refine a_lastv (k := 2) rfl (n := 7) rfl ⟨by decide, by decide⟩ (by decide) ?_
    refine a_iv7 (y := 1) rfl rfl rfl (by decide) ?_
    refine a_goto rfl ?_
    refine a_l7 rfl rfl rfl ?_
    refine a_if_lt rfl (fun c => absurd c (by decide)) (fun c51 => ?_)
    refine a_l0 rfl rfl rfl ?_
    refine a_getq rfl gfX12_45_12 rfl rfl ?_
    refine a_l7 rfl rfl rfl ?_
    refine a_l0 rfl rfl rfl ?_
    refine a_getq rfl gfX12_45_12 rfl rfl ?_
    refine a_l7 rfl rfl rfl ?_
    refine a_laldv (v := rowW h j 1) rfl (n := 7) rfl ⟨by decide, by decide⟩ rfl ?_
    refine a_s rfl rfl ?_
    refine a_l3 rfl rfl rfl ?_
    refine a_s rfl rfl ?_
    refine a_s rfl rfl ?_
    refine a_s rfl rfl ?_
    refine a_l7 rfl rfl rfl ?_
    refine a_if_ne rfl (fun c75 => ?_) (fun c => absurd c (by decide))
    refine a_l0 rfl rfl rfl ?_
    refine a_getq rfl gfX12_45_12 rfl rfl ?_
    refine a_l7 rfl rfl rfl ?_
    refine a_s rfl rfl ?_
    refine a_s rfl rfl ?_
    refine a_top (y := 0) (by decide) ?_
    refine a_laldv (v := rowW h j 0) rfl (n := 7) rfl ⟨by decide, by decide⟩ rfl ?_
    refine a_l3 rfl rfl rfl ?_
    refine a_s rfl rfl ?_
    refine a_s rfl rfl ?_
    refine a_s rfl rfl ?_
    refine a_lastv (k := 1) rfl (n := 7) rfl ⟨by decide, by decide⟩ (by decide) ?_
    refine a_iv7 (y := 0) rfl rfl rfl (by decide) ?_
    refine a_goto rfl ?_
    refine a_l7 rfl rfl rfl ?_
    refine a_if_lt rfl (fun c => absurd c (by decide)) (fun c51 => ?_)
    refine a_l0 rfl rfl rfl ?_
    refine a_getq rfl gfX12_45_12 rfl rfl ?_
    refine a_l7 rfl rfl rfl ?_
    refine a_l0 rfl rfl rfl ?_
    refine a_getq rfl gfX12_45_12 rfl rfl ?_
    refine a_l7 rfl rfl rfl ?_
    refine a_laldv (v := rowW h j 0) rfl (n := 7) rfl ⟨by decide, by decide⟩ rfl ?_
    refine a_s rfl rfl ?_
    refine a_l3 rfl rfl rfl ?_
    refine a_s rfl rfl ?_
    refine a_s rfl rfl ?_
    refine a_s rfl rfl ?_
    refine a_l7 rfl rfl rfl ?_
    refine a_if_ne rfl (fun c => absurd c (by decide)) (fun c75 => ?_)
    refine a_s rfl rfl ?_
    refine a_goto rfl ?_
    refine a_s rfl rfl ?_
    refine a_lastv (k := 0) rfl (n := 7) rfl ⟨by decide, by decide⟩ (by decide) ?_
    refine a_iv7 (y := (-1)) rfl rfl rfl (by decide) ?_
    refine a_goto rfl ?_
    refine a_l7 rfl rfl rfl ?_
    refine a_if_lt rfl (fun c51 => ?_) (fun c => absurd (by decide) c)
    refine a_l4 rfl rfl rfl ?_
    refine a_ldc2 rfl kX12_454 ?_
    refine a_s rfl rfl ?_
    refine a_sL4 rfl rfl rfl rfl ?_
    refine a_i6 rfl rfl rfl ?_
    refine a_goto rfl ?_
    exact a_back ih39 (by simp [lsub, nI_1, allW]) (by show (K0, I, _, _, _) = (K0, I, _, _, _); rw [show rowW h (j + 1) = stepW h (rowW h j) from rfl, ← setW_step (L := L) (f := rowW h j) (g := stepW h (rowW h j))]; rfl)
  refine a_l6 rfl rfl rfl ?_
  refine a_l1 rfl rfl rfl ?_
  refine a_ic_ge rfl (fun c42 => ?_) (fun c => absurd (Int32.le_refl _) c)
  refine a_s rfl rfl ?_
  refine a_sL6 rfl rfl rfl rfl ?_
  refine a_l2 rfl rfl rfl ?_
  refine a_s8 rfl rfl rfl rfl rfl rfl ?_
  refine a_forE (n := 7 - m) (fun j => [some (.ref 420), some (.int (nI n)), some (.int (nI m)), some (.int h), some (.long (allW n)), none, some (.long (sumW (rowW h n) m j)), none, some (.int (nI (m + j)))]) (fun j => hp I (setW L (rowW h n)) w1 w2 t) (by simp [lsub, sumW]) rfl ?_ (fun j hj ih122 => ?_)
  rotate_left
  · refine a_l8 rfl rfl rfl ?_
    refine a_s rfl rfl ?_
    refine a_ic_gt rfl (fun c => absurd c (nI_nlu (n := 6) (by omega) (by omega))) (fun c126 => ?_)
    refine a_l6 rfl rfl rfl ?_
    refine a_l0 rfl rfl rfl ?_
    refine a_getq rfl gfX12_45_12 rfl (rfl) ?_
    refine a_l8 rfl rfl rfl ?_
    refine a_laldv (v := rowW h n (m + j)) rfl (n := 7) rfl (inI_nI (by omega) (by omega)) (by rw [nI_clamp (by omega)]; exact setW_at (by omega)) ?_
    refine a_s rfl rfl ?_
    refine a_sL6 rfl rfl rfl rfl ?_
    refine a_i8 rfl rfl rfl ?_
    refine a_goto rfl ?_
    exact a_back ih122 (by simp [lsub, nI_1, sumW, Nat.add_assoc]) rfl
  refine a_l8 rfl rfl rfl ?_
  refine a_s rfl rfl ?_
  refine a_ic_gt rfl (fun c126 => ?_) (fun c => absurd (by rw [show m + (7 - m) = 6 + 1 by omega]; exact nI_ltn (n := 6) (by omega)) c)
  refine a_ldc2 rfl kX12_456 ?_
  refine a_l6 rfl rfl rfl ?_
  refine a_s rfl rfl ?_
  refine a_l4 rfl rfl rfl ?_
  refine a_ldiv rfl (allW_ne n hn) ?_
  refine a_s rfl rfl ?_
  refine a_iret rfl rfl ⟨rfl, rfl⟩
end
section
/-! ===== the reference: all of its ranges; what it remembers ===== -/
def FrW (np : Nat) (W : Nat → Int32) : Prop := ∀ p, p < np → ∃ f, f ≤ 9 ∧ vp W 1 p = nI f
def StW (W : Nat → Int32) : Prop := ∃ nd np, SO nd np W ∧ FrW np W ∧ LgW W
def Img (I : Nat → Nat → Int32) : Prop := I 420 6 = 0 ∨ (StW (I 422) ∧ LwW (I 422))
def Act (I : Nat → Nat → Int32) : Prop := ∃ r, r ≤ 12 ∧ I 420 7 = nI r ∧ ∀ i, i < r → StW (fun k => I 425 (335 * i + k)) ∧ I 425 (335 * i + 3) = I 421 3
/-- all that is known of the reference between two calls, but for its tape -/
def RI (nd np : Nat) (I : Nat → Nat → Int32) : Prop := SO nd np (I 421) ∧ FrW np (I 421) ∧ LwW (I 421) ∧ LgW (I 421) ∧ Img I ∧ Act I
def Fk (I I' : Nat → Nat → Int32) : Prop := (∀ q, (q < 420 ∨ q = 426) → I' q = I q) ∧ I' 420 9 = I 420 9 ∧ I' 420 6 = I 420 6
theorem Fk.rf {I : Nat → Nat → Int32} : Fk I I := ⟨fun _ _ => rfl, rfl, rfl⟩
theorem Fk.tr {I I' I'' : Nat → Nat → Int32} (h : Fk I I') (h2 : Fk I' I'') : Fk I I'' := ⟨fun q hq => (h2.1 q hq).trans (h.1 q hq), h2.2.1.trans h.2.1, h2.2.2.trans h.2.2⟩
def Mr (nd np : Nat) (I I' : Nat → Nat → Int32) : Prop := Fk I I' ∧ RI nd np I'
theorem Mr.rf {nd np : Nat} {I : Nat → Nat → Int32} (h : RI nd np I) : Mr nd np I I := ⟨Fk.rf, h⟩
theorem Mr.tr {nd np : Nat} {I I' I'' : Nat → Nat → Int32} (h : Mr nd np I I') (h2 : Mr nd np I' I'') : Mr nd np I I'' := ⟨h.1.tr h2.1, h2.2⟩
theorem RI.so {nd np : Nat} {I : Nat → Nat → Int32} (h : RI nd np I) : SO nd np (I 421) := h.1
theorem RI.fr {nd np : Nat} {I : Nat → Nat → Int32} (h : RI nd np I) : FrW np (I 421) := h.2.1
theorem RI.lw {nd np : Nat} {I : Nat → Nat → Int32} (h : RI nd np I) : LwW (I 421) := h.2.2.1
theorem RI.lg {nd np : Nat} {I : Nat → Nat → Int32} (h : RI nd np I) : LgW (I 421) := h.2.2.2.1
theorem RI.im {nd np : Nat} {I : Nat → Nat → Int32} (h : RI nd np I) : Img I := h.2.2.2.2.1
theorem RI.ac {nd np : Nat} {I : Nat → Nat → Int32} (h : RI nd np I) : Act I := h.2.2.2.2.2
theorem Img.eq {I I' : Nat → Nat → Int32} (h : Img I) (e6 : I' 420 6 = I 420 6) (e : I' 422 = I 422) : Img I' := by
  unfold Img
  rw [e6, e]
  exact h
theorem Act.eq {I I' : Nat → Nat → Int32} (h : Act I) (e7 : I' 420 7 = I 420 7) (e : I' 425 = I 425) (e3 : I' 421 3 = I 421 3) : Act I' := by
  unfold Act
  rw [e7, e, e3]
  exact h
/-- a change of the world alone, not of whether there is a law -/
theorem Mr.wd {nd np : Nat} {I I' : Nat → Nat → Int32} (h : RI nd np I) (hf : ∀ q, q ≠ 421 → I' q = I q) (e3 : I' 421 3 = I 421 3) (h1 : SO nd np (I' 421)) (h2 : FrW np (I' 421)) (h3 : LwW (I' 421)) (h4 : LgW (I' 421)) : Mr nd np I I' :=
  ⟨⟨fun q hq => hf q (by omega), by rw [hf 420 (by decide)], by rw [hf 420 (by decide)]⟩, h1, h2, h3, h4, h.im.eq (by rw [hf 420 (by decide)]) (hf 422 (by decide)), h.ac.eq (by rw [hf 420 (by decide)]) (hf 425 (by decide)) e3⟩
theorem dayC_per : ∀ p, p < 6 → dayC (11 + 2 * p + 1) = false := by decide +kernel
theorem sD_low {q k : Nat} (h : q < 420 ∨ q = 426) : sD q k = false := by
  have b : ∀ n, 420 ≤ n → n ≠ 426 → Nat.beq q n = false := fun n hn hn2 => beqF (by omega)
  simp [sD, sU, b]
theorem Mr.ofD {nd np : Nat} {I I' : Nat → Nat → Int32} (h : RI nd np I) (f : Dd I I') : Mr nd np I I' := by
  refine ⟨⟨fun q hq => funext fun k => f.1 q k (sD_low hq), f.1 420 9 rfl, f.1 420 6 rfl⟩, f.so h.so, fun p hp => ?_, f.lw h.lw, f.lg h.lg, h.im.eq (f.1 420 6 rfl) (funext fun k => f.1 422 k rfl), h.ac.eq (f.1 420 7 rfl) (funext fun k => f.1 425 k rfl) (f.1 421 3 rfl)⟩
  have h6 := h.so.p
  show ∃ g, g ≤ 9 ∧ I' 421 (11 + 2 * p + 1) = nI g
  rw [f.1 421 _ (dayC_per p (by omega))]
  exact h.fr p hp
theorem Mr.dd {nd np : Nat} {I I' I'' : Nat → Nat → Int32} (h : Mr nd np I I') (f : Dd I' I'') : Mr nd np I I'' := h.tr (Mr.ofD h.2 f)
theorem Mr.fm {nd np : Nat} {I I' I'' : Nat → Nat → Int32} (h : Mr nd np I I') (f : Fm sU I' I'') : Mr nd np I I'' := h.dd (Dd.of f)
theorem sV_low {q k : Nat} (h : q < 420 ∨ q = 426) : sV q k = false := by
  have b : ∀ n, 420 ≤ n → n ≠ 426 → Nat.beq q n = false := fun n hn hn2 => beqF (by omega)
  simp [sV, sU, b]
theorem Mr.ofV {nd np : Nat} {I I' : Nat → Nat → Int32} (h : RI nd np I) (f : Fm sV I I') : Mr nd np I I' := by
  have e : I' 421 = I 421 := funext fun k => f 421 k rfl
  refine ⟨⟨fun q hq => funext fun k => f q k (sV_low hq), f 420 9 rfl, f 420 6 rfl⟩, by rw [e]; exact h.so, by rw [e]; exact h.fr, by rw [e]; exact h.lw, by rw [e]; exact h.lg, h.im.eq (f 420 6 rfl) (funext fun k => f 422 k rfl), h.ac.eq (f 420 7 rfl) (funext fun k => f 425 k rfl) (f 421 3 rfl)⟩
theorem u2_lo {I : Nat → Nat → Int32} {j k : Nat} {v : Int32} (h : k ≠ j) : up2 I 421 j v 421 k = I 421 k := up2_ne (Or.inr h)
theorem LgW.up {I : Nat → Nat → Int32} {j : Nat} {v : Int32} (h : LgW (I 421)) (hj : j ≠ 9) : LgW (up2 I 421 j v 421) := by
  obtain ⟨n, h1, h2⟩ := h
  exact ⟨n, h1, by rw [u2_lo (fun e => hj e.symm)]; exact h2⟩
theorem LwW.up {I : Nat → Nat → Int32} {j : Nat} {v : Int32} (h : LwW (I 421)) (hj : j ≠ 3) (hj2 : j < 335) : LwW (up2 I 421 j v 421) := h.eq (u2_lo (fun e => hj e.symm)) (fun k h1 _ => u2_lo (by omega))
theorem Mr.own {nd np d p : Nat} {I I' : Nat → Nat → Int32} (h : Mr nd np I I') (hd : d < nd) (hp : p < np) : Mr nd np I (up2 I' 421 (23 + 6 * d + 0) (nI p)) := by
  have hs := h.2.so
  have hn := hs.n
  have h6 := hs.p
  refine h.tr (Mr.wd h.2 (fun q hq => up2_row hq) (u2_lo (by omega)) ⟨hs.n, hs.p, (u2_lo (by omega)).trans hs.du, (u2_lo (by omega)).trans hs.pu, fun e he => ?_, fun e he => ?_, fun e he => ?_, fun z => hs.h7 ((u2_lo (by omega)).symm.trans z)⟩ (fun q hq => ?_) (h.2.lw.up (by omega) (by omega)) (h.2.lg.up (by omega)))
  · show up2 I' 421 _ _ 421 (23 + 6 * e + 4) = -1 ∨ ∃ g, g < nd ∧ up2 I' 421 _ _ 421 (23 + 6 * e + 4) = nI g
    rw [u2_lo (by omega)]
    exact hs.l e he
  · show ∃ g, g < np ∧ up2 I' 421 _ _ 421 (23 + 6 * e + 0) = nI g
    by_cases hed : e = d
    · subst hed
      exact ⟨p, hp, up2_at⟩
    · rw [u2_lo (by omega)]
      exact hs.o e he
  · show up2 I' 421 _ _ 421 (23 + 6 * e + 3) = -1 ∨ ∃ g, g < 6 ∧ up2 I' 421 _ _ 421 (23 + 6 * e + 3) = nI g
    rw [u2_lo (by omega)]
    exact hs.t e he
  · show ∃ g, g ≤ 9 ∧ up2 I' 421 _ _ 421 (11 + 2 * q + 1) = nI g
    rw [u2_lo (by omega)]
    exact h.2.fr q hq
theorem Mr.le {nd np d : Nat} {I I' : Nat → Nat → Int32} {x : Int32} (h : Mr nd np I I') (hd : d < nd) (hx : x = -1 ∨ ∃ e, e < nd ∧ x = nI e) : Mr nd np I (up2 I' 421 (23 + 6 * d + 4) x) := by
  have hs := h.2.so
  have hn := hs.n
  have h6 := hs.p
  refine h.tr (Mr.wd h.2 (fun q hq => up2_row hq) (u2_lo (by omega)) ⟨hs.n, hs.p, (u2_lo (by omega)).trans hs.du, (u2_lo (by omega)).trans hs.pu, fun e he => ?_, fun e he => ?_, fun e he => ?_, fun z => hs.h7 ((u2_lo (by omega)).symm.trans z)⟩ (fun q hq => ?_) (h.2.lw.up (by omega) (by omega)) (h.2.lg.up (by omega)))
  · show up2 I' 421 _ _ 421 (23 + 6 * e + 4) = -1 ∨ ∃ g, g < nd ∧ up2 I' 421 _ _ 421 (23 + 6 * e + 4) = nI g
    by_cases hed : e = d
    · subst hed
      rw [up2_at]
      exact hx
    · rw [u2_lo (by omega)]
      exact hs.l e he
  · show ∃ g, g < np ∧ up2 I' 421 _ _ 421 (23 + 6 * e + 0) = nI g
    rw [u2_lo (by omega)]
    exact hs.o e he
  · show up2 I' 421 _ _ 421 (23 + 6 * e + 3) = -1 ∨ ∃ g, g < 6 ∧ up2 I' 421 _ _ 421 (23 + 6 * e + 3) = nI g
    rw [u2_lo (by omega)]
    exact hs.t e he
  · show ∃ g, g ≤ 9 ∧ up2 I' 421 _ _ 421 (11 + 2 * q + 1) = nI g
    rw [u2_lo (by omega)]
    exact h.2.fr q hq
theorem Mr.free {nd np p m : Nat} {I I' : Nat → Nat → Int32} (h : Mr nd np I I') (hp : p < np) (hm : m ≤ 9) : Mr nd np I (up2 I' 421 (11 + 2 * p + 1) (nI m)) := by
  have hs := h.2.so
  have h6 := hs.p
  refine h.tr (Mr.wd h.2 (fun q hq => up2_row hq) (u2_lo (by omega)) (hs.fr hp) (fun q hq => ?_) (h.2.lw.up (by omega) (by omega)) (h.2.lg.up (by omega)))
  show ∃ g, g ≤ 9 ∧ up2 I' 421 _ _ 421 (11 + 2 * q + 1) = nI g
  by_cases e : q = p
  · subst e
    exact ⟨m, hm, up2_at⟩
  · rw [u2_lo (by omega)]
    exact h.2.fr q hq
/-! what is remembered: rows within a row -/
def cpR (I : Nat → Nat → Int32) (p a q b n : Nat) : Nat → Nat → Int32 := upr I p (fun k => if a ≤ k ∧ k < a + n then I q (k - a + b) else I p k)
theorem cpR_0 {I : Nat → Nat → Int32} {p a q b : Nat} : cpR I p a q b 0 = I := by
  funext x
  unfold cpR upr
  split
  · next h =>
    subst h
    funext k
    rw [if_neg (by omega)]
  · rfl
theorem cpR_row {I : Nat → Nat → Int32} {p a q b n x : Nat} (h : x ≠ p) : cpR I p a q b n x = I x := upr_row h
theorem cpR_in {I : Nat → Nat → Int32} {p a q b n k : Nat} (h1 : k < n) : cpR I p a q b n p (a + k) = I q (k + b) := by
  unfold cpR
  rw [upr_at, if_pos ⟨by omega, by omega⟩]
  congr 1
  omega
theorem cpR_out {I : Nat → Nat → Int32} {p a q b n k : Nat} (h : ¬ (a ≤ k ∧ k < a + n)) : cpR I p a q b n p k = I p k := by
  unfold cpR
  rw [upr_at, if_neg h]
/-- one more; the row copied from is another, or lies behind -/
theorem cpR_succ {I : Nat → Nat → Int32} {p a q b n : Nat} : up2 (cpR I p a q b n) p (a + n) (I q (n + b)) = cpR I p a q b (n + 1) := by
  funext x k
  by_cases hx : x = p
  · subst hx
    by_cases hk : k = a + n
    · subst hk
      rw [up2_at, cpR_in (by omega)]
    · rw [up2_ne (Or.inr hk)]
      unfold cpR
      rw [upr_at, upr_at]
      by_cases h : a ≤ k ∧ k < a + n
      · rw [if_pos h, if_pos ⟨h.1, by omega⟩]
      · rw [if_neg h, if_neg (by omega)]
  · rw [up2_row hx, cpR_row hx, cpR_row hx]
theorem StW.eq {W W' : Nat → Int32} (h : StW W) (e : ∀ k, k < 335 → W' k = W k) : StW W' := by
  obtain ⟨nd, np, h1, h2, h3⟩ := h
  have hn := h1.n
  have h6 := h1.p
  refine ⟨nd, np, h1.eq (e 0 (by decide)) (e 1 (by decide)) (e 7 (by decide)) (fun d k hd hk => e _ (by omega)) (fun _ _ => trivial), fun p hp => ?_, ?_⟩
  · show ∃ g, g ≤ 9 ∧ W' (11 + 2 * p + 1) = nI g
    rw [e _ (by omega)]
    exact h2 p hp
  · obtain ⟨k, h4, h5⟩ := h3
    exact ⟨k, h4, (e 9 (by decide)).trans h5⟩
theorem RI.st {nd np : Nat} {I : Nat → Nat → Int32} (h : RI nd np I) : StW (I 421) := ⟨nd, np, h.so, h.fr, h.lg⟩
/-- twelve are there: the eldest goes; else one more -/
def remH (I : Nat → Nat → Int32) (r : Nat) : Nat → Nat → Int32 := if r = 12 then cpR (cpR I 425 0 425 335 3685) 425 (335 * 11) 421 0 335 else cpR (up2 I 420 7 (nI (r + 1))) 425 (335 * r) 421 0 335
theorem Mr.rem {nd np r : Nat} {I : Nat → Nat → Int32} (h : RI nd np I) (hr : r ≤ 12) (er : I 420 7 = nI r) (ha : ∀ i, i < r → StW (fun k => I 425 (335 * i + k)) ∧ I 425 (335 * i + 3) = I 421 3) : Mr nd np I (remH I r) ∧ remH I r 421 = I 421 := by
  have e1 : ∀ q, q ≠ 425 → q ≠ 420 → remH I r q = I q := fun q h1 h2 => by
    unfold remH
    split
    · rw [cpR_row h1, cpR_row h1]
    · rw [cpR_row h1, up2_row h2]
  have e2 : ∀ k, k ≠ 7 → remH I r 420 k = I 420 k := fun k hk => by
    unfold remH
    split
    · rw [cpR_row (by decide), cpR_row (by decide)]
    · rw [cpR_row (by decide), up2_ne (Or.inr hk)]
  refine ⟨⟨⟨fun q hq => e1 q (by omega) (by omega), e2 9 (by decide), e2 6 (by decide)⟩, ?_⟩, e1 421 (by decide) (by decide)⟩
  unfold RI
  rw [e1 421 (by decide) (by decide)]
  refine ⟨h.so, h.fr, h.lw, h.lg, h.im.eq (e2 6 (by decide)) (e1 422 (by decide) (by decide)), ?_⟩
  unfold Act
  rw [e1 421 (by decide) (by decide)]
  by_cases h12 : r = 12
  · subst h12
    refine ⟨12, by decide, ?_, fun i hi => ?_⟩
    · unfold remH
      rw [if_pos rfl, cpR_row (by decide), cpR_row (by decide)]
      exact er
    · have e3 : ∀ k, k < 335 → remH I 12 425 (335 * i + k) = if i = 11 then I 421 k else I 425 (335 * (i + 1) + k) := fun k hk => by
        unfold remH
        rw [if_pos rfl]
        by_cases h11 : i = 11
        · subst h11
          rw [if_pos rfl, cpR_in hk, cpR_row (by decide), Nat.add_zero]
        · rw [if_neg h11, cpR_out (by omega), show 335 * i + k = 0 + (335 * i + k) by omega, cpR_in (by omega)]
          congr 1
          omega
      by_cases h11 : i = 11
      · refine ⟨h.st.eq fun k hk => (e3 k hk).trans (if_pos h11), (e3 3 (by decide)).trans (if_pos h11)⟩
      · have h9 := ha (i + 1) (by omega)
        exact ⟨h9.1.eq fun k hk => (e3 k hk).trans (if_neg h11), ((e3 3 (by decide)).trans (if_neg h11)).trans h9.2⟩
  · refine ⟨r + 1, by omega, ?_, fun i hi => ?_⟩
    · unfold remH
      rw [if_neg h12, cpR_row (by decide), up2_at]
    · have e3 : ∀ k, k < 335 → remH I r 425 (335 * i + k) = if i = r then I 421 k else I 425 (335 * i + k) := fun k hk => by
        unfold remH
        rw [if_neg h12]
        by_cases h11 : i = r
        · subst h11
          rw [if_pos rfl, cpR_in hk, up2_row (by decide), Nat.add_zero]
        · rw [if_neg h11, cpR_out (by omega), up2_row (by decide)]
      by_cases h11 : i = r
      · exact ⟨h.st.eq fun k hk => (e3 k hk).trans (if_pos h11), (e3 3 (by decide)).trans (if_pos h11)⟩
      · have h9 := ha i (by omega)
        exact ⟨h9.1.eq fun k hk => (e3 k hk).trans (if_neg h11), ((e3 3 (by decide)).trans (if_neg h11)).trans h9.2⟩
end
section
/-! ===== the reference: remembering, undoing, the image, the tape (printed by program) ===== -/
set_option maxRecDepth 100000
theorem RI.eq {nd np : Nat} {I I' : Nat → Nat → Int32} (h : RI nd np I) (e1 : I' 421 = I 421) (e2 : I' 422 = I 422) (e5 : I' 425 = I 425) (e6 : I' 420 6 = I 420 6) (e7 : I' 420 7 = I 420 7) : RI nd np I' := by
  unfold RI
  rw [e1]
  exact ⟨h.so, h.fr, h.lw, h.lg, h.im.eq e6 e2, h.ac.eq e7 e5 (by rw [e1])⟩
section R63
variable {S : aS} {I : Nat → Nat → Int32} {L : Nat → Nat → Int64} {w1 w2 t : Nat} {nd np : Nat}
theorem rem2 {B : Nat → Nat → Int32} {m : Nat} (hm : m < 12) (e : B 420 7 = nI (m + 1)) {Q : Option Value → aH → Prop} {X : String → aH → Prop} {u : Option Value} (k : Q none (hp (cpR B 425 (335 * m) 421 0 335) L w1 w2 t)) : AW S m_X12_remembers 12 Q X 0 0 53 [some (.ref 420), u] [] (hp B L w1 w2 t) := by
  refine a_s rfl rfl ?_
  refine a_s1 rfl rfl rfl rfl rfl rfl ?_
  refine a_forE (n := 335) (fun j => [some (.ref 420), some (.int (nI j))]) (fun j => hp (cpR B 425 (335 * m) 421 0 j) L w1 w2 t) (by simp [lsub, nI_0]) (by rw [cpR_0]) ?_ (fun j hj ih => ?_)
  · refine a_l1 rfl rfl rfl ?_
    refine a_s rfl rfl ?_
    refine a_ic_ge rfl (fun _ => ?_) (fun c => absurd (Int32.le_refl _) c)
    exact a_vret rfl rfl k
  · refine a_l1 rfl rfl rfl ?_
    refine a_s rfl rfl ?_
    refine a_ic_ge rfl (fun c => absurd c (nI_ge (b := 335) hj (by omega))) (fun _ => ?_)
    refine a_l0 rfl rfl rfl ?_
    refine a_getq rfl gfX12_26_12 rfl (rfl) ?_
    refine a_s rfl rfl ?_
    refine a_l0 rfl rfl rfl ?_
    refine a_geti rfl gfX12_53_12 rfl ?_
    refine a_top (y := nI (m + 1)) ((congrFun (cpR_row (by decide)) 7).trans e) ?_
    refine a_s rfl rfl ?_
    refine a_s rfl rfl ?_
    refine a_top (y := nI m) (nI_dec m) ?_
    refine a_s rfl rfl ?_
    refine a_top (y := nI (335 * m)) (nI_mul 335 m) ?_
    refine a_l1 rfl rfl rfl ?_
    refine a_s rfl rfl ?_
    refine a_top (y := nI (335 * m + j)) (nI_addl _ _) ?_
    refine a_l0 rfl rfl rfl ?_
    refine a_getq rfl gfX12_13_12 rfl (rfl) ?_
    refine a_l1 rfl rfl rfl ?_
    refine a_ialdv (v := B 421 (j + 0)) rfl (n := 2033) rfl (inI_nI (by omega) (by omega)) (by rw [nI_clamp (by omega), cpR_row (by decide)]; rfl) ?_
    refine a_iastv (k := 335 * m + j) rfl (n := 4020) rfl (inI_nI (by omega) (by omega)) (nI_clamp (by omega)) ?_
    rw [cpR_succ]
    refine a_i1 rfl rfl rfl ?_
    refine a_goto rfl ?_
    exact a_back ih (by simp [lsub, nI_1]) rfl
theorem r_X12_remembers (hr : RI nd np I) : Sp S m_X12_remembers 12 0 0 [.ref 420] (hp I L w1 w2 t) (fun v h' => v = none ∧ ∃ I', h' = hp I' L w1 w2 t ∧ Mr nd np I I' ∧ I' 421 = I 421) nX := by
  obtain ⟨r, hr12, er, ha⟩ := hr.ac
  have fin := Mr.rem hr hr12 er ha
  refine Sp_of ok_X12_remembers rfl rfl ?_
  show AW S m_X12_remembers 12 _ _ 0 0 0 [some (.ref 420), none] [] (hp I L w1 w2 t)
  refine a_l0 rfl rfl rfl ?_
  refine a_geti rfl gfX12_53_12 rfl ?_
  refine a_top (y := nI r) er ?_
  refine a_s rfl rfl ?_
  refine a_ic_ne rfl (fun c => ?_) (fun c => ?_)
  · have h12 : ¬ r = 12 := fun z => c (by rw [z]; rfl)
    unfold remH at fin
    rw [if_neg h12] at fin
    refine a_l0 rfl rfl rfl ?_
    refine a_s rfl rfl ?_
    refine a_geti rfl gfX12_53_12 rfl ?_
    refine a_top (y := nI r) er ?_
    refine a_s rfl rfl ?_
    refine a_s rfl rfl ?_
    refine a_top (y := nI (r + 1)) (nI_succ _).symm ?_
    refine a_puti rfl pfX12_53_12 rfl ?_
    exact rem2 (by omega) up2_at ⟨rfl, _, rfl, fin⟩
  · have h12 : r = 12 := nI_inj (by omega) (by decide) c
    subst h12
    unfold remH at fin
    rw [if_pos rfl] at fin
    refine a_s rfl rfl ?_
    refine a_s1 rfl rfl rfl rfl rfl rfl ?_
    refine a_forE (n := 3685) (fun j => [some (.ref 420), some (.int (nI j))]) (fun j => hp (cpR I 425 0 425 335 j) L w1 w2 t) (by simp [lsub, nI_0]) (by rw [cpR_0]) ?_ (fun j hj ih => ?_)
    · refine a_l1 rfl rfl rfl ?_
      refine a_s rfl rfl ?_
      refine a_ic_ge rfl (fun _ => ?_) (fun c => absurd (Int32.le_refl _) c)
      refine a_goto rfl ?_
      exact rem2 (m := 11) (by decide) ((congrFun (cpR_row (by decide)) 7).trans er) ⟨rfl, _, rfl, fin⟩
    · refine a_l1 rfl rfl rfl ?_
      refine a_s rfl rfl ?_
      refine a_ic_ge rfl (fun c => absurd c (nI_ge (b := 3685) hj (by omega))) (fun _ => ?_)
      refine a_l0 rfl rfl rfl ?_
      refine a_getq rfl gfX12_26_12 rfl (rfl) ?_
      refine a_l1 rfl rfl rfl ?_
      refine a_l0 rfl rfl rfl ?_
      refine a_getq rfl gfX12_26_12 rfl (rfl) ?_
      refine a_l1 rfl rfl rfl ?_
      refine a_s rfl rfl ?_
      refine a_s rfl rfl ?_
      refine a_top (y := nI (j + 335)) (nI_addl j 335) ?_
      refine a_ialdv (v := I 425 (j + 335)) rfl (n := 4020) rfl (inI_nI (by omega) (by omega)) (by rw [nI_clamp (by omega)]; exact cpR_out (by omega)) ?_
      refine a_iastv (k := 0 + j) rfl (n := 4020) rfl (inI_nI (by omega) (by omega)) (by rw [nI_clamp (by omega)]; omega) ?_
      rw [cpR_succ]
      refine a_i1 rfl rfl rfl ?_
      refine a_goto rfl ?_
      exact a_back ih (by simp [lsub, nI_1]) rfl
theorem RI.un {m : Nat} {I : Nat → Nat → Int32} (h : RI nd np I) (er : I 420 7 = nI (m + 1)) (hm : m + 1 ≤ 12) (ha : ∀ i, i < m + 1 → StW (fun k => I 425 (335 * i + k)) ∧ I 425 (335 * i + 3) = I 421 3) : ∃ nd' np', Mr nd' np' I (cpR (up2 (up2 I 420 0 0) 420 7 (nI m)) 421 0 425 (335 * m) 335) := by
  obtain ⟨⟨nd', np', h1, h2, h3⟩, h4⟩ := ha m (by omega)
  have e0 : ∀ q, q ≠ 421 → q ≠ 420 → cpR (up2 (up2 I 420 0 0) 420 7 (nI m)) 421 0 425 (335 * m) 335 q = I q := fun q g1 g2 => by
    rw [cpR_row g1, up2_row g2, up2_row g2]
  have e1 : ∀ k, k ≠ 7 → k ≠ 0 → cpR (up2 (up2 I 420 0 0) 420 7 (nI m)) 421 0 425 (335 * m) 335 420 k = I 420 k := fun k g1 g2 => by
    rw [cpR_row (by decide), up2_ne (Or.inr g1), up2_ne (Or.inr g2)]
  have e2 : ∀ k, k < 335 → cpR (up2 (up2 I 420 0 0) 420 7 (nI m)) 421 0 425 (335 * m) 335 421 k = I 425 (335 * m + k) := fun k hk => by
    rw [show k = 0 + k by omega, cpR_in hk, up2_row (by decide), up2_row (by decide), Nat.add_comm k (335 * m), show 0 + k = k by omega]
  have e3 : ∀ k, 335 ≤ k → cpR (up2 (up2 I 420 0 0) 420 7 (nI m)) 421 0 425 (335 * m) 335 421 k = I 421 k := fun k hk => by
    rw [cpR_out (by omega), up2_row (by decide), up2_row (by decide)]
  have hn' := h1.n
  have h6' := h1.p
  refine ⟨nd', np', ⟨fun q hq => e0 q (by omega) (by omega), e1 9 (by decide) (by decide), e1 6 (by decide) (by decide)⟩, ?_, fun p hp => ?_, ?_, ?_, h.im.eq (e1 6 (by decide) (by decide)) (e0 422 (by decide) (by decide)), ⟨m, by omega, ?_, fun i hi => ?_⟩⟩
  · exact h1.eq (e2 0 (by decide)) (e2 1 (by decide)) (e2 7 (by decide)) (fun d k hd hk => e2 _ (by omega)) (fun _ _ => trivial)
  · show ∃ g, g ≤ 9 ∧ cpR _ 421 0 425 (335 * m) 335 421 (11 + 2 * p + 1) = nI g
    rw [e2 _ (by omega)]
    exact h2 p hp
  · exact h.lw.eq ((e2 3 (by decide)).trans h4) (fun k g1 _ => e3 k g1)
  · obtain ⟨k, g1, g2⟩ := h3
    exact ⟨k, g1, (e2 9 (by decide)).trans g2⟩
  · rw [cpR_row (by decide), up2_at]
  · rw [e0 425 (by decide) (by decide), e2 3 (by decide), h4]
    exact ha i (by omega)
theorem r_X12_undo (hr : RI nd np I) : Sp S m_X12_undo 12 0 0 [.ref 420] (hp I L w1 w2 t) (fun v h' => isZ v ∧ ∃ nd' np' I', h' = hp I' L w1 w2 t ∧ Mr nd' np' I I') nX := by
  obtain ⟨r, hr12, er, ha⟩ := hr.ac
  refine Sp_of ok_X12_undo rfl rfl ?_
  show AW S m_X12_undo 12 _ _ 0 0 0 [some (.ref 420), none] [] (hp I L w1 w2 t)
  refine a_l0 rfl rfl rfl ?_
  refine a_s rfl rfl ?_
  refine a_puti rfl pfX12_3_12 rfl ?_
  refine a_l0 rfl rfl rfl ?_
  refine a_geti rfl gfX12_53_12 rfl ?_
  refine a_top (y := nI r) ((up2_ne (Or.inr (by decide))).trans er) ?_
  refine a_if_ne rfl (fun c => ?_) (fun c => ?_)
  · rcases r with _ | m
    · exact absurd rfl c
    · obtain ⟨nd', np', fin⟩ := RI.un hr er hr12 ha
      refine a_l0 rfl rfl rfl ?_
      refine a_s rfl rfl ?_
      refine a_geti rfl gfX12_53_12 rfl ?_
      refine a_top (y := nI (m + 1)) ((up2_ne (Or.inr (by decide))).trans er) ?_
      refine a_s rfl rfl ?_
      refine a_s rfl rfl ?_
      refine a_top (y := nI m) (nI_dec m) ?_
      refine a_puti rfl pfX12_53_12 rfl ?_
      refine a_s rfl rfl ?_
      refine a_s1 rfl rfl rfl rfl rfl rfl ?_
      refine a_forE (n := 335) (fun j => [some (.ref 420), some (.int (nI j))]) (fun j => hp (cpR (up2 (up2 I 420 0 0) 420 7 (nI m)) 421 0 425 (335 * m) j) L w1 w2 t) (by simp [lsub, nI_0]) (by rw [cpR_0]) ?_ (fun j hj ih => ?_)
      · refine a_l1 rfl rfl rfl ?_
        refine a_s rfl rfl ?_
        refine a_ic_ge rfl (fun _ => ?_) (fun c => absurd (Int32.le_refl _) c)
        refine a_s rfl rfl ?_
        exact a_zret rfl rfl rfl ⟨⟨true, rfl⟩, nd', np', _, rfl, fin⟩
      · refine a_l1 rfl rfl rfl ?_
        refine a_s rfl rfl ?_
        refine a_ic_ge rfl (fun c => absurd c (nI_ge (b := 335) hj (by omega))) (fun _ => ?_)
        refine a_l0 rfl rfl rfl ?_
        refine a_getq rfl gfX12_13_12 rfl (rfl) ?_
        refine a_l1 rfl rfl rfl ?_
        refine a_l0 rfl rfl rfl ?_
        refine a_getq rfl gfX12_26_12 rfl (rfl) ?_
        refine a_s rfl rfl ?_
        refine a_l0 rfl rfl rfl ?_
        refine a_geti rfl gfX12_53_12 rfl ?_
        refine a_top (y := nI m) ((congrFun (cpR_row (by decide)) 7).trans up2_at) ?_
        refine a_s rfl rfl ?_
        refine a_top (y := nI (335 * m)) (nI_mul 335 m) ?_
        refine a_l1 rfl rfl rfl ?_
        refine a_s rfl rfl ?_
        refine a_top (y := nI (335 * m + j)) (nI_addl _ _) ?_
        refine a_ialdv (v := up2 (up2 I 420 0 0) 420 7 (nI m) 425 (j + 335 * m)) rfl (n := 4020) rfl (inI_nI (by omega) (by omega)) (by rw [nI_clamp (by omega), cpR_row (by decide), Nat.add_comm j (335 * m)]) ?_
        refine a_iastv (k := 0 + j) rfl (n := 2033) rfl (inI_nI (by omega) (by omega)) (by rw [nI_clamp (by omega)]; omega) ?_
        rw [cpR_succ]
        refine a_i1 rfl rfl rfl ?_
        refine a_goto rfl ?_
        exact a_back ih (by simp [lsub, nI_1]) rfl
  · refine a_s rfl rfl ?_
    exact a_zret rfl rfl rfl ⟨⟨false, rfl⟩, nd, np, _, rfl, Mr.fm (Mr.rf hr) (Fm.up Fm.rf rfl)⟩
/-- the image is kept -/
def imH (I : Nat → Nat → Int32) : Nat → Nat → Int32 := up2 (cpR (up2 I 420 0 0) 422 0 421 0 1184) 420 6 1
theorem StW.of {W W' : Nat → Int32} (h : StW W) (e : ∀ k, k < 1184 → W' k = W k) : StW W' := h.eq fun k hk => e k (by omega)
theorem imH_at {I : Nat → Nat → Int32} : ∀ k, k < 1184 → imH I 422 k = I 421 k := fun k hk => by
  unfold imH
  rw [up2_row (by decide), show k = 0 + k by omega, cpR_in hk, up2_row (by decide), show k + 0 = 0 + k by omega]
theorem imH_row {I : Nat → Nat → Int32} {q : Nat} (h1 : q ≠ 422) (h2 : q ≠ 420) : imH I q = I q := by
  unfold imH
  rw [up2_row h2, cpR_row h1, up2_row h2]
theorem imH_f {I : Nat → Nat → Int32} {k : Nat} (h1 : k ≠ 6) (h2 : k ≠ 0) : imH I 420 k = I 420 k := by
  unfold imH
  rw [up2_ne (Or.inr h1), cpR_row (by decide), up2_ne (Or.inr h2)]
theorem imH_ok {I : Nat → Nat → Int32} (h : RI nd np I) : (∀ q, (q < 420 ∨ q = 426) → imH I q = I q) ∧ imH I 420 9 = I 420 9 ∧ imH I 420 6 = 1 ∧ RI nd np (imH I) := by
  refine ⟨fun q hq => imH_row (by omega) (by omega), imH_f (by decide) (by decide), up2_at, ?_⟩
  unfold RI
  rw [imH_row (q := 421) (by decide) (by decide)]
  exact ⟨h.so, h.fr, h.lw, h.lg, Or.inr ⟨h.st.of imH_at, h.lw.eq (imH_at 3 (by decide)) (fun k _ h2 => imH_at k h2)⟩, h.ac.eq (imH_f (by decide) (by decide)) (imH_row (by decide) (by decide)) (by rw [imH_row (q := 421) (by decide) (by decide)])⟩
theorem r_X12_image (hr : RI nd np I) : SpE S m_X12_image 12 [.ref 420] (hp I L w1 w2 t) none (hp (imH I) L w1 w2 t) := by
  refine SpE_of ok_X12_image rfl rfl ?_
  show AW S m_X12_image 12 _ _ 0 0 0 [some (.ref 420), none] [] (hp I L w1 w2 t)
  refine a_l0 rfl rfl rfl ?_
  refine a_s rfl rfl ?_
  refine a_puti rfl pfX12_3_12 rfl ?_
  refine a_s rfl rfl ?_
  refine a_s1 rfl rfl rfl rfl rfl rfl ?_
  refine a_forE (n := 1184) (fun j => [some (.ref 420), some (.int (nI j))]) (fun j => hp (cpR (up2 I 420 0 0) 422 0 421 0 j) L w1 w2 t) (by simp [lsub, nI_0]) (by rw [cpR_0]) ?_ (fun j hj ih => ?_)
  · refine a_l1 rfl rfl rfl ?_
    refine a_s rfl rfl ?_
    refine a_ic_ge rfl (fun _ => ?_) (fun c => absurd (Int32.le_refl _) c)
    refine a_l0 rfl rfl rfl ?_
    refine a_s rfl rfl ?_
    refine a_putz rfl pfX12_49_12 ⟨rfl, rfl⟩ rfl ?_
    exact a_vret rfl rfl ⟨rfl, rfl⟩
  · refine a_l1 rfl rfl rfl ?_
    refine a_s rfl rfl ?_
    refine a_ic_ge rfl (fun c => absurd c (nI_ge (b := 1184) hj (by omega))) (fun _ => ?_)
    refine a_l0 rfl rfl rfl ?_
    refine a_getq rfl gfX12_17_12 rfl (rfl) ?_
    refine a_l1 rfl rfl rfl ?_
    refine a_l0 rfl rfl rfl ?_
    refine a_getq rfl gfX12_13_12 rfl (rfl) ?_
    refine a_l1 rfl rfl rfl ?_
    refine a_ialdv (v := (up2 I 420 0 0) 421 (j + 0)) rfl (n := 2033) rfl (inI_nI (by omega) (by omega)) (by rw [nI_clamp (by omega), cpR_row (by decide)]; rfl) ?_
    refine a_iastv (k := 0 + j) rfl (n := 1184) rfl (inI_nI (by omega) (by omega)) (by rw [nI_clamp (by omega)]; omega) ?_
    rw [cpR_succ]
    refine a_i1 rfl rfl rfl ?_
    refine a_goto rfl ?_
    exact a_back ih (by simp [lsub, nI_1]) rfl
/-- gone back to it -/
def bkH (I : Nat → Nat → Int32) : Nat → Nat → Int32 := up2 (cpR (up2 I 420 0 0) 421 0 422 0 1184) 420 7 0
theorem bkH_ok {I : Nat → Nat → Int32} (h : RI nd np I) (c : ¬ I 420 6 = 0) : ∃ nd' np', Mr nd' np' I (bkH I) := by
  obtain ⟨⟨nd', np', h1, h2, h3⟩, h4⟩ := h.im.resolve_left c
  have e0 : ∀ q, q ≠ 421 → q ≠ 420 → bkH I q = I q := fun q g1 g2 => by
    unfold bkH
    rw [up2_row g2, cpR_row g1, up2_row g2]
  have e1 : ∀ k, k ≠ 7 → k ≠ 0 → bkH I 420 k = I 420 k := fun k g1 g2 => by
    unfold bkH
    rw [up2_ne (Or.inr g1), cpR_row (by decide), up2_ne (Or.inr g2)]
  have e2 : ∀ k, k < 1184 → bkH I 421 k = I 422 k := fun k hk => by
    unfold bkH
    rw [up2_row (by decide), show k = 0 + k by omega, cpR_in hk, up2_row (by decide), show k + 0 = 0 + k by omega]
  have hn' := h1.n
  have h6' := h1.p
  refine ⟨nd', np', ⟨fun q hq => e0 q (by omega) (by omega), e1 9 (by decide) (by decide), e1 6 (by decide) (by decide)⟩, ?_, fun p hp => ?_, ?_, ?_, h.im.eq (e1 6 (by decide) (by decide)) (e0 422 (by decide) (by decide)), ⟨0, by omega, up2_at, fun i hi => absurd hi (by omega)⟩⟩
  · exact h1.eq (e2 0 (by decide)) (e2 1 (by decide)) (e2 7 (by decide)) (fun d k hd hk => e2 _ (by omega)) (fun _ _ => trivial)
  · show ∃ g, g ≤ 9 ∧ bkH I 421 (11 + 2 * p + 1) = nI g
    rw [e2 _ (by omega)]
    exact h2 p hp
  · exact h4.eq (e2 3 (by decide)) (fun k _ g2 => e2 k g2)
  · obtain ⟨k, g1, g2⟩ := h3
    exact ⟨k, g1, (e2 9 (by decide)).trans g2⟩
theorem r_X12_back (hr : RI nd np I) : Sp S m_X12_back 12 0 0 [.ref 420] (hp I L w1 w2 t) (fun v h' => v = some (.int (bI (decide (¬ I 420 6 = 0)))) ∧ ∃ nd' np' I', h' = hp I' L w1 w2 t ∧ Mr nd' np' I I') nX := by
  refine Sp_of ok_X12_back rfl rfl ?_
  show AW S m_X12_back 12 _ _ 0 0 0 [some (.ref 420), none] [] (hp I L w1 w2 t)
  refine a_l0 rfl rfl rfl ?_
  refine a_s rfl rfl ?_
  refine a_puti rfl pfX12_3_12 rfl ?_
  refine a_l0 rfl rfl rfl ?_
  refine a_geti rfl gfX12_49_12 rfl ?_
  refine a_top (y := I 420 6) (up2_ne (Or.inr (by decide))) ?_
  refine a_if_ne rfl (fun c => ?_) (fun c => ?_)
  · obtain ⟨nd', np', fin⟩ := bkH_ok hr c
    refine a_s rfl rfl ?_
    refine a_s1 rfl rfl rfl rfl rfl rfl ?_
    refine a_forE (n := 1184) (fun j => [some (.ref 420), some (.int (nI j))]) (fun j => hp (cpR (up2 I 420 0 0) 421 0 422 0 j) L w1 w2 t) (by simp [lsub, nI_0]) (by rw [cpR_0]) ?_ (fun j hj ih => ?_)
    · refine a_l1 rfl rfl rfl ?_
      refine a_s rfl rfl ?_
      refine a_ic_ge rfl (fun _ => ?_) (fun c => absurd (Int32.le_refl _) c)
      refine a_l0 rfl rfl rfl ?_
      refine a_s rfl rfl ?_
      refine a_puti rfl pfX12_53_12 rfl ?_
      refine a_s rfl rfl ?_
      exact a_zret rfl rfl rfl ⟨by rw [decide_eq_true c]; rfl, nd', np', _, rfl, fin⟩
    · refine a_l1 rfl rfl rfl ?_
      refine a_s rfl rfl ?_
      refine a_ic_ge rfl (fun c => absurd c (nI_ge (b := 1184) hj (by omega))) (fun _ => ?_)
      refine a_l0 rfl rfl rfl ?_
      refine a_getq rfl gfX12_13_12 rfl (rfl) ?_
      refine a_l1 rfl rfl rfl ?_
      refine a_l0 rfl rfl rfl ?_
      refine a_getq rfl gfX12_17_12 rfl (rfl) ?_
      refine a_l1 rfl rfl rfl ?_
      refine a_ialdv (v := (up2 I 420 0 0) 422 (j + 0)) rfl (n := 1184) rfl (inI_nI (by omega) (by omega)) (by rw [nI_clamp (by omega), cpR_row (by decide)]; rfl) ?_
      refine a_iastv (k := 0 + j) rfl (n := 2033) rfl (inI_nI (by omega) (by omega)) (by rw [nI_clamp (by omega)]; omega) ?_
      rw [cpR_succ]
      refine a_i1 rfl rfl rfl ?_
      refine a_goto rfl ?_
      exact a_back ih (by simp [lsub, nI_1]) rfl
  · refine a_s rfl rfl ?_
    exact a_zret rfl rfl rfl ⟨by rw [decide_eq_false (fun z => z c)]; rfl, nd, np, _, rfl, Mr.fm (Mr.rf hr) (Fm.up Fm.rf rfl)⟩
theorem r_X12_end {x : Int32} : SpE S m_X12_end 12 [.ref 420, .int x] (hp I L w1 w2 t) (some (.int (bI (endB x (I 420 9))))) (hp (if endB x (I 420 9) then up2 (up2 I 420 0 0) 420 9 x else up2 I 420 0 0) L w1 w2 t) := by
  refine SpE_of ok_X12_end rfl rfl ?_
  show AW S m_X12_end 12 _ _ 0 0 0 [some (.ref 420), some (.int x)] [] (hp I L w1 w2 t)
  refine a_l0 rfl rfl rfl ?_
  refine a_s rfl rfl ?_
  refine a_puti rfl pfX12_3_12 rfl ?_
  refine a_l1 rfl rfl rfl ?_
  refine a_if_lt rfl (fun c1 => ?_) (fun c1 => ?_)
  · refine a_s rfl rfl ?_
    exact a_zret rfl rfl rfl ⟨by simp [endB, bI, c1], by simp [endB, c1]⟩
  · refine a_l1 rfl rfl rfl ?_
    refine a_l0 rfl rfl rfl ?_
    refine a_geti rfl gfX12_78_12 rfl ?_
    refine a_top (y := I 420 9) (up2_ne (Or.inr (by decide))) ?_
    refine a_ic_le rfl (fun c12 => ?_) (fun c12 => ?_)
    · refine a_l0 rfl rfl rfl ?_
      refine a_l1 rfl rfl rfl ?_
      refine a_puti rfl pfX12_78_12 rfl ?_
      refine a_s rfl rfl ?_
      have e : endB x (I 420 9) = true := decide_eq_true ⟨c1, c12⟩
      exact a_zret rfl rfl rfl ⟨by rw [e]; rfl, by rw [e]; rfl⟩
    · refine a_s rfl rfl ?_
      have e : endB x (I 420 9) = false := decide_eq_false (fun z => c12 z.2)
      exact a_zret rfl rfl rfl ⟨by rw [e]; rfl, by rw [e]; rfl⟩
/-- twenty bytes more: the tape's row, five, its length -/
theorem nI_div4 : ∀ j, j < 20 → nI j / 4 = nI (j / 4) ∧ nI j - nI j / 4 * 4 = nI (j % 4) := by decide +kernel
theorem r_X12_feed {l : Nat} (hl : I 420 9 = nI l) (h4 : l ≤ 400) {x1 x2 x3 x4 x5 : Int32} : Sp S m_X12_feed 12 0 0 [.ref 420, .int x1, .int x2, .int x3, .int x4, .int x5] (hp I L w1 w2 t) (fun v h' => v = some (.int (if l + 20 ≤ 400 then nI (l + 20) else -1)) ∧ ∃ f g, h' = hp (if l + 20 ≤ 400 then up2 (upr (upr (up2 I 420 0 0) 427 g) 426 f) 420 9 (nI (l + 20)) else up2 I 420 0 0) L w1 w2 t) nX := by
  refine Sp_of ok_X12_feed rfl rfl ?_
  show AW S m_X12_feed 12 _ _ 0 0 0 [some (.ref 420), some (.int x1), some (.int x2), some (.int x3), some (.int x4), some (.int x5), none] [] (hp I L w1 w2 t)
  refine a_l0 rfl rfl rfl ?_
  refine a_s rfl rfl ?_
  refine a_puti rfl pfX12_3_12 rfl ?_
  refine a_l0 rfl rfl rfl ?_
  refine a_geti rfl gfX12_78_12 rfl ?_
  refine a_top (y := nI l) ((up2_ne (Or.inr (by decide))).trans hl) ?_
  refine a_s rfl rfl ?_
  refine a_s rfl rfl ?_
  refine a_top (y := nI (l + 20)) (nI_addl l 20) ?_
  refine a_s rfl rfl ?_
  refine a_ic_le rfl (fun c => ?_) (fun c => ?_)
  · have hc : l + 20 ≤ 400 := nI_ge_of (a := 400) (b := l + 20) c (by decide) (by omega)
    simp only [if_pos hc]
    refine a_l0 rfl rfl rfl ?_
    refine a_getq rfl gfX12_36_12 rfl (rfl) ?_
    refine a_s rfl rfl ?_
    refine a_l1 rfl rfl rfl ?_
    refine a_iastv (k := 0) rfl (n := 5) rfl ⟨by decide, by decide⟩ rfl ?_
    refine a_l0 rfl rfl rfl ?_
    refine a_getq rfl gfX12_36_12 rfl (rfl) ?_
    refine a_s rfl rfl ?_
    refine a_l2 rfl rfl rfl ?_
    refine a_iastv (k := 1) rfl (n := 5) rfl ⟨by decide, by decide⟩ rfl ?_
    refine a_l0 rfl rfl rfl ?_
    refine a_getq rfl gfX12_36_12 rfl (rfl) ?_
    refine a_s rfl rfl ?_
    refine a_l3 rfl rfl rfl ?_
    refine a_iastv (k := 2) rfl (n := 5) rfl ⟨by decide, by decide⟩ rfl ?_
    refine a_l0 rfl rfl rfl ?_
    refine a_getq rfl gfX12_36_12 rfl (rfl) ?_
    refine a_s rfl rfl ?_
    refine a_l4 rfl rfl rfl ?_
    refine a_iastv (k := 3) rfl (n := 5) rfl ⟨by decide, by decide⟩ rfl ?_
    refine a_l0 rfl rfl rfl ?_
    refine a_getq rfl gfX12_36_12 rfl (rfl) ?_
    refine a_s rfl rfl ?_
    refine a_l5 rfl rfl rfl ?_
    refine a_iastv (k := 4) rfl (n := 5) rfl ⟨by decide, by decide⟩ rfl ?_
    obtain ⟨g, eg⟩ : ∃ g, up2 (up2 (up2 (up2 (up2 (up2 I 420 0 0) 427 0 x1) 427 1 x2) 427 2 x3) 427 3 x4) 427 4 x5 = upr (up2 I 420 0 0) 427 g := ⟨_, by
      funext q
      by_cases hq : q = 427
      · subst hq
        rw [upr_at]
      · rw [upr_row hq, up2_row hq, up2_row hq, up2_row hq, up2_row hq, up2_row hq]⟩
    rw [eg]
    refine a_s rfl rfl ?_
    refine a_s6 rfl rfl rfl rfl rfl rfl ?_
    refine a_inv (n := 20) (fun m ls h => ∃ j f, j + m = 20 ∧ ls = [some (.ref 420), some (.int x1), some (.int x2), some (.int x3), some (.int x4), some (.int x5), some (.int (nI j))] ∧ h = hp (upr (upr (up2 I 420 0 0) 427 g) 426 f) L w1 w2 t) ⟨0, I 426, rfl, rfl, by
      congr 1
      congr 1
      funext q
      by_cases hq : q = 426
      · subst hq
        rw [upr_at, upr_row (by decide), up2_row (by decide)]
      · rw [upr_row hq]⟩ ?_
    rintro m _ _ ⟨j, f, hj, rfl, rfl⟩ ih
    refine a_l6 rfl rfl rfl ?_
    refine a_s rfl rfl ?_
    refine a_ic_ge rfl (fun c2 => ?_) (fun c2 => ?_)
    · refine a_l0 rfl rfl rfl ?_
      refine a_s rfl rfl ?_
      refine a_geti rfl gfX12_78_12 rfl ?_
      refine a_top (y := nI l) (by rw [upr_row (by decide), upr_row (by decide)]; exact (up2_ne (Or.inr (by decide))).trans hl) ?_
      refine a_s rfl rfl ?_
      refine a_s rfl rfl ?_
      refine a_top (y := nI (l + 20)) (nI_addl l 20) ?_
      refine a_puti rfl pfX12_78_12 rfl ?_
      refine a_l0 rfl rfl rfl ?_
      refine a_geti rfl gfX12_78_12 rfl ?_
      refine a_top (y := nI (l + 20)) up2_at ?_
      exact a_iret rfl rfl ⟨rfl, f, g, rfl⟩
    · have hj2 : j < 20 := nI_lt_of (b := 20) c2 (by omega) (by decide)
      refine a_l0 rfl rfl rfl ?_
      refine a_getq rfl gfX12_29_12 rfl (rfl) ?_
      refine a_l0 rfl rfl rfl ?_
      refine a_geti rfl gfX12_78_12 rfl ?_
      refine a_top (y := nI l) (by rw [upr_row (by decide), upr_row (by decide)]; exact (up2_ne (Or.inr (by decide))).trans hl) ?_
      refine a_l6 rfl rfl rfl ?_
      refine a_s rfl rfl ?_
      refine a_top (y := nI (l + j)) (nI_addl l j) ?_
      refine a_l0 rfl rfl rfl ?_
      refine a_getq rfl gfX12_36_12 rfl (rfl) ?_
      refine a_l6 rfl rfl rfl ?_
      refine a_s rfl rfl ?_
      refine a_idiv rfl (by decide) ?_
      refine a_top (y := nI (j / 4)) (nI_div4 j hj2).1 ?_
      refine a_iald rfl (n := 5) rfl (inI_nI (by omega) (by omega)) ?_
      refine a_s rfl rfl ?_
      refine a_s rfl rfl ?_
      refine a_l6 rfl rfl rfl ?_
      refine a_s rfl rfl ?_
      refine a_irem rfl (by decide) ?_
      refine a_s rfl rfl ?_
      refine a_s rfl rfl ?_
      refine a_s rfl rfl ?_
      refine a_s rfl rfl ?_
      refine a_bastv (k := l + j) rfl (n := 400) rfl (inI_nI (by omega) (by omega)) (i2b_id _) (nI_clamp (by omega)) ?_
      obtain ⟨f2, ef⟩ : ∃ f2, ∀ v, True → up2 (upr (upr (up2 I 420 0 0) 427 g) 426 f) 426 (l + j) v = upr (upr (up2 I 420 0 0) 427 g) 426 (f2 v) := ⟨fun v k => if k = l + j then v else f k, fun v _ => by
        funext q k
        by_cases hq : q = 426
        · subst hq
          rw [upr_at]
          by_cases hk : k = l + j
          · subst hk
            rw [up2_at]
            simp
          · rw [up2_ne (Or.inr hk), upr_at]
            simp [hk]
        · rw [upr_row hq, up2_row hq, upr_row hq]⟩
      rw [ef _ trivial]
      refine a_i6 rfl rfl rfl ?_
      refine a_goto rfl ?_
      exact a_less (ih (m - 1) _ _ (by omega) ⟨j + 1, _, by omega, rfl, rfl⟩) ⟨rfl, rfl, rfl, rfl, rfl, rfl, nS _, trivial⟩
  · have hc : ¬ l + 20 ≤ 400 := fun z => c (nI_leu z (by decide))
    simp only [if_neg hc]
    refine a_s rfl rfl ?_
    exact a_iret rfl rfl ⟨rfl, I 426, I 427, rfl⟩
theorem r_X12_uses : SpE S m_X12_uses 12 [.ref 420] (hp I L w1 w2 t) none (hp (up2 (up2 (up2 (up2 I 420 0 0) 420 11 (I 420 9)) 420 9 0) 420 10 0) L w1 w2 t) := by
  refine SpE_of ok_X12_uses rfl rfl ?_
  show AW S m_X12_uses 12 _ _ 0 0 0 [some (.ref 420)] [] (hp I L w1 w2 t)
  refine a_l0 rfl rfl rfl ?_
  refine a_s rfl rfl ?_
  refine a_puti rfl pfX12_3_12 rfl ?_
  refine a_l0 rfl rfl rfl ?_
  refine a_l0 rfl rfl rfl ?_
  refine a_geti rfl gfX12_78_12 rfl ?_
  refine a_top (y := I 420 9) (up2_ne (Or.inr (by decide))) ?_
  refine a_puti rfl pfX12_84_12 rfl ?_
  refine a_l0 rfl rfl rfl ?_
  refine a_s rfl rfl ?_
  refine a_puti rfl pfX12_78_12 rfl ?_
  refine a_l0 rfl rfl rfl ?_
  refine a_s rfl rfl ?_
  refine a_puti rfl pfX12_81_12 rfl ?_
  exact a_vret rfl rfl ⟨rfl, rfl⟩
end R63
end
section
/-! ===== the reference: acts, safe (printed by program) ===== -/
set_option maxRecDepth 100000
theorem r_X12_call {S : aS} {I : Nat → Nat → Int32} {L : Nat → Nat → Int64} {w1 w2 t : Nat} {x1 : Int32} {nd np : Nat} (hr : RI nd np I) : Sp S m_X12_call 18 0 0 [.ref 420, .int x1] (hp I L w1 w2 t) (QR (Mr nd np I) isI L w1 w2 t) nX := by
  have hs := RI.so hr
  have hw := RI.lw hr
  have lg := RI.lg hr
  refine Sp_of ok_X12_call rfl rfl ?_
  show AW S m_X12_call 18 _ _ 0 0 0 [some (.ref 420), some (.int x1), none] [] (hp I L w1 w2 t)
  refine a_l0 rfl rfl rfl ?_
  refine a_s rfl rfl ?_
  refine a_puti rfl pfX12_3_12 rfl ?_
  refine a_ren (P := Mr nd np I) (Mr.fm ((Mr.rf hr)) (Fm.up (Fm.rf (s := sU)) rfl)) (fun I1 f2 => ?_)
  have s2 := RI.so f2.2; have l2 := RI.lw f2.2; have g2 := RI.lg f2.2
  refine a_l0 rfl rfl rfl ?_
  refine a_l0 rfl rfl rfl ?_
  refine a_l1 rfl rfl rfl ?_
  refine a_eV1 rfl lX12_289 mo_X12_noDuty (r_X12_noDuty s2) rfl rfl rfl ⟨12, _, rfl, rfl, rfl⟩ rfl ?_
  refine a_s rfl rfl ?_
  refine a_gV rfl lX12_243 mo_X12_throwsIf (r_X12_throwsIf) rfl rfl rfl ⟨12, _, rfl, rfl, rfl⟩ rfl (fun v' h' hv => ?_)
  obtain ⟨rfl, I3, rfl, f4⟩ := hv
  replace f4 : Mr nd np I I3 := Mr.fm (f2) (f4)
  have s4 := RI.so f4.2; have l4 := RI.lw f4.2; have g4 := RI.lg f4.2
  refine a_if_ne rfl (fun c15 => ?_) (fun c15 => ?_)
  · refine a_s rfl rfl ?_
    exact a_iret rfl rfl ⟨⟨_, rfl⟩, _, rfl, f4⟩
  · obtain ⟨i5, hi5, rfl⟩ := isIx (n := nd) (by have := hs.n; have := hs.p; omega) c15
    refine a_l0 rfl rfl rfl ?_
    refine a_l0 rfl rfl rfl ?_
    refine a_l1 rfl rfl rfl ?_
    refine a_eV1 rfl lX12_280 mo_X12_canBeCalled (sp_X12_canBeCalled s4.n s4.du s4.l hi5) rfl rfl rfl ⟨12, _, rfl, rfl, rfl⟩ rfl ?_
    refine a_if_ne rfl (fun c24 => ?_) (fun c24 => ?_)
    · refine a_s rfl rfl ?_
      refine a_s rfl rfl ?_
      refine a_gV rfl lX12_243 mo_X12_throwsIf (r_X12_throwsIf (b := false)) rfl rfl rfl ⟨12, _, rfl, rfl, rfl⟩ rfl (fun v' h' hv => ?_)
      obtain ⟨rfl, I6, rfl, f7⟩ := hv
      replace f7 : Mr nd np I I6 := Mr.fm (f4) (f7)
      have s7 := RI.so f7.2; have l7 := RI.lw f7.2; have g7 := RI.lg f7.2
      refine a_if_eq rfl (fun _ => ?_) (fun c => absurd (by decide) c)
      refine a_l0 rfl rfl rfl ?_
      refine a_gV rfl lX12_357 mo_X12_remembers (r_X12_remembers f7.2) rfl rfl rfl ⟨12, _, rfl, rfl, rfl⟩ rfl (fun v' h' hv => ?_)
      obtain ⟨rfl, I8, rfl, f9, -⟩ := hv
      replace f9 := Mr.tr (f7) f9
      have s9 := RI.so f9.2; have l9 := RI.lw f9.2; have g9 := RI.lg f9.2
      refine a_l0 rfl rfl rfl ?_
      refine a_l1 rfl rfl rfl ?_
      refine a_eV1 rfl lX12_276 mo_X12_passesBy (sp_X12_passesBy s9.n s9.du hi5) rfl rfl rfl ⟨12, _, rfl, rfl, rfl⟩ rfl ?_
      refine a_s2 rfl rfl rfl rfl rfl rfl ?_
      refine a_l0 rfl rfl rfl ?_
      refine a_l1 rfl rfl rfl ?_
      refine a_gV rfl lX12_360 mo_X12_finishes (r_X12_finishes s9 l9 g9 hi5) rfl rfl rfl ⟨12, _, rfl, rfl, rfl⟩ rfl (fun v' h' hv => ?_)
      obtain ⟨rfl, I11, rfl, f12⟩ := hv
      replace f12 := Mr.dd (f9) f12
      have s12 := RI.so f12.2; have l12 := RI.lw f12.2; have g12 := RI.lg f12.2
      refine a_l2 rfl rfl rfl ?_
      exact a_iret rfl rfl ⟨⟨_, rfl⟩, _, rfl, f12⟩
    · refine a_s rfl rfl ?_
      refine a_goto rfl ?_
      refine a_s rfl rfl ?_
      refine a_gV rfl lX12_243 mo_X12_throwsIf (r_X12_throwsIf (b := true)) rfl rfl rfl ⟨12, _, rfl, rfl, rfl⟩ rfl (fun v' h' hv => ?_)
      obtain ⟨rfl, I13, rfl, f14⟩ := hv
      replace f14 : Mr nd np I I13 := Mr.fm (f4) (f14)
      have s14 := RI.so f14.2; have l14 := RI.lw f14.2; have g14 := RI.lg f14.2
      refine a_if_eq rfl (fun c => absurd c (by decide)) (fun _ => ?_)
      refine a_s rfl rfl ?_
      exact a_iret rfl rfl ⟨⟨_, rfl⟩, _, rfl, f14⟩
theorem r_X12_put {S : aS} {I : Nat → Nat → Int32} {L : Nat → Nat → Int64} {w1 w2 t : Nat} {x1 : Int32} {nd np : Nat} (hr : RI nd np I) : Sp S m_X12_put 15 0 0 [.ref 420, .int x1] (hp I L w1 w2 t) (QR (Mr nd np I) isI L w1 w2 t) nX := by
  have hs := RI.so hr
  have hw := RI.lw hr
  have lg := RI.lg hr
  refine Sp_of ok_X12_put rfl rfl ?_
  show AW S m_X12_put 15 _ _ 0 0 0 [some (.ref 420), some (.int x1)] [] (hp I L w1 w2 t)
  refine a_l0 rfl rfl rfl ?_
  refine a_s rfl rfl ?_
  refine a_puti rfl pfX12_3_12 rfl ?_
  refine a_ren (P := Mr nd np I) (Mr.fm ((Mr.rf hr)) (Fm.up (Fm.rf (s := sU)) rfl)) (fun I1 f2 => ?_)
  have s2 := RI.so f2.2; have l2 := RI.lw f2.2; have g2 := RI.lg f2.2
  refine a_l0 rfl rfl rfl ?_
  refine a_l0 rfl rfl rfl ?_
  refine a_l1 rfl rfl rfl ?_
  refine a_eV1 rfl lX12_289 mo_X12_noDuty (r_X12_noDuty s2) rfl rfl rfl ⟨12, _, rfl, rfl, rfl⟩ rfl ?_
  refine a_s rfl rfl ?_
  refine a_gV rfl lX12_243 mo_X12_throwsIf (r_X12_throwsIf) rfl rfl rfl ⟨12, _, rfl, rfl, rfl⟩ rfl (fun v' h' hv => ?_)
  obtain ⟨rfl, I3, rfl, f4⟩ := hv
  replace f4 : Mr nd np I I3 := Mr.fm (f2) (f4)
  have s4 := RI.so f4.2; have l4 := RI.lw f4.2; have g4 := RI.lg f4.2
  refine a_if_ne rfl (fun c15 => ?_) (fun c15 => ?_)
  · refine a_s rfl rfl ?_
    exact a_iret rfl rfl ⟨⟨_, rfl⟩, _, rfl, f4⟩
  · obtain ⟨i5, hi5, rfl⟩ := isIx (n := nd) (by have := hs.n; have := hs.p; omega) c15
    refine a_l0 rfl rfl rfl ?_
    refine a_l0 rfl rfl rfl ?_
    refine a_l1 rfl rfl rfl ?_
    refine a_eV1 rfl lX12_135 mo_X12_isWaiting (sp_X12_isWaiting (d := i5) (Nat.lt_of_lt_of_le hi5 s4.n)) rfl rfl rfl ⟨12, _, rfl, rfl, rfl⟩ rfl ?_
    refine a_if_ne rfl (fun c24 => ?_) (fun c24 => ?_)
    · refine a_s rfl rfl ?_
      refine a_s rfl rfl ?_
      refine a_gV rfl lX12_243 mo_X12_throwsIf (r_X12_throwsIf (b := false)) rfl rfl rfl ⟨12, _, rfl, rfl, rfl⟩ rfl (fun v' h' hv => ?_)
      obtain ⟨rfl, I6, rfl, f7⟩ := hv
      replace f7 : Mr nd np I I6 := Mr.fm (f4) (f7)
      have s7 := RI.so f7.2; have l7 := RI.lw f7.2; have g7 := RI.lg f7.2
      refine a_if_eq rfl (fun _ => ?_) (fun c => absurd (by decide) c)
      refine a_l0 rfl rfl rfl ?_
      refine a_gV rfl lX12_357 mo_X12_remembers (r_X12_remembers f7.2) rfl rfl rfl ⟨12, _, rfl, rfl, rfl⟩ rfl (fun v' h' hv => ?_)
      obtain ⟨rfl, I8, rfl, f9, -⟩ := hv
      replace f9 := Mr.tr (f7) f9
      have s9 := RI.so f9.2; have l9 := RI.lw f9.2; have g9 := RI.lg f9.2
      refine a_l0 rfl rfl rfl ?_
      refine a_getq rfl gfX12_13_12 rfl (rfl) ?_
      refine a_l1 rfl rfl rfl ?_
      refine a_s rfl rfl ?_
      refine a_eS1 rfl lX12_60 mo_X12_at (sp_X12_at (d := i5) (k := 2)) rfl rfl rfl rfl ?_
      refine a_s rfl rfl ?_
      refine a_l0 rfl rfl rfl ?_
      refine a_l1 rfl rfl rfl ?_
      refine a_s rfl rfl ?_
      refine a_eV1 rfl lX12_63 mo_X12_of (sp_X12_of (d := i5) (k := 2) (Nat.lt_of_lt_of_le hi5 s9.n) (by decide)) rfl rfl rfl ⟨12, _, rfl, rfl, rfl⟩ rfl ?_
      refine a_s rfl rfl ?_
      refine a_s rfl rfl ?_
      refine a_min rfl lX12_295 mj_min rfl rfl ?_
      refine a_iastv (k := (23 + 6 * i5 + 2)) rfl (n := 2033) rfl (inI_nI (by have := hs.n; have := hs.p; omega) (by have := hs.n; have := hs.p; omega)) (nI_clamp (by have := hs.n; have := hs.p; omega)) ?_
      refine a_ren (P := Mr nd np I) (Mr.dd (f9) (Dd.up Dd.rf (dayC_at2 _ (Nat.lt_of_lt_of_le hi5 hs.n)) (by omega))) (fun I10 f11 => ?_)
      have s11 := RI.so f11.2; have l11 := RI.lw f11.2; have g11 := RI.lg f11.2
      refine a_l0 rfl rfl rfl ?_
      refine a_l1 rfl rfl rfl ?_
      refine a_s rfl rfl ?_
      refine a_eV1 rfl lX12_63 mo_X12_of (sp_X12_of (d := i5) (k := 2) (Nat.lt_of_lt_of_le hi5 s11.n) (by decide)) rfl rfl rfl ⟨12, _, rfl, rfl, rfl⟩ rfl ?_
      exact a_iret rfl rfl ⟨⟨_, rfl⟩, _, rfl, f11⟩
    · refine a_s rfl rfl ?_
      refine a_goto rfl ?_
      refine a_s rfl rfl ?_
      refine a_gV rfl lX12_243 mo_X12_throwsIf (r_X12_throwsIf (b := true)) rfl rfl rfl ⟨12, _, rfl, rfl, rfl⟩ rfl (fun v' h' hv => ?_)
      obtain ⟨rfl, I12, rfl, f13⟩ := hv
      replace f13 : Mr nd np I I12 := Mr.fm (f4) (f13)
      have s13 := RI.so f13.2; have l13 := RI.lw f13.2; have g13 := RI.lg f13.2
      refine a_if_eq rfl (fun c => absurd c (by decide)) (fun _ => ?_)
      refine a_s rfl rfl ?_
      exact a_iret rfl rfl ⟨⟨_, rfl⟩, _, rfl, f13⟩
theorem r_X12_forget {S : aS} {I : Nat → Nat → Int32} {L : Nat → Nat → Int64} {w1 w2 t : Nat} {x1 : Int32} {nd np : Nat} (hr : RI nd np I) : Sp S m_X12_forget 15 0 0 [.ref 420, .int x1] (hp I L w1 w2 t) (QR (Mr nd np I) isI L w1 w2 t) nX := by
  have hs := RI.so hr
  have hw := RI.lw hr
  have lg := RI.lg hr
  refine Sp_of ok_X12_forget rfl rfl ?_
  show AW S m_X12_forget 15 _ _ 0 0 0 [some (.ref 420), some (.int x1)] [] (hp I L w1 w2 t)
  refine a_l0 rfl rfl rfl ?_
  refine a_s rfl rfl ?_
  refine a_puti rfl pfX12_3_12 rfl ?_
  refine a_ren (P := Mr nd np I) (Mr.fm ((Mr.rf hr)) (Fm.up (Fm.rf (s := sU)) rfl)) (fun I1 f2 => ?_)
  have s2 := RI.so f2.2; have l2 := RI.lw f2.2; have g2 := RI.lg f2.2
  refine a_l0 rfl rfl rfl ?_
  refine a_l0 rfl rfl rfl ?_
  refine a_l1 rfl rfl rfl ?_
  refine a_eV1 rfl lX12_289 mo_X12_noDuty (r_X12_noDuty s2) rfl rfl rfl ⟨12, _, rfl, rfl, rfl⟩ rfl ?_
  refine a_s rfl rfl ?_
  refine a_gV rfl lX12_243 mo_X12_throwsIf (r_X12_throwsIf) rfl rfl rfl ⟨12, _, rfl, rfl, rfl⟩ rfl (fun v' h' hv => ?_)
  obtain ⟨rfl, I3, rfl, f4⟩ := hv
  replace f4 : Mr nd np I I3 := Mr.fm (f2) (f4)
  have s4 := RI.so f4.2; have l4 := RI.lw f4.2; have g4 := RI.lg f4.2
  refine a_if_ne rfl (fun c15 => ?_) (fun c15 => ?_)
  · refine a_s rfl rfl ?_
    exact a_iret rfl rfl ⟨⟨_, rfl⟩, _, rfl, f4⟩
  · obtain ⟨i5, hi5, rfl⟩ := isIx (n := nd) (by have := hs.n; have := hs.p; omega) c15
    refine a_l0 rfl rfl rfl ?_
    refine a_l0 rfl rfl rfl ?_
    refine a_l1 rfl rfl rfl ?_
    refine a_eV1 rfl lX12_135 mo_X12_isWaiting (sp_X12_isWaiting (d := i5) (Nat.lt_of_lt_of_le hi5 s4.n)) rfl rfl rfl ⟨12, _, rfl, rfl, rfl⟩ rfl ?_
    refine a_if_ne rfl (fun c24 => ?_) (fun c24 => ?_)
    · refine a_s rfl rfl ?_
      refine a_s rfl rfl ?_
      refine a_gV rfl lX12_243 mo_X12_throwsIf (r_X12_throwsIf (b := false)) rfl rfl rfl ⟨12, _, rfl, rfl, rfl⟩ rfl (fun v' h' hv => ?_)
      obtain ⟨rfl, I6, rfl, f7⟩ := hv
      replace f7 : Mr nd np I I6 := Mr.fm (f4) (f7)
      have s7 := RI.so f7.2; have l7 := RI.lw f7.2; have g7 := RI.lg f7.2
      refine a_if_eq rfl (fun _ => ?_) (fun c => absurd (by decide) c)
      refine a_l0 rfl rfl rfl ?_
      refine a_gV rfl lX12_357 mo_X12_remembers (r_X12_remembers f7.2) rfl rfl rfl ⟨12, _, rfl, rfl, rfl⟩ rfl (fun v' h' hv => ?_)
      obtain ⟨rfl, I8, rfl, f9, -⟩ := hv
      replace f9 := Mr.tr (f7) f9
      have s9 := RI.so f9.2; have l9 := RI.lw f9.2; have g9 := RI.lg f9.2
      refine a_l0 rfl rfl rfl ?_
      refine a_l1 rfl rfl rfl ?_
      refine a_s rfl rfl ?_
      refine a_gV rfl lX12_354 mo_X12_isNow (r_X12_isNow s9 l9 g9 hi5) rfl rfl rfl ⟨12, _, rfl, rfl, rfl⟩ rfl (fun v' h' hv => ?_)
      obtain ⟨rfl, I11, rfl, f12⟩ := hv
      replace f12 := Mr.dd (f9) f12
      have s12 := RI.so f12.2; have l12 := RI.lw f12.2; have g12 := RI.lg f12.2
      refine a_l0 rfl rfl rfl ?_
      refine a_l1 rfl rfl rfl ?_
      refine a_s rfl rfl ?_
      refine a_eV1 rfl lX12_63 mo_X12_of (sp_X12_of (d := i5) (k := 1) (Nat.lt_of_lt_of_le hi5 s12.n) (by decide)) rfl rfl rfl ⟨12, _, rfl, rfl, rfl⟩ rfl ?_
      exact a_iret rfl rfl ⟨⟨_, rfl⟩, _, rfl, f12⟩
    · refine a_s rfl rfl ?_
      refine a_goto rfl ?_
      refine a_s rfl rfl ?_
      refine a_gV rfl lX12_243 mo_X12_throwsIf (r_X12_throwsIf (b := true)) rfl rfl rfl ⟨12, _, rfl, rfl, rfl⟩ rfl (fun v' h' hv => ?_)
      obtain ⟨rfl, I13, rfl, f14⟩ := hv
      replace f14 : Mr nd np I I13 := Mr.fm (f4) (f14)
      have s14 := RI.so f14.2; have l14 := RI.lw f14.2; have g14 := RI.lg f14.2
      refine a_if_eq rfl (fun c => absurd c (by decide)) (fun _ => ?_)
      refine a_s rfl rfl ?_
      exact a_iret rfl rfl ⟨⟨_, rfl⟩, _, rfl, f14⟩
theorem r_X12_recall {S : aS} {I : Nat → Nat → Int32} {L : Nat → Nat → Int64} {w1 w2 t : Nat} {x1 : Int32} {nd np : Nat} (hr : RI nd np I) : Sp S m_X12_recall 15 0 0 [.ref 420, .int x1] (hp I L w1 w2 t) (QR (Mr nd np I) isI L w1 w2 t) nX := by
  have hs := RI.so hr
  have hw := RI.lw hr
  have lg := RI.lg hr
  refine Sp_of ok_X12_recall rfl rfl ?_
  show AW S m_X12_recall 15 _ _ 0 0 0 [some (.ref 420), some (.int x1)] [] (hp I L w1 w2 t)
  refine a_l0 rfl rfl rfl ?_
  refine a_s rfl rfl ?_
  refine a_puti rfl pfX12_3_12 rfl ?_
  refine a_ren (P := Mr nd np I) (Mr.fm ((Mr.rf hr)) (Fm.up (Fm.rf (s := sU)) rfl)) (fun I1 f2 => ?_)
  have s2 := RI.so f2.2; have l2 := RI.lw f2.2; have g2 := RI.lg f2.2
  refine a_l0 rfl rfl rfl ?_
  refine a_l0 rfl rfl rfl ?_
  refine a_l1 rfl rfl rfl ?_
  refine a_eV1 rfl lX12_289 mo_X12_noDuty (r_X12_noDuty s2) rfl rfl rfl ⟨12, _, rfl, rfl, rfl⟩ rfl ?_
  refine a_s rfl rfl ?_
  refine a_gV rfl lX12_243 mo_X12_throwsIf (r_X12_throwsIf) rfl rfl rfl ⟨12, _, rfl, rfl, rfl⟩ rfl (fun v' h' hv => ?_)
  obtain ⟨rfl, I3, rfl, f4⟩ := hv
  replace f4 : Mr nd np I I3 := Mr.fm (f2) (f4)
  have s4 := RI.so f4.2; have l4 := RI.lw f4.2; have g4 := RI.lg f4.2
  refine a_if_ne rfl (fun c15 => ?_) (fun c15 => ?_)
  · refine a_s rfl rfl ?_
    exact a_iret rfl rfl ⟨⟨_, rfl⟩, _, rfl, f4⟩
  · obtain ⟨i5, hi5, rfl⟩ := isIx (n := nd) (by have := hs.n; have := hs.p; omega) c15
    refine a_l0 rfl rfl rfl ?_
    refine a_l0 rfl rfl rfl ?_
    refine a_l1 rfl rfl rfl ?_
    refine a_eV1 rfl lX12_364 mo_X12_isForgotten (sp_X12_isForgotten (d := i5) (Nat.lt_of_lt_of_le hi5 s4.n)) rfl rfl rfl ⟨12, _, rfl, rfl, rfl⟩ rfl ?_
    refine a_if_ne rfl (fun c24 => ?_) (fun c24 => ?_)
    · refine a_s rfl rfl ?_
      refine a_s rfl rfl ?_
      refine a_gV rfl lX12_243 mo_X12_throwsIf (r_X12_throwsIf (b := false)) rfl rfl rfl ⟨12, _, rfl, rfl, rfl⟩ rfl (fun v' h' hv => ?_)
      obtain ⟨rfl, I6, rfl, f7⟩ := hv
      replace f7 : Mr nd np I I6 := Mr.fm (f4) (f7)
      have s7 := RI.so f7.2; have l7 := RI.lw f7.2; have g7 := RI.lg f7.2
      refine a_if_eq rfl (fun _ => ?_) (fun c => absurd (by decide) c)
      refine a_l0 rfl rfl rfl ?_
      refine a_gV rfl lX12_357 mo_X12_remembers (r_X12_remembers f7.2) rfl rfl rfl ⟨12, _, rfl, rfl, rfl⟩ rfl (fun v' h' hv => ?_)
      obtain ⟨rfl, I8, rfl, f9, -⟩ := hv
      replace f9 := Mr.tr (f7) f9
      have s9 := RI.so f9.2; have l9 := RI.lw f9.2; have g9 := RI.lg f9.2
      refine a_l0 rfl rfl rfl ?_
      refine a_l1 rfl rfl rfl ?_
      refine a_s rfl rfl ?_
      refine a_gV rfl lX12_354 mo_X12_isNow (r_X12_isNow s9 l9 g9 hi5) rfl rfl rfl ⟨12, _, rfl, rfl, rfl⟩ rfl (fun v' h' hv => ?_)
      obtain ⟨rfl, I11, rfl, f12⟩ := hv
      replace f12 := Mr.dd (f9) f12
      have s12 := RI.so f12.2; have l12 := RI.lw f12.2; have g12 := RI.lg f12.2
      refine a_l0 rfl rfl rfl ?_
      refine a_l1 rfl rfl rfl ?_
      refine a_s rfl rfl ?_
      refine a_eV1 rfl lX12_63 mo_X12_of (sp_X12_of (d := i5) (k := 2) (Nat.lt_of_lt_of_le hi5 s12.n) (by decide)) rfl rfl rfl ⟨12, _, rfl, rfl, rfl⟩ rfl ?_
      exact a_iret rfl rfl ⟨⟨_, rfl⟩, _, rfl, f12⟩
    · refine a_s rfl rfl ?_
      refine a_goto rfl ?_
      refine a_s rfl rfl ?_
      refine a_gV rfl lX12_243 mo_X12_throwsIf (r_X12_throwsIf (b := true)) rfl rfl rfl ⟨12, _, rfl, rfl, rfl⟩ rfl (fun v' h' hv => ?_)
      obtain ⟨rfl, I13, rfl, f14⟩ := hv
      replace f14 : Mr nd np I I13 := Mr.fm (f4) (f14)
      have s14 := RI.so f14.2; have l14 := RI.lw f14.2; have g14 := RI.lg f14.2
      refine a_if_eq rfl (fun c => absurd c (by decide)) (fun _ => ?_)
      refine a_s rfl rfl ?_
      exact a_iret rfl rfl ⟨⟨_, rfl⟩, _, rfl, f14⟩
theorem r_X12_hand {S : aS} {I : Nat → Nat → Int32} {L : Nat → Nat → Int64} {w1 w2 t : Nat} {x1 x2 : Int32} {nd np : Nat} (hr : RI nd np I) : Sp S m_X12_hand 15 0 0 [.ref 420, .int x1, .int x2] (hp I L w1 w2 t) (QR (Mr nd np I) isI L w1 w2 t) nX := by
  have hs := RI.so hr
  have hw := RI.lw hr
  have lg := RI.lg hr
  refine Sp_of ok_X12_hand rfl rfl ?_
  show AW S m_X12_hand 15 _ _ 0 0 0 [some (.ref 420), some (.int x1), some (.int x2), none] [] (hp I L w1 w2 t)
  refine a_l0 rfl rfl rfl ?_
  refine a_s rfl rfl ?_
  refine a_puti rfl pfX12_3_12 rfl ?_
  refine a_ren (P := Mr nd np I) (Mr.fm ((Mr.rf hr)) (Fm.up (Fm.rf (s := sU)) rfl)) (fun I1 f2 => ?_)
  have s2 := RI.so f2.2; have l2 := RI.lw f2.2; have g2 := RI.lg f2.2
  refine a_l0 rfl rfl rfl ?_
  refine a_l0 rfl rfl rfl ?_
  refine a_l1 rfl rfl rfl ?_
  refine a_eV1 rfl lX12_289 mo_X12_noDuty (r_X12_noDuty s2) rfl rfl rfl ⟨12, _, rfl, rfl, rfl⟩ rfl ?_
  refine a_if_ne rfl (fun c11 => ?_) (fun c11 => ?_)
  · refine a_s rfl rfl ?_
    refine a_goto rfl ?_
    refine a_s rfl rfl ?_
    refine a_gV rfl lX12_243 mo_X12_throwsIf (r_X12_throwsIf (b := true)) rfl rfl rfl ⟨12, _, rfl, rfl, rfl⟩ rfl (fun v' h' hv => ?_)
    obtain ⟨rfl, I3, rfl, f4⟩ := hv
    replace f4 : Mr nd np I I3 := Mr.fm (f2) (f4)
    have s4 := RI.so f4.2; have l4 := RI.lw f4.2; have g4 := RI.lg f4.2
    refine a_if_ne rfl (fun _ => ?_) (fun c => absurd c (by decide))
    refine a_s rfl rfl ?_
    exact a_iret rfl rfl ⟨⟨_, rfl⟩, _, rfl, f4⟩
  · obtain ⟨i5, hi5, rfl⟩ := isIx (n := nd) (by have := hs.n; have := hs.p; omega) c11
    refine a_l0 rfl rfl rfl ?_
    refine a_l2 rfl rfl rfl ?_
    refine a_eV1 rfl lX12_342 mo_X12_noPerson (r_X12_noPerson s2) rfl rfl rfl ⟨12, _, rfl, rfl, rfl⟩ rfl ?_
    refine a_if_eq rfl (fun c19 => ?_) (fun c19 => ?_)
    · obtain ⟨i6, hi6, rfl⟩ := isIx (n := np) (by have := hs.n; have := hs.p; omega) c19
      refine a_s rfl rfl ?_
      refine a_s rfl rfl ?_
      refine a_gV rfl lX12_243 mo_X12_throwsIf (r_X12_throwsIf (b := false)) rfl rfl rfl ⟨12, _, rfl, rfl, rfl⟩ rfl (fun v' h' hv => ?_)
      obtain ⟨rfl, I7, rfl, f8⟩ := hv
      replace f8 : Mr nd np I I7 := Mr.fm (f2) (f8)
      have s8 := RI.so f8.2; have l8 := RI.lw f8.2; have g8 := RI.lg f8.2
      refine a_if_ne rfl (fun c => absurd (by decide) c) (fun _ => ?_)
      refine a_l0 rfl rfl rfl ?_
      refine a_l0 rfl rfl rfl ?_
      refine a_l1 rfl rfl rfl ?_
      refine a_s rfl rfl ?_
      refine a_eV1 rfl lX12_63 mo_X12_of (sp_X12_of (d := i5) (k := 0) (Nat.lt_of_lt_of_le hi5 s8.n) (by decide)) rfl rfl rfl ⟨12, _, rfl, rfl, rfl⟩ rfl ?_
      refine a_l2 rfl rfl rfl ?_
      refine a_ic_ne rfl (fun c42 => ?_) (fun c42 => ?_)
      · refine a_s rfl rfl ?_
        refine a_s rfl rfl ?_
        refine a_gV rfl lX12_243 mo_X12_throwsIf (r_X12_throwsIf (b := false)) rfl rfl rfl ⟨12, _, rfl, rfl, rfl⟩ rfl (fun v' h' hv => ?_)
        obtain ⟨rfl, I9, rfl, f10⟩ := hv
        replace f10 : Mr nd np I I9 := Mr.fm (f8) (f10)
        have s10 := RI.so f10.2; have l10 := RI.lw f10.2; have g10 := RI.lg f10.2
        refine a_if_ne rfl (fun c => absurd (by decide) c) (fun _ => ?_)
        refine a_l0 rfl rfl rfl ?_
        refine a_l0 rfl rfl rfl ?_
        refine a_l1 rfl rfl rfl ?_
        refine a_eV1 rfl lX12_246 mo_X12_isDone (sp_X12_isDone (d := i5) (Nat.lt_of_lt_of_le hi5 s10.n)) rfl rfl rfl ⟨12, _, rfl, rfl, rfl⟩ rfl ?_
        refine a_s rfl rfl ?_
        refine a_gV rfl lX12_243 mo_X12_throwsIf (r_X12_throwsIf) rfl rfl rfl ⟨12, _, rfl, rfl, rfl⟩ rfl (fun v' h' hv => ?_)
        obtain ⟨rfl, I11, rfl, f12⟩ := hv
        replace f12 : Mr nd np I I11 := Mr.fm (f10) (f12)
        have s12 := RI.so f12.2; have l12 := RI.lw f12.2; have g12 := RI.lg f12.2
        refine a_if_eq rfl (fun c67 => ?_) (fun c67 => ?_)
        · refine a_l0 rfl rfl rfl ?_
          refine a_gV rfl lX12_357 mo_X12_remembers (r_X12_remembers f12.2) rfl rfl rfl ⟨12, _, rfl, rfl, rfl⟩ rfl (fun v' h' hv => ?_)
          obtain ⟨rfl, I13, rfl, f14, -⟩ := hv
          replace f14 := Mr.tr (f12) f14
          have s14 := RI.so f14.2; have l14 := RI.lw f14.2; have g14 := RI.lg f14.2
          refine a_l0 rfl rfl rfl ?_
          refine a_l1 rfl rfl rfl ?_
          refine a_s rfl rfl ?_
          refine a_eV1 rfl lX12_63 mo_X12_of (sp_X12_of (d := i5) (k := 0) (Nat.lt_of_lt_of_le hi5 s14.n) (by decide)) rfl rfl rfl ⟨12, _, rfl, rfl, rfl⟩ rfl ?_
          refine a_s3 rfl rfl rfl rfl rfl rfl ?_
          refine a_l0 rfl rfl rfl ?_
          refine a_getq rfl gfX12_13_12 rfl (rfl) ?_
          refine a_l1 rfl rfl rfl ?_
          refine a_s rfl rfl ?_
          refine a_eS1 rfl lX12_60 mo_X12_at (sp_X12_at (d := i5) (k := 0)) rfl rfl rfl rfl ?_
          refine a_l2 rfl rfl rfl ?_
          refine a_iastv (k := (23 + 6 * i5 + 0)) rfl (n := 2033) rfl (inI_nI (by have := hs.n; have := hs.p; omega) (by have := hs.n; have := hs.p; omega)) (nI_clamp (by have := hs.n; have := hs.p; omega)) ?_
          refine a_ren (P := Mr nd np I) (Mr.own (f14) hi5 hi6) (fun I15 f16 => ?_)
          have s16 := RI.so f16.2; have l16 := RI.lw f16.2; have g16 := RI.lg f16.2
          refine a_l3 rfl rfl rfl ?_
          exact a_iret rfl rfl ⟨⟨_, rfl⟩, _, rfl, f16⟩
        · refine a_s rfl rfl ?_
          exact a_iret rfl rfl ⟨⟨_, rfl⟩, _, rfl, f12⟩
      · refine a_s rfl rfl ?_
        refine a_goto rfl ?_
        refine a_s rfl rfl ?_
        refine a_gV rfl lX12_243 mo_X12_throwsIf (r_X12_throwsIf (b := true)) rfl rfl rfl ⟨12, _, rfl, rfl, rfl⟩ rfl (fun v' h' hv => ?_)
        obtain ⟨rfl, I17, rfl, f18⟩ := hv
        replace f18 : Mr nd np I I17 := Mr.fm (f8) (f18)
        have s18 := RI.so f18.2; have l18 := RI.lw f18.2; have g18 := RI.lg f18.2
        refine a_if_ne rfl (fun _ => ?_) (fun c => absurd c (by decide))
        refine a_s rfl rfl ?_
        exact a_iret rfl rfl ⟨⟨_, rfl⟩, _, rfl, f18⟩
    · refine a_s rfl rfl ?_
      refine a_goto rfl ?_
      refine a_s rfl rfl ?_
      refine a_gV rfl lX12_243 mo_X12_throwsIf (r_X12_throwsIf (b := true)) rfl rfl rfl ⟨12, _, rfl, rfl, rfl⟩ rfl (fun v' h' hv => ?_)
      obtain ⟨rfl, I19, rfl, f20⟩ := hv
      replace f20 : Mr nd np I I19 := Mr.fm (f2) (f20)
      have s20 := RI.so f20.2; have l20 := RI.lw f20.2; have g20 := RI.lg f20.2
      refine a_if_ne rfl (fun _ => ?_) (fun c => absurd c (by decide))
      refine a_s rfl rfl ?_
      exact a_iret rfl rfl ⟨⟨_, rfl⟩, _, rfl, f20⟩
theorem r_X12_lean {S : aS} {I : Nat → Nat → Int32} {L : Nat → Nat → Int64} {w1 w2 t : Nat} {x1 x2 : Int32} {nd np : Nat} (hr : RI nd np I) : Sp S m_X12_lean 15 0 0 [.ref 420, .int x1, .int x2] (hp I L w1 w2 t) (QR (Mr nd np I) isI L w1 w2 t) nX := by
  have hs := RI.so hr
  have hw := RI.lw hr
  have lg := RI.lg hr
  refine Sp_of ok_X12_lean rfl rfl ?_
  show AW S m_X12_lean 15 _ _ 0 0 0 [some (.ref 420), some (.int x1), some (.int x2), none] [] (hp I L w1 w2 t)
  refine a_l0 rfl rfl rfl ?_
  refine a_s rfl rfl ?_
  refine a_puti rfl pfX12_3_12 rfl ?_
  refine a_ren (P := Mr nd np I) (Mr.fm ((Mr.rf hr)) (Fm.up (Fm.rf (s := sU)) rfl)) (fun I1 f2 => ?_)
  have s2 := RI.so f2.2; have l2 := RI.lw f2.2; have g2 := RI.lg f2.2
  refine a_l0 rfl rfl rfl ?_
  refine a_l0 rfl rfl rfl ?_
  refine a_l1 rfl rfl rfl ?_
  refine a_eV1 rfl lX12_289 mo_X12_noDuty (r_X12_noDuty s2) rfl rfl rfl ⟨12, _, rfl, rfl, rfl⟩ rfl ?_
  refine a_if_ne rfl (fun c11 => ?_) (fun c11 => ?_)
  · refine a_s rfl rfl ?_
    refine a_goto rfl ?_
    refine a_s rfl rfl ?_
    refine a_gV rfl lX12_243 mo_X12_throwsIf (r_X12_throwsIf (b := true)) rfl rfl rfl ⟨12, _, rfl, rfl, rfl⟩ rfl (fun v' h' hv => ?_)
    obtain ⟨rfl, I3, rfl, f4⟩ := hv
    replace f4 : Mr nd np I I3 := Mr.fm (f2) (f4)
    have s4 := RI.so f4.2; have l4 := RI.lw f4.2; have g4 := RI.lg f4.2
    refine a_if_ne rfl (fun _ => ?_) (fun c => absurd c (by decide))
    refine a_s rfl rfl ?_
    exact a_iret rfl rfl ⟨⟨_, rfl⟩, _, rfl, f4⟩
  · obtain ⟨i5, hi5, rfl⟩ := isIx (n := nd) (by have := hs.n; have := hs.p; omega) c11
    refine a_l2 rfl rfl rfl ?_
    refine a_s rfl rfl ?_
    refine a_ic_eq rfl (fun c16 => ?_) (fun c16 => ?_)
    · subst c16
      refine a_s rfl rfl ?_
      refine a_s rfl rfl ?_
      refine a_gV rfl lX12_243 mo_X12_throwsIf (r_X12_throwsIf (b := false)) rfl rfl rfl ⟨12, _, rfl, rfl, rfl⟩ rfl (fun v' h' hv => ?_)
      obtain ⟨rfl, I6, rfl, f7⟩ := hv
      replace f7 : Mr nd np I I6 := Mr.fm (f2) (f7)
      have s7 := RI.so f7.2; have l7 := RI.lw f7.2; have g7 := RI.lg f7.2
      refine a_if_ne rfl (fun c => absurd (by decide) c) (fun _ => ?_)
      refine a_l0 rfl rfl rfl ?_
      refine a_l1 rfl rfl rfl ?_
      refine a_l2 rfl rfl rfl ?_
      refine a_ic_ne rfl (fun c42 => ?_) (fun c42 => ?_)
      · refine a_s rfl rfl ?_
        refine a_s rfl rfl ?_
        refine a_gV rfl lX12_243 mo_X12_throwsIf (r_X12_throwsIf (b := false)) rfl rfl rfl ⟨12, _, rfl, rfl, rfl⟩ rfl (fun v' h' hv => ?_)
        obtain ⟨rfl, I8, rfl, f9⟩ := hv
        replace f9 : Mr nd np I I8 := Mr.fm (f7) (f9)
        have s9 := RI.so f9.2; have l9 := RI.lw f9.2; have g9 := RI.lg f9.2
        refine a_if_eq rfl (fun _ => ?_) (fun c => absurd (by decide) c)
        refine a_l0 rfl rfl rfl ?_
        refine a_gV rfl lX12_357 mo_X12_remembers (r_X12_remembers f9.2) rfl rfl rfl ⟨12, _, rfl, rfl, rfl⟩ rfl (fun v' h' hv => ?_)
        obtain ⟨rfl, I10, rfl, f11, -⟩ := hv
        replace f11 := Mr.tr (f9) f11
        have s11 := RI.so f11.2; have l11 := RI.lw f11.2; have g11 := RI.lg f11.2
        refine a_l0 rfl rfl rfl ?_
        refine a_l1 rfl rfl rfl ?_
        refine a_s rfl rfl ?_
        refine a_eV1 rfl lX12_63 mo_X12_of (sp_X12_of (d := i5) (k := 4) (Nat.lt_of_lt_of_le hi5 s11.n) (by decide)) rfl rfl rfl ⟨12, _, rfl, rfl, rfl⟩ rfl ?_
        refine a_s3 rfl rfl rfl rfl rfl rfl ?_
        refine a_l0 rfl rfl rfl ?_
        refine a_getq rfl gfX12_13_12 rfl (rfl) ?_
        refine a_l1 rfl rfl rfl ?_
        refine a_s rfl rfl ?_
        refine a_eS1 rfl lX12_60 mo_X12_at (sp_X12_at (d := i5) (k := 4)) rfl rfl rfl rfl ?_
        refine a_l2 rfl rfl rfl ?_
        refine a_iastv (k := (23 + 6 * i5 + 4)) rfl (n := 2033) rfl (inI_nI (by have := hs.n; have := hs.p; omega) (by have := hs.n; have := hs.p; omega)) (nI_clamp (by have := hs.n; have := hs.p; omega)) ?_
        refine a_ren (P := Mr nd np I) (Mr.le (f11) hi5 (Or.inl rfl)) (fun I12 f13 => ?_)
        have s13 := RI.so f13.2; have l13 := RI.lw f13.2; have g13 := RI.lg f13.2
        refine a_l3 rfl rfl rfl ?_
        exact a_iret rfl rfl ⟨⟨_, rfl⟩, _, rfl, f13⟩
      · refine a_s rfl rfl ?_
        refine a_goto rfl ?_
        refine a_s rfl rfl ?_
        refine a_gV rfl lX12_243 mo_X12_throwsIf (r_X12_throwsIf (b := true)) rfl rfl rfl ⟨12, _, rfl, rfl, rfl⟩ rfl (fun v' h' hv => ?_)
        obtain ⟨rfl, I14, rfl, f15⟩ := hv
        replace f15 : Mr nd np I I14 := Mr.fm (f7) (f15)
        have s15 := RI.so f15.2; have l15 := RI.lw f15.2; have g15 := RI.lg f15.2
        refine a_if_eq rfl (fun c => absurd c (by decide)) (fun _ => ?_)
        refine a_s rfl rfl ?_
        exact a_iret rfl rfl ⟨⟨_, rfl⟩, _, rfl, f15⟩
    · refine a_l0 rfl rfl rfl ?_
      refine a_l2 rfl rfl rfl ?_
      refine a_eV1 rfl lX12_289 mo_X12_noDuty (r_X12_noDuty s2) rfl rfl rfl ⟨12, _, rfl, rfl, rfl⟩ rfl ?_
      refine a_if_eq rfl (fun c24 => ?_) (fun c24 => ?_)
      · obtain ⟨i16, hi16, rfl⟩ := isIx (n := nd) (by have := hs.n; have := hs.p; omega) c24
        refine a_s rfl rfl ?_
        refine a_s rfl rfl ?_
        refine a_gV rfl lX12_243 mo_X12_throwsIf (r_X12_throwsIf (b := false)) rfl rfl rfl ⟨12, _, rfl, rfl, rfl⟩ rfl (fun v' h' hv => ?_)
        obtain ⟨rfl, I17, rfl, f18⟩ := hv
        replace f18 : Mr nd np I I17 := Mr.fm (f2) (f18)
        have s18 := RI.so f18.2; have l18 := RI.lw f18.2; have g18 := RI.lg f18.2
        refine a_if_ne rfl (fun c => absurd (by decide) c) (fun _ => ?_)
        refine a_l0 rfl rfl rfl ?_
        refine a_l1 rfl rfl rfl ?_
        refine a_l2 rfl rfl rfl ?_
        refine a_ic_ne rfl (fun c42 => ?_) (fun c42 => ?_)
        · refine a_s rfl rfl ?_
          refine a_s rfl rfl ?_
          refine a_gV rfl lX12_243 mo_X12_throwsIf (r_X12_throwsIf (b := false)) rfl rfl rfl ⟨12, _, rfl, rfl, rfl⟩ rfl (fun v' h' hv => ?_)
          obtain ⟨rfl, I19, rfl, f20⟩ := hv
          replace f20 : Mr nd np I I19 := Mr.fm (f18) (f20)
          have s20 := RI.so f20.2; have l20 := RI.lw f20.2; have g20 := RI.lg f20.2
          refine a_if_eq rfl (fun _ => ?_) (fun c => absurd (by decide) c)
          refine a_l0 rfl rfl rfl ?_
          refine a_gV rfl lX12_357 mo_X12_remembers (r_X12_remembers f20.2) rfl rfl rfl ⟨12, _, rfl, rfl, rfl⟩ rfl (fun v' h' hv => ?_)
          obtain ⟨rfl, I21, rfl, f22, -⟩ := hv
          replace f22 := Mr.tr (f20) f22
          have s22 := RI.so f22.2; have l22 := RI.lw f22.2; have g22 := RI.lg f22.2
          refine a_l0 rfl rfl rfl ?_
          refine a_l1 rfl rfl rfl ?_
          refine a_s rfl rfl ?_
          refine a_eV1 rfl lX12_63 mo_X12_of (sp_X12_of (d := i5) (k := 4) (Nat.lt_of_lt_of_le hi5 s22.n) (by decide)) rfl rfl rfl ⟨12, _, rfl, rfl, rfl⟩ rfl ?_
          refine a_s3 rfl rfl rfl rfl rfl rfl ?_
          refine a_l0 rfl rfl rfl ?_
          refine a_getq rfl gfX12_13_12 rfl (rfl) ?_
          refine a_l1 rfl rfl rfl ?_
          refine a_s rfl rfl ?_
          refine a_eS1 rfl lX12_60 mo_X12_at (sp_X12_at (d := i5) (k := 4)) rfl rfl rfl rfl ?_
          refine a_l2 rfl rfl rfl ?_
          refine a_iastv (k := (23 + 6 * i5 + 4)) rfl (n := 2033) rfl (inI_nI (by have := hs.n; have := hs.p; omega) (by have := hs.n; have := hs.p; omega)) (nI_clamp (by have := hs.n; have := hs.p; omega)) ?_
          refine a_ren (P := Mr nd np I) (Mr.le (f22) hi5 (Or.inr ⟨_, hi16, rfl⟩)) (fun I23 f24 => ?_)
          have s24 := RI.so f24.2; have l24 := RI.lw f24.2; have g24 := RI.lg f24.2
          refine a_l3 rfl rfl rfl ?_
          exact a_iret rfl rfl ⟨⟨_, rfl⟩, _, rfl, f24⟩
        · refine a_s rfl rfl ?_
          refine a_goto rfl ?_
          refine a_s rfl rfl ?_
          refine a_gV rfl lX12_243 mo_X12_throwsIf (r_X12_throwsIf (b := true)) rfl rfl rfl ⟨12, _, rfl, rfl, rfl⟩ rfl (fun v' h' hv => ?_)
          obtain ⟨rfl, I25, rfl, f26⟩ := hv
          replace f26 : Mr nd np I I25 := Mr.fm (f18) (f26)
          have s26 := RI.so f26.2; have l26 := RI.lw f26.2; have g26 := RI.lg f26.2
          refine a_if_eq rfl (fun c => absurd c (by decide)) (fun _ => ?_)
          refine a_s rfl rfl ?_
          exact a_iret rfl rfl ⟨⟨_, rfl⟩, _, rfl, f26⟩
      · refine a_s rfl rfl ?_
        refine a_goto rfl ?_
        refine a_s rfl rfl ?_
        refine a_gV rfl lX12_243 mo_X12_throwsIf (r_X12_throwsIf (b := true)) rfl rfl rfl ⟨12, _, rfl, rfl, rfl⟩ rfl (fun v' h' hv => ?_)
        obtain ⟨rfl, I27, rfl, f28⟩ := hv
        replace f28 : Mr nd np I I27 := Mr.fm (f2) (f28)
        have s28 := RI.so f28.2; have l28 := RI.lw f28.2; have g28 := RI.lg f28.2
        refine a_if_ne rfl (fun _ => ?_) (fun c => absurd c (by decide))
        refine a_s rfl rfl ?_
        exact a_iret rfl rfl ⟨⟨_, rfl⟩, _, rfl, f28⟩
theorem r_X12_free {S : aS} {I : Nat → Nat → Int32} {L : Nat → Nat → Int64} {w1 w2 t : Nat} {x1 x2 : Int32} {nd np : Nat} (hr : RI nd np I) : Sp S m_X12_free 15 0 0 [.ref 420, .int x1, .int x2] (hp I L w1 w2 t) (QR (Mr nd np I) isI L w1 w2 t) nX := by
  have hs := RI.so hr
  have hw := RI.lw hr
  have lg := RI.lg hr
  refine Sp_of ok_X12_free rfl rfl ?_
  show AW S m_X12_free 15 _ _ 0 0 0 [some (.ref 420), some (.int x1), some (.int x2), none] [] (hp I L w1 w2 t)
  refine a_l0 rfl rfl rfl ?_
  refine a_s rfl rfl ?_
  refine a_puti rfl pfX12_3_12 rfl ?_
  refine a_ren (P := Mr nd np I) (Mr.fm ((Mr.rf hr)) (Fm.up (Fm.rf (s := sU)) rfl)) (fun I1 f2 => ?_)
  have s2 := RI.so f2.2; have l2 := RI.lw f2.2; have g2 := RI.lg f2.2
  refine a_l0 rfl rfl rfl ?_
  refine a_l0 rfl rfl rfl ?_
  refine a_l1 rfl rfl rfl ?_
  refine a_eV1 rfl lX12_342 mo_X12_noPerson (r_X12_noPerson s2) rfl rfl rfl ⟨12, _, rfl, rfl, rfl⟩ rfl ?_
  refine a_s rfl rfl ?_
  refine a_gV rfl lX12_243 mo_X12_throwsIf (r_X12_throwsIf) rfl rfl rfl ⟨12, _, rfl, rfl, rfl⟩ rfl (fun v' h' hv => ?_)
  obtain ⟨rfl, I3, rfl, f4⟩ := hv
  replace f4 : Mr nd np I I3 := Mr.fm (f2) (f4)
  have s4 := RI.so f4.2; have l4 := RI.lw f4.2; have g4 := RI.lg f4.2
  refine a_if_ne rfl (fun c15 => ?_) (fun c15 => ?_)
  · refine a_s rfl rfl ?_
    exact a_iret rfl rfl ⟨⟨_, rfl⟩, _, rfl, f4⟩
  · obtain ⟨i5, hi5, rfl⟩ := isIx (n := np) (by have := hs.n; have := hs.p; omega) c15
    refine a_l0 rfl rfl rfl ?_
    refine a_l2 rfl rfl rfl ?_
    refine a_s rfl rfl ?_
    refine a_s rfl rfl ?_
    refine a_eS1 rfl lX12_70 mo_X12_in (sp_X12_in) rfl rfl rfl rfl ?_
    refine a_if_ne rfl (fun c26 => ?_) (fun c26 => ?_)
    · obtain ⟨m6, hm6a, hm6b, rfl⟩ := inB_nI (a := 0) (b := 9) (by decide) (bI_t c26)
      refine a_s rfl rfl ?_
      refine a_s rfl rfl ?_
      refine a_gV rfl lX12_243 mo_X12_throwsIf (r_X12_throwsIf (b := false)) rfl rfl rfl ⟨12, _, rfl, rfl, rfl⟩ rfl (fun v' h' hv => ?_)
      obtain ⟨rfl, I7, rfl, f8⟩ := hv
      replace f8 : Mr nd np I I7 := Mr.fm (f4) (f8)
      have s8 := RI.so f8.2; have l8 := RI.lw f8.2; have g8 := RI.lg f8.2
      refine a_if_eq rfl (fun _ => ?_) (fun c => absurd (by decide) c)
      refine a_l0 rfl rfl rfl ?_
      refine a_gV rfl lX12_357 mo_X12_remembers (r_X12_remembers f8.2) rfl rfl rfl ⟨12, _, rfl, rfl, rfl⟩ rfl (fun v' h' hv => ?_)
      obtain ⟨rfl, I9, rfl, f10, -⟩ := hv
      replace f10 := Mr.tr (f8) f10
      have s10 := RI.so f10.2; have l10 := RI.lw f10.2; have g10 := RI.lg f10.2
      refine a_l0 rfl rfl rfl ?_
      refine a_l1 rfl rfl rfl ?_
      refine a_s rfl rfl ?_
      refine a_eV1 rfl lX12_252 mo_X12_ofPerson (sp_X12_ofPerson (d := i5) (k := 1) (Nat.lt_of_lt_of_le hi5 s10.p) (by decide)) rfl rfl rfl ⟨12, _, rfl, rfl, rfl⟩ rfl ?_
      refine a_s3 rfl rfl rfl rfl rfl rfl ?_
      refine a_l0 rfl rfl rfl ?_
      refine a_getq rfl gfX12_13_12 rfl (rfl) ?_
      refine a_l1 rfl rfl rfl ?_
      refine a_s rfl rfl ?_
      refine a_eS1 rfl lX12_56 mo_X12_personAt (sp_X12_personAt (d := i5) (k := 1)) rfl rfl rfl rfl ?_
      refine a_l2 rfl rfl rfl ?_
      refine a_iastv (k := (11 + 2 * i5 + 1)) rfl (n := 2033) rfl (inI_nI (by have := hs.n; have := hs.p; omega) (by have := hs.n; have := hs.p; omega)) (nI_clamp (by have := hs.n; have := hs.p; omega)) ?_
      refine a_ren (P := Mr nd np I) (Mr.free (f10) hi5 hm6b) (fun I11 f12 => ?_)
      have s12 := RI.so f12.2; have l12 := RI.lw f12.2; have g12 := RI.lg f12.2
      refine a_l3 rfl rfl rfl ?_
      exact a_iret rfl rfl ⟨⟨_, rfl⟩, _, rfl, f12⟩
    · refine a_s rfl rfl ?_
      refine a_goto rfl ?_
      refine a_s rfl rfl ?_
      refine a_gV rfl lX12_243 mo_X12_throwsIf (r_X12_throwsIf (b := true)) rfl rfl rfl ⟨12, _, rfl, rfl, rfl⟩ rfl (fun v' h' hv => ?_)
      obtain ⟨rfl, I13, rfl, f14⟩ := hv
      replace f14 : Mr nd np I I13 := Mr.fm (f4) (f14)
      have s14 := RI.so f14.2; have l14 := RI.lw f14.2; have g14 := RI.lg f14.2
      refine a_if_eq rfl (fun c => absurd c (by decide)) (fun _ => ?_)
      refine a_s rfl rfl ?_
      exact a_iret rfl rfl ⟨⟨_, rfl⟩, _, rfl, f14⟩
theorem r_X12_days {S : aS} {I : Nat → Nat → Int32} {L : Nat → Nat → Int64} {w1 w2 t : Nat} {x1 : Int32} {nd np : Nat} (hr : RI nd np I) : Sp S m_X12_days 24 0 0 [.ref 420, .int x1] (hp I L w1 w2 t) (QR (Mr nd np I) isI L w1 w2 t) nX := by
  have hs := RI.so hr
  have hw := RI.lw hr
  have lg := RI.lg hr
  refine Sp_of ok_X12_days rfl rfl ?_
  show AW S m_X12_days 24 _ _ 0 0 0 [some (.ref 420), some (.int x1)] [] (hp I L w1 w2 t)
  refine a_l0 rfl rfl rfl ?_
  refine a_s rfl rfl ?_
  refine a_puti rfl pfX12_3_12 rfl ?_
  refine a_ren (P := Mr nd np I) (Mr.fm ((Mr.rf hr)) (Fm.up (Fm.rf (s := sU)) rfl)) (fun I1 f2 => ?_)
  have s2 := RI.so f2.2; have l2 := RI.lw f2.2; have g2 := RI.lg f2.2
  refine a_l0 rfl rfl rfl ?_
  refine a_l1 rfl rfl rfl ?_
  refine a_s rfl rfl ?_
  refine a_s rfl rfl ?_
  refine a_eS1 rfl lX12_70 mo_X12_in (sp_X12_in) rfl rfl rfl rfl ?_
  refine a_if_ne rfl (fun c13 => ?_) (fun c13 => ?_)
  · obtain ⟨m3, hm3a, hm3b, rfl⟩ := inB_nI (a := 1) (b := 90) (by decide) (bI_t c13)
    refine a_s rfl rfl ?_
    refine a_s rfl rfl ?_
    refine a_gV rfl lX12_243 mo_X12_throwsIf (r_X12_throwsIf (b := false)) rfl rfl rfl ⟨12, _, rfl, rfl, rfl⟩ rfl (fun v' h' hv => ?_)
    obtain ⟨rfl, I4, rfl, f5⟩ := hv
    replace f5 : Mr nd np I I4 := Mr.fm (f2) (f5)
    have s5 := RI.so f5.2; have l5 := RI.lw f5.2; have g5 := RI.lg f5.2
    refine a_if_eq rfl (fun _ => ?_) (fun c => absurd (by decide) c)
    refine a_l0 rfl rfl rfl ?_
    refine a_gV rfl lX12_357 mo_X12_remembers (r_X12_remembers f5.2) rfl rfl rfl ⟨12, _, rfl, rfl, rfl⟩ rfl (fun v' h' hv => ?_)
    obtain ⟨rfl, I6, rfl, f7, -⟩ := hv
    replace f7 := Mr.tr (f5) f7
    have s7 := RI.so f7.2; have l7 := RI.lw f7.2; have g7 := RI.lg f7.2
    refine a_l0 rfl rfl rfl ?_
    refine a_l1 rfl rfl rfl ?_
    refine a_s rfl rfl ?_
    refine a_gV rfl lX12_388 mo_X12_goesOn (r_X12_goesOn s7 l7 g7 (b2 := false)) rfl rfl rfl ⟨12, _, rfl, rfl, rfl⟩ rfl (fun v' h' hv => ?_)
    obtain ⟨⟨v8, rfl⟩, I9, rfl, f10⟩ := hv
    replace f10 := Mr.dd (f7) f10
    have s10 := RI.so f10.2; have l10 := RI.lw f10.2; have g10 := RI.lg f10.2
    exact a_iret rfl rfl ⟨⟨_, rfl⟩, _, rfl, f10⟩
  · refine a_s rfl rfl ?_
    refine a_goto rfl ?_
    refine a_s rfl rfl ?_
    refine a_gV rfl lX12_243 mo_X12_throwsIf (r_X12_throwsIf (b := true)) rfl rfl rfl ⟨12, _, rfl, rfl, rfl⟩ rfl (fun v' h' hv => ?_)
    obtain ⟨rfl, I11, rfl, f12⟩ := hv
    replace f12 : Mr nd np I I11 := Mr.fm (f2) (f12)
    have s12 := RI.so f12.2; have l12 := RI.lw f12.2; have g12 := RI.lg f12.2
    refine a_if_eq rfl (fun c => absurd c (by decide)) (fun _ => ?_)
    refine a_s rfl rfl ?_
    exact a_iret rfl rfl ⟨⟨_, rfl⟩, _, rfl, f12⟩
end
section
/-! ===== the reference: odds, spare, whose, ask ===== -/
section T65
variable {S : aS} {I : Nat → Nat → Int32} {L : Nat → Nat → Int64} {w1 w2 t : Nat} {nd np : Nat}
set_option maxRecDepth 100000
theorem nS2 (j : Nat) : some (Value.int (nI (2 * j) + 2)) = some (Value.int (nI (2 * (j + 1)))) := by
  rw [show (2 : Int32) = nI 2 from rfl, nI_addl]
  rfl
theorem r_X12_isTold {e : Nat} (he : I 420 11 = nI e) (he4 : e ≤ 400) : Sp S m_X12_isTold 14 0 0 [.ref 420] (hp I L w1 w2 t) (QE isZ (hp I L w1 w2 t)) nX := by
  refine Sp_of ok_X12_isTold rfl rfl ?_
  show AW S m_X12_isTold 14 _ _ 0 0 0 [some (.ref 420), none, none] [] (hp I L w1 w2 t)
  have key : ∀ b : Bool, AW S m_X12_isTold 14 (QE isZ (hp I L w1 w2 t)) nX 0 0 24 [some (.ref 420), some (.int (bI b)), none] [] (hp I L w1 w2 t) := by
    intro b
    refine a_s rfl rfl ?_
    refine a_s2 rfl rfl rfl rfl rfl rfl ?_
    refine a_inv (n := 202) (fun m ls h => ∃ b j, ls = [some (.ref 420), some (.int (bI b)), some (.int (nI (2 * j)))] ∧ h = hp I L w1 w2 t ∧ j + m = 202) ⟨b, 0, rfl, rfl, rfl⟩ ?_
    rintro m _ _ ⟨b, j, rfl, rfl, hj⟩ ih
    refine a_l2 rfl rfl rfl ?_
    refine a_l0 rfl rfl rfl ?_
    refine a_geti rfl gfX12_84_12 rfl ?_
    refine a_top (y := nI e) he ?_
    refine a_ic_ge rfl (fun c => ?_) (fun c => ?_)
    · refine a_l1 rfl rfl rfl ?_
      exact a_zret rfl rfl (bI_nar _) ⟨⟨_, rfl⟩, rfl⟩
    · have hd : 2 * j < e := nI_lt_of c (by omega) (by omega)
      have back : ∀ b' : Bool, AW S m_X12_isTold 14 (QE isZ (hp I L w1 w2 t)) nX 0 0 87 [some (.ref 420), some (.int (bI b')), some (.int (nI (2 * j)))] [] (hp I L w1 w2 t) := by
        intro b'
        refine a_i2 rfl rfl rfl ?_
        refine a_goto rfl ?_
        exact a_less (ih (m - 1) _ _ (by omega) ⟨b', j + 1, rfl, rfl, by omega⟩) ⟨rfl, rfl, nS2 j, trivial⟩
      refine a_l1 rfl rfl rfl ?_
      refine a_if_eq rfl (fun _ => ?_) (fun _ => ?_)
      · refine a_l1 rfl rfl rfl ?_
        exact a_zret rfl rfl (bI_nar _) ⟨⟨_, rfl⟩, rfl⟩
      · have no : AW S m_X12_isTold 14 (QE isZ (hp I L w1 w2 t)) nX 0 0 85 [some (.ref 420), some (.int (bI b)), some (.int (nI (2 * j)))] [] (hp I L w1 w2 t) := by
          refine a_s rfl rfl ?_
          refine a_s1 rfl rfl rfl rfl rfl rfl ?_
          exact back false
        refine a_l0 rfl rfl rfl ?_
        refine a_getq rfl gfX12_29_12 rfl (rfl) ?_
        refine a_l2 rfl rfl rfl ?_
        refine a_bald rfl (n := 400) rfl (inI_nI (by omega) (by omega)) ?_
        refine a_eS1 rfl lX12_292 mo_X12_noKerb sp_X12_noKerb rfl rfl rfl rfl ?_
        refine a_if_ne rfl (fun _ => no) (fun _ => ?_)
        refine a_l0 rfl rfl rfl ?_
        refine a_getq rfl gfX12_29_12 rfl (rfl) ?_
        refine a_l2 rfl rfl rfl ?_
        refine a_s rfl rfl ?_
        refine a_s rfl rfl ?_
        refine a_top (y := nI (2 * j + 1)) (nI_succ _).symm ?_
        refine a_bald rfl (n := 400) rfl (inI_nI (by omega) (by omega)) ?_
        refine a_eS1 rfl lX12_292 mo_X12_noKerb sp_X12_noKerb rfl rfl rfl rfl ?_
        refine a_if_ne rfl (fun _ => no) (fun _ => ?_)
        refine a_l0 rfl rfl rfl ?_
        refine a_getq rfl gfX12_29_12 rfl (rfl) ?_
        refine a_l2 rfl rfl rfl ?_
        refine a_bald rfl (n := 400) rfl (inI_nI (by omega) (by omega)) ?_
        refine a_l0 rfl rfl rfl ?_
        refine a_getq rfl gfX12_29_12 rfl (rfl) ?_
        refine a_l2 rfl rfl rfl ?_
        refine a_s rfl rfl ?_
        refine a_s rfl rfl ?_
        refine a_top (y := nI (2 * j + 1)) (nI_succ _).symm ?_
        refine a_bald rfl (n := 400) rfl (inI_nI (by omega) (by omega)) ?_
        refine a_ic_gt rfl (fun _ => no) (fun _ => ?_)
        refine a_s rfl rfl ?_
        refine a_goto rfl ?_
        refine a_s1 rfl rfl rfl rfl rfl rfl ?_
        exact back true
  refine a_l0 rfl rfl rfl ?_
  refine a_geti rfl gfX12_84_12 rfl ?_
  refine a_s rfl rfl ?_
  refine a_irem rfl (by decide) ?_
  refine a_if_ne rfl (fun _ => ?_) (fun _ => ?_)
  · refine a_s rfl rfl ?_
    refine a_s1 rfl rfl rfl rfl rfl rfl ?_
    exact key false
  · refine a_l0 rfl rfl rfl ?_
    refine a_geti rfl gfX12_84_12 rfl ?_
    refine a_s rfl rfl ?_
    refine a_ic_gt rfl (fun _ => ?_) (fun _ => ?_)
    · refine a_s rfl rfl ?_
      refine a_s1 rfl rfl rfl rfl rfl rfl ?_
      exact key false
    · refine a_s rfl rfl ?_
      refine a_goto rfl ?_
      refine a_s1 rfl rfl rfl rfl rfl rfl ?_
      exact key true
theorem r_X12_allThatFit {e : Nat} (hs : SO nd np (I 421)) (he : I 420 11 = nI e) (he4 : e ≤ 400) : Sp S m_X12_allThatFit 14 0 0 [.ref 420] (hp I L w1 w2 t) (QE isI (hp I L w1 w2 t)) nX := by
  have hp6 := hs.p
  refine Sp_of ok_X12_allThatFit rfl rfl ?_
  show AW S m_X12_allThatFit 14 _ _ 0 0 0 [some (.ref 420), none, none, none, none] [] (hp I L w1 w2 t)
  refine a_s rfl rfl ?_
  refine a_s1 rfl rfl rfl rfl rfl rfl ?_
  refine a_s rfl rfl ?_
  refine a_s2 rfl rfl rfl rfl rfl rfl ?_
  refine a_cnt (j0 := 0) (fun j ls h => ∃ a, ls = [some (.ref 420), some (.int a), some (.int (nI j)), none, none] ∧ h = hp I L w1 w2 t) (by decide) ⟨_, rfl, rfl⟩ ⟨rfl, rfl, rfl, trivial⟩ ?_
  rintro j _ _ hj ⟨a, rfl, rfl⟩ ih
  refine a_l2 rfl rfl rfl ?_
  refine a_l0 rfl rfl rfl ?_
  refine a_eV1 rfl lX12_66 mo_X12_people sp_X12_people rfl rfl rfl ⟨12, _, rfl, rfl, rfl⟩ rfl ?_
  refine a_top (y := nI np) hs.pu ?_
  refine a_ic_ge rfl (fun c => ?_) (fun c => ?_)
  · refine a_l1 rfl rfl rfl ?_
    exact a_iret rfl rfl ⟨⟨_, rfl⟩, rfl⟩
  · have hjp : j < np := nI_lt_of c hj (by omega)
    refine a_s rfl rfl ?_
    refine a_s3 rfl rfl rfl rfl rfl rfl ?_
    refine a_s rfl rfl ?_
    refine a_s4 rfl rfl rfl rfl rfl rfl ?_
    refine a_inv (n := 202) (fun m ls h => ∃ b i, ls = [some (.ref 420), some (.int a), some (.int (nI j)), some (.int (bI b)), some (.int (nI (2 * i)))] ∧ h = hp I L w1 w2 t ∧ i + m = 202) ⟨true, 0, rfl, rfl, rfl⟩ ?_
    rintro m _ _ ⟨b, i, rfl, rfl, hi⟩ ih2
    refine a_l4 rfl rfl rfl ?_
    refine a_l0 rfl rfl rfl ?_
    refine a_geti rfl gfX12_84_12 rfl ?_
    refine a_top (y := nI e) he ?_
    refine a_ic_ge rfl (fun c2 => ?_) (fun c2 => ?_)
    · refine a_l1 rfl rfl rfl ?_
      refine a_l3 rfl rfl rfl ?_
      have fin : ∀ x : Int32, AW S m_X12_allThatFit 14 (QE isI (hp I L w1 w2 t)) nX 0 0 82 [some (.ref 420), some (.int a), some (.int (nI j)), some (.int (bI b)), some (.int (nI (2 * i)))] [.int x, .int a] (hp I L w1 w2 t) := by
        intro x
        refine a_s rfl rfl ?_
        refine a_s1 rfl rfl rfl rfl rfl rfl ?_
        refine a_i2 rfl rfl rfl ?_
        refine a_goto rfl ?_
        exact ih _ _ _ _ c ⟨_, rfl, rfl⟩ ⟨rfl, rfl, nS _, trivial⟩
      refine a_if_eq rfl (fun _ => ?_) (fun _ => ?_)
      · refine a_s rfl rfl ?_
        exact fin _
      · refine a_s rfl rfl ?_
        refine a_l2 rfl rfl rfl ?_
        refine a_s rfl rfl ?_
        refine a_goto rfl ?_
        exact fin _
    · have hd : 2 * i < e := nI_lt_of c2 (by omega) (by omega)
      have back : ∀ b' : Bool, AW S m_X12_allThatFit 14 (QE isI (hp I L w1 w2 t)) nX 0 0 64 [some (.ref 420), some (.int a), some (.int (nI j)), some (.int (bI b')), some (.int (nI (2 * i)))] [] (hp I L w1 w2 t) := by
        intro b'
        refine a_i4 rfl rfl rfl ?_
        refine a_goto rfl ?_
        exact a_less (ih2 (m - 1) _ _ (by omega) ⟨b', i + 1, rfl, rfl, by omega⟩) ⟨rfl, rfl, rfl, rfl, nS2 i, trivial⟩
      have no : AW S m_X12_allThatFit 14 (QE isI (hp I L w1 w2 t)) nX 0 0 62 [some (.ref 420), some (.int a), some (.int (nI j)), some (.int (bI b)), some (.int (nI (2 * i)))] [] (hp I L w1 w2 t) := by
        refine a_s rfl rfl ?_
        refine a_s3 rfl rfl rfl rfl rfl rfl ?_
        exact back false
      refine a_l3 rfl rfl rfl ?_
      refine a_if_eq rfl (fun _ => no) (fun _ => ?_)
      refine a_l0 rfl rfl rfl ?_
      refine a_l2 rfl rfl rfl ?_
      refine a_s rfl rfl ?_
      refine a_eV1 rfl lX12_252 mo_X12_ofPerson (sp_X12_ofPerson (d := j) (k := 0) (by omega) (by decide)) rfl rfl rfl ⟨12, _, rfl, rfl, rfl⟩ rfl ?_
      refine a_l0 rfl rfl rfl ?_
      refine a_getq rfl gfX12_29_12 rfl (rfl) ?_
      refine a_l4 rfl rfl rfl ?_
      refine a_bald rfl (n := 400) rfl (inI_nI (by omega) (by omega)) ?_
      refine a_l0 rfl rfl rfl ?_
      refine a_getq rfl gfX12_29_12 rfl (rfl) ?_
      refine a_l4 rfl rfl rfl ?_
      refine a_s rfl rfl ?_
      refine a_s rfl rfl ?_
      refine a_top (y := nI (2 * i + 1)) (nI_succ _).symm ?_
      refine a_bald rfl (n := 400) rfl (inI_nI (by omega) (by omega)) ?_
      refine a_eS1 rfl lX12_70 mo_X12_in sp_X12_in rfl rfl rfl rfl ?_
      refine a_if_eq rfl (fun _ => no) (fun _ => ?_)
      refine a_s rfl rfl ?_
      refine a_goto rfl ?_
      refine a_s3 rfl rfl rfl rfl rfl rfl ?_
      exact back true
/-- the tape is used up -/
def usH (I : Nat → Nat → Int32) : Nat → Nat → Int32 := up2 (up2 (up2 (up2 I 420 0 0) 420 11 (I 420 9)) 420 9 0) 420 10 0
theorem usH_row {I : Nat → Nat → Int32} {q : Nat} (h : q ≠ 420) : usH I q = I q := by
  unfold usH
  rw [up2_row h, up2_row h, up2_row h, up2_row h]
theorem usH_f {I : Nat → Nat → Int32} {k : Nat} (h0 : k ≠ 0) (h1 : k ≠ 11) (h2 : k ≠ 9) (h3 : k ≠ 10) : usH I 420 k = I 420 k := by
  unfold usH
  rw [up2_ne (Or.inr h3), up2_ne (Or.inr h2), up2_ne (Or.inr h1), up2_ne (Or.inr h0)]
theorem usH_11 {I : Nat → Nat → Int32} : usH I 420 11 = I 420 9 := by
  unfold usH
  rw [up2_ne (Or.inr (by decide)), up2_ne (Or.inr (by decide)), up2_at]
theorem usH_9 {I : Nat → Nat → Int32} : usH I 420 9 = 0 := by
  unfold usH
  rw [up2_ne (Or.inr (by decide)), up2_at]
/-- nothing else between two calls has changed, but the tape is empty -/
def Us (nd np : Nat) (I I' : Nat → Nat → Int32) : Prop := (∀ q, (q < 420 ∨ q = 426) → I' q = I q) ∧ I' 420 9 = 0 ∧ I' 420 6 = I 420 6 ∧ RI nd np I'
theorem Us.mk (hr : RI nd np I) : Us nd np I (usH I) := ⟨fun q hq => usH_row (by omega), usH_9, usH_f (by decide) (by decide) (by decide) (by decide), hr.eq (usH_row (by decide)) (usH_row (by decide)) (usH_row (by decide)) (usH_f (by decide) (by decide) (by decide) (by decide)) (usH_f (by decide) (by decide) (by decide) (by decide))⟩
theorem Us.fm {I1 I2 : Nat → Nat → Int32} (h : Us nd np I I1) (f : Fm sU I1 I2) : Us nd np I I2 := by
  have m := Mr.fm (Mr.rf h.2.2.2) f
  exact ⟨fun q hq => (m.1.1 q hq).trans (h.1 q hq), m.1.2.1.trans h.2.1, m.1.2.2.trans h.2.2.1, m.2⟩
theorem r_X12_whose (hr : RI nd np I) (ht : ∃ l, l ≤ 400 ∧ I 420 9 = nI l) : Sp S m_X12_whose 15 0 0 [.ref 420] (hp I L w1 w2 t) (QR (Us nd np I) isI L w1 w2 t) nX := by
  obtain ⟨l, hl4, hl⟩ := ht
  refine Sp_of ok_X12_whose rfl rfl ?_
  show AW S m_X12_whose 15 _ _ 0 0 0 [some (.ref 420)] [] (hp I L w1 w2 t)
  have f0 : Us nd np I (usH I) := Us.mk hr
  refine a_l0 rfl rfl rfl ?_
  refine a_eV0 rfl lX12_232 mo_X12_uses r_X12_uses rfl rfl rfl ⟨12, _, rfl, rfl, rfl⟩ rfl ?_
  refine a_ren (P := fun J => Us nd np I J ∧ J 420 11 = nI l) ⟨f0, usH_11.trans hl⟩ (fun I1 hI1 => ?_)
  clear f0
  obtain ⟨f1, he⟩ := hI1
  refine a_l0 rfl rfl rfl ?_
  refine a_l0 rfl rfl rfl ?_
  refine a_gV rfl lX12_438 mo_X12_isTold (r_X12_isTold he hl4) rfl rfl rfl ⟨12, _, rfl, rfl, rfl⟩ rfl (fun v' h' hv => ?_)
  obtain ⟨⟨b, rfl⟩, rfl⟩ := hv
  refine a_if_ne rfl (fun _ => ?_) (fun _ => ?_)
  · refine a_s rfl rfl ?_
    refine a_s rfl rfl ?_
    refine a_gV rfl lX12_243 mo_X12_throwsIf (r_X12_throwsIf (b := false)) rfl rfl rfl ⟨12, _, rfl, rfl, rfl⟩ rfl (fun v' h' hv => ?_)
    obtain ⟨rfl, I2, rfl, f2⟩ := hv
    refine a_if_eq rfl (fun _ => ?_) (fun c => absurd (by decide) c)
    refine a_l0 rfl rfl rfl ?_
    refine a_gV rfl lX12_441 mo_X12_allThatFit (r_X12_allThatFit (f1.fm f2).2.2.2.so ((f2 420 11 rfl).trans he) hl4) rfl rfl rfl ⟨12, _, rfl, rfl, rfl⟩ rfl (fun v' h' hv => ?_)
    obtain ⟨⟨v, rfl⟩, rfl⟩ := hv
    exact a_iret rfl rfl ⟨⟨_, rfl⟩, _, rfl, f1.fm f2⟩
  · refine a_s rfl rfl ?_
    refine a_goto rfl ?_
    refine a_s rfl rfl ?_
    refine a_gV rfl lX12_243 mo_X12_throwsIf (r_X12_throwsIf (b := true)) rfl rfl rfl ⟨12, _, rfl, rfl, rfl⟩ rfl (fun v' h' hv => ?_)
    obtain ⟨rfl, I2, rfl, f2⟩ := hv
    refine a_if_eq rfl (fun c => absurd c (by decide)) (fun _ => ?_)
    refine a_s rfl rfl ?_
    refine a_goto rfl ?_
    exact a_iret rfl rfl ⟨⟨_, rfl⟩, _, rfl, f1.fm f2⟩
/-- days that so many hours take, one's free hours 0 to 9 -/
def dN (h f : Nat) : Nat := if h = 0 then 0 else if f = 0 then 1000 else (h + f - 1) / f
theorem days_nI : ∀ h, h < 55 → ∀ f, f < 10 → daysR (nI h) (nI f) = nI (dN h f) ∧ dN h f ≤ 1000 := by decide +kernel
theorem r_X12_odds (hs : SO nd np (I 421)) (hw : LwW (I 421)) (lg : LgW (I 421)) {x1 x2 : Int32} : Sp S m_X12_odds 14 0 0 [.ref 420, .int x1, .int x2] (hp I L w1 w2 t) (fun v h' => isI v ∧ ∃ I' L', h' = hp I' L' w1 w2 t ∧ Fm sV I I') nX := by
  refine Sp_of ok_X12_odds rfl rfl ?_
  show AW S m_X12_odds 14 _ _ 0 0 0 [some (.ref 420), some (.int x1), some (.int x2)] [] (hp I L w1 w2 t)
  refine a_l0 rfl rfl rfl ?_
  refine a_s rfl rfl ?_
  refine a_puti rfl pfX12_3_12 rfl ?_
  refine a_ren (P := Fm sV I) (Fm.up Fm.rf rfl) (fun I1 f1 => ?_)
  have no : AW S m_X12_odds 14 (fun v h' => isI v ∧ ∃ I' L', h' = hp I' L' w1 w2 t ∧ Fm sV I I') nX 0 0 26 [some (.ref 420), some (.int x1), some (.int x2)] [.ref 420] (hp I1 L w1 w2 t) := by
    refine a_s rfl rfl ?_
    refine a_goto rfl ?_
    refine a_s rfl rfl ?_
    refine a_gV rfl lX12_243 mo_X12_throwsIf (r_X12_throwsIf (b := true)) rfl rfl rfl ⟨12, _, rfl, rfl, rfl⟩ rfl (fun v' h' hv => ?_)
    obtain ⟨rfl, I2, rfl, f2⟩ := hv
    refine a_if_eq rfl (fun c => absurd c (by decide)) (fun _ => ?_)
    refine a_s rfl rfl ?_
    refine a_goto rfl ?_
    exact a_iret rfl rfl ⟨⟨_, rfl⟩, _, _, rfl, Fm.tr f1 (Fm.mo f2 sU_sV)⟩
  refine a_l0 rfl rfl rfl ?_
  refine a_l1 rfl rfl rfl ?_
  refine a_s rfl rfl ?_
  refine a_s rfl rfl ?_
  refine a_eS1 rfl lX12_70 mo_X12_in sp_X12_in rfl rfl rfl rfl ?_
  refine a_if_eq rfl (fun _ => no) (fun c => ?_)
  obtain ⟨n, -, hn, rfl⟩ := inB_nI (a := 0) (b := 6) (by decide) (bI_t c)
  refine a_l2 rfl rfl rfl ?_
  refine a_s rfl rfl ?_
  refine a_s rfl rfl ?_
  refine a_eS1 rfl lX12_70 mo_X12_in sp_X12_in rfl rfl rfl rfl ?_
  refine a_if_ne rfl (fun c2 => ?_) (fun _ => no)
  obtain ⟨m, -, hm, rfl⟩ := inB_nI (a := 0) (b := 6) (by decide) (bI_t c2)
  clear no
  refine a_s rfl rfl ?_
  refine a_s rfl rfl ?_
  refine a_gV rfl lX12_243 mo_X12_throwsIf (r_X12_throwsIf (b := false)) rfl rfl rfl ⟨12, _, rfl, rfl, rfl⟩ rfl (fun v' h' hv => ?_)
  obtain ⟨rfl, I2, rfl, f2⟩ := hv
  refine a_if_eq rfl (fun _ => ?_) (fun c => absurd (by decide) c)
  refine a_l0 rfl rfl rfl ?_
  refine a_l1 rfl rfl rfl ?_
  refine a_l2 rfl rfl rfl ?_
  refine a_l0 rfl rfl rfl ?_
  refine a_getq rfl gfX12_13_12 rfl (rfl) ?_
  refine a_s rfl rfl ?_
  refine a_iald rfl (n := 2033) rfl ⟨by decide, by decide⟩ ?_
  refine a_eV1 rfl lX12_458 mo_X12_oddsOf (sp_X12_oddsOf (n := n) (m := m) hn hm) rfl rfl rfl ⟨12, _, rfl, rfl, rfl⟩ rfl ?_
  exact a_iret rfl rfl ⟨⟨_, rfl⟩, _, _, rfl, Fm.tr f1 (Fm.mo f2 sU_sV)⟩
theorem r_X12_spare (hs : SO nd np (I 421)) (fr : FrW np (I 421)) {x1 x2 : Int32} : Sp S m_X12_spare 14 0 0 [.ref 420, .int x1, .int x2] (hp I L w1 w2 t) (fun v h' => isI v ∧ ∃ I' L', h' = hp I' L' w1 w2 t ∧ Fm sV I I') nX := by
  have h6 := hs.p
  refine Sp_of ok_X12_spare rfl rfl ?_
  show AW S m_X12_spare 14 _ _ 0 0 0 [some (.ref 420), some (.int x1), some (.int x2), none, none] [] (hp I L w1 w2 t)
  refine a_l0 rfl rfl rfl ?_
  refine a_s rfl rfl ?_
  refine a_puti rfl pfX12_3_12 rfl ?_
  refine a_ren (P := Fm sV I) (Fm.up Fm.rf rfl) (fun I1 f1 => ?_)
  have out : ∀ {J : Nat → Nat → Int32} {l1 l2 : Option Value}, Fm sV I J → AW S m_X12_spare 14 (fun v h' => isI v ∧ ∃ I' L', h' = hp I' L' w1 w2 t ∧ Fm sV I I') nX 0 0 41 [some (.ref 420), l1, l2, none, none] [] (hp J L w1 w2 t) := by
    intro J l1 l2 f
    refine a_s rfl rfl ?_
    exact a_iret rfl rfl ⟨⟨_, rfl⟩, _, _, rfl, f⟩
  refine a_l0 rfl rfl rfl ?_
  refine a_l0 rfl rfl rfl ?_
  refine a_l1 rfl rfl rfl ?_
  refine a_eV1 rfl lX12_342 mo_X12_noPerson (r_X12_noPerson (SO.fm hs f1)) rfl rfl rfl ⟨12, _, rfl, rfl, rfl⟩ rfl ?_
  refine a_s rfl rfl ?_
  refine a_gV rfl lX12_243 mo_X12_throwsIf r_X12_throwsIf rfl rfl rfl ⟨12, _, rfl, rfl, rfl⟩ rfl (fun v' h' hv => ?_)
  obtain ⟨rfl, I2, rfl, f2⟩ := hv
  replace f2 : Fm sV I I2 := Fm.tr f1 (Fm.mo f2 sU_sV)
  refine a_if_ne rfl (fun _ => out f2) (fun c => ?_)
  obtain ⟨p, hpp, rfl⟩ := isIx (n := np) (by omega) c
  refine a_l0 rfl rfl rfl ?_
  refine a_l2 rfl rfl rfl ?_
  refine a_s rfl rfl ?_
  refine a_s rfl rfl ?_
  refine a_eS1 rfl lX12_70 mo_X12_in sp_X12_in rfl rfl rfl rfl ?_
  refine a_if_ne rfl (fun c2 => ?_) (fun _ => ?_)
  · obtain ⟨h, hh1, hh2, rfl⟩ := inB_nI (a := 1) (b := 54) (by decide) (bI_t c2)
    refine a_s rfl rfl ?_
    refine a_s rfl rfl ?_
    refine a_gV rfl lX12_243 mo_X12_throwsIf (r_X12_throwsIf (b := false)) rfl rfl rfl ⟨12, _, rfl, rfl, rfl⟩ rfl (fun v' h' hv => ?_)
    obtain ⟨rfl, I3, rfl, f3⟩ := hv
    replace f3 : Fm sV I I3 := Fm.tr f2 (Fm.mo f3 sU_sV)
    refine a_if_eq rfl (fun _ => ?_) (fun c => absurd (by decide) c)
    refine a_l2 rfl rfl rfl ?_
    refine a_l0 rfl rfl rfl ?_
    refine a_l1 rfl rfl rfl ?_
    refine a_s rfl rfl ?_
    refine a_eV1 rfl lX12_252 mo_X12_ofPerson (sp_X12_ofPerson (d := p) (k := 1) (by omega) (by decide)) rfl rfl rfl ⟨12, _, rfl, rfl, rfl⟩ rfl ?_
    obtain ⟨g, hg, eg⟩ := fr p hpp
    refine a_top (y := nI g) ((f3 421 _ rfl).trans eg) ?_
    obtain ⟨ed, hd⟩ := days_nI h (by omega) g (by omega)
    refine a_eS1 rfl lX12_336 mo_X12_daysFor sp_X12_daysFor rfl rfl rfl rfl ?_
    refine a_top (y := nI (dN h g)) ed ?_
    refine a_s3 rfl rfl rfl rfl rfl rfl ?_
    refine a_s rfl rfl ?_
    refine a_s4 rfl rfl rfl rfl rfl rfl ?_
    refine a_cnt (j0 := 1) (fun j ls h' => ∃ L', ls = [some (.ref 420), some (.int (nI p)), some (.int (nI h)), some (.int (nI (dN h g))), some (.int (nI j))] ∧ h' = hp I3 L' w1 w2 t) (by decide) ⟨_, rfl, rfl⟩ ⟨rfl, rfl, rfl, rfl, rfl, trivial⟩ ?_
    rintro j _ _ hj ⟨L', rfl, rfl⟩ ih
    refine a_l4 rfl rfl rfl ?_
    refine a_s rfl rfl ?_
    refine a_ic_gt rfl (fun _ => ?_) (fun c4 => ?_)
    · refine a_s rfl rfl ?_
      exact a_iret rfl rfl ⟨⟨_, rfl⟩, _, _, rfl, f3⟩
    · have hj6 : j ≤ 6 := nI_le_of (a := j) (b := 6) c4 hj (by decide)
      have back : ∀ L2, AW S m_X12_spare 14 (fun v h' => isI v ∧ ∃ I' L', h' = hp I' L' w1 w2 t ∧ Fm sV I I') nX 0 0 96 [some (.ref 420), some (.int (nI p)), some (.int (nI h)), some (.int (nI (dN h g))), some (.int (nI j))] [] (hp I3 L2 w1 w2 t) := by
        intro L2
        refine a_i4 rfl rfl rfl ?_
        refine a_goto rfl ?_
        exact ih _ _ _ _ (nI_gt1 (a := 6) (by decide) hj c4) ⟨_, rfl, rfl⟩ ⟨rfl, rfl, rfl, rfl, nS _, trivial⟩
      refine a_l3 rfl rfl rfl ?_
      refine a_l4 rfl rfl rfl ?_
      refine a_ic_gt rfl (fun _ => back _) (fun c5 => ?_)
      have hm : dN h g ≤ j := nI_le_of c5 (by omega) hj
      refine a_l0 rfl rfl rfl ?_
      refine a_l4 rfl rfl rfl ?_
      refine a_l3 rfl rfl rfl ?_
      refine a_s rfl rfl ?_
      refine a_l0 rfl rfl rfl ?_
      refine a_getq rfl gfX12_13_12 rfl (rfl) ?_
      refine a_s rfl rfl ?_
      refine a_iald rfl (n := 2033) rfl ⟨by decide, by decide⟩ ?_
      refine a_s rfl rfl ?_
      refine a_eV1 rfl lX12_458 mo_X12_oddsOf (sp_X12_oddsOf (n := j) (m := dN h g) hj6 (by omega)) rfl rfl rfl ⟨12, _, rfl, rfl, rfl⟩ rfl ?_
      refine a_s rfl rfl ?_
      refine a_ic_lt rfl (fun _ => back _) (fun _ => ?_)
      refine a_l4 rfl rfl rfl ?_
      exact a_iret rfl rfl ⟨⟨_, rfl⟩, _, _, rfl, f3⟩
  · refine a_s rfl rfl ?_
    refine a_goto rfl ?_
    refine a_s rfl rfl ?_
    refine a_gV rfl lX12_243 mo_X12_throwsIf (r_X12_throwsIf (b := true)) rfl rfl rfl ⟨12, _, rfl, rfl, rfl⟩ rfl (fun v' h' hv => ?_)
    obtain ⟨rfl, I3, rfl, f3⟩ := hv
    refine a_if_eq rfl (fun c => absurd c (by decide)) (fun _ => ?_)
    exact out (Fm.tr f2 (Fm.mo f3 sU_sV))
end T65
end
section
/-! ===== the reference: ask ===== -/
section T66
variable {S : aS} {I : Nat → Nat → Int32} {L : Nat → Nat → Int64} {w1 w2 t : Nat} {nd np : Nat}
set_option maxRecDepth 100000
theorem r_X12_ask (hr : RI nd np I) (ht : ∃ l, l ≤ 400 ∧ I 420 9 = nI l) : Sp S m_X12_ask 15 0 0 [.ref 420] (hp I L w1 w2 t) (QR (Us nd np I) isI L w1 w2 t) nX := by
  obtain ⟨l, hl4, hl⟩ := ht
  refine Sp_of ok_X12_ask rfl rfl ?_
  show AW S m_X12_ask 15 _ _ 0 0 0 [some (.ref 420), none, none, none, none, none, none, none] [] (hp I L w1 w2 t)
  have f0 : Us nd np I (usH I) := Us.mk hr
  refine a_l0 rfl rfl rfl ?_
  refine a_eV0 rfl lX12_232 mo_X12_uses r_X12_uses rfl rfl rfl ⟨12, _, rfl, rfl, rfl⟩ rfl ?_
  refine a_ren (P := fun J => Us nd np I J ∧ J 420 11 = nI l) ⟨f0, usH_11.trans hl⟩ (fun I1 hI1 => ?_)
  clear f0
  obtain ⟨f1, he⟩ := hI1
  refine a_l0 rfl rfl rfl ?_
  refine a_l0 rfl rfl rfl ?_
  refine a_gV rfl lX12_438 mo_X12_isTold (r_X12_isTold he hl4) rfl rfl rfl ⟨12, _, rfl, rfl, rfl⟩ rfl (fun v' h' hv => ?_)
  obtain ⟨⟨b, rfl⟩, rfl⟩ := hv
  refine a_if_ne rfl (fun _ => ?_) (fun _ => ?_)
  · refine a_s rfl rfl ?_
    refine a_s rfl rfl ?_
    refine a_gV rfl lX12_243 mo_X12_throwsIf (r_X12_throwsIf (b := false)) rfl rfl rfl ⟨12, _, rfl, rfl, rfl⟩ rfl (fun v' h' hv => ?_)
    obtain ⟨rfl, I2, rfl, f2⟩ := hv
    refine a_if_eq rfl (fun _ => ?_) (fun c => absurd (by decide) c)
    have hs2 := (f1.fm f2).2.2.2.so
    have h6 := hs2.p
    refine a_l0 rfl rfl rfl ?_
    refine a_gV rfl lX12_441 mo_X12_allThatFit (r_X12_allThatFit hs2 ((f2 420 11 rfl).trans he) hl4) rfl rfl rfl ⟨12, _, rfl, rfl, rfl⟩ rfl (fun v' h' hv => ?_)
    obtain ⟨⟨v, rfl⟩, rfl⟩ := hv
    refine a_s1 rfl rfl rfl rfl rfl rfl ?_
    refine a_l1 rfl rfl rfl ?_
    refine a_eS1 rfl lX12_310 mo_J6_bitCount_0f7a4 (sp_bitCount) rfl rfl rfl rfl ?_
    refine a_s2 rfl rfl rfl rfl rfl rfl ?_
    refine a_s rfl rfl ?_
    refine a_s3 rfl rfl rfl rfl rfl rfl ?_
    refine a_ldcw rfl kX12_401 ?_
    refine a_s4 rfl rfl rfl rfl rfl rfl ?_
    refine a_s rfl rfl ?_
    refine a_s5 rfl rfl rfl rfl rfl rfl ?_
    refine a_cnt (j0 := 0) (fun j ls h => ∃ a b, ls = [some (.ref 420), some (.int v), some (.int (bcF v)), some (.int a), some (.int b), some (.int (nI j)), none, none] ∧ h = hp I2 L w1 w2 t) (by decide) ⟨_, _, rfl, rfl⟩ ⟨rfl, rfl, rfl, rfl, rfl, rfl, trivial⟩ ?_
    rintro j _ _ hj ⟨a, b, rfl, rfl⟩ ih
    have out : ∀ {y6 y7 : Option Value} {a b c : Int32}, AW S m_X12_ask 15 (QR (Us nd np I) isI L w1 w2 t) nX 0 0 150 [some (.ref 420), some (.int v), some (.int (bcF v)), some (.int a), some (.int b), some (.int c), y6, y7] [] (hp I2 L w1 w2 t) := by
      intro y6 y7 a b c
      refine a_l3 rfl rfl rfl ?_
      exact a_iret rfl rfl ⟨⟨_, rfl⟩, _, rfl, f1.fm f2⟩
    refine a_l5 rfl rfl rfl ?_
    refine a_s rfl rfl ?_
    refine a_ic_ge rfl (fun _ => out) (fun c15 => ?_)
    refine a_l2 rfl rfl rfl ?_
    refine a_s rfl rfl ?_
    refine a_ic_le rfl (fun _ => out) (fun _ => ?_)
    refine a_s rfl rfl ?_
    refine a_s6 rfl rfl rfl rfl rfl rfl ?_
    refine a_s rfl rfl ?_
    refine a_s7 rfl rfl rfl rfl rfl rfl ?_
    refine a_cnt (j0 := 0) (fun p ls h => ∃ y, ls = [some (.ref 420), some (.int v), some (.int (bcF v)), some (.int a), some (.int b), some (.int (nI j)), some (.int y), some (.int (nI p))] ∧ h = hp I2 L w1 w2 t) (by decide) ⟨_, rfl, rfl⟩ ⟨rfl, rfl, rfl, rfl, rfl, rfl, rfl, rfl, trivial⟩ ?_
    rintro p _ _ hp4 ⟨y, rfl, rfl⟩ ih2
    refine a_l7 rfl rfl rfl ?_
    refine a_l0 rfl rfl rfl ?_
    refine a_eV1 rfl lX12_66 mo_X12_people sp_X12_people rfl rfl rfl ⟨12, _, rfl, rfl, rfl⟩ rfl ?_
    refine a_top (y := nI np) hs2.pu ?_
    refine a_ic_ge rfl (fun c => ?_) (fun c => ?_)
    · refine a_l6 rfl rfl rfl ?_
      refine a_l2 rfl rfl rfl ?_
      refine a_l6 rfl rfl rfl ?_
      refine a_s rfl rfl ?_
      refine a_max rfl lX12_265 mj_max rfl rfl ?_
      refine a_s7 rfl rfl rfl rfl rfl rfl ?_
      refine a_l7 rfl rfl rfl ?_
      refine a_l4 rfl rfl rfl ?_
      have fin : ∀ {x z : Int32}, AW S m_X12_ask 15 (QR (Us nd np I) isI L w1 w2 t) nX 0 0 134 [some (.ref 420), some (.int v), some (.int (bcF v)), some (.int a), some (.int b), some (.int (nI j)), some (.int y), some (.int x)] [.int z] (hp I2 L w1 w2 t) := by
        intro x z
        refine a_s3 rfl rfl rfl rfl rfl rfl ?_
        refine a_l4 rfl rfl rfl ?_
        refine a_l7 rfl rfl rfl ?_
        refine a_min rfl lX12_295 mj_min rfl rfl ?_
        refine a_s4 rfl rfl rfl rfl rfl rfl ?_
        refine a_i5 rfl rfl rfl ?_
        refine a_goto rfl ?_
        exact ih _ _ _ _ c15 ⟨_, _, rfl, rfl⟩ ⟨rfl, rfl, rfl, rfl, rfl, nS _, trivial⟩
      refine a_ic_ge rfl (fun _ => ?_) (fun _ => ?_)
      · refine a_l3 rfl rfl rfl ?_
        exact fin
      · refine a_l5 rfl rfl rfl ?_
        refine a_goto rfl ?_
        exact fin
    · have hpp : p < np := nI_lt_of c hp4 (by omega)
      have fin : ∀ {x : Int32}, AW S m_X12_ask 15 (QR (Us nd np I) isI L w1 w2 t) nX 0 0 101 [some (.ref 420), some (.int v), some (.int (bcF v)), some (.int a), some (.int b), some (.int (nI j)), some (.int y), some (.int (nI p))] [.int x, .int y] (hp I2 L w1 w2 t) := by
        intro x
        refine a_s rfl rfl ?_
        refine a_s6 rfl rfl rfl rfl rfl rfl ?_
        refine a_i7 rfl rfl rfl ?_
        refine a_goto rfl ?_
        exact ih2 _ _ _ _ c ⟨_, rfl, rfl⟩ ⟨rfl, rfl, rfl, rfl, rfl, rfl, rfl, nS _, trivial⟩
      refine a_l6 rfl rfl rfl ?_
      refine a_l1 rfl rfl rfl ?_
      refine a_l7 rfl rfl rfl ?_
      refine a_eS1 rfl lX12_304 mo_X12_has (sp_X12_has) rfl rfl rfl rfl ?_
      refine a_if_eq rfl (fun _ => ?_) (fun _ => ?_)
      · refine a_s rfl rfl ?_
        exact fin
      · refine a_l0 rfl rfl rfl ?_
        refine a_l7 rfl rfl rfl ?_
        refine a_s rfl rfl ?_
        refine a_eV1 rfl lX12_252 mo_X12_ofPerson (sp_X12_ofPerson (d := p) (k := 0) (by omega) (by decide)) rfl rfl rfl ⟨12, _, rfl, rfl, rfl⟩ rfl ?_
        refine a_l5 rfl rfl rfl ?_
        refine a_ic_gt rfl (fun _ => ?_) (fun _ => ?_)
        · refine a_s rfl rfl ?_
          exact fin
        · refine a_s rfl rfl ?_
          refine a_goto rfl ?_
          exact fin
  · refine a_s rfl rfl ?_
    refine a_goto rfl ?_
    refine a_s rfl rfl ?_
    refine a_gV rfl lX12_243 mo_X12_throwsIf (r_X12_throwsIf (b := true)) rfl rfl rfl ⟨12, _, rfl, rfl, rfl⟩ rfl (fun v' h' hv => ?_)
    obtain ⟨rfl, I2, rfl, f2⟩ := hv
    refine a_if_eq rfl (fun c => absurd c (by decide)) (fun _ => ?_)
    refine a_s rfl rfl ?_
    exact a_iret rfl rfl ⟨⟨_, rfl⟩, _, rfl, f1.fm f2⟩
end T66
end
section
/-! ===== the reference: the text, sign by sign ===== -/
section T67
variable {S : aS} {I : Nat → Nat → Int32} {L : Nat → Nat → Int64} {w1 w2 t : Nat} {e p : Nat}
set_option maxRecDepth 100000
/-- the point and the end of what is read -/
def Pp (e p : Nat) (J : Nat → Nat → Int32) : Prop := J 420 10 = nI p ∧ J 420 11 = nI e ∧ p ≤ e ∧ e ≤ 400
def sR (q k : Nat) : Bool := Nat.beq q 420 && (Nat.beq k 10 || Nat.beq k 12)
/-- read on from p: the last sign or word or number is that from b to p' -/
def Rd (e p b p' : Nat) (I J : Nat → Nat → Int32) : Prop := Fm sR I J ∧ p ≤ b ∧ b ≤ p' ∧ J 420 12 = nI b ∧ Pp e p' J
theorem Pp.pu {J : Nat → Nat → Int32} (h : Pp e p J) : J 420 10 = nI p := h.1
theorem Pp.en {J : Nat → Nat → Int32} (h : Pp e p J) : J 420 11 = nI e := h.2.1
theorem Pp.le {J : Nat → Nat → Int32} (h : Pp e p J) : p ≤ e := h.2.2.1
theorem Pp.e4 {J : Nat → Nat → Int32} (h : Pp e p J) : e ≤ 400 := h.2.2.2
theorem Pp.to {J : Nat → Nat → Int32} {p0 : Nat} (h : Pp e p J) (h2 : p0 ≤ e) : Pp e p0 (up2 J 420 10 (nI p0)) := ⟨up2_at, (up2_ne (Or.inr (by decide))).trans h.2.1, h2, h.2.2.2⟩
theorem Pp.bg {J : Nat → Nat → Int32} {x : Int32} (h : Pp e p J) : Pp e p (up2 J 420 12 x) := ⟨(up2_ne (Or.inr (by decide))).trans h.1, (up2_ne (Or.inr (by decide))).trans h.2.1, h.2.2.1, h.2.2.2⟩
theorem Rd.fm {b p' : Nat} {J : Nat → Nat → Int32} (h : Rd e p b p' I J) : Fm sR I J := h.1
theorem Rd.pb {b p' : Nat} {J : Nat → Nat → Int32} (h : Rd e p b p' I J) : p ≤ b := h.2.1
theorem Rd.bp {b p' : Nat} {J : Nat → Nat → Int32} (h : Rd e p b p' I J) : b ≤ p' := h.2.2.1
theorem Rd.be {b p' : Nat} {J : Nat → Nat → Int32} (h : Rd e p b p' I J) : J 420 12 = nI b := h.2.2.2.1
theorem Rd.pp {b p' : Nat} {J : Nat → Nat → Int32} (h : Rd e p b p' I J) : Pp e p' J := h.2.2.2.2
theorem Rd.up {b p' : Nat} {J : Nat → Nat → Int32} (h : Rd e p b p' I J) (h2 : p' < e) : Rd e p b (p' + 1) I (up2 J 420 10 (nI (p' + 1))) := by
  have := Rd.bp h
  exact ⟨Fm.up (Rd.fm h) rfl, Rd.pb h, by omega, (up2_ne (Or.inr (by decide))).trans (Rd.be h), Pp.to (Rd.pp h) h2⟩
theorem Rd.rs {b p' : Nat} {J : Nat → Nat → Int32} (h : Rd e p b p' I J) : Rd e p b b I (up2 J 420 10 (nI b)) := by
  have := Rd.bp h
  have := Pp.le (Rd.pp h)
  exact ⟨Fm.up (Rd.fm h) rfl, Rd.pb h, Nat.le_refl _, (up2_ne (Or.inr (by decide))).trans (Rd.be h), Pp.to (Rd.pp h) (by omega)⟩
theorem Rd.tr {b p' b2 p2 : Nat} {J K : Nat → Nat → Int32} (h : Rd e p b p' I J) (h2 : Rd e p' b2 p2 J K) : Rd e p b2 p2 I K := by
  have := Rd.pb h
  have := Rd.bp h
  have := Rd.pb h2
  exact ⟨Fm.tr (Rd.fm h) (Rd.fm h2), by omega, Rd.bp h2, Rd.be h2, Rd.pp h2⟩
theorem r_X12_isAt (hq : Pp e p I) {x y : Int32} : Sp S m_X12_isAt 12 0 0 [.ref 420, .int x, .int y] (hp I L w1 w2 t) (fun v h' => h' = hp I L w1 w2 t ∧ ∃ b, v = some (.int (bI b)) ∧ (b = true → p < e)) nX := by
  obtain ⟨h1, h2, h3, h4⟩ := hq
  refine Sp_of ok_X12_isAt rfl rfl ?_
  show AW S m_X12_isAt 12 _ _ 0 0 0 [some (.ref 420), some (.int x), some (.int y)] [] (hp I L w1 w2 t)
  have no : AW S m_X12_isAt 12 (fun v h' => h' = hp I L w1 w2 t ∧ ∃ b, v = some (.int (bI b)) ∧ (b = true → p < e)) nX 0 0 41 [some (.ref 420), some (.int x), some (.int y)] [] (hp I L w1 w2 t) := by
    refine a_s rfl rfl ?_
    exact a_zret rfl rfl rfl ⟨rfl, false, rfl, fun z => by cases z⟩
  refine a_l0 rfl rfl rfl ?_
  refine a_geti rfl gfX12_81_12 rfl ?_
  refine a_top (y := nI p) (h1) ?_
  refine a_l0 rfl rfl rfl ?_
  refine a_geti rfl gfX12_84_12 rfl ?_
  refine a_top (y := nI e) (h2) ?_
  refine a_ic_ge rfl (fun _ => no) (fun c => ?_)
  have hlt : p < e := nI_lt_of c (by omega) (by omega)
  refine a_l0 rfl rfl rfl ?_
  refine a_getq rfl gfX12_29_12 rfl (rfl) ?_
  refine a_l0 rfl rfl rfl ?_
  refine a_geti rfl gfX12_81_12 rfl ?_
  refine a_top (y := nI p) (h1) ?_
  refine a_bald rfl (n := 400) rfl (inI_nI (by omega) (by omega)) ?_
  refine a_l1 rfl rfl rfl ?_
  refine a_ic_lt rfl (fun _ => no) (fun _ => ?_)
  refine a_l0 rfl rfl rfl ?_
  refine a_getq rfl gfX12_29_12 rfl (rfl) ?_
  refine a_l0 rfl rfl rfl ?_
  refine a_geti rfl gfX12_81_12 rfl ?_
  refine a_top (y := nI p) (h1) ?_
  refine a_bald rfl (n := 400) rfl (inI_nI (by omega) (by omega)) ?_
  refine a_l2 rfl rfl rfl ?_
  refine a_ic_gt rfl (fun _ => no) (fun _ => ?_)
  refine a_s rfl rfl ?_
  refine a_goto rfl ?_
  exact a_zret rfl rfl rfl ⟨rfl, true, rfl, fun _ => hlt⟩
theorem r_X12_blanks (hq : Pp e p I) : Sp S m_X12_blanks 13 0 0 [.ref 420] (hp I L w1 w2 t) (fun v h' => v = none ∧ ∃ J p', h' = hp J L w1 w2 t ∧ Rd e p p' p' I J) nX := by
  refine Sp_of ok_X12_blanks rfl rfl ?_
  show AW S m_X12_blanks 13 _ _ 0 0 0 [some (.ref 420)] [] (hp I L w1 w2 t)
  refine a_inv (n := e - p) (fun m ls h => ls = [some (.ref 420)] ∧ ∃ J p', h = hp J L w1 w2 t ∧ Fm sR I J ∧ p ≤ p' ∧ Pp e p' J ∧ m = e - p') ⟨rfl, I, p, rfl, Fm.rf, Nat.le_refl _, hq, rfl⟩ ?_
  rintro m _ _ ⟨rfl, J, p', rfl, f, hpp, hq', hm⟩ ih
  refine a_l0 rfl rfl rfl ?_
  refine a_s rfl rfl ?_
  refine a_s rfl rfl ?_
  refine a_gV rfl lX12_87 mo_X12_isAt (r_X12_isAt hq') rfl rfl rfl ⟨12, _, rfl, rfl, rfl⟩ rfl (fun v' h' hv => ?_)
  obtain ⟨rfl, b, rfl, hb⟩ := hv
  refine a_if_eq rfl (fun _ => ?_) (fun c => ?_)
  · refine a_l0 rfl rfl rfl ?_
    refine a_l0 rfl rfl rfl ?_
    refine a_geti rfl gfX12_81_12 rfl ?_
    refine a_top (y := nI p') (Pp.pu hq') ?_
    refine a_puti rfl pfX12_91_12 rfl ?_
    exact a_vret rfl rfl ⟨rfl, _, p', rfl, Fm.up f rfl, hpp, Nat.le_refl _, up2_at, Pp.bg hq'⟩
  · have hb' := hb (bI_t c)
    refine a_l0 rfl rfl rfl ?_
    refine a_s rfl rfl ?_
    refine a_geti rfl gfX12_81_12 rfl ?_
    refine a_top (y := nI p') (Pp.pu hq') ?_
    refine a_s rfl rfl ?_
    refine a_s rfl rfl ?_
    refine a_top (y := nI (p' + 1)) ((nI_succ _).symm) ?_
    refine a_puti rfl pfX12_81_12 rfl ?_
    refine a_goto rfl ?_
    exact ih (e - (p' + 1)) _ _ (by omega) ⟨rfl, _, p' + 1, rfl, Fm.up f rfl, by omega, Pp.to hq' hb', rfl⟩
theorem r_X12_letters (hq : Pp e p I) : Sp S m_X12_letters 14 0 0 [.ref 420] (hp I L w1 w2 t) (fun v h' => v = none ∧ ∃ J b p', h' = hp J L w1 w2 t ∧ Rd e p b p' I J) nX := by
  refine Sp_of ok_X12_letters rfl rfl ?_
  show AW S m_X12_letters 14 _ _ 0 0 0 [some (.ref 420)] [] (hp I L w1 w2 t)
  refine a_l0 rfl rfl rfl ?_
  refine a_gV rfl lX12_94 mo_X12_blanks (r_X12_blanks hq) rfl rfl rfl ⟨12, _, rfl, rfl, rfl⟩ rfl (fun v' h' hv => ?_)
  obtain ⟨rfl, J1, b, rfl, h1⟩ := hv
  refine a_inv (n := e - b) (fun m ls h => ls = [some (.ref 420)] ∧ ∃ J p', h = hp J L w1 w2 t ∧ Rd e p b p' I J ∧ m = e - p') ⟨rfl, J1, b, rfl, h1, rfl⟩ ?_
  rintro m _ _ ⟨rfl, J, p', rfl, h, hm⟩ ih
  refine a_l0 rfl rfl rfl ?_
  refine a_s rfl rfl ?_
  refine a_s rfl rfl ?_
  refine a_gV rfl lX12_87 mo_X12_isAt (r_X12_isAt (Rd.pp h)) rfl rfl rfl ⟨12, _, rfl, rfl, rfl⟩ rfl (fun v' h' hv => ?_)
  obtain ⟨rfl, z, rfl, hb⟩ := hv
  refine a_if_eq rfl (fun _ => ?_) (fun c => ?_)
  · exact a_vret rfl rfl ⟨rfl, _, b, p', rfl, h⟩
  · have hb' := hb (bI_t c)
    refine a_l0 rfl rfl rfl ?_
    refine a_s rfl rfl ?_
    refine a_geti rfl gfX12_81_12 rfl ?_
    refine a_top (y := nI p') (Pp.pu (Rd.pp h)) ?_
    refine a_s rfl rfl ?_
    refine a_s rfl rfl ?_
    refine a_top (y := nI (p' + 1)) ((nI_succ _).symm) ?_
    refine a_puti rfl pfX12_81_12 rfl ?_
    refine a_goto rfl ?_
    exact ih (e - (p' + 1)) _ _ (by omega) ⟨rfl, _, p' + 1, rfl, Rd.up h hb', rfl⟩
theorem wLen_pos : ∀ i, i < 27 → 1 ≤ wLen i := by decide +kernel
theorem r_X12_isWord {b k : Nat} (hw : WdS S) (hk : k < 27) (h12 : I 420 12 = nI b) (hbp : b ≤ p) (hq : Pp e p I) : Sp S m_X12_isWord 16 0 0 [.ref 420, .ref (130 + k)] (hp I L w1 w2 t) (fun v h' => h' = hp I L w1 w2 t ∧ ∃ z, v = some (.int (bI z)) ∧ (z = true → b < p)) nX := by
  obtain ⟨h1, h2, h3, h4⟩ := hq
  have hl1 := wLen_pos k hk
  have hl2 := wLen_lt k hk
  refine Sp_of ok_X12_isWord rfl rfl ?_
  show AW S m_X12_isWord 16 _ _ 0 0 0 [some (.ref 420), some (.ref (130 + k)), none, none] [] (hp I L w1 w2 t)
  have key : ∀ z : Bool, (z = true → p - b = wLen k) → AW S m_X12_isWord 16 (fun v h' => h' = hp I L w1 w2 t ∧ ∃ z, v = some (.int (bI z)) ∧ (z = true → b < p)) nX 0 0 21 [some (.ref 420), some (.ref (130 + k)), none, none] [.int (bI z)] (hp I L w1 w2 t) := by
    intro z hz
    refine a_s2 rfl rfl rfl rfl rfl rfl ?_
    refine a_s rfl rfl ?_
    refine a_s3 rfl rfl rfl rfl rfl rfl ?_
    refine a_cnt (j0 := 0) (fun j ls h => ∃ z, ls = [some (.ref 420), some (.ref (130 + k)), some (.int (bI z)), some (.int (nI j))] ∧ h = hp I L w1 w2 t ∧ (z = true → p - b = wLen k)) (by decide) ⟨z, rfl, rfl, hz⟩ ⟨rfl, rfl, rfl, rfl, trivial⟩ ?_
    rintro j _ _ hj ⟨z, rfl, rfl, hz⟩ ih
    have out : AW S m_X12_isWord 16 (fun v h' => h' = hp I L w1 w2 t ∧ ∃ z, v = some (.int (bI z)) ∧ (z = true → b < p)) nX 0 0 67 [some (.ref 420), some (.ref (130 + k)), some (.int (bI z)), some (.int (nI j))] [] (hp I L w1 w2 t) := by
      refine a_l2 rfl rfl rfl ?_
      exact a_zret rfl rfl (bI_nar _) ⟨rfl, z, rfl, fun hz1 => by have := hz hz1; omega⟩
    refine a_l2 rfl rfl rfl ?_
    refine a_if_eq rfl (fun _ => out) (fun c => ?_)
    have hpb := hz (bI_t c)
    refine a_l3 rfl rfl rfl ?_
    refine a_l1 rfl rfl rfl ?_
    refine a_eK1 rfl lX12_97 mo_J0_length_8abf5 (q_strlen hw hk) rfl rfl rfl (hw.so hk) rfl ?_
    refine a_ic_ge rfl (fun _ => out) (fun c2 => ?_)
    have hjl : j < wLen k := nI_lt_of c2 hj hl2
    refine a_l0 rfl rfl rfl ?_
    refine a_getq rfl gfX12_29_12 rfl (rfl) ?_
    refine a_l0 rfl rfl rfl ?_
    refine a_geti rfl gfX12_91_12 rfl ?_
    refine a_top (y := nI b) (h12) ?_
    refine a_l3 rfl rfl rfl ?_
    refine a_s rfl rfl ?_
    refine a_top (y := nI (b + j)) (nI_addl _ _) ?_
    refine a_bald rfl (n := 400) rfl (inI_nI (by omega) (by omega)) ?_
    refine a_l1 rfl rfl rfl ?_
    refine a_l3 rfl rfl rfl ?_
    refine a_eK1 rfl lX12_102 mo_J0_charAt_5068e (q_charAt hw hk hjl) rfl rfl rfl (hw.so hk) rfl ?_
    have back : ∀ z' : Bool, AW S m_X12_isWord 16 (fun v h' => h' = hp I L w1 w2 t ∧ ∃ z, v = some (.int (bI z)) ∧ (z = true → b < p)) nX 0 0 60 [some (.ref 420), some (.ref (130 + k)), some (.int (bI z)), some (.int (nI j))] [.int (bI z')] (hp I L w1 w2 t) := by
      intro z'
      refine a_s2 rfl rfl rfl rfl rfl rfl ?_
      refine a_i3 rfl rfl rfl ?_
      refine a_goto rfl ?_
      exact ih _ _ _ _ c2 ⟨z', rfl, rfl, fun _ => hpb⟩ ⟨rfl, rfl, rfl, nS _, trivial⟩
    refine a_ic_ne rfl (fun _ => ?_) (fun _ => ?_)
    · refine a_s rfl rfl ?_
      exact back false
    · refine a_s rfl rfl ?_
      refine a_goto rfl ?_
      exact back true
  refine a_l0 rfl rfl rfl ?_
  refine a_geti rfl gfX12_81_12 rfl ?_
  refine a_top (y := nI p) (h1) ?_
  refine a_l0 rfl rfl rfl ?_
  refine a_geti rfl gfX12_91_12 rfl ?_
  refine a_top (y := nI b) (h12) ?_
  refine a_s rfl rfl ?_
  refine a_top (y := nI (p - b)) (nI_sub hbp) ?_
  refine a_l1 rfl rfl rfl ?_
  refine a_eK1 rfl lX12_97 mo_J0_length_8abf5 (q_strlen hw hk) rfl rfl rfl (hw.so hk) rfl ?_
  refine a_ic_ne rfl (fun _ => ?_) (fun c => ?_)
  · refine a_s rfl rfl ?_
    exact key false (fun z => by cases z)
  · refine a_s rfl rfl ?_
    refine a_goto rfl ?_
    exact key true (fun _ => nI_inj (by omega) hl2 c)
theorem r_X12_passes {k : Nat} (hw : WdS S) (hk : k < 27) (hq : Pp e p I) : Sp S m_X12_passes 17 0 0 [.ref 420, .ref (130 + k)] (hp I L w1 w2 t) (fun v h' => ∃ z b p' J, v = some (.int (bI z)) ∧ h' = hp J L w1 w2 t ∧ Rd e p b p' I J ∧ (z = true → b < p')) nX := by
  refine Sp_of ok_X12_passes rfl rfl ?_
  show AW S m_X12_passes 17 _ _ 0 0 0 [some (.ref 420), some (.ref (130 + k))] [] (hp I L w1 w2 t)
  refine a_l0 rfl rfl rfl ?_
  refine a_gV rfl lX12_106 mo_X12_letters (r_X12_letters hq) rfl rfl rfl ⟨12, _, rfl, rfl, rfl⟩ rfl (fun v' h' hv => ?_)
  obtain ⟨rfl, J, b, p', rfl, h⟩ := hv
  refine a_l0 rfl rfl rfl ?_
  refine a_l1 rfl rfl rfl ?_
  refine a_gV rfl lX12_109 mo_X12_isWord (r_X12_isWord hw hk (Rd.be h) (Rd.bp h) (Rd.pp h)) rfl rfl rfl ⟨12, _, rfl, rfl, rfl⟩ rfl (fun v' h' hv => ?_)
  obtain ⟨rfl, z, rfl, hz⟩ := hv
  refine a_if_eq rfl (fun _ => ?_) (fun c => ?_)
  · refine a_l0 rfl rfl rfl ?_
    refine a_l0 rfl rfl rfl ?_
    refine a_geti rfl gfX12_91_12 rfl ?_
    refine a_top (y := nI b) (Rd.be h) ?_
    refine a_puti rfl pfX12_81_12 rfl ?_
    refine a_s rfl rfl ?_
    exact a_zret rfl rfl rfl ⟨false, b, b, _, rfl, rfl, Rd.rs h, fun z => by cases z⟩
  · refine a_s rfl rfl ?_
    exact a_zret rfl rfl rfl ⟨true, b, p', J, rfl, rfl, h, fun _ => hz (bI_t c)⟩
theorem r_X12_sign (hq : Pp e p I) {x : Int32} : Sp S m_X12_sign 14 0 0 [.ref 420, .int x] (hp I L w1 w2 t) (fun v h' => ∃ z b p' J, v = some (.int (bI z)) ∧ h' = hp J L w1 w2 t ∧ Rd e p b p' I J ∧ (z = true → b < p')) nX := by
  refine Sp_of ok_X12_sign rfl rfl ?_
  show AW S m_X12_sign 14 _ _ 0 0 0 [some (.ref 420), some (.int x)] [] (hp I L w1 w2 t)
  refine a_l0 rfl rfl rfl ?_
  refine a_gV rfl lX12_94 mo_X12_blanks (r_X12_blanks hq) rfl rfl rfl ⟨12, _, rfl, rfl, rfl⟩ rfl (fun v' h' hv => ?_)
  obtain ⟨rfl, J, b, rfl, h⟩ := hv
  refine a_l0 rfl rfl rfl ?_
  refine a_l1 rfl rfl rfl ?_
  refine a_l1 rfl rfl rfl ?_
  refine a_gV rfl lX12_87 mo_X12_isAt (r_X12_isAt (Rd.pp h)) rfl rfl rfl ⟨12, _, rfl, rfl, rfl⟩ rfl (fun v' h' hv => ?_)
  obtain ⟨rfl, z, rfl, hz⟩ := hv
  refine a_if_ne rfl (fun c => ?_) (fun _ => ?_)
  · refine a_l0 rfl rfl rfl ?_
    refine a_s rfl rfl ?_
    refine a_geti rfl gfX12_81_12 rfl ?_
    refine a_top (y := nI b) (Pp.pu (Rd.pp h)) ?_
    refine a_s rfl rfl ?_
    refine a_s rfl rfl ?_
    refine a_top (y := nI (b + 1)) ((nI_succ _).symm) ?_
    refine a_puti rfl pfX12_81_12 rfl ?_
    refine a_s rfl rfl ?_
    exact a_zret rfl rfl rfl ⟨true, b, b + 1, _, rfl, rfl, Rd.up h (hz (bI_t c)), fun _ => by omega⟩
  · refine a_s rfl rfl ?_
    exact a_zret rfl rfl rfl ⟨false, b, b, J, rfl, rfl, h, fun z => by cases z⟩
theorem r_X12_number (hq : Pp e p I) {x y : Int32} : Sp S m_X12_number 14 0 0 [.ref 420, .int x, .int y] (hp I L w1 w2 t) (fun v h' => ∃ n b p' J, v = some (.int n) ∧ h' = hp J L w1 w2 t ∧ Rd e p b p' I J ∧ (n = -1 ∨ (b < p' ∧ x ≤ n ∧ n ≤ y))) nX := by
  refine Sp_of ok_X12_number rfl rfl ?_
  show AW S m_X12_number 14 _ _ 0 0 0 [some (.ref 420), some (.int x), some (.int y), none] [] (hp I L w1 w2 t)
  refine a_l0 rfl rfl rfl ?_
  refine a_gV rfl lX12_94 mo_X12_blanks (r_X12_blanks hq) rfl rfl rfl ⟨12, _, rfl, rfl, rfl⟩ rfl (fun v' h' hv => ?_)
  obtain ⟨rfl, J1, b, rfl, h1⟩ := hv
  refine a_s rfl rfl ?_
  refine a_s3 rfl rfl rfl rfl rfl rfl ?_
  refine a_inv (n := e - b) (fun m ls h => ∃ a J p', ls = [some (.ref 420), some (.int x), some (.int y), some (.int a)] ∧ h = hp J L w1 w2 t ∧ Rd e p b p' I J ∧ m = e - p') ⟨_, J1, b, rfl, rfl, h1, rfl⟩ ?_
  rintro m _ _ ⟨a, J, p', rfl, rfl, h, hm⟩ ih
  have hbp := Rd.bp h
  have hpe := Pp.le (Rd.pp h)
  have he4 := Pp.e4 (Rd.pp h)
  refine a_l0 rfl rfl rfl ?_
  refine a_s rfl rfl ?_
  refine a_s rfl rfl ?_
  refine a_gV rfl lX12_87 mo_X12_isAt (r_X12_isAt (Rd.pp h)) rfl rfl rfl ⟨12, _, rfl, rfl, rfl⟩ rfl (fun v' h' hv => ?_)
  obtain ⟨rfl, z, rfl, hz⟩ := hv
  refine a_if_eq rfl (fun _ => ?_) (fun c => ?_)
  · have no : AW S m_X12_number 14 (fun v h' => ∃ n b p' J, v = some (.int n) ∧ h' = hp J L w1 w2 t ∧ Rd e p b p' I J ∧ (n = -1 ∨ (b < p' ∧ x ≤ n ∧ n ≤ y))) nX 0 0 99 [some (.ref 420), some (.int x), some (.int y), some (.int a)] [] (hp J L w1 w2 t) := by
      refine a_s rfl rfl ?_
      refine a_goto rfl ?_
      exact a_iret rfl rfl ⟨-1, b, p', J, rfl, rfl, h, Or.inl rfl⟩
    refine a_l0 rfl rfl rfl ?_
    refine a_geti rfl gfX12_81_12 rfl ?_
    refine a_top (y := nI p') (Pp.pu (Rd.pp h)) ?_
    refine a_l0 rfl rfl rfl ?_
    refine a_geti rfl gfX12_91_12 rfl ?_
    refine a_top (y := nI b) (Rd.be h) ?_
    refine a_ic_eq rfl (fun _ => no) (fun cne => ?_)
    have hlt : b < p' := by
      rcases Nat.lt_or_ge b p' with g | g
      · exact g
      · exact absurd (congrArg nI (show p' = b by omega)) cne
    refine a_l0 rfl rfl rfl ?_
    refine a_geti rfl gfX12_81_12 rfl ?_
    refine a_top (y := nI p') (Pp.pu (Rd.pp h)) ?_
    refine a_l0 rfl rfl rfl ?_
    refine a_geti rfl gfX12_91_12 rfl ?_
    refine a_top (y := nI b) (Rd.be h) ?_
    refine a_s rfl rfl ?_
    refine a_s rfl rfl ?_
    refine a_ic_gt rfl (fun _ => no) (fun _ => ?_)
    refine a_l3 rfl rfl rfl ?_
    refine a_l1 rfl rfl rfl ?_
    refine a_ic_lt rfl (fun _ => no) (fun c1 => ?_)
    refine a_l3 rfl rfl rfl ?_
    refine a_l2 rfl rfl rfl ?_
    refine a_ic_le rfl (fun c2 => ?_) (fun _ => no)
    refine a_l3 rfl rfl rfl ?_
    exact a_iret rfl rfl ⟨a, b, p', J, rfl, rfl, h, Or.inr ⟨hlt, Int32.not_lt.mp c1, c2⟩⟩
  · have hb' := hz (bI_t c)
    have back : ∀ a' : Int32, AW S m_X12_number 14 (fun v h' => ∃ n b p' J, v = some (.int n) ∧ h' = hp J L w1 w2 t ∧ Rd e p b p' I J ∧ (n = -1 ∨ (b < p' ∧ x ≤ n ∧ n ≤ y))) nX 0 0 51 [some (.ref 420), some (.int x), some (.int y), some (.int a)] [.int a'] (hp J L w1 w2 t) := by
      intro a'
      refine a_s3 rfl rfl rfl rfl rfl rfl ?_
      refine a_l0 rfl rfl rfl ?_
      refine a_s rfl rfl ?_
      refine a_geti rfl gfX12_81_12 rfl ?_
      refine a_top (y := nI p') (Pp.pu (Rd.pp h)) ?_
      refine a_s rfl rfl ?_
      refine a_s rfl rfl ?_
      refine a_top (y := nI (p' + 1)) ((nI_succ _).symm) ?_
      refine a_puti rfl pfX12_81_12 rfl ?_
      refine a_goto rfl ?_
      exact ih (e - (p' + 1)) _ _ (by omega) ⟨a', _, p' + 1, rfl, rfl, Rd.up h hb', rfl⟩
    refine a_l0 rfl rfl rfl ?_
    refine a_geti rfl gfX12_81_12 rfl ?_
    refine a_top (y := nI p') (Pp.pu (Rd.pp h)) ?_
    refine a_l0 rfl rfl rfl ?_
    refine a_geti rfl gfX12_91_12 rfl ?_
    refine a_top (y := nI b) (Rd.be h) ?_
    refine a_s rfl rfl ?_
    refine a_s rfl rfl ?_
    refine a_ic_ge rfl (fun _ => ?_) (fun _ => ?_)
    · refine a_l3 rfl rfl rfl ?_
      exact back a
    · refine a_s rfl rfl ?_
      refine a_l3 rfl rfl rfl ?_
      refine a_s rfl rfl ?_
      refine a_l0 rfl rfl rfl ?_
      refine a_getq rfl gfX12_29_12 rfl (rfl) ?_
      refine a_l0 rfl rfl rfl ?_
      refine a_geti rfl gfX12_81_12 rfl ?_
      refine a_top (y := nI p') (Pp.pu (Rd.pp h)) ?_
      refine a_bald rfl (n := 400) rfl (inI_nI (by omega) (by omega)) ?_
      refine a_s rfl rfl ?_
      refine a_s rfl rfl ?_
      refine a_s rfl rfl ?_
      refine a_goto rfl ?_
      exact back _
theorem r_X12_numberBehind {k : Nat} (hw : WdS S) (hk : k < 27) (hq : Pp e p I) {x y : Int32} : Sp S m_X12_numberBehind 17 0 0 [.ref 420, .ref (130 + k), .int x, .int y] (hp I L w1 w2 t) (fun v h' => ∃ n b p' J, v = some (.int n) ∧ h' = hp J L w1 w2 t ∧ Rd e p b p' I J ∧ (n = -1 ∨ (b < p' ∧ x ≤ n ∧ n ≤ y))) nX := by
  refine Sp_of ok_X12_numberBehind rfl rfl ?_
  show AW S m_X12_numberBehind 17 _ _ 0 0 0 [some (.ref 420), some (.ref (130 + k)), some (.int x), some (.int y)] [] (hp I L w1 w2 t)
  refine a_l0 rfl rfl rfl ?_
  refine a_gV rfl lX12_106 mo_X12_letters (r_X12_letters hq) rfl rfl rfl ⟨12, _, rfl, rfl, rfl⟩ rfl (fun v' h' hv => ?_)
  obtain ⟨rfl, J, b, p', rfl, h⟩ := hv
  refine a_l0 rfl rfl rfl ?_
  refine a_l1 rfl rfl rfl ?_
  refine a_gV rfl lX12_109 mo_X12_isWord (r_X12_isWord hw hk (Rd.be h) (Rd.bp h) (Rd.pp h)) rfl rfl rfl ⟨12, _, rfl, rfl, rfl⟩ rfl (fun v' h' hv => ?_)
  obtain ⟨rfl, z, rfl, hz⟩ := hv
  refine a_if_eq rfl (fun _ => ?_) (fun c => ?_)
  · refine a_s rfl rfl ?_
    exact a_iret rfl rfl ⟨-1, b, p', J, rfl, rfl, h, Or.inl rfl⟩
  · refine a_l0 rfl rfl rfl ?_
    refine a_l2 rfl rfl rfl ?_
    refine a_l3 rfl rfl rfl ?_
    refine a_gV rfl lX12_113 mo_X12_number (r_X12_number (Rd.pp h)) rfl rfl rfl ⟨12, _, rfl, rfl, rfl⟩ rfl (fun v' h' hv => ?_)
    obtain ⟨n, b2, p2, J2, rfl, rfl, h2, hn⟩ := hv
    refine a_goto rfl ?_
    exact a_iret rfl rfl ⟨n, b2, p2, J2, rfl, rfl, Rd.tr h h2, hn⟩
end T67
end
section
/-! ===== the reference: the street's lines ===== -/
section T68
variable {S : aS} {I : Nat → Nat → Int32} {L : Nat → Nat → Int64} {w1 w2 t : Nat} {e p nd np : Nat}
set_option maxRecDepth 100000
def stC (k : Nat) : Bool := Nat.blt k 95 && !(Nat.beq k 3 || Nat.beq k 9)
/-- what reading a street may change -/
def sS (q k : Nat) : Bool := sR q k || (Nat.beq q 421 && stC k)
theorem sR_sS : ∀ q k, sR q k = true → sS q k = true := fun q k h => by
  unfold sS
  rw [h]
  rfl
theorem sS_at {k : Nat} (h : stC k = true) : sS 421 k = true := by
  unfold sS
  rw [h]
  rfl
theorem stC_of : ∀ k, k < 95 → k ≠ 3 → k ≠ 9 → stC k = true := by decide +kernel
/-- ranges that a street's lines keep -/
def SF (nd np : Nat) (J : Nat → Nat → Int32) : Prop := SO nd np (J 421) ∧ FrW np (J 421)
def Rs (e p p' : Nat) (I J : Nat → Nat → Int32) : Prop := Fm sS I J ∧ (∃ nd np, SF nd np J) ∧ p ≤ p' ∧ Pp e p' J
theorem Rd.w {b p' : Nat} {J : Nat → Nat → Int32} (h : Rd e p b p' I J) : J 421 = I 421 := funext fun k => Rd.fm h 421 k rfl
theorem SF.eq {J : Nat → Nat → Int32} (h : SF nd np I) (e : J 421 = I 421) : SF nd np J := by
  unfold SF
  rw [e]
  exact h
theorem Rs.of {b p' : Nat} {J : Nat → Nat → Int32} (h : Rd e p b p' I J) (s : SF nd np I) : Rs e p p' I J := ⟨Fm.mo (Rd.fm h) sR_sS, ⟨nd, np, SF.eq s (Rd.w h)⟩, Nat.le_trans (Rd.pb h) (Rd.bp h), Rd.pp h⟩
theorem Rs.tr {p1 p' : Nat} {J K : Nat → Nat → Int32} (h : Rs e p p1 I J) (h2 : Rs e p1 p' J K) : Rs e p p' I K := ⟨Fm.tr h.1 h2.1, h2.2.1, Nat.le_trans h.2.2.1 h2.2.2.1, h2.2.2.2⟩
theorem Rs.td {b p1 p' : Nat} {J K : Nat → Nat → Int32} (h : Rd e p b p1 I J) (h2 : Rs e p1 p' J K) : Rs e p p' I K := ⟨Fm.tr (Fm.mo (Rd.fm h) sR_sS) h2.1, h2.2.1, Nat.le_trans (Nat.le_trans (Rd.pb h) (Rd.bp h)) h2.2.2.1, h2.2.2.2⟩
/-- the world is written at some places; the tape is not -/
theorem Rs.wr {J : Nat → Nat → Int32} (hq : Pp e p I) (f : Fm sS I J) (h0 : J 420 = I 420) (s : ∃ nd np, SF nd np J) : Rs e p p I J := ⟨f, s, Nat.le_refl _, by unfold Pp; rw [h0]; exact hq⟩
theorem le0 {x y : Int32} (h1 : 0 ≤ x) (h2 : x ≤ y) : inB x 0 y = true := decide_eq_true ⟨h1, h2⟩
theorem nmN {x : Int32} {b p' m : Nat} (hm : m < 2 ^ 31) (h : x = -1 ∨ (b < p' ∧ 0 ≤ x ∧ x ≤ nI m)) : x = -1 ∨ ∃ k, k ≤ m ∧ x = nI k := by
  rcases h with h | ⟨-, h1, h2⟩
  · exact Or.inl h
  · obtain ⟨k, -, hk, rfl⟩ := inB_nI (a := 0) (b := m) ⟨by decide, hm⟩ (le0 h1 h2)
    exact Or.inr ⟨k, hk, rfl⟩
theorem nmI {x : Int32} {b p' n : Nat} (hn : n < 2 ^ 31) (h : x = -1 ∨ (b < p' ∧ 0 ≤ x ∧ x ≤ nI n - 1)) : x = -1 ∨ ∃ k, k < n ∧ x = nI k := by
  rcases h with h | ⟨-, h1, h2⟩
  · exact Or.inl h
  · refine Or.inr (isIx hn ?_)
    rw [le0 h1 h2]
    rfl
theorem SO.pers {W W' : Nat → Int32} (h : SO nd np W) (hf : FrW np W) (h6 : np < 6) {f : Nat} (hf9 : f ≤ 9) (e0 : W' 0 = nI (np + 1)) (e1 : W' (11 + 2 * np + 1) = nI f) (eo : ∀ k, k ≠ 0 → k ≠ 11 + 2 * np → k ≠ 11 + 2 * np + 1 → W' k = W k) : SO nd (np + 1) W' ∧ FrW (np + 1) W' := by
  have hn := h.n
  refine ⟨⟨h.n, by omega, (eo 1 (by omega) (by omega) (by omega)).trans h.du, e0, fun d hd => ?_, fun d hd => ?_, fun d hd => ?_, fun z => h.h7 ((eo 7 (by omega) (by omega) (by omega)).symm.trans z)⟩, fun q hq => ?_⟩
  · rw [show vd W' 4 d = vd W 4 d from eo _ (by omega) (by omega) (by omega)]
    exact h.l d hd
  · rw [show vd W' 0 d = vd W 0 d from eo _ (by omega) (by omega) (by omega)]
    obtain ⟨p, g1, g2⟩ := h.o d hd
    exact ⟨p, by omega, g2⟩
  · rw [show vd W' 3 d = vd W 3 d from eo _ (by omega) (by omega) (by omega)]
    exact h.t d hd
  · by_cases c : q = np
    · subst c
      exact ⟨f, hf9, e1⟩
    · obtain ⟨g, g1, g2⟩ := hf q (by omega)
      exact ⟨g, g1, (eo _ (by omega) (by omega) (by omega)).trans g2⟩
theorem SO.duty {W W' : Nat → Int32} (h : SO nd np W) (hf : FrW np W) (h12 : nd < 12) {j : Nat} {x3 x4 : Int32} (hj : j < np) (h3 : x3 = -1 ∨ ∃ k, k < 6 ∧ x3 = nI k) (h4 : x4 = -1 ∨ ∃ k, k < nd ∧ x4 = nI k) (e1 : W' 1 = nI (nd + 1)) (d0 : W' (23 + 6 * nd + 0) = nI j) (d3 : W' (23 + 6 * nd + 3) = x3) (d4 : W' (23 + 6 * nd + 4) = x4) (eo : ∀ k, k ≠ 1 → k < 23 + 6 * nd → W' k = W k) : SO (nd + 1) np W' ∧ FrW np W' := by
  have hn := h.n
  have h6 := h.p
  refine ⟨⟨by omega, h.p, e1, (eo 0 (by omega) (by omega)).trans h.pu, fun d hd => ?_, fun d hd => ?_, fun d hd => ?_, fun z => h.h7 ((eo 7 (by omega) (by omega)).symm.trans z)⟩, fun q hq => ?_⟩
  · by_cases c : d = nd
    · subst c
      rcases h4 with z | ⟨k, k1, k2⟩
      · exact Or.inl (d4.trans z)
      · exact Or.inr ⟨k, by omega, d4.trans k2⟩
    · rw [show vd W' 4 d = vd W 4 d from eo _ (by omega) (by omega)]
      rcases h.l d (by omega) with z | ⟨k, k1, k2⟩
      · exact Or.inl z
      · exact Or.inr ⟨k, by omega, k2⟩
  · by_cases c : d = nd
    · subst c
      exact ⟨j, hj, d0⟩
    · rw [show vd W' 0 d = vd W 0 d from eo _ (by omega) (by omega)]
      exact h.o d (by omega)
  · by_cases c : d = nd
    · subst c
      rw [show vd W' 3 d = x3 from d3]
      exact h3
    · rw [show vd W' 3 d = vd W 3 d from eo _ (by omega) (by omega)]
      exact h.t d (by omega)
  · obtain ⟨g, g1, g2⟩ := hf q hq
    exact ⟨g, g1, (eo _ (by omega) (by omega)).trans g2⟩
/-- a line of the street: read, well or not -/
def QL (e p : Nat) (I : Nat → Nat → Int32) (L : Nat → Nat → Int64) (w1 w2 t : Nat) : Option Value → aH → Prop := fun v h' => ∃ z p' J, v = some (.int (bI z)) ∧ h' = hp J L w1 w2 t ∧ Rs e p p' I J
theorem QL.td {b p1 : Nat} {J : Nat → Nat → Int32} (h : Rd e p b p1 I J) {v : Option Value} {h' : aH} (h2 : QL e p1 J L w1 w2 t v h') : QL e p I L w1 w2 t v h' := by
  obtain ⟨z, p', K, e1, e2, e3⟩ := h2
  exact ⟨z, p', K, e1, e2, Rs.td h e3⟩
theorem QL.re (hq : Pp e p I) (s : SF nd np I) {z : Bool} : QL e p I L w1 w2 t (some (.int (bI z))) (hp I L w1 w2 t) := ⟨z, p, I, rfl, rfl, Rs.wr hq Fm.rf rfl ⟨nd, np, s⟩⟩
theorem QL.rd {b p' : Nat} {J : Nat → Nat → Int32} (h : Rd e p b p' I J) (s : SF nd np I) {z : Bool} : QL e p I L w1 w2 t (some (.int (bI z))) (hp J L w1 w2 t) := ⟨z, p', J, rfl, rfl, Rs.of h s⟩
theorem r_X12_readPerson (hw : WdS S) (s : SF nd np I) (hq : Pp e p I) : Sp S m_X12_readPerson 18 0 0 [.ref 420] (hp I L w1 w2 t) (QL e p I L w1 w2 t) nX := by
  have hs := s.1
  have h6 := hs.p
  refine Sp_of ok_X12_readPerson rfl rfl ?_
  show AW S m_X12_readPerson 18 _ _ 0 0 0 [some (.ref 420), none, none, none] [] (hp I L w1 w2 t)
  refine a_l0 rfl rfl rfl ?_
  refine a_eV1 rfl lX12_66 mo_X12_people sp_X12_people rfl rfl rfl ⟨12, _, rfl, rfl, rfl⟩ rfl ?_
  refine a_top (y := nI np) (hs.pu) ?_
  refine a_s1 rfl rfl rfl rfl rfl rfl ?_
  refine a_l1 rfl rfl rfl ?_
  refine a_s rfl rfl ?_
  refine a_ic_ne rfl (fun c => ?_) (fun _ => ?_)
  · have hlt : np < 6 := by
      rcases Nat.lt_or_ge np 6 with g | g
      · exact g
      · exact absurd (congrArg nI (show np = 6 by omega)) c
    refine a_l0 rfl rfl rfl ?_
    refine a_ldcs (q := 130 + 1) rfl (hw.ld (i := 1) (by decide)) ?_
    refine a_s rfl rfl ?_
    refine a_s rfl rfl ?_
    refine a_gV rfl lX12_117 mo_X12_numberBehind (r_X12_numberBehind (k := 1) hw (by decide) hq) rfl rfl rfl ⟨12, _, rfl, rfl, rfl⟩ rfl (fun v' h' hv => ?_)
    obtain ⟨n, b1, p1, J1, rfl, rfl, h1, -⟩ := hv
    refine a_s2 rfl rfl rfl rfl rfl rfl ?_
    refine a_l2 rfl rfl rfl ?_
    have key : ∀ {y : Int32} {b p' : Nat} {J : Nat → Nat → Int32}, Rd e p b p' I J → (y = -1 ∨ ∃ k, k ≤ 9 ∧ y = nI k) → AW S m_X12_readPerson 18 (QL e p I L w1 w2 t) nX 0 0 40 [some (.ref 420), some (.int (nI np)), some (.int n), none] [.int y] (hp J L w1 w2 t) := by
      intro y b p' J h hy
      refine a_s3 rfl rfl rfl rfl rfl rfl ?_
      refine a_l3 rfl rfl rfl ?_
      refine a_if_ge rfl (fun c => ?_) (fun _ => ?_)
      · obtain ⟨f, hf, rfl⟩ := hy.resolve_left (fun z => by subst z; exact absurd c (by decide))
        refine a_l0 rfl rfl rfl ?_
        refine a_getq rfl gfX12_13_12 rfl (rfl) ?_
        refine a_l1 rfl rfl rfl ?_
        refine a_s rfl rfl ?_
        refine a_eS1 rfl lX12_56 mo_X12_personAt (sp_X12_personAt (d := np) (k := 0)) rfl rfl rfl rfl ?_
        refine a_l2 rfl rfl rfl ?_
        refine a_iastv (k := 11 + 2 * np) rfl (n := 2033) rfl (inI_nI (by omega) (by omega)) (nI_clamp (by omega)) ?_
        refine a_l0 rfl rfl rfl ?_
        refine a_getq rfl gfX12_13_12 rfl (rfl) ?_
        refine a_l1 rfl rfl rfl ?_
        refine a_s rfl rfl ?_
        refine a_eS1 rfl lX12_56 mo_X12_personAt (sp_X12_personAt (d := np) (k := 1)) rfl rfl rfl rfl ?_
        refine a_l3 rfl rfl rfl ?_
        refine a_iastv (k := 11 + 2 * np + 1) rfl (n := 2033) rfl (inI_nI (by omega) (by omega)) (nI_clamp (by omega)) ?_
        refine a_l0 rfl rfl rfl ?_
        refine a_getq rfl gfX12_13_12 rfl (rfl) ?_
        refine a_s rfl rfl ?_
        refine a_s rfl rfl ?_
        refine a_ialdv (v := nI np) rfl (n := 2033) rfl ⟨by decide, by decide⟩ ?_ ?_
        · show up2 (up2 J 421 (11 + 2 * np) n) 421 (11 + 2 * np + 1) (nI f) 421 0 = nI np
          rw [u2_lo (by omega), u2_lo (by omega), Rd.w h]
          exact hs.pu
        · refine a_s rfl rfl ?_
          refine a_s rfl rfl ?_
          refine a_top (y := nI (np + 1)) ((nI_succ _).symm) ?_
          refine a_iastv (k := 0) rfl (n := 2033) rfl ⟨by decide, by decide⟩ rfl ?_
          refine a_s rfl rfl ?_
          have sp := SO.pers (W' := up2 (up2 (up2 J 421 (11 + 2 * np) n) 421 (11 + 2 * np + 1) (nI f)) 421 0 (nI (np + 1)) 421) hs s.2 hlt hf up2_at ((u2_lo (by omega)).trans up2_at) (fun k k0 k1 k2 => by
            rw [u2_lo k0, u2_lo k2, u2_lo k1, Rd.w h])
          have f1 : Fm sS I (up2 (up2 (up2 J 421 (11 + 2 * np) n) 421 (11 + 2 * np + 1) (nI f)) 421 0 (nI (np + 1))) := Fm.up (Fm.up (Fm.up (Fm.mo (Rd.fm h) sR_sS) (sS_at (stC_of _ (by omega) (by omega) (by omega)))) (sS_at (stC_of _ (by omega) (by omega) (by omega)))) (sS_at rfl)
          have hle := Nat.le_trans (Rd.pb h) (Rd.bp h)
          refine a_zret rfl rfl rfl ⟨true, p', _, rfl, rfl, f1, ⟨nd, np + 1, sp⟩, hle, ?_⟩
          unfold Pp
          rw [up2_row (by decide), up2_row (by decide), up2_row (by decide)]
          exact Rd.pp h
      · refine a_s rfl rfl ?_
        exact a_zret rfl rfl rfl (QL.rd (z := false) h s)
    refine a_if_ge rfl (fun _ => ?_) (fun _ => ?_)
    · refine a_l0 rfl rfl rfl ?_
      refine a_ldcs (q := 130 + 2) rfl (hw.ld (i := 2) (by decide)) ?_
      refine a_s rfl rfl ?_
      refine a_s rfl rfl ?_
      refine a_gV rfl lX12_117 mo_X12_numberBehind (r_X12_numberBehind (k := 2) hw (by decide) (Rd.pp h1)) rfl rfl rfl ⟨12, _, rfl, rfl, rfl⟩ rfl (fun v' h' hv => ?_)
      obtain ⟨y, b2, p2, J2, rfl, rfl, h2, hy⟩ := hv
      exact key (Rd.tr h1 h2) (nmN (m := 9) (by decide) hy)
    · refine a_s rfl rfl ?_
      refine a_goto rfl ?_
      exact key h1 (Or.inl rfl)
  · refine a_s rfl rfl ?_
    exact a_zret rfl rfl rfl (QL.re (z := false) hq s)
theorem r_X12_readNumber {i : Nat} (h4 : 4 ≤ i) (h8 : i ≤ 8) {x y : Int32} (h7 : i = 7 → 0 < x) (s : SF nd np I) (hq : Pp e p I) : Sp S m_X12_readNumber 15 0 0 [.ref 420, .int (nI i), .int x, .int y] (hp I L w1 w2 t) (QL e p I L w1 w2 t) nX := by
  have hs := s.1
  have hn := hs.n
  have h6 := hs.p
  refine Sp_of ok_X12_readNumber rfl rfl ?_
  show AW S m_X12_readNumber 15 _ _ 0 0 0 [some (.ref 420), some (.int (nI i)), some (.int x), some (.int y), none] [] (hp I L w1 w2 t)
  refine a_l0 rfl rfl rfl ?_
  refine a_l2 rfl rfl rfl ?_
  refine a_l3 rfl rfl rfl ?_
  refine a_gV rfl lX12_113 mo_X12_number (r_X12_number hq) rfl rfl rfl ⟨12, _, rfl, rfl, rfl⟩ rfl (fun v' h' hv => ?_)
  obtain ⟨n, b, p', J, rfl, rfl, h, hv⟩ := hv
  refine a_s4 rfl rfl rfl rfl rfl rfl ?_
  refine a_l0 rfl rfl rfl ?_
  refine a_getq rfl gfX12_13_12 rfl (rfl) ?_
  refine a_l1 rfl rfl rfl ?_
  refine a_l4 rfl rfl rfl ?_
  have key : ∀ v : Int32, (i = 7 → ¬ v = 0) → AW S m_X12_readNumber 15 (QL e p I L w1 w2 t) nX 0 0 29 [some (.ref 420), some (.int (nI i)), some (.int x), some (.int y), some (.int n)] [.int v, .int (nI i), .ref 421] (hp J L w1 w2 t) := by
    intro v hv7
    refine a_iastv (k := i) rfl (n := 2033) rfl (inI_nI (by omega) (by omega)) (nI_clamp (by omega)) ?_
    have hle := Nat.le_trans (Rd.pb h) (Rd.bp h)
    have fin : ∀ z : Bool, QL e p I L w1 w2 t (some (.int (bI z))) (hp (up2 J 421 i v) L w1 w2 t) := by
      intro z
      refine ⟨z, p', _, rfl, rfl, Fm.up (Fm.mo (Rd.fm h) sR_sS) (sS_at (stC_of _ (by omega) (by omega) (by omega))), ⟨nd, np, ?_, ?_⟩, hle, ?_⟩
      · have eo : ∀ k, k ≠ i → up2 J 421 i v 421 k = I 421 k := fun k hk => by rw [u2_lo hk, Rd.w h]
        refine ⟨hs.n, hs.p, (eo 1 (by omega)).trans hs.du, (eo 0 (by omega)).trans hs.pu, fun d hd => ?_, fun d hd => ?_, fun d hd => ?_, fun z => ?_⟩
        · rw [show vd (up2 J 421 i v 421) 4 d = vd (I 421) 4 d from eo _ (by omega)]
          exact hs.l d hd
        · rw [show vd (up2 J 421 i v 421) 0 d = vd (I 421) 0 d from eo _ (by omega)]
          exact hs.o d hd
        · rw [show vd (up2 J 421 i v 421) 3 d = vd (I 421) 3 d from eo _ (by omega)]
          exact hs.t d hd
        · by_cases c : i = 7
          · subst c
            rw [up2_at] at z
            exact hv7 rfl z
          · exact hs.h7 ((eo 7 (by omega)).symm.trans z)
      · intro q hq'
        obtain ⟨g, g1, g2⟩ := s.2 q hq'
        exact ⟨g, g1, ((u2_lo (by omega)).trans (congrFun (Rd.w h) _)).trans g2⟩
      · unfold Pp
        rw [up2_row (by decide)]
        exact Rd.pp h
    refine a_l4 rfl rfl rfl ?_
    refine a_if_lt rfl (fun _ => ?_) (fun _ => ?_)
    · refine a_s rfl rfl ?_
      exact a_zret rfl rfl rfl (fin false)
    · refine a_s rfl rfl ?_
      refine a_goto rfl ?_
      exact a_zret rfl rfl rfl (fin true)
  refine a_if_ge rfl (fun c => ?_) (fun _ => ?_)
  · refine a_l4 rfl rfl rfl ?_
    refine key n (fun h7' z => ?_)
    subst z
    rcases hv with g | ⟨-, g, -⟩
    · exact absurd g (by decide)
    · exact absurd (h7 h7') (Int32.not_lt.mpr g)
  · refine a_l0 rfl rfl rfl ?_
    refine a_getq rfl gfX12_13_12 rfl (rfl) ?_
    refine a_l1 rfl rfl rfl ?_
    refine a_ialdv (v := I 421 i) rfl (n := 2033) rfl (inI_nI (by omega) (by omega)) (by rw [nI_clamp (by omega), Rd.w h]) ?_
    refine a_goto rfl ?_
    exact key _ (fun h7' z => by subst h7'; exact hs.h7 z)
theorem r_X12_readForgotten (s : SF nd np I) (hq : Pp e p I) : Sp S m_X12_readForgotten 15 0 0 [.ref 420] (hp I L w1 w2 t) (QL e p I L w1 w2 t) nX := by
  have hs := s.1
  have hn := hs.n
  have h6 := hs.p
  refine Sp_of ok_X12_readForgotten rfl rfl ?_
  show AW S m_X12_readForgotten 15 _ _ 0 0 0 [some (.ref 420), none] [] (hp I L w1 w2 t)
  refine a_l0 rfl rfl rfl ?_
  refine a_s rfl rfl ?_
  refine a_l0 rfl rfl rfl ?_
  refine a_eV1 rfl lX12_74 mo_X12_duties sp_X12_duties rfl rfl rfl ⟨12, _, rfl, rfl, rfl⟩ rfl ?_
  refine a_top (y := nI nd) (hs.du) ?_
  refine a_s rfl rfl ?_
  refine a_s rfl rfl ?_
  refine a_gV rfl lX12_113 mo_X12_number (r_X12_number hq) rfl rfl rfl ⟨12, _, rfl, rfl, rfl⟩ rfl (fun v' h' hv => ?_)
  obtain ⟨n, b, p', J, rfl, rfl, h, hv⟩ := hv
  replace hv := nmI (by omega) hv
  have hle := Nat.le_trans (Rd.pb h) (Rd.bp h)
  have no : AW S m_X12_readForgotten 15 (QL e p I L w1 w2 t) nX 0 0 24 [some (.ref 420), some (.int n)] [] (hp J L w1 w2 t) := by
    refine a_s rfl rfl ?_
    exact a_zret rfl rfl rfl (QL.rd (z := false) h s)
  refine a_s1 rfl rfl rfl rfl rfl rfl ?_
  refine a_l1 rfl rfl rfl ?_
  refine a_if_lt rfl (fun _ => no) (fun c => ?_)
  obtain ⟨j, hj, rfl⟩ := hv.resolve_left (fun z => c (by rw [z]; decide))
  refine a_l0 rfl rfl rfl ?_
  refine a_l1 rfl rfl rfl ?_
  refine a_eV1 rfl lX12_135 mo_X12_isWaiting (sp_X12_isWaiting (d := j) (by omega)) rfl rfl rfl ⟨12, _, rfl, rfl, rfl⟩ rfl ?_
  refine a_if_ne rfl (fun _ => ?_) (fun _ => no)
  refine a_l0 rfl rfl rfl ?_
  refine a_getq rfl gfX12_13_12 rfl (rfl) ?_
  refine a_l1 rfl rfl rfl ?_
  refine a_s rfl rfl ?_
  refine a_eS1 rfl lX12_60 mo_X12_at (sp_X12_at (d := j) (k := 5)) rfl rfl rfl rfl ?_
  refine a_s rfl rfl ?_
  refine a_iastv (k := 23 + 6 * j + 5) rfl (n := 2033) rfl (inI_nI (by omega) (by omega)) (nI_clamp (by omega)) ?_
  refine a_s rfl rfl ?_
  refine a_zret rfl rfl rfl ⟨true, p', _, rfl, rfl, Fm.up (Fm.mo (Rd.fm h) sR_sS) (sS_at (stC_of _ (by omega) (by omega) (by omega))), ⟨nd, np, ?_, ?_⟩, hle, ?_⟩
  · have eo : ∀ k, k ≠ 23 + 6 * j + 5 → up2 J 421 (23 + 6 * j + 5) 2 421 k = I 421 k := fun k hk => by rw [u2_lo hk, Rd.w h]
    exact hs.eq (eo 0 (by omega)) (eo 1 (by omega)) (eo 7 (by omega)) (fun d k hd hk => eo _ (by omega)) (fun _ _ => trivial)
  · intro q hq'
    obtain ⟨g, g1, g2⟩ := s.2 q hq'
    exact ⟨g, g1, ((u2_lo (by omega)).trans (congrFun (Rd.w h) _)).trans g2⟩
  · unfold Pp
    rw [up2_row (by decide)]
    exact Rd.pp h
end T68
end
section
/-! ===== the reference: a duty's line, the street's line ===== -/
section T69
variable {S : aS} {I : Nat → Nat → Int32} {L : Nat → Nat → Int64} {w1 w2 t : Nat} {e p nd np : Nat}
set_option maxRecDepth 100000
def dutH (J : Nat → Nat → Int32) (nd : Nat) (x0 x1 x2 x3 x4 : Int32) : Nat → Nat → Int32 := up2 (up2 (up2 (up2 (up2 (up2 (up2 J 421 (23 + 6 * nd + 0) x0) 421 (23 + 6 * nd + 1) x1) 421 (23 + 6 * nd + 2) x2) 421 (23 + 6 * nd + 3) x3) 421 (23 + 6 * nd + 4) x4) 421 (23 + 6 * nd + 5) 0) 421 1 (nI (nd + 1))
theorem dutH_row {J : Nat → Nat → Int32} {x0 x1 x2 x3 x4 : Int32} {q : Nat} (h : q ≠ 421) : dutH J nd x0 x1 x2 x3 x4 q = J q := by
  unfold dutH
  rw [up2_row h, up2_row h, up2_row h, up2_row h, up2_row h, up2_row h, up2_row h]
theorem dutH_lo {J : Nat → Nat → Int32} {x0 x1 x2 x3 x4 : Int32} {k : Nat} (h : k ≠ 1) (h2 : k < 23 + 6 * nd) : dutH J nd x0 x1 x2 x3 x4 421 k = J 421 k := by
  unfold dutH
  rw [u2_lo h, u2_lo (by omega), u2_lo (by omega), u2_lo (by omega), u2_lo (by omega), u2_lo (by omega), u2_lo (by omega)]
theorem dutH_1 {J : Nat → Nat → Int32} {x0 x1 x2 x3 x4 : Int32} : dutH J nd x0 x1 x2 x3 x4 421 1 = nI (nd + 1) := up2_at
theorem dutH_at0 {J : Nat → Nat → Int32} {x0 x1 x2 x3 x4 : Int32} : dutH J nd x0 x1 x2 x3 x4 421 (23 + 6 * nd + 0) = x0 := by
  unfold dutH
  rw [u2_lo (by omega), u2_lo (by omega), u2_lo (by omega), u2_lo (by omega), u2_lo (by omega), u2_lo (by omega)]
  exact up2_at
theorem dutH_at3 {J : Nat → Nat → Int32} {x0 x1 x2 x3 x4 : Int32} : dutH J nd x0 x1 x2 x3 x4 421 (23 + 6 * nd + 3) = x3 := by
  unfold dutH
  rw [u2_lo (by omega), u2_lo (by omega), u2_lo (by omega)]
  exact up2_at
theorem dutH_at4 {J : Nat → Nat → Int32} {x0 x1 x2 x3 x4 : Int32} : dutH J nd x0 x1 x2 x3 x4 421 (23 + 6 * nd + 4) = x4 := by
  unfold dutH
  rw [u2_lo (by omega), u2_lo (by omega)]
  exact up2_at
theorem dutH_fm {J : Nat → Nat → Int32} {x0 x1 x2 x3 x4 : Int32} (hn : nd < 12) (f : Fm sS I J) : Fm sS I (dutH J nd x0 x1 x2 x3 x4) := by
  unfold dutH
  exact Fm.up (Fm.up (Fm.up (Fm.up (Fm.up (Fm.up (Fm.up f (sS_at (stC_of _ (by omega) (by omega) (by omega)))) (sS_at (stC_of _ (by omega) (by omega) (by omega)))) (sS_at (stC_of _ (by omega) (by omega) (by omega)))) (sS_at (stC_of _ (by omega) (by omega) (by omega)))) (sS_at (stC_of _ (by omega) (by omega) (by omega)))) (sS_at (stC_of _ (by omega) (by omega) (by omega)))) (sS_at rfl)
theorem r_X12_readDuty (hw : WdS S) (s : SF nd np I) (hq : Pp e p I) : Sp S m_X12_readDuty 18 0 0 [.ref 420] (hp I L w1 w2 t) (QL e p I L w1 w2 t) nX := by
  have hs := s.1
  have hn := hs.n
  have h6 := hs.p
  refine Sp_of ok_X12_readDuty rfl rfl ?_
  show AW S m_X12_readDuty 18 _ _ 0 0 0 [some (.ref 420), none, none, none, none, none, none, none, none] [] (hp I L w1 w2 t)
  refine a_l0 rfl rfl rfl ?_
  refine a_eV1 rfl lX12_74 mo_X12_duties sp_X12_duties rfl rfl rfl ⟨12, _, rfl, rfl, rfl⟩ rfl ?_
  refine a_top (y := nI nd) (hs.du) ?_
  refine a_s1 rfl rfl rfl rfl rfl rfl ?_
  refine a_l1 rfl rfl rfl ?_
  refine a_s rfl rfl ?_
  refine a_ic_ne rfl (fun c => ?_) (fun _ => ?_)
  rotate_left
  · refine a_s rfl rfl ?_
    exact a_zret rfl rfl rfl (QL.re (z := false) hq s)
  have hlt : nd < 12 := by
    rcases Nat.lt_or_ge nd 12 with g | g
    · exact g
    · exact absurd (congrArg nI (show nd = 12 by omega)) c
  have k156 : ∀ {j : Nat} {x1 x2 x3 x4 : Int32} {u5 u7 : Option Value} {b p' : Nat} {J : Nat → Nat → Int32}, Rd e p b p' I J → j < np → (x3 = -1 ∨ ∃ k, k ≤ 5 ∧ x3 = nI k) → (x4 = -1 ∨ ∃ k, k < nd ∧ x4 = nI k) → AW S m_X12_readDuty 18 (QL e p I L w1 w2 t) nX 0 0 156 [some (.ref 420), some (.int (nI nd)), some (.int (nI j)), some (.int x1), some (.int x2), u5, some (.int x3), u7, some (.int x4)] [] (hp J L w1 w2 t) := by
    intro j x1 x2 x3 x4 u5 u7 b p' J h hj h3 h4
    refine a_l0 rfl rfl rfl ?_
    refine a_getq rfl gfX12_13_12 rfl (rfl) ?_
    refine a_l1 rfl rfl rfl ?_
    refine a_s rfl rfl ?_
    refine a_eS1 rfl lX12_60 mo_X12_at (sp_X12_at (d := nd) (k := 0)) rfl rfl rfl rfl ?_
    refine a_l2 rfl rfl rfl ?_
    refine a_iastv (k := 23 + 6 * nd + 0) rfl (n := 2033) rfl (inI_nI (by omega) (by omega)) (nI_clamp (by omega)) ?_
    refine a_l0 rfl rfl rfl ?_
    refine a_getq rfl gfX12_13_12 rfl (rfl) ?_
    refine a_l1 rfl rfl rfl ?_
    refine a_s rfl rfl ?_
    refine a_eS1 rfl lX12_60 mo_X12_at (sp_X12_at (d := nd) (k := 1)) rfl rfl rfl rfl ?_
    refine a_l3 rfl rfl rfl ?_
    refine a_iastv (k := 23 + 6 * nd + 1) rfl (n := 2033) rfl (inI_nI (by omega) (by omega)) (nI_clamp (by omega)) ?_
    refine a_l0 rfl rfl rfl ?_
    refine a_getq rfl gfX12_13_12 rfl (rfl) ?_
    refine a_l1 rfl rfl rfl ?_
    refine a_s rfl rfl ?_
    refine a_eS1 rfl lX12_60 mo_X12_at (sp_X12_at (d := nd) (k := 2)) rfl rfl rfl rfl ?_
    refine a_l4 rfl rfl rfl ?_
    refine a_iastv (k := 23 + 6 * nd + 2) rfl (n := 2033) rfl (inI_nI (by omega) (by omega)) (nI_clamp (by omega)) ?_
    refine a_l0 rfl rfl rfl ?_
    refine a_getq rfl gfX12_13_12 rfl (rfl) ?_
    refine a_l1 rfl rfl rfl ?_
    refine a_s rfl rfl ?_
    refine a_eS1 rfl lX12_60 mo_X12_at (sp_X12_at (d := nd) (k := 3)) rfl rfl rfl rfl ?_
    refine a_l6 rfl rfl rfl ?_
    refine a_iastv (k := 23 + 6 * nd + 3) rfl (n := 2033) rfl (inI_nI (by omega) (by omega)) (nI_clamp (by omega)) ?_
    refine a_l0 rfl rfl rfl ?_
    refine a_getq rfl gfX12_13_12 rfl (rfl) ?_
    refine a_l1 rfl rfl rfl ?_
    refine a_s rfl rfl ?_
    refine a_eS1 rfl lX12_60 mo_X12_at (sp_X12_at (d := nd) (k := 4)) rfl rfl rfl rfl ?_
    refine a_l8 rfl rfl rfl ?_
    refine a_iastv (k := 23 + 6 * nd + 4) rfl (n := 2033) rfl (inI_nI (by omega) (by omega)) (nI_clamp (by omega)) ?_
    refine a_l0 rfl rfl rfl ?_
    refine a_getq rfl gfX12_13_12 rfl (rfl) ?_
    refine a_l1 rfl rfl rfl ?_
    refine a_s rfl rfl ?_
    refine a_eS1 rfl lX12_60 mo_X12_at (sp_X12_at (d := nd) (k := 5)) rfl rfl rfl rfl ?_
    refine a_s rfl rfl ?_
    refine a_iastv (k := 23 + 6 * nd + 5) rfl (n := 2033) rfl (inI_nI (by omega) (by omega)) (nI_clamp (by omega)) ?_
    refine a_l0 rfl rfl rfl ?_
    refine a_getq rfl gfX12_13_12 rfl (rfl) ?_
    refine a_s rfl rfl ?_
    refine a_s rfl rfl ?_
    refine a_ialdv (v := nI nd) rfl (n := 2033) rfl ⟨by decide, by decide⟩ ?_ ?_
    · show up2 (up2 (up2 (up2 (up2 (up2 J 421 (23 + 6 * nd + 0) _) 421 (23 + 6 * nd + 1) _) 421 (23 + 6 * nd + 2) _) 421 (23 + 6 * nd + 3) _) 421 (23 + 6 * nd + 4) _) 421 (23 + 6 * nd + 5) _ 421 1 = nI nd
      rw [u2_lo (by omega), u2_lo (by omega), u2_lo (by omega), u2_lo (by omega), u2_lo (by omega), u2_lo (by omega), Rd.w h]
      exact hs.du
    refine a_s rfl rfl ?_
    refine a_s rfl rfl ?_
    refine a_top (y := nI (nd + 1)) ((nI_succ _).symm) ?_
    refine a_iastv (k := 1) rfl (n := 2033) rfl ⟨by decide, by decide⟩ rfl ?_
    refine a_s rfl rfl ?_
    have hle := Nat.le_trans (Rd.pb h) (Rd.bp h)
    have h3' : x3 = -1 ∨ ∃ k, k < 6 ∧ x3 = nI k := by
      rcases h3 with g | ⟨k, g1, g2⟩
      · exact Or.inl g
      · exact Or.inr ⟨k, by omega, g2⟩
    refine a_zret rfl rfl rfl ⟨true, p', dutH J nd (nI j) x1 x2 x3 x4, rfl, rfl, dutH_fm hlt (Fm.mo (Rd.fm h) sR_sS), ⟨nd + 1, np, SO.duty hs s.2 hlt hj h3' h4 dutH_1 dutH_at0 dutH_at3 dutH_at4 (fun k k1 k2 => by rw [dutH_lo k1 k2, Rd.w h])⟩, hle, ?_⟩
    unfold Pp
    rw [dutH_row (by decide)]
    exact Rd.pp h
  have no : ∀ {u1 u2 u3 u4 u5 u6 u7 u8 : Option Value} {pc b p' : Nat} {J : Nat → Nat → Int32}, Rd e p b p' I J → (pc = 49 ∨ pc = 78 ∨ pc = 115 ∨ pc = 154) → AW S m_X12_readDuty 18 (QL e p I L w1 w2 t) nX 0 0 pc [some (.ref 420), u1, u2, u3, u4, u5, u6, u7, u8] [] (hp J L w1 w2 t) := by
    intro u1 u2 u3 u4 u5 u6 u7 u8 pc b p' J h hpc
    rcases hpc with rfl | rfl | rfl | rfl
    · refine a_s rfl rfl ?_
      exact a_zret rfl rfl rfl (QL.rd (z := false) h s)
    · refine a_s rfl rfl ?_
      exact a_zret rfl rfl rfl (QL.rd (z := false) h s)
    · refine a_s rfl rfl ?_
      exact a_zret rfl rfl rfl (QL.rd (z := false) h s)
    · refine a_s rfl rfl ?_
      exact a_zret rfl rfl rfl (QL.rd (z := false) h s)
  have k142 : ∀ {j : Nat} {x1 x2 x3 x4 : Int32} {z7 : Bool} {u5 : Option Value} {b p' : Nat} {J : Nat → Nat → Int32}, Rd e p b p' I J → j < np → (x3 = -1 ∨ ∃ k, k ≤ 5 ∧ x3 = nI k) → (x4 = -1 ∨ ∃ k, k < nd ∧ x4 = nI k) → AW S m_X12_readDuty 18 (QL e p I L w1 w2 t) nX 0 0 142 [some (.ref 420), some (.int (nI nd)), some (.int (nI j)), some (.int x1), some (.int x2), u5, some (.int x3), some (.int (bI z7)), none] [.int x4] (hp J L w1 w2 t) := by
    intro j x1 x2 x3 x4 z7 u5 b p' J h hj h3 h4
    refine a_s8 rfl rfl rfl rfl rfl rfl ?_
    refine a_l7 rfl rfl rfl ?_
    refine a_if_eq rfl (fun _ => k156 h hj h3 h4) (fun _ => ?_)
    refine a_l8 rfl rfl rfl ?_
    exact a_if_ge rfl (fun _ => k156 h hj h3 h4) (fun _ => no h (by decide))
  have k117 : ∀ {j : Nat} {x1 x2 x3 : Int32} {u5 : Option Value} {b p' : Nat} {J : Nat → Nat → Int32}, Rd e p b p' I J → j < np → (x3 = -1 ∨ ∃ k, k ≤ 5 ∧ x3 = nI k) → AW S m_X12_readDuty 18 (QL e p I L w1 w2 t) nX 0 0 117 [some (.ref 420), some (.int (nI nd)), some (.int (nI j)), some (.int x1), some (.int x2), u5, some (.int x3), none, none] [] (hp J L w1 w2 t) := by
    intro j x1 x2 x3 u5 b p' J h hj h3
    refine a_l0 rfl rfl rfl ?_
    refine a_ldcs (q := 130 + 8) rfl (hw.ld (i := 8) (by decide)) ?_
    refine a_gV rfl lX12_128 mo_X12_passes (r_X12_passes (k := 8) hw (by decide) (Rd.pp h)) rfl rfl rfl ⟨12, _, rfl, rfl, rfl⟩ rfl (fun v' h' hv => ?_)
    obtain ⟨z, b2, p2, J2, rfl, rfl, h2, -⟩ := hv
    refine a_s7 rfl rfl rfl rfl rfl rfl ?_
    refine a_l7 rfl rfl rfl ?_
    refine a_if_eq rfl (fun _ => ?_) (fun _ => ?_)
    · refine a_s rfl rfl ?_
      exact k142 (Rd.tr h h2) hj h3 (Or.inl rfl)
    · refine a_l0 rfl rfl rfl ?_
      refine a_s rfl rfl ?_
      refine a_l1 rfl rfl rfl ?_
      refine a_s rfl rfl ?_
      refine a_s rfl rfl ?_
      refine a_gV rfl lX12_113 mo_X12_number (r_X12_number (Rd.pp h2)) rfl rfl rfl ⟨12, _, rfl, rfl, rfl⟩ rfl (fun v' h' hv => ?_)
      obtain ⟨y, b3, p3, J3, rfl, rfl, hr3, hy⟩ := hv
      refine a_goto rfl ?_
      exact k142 (Rd.tr (Rd.tr h h2) hr3) hj h3 (nmI (by omega) hy)
  have k103 : ∀ {j : Nat} {x1 x2 x3 : Int32} {z5 : Bool} {b p' : Nat} {J : Nat → Nat → Int32}, Rd e p b p' I J → j < np → (x3 = -1 ∨ ∃ k, k ≤ 5 ∧ x3 = nI k) → AW S m_X12_readDuty 18 (QL e p I L w1 w2 t) nX 0 0 103 [some (.ref 420), some (.int (nI nd)), some (.int (nI j)), some (.int x1), some (.int x2), some (.int (bI z5)), none, none, none] [.int x3] (hp J L w1 w2 t) := by
    intro j x1 x2 x3 z5 b p' J h hj h3
    refine a_s6 rfl rfl rfl rfl rfl rfl ?_
    refine a_l5 rfl rfl rfl ?_
    refine a_if_eq rfl (fun _ => k117 h hj h3) (fun _ => ?_)
    refine a_l6 rfl rfl rfl ?_
    exact a_if_ge rfl (fun _ => k117 h hj h3) (fun _ => no h (by decide))
  have k80 : ∀ {j : Nat} {x1 x2 : Int32} {b p' : Nat} {J : Nat → Nat → Int32}, Rd e p b p' I J → j < np → AW S m_X12_readDuty 18 (QL e p I L w1 w2 t) nX 0 0 80 [some (.ref 420), some (.int (nI nd)), some (.int (nI j)), some (.int x1), some (.int x2), none, none, none, none] [] (hp J L w1 w2 t) := by
    intro j x1 x2 b p' J h hj
    refine a_l0 rfl rfl rfl ?_
    refine a_ldcs (q := 130 + 7) rfl (hw.ld (i := 7) (by decide)) ?_
    refine a_gV rfl lX12_128 mo_X12_passes (r_X12_passes (k := 7) hw (by decide) (Rd.pp h)) rfl rfl rfl ⟨12, _, rfl, rfl, rfl⟩ rfl (fun v' h' hv => ?_)
    obtain ⟨z, b2, p2, J2, rfl, rfl, h2, -⟩ := hv
    refine a_s5 rfl rfl rfl rfl rfl rfl ?_
    refine a_l5 rfl rfl rfl ?_
    refine a_if_eq rfl (fun _ => ?_) (fun _ => ?_)
    · refine a_s rfl rfl ?_
      exact k103 (Rd.tr h h2) hj (Or.inl rfl)
    · refine a_l0 rfl rfl rfl ?_
      refine a_s rfl rfl ?_
      refine a_s rfl rfl ?_
      refine a_gV rfl lX12_113 mo_X12_number (r_X12_number (Rd.pp h2)) rfl rfl rfl ⟨12, _, rfl, rfl, rfl⟩ rfl (fun v' h' hv => ?_)
      obtain ⟨y, b3, p3, J3, rfl, rfl, hr3, hy⟩ := hv
      refine a_goto rfl ?_
      exact k103 (Rd.tr (Rd.tr h h2) hr3) hj (nmN (m := 5) (by decide) hy)
  have k71 : ∀ {j : Nat} {x1 x2 : Int32} {b p' : Nat} {J : Nat → Nat → Int32}, Rd e p b p' I J → j < np → AW S m_X12_readDuty 18 (QL e p I L w1 w2 t) nX 0 0 71 [some (.ref 420), some (.int (nI nd)), some (.int (nI j)), some (.int x1), none, none, none, none, none] [.int x2] (hp J L w1 w2 t) := by
    intro j x1 x2 b p' J h hj
    refine a_s4 rfl rfl rfl rfl rfl rfl ?_
    refine a_l4 rfl rfl rfl ?_
    exact a_if_ge rfl (fun _ => k80 h hj) (fun _ => no h (by decide))
  have k44 : ∀ {n x1 : Int32} {b p' : Nat} {J : Nat → Nat → Int32}, Rd e p b p' I J → (x1 = -1 ∨ ∃ j, j < np ∧ n = nI j) → AW S m_X12_readDuty 18 (QL e p I L w1 w2 t) nX 0 0 44 [some (.ref 420), some (.int (nI nd)), some (.int n), none, none, none, none, none, none] [.int x1] (hp J L w1 w2 t) := by
    intro n x1 b p' J h hn1
    refine a_s3 rfl rfl rfl rfl rfl rfl ?_
    refine a_l3 rfl rfl rfl ?_
    refine a_if_ge rfl (fun c => ?_) (fun _ => no h (by decide))
    obtain ⟨j, hj, rfl⟩ := hn1.resolve_left (fun z => by subst z; exact absurd c (by decide))
    refine a_l0 rfl rfl rfl ?_
    refine a_ldcs (q := 130 + 6) rfl (hw.ld (i := 6) (by decide)) ?_
    refine a_gV rfl lX12_128 mo_X12_passes (r_X12_passes (k := 6) hw (by decide) (Rd.pp h)) rfl rfl rfl ⟨12, _, rfl, rfl, rfl⟩ rfl (fun v' h' hv => ?_)
    obtain ⟨z, b2, p2, J2, rfl, rfl, h2, -⟩ := hv
    refine a_if_eq rfl (fun _ => ?_) (fun _ => ?_)
    · refine a_s rfl rfl ?_
      exact k71 (Rd.tr h h2) hj
    · refine a_l0 rfl rfl rfl ?_
      refine a_s rfl rfl ?_
      refine a_s rfl rfl ?_
      refine a_gV rfl lX12_113 mo_X12_number (r_X12_number (Rd.pp h2)) rfl rfl rfl ⟨12, _, rfl, rfl, rfl⟩ rfl (fun v' h' hv => ?_)
      obtain ⟨y, b3, p3, J3, rfl, rfl, hr3, hy⟩ := hv
      refine a_goto rfl ?_
      exact k71 (Rd.tr (Rd.tr h h2) hr3) hj
  refine a_l0 rfl rfl rfl ?_
  refine a_ldcs (q := 130 + 4) rfl (hw.ld (i := 4) (by decide)) ?_
  refine a_s rfl rfl ?_
  refine a_l0 rfl rfl rfl ?_
  refine a_eV1 rfl lX12_66 mo_X12_people sp_X12_people rfl rfl rfl ⟨12, _, rfl, rfl, rfl⟩ rfl ?_
  refine a_top (y := nI np) (hs.pu) ?_
  refine a_s rfl rfl ?_
  refine a_s rfl rfl ?_
  refine a_gV rfl lX12_117 mo_X12_numberBehind (r_X12_numberBehind (k := 4) hw (by decide) hq) rfl rfl rfl ⟨12, _, rfl, rfl, rfl⟩ rfl (fun v' h' hv => ?_)
  obtain ⟨n, b1, p1, J1, rfl, rfl, h1, hn1⟩ := hv
  replace hn1 := nmI (by omega) hn1
  refine a_s2 rfl rfl rfl rfl rfl rfl ?_
  refine a_l2 rfl rfl rfl ?_
  refine a_if_ge rfl (fun c2 => ?_) (fun _ => ?_)
  · refine a_l0 rfl rfl rfl ?_
    refine a_ldcs (q := 130 + 5) rfl (hw.ld (i := 5) (by decide)) ?_
    refine a_s rfl rfl ?_
    refine a_s rfl rfl ?_
    refine a_gV rfl lX12_117 mo_X12_numberBehind (r_X12_numberBehind (k := 5) hw (by decide) (Rd.pp h1)) rfl rfl rfl ⟨12, _, rfl, rfl, rfl⟩ rfl (fun v' h' hv => ?_)
    obtain ⟨y, b2, p2, J2, rfl, rfl, h2, hy⟩ := hv
    exact k44 (Rd.tr h1 h2) (Or.inr (hn1.resolve_left (fun z => by subst z; exact absurd c2 (by decide))))
  · refine a_s rfl rfl ?_
    refine a_goto rfl ?_
    exact k44 h1 (Or.inl rfl)
theorem r_X12_readStreetLine {b : Nat} (hw : WdS S) (s : SF nd np I) (h12 : I 420 12 = nI b) (hbp : b ≤ p) (hq : Pp e p I) : Sp S m_X12_readStreetLine 19 0 0 [.ref 420] (hp I L w1 w2 t) (QL e p I L w1 w2 t) nX := by
  refine Sp_of ok_X12_readStreetLine rfl rfl ?_
  show AW S m_X12_readStreetLine 19 _ _ 0 0 0 [some (.ref 420)] [] (hp I L w1 w2 t)
  refine a_l0 rfl rfl rfl ?_
  refine a_ldcs (q := 130 + 0) rfl (hw.ld (i := 0) (by decide)) ?_
  refine a_gV rfl lX12_109 mo_X12_isWord (r_X12_isWord (k := 0) hw (by decide) h12 hbp hq) rfl rfl rfl ⟨12, _, rfl, rfl, rfl⟩ rfl (fun v' h' hv => ?_)
  obtain ⟨rfl, z, rfl, -⟩ := hv
  refine a_if_eq rfl (fun _ => ?_) (fun _ => ?_)
  rotate_left
  · refine a_l0 rfl rfl rfl ?_
    refine a_gV rfl lX12_141 mo_X12_readPerson (r_X12_readPerson hw s hq) rfl rfl rfl ⟨12, _, rfl, rfl, rfl⟩ rfl (fun v' h' hv => ?_)
    obtain ⟨z, p', J, rfl, rfl, h⟩ := hv
    exact a_zret rfl rfl (bI_nar _) ⟨z, p', J, rfl, rfl, h⟩
  refine a_l0 rfl rfl rfl ?_
  refine a_ldcs (q := 130 + 3) rfl (hw.ld (i := 3) (by decide)) ?_
  refine a_gV rfl lX12_109 mo_X12_isWord (r_X12_isWord (k := 3) hw (by decide) h12 hbp hq) rfl rfl rfl ⟨12, _, rfl, rfl, rfl⟩ rfl (fun v' h' hv => ?_)
  obtain ⟨rfl, z, rfl, -⟩ := hv
  refine a_if_eq rfl (fun _ => ?_) (fun _ => ?_)
  rotate_left
  · refine a_l0 rfl rfl rfl ?_
    refine a_gV rfl lX12_147 mo_X12_readDuty (r_X12_readDuty hw s hq) rfl rfl rfl ⟨12, _, rfl, rfl, rfl⟩ rfl (fun v' h' hv => ?_)
    obtain ⟨z, p', J, rfl, rfl, h⟩ := hv
    exact a_zret rfl rfl (bI_nar _) ⟨z, p', J, rfl, rfl, h⟩
  refine a_l0 rfl rfl rfl ?_
  refine a_ldcs (q := 130 + 9) rfl (hw.ld (i := 9) (by decide)) ?_
  refine a_gV rfl lX12_109 mo_X12_isWord (r_X12_isWord (k := 9) hw (by decide) h12 hbp hq) rfl rfl rfl ⟨12, _, rfl, rfl, rfl⟩ rfl (fun v' h' hv => ?_)
  obtain ⟨rfl, z, rfl, -⟩ := hv
  refine a_if_eq rfl (fun _ => ?_) (fun _ => ?_)
  rotate_left
  · refine a_l0 rfl rfl rfl ?_
    refine a_gV rfl lX12_152 mo_X12_readForgotten (r_X12_readForgotten s hq) rfl rfl rfl ⟨12, _, rfl, rfl, rfl⟩ rfl (fun v' h' hv => ?_)
    obtain ⟨z, p', J, rfl, rfl, h⟩ := hv
    exact a_zret rfl rfl (bI_nar _) ⟨z, p', J, rfl, rfl, h⟩
  refine a_l0 rfl rfl rfl ?_
  refine a_ldcs (q := 130 + 10) rfl (hw.ld (i := 10) (by decide)) ?_
  refine a_gV rfl lX12_109 mo_X12_isWord (r_X12_isWord (k := 10) hw (by decide) h12 hbp hq) rfl rfl rfl ⟨12, _, rfl, rfl, rfl⟩ rfl (fun v' h' hv => ?_)
  obtain ⟨rfl, z, rfl, -⟩ := hv
  refine a_if_eq rfl (fun _ => ?_) (fun _ => ?_)
  rotate_left
  · refine a_l0 rfl rfl rfl ?_
    refine a_s rfl rfl ?_
    refine a_s rfl rfl ?_
    refine a_s rfl rfl ?_
    refine a_gV rfl lX12_157 mo_X12_readNumber (r_X12_readNumber (i := 6) (by decide) (by decide) (by decide) s hq) rfl rfl rfl ⟨12, _, rfl, rfl, rfl⟩ rfl (fun v' h' hv => ?_)
    obtain ⟨z, p', J, rfl, rfl, h⟩ := hv
    exact a_zret rfl rfl (bI_nar _) ⟨z, p', J, rfl, rfl, h⟩
  refine a_l0 rfl rfl rfl ?_
  refine a_ldcs (q := 130 + 11) rfl (hw.ld (i := 11) (by decide)) ?_
  refine a_gV rfl lX12_109 mo_X12_isWord (r_X12_isWord (k := 11) hw (by decide) h12 hbp hq) rfl rfl rfl ⟨12, _, rfl, rfl, rfl⟩ rfl (fun v' h' hv => ?_)
  obtain ⟨rfl, z, rfl, -⟩ := hv
  refine a_if_eq rfl (fun _ => ?_) (fun _ => ?_)
  rotate_left
  · refine a_l0 rfl rfl rfl ?_
    refine a_s rfl rfl ?_
    refine a_s rfl rfl ?_
    refine a_s rfl rfl ?_
    refine a_gV rfl lX12_157 mo_X12_readNumber (r_X12_readNumber (i := 7) (by decide) (by decide) (by decide) s hq) rfl rfl rfl ⟨12, _, rfl, rfl, rfl⟩ rfl (fun v' h' hv => ?_)
    obtain ⟨z, p', J, rfl, rfl, h⟩ := hv
    exact a_zret rfl rfl (bI_nar _) ⟨z, p', J, rfl, rfl, h⟩
  refine a_l0 rfl rfl rfl ?_
  refine a_ldcs (q := 130 + 12) rfl (hw.ld (i := 12) (by decide)) ?_
  refine a_gV rfl lX12_109 mo_X12_isWord (r_X12_isWord (k := 12) hw (by decide) h12 hbp hq) rfl rfl rfl ⟨12, _, rfl, rfl, rfl⟩ rfl (fun v' h' hv => ?_)
  obtain ⟨rfl, z, rfl, -⟩ := hv
  refine a_if_eq rfl (fun _ => ?_) (fun _ => ?_)
  rotate_left
  · refine a_l0 rfl rfl rfl ?_
    refine a_s rfl rfl ?_
    refine a_s rfl rfl ?_
    refine a_s rfl rfl ?_
    refine a_gV rfl lX12_157 mo_X12_readNumber (r_X12_readNumber (i := 8) (by decide) (by decide) (by decide) s hq) rfl rfl rfl ⟨12, _, rfl, rfl, rfl⟩ rfl (fun v' h' hv => ?_)
    obtain ⟨z, p', J, rfl, rfl, h⟩ := hv
    exact a_zret rfl rfl (bI_nar _) ⟨z, p', J, rfl, rfl, h⟩
  refine a_l0 rfl rfl rfl ?_
  refine a_ldcs (q := 130 + 13) rfl (hw.ld (i := 13) (by decide)) ?_
  refine a_gV rfl lX12_109 mo_X12_isWord (r_X12_isWord (k := 13) hw (by decide) h12 hbp hq) rfl rfl rfl ⟨12, _, rfl, rfl, rfl⟩ rfl (fun v' h' hv => ?_)
  obtain ⟨rfl, z, rfl, -⟩ := hv
  refine a_if_eq rfl (fun _ => ?_) (fun _ => ?_)
  rotate_left
  · refine a_l0 rfl rfl rfl ?_
    refine a_s rfl rfl ?_
    refine a_s rfl rfl ?_
    refine a_s rfl rfl ?_
    refine a_gV rfl lX12_157 mo_X12_readNumber (r_X12_readNumber (i := 4) (by decide) (by decide) (by decide) s hq) rfl rfl rfl ⟨12, _, rfl, rfl, rfl⟩ rfl (fun v' h' hv => ?_)
    obtain ⟨z, p', J, rfl, rfl, h⟩ := hv
    exact a_zret rfl rfl (bI_nar _) ⟨z, p', J, rfl, rfl, h⟩
  refine a_l0 rfl rfl rfl ?_
  refine a_ldcs (q := 130 + 14) rfl (hw.ld (i := 14) (by decide)) ?_
  refine a_gV rfl lX12_109 mo_X12_isWord (r_X12_isWord (k := 14) hw (by decide) h12 hbp hq) rfl rfl rfl ⟨12, _, rfl, rfl, rfl⟩ rfl (fun v' h' hv => ?_)
  obtain ⟨rfl, z, rfl, -⟩ := hv
  refine a_if_eq rfl (fun _ => ?_) (fun _ => ?_)
  · refine a_s rfl rfl ?_
    exact a_zret rfl rfl rfl (QL.re (z := false) hq s)
  · refine a_l0 rfl rfl rfl ?_
    refine a_s rfl rfl ?_
    refine a_s rfl rfl ?_
    refine a_s rfl rfl ?_
    refine a_gV rfl lX12_157 mo_X12_readNumber (r_X12_readNumber (i := 5) (by decide) (by decide) (by decide) s hq) rfl rfl rfl ⟨12, _, rfl, rfl, rfl⟩ rfl (fun v' h' hv => ?_)
    obtain ⟨z, p', J, rfl, rfl, h⟩ := hv
    refine a_if_eq rfl (fun _ => ?_) (fun _ => ?_)
    · refine a_s rfl rfl ?_
      exact a_zret rfl rfl rfl ⟨false, p', J, rfl, rfl, h⟩
    · refine a_s rfl rfl ?_
      refine a_goto rfl ?_
      exact a_zret rfl rfl rfl ⟨true, p', J, rfl, rfl, h⟩
end T69
end
section
/-! ===== the reference: all lines, a street ===== -/
section T70
variable {S : aS} {I : Nat → Nat → Int32} {L : Nat → Nat → Int64} {w1 w2 t : Nat} {e p nd np : Nat}
set_option maxRecDepth 100000
theorem r_X12_readLineS (hw : WdS S) (s : SF nd np I) (hq : Pp e p I) {x : Int32} : Sp S m_X12_readLine 60 0 0 [.ref 420, .int (bI true), .int x] (hp I L w1 w2 t) (QL e p I L w1 w2 t) nX := by
  refine Sp_of ok_X12_readLine rfl rfl ?_
  show AW S m_X12_readLine 60 _ _ 0 0 0 [some (.ref 420), some (.int (bI true)), some (.int x)] [] (hp I L w1 w2 t)
  refine a_l0 rfl rfl rfl ?_
  refine a_gV rfl lX12_106 mo_X12_letters (r_X12_letters hq) rfl rfl rfl ⟨12, _, rfl, rfl, rfl⟩ rfl (fun v' h' hv => ?_)
  obtain ⟨rfl, J, b, p', rfl, h⟩ := hv
  refine a_l2 rfl rfl rfl ?_
  refine a_l1 rfl rfl rfl ?_
  refine a_if_eq rfl (fun c => absurd c (by decide)) (fun _ => ?_)
  refine a_s rfl rfl ?_
  refine a_goto rfl ?_
  refine a_ic_ge rfl (fun _ => ?_) (fun _ => ?_)
  · refine a_s rfl rfl ?_
    exact a_zret rfl rfl rfl (QL.rd (z := false) h s)
  · refine a_l1 rfl rfl rfl ?_
    refine a_if_eq rfl (fun c => absurd c (by decide)) (fun _ => ?_)
    refine a_l0 rfl rfl rfl ?_
    refine a_gV rfl lX12_226 mo_X12_readStreetLine (r_X12_readStreetLine hw (SF.eq s (Rd.w h)) (Rd.be h) (Rd.bp h) (Rd.pp h)) rfl rfl rfl ⟨12, _, rfl, rfl, rfl⟩ rfl (fun v' h' hv => ?_)
    obtain ⟨z, p2, J2, rfl, rfl, h2⟩ := hv
    refine a_if_eq rfl (fun _ => ?_) (fun _ => ?_)
    · refine a_s rfl rfl ?_
      exact a_zret rfl rfl rfl ⟨false, p2, J2, rfl, rfl, Rs.td h h2⟩
    · refine a_goto rfl ?_
      refine a_s rfl rfl ?_
      refine a_goto rfl ?_
      exact a_zret rfl rfl rfl ⟨true, p2, J2, rfl, rfl, Rs.td h h2⟩
/-- all lines, by what one line keeps -/
theorem r_X12_readAll {P : Nat → Nat → (Nat → Nat → Int32) → Prop} {Fq : (Nat → Nat → Int32) → Prop} {z : Bool} (hPp : ∀ n p J, P n p J → Pp e p J)
    (hP : ∀ n p J b p' J', P n p J → Rd e p b p' J J' → P n p' J') (hU : ∀ n p J, P n p J → p < e → P n (p + 1) (up2 J 420 10 (nI (p + 1)))) (hF : ∀ n p J, P n p J → Fq J)
    (hL : ∀ n p J, P n p J → Sp S m_X12_readLine 60 0 0 [.ref 420, .int (bI z), .int (nI n)] (hp J L w1 w2 t) (fun v h' => ∃ zz p' J', v = some (.int (bI zz)) ∧ h' = hp J' L w1 w2 t ∧ Fq J' ∧ (zz = true → p ≤ p' ∧ P (n + 1) p' J')) nX)
    (h0 : P 0 0 (up2 (usH I) 420 16 0)) : Sp S m_X12_readAll 61 0 0 [.ref 420, .int (bI z)] (hp I L w1 w2 t) (fun v h' => ∃ x J, v = some (.int x) ∧ h' = hp J L w1 w2 t ∧ Fq J ∧ (x = -1 ∨ ∃ n p', x = nI n ∧ P n p' J)) nX := by
  refine Sp_of ok_X12_readAll rfl rfl ?_
  show AW S m_X12_readAll 61 _ _ 0 0 0 [some (.ref 420), some (.int (bI z)), none] [] (hp I L w1 w2 t)
  refine a_l0 rfl rfl rfl ?_
  refine a_eV0 rfl lX12_232 mo_X12_uses r_X12_uses rfl rfl rfl ⟨12, _, rfl, rfl, rfl⟩ rfl ?_
  refine a_l0 rfl rfl rfl ?_
  refine a_s rfl rfl ?_
  refine a_puti rfl pfX12_168_12 rfl ?_
  refine a_l0 rfl rfl rfl ?_
  refine a_gV rfl lX12_94 mo_X12_blanks (r_X12_blanks (hPp 0 0 _ h0)) rfl rfl rfl ⟨12, _, rfl, rfl, rfl⟩ rfl (fun v' h' hv => ?_)
  obtain ⟨rfl, J1, p1, rfl, h1⟩ := hv
  have P1 := hP _ _ _ _ _ _ h0 h1
  refine a_l0 rfl rfl rfl ?_
  refine a_geti rfl gfX12_81_12 rfl ?_
  refine a_top (y := nI p1) (Pp.pu (Rd.pp h1)) ?_
  refine a_l0 rfl rfl rfl ?_
  refine a_geti rfl gfX12_84_12 rfl ?_
  refine a_top (y := nI e) (Pp.en (Rd.pp h1)) ?_
  refine a_ic_ne rfl (fun _ => ?_) (fun _ => ?_)
  rotate_left
  · refine a_s rfl rfl ?_
    exact a_iret rfl rfl ⟨0, J1, rfl, rfl, hF _ _ _ P1, Or.inr ⟨0, p1, rfl, P1⟩⟩
  refine a_s rfl rfl ?_
  refine a_s2 rfl rfl rfl rfl rfl rfl ?_
  refine a_inv (n := e - p1) (fun m ls h => ∃ n p' J, ls = [some (.ref 420), some (.int (bI z)), some (.int (nI n))] ∧ h = hp J L w1 w2 t ∧ P n p' J ∧ m = e - p') ⟨0, p1, J1, rfl, rfl, P1, rfl⟩ ?_
  rintro m _ _ ⟨n, p', J, rfl, rfl, hP', hm⟩ ih
  refine a_l0 rfl rfl rfl ?_
  refine a_l1 rfl rfl rfl ?_
  refine a_l2 rfl rfl rfl ?_
  refine a_gV rfl lX12_235 mo_X12_readLine (hL _ _ _ hP') rfl rfl rfl ⟨12, _, rfl, rfl, rfl⟩ rfl (fun v' h' hv => ?_)
  obtain ⟨zz, p2, J2, rfl, rfl, hf2, hz⟩ := hv
  refine a_if_ne rfl (fun c => ?_) (fun _ => ?_)
  rotate_left
  · refine a_s rfl rfl ?_
    exact a_iret rfl rfl ⟨-1, J2, rfl, rfl, hf2, Or.inl rfl⟩
  obtain ⟨hle, hP2⟩ := hz (bI_t c)
  refine a_l0 rfl rfl rfl ?_
  refine a_gV rfl lX12_94 mo_X12_blanks (r_X12_blanks (hPp _ _ _ hP2)) rfl rfl rfl ⟨12, _, rfl, rfl, rfl⟩ rfl (fun v' h' hv => ?_)
  obtain ⟨rfl, J3, p3, rfl, h3⟩ := hv
  have P3 := hP _ _ _ _ _ _ hP2 h3
  have hp3 := Rd.pb h3
  refine a_l0 rfl rfl rfl ?_
  refine a_geti rfl gfX12_81_12 rfl ?_
  refine a_top (y := nI p3) (Pp.pu (Rd.pp h3)) ?_
  refine a_l0 rfl rfl rfl ?_
  refine a_geti rfl gfX12_84_12 rfl ?_
  refine a_top (y := nI e) (Pp.en (Rd.pp h3)) ?_
  refine a_ic_ne rfl (fun _ => ?_) (fun _ => ?_)
  rotate_left
  · refine a_l2 rfl rfl rfl ?_
    refine a_s rfl rfl ?_
    refine a_s rfl rfl ?_
    refine a_top (y := nI (n + 1)) ((nI_succ _).symm) ?_
    exact a_iret rfl rfl ⟨_, J3, rfl, rfl, hF _ _ _ P3, Or.inr ⟨n + 1, p3, rfl, P3⟩⟩
  refine a_l0 rfl rfl rfl ?_
  refine a_s rfl rfl ?_
  refine a_s rfl rfl ?_
  refine a_gV rfl lX12_87 mo_X12_isAt (r_X12_isAt (Rd.pp h3)) rfl rfl rfl ⟨12, _, rfl, rfl, rfl⟩ rfl (fun v' h' hv => ?_)
  obtain ⟨rfl, zb, rfl, hb⟩ := hv
  refine a_if_ne rfl (fun c2 => ?_) (fun _ => ?_)
  · have hlt := hb (bI_t c2)
    refine a_l0 rfl rfl rfl ?_
    refine a_s rfl rfl ?_
    refine a_geti rfl gfX12_81_12 rfl ?_
    refine a_top (y := nI p3) (Pp.pu (Rd.pp h3)) ?_
    refine a_s rfl rfl ?_
    refine a_s rfl rfl ?_
    refine a_top (y := nI (p3 + 1)) ((nI_succ _).symm) ?_
    refine a_puti rfl pfX12_81_12 rfl ?_
    refine a_i2 rfl rfl rfl ?_
    refine a_goto rfl ?_
    exact a_less (ih (e - (p3 + 1)) _ _ (by omega) ⟨n + 1, p3 + 1, _, rfl, rfl, hU _ _ _ P3 hlt, rfl⟩) ⟨rfl, rfl, nS n, trivial⟩
  · refine a_s rfl rfl ?_
    exact a_iret rfl rfl ⟨-1, J3, rfl, rfl, hF _ _ _ P3, Or.inl rfl⟩
/-- what a text may change, but for the law's draft -/
def sX (q k : Nat) : Bool := sU q k || (sS q k || (Nat.beq q 423 || (Nat.beq q 420 && (Nat.beq k 9 || (Nat.beq k 11 || (Nat.beq k 13 || (Nat.beq k 14 || Nat.beq k 16)))))))
theorem sS_sX : ∀ q k, sS q k = true → sX q k = true := fun q k h => by
  unfold sX
  rw [h]
  cases sU q k <;> rfl
theorem sR_sX : ∀ q k, sR q k = true → sX q k = true := fun q k h => sS_sX q k (sR_sS q k h)
theorem sU_sX : ∀ q k, sU q k = true → sX q k = true := fun q k h => by
  unfold sX
  rw [h]
  rfl
theorem sX_low {q k : Nat} (h : q < 420 ∨ q = 426) : sX q k = false := by
  have b : ∀ n, 420 ≤ n → n ≠ 426 → Nat.beq q n = false := fun n hn hn2 => beqF (by omega)
  simp [sX, sU, sS, sR, b]
theorem stC_hi {k : Nat} (h : 95 ≤ k) : stC k = false := by
  have e1 : Nat.blt k 95 = false := by
    cases hb : Nat.blt k 95 with
    | false => rfl
    | true => exact absurd (Nat.le_of_ble_eq_true hb) (by omega)
  simp [stC, e1]
theorem sX_421 {k : Nat} : sX 421 k = stC k := by
  show (stC k || false) = stC k
  cases stC k <;> rfl
theorem sX_hi {k : Nat} (h : 95 ≤ k) : sX 421 k = false := sX_421.trans (stC_hi h)
def GX (I J : Nat → Nat → Int32) : Prop := Fm sX I J ∧ J 420 9 = 0 ∧ ∀ k, k < 1184 → J 423 k = I 421 k
theorem GX.sS {J K : Nat → Nat → Int32} (h : GX I J) (f : Fm sS J K) : GX I K := ⟨Fm.tr h.1 (Fm.mo f sS_sX), (f 420 9 rfl).trans h.2.1, fun k hk => (f 423 k rfl).trans (h.2.2 k hk)⟩
theorem GX.sU {J K : Nat → Nat → Int32} (h : GX I J) (f : Fm sU J K) : GX I K := ⟨Fm.tr h.1 (Fm.mo f sU_sX), (f 420 9 rfl).trans h.2.1, fun k hk => (f 423 k rfl).trans (h.2.2 k hk)⟩
theorem GX.up {J : Nat → Nat → Int32} {x : Int32} (h : GX I J) {j : Nat} (hj : sX 420 j = true) (h9 : j ≠ 9) : GX I (up2 J 420 j x) := ⟨Fm.up h.1 hj, (up2_ne (Or.inr (fun z => h9 z.symm))).trans h.2.1, fun k hk => (congrFun (up2_row (by decide)) k).trans (h.2.2 k hk)⟩
theorem SF.up {J : Nat → Nat → Int32} {j : Nat} {x : Int32} (h : SF nd np J) : SF nd np (up2 J 420 j x) := SF.eq h (up2_row (by decide))
theorem GX.beg {l : Nat} (hl : I 420 9 = nI l) : GX I (up2 (usH (cpR I 423 0 421 0 1184)) 420 16 0) := by
  have e0 : cpR I 423 0 421 0 1184 420 = I 420 := cpR_row (by decide)
  refine ⟨Fm.up ?_ rfl, (up2_ne (Or.inr (by decide))).trans usH_9, fun k hk => ?_⟩
  · unfold usH
    refine Fm.up (Fm.up (Fm.up (Fm.up ?_ rfl) rfl) rfl) rfl
    intro q k hq
    by_cases c : q = 423
    · subst c
      exact absurd hq (by simp [sX])
    · rw [cpR_row c]
  · rw [up2_row (by decide), usH_row (by decide), show k = 0 + k by omega, cpR_in hk]
    congr 1
    omega
def PS (I : Nat → Nat → Int32) (e : Nat) (_ p : Nat) (J : Nat → Nat → Int32) : Prop := GX I J ∧ (∃ nd np, SF nd np J) ∧ Pp e p J
theorem Us.rest {J : Nat → Nat → Int32} (hr : RI nd np I) (h : GX I J) : Us nd np I (cpR J 421 0 423 0 1184) := by
  obtain ⟨f, h9, h3⟩ := h
  have e0 : ∀ q, q ≠ 421 → cpR J 421 0 423 0 1184 q = J q := fun q hq => cpR_row hq
  refine ⟨fun q hq => ?_, ?_, ?_, hr.eq (funext fun k => ?_) ?_ ?_ ?_ ?_⟩
  · rw [e0 q (by omega)]
    exact funext fun k => f q k (sX_low hq)
  · rw [e0 420 (by decide)]
    exact h9
  · rw [e0 420 (by decide)]
    exact f 420 6 rfl
  · by_cases c : k < 1184
    · rw [show k = 0 + k by omega, cpR_in c]
      rw [show k + 0 = k by omega, h3 k c]
      congr 1
      omega
    · rw [cpR_out (by omega)]
      exact f 421 k (sX_hi (by omega))
  · rw [e0 422 (by decide)]
    exact funext fun k => f 422 k rfl
  · rw [e0 425 (by decide)]
    exact funext fun k => f 425 k rfl
  · rw [e0 420 (by decide)]
    exact f 420 6 rfl
  · rw [e0 420 (by decide)]
    exact f 420 7 rfl
theorem Us.done {nd0 np0 : Nat} {K : Nat → Nat → Int32} {v : Int32} (hr : RI nd0 np0 I) (h : GX I K) (s : SF nd np K) : Us nd np I (up2 (up2 K 421 2 v) 420 7 0) := by
  obtain ⟨f, h9, -⟩ := h
  have e0 : ∀ q, q ≠ 421 → q ≠ 420 → up2 (up2 K 421 2 v) 420 7 0 q = K q := fun q h1 h2 => by rw [up2_row h2, up2_row h1]
  have e1 : ∀ k, k ≠ 7 → up2 (up2 K 421 2 v) 420 7 0 420 k = K 420 k := fun k hk => by rw [up2_ne (Or.inr hk), up2_row (by decide)]
  have e2 : ∀ k, k ≠ 2 → up2 (up2 K 421 2 v) 420 7 0 421 k = K 421 k := fun k hk => by rw [up2_row (by decide), u2_lo hk]
  refine ⟨fun q hq => ?_, (e1 9 (by decide)).trans h9, (e1 6 (by decide)).trans (f 420 6 rfl), ?_, fun q hq => ?_, ?_, ?_, ?_, ⟨0, by decide, up2_at, fun i hi => absurd hi (Nat.not_lt_zero _)⟩⟩
  · rw [e0 q (by omega) (by omega)]
    exact funext fun k => f q k (sX_low hq)
  · exact s.1.eq (e2 0 (by decide)) (e2 1 (by decide)) (e2 7 (by decide)) (fun d k hd hk => e2 _ (by omega)) (fun _ _ => trivial)
  · obtain ⟨g, g1, g2⟩ := s.2 q hq
    exact ⟨g, g1, (e2 _ (by omega)).trans g2⟩
  · exact hr.lw.eq ((e2 3 (by decide)).trans (f 421 3 rfl)) (fun k h1 _ => (e2 k (by omega)).trans (f 421 k (sX_hi (by omega))))
  · obtain ⟨k, k1, k2⟩ := hr.lg
    exact ⟨k, k1, ((e2 9 (by decide)).trans (f 421 9 rfl)).trans k2⟩
  · exact hr.im.eq ((e1 6 (by decide)).trans (f 420 6 rfl)) ((e0 422 (by decide) (by decide)).trans (funext fun k => f 422 k rfl))
def QY (I : Nat → Nat → Int32) (w1 w2 t : Nat) : Option Value → aH → Prop := fun v h' => isI v ∧ ∃ nd' np' J L', h' = hp J L' w1 w2 t ∧ Us nd' np' I J
theorem r_X12_street (hw : WdS S) (hr : RI nd np I) (ht : ∃ l, l ≤ 400 ∧ I 420 9 = nI l) : Sp S m_X12_street 62 0 0 [.ref 420] (hp I L w1 w2 t) (QY I w1 w2 t) nX := by
  obtain ⟨l, hl4, hl⟩ := ht
  refine Sp_of ok_X12_street rfl rfl ?_
  show AW S m_X12_street 62 _ _ 0 0 0 [some (.ref 420), none, none] [] (hp I L w1 w2 t)
  have restore : ∀ {x : Int32} {J : Nat → Nat → Int32}, GX I J → AW S m_X12_street 62 (QY I w1 w2 t) nX 0 0 90 [some (.ref 420), some (.int x), none] [] (hp J L w1 w2 t) := by
    intro x J hg
    refine a_s rfl rfl ?_
    refine a_s2 rfl rfl rfl rfl rfl rfl ?_
    refine a_forE (n := 1184) (fun j => [some (.ref 420), some (.int x), some (.int (nI j))]) (fun j => hp (cpR J 421 0 423 0 j) L w1 w2 t) (by simp [lsub, nI_0]) (by rw [cpR_0]) ?_ (fun j hj ih => ?_)
    · refine a_l2 rfl rfl rfl ?_
      refine a_s rfl rfl ?_
      refine a_ic_ge rfl (fun _ => ?_) (fun c => absurd (Int32.le_refl _) c)
      refine a_s rfl rfl ?_
      exact a_iret rfl rfl ⟨⟨_, rfl⟩, nd, np, _, _, rfl, Us.rest hr hg⟩
    · refine a_l2 rfl rfl rfl ?_
      refine a_s rfl rfl ?_
      refine a_ic_ge rfl (fun c => absurd c (nI_ge (b := 1184) hj (by omega))) (fun _ => ?_)
      refine a_l0 rfl rfl rfl ?_
      refine a_getq rfl gfX12_13_12 rfl (rfl) ?_
      refine a_l2 rfl rfl rfl ?_
      refine a_l0 rfl rfl rfl ?_
      refine a_getq rfl gfX12_20_12 rfl (rfl) ?_
      refine a_l2 rfl rfl rfl ?_
      refine a_ialdv (v := J 423 (j + 0)) rfl (n := 1184) rfl (inI_nI (by omega) (by omega)) (by rw [nI_clamp (by omega), cpR_row (by decide)]; rfl) ?_
      refine a_iastv (k := 0 + j) rfl (n := 2033) rfl (inI_nI (by omega) (by omega)) (by rw [nI_clamp (by omega)]; omega) ?_
      rw [cpR_succ]
      refine a_i2 rfl rfl rfl ?_
      refine a_goto rfl ?_
      exact a_back ih (by simp [lsub, nI_1]) rfl
  have done : ∀ {x : Int32} {J : Nat → Nat → Int32}, GX I J → (∃ nd np, SF nd np J) → AW S m_X12_street 62 (QY I w1 w2 t) nX 0 0 119 [some (.ref 420), some (.int x), none] [] (hp J L w1 w2 t) := by
    rintro x J hg ⟨nd', np', sf⟩
    refine a_l0 rfl rfl rfl ?_
    refine a_getq rfl gfX12_13_12 rfl (rfl) ?_
    refine a_s rfl rfl ?_
    refine a_s rfl rfl ?_
    refine a_iald rfl (n := 2033) rfl ⟨by decide, by decide⟩ ?_
    refine a_s rfl rfl ?_
    refine a_s rfl rfl ?_
    refine a_iastv (k := 2) rfl (n := 2033) rfl ⟨by decide, by decide⟩ rfl ?_
    refine a_l0 rfl rfl rfl ?_
    refine a_s rfl rfl ?_
    refine a_puti rfl pfX12_53_12 rfl ?_
    refine a_l0 rfl rfl rfl ?_
    refine a_getq rfl gfX12_13_12 rfl (rfl) ?_
    refine a_s rfl rfl ?_
    refine a_iald rfl (n := 2033) rfl ⟨by decide, by decide⟩ ?_
    exact a_iret rfl rfl ⟨⟨_, rfl⟩, nd', np', _, _, rfl, Us.done hr hg sf⟩
  have k27 : AW S m_X12_street 62 (QY I w1 w2 t) nX 0 0 27 [some (.ref 420), some (.int (nI 1184)), none] [] (hp (cpR I 423 0 421 0 1184) L w1 w2 t) := by
    have h0 : PS I l 0 0 (up2 (usH (cpR I 423 0 421 0 1184)) 420 16 0) := by
      refine ⟨GX.beg hl, ⟨nd, np, SF.eq (I := I) ⟨hr.so, hr.fr⟩ ?_⟩, ?_, ?_, Nat.zero_le _, hl4⟩
      · rw [up2_row (by decide), usH_row (by decide), cpR_row (by decide)]
      · exact (up2_ne (Or.inr (by decide))).trans up2_at
      · rw [up2_ne (Or.inr (by decide)), usH_11, cpR_row (by decide)]
        exact hl
    have hPp : ∀ n p J, PS I l n p J → Pp l p J := fun n p J h => h.2.2
    have hP : ∀ n p J b p' J', PS I l n p J → Rd l p b p' J J' → PS I l n p' J' := fun n p J b p' J' h r => ⟨GX.sS h.1 (Fm.mo (Rd.fm r) sR_sS), (by obtain ⟨nd', np', g⟩ := h.2.1; exact ⟨nd', np', SF.eq g (Rd.w r)⟩), Rd.pp r⟩
    have hU : ∀ n p J, PS I l n p J → p < l → PS I l n (p + 1) (up2 J 420 10 (nI (p + 1))) := fun n p J h hp => ⟨GX.up h.1 rfl (by decide), (by obtain ⟨nd', np', g⟩ := h.2.1; exact ⟨nd', np', SF.up g⟩), Pp.to h.2.2 (by omega)⟩
    have hF : ∀ n p J, PS I l n p J → GX I J := fun n p J h => h.1
    have hL : ∀ n p J, PS I l n p J → Sp S m_X12_readLine 60 0 0 [.ref 420, .int (bI true), .int (nI n)] (hp J L w1 w2 t) (fun v h' => ∃ zz p' J', v = some (.int (bI zz)) ∧ h' = hp J' L w1 w2 t ∧ GX I J' ∧ (zz = true → p ≤ p' ∧ PS I l (n + 1) p' J')) nX := by
      rintro n p J ⟨g1, ⟨nd', np', g2⟩, g3⟩
      refine Sp.weaken (r_X12_readLineS hw g2 g3) ?_ (fun _ _ z => z)
      rintro v h' ⟨z, p', J', e1, e2, e3⟩
      exact ⟨z, p', J', e1, e2, GX.sS g1 e3.1, fun _ => ⟨e3.2.2.1, GX.sS g1 e3.1, e3.2.1, e3.2.2.2⟩⟩
    refine a_l0 rfl rfl rfl ?_
    refine a_s rfl rfl ?_
    refine a_gV rfl lX12_239 mo_X12_readAll (r_X12_readAll (z := true) (P := PS I l) (Fq := GX I) (e := l) hPp hP hU hF hL h0) rfl rfl rfl ⟨12, _, rfl, rfl, rfl⟩ rfl (fun v' h' hv => ?_)
    obtain ⟨x, J, rfl, rfl, hg, hx⟩ := hv
    refine a_s1 rfl rfl rfl rfl rfl rfl ?_
    refine a_l0 rfl rfl rfl ?_
    refine a_l1 rfl rfl rfl ?_
    refine a_if_ge rfl (fun c => ?_) (fun c => ?_)
    · obtain ⟨n, p', rfl, hps⟩ := hx.resolve_left (fun z => by subst z; exact absurd c (by decide))
      refine a_s rfl rfl ?_
      refine a_puti rfl pfX12_33_12 rfl ?_
      refine a_l0 rfl rfl rfl ?_
      refine a_l1 rfl rfl rfl ?_
      refine a_if_ge rfl (fun _ => ?_) (fun c2 => absurd c c2)
      refine a_s rfl rfl ?_
      refine a_s rfl rfl ?_
      refine a_gV rfl lX12_243 mo_X12_throwsIf (r_X12_throwsIf (b := false)) rfl rfl rfl ⟨12, _, rfl, rfl, rfl⟩ rfl (fun v' h' hv => ?_)
      obtain ⟨rfl, K, rfl, fK⟩ := hv
      have gK : GX I K := GX.sU (GX.up hg rfl (by decide)) fK
      have sK : ∃ nd np, SF nd np K := by
        obtain ⟨nd', np', g⟩ := hps.2.1
        exact ⟨nd', np', SF.eq (SF.up g) (funext fun k => fK 421 k rfl)⟩
      refine a_if_ne rfl (fun c => absurd (by decide) c) (fun _ => ?_)
      refine a_l0 rfl rfl rfl ?_
      refine a_l0 rfl rfl rfl ?_
      refine a_getq rfl gfX12_13_12 rfl (rfl) ?_
      refine a_s rfl rfl ?_
      refine a_iald rfl (n := 2033) rfl ⟨by decide, by decide⟩ ?_
      refine a_s rfl rfl ?_
      refine a_ic_ne rfl (fun _ => ?_) (fun _ => ?_)
      · refine a_s rfl rfl ?_
        refine a_s rfl rfl ?_
        refine a_gV rfl lX12_243 mo_X12_throwsIf (r_X12_throwsIf (b := false)) rfl rfl rfl ⟨12, _, rfl, rfl, rfl⟩ rfl (fun v' h' hv => ?_)
        obtain ⟨rfl, K2, rfl, fK2⟩ := hv
        refine a_if_eq rfl (fun _ => ?_) (fun c => absurd (by decide) c)
        refine done (GX.sU gK fK2) ?_
        obtain ⟨nd', np', g⟩ := sK
        exact ⟨nd', np', SF.eq g (funext fun k => fK2 421 k rfl)⟩
      · refine a_s rfl rfl ?_
        refine a_goto rfl ?_
        refine a_s rfl rfl ?_
        refine a_gV rfl lX12_243 mo_X12_throwsIf (r_X12_throwsIf (b := true)) rfl rfl rfl ⟨12, _, rfl, rfl, rfl⟩ rfl (fun v' h' hv => ?_)
        obtain ⟨rfl, K2, rfl, fK2⟩ := hv
        refine a_if_eq rfl (fun c => absurd c (by decide)) (fun _ => ?_)
        exact restore (GX.sU gK fK2)
    · refine a_l0 rfl rfl rfl ?_
      refine a_geti rfl gfX12_91_12 rfl ?_
      refine a_goto rfl ?_
      refine a_puti rfl pfX12_33_12 rfl ?_
      refine a_l0 rfl rfl rfl ?_
      refine a_l1 rfl rfl rfl ?_
      refine a_if_ge rfl (fun c2 => absurd c2 c) (fun _ => ?_)
      refine a_s rfl rfl ?_
      refine a_goto rfl ?_
      refine a_s rfl rfl ?_
      refine a_gV rfl lX12_243 mo_X12_throwsIf (r_X12_throwsIf (b := true)) rfl rfl rfl ⟨12, _, rfl, rfl, rfl⟩ rfl (fun v' h' hv => ?_)
      obtain ⟨rfl, K, rfl, fK⟩ := hv
      refine a_if_ne rfl (fun _ => ?_) (fun c => absurd c (by decide))
      exact restore (GX.sU (GX.up hg rfl (by decide)) fK)
  refine a_s rfl rfl ?_
  refine a_s1 rfl rfl rfl rfl rfl rfl ?_
  refine a_forE (n := 1184) (fun j => [some (.ref 420), some (.int (nI j)), none]) (fun j => hp (cpR I 423 0 421 0 j) L w1 w2 t) (by simp [lsub, nI_0]) (by rw [cpR_0]) ?_ (fun j hj ih => ?_)
  · refine a_l1 rfl rfl rfl ?_
    refine a_s rfl rfl ?_
    refine a_ic_ge rfl (fun _ => k27) (fun c => absurd (Int32.le_refl _) c)
  · refine a_l1 rfl rfl rfl ?_
    refine a_s rfl rfl ?_
    refine a_ic_ge rfl (fun c => absurd c (nI_ge (b := 1184) hj (by omega))) (fun _ => ?_)
    refine a_l0 rfl rfl rfl ?_
    refine a_getq rfl gfX12_20_12 rfl (rfl) ?_
    refine a_l1 rfl rfl rfl ?_
    refine a_l0 rfl rfl rfl ?_
    refine a_getq rfl gfX12_13_12 rfl (rfl) ?_
    refine a_l1 rfl rfl rfl ?_
    refine a_ialdv (v := I 421 (j + 0)) rfl (n := 2033) rfl (inI_nI (by omega) (by omega)) (by rw [nI_clamp (by omega), cpR_row (by decide)]; rfl) ?_
    refine a_iastv (k := 0 + j) rfl (n := 1184) rfl (inI_nI (by omega) (by omega)) (by rw [nI_clamp (by omega)]; omega) ?_
    rw [cpR_succ]
    refine a_i1 rfl rfl rfl ?_
    refine a_goto rfl ?_
    exact a_back ih (by simp [lsub, nI_1]) rfl
end T70
end
section
/-! ===== the reference: a law's draft, parts, sums, tags ===== -/
section T71
variable {S : aS} {I : Nat → Nat → Int32} {L : Nat → Nat → Int64} {w1 w2 t : Nat} {e p a n c : Nat} {s : List Bool}
set_option maxRecDepth 100000
theorem tyR_congr {cd cd' : Nat → Nat} {a : Nat} : ∀ m, (∀ i, i < m → cd (a + i) = cd' (a + i)) → tyR cd a m = tyR cd' a m := by
  intro m
  induction m with
  | zero => intro _; rfl
  | succ m ih =>
    intro h
    unfold tyR
    rw [ih (fun i hi => h i (by omega)), h m (by omega)]
theorem LineOk.congr {cd cd' : Nat → Nat} {a m : Nat} (h : LineOk cd a m) (e : ∀ i, i < m → cd (a + i) = cd' (a + i)) : LineOk cd' a m := by
  obtain ⟨h1, h2⟩ := h
  refine ⟨?_, fun j hj => ?_⟩
  · rw [← tyR_congr m e]
    exact h1
  · rw [← tyR_congr j (fun i hi => e i (by omega))]
    exact h2 j hj
/-- the codes of a draft -/
def cdD (W : Nat → Int32) (i : Nat) : Nat := trN (W (1233 + 2 * i)).toNatClampNeg (W (1233 + 2 * i + 1)).toNatClampNeg
def GdW (W : Nat → Int32) (n : Nat) : Prop := ∀ i, i < n → ∃ k m, k ≤ 15 ∧ m < 1000 ∧ W (1233 + 2 * i) = nI k ∧ W (1233 + 2 * i + 1) = nI m
def DrW (W : Nat → Int32) (a n : Nat) (s : List Bool) : Prop := a ≤ n ∧ GdW W n ∧ tyR (cdD W) a (n - a) = some s ∧ ∀ j, j ≤ n - a → ∃ t, tyR (cdD W) a j = some t ∧ t.length ≤ 24
theorem cdD_eq {W W' : Nat → Int32} {n : Nat} (h : ∀ k, k < 1233 + 2 * n → W' k = W k) {i : Nat} (hi : i < n) : cdD W' i = cdD W i := by
  unfold cdD
  rw [h _ (by omega), h _ (by omega)]
theorem DrW.em {W W' : Nat → Int32} {k m : Nat} {s' : List Bool} (h : DrW W a n s) (e0 : ∀ k, k < 1233 + 2 * n → W' k = W k) (e1 : W' (1233 + 2 * n) = nI k) (e2 : W' (1233 + 2 * n + 1) = nI m) (hk : k ≤ 15) (hm : m < 1000) (ht : tyS (trN k m) s = some s') (hl : s'.length ≤ 24) : DrW W' a (n + 1) s' := by
  obtain ⟨h1, h2, h3, h4⟩ := h
  have en : cdD W' n = trN k m := by
    unfold cdD
    rw [e1, e2, nI_clamp (by omega), nI_clamp (by omega)]
  have ec : ∀ j, j ≤ n - a → tyR (cdD W') a j = tyR (cdD W) a j := fun j hj => tyR_congr j (fun i hi => cdD_eq e0 (by omega))
  have e3 : tyR (cdD W') a (n + 1 - a) = some s' := by
    rw [show n + 1 - a = (n - a) + 1 by omega]
    unfold tyR
    rw [ec _ (Nat.le_refl _), h3, show a + (n - a) = n by omega, en]
    exact ht
  refine ⟨by omega, fun i hi => ?_, e3, fun j hj => ?_⟩
  · by_cases c : i = n
    · subst c
      exact ⟨k, m, hk, hm, e1, e2⟩
    · obtain ⟨k', m', g1, g2, g3, g4⟩ := h2 i (by omega)
      exact ⟨k', m', g1, g2, (e0 _ (by omega)).trans g3, (e0 _ (by omega)).trans g4⟩
  · by_cases c : j = n + 1 - a
    · subst c
      exact ⟨s', e3, hl⟩
    · rw [ec j (by omega)]
      exact h4 j (by omega)
/-- what reading a law may change when so many steps stand already -/
def sY (n q k : Nat) : Bool := sR q k || ((Nat.beq q 420 && (Nat.beq k 13 || Nat.beq k 16)) || (Nat.beq q 421 && Nat.ble (1233 + 2 * n) k))
theorem sR_sY : ∀ q k, sR q k = true → sY n q k = true := fun q k h => by
  unfold sY
  rw [h]
  rfl
theorem sY_lo {k : Nat} (h : k < 1233 + 2 * n) : sY n 421 k = false := by
  have e1 : Nat.ble (1233 + 2 * n) k = false := by
    cases hb : Nat.ble (1233 + 2 * n) k with
    | false => rfl
    | true => exact absurd (Nat.le_of_ble_eq_true hb) (by omega)
  show (false || (false || (true && Nat.ble (1233 + 2 * n) k))) = false
  rw [e1]
  rfl
theorem sY_hi {k : Nat} (h : 1233 + 2 * n ≤ k) : sY n 421 k = true := by
  show (false || (false || (true && Nat.ble (1233 + 2 * n) k))) = true
  rw [Nat.ble_eq_true_of_le h]
  rfl
theorem sY_mono {n' : Nat} (h : n ≤ n') : ∀ q k, sY n' q k = true → sY n q k = true := fun q k hq => by
  by_cases c : q = 421
  · subst c
    by_cases c2 : k < 1233 + 2 * n'
    · rw [sY_lo c2] at hq
      cases hq
    · exact sY_hi (by omega)
  · unfold sY at hq ⊢
    rw [beqF c] at hq ⊢
    exact hq
def Dq (e p a n : Nat) (s : List Bool) (c : Nat) (J : Nat → Nat → Int32) : Prop := Pp e p J ∧ J 420 16 = nI n ∧ n + c ≤ p ∧ DrW (J 421) a n s
def emH (J : Nat → Nat → Int32) (n : Nat) (x y : Int32) : Nat → Nat → Int32 := up2 (up2 (up2 J 421 (1233 + 2 * n) x) 421 (1233 + 2 * n + 1) y) 420 16 (nI (n + 1))
theorem emH_lo {J : Nat → Nat → Int32} {x y : Int32} {k : Nat} (h : k < 1233 + 2 * n) : emH J n x y 421 k = J 421 k := by
  unfold emH
  rw [up2_row (by decide), u2_lo (by omega), u2_lo (by omega)]
theorem emH_0 {J : Nat → Nat → Int32} {x y : Int32} : emH J n x y 421 (1233 + 2 * n) = x := by
  unfold emH
  rw [up2_row (by decide), u2_lo (by omega)]
  exact up2_at
theorem emH_1 {J : Nat → Nat → Int32} {x y : Int32} : emH J n x y 421 (1233 + 2 * n + 1) = y := by
  unfold emH
  rw [up2_row (by decide)]
  exact up2_at
theorem emH_f {J : Nat → Nat → Int32} {x y : Int32} {k : Nat} (h : k ≠ 16) : emH J n x y 420 k = J 420 k := by
  unfold emH
  rw [up2_ne (Or.inr h), up2_row (by decide), up2_row (by decide)]
theorem emH_fm {J : Nat → Nat → Int32} {x y : Int32} : Fm (sY n) J (emH J n x y) := by
  unfold emH
  exact Fm.up (Fm.up (Fm.up Fm.rf (sY_hi (Nat.le_refl _))) (sY_hi (by omega))) rfl
theorem Pp.em {J : Nat → Nat → Int32} {x y : Int32} (h : Pp e p J) : Pp e p (emH J n x y) := by
  unfold Pp
  rw [emH_f (by decide), emH_f (by decide)]
  exact h
theorem Dq.pp {J : Nat → Nat → Int32} (h : Dq e p a n s c J) : Pp e p J := h.1
theorem Dq.st {J : Nat → Nat → Int32} (h : Dq e p a n s c J) : J 420 16 = nI n := h.2.1
theorem Dq.le {J : Nat → Nat → Int32} (h : Dq e p a n s c J) : n + c ≤ 400 := by
  have := h.2.2.1
  have := Pp.le h.1
  have := Pp.e4 h.1
  omega
theorem Dq.rd {b p' : Nat} {J K : Nat → Nat → Int32} (h : Dq e p a n s c J) (r : Rd e p b p' J K) : Dq e p' a n s c K := by
  have := Rd.pb r
  have := Rd.bp r
  have h3 := h.2.2.1
  refine ⟨Rd.pp r, (Rd.fm r 420 16 rfl).trans h.2.1, by omega, ?_⟩
  rw [Rd.w r]
  exact h.2.2.2
theorem Dq.rd1 {b p' : Nat} {J K : Nat → Nat → Int32} (h : Dq e p a n s c J) (r : Rd e p b p' J K) (hb : b < p') : Dq e p' a n s (c + 1) K := by
  have := Rd.pb r
  have h3 := h.2.2.1
  refine ⟨Rd.pp r, (Rd.fm r 420 16 rfl).trans h.2.1, by omega, ?_⟩
  rw [Rd.w r]
  exact h.2.2.2
theorem Dq.em {J : Nat → Nat → Int32} {k m : Nat} {s' : List Bool} (h : Dq e p a n s (c + 1) J) (hk : k ≤ 15) (hm : m < 1000) (ht : tyS (trN k m) s = some s') (hl : s'.length ≤ 24) : Dq e p a (n + 1) s' c (emH J n (nI k) (nI m)) := by
  have h3 := h.2.2.1
  exact ⟨Pp.em h.1, up2_at, by omega, DrW.em h.2.2.2 (fun k hk => emH_lo hk) emH_0 emH_1 hk hm ht hl⟩
/-- on the way: from I, at p0 with n0 steps, to J, at p with n steps -/
def Cs (e p0 n0 a : Nat) (s : List Bool) (c : Nat) (I J : Nat → Nat → Int32) (p n : Nat) : Prop := Fm (sY n0) I J ∧ p0 ≤ p ∧ J 420 13 = I 420 13 ∧ n0 ≤ n ∧ Dq e p a n s c J
def QC (e p n a : Nat) (s : List Bool) (c : Nat) (I : Nat → Nat → Int32) (L : Nat → Nat → Int64) (w1 w2 t : Nat) : Option Value → aH → Prop := fun v h' => ∃ z J p' n', v = some (.int (bI z)) ∧ h' = hp J L w1 w2 t ∧ Fm (sY n) I J ∧ p ≤ p' ∧ Pp e p' J ∧ (z = true → J 420 13 = I 420 13 ∧ n ≤ n' ∧ Dq e p' a n' s c J)
theorem Cs.rf (h : Dq e p a n s c I) : Cs e p n a s c I I p n := ⟨Fm.rf, Nat.le_refl _, rfl, Nat.le_refl _, h⟩
theorem Cs.dq {p0 n0 : Nat} {J : Nat → Nat → Int32} (h : Cs e p0 n0 a s c I J p n) : Dq e p a n s c J := h.2.2.2.2
theorem Cs.pp {p0 n0 : Nat} {J : Nat → Nat → Int32} (h : Cs e p0 n0 a s c I J p n) : Pp e p J := h.2.2.2.2.1
theorem Cs.fr {p0 n0 : Nat} {J K : Nat → Nat → Int32} (h : Cs e p0 n0 a s c I J p n) (f : Fm (sY n) J K) : Fm (sY n0) I K := Fm.tr h.1 (Fm.mo f (sY_mono h.2.2.2.1))
theorem Cs.rd {p0 n0 b p' : Nat} {J K : Nat → Nat → Int32} (h : Cs e p0 n0 a s c I J p n) (r : Rd e p b p' J K) : Cs e p0 n0 a s c I K p' n := ⟨Cs.fr h (Fm.mo (Rd.fm r) sR_sY), Nat.le_trans h.2.1 (Nat.le_trans (Rd.pb r) (Rd.bp r)), (Rd.fm r 420 13 rfl).trans h.2.2.1, h.2.2.2.1, Dq.rd (Cs.dq h) r⟩
theorem Cs.rd1 {p0 n0 b p' : Nat} {J K : Nat → Nat → Int32} (h : Cs e p0 n0 a s c I J p n) (r : Rd e p b p' J K) (hb : b < p') : Cs e p0 n0 a s (c + 1) I K p' n := ⟨Cs.fr h (Fm.mo (Rd.fm r) sR_sY), Nat.le_trans h.2.1 (Nat.le_trans (Rd.pb r) (Rd.bp r)), (Rd.fm r 420 13 rfl).trans h.2.2.1, h.2.2.2.1, Dq.rd1 (Cs.dq h) r hb⟩
theorem Cs.st {p0 n0 p' n' c' : Nat} {s' : List Bool} {J K : Nat → Nat → Int32} (h : Cs e p0 n0 a s c I J p n) (f : Fm (sY n) J K) (hp' : p ≤ p') (g : K 420 13 = J 420 13 ∧ n ≤ n' ∧ Dq e p' a n' s' c' K) : Cs e p0 n0 a s' c' I K p' n' := ⟨Cs.fr h f, Nat.le_trans h.2.1 hp', g.1.trans h.2.2.1, Nat.le_trans h.2.2.2.1 g.2.1, g.2.2⟩
theorem Cs.em {p0 n0 k m : Nat} {s' : List Bool} {J : Nat → Nat → Int32} (h : Cs e p0 n0 a s (c + 1) I J p n) (hk : k ≤ 15) (hm : m < 1000) (ht : tyS (trN k m) s = some s') (hl : s'.length ≤ 24) : Cs e p0 n0 a s' c I (emH J n (nI k) (nI m)) p (n + 1) := ⟨Cs.fr h emH_fm, h.2.1, (emH_f (by decide)).trans h.2.2.1, Nat.le_trans h.2.2.2.1 (Nat.le_succ _), Dq.em (Cs.dq h) hk hm ht hl⟩
theorem QC.yes {p0 n0 : Nat} {J : Nat → Nat → Int32} (h : Cs e p0 n0 a s c I J p n) : QC e p0 n0 a s c I L w1 w2 t (some (.int (bI true))) (hp J L w1 w2 t) := ⟨true, J, p, n, rfl, rfl, h.1, h.2.1, Cs.pp h, fun _ => ⟨h.2.2.1, h.2.2.2.1, Cs.dq h⟩⟩
theorem QC.no {p0 n0 : Nat} {s' : List Bool} {J : Nat → Nat → Int32} (f : Fm (sY n0) I J) (hpp : p0 ≤ p) (hq : Pp e p J) : QC e p0 n0 a s' c I L w1 w2 t (some (.int (bI false))) (hp J L w1 w2 t) := ⟨false, J, p, 0, rfl, rfl, f, hpp, hq, fun z => by cases z⟩
theorem QC.fc {p0 n0 p' c' : Nat} {s' : List Bool} {J K : Nat → Nat → Int32} (h : Cs e p0 n0 a s c I J p n) (f : Fm (sY n) J K) (hpp : p ≤ p') (hq : Pp e p' K) : QC e p0 n0 a s' c' I L w1 w2 t (some (.int (bI false))) (hp K L w1 w2 t) := QC.no (Cs.fr h f) (Nat.le_trans h.2.1 hpp) hq
theorem QC.f0 {p0 n0 c' : Nat} {s' : List Bool} {J : Nat → Nat → Int32} (h : Cs e p0 n0 a s c I J p n) : QC e p0 n0 a s' c' I L w1 w2 t (some (.int (bI false))) (hp J L w1 w2 t) := QC.no h.1 h.2.1 (Cs.pp h)
theorem r_X12_emits (hn : I 420 16 = nI n) (h4 : n ≤ 399) {x y : Int32} : SpE S m_X12_emits 12 [.ref 420, .int x, .int y] (hp I L w1 w2 t) none (hp (emH I n x y) L w1 w2 t) := by
  refine SpE_of ok_X12_emits rfl rfl ?_
  show AW S m_X12_emits 12 _ _ 0 0 0 [some (.ref 420), some (.int x), some (.int y)] [] (hp I L w1 w2 t)
  refine a_l0 rfl rfl rfl ?_
  refine a_getq rfl gfX12_13_12 rfl (rfl) ?_
  refine a_s rfl rfl ?_
  refine a_s rfl rfl ?_
  refine a_l0 rfl rfl rfl ?_
  refine a_geti rfl gfX12_168_12 rfl ?_
  refine a_top (y := nI n) (hn) ?_
  refine a_s rfl rfl ?_
  refine a_top (y := nI (2 * n)) (nI_mul 2 n) ?_
  refine a_s rfl rfl ?_
  refine a_top (y := nI (1233 + 2 * n)) (nI_addl 1233 (2 * n)) ?_
  refine a_l1 rfl rfl rfl ?_
  refine a_iastv (k := 1233 + 2 * n) rfl (n := 2033) rfl (inI_nI (by omega) (by omega)) (nI_clamp (by omega)) ?_
  refine a_l0 rfl rfl rfl ?_
  refine a_getq rfl gfX12_13_12 rfl (rfl) ?_
  refine a_s rfl rfl ?_
  refine a_s rfl rfl ?_
  refine a_l0 rfl rfl rfl ?_
  refine a_geti rfl gfX12_168_12 rfl ?_
  refine a_top (y := nI n) ((congrFun (up2_row (by decide)) 16).trans hn) ?_
  refine a_s rfl rfl ?_
  refine a_top (y := nI (2 * n)) (nI_mul 2 n) ?_
  refine a_s rfl rfl ?_
  refine a_top (y := nI (1233 + 2 * n)) (nI_addl 1233 (2 * n)) ?_
  refine a_s rfl rfl ?_
  refine a_s rfl rfl ?_
  refine a_top (y := nI (1233 + 2 * n + 1)) ((nI_succ _).symm) ?_
  refine a_l2 rfl rfl rfl ?_
  refine a_iastv (k := 1233 + 2 * n + 1) rfl (n := 2033) rfl (inI_nI (by omega) (by omega)) (nI_clamp (by omega)) ?_
  refine a_l0 rfl rfl rfl ?_
  refine a_s rfl rfl ?_
  refine a_geti rfl gfX12_168_12 rfl ?_
  refine a_top (y := nI n) (((congrFun (up2_row (by decide)) 16).trans (congrFun (up2_row (by decide)) 16)).trans hn) ?_
  refine a_s rfl rfl ?_
  refine a_s rfl rfl ?_
  refine a_top (y := nI (n + 1)) ((nI_succ _).symm) ?_
  refine a_puti rfl pfX12_168_12 rfl ?_
  exact a_vret rfl rfl ⟨rfl, rfl⟩
theorem r_X12_wordOfPart {b : Nat} (hw : WdS S) (h12 : I 420 12 = nI b) (hbp : b ≤ p) (hq : Pp e p I) : Sp S m_X12_wordOfPart 17 0 0 [.ref 420] (hp I L w1 w2 t) (fun v h' => h' = hp I L w1 w2 t ∧ ∃ x, v = some (.int x) ∧ (x = -1 ∨ (b < p ∧ ∃ k, k ≤ 6 ∧ x = nI k))) nX := by
  refine Sp_of ok_X12_wordOfPart rfl rfl ?_
  show AW S m_X12_wordOfPart 17 _ _ 0 0 0 [some (.ref 420)] [] (hp I L w1 w2 t)
  refine a_l0 rfl rfl rfl ?_
  refine a_ldcs (q := 130 + 3) rfl (hw.ld (i := 3) (by decide)) ?_
  refine a_gV rfl lX12_109 mo_X12_isWord (r_X12_isWord (k := 3) hw (by decide) h12 hbp hq) rfl rfl rfl ⟨12, _, rfl, rfl, rfl⟩ rfl (fun v' h' hv => ?_)
  obtain ⟨rfl, z, rfl, hz⟩ := hv
  refine a_if_eq rfl (fun _ => ?_) (fun cz => ?_)
  rotate_left
  · refine a_s rfl rfl ?_
    exact a_iret rfl rfl ⟨rfl, _, rfl, Or.inr ⟨hz (bI_t cz), 0, by decide, rfl⟩⟩
  refine a_l0 rfl rfl rfl ?_
  refine a_ldcs (q := 130 + 24) rfl (hw.ld (i := 24) (by decide)) ?_
  refine a_gV rfl lX12_109 mo_X12_isWord (r_X12_isWord (k := 24) hw (by decide) h12 hbp hq) rfl rfl rfl ⟨12, _, rfl, rfl, rfl⟩ rfl (fun v' h' hv => ?_)
  obtain ⟨rfl, z, rfl, hz⟩ := hv
  refine a_if_eq rfl (fun _ => ?_) (fun cz => ?_)
  rotate_left
  · refine a_s rfl rfl ?_
    exact a_iret rfl rfl ⟨rfl, _, rfl, Or.inr ⟨hz (bI_t cz), 1, by decide, rfl⟩⟩
  refine a_l0 rfl rfl rfl ?_
  refine a_ldcs (q := 130 + 6) rfl (hw.ld (i := 6) (by decide)) ?_
  refine a_gV rfl lX12_109 mo_X12_isWord (r_X12_isWord (k := 6) hw (by decide) h12 hbp hq) rfl rfl rfl ⟨12, _, rfl, rfl, rfl⟩ rfl (fun v' h' hv => ?_)
  obtain ⟨rfl, z, rfl, hz⟩ := hv
  refine a_if_eq rfl (fun _ => ?_) (fun cz => ?_)
  rotate_left
  · refine a_s rfl rfl ?_
    exact a_iret rfl rfl ⟨rfl, _, rfl, Or.inr ⟨hz (bI_t cz), 2, by decide, rfl⟩⟩
  refine a_l0 rfl rfl rfl ?_
  refine a_ldcs (q := 130 + 7) rfl (hw.ld (i := 7) (by decide)) ?_
  refine a_gV rfl lX12_109 mo_X12_isWord (r_X12_isWord (k := 7) hw (by decide) h12 hbp hq) rfl rfl rfl ⟨12, _, rfl, rfl, rfl⟩ rfl (fun v' h' hv => ?_)
  obtain ⟨rfl, z, rfl, hz⟩ := hv
  refine a_if_eq rfl (fun _ => ?_) (fun cz => ?_)
  rotate_left
  · refine a_s rfl rfl ?_
    exact a_iret rfl rfl ⟨rfl, _, rfl, Or.inr ⟨hz (bI_t cz), 3, by decide, rfl⟩⟩
  refine a_l0 rfl rfl rfl ?_
  refine a_ldcs (q := 130 + 25) rfl (hw.ld (i := 25) (by decide)) ?_
  refine a_gV rfl lX12_109 mo_X12_isWord (r_X12_isWord (k := 25) hw (by decide) h12 hbp hq) rfl rfl rfl ⟨12, _, rfl, rfl, rfl⟩ rfl (fun v' h' hv => ?_)
  obtain ⟨rfl, z, rfl, hz⟩ := hv
  refine a_if_eq rfl (fun _ => ?_) (fun cz => ?_)
  rotate_left
  · refine a_s rfl rfl ?_
    exact a_iret rfl rfl ⟨rfl, _, rfl, Or.inr ⟨hz (bI_t cz), 4, by decide, rfl⟩⟩
  refine a_l0 rfl rfl rfl ?_
  refine a_ldcs (q := 130 + 26) rfl (hw.ld (i := 26) (by decide)) ?_
  refine a_gV rfl lX12_109 mo_X12_isWord (r_X12_isWord (k := 26) hw (by decide) h12 hbp hq) rfl rfl rfl ⟨12, _, rfl, rfl, rfl⟩ rfl (fun v' h' hv => ?_)
  obtain ⟨rfl, z, rfl, hz⟩ := hv
  refine a_if_eq rfl (fun _ => ?_) (fun cz => ?_)
  rotate_left
  · refine a_s rfl rfl ?_
    exact a_iret rfl rfl ⟨rfl, _, rfl, Or.inr ⟨hz (bI_t cz), 5, by decide, rfl⟩⟩
  refine a_l0 rfl rfl rfl ?_
  refine a_ldcs (q := 130 + 13) rfl (hw.ld (i := 13) (by decide)) ?_
  refine a_gV rfl lX12_109 mo_X12_isWord (r_X12_isWord (k := 13) hw (by decide) h12 hbp hq) rfl rfl rfl ⟨12, _, rfl, rfl, rfl⟩ rfl (fun v' h' hv => ?_)
  obtain ⟨rfl, z, rfl, hz⟩ := hv
  refine a_if_eq rfl (fun _ => ?_) (fun cz => ?_)
  rotate_left
  · refine a_s rfl rfl ?_
    refine a_goto rfl ?_
    exact a_iret rfl rfl ⟨rfl, _, rfl, Or.inr ⟨hz (bI_t cz), 6, by decide, rfl⟩⟩
  · refine a_s rfl rfl ?_
    exact a_iret rfl rfl ⟨rfl, _, rfl, Or.inl rfl⟩
theorem trN_num : ∀ m, m < 1000 → tyS (trN 9 m) s = some (false :: s) := by
  intro m hm
  show tyS m s = _
  unfold tyS
  rw [if_pos (by omega)]
theorem trN_fac : ∀ k, k ≤ 6 → tyS (trN k 0) s = some (false :: s) := by
  intro k hk
  have : trN k 0 = 1000 + k := by
    unfold trN
    rw [if_neg (by omega), if_pos (by omega)]
  rw [this]
  unfold tyS
  rw [if_pos (by omega)]
theorem r_X12_readPart (hw : WdS S) (hc : 1 ≤ c) (hl : s.length + 1 ≤ 24) (h : Dq e p a n s c I) : Sp S m_X12_readPart 18 0 0 [.ref 420] (hp I L w1 w2 t) (QC e p n a (false :: s) c I L w1 w2 t) nX := by
  refine Sp_of ok_X12_readPart rfl rfl ?_
  show AW S m_X12_readPart 18 _ _ 0 0 0 [some (.ref 420), none, none] [] (hp I L w1 w2 t)
  have bad : ∀ {z : Bool} {p' : Nat} {J : Nat → Nat → Int32}, Cs e p n a s c I J p' n → AW S m_X12_readPart 18 (QC e p n a (false :: s) c I L w1 w2 t) nX 0 0 40 [some (.ref 420), some (.int (bI z)), none] [.int (-1)] (hp J L w1 w2 t) := by
    intro z p' J h2
    have hle := Dq.le (Cs.dq h2)
    have fin : ∀ {x y : Int32}, AW S m_X12_readPart 18 (QC e p n a (false :: s) c I L w1 w2 t) nX 0 0 61 [some (.ref 420), some (.int (bI z)), some (.int (-1))] [.int y, .int x, .ref 420] (hp J L w1 w2 t) := by
      intro x y
      refine a_eV0 rfl lX12_180 mo_X12_emits (r_X12_emits (Dq.st (Cs.dq h2)) (by omega)) rfl rfl rfl ⟨12, _, rfl, rfl, rfl⟩ rfl ?_
      refine a_l2 rfl rfl rfl ?_
      refine a_if_lt rfl (fun _ => ?_) (fun c => absurd (by decide) c)
      refine a_s rfl rfl ?_
      exact a_zret rfl rfl rfl (QC.fc h2 emH_fm (Nat.le_refl _) (Pp.em (Cs.pp h2)))
    refine a_s2 rfl rfl rfl rfl rfl rfl ?_
    refine a_l0 rfl rfl rfl ?_
    refine a_l1 rfl rfl rfl ?_
    cases z with
    | false =>
      refine a_if_eq rfl (fun _ => ?_) (fun c => absurd rfl c)
      refine a_l2 rfl rfl rfl ?_
      refine a_l1 rfl rfl rfl ?_
      refine a_if_eq rfl (fun _ => ?_) (fun c => absurd rfl c)
      refine a_s rfl rfl ?_
      exact fin
    | true =>
      refine a_if_eq rfl (fun c => absurd c (by decide)) (fun _ => ?_)
      refine a_s rfl rfl ?_
      refine a_goto rfl ?_
      refine a_l1 rfl rfl rfl ?_
      refine a_if_eq rfl (fun c => absurd c (by decide)) (fun _ => ?_)
      refine a_l2 rfl rfl rfl ?_
      refine a_goto rfl ?_
      exact fin
  have good : ∀ {p' k m : Nat} {x : Int32} {J : Nat → Nat → Int32}, Cs e p n a s (c + 1) I J p' n → k ≤ 15 → m < 1000 → tyS (trN k m) s = some (false :: s) → ¬ x < 0 → AW S m_X12_readPart 18 (QC e p n a (false :: s) c I L w1 w2 t) nX 0 0 61 [some (.ref 420), none, some (.int x)] [.int (nI m), .int (nI k), .ref 420] (hp J L w1 w2 t) := by
    intro p' k m x J h2 hk hm ht hx
    have hle := Dq.le (Cs.dq h2)
    refine a_eV0 rfl lX12_180 mo_X12_emits (r_X12_emits (Dq.st (Cs.dq h2)) (by omega)) rfl rfl rfl ⟨12, _, rfl, rfl, rfl⟩ rfl ?_
    refine a_l2 rfl rfl rfl ?_
    refine a_if_lt rfl (fun c => absurd c hx) (fun _ => ?_)
    refine a_s rfl rfl ?_
    refine a_goto rfl ?_
    exact a_zret rfl rfl rfl (QC.yes (Cs.em h2 hk hm ht hl))
  refine a_l0 rfl rfl rfl ?_
  refine a_gV rfl lX12_106 mo_X12_letters (r_X12_letters (Dq.pp h)) rfl rfl rfl ⟨12, _, rfl, rfl, rfl⟩ rfl (fun v' h' hv => ?_)
  obtain ⟨rfl, J1, b1, p1, rfl, h1⟩ := hv
  have C1 := Cs.rd (Cs.rf h) h1
  refine a_l0 rfl rfl rfl ?_
  refine a_geti rfl gfX12_81_12 rfl ?_
  refine a_top (y := nI p1) (Pp.pu (Rd.pp h1)) ?_
  refine a_l0 rfl rfl rfl ?_
  refine a_geti rfl gfX12_91_12 rfl ?_
  refine a_top (y := nI b1) (Rd.be h1) ?_
  refine a_ic_ne rfl (fun _ => ?_) (fun _ => ?_)
  · refine a_s rfl rfl ?_
    refine a_s1 rfl rfl rfl rfl rfl rfl ?_
    refine a_l1 rfl rfl rfl ?_
    refine a_if_eq rfl (fun _ => ?_) (fun c => absurd rfl c)
    refine a_l0 rfl rfl rfl ?_
    refine a_gV rfl lX12_177 mo_X12_wordOfPart (r_X12_wordOfPart hw (Rd.be h1) (Rd.bp h1) (Rd.pp h1)) rfl rfl rfl ⟨12, _, rfl, rfl, rfl⟩ rfl (fun v' h' hv => ?_)
    obtain ⟨rfl, x, rfl, hx⟩ := hv
    rcases hx with rfl | ⟨hlt, k, hk, rfl⟩
    · exact bad (z := false) C1
    · refine a_s2 rfl rfl rfl rfl rfl rfl ?_
      refine a_l0 rfl rfl rfl ?_
      refine a_l1 rfl rfl rfl ?_
      refine a_if_eq rfl (fun _ => ?_) (fun c => absurd rfl c)
      refine a_l2 rfl rfl rfl ?_
      refine a_l1 rfl rfl rfl ?_
      refine a_if_eq rfl (fun _ => ?_) (fun c => absurd rfl c)
      refine a_s rfl rfl ?_
      exact a_less (good (m := 0) (Cs.rd1 (Cs.rf h) h1 hlt) (by omega) (by decide) (trN_fac k hk) (nI_pos (by omega))) ⟨rfl, rfl, trivial⟩
  · refine a_s rfl rfl ?_
    refine a_goto rfl ?_
    refine a_s1 rfl rfl rfl rfl rfl rfl ?_
    refine a_l1 rfl rfl rfl ?_
    refine a_if_eq rfl (fun c => absurd c (by decide)) (fun _ => ?_)
    refine a_l0 rfl rfl rfl ?_
    refine a_s rfl rfl ?_
    refine a_s rfl rfl ?_
    refine a_gV rfl lX12_113 mo_X12_number (r_X12_number (Rd.pp h1)) rfl rfl rfl ⟨12, _, rfl, rfl, rfl⟩ rfl (fun v' h' hv => ?_)
    obtain ⟨x, b2, p2, J2, rfl, rfl, h2, hx⟩ := hv
    refine a_goto rfl ?_
    rcases hx with rfl | ⟨hlt, hx0, hx9⟩
    · exact bad (z := true) (Cs.rd C1 h2)
    · obtain ⟨m, -, hm, rfl⟩ := inB_nI (a := 0) (b := 999) (by decide) (le0 hx0 hx9)
      refine a_s2 rfl rfl rfl rfl rfl rfl ?_
      refine a_l0 rfl rfl rfl ?_
      refine a_l1 rfl rfl rfl ?_
      refine a_if_eq rfl (fun c => absurd c (by decide)) (fun _ => ?_)
      refine a_s rfl rfl ?_
      refine a_goto rfl ?_
      refine a_l1 rfl rfl rfl ?_
      refine a_if_eq rfl (fun c => absurd c (by decide)) (fun _ => ?_)
      refine a_l2 rfl rfl rfl ?_
      refine a_goto rfl ?_
      exact a_less (good (k := 9) (Cs.rd1 C1 h2 hlt) (by decide) (by omega) (trN_num m (by omega)) (nI_pos (by omega))) ⟨rfl, rfl, trivial⟩
theorem r_X12_readSum (hw : WdS S) (hc : 1 ≤ c) (hl : s.length + 2 ≤ 24) (h : Dq e p a n s c I) : Sp S m_X12_readSum 19 0 0 [.ref 420] (hp I L w1 w2 t) (QC e p n a (false :: s) c I L w1 w2 t) nX := by
  refine Sp_of ok_X12_readSum rfl rfl ?_
  show AW S m_X12_readSum 19 _ _ 0 0 0 [some (.ref 420)] [] (hp I L w1 w2 t)
  refine a_l0 rfl rfl rfl ?_
  refine a_gV rfl lX12_184 mo_X12_readPart (r_X12_readPart hw hc (by omega) h) rfl rfl rfl ⟨12, _, rfl, rfl, rfl⟩ rfl (fun v' h' hv => ?_)
  obtain ⟨z, J1, p1, n1, rfl, rfl, f1, hp1, hq1, hz1⟩ := hv
  refine a_if_ne rfl (fun cz => ?_) (fun _ => ?_)
  rotate_left
  · refine a_s rfl rfl ?_
    exact a_zret rfl rfl rfl (QC.no f1 hp1 hq1)
  have C1 := Cs.st (Cs.rf h) f1 hp1 (hz1 (bI_t cz))
  refine a_inv (n := e - p1) (fun m ls h => ls = [some (.ref 420)] ∧ ∃ J p' n', h = hp J L w1 w2 t ∧ Cs e p n a (false :: s) c I J p' n' ∧ m = e - p') ⟨rfl, J1, p1, n1, rfl, C1, rfl⟩ ?_
  rintro m _ _ ⟨rfl, J, p', n', rfl, C, hm⟩ ih
  refine a_l0 rfl rfl rfl ?_
  refine a_s rfl rfl ?_
  refine a_gV rfl lX12_187 mo_X12_sign (r_X12_sign (Cs.pp C)) rfl rfl rfl ⟨12, _, rfl, rfl, rfl⟩ rfl (fun v' h' hv => ?_)
  obtain ⟨z2, b2, p2, J2, rfl, rfl, h2, hz2⟩ := hv
  refine a_if_eq rfl (fun _ => ?_) (fun cz2 => ?_)
  · refine a_s rfl rfl ?_
    exact a_zret rfl rfl rfl (QC.yes (Cs.rd C h2))
  have hlt := hz2 (bI_t cz2)
  have C2 := Cs.rd1 C h2 hlt
  have q2 := Rd.pb h2
  have q3 := Pp.le (Cs.pp C2)
  refine a_l0 rfl rfl rfl ?_
  refine a_gV rfl lX12_184 mo_X12_readPart (r_X12_readPart hw (by omega) (by simp only [List.length_cons]; omega) (Cs.dq C2)) rfl rfl rfl ⟨12, _, rfl, rfl, rfl⟩ rfl (fun v' h' hv => ?_)
  obtain ⟨z3, J3, p3, n3, rfl, rfl, f3, hp3, hq3, hz3⟩ := hv
  refine a_if_ne rfl (fun cz3 => ?_) (fun _ => ?_)
  rotate_left
  · refine a_s rfl rfl ?_
    exact a_zret rfl rfl rfl (QC.fc C2 f3 hp3 hq3)
  have C3 := Cs.st C2 f3 hp3 (hz3 (bI_t cz3))
  have hle := Dq.le (Cs.dq C3)
  refine a_l0 rfl rfl rfl ?_
  refine a_s rfl rfl ?_
  refine a_s rfl rfl ?_
  refine a_eV0 rfl lX12_180 mo_X12_emits (r_X12_emits (Dq.st (Cs.dq C3)) (by omega)) rfl rfl rfl ⟨12, _, rfl, rfl, rfl⟩ rfl ?_
  refine a_goto rfl ?_
  exact ih (e - p3) _ _ (by omega) ⟨rfl, _, p3, n3 + 1, rfl, Cs.em (k := 10) (m := 0) C3 (by decide) (by decide) rfl (by simp only [List.length_cons]; omega), rfl⟩
theorem r_X12_readTag (hw : WdS S) (hl : s.length + 1 ≤ 24) (h : Dq e p a n s c I) : Sp S m_X12_readTag 17 0 0 [.ref 420] (hp I L w1 w2 t) (fun v h' => ∃ z J p' n', v = some (.int (bI z)) ∧ h' = hp J L w1 w2 t ∧ (z = true → Cs e p n a (true :: s) c I J p' n') ∧ (z = false → Cs e p n a s c I J p' n)) nX := by
  refine Sp_of ok_X12_readTag rfl rfl ?_
  show AW S m_X12_readTag 17 _ _ 0 0 0 [some (.ref 420), none] [] (hp I L w1 w2 t)
  refine a_l0 rfl rfl rfl ?_
  refine a_gV rfl lX12_106 mo_X12_letters (r_X12_letters (Dq.pp h)) rfl rfl rfl ⟨12, _, rfl, rfl, rfl⟩ rfl (fun v' h' hv => ?_)
  obtain ⟨rfl, J1, b1, p1, rfl, h1⟩ := hv
  have good : ∀ k, k = 7 ∨ k = 8 → b1 < p1 → AW S m_X12_readTag 17 (fun v h' => ∃ z J p' n', v = some (.int (bI z)) ∧ h' = hp J L w1 w2 t ∧ (z = true → Cs e p n a (true :: s) c I J p' n') ∧ (z = false → Cs e p n a s c I J p' n)) nX 0 0 33 [some (.ref 420), none] [.int (nI k)] (hp J1 L w1 w2 t) := by
    intro k hk hlt
    have C1 := Cs.rd1 (Cs.rf h) h1 hlt
    have hle := Dq.le (Cs.dq C1)
    refine a_s1 rfl rfl rfl rfl rfl rfl ?_
    refine a_l1 rfl rfl rfl ?_
    refine a_if_lt rfl (fun c => absurd c (nI_pos (by omega))) (fun _ => ?_)
    refine a_l0 rfl rfl rfl ?_
    refine a_l1 rfl rfl rfl ?_
    refine a_s rfl rfl ?_
    refine a_eV0 rfl lX12_180 mo_X12_emits (r_X12_emits (Dq.st (Cs.dq C1)) (by omega)) rfl rfl rfl ⟨12, _, rfl, rfl, rfl⟩ rfl ?_
    refine a_goto rfl ?_
    refine a_l1 rfl rfl rfl ?_
    refine a_if_lt rfl (fun c => absurd c (nI_pos (by omega))) (fun _ => ?_)
    refine a_s rfl rfl ?_
    refine a_goto rfl ?_
    have ht : tyS (trN k 0) s = some (true :: s) := by
      rcases hk with rfl | rfl <;> rfl
    exact a_zret rfl rfl rfl ⟨true, _, p1, n + 1, rfl, rfl, fun _ => Cs.em (m := 0) C1 (by omega) (by decide) ht hl, fun z => by cases z⟩
  refine a_l0 rfl rfl rfl ?_
  refine a_ldcs (q := 130 + 22) rfl (hw.ld (i := 22) (by decide)) ?_
  refine a_gV rfl lX12_109 mo_X12_isWord (r_X12_isWord (k := 22) hw (by decide) (Rd.be h1) (Rd.bp h1) (Rd.pp h1)) rfl rfl rfl ⟨12, _, rfl, rfl, rfl⟩ rfl (fun v' h' hv => ?_)
  obtain ⟨rfl, z, rfl, hz⟩ := hv
  refine a_if_eq rfl (fun _ => ?_) (fun cz => ?_)
  rotate_left
  · refine a_s rfl rfl ?_
    refine a_goto rfl ?_
    exact good 7 (Or.inl rfl) (hz (bI_t cz))
  refine a_l0 rfl rfl rfl ?_
  refine a_ldcs (q := 130 + 23) rfl (hw.ld (i := 23) (by decide)) ?_
  refine a_gV rfl lX12_109 mo_X12_isWord (r_X12_isWord (k := 23) hw (by decide) (Rd.be h1) (Rd.bp h1) (Rd.pp h1)) rfl rfl rfl ⟨12, _, rfl, rfl, rfl⟩ rfl (fun v' h' hv => ?_)
  obtain ⟨rfl, z2, rfl, hz2⟩ := hv
  refine a_if_eq rfl (fun _ => ?_) (fun cz => ?_)
  rotate_left
  · refine a_s rfl rfl ?_
    refine a_goto rfl ?_
    exact good 8 (Or.inr rfl) (hz2 (bI_t cz))
  refine a_s rfl rfl ?_
  refine a_s1 rfl rfl rfl rfl rfl rfl ?_
  refine a_l1 rfl rfl rfl ?_
  refine a_if_lt rfl (fun _ => ?_) (fun c => absurd (by decide) c)
  refine a_l0 rfl rfl rfl ?_
  refine a_l0 rfl rfl rfl ?_
  refine a_geti rfl gfX12_91_12 rfl ?_
  refine a_top (y := nI b1) (Rd.be h1) ?_
  refine a_puti rfl pfX12_81_12 rfl ?_
  refine a_l1 rfl rfl rfl ?_
  refine a_if_lt rfl (fun _ => ?_) (fun c => absurd (by decide) c)
  refine a_s rfl rfl ?_
  exact a_zret rfl rfl rfl ⟨false, _, b1, n, rfl, rfl, (fun z => by cases z), fun _ => Cs.rd (Cs.rf h) (Rd.rs h1)⟩
end T71
end
