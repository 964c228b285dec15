/-! ===== the reference: what is walked by hand ===== -/
section H59
variable {S : aS} {I : Nat → Nat → Int32} {L : Nat → Nat → Int64} {w1 w2 t : Nat} {nd np : Nat}
set_option maxRecDepth 100000
theorem r_X12_noDuty (hs : SO nd np (I 421)) {x : Int32} : SpE S m_X12_noDuty 13 [.ref 420, .int x] (hp I L w1 w2 t) (some (.int (bI (!inB x 0 (nI nd - 1))))) (hp I L w1 w2 t) := by
  refine SpE_of ok_X12_noDuty rfl rfl ?_
  show AW S m_X12_noDuty 13 _ _ 0 0 0 [some (.ref 420), some (.int x)] [] (hp I L w1 w2 t)
  refine a_l1 rfl rfl rfl ?_
  refine a_s rfl rfl ?_
  refine a_l0 rfl rfl rfl ?_
  refine a_eV1 rfl lX12_74 mo_X12_duties sp_X12_duties rfl rfl rfl ⟨12, _, rfl, rfl, rfl⟩ rfl ?_
  refine a_top (y := nI nd) hs.du ?_
  refine a_s rfl rfl ?_
  refine a_s rfl rfl ?_
  refine a_eS1 rfl lX12_70 mo_X12_in sp_X12_in rfl rfl rfl rfl ?_
  refine a_if_ne rfl (fun c => ?_) (fun c => ?_)
  · refine a_s rfl rfl ?_
    exact a_zret rfl rfl rfl ⟨by rw [bI_t c]; rfl, rfl⟩
  · refine a_s rfl rfl ?_
    refine a_goto rfl ?_
    exact a_zret rfl rfl rfl ⟨by rw [bI_f c]; rfl, rfl⟩
theorem r_X12_noPerson (hs : SO nd np (I 421)) {x : Int32} : SpE S m_X12_noPerson 13 [.ref 420, .int x] (hp I L w1 w2 t) (some (.int (bI (!inB x 0 (nI np - 1))))) (hp I L w1 w2 t) := by
  refine SpE_of ok_X12_noPerson rfl rfl ?_
  show AW S m_X12_noPerson 13 _ _ 0 0 0 [some (.ref 420), some (.int x)] [] (hp I L w1 w2 t)
  refine a_l1 rfl rfl rfl ?_
  refine a_s rfl rfl ?_
  refine a_l0 rfl rfl rfl ?_
  refine a_eV1 rfl lX12_66 mo_X12_people sp_X12_people rfl rfl rfl ⟨12, _, rfl, rfl, rfl⟩ rfl ?_
  refine a_top (y := nI np) hs.pu ?_
  refine a_s rfl rfl ?_
  refine a_s rfl rfl ?_
  refine a_eS1 rfl lX12_70 mo_X12_in sp_X12_in rfl rfl rfl rfl ?_
  refine a_if_ne rfl (fun c => ?_) (fun c => ?_)
  · refine a_s rfl rfl ?_
    exact a_zret rfl rfl rfl ⟨by rw [bI_t c]; rfl, rfl⟩
  · refine a_s rfl rfl ?_
    refine a_goto rfl ?_
    exact a_zret rfl rfl rfl ⟨by rw [bI_f c]; rfl, rfl⟩
theorem r_X12_throwsIf {b : Bool} {x : Int32} : Sp S m_X12_throwsIf 12 0 0 [.ref 420, .int (bI b), .int x] (hp I L w1 w2 t) (fun v h' => v = some (.int (bI b)) ∧ ∃ I', h' = hp I' L w1 w2 t ∧ Fm sU I I') nX := by
  refine Sp_of ok_X12_throwsIf rfl rfl ?_
  show AW S m_X12_throwsIf 12 _ _ 0 0 0 [some (.ref 420), some (.int (bI b)), some (.int x)] [] (hp I L w1 w2 t)
  refine a_l1 rfl rfl rfl ?_
  refine a_if_eq rfl (fun c => ?_) (fun c => ?_)
  · refine a_l1 rfl rfl rfl ?_
    exact a_zret rfl rfl (bI_nar _) ⟨rfl, _, rfl, Fm.rf⟩
  · refine a_l0 rfl rfl rfl ?_
    refine a_l2 rfl rfl rfl ?_
    refine a_puti rfl pfX12_3_12 rfl ?_
    refine a_l1 rfl rfl rfl ?_
    exact a_zret rfl rfl (bI_nar _) ⟨rfl, _, rfl, Fm.up Fm.rf rfl⟩
theorem r_X12_has {x y : Int32} : Sp S m_X12_has 12 0 0 [.int x, .int y] (hp I L w1 w2 t) (QE isZ (hp I L w1 w2 t)) nX := by
  refine Sp_of ok_X12_has rfl rfl ?_
  show AW S m_X12_has 12 _ _ 0 0 0 [some (.int x), some (.int y)] [] (hp I L w1 w2 t)
  refine a_l0 rfl rfl rfl ?_
  refine a_l1 rfl rfl rfl ?_
  refine a_s rfl rfl ?_
  refine a_s rfl rfl ?_
  refine a_s rfl rfl ?_
  refine a_s rfl rfl ?_
  refine a_ic_ne rfl (fun c => ?_) (fun c => ?_)
  · refine a_s rfl rfl ?_
    exact a_zret rfl rfl rfl ⟨⟨false, rfl⟩, rfl⟩
  · refine a_s rfl rfl ?_
    refine a_goto rfl ?_
    exact a_zret rfl rfl rfl ⟨⟨true, rfl⟩, rfl⟩
theorem r_X12_growsBy (hs : SO nd np (I 421)) (hw : LwW (I 421)) (lg : LgW (I 421)) {i1 : Nat} (hi1 : i1 < nd) : Sp S m_X12_growsBy 19 0 0 [.ref 420, .int (nI i1)] (hp I L w1 w2 t) (QR (Fm sU I) isI L w1 w2 t) nX := by
  obtain ⟨nl, len, cd, fa, fn, h⟩ := hw
  exact Sp.weaken (sp_X12_growsBy hs.n hs.p hi1 hs.l hs.o h) (fun v h' hv => ⟨⟨_, hv.1⟩, by obtain ⟨_, f, rfl⟩ := hv; exact ⟨_, rfl, Fm.row Fm.rf (fun _ => rfl)⟩⟩) (fun _ _ z => z)
theorem r_X12_shamesBy (hs : SO nd np (I 421)) (hw : LwW (I 421)) (lg : LgW (I 421)) {i1 : Nat} (hi1 : i1 < nd) : Sp S m_X12_shamesBy 19 0 0 [.ref 420, .int (nI i1)] (hp I L w1 w2 t) (QR (Fm sU I) isI L w1 w2 t) nX := by
  obtain ⟨nl, len, cd, fa, fn, h⟩ := hw
  exact Sp.weaken (sp_X12_shamesBy hs.n hs.p hi1 hs.l hs.o h) (fun v h' hv => ⟨⟨_, hv.1⟩, by obtain ⟨_, f, rfl⟩ := hv; exact ⟨_, rfl, Fm.row Fm.rf (fun _ => rfl)⟩⟩) (fun _ _ z => z)
theorem r_X12_shameOf (hs : SO nd np (I 421)) (hw : LwW (I 421)) (lg : LgW (I 421)) {x1 : Int32} : Sp S m_X12_shameOf 20 0 0 [.ref 420, .int x1] (hp I L w1 w2 t) (QR (Fm sU I) isI L w1 w2 t) nX := by
  obtain ⟨nl, len, cd, fa, fn, h⟩ := hw
  exact Sp.weaken (sp_X12_shameOf hs.n hs.p hs.du hs.l hs.o h) (fun v h' hv => ⟨⟨_, hv.1⟩, by obtain ⟨_, f, rfl⟩ := hv; exact ⟨_, rfl, Fm.row Fm.rf (fun _ => rfl)⟩⟩) (fun _ _ z => z)
theorem r_X12_beforeOf (hs : SO nd np (I 421)) (hw : LwW (I 421)) (lg : LgW (I 421)) {i1 : Nat} (hi1 : i1 < nd) : Sp S m_X12_beforeOf 14 0 0 [.ref 420, .int (nI i1)] (hp I L w1 w2 t) (QE isI (hp I L w1 w2 t)) nX := by
  have hn := hs.n
  refine Sp_of ok_X12_beforeOf rfl rfl ?_
  show AW S m_X12_beforeOf 14 _ _ 0 0 0 [some (.ref 420), some (.int (nI i1)), none, none] [] (hp I L w1 w2 t)
  refine a_s rfl rfl ?_
  refine a_s2 rfl rfl rfl rfl rfl rfl ?_
  refine a_l0 rfl rfl rfl ?_
  refine a_l1 rfl rfl rfl ?_
  refine a_s rfl rfl ?_
  refine a_eV1 rfl lX12_63 mo_X12_of (sp_X12_of (d := i1) (k := 4) (by omega) (by decide)) rfl rfl rfl ⟨12, _, rfl, rfl, rfl⟩ rfl ?_
  refine a_s3 rfl rfl rfl rfl rfl rfl ?_
  refine a_inv (n := nf_M 0) (fun m ls h => ∃ b x, ls = [some (.ref 420), some (.int (nI i1)), some (.int b), some (.int x)] ∧ h = hp I L w1 w2 t ∧ nf_M b = m ∧ (x = -1 ∨ ∃ e, e < nd ∧ x = nI e)) ⟨0, _, rfl, rfl, rfl, hs.l i1 hi1⟩ ?_
  rintro m _ _ ⟨b, x, rfl, rfl, rfl, hx⟩ ih
  refine a_l3 rfl rfl rfl ?_
  refine a_s rfl rfl ?_
  refine a_ic_eq rfl (fun c => ?_) (fun c => ?_)
  · refine a_l2 rfl rfl rfl ?_
    exact a_iret rfl rfl ⟨⟨_, rfl⟩, rfl⟩
  · obtain ⟨e, he, rfl⟩ := hx.resolve_left c
    refine a_l2 rfl rfl rfl ?_
    refine a_l3 rfl rfl rfl ?_
    refine a_eS1 rfl lX12_304 mo_X12_has (sp_X12_has (d := e)) rfl rfl rfl rfl ?_
    refine a_if_ne rfl (fun c2 => ?_) (fun c2 => ?_)
    · refine a_l2 rfl rfl rfl ?_
      exact a_iret rfl rfl ⟨⟨_, rfl⟩, rfl⟩
    · have e1 := grow_bit (e := e) (by omega) (bI_f c2)
      refine a_l2 rfl rfl rfl ?_
      refine a_s rfl rfl ?_
      refine a_l3 rfl rfl rfl ?_
      refine a_s rfl rfl ?_
      refine a_s rfl rfl ?_
      refine a_s2 rfl rfl rfl rfl rfl rfl ?_
      refine a_l0 rfl rfl rfl ?_
      refine a_l3 rfl rfl rfl ?_
      refine a_s rfl rfl ?_
      refine a_eV1 rfl lX12_63 mo_X12_of (sp_X12_of (d := e) (k := 4) (by omega) (by decide)) rfl rfl rfl ⟨12, _, rfl, rfl, rfl⟩ rfl ?_
      refine a_s3 rfl rfl rfl rfl rfl rfl ?_
      refine a_goto rfl ?_
      exact ih _ _ _ e1 ⟨_, _, rfl, rfl, rfl, hs.l e he⟩
theorem r_X12_chainOf (hs : SO nd np (I 421)) (hw : LwW (I 421)) (lg : LgW (I 421)) {i1 : Nat} (hi1 : i1 < nd) : Sp S m_X12_chainOf 15 0 0 [.ref 420, .int (nI i1)] (hp I L w1 w2 t) (QE isI (hp I L w1 w2 t)) nX := by
  have hn := hs.n
  refine Sp_of ok_X12_chainOf rfl rfl ?_
  show AW S m_X12_chainOf 15 _ _ 0 0 0 [some (.ref 420), some (.int (nI i1)), none, none] [] (hp I L w1 w2 t)
  refine a_s rfl rfl ?_
  refine a_s2 rfl rfl rfl rfl rfl rfl ?_
  refine a_l1 rfl rfl rfl ?_
  refine a_s3 rfl rfl rfl rfl rfl rfl ?_
  refine a_inv (n := nf_M 0) (fun m ls h => ∃ b x, ls = [some (.ref 420), some (.int (nI i1)), some (.int b), some (.int x)] ∧ h = hp I L w1 w2 t ∧ nf_M b = m ∧ (x = -1 ∨ ∃ e, e < nd ∧ x = nI e)) ⟨0, _, rfl, rfl, rfl, Or.inr ⟨i1, hi1, rfl⟩⟩ ?_
  rintro m _ _ ⟨b, x, rfl, rfl, rfl, hx⟩ ih
  refine a_l3 rfl rfl rfl ?_
  refine a_s rfl rfl ?_
  refine a_ic_eq rfl (fun c => ?_) (fun c => ?_)
  · refine a_l2 rfl rfl rfl ?_
    exact a_iret rfl rfl ⟨⟨_, rfl⟩, rfl⟩
  · obtain ⟨e, he, rfl⟩ := hx.resolve_left c
    refine a_l0 rfl rfl rfl ?_
    refine a_l3 rfl rfl rfl ?_
    refine a_eV1 rfl lX12_246 mo_X12_isDone (sp_X12_isDone (d := e) (by omega)) rfl rfl rfl ⟨12, _, rfl, rfl, rfl⟩ rfl ?_
    refine a_if_ne rfl (fun c1 => ?_) (fun c1 => ?_)
    · refine a_l2 rfl rfl rfl ?_
      exact a_iret rfl rfl ⟨⟨_, rfl⟩, rfl⟩
    · refine a_l2 rfl rfl rfl ?_
      refine a_l3 rfl rfl rfl ?_
      refine a_eS1 rfl lX12_304 mo_X12_has (sp_X12_has (d := e)) rfl rfl rfl rfl ?_
      refine a_if_ne rfl (fun c2 => ?_) (fun c2 => ?_)
      · refine a_s rfl rfl ?_
        exact a_iret rfl rfl ⟨⟨_, rfl⟩, rfl⟩
      · have e1 := grow_bit (e := e) (by omega) (bI_f c2)
        refine a_l0 rfl rfl rfl ?_
        refine a_l3 rfl rfl rfl ?_
        refine a_eV1 rfl lX12_364 mo_X12_isForgotten (sp_X12_isForgotten (d := e) (by omega)) rfl rfl rfl ⟨12, _, rfl, rfl, rfl⟩ rfl ?_
        refine a_if_eq rfl (fun c3 => ?_) (fun c3 => ?_)
        · refine a_l2 rfl rfl rfl ?_
          refine a_s rfl rfl ?_
          refine a_l3 rfl rfl rfl ?_
          refine a_s rfl rfl ?_
          refine a_s rfl rfl ?_
          refine a_s2 rfl rfl rfl rfl rfl rfl ?_
          refine a_l0 rfl rfl rfl ?_
          refine a_l3 rfl rfl rfl ?_
          refine a_s rfl rfl ?_
          refine a_eV1 rfl lX12_63 mo_X12_of (sp_X12_of (d := e) (k := 4) (by omega) (by decide)) rfl rfl rfl ⟨12, _, rfl, rfl, rfl⟩ rfl ?_
          refine a_s3 rfl rfl rfl rfl rfl rfl ?_
          refine a_goto rfl ?_
          exact ih _ _ _ e1 ⟨_, _, rfl, rfl, rfl, hs.l e he⟩
        · refine a_s rfl rfl ?_
          exact a_iret rfl rfl ⟨⟨_, rfl⟩, rfl⟩
theorem inTool {x : Int32} (h : x = -1 ∨ ∃ k, k < 6 ∧ x = nI k) (c : ¬ x = -1) : inI x 6 := by
  obtain ⟨k, hk, rfl⟩ := h.resolve_left c
  exact inI_nI hk (by decide)
theorem r_X12_drawn (hs : SO nd np (I 421)) (hw : LwW (I 421)) (lg : LgW (I 421)) : Sp S m_X12_drawn 12 0 0 [.ref 420, .int 100] (hp I L w1 w2 t) (QR (Dd I) isI L w1 w2 t) nX := by
  refine Sp_of ok_X12_drawn rfl rfl ?_
  show AW S m_X12_drawn 12 _ _ 0 0 0 [some (.ref 420), some (.int 100)] [] (hp I L w1 w2 t)
  refine a_l0 rfl rfl rfl ?_
  refine a_getq rfl gfX12_13_12 rfl (rfl) ?_
  refine a_s rfl rfl ?_
  refine a_ldc rfl kX12_77 ?_
  refine a_l0 rfl rfl rfl ?_
  refine a_getq rfl gfX12_13_12 rfl (rfl) ?_
  refine a_s rfl rfl ?_
  refine a_iald rfl (n := 2033) rfl ⟨by decide, by decide⟩ ?_
  refine a_s rfl rfl ?_
  refine a_s rfl rfl ?_
  refine a_s rfl rfl ?_
  refine a_iastv (k := 10) rfl (n := 2033) rfl ⟨by decide, by decide⟩ rfl ?_
  refine a_ren (P := Dd I) (Dd.up Dd.rf rfl (by decide)) (fun I1 f1 => ?_)
  refine a_l0 rfl rfl rfl ?_
  refine a_getq rfl gfX12_13_12 rfl (rfl) ?_
  refine a_s rfl rfl ?_
  refine a_iald rfl (n := 2033) rfl ⟨by decide, by decide⟩ ?_
  refine a_s rfl rfl ?_
  refine a_s rfl rfl ?_
  refine a_s rfl rfl ?_
  refine a_s rfl rfl ?_
  refine a_l1 rfl rfl rfl ?_
  refine a_irem rfl (by decide) ?_
  exact a_iret rfl rfl ⟨⟨_, rfl⟩, _, rfl, f1⟩
theorem Dd.l9 {J : Nat → Nat → Int32} (h : Dd I J) : Dd I (up2 J 421 9 (if J 421 9 + 1 < 60 then J 421 9 + 1 else 60)) := h.tr ⟨Fm.up Fm.rf rfl, fun z => by
  obtain ⟨k, h1, h2⟩ := z
  unfold LgW
  rw [up2_at, h2, ← nI_succ]
  split
  · next hc =>
    refine ⟨k + 1, ?_, rfl⟩
    have := Int32.lt_iff_toInt_lt.mp hc
    rw [nI_toInt (by omega), show (60 : Int32).toInt = 60 from rfl] at this
    omega
  · exact ⟨60, by decide, rfl⟩⟩
theorem r_X12_tells (hs : SO nd np (I 421)) (hw : LwW (I 421)) (lg : LgW (I 421)) {i1 : Nat} (hi1 : i1 < nd) {x2 : Int32} : Sp S m_X12_tells 20 0 0 [.ref 420, .int (nI i1), .int x2] (hp I L w1 w2 t) (QR (Dd I) isV L w1 w2 t) nX := by
  have hn := hs.n
  refine Sp_of ok_X12_tells rfl rfl ?_
  show AW S m_X12_tells 20 _ _ 0 0 0 [some (.ref 420), some (.int (nI i1)), some (.int x2), none] [] (hp I L w1 w2 t)
  refine a_s rfl rfl ?_
  refine a_s3 rfl rfl rfl rfl rfl rfl ?_
  refine a_inv (n := 236) (fun m ls h => ∃ I', ls = [some (.ref 420), some (.int (nI i1)), some (.int x2), some (.int (nI (m + 3)))] ∧ h = hp I' L w1 w2 t ∧ Dd I I' ∧ m ≤ 236) ⟨_, rfl, rfl, Dd.rf, by decide⟩ ?_
  rintro m _ _ ⟨I1, rfl, rfl, f1, hm⟩ ih
  refine a_l3 rfl rfl rfl ?_
  refine a_s rfl rfl ?_
  refine a_ic_lt rfl (fun c => ?_) (fun c => ?_)
  · refine a_l0 rfl rfl rfl ?_
    refine a_getq rfl gfX12_13_12 rfl (rfl) ?_
    refine a_s rfl rfl ?_
    refine a_l0 rfl rfl rfl ?_
    refine a_getq rfl gfX12_13_12 rfl (rfl) ?_
    refine a_s rfl rfl ?_
    refine a_iald rfl (n := 2033) rfl ⟨by decide, by decide⟩ ?_
    refine a_iastv (k := 95) rfl (n := 2033) rfl ⟨by decide, by decide⟩ rfl ?_
    refine a_ren (P := Dd I) (Dd.up f1 rfl (by decide)) (fun I2 f2 => ?_)
    refine a_l0 rfl rfl rfl ?_
    refine a_getq rfl gfX12_13_12 rfl (rfl) ?_
    refine a_s rfl rfl ?_
    refine a_l1 rfl rfl rfl ?_
    refine a_iastv (k := 96) rfl (n := 2033) rfl ⟨by decide, by decide⟩ rfl ?_
    refine a_ren (P := Dd I) (Dd.up f2 rfl (by decide)) (fun I3 f3 => ?_)
    refine a_l0 rfl rfl rfl ?_
    refine a_getq rfl gfX12_13_12 rfl (rfl) ?_
    refine a_s rfl rfl ?_
    refine a_l2 rfl rfl rfl ?_
    refine a_iastv (k := 97) rfl (n := 2033) rfl ⟨by decide, by decide⟩ rfl ?_
    refine a_ren (P := Dd I) (Dd.up f3 rfl (by decide)) (fun I4 f4 => ?_)
    refine a_l0 rfl rfl rfl ?_
    refine a_getq rfl gfX12_13_12 rfl (rfl) ?_
    refine a_s rfl rfl ?_
    refine a_l0 rfl rfl rfl ?_
    refine a_l1 rfl rfl rfl ?_
    refine a_gV rfl lX12_318 mo_X12_shamesBy (r_X12_shamesBy (f4.so hs) (f4.lw hw) (f4.lg lg) hi1) rfl rfl rfl ⟨12, _, rfl, rfl, rfl⟩ rfl (fun v' h' hv => ?_)
    obtain ⟨⟨v, rfl⟩, I5, rfl, f5⟩ := hv
    replace f5 : Dd I I5 := Dd.fm f4 f5
    refine a_iastv (k := 98) rfl (n := 2033) rfl ⟨by decide, by decide⟩ rfl ?_
    refine a_ren (P := Dd I) (Dd.up f5 rfl (by decide)) (fun I6 f6 => ?_)
    refine a_l0 rfl rfl rfl ?_
    refine a_getq rfl gfX12_13_12 rfl (rfl) ?_
    refine a_s rfl rfl ?_
    refine a_s rfl rfl ?_
    refine a_l0 rfl rfl rfl ?_
    refine a_getq rfl gfX12_13_12 rfl (rfl) ?_
    refine a_s rfl rfl ?_
    refine a_iald rfl (n := 2033) rfl ⟨by decide, by decide⟩ ?_
    refine a_s rfl rfl ?_
    refine a_s rfl rfl ?_
    refine a_min rfl lX12_295 mj_min rfl rfl ?_
    refine a_iastv (k := 9) rfl (n := 2033) rfl ⟨by decide, by decide⟩ rfl ?_
    exact a_vret rfl rfl ⟨rfl, _, rfl, Dd.l9 f6⟩
  · have h4 : 4 ≤ m + 3 := nI_le_of (a := 4) (b := m + 3) c (by decide) (by omega)
    refine a_l0 rfl rfl rfl ?_
    refine a_getq rfl gfX12_13_12 rfl (rfl) ?_
    refine a_s rfl rfl ?_
    refine a_l3 rfl rfl rfl ?_
    refine a_s rfl rfl ?_
    refine a_top (y := nI (95 + (m + 3))) (nI_addl 95 (m + 3)) ?_
    refine a_l0 rfl rfl rfl ?_
    refine a_getq rfl gfX12_13_12 rfl (rfl) ?_
    refine a_s rfl rfl ?_
    refine a_l3 rfl rfl rfl ?_
    refine a_s rfl rfl ?_
    refine a_s rfl rfl ?_
    refine a_s rfl rfl ?_
    refine a_top (y := nI (95 + (m + 3) - 4)) (by rw [show (95 : Int32) + nI (m + 3) = nI (95 + (m + 3)) from nI_addl 95 (m + 3)]; exact nI_sub (j := 4) (by omega)) ?_
    refine a_iald rfl (n := 2033) rfl (inI_nI (by omega) (by omega)) ?_
    refine a_iastv (k := 95 + (m + 3)) rfl (n := 2033) rfl (inI_nI (by omega) (by omega)) (nI_clamp (by omega)) ?_
    refine a_ren (P := Dd I) (Dd.up f1 (dayC_log (by omega) (by omega)) (by omega)) (fun I2 f2 => ?_)
    refine a_i3 rfl rfl rfl ?_
    refine a_goto rfl ?_
    refine a_less (ih (m - 1) _ _ (by omega) ⟨_, rfl, rfl, f2, by omega⟩) ⟨rfl, rfl, rfl, ?_, trivial⟩
    rw [show m + 3 = m - 1 + 3 + 1 by omega, nI_decm]
theorem a_topE {C : aM} {d : Nat} {Q : Option Value → aH → Prop} {X : String → aH → Prop} {k1 k2 pc : Nat} {ls : List (Option Value)} {st : List Value} {h : aH} {x : Int32} (e : ∃ m, m < 4096 ∧ x = nI m) (kk : ∀ m, m < 4096 → AW S C d Q X k1 k2 pc ls (.int (nI m) :: st) h) : AW S C d Q X k1 k2 pc ls (.int x :: st) h := by
  obtain ⟨m, h1, h2⟩ := e
  rw [h2]
  exact kk m h1
theorem r_X12_ofLog {a b : Nat} (ha : a < 60) (hb : b ≤ 3) : Sp S m_X12_ofLog 12 0 0 [.ref 420, .int (nI a), .int (nI b)] (hp I L w1 w2 t) (QE isI (hp I L w1 w2 t)) nX := by
  refine Sp_of ok_X12_ofLog rfl rfl ?_
  show AW S m_X12_ofLog 12 _ _ 0 0 0 [some (.ref 420), some (.int (nI a)), some (.int (nI b))] [] (hp I L w1 w2 t)
  refine a_l0 rfl rfl rfl ?_
  refine a_getq rfl gfX12_13_12 rfl (rfl) ?_
  refine a_s rfl rfl ?_
  refine a_s rfl rfl ?_
  refine a_l1 rfl rfl rfl ?_
  refine a_s rfl rfl ?_
  refine a_top (y := nI (4 * a)) (nI_mul 4 a) ?_
  refine a_s rfl rfl ?_
  refine a_top (y := nI (95 + 4 * a)) (nI_addl 95 (4 * a)) ?_
  refine a_l2 rfl rfl rfl ?_
  refine a_s rfl rfl ?_
  refine a_top (y := nI (95 + 4 * a + b)) (nI_addl _ _) ?_
  refine a_iald rfl (n := 2033) rfl (inI_nI (by omega) (by omega)) ?_
  exact a_iret rfl rfl ⟨⟨_, rfl⟩, rfl⟩
theorem nI_m1 {m : Nat} (h : ¬ nI m - 1 < 0) (hm : m < 2 ^ 31) : ∃ k, m = k + 1 ∧ nI m - 1 = nI k := by
  rcases m with _ | k
  · exact absurd (by decide) h
  · exact ⟨k, rfl, nI_dec k⟩
theorem r_X12_led (hs : SO nd np (I 421)) (hw : LwW (I 421)) (lg : LgW (I 421)) {x1 : Int32} {b2 : Bool} : Sp S m_X12_led 14 0 0 [.ref 420, .int x1, .int (bI b2)] (hp I L w1 w2 t) (QR (Fm sV I) isI L w1 w2 t) nX := by
  have hn := hs.n
  refine Sp_of ok_X12_led rfl rfl ?_
  show AW S m_X12_led 14 _ _ 0 0 0 [some (.ref 420), some (.int x1), some (.int (bI b2)), none, none, none] [] (hp I L w1 w2 t)
  refine a_l0 rfl rfl rfl ?_
  refine a_s rfl rfl ?_
  refine a_puti rfl pfX12_3_12 rfl ?_
  refine a_ren (P := Fm sV I) (Fm.up Fm.rf rfl) (fun I1 f1 => ?_)
  refine a_l0 rfl rfl rfl ?_
  refine a_l0 rfl rfl rfl ?_
  refine a_l1 rfl rfl rfl ?_
  refine a_eV1 rfl lX12_289 mo_X12_noDuty (r_X12_noDuty (SO.fm hs f1)) rfl rfl rfl ⟨12, _, rfl, rfl, rfl⟩ rfl ?_
  refine a_s rfl rfl ?_
  refine a_gV rfl lX12_243 mo_X12_throwsIf r_X12_throwsIf rfl rfl rfl ⟨12, _, rfl, rfl, rfl⟩ rfl (fun v' h' hv => ?_)
  obtain ⟨rfl, I2, rfl, f2⟩ := hv
  replace f2 : Fm sV I I2 := Fm.tr f1 (Fm.mo f2 sU_sV)
  refine a_if_eq rfl (fun c => ?_) (fun c => ?_)
  · refine a_s rfl rfl ?_
    refine a_s3 rfl rfl rfl rfl rfl rfl ?_
    refine a_s rfl rfl ?_
    refine a_s4 rfl rfl rfl rfl rfl rfl ?_
    refine a_l0 rfl rfl rfl ?_
    refine a_getq rfl gfX12_13_12 rfl (rfl) ?_
    refine a_s rfl rfl ?_
    refine a_iald rfl (n := 2033) rfl ⟨by decide, by decide⟩ ?_
    obtain ⟨m0, hm0, em0⟩ := LgW.fm lg f2
    refine a_top (y := nI m0) em0 ?_
    refine a_s rfl rfl ?_
    refine a_s rfl rfl ?_
    refine a_s5 rfl rfl rfl rfl rfl rfl ?_
    refine a_inv (n := m0) (fun m ls h => ∃ a3 a4, ls = [some (.ref 420), some (.int x1), some (.int (bI b2)), some (.int a3), some (.int a4), some (.int (nI m - 1))] ∧ h = hp I2 L w1 w2 t ∧ m ≤ 60) ⟨_, _, rfl, rfl, hm0⟩ ?_
    rintro m _ _ ⟨a3, a4, rfl, rfl, hm⟩ ih
    refine a_l5 rfl rfl rfl ?_
    refine a_if_lt rfl (fun c2 => ?_) (fun c2 => ?_)
    · refine a_l2 rfl rfl rfl ?_
      refine a_if_eq rfl (fun _ => ?_) (fun _ => ?_)
      · refine a_l3 rfl rfl rfl ?_
        exact a_iret rfl rfl ⟨⟨_, rfl⟩, _, rfl, f2⟩
      · refine a_l4 rfl rfl rfl ?_
        refine a_goto rfl ?_
        exact a_iret rfl rfl ⟨⟨_, rfl⟩, _, rfl, f2⟩
    · obtain ⟨k, rfl, ek⟩ := nI_m1 c2 (by omega)
      have ek2 : nI k + -1 = nI k - 1 := (Int32.sub_eq_add_neg _ _).symm
      refine a_l0 rfl rfl rfl ?_
      refine a_l5 rfl rfl rfl ?_
      refine a_top (y := nI k) ek ?_
      refine a_s rfl rfl ?_
      refine a_gV rfl lX12_461 mo_X12_ofLog (r_X12_ofLog (a := k) (b := 1) (by omega) (by decide)) rfl rfl rfl ⟨12, _, rfl, rfl, rfl⟩ rfl (fun v' h' hv => ?_)
      obtain ⟨⟨v, rfl⟩, rfl⟩ := hv
      refine a_l1 rfl rfl rfl ?_
      refine a_ic_eq rfl (fun _ => ?_) (fun _ => ?_)
      · refine a_i3 rfl rfl rfl ?_
        refine a_l0 rfl rfl rfl ?_
        refine a_l5 rfl rfl rfl ?_
        refine a_top (y := nI k) ek ?_
        refine a_s rfl rfl ?_
        refine a_gV rfl lX12_461 mo_X12_ofLog (r_X12_ofLog (a := k) (b := 0) (by omega) (by decide)) rfl rfl rfl ⟨12, _, rfl, rfl, rfl⟩ rfl (fun v' h' hv => ?_)
        obtain ⟨⟨v2, rfl⟩, rfl⟩ := hv
        refine a_s4 rfl rfl rfl rfl rfl rfl ?_
        refine a_i5 rfl rfl rfl ?_
        refine a_goto rfl ?_
        refine a_less (ih k _ _ (by omega) ⟨_, _, rfl, rfl, by omega⟩) ⟨rfl, rfl, rfl, rfl, rfl, ?_, trivial⟩
        rw [ek]
        exact congrArg (fun z => some (Value.int z)) ek2
      · refine a_goto rfl ?_
        refine a_i5 rfl rfl rfl ?_
        refine a_goto rfl ?_
        refine a_less (ih k _ _ (by omega) ⟨_, _, rfl, rfl, by omega⟩) ⟨rfl, rfl, rfl, rfl, rfl, ?_, trivial⟩
        rw [ek]
        exact congrArg (fun z => some (Value.int z)) ek2
  · refine a_s rfl rfl ?_
    exact a_iret rfl rfl ⟨⟨_, rfl⟩, _, rfl, f2⟩
theorem r_X12_log (hs : SO nd np (I 421)) (hw : LwW (I 421)) (lg : LgW (I 421)) {x1 x2 : Int32} : Sp S m_X12_log 14 0 0 [.ref 420, .int x1, .int x2] (hp I L w1 w2 t) (QR (Fm sV I) isI L w1 w2 t) nX := by
  refine Sp_of ok_X12_log rfl rfl ?_
  show AW S m_X12_log 14 _ _ 0 0 0 [some (.ref 420), some (.int x1), some (.int x2)] [] (hp I L w1 w2 t)
  refine a_l0 rfl rfl rfl ?_
  refine a_s rfl rfl ?_
  refine a_puti rfl pfX12_3_12 rfl ?_
  refine a_ren (P := Fm sV I) (Fm.up Fm.rf rfl) (fun I1 f1 => ?_)
  refine a_l0 rfl rfl rfl ?_
  refine a_l2 rfl rfl rfl ?_
  refine a_s rfl rfl ?_
  refine a_s rfl rfl ?_
  refine a_eS1 rfl lX12_70 mo_X12_in sp_X12_in rfl rfl rfl rfl ?_
  refine a_if_ne rfl (fun c => ?_) (fun c => ?_)
  · obtain ⟨b, -, hb, rfl⟩ := inB_nI (a := 0) (b := 3) (by decide) (bI_t c)
    refine a_s rfl rfl ?_
    refine a_s rfl rfl ?_
    refine a_gV rfl lX12_243 mo_X12_throwsIf (r_X12_throwsIf (b := false)) rfl rfl rfl ⟨12, _, rfl, rfl, rfl⟩ rfl (fun v' h' hv => ?_)
    obtain ⟨rfl, I2, rfl, f2⟩ := hv
    replace f2 : Fm sV I I2 := Fm.tr f1 (Fm.mo f2 sU_sV)
    refine a_if_eq rfl (fun _ => ?_) (fun c => absurd (by decide) c)
    refine a_l1 rfl rfl rfl ?_
    refine a_s rfl rfl ?_
    refine a_l0 rfl rfl rfl ?_
    refine a_getq rfl gfX12_13_12 rfl (rfl) ?_
    refine a_s rfl rfl ?_
    refine a_iald rfl (n := 2033) rfl ⟨by decide, by decide⟩ ?_
    obtain ⟨m0, hm0, em0⟩ := LgW.fm lg f2
    refine a_top (y := nI m0) em0 ?_
    refine a_s rfl rfl ?_
    refine a_s rfl rfl ?_
    refine a_eS1 rfl lX12_70 mo_X12_in sp_X12_in rfl rfl rfl rfl ?_
    refine a_if_eq rfl (fun _ => ?_) (fun c2 => ?_)
    · refine a_s rfl rfl ?_
      exact a_iret rfl rfl ⟨⟨_, rfl⟩, _, rfl, f2⟩
    · obtain ⟨a, ha, rfl⟩ := isIx (n := m0) (by omega) (show bI (!inB x1 0 (nI m0 - 1)) = 0 by rw [bI_t c2]; rfl)
      refine a_l0 rfl rfl rfl ?_
      refine a_l1 rfl rfl rfl ?_
      refine a_l2 rfl rfl rfl ?_
      refine a_gV rfl lX12_461 mo_X12_ofLog (r_X12_ofLog (a := a) (b := b) (by omega) hb) rfl rfl rfl ⟨12, _, rfl, rfl, rfl⟩ rfl (fun v' h' hv => ?_)
      obtain ⟨⟨v, rfl⟩, rfl⟩ := hv
      refine a_goto rfl ?_
      exact a_iret rfl rfl ⟨⟨_, rfl⟩, _, rfl, f2⟩
  · refine a_s rfl rfl ?_
    refine a_goto rfl ?_
    refine a_s rfl rfl ?_
    refine a_gV rfl lX12_243 mo_X12_throwsIf (r_X12_throwsIf (b := true)) rfl rfl rfl ⟨12, _, rfl, rfl, rfl⟩ rfl (fun v' h' hv => ?_)
    obtain ⟨rfl, I2, rfl, f2⟩ := hv
    replace f2 : Fm sV I I2 := Fm.tr f1 (Fm.mo f2 sU_sV)
    refine a_if_eq rfl (fun c => absurd c (by decide)) (fun _ => ?_)
    refine a_s rfl rfl ?_
    exact a_iret rfl rfl ⟨⟨_, rfl⟩, _, rfl, f2⟩
end H59
