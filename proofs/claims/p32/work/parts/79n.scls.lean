/-! ===== the class: a text of the street (printed by program) ===== -/
section T79n
variable {S : aS} {I : Nat → Nat → Int32} {L : Nat → Nat → Int64} {w1 w2 t : Nat} {e b : Nat} {T W : Nat → Int32}
set_option maxRecDepth 100000
def sO (q k : Nat) : Bool := Nat.ble 204 q && Nat.ble q 217
theorem sO_in {q k : Nat} (h : sO q k = false) : q < 204 ∨ 217 < q := by
  unfold sO at h
  by_cases c1 : 204 ≤ q
  · rw [Nat.ble_eq_true_of_le c1] at h
    by_cases c2 : q ≤ 217
    · rw [Nat.ble_eq_true_of_le c2] at h
      cases h
    · omega
  · omega
theorem Fms {J J' : Nat → Nat → Int32} (h : Fm sO I J) (f : ∀ q, q ≠ 204 → J' q = J q) : Fm sO I J' := fun q k hq => by
  rw [f q (by have := sO_in hq; omega)]
  exact h q k hq
theorem Sd.nx {J : Nat → Nat → Int32} (h : Sd I 209 W) (f : ∀ q, q ≠ 204 → J q = I q) : Sd J 209 W := Sd.eq h fun q g1 g2 => f q (by omega)
theorem Fms.d {J J' : Nat → Nat → Int32} (h : Fm sO I J) (f : ∀ q, ¬ (204 ≤ q ∧ q ≤ 208) → J' q = J q) : Fm sO I J' := fun q k hq => by
  rw [f q (by have := sO_in hq; omega)]
  exact h q k hq
theorem s_addPerson {np : Nat} (h0 : I 209 0 = nI np) (h6 : np < 6) {x y : Int32} : SpE S m_X5_addPerson 13 [.ref 209, .int x, .int y] (hp I L w1 w2 t) none (hp (up2 (up2 (up2 I 210 np x) 211 np y) 209 0 (nI (np + 1))) L w1 w2 t) := by
  refine SpE_of ok_X5_addPerson rfl rfl ?_
  show AW S m_X5_addPerson 13 _ _ 0 0 0 [some (.ref 209), some (.int x), some (.int y)] [] (hp I L w1 w2 t)
  refine a_l0 rfl rfl rfl ?_
  refine a_getq rfl gfX5_9_5 rfl (rfl) ?_
  refine a_l0 rfl rfl rfl ?_
  refine a_getiv (v := nI np) rfl gfX5_56_5 rfl (h0) ?_
  refine a_l1 rfl rfl rfl ?_
  refine a_eSN0 rfl lX5_82 mo_X11_setAt (sp_X11_setAt rfl) rfl rfl rfl rfl ?_
  rw [setF_nI h6 (by decide)]
  refine a_l0 rfl rfl rfl ?_
  refine a_getq rfl gfX5_15_5 rfl (rfl) ?_
  refine a_l0 rfl rfl rfl ?_
  refine a_getiv (v := nI np) rfl gfX5_56_5 rfl ((congrFun (up2_row (by decide)) 0).trans h0) ?_
  refine a_l2 rfl rfl rfl ?_
  refine a_eSN0 rfl lX5_82 mo_X11_setAt (sp_X11_setAt rfl) rfl rfl rfl rfl ?_
  rw [setF_nI h6 (by decide)]
  refine a_l0 rfl rfl rfl ?_
  refine a_s rfl rfl ?_
  refine a_getiv (v := nI np) rfl gfX5_56_5 rfl ((congrFun (up2_row (by decide)) 0).trans ((congrFun (up2_row (by decide)) 0).trans h0)) ?_
  refine a_s rfl rfl ?_
  refine a_s rfl rfl ?_
  refine a_top (y := nI (np + 1)) ((nI_succ np).symm) ?_
  refine a_puti rfl pfX5_56_5 rfl ?_
  exact a_vret rfl rfl ⟨rfl, rfl⟩
def adH (I : Nat → Nat → Int32) (nd : Nat) (x0 x1 x2 x3 x4 : Int32) : Nat → Nat → Int32 := up2 (up2 (up2 (up2 (up2 (up2 (up2 I 212 nd x0) 213 nd x1) 214 nd x2) 215 nd x3) 216 nd x4) 217 nd 0) 209 3 (nI (nd + 1))
theorem s_addDuty {nd : Nat} (h0 : I 209 3 = nI nd) (h6 : nd < 12) {x0 x1 x2 x3 x4 : Int32} : SpE S m_X5_addDuty 13 [.ref 209, .int x0, .int x1, .int x2, .int x3, .int x4] (hp I L w1 w2 t) none (hp (adH I nd x0 x1 x2 x3 x4) L w1 w2 t) := by
  refine SpE_of ok_X5_addDuty rfl rfl ?_
  show AW S m_X5_addDuty 13 _ _ 0 0 0 [some (.ref 209), some (.int x0), some (.int x1), some (.int x2), some (.int x3), some (.int x4)] [] (hp I L w1 w2 t)
  refine a_l0 rfl rfl rfl ?_
  refine a_getq rfl gfX5_18_5 rfl (rfl) ?_
  refine a_l0 rfl rfl rfl ?_
  refine a_getiv (v := nI nd) rfl gfX5_63_5 rfl (h0) ?_
  refine a_l1 rfl rfl rfl ?_
  refine a_eSN0 rfl lX5_82 mo_X11_setAt (sp_X11_setAt rfl) rfl rfl rfl rfl ?_
  rw [setF_nI h6 (by decide)]
  refine a_l0 rfl rfl rfl ?_
  refine a_getq rfl gfX5_21_5 rfl (rfl) ?_
  refine a_l0 rfl rfl rfl ?_
  refine a_getiv (v := nI nd) rfl gfX5_63_5 rfl ((congrFun (up2_row (by decide)) 3).trans (h0)) ?_
  refine a_l2 rfl rfl rfl ?_
  refine a_eSN0 rfl lX5_82 mo_X11_setAt (sp_X11_setAt rfl) rfl rfl rfl rfl ?_
  rw [setF_nI h6 (by decide)]
  refine a_l0 rfl rfl rfl ?_
  refine a_getq rfl gfX5_24_5 rfl (rfl) ?_
  refine a_l0 rfl rfl rfl ?_
  refine a_getiv (v := nI nd) rfl gfX5_63_5 rfl ((congrFun (up2_row (by decide)) 3).trans ((congrFun (up2_row (by decide)) 3).trans (h0))) ?_
  refine a_l3 rfl rfl rfl ?_
  refine a_eSN0 rfl lX5_82 mo_X11_setAt (sp_X11_setAt rfl) rfl rfl rfl rfl ?_
  rw [setF_nI h6 (by decide)]
  refine a_l0 rfl rfl rfl ?_
  refine a_getq rfl gfX5_27_5 rfl (rfl) ?_
  refine a_l0 rfl rfl rfl ?_
  refine a_getiv (v := nI nd) rfl gfX5_63_5 rfl ((congrFun (up2_row (by decide)) 3).trans ((congrFun (up2_row (by decide)) 3).trans ((congrFun (up2_row (by decide)) 3).trans (h0)))) ?_
  refine a_l4 rfl rfl rfl ?_
  refine a_eSN0 rfl lX5_82 mo_X11_setAt (sp_X11_setAt rfl) rfl rfl rfl rfl ?_
  rw [setF_nI h6 (by decide)]
  refine a_l0 rfl rfl rfl ?_
  refine a_getq rfl gfX5_30_5 rfl (rfl) ?_
  refine a_l0 rfl rfl rfl ?_
  refine a_getiv (v := nI nd) rfl gfX5_63_5 rfl ((congrFun (up2_row (by decide)) 3).trans ((congrFun (up2_row (by decide)) 3).trans ((congrFun (up2_row (by decide)) 3).trans ((congrFun (up2_row (by decide)) 3).trans (h0))))) ?_
  refine a_l5 rfl rfl rfl ?_
  refine a_eSN0 rfl lX5_82 mo_X11_setAt (sp_X11_setAt rfl) rfl rfl rfl rfl ?_
  rw [setF_nI h6 (by decide)]
  refine a_l0 rfl rfl rfl ?_
  refine a_getq rfl gfX5_33_5 rfl (rfl) ?_
  refine a_l0 rfl rfl rfl ?_
  refine a_getiv (v := nI nd) rfl gfX5_63_5 rfl ((congrFun (up2_row (by decide)) 3).trans ((congrFun (up2_row (by decide)) 3).trans ((congrFun (up2_row (by decide)) 3).trans ((congrFun (up2_row (by decide)) 3).trans ((congrFun (up2_row (by decide)) 3).trans (h0)))))) ?_
  refine a_s rfl rfl ?_
  refine a_eSN0 rfl lX5_82 mo_X11_setAt (sp_X11_setAt rfl) rfl rfl rfl rfl ?_
  rw [setF_nI h6 (by decide)]
  refine a_l0 rfl rfl rfl ?_
  refine a_s rfl rfl ?_
  refine a_getiv (v := nI nd) rfl gfX5_63_5 rfl ((congrFun (up2_row (by decide)) 3).trans ((congrFun (up2_row (by decide)) 3).trans ((congrFun (up2_row (by decide)) 3).trans ((congrFun (up2_row (by decide)) 3).trans ((congrFun (up2_row (by decide)) 3).trans ((congrFun (up2_row (by decide)) 3).trans (h0))))))) ?_
  refine a_s rfl rfl ?_
  refine a_s rfl rfl ?_
  refine a_top (y := nI (nd + 1)) ((nI_succ nd).symm) ?_
  refine a_puti rfl pfX5_63_5 rfl ?_
  exact a_vret rfl rfl ⟨rfl, rfl⟩
theorem adH_fm {J : Nat → Nat → Int32} {nd : Nat} {x0 x1 x2 x3 x4 : Int32} (h : Fm sO I J) : Fm sO I (adH J nd x0 x1 x2 x3 x4) := Fm.up (Fm.up (Fm.up (Fm.up (Fm.up (Fm.up (Fm.up h rfl) rfl) rfl) rfl) rfl) rfl) rfl
theorem Sd.ad {nd : Nat} {x0 x1 x2 x3 x4 : Int32} (h : Sd I 209 W) (hn : dn W = nd) (h6 : nd < 12) : Sd (adH I nd x0 x1 x2 x3 x4) 209 (addDt W x0 x1 x2 x3 x4) := by
  subst hn
  exact Sd.pu (f := 3) (g := 1) (Sd.ro (k := 5) (Sd.ro (k := 4) (Sd.ro (k := 3) (Sd.ro (k := 2) (Sd.ro (k := 1) (Sd.ro (k := 0) h h6 (by decide)) h6 (by decide)) h6 (by decide)) h6 (by decide)) h6 (by decide)) h6 (by decide)) (by decide)
theorem s_readNumberOf (hw : WdS S) (h : Ats T e b w1 I) {k : Nat} (hk : k < 27) {lo hi : Int32} (h0 : 0 ≤ lo) : Sp S m_X6_readNumberOf 15 0 0 [.ref 203, .ref (100 + k), .int lo, .int hi] (hp I L w1 w2 t) (fun v h' => v = some (.int (nbP T e k lo hi b).1) ∧ ∃ J w, h' = hp J L w w2 t ∧ Ats T e (nbP T e k lo hi b).2 w J ∧ ∀ q, q ≠ 204 → J q = I q) nX := by
  refine Sp_of ok_X6_readNumberOf rfl rfl ?_
  show AW S m_X6_readNumberOf 15 _ _ 0 0 0 [some (.ref 203), some (.ref (100 + k)), some (.int lo), some (.int hi)] [] (hp I L w1 w2 t)
  refine a_l0 rfl rfl rfl ?_
  refine a_getq rfl gfX6_20_6 rfl (rfl) ?_
  refine a_l1 rfl rfl rfl ?_
  refine a_gV rfl lX6_55 mo_X9_takeWord (s_takeWord (k := k) hw h hk) rfl rfl rfl ⟨9, _, rfl, rfl, rfl⟩ rfl (fun v' h' hv => ?_)
  obtain ⟨rfl, J, w, rfl, hA, hf⟩ := hv
  cases c : isWd T e b k with
  | false =>
    rw [c, if_neg Bool.false_ne_true] at hA
    refine a_if_eq rfl (fun _ => ?_) (fun z => absurd rfl z)
    refine a_s rfl rfl ?_
    rw [nbP_f c]
    exact a_iret rfl rfl ⟨rfl, J, w, rfl, hA, hf⟩
  | true =>
    rw [c, if_pos rfl] at hA
    refine a_if_eq rfl (fun z => absurd z (by decide)) (fun _ => ?_)
    refine a_l0 rfl rfl rfl ?_
    refine a_getq rfl gfX6_20_6 rfl (rfl) ?_
    refine a_l2 rfl rfl rfl ?_
    refine a_l3 rfl rfl rfl ?_
    refine a_gV rfl lX6_149 mo_X9_takeNumber (s_takeNumber hw hA h0) rfl rfl rfl ⟨9, _, rfl, rfl, rfl⟩ rfl (fun v' h' hv => ?_)
    obtain ⟨rfl, J2, w3, rfl, hA2, hf2⟩ := hv
    refine a_goto rfl ?_
    rw [nbP_t c]
    by_cases cn : nm T e (nx T e b) lo hi = -1
    · rw [if_pos cn] at hA2 ⊢
      exact a_iret rfl rfl ⟨by rw [cn], J2, w3, rfl, hA2, fun q hq => (hf2 q hq).trans (hf q hq)⟩
    · rw [if_neg cn] at hA2 ⊢
      exact a_iret rfl rfl ⟨rfl, J2, w3, rfl, hA2, fun q hq => (hf2 q hq).trans (hf q hq)⟩
/-- of the draft, where a text is wrong -/
def Dk (J : Nat → Nat → Int32) : Prop := ∃ nd, nd ≤ 12 ∧ J 209 3 = nI nd
theorem Dk.sd {J : Nat → Nat → Int32} (h : Sd J 209 W) (hW : WOk W) : Dk J := ⟨dn W, hW.2.1, (Sd.fd h (f := 3) (g := 1) (by decide)).trans hW.2.2.2⟩
theorem Dk.nx {J : Nat → Nat → Int32} (h : Dk I) (f : ∀ q, q ≠ 204 → J q = I q) : Dk J := by
  obtain ⟨nd, h1, h2⟩ := h
  exact ⟨nd, h1, (congrFun (f 209 (by decide)) 3).trans h2⟩
theorem Dk.up {f : Nat} {v : Int32} (h : Dk I) (hf : 3 ≠ f) : Dk (up2 I 209 f v) := by
  obtain ⟨nd, h1, h2⟩ := h
  exact ⟨nd, h1, (up2_ne (Or.inr hf)).trans h2⟩
/-- a piece of a line, read as the function says -/
def QLs (T : Nat → Int32) (e : Nat) (r : SR) (I : Nat → Nat → Int32) (L : Nat → Nat → Int64) (w2 t : Nat) : Option Value → aH → Prop := fun v h' => v = some (.int (bI r.1)) ∧ ∃ J w, h' = hp J L w w2 t ∧ Fm sO I J ∧ Ats T e r.2.1 w J ∧ (r.1 = false → Dk J) ∧ (r.1 = true → Sd J 209 r.2.2)
theorem QLs.no {J : Nat → Nat → Int32} {p w : Nat} {W' : Nat → Int32} (F : Fm sO I J) (hA : Ats T e p w J) (hk : Dk J) : QLs T e (false, p, W') I L w2 t (some (.int 0)) (hp J L w w2 t) := ⟨rfl, J, w, rfl, F, hA, fun _ => hk, fun z => by cases z⟩
theorem QLs.yes {J : Nat → Nat → Int32} {p w : Nat} {W' : Nat → Int32} (F : Fm sO I J) (hA : Ats T e p w J) (hD : Sd J 209 W') : QLs T e (true, p, W') I L w2 t (some (.int 1)) (hp J L w w2 t) := ⟨rfl, J, w, rfl, F, hA, fun z => (by cases z), fun _ => hD⟩
theorem s_readPerson (hw : WdS S) (h : Ats T e b w1 I) (hD : Sd I 209 W) (hW : WOk W) (h6 : ¬ W 0 = 6) : Sp S m_X6_readPerson 17 0 0 [.ref 203] (hp I L w1 w2 t) (QLs T e (perB T e W (nbP T e 1 0 15 (nx T e b))) I L w2 t) nX := by
  have hp6 : pn W < 6 := by
    have := hW.1
    have : pn W ≠ 6 := fun z => h6 (by rw [hW.2.2.1, z]; rfl)
    omega
  refine Sp_of ok_X6_readPerson rfl rfl ?_
  show AW S m_X6_readPerson 17 _ _ 0 0 0 [some (.ref 203), none, none] [] (hp I L w1 w2 t)
  refine a_l0 rfl rfl rfl ?_
  refine a_getq rfl gfX6_20_6 rfl (rfl) ?_
  refine a_gV rfl lX6_65 mo_X9_next (sg_next hw h) rfl rfl rfl ⟨9, _, rfl, rfl, rfl⟩ rfl (fun v' h' hv => ?_)
  obtain ⟨rfl, J1, wa, rfl, hA1, hf1⟩ := hv
  refine a_l0 rfl rfl rfl ?_
  refine a_gets rfl (inC4 (i := 173) rfl rfl) (hw.st (i := 1) (by decide)) ?_
  refine a_s rfl rfl ?_
  refine a_s rfl rfl ?_
  refine a_gV rfl lX6_71 mo_X6_readNumberOf (s_readNumberOf (k := 1) (lo := 0) (hi := 15) hw hA1 (by decide) (by decide)) rfl rfl rfl ⟨6, _, rfl, rfl, rfl⟩ rfl (fun v' h' hv => ?_)
  obtain ⟨rfl, J2, wb, rfl, hA2, hf2⟩ := hv
  have F2 : Fm sO I J2 := Fms (Fms Fm.rf hf1) hf2
  generalize nbP T e 1 0 15 (nx T e b) = x at hA2 ⊢
  refine a_s1 rfl rfl rfl rfl rfl rfl ?_
  refine a_l1 rfl rfl rfl ?_
  refine a_s rfl rfl ?_
  refine a_ic_ne rfl (fun c1 => ?_) (fun c1 => ?_)
  rotate_left
  · refine a_s rfl rfl ?_
    rw [show perB T e W x = (false, x.2, W) from if_pos c1]
    exact a_zret rfl rfl rfl (QLs.no F2 hA2 (Dk.nx (Dk.nx (Dk.sd hD hW) hf1) hf2))
  rw [show perB T e W x = perC W x.1 (nbP T e 2 0 9 x.2) from if_neg c1]
  refine a_l0 rfl rfl rfl ?_
  refine a_gets rfl (inC4 (i := 181) rfl rfl) (hw.st (i := 2) (by decide)) ?_
  refine a_s rfl rfl ?_
  refine a_s rfl rfl ?_
  refine a_gV rfl lX6_71 mo_X6_readNumberOf (s_readNumberOf (k := 2) (lo := 0) (hi := 9) hw hA2 (by decide) (by decide)) rfl rfl rfl ⟨6, _, rfl, rfl, rfl⟩ rfl (fun v' h' hv => ?_)
  obtain ⟨rfl, J3, wc, rfl, hA3, hf3⟩ := hv
  have F3 : Fm sO I J3 := Fms F2 hf3
  have D3 : Sd J3 209 W := Sd.nx (Sd.nx (Sd.nx hD hf1) hf2) hf3
  generalize nbP T e 2 0 9 x.2 = y at hA3 ⊢
  refine a_s2 rfl rfl rfl rfl rfl rfl ?_
  refine a_l2 rfl rfl rfl ?_
  refine a_s rfl rfl ?_
  refine a_ic_ne rfl (fun c2 => ?_) (fun c2 => ?_)
  rotate_left
  · refine a_s rfl rfl ?_
    rw [show perC W x.1 y = (false, y.2, W) from if_pos c2]
    exact a_zret rfl rfl rfl (QLs.no F3 hA3 (Dk.sd D3 hW))
  rw [show perC W x.1 y = (true, y.2, addPs W x.1 y.1) from if_neg c2]
  refine a_l0 rfl rfl rfl ?_
  refine a_getq rfl gfX6_16_6 rfl (rfl) ?_
  refine a_l1 rfl rfl rfl ?_
  refine a_l2 rfl rfl rfl ?_
  refine a_eV0 rfl lX6_78 mo_X5_addPerson (s_addPerson ((Sd.fd D3 (f := 0) (g := 0) (by decide)).trans hW.2.2.1) hp6) rfl rfl rfl ⟨5, _, rfl, rfl, rfl⟩ rfl ?_
  refine a_s rfl rfl ?_
  exact a_zret rfl rfl rfl (QLs.yes (Fm.up (Fm.up (Fm.up F3 rfl) rfl) rfl) (Ats.eq hA3 fun q g1 g2 => by rw [up2_row (by omega), up2_row (by omega), up2_row (by omega)]) (Sd.pu (f := 0) (g := 0) (Sd.fr (Sd.kb D3 hp6) hp6) (by decide)))
theorem s_du161 (hW : WOk W) (h12 : ¬ W 1 = 12) {x0 x1 x2 x3 x4 : Int32} {p w : Nat} {J : Nat → Nat → Int32} (F : Fm sO I J) (hA : Ats T e p w J) (hD : Sd J 209 W) : AW S m_X6_readDuty 17 (QLs T e (true, p, addDt W x0 x1 x2 x3 x4) I L w2 t) nX 0 0 161 [some (.ref 203), some (.int x0), some (.int x1), some (.int x2), some (.int x3), some (.int x4)] [] (hp J L w w2 t) := by
  have hp6 : dn W < 12 := by
    have := hW.2.1
    have : dn W ≠ 12 := fun z => h12 (by rw [hW.2.2.2, z]; rfl)
    omega
  refine a_l0 rfl rfl rfl ?_
  refine a_getq rfl gfX6_16_6 rfl (rfl) ?_
  refine a_l1 rfl rfl rfl ?_
  refine a_l2 rfl rfl rfl ?_
  refine a_l3 rfl rfl rfl ?_
  refine a_l4 rfl rfl rfl ?_
  refine a_l5 rfl rfl rfl ?_
  refine a_eV0 rfl lX6_97 mo_X5_addDuty (s_addDuty ((Sd.fd hD (f := 3) (g := 1) (by decide)).trans hW.2.2.2) hp6) rfl rfl rfl ⟨5, _, rfl, rfl, rfl⟩ rfl ?_
  refine a_s rfl rfl ?_
  exact a_zret rfl rfl rfl (QLs.yes (adH_fm F) (Ats.eq hA fun q g1 g2 => by unfold adH; rw [up2_row (by omega), up2_row (by omega), up2_row (by omega), up2_row (by omega), up2_row (by omega), up2_row (by omega), up2_row (by omega)]) (Sd.ad hD rfl hp6))
theorem s_du118 (hw : WdS S) (hW : WOk W) (h12 : ¬ W 1 = 12) {x0 x1 x2 x3 : Int32} {p w : Nat} {J : Nat → Nat → Int32} (F : Fm sO I J) (hA : Ats T e p w J) (hD : Sd J 209 W) : AW S m_X6_readDuty 17 (QLs T e (duE W x0 x1 x2 x3 (optP T e 8 0 (W 1 - 1) (-1) p)) I L w2 t) nX 0 0 118 [some (.ref 203), some (.int x0), some (.int x1), some (.int x2), some (.int x3), none] [] (hp J L w w2 t) := by
  refine a_s rfl rfl ?_
  refine a_s5 rfl rfl rfl rfl rfl rfl ?_
  refine a_l0 rfl rfl rfl ?_
  refine a_getq rfl gfX6_20_6 rfl (rfl) ?_
  refine a_getr rfl gfX6_24_9 rfl ?_
  refine a_pop1 (show _ = rv w :: _ from rfl) ?_
  refine a_gets rfl (inC4 (i := 201) rfl rfl) (hw.st (i := 8) (by decide)) ?_
  refine a_acmp_ne (rx := w) (ry := 100 + 8 + 1) rfl ((Ats.wk hA).ac hw) (WK.ck hw (i := 8) (by decide)) (fun c => ?_) (fun c => ?_)
  · have d1 : isWd T e p 8 = false := Bool.eq_false_iff.mpr fun z => c ((Ats.wo hA).trans ((wr_is (by decide)).mpr z))
    rw [show optP T e 8 0 (W 1 - 1) (-1) p = (true, (-1), p) from if_neg (by rw [d1]; exact Bool.false_ne_true)]
    rw [show duE W x0 x1 x2 x3 (true, (-1), p) = (true, p, addDt W x0 x1 x2 x3 (-1)) from if_pos rfl]
    exact s_du161 hW h12 F hA hD
  · have d1 : isWd T e p 8 = true := (wr_is (by decide)).mp ((Ats.wo hA).symm.trans c)
    refine a_l0 rfl rfl rfl ?_
    refine a_gets rfl (inC4 (i := 201) rfl rfl) (hw.st (i := 8) (by decide)) ?_
    refine a_s rfl rfl ?_
    refine a_l0 rfl rfl rfl ?_
    refine a_getq rfl gfX6_16_6 rfl (rfl) ?_
    refine a_getiv (v := nI (dn W)) rfl gfX6_46_5 rfl ((Sd.fd hD (f := 3) (g := 1) (by decide)).trans hW.2.2.2) ?_
    refine a_s rfl rfl ?_
    refine a_s rfl rfl ?_
    refine a_top (y := W 1 - 1) (by rw [hW.2.2.2]) ?_
    refine a_gV rfl lX6_71 mo_X6_readNumberOf (s_readNumberOf (k := 8) (lo := 0) (hi := (W 1 - 1)) hw hA (by decide) (by decide)) rfl rfl rfl ⟨6, _, rfl, rfl, rfl⟩ rfl (fun v' h' hv => ?_)
    obtain ⟨rfl, J2, w', rfl, hA2, hf2⟩ := hv
    rw [nbP_t d1] at hA2 ⊢
    by_cases cn : nm T e (nx T e p) 0 (W 1 - 1) = -1
    · rw [if_pos cn] at hA2 ⊢
      rw [show optP T e 8 0 (W 1 - 1) (-1) p = (false, -1, nx T e p) from (if_pos d1).trans (if_pos cn)]
      refine a_s5 rfl rfl rfl rfl rfl rfl ?_
      refine a_l5 rfl rfl rfl ?_
      refine a_s rfl rfl ?_
      refine a_ic_ne rfl (fun z => absurd rfl z) (fun _ => ?_)
      refine a_s rfl rfl ?_
      rw [show duE W x0 x1 x2 x3 (false, -1, nx T e p) = (false, nx T e p, W) from if_neg Bool.false_ne_true]
      exact a_zret rfl rfl rfl (QLs.no (Fms F hf2) hA2 (Dk.nx (Dk.sd hD hW) hf2))
    · rw [if_neg cn] at hA2 ⊢
      rw [show optP T e 8 0 (W 1 - 1) (-1) p = (true, nm T e (nx T e p) 0 (W 1 - 1), nx T e (nx T e p)) from (if_pos d1).trans (if_neg cn)]
      refine a_s5 rfl rfl rfl rfl rfl rfl ?_
      refine a_l5 rfl rfl rfl ?_
      refine a_s rfl rfl ?_
      refine a_ic_ne rfl (fun _ => ?_) (fun z => absurd z cn)
      rw [show duE W x0 x1 x2 x3 (true, nm T e (nx T e p) 0 (W 1 - 1), nx T e (nx T e p)) = (true, nx T e (nx T e p), addDt W x0 x1 x2 x3 (nm T e (nx T e p) 0 (W 1 - 1))) from if_pos rfl]
      exact s_du161 hW h12 (Fms F hf2) hA2 (Sd.nx hD hf2)
theorem s_du83 (hw : WdS S) (hW : WOk W) (h12 : ¬ W 1 = 12) {x0 x1 x2 : Int32} {p w : Nat} {J : Nat → Nat → Int32} (F : Fm sO I J) (hA : Ats T e p w J) (hD : Sd J 209 W) : AW S m_X6_readDuty 17 (QLs T e (duD T e W x0 x1 x2 (optP T e 7 0 5 (-1) p)) I L w2 t) nX 0 0 83 [some (.ref 203), some (.int x0), some (.int x1), some (.int x2), none, none] [] (hp J L w w2 t) := by
  refine a_s rfl rfl ?_
  refine a_s4 rfl rfl rfl rfl rfl rfl ?_
  refine a_l0 rfl rfl rfl ?_
  refine a_getq rfl gfX6_20_6 rfl (rfl) ?_
  refine a_getr rfl gfX6_24_9 rfl ?_
  refine a_pop1 (show _ = rv w :: _ from rfl) ?_
  refine a_gets rfl (inC4 (i := 199) rfl rfl) (hw.st (i := 7) (by decide)) ?_
  refine a_acmp_ne (rx := w) (ry := 100 + 7 + 1) rfl ((Ats.wk hA).ac hw) (WK.ck hw (i := 7) (by decide)) (fun c => ?_) (fun c => ?_)
  · have d1 : isWd T e p 7 = false := Bool.eq_false_iff.mpr fun z => c ((Ats.wo hA).trans ((wr_is (by decide)).mpr z))
    rw [show optP T e 7 0 5 (-1) p = (true, (-1), p) from if_neg (by rw [d1]; exact Bool.false_ne_true)]
    rw [show duD T e W x0 x1 x2 (true, (-1), p) = duE W x0 x1 x2 (-1) (optP T e 8 0 (W 1 - 1) (-1) (p)) from if_pos rfl]
    exact s_du118 hw hW h12 F hA hD
  · have d1 : isWd T e p 7 = true := (wr_is (by decide)).mp ((Ats.wo hA).symm.trans c)
    refine a_l0 rfl rfl rfl ?_
    refine a_gets rfl (inC4 (i := 199) rfl rfl) (hw.st (i := 7) (by decide)) ?_
    refine a_s rfl rfl ?_
    refine a_s rfl rfl ?_
    refine a_gV rfl lX6_71 mo_X6_readNumberOf (s_readNumberOf (k := 7) (lo := 0) (hi := 5) hw hA (by decide) (by decide)) rfl rfl rfl ⟨6, _, rfl, rfl, rfl⟩ rfl (fun v' h' hv => ?_)
    obtain ⟨rfl, J2, w', rfl, hA2, hf2⟩ := hv
    rw [nbP_t d1] at hA2 ⊢
    by_cases cn : nm T e (nx T e p) 0 5 = -1
    · rw [if_pos cn] at hA2 ⊢
      rw [show optP T e 7 0 5 (-1) p = (false, -1, nx T e p) from (if_pos d1).trans (if_pos cn)]
      refine a_s4 rfl rfl rfl rfl rfl rfl ?_
      refine a_l4 rfl rfl rfl ?_
      refine a_s rfl rfl ?_
      refine a_ic_ne rfl (fun z => absurd rfl z) (fun _ => ?_)
      refine a_s rfl rfl ?_
      rw [show duD T e W x0 x1 x2 (false, -1, nx T e p) = (false, nx T e p, W) from if_neg Bool.false_ne_true]
      exact a_zret rfl rfl rfl (QLs.no (Fms F hf2) hA2 (Dk.nx (Dk.sd hD hW) hf2))
    · rw [if_neg cn] at hA2 ⊢
      rw [show optP T e 7 0 5 (-1) p = (true, nm T e (nx T e p) 0 5, nx T e (nx T e p)) from (if_pos d1).trans (if_neg cn)]
      refine a_s4 rfl rfl rfl rfl rfl rfl ?_
      refine a_l4 rfl rfl rfl ?_
      refine a_s rfl rfl ?_
      refine a_ic_ne rfl (fun _ => ?_) (fun z => absurd z cn)
      rw [show duD T e W x0 x1 x2 (true, nm T e (nx T e p) 0 5, nx T e (nx T e p)) = duE W x0 x1 x2 (nm T e (nx T e p) 0 5) (optP T e 8 0 (W 1 - 1) (-1) (nx T e (nx T e p))) from if_pos rfl]
      exact s_du118 hw hW h12 (Fms F hf2) hA2 (Sd.nx hD hf2)
theorem s_du50 (hw : WdS S) (hW : WOk W) (h12 : ¬ W 1 = 12) {x0 x1 : Int32} {p w : Nat} {J : Nat → Nat → Int32} (F : Fm sO I J) (hA : Ats T e p w J) (hD : Sd J 209 W) : AW S m_X6_readDuty 17 (QLs T e (duC T e W x0 x1 (optP T e 6 0 99 0 p)) I L w2 t) nX 0 0 50 [some (.ref 203), some (.int x0), some (.int x1), none, none, none] [] (hp J L w w2 t) := by
  refine a_s rfl rfl ?_
  refine a_s3 rfl rfl rfl rfl rfl rfl ?_
  refine a_l0 rfl rfl rfl ?_
  refine a_getq rfl gfX6_20_6 rfl (rfl) ?_
  refine a_getr rfl gfX6_24_9 rfl ?_
  refine a_pop1 (show _ = rv w :: _ from rfl) ?_
  refine a_gets rfl (inC4 (i := 197) rfl rfl) (hw.st (i := 6) (by decide)) ?_
  refine a_acmp_ne (rx := w) (ry := 100 + 6 + 1) rfl ((Ats.wk hA).ac hw) (WK.ck hw (i := 6) (by decide)) (fun c => ?_) (fun c => ?_)
  · have d1 : isWd T e p 6 = false := Bool.eq_false_iff.mpr fun z => c ((Ats.wo hA).trans ((wr_is (by decide)).mpr z))
    rw [show optP T e 6 0 99 0 p = (true, 0, p) from if_neg (by rw [d1]; exact Bool.false_ne_true)]
    rw [show duC T e W x0 x1 (true, 0, p) = duD T e W x0 x1 (0) (optP T e 7 0 5 (-1) (p)) from if_pos rfl]
    exact s_du83 hw hW h12 F hA hD
  · have d1 : isWd T e p 6 = true := (wr_is (by decide)).mp ((Ats.wo hA).symm.trans c)
    refine a_l0 rfl rfl rfl ?_
    refine a_gets rfl (inC4 (i := 197) rfl rfl) (hw.st (i := 6) (by decide)) ?_
    refine a_s rfl rfl ?_
    refine a_s rfl rfl ?_
    refine a_gV rfl lX6_71 mo_X6_readNumberOf (s_readNumberOf (k := 6) (lo := 0) (hi := 99) hw hA (by decide) (by decide)) rfl rfl rfl ⟨6, _, rfl, rfl, rfl⟩ rfl (fun v' h' hv => ?_)
    obtain ⟨rfl, J2, w', rfl, hA2, hf2⟩ := hv
    rw [nbP_t d1] at hA2 ⊢
    by_cases cn : nm T e (nx T e p) 0 99 = -1
    · rw [if_pos cn] at hA2 ⊢
      rw [show optP T e 6 0 99 0 p = (false, -1, nx T e p) from (if_pos d1).trans (if_pos cn)]
      refine a_s3 rfl rfl rfl rfl rfl rfl ?_
      refine a_l3 rfl rfl rfl ?_
      refine a_s rfl rfl ?_
      refine a_ic_ne rfl (fun z => absurd rfl z) (fun _ => ?_)
      refine a_s rfl rfl ?_
      rw [show duC T e W x0 x1 (false, -1, nx T e p) = (false, nx T e p, W) from if_neg Bool.false_ne_true]
      exact a_zret rfl rfl rfl (QLs.no (Fms F hf2) hA2 (Dk.nx (Dk.sd hD hW) hf2))
    · rw [if_neg cn] at hA2 ⊢
      rw [show optP T e 6 0 99 0 p = (true, nm T e (nx T e p) 0 99, nx T e (nx T e p)) from (if_pos d1).trans (if_neg cn)]
      refine a_s3 rfl rfl rfl rfl rfl rfl ?_
      refine a_l3 rfl rfl rfl ?_
      refine a_s rfl rfl ?_
      refine a_ic_ne rfl (fun _ => ?_) (fun z => absurd z cn)
      rw [show duC T e W x0 x1 (true, nm T e (nx T e p) 0 99, nx T e (nx T e p)) = duD T e W x0 x1 (nm T e (nx T e p) 0 99) (optP T e 7 0 5 (-1) (nx T e (nx T e p))) from if_pos rfl]
      exact s_du83 hw hW h12 (Fms F hf2) hA2 (Sd.nx hD hf2)
theorem s_readDuty (hw : WdS S) (h : Ats T e b w1 I) (hD : Sd I 209 W) (hW : WOk W) (h12 : ¬ W 1 = 12) : Sp S m_X6_readDuty 17 0 0 [.ref 203] (hp I L w1 w2 t) (QLs T e (duA T e W (nbP T e 4 0 (W 0 - 1) (nx T e b))) I L w2 t) nX := by
  refine Sp_of ok_X6_readDuty rfl rfl ?_
  show AW S m_X6_readDuty 17 _ _ 0 0 0 [some (.ref 203), none, none, none, none, none] [] (hp I L w1 w2 t)
  refine a_l0 rfl rfl rfl ?_
  refine a_getq rfl gfX6_20_6 rfl (rfl) ?_
  refine a_gV rfl lX6_65 mo_X9_next (sg_next hw h) rfl rfl rfl ⟨9, _, rfl, rfl, rfl⟩ rfl (fun v' h' hv => ?_)
  obtain ⟨rfl, J1, wa, rfl, hA1, hf1⟩ := hv
  refine a_l0 rfl rfl rfl ?_
  refine a_gets rfl (inC4 (i := 193) rfl rfl) (hw.st (i := 4) (by decide)) ?_
  refine a_s rfl rfl ?_
  refine a_l0 rfl rfl rfl ?_
  refine a_getq rfl gfX6_16_6 rfl (rfl) ?_
  refine a_getiv (v := nI (pn W)) rfl gfX6_35_5 rfl ((Sd.fd (Sd.nx hD hf1) (f := 0) (g := 0) (by decide)).trans hW.2.2.1) ?_
  refine a_s rfl rfl ?_
  refine a_s rfl rfl ?_
  refine a_top (y := W 0 - 1) (by rw [hW.2.2.1]) ?_
  refine a_gV rfl lX6_71 mo_X6_readNumberOf (s_readNumberOf (k := 4) (lo := 0) (hi := W 0 - 1) hw hA1 (by decide) (by decide)) rfl rfl rfl ⟨6, _, rfl, rfl, rfl⟩ rfl (fun v' h' hv => ?_)
  obtain ⟨rfl, J2, wb, rfl, hA2, hf2⟩ := hv
  have F2 : Fm sO I J2 := Fms (Fms Fm.rf hf1) hf2
  generalize nbP T e 4 0 (W 0 - 1) (nx T e b) = x at hA2 ⊢
  refine a_s1 rfl rfl rfl rfl rfl rfl ?_
  refine a_l1 rfl rfl rfl ?_
  refine a_s rfl rfl ?_
  refine a_ic_ne rfl (fun c1 => ?_) (fun c1 => ?_)
  rotate_left
  · refine a_s rfl rfl ?_
    rw [show duA T e W x = (false, x.2, W) from if_pos c1]
    exact a_zret rfl rfl rfl (QLs.no F2 hA2 (Dk.nx (Dk.nx (Dk.sd hD hW) hf1) hf2))
  rw [show duA T e W x = duB T e W x.1 (nbP T e 5 1 99 x.2) from if_neg c1]
  refine a_l0 rfl rfl rfl ?_
  refine a_gets rfl (inC4 (i := 195) rfl rfl) (hw.st (i := 5) (by decide)) ?_
  refine a_s rfl rfl ?_
  refine a_s rfl rfl ?_
  refine a_gV rfl lX6_71 mo_X6_readNumberOf (s_readNumberOf (k := 5) (lo := 1) (hi := 99) hw hA2 (by decide) (by decide)) rfl rfl rfl ⟨6, _, rfl, rfl, rfl⟩ rfl (fun v' h' hv => ?_)
  obtain ⟨rfl, J3, wc, rfl, hA3, hf3⟩ := hv
  have F3 : Fm sO I J3 := Fms F2 hf3
  have D3 : Sd J3 209 W := Sd.nx (Sd.nx (Sd.nx hD hf1) hf2) hf3
  generalize nbP T e 5 1 99 x.2 = y at hA3 ⊢
  refine a_s2 rfl rfl rfl rfl rfl rfl ?_
  refine a_l2 rfl rfl rfl ?_
  refine a_s rfl rfl ?_
  refine a_ic_ne rfl (fun c2 => ?_) (fun c2 => ?_)
  rotate_left
  · refine a_s rfl rfl ?_
    rw [show duB T e W x.1 y = (false, y.2, W) from if_pos c2]
    exact a_zret rfl rfl rfl (QLs.no F3 hA3 (Dk.sd D3 hW))
  rw [show duB T e W x.1 y = duC T e W x.1 y.1 (optP T e 6 0 99 0 y.2) from if_neg c2]
  exact s_du50 hw hW h12 F3 hA3 D3
theorem waitF_out {nd : Nat} {st : Nat → Int32} {v : Int32} (hn : nd ≤ 12) (h : ¬ (0 ≤ v ∧ v ≤ nI nd - 1)) : waitF nd st v = false := by
  refine decide_eq_false fun z => h ?_
  obtain ⟨z1, z2, -⟩ := z
  have z1 := Int32.not_lt.mp z1
  refine ⟨z1, ?_⟩
  have z2 := Int32.not_le.mp z2
  rcases nd with _ | n
  · exact absurd (Int32.lt_of_le_of_lt z1 z2) (by decide)
  · rw [nI_dec, Int32.le_iff_toInt_le, nI_toInt (by omega)]
    rw [Int32.lt_iff_toInt_lt, nI_toInt (by omega)] at z2
    omega
theorem s_readForgotten (hw : WdS S) (h : Ats T e b w1 I) (hD : Sd I 209 W) (hW : WOk W) : Sp S m_X6_readForgotten 16 0 0 [.ref 203] (hp I L w1 w2 t) (QLs T e (forP T e b W) I L w2 t) nX := by
  have hnd : I 209 3 = nI (dn W) := (Sd.fd hD (f := 3) (g := 1) (by decide)).trans hW.2.2.2
  have h12 := hW.2.1
  have k4 := kd_4 (T := T) (e := e) (b := b) rfl
  refine Sp_of ok_X6_readForgotten rfl rfl ?_
  show AW S m_X6_readForgotten 16 _ _ 0 0 0 [some (.ref 203)] [] (hp I L w1 w2 t)
  refine a_l0 rfl rfl rfl ?_
  refine a_getq rfl gfX6_20_6 rfl (rfl) ?_
  refine a_getiv (v := nI (kd T e b)) rfl gfX6_101_9 rfl (Ats.ki h) ?_
  refine a_s rfl rfl ?_
  have no : forP T e b W = (false, b, W) → AW S m_X6_readForgotten 16 (QLs T e (forP T e b W) I L w2 t) nX 0 0 28 [some (.ref 203)] [] (hp I L w1 w2 t) := fun ef => by
    rw [ef]
    refine a_s rfl rfl ?_
    exact a_zret rfl rfl rfl (QLs.no Fm.rf h (Dk.sd hD hW))
  refine a_ic_ne rfl (fun c => ?_) (fun c => ?_)
  · exact no (if_pos (if_neg fun z => c (congrArg nI z.1)))
  have hk : kd T e b = 2 := nI_inj (by omega) (by decide) c
  refine a_l0 rfl rfl rfl ?_
  refine a_getq rfl gfX6_16_6 rfl (rfl) ?_
  refine a_l0 rfl rfl rfl ?_
  refine a_getq rfl gfX6_20_6 rfl (rfl) ?_
  refine a_getiv (v := vl T e b) rfl gfX6_104_9 rfl (Ats.va h) ?_
  refine a_eV1 rfl lX6_107 mo_X5_isWaiting (sp_X5_isWaiting (a := 209) (by decide) hnd h12) rfl rfl rfl ⟨5, _, rfl, rfl, rfl⟩ rfl ?_
  by_cases cn : nm T e b 0 (W 1 - 1) = -1
  · have cw : waitF (dn W) (I (209 + 8)) (vl T e b) = false := waitF_out h12 fun z => by
      rw [← hW.2.2.2] at z
      have e9 : nm T e b 0 (W 1 - 1) = vl T e b := if_pos ⟨hk, z⟩
      rw [← e9, cn] at z
      exact absurd z.1 (by decide)
    rw [cw]
    refine a_if_ne rfl (fun z => absurd rfl z) (fun _ => ?_)
    exact no (if_pos cn)
  · obtain ⟨j, hj, ej⟩ := nm_ix h12 (by rw [← hW.2.2.2]; exact cn)
    rw [← hW.2.2.2] at ej
    have ev : vl T e b = nI j := (nm_in cn).2.2.2.symm.trans ej
    have es : I (209 + 8) j = W (23 + 6 * j + 5) := hD.2.2 j (by omega) 5 (by decide)
    rw [show waitF (dn W) (I (209 + 8)) (vl T e b) = decide (W (23 + 6 * j + 5) = 0) by rw [ev, waitF_nI hj h12, es]]
    by_cases cw : W (23 + 6 * j + 5) = 0
    · rw [decide_eq_true cw]
      refine a_if_ne rfl (fun _ => ?_) (fun z => absurd z (by decide))
      have ef : forP T e b W = (true, nx T e b, ud W (23 + 6 * j + 5) 2) := by
        unfold forP
        rw [if_neg cn, ej, nI_clamp (by omega), if_pos cw]
      rw [ef]
      refine a_l0 rfl rfl rfl ?_
      refine a_getq rfl gfX6_16_6 rfl (rfl) ?_
      refine a_getq rfl gfX6_111_5 rfl (rfl) ?_
      refine a_l0 rfl rfl rfl ?_
      refine a_getq rfl gfX6_20_6 rfl (rfl) ?_
      refine a_getiv (v := nI j) rfl gfX6_104_9 rfl ((Ats.va h).trans ev) ?_
      refine a_s rfl rfl ?_
      refine a_eSN0 rfl lX6_115 mo_X11_setAt (sp_X11_setAt rfl) rfl rfl rfl rfl ?_
      rw [setF_nI (show j < 12 by omega) (by decide)]
      refine a_l0 rfl rfl rfl ?_
      refine a_getq rfl gfX6_20_6 rfl (rfl) ?_
      refine a_gV rfl lX6_65 mo_X9_next (sg_next hw (Ats.eq (J := up2 I 217 j 2) h fun q g1 g2 => up2_row (by omega))) rfl rfl rfl ⟨9, _, rfl, rfl, rfl⟩ rfl (fun v' h' hv => ?_)
      obtain ⟨rfl, J, w, rfl, hA1, hf1⟩ := hv
      refine a_s rfl rfl ?_
      exact a_zret rfl rfl rfl (QLs.yes (Fms (Fm.up Fm.rf rfl) hf1) hA1 (Sd.nx (Sd.ro (k := 5) hD (by omega) (by decide)) hf1))
    · rw [decide_eq_false cw]
      refine a_if_ne rfl (fun z => absurd rfl z) (fun _ => ?_)
      refine no ?_
      unfold forP
      rw [if_neg cn, ej, nI_clamp (by omega), if_neg cw]
theorem s_readSetting (hw : WdS S) (h : Ats T e b w1 I) (hD : Sd I 209 W) (hW : WOk W) : Sp S m_X6_readSetting 16 0 0 [.ref 203] (hp I L w1 w2 t) (QLs T e (stgP T e b W) I L w2 t) nX := by
  refine Sp_of ok_X6_readSetting rfl rfl ?_
  show AW S m_X6_readSetting 16 _ _ 0 0 0 [some (.ref 203)] [] (hp I L w1 w2 t)
  unfold stgP
  refine a_l0 rfl rfl rfl ?_
  refine a_getq rfl gfX6_20_6 rfl (rfl) ?_
  refine a_getr rfl gfX6_24_9 rfl ?_
  refine a_pop1 (show _ = rv w1 :: _ from rfl) ?_
  refine a_gets rfl (inC4 (i := 219) rfl rfl) (hw.st (i := 10) (by decide)) ?_
  refine a_acmp_ne (rx := w1) (ry := 100 + 10 + 1) rfl ((Ats.wk h).ac hw) (WK.ck hw (i := 10) (by decide)) (fun c => ?_) (fun c => ?_)
  rotate_left
  · have d1 : isWd T e b 10 = true := (wr_is (by decide)).mp ((Ats.wo h).symm.trans c)
    rw [if_pos d1]
    refine a_l0 rfl rfl rfl ?_
    refine a_getq rfl gfX6_16_6 rfl (rfl) ?_
    refine a_l0 rfl rfl rfl ?_
    refine a_gets rfl (inC4 (i := 219) rfl rfl) (hw.st (i := 10) (by decide)) ?_
    refine a_s rfl rfl ?_
    refine a_s rfl rfl ?_
    refine a_gV rfl lX6_71 mo_X6_readNumberOf (s_readNumberOf (k := 10) (lo := 0) (hi := 100) hw h (by decide) (by decide)) rfl rfl rfl ⟨6, _, rfl, rfl, rfl⟩ rfl (fun v' h' hv => ?_)
    obtain ⟨rfl, J, w, rfl, hA, hf⟩ := hv
    rw [nbP_t d1] at hA ⊢
    by_cases cn : nm T e (nx T e b) 0 100 = -1
    · rw [if_pos cn] at hA ⊢
      refine a_puti rfl pfX6_122_5 rfl ?_
      refine a_l0 rfl rfl rfl ?_
      refine a_getq rfl gfX6_16_6 rfl (rfl) ?_
      refine a_getiv (v := (-1)) rfl gfX6_122_5 rfl (up2_at) ?_
      refine a_s rfl rfl ?_
      refine a_ic_eq rfl (fun _ => ?_) (fun z => absurd rfl z)
      refine a_s rfl rfl ?_
      rw [show setP T e (nx T e b) W 6 0 100 = (false, nx T e b, W) from if_pos cn]
      exact a_zret rfl rfl rfl (QLs.no (Fm.up (Fms Fm.rf hf) rfl) (Ats.eq hA fun q g1 g2 => up2_row (by omega)) (Dk.up (Dk.nx (Dk.sd hD hW) hf) (by decide)))
    · rw [if_neg cn] at hA ⊢
      refine a_puti rfl pfX6_122_5 rfl ?_
      refine a_l0 rfl rfl rfl ?_
      refine a_getq rfl gfX6_16_6 rfl (rfl) ?_
      refine a_getiv (v := nm T e (nx T e b) 0 100) rfl gfX6_122_5 rfl (up2_at) ?_
      refine a_s rfl rfl ?_
      refine a_ic_eq rfl (fun z => absurd z cn) (fun _ => ?_)
      refine a_s rfl rfl ?_
      refine a_goto rfl ?_
      rw [show setP T e (nx T e b) W 6 0 100 = (true, nx T e (nx T e b), ud W 6 (nm T e (nx T e b) 0 100)) from if_neg cn]
      exact a_zret rfl rfl rfl (QLs.yes (Fm.up (Fms Fm.rf hf) rfl) (Ats.eq hA fun q g1 g2 => up2_row (by omega)) (Sd.pu (f := 12) (g := 6) (Sd.nx hD hf) (by decide)))
  rw [if_neg (c := isWd T e b 10 = true) (fun z => c ((Ats.wo h).trans ((wr_is (by decide)).mpr z)))]
  refine a_l0 rfl rfl rfl ?_
  refine a_getq rfl gfX6_20_6 rfl (rfl) ?_
  refine a_getr rfl gfX6_24_9 rfl ?_
  refine a_pop1 (show _ = rv w1 :: _ from rfl) ?_
  refine a_gets rfl (inC4 (i := 221) rfl rfl) (hw.st (i := 11) (by decide)) ?_
  refine a_acmp_ne (rx := w1) (ry := 100 + 11 + 1) rfl ((Ats.wk h).ac hw) (WK.ck hw (i := 11) (by decide)) (fun c => ?_) (fun c => ?_)
  rotate_left
  · have d1 : isWd T e b 11 = true := (wr_is (by decide)).mp ((Ats.wo h).symm.trans c)
    rw [if_pos d1]
    refine a_l0 rfl rfl rfl ?_
    refine a_getq rfl gfX6_16_6 rfl (rfl) ?_
    refine a_l0 rfl rfl rfl ?_
    refine a_gets rfl (inC4 (i := 221) rfl rfl) (hw.st (i := 11) (by decide)) ?_
    refine a_s rfl rfl ?_
    refine a_s rfl rfl ?_
    refine a_gV rfl lX6_71 mo_X6_readNumberOf (s_readNumberOf (k := 11) (lo := 1) (hi := 9) hw h (by decide) (by decide)) rfl rfl rfl ⟨6, _, rfl, rfl, rfl⟩ rfl (fun v' h' hv => ?_)
    obtain ⟨rfl, J, w, rfl, hA, hf⟩ := hv
    rw [nbP_t d1] at hA ⊢
    by_cases cn : nm T e (nx T e b) 1 9 = -1
    · rw [if_pos cn] at hA ⊢
      refine a_puti rfl pfX6_128_5 rfl ?_
      refine a_l0 rfl rfl rfl ?_
      refine a_getq rfl gfX6_16_6 rfl (rfl) ?_
      refine a_getiv (v := (-1)) rfl gfX6_128_5 rfl (up2_at) ?_
      refine a_s rfl rfl ?_
      refine a_ic_eq rfl (fun _ => ?_) (fun z => absurd rfl z)
      refine a_s rfl rfl ?_
      rw [show setP T e (nx T e b) W 7 1 9 = (false, nx T e b, W) from if_pos cn]
      exact a_zret rfl rfl rfl (QLs.no (Fm.up (Fms Fm.rf hf) rfl) (Ats.eq hA fun q g1 g2 => up2_row (by omega)) (Dk.up (Dk.nx (Dk.sd hD hW) hf) (by decide)))
    · rw [if_neg cn] at hA ⊢
      refine a_puti rfl pfX6_128_5 rfl ?_
      refine a_l0 rfl rfl rfl ?_
      refine a_getq rfl gfX6_16_6 rfl (rfl) ?_
      refine a_getiv (v := nm T e (nx T e b) 1 9) rfl gfX6_128_5 rfl (up2_at) ?_
      refine a_s rfl rfl ?_
      refine a_ic_eq rfl (fun z => absurd z cn) (fun _ => ?_)
      refine a_s rfl rfl ?_
      refine a_goto rfl ?_
      rw [show setP T e (nx T e b) W 7 1 9 = (true, nx T e (nx T e b), ud W 7 (nm T e (nx T e b) 1 9)) from if_neg cn]
      exact a_zret rfl rfl rfl (QLs.yes (Fm.up (Fms Fm.rf hf) rfl) (Ats.eq hA fun q g1 g2 => up2_row (by omega)) (Sd.pu (f := 13) (g := 7) (Sd.nx hD hf) (by decide)))
  rw [if_neg (c := isWd T e b 11 = true) (fun z => c ((Ats.wo h).trans ((wr_is (by decide)).mpr z)))]
  refine a_l0 rfl rfl rfl ?_
  refine a_getq rfl gfX6_20_6 rfl (rfl) ?_
  refine a_getr rfl gfX6_24_9 rfl ?_
  refine a_pop1 (show _ = rv w1 :: _ from rfl) ?_
  refine a_gets rfl (inC4 (i := 223) rfl rfl) (hw.st (i := 12) (by decide)) ?_
  refine a_acmp_ne (rx := w1) (ry := 100 + 12 + 1) rfl ((Ats.wk h).ac hw) (WK.ck hw (i := 12) (by decide)) (fun c => ?_) (fun c => ?_)
  rotate_left
  · have d1 : isWd T e b 12 = true := (wr_is (by decide)).mp ((Ats.wo h).symm.trans c)
    rw [if_pos d1]
    refine a_l0 rfl rfl rfl ?_
    refine a_getq rfl gfX6_16_6 rfl (rfl) ?_
    refine a_l0 rfl rfl rfl ?_
    refine a_gets rfl (inC4 (i := 223) rfl rfl) (hw.st (i := 12) (by decide)) ?_
    refine a_s rfl rfl ?_
    refine a_s rfl rfl ?_
    refine a_gV rfl lX6_71 mo_X6_readNumberOf (s_readNumberOf (k := 12) (lo := 0) (hi := 50) hw h (by decide) (by decide)) rfl rfl rfl ⟨6, _, rfl, rfl, rfl⟩ rfl (fun v' h' hv => ?_)
    obtain ⟨rfl, J, w, rfl, hA, hf⟩ := hv
    rw [nbP_t d1] at hA ⊢
    by_cases cn : nm T e (nx T e b) 0 50 = -1
    · rw [if_pos cn] at hA ⊢
      refine a_puti rfl pfX6_134_5 rfl ?_
      refine a_l0 rfl rfl rfl ?_
      refine a_getq rfl gfX6_16_6 rfl (rfl) ?_
      refine a_getiv (v := (-1)) rfl gfX6_134_5 rfl (up2_at) ?_
      refine a_s rfl rfl ?_
      refine a_ic_eq rfl (fun _ => ?_) (fun z => absurd rfl z)
      refine a_s rfl rfl ?_
      rw [show setP T e (nx T e b) W 8 0 50 = (false, nx T e b, W) from if_pos cn]
      exact a_zret rfl rfl rfl (QLs.no (Fm.up (Fms Fm.rf hf) rfl) (Ats.eq hA fun q g1 g2 => up2_row (by omega)) (Dk.up (Dk.nx (Dk.sd hD hW) hf) (by decide)))
    · rw [if_neg cn] at hA ⊢
      refine a_puti rfl pfX6_134_5 rfl ?_
      refine a_l0 rfl rfl rfl ?_
      refine a_getq rfl gfX6_16_6 rfl (rfl) ?_
      refine a_getiv (v := nm T e (nx T e b) 0 50) rfl gfX6_134_5 rfl (up2_at) ?_
      refine a_s rfl rfl ?_
      refine a_ic_eq rfl (fun z => absurd z cn) (fun _ => ?_)
      refine a_s rfl rfl ?_
      refine a_goto rfl ?_
      rw [show setP T e (nx T e b) W 8 0 50 = (true, nx T e (nx T e b), ud W 8 (nm T e (nx T e b) 0 50)) from if_neg cn]
      exact a_zret rfl rfl rfl (QLs.yes (Fm.up (Fms Fm.rf hf) rfl) (Ats.eq hA fun q g1 g2 => up2_row (by omega)) (Sd.pu (f := 14) (g := 8) (Sd.nx hD hf) (by decide)))
  rw [if_neg (c := isWd T e b 12 = true) (fun z => c ((Ats.wo h).trans ((wr_is (by decide)).mpr z)))]
  refine a_l0 rfl rfl rfl ?_
  refine a_getq rfl gfX6_20_6 rfl (rfl) ?_
  refine a_getr rfl gfX6_24_9 rfl ?_
  refine a_pop1 (show _ = rv w1 :: _ from rfl) ?_
  refine a_gets rfl (inC4 (i := 225) rfl rfl) (hw.st (i := 13) (by decide)) ?_
  refine a_acmp_ne (rx := w1) (ry := 100 + 13 + 1) rfl ((Ats.wk h).ac hw) (WK.ck hw (i := 13) (by decide)) (fun c => ?_) (fun c => ?_)
  rotate_left
  · have d1 : isWd T e b 13 = true := (wr_is (by decide)).mp ((Ats.wo h).symm.trans c)
    rw [if_pos d1]
    refine a_l0 rfl rfl rfl ?_
    refine a_getq rfl gfX6_16_6 rfl (rfl) ?_
    refine a_l0 rfl rfl rfl ?_
    refine a_gets rfl (inC4 (i := 225) rfl rfl) (hw.st (i := 13) (by decide)) ?_
    refine a_s rfl rfl ?_
    refine a_s rfl rfl ?_
    refine a_gV rfl lX6_71 mo_X6_readNumberOf (s_readNumberOf (k := 13) (lo := 1) (hi := 30) hw h (by decide) (by decide)) rfl rfl rfl ⟨6, _, rfl, rfl, rfl⟩ rfl (fun v' h' hv => ?_)
    obtain ⟨rfl, J, w, rfl, hA, hf⟩ := hv
    rw [nbP_t d1] at hA ⊢
    by_cases cn : nm T e (nx T e b) 1 30 = -1
    · rw [if_pos cn] at hA ⊢
      refine a_puti rfl pfX6_140_5 rfl ?_
      refine a_l0 rfl rfl rfl ?_
      refine a_getq rfl gfX6_16_6 rfl (rfl) ?_
      refine a_getiv (v := (-1)) rfl gfX6_140_5 rfl (up2_at) ?_
      refine a_s rfl rfl ?_
      refine a_ic_eq rfl (fun _ => ?_) (fun z => absurd rfl z)
      refine a_s rfl rfl ?_
      rw [show setP T e (nx T e b) W 4 1 30 = (false, nx T e b, W) from if_pos cn]
      exact a_zret rfl rfl rfl (QLs.no (Fm.up (Fms Fm.rf hf) rfl) (Ats.eq hA fun q g1 g2 => up2_row (by omega)) (Dk.up (Dk.nx (Dk.sd hD hW) hf) (by decide)))
    · rw [if_neg cn] at hA ⊢
      refine a_puti rfl pfX6_140_5 rfl ?_
      refine a_l0 rfl rfl rfl ?_
      refine a_getq rfl gfX6_16_6 rfl (rfl) ?_
      refine a_getiv (v := nm T e (nx T e b) 1 30) rfl gfX6_140_5 rfl (up2_at) ?_
      refine a_s rfl rfl ?_
      refine a_ic_eq rfl (fun z => absurd z cn) (fun _ => ?_)
      refine a_s rfl rfl ?_
      refine a_goto rfl ?_
      rw [show setP T e (nx T e b) W 4 1 30 = (true, nx T e (nx T e b), ud W 4 (nm T e (nx T e b) 1 30)) from if_neg cn]
      exact a_zret rfl rfl rfl (QLs.yes (Fm.up (Fms Fm.rf hf) rfl) (Ats.eq hA fun q g1 g2 => up2_row (by omega)) (Sd.pu (f := 10) (g := 4) (Sd.nx hD hf) (by decide)))
  rw [if_neg (c := isWd T e b 13 = true) (fun z => c ((Ats.wo h).trans ((wr_is (by decide)).mpr z)))]
  cases d1 : isWd T e b 14 with
  | true =>
    rw [if_pos rfl]
    refine a_l0 rfl rfl rfl ?_
    refine a_getq rfl gfX6_16_6 rfl (rfl) ?_
    refine a_l0 rfl rfl rfl ?_
    refine a_gets rfl (inC4 (i := 227) rfl rfl) (hw.st (i := 14) (by decide)) ?_
    refine a_s rfl rfl ?_
    refine a_s rfl rfl ?_
    refine a_gV rfl lX6_71 mo_X6_readNumberOf (s_readNumberOf (k := 14) (lo := 0) (hi := 999) hw h (by decide) (by decide)) rfl rfl rfl ⟨6, _, rfl, rfl, rfl⟩ rfl (fun v' h' hv => ?_)
    obtain ⟨rfl, J, w, rfl, hA, hf⟩ := hv
    rw [nbP_t d1] at hA ⊢
    by_cases cn : nm T e (nx T e b) 0 999 = -1
    · rw [if_pos cn] at hA ⊢
      refine a_puti rfl pfX6_146_5 rfl ?_
      refine a_l0 rfl rfl rfl ?_
      refine a_getq rfl gfX6_16_6 rfl (rfl) ?_
      refine a_getiv (v := (-1)) rfl gfX6_146_5 rfl (up2_at) ?_
      refine a_s rfl rfl ?_
      refine a_ic_eq rfl (fun _ => ?_) (fun z => absurd rfl z)
      refine a_s rfl rfl ?_
      rw [show setP T e (nx T e b) W 5 0 999 = (false, nx T e b, W) from if_pos cn]
      exact a_zret rfl rfl rfl (QLs.no (Fm.up (Fms Fm.rf hf) rfl) (Ats.eq hA fun q g1 g2 => up2_row (by omega)) (Dk.up (Dk.nx (Dk.sd hD hW) hf) (by decide)))
    · rw [if_neg cn] at hA ⊢
      refine a_puti rfl pfX6_146_5 rfl ?_
      refine a_l0 rfl rfl rfl ?_
      refine a_getq rfl gfX6_16_6 rfl (rfl) ?_
      refine a_getiv (v := nm T e (nx T e b) 0 999) rfl gfX6_146_5 rfl (up2_at) ?_
      refine a_s rfl rfl ?_
      refine a_ic_eq rfl (fun z => absurd z cn) (fun _ => ?_)
      refine a_s rfl rfl ?_
      refine a_goto rfl ?_
      rw [show setP T e (nx T e b) W 5 0 999 = (true, nx T e (nx T e b), ud W 5 (nm T e (nx T e b) 0 999)) from if_neg cn]
      exact a_zret rfl rfl rfl (QLs.yes (Fm.up (Fms Fm.rf hf) rfl) (Ats.eq hA fun q g1 g2 => up2_row (by omega)) (Sd.pu (f := 11) (g := 5) (Sd.nx hD hf) (by decide)))
  | false =>
    rw [if_neg Bool.false_ne_true]
    refine a_l0 rfl rfl rfl ?_
    refine a_getq rfl gfX6_16_6 rfl (rfl) ?_
    refine a_l0 rfl rfl rfl ?_
    refine a_gets rfl (inC4 (i := 227) rfl rfl) (hw.st (i := 14) (by decide)) ?_
    refine a_s rfl rfl ?_
    refine a_s rfl rfl ?_
    refine a_gV rfl lX6_71 mo_X6_readNumberOf (s_readNumberOf (k := 14) (lo := 0) (hi := 999) hw h (by decide) (by decide)) rfl rfl rfl ⟨6, _, rfl, rfl, rfl⟩ rfl (fun v' h' hv => ?_)
    obtain ⟨rfl, J, w, rfl, hA, hf⟩ := hv
    rw [nbP_f d1] at hA ⊢
    refine a_puti rfl pfX6_146_5 rfl ?_
    refine a_l0 rfl rfl rfl ?_
    refine a_getq rfl gfX6_16_6 rfl (rfl) ?_
    refine a_getiv (v := (-1)) rfl gfX6_146_5 rfl (up2_at) ?_
    refine a_s rfl rfl ?_
    refine a_ic_eq rfl (fun _ => ?_) (fun z => absurd rfl z)
    refine a_s rfl rfl ?_
    exact a_zret rfl rfl rfl (QLs.no (Fm.up (Fms Fm.rf hf) rfl) (Ats.eq hA fun q g1 g2 => up2_row (by omega)) (Dk.up (Dk.nx (Dk.sd hD hW) hf) (by decide)))
theorem s_readLine (hw : WdS S) (h : Ats T e b w1 I) (hD : Sd I 209 W) (hW : WOk W) : Sp S m_X6_readLine 18 0 0 [.ref 203] (hp I L w1 w2 t) (QLs T e (linP T e b W) I L w2 t) nX := by
  have hp6 := hW.1
  have hd12 := hW.2.1
  refine Sp_of ok_X6_readLine rfl rfl ?_
  show AW S m_X6_readLine 18 _ _ 0 0 0 [some (.ref 203)] [] (hp I L w1 w2 t)
  refine a_l0 rfl rfl rfl ?_
  refine a_getq rfl gfX6_20_6 rfl (rfl) ?_
  refine a_getr rfl gfX6_24_9 rfl ?_
  refine a_pop1 (show _ = rv w1 :: _ from rfl) ?_
  refine a_gets rfl (inC4 (i := 166) rfl rfl) (hw.st (i := 0) (by decide)) ?_
  refine a_acmp_ne (rx := w1) (ry := 100 + 0 + 1) rfl ((Ats.wk h).ac hw) (WK.ck hw (i := 0) (by decide)) (fun c => ?_) (fun c => ?_)
  rotate_left
  · have d1 : isWd T e b 0 = true := (wr_is (by decide)).mp ((Ats.wo h).symm.trans c)
    rw [show linP T e b W = perP T e b W from if_pos d1]
    refine a_l0 rfl rfl rfl ?_
    refine a_getq rfl gfX6_16_6 rfl (rfl) ?_
    refine a_getiv (v := nI (pn W)) rfl gfX6_35_5 rfl ((Sd.fd hD (f := 0) (g := 0) (by decide)).trans hW.2.2.1) ?_
    refine a_s rfl rfl ?_
    refine a_ic_ge rfl (fun c6 => ?_) (fun c6 => ?_)
    · have c6 := nI_ge_of (b := 6) c6 (by omega) (by decide)
      rw [show perP T e b W = (false, b, W) from if_pos (by rw [hW.2.2.1, show pn W = 6 by omega]; rfl)]
      refine a_s rfl rfl ?_
      exact a_zret rfl rfl rfl (QLs.no Fm.rf h (Dk.sd hD hW))
    have c6 := nI_lt_of (b := 6) c6 (by omega) (by decide)
    have h6 : ¬ W 0 = 6 := fun z => by
      rw [hW.2.2.1] at z
      have := nI_inj (b := 6) (by omega) (by decide) z
      omega
    rw [show perP T e b W = perB T e W (nbP T e 1 0 15 (nx T e b)) from if_neg h6]
    refine a_l0 rfl rfl rfl ?_
    refine a_gV rfl lX6_39 mo_X6_readPerson (s_readPerson hw h hD hW h6) rfl rfl rfl ⟨6, _, rfl, rfl, rfl⟩ rfl (fun v' h' hv => ?_)
    obtain ⟨rfl, J, w, rfl, F, hA, hk, hz⟩ := hv
    generalize perB T e W (nbP T e 1 0 15 (nx T e b)) = r at hA hk hz ⊢
    obtain ⟨z, p, W'⟩ := r
    cases z with
    | false =>
      refine a_if_eq rfl (fun _ => ?_) (fun z => absurd rfl z)
      refine a_s rfl rfl ?_
      exact a_zret rfl rfl rfl ⟨rfl, J, w, rfl, F, hA, hk, hz⟩
    | true =>
      refine a_if_eq rfl (fun z => absurd (show (1 : Int32) = 0 from z) (by decide)) (fun _ => ?_)
      refine a_s rfl rfl ?_
      refine a_goto rfl ?_
      exact a_zret rfl rfl rfl ⟨rfl, J, w, rfl, F, hA, hk, hz⟩
  have n0 : ¬ isWd T e b 0 = true := fun z => c ((Ats.wo h).trans ((wr_is (by decide)).mpr z))
  clear c
  refine a_l0 rfl rfl rfl ?_
  refine a_getq rfl gfX6_20_6 rfl (rfl) ?_
  refine a_getr rfl gfX6_24_9 rfl ?_
  refine a_pop1 (show _ = rv w1 :: _ from rfl) ?_
  refine a_gets rfl (inC4 (i := 187) rfl rfl) (hw.st (i := 3) (by decide)) ?_
  refine a_acmp_ne (rx := w1) (ry := 100 + 3 + 1) rfl ((Ats.wk h).ac hw) (WK.ck hw (i := 3) (by decide)) (fun c => ?_) (fun c => ?_)
  rotate_left
  · have d1 : isWd T e b 3 = true := (wr_is (by decide)).mp ((Ats.wo h).symm.trans c)
    rw [show linP T e b W = dutP T e b W from (if_neg n0).trans (if_pos d1)]
    refine a_l0 rfl rfl rfl ?_
    refine a_getq rfl gfX6_16_6 rfl (rfl) ?_
    refine a_getiv (v := nI (dn W)) rfl gfX6_46_5 rfl ((Sd.fd hD (f := 3) (g := 1) (by decide)).trans hW.2.2.2) ?_
    refine a_s rfl rfl ?_
    refine a_ic_ge rfl (fun c6 => ?_) (fun c6 => ?_)
    · have c6 := nI_ge_of (b := 12) c6 (by omega) (by decide)
      rw [show dutP T e b W = (false, b, W) from if_pos (by rw [hW.2.2.2, show dn W = 12 by omega]; rfl)]
      refine a_s rfl rfl ?_
      exact a_zret rfl rfl rfl (QLs.no Fm.rf h (Dk.sd hD hW))
    have c6 := nI_lt_of (b := 12) c6 (by omega) (by decide)
    have h6 : ¬ W 1 = 12 := fun z => by
      rw [hW.2.2.2] at z
      have := nI_inj (b := 12) (by omega) (by decide) z
      omega
    rw [show dutP T e b W = duA T e W (nbP T e 4 0 (W 0 - 1) (nx T e b)) from if_neg h6]
    refine a_l0 rfl rfl rfl ?_
    refine a_gV rfl lX6_49 mo_X6_readDuty (s_readDuty hw h hD hW h6) rfl rfl rfl ⟨6, _, rfl, rfl, rfl⟩ rfl (fun v' h' hv => ?_)
    obtain ⟨rfl, J, w, rfl, F, hA, hk, hz⟩ := hv
    generalize duA T e W (nbP T e 4 0 (W 0 - 1) (nx T e b)) = r at hA hk hz ⊢
    obtain ⟨z, p, W'⟩ := r
    cases z with
    | false =>
      refine a_if_eq rfl (fun _ => ?_) (fun z => absurd rfl z)
      refine a_s rfl rfl ?_
      exact a_zret rfl rfl rfl ⟨rfl, J, w, rfl, F, hA, hk, hz⟩
    | true =>
      refine a_if_eq rfl (fun z => absurd (show (1 : Int32) = 0 from z) (by decide)) (fun _ => ?_)
      refine a_s rfl rfl ?_
      refine a_goto rfl ?_
      exact a_zret rfl rfl rfl ⟨rfl, J, w, rfl, F, hA, hk, hz⟩
  have n3 : ¬ isWd T e b 3 = true := fun z => c ((Ats.wo h).trans ((wr_is (by decide)).mpr z))
  clear c
  refine a_l0 rfl rfl rfl ?_
  refine a_getq rfl gfX6_20_6 rfl (rfl) ?_
  refine a_gets rfl (inC4 (i := 207) rfl rfl) (hw.st (i := 9) (by decide)) ?_
  refine a_gV rfl lX6_55 mo_X9_takeWord (s_takeWord (k := 9) hw h (by decide)) rfl rfl rfl ⟨9, _, rfl, rfl, rfl⟩ rfl (fun v' h' hv => ?_)
  obtain ⟨rfl, J, w, rfl, hA, hf⟩ := hv
  cases c9 : isWd T e b 9 with
  | true =>
    rw [c9, if_pos rfl] at hA
    refine a_if_eq rfl (fun z => absurd z (by decide)) (fun _ => ?_)
    rw [show linP T e b W = forP T e (nx T e b) W from (if_neg n0).trans ((if_neg n3).trans (if_pos c9))]
    refine a_l0 rfl rfl rfl ?_
    refine a_gV rfl lX6_59 mo_X6_readForgotten (s_readForgotten hw hA (Sd.nx hD hf) hW) rfl rfl rfl ⟨6, _, rfl, rfl, rfl⟩ rfl (fun v' h' hv => ?_)
    obtain ⟨rfl, J2, w3, rfl, F, hA2, hk, hz⟩ := hv
    exact a_zret rfl rfl (bI_nar _) ⟨rfl, J2, w3, rfl, Fm.tr (Fms Fm.rf hf) F, hA2, hk, hz⟩
  | false =>
    rw [c9, if_neg Bool.false_ne_true] at hA
    refine a_if_eq rfl (fun _ => ?_) (fun z => absurd rfl z)
    rw [show linP T e b W = stgP T e b W from (if_neg n0).trans ((if_neg n3).trans (if_neg (by rw [c9]; exact Bool.false_ne_true)))]
    refine a_l0 rfl rfl rfl ?_
    refine a_gV rfl lX6_62 mo_X6_readSetting (s_readSetting hw hA (Sd.nx hD hf) hW) rfl rfl rfl ⟨6, _, rfl, rfl, rfl⟩ rfl (fun v' h' hv => ?_)
    obtain ⟨rfl, J2, w3, rfl, F, hA2, hk, hz⟩ := hv
    exact a_zret rfl rfl (bI_nar _) ⟨rfl, J2, w3, rfl, Fm.tr (Fms Fm.rf hf) F, hA2, hk, hz⟩
theorem s_readLines (hw : WdS S) (he : I 201 1 = nI e) (h4 : e ≤ 400) (hbt : BtT (I 202)) (hm0 : I 203 1 = 14) (hD : Sd I 209 W) (hW : WOk W) : Sp S m_X8_readLines 20 0 0 [.ref 203, .ref 201] (hp I L w1 w2 t) (fun v h' => v = some (.int (if (strP (I 202) e W).1 = true then -1 else nI (strP (I 202) e W).2.1)) ∧ ∃ J w, h' = hp J L w w2 t ∧ WK w ∧ (strP (I 202) e W).2.1 ≤ e ∧ Fm sO I J ∧ ((strP (I 202) e W).1 = false → Dk J) ∧ ((strP (I 202) e W).1 = true → Sd J 209 (strP (I 202) e W).2.2)) nX := by
  refine Sp_of ok_X8_readLines rfl rfl ?_
  show AW S m_X8_readLines 20 _ _ 0 0 0 [some (.ref 203), some (.ref 201), none] [] (hp I L w1 w2 t)
  generalize hT : I 202 = T at hbt ⊢
  refine a_l0 rfl rfl rfl ?_
  refine a_getq rfl gfX8_12_6 rfl (rfl) ?_
  refine a_l1 rfl rfl rfl ?_
  refine a_gV rfl lX8_22 mo_X9_scan (s_scan hw he h4 (by rw [hT]; exact hbt)) rfl rfl rfl ⟨9, _, rfl, rfl, rfl⟩ rfl (fun v' h' hv => ?_)
  obtain ⟨rfl, J1, wa, rfl, hA1, hf1⟩ := hv
  rw [hT] at hA1
  have hF1 : Fm sO I J1 := Fms.d Fm.rf hf1
  have hD1 : Sd J1 209 W := Sd.eq hD fun q g1 g2 => hf1 q (by omega)
  refine a_l0 rfl rfl rfl ?_
  refine a_getq rfl gfX8_12_6 rfl (rfl) ?_
  refine a_eV1 rfl lX8_26 mo_X9_isEnd (s_isEnd hA1) rfl rfl rfl ⟨9, _, rfl, rfl, rfl⟩ rfl ?_
  by_cases c0 : bg T e 0 < e
  rotate_left
  · rw [show decide (¬ bg T e 0 < e) = true from decide_eq_true c0]
    refine a_if_eq rfl (fun z => absurd z (by decide)) (fun _ => ?_)
    have el : strP T e W = (true, bg T e 0, W) := if_neg c0
    rw [el, if_pos rfl]
    refine a_s rfl rfl ?_
    exact a_iret rfl rfl ⟨rfl, J1, wa, rfl, Ats.wk hA1, Ats.le hA1, hF1, fun z => (by cases z), fun _ => hD1⟩
  rw [show decide (¬ bg T e 0 < e) = false from decide_eq_false (fun z => z c0)]
  refine a_if_eq rfl (fun _ => ?_) (fun z => absurd rfl z)
  refine a_s rfl rfl ?_
  refine a_s2 rfl rfl rfl rfl rfl rfl ?_
  refine a_inv (n := 14) (fun m ls h => ∃ i b' w' W' J, ls = [some (.ref 203), some (.ref 201), some (.int (nI i))] ∧ h = hp J L w' w2 t ∧ Ats T e b' w' J ∧ Sd J 209 W' ∧ WOk W' ∧ Fm sO I J ∧ i ≤ 14 ∧ strsP T e (14 - i) b' W' = strP T e W ∧ m = 14 - i) ⟨0, bg T e 0, wa, W, J1, rfl, rfl, hA1, hD1, hW, hF1, by decide, (if_pos c0).symm, rfl⟩ ?_
  rintro m _ _ ⟨i, b', w', W', J, rfl, rfl, hA, hD', hW', hF, hi, es, hm⟩ ih
  refine a_l2 rfl rfl rfl ?_
  refine a_l0 rfl rfl rfl ?_
  refine a_getiv (v := 14) rfl gfX8_18_6 rfl ((hF 203 1 rfl).trans hm0) ?_
  refine a_ic_ge rfl (fun c => ?_) (fun c => ?_)
  · have h12 := nI_ge_of (b := 14) c (by omega) (by decide)
    obtain rfl : i = 14 := by omega
    have es : strP T e W = (false, b', W') := es.symm
    rw [es, if_neg Bool.false_ne_true]
    refine a_l0 rfl rfl rfl ?_
    refine a_getq rfl gfX8_12_6 rfl (rfl) ?_
    refine a_getiv (v := nI b') rfl gfX8_33_9 rfl (Ats.be hA) ?_
    exact a_iret rfl rfl ⟨rfl, J, w', rfl, Ats.wk hA, Ats.le hA, hF, fun _ => Dk.sd hD' hW', fun z => by cases z⟩
  have hi12 : i < 14 := nI_lt_of (b := 14) c (by omega) (by decide)
  obtain ⟨f, hf⟩ : ∃ f, 14 - i = f + 1 := ⟨14 - i - 1, by omega⟩
  rw [hf, strsP_s] at es
  have lok := linP_ok (T := T) (e := e) (b := b') hW'
  refine a_l0 rfl rfl rfl ?_
  refine a_callU rfl lu_30_6 dc_readLine mo_X6_readLine hx_rl0 (s_readLine hw hA hD' hW') rfl rfl rfl ⟨6, _, rfl, rfl, rfl⟩ rfl (fun v' h' hv => ?_) (fun _ _ z => False.elim z)
  obtain ⟨rfl, J2, wb, rfl, f2, hA2, hk2, hz2⟩ := hv
  have hF2 : Fm sO I J2 := Fm.tr hF f2
  generalize linP T e b' W' = r at es hA2 hk2 hz2 lok ⊢
  obtain ⟨z, b1, W1⟩ := r
  cases z with
  | false =>
    refine a_if_ne rfl (fun z => absurd rfl z) (fun _ => ?_)
    have es : strP T e W = (false, b1, W') := es.symm
    rw [es, if_neg Bool.false_ne_true]
    refine a_l0 rfl rfl rfl ?_
    refine a_getq rfl gfX8_12_6 rfl (rfl) ?_
    refine a_getiv (v := nI b1) rfl gfX8_33_9 rfl (Ats.be hA2) ?_
    exact a_iret rfl rfl ⟨rfl, J2, wb, rfl, Ats.wk hA2, Ats.le hA2, hF2, fun _ => hk2 rfl, fun z => by cases z⟩
  | true =>
  refine a_if_ne rfl (fun _ => ?_) (fun z => absurd (show (1 : Int32) = 0 from z) (by decide))
  have hD2 : Sd J2 209 W1 := hz2 rfl
  have hW2 : WOk W1 := lok rfl
  rw [if_pos rfl] at es
  refine a_l0 rfl rfl rfl ?_
  refine a_getq rfl gfX8_12_6 rfl (rfl) ?_
  refine a_eV1 rfl lX8_26 mo_X9_isEnd (s_isEnd hA2) rfl rfl rfl ⟨9, _, rfl, rfl, rfl⟩ rfl ?_
  by_cases c1 : b1 < e
  rotate_left
  · rw [show decide (¬ b1 < e) = true from decide_eq_true c1]
    refine a_if_eq rfl (fun z => absurd z (by decide)) (fun _ => ?_)
    have es : strP T e W = (true, b1, W1) := es.symm.trans (if_neg c1)
    rw [es, if_pos rfl]
    refine a_s rfl rfl ?_
    exact a_iret rfl rfl ⟨rfl, J2, wb, rfl, Ats.wk hA2, Ats.le hA2, hF2, fun z => (by cases z), fun _ => hD2⟩
  rw [show decide (¬ b1 < e) = false from decide_eq_false (fun z => z c1)]
  refine a_if_eq rfl (fun _ => ?_) (fun z => absurd rfl z)
  have es := (if_pos c1).symm.trans es
  refine a_l0 rfl rfl rfl ?_
  refine a_getq rfl gfX8_12_6 rfl (rfl) ?_
  refine a_s rfl rfl ?_
  refine a_gV rfl lX8_36 mo_X9_takeSign (s_takeSign hw hA2) rfl rfl rfl ⟨9, _, rfl, rfl, rfl⟩ rfl (fun v' h' hv => ?_)
  obtain ⟨rfl, J3, wc, rfl, hA3, hf3⟩ := hv
  have hF3 : Fm sO I J3 := Fms hF2 hf3
  cases c59 : sg T e b1 59 with
  | false =>
    rw [c59, if_neg Bool.false_ne_true] at hA3
    refine a_if_ne rfl (fun z => absurd rfl z) (fun _ => ?_)
    have es : strP T e W = (false, b1, W') := es.symm.trans (if_neg (by show ¬ sg T e b1 59 = true; rw [c59]; exact Bool.false_ne_true))
    rw [es, if_neg Bool.false_ne_true]
    refine a_l0 rfl rfl rfl ?_
    refine a_getq rfl gfX8_12_6 rfl (rfl) ?_
    refine a_getiv (v := nI b1) rfl gfX8_33_9 rfl (Ats.be hA3) ?_
    exact a_iret rfl rfl ⟨rfl, J3, wc, rfl, Ats.wk hA3, Ats.le hA3, hF3, fun _ => Dk.nx (Dk.sd hD2 hW2) hf3, fun z => by cases z⟩
  | true =>
    rw [c59, if_pos rfl] at hA3
    refine a_if_ne rfl (fun _ => ?_) (fun z => absurd z (by decide))
    have es := es.symm.trans (if_pos c59)
    refine a_iv2 (y := nI (i + 1)) rfl rfl rfl ((nI_succ i).symm) ?_
    refine a_goto rfl ?_
    exact ih (14 - (i + 1)) _ _ (by omega) ⟨i + 1, nx T e b1, wc, W1, J3, rfl, rfl, hA3, Sd.nx hD2 hf3, hW2, hF3, by omega, by rw [show 14 - (i + 1) = f by omega]; exact es.symm, rfl⟩
end T79n
