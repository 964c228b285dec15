section
/-! ===== call, days keep the relation ===== -/
section T79zp
variable {I J K : Nat → Nat → Int32} {a b n fa d p nl len m : Nat} {cd fc fn : Nat → Nat} {W V : Nat → Int32}
set_option maxRecDepth 100000
theorem Nm.call (h : Nm I 235 W) {x : Int32} (c : vC (dn W) W x = 0) : Nm (up2 (up2 I 239 (ixN x) 0) 243 (ixN x) 1) 235 (ud (ud W (23 + 6 * ixN x + 1) 0) (23 + 6 * ixN x + 5) 1) := by
  have hG := h.2.2
  have hn := hG.1.2.1
  unfold vC at c
  by_cases c0 : inB x 0 (nI (dn W) - 1) = true
  · have hd := (ix_of hn c0).1
    have h12 : ixN x < 12 := Nat.lt_of_lt_of_le hd hn
    clear c c0
    generalize ixN x = d at *
    refine ⟨Sd.ro (a := 235) (k := 5) (Sd.ro (a := 235) (k := 1) h.1 h12 (by decide)) h12 (by decide), h.2.1.eq ?_ ?_ ?_ fun k g1 g2 => ?_, (hG.upd hd (fun k k1 k5 => ?_) (l := 0) (s := 1) (by decide) ?_ (by decide) ?_ (by decide)).1⟩
    · rw [up2_row (by decide), up2_row (by decide)]
    · rw [up2_row (by decide), up2_row (by decide)]
    · unfold ud
      rw [if_neg (by omega), if_neg (by omega)]
    · unfold ud
      rw [if_neg (by omega), if_neg (by omega)]
    · unfold ud
      rw [if_neg k5, if_neg k1]
    · unfold ud
      rw [if_neg (by omega), if_pos rfl]
      rfl
    · unfold ud
      rw [if_pos rfl]
      rfl
  · rw [if_neg c0] at c
    exact absurd c (by decide)
/-- the days of both sides keep the relation -/
theorem Sim.days (h : Sim I) (hp : PsN I n fa) (ok : DsOk nl (I 421) (dsW false cd fc fn nl (I 421) m)) (f : ∀ q, (q < 235 ∨ 245 < q) → q ≠ 252 → q ≠ 253 → J q = reS I n fa q) (D : Sd J 235 (dsW false cd fc fn nl (I 421) m)) (G : Lg J 235 (dsW false cd fc fn nl (I 421) m)) (g : ∀ q, q ≠ 421 → q ≠ 428 → q ≠ 429 → K q = remH (up2 J 420 0 0) n q) (g1 : K 421 = dsW false cd fc fn nl (I 421) m) : Sim K := by
  refine h.act hp f g ?_ ?_ ?_
  · rw [g1]
    exact ⟨D, G, ok.1⟩
  · rw [g1]
    exact ok.2.2.2.2.1
  · rw [g1]
    exact ok.2.2.2.2.2
end T79zp
end
section
/-! ===== law of both sides with finer frames; both laws alike behind a text (printed by program) ===== -/
section T79zq
variable {S : aS} {I J : Nat → Nat → Int32} {L : Nat → Nat → Int64} {w1 w2 t : Nat} {e b nd np : Nat} {T W K : Nat → Int32} {o : List Int32} {ls : List LnT}
set_option maxRecDepth 100000
/-- what law may change in the class -/
def sLf (q k : Nat) : Bool := sW q k || ((Nat.beq q 200 && Nat.beq k 3) || (Nat.beq q 201 && Nat.beq k 1))
def sLw (q k : Nat) : Bool := sLf q k || ((Nat.beq q 200 && Nat.beq k 13) || (Nat.ble 246 q && Nat.ble q 251))
theorem sW_sLf : ∀ q k, sW q k = true → sLf q k = true := fun q k h => by
  unfold sLf
  rw [h]
  rfl
theorem sLf_sLw : ∀ q k, sLf q k = true → sLw q k = true := fun q k h => by
  unfold sLw
  rw [h]
  rfl
theorem sLw_l {q k : Nat} (h1 : 246 ≤ q) (h2 : q ≤ 251) : sLw q k = true := by
  unfold sLw
  rw [Nat.ble_eq_true_of_le h1, Nat.ble_eq_true_of_le h2]
  cases sLf q k <;> cases (Nat.beq q 200 && Nat.beq k 13) <;> rfl
theorem sLf_hi {q k : Nat} (h : 235 ≤ q) : sLf q k = false := by
  have n : ∀ {x : Nat}, x < 235 → Nat.beq q x = false := fun hx => beqF (by omega)
  have m : ∀ {x : Nat}, x < 235 → Nat.ble q x = false := fun {x} hx => by
    cases hb : Nat.ble q x with
    | false => rfl
    | true => exact absurd (Nat.le_of_ble_eq_true hb) (by omega)
  simp [sLf, sW, sC, n, m]
theorem sLw_hi {q k : Nat} (h : 235 ≤ q) (h2 : q < 246 ∨ 251 < q) : sLw q k = false := by
  unfold sLw
  rw [sLf_hi h, beqF (show q ≠ 200 by omega)]
  rcases h2 with h2 | h2
  · have e1 : Nat.ble 246 q = false := by
      cases hb : Nat.ble 246 q with
      | false => rfl
      | true => exact absurd (Nat.le_of_ble_eq_true hb) (by omega)
    rw [e1]
    rfl
  · have e1 : Nat.ble q 251 = false := by
      cases hb : Nat.ble q 251 with
      | false => rfl
      | true => exact absurd (Nat.le_of_ble_eq_true hb) (by omega)
    rw [e1]
    cases Nat.ble 246 q <;> rfl
theorem h_lawS (hw : WdS S) (hr : RI nd np I) (hbt : BtT T) (hT : I 426 = T) (h9 : I 420 9 = nI e) (h4 : e ≤ 400) : Sp S m_X12_law 62 0 0 [.ref 420] (hp I L w1 w2 t) (fun v h' => v = some (.int (if (lawP T e).1 = true then nI (lawP T e).2.2.2.length else 0)) ∧ ∃ J, h' = hp J L w1 w2 t ∧ Us nd np I J ∧ J 420 0 = (if (lawP T e).1 = true then 0 else 1) ∧ J 420 14 = (if (lawP T e).1 = true then -1 else nI (lawP T e).2.1) ∧ (∀ q, q ≠ 420 → q ≠ 421 → J q = I q) ∧ LwJ (lawP T e) I J ∧ ((lawP T e).1 = true → J 420 7 = 0 ∧ ∀ k, k < 335 → k ≠ 3 → J 421 k = I 421 k) ∧ ((lawP T e).1 = false → J 420 7 = I 420 7)) nX := by
  refine Sp_of ok_X12_law rfl rfl ?_
  show AW S m_X12_law 62 _ _ 0 0 0 [some (.ref 420), none, none] [] (hp I L w1 w2 t)
  have fU : Fm sL I (usH I) := by
    unfold usH
    exact Fm.up (Fm.up (Fm.up (Fm.up Fm.rf rfl) rfl) rfl) rfl
  have u0 : usH I 420 0 = 0 := by
    unfold usH
    rw [up2_ne (Or.inr (by decide)), up2_ne (Or.inr (by decide)), up2_ne (Or.inr (by decide))]
    exact up2_at
  refine a_l0 rfl rfl rfl ?_
  refine a_s rfl rfl ?_
  refine a_gV rfl lX12_239 mo_X12_readAll (h_readAllL hw hbt hT h9 h4) rfl rfl rfl ⟨12, _, rfl, rfl, rfl⟩ rfl (fun v' h' hv => ?_)
  obtain ⟨rfl, J, rfl, hF, hn, hy⟩ := hv
  have hG : GL I J := ⟨Fm.tr fU (Fm.mo hF sG_sL), (hF 420 9 rfl).trans usH_9⟩
  have j0 : J 420 0 = 0 := (hF 420 0 rfl).trans u0
  have other : ∀ q, q ≠ 420 → q ≠ 421 → J q = I q := fun q g1 g2 => by
    rw [show J q = usH I q from funext fun k => hF q k (by unfold sG sR; rw [beqF g1, beqF g2]; rfl), usH_row g1]
  rcases er : lawP T e with ⟨z, b1, o1, l1⟩
  rw [er] at hn hy
  have lok := lawP_ok (T := T) (e := e)
  rw [er] at lok
  cases z with
  | false =>
    refine a_top (y := (-1)) (rfl) ?_
    refine a_s1 rfl rfl rfl rfl rfl rfl ?_
    refine a_l0 rfl rfl rfl ?_
    refine a_l1 rfl rfl rfl ?_
    refine a_if_ge rfl (fun c => absurd c (by decide)) (fun _ => ?_)
    refine a_l0 rfl rfl rfl ?_
    refine a_getiv (v := nI b1) rfl gfX12_91_12 rfl (hn rfl) ?_
    refine a_goto rfl ?_
    refine a_puti rfl pfX12_33_12 rfl ?_
    refine a_l0 rfl rfl rfl ?_
    refine a_l1 rfl rfl rfl ?_
    refine a_if_ge rfl (fun c => absurd c (by decide)) (fun _ => ?_)
    refine a_s rfl rfl ?_
    refine a_goto rfl ?_
    refine a_s rfl rfl ?_
    refine a_eV1 rfl lX12_243 mo_X12_throwsIf (h_throwsIf (z := true)) rfl rfl rfl ⟨12, _, rfl, rfl, rfl⟩ rfl ?_
    rw [if_pos rfl]
    refine a_if_eq rfl (fun c => absurd c (by decide)) (fun _ => ?_)
    refine a_s rfl rfl ?_
    have g2 : GL I (up2 (up2 J 420 14 (nI b1)) 420 0 1) := ⟨Fm.up (Fm.up hG.1 rfl) rfl, (up2_ne (Or.inr (by decide))).trans ((up2_ne (Or.inr (by decide))).trans hG.2)⟩
    refine a_iret rfl rfl ⟨rfl, _, rfl, Us.same hr g2, ?_, ?_, ?_, ⟨?_, ?_⟩, (fun z => by cases z), fun _ => ?_⟩
    · exact up2_at
    · exact (up2_ne (Or.inr (by decide))).trans up2_at
    · intro q g1 g3
      rw [up2_row g1, up2_row g1]
      exact other q g1 g3
    · exact fun z => by cases z
    · intro _ k hk
      rw [up2_row (by decide), up2_row (by decide), hF 421 k (sG_lo hk), usH_row (by decide)]
    · exact (up2_ne (Or.inr (by decide))).trans ((up2_ne (Or.inr (by decide))).trans (hG.1 420 7 rfl))
  | true =>
    refine a_top (y := nI l1.length) (rfl) ?_
    obtain ⟨x1, x2, x3, x4, x5⟩ := hy rfl
    have x4 : l1.length ≤ 12 := x4
    have x5 : o1.length ≤ 400 := x5
    refine a_s1 rfl rfl rfl rfl rfl rfl ?_
    refine a_l0 rfl rfl rfl ?_
    refine a_l1 rfl rfl rfl ?_
    refine a_if_ge rfl (fun _ => ?_) (fun c => absurd (nI_0le (k := l1.length) (by omega)) c)
    refine a_s rfl rfl ?_
    refine a_puti rfl pfX12_33_12 rfl ?_
    refine a_l0 rfl rfl rfl ?_
    refine a_l1 rfl rfl rfl ?_
    refine a_if_ge rfl (fun _ => ?_) (fun c => absurd (nI_0le (k := l1.length) (by omega)) c)
    refine a_s rfl rfl ?_
    refine a_s rfl rfl ?_
    refine a_eV1 rfl lX12_243 mo_X12_throwsIf (h_throwsIf (z := false)) rfl rfl rfl ⟨12, _, rfl, rfl, rfl⟩ rfl ?_
    rw [if_neg Bool.false_ne_true]
    generalize hK : up2 J 420 14 (-1) = K
    have gK : GL I K := by
      subst hK
      exact ⟨Fm.up hG.1 rfl, (up2_ne (Or.inr (by decide))).trans hG.2⟩
    have eK : K 421 = J 421 := by
      subst hK
      exact up2_row (by decide)
    have k0 : K 420 0 = 0 := by
      subst hK
      exact (up2_ne (Or.inr (by decide))).trans j0
    have k14 : K 420 14 = -1 := by
      subst hK
      exact up2_at
    have kother : ∀ q, q ≠ 420 → q ≠ 421 → K q = I q := fun q g1 g2 => by
      subst hK
      rw [up2_row g1]
      exact other q g1 g2
    have fin := Us.law (nl := l1.length) hr gK x4 x5 (by rw [eK]; exact LD_of x2 x3 (lok rfl))
    refine a_if_eq rfl (fun _ => ?_) (fun c => absurd rfl c)
    refine a_l0 rfl rfl rfl ?_
    refine a_getq rfl gfX12_13_12 rfl (rfl) ?_
    refine a_s rfl rfl ?_
    refine a_l1 rfl rfl rfl ?_
    refine a_iastv (k := 1184) rfl (n := 2033) rfl ⟨by decide, by decide⟩ rfl ?_
    refine a_s rfl rfl ?_
    refine a_s2 rfl rfl rfl rfl rfl rfl ?_
    refine a_forE (n := 849) (fun j => [some (.ref 420), some (.int (nI l1.length)), some (.int (nI j))]) (fun j => hp (cpR (up2 K 421 1184 (nI l1.length)) 421 335 421 1184 j) L w1 w2 t) (by simp [lsub, nI_0]) (by rw [cpR_0]) ?_ (fun j hj ih => ?_)
    · refine a_l2 rfl rfl rfl ?_
      refine a_s rfl rfl ?_
      refine a_ic_ge rfl (fun _ => ?_) (fun c => absurd (Int32.le_refl _) c)
      refine a_l0 rfl rfl rfl ?_
      refine a_getq rfl gfX12_13_12 rfl (rfl) ?_
      refine a_s rfl rfl ?_
      refine a_s rfl rfl ?_
      refine a_iastv (k := 3) rfl (n := 2033) rfl ⟨by decide, by decide⟩ rfl ?_
      refine a_l0 rfl rfl rfl ?_
      refine a_s rfl rfl ?_
      refine a_puti rfl pfX12_53_12 rfl ?_
      refine a_l1 rfl rfl rfl ?_
      have r0 : ∀ k, k ≠ 7 → lawH K l1.length 420 k = K 420 k := fun k hk => by
        unfold lawH
        rw [up2_ne (Or.inr hk), up2_row (by decide), cpR_row (by decide), up2_row (by decide)]
      refine a_iret rfl rfl ⟨rfl, _, rfl, fin, ?_, ?_, ?_, ⟨?_, ?_⟩, (fun _ => ⟨?_, fun k k1 k2 => ?_⟩), (fun z => by cases z)⟩
      · exact (r0 0 (by decide)).trans k0
      · exact (r0 14 (by decide)).trans k14
      · intro q g1 g2
        show lawH K l1.length q = I q
        unfold lawH
        rw [up2_row g1, up2_row g2, cpR_row g2, up2_row g2]
        exact kother q g1 g2
      · refine fun _ => ⟨?_, ?_, J 421, x2, x3, fun k k1 k2 => ?_⟩
        · show lawH K l1.length 421 3 = 1
          unfold lawH
          rw [up2_row (by decide)]
          exact up2_at
        · show lawH K l1.length 421 335 = nI l1.length
          unfold lawH
          rw [up2_row (by decide), u2_lo (by decide), show 335 = 335 + 0 by omega, cpR_in (by decide)]
          exact up2_at
        · show lawH K l1.length 421 (335 + k) = _
          unfold lawH
          rw [up2_row (by decide), u2_lo (by omega), cpR_in k2, u2_lo (by omega), eK, Nat.add_comm]
      · exact fun z => by cases z
      · show lawH K l1.length 420 7 = 0
        unfold lawH
        exact up2_at
      · show lawH K l1.length 421 k = I 421 k
        unfold lawH
        rw [up2_row (by decide), u2_lo k2, cpR_out (by omega), u2_lo (by omega), eK]
        exact hG.1 421 k (sL_lo (by omega))
    · refine a_l2 rfl rfl rfl ?_
      refine a_s rfl rfl ?_
      refine a_ic_ge rfl (fun c => absurd c (nI_ge (b := 849) hj (by omega))) (fun _ => ?_)
      refine a_l0 rfl rfl rfl ?_
      refine a_getq rfl gfX12_13_12 rfl (rfl) ?_
      refine a_s rfl rfl ?_
      refine a_l2 rfl rfl rfl ?_
      refine a_s rfl rfl ?_
      refine a_top (y := nI (335 + j)) (nI_addl 335 j) ?_
      refine a_l0 rfl rfl rfl ?_
      refine a_getq rfl gfX12_13_12 rfl (rfl) ?_
      refine a_s rfl rfl ?_
      refine a_l2 rfl rfl rfl ?_
      refine a_s rfl rfl ?_
      refine a_top (y := nI (1184 + j)) (nI_addl 1184 j) ?_
      refine a_ialdv (v := up2 K 421 1184 (nI l1.length) 421 (j + 1184)) rfl (n := 2033) rfl (inI_nI (by omega) (by omega)) (by rw [nI_clamp (by omega), cpR_out (by omega), Nat.add_comm]) ?_
      refine a_iastv (k := 335 + j) rfl (n := 2033) rfl (inI_nI (by omega) (by omega)) (nI_clamp (by omega)) ?_
      rw [cpR_succ]
      refine a_i2 rfl rfl rfl ?_
      refine a_goto rfl ?_
      exact a_back ih (by simp [lsub, nI_1]) rfl
theorem f_lawS (hw : WdS S) (he : I 201 1 = nI e) (h4 : e ≤ 400) (hbt : BtT T) (hT : I 202 = T) (hm : I 220 1 = 12) : Sp S m_X11_law 21 1 6 [.ref 200] (hp I L w1 w2 t) (fun v h' => v = some (.int (nI (lawP T e).2.2.2.length)) ∧ (lawP T e).1 = true ∧ ∃ J w, h' = hp J L w1 w t ∧ WK w ∧ Mt0 I J ∧ LwC (lawP T e) J ∧ Fm sLw I J ∧ (lawP T e).2.2.2.length ≤ 12 ∧ (lawP T e).2.2.1.length ≤ 400) (fun E h' => E = exN 1 ∧ (lawP T e).1 = false ∧ ∃ J w, h' = hp J L w1 w 0 ∧ WK w ∧ Mt0 I J ∧ J 200 3 = nI (lawP T e).2.1 ∧ Fm sLf I J) := by
  refine Sp_of ok_X11_law rfl rfl ?_
  show AW S m_X11_law 21 _ _ 1 6 0 [some (.ref 200)] [] (hp I L w1 w2 t)
  refine a_l0 rfl rfl rfl ?_
  refine a_getq rfl gfX11_26_11 rfl (rfl) ?_
  refine a_getq rfl gfX11_98_3 rfl (rfl) ?_
  refine a_eV0 rfl lX11_100 mo_X2_clear f_clear rfl rfl rfl ⟨2, _, rfl, rfl, rfl⟩ rfl ?_
  refine a_l0 rfl rfl rfl ?_
  refine a_l0 rfl rfl rfl ?_
  refine a_getq rfl gfX11_26_11 rfl (rfl) ?_
  refine a_l0 rfl rfl rfl ?_
  refine a_getq rfl gfX11_10_11 rfl (rfl) ?_
  have g1 : ∀ q, q ≠ 226 → up2 (up2 I 226 0 0) 226 1 0 q = I q := fun q hq => by rw [up2_row hq, up2_row hq]
  refine a_callU rfl lu_103 dc_readLines mo_X8_readLines hx_rl (f_readLines hw ((congrFun (g1 201 (by decide)) 1).trans he) h4 (by rw [g1 202 (by decide), hT]; exact hbt) ((congrFun (g1 220 (by decide)) 1).trans hm) ((up2_ne (Or.inr (by decide))).trans up2_at) up2_at) rfl rfl rfl ⟨3, _, rfl, rfl, rfl⟩ rfl (fun v' h' hv => ?_) (fun _ _ z => False.elim z)
  rw [g1 202 (by decide), hT] at hv
  obtain ⟨rfl, J, w, rfl, hww, hF, hy⟩ := hv
  have f0 : Fm sLf I J := Fm.tr (Fm.up (Fm.up Fm.rf rfl) rfl) (Fm.mo hF sW_sLf)
  have fM : Mt I J := Mt.of (Fm.tr (Fm.up (Fm.up Fm.rf rfl) rfl) (Fm.mo hF sW_sM))
  rcases er : lawP T e with ⟨z, b1, o1, l1⟩
  rw [er] at hy
  cases z with
  | false =>
    rw [if_neg Bool.false_ne_true]
    refine a_puti rfl pfX11_30_11 rfl ?_
    refine a_l0 rfl rfl rfl ?_
    refine a_getq rfl gfX11_10_11 rfl (rfl) ?_
    refine a_s rfl rfl ?_
    refine a_puti rfl pfX11_68_7 rfl ?_
    have fM0 : Mt0 I (up2 (up2 J 200 3 (nI b1)) 201 1 0) := Mt0.mk (Mt.fm fM (Fm.up Fm.rf rfl))
    have e3 : up2 (up2 J 200 3 (nI b1)) 201 1 0 200 3 = nI b1 := (congrFun (up2_row (by decide)) 3).trans up2_at
    refine a_l0 rfl rfl rfl ?_
    refine a_getiv (v := nI b1) rfl gfX11_30_11 rfl (e3) ?_
    refine a_s rfl rfl ?_
    have hb1 : b1 < 2 ^ 31 := by
      have := lawP_le (T := T) (e := e)
      rw [er] at this
      have this : b1 ≤ e := this
      omega
    refine a_ic_eq rfl (fun c => absurd c ?_) (fun _ => ?_)
    · intro z
      have := nI_pos hb1
      rw [z] at this
      exact this (by decide)
    exact a_throw rfl rfl rfl rfl tX11_iae rfl rfl rfl rfl rfl ⟨rfl, rfl, _, w, rfl, hww, fM0, e3, Fm.up (Fm.up f0 rfl) rfl⟩
  | true =>
    rw [if_pos rfl]
    obtain ⟨y1, y2, y3, y4, y5, y6⟩ := hy rfl
    refine a_puti rfl pfX11_30_11 rfl ?_
    refine a_l0 rfl rfl rfl ?_
    refine a_getq rfl gfX11_10_11 rfl (rfl) ?_
    refine a_s rfl rfl ?_
    refine a_puti rfl pfX11_68_7 rfl ?_
    have fM0 : Mt0 I (up2 (up2 J 200 3 (-1)) 201 1 0) := Mt0.mk (Mt.fm fM (Fm.up Fm.rf rfl))
    refine a_l0 rfl rfl rfl ?_
    refine a_getiv (v := (-1)) rfl gfX11_30_11 rfl ((congrFun (up2_row (by decide)) 3).trans up2_at) ?_
    refine a_s rfl rfl ?_
    refine a_ic_eq rfl (fun _ => ?_) (fun c => absurd rfl c)
    refine a_l0 rfl rfl rfl ?_
    refine a_getq rfl gfX11_44_11 rfl (rfl) ?_
    refine a_l0 rfl rfl rfl ?_
    refine a_getq rfl gfX11_26_11 rfl (rfl) ?_
    refine a_getq rfl gfX11_98_3 rfl (rfl) ?_
    refine a_eV0 rfl lX11_104 mo_X2_copyFrom (sp_X2_copyFrom (a := 246) (b := 226) (by decide) (by decide) (by decide)) rfl rfl rfl ⟨2, _, rfl, rfl, rfl⟩ rfl ?_
    refine a_l0 rfl rfl rfl ?_
    refine a_s rfl rfl ?_
    refine a_puti rfl pfX11_95_11 rfl ?_
    have fM1 : Mt0 I (up2 (cpL (up2 (up2 J 200 3 (-1)) 201 1 0) 246 226) 200 13 0) := Mt0.fm (Mt0.fm fM0 (Fm.cl (Fm.rf (s := sM)) (by decide) Fm_l246)) (Fm.up Fm.rf rfl)
    have r0 : ∀ k, up2 (cpL (up2 (up2 J 200 3 (-1)) 201 1 0) 246 226) 200 13 0 246 k = cpL (up2 (up2 J 200 3 (-1)) 201 1 0) 246 226 246 k := fun k => congrFun (up2_row (by decide)) k
    have e0 : up2 (cpL (up2 (up2 J 200 3 (-1)) 201 1 0) 246 226) 200 13 0 246 0 = nI l1.length := by
      rw [r0]
      unfold cpL
      rw [up2_at, up2_row (by decide), up2_row (by decide)]
      exact y3
    have ri : ∀ i, i < 5 → up2 (cpL (up2 (up2 J 200 3 (-1)) 201 1 0) 246 226) 200 13 0 (247 + i) = J (227 + i) := fun i hi => by
      rw [up2_row (by omega)]
      unfold cpL
      rw [up2_row (by omega), show 247 + i = 246 + 1 + i from rfl, cpS_in hi, up2_row (by omega), up2_row (by omega)]
    refine a_l0 rfl rfl rfl ?_
    refine a_getq rfl gfX11_44_11 rfl (rfl) ?_
    refine a_getiv (v := nI l1.length) rfl gfX11_107_2 rfl (e0) ?_
    have f1 : Fm sLw I (up2 (cpL (up2 (up2 J 200 3 (-1)) 201 1 0) 246 226) 200 13 0) := Fm.up (Fm.cl (Fm.mo (Fm.up (Fm.up f0 rfl) rfl) sLf_sLw) rfl fun i k hi => sLw_l (by omega) (by omega)) rfl
    refine a_iret rfl rfl ⟨rfl, rfl, _, w, rfl, hww, fM1, ⟨?_, up2_at, e0, ?_, ?_⟩, f1, y5, y6⟩
    · rw [up2_ne (Or.inr (by decide))]
      unfold cpL
      rw [up2_row (by decide), cpS_out (by decide), up2_row (by decide)]
      exact up2_at
    · rw [show (247 : Nat) = 247 + 0 from rfl, show (248 : Nat) = 247 + 1 from rfl, show (249 : Nat) = 247 + 2 from rfl, show (250 : Nat) = 247 + 3 from rfl, ri 0 (by decide), ri 1 (by decide), ri 2 (by decide), ri 3 (by decide)]
      exact y4
    · rw [show (251 : Nat) = 247 + 4 from rfl, ri 4 (by decide)]
      exact y2
/-- the numbers of a law's lines -/
def LnB (ls : List LnT) : Prop := ∀ i, i < ls.length → Nb (lnAt ls i).2.1 60
theorem LnB.ad {k v : Int32} {x y : Nat} (h : LnB ls) (hv : Nb v 60) : LnB ((k, v, x, y) :: ls) := fun i hi => by
  have hi : i < ls.length + 1 := hi
  by_cases c : i = ls.length
  · rw [show lnAt ((k, v, x, y) :: ls) i = (k, v, x, y) from if_pos c]
    exact hv
  · rw [show lnAt ((k, v, x, y) :: ls) i = lnAt ls i from if_neg c]
    exact h i (by omega)
theorem lnP_nb (hz : (lnP T e b o).1 = true) : Nb (nm T e (nx T e b) 0 60) 60 := by
  unfold lnP at hz
  by_cases c1 : kndP T e b = -1
  · rw [if_pos c1] at hz
    cases hz
  rw [if_neg c1] at hz
  by_cases c2 : nm T e (nx T e b) 0 60 = -1
  · rw [if_pos c2] at hz
    cases hz
  exact Nc.nb (nm_rg (T := T) (e := e) (b := nx T e b) (l := 0) (m := 60) (by decide) (by decide) c2)
theorem lnsP_nb : ∀ (f b : Nat) (o : List Int32) (ls : List LnT), LnB ls → (lnsP T e f b o ls).1 = true → LnB (lnsP T e f b o ls).2.2.2 := by
  intro f
  induction f with
  | zero => exact fun b o ls _ z => by cases z
  | succ f ih =>
    intro b o ls h hz
    rw [lnsP_s] at hz ⊢
    by_cases c1 : (lnP T e b o).1 = true
    · rw [if_pos c1] at hz ⊢
      have h2 : LnB (lnV T e b o (lnP T e b o).2.2 :: ls) := LnB.ad h (lnP_nb c1)
      by_cases c2 : (lnP T e b o).2.1 < e
      · rw [if_pos c2] at hz ⊢
        by_cases c3 : sg T e (lnP T e b o).2.1 59 = true
        · rw [if_pos c3] at hz ⊢
          exact ih _ _ _ h2 hz
        · rw [if_neg c3] at hz
          cases hz
      · rw [if_neg c2]
        exact h2
    · rw [if_neg c1] at hz
      cases hz
theorem lawP_nb (hz : (lawP T e).1 = true) : LnB (lawP T e).2.2.2 := by
  have h0 : LnB [] := fun i hi => absurd hi (Nat.not_lt_zero _)
  unfold lawP at hz ⊢
  by_cases c : bg T e 0 < e
  · rw [if_pos c] at hz ⊢
    exact lnsP_nb _ _ _ _ h0 hz
  · rw [if_neg c]
    exact h0
theorem LnL.at {f0 f1 f2 f3 : Nat → Int32} : ∀ {r : List LnT}, LnL f0 f1 f2 f3 r → ∀ i, i < r.length → f0 i = (lnAt r i).1 ∧ f1 i = (lnAt r i).2.1 ∧ f2 i = nI (lnAt r i).2.2.1 ∧ f3 i = nI (lnAt r i).2.2.2 := by
  intro r
  induction r with
  | nil => exact fun _ i hi => absurd hi (Nat.not_lt_zero _)
  | cons x r ih =>
    intro h i hi
    have hi : i < r.length + 1 := hi
    by_cases c : i = r.length
    · rw [show lnAt (x :: r) i = x from if_pos c, c]
      exact h.1
    · rw [show lnAt (x :: r) i = lnAt r i from if_neg c]
      exact ih h.2 i (by omega)
theorem RowL.at {f : Nat → Int32} : ∀ {r : List Int32}, RowL f r → ∀ i, i < r.length → f i = cdL r i := by
  intro r
  induction r with
  | nil => exact fun _ i hi => absurd hi (Nat.not_lt_zero _)
  | cons x r ih =>
    intro h i hi
    have hi : i < r.length + 1 := hi
    by_cases c : i = r.length
    · rw [show cdL (x :: r) i = x from if_pos c, c]
      exact h.1
    · rw [show cdL (x :: r) i = cdL r i from if_neg c]
      exact ih h.2 i (by omega)
/-- both laws are alike behind the same text -/
theorem Nl.of (hk : LsOk o ls) (h12 : ls.length ≤ 12) (h400 : o.length ≤ 400) (hB : LnB ls) (c0 : J 246 0 = nI ls.length) (c1 : LnL (J 247) (J 248) (J 249) (J 250) ls) (c2 : RowL (J 251) o) (w3 : W 3 = 1) (w335 : W 335 = nI ls.length) (k1 : RowS K o) (k2 : LnW K ls) (ek : ∀ k, 1 ≤ k → k < 849 → W (335 + k) = K (1184 + k)) : Nl J 246 W := by
  obtain ⟨g1, g2⟩ := hk
  have ln : ∀ n, n < ls.length → W (336 + 4 * n) = (lnAt ls n).1 ∧ W (336 + 4 * n + 1) = (lnAt ls n).2.1 ∧ W (336 + 4 * n + 2) = nI (lnAt ls n).2.2.1 ∧ W (336 + 4 * n + 3) = nI (lnAt ls n).2.2.2 := fun n hn => by
    obtain ⟨l1, l2, l3, l4⟩ := LnW.at k2 n hn
    refine ⟨?_, ?_, ?_, ?_⟩
    · rw [show 336 + 4 * n = 335 + (1 + 4 * n) by omega, ek _ (by omega) (by omega), show 1184 + (1 + 4 * n) = 1185 + 4 * n by omega]
      exact l1
    · rw [show 336 + 4 * n + 1 = 335 + (2 + 4 * n) by omega, ek _ (by omega) (by omega), show 1184 + (2 + 4 * n) = 1185 + 4 * n + 1 by omega]
      exact l2
    · rw [show 336 + 4 * n + 2 = 335 + (3 + 4 * n) by omega, ek _ (by omega) (by omega), show 1184 + (3 + 4 * n) = 1185 + 4 * n + 2 by omega]
      exact l3
    · rw [show 336 + 4 * n + 3 = 335 + (4 + 4 * n) by omega, ek _ (by omega) (by omega), show 1184 + (4 + 4 * n) = 1185 + 4 * n + 3 by omega]
      exact l4
  have hj : ∀ n, n < ls.length → (lnAt ls n).2.2.1 + ((lnAt ls n).2.2.2 - (lnAt ls n).2.2.1) = (lnAt ls n).2.2.2 := fun n hn => by
    have := (g2 n hn).1
    omega
  refine ⟨ls.length, o.length, cdN o, fun n => (lnAt ls n).2.2.1, fun n => (lnAt ls n).2.2.2 - (lnAt ls n).2.2.1, ⟨⟨Or.inr c0, h12, h400, fun i hi => ?_, fun n hn => ?_⟩, ⟨Or.inr ⟨w3, w335⟩, h12, h400, fun i hi => ?_, fun n hn => ?_⟩, fun n hn => ?_, ⟨fun z => ?_, fun z => ?_⟩⟩, h12, fun n hn => ?_⟩
  · obtain ⟨k, m, -, -, -, -, -, a6⟩ := okC_st (cdL_ok g1 i hi)
    exact (RowL.at c2 i hi).trans a6
  · obtain ⟨-, -, a3, a4⟩ := LnL.at c1 n hn
    refine ⟨a3, ?_, ?_, (g2 n hn).2.2⟩
    · show J 250 n = nI ((lnAt ls n).2.2.1 + ((lnAt ls n).2.2.2 - (lnAt ls n).2.2.1))
      rw [hj n hn]
      exact a4
    · show (lnAt ls n).2.2.1 + ((lnAt ls n).2.2.2 - (lnAt ls n).2.2.1) ≤ o.length
      rw [hj n hn]
      exact (g2 n hn).2.1
  · obtain ⟨k, m, a1, a2, a3, a4, a5, -⟩ := okC_st (cdL_ok g1 i hi)
    obtain ⟨r1, r2⟩ := RowS.at k1 i hi
    refine ⟨k, m, a1, a2, ?_, ?_, a5⟩
    · rw [show 384 + 2 * i = 335 + (49 + 2 * i) by omega, ek _ (by omega) (by omega), show 1184 + (49 + 2 * i) = 1233 + 2 * i by omega]
      exact r1.trans a3
    · rw [show 385 + 2 * i = 335 + (50 + 2 * i) by omega, ek _ (by omega) (by omega), show 1184 + (50 + 2 * i) = 1233 + 2 * i + 1 by omega]
      exact r2.trans a4
  · obtain ⟨-, -, a3, a4⟩ := ln n hn
    refine ⟨a3, ?_, ?_, (g2 n hn).2.2⟩
    · show W (336 + 4 * n + 3) = nI ((lnAt ls n).2.2.1 + ((lnAt ls n).2.2.2 - (lnAt ls n).2.2.1))
      rw [hj n hn]
      exact a4
    · show (lnAt ls n).2.2.1 + ((lnAt ls n).2.2.2 - (lnAt ls n).2.2.1) ≤ o.length
      rw [hj n hn]
      exact (g2 n hn).2.1
  · obtain ⟨a1, a2, -, -⟩ := LnL.at c1 n hn
    obtain ⟨b1, b2, -, -⟩ := ln n hn
    exact ⟨a1.trans b1.symm, a2.trans b2.symm⟩
  · exfalso
    have := nI_pos (show ls.length < 2 ^ 31 by omega)
    rw [← c0, z] at this
    exact this (by decide)
  · rw [w3] at z
    exact absurd z (by decide)
  · obtain ⟨-, b2, -, -⟩ := ln n hn
    rw [show nuW W n = (lnAt ls n).2.1 from b2]
    exact hB n hn
end T79zq
end
section
/-! ===== the relation is kept by street, by law; whose, ask with finer frames (printed by program) ===== -/
section T79zr
variable {S : aS} {I J K : Nat → Nat → Int32} {L : Nat → Nat → Int64} {w1 w2 t : Nat} {e b a n fa nd np : Nat} {T W V : Nat → Int32}
set_option maxRecDepth 100000
/-- what a text with no street changes in the reference -/
def sU9 (q k : Nat) : Bool := sU q k || (Nat.beq q 420 && (Nat.beq k 9 || (Nat.beq k 10 || Nat.beq k 11)))
theorem sU_sU9 : ∀ q k, sU q k = true → sU9 q k = true := fun q k h => by
  unfold sU9
  rw [h]
  rfl
def Uz (nd np : Nat) (I J : Nat → Nat → Int32) : Prop := Us nd np I J ∧ Fm sU9 I J
theorem Uz.mk (hr : RI nd np I) : Uz nd np I (usH I) := ⟨Us.mk hr, by
  unfold usH
  exact Fm.up (Fm.up (Fm.up (Fm.up Fm.rf rfl) rfl) rfl) rfl⟩
theorem Uz.fm {I1 I2 : Nat → Nat → Int32} (h : Uz nd np I I1) (f : Fm sU I1 I2) : Uz nd np I I2 := ⟨h.1.fm f, Fm.tr h.2 (Fm.mo f sU_sU9)⟩
theorem h_whoseU (hr : RI nd np I) (ht : ∃ l, l ≤ 400 ∧ I 420 9 = nI l) : Sp S m_X12_whose 15 0 0 [.ref 420] (hp I L w1 w2 t) (QR (Uz nd np I) isI L w1 w2 t) nX := by
  obtain ⟨l, hl4, hl⟩ := ht
  refine Sp_of ok_X12_whose rfl rfl ?_
  show AW S m_X12_whose 15 _ _ 0 0 0 [some (.ref 420)] [] (hp I L w1 w2 t)
  have f0 : Uz nd np I (usH I) := Uz.mk hr
  refine a_l0 rfl rfl rfl ?_
  refine a_eV0 rfl lX12_232 mo_X12_uses r_X12_uses rfl rfl rfl ⟨12, _, rfl, rfl, rfl⟩ rfl ?_
  refine a_ren (P := fun J => Uz nd np I J ∧ J 420 11 = nI l) ⟨f0, usH_11.trans hl⟩ (fun I1 hI1 => ?_)
  clear f0
  obtain ⟨f1, he⟩ := hI1
  refine a_l0 rfl rfl rfl ?_
  refine a_l0 rfl rfl rfl ?_
  refine a_gV rfl lX12_438 mo_X12_isTold (r_X12_isTold he hl4) rfl rfl rfl ⟨12, _, rfl, rfl, rfl⟩ rfl (fun v' h' hv => ?_)
  obtain ⟨⟨b, rfl⟩, rfl⟩ := hv
  refine a_if_ne rfl (fun _ => ?_) (fun _ => ?_)
  · refine a_s rfl rfl ?_
    refine a_s rfl rfl ?_
    refine a_gV rfl lX12_243 mo_X12_throwsIf (r_X12_throwsIf (b := false)) rfl rfl rfl ⟨12, _, rfl, rfl, rfl⟩ rfl (fun v' h' hv => ?_)
    obtain ⟨rfl, I2, rfl, f2⟩ := hv
    refine a_if_eq rfl (fun _ => ?_) (fun c => absurd (by decide) c)
    refine a_l0 rfl rfl rfl ?_
    refine a_gV rfl lX12_441 mo_X12_allThatFit (r_X12_allThatFit (f1.fm f2).1.2.2.2.so ((f2 420 11 rfl).trans he) hl4) rfl rfl rfl ⟨12, _, rfl, rfl, rfl⟩ rfl (fun v' h' hv => ?_)
    obtain ⟨⟨v, rfl⟩, rfl⟩ := hv
    exact a_iret rfl rfl ⟨⟨_, rfl⟩, _, rfl, f1.fm f2⟩
  · refine a_s rfl rfl ?_
    refine a_goto rfl ?_
    refine a_s rfl rfl ?_
    refine a_gV rfl lX12_243 mo_X12_throwsIf (r_X12_throwsIf (b := true)) rfl rfl rfl ⟨12, _, rfl, rfl, rfl⟩ rfl (fun v' h' hv => ?_)
    obtain ⟨rfl, I2, rfl, f2⟩ := hv
    refine a_if_eq rfl (fun c => absurd c (by decide)) (fun _ => ?_)
    refine a_s rfl rfl ?_
    refine a_goto rfl ?_
    exact a_iret rfl rfl ⟨⟨_, rfl⟩, _, rfl, f1.fm f2⟩
theorem h_askU (hr : RI nd np I) (ht : ∃ l, l ≤ 400 ∧ I 420 9 = nI l) : Sp S m_X12_ask 15 0 0 [.ref 420] (hp I L w1 w2 t) (QR (Uz nd np I) isI L w1 w2 t) nX := by
  obtain ⟨l, hl4, hl⟩ := ht
  refine Sp_of ok_X12_ask rfl rfl ?_
  show AW S m_X12_ask 15 _ _ 0 0 0 [some (.ref 420), none, none, none, none, none, none, none] [] (hp I L w1 w2 t)
  have f0 : Uz nd np I (usH I) := Uz.mk hr
  refine a_l0 rfl rfl rfl ?_
  refine a_eV0 rfl lX12_232 mo_X12_uses r_X12_uses rfl rfl rfl ⟨12, _, rfl, rfl, rfl⟩ rfl ?_
  refine a_ren (P := fun J => Uz nd np I J ∧ J 420 11 = nI l) ⟨f0, usH_11.trans hl⟩ (fun I1 hI1 => ?_)
  clear f0
  obtain ⟨f1, he⟩ := hI1
  refine a_l0 rfl rfl rfl ?_
  refine a_l0 rfl rfl rfl ?_
  refine a_gV rfl lX12_438 mo_X12_isTold (r_X12_isTold he hl4) rfl rfl rfl ⟨12, _, rfl, rfl, rfl⟩ rfl (fun v' h' hv => ?_)
  obtain ⟨⟨b, rfl⟩, rfl⟩ := hv
  refine a_if_ne rfl (fun _ => ?_) (fun _ => ?_)
  · refine a_s rfl rfl ?_
    refine a_s rfl rfl ?_
    refine a_gV rfl lX12_243 mo_X12_throwsIf (r_X12_throwsIf (b := false)) rfl rfl rfl ⟨12, _, rfl, rfl, rfl⟩ rfl (fun v' h' hv => ?_)
    obtain ⟨rfl, I2, rfl, f2⟩ := hv
    refine a_if_eq rfl (fun _ => ?_) (fun c => absurd (by decide) c)
    have hs2 := (f1.fm f2).1.2.2.2.so
    have h6 := hs2.p
    refine a_l0 rfl rfl rfl ?_
    refine a_gV rfl lX12_441 mo_X12_allThatFit (r_X12_allThatFit hs2 ((f2 420 11 rfl).trans he) hl4) rfl rfl rfl ⟨12, _, rfl, rfl, rfl⟩ rfl (fun v' h' hv => ?_)
    obtain ⟨⟨v, rfl⟩, rfl⟩ := hv
    refine a_s1 rfl rfl rfl rfl rfl rfl ?_
    refine a_l1 rfl rfl rfl ?_
    refine a_eS1 rfl lX12_310 mo_J6_bitCount_0f7a4 (sp_bitCount) rfl rfl rfl rfl ?_
    refine a_s2 rfl rfl rfl rfl rfl rfl ?_
    refine a_s rfl rfl ?_
    refine a_s3 rfl rfl rfl rfl rfl rfl ?_
    refine a_ldcw rfl kX12_401 ?_
    refine a_s4 rfl rfl rfl rfl rfl rfl ?_
    refine a_s rfl rfl ?_
    refine a_s5 rfl rfl rfl rfl rfl rfl ?_
    refine a_cnt (j0 := 0) (fun j ls h => ∃ a b, ls = [some (.ref 420), some (.int v), some (.int (bcF v)), some (.int a), some (.int b), some (.int (nI j)), none, none] ∧ h = hp I2 L w1 w2 t) (by decide) ⟨_, _, rfl, rfl⟩ ⟨rfl, rfl, rfl, rfl, rfl, rfl, trivial⟩ ?_
    rintro j _ _ hj ⟨a, b, rfl, rfl⟩ ih
    have out : ∀ {y6 y7 : Option Value} {a b c : Int32}, AW S m_X12_ask 15 (QR (Uz nd np I) isI L w1 w2 t) nX 0 0 150 [some (.ref 420), some (.int v), some (.int (bcF v)), some (.int a), some (.int b), some (.int c), y6, y7] [] (hp I2 L w1 w2 t) := by
      intro y6 y7 a b c
      refine a_l3 rfl rfl rfl ?_
      exact a_iret rfl rfl ⟨⟨_, rfl⟩, _, rfl, f1.fm f2⟩
    refine a_l5 rfl rfl rfl ?_
    refine a_s rfl rfl ?_
    refine a_ic_ge rfl (fun _ => out) (fun c15 => ?_)
    refine a_l2 rfl rfl rfl ?_
    refine a_s rfl rfl ?_
    refine a_ic_le rfl (fun _ => out) (fun _ => ?_)
    refine a_s rfl rfl ?_
    refine a_s6 rfl rfl rfl rfl rfl rfl ?_
    refine a_s rfl rfl ?_
    refine a_s7 rfl rfl rfl rfl rfl rfl ?_
    refine a_cnt (j0 := 0) (fun p ls h => ∃ y, ls = [some (.ref 420), some (.int v), some (.int (bcF v)), some (.int a), some (.int b), some (.int (nI j)), some (.int y), some (.int (nI p))] ∧ h = hp I2 L w1 w2 t) (by decide) ⟨_, rfl, rfl⟩ ⟨rfl, rfl, rfl, rfl, rfl, rfl, rfl, rfl, trivial⟩ ?_
    rintro p _ _ hp4 ⟨y, rfl, rfl⟩ ih2
    refine a_l7 rfl rfl rfl ?_
    refine a_l0 rfl rfl rfl ?_
    refine a_eV1 rfl lX12_66 mo_X12_people sp_X12_people rfl rfl rfl ⟨12, _, rfl, rfl, rfl⟩ rfl ?_
    refine a_top (y := nI np) hs2.pu ?_
    refine a_ic_ge rfl (fun c => ?_) (fun c => ?_)
    · refine a_l6 rfl rfl rfl ?_
      refine a_l2 rfl rfl rfl ?_
      refine a_l6 rfl rfl rfl ?_
      refine a_s rfl rfl ?_
      refine a_max rfl lX12_265 mj_max rfl rfl ?_
      refine a_s7 rfl rfl rfl rfl rfl rfl ?_
      refine a_l7 rfl rfl rfl ?_
      refine a_l4 rfl rfl rfl ?_
      have fin : ∀ {x z : Int32}, AW S m_X12_ask 15 (QR (Uz nd np I) isI L w1 w2 t) nX 0 0 134 [some (.ref 420), some (.int v), some (.int (bcF v)), some (.int a), some (.int b), some (.int (nI j)), some (.int y), some (.int x)] [.int z] (hp I2 L w1 w2 t) := by
        intro x z
        refine a_s3 rfl rfl rfl rfl rfl rfl ?_
        refine a_l4 rfl rfl rfl ?_
        refine a_l7 rfl rfl rfl ?_
        refine a_min rfl lX12_295 mj_min rfl rfl ?_
        refine a_s4 rfl rfl rfl rfl rfl rfl ?_
        refine a_i5 rfl rfl rfl ?_
        refine a_goto rfl ?_
        exact ih _ _ _ _ c15 ⟨_, _, rfl, rfl⟩ ⟨rfl, rfl, rfl, rfl, rfl, nS _, trivial⟩
      refine a_ic_ge rfl (fun _ => ?_) (fun _ => ?_)
      · refine a_l3 rfl rfl rfl ?_
        exact fin
      · refine a_l5 rfl rfl rfl ?_
        refine a_goto rfl ?_
        exact fin
    · have hpp : p < np := nI_lt_of c hp4 (by omega)
      have fin : ∀ {x : Int32}, AW S m_X12_ask 15 (QR (Uz nd np I) isI L w1 w2 t) nX 0 0 101 [some (.ref 420), some (.int v), some (.int (bcF v)), some (.int a), some (.int b), some (.int (nI j)), some (.int y), some (.int (nI p))] [.int x, .int y] (hp I2 L w1 w2 t) := by
        intro x
        refine a_s rfl rfl ?_
        refine a_s6 rfl rfl rfl rfl rfl rfl ?_
        refine a_i7 rfl rfl rfl ?_
        refine a_goto rfl ?_
        exact ih2 _ _ _ _ c ⟨_, rfl, rfl⟩ ⟨rfl, rfl, rfl, rfl, rfl, rfl, rfl, nS _, trivial⟩
      refine a_l6 rfl rfl rfl ?_
      refine a_l1 rfl rfl rfl ?_
      refine a_l7 rfl rfl rfl ?_
      refine a_eS1 rfl lX12_304 mo_X12_has (sp_X12_has) rfl rfl rfl rfl ?_
      refine a_if_eq rfl (fun _ => ?_) (fun _ => ?_)
      · refine a_s rfl rfl ?_
        exact fin
      · refine a_l0 rfl rfl rfl ?_
        refine a_l7 rfl rfl rfl ?_
        refine a_s rfl rfl ?_
        refine a_eV1 rfl lX12_252 mo_X12_ofPerson (sp_X12_ofPerson (d := p) (k := 0) (by omega) (by decide)) rfl rfl rfl ⟨12, _, rfl, rfl, rfl⟩ rfl ?_
        refine a_l5 rfl rfl rfl ?_
        refine a_ic_gt rfl (fun _ => ?_) (fun _ => ?_)
        · refine a_s rfl rfl ?_
          exact fin
        · refine a_s rfl rfl ?_
          refine a_goto rfl ?_
          exact fin
  · refine a_s rfl rfl ?_
    refine a_goto rfl ?_
    refine a_s rfl rfl ?_
    refine a_gV rfl lX12_243 mo_X12_throwsIf (r_X12_throwsIf (b := true)) rfl rfl rfl ⟨12, _, rfl, rfl, rfl⟩ rfl (fun v' h' hv => ?_)
    obtain ⟨rfl, I2, rfl, f2⟩ := hv
    refine a_if_eq rfl (fun c => absurd c (by decide)) (fun _ => ?_)
    refine a_s rfl rfl ?_
    exact a_iret rfl rfl ⟨⟨_, rfl⟩, _, rfl, f1.fm f2⟩
theorem Nm.eq3 (h : Nm I a W) (f : ∀ k, k < 335 → k ≠ 3 → V k = W k) : Nm I a V := by
  obtain ⟨⟨h1, h2, h3⟩, hl, ⟨⟨r1, r2, r3, r4⟩, hf, hp, hd⟩⟩ := h
  have hb : ∀ x ∈ flds, x.2 < 95 ∧ x.2 ≠ 3 := by decide
  refine ⟨⟨fun x hx => ?_, fun p hp => ?_, fun d hd k hk => ?_⟩, hl.eq rfl rfl (f 9 (by decide) (by decide)) fun k g1 g2 => f k g2 (by omega), (Rg.of r1 r2 ((f 0 (by decide) (by decide)).trans r3) ((f 1 (by decide) (by decide)).trans r4) ?_ (fun p z => (hp p z).eq (f _ (by omega) (by omega)) (f _ (by omega) (by omega))) (fun d z => (hd d z).eq fun k hk => f _ (by omega) (by omega)))⟩
  · have := hb x hx
    rw [f _ (by omega) (by omega)]
    exact h1 x hx
  · rw [f _ (by omega) (by omega), f _ (by omega) (by omega)]
    exact h2 p hp
  · rw [f _ (by omega) (by omega)]
    exact h3 d hd k hk
  · unfold RgF
    rw [f 2 (by decide) (by decide), f 4 (by decide) (by decide), f 5 (by decide) (by decide), f 6 (by decide) (by decide), f 7 (by decide) (by decide), f 8 (by decide) (by decide)]
    exact hf
/-- behind a law: the same but for the law, no acts -/
theorem Sim.law {r : LRs} (h : Sim I) (f : Fm sLw I J) (c : LwC r J) (h12 : r.2.2.2.length ≤ 12) (h400 : r.2.2.1.length ≤ 400) (ok : LsOk r.2.2.1 r.2.2.2) (nb : LnB r.2.2.2) (us : Us nd np J K) (g : ∀ q, q ≠ 420 → q ≠ 421 → K q = J q) (e7 : K 420 7 = 0) (elo : ∀ k, k < 335 → k ≠ 3 → K 421 k = J 421 k) (lj : LwJ r J K) (hz : r.1 = true) : Sim K := by
  obtain ⟨h1, _, h3, n, fa, hn, hf, e1, e2, e3, _⟩ := h
  obtain ⟨_, c13, c0, c1, c2⟩ := c
  obtain ⟨w3, w335, M, m1, m2, m3⟩ := lj.1 hz
  have row : ∀ q, 235 ≤ q → (q < 246 ∨ 251 < q) → J q = I q := fun q g1 g2 => funext fun k => f q k (sLw_hi g1 g2)
  have e21 : J 421 = I 421 := row 421 (by decide) (by decide)
  refine ⟨(h1.eq3 (V := K 421) fun k g1 g2 => by rw [elo k g1 g2, e21]).eq fun q g1 g2 => by rw [g q (by omega) (by omega), row q (by omega) (by omega)], Nl.of ok h12 h400 nb ?_ ?_ ?_ w3 w335 m1 m2 m3, h3.eq (fun q g1 g2 => by rw [g q (by omega) (by omega), row q (by omega) (by omega)]) ?_ ?_ ?_, 0, fa, by decide, hf, ?_, e7, ?_, fun i hi => absurd hi (Nat.not_lt_zero _)⟩
  · rw [g 246 (by decide) (by decide)]
    exact c0
  · rw [g 247 (by decide) (by decide), g 248 (by decide) (by decide), g 249 (by decide) (by decide), g 250 (by decide) (by decide)]
    exact c1
  · rw [g 251 (by decide) (by decide)]
    exact c2
  · rw [g 422 (by decide) (by decide), row 422 (by decide) (by decide)]
  · rw [g 200 (by decide) (by decide)]
    exact f 200 10 rfl
  · rw [us.2.2.1, row 420 (by decide) (by decide)]
  · rw [g 200 (by decide) (by decide)]
    exact c13
  · rw [g 200 (by decide) (by decide)]
    exact (f 200 12 rfl).trans e3
/-- what the relation reads, and no draft -/
theorem Sim.lo (h : Sim I) (f : ∀ q, 235 ≤ q → q < 420 → (q < 252 ∨ 268 ≤ q) → J q = I q) (f1 : ∀ k, k < 1184 → J 421 k = I 421 k) (f2 : J 422 = I 422) (f5 : J 425 = I 425) (g1 : J 200 10 = I 200 10) (g2 : J 200 12 = I 200 12) (g3 : J 200 13 = I 200 13) (g4 : J 420 6 = I 420 6) (g5 : J 420 7 = I 420 7) : Sim J := by
  obtain ⟨h1, h2, h3, n, fa, hn, hf, e1, e2, e3, h4⟩ := h
  refine ⟨(h1.eqW fun k hk => f1 k (by omega)).eq fun q k1 k2 => f q (by omega) (by omega) (by omega), h2.at (congrFun (f 246 (by decide) (by decide) (by decide)) 0) (fun i k1 k2 => f _ (by omega) (by omega) (by omega)) (f1 3 (by decide)) (fun k _ hk => f1 k hk), h3.eq (fun q k1 k2 => f q (by omega) (by omega) (by omega)) f2 g1 g4, n, fa, hn, hf, g3.trans e1, g5.trans e2, g2.trans e3, fun i hi => ?_⟩
  rw [f5, f1 3 (by decide)]
  exact ⟨(h4 i hi).1.eq fun q k1 k2 => f q (by omega) (by omega) (by omega), (h4 i hi).2⟩
theorem Sim.lawNo {r : LRs} (h : Sim I) (f : Fm sLf I J) (us : Us nd np J K) (g : ∀ q, q ≠ 420 → q ≠ 421 → K q = J q) (e7 : K 420 7 = J 420 7) (lj : LwJ r J K) (hz : r.1 = false) : Sim K := by
  have row : ∀ q, 235 ≤ q → J q = I q := fun q g1 => funext fun k => f q k (sLf_hi g1)
  refine h.lo (fun q g1 g2 g3 => by rw [g q (by omega) (by omega), row q g1]) (fun k hk => by rw [lj.2 hz k hk, row 421 (by decide)]) (by rw [g 422 (by decide) (by decide), row 422 (by decide)]) (by rw [g 425 (by decide) (by decide), row 425 (by decide)]) ?_ ?_ ?_ (by rw [us.2.2.1, row 420 (by decide)]) (by rw [e7, row 420 (by decide)])
  · rw [g 200 (by decide) (by decide)]
    exact f 200 10 rfl
  · rw [g 200 (by decide) (by decide)]
    exact f 200 12 rfl
  · rw [g 200 (by decide) (by decide)]
    exact f 200 13 rfl
/-- what a text of the street leaves as it is -/
def Ky (k : Nat) : Prop := 95 ≤ k ∨ k = 3 ∨ k = 9
theorem perP_hi (h : WOk W) {k : Nat} (hk : Ky k) (hz : (perP T e b W).1 = true) : (perP T e b W).2.2 k = W k := by
  obtain ⟨w1, w2, w3, w4⟩ := h
  unfold Ky at hk
  unfold perP at hz ⊢
  by_cases c : W 0 = 6
  · rw [if_pos c] at hz
    cases hz
  have n6 : pn W ≠ 6 := fun z => c (by rw [w3, z]; rfl)
  rw [if_neg c] at hz ⊢
  generalize nbP T e 1 0 15 (nx T e b) = x at hz ⊢
  unfold perB at hz ⊢
  by_cases c2 : x.1 = -1
  · rw [if_pos c2] at hz
    cases hz
  rw [if_neg c2] at hz ⊢
  generalize nbP T e 2 0 9 x.2 = y at hz ⊢
  unfold perC at hz ⊢
  by_cases c3 : y.1 = -1
  · rw [if_pos c3] at hz
    cases hz
  rw [if_neg c3]
  show ud (ud (ud W (11 + 2 * pn W) x.1) (11 + 2 * pn W + 1) y.1) 0 (nI (pn W + 1)) k = W k
  rw [ud_ne (by omega), ud_ne (by omega), ud_ne (by omega)]
theorem dutP_hi (h : WOk W) {k : Nat} (hk : Ky k) (hz : (dutP T e b W).1 = true) : (dutP T e b W).2.2 k = W k := by
  obtain ⟨w1, w2, w3, w4⟩ := h
  unfold Ky at hk
  unfold dutP at hz ⊢
  by_cases c : W 1 = 12
  · rw [if_pos c] at hz
    cases hz
  have n12 : dn W ≠ 12 := fun z => c (by rw [w4, z]; rfl)
  rw [if_neg c] at hz ⊢
  generalize nbP T e 4 0 (W 0 - 1) (nx T e b) = x at hz ⊢
  unfold duA at hz ⊢
  by_cases c2 : x.1 = -1
  · rw [if_pos c2] at hz
    cases hz
  rw [if_neg c2] at hz ⊢
  generalize nbP T e 5 1 99 x.2 = y at hz ⊢
  unfold duB at hz ⊢
  by_cases c3 : y.1 = -1
  · rw [if_pos c3] at hz
    cases hz
  rw [if_neg c3] at hz ⊢
  generalize optP T e 6 0 99 0 y.2 = u at hz ⊢
  unfold duC at hz ⊢
  by_cases c4 : u.1 = true
  rotate_left
  · rw [if_neg c4] at hz
    cases hz
  rw [if_pos c4] at hz ⊢
  generalize optP T e 7 0 5 (-1) u.2.2 = v at hz ⊢
  unfold duD at hz ⊢
  by_cases c5 : v.1 = true
  rotate_left
  · rw [if_neg c5] at hz
    cases hz
  rw [if_pos c5] at hz ⊢
  generalize optP T e 8 0 (W 1 - 1) (-1) v.2.2 = w at hz ⊢
  unfold duE at hz ⊢
  by_cases c6 : w.1 = true
  rotate_left
  · rw [if_neg c6] at hz
    cases hz
  rw [if_pos c6]
  show addDt W x.1 y.1 u.2.1 v.2.1 w.2.1 k = W k
  unfold addDt
  rw [ud_ne (by omega), ud_ne (by omega), ud_ne (by omega), ud_ne (by omega), ud_ne (by omega), ud_ne (by omega), ud_ne (by omega)]
theorem forP_hi (h : WOk W) {k : Nat} (hk : Ky k) (hz : (forP T e b W).1 = true) : (forP T e b W).2.2 k = W k := by
  obtain ⟨w1, w2, w3, w4⟩ := h
  unfold Ky at hk
  unfold forP at hz ⊢
  by_cases c : nm T e b 0 (W 1 - 1) = -1
  · rw [if_pos c] at hz
    cases hz
  rw [if_neg c] at hz ⊢
  by_cases c2 : W (23 + 6 * (nm T e b 0 (W 1 - 1)).toNatClampNeg + 5) = 0
  · rw [if_pos c2]
    show ud W (23 + 6 * (nm T e b 0 (W 1 - 1)).toNatClampNeg + 5) 2 k = W k
    rw [w4] at c ⊢
    obtain ⟨j, hj, ej⟩ := nm_ix w2 c
    rw [ej, nI_clamp (by omega)]
    exact ud_ne (by omega)
  · rw [if_neg c2] at hz
    cases hz
theorem setP_hi {g : Nat} {lo hi : Int32} (hg : g < 9 ∧ g ≠ 3) {k : Nat} (hk : Ky k) (hz : (setP T e b W g lo hi).1 = true) : (setP T e b W g lo hi).2.2 k = W k := by
  unfold Ky at hk
  unfold setP at hz ⊢
  by_cases c : nm T e b lo hi = -1
  · rw [if_pos c] at hz
    cases hz
  rw [if_neg c]
  exact ud_ne (by omega)
theorem stgP_hi {k : Nat} (hk : Ky k) (hz : (stgP T e b W).1 = true) : (stgP T e b W).2.2 k = W k := by
  unfold stgP at hz ⊢
  by_cases c : isWd T e b 10 = true
  · rw [if_pos c] at hz ⊢; exact setP_hi (by decide) hk hz
  rw [if_neg c] at hz ⊢
  by_cases c : isWd T e b 11 = true
  · rw [if_pos c] at hz ⊢; exact setP_hi (by decide) hk hz
  rw [if_neg c] at hz ⊢
  by_cases c : isWd T e b 12 = true
  · rw [if_pos c] at hz ⊢; exact setP_hi (by decide) hk hz
  rw [if_neg c] at hz ⊢
  by_cases c : isWd T e b 13 = true
  · rw [if_pos c] at hz ⊢; exact setP_hi (by decide) hk hz
  rw [if_neg c] at hz ⊢
  by_cases c : isWd T e b 14 = true
  · rw [if_pos c] at hz ⊢; exact setP_hi (by decide) hk hz
  rw [if_neg c] at hz
  cases hz
theorem linP_hi (h : WOk W) {k : Nat} (hk : Ky k) (hz : (linP T e b W).1 = true) : (linP T e b W).2.2 k = W k := by
  unfold linP at hz ⊢
  by_cases c : isWd T e b 0 = true
  · rw [if_pos c] at hz ⊢; exact perP_hi h hk hz
  rw [if_neg c] at hz ⊢
  by_cases c : isWd T e b 3 = true
  · rw [if_pos c] at hz ⊢; exact dutP_hi h hk hz
  rw [if_neg c] at hz ⊢
  by_cases c : isWd T e b 9 = true
  · rw [if_pos c] at hz ⊢; exact forP_hi h hk hz
  rw [if_neg c] at hz ⊢
  exact stgP_hi hk hz
theorem strsP_hi {k : Nat} (hk : Ky k) : ∀ (f b : Nat) (W : Nat → Int32), WOk W → (strsP T e f b W).1 = true → (strsP T e f b W).2.2 k = W k := by
  intro f
  induction f with
  | zero => exact fun b W _ hz => by cases hz
  | succ f ih =>
    intro b W h hz
    rw [strsP_s] at hz ⊢
    have hl := linP_hi (T := T) (e := e) (b := b) h hk
    have ho := linP_ok (T := T) (e := e) (b := b) h
    generalize linP T e b W = r at hz hl ho ⊢
    by_cases c1 : r.1 = true
    · rw [if_pos c1] at hz ⊢
      by_cases c2 : r.2.1 < e
      · rw [if_pos c2] at hz ⊢
        by_cases c3 : sg T e r.2.1 59 = true
        · rw [if_pos c3] at hz ⊢
          exact (ih _ _ (ho c1) hz).trans (hl c1)
        · rw [if_neg c3] at hz
          cases hz
      · rw [if_neg c2]
        exact hl c1
    · rw [if_neg c1] at hz
      cases hz
theorem strP_hi (h : WOk W) {k : Nat} (hk : Ky k) (hz : (strP T e W).1 = true) : (strP T e W).2.2 k = W k := by
  unfold strP at hz ⊢
  by_cases c : bg T e 0 < e
  · rw [if_pos c] at hz ⊢
    exact strsP_hi hk _ _ _ h hz
  · rw [if_neg c]
theorem Rg.tx (h : Rg W) {x : Int32} (hx : Nb x 12) : Rg (ud W 2 x) := by
  obtain ⟨⟨r1, r2, r3, r4⟩, ⟨_, f4, f5, f6, f7, f8⟩, hp, hd⟩ := h
  refine (Rg.of r1 r2 ((ud_ne (by decide)).trans r3) ((ud_ne (by decide)).trans r4) ?_ (fun p z => (hp p z).eq (ud_ne (by omega)) (ud_ne (by omega))) (fun d z => (hd d z).eq fun k hk => ud_ne (by omega)))
  unfold RgF
  rw [ud_at, ud_ne (show 4 ≠ 2 by decide), ud_ne (show 5 ≠ 2 by decide), ud_ne (show 6 ≠ 2 by decide), ud_ne (show 7 ≠ 2 by decide), ud_ne (show 8 ≠ 2 by decide)]
  exact ⟨hx, f4, f5, f6, f7, f8⟩
/-- behind a street that was read -/
theorem Sim.street (h : Sim I) (hz : (strP T e (I 421)).1 = true) (h2 : ¬ I 421 2 = 12) (f : Fm sJ I J) (c13 : J 200 13 = 0) (D : Sd J 235 (ud (strP T e (I 421)).2.2 2 (I 421 2 + 1))) (g : ∀ q, q < 420 → K q = J q) (g6 : K 420 6 = J 420 6) (k2 : K 422 = J 422) (e1 : K 421 = ud (strP T e (I 421)).2.2 2 (I 421 2 + 1)) (e7 : K 420 7 = 0) : Sim K := by
  obtain ⟨h1, hl, h3, n, fa, hn, hf, _, _, e3, _⟩ := h
  have row : ∀ q, 244 ≤ q → J q = I q := fun q g1 => funext fun k => f q k (sJ_hi g1)
  have hG := h1.2.2
  have hi : ∀ k, Ky k → K 421 k = I 421 k := fun k hk => by
    rw [e1, ud_ne (by unfold Ky at hk; omega)]
    exact strP_hi hG.1 hk hz
  have hRG : Rg (K 421) := by
    rw [e1]
    refine (strP_rg hG hz).tx ?_
    obtain ⟨k, k12, ek⟩ := hG.2.1.1
    rw [ek] at h2 ⊢
    refine ⟨k + 1, ?_, (nI_succ k).symm⟩
    have : k ≠ 12 := fun z => h2 (by rw [z]; rfl)
    omega
  refine ⟨⟨?_, h1.2.1.eq ?_ ?_ ?_ ?_, hRG⟩, hl.eq (fun q g1 g2 => by rw [g q (by omega), row q (by omega)]) (hi 3 (Or.inr (Or.inl rfl))) (fun k hk => hi k (Or.inl (by omega))), h3.eq (fun q g1 g2 => by rw [g q (by omega), row q (by omega)]) ?_ ?_ ?_, 0, fa, by decide, hf, ?_, e7, ?_, fun i hi => absurd hi (Nat.not_lt_zero _)⟩
  · rw [e1]
    exact D.eq fun q g1 g2 => g q (by omega)
  · exact (g 244 (by decide)).trans (row 244 (by decide))
  · exact (g 245 (by decide)).trans (row 245 (by decide))
  · exact hi 9 (Or.inr (Or.inr rfl))
  · exact fun k g1 g2 => hi k (Or.inl g1)
  · rw [k2, row 422 (by decide)]
  · rw [g 200 (by decide)]
    exact f 200 10 rfl
  · rw [g6, row 420 (by decide)]
  · rw [g 200 (by decide)]
    exact c13
  · rw [g 200 (by decide)]
    exact (f 200 12 rfl).trans e3
/-- behind one that was not -/
theorem Sim.streetNo (h : Sim I) (f : Fm sJ I J) (c13 : J 200 13 = I 200 13) (D : Sd J 235 (I 421)) (g : ∀ q, q < 420 → K q = J q) (g6 : K 420 6 = J 420 6) (k2 : K 422 = J 422) (k5 : K 425 = J 425) (e1 : K 421 = J 421) (e7 : K 420 7 = J 420 7) : Sim K := by
  obtain ⟨h1, hl, h3, n, fa, hn, hf, e1', e2, e3, h4⟩ := h
  have row : ∀ q, 244 ≤ q → J q = I q := fun q g1 => funext fun k => f q k (sJ_hi g1)
  have w : K 421 = I 421 := e1.trans (row 421 (by decide))
  refine ⟨⟨?_, h1.2.1.eq ?_ ?_ ?_ ?_, ?_⟩, hl.eq (fun q g1 g2 => by rw [g q (by omega), row q (by omega)]) (congrFun w 3) (fun k _ => congrFun w k), h3.eq (fun q g1 g2 => by rw [g q (by omega), row q (by omega)]) ?_ ?_ ?_, n, fa, hn, hf, ?_, ?_, ?_, fun i hi => ?_⟩
  · rw [w]
    exact D.eq fun q g1 g2 => g q (by omega)
  · exact (g 244 (by decide)).trans (row 244 (by decide))
  · exact (g 245 (by decide)).trans (row 245 (by decide))
  · exact congrFun w 9
  · exact fun k _ _ => congrFun w k
  · rw [w]
    exact h1.2.2
  · rw [k2, row 422 (by decide)]
  · rw [g 200 (by decide)]
    exact f 200 10 rfl
  · rw [g6, row 420 (by decide)]
  · rw [g 200 (by decide), c13]
    exact e1'
  · rw [e7, row 420 (by decide)]
    exact e2
  · rw [g 200 (by decide)]
    exact (f 200 12 rfl).trans e3
  · rw [k5, row 425 (by decide), w]
    exact ⟨(h4 i hi).1.eq fun q g1 g2 => by rw [g q (by omega), row q (by omega)], (h4 i hi).2⟩
end T79zr
end
section
/-! ===== all that is known of both between two operations, with the relation ===== -/
section T79zs
variable {I J K : Nat → Nat → Int32} {L : Nat → Nat → Int64} {w1 w2 t n fa nd np : Nat} {W : Nat → Int32} {c y val : Int32} {l : Int64} {ov : Option Value} {h' : aH}
set_option maxRecDepth 100000
def Sy (I : Nat → Nat → Int32) : Prop := (CI I ∧ Tp I) ∧ (Sim I ∧ I 200 3 = I 420 14) ∧ ∃ l, l ≤ 400 ∧ I 201 1 = nI l ∧ I 420 9 = nI l
/-- the class has used its tape up, the reference not yet -/
def Sz (I : Nat → Nat → Int32) : Prop := (CI I ∧ Tp I) ∧ (Sim I ∧ I 200 3 = I 420 14) ∧ I 201 1 = 0 ∧ ∃ l, l ≤ 400 ∧ I 420 9 = nI l
theorem Sim.ps (h : Sim I) : ∃ n fa, PsN I n fa := h.2.2.2
theorem Sy.sim (h : Sy I) : Sim I := h.2.1.1
theorem Sy.nm (h : Sy I) : Nm I 235 (I 421) := h.2.1.1.1
theorem Sy.nl (h : Sy I) : Nl I 246 (I 421) := h.2.1.1.2.1
theorem Sy.ri (h : Sy I) : RI (dn (I 421)) (pn (I 421)) I := h.2.1.1.ri
theorem Sz.ri (h : Sz I) : RI (dn (I 421)) (pn (I 421)) I := h.2.1.1.ri
theorem RI.rows (h : RI nd np I) (e : ∀ q, 420 ≤ q → J q = I q) : RI nd np J := h.eq (e 421 (by decide)) (e 422 (by decide)) (e 425 (by decide)) (congrFun (e 420 (by decide)) 6) (congrFun (e 420 (by decide)) 7)
theorem CI.rows (h : CI I) (e : ∀ q, q < 420 → J q = I q) : CI J := fun a ha h2 => by
  rw [e a (by have := stp_hi a ha; omega)]
  exact h a ha h2
theorem sQ_no {q k : Nat} (h : q < 252 ∨ 268 ≤ q) : sQ q k = false := by
  unfold sQ
  rw [beqF (show q ≠ 252 by omega), beqF (show q ≠ 253 by omega), beqF (show q ≠ 255 by omega), beqF (show q ≠ 256 by omega)]
  rcases h with h | h
  · have e : Nat.ble 257 q = false := by
      cases hb : Nat.ble 257 q with
      | false => rfl
      | true => exact absurd (Nat.le_of_ble_eq_true hb) (by omega)
    rw [e]
    rfl
  · have e : Nat.ble q 267 = false := by
      cases hb : Nat.ble q 267 with
      | false => rfl
      | true => exact absurd (Nat.le_of_ble_eq_true hb) (by omega)
    rw [e]
    cases Nat.ble 257 q <;> rfl
theorem sV_lo4 {q k : Nat} (h : q < 420) : sV q k = false := by
  unfold sV sU
  rw [beqF (show q ≠ 428 by omega), beqF (show q ≠ 429 by omega), beqF (show q ≠ 420 by omega), beqF (show q ≠ 424 by omega)]
  rfl
/-- a question to the class -/
theorem Sy.q (h : Sy I) (f : Fm sQ I J) : Sy J := by
  have m := Mt.of (Fm.mo f sQ_sM)
  obtain ⟨⟨h1, h2⟩, ⟨h3, h6⟩, l, h4, h5, h7⟩ := h
  have row : ∀ q, (q < 252 ∨ 268 ≤ q) → J q = I q := fun q hq => funext fun k => f q k (sQ_no hq)
  have r2 := row 200 (by decide)
  have r4 := row 420 (by decide)
  refine ⟨⟨m.2.2.2.1 h1, h2.m m⟩, ⟨h3.eq (fun q _ _ g3 => row q g3) (row 421 (by decide)) (row 422 (by decide)) (row 425 (by decide)) (congrFun r2 10) (congrFun r2 12) (congrFun r2 13) (congrFun r4 6) (congrFun r4 7), ?_⟩, l, h4, (congrFun (row 201 (by decide)) 1).trans h5, (congrFun r4 9).trans h7⟩
  rw [r2, r4]
  exact h6
/-- a question to the reference -/
theorem Sy.v (h : Sy I) (f : Fm sV I J) : Sy J := by
  obtain ⟨⟨h1, h2⟩, ⟨h3, h6⟩, l, h4, h5, h7⟩ := h
  have row : ∀ q, q < 420 → J q = I q := fun q hq => funext fun k => f q k (sV_lo4 hq)
  have r2 := row 200 (by decide)
  refine ⟨⟨h1.rows row, h2.r fun q hq => ?_⟩, ⟨h3.eq (fun q _ g2 _ => row q g2) (funext fun k => f 421 k rfl) (funext fun k => f 422 k rfl) (funext fun k => f 425 k rfl) (congrFun r2 10) (congrFun r2 12) (congrFun r2 13) (f 420 6 rfl) (f 420 7 rfl), ?_⟩, l, h4, (congrFun (row 201 (by decide)) 1).trans h5, (f 420 9 rfl).trans h7⟩
  · rcases hq with hq | hq
    · exact row q hq
    · rw [hq]
      exact funext fun k => f 426 k rfl
  · rw [r2, show J 420 14 = I 420 14 from f 420 14 rfl]
    exact h6
theorem Sy.u (h : Sy I) (f : Fm sU I J) : Sy J := Sy.v h (Fm.mo f sU_sV)
/-- a text with no street: the class uses it up, the reference too -/
theorem Sy.z1 (h : Sy I) : Sz (up2 I 201 1 0) := by
  have m := Mt0.all (Mt0.mk (Mt.rf (I := I)))
  obtain ⟨⟨h1, h2⟩, ⟨h3, h6⟩, l, h4, h5, h7⟩ := h
  have row : ∀ q, q ≠ 201 → up2 I 201 1 0 q = I q := fun q hq => up2_row hq
  have r2 := row 200 (by decide)
  have r4 := row 420 (by decide)
  refine ⟨⟨m.2.2.2.1 h1, h2.eq (row 426 (by decide)) (row 202 (by decide)) (congrFun (row 203 (by decide)) 1) (congrFun (row 220 (by decide)) 1)⟩, ⟨h3.eq (fun q g1 _ _ => row q (by omega)) (row 421 (by decide)) (row 422 (by decide)) (row 425 (by decide)) (congrFun r2 10) (congrFun r2 12) (congrFun r2 13) (congrFun r4 6) (congrFun r4 7), ?_⟩, m.2.1, l, h4, (congrFun r4 9).trans h7⟩
  rw [r2, r4]
  exact h6
theorem Sz.uz (h : Sz I) (f : Uz nd np I J) : Sy J := by
  obtain ⟨⟨h1, h2⟩, ⟨h3, h6⟩, h5, -⟩ := h
  obtain ⟨⟨g1, g2, g3, -⟩, f⟩ := f
  have r2 := g1 200 (by decide)
  refine ⟨⟨h1.rows fun q hq => g1 q (Or.inl hq), h2.r g1⟩, ⟨h3.eq (fun q _ g2 _ => g1 q (Or.inl g2)) (funext fun k => f 421 k rfl) (funext fun k => f 422 k rfl) (funext fun k => f 425 k rfl) (congrFun r2 10) (congrFun r2 12) (congrFun r2 13) g3 (f 420 7 rfl), ?_⟩, 0, by decide, (congrFun (g1 201 (by decide)) 1).trans h5, g2⟩
  rw [r2, show J 420 14 = I 420 14 from f 420 14 rfl]
  exact h6
theorem stp_past : ∀ i, i < 12 → 288 + 11 * i ∈ stps := by decide +kernel
theorem stp_far2 : ∀ a ∈ stps, a ≠ 235 → (a < 235 ∨ 245 < a) ∧ a ≠ 252 ∧ a ≠ 253 ∧ a < 420 := by decide +kernel
theorem Mt_reS : Mt I (reS I n fa) := by
  unfold reS
  by_cases e : n = 12
  · rw [if_pos e]
    exact Mt.fm (Mt.tr (Mt.of (Fm.up (Fm.up Fm.rf rfl) rfl)) (Mt.cpA (stp_past _ (Nat.mod_lt _ (by decide))) (by decide) (by decide))) (Fm.up Fm.rf rfl)
  · rw [if_neg e]
    exact Mt.fm (Mt.cpA (stp_past _ (Nat.mod_lt _ (by decide))) (by decide) (by decide)) (Fm.up Fm.rf rfl)
/-- behind an act of both, or days -/
theorem Sy.of (h : Sy I) (hs : Sim K) (f : ∀ q, q < 420 → (q < 235 ∨ 245 < q) → q ≠ 252 → q ≠ 253 → K q = reS I n fa q) (e6 : K 426 = I 426) (e14 : K 420 14 = I 420 14) (e9 : K 420 9 = I 420 9) : Sy K := by
  obtain ⟨⟨h1, h2⟩, ⟨h3, h6⟩, l, h4, h5, h7⟩ := h
  have m : Mt I (reS I n fa) := Mt_reS
  have hn := hs.1
  refine ⟨⟨fun a ha h8 => ?_, ?_⟩, ⟨hs, ?_⟩, l, h4, ?_, e9.trans h7⟩
  · by_cases e : a = 235
    · subst e
      exact ⟨dn (K 421), hn.2.2.1.2.1, (Sd.fd hn.1 (f := 3) (g := 1) (by decide)).trans hn.2.2.1.2.2.2⟩
    · obtain ⟨a1, a2, a3, a4⟩ := stp_far2 a ha e
      rw [f a a4 a1 a2 a3]
      exact m.2.2.2.1 h1 a ha h8
  · exact h2.eq e6 ((f 202 (by decide) (by decide) (by decide) (by decide)).trans m.2.2.2.2.1) ((congrFun (f 203 (by decide) (by decide) (by decide) (by decide)) 1).trans m.2.2.2.2.2.1) ((congrFun (f 220 (by decide) (by decide) (by decide) (by decide)) 1).trans m.2.2.2.2.2.2)
  · rw [f 200 (by decide) (by decide) (by decide) (by decide), reS_el (by decide) (by decide), e14]
    exact h6
  · rw [f 201 (by decide) (by decide) (by decide) (by decide)]
    exact m.2.1.trans h5
/-- what an act of the class did: c what it threw -/
def AcJ (c y : Int32) (l : Int64) (val : Int32) (J F I : Nat → Nat → Int32) : Prop := (c = 0 ∧ y = 0 ∧ l = val.toInt64 ∧ J = F) ∨ (¬ c = 0 ∧ y = c ∧ J = I)
theorem AcJ.up {F : Nat → Nat → Int32} (h : AcJ c y l val J F I) (f : ∀ q, 420 ≤ q → F q = I q) : ∀ q, 420 ≤ q → J q = I q := by
  rcases h with ⟨_, _, _, rfl⟩ | ⟨_, _, rfl⟩
  · exact f
  · exact fun _ _ => rfl
theorem AcJ.st {F : Nat → Nat → Int32} (h : AcJ c y l val J F I) : y = c := by
  rcases h with ⟨c0, y0, _, _⟩ | ⟨_, y0, _⟩
  · rw [c0, y0]
  · exact y0
theorem Sy.qa {fc fh : (Nat → Nat → Int32) → Nat → Nat → Int32} (h : Sy I) (hps : PsN I n fa) (kc : ∀ M q, (q < 235 ∨ 245 < q) → fc M q = M q) (kh : ∀ M q, q ≠ 421 → fh M q = M q) (kk : c = 0 → ∀ M k, (k = 3 ∨ 335 ≤ k) → fh M 421 k = M 421 k) (D : c = 0 → ∀ R M, Nm R 235 (I 421) → M 421 = I 421 → Nm (fc R) 235 (fh M 421)) (hJ : AcJ c y l val J (fc (reS I n fa)) I) (hv : QA J n c val fh L w1 w2 t ov h') : ∃ y2 K, ov = some (.int y2) ∧ h' = hp K L w1 w2 t ∧ Sy K ∧ K 420 0 = c ∧ (c = 0 → y2 = val) := by
  rcases hJ with ⟨c0, _, _, rfl⟩ | ⟨c0, _, rfl⟩
  · rcases hv with ⟨_, e1, e2⟩ | ⟨c1, _, _⟩
    · have r0 : ∀ q, 420 ≤ q → fc (reS I n fa) q = I q := fun q hq => by rw [kc _ q (by omega), reS_row (by omega) (by omega)]
      have r1 : ∀ q, q ≠ 420 → q ≠ 425 → remH (up2 (fc (reS I n fa)) 420 0 0) n q = fc (reS I n fa) q := fun q g1 g2 => by rw [remH_row g1 g2, up2_row g1]
      have r21 : remH (up2 (fc (reS I n fa)) 420 0 0) n 421 = I 421 := (r1 421 (by decide) (by decide)).trans (r0 421 (by decide))
      have hn0 : Nm (reS I n fa) 235 (I 421) := h.nm.eq fun q g1 g2 => reS_row (by omega) (by omega)
      have el : ∀ k, k ≠ 0 → k ≠ 7 → fh (remH (up2 (fc (reS I n fa)) 420 0 0) n) 420 k = I 420 k := fun k g1 g2 => by rw [kh _ 420 (by decide), remH_el g2, up2_ne (Or.inr g1), r0 420 (by decide)]
      refine ⟨val, _, e1, e2, Sy.of (n := n) (fa := fa) h (Sim.act (J := fc (reS I n fa)) h.sim hps (fun q g1 _ _ => kc _ q g1) (fun q g1 _ _ => kh _ q g1) (D c0 _ _ hn0 r21) ?_ fun k hk => ?_) (fun q g1 g2 _ _ => ?_) ?_ (el 14 (by decide) (by decide)) (el 9 (by decide) (by decide)), ?_, fun _ => rfl⟩
      · rw [kk c0 _ 3 (Or.inl rfl), r21]
      · rw [kk c0 _ k (Or.inr hk), r21]
      · rw [kh _ q (by omega), r1 q (by omega) (by omega), kc _ q g2]
      · rw [kh _ 426 (by decide), r1 426 (by decide) (by decide), r0 426 (by decide)]
      · rw [kh _ 420 (by decide), remH_el (by decide), up2_at, c0]
    · exact absurd c0 c1
  · rcases hv with ⟨c1, _, _⟩ | ⟨_, e1, e2⟩
    · exact absurd c1 c0
    · exact ⟨0, _, e1, e2, h.u (Fm.up (Fm.up Fm.rf rfl) rfl), up2_at, fun z => absurd z c0⟩
theorem vC_ix (hn : nd ≤ 12) {x : Int32} (h : vC nd W x = 0) : ixN x < nd := by
  unfold vC at h
  by_cases c : inB x 0 (nI nd - 1) = true
  · exact (ix_of hn c).1
  · rw [if_neg c] at h
    exact absurd h (by decide)
theorem vH_ix (hn : nd ≤ 12) {x y : Int32} (h : vH nd np W x y = 0) : ixN x < nd := by
  unfold vH at h
  by_cases c : inB x 0 (nI nd - 1) = true ∧ inB y 0 (nI np - 1) = true
  · exact (ix_of hn c.1).1
  · rw [if_neg c] at h
    exact absurd h (by decide)
theorem vL_ix (hn : nd ≤ 12) {x y : Int32} (h : vL nd x y = 0) : ixN x < nd := by
  unfold vL at h
  by_cases c : inB x 0 (nI nd - 1) = true ∧ (y = -1 ∨ inB y 0 (nI nd - 1) = true)
  · exact (ix_of hn c.1).1
  · rw [if_neg c] at h
    exact absurd h (by decide)
theorem vF_ix (hn : np ≤ 12) {x y : Int32} (h : vF np x y = 0) : ixN x < np := by
  unfold vF at h
  by_cases c : inB x 0 (nI np - 1) = true
  · exact (ix_of hn c).1
  · rw [if_neg c] at h
    exact absurd h (by decide)
theorem Sy.put (h : Sy I) (hps : PsN I n fa) {x : Int32} (hJ : AcJ (vS (dn (I 421)) (I 421) 0 x) y l (mn 99 (I 421 (23 + 6 * ixN x + 2) + 1)) J (up2 (reS I n fa) 240 (ixN x) (mn 99 (I 421 (23 + 6 * ixN x + 2) + 1))) I) (hv : QA J n (vS (dn (I 421)) (I 421) 0 x) (mn 99 (I 421 (23 + 6 * ixN x + 2) + 1)) (fun M => up2 M 421 (23 + 6 * ixN x + 2) (mn 99 (I 421 (23 + 6 * ixN x + 2) + 1))) L w1 w2 t ov h') : ∃ y2 K, ov = some (.int y2) ∧ h' = hp K L w1 w2 t ∧ Sy K ∧ K 420 0 = vS (dn (I 421)) (I 421) 0 x ∧ (vS (dn (I 421)) (I 421) 0 x = 0 → y2 = mn 99 (I 421 (23 + 6 * ixN x + 2) + 1)) := by
  have h12 := h.nm.2.2.1.2.1
  refine h.qa hps (fc := fun M => up2 M 240 (ixN x) (mn 99 (I 421 (23 + 6 * ixN x + 2) + 1))) (fun M q g => up2_row (by omega)) (fun M q g => up2_row g) (fun c0 M k g => up2_ne (Or.inr ?_)) (fun c0 R M hR hM => ?_) hJ hv
  · have := (vS_ix h12 c0).1
    omega
  · show Nm (up2 R 240 (ixN x) _) 235 (up2 M 421 (23 + 6 * ixN x + 2) _ 421)
    rw [up2_ud, hM]
    exact hR.put c0
theorem Sy.stt (h : Sy I) (hps : PsN I n fa) {x k val : Int32} {s : Nat} (hk : ¬ k = 1) (hs : s ≤ 2) (h1 : s ≠ 1) (hJ : AcJ (vS (dn (I 421)) (I 421) k x) y l val J (up2 (reS I n fa) 243 (ixN x) (nI s)) I) (hv : QA J n (vS (dn (I 421)) (I 421) k x) val (fun M => up2 M 421 (23 + 6 * ixN x + 5) (nI s)) L w1 w2 t ov h') : ∃ y2 K, ov = some (.int y2) ∧ h' = hp K L w1 w2 t ∧ Sy K ∧ K 420 0 = vS (dn (I 421)) (I 421) k x ∧ (vS (dn (I 421)) (I 421) k x = 0 → y2 = val) := by
  have h12 := h.nm.2.2.1.2.1
  refine h.qa hps (fc := fun M => up2 M 243 (ixN x) (nI s)) (fun M q g => up2_row (by omega)) (fun M q g => up2_row g) (fun c0 M k g => up2_ne (Or.inr ?_)) (fun c0 R M hR hM => ?_) hJ hv
  · have := (vS_ix h12 c0).1
    omega
  · show Nm (up2 R 243 (ixN x) _) 235 (up2 M 421 (23 + 6 * ixN x + 5) _ 421)
    rw [up2_ud, hM]
    exact hR.stt hk c0 hs h1
theorem Sy.hand (h : Sy I) (hps : PsN I n fa) {x z val : Int32} (hJ : AcJ (vH (dn (I 421)) (pn (I 421)) (I 421) x z) y l val J (up2 (reS I n fa) 238 (ixN x) z) I) (hv : QA J n (vH (dn (I 421)) (pn (I 421)) (I 421) x z) val (fun M => up2 M 421 (23 + 6 * ixN x + 0) z) L w1 w2 t ov h') : ∃ y2 K, ov = some (.int y2) ∧ h' = hp K L w1 w2 t ∧ Sy K ∧ K 420 0 = vH (dn (I 421)) (pn (I 421)) (I 421) x z ∧ (vH (dn (I 421)) (pn (I 421)) (I 421) x z = 0 → y2 = val) := by
  have h12 := h.nm.2.2.1.2.1
  refine h.qa hps (fc := fun M => up2 M 238 (ixN x) z) (fun M q g => up2_row (by omega)) (fun M q g => up2_row g) (fun c0 M k g => up2_ne (Or.inr ?_)) (fun c0 R M hR hM => ?_) hJ hv
  · have := vH_ix h12 c0
    omega
  · show Nm (up2 R 238 (ixN x) _) 235 (up2 M 421 (23 + 6 * ixN x + 0) _ 421)
    rw [up2_ud, hM]
    exact hR.hand c0
theorem Sy.lean (h : Sy I) (hps : PsN I n fa) {x z val : Int32} (hJ : AcJ (vL (dn (I 421)) x z) y l val J (up2 (reS I n fa) 242 (ixN x) z) I) (hv : QA J n (vL (dn (I 421)) x z) val (fun M => up2 M 421 (23 + 6 * ixN x + 4) z) L w1 w2 t ov h') : ∃ y2 K, ov = some (.int y2) ∧ h' = hp K L w1 w2 t ∧ Sy K ∧ K 420 0 = vL (dn (I 421)) x z ∧ (vL (dn (I 421)) x z = 0 → y2 = val) := by
  have h12 := h.nm.2.2.1.2.1
  refine h.qa hps (fc := fun M => up2 M 242 (ixN x) z) (fun M q g => up2_row (by omega)) (fun M q g => up2_row g) (fun c0 M k g => up2_ne (Or.inr ?_)) (fun c0 R M hR hM => ?_) hJ hv
  · have := vL_ix h12 c0
    omega
  · show Nm (up2 R 242 (ixN x) _) 235 (up2 M 421 (23 + 6 * ixN x + 4) _ 421)
    rw [up2_ud, hM]
    exact hR.lean c0
theorem Sy.free (h : Sy I) (hps : PsN I n fa) {x z val : Int32} (hJ : AcJ (vF (pn (I 421)) x z) y l val J (up2 (reS I n fa) 237 (ixN x) z) I) (hv : QA J n (vF (pn (I 421)) x z) val (fun M => up2 M 421 (11 + 2 * ixN x + 1) z) L w1 w2 t ov h') : ∃ y2 K, ov = some (.int y2) ∧ h' = hp K L w1 w2 t ∧ Sy K ∧ K 420 0 = vF (pn (I 421)) x z ∧ (vF (pn (I 421)) x z = 0 → y2 = val) := by
  have h6 := h.nm.2.2.1.1
  refine h.qa hps (fc := fun M => up2 M 237 (ixN x) z) (fun M q g => up2_row (by omega)) (fun M q g => up2_row g) (fun c0 M k g => up2_ne (Or.inr ?_)) (fun c0 R M hR hM => ?_) hJ hv
  · have := vF_ix (Nat.le_trans h6 (by decide)) c0
    omega
  · show Nm (up2 R 237 (ixN x) _) 235 (up2 M 421 (11 + 2 * ixN x + 1) _ 421)
    rw [up2_ud, hM]
    exact hR.free c0
theorem Sy.call (h : Sy I) (hps : PsN I n fa) {x val : Int32} (hJ : AcJ (vC (dn (I 421)) (I 421) x) y l val J (up2 (up2 (reS I n fa) 239 (ixN x) 0) 243 (ixN x) 1) I) (hv : QA J n (vC (dn (I 421)) (I 421) x) val (fun M => up2 (up2 M 421 (23 + 6 * ixN x + 1) 0) 421 (23 + 6 * ixN x + 5) 1) L w1 w2 t ov h') : ∃ y2 K, ov = some (.int y2) ∧ h' = hp K L w1 w2 t ∧ Sy K ∧ K 420 0 = vC (dn (I 421)) (I 421) x ∧ (vC (dn (I 421)) (I 421) x = 0 → y2 = val) := by
  have h12 := h.nm.2.2.1.2.1
  refine h.qa hps (fc := fun M => up2 (up2 M 239 (ixN x) 0) 243 (ixN x) 1) (fun M q g => ?_) (fun M q g => ?_) (fun c0 M k g => ?_) (fun c0 R M hR hM => ?_) hJ hv
  · show up2 (up2 M 239 (ixN x) 0) 243 (ixN x) 1 q = M q
    rw [up2_row (by omega), up2_row (by omega)]
  · show up2 (up2 M 421 (23 + 6 * ixN x + 1) 0) 421 (23 + 6 * ixN x + 5) 1 q = M q
    rw [up2_row g, up2_row g]
  · have := vC_ix h12 c0
    show up2 (up2 M 421 (23 + 6 * ixN x + 1) 0) 421 (23 + 6 * ixN x + 5) 1 421 k = M 421 k
    rw [up2_ne (Or.inr (by omega)), up2_ne (Or.inr (by omega))]
  · show Nm (up2 (up2 R 239 (ixN x) 0) 243 (ixN x) 1) 235 (up2 (up2 M 421 (23 + 6 * ixN x + 1) 0) 421 (23 + 6 * ixN x + 5) 1 421)
    rw [up2_ud, up2_ud, hM]
    exact hR.call c0
end T79zs
end
section
/-! ===== what is known stays: days, undo, back, image, seed, feed, end, street, law ===== -/
section T79zt
variable {I J K : Nat → Nat → Int32} {L : Nat → Nat → Int64} {w1 w2 t n fa nd np nl len e : Nat} {cd fc fn : Nat → Nat} {W T : Nat → Int32} {c y val : Int32} {l : Int64} {ov : Option Value} {h' : aH}
set_option maxRecDepth 100000
theorem inB90 : ∀ m, m < 91 → 1 ≤ m → inB (nI m) 1 90 = true := by decide +kernel
theorem Sy.days (h : Sy I) (hps : PsN I n fa) (ln : LwN (I 421) nl) {x y : Int32} (u : ∀ q, 420 ≤ q → J q = I q) (hJ : (∃ m, 1 ≤ m ∧ m ≤ 90 ∧ x = nI m ∧ y = 0 ∧ (∀ q, (q < 235 ∨ 245 < q) → q ≠ 252 → q ≠ 253 → J q = reS I n fa q) ∧ Sd J 235 (dsW false cd fc fn nl (I 421) m) ∧ Lg J 235 (dsW false cd fc fn nl (I 421) m)) ∨ (inB x 1 90 = false ∧ y = 1 ∧ J = I)) (hv : ∃ z, ov = some (.int z) ∧ ((inB x 1 90 = false ∧ h' = hp (up2 (up2 J 420 0 0) 420 0 1) L w1 w2 t) ∨ ∃ m, 1 ≤ m ∧ m ≤ 90 ∧ x = nI m ∧ ∃ K, h' = hp K L w1 w2 t ∧ (∀ q, q ≠ 421 → q ≠ 428 → q ≠ 429 → K q = remH (up2 J 420 0 0) n q) ∧ K 421 = dsW false cd fc fn nl (I 421) m)) : ∃ z K, ov = some (.int z) ∧ h' = hp K L w1 w2 t ∧ Sy K ∧ K 420 0 = y := by
  obtain ⟨z, rfl, hv⟩ := hv
  rcases hJ with ⟨m, m1, m2, rfl, rfl, f, D, G⟩ | ⟨c, rfl, rfl⟩
  · rcases hv with ⟨c, _⟩ | ⟨m', p1, p2, ex, K, rfl, g, e21⟩
    · rw [inB90 m (by omega) m1] at c
      cases c
    · obtain rfl := nI_inj (by omega) (by omega) ex
      have ok : DsOk nl (I 421) (dsW false cd fc fn nl (I 421) m) := dsW_ok ⟨h.nm.2.2, rfl, rfl, ln, rfl, fun _ _ => rfl⟩ m
      refine ⟨z, K, rfl, rfl, Sy.of (n := n) (fa := fa) h (Sim.days h.sim hps ok f D G g e21) (fun q g1 g2 g3 g4 => ?_) ?_ ?_ ?_, ?_⟩
      · rw [g q (by omega) (by omega) (by omega), remH_row (by omega) (by omega), up2_row (by omega)]
        exact f q g2 g3 g4
      · rw [g 426 (by decide) (by decide) (by decide), remH_row (by decide) (by decide), up2_row (by decide), u 426 (by decide)]
      · rw [g 420 (by decide) (by decide) (by decide), remH_el (by decide), up2_ne (by decide), u 420 (by decide)]
      · rw [g 420 (by decide) (by decide) (by decide), remH_el (by decide), up2_ne (by decide), u 420 (by decide)]
      · rw [g 420 (by decide) (by decide) (by decide), remH_el (by decide), up2_at]
  · rcases hv with ⟨_, rfl⟩ | ⟨m', p1, p2, rfl, _⟩
    · exact ⟨z, _, rfl, rfl, h.u (Fm.up (Fm.up Fm.rf rfl) rfl), up2_at⟩
    · rw [inB90 m' (by omega) p1] at c
      cases c
/-- a mutator of the class and what the reference did -/
theorem Sy.mt (h : Sy I) (m : Mt I J) (e3 : J 200 3 = I 200 3) (g : ∀ q, (q < 420 ∨ q = 426) → K q = J q) (e9 : K 420 9 = J 420 9) (e14 : K 420 14 = J 420 14) (hs : Sim K) : Sy K := by
  obtain ⟨⟨h1, h2⟩, ⟨_, h6⟩, l, h4, h5, h7⟩ := h
  have r4 := m.1 420 (by decide)
  refine ⟨⟨(m.2.2.2.1 h1).rows fun q hq => g q (Or.inl hq), (h2.m m).r g⟩, ⟨hs, ?_⟩, l, h4, ?_, ?_⟩
  · rw [g 200 (by decide), e3, e14, r4]
    exact h6
  · rw [g 201 (by decide)]
    exact m.2.1.trans h5
  · rw [e9, r4]
    exact h7
theorem Mt_unS : Mt I (unS I n fa) := by
  unfold unS
  by_cases e : n = 0
  · rw [if_pos e]
    exact Mt.rf
  · rw [if_neg e]
    exact Mt.tr (Mt.of (Fm.up Fm.rf rfl)) (Mt.cpA (by decide) (stp_past _ (Nat.mod_lt _ (by decide))) (by omega))
theorem unS_el {k : Nat} (hk : k ≠ 13) : unS I n fa 200 k = I 200 k := by
  unfold unS
  by_cases e : n = 0
  · rw [if_pos e]
  · rw [if_neg e, cpS_out (by omega), up2_ne (Or.inr hk)]
theorem unS_hi {q : Nat} (hq : 420 ≤ q) : unS I n fa q = I q := by
  unfold unS
  by_cases e : n = 0
  · rw [if_pos e]
  · rw [if_neg e, cpS_out (by omega), up2_row (by omega)]
theorem unH_row {q : Nat} (h1 : q ≠ 420) (h2 : q ≠ 421) : unH I n q = I q := by
  unfold unH
  by_cases e : n = 0
  · rw [if_pos e, up2_row h1]
  · rw [if_neg e, cpR_row h2, up2_row h1, up2_row h1]
theorem unH_el {k : Nat} (h1 : k ≠ 0) (h2 : k ≠ 7) : unH I n 420 k = I 420 k := by
  unfold unH
  by_cases e : n = 0
  · rw [if_pos e, up2_ne (Or.inr h1)]
  · rw [if_neg e, cpR_row (by decide), up2_ne (Or.inr h2), up2_ne (Or.inr h1)]
theorem Sy.undo (h : Sy I) (hps : PsN I n fa) : Sy (unH (unS I n fa) n) := h.mt Mt_unS (unS_el (by decide)) (fun q hq => unH_row (by omega) (by omega)) (unH_el (by decide) (by decide)) (unH_el (by decide) (by decide)) (h.sim.undo hps)
theorem Mt_bkS : Mt I (bkS I) := by
  unfold bkS
  exact Mt.fm (Mt.fm (Mt.cpA (by decide) (by decide) (by decide)) (Fm.cl (Fm.rf (s := sM)) (by decide) Fm_l246)) (Fm.up Fm.rf rfl)
theorem bkH_row {q : Nat} (h1 : q ≠ 420) (h2 : q ≠ 421) : bkH I q = I q := by
  unfold bkH
  rw [up2_row h1, cpR_row h2, up2_row h1]
theorem bkH_el {k : Nat} (h1 : k ≠ 0) (h2 : k ≠ 7) : bkH I 420 k = I 420 k := by
  unfold bkH
  rw [up2_ne (Or.inr h2), cpR_row (by decide), up2_ne (Or.inr h1)]
theorem bkS_el {k : Nat} (hk : k ≠ 13) : bkS I 200 k = I 200 k := by
  unfold bkS cpL
  rw [up2_ne (Or.inr hk), up2_row (by decide), cpS_out (by omega), cpS_out (by omega)]
theorem Sy.im6 (h : Sy I) : I 200 10 = 0 ↔ I 420 6 = 0 := by
  rcases h.sim.2.2.1 with ⟨a, b⟩ | ⟨a, b, _⟩
  · exact ⟨fun _ => b, fun _ => a⟩
  · exact ⟨fun z => absurd z a, fun z => absurd z b⟩
theorem bkS_6 : (if I 200 10 = 0 then I else bkS I) 420 6 = I 420 6 := by
  by_cases c : I 200 10 = 0
  · rw [if_pos c]
  · rw [if_neg c]
    exact congrFun (Mt_bkS.1 420 (by decide)) 6
theorem Sy.back (h : Sy I) : Sy (if (if I 200 10 = 0 then I else bkS I) 420 6 = 0 then up2 (if I 200 10 = 0 then I else bkS I) 420 0 0 else bkH (if I 200 10 = 0 then I else bkS I)) := by
  rw [bkS_6]
  by_cases c : I 200 10 = 0
  · rw [if_pos c, if_pos (h.im6.mp c)]
    exact h.u (Fm.up Fm.rf rfl)
  · obtain ⟨c6, hs⟩ := h.sim.back c
    rw [if_neg c, if_neg c6]
    exact h.mt Mt_bkS (bkS_el (by decide)) (fun q hq => bkH_row (by omega) (by omega)) (bkH_el (by decide) (by decide)) (bkH_el (by decide) (by decide)) hs
theorem imS_hi {q : Nat} (hq : 420 ≤ q) : imS I q = I q := by
  unfold imS cpL
  rw [up2_row (by omega), up2_row (by omega), cpS_out (by omega), cpS_out (by omega)]
theorem imH_el {k : Nat} (h1 : k ≠ 0) (h2 : k ≠ 6) : imH I 420 k = I 420 k := by
  unfold imH
  rw [up2_ne (Or.inr h2), cpR_row (by decide), up2_ne (Or.inr h1)]
theorem Sy.image (h : Sy I) : Sy (imH (imS I)) := by
  have hs := h.sim.image
  have m : Mt I (cpL (cpS I 268 235 11) 279 246) := Mt.fm (Mt.cpA (by decide) (by decide) (by decide)) (Fm.cl (Fm.rf (s := sM)) (by decide) Fm_l279)
  obtain ⟨⟨h1, h2⟩, ⟨_, h6⟩, l, h4, h5, h7⟩ := h
  have row : ∀ q, q ≠ 420 → q ≠ 422 → q ≠ 200 → imH (imS I) q = cpL (cpS I 268 235 11) 279 246 q := fun q g1 g2 g3 => by
    rw [imH_row g2 g1]
    unfold imS
    rw [up2_row g3]
  have r4 : ∀ k, k ≠ 0 → k ≠ 6 → imH (imS I) 420 k = I 420 k := fun k g1 g2 => by
    rw [imH_el g1 g2]
    unfold imS
    rw [up2_row (by decide), m.1 420 (by decide)]
  refine ⟨⟨fun a ha g2 => ?_, ?_⟩, ⟨hs, ?_⟩, l, h4, ?_, (r4 9 (by decide) (by decide)).trans h7⟩
  · have := stp_hi a ha
    rw [row a (by omega) (by omega) (by omega)]
    exact m.2.2.2.1 h1 a ha g2
  · exact (h2.m m).eq (row 426 (by decide) (by decide) (by decide)) (row 202 (by decide) (by decide) (by decide)) (congrFun (row 203 (by decide) (by decide) (by decide)) 1) (congrFun (row 220 (by decide) (by decide) (by decide)) 1)
  · rw [r4 14 (by decide) (by decide), imH_row (by decide) (by decide)]
    unfold imS cpL
    rw [up2_ne (by decide), up2_row (by decide), cpS_out (by omega), cpS_out (by omega)]
    exact h6
  · rw [row 201 (by decide) (by decide) (by decide)]
    exact m.2.1.trans h5
theorem Sy.seed (h : Sy I) {x : Int32} : Sy (up2 (up2 (up2 I 235 15 x) 420 0 0) 421 10 x) := Sy.mt (J := up2 I 235 15 x) h (Mt.of (Fm.up Fm.rf rfl)) (congrFun (up2_row (p := 235) (q := 200) (by decide)) 3) (fun q hq => by rw [up2_row (by omega), up2_row (by omega)]) (by rw [up2_row (by decide), up2_ne (by decide)]) (by rw [up2_row (by decide), up2_ne (by decide)]) h.sim.seed
theorem Sim.fr (h : Sim I) (g : ∀ q, q ≠ 201 → q ≠ 202 → q ≠ 420 → q ≠ 426 → q ≠ 427 → J q = I q) (g6 : J 420 6 = I 420 6) (g7 : J 420 7 = I 420 7) : Sim J := by
  have r2 := g 200 (by decide) (by decide) (by decide) (by decide) (by decide)
  exact h.eq (fun q _ _ _ => g q (by omega) (by omega) (by omega) (by omega) (by omega)) (g 421 (by decide) (by decide) (by decide) (by decide) (by decide)) (g 422 (by decide) (by decide) (by decide) (by decide) (by decide)) (g 425 (by decide) (by decide) (by decide) (by decide) (by decide)) (congrFun r2 10) (congrFun r2 12) (congrFun r2 13) g6 g7
/-- between both ends of a tape -/
def Se (l : Nat) (x : Int32) (b : Bool) (J : Nat → Nat → Int32) : Prop := (CI J ∧ Tp J) ∧ (Sim J ∧ J 200 3 = J 420 14) ∧ l ≤ 400 ∧ J 420 9 = nI l ∧ J 201 1 = (if b then x else nI l) ∧ b = endB x (nI l)
theorem Se.mk {l : Nat} {x : Int32} (h : Sy I) (hl : l ≤ 400) (e1 : I 201 1 = nI l) (e2 : I 420 9 = nI l) : Se l x (endB x (nI l)) (if endB x (I 201 1) = true then up2 I 201 1 x else I) := by
  obtain ⟨⟨h1, ht⟩, ⟨hs, h6⟩, -⟩ := h
  rw [e1]
  cases hb : endB x (nI l) with
  | false =>
    exact ⟨⟨h1, ht⟩, ⟨hs, h6⟩, hl, e2, e1, hb.symm⟩
  | true =>
    rw [if_pos rfl]
    exact ⟨⟨fun a ha g2 => by rw [up2_row (by intro z; subst z; exact absurd ha (by decide))]; exact h1 a ha g2, ht.f fun q g1 _ => up2_row g1⟩, ⟨hs.fr (fun q g1 _ _ _ _ => up2_row g1) (congrFun (up2_row (by decide)) 6) (congrFun (up2_row (by decide)) 7), by rw [up2_row (by decide), up2_row (by decide)]; exact h6⟩, hl, (congrFun (up2_row (by decide)) 9).trans e2, up2_at, hb.symm⟩
theorem Se.sy {l : Nat} {x : Int32} {b : Bool} (h : Se l x b J) : Sy (if endB x (J 420 9) = true then up2 (up2 J 420 0 0) 420 9 x else up2 J 420 0 0) := by
  obtain ⟨⟨h1, ht⟩, ⟨hs, hf⟩, h3, h4, h5, h6⟩ := h
  rw [h4]
  cases hb : endB x (nI l) with
  | false =>
    rw [h6, hb] at h5
    rw [if_neg (by decide)]
    exact ⟨⟨h1.rows fun q hq => up2_row (by omega), ht.f fun q _ g => up2_row g⟩, ⟨hs.thr, by rw [up2_row (by decide), up2_ne (Or.inr (by decide))]; exact hf⟩, l, h3, (congrFun (up2_row (by decide)) 1).trans h5, (up2_ne (Or.inr (by decide))).trans h4⟩
  | true =>
    rw [h6, hb] at h5
    rw [if_pos rfl]
    obtain ⟨g1, g2⟩ := of_decide_eq_true hb
    obtain ⟨m, -, hm, rfl⟩ := inB_nI (a := 0) (b := l) ⟨by decide, by omega⟩ (le0 (Int32.not_lt.mp g1) g2)
    exact ⟨⟨h1.rows fun q hq => by rw [up2_row (by omega), up2_row (by omega)], ht.f fun q _ g => by rw [up2_row g, up2_row g]⟩, ⟨hs.fr (fun q _ _ g _ _ => by rw [up2_row g, up2_row g]) (by rw [up2_ne (by decide), up2_ne (by decide)]) (by rw [up2_ne (by decide), up2_ne (by decide)]), by rw [up2_row (by decide), up2_row (by decide), up2_ne (by decide), up2_ne (by decide)]; exact hf⟩, m, by omega, by rw [up2_row (by decide), up2_row (by decide)]; exact h5, up2_at⟩
theorem fdH_row {l q : Nat} {x1 x2 x3 x4 x5 : Int32} (h1 : q ≠ 201) (h2 : q ≠ 202) : fdH I l x1 x2 x3 x4 x5 q = I q := by
  unfold fdH
  rw [apH_row h1 h2, apH_row h1 h2, apH_row h1 h2, apH_row h1 h2, apH_row h1 h2]
/-- between both feeds -/
def Sf (l : Nat) (y1 y2 y3 y4 y5 : Int32) (J : Nat → Nat → Int32) : Prop := (CI J ∧ (J 203 1 = 14 ∧ J 220 1 = 12 ∧ BtT (J 426) ∧ J 202 = (if l + 20 ≤ 400 then tpF (J 426) l 20 y1 y2 y3 y4 y5 else J 426))) ∧ (Sim J ∧ J 200 3 = J 420 14) ∧ l ≤ 400 ∧ J 201 1 = (if l + 20 ≤ 400 then nI (l + 20) else nI l) ∧ J 420 9 = nI l
theorem Sf.mk {l : Nat} {x1 x2 x3 x4 x5 : Int32} (h : Sy I) (hl : l ≤ 400) (e1 : I 201 1 = nI l) (e2 : I 420 9 = nI l) : Sf l x1 x2 x3 x4 x5 (if l + 20 ≤ 400 then fdH I l x1 x2 x3 x4 x5 else I) := by
  obtain ⟨⟨h1, t1, t2, t3, t4⟩, ⟨hs, h6⟩, -⟩ := h
  by_cases c : l + 20 ≤ 400
  · rw [if_pos c]
    have r : ∀ q, q ≠ 201 → q ≠ 202 → fdH I l x1 x2 x3 x4 x5 q = I q := fun q g1 g2 => fdH_row g1 g2
    refine ⟨⟨fun a ha g2 => ?_, ?_, ?_, ?_, ?_⟩, ⟨hs.fr (fun q g1 g2 _ _ _ => r q g1 g2) (congrFun (r 420 (by decide) (by decide)) 6) (congrFun (r 420 (by decide) (by decide)) 7), ?_⟩, hl, ?_, (congrFun (fdH_row (by decide) (by decide)) 9).trans e2⟩
    · rw [fdH_row (by intro z; subst z; exact absurd ha (by decide)) (by intro z; subst z; exact absurd ha (by decide))]
      exact h1 a ha g2
    · rw [fdH_row (by decide) (by decide)]
      exact t3
    · rw [fdH_row (by decide) (by decide)]
      exact t4
    · rw [fdH_row (by decide) (by decide), t1]
      exact t2
    · rw [if_pos c, fdH_202, fdH_row (q := 426) (by decide) (by decide), t1]
    · rw [r 200 (by decide) (by decide), r 420 (by decide) (by decide)]
      exact h6
    · rw [if_pos c]
      unfold fdH
      exact apH_len
  · rw [if_neg c]
    exact ⟨⟨h1, t3, t4, by rw [t1]; exact t2, by rw [if_neg c]; exact t1.symm⟩, ⟨hs, h6⟩, hl, by rw [if_neg c]; exact e1, e2⟩
theorem Sf.sy {l : Nat} {y1 y2 y3 y4 y5 : Int32} {g : Nat → Int32} (h : Sf l y1 y2 y3 y4 y5 J) : Sy (if l + 20 ≤ 400 then up2 (upr (upr (up2 J 420 0 0) 427 g) 426 (tpF (J 426) l 20 y1 y2 y3 y4 y5)) 420 9 (nI (l + 20)) else up2 J 420 0 0) := by
  obtain ⟨⟨h1, t1, t2, t3, t4⟩, ⟨hs, h6⟩, h3, h4, h5⟩ := h
  by_cases c : l + 20 ≤ 400
  · rw [if_pos c]
    rw [if_pos c] at h4 t4
    have e0 : ∀ q, q ≠ 420 → q ≠ 426 → q ≠ 427 → up2 (upr (upr (up2 J 420 0 0) 427 g) 426 (tpF (J 426) l 20 y1 y2 y3 y4 y5)) 420 9 (nI (l + 20)) q = J q := fun q g1 g2 g3 => by
      rw [up2_row g1, upr_row g2, upr_row g3, up2_row g1]
    have e1 : ∀ k, k ≠ 9 → k ≠ 0 → up2 (upr (upr (up2 J 420 0 0) 427 g) 426 (tpF (J 426) l 20 y1 y2 y3 y4 y5)) 420 9 (nI (l + 20)) 420 k = J 420 k := fun k hk h0 => by
      rw [up2_ne (Or.inr hk), upr_row (by decide), upr_row (by decide), up2_ne (Or.inr h0)]
    have e6 : up2 (upr (upr (up2 J 420 0 0) 427 g) 426 (tpF (J 426) l 20 y1 y2 y3 y4 y5)) 420 9 (nI (l + 20)) 426 = tpF (J 426) l 20 y1 y2 y3 y4 y5 := by
      rw [up2_row (by decide)]
      exact upr_at
    exact ⟨⟨h1.rows fun q hq => e0 q (by omega) (by omega) (by omega), e6.trans (t4.symm.trans (e0 202 (by decide) (by decide) (by decide)).symm), by rw [e0 202 (by decide) (by decide) (by decide), t4]; exact tpF_bt t3, by rw [e0 203 (by decide) (by decide) (by decide)]; exact t1, by rw [e0 220 (by decide) (by decide) (by decide)]; exact t2⟩, ⟨hs.fr (fun q _ _ g3 g4 g5 => e0 q g3 g4 g5) (e1 6 (by decide) (by decide)) (e1 7 (by decide) (by decide)), by rw [e0 200 (by decide) (by decide) (by decide), e1 14 (by decide) (by decide)]; exact h6⟩, l + 20, c, (congrFun (e0 201 (by decide) (by decide) (by decide)) 1).trans h4, up2_at⟩
  · rw [if_neg c]
    rw [if_neg c] at h4 t4
    exact ⟨⟨h1.rows fun q hq => up2_row (by omega), by rw [up2_row (by decide), up2_row (by decide)]; exact t4.symm, by rw [up2_row (by decide), t4]; exact t3, by rw [up2_row (by decide)]; exact t1, by rw [up2_row (by decide)]; exact t2⟩, ⟨hs.thr, by rw [up2_row (by decide), up2_ne (by decide)]; exact h6⟩, l, h3, (congrFun (up2_row (by decide)) 1).trans h4, (up2_ne (Or.inr (by decide))).trans h5⟩
/-- the class's street, read or not -/
def StC (r : SR) (I J : Nat → Nat → Int32) (y : Int32) (l : Int64) : Prop :=
  (r.1 = true ∧ ¬ I 421 2 = 12 ∧ y = 0 ∧ l = (I 421 2 + 1).toInt64 ∧ J 200 3 = -1 ∧ J 200 13 = 0 ∧ Sd J 235 (ud r.2.2 2 (I 421 2 + 1))) ∨
  (r.1 = false ∧ y = 1 ∧ J 200 3 = nI r.2.1 ∧ J 200 13 = I 200 13 ∧ Sd J 235 (I 421)) ∨
  (r.1 = true ∧ I 421 2 = 12 ∧ y = 2 ∧ J 200 3 = -1 ∧ J 200 13 = I 200 13 ∧ Sd J 235 (I 421))
theorem Sy.street (h : Sy I) (hci : CI J) (f : Fm sJ I J) (c1 : J 201 1 = 0) (hC : StC (strP T e (I 421)) I J y l) (us : Us nd np J K) (k2 : K 422 = J 422) (k5 : K 425 = J 425) (hN : StN (strP T e (I 421)) J K ov) : Sy K ∧ ∃ z, ov = some (.int z) ∧ K 420 0 = y ∧ (y = 0 → l = z.toInt64) := by
  have e21 : J 421 = I 421 := funext fun k => f 421 k (sJ_hi (by decide))
  have g : ∀ q, q < 420 → K q = J q := fun q hq => us.1 q (Or.inl hq)
  have g6 : K 420 6 = J 420 6 := us.2.2.1
  have all : Sim K → K 200 3 = K 420 14 → Sy K := fun hs hf => ⟨⟨hci.rows g, h.1.2.eq ((us.1 426 (Or.inr rfl)).trans (funext fun k => f 426 k (sJ_hi (by decide)))) ((g 202 (by decide)).trans (funext fun k => f 202 k rfl)) ((congrFun (g 203 (by decide)) 1).trans (f 203 1 rfl)) ((congrFun (g 220 (by decide)) 1).trans (f 220 1 rfl))⟩, ⟨hs, hf⟩, 0, by decide, (congrFun (g 201 (by decide)) 1).trans c1, us.2.1⟩
  have g3 : K 200 3 = J 200 3 := congrFun (g 200 (by decide)) 3
  unfold StN at hN
  rw [e21] at hN
  rcases hC with ⟨a1, a2, a3, a4, a5, a6, a7⟩ | ⟨a1, a3, a5, a6, a7⟩ | ⟨a1, a2, a3, a5, a6, a7⟩
  · rcases hN with ⟨b1, _⟩ | ⟨_, b2, _⟩ | ⟨b1, b2, b3, b4, b5, b6, b7⟩
    · rw [a1] at b1
      cases b1
    · exact absurd b2 a2
    · exact ⟨all (h.sim.street a1 a2 f a6 a7 g g6 k2 b6 b7) (by rw [g3, a5, b5]), _, b3, by rw [b4, a3], fun _ => a4⟩
  · rcases hN with ⟨b1, b3, b4, b5, b6, b7⟩ | ⟨b1, _⟩ | ⟨b1, _⟩
    · exact ⟨all (h.sim.streetNo f a6 a7 g g6 k2 k5 (b6.trans e21.symm) b7) (by rw [g3, a5, b5]), _, b3, by rw [b4, a3], fun z => by rw [a3] at z; exact absurd z (by decide)⟩
    · rw [a1] at b1
      cases b1
    · rw [a1] at b1
      cases b1
  · rcases hN with ⟨b1, _⟩ | ⟨b1, b2, b3, b4, b5, b6, b7⟩ | ⟨_, b2, _⟩
    · rw [a1] at b1
      cases b1
    · exact ⟨all (h.sim.streetNo f a6 a7 g g6 k2 k5 (b6.trans e21.symm) b7) (by rw [g3, a5, b5]), _, b3, by rw [b4, a3], fun z => by rw [a3] at z; exact absurd z (by decide)⟩
    · exact absurd a2 b2
/-- the class's law, read or not -/
def LaC (r : LRs) (I J : Nat → Nat → Int32) (y : Int32) (l : Int64) : Prop :=
  (r.1 = true ∧ y = 0 ∧ l = (nI r.2.2.2.length).toInt64 ∧ LwC r J ∧ Fm sLw I J ∧ r.2.2.2.length ≤ 12 ∧ r.2.2.1.length ≤ 400) ∨
  (r.1 = false ∧ y = 1 ∧ J 200 3 = nI r.2.1 ∧ Fm sLf I J)
theorem Sy.law (h : Sy I) (m : Mt0 I J) (hC : LaC (lawP T e) I J y l) (us : Us nd np J K) (k0 : K 420 0 = (if (lawP T e).1 = true then 0 else 1)) (k14 : K 420 14 = (if (lawP T e).1 = true then -1 else nI (lawP T e).2.1)) (g : ∀ q, q ≠ 420 → q ≠ 421 → K q = J q) (lj : LwJ (lawP T e) J K) (k7 : (lawP T e).1 = true → K 420 7 = 0 ∧ ∀ k, k < 335 → k ≠ 3 → K 421 k = J 421 k) (k8 : (lawP T e).1 = false → K 420 7 = J 420 7) : Sy K ∧ K 420 0 = y := by
  obtain ⟨m1, m2, _, m4, m5, m6, m7⟩ := Mt0.all m
  have all : Sim K → K 200 3 = K 420 14 → Sy K := fun hs hf => ⟨⟨(m4 h.1.1).rows fun q hq => g q (by omega) (by omega), h.1.2.eq ((g 426 (by decide) (by decide)).trans (m1 426 (by decide))) ((g 202 (by decide) (by decide)).trans m5) ((congrFun (g 203 (by decide) (by decide)) 1).trans m6) ((congrFun (g 220 (by decide) (by decide)) 1).trans m7)⟩, ⟨hs, hf⟩, 0, by decide, (congrFun (g 201 (by decide) (by decide)) 1).trans m2, us.2.1⟩
  have g3 : K 200 3 = J 200 3 := congrFun (g 200 (by decide) (by decide)) 3
  rcases hC with ⟨a1, a2, a3, a4, a5, a6, a7⟩ | ⟨a1, a2, a3, a4⟩
  · obtain ⟨k7a, k7b⟩ := k7 a1
    rw [if_pos a1] at k0 k14
    exact ⟨all (h.sim.law a5 a4 a6 a7 (lawP_ok a1) (lawP_nb a1) us g k7a k7b lj a1) (by rw [g3, k14]; exact a4.1), by rw [k0, a2]⟩
  · rw [if_neg (by rw [a1]; decide)] at k0 k14
    exact ⟨all (h.sim.lawNo a4 us g (k8 a1) lj a1) (by rw [g3, k14, a3]), by rw [k0, a2]⟩
end T79zt
end
section
/-! ===== questions exactly, on both sides, told by one row ===== -/
section T79zv
variable {S : aS} {I J : Nat → Nat → Int32} {L : Nat → Nat → Int64} {w1 w2 t d : Nat} {W : Nat → Int32} {c y val k x1 x2 ov : Int32} {l : Int64}
set_option maxRecDepth 100000
theorem Sy.d3 (h : Sy I) : I 235 3 = nI (dn (I 421)) := (Sd.fd h.nm.1 (f := 3) (g := 1) (by decide)).trans h.nm.2.2.1.2.2.2
theorem Sy.d0 (h : Sy I) : I 235 0 = nI (pn (I 421)) := (Sd.fd h.nm.1 (f := 0) (g := 0) (by decide)).trans h.nm.2.2.1.2.2.1
theorem Sy.n12 (h : Sy I) : dn (I 421) ≤ 12 := h.nm.2.2.1.2.1
theorem Sy.n6 (h : Sy I) : pn (I 421) ≤ 6 := h.nm.2.2.1.1
theorem Sy.s0 (h : Sy I) : SO (dn (I 421)) (pn (I 421)) (up2 I 420 0 0 421) := by
  rw [up2_row (by decide)]
  exact h.ri.so
/-- a question's answer: the class, what it throws; the reference -/
def Qc (I : Nat → Nat → Int32) (c val : Int32) (L : Nat → Nat → Int64) (w1 w2 t : Nat) : Option Value → aH → Prop := fun v h' => c = 0 ∧ v = some (.int val) ∧ ∃ J, h' = hp J L w1 w2 t ∧ Fm sQ I J
def Xc (I : Nat → Nat → Int32) (c : Int32) (ks : List (Int32 × Nat)) (L : Nat → Nat → Int64) (w1 w2 : Nat) : String → aH → Prop := fun E h' => (∃ x ∈ ks, c = x.1 ∧ E = exN x.2) ∧ ∃ J, h' = hp J L w1 w2 0 ∧ Fm sQ I J
def Qr (I : Nat → Nat → Int32) (c val : Int32) (L : Nat → Nat → Int64) (w1 w2 t : Nat) : Option Value → aH → Prop := fun v h' => ∃ y K, v = some (.int y) ∧ h' = hp K L w1 w2 t ∧ Fm sV I K ∧ K 420 0 = c ∧ (c = 0 → y = val)
def AcQ (c y : Int32) (l : Int64) (val : Int32) : Prop := (c = 0 ∧ y = 0 ∧ l = val.toInt64) ∨ (¬ c = 0 ∧ y = c)
theorem AcQ.st (h : AcQ c y l val) : y = c := by
  rcases h with ⟨c0, y0, _⟩ | ⟨_, y0⟩
  · rw [c0, y0]
  · exact y0
theorem Qc.yes (hc : c = 0) (hv : ov = val) : Qc I c val L w1 w2 t (some (.int ov)) (hp I L w1 w2 t) := ⟨hc, by rw [hv], I, rfl, Fm.rf⟩
theorem Qc.yesJ (hc : c = 0) (hv : ov = val) (f : Fm sQ I J) : Qc I c val L w1 w2 t (some (.int ov)) (hp J L w1 w2 t) := ⟨hc, by rw [hv], J, rfl, f⟩
theorem Xc.mk {ks : List (Int32 × Nat)} {E : String} (x : Int32 × Nat) (hx : x ∈ ks) (hc : c = x.1) (hE : E = exN x.2) : Xc I c ks L w1 w2 E (hp I L w1 w2 0) := ⟨⟨x, hx, hc, hE⟩, I, rfl, Fm.rf⟩
theorem Qr.no (hc : c = k) (hk : ¬ k = 0) : Qr I c val L w1 w2 t (some (.int 0)) (hp (up2 (up2 I 420 0 0) 420 0 k) L w1 w2 t) := ⟨0, _, rfl, rfl, Fm.up (Fm.up Fm.rf rfl) rfl, up2_at.trans hc.symm, fun z => absurd (hc.symm.trans z) hk⟩
theorem Qr.yes (hc : c = 0) (hv : ov = val) : Qr I c val L w1 w2 t (some (.int ov)) (hp (up2 I 420 0 0) L w1 w2 t) := ⟨ov, _, rfl, rfl, Fm.up Fm.rf rfl, up2_at.trans hc.symm, fun _ => hv⟩
/-! can -/
theorem fq_can (h : Sy I) : SpE S m_X11_can 18 [.ref 200] (hp I L w1 w2 t) (some (.int (bs (dn (I 421)) (canR (dn (I 421)) (I 421))))) (hp I L w1 w2 t) := by
  refine SpE_of ok_X11_can rfl rfl ?_
  show AW S m_X11_can 18 _ _ 0 0 0 [some (.ref 200)] [] (hp I L w1 w2 t)
  refine a_l0 rfl rfl rfl ?_
  refine a_getq rfl gfX11_37_11 rfl (rfl) ?_
  refine a_eV1 rfl lX11_220 mo_X5_canBits (sp_X5_canBits (nd := dn (I 421)) (a := 235) (by decide) h.d3 h.n12) rfl rfl rfl ⟨5, _, rfl, rfl, rfl⟩ rfl ?_
  rw [can_same h.nm.1 h.nm.2.2]
  exact a_iret rfl rfl ⟨rfl, rfl⟩
theorem hq_can (h : Sy I) : SpE S m_X12_can 19 [.ref 420] (hp I L w1 w2 t) (some (.int (bs (dn (I 421)) (canR (dn (I 421)) (I 421))))) (hp (up2 I 420 0 0) L w1 w2 t) := by
  refine SpE_of ok_X12_can rfl rfl ?_
  show AW S m_X12_can 19 _ _ 0 0 0 [some (.ref 420)] [] (hp I L w1 w2 t)
  refine a_l0 rfl rfl rfl ?_
  refine a_s rfl rfl ?_
  refine a_puti rfl pfX12_3_12 rfl ?_
  refine a_l0 rfl rfl rfl ?_
  refine a_eV1 rfl lX12_286 mo_X12_canOnes (sp_X12_canOnes h.n12 h.s0.du h.s0.l) rfl rfl rfl ⟨12, _, rfl, rfl, rfl⟩ rfl ?_
  rw [up2_row (p := 420) (q := 421) (by decide)]
  exact a_iret rfl rfl ⟨rfl, rfl⟩
/-! older -/
def vOl (x : Int32) : Int32 := if inB x 0 99 = true then 0 else 1
theorem fq_older (h : Sy I) : Sp S m_X11_older 17 1 6 [.ref 200, .int x1] (hp I L w1 w2 t) (Qc I (vOl x1) (bcF (oldF (dn (I 421)) (vd (I 421) 5) (vd (I 421) 2) x1)) L w1 w2 t) (Xc I (vOl x1) [(1, 1)] L w1 w2) := by
  refine Sp_of ok_X11_older rfl rfl ?_
  show AW S m_X11_older 17 _ _ 1 6 0 [some (.ref 200), some (.int x1)] [] (hp I L w1 w2 t)
  refine a_l1 rfl rfl rfl ?_
  refine a_s rfl rfl ?_
  refine a_s rfl rfl ?_
  refine a_callS rfl lX11_250 mo_X11_needNumber (f_needNumber) rfl rfl rfl rfl (fun v' h' hv => ?_) (fun E h' ex => ?_)
  rotate_left
  · obtain ⟨rfl, hz, rfl⟩ := ex
    exact Xc.mk (1, 1) List.mem_cons_self (if_neg (by rw [hz]; exact Bool.false_ne_true)) rfl
  obtain ⟨rfl, hz, rfl⟩ := hv
  refine a_l0 rfl rfl rfl ?_
  refine a_getq rfl gfX11_37_11 rfl (rfl) ?_
  refine a_l1 rfl rfl rfl ?_
  refine a_eV1 rfl lX11_307 mo_X5_olderThan (sp_X5_olderThan (nd := dn (I 421)) (a := 235) (by decide) h.d3 h.n12) rfl rfl rfl ⟨5, _, rfl, rfl, rfl⟩ rfl ?_
  rw [old_same h.nm.1 h.nm.2.2]
  refine a_eS1 rfl lX11_261 mo_J6_bitCount_0f7a4 (sp_bitCount) rfl rfl rfl rfl ?_
  exact a_iret rfl rfl (Qc.yes (if_pos hz) rfl)
theorem hq_older (h : Sy I) : Sp S m_X12_older 17 0 0 [.ref 420, .int x1] (hp I L w1 w2 t) (Qr I (vOl x1) (bcF (oldF (dn (I 421)) (vd (I 421) 5) (vd (I 421) 2) x1)) L w1 w2 t) nX := by
  refine Sp_of ok_X12_older rfl rfl ?_
  show AW S m_X12_older 17 _ _ 0 0 0 [some (.ref 420), some (.int x1)] [] (hp I L w1 w2 t)
  refine a_l0 rfl rfl rfl ?_
  refine a_s rfl rfl ?_
  refine a_puti rfl pfX12_3_12 rfl ?_
  refine a_l0 rfl rfl rfl ?_
  refine a_l1 rfl rfl rfl ?_
  refine a_s rfl rfl ?_
  refine a_s rfl rfl ?_
  refine a_eS1 rfl lX12_70 mo_X12_in sp_X12_in rfl rfl rfl rfl ?_
  obtain ⟨z, hz⟩ : ∃ z, inB x1 0 99 = z := ⟨_, rfl⟩
  rw [hz]
  cases z with
  | false =>
    refine a_if_ne rfl (fun c => absurd rfl c) (fun _ => ?_)
    refine a_s rfl rfl ?_
    refine a_goto rfl ?_
    refine a_s rfl rfl ?_
    refine a_eV1 rfl lX12_243 mo_X12_throwsIf (h_throwsIf (z := true)) rfl rfl rfl ⟨12, _, rfl, rfl, rfl⟩ rfl ?_
    rw [if_pos rfl]
    refine a_if_eq rfl (fun c => absurd c (by decide)) (fun _ => ?_)
    refine a_s rfl rfl ?_
    refine a_goto rfl ?_
    exact a_iret rfl rfl (Qr.no (if_neg (by rw [hz]; exact Bool.false_ne_true)) (by decide))
  | true =>
    refine a_if_ne rfl (fun _ => ?_) (fun c => absurd c (by decide))
    refine a_s rfl rfl ?_
    refine a_s rfl rfl ?_
    refine a_eV1 rfl lX12_243 mo_X12_throwsIf (h_throwsIf (z := false)) rfl rfl rfl ⟨12, _, rfl, rfl, rfl⟩ rfl ?_
    rw [if_neg Bool.false_ne_true]
    refine a_if_eq rfl (fun _ => ?_) (fun c => absurd rfl c)
    refine a_l0 rfl rfl rfl ?_
    refine a_l1 rfl rfl rfl ?_
    refine a_eV1 rfl lX12_429 mo_X12_olderOnes (sp_X12_olderOnes h.n12 h.s0.du) rfl rfl rfl ⟨12, _, rfl, rfl, rfl⟩ rfl ?_
    rw [up2_row (p := 420) (q := 421) (by decide)]
    refine a_eS1 rfl lX12_310 mo_J6_bitCount_0f7a4 (sp_bitCount) rfl rfl rfl rfl ?_
    exact a_iret rfl rfl (Qr.yes (if_pos hz) rfl)
/-! where -/
def vWh (nd : Nat) (x y : Int32) : Int32 := if inB x 0 (nI nd - 1) = true then (if inB y 0 300 = true then 0 else 2) else 1
theorem kerb_same {a : Nat} {x : Int32} (h : Sd I a W) (hG : Rg W) (hd : d < dn W) : kerbF (dn W) (I (a + 8)) (I (a + 5)) (I a 13) (nI d) x = whereR (dn W) W d x := by
  have h12 := hG.1.2.1
  have e13 : I a 13 = W 7 := Sd.fd h (by decide)
  obtain ⟨k7, k1, k9, e7⟩ := hG.2.1.2.2.2.2.1
  unfold kerbF whereR
  rw [place_same h hG hd, e13]
  by_cases cw : vd W 5 d = 0
  · have e : placeF (dn W) (vd W 5) (vd W 2) (nI d) = nI (cntF (dn W) (fun x => decide (vd W 5 x = 0 ∧ (vd W 2 x < vd W 2 d ∨ (vd W 2 x = vd W 2 d ∧ nI x < nI d))))) := pl_is h12 hd cw
    have hle := cntF_le (dn W) (fun x => decide (vd W 5 x = 0 ∧ (vd W 2 x < vd W 2 d ∨ (vd W 2 x = vd W 2 d ∧ nI x < nI d))))
    rw [if_neg (by rw [e]; exact nI_no (by omega)), if_pos (by rw [e7]; exact nI_leu k1 (by omega)), if_pos cw]
    generalize x / W 7 - placeF (dn W) (vd W 5) (vd W 2) (nI d) = v
    by_cases c0 : 0 ≤ v
    · rw [if_pos c0, if_pos c0]
      by_cases c1 : 16 < v
      · rw [if_pos c1, if_neg (fun z => Int32.lt_irrefl (Int32.lt_trans c1 z))]
      · rw [if_neg c1]
        by_cases c2 : v < 16
        · rw [if_pos c2]
        · rw [if_neg c2]
          exact Int32.le_antisymm (Int32.not_lt.mp c1) (Int32.not_lt.mp c2)
    · rw [if_neg c0, if_neg c0]
  · have e : placeF (dn W) (vd W 5) (vd W 2) (nI d) = -1 := pl_no h12 hd cw
    rw [if_pos e, if_neg cw]
theorem fq_where (h : Sy I) : Sp S m_X11_where 18 2 12 [.ref 200, .int x1, .int x2] (hp I L w1 w2 t) (Qc I (vWh (dn (I 421)) x1 x2) (whereR (dn (I 421)) (I 421) (ixN x1) x2) L w1 w2 t) (Xc I (vWh (dn (I 421)) x1 x2) [(1, 0), (2, 1)] L w1 w2) := by
  have hd12 := h.n12
  refine Sp_of ok_X11_where rfl rfl ?_
  show AW S m_X11_where 18 _ _ 2 12 0 [some (.ref 200), some (.int x1), some (.int x2)] [] (hp I L w1 w2 t)
  refine a_l0 rfl rfl rfl ?_
  refine a_l1 rfl rfl rfl ?_
  refine a_callV rfl lX11_141 mo_X11_needDuty (f_needDuty h.d3 (by omega)) rfl rfl rfl ⟨11, _, rfl, rfl, rfl⟩ rfl (fun v' h' hv => ?_) (fun E h' ex => ?_)
  rotate_left
  · obtain ⟨rfl, hz, rfl⟩ := ex
    exact Xc.mk (1, 0) List.mem_cons_self (if_neg (by rw [hz]; exact Bool.false_ne_true)) rfl
  obtain ⟨rfl, hz, rfl⟩ := hv
  refine a_l2 rfl rfl rfl ?_
  refine a_s rfl rfl ?_
  refine a_s rfl rfl ?_
  refine a_callS rfl lX11_250 mo_X11_needNumber (f_needNumber) rfl rfl rfl rfl (fun v' h' hv => ?_) (fun E h' ex => ?_)
  rotate_left
  · obtain ⟨rfl, hz2, rfl⟩ := ex
    exact Xc.mk (2, 1) (List.mem_cons_of_mem _ List.mem_cons_self) ((if_pos hz).trans (if_neg (by rw [hz2]; exact Bool.false_ne_true))) rfl
  obtain ⟨rfl, hz2, rfl⟩ := hv
  obtain ⟨i, hi, rfl⟩ := inB_ix (by omega) hz
  have hx := ixN_nI (i := i) (by omega)
  refine a_l0 rfl rfl rfl ?_
  refine a_getq rfl gfX11_37_11 rfl (rfl) ?_
  refine a_l1 rfl rfl rfl ?_
  refine a_l2 rfl rfl rfl ?_
  refine a_eV1 rfl lX11_272 mo_X5_kerbAt (sp_X5_kerbAt (nd := dn (I 421)) (a := 235) (by decide) h.d3 h.n12) rfl rfl rfl ⟨5, _, rfl, rfl, rfl⟩ rfl ?_
  rw [kerb_same h.nm.1 h.nm.2.2 hi]
  exact a_iret rfl rfl (Qc.yes ((if_pos hz).trans (if_pos hz2)) (by rw [hx]))
theorem hq_where (h : Sy I) : Sp S m_X12_where 18 0 0 [.ref 420, .int x1, .int x2] (hp I L w1 w2 t) (Qr I (vWh (dn (I 421)) x1 x2) (whereR (dn (I 421)) (I 421) (ixN x1) x2) L w1 w2 t) nX := by
  have hd12 := h.n12
  refine Sp_of ok_X12_where rfl rfl ?_
  show AW S m_X12_where 18 _ _ 0 0 0 [some (.ref 420), some (.int x1), some (.int x2)] [] (hp I L w1 w2 t)
  refine a_l0 rfl rfl rfl ?_
  refine a_s rfl rfl ?_
  refine a_puti rfl pfX12_3_12 rfl ?_
  refine a_l0 rfl rfl rfl ?_
  refine a_l0 rfl rfl rfl ?_
  refine a_l1 rfl rfl rfl ?_
  refine a_eV1 rfl lX12_289 mo_X12_noDuty (r_X12_noDuty h.s0) rfl rfl rfl ⟨12, _, rfl, rfl, rfl⟩ rfl ?_
  obtain ⟨z, hz⟩ : ∃ z, inB x1 0 (nI (dn (I 421)) - 1) = z := ⟨_, rfl⟩
  rw [hz]
  refine a_s rfl rfl ?_
  cases z with
  | false =>
    refine a_eV1 rfl lX12_243 mo_X12_throwsIf (h_throwsIf (z := true)) rfl rfl rfl ⟨12, _, rfl, rfl, rfl⟩ rfl ?_
    rw [if_pos rfl]
    refine a_if_ne rfl (fun _ => ?_) (fun c => absurd c (by decide))
    refine a_s rfl rfl ?_
    refine a_goto rfl ?_
    exact a_iret rfl rfl (Qr.no (if_neg (by rw [hz]; exact Bool.false_ne_true)) (by decide))
  | true =>
  refine a_eV1 rfl lX12_243 mo_X12_throwsIf (h_throwsIf (z := false)) rfl rfl rfl ⟨12, _, rfl, rfl, rfl⟩ rfl ?_
  rw [if_neg Bool.false_ne_true]
  refine a_if_ne rfl (fun c => absurd rfl c) (fun _ => ?_)
  refine a_l0 rfl rfl rfl ?_
  refine a_l2 rfl rfl rfl ?_
  refine a_eS1 rfl lX12_298 mo_X12_noHour sp_X12_noHour rfl rfl rfl rfl ?_
  obtain ⟨z2, hz2⟩ : ∃ z, inB x2 0 300 = z := ⟨_, rfl⟩
  rw [hz2]
  refine a_s rfl rfl ?_
  cases z2 with
  | false =>
    refine a_eV1 rfl lX12_243 mo_X12_throwsIf (h_throwsIf (z := true)) rfl rfl rfl ⟨12, _, rfl, rfl, rfl⟩ rfl ?_
    rw [if_pos rfl]
    refine a_if_eq rfl (fun c => absurd c (by decide)) (fun _ => ?_)
    refine a_s rfl rfl ?_
    refine a_goto rfl ?_
    exact a_iret rfl rfl (Qr.no ((if_pos hz).trans (if_neg (by rw [hz2]; exact Bool.false_ne_true))) (by decide))
  | true =>
  refine a_eV1 rfl lX12_243 mo_X12_throwsIf (h_throwsIf (z := false)) rfl rfl rfl ⟨12, _, rfl, rfl, rfl⟩ rfl ?_
  rw [if_neg Bool.false_ne_true]
  refine a_if_eq rfl (fun _ => ?_) (fun c => absurd rfl c)
  obtain ⟨i, hi, rfl⟩ := inB_ix (by omega) hz
  have hx := ixN_nI (i := i) (by omega)
  refine a_l0 rfl rfl rfl ?_
  refine a_l1 rfl rfl rfl ?_
  refine a_l2 rfl rfl rfl ?_
  refine a_eV1 rfl lX12_301 mo_X12_whereAt (sp_X12_whereAt h.n12 h.s0.du hi h.s0.h7) rfl rfl rfl ⟨12, _, rfl, rfl, rfl⟩ rfl ?_
  rw [up2_row (p := 420) (q := 421) (by decide)]
  exact a_iret rfl rfl (Qr.yes ((if_pos hz).trans (if_pos hz2)) (by rw [hx]))
/-! greets -/
def vGr (nd : Nat) (x y : Int32) : Int32 := if inB x 0 (nI nd - 1) = true ∧ inB y 0 15 = true then 0 else 1
def grW (W : Nat → Int32) (d : Nat) (x : Int32) : Int32 := if vd W 5 d = 0 then W 7 * (pl W d + x) else -1
theorem f_needKerb {x : Int32} : Sp S m_X11_needKerb 13 1 6 [.int x] (hp I L w1 w2 t) (fun v h' => v = none ∧ inB x 0 15 = true ∧ h' = hp I L w1 w2 t) (fun E h' => E = exN 0 ∧ inB x 0 15 = false ∧ h' = hp I L w1 w2 0) := by
  refine Sp_of ok_X11_needKerb rfl rfl ?_
  show AW S m_X11_needKerb 13 _ _ 1 6 0 [some (.int x)] [] (hp I L w1 w2 t)
  refine a_l0 rfl rfl rfl ?_
  refine a_if_lt rfl (fun c => ?_) (fun c => ?_)
  · exact a_throw rfl rfl rfl rfl tX11_ioobe rfl rfl rfl rfl rfl ⟨rfl, decide_eq_false fun q => absurd c (Int32.not_lt.mpr q.1), rfl⟩
  · refine a_l0 rfl rfl rfl ?_
    refine a_s rfl rfl ?_
    refine a_ic_le rfl (fun c2 => ?_) (fun c2 => ?_)
    · exact a_vret rfl rfl ⟨rfl, decide_eq_true ⟨Int32.not_lt.mp c, c2⟩, rfl⟩
    · exact a_throw rfl rfl rfl rfl tX11_ioobe rfl rfl rfl rfl rfl ⟨rfl, decide_eq_false fun q => c2 q.2, rfl⟩
theorem fq_greets (h : Sy I) : Sp S m_X11_greets 17 2 12 [.ref 200, .int x1, .int x2] (hp I L w1 w2 t) (Qc I (vGr (dn (I 421)) x1 x2) (grW (I 421) (ixN x1) x2) L w1 w2 t) (Xc I (vGr (dn (I 421)) x1 x2) [(1, 0)] L w1 w2) := by
  have hd12 := h.n12
  refine Sp_of ok_X11_greets rfl rfl ?_
  show AW S m_X11_greets 17 _ _ 2 12 0 [some (.ref 200), some (.int x1), some (.int x2), none] [] (hp I L w1 w2 t)
  refine a_l0 rfl rfl rfl ?_
  refine a_l1 rfl rfl rfl ?_
  refine a_callV rfl lX11_141 mo_X11_needDuty (f_needDuty h.d3 (by omega)) rfl rfl rfl ⟨11, _, rfl, rfl, rfl⟩ rfl (fun v' h' hv => ?_) (fun E h' ex => ?_)
  rotate_left
  · obtain ⟨rfl, hz, rfl⟩ := ex
    exact Xc.mk (1, 0) List.mem_cons_self (if_neg (fun q => by rw [hz] at q; exact Bool.false_ne_true q.1)) rfl
  obtain ⟨rfl, hz, rfl⟩ := hv
  refine a_l2 rfl rfl rfl ?_
  refine a_callS rfl lX11_269 mo_X11_needKerb (f_needKerb) rfl rfl rfl rfl (fun v' h' hv => ?_) (fun E h' ex => ?_)
  rotate_left
  · obtain ⟨rfl, hz2, rfl⟩ := ex
    exact Xc.mk (1, 0) List.mem_cons_self (if_neg (fun q => by rw [hz2] at q; exact Bool.false_ne_true q.2)) rfl
  obtain ⟨rfl, hz2, rfl⟩ := hv
  obtain ⟨i, hi, rfl⟩ := inB_ix (by omega) hz
  have hx := ixN_nI (i := i) (by omega)
  refine a_l0 rfl rfl rfl ?_
  refine a_getq rfl gfX11_37_11 rfl (rfl) ?_
  refine a_l1 rfl rfl rfl ?_
  refine a_eV1 rfl lX11_173 mo_X5_placeOf (sp_X5_placeOf (nd := dn (I 421)) (a := 235) (by decide) h.d3 h.n12) rfl rfl rfl ⟨5, _, rfl, rfl, rfl⟩ rfl ?_
  rw [place_same h.nm.1 h.nm.2.2 hi]
  refine a_s3 rfl rfl rfl rfl rfl rfl ?_
  refine a_l3 rfl rfl rfl ?_
  refine a_s rfl rfl ?_
  by_cases cw : vd (I 421) 5 i = 0
  · have e : placeF (dn (I 421)) (vd (I 421) 5) (vd (I 421) 2) (nI i) = nI (cntF (dn (I 421)) (fun x => decide (vd (I 421) 5 x = 0 ∧ (vd (I 421) 2 x < vd (I 421) 2 i ∨ (vd (I 421) 2 x = vd (I 421) 2 i ∧ nI x < nI i))))) := pl_is h.n12 hi cw
    have hle := cntF_le (dn (I 421)) (fun x => decide (vd (I 421) 5 x = 0 ∧ (vd (I 421) 2 x < vd (I 421) 2 i ∨ (vd (I 421) 2 x = vd (I 421) 2 i ∧ nI x < nI i))))
    refine a_ic_ne rfl (fun _ => ?_) (fun z => absurd (e.symm.trans z) (nI_no (by omega)))
    refine a_l0 rfl rfl rfl ?_
    refine a_getq rfl gfX11_37_11 rfl (rfl) ?_
    refine a_getiv (v := I 421 7) rfl gfX11_194_5 rfl (Sd.fd h.nm.1 (by decide)) ?_
    refine a_l3 rfl rfl rfl ?_
    refine a_l2 rfl rfl rfl ?_
    refine a_s rfl rfl ?_
    refine a_s rfl rfl ?_
    exact a_iret rfl rfl (Qc.yes (if_pos ⟨hz, hz2⟩) (by rw [hx]; exact (if_pos cw).symm))
  · have e : placeF (dn (I 421)) (vd (I 421) 5) (vd (I 421) 2) (nI i) = -1 := pl_no h.n12 hi cw
    refine a_ic_ne rfl (fun z => absurd e z) (fun _ => ?_)
    refine a_s rfl rfl ?_
    refine a_goto rfl ?_
    exact a_iret rfl rfl (Qc.yes (if_pos ⟨hz, hz2⟩) (by rw [hx]; exact (if_neg cw).symm))
theorem hq_greets (h : Sy I) : Sp S m_X12_greets 18 0 0 [.ref 420, .int x1, .int x2] (hp I L w1 w2 t) (Qr I (vGr (dn (I 421)) x1 x2) (grW (I 421) (ixN x1) x2) L w1 w2 t) nX := by
  have hd12 := h.n12
  refine Sp_of ok_X12_greets rfl rfl ?_
  show AW S m_X12_greets 18 _ _ 0 0 0 [some (.ref 420), some (.int x1), some (.int x2)] [] (hp I L w1 w2 t)
  refine a_l0 rfl rfl rfl ?_
  refine a_s rfl rfl ?_
  refine a_puti rfl pfX12_3_12 rfl ?_
  refine a_l0 rfl rfl rfl ?_
  refine a_l0 rfl rfl rfl ?_
  refine a_l1 rfl rfl rfl ?_
  refine a_eV1 rfl lX12_289 mo_X12_noDuty (r_X12_noDuty h.s0) rfl rfl rfl ⟨12, _, rfl, rfl, rfl⟩ rfl ?_
  obtain ⟨z, hz⟩ : ∃ z, inB x1 0 (nI (dn (I 421)) - 1) = z := ⟨_, rfl⟩
  rw [hz]
  cases z with
  | false =>
    refine a_if_ne rfl (fun _ => ?_) (fun c => absurd c (by decide))
    refine a_s rfl rfl ?_
    refine a_goto rfl ?_
    refine a_s rfl rfl ?_
    refine a_eV1 rfl lX12_243 mo_X12_throwsIf (h_throwsIf (z := true)) rfl rfl rfl ⟨12, _, rfl, rfl, rfl⟩ rfl ?_
    rw [if_pos rfl]
    refine a_if_eq rfl (fun c => absurd c (by decide)) (fun _ => ?_)
    refine a_s rfl rfl ?_
    exact a_iret rfl rfl (Qr.no (if_neg (fun q => by rw [hz] at q; exact Bool.false_ne_true q.1)) (by decide))
  | true =>
  refine a_if_ne rfl (fun c => absurd rfl c) (fun _ => ?_)
  refine a_l2 rfl rfl rfl ?_
  refine a_eS1 rfl lX12_292 mo_X12_noKerb sp_X12_noKerb rfl rfl rfl rfl ?_
  obtain ⟨z2, hz2⟩ : ∃ z, inB x2 0 15 = z := ⟨_, rfl⟩
  rw [hz2]
  cases z2 with
  | false =>
    refine a_if_eq rfl (fun c => absurd c (by decide)) (fun _ => ?_)
    refine a_s rfl rfl ?_
    refine a_goto rfl ?_
    refine a_s rfl rfl ?_
    refine a_eV1 rfl lX12_243 mo_X12_throwsIf (h_throwsIf (z := true)) rfl rfl rfl ⟨12, _, rfl, rfl, rfl⟩ rfl ?_
    rw [if_pos rfl]
    refine a_if_eq rfl (fun c => absurd c (by decide)) (fun _ => ?_)
    refine a_s rfl rfl ?_
    exact a_iret rfl rfl (Qr.no (if_neg (fun q => by rw [hz2] at q; exact Bool.false_ne_true q.2)) (by decide))
  | true =>
  refine a_if_eq rfl (fun _ => ?_) (fun c => absurd rfl c)
  refine a_s rfl rfl ?_
  refine a_s rfl rfl ?_
  refine a_eV1 rfl lX12_243 mo_X12_throwsIf (h_throwsIf (z := false)) rfl rfl rfl ⟨12, _, rfl, rfl, rfl⟩ rfl ?_
  rw [if_neg Bool.false_ne_true]
  refine a_if_eq rfl (fun _ => ?_) (fun c => absurd rfl c)
  obtain ⟨i, hi, rfl⟩ := inB_ix (by omega) hz
  have hx := ixN_nI (i := i) (by omega)
  refine a_l0 rfl rfl rfl ?_
  refine a_l1 rfl rfl rfl ?_
  refine a_eV1 rfl lX12_135 mo_X12_isWaiting (sp_X12_isWaiting (d := i) (by omega)) rfl rfl rfl ⟨12, _, rfl, rfl, rfl⟩ rfl ?_
  rw [up2_row (p := 420) (q := 421) (by decide)]
  by_cases cw : vd (I 421) 5 i = 0
  · rw [decide_eq_true cw]
    refine a_if_eq rfl (fun c => absurd c (by decide)) (fun _ => ?_)
    refine a_l0 rfl rfl rfl ?_
    refine a_getq rfl gfX12_13_12 rfl (rfl) ?_
    refine a_s rfl rfl ?_
    refine a_ialdv (v := I 421 7) rfl (n := 2033) rfl ⟨by decide, by decide⟩ (congrFun (up2_row (by decide)) 7) ?_
    refine a_l0 rfl rfl rfl ?_
    refine a_l1 rfl rfl rfl ?_
    refine a_eV1 rfl lX12_283 mo_X12_placeOf (sp_X12_placeOf h.n12 h.s0.du hi) rfl rfl rfl ⟨12, _, rfl, rfl, rfl⟩ rfl ?_
    rw [up2_row (p := 420) (q := 421) (by decide)]
    refine a_l2 rfl rfl rfl ?_
    refine a_s rfl rfl ?_
    refine a_s rfl rfl ?_
    refine a_goto rfl ?_
    exact a_iret rfl rfl (Qr.yes (if_pos ⟨hz, hz2⟩) (by rw [hx]; exact (if_pos cw).symm))
  · rw [decide_eq_false cw]
    refine a_if_eq rfl (fun _ => ?_) (fun c => absurd rfl c)
    refine a_s rfl rfl ?_
    exact a_iret rfl rfl (Qr.yes (if_pos ⟨hz, hz2⟩) (by rw [hx]; exact (if_neg cw).symm))
end T79zv
end
section
/-! ===== sums of shame, loads, shares; a person, a duty: exactly, on both sides ===== -/
section T79zw
variable {S : aS} {I J : Nat → Nat → Int32} {L : Nat → Nat → Int64} {w1 w2 t d p nl len : Nat} {cd fa fn : Nat → Nat} {W : Nat → Int32} {x1 x2 s : Int32}
set_option maxRecDepth 100000
theorem shame_same {a b : Nat} (h : Sd I a W) (hG : Rg W) (hL : LwS I b W nl len cd fa fn) (hd : d < dn W) : shameC I a b cd fa fn nl d = shameR W cd fa fn nl d := by
  have h12 := hG.1.2.1
  unfold shameC shameR
  rw [sum_same h hG hL hd, sum_same h hG hL hd, show I (a + 5) d = vd W 2 d from Sd.row (k := 2) h (by omega) (by decide)]
theorem sumG_F {f g : Nat → Int32} : ∀ {n : Nat}, n ≤ 12 → (∀ e, e < n → f e = g e) → sumG f s n = sumF g s n := by
  intro n
  induction n with
  | zero => exact fun _ _ => rfl
  | succ n ih =>
    intro hn h
    have h31 : n < 31 := by omega
    show (if hasF s (nI n) = true then sumG f s n + f n else sumG f s n) = (if shb s n = true then sumF g s n + g n else sumF g s n)
    rw [hasF_bt h31, shb_is h31, ih (by omega) fun e he => h e (by omega), h n (by omega)]
theorem sumF_cong {f g : Nat → Int32} : ∀ {n : Nat}, (∀ e, e < n → f e = g e) → sumF f s n = sumF g s n := by
  intro n
  induction n with
  | zero => exact fun _ => rfl
  | succ n ih =>
    intro h
    show (if shb s n = true then sumF f s n + f n else sumF f s n) = (if shb s n = true then sumF g s n + g n else sumF g s n)
    rw [ih fun e he => h e (by omega), h n (by omega)]
theorem Fm_q2 (h : ∀ q, q ≠ 252 → q ≠ 253 → J q = I q) : Fm sQ I J := fun q k hq => by
  by_cases c : q = 252
  · subst c
    cases hq
  · by_cases c2 : q = 253
    · subst c2
      cases hq
    · rw [h q c c2]
theorem LwS.q (lw : LwS I 246 (I 421) nl len cd fa fn) (f : Fm sQ I J) : LwS J 246 (J 421) nl len cd fa fn := by
  have e : J 421 = I 421 := funext fun k => f 421 k rfl
  exact LwS.eq lw (fun q g1 g2 => funext fun k => f q k (sQ_no (by omega))) (congrFun e 3) fun k _ => congrFun e k
theorem fq_set (h : Sy I) (lw : LwS I 246 (I 421) nl len cd fa fn) : Sp S m_X2_shameOfSet 17 0 0 [.ref 246, .ref 235, .int s] (hp I L w1 w2 t) (fun v h' => v = some (.int (sumF (shameR (I 421) cd fa fn nl) s (dn (I 421)))) ∧ ∃ J, h' = hp J L w1 w2 t ∧ Fm sQ I J) nX := by
  refine Sp.weaken (sp_X2_shameOfSet (nd := dn (I 421)) (a := 235) (b := 246) (by decide) (by decide) h.d3 h.n12 lw.1) (fun v h' hv => ?_) (fun E h' z => z)
  obtain ⟨rfl, J, rfl, hf⟩ := hv
  exact ⟨by rw [sumG_F h.n12 fun e he => shame_same h.nm.1 h.nm.2.2 lw he], J, rfl, Fm_q2 fun q g1 g2 => hf q g1 g2⟩
theorem fq_grow (h : Sy I) (lw : LwS I 246 (I 421) nl len cd fa fn) (hd : d < dn (I 421)) : Sp S m_X2_growthOf 16 0 0 [.ref 246, .ref 235, .int (nI d)] (hp I L w1 w2 t) (fun v h' => v = some (.int (sumR (I 421) cd fa fn nl d 0)) ∧ ∃ J, h' = hp J L w1 w2 t ∧ Fm sQ I J) nX := by
  have h12 := h.n12
  refine Sp.weaken (sp_X2_growthOf (a := 235) (b := 246) (by decide) (by decide) (by omega) lw.1) (fun v h' hv => ?_) (fun E h' z => z)
  obtain ⟨rfl, J, rfl, hf⟩ := hv
  exact ⟨by rw [grow_same h.nm.1 h.nm.2.2 lw hd], J, rfl, Fm_q2 fun q g1 g2 => hf q g1 g2⟩
theorem fq_shame (h : Sy I) (lw : LwS I 246 (I 421) nl len cd fa fn) (hd : d < dn (I 421)) : Sp S m_X2_shameOf 16 0 0 [.ref 246, .ref 235, .int (nI d)] (hp I L w1 w2 t) (fun v h' => v = some (.int (shameR (I 421) cd fa fn nl d)) ∧ ∃ J, h' = hp J L w1 w2 t ∧ Fm sQ I J) nX := by
  have h12 := h.n12
  refine Sp.weaken (sp_X2_shameOf (a := 235) (b := 246) (by decide) (by decide) (by omega) lw.1) (fun v h' hv => ?_) (fun E h' z => z)
  obtain ⟨rfl, J, rfl, hf⟩ := hv
  exact ⟨by rw [shame_same h.nm.1 h.nm.2.2 lw hd], J, rfl, Fm_q2 fun q g1 g2 => hf q g1 g2⟩
theorem sumF_hi {f : Nat → Int32} {P : Nat → Bool} {nd : Nat} (hn : nd ≤ 12) : ∀ m, nd + m ≤ 12 → sumF f (bs nd P) (nd + m) = sumF f (bs nd P) nd := by
  intro m
  induction m with
  | zero => exact fun _ => rfl
  | succ m ih =>
    intro h
    show (if shb (bs nd P) (nd + m) = true then sumF f (bs nd P) (nd + m) + f (nd + m) else sumF f (bs nd P) (nd + m)) = _
    rw [shb_bs (d := nd + m) hn (by omega), decide_eq_false (show ¬ nd + m < nd by omega), Bool.false_and, if_neg Bool.false_ne_true]
    exact ih (by omega)
theorem wait_comm {x : Int32} (h12 : dn W ≤ 12) : inS (dn W) (vd W 5) 0 &&& ownF (dn W) (vd W 0) x = waitR (dn W) W x := by
  unfold waitR inS ownF
  rw [bs_and h12, bs_and h12]
  exact bs_congr fun d _ => Bool.and_comm _ _
theorem load_same {a : Nat} {x : Int32} (h : Sd I a W) (hG : Rg W) : loadF (dn W) (I (a + 8)) (I (a + 3)) (I (a + 4)) x = loadR (dn W) W x := by
  have h12 := hG.1.2.1
  unfold loadF loadR
  rw [inS_same h hG, own_same h hG, wait_comm h12]
  unfold waitR inS ownF
  rw [bs_and h12]
  have e2 := sumF_hi (f := I (a + 4)) (P := fun d => decide (vd W 0 d = x) && decide (vd W 5 d = 0)) h12 (12 - dn W) (by omega)
  rw [show dn W + (12 - dn W) = 12 by omega] at e2
  rw [e2]
  exact sumF_cong fun e he => Sd.row (k := 1) h (by omega) (by decide)
theorem needs_same {l : Int32} {k : Nat} (hk : k ≤ 9) : needC l (nI k) = daysR l (nI k) := by
  unfold needC daysR
  by_cases c : l = 0
  · rw [if_pos c, if_pos c]
  rw [if_neg c, if_neg c]
  by_cases c2 : k = 0
  · subst c2
    rfl
  · rw [if_pos (show (0 : Int32) < nI k from nI_ltu (n := 0) (by omega) (by omega)), if_neg (show ¬ nI k = 0 from fun z => c2 (nI_inj (b := 0) (by omega) (by decide) z))]
/-- a share of the shame -/
def shW (W : Nat → Int32) (cd fa fn : Nat → Nat) (nl : Nat) (x : Int32) : Int32 := if sumF (shameR W cd fa fn nl) (inS (dn W) (vd W 5) 0) (dn W) = 0 then 0 else 100 * sumF (shameR W cd fa fn nl) (waitR (dn W) W x) (dn W) / sumF (shameR W cd fa fn nl) (inS (dn W) (vd W 5) 0) (dn W)
theorem Nb.add {x y : Int32} {a b : Nat} (h1 : Nb x a) (h2 : Nb y b) : Nb (x + y) (a + b) := by
  obtain ⟨i, hi, rfl⟩ := h1
  obtain ⟨j, hj, rfl⟩ := h2
  exact ⟨i + j, by omega, nI_addl i j⟩
theorem mx0_nb {x y : Int32} {a b : Nat} (ha : a < 2 ^ 30) (hb : b < 2 ^ 30) (h1 : Nb x a) (h2 : Nb y b) : Nb (mx0 (x - y)) a := by
  obtain ⟨i, hi, rfl⟩ := h1
  obtain ⟨j, hj, rfl⟩ := h2
  unfold mx0
  by_cases c : j ≤ i
  · rw [nI_sub c]
    by_cases c2 : i - j = 0
    · rw [c2]
      exact ⟨0, by omega, rfl⟩
    · rw [if_pos (show (0 : Int32) < nI (i - j) from nI_ltu (n := 0) (by omega) (by omega))]
      exact ⟨i - j, by omega, rfl⟩
  · rw [if_neg]
    · exact ⟨0, by omega, rfl⟩
    · intro z
      rw [Int32.lt_iff_toInt_lt, Int32.toInt_sub, nI_toInt (by omega), nI_toInt (by omega), Int.bmod_def] at z
      have e0 : (0 : Int32).toInt = 0 := rfl
      rw [e0] at z
      split at z <;> omega
theorem shame_nb (hG : Rg W) (hN : LwN W nl) (hd : d < dn W) : Nb (shameR W cd fa fn nl d) 819 := by
  have l1 : ∀ kind, Nb (sumR W cd fa fn nl d kind) 720 := fun kind => by
    obtain ⟨k, k1, k2⟩ := sumL_nb (F := factW W d) (ki := kiW W) (nu := nuW W) (cd := cd) (fa := fa) (fn := fn) (kind := kind) hN.1 hN.2
    have := hN.1
    exact ⟨k, by omega, k2⟩
  obtain ⟨-, -, g2, -⟩ := hG.2.2.2 d hd
  unfold shameR
  exact mx0_nb (by decide) (by decide) (Nb.add g2 (l1 1)) (l1 2)
theorem sumF_nb {f : Nat → Int32} {m : Nat} : ∀ {n : Nat}, (∀ e, e < n → Nb (f e) m) → Nb (sumF f s n) (m * n) := by
  intro n
  induction n with
  | zero => exact fun _ => ⟨0, by omega, rfl⟩
  | succ n ih =>
    intro h
    have i1 := ih fun e he => h e (by omega)
    show Nb (if shb s n = true then sumF f s n + f n else sumF f s n) (m * (n + 1))
    rw [Nat.mul_succ]
    by_cases c : shb s n = true
    · rw [if_pos c]
      exact Nb.add i1 (h n (by omega))
    · rw [if_neg c]
      obtain ⟨k, k1, k2⟩ := i1
      exact ⟨k, by omega, k2⟩
theorem set_nb (hG : Rg W) (hN : LwN W nl) : Nb (sumF (shameR W cd fa fn nl) s (dn W)) 9828 := by
  have h12 := hG.1.2.1
  obtain ⟨k, k1, k2⟩ := sumF_nb (s := s) (f := shameR W cd fa fn nl) (m := 819) (n := dn W) fun e he => shame_nb hG hN he
  have : 819 * dn W ≤ 819 * 12 := Nat.mul_le_mul_left _ h12
  exact ⟨k, by omega, k2⟩
/-! share -/
theorem fq_waitShame (h : Sy I) (lw : LwS I 246 (I 421) nl len cd fa fn) : Sp S m_X11_shameOfWaiting 18 0 0 [.ref 200, .ref 235] (hp I L w1 w2 t) (fun v h' => v = some (.int (sumF (shameR (I 421) cd fa fn nl) (inS (dn (I 421)) (vd (I 421) 5) 0) (dn (I 421)))) ∧ ∃ J, h' = hp J L w1 w2 t ∧ Fm sQ I J) nX := by
  refine Sp_of ok_X11_shameOfWaiting rfl rfl ?_
  show AW S m_X11_shameOfWaiting 18 _ _ 0 0 0 [some (.ref 200), some (.ref 235)] [] (hp I L w1 w2 t)
  refine a_l0 rfl rfl rfl ?_
  refine a_getq rfl gfX11_44_11 rfl (rfl) ?_
  refine a_l1 rfl rfl rfl ?_
  refine a_l1 rfl rfl rfl ?_
  refine a_s rfl rfl ?_
  refine a_eV1 rfl lX11_200 mo_X5_bitsIn (sp_X5_bitsIn (nd := dn (I 421)) (a := 235) (by decide) h.d3 h.n12) rfl rfl rfl ⟨5, _, rfl, rfl, rfl⟩ rfl ?_
  rw [inS_same h.nm.1 h.nm.2.2]
  refine a_gV rfl lX11_282 mo_X2_shameOfSet (fq_set h lw) rfl rfl rfl ⟨2, _, rfl, rfl, rfl⟩ rfl (fun v' h' hv => ?_)
  obtain ⟨rfl, J, rfl, f⟩ := hv
  exact a_iret rfl rfl ⟨rfl, J, rfl, f⟩
theorem fq_share (h : Sy I) (lw : LwS I 246 (I 421) nl len cd fa fn) (ln : LwN (I 421) nl) : Sp S m_X11_shareOf 20 0 0 [.ref 200, .int x1] (hp I L w1 w2 t) (fun v h' => v = some (.int (shW (I 421) cd fa fn nl x1)) ∧ ∃ J, h' = hp J L w1 w2 t ∧ Fm sQ I J) nX := by
  refine Sp_of ok_X11_shareOf rfl rfl ?_
  show AW S m_X11_shareOf 20 _ _ 0 0 0 [some (.ref 200), some (.int x1), none, none] [] (hp I L w1 w2 t)
  refine a_l0 rfl rfl rfl ?_
  refine a_l0 rfl rfl rfl ?_
  refine a_getq rfl gfX11_37_11 rfl (rfl) ?_
  refine a_gV rfl lX11_207 mo_X11_shameOfWaiting (fq_waitShame h lw) rfl rfl rfl ⟨11, _, rfl, rfl, rfl⟩ rfl (fun v' h' hv => ?_)
  obtain ⟨rfl, J, rfl, f⟩ := hv
  have hJ := Sy.q h f
  have e21 : J 421 = I 421 := funext fun k => f 421 k rfl
  have lJ := lw.q f
  refine a_s2 rfl rfl rfl rfl rfl rfl ?_
  refine a_l0 rfl rfl rfl ?_
  refine a_getq rfl gfX11_44_11 rfl (rfl) ?_
  refine a_l0 rfl rfl rfl ?_
  refine a_getq rfl gfX11_37_11 rfl (rfl) ?_
  refine a_l0 rfl rfl rfl ?_
  refine a_getq rfl gfX11_37_11 rfl (rfl) ?_
  refine a_s rfl rfl ?_
  refine a_eV1 rfl lX11_200 mo_X5_bitsIn (sp_X5_bitsIn (nd := dn (J 421)) (a := 235) (by decide) hJ.d3 hJ.n12) rfl rfl rfl ⟨5, _, rfl, rfl, rfl⟩ rfl ?_
  rw [inS_same hJ.nm.1 hJ.nm.2.2]
  refine a_l0 rfl rfl rfl ?_
  refine a_getq rfl gfX11_37_11 rfl (rfl) ?_
  refine a_l1 rfl rfl rfl ?_
  refine a_eV1 rfl lX11_124 mo_X5_ownedBy (sp_X5_ownedBy (nd := dn (J 421)) (a := 235) (by decide) hJ.d3 hJ.n12) rfl rfl rfl ⟨5, _, rfl, rfl, rfl⟩ rfl ?_
  rw [own_same hJ.nm.1 hJ.nm.2.2]
  refine a_s rfl rfl ?_
  rw [wait_comm hJ.n12]
  refine a_gV rfl lX11_282 mo_X2_shameOfSet (fq_set hJ lJ) rfl rfl rfl ⟨2, _, rfl, rfl, rfl⟩ rfl (fun v' h' hv => ?_)
  obtain ⟨rfl, K, rfl, g⟩ := hv
  rw [e21]
  have fK : Fm sQ I K := Fm.tr f g
  obtain ⟨T, hT, eT⟩ := set_nb (cd := cd) (fa := fa) (fn := fn) (s := inS (dn (I 421)) (vd (I 421) 5) 0) h.nm.2.2 ln
  refine a_s3 rfl rfl rfl rfl rfl rfl ?_
  refine a_l2 rfl rfl rfl ?_
  by_cases c0 : T = 0
  · have z0 : sumF (shameR (I 421) cd fa fn nl) (inS (dn (I 421)) (vd (I 421) 5) 0) (dn (I 421)) = 0 := by rw [eT, c0]; rfl
    refine a_if_le rfl (fun _ => ?_) (fun z => absurd (by rw [z0]; exact Int32.le_refl _) z)
    refine a_s rfl rfl ?_
    exact a_iret rfl rfl ⟨by unfold shW; rw [if_pos z0], K, rfl, fK⟩
  · have hpos : (0 : Int32) < sumF (shameR (I 421) cd fa fn nl) (inS (dn (I 421)) (vd (I 421) 5) 0) (dn (I 421)) := by rw [eT]; exact nI_ltu (n := 0) (by omega) (by omega)
    have z0 : ¬ sumF (shameR (I 421) cd fa fn nl) (inS (dn (I 421)) (vd (I 421) 5) 0) (dn (I 421)) = 0 := fun z => by rw [z] at hpos; exact Int32.lt_irrefl hpos
    refine a_if_le rfl (fun z => absurd hpos (Int32.not_lt.mpr z)) (fun _ => ?_)
    refine a_l3 rfl rfl rfl ?_
    refine a_s rfl rfl ?_
    refine a_s rfl rfl ?_
    refine a_l2 rfl rfl rfl ?_
    refine a_idiv rfl z0 ?_
    refine a_goto rfl ?_
    exact a_iret rfl rfl ⟨by unfold shW; rw [if_neg z0, Int32.mul_comm], K, rfl, fK⟩
theorem hq_share (hs : SO (dn (I 421)) (pn (I 421)) (I 421)) (hL : LawR (I 421) nl len cd fa fn) : Sp S m_X12_shareOf 22 0 0 [.ref 420, .int x1] (hp I L w1 w2 t) (fun v h' => v = some (.int (shW (I 421) cd fa fn nl x1)) ∧ ∃ f, h' = hp (upr I 428 f) L w1 w2 t) nX := by
  refine Sp_of ok_X12_shareOf rfl rfl ?_
  show AW S m_X12_shareOf 22 _ _ 0 0 0 [some (.ref 420), some (.int x1), none] [] (hp I L w1 w2 t)
  refine a_l0 rfl rfl rfl ?_
  refine a_l0 rfl rfl rfl ?_
  refine a_s rfl rfl ?_
  refine a_eV1 rfl lX12_324 mo_X12_ofState (sp_X12_ofState hs.n hs.du) rfl rfl rfl ⟨12, _, rfl, rfl, rfl⟩ rfl ?_
  refine a_gV rfl lX12_339 mo_X12_shameOf (sp_X12_shameOf hs.n hs.p hs.du hs.l hs.o hL) rfl rfl rfl ⟨12, _, rfl, rfl, rfl⟩ rfl (fun v' h' hv => ?_)
  obtain ⟨rfl, f, rfl⟩ := hv
  have e21 : upr I 428 f 421 = I 421 := upr_row (by decide)
  have hs2 : SO (dn (I 421)) (pn (I 421)) (upr I 428 f 421) := by rw [e21]; exact hs
  have hL2 : LawR (upr I 428 f 421) nl len cd fa fn := by rw [e21]; exact hL
  refine a_s2 rfl rfl rfl rfl rfl rfl ?_
  refine a_l2 rfl rfl rfl ?_
  refine a_if_ne rfl (fun z0 => ?_) (fun z0 => ?_)
  · refine a_s rfl rfl ?_
    refine a_l0 rfl rfl rfl ?_
    refine a_l0 rfl rfl rfl ?_
    refine a_l1 rfl rfl rfl ?_
    refine a_eV1 rfl lX12_327 mo_X12_waitingOf (sp_X12_waitingOf hs2.n hs2.du) rfl rfl rfl ⟨12, _, rfl, rfl, rfl⟩ rfl ?_
    refine a_gV rfl lX12_339 mo_X12_shameOf (sp_X12_shameOf hs2.n hs2.p hs2.du hs2.l hs2.o hL2) rfl rfl rfl ⟨12, _, rfl, rfl, rfl⟩ rfl (fun v' h' hv => ?_)
    obtain ⟨rfl, g, rfl⟩ := hv
    rw [e21]
    refine a_s rfl rfl ?_
    refine a_l2 rfl rfl rfl ?_
    refine a_idiv rfl z0 ?_
    exact a_iret rfl rfl ⟨by unfold shW; rw [if_neg z0], g, by rw [upr_upr]⟩
  · refine a_s rfl rfl ?_
    refine a_goto rfl ?_
    exact a_iret rfl rfl ⟨by unfold shW; rw [if_pos z0], f, rfl⟩
/-! person -/
def persW (W : Nat → Int32) (cd fa fn : Nat → Nat) (nl p : Nat) : Nat → Int32
  | 0 => vp W 0 p
  | 1 => vp W 1 p
  | 2 => ownF (dn W) (vd W 0) (nI p)
  | 3 => loadR (dn W) W (nI p)
  | 4 => daysR (loadR (dn W) W (nI p)) (vp W 1 p)
  | _ => shW W cd fa fn nl (nI p)
def vPs (np : Nat) (x y : Int32) : Int32 := if inB x 0 (nI np - 1) = true then (if inB y 0 5 = true then 0 else 2) else 1
theorem inB_toInt {x : Int32} {m : Nat} (hm : m < 2 ^ 31) : inB x 0 (nI m) = true ↔ (0 ≤ x.toInt ∧ x.toInt ≤ m) := by
  unfold inB
  rw [decide_eq_true_iff, Int32.le_iff_toInt_le, Int32.le_iff_toInt_le, nI_toInt hm]
  exact Iff.rfl
theorem nI_of0 {x : Int32} {i : Nat} (hi : i < 2 ^ 31) (h : x.toInt = 0 + i) : x = nI i := by
  rw [← Int32.toInt_inj, nI_toInt hi]
  omega
theorem fq_person (h : Sy I) (lw : LwS I 246 (I 421) nl len cd fa fn) (ln : LwN (I 421) nl) : Sp S m_X11_person 21 2 12 [.ref 200, .int x1, .int x2] (hp I L w1 w2 t) (Qc I (vPs (pn (I 421)) x1 x2) (persW (I 421) cd fa fn nl (ixN x1) (ixN x2)) L w1 w2 t) (Xc I (vPs (pn (I 421)) x1 x2) [(1, 0), (2, 4)] L w1 w2) := by
  have h6 := h.n6
  refine Sp_of ok_X11_person rfl rfl ?_
  show AW S m_X11_person 21 _ _ 2 12 0 [some (.ref 200), some (.int x1), some (.int x2)] [] (hp I L w1 w2 t)
  refine a_l0 rfl rfl rfl ?_
  refine a_l1 rfl rfl rfl ?_
  refine a_callV rfl lX11_110 mo_X11_needPerson (f_needPerson h.d0 (by omega)) rfl rfl rfl ⟨11, _, rfl, rfl, rfl⟩ rfl (fun v' h' hv => ?_) (fun E h' ex => ?_)
  rotate_left
  · obtain ⟨rfl, hz, rfl⟩ := ex
    exact Xc.mk (1, 0) List.mem_cons_self (if_neg (by rw [hz]; exact Bool.false_ne_true)) rfl
  obtain ⟨rfl, hz, rfl⟩ := hv
  obtain ⟨p, hp6, rfl⟩ := inB_ix (by omega) hz
  have hx := ixN_nI (i := p) (by omega)
  rw [hx]
  refine a_l2 rfl rfl rfl ?_
  refine a_tswA rfl (by decide) (by decide) (fun hz2 => ?_) (fun i o ho hz2 => ?_)
  · refine a_pc (pc' := 115) (by decide) ?_
    refine a_throw rfl rfl rfl rfl tX11_nsee rfl rfl rfl rfl rfl (Xc.mk (2, 4) (List.mem_cons_of_mem _ List.mem_cons_self) ((if_pos hz).trans (if_neg fun q => ?_)) rfl)
    have := (inB_toInt (m := 5) (by decide)).mp q
    omega
  · have hi6 : i < 6 := by
      have := (Array.getElem?_eq_some_iff.mp ho).1
      exact this
    obtain rfl := nI_of0 (by omega) hz2
    have hx2 := ixN_nI (i := i) (by omega)
    have c0 : vPs (pn (I 421)) (nI p) (nI i) = 0 := (if_pos hz).trans (if_pos ((inB_toInt (m := 5) (by decide)).mpr (by rw [nI_toInt (by omega)]; omega)))
    rw [hx2]
    have kb := h.nm.1.2.1 p (by omega)
    have fr := (h.nm.2.2.2.2.1 p hp6).2
    rcases i with _ | _ | _ | _ | _ | _ | i
    · cases ho
      refine a_pc (pc' := 44) (by decide) ?_
      refine a_l0 rfl rfl rfl ?_
      refine a_getq rfl gfX11_37_11 rfl (rfl) ?_
      refine a_getq rfl gfX11_113_5 rfl (rfl) ?_
      refine a_l1 rfl rfl rfl ?_
      refine a_eS1 rfl lX11_117 mo_X11_at (sp_X11_at rfl) rfl rfl rfl rfl ?_
      rw [atF_nI (show p < 6 by omega) (by decide)]
      exact a_iret rfl rfl (Qc.yes c0 kb.1)
    · cases ho
      refine a_pc (pc' := 56) (by decide) ?_
      refine a_l0 rfl rfl rfl ?_
      refine a_getq rfl gfX11_37_11 rfl (rfl) ?_
      refine a_getq rfl gfX11_121_5 rfl (rfl) ?_
      refine a_l1 rfl rfl rfl ?_
      refine a_eS1 rfl lX11_117 mo_X11_at (sp_X11_at rfl) rfl rfl rfl rfl ?_
      rw [atF_nI (show p < 6 by omega) (by decide)]
      exact a_iret rfl rfl (Qc.yes c0 kb.2)
    · cases ho
      refine a_pc (pc' := 68) (by decide) ?_
      refine a_l0 rfl rfl rfl ?_
      refine a_getq rfl gfX11_37_11 rfl (rfl) ?_
      refine a_l1 rfl rfl rfl ?_
      refine a_eV1 rfl lX11_124 mo_X5_ownedBy (sp_X5_ownedBy (nd := dn (I 421)) (a := 235) (by decide) h.d3 h.n12) rfl rfl rfl ⟨5, _, rfl, rfl, rfl⟩ rfl ?_
      rw [own_same h.nm.1 h.nm.2.2]
      exact a_iret rfl rfl (Qc.yes c0 rfl)
    · cases ho
      refine a_pc (pc' := 77) (by decide) ?_
      refine a_l0 rfl rfl rfl ?_
      refine a_getq rfl gfX11_37_11 rfl (rfl) ?_
      refine a_l1 rfl rfl rfl ?_
      refine a_eV1 rfl lX11_128 mo_X5_loadOf (sp_X5_loadOf (nd := dn (I 421)) (a := 235) (by decide) h.d3 h.n12) rfl rfl rfl ⟨5, _, rfl, rfl, rfl⟩ rfl ?_
      rw [load_same h.nm.1 h.nm.2.2]
      exact a_iret rfl rfl (Qc.yes c0 rfl)
    · cases ho
      refine a_pc (pc' := 86) (by decide) ?_
      refine a_l0 rfl rfl rfl ?_
      refine a_getq rfl gfX11_37_11 rfl (rfl) ?_
      refine a_l1 rfl rfl rfl ?_
      refine a_eV1 rfl lX11_128 mo_X5_loadOf (sp_X5_loadOf (nd := dn (I 421)) (a := 235) (by decide) h.d3 h.n12) rfl rfl rfl ⟨5, _, rfl, rfl, rfl⟩ rfl ?_
      rw [load_same h.nm.1 h.nm.2.2]
      refine a_l0 rfl rfl rfl ?_
      refine a_getq rfl gfX11_37_11 rfl (rfl) ?_
      refine a_getq rfl gfX11_121_5 rfl (rfl) ?_
      refine a_l1 rfl rfl rfl ?_
      refine a_eS1 rfl lX11_117 mo_X11_at (sp_X11_at rfl) rfl rfl rfl rfl ?_
      rw [atF_nI (show p < 6 by omega) (by decide), show I (235 + 2) p = vp (I 421) 1 p from kb.2]
      refine a_eS1 rfl lX11_131 mo_X11_needsOf sp_X11_needsOf rfl rfl rfl rfl ?_
      refine a_iret rfl rfl (Qc.yes c0 ?_)
      obtain ⟨g, g9, eg⟩ := fr
      show needC _ (vp (I 421) 1 p) = daysR _ (vp (I 421) 1 p)
      rw [show vp (I 421) 1 p = nI g from eg]
      exact needs_same g9
    · cases ho
      refine a_pc (pc' := 109) (by decide) ?_
      refine a_l0 rfl rfl rfl ?_
      refine a_l1 rfl rfl rfl ?_
      refine a_gV rfl lX11_135 mo_X11_shareOf (fq_share h lw ln) rfl rfl rfl ⟨11, _, rfl, rfl, rfl⟩ rfl (fun v' h' hv => ?_)
      obtain ⟨rfl, J, rfl, f⟩ := hv
      exact a_iret rfl rfl (Qc.yesJ c0 rfl f)
    · exact absurd hi6 (by omega)
theorem Qr.yesL {c val ov : Int32} {f : Nat → Int32} (hc : c = 0) (hv : ov = val) : Qr I c val L w1 w2 t (some (.int ov)) (hp (upr (up2 I 420 0 0) 428 f) L w1 w2 t) := ⟨ov, _, rfl, rfl, fun q k hq => by
  by_cases c1 : q = 428
  · subst c1
    cases hq
  · rw [upr_row c1]
    exact Fm.up (s := sV) Fm.rf rfl q k hq, by rw [upr_row (by decide), up2_at, hc], fun _ => hv⟩
theorem hq_person (h : Sy I) (lw : LwS I 246 (I 421) nl len cd fa fn) : Sp S m_X12_person 24 0 0 [.ref 420, .int x1, .int x2] (hp I L w1 w2 t) (Qr I (vPs (pn (I 421)) x1 x2) (persW (I 421) cd fa fn nl (ixN x1) (ixN x2)) L w1 w2 t) nX := by
  have h6 := h.n6
  have e21 : up2 I 420 0 0 421 = I 421 := up2_row (by decide)
  have hL : LawR (up2 I 420 0 0 421) nl len cd fa fn := by rw [e21]; exact lw.2.1
  have hS : SO (dn (up2 I 420 0 0 421)) (pn (up2 I 420 0 0 421)) (up2 I 420 0 0 421) := by rw [e21]; exact h.ri.so
  refine Sp_of ok_X12_person rfl rfl ?_
  show AW S m_X12_person 24 _ _ 0 0 0 [some (.ref 420), some (.int x1), some (.int x2)] [] (hp I L w1 w2 t)
  refine a_l0 rfl rfl rfl ?_
  refine a_s rfl rfl ?_
  refine a_puti rfl pfX12_3_12 rfl ?_
  refine a_l0 rfl rfl rfl ?_
  refine a_l0 rfl rfl rfl ?_
  refine a_l1 rfl rfl rfl ?_
  refine a_eV1 rfl lX12_342 mo_X12_noPerson (r_X12_noPerson h.s0) rfl rfl rfl ⟨12, _, rfl, rfl, rfl⟩ rfl ?_
  obtain ⟨z, hz⟩ : ∃ z, inB x1 0 (nI (pn (I 421)) - 1) = z := ⟨_, rfl⟩
  rw [hz]
  refine a_s rfl rfl ?_
  cases z with
  | false =>
    refine a_eV1 rfl lX12_243 mo_X12_throwsIf (h_throwsIf (z := true)) rfl rfl rfl ⟨12, _, rfl, rfl, rfl⟩ rfl ?_
    rw [if_pos rfl]
    refine a_if_ne rfl (fun _ => ?_) (fun c => absurd c (by decide))
    refine a_s rfl rfl ?_
    exact a_iret rfl rfl (Qr.no (if_neg (by rw [hz]; exact Bool.false_ne_true)) (by decide))
  | true =>
  refine a_eV1 rfl lX12_243 mo_X12_throwsIf (h_throwsIf (z := false)) rfl rfl rfl ⟨12, _, rfl, rfl, rfl⟩ rfl ?_
  rw [if_neg Bool.false_ne_true]
  refine a_if_ne rfl (fun c => absurd rfl c) (fun _ => ?_)
  refine a_l0 rfl rfl rfl ?_
  refine a_l2 rfl rfl rfl ?_
  refine a_s rfl rfl ?_
  refine a_s rfl rfl ?_
  refine a_eS1 rfl lX12_70 mo_X12_in sp_X12_in rfl rfl rfl rfl ?_
  obtain ⟨z2, hz2⟩ : ∃ z, inB x2 0 5 = z := ⟨_, rfl⟩
  rw [hz2]
  cases z2 with
  | false =>
    refine a_if_ne rfl (fun c => absurd rfl c) (fun _ => ?_)
    refine a_s rfl rfl ?_
    refine a_goto rfl ?_
    refine a_s rfl rfl ?_
    refine a_eV1 rfl lX12_243 mo_X12_throwsIf (h_throwsIf (z := true)) rfl rfl rfl ⟨12, _, rfl, rfl, rfl⟩ rfl ?_
    rw [if_pos rfl]
    refine a_if_eq rfl (fun c => absurd c (by decide)) (fun _ => ?_)
    refine a_s rfl rfl ?_
    exact a_iret rfl rfl (Qr.no ((if_pos hz).trans (if_neg (by rw [hz2]; exact Bool.false_ne_true))) (by decide))
  | true =>
  refine a_if_ne rfl (fun _ => ?_) (fun c => absurd c (by decide))
  refine a_s rfl rfl ?_
  refine a_s rfl rfl ?_
  refine a_eV1 rfl lX12_243 mo_X12_throwsIf (h_throwsIf (z := false)) rfl rfl rfl ⟨12, _, rfl, rfl, rfl⟩ rfl ?_
  rw [if_neg Bool.false_ne_true]
  refine a_if_eq rfl (fun _ => ?_) (fun c => absurd rfl c)
  have c0 : vPs (pn (I 421)) x1 x2 = 0 := (if_pos hz).trans (if_pos hz2)
  obtain ⟨p, hp6, rfl⟩ := inB_ix (by omega) hz
  have hx := ixN_nI (i := p) (by omega)
  obtain ⟨i, -, hi5, rfl⟩ := inB_nI (a := 0) (b := 5) (by decide) hz2
  have hx2 := ixN_nI (i := i) (by omega)
  rw [hx, hx2]
  refine a_l2 rfl rfl rfl ?_
  refine a_tswA rfl (by decide) (by decide) (fun hz3 => ?_) (fun j o ho hz3 => ?_)
  · refine a_pc (pc' := 96) (by decide) ?_
    rw [nI_toInt (by omega)] at hz3
    refine a_l0 rfl rfl rfl ?_
    refine a_l1 rfl rfl rfl ?_
    refine a_l2 rfl rfl rfl ?_
    refine a_eV1 rfl lX12_252 mo_X12_ofPerson (sp_X12_ofPerson (d := p) (k := i) (by omega) (by omega)) rfl rfl rfl ⟨12, _, rfl, rfl, rfl⟩ rfl ?_
    rw [e21]
    refine a_iret rfl rfl (Qr.yes c0 ?_)
    rcases i with _ | _ | i
    · rfl
    · rfl
    · exact absurd hz3 (by omega)
  · have hj4 : j < 4 := (Array.getElem?_eq_some_iff.mp ho).1
    rw [nI_toInt (by omega)] at hz3
    obtain rfl : i = j + 2 := by omega
    rcases j with _ | _ | _ | _ | j
    · cases ho
      refine a_pc (pc' := 72) (by decide) ?_
      refine a_l0 rfl rfl rfl ?_
      refine a_l1 rfl rfl rfl ?_
      refine a_eV1 rfl lX12_321 mo_X12_ownedBy (sp_X12_ownedBy h.n12 h.s0.du) rfl rfl rfl ⟨12, _, rfl, rfl, rfl⟩ rfl ?_
      rw [e21]
      exact a_iret rfl rfl (Qr.yes c0 rfl)
    · cases ho
      refine a_pc (pc' := 78) (by decide) ?_
      refine a_l0 rfl rfl rfl ?_
      refine a_l1 rfl rfl rfl ?_
      refine a_eV1 rfl lX12_333 mo_X12_loadOf (sp_X12_loadOf h.n12 h.s0.du) rfl rfl rfl ⟨12, _, rfl, rfl, rfl⟩ rfl ?_
      rw [e21]
      exact a_iret rfl rfl (Qr.yes c0 rfl)
    · cases ho
      refine a_pc (pc' := 84) (by decide) ?_
      refine a_l0 rfl rfl rfl ?_
      refine a_l1 rfl rfl rfl ?_
      refine a_eV1 rfl lX12_345 mo_X12_needsOf (sp_X12_needsOf h.n12 h.s0.du (p := p) (by omega)) rfl rfl rfl ⟨12, _, rfl, rfl, rfl⟩ rfl ?_
      rw [e21]
      exact a_iret rfl rfl (Qr.yes c0 rfl)
    · cases ho
      refine a_pc (pc' := 90) (by decide) ?_
      refine a_l0 rfl rfl rfl ?_
      refine a_l1 rfl rfl rfl ?_
      refine a_gV rfl lX12_348 mo_X12_shareOf (hq_share hS hL) rfl rfl rfl ⟨12, _, rfl, rfl, rfl⟩ rfl (fun v' h' hv => ?_)
      obtain ⟨rfl, f, rfl⟩ := hv
      rw [e21]
      exact a_iret rfl rfl (Qr.yesL c0 rfl)
    · exact absurd hj4 (by omega)
end T79zw
end
section
/-! ===== what a duty leans on, what leans on it, rings: exactly, on both sides ===== -/
section T79zza
variable {S : aS} {I J : Nat → Nat → Int32} {L : Nat → Nat → Int64} {w1 w2 t d p : Nat} {W : Nat → Int32} {x x1 v a : Int32}
set_option maxRecDepth 100000
/-- from a on, so many steps, gathered into v -/
def chn (W : Nat → Int32) : Nat → Int32 → Int32 → Int32
  | 0, v, _ => v
  | n + 1, v, a => if a = -1 then v else chn W n (v ||| bitF a) (vd W 4 (ixN a))
def beW (W : Nat → Int32) (d : Nat) : Int32 := chn W 12 0 (vd W 4 d)
theorem chn_m : ∀ n, chn W n v (-1) = v := by
  intro n
  cases n with
  | zero => rfl
  | succ n => exact if_pos rfl
theorem chn_s {n k : Nat} (hk : k < 2 ^ 31) : chn W (n + 1) v (nI k) = chn W n (v ||| bitF (nI k)) (vd W 4 k) := by
  show (if nI k = -1 then v else chn W n (v ||| bitF (nI k)) (vd W 4 (ixN (nI k)))) = _
  rw [if_neg (nI_no hk), ixN_nI hk]
theorem le_of (hG : Rg W) (hd : d < dn W) : vd W 4 d = -1 ∨ ∃ k, k < dn W ∧ vd W 4 d = nI k := (hG.2.2.2 d hd).2.2.2.2.1
theorem or_has {k : Nat} (hk : k < 31) (h : hasF v (nI k) = true) : v ||| bitF (nI k) = v := by
  rw [hasF_bt hk] at h
  refine b_ext fun i hi => ?_
  rw [b_or, bt_bitF hk hi]
  by_cases c : i = k
  · subst c
    rw [h]
    rfl
  · rw [decide_eq_false c, Bool.or_false]
/-- all that stands in v leads into v -/
def Cl (W : Nat → Int32) (v : Int32) : Prop := ∀ e, e < dn W → hasF v (nI e) = true → vd W 4 e = -1 ∨ ∃ k, k < dn W ∧ vd W 4 e = nI k ∧ hasF v (nI k) = true
theorem chn_cl (h12 : dn W ≤ 12) (cl : Cl W v) : ∀ (n k : Nat), k < dn W → hasF v (nI k) = true → chn W n v (nI k) = v := by
  intro n
  induction n with
  | zero => exact fun _ _ _ => rfl
  | succ n ih =>
    intro k hk h
    rw [chn_s (by omega), or_has (by omega) h]
    rcases cl k hk h with z | ⟨j, hj, z, hj2⟩
    · rw [z, chn_m]
    · rw [z]
      exact ih j hj hj2
theorem f_chain (hD : Sd I 235 W) (hG : Rg W) (hd : d < dn W) : SpE S m_X4_chainOf 14 [.ref 235, .int (nI d)] (hp I L w1 w2 t) (some (.int (beW W d))) (hp I L w1 w2 t) := by
  have h12 := hG.1.2.1
  have ro : ∀ k, k < dn W → I 242 k = vd W 4 k := fun k hk => hD.2.2 k (by omega) 4 (by decide)
  refine SpE_of ok_X4_chainOf rfl rfl ?_
  show AW S m_X4_chainOf 14 _ _ 0 0 0 [some (.ref 235), some (.int (nI d)), none, none, none] [] (hp I L w1 w2 t)
  refine a_s rfl rfl ?_
  refine a_s2 rfl rfl rfl rfl rfl rfl ?_
  refine a_l0 rfl rfl rfl ?_
  refine a_getq rfl gfX4_9_5 rfl (rfl) ?_
  refine a_l1 rfl rfl rfl ?_
  refine a_eSN1 rfl lX4_15 mo_X11_at (sp_X11_at rfl) rfl rfl rfl rfl ?_
  rw [atF_nI (show d < 12 by omega) (by decide), ro d hd]
  refine a_s3 rfl rfl rfl rfl rfl rfl ?_
  refine a_s rfl rfl ?_
  refine a_s4 rfl rfl rfl rfl rfl rfl ?_
  refine a_inv (n := 12) (fun m ls h => ∃ j v a, ls = [some (.ref 235), some (.int (nI d)), some (.int v), some (.int a), some (.int (nI j))] ∧ h = hp I L w1 w2 t ∧ j ≤ 12 ∧ m = 12 - j ∧ chn W (12 - j) v a = beW W d ∧ (a = -1 ∨ ∃ k, k < dn W ∧ a = nI k)) ⟨0, 0, _, rfl, rfl, by decide, rfl, rfl, le_of hG hd⟩ ?_
  rintro m _ _ ⟨j, v, a, rfl, rfl, hj, hm, hc, ha⟩ ih
  refine a_l4 rfl rfl rfl ?_
  refine a_s rfl rfl ?_
  refine a_ic_ge rfl (fun c => ?_) (fun c => ?_)
  · have hge := nI_ge_of (b := 12) c (by omega) (by omega)
    obtain rfl : j = 12 := by omega
    refine a_l2 rfl rfl rfl ?_
    exact a_iret rfl rfl ⟨congrArg (fun z => some (Value.int z)) hc, rfl⟩
  have hjn := nI_lt_of (b := 12) c (by omega) (by omega)
  refine a_l3 rfl rfl rfl ?_
  refine a_s rfl rfl ?_
  rcases ha with rfl | ⟨k, hk, rfl⟩
  · refine a_ic_eq rfl (fun _ => ?_) (fun z => absurd rfl z)
    refine a_l2 rfl rfl rfl ?_
    exact a_iret rfl rfl ⟨congrArg (fun z => some (Value.int z)) ((chn_m _).symm.trans hc), rfl⟩
  · refine a_ic_eq rfl (fun z => absurd z (nI_no (by omega))) (fun _ => ?_)
    refine a_l2 rfl rfl rfl ?_
    refine a_l3 rfl rfl rfl ?_
    refine a_eSN1 rfl lX4_19 mo_X11_bit sp_X11_bit rfl rfl rfl rfl ?_
    refine a_s rfl rfl ?_
    refine a_s2 rfl rfl rfl rfl rfl rfl ?_
    refine a_l0 rfl rfl rfl ?_
    refine a_getq rfl gfX4_9_5 rfl (rfl) ?_
    refine a_l3 rfl rfl rfl ?_
    refine a_eSN1 rfl lX4_15 mo_X11_at (sp_X11_at rfl) rfl rfl rfl rfl ?_
    rw [atF_nI (show k < 12 by omega) (by decide), ro k hk]
    refine a_s3 rfl rfl rfl rfl rfl rfl ?_
    refine a_iv4 (y := nI (j + 1)) rfl rfl rfl ((nI_succ j).symm) ?_
    refine a_goto rfl ?_
    refine ih (12 - (j + 1)) _ _ (by omega) ⟨j + 1, _, _, rfl, rfl, by omega, rfl, ?_, le_of hG hk⟩
    rw [show 12 - j = (12 - (j + 1)) + 1 by omega, chn_s (by omega)] at hc
    exact hc
/-- one more element -/
theorem cnt_add {P Q : Nat → Bool} {k : Nat} (hP : P k = false) (hQ : ∀ e, Q e = (P e || decide (e = k))) : ∀ n, cntF n Q = cntF n P + if k < n then 1 else 0 := by
  intro n
  induction n with
  | zero => rfl
  | succ n ih =>
    by_cases c : n = k
    · subst c
      rw [cntF_t (by rw [hQ, decide_eq_true rfl, Bool.or_true]), cntF_f hP, ih, if_neg (by omega), if_pos (by omega)]
    · have e : Q n = P n := by rw [hQ, decide_eq_false c, Bool.or_false]
      cases hb : P n with
      | false =>
        rw [cntF_f hb, cntF_f (by rw [e]; exact hb), ih]
        by_cases c2 : k < n
        · rw [if_pos c2, if_pos (by omega)]
        · rw [if_neg c2, if_neg (by omega)]
      | true =>
        rw [cntF_t hb, cntF_t (by rw [e]; exact hb), ih]
        by_cases c2 : k < n
        · rw [if_pos c2, if_pos (by omega)]
        · rw [if_neg c2, if_neg (by omega)]
theorem shb_has {s : Int32} {k : Nat} (hk : k < 31) : shb s k = hasF s (nI k) := by rw [shb_is hk, hasF_bt hk]
theorem h_beforeOf (h421 : I 421 = W) (hG : Rg W) (hd : d < dn W) : SpE S m_X12_beforeOf 15 [.ref 420, .int (nI d)] (hp I L w1 w2 t) (some (.int (beW W d))) (hp I L w1 w2 t) := by
  have h12 := hG.1.2.1
  refine SpE_of ok_X12_beforeOf rfl rfl ?_
  show AW S m_X12_beforeOf 15 _ _ 0 0 0 [some (.ref 420), some (.int (nI d)), none, none] [] (hp I L w1 w2 t)
  refine a_s rfl rfl ?_
  refine a_s2 rfl rfl rfl rfl rfl rfl ?_
  refine a_l0 rfl rfl rfl ?_
  refine a_l1 rfl rfl rfl ?_
  refine a_s rfl rfl ?_
  refine a_eV1 rfl lX12_63 mo_X12_of (sp_X12_of (d := d) (k := 4) (by omega) (by decide)) rfl rfl rfl ⟨12, _, rfl, rfl, rfl⟩ rfl ?_
  rw [h421]
  refine a_s3 rfl rfl rfl rfl rfl rfl ?_
  refine a_inv (n := 12) (fun m ls h => ∃ n v a, ls = [some (.ref 420), some (.int (nI d)), some (.int v), some (.int a)] ∧ h = hp I L w1 w2 t ∧ n ≤ 12 ∧ m = 12 - n ∧ chn W (12 - n) v a = beW W d ∧ (a = -1 ∨ ∃ k, k < dn W ∧ a = nI k) ∧ cntF (dn W) (fun e => hasF v (nI e)) = n ∧ (∀ e, e < dn W → hasF v (nI e) = true → vd W 4 e = a ∨ vd W 4 e = -1 ∨ ∃ k, k < dn W ∧ vd W 4 e = nI k ∧ hasF v (nI k) = true)) ⟨0, 0, _, rfl, rfl, by decide, rfl, rfl, le_of hG hd, ?_, fun e he z => ?_⟩ ?_
  · have z0 : ∀ n, n ≤ 12 → cntF n (fun e => hasF 0 (nI e)) = 0 := by
      intro n
      induction n with
      | zero => exact fun _ => rfl
      | succ n ih =>
        intro hn
        rw [cntF_f (hasF_0 (by omega)), ih (by omega)]
    exact z0 _ h12
  · rw [hasF_0 (by omega)] at z
    cases z
  rintro m _ _ ⟨n, v, a, rfl, rfl, hn, hm, hc, ha, hcnt, hcl⟩ ih
  refine a_l3 rfl rfl rfl ?_
  refine a_s rfl rfl ?_
  rcases ha with rfl | ⟨k, hk, rfl⟩
  · refine a_ic_eq rfl (fun _ => ?_) (fun z => absurd rfl z)
    refine a_l2 rfl rfl rfl ?_
    exact a_iret rfl rfl ⟨congrArg (fun z => some (Value.int z)) ((chn_m _).symm.trans hc), rfl⟩
  refine a_ic_eq rfl (fun z => absurd z (nI_no (by omega))) (fun _ => ?_)
  refine a_l2 rfl rfl rfl ?_
  refine a_l3 rfl rfl rfl ?_
  refine a_eS1 rfl lX12_304 mo_X12_has sp_X12_has rfl rfl rfl rfl ?_
  rw [shb_has (by omega)]
  cases hb : hasF v (nI k) with
  | true =>
    refine a_if_ne rfl (fun _ => ?_) (fun z => absurd z (by decide))
    refine a_l2 rfl rfl rfl ?_
    have cl : Cl W v := fun e he z => by
      rcases hcl e he z with z2 | z2
      · exact Or.inr ⟨k, hk, z2, hb⟩
      · exact z2
    exact a_iret rfl rfl ⟨congrArg (fun z => some (Value.int z)) ((chn_cl h12 cl _ k hk hb).symm.trans hc), rfl⟩
  | false =>
    refine a_if_ne rfl (fun z => absurd rfl z) (fun _ => ?_)
    have hQ : ∀ e, e < dn W → hasF (v ||| bitF (nI k)) (nI e) = (hasF v (nI e) || decide (e = k)) := fun e he => by
      rw [hasF_or (by omega), hasF_bit (by omega) (by omega)]
    have hlt : n < 12 := by
      have := cnt_lt (n := dn W) (P := fun e => hasF v (nI e)) (Q := fun _ => true) (fun _ _ _ => rfl) ⟨k, hk, rfl, hb⟩
      have := cntF_le (dn W) (fun _ => true)
      omega
    refine a_l2 rfl rfl rfl ?_
    refine a_s rfl rfl ?_
    refine a_l3 rfl rfl rfl ?_
    refine a_s rfl rfl ?_
    rw [bit_lt (show k < 31 by omega)]
    refine a_s rfl rfl ?_
    refine a_s2 rfl rfl rfl rfl rfl rfl ?_
    refine a_l0 rfl rfl rfl ?_
    refine a_l3 rfl rfl rfl ?_
    refine a_s rfl rfl ?_
    refine a_eV1 rfl lX12_63 mo_X12_of (sp_X12_of (d := k) (k := 4) (by omega) (by decide)) rfl rfl rfl ⟨12, _, rfl, rfl, rfl⟩ rfl ?_
    rw [h421]
    refine a_s3 rfl rfl rfl rfl rfl rfl ?_
    refine a_goto rfl ?_
    refine ih (12 - (n + 1)) _ _ (by omega) ⟨n + 1, _, _, rfl, rfl, by omega, rfl, ?_, le_of hG hk, ?_, fun e he z => ?_⟩
    · rw [show 12 - n = (12 - (n + 1)) + 1 by omega, chn_s (by omega)] at hc
      exact hc
    · have e1 : cntF (dn W) (fun e => hasF (v ||| bitF (nI k)) (nI e)) = cntF (dn W) (fun e => hasF v (nI e) || decide (e = k)) := cntF_congr fun e he => hQ e he
      rw [e1, cnt_add (P := fun e => hasF v (nI e)) (k := k) hb (fun e => rfl) (dn W), if_pos hk, hcnt]
    · rw [hQ e he] at z
      by_cases ce : e = k
      · rw [ce]
        exact Or.inl rfl
      · rw [decide_eq_false ce, Bool.or_false] at z
        rcases hcl e he z with z2 | z2 | ⟨j, hj, z2, hj2⟩
        · exact Or.inr (Or.inr ⟨k, hk, z2, by rw [hQ k hk, decide_eq_true rfl, Bool.or_true]⟩)
        · exact Or.inr (Or.inl z2)
        · exact Or.inr (Or.inr ⟨j, hj, z2, by rw [hQ j hj, hj2, Bool.true_or]⟩)
def vD (nd : Nat) (x : Int32) : Int32 := if inB x 0 (nI nd - 1) = true then 0 else 1
/-! before -/
theorem fq_before (h : Sy I) : Sp S m_X11_before 17 1 6 [.ref 200, .int x1] (hp I L w1 w2 t) (Qc I (vD (dn (I 421)) x1) (beW (I 421) (ixN x1)) L w1 w2 t) (Xc I (vD (dn (I 421)) x1) [(1, 0)] L w1 w2) := by
  have h12 := h.n12
  refine Sp_of ok_X11_before rfl rfl ?_
  show AW S m_X11_before 17 _ _ 1 6 0 [some (.ref 200), some (.int x1)] [] (hp I L w1 w2 t)
  refine a_l0 rfl rfl rfl ?_
  refine a_l1 rfl rfl rfl ?_
  refine a_callV rfl lX11_141 mo_X11_needDuty (f_needDuty h.d3 (by omega)) rfl rfl rfl ⟨11, _, rfl, rfl, rfl⟩ rfl (fun v' h' hv => ?_) (fun E h' ex => ?_)
  rotate_left
  · obtain ⟨rfl, hz, rfl⟩ := ex
    exact Xc.mk (1, 0) List.mem_cons_self (if_neg (by rw [hz]; exact Bool.false_ne_true)) rfl
  obtain ⟨rfl, hz, rfl⟩ := hv
  obtain ⟨i, hi, rfl⟩ := inB_ix (by omega) hz
  have hx := ixN_nI (i := i) (by omega)
  refine a_l0 rfl rfl rfl ?_
  refine a_getq rfl gfX11_37_11 rfl (rfl) ?_
  refine a_l1 rfl rfl rfl ?_
  refine a_eS1 rfl lX11_298 mo_X4_chainOf (f_chain h.nm.1 h.nm.2.2 hi) rfl rfl rfl rfl ?_
  exact a_iret rfl rfl (Qc.yes (if_pos hz) (by rw [hx]))
theorem fq_depth (h : Sy I) : Sp S m_X11_depth 17 1 6 [.ref 200, .int x1] (hp I L w1 w2 t) (Qc I (vD (dn (I 421)) x1) (bcF (beW (I 421) (ixN x1) &&& (inS (dn (I 421)) (vd (I 421) 5) 1 ^^^ (-1)))) L w1 w2 t) (Xc I (vD (dn (I 421)) x1) [(1, 0)] L w1 w2) := by
  have h12 := h.n12
  refine Sp_of ok_X11_depth rfl rfl ?_
  show AW S m_X11_depth 17 _ _ 1 6 0 [some (.ref 200), some (.int x1)] [] (hp I L w1 w2 t)
  refine a_l0 rfl rfl rfl ?_
  refine a_l1 rfl rfl rfl ?_
  refine a_callV rfl lX11_141 mo_X11_needDuty (f_needDuty h.d3 (by omega)) rfl rfl rfl ⟨11, _, rfl, rfl, rfl⟩ rfl (fun v' h' hv => ?_) (fun E h' ex => ?_)
  rotate_left
  · obtain ⟨rfl, hz, rfl⟩ := ex
    exact Xc.mk (1, 0) List.mem_cons_self (if_neg (by rw [hz]; exact Bool.false_ne_true)) rfl
  obtain ⟨rfl, hz, rfl⟩ := hv
  obtain ⟨i, hi, rfl⟩ := inB_ix (by omega) hz
  have hx := ixN_nI (i := i) (by omega)
  refine a_l0 rfl rfl rfl ?_
  refine a_getq rfl gfX11_37_11 rfl (rfl) ?_
  refine a_l1 rfl rfl rfl ?_
  refine a_eS1 rfl lX11_298 mo_X4_chainOf (f_chain h.nm.1 h.nm.2.2 hi) rfl rfl rfl rfl ?_
  refine a_l0 rfl rfl rfl ?_
  refine a_getq rfl gfX11_37_11 rfl (rfl) ?_
  refine a_s rfl rfl ?_
  refine a_eV1 rfl lX11_200 mo_X5_bitsIn (sp_X5_bitsIn (nd := dn (I 421)) (a := 235) (by decide) h.d3 h.n12) rfl rfl rfl ⟨5, _, rfl, rfl, rfl⟩ rfl ?_
  rw [inS_same h.nm.1 h.nm.2.2]
  refine a_s rfl rfl ?_
  refine a_s rfl rfl ?_
  refine a_s rfl rfl ?_
  refine a_eS1 rfl lX11_261 mo_J6_bitCount_0f7a4 (sp_bitCount) rfl rfl rfl rfl ?_
  exact a_iret rfl rfl (Qc.yes (if_pos hz) (by rw [hx]))
theorem hq_before (h : Sy I) : Sp S m_X12_before 17 0 0 [.ref 420, .int x1] (hp I L w1 w2 t) (Qr I (vD (dn (I 421)) x1) (beW (I 421) (ixN x1)) L w1 w2 t) nX := by
  have h12 := h.n12
  have e21 : up2 I 420 0 0 421 = I 421 := up2_row (by decide)
  refine Sp_of ok_X12_before rfl rfl ?_
  show AW S m_X12_before 17 _ _ 0 0 0 [some (.ref 420), some (.int x1)] [] (hp I L w1 w2 t)
  refine a_l0 rfl rfl rfl ?_
  refine a_s rfl rfl ?_
  refine a_puti rfl pfX12_3_12 rfl ?_
  refine a_l0 rfl rfl rfl ?_
  refine a_l0 rfl rfl rfl ?_
  refine a_l1 rfl rfl rfl ?_
  refine a_eV1 rfl lX12_289 mo_X12_noDuty (r_X12_noDuty h.s0) rfl rfl rfl ⟨12, _, rfl, rfl, rfl⟩ rfl ?_
  obtain ⟨z, hz⟩ : ∃ z, inB x1 0 (nI (dn (I 421)) - 1) = z := ⟨_, rfl⟩
  rw [hz]
  refine a_s rfl rfl ?_
  cases z with
  | false =>
    refine a_eV1 rfl lX12_243 mo_X12_throwsIf (h_throwsIf (z := true)) rfl rfl rfl ⟨12, _, rfl, rfl, rfl⟩ rfl ?_
    rw [if_pos rfl]
    refine a_if_eq rfl (fun c => absurd c (by decide)) (fun _ => ?_)
    refine a_s rfl rfl ?_
    refine a_goto rfl ?_
    exact a_iret rfl rfl (Qr.no (if_neg (by rw [hz]; exact Bool.false_ne_true)) (by decide))
  | true =>
  refine a_eV1 rfl lX12_243 mo_X12_throwsIf (h_throwsIf (z := false)) rfl rfl rfl ⟨12, _, rfl, rfl, rfl⟩ rfl ?_
  rw [if_neg Bool.false_ne_true]
  refine a_if_eq rfl (fun _ => ?_) (fun c => absurd rfl c)
  obtain ⟨i, hi, rfl⟩ := inB_ix (by omega) hz
  have hx := ixN_nI (i := i) (by omega)
  refine a_l0 rfl rfl rfl ?_
  refine a_l1 rfl rfl rfl ?_
  refine a_eV1 rfl lX12_417 mo_X12_beforeOf (h_beforeOf e21 h.nm.2.2 hi) rfl rfl rfl ⟨12, _, rfl, rfl, rfl⟩ rfl ?_
  exact a_iret rfl rfl (Qr.yes (if_pos hz) (by rw [hx]))
theorem hq_depth (h : Sy I) : Sp S m_X12_depth 17 0 0 [.ref 420, .int x1] (hp I L w1 w2 t) (Qr I (vD (dn (I 421)) x1) (bcF (beW (I 421) (ixN x1) &&& (inS (dn (I 421)) (vd (I 421) 5) 1 ^^^ (-1)))) L w1 w2 t) nX := by
  have h12 := h.n12
  have e21 : up2 I 420 0 0 421 = I 421 := up2_row (by decide)
  refine Sp_of ok_X12_depth rfl rfl ?_
  show AW S m_X12_depth 17 _ _ 0 0 0 [some (.ref 420), some (.int x1)] [] (hp I L w1 w2 t)
  refine a_l0 rfl rfl rfl ?_
  refine a_s rfl rfl ?_
  refine a_puti rfl pfX12_3_12 rfl ?_
  refine a_l0 rfl rfl rfl ?_
  refine a_l0 rfl rfl rfl ?_
  refine a_l1 rfl rfl rfl ?_
  refine a_eV1 rfl lX12_289 mo_X12_noDuty (r_X12_noDuty h.s0) rfl rfl rfl ⟨12, _, rfl, rfl, rfl⟩ rfl ?_
  obtain ⟨z, hz⟩ : ∃ z, inB x1 0 (nI (dn (I 421)) - 1) = z := ⟨_, rfl⟩
  rw [hz]
  refine a_s rfl rfl ?_
  cases z with
  | false =>
    refine a_eV1 rfl lX12_243 mo_X12_throwsIf (h_throwsIf (z := true)) rfl rfl rfl ⟨12, _, rfl, rfl, rfl⟩ rfl ?_
    rw [if_pos rfl]
    refine a_if_eq rfl (fun c => absurd c (by decide)) (fun _ => ?_)
    refine a_s rfl rfl ?_
    refine a_goto rfl ?_
    exact a_iret rfl rfl (Qr.no (if_neg (by rw [hz]; exact Bool.false_ne_true)) (by decide))
  | true =>
  refine a_eV1 rfl lX12_243 mo_X12_throwsIf (h_throwsIf (z := false)) rfl rfl rfl ⟨12, _, rfl, rfl, rfl⟩ rfl ?_
  rw [if_neg Bool.false_ne_true]
  refine a_if_eq rfl (fun _ => ?_) (fun c => absurd rfl c)
  obtain ⟨i, hi, rfl⟩ := inB_ix (by omega) hz
  have hx := ixN_nI (i := i) (by omega)
  refine a_l0 rfl rfl rfl ?_
  refine a_l1 rfl rfl rfl ?_
  refine a_eV1 rfl lX12_417 mo_X12_beforeOf (h_beforeOf e21 h.nm.2.2 hi) rfl rfl rfl ⟨12, _, rfl, rfl, rfl⟩ rfl ?_
  refine a_l0 rfl rfl rfl ?_
  refine a_s rfl rfl ?_
  refine a_eV1 rfl lX12_324 mo_X12_ofState (sp_X12_ofState h.n12 h.s0.du) rfl rfl rfl ⟨12, _, rfl, rfl, rfl⟩ rfl ?_
  rw [e21]
  refine a_s rfl rfl ?_
  refine a_s rfl rfl ?_
  refine a_s rfl rfl ?_
  refine a_eS1 rfl lX12_310 mo_J6_bitCount_0f7a4 (sp_bitCount) rfl rfl rfl rfl ?_
  exact a_iret rfl rfl (Qr.yes (if_pos hz) (by rw [hx]))
end T79zza
end
section
/-! ===== what is lost, rings, what leans on a duty, gaps, the idle one: exactly, on both sides ===== -/
section T79zzc
variable {S : aS} {I J : Nat → Nat → Int32} {L : Nat → Nat → Int64} {w1 w2 t d p : Nat} {W : Nat → Int32} {x x1 : Int32}
set_option maxRecDepth 100000
theorem bs_t {n : Nat} {P : Nat → Bool} (h : P n = true) : bs (n + 1) P = bs n P ||| bitF (nI n) := if_pos h
theorem bs_f {n : Nat} {P : Nat → Bool} (h : P n = false) : bs (n + 1) P = bs n P := if_neg (by rw [h]; exact Bool.false_ne_true)
/-! lost -/
theorem fq_lost (h : Sy I) : SpE S m_X11_lost 17 [.ref 200] (hp I L w1 w2 t) (some (.int (inS (dn (I 421)) (vd (I 421) 5) 2))) (hp I L w1 w2 t) := by
  refine SpE_of ok_X11_lost rfl rfl ?_
  show AW S m_X11_lost 17 _ _ 0 0 0 [some (.ref 200)] [] (hp I L w1 w2 t)
  refine a_l0 rfl rfl rfl ?_
  refine a_getq rfl gfX11_37_11 rfl (rfl) ?_
  refine a_s rfl rfl ?_
  refine a_eV1 rfl lX11_200 mo_X5_bitsIn (sp_X5_bitsIn (nd := dn (I 421)) (a := 235) (by decide) h.d3 h.n12) rfl rfl rfl ⟨5, _, rfl, rfl, rfl⟩ rfl ?_
  rw [inS_same h.nm.1 h.nm.2.2]
  exact a_iret rfl rfl ⟨rfl, rfl⟩
theorem hq_lost (h : Sy I) : SpE S m_X12_lost 17 [.ref 420] (hp I L w1 w2 t) (some (.int (inS (dn (I 421)) (vd (I 421) 5) 2))) (hp (up2 I 420 0 0) L w1 w2 t) := by
  refine SpE_of ok_X12_lost rfl rfl ?_
  show AW S m_X12_lost 17 _ _ 0 0 0 [some (.ref 420)] [] (hp I L w1 w2 t)
  refine a_l0 rfl rfl rfl ?_
  refine a_s rfl rfl ?_
  refine a_puti rfl pfX12_3_12 rfl ?_
  refine a_l0 rfl rfl rfl ?_
  refine a_s rfl rfl ?_
  refine a_eV1 rfl lX12_324 mo_X12_ofState (sp_X12_ofState h.n12 h.s0.du) rfl rfl rfl ⟨12, _, rfl, rfl, rfl⟩ rfl ?_
  rw [up2_row (p := 420) (q := 421) (by decide)]
  exact a_iret rfl rfl ⟨rfl, rfl⟩
/-! rings; what leans on a duty -/
def riP (W : Nat → Int32) (d : Nat) : Bool := hasF (beW W d) (nI d)
def afP (W : Nat → Int32) (k d : Nat) : Bool := hasF (beW W d) (nI k)
theorem f_ringBits (hD : Sd I 235 W) (hG : Rg W) (h3 : I 235 3 = nI (dn W)) : SpE S m_X4_ringBits 15 [.ref 235] (hp I L w1 w2 t) (some (.int (bs (dn W) (riP W)))) (hp I L w1 w2 t) := by
  have h12 := hG.1.2.1
  refine SpE_of ok_X4_ringBits rfl rfl ?_
  show AW S m_X4_ringBits 15 _ _ 0 0 0 [some (.ref 235), none, none] [] (hp I L w1 w2 t)
  refine a_s rfl rfl ?_
  refine a_s1 rfl rfl rfl rfl rfl rfl ?_
  refine a_s rfl rfl ?_
  refine a_s2 rfl rfl rfl rfl rfl rfl ?_
  refine a_forE (n := dn W) (fun j => [some (.ref 235), some (.int (bs j (riP W))), some (.int (nI j))]) (fun j => hp I L w1 w2 t) (by simp [lsub, nI_0, bs]) rfl ?_ (fun j hj ih => ?_)
  · refine a_l2 rfl rfl rfl ?_
    refine a_l0 rfl rfl rfl ?_
    refine a_getiv (v := nI (dn W)) rfl gfX4_23_5 rfl (h3) ?_
    refine a_ic_ge rfl (fun _ => ?_) (fun c => absurd (Int32.le_refl _) c)
    refine a_l1 rfl rfl rfl ?_
    exact a_iret rfl rfl ⟨rfl, rfl⟩
  · refine a_l2 rfl rfl rfl ?_
    refine a_l0 rfl rfl rfl ?_
    refine a_getiv (v := nI (dn W)) rfl gfX4_23_5 rfl (h3) ?_
    refine a_ic_ge rfl (fun c => absurd c (nI_ge hj (by omega))) (fun _ => ?_)
    refine a_l0 rfl rfl rfl ?_
    refine a_l2 rfl rfl rfl ?_
    refine a_eS1 rfl lX4_27 mo_X4_chainOf (f_chain hD hG hj) rfl rfl rfl rfl ?_
    refine a_l2 rfl rfl rfl ?_
    refine a_eSN1 rfl lX4_33 mo_X11_has sp_X11_has rfl rfl rfl rfl ?_
    cases hb : hasF (beW W j) (nI j) with
    | false =>
      refine a_if_eq rfl (fun _ => ?_) (fun c => absurd rfl c)
      refine a_iv2 (y := nI (j + 1)) rfl rfl rfl ((nI_succ j).symm) ?_
      refine a_goto rfl ?_
      exact a_back ih (by simp [lsub, bs_f (show riP W j = false from hb)]) rfl
    | true =>
      refine a_if_eq rfl (fun c => absurd c (by decide)) (fun _ => ?_)
      refine a_l1 rfl rfl rfl ?_
      refine a_l2 rfl rfl rfl ?_
      refine a_eSN1 rfl lX4_19 mo_X11_bit sp_X11_bit rfl rfl rfl rfl ?_
      refine a_s rfl rfl ?_
      refine a_s1 rfl rfl rfl rfl rfl rfl ?_
      refine a_iv2 (y := nI (j + 1)) rfl rfl rfl ((nI_succ j).symm) ?_
      refine a_goto rfl ?_
      exact a_back ih (by simp [lsub, bs_t (show riP W j = true from hb)]) rfl
theorem f_leaningOn (hD : Sd I 235 W) (hG : Rg W) (h3 : I 235 3 = nI (dn W)) {k : Nat} : SpE S m_X4_leaningOn 15 [.ref 235, .int (nI k)] (hp I L w1 w2 t) (some (.int (bs (dn W) (afP W k)))) (hp I L w1 w2 t) := by
  have h12 := hG.1.2.1
  refine SpE_of ok_X4_leaningOn rfl rfl ?_
  show AW S m_X4_leaningOn 15 _ _ 0 0 0 [some (.ref 235), some (.int (nI k)), none, none] [] (hp I L w1 w2 t)
  refine a_s rfl rfl ?_
  refine a_s2 rfl rfl rfl rfl rfl rfl ?_
  refine a_s rfl rfl ?_
  refine a_s3 rfl rfl rfl rfl rfl rfl ?_
  refine a_forE (n := dn W) (fun j => [some (.ref 235), some (.int (nI k)), some (.int (bs j (afP W k))), some (.int (nI j))]) (fun j => hp I L w1 w2 t) (by simp [lsub, nI_0, bs]) rfl ?_ (fun j hj ih => ?_)
  · refine a_l3 rfl rfl rfl ?_
    refine a_l0 rfl rfl rfl ?_
    refine a_getiv (v := nI (dn W)) rfl gfX4_23_5 rfl (h3) ?_
    refine a_ic_ge rfl (fun _ => ?_) (fun c => absurd (Int32.le_refl _) c)
    refine a_l2 rfl rfl rfl ?_
    exact a_iret rfl rfl ⟨rfl, rfl⟩
  · refine a_l3 rfl rfl rfl ?_
    refine a_l0 rfl rfl rfl ?_
    refine a_getiv (v := nI (dn W)) rfl gfX4_23_5 rfl (h3) ?_
    refine a_ic_ge rfl (fun c => absurd c (nI_ge hj (by omega))) (fun _ => ?_)
    refine a_l0 rfl rfl rfl ?_
    refine a_l3 rfl rfl rfl ?_
    refine a_eS1 rfl lX4_27 mo_X4_chainOf (f_chain hD hG hj) rfl rfl rfl rfl ?_
    refine a_l1 rfl rfl rfl ?_
    refine a_eSN1 rfl lX4_33 mo_X11_has sp_X11_has rfl rfl rfl rfl ?_
    cases hb : hasF (beW W j) (nI k) with
    | false =>
      refine a_if_eq rfl (fun _ => ?_) (fun c => absurd rfl c)
      refine a_iv3 (y := nI (j + 1)) rfl rfl rfl ((nI_succ j).symm) ?_
      refine a_goto rfl ?_
      exact a_back ih (by simp [lsub, bs_f (show afP W k j = false from hb)]) rfl
    | true =>
      refine a_if_eq rfl (fun c => absurd c (by decide)) (fun _ => ?_)
      refine a_l2 rfl rfl rfl ?_
      refine a_l3 rfl rfl rfl ?_
      refine a_eSN1 rfl lX4_19 mo_X11_bit sp_X11_bit rfl rfl rfl rfl ?_
      refine a_s rfl rfl ?_
      refine a_s2 rfl rfl rfl rfl rfl rfl ?_
      refine a_iv3 (y := nI (j + 1)) rfl rfl rfl ((nI_succ j).symm) ?_
      refine a_goto rfl ?_
      exact a_back ih (by simp [lsub, bs_t (show afP W k j = true from hb)]) rfl
theorem fq_ring (h : Sy I) : SpE S m_X11_ring 17 [.ref 200] (hp I L w1 w2 t) (some (.int (bs (dn (I 421)) (riP (I 421))))) (hp I L w1 w2 t) := by
  refine SpE_of ok_X11_ring rfl rfl ?_
  show AW S m_X11_ring 17 _ _ 0 0 0 [some (.ref 200)] [] (hp I L w1 w2 t)
  refine a_l0 rfl rfl rfl ?_
  refine a_getq rfl gfX11_37_11 rfl (rfl) ?_
  refine a_eS1 rfl lX11_295 mo_X4_ringBits (f_ringBits h.nm.1 h.nm.2.2 h.d3) rfl rfl rfl rfl ?_
  exact a_iret rfl rfl ⟨rfl, rfl⟩
theorem fq_after (h : Sy I) : Sp S m_X11_after 17 1 6 [.ref 200, .int x1] (hp I L w1 w2 t) (Qc I (vD (dn (I 421)) x1) (bs (dn (I 421)) (afP (I 421) (ixN x1))) L w1 w2 t) (Xc I (vD (dn (I 421)) x1) [(1, 0)] L w1 w2) := by
  have h12 := h.n12
  refine Sp_of ok_X11_after rfl rfl ?_
  show AW S m_X11_after 17 _ _ 1 6 0 [some (.ref 200), some (.int x1)] [] (hp I L w1 w2 t)
  refine a_l0 rfl rfl rfl ?_
  refine a_l1 rfl rfl rfl ?_
  refine a_callV rfl lX11_141 mo_X11_needDuty (f_needDuty h.d3 (by omega)) rfl rfl rfl ⟨11, _, rfl, rfl, rfl⟩ rfl (fun v' h' hv => ?_) (fun E h' ex => ?_)
  rotate_left
  · obtain ⟨rfl, hz, rfl⟩ := ex
    exact Xc.mk (1, 0) List.mem_cons_self (if_neg (by rw [hz]; exact Bool.false_ne_true)) rfl
  obtain ⟨rfl, hz, rfl⟩ := hv
  obtain ⟨i, hi, rfl⟩ := inB_ix (by omega) hz
  have hx := ixN_nI (i := i) (by omega)
  refine a_l0 rfl rfl rfl ?_
  refine a_getq rfl gfX11_37_11 rfl (rfl) ?_
  refine a_l1 rfl rfl rfl ?_
  refine a_eS1 rfl lX11_301 mo_X4_leaningOn (f_leaningOn h.nm.1 h.nm.2.2 h.d3) rfl rfl rfl rfl ?_
  exact a_iret rfl rfl (Qc.yes (if_pos hz) (by rw [hx]))
theorem hq_ring (h : Sy I) : SpE S m_X12_ring 18 [.ref 420] (hp I L w1 w2 t) (some (.int (bs (dn (I 421)) (riP (I 421))))) (hp (up2 I 420 0 0) L w1 w2 t) := by
  have h12 := h.n12
  have e21 : up2 I 420 0 0 421 = I 421 := up2_row (by decide)
  have du := h.s0.du
  refine SpE_of ok_X12_ring rfl rfl ?_
  show AW S m_X12_ring 18 _ _ 0 0 0 [some (.ref 420)] [] (hp I L w1 w2 t)
  refine a_l0 rfl rfl rfl ?_
  refine a_s rfl rfl ?_
  refine a_puti rfl pfX12_3_12 rfl ?_
  refine a_l0 rfl rfl rfl ?_
  have rg : SpE S m_X12_ringOnes 17 [.ref 420] (hp (up2 I 420 0 0) L w1 w2 t) (some (.int (bs (dn (I 421)) (riP (I 421))))) (hp (up2 I 420 0 0) L w1 w2 t) := by
    refine SpE_of ok_X12_ringOnes rfl rfl ?_
    show AW S m_X12_ringOnes 17 _ _ 0 0 0 [some (.ref 420), none, none] [] (hp (up2 I 420 0 0) L w1 w2 t)
    refine a_s rfl rfl ?_
    refine a_s1 rfl rfl rfl rfl rfl rfl ?_
    refine a_s rfl rfl ?_
    refine a_s2 rfl rfl rfl rfl rfl rfl ?_
    refine a_forE (n := dn (I 421)) (fun j => [some (.ref 420), some (.int (bs j (riP (I 421)))), some (.int (nI j))]) (fun j => hp (up2 I 420 0 0) L w1 w2 t) (by simp [lsub, nI_0, bs]) rfl ?_ (fun j hj ih => ?_)
    · refine a_l2 rfl rfl rfl ?_
      refine a_l0 rfl rfl rfl ?_
      refine a_eV1 rfl lX12_74 mo_X12_duties sp_X12_duties rfl rfl rfl ⟨12, _, rfl, rfl, rfl⟩ rfl ?_
      refine a_top (y := nI (dn (I 421))) (du) ?_
      refine a_ic_ge rfl (fun _ => ?_) (fun c => absurd (Int32.le_refl _) c)
      refine a_l1 rfl rfl rfl ?_
      exact a_iret rfl rfl ⟨rfl, rfl⟩
    · refine a_l2 rfl rfl rfl ?_
      refine a_l0 rfl rfl rfl ?_
      refine a_eV1 rfl lX12_74 mo_X12_duties sp_X12_duties rfl rfl rfl ⟨12, _, rfl, rfl, rfl⟩ rfl ?_
      refine a_top (y := nI (dn (I 421))) (du) ?_
      refine a_ic_ge rfl (fun c => absurd c (nI_ge hj (by omega))) (fun _ => ?_)
      refine a_l1 rfl rfl rfl ?_
      refine a_l0 rfl rfl rfl ?_
      refine a_l2 rfl rfl rfl ?_
      refine a_eV1 rfl lX12_417 mo_X12_beforeOf (h_beforeOf e21 h.nm.2.2 hj) rfl rfl rfl ⟨12, _, rfl, rfl, rfl⟩ rfl ?_
      refine a_l2 rfl rfl rfl ?_
      refine a_eS1 rfl lX12_304 mo_X12_has sp_X12_has rfl rfl rfl rfl ?_
      rw [shb_has (show j < 31 by omega)]
      cases hb : hasF (beW (I 421) j) (nI j) with
      | false =>
        refine a_if_eq rfl (fun _ => ?_) (fun c => absurd rfl c)
        refine a_s rfl rfl ?_
        refine a_s rfl rfl ?_
        refine a_s1 rfl rfl rfl rfl rfl rfl ?_
        refine a_iv2 (y := nI (j + 1)) rfl rfl rfl ((nI_succ j).symm) ?_
        refine a_goto rfl ?_
        exact a_back ih (by simp [lsub, bs_f (show riP (I 421) j = false from hb)]) rfl
      | true =>
        refine a_if_eq rfl (fun c => absurd c (by decide)) (fun _ => ?_)
        refine a_s rfl rfl ?_
        refine a_l2 rfl rfl rfl ?_
        refine a_s rfl rfl ?_
        refine a_goto rfl ?_
        refine a_s rfl rfl ?_
        refine a_s1 rfl rfl rfl rfl rfl rfl ?_
        refine a_iv2 (y := nI (j + 1)) rfl rfl rfl ((nI_succ j).symm) ?_
        refine a_goto rfl ?_
        exact a_back ih (by simp [lsub, bs_t (show riP (I 421) j = true from hb), bit_lt (show j < 31 by omega)]) rfl
  refine a_eV1 rfl lX12_420 mo_X12_ringOnes rg rfl rfl rfl ⟨12, _, rfl, rfl, rfl⟩ rfl ?_
  exact a_iret rfl rfl ⟨rfl, rfl⟩
theorem hq_after (h : Sy I) : Sp S m_X12_after 17 0 0 [.ref 420, .int x1] (hp I L w1 w2 t) (Qr I (vD (dn (I 421)) x1) (bs (dn (I 421)) (afP (I 421) (ixN x1))) L w1 w2 t) nX := by
  have h12 := h.n12
  have e21 : up2 I 420 0 0 421 = I 421 := up2_row (by decide)
  have du := h.s0.du
  refine Sp_of ok_X12_after rfl rfl ?_
  show AW S m_X12_after 17 _ _ 0 0 0 [some (.ref 420), some (.int x1), none, none] [] (hp I L w1 w2 t)
  refine a_l0 rfl rfl rfl ?_
  refine a_s rfl rfl ?_
  refine a_puti rfl pfX12_3_12 rfl ?_
  refine a_l0 rfl rfl rfl ?_
  refine a_l0 rfl rfl rfl ?_
  refine a_l1 rfl rfl rfl ?_
  refine a_eV1 rfl lX12_289 mo_X12_noDuty (r_X12_noDuty h.s0) rfl rfl rfl ⟨12, _, rfl, rfl, rfl⟩ rfl ?_
  obtain ⟨z, hz⟩ : ∃ z, inB x1 0 (nI (dn (I 421)) - 1) = z := ⟨_, rfl⟩
  rw [hz]
  refine a_s rfl rfl ?_
  cases z with
  | false =>
    refine a_eV1 rfl lX12_243 mo_X12_throwsIf (h_throwsIf (z := true)) rfl rfl rfl ⟨12, _, rfl, rfl, rfl⟩ rfl ?_
    rw [if_pos rfl]
    refine a_if_eq rfl (fun c => absurd c (by decide)) (fun _ => ?_)
    refine a_s rfl rfl ?_
    exact a_iret rfl rfl (Qr.no (if_neg (by rw [hz]; exact Bool.false_ne_true)) (by decide))
  | true =>
  refine a_eV1 rfl lX12_243 mo_X12_throwsIf (h_throwsIf (z := false)) rfl rfl rfl ⟨12, _, rfl, rfl, rfl⟩ rfl ?_
  rw [if_neg Bool.false_ne_true]
  refine a_if_eq rfl (fun _ => ?_) (fun c => absurd rfl c)
  obtain ⟨k, hk, rfl⟩ := inB_ix (by omega) hz
  have hx := ixN_nI (i := k) (by omega)
  refine a_s rfl rfl ?_
  refine a_s2 rfl rfl rfl rfl rfl rfl ?_
  refine a_s rfl rfl ?_
  refine a_s3 rfl rfl rfl rfl rfl rfl ?_
  refine a_forE (n := dn (I 421)) (fun j => [some (.ref 420), some (.int (nI k)), some (.int (bs j (afP (I 421) k))), some (.int (nI j))]) (fun j => hp (up2 I 420 0 0) L w1 w2 t) (by simp [lsub, nI_0, bs]) rfl ?_ (fun j hj ih => ?_)
  · refine a_l3 rfl rfl rfl ?_
    refine a_l0 rfl rfl rfl ?_
    refine a_eV1 rfl lX12_74 mo_X12_duties sp_X12_duties rfl rfl rfl ⟨12, _, rfl, rfl, rfl⟩ rfl ?_
    refine a_top (y := nI (dn (I 421))) (du) ?_
    refine a_ic_ge rfl (fun _ => ?_) (fun c => absurd (Int32.le_refl _) c)
    refine a_l2 rfl rfl rfl ?_
    exact a_iret rfl rfl (Qr.yes (if_pos hz) (by rw [hx]))
  · refine a_l3 rfl rfl rfl ?_
    refine a_l0 rfl rfl rfl ?_
    refine a_eV1 rfl lX12_74 mo_X12_duties sp_X12_duties rfl rfl rfl ⟨12, _, rfl, rfl, rfl⟩ rfl ?_
    refine a_top (y := nI (dn (I 421))) (du) ?_
    refine a_ic_ge rfl (fun c => absurd c (nI_ge hj (by omega))) (fun _ => ?_)
    refine a_l2 rfl rfl rfl ?_
    refine a_l0 rfl rfl rfl ?_
    refine a_l3 rfl rfl rfl ?_
    refine a_eV1 rfl lX12_417 mo_X12_beforeOf (h_beforeOf e21 h.nm.2.2 hj) rfl rfl rfl ⟨12, _, rfl, rfl, rfl⟩ rfl ?_
    refine a_l1 rfl rfl rfl ?_
    refine a_eS1 rfl lX12_304 mo_X12_has sp_X12_has rfl rfl rfl rfl ?_
    rw [shb_has (show k < 31 by omega)]
    cases hb : hasF (beW (I 421) j) (nI k) with
    | false =>
      refine a_if_eq rfl (fun _ => ?_) (fun c => absurd rfl c)
      refine a_s rfl rfl ?_
      refine a_s rfl rfl ?_
      refine a_s2 rfl rfl rfl rfl rfl rfl ?_
      refine a_iv3 (y := nI (j + 1)) rfl rfl rfl ((nI_succ j).symm) ?_
      refine a_goto rfl ?_
      exact a_back ih (by simp [lsub, bs_f (show afP (I 421) k j = false from hb)]) rfl
    | true =>
      refine a_if_eq rfl (fun c => absurd c (by decide)) (fun _ => ?_)
      refine a_s rfl rfl ?_
      refine a_l3 rfl rfl rfl ?_
      refine a_s rfl rfl ?_
      refine a_goto rfl ?_
      refine a_s rfl rfl ?_
      refine a_s2 rfl rfl rfl rfl rfl rfl ?_
      refine a_iv3 (y := nI (j + 1)) rfl rfl rfl ((nI_succ j).symm) ?_
      refine a_goto rfl ?_
      exact a_back ih (by simp [lsub, bs_t (show afP (I 421) k j = true from hb), bit_lt (show j < 31 by omega)]) rfl
end T79zzc
end
section
/-! ===== looking ahead: the day ahead of both sides, and what is kept ===== -/
section T79zzj
variable {S : aS} {I J K : Nat → Nat → Int32} {L : Nat → Nat → Int64} {w1 w2 t d p nl len a : Nat} {cd fa fn : Nat → Nat} {W V : Nat → Int32} {x x1 x2 x3 : Int32}
set_option maxRecDepth 100000
theorem Sd.eq9 (h : Sd I a W) (e : ∀ k, k < 95 → k ≠ 9 → V k = W k) : Sd I a V := by
  obtain ⟨h1, h2, h3⟩ := h
  have hb : ∀ x ∈ flds, x.2 < 95 ∧ x.2 ≠ 9 := by decide
  refine ⟨fun x hx => ?_, fun p hp => ?_, fun d hd k hk => ?_⟩
  · rw [h1 x hx, e x.2 (hb x hx).1 (hb x hx).2]
  · rw [e _ (by omega) (by omega), e _ (by omega) (by omega)]
    exact h2 p hp
  · rw [e _ (by omega) (by omega)]
    exact h3 d hd k hk
theorem dyP_lo {k : Nat} (h : k < 95 ∨ 335 ≤ k) (h9 : k ≠ 9) : dyP cd fa fn nl V k = V k := by
  unfold dyP
  split
  · exact ltF_lo h h9
  · rfl
theorem ds0 (hG : Rg W) (hN : LwN W nl) : DsOk nl W W := ⟨hG, rfl, rfl, hN, rfl, fun _ _ => rfl⟩
/-- what the class's street of later days may change -/
theorem Fm_late (hf : ∀ q, (q < 257 ∨ 257 + 8 < q) → q ≠ 246 + 6 → q ≠ 246 + 7 → J q = I q) : Fm sQ I J := fun q k hq => by
  have h3 : q < 257 ∨ 257 + 8 < q := by
    rcases Nat.lt_or_ge q 257 with c | c
    · exact Or.inl c
    · rcases Nat.lt_or_ge (257 + 8) q with c2 | c2
      · exact Or.inr c2
      · exfalso
        unfold sQ at hq
        rw [show Nat.ble 257 q = true from Nat.ble_eq_true_of_le c, show Nat.ble q 267 = true from Nat.ble_eq_true_of_le (by omega)] at hq
        simp at hq
  have h4 : q ≠ 252 := fun c => by
    subst c
    cases hq
  have h5 : q ≠ 253 := fun c => by
    subst c
    cases hq
  rw [hf q h3 h4 h5]
theorem f_late {dr : Bool} (hD : Sd I 257 V) (ok : DsOk nl W V) (hL : LwS I 246 W nl len cd fa fn) : Sp S m_X5_passDay 19 0 0 [.ref 257, .ref 246, .int (bI dr)] (hp I L w1 w2 t) (fun v h' => v = none ∧ ∃ J, h' = hp J L w1 w2 t ∧ Fm sQ I J ∧ Sd J 257 (dyP cd fa fn nl (dayW (!dr) (gwL cd fa fn nl) V))) nX := by
  have lV : LwS I 246 V nl len cd fa fn := LwS.eq hL (fun _ _ _ => rfl) ok.2.2.2.2.1 ok.2.2.2.2.2
  refine Sp.weaken (f_passDay (a := 257) (b := 246) (dr := dr) (by decide) (by decide) hD ok.1 lV ok.2.2.2.1) (fun v h' hv => ?_) (fun E h' z => z)
  obtain ⟨rfl, J, rfl, hf, DJ⟩ := hv
  exact ⟨rfl, J, rfl, Fm_late hf, Sd.eq9 DJ fun k h1 h9 => dyP_lo (Or.inl h1) h9⟩
theorem Fm_copy : Fm sQ I (cpS I 257 235 9) := Fm_late fun q h1 _ _ => cpS_out (by omega)
/-- the law and the ranges stay where only scratch changes -/
theorem LwS.fq (h : LwS I 246 W nl len cd fa fn) (f : Fm sQ I J) : LwS J 246 W nl len cd fa fn := LwS.eq h (fun q g1 g2 => funext fun k => f q k (by
  have : q = 246 ∨ q = 247 ∨ q = 248 ∨ q = 249 ∨ q = 250 ∨ q = 251 := by omega
  rcases this with rfl | rfl | rfl | rfl | rfl | rfl <;> rfl)) rfl fun _ _ => rfl
/-! the reference: kept and brought back -/
theorem back_ok (hK : K 421 = I 421) (fK : Fm sV I K) (hf : ∀ q, q ≠ 421 → q ≠ 428 → q ≠ 429 → J q = cpP K 424 421 335 q) (e : ∀ k, 335 ≤ k → J 421 k = I 421 k) : (cpP J 421 424 335) 421 = I 421 ∧ Fm sV I (cpP J 421 424 335) ∧ (cpP J 421 424 335) 420 0 = K 420 0 := by
  have e1 : (cpP J 421 424 335) 421 = I 421 := by
    funext k
    show (upr J 421 (fun k => if k < 335 then J 424 k else J 421 k)) 421 k = I 421 k
    rw [upr_at]
    by_cases c : k < 335
    · show (if k < 335 then J 424 k else J 421 k) = I 421 k
      rw [if_pos c, hf 424 (by decide) (by decide) (by decide)]
      show (upr K 424 (fun k => if k < 335 then K 421 k else K 424 k)) 424 k = I 421 k
      rw [upr_at]
      show (if k < 335 then K 421 k else K 424 k) = I 421 k
      rw [if_pos c, hK]
    · show (if k < 335 then J 424 k else J 421 k) = I 421 k
      rw [if_neg c]
      exact e k (by omega)
  have e2 : ∀ q, q ≠ 421 → q ≠ 424 → q ≠ 428 → q ≠ 429 → (cpP J 421 424 335) q = K q := fun q h1 h2 h3 h4 => by
    rw [cpP_out h1, hf q h1 h3 h4, cpP_out h2]
  refine ⟨e1, fun q k hq => ?_, congrFun (e2 420 (by decide) (by decide) (by decide) (by decide)) 0⟩
  by_cases c1 : q = 421
  · rw [c1, e1]
  · have h2 : q ≠ 424 := fun c => by
      subst c
      cases hq
    have h3 : q ≠ 428 := fun c => by
      subst c
      cases hq
    have h4 : q ≠ 429 := fun c => by
      subst c
      cases hq
    rw [e2 q c1 h2 h3 h4]
    exact fK q k hq
/-! ahead -/
def vAh (nd : Nat) (x y z : Int32) : Int32 := if inB x 0 (nI nd - 1) = true then (if inB y 0 90 = true then (if inB z 0 2 = true then 0 else 3) else 2) else 1
def ahK : Nat → Nat
  | 0 => 1
  | 1 => 2
  | _ => 5
def ahW (W : Nat → Int32) (cd fa fn : Nat → Nat) (nl d n i : Nat) : Int32 := vd (dsW true cd fa fn nl W n) (ahK i) d
theorem fq_ahead (h : Sy I) (lw : LwS I 246 (I 421) nl len cd fa fn) (ln : LwN (I 421) nl) : Sp S m_X11_ahead 20 3 18 [.ref 200, .int x1, .int x2, .int x3] (hp I L w1 w2 t) (Qc I (vAh (dn (I 421)) x1 x2 x3) (ahW (I 421) cd fa fn nl (ixN x1) (ixN x2) (ixN x3)) L w1 w2 t) (Xc I (vAh (dn (I 421)) x1 x2 x3) [(1, 0), (2, 1), (3, 4)] L w1 w2) := by
  have h12 := h.n12
  refine Sp_of ok_X11_ahead rfl rfl ?_
  show AW S m_X11_ahead 20 _ _ 3 18 0 [some (.ref 200), some (.int x1), some (.int x2), some (.int x3), none] [] (hp I L w1 w2 t)
  refine a_l0 rfl rfl rfl ?_
  refine a_l1 rfl rfl rfl ?_
  refine a_callV rfl lX11_141 mo_X11_needDuty (f_needDuty h.d3 (by omega)) rfl rfl rfl ⟨11, _, rfl, rfl, rfl⟩ rfl (fun v' h' hv => ?_) (fun E h' ex => ?_)
  rotate_left
  · obtain ⟨rfl, hz, rfl⟩ := ex
    exact Xc.mk (1, 0) List.mem_cons_self (if_neg (by rw [hz]; exact Bool.false_ne_true)) rfl
  obtain ⟨rfl, hz1, rfl⟩ := hv
  refine a_l2 rfl rfl rfl ?_
  refine a_s rfl rfl ?_
  refine a_s rfl rfl ?_
  refine a_callS rfl lX11_250 mo_X11_needNumber (f_needNumber) rfl rfl rfl rfl (fun v' h' hv => ?_) (fun E h' ex => ?_)
  rotate_left
  · obtain ⟨rfl, hz, rfl⟩ := ex
    exact Xc.mk (2, 1) (List.mem_cons_of_mem _ List.mem_cons_self) ((if_pos hz1).trans (if_neg (by rw [hz]; exact Bool.false_ne_true))) rfl
  obtain ⟨rfl, hz2, rfl⟩ := hv
  have no : inB x3 0 2 = false → ∀ {k1 k2 : Nat}, k1 = 1 → k2 = 6 → AW S m_X11_ahead 20 (Qc I (vAh (dn (I 421)) x1 x2 x3) (ahW (I 421) cd fa fn nl (ixN x1) (ixN x2) (ixN x3)) L w1 w2 t) (Xc I (vAh (dn (I 421)) x1 x2 x3) [(1, 0), (2, 1), (3, 4)] L w1 w2) k1 k2 21 [some (.ref 200), some (.int x1), some (.int x2), some (.int x3), none] [] (hp I L w1 w2 t) := by
    rintro z _ _ rfl rfl
    exact a_throw rfl rfl rfl rfl tX11_nsee rfl rfl rfl rfl rfl (Xc.mk (3, 4) (List.mem_cons_of_mem _ (List.mem_cons_of_mem _ List.mem_cons_self)) ((if_pos hz1).trans ((if_pos hz2).trans (if_neg (by rw [z]; exact Bool.false_ne_true)))) rfl)
  refine a_l3 rfl rfl rfl ?_
  refine a_if_lt rfl (fun c => no (decide_eq_false fun q => absurd c (Int32.not_lt.mpr q.1)) rfl rfl) (fun c => ?_)
  refine a_l3 rfl rfl rfl ?_
  refine a_s rfl rfl ?_
  refine a_ic_le rfl (fun c2 => ?_) (fun c2 => no (decide_eq_false fun q => c2 q.2) rfl rfl)
  have hz3 : inB x3 0 2 = true := decide_eq_true ⟨Int32.not_lt.mp c, c2⟩
  have c0 : vAh (dn (I 421)) x1 x2 x3 = 0 := (if_pos hz1).trans ((if_pos hz2).trans (if_pos hz3))
  obtain ⟨d, hd, rfl⟩ := inB_ix (by omega) hz1
  obtain ⟨n, -, hn, rfl⟩ := inB_nI (a := 0) (b := 90) (by decide) hz2
  obtain ⟨i, -, hi, rfl⟩ := inB_nI (a := 0) (b := 2) (by decide) hz3
  have ok0 := ds0 (W := I 421) h.nm.2.2 ln
  rw [ixN_nI (by omega), ixN_nI (by omega), ixN_nI (by omega)]
  refine a_l0 rfl rfl rfl ?_
  refine a_getq rfl gfX11_55_11 rfl (rfl) ?_
  refine a_l0 rfl rfl rfl ?_
  refine a_getq rfl gfX11_37_11 rfl (rfl) ?_
  refine a_eV0 rfl lX11_78 mo_X5_copyFrom (sp_X5_copyFrom (a := 257) (b := 235) (by decide) (by decide) (by decide)) rfl rfl rfl ⟨5, _, rfl, rfl, rfl⟩ rfl ?_
  refine a_s rfl rfl ?_
  refine a_s4 rfl rfl rfl rfl rfl rfl ?_
  refine a_inv (n := n) (fun m ls hh => ∃ j J, ls = [some (.ref 200), some (.int (nI d)), some (.int (nI n)), some (.int (nI i)), some (.int (nI j))] ∧ hh = hp J L w1 w2 t ∧ Fm sQ I J ∧ Sd J 257 (dsW true cd fa fn nl (I 421) j) ∧ j ≤ n ∧ m = n - j) ⟨0, _, rfl, rfl, Fm_copy, Sd.cp h.nm.1 (Nat.le_refl _), Nat.zero_le _, rfl⟩ ?_
  rintro m _ _ ⟨j, J, rfl, rfl, fJ, DJ, hj, hm⟩ ih
  have okj := dsW_ok (calm := true) (cd := cd) (fa' := fa) (fn := fn) ok0 j
  refine a_l4 rfl rfl rfl ?_
  refine a_l2 rfl rfl rfl ?_
  refine a_ic_ge rfl (fun c => ?_) (fun c => ?_)
  · have hge := nI_ge_of c (by omega) (by omega)
    obtain rfl : j = n := by omega
    refine a_l3 rfl rfl rfl ?_
    rcases i with _ | _ | _ | i
    · refine a_lsw rfl (by decide) (tg := 96) (by decide) ?_
      refine a_l0 rfl rfl rfl ?_
      refine a_getq rfl gfX11_55_11 rfl (rfl) ?_
      refine a_getq rfl gfX11_147_5 rfl (rfl) ?_
      refine a_l1 rfl rfl rfl ?_
      refine a_eS1 rfl lX11_117 mo_X11_at (sp_X11_at rfl) rfl rfl rfl rfl ?_
      rw [atF_nI (show d < 12 by omega) (by decide), show J 261 d = vd (dsW true cd fa fn nl (I 421) j) 1 d from Sd.row (k := 1) DJ (by omega) (by decide)]
      exact a_iret rfl rfl (Qc.yesJ c0 rfl fJ)
    · refine a_lsw rfl (by decide) (tg := 108) (by decide) ?_
      refine a_l0 rfl rfl rfl ?_
      refine a_getq rfl gfX11_55_11 rfl (rfl) ?_
      refine a_getq rfl gfX11_150_5 rfl (rfl) ?_
      refine a_l1 rfl rfl rfl ?_
      refine a_eS1 rfl lX11_117 mo_X11_at (sp_X11_at rfl) rfl rfl rfl rfl ?_
      rw [atF_nI (show d < 12 by omega) (by decide), show J 262 d = vd (dsW true cd fa fn nl (I 421) j) 2 d from Sd.row (k := 2) DJ (by omega) (by decide)]
      exact a_iret rfl rfl (Qc.yesJ c0 rfl fJ)
    · refine a_lsw rfl (by decide) (tg := 120) (by decide) ?_
      refine a_l0 rfl rfl rfl ?_
      refine a_getq rfl gfX11_55_11 rfl (rfl) ?_
      refine a_getq rfl gfX11_159_5 rfl (rfl) ?_
      refine a_l1 rfl rfl rfl ?_
      refine a_eS1 rfl lX11_117 mo_X11_at (sp_X11_at rfl) rfl rfl rfl rfl ?_
      rw [atF_nI (show d < 12 by omega) (by decide), show J 265 d = vd (dsW true cd fa fn nl (I 421) j) 5 d from Sd.row (k := 5) DJ (by omega) (by decide)]
      exact a_iret rfl rfl (Qc.yesJ c0 rfl fJ)
    · omega
  have hjn := nI_lt_of c (by omega) (by omega)
  refine a_l0 rfl rfl rfl ?_
  refine a_getq rfl gfX11_55_11 rfl (rfl) ?_
  refine a_l0 rfl rfl rfl ?_
  refine a_getq rfl gfX11_44_11 rfl (rfl) ?_
  refine a_s rfl rfl ?_
  refine a_gV rfl lX11_254 mo_X5_passDay (f_late (dr := false) DJ okj (lw.fq fJ)) rfl rfl rfl ⟨5, _, rfl, rfl, rfl⟩ rfl (fun v' h' hv => ?_)
  obtain ⟨rfl, J2, rfl, f2, D2⟩ := hv
  refine a_iv4 (y := nI (j + 1)) rfl rfl rfl ((nI_succ j).symm) ?_
  refine a_goto rfl ?_
  exact ih (n - (j + 1)) _ _ (by omega) ⟨j + 1, J2, rfl, rfl, fJ.tr f2, D2, hjn, rfl⟩
theorem hq_ahead (h : Sy I) (lw : LwS I 246 (I 421) nl len cd fa fn) (ln : LwN (I 421) nl) : Sp S m_X12_ahead 26 0 0 [.ref 420, .int x1, .int x2, .int x3] (hp I L w1 w2 t) (Qr I (vAh (dn (I 421)) x1 x2 x3) (ahW (I 421) cd fa fn nl (ixN x1) (ixN x2) (ixN x3)) L w1 w2 t) nX := by
  have h12 := h.n12
  have e21 : up2 I 420 0 0 421 = I 421 := up2_row (by decide)
  have hL : LawR (I 421) nl len cd fa fn := lw.2.1
  refine Sp_of ok_X12_ahead rfl rfl ?_
  show AW S m_X12_ahead 26 _ _ 0 0 0 [some (.ref 420), some (.int x1), some (.int x2), some (.int x3), none] [] (hp I L w1 w2 t)
  refine a_l0 rfl rfl rfl ?_
  refine a_s rfl rfl ?_
  refine a_puti rfl pfX12_3_12 rfl ?_
  refine a_l0 rfl rfl rfl ?_
  refine a_l0 rfl rfl rfl ?_
  refine a_l1 rfl rfl rfl ?_
  refine a_eV1 rfl lX12_289 mo_X12_noDuty (r_X12_noDuty h.s0) rfl rfl rfl ⟨12, _, rfl, rfl, rfl⟩ rfl ?_
  obtain ⟨z, hz⟩ : ∃ z, inB x1 0 (nI (dn (I 421)) - 1) = z := ⟨_, rfl⟩
  rw [hz]
  refine a_s rfl rfl ?_
  cases z with
  | false =>
    refine a_eV1 rfl lX12_243 mo_X12_throwsIf (h_throwsIf (z := true)) rfl rfl rfl ⟨12, _, rfl, rfl, rfl⟩ rfl ?_
    rw [if_pos rfl]
    refine a_if_ne rfl (fun _ => ?_) (fun c => absurd c (by decide))
    refine a_s rfl rfl ?_
    exact a_iret rfl rfl (Qr.no (if_neg (by rw [hz]; exact Bool.false_ne_true)) (by decide))
  | true =>
  refine a_eV1 rfl lX12_243 mo_X12_throwsIf (h_throwsIf (z := false)) rfl rfl rfl ⟨12, _, rfl, rfl, rfl⟩ rfl ?_
  rw [if_neg Bool.false_ne_true]
  refine a_if_ne rfl (fun c => absurd rfl c) (fun _ => ?_)
  refine a_l0 rfl rfl rfl ?_
  refine a_l2 rfl rfl rfl ?_
  refine a_eS1 rfl lX12_392 mo_X12_noDays sp_X12_noDays rfl rfl rfl rfl ?_
  obtain ⟨z2, hz2⟩ : ∃ z, inB x2 0 90 = z := ⟨_, rfl⟩
  rw [hz2]
  refine a_s rfl rfl ?_
  cases z2 with
  | false =>
    refine a_eV1 rfl lX12_243 mo_X12_throwsIf (h_throwsIf (z := true)) rfl rfl rfl ⟨12, _, rfl, rfl, rfl⟩ rfl ?_
    rw [if_pos rfl]
    refine a_if_ne rfl (fun _ => ?_) (fun c => absurd c (by decide))
    refine a_s rfl rfl ?_
    exact a_iret rfl rfl (Qr.no ((if_pos hz).trans (if_neg (by rw [hz2]; exact Bool.false_ne_true))) (by decide))
  | true =>
  refine a_eV1 rfl lX12_243 mo_X12_throwsIf (h_throwsIf (z := false)) rfl rfl rfl ⟨12, _, rfl, rfl, rfl⟩ rfl ?_
  rw [if_neg Bool.false_ne_true]
  refine a_if_ne rfl (fun c => absurd rfl c) (fun _ => ?_)
  refine a_l0 rfl rfl rfl ?_
  refine a_l3 rfl rfl rfl ?_
  refine a_s rfl rfl ?_
  refine a_s rfl rfl ?_
  refine a_eS1 rfl lX12_70 mo_X12_in sp_X12_in rfl rfl rfl rfl ?_
  obtain ⟨z3, hz3⟩ : ∃ z, inB x3 0 2 = z := ⟨_, rfl⟩
  rw [hz3]
  cases z3 with
  | false =>
    refine a_if_ne rfl (fun c => absurd rfl c) (fun _ => ?_)
    refine a_s rfl rfl ?_
    refine a_goto rfl ?_
    refine a_s rfl rfl ?_
    refine a_eV1 rfl lX12_243 mo_X12_throwsIf (h_throwsIf (z := true)) rfl rfl rfl ⟨12, _, rfl, rfl, rfl⟩ rfl ?_
    rw [if_pos rfl]
    refine a_if_eq rfl (fun c => absurd c (by decide)) (fun _ => ?_)
    refine a_s rfl rfl ?_
    exact a_iret rfl rfl (Qr.no ((if_pos hz).trans ((if_pos hz2).trans (if_neg (by rw [hz3]; exact Bool.false_ne_true)))) (by decide))
  | true =>
  refine a_if_ne rfl (fun _ => ?_) (fun c => absurd c (by decide))
  refine a_s rfl rfl ?_
  refine a_s rfl rfl ?_
  refine a_eV1 rfl lX12_243 mo_X12_throwsIf (h_throwsIf (z := false)) rfl rfl rfl ⟨12, _, rfl, rfl, rfl⟩ rfl ?_
  rw [if_neg Bool.false_ne_true]
  refine a_if_eq rfl (fun _ => ?_) (fun c => absurd rfl c)
  have c0 : vAh (dn (I 421)) x1 x2 x3 = 0 := (if_pos hz).trans ((if_pos hz2).trans (if_pos hz3))
  obtain ⟨d, hd, rfl⟩ := inB_ix (by omega) hz
  obtain ⟨n, -, hn, rfl⟩ := inB_nI (a := 0) (b := 90) (by decide) hz2
  obtain ⟨i, -, hi, rfl⟩ := inB_nI (a := 0) (b := 2) (by decide) hz3
  have ok0 := ds0 (W := I 421) h.nm.2.2 ln
  have okn := dsW_ok (calm := true) (cd := cd) (fa' := fa) (fn := fn) ok0 n
  rw [ixN_nI (by omega), ixN_nI (by omega), ixN_nI (by omega)]
  refine a_l0 rfl rfl rfl ?_
  refine a_eV0 rfl lX12_395 mo_X12_keepsAll sp_X12_keepsAll rfl rfl rfl ⟨12, _, rfl, rfl, rfl⟩ rfl ?_
  refine a_l0 rfl rfl rfl ?_
  refine a_l2 rfl rfl rfl ?_
  refine a_s rfl rfl ?_
  refine a_top (y := bI true) (rfl) ?_
  refine a_gV rfl lX12_388 mo_X12_goesOn (h_goesOn (W := I 421) (m := n) (calm := true) ((cpP_out (by decide)).trans e21) h.nm.2.2 hL ln hn) rfl rfl rfl ⟨12, _, rfl, rfl, rfl⟩ rfl (fun v' h' hv => ?_)
  obtain ⟨y, rfl, J, rfl, hf, eJ⟩ := hv
  obtain ⟨b1, b2, b3⟩ := back_ok (I := I) e21 (Fm.up Fm.rf rfl) hf (fun k hk => by rw [eJ]; exact okn.2.2.2.2.2 k hk)
  refine a_s rfl rfl ?_
  refine a_l3 rfl rfl rfl ?_
  have fin : ∀ {v : Int32}, v = ahW (I 421) cd fa fn nl d n i → AW S m_X12_ahead 26 (Qr I (vAh (dn (I 421)) (nI d) (nI n) (nI i)) (ahW (I 421) cd fa fn nl d n i) L w1 w2 t) nX 0 0 98 [some (.ref 420), some (.int (nI d)), some (.int (nI n)), some (.int (nI i)), none] [.int v] (hp J L w1 w2 t) := fun {v} ev => by
    refine a_s4 rfl rfl rfl rfl rfl rfl ?_
    refine a_l0 rfl rfl rfl ?_
    refine a_eV0 rfl lX12_398 mo_X12_bringsBack sp_X12_bringsBack rfl rfl rfl ⟨12, _, rfl, rfl, rfl⟩ rfl ?_
    refine a_l4 rfl rfl rfl ?_
    exact a_iret rfl rfl ⟨v, _, rfl, rfl, b2, b3.trans (up2_at.trans c0.symm), fun _ => ev⟩
  rcases i with _ | _ | _ | i
  · refine a_if_ne rfl (fun c => absurd (show nI 0 = 0 by decide) c) (fun _ => ?_)
    refine a_l0 rfl rfl rfl ?_
    refine a_l1 rfl rfl rfl ?_
    refine a_s rfl rfl ?_
    refine a_eV1 rfl lX12_63 mo_X12_of (sp_X12_of (d := d) (k := 1) (by omega) (by decide)) rfl rfl rfl ⟨12, _, rfl, rfl, rfl⟩ rfl ?_
    rw [eJ]
    refine a_goto rfl ?_
    exact fin rfl
  · refine a_if_ne rfl (fun _ => ?_) (fun c => absurd c (by decide))
    refine a_l3 rfl rfl rfl ?_
    refine a_s rfl rfl ?_
    refine a_ic_ne rfl (fun c => absurd (by decide) c) (fun _ => ?_)
    refine a_l0 rfl rfl rfl ?_
    refine a_l1 rfl rfl rfl ?_
    refine a_s rfl rfl ?_
    refine a_eV1 rfl lX12_63 mo_X12_of (sp_X12_of (d := d) (k := 2) (by omega) (by decide)) rfl rfl rfl ⟨12, _, rfl, rfl, rfl⟩ rfl ?_
    rw [eJ]
    refine a_goto rfl ?_
    exact fin rfl
  · refine a_if_ne rfl (fun _ => ?_) (fun c => absurd c (by decide))
    refine a_l3 rfl rfl rfl ?_
    refine a_s rfl rfl ?_
    refine a_ic_ne rfl (fun _ => ?_) (fun c => absurd c (by decide))
    refine a_l0 rfl rfl rfl ?_
    refine a_l1 rfl rfl rfl ?_
    refine a_s rfl rfl ?_
    refine a_eV1 rfl lX12_63 mo_X12_of (sp_X12_of (d := d) (k := 5) (by omega) (by decide)) rfl rfl rfl ⟨12, _, rfl, rfl, rfl⟩ rfl ?_
    rw [eJ]
    exact fin rfl
  · omega
end T79zzj
end
section
/-! ===== in how many days it is over: exactly, on both sides ===== -/
section T79zzk
variable {S : aS} {I J K : Nat → Nat → Int32} {L : Nat → Nat → Int64} {w1 w2 t d p nl len a : Nat} {cd fa fn : Nat → Nat} {W V : Nat → Int32} {x x1 s : Int32} {b : Bool} {P Q : Nat → Bool}
set_option maxRecDepth 100000
def ovF (P : Nat → Bool) : Nat → Nat → Int32
  | 0, _ => 1000000
  | m + 1, n => if P n = true then nI n else ovF P m (n + 1)
theorem ovF_s {m n : Nat} : ovF P (m + 1) n = if P n = true then nI n else ovF P m (n + 1) := rfl
theorem ovF_congr (h : ∀ n, P n = Q n) : ∀ m n, ovF P m n = ovF Q m n := by
  intro m
  induction m with
  | zero => exact fun _ => rfl
  | succ m ih =>
    intro n
    rw [ovF_s, ovF_s, h n, ih (n + 1)]
theorem ovF_or : ∀ m n, ovF P m n = 1000000 ∨ ∃ k, k < n + m ∧ ovF P m n = nI k := by
  intro m
  induction m with
  | zero => exact fun _ => Or.inl rfl
  | succ m ih =>
    intro n
    rw [ovF_s]
    by_cases c : P n = true
    · rw [if_pos c]
      exact Or.inr ⟨n, by omega, rfl⟩
    · rw [if_neg c]
      rcases ih (n + 1) with z | ⟨k, hk, z⟩
      · exact Or.inl z
      · exact Or.inr ⟨k, by omega, z⟩
theorem far_ne : ∀ j, j ≤ 91 → ¬ nI j = 1000000 := by decide +kernel
def ovP (cd fa fn : Nat → Nat) (nl : Nat) (V : Nat → Int32) (s : Int32) (b : Bool) (n : Nat) : Bool := decide ((if b = true then s &&& (inS (dn V) (vd (dsW true cd fa fn nl V n) 5) 1 ^^^ (-1)) else s &&& inS (dn V) (vd (dsW true cd fa fn nl V n) 5) 0) = 0)
/-- none waits after so many days -/
def waP (cd fa fn : Nat → Nat) (nl : Nat) (V : Nat → Int32) (n : Nat) : Bool := decide (inS (dn V) (vd (dsW true cd fa fn nl V n) 5) 0 = 0)
theorem h_overIn (h421 : K 421 = V) (hG : Rg V) (hL : LawR V nl len cd fa fn) (hN : LwN V nl) : Sp S m_X12_overIn 26 0 0 [.ref 420, .int s, .int (bI b)] (hp K L w1 w2 t) (fun v h' => v = some (.int (ovF (ovP cd fa fn nl V s b) 91 0)) ∧ ∃ J, h' = hp (cpP J 421 424 335) L w1 w2 t ∧ (∀ q, q ≠ 421 → q ≠ 428 → q ≠ 429 → J q = K q) ∧ ∀ k, 335 ≤ k → J 421 k = V k) nX := by
  have ok0 := ds0 hG hN
  have h12 := hG.1.2.1
  refine Sp_of ok_X12_overIn rfl rfl ?_
  show AW S m_X12_overIn 26 _ _ 0 0 0 [some (.ref 420), some (.int s), some (.int (bI b)), none, none, none] [] (hp K L w1 w2 t)
  have fin : ∀ {u4 u5 : Option Value} {J : Nat → Nat → Int32} {y : Int32}, y = ovF (ovP cd fa fn nl V s b) 91 0 → (∀ q, q ≠ 421 → q ≠ 428 → q ≠ 429 → J q = K q) → (∀ k, 335 ≤ k → J 421 k = V k) → AW S m_X12_overIn 26 (fun v h' => v = some (.int (ovF (ovP cd fa fn nl V s b) 91 0)) ∧ ∃ J, h' = hp (cpP J 421 424 335) L w1 w2 t ∧ (∀ q, q ≠ 421 → q ≠ 428 → q ≠ 429 → J q = K q) ∧ ∀ k, 335 ≤ k → J 421 k = V k) nX 0 0 72 [some (.ref 420), some (.int s), some (.int (bI b)), some (.int y), u4, u5] [] (hp J L w1 w2 t) := by
    intro u4 u5 J y hy f1 f2
    refine a_l0 rfl rfl rfl ?_
    refine a_eV0 rfl lX12_398 mo_X12_bringsBack sp_X12_bringsBack rfl rfl rfl ⟨12, _, rfl, rfl, rfl⟩ rfl ?_
    refine a_l3 rfl rfl rfl ?_
    exact a_iret rfl rfl ⟨by rw [hy], J, rfl, f1, f2⟩
  refine a_ldcw rfl kX12_401 ?_
  refine a_s3 rfl rfl rfl rfl rfl rfl ?_
  refine a_s rfl rfl ?_
  refine a_s4 rfl rfl rfl rfl rfl rfl ?_
  refine a_inv (n := 91) (fun m ls hh => ∃ j u J, ls = [some (.ref 420), some (.int s), some (.int (bI b)), some (.int 1000000), some (.int (nI j)), u] ∧ hh = hp J L w1 w2 t ∧ (∀ q, q ≠ 421 → q ≠ 428 → q ≠ 429 → J q = K q) ∧ J 421 = dsW true cd fa fn nl V j ∧ j ≤ 91 ∧ m = 91 - j ∧ ovF (ovP cd fa fn nl V s b) (91 - j) j = ovF (ovP cd fa fn nl V s b) 91 0) ⟨0, none, K, rfl, rfl, fun _ _ _ _ => rfl, h421, by decide, rfl, rfl⟩ ?_
  rintro m _ _ ⟨j, u, J, rfl, rfl, fJ, eJ, hj, hm, hP⟩ ih
  have okj := dsW_ok (calm := true) (cd := cd) (fa' := fa) (fn := fn) ok0 j
  have okn := dsW_ok (calm := true) (cd := cd) (fa' := fa) (fn := fn) ok0 (j + 1)
  refine a_l4 rfl rfl rfl ?_
  refine a_s rfl rfl ?_
  by_cases hj9 : j ≤ 90
  case neg =>
    obtain rfl : j = 91 := by omega
    refine a_ic_gt rfl (fun _ => fin hP fJ (fun k hk => by rw [eJ]; exact okj.2.2.2.2.2 k hk)) (fun c => absurd (show (90 : Int32) < nI 91 by decide) c)
  refine a_ic_gt rfl (fun c => absurd c (nI_nlu (n := 90) (j := j) hj9 (by omega))) (fun _ => ?_)
  rw [show 91 - j = (91 - (j + 1)) + 1 by omega, ovF_s] at hP
  refine a_l3 rfl rfl rfl ?_
  refine a_ldcw rfl kX12_401 ?_
  refine a_ic_ne rfl (fun c => absurd rfl c) (fun _ => ?_)
  have du : J 421 1 = nI (dn V) := by
    rw [eJ, ← okj.2.2.1]
    exact okj.1.1.2.2.2
  have law : LawR (dsW true cd fa fn nl V j) nl len cd fa fn := LawR.eq hL okj.2.2.2.2.1 okj.2.2.2.2.2
  have es : dyP cd fa fn nl (dayW true (gwL cd fa fn nl) (dsW true cd fa fn nl V j)) = dsW true cd fa fn nl V (j + 1) := rfl
  have on : ∀ {y : Int32}, ovP cd fa fn nl V s b j = decide (y = 0) → AW S m_X12_overIn 26 (fun v h' => v = some (.int (ovF (ovP cd fa fn nl V s b) 91 0)) ∧ ∃ J, h' = hp (cpP J 421 424 335) L w1 w2 t ∧ (∀ q, q ≠ 421 → q ≠ 428 → q ≠ 429 → J q = K q) ∧ ∀ k, 335 ≤ k → J 421 k = V k) nX 0 0 44 [some (.ref 420), some (.int s), some (.int (bI b)), some (.int 1000000), some (.int (nI j)), u] [.int y] (hp J L w1 w2 t) := by
    intro y hy
    refine a_s5 rfl rfl rfl rfl rfl rfl ?_
    refine a_l5 rfl rfl rfl ?_
    by_cases c : y = 0
    · refine a_if_ne rfl (fun z => absurd c z) (fun _ => ?_)
      rw [if_pos (by rw [hy]; exact decide_eq_true c)] at hP
      refine a_l4 rfl rfl rfl ?_
      refine a_goto rfl ?_
      refine a_s3 rfl rfl rfl rfl rfl rfl ?_
      refine a_l0 rfl rfl rfl ?_
      refine a_s rfl rfl ?_
      refine a_top (y := bI true) (rfl) ?_
      refine a_gV rfl lX12_385 mo_X12_oneDay (h_oneDay (calm := true) eJ okj.1 law okj.2.2.2.1) rfl rfl rfl ⟨12, _, rfl, rfl, rfl⟩ rfl (fun v' h' hv => ?_)
      obtain ⟨y', rfl, J2, rfl, f2, e2⟩ := hv
      refine a_s rfl rfl ?_
      refine a_iv4 (y := nI (j + 1)) rfl rfl rfl ((nI_succ j).symm) ?_
      refine a_goto rfl ?_
      refine a_l4 rfl rfl rfl ?_
      refine a_s rfl rfl ?_
      have f3 : ∀ q, q ≠ 421 → q ≠ 428 → q ≠ 429 → J2 q = K q := fun q h1 h2 h3 => (f2 q h1 h2 h3).trans (fJ q h1 h2 h3)
      have f4 : ∀ k, 335 ≤ k → J2 421 k = V k := fun k hk => by
        rw [e2, es]
        exact okn.2.2.2.2.2 k hk
      refine a_ic_gt rfl (fun _ => fin hP f3 f4) (fun _ => ?_)
      refine a_l3 rfl rfl rfl ?_
      refine a_ldcw rfl kX12_401 ?_
      exact a_ic_ne rfl (fun _ => fin hP f3 f4) (fun z => absurd z (far_ne j (by omega)))
    · refine a_if_ne rfl (fun _ => ?_) (fun z => absurd z c)
      rw [if_neg (by rw [hy, decide_eq_false c]; exact Bool.false_ne_true)] at hP
      refine a_ldcw rfl kX12_401 ?_
      refine a_s3 rfl rfl rfl rfl rfl rfl ?_
      refine a_l0 rfl rfl rfl ?_
      refine a_s rfl rfl ?_
      refine a_top (y := bI true) (rfl) ?_
      refine a_gV rfl lX12_385 mo_X12_oneDay (h_oneDay (calm := true) eJ okj.1 law okj.2.2.2.1) rfl rfl rfl ⟨12, _, rfl, rfl, rfl⟩ rfl (fun v' h' hv => ?_)
      obtain ⟨y', rfl, J2, rfl, f2, e2⟩ := hv
      refine a_s rfl rfl ?_
      refine a_iv4 (y := nI (j + 1)) rfl rfl rfl ((nI_succ j).symm) ?_
      refine a_goto rfl ?_
      exact ih (91 - (j + 1)) _ _ (by omega) ⟨j + 1, some (.int y), J2, rfl, rfl, fun q h1 h2 h3 => (f2 q h1 h2 h3).trans (fJ q h1 h2 h3), e2.trans es, by omega, rfl, hP⟩
  refine a_l2 rfl rfl rfl ?_
  cases b with
  | false =>
    refine a_if_eq rfl (fun _ => ?_) (fun c => absurd rfl c)
    refine a_l1 rfl rfl rfl ?_
    refine a_l0 rfl rfl rfl ?_
    refine a_s rfl rfl ?_
    refine a_eV1 rfl lX12_324 mo_X12_ofState (sp_X12_ofState h12 du) rfl rfl rfl ⟨12, _, rfl, rfl, rfl⟩ rfl ?_
    rw [eJ]
    refine a_s rfl rfl ?_
    exact on rfl
  | true =>
    refine a_if_eq rfl (fun c => absurd c (by decide)) (fun _ => ?_)
    refine a_l1 rfl rfl rfl ?_
    refine a_l0 rfl rfl rfl ?_
    refine a_s rfl rfl ?_
    refine a_eV1 rfl lX12_324 mo_X12_ofState (sp_X12_ofState h12 du) rfl rfl rfl ⟨12, _, rfl, rfl, rfl⟩ rfl ?_
    rw [eJ]
    refine a_s rfl rfl ?_
    refine a_s rfl rfl ?_
    refine a_s rfl rfl ?_
    refine a_goto rfl ?_
    exact on rfl
/-! all that are there, as bits -/
def alD (n : Nat) : Int32 := (1 : Int32) <<< (nI n &&& 31) - 1
theorem alD_and : ∀ n, n ≤ 12 → ∀ m, m < 2 ^ n → alD n &&& nI m = nI m := by decide +kernel
theorem alD_bs (hn : d ≤ 12) : alD d &&& bs d P = bs d P := by
  obtain ⟨m, hm, e⟩ := bs_nI (P := P) hn
  rw [e]
  exact alD_and d hn m hm
theorem ovP_al (hn : dn V ≤ 12) (n : Nat) : ovP cd fa fn nl V (alD (dn V)) false n = waP cd fa fn nl V n := by
  unfold ovP waP
  rw [if_neg Bool.false_ne_true]
  unfold inS
  rw [alD_bs hn]
theorem h_allDuties (du : K 421 1 = nI d) : SpE S m_X12_allDuties 13 [.ref 420] (hp K L w1 w2 t) (some (.int (alD d))) (hp K L w1 w2 t) := by
  refine SpE_of ok_X12_allDuties rfl rfl ?_
  show AW S m_X12_allDuties 13 _ _ 0 0 0 [some (.ref 420)] [] (hp K L w1 w2 t)
  refine a_s rfl rfl ?_
  refine a_l0 rfl rfl rfl ?_
  refine a_eV1 rfl lX12_74 mo_X12_duties sp_X12_duties rfl rfl rfl ⟨12, _, rfl, rfl, rfl⟩ rfl ?_
  refine a_top (y := nI d) (du) ?_
  refine a_s rfl rfl ?_
  refine a_s rfl rfl ?_
  refine a_s rfl rfl ?_
  exact a_iret rfl rfl ⟨rfl, rfl⟩
theorem h_orNone {h : aH} : SpE S m_X12_orNone 12 [.int x] h (some (.int (if 1000000 ≤ x then -1 else x))) h := by
  refine SpE_of ok_X12_orNone rfl rfl ?_
  show AW S m_X12_orNone 12 _ _ 0 0 0 [some (.int x)] [] h
  refine a_l0 rfl rfl rfl ?_
  refine a_ldcw rfl kX12_401 ?_
  refine a_ic_lt rfl (fun c => ?_) (fun c => ?_)
  · refine a_l0 rfl rfl rfl ?_
    exact a_iret rfl rfl ⟨by rw [if_neg (Int32.not_le.mpr c)], rfl⟩
  · refine a_s rfl rfl ?_
    refine a_goto rfl ?_
    exact a_iret rfl rfl ⟨by rw [if_pos (Int32.not_lt.mp c)], rfl⟩
/-- the class's word for never -/
def nvF (x : Int32) : Int32 := if x = 1000000 then 1000 else x
theorem f_tillNone (hD : Sd I 257 V) (hG : Rg V) (hN : LwN V nl) (hL : LwS I 246 V nl len cd fa fn) : Sp S m_X5_daysTillNoneWaits 21 0 0 [.ref 257, .ref 246] (hp I L w1 w2 t) (fun v h' => v = some (.int (nvF (ovF (waP cd fa fn nl V) 91 0))) ∧ ∃ J, h' = hp J L w1 w2 t ∧ Fm sQ I J) nX := by
  have ok0 := ds0 hG hN
  have h12 := hG.1.2.1
  refine Sp_of ok_X5_daysTillNoneWaits rfl rfl ?_
  show AW S m_X5_daysTillNoneWaits 21 _ _ 0 0 0 [some (.ref 257), some (.ref 246), none] [] (hp I L w1 w2 t)
  refine a_s rfl rfl ?_
  refine a_s2 rfl rfl rfl rfl rfl rfl ?_
  refine a_inv (n := 91) (fun m ls hh => ∃ j J, ls = [some (.ref 257), some (.ref 246), some (.int (nI j))] ∧ hh = hp J L w1 w2 t ∧ Fm sQ I J ∧ Sd J 257 (dsW true cd fa fn nl V j) ∧ j ≤ 91 ∧ m = 91 - j ∧ ovF (waP cd fa fn nl V) (91 - j) j = ovF (waP cd fa fn nl V) 91 0) ⟨0, I, rfl, rfl, Fm.rf, hD, by decide, rfl, rfl⟩ ?_
  rintro m _ _ ⟨j, J, rfl, rfl, fJ, DJ, hj, hm, hP⟩ ih
  have okj := dsW_ok (calm := true) (cd := cd) (fa' := fa) (fn := fn) ok0 j
  refine a_l2 rfl rfl rfl ?_
  refine a_s rfl rfl ?_
  by_cases hj9 : j ≤ 90
  case neg =>
    obtain rfl : j = 91 := by omega
    refine a_ic_gt rfl (fun _ => ?_) (fun c => absurd (show (90 : Int32) < nI 91 by decide) c)
    refine a_s rfl rfl ?_
    refine a_iret rfl rfl ⟨?_, J, rfl, fJ⟩
    rw [← hP]
    rfl
  refine a_ic_gt rfl (fun c => absurd c (nI_nlu (n := 90) (j := j) hj9 (by omega))) (fun _ => ?_)
  rw [show 91 - j = (91 - (j + 1)) + 1 by omega, ovF_s] at hP
  have d3 : J 257 3 = nI (dn V) := by
    rw [Sd.fd DJ (f := 3) (g := 1) (by decide), ← okj.2.2.1]
    exact okj.1.1.2.2.2
  have eS : inS (dn V) (J (257 + 8)) 0 = inS (dn V) (vd (dsW true cd fa fn nl V j) 5) 0 := by
    rw [← okj.2.2.1]
    exact inS_same DJ okj.1
  refine a_l0 rfl rfl rfl ?_
  refine a_s rfl rfl ?_
  refine a_eV1 rfl lX5_104 mo_X5_bitsIn (sp_X5_bitsIn (nd := dn V) (a := 257) (by decide) d3 h12) rfl rfl rfl ⟨5, _, rfl, rfl, rfl⟩ rfl ?_
  rw [eS]
  by_cases c : inS (dn V) (vd (dsW true cd fa fn nl V j) 5) 0 = 0
  · refine a_if_ne rfl (fun z => absurd c z) (fun _ => ?_)
    rw [if_pos (show waP cd fa fn nl V j = true from decide_eq_true c)] at hP
    refine a_l2 rfl rfl rfl ?_
    refine a_iret rfl rfl ⟨?_, J, rfl, fJ⟩
    rw [← hP, nvF, if_neg (far_ne j (by omega))]
  · refine a_if_ne rfl (fun _ => ?_) (fun z => absurd z c)
    rw [if_neg (by rw [show waP cd fa fn nl V j = false from decide_eq_false c]; exact Bool.false_ne_true)] at hP
    refine a_l0 rfl rfl rfl ?_
    refine a_l1 rfl rfl rfl ?_
    refine a_s rfl rfl ?_
    refine a_gV rfl lX5_144 mo_X5_passDay (f_late (dr := false) DJ okj (hL.fq fJ)) rfl rfl rfl ⟨5, _, rfl, rfl, rfl⟩ rfl (fun v' h' hv => ?_)
    obtain ⟨rfl, J2, rfl, f2, D2⟩ := hv
    refine a_iv2 (y := nI (j + 1)) rfl rfl rfl ((nI_succ j).symm) ?_
    refine a_goto rfl ?_
    exact ih (91 - (j + 1)) _ _ (by omega) ⟨j + 1, J2, rfl, rfl, fJ.tr f2, D2, by omega, rfl, hP⟩
/-! all -/
def noF (x : Int32) : Int32 := if 1000000 ≤ x then -1 else x
theorem no_nv {m n : Nat} (h : n + m ≤ 91) : (if nvF (ovF P m n) = 1000 then -1 else nvF (ovF P m n)) = noF (ovF P m n) := by
  rcases ovF_or (P := P) m n with z | ⟨k, hk, z⟩
  · rw [z]
    rfl
  · rw [z]
    have : ∀ k, k < 91 → (if nvF (nI k) = 1000 then -1 else nvF (nI k)) = noF (nI k) := by decide +kernel
    exact this k (by omega)
theorem fq_all (h : Sy I) (lw : LwS I 246 (I 421) nl len cd fa fn) (ln : LwN (I 421) nl) : Sp S m_X11_all 22 0 0 [.ref 200] (hp I L w1 w2 t) (fun v h' => v = some (.int (noF (ovF (waP cd fa fn nl (I 421)) 91 0))) ∧ ∃ J, h' = hp J L w1 w2 t ∧ Fm sQ I J) nX := by
  refine Sp_of ok_X11_all rfl rfl ?_
  show AW S m_X11_all 22 _ _ 0 0 0 [some (.ref 200), none] [] (hp I L w1 w2 t)
  refine a_l0 rfl rfl rfl ?_
  refine a_getq rfl gfX11_55_11 rfl (rfl) ?_
  refine a_l0 rfl rfl rfl ?_
  refine a_getq rfl gfX11_37_11 rfl (rfl) ?_
  refine a_eV0 rfl lX11_78 mo_X5_copyFrom (sp_X5_copyFrom (a := 257) (b := 235) (by decide) (by decide) (by decide)) rfl rfl rfl ⟨5, _, rfl, rfl, rfl⟩ rfl ?_
  refine a_l0 rfl rfl rfl ?_
  refine a_getq rfl gfX11_55_11 rfl (rfl) ?_
  refine a_l0 rfl rfl rfl ?_
  refine a_getq rfl gfX11_44_11 rfl (rfl) ?_
  refine a_gV rfl lX11_346 mo_X5_daysTillNoneWaits (f_tillNone (Sd.cp h.nm.1 (Nat.le_refl _)) h.nm.2.2 ln (lw.fq Fm_copy)) rfl rfl rfl ⟨5, _, rfl, rfl, rfl⟩ rfl (fun v' h' hv => ?_)
  obtain ⟨rfl, J, rfl, f⟩ := hv
  have e := no_nv (P := waP cd fa fn nl (I 421)) (m := 91) (n := 0) (by decide)
  refine a_s1 rfl rfl rfl rfl rfl rfl ?_
  refine a_l1 rfl rfl rfl ?_
  refine a_s rfl rfl ?_
  by_cases c : nvF (ovF (waP cd fa fn nl (I 421)) 91 0) = 1000
  · rw [if_pos c] at e
    refine a_ic_ne rfl (fun z => absurd c z) (fun _ => ?_)
    refine a_s rfl rfl ?_
    refine a_goto rfl ?_
    exact a_iret rfl rfl ⟨by rw [← e], J, rfl, Fm_copy.tr f⟩
  · rw [if_neg c] at e
    refine a_ic_ne rfl (fun _ => ?_) (fun z => absurd z c)
    refine a_l1 rfl rfl rfl ?_
    exact a_iret rfl rfl ⟨by rw [← e], J, rfl, Fm_copy.tr f⟩
theorem h_allOver (hK : K 421 = I 421) (fK : Fm sV I K) (hG : Rg (I 421)) (hL : LawR (I 421) nl len cd fa fn) (hN : LwN (I 421) nl) : Sp S m_X12_allOver 27 0 0 [.ref 420] (hp K L w1 w2 t) (fun v h' => v = some (.int (ovF (waP cd fa fn nl (I 421)) 91 0)) ∧ ∃ J, h' = hp J L w1 w2 t ∧ Fm sV I J ∧ J 421 = I 421 ∧ J 420 0 = K 420 0) nX := by
  have h12 := hG.1.2.1
  refine Sp_of ok_X12_allOver rfl rfl ?_
  show AW S m_X12_allOver 27 _ _ 0 0 0 [some (.ref 420)] [] (hp K L w1 w2 t)
  have e1 : cpP K 424 421 335 421 = I 421 := (cpP_out (by decide)).trans hK
  refine a_l0 rfl rfl rfl ?_
  refine a_eV0 rfl lX12_395 mo_X12_keepsAll sp_X12_keepsAll rfl rfl rfl ⟨12, _, rfl, rfl, rfl⟩ rfl ?_
  refine a_l0 rfl rfl rfl ?_
  refine a_l0 rfl rfl rfl ?_
  refine a_eV1 rfl lX12_402 mo_X12_allDuties (h_allDuties (d := dn (I 421)) ((congrFun e1 1).trans hG.1.2.2.2)) rfl rfl rfl ⟨12, _, rfl, rfl, rfl⟩ rfl ?_
  refine a_s rfl rfl ?_
  refine a_top (y := bI false) (rfl) ?_
  refine a_gV rfl lX12_405 mo_X12_overIn (h_overIn e1 hG hL hN) rfl rfl rfl ⟨12, _, rfl, rfl, rfl⟩ rfl (fun v' h' hv => ?_)
  obtain ⟨rfl, J, rfl, f1, f2⟩ := hv
  obtain ⟨b1, b2, b3⟩ := back_ok hK fK f1 f2
  exact a_iret rfl rfl ⟨by rw [ovF_congr (ovP_al h12)], _, rfl, b2, b1, b3⟩
theorem hq_all (h : Sy I) (lw : LwS I 246 (I 421) nl len cd fa fn) (ln : LwN (I 421) nl) : Sp S m_X12_all 28 0 0 [.ref 420] (hp I L w1 w2 t) (fun v h' => v = some (.int (noF (ovF (waP cd fa fn nl (I 421)) 91 0))) ∧ ∃ K, h' = hp K L w1 w2 t ∧ Fm sV I K) nX := by
  refine Sp_of ok_X12_all rfl rfl ?_
  show AW S m_X12_all 28 _ _ 0 0 0 [some (.ref 420)] [] (hp I L w1 w2 t)
  refine a_l0 rfl rfl rfl ?_
  refine a_s rfl rfl ?_
  refine a_puti rfl pfX12_3_12 rfl ?_
  refine a_l0 rfl rfl rfl ?_
  refine a_gV rfl lX12_411 mo_X12_allOver (h_allOver (I := I) (up2_row (by decide)) (Fm.up Fm.rf rfl) h.nm.2.2 lw.2.1 ln) rfl rfl rfl ⟨12, _, rfl, rfl, rfl⟩ rfl (fun v' h' hv => ?_)
  obtain ⟨rfl, J, rfl, f, -, -⟩ := hv
  refine a_eS1 rfl lX12_408 mo_X12_orNone h_orNone rfl rfl rfl rfl ?_
  exact a_iret rfl rfl ⟨rfl, J, rfl, f⟩
end T79zzk
end
section
/-! ===== done, sick, help, crux: exactly, on both sides ===== -/
section T79zzl
variable {S : aS} {I J K M : Nat → Nat → Int32} {L : Nat → Nat → Int64} {w1 w2 t d p nl len a : Nat} {cd fa fn : Nat → Nat} {W V : Nat → Int32} {x y x1 s : Int32} {P Q : Nat → Bool}
set_option maxRecDepth 100000
/-- a world changed for a look ahead -/
def VOk (nl : Nat) (W V : Nat → Int32) : Prop := Rg V ∧ LwN V nl ∧ V 3 = W 3 ∧ dn V = dn W ∧ ∀ k, 335 ≤ k → V k = W k
theorem VOk.rf (hG : Rg W) (hN : LwN W nl) : VOk nl W W := ⟨hG, hN, rfl, rfl, fun _ _ => rfl⟩
theorem fr_ok (hG : Rg W) (hN : LwN W nl) (hp : p < pn W) {j : Nat} (hj : j ≤ 9) : VOk nl W (ud W (11 + 2 * p + 1) (nI j)) := by
  have h6 := hG.1.1
  refine ⟨hG.pu hp (fun k hk => if_neg hk) ⟨j, hj, if_pos rfl⟩, LwN.eq hN (fun k hk => if_neg (by omega)), if_neg (by omega), ?_, fun k hk => if_neg (by omega)⟩
  unfold dn ud
  rw [if_neg (by omega)]
theorem fin_ok (hG : Rg W) (hN : LwN W nl) (hd : d < dn W) : VOk nl W (ud (ud W (23 + 6 * d + 1) 0) (23 + 6 * d + 5) 1) := by
  have h12 := hG.1.2.1
  have lo : ∀ k, k ≠ 23 + 6 * d + 1 → k ≠ 23 + 6 * d + 5 → ud (ud W (23 + 6 * d + 1) 0) (23 + 6 * d + 5) 1 k = W k := fun k h1 h5 => (if_neg h5).trans (if_neg h1)
  refine ⟨(hG.upd hd lo (l := 0) (s := 1) (by decide) ?_ (by decide) ?_ (by decide)).1, LwN.eq hN (fun k hk => lo k (by omega) (by omega)), lo 3 (by omega) (by omega), ?_, fun k hk => lo k (by omega) (by omega)⟩
  · unfold ud
    rw [if_neg (by omega), if_pos rfl]
    rfl
  · unfold ud
    rw [if_pos rfl]
    rfl
  · unfold dn
    rw [lo 1 (by omega) (by omega)]
def ovW (cd fa fn : Nat → Nat) (nl : Nat) (V : Nat → Int32) : Int32 := ovF (waP cd fa fn nl V) 91 0
theorem ovW_or : ovW cd fa fn nl V = 1000000 ∨ ∃ k, k < 91 ∧ ovW cd fa fn nl V = nI k := by
  rcases ovF_or (P := waP cd fa fn nl V) 91 0 with z | ⟨k, hk, z⟩
  · exact Or.inl z
  · exact Or.inr ⟨k, by omega, z⟩
theorem h_overV (hK : K 421 = I 421) (fK : Fm sV I K) (h421 : M 421 = V) (ok : VOk nl (I 421) V) (fM : ∀ q, q ≠ 421 → M q = cpP K 424 421 335 q) (hL : LawR (I 421) nl len cd fa fn) : Sp S m_X12_overIn 26 0 0 [.ref 420, .int (alD (dn V)), .int (bI false)] (hp M L w1 w2 t) (fun v h' => v = some (.int (ovW cd fa fn nl V)) ∧ ∃ J, h' = hp J L w1 w2 t ∧ Fm sV I J ∧ J 421 = I 421 ∧ J 420 0 = K 420 0) nX := by
  refine Sp.weaken (h_overIn h421 ok.1 (LawR.eq hL ok.2.2.1 ok.2.2.2.2) ok.2.1) (fun v h' hv => ?_) (fun E h' z => z)
  obtain ⟨rfl, J, rfl, f1, f2⟩ := hv
  obtain ⟨b1, b2, b3⟩ := back_ok hK fK (fun q h1 h2 h3 => (f1 q h1 h2 h3).trans (fM q h1)) (fun k hk => (f2 k hk).trans (ok.2.2.2.2 k hk))
  exact ⟨by rw [ovF_congr (ovP_al ok.1.1.2.1)]; rfl, _, rfl, b2, b1, b3⟩
theorem h_overWith (hK : K 421 = I 421) (fK : Fm sV I K) (hG : Rg (I 421)) (hL : LawR (I 421) nl len cd fa fn) (hN : LwN (I 421) nl) (hp6 : p < pn (I 421)) {j : Nat} (hj : j ≤ 9) : Sp S m_X12_overWith 27 0 0 [.ref 420, .int (nI p), .int (nI j)] (hp K L w1 w2 t) (fun v h' => v = some (.int (ovW cd fa fn nl (ud (I 421) (11 + 2 * p + 1) (nI j)))) ∧ ∃ J, h' = hp J L w1 w2 t ∧ Fm sV I J ∧ J 421 = I 421 ∧ J 420 0 = K 420 0) nX := by
  have h6 := hG.1.1
  have ok := fr_ok hG hN hp6 hj
  have e1 : cpP K 424 421 335 421 = I 421 := (cpP_out (by decide)).trans hK
  have e2 : up2 (cpP K 424 421 335) 421 (11 + 2 * p + 1) (nI j) 421 = ud (I 421) (11 + 2 * p + 1) (nI j) := by rw [up2_ud, e1]
  refine Sp_of ok_X12_overWith rfl rfl ?_
  show AW S m_X12_overWith 27 _ _ 0 0 0 [some (.ref 420), some (.int (nI p)), some (.int (nI j))] [] (hp K L w1 w2 t)
  refine a_l0 rfl rfl rfl ?_
  refine a_eV0 rfl lX12_395 mo_X12_keepsAll sp_X12_keepsAll rfl rfl rfl ⟨12, _, rfl, rfl, rfl⟩ rfl ?_
  refine a_l0 rfl rfl rfl ?_
  refine a_getq rfl gfX12_13_12 rfl (rfl) ?_
  refine a_l1 rfl rfl rfl ?_
  refine a_s rfl rfl ?_
  refine a_eS1 rfl lX12_56 mo_X12_personAt (sp_X12_personAt (d := p) (k := 1)) rfl rfl rfl rfl ?_
  refine a_l2 rfl rfl rfl ?_
  refine a_iastv (k := (11 + 2 * p + 1)) rfl (n := 2033) rfl (inI_nI (by omega) (by omega)) (nI_clamp (by omega)) ?_
  refine a_l0 rfl rfl rfl ?_
  refine a_l0 rfl rfl rfl ?_
  refine a_eV1 rfl lX12_402 mo_X12_allDuties (h_allDuties (d := dn (ud (I 421) (11 + 2 * p + 1) (nI j))) ((congrFun e2 1).trans ok.1.1.2.2.2)) rfl rfl rfl ⟨12, _, rfl, rfl, rfl⟩ rfl ?_
  refine a_s rfl rfl ?_
  refine a_top (y := bI false) (rfl) ?_
  refine a_gV rfl lX12_405 mo_X12_overIn (h_overV hK fK e2 ok (fun q h1 => up2_row h1) hL) rfl rfl rfl ⟨12, _, rfl, rfl, rfl⟩ rfl (fun v' h' hv => ?_)
  obtain ⟨rfl, J, rfl, f, g1, g2⟩ := hv
  exact a_iret rfl rfl ⟨rfl, J, rfl, f, g1, g2⟩
theorem h_allOverW (hK : K 421 = I 421) (fK : Fm sV I K) (hG : Rg (I 421)) (hL : LawR (I 421) nl len cd fa fn) (hN : LwN (I 421) nl) : Sp S m_X12_allOver 27 0 0 [.ref 420] (hp K L w1 w2 t) (fun v h' => v = some (.int (ovW cd fa fn nl (I 421))) ∧ ∃ J, h' = hp J L w1 w2 t ∧ Fm sV I J ∧ J 421 = I 421 ∧ J 420 0 = K 420 0) nX := h_allOver hK fK hG hL hN
/-! done -/
theorem bs_all0 : ∀ {n : Nat}, (∀ e, e < n → P e = false) → bs n P = 0 := by
  intro n
  induction n with
  | zero => exact fun _ => rfl
  | succ n ih => exact fun h => (bs_f (h n (Nat.lt_succ_self n))).trans (ih fun e he => h e (by omega))
theorem bit_bs {n : Nat} (hn : n ≤ 12) (hd : d < n) : bitF (nI d) = bs n (fun e => decide (e = d)) := by
  refine b_ext fun i hi => ?_
  rw [bt_bitF (by omega) hi, bt_bs hn i hi]
  by_cases c : i = d
  · subst c
    rw [decide_eq_true hd, decide_eq_true rfl]
    rfl
  · rw [decide_eq_false c, Bool.and_false]
theorem one_in {n : Nat} (hn : n ≤ 12) (hd : d < n) : decide (bitF (nI d) &&& (bs n Q ^^^ (-1)) = 0) = Q d := by
  rw [bit_bs hn hd, bs_andn hn]
  cases hb : Q d with
  | true =>
    refine decide_eq_true (bs_all0 fun e he => ?_)
    by_cases c : e = d
    · rw [c, hb]
      exact Bool.and_false _
    · rw [decide_eq_false c]
      rfl
  | false =>
    refine decide_eq_false fun z => ?_
    have h2 := hasF_bs (P := fun e => decide (e = d) && !Q e) hn hd
    rw [z, hasF_0 (by omega)] at h2
    have h3 : (decide (d = d) && !Q d) = true := by
      rw [hb, decide_eq_true rfl]
      rfl
    exact Bool.false_ne_true (h2.trans h3)
def doP (cd fa fn : Nat → Nat) (nl : Nat) (V : Nat → Int32) (d n : Nat) : Bool := decide (vd (dsW true cd fa fn nl V n) 5 d = 1)
theorem ovP_do (hn : dn V ≤ 12) (hd : d < dn V) (n : Nat) : ovP cd fa fn nl V (bitF (nI d)) true n = doP cd fa fn nl V d n := by
  unfold ovP doP
  rw [if_pos rfl]
  exact one_in hn hd
def doW (cd fa fn : Nat → Nat) (nl : Nat) (V : Nat → Int32) (d : Nat) : Int32 := noF (ovF (doP cd fa fn nl V d) 91 0)
theorem f_tillDone (hD : Sd I 257 V) (hG : Rg V) (hN : LwN V nl) (hL : LwS I 246 V nl len cd fa fn) (hd : d < 12) : Sp S m_X5_daysTillDone 21 0 0 [.ref 257, .ref 246, .int (nI d)] (hp I L w1 w2 t) (fun v h' => v = some (.int (doW cd fa fn nl V d)) ∧ ∃ J, h' = hp J L w1 w2 t ∧ Fm sQ I J) nX := by
  have ok0 := ds0 hG hN
  refine Sp_of ok_X5_daysTillDone rfl rfl ?_
  show AW S m_X5_daysTillDone 21 _ _ 0 0 0 [some (.ref 257), some (.ref 246), some (.int (nI d)), none] [] (hp I L w1 w2 t)
  refine a_s rfl rfl ?_
  refine a_s3 rfl rfl rfl rfl rfl rfl ?_
  refine a_inv (n := 91) (fun m ls hh => ∃ j J, ls = [some (.ref 257), some (.ref 246), some (.int (nI d)), some (.int (nI j))] ∧ hh = hp J L w1 w2 t ∧ Fm sQ I J ∧ Sd J 257 (dsW true cd fa fn nl V j) ∧ j ≤ 91 ∧ m = 91 - j ∧ ovF (doP cd fa fn nl V d) (91 - j) j = ovF (doP cd fa fn nl V d) 91 0) ⟨0, I, rfl, rfl, Fm.rf, hD, by decide, rfl, rfl⟩ ?_
  rintro m _ _ ⟨j, J, rfl, rfl, fJ, DJ, hj, hm, hP⟩ ih
  have okj := dsW_ok (calm := true) (cd := cd) (fa' := fa) (fn := fn) ok0 j
  refine a_l3 rfl rfl rfl ?_
  refine a_s rfl rfl ?_
  by_cases hj9 : j ≤ 90
  case neg =>
    obtain rfl : j = 91 := by omega
    refine a_ic_gt rfl (fun _ => ?_) (fun c => absurd (show (90 : Int32) < nI 91 by decide) c)
    refine a_s rfl rfl ?_
    refine a_iret rfl rfl ⟨?_, J, rfl, fJ⟩
    unfold doW
    rw [← hP]
    rfl
  refine a_ic_gt rfl (fun c => absurd c (nI_nlu (n := 90) (j := j) hj9 (by omega))) (fun _ => ?_)
  rw [show 91 - j = (91 - (j + 1)) + 1 by omega, ovF_s] at hP
  refine a_l0 rfl rfl rfl ?_
  refine a_getq rfl gfX5_33_5 rfl (rfl) ?_
  refine a_l2 rfl rfl rfl ?_
  refine a_eSN1 rfl lX5_86 mo_X11_at (sp_X11_at rfl) rfl rfl rfl rfl ?_
  rw [atF_nI (show d < 12 by omega) (by decide), show J 265 d = vd (dsW true cd fa fn nl V j) 5 d from Sd.row (k := 5) DJ (by omega) (by decide)]
  refine a_s rfl rfl ?_
  refine a_ic_ne rfl (fun c => ?_) (fun c => ?_)
  · rw [if_neg (by rw [show doP cd fa fn nl V d j = false from decide_eq_false c]; exact Bool.false_ne_true)] at hP
    refine a_l0 rfl rfl rfl ?_
    refine a_l1 rfl rfl rfl ?_
    refine a_s rfl rfl ?_
    refine a_gV rfl lX5_144 mo_X5_passDay (f_late (dr := false) DJ okj (hL.fq fJ)) rfl rfl rfl ⟨5, _, rfl, rfl, rfl⟩ rfl (fun v' h' hv => ?_)
    obtain ⟨rfl, J2, rfl, f2, D2⟩ := hv
    refine a_iv3 (y := nI (j + 1)) rfl rfl rfl ((nI_succ j).symm) ?_
    refine a_goto rfl ?_
    exact ih (91 - (j + 1)) _ _ (by omega) ⟨j + 1, J2, rfl, rfl, fJ.tr f2, D2, by omega, rfl, hP⟩
  · rw [if_pos (show doP cd fa fn nl V d j = true from decide_eq_true c)] at hP
    refine a_l3 rfl rfl rfl ?_
    refine a_iret rfl rfl ⟨?_, J, rfl, fJ⟩
    unfold doW noF
    rw [← hP, if_neg (show ¬ (1000000 : Int32) ≤ nI j from (show ∀ j, j ≤ 90 → ¬ (1000000 : Int32) ≤ nI j by decide +kernel) j hj9)]
theorem fq_done (h : Sy I) (lw : LwS I 246 (I 421) nl len cd fa fn) (ln : LwN (I 421) nl) : Sp S m_X11_done 22 1 6 [.ref 200, .int x1] (hp I L w1 w2 t) (Qc I (vD (dn (I 421)) x1) (doW cd fa fn nl (I 421) (ixN x1)) L w1 w2 t) (Xc I (vD (dn (I 421)) x1) [(1, 0)] L w1 w2) := by
  have h12 := h.n12
  refine Sp_of ok_X11_done rfl rfl ?_
  show AW S m_X11_done 22 _ _ 1 6 0 [some (.ref 200), some (.int x1)] [] (hp I L w1 w2 t)
  refine a_l0 rfl rfl rfl ?_
  refine a_l1 rfl rfl rfl ?_
  refine a_callV rfl lX11_141 mo_X11_needDuty (f_needDuty h.d3 (by omega)) rfl rfl rfl ⟨11, _, rfl, rfl, rfl⟩ rfl (fun v' h' hv => ?_) (fun E h' ex => ?_)
  rotate_left
  · obtain ⟨rfl, hz, rfl⟩ := ex
    exact Xc.mk (1, 0) List.mem_cons_self (if_neg (by rw [hz]; exact Bool.false_ne_true)) rfl
  obtain ⟨rfl, hz, rfl⟩ := hv
  obtain ⟨i, hi, rfl⟩ := inB_ix (by omega) hz
  have hx := ixN_nI (i := i) (by omega)
  rw [hx]
  refine a_l0 rfl rfl rfl ?_
  refine a_getq rfl gfX11_55_11 rfl (rfl) ?_
  refine a_l0 rfl rfl rfl ?_
  refine a_getq rfl gfX11_37_11 rfl (rfl) ?_
  refine a_eV0 rfl lX11_78 mo_X5_copyFrom (sp_X5_copyFrom (a := 257) (b := 235) (by decide) (by decide) (by decide)) rfl rfl rfl ⟨5, _, rfl, rfl, rfl⟩ rfl ?_
  refine a_l0 rfl rfl rfl ?_
  refine a_getq rfl gfX11_55_11 rfl (rfl) ?_
  refine a_l0 rfl rfl rfl ?_
  refine a_getq rfl gfX11_44_11 rfl (rfl) ?_
  refine a_l1 rfl rfl rfl ?_
  refine a_gV rfl lX11_342 mo_X5_daysTillDone (f_tillDone (Sd.cp h.nm.1 (Nat.le_refl _)) h.nm.2.2 ln (lw.fq Fm_copy) (show i < 12 by omega)) rfl rfl rfl ⟨5, _, rfl, rfl, rfl⟩ rfl (fun v' h' hv => ?_)
  obtain ⟨rfl, J, rfl, f⟩ := hv
  exact a_iret rfl rfl (Qc.yesJ (if_pos hz) rfl (Fm_copy.tr f))
theorem hq_done (h : Sy I) (lw : LwS I 246 (I 421) nl len cd fa fn) (ln : LwN (I 421) nl) : Sp S m_X12_done 28 0 0 [.ref 420, .int x1] (hp I L w1 w2 t) (Qr I (vD (dn (I 421)) x1) (doW cd fa fn nl (I 421) (ixN x1)) L w1 w2 t) nX := by
  have h12 := h.n12
  have e21 : up2 I 420 0 0 421 = I 421 := up2_row (by decide)
  refine Sp_of ok_X12_done rfl rfl ?_
  show AW S m_X12_done 28 _ _ 0 0 0 [some (.ref 420), some (.int x1)] [] (hp I L w1 w2 t)
  refine a_l0 rfl rfl rfl ?_
  refine a_s rfl rfl ?_
  refine a_puti rfl pfX12_3_12 rfl ?_
  refine a_l0 rfl rfl rfl ?_
  refine a_l0 rfl rfl rfl ?_
  refine a_l1 rfl rfl rfl ?_
  refine a_eV1 rfl lX12_289 mo_X12_noDuty (r_X12_noDuty h.s0) rfl rfl rfl ⟨12, _, rfl, rfl, rfl⟩ rfl ?_
  obtain ⟨z, hz⟩ : ∃ z, inB x1 0 (nI (dn (I 421)) - 1) = z := ⟨_, rfl⟩
  rw [hz]
  refine a_s rfl rfl ?_
  cases z with
  | false =>
    refine a_eV1 rfl lX12_243 mo_X12_throwsIf (h_throwsIf (z := true)) rfl rfl rfl ⟨12, _, rfl, rfl, rfl⟩ rfl ?_
    rw [if_pos rfl]
    refine a_if_eq rfl (fun c => absurd c (by decide)) (fun _ => ?_)
    refine a_s rfl rfl ?_
    exact a_iret rfl rfl (Qr.no (if_neg (by rw [hz]; exact Bool.false_ne_true)) (by decide))
  | true =>
  refine a_eV1 rfl lX12_243 mo_X12_throwsIf (h_throwsIf (z := false)) rfl rfl rfl ⟨12, _, rfl, rfl, rfl⟩ rfl ?_
  rw [if_neg Bool.false_ne_true]
  refine a_if_eq rfl (fun _ => ?_) (fun c => absurd rfl c)
  obtain ⟨i, hi, rfl⟩ := inB_ix (by omega) hz
  have hx := ixN_nI (i := i) (by omega)
  rw [hx]
  refine a_l0 rfl rfl rfl ?_
  refine a_eV0 rfl lX12_395 mo_X12_keepsAll sp_X12_keepsAll rfl rfl rfl ⟨12, _, rfl, rfl, rfl⟩ rfl ?_
  refine a_l0 rfl rfl rfl ?_
  refine a_s rfl rfl ?_
  refine a_l1 rfl rfl rfl ?_
  refine a_s rfl rfl ?_
  refine a_top (y := bitF (nI i)) (bit_lt (show i < 31 by omega)) ?_
  refine a_s rfl rfl ?_
  refine a_top (y := bI true) (rfl) ?_
  refine a_gV rfl lX12_405 mo_X12_overIn (h_overIn ((cpP_out (by decide)).trans e21) h.nm.2.2 lw.2.1 ln) rfl rfl rfl ⟨12, _, rfl, rfl, rfl⟩ rfl (fun v' h' hv => ?_)
  obtain ⟨rfl, J, rfl, f1, f2⟩ := hv
  obtain ⟨b1, b2, b3⟩ := back_ok (I := I) e21 (Fm.up Fm.rf rfl) f1 f2
  refine a_eS1 rfl lX12_408 mo_X12_orNone h_orNone rfl rfl rfl rfl ?_
  exact a_iret rfl rfl ⟨_, _, rfl, rfl, b2, b3.trans (up2_at.trans (if_pos hz).symm), fun _ => by rw [ovF_congr (ovP_do h12 hi)]; rfl⟩
/-! sick -/
def vSi (np : Nat) (x : Int32) : Int32 := if inB x 0 (nI np - 1) = true then 0 else 1
def siW (cd fa fn : Nat → Nat) (nl : Nat) (W : Nat → Int32) (p : Nat) : Int32 := if ovW cd fa fn nl W = 1000000 then -1 else if ovW cd fa fn nl (ud W (11 + 2 * p + 1) (nI 0)) = 1000000 then 1000 else ovW cd fa fn nl (ud W (11 + 2 * p + 1) (nI 0)) - ovW cd fa fn nl W
theorem nv_far (h : x = 1000000 ∨ ∃ k, k < 91 ∧ x = nI k) : nvF x = 1000 ↔ x = 1000000 := by
  rcases h with rfl | ⟨k, hk, rfl⟩
  · decide
  · have h1 : ∀ k, k < 91 → ¬ nvF (nI k) = 1000 := by decide +kernel
    exact ⟨fun z => absurd z (h1 k hk), fun z => absurd z (far_ne k (by omega))⟩
theorem nv_same (h : ¬ x = 1000000) : nvF x = x := if_neg h
theorem nv_lt (h : x = 1000000 ∨ ∃ k, k < 91 ∧ x = nI k) (h2 : y = 1000000 ∨ ∃ k, k < 91 ∧ y = nI k) : nvF x < nvF y ↔ x < y := by
  have h1 : ∀ k, k < 91 → (nvF (nI k) < 1000 ∧ nI k < 1000000 ∧ ¬ (1000 : Int32) < nvF (nI k) ∧ ¬ (1000000 : Int32) < nI k ∧ nvF (nI k) = nI k) := by decide +kernel
  rcases h with rfl | ⟨k, hk, rfl⟩
  · rcases h2 with rfl | ⟨m, hm, rfl⟩
    · decide
    · exact ⟨fun z => absurd z (h1 m hm).2.2.1, fun z => absurd z (h1 m hm).2.2.2.1⟩
  · rcases h2 with rfl | ⟨m, hm, rfl⟩
    · exact ⟨fun _ => (h1 k hk).2.1, fun _ => (h1 k hk).1⟩
    · rw [(h1 k hk).2.2.2.2, (h1 m hm).2.2.2.2]
/-- the class's street of later days with a person's hours changed -/
theorem lateFr {j : Nat} (h : Sy I) (hJ : Fm sQ I J) (hp6 : p < pn (I 421)) : Sd (up2 (cpS J 257 235 9) 259 p (nI j)) 257 (ud (I 421) (11 + 2 * p + 1) (nI j)) ∧ Fm sQ I (up2 (cpS J 257 235 9) 259 p (nI j)) := by
  have h6 := h.n6
  have e21 : J 421 = I 421 := funext fun k => hJ 421 k rfl
  have hD : Sd J 235 (I 421) := by
    rw [← e21]
    exact (Sy.q h hJ).nm.1
  exact ⟨Sd.fr (a := 257) (Sd.cp hD (Nat.le_refl _)) (by omega), (hJ.tr Fm_copy).up rfl⟩
theorem f_over (h : Sy I) (hJ : Fm sQ I J) (hD : Sd J 257 V) (ok : VOk nl (I 421) V) (lw : LwS I 246 (I 421) nl len cd fa fn) : Sp S m_X5_daysTillNoneWaits 21 0 0 [.ref 257, .ref 246] (hp J L w1 w2 t) (fun v h' => v = some (.int (nvF (ovW cd fa fn nl V))) ∧ ∃ J2, h' = hp J2 L w1 w2 t ∧ Fm sQ I J2) nX := by
  refine Sp.weaken (f_tillNone hD ok.1 ok.2.1 (LwS.eq (lw.fq hJ) (fun _ _ _ => rfl) ok.2.2.1 ok.2.2.2.2)) (fun v h' hv => ?_) (fun E h' z => z)
  obtain ⟨rfl, J2, rfl, f⟩ := hv
  exact ⟨rfl, J2, rfl, hJ.tr f⟩
theorem fq_sick (h : Sy I) (lw : LwS I 246 (I 421) nl len cd fa fn) (ln : LwN (I 421) nl) : Sp S m_X11_sick 22 1 6 [.ref 200, .int x1] (hp I L w1 w2 t) (Qc I (vSi (pn (I 421)) x1) (siW cd fa fn nl (I 421) (ixN x1)) L w1 w2 t) (Xc I (vSi (pn (I 421)) x1) [(1, 0)] L w1 w2) := by
  have h6 := h.n6
  refine Sp_of ok_X11_sick rfl rfl ?_
  show AW S m_X11_sick 22 _ _ 1 6 0 [some (.ref 200), some (.int x1), none, none] [] (hp I L w1 w2 t)
  refine a_l0 rfl rfl rfl ?_
  refine a_l1 rfl rfl rfl ?_
  refine a_callV rfl lX11_110 mo_X11_needPerson (f_needPerson h.d0 (by omega)) rfl rfl rfl ⟨11, _, rfl, rfl, rfl⟩ rfl (fun v' h' hv => ?_) (fun E h' ex => ?_)
  rotate_left
  · obtain ⟨rfl, hz, rfl⟩ := ex
    exact Xc.mk (1, 0) List.mem_cons_self (if_neg (by rw [hz]; exact Bool.false_ne_true)) rfl
  obtain ⟨rfl, hz, rfl⟩ := hv
  obtain ⟨p, hp6, rfl⟩ := inB_ix (by omega) hz
  have hx := ixN_nI (i := p) (by omega)
  rw [hx]
  refine a_l0 rfl rfl rfl ?_
  refine a_getq rfl gfX11_55_11 rfl (rfl) ?_
  refine a_l0 rfl rfl rfl ?_
  refine a_getq rfl gfX11_37_11 rfl (rfl) ?_
  refine a_eV0 rfl lX11_78 mo_X5_copyFrom (sp_X5_copyFrom (a := 257) (b := 235) (by decide) (by decide) (by decide)) rfl rfl rfl ⟨5, _, rfl, rfl, rfl⟩ rfl ?_
  refine a_l0 rfl rfl rfl ?_
  refine a_getq rfl gfX11_55_11 rfl (rfl) ?_
  refine a_l0 rfl rfl rfl ?_
  refine a_getq rfl gfX11_44_11 rfl (rfl) ?_
  refine a_gV rfl lX11_346 mo_X5_daysTillNoneWaits (f_over h Fm_copy (Sd.cp h.nm.1 (Nat.le_refl _)) (VOk.rf h.nm.2.2 ln) lw) rfl rfl rfl ⟨5, _, rfl, rfl, rfl⟩ rfl (fun v' h' hv => ?_)
  obtain ⟨rfl, J, rfl, fJ⟩ := hv
  have a1 := nv_far (ovW_or (cd := cd) (fa := fa) (fn := fn) (nl := nl) (V := I 421))
  have a2 := nv_far (ovW_or (cd := cd) (fa := fa) (fn := fn) (nl := nl) (V := ud (I 421) (11 + 2 * p + 1) (nI 0)))
  refine a_s2 rfl rfl rfl rfl rfl rfl ?_
  refine a_l2 rfl rfl rfl ?_
  refine a_s rfl rfl ?_
  by_cases c1 : ovW cd fa fn nl (I 421) = 1000000
  · refine a_ic_ne rfl (fun z => absurd (a1.mpr c1) z) (fun _ => ?_)
    refine a_s rfl rfl ?_
    exact a_iret rfl rfl (Qc.yesJ (if_pos hz) (by unfold siW; rw [if_pos c1]) fJ)
  refine a_ic_ne rfl (fun _ => ?_) (fun z => absurd (a1.mp z) c1)
  refine a_l0 rfl rfl rfl ?_
  refine a_getq rfl gfX11_55_11 rfl (rfl) ?_
  refine a_l0 rfl rfl rfl ?_
  refine a_getq rfl gfX11_37_11 rfl (rfl) ?_
  refine a_eV0 rfl lX11_78 mo_X5_copyFrom (sp_X5_copyFrom (a := 257) (b := 235) (by decide) (by decide) (by decide)) rfl rfl rfl ⟨5, _, rfl, rfl, rfl⟩ rfl ?_
  refine a_l0 rfl rfl rfl ?_
  refine a_getq rfl gfX11_55_11 rfl (rfl) ?_
  refine a_getq rfl gfX11_121_5 rfl (rfl) ?_
  refine a_l1 rfl rfl rfl ?_
  refine a_s rfl rfl ?_
  refine a_eS0 rfl lX11_243 mo_X11_setAt (sp_X11_setAt rfl) rfl rfl rfl rfl ?_
  rw [setF_nI (show p < 6 by omega) (by decide)]
  obtain ⟨D2, f2⟩ := lateFr (j := 0) h fJ hp6
  refine a_l0 rfl rfl rfl ?_
  refine a_getq rfl gfX11_55_11 rfl (rfl) ?_
  refine a_l0 rfl rfl rfl ?_
  refine a_getq rfl gfX11_44_11 rfl (rfl) ?_
  refine a_gV rfl lX11_346 mo_X5_daysTillNoneWaits (f_over h f2 D2 (fr_ok h.nm.2.2 ln hp6 (by decide)) lw) rfl rfl rfl ⟨5, _, rfl, rfl, rfl⟩ rfl (fun v' h' hv => ?_)
  obtain ⟨rfl, J2, rfl, f3⟩ := hv
  refine a_s3 rfl rfl rfl rfl rfl rfl ?_
  refine a_l3 rfl rfl rfl ?_
  refine a_s rfl rfl ?_
  by_cases c2 : ovW cd fa fn nl (ud (I 421) (11 + 2 * p + 1) (nI 0)) = 1000000
  · refine a_ic_ne rfl (fun z => absurd (a2.mpr c2) z) (fun _ => ?_)
    refine a_s rfl rfl ?_
    refine a_goto rfl ?_
    exact a_iret rfl rfl (Qc.yesJ (if_pos hz) (by unfold siW; rw [if_neg c1, if_pos c2]) f3)
  refine a_ic_ne rfl (fun _ => ?_) (fun z => absurd (a2.mp z) c2)
  refine a_l3 rfl rfl rfl ?_
  refine a_l2 rfl rfl rfl ?_
  refine a_s rfl rfl ?_
  exact a_iret rfl rfl (Qc.yesJ (if_pos hz) (by unfold siW; rw [if_neg c1, if_neg c2, nv_same c1, nv_same c2]) f3)
theorem hq_sick (h : Sy I) (lw : LwS I 246 (I 421) nl len cd fa fn) (ln : LwN (I 421) nl) : Sp S m_X12_sick 28 0 0 [.ref 420, .int x1] (hp I L w1 w2 t) (Qr I (vSi (pn (I 421)) x1) (siW cd fa fn nl (I 421) (ixN x1)) L w1 w2 t) nX := by
  have h6 := h.n6
  have e21 : up2 I 420 0 0 421 = I 421 := up2_row (by decide)
  refine Sp_of ok_X12_sick rfl rfl ?_
  show AW S m_X12_sick 28 _ _ 0 0 0 [some (.ref 420), some (.int x1), none, none] [] (hp I L w1 w2 t)
  refine a_l0 rfl rfl rfl ?_
  refine a_s rfl rfl ?_
  refine a_puti rfl pfX12_3_12 rfl ?_
  refine a_l0 rfl rfl rfl ?_
  refine a_l0 rfl rfl rfl ?_
  refine a_l1 rfl rfl rfl ?_
  refine a_eV1 rfl lX12_342 mo_X12_noPerson (r_X12_noPerson h.s0) rfl rfl rfl ⟨12, _, rfl, rfl, rfl⟩ rfl ?_
  obtain ⟨z, hz⟩ : ∃ z, inB x1 0 (nI (pn (I 421)) - 1) = z := ⟨_, rfl⟩
  rw [hz]
  refine a_s rfl rfl ?_
  cases z with
  | false =>
    refine a_eV1 rfl lX12_243 mo_X12_throwsIf (h_throwsIf (z := true)) rfl rfl rfl ⟨12, _, rfl, rfl, rfl⟩ rfl ?_
    rw [if_pos rfl]
    refine a_if_eq rfl (fun c => absurd c (by decide)) (fun _ => ?_)
    refine a_s rfl rfl ?_
    exact a_iret rfl rfl (Qr.no (if_neg (by rw [hz]; exact Bool.false_ne_true)) (by decide))
  | true =>
  refine a_eV1 rfl lX12_243 mo_X12_throwsIf (h_throwsIf (z := false)) rfl rfl rfl ⟨12, _, rfl, rfl, rfl⟩ rfl ?_
  rw [if_neg Bool.false_ne_true]
  refine a_if_eq rfl (fun _ => ?_) (fun c => absurd rfl c)
  obtain ⟨p, hp6, rfl⟩ := inB_ix (by omega) hz
  have hx := ixN_nI (i := p) (by omega)
  rw [hx]
  refine a_l0 rfl rfl rfl ?_
  refine a_gV rfl lX12_411 mo_X12_allOver (h_allOverW (I := I) e21 (Fm.up Fm.rf rfl) h.nm.2.2 lw.2.1 ln) rfl rfl rfl ⟨12, _, rfl, rfl, rfl⟩ rfl (fun v' h' hv => ?_)
  obtain ⟨rfl, J, rfl, fJ, g1, g2⟩ := hv
  refine a_s2 rfl rfl rfl rfl rfl rfl ?_
  refine a_l0 rfl rfl rfl ?_
  refine a_l1 rfl rfl rfl ?_
  refine a_s rfl rfl ?_
  refine a_top (y := nI 0) (rfl) ?_
  refine a_gV rfl lX12_414 mo_X12_overWith (h_overWith g1 fJ h.nm.2.2 lw.2.1 ln hp6 (j := 0) (by decide)) rfl rfl rfl ⟨12, _, rfl, rfl, rfl⟩ rfl (fun v' h' hv => ?_)
  obtain ⟨rfl, J2, rfl, f2, g3, g4⟩ := hv
  have k0 : J2 420 0 = 0 := g4.trans (g2.trans up2_at)
  refine a_s3 rfl rfl rfl rfl rfl rfl ?_
  refine a_l2 rfl rfl rfl ?_
  refine a_ldcw rfl kX12_401 ?_
  by_cases c1 : ovW cd fa fn nl (I 421) = 1000000
  · refine a_ic_ne rfl (fun z => absurd c1 z) (fun _ => ?_)
    refine a_s rfl rfl ?_
    exact a_iret rfl rfl ⟨_, J2, rfl, rfl, f2, k0.trans (if_pos hz).symm, fun _ => by unfold siW; rw [if_pos c1]⟩
  refine a_ic_ne rfl (fun _ => ?_) (fun z => absurd z c1)
  refine a_l3 rfl rfl rfl ?_
  refine a_ldcw rfl kX12_401 ?_
  by_cases c2 : ovW cd fa fn nl (ud (I 421) (11 + 2 * p + 1) (nI 0)) = 1000000
  · refine a_ic_ne rfl (fun z => absurd c2 z) (fun _ => ?_)
    refine a_s rfl rfl ?_
    refine a_goto rfl ?_
    exact a_iret rfl rfl ⟨_, J2, rfl, rfl, f2, k0.trans (if_pos hz).symm, fun _ => by unfold siW; rw [if_neg c1, if_pos c2]⟩
  refine a_ic_ne rfl (fun _ => ?_) (fun z => absurd z c2)
  refine a_l3 rfl rfl rfl ?_
  refine a_l2 rfl rfl rfl ?_
  refine a_s rfl rfl ?_
  exact a_iret rfl rfl ⟨_, J2, rfl, rfl, f2, k0.trans (if_pos hz).symm, fun _ => by unfold siW; rw [if_neg c1, if_neg c2]⟩
end T79zzl
end
section
/-! ===== trials: exactly, on both sides ===== -/
section T79zzn
variable {S : aS} {I J K : Nat → Nat → Int32} {L : Nat → Nat → Int64} {w1 w2 t d p nl len n : Nat} {cd fa fn : Nat → Nat} {W V : Nat → Int32} {x x1 s : Int32} {b2 : Bool}
set_option maxRecDepth 100000
theorem sd_ok (hG : Rg W) (hN : LwN W nl) : VOk nl W (ud W 10 x) := by
  obtain ⟨g1, g2, g3⟩ := hG.hi (k := 10) (v := x) rfl
  exact ⟨g1, LwN.eq hN (fun k hk => if_neg (by omega)), if_neg (by decide), g3, fun k hk => if_neg (by omega)⟩
theorem ud_self {k : Nat} : ud W k (W k) = W := by
  funext j
  unfold ud
  by_cases c : j = k
  · rw [if_pos c, c]
  · rw [if_neg c]
/-- the shame of those that wait after so many days -/
def trS (cd fa fn : Nat → Nat) (nl : Nat) (V : Nat → Int32) (n : Nat) : Int32 := sumF (shameR (dsW false cd fa fn nl V n) cd fa fn nl) (inS (dn V) (vd (dsW false cd fa fn nl V n) 5) 0) (dn V)
def trW (cd fa fn : Nat → Nat) (nl : Nat) (V : Nat → Int32) (n : Nat) (b : Bool) : Int32 := if b = true then inS (dn V) (vd (dsW false cd fa fn nl V n) 5) 1 else trS cd fa fn nl V n
theorem f_waitShame {s : Nat → Int32} (hD : Sd I 257 s) (ok : DsOk nl V s) (lw : LwS I 246 V nl len cd fa fn) : Sp S m_X11_shameOfWaiting 18 0 0 [.ref 200, .ref 257] (hp I L w1 w2 t) (fun v h' => v = some (.int (sumF (shameR s cd fa fn nl) (inS (dn V) (vd s 5) 0) (dn V))) ∧ ∃ J, h' = hp J L w1 w2 t ∧ Fm sQ I J ∧ Sd J 257 s) nX := by
  have h12 : dn V ≤ 12 := by
    rw [← ok.2.2.1]
    exact ok.1.1.2.1
  have d3 : I 257 3 = nI (dn V) := by
    rw [Sd.fd hD (f := 3) (g := 1) (by decide), ← ok.2.2.1]
    exact ok.1.1.2.2.2
  have eS : inS (dn V) (I (257 + 8)) 0 = inS (dn V) (vd s 5) 0 := by
    rw [← ok.2.2.1]
    exact inS_same hD ok.1
  have lV : LwS I 246 s nl len cd fa fn := LwS.eq lw (fun _ _ _ => rfl) ok.2.2.2.2.1 ok.2.2.2.2.2
  refine Sp_of ok_X11_shameOfWaiting rfl rfl ?_
  show AW S m_X11_shameOfWaiting 18 _ _ 0 0 0 [some (.ref 200), some (.ref 257)] [] (hp I L w1 w2 t)
  refine a_l0 rfl rfl rfl ?_
  refine a_getq rfl gfX11_44_11 rfl (rfl) ?_
  refine a_l1 rfl rfl rfl ?_
  refine a_l1 rfl rfl rfl ?_
  refine a_s rfl rfl ?_
  refine a_eV1 rfl lX11_200 mo_X5_bitsIn (sp_X5_bitsIn (nd := dn V) (a := 257) (by decide) d3 h12) rfl rfl rfl ⟨5, _, rfl, rfl, rfl⟩ rfl ?_
  rw [eS]
  refine a_gV rfl lX11_282 mo_X2_shameOfSet (sp_X2_shameOfSet (nd := dn V) (a := 257) (b := 246) (by decide) (by decide) d3 h12 lV.1) rfl rfl rfl ⟨2, _, rfl, rfl, rfl⟩ rfl (fun v' h' hv => ?_)
  obtain ⟨rfl, J, rfl, hf⟩ := hv
  refine a_iret rfl rfl ⟨?_, J, rfl, Fm_q2 fun q g1 g2 => hf q g1 g2, Sd.eq hD fun q g1 g2 => hf q (by omega) (by omega)⟩
  rw [sumG_F h12 fun e he => shame_same hD ok.1 lV (by rw [ok.2.2.1]; exact he)]
theorem f_tried (h : Sy I) (fJ : Fm sQ I J) (lw : LwS I 246 (I 421) nl len cd fa fn) (ln : LwN (I 421) nl) (hn : n ≤ 90) : Sp S m_X11_shameTriedOut 20 0 0 [.ref 200, .int (nI n), .int x] (hp J L w1 w2 t) (fun v h' => v = some (.int (trS cd fa fn nl (ud (I 421) 10 x) n)) ∧ ∃ J2, h' = hp J2 L w1 w2 t ∧ Fm sQ I J2 ∧ Sd J2 257 (dsW false cd fa fn nl (ud (I 421) 10 x) n)) nX := by
  have e21 : J 421 = I 421 := funext fun k => fJ 421 k rfl
  have hD : Sd J 235 (I 421) := by
    rw [← e21]
    exact (Sy.q h fJ).nm.1
  have ok := sd_ok (x := x) h.nm.2.2 ln
  have ok0 := ds0 ok.1 ok.2.1
  have lV : LwS J 246 (ud (I 421) 10 x) nl len cd fa fn := LwS.eq (lw.fq fJ) (fun _ _ _ => rfl) ok.2.2.1 ok.2.2.2.2
  refine Sp_of ok_X11_shameTriedOut rfl rfl ?_
  show AW S m_X11_shameTriedOut 20 _ _ 0 0 0 [some (.ref 200), some (.int (nI n)), some (.int x), none] [] (hp J L w1 w2 t)
  refine a_l0 rfl rfl rfl ?_
  refine a_getq rfl gfX11_55_11 rfl (rfl) ?_
  refine a_l0 rfl rfl rfl ?_
  refine a_getq rfl gfX11_37_11 rfl (rfl) ?_
  refine a_eV0 rfl lX11_78 mo_X5_copyFrom (sp_X5_copyFrom (a := 257) (b := 235) (by decide) (by decide) (by decide)) rfl rfl rfl ⟨5, _, rfl, rfl, rfl⟩ rfl ?_
  refine a_l0 rfl rfl rfl ?_
  refine a_getq rfl gfX11_55_11 rfl (rfl) ?_
  refine a_l2 rfl rfl rfl ?_
  refine a_puti rfl pfX11_353_5 rfl ?_
  refine a_s rfl rfl ?_
  refine a_s3 rfl rfl rfl rfl rfl rfl ?_
  refine a_inv (n := n) (fun m ls hh => ∃ j K, ls = [some (.ref 200), some (.int (nI n)), some (.int x), some (.int (nI j))] ∧ hh = hp K L w1 w2 t ∧ Fm sQ J K ∧ Sd K 257 (dsW false cd fa fn nl (ud (I 421) 10 x) j) ∧ j ≤ n ∧ m = n - j) ⟨0, _, rfl, rfl, Fm_copy.up rfl, Sd.pu (a := 257) (f := 15) (g := 10) (Sd.cp hD (Nat.le_refl _)) (by decide), Nat.zero_le _, rfl⟩ ?_
  rintro m _ _ ⟨j, K, rfl, rfl, fK, DK, hj, hm⟩ ih
  have okj := dsW_ok (calm := false) (cd := cd) (fa' := fa) (fn := fn) ok0 j
  refine a_l3 rfl rfl rfl ?_
  refine a_l1 rfl rfl rfl ?_
  refine a_ic_ge rfl (fun c => ?_) (fun c => ?_)
  · have hge := nI_ge_of c (by omega) (by omega)
    obtain rfl : j = n := by omega
    refine a_l0 rfl rfl rfl ?_
    refine a_l0 rfl rfl rfl ?_
    refine a_getq rfl gfX11_55_11 rfl (rfl) ?_
    refine a_gV rfl lX11_207 mo_X11_shameOfWaiting (f_waitShame DK okj (lV.fq fK)) rfl rfl rfl ⟨11, _, rfl, rfl, rfl⟩ rfl (fun v' h' hv => ?_)
    obtain ⟨rfl, J2, rfl, f2, D2⟩ := hv
    exact a_iret rfl rfl ⟨rfl, J2, rfl, (fJ.tr fK).tr f2, D2⟩
  have hjn := nI_lt_of c (by omega) (by omega)
  refine a_l0 rfl rfl rfl ?_
  refine a_getq rfl gfX11_55_11 rfl (rfl) ?_
  refine a_l0 rfl rfl rfl ?_
  refine a_getq rfl gfX11_44_11 rfl (rfl) ?_
  refine a_s rfl rfl ?_
  refine a_gV rfl lX11_254 mo_X5_passDay (f_late (dr := true) DK okj (lV.fq fK)) rfl rfl rfl ⟨5, _, rfl, rfl, rfl⟩ rfl (fun v' h' hv => ?_)
  obtain ⟨rfl, J2, rfl, f2, D2⟩ := hv
  refine a_iv3 (y := nI (j + 1)) rfl rfl rfl ((nI_succ j).symm) ?_
  refine a_goto rfl ?_
  exact ih (n - (j + 1)) _ _ (by omega) ⟨j + 1, J2, rfl, rfl, fK.tr f2, D2, hjn, rfl⟩
def vTr (x : Int32) : Int32 := if inB x 0 90 = true then 0 else 1
theorem fq_trial (h : Sy I) (lw : LwS I 246 (I 421) nl len cd fa fn) (ln : LwN (I 421) nl) : Sp S m_X11_trial 21 1 6 [.ref 200, .int x1, .int (bI b2)] (hp I L w1 w2 t) (Qc I (vTr x1) (trW cd fa fn nl (I 421) (ixN x1) b2) L w1 w2 t) (Xc I (vTr x1) [(1, 1)] L w1 w2) := by
  have h12 := h.n12
  refine Sp_of ok_X11_trial rfl rfl ?_
  show AW S m_X11_trial 21 _ _ 1 6 0 [some (.ref 200), some (.int x1), some (.int (bI b2)), none] [] (hp I L w1 w2 t)
  refine a_l1 rfl rfl rfl ?_
  refine a_s rfl rfl ?_
  refine a_s rfl rfl ?_
  refine a_callS rfl lX11_250 mo_X11_needNumber (f_needNumber) rfl rfl rfl rfl (fun v' h' hv => ?_) (fun E h' ex => ?_)
  rotate_left
  · obtain ⟨rfl, hz, rfl⟩ := ex
    exact Xc.mk (1, 1) List.mem_cons_self (if_neg (by rw [hz]; exact Bool.false_ne_true)) rfl
  obtain ⟨rfl, hz, rfl⟩ := hv
  obtain ⟨n, -, hn, rfl⟩ := inB_nI (a := 0) (b := 90) (by decide) hz
  rw [ixN_nI (by omega)]
  refine a_l0 rfl rfl rfl ?_
  refine a_l1 rfl rfl rfl ?_
  refine a_l0 rfl rfl rfl ?_
  refine a_getq rfl gfX11_37_11 rfl (rfl) ?_
  refine a_getiv (v := (I 421) 10) rfl gfX11_353_5 rfl (Sd.fd h.nm.1 (f := 15) (g := 10) (by decide)) ?_
  refine a_gV rfl lX11_356 mo_X11_shameTriedOut (f_tried h Fm.rf lw ln hn) rfl rfl rfl ⟨11, _, rfl, rfl, rfl⟩ rfl (fun v' h' hv => ?_)
  rw [ud_self] at hv
  obtain ⟨rfl, J, rfl, f, D⟩ := hv
  have ok := dsW_ok (calm := false) (cd := cd) (fa' := fa) (fn := fn) (ds0 h.nm.2.2 ln) n
  refine a_s3 rfl rfl rfl rfl rfl rfl ?_
  refine a_l2 rfl rfl rfl ?_
  cases b2 with
  | false =>
    refine a_if_eq rfl (fun _ => ?_) (fun c => absurd rfl c)
    refine a_l3 rfl rfl rfl ?_
    exact a_iret rfl rfl (Qc.yesJ (if_pos hz) (by unfold trW; rw [if_neg Bool.false_ne_true]) f)
  | true =>
    refine a_if_eq rfl (fun c => absurd c (by decide)) (fun _ => ?_)
    have d3 : J 257 3 = nI (dn (I 421)) := by
      rw [Sd.fd D (f := 3) (g := 1) (by decide), ← ok.2.2.1]
      exact ok.1.1.2.2.2
    have eS : inS (dn (I 421)) (J (257 + 8)) 1 = inS (dn (I 421)) (vd (dsW false cd fa fn nl (I 421) n) 5) 1 := by
      rw [← ok.2.2.1]
      exact inS_same D ok.1
    refine a_l0 rfl rfl rfl ?_
    refine a_getq rfl gfX11_55_11 rfl (rfl) ?_
    refine a_s rfl rfl ?_
    refine a_eV1 rfl lX11_200 mo_X5_bitsIn (sp_X5_bitsIn (nd := dn (I 421)) (a := 257) (by decide) d3 h12) rfl rfl rfl ⟨5, _, rfl, rfl, rfl⟩ rfl ?_
    rw [eS]
    refine a_goto rfl ?_
    exact a_iret rfl rfl (Qc.yesJ (if_pos hz) (by unfold trW; rw [if_pos rfl]) f)
/-- the shame of those that wait, of a world after days -/
theorem h_waitShame {s : Nat → Int32} (e : K 421 = s) (ok : DsOk nl V s) (hL : LawR V nl len cd fa fn) : Sp S m_X12_shameOf 20 0 0 [.ref 420, .int (inS (dn V) (vd s 5) 0)] (hp K L w1 w2 t) (fun v h' => v = some (.int (sumF (shameR s cd fa fn nl) (inS (dn V) (vd s 5) 0) (dn V))) ∧ ∃ r, h' = hp (upr K 428 r) L w1 w2 t) nX := by
  have hL2 : LawR s nl len cd fa fn := LawR.eq hL ok.2.2.2.2.1 ok.2.2.2.2.2
  have so := ok.1.so
  have h12 := ok.1.1.2.1
  have h6 := ok.1.1.1
  rw [ok.2.2.1] at so h12
  subst e
  exact sp_X12_shameOf (np := pn (K 421)) h12 h6 so.du so.l so.o hL2
theorem hq_trial (h : Sy I) (lw : LwS I 246 (I 421) nl len cd fa fn) (ln : LwN (I 421) nl) : Sp S m_X12_trial 26 0 0 [.ref 420, .int x1, .int (bI b2)] (hp I L w1 w2 t) (Qr I (vTr x1) (trW cd fa fn nl (I 421) (ixN x1) b2) L w1 w2 t) nX := by
  have h12 := h.n12
  have e21 : up2 I 420 0 0 421 = I 421 := up2_row (by decide)
  have hL := lw.2.1
  refine Sp_of ok_X12_trial rfl rfl ?_
  show AW S m_X12_trial 26 _ _ 0 0 0 [some (.ref 420), some (.int x1), some (.int (bI b2)), none] [] (hp I L w1 w2 t)
  refine a_l0 rfl rfl rfl ?_
  refine a_s rfl rfl ?_
  refine a_puti rfl pfX12_3_12 rfl ?_
  refine a_l0 rfl rfl rfl ?_
  refine a_l1 rfl rfl rfl ?_
  refine a_eS1 rfl lX12_392 mo_X12_noDays sp_X12_noDays rfl rfl rfl rfl ?_
  obtain ⟨z, hz⟩ : ∃ z, inB x1 0 90 = z := ⟨_, rfl⟩
  rw [hz]
  refine a_s rfl rfl ?_
  cases z with
  | false =>
    refine a_eV1 rfl lX12_243 mo_X12_throwsIf (h_throwsIf (z := true)) rfl rfl rfl ⟨12, _, rfl, rfl, rfl⟩ rfl ?_
    rw [if_pos rfl]
    refine a_if_eq rfl (fun c => absurd c (by decide)) (fun _ => ?_)
    refine a_s rfl rfl ?_
    exact a_iret rfl rfl (Qr.no (if_neg (by rw [hz]; exact Bool.false_ne_true)) (by decide))
  | true =>
  refine a_eV1 rfl lX12_243 mo_X12_throwsIf (h_throwsIf (z := false)) rfl rfl rfl ⟨12, _, rfl, rfl, rfl⟩ rfl ?_
  rw [if_neg Bool.false_ne_true]
  refine a_if_eq rfl (fun _ => ?_) (fun c => absurd rfl c)
  obtain ⟨n, -, hn, rfl⟩ := inB_nI (a := 0) (b := 90) (by decide) hz
  rw [ixN_nI (by omega)]
  have ok := dsW_ok (calm := false) (cd := cd) (fa' := fa) (fn := fn) (ds0 h.nm.2.2 ln) n
  refine a_l0 rfl rfl rfl ?_
  refine a_eV0 rfl lX12_395 mo_X12_keepsAll sp_X12_keepsAll rfl rfl rfl ⟨12, _, rfl, rfl, rfl⟩ rfl ?_
  refine a_l0 rfl rfl rfl ?_
  refine a_l1 rfl rfl rfl ?_
  refine a_s rfl rfl ?_
  refine a_top (y := bI false) (rfl) ?_
  refine a_gV rfl lX12_388 mo_X12_goesOn (h_goesOn (W := I 421) (m := n) (calm := false) ((cpP_out (by decide)).trans e21) h.nm.2.2 hL ln hn) rfl rfl rfl ⟨12, _, rfl, rfl, rfl⟩ rfl (fun v' h' hv => ?_)
  obtain ⟨y, rfl, J, rfl, hf, eJ⟩ := hv
  have du : J 421 1 = nI (dn (I 421)) := by
    rw [eJ, ← ok.2.2.1]
    exact ok.1.1.2.2.2
  refine a_s rfl rfl ?_
  refine a_l2 rfl rfl rfl ?_
  cases b2 with
  | false =>
    refine a_if_eq rfl (fun _ => ?_) (fun c => absurd rfl c)
    refine a_l0 rfl rfl rfl ?_
    refine a_l0 rfl rfl rfl ?_
    refine a_s rfl rfl ?_
    refine a_eV1 rfl lX12_324 mo_X12_ofState (sp_X12_ofState h12 du) rfl rfl rfl ⟨12, _, rfl, rfl, rfl⟩ rfl ?_
    rw [eJ]
    refine a_gV rfl lX12_339 mo_X12_shameOf (h_waitShame eJ ok hL) rfl rfl rfl ⟨12, _, rfl, rfl, rfl⟩ rfl (fun v' h' hv => ?_)
    obtain ⟨rfl, r, rfl⟩ := hv
    obtain ⟨b1, b2, b3⟩ := back_ok (I := I) (J := upr J 428 r) e21 (Fm.up Fm.rf rfl) (fun q h1 h2 h3 => (upr_row h2).trans (hf q h1 h2 h3)) (fun k hk => by rw [upr_row (by decide), eJ]; exact ok.2.2.2.2.2 k hk)
    refine a_s3 rfl rfl rfl rfl rfl rfl ?_
    refine a_l0 rfl rfl rfl ?_
    refine a_eV0 rfl lX12_398 mo_X12_bringsBack sp_X12_bringsBack rfl rfl rfl ⟨12, _, rfl, rfl, rfl⟩ rfl ?_
    refine a_l3 rfl rfl rfl ?_
    exact a_iret rfl rfl ⟨_, _, rfl, rfl, b2, b3.trans (up2_at.trans (if_pos hz).symm), fun _ => by unfold trW; rw [if_neg Bool.false_ne_true]; rfl⟩
  | true =>
    refine a_if_eq rfl (fun c => absurd c (by decide)) (fun _ => ?_)
    refine a_l0 rfl rfl rfl ?_
    refine a_s rfl rfl ?_
    refine a_eV1 rfl lX12_324 mo_X12_ofState (sp_X12_ofState h12 du) rfl rfl rfl ⟨12, _, rfl, rfl, rfl⟩ rfl ?_
    rw [eJ]
    obtain ⟨b1, b2, b3⟩ := back_ok (I := I) e21 (Fm.up Fm.rf rfl) hf (fun k hk => by rw [eJ]; exact ok.2.2.2.2.2 k hk)
    refine a_goto rfl ?_
    refine a_s3 rfl rfl rfl rfl rfl rfl ?_
    refine a_l0 rfl rfl rfl ?_
    refine a_eV0 rfl lX12_398 mo_X12_bringsBack sp_X12_bringsBack rfl rfl rfl ⟨12, _, rfl, rfl, rfl⟩ rfl ?_
    refine a_l3 rfl rfl rfl ?_
    exact a_iret rfl rfl ⟨_, _, rfl, rfl, b2, b3.trans (up2_at.trans (if_pos hz).symm), fun _ => by unfold trW; rw [if_pos rfl]⟩
end T79zzn
end
section
/-! ===== spans: exactly, on both sides ===== -/
section T79zzo
variable {S : aS} {I J K : Nat → Nat → Int32} {L : Nat → Nat → Int64} {w1 w2 t d p nl len n : Nat} {cd fa fn : Nat → Nat} {W V : Nat → Int32} {x x1 s : Int32} {b2 : Bool}
set_option maxRecDepth 100000
theorem trS_nn (hG : Rg V) (hN : LwN V nl) : ¬ trS cd fa fn nl V n < 0 := by
  have ok := dsW_ok (calm := false) (cd := cd) (fa' := fa) (fn := fn) (ds0 hG hN) n
  obtain ⟨k, hk, e⟩ := set_nb (s := inS (dn V) (vd (dsW false cd fa fn nl V n) 5) 0) (cd := cd) (fa := fa) (fn := fn) ok.1 ok.2.2.2.1
  rw [ok.2.2.1] at e
  unfold trS
  rw [e]
  exact Int32.not_lt.mpr (nI_0le (by omega))
/-- the greatest or the least of so many -/
def mmF (b : Bool) (x y : Int32) : Int32 := if b = true then (if x < y then y else x) else mn x y
def spG (f : Nat → Int32) (b : Bool) : Nat → Int32
  | 0 => f 1
  | k + 1 => mmF b (spG f b k) (f (k + 2))
def spT (cd fa fn : Nat → Nat) (nl : Nat) (W : Nat → Int32) (n : Nat) (k : Nat) : Int32 := trS cd fa fn nl (ud W 10 (nI k)) n
def spnW (cd fa fn : Nat → Nat) (nl : Nat) (W : Nat → Int32) (n : Nat) (b : Bool) : Int32 := spG (spT cd fa fn nl W n) b 5
theorem spG_nn {f : Nat → Int32} {b : Bool} (h : ∀ k, ¬ f k < 0) : ∀ k, ¬ spG f b k < 0 := by
  intro k
  induction k with
  | zero => exact h 1
  | succ k ih =>
    show ¬ mmF b (spG f b k) (f (k + 2)) < 0
    unfold mmF mn
    split
    · split
      · exact h (k + 2)
      · exact ih
    · split
      · exact h (k + 2)
      · exact ih
theorem fq_span (h : Sy I) (lw : LwS I 246 (I 421) nl len cd fa fn) (ln : LwN (I 421) nl) : Sp S m_X11_span 21 1 6 [.ref 200, .int x1, .int (bI b2)] (hp I L w1 w2 t) (Qc I (vTr x1) (spnW cd fa fn nl (I 421) (ixN x1) b2) L w1 w2 t) (Xc I (vTr x1) [(1, 1)] L w1 w2) := by
  refine Sp_of ok_X11_span rfl rfl ?_
  show AW S m_X11_span 21 _ _ 1 6 0 [some (.ref 200), some (.int x1), some (.int (bI b2)), none, none, none] [] (hp I L w1 w2 t)
  refine a_l1 rfl rfl rfl ?_
  refine a_s rfl rfl ?_
  refine a_s rfl rfl ?_
  refine a_callS rfl lX11_250 mo_X11_needNumber (f_needNumber) rfl rfl rfl rfl (fun v' h' hv => ?_) (fun E h' ex => ?_)
  rotate_left
  · obtain ⟨rfl, hz, rfl⟩ := ex
    exact Xc.mk (1, 1) List.mem_cons_self (if_neg (by rw [hz]; exact Bool.false_ne_true)) rfl
  obtain ⟨rfl, hz, rfl⟩ := hv
  obtain ⟨n, -, hn, rfl⟩ := inB_nI (a := 0) (b := 90) (by decide) hz
  rw [ixN_nI (by omega)]
  refine a_l0 rfl rfl rfl ?_
  refine a_l1 rfl rfl rfl ?_
  refine a_s rfl rfl ?_
  refine a_top (y := nI 1) (rfl) ?_
  refine a_gV rfl lX11_356 mo_X11_shameTriedOut (f_tried h Fm.rf lw ln hn) rfl rfl rfl ⟨11, _, rfl, rfl, rfl⟩ rfl (fun v' h' hv => ?_)
  obtain ⟨rfl, J, rfl, fJ, -⟩ := hv
  refine a_s3 rfl rfl rfl rfl rfl rfl ?_
  refine a_s rfl rfl ?_
  refine a_s4 rfl rfl rfl rfl rfl rfl ?_
  refine a_inv (n := 5) (fun m ls hh => ∃ k J u, ls = [some (.ref 200), some (.int (nI n)), some (.int (bI b2)), some (.int (spG (spT cd fa fn nl (I 421) n) b2 k)), some (.int (nI (k + 2))), u] ∧ hh = hp J L w1 w2 t ∧ Fm sQ I J ∧ k ≤ 5 ∧ m = 5 - k) ⟨0, J, none, rfl, rfl, fJ, by decide, rfl⟩ ?_
  clear fJ
  rintro m _ _ ⟨k, J, u, rfl, rfl, fJ, hk, hm⟩ ih
  refine a_l4 rfl rfl rfl ?_
  refine a_s rfl rfl ?_
  by_cases hk5 : k < 5
  case neg =>
    obtain rfl : k = 5 := by omega
    refine a_ic_gt rfl (fun _ => ?_) (fun c => absurd (show (6 : Int32) < nI (5 + 2) by decide) c)
    refine a_l3 rfl rfl rfl ?_
    exact a_iret rfl rfl (Qc.yesJ (if_pos hz) rfl fJ)
  refine a_ic_gt rfl (fun c => absurd c (nI_nlu (n := 6) (j := k + 2) (by omega) (by omega))) (fun _ => ?_)
  refine a_l0 rfl rfl rfl ?_
  refine a_l1 rfl rfl rfl ?_
  refine a_l4 rfl rfl rfl ?_
  refine a_gV rfl lX11_356 mo_X11_shameTriedOut (f_tried h fJ lw ln hn) rfl rfl rfl ⟨11, _, rfl, rfl, rfl⟩ rfl (fun v' h' hv => ?_)
  obtain ⟨rfl, J2, rfl, f2, -⟩ := hv
  refine a_s5 rfl rfl rfl rfl rfl rfl ?_
  refine a_l2 rfl rfl rfl ?_
  cases b2 with
  | false =>
    refine a_if_eq rfl (fun _ => ?_) (fun c => absurd rfl c)
    refine a_l3 rfl rfl rfl ?_
    refine a_l5 rfl rfl rfl ?_
    refine a_min rfl lX11_350 mj_min rfl rfl ?_
    refine a_s3 rfl rfl rfl rfl rfl rfl ?_
    refine a_iv4 (y := nI (k + 1 + 2)) rfl rfl rfl ((nI_succ (k + 2)).symm) ?_
    refine a_goto rfl ?_
    exact ih (5 - (k + 1)) _ _ (by omega) ⟨k + 1, J2, _, rfl, rfl, f2, by omega, rfl⟩
  | true =>
    refine a_if_eq rfl (fun c => absurd c (by decide)) (fun _ => ?_)
    refine a_l3 rfl rfl rfl ?_
    refine a_l5 rfl rfl rfl ?_
    refine a_max rfl lX11_290 mj_max rfl rfl ?_
    refine a_goto rfl ?_
    refine a_s3 rfl rfl rfl rfl rfl rfl ?_
    refine a_iv4 (y := nI (k + 1 + 2)) rfl rfl rfl ((nI_succ (k + 2)).symm) ?_
    refine a_goto rfl ?_
    exact ih (5 - (k + 1)) _ _ (by omega) ⟨k + 1, J2, _, rfl, rfl, f2, by omega, rfl⟩
theorem back_ok2 (h4 : ∀ k, k < 335 → K 424 k = I 421 k) (fK : Fm sV I K) (hf : ∀ q, q ≠ 421 → q ≠ 428 → q ≠ 429 → J q = K q) (e : ∀ k, 335 ≤ k → J 421 k = I 421 k) : (cpP J 421 424 335) 421 = I 421 ∧ Fm sV I (cpP J 421 424 335) ∧ (cpP J 421 424 335) 420 0 = K 420 0 ∧ ∀ k, k < 335 → (cpP J 421 424 335) 424 k = I 421 k := by
  have e1 : (cpP J 421 424 335) 421 = I 421 := by
    funext k
    show (upr J 421 (fun k => if k < 335 then J 424 k else J 421 k)) 421 k = I 421 k
    rw [upr_at]
    by_cases c : k < 335
    · show (if k < 335 then J 424 k else J 421 k) = I 421 k
      rw [if_pos c, hf 424 (by decide) (by decide) (by decide)]
      exact h4 k c
    · show (if k < 335 then J 424 k else J 421 k) = I 421 k
      rw [if_neg c]
      exact e k (by omega)
  have e2 : ∀ q, q ≠ 421 → q ≠ 428 → q ≠ 429 → (cpP J 421 424 335) q = K q := fun q h1 h3 h4 => by rw [cpP_out h1, hf q h1 h3 h4]
  refine ⟨e1, fun q k hq => ?_, congrFun (e2 420 (by decide) (by decide) (by decide)) 0, fun k hk => by rw [e2 424 (by decide) (by decide) (by decide)]; exact h4 k hk⟩
  by_cases c1 : q = 421
  · rw [c1, e1]
  · have h3 : q ≠ 428 := fun c => by
      subst c
      cases hq
    have h4 : q ≠ 429 := fun c => by
      subst c
      cases hq
    rw [e2 q c1 h3 h4]
    exact fK q k hq
theorem hq_span (h : Sy I) (lw : LwS I 246 (I 421) nl len cd fa fn) (ln : LwN (I 421) nl) : Sp S m_X12_span 26 0 0 [.ref 420, .int x1, .int (bI b2)] (hp I L w1 w2 t) (Qr I (vTr x1) (spnW cd fa fn nl (I 421) (ixN x1) b2) L w1 w2 t) nX := by
  have h12 := h.n12
  have e21 : up2 I 420 0 0 421 = I 421 := up2_row (by decide)
  have hG := h.nm.2.2
  have hL := lw.2.1
  refine Sp_of ok_X12_span rfl rfl ?_
  show AW S m_X12_span 26 _ _ 0 0 0 [some (.ref 420), some (.int x1), some (.int (bI b2)), none, none, none] [] (hp I L w1 w2 t)
  refine a_l0 rfl rfl rfl ?_
  refine a_s rfl rfl ?_
  refine a_puti rfl pfX12_3_12 rfl ?_
  refine a_l0 rfl rfl rfl ?_
  refine a_l1 rfl rfl rfl ?_
  refine a_eS1 rfl lX12_392 mo_X12_noDays sp_X12_noDays rfl rfl rfl rfl ?_
  obtain ⟨z, hz⟩ : ∃ z, inB x1 0 90 = z := ⟨_, rfl⟩
  rw [hz]
  refine a_s rfl rfl ?_
  cases z with
  | false =>
    refine a_eV1 rfl lX12_243 mo_X12_throwsIf (h_throwsIf (z := true)) rfl rfl rfl ⟨12, _, rfl, rfl, rfl⟩ rfl ?_
    rw [if_pos rfl]
    refine a_if_eq rfl (fun c => absurd c (by decide)) (fun _ => ?_)
    refine a_s rfl rfl ?_
    exact a_iret rfl rfl (Qr.no (if_neg (by rw [hz]; exact Bool.false_ne_true)) (by decide))
  | true =>
  refine a_eV1 rfl lX12_243 mo_X12_throwsIf (h_throwsIf (z := false)) rfl rfl rfl ⟨12, _, rfl, rfl, rfl⟩ rfl ?_
  rw [if_neg Bool.false_ne_true]
  refine a_if_eq rfl (fun _ => ?_) (fun c => absurd rfl c)
  obtain ⟨n, -, hn, rfl⟩ := inB_nI (a := 0) (b := 90) (by decide) hz
  rw [ixN_nI (by omega)]
  have nn : ∀ k, ¬ spT cd fa fn nl (I 421) n k < 0 := fun k => trS_nn (sd_ok hG ln).1 (sd_ok hG ln).2.1
  refine a_l0 rfl rfl rfl ?_
  refine a_eV0 rfl lX12_395 mo_X12_keepsAll sp_X12_keepsAll rfl rfl rfl ⟨12, _, rfl, rfl, rfl⟩ rfl ?_
  have fK0 : Fm sV I (cpP (up2 I 420 0 0) 424 421 335) := fun q k hq => by
    have h1 : q ≠ 424 := fun c => by
      subst c
      cases hq
    rw [cpP_out h1]
    exact Fm.up (s := sV) Fm.rf rfl q k hq
  have e0 : cpP (up2 I 420 0 0) 424 421 335 421 = I 421 := (cpP_out (by decide)).trans e21
  have e4 : ∀ k, k < 335 → cpP (up2 I 420 0 0) 424 421 335 424 k = I 421 k := fun k hk => by
    show (upr (up2 I 420 0 0) 424 (fun k => if k < 335 then up2 I 420 0 0 421 k else up2 I 420 0 0 424 k)) 424 k = I 421 k
    rw [upr_at]
    show (if k < 335 then up2 I 420 0 0 421 k else up2 I 420 0 0 424 k) = I 421 k
    rw [if_pos hk, e21]
  have k0 : cpP (up2 I 420 0 0) 424 421 335 420 0 = 0 := (congrFun (cpP_out (by decide)) 0).trans up2_at
  generalize cpP (up2 I 420 0 0) 424 421 335 = K0 at fK0 e0 e4 k0
  refine a_s rfl rfl ?_
  refine a_s3 rfl rfl rfl rfl rfl rfl ?_
  refine a_s rfl rfl ?_
  refine a_s4 rfl rfl rfl rfl rfl rfl ?_
  refine a_inv (n := 6) (fun m ls hh => ∃ k K best u, ls = [some (.ref 420), some (.int (nI n)), some (.int (bI b2)), some (.int best), some (.int (nI (k + 1))), u] ∧ hh = hp K L w1 w2 t ∧ Fm sV I K ∧ K 421 = I 421 ∧ (∀ k, k < 335 → K 424 k = I 421 k) ∧ K 420 0 = 0 ∧ k ≤ 6 ∧ m = 6 - k ∧ ((k = 0 ∧ best = -1) ∨ ∃ j, k = j + 1 ∧ best = spG (spT cd fa fn nl (I 421) n) b2 j)) ⟨0, K0, -1, none, rfl, rfl, fK0, e0, e4, k0, by decide, rfl, Or.inl ⟨rfl, rfl⟩⟩ ?_
  clear fK0 e0 e4 k0
  rintro m _ _ ⟨k, K, best, u, rfl, rfl, fK, e, e4, k0, hk, hm, hb⟩ ih
  refine a_l4 rfl rfl rfl ?_
  refine a_s rfl rfl ?_
  by_cases hk6 : k < 6
  case neg =>
    obtain rfl : k = 6 := by omega
    refine a_ic_gt rfl (fun _ => ?_) (fun c => absurd (show (6 : Int32) < nI (6 + 1) by decide) c)
    rcases hb with ⟨z, -⟩ | ⟨j, hj, rfl⟩
    · cases z
    · obtain rfl : j = 5 := by omega
      refine a_l3 rfl rfl rfl ?_
      exact a_iret rfl rfl ⟨_, K, rfl, rfl, fK, k0.trans (if_pos hz).symm, fun _ => rfl⟩
  refine a_ic_gt rfl (fun c => absurd c (nI_nlu (n := 6) (j := k + 1) (by omega) (by omega))) (fun _ => ?_)
  have okV := sd_ok (x := nI (k + 1)) hG ln
  have ok := dsW_ok (calm := false) (cd := cd) (fa' := fa) (fn := fn) (ds0 okV.1 okV.2.1) n
  have hV : LawR (ud (I 421) 10 (nI (k + 1))) nl len cd fa fn := LawR.eq hL okV.2.2.1 okV.2.2.2.2
  have eV : up2 K 421 10 (nI (k + 1)) 421 = ud (I 421) 10 (nI (k + 1)) := by rw [up2_ud, e]
  refine a_l0 rfl rfl rfl ?_
  refine a_getq rfl gfX12_13_12 rfl (rfl) ?_
  refine a_s rfl rfl ?_
  refine a_l4 rfl rfl rfl ?_
  refine a_iastv (k := 10) rfl (n := 2033) rfl ⟨by decide, by decide⟩ rfl ?_
  refine a_l0 rfl rfl rfl ?_
  refine a_l1 rfl rfl rfl ?_
  refine a_s rfl rfl ?_
  refine a_top (y := bI false) (rfl) ?_
  refine a_gV rfl lX12_388 mo_X12_goesOn (h_goesOn (W := ud (I 421) 10 (nI (k + 1))) (m := n) (calm := false) eV okV.1 hV okV.2.1 hn) rfl rfl rfl ⟨12, _, rfl, rfl, rfl⟩ rfl (fun v' h' hv => ?_)
  obtain ⟨y, rfl, J, rfl, hf, eJ⟩ := hv
  have du : J 421 1 = nI (dn (ud (I 421) 10 (nI (k + 1)))) := by
    rw [eJ, ← ok.2.2.1]
    exact ok.1.1.2.2.2
  refine a_s rfl rfl ?_
  refine a_l0 rfl rfl rfl ?_
  refine a_l0 rfl rfl rfl ?_
  refine a_s rfl rfl ?_
  refine a_eV1 rfl lX12_324 mo_X12_ofState (sp_X12_ofState okV.1.1.2.1 du) rfl rfl rfl ⟨12, _, rfl, rfl, rfl⟩ rfl ?_
  rw [eJ]
  refine a_gV rfl lX12_339 mo_X12_shameOf (h_waitShame eJ ok hV) rfl rfl rfl ⟨12, _, rfl, rfl, rfl⟩ rfl (fun v' h' hv => ?_)
  obtain ⟨rfl, r, rfl⟩ := hv
  obtain ⟨b1, b2', b3, b4⟩ := back_ok2 (I := I) (J := upr J 428 r) e4 fK (fun q h1 h2 h3 => (upr_row h2).trans ((hf q h1 h2 h3).trans (up2_row h1))) (fun k hk => by rw [upr_row (by decide), eJ]; exact (ok.2.2.2.2.2 k hk).trans (okV.2.2.2.2 k hk))
  refine a_s5 rfl rfl rfl rfl rfl rfl ?_
  refine a_l0 rfl rfl rfl ?_
  refine a_eV0 rfl lX12_398 mo_X12_bringsBack sp_X12_bringsBack rfl rfl rfl ⟨12, _, rfl, rfl, rfl⟩ rfl ?_
  have on : ∀ {v : Int32}, v = spG (spT cd fa fn nl (I 421) n) b2 k → AW S m_X12_span 26 (Qr I (vTr (nI n)) (spnW cd fa fn nl (I 421) n b2) L w1 w2 t) nX 0 0 94 [some (.ref 420), some (.int (nI n)), some (.int (bI b2)), some (.int best), some (.int (nI (k + 1))), some (.int (spT cd fa fn nl (I 421) n (k + 1)))] [.int v] (hp (cpP (upr J 428 r) 421 424 335) L w1 w2 t) := fun {v} ev => by
    refine a_s3 rfl rfl rfl rfl rfl rfl ?_
    refine a_iv4 (y := nI (k + 1 + 1)) rfl rfl rfl ((nI_succ (k + 1)).symm) ?_
    refine a_goto rfl ?_
    exact ih (6 - (k + 1)) _ _ (by omega) ⟨k + 1, _, v, _, rfl, rfl, b2', b1, b4, b3.trans k0, by omega, rfl, Or.inr ⟨k, rfl, ev⟩⟩
  refine a_l3 rfl rfl rfl ?_
  rcases hb with ⟨rfl, rfl⟩ | ⟨j, rfl, rfl⟩
  · refine a_if_ge rfl (fun c => absurd c (by decide)) (fun _ => ?_)
    refine a_l5 rfl rfl rfl ?_
    refine a_goto rfl ?_
    exact on rfl
  · refine a_if_ge rfl (fun _ => ?_) (fun c => absurd (Int32.not_lt.mp (spG_nn nn j)) c)
    refine a_l2 rfl rfl rfl ?_
    cases b2 with
    | false =>
      refine a_if_eq rfl (fun _ => ?_) (fun c => absurd rfl c)
      refine a_l3 rfl rfl rfl ?_
      refine a_l5 rfl rfl rfl ?_
      refine a_min rfl lX12_295 mj_min rfl rfl ?_
      exact on rfl
    | true =>
      refine a_if_eq rfl (fun c => absurd c (by decide)) (fun _ => ?_)
      refine a_l3 rfl rfl rfl ?_
      refine a_l5 rfl rfl rfl ?_
      refine a_max rfl lX12_265 mj_max rfl rfl ?_
      refine a_goto rfl ?_
      exact on rfl
end T79zzo
end
section
/-! ===== what is known between two operations; the law's wrappers (printed by program) ===== -/
set_option maxRecDepth 100000
/-- of the exceptions, which is none of which -/
def ncs : List (String × String) := [("java/lang/UnsupportedOperationException", "java/lang/IllegalArgumentException"), ("java/lang/IndexOutOfBoundsException", "java/lang/IllegalArgumentException"), ("java/util/NoSuchElementException", "java/lang/IllegalArgumentException"), ("java/lang/IllegalStateException", "java/lang/IllegalArgumentException"), ("java/lang/IllegalArgumentException", "java/lang/UnsupportedOperationException"), ("java/lang/IndexOutOfBoundsException", "java/lang/UnsupportedOperationException"), ("java/util/NoSuchElementException", "java/lang/UnsupportedOperationException"), ("java/lang/IllegalStateException", "java/lang/UnsupportedOperationException"), ("java/lang/IllegalArgumentException", "java/lang/IndexOutOfBoundsException"), ("java/lang/UnsupportedOperationException", "java/lang/IndexOutOfBoundsException"), ("java/util/NoSuchElementException", "java/lang/IndexOutOfBoundsException"), ("java/lang/IllegalStateException", "java/lang/IndexOutOfBoundsException"), ("java/lang/IllegalArgumentException", "java/util/NoSuchElementException"), ("java/lang/UnsupportedOperationException", "java/util/NoSuchElementException"), ("java/lang/IndexOutOfBoundsException", "java/util/NoSuchElementException"), ("java/lang/IllegalStateException", "java/util/NoSuchElementException"), ("java/lang/IllegalArgumentException", "java/lang/IllegalStateException"), ("java/lang/UnsupportedOperationException", "java/lang/IllegalStateException"), ("java/lang/IndexOutOfBoundsException", "java/lang/IllegalStateException"), ("java/util/NoSuchElementException", "java/lang/IllegalStateException")]
def HdS (S : aS) : Prop := WdS S ∧ ∀ r, r ∈ ncs → r ∈ S.2.2.2.2.2
theorem tk_13 {S : aS} {pc a b hpc : Nat} {rs : List (Nat × Nat × Nat × Nat)} {C : aM} (hC : C.1.cls = RL) (h1 : a ≤ pc) (h2 : pc < b) : hTake S C pc "java/lang/IllegalArgumentException" ((a, b, hpc, 13) :: rs) hpc := ⟨⟨h1, h2, by show (13 : Nat) ≠ 0; decide⟩, _, by rw [hC]; exact (inC3 (i := 203) rfl rfl), Or.inl ⟨⟨inD4 (i := 232) rfl, rfl⟩, rfl⟩⟩
theorem tn_13 {S : aS} {pc a b q hpc : Nat} {rs : List (Nat × Nat × Nat × Nat)} {C : aM} {E : String} (hC : C.1.cls = RL) (h1 : a ≤ pc) (h2 : pc < b) (hE : (E, "java/lang/IllegalArgumentException") ∈ S.2.2.2.2.2) (k : hTake S C pc E rs hpc) : hTake S C pc E ((a, b, q, 13) :: rs) hpc := ⟨⟨h1, h2, by show (13 : Nat) ≠ 0; decide⟩, _, by rw [hC]; exact (inC3 (i := 203) rfl rfl), Or.inr ⟨hE, k⟩⟩
theorem tk_15 {S : aS} {pc a b hpc : Nat} {rs : List (Nat × Nat × Nat × Nat)} {C : aM} (hC : C.1.cls = RL) (h1 : a ≤ pc) (h2 : pc < b) : hTake S C pc "java/lang/UnsupportedOperationException" ((a, b, hpc, 15) :: rs) hpc := ⟨⟨h1, h2, by show (15 : Nat) ≠ 0; decide⟩, _, by rw [hC]; exact (inC3 (i := 204) rfl rfl), Or.inl ⟨⟨inD5 (i := 57) rfl, rfl⟩, rfl⟩⟩
theorem tn_15 {S : aS} {pc a b q hpc : Nat} {rs : List (Nat × Nat × Nat × Nat)} {C : aM} {E : String} (hC : C.1.cls = RL) (h1 : a ≤ pc) (h2 : pc < b) (hE : (E, "java/lang/UnsupportedOperationException") ∈ S.2.2.2.2.2) (k : hTake S C pc E rs hpc) : hTake S C pc E ((a, b, q, 15) :: rs) hpc := ⟨⟨h1, h2, by show (15 : Nat) ≠ 0; decide⟩, _, by rw [hC]; exact (inC3 (i := 204) rfl rfl), Or.inr ⟨hE, k⟩⟩
theorem tk_24 {S : aS} {pc a b hpc : Nat} {rs : List (Nat × Nat × Nat × Nat)} {C : aM} (hC : C.1.cls = RL) (h1 : a ≤ pc) (h2 : pc < b) : hTake S C pc "java/lang/IndexOutOfBoundsException" ((a, b, hpc, 24) :: rs) hpc := ⟨⟨h1, h2, by show (24 : Nat) ≠ 0; decide⟩, _, by rw [hC]; exact (inC5 (i := 87) rfl rfl), Or.inl ⟨⟨inD5 (i := 99) rfl, rfl⟩, rfl⟩⟩
theorem tn_24 {S : aS} {pc a b q hpc : Nat} {rs : List (Nat × Nat × Nat × Nat)} {C : aM} {E : String} (hC : C.1.cls = RL) (h1 : a ≤ pc) (h2 : pc < b) (hE : (E, "java/lang/IndexOutOfBoundsException") ∈ S.2.2.2.2.2) (k : hTake S C pc E rs hpc) : hTake S C pc E ((a, b, q, 24) :: rs) hpc := ⟨⟨h1, h2, by show (24 : Nat) ≠ 0; decide⟩, _, by rw [hC]; exact (inC5 (i := 87) rfl rfl), Or.inr ⟨hE, k⟩⟩
theorem tk_26 {S : aS} {pc a b hpc : Nat} {rs : List (Nat × Nat × Nat × Nat)} {C : aM} (hC : C.1.cls = RL) (h1 : a ≤ pc) (h2 : pc < b) : hTake S C pc "java/util/NoSuchElementException" ((a, b, hpc, 26) :: rs) hpc := ⟨⟨h1, h2, by show (26 : Nat) ≠ 0; decide⟩, _, by rw [hC]; exact (inC5 (i := 88) rfl rfl), Or.inl ⟨⟨inD5 (i := 122) rfl, rfl⟩, rfl⟩⟩
theorem tn_26 {S : aS} {pc a b q hpc : Nat} {rs : List (Nat × Nat × Nat × Nat)} {C : aM} {E : String} (hC : C.1.cls = RL) (h1 : a ≤ pc) (h2 : pc < b) (hE : (E, "java/util/NoSuchElementException") ∈ S.2.2.2.2.2) (k : hTake S C pc E rs hpc) : hTake S C pc E ((a, b, q, 26) :: rs) hpc := ⟨⟨h1, h2, by show (26 : Nat) ≠ 0; decide⟩, _, by rw [hC]; exact (inC5 (i := 88) rfl rfl), Or.inr ⟨hE, k⟩⟩
theorem tk_35 {S : aS} {pc a b hpc : Nat} {rs : List (Nat × Nat × Nat × Nat)} {C : aM} (hC : C.1.cls = RL) (h1 : a ≤ pc) (h2 : pc < b) : hTake S C pc "java/lang/IllegalStateException" ((a, b, hpc, 35) :: rs) hpc := ⟨⟨h1, h2, by show (35 : Nat) ≠ 0; decide⟩, _, by rw [hC]; exact (inC5 (i := 153) rfl rfl), Or.inl ⟨⟨inD5 (i := 161) rfl, rfl⟩, rfl⟩⟩
theorem tn_35 {S : aS} {pc a b q hpc : Nat} {rs : List (Nat × Nat × Nat × Nat)} {C : aM} {E : String} (hC : C.1.cls = RL) (h1 : a ≤ pc) (h2 : pc < b) (hE : (E, "java/lang/IllegalStateException") ∈ S.2.2.2.2.2) (k : hTake S C pc E rs hpc) : hTake S C pc E ((a, b, q, 35) :: rs) hpc := ⟨⟨h1, h2, by show (35 : Nat) ≠ 0; decide⟩, _, by rw [hC]; exact (inC5 (i := 153) rfl rfl), Or.inr ⟨hE, k⟩⟩
def HdP (P : (Nat → Nat → Int32) → Prop) : Option Value → aH → Prop := fun v h' => isI v ∧ ∃ I' L' w1' w2' t', h' = hp I' L' w1' w2' t' ∧ P I' ∧ WK w1' ∧ WK w2'
section W80
variable {S : aS} {I : Nat → Nat → Int32} {L : Nat → Nat → Int64} {w1 w2 t : Nat}
theorem L_person (hS : HdS S) (hci : CI I) (hk1 : WK w1) (hk2 : WK w2) {x1 : Int32} {x2 : Int32} : Sp S m_L_person 20 2 12 [.ref 200, .int x1, .int x2, .ref 431] (hp I L w1 w2 t) (HdP (Fm sQ I)) nX := by
  refine Sp_of ok_L_person rfl rfl ?_
  show AW S m_L_person 20 _ _ 2 12 0 [some (.ref 200), some (.int x1), some (.int x2), some (.ref 431), none] [] (hp I L w1 w2 t)
  refine a_l3 rfl rfl rfl ?_
  refine a_s rfl rfl ?_
  refine a_l0 rfl rfl rfl ?_
  refine a_l1 rfl rfl rfl ?_
  refine a_l2 rfl rfl rfl ?_
  refine a_callVc rfl lL_20 mo_X11_person (q_X11_person_200) rfl rfl rfl ⟨11, _, rfl, rfl, rfl⟩ (fun v' h' hv => ?_) (fun E h' hx => ?_)
  · obtain ⟨⟨v, rfl⟩, I1, rfl, f⟩ := hv
    refine a_s rfl rfl ?_
    refine a_last rfl (n := 1) rfl ⟨by decide, by decide⟩ ?_
    refine a_goto rfl ?_
    refine a_s rfl rfl ?_
    exact a_iret rfl rfl ⟨⟨_, rfl⟩, _, _, _, _, _, rfl, f, hk1, hk2⟩
  · obtain ⟨⟨k, hk, rfl⟩, I1, rfl, f⟩ := hx
    simp only [List.mem_cons, List.not_mem_nil, or_false] at hk
    rcases hk with rfl | rfl
    · refine ⟨13, _, _, _, _, 4, tk_24 rfl (by decide) (by decide), rfl, rfl, by decide, ?_⟩
      refine a_s rfl rfl ?_
      exact a_iret rfl rfl ⟨⟨_, rfl⟩, _, _, _, _, _, rfl, f, hk1, hk2⟩
    · refine ⟨17, _, _, _, _, 4, tn_24 rfl (by decide) (by decide) (hS.2 ("java/util/NoSuchElementException", "java/lang/IndexOutOfBoundsException") (by decide +kernel)) (tk_26 rfl (by decide) (by decide)), rfl, rfl, by decide, ?_⟩
      refine a_s rfl rfl ?_
      exact a_iret rfl rfl ⟨⟨_, rfl⟩, _, _, _, _, _, rfl, f, hk1, hk2⟩
theorem L_duty (hS : HdS S) (hci : CI I) (hk1 : WK w1) (hk2 : WK w2) {x1 : Int32} {x2 : Int32} : Sp S m_L_duty 17 2 12 [.ref 200, .int x1, .int x2, .ref 431] (hp I L w1 w2 t) (HdP (Fm sQ I)) nX := by
  refine Sp_of ok_L_duty rfl rfl ?_
  show AW S m_L_duty 17 _ _ 2 12 0 [some (.ref 200), some (.int x1), some (.int x2), some (.ref 431), none] [] (hp I L w1 w2 t)
  refine a_l3 rfl rfl rfl ?_
  refine a_s rfl rfl ?_
  refine a_l0 rfl rfl rfl ?_
  refine a_l1 rfl rfl rfl ?_
  refine a_l2 rfl rfl rfl ?_
  refine a_callVc rfl lL_28 mo_X11_duty (q_X11_duty_200) rfl rfl rfl ⟨11, _, rfl, rfl, rfl⟩ (fun v' h' hv => ?_) (fun E h' hx => ?_)
  · obtain ⟨⟨v, rfl⟩, I1, rfl, f⟩ := hv
    refine a_s rfl rfl ?_
    refine a_last rfl (n := 1) rfl ⟨by decide, by decide⟩ ?_
    refine a_goto rfl ?_
    refine a_s rfl rfl ?_
    exact a_iret rfl rfl ⟨⟨_, rfl⟩, _, _, _, _, _, rfl, f, hk1, hk2⟩
  · obtain ⟨⟨k, hk, rfl⟩, I1, rfl, f⟩ := hx
    simp only [List.mem_cons, List.not_mem_nil, or_false] at hk
    rcases hk with rfl | rfl
    · refine ⟨13, _, _, _, _, 4, tk_24 rfl (by decide) (by decide), rfl, rfl, by decide, ?_⟩
      refine a_s rfl rfl ?_
      exact a_iret rfl rfl ⟨⟨_, rfl⟩, _, _, _, _, _, rfl, f, hk1, hk2⟩
    · refine ⟨17, _, _, _, _, 4, tn_24 rfl (by decide) (by decide) (hS.2 ("java/util/NoSuchElementException", "java/lang/IndexOutOfBoundsException") (by decide +kernel)) (tk_26 rfl (by decide) (by decide)), rfl, rfl, by decide, ?_⟩
      refine a_s rfl rfl ?_
      exact a_iret rfl rfl ⟨⟨_, rfl⟩, _, _, _, _, _, rfl, f, hk1, hk2⟩
theorem L_greets (hS : HdS S) (hci : CI I) (hk1 : WK w1) (hk2 : WK w2) {x1 : Int32} {x2 : Int32} : Sp S m_L_greets 16 2 12 [.ref 200, .int x1, .int x2, .ref 431] (hp I L w1 w2 t) (HdP (Fm sQ I)) nX := by
  refine Sp_of ok_L_greets rfl rfl ?_
  show AW S m_L_greets 16 _ _ 2 12 0 [some (.ref 200), some (.int x1), some (.int x2), some (.ref 431), none] [] (hp I L w1 w2 t)
  refine a_l3 rfl rfl rfl ?_
  refine a_s rfl rfl ?_
  refine a_l0 rfl rfl rfl ?_
  refine a_l1 rfl rfl rfl ?_
  refine a_l2 rfl rfl rfl ?_
  refine a_callVc rfl lL_58 mo_X11_greets (q_X11_greets_200) rfl rfl rfl ⟨11, _, rfl, rfl, rfl⟩ (fun v' h' hv => ?_) (fun E h' hx => ?_)
  · obtain ⟨⟨v, rfl⟩, rfl⟩ := hv
    refine a_s rfl rfl ?_
    refine a_last rfl (n := 1) rfl ⟨by decide, by decide⟩ ?_
    refine a_goto rfl ?_
    refine a_s rfl rfl ?_
    exact a_iret rfl rfl ⟨⟨_, rfl⟩, _, _, _, _, _, rfl, Fm.rf, hk1, hk2⟩
  · obtain ⟨⟨k, hk, rfl⟩, I1, rfl, f⟩ := hx
    simp only [List.mem_cons, List.not_mem_nil, or_false] at hk
    rcases hk with rfl
    · refine ⟨13, _, _, _, _, 4, tk_24 rfl (by decide) (by decide), rfl, rfl, by decide, ?_⟩
      refine a_s rfl rfl ?_
      exact a_iret rfl rfl ⟨⟨_, rfl⟩, _, _, _, _, _, rfl, f, hk1, hk2⟩
theorem L_where (hS : HdS S) (hci : CI I) (hk1 : WK w1) (hk2 : WK w2) {x1 : Int32} {x2 : Int32} : Sp S m_L_where 17 2 12 [.ref 200, .int x1, .int x2, .ref 431] (hp I L w1 w2 t) (HdP (Fm sQ I)) nX := by
  refine Sp_of ok_L_where rfl rfl ?_
  show AW S m_L_where 17 _ _ 2 12 0 [some (.ref 200), some (.int x1), some (.int x2), some (.ref 431), none] [] (hp I L w1 w2 t)
  refine a_l3 rfl rfl rfl ?_
  refine a_s rfl rfl ?_
  refine a_l0 rfl rfl rfl ?_
  refine a_l1 rfl rfl rfl ?_
  refine a_l2 rfl rfl rfl ?_
  refine a_callVc rfl lL_61 mo_X11_where (q_X11_where_200) rfl rfl rfl ⟨11, _, rfl, rfl, rfl⟩ (fun v' h' hv => ?_) (fun E h' hx => ?_)
  · obtain ⟨⟨v, rfl⟩, rfl⟩ := hv
    refine a_s rfl rfl ?_
    refine a_last rfl (n := 1) rfl ⟨by decide, by decide⟩ ?_
    refine a_goto rfl ?_
    refine a_s rfl rfl ?_
    exact a_iret rfl rfl ⟨⟨_, rfl⟩, _, _, _, _, _, rfl, Fm.rf, hk1, hk2⟩
  · obtain ⟨⟨k, hk, rfl⟩, I1, rfl, f⟩ := hx
    simp only [List.mem_cons, List.not_mem_nil, or_false] at hk
    rcases hk with rfl | rfl
    · refine ⟨13, _, _, _, _, 4, tk_24 rfl (by decide) (by decide), rfl, rfl, by decide, ?_⟩
      refine a_s rfl rfl ?_
      exact a_iret rfl rfl ⟨⟨_, rfl⟩, _, _, _, _, _, rfl, f, hk1, hk2⟩
    · refine ⟨17, _, _, _, _, 4, tn_24 rfl (by decide) (by decide) (hS.2 ("java/lang/IllegalArgumentException", "java/lang/IndexOutOfBoundsException") (by decide +kernel)) (tk_13 rfl (by decide) (by decide)), rfl, rfl, by decide, ?_⟩
      refine a_s rfl rfl ?_
      exact a_iret rfl rfl ⟨⟨_, rfl⟩, _, _, _, _, _, rfl, f, hk1, hk2⟩
theorem L_crowd (hS : HdS S) (hci : CI I) (hk1 : WK w1) (hk2 : WK w2) {x1 : Int32} {x2 : Int32} {x3 : Int32} : Sp S m_L_crowd 17 4 24 [.ref 200, .int x1, .int x2, .int x3, .ref 431] (hp I L w1 w2 t) (HdP (Fm sQ I)) nX := by
  refine Sp_of ok_L_crowd rfl rfl ?_
  show AW S m_L_crowd 17 _ _ 4 24 0 [some (.ref 200), some (.int x1), some (.int x2), some (.int x3), some (.ref 431), none] [] (hp I L w1 w2 t)
  refine a_l4 rfl rfl rfl ?_
  refine a_s rfl rfl ?_
  refine a_l0 rfl rfl rfl ?_
  refine a_l1 rfl rfl rfl ?_
  refine a_l2 rfl rfl rfl ?_
  refine a_l3 rfl rfl rfl ?_
  refine a_callVc rfl lL_64 mo_X11_crowd (q_X11_crowd_200) rfl rfl rfl ⟨11, _, rfl, rfl, rfl⟩ (fun v' h' hv => ?_) (fun E h' hx => ?_)
  · obtain ⟨⟨v, rfl⟩, rfl⟩ := hv
    refine a_s rfl rfl ?_
    refine a_last rfl (n := 1) rfl ⟨by decide, by decide⟩ ?_
    refine a_goto rfl ?_
    refine a_s rfl rfl ?_
    exact a_iret rfl rfl ⟨⟨_, rfl⟩, _, _, _, _, _, rfl, Fm.rf, hk1, hk2⟩
  · obtain ⟨⟨k, hk, rfl⟩, I1, rfl, f⟩ := hx
    simp only [List.mem_cons, List.not_mem_nil, or_false] at hk
    rcases hk with rfl | rfl
    · refine ⟨15, _, _, _, _, 5, tk_24 rfl (by decide) (by decide), rfl, rfl, by decide, ?_⟩
      refine a_s rfl rfl ?_
      exact a_iret rfl rfl ⟨⟨_, rfl⟩, _, _, _, _, _, rfl, f, hk1, hk2⟩
    · refine ⟨19, _, _, _, _, 5, tn_24 rfl (by decide) (by decide) (hS.2 ("java/lang/IllegalArgumentException", "java/lang/IndexOutOfBoundsException") (by decide +kernel)) (tk_13 rfl (by decide) (by decide)), rfl, rfl, by decide, ?_⟩
      refine a_s rfl rfl ?_
      exact a_iret rfl rfl ⟨⟨_, rfl⟩, _, _, _, _, _, rfl, f, hk1, hk2⟩
theorem L_does (hS : HdS S) (hci : CI I) (hk1 : WK w1) (hk2 : WK w2) {x1 : Int32} {b2 : Bool} : Sp S m_L_does 18 1 6 [.ref 200, .int x1, .int (bI b2), .ref 431] (hp I L w1 w2 t) (HdP (Fm sQ I)) nX := by
  obtain ⟨nd, hn, hd⟩ := hci 235 (by decide) (by decide)
  refine Sp_of ok_L_does rfl rfl ?_
  show AW S m_L_does 18 _ _ 1 6 0 [some (.ref 200), some (.int x1), some (.int (bI b2)), some (.ref 431), none] [] (hp I L w1 w2 t)
  refine a_l3 rfl rfl rfl ?_
  refine a_s rfl rfl ?_
  refine a_l0 rfl rfl rfl ?_
  refine a_l1 rfl rfl rfl ?_
  refine a_l2 rfl rfl rfl ?_
  refine a_callVc rfl lL_68 mo_X11_does (q_X11_does_200 hd hn) rfl rfl rfl ⟨11, _, rfl, rfl, rfl⟩ (fun v' h' hv => ?_) (fun E h' hx => ?_)
  · obtain ⟨⟨v, rfl⟩, I1, rfl, f⟩ := hv
    refine a_s rfl rfl ?_
    refine a_last rfl (n := 1) rfl ⟨by decide, by decide⟩ ?_
    refine a_goto rfl ?_
    refine a_s rfl rfl ?_
    exact a_iret rfl rfl ⟨⟨_, rfl⟩, _, _, _, _, _, rfl, f, hk1, hk2⟩
  · obtain ⟨⟨k, hk, rfl⟩, I1, rfl, f⟩ := hx
    simp only [List.mem_cons, List.not_mem_nil, or_false] at hk
    rcases hk with rfl
    · refine ⟨13, _, _, _, _, 4, tk_13 rfl (by decide) (by decide), rfl, rfl, by decide, ?_⟩
      refine a_s rfl rfl ?_
      exact a_iret rfl rfl ⟨⟨_, rfl⟩, _, _, _, _, _, rfl, f, hk1, hk2⟩
theorem L_soon (hS : HdS S) (hci : CI I) (hk1 : WK w1) (hk2 : WK w2) {x1 : Int32} : Sp S m_L_soon 18 1 6 [.ref 200, .int x1, .ref 431] (hp I L w1 w2 t) (HdP (Fm sQ I)) nX := by
  refine Sp_of ok_L_soon rfl rfl ?_
  show AW S m_L_soon 18 _ _ 1 6 0 [some (.ref 200), some (.int x1), some (.ref 431), none] [] (hp I L w1 w2 t)
  refine a_l2 rfl rfl rfl ?_
  refine a_s rfl rfl ?_
  refine a_l0 rfl rfl rfl ?_
  refine a_l1 rfl rfl rfl ?_
  refine a_callVc rfl lL_72 mo_X11_soon (q_X11_soon_200) rfl rfl rfl ⟨11, _, rfl, rfl, rfl⟩ (fun v' h' hv => ?_) (fun E h' hx => ?_)
  · obtain ⟨⟨v, rfl⟩, rfl⟩ := hv
    refine a_s rfl rfl ?_
    refine a_last rfl (n := 1) rfl ⟨by decide, by decide⟩ ?_
    refine a_goto rfl ?_
    refine a_s rfl rfl ?_
    exact a_iret rfl rfl ⟨⟨_, rfl⟩, _, _, _, _, _, rfl, Fm.rf, hk1, hk2⟩
  · obtain ⟨⟨k, hk, rfl⟩, I1, rfl, f⟩ := hx
    simp only [List.mem_cons, List.not_mem_nil, or_false] at hk
    rcases hk with rfl
    · refine ⟨12, _, _, _, _, 3, tk_24 rfl (by decide) (by decide), rfl, rfl, by decide, ?_⟩
      refine a_s rfl rfl ?_
      exact a_iret rfl rfl ⟨⟨_, rfl⟩, _, _, _, _, _, rfl, f, hk1, hk2⟩
theorem L_before (hS : HdS S) (hci : CI I) (hk1 : WK w1) (hk2 : WK w2) {x1 : Int32} : Sp S m_L_before 15 1 6 [.ref 200, .int x1, .ref 431] (hp I L w1 w2 t) (HdP (Fm sQ I)) nX := by
  refine Sp_of ok_L_before rfl rfl ?_
  show AW S m_L_before 15 _ _ 1 6 0 [some (.ref 200), some (.int x1), some (.ref 431), none] [] (hp I L w1 w2 t)
  refine a_l2 rfl rfl rfl ?_
  refine a_s rfl rfl ?_
  refine a_l0 rfl rfl rfl ?_
  refine a_l1 rfl rfl rfl ?_
  refine a_callVc rfl lL_75 mo_X11_before (q_X11_before_200) rfl rfl rfl ⟨11, _, rfl, rfl, rfl⟩ (fun v' h' hv => ?_) (fun E h' hx => ?_)
  · obtain ⟨⟨v, rfl⟩, rfl⟩ := hv
    refine a_s rfl rfl ?_
    refine a_last rfl (n := 1) rfl ⟨by decide, by decide⟩ ?_
    refine a_goto rfl ?_
    refine a_s rfl rfl ?_
    exact a_iret rfl rfl ⟨⟨_, rfl⟩, _, _, _, _, _, rfl, Fm.rf, hk1, hk2⟩
  · obtain ⟨⟨k, hk, rfl⟩, I1, rfl, f⟩ := hx
    simp only [List.mem_cons, List.not_mem_nil, or_false] at hk
    rcases hk with rfl
    · refine ⟨12, _, _, _, _, 3, tk_24 rfl (by decide) (by decide), rfl, rfl, by decide, ?_⟩
      refine a_s rfl rfl ?_
      exact a_iret rfl rfl ⟨⟨_, rfl⟩, _, _, _, _, _, rfl, f, hk1, hk2⟩
theorem L_after (hS : HdS S) (hci : CI I) (hk1 : WK w1) (hk2 : WK w2) {x1 : Int32} : Sp S m_L_after 16 1 6 [.ref 200, .int x1, .ref 431] (hp I L w1 w2 t) (HdP (Fm sQ I)) nX := by
  refine Sp_of ok_L_after rfl rfl ?_
  show AW S m_L_after 16 _ _ 1 6 0 [some (.ref 200), some (.int x1), some (.ref 431), none] [] (hp I L w1 w2 t)
  refine a_l2 rfl rfl rfl ?_
  refine a_s rfl rfl ?_
  refine a_l0 rfl rfl rfl ?_
  refine a_l1 rfl rfl rfl ?_
  refine a_callVc rfl lL_78 mo_X11_after (q_X11_after_200) rfl rfl rfl ⟨11, _, rfl, rfl, rfl⟩ (fun v' h' hv => ?_) (fun E h' hx => ?_)
  · obtain ⟨⟨v, rfl⟩, rfl⟩ := hv
    refine a_s rfl rfl ?_
    refine a_last rfl (n := 1) rfl ⟨by decide, by decide⟩ ?_
    refine a_goto rfl ?_
    refine a_s rfl rfl ?_
    exact a_iret rfl rfl ⟨⟨_, rfl⟩, _, _, _, _, _, rfl, Fm.rf, hk1, hk2⟩
  · obtain ⟨⟨k, hk, rfl⟩, I1, rfl, f⟩ := hx
    simp only [List.mem_cons, List.not_mem_nil, or_false] at hk
    rcases hk with rfl
    · refine ⟨12, _, _, _, _, 3, tk_24 rfl (by decide) (by decide), rfl, rfl, by decide, ?_⟩
      refine a_s rfl rfl ?_
      exact a_iret rfl rfl ⟨⟨_, rfl⟩, _, _, _, _, _, rfl, f, hk1, hk2⟩
theorem L_depth (hS : HdS S) (hci : CI I) (hk1 : WK w1) (hk2 : WK w2) {x1 : Int32} : Sp S m_L_depth 15 1 6 [.ref 200, .int x1, .ref 431] (hp I L w1 w2 t) (HdP (Fm sQ I)) nX := by
  refine Sp_of ok_L_depth rfl rfl ?_
  show AW S m_L_depth 15 _ _ 1 6 0 [some (.ref 200), some (.int x1), some (.ref 431), none] [] (hp I L w1 w2 t)
  refine a_l2 rfl rfl rfl ?_
  refine a_s rfl rfl ?_
  refine a_l0 rfl rfl rfl ?_
  refine a_l1 rfl rfl rfl ?_
  refine a_callVc rfl lL_81 mo_X11_depth (q_X11_depth_200) rfl rfl rfl ⟨11, _, rfl, rfl, rfl⟩ (fun v' h' hv => ?_) (fun E h' hx => ?_)
  · obtain ⟨⟨v, rfl⟩, rfl⟩ := hv
    refine a_s rfl rfl ?_
    refine a_last rfl (n := 1) rfl ⟨by decide, by decide⟩ ?_
    refine a_goto rfl ?_
    refine a_s rfl rfl ?_
    exact a_iret rfl rfl ⟨⟨_, rfl⟩, _, _, _, _, _, rfl, Fm.rf, hk1, hk2⟩
  · obtain ⟨⟨k, hk, rfl⟩, I1, rfl, f⟩ := hx
    simp only [List.mem_cons, List.not_mem_nil, or_false] at hk
    rcases hk with rfl
    · refine ⟨12, _, _, _, _, 3, tk_24 rfl (by decide) (by decide), rfl, rfl, by decide, ?_⟩
      refine a_s rfl rfl ?_
      exact a_iret rfl rfl ⟨⟨_, rfl⟩, _, _, _, _, _, rfl, f, hk1, hk2⟩
theorem L_young (hS : HdS S) (hci : CI I) (hk1 : WK w1) (hk2 : WK w2) {x1 : Int32} : Sp S m_L_young 18 1 6 [.ref 200, .int x1, .ref 431] (hp I L w1 w2 t) (HdP (Fm sQ I)) nX := by
  refine Sp_of ok_L_young rfl rfl ?_
  show AW S m_L_young 18 _ _ 1 6 0 [some (.ref 200), some (.int x1), some (.ref 431), none] [] (hp I L w1 w2 t)
  refine a_l2 rfl rfl rfl ?_
  refine a_s rfl rfl ?_
  refine a_l0 rfl rfl rfl ?_
  refine a_l1 rfl rfl rfl ?_
  refine a_callVc rfl lL_84 mo_X11_young (q_X11_young_200) rfl rfl rfl ⟨11, _, rfl, rfl, rfl⟩ (fun v' h' hv => ?_) (fun E h' hx => ?_)
  · obtain ⟨⟨v, rfl⟩, rfl⟩ := hv
    refine a_s rfl rfl ?_
    refine a_last rfl (n := 1) rfl ⟨by decide, by decide⟩ ?_
    refine a_goto rfl ?_
    refine a_s rfl rfl ?_
    exact a_iret rfl rfl ⟨⟨_, rfl⟩, _, _, _, _, _, rfl, Fm.rf, hk1, hk2⟩
  · obtain ⟨⟨k, hk, rfl⟩, I1, rfl, f⟩ := hx
    simp only [List.mem_cons, List.not_mem_nil, or_false] at hk
    rcases hk with rfl
    · refine ⟨12, _, _, _, _, 3, tk_13 rfl (by decide) (by decide), rfl, rfl, by decide, ?_⟩
      refine a_s rfl rfl ?_
      exact a_iret rfl rfl ⟨⟨_, rfl⟩, _, _, _, _, _, rfl, f, hk1, hk2⟩
theorem L_older (hS : HdS S) (hci : CI I) (hk1 : WK w1) (hk2 : WK w2) {x1 : Int32} : Sp S m_L_older 16 1 6 [.ref 200, .int x1, .ref 431] (hp I L w1 w2 t) (HdP (Fm sQ I)) nX := by
  refine Sp_of ok_L_older rfl rfl ?_
  show AW S m_L_older 16 _ _ 1 6 0 [some (.ref 200), some (.int x1), some (.ref 431), none] [] (hp I L w1 w2 t)
  refine a_l2 rfl rfl rfl ?_
  refine a_s rfl rfl ?_
  refine a_l0 rfl rfl rfl ?_
  refine a_l1 rfl rfl rfl ?_
  refine a_callVc rfl lL_87 mo_X11_older (q_X11_older_200) rfl rfl rfl ⟨11, _, rfl, rfl, rfl⟩ (fun v' h' hv => ?_) (fun E h' hx => ?_)
  · obtain ⟨⟨v, rfl⟩, rfl⟩ := hv
    refine a_s rfl rfl ?_
    refine a_last rfl (n := 1) rfl ⟨by decide, by decide⟩ ?_
    refine a_goto rfl ?_
    refine a_s rfl rfl ?_
    exact a_iret rfl rfl ⟨⟨_, rfl⟩, _, _, _, _, _, rfl, Fm.rf, hk1, hk2⟩
  · obtain ⟨⟨k, hk, rfl⟩, I1, rfl, f⟩ := hx
    simp only [List.mem_cons, List.not_mem_nil, or_false] at hk
    rcases hk with rfl
    · refine ⟨12, _, _, _, _, 3, tk_13 rfl (by decide) (by decide), rfl, rfl, by decide, ?_⟩
      refine a_s rfl rfl ?_
      exact a_iret rfl rfl ⟨⟨_, rfl⟩, _, _, _, _, _, rfl, f, hk1, hk2⟩
theorem L_whose (hS : HdS S) (hci : CI I) (hk1 : WK w1) (hk2 : WK w2) : Sp S m_L_whose 17 1 6 [.ref 200, .ref 431] (hp I L w1 w2 t) (HdP (fun J => J = up2 I 201 1 0)) nX := by
  refine Sp_of ok_L_whose rfl rfl ?_
  show AW S m_L_whose 17 _ _ 1 6 0 [some (.ref 200), some (.ref 431), none] [] (hp I L w1 w2 t)
  refine a_l1 rfl rfl rfl ?_
  refine a_s rfl rfl ?_
  refine a_l0 rfl rfl rfl ?_
  refine a_callVc rfl lL_90 mo_X11_whose (q_X11_whose_200) rfl rfl rfl ⟨11, _, rfl, rfl, rfl⟩ (fun v' h' hv => ?_) (fun E h' hx => ?_)
  · obtain ⟨⟨v, rfl⟩, rfl⟩ := hv
    refine a_s rfl rfl ?_
    refine a_last rfl (n := 1) rfl ⟨by decide, by decide⟩ ?_
    refine a_goto rfl ?_
    refine a_s rfl rfl ?_
    exact a_iret rfl rfl ⟨⟨_, rfl⟩, _, _, _, _, _, rfl, rfl, hk1, hk2⟩
  · obtain ⟨⟨k, hk, rfl⟩, rfl⟩ := hx
    simp only [List.mem_cons, List.not_mem_nil, or_false] at hk
    rcases hk with rfl
    · refine ⟨11, _, _, _, _, 2, tk_13 rfl (by decide) (by decide), rfl, rfl, by decide, ?_⟩
      refine a_s rfl rfl ?_
      exact a_iret rfl rfl ⟨⟨_, rfl⟩, _, _, _, _, _, rfl, rfl, hk1, hk2⟩
theorem L_ask (hS : HdS S) (hci : CI I) (hk1 : WK w1) (hk2 : WK w2) : Sp S m_L_ask 17 1 6 [.ref 200, .ref 431] (hp I L w1 w2 t) (HdP (fun J => J = up2 I 201 1 0)) nX := by
  refine Sp_of ok_L_ask rfl rfl ?_
  show AW S m_L_ask 17 _ _ 1 6 0 [some (.ref 200), some (.ref 431), none] [] (hp I L w1 w2 t)
  refine a_l1 rfl rfl rfl ?_
  refine a_s rfl rfl ?_
  refine a_l0 rfl rfl rfl ?_
  refine a_callVc rfl lL_93 mo_X11_ask (q_X11_ask_200) rfl rfl rfl ⟨11, _, rfl, rfl, rfl⟩ (fun v' h' hv => ?_) (fun E h' hx => ?_)
  · obtain ⟨⟨v, rfl⟩, rfl⟩ := hv
    refine a_s rfl rfl ?_
    refine a_last rfl (n := 1) rfl ⟨by decide, by decide⟩ ?_
    refine a_goto rfl ?_
    refine a_s rfl rfl ?_
    exact a_iret rfl rfl ⟨⟨_, rfl⟩, _, _, _, _, _, rfl, rfl, hk1, hk2⟩
  · obtain ⟨⟨k, hk, rfl⟩, rfl⟩ := hx
    simp only [List.mem_cons, List.not_mem_nil, or_false] at hk
    rcases hk with rfl
    · refine ⟨11, _, _, _, _, 2, tk_13 rfl (by decide) (by decide), rfl, rfl, by decide, ?_⟩
      refine a_s rfl rfl ?_
      exact a_iret rfl rfl ⟨⟨_, rfl⟩, _, _, _, _, _, rfl, rfl, hk1, hk2⟩
theorem L_swap (hS : HdS S) (hci : CI I) (hk1 : WK w1) (hk2 : WK w2) {x1 : Int32} {x2 : Int32} : Sp S m_L_swap 18 3 18 [.ref 200, .int x1, .int x2, .ref 431] (hp I L w1 w2 t) (HdP (Fm sQ I)) nX := by
  refine Sp_of ok_L_swap rfl rfl ?_
  show AW S m_L_swap 18 _ _ 3 18 0 [some (.ref 200), some (.int x1), some (.int x2), some (.ref 431), none] [] (hp I L w1 w2 t)
  refine a_l3 rfl rfl rfl ?_
  refine a_s rfl rfl ?_
  refine a_l0 rfl rfl rfl ?_
  refine a_l1 rfl rfl rfl ?_
  refine a_l2 rfl rfl rfl ?_
  refine a_callVc rfl lL_96 mo_X11_swap (q_X11_swap_200) rfl rfl rfl ⟨11, _, rfl, rfl, rfl⟩ (fun v' h' hv => ?_) (fun E h' hx => ?_)
  · obtain ⟨⟨v, rfl⟩, rfl⟩ := hv
    refine a_s rfl rfl ?_
    refine a_last rfl (n := 1) rfl ⟨by decide, by decide⟩ ?_
    refine a_goto rfl ?_
    refine a_s rfl rfl ?_
    exact a_iret rfl rfl ⟨⟨_, rfl⟩, _, _, _, _, _, rfl, Fm.rf, hk1, hk2⟩
  · obtain ⟨⟨k, hk, rfl⟩, I1, rfl, f⟩ := hx
    simp only [List.mem_cons, List.not_mem_nil, or_false] at hk
    rcases hk with rfl | rfl
    · refine ⟨13, _, _, _, _, 4, tk_24 rfl (by decide) (by decide), rfl, rfl, by decide, ?_⟩
      refine a_s rfl rfl ?_
      exact a_iret rfl rfl ⟨⟨_, rfl⟩, _, _, _, _, _, rfl, f, hk1, hk2⟩
    · refine ⟨17, _, _, _, _, 4, tn_24 rfl (by decide) (by decide) (hS.2 ("java/lang/IllegalArgumentException", "java/lang/IndexOutOfBoundsException") (by decide +kernel)) (tk_13 rfl (by decide) (by decide)), rfl, rfl, by decide, ?_⟩
      refine a_s rfl rfl ?_
      exact a_iret rfl rfl ⟨⟨_, rfl⟩, _, _, _, _, _, rfl, f, hk1, hk2⟩
theorem L_rests (hS : HdS S) (hci : CI I) (hk1 : WK w1) (hk2 : WK w2) {x1 : Int32} {x2 : Int32} {x3 : Int32} : Sp S m_L_rests 17 4 24 [.ref 200, .int x1, .int x2, .int x3, .ref 431] (hp I L w1 w2 t) (HdP (Fm sQ I)) nX := by
  refine Sp_of ok_L_rests rfl rfl ?_
  show AW S m_L_rests 17 _ _ 4 24 0 [some (.ref 200), some (.int x1), some (.int x2), some (.int x3), some (.ref 431), none] [] (hp I L w1 w2 t)
  refine a_l4 rfl rfl rfl ?_
  refine a_s rfl rfl ?_
  refine a_l0 rfl rfl rfl ?_
  refine a_l1 rfl rfl rfl ?_
  refine a_l2 rfl rfl rfl ?_
  refine a_l3 rfl rfl rfl ?_
  refine a_callVc rfl lL_99 mo_X11_rests (q_X11_rests_200) rfl rfl rfl ⟨11, _, rfl, rfl, rfl⟩ (fun v' h' hv => ?_) (fun E h' hx => ?_)
  · obtain ⟨⟨v, rfl⟩, I1, rfl, f⟩ := hv
    refine a_s rfl rfl ?_
    refine a_last rfl (n := 1) rfl ⟨by decide, by decide⟩ ?_
    refine a_goto rfl ?_
    refine a_s rfl rfl ?_
    exact a_iret rfl rfl ⟨⟨_, rfl⟩, _, _, _, _, _, rfl, f, hk1, hk2⟩
  · obtain ⟨⟨k, hk, rfl⟩, I1, rfl, f⟩ := hx
    simp only [List.mem_cons, List.not_mem_nil, or_false] at hk
    rcases hk with rfl | rfl
    · refine ⟨15, _, _, _, _, 5, tk_24 rfl (by decide) (by decide), rfl, rfl, by decide, ?_⟩
      refine a_s rfl rfl ?_
      exact a_iret rfl rfl ⟨⟨_, rfl⟩, _, _, _, _, _, rfl, f, hk1, hk2⟩
    · refine ⟨19, _, _, _, _, 5, tn_24 rfl (by decide) (by decide) (hS.2 ("java/lang/IllegalArgumentException", "java/lang/IndexOutOfBoundsException") (by decide +kernel)) (tk_13 rfl (by decide) (by decide)), rfl, rfl, by decide, ?_⟩
      refine a_s rfl rfl ?_
      exact a_iret rfl rfl ⟨⟨_, rfl⟩, _, _, _, _, _, rfl, f, hk1, hk2⟩
theorem L_odds (hS : HdS S) (hci : CI I) (hk1 : WK w1) (hk2 : WK w2) {x1 : Int32} {x2 : Int32} : Sp S m_L_odds 15 2 12 [.ref 200, .int x1, .int x2, .ref 431] (hp I L w1 w2 t) (HdP (Fm sQ I)) nX := by
  refine Sp_of ok_L_odds rfl rfl ?_
  show AW S m_L_odds 15 _ _ 2 12 0 [some (.ref 200), some (.int x1), some (.int x2), some (.ref 431), none] [] (hp I L w1 w2 t)
  refine a_l3 rfl rfl rfl ?_
  refine a_s rfl rfl ?_
  refine a_l0 rfl rfl rfl ?_
  refine a_l1 rfl rfl rfl ?_
  refine a_l2 rfl rfl rfl ?_
  refine a_callVc rfl lL_102 mo_X11_odds (q_X11_odds_200) rfl rfl rfl ⟨11, _, rfl, rfl, rfl⟩ (fun v' h' hv => ?_) (fun E h' hx => ?_)
  · obtain ⟨⟨v, rfl⟩, rfl⟩ := hv
    refine a_s rfl rfl ?_
    refine a_last rfl (n := 1) rfl ⟨by decide, by decide⟩ ?_
    refine a_goto rfl ?_
    refine a_s rfl rfl ?_
    exact a_iret rfl rfl ⟨⟨_, rfl⟩, _, _, _, _, _, rfl, Fm.rf, hk1, hk2⟩
  · obtain ⟨⟨k, hk, rfl⟩, I1, rfl, f⟩ := hx
    simp only [List.mem_cons, List.not_mem_nil, or_false] at hk
    rcases hk with rfl
    · refine ⟨13, _, _, _, _, 4, tk_13 rfl (by decide) (by decide), rfl, rfl, by decide, ?_⟩
      refine a_s rfl rfl ?_
      exact a_iret rfl rfl ⟨⟨_, rfl⟩, _, _, _, _, _, rfl, f, hk1, hk2⟩
theorem L_spare (hS : HdS S) (hci : CI I) (hk1 : WK w1) (hk2 : WK w2) {x1 : Int32} {x2 : Int32} : Sp S m_L_spare 16 2 12 [.ref 200, .int x1, .int x2, .ref 431] (hp I L w1 w2 t) (HdP (Fm sQ I)) nX := by
  refine Sp_of ok_L_spare rfl rfl ?_
  show AW S m_L_spare 16 _ _ 2 12 0 [some (.ref 200), some (.int x1), some (.int x2), some (.ref 431), none] [] (hp I L w1 w2 t)
  refine a_l3 rfl rfl rfl ?_
  refine a_s rfl rfl ?_
  refine a_l0 rfl rfl rfl ?_
  refine a_l1 rfl rfl rfl ?_
  refine a_l2 rfl rfl rfl ?_
  refine a_callVc rfl lL_105 mo_X11_spare (q_X11_spare_200) rfl rfl rfl ⟨11, _, rfl, rfl, rfl⟩ (fun v' h' hv => ?_) (fun E h' hx => ?_)
  · obtain ⟨⟨v, rfl⟩, rfl⟩ := hv
    refine a_s rfl rfl ?_
    refine a_last rfl (n := 1) rfl ⟨by decide, by decide⟩ ?_
    refine a_goto rfl ?_
    refine a_s rfl rfl ?_
    exact a_iret rfl rfl ⟨⟨_, rfl⟩, _, _, _, _, _, rfl, Fm.rf, hk1, hk2⟩
  · obtain ⟨⟨k, hk, rfl⟩, I1, rfl, f⟩ := hx
    simp only [List.mem_cons, List.not_mem_nil, or_false] at hk
    rcases hk with rfl | rfl
    · refine ⟨13, _, _, _, _, 4, tk_24 rfl (by decide) (by decide), rfl, rfl, by decide, ?_⟩
      refine a_s rfl rfl ?_
      exact a_iret rfl rfl ⟨⟨_, rfl⟩, _, _, _, _, _, rfl, f, hk1, hk2⟩
    · refine ⟨17, _, _, _, _, 4, tn_24 rfl (by decide) (by decide) (hS.2 ("java/lang/IllegalArgumentException", "java/lang/IndexOutOfBoundsException") (by decide +kernel)) (tk_13 rfl (by decide) (by decide)), rfl, rfl, by decide, ?_⟩
      refine a_s rfl rfl ?_
      exact a_iret rfl rfl ⟨⟨_, rfl⟩, _, _, _, _, _, rfl, f, hk1, hk2⟩
theorem L_done (hS : HdS S) (hci : CI I) (hk1 : WK w1) (hk2 : WK w2) {x1 : Int32} : Sp S m_L_done 20 1 6 [.ref 200, .int x1, .ref 431] (hp I L w1 w2 t) (HdP (Fm sQ I)) nX := by
  refine Sp_of ok_L_done rfl rfl ?_
  show AW S m_L_done 20 _ _ 1 6 0 [some (.ref 200), some (.int x1), some (.ref 431), none] [] (hp I L w1 w2 t)
  refine a_l2 rfl rfl rfl ?_
  refine a_s rfl rfl ?_
  refine a_l0 rfl rfl rfl ?_
  refine a_l1 rfl rfl rfl ?_
  refine a_callVc rfl lL_108 mo_X11_done (q_X11_done_200) rfl rfl rfl ⟨11, _, rfl, rfl, rfl⟩ (fun v' h' hv => ?_) (fun E h' hx => ?_)
  · obtain ⟨⟨v, rfl⟩, I1, rfl, f⟩ := hv
    refine a_s rfl rfl ?_
    refine a_last rfl (n := 1) rfl ⟨by decide, by decide⟩ ?_
    refine a_goto rfl ?_
    refine a_s rfl rfl ?_
    exact a_iret rfl rfl ⟨⟨_, rfl⟩, _, _, _, _, _, rfl, f, hk1, hk2⟩
  · obtain ⟨⟨k, hk, rfl⟩, I1, rfl, f⟩ := hx
    simp only [List.mem_cons, List.not_mem_nil, or_false] at hk
    rcases hk with rfl
    · refine ⟨12, _, _, _, _, 3, tk_24 rfl (by decide) (by decide), rfl, rfl, by decide, ?_⟩
      refine a_s rfl rfl ?_
      exact a_iret rfl rfl ⟨⟨_, rfl⟩, _, _, _, _, _, rfl, f, hk1, hk2⟩
theorem L_sick (hS : HdS S) (hci : CI I) (hk1 : WK w1) (hk2 : WK w2) {x1 : Int32} : Sp S m_L_sick 20 1 6 [.ref 200, .int x1, .ref 431] (hp I L w1 w2 t) (HdP (Fm sQ I)) nX := by
  refine Sp_of ok_L_sick rfl rfl ?_
  show AW S m_L_sick 20 _ _ 1 6 0 [some (.ref 200), some (.int x1), some (.ref 431), none] [] (hp I L w1 w2 t)
  refine a_l2 rfl rfl rfl ?_
  refine a_s rfl rfl ?_
  refine a_l0 rfl rfl rfl ?_
  refine a_l1 rfl rfl rfl ?_
  refine a_callVc rfl lL_111 mo_X11_sick (q_X11_sick_200) rfl rfl rfl ⟨11, _, rfl, rfl, rfl⟩ (fun v' h' hv => ?_) (fun E h' hx => ?_)
  · obtain ⟨⟨v, rfl⟩, I1, rfl, f⟩ := hv
    refine a_s rfl rfl ?_
    refine a_last rfl (n := 1) rfl ⟨by decide, by decide⟩ ?_
    refine a_goto rfl ?_
    refine a_s rfl rfl ?_
    exact a_iret rfl rfl ⟨⟨_, rfl⟩, _, _, _, _, _, rfl, f, hk1, hk2⟩
  · obtain ⟨⟨k, hk, rfl⟩, I1, rfl, f⟩ := hx
    simp only [List.mem_cons, List.not_mem_nil, or_false] at hk
    rcases hk with rfl
    · refine ⟨12, _, _, _, _, 3, tk_24 rfl (by decide) (by decide), rfl, rfl, by decide, ?_⟩
      refine a_s rfl rfl ?_
      exact a_iret rfl rfl ⟨⟨_, rfl⟩, _, _, _, _, _, rfl, f, hk1, hk2⟩
theorem L_ahead (hS : HdS S) (hci : CI I) (hk1 : WK w1) (hk2 : WK w2) {x1 : Int32} {x2 : Int32} {x3 : Int32} : Sp S m_L_ahead 19 3 18 [.ref 200, .int x1, .int x2, .int x3, .ref 431] (hp I L w1 w2 t) (HdP (Fm sQ I)) nX := by
  refine Sp_of ok_L_ahead rfl rfl ?_
  show AW S m_L_ahead 19 _ _ 3 18 0 [some (.ref 200), some (.int x1), some (.int x2), some (.int x3), some (.ref 431), none] [] (hp I L w1 w2 t)
  refine a_l4 rfl rfl rfl ?_
  refine a_s rfl rfl ?_
  refine a_l0 rfl rfl rfl ?_
  refine a_l1 rfl rfl rfl ?_
  refine a_l2 rfl rfl rfl ?_
  refine a_l3 rfl rfl rfl ?_
  refine a_callVc rfl lL_114 mo_X11_ahead (q_X11_ahead_200) rfl rfl rfl ⟨11, _, rfl, rfl, rfl⟩ (fun v' h' hv => ?_) (fun E h' hx => ?_)
  · obtain ⟨⟨v, rfl⟩, I1, rfl, f⟩ := hv
    refine a_s rfl rfl ?_
    refine a_last rfl (n := 1) rfl ⟨by decide, by decide⟩ ?_
    refine a_goto rfl ?_
    refine a_s rfl rfl ?_
    exact a_iret rfl rfl ⟨⟨_, rfl⟩, _, _, _, _, _, rfl, f, hk1, hk2⟩
  · obtain ⟨⟨k, hk, rfl⟩, I1, rfl, f⟩ := hx
    simp only [List.mem_cons, List.not_mem_nil, or_false] at hk
    rcases hk with rfl | rfl | rfl
    · refine ⟨15, _, _, _, _, 5, tk_24 rfl (by decide) (by decide), rfl, rfl, by decide, ?_⟩
      refine a_s rfl rfl ?_
      exact a_iret rfl rfl ⟨⟨_, rfl⟩, _, _, _, _, _, rfl, f, hk1, hk2⟩
    · refine ⟨19, _, _, _, _, 5, tn_24 rfl (by decide) (by decide) (hS.2 ("java/lang/IllegalArgumentException", "java/lang/IndexOutOfBoundsException") (by decide +kernel)) (tk_13 rfl (by decide) (by decide)), rfl, rfl, by decide, ?_⟩
      refine a_s rfl rfl ?_
      exact a_iret rfl rfl ⟨⟨_, rfl⟩, _, _, _, _, _, rfl, f, hk1, hk2⟩
    · refine ⟨23, _, _, _, _, 5, tn_24 rfl (by decide) (by decide) (hS.2 ("java/util/NoSuchElementException", "java/lang/IndexOutOfBoundsException") (by decide +kernel)) (tn_13 rfl (by decide) (by decide) (hS.2 ("java/util/NoSuchElementException", "java/lang/IllegalArgumentException") (by decide +kernel)) (tk_26 rfl (by decide) (by decide))), rfl, rfl, by decide, ?_⟩
      refine a_s rfl rfl ?_
      exact a_iret rfl rfl ⟨⟨_, rfl⟩, _, _, _, _, _, rfl, f, hk1, hk2⟩
theorem L_trial (hS : HdS S) (hci : CI I) (hk1 : WK w1) (hk2 : WK w2) {x1 : Int32} {b2 : Bool} : Sp S m_L_trial 20 1 6 [.ref 200, .int x1, .int (bI b2), .ref 431] (hp I L w1 w2 t) (HdP (Fm sQ I)) nX := by
  refine Sp_of ok_L_trial rfl rfl ?_
  show AW S m_L_trial 20 _ _ 1 6 0 [some (.ref 200), some (.int x1), some (.int (bI b2)), some (.ref 431), none] [] (hp I L w1 w2 t)
  refine a_l3 rfl rfl rfl ?_
  refine a_s rfl rfl ?_
  refine a_l0 rfl rfl rfl ?_
  refine a_l1 rfl rfl rfl ?_
  refine a_l2 rfl rfl rfl ?_
  refine a_callVc rfl lL_117 mo_X11_trial (q_X11_trial_200) rfl rfl rfl ⟨11, _, rfl, rfl, rfl⟩ (fun v' h' hv => ?_) (fun E h' hx => ?_)
  · obtain ⟨⟨v, rfl⟩, I1, rfl, f⟩ := hv
    refine a_s rfl rfl ?_
    refine a_last rfl (n := 1) rfl ⟨by decide, by decide⟩ ?_
    refine a_goto rfl ?_
    refine a_s rfl rfl ?_
    exact a_iret rfl rfl ⟨⟨_, rfl⟩, _, _, _, _, _, rfl, f, hk1, hk2⟩
  · obtain ⟨⟨k, hk, rfl⟩, I1, rfl, f⟩ := hx
    simp only [List.mem_cons, List.not_mem_nil, or_false] at hk
    rcases hk with rfl
    · refine ⟨13, _, _, _, _, 4, tk_13 rfl (by decide) (by decide), rfl, rfl, by decide, ?_⟩
      refine a_s rfl rfl ?_
      exact a_iret rfl rfl ⟨⟨_, rfl⟩, _, _, _, _, _, rfl, f, hk1, hk2⟩
theorem L_span (hS : HdS S) (hci : CI I) (hk1 : WK w1) (hk2 : WK w2) {x1 : Int32} {b2 : Bool} : Sp S m_L_span 20 1 6 [.ref 200, .int x1, .int (bI b2), .ref 431] (hp I L w1 w2 t) (HdP (Fm sQ I)) nX := by
  refine Sp_of ok_L_span rfl rfl ?_
  show AW S m_L_span 20 _ _ 1 6 0 [some (.ref 200), some (.int x1), some (.int (bI b2)), some (.ref 431), none] [] (hp I L w1 w2 t)
  refine a_l3 rfl rfl rfl ?_
  refine a_s rfl rfl ?_
  refine a_l0 rfl rfl rfl ?_
  refine a_l1 rfl rfl rfl ?_
  refine a_l2 rfl rfl rfl ?_
  refine a_callVc rfl lL_120 mo_X11_span (q_X11_span_200) rfl rfl rfl ⟨11, _, rfl, rfl, rfl⟩ (fun v' h' hv => ?_) (fun E h' hx => ?_)
  · obtain ⟨⟨v, rfl⟩, I1, rfl, f⟩ := hv
    refine a_s rfl rfl ?_
    refine a_last rfl (n := 1) rfl ⟨by decide, by decide⟩ ?_
    refine a_goto rfl ?_
    refine a_s rfl rfl ?_
    exact a_iret rfl rfl ⟨⟨_, rfl⟩, _, _, _, _, _, rfl, f, hk1, hk2⟩
  · obtain ⟨⟨k, hk, rfl⟩, I1, rfl, f⟩ := hx
    simp only [List.mem_cons, List.not_mem_nil, or_false] at hk
    rcases hk with rfl
    · refine ⟨13, _, _, _, _, 4, tk_13 rfl (by decide) (by decide), rfl, rfl, by decide, ?_⟩
      refine a_s rfl rfl ?_
      exact a_iret rfl rfl ⟨⟨_, rfl⟩, _, _, _, _, _, rfl, f, hk1, hk2⟩
theorem L_led (hS : HdS S) (hci : CI I) (hk1 : WK w1) (hk2 : WK w2) {x1 : Int32} {b2 : Bool} : Sp S m_L_led 16 1 6 [.ref 200, .int x1, .int (bI b2), .ref 431] (hp I L w1 w2 t) (HdP (Fm sQ I)) nX := by
  refine Sp_of ok_L_led rfl rfl ?_
  show AW S m_L_led 16 _ _ 1 6 0 [some (.ref 200), some (.int x1), some (.int (bI b2)), some (.ref 431), none] [] (hp I L w1 w2 t)
  refine a_l3 rfl rfl rfl ?_
  refine a_s rfl rfl ?_
  refine a_l0 rfl rfl rfl ?_
  refine a_l1 rfl rfl rfl ?_
  refine a_l2 rfl rfl rfl ?_
  refine a_callVc rfl lL_123 mo_X11_led (q_X11_led_200) rfl rfl rfl ⟨11, _, rfl, rfl, rfl⟩ (fun v' h' hv => ?_) (fun E h' hx => ?_)
  · obtain ⟨⟨v, rfl⟩, rfl⟩ := hv
    refine a_s rfl rfl ?_
    refine a_last rfl (n := 1) rfl ⟨by decide, by decide⟩ ?_
    refine a_goto rfl ?_
    refine a_s rfl rfl ?_
    exact a_iret rfl rfl ⟨⟨_, rfl⟩, _, _, _, _, _, rfl, Fm.rf, hk1, hk2⟩
  · obtain ⟨⟨k, hk, rfl⟩, I1, rfl, f⟩ := hx
    simp only [List.mem_cons, List.not_mem_nil, or_false] at hk
    rcases hk with rfl
    · refine ⟨13, _, _, _, _, 4, tk_24 rfl (by decide) (by decide), rfl, rfl, by decide, ?_⟩
      refine a_s rfl rfl ?_
      exact a_iret rfl rfl ⟨⟨_, rfl⟩, _, _, _, _, _, rfl, f, hk1, hk2⟩
theorem L_log (hS : HdS S) (hci : CI I) (hk1 : WK w1) (hk2 : WK w2) {x1 : Int32} {x2 : Int32} : Sp S m_L_log 15 1 6 [.ref 200, .int x1, .int x2, .ref 431] (hp I L w1 w2 t) (HdP (Fm sQ I)) nX := by
  refine Sp_of ok_L_log rfl rfl ?_
  show AW S m_L_log 15 _ _ 1 6 0 [some (.ref 200), some (.int x1), some (.int x2), some (.ref 431), none] [] (hp I L w1 w2 t)
  refine a_l3 rfl rfl rfl ?_
  refine a_s rfl rfl ?_
  refine a_l0 rfl rfl rfl ?_
  refine a_l1 rfl rfl rfl ?_
  refine a_l2 rfl rfl rfl ?_
  refine a_callVc rfl lL_126 mo_X11_log (q_X11_log_200) rfl rfl rfl ⟨11, _, rfl, rfl, rfl⟩ (fun v' h' hv => ?_) (fun E h' hx => ?_)
  · obtain ⟨⟨v, rfl⟩, rfl⟩ := hv
    refine a_s rfl rfl ?_
    refine a_last rfl (n := 1) rfl ⟨by decide, by decide⟩ ?_
    refine a_goto rfl ?_
    refine a_s rfl rfl ?_
    exact a_iret rfl rfl ⟨⟨_, rfl⟩, _, _, _, _, _, rfl, Fm.rf, hk1, hk2⟩
  · obtain ⟨⟨k, hk, rfl⟩, I1, rfl, f⟩ := hx
    simp only [List.mem_cons, List.not_mem_nil, or_false] at hk
    rcases hk with rfl
    · refine ⟨13, _, _, _, _, 4, tk_26 rfl (by decide) (by decide), rfl, rfl, by decide, ?_⟩
      refine a_s rfl rfl ?_
      exact a_iret rfl rfl ⟨⟨_, rfl⟩, _, _, _, _, _, rfl, f, hk1, hk2⟩
end W80
end
section
/-! ===== the law's wrappers of what changes both (printed by program) ===== -/
section T80b
variable {S : aS} {I : Nat → Nat → Int32} {L : Nat → Nat → Int64} {w1 w2 t n fa nl len e : Nat} {cd fc fn : Nat → Nat} {T : Nat → Int32}
set_option maxRecDepth 100000
theorem lcmp_self {x : Int64} : lg_cmp x x = 0 := by
  unfold lg_cmp
  simp
theorem fL_put (hS : HdS S) (h : Sy I) (ps : PsN I n fa) {x1 : Int32} : Sp S m_L_put 17 2 12 [.ref 200, .int x1, .ref 431] (hp I L w1 w2 t) (fun v h' => ∃ y J L' t', v = some (.int y) ∧ h' = hp J L' w1 w2 t' ∧ (∀ q, 420 ≤ q → J q = I q) ∧ AcJ (vS (dn (I 421)) (I 421) 0 x1) y (L' 431 0) (mn 99 (I 421 (23 + 6 * ixN x1 + 2) + 1)) J (up2 (reS I n fa) 240 (ixN x1) (mn 99 (I 421 (23 + 6 * ixN x1 + 2) + 1))) I) nX := by
  refine Sp_of ok_L_put rfl rfl ?_
  show AW S m_L_put 17 _ _ 2 12 0 [some (.ref 200), some (.int x1), some (.ref 431), none] [] (hp I L w1 w2 t)
  refine a_l2 rfl rfl rfl ?_
  refine a_s rfl rfl ?_
  refine a_l0 rfl rfl rfl ?_
  refine a_l1 rfl rfl rfl ?_
  refine a_callVc rfl lL_37 mo_X11_put (f_put h.nm.1 h.nm.2.2.1 ps.2.2.1 ps.1 ps.2.2.2.2.1 ps.2.1) rfl rfl rfl ⟨11, _, rfl, rfl, rfl⟩ (fun v' h' hv => ?_) (fun E h' hx => ?_)
  · obtain ⟨c0, rfl, rfl⟩ := hv
    refine a_s rfl rfl ?_
    refine a_lastv (k := 0) rfl (n := 1) rfl ⟨by decide, by decide⟩ rfl ?_
    refine a_goto rfl ?_
    refine a_s rfl rfl ?_
    exact a_iret rfl rfl ⟨0, _, _, _, rfl, rfl, (fun q hq => by show up2 (reS I n fa) 240 (ixN x1) (mn 99 (I 421 (23 + 6 * ixN x1 + 2) + 1)) q = I q; rw [up2_row (by omega), reS_row (by omega) (by omega)]), Or.inl ⟨c0, rfl, up2_at, rfl⟩⟩
  · obtain ⟨⟨x, hx, hc, rfl⟩, rfl⟩ := hx
    simp only [List.mem_cons, List.not_mem_nil, or_false] at hx
    rcases hx with rfl | rfl
    · have hc : vS (dn (I 421)) (I 421) 0 x1 = 1 := hc
      refine ⟨12, _, _, _, _, 3, tk_24 rfl (by decide) (by decide), rfl, rfl, by decide, ?_⟩
      refine a_s rfl rfl ?_
      exact a_iret rfl rfl ⟨1, _, _, _, rfl, rfl, fun _ _ => rfl, Or.inr ⟨(fun z => absurd (hc.symm.trans z) (by decide)), hc.symm, rfl⟩⟩
    · have hc : vS (dn (I 421)) (I 421) 0 x1 = 2 := hc
      refine ⟨15, _, _, _, _, 3, tn_24 rfl (by decide) (by decide) (hS.2 ("java/lang/IllegalStateException", "java/lang/IndexOutOfBoundsException") (by decide +kernel)) (tk_35 rfl (by decide) (by decide)), rfl, rfl, by decide, ?_⟩
      refine a_s rfl rfl ?_
      exact a_iret rfl rfl ⟨2, _, _, _, rfl, rfl, fun _ _ => rfl, Or.inr ⟨(fun z => absurd (hc.symm.trans z) (by decide)), hc.symm, rfl⟩⟩
theorem fL_forget (hS : HdS S) (h : Sy I) (ps : PsN I n fa) {x1 : Int32} : Sp S m_L_forget 17 2 12 [.ref 200, .int x1, .ref 431] (hp I L w1 w2 t) (fun v h' => ∃ y J L' t', v = some (.int y) ∧ h' = hp J L' w1 w2 t' ∧ (∀ q, 420 ≤ q → J q = I q) ∧ AcJ (vS (dn (I 421)) (I 421) 0 x1) y (L' 431 0) (I 421 (23 + 6 * ixN x1 + 1)) J (up2 (reS I n fa) 243 (ixN x1) 2) I) nX := by
  refine Sp_of ok_L_forget rfl rfl ?_
  show AW S m_L_forget 17 _ _ 2 12 0 [some (.ref 200), some (.int x1), some (.ref 431), none] [] (hp I L w1 w2 t)
  refine a_l2 rfl rfl rfl ?_
  refine a_s rfl rfl ?_
  refine a_l0 rfl rfl rfl ?_
  refine a_l1 rfl rfl rfl ?_
  refine a_callVc rfl lL_40 mo_X11_forget (f_forget h.nm.1 h.nm.2.2.1 ps.2.2.1 ps.1 ps.2.2.2.2.1 ps.2.1) rfl rfl rfl ⟨11, _, rfl, rfl, rfl⟩ (fun v' h' hv => ?_) (fun E h' hx => ?_)
  · obtain ⟨c0, rfl, rfl⟩ := hv
    refine a_s rfl rfl ?_
    refine a_lastv (k := 0) rfl (n := 1) rfl ⟨by decide, by decide⟩ rfl ?_
    refine a_goto rfl ?_
    refine a_s rfl rfl ?_
    exact a_iret rfl rfl ⟨0, _, _, _, rfl, rfl, (fun q hq => by show up2 (reS I n fa) 243 (ixN x1) 2 q = I q; rw [up2_row (by omega), reS_row (by omega) (by omega)]), Or.inl ⟨c0, rfl, up2_at, rfl⟩⟩
  · obtain ⟨⟨x, hx, hc, rfl⟩, rfl⟩ := hx
    simp only [List.mem_cons, List.not_mem_nil, or_false] at hx
    rcases hx with rfl | rfl
    · have hc : vS (dn (I 421)) (I 421) 0 x1 = 1 := hc
      refine ⟨12, _, _, _, _, 3, tk_24 rfl (by decide) (by decide), rfl, rfl, by decide, ?_⟩
      refine a_s rfl rfl ?_
      exact a_iret rfl rfl ⟨1, _, _, _, rfl, rfl, fun _ _ => rfl, Or.inr ⟨(fun z => absurd (hc.symm.trans z) (by decide)), hc.symm, rfl⟩⟩
    · have hc : vS (dn (I 421)) (I 421) 0 x1 = 2 := hc
      refine ⟨15, _, _, _, _, 3, tn_24 rfl (by decide) (by decide) (hS.2 ("java/lang/IllegalStateException", "java/lang/IndexOutOfBoundsException") (by decide +kernel)) (tk_35 rfl (by decide) (by decide)), rfl, rfl, by decide, ?_⟩
      refine a_s rfl rfl ?_
      exact a_iret rfl rfl ⟨2, _, _, _, rfl, rfl, fun _ _ => rfl, Or.inr ⟨(fun z => absurd (hc.symm.trans z) (by decide)), hc.symm, rfl⟩⟩
theorem fL_recall (hS : HdS S) (h : Sy I) (ps : PsN I n fa) {x1 : Int32} : Sp S m_L_recall 17 2 12 [.ref 200, .int x1, .ref 431] (hp I L w1 w2 t) (fun v h' => ∃ y J L' t', v = some (.int y) ∧ h' = hp J L' w1 w2 t' ∧ (∀ q, 420 ≤ q → J q = I q) ∧ AcJ (vS (dn (I 421)) (I 421) 2 x1) y (L' 431 0) (I 421 (23 + 6 * ixN x1 + 2)) J (up2 (reS I n fa) 243 (ixN x1) 0) I) nX := by
  refine Sp_of ok_L_recall rfl rfl ?_
  show AW S m_L_recall 17 _ _ 2 12 0 [some (.ref 200), some (.int x1), some (.ref 431), none] [] (hp I L w1 w2 t)
  refine a_l2 rfl rfl rfl ?_
  refine a_s rfl rfl ?_
  refine a_l0 rfl rfl rfl ?_
  refine a_l1 rfl rfl rfl ?_
  refine a_callVc rfl lL_43 mo_X11_recall (f_recall h.nm.1 h.nm.2.2.1 ps.2.2.1 ps.1 ps.2.2.2.2.1 ps.2.1) rfl rfl rfl ⟨11, _, rfl, rfl, rfl⟩ (fun v' h' hv => ?_) (fun E h' hx => ?_)
  · obtain ⟨c0, rfl, rfl⟩ := hv
    refine a_s rfl rfl ?_
    refine a_lastv (k := 0) rfl (n := 1) rfl ⟨by decide, by decide⟩ rfl ?_
    refine a_goto rfl ?_
    refine a_s rfl rfl ?_
    exact a_iret rfl rfl ⟨0, _, _, _, rfl, rfl, (fun q hq => by show up2 (reS I n fa) 243 (ixN x1) 0 q = I q; rw [up2_row (by omega), reS_row (by omega) (by omega)]), Or.inl ⟨c0, rfl, up2_at, rfl⟩⟩
  · obtain ⟨⟨x, hx, hc, rfl⟩, rfl⟩ := hx
    simp only [List.mem_cons, List.not_mem_nil, or_false] at hx
    rcases hx with rfl | rfl
    · have hc : vS (dn (I 421)) (I 421) 2 x1 = 1 := hc
      refine ⟨12, _, _, _, _, 3, tk_24 rfl (by decide) (by decide), rfl, rfl, by decide, ?_⟩
      refine a_s rfl rfl ?_
      exact a_iret rfl rfl ⟨1, _, _, _, rfl, rfl, fun _ _ => rfl, Or.inr ⟨(fun z => absurd (hc.symm.trans z) (by decide)), hc.symm, rfl⟩⟩
    · have hc : vS (dn (I 421)) (I 421) 2 x1 = 2 := hc
      refine ⟨15, _, _, _, _, 3, tn_24 rfl (by decide) (by decide) (hS.2 ("java/lang/IllegalStateException", "java/lang/IndexOutOfBoundsException") (by decide +kernel)) (tk_35 rfl (by decide) (by decide)), rfl, rfl, by decide, ?_⟩
      refine a_s rfl rfl ?_
      exact a_iret rfl rfl ⟨2, _, _, _, rfl, rfl, fun _ _ => rfl, Or.inr ⟨(fun z => absurd (hc.symm.trans z) (by decide)), hc.symm, rfl⟩⟩
theorem fL_call (hS : HdS S) (h : Sy I) (ps : PsN I n fa) {x1 : Int32} : Sp S m_L_call 20 2 12 [.ref 200, .int x1, .ref 431] (hp I L w1 w2 t) (fun v h' => ∃ y J L' t', v = some (.int y) ∧ h' = hp J L' w1 w2 t' ∧ (∀ q, 420 ≤ q → J q = I q) ∧ AcJ (vC (dn (I 421)) (I 421) x1) y (L' 431 0) (passR (dn (I 421)) (I 421) (ixN x1)) J (up2 (up2 (reS I n fa) 239 (ixN x1) 0) 243 (ixN x1) 1) I) nX := by
  refine Sp_of ok_L_call rfl rfl ?_
  show AW S m_L_call 20 _ _ 2 12 0 [some (.ref 200), some (.int x1), some (.ref 431), none] [] (hp I L w1 w2 t)
  refine a_l2 rfl rfl rfl ?_
  refine a_s rfl rfl ?_
  refine a_l0 rfl rfl rfl ?_
  refine a_l1 rfl rfl rfl ?_
  refine a_callVc rfl lL_31 mo_X11_call (f_call h.nm.1 h.nm.2.2 ps.2.2.1 ps.1 ps.2.2.2.2.1 ps.2.1) rfl rfl rfl ⟨11, _, rfl, rfl, rfl⟩ (fun v' h' hv => ?_) (fun E h' hx => ?_)
  · obtain ⟨c0, rfl, rfl⟩ := hv
    refine a_s rfl rfl ?_
    refine a_lastv (k := 0) rfl (n := 1) rfl ⟨by decide, by decide⟩ rfl ?_
    refine a_goto rfl ?_
    refine a_s rfl rfl ?_
    exact a_iret rfl rfl ⟨0, _, _, _, rfl, rfl, (fun q hq => by show up2 (up2 (reS I n fa) 239 (ixN x1) 0) 243 (ixN x1) 1 q = I q; rw [up2_row (by omega), up2_row (by omega), reS_row (by omega) (by omega)]), Or.inl ⟨c0, rfl, up2_at, rfl⟩⟩
  · obtain ⟨⟨x, hx, hc, rfl⟩, rfl⟩ := hx
    simp only [List.mem_cons, List.not_mem_nil, or_false] at hx
    rcases hx with rfl | rfl
    · have hc : vC (dn (I 421)) (I 421) x1 = 1 := hc
      refine ⟨12, _, _, _, _, 3, tk_24 rfl (by decide) (by decide), rfl, rfl, by decide, ?_⟩
      refine a_s rfl rfl ?_
      exact a_iret rfl rfl ⟨1, _, _, _, rfl, rfl, fun _ _ => rfl, Or.inr ⟨(fun z => absurd (hc.symm.trans z) (by decide)), hc.symm, rfl⟩⟩
    · have hc : vC (dn (I 421)) (I 421) x1 = 2 := hc
      refine ⟨15, _, _, _, _, 3, tn_24 rfl (by decide) (by decide) (hS.2 ("java/lang/IllegalStateException", "java/lang/IndexOutOfBoundsException") (by decide +kernel)) (tk_35 rfl (by decide) (by decide)), rfl, rfl, by decide, ?_⟩
      refine a_s rfl rfl ?_
      exact a_iret rfl rfl ⟨2, _, _, _, rfl, rfl, fun _ _ => rfl, Or.inr ⟨(fun z => absurd (hc.symm.trans z) (by decide)), hc.symm, rfl⟩⟩
theorem fL_hand (hS : HdS S) (h : Sy I) (ps : PsN I n fa) {x1 x2 : Int32} : Sp S m_L_hand 17 4 24 [.ref 200, .int x1, .int x2, .ref 431] (hp I L w1 w2 t) (fun v h' => ∃ y J L' t', v = some (.int y) ∧ h' = hp J L' w1 w2 t' ∧ (∀ q, 420 ≤ q → J q = I q) ∧ AcJ (vH (dn (I 421)) (pn (I 421)) (I 421) x1 x2) y (L' 431 0) (I 421 (23 + 6 * ixN x1 + 0)) J (up2 (reS I n fa) 238 (ixN x1) x2) I) nX := by
  refine Sp_of ok_L_hand rfl rfl ?_
  show AW S m_L_hand 17 _ _ 4 24 0 [some (.ref 200), some (.int x1), some (.int x2), some (.ref 431), none] [] (hp I L w1 w2 t)
  refine a_l3 rfl rfl rfl ?_
  refine a_s rfl rfl ?_
  refine a_l0 rfl rfl rfl ?_
  refine a_l1 rfl rfl rfl ?_
  refine a_l2 rfl rfl rfl ?_
  refine a_callVc rfl lL_46 mo_X11_hand (f_hand h.nm.1 h.nm.2.2.1 ps.2.2.1 ps.1 ps.2.2.2.2.1 ps.2.1) rfl rfl rfl ⟨11, _, rfl, rfl, rfl⟩ (fun v' h' hv => ?_) (fun E h' hx => ?_)
  · obtain ⟨c0, rfl, rfl⟩ := hv
    refine a_s rfl rfl ?_
    refine a_lastv (k := 0) rfl (n := 1) rfl ⟨by decide, by decide⟩ rfl ?_
    refine a_goto rfl ?_
    refine a_s rfl rfl ?_
    exact a_iret rfl rfl ⟨0, _, _, _, rfl, rfl, (fun q hq => by show up2 (reS I n fa) 238 (ixN x1) x2 q = I q; rw [up2_row (by omega), reS_row (by omega) (by omega)]), Or.inl ⟨c0, rfl, up2_at, rfl⟩⟩
  · obtain ⟨⟨x, hx, hc, rfl⟩, rfl⟩ := hx
    simp only [List.mem_cons, List.not_mem_nil, or_false] at hx
    rcases hx with rfl | rfl | rfl
    · have hc : vH (dn (I 421)) (pn (I 421)) (I 421) x1 x2 = 1 := hc
      refine ⟨13, _, _, _, _, 4, tk_24 rfl (by decide) (by decide), rfl, rfl, by decide, ?_⟩
      refine a_s rfl rfl ?_
      exact a_iret rfl rfl ⟨1, _, _, _, rfl, rfl, fun _ _ => rfl, Or.inr ⟨(fun z => absurd (hc.symm.trans z) (by decide)), hc.symm, rfl⟩⟩
    · have hc : vH (dn (I 421)) (pn (I 421)) (I 421) x1 x2 = 2 := hc
      refine ⟨17, _, _, _, _, 4, tn_24 rfl (by decide) (by decide) (hS.2 ("java/lang/IllegalArgumentException", "java/lang/IndexOutOfBoundsException") (by decide +kernel)) (tk_13 rfl (by decide) (by decide)), rfl, rfl, by decide, ?_⟩
      refine a_s rfl rfl ?_
      exact a_iret rfl rfl ⟨2, _, _, _, rfl, rfl, fun _ _ => rfl, Or.inr ⟨(fun z => absurd (hc.symm.trans z) (by decide)), hc.symm, rfl⟩⟩
    · have hc : vH (dn (I 421)) (pn (I 421)) (I 421) x1 x2 = 3 := hc
      refine ⟨21, _, _, _, _, 4, tn_24 rfl (by decide) (by decide) (hS.2 ("java/lang/IllegalStateException", "java/lang/IndexOutOfBoundsException") (by decide +kernel)) (tn_13 rfl (by decide) (by decide) (hS.2 ("java/lang/IllegalStateException", "java/lang/IllegalArgumentException") (by decide +kernel)) (tk_35 rfl (by decide) (by decide))), rfl, rfl, by decide, ?_⟩
      refine a_s rfl rfl ?_
      exact a_iret rfl rfl ⟨3, _, _, _, rfl, rfl, fun _ _ => rfl, Or.inr ⟨(fun z => absurd (hc.symm.trans z) (by decide)), hc.symm, rfl⟩⟩
theorem fL_lean (hS : HdS S) (h : Sy I) (ps : PsN I n fa) {x1 x2 : Int32} : Sp S m_L_lean 17 3 18 [.ref 200, .int x1, .int x2, .ref 431] (hp I L w1 w2 t) (fun v h' => ∃ y J L' t', v = some (.int y) ∧ h' = hp J L' w1 w2 t' ∧ (∀ q, 420 ≤ q → J q = I q) ∧ AcJ (vL (dn (I 421)) x1 x2) y (L' 431 0) (I 421 (23 + 6 * ixN x1 + 4)) J (up2 (reS I n fa) 242 (ixN x1) x2) I) nX := by
  refine Sp_of ok_L_lean rfl rfl ?_
  show AW S m_L_lean 17 _ _ 3 18 0 [some (.ref 200), some (.int x1), some (.int x2), some (.ref 431), none] [] (hp I L w1 w2 t)
  refine a_l3 rfl rfl rfl ?_
  refine a_s rfl rfl ?_
  refine a_l0 rfl rfl rfl ?_
  refine a_l1 rfl rfl rfl ?_
  refine a_l2 rfl rfl rfl ?_
  refine a_callVc rfl lL_49 mo_X11_lean (f_lean h.nm.1 h.nm.2.2.1 ps.2.2.1 ps.1 ps.2.2.2.2.1 ps.2.1) rfl rfl rfl ⟨11, _, rfl, rfl, rfl⟩ (fun v' h' hv => ?_) (fun E h' hx => ?_)
  · obtain ⟨c0, rfl, rfl⟩ := hv
    refine a_s rfl rfl ?_
    refine a_lastv (k := 0) rfl (n := 1) rfl ⟨by decide, by decide⟩ rfl ?_
    refine a_goto rfl ?_
    refine a_s rfl rfl ?_
    exact a_iret rfl rfl ⟨0, _, _, _, rfl, rfl, (fun q hq => by show up2 (reS I n fa) 242 (ixN x1) x2 q = I q; rw [up2_row (by omega), reS_row (by omega) (by omega)]), Or.inl ⟨c0, rfl, up2_at, rfl⟩⟩
  · obtain ⟨⟨x, hx, hc, rfl⟩, rfl⟩ := hx
    simp only [List.mem_cons, List.not_mem_nil, or_false] at hx
    rcases hx with rfl | rfl
    · have hc : vL (dn (I 421)) x1 x2 = 1 := hc
      refine ⟨13, _, _, _, _, 4, tk_24 rfl (by decide) (by decide), rfl, rfl, by decide, ?_⟩
      refine a_s rfl rfl ?_
      exact a_iret rfl rfl ⟨1, _, _, _, rfl, rfl, fun _ _ => rfl, Or.inr ⟨(fun z => absurd (hc.symm.trans z) (by decide)), hc.symm, rfl⟩⟩
    · have hc : vL (dn (I 421)) x1 x2 = 2 := hc
      refine ⟨17, _, _, _, _, 4, tn_24 rfl (by decide) (by decide) (hS.2 ("java/lang/IllegalArgumentException", "java/lang/IndexOutOfBoundsException") (by decide +kernel)) (tk_13 rfl (by decide) (by decide)), rfl, rfl, by decide, ?_⟩
      refine a_s rfl rfl ?_
      exact a_iret rfl rfl ⟨2, _, _, _, rfl, rfl, fun _ _ => rfl, Or.inr ⟨(fun z => absurd (hc.symm.trans z) (by decide)), hc.symm, rfl⟩⟩
theorem fL_free (hS : HdS S) (h : Sy I) (ps : PsN I n fa) {x1 x2 : Int32} : Sp S m_L_free 17 2 12 [.ref 200, .int x1, .int x2, .ref 431] (hp I L w1 w2 t) (fun v h' => ∃ y J L' t', v = some (.int y) ∧ h' = hp J L' w1 w2 t' ∧ (∀ q, 420 ≤ q → J q = I q) ∧ AcJ (vF (pn (I 421)) x1 x2) y (L' 431 0) (I 421 (11 + 2 * ixN x1 + 1)) J (up2 (reS I n fa) 237 (ixN x1) x2) I) nX := by
  refine Sp_of ok_L_free rfl rfl ?_
  show AW S m_L_free 17 _ _ 2 12 0 [some (.ref 200), some (.int x1), some (.int x2), some (.ref 431), none] [] (hp I L w1 w2 t)
  refine a_l3 rfl rfl rfl ?_
  refine a_s rfl rfl ?_
  refine a_l0 rfl rfl rfl ?_
  refine a_l1 rfl rfl rfl ?_
  refine a_l2 rfl rfl rfl ?_
  refine a_callVc rfl lL_52 mo_X11_free (f_free h.nm.1 h.nm.2.2.1 ps.2.2.1 ps.1 ps.2.2.2.2.1 ps.2.1) rfl rfl rfl ⟨11, _, rfl, rfl, rfl⟩ (fun v' h' hv => ?_) (fun E h' hx => ?_)
  · obtain ⟨c0, rfl, rfl⟩ := hv
    refine a_s rfl rfl ?_
    refine a_lastv (k := 0) rfl (n := 1) rfl ⟨by decide, by decide⟩ rfl ?_
    refine a_goto rfl ?_
    refine a_s rfl rfl ?_
    exact a_iret rfl rfl ⟨0, _, _, _, rfl, rfl, (fun q hq => by show up2 (reS I n fa) 237 (ixN x1) x2 q = I q; rw [up2_row (by omega), reS_row (by omega) (by omega)]), Or.inl ⟨c0, rfl, up2_at, rfl⟩⟩
  · obtain ⟨⟨x, hx, hc, rfl⟩, rfl⟩ := hx
    simp only [List.mem_cons, List.not_mem_nil, or_false] at hx
    rcases hx with rfl | rfl
    · have hc : vF (pn (I 421)) x1 x2 = 1 := hc
      refine ⟨13, _, _, _, _, 4, tk_24 rfl (by decide) (by decide), rfl, rfl, by decide, ?_⟩
      refine a_s rfl rfl ?_
      exact a_iret rfl rfl ⟨1, _, _, _, rfl, rfl, fun _ _ => rfl, Or.inr ⟨(fun z => absurd (hc.symm.trans z) (by decide)), hc.symm, rfl⟩⟩
    · have hc : vF (pn (I 421)) x1 x2 = 2 := hc
      refine ⟨17, _, _, _, _, 4, tn_24 rfl (by decide) (by decide) (hS.2 ("java/lang/IllegalArgumentException", "java/lang/IndexOutOfBoundsException") (by decide +kernel)) (tk_13 rfl (by decide) (by decide)), rfl, rfl, by decide, ?_⟩
      refine a_s rfl rfl ?_
      exact a_iret rfl rfl ⟨2, _, _, _, rfl, rfl, fun _ _ => rfl, Or.inr ⟨(fun z => absurd (hc.symm.trans z) (by decide)), hc.symm, rfl⟩⟩
theorem fL_days (hS : HdS S) (h : Sy I) (ps : PsN I n fa) (hL : LwS I 246 (I 421) nl len cd fc fn) (hN : LwN (I 421) nl) {x1 : Int32} : Sp S m_L_days 21 1 6 [.ref 200, .int x1, .ref 431] (hp I L w1 w2 t) (fun v h' => ∃ y J L' t', v = some (.int y) ∧ h' = hp J L' w1 w2 t' ∧ (∀ q, 420 ≤ q → J q = I q) ∧ ((∃ m, 1 ≤ m ∧ m ≤ 90 ∧ x1 = nI m ∧ y = 0 ∧ (∀ q, (q < 235 ∨ 245 < q) → q ≠ 252 → q ≠ 253 → J q = reS I n fa q) ∧ Sd J 235 (dsW false cd fc fn nl (I 421) m) ∧ Lg J 235 (dsW false cd fc fn nl (I 421) m)) ∨ (inB x1 1 90 = false ∧ y = 1 ∧ J = I))) nX := by
  refine Sp_of ok_L_days rfl rfl ?_
  show AW S m_L_days 21 _ _ 1 6 0 [some (.ref 200), some (.int x1), some (.ref 431), none] [] (hp I L w1 w2 t)
  refine a_l2 rfl rfl rfl ?_
  refine a_s rfl rfl ?_
  refine a_l0 rfl rfl rfl ?_
  refine a_l1 rfl rfl rfl ?_
  refine a_callVc rfl lL_55 mo_X11_days (f_days h.nm.1 h.nm.2.1 h.nm.2.2 hL hN ps.2.2.1 ps.1 ps.2.2.2.2.1 ps.2.1) rfl rfl rfl ⟨11, _, rfl, rfl, rfl⟩ (fun v' h' hv => ?_) (fun E h' hx => ?_)
  · obtain ⟨y, rfl, m, m1, m2, rfl, J, rfl, f, D, G⟩ := hv
    refine a_s rfl rfl ?_
    refine a_lastv (k := 0) rfl (n := 1) rfl ⟨by decide, by decide⟩ rfl ?_
    refine a_goto rfl ?_
    refine a_s rfl rfl ?_
    exact a_iret rfl rfl ⟨0, J, _, _, rfl, rfl, (fun q hq => by rw [f q (by omega) (by omega) (by omega), reS_row (by omega) (by omega)]), Or.inl ⟨m, m1, m2, rfl, rfl, f, D, G⟩⟩
  · obtain ⟨rfl, hc, rfl⟩ := hx
    refine ⟨12, _, _, _, _, 3, tk_13 rfl (by decide) (by decide), rfl, rfl, by decide, ?_⟩
    refine a_s rfl rfl ?_
    exact a_iret rfl rfl ⟨1, I, _, _, rfl, rfl, fun _ _ => rfl, Or.inr ⟨hc, rfl, rfl⟩⟩
theorem fL_street (hS : HdS S) (h : Sy I) (he : I 201 1 = nI e) (h4 : e ≤ 400) : Sp S m_L_street 22 1 6 [.ref 200, .ref 431] (hp I L w1 w2 t) (fun v h' => ∃ y J L' w t', v = some (.int y) ∧ h' = hp J L' w w2 t' ∧ WK w ∧ CI J ∧ Fm sJ I J ∧ J 201 1 = 0 ∧ StC (strP (I 202) e (I 421)) I J y (L' 431 0)) nX := by
  refine Sp_of ok_L_street rfl rfl ?_
  show AW S m_L_street 22 _ _ 1 6 0 [some (.ref 200), some (.ref 431), none] [] (hp I L w1 w2 t)
  refine a_l1 rfl rfl rfl ?_
  refine a_s rfl rfl ?_
  refine a_l0 rfl rfl rfl ?_
  refine a_callVc rfl lL_7 mo_X11_street (f_streetC hS.1 he h4 h.1.2.2.1 rfl h.1.2.2.2.1 h.1.1 h.nm.1 h.nm.2.2.1 h.nm.2.2.2.1.1) rfl rfl rfl ⟨11, _, rfl, rfl, rfl⟩ (fun v' h' hv => ?_) (fun E h' hx => ?_)
  · obtain ⟨rfl, hz, h2, J, w, rfl, hww, ci, f, c1, c3, c13, D⟩ := hv
    refine a_s rfl rfl ?_
    refine a_lastv (k := 0) rfl (n := 1) rfl ⟨by decide, by decide⟩ rfl ?_
    refine a_goto rfl ?_
    refine a_s rfl rfl ?_
    exact a_iret rfl rfl ⟨0, J, _, w, _, rfl, rfl, hww, ci, f, c1, Or.inl ⟨hz, h2, rfl, up2_at, c3, c13, D⟩⟩
  · obtain ⟨J, w, rfl, hww, ci, f, c1, c13, D, hc⟩ := hx
    rcases hc with ⟨rfl, hz, c3⟩ | ⟨rfl, hz, h2, c3⟩
    · refine ⟨11, _, _, _, _, 2, tk_13 rfl (by decide) (by decide), rfl, rfl, by decide, ?_⟩
      refine a_s rfl rfl ?_
      exact a_iret rfl rfl ⟨1, J, _, w, _, rfl, rfl, hww, ci, f, c1, Or.inr (Or.inl ⟨hz, rfl, c3, c13, D⟩)⟩
    · refine ⟨14, _, _, _, _, 2, tn_13 rfl (by decide) (by decide) (hS.2 ("java/lang/UnsupportedOperationException", "java/lang/IllegalArgumentException") (by decide +kernel)) (tk_15 rfl (by decide) (by decide)), rfl, rfl, by decide, ?_⟩
      refine a_s rfl rfl ?_
      exact a_iret rfl rfl ⟨2, J, _, w, _, rfl, rfl, hww, ci, f, c1, Or.inr (Or.inr ⟨hz, h2, rfl, c3, c13, D⟩)⟩
theorem fL_law (hS : HdS S) (h : Sy I) (he : I 201 1 = nI e) (h4 : e ≤ 400) : Sp S m_L_law 22 1 6 [.ref 200, .ref 431] (hp I L w1 w2 t) (fun v h' => ∃ y J L' w t', v = some (.int y) ∧ h' = hp J L' w1 w t' ∧ WK w ∧ Mt0 I J ∧ LaC (lawP (I 202) e) I J y (L' 431 0)) nX := by
  refine Sp_of ok_L_law rfl rfl ?_
  show AW S m_L_law 22 _ _ 1 6 0 [some (.ref 200), some (.ref 431), none] [] (hp I L w1 w2 t)
  refine a_l1 rfl rfl rfl ?_
  refine a_s rfl rfl ?_
  refine a_l0 rfl rfl rfl ?_
  refine a_callVc rfl lL_17 mo_X11_law (f_lawS hS.1 he h4 h.1.2.2.1 rfl h.1.2.2.2.2) rfl rfl rfl ⟨11, _, rfl, rfl, rfl⟩ (fun v' h' hv => ?_) (fun E h' hx => ?_)
  · obtain ⟨rfl, hz, J, w, rfl, hww, m, c, f, c12, c400⟩ := hv
    refine a_s rfl rfl ?_
    refine a_lastv (k := 0) rfl (n := 1) rfl ⟨by decide, by decide⟩ rfl ?_
    refine a_goto rfl ?_
    refine a_s rfl rfl ?_
    exact a_iret rfl rfl ⟨0, J, _, w, _, rfl, rfl, hww, m, Or.inl ⟨hz, rfl, up2_at, c, f, c12, c400⟩⟩
  · obtain ⟨rfl, hz, J, w, rfl, hww, m, c3, f⟩ := hx
    refine ⟨11, _, _, _, _, 2, tk_13 rfl (by decide) (by decide), rfl, rfl, by decide, ?_⟩
    refine a_s rfl rfl ?_
    exact a_iret rfl rfl ⟨1, J, _, w, _, rfl, rfl, hww, m, Or.inr ⟨hz, rfl, c3, f⟩⟩
theorem fL_span (hS : HdS S) (h : Sy I) (lw : LwS I 246 (I 421) nl len cd fc fn) (ln : LwN (I 421) nl) {x1 : Int32} {b2 : Bool} : Sp S m_L_span 22 1 6 [.ref 200, .int x1, .int (bI b2), .ref 431] (hp I L w1 w2 t) (fun v h' => ∃ y J L' t', v = some (.int y) ∧ h' = hp J L' w1 w2 t' ∧ Fm sQ I J ∧ AcQ (vTr x1) y (L' 431 0) (spnW cd fc fn nl (I 421) (ixN x1) b2)) nX := by
  refine Sp_of ok_L_span rfl rfl ?_
  show AW S m_L_span 22 _ _ 1 6 0 [some (.ref 200), some (.int x1), some (.int (bI b2)), some (.ref 431), none] [] (hp I L w1 w2 t)
  refine a_l3 rfl rfl rfl ?_
  refine a_s rfl rfl ?_
  refine a_l0 rfl rfl rfl ?_
  refine a_l1 rfl rfl rfl ?_
  refine a_l2 rfl rfl rfl ?_
  refine a_callVc rfl lL_120 mo_X11_span (fq_span h lw ln) rfl rfl rfl ⟨11, _, rfl, rfl, rfl⟩ (fun v' h' hv => ?_) (fun E h' hx => ?_)
  · obtain ⟨c0, rfl, J, rfl, f⟩ := hv
    refine a_s rfl rfl ?_
    refine a_lastv (k := 0) rfl (n := 1) rfl ⟨by decide, by decide⟩ rfl ?_
    refine a_goto rfl ?_
    refine a_s rfl rfl ?_
    exact a_iret rfl rfl ⟨0, J, _, _, rfl, rfl, f, Or.inl ⟨c0, rfl, up2_at⟩⟩
  · obtain ⟨⟨x, hx, hc, rfl⟩, J, rfl, f⟩ := hx
    simp only [List.mem_cons, List.not_mem_nil, or_false] at hx
    rcases hx with rfl
    · have hc : vTr x1 = 1 := hc
      refine ⟨13, _, _, _, _, 4, tk_13 rfl (by decide) (by decide), rfl, rfl, by decide, ?_⟩
      refine a_s rfl rfl ?_
      exact a_iret rfl rfl ⟨1, J, _, _, rfl, rfl, f, Or.inr ⟨(fun z => absurd (hc.symm.trans z) (by decide)), hc.symm⟩⟩
end T80b
end
section
/-! ===== every operation of the law's round (printed by program) ===== -/
set_option maxRecDepth 100000
abbrev QM : Option Value → aH → Prop := fun v _ => v = some (.int 1)
abbrev XM : String → aH → Prop := fun _ _ => False
section M81
variable {S : aS} {C C' : aM} {d d' : Nat} {Q Q' : Option Value → aH → Prop} {X X' : String → aH → Prop} {k1 k2 j1 j2 pc np tgt n : Nat} {w : Int32} {ls ls' : List (Option Value)} {st st' st0 : List Value} {h h' : aH} {ins : Instr} {As : List Value}
theorem a_ialdc {q N : Nat} {f : Nat → Int32} {i : Int32} (hC : look C pc = some (.iaload, np, tgt, w)) (hs : (q, .int, N, fun j => Value.int (f j)) ∈ S.2.2.2.1) (hi : inI i N) (kk : AW S C d Q X k1 k2 np ls (.int (f i.toNatClampNeg) :: st) h) : AW S C d Q X k1 k2 pc ls (.int i :: .ref q :: st) h := by
  intro p l e s m args below meth c H la locs cells slots mc ms G CC hS hL hR hF g1 g2
  obtain ⟨hd, rfl, -⟩ := okd CC.2.2.2.2.2.2.2.2.2 hC rfl
  obtain ⟨cell, r1, r2, r3, r4, r5, r6, r7⟩ := hS.2.2.2.1.2.2.2.2 _ hs
  have hq : H[ad G q]? = some cell := by
    rw [hF.2.1 _ (Array.getElem?_eq_some_iff.mp r1).1 r7]
    exact r1
  exact W.iald CC.1 CC.2.1 hq r2 r3 (inI_not ⟨hi.1, Nat.lt_of_lt_of_le hi.2 r4⟩) (r6 _ hi.2) rfl rfl hd (kk p l e s m args below meth c H la locs cells slots mc ms G CC hS hL hR hF g1 g2)
/-- more room is as good -/
theorem a_rm {k1' k2' : Nat} (h1 : k1 ≤ k1') (h2 : k2 ≤ k2') (k : AW S C d Q X k1 k2 pc ls st h) : AW S C d Q X k1' k2' pc ls st h := by
  intro p l e s m args below meth c H la locs cells slots mc ms G CC hS hL hR hF g1 g2
  exact k p l e s m args below meth c H la locs cells slots mc ms G CC hS hL hR hF (by omega) (by omega)
theorem a_topB {b b' : Bool} (e : b = b') (kk : AW S C d Q X k1 k2 pc ls (.int (bI b') :: st) h) : AW S C d Q X k1 k2 pc ls (.int (bI b) :: st) h := by
  subst e
  exact kk
theorem ck4 (h1 : Nat.ble (d' + 1) d = true) (h2 : Nat.ble j1 4 = true) (h3 : Nat.ble j2 24 = true) (h4 : Nat.ble (st.map fun v => v.category).sum 8 = true) : cOk d d' j1 j2 (k1 + 4) (k2 + 24) st = true := by
  unfold cOk
  rw [h1, h4, Nat.ble_eq_true_of_le (show j1 ≤ k1 + 4 by have := Nat.le_of_ble_eq_true h2; omega), Nat.ble_eq_true_of_le (show j2 ≤ k2 + 24 by have := Nat.le_of_ble_eq_true h3; omega)]
  rfl
end M81
section O81
variable {S : aS} {LL i : Nat} {xs : Nat → Int32}
/-- behind an operation -/
def KM (S : aS) (i k1 k2 : Nat) : Prop := ∀ (u5 u6 : Option Value) (I : Nat → Nat → Int32) (L : Nat → Nat → Int64) (w1 w2 t : Nat), Sy I → WK w1 → WK w2 → AW S m_L_main 1050 QM XM k1 k2 1969 [some (.ref 199), some (.ref 200), some (.ref 420), some (.ref 431), some (.int (nI i)), u5, u6] [] (hp I L w1 w2 t)
def OpOk (S : aS) (i pc : Nat) : Prop := ∀ (k1 k2 : Nat) (u5 u6 : Option Value) (I : Nat → Nat → Int32) (L : Nat → Nat → Int64) (w1 w2 t : Nat), Sy I → WK w1 → WK w2 → KM S i k1 k2 → AW S m_L_main 1050 QM XM (k1 + 4) (k2 + 24) pc [some (.ref 199), some (.ref 200), some (.ref 420), some (.ref 431), some (.int (nI i)), u5, u6] [] (hp I L w1 w2 t)
def ScM (S : aS) (LL : Nat) (xs : Nat → Int32) : Prop := (199, FieldType.int, LL, fun j => Value.int (xs j)) ∈ S.2.2.2.1
theorem op_0 (hS : HdS S) (hx : ScM S LL xs) (h3 : LL ≤ 3072) (hi : i + 6 ≤ LL) : OpOk S i 288 := by
  intro k1 k2 u5 u6 I L w1 w2 t hs hk1 hk2 hK
  refine a_l1 rfl rfl rfl ?_
  refine a_l0 rfl rfl rfl ?_
  refine a_l4 rfl rfl rfl ?_
  refine a_s rfl rfl ?_
  refine a_s rfl rfl ?_
  refine a_top (y := nI (i + 1)) (nI_addl i 1) ?_
  refine a_ialdc rfl hx (inI_nI (by omega) (by omega)) ?_
  refine a_l0 rfl rfl rfl ?_
  refine a_l4 rfl rfl rfl ?_
  refine a_s rfl rfl ?_
  refine a_s rfl rfl ?_
  refine a_top (y := nI (i + 2)) (nI_addl i 2) ?_
  refine a_ialdc rfl hx (inI_nI (by omega) (by omega)) ?_
  refine a_l0 rfl rfl rfl ?_
  refine a_l4 rfl rfl rfl ?_
  refine a_s rfl rfl ?_
  refine a_s rfl rfl ?_
  refine a_top (y := nI (i + 3)) (nI_addl i 3) ?_
  refine a_ialdc rfl hx (inI_nI (by omega) (by omega)) ?_
  refine a_l0 rfl rfl rfl ?_
  refine a_l4 rfl rfl rfl ?_
  refine a_s rfl rfl ?_
  refine a_s rfl rfl ?_
  refine a_top (y := nI (i + 4)) (nI_addl i 4) ?_
  refine a_ialdc rfl hx (inI_nI (by omega) (by omega)) ?_
  refine a_l0 rfl rfl rfl ?_
  refine a_l4 rfl rfl rfl ?_
  refine a_s rfl rfl ?_
  refine a_s rfl rfl ?_
  refine a_top (y := nI (i + 5)) (nI_addl i 5) ?_
  refine a_ialdc rfl hx (inI_nI (by omega) (by omega)) ?_
  obtain ⟨l, hl4, e1, e2⟩ := hs.2.2
  refine a_eV1 rfl lL_133 mo_X11_feed (q_X11_feed e1 hl4) rfl rfl rfl ⟨11, _, rfl, rfl, rfl⟩ rfl ?_
  refine a_ren (P := Sf l _ _ _ _ _) (Sf.mk hs hl4 e1 e2) (fun I8 s8 => ?_)
  refine a_s rfl rfl ?_
  refine a_l2 rfl rfl rfl ?_
  refine a_l0 rfl rfl rfl ?_
  refine a_l4 rfl rfl rfl ?_
  refine a_s rfl rfl ?_
  refine a_s rfl rfl ?_
  refine a_top (y := nI (i + 1)) (nI_addl i 1) ?_
  refine a_ialdc rfl hx (inI_nI (by omega) (by omega)) ?_
  refine a_l0 rfl rfl rfl ?_
  refine a_l4 rfl rfl rfl ?_
  refine a_s rfl rfl ?_
  refine a_s rfl rfl ?_
  refine a_top (y := nI (i + 2)) (nI_addl i 2) ?_
  refine a_ialdc rfl hx (inI_nI (by omega) (by omega)) ?_
  refine a_l0 rfl rfl rfl ?_
  refine a_l4 rfl rfl rfl ?_
  refine a_s rfl rfl ?_
  refine a_s rfl rfl ?_
  refine a_top (y := nI (i + 3)) (nI_addl i 3) ?_
  refine a_ialdc rfl hx (inI_nI (by omega) (by omega)) ?_
  refine a_l0 rfl rfl rfl ?_
  refine a_l4 rfl rfl rfl ?_
  refine a_s rfl rfl ?_
  refine a_s rfl rfl ?_
  refine a_top (y := nI (i + 4)) (nI_addl i 4) ?_
  refine a_ialdc rfl hx (inI_nI (by omega) (by omega)) ?_
  refine a_l0 rfl rfl rfl ?_
  refine a_l4 rfl rfl rfl ?_
  refine a_s rfl rfl ?_
  refine a_s rfl rfl ?_
  refine a_top (y := nI (i + 5)) (nI_addl i 5) ?_
  refine a_ialdc rfl hx (inI_nI (by omega) (by omega)) ?_
  refine a_gV rfl lL_137 mo_X12_feed (h_feed s8.2.2.2.2 hl4) rfl rfl rfl ⟨12, _, rfl, rfl, rfl⟩ rfl (fun v' h' hv => ?_)
  obtain ⟨rfl, g9, rfl⟩ := hv
  refine a_ren (P := Sy) (Sf.sy s8) (fun I10 s10 => ?_)
  refine a_s rfl rfl ?_
  refine a_goto rfl ?_
  exact a_rm (by omega) (by omega) (hK _ _ _ _ _ _ _ s10 hk1 hk2)
theorem op_1 (hS : HdS S) (hx : ScM S LL xs) (h3 : LL ≤ 3072) (hi : i + 6 ≤ LL) : OpOk S i 361 := by
  intro k1 k2 u5 u6 I L w1 w2 t hs hk1 hk2 hK
  refine a_l1 rfl rfl rfl ?_
  refine a_l0 rfl rfl rfl ?_
  refine a_l4 rfl rfl rfl ?_
  refine a_s rfl rfl ?_
  refine a_s rfl rfl ?_
  refine a_top (y := nI (i + 1)) (nI_addl i 1) ?_
  refine a_ialdc rfl hx (inI_nI (by omega) (by omega)) ?_
  obtain ⟨l, hl4, e1, e2⟩ := hs.2.2
  refine a_eV1 rfl lL_138 mo_X11_end q_X11_end rfl rfl rfl ⟨11, _, rfl, rfl, rfl⟩ rfl ?_
  refine a_topB (congrArg (endB _) e1) ?_
  refine a_ren (P := fun J => Se l _ (endB _ (nI l)) J) (Se.mk hs hl4 e1 e2) (fun I8 s8 => ?_)
  refine a_s rfl rfl ?_
  refine a_l2 rfl rfl rfl ?_
  refine a_l0 rfl rfl rfl ?_
  refine a_l4 rfl rfl rfl ?_
  refine a_s rfl rfl ?_
  refine a_s rfl rfl ?_
  refine a_top (y := nI (i + 1)) (nI_addl i 1) ?_
  refine a_ialdc rfl hx (inI_nI (by omega) (by omega)) ?_
  refine a_eV1 rfl lL_142 mo_X12_end r_X12_end rfl rfl rfl ⟨12, _, rfl, rfl, rfl⟩ rfl ?_
  refine a_topB (congrArg (endB _) s8.2.2.2.1) ?_
  refine a_ren (P := Sy) (Se.sy s8) (fun I10 s10 => ?_)
  refine a_s rfl rfl ?_
  refine a_goto rfl ?_
  exact a_rm (by omega) (by omega) (hK _ _ _ _ _ _ _ s10 hk1 hk2)
theorem op_2 (hS : HdS S) (hx : ScM S LL xs) (h3 : LL ≤ 3072) (hi : i + 6 ≤ LL) : OpOk S i 386 := by
  intro k1 k2 u5 u6 I L w1 w2 t hs hk1 hk2 hK
  refine a_l1 rfl rfl rfl ?_
  refine a_l3 rfl rfl rfl ?_
  obtain ⟨l1, hl1, ea1, eb1⟩ := hs.2.2
  refine a_callW rfl lL_143 mo_L_street (fL_street (S := S) hS hs ea1 hl1) rfl rfl (ck4 rfl rfl rfl rfl) rfl (fun v' h' hv => ?_) (fun _ _ z => False.elim z)
  obtain ⟨v1, I1, L1, w1a, t1, rfl, rfl, kb1, ci1, f1, ec1, J1⟩ := hv
  refine a_s5 rfl rfl rfl rfl rfl rfl ?_
  refine a_l2 rfl rfl rfl ?_
  have e212 : I1 421 = I 421 := funext fun k => f1 421 k (sJ_hi (by decide))
  have e262 : I1 426 = I 202 := (funext fun k => f1 426 k (sJ_hi (by decide))).trans hs.1.2.1
  have hr2 : RI (dn (I 421)) (pn (I 421)) I1 := hs.ri.rows fun q hq => funext fun k => f1 q k (sJ_hi (by omega))
  refine a_gV rfl lL_148 mo_X12_street (h_streetR hS.1 hr2 hs.1.2.2.1 e262 ((f1 420 9 (sJ_hi (by decide))).trans eb1) hl1 (by rw [e212]; exact hs.nm.2.2)) rfl rfl rfl ⟨12, _, rfl, rfl, rfl⟩ rfl (fun v' h' hv => ?_)
  obtain ⟨I2, nd2, np2, rfl, us2, g22, g52, st2⟩ := hv
  rw [e212] at st2
  obtain ⟨s2, v2, rfl, ez2, ev2⟩ := Sy.street hs ci1 f1 ec1 J1 us2 g22 g52 st2
  refine a_s6 rfl rfl rfl rfl rfl rfl ?_
  refine a_goto rfl ?_
  exact a_rm (by omega) (by omega) (hK _ _ _ _ _ _ _ s2 kb1 hk2)
theorem op_3 (hS : HdS S) (hx : ScM S LL xs) (h3 : LL ≤ 3072) (hi : i + 6 ≤ LL) : OpOk S i 402 := by
  intro k1 k2 u5 u6 I L w1 w2 t hs hk1 hk2 hK
  refine a_l1 rfl rfl rfl ?_
  refine a_l3 rfl rfl rfl ?_
  obtain ⟨l1, hl1, ea1, eb1⟩ := hs.2.2
  refine a_callW rfl lL_149 mo_L_law (fL_law (S := S) hS hs ea1 hl1) rfl rfl (ck4 rfl rfl rfl rfl) rfl (fun v' h' hv => ?_) (fun _ _ z => False.elim z)
  obtain ⟨v1, I1, L1, w1a, t1, rfl, rfl, kb1, m1, J1⟩ := hv
  refine a_s5 rfl rfl rfl rfl rfl rfl ?_
  refine a_l2 rfl rfl rfl ?_
  have mm2 := Mt0.all m1
  have e262 : I1 426 = I 202 := (mm2.1 426 (by decide)).trans hs.1.2.1
  have hr2 : RI (dn (I 421)) (pn (I 421)) I1 := hs.ri.rows fun q hq => mm2.1 q hq
  refine a_gV rfl lL_151 mo_X12_law (h_lawS hS.1 hr2 hs.1.2.2.1 e262 ((congrFun (mm2.1 420 (by decide)) 9).trans eb1) hl1) rfl rfl rfl ⟨12, _, rfl, rfl, rfl⟩ rfl (fun v' h' hv => ?_)
  obtain ⟨rfl, I2, rfl, us2, a2a, a2b, a2c, a2d, a2e, a2f⟩ := hv
  obtain ⟨s2, ez2⟩ := Sy.law hs m1 J1 us2 a2a a2b a2c a2d a2e a2f
  refine a_s6 rfl rfl rfl rfl rfl rfl ?_
  refine a_goto rfl ?_
  exact a_rm (by omega) (by omega) (hK _ _ _ _ _ _ _ s2 hk1 kb1)
theorem op_4 (hS : HdS S) (hx : ScM S LL xs) (h3 : LL ≤ 3072) (hi : i + 6 ≤ LL) : OpOk S i 418 := by
  intro k1 k2 u5 u6 I L w1 w2 t hs hk1 hk2 hK
  refine a_l1 rfl rfl rfl ?_
  refine a_gV rfl lL_152 mo_X11_fault (q_X11_fault_200) rfl rfl rfl ⟨11, _, rfl, rfl, rfl⟩ rfl (fun v' h' hv => ?_)
  obtain ⟨⟨v1, rfl⟩, rfl⟩ := hv
  refine a_s rfl rfl ?_
  refine a_l2 rfl rfl rfl ?_
  have hr2 := hs.ri
  refine a_gV rfl lL_155 mo_X12_fault (r_X12_fault hr2.so hr2.lw hr2.lg) rfl rfl rfl ⟨12, _, rfl, rfl, rfl⟩ rfl (fun v' h' hv => ?_)
  obtain ⟨⟨v2, rfl⟩, I2, rfl, f2⟩ := hv
  have s2 := Sy.u hs f2
  clear f2
  refine a_s rfl rfl ?_
  refine a_goto rfl ?_
  exact a_rm (by omega) (by omega) (hK _ _ _ _ _ _ _ s2 hk1 hk2)
theorem op_5 (hS : HdS S) (hx : ScM S LL xs) (h3 : LL ≤ 3072) (hi : i + 6 ≤ LL) : OpOk S i 431 := by
  intro k1 k2 u5 u6 I L w1 w2 t hs hk1 hk2 hK
  refine a_l1 rfl rfl rfl ?_
  refine a_l0 rfl rfl rfl ?_
  refine a_l4 rfl rfl rfl ?_
  refine a_s rfl rfl ?_
  refine a_s rfl rfl ?_
  refine a_top (y := nI (i + 1)) (nI_addl i 1) ?_
  refine a_ialdc rfl hx (inI_nI (by omega) (by omega)) ?_
  refine a_l0 rfl rfl rfl ?_
  refine a_l4 rfl rfl rfl ?_
  refine a_s rfl rfl ?_
  refine a_s rfl rfl ?_
  refine a_top (y := nI (i + 2)) (nI_addl i 2) ?_
  refine a_ialdc rfl hx (inI_nI (by omega) (by omega)) ?_
  refine a_l3 rfl rfl rfl ?_
  refine a_callW rfl lL_156 mo_L_person (L_person (S := S) hS hs.1.1 hk1 hk2) rfl rfl (ck4 rfl rfl rfl rfl) rfl (fun v' h' hv => ?_) (fun _ _ z => False.elim z)
  obtain ⟨⟨v1, rfl⟩, I1, L1, a1, b1, t1, rfl, f1, ka1, kb1⟩ := hv
  have s1 := Sy.q hs f1
  clear f1
  refine a_s5 rfl rfl rfl rfl rfl rfl ?_
  refine a_l2 rfl rfl rfl ?_
  refine a_l0 rfl rfl rfl ?_
  refine a_l4 rfl rfl rfl ?_
  refine a_s rfl rfl ?_
  refine a_s rfl rfl ?_
  refine a_top (y := nI (i + 1)) (nI_addl i 1) ?_
  refine a_ialdc rfl hx (inI_nI (by omega) (by omega)) ?_
  refine a_l0 rfl rfl rfl ?_
  refine a_l4 rfl rfl rfl ?_
  refine a_s rfl rfl ?_
  refine a_s rfl rfl ?_
  refine a_top (y := nI (i + 2)) (nI_addl i 2) ?_
  refine a_ialdc rfl hx (inI_nI (by omega) (by omega)) ?_
  have hr2 := s1.ri
  refine a_gV rfl lL_159 mo_X12_person (r_X12_person hr2.so hr2.lw hr2.lg) rfl rfl rfl ⟨12, _, rfl, rfl, rfl⟩ rfl (fun v' h' hv => ?_)
  obtain ⟨⟨v2, rfl⟩, I2, rfl, f2⟩ := hv
  have s2 := Sy.u s1 f2
  clear f2
  refine a_s6 rfl rfl rfl rfl rfl rfl ?_
  refine a_goto rfl ?_
  exact a_rm (by omega) (by omega) (hK _ _ _ _ _ _ _ s2 ka1 kb1)
theorem op_6 (hS : HdS S) (hx : ScM S LL xs) (h3 : LL ≤ 3072) (hi : i + 6 ≤ LL) : OpOk S i 471 := by
  intro k1 k2 u5 u6 I L w1 w2 t hs hk1 hk2 hK
  refine a_l1 rfl rfl rfl ?_
  refine a_l0 rfl rfl rfl ?_
  refine a_l4 rfl rfl rfl ?_
  refine a_s rfl rfl ?_
  refine a_s rfl rfl ?_
  refine a_top (y := nI (i + 1)) (nI_addl i 1) ?_
  refine a_ialdc rfl hx (inI_nI (by omega) (by omega)) ?_
  refine a_l0 rfl rfl rfl ?_
  refine a_l4 rfl rfl rfl ?_
  refine a_s rfl rfl ?_
  refine a_s rfl rfl ?_
  refine a_top (y := nI (i + 2)) (nI_addl i 2) ?_
  refine a_ialdc rfl hx (inI_nI (by omega) (by omega)) ?_
  refine a_l3 rfl rfl rfl ?_
  refine a_callW rfl lL_160 mo_L_duty (L_duty (S := S) hS hs.1.1 hk1 hk2) rfl rfl (ck4 rfl rfl rfl rfl) rfl (fun v' h' hv => ?_) (fun _ _ z => False.elim z)
  obtain ⟨⟨v1, rfl⟩, I1, L1, a1, b1, t1, rfl, f1, ka1, kb1⟩ := hv
  have s1 := Sy.q hs f1
  clear f1
  refine a_s5 rfl rfl rfl rfl rfl rfl ?_
  refine a_l2 rfl rfl rfl ?_
  refine a_l0 rfl rfl rfl ?_
  refine a_l4 rfl rfl rfl ?_
  refine a_s rfl rfl ?_
  refine a_s rfl rfl ?_
  refine a_top (y := nI (i + 1)) (nI_addl i 1) ?_
  refine a_ialdc rfl hx (inI_nI (by omega) (by omega)) ?_
  refine a_l0 rfl rfl rfl ?_
  refine a_l4 rfl rfl rfl ?_
  refine a_s rfl rfl ?_
  refine a_s rfl rfl ?_
  refine a_top (y := nI (i + 2)) (nI_addl i 2) ?_
  refine a_ialdc rfl hx (inI_nI (by omega) (by omega)) ?_
  have hr2 := s1.ri
  refine a_gV rfl lL_162 mo_X12_duty (r_X12_duty hr2.so hr2.lw hr2.lg) rfl rfl rfl ⟨12, _, rfl, rfl, rfl⟩ rfl (fun v' h' hv => ?_)
  obtain ⟨⟨v2, rfl⟩, I2, rfl, f2⟩ := hv
  have s2 := Sy.u s1 f2
  clear f2
  refine a_s6 rfl rfl rfl rfl rfl rfl ?_
  refine a_goto rfl ?_
  exact a_rm (by omega) (by omega) (hK _ _ _ _ _ _ _ s2 ka1 kb1)
theorem op_7 (hS : HdS S) (hx : ScM S LL xs) (h3 : LL ≤ 3072) (hi : i + 6 ≤ LL) : OpOk S i 511 := by
  intro k1 k2 u5 u6 I L w1 w2 t hs hk1 hk2 hK
  refine a_l1 rfl rfl rfl ?_
  refine a_l0 rfl rfl rfl ?_
  refine a_l4 rfl rfl rfl ?_
  refine a_s rfl rfl ?_
  refine a_s rfl rfl ?_
  refine a_top (y := nI (i + 1)) (nI_addl i 1) ?_
  refine a_ialdc rfl hx (inI_nI (by omega) (by omega)) ?_
  refine a_l3 rfl rfl rfl ?_
  obtain ⟨n1, fa1, ps1⟩ := Sim.ps (Sy.sim hs)
  refine a_callW rfl lL_163 mo_L_call (fL_call (S := S) hS hs ps1) rfl rfl (ck4 rfl rfl rfl rfl) rfl (fun v' h' hv => ?_) (fun _ _ z => False.elim z)
  obtain ⟨v1, I1, L1, t1, rfl, rfl, u1, J1⟩ := hv
  refine a_s5 rfl rfl rfl rfl rfl rfl ?_
  refine a_l2 rfl rfl rfl ?_
  refine a_l0 rfl rfl rfl ?_
  refine a_l4 rfl rfl rfl ?_
  refine a_s rfl rfl ?_
  refine a_s rfl rfl ?_
  refine a_top (y := nI (i + 1)) (nI_addl i 1) ?_
  refine a_ialdc rfl hx (inI_nI (by omega) (by omega)) ?_
  have hr2 : SO (dn (I 421)) (pn (I 421)) (I1 421) := by rw [u1 421 (by decide)]; exact hs.ri.so
  have er2 : I1 420 7 = nI n1 := (congrFun (u1 420 (by decide)) 7).trans ps1.2.2.2.1
  refine a_gV rfl lL_166 mo_X12_call (h_call hr2 er2 ps1.1) rfl rfl rfl ⟨12, _, rfl, rfl, rfl⟩ rfl (fun v' h' hv => ?_)
  rw [u1 421 (by decide)] at hv
  obtain ⟨v2, I2, rfl, rfl, s2, ez2, ev2⟩ := Sy.call hs ps1 J1 hv
  refine a_s6 rfl rfl rfl rfl rfl rfl ?_
  refine a_goto rfl ?_
  exact a_rm (by omega) (by omega) (hK _ _ _ _ _ _ _ s2 hk1 hk2)
theorem op_8 (hS : HdS S) (hx : ScM S LL xs) (h3 : LL ≤ 3072) (hi : i + 6 ≤ LL) : OpOk S i 539 := by
  intro k1 k2 u5 u6 I L w1 w2 t hs hk1 hk2 hK
  refine a_l1 rfl rfl rfl ?_
  refine a_l0 rfl rfl rfl ?_
  refine a_l4 rfl rfl rfl ?_
  refine a_s rfl rfl ?_
  refine a_s rfl rfl ?_
  refine a_top (y := nI (i + 1)) (nI_addl i 1) ?_
  refine a_ialdc rfl hx (inI_nI (by omega) (by omega)) ?_
  refine a_l3 rfl rfl rfl ?_
  obtain ⟨n1, fa1, ps1⟩ := Sim.ps (Sy.sim hs)
  refine a_callW rfl lL_167 mo_L_put (fL_put (S := S) hS hs ps1) rfl rfl (ck4 rfl rfl rfl rfl) rfl (fun v' h' hv => ?_) (fun _ _ z => False.elim z)
  obtain ⟨v1, I1, L1, t1, rfl, rfl, u1, J1⟩ := hv
  refine a_s5 rfl rfl rfl rfl rfl rfl ?_
  refine a_l2 rfl rfl rfl ?_
  refine a_l0 rfl rfl rfl ?_
  refine a_l4 rfl rfl rfl ?_
  refine a_s rfl rfl ?_
  refine a_s rfl rfl ?_
  refine a_top (y := nI (i + 1)) (nI_addl i 1) ?_
  refine a_ialdc rfl hx (inI_nI (by omega) (by omega)) ?_
  have hr2 : SO (dn (I 421)) (pn (I 421)) (I1 421) := by rw [u1 421 (by decide)]; exact hs.ri.so
  have er2 : I1 420 7 = nI n1 := (congrFun (u1 420 (by decide)) 7).trans ps1.2.2.2.1
  refine a_gV rfl lL_169 mo_X12_put (h_put hr2 er2 ps1.1) rfl rfl rfl ⟨12, _, rfl, rfl, rfl⟩ rfl (fun v' h' hv => ?_)
  rw [u1 421 (by decide)] at hv
  obtain ⟨v2, I2, rfl, rfl, s2, ez2, ev2⟩ := Sy.put hs ps1 J1 hv
  refine a_s6 rfl rfl rfl rfl rfl rfl ?_
  refine a_goto rfl ?_
  exact a_rm (by omega) (by omega) (hK _ _ _ _ _ _ _ s2 hk1 hk2)
theorem op_9 (hS : HdS S) (hx : ScM S LL xs) (h3 : LL ≤ 3072) (hi : i + 6 ≤ LL) : OpOk S i 567 := by
  intro k1 k2 u5 u6 I L w1 w2 t hs hk1 hk2 hK
  refine a_l1 rfl rfl rfl ?_
  refine a_l0 rfl rfl rfl ?_
  refine a_l4 rfl rfl rfl ?_
  refine a_s rfl rfl ?_
  refine a_s rfl rfl ?_
  refine a_top (y := nI (i + 1)) (nI_addl i 1) ?_
  refine a_ialdc rfl hx (inI_nI (by omega) (by omega)) ?_
  refine a_l3 rfl rfl rfl ?_
  obtain ⟨n1, fa1, ps1⟩ := Sim.ps (Sy.sim hs)
  refine a_callW rfl lL_170 mo_L_forget (fL_forget (S := S) hS hs ps1) rfl rfl (ck4 rfl rfl rfl rfl) rfl (fun v' h' hv => ?_) (fun _ _ z => False.elim z)
  obtain ⟨v1, I1, L1, t1, rfl, rfl, u1, J1⟩ := hv
  refine a_s5 rfl rfl rfl rfl rfl rfl ?_
  refine a_l2 rfl rfl rfl ?_
  refine a_l0 rfl rfl rfl ?_
  refine a_l4 rfl rfl rfl ?_
  refine a_s rfl rfl ?_
  refine a_s rfl rfl ?_
  refine a_top (y := nI (i + 1)) (nI_addl i 1) ?_
  refine a_ialdc rfl hx (inI_nI (by omega) (by omega)) ?_
  have hr2 : SO (dn (I 421)) (pn (I 421)) (I1 421) := by rw [u1 421 (by decide)]; exact hs.ri.so
  have er2 : I1 420 7 = nI n1 := (congrFun (u1 420 (by decide)) 7).trans ps1.2.2.2.1
  refine a_gV rfl lL_172 mo_X12_forget (h_forget hr2 er2 ps1.1) rfl rfl rfl ⟨12, _, rfl, rfl, rfl⟩ rfl (fun v' h' hv => ?_)
  rw [u1 421 (by decide)] at hv
  obtain ⟨v2, I2, rfl, rfl, s2, ez2, ev2⟩ := Sy.stt (s := 2) hs ps1 (by decide) (by decide) (by decide) J1 hv
  refine a_s6 rfl rfl rfl rfl rfl rfl ?_
  refine a_goto rfl ?_
  exact a_rm (by omega) (by omega) (hK _ _ _ _ _ _ _ s2 hk1 hk2)
theorem op_10 (hS : HdS S) (hx : ScM S LL xs) (h3 : LL ≤ 3072) (hi : i + 6 ≤ LL) : OpOk S i 595 := by
  intro k1 k2 u5 u6 I L w1 w2 t hs hk1 hk2 hK
  refine a_l1 rfl rfl rfl ?_
  refine a_l0 rfl rfl rfl ?_
  refine a_l4 rfl rfl rfl ?_
  refine a_s rfl rfl ?_
  refine a_s rfl rfl ?_
  refine a_top (y := nI (i + 1)) (nI_addl i 1) ?_
  refine a_ialdc rfl hx (inI_nI (by omega) (by omega)) ?_
  refine a_l3 rfl rfl rfl ?_
  obtain ⟨n1, fa1, ps1⟩ := Sim.ps (Sy.sim hs)
  refine a_callW rfl lL_173 mo_L_recall (fL_recall (S := S) hS hs ps1) rfl rfl (ck4 rfl rfl rfl rfl) rfl (fun v' h' hv => ?_) (fun _ _ z => False.elim z)
  obtain ⟨v1, I1, L1, t1, rfl, rfl, u1, J1⟩ := hv
  refine a_s5 rfl rfl rfl rfl rfl rfl ?_
  refine a_l2 rfl rfl rfl ?_
  refine a_l0 rfl rfl rfl ?_
  refine a_l4 rfl rfl rfl ?_
  refine a_s rfl rfl ?_
  refine a_s rfl rfl ?_
  refine a_top (y := nI (i + 1)) (nI_addl i 1) ?_
  refine a_ialdc rfl hx (inI_nI (by omega) (by omega)) ?_
  have hr2 : SO (dn (I 421)) (pn (I 421)) (I1 421) := by rw [u1 421 (by decide)]; exact hs.ri.so
  have er2 : I1 420 7 = nI n1 := (congrFun (u1 420 (by decide)) 7).trans ps1.2.2.2.1
  refine a_gV rfl lL_175 mo_X12_recall (h_recall hr2 er2 ps1.1) rfl rfl rfl ⟨12, _, rfl, rfl, rfl⟩ rfl (fun v' h' hv => ?_)
  rw [u1 421 (by decide)] at hv
  obtain ⟨v2, I2, rfl, rfl, s2, ez2, ev2⟩ := Sy.stt (s := 0) hs ps1 (by decide) (by decide) (by decide) J1 hv
  refine a_s6 rfl rfl rfl rfl rfl rfl ?_
  refine a_goto rfl ?_
  exact a_rm (by omega) (by omega) (hK _ _ _ _ _ _ _ s2 hk1 hk2)
theorem op_11 (hS : HdS S) (hx : ScM S LL xs) (h3 : LL ≤ 3072) (hi : i + 6 ≤ LL) : OpOk S i 623 := by
  intro k1 k2 u5 u6 I L w1 w2 t hs hk1 hk2 hK
  refine a_l1 rfl rfl rfl ?_
  refine a_l0 rfl rfl rfl ?_
  refine a_l4 rfl rfl rfl ?_
  refine a_s rfl rfl ?_
  refine a_s rfl rfl ?_
  refine a_top (y := nI (i + 1)) (nI_addl i 1) ?_
  refine a_ialdc rfl hx (inI_nI (by omega) (by omega)) ?_
  refine a_l0 rfl rfl rfl ?_
  refine a_l4 rfl rfl rfl ?_
  refine a_s rfl rfl ?_
  refine a_s rfl rfl ?_
  refine a_top (y := nI (i + 2)) (nI_addl i 2) ?_
  refine a_ialdc rfl hx (inI_nI (by omega) (by omega)) ?_
  refine a_l3 rfl rfl rfl ?_
  obtain ⟨n1, fa1, ps1⟩ := Sim.ps (Sy.sim hs)
  refine a_callW rfl lL_176 mo_L_hand (fL_hand (S := S) hS hs ps1) rfl rfl (ck4 rfl rfl rfl rfl) rfl (fun v' h' hv => ?_) (fun _ _ z => False.elim z)
  obtain ⟨v1, I1, L1, t1, rfl, rfl, u1, J1⟩ := hv
  refine a_s5 rfl rfl rfl rfl rfl rfl ?_
  refine a_l2 rfl rfl rfl ?_
  refine a_l0 rfl rfl rfl ?_
  refine a_l4 rfl rfl rfl ?_
  refine a_s rfl rfl ?_
  refine a_s rfl rfl ?_
  refine a_top (y := nI (i + 1)) (nI_addl i 1) ?_
  refine a_ialdc rfl hx (inI_nI (by omega) (by omega)) ?_
  refine a_l0 rfl rfl rfl ?_
  refine a_l4 rfl rfl rfl ?_
  refine a_s rfl rfl ?_
  refine a_s rfl rfl ?_
  refine a_top (y := nI (i + 2)) (nI_addl i 2) ?_
  refine a_ialdc rfl hx (inI_nI (by omega) (by omega)) ?_
  have hr2 : SO (dn (I 421)) (pn (I 421)) (I1 421) := by rw [u1 421 (by decide)]; exact hs.ri.so
  have er2 : I1 420 7 = nI n1 := (congrFun (u1 420 (by decide)) 7).trans ps1.2.2.2.1
  refine a_gV rfl lL_178 mo_X12_hand (h_hand hr2 er2 ps1.1) rfl rfl rfl ⟨12, _, rfl, rfl, rfl⟩ rfl (fun v' h' hv => ?_)
  rw [u1 421 (by decide)] at hv
  obtain ⟨v2, I2, rfl, rfl, s2, ez2, ev2⟩ := Sy.hand hs ps1 J1 hv
  refine a_s6 rfl rfl rfl rfl rfl rfl ?_
  refine a_goto rfl ?_
  exact a_rm (by omega) (by omega) (hK _ _ _ _ _ _ _ s2 hk1 hk2)
theorem op_12 (hS : HdS S) (hx : ScM S LL xs) (h3 : LL ≤ 3072) (hi : i + 6 ≤ LL) : OpOk S i 663 := by
  intro k1 k2 u5 u6 I L w1 w2 t hs hk1 hk2 hK
  refine a_l1 rfl rfl rfl ?_
  refine a_l0 rfl rfl rfl ?_
  refine a_l4 rfl rfl rfl ?_
  refine a_s rfl rfl ?_
  refine a_s rfl rfl ?_
  refine a_top (y := nI (i + 1)) (nI_addl i 1) ?_
  refine a_ialdc rfl hx (inI_nI (by omega) (by omega)) ?_
  refine a_l0 rfl rfl rfl ?_
  refine a_l4 rfl rfl rfl ?_
  refine a_s rfl rfl ?_
  refine a_s rfl rfl ?_
  refine a_top (y := nI (i + 2)) (nI_addl i 2) ?_
  refine a_ialdc rfl hx (inI_nI (by omega) (by omega)) ?_
  refine a_l3 rfl rfl rfl ?_
  obtain ⟨n1, fa1, ps1⟩ := Sim.ps (Sy.sim hs)
  refine a_callW rfl lL_179 mo_L_lean (fL_lean (S := S) hS hs ps1) rfl rfl (ck4 rfl rfl rfl rfl) rfl (fun v' h' hv => ?_) (fun _ _ z => False.elim z)
  obtain ⟨v1, I1, L1, t1, rfl, rfl, u1, J1⟩ := hv
  refine a_s5 rfl rfl rfl rfl rfl rfl ?_
  refine a_l2 rfl rfl rfl ?_
  refine a_l0 rfl rfl rfl ?_
  refine a_l4 rfl rfl rfl ?_
  refine a_s rfl rfl ?_
  refine a_s rfl rfl ?_
  refine a_top (y := nI (i + 1)) (nI_addl i 1) ?_
  refine a_ialdc rfl hx (inI_nI (by omega) (by omega)) ?_
  refine a_l0 rfl rfl rfl ?_
  refine a_l4 rfl rfl rfl ?_
  refine a_s rfl rfl ?_
  refine a_s rfl rfl ?_
  refine a_top (y := nI (i + 2)) (nI_addl i 2) ?_
  refine a_ialdc rfl hx (inI_nI (by omega) (by omega)) ?_
  have hr2 : SO (dn (I 421)) (pn (I 421)) (I1 421) := by rw [u1 421 (by decide)]; exact hs.ri.so
  have er2 : I1 420 7 = nI n1 := (congrFun (u1 420 (by decide)) 7).trans ps1.2.2.2.1
  refine a_gV rfl lL_181 mo_X12_lean (h_lean hr2 er2 ps1.1) rfl rfl rfl ⟨12, _, rfl, rfl, rfl⟩ rfl (fun v' h' hv => ?_)
  rw [u1 421 (by decide)] at hv
  obtain ⟨v2, I2, rfl, rfl, s2, ez2, ev2⟩ := Sy.lean hs ps1 J1 hv
  refine a_s6 rfl rfl rfl rfl rfl rfl ?_
  refine a_goto rfl ?_
  exact a_rm (by omega) (by omega) (hK _ _ _ _ _ _ _ s2 hk1 hk2)
theorem op_13 (hS : HdS S) (hx : ScM S LL xs) (h3 : LL ≤ 3072) (hi : i + 6 ≤ LL) : OpOk S i 703 := by
  intro k1 k2 u5 u6 I L w1 w2 t hs hk1 hk2 hK
  refine a_l1 rfl rfl rfl ?_
  refine a_l0 rfl rfl rfl ?_
  refine a_l4 rfl rfl rfl ?_
  refine a_s rfl rfl ?_
  refine a_s rfl rfl ?_
  refine a_top (y := nI (i + 1)) (nI_addl i 1) ?_
  refine a_ialdc rfl hx (inI_nI (by omega) (by omega)) ?_
  refine a_l0 rfl rfl rfl ?_
  refine a_l4 rfl rfl rfl ?_
  refine a_s rfl rfl ?_
  refine a_s rfl rfl ?_
  refine a_top (y := nI (i + 2)) (nI_addl i 2) ?_
  refine a_ialdc rfl hx (inI_nI (by omega) (by omega)) ?_
  refine a_l3 rfl rfl rfl ?_
  obtain ⟨n1, fa1, ps1⟩ := Sim.ps (Sy.sim hs)
  refine a_callW rfl lL_182 mo_L_free (fL_free (S := S) hS hs ps1) rfl rfl (ck4 rfl rfl rfl rfl) rfl (fun v' h' hv => ?_) (fun _ _ z => False.elim z)
  obtain ⟨v1, I1, L1, t1, rfl, rfl, u1, J1⟩ := hv
  refine a_s5 rfl rfl rfl rfl rfl rfl ?_
  refine a_l2 rfl rfl rfl ?_
  refine a_l0 rfl rfl rfl ?_
  refine a_l4 rfl rfl rfl ?_
  refine a_s rfl rfl ?_
  refine a_s rfl rfl ?_
  refine a_top (y := nI (i + 1)) (nI_addl i 1) ?_
  refine a_ialdc rfl hx (inI_nI (by omega) (by omega)) ?_
  refine a_l0 rfl rfl rfl ?_
  refine a_l4 rfl rfl rfl ?_
  refine a_s rfl rfl ?_
  refine a_s rfl rfl ?_
  refine a_top (y := nI (i + 2)) (nI_addl i 2) ?_
  refine a_ialdc rfl hx (inI_nI (by omega) (by omega)) ?_
  have hr2 : SO (dn (I 421)) (pn (I 421)) (I1 421) := by rw [u1 421 (by decide)]; exact hs.ri.so
  have er2 : I1 420 7 = nI n1 := (congrFun (u1 420 (by decide)) 7).trans ps1.2.2.2.1
  refine a_gV rfl lL_184 mo_X12_free (h_free hr2 er2 ps1.1) rfl rfl rfl ⟨12, _, rfl, rfl, rfl⟩ rfl (fun v' h' hv => ?_)
  rw [u1 421 (by decide)] at hv
  obtain ⟨v2, I2, rfl, rfl, s2, ez2, ev2⟩ := Sy.free hs ps1 J1 hv
  refine a_s6 rfl rfl rfl rfl rfl rfl ?_
  refine a_goto rfl ?_
  exact a_rm (by omega) (by omega) (hK _ _ _ _ _ _ _ s2 hk1 hk2)
theorem op_14 (hS : HdS S) (hx : ScM S LL xs) (h3 : LL ≤ 3072) (hi : i + 6 ≤ LL) : OpOk S i 743 := by
  intro k1 k2 u5 u6 I L w1 w2 t hs hk1 hk2 hK
  refine a_l1 rfl rfl rfl ?_
  refine a_l0 rfl rfl rfl ?_
  refine a_l4 rfl rfl rfl ?_
  refine a_s rfl rfl ?_
  refine a_s rfl rfl ?_
  refine a_top (y := nI (i + 1)) (nI_addl i 1) ?_
  refine a_ialdc rfl hx (inI_nI (by omega) (by omega)) ?_
  refine a_l3 rfl rfl rfl ?_
  obtain ⟨n1, fa1, ps1⟩ := Sim.ps (Sy.sim hs)
  obtain ⟨nl1, len1, cd1, fc1, fn1, lw1, ln1⟩ := Sy.nl hs
  refine a_callW rfl lL_185 mo_L_days (fL_days (S := S) hS hs ps1 lw1 ln1) rfl rfl (ck4 rfl rfl rfl rfl) rfl (fun v' h' hv => ?_) (fun _ _ z => False.elim z)
  obtain ⟨v1, I1, L1, t1, rfl, rfl, u1, J1⟩ := hv
  refine a_s5 rfl rfl rfl rfl rfl rfl ?_
  refine a_l2 rfl rfl rfl ?_
  refine a_l0 rfl rfl rfl ?_
  refine a_l4 rfl rfl rfl ?_
  refine a_s rfl rfl ?_
  refine a_s rfl rfl ?_
  refine a_top (y := nI (i + 1)) (nI_addl i 1) ?_
  refine a_ialdc rfl hx (inI_nI (by omega) (by omega)) ?_
  have er2 : I1 420 7 = nI n1 := (congrFun (u1 420 (by decide)) 7).trans ps1.2.2.2.1
  refine a_gV rfl lL_187 mo_X12_days (h_days (nl := nl1) (len := len1) (cd := cd1) (fa' := fc1) (fn := fn1) (by rw [u1 421 (by decide)]; exact hs.nm.2.2) (by rw [u1 421 (by decide)]; exact lw1.2.1) (by rw [u1 421 (by decide)]; exact ln1) er2 ps1.1) rfl rfl rfl ⟨12, _, rfl, rfl, rfl⟩ rfl (fun v' h' hv => ?_)
  rw [u1 421 (by decide)] at hv
  obtain ⟨v2, I2, rfl, rfl, s2, ez2⟩ := Sy.days hs ps1 ln1 u1 J1 hv
  refine a_s6 rfl rfl rfl rfl rfl rfl ?_
  refine a_goto rfl ?_
  exact a_rm (by omega) (by omega) (hK _ _ _ _ _ _ _ s2 hk1 hk2)
theorem op_15 (hS : HdS S) (hx : ScM S LL xs) (h3 : LL ≤ 3072) (hi : i + 6 ≤ LL) : OpOk S i 771 := by
  intro k1 k2 u5 u6 I L w1 w2 t hs hk1 hk2 hK
  refine a_l1 rfl rfl rfl ?_
  refine a_l0 rfl rfl rfl ?_
  refine a_l4 rfl rfl rfl ?_
  refine a_s rfl rfl ?_
  refine a_s rfl rfl ?_
  refine a_top (y := nI (i + 1)) (nI_addl i 1) ?_
  refine a_ialdc rfl hx (inI_nI (by omega) (by omega)) ?_
  refine a_gV rfl lL_188 mo_X11_parade (q_X11_parade_200) rfl rfl rfl ⟨11, _, rfl, rfl, rfl⟩ rfl (fun v' h' hv => ?_)
  obtain ⟨⟨v1, rfl⟩, rfl⟩ := hv
  refine a_s rfl rfl ?_
  refine a_l2 rfl rfl rfl ?_
  refine a_l0 rfl rfl rfl ?_
  refine a_l4 rfl rfl rfl ?_
  refine a_s rfl rfl ?_
  refine a_s rfl rfl ?_
  refine a_top (y := nI (i + 1)) (nI_addl i 1) ?_
  refine a_ialdc rfl hx (inI_nI (by omega) (by omega)) ?_
  have hr2 := hs.ri
  refine a_gV rfl lL_191 mo_X12_parade (r_X12_parade hr2.so hr2.lw hr2.lg) rfl rfl rfl ⟨12, _, rfl, rfl, rfl⟩ rfl (fun v' h' hv => ?_)
  obtain ⟨⟨v2, rfl⟩, I2, rfl, f2⟩ := hv
  have s2 := Sy.u hs f2
  clear f2
  refine a_s rfl rfl ?_
  refine a_goto rfl ?_
  exact a_rm (by omega) (by omega) (hK _ _ _ _ _ _ _ s2 hk1 hk2)
theorem op_16 (hS : HdS S) (hx : ScM S LL xs) (h3 : LL ≤ 3072) (hi : i + 6 ≤ LL) : OpOk S i 796 := by
  intro k1 k2 u5 u6 I L w1 w2 t hs hk1 hk2 hK
  refine a_l1 rfl rfl rfl ?_
  refine a_gV rfl lL_192 mo_X11_can (q_X11_can_200) rfl rfl rfl ⟨11, _, rfl, rfl, rfl⟩ rfl (fun v' h' hv => ?_)
  obtain ⟨⟨v1, rfl⟩, rfl⟩ := hv
  refine a_s rfl rfl ?_
  refine a_l2 rfl rfl rfl ?_
  have hr2 := hs.ri
  refine a_gV rfl lL_195 mo_X12_can (r_X12_can hr2.so hr2.lw hr2.lg) rfl rfl rfl ⟨12, _, rfl, rfl, rfl⟩ rfl (fun v' h' hv => ?_)
  obtain ⟨⟨v2, rfl⟩, I2, rfl, f2⟩ := hv
  have s2 := Sy.u hs f2
  clear f2
  refine a_s rfl rfl ?_
  refine a_goto rfl ?_
  exact a_rm (by omega) (by omega) (hK _ _ _ _ _ _ _ s2 hk1 hk2)
theorem op_17 (hS : HdS S) (hx : ScM S LL xs) (h3 : LL ≤ 3072) (hi : i + 6 ≤ LL) : OpOk S i 809 := by
  intro k1 k2 u5 u6 I L w1 w2 t hs hk1 hk2 hK
  refine a_l1 rfl rfl rfl ?_
  refine a_l0 rfl rfl rfl ?_
  refine a_l4 rfl rfl rfl ?_
  refine a_s rfl rfl ?_
  refine a_s rfl rfl ?_
  refine a_top (y := nI (i + 1)) (nI_addl i 1) ?_
  refine a_ialdc rfl hx (inI_nI (by omega) (by omega)) ?_
  refine a_l0 rfl rfl rfl ?_
  refine a_l4 rfl rfl rfl ?_
  refine a_s rfl rfl ?_
  refine a_s rfl rfl ?_
  refine a_top (y := nI (i + 2)) (nI_addl i 2) ?_
  refine a_ialdc rfl hx (inI_nI (by omega) (by omega)) ?_
  refine a_l3 rfl rfl rfl ?_
  refine a_callW rfl lL_196 mo_L_greets (L_greets (S := S) hS hs.1.1 hk1 hk2) rfl rfl (ck4 rfl rfl rfl rfl) rfl (fun v' h' hv => ?_) (fun _ _ z => False.elim z)
  obtain ⟨⟨v1, rfl⟩, I1, L1, a1, b1, t1, rfl, f1, ka1, kb1⟩ := hv
  have s1 := Sy.q hs f1
  clear f1
  refine a_s5 rfl rfl rfl rfl rfl rfl ?_
  refine a_l2 rfl rfl rfl ?_
  refine a_l0 rfl rfl rfl ?_
  refine a_l4 rfl rfl rfl ?_
  refine a_s rfl rfl ?_
  refine a_s rfl rfl ?_
  refine a_top (y := nI (i + 1)) (nI_addl i 1) ?_
  refine a_ialdc rfl hx (inI_nI (by omega) (by omega)) ?_
  refine a_l0 rfl rfl rfl ?_
  refine a_l4 rfl rfl rfl ?_
  refine a_s rfl rfl ?_
  refine a_s rfl rfl ?_
  refine a_top (y := nI (i + 2)) (nI_addl i 2) ?_
  refine a_ialdc rfl hx (inI_nI (by omega) (by omega)) ?_
  have hr2 := s1.ri
  refine a_gV rfl lL_198 mo_X12_greets (r_X12_greets hr2.so hr2.lw hr2.lg) rfl rfl rfl ⟨12, _, rfl, rfl, rfl⟩ rfl (fun v' h' hv => ?_)
  obtain ⟨⟨v2, rfl⟩, I2, rfl, f2⟩ := hv
  have s2 := Sy.u s1 f2
  clear f2
  refine a_s6 rfl rfl rfl rfl rfl rfl ?_
  refine a_goto rfl ?_
  exact a_rm (by omega) (by omega) (hK _ _ _ _ _ _ _ s2 ka1 kb1)
theorem op_18 (hS : HdS S) (hx : ScM S LL xs) (h3 : LL ≤ 3072) (hi : i + 6 ≤ LL) : OpOk S i 849 := by
  intro k1 k2 u5 u6 I L w1 w2 t hs hk1 hk2 hK
  refine a_l1 rfl rfl rfl ?_
  refine a_l0 rfl rfl rfl ?_
  refine a_l4 rfl rfl rfl ?_
  refine a_s rfl rfl ?_
  refine a_s rfl rfl ?_
  refine a_top (y := nI (i + 1)) (nI_addl i 1) ?_
  refine a_ialdc rfl hx (inI_nI (by omega) (by omega)) ?_
  refine a_l0 rfl rfl rfl ?_
  refine a_l4 rfl rfl rfl ?_
  refine a_s rfl rfl ?_
  refine a_s rfl rfl ?_
  refine a_top (y := nI (i + 2)) (nI_addl i 2) ?_
  refine a_ialdc rfl hx (inI_nI (by omega) (by omega)) ?_
  refine a_l3 rfl rfl rfl ?_
  refine a_callW rfl lL_199 mo_L_where (L_where (S := S) hS hs.1.1 hk1 hk2) rfl rfl (ck4 rfl rfl rfl rfl) rfl (fun v' h' hv => ?_) (fun _ _ z => False.elim z)
  obtain ⟨⟨v1, rfl⟩, I1, L1, a1, b1, t1, rfl, f1, ka1, kb1⟩ := hv
  have s1 := Sy.q hs f1
  clear f1
  refine a_s5 rfl rfl rfl rfl rfl rfl ?_
  refine a_l2 rfl rfl rfl ?_
  refine a_l0 rfl rfl rfl ?_
  refine a_l4 rfl rfl rfl ?_
  refine a_s rfl rfl ?_
  refine a_s rfl rfl ?_
  refine a_top (y := nI (i + 1)) (nI_addl i 1) ?_
  refine a_ialdc rfl hx (inI_nI (by omega) (by omega)) ?_
  refine a_l0 rfl rfl rfl ?_
  refine a_l4 rfl rfl rfl ?_
  refine a_s rfl rfl ?_
  refine a_s rfl rfl ?_
  refine a_top (y := nI (i + 2)) (nI_addl i 2) ?_
  refine a_ialdc rfl hx (inI_nI (by omega) (by omega)) ?_
  have hr2 := s1.ri
  refine a_gV rfl lL_201 mo_X12_where (r_X12_where hr2.so hr2.lw hr2.lg) rfl rfl rfl ⟨12, _, rfl, rfl, rfl⟩ rfl (fun v' h' hv => ?_)
  obtain ⟨⟨v2, rfl⟩, I2, rfl, f2⟩ := hv
  have s2 := Sy.u s1 f2
  clear f2
  refine a_s6 rfl rfl rfl rfl rfl rfl ?_
  refine a_goto rfl ?_
  exact a_rm (by omega) (by omega) (hK _ _ _ _ _ _ _ s2 ka1 kb1)
theorem op_19 (hS : HdS S) (hx : ScM S LL xs) (h3 : LL ≤ 3072) (hi : i + 6 ≤ LL) : OpOk S i 889 := by
  intro k1 k2 u5 u6 I L w1 w2 t hs hk1 hk2 hK
  refine a_l1 rfl rfl rfl ?_
  refine a_l0 rfl rfl rfl ?_
  refine a_l4 rfl rfl rfl ?_
  refine a_s rfl rfl ?_
  refine a_s rfl rfl ?_
  refine a_top (y := nI (i + 1)) (nI_addl i 1) ?_
  refine a_ialdc rfl hx (inI_nI (by omega) (by omega)) ?_
  refine a_l0 rfl rfl rfl ?_
  refine a_l4 rfl rfl rfl ?_
  refine a_s rfl rfl ?_
  refine a_s rfl rfl ?_
  refine a_top (y := nI (i + 2)) (nI_addl i 2) ?_
  refine a_ialdc rfl hx (inI_nI (by omega) (by omega)) ?_
  refine a_l0 rfl rfl rfl ?_
  refine a_l4 rfl rfl rfl ?_
  refine a_s rfl rfl ?_
  refine a_s rfl rfl ?_
  refine a_top (y := nI (i + 3)) (nI_addl i 3) ?_
  refine a_ialdc rfl hx (inI_nI (by omega) (by omega)) ?_
  refine a_l3 rfl rfl rfl ?_
  refine a_callW rfl lL_202 mo_L_crowd (L_crowd (S := S) hS hs.1.1 hk1 hk2) rfl rfl (ck4 rfl rfl rfl rfl) rfl (fun v' h' hv => ?_) (fun _ _ z => False.elim z)
  obtain ⟨⟨v1, rfl⟩, I1, L1, a1, b1, t1, rfl, f1, ka1, kb1⟩ := hv
  have s1 := Sy.q hs f1
  clear f1
  refine a_s5 rfl rfl rfl rfl rfl rfl ?_
  refine a_l2 rfl rfl rfl ?_
  refine a_l0 rfl rfl rfl ?_
  refine a_l4 rfl rfl rfl ?_
  refine a_s rfl rfl ?_
  refine a_s rfl rfl ?_
  refine a_top (y := nI (i + 1)) (nI_addl i 1) ?_
  refine a_ialdc rfl hx (inI_nI (by omega) (by omega)) ?_
  refine a_l0 rfl rfl rfl ?_
  refine a_l4 rfl rfl rfl ?_
  refine a_s rfl rfl ?_
  refine a_s rfl rfl ?_
  refine a_top (y := nI (i + 2)) (nI_addl i 2) ?_
  refine a_ialdc rfl hx (inI_nI (by omega) (by omega)) ?_
  refine a_l0 rfl rfl rfl ?_
  refine a_l4 rfl rfl rfl ?_
  refine a_s rfl rfl ?_
  refine a_s rfl rfl ?_
  refine a_top (y := nI (i + 3)) (nI_addl i 3) ?_
  refine a_ialdc rfl hx (inI_nI (by omega) (by omega)) ?_
  have hr2 := s1.ri
  refine a_gV rfl lL_205 mo_X12_crowd (r_X12_crowd hr2.so hr2.lw hr2.lg) rfl rfl rfl ⟨12, _, rfl, rfl, rfl⟩ rfl (fun v' h' hv => ?_)
  obtain ⟨⟨v2, rfl⟩, I2, rfl, f2⟩ := hv
  have s2 := Sy.u s1 f2
  clear f2
  refine a_s6 rfl rfl rfl rfl rfl rfl ?_
  refine a_goto rfl ?_
  exact a_rm (by omega) (by omega) (hK _ _ _ _ _ _ _ s2 ka1 kb1)
theorem op_20 (hS : HdS S) (hx : ScM S LL xs) (h3 : LL ≤ 3072) (hi : i + 6 ≤ LL) : OpOk S i 941 := by
  intro k1 k2 u5 u6 I L w1 w2 t hs hk1 hk2 hK
  refine a_l1 rfl rfl rfl ?_
  obtain ⟨nd1, hn1, hd1⟩ := hs.1.1 235 (by decide) (by decide)
  refine a_gV rfl lL_206 mo_X11_most (q_X11_most_200 hd1 hn1) rfl rfl rfl ⟨11, _, rfl, rfl, rfl⟩ rfl (fun v' h' hv => ?_)
  obtain ⟨⟨v1, rfl⟩, I1, rfl, f1⟩ := hv
  have s1 := Sy.q hs f1
  clear f1
  refine a_s rfl rfl ?_
  refine a_l2 rfl rfl rfl ?_
  have hr2 := s1.ri
  refine a_gV rfl lL_209 mo_X12_most (r_X12_most hr2.so hr2.lw hr2.lg) rfl rfl rfl ⟨12, _, rfl, rfl, rfl⟩ rfl (fun v' h' hv => ?_)
  obtain ⟨⟨v2, rfl⟩, I2, rfl, f2⟩ := hv
  have s2 := Sy.u s1 f2
  clear f2
  refine a_s rfl rfl ?_
  refine a_goto rfl ?_
  exact a_rm (by omega) (by omega) (hK _ _ _ _ _ _ _ s2 hk1 hk2)
theorem op_21 (hS : HdS S) (hx : ScM S LL xs) (h3 : LL ≤ 3072) (hi : i + 6 ≤ LL) : OpOk S i 954 := by
  intro k1 k2 u5 u6 I L w1 w2 t hs hk1 hk2 hK
  refine a_l1 rfl rfl rfl ?_
  refine a_l0 rfl rfl rfl ?_
  refine a_l4 rfl rfl rfl ?_
  refine a_s rfl rfl ?_
  refine a_s rfl rfl ?_
  refine a_top (y := nI (i + 1)) (nI_addl i 1) ?_
  refine a_ialdc rfl hx (inI_nI (by omega) (by omega)) ?_
  refine a_l0 rfl rfl rfl ?_
  refine a_l4 rfl rfl rfl ?_
  refine a_s rfl rfl ?_
  refine a_s rfl rfl ?_
  refine a_top (y := nI (i + 2)) (nI_addl i 2) ?_
  refine a_ialdc rfl hx (inI_nI (by omega) (by omega)) ?_
  refine a_if_eq rfl (fun _ => ?_) (fun _ => ?_)
  · refine a_s rfl rfl ?_
    refine a_l3 rfl rfl rfl ?_
    refine a_callW rfl lL_210 mo_L_does (L_does (S := S) hS hs.1.1 hk1 hk2 (b2 := false)) rfl rfl (ck4 rfl rfl rfl rfl) rfl (fun v' h' hv => ?_) (fun _ _ z => False.elim z)
    obtain ⟨⟨v1, rfl⟩, I1, L1, a1, b1, t1, rfl, f1, ka1, kb1⟩ := hv
    have s1 := Sy.q hs f1
    clear f1
    refine a_s5 rfl rfl rfl rfl rfl rfl ?_
    refine a_l2 rfl rfl rfl ?_
    refine a_l0 rfl rfl rfl ?_
    refine a_l4 rfl rfl rfl ?_
    refine a_s rfl rfl ?_
    refine a_s rfl rfl ?_
    refine a_top (y := nI (i + 1)) (nI_addl i 1) ?_
    refine a_ialdc rfl hx (inI_nI (by omega) (by omega)) ?_
    refine a_l0 rfl rfl rfl ?_
    refine a_l4 rfl rfl rfl ?_
    refine a_s rfl rfl ?_
    refine a_s rfl rfl ?_
    refine a_top (y := nI (i + 2)) (nI_addl i 2) ?_
    refine a_ialdc rfl hx (inI_nI (by omega) (by omega)) ?_
    refine a_if_eq rfl (fun _ => ?_) (fun _ => ?_)
    · refine a_s rfl rfl ?_
      have hr2 := s1.ri
      refine a_gV rfl lL_213 mo_X12_does (r_X12_does hr2.so hr2.lw hr2.lg (b2 := false)) rfl rfl rfl ⟨12, _, rfl, rfl, rfl⟩ rfl (fun v' h' hv => ?_)
      obtain ⟨⟨v2, rfl⟩, I2, rfl, f2⟩ := hv
      have s2 := Sy.u s1 f2
      clear f2
      refine a_s6 rfl rfl rfl rfl rfl rfl ?_
      refine a_goto rfl ?_
      exact a_rm (by omega) (by omega) (hK _ _ _ _ _ _ _ s2 ka1 kb1)
    · refine a_s rfl rfl ?_
      refine a_goto rfl ?_
      have hr3 := s1.ri
      refine a_gV rfl lL_213 mo_X12_does (r_X12_does hr3.so hr3.lw hr3.lg (b2 := true)) rfl rfl rfl ⟨12, _, rfl, rfl, rfl⟩ rfl (fun v' h' hv => ?_)
      obtain ⟨⟨v3, rfl⟩, I3, rfl, f3⟩ := hv
      have s3 := Sy.u s1 f3
      clear f3
      refine a_s6 rfl rfl rfl rfl rfl rfl ?_
      refine a_goto rfl ?_
      exact a_rm (by omega) (by omega) (hK _ _ _ _ _ _ _ s3 ka1 kb1)
  · refine a_s rfl rfl ?_
    refine a_goto rfl ?_
    refine a_l3 rfl rfl rfl ?_
    refine a_callW rfl lL_210 mo_L_does (L_does (S := S) hS hs.1.1 hk1 hk2 (b2 := true)) rfl rfl (ck4 rfl rfl rfl rfl) rfl (fun v' h' hv => ?_) (fun _ _ z => False.elim z)
    obtain ⟨⟨v4, rfl⟩, I4, L4, a4, b4, t4, rfl, f4, ka4, kb4⟩ := hv
    have s4 := Sy.q hs f4
    clear f4
    refine a_s5 rfl rfl rfl rfl rfl rfl ?_
    refine a_l2 rfl rfl rfl ?_
    refine a_l0 rfl rfl rfl ?_
    refine a_l4 rfl rfl rfl ?_
    refine a_s rfl rfl ?_
    refine a_s rfl rfl ?_
    refine a_top (y := nI (i + 1)) (nI_addl i 1) ?_
    refine a_ialdc rfl hx (inI_nI (by omega) (by omega)) ?_
    refine a_l0 rfl rfl rfl ?_
    refine a_l4 rfl rfl rfl ?_
    refine a_s rfl rfl ?_
    refine a_s rfl rfl ?_
    refine a_top (y := nI (i + 2)) (nI_addl i 2) ?_
    refine a_ialdc rfl hx (inI_nI (by omega) (by omega)) ?_
    refine a_if_eq rfl (fun _ => ?_) (fun _ => ?_)
    · refine a_s rfl rfl ?_
      have hr5 := s4.ri
      refine a_gV rfl lL_213 mo_X12_does (r_X12_does hr5.so hr5.lw hr5.lg (b2 := false)) rfl rfl rfl ⟨12, _, rfl, rfl, rfl⟩ rfl (fun v' h' hv => ?_)
      obtain ⟨⟨v5, rfl⟩, I5, rfl, f5⟩ := hv
      have s5 := Sy.u s4 f5
      clear f5
      refine a_s6 rfl rfl rfl rfl rfl rfl ?_
      refine a_goto rfl ?_
      exact a_rm (by omega) (by omega) (hK _ _ _ _ _ _ _ s5 ka4 kb4)
    · refine a_s rfl rfl ?_
      refine a_goto rfl ?_
      have hr6 := s4.ri
      refine a_gV rfl lL_213 mo_X12_does (r_X12_does hr6.so hr6.lw hr6.lg (b2 := true)) rfl rfl rfl ⟨12, _, rfl, rfl, rfl⟩ rfl (fun v' h' hv => ?_)
      obtain ⟨⟨v6, rfl⟩, I6, rfl, f6⟩ := hv
      have s6 := Sy.u s4 f6
      clear f6
      refine a_s6 rfl rfl rfl rfl rfl rfl ?_
      refine a_goto rfl ?_
      exact a_rm (by omega) (by omega) (hK _ _ _ _ _ _ _ s6 ka4 kb4)
theorem op_22 (hS : HdS S) (hx : ScM S LL xs) (h3 : LL ≤ 3072) (hi : i + 6 ≤ LL) : OpOk S i 1010 := by
  intro k1 k2 u5 u6 I L w1 w2 t hs hk1 hk2 hK
  refine a_l1 rfl rfl rfl ?_
  refine a_l0 rfl rfl rfl ?_
  refine a_l4 rfl rfl rfl ?_
  refine a_s rfl rfl ?_
  refine a_s rfl rfl ?_
  refine a_top (y := nI (i + 1)) (nI_addl i 1) ?_
  refine a_ialdc rfl hx (inI_nI (by omega) (by omega)) ?_
  refine a_l3 rfl rfl rfl ?_
  refine a_callW rfl lL_214 mo_L_soon (L_soon (S := S) hS hs.1.1 hk1 hk2) rfl rfl (ck4 rfl rfl rfl rfl) rfl (fun v' h' hv => ?_) (fun _ _ z => False.elim z)
  obtain ⟨⟨v1, rfl⟩, I1, L1, a1, b1, t1, rfl, f1, ka1, kb1⟩ := hv
  have s1 := Sy.q hs f1
  clear f1
  refine a_s5 rfl rfl rfl rfl rfl rfl ?_
  refine a_l2 rfl rfl rfl ?_
  refine a_l0 rfl rfl rfl ?_
  refine a_l4 rfl rfl rfl ?_
  refine a_s rfl rfl ?_
  refine a_s rfl rfl ?_
  refine a_top (y := nI (i + 1)) (nI_addl i 1) ?_
  refine a_ialdc rfl hx (inI_nI (by omega) (by omega)) ?_
  have hr2 := s1.ri
  refine a_gV rfl lL_216 mo_X12_soon (r_X12_soon hr2.so hr2.lw hr2.lg) rfl rfl rfl ⟨12, _, rfl, rfl, rfl⟩ rfl (fun v' h' hv => ?_)
  obtain ⟨⟨v2, rfl⟩, I2, rfl, f2⟩ := hv
  have s2 := Sy.u s1 f2
  clear f2
  refine a_s6 rfl rfl rfl rfl rfl rfl ?_
  refine a_goto rfl ?_
  exact a_rm (by omega) (by omega) (hK _ _ _ _ _ _ _ s2 ka1 kb1)
theorem op_23 (hS : HdS S) (hx : ScM S LL xs) (h3 : LL ≤ 3072) (hi : i + 6 ≤ LL) : OpOk S i 1038 := by
  intro k1 k2 u5 u6 I L w1 w2 t hs hk1 hk2 hK
  refine a_l1 rfl rfl rfl ?_
  refine a_gV rfl lL_217 mo_X11_longest (q_X11_longest_200) rfl rfl rfl ⟨11, _, rfl, rfl, rfl⟩ rfl (fun v' h' hv => ?_)
  obtain ⟨⟨v1, rfl⟩, rfl⟩ := hv
  refine a_s rfl rfl ?_
  refine a_l2 rfl rfl rfl ?_
  have hr2 := hs.ri
  refine a_gV rfl lL_220 mo_X12_longest (r_X12_longest hr2.so hr2.lw hr2.lg) rfl rfl rfl ⟨12, _, rfl, rfl, rfl⟩ rfl (fun v' h' hv => ?_)
  obtain ⟨⟨v2, rfl⟩, I2, rfl, f2⟩ := hv
  have s2 := Sy.u hs f2
  clear f2
  refine a_s rfl rfl ?_
  refine a_goto rfl ?_
  exact a_rm (by omega) (by omega) (hK _ _ _ _ _ _ _ s2 hk1 hk2)
theorem op_24 (hS : HdS S) (hx : ScM S LL xs) (h3 : LL ≤ 3072) (hi : i + 6 ≤ LL) : OpOk S i 1051 := by
  intro k1 k2 u5 u6 I L w1 w2 t hs hk1 hk2 hK
  refine a_l1 rfl rfl rfl ?_
  refine a_gV rfl lL_221 mo_X11_ring (q_X11_ring_200) rfl rfl rfl ⟨11, _, rfl, rfl, rfl⟩ rfl (fun v' h' hv => ?_)
  obtain ⟨⟨v1, rfl⟩, rfl⟩ := hv
  refine a_s rfl rfl ?_
  refine a_l2 rfl rfl rfl ?_
  have hr2 := hs.ri
  refine a_gV rfl lL_224 mo_X12_ring (r_X12_ring hr2.so hr2.lw hr2.lg) rfl rfl rfl ⟨12, _, rfl, rfl, rfl⟩ rfl (fun v' h' hv => ?_)
  obtain ⟨⟨v2, rfl⟩, I2, rfl, f2⟩ := hv
  have s2 := Sy.u hs f2
  clear f2
  refine a_s rfl rfl ?_
  refine a_goto rfl ?_
  exact a_rm (by omega) (by omega) (hK _ _ _ _ _ _ _ s2 hk1 hk2)
theorem op_25 (hS : HdS S) (hx : ScM S LL xs) (h3 : LL ≤ 3072) (hi : i + 6 ≤ LL) : OpOk S i 1064 := by
  intro k1 k2 u5 u6 I L w1 w2 t hs hk1 hk2 hK
  refine a_l1 rfl rfl rfl ?_
  refine a_l0 rfl rfl rfl ?_
  refine a_l4 rfl rfl rfl ?_
  refine a_s rfl rfl ?_
  refine a_s rfl rfl ?_
  refine a_top (y := nI (i + 1)) (nI_addl i 1) ?_
  refine a_ialdc rfl hx (inI_nI (by omega) (by omega)) ?_
  refine a_l3 rfl rfl rfl ?_
  refine a_callW rfl lL_225 mo_L_before (L_before (S := S) hS hs.1.1 hk1 hk2) rfl rfl (ck4 rfl rfl rfl rfl) rfl (fun v' h' hv => ?_) (fun _ _ z => False.elim z)
  obtain ⟨⟨v1, rfl⟩, I1, L1, a1, b1, t1, rfl, f1, ka1, kb1⟩ := hv
  have s1 := Sy.q hs f1
  clear f1
  refine a_s5 rfl rfl rfl rfl rfl rfl ?_
  refine a_l2 rfl rfl rfl ?_
  refine a_l0 rfl rfl rfl ?_
  refine a_l4 rfl rfl rfl ?_
  refine a_s rfl rfl ?_
  refine a_s rfl rfl ?_
  refine a_top (y := nI (i + 1)) (nI_addl i 1) ?_
  refine a_ialdc rfl hx (inI_nI (by omega) (by omega)) ?_
  have hr2 := s1.ri
  refine a_gV rfl lL_227 mo_X12_before (r_X12_before hr2.so hr2.lw hr2.lg) rfl rfl rfl ⟨12, _, rfl, rfl, rfl⟩ rfl (fun v' h' hv => ?_)
  obtain ⟨⟨v2, rfl⟩, I2, rfl, f2⟩ := hv
  have s2 := Sy.u s1 f2
  clear f2
  refine a_s6 rfl rfl rfl rfl rfl rfl ?_
  refine a_goto rfl ?_
  exact a_rm (by omega) (by omega) (hK _ _ _ _ _ _ _ s2 ka1 kb1)
theorem op_26 (hS : HdS S) (hx : ScM S LL xs) (h3 : LL ≤ 3072) (hi : i + 6 ≤ LL) : OpOk S i 1092 := by
  intro k1 k2 u5 u6 I L w1 w2 t hs hk1 hk2 hK
  refine a_l1 rfl rfl rfl ?_
  refine a_l0 rfl rfl rfl ?_
  refine a_l4 rfl rfl rfl ?_
  refine a_s rfl rfl ?_
  refine a_s rfl rfl ?_
  refine a_top (y := nI (i + 1)) (nI_addl i 1) ?_
  refine a_ialdc rfl hx (inI_nI (by omega) (by omega)) ?_
  refine a_l3 rfl rfl rfl ?_
  refine a_callW rfl lL_228 mo_L_after (L_after (S := S) hS hs.1.1 hk1 hk2) rfl rfl (ck4 rfl rfl rfl rfl) rfl (fun v' h' hv => ?_) (fun _ _ z => False.elim z)
  obtain ⟨⟨v1, rfl⟩, I1, L1, a1, b1, t1, rfl, f1, ka1, kb1⟩ := hv
  have s1 := Sy.q hs f1
  clear f1
  refine a_s5 rfl rfl rfl rfl rfl rfl ?_
  refine a_l2 rfl rfl rfl ?_
  refine a_l0 rfl rfl rfl ?_
  refine a_l4 rfl rfl rfl ?_
  refine a_s rfl rfl ?_
  refine a_s rfl rfl ?_
  refine a_top (y := nI (i + 1)) (nI_addl i 1) ?_
  refine a_ialdc rfl hx (inI_nI (by omega) (by omega)) ?_
  have hr2 := s1.ri
  refine a_gV rfl lL_230 mo_X12_after (r_X12_after hr2.so hr2.lw hr2.lg) rfl rfl rfl ⟨12, _, rfl, rfl, rfl⟩ rfl (fun v' h' hv => ?_)
  obtain ⟨⟨v2, rfl⟩, I2, rfl, f2⟩ := hv
  have s2 := Sy.u s1 f2
  clear f2
  refine a_s6 rfl rfl rfl rfl rfl rfl ?_
  refine a_goto rfl ?_
  exact a_rm (by omega) (by omega) (hK _ _ _ _ _ _ _ s2 ka1 kb1)
theorem op_27 (hS : HdS S) (hx : ScM S LL xs) (h3 : LL ≤ 3072) (hi : i + 6 ≤ LL) : OpOk S i 1120 := by
  intro k1 k2 u5 u6 I L w1 w2 t hs hk1 hk2 hK
  refine a_l1 rfl rfl rfl ?_
  refine a_l0 rfl rfl rfl ?_
  refine a_l4 rfl rfl rfl ?_
  refine a_s rfl rfl ?_
  refine a_s rfl rfl ?_
  refine a_top (y := nI (i + 1)) (nI_addl i 1) ?_
  refine a_ialdc rfl hx (inI_nI (by omega) (by omega)) ?_
  refine a_l3 rfl rfl rfl ?_
  refine a_callW rfl lL_231 mo_L_depth (L_depth (S := S) hS hs.1.1 hk1 hk2) rfl rfl (ck4 rfl rfl rfl rfl) rfl (fun v' h' hv => ?_) (fun _ _ z => False.elim z)
  obtain ⟨⟨v1, rfl⟩, I1, L1, a1, b1, t1, rfl, f1, ka1, kb1⟩ := hv
  have s1 := Sy.q hs f1
  clear f1
  refine a_s5 rfl rfl rfl rfl rfl rfl ?_
  refine a_l2 rfl rfl rfl ?_
  refine a_l0 rfl rfl rfl ?_
  refine a_l4 rfl rfl rfl ?_
  refine a_s rfl rfl ?_
  refine a_s rfl rfl ?_
  refine a_top (y := nI (i + 1)) (nI_addl i 1) ?_
  refine a_ialdc rfl hx (inI_nI (by omega) (by omega)) ?_
  have hr2 := s1.ri
  refine a_gV rfl lL_233 mo_X12_depth (r_X12_depth hr2.so hr2.lw hr2.lg) rfl rfl rfl ⟨12, _, rfl, rfl, rfl⟩ rfl (fun v' h' hv => ?_)
  obtain ⟨⟨v2, rfl⟩, I2, rfl, f2⟩ := hv
  have s2 := Sy.u s1 f2
  clear f2
  refine a_s6 rfl rfl rfl rfl rfl rfl ?_
  refine a_goto rfl ?_
  exact a_rm (by omega) (by omega) (hK _ _ _ _ _ _ _ s2 ka1 kb1)
theorem op_28 (hS : HdS S) (hx : ScM S LL xs) (h3 : LL ≤ 3072) (hi : i + 6 ≤ LL) : OpOk S i 1148 := by
  intro k1 k2 u5 u6 I L w1 w2 t hs hk1 hk2 hK
  refine a_l1 rfl rfl rfl ?_
  refine a_l0 rfl rfl rfl ?_
  refine a_l4 rfl rfl rfl ?_
  refine a_s rfl rfl ?_
  refine a_s rfl rfl ?_
  refine a_top (y := nI (i + 1)) (nI_addl i 1) ?_
  refine a_ialdc rfl hx (inI_nI (by omega) (by omega)) ?_
  refine a_l3 rfl rfl rfl ?_
  refine a_callW rfl lL_234 mo_L_young (L_young (S := S) hS hs.1.1 hk1 hk2) rfl rfl (ck4 rfl rfl rfl rfl) rfl (fun v' h' hv => ?_) (fun _ _ z => False.elim z)
  obtain ⟨⟨v1, rfl⟩, I1, L1, a1, b1, t1, rfl, f1, ka1, kb1⟩ := hv
  have s1 := Sy.q hs f1
  clear f1
  refine a_s5 rfl rfl rfl rfl rfl rfl ?_
  refine a_l2 rfl rfl rfl ?_
  refine a_l0 rfl rfl rfl ?_
  refine a_l4 rfl rfl rfl ?_
  refine a_s rfl rfl ?_
  refine a_s rfl rfl ?_
  refine a_top (y := nI (i + 1)) (nI_addl i 1) ?_
  refine a_ialdc rfl hx (inI_nI (by omega) (by omega)) ?_
  have hr2 := s1.ri
  refine a_gV rfl lL_236 mo_X12_young (r_X12_young hr2.so hr2.lw hr2.lg) rfl rfl rfl ⟨12, _, rfl, rfl, rfl⟩ rfl (fun v' h' hv => ?_)
  obtain ⟨⟨v2, rfl⟩, I2, rfl, f2⟩ := hv
  have s2 := Sy.u s1 f2
  clear f2
  refine a_s6 rfl rfl rfl rfl rfl rfl ?_
  refine a_goto rfl ?_
  exact a_rm (by omega) (by omega) (hK _ _ _ _ _ _ _ s2 ka1 kb1)
theorem op_29 (hS : HdS S) (hx : ScM S LL xs) (h3 : LL ≤ 3072) (hi : i + 6 ≤ LL) : OpOk S i 1176 := by
  intro k1 k2 u5 u6 I L w1 w2 t hs hk1 hk2 hK
  refine a_l1 rfl rfl rfl ?_
  refine a_l0 rfl rfl rfl ?_
  refine a_l4 rfl rfl rfl ?_
  refine a_s rfl rfl ?_
  refine a_s rfl rfl ?_
  refine a_top (y := nI (i + 1)) (nI_addl i 1) ?_
  refine a_ialdc rfl hx (inI_nI (by omega) (by omega)) ?_
  refine a_l3 rfl rfl rfl ?_
  refine a_callW rfl lL_237 mo_L_older (L_older (S := S) hS hs.1.1 hk1 hk2) rfl rfl (ck4 rfl rfl rfl rfl) rfl (fun v' h' hv => ?_) (fun _ _ z => False.elim z)
  obtain ⟨⟨v1, rfl⟩, I1, L1, a1, b1, t1, rfl, f1, ka1, kb1⟩ := hv
  have s1 := Sy.q hs f1
  clear f1
  refine a_s5 rfl rfl rfl rfl rfl rfl ?_
  refine a_l2 rfl rfl rfl ?_
  refine a_l0 rfl rfl rfl ?_
  refine a_l4 rfl rfl rfl ?_
  refine a_s rfl rfl ?_
  refine a_s rfl rfl ?_
  refine a_top (y := nI (i + 1)) (nI_addl i 1) ?_
  refine a_ialdc rfl hx (inI_nI (by omega) (by omega)) ?_
  have hr2 := s1.ri
  refine a_gV rfl lL_239 mo_X12_older (r_X12_older hr2.so hr2.lw hr2.lg) rfl rfl rfl ⟨12, _, rfl, rfl, rfl⟩ rfl (fun v' h' hv => ?_)
  obtain ⟨⟨v2, rfl⟩, I2, rfl, f2⟩ := hv
  have s2 := Sy.u s1 f2
  clear f2
  refine a_s6 rfl rfl rfl rfl rfl rfl ?_
  refine a_goto rfl ?_
  exact a_rm (by omega) (by omega) (hK _ _ _ _ _ _ _ s2 ka1 kb1)
theorem op_30 (hS : HdS S) (hx : ScM S LL xs) (h3 : LL ≤ 3072) (hi : i + 6 ≤ LL) : OpOk S i 1204 := by
  intro k1 k2 u5 u6 I L w1 w2 t hs hk1 hk2 hK
  refine a_l1 rfl rfl rfl ?_
  refine a_l3 rfl rfl rfl ?_
  refine a_callW rfl lL_240 mo_L_whose (L_whose (S := S) hS hs.1.1 hk1 hk2) rfl rfl (ck4 rfl rfl rfl rfl) rfl (fun v' h' hv => ?_) (fun _ _ z => False.elim z)
  obtain ⟨⟨v1, rfl⟩, I1, L1, a1, b1, t1, rfl, f1, ka1, kb1⟩ := hv
  have s1 : Sz I1 := by
    have g : I1 = up2 I 201 1 0 := f1
    rw [g]
    exact Sy.z1 hs
  refine a_s5 rfl rfl rfl rfl rfl rfl ?_
  refine a_l2 rfl rfl rfl ?_
  have hr2 := s1.ri
  refine a_gV rfl lL_242 mo_X12_whose (h_whoseU hr2 s1.2.2.2) rfl rfl rfl ⟨12, _, rfl, rfl, rfl⟩ rfl (fun v' h' hv => ?_)
  obtain ⟨⟨v2, rfl⟩, I2, rfl, f2⟩ := hv
  have s2 := Sz.uz s1 f2
  clear f2
  refine a_s6 rfl rfl rfl rfl rfl rfl ?_
  refine a_goto rfl ?_
  exact a_rm (by omega) (by omega) (hK _ _ _ _ _ _ _ s2 ka1 kb1)
theorem op_31 (hS : HdS S) (hx : ScM S LL xs) (h3 : LL ≤ 3072) (hi : i + 6 ≤ LL) : OpOk S i 1220 := by
  intro k1 k2 u5 u6 I L w1 w2 t hs hk1 hk2 hK
  refine a_l1 rfl rfl rfl ?_
  refine a_l3 rfl rfl rfl ?_
  refine a_callW rfl lL_243 mo_L_ask (L_ask (S := S) hS hs.1.1 hk1 hk2) rfl rfl (ck4 rfl rfl rfl rfl) rfl (fun v' h' hv => ?_) (fun _ _ z => False.elim z)
  obtain ⟨⟨v1, rfl⟩, I1, L1, a1, b1, t1, rfl, f1, ka1, kb1⟩ := hv
  have s1 : Sz I1 := by
    have g : I1 = up2 I 201 1 0 := f1
    rw [g]
    exact Sy.z1 hs
  refine a_s5 rfl rfl rfl rfl rfl rfl ?_
  refine a_l2 rfl rfl rfl ?_
  have hr2 := s1.ri
  refine a_gV rfl lL_245 mo_X12_ask (h_askU hr2 s1.2.2.2) rfl rfl rfl ⟨12, _, rfl, rfl, rfl⟩ rfl (fun v' h' hv => ?_)
  obtain ⟨⟨v2, rfl⟩, I2, rfl, f2⟩ := hv
  have s2 := Sz.uz s1 f2
  clear f2
  refine a_s6 rfl rfl rfl rfl rfl rfl ?_
  refine a_goto rfl ?_
  exact a_rm (by omega) (by omega) (hK _ _ _ _ _ _ _ s2 ka1 kb1)
theorem op_32 (hS : HdS S) (hx : ScM S LL xs) (h3 : LL ≤ 3072) (hi : i + 6 ≤ LL) : OpOk S i 1236 := by
  intro k1 k2 u5 u6 I L w1 w2 t hs hk1 hk2 hK
  refine a_l1 rfl rfl rfl ?_
  refine a_gV rfl lL_246 mo_X11_gap (q_X11_gap_200) rfl rfl rfl ⟨11, _, rfl, rfl, rfl⟩ rfl (fun v' h' hv => ?_)
  obtain ⟨⟨v1, rfl⟩, rfl⟩ := hv
  refine a_s rfl rfl ?_
  refine a_l2 rfl rfl rfl ?_
  have hr2 := hs.ri
  refine a_gV rfl lL_249 mo_X12_gap (r_X12_gap hr2.so hr2.lw hr2.lg) rfl rfl rfl ⟨12, _, rfl, rfl, rfl⟩ rfl (fun v' h' hv => ?_)
  obtain ⟨⟨v2, rfl⟩, I2, rfl, f2⟩ := hv
  have s2 := Sy.u hs f2
  clear f2
  refine a_s rfl rfl ?_
  refine a_goto rfl ?_
  exact a_rm (by omega) (by omega) (hK _ _ _ _ _ _ _ s2 hk1 hk2)
theorem op_33 (hS : HdS S) (hx : ScM S LL xs) (h3 : LL ≤ 3072) (hi : i + 6 ≤ LL) : OpOk S i 1249 := by
  intro k1 k2 u5 u6 I L w1 w2 t hs hk1 hk2 hK
  refine a_l1 rfl rfl rfl ?_
  refine a_gV rfl lL_250 mo_X11_lost (q_X11_lost_200) rfl rfl rfl ⟨11, _, rfl, rfl, rfl⟩ rfl (fun v' h' hv => ?_)
  obtain ⟨⟨v1, rfl⟩, rfl⟩ := hv
  refine a_s rfl rfl ?_
  refine a_l2 rfl rfl rfl ?_
  have hr2 := hs.ri
  refine a_gV rfl lL_253 mo_X12_lost (r_X12_lost hr2.so hr2.lw hr2.lg) rfl rfl rfl ⟨12, _, rfl, rfl, rfl⟩ rfl (fun v' h' hv => ?_)
  obtain ⟨⟨v2, rfl⟩, I2, rfl, f2⟩ := hv
  have s2 := Sy.u hs f2
  clear f2
  refine a_s rfl rfl ?_
  refine a_goto rfl ?_
  exact a_rm (by omega) (by omega) (hK _ _ _ _ _ _ _ s2 hk1 hk2)
theorem op_34 (hS : HdS S) (hx : ScM S LL xs) (h3 : LL ≤ 3072) (hi : i + 6 ≤ LL) : OpOk S i 1262 := by
  intro k1 k2 u5 u6 I L w1 w2 t hs hk1 hk2 hK
  refine a_l1 rfl rfl rfl ?_
  refine a_gV rfl lL_254 mo_X11_missed (q_X11_missed_200) rfl rfl rfl ⟨11, _, rfl, rfl, rfl⟩ rfl (fun v' h' hv => ?_)
  obtain ⟨⟨v1, rfl⟩, rfl⟩ := hv
  refine a_s rfl rfl ?_
  refine a_l2 rfl rfl rfl ?_
  have hr2 := hs.ri
  refine a_gV rfl lL_257 mo_X12_missed (r_X12_missed hr2.so hr2.lw hr2.lg) rfl rfl rfl ⟨12, _, rfl, rfl, rfl⟩ rfl (fun v' h' hv => ?_)
  obtain ⟨⟨v2, rfl⟩, I2, rfl, f2⟩ := hv
  have s2 := Sy.u hs f2
  clear f2
  refine a_s rfl rfl ?_
  refine a_goto rfl ?_
  exact a_rm (by omega) (by omega) (hK _ _ _ _ _ _ _ s2 hk1 hk2)
theorem op_35 (hS : HdS S) (hx : ScM S LL xs) (h3 : LL ≤ 3072) (hi : i + 6 ≤ LL) : OpOk S i 1275 := by
  intro k1 k2 u5 u6 I L w1 w2 t hs hk1 hk2 hK
  refine a_l1 rfl rfl rfl ?_
  refine a_l0 rfl rfl rfl ?_
  refine a_l4 rfl rfl rfl ?_
  refine a_s rfl rfl ?_
  refine a_s rfl rfl ?_
  refine a_top (y := nI (i + 1)) (nI_addl i 1) ?_
  refine a_ialdc rfl hx (inI_nI (by omega) (by omega)) ?_
  refine a_l0 rfl rfl rfl ?_
  refine a_l4 rfl rfl rfl ?_
  refine a_s rfl rfl ?_
  refine a_s rfl rfl ?_
  refine a_top (y := nI (i + 2)) (nI_addl i 2) ?_
  refine a_ialdc rfl hx (inI_nI (by omega) (by omega)) ?_
  refine a_l3 rfl rfl rfl ?_
  refine a_callW rfl lL_258 mo_L_swap (L_swap (S := S) hS hs.1.1 hk1 hk2) rfl rfl (ck4 rfl rfl rfl rfl) rfl (fun v' h' hv => ?_) (fun _ _ z => False.elim z)
  obtain ⟨⟨v1, rfl⟩, I1, L1, a1, b1, t1, rfl, f1, ka1, kb1⟩ := hv
  have s1 := Sy.q hs f1
  clear f1
  refine a_s5 rfl rfl rfl rfl rfl rfl ?_
  refine a_l2 rfl rfl rfl ?_
  refine a_l0 rfl rfl rfl ?_
  refine a_l4 rfl rfl rfl ?_
  refine a_s rfl rfl ?_
  refine a_s rfl rfl ?_
  refine a_top (y := nI (i + 1)) (nI_addl i 1) ?_
  refine a_ialdc rfl hx (inI_nI (by omega) (by omega)) ?_
  refine a_l0 rfl rfl rfl ?_
  refine a_l4 rfl rfl rfl ?_
  refine a_s rfl rfl ?_
  refine a_s rfl rfl ?_
  refine a_top (y := nI (i + 2)) (nI_addl i 2) ?_
  refine a_ialdc rfl hx (inI_nI (by omega) (by omega)) ?_
  have hr2 := s1.ri
  refine a_gV rfl lL_260 mo_X12_swap (r_X12_swap hr2.so hr2.lw hr2.lg) rfl rfl rfl ⟨12, _, rfl, rfl, rfl⟩ rfl (fun v' h' hv => ?_)
  obtain ⟨⟨v2, rfl⟩, I2, rfl, f2⟩ := hv
  have s2 := Sy.u s1 f2
  clear f2
  refine a_s6 rfl rfl rfl rfl rfl rfl ?_
  refine a_goto rfl ?_
  exact a_rm (by omega) (by omega) (hK _ _ _ _ _ _ _ s2 ka1 kb1)
theorem op_36 (hS : HdS S) (hx : ScM S LL xs) (h3 : LL ≤ 3072) (hi : i + 6 ≤ LL) : OpOk S i 1315 := by
  intro k1 k2 u5 u6 I L w1 w2 t hs hk1 hk2 hK
  refine a_l1 rfl rfl rfl ?_
  refine a_l0 rfl rfl rfl ?_
  refine a_l4 rfl rfl rfl ?_
  refine a_s rfl rfl ?_
  refine a_s rfl rfl ?_
  refine a_top (y := nI (i + 1)) (nI_addl i 1) ?_
  refine a_ialdc rfl hx (inI_nI (by omega) (by omega)) ?_
  refine a_l0 rfl rfl rfl ?_
  refine a_l4 rfl rfl rfl ?_
  refine a_s rfl rfl ?_
  refine a_s rfl rfl ?_
  refine a_top (y := nI (i + 2)) (nI_addl i 2) ?_
  refine a_ialdc rfl hx (inI_nI (by omega) (by omega)) ?_
  refine a_l0 rfl rfl rfl ?_
  refine a_l4 rfl rfl rfl ?_
  refine a_s rfl rfl ?_
  refine a_s rfl rfl ?_
  refine a_top (y := nI (i + 3)) (nI_addl i 3) ?_
  refine a_ialdc rfl hx (inI_nI (by omega) (by omega)) ?_
  refine a_l3 rfl rfl rfl ?_
  refine a_callW rfl lL_261 mo_L_rests (L_rests (S := S) hS hs.1.1 hk1 hk2) rfl rfl (ck4 rfl rfl rfl rfl) rfl (fun v' h' hv => ?_) (fun _ _ z => False.elim z)
  obtain ⟨⟨v1, rfl⟩, I1, L1, a1, b1, t1, rfl, f1, ka1, kb1⟩ := hv
  have s1 := Sy.q hs f1
  clear f1
  refine a_s5 rfl rfl rfl rfl rfl rfl ?_
  refine a_l2 rfl rfl rfl ?_
  refine a_l0 rfl rfl rfl ?_
  refine a_l4 rfl rfl rfl ?_
  refine a_s rfl rfl ?_
  refine a_s rfl rfl ?_
  refine a_top (y := nI (i + 1)) (nI_addl i 1) ?_
  refine a_ialdc rfl hx (inI_nI (by omega) (by omega)) ?_
  refine a_l0 rfl rfl rfl ?_
  refine a_l4 rfl rfl rfl ?_
  refine a_s rfl rfl ?_
  refine a_s rfl rfl ?_
  refine a_top (y := nI (i + 2)) (nI_addl i 2) ?_
  refine a_ialdc rfl hx (inI_nI (by omega) (by omega)) ?_
  refine a_l0 rfl rfl rfl ?_
  refine a_l4 rfl rfl rfl ?_
  refine a_s rfl rfl ?_
  refine a_s rfl rfl ?_
  refine a_top (y := nI (i + 3)) (nI_addl i 3) ?_
  refine a_ialdc rfl hx (inI_nI (by omega) (by omega)) ?_
  have hr2 := s1.ri
  refine a_gV rfl lL_263 mo_X12_rests (r_X12_rests hr2.so hr2.lw hr2.lg) rfl rfl rfl ⟨12, _, rfl, rfl, rfl⟩ rfl (fun v' h' hv => ?_)
  obtain ⟨⟨v2, rfl⟩, I2, rfl, f2⟩ := hv
  have s2 := Sy.u s1 f2
  clear f2
  refine a_s6 rfl rfl rfl rfl rfl rfl ?_
  refine a_goto rfl ?_
  exact a_rm (by omega) (by omega) (hK _ _ _ _ _ _ _ s2 ka1 kb1)
theorem op_37 (hS : HdS S) (hx : ScM S LL xs) (h3 : LL ≤ 3072) (hi : i + 6 ≤ LL) : OpOk S i 1367 := by
  intro k1 k2 u5 u6 I L w1 w2 t hs hk1 hk2 hK
  refine a_l1 rfl rfl rfl ?_
  refine a_gV rfl lL_264 mo_X11_sponsor (q_X11_sponsor_200) rfl rfl rfl ⟨11, _, rfl, rfl, rfl⟩ rfl (fun v' h' hv => ?_)
  obtain ⟨⟨v1, rfl⟩, rfl⟩ := hv
  refine a_s rfl rfl ?_
  refine a_l2 rfl rfl rfl ?_
  have hr2 := hs.ri
  refine a_gV rfl lL_267 mo_X12_sponsor (r_X12_sponsor hr2.so hr2.lw hr2.lg) rfl rfl rfl ⟨12, _, rfl, rfl, rfl⟩ rfl (fun v' h' hv => ?_)
  obtain ⟨⟨v2, rfl⟩, I2, rfl, f2⟩ := hv
  have s2 := Sy.u hs f2
  clear f2
  refine a_s rfl rfl ?_
  refine a_goto rfl ?_
  exact a_rm (by omega) (by omega) (hK _ _ _ _ _ _ _ s2 hk1 hk2)
theorem op_38 (hS : HdS S) (hx : ScM S LL xs) (h3 : LL ≤ 3072) (hi : i + 6 ≤ LL) : OpOk S i 1380 := by
  intro k1 k2 u5 u6 I L w1 w2 t hs hk1 hk2 hK
  refine a_l1 rfl rfl rfl ?_
  refine a_gV rfl lL_268 mo_X11_idle (q_X11_idle_200) rfl rfl rfl ⟨11, _, rfl, rfl, rfl⟩ rfl (fun v' h' hv => ?_)
  obtain ⟨⟨v1, rfl⟩, rfl⟩ := hv
  refine a_s rfl rfl ?_
  refine a_l2 rfl rfl rfl ?_
  have hr2 := hs.ri
  refine a_gV rfl lL_271 mo_X12_idle (r_X12_idle hr2.so hr2.lw hr2.lg) rfl rfl rfl ⟨12, _, rfl, rfl, rfl⟩ rfl (fun v' h' hv => ?_)
  obtain ⟨⟨v2, rfl⟩, I2, rfl, f2⟩ := hv
  have s2 := Sy.u hs f2
  clear f2
  refine a_s rfl rfl ?_
  refine a_goto rfl ?_
  exact a_rm (by omega) (by omega) (hK _ _ _ _ _ _ _ s2 hk1 hk2)
theorem op_39 (hS : HdS S) (hx : ScM S LL xs) (h3 : LL ≤ 3072) (hi : i + 6 ≤ LL) : OpOk S i 1393 := by
  intro k1 k2 u5 u6 I L w1 w2 t hs hk1 hk2 hK
  refine a_l1 rfl rfl rfl ?_
  refine a_gV rfl lL_272 mo_X11_worst (q_X11_worst_200) rfl rfl rfl ⟨11, _, rfl, rfl, rfl⟩ rfl (fun v' h' hv => ?_)
  obtain ⟨⟨v1, rfl⟩, I1, rfl, f1⟩ := hv
  have s1 := Sy.q hs f1
  clear f1
  refine a_s rfl rfl ?_
  refine a_l2 rfl rfl rfl ?_
  have hr2 := s1.ri
  refine a_gV rfl lL_275 mo_X12_worst (r_X12_worst hr2.so hr2.lw hr2.lg) rfl rfl rfl ⟨12, _, rfl, rfl, rfl⟩ rfl (fun v' h' hv => ?_)
  obtain ⟨⟨v2, rfl⟩, I2, rfl, f2⟩ := hv
  have s2 := Sy.u s1 f2
  clear f2
  refine a_s rfl rfl ?_
  refine a_goto rfl ?_
  exact a_rm (by omega) (by omega) (hK _ _ _ _ _ _ _ s2 hk1 hk2)
theorem op_40 (hS : HdS S) (hx : ScM S LL xs) (h3 : LL ≤ 3072) (hi : i + 6 ≤ LL) : OpOk S i 1406 := by
  intro k1 k2 u5 u6 I L w1 w2 t hs hk1 hk2 hK
  refine a_l1 rfl rfl rfl ?_
  refine a_l0 rfl rfl rfl ?_
  refine a_l4 rfl rfl rfl ?_
  refine a_s rfl rfl ?_
  refine a_s rfl rfl ?_
  refine a_top (y := nI (i + 1)) (nI_addl i 1) ?_
  refine a_ialdc rfl hx (inI_nI (by omega) (by omega)) ?_
  refine a_l0 rfl rfl rfl ?_
  refine a_l4 rfl rfl rfl ?_
  refine a_s rfl rfl ?_
  refine a_s rfl rfl ?_
  refine a_top (y := nI (i + 2)) (nI_addl i 2) ?_
  refine a_ialdc rfl hx (inI_nI (by omega) (by omega)) ?_
  refine a_l3 rfl rfl rfl ?_
  refine a_callW rfl lL_276 mo_L_odds (L_odds (S := S) hS hs.1.1 hk1 hk2) rfl rfl (ck4 rfl rfl rfl rfl) rfl (fun v' h' hv => ?_) (fun _ _ z => False.elim z)
  obtain ⟨⟨v1, rfl⟩, I1, L1, a1, b1, t1, rfl, f1, ka1, kb1⟩ := hv
  have s1 := Sy.q hs f1
  clear f1
  refine a_s5 rfl rfl rfl rfl rfl rfl ?_
  refine a_l2 rfl rfl rfl ?_
  refine a_l0 rfl rfl rfl ?_
  refine a_l4 rfl rfl rfl ?_
  refine a_s rfl rfl ?_
  refine a_s rfl rfl ?_
  refine a_top (y := nI (i + 1)) (nI_addl i 1) ?_
  refine a_ialdc rfl hx (inI_nI (by omega) (by omega)) ?_
  refine a_l0 rfl rfl rfl ?_
  refine a_l4 rfl rfl rfl ?_
  refine a_s rfl rfl ?_
  refine a_s rfl rfl ?_
  refine a_top (y := nI (i + 2)) (nI_addl i 2) ?_
  refine a_ialdc rfl hx (inI_nI (by omega) (by omega)) ?_
  have hr2 := s1.ri
  refine a_gV rfl lL_278 mo_X12_odds (r_X12_odds hr2.so hr2.lw hr2.lg) rfl rfl rfl ⟨12, _, rfl, rfl, rfl⟩ rfl (fun v' h' hv => ?_)
  obtain ⟨⟨v2, rfl⟩, I2, L2, rfl, f2⟩ := hv
  have s2 := Sy.v s1 f2
  clear f2
  refine a_s6 rfl rfl rfl rfl rfl rfl ?_
  refine a_goto rfl ?_
  exact a_rm (by omega) (by omega) (hK _ _ _ _ _ _ _ s2 ka1 kb1)
theorem op_41 (hS : HdS S) (hx : ScM S LL xs) (h3 : LL ≤ 3072) (hi : i + 6 ≤ LL) : OpOk S i 1446 := by
  intro k1 k2 u5 u6 I L w1 w2 t hs hk1 hk2 hK
  refine a_l1 rfl rfl rfl ?_
  refine a_l0 rfl rfl rfl ?_
  refine a_l4 rfl rfl rfl ?_
  refine a_s rfl rfl ?_
  refine a_s rfl rfl ?_
  refine a_top (y := nI (i + 1)) (nI_addl i 1) ?_
  refine a_ialdc rfl hx (inI_nI (by omega) (by omega)) ?_
  refine a_l0 rfl rfl rfl ?_
  refine a_l4 rfl rfl rfl ?_
  refine a_s rfl rfl ?_
  refine a_s rfl rfl ?_
  refine a_top (y := nI (i + 2)) (nI_addl i 2) ?_
  refine a_ialdc rfl hx (inI_nI (by omega) (by omega)) ?_
  refine a_l3 rfl rfl rfl ?_
  refine a_callW rfl lL_279 mo_L_spare (L_spare (S := S) hS hs.1.1 hk1 hk2) rfl rfl (ck4 rfl rfl rfl rfl) rfl (fun v' h' hv => ?_) (fun _ _ z => False.elim z)
  obtain ⟨⟨v1, rfl⟩, I1, L1, a1, b1, t1, rfl, f1, ka1, kb1⟩ := hv
  have s1 := Sy.q hs f1
  clear f1
  refine a_s5 rfl rfl rfl rfl rfl rfl ?_
  refine a_l2 rfl rfl rfl ?_
  refine a_l0 rfl rfl rfl ?_
  refine a_l4 rfl rfl rfl ?_
  refine a_s rfl rfl ?_
  refine a_s rfl rfl ?_
  refine a_top (y := nI (i + 1)) (nI_addl i 1) ?_
  refine a_ialdc rfl hx (inI_nI (by omega) (by omega)) ?_
  refine a_l0 rfl rfl rfl ?_
  refine a_l4 rfl rfl rfl ?_
  refine a_s rfl rfl ?_
  refine a_s rfl rfl ?_
  refine a_top (y := nI (i + 2)) (nI_addl i 2) ?_
  refine a_ialdc rfl hx (inI_nI (by omega) (by omega)) ?_
  have hr2 := s1.ri
  refine a_gV rfl lL_281 mo_X12_spare (r_X12_spare hr2.so hr2.fr) rfl rfl rfl ⟨12, _, rfl, rfl, rfl⟩ rfl (fun v' h' hv => ?_)
  obtain ⟨⟨v2, rfl⟩, I2, L2, rfl, f2⟩ := hv
  have s2 := Sy.v s1 f2
  clear f2
  refine a_s6 rfl rfl rfl rfl rfl rfl ?_
  refine a_goto rfl ?_
  exact a_rm (by omega) (by omega) (hK _ _ _ _ _ _ _ s2 ka1 kb1)
theorem op_42 (hS : HdS S) (hx : ScM S LL xs) (h3 : LL ≤ 3072) (hi : i + 6 ≤ LL) : OpOk S i 1486 := by
  intro k1 k2 u5 u6 I L w1 w2 t hs hk1 hk2 hK
  refine a_l1 rfl rfl rfl ?_
  refine a_l0 rfl rfl rfl ?_
  refine a_l4 rfl rfl rfl ?_
  refine a_s rfl rfl ?_
  refine a_s rfl rfl ?_
  refine a_top (y := nI (i + 1)) (nI_addl i 1) ?_
  refine a_ialdc rfl hx (inI_nI (by omega) (by omega)) ?_
  refine a_l3 rfl rfl rfl ?_
  refine a_callW rfl lL_282 mo_L_done (L_done (S := S) hS hs.1.1 hk1 hk2) rfl rfl (ck4 rfl rfl rfl rfl) rfl (fun v' h' hv => ?_) (fun _ _ z => False.elim z)
  obtain ⟨⟨v1, rfl⟩, I1, L1, a1, b1, t1, rfl, f1, ka1, kb1⟩ := hv
  have s1 := Sy.q hs f1
  clear f1
  refine a_s5 rfl rfl rfl rfl rfl rfl ?_
  refine a_l2 rfl rfl rfl ?_
  refine a_l0 rfl rfl rfl ?_
  refine a_l4 rfl rfl rfl ?_
  refine a_s rfl rfl ?_
  refine a_s rfl rfl ?_
  refine a_top (y := nI (i + 1)) (nI_addl i 1) ?_
  refine a_ialdc rfl hx (inI_nI (by omega) (by omega)) ?_
  have hr2 := s1.ri
  refine a_gV rfl lL_284 mo_X12_done (r_X12_done hr2.so hr2.lw hr2.lg) rfl rfl rfl ⟨12, _, rfl, rfl, rfl⟩ rfl (fun v' h' hv => ?_)
  obtain ⟨⟨v2, rfl⟩, I2, rfl, f2⟩ := hv
  have s2 := Sy.v s1 f2
  clear f2
  refine a_s6 rfl rfl rfl rfl rfl rfl ?_
  refine a_goto rfl ?_
  exact a_rm (by omega) (by omega) (hK _ _ _ _ _ _ _ s2 ka1 kb1)
theorem op_43 (hS : HdS S) (hx : ScM S LL xs) (h3 : LL ≤ 3072) (hi : i + 6 ≤ LL) : OpOk S i 1514 := by
  intro k1 k2 u5 u6 I L w1 w2 t hs hk1 hk2 hK
  refine a_l1 rfl rfl rfl ?_
  refine a_gV rfl lL_285 mo_X11_all (q_X11_all_200) rfl rfl rfl ⟨11, _, rfl, rfl, rfl⟩ rfl (fun v' h' hv => ?_)
  obtain ⟨⟨v1, rfl⟩, I1, rfl, f1⟩ := hv
  have s1 := Sy.q hs f1
  clear f1
  refine a_s rfl rfl ?_
  refine a_l2 rfl rfl rfl ?_
  have hr2 := s1.ri
  refine a_gV rfl lL_288 mo_X12_all (r_X12_all hr2.so hr2.lw hr2.lg) rfl rfl rfl ⟨12, _, rfl, rfl, rfl⟩ rfl (fun v' h' hv => ?_)
  obtain ⟨⟨v2, rfl⟩, I2, rfl, f2⟩ := hv
  have s2 := Sy.v s1 f2
  clear f2
  refine a_s rfl rfl ?_
  refine a_goto rfl ?_
  exact a_rm (by omega) (by omega) (hK _ _ _ _ _ _ _ s2 hk1 hk2)
theorem op_44 (hS : HdS S) (hx : ScM S LL xs) (h3 : LL ≤ 3072) (hi : i + 6 ≤ LL) : OpOk S i 1527 := by
  intro k1 k2 u5 u6 I L w1 w2 t hs hk1 hk2 hK
  refine a_l1 rfl rfl rfl ?_
  refine a_gV rfl lL_289 mo_X11_help (q_X11_help_200) rfl rfl rfl ⟨11, _, rfl, rfl, rfl⟩ rfl (fun v' h' hv => ?_)
  obtain ⟨⟨v1, rfl⟩, I1, rfl, f1⟩ := hv
  have s1 := Sy.q hs f1
  clear f1
  refine a_s rfl rfl ?_
  refine a_l2 rfl rfl rfl ?_
  have hr2 := s1.ri
  refine a_gV rfl lL_292 mo_X12_help (r_X12_help hr2.so hr2.lw hr2.lg) rfl rfl rfl ⟨12, _, rfl, rfl, rfl⟩ rfl (fun v' h' hv => ?_)
  obtain ⟨⟨v2, rfl⟩, I2, rfl, f2⟩ := hv
  have s2 := Sy.v s1 f2
  clear f2
  refine a_s rfl rfl ?_
  refine a_goto rfl ?_
  exact a_rm (by omega) (by omega) (hK _ _ _ _ _ _ _ s2 hk1 hk2)
theorem op_45 (hS : HdS S) (hx : ScM S LL xs) (h3 : LL ≤ 3072) (hi : i + 6 ≤ LL) : OpOk S i 1540 := by
  intro k1 k2 u5 u6 I L w1 w2 t hs hk1 hk2 hK
  refine a_l1 rfl rfl rfl ?_
  refine a_gV rfl lL_293 mo_X11_crux (q_X11_crux_200) rfl rfl rfl ⟨11, _, rfl, rfl, rfl⟩ rfl (fun v' h' hv => ?_)
  obtain ⟨⟨v1, rfl⟩, I1, rfl, f1⟩ := hv
  have s1 := Sy.q hs f1
  clear f1
  refine a_s rfl rfl ?_
  refine a_l2 rfl rfl rfl ?_
  have hr2 := s1.ri
  refine a_gV rfl lL_296 mo_X12_crux (r_X12_crux hr2.so hr2.lw hr2.lg) rfl rfl rfl ⟨12, _, rfl, rfl, rfl⟩ rfl (fun v' h' hv => ?_)
  obtain ⟨⟨v2, rfl⟩, I2, rfl, f2⟩ := hv
  have s2 := Sy.v s1 f2
  clear f2
  refine a_s rfl rfl ?_
  refine a_goto rfl ?_
  exact a_rm (by omega) (by omega) (hK _ _ _ _ _ _ _ s2 hk1 hk2)
theorem op_46 (hS : HdS S) (hx : ScM S LL xs) (h3 : LL ≤ 3072) (hi : i + 6 ≤ LL) : OpOk S i 1553 := by
  intro k1 k2 u5 u6 I L w1 w2 t hs hk1 hk2 hK
  refine a_l1 rfl rfl rfl ?_
  refine a_l0 rfl rfl rfl ?_
  refine a_l4 rfl rfl rfl ?_
  refine a_s rfl rfl ?_
  refine a_s rfl rfl ?_
  refine a_top (y := nI (i + 1)) (nI_addl i 1) ?_
  refine a_ialdc rfl hx (inI_nI (by omega) (by omega)) ?_
  refine a_l3 rfl rfl rfl ?_
  refine a_callW rfl lL_297 mo_L_sick (L_sick (S := S) hS hs.1.1 hk1 hk2) rfl rfl (ck4 rfl rfl rfl rfl) rfl (fun v' h' hv => ?_) (fun _ _ z => False.elim z)
  obtain ⟨⟨v1, rfl⟩, I1, L1, a1, b1, t1, rfl, f1, ka1, kb1⟩ := hv
  have s1 := Sy.q hs f1
  clear f1
  refine a_s5 rfl rfl rfl rfl rfl rfl ?_
  refine a_l2 rfl rfl rfl ?_
  refine a_l0 rfl rfl rfl ?_
  refine a_l4 rfl rfl rfl ?_
  refine a_s rfl rfl ?_
  refine a_s rfl rfl ?_
  refine a_top (y := nI (i + 1)) (nI_addl i 1) ?_
  refine a_ialdc rfl hx (inI_nI (by omega) (by omega)) ?_
  have hr2 := s1.ri
  refine a_gV rfl lL_299 mo_X12_sick (r_X12_sick hr2.so hr2.lw hr2.lg) rfl rfl rfl ⟨12, _, rfl, rfl, rfl⟩ rfl (fun v' h' hv => ?_)
  obtain ⟨⟨v2, rfl⟩, I2, rfl, f2⟩ := hv
  have s2 := Sy.v s1 f2
  clear f2
  refine a_s6 rfl rfl rfl rfl rfl rfl ?_
  refine a_goto rfl ?_
  exact a_rm (by omega) (by omega) (hK _ _ _ _ _ _ _ s2 ka1 kb1)
theorem op_47 (hS : HdS S) (hx : ScM S LL xs) (h3 : LL ≤ 3072) (hi : i + 6 ≤ LL) : OpOk S i 1581 := by
  intro k1 k2 u5 u6 I L w1 w2 t hs hk1 hk2 hK
  refine a_l1 rfl rfl rfl ?_
  refine a_gV rfl lL_300 mo_X11_alike (q_X11_alike_200) rfl rfl rfl ⟨11, _, rfl, rfl, rfl⟩ rfl (fun v' h' hv => ?_)
  obtain ⟨⟨v1, rfl⟩, rfl⟩ := hv
  refine a_s rfl rfl ?_
  refine a_l2 rfl rfl rfl ?_
  have hr2 := hs.ri
  refine a_gV rfl lL_303 mo_X12_alike (r_X12_alike hr2.so hr2.lw hr2.lg) rfl rfl rfl ⟨12, _, rfl, rfl, rfl⟩ rfl (fun v' h' hv => ?_)
  obtain ⟨⟨v2, rfl⟩, I2, rfl, f2⟩ := hv
  have s2 := Sy.u hs f2
  clear f2
  refine a_s rfl rfl ?_
  refine a_goto rfl ?_
  exact a_rm (by omega) (by omega) (hK _ _ _ _ _ _ _ s2 hk1 hk2)
theorem op_48 (hS : HdS S) (hx : ScM S LL xs) (h3 : LL ≤ 3072) (hi : i + 6 ≤ LL) : OpOk S i 1594 := by
  intro k1 k2 u5 u6 I L w1 w2 t hs hk1 hk2 hK
  refine a_l1 rfl rfl rfl ?_
  refine a_l0 rfl rfl rfl ?_
  refine a_l4 rfl rfl rfl ?_
  refine a_s rfl rfl ?_
  refine a_s rfl rfl ?_
  refine a_top (y := nI (i + 1)) (nI_addl i 1) ?_
  refine a_ialdc rfl hx (inI_nI (by omega) (by omega)) ?_
  refine a_l0 rfl rfl rfl ?_
  refine a_l4 rfl rfl rfl ?_
  refine a_s rfl rfl ?_
  refine a_s rfl rfl ?_
  refine a_top (y := nI (i + 2)) (nI_addl i 2) ?_
  refine a_ialdc rfl hx (inI_nI (by omega) (by omega)) ?_
  refine a_l0 rfl rfl rfl ?_
  refine a_l4 rfl rfl rfl ?_
  refine a_s rfl rfl ?_
  refine a_s rfl rfl ?_
  refine a_top (y := nI (i + 3)) (nI_addl i 3) ?_
  refine a_ialdc rfl hx (inI_nI (by omega) (by omega)) ?_
  refine a_l3 rfl rfl rfl ?_
  refine a_callW rfl lL_304 mo_L_ahead (L_ahead (S := S) hS hs.1.1 hk1 hk2) rfl rfl (ck4 rfl rfl rfl rfl) rfl (fun v' h' hv => ?_) (fun _ _ z => False.elim z)
  obtain ⟨⟨v1, rfl⟩, I1, L1, a1, b1, t1, rfl, f1, ka1, kb1⟩ := hv
  have s1 := Sy.q hs f1
  clear f1
  refine a_s5 rfl rfl rfl rfl rfl rfl ?_
  refine a_l2 rfl rfl rfl ?_
  refine a_l0 rfl rfl rfl ?_
  refine a_l4 rfl rfl rfl ?_
  refine a_s rfl rfl ?_
  refine a_s rfl rfl ?_
  refine a_top (y := nI (i + 1)) (nI_addl i 1) ?_
  refine a_ialdc rfl hx (inI_nI (by omega) (by omega)) ?_
  refine a_l0 rfl rfl rfl ?_
  refine a_l4 rfl rfl rfl ?_
  refine a_s rfl rfl ?_
  refine a_s rfl rfl ?_
  refine a_top (y := nI (i + 2)) (nI_addl i 2) ?_
  refine a_ialdc rfl hx (inI_nI (by omega) (by omega)) ?_
  refine a_l0 rfl rfl rfl ?_
  refine a_l4 rfl rfl rfl ?_
  refine a_s rfl rfl ?_
  refine a_s rfl rfl ?_
  refine a_top (y := nI (i + 3)) (nI_addl i 3) ?_
  refine a_ialdc rfl hx (inI_nI (by omega) (by omega)) ?_
  have hr2 := s1.ri
  refine a_gV rfl lL_306 mo_X12_ahead (r_X12_ahead hr2.so hr2.lw hr2.lg) rfl rfl rfl ⟨12, _, rfl, rfl, rfl⟩ rfl (fun v' h' hv => ?_)
  obtain ⟨⟨v2, rfl⟩, I2, rfl, f2⟩ := hv
  have s2 := Sy.v s1 f2
  clear f2
  refine a_s6 rfl rfl rfl rfl rfl rfl ?_
  refine a_goto rfl ?_
  exact a_rm (by omega) (by omega) (hK _ _ _ _ _ _ _ s2 ka1 kb1)
theorem op_49 (hS : HdS S) (hx : ScM S LL xs) (h3 : LL ≤ 3072) (hi : i + 6 ≤ LL) : OpOk S i 1646 := by
  intro k1 k2 u5 u6 I L w1 w2 t hs hk1 hk2 hK
  refine a_l1 rfl rfl rfl ?_
  refine a_l0 rfl rfl rfl ?_
  refine a_l4 rfl rfl rfl ?_
  refine a_s rfl rfl ?_
  refine a_s rfl rfl ?_
  refine a_top (y := nI (i + 1)) (nI_addl i 1) ?_
  refine a_ialdc rfl hx (inI_nI (by omega) (by omega)) ?_
  refine a_l0 rfl rfl rfl ?_
  refine a_l4 rfl rfl rfl ?_
  refine a_s rfl rfl ?_
  refine a_s rfl rfl ?_
  refine a_top (y := nI (i + 2)) (nI_addl i 2) ?_
  refine a_ialdc rfl hx (inI_nI (by omega) (by omega)) ?_
  refine a_if_eq rfl (fun _ => ?_) (fun _ => ?_)
  · refine a_s rfl rfl ?_
    refine a_l3 rfl rfl rfl ?_
    refine a_callW rfl lL_307 mo_L_trial (L_trial (S := S) hS hs.1.1 hk1 hk2 (b2 := false)) rfl rfl (ck4 rfl rfl rfl rfl) rfl (fun v' h' hv => ?_) (fun _ _ z => False.elim z)
    obtain ⟨⟨v1, rfl⟩, I1, L1, a1, b1, t1, rfl, f1, ka1, kb1⟩ := hv
    have s1 := Sy.q hs f1
    clear f1
    refine a_s5 rfl rfl rfl rfl rfl rfl ?_
    refine a_l2 rfl rfl rfl ?_
    refine a_l0 rfl rfl rfl ?_
    refine a_l4 rfl rfl rfl ?_
    refine a_s rfl rfl ?_
    refine a_s rfl rfl ?_
    refine a_top (y := nI (i + 1)) (nI_addl i 1) ?_
    refine a_ialdc rfl hx (inI_nI (by omega) (by omega)) ?_
    refine a_l0 rfl rfl rfl ?_
    refine a_l4 rfl rfl rfl ?_
    refine a_s rfl rfl ?_
    refine a_s rfl rfl ?_
    refine a_top (y := nI (i + 2)) (nI_addl i 2) ?_
    refine a_ialdc rfl hx (inI_nI (by omega) (by omega)) ?_
    refine a_if_eq rfl (fun _ => ?_) (fun _ => ?_)
    · refine a_s rfl rfl ?_
      have hr2 := s1.ri
      refine a_gV rfl lL_309 mo_X12_trial (r_X12_trial hr2.so hr2.lw hr2.lg (b2 := false)) rfl rfl rfl ⟨12, _, rfl, rfl, rfl⟩ rfl (fun v' h' hv => ?_)
      obtain ⟨⟨v2, rfl⟩, I2, rfl, f2⟩ := hv
      have s2 := Sy.v s1 f2
      clear f2
      refine a_s6 rfl rfl rfl rfl rfl rfl ?_
      refine a_goto rfl ?_
      exact a_rm (by omega) (by omega) (hK _ _ _ _ _ _ _ s2 ka1 kb1)
    · refine a_s rfl rfl ?_
      refine a_goto rfl ?_
      have hr3 := s1.ri
      refine a_gV rfl lL_309 mo_X12_trial (r_X12_trial hr3.so hr3.lw hr3.lg (b2 := true)) rfl rfl rfl ⟨12, _, rfl, rfl, rfl⟩ rfl (fun v' h' hv => ?_)
      obtain ⟨⟨v3, rfl⟩, I3, rfl, f3⟩ := hv
      have s3 := Sy.v s1 f3
      clear f3
      refine a_s6 rfl rfl rfl rfl rfl rfl ?_
      refine a_goto rfl ?_
      exact a_rm (by omega) (by omega) (hK _ _ _ _ _ _ _ s3 ka1 kb1)
  · refine a_s rfl rfl ?_
    refine a_goto rfl ?_
    refine a_l3 rfl rfl rfl ?_
    refine a_callW rfl lL_307 mo_L_trial (L_trial (S := S) hS hs.1.1 hk1 hk2 (b2 := true)) rfl rfl (ck4 rfl rfl rfl rfl) rfl (fun v' h' hv => ?_) (fun _ _ z => False.elim z)
    obtain ⟨⟨v4, rfl⟩, I4, L4, a4, b4, t4, rfl, f4, ka4, kb4⟩ := hv
    have s4 := Sy.q hs f4
    clear f4
    refine a_s5 rfl rfl rfl rfl rfl rfl ?_
    refine a_l2 rfl rfl rfl ?_
    refine a_l0 rfl rfl rfl ?_
    refine a_l4 rfl rfl rfl ?_
    refine a_s rfl rfl ?_
    refine a_s rfl rfl ?_
    refine a_top (y := nI (i + 1)) (nI_addl i 1) ?_
    refine a_ialdc rfl hx (inI_nI (by omega) (by omega)) ?_
    refine a_l0 rfl rfl rfl ?_
    refine a_l4 rfl rfl rfl ?_
    refine a_s rfl rfl ?_
    refine a_s rfl rfl ?_
    refine a_top (y := nI (i + 2)) (nI_addl i 2) ?_
    refine a_ialdc rfl hx (inI_nI (by omega) (by omega)) ?_
    refine a_if_eq rfl (fun _ => ?_) (fun _ => ?_)
    · refine a_s rfl rfl ?_
      have hr5 := s4.ri
      refine a_gV rfl lL_309 mo_X12_trial (r_X12_trial hr5.so hr5.lw hr5.lg (b2 := false)) rfl rfl rfl ⟨12, _, rfl, rfl, rfl⟩ rfl (fun v' h' hv => ?_)
      obtain ⟨⟨v5, rfl⟩, I5, rfl, f5⟩ := hv
      have s5 := Sy.v s4 f5
      clear f5
      refine a_s6 rfl rfl rfl rfl rfl rfl ?_
      refine a_goto rfl ?_
      exact a_rm (by omega) (by omega) (hK _ _ _ _ _ _ _ s5 ka4 kb4)
    · refine a_s rfl rfl ?_
      refine a_goto rfl ?_
      have hr6 := s4.ri
      refine a_gV rfl lL_309 mo_X12_trial (r_X12_trial hr6.so hr6.lw hr6.lg (b2 := true)) rfl rfl rfl ⟨12, _, rfl, rfl, rfl⟩ rfl (fun v' h' hv => ?_)
      obtain ⟨⟨v6, rfl⟩, I6, rfl, f6⟩ := hv
      have s6 := Sy.v s4 f6
      clear f6
      refine a_s6 rfl rfl rfl rfl rfl rfl ?_
      refine a_goto rfl ?_
      exact a_rm (by omega) (by omega) (hK _ _ _ _ _ _ _ s6 ka4 kb4)
theorem AcQ.gen {c y v val : Int32} {l : Int64} (h : AcQ c y l val) (e : c = 0 → v = val) : ∃ V, AcQ c y l V ∧ (c = 0 → v = V) := ⟨val, h, e⟩
theorem op_50 (hS : HdS S) (hx : ScM S LL xs) (h3 : LL ≤ 3072) (hi : i + 6 ≤ LL) : OpOk S i 1702 := by
  intro k1 k2 u5 u6 I L w1 w2 t hs hk1 hk2 hK
  refine a_l1 rfl rfl rfl ?_
  refine a_l0 rfl rfl rfl ?_
  refine a_l4 rfl rfl rfl ?_
  refine a_s rfl rfl ?_
  refine a_s rfl rfl ?_
  refine a_top (y := nI (i + 1)) (nI_addl i 1) ?_
  refine a_ialdc rfl hx (inI_nI (by omega) (by omega)) ?_
  refine a_l0 rfl rfl rfl ?_
  refine a_l4 rfl rfl rfl ?_
  refine a_s rfl rfl ?_
  refine a_s rfl rfl ?_
  refine a_top (y := nI (i + 2)) (nI_addl i 2) ?_
  refine a_ialdc rfl hx (inI_nI (by omega) (by omega)) ?_
  refine a_if_eq rfl (fun hb => ?_) (fun hb => ?_)
  · refine a_s rfl rfl ?_
    refine a_l3 rfl rfl rfl ?_
    obtain ⟨nl1, len1, cd1, fc1, fn1, lw1, ln1⟩ := Sy.nl hs
    refine a_callW rfl lL_310 mo_L_span (fL_span (S := S) hS hs lw1 ln1 (b2 := false)) rfl rfl (ck4 rfl rfl rfl rfl) rfl (fun v' h' hv => ?_) (fun _ _ z => False.elim z)
    obtain ⟨v1, I1, L1, t1, rfl, rfl, f1, J1⟩ := hv
    have s1 := Sy.q hs f1
    have e211 : I1 421 = I 421 := funext fun k => f1 421 k rfl
    refine a_s5 rfl rfl rfl rfl rfl rfl ?_
    refine a_l2 rfl rfl rfl ?_
    refine a_l0 rfl rfl rfl ?_
    refine a_l4 rfl rfl rfl ?_
    refine a_s rfl rfl ?_
    refine a_s rfl rfl ?_
    refine a_top (y := nI (i + 1)) (nI_addl i 1) ?_
    refine a_ialdc rfl hx (inI_nI (by omega) (by omega)) ?_
    refine a_l0 rfl rfl rfl ?_
    refine a_l4 rfl rfl rfl ?_
    refine a_s rfl rfl ?_
    refine a_s rfl rfl ?_
    refine a_top (y := nI (i + 2)) (nI_addl i 2) ?_
    refine a_ialdc rfl hx (inI_nI (by omega) (by omega)) ?_
    refine a_if_eq rfl (fun _ => ?_) (fun c => absurd hb c)
    refine a_s rfl rfl ?_
    refine a_gV rfl lL_312 mo_X12_span (hq_span s1 (lw1.q f1) (by rw [e211]; exact ln1) (b2 := false)) rfl rfl rfl ⟨12, _, rfl, rfl, rfl⟩ rfl (fun v' h' hv => ?_)
    rw [e211] at hv
    obtain ⟨v2, I2, rfl, rfl, f2, ez2, ev2⟩ := hv
    have s2 := Sy.v s1 f2
    refine a_s6 rfl rfl rfl rfl rfl rfl ?_
    refine a_l2 rfl rfl rfl ?_
    refine a_eV1 rfl lL_313 mo_X12_thrown h_thrown rfl rfl rfl ⟨12, _, rfl, rfl, rfl⟩ rfl ?_
    refine a_top (y := v1) (ez2.trans (AcQ.st J1).symm) ?_
    refine a_l5 rfl rfl rfl ?_
    refine a_ic_eq rfl (fun _ => ?_) (fun c => absurd rfl c)
    refine a_l5 rfl rfl rfl ?_
    obtain ⟨V1, J1, ev2⟩ := AcQ.gen J1 ev2
    rcases J1 with ⟨c0, rfl, l0⟩ | ⟨c1, e1⟩
    · obtain rfl := ev2 c0
      refine a_if_ne rfl (fun c => absurd rfl c) (fun _ => ?_)
      refine a_l3 rfl rfl rfl ?_
      refine a_s rfl rfl ?_
      refine a_laldv rfl (n := 1) rfl ⟨by decide, by decide⟩ l0 ?_
      refine a_l6 rfl rfl rfl ?_
      refine a_s rfl rfl ?_
      refine a_s rfl rfl ?_
      refine a_if_eq rfl (fun _ => ?_) (fun c => absurd lcmp_self c)
      refine a_goto rfl ?_
      exact a_rm (by omega) (by omega) (hK _ _ _ _ _ _ _ s2 hk1 hk2)
    · refine a_if_ne rfl (fun _ => ?_) (fun c => absurd (e1.symm.trans c) c1)
      refine a_goto rfl ?_
      exact a_rm (by omega) (by omega) (hK _ _ _ _ _ _ _ s2 hk1 hk2)
  · refine a_s rfl rfl ?_
    refine a_goto rfl ?_
    refine a_l3 rfl rfl rfl ?_
    obtain ⟨nl4, len4, cd4, fc4, fn4, lw4, ln4⟩ := Sy.nl hs
    refine a_callW rfl lL_310 mo_L_span (fL_span (S := S) hS hs lw4 ln4 (b2 := true)) rfl rfl (ck4 rfl rfl rfl rfl) rfl (fun v' h' hv => ?_) (fun _ _ z => False.elim z)
    obtain ⟨v4, I4, L4, t4, rfl, rfl, f4, J4⟩ := hv
    have s4 := Sy.q hs f4
    have e214 : I4 421 = I 421 := funext fun k => f4 421 k rfl
    refine a_s5 rfl rfl rfl rfl rfl rfl ?_
    refine a_l2 rfl rfl rfl ?_
    refine a_l0 rfl rfl rfl ?_
    refine a_l4 rfl rfl rfl ?_
    refine a_s rfl rfl ?_
    refine a_s rfl rfl ?_
    refine a_top (y := nI (i + 1)) (nI_addl i 1) ?_
    refine a_ialdc rfl hx (inI_nI (by omega) (by omega)) ?_
    refine a_l0 rfl rfl rfl ?_
    refine a_l4 rfl rfl rfl ?_
    refine a_s rfl rfl ?_
    refine a_s rfl rfl ?_
    refine a_top (y := nI (i + 2)) (nI_addl i 2) ?_
    refine a_ialdc rfl hx (inI_nI (by omega) (by omega)) ?_
    refine a_if_eq rfl (fun c => absurd c hb) (fun _ => ?_)
    refine a_s rfl rfl ?_
    refine a_goto rfl ?_
    refine a_gV rfl lL_312 mo_X12_span (hq_span s4 (lw4.q f4) (by rw [e214]; exact ln4) (b2 := true)) rfl rfl rfl ⟨12, _, rfl, rfl, rfl⟩ rfl (fun v' h' hv => ?_)
    rw [e214] at hv
    obtain ⟨v5, I5, rfl, rfl, f5, ez5, ev5⟩ := hv
    have s5 := Sy.v s4 f5
    refine a_s6 rfl rfl rfl rfl rfl rfl ?_
    refine a_l2 rfl rfl rfl ?_
    refine a_eV1 rfl lL_313 mo_X12_thrown h_thrown rfl rfl rfl ⟨12, _, rfl, rfl, rfl⟩ rfl ?_
    refine a_top (y := v4) (ez5.trans (AcQ.st J4).symm) ?_
    refine a_l5 rfl rfl rfl ?_
    refine a_ic_eq rfl (fun _ => ?_) (fun c => absurd rfl c)
    refine a_l5 rfl rfl rfl ?_
    obtain ⟨V4, J4, ev5⟩ := AcQ.gen J4 ev5
    rcases J4 with ⟨c0, rfl, l0⟩ | ⟨c1, e1⟩
    · obtain rfl := ev5 c0
      refine a_if_ne rfl (fun c => absurd rfl c) (fun _ => ?_)
      refine a_l3 rfl rfl rfl ?_
      refine a_s rfl rfl ?_
      refine a_laldv rfl (n := 1) rfl ⟨by decide, by decide⟩ l0 ?_
      refine a_l6 rfl rfl rfl ?_
      refine a_s rfl rfl ?_
      refine a_s rfl rfl ?_
      refine a_if_eq rfl (fun _ => ?_) (fun c => absurd lcmp_self c)
      refine a_goto rfl ?_
      exact a_rm (by omega) (by omega) (hK _ _ _ _ _ _ _ s5 hk1 hk2)
    · refine a_if_ne rfl (fun _ => ?_) (fun c => absurd (e1.symm.trans c) c1)
      refine a_goto rfl ?_
      exact a_rm (by omega) (by omega) (hK _ _ _ _ _ _ _ s5 hk1 hk2)
theorem op_51 (hS : HdS S) (hx : ScM S LL xs) (h3 : LL ≤ 3072) (hi : i + 6 ≤ LL) : OpOk S i 1786 := by
  intro k1 k2 u5 u6 I L w1 w2 t hs hk1 hk2 hK
  refine a_l1 rfl rfl rfl ?_
  refine a_l0 rfl rfl rfl ?_
  refine a_l4 rfl rfl rfl ?_
  refine a_s rfl rfl ?_
  refine a_s rfl rfl ?_
  refine a_top (y := nI (i + 1)) (nI_addl i 1) ?_
  refine a_ialdc rfl hx (inI_nI (by omega) (by omega)) ?_
  refine a_l0 rfl rfl rfl ?_
  refine a_l4 rfl rfl rfl ?_
  refine a_s rfl rfl ?_
  refine a_s rfl rfl ?_
  refine a_top (y := nI (i + 2)) (nI_addl i 2) ?_
  refine a_ialdc rfl hx (inI_nI (by omega) (by omega)) ?_
  refine a_if_eq rfl (fun _ => ?_) (fun _ => ?_)
  · refine a_s rfl rfl ?_
    refine a_l3 rfl rfl rfl ?_
    refine a_callW rfl lL_316 mo_L_led (L_led (S := S) hS hs.1.1 hk1 hk2 (b2 := false)) rfl rfl (ck4 rfl rfl rfl rfl) rfl (fun v' h' hv => ?_) (fun _ _ z => False.elim z)
    obtain ⟨⟨v1, rfl⟩, I1, L1, a1, b1, t1, rfl, f1, ka1, kb1⟩ := hv
    have s1 := Sy.q hs f1
    clear f1
    refine a_s5 rfl rfl rfl rfl rfl rfl ?_
    refine a_l2 rfl rfl rfl ?_
    refine a_l0 rfl rfl rfl ?_
    refine a_l4 rfl rfl rfl ?_
    refine a_s rfl rfl ?_
    refine a_s rfl rfl ?_
    refine a_top (y := nI (i + 1)) (nI_addl i 1) ?_
    refine a_ialdc rfl hx (inI_nI (by omega) (by omega)) ?_
    refine a_l0 rfl rfl rfl ?_
    refine a_l4 rfl rfl rfl ?_
    refine a_s rfl rfl ?_
    refine a_s rfl rfl ?_
    refine a_top (y := nI (i + 2)) (nI_addl i 2) ?_
    refine a_ialdc rfl hx (inI_nI (by omega) (by omega)) ?_
    refine a_if_eq rfl (fun _ => ?_) (fun _ => ?_)
    · refine a_s rfl rfl ?_
      have hr2 := s1.ri
      refine a_gV rfl lL_318 mo_X12_led (r_X12_led hr2.so hr2.lw hr2.lg (b2 := false)) rfl rfl rfl ⟨12, _, rfl, rfl, rfl⟩ rfl (fun v' h' hv => ?_)
      obtain ⟨⟨v2, rfl⟩, I2, rfl, f2⟩ := hv
      have s2 := Sy.v s1 f2
      clear f2
      refine a_s6 rfl rfl rfl rfl rfl rfl ?_
      refine a_goto rfl ?_
      exact a_rm (by omega) (by omega) (hK _ _ _ _ _ _ _ s2 ka1 kb1)
    · refine a_s rfl rfl ?_
      refine a_goto rfl ?_
      have hr3 := s1.ri
      refine a_gV rfl lL_318 mo_X12_led (r_X12_led hr3.so hr3.lw hr3.lg (b2 := true)) rfl rfl rfl ⟨12, _, rfl, rfl, rfl⟩ rfl (fun v' h' hv => ?_)
      obtain ⟨⟨v3, rfl⟩, I3, rfl, f3⟩ := hv
      have s3 := Sy.v s1 f3
      clear f3
      refine a_s6 rfl rfl rfl rfl rfl rfl ?_
      refine a_goto rfl ?_
      exact a_rm (by omega) (by omega) (hK _ _ _ _ _ _ _ s3 ka1 kb1)
  · refine a_s rfl rfl ?_
    refine a_goto rfl ?_
    refine a_l3 rfl rfl rfl ?_
    refine a_callW rfl lL_316 mo_L_led (L_led (S := S) hS hs.1.1 hk1 hk2 (b2 := true)) rfl rfl (ck4 rfl rfl rfl rfl) rfl (fun v' h' hv => ?_) (fun _ _ z => False.elim z)
    obtain ⟨⟨v4, rfl⟩, I4, L4, a4, b4, t4, rfl, f4, ka4, kb4⟩ := hv
    have s4 := Sy.q hs f4
    clear f4
    refine a_s5 rfl rfl rfl rfl rfl rfl ?_
    refine a_l2 rfl rfl rfl ?_
    refine a_l0 rfl rfl rfl ?_
    refine a_l4 rfl rfl rfl ?_
    refine a_s rfl rfl ?_
    refine a_s rfl rfl ?_
    refine a_top (y := nI (i + 1)) (nI_addl i 1) ?_
    refine a_ialdc rfl hx (inI_nI (by omega) (by omega)) ?_
    refine a_l0 rfl rfl rfl ?_
    refine a_l4 rfl rfl rfl ?_
    refine a_s rfl rfl ?_
    refine a_s rfl rfl ?_
    refine a_top (y := nI (i + 2)) (nI_addl i 2) ?_
    refine a_ialdc rfl hx (inI_nI (by omega) (by omega)) ?_
    refine a_if_eq rfl (fun _ => ?_) (fun _ => ?_)
    · refine a_s rfl rfl ?_
      have hr5 := s4.ri
      refine a_gV rfl lL_318 mo_X12_led (r_X12_led hr5.so hr5.lw hr5.lg (b2 := false)) rfl rfl rfl ⟨12, _, rfl, rfl, rfl⟩ rfl (fun v' h' hv => ?_)
      obtain ⟨⟨v5, rfl⟩, I5, rfl, f5⟩ := hv
      have s5 := Sy.v s4 f5
      clear f5
      refine a_s6 rfl rfl rfl rfl rfl rfl ?_
      refine a_goto rfl ?_
      exact a_rm (by omega) (by omega) (hK _ _ _ _ _ _ _ s5 ka4 kb4)
    · refine a_s rfl rfl ?_
      refine a_goto rfl ?_
      have hr6 := s4.ri
      refine a_gV rfl lL_318 mo_X12_led (r_X12_led hr6.so hr6.lw hr6.lg (b2 := true)) rfl rfl rfl ⟨12, _, rfl, rfl, rfl⟩ rfl (fun v' h' hv => ?_)
      obtain ⟨⟨v6, rfl⟩, I6, rfl, f6⟩ := hv
      have s6 := Sy.v s4 f6
      clear f6
      refine a_s6 rfl rfl rfl rfl rfl rfl ?_
      refine a_goto rfl ?_
      exact a_rm (by omega) (by omega) (hK _ _ _ _ _ _ _ s6 ka4 kb4)
theorem op_52 (hS : HdS S) (hx : ScM S LL xs) (h3 : LL ≤ 3072) (hi : i + 6 ≤ LL) : OpOk S i 1842 := by
  intro k1 k2 u5 u6 I L w1 w2 t hs hk1 hk2 hK
  refine a_l1 rfl rfl rfl ?_
  refine a_l0 rfl rfl rfl ?_
  refine a_l4 rfl rfl rfl ?_
  refine a_s rfl rfl ?_
  refine a_s rfl rfl ?_
  refine a_top (y := nI (i + 1)) (nI_addl i 1) ?_
  refine a_ialdc rfl hx (inI_nI (by omega) (by omega)) ?_
  refine a_l0 rfl rfl rfl ?_
  refine a_l4 rfl rfl rfl ?_
  refine a_s rfl rfl ?_
  refine a_s rfl rfl ?_
  refine a_top (y := nI (i + 2)) (nI_addl i 2) ?_
  refine a_ialdc rfl hx (inI_nI (by omega) (by omega)) ?_
  refine a_l3 rfl rfl rfl ?_
  refine a_callW rfl lL_319 mo_L_log (L_log (S := S) hS hs.1.1 hk1 hk2) rfl rfl (ck4 rfl rfl rfl rfl) rfl (fun v' h' hv => ?_) (fun _ _ z => False.elim z)
  obtain ⟨⟨v1, rfl⟩, I1, L1, a1, b1, t1, rfl, f1, ka1, kb1⟩ := hv
  have s1 := Sy.q hs f1
  clear f1
  refine a_s5 rfl rfl rfl rfl rfl rfl ?_
  refine a_l2 rfl rfl rfl ?_
  refine a_l0 rfl rfl rfl ?_
  refine a_l4 rfl rfl rfl ?_
  refine a_s rfl rfl ?_
  refine a_s rfl rfl ?_
  refine a_top (y := nI (i + 1)) (nI_addl i 1) ?_
  refine a_ialdc rfl hx (inI_nI (by omega) (by omega)) ?_
  refine a_l0 rfl rfl rfl ?_
  refine a_l4 rfl rfl rfl ?_
  refine a_s rfl rfl ?_
  refine a_s rfl rfl ?_
  refine a_top (y := nI (i + 2)) (nI_addl i 2) ?_
  refine a_ialdc rfl hx (inI_nI (by omega) (by omega)) ?_
  have hr2 := s1.ri
  refine a_gV rfl lL_321 mo_X12_log (r_X12_log hr2.so hr2.lw hr2.lg) rfl rfl rfl ⟨12, _, rfl, rfl, rfl⟩ rfl (fun v' h' hv => ?_)
  obtain ⟨⟨v2, rfl⟩, I2, rfl, f2⟩ := hv
  have s2 := Sy.v s1 f2
  clear f2
  refine a_s6 rfl rfl rfl rfl rfl rfl ?_
  refine a_goto rfl ?_
  exact a_rm (by omega) (by omega) (hK _ _ _ _ _ _ _ s2 ka1 kb1)
theorem op_53 (hS : HdS S) (hx : ScM S LL xs) (h3 : LL ≤ 3072) (hi : i + 6 ≤ LL) : OpOk S i 1882 := by
  intro k1 k2 u5 u6 I L w1 w2 t hs hk1 hk2 hK
  refine a_l1 rfl rfl rfl ?_
  refine a_l0 rfl rfl rfl ?_
  refine a_l4 rfl rfl rfl ?_
  refine a_s rfl rfl ?_
  refine a_s rfl rfl ?_
  refine a_top (y := nI (i + 1)) (nI_addl i 1) ?_
  refine a_ialdc rfl hx (inI_nI (by omega) (by omega)) ?_
  refine a_eV1 rfl lL_322 mo_X11_seed f_seed rfl rfl rfl ⟨11, _, rfl, rfl, rfl⟩ rfl ?_
  refine a_s rfl rfl ?_
  refine a_l2 rfl rfl rfl ?_
  refine a_l0 rfl rfl rfl ?_
  refine a_l4 rfl rfl rfl ?_
  refine a_s rfl rfl ?_
  refine a_s rfl rfl ?_
  refine a_top (y := nI (i + 1)) (nI_addl i 1) ?_
  refine a_ialdc rfl hx (inI_nI (by omega) (by omega)) ?_
  refine a_eV1 rfl lL_325 mo_X12_seed h_seed rfl rfl rfl ⟨12, _, rfl, rfl, rfl⟩ rfl ?_
  have s2 := Sy.seed hs (x := xs (nI (i + 1)).toNatClampNeg)
  refine a_s rfl rfl ?_
  refine a_goto rfl ?_
  exact a_rm (by omega) (by omega) (hK _ _ _ _ _ _ _ s2 hk1 hk2)
theorem op_54 (hS : HdS S) (hx : ScM S LL xs) (h3 : LL ≤ 3072) (hi : i + 6 ≤ LL) : OpOk S i 1907 := by
  intro k1 k2 u5 u6 I L w1 w2 t hs hk1 hk2 hK
  refine a_l1 rfl rfl rfl ?_
  obtain ⟨n1, fa1, ps1⟩ := Sim.ps (Sy.sim hs)
  refine a_eV1 rfl lL_326 mo_X11_undo (f_undo ps1.2.2.1 ps1.1 ps1.2.2.2.2.1 ps1.2.1) rfl rfl rfl ⟨11, _, rfl, rfl, rfl⟩ rfl ?_
  refine a_s rfl rfl ?_
  refine a_l2 rfl rfl rfl ?_
  refine a_eV1 rfl lL_330 mo_X12_undo (h_undo ((congrFun (unS_hi (by decide)) 7).trans ps1.2.2.2.1) ps1.1) rfl rfl rfl ⟨12, _, rfl, rfl, rfl⟩ rfl ?_
  have s2 := Sy.undo hs ps1
  refine a_s rfl rfl ?_
  refine a_goto rfl ?_
  exact a_rm (by omega) (by omega) (hK _ _ _ _ _ _ _ s2 hk1 hk2)
theorem op_55 (hS : HdS S) (hx : ScM S LL xs) (h3 : LL ≤ 3072) (hi : i + 6 ≤ LL) : OpOk S i 1920 := by
  intro k1 k2 u5 u6 I L w1 w2 t hs hk1 hk2 hK
  refine a_l1 rfl rfl rfl ?_
  refine a_eV0 rfl lL_331 mo_X11_image f_image rfl rfl rfl ⟨11, _, rfl, rfl, rfl⟩ rfl ?_
  refine a_l2 rfl rfl rfl ?_
  refine a_eV0 rfl lL_334 mo_X12_image (r_X12_image (hs.ri.rows fun q hq => imS_hi hq)) rfl rfl rfl ⟨12, _, rfl, rfl, rfl⟩ rfl ?_
  have s2 := Sy.image hs
  refine a_goto rfl ?_
  exact a_rm (by omega) (by omega) (hK _ _ _ _ _ _ _ s2 hk1 hk2)
theorem op_56 (hS : HdS S) (hx : ScM S LL xs) (h3 : LL ≤ 3072) (hi : i + 6 ≤ LL) : OpOk S i 1931 := by
  intro k1 k2 u5 u6 I L w1 w2 t hs hk1 hk2 hK
  refine a_l1 rfl rfl rfl ?_
  refine a_eV1 rfl lL_335 mo_X11_back f_back rfl rfl rfl ⟨11, _, rfl, rfl, rfl⟩ rfl ?_
  refine a_s rfl rfl ?_
  refine a_l2 rfl rfl rfl ?_
  refine a_eV1 rfl lL_338 mo_X12_back h_back rfl rfl rfl ⟨12, _, rfl, rfl, rfl⟩ rfl ?_
  have s2 := Sy.back hs
  refine a_s rfl rfl ?_
  refine a_goto rfl ?_
  exact a_rm (by omega) (by omega) (hK _ _ _ _ _ _ _ s2 hk1 hk2)
theorem op_57 (hS : HdS S) (hx : ScM S LL xs) (h3 : LL ≤ 3072) (hi : i + 6 ≤ LL) : OpOk S i 1944 := by
  intro k1 k2 u5 u6 I L w1 w2 t hs hk1 hk2 hK
  refine a_l1 rfl rfl rfl ?_
  refine a_l0 rfl rfl rfl ?_
  refine a_l4 rfl rfl rfl ?_
  refine a_s rfl rfl ?_
  refine a_s rfl rfl ?_
  refine a_top (y := nI (i + 1)) (nI_addl i 1) ?_
  refine a_ialdc rfl hx (inI_nI (by omega) (by omega)) ?_
  refine a_gV rfl lL_339 mo_X11_count (q_X11_count_200) rfl rfl rfl ⟨11, _, rfl, rfl, rfl⟩ rfl (fun v' h' hv => ?_)
  obtain ⟨⟨v1, rfl⟩, I1, rfl, f1⟩ := hv
  have s1 := Sy.q hs f1
  clear f1
  refine a_s rfl rfl ?_
  refine a_l2 rfl rfl rfl ?_
  refine a_l0 rfl rfl rfl ?_
  refine a_l4 rfl rfl rfl ?_
  refine a_s rfl rfl ?_
  refine a_s rfl rfl ?_
  refine a_top (y := nI (i + 1)) (nI_addl i 1) ?_
  refine a_ialdc rfl hx (inI_nI (by omega) (by omega)) ?_
  have hr2 := s1.ri
  refine a_gV rfl lL_342 mo_X12_count (r_X12_count hr2.so hr2.lw hr2.lg) rfl rfl rfl ⟨12, _, rfl, rfl, rfl⟩ rfl (fun v' h' hv => ?_)
  obtain ⟨⟨v2, rfl⟩, I2, rfl, f2⟩ := hv
  have s2 := Sy.u s1 f2
  clear f2
  refine a_s rfl rfl ?_
  refine a_goto rfl ?_
  exact a_rm (by omega) (by omega) (hK _ _ _ _ _ _ _ s2 hk1 hk2)
end O81
end
section
/-! ===== the law's round and method (printed by program) ===== -/
section L82
variable {S : aS} {LL : Nat} {xs : Nat → Int32}
abbrev L0 : Nat → Nat → Int64 := fun _ _ => 0
def opL : List Nat := [288, 361, 386, 402, 418, 431, 471, 511, 539, 567, 595, 623, 663, 703, 743, 771, 796, 809, 849, 889, 941, 954, 1010, 1038, 1051, 1064, 1092, 1120, 1148, 1176, 1204, 1220, 1236, 1249, 1262, 1275, 1315, 1367, 1380, 1393, 1406, 1446, 1486, 1514, 1527, 1540, 1553, 1581, 1594, 1646, 1702, 1786, 1842, 1882, 1907, 1920, 1931, 1944]
def opAt (x : Int32) : Nat := opL.getD x.toNatClampNeg 1969
theorem sw_all : ∀ n : Nat, n < 64 → swT 40 1929 0 57 #[248, 321, 346, 362, 378, 391, 431, 471, 499, 527, 555, 583, 623, 663, 703, 731, 756, 769, 809, 849, 901, 914, 970, 998, 1011, 1024, 1052, 1080, 1108, 1136, 1164, 1180, 1196, 1209, 1222, 1235, 1275, 1327, 1340, 1353, 1366, 1406, 1446, 1474, 1487, 1500, 1513, 1541, 1554, 1606, 1662, 1746, 1802, 1842, 1867, 1880, 1891, 1904] (nI n).toInt = some (opAt (nI n)) := by decide +kernel
theorem opAt_all : ∀ n, n < 64 → opAt (nI n) = opL.getD n 1969 := by decide +kernel
theorem and63 (x : Int32) : ∃ n : Nat, n < 64 ∧ x &&& 63 = nI n := by
  refine ⟨(x &&& 63).toBitVec.toNat, ?_, ?_⟩
  · have h : (x &&& 63).toBitVec.toNat = x.toBitVec.toNat &&& 63 := by
      rw [Int32.toBitVec_and, BitVec.toNat_and]
      rfl
    rw [h]
    exact Nat.lt_succ_of_le Nat.and_le_right
  · apply Int32.toBitVec_inj.mp
    show _ = (Int32.ofNat _).toBitVec
    rw [Int32.toBitVec_ofNat', BitVec.ofNat_toNat, BitVec.setWidth_eq]
theorem sub6 : ∀ n, n < 3073 → (nI n - 6).toInt = (n : Int) - 6 := by
  intro n hn
  rcases Nat.lt_or_ge n 6 with c | c
  · have h : ∀ n, n < 6 → (nI n - 6).toInt = (n : Int) - 6 := by decide +kernel
    exact h n c
  · rw [show (6 : Int32) = nI 6 from rfl, nI_sub c, nI_toInt (by omega)]
    omega
theorem op_none {i : Nat} : OpOk S i 1969 := fun k1 k2 u5 u6 I L w1 w2 t hs hk1 hk2 hK => a_rm (by omega) (by omega) (hK _ _ _ _ _ _ _ hs hk1 hk2)
theorem ops_0 {i : Nat} (hS : HdS S) (hx : ScM S LL xs) (h3 : LL ≤ 3072) (hi : i + 6 ≤ LL) (n : Nat) (h : 0 ≤ n) (h2 : n < 8) : OpOk S i (opL.getD n 1969) := by
  obtain ⟨k, rfl⟩ := Nat.exists_eq_add_of_le h
  rcases k with _ | _ | _ | _ | _ | _ | _ | _ | k
  · exact op_0 hS hx h3 hi
  · exact op_1 hS hx h3 hi
  · exact op_2 hS hx h3 hi
  · exact op_3 hS hx h3 hi
  · exact op_4 hS hx h3 hi
  · exact op_5 hS hx h3 hi
  · exact op_6 hS hx h3 hi
  · exact op_7 hS hx h3 hi
  · omega
theorem ops_8 {i : Nat} (hS : HdS S) (hx : ScM S LL xs) (h3 : LL ≤ 3072) (hi : i + 6 ≤ LL) (n : Nat) (h : 8 ≤ n) (h2 : n < 16) : OpOk S i (opL.getD n 1969) := by
  obtain ⟨k, rfl⟩ := Nat.exists_eq_add_of_le h
  rcases k with _ | _ | _ | _ | _ | _ | _ | _ | k
  · exact op_8 hS hx h3 hi
  · exact op_9 hS hx h3 hi
  · exact op_10 hS hx h3 hi
  · exact op_11 hS hx h3 hi
  · exact op_12 hS hx h3 hi
  · exact op_13 hS hx h3 hi
  · exact op_14 hS hx h3 hi
  · exact op_15 hS hx h3 hi
  · omega
theorem ops_16 {i : Nat} (hS : HdS S) (hx : ScM S LL xs) (h3 : LL ≤ 3072) (hi : i + 6 ≤ LL) (n : Nat) (h : 16 ≤ n) (h2 : n < 24) : OpOk S i (opL.getD n 1969) := by
  obtain ⟨k, rfl⟩ := Nat.exists_eq_add_of_le h
  rcases k with _ | _ | _ | _ | _ | _ | _ | _ | k
  · exact op_16 hS hx h3 hi
  · exact op_17 hS hx h3 hi
  · exact op_18 hS hx h3 hi
  · exact op_19 hS hx h3 hi
  · exact op_20 hS hx h3 hi
  · exact op_21 hS hx h3 hi
  · exact op_22 hS hx h3 hi
  · exact op_23 hS hx h3 hi
  · omega
theorem ops_24 {i : Nat} (hS : HdS S) (hx : ScM S LL xs) (h3 : LL ≤ 3072) (hi : i + 6 ≤ LL) (n : Nat) (h : 24 ≤ n) (h2 : n < 32) : OpOk S i (opL.getD n 1969) := by
  obtain ⟨k, rfl⟩ := Nat.exists_eq_add_of_le h
  rcases k with _ | _ | _ | _ | _ | _ | _ | _ | k
  · exact op_24 hS hx h3 hi
  · exact op_25 hS hx h3 hi
  · exact op_26 hS hx h3 hi
  · exact op_27 hS hx h3 hi
  · exact op_28 hS hx h3 hi
  · exact op_29 hS hx h3 hi
  · exact op_30 hS hx h3 hi
  · exact op_31 hS hx h3 hi
  · omega
theorem ops_32 {i : Nat} (hS : HdS S) (hx : ScM S LL xs) (h3 : LL ≤ 3072) (hi : i + 6 ≤ LL) (n : Nat) (h : 32 ≤ n) (h2 : n < 40) : OpOk S i (opL.getD n 1969) := by
  obtain ⟨k, rfl⟩ := Nat.exists_eq_add_of_le h
  rcases k with _ | _ | _ | _ | _ | _ | _ | _ | k
  · exact op_32 hS hx h3 hi
  · exact op_33 hS hx h3 hi
  · exact op_34 hS hx h3 hi
  · exact op_35 hS hx h3 hi
  · exact op_36 hS hx h3 hi
  · exact op_37 hS hx h3 hi
  · exact op_38 hS hx h3 hi
  · exact op_39 hS hx h3 hi
  · omega
theorem ops_40 {i : Nat} (hS : HdS S) (hx : ScM S LL xs) (h3 : LL ≤ 3072) (hi : i + 6 ≤ LL) (n : Nat) (h : 40 ≤ n) (h2 : n < 48) : OpOk S i (opL.getD n 1969) := by
  obtain ⟨k, rfl⟩ := Nat.exists_eq_add_of_le h
  rcases k with _ | _ | _ | _ | _ | _ | _ | _ | k
  · exact op_40 hS hx h3 hi
  · exact op_41 hS hx h3 hi
  · exact op_42 hS hx h3 hi
  · exact op_43 hS hx h3 hi
  · exact op_44 hS hx h3 hi
  · exact op_45 hS hx h3 hi
  · exact op_46 hS hx h3 hi
  · exact op_47 hS hx h3 hi
  · omega
theorem ops_48 {i : Nat} (hS : HdS S) (hx : ScM S LL xs) (h3 : LL ≤ 3072) (hi : i + 6 ≤ LL) (n : Nat) (h : 48 ≤ n) (h2 : n < 56) : OpOk S i (opL.getD n 1969) := by
  obtain ⟨k, rfl⟩ := Nat.exists_eq_add_of_le h
  rcases k with _ | _ | _ | _ | _ | _ | _ | _ | k
  · exact op_48 hS hx h3 hi
  · exact op_49 hS hx h3 hi
  · exact op_50 hS hx h3 hi
  · exact op_51 hS hx h3 hi
  · exact op_52 hS hx h3 hi
  · exact op_53 hS hx h3 hi
  · exact op_54 hS hx h3 hi
  · exact op_55 hS hx h3 hi
  · omega
theorem ops_56 {i : Nat} (hS : HdS S) (hx : ScM S LL xs) (h3 : LL ≤ 3072) (hi : i + 6 ≤ LL) (n : Nat) (h : 56 ≤ n) (h2 : n < 64) : OpOk S i (opL.getD n 1969) := by
  obtain ⟨k, rfl⟩ := Nat.exists_eq_add_of_le h
  rcases k with _ | _ | _ | _ | _ | _ | _ | _ | k
  · exact op_56 hS hx h3 hi
  · exact op_57 hS hx h3 hi
  · exact op_none
  · exact op_none
  · exact op_none
  · exact op_none
  · exact op_none
  · exact op_none
  · omega
theorem ops_ok {i : Nat} (hS : HdS S) (hx : ScM S LL xs) (h3 : LL ≤ 3072) (hi : i + 6 ≤ LL) (n : Nat) (h : n < 64) : OpOk S i (opL.getD n 1969) := by
  rcases Nat.lt_or_ge n 8 with c0 | c0
  · exact ops_0 hS hx h3 hi n (Nat.zero_le _) c0
  rcases Nat.lt_or_ge n 16 with c8 | c8
  · exact ops_8 hS hx h3 hi n c0 c8
  rcases Nat.lt_or_ge n 24 with c16 | c16
  · exact ops_16 hS hx h3 hi n c8 c16
  rcases Nat.lt_or_ge n 32 with c24 | c24
  · exact ops_24 hS hx h3 hi n c16 c24
  rcases Nat.lt_or_ge n 40 with c32 | c32
  · exact ops_32 hS hx h3 hi n c24 c32
  rcases Nat.lt_or_ge n 48 with c40 | c40
  · exact ops_40 hS hx h3 hi n c32 c40
  rcases Nat.lt_or_ge n 56 with c48 | c48
  · exact ops_48 hS hx h3 hi n c40 c48
  exact ops_56 hS hx h3 hi n c48 h
set_option maxRecDepth 100000
theorem loop_ok (hS : HdS S) (hx : ScM S LL xs) (h3 : LL ≤ 3072) : ∀ (m i k1 k2 : Nat) (I : Nat → Nat → Int32) (L : Nat → Nat → Int64) (w1 w2 t : Nat), 3078 ≤ i + 6 * m → i ≤ 3078 → Sy I → WK w1 → WK w2 → AW S m_L_main 1050 QM XM (k1 + 4 * m) (k2 + 24 * m) 23 [some (.ref 199), some (.ref 200), some (.ref 420), some (.ref 431), some (.int (nI i)), none, none] [] (hp I L w1 w2 t) := by
  intro m
  induction m with
  | zero =>
    intro i k1 k2 I L w1 w2 t h1 h2 hs hk1 hk2
    refine a_l4 rfl rfl rfl ?_
    refine a_l0 rfl rfl rfl ?_
    refine a_lenc rfl hx rfl ?_
    refine a_s rfl rfl ?_
    refine a_s rfl rfl ?_
    refine a_ic_gt rfl (fun c => ?_) (fun c => ?_)
    · refine a_s rfl rfl ?_
      exact a_zret rfl rfl rfl rfl
    · exfalso
      have this : (nI i).toInt ≤ (nI LL - 6).toInt := Int32.le_iff_toInt_le.mp (Int32.not_lt.mp c)
      rw [sub6 LL (by omega), nI_toInt (by omega)] at this
      omega
  | succ m ih =>
    intro i k1 k2 I L w1 w2 t h1 h2 hs hk1 hk2
    refine a_l4 rfl rfl rfl ?_
    refine a_l0 rfl rfl rfl ?_
    refine a_lenc rfl hx rfl ?_
    refine a_s rfl rfl ?_
    refine a_s rfl rfl ?_
    refine a_ic_gt rfl (fun c => ?_) (fun c => ?_)
    · refine a_s rfl rfl ?_
      exact a_zret rfl rfl rfl rfl
    · have hi : i + 6 ≤ LL := by
        have this : (nI i).toInt ≤ (nI LL - 6).toInt := Int32.le_iff_toInt_le.mp (Int32.not_lt.mp c)
        rw [sub6 LL (by omega), nI_toInt (by omega)] at this
        omega
      refine a_l0 rfl rfl rfl ?_
      refine a_l4 rfl rfl rfl ?_
      refine a_ialdc rfl hx (inI_nI (by omega) (by omega)) ?_
      refine a_s rfl rfl ?_
      refine a_s rfl rfl ?_
      obtain ⟨n, hn, e⟩ := and63 (xs (nI i).toNatClampNeg)
      refine a_top (y := nI n) e ?_
      refine a_tsw (tg := opAt (nI n)) rfl (sw_all n hn) (by decide) ?_
      rw [opAt_all n hn]
      refine a_rm (k1 := k1 + 4 * m + 4) (k2 := k2 + 24 * m + 24) (by omega) (by omega) (ops_ok hS hx h3 hi n hn _ _ _ _ _ _ _ _ _ hs hk1 hk2 ?_)
      intro u5 u6 I2 L2 w3 w4 t2 hs2 hk3 hk4
      refine a_i4 rfl rfl rfl ?_
      refine a_goto rfl ?_
      exact a_less (ih (i + 6) k1 k2 I2 L2 w3 w4 t2 (by omega) (by omega) hs2 hk3 hk4) ⟨rfl, rfl, rfl, rfl, congrArg (fun z => some (Value.int z)) (nI_addl i 6), trivial⟩
theorem Tp_0 : Tp I0 := ⟨rfl, fun k _ => ⟨128, by decide, rfl⟩, rfl, rfl⟩
theorem Rg_0 : Rg (I0 421) := Rg.of (np := 0) (nd := 0) (by decide) (by decide) rfl rfl ⟨⟨0, by decide, rfl⟩, ⟨1, by decide, by decide, rfl⟩, ⟨0, by decide, rfl⟩, ⟨0, by decide, rfl⟩, ⟨2, by decide, by decide, rfl⟩, ⟨3, by decide, rfl⟩⟩ (fun p hp => absurd hp (Nat.not_lt_zero _)) (fun d hd => absurd hd (Nat.not_lt_zero _))
theorem Sd_0 : Sd I0 235 (I0 421) := ⟨by decide +kernel, by decide +kernel, by decide +kernel⟩
theorem Sim_0 : Sim I0 := ⟨⟨Sd_0, ⟨0, 0, by decide, by decide, rfl, rfl, rfl, fun k hk => absurd hk (Nat.not_lt_zero _)⟩, Rg_0⟩, ⟨0, 0, fun _ => 0, fun _ => 0, fun _ => 0, ⟨⟨Or.inl ⟨rfl, rfl⟩, by decide, by decide, fun i hi => absurd hi (Nat.not_lt_zero _), fun i hi => absurd hi (Nat.not_lt_zero _)⟩, ⟨Or.inl ⟨rfl, rfl⟩, by decide, by decide, fun i hi => absurd hi (Nat.not_lt_zero _), fun i hi => absurd hi (Nat.not_lt_zero _)⟩, fun i hi => absurd hi (Nat.not_lt_zero _), ⟨fun _ => rfl, fun _ => rfl⟩⟩, by decide, fun i hi => absurd hi (Nat.not_lt_zero _)⟩, Or.inl ⟨rfl, rfl⟩, 0, 0, by decide, by decide, rfl, rfl, rfl, fun i hi => absurd hi (Nat.not_lt_zero _)⟩
theorem Sy_0 : Sy I0 := by
  refine ⟨⟨fun a ha h2 => ⟨0, by decide, ?_⟩, Tp_0⟩, ⟨Sim_0, rfl⟩, 0, by decide, rfl, rfl⟩
  revert a
  decide +kernel
theorem main_ok (hS : HdS S) (hx : ScM S LL xs) (h3 : LL ≤ 3072) : AW S m_L_main 1050 QM XM 601024 7293034 0 (entL [.ref 199] 7) [] ((fun _ => (0, 0)), (fun _ _ => 0), L0, (fun _ _ => 0), 200) := by
  refine a_eq (ls' := [some (.ref 199), none, none, none, none, none, none]) (h' := ((fun _ => (0, 0)), (fun _ _ => 0), L0, (fun _ _ => 0), 200)) rfl rfl ?_
  have f : Fr (fun _ _ => 0) L0 (fun _ _ => 0) 200 := fun p hp => ⟨fun _ => rfl, fun _ => rfl, fun _ => rfl⟩
  refine a_new rfl nL_8 rfl rfl rfl f.i f.r ?_
  refine a_s rfl rfl ?_
  replace f := f.mono (t' := 201) (by decide)
  refine a_mI rfl lL_129 mo_X11_init (sp_X11_init upK_self f) rfl rfl rfl rfl ?_
  replace f := frX11 (z := 0) f
  refine a_s1 rfl rfl rfl rfl rfl rfl ?_
  refine a_new rfl nL_130 rfl rfl rfl f.i f.r ?_
  refine a_s rfl rfl ?_
  replace f := f.mono (t' := 421) (by decide)
  refine a_mI rfl lL_132 mo_X12_init (sp_X12_init upK_self f) rfl rfl rfl rfl ?_
  replace f := frX12 (z := 0) f
  refine a_s2 rfl rfl rfl rfl rfl rfl ?_
  refine a_s rfl rfl ?_
  refine a_newarr (N := 1) (tg := 2) rfl rfl rfl ar_long (by decide) (by decide) rfl rfl rfl rfl f.i f.l ?_
  refine a_s3 rfl rfl rfl rfl rfl rfl ?_
  refine a_s rfl rfl ?_
  refine a_s4 rfl rfl rfl rfl rfl rfl ?_
  refine a_eq (ls' := [some (.ref 199), some (.ref 200), some (.ref 420), some (.ref 431), some (.int (nI 0)), none, none]) (h' := hp I0 L0 0 0 432) rfl (by show (Kz, I0, L0, Rz, 432) = _; rw [Kz_eq, Rz_eq]) ?_
  exact a_rm (by decide) (by decide) (loop_ok hS hx h3 513 0 0 0 I0 L0 0 0 432 (by decide) (by decide) Sy_0 WK.nul WK.nul)
end L82
end
