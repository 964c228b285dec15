/-! ===== law of both sides with finer frames; both laws alike behind a text (printed by program) ===== -/
section T79zq
variable {S : aS} {I J : Nat → Nat → Int32} {L : Nat → Nat → Int64} {w1 w2 t : Nat} {e b nd np : Nat} {T W K : Nat → Int32} {o : List Int32} {ls : List LnT}
set_option maxRecDepth 100000
/-- what law may change in the class -/
def sLf (q k : Nat) : Bool := sW q k || ((Nat.beq q 200 && Nat.beq k 3) || (Nat.beq q 201 && Nat.beq k 1))
def sLw (q k : Nat) : Bool := sLf q k || ((Nat.beq q 200 && Nat.beq k 13) || (Nat.ble 246 q && Nat.ble q 251))
theorem sW_sLf : ∀ q k, sW q k = true → sLf q k = true := fun q k h => by
  unfold sLf
  rw [h]
  rfl
theorem sLf_sLw : ∀ q k, sLf q k = true → sLw q k = true := fun q k h => by
  unfold sLw
  rw [h]
  rfl
theorem sLw_l {q k : Nat} (h1 : 246 ≤ q) (h2 : q ≤ 251) : sLw q k = true := by
  unfold sLw
  rw [Nat.ble_eq_true_of_le h1, Nat.ble_eq_true_of_le h2]
  cases sLf q k <;> cases (Nat.beq q 200 && Nat.beq k 13) <;> rfl
theorem sLf_hi {q k : Nat} (h : 235 ≤ q) : sLf q k = false := by
  have n : ∀ {x : Nat}, x < 235 → Nat.beq q x = false := fun hx => beqF (by omega)
  have m : ∀ {x : Nat}, x < 235 → Nat.ble q x = false := fun {x} hx => by
    cases hb : Nat.ble q x with
    | false => rfl
    | true => exact absurd (Nat.le_of_ble_eq_true hb) (by omega)
  simp [sLf, sW, sC, n, m]
theorem sLw_hi {q k : Nat} (h : 235 ≤ q) (h2 : q < 246 ∨ 251 < q) : sLw q k = false := by
  unfold sLw
  rw [sLf_hi h, beqF (show q ≠ 200 by omega)]
  rcases h2 with h2 | h2
  · have e1 : Nat.ble 246 q = false := by
      cases hb : Nat.ble 246 q with
      | false => rfl
      | true => exact absurd (Nat.le_of_ble_eq_true hb) (by omega)
    rw [e1]
    rfl
  · have e1 : Nat.ble q 251 = false := by
      cases hb : Nat.ble q 251 with
      | false => rfl
      | true => exact absurd (Nat.le_of_ble_eq_true hb) (by omega)
    rw [e1]
    cases Nat.ble 246 q <;> rfl
theorem h_lawS (hw : WdS S) (hr : RI nd np I) (hbt : BtT T) (hT : I 426 = T) (h9 : I 420 9 = nI e) (h4 : e ≤ 400) : Sp S m_X12_law 62 0 0 [.ref 420] (hp I L w1 w2 t) (fun v h' => v = some (.int (if (lawP T e).1 = true then nI (lawP T e).2.2.2.length else 0)) ∧ ∃ J, h' = hp J L w1 w2 t ∧ Us nd np I J ∧ J 420 0 = (if (lawP T e).1 = true then 0 else 1) ∧ J 420 14 = (if (lawP T e).1 = true then -1 else nI (lawP T e).2.1) ∧ (∀ q, q ≠ 420 → q ≠ 421 → J q = I q) ∧ LwJ (lawP T e) I J ∧ ((lawP T e).1 = true → J 420 7 = 0 ∧ ∀ k, k < 335 → k ≠ 3 → J 421 k = I 421 k) ∧ ((lawP T e).1 = false → J 420 7 = I 420 7)) nX := by
  refine Sp_of ok_X12_law rfl rfl ?_
  show AW S m_X12_law 62 _ _ 0 0 0 [some (.ref 420), none, none] [] (hp I L w1 w2 t)
  have fU : Fm sL I (usH I) := by
    unfold usH
    exact Fm.up (Fm.up (Fm.up (Fm.up Fm.rf rfl) rfl) rfl) rfl
  have u0 : usH I 420 0 = 0 := by
    unfold usH
    rw [up2_ne (Or.inr (by decide)), up2_ne (Or.inr (by decide)), up2_ne (Or.inr (by decide))]
    exact up2_at
  refine a_l0 rfl rfl rfl ?_
  refine a_s rfl rfl ?_
  refine a_gV rfl lX12_239 mo_X12_readAll (h_readAllL hw hbt hT h9 h4) rfl rfl rfl ⟨12, _, rfl, rfl, rfl⟩ rfl (fun v' h' hv => ?_)
  obtain ⟨rfl, J, rfl, hF, hn, hy⟩ := hv
  have hG : GL I J := ⟨Fm.tr fU (Fm.mo hF sG_sL), (hF 420 9 rfl).trans usH_9⟩
  have j0 : J 420 0 = 0 := (hF 420 0 rfl).trans u0
  have other : ∀ q, q ≠ 420 → q ≠ 421 → J q = I q := fun q g1 g2 => by
    rw [show J q = usH I q from funext fun k => hF q k (by unfold sG sR; rw [beqF g1, beqF g2]; rfl), usH_row g1]
  rcases er : lawP T e with ⟨z, b1, o1, l1⟩
  rw [er] at hn hy
  have lok := lawP_ok (T := T) (e := e)
  rw [er] at lok
  cases z with
  | false =>
    refine a_top (y := (-1)) (rfl) ?_
    refine a_s1 rfl rfl rfl rfl rfl rfl ?_
    refine a_l0 rfl rfl rfl ?_
    refine a_l1 rfl rfl rfl ?_
    refine a_if_ge rfl (fun c => absurd c (by decide)) (fun _ => ?_)
    refine a_l0 rfl rfl rfl ?_
    refine a_getiv (v := nI b1) rfl gfX12_91_12 rfl (hn rfl) ?_
    refine a_goto rfl ?_
    refine a_puti rfl pfX12_33_12 rfl ?_
    refine a_l0 rfl rfl rfl ?_
    refine a_l1 rfl rfl rfl ?_
    refine a_if_ge rfl (fun c => absurd c (by decide)) (fun _ => ?_)
    refine a_s rfl rfl ?_
    refine a_goto rfl ?_
    refine a_s rfl rfl ?_
    refine a_eV1 rfl lX12_243 mo_X12_throwsIf (h_throwsIf (z := true)) rfl rfl rfl ⟨12, _, rfl, rfl, rfl⟩ rfl ?_
    rw [if_pos rfl]
    refine a_if_eq rfl (fun c => absurd c (by decide)) (fun _ => ?_)
    refine a_s rfl rfl ?_
    have g2 : GL I (up2 (up2 J 420 14 (nI b1)) 420 0 1) := ⟨Fm.up (Fm.up hG.1 rfl) rfl, (up2_ne (Or.inr (by decide))).trans ((up2_ne (Or.inr (by decide))).trans hG.2)⟩
    refine a_iret rfl rfl ⟨rfl, _, rfl, Us.same hr g2, ?_, ?_, ?_, ⟨?_, ?_⟩, (fun z => by cases z), fun _ => ?_⟩
    · exact up2_at
    · exact (up2_ne (Or.inr (by decide))).trans up2_at
    · intro q g1 g3
      rw [up2_row g1, up2_row g1]
      exact other q g1 g3
    · exact fun z => by cases z
    · intro _ k hk
      rw [up2_row (by decide), up2_row (by decide), hF 421 k (sG_lo hk), usH_row (by decide)]
    · exact (up2_ne (Or.inr (by decide))).trans ((up2_ne (Or.inr (by decide))).trans (hG.1 420 7 rfl))
  | true =>
    refine a_top (y := nI l1.length) (rfl) ?_
    obtain ⟨x1, x2, x3, x4, x5⟩ := hy rfl
    have x4 : l1.length ≤ 12 := x4
    have x5 : o1.length ≤ 400 := x5
    refine a_s1 rfl rfl rfl rfl rfl rfl ?_
    refine a_l0 rfl rfl rfl ?_
    refine a_l1 rfl rfl rfl ?_
    refine a_if_ge rfl (fun _ => ?_) (fun c => absurd (nI_0le (k := l1.length) (by omega)) c)
    refine a_s rfl rfl ?_
    refine a_puti rfl pfX12_33_12 rfl ?_
    refine a_l0 rfl rfl rfl ?_
    refine a_l1 rfl rfl rfl ?_
    refine a_if_ge rfl (fun _ => ?_) (fun c => absurd (nI_0le (k := l1.length) (by omega)) c)
    refine a_s rfl rfl ?_
    refine a_s rfl rfl ?_
    refine a_eV1 rfl lX12_243 mo_X12_throwsIf (h_throwsIf (z := false)) rfl rfl rfl ⟨12, _, rfl, rfl, rfl⟩ rfl ?_
    rw [if_neg Bool.false_ne_true]
    generalize hK : up2 J 420 14 (-1) = K
    have gK : GL I K := by
      subst hK
      exact ⟨Fm.up hG.1 rfl, (up2_ne (Or.inr (by decide))).trans hG.2⟩
    have eK : K 421 = J 421 := by
      subst hK
      exact up2_row (by decide)
    have k0 : K 420 0 = 0 := by
      subst hK
      exact (up2_ne (Or.inr (by decide))).trans j0
    have k14 : K 420 14 = -1 := by
      subst hK
      exact up2_at
    have kother : ∀ q, q ≠ 420 → q ≠ 421 → K q = I q := fun q g1 g2 => by
      subst hK
      rw [up2_row g1]
      exact other q g1 g2
    have fin := Us.law (nl := l1.length) hr gK x4 x5 (by rw [eK]; exact LD_of x2 x3 (lok rfl))
    refine a_if_eq rfl (fun _ => ?_) (fun c => absurd rfl c)
    refine a_l0 rfl rfl rfl ?_
    refine a_getq rfl gfX12_13_12 rfl (rfl) ?_
    refine a_s rfl rfl ?_
    refine a_l1 rfl rfl rfl ?_
    refine a_iastv (k := 1184) rfl (n := 2033) rfl ⟨by decide, by decide⟩ rfl ?_
    refine a_s rfl rfl ?_
    refine a_s2 rfl rfl rfl rfl rfl rfl ?_
    refine a_forE (n := 849) (fun j => [some (.ref 420), some (.int (nI l1.length)), some (.int (nI j))]) (fun j => hp (cpR (up2 K 421 1184 (nI l1.length)) 421 335 421 1184 j) L w1 w2 t) (by simp [lsub, nI_0]) (by rw [cpR_0]) ?_ (fun j hj ih => ?_)
    · refine a_l2 rfl rfl rfl ?_
      refine a_s rfl rfl ?_
      refine a_ic_ge rfl (fun _ => ?_) (fun c => absurd (Int32.le_refl _) c)
      refine a_l0 rfl rfl rfl ?_
      refine a_getq rfl gfX12_13_12 rfl (rfl) ?_
      refine a_s rfl rfl ?_
      refine a_s rfl rfl ?_
      refine a_iastv (k := 3) rfl (n := 2033) rfl ⟨by decide, by decide⟩ rfl ?_
      refine a_l0 rfl rfl rfl ?_
      refine a_s rfl rfl ?_
      refine a_puti rfl pfX12_53_12 rfl ?_
      refine a_l1 rfl rfl rfl ?_
      have r0 : ∀ k, k ≠ 7 → lawH K l1.length 420 k = K 420 k := fun k hk => by
        unfold lawH
        rw [up2_ne (Or.inr hk), up2_row (by decide), cpR_row (by decide), up2_row (by decide)]
      refine a_iret rfl rfl ⟨rfl, _, rfl, fin, ?_, ?_, ?_, ⟨?_, ?_⟩, (fun _ => ⟨?_, fun k k1 k2 => ?_⟩), (fun z => by cases z)⟩
      · exact (r0 0 (by decide)).trans k0
      · exact (r0 14 (by decide)).trans k14
      · intro q g1 g2
        show lawH K l1.length q = I q
        unfold lawH
        rw [up2_row g1, up2_row g2, cpR_row g2, up2_row g2]
        exact kother q g1 g2
      · refine fun _ => ⟨?_, ?_, J 421, x2, x3, fun k k1 k2 => ?_⟩
        · show lawH K l1.length 421 3 = 1
          unfold lawH
          rw [up2_row (by decide)]
          exact up2_at
        · show lawH K l1.length 421 335 = nI l1.length
          unfold lawH
          rw [up2_row (by decide), u2_lo (by decide), show 335 = 335 + 0 by omega, cpR_in (by decide)]
          exact up2_at
        · show lawH K l1.length 421 (335 + k) = _
          unfold lawH
          rw [up2_row (by decide), u2_lo (by omega), cpR_in k2, u2_lo (by omega), eK, Nat.add_comm]
      · exact fun z => by cases z
      · show lawH K l1.length 420 7 = 0
        unfold lawH
        exact up2_at
      · show lawH K l1.length 421 k = I 421 k
        unfold lawH
        rw [up2_row (by decide), u2_lo k2, cpR_out (by omega), u2_lo (by omega), eK]
        exact hG.1 421 k (sL_lo (by omega))
    · refine a_l2 rfl rfl rfl ?_
      refine a_s rfl rfl ?_
      refine a_ic_ge rfl (fun c => absurd c (nI_ge (b := 849) hj (by omega))) (fun _ => ?_)
      refine a_l0 rfl rfl rfl ?_
      refine a_getq rfl gfX12_13_12 rfl (rfl) ?_
      refine a_s rfl rfl ?_
      refine a_l2 rfl rfl rfl ?_
      refine a_s rfl rfl ?_
      refine a_top (y := nI (335 + j)) (nI_addl 335 j) ?_
      refine a_l0 rfl rfl rfl ?_
      refine a_getq rfl gfX12_13_12 rfl (rfl) ?_
      refine a_s rfl rfl ?_
      refine a_l2 rfl rfl rfl ?_
      refine a_s rfl rfl ?_
      refine a_top (y := nI (1184 + j)) (nI_addl 1184 j) ?_
      refine a_ialdv (v := up2 K 421 1184 (nI l1.length) 421 (j + 1184)) rfl (n := 2033) rfl (inI_nI (by omega) (by omega)) (by rw [nI_clamp (by omega), cpR_out (by omega), Nat.add_comm]) ?_
      refine a_iastv (k := 335 + j) rfl (n := 2033) rfl (inI_nI (by omega) (by omega)) (nI_clamp (by omega)) ?_
      rw [cpR_succ]
      refine a_i2 rfl rfl rfl ?_
      refine a_goto rfl ?_
      exact a_back ih (by simp [lsub, nI_1]) rfl
theorem f_lawS (hw : WdS S) (he : I 201 1 = nI e) (h4 : e ≤ 400) (hbt : BtT T) (hT : I 202 = T) (hm : I 220 1 = 12) : Sp S m_X11_law 21 1 6 [.ref 200] (hp I L w1 w2 t) (fun v h' => v = some (.int (nI (lawP T e).2.2.2.length)) ∧ (lawP T e).1 = true ∧ ∃ J w, h' = hp J L w1 w t ∧ WK w ∧ Mt0 I J ∧ LwC (lawP T e) J ∧ Fm sLw I J ∧ (lawP T e).2.2.2.length ≤ 12 ∧ (lawP T e).2.2.1.length ≤ 400) (fun E h' => E = exN 1 ∧ (lawP T e).1 = false ∧ ∃ J w, h' = hp J L w1 w 0 ∧ WK w ∧ Mt0 I J ∧ J 200 3 = nI (lawP T e).2.1 ∧ Fm sLf I J) := by
  refine Sp_of ok_X11_law rfl rfl ?_
  show AW S m_X11_law 21 _ _ 1 6 0 [some (.ref 200)] [] (hp I L w1 w2 t)
  refine a_l0 rfl rfl rfl ?_
  refine a_getq rfl gfX11_26_11 rfl (rfl) ?_
  refine a_getq rfl gfX11_98_3 rfl (rfl) ?_
  refine a_eV0 rfl lX11_100 mo_X2_clear f_clear rfl rfl rfl ⟨2, _, rfl, rfl, rfl⟩ rfl ?_
  refine a_l0 rfl rfl rfl ?_
  refine a_l0 rfl rfl rfl ?_
  refine a_getq rfl gfX11_26_11 rfl (rfl) ?_
  refine a_l0 rfl rfl rfl ?_
  refine a_getq rfl gfX11_10_11 rfl (rfl) ?_
  have g1 : ∀ q, q ≠ 226 → up2 (up2 I 226 0 0) 226 1 0 q = I q := fun q hq => by rw [up2_row hq, up2_row hq]
  refine a_callU rfl lu_103 dc_readLines mo_X8_readLines hx_rl (f_readLines hw ((congrFun (g1 201 (by decide)) 1).trans he) h4 (by rw [g1 202 (by decide), hT]; exact hbt) ((congrFun (g1 220 (by decide)) 1).trans hm) ((up2_ne (Or.inr (by decide))).trans up2_at) up2_at) rfl rfl rfl ⟨3, _, rfl, rfl, rfl⟩ rfl (fun v' h' hv => ?_) (fun _ _ z => False.elim z)
  rw [g1 202 (by decide), hT] at hv
  obtain ⟨rfl, J, w, rfl, hww, hF, hy⟩ := hv
  have f0 : Fm sLf I J := Fm.tr (Fm.up (Fm.up Fm.rf rfl) rfl) (Fm.mo hF sW_sLf)
  have fM : Mt I J := Mt.of (Fm.tr (Fm.up (Fm.up Fm.rf rfl) rfl) (Fm.mo hF sW_sM))
  rcases er : lawP T e with ⟨z, b1, o1, l1⟩
  rw [er] at hy
  cases z with
  | false =>
    rw [if_neg Bool.false_ne_true]
    refine a_puti rfl pfX11_30_11 rfl ?_
    refine a_l0 rfl rfl rfl ?_
    refine a_getq rfl gfX11_10_11 rfl (rfl) ?_
    refine a_s rfl rfl ?_
    refine a_puti rfl pfX11_68_7 rfl ?_
    have fM0 : Mt0 I (up2 (up2 J 200 3 (nI b1)) 201 1 0) := Mt0.mk (Mt.fm fM (Fm.up Fm.rf rfl))
    have e3 : up2 (up2 J 200 3 (nI b1)) 201 1 0 200 3 = nI b1 := (congrFun (up2_row (by decide)) 3).trans up2_at
    refine a_l0 rfl rfl rfl ?_
    refine a_getiv (v := nI b1) rfl gfX11_30_11 rfl (e3) ?_
    refine a_s rfl rfl ?_
    have hb1 : b1 < 2 ^ 31 := by
      have := lawP_le (T := T) (e := e)
      rw [er] at this
      have this : b1 ≤ e := this
      omega
    refine a_ic_eq rfl (fun c => absurd c ?_) (fun _ => ?_)
    · intro z
      have := nI_pos hb1
      rw [z] at this
      exact this (by decide)
    exact a_throw rfl rfl rfl rfl tX11_iae rfl rfl rfl rfl rfl ⟨rfl, rfl, _, w, rfl, hww, fM0, e3, Fm.up (Fm.up f0 rfl) rfl⟩
  | true =>
    rw [if_pos rfl]
    obtain ⟨y1, y2, y3, y4, y5, y6⟩ := hy rfl
    refine a_puti rfl pfX11_30_11 rfl ?_
    refine a_l0 rfl rfl rfl ?_
    refine a_getq rfl gfX11_10_11 rfl (rfl) ?_
    refine a_s rfl rfl ?_
    refine a_puti rfl pfX11_68_7 rfl ?_
    have fM0 : Mt0 I (up2 (up2 J 200 3 (-1)) 201 1 0) := Mt0.mk (Mt.fm fM (Fm.up Fm.rf rfl))
    refine a_l0 rfl rfl rfl ?_
    refine a_getiv (v := (-1)) rfl gfX11_30_11 rfl ((congrFun (up2_row (by decide)) 3).trans up2_at) ?_
    refine a_s rfl rfl ?_
    refine a_ic_eq rfl (fun _ => ?_) (fun c => absurd rfl c)
    refine a_l0 rfl rfl rfl ?_
    refine a_getq rfl gfX11_44_11 rfl (rfl) ?_
    refine a_l0 rfl rfl rfl ?_
    refine a_getq rfl gfX11_26_11 rfl (rfl) ?_
    refine a_getq rfl gfX11_98_3 rfl (rfl) ?_
    refine a_eV0 rfl lX11_104 mo_X2_copyFrom (sp_X2_copyFrom (a := 246) (b := 226) (by decide) (by decide) (by decide)) rfl rfl rfl ⟨2, _, rfl, rfl, rfl⟩ rfl ?_
    refine a_l0 rfl rfl rfl ?_
    refine a_s rfl rfl ?_
    refine a_puti rfl pfX11_95_11 rfl ?_
    have fM1 : Mt0 I (up2 (cpL (up2 (up2 J 200 3 (-1)) 201 1 0) 246 226) 200 13 0) := Mt0.fm (Mt0.fm fM0 (Fm.cl (Fm.rf (s := sM)) (by decide) Fm_l246)) (Fm.up Fm.rf rfl)
    have r0 : ∀ k, up2 (cpL (up2 (up2 J 200 3 (-1)) 201 1 0) 246 226) 200 13 0 246 k = cpL (up2 (up2 J 200 3 (-1)) 201 1 0) 246 226 246 k := fun k => congrFun (up2_row (by decide)) k
    have e0 : up2 (cpL (up2 (up2 J 200 3 (-1)) 201 1 0) 246 226) 200 13 0 246 0 = nI l1.length := by
      rw [r0]
      unfold cpL
      rw [up2_at, up2_row (by decide), up2_row (by decide)]
      exact y3
    have ri : ∀ i, i < 5 → up2 (cpL (up2 (up2 J 200 3 (-1)) 201 1 0) 246 226) 200 13 0 (247 + i) = J (227 + i) := fun i hi => by
      rw [up2_row (by omega)]
      unfold cpL
      rw [up2_row (by omega), show 247 + i = 246 + 1 + i from rfl, cpS_in hi, up2_row (by omega), up2_row (by omega)]
    refine a_l0 rfl rfl rfl ?_
    refine a_getq rfl gfX11_44_11 rfl (rfl) ?_
    refine a_getiv (v := nI l1.length) rfl gfX11_107_2 rfl (e0) ?_
    have f1 : Fm sLw I (up2 (cpL (up2 (up2 J 200 3 (-1)) 201 1 0) 246 226) 200 13 0) := Fm.up (Fm.cl (Fm.mo (Fm.up (Fm.up f0 rfl) rfl) sLf_sLw) rfl fun i k hi => sLw_l (by omega) (by omega)) rfl
    refine a_iret rfl rfl ⟨rfl, rfl, _, w, rfl, hww, fM1, ⟨?_, up2_at, e0, ?_, ?_⟩, f1, y5, y6⟩
    · rw [up2_ne (Or.inr (by decide))]
      unfold cpL
      rw [up2_row (by decide), cpS_out (by decide), up2_row (by decide)]
      exact up2_at
    · rw [show (247 : Nat) = 247 + 0 from rfl, show (248 : Nat) = 247 + 1 from rfl, show (249 : Nat) = 247 + 2 from rfl, show (250 : Nat) = 247 + 3 from rfl, ri 0 (by decide), ri 1 (by decide), ri 2 (by decide), ri 3 (by decide)]
      exact y4
    · rw [show (251 : Nat) = 247 + 4 from rfl, ri 4 (by decide)]
      exact y2
/-- the numbers of a law's lines -/
def LnB (ls : List LnT) : Prop := ∀ i, i < ls.length → Nb (lnAt ls i).2.1 60
theorem LnB.ad {k v : Int32} {x y : Nat} (h : LnB ls) (hv : Nb v 60) : LnB ((k, v, x, y) :: ls) := fun i hi => by
  have hi : i < ls.length + 1 := hi
  by_cases c : i = ls.length
  · rw [show lnAt ((k, v, x, y) :: ls) i = (k, v, x, y) from if_pos c]
    exact hv
  · rw [show lnAt ((k, v, x, y) :: ls) i = lnAt ls i from if_neg c]
    exact h i (by omega)
theorem lnP_nb (hz : (lnP T e b o).1 = true) : Nb (nm T e (nx T e b) 0 60) 60 := by
  unfold lnP at hz
  by_cases c1 : kndP T e b = -1
  · rw [if_pos c1] at hz
    cases hz
  rw [if_neg c1] at hz
  by_cases c2 : nm T e (nx T e b) 0 60 = -1
  · rw [if_pos c2] at hz
    cases hz
  exact Nc.nb (nm_rg (T := T) (e := e) (b := nx T e b) (l := 0) (m := 60) (by decide) (by decide) c2)
theorem lnsP_nb : ∀ (f b : Nat) (o : List Int32) (ls : List LnT), LnB ls → (lnsP T e f b o ls).1 = true → LnB (lnsP T e f b o ls).2.2.2 := by
  intro f
  induction f with
  | zero => exact fun b o ls _ z => by cases z
  | succ f ih =>
    intro b o ls h hz
    rw [lnsP_s] at hz ⊢
    by_cases c1 : (lnP T e b o).1 = true
    · rw [if_pos c1] at hz ⊢
      have h2 : LnB (lnV T e b o (lnP T e b o).2.2 :: ls) := LnB.ad h (lnP_nb c1)
      by_cases c2 : (lnP T e b o).2.1 < e
      · rw [if_pos c2] at hz ⊢
        by_cases c3 : sg T e (lnP T e b o).2.1 59 = true
        · rw [if_pos c3] at hz ⊢
          exact ih _ _ _ h2 hz
        · rw [if_neg c3] at hz
          cases hz
      · rw [if_neg c2]
        exact h2
    · rw [if_neg c1] at hz
      cases hz
theorem lawP_nb (hz : (lawP T e).1 = true) : LnB (lawP T e).2.2.2 := by
  have h0 : LnB [] := fun i hi => absurd hi (Nat.not_lt_zero _)
  unfold lawP at hz ⊢
  by_cases c : bg T e 0 < e
  · rw [if_pos c] at hz ⊢
    exact lnsP_nb _ _ _ _ h0 hz
  · rw [if_neg c]
    exact h0
theorem LnL.at {f0 f1 f2 f3 : Nat → Int32} : ∀ {r : List LnT}, LnL f0 f1 f2 f3 r → ∀ i, i < r.length → f0 i = (lnAt r i).1 ∧ f1 i = (lnAt r i).2.1 ∧ f2 i = nI (lnAt r i).2.2.1 ∧ f3 i = nI (lnAt r i).2.2.2 := by
  intro r
  induction r with
  | nil => exact fun _ i hi => absurd hi (Nat.not_lt_zero _)
  | cons x r ih =>
    intro h i hi
    have hi : i < r.length + 1 := hi
    by_cases c : i = r.length
    · rw [show lnAt (x :: r) i = x from if_pos c, c]
      exact h.1
    · rw [show lnAt (x :: r) i = lnAt r i from if_neg c]
      exact ih h.2 i (by omega)
theorem RowL.at {f : Nat → Int32} : ∀ {r : List Int32}, RowL f r → ∀ i, i < r.length → f i = cdL r i := by
  intro r
  induction r with
  | nil => exact fun _ i hi => absurd hi (Nat.not_lt_zero _)
  | cons x r ih =>
    intro h i hi
    have hi : i < r.length + 1 := hi
    by_cases c : i = r.length
    · rw [show cdL (x :: r) i = x from if_pos c, c]
      exact h.1
    · rw [show cdL (x :: r) i = cdL r i from if_neg c]
      exact ih h.2 i (by omega)
/-- both laws are alike behind the same text -/
theorem Nl.of (hk : LsOk o ls) (h12 : ls.length ≤ 12) (h400 : o.length ≤ 400) (hB : LnB ls) (c0 : J 246 0 = nI ls.length) (c1 : LnL (J 247) (J 248) (J 249) (J 250) ls) (c2 : RowL (J 251) o) (w3 : W 3 = 1) (w335 : W 335 = nI ls.length) (k1 : RowS K o) (k2 : LnW K ls) (ek : ∀ k, 1 ≤ k → k < 849 → W (335 + k) = K (1184 + k)) : Nl J 246 W := by
  obtain ⟨g1, g2⟩ := hk
  have ln : ∀ n, n < ls.length → W (336 + 4 * n) = (lnAt ls n).1 ∧ W (336 + 4 * n + 1) = (lnAt ls n).2.1 ∧ W (336 + 4 * n + 2) = nI (lnAt ls n).2.2.1 ∧ W (336 + 4 * n + 3) = nI (lnAt ls n).2.2.2 := fun n hn => by
    obtain ⟨l1, l2, l3, l4⟩ := LnW.at k2 n hn
    refine ⟨?_, ?_, ?_, ?_⟩
    · rw [show 336 + 4 * n = 335 + (1 + 4 * n) by omega, ek _ (by omega) (by omega), show 1184 + (1 + 4 * n) = 1185 + 4 * n by omega]
      exact l1
    · rw [show 336 + 4 * n + 1 = 335 + (2 + 4 * n) by omega, ek _ (by omega) (by omega), show 1184 + (2 + 4 * n) = 1185 + 4 * n + 1 by omega]
      exact l2
    · rw [show 336 + 4 * n + 2 = 335 + (3 + 4 * n) by omega, ek _ (by omega) (by omega), show 1184 + (3 + 4 * n) = 1185 + 4 * n + 2 by omega]
      exact l3
    · rw [show 336 + 4 * n + 3 = 335 + (4 + 4 * n) by omega, ek _ (by omega) (by omega), show 1184 + (4 + 4 * n) = 1185 + 4 * n + 3 by omega]
      exact l4
  have hj : ∀ n, n < ls.length → (lnAt ls n).2.2.1 + ((lnAt ls n).2.2.2 - (lnAt ls n).2.2.1) = (lnAt ls n).2.2.2 := fun n hn => by
    have := (g2 n hn).1
    omega
  refine ⟨ls.length, o.length, cdN o, fun n => (lnAt ls n).2.2.1, fun n => (lnAt ls n).2.2.2 - (lnAt ls n).2.2.1, ⟨⟨Or.inr c0, h12, h400, fun i hi => ?_, fun n hn => ?_⟩, ⟨Or.inr ⟨w3, w335⟩, h12, h400, fun i hi => ?_, fun n hn => ?_⟩, fun n hn => ?_, ⟨fun z => ?_, fun z => ?_⟩⟩, h12, fun n hn => ?_⟩
  · obtain ⟨k, m, -, -, -, -, -, a6⟩ := okC_st (cdL_ok g1 i hi)
    exact (RowL.at c2 i hi).trans a6
  · obtain ⟨-, -, a3, a4⟩ := LnL.at c1 n hn
    refine ⟨a3, ?_, ?_, (g2 n hn).2.2⟩
    · show J 250 n = nI ((lnAt ls n).2.2.1 + ((lnAt ls n).2.2.2 - (lnAt ls n).2.2.1))
      rw [hj n hn]
      exact a4
    · show (lnAt ls n).2.2.1 + ((lnAt ls n).2.2.2 - (lnAt ls n).2.2.1) ≤ o.length
      rw [hj n hn]
      exact (g2 n hn).2.1
  · obtain ⟨k, m, a1, a2, a3, a4, a5, -⟩ := okC_st (cdL_ok g1 i hi)
    obtain ⟨r1, r2⟩ := RowS.at k1 i hi
    refine ⟨k, m, a1, a2, ?_, ?_, a5⟩
    · rw [show 384 + 2 * i = 335 + (49 + 2 * i) by omega, ek _ (by omega) (by omega), show 1184 + (49 + 2 * i) = 1233 + 2 * i by omega]
      exact r1.trans a3
    · rw [show 385 + 2 * i = 335 + (50 + 2 * i) by omega, ek _ (by omega) (by omega), show 1184 + (50 + 2 * i) = 1233 + 2 * i + 1 by omega]
      exact r2.trans a4
  · obtain ⟨-, -, a3, a4⟩ := ln n hn
    refine ⟨a3, ?_, ?_, (g2 n hn).2.2⟩
    · show W (336 + 4 * n + 3) = nI ((lnAt ls n).2.2.1 + ((lnAt ls n).2.2.2 - (lnAt ls n).2.2.1))
      rw [hj n hn]
      exact a4
    · show (lnAt ls n).2.2.1 + ((lnAt ls n).2.2.2 - (lnAt ls n).2.2.1) ≤ o.length
      rw [hj n hn]
      exact (g2 n hn).2.1
  · obtain ⟨a1, a2, -, -⟩ := LnL.at c1 n hn
    obtain ⟨b1, b2, -, -⟩ := ln n hn
    exact ⟨a1.trans b1.symm, a2.trans b2.symm⟩
  · exfalso
    have := nI_pos (show ls.length < 2 ^ 31 by omega)
    rw [← c0, z] at this
    exact this (by decide)
  · rw [w3] at z
    exact absurd z (by decide)
  · obtain ⟨-, b2, -, -⟩ := ln n hn
    rw [show nuW W n = (lnAt ls n).2.1 from b2]
    exact hB n hn
end T79zq
