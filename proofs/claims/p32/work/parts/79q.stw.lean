/-! ===== street, whole, on both sides ===== -/
section T79q
variable {S : aS} {I : Nat → Nat → Int32} {L : Nat → Nat → Int64} {w1 w2 t : Nat} {e b : Nat} {T W : Nat → Int32}
set_option maxRecDepth 100000
theorem perP_2 (hz : (perP T e b W).1 = true) : (perP T e b W).2.2 2 = W 2 := by
  unfold perP at hz ⊢
  by_cases c : W 0 = 6
  · rw [if_pos c] at hz
    cases hz
  rw [if_neg c] at hz ⊢
  generalize nbP T e 1 0 15 (nx T e b) = x at hz ⊢
  unfold perB at hz ⊢
  by_cases c2 : x.1 = -1
  · rw [if_pos c2] at hz
    cases hz
  rw [if_neg c2] at hz ⊢
  generalize nbP T e 2 0 9 x.2 = y at hz ⊢
  unfold perC at hz ⊢
  by_cases c3 : y.1 = -1
  · rw [if_pos c3] at hz
    cases hz
  rw [if_neg c3]
  show ud (ud (ud W (11 + 2 * pn W) x.1) (11 + 2 * pn W + 1) y.1) 0 (nI (pn W + 1)) 2 = W 2
  rw [ud_ne (by decide), ud_ne (by omega), ud_ne (by omega)]
theorem addDt_2 {o l a t n : Int32} : addDt W o l a t n 2 = W 2 := by
  unfold addDt
  rw [ud_ne (by decide), ud_ne (by omega), ud_ne (by omega), ud_ne (by omega), ud_ne (by omega), ud_ne (by omega), ud_ne (by omega)]
theorem dutP_2 (hz : (dutP T e b W).1 = true) : (dutP T e b W).2.2 2 = W 2 := by
  unfold dutP at hz ⊢
  by_cases c : W 1 = 12
  · rw [if_pos c] at hz
    cases hz
  rw [if_neg c] at hz ⊢
  generalize nbP T e 4 0 (W 0 - 1) (nx T e b) = x at hz ⊢
  unfold duA at hz ⊢
  by_cases c2 : x.1 = -1
  · rw [if_pos c2] at hz
    cases hz
  rw [if_neg c2] at hz ⊢
  generalize nbP T e 5 1 99 x.2 = y at hz ⊢
  unfold duB at hz ⊢
  by_cases c3 : y.1 = -1
  · rw [if_pos c3] at hz
    cases hz
  rw [if_neg c3] at hz ⊢
  generalize optP T e 6 0 99 0 y.2 = u at hz ⊢
  unfold duC at hz ⊢
  by_cases c4 : u.1 = true
  rotate_left
  · rw [if_neg c4] at hz
    cases hz
  rw [if_pos c4] at hz ⊢
  generalize optP T e 7 0 5 (-1) u.2.2 = v at hz ⊢
  unfold duD at hz ⊢
  by_cases c5 : v.1 = true
  rotate_left
  · rw [if_neg c5] at hz
    cases hz
  rw [if_pos c5] at hz ⊢
  generalize optP T e 8 0 (W 1 - 1) (-1) v.2.2 = w at hz ⊢
  unfold duE at hz ⊢
  by_cases c6 : w.1 = true
  rotate_left
  · rw [if_neg c6] at hz
    cases hz
  rw [if_pos c6]
  exact addDt_2 (t := v.2.1) (n := w.2.1)
theorem forP_2 (hz : (forP T e b W).1 = true) : (forP T e b W).2.2 2 = W 2 := by
  unfold forP at hz ⊢
  by_cases c : nm T e b 0 (W 1 - 1) = -1
  · rw [if_pos c] at hz
    cases hz
  rw [if_neg c] at hz ⊢
  by_cases c2 : W (23 + 6 * (nm T e b 0 (W 1 - 1)).toNatClampNeg + 5) = 0
  · rw [if_pos c2]
    show ud W (23 + 6 * (nm T e b 0 (W 1 - 1)).toNatClampNeg + 5) 2 2 = W 2
    exact ud_ne (by omega)
  · rw [if_neg c2] at hz
    cases hz
theorem setP_2 {g : Nat} {lo hi : Int32} (hg : 2 < g) (hz : (setP T e b W g lo hi).1 = true) : (setP T e b W g lo hi).2.2 2 = W 2 := by
  unfold setP at hz ⊢
  by_cases c : nm T e b lo hi = -1
  · rw [if_pos c] at hz
    cases hz
  rw [if_neg c]
  exact ud_ne (by omega)
theorem stgP_2 (hz : (stgP T e b W).1 = true) : (stgP T e b W).2.2 2 = W 2 := by
  unfold stgP at hz ⊢
  by_cases c : isWd T e b 10 = true
  · rw [if_pos c] at hz ⊢; exact setP_2 (by decide) hz
  rw [if_neg c] at hz ⊢
  by_cases c : isWd T e b 11 = true
  · rw [if_pos c] at hz ⊢; exact setP_2 (by decide) hz
  rw [if_neg c] at hz ⊢
  by_cases c : isWd T e b 12 = true
  · rw [if_pos c] at hz ⊢; exact setP_2 (by decide) hz
  rw [if_neg c] at hz ⊢
  by_cases c : isWd T e b 13 = true
  · rw [if_pos c] at hz ⊢; exact setP_2 (by decide) hz
  rw [if_neg c] at hz ⊢
  by_cases c : isWd T e b 14 = true
  · rw [if_pos c] at hz ⊢; exact setP_2 (by decide) hz
  rw [if_neg c] at hz
  cases hz
theorem linP_2 (hz : (linP T e b W).1 = true) : (linP T e b W).2.2 2 = W 2 := by
  unfold linP at hz ⊢
  by_cases c : isWd T e b 0 = true
  · rw [if_pos c] at hz ⊢; exact perP_2 hz
  rw [if_neg c] at hz ⊢
  by_cases c : isWd T e b 3 = true
  · rw [if_pos c] at hz ⊢; exact dutP_2 hz
  rw [if_neg c] at hz ⊢
  by_cases c : isWd T e b 9 = true
  · rw [if_pos c] at hz ⊢; exact forP_2 hz
  rw [if_neg c] at hz ⊢
  exact stgP_2 hz
theorem strsP_2 : ∀ (f b : Nat) (W : Nat → Int32), (strsP T e f b W).1 = true → (strsP T e f b W).2.2 2 = W 2 := by
  intro f
  induction f with
  | zero => exact fun b W hz => by cases hz
  | succ f ih =>
    intro b W hz
    rw [strsP_s] at hz ⊢
    have hl := linP_2 (T := T) (e := e) (b := b) (W := W)
    generalize linP T e b W = r at hz hl ⊢
    by_cases c1 : r.1 = true
    · rw [if_pos c1] at hz ⊢
      by_cases c2 : r.2.1 < e
      · rw [if_pos c2] at hz ⊢
        by_cases c3 : sg T e r.2.1 59 = true
        · rw [if_pos c3] at hz ⊢
          exact (ih _ _ hz).trans (hl c1)
        · rw [if_neg c3] at hz
          cases hz
      · rw [if_neg c2]
        exact hl c1
    · rw [if_neg c1] at hz
      cases hz
theorem strP_2 (hz : (strP T e W).1 = true) : (strP T e W).2.2 2 = W 2 := by
  unfold strP at hz ⊢
  by_cases c : bg T e 0 < e
  · rw [if_pos c] at hz ⊢
    exact strsP_2 _ _ _ hz
  · rw [if_neg c]
theorem strsP_ok : ∀ (f b : Nat) (W : Nat → Int32), WOk W → (strsP T e f b W).1 = true → WOk (strsP T e f b W).2.2 := by
  intro f
  induction f with
  | zero => exact fun b W _ hz => by cases hz
  | succ f ih =>
    intro b W h hz
    rw [strsP_s] at hz ⊢
    have hl := linP_ok (T := T) (e := e) (b := b) h
    generalize linP T e b W = r at hz hl ⊢
    by_cases c1 : r.1 = true
    · rw [if_pos c1] at hz ⊢
      by_cases c2 : r.2.1 < e
      · rw [if_pos c2] at hz ⊢
        by_cases c3 : sg T e r.2.1 59 = true
        · rw [if_pos c3] at hz ⊢
          exact ih _ _ (hl c1) hz
        · rw [if_neg c3] at hz
          cases hz
      · rw [if_neg c2]
        exact hl c1
    · rw [if_neg c1] at hz
      cases hz
theorem strP_ok (h : WOk W) (hz : (strP T e W).1 = true) : WOk (strP T e W).2.2 := by
  unfold strP at hz ⊢
  by_cases c : bg T e 0 < e
  · rw [if_pos c] at hz ⊢
    exact strsP_ok _ _ _ h hz
  · rw [if_neg c]
    exact h
theorem Sd.cp {a b m : Nat} (h : Sd I b W) (hm : 9 ≤ m) : Sd (cpS I a b m) a W := by
  obtain ⟨h1, h2, h3⟩ := h
  refine ⟨fun x hx => ?_, fun p hp => ?_, fun d hd k hk => ?_⟩
  · rw [cpS_in0 (by omega)]
    exact h1 x hx
  · rw [cpS_in (i := 1) (by omega), cpS_in (i := 2) (by omega)]
    exact h2 p hp
  · rw [show a + 3 + k = a + (3 + k) by omega, cpS_in (i := 3 + k) (by omega), show b + (3 + k) = b + 3 + k by omega]
    exact h3 d hd k hk
/-- what street may change in the class -/
def sJ (q k : Nat) : Bool := sO q k || ((Nat.beq q 200 && (Nat.beq k 3 || Nat.beq k 13)) || ((Nat.beq q 201 && Nat.beq k 1) || (Nat.ble 235 q && Nat.ble q 243)))
theorem sO_sJ : ∀ q k, sO q k = true → sJ q k = true := fun q k h => by
  unfold sJ
  rw [h]
  rfl
theorem sJ_hi {q k : Nat} (h : 244 ≤ q) : sJ q k = false := by
  have e1 : Nat.ble q 217 = false := by
    cases hb : Nat.ble q 217 with
    | false => rfl
    | true => exact absurd (Nat.le_of_ble_eq_true hb) (by omega)
  have e2 : Nat.ble q 243 = false := by
    cases hb : Nat.ble q 243 with
    | false => rfl
    | true => exact absurd (Nat.le_of_ble_eq_true hb) (by omega)
  simp [sJ, sO, e1, e2, beqF (show q ≠ 200 by omega), beqF (show q ≠ 201 by omega)]
theorem CI.st {J : Nat → Nat → Int32} (h : CI I) (f : Fm sJ I J) (k : Dk J) (k2 : ∃ nd, nd ≤ 12 ∧ J 235 3 = nI nd) : CI J := fun a ha h2 => by
  by_cases c1 : a = 209
  · rw [c1]
    exact k
  · by_cases c2 : a = 235
    · rw [c2]
      exact k2
    · rw [f a 3 (sJ_hi (by simp only [stp, stps, List.mem_cons, List.not_mem_nil, or_false] at ha; omega))]
      exact h a ha h2
theorem f_streetC (hw : WdS S) (he : I 201 1 = nI e) (h4 : e ≤ 400) (hbt : BtT T) (hT : I 202 = T) (hm : I 203 1 = 14) (hci : CI I) (hD : Sd I 235 W) (hW : WOk W) (h2 : ∃ k, k ≤ 12 ∧ W 2 = nI k) : Sp S m_X11_street 21 1 6 [.ref 200] (hp I L w1 w2 t) (fun v h' => v = some (.int (W 2 + 1)) ∧ (strP T e W).1 = true ∧ ¬ W 2 = 12 ∧ ∃ J w, h' = hp J L w w2 t ∧ WK w ∧ CI J ∧ Fm sJ I J ∧ J 201 1 = 0 ∧ J 200 3 = -1 ∧ J 200 13 = 0 ∧ Sd J 235 (ud (strP T e W).2.2 2 (W 2 + 1))) (fun E h' => ∃ J w, h' = hp J L w w2 0 ∧ WK w ∧ CI J ∧ Fm sJ I J ∧ J 201 1 = 0 ∧ J 200 13 = I 200 13 ∧ Sd J 235 W ∧ ((E = exN 1 ∧ (strP T e W).1 = false ∧ J 200 3 = nI (strP T e W).2.1) ∨ (E = exN 3 ∧ (strP T e W).1 = true ∧ W 2 = 12 ∧ J 200 3 = -1))) := by
  obtain ⟨tx, tx12, etx⟩ := h2
  refine Sp_of ok_X11_street rfl rfl ?_
  show AW S m_X11_street 21 _ _ 1 6 0 [some (.ref 200)] [] (hp I L w1 w2 t)
  refine a_l0 rfl rfl rfl ?_
  refine a_getq rfl gfX11_19_11 rfl (rfl) ?_
  refine a_getq rfl gfX11_75_6 rfl (rfl) ?_
  refine a_l0 rfl rfl rfl ?_
  refine a_getq rfl gfX11_37_11 rfl (rfl) ?_
  refine a_eV0 rfl lX11_78 mo_X5_copyFrom (sp_X5_copyFrom (a := 209) (b := 235) (by decide) (by decide) (by decide)) rfl rfl rfl ⟨5, _, rfl, rfl, rfl⟩ rfl ?_
  refine a_l0 rfl rfl rfl ?_
  refine a_l0 rfl rfl rfl ?_
  refine a_getq rfl gfX11_19_11 rfl (rfl) ?_
  refine a_l0 rfl rfl rfl ?_
  refine a_getq rfl gfX11_10_11 rfl (rfl) ?_
  have g1 : ∀ q, ¬ (209 ≤ q ∧ q < 209 + 9) → cpS I 209 235 9 q = I q := fun q hq => cpS_out hq
  refine a_callU rfl lu_82 dc_readLines mo_X8_readLines hx_rl (s_readLines hw ((congrFun (g1 201 (by decide)) 1).trans he) h4 (by rw [g1 202 (by decide), hT]; exact hbt) ((congrFun (g1 203 (by decide)) 1).trans hm) (Sd.cp hD (Nat.le_refl _)) hW) rfl rfl rfl ⟨6, _, rfl, rfl, rfl⟩ rfl (fun v' h' hv => ?_) (fun _ _ z => False.elim z)
  rw [g1 202 (by decide), hT] at hv
  obtain ⟨rfl, J, w, rfl, hww, hle, hF, hk, hy⟩ := hv
  have fJ : Fm sJ I J := fun q k hq => by
    have hq' : sO q k = false := by
      cases hb : sO q k with
      | false => rfl
      | true => rw [sO_sJ q k hb] at hq; cases hq
    rw [hF q k hq', g1 q (by have := sO_in hq'; omega)]
  have rowJ : ∀ q, 218 ≤ q → J q = I q := fun q hq => by
    rw [show J q = cpS I 209 235 9 q from funext fun k => hF q k (by unfold sO; rw [show Nat.ble q 217 = false by (cases hb : Nat.ble q 217 with | false => rfl | true => exact absurd (Nat.le_of_ble_eq_true hb) (by omega)), Bool.and_false]), g1 q (by omega)]
  have o2 := strP_2 (T := T) (e := e) (W := W)
  have ok2 := strP_ok (T := T) (e := e) hW
  rcases er : strP T e W with ⟨z, b1, W1⟩
  rw [er] at hle hk hy o2 ok2
  have DJ : Sd J 235 W := Sd.eq hD fun q g _ => rowJ q (by omega)
  have r13 : J 200 13 = I 200 13 := (hF 200 13 rfl).trans (congrFun (g1 200 (by decide)) 13)
  cases z with
  | false =>
    refine a_top (y := nI b1) (rfl) ?_
    refine a_puti rfl pfX11_30_11 rfl ?_
    refine a_l0 rfl rfl rfl ?_
    refine a_getq rfl gfX11_10_11 rfl (rfl) ?_
    refine a_s rfl rfl ?_
    refine a_puti rfl pfX11_68_7 rfl ?_
    have fK : Fm sJ I (up2 (up2 J 200 3 (nI b1)) 201 1 0) := Fm.up (Fm.up fJ rfl) rfl
    have e3 : up2 (up2 J 200 3 (nI b1)) 201 1 0 200 3 = nI b1 := (congrFun (up2_row (by decide)) 3).trans up2_at
    have DK : Sd (up2 (up2 J 200 3 (nI b1)) 201 1 0) 235 W := Sd.eq DJ fun q g1 g2 => by rw [up2_row (by omega), up2_row (by omega)]
    refine a_l0 rfl rfl rfl ?_
    refine a_getiv (v := nI b1) rfl gfX11_30_11 rfl (e3) ?_
    refine a_s rfl rfl ?_
    have hb1 : b1 ≤ e := hle
    refine a_ic_eq rfl (fun c => absurd c ?_) (fun _ => ?_)
    · intro z
      have := nI_pos (show b1 < 2 ^ 31 by omega)
      rw [z] at this
      exact this (by decide)
    obtain ⟨nd, n1, n2⟩ := hk rfl
    exact a_throw rfl rfl rfl rfl tX11_iae rfl rfl rfl rfl rfl ⟨_, w, rfl, hww, CI.st hci fK ⟨nd, n1, (congrFun ((up2_row (p := 201) (q := 209) (by decide)).trans (up2_row (p := 200) (q := 209) (by decide))) 3).trans n2⟩ ⟨dn W, hW.2.1, (Sd.fd DK (f := 3) (g := 1) (by decide)).trans hW.2.2.2⟩, fK, up2_at, (congrFun (up2_row (p := 201) (q := 200) (by decide)) 13).trans ((up2_ne (Or.inr (by decide))).trans r13), DK, Or.inl ⟨rfl, rfl, e3⟩⟩
  | true =>
    refine a_top (y := (-1)) (rfl) ?_
    have D1 : Sd J 209 W1 := hy rfl
    have W1k : WOk W1 := ok2 rfl
    have o2 : W1 2 = W 2 := o2 rfl
    refine a_puti rfl pfX11_30_11 rfl ?_
    refine a_l0 rfl rfl rfl ?_
    refine a_getq rfl gfX11_10_11 rfl (rfl) ?_
    refine a_s rfl rfl ?_
    refine a_puti rfl pfX11_68_7 rfl ?_
    generalize hK : up2 (up2 J 200 3 (-1)) 201 1 0 = K
    have fK : Fm sJ I K := by
      subst hK
      exact Fm.up (Fm.up fJ rfl) rfl
    have rK : ∀ q, q ≠ 200 → q ≠ 201 → K q = J q := fun q h1 h2 => by
      subst hK
      rw [up2_row h2, up2_row h1]
    have e3 : K 200 3 = -1 := by
      subst hK
      exact (congrFun (up2_row (by decide)) 3).trans up2_at
    have e1 : K 201 1 = 0 := by
      subst hK
      exact up2_at
    have e13 : K 200 13 = J 200 13 := by
      subst hK
      exact (congrFun (up2_row (by decide)) 13).trans (up2_ne (Or.inr (by decide)))
    have DK : Sd K 235 W := Sd.eq DJ fun q g1 g2 => rK q (by omega) (by omega)
    have DK2 : Sd K 209 W1 := Sd.eq D1 fun q g1 g2 => rK q (by omega) (by omega)
    have d3 : K 209 3 = nI (dn W1) := (Sd.fd DK2 (f := 3) (g := 1) (by decide)).trans W1k.2.2.2
    clear hK
    refine a_l0 rfl rfl rfl ?_
    refine a_getiv (v := (-1)) rfl gfX11_30_11 rfl (e3) ?_
    refine a_s rfl rfl ?_
    refine a_ic_eq rfl (fun _ => ?_) (fun c => absurd rfl c)
    refine a_l0 rfl rfl rfl ?_
    refine a_getq rfl gfX11_37_11 rfl (rfl) ?_
    refine a_getiv (v := nI tx) rfl gfX11_89_5 rfl ((Sd.fd DK (f := 16) (g := 2) (by decide)).trans etx) ?_
    refine a_s rfl rfl ?_
    refine a_ic_lt rfl (fun c => ?_) (fun c => ?_)
    rotate_left
    · have t12 : tx = 12 := by
        have := nI_ge_of (a := tx) (b := 12) (Int32.not_lt.mp c) (by omega) (by decide)
        omega
      exact a_throw rfl rfl rfl rfl tX11_uoe rfl rfl rfl rfl rfl ⟨K, w, rfl, hww, CI.st hci fK ⟨dn W1, W1k.2.1, d3⟩ ⟨dn W, hW.2.1, (Sd.fd DK (f := 3) (g := 1) (by decide)).trans hW.2.2.2⟩, fK, e1, e13.trans r13, DK, Or.inr ⟨rfl, rfl, by rw [etx, t12]; rfl, e3⟩⟩
    have t12 : tx < 12 := nI_lt_of (b := 12) (Int32.not_le.mpr c) (by omega) (by decide)
    refine a_l0 rfl rfl rfl ?_
    refine a_getq rfl gfX11_37_11 rfl (rfl) ?_
    refine a_l0 rfl rfl rfl ?_
    refine a_getq rfl gfX11_19_11 rfl (rfl) ?_
    refine a_getq rfl gfX11_75_6 rfl (rfl) ?_
    refine a_eV0 rfl lX11_78 mo_X5_copyFrom (sp_X5_copyFrom (a := 235) (b := 209) (by decide) (by decide) (by decide)) rfl rfl rfl ⟨5, _, rfl, rfl, rfl⟩ rfl ?_
    have D9 : Sd (cpS K 235 209 9) 235 W1 := Sd.cp DK2 (Nat.le_refl _)
    have r9 : ∀ q, ¬ (235 ≤ q ∧ q < 235 + 9) → cpS K 235 209 9 q = K q := fun q hq => cpS_out hq
    generalize hM : cpS K 235 209 9 = M at D9 r9
    refine a_l0 rfl rfl rfl ?_
    refine a_getq rfl gfX11_37_11 rfl (rfl) ?_
    refine a_s rfl rfl ?_
    refine a_getiv (v := W 2) rfl gfX11_89_5 rfl ((Sd.fd D9 (f := 16) (g := 2) (by decide)).trans o2) ?_
    refine a_s rfl rfl ?_
    refine a_s rfl rfl ?_
    refine a_puti rfl pfX11_89_5 rfl ?_
    refine a_l0 rfl rfl rfl ?_
    refine a_s rfl rfl ?_
    refine a_puti rfl pfX11_95_11 rfl ?_
    refine a_l0 rfl rfl rfl ?_
    refine a_getq rfl gfX11_37_11 rfl (rfl) ?_
    refine a_getiv (v := W 2 + 1) rfl gfX11_89_5 rfl ((congrFun (up2_row (by decide)) 16).trans up2_at) ?_
    have fM : Fm sJ I (up2 (up2 M 235 16 (W 2 + 1)) 200 13 0) := Fm.up (Fm.up (fun q k hq => by
      by_cases c9 : 235 ≤ q ∧ q < 235 + 9
      · exfalso
        have e5 : Nat.ble 235 q = true := Nat.ble_eq_true_of_le c9.1
        have e6 : Nat.ble q 243 = true := Nat.ble_eq_true_of_le (by omega)
        simp [sJ, e5, e6] at hq
      · rw [r9 q c9]
        exact fK q k hq) rfl) rfl
    have D8 : Sd (up2 (up2 M 235 16 (W 2 + 1)) 200 13 0) 235 (ud W1 2 (W 2 + 1)) := Sd.eq (Sd.pu (f := 16) (g := 2) D9 (by decide)) fun q g1 g2 => up2_row (by omega)
    refine a_iret rfl rfl ⟨rfl, rfl, fun z => ?_, _, w, rfl, hww, CI.st hci fM ?_ ?_, fM, ?_, ?_, up2_at, D8⟩
    · rw [etx] at z
      have := nI_inj (b := 12) (by omega) (by decide) z
      omega
    · refine ⟨dn W1, W1k.2.1, ?_⟩
      rw [up2_row (by decide), up2_row (by decide), r9 209 (by decide)]
      exact d3
    · refine ⟨dn W1, W1k.2.1, ?_⟩
      rw [up2_row (by decide), up2_ne (Or.inr (by decide))]
      exact (Sd.fd D9 (f := 3) (g := 1) (by decide)).trans W1k.2.2.2
    · rw [up2_row (by decide), up2_row (by decide), r9 201 (by decide)]
      exact e1
    · rw [up2_ne (Or.inr (by decide)), up2_row (by decide), r9 200 (by decide)]
      exact e3
end T79q
