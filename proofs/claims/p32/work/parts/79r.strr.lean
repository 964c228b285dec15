/-! ===== street, whole, of the reference ===== -/
section T79r
variable {S : aS} {I : Nat → Nat → Int32} {L : Nat → Nat → Int64} {w1 w2 t : Nat} {e b nd np : Nat} {T W : Nat → Int32}
set_option maxRecDepth 100000
theorem usH_0 : usH I 420 0 = 0 := by
  unfold usH
  rw [up2_ne (Or.inr (by decide)), up2_ne (Or.inr (by decide)), up2_ne (Or.inr (by decide)), up2_at]
theorem h_readAllS (hw : WdS S) (hbt : BtT T) (hT : I 426 = T) (h9 : I 420 9 = nI e) (h4 : e ≤ 400) (h421 : I 421 = W) (hW : WOk W) : Sp S m_X12_readAll 61 0 0 [.ref 420, .int (bI true)] (hp I L w1 w2 t) (fun v h' => ∃ x, v = some (.int x) ∧ ((strP T e W).1 = false → x = -1) ∧ ((strP T e W).1 = true → 0 ≤ x) ∧ ∃ J, h' = hp J L w1 w2 t ∧ Fm sS (up2 (usH I) 420 16 0) J ∧ ((strP T e W).1 = false → J 420 12 = nI (strP T e W).2.1) ∧ ((strP T e W).1 = true → J 421 = (strP T e W).2.2)) nX := by
  refine Sp_of ok_X12_readAll rfl rfl ?_
  show AW S m_X12_readAll 61 _ _ 0 0 0 [some (.ref 420), some (.int (bI true)), none] [] (hp I L w1 w2 t)
  have T0 : up2 (usH I) 420 16 0 426 = T := ((up2_row (by decide)).trans (usH_row (by decide))).trans hT
  have P0 : Pp e 0 (up2 (usH I) 420 16 0) := ⟨(up2_ne (Or.inr (by decide))).trans up2_at, ((up2_ne (Or.inr (by decide))).trans usH_11).trans h9, Nat.zero_le _, h4⟩
  have W0 : up2 (usH I) 420 16 0 421 = W := ((up2_row (by decide)).trans (usH_row (by decide))).trans h421
  refine a_l0 rfl rfl rfl ?_
  refine a_eV0 rfl lX12_232 mo_X12_uses r_X12_uses rfl rfl rfl ⟨12, _, rfl, rfl, rfl⟩ rfl ?_
  refine a_l0 rfl rfl rfl ?_
  refine a_s rfl rfl ?_
  refine a_puti rfl pfX12_168_12 rfl ?_
  refine a_l0 rfl rfl rfl ?_
  refine a_gV rfl lX12_94 mo_X12_blanks (h_blanks (I := up2 (usH I) 420 16 0) P0) rfl rfl rfl ⟨12, _, rfl, rfl, rfl⟩ rfl (fun v' h' hv => ?_)
  obtain ⟨rfl, J1, rfl, h1⟩ := hv
  rw [T0] at h1
  have h1 : Rd e 0 (bg T e 0) (bg T e 0) (up2 (usH I) 420 16 0) J1 := h1
  have C1 : Hf T e (bg T e 0) W (up2 (usH I) 420 16 0) J1 (bg T e 0) := ⟨Fm.mo (Rd.fm h1) sR_sS, Rd.pp h1, bg_sk 0, (Rd.w h1).trans W0⟩
  have hb0 := bg_le (T := T) (e := e) 0
  refine a_l0 rfl rfl rfl ?_
  refine a_geti rfl gfX12_81_12 rfl ?_
  refine a_top (y := nI (bg T e 0)) (Pp.pu (Rd.pp h1)) ?_
  refine a_l0 rfl rfl rfl ?_
  refine a_geti rfl gfX12_84_12 rfl ?_
  refine a_top (y := nI e) (Pp.en (Rd.pp h1)) ?_
  refine a_ic_ne rfl (fun c0 => ?_) (fun c0 => ?_)
  rotate_left
  · have c0 := nI_inj (by omega) (by omega) c0
    have el : strP T e W = (true, bg T e 0, W) := if_neg (by omega)
    rw [el]
    refine a_s rfl rfl ?_
    exact a_iret rfl rfl ⟨0, rfl, fun z => (by cases z), fun _ => Int32.le_refl _, J1, rfl, C1.1, fun z => (by cases z), fun _ => Hf.wd C1⟩
  have c0 : bg T e 0 < e := by
    rcases Nat.lt_or_ge (bg T e 0) e with g | g
    · exact g
    · exact absurd (congrArg nI (show bg T e 0 = e by omega)) c0
  refine a_s rfl rfl ?_
  refine a_s2 rfl rfl rfl rfl rfl rfl ?_
  refine a_inv (n := 14) (fun m ls h => ∃ i b' W' p' J, ls = [some (.ref 420), some (.int (bI true)), some (.int (nI i))] ∧ h = hp J L w1 w2 t ∧ Hf T e b' W' (up2 (usH I) 420 16 0) J p' ∧ WOk W' ∧ strsP T e (14 - i) b' W' = strP T e W ∧ i ≤ 14 ∧ m = 14 - i) ⟨0, bg T e 0, W, bg T e 0, J1, rfl, rfl, C1, hW, (if_pos c0).symm, by decide, rfl⟩ ?_
  rintro m _ _ ⟨i, b', W', p', J, rfl, rfl, C, hW', es, hi, hm⟩ ih
  have eT : J 426 = T := Hf.tt C T0
  refine a_l0 rfl rfl rfl ?_
  refine a_l1 rfl rfl rfl ?_
  refine a_l2 rfl rfl rfl ?_
  refine a_gV rfl lX12_235 mo_X12_readLine (h_readLineS hw eT (Hf.pp C) (Hf.nb C) (Hf.wd C) hW' hi) rfl rfl rfl ⟨12, _, rfl, rfl, rfl⟩ rfl (fun v' h' hv => ?_)
  replace hv := QH.be C.1 hv
  by_cases c14 : i < 14
  rotate_left
  · rw [if_neg c14] at hv
    obtain ⟨rfl, J2, p2, rfl, y, n⟩ := hv
    rw [show 14 - i = 0 by omega] at es
    have es : strP T e W = (false, b', W') := es.symm
    refine a_if_ne rfl (fun z => absurd rfl z) (fun _ => ?_)
    refine a_s rfl rfl ?_
    rw [es]
    exact a_iret rfl rfl ⟨-1, rfl, fun _ => rfl, fun z => (by cases z), J2, rfl, (n rfl).1, fun _ => (n rfl).2, fun z => by cases z⟩
  rw [if_pos c14] at hv
  obtain ⟨rfl, J2, p2, rfl, y, n⟩ := hv
  obtain ⟨f, hf⟩ : ∃ f, 14 - i = f + 1 := ⟨14 - i - 1, by omega⟩
  rw [hf, strsP_s] at es
  have lok := linP_ok (T := T) (e := e) (b := b') hW'
  generalize linP T e b' W' = r at es y n lok ⊢
  obtain ⟨z, b1, W1⟩ := r
  cases z with
  | false =>
    refine a_if_ne rfl (fun z => absurd rfl z) (fun _ => ?_)
    have es : strP T e W = (false, b1, W') := es.symm
    refine a_s rfl rfl ?_
    rw [es]
    exact a_iret rfl rfl ⟨-1, rfl, fun _ => rfl, fun z => (by cases z), J2, rfl, (n rfl).1, fun _ => (n rfl).2, fun z => by cases z⟩
  | true =>
  refine a_if_ne rfl (fun _ => ?_) (fun z => absurd (show (1 : Int32) = 0 from z) (by decide))
  rw [if_pos rfl] at es
  have C2 : Hf T e b1 W1 (up2 (usH I) 420 16 0) J2 p2 := y rfl
  have W1k : WOk W1 := lok rfl
  have g2 := Hf.le C2
  have eT2 : J2 426 = T := Hf.tt C2 T0
  refine a_l0 rfl rfl rfl ?_
  refine a_gV rfl lX12_94 mo_X12_blanks (h_blanks (Hf.pp C2)) rfl rfl rfl ⟨12, _, rfl, rfl, rfl⟩ rfl (fun v' h' hv => ?_)
  obtain ⟨rfl, J3, rfl, h3⟩ := hv
  rw [eT2, Hf.nb C2] at h3
  have C3 : Hf T e b1 W1 (up2 (usH I) 420 16 0) J3 b1 := Hf.rd C2 h3 (Hf.sk C2)
  have eT3 : J3 426 = T := Hf.tt C3 T0
  have h4' := Pp.e4 (Hf.pp C3)
  refine a_l0 rfl rfl rfl ?_
  refine a_geti rfl gfX12_81_12 rfl ?_
  refine a_top (y := nI b1) (Pp.pu (Rd.pp h3)) ?_
  refine a_l0 rfl rfl rfl ?_
  refine a_geti rfl gfX12_84_12 rfl ?_
  refine a_top (y := nI e) (Pp.en (Rd.pp h3)) ?_
  refine a_ic_ne rfl (fun c1 => ?_) (fun c1 => ?_)
  rotate_left
  · have c1 := nI_inj (by omega) (by omega) c1
    have es : strP T e W = (true, b1, W1) := es.symm.trans (if_neg (show ¬ b1 < e by omega))
    refine a_l2 rfl rfl rfl ?_
    refine a_s rfl rfl ?_
    refine a_s rfl rfl ?_
    refine a_top (y := nI (i + 1)) ((nI_succ _).symm) ?_
    rw [es]
    exact a_iret rfl rfl ⟨nI (i + 1), rfl, fun z => (by cases z), fun _ => nI_0le (by omega), J3, rfl, C3.1, fun z => (by cases z), fun _ => Hf.wd C3⟩
  have c1 : b1 < e := by
    rcases Nat.lt_or_ge b1 e with g | g
    · exact g
    · exact absurd (congrArg nI (show b1 = e by omega)) c1
  have es := (if_pos c1).symm.trans es
  refine a_l0 rfl rfl rfl ?_
  refine a_s rfl rfl ?_
  refine a_s rfl rfl ?_
  refine a_eV1 rfl lX12_87 mo_X12_isAt (h_isAt (Rd.pp h3)) rfl rfl rfl ⟨12, _, rfl, rfl, rfl⟩ rfl ?_
  refine a_top (y := bI (sg T e b1 59)) (by rw [eT3]; exact congrArg bI (at_s (c := 59) hbt h4 (by decide))) ?_
  cases c59 : sg T e b1 59 with
  | true =>
    refine a_if_ne rfl (fun _ => ?_) (fun z => absurd (show (1 : Int32) = 0 from z) (by decide))
    have es := (if_pos c59).symm.trans es
    refine a_l0 rfl rfl rfl ?_
    refine a_s rfl rfl ?_
    refine a_geti rfl gfX12_81_12 rfl ?_
    refine a_top (y := nI b1) (Pp.pu (Rd.pp h3)) ?_
    refine a_s rfl rfl ?_
    refine a_s rfl rfl ?_
    refine a_top (y := nI (b1 + 1)) ((nI_succ _).symm) ?_
    refine a_puti rfl pfX12_81_12 rfl ?_
    refine a_iv2 (y := nI (i + 1)) rfl rfl rfl ((nI_succ _).symm) ?_
    refine a_goto rfl ?_
    have e3 := en_3 (of_decide_eq_true c59).1
    exact ih (14 - (i + 1)) _ _ (by omega) ⟨i + 1, nx T e b1, W1, b1 + 1, _, rfl, rfl, ⟨Fm.up C3.1 rfl, Pp.to (Rd.pp h3) (by omega), by rw [← e3]; rfl, (up2_row (by decide)).trans (Hf.wd C3)⟩, W1k, by rw [show 14 - (i + 1) = f by omega]; exact es, by omega, rfl⟩
  | false =>
    refine a_if_ne rfl (fun z => absurd rfl z) (fun _ => ?_)
    have es : strP T e W = (false, b1, W') := es.symm.trans (if_neg (by show ¬ sg T e b1 59 = true; rw [c59]; exact Bool.false_ne_true))
    refine a_s rfl rfl ?_
    rw [es]
    exact a_iret rfl rfl ⟨-1, rfl, fun _ => rfl, fun z => (by cases z), J3, rfl, C3.1, fun _ => Rd.be h3, fun z => by cases z⟩
/-- street of the reference: as it was, or the new one -/
def StN (r : SR) (I J : Nat → Nat → Int32) (v : Option Value) : Prop :=
  (r.1 = false ∧ v = some (.int 0) ∧ J 420 0 = 1 ∧ J 420 14 = nI r.2.1 ∧ J 421 = I 421 ∧ J 420 7 = I 420 7) ∨
  (r.1 = true ∧ I 421 2 = 12 ∧ v = some (.int 0) ∧ J 420 0 = 2 ∧ J 420 14 = -1 ∧ J 421 = I 421 ∧ J 420 7 = I 420 7) ∨
  (r.1 = true ∧ ¬ I 421 2 = 12 ∧ v = some (.int (I 421 2 + 1)) ∧ J 420 0 = 0 ∧ J 420 14 = -1 ∧ J 421 = ud r.2.2 2 (I 421 2 + 1) ∧ J 420 7 = 0)
theorem h_streetR (hw : WdS S) (hr : RI nd np I) (hbt : BtT T) (hT : I 426 = T) (h9 : I 420 9 = nI e) (h4 : e ≤ 400) (hG : Rg (I 421)) : Sp S m_X12_street 62 0 0 [.ref 420] (hp I L w1 w2 t) (fun v h' => ∃ J nd' np', h' = hp J L w1 w2 t ∧ Us nd' np' I J ∧ J 422 = I 422 ∧ J 425 = I 425 ∧ StN (strP T e (I 421)) I J v) nX := by
  refine Sp_of ok_X12_street rfl rfl ?_
  show AW S m_X12_street 62 _ _ 0 0 0 [some (.ref 420), none, none] [] (hp I L w1 w2 t)
  have restore : ∀ {x : Int32} {J : Nat → Nat → Int32}, GX I J → (∀ K, K 421 = I 421 → (∀ k, K 420 k = J 420 k) → StN (strP T e (I 421)) I K (some (.int 0))) → AW S m_X12_street 62 (fun v h' => ∃ J nd' np', h' = hp J L w1 w2 t ∧ Us nd' np' I J ∧ J 422 = I 422 ∧ J 425 = I 425 ∧ StN (strP T e (I 421)) I J v) nX 0 0 90 [some (.ref 420), some (.int x), none] [] (hp J L w1 w2 t) := by
    intro x J hg hst
    refine a_s rfl rfl ?_
    refine a_s2 rfl rfl rfl rfl rfl rfl ?_
    refine a_forE (n := 1184) (fun j => [some (.ref 420), some (.int x), some (.int (nI j))]) (fun j => hp (cpR J 421 0 423 0 j) L w1 w2 t) (by simp [lsub, nI_0]) (by rw [cpR_0]) ?_ (fun j hj ih => ?_)
    · refine a_l2 rfl rfl rfl ?_
      refine a_s rfl rfl ?_
      refine a_ic_ge rfl (fun _ => ?_) (fun c => absurd (Int32.le_refl _) c)
      refine a_s rfl rfl ?_
      have e0 : ∀ q, q ≠ 421 → cpR J 421 0 423 0 1184 q = J q := fun q hq => cpR_row hq
      refine a_iret rfl rfl ⟨_, nd, np, rfl, Us.rest hr hg, (e0 422 (by decide)).trans (funext fun k => hg.1 422 k rfl), (e0 425 (by decide)).trans (funext fun k => hg.1 425 k rfl), hst _ (funext fun k => ?_) (fun k => congrFun (e0 420 (by decide)) k)⟩
      by_cases c : k < 1184
      · rw [show k = 0 + k by omega, cpR_in c]
        rw [show k + 0 = k by omega, hg.2.2 k c]
        congr 1
        omega
      · rw [cpR_out (by omega)]
        exact hg.1 421 k (sX_hi (by omega))
    · refine a_l2 rfl rfl rfl ?_
      refine a_s rfl rfl ?_
      refine a_ic_ge rfl (fun c => absurd c (nI_ge (b := 1184) hj (by omega))) (fun _ => ?_)
      refine a_l0 rfl rfl rfl ?_
      refine a_getq rfl gfX12_13_12 rfl (rfl) ?_
      refine a_l2 rfl rfl rfl ?_
      refine a_l0 rfl rfl rfl ?_
      refine a_getq rfl gfX12_20_12 rfl (rfl) ?_
      refine a_l2 rfl rfl rfl ?_
      refine a_ialdv (v := J 423 (j + 0)) rfl (n := 1184) rfl (inI_nI (by omega) (by omega)) (by rw [nI_clamp (by omega), cpR_row (by decide)]; rfl) ?_
      refine a_iastv (k := 0 + j) rfl (n := 2033) rfl (inI_nI (by omega) (by omega)) (by rw [nI_clamp (by omega)]; omega) ?_
      rw [cpR_succ]
      refine a_i2 rfl rfl rfl ?_
      refine a_goto rfl ?_
      exact a_back ih (by simp [lsub, nI_1]) rfl
  have k27 : AW S m_X12_street 62 (fun v h' => ∃ J nd' np', h' = hp J L w1 w2 t ∧ Us nd' np' I J ∧ J 422 = I 422 ∧ J 425 = I 425 ∧ StN (strP T e (I 421)) I J v) nX 0 0 27 [some (.ref 420), some (.int (nI 1184)), none] [] (hp (cpR I 423 0 421 0 1184) L w1 w2 t) := by
    have e0 : ∀ q, q ≠ 423 → cpR I 423 0 421 0 1184 q = I q := fun q hq => cpR_row hq
    refine a_l0 rfl rfl rfl ?_
    refine a_s rfl rfl ?_
    refine a_gV rfl lX12_239 mo_X12_readAll (h_readAllS (T := T) (e := e) (W := I 421) hw hbt ((e0 426 (by decide)).trans hT) ((congrFun (e0 420 (by decide)) 9).trans h9) h4 (e0 421 (by decide)) hG.1) rfl rfl rfl ⟨12, _, rfl, rfl, rfl⟩ rfl (fun v' h' hv => ?_)
    obtain ⟨x, rfl, xf, xt, J, rfl, hF, n, y⟩ := hv
    have hg : GX I J := GX.sS (GX.beg h9) hF
    have o2 := strP_2 (T := T) (e := e) (W := I 421)
    have org := strP_rg (T := T) (e := e) hG
    have j0 : J 420 0 = 0 := (hF 420 0 rfl).trans ((up2_ne (Or.inr (by decide))).trans (usH_0))
    have j7 : J 420 7 = I 420 7 := (hF 420 7 rfl).trans ((up2_ne (Or.inr (by decide))).trans ((usH_f (by decide) (by decide) (by decide) (by decide)).trans (congrFun (e0 420 (by decide)) 7)))
    refine a_s1 rfl rfl rfl rfl rfl rfl ?_
    refine a_l0 rfl rfl rfl ?_
    refine a_l1 rfl rfl rfl ?_
    rcases er : strP T e (I 421) with ⟨z, b1, W1⟩
    rw [er] at xf xt n y o2 org restore
    cases z with
    | false =>
      have xf : x = -1 := xf rfl
      subst xf
      refine a_if_ge rfl (fun z => absurd z (by decide)) (fun _ => ?_)
      refine a_l0 rfl rfl rfl ?_
      refine a_getiv (v := nI b1) rfl gfX12_91_12 rfl (n rfl) ?_
      refine a_goto rfl ?_
      refine a_puti rfl pfX12_33_12 rfl ?_
      refine a_l0 rfl rfl rfl ?_
      refine a_l1 rfl rfl rfl ?_
      refine a_if_ge rfl (fun z => absurd z (by decide)) (fun _ => ?_)
      refine a_s rfl rfl ?_
      refine a_goto rfl ?_
      refine a_s rfl rfl ?_
      refine a_eV1 rfl lX12_243 mo_X12_throwsIf (h_throwsIf (z := true)) rfl rfl rfl ⟨12, _, rfl, rfl, rfl⟩ rfl ?_
      rw [if_pos rfl]
      refine a_if_ne rfl (fun _ => ?_) (fun z => absurd z (by decide))
      refine restore (GX.up (GX.up hg rfl (by decide)) rfl (by decide)) (fun K k1 k2 => Or.inl ⟨rfl, rfl, (k2 0).trans up2_at, ?_, k1, ?_⟩)
      · rw [k2 14, up2_ne (Or.inr (by decide))]
        exact up2_at
      · rw [k2 7, up2_ne (Or.inr (by decide)), up2_ne (Or.inr (by decide))]
        exact j7
    | true =>
      have xt : 0 ≤ x := xt rfl
      have y : J 421 = W1 := y rfl
      have o2 : W1 2 = I 421 2 := o2 rfl
      have org : Rg W1 := org rfl
      refine a_if_ge rfl (fun _ => ?_) (fun z => absurd xt z)
      refine a_s rfl rfl ?_
      refine a_puti rfl pfX12_33_12 rfl ?_
      refine a_l0 rfl rfl rfl ?_
      refine a_l1 rfl rfl rfl ?_
      refine a_if_ge rfl (fun _ => ?_) (fun z => absurd xt z)
      refine a_s rfl rfl ?_
      refine a_s rfl rfl ?_
      refine a_eV1 rfl lX12_243 mo_X12_throwsIf (h_throwsIf (z := false)) rfl rfl rfl ⟨12, _, rfl, rfl, rfl⟩ rfl ?_
      rw [if_neg Bool.false_ne_true]
      refine a_if_ne rfl (fun z => absurd rfl z) (fun _ => ?_)
      have hg1 : GX I (up2 J 420 14 (-1)) := GX.up hg rfl (by decide)
      have t2 : up2 J 420 14 (-1) 421 2 = I 421 2 := (congrFun (up2_row (by decide)) 2).trans ((congrFun y 2).trans o2)
      refine a_l0 rfl rfl rfl ?_
      refine a_l0 rfl rfl rfl ?_
      refine a_getq rfl gfX12_13_12 rfl (rfl) ?_
      refine a_s rfl rfl ?_
      refine a_ialdv (v := I 421 2) rfl (n := 2033) rfl ⟨by decide, by decide⟩ t2 ?_
      refine a_s rfl rfl ?_
      refine a_ic_ne rfl (fun c12 => ?_) (fun c12 => ?_)
      rotate_left
      · refine a_s rfl rfl ?_
        refine a_goto rfl ?_
        refine a_s rfl rfl ?_
        refine a_eV1 rfl lX12_243 mo_X12_throwsIf (h_throwsIf (z := true)) rfl rfl rfl ⟨12, _, rfl, rfl, rfl⟩ rfl ?_
        rw [if_pos rfl]
        refine a_if_eq rfl (fun z => absurd z (by decide)) (fun _ => ?_)
        refine restore (GX.up hg1 rfl (by decide)) (fun K k1 k2 => Or.inr (Or.inl ⟨rfl, c12, rfl, (k2 0).trans up2_at, ?_, k1, ?_⟩))
        · rw [k2 14, up2_ne (Or.inr (by decide))]
          exact up2_at
        · rw [k2 7, up2_ne (Or.inr (by decide)), up2_ne (Or.inr (by decide))]
          exact j7
      refine a_s rfl rfl ?_
      refine a_s rfl rfl ?_
      refine a_eV1 rfl lX12_243 mo_X12_throwsIf (h_throwsIf (z := false)) rfl rfl rfl ⟨12, _, rfl, rfl, rfl⟩ rfl ?_
      rw [if_neg Bool.false_ne_true]
      refine a_if_eq rfl (fun _ => ?_) (fun z => absurd rfl z)
      have sf : SF (dn W1) (pn W1) (up2 J 420 14 (-1)) := by
        unfold SF
        rw [up2_row (by decide), y]
        exact ⟨org.so, org.fr⟩
      generalize hM : up2 J 420 14 (-1) = M at hg1 t2 sf
      have m421 : M 421 = W1 := by
        subst hM
        rw [up2_row (by decide)]
        exact y
      have m0 : M 420 0 = 0 := by
        subst hM
        exact (up2_ne (Or.inr (by decide))).trans j0
      have m14 : M 420 14 = -1 := by
        subst hM
        exact up2_at
      refine a_l0 rfl rfl rfl ?_
      refine a_getq rfl gfX12_13_12 rfl (rfl) ?_
      refine a_s rfl rfl ?_
      refine a_s rfl rfl ?_
      refine a_ialdv (v := I 421 2) rfl (n := 2033) rfl ⟨by decide, by decide⟩ t2 ?_
      refine a_s rfl rfl ?_
      refine a_s rfl rfl ?_
      refine a_iastv (k := 2) rfl (n := 2033) rfl ⟨by decide, by decide⟩ rfl ?_
      refine a_l0 rfl rfl rfl ?_
      refine a_s rfl rfl ?_
      refine a_puti rfl pfX12_53_12 rfl ?_
      refine a_l0 rfl rfl rfl ?_
      refine a_getq rfl gfX12_13_12 rfl (rfl) ?_
      refine a_s rfl rfl ?_
      refine a_ialdv (v := I 421 2 + 1) rfl (n := 2033) rfl ⟨by decide, by decide⟩ ((congrFun (up2_row (by decide)) 2).trans up2_at) ?_
      have e9 : ∀ q, q ≠ 421 → q ≠ 420 → up2 (up2 M 421 2 (I 421 2 + 1)) 420 7 0 q = M q := fun q h1 h2 => by rw [up2_row h2, up2_row h1]
      refine a_iret rfl rfl ⟨_, _, _, rfl, Us.done hr hg1 sf, (e9 422 (by decide) (by decide)).trans (funext fun k => hg1.1 422 k rfl), (e9 425 (by decide) (by decide)).trans (funext fun k => hg1.1 425 k rfl), Or.inr (Or.inr ⟨rfl, c12, rfl, ?_, ?_, ?_, up2_at⟩)⟩
      · rw [up2_ne (Or.inr (by decide)), up2_row (by decide)]
        exact m0
      · rw [up2_ne (Or.inr (by decide)), up2_row (by decide)]
        exact m14
      · rw [up2_row (by decide), up2_ud, m421]
  refine a_s rfl rfl ?_
  refine a_s1 rfl rfl rfl rfl rfl rfl ?_
  refine a_forE (n := 1184) (fun j => [some (.ref 420), some (.int (nI j)), none]) (fun j => hp (cpR I 423 0 421 0 j) L w1 w2 t) (by simp [lsub, nI_0]) (by rw [cpR_0]) ?_ (fun j hj ih => ?_)
  · refine a_l1 rfl rfl rfl ?_
    refine a_s rfl rfl ?_
    refine a_ic_ge rfl (fun _ => k27) (fun c => absurd (Int32.le_refl _) c)
  · refine a_l1 rfl rfl rfl ?_
    refine a_s rfl rfl ?_
    refine a_ic_ge rfl (fun c => absurd c (nI_ge (b := 1184) hj (by omega))) (fun _ => ?_)
    refine a_l0 rfl rfl rfl ?_
    refine a_getq rfl gfX12_20_12 rfl (rfl) ?_
    refine a_l1 rfl rfl rfl ?_
    refine a_l0 rfl rfl rfl ?_
    refine a_getq rfl gfX12_13_12 rfl (rfl) ?_
    refine a_l1 rfl rfl rfl ?_
    refine a_ialdv (v := I 421 (j + 0)) rfl (n := 2033) rfl (inI_nI (by omega) (by omega)) (by rw [nI_clamp (by omega), cpR_row (by decide)]; rfl) ?_
    refine a_iastv (k := 0 + j) rfl (n := 1184) rfl (inI_nI (by omega) (by omega)) (by rw [nI_clamp (by omega)]; omega) ?_
    rw [cpR_succ]
    refine a_i1 rfl rfl rfl ?_
    refine a_goto rfl ?_
    exact a_back ih (by simp [lsub, nI_1]) rfl
end T79r
