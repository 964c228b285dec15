/-! ===== the reference's acts, exactly (printed by program) ===== -/
section T79s
variable {S : aS} {I : Nat → Nat → Int32} {L : Nat → Nat → Int64} {w1 w2 t : Nat} {nd np r : Nat}
set_option maxRecDepth 100000
def ixN (x : Int32) : Nat := x.toNatClampNeg
theorem ixN_nI {i : Nat} (h : i < 2 ^ 31) : ixN (nI i) = i := nI_clamp h
theorem inB_ix {n : Nat} {x : Int32} (hn : n < 2 ^ 31) (h : inB x 0 (nI n - 1) = true) : ∃ j, j < n ∧ x = nI j := isIx hn (by rw [h]; rfl)
theorem h_remembers (er : I 420 7 = nI r) (hr12 : r ≤ 12) : SpE S m_X12_remembers 12 [.ref 420] (hp I L w1 w2 t) none (hp (remH I r) L w1 w2 t) := by
  refine SpE_of ok_X12_remembers rfl rfl ?_
  show AW S m_X12_remembers 12 _ _ 0 0 0 [some (.ref 420), none] [] (hp I L w1 w2 t)
  refine a_l0 rfl rfl rfl ?_
  refine a_geti rfl gfX12_53_12 rfl ?_
  refine a_top (y := nI r) (er) ?_
  refine a_s rfl rfl ?_
  refine a_ic_ne rfl (fun c => ?_) (fun c => ?_)
  · have h12 : ¬ r = 12 := fun z => c (by rw [z]; rfl)
    unfold remH
    rw [if_neg h12]
    refine a_l0 rfl rfl rfl ?_
    refine a_s rfl rfl ?_
    refine a_geti rfl gfX12_53_12 rfl ?_
    refine a_top (y := nI r) (er) ?_
    refine a_s rfl rfl ?_
    refine a_s rfl rfl ?_
    refine a_top (y := nI (r + 1)) ((nI_succ _).symm) ?_
    refine a_puti rfl pfX12_53_12 rfl ?_
    exact rem2 (by omega) up2_at ⟨rfl, rfl⟩
  · have h12 : r = 12 := nI_inj (by omega) (by decide) c
    subst h12
    unfold remH
    rw [if_pos rfl]
    refine a_s rfl rfl ?_
    refine a_s1 rfl rfl rfl rfl rfl rfl ?_
    refine a_forE (n := 3685) (fun j => [some (.ref 420), some (.int (nI j))]) (fun j => hp (cpR I 425 0 425 335 j) L w1 w2 t) (by simp [lsub, nI_0]) (by rw [cpR_0]) ?_ (fun j hj ih => ?_)
    · refine a_l1 rfl rfl rfl ?_
      refine a_s rfl rfl ?_
      refine a_ic_ge rfl (fun _ => ?_) (fun c => absurd (Int32.le_refl _) c)
      refine a_goto rfl ?_
      exact rem2 (m := 11) (by decide) ((congrFun (cpR_row (by decide)) 7).trans er) ⟨rfl, rfl⟩
    · refine a_l1 rfl rfl rfl ?_
      refine a_s rfl rfl ?_
      refine a_ic_ge rfl (fun c => absurd c (nI_ge (b := 3685) hj (by omega))) (fun _ => ?_)
      refine a_l0 rfl rfl rfl ?_
      refine a_getq rfl gfX12_26_12 rfl (rfl) ?_
      refine a_l1 rfl rfl rfl ?_
      refine a_l0 rfl rfl rfl ?_
      refine a_getq rfl gfX12_26_12 rfl (rfl) ?_
      refine a_l1 rfl rfl rfl ?_
      refine a_s rfl rfl ?_
      refine a_s rfl rfl ?_
      refine a_top (y := nI (j + 335)) (nI_addl j 335) ?_
      refine a_ialdv (v := I 425 (j + 335)) rfl (n := 4020) rfl (inI_nI (by omega) (by omega)) (by rw [nI_clamp (by omega)]; exact cpR_out (by omega)) ?_
      refine a_iastv (k := 0 + j) rfl (n := 4020) rfl (inI_nI (by omega) (by omega)) (by rw [nI_clamp (by omega)]; omega) ?_
      rw [cpR_succ]
      refine a_i1 rfl rfl rfl ?_
      refine a_goto rfl ?_
      exact a_back ih (by simp [lsub, nI_1]) rfl
theorem remH_421 : remH I r 421 = I 421 := by
  unfold remH
  by_cases c : r = 12
  · rw [if_pos c, cpR_row (by decide), cpR_row (by decide)]
  · rw [if_neg c, cpR_row (by decide), up2_row (by decide)]
/-- an act: refused, or done behind its being remembered -/
def QA (I : Nat → Nat → Int32) (r : Nat) (c v : Int32) (f : (Nat → Nat → Int32) → Nat → Nat → Int32) (L : Nat → Nat → Int64) (w1 w2 t : Nat) : Option Value → aH → Prop := fun v' h' => (c = 0 ∧ v' = some (.int v) ∧ h' = hp (f (remH (up2 I 420 0 0) r)) L w1 w2 t) ∨ (¬ c = 0 ∧ v' = some (.int 0) ∧ h' = hp (up2 (up2 I 420 0 0) 420 0 c) L w1 w2 t)
theorem QA.no {c v k : Int32} {f : (Nat → Nat → Int32) → Nat → Nat → Int32} (hc : c = k) (hk : ¬ k = 0) : QA I r c v f L w1 w2 t (some (.int 0)) (hp (up2 (up2 I 420 0 0) 420 0 k) L w1 w2 t) := by
  subst hc
  exact Or.inr ⟨hk, rfl, rfl⟩
theorem QA.yes {c v x : Int32} {f : (Nat → Nat → Int32) → Nat → Nat → Int32} {J : Nat → Nat → Int32} (hc : c = 0) (hx : x = v) (hJ : J = f (remH (up2 I 420 0 0) r)) : QA I r c v f L w1 w2 t (some (.int x)) (hp J L w1 w2 t) := Or.inl ⟨hc, by rw [hx], by rw [hJ]⟩
def vS (nd : Nat) (W : Nat → Int32) (k x : Int32) : Int32 := if inB x 0 (nI nd - 1) = true then (if W (23 + 6 * ixN x + 5) = k then 0 else 2) else 1
def vC (nd : Nat) (W : Nat → Int32) (x : Int32) : Int32 := if inB x 0 (nI nd - 1) = true then (if canR nd W (ixN x) = true then 0 else 2) else 1
def vH (nd np : Nat) (W : Nat → Int32) (x y : Int32) : Int32 := if inB x 0 (nI nd - 1) = true ∧ inB y 0 (nI np - 1) = true then (if W (23 + 6 * ixN x + 0) = y then 2 else if W (23 + 6 * ixN x + 5) = 1 then 3 else 0) else 1
def vL (nd : Nat) (x y : Int32) : Int32 := if inB x 0 (nI nd - 1) = true ∧ (y = -1 ∨ inB y 0 (nI nd - 1) = true) then (if x = y then 2 else 0) else 1
def vF (np : Nat) (x y : Int32) : Int32 := if inB x 0 (nI np - 1) = true then (if inB y 0 9 = true then 0 else 2) else 1
theorem h_isNow {i : Nat} (hi : i < 12) {x : Int32} : SpE S m_X12_isNow 13 [.ref 420, .int (nI i), .int x] (hp I L w1 w2 t) none (hp (up2 I 421 (23 + 6 * i + 5) x) L w1 w2 t) := by
  refine SpE_of ok_X12_isNow rfl rfl ?_
  show AW S m_X12_isNow 13 _ _ 0 0 0 [some (.ref 420), some (.int (nI i)), some (.int x)] [] (hp I L w1 w2 t)
  refine a_l0 rfl rfl rfl ?_
  refine a_getq rfl gfX12_13_12 rfl (rfl) ?_
  refine a_l1 rfl rfl rfl ?_
  refine a_s rfl rfl ?_
  refine a_eS1 rfl lX12_60 mo_X12_at (sp_X12_at (d := i) (k := 5)) rfl rfl rfl rfl ?_
  refine a_l2 rfl rfl rfl ?_
  refine a_iastv (k := 23 + 6 * i + 5) rfl (n := 2033) rfl (inI_nI (by omega) (by omega)) (nI_clamp (by omega)) ?_
  exact a_vret rfl rfl ⟨rfl, rfl⟩
theorem h_finishes {i : Nat} (hi : i < 12) : SpE S m_X12_finishes 14 [.ref 420, .int (nI i)] (hp I L w1 w2 t) none (hp (up2 (up2 I 421 (23 + 6 * i + 1) 0) 421 (23 + 6 * i + 5) 1) L w1 w2 t) := by
  refine SpE_of ok_X12_finishes rfl rfl ?_
  show AW S m_X12_finishes 14 _ _ 0 0 0 [some (.ref 420), some (.int (nI i))] [] (hp I L w1 w2 t)
  refine a_l0 rfl rfl rfl ?_
  refine a_getq rfl gfX12_13_12 rfl (rfl) ?_
  refine a_l1 rfl rfl rfl ?_
  refine a_s rfl rfl ?_
  refine a_eS1 rfl lX12_60 mo_X12_at (sp_X12_at (d := i) (k := 1)) rfl rfl rfl rfl ?_
  refine a_s rfl rfl ?_
  refine a_iastv (k := 23 + 6 * i + 1) rfl (n := 2033) rfl (inI_nI (by omega) (by omega)) (nI_clamp (by omega)) ?_
  refine a_l0 rfl rfl rfl ?_
  refine a_l1 rfl rfl rfl ?_
  refine a_s rfl rfl ?_
  refine a_eV0 rfl lX12_354 mo_X12_isNow (h_isNow hi) rfl rfl rfl ⟨12, _, rfl, rfl, rfl⟩ rfl ?_
  exact a_vret rfl rfl ⟨rfl, rfl⟩
theorem h_put (hs : SO nd np (I 421)) (er : I 420 7 = nI r) (hr12 : r ≤ 12) {x1 : Int32} : Sp S m_X12_put 16 0 0 [.ref 420, .int x1] (hp I L w1 w2 t) (QA I r (vS nd (I 421) 0 x1) (mn 99 (I 421 (23 + 6 * ixN x1 + 2) + 1)) (fun J => up2 J 421 (23 + 6 * ixN x1 + 2) (mn 99 (I 421 (23 + 6 * ixN x1 + 2) + 1))) L w1 w2 t) nX := by
  have hn := hs.n
  have hp6 := hs.p
  have e21 : up2 I 420 0 0 421 = I 421 := up2_row (by decide)
  have er0 : up2 I 420 0 0 420 7 = nI r := (up2_ne (Or.inr (by decide))).trans er
  have s0 : SO nd np (up2 I 420 0 0 421) := by rw [e21]; exact hs
  have s1 : SO nd np (remH (up2 I 420 0 0) r 421) := by rw [remH_421]; exact s0
  have e22 : remH (up2 I 420 0 0) r 421 = I 421 := remH_421.trans e21
  refine Sp_of ok_X12_put rfl rfl ?_
  show AW S m_X12_put 16 _ _ 0 0 0 [some (.ref 420), some (.int x1)] [] (hp I L w1 w2 t)
  refine a_l0 rfl rfl rfl ?_
  refine a_s rfl rfl ?_
  refine a_puti rfl pfX12_3_12 rfl ?_
  refine a_l0 rfl rfl rfl ?_
  refine a_l0 rfl rfl rfl ?_
  refine a_l1 rfl rfl rfl ?_
  refine a_eV1 rfl lX12_289 mo_X12_noDuty (r_X12_noDuty s0) rfl rfl rfl ⟨12, _, rfl, rfl, rfl⟩ rfl ?_
  obtain ⟨z, hz⟩ : ∃ z, inB x1 0 (nI nd - 1) = z := ⟨_, rfl⟩
  rw [hz]
  refine a_s rfl rfl ?_
  cases z with
  | false =>
    refine a_eV1 rfl lX12_243 mo_X12_throwsIf (h_throwsIf (z := true)) rfl rfl rfl ⟨12, _, rfl, rfl, rfl⟩ rfl ?_
    rw [if_pos rfl]
    refine a_if_ne rfl (fun _ => ?_) (fun c => absurd c (by decide))
    refine a_s rfl rfl ?_
    exact a_iret rfl rfl (QA.no (if_neg (by rw [hz]; exact Bool.false_ne_true)) (by decide))
  | true =>
    refine a_eV1 rfl lX12_243 mo_X12_throwsIf (h_throwsIf (z := false)) rfl rfl rfl ⟨12, _, rfl, rfl, rfl⟩ rfl ?_
    rw [if_neg Bool.false_ne_true]
    refine a_if_ne rfl (fun c => absurd rfl c) (fun _ => ?_)
    obtain ⟨i, hi, rfl⟩ := inB_ix (by omega) hz
    have hx := ixN_nI (i := i) (by omega)
    refine a_l0 rfl rfl rfl ?_
    refine a_l0 rfl rfl rfl ?_
    refine a_l1 rfl rfl rfl ?_
    refine a_eV1 rfl lX12_135 mo_X12_isWaiting (sp_X12_isWaiting (d := i) (by omega)) rfl rfl rfl ⟨12, _, rfl, rfl, rfl⟩ rfl ?_
    rw [show vd (up2 I 420 0 0 421) 5 i = I 421 (23 + 6 * i + 5) from congrFun e21 _]
    by_cases cw : I 421 (23 + 6 * i + 5) = 0
    · rw [decide_eq_true cw]
      refine a_if_ne rfl (fun _ => ?_) (fun c => absurd c (by decide))
      refine a_s rfl rfl ?_
      refine a_s rfl rfl ?_
      refine a_eV1 rfl lX12_243 mo_X12_throwsIf (h_throwsIf (z := false)) rfl rfl rfl ⟨12, _, rfl, rfl, rfl⟩ rfl ?_
      rw [if_neg Bool.false_ne_true]
      refine a_if_eq rfl (fun _ => ?_) (fun c => absurd rfl c)
      refine a_l0 rfl rfl rfl ?_
      refine a_eV0 rfl lX12_357 mo_X12_remembers (h_remembers er0 hr12) rfl rfl rfl ⟨12, _, rfl, rfl, rfl⟩ rfl ?_
      refine a_l0 rfl rfl rfl ?_
      refine a_getq rfl gfX12_13_12 rfl (rfl) ?_
      refine a_l1 rfl rfl rfl ?_
      refine a_s rfl rfl ?_
      refine a_eS1 rfl lX12_60 mo_X12_at (sp_X12_at (d := i) (k := 2)) rfl rfl rfl rfl ?_
      refine a_s rfl rfl ?_
      refine a_l0 rfl rfl rfl ?_
      refine a_l1 rfl rfl rfl ?_
      refine a_s rfl rfl ?_
      refine a_eV1 rfl lX12_63 mo_X12_of (sp_X12_of (d := i) (k := 2) (by omega) (by decide)) rfl rfl rfl ⟨12, _, rfl, rfl, rfl⟩ rfl ?_
      rw [show vd (remH (up2 I 420 0 0) r 421) 2 i = I 421 (23 + 6 * i + 2) from congrFun e22 _]
      refine a_s rfl rfl ?_
      refine a_s rfl rfl ?_
      refine a_min rfl lX12_295 mj_min rfl rfl ?_
      refine a_iastv (k := (23 + 6 * i + 2)) rfl (n := 2033) rfl (inI_nI (by omega) (by omega)) (nI_clamp (by omega)) ?_
      refine a_l0 rfl rfl rfl ?_
      refine a_l1 rfl rfl rfl ?_
      refine a_s rfl rfl ?_
      refine a_eV1 rfl lX12_63 mo_X12_of (sp_X12_of (d := i) (k := 2) (by omega) (by decide)) rfl rfl rfl ⟨12, _, rfl, rfl, rfl⟩ rfl ?_
      exact a_iret rfl rfl (QA.yes ((if_pos hz).trans (if_pos (by rw [hx]; exact cw))) (by rw [hx]; exact up2_at) (by rw [hx]; rfl))
    · rw [decide_eq_false cw]
      refine a_if_ne rfl (fun c => absurd rfl c) (fun _ => ?_)
      refine a_s rfl rfl ?_
      refine a_goto rfl ?_
      refine a_s rfl rfl ?_
      refine a_eV1 rfl lX12_243 mo_X12_throwsIf (h_throwsIf (z := true)) rfl rfl rfl ⟨12, _, rfl, rfl, rfl⟩ rfl ?_
      rw [if_pos rfl]
      refine a_if_eq rfl (fun c => absurd c (by decide)) (fun _ => ?_)
      refine a_s rfl rfl ?_
      exact a_iret rfl rfl (QA.no ((if_pos hz).trans (if_neg (by rw [hx]; exact cw))) (by decide))
theorem h_forget (hs : SO nd np (I 421)) (er : I 420 7 = nI r) (hr12 : r ≤ 12) {x1 : Int32} : Sp S m_X12_forget 16 0 0 [.ref 420, .int x1] (hp I L w1 w2 t) (QA I r (vS nd (I 421) 0 x1) (I 421 (23 + 6 * ixN x1 + 1)) (fun J => up2 J 421 (23 + 6 * ixN x1 + 5) 2) L w1 w2 t) nX := by
  have hn := hs.n
  have hp6 := hs.p
  have e21 : up2 I 420 0 0 421 = I 421 := up2_row (by decide)
  have er0 : up2 I 420 0 0 420 7 = nI r := (up2_ne (Or.inr (by decide))).trans er
  have s0 : SO nd np (up2 I 420 0 0 421) := by rw [e21]; exact hs
  have s1 : SO nd np (remH (up2 I 420 0 0) r 421) := by rw [remH_421]; exact s0
  have e22 : remH (up2 I 420 0 0) r 421 = I 421 := remH_421.trans e21
  refine Sp_of ok_X12_forget rfl rfl ?_
  show AW S m_X12_forget 16 _ _ 0 0 0 [some (.ref 420), some (.int x1)] [] (hp I L w1 w2 t)
  refine a_l0 rfl rfl rfl ?_
  refine a_s rfl rfl ?_
  refine a_puti rfl pfX12_3_12 rfl ?_
  refine a_l0 rfl rfl rfl ?_
  refine a_l0 rfl rfl rfl ?_
  refine a_l1 rfl rfl rfl ?_
  refine a_eV1 rfl lX12_289 mo_X12_noDuty (r_X12_noDuty s0) rfl rfl rfl ⟨12, _, rfl, rfl, rfl⟩ rfl ?_
  obtain ⟨z, hz⟩ : ∃ z, inB x1 0 (nI nd - 1) = z := ⟨_, rfl⟩
  rw [hz]
  refine a_s rfl rfl ?_
  cases z with
  | false =>
    refine a_eV1 rfl lX12_243 mo_X12_throwsIf (h_throwsIf (z := true)) rfl rfl rfl ⟨12, _, rfl, rfl, rfl⟩ rfl ?_
    rw [if_pos rfl]
    refine a_if_ne rfl (fun _ => ?_) (fun c => absurd c (by decide))
    refine a_s rfl rfl ?_
    exact a_iret rfl rfl (QA.no (if_neg (by rw [hz]; exact Bool.false_ne_true)) (by decide))
  | true =>
    refine a_eV1 rfl lX12_243 mo_X12_throwsIf (h_throwsIf (z := false)) rfl rfl rfl ⟨12, _, rfl, rfl, rfl⟩ rfl ?_
    rw [if_neg Bool.false_ne_true]
    refine a_if_ne rfl (fun c => absurd rfl c) (fun _ => ?_)
    obtain ⟨i, hi, rfl⟩ := inB_ix (by omega) hz
    have hx := ixN_nI (i := i) (by omega)
    refine a_l0 rfl rfl rfl ?_
    refine a_l0 rfl rfl rfl ?_
    refine a_l1 rfl rfl rfl ?_
    refine a_eV1 rfl lX12_135 mo_X12_isWaiting (sp_X12_isWaiting (d := i) (by omega)) rfl rfl rfl ⟨12, _, rfl, rfl, rfl⟩ rfl ?_
    rw [show vd (up2 I 420 0 0 421) 5 i = I 421 (23 + 6 * i + 5) from congrFun e21 _]
    by_cases cw : I 421 (23 + 6 * i + 5) = 0
    · rw [decide_eq_true cw]
      refine a_if_ne rfl (fun _ => ?_) (fun c => absurd c (by decide))
      refine a_s rfl rfl ?_
      refine a_s rfl rfl ?_
      refine a_eV1 rfl lX12_243 mo_X12_throwsIf (h_throwsIf (z := false)) rfl rfl rfl ⟨12, _, rfl, rfl, rfl⟩ rfl ?_
      rw [if_neg Bool.false_ne_true]
      refine a_if_eq rfl (fun _ => ?_) (fun c => absurd rfl c)
      refine a_l0 rfl rfl rfl ?_
      refine a_eV0 rfl lX12_357 mo_X12_remembers (h_remembers er0 hr12) rfl rfl rfl ⟨12, _, rfl, rfl, rfl⟩ rfl ?_
      refine a_l0 rfl rfl rfl ?_
      refine a_l1 rfl rfl rfl ?_
      refine a_s rfl rfl ?_
      refine a_eV0 rfl lX12_354 mo_X12_isNow (h_isNow (i := i) (by omega)) rfl rfl rfl ⟨12, _, rfl, rfl, rfl⟩ rfl ?_
      refine a_l0 rfl rfl rfl ?_
      refine a_l1 rfl rfl rfl ?_
      refine a_s rfl rfl ?_
      refine a_eV1 rfl lX12_63 mo_X12_of (sp_X12_of (d := i) (k := 1) (by omega) (by decide)) rfl rfl rfl ⟨12, _, rfl, rfl, rfl⟩ rfl ?_
      exact a_iret rfl rfl (QA.yes ((if_pos hz).trans (if_pos (by rw [hx]; exact cw))) (by rw [hx, show vd (up2 (remH (up2 I 420 0 0) r) 421 (23 + 6 * i + 5) 2 421) 1 i = remH (up2 I 420 0 0) r 421 (23 + 6 * i + 1) from up2_ne (Or.inr (by omega)), e22]) (by rw [hx]))
    · rw [decide_eq_false cw]
      refine a_if_ne rfl (fun c => absurd rfl c) (fun _ => ?_)
      refine a_s rfl rfl ?_
      refine a_goto rfl ?_
      refine a_s rfl rfl ?_
      refine a_eV1 rfl lX12_243 mo_X12_throwsIf (h_throwsIf (z := true)) rfl rfl rfl ⟨12, _, rfl, rfl, rfl⟩ rfl ?_
      rw [if_pos rfl]
      refine a_if_eq rfl (fun c => absurd c (by decide)) (fun _ => ?_)
      refine a_s rfl rfl ?_
      exact a_iret rfl rfl (QA.no ((if_pos hz).trans (if_neg (by rw [hx]; exact cw))) (by decide))
theorem h_recall (hs : SO nd np (I 421)) (er : I 420 7 = nI r) (hr12 : r ≤ 12) {x1 : Int32} : Sp S m_X12_recall 16 0 0 [.ref 420, .int x1] (hp I L w1 w2 t) (QA I r (vS nd (I 421) 2 x1) (I 421 (23 + 6 * ixN x1 + 2)) (fun J => up2 J 421 (23 + 6 * ixN x1 + 5) 0) L w1 w2 t) nX := by
  have hn := hs.n
  have hp6 := hs.p
  have e21 : up2 I 420 0 0 421 = I 421 := up2_row (by decide)
  have er0 : up2 I 420 0 0 420 7 = nI r := (up2_ne (Or.inr (by decide))).trans er
  have s0 : SO nd np (up2 I 420 0 0 421) := by rw [e21]; exact hs
  have s1 : SO nd np (remH (up2 I 420 0 0) r 421) := by rw [remH_421]; exact s0
  have e22 : remH (up2 I 420 0 0) r 421 = I 421 := remH_421.trans e21
  refine Sp_of ok_X12_recall rfl rfl ?_
  show AW S m_X12_recall 16 _ _ 0 0 0 [some (.ref 420), some (.int x1)] [] (hp I L w1 w2 t)
  refine a_l0 rfl rfl rfl ?_
  refine a_s rfl rfl ?_
  refine a_puti rfl pfX12_3_12 rfl ?_
  refine a_l0 rfl rfl rfl ?_
  refine a_l0 rfl rfl rfl ?_
  refine a_l1 rfl rfl rfl ?_
  refine a_eV1 rfl lX12_289 mo_X12_noDuty (r_X12_noDuty s0) rfl rfl rfl ⟨12, _, rfl, rfl, rfl⟩ rfl ?_
  obtain ⟨z, hz⟩ : ∃ z, inB x1 0 (nI nd - 1) = z := ⟨_, rfl⟩
  rw [hz]
  refine a_s rfl rfl ?_
  cases z with
  | false =>
    refine a_eV1 rfl lX12_243 mo_X12_throwsIf (h_throwsIf (z := true)) rfl rfl rfl ⟨12, _, rfl, rfl, rfl⟩ rfl ?_
    rw [if_pos rfl]
    refine a_if_ne rfl (fun _ => ?_) (fun c => absurd c (by decide))
    refine a_s rfl rfl ?_
    exact a_iret rfl rfl (QA.no (if_neg (by rw [hz]; exact Bool.false_ne_true)) (by decide))
  | true =>
    refine a_eV1 rfl lX12_243 mo_X12_throwsIf (h_throwsIf (z := false)) rfl rfl rfl ⟨12, _, rfl, rfl, rfl⟩ rfl ?_
    rw [if_neg Bool.false_ne_true]
    refine a_if_ne rfl (fun c => absurd rfl c) (fun _ => ?_)
    obtain ⟨i, hi, rfl⟩ := inB_ix (by omega) hz
    have hx := ixN_nI (i := i) (by omega)
    refine a_l0 rfl rfl rfl ?_
    refine a_l0 rfl rfl rfl ?_
    refine a_l1 rfl rfl rfl ?_
    refine a_eV1 rfl lX12_364 mo_X12_isForgotten (sp_X12_isForgotten (d := i) (by omega)) rfl rfl rfl ⟨12, _, rfl, rfl, rfl⟩ rfl ?_
    rw [show vd (up2 I 420 0 0 421) 5 i = I 421 (23 + 6 * i + 5) from congrFun e21 _]
    by_cases cw : I 421 (23 + 6 * i + 5) = 2
    · rw [decide_eq_true cw]
      refine a_if_ne rfl (fun _ => ?_) (fun c => absurd c (by decide))
      refine a_s rfl rfl ?_
      refine a_s rfl rfl ?_
      refine a_eV1 rfl lX12_243 mo_X12_throwsIf (h_throwsIf (z := false)) rfl rfl rfl ⟨12, _, rfl, rfl, rfl⟩ rfl ?_
      rw [if_neg Bool.false_ne_true]
      refine a_if_eq rfl (fun _ => ?_) (fun c => absurd rfl c)
      refine a_l0 rfl rfl rfl ?_
      refine a_eV0 rfl lX12_357 mo_X12_remembers (h_remembers er0 hr12) rfl rfl rfl ⟨12, _, rfl, rfl, rfl⟩ rfl ?_
      refine a_l0 rfl rfl rfl ?_
      refine a_l1 rfl rfl rfl ?_
      refine a_s rfl rfl ?_
      refine a_eV0 rfl lX12_354 mo_X12_isNow (h_isNow (i := i) (by omega)) rfl rfl rfl ⟨12, _, rfl, rfl, rfl⟩ rfl ?_
      refine a_l0 rfl rfl rfl ?_
      refine a_l1 rfl rfl rfl ?_
      refine a_s rfl rfl ?_
      refine a_eV1 rfl lX12_63 mo_X12_of (sp_X12_of (d := i) (k := 2) (by omega) (by decide)) rfl rfl rfl ⟨12, _, rfl, rfl, rfl⟩ rfl ?_
      exact a_iret rfl rfl (QA.yes ((if_pos hz).trans (if_pos (by rw [hx]; exact cw))) (by rw [hx, show vd (up2 (remH (up2 I 420 0 0) r) 421 (23 + 6 * i + 5) 0 421) 2 i = remH (up2 I 420 0 0) r 421 (23 + 6 * i + 2) from up2_ne (Or.inr (by omega)), e22]) (by rw [hx]))
    · rw [decide_eq_false cw]
      refine a_if_ne rfl (fun c => absurd rfl c) (fun _ => ?_)
      refine a_s rfl rfl ?_
      refine a_goto rfl ?_
      refine a_s rfl rfl ?_
      refine a_eV1 rfl lX12_243 mo_X12_throwsIf (h_throwsIf (z := true)) rfl rfl rfl ⟨12, _, rfl, rfl, rfl⟩ rfl ?_
      rw [if_pos rfl]
      refine a_if_eq rfl (fun c => absurd c (by decide)) (fun _ => ?_)
      refine a_s rfl rfl ?_
      exact a_iret rfl rfl (QA.no ((if_pos hz).trans (if_neg (by rw [hx]; exact cw))) (by decide))
theorem h_call (hs : SO nd np (I 421)) (er : I 420 7 = nI r) (hr12 : r ≤ 12) {x1 : Int32} : Sp S m_X12_call 19 0 0 [.ref 420, .int x1] (hp I L w1 w2 t) (QA I r (vC nd (I 421) x1) (passR nd (I 421) (ixN x1)) (fun J => up2 (up2 J 421 (23 + 6 * ixN x1 + 1) 0) 421 (23 + 6 * ixN x1 + 5) 1) L w1 w2 t) nX := by
  have hn := hs.n
  have hp6 := hs.p
  have e21 : up2 I 420 0 0 421 = I 421 := up2_row (by decide)
  have er0 : up2 I 420 0 0 420 7 = nI r := (up2_ne (Or.inr (by decide))).trans er
  have s0 : SO nd np (up2 I 420 0 0 421) := by rw [e21]; exact hs
  have s1 : SO nd np (remH (up2 I 420 0 0) r 421) := by rw [remH_421]; exact s0
  have e22 : remH (up2 I 420 0 0) r 421 = I 421 := remH_421.trans e21
  refine Sp_of ok_X12_call rfl rfl ?_
  show AW S m_X12_call 19 _ _ 0 0 0 [some (.ref 420), some (.int x1), none] [] (hp I L w1 w2 t)
  refine a_l0 rfl rfl rfl ?_
  refine a_s rfl rfl ?_
  refine a_puti rfl pfX12_3_12 rfl ?_
  refine a_l0 rfl rfl rfl ?_
  refine a_l0 rfl rfl rfl ?_
  refine a_l1 rfl rfl rfl ?_
  refine a_eV1 rfl lX12_289 mo_X12_noDuty (r_X12_noDuty s0) rfl rfl rfl ⟨12, _, rfl, rfl, rfl⟩ rfl ?_
  obtain ⟨z, hz⟩ : ∃ z, inB x1 0 (nI nd - 1) = z := ⟨_, rfl⟩
  rw [hz]
  refine a_s rfl rfl ?_
  cases z with
  | false =>
    refine a_eV1 rfl lX12_243 mo_X12_throwsIf (h_throwsIf (z := true)) rfl rfl rfl ⟨12, _, rfl, rfl, rfl⟩ rfl ?_
    rw [if_pos rfl]
    refine a_if_ne rfl (fun _ => ?_) (fun c => absurd c (by decide))
    refine a_s rfl rfl ?_
    exact a_iret rfl rfl (QA.no (if_neg (by rw [hz]; exact Bool.false_ne_true)) (by decide))
  | true =>
    refine a_eV1 rfl lX12_243 mo_X12_throwsIf (h_throwsIf (z := false)) rfl rfl rfl ⟨12, _, rfl, rfl, rfl⟩ rfl ?_
    rw [if_neg Bool.false_ne_true]
    refine a_if_ne rfl (fun c => absurd rfl c) (fun _ => ?_)
    obtain ⟨i, hi, rfl⟩ := inB_ix (by omega) hz
    have hx := ixN_nI (i := i) (by omega)
    refine a_l0 rfl rfl rfl ?_
    refine a_l0 rfl rfl rfl ?_
    refine a_l1 rfl rfl rfl ?_
    refine a_eV1 rfl lX12_280 mo_X12_canBeCalled (sp_X12_canBeCalled (nd := nd) hn s0.du s0.l hi) rfl rfl rfl ⟨12, _, rfl, rfl, rfl⟩ rfl ?_
    rw [e21]
    by_cases cw : canR nd (I 421) i = true
    · rw [cw]
      refine a_if_ne rfl (fun _ => ?_) (fun c => absurd c (by decide))
      refine a_s rfl rfl ?_
      refine a_s rfl rfl ?_
      refine a_eV1 rfl lX12_243 mo_X12_throwsIf (h_throwsIf (z := false)) rfl rfl rfl ⟨12, _, rfl, rfl, rfl⟩ rfl ?_
      rw [if_neg Bool.false_ne_true]
      refine a_if_eq rfl (fun _ => ?_) (fun c => absurd rfl c)
      refine a_l0 rfl rfl rfl ?_
      refine a_eV0 rfl lX12_357 mo_X12_remembers (h_remembers er0 hr12) rfl rfl rfl ⟨12, _, rfl, rfl, rfl⟩ rfl ?_
      refine a_l0 rfl rfl rfl ?_
      refine a_l1 rfl rfl rfl ?_
      refine a_eV1 rfl lX12_276 mo_X12_passesBy (sp_X12_passesBy (nd := nd) hn s1.du hi) rfl rfl rfl ⟨12, _, rfl, rfl, rfl⟩ rfl ?_
      refine a_s2 rfl rfl rfl rfl rfl rfl ?_
      refine a_l0 rfl rfl rfl ?_
      refine a_l1 rfl rfl rfl ?_
      refine a_eV0 rfl lX12_360 mo_X12_finishes (h_finishes (i := i) (by omega)) rfl rfl rfl ⟨12, _, rfl, rfl, rfl⟩ rfl ?_
      refine a_l2 rfl rfl rfl ?_
      exact a_iret rfl rfl (QA.yes ((if_pos hz).trans (if_pos (by rw [hx]; exact cw))) (by rw [hx, e22]) (by rw [hx]))
    · rw [Bool.eq_false_iff.mpr cw]
      refine a_if_ne rfl (fun c => absurd rfl c) (fun _ => ?_)
      refine a_s rfl rfl ?_
      refine a_goto rfl ?_
      refine a_s rfl rfl ?_
      refine a_eV1 rfl lX12_243 mo_X12_throwsIf (h_throwsIf (z := true)) rfl rfl rfl ⟨12, _, rfl, rfl, rfl⟩ rfl ?_
      rw [if_pos rfl]
      refine a_if_eq rfl (fun c => absurd c (by decide)) (fun _ => ?_)
      refine a_s rfl rfl ?_
      exact a_iret rfl rfl (QA.no ((if_pos hz).trans (if_neg (by rw [hx]; exact cw))) (by decide))
theorem h_hand (hs : SO nd np (I 421)) (er : I 420 7 = nI r) (hr12 : r ≤ 12) {x1 x2 : Int32} : Sp S m_X12_hand 16 0 0 [.ref 420, .int x1, .int x2] (hp I L w1 w2 t) (QA I r (vH nd np (I 421) x1 x2) (I 421 (23 + 6 * ixN x1 + 0)) (fun J => up2 J 421 (23 + 6 * ixN x1 + 0) x2) L w1 w2 t) nX := by
  have hn := hs.n
  have hp6 := hs.p
  have e21 : up2 I 420 0 0 421 = I 421 := up2_row (by decide)
  have er0 : up2 I 420 0 0 420 7 = nI r := (up2_ne (Or.inr (by decide))).trans er
  have s0 : SO nd np (up2 I 420 0 0 421) := by rw [e21]; exact hs
  have s1 : SO nd np (remH (up2 I 420 0 0) r 421) := by rw [remH_421]; exact s0
  have e22 : remH (up2 I 420 0 0) r 421 = I 421 := remH_421.trans e21
  refine Sp_of ok_X12_hand rfl rfl ?_
  show AW S m_X12_hand 16 _ _ 0 0 0 [some (.ref 420), some (.int x1), some (.int x2), none] [] (hp I L w1 w2 t)
  refine a_l0 rfl rfl rfl ?_
  refine a_s rfl rfl ?_
  refine a_puti rfl pfX12_3_12 rfl ?_
  refine a_l0 rfl rfl rfl ?_
  refine a_l0 rfl rfl rfl ?_
  refine a_l1 rfl rfl rfl ?_
  refine a_eV1 rfl lX12_289 mo_X12_noDuty (r_X12_noDuty s0) rfl rfl rfl ⟨12, _, rfl, rfl, rfl⟩ rfl ?_
  obtain ⟨z, hz⟩ : ∃ z, inB x1 0 (nI nd - 1) = z := ⟨_, rfl⟩
  rw [hz]
  cases z with
  | false =>
    refine a_if_ne rfl (fun _ => ?_) (fun c => absurd c (by decide))
    refine a_s rfl rfl ?_
    refine a_goto rfl ?_
    refine a_s rfl rfl ?_
    refine a_eV1 rfl lX12_243 mo_X12_throwsIf (h_throwsIf (z := true)) rfl rfl rfl ⟨12, _, rfl, rfl, rfl⟩ rfl ?_
    rw [if_pos rfl]
    refine a_if_ne rfl (fun _ => ?_) (fun c => absurd c (by decide))
    refine a_s rfl rfl ?_
    exact a_iret rfl rfl (QA.no (if_neg (fun z => by rw [hz] at z; exact Bool.false_ne_true z.1)) (by decide))
  | true =>
  refine a_if_ne rfl (fun c => absurd rfl c) (fun _ => ?_)
  refine a_l0 rfl rfl rfl ?_
  refine a_l2 rfl rfl rfl ?_
  refine a_eV1 rfl lX12_342 mo_X12_noPerson (r_X12_noPerson s0) rfl rfl rfl ⟨12, _, rfl, rfl, rfl⟩ rfl ?_
  obtain ⟨z2, hz2⟩ : ∃ z, inB x2 0 (nI np - 1) = z := ⟨_, rfl⟩
  rw [hz2]
  cases z2 with
  | false =>
    refine a_if_eq rfl (fun c => absurd c (by decide)) (fun _ => ?_)
    refine a_s rfl rfl ?_
    refine a_goto rfl ?_
    refine a_s rfl rfl ?_
    refine a_eV1 rfl lX12_243 mo_X12_throwsIf (h_throwsIf (z := true)) rfl rfl rfl ⟨12, _, rfl, rfl, rfl⟩ rfl ?_
    rw [if_pos rfl]
    refine a_if_ne rfl (fun _ => ?_) (fun c => absurd c (by decide))
    refine a_s rfl rfl ?_
    exact a_iret rfl rfl (QA.no (if_neg (fun z => by rw [hz2] at z; exact Bool.false_ne_true z.2)) (by decide))
  | true =>
  refine a_if_eq rfl (fun _ => ?_) (fun c => absurd rfl c)
  refine a_s rfl rfl ?_
  refine a_s rfl rfl ?_
  refine a_eV1 rfl lX12_243 mo_X12_throwsIf (h_throwsIf (z := false)) rfl rfl rfl ⟨12, _, rfl, rfl, rfl⟩ rfl ?_
  rw [if_neg Bool.false_ne_true]
  refine a_if_ne rfl (fun c => absurd rfl c) (fun _ => ?_)
  obtain ⟨i, hi, rfl⟩ := inB_ix (by omega) hz
  have hx := ixN_nI (i := i) (by omega)
  refine a_l0 rfl rfl rfl ?_
  refine a_l0 rfl rfl rfl ?_
  refine a_l1 rfl rfl rfl ?_
  refine a_s rfl rfl ?_
  refine a_eV1 rfl lX12_63 mo_X12_of (sp_X12_of (d := i) (k := 0) (by omega) (by decide)) rfl rfl rfl ⟨12, _, rfl, rfl, rfl⟩ rfl ?_
  rw [show vd (up2 I 420 0 0 421) 0 i = I 421 (23 + 6 * i + 0) from congrFun e21 _]
  refine a_l2 rfl rfl rfl ?_
  refine a_ic_ne rfl (fun c => ?_) (fun c => ?_)
  rotate_left
  · refine a_s rfl rfl ?_
    refine a_goto rfl ?_
    refine a_s rfl rfl ?_
    refine a_eV1 rfl lX12_243 mo_X12_throwsIf (h_throwsIf (z := true)) rfl rfl rfl ⟨12, _, rfl, rfl, rfl⟩ rfl ?_
    rw [if_pos rfl]
    refine a_if_ne rfl (fun _ => ?_) (fun c => absurd c (by decide))
    refine a_s rfl rfl ?_
    exact a_iret rfl rfl (QA.no ((if_pos ⟨hz, hz2⟩).trans (if_pos (by rw [hx]; exact c))) (by decide))
  refine a_s rfl rfl ?_
  refine a_s rfl rfl ?_
  refine a_eV1 rfl lX12_243 mo_X12_throwsIf (h_throwsIf (z := false)) rfl rfl rfl ⟨12, _, rfl, rfl, rfl⟩ rfl ?_
  rw [if_neg Bool.false_ne_true]
  refine a_if_ne rfl (fun c => absurd rfl c) (fun _ => ?_)
  refine a_l0 rfl rfl rfl ?_
  refine a_l0 rfl rfl rfl ?_
  refine a_l1 rfl rfl rfl ?_
  refine a_eV1 rfl lX12_246 mo_X12_isDone (sp_X12_isDone (d := i) (by omega)) rfl rfl rfl ⟨12, _, rfl, rfl, rfl⟩ rfl ?_
  rw [show vd (up2 I 420 0 0 421) 5 i = I 421 (23 + 6 * i + 5) from congrFun e21 _]
  refine a_s rfl rfl ?_
  by_cases cw : I 421 (23 + 6 * i + 5) = 1
  · rw [decide_eq_true cw]
    refine a_eV1 rfl lX12_243 mo_X12_throwsIf (h_throwsIf (z := true)) rfl rfl rfl ⟨12, _, rfl, rfl, rfl⟩ rfl ?_
    rw [if_pos rfl]
    refine a_if_eq rfl (fun c => absurd c (by decide)) (fun _ => ?_)
    refine a_s rfl rfl ?_
    exact a_iret rfl rfl (QA.no ((if_pos ⟨hz, hz2⟩).trans ((if_neg (by rw [hx]; exact c)).trans (if_pos (by rw [hx]; exact cw)))) (by decide))
  · rw [decide_eq_false cw]
    refine a_eV1 rfl lX12_243 mo_X12_throwsIf (h_throwsIf (z := false)) rfl rfl rfl ⟨12, _, rfl, rfl, rfl⟩ rfl ?_
    rw [if_neg Bool.false_ne_true]
    refine a_if_eq rfl (fun _ => ?_) (fun c => absurd rfl c)
    refine a_l0 rfl rfl rfl ?_
    refine a_eV0 rfl lX12_357 mo_X12_remembers (h_remembers er0 hr12) rfl rfl rfl ⟨12, _, rfl, rfl, rfl⟩ rfl ?_
    refine a_l0 rfl rfl rfl ?_
    refine a_l1 rfl rfl rfl ?_
    refine a_s rfl rfl ?_
    refine a_eV1 rfl lX12_63 mo_X12_of (sp_X12_of (d := i) (k := 0) (by omega) (by decide)) rfl rfl rfl ⟨12, _, rfl, rfl, rfl⟩ rfl ?_
    refine a_s3 rfl rfl rfl rfl rfl rfl ?_
    refine a_l0 rfl rfl rfl ?_
    refine a_getq rfl gfX12_13_12 rfl (rfl) ?_
    refine a_l1 rfl rfl rfl ?_
    refine a_s rfl rfl ?_
    refine a_eS1 rfl lX12_60 mo_X12_at (sp_X12_at (d := i) (k := 0)) rfl rfl rfl rfl ?_
    refine a_l2 rfl rfl rfl ?_
    refine a_iastv (k := (23 + 6 * i + 0)) rfl (n := 2033) rfl (inI_nI (by omega) (by omega)) (nI_clamp (by omega)) ?_
    refine a_l3 rfl rfl rfl ?_
    exact a_iret rfl rfl (QA.yes ((if_pos ⟨hz, hz2⟩).trans ((if_neg (by rw [hx]; exact c)).trans (if_neg (by rw [hx]; exact cw)))) (by rw [hx]; exact congrFun e22 _) (by rw [hx]))
theorem h_lean (hs : SO nd np (I 421)) (er : I 420 7 = nI r) (hr12 : r ≤ 12) {x1 x2 : Int32} : Sp S m_X12_lean 16 0 0 [.ref 420, .int x1, .int x2] (hp I L w1 w2 t) (QA I r (vL nd x1 x2) (I 421 (23 + 6 * ixN x1 + 4)) (fun J => up2 J 421 (23 + 6 * ixN x1 + 4) x2) L w1 w2 t) nX := by
  have hn := hs.n
  have hp6 := hs.p
  have e21 : up2 I 420 0 0 421 = I 421 := up2_row (by decide)
  have er0 : up2 I 420 0 0 420 7 = nI r := (up2_ne (Or.inr (by decide))).trans er
  have s0 : SO nd np (up2 I 420 0 0 421) := by rw [e21]; exact hs
  have s1 : SO nd np (remH (up2 I 420 0 0) r 421) := by rw [remH_421]; exact s0
  have e22 : remH (up2 I 420 0 0) r 421 = I 421 := remH_421.trans e21
  refine Sp_of ok_X12_lean rfl rfl ?_
  show AW S m_X12_lean 16 _ _ 0 0 0 [some (.ref 420), some (.int x1), some (.int x2), none] [] (hp I L w1 w2 t)
  refine a_l0 rfl rfl rfl ?_
  refine a_s rfl rfl ?_
  refine a_puti rfl pfX12_3_12 rfl ?_
  refine a_l0 rfl rfl rfl ?_
  refine a_l0 rfl rfl rfl ?_
  refine a_l1 rfl rfl rfl ?_
  refine a_eV1 rfl lX12_289 mo_X12_noDuty (r_X12_noDuty s0) rfl rfl rfl ⟨12, _, rfl, rfl, rfl⟩ rfl ?_
  obtain ⟨z, hz⟩ : ∃ z, inB x1 0 (nI nd - 1) = z := ⟨_, rfl⟩
  rw [hz]
  cases z with
  | false =>
    refine a_if_ne rfl (fun _ => ?_) (fun c => absurd c (by decide))
    refine a_s rfl rfl ?_
    refine a_goto rfl ?_
    refine a_s rfl rfl ?_
    refine a_eV1 rfl lX12_243 mo_X12_throwsIf (h_throwsIf (z := true)) rfl rfl rfl ⟨12, _, rfl, rfl, rfl⟩ rfl ?_
    rw [if_pos rfl]
    refine a_if_ne rfl (fun _ => ?_) (fun c => absurd c (by decide))
    refine a_s rfl rfl ?_
    exact a_iret rfl rfl (QA.no (if_neg (fun z => by rw [hz] at z; exact Bool.false_ne_true z.1)) (by decide))
  | true =>
  refine a_if_ne rfl (fun c => absurd rfl c) (fun _ => ?_)
  obtain ⟨i, hi, rfl⟩ := inB_ix (by omega) hz
  have hx := ixN_nI (i := i) (by omega)
  -- both are there
  have k31 : (x2 = -1 ∨ inB x2 0 (nI nd - 1) = true) → AW S m_X12_lean 16 (QA I r (vL nd (nI i) x2) (I 421 (23 + 6 * ixN (nI i) + 4)) (fun J => up2 J 421 (23 + 6 * ixN (nI i) + 4) x2) L w1 w2 t) nX 0 0 31 [some (.ref 420), some (.int (nI i)), some (.int x2), none] [.ref 420] (hp (up2 I 420 0 0) L w1 w2 t) := by
    intro hy
    refine a_s rfl rfl ?_
    refine a_s rfl rfl ?_
    refine a_eV1 rfl lX12_243 mo_X12_throwsIf (h_throwsIf (z := false)) rfl rfl rfl ⟨12, _, rfl, rfl, rfl⟩ rfl ?_
    rw [if_neg Bool.false_ne_true]
    refine a_if_ne rfl (fun c => absurd rfl c) (fun _ => ?_)
    refine a_l0 rfl rfl rfl ?_
    refine a_l1 rfl rfl rfl ?_
    refine a_l2 rfl rfl rfl ?_
    refine a_ic_ne rfl (fun c => ?_) (fun c => ?_)
    rotate_left
    · refine a_s rfl rfl ?_
      refine a_goto rfl ?_
      refine a_s rfl rfl ?_
      refine a_eV1 rfl lX12_243 mo_X12_throwsIf (h_throwsIf (z := true)) rfl rfl rfl ⟨12, _, rfl, rfl, rfl⟩ rfl ?_
      rw [if_pos rfl]
      refine a_if_eq rfl (fun c => absurd c (by decide)) (fun _ => ?_)
      refine a_s rfl rfl ?_
      exact a_iret rfl rfl (QA.no ((if_pos ⟨hz, hy⟩).trans (if_pos c)) (by decide))
    refine a_s rfl rfl ?_
    refine a_s rfl rfl ?_
    refine a_eV1 rfl lX12_243 mo_X12_throwsIf (h_throwsIf (z := false)) rfl rfl rfl ⟨12, _, rfl, rfl, rfl⟩ rfl ?_
    rw [if_neg Bool.false_ne_true]
    refine a_if_eq rfl (fun _ => ?_) (fun c => absurd rfl c)
    refine a_l0 rfl rfl rfl ?_
    refine a_eV0 rfl lX12_357 mo_X12_remembers (h_remembers er0 hr12) rfl rfl rfl ⟨12, _, rfl, rfl, rfl⟩ rfl ?_
    refine a_l0 rfl rfl rfl ?_
    refine a_l1 rfl rfl rfl ?_
    refine a_s rfl rfl ?_
    refine a_eV1 rfl lX12_63 mo_X12_of (sp_X12_of (d := i) (k := 4) (by omega) (by decide)) rfl rfl rfl ⟨12, _, rfl, rfl, rfl⟩ rfl ?_
    refine a_s3 rfl rfl rfl rfl rfl rfl ?_
    refine a_l0 rfl rfl rfl ?_
    refine a_getq rfl gfX12_13_12 rfl (rfl) ?_
    refine a_l1 rfl rfl rfl ?_
    refine a_s rfl rfl ?_
    refine a_eS1 rfl lX12_60 mo_X12_at (sp_X12_at (d := i) (k := 4)) rfl rfl rfl rfl ?_
    refine a_l2 rfl rfl rfl ?_
    refine a_iastv (k := (23 + 6 * i + 4)) rfl (n := 2033) rfl (inI_nI (by omega) (by omega)) (nI_clamp (by omega)) ?_
    refine a_l3 rfl rfl rfl ?_
    exact a_iret rfl rfl (QA.yes ((if_pos ⟨hz, hy⟩).trans (if_neg c)) (by rw [hx]; exact congrFun e22 _) (by rw [hx]))
  refine a_l2 rfl rfl rfl ?_
  refine a_s rfl rfl ?_
  refine a_ic_eq rfl (fun c => k31 (Or.inl c)) (fun c => ?_)
  refine a_l0 rfl rfl rfl ?_
  refine a_l2 rfl rfl rfl ?_
  refine a_eV1 rfl lX12_289 mo_X12_noDuty (r_X12_noDuty s0) rfl rfl rfl ⟨12, _, rfl, rfl, rfl⟩ rfl ?_
  obtain ⟨z2, hz2⟩ : ∃ z, inB x2 0 (nI nd - 1) = z := ⟨_, rfl⟩
  rw [hz2]
  cases z2 with
  | false =>
    refine a_if_eq rfl (fun c => absurd c (by decide)) (fun _ => ?_)
    refine a_s rfl rfl ?_
    refine a_goto rfl ?_
    refine a_s rfl rfl ?_
    refine a_eV1 rfl lX12_243 mo_X12_throwsIf (h_throwsIf (z := true)) rfl rfl rfl ⟨12, _, rfl, rfl, rfl⟩ rfl ?_
    rw [if_pos rfl]
    refine a_if_ne rfl (fun _ => ?_) (fun c => absurd c (by decide))
    refine a_s rfl rfl ?_
    exact a_iret rfl rfl (QA.no (if_neg (fun z => z.2.elim c (fun y => by rw [hz2] at y; exact Bool.false_ne_true y))) (by decide))
  | true =>
    exact a_if_eq rfl (fun _ => k31 (Or.inr hz2)) (fun c => absurd rfl c)
theorem h_free (hs : SO nd np (I 421)) (er : I 420 7 = nI r) (hr12 : r ≤ 12) {x1 x2 : Int32} : Sp S m_X12_free 16 0 0 [.ref 420, .int x1, .int x2] (hp I L w1 w2 t) (QA I r (vF np x1 x2) (I 421 (11 + 2 * ixN x1 + 1)) (fun J => up2 J 421 (11 + 2 * ixN x1 + 1) x2) L w1 w2 t) nX := by
  have hn := hs.n
  have hp6 := hs.p
  have e21 : up2 I 420 0 0 421 = I 421 := up2_row (by decide)
  have er0 : up2 I 420 0 0 420 7 = nI r := (up2_ne (Or.inr (by decide))).trans er
  have s0 : SO nd np (up2 I 420 0 0 421) := by rw [e21]; exact hs
  have s1 : SO nd np (remH (up2 I 420 0 0) r 421) := by rw [remH_421]; exact s0
  have e22 : remH (up2 I 420 0 0) r 421 = I 421 := remH_421.trans e21
  refine Sp_of ok_X12_free rfl rfl ?_
  show AW S m_X12_free 16 _ _ 0 0 0 [some (.ref 420), some (.int x1), some (.int x2), none] [] (hp I L w1 w2 t)
  refine a_l0 rfl rfl rfl ?_
  refine a_s rfl rfl ?_
  refine a_puti rfl pfX12_3_12 rfl ?_
  refine a_l0 rfl rfl rfl ?_
  refine a_l0 rfl rfl rfl ?_
  refine a_l1 rfl rfl rfl ?_
  refine a_eV1 rfl lX12_342 mo_X12_noPerson (r_X12_noPerson s0) rfl rfl rfl ⟨12, _, rfl, rfl, rfl⟩ rfl ?_
  obtain ⟨z, hz⟩ : ∃ z, inB x1 0 (nI np - 1) = z := ⟨_, rfl⟩
  rw [hz]
  refine a_s rfl rfl ?_
  cases z with
  | false =>
    refine a_eV1 rfl lX12_243 mo_X12_throwsIf (h_throwsIf (z := true)) rfl rfl rfl ⟨12, _, rfl, rfl, rfl⟩ rfl ?_
    rw [if_pos rfl]
    refine a_if_ne rfl (fun _ => ?_) (fun c => absurd c (by decide))
    refine a_s rfl rfl ?_
    exact a_iret rfl rfl (QA.no (if_neg (by rw [hz]; exact Bool.false_ne_true)) (by decide))
  | true =>
  refine a_eV1 rfl lX12_243 mo_X12_throwsIf (h_throwsIf (z := false)) rfl rfl rfl ⟨12, _, rfl, rfl, rfl⟩ rfl ?_
  rw [if_neg Bool.false_ne_true]
  refine a_if_ne rfl (fun c => absurd rfl c) (fun _ => ?_)
  obtain ⟨i, hi, rfl⟩ := inB_ix (by omega) hz
  have hx := ixN_nI (i := i) (by omega)
  refine a_l0 rfl rfl rfl ?_
  refine a_l2 rfl rfl rfl ?_
  refine a_s rfl rfl ?_
  refine a_s rfl rfl ?_
  refine a_eS1 rfl lX12_70 mo_X12_in sp_X12_in rfl rfl rfl rfl ?_
  obtain ⟨z2, hz2⟩ : ∃ z, inB x2 0 9 = z := ⟨_, rfl⟩
  rw [hz2]
  cases z2 with
  | false =>
    refine a_if_ne rfl (fun c => absurd rfl c) (fun _ => ?_)
    refine a_s rfl rfl ?_
    refine a_goto rfl ?_
    refine a_s rfl rfl ?_
    refine a_eV1 rfl lX12_243 mo_X12_throwsIf (h_throwsIf (z := true)) rfl rfl rfl ⟨12, _, rfl, rfl, rfl⟩ rfl ?_
    rw [if_pos rfl]
    refine a_if_eq rfl (fun c => absurd c (by decide)) (fun _ => ?_)
    refine a_s rfl rfl ?_
    exact a_iret rfl rfl (QA.no ((if_pos hz).trans (if_neg (by rw [hz2]; exact Bool.false_ne_true))) (by decide))
  | true =>
    refine a_if_ne rfl (fun _ => ?_) (fun c => absurd c (by decide))
    refine a_s rfl rfl ?_
    refine a_s rfl rfl ?_
    refine a_eV1 rfl lX12_243 mo_X12_throwsIf (h_throwsIf (z := false)) rfl rfl rfl ⟨12, _, rfl, rfl, rfl⟩ rfl ?_
    rw [if_neg Bool.false_ne_true]
    refine a_if_eq rfl (fun _ => ?_) (fun c => absurd rfl c)
    refine a_l0 rfl rfl rfl ?_
    refine a_eV0 rfl lX12_357 mo_X12_remembers (h_remembers er0 hr12) rfl rfl rfl ⟨12, _, rfl, rfl, rfl⟩ rfl ?_
    refine a_l0 rfl rfl rfl ?_
    refine a_l1 rfl rfl rfl ?_
    refine a_s rfl rfl ?_
    refine a_eV1 rfl lX12_252 mo_X12_ofPerson (sp_X12_ofPerson (d := i) (k := 1) (by omega) (by decide)) rfl rfl rfl ⟨12, _, rfl, rfl, rfl⟩ rfl ?_
    refine a_s3 rfl rfl rfl rfl rfl rfl ?_
    refine a_l0 rfl rfl rfl ?_
    refine a_getq rfl gfX12_13_12 rfl (rfl) ?_
    refine a_l1 rfl rfl rfl ?_
    refine a_s rfl rfl ?_
    refine a_eS1 rfl lX12_56 mo_X12_personAt (sp_X12_personAt (d := i) (k := 1)) rfl rfl rfl rfl ?_
    refine a_l2 rfl rfl rfl ?_
    refine a_iastv (k := (11 + 2 * i + 1)) rfl (n := 2033) rfl (inI_nI (by omega) (by omega)) (nI_clamp (by omega)) ?_
    refine a_l3 rfl rfl rfl ?_
    exact a_iret rfl rfl (QA.yes ((if_pos hz).trans (if_pos hz2)) (by rw [hx]; exact congrFun e22 _) (by rw [hx]))
end T79s
