/-! ===== days and call of the class ===== -/
section T79zg
variable {S : aS} {I : Nat → Nat → Int32} {L : Nat → Nat → Int64} {w1 w2 t : Nat} {nl len n fa : Nat} {cd fa' fn : Nat → Nat} {W : Nat → Int32}
set_option maxRecDepth 100000
theorem f_days (hD : Sd I 235 W) (hLg : Lg I 235 W) (hG : Rg W) (hL : LwS I 246 W nl len cd fa' fn) (hN : LwN W nl) (h13 : I 200 13 = nI n) (hn : n ≤ 12) (h12 : I 200 12 = nI fa) (hf : fa < 12) {x : Int32} : Sp S m_X11_days 20 1 6 [.ref 200, .int x] (hp I L w1 w2 t) (fun v h' => ∃ y, v = some (.int y) ∧ ∃ m, 1 ≤ m ∧ m ≤ 90 ∧ x = nI m ∧ ∃ J, h' = hp J L w1 w2 t ∧ (∀ q, (q < 235 ∨ 245 < q) → q ≠ 252 → q ≠ 253 → J q = reS I n fa q) ∧ Sd J 235 (dsW false cd fa' fn nl W m) ∧ Lg J 235 (dsW false cd fa' fn nl W m)) (fun E h' => E = exN 1 ∧ inB x 1 90 = false ∧ h' = hp I L w1 w2 0) := by
  have ok0 : DsOk nl W W := ⟨hG, rfl, rfl, hN, rfl, fun _ _ => rfl⟩
  refine Sp_of ok_X11_days rfl rfl ?_
  show AW S m_X11_days 20 _ _ 1 6 0 [some (.ref 200), some (.int x), none, none] [] (hp I L w1 w2 t)
  refine a_l1 rfl rfl rfl ?_
  refine a_s rfl rfl ?_
  refine a_s rfl rfl ?_
  refine a_callS rfl lX11_250 mo_X11_needNumber (f_needNumber) rfl rfl rfl rfl (fun v' h' hv => ?_) (fun E h' ex => ex)
  obtain ⟨rfl, hz, rfl⟩ := hv
  obtain ⟨z1, z2⟩ := of_decide_eq_true hz
  obtain ⟨m, m1, m2, em⟩ : ∃ m, 1 ≤ m ∧ m ≤ 90 ∧ x = nI m := by
    rw [Int32.le_iff_toInt_le] at z1 z2
    have z1 : (1 : Int) ≤ x.toInt := z1
    have z2 : x.toInt ≤ 90 := z2
    refine ⟨x.toInt.toNat, by omega, by omega, ?_⟩
    rw [← Int32.toInt_inj, nI_toInt (by omega)]
    omega
  subst em
  refine a_l0 rfl rfl rfl ?_
  refine a_eV0 rfl lX11_230 mo_X11_rememberAct (f_remember h13 hn h12 hf) rfl rfl rfl ⟨11, _, rfl, rfl, rfl⟩ rfl ?_
  have rr : ∀ q, q ≠ 200 → q < 288 → reS I n fa q = I q := fun q h1 h2 => reS_row h1 (Or.inl h2)
  have D0 : Sd (reS I n fa) 235 W := Sd.eq hD fun q g1 g2 => rr q (by omega) (by omega)
  have L0 : Lg (reS I n fa) 235 W := Lg.eq hLg (rr 244 (by decide) (by decide)) (rr 245 (by decide) (by decide)) rfl fun _ _ _ => rfl
  have hd3 : reS I n fa 235 3 = nI (dn W) := (Sd.fd D0 (f := 3) (g := 1) (by decide)).trans hG.1.2.2.2
  refine a_l0 rfl rfl rfl ?_
  refine a_getq rfl gfX11_37_11 rfl (rfl) ?_
  refine a_s rfl rfl ?_
  refine a_eV1 rfl lX11_200 mo_X5_bitsIn (sp_X5_bitsIn (nd := dn W) (a := 235) (by decide) hd3 hG.1.2.1) rfl rfl rfl ⟨5, _, rfl, rfl, rfl⟩ rfl ?_
  refine a_s2 rfl rfl rfl rfl rfl rfl ?_
  refine a_s rfl rfl ?_
  refine a_s3 rfl rfl rfl rfl rfl rfl ?_
  generalize hB : inS (dn W) (reS I n fa (235 + 8)) 1 = B
  refine a_inv (n := m) (fun i ls h => ∃ j J, ls = [some (.ref 200), some (.int (nI m)), some (.int B), some (.int (nI j))] ∧ h = hp J L w1 w2 t ∧ j ≤ m ∧ i = m - j ∧ Sd J 235 (dsW false cd fa' fn nl W j) ∧ Lg J 235 (dsW false cd fa' fn nl W j) ∧ ∀ q, (q < 235 ∨ 245 < q) → q ≠ 252 → q ≠ 253 → J q = reS I n fa q) ⟨0, _, rfl, rfl, Nat.zero_le _, rfl, D0, L0, fun _ _ _ _ => rfl⟩ ?_
  rintro i _ _ ⟨j, J, rfl, rfl, hj, hi, DJ, LJ, hfJ⟩ ih
  have okj := dsW_ok (calm := false) (cd := cd) (fa' := fa') (fn := fn) ok0 j
  refine a_l3 rfl rfl rfl ?_
  refine a_l1 rfl rfl rfl ?_
  refine a_ic_ge rfl (fun c => ?_) (fun c => ?_)
  · have hge := nI_ge_of c (by omega) (by omega)
    obtain rfl : j = m := by omega
    have hd9 : J 235 3 = nI (dn W) := ((Sd.fd DJ (f := 3) (g := 1) (by decide)).trans okj.1.1.2.2.2).trans (by rw [okj.2.2.1])
    refine a_l0 rfl rfl rfl ?_
    refine a_getq rfl gfX11_37_11 rfl (rfl) ?_
    refine a_s rfl rfl ?_
    refine a_eV1 rfl lX11_200 mo_X5_bitsIn (sp_X5_bitsIn (nd := dn W) (a := 235) (by decide) hd9 hG.1.2.1) rfl rfl rfl ⟨5, _, rfl, rfl, rfl⟩ rfl ?_
    refine a_l2 rfl rfl rfl ?_
    refine a_s rfl rfl ?_
    refine a_s rfl rfl ?_
    refine a_s rfl rfl ?_
    refine a_eS1 rfl lX11_261 mo_J6_bitCount_0f7a4 (sp_bitCount) rfl rfl rfl rfl ?_
    exact a_iret rfl rfl ⟨_, rfl, j, m1, m2, rfl, J, rfl, hfJ, DJ, LJ⟩
  have hjm := nI_lt_of c (by omega) (by omega)
  have es : dsW false cd fa' fn nl W (j + 1) = dyP cd fa' fn nl (dayW false (gwL cd fa' fn nl) (dsW false cd fa' fn nl W j)) := rfl
  have on : ∀ (K : Nat → Nat → Int32), Sd K 235 (dsW false cd fa' fn nl W (j + 1)) → Lg K 235 (dsW false cd fa' fn nl W (j + 1)) → (∀ q, (q < 235 ∨ 245 < q) → q ≠ 252 → q ≠ 253 → K q = reS I n fa q) → AW S m_X11_days 20 (fun v h' => ∃ y, v = some (.int y) ∧ ∃ m', 1 ≤ m' ∧ m' ≤ 90 ∧ nI m = nI m' ∧ ∃ J, h' = hp J L w1 w2 t ∧ (∀ q, (q < 235 ∨ 245 < q) → q ≠ 252 → q ≠ 253 → J q = reS I n fa q) ∧ Sd J 235 (dsW false cd fa' fn nl W m') ∧ Lg J 235 (dsW false cd fa' fn nl W m')) (fun E h' => E = exN 1 ∧ inB (nI m) 1 90 = false ∧ h' = hp I L w1 w2 0) 0 0 54 [some (.ref 200), some (.int (nI m)), some (.int B), some (.int (nI j))] [] (hp K L w1 w2 t) := by
    intro K hK hLK hfK
    refine a_iv3 (y := nI (j + 1)) rfl rfl rfl ((nI_succ j).symm) ?_
    refine a_goto rfl ?_
    exact ih (m - (j + 1)) _ _ (by omega) ⟨j + 1, K, rfl, rfl, by omega, rfl, hK, hLK, hfK⟩
  generalize dsW false cd fa' fn nl W j = V at DJ LJ okj es
  have lawJ : LwS J 246 V nl len cd fa' fn := LwS.eq hL (fun q g1 g2 => (hfJ q (by omega) (by omega) (by omega)).trans (rr q (by omega) (by omega))) okj.2.2.2.2.1 okj.2.2.2.2.2
  refine a_l0 rfl rfl rfl ?_
  refine a_getq rfl gfX11_37_11 rfl (rfl) ?_
  refine a_l0 rfl rfl rfl ?_
  refine a_getq rfl gfX11_44_11 rfl (rfl) ?_
  refine a_s rfl rfl ?_
  refine a_gV rfl lX11_254 mo_X5_passDay (f_passDay (a := 235) (b := 246) (dr := true) (by decide) (by decide) DJ okj.1 lawJ okj.2.2.2.1) rfl rfl rfl ⟨5, _, rfl, rfl, rfl⟩ rfl (fun v' h' hv => ?_)
  obtain ⟨rfl, K, rfl, hfK, DK⟩ := hv
  have DK : Sd K 235 (dayW false (gwL cd fa' fn nl) V) := DK
  have ok1 : DyOk nl V (dayW false (gwL cd fa' fn nl) V) := dayW_ok okj.dy
  have LK : Lg K 235 (dayW false (gwL cd fa' fn nl) V) := Lg.eq LJ (hfK 244 (by decide) (by decide) (by decide)) (hfK 245 (by decide) (by decide) (by decide)) (dayW_lg okj.dy (Or.inl rfl)) fun k h1 _ => dayW_lg okj.dy (Or.inr h1)
  have lawK : LwS K 246 (dayW false (gwL cd fa' fn nl) V) nl len cd fa' fn := LwS.eq lawJ (fun q g1 g2 => hfK q (by omega) (by omega) (by omega)) ok1.2.2.2.2.1 ok1.2.2.2.2.2
  have hfK2 : ∀ q, (q < 235 ∨ 245 < q) → q ≠ 252 → q ≠ 253 → K q = reS I n fa q := fun q g1 g2 g3 => (hfK q (by omega) g2 g3).trans (hfJ q g1 g2 g3)
  generalize dayW false (gwL cd fa' fn nl) V = U at DK ok1 LK lawK es
  refine a_l0 rfl rfl rfl ?_
  refine a_getq rfl gfX11_37_11 rfl (rfl) ?_
  refine a_getiv (v := U 4) rfl gfX11_185_5 rfl (Sd.fd DK (by decide)) ?_
  refine a_s rfl rfl ?_
  refine a_ic_ne rfl (fun c2 => ?_) (fun c2 => ?_)
  · have e : dsW false cd fa' fn nl W (j + 1) = U := by
      rw [es]
      unfold dyP
      rw [if_neg c2]
    exact on K (by rw [e]; exact DK) (by rw [e]; exact LK) hfK2
  have e : dsW false cd fa' fn nl W (j + 1) = ltF cd fa' fn nl U (dn U) := by
    rw [es]
    unfold dyP
    rw [if_pos c2]
  refine a_l0 rfl rfl rfl ?_
  refine a_gV rfl lX11_258 mo_X11_letParadeGoBy (f_parade DK LK ok1.1 lawK) rfl rfl rfl ⟨11, _, rfl, rfl, rfl⟩ rfl (fun v' h' hv => ?_)
  obtain ⟨rfl, N, rfl, hfN, DN, LN⟩ := hv
  exact on N (by rw [e]; exact DN) (by rw [e]; exact LN) (fun q g1 g2 g3 => (hfN q (by omega) (by omega) g2 g3).trans (hfK2 q g1 g2 g3))
theorem f_call (hD : Sd I 235 W) (hG : Rg W) (h13 : I 200 13 = nI n) (hn : n ≤ 12) (h12 : I 200 12 = nI fa) (hf : fa < 12) {x1 : Int32} : Sp S m_X11_call 19 2 12 [.ref 200, .int x1] (hp I L w1 w2 t) (QAc I n fa (vC (dn W) W x1) (passR (dn W) W (ixN x1)) (fun J => up2 (up2 J 239 (ixN x1) 0) 243 (ixN x1) 1) L w1 w2 t) (XAc I (vC (dn W) W x1) [(1, 0), (2, 2)] L w1 w2) := by
  have hd12 := hG.1.2.1
  have hd3 : I 235 3 = nI (dn W) := (Sd.fd hD (f := 3) (g := 1) (by decide)).trans hG.1.2.2.2
  refine Sp_of ok_X11_call rfl rfl ?_
  show AW S m_X11_call 19 _ _ 2 12 0 [some (.ref 200), some (.int x1), none] [] (hp I L w1 w2 t)
  refine a_l0 rfl rfl rfl ?_
  refine a_l1 rfl rfl rfl ?_
  refine a_callV rfl lX11_141 mo_X11_needDuty (f_needDuty hd3 (by omega)) rfl rfl rfl ⟨11, _, rfl, rfl, rfl⟩ rfl (fun v' h' hv => ?_) (fun E h' ex => ?_)
  rotate_left
  · obtain ⟨rfl, hz, rfl⟩ := ex
    exact ⟨⟨_, List.mem_cons_self, (if_neg (by rw [hz]; exact Bool.false_ne_true)), rfl⟩, rfl⟩
  obtain ⟨rfl, hz, rfl⟩ := hv
  obtain ⟨i, hi, rfl⟩ := inB_ix (by omega) hz
  have hx := ixN_nI (i := i) (by omega)
  refine a_l0 rfl rfl rfl ?_
  refine a_getq rfl gfX11_37_11 rfl (rfl) ?_
  refine a_eV1 rfl lX11_220 mo_X5_canBits (sp_X5_canBits (nd := dn W) (a := 235) (by decide) hd3 hd12) rfl rfl rfl ⟨5, _, rfl, rfl, rfl⟩ rfl ?_
  rw [can_same hD hG]
  refine a_l1 rfl rfl rfl ?_
  refine a_eS1 rfl lX11_223 mo_X11_has sp_X11_has rfl rfl rfl rfl ?_
  rw [hasF_bs hd12 hi]
  by_cases cw : canR (dn W) W i = true
  rotate_left
  · rw [Bool.eq_false_iff.mpr cw]
    refine a_if_ne rfl (fun c => absurd rfl c) (fun _ => ?_)
    exact a_throw rfl rfl rfl rfl tX11_ise rfl rfl rfl rfl rfl ⟨⟨_, (List.mem_cons_of_mem _ List.mem_cons_self), ((if_pos hz).trans (if_neg (by rw [hx]; exact cw))), rfl⟩, rfl⟩
  rw [cw]
  refine a_if_ne rfl (fun _ => ?_) (fun c => absurd c (by decide))
  refine a_l0 rfl rfl rfl ?_
  refine a_getq rfl gfX11_37_11 rfl (rfl) ?_
  refine a_l1 rfl rfl rfl ?_
  refine a_eV1 rfl lX11_176 mo_X5_passesOf (sp_X5_passesOf (nd := dn W) (a := 235) (by decide) hd3 hd12) rfl rfl rfl ⟨5, _, rfl, rfl, rfl⟩ rfl ?_
  rw [pass_same hD hG hi]
  refine a_s2 rfl rfl rfl rfl rfl rfl ?_
  refine a_l0 rfl rfl rfl ?_
  refine a_eV0 rfl lX11_230 mo_X11_rememberAct (f_remember h13 hn h12 hf) rfl rfl rfl ⟨11, _, rfl, rfl, rfl⟩ rfl ?_
  refine a_l0 rfl rfl rfl ?_
  refine a_getq rfl gfX11_37_11 rfl (rfl) ?_
  refine a_l1 rfl rfl rfl ?_
  refine a_eV0 rfl lX11_233 mo_X5_finish (sp_X5_finish (a := 235) (by decide)) rfl rfl rfl ⟨5, _, rfl, rfl, rfl⟩ rfl ?_
  have eg : finF (reS I n fa) 235 (nI i) = up2 (up2 (reS I n fa) 239 i 0) 243 i 1 := by
    unfold finF
    rw [setF_nI (show i < 12 by omega) (by decide), setF_nI (show i < 12 by omega) (by decide)]
  rw [eg]
  refine a_l2 rfl rfl rfl ?_
  exact a_iret rfl rfl (QAc.yes ((if_pos hz).trans (if_pos (by rw [hx]; exact cw))) (by rw [hx]) (by rw [hx]))
end T79zg
