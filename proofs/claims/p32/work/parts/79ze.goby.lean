/-! ===== the parade goes by, on both sides ===== -/
section T79ze
variable {S : aS} {I : Nat → Nat → Int32} {L : Nat → Nat → Int64} {w1 w2 t : Nat} {nl len : Nat} {cd fa fn : Nat → Nat} {W : Nat → Int32}
set_option maxRecDepth 100000
def inG (cd fa fn : Nat → Nat) (nl : Nat) (W : Nat → Int32) (k n : Nat) : Nat → Int32 := if dtF W k n = -1 then W else tell W (W 5) (dtF W k n) (nI k) (shameR W cd fa fn nl (ixN (dtF W k n)))
theorem inG_lo {k n j : Nat} (h : j < 95 ∨ 335 ≤ j) (h9 : j ≠ 9) : inG cd fa fn nl W k n j = W j := by
  unfold inG
  by_cases c : dtF W k n = -1
  · rw [if_pos c]
  · rw [if_neg c, tell_lo h h9]
theorem ltF_rg (hG : Rg W) {n : Nat} : Rg (ltF cd fa fn nl W n) ∧ pn (ltF cd fa fn nl W n) = pn W ∧ dn (ltF cd fa fn nl W n) = dn W := Rg.log hG fun k h1 h9 => ltF_lo (Or.inl h1) h9
theorem lt1_no (hG : Rg W) {k : Nat} (hk : dn W ≤ k) (h2 : k < 2 ^ 31) : lt1 cd fa fn nl W k = W := by
  have h12 := hG.1.2.1
  unfold lt1
  rcases dtF_ix (W := W) (k := k) (dn W) h12 with z | ⟨d, d1, d2, d3⟩
  · rw [if_pos z]
  · have := (pl_bd h12 d1 h2 d3).2
    omega
theorem ltF_all (hG : Rg W) : ∀ i, dn W + i ≤ 12 → ltF cd fa fn nl W (dn W + i) = ltF cd fa fn nl W (dn W) := by
  intro i
  induction i with
  | zero => exact fun _ => rfl
  | succ i ih =>
    intro h
    have ih := ih (by omega)
    show lt1 cd fa fn nl (ltF cd fa fn nl W (dn W + i)) (dn W + i) = _
    obtain ⟨g1, -, g3⟩ := ltF_rg (cd := cd) (fa := fa) (fn := fn) (nl := nl) hG (n := dn W + i)
    rw [lt1_no g1 (by rw [g3]; omega) (by omega), ih]
theorem h_goesBy (hG : Rg (I 421)) (hL : LawR (I 421) nl len cd fa fn) : Sp S m_X12_goesBy 22 0 0 [.ref 420] (hp I L w1 w2 t) (fun v h' => v = none ∧ ∃ J, h' = hp J L w1 w2 t ∧ (∀ q, q ≠ 421 → q ≠ 428 → J q = I q) ∧ J 421 = ltF cd fa fn nl (I 421) (dn (I 421))) nX := by
  generalize hW : I 421 = W at hG hL ⊢
  have h12 := hG.1.2.1
  refine Sp_of ok_X12_goesBy rfl rfl ?_
  show AW S m_X12_goesBy 22 _ _ 0 0 0 [some (.ref 420), none, none] [] (hp I L w1 w2 t)
  refine a_s rfl rfl ?_
  refine a_s1 rfl rfl rfl rfl rfl rfl ?_
  refine a_inv (n := dn W) (fun m ls h => ∃ k J, ls = [some (.ref 420), some (.int (nI k)), none] ∧ h = hp J L w1 w2 t ∧ k ≤ dn W ∧ m = dn W - k ∧ J 421 = ltF cd fa fn nl W k ∧ ∀ q, q ≠ 421 → q ≠ 428 → J q = I q) ⟨0, I, rfl, rfl, Nat.zero_le _, rfl, hW, fun _ _ _ => rfl⟩ ?_
  rintro m _ _ ⟨k, J, rfl, rfl, hk, hm, eJ, hf⟩ ih
  obtain ⟨gV, pV, dV⟩ := ltF_rg (cd := cd) (fa := fa) (fn := fn) (nl := nl) hG (n := k)
  have lawV : LawR (ltF cd fa fn nl W k) nl len cd fa fn := LawR.eq hL (ltF_lo (Or.inl (by decide)) (by decide)) (fun j hj => ltF_lo (Or.inr hj) (by omega))
  have es : ltF cd fa fn nl W (k + 1) = lt1 cd fa fn nl (ltF cd fa fn nl W k) k := rfl
  refine a_l1 rfl rfl rfl ?_
  refine a_l0 rfl rfl rfl ?_
  refine a_eV1 rfl lX12_74 mo_X12_duties sp_X12_duties rfl rfl rfl ⟨12, _, rfl, rfl, rfl⟩ rfl ?_
  refine a_top (y := nI (dn W)) (by rw [eJ, gV.1.2.2.2, dV]) ?_
  refine a_ic_ge rfl (fun c => ?_) (fun c => ?_)
  · have hge := nI_ge_of c (by omega) (by omega)
    obtain rfl : k = dn W := by omega
    exact a_vret rfl rfl ⟨rfl, J, rfl, hf, eJ⟩
  have hkn := nI_lt_of c (by omega) (by omega)
  have on : ∀ (K : Nat → Nat → Int32) (v : Option Value), K 421 = ltF cd fa fn nl W (k + 1) → (∀ q, q ≠ 421 → q ≠ 428 → K q = I q) → AW S m_X12_goesBy 22 (fun v h' => v = none ∧ ∃ J, h' = hp J L w1 w2 t ∧ (∀ q, q ≠ 421 → q ≠ 428 → J q = I q) ∧ J 421 = ltF cd fa fn nl W (dn W)) nX 0 0 41 [some (.ref 420), some (.int (nI k)), v] [] (hp K L w1 w2 t) := by
    intro K v hK hfK
    refine a_iv1 (y := nI (k + 1)) rfl rfl rfl ((nI_succ k).symm) ?_
    refine a_goto rfl ?_
    exact a_less (ih (dn W - (k + 1)) _ _ (by omega) ⟨k + 1, K, rfl, rfl, by omega, rfl, hK, hfK⟩) ⟨rfl, rfl, trivial⟩
  generalize ltF cd fa fn nl W k = V at eJ gV pV dV lawV es
  clear ih hm
  refine a_s rfl rfl ?_
  refine a_s2 rfl rfl rfl rfl rfl rfl ?_
  refine a_inv (n := dn W) (fun m ls h => ∃ d K, ls = [some (.ref 420), some (.int (nI k)), some (.int (nI d))] ∧ h = hp K L w1 w2 t ∧ d ≤ dn W ∧ m = dn W - d ∧ K 421 = inG cd fa fn nl V k d ∧ ∀ q, q ≠ 421 → q ≠ 428 → K q = I q) ⟨0, J, rfl, rfl, Nat.zero_le _, rfl, eJ, hf⟩ ?_
  rintro m _ _ ⟨d, K, rfl, rfl, hd, hm, eK, hfK⟩ ih
  have lo : ∀ j, j < 95 → j ≠ 9 → K 421 j = V j := fun j h1 h9 => by rw [eK]; exact inG_lo (Or.inl h1) h9
  have hi : ∀ j, 335 ≤ j → K 421 j = V j := fun j h1 => by rw [eK]; exact inG_lo (Or.inr h1) (by omega)
  obtain ⟨gK, pK, dK⟩ := Rg.log gV lo
  refine a_l2 rfl rfl rfl ?_
  refine a_l0 rfl rfl rfl ?_
  refine a_eV1 rfl lX12_74 mo_X12_duties sp_X12_duties rfl rfl rfl ⟨12, _, rfl, rfl, rfl⟩ rfl ?_
  refine a_top (y := nI (dn W)) (by rw [gK.1.2.2.2, dK, dV]) ?_
  refine a_ic_ge rfl (fun c => ?_) (fun c => ?_)
  · have hge := nI_ge_of c (by omega) (by omega)
    obtain rfl : d = dn W := by omega
    refine on K _ ?_ hfK
    rw [es, eK]
    unfold inG lt1
    rw [dV]
  have hdn := nI_lt_of c (by omega) (by omega)
  have eds : dtF V k (d + 1) = if dtF V k d = -1 then (if pl V d = nI k then nI d else -1) else dtF V k d := rfl
  refine a_l0 rfl rfl rfl ?_
  refine a_l2 rfl rfl rfl ?_
  refine a_eV1 rfl lX12_283 mo_X12_placeOf (sp_X12_placeOf (nd := dn W) h12 (by rw [gK.1.2.2.2, dK, dV]) hdn) rfl rfl rfl ⟨12, _, rfl, rfl, rfl⟩ rfl ?_
  refine a_top (y := pl V d) (by rw [← pl_log gV (by rw [dV]; exact hdn) lo]; unfold pl; rw [dK, dV]) ?_
  refine a_l1 rfl rfl rfl ?_
  refine a_ic_ne rfl (fun c2 => ?_) (fun c2 => ?_)
  · refine a_iv2 (y := nI (d + 1)) rfl rfl rfl ((nI_succ d).symm) ?_
    refine a_goto rfl ?_
    refine ih (dn W - (d + 1)) _ _ (by omega) ⟨d + 1, K, rfl, rfl, by omega, rfl, ?_, hfK⟩
    have ed : dtF V k (d + 1) = dtF V k d := by
      rw [eds, if_neg c2]
      by_cases cz : dtF V k d = -1
      · rw [if_pos cz, cz]
      · rw [if_neg cz]
    rw [eK]
    unfold inG
    rw [ed]
  have hpd := pl_bd (by rw [dV]; exact h12) (by rw [dV]; exact hdn) (show k < 2 ^ 31 by omega) c2
  have cz : dtF V k d = -1 := by
    rcases dtF_ix (W := V) (k := k) d (by omega) with z | ⟨e, e1, e2, e3⟩
    · exact z
    · exfalso
      have hpe := pl_bd (W := V) (d := e) (by rw [dV]; exact h12) (by rw [dV]; omega) (show k < 2 ^ 31 by omega) e3
      have := pl_inj (by rw [dV]; exact h12) (by rw [dV]; omega) (by rw [dV]; exact hdn) hpe.1 hpd.1 (e3.trans c2.symm)
      omega
  have eKV : K 421 = V := by
    rw [eK]
    unfold inG
    rw [if_pos cz]
  refine a_l0 rfl rfl rfl ?_
  refine a_l2 rfl rfl rfl ?_
  refine a_l1 rfl rfl rfl ?_
  refine a_gV rfl lX12_370 mo_X12_tells (h_tells (d := d) (nl := nl) (len := len) (cd := cd) (fa := fa) (fn := fn) (by rw [eKV]; exact gV) (by rw [eKV, dV]; exact hdn) (by rw [eKV]; exact lawV)) rfl rfl rfl ⟨12, _, rfl, rfl, rfl⟩ rfl (fun v' h' hv => ?_)
  obtain ⟨rfl, K2, rfl, hf2, eK2⟩ := hv
  refine a_iv2 (y := nI (d + 1)) rfl rfl rfl ((nI_succ d).symm) ?_
  refine a_goto rfl ?_
  refine ih (dn W - (d + 1)) _ _ (by omega) ⟨d + 1, K2, rfl, rfl, by omega, rfl, ?_, fun q h1 h2 => (hf2 q h1 h2).trans (hfK q h1 h2)⟩
  rw [eK2, eKV]
  unfold inG
  rw [eds, if_pos cz, if_pos c2, if_neg (nI_no (by omega)), ixN_nI (by omega)]
theorem f_parade (hD : Sd I 235 W) (hLg : Lg I 235 W) (hG : Rg W) (hL : LwS I 246 W nl len cd fa fn) : Sp S m_X11_letParadeGoBy 18 0 0 [.ref 200] (hp I L w1 w2 t) (fun v h' => v = none ∧ ∃ J, h' = hp J L w1 w2 t ∧ (∀ q, q ≠ 244 → q ≠ 245 → q ≠ 252 → q ≠ 253 → J q = I q) ∧ Sd J 235 (ltF cd fa fn nl W (dn W)) ∧ Lg J 235 (ltF cd fa fn nl W (dn W))) nX := by
  have h12 := hG.1.2.1
  refine Sp_of ok_X11_letParadeGoBy rfl rfl ?_
  show AW S m_X11_letParadeGoBy 18 _ _ 0 0 0 [some (.ref 200), none, none] [] (hp I L w1 w2 t)
  refine a_s rfl rfl ?_
  refine a_s1 rfl rfl rfl rfl rfl rfl ?_
  refine a_inv (n := 12) (fun m ls h => ∃ k J, ls = [some (.ref 200), some (.int (nI k)), none] ∧ h = hp J L w1 w2 t ∧ k ≤ 12 ∧ m = 12 - k ∧ Sd J 235 (ltF cd fa fn nl W k) ∧ Lg J 235 (ltF cd fa fn nl W k) ∧ ∀ q, q ≠ 244 → q ≠ 245 → q ≠ 252 → q ≠ 253 → J q = I q) ⟨0, I, rfl, rfl, Nat.zero_le _, rfl, hD, hLg, fun _ _ _ _ _ => rfl⟩ ?_
  rintro m _ _ ⟨k, J, rfl, rfl, hk, hm, DJ, LJ, hf⟩ ih
  refine a_l1 rfl rfl rfl ?_
  refine a_s rfl rfl ?_
  refine a_ic_ge rfl (fun c => ?_) (fun c => ?_)
  · have hge := nI_ge_of (b := 12) c (by omega) (by decide)
    obtain rfl : k = 12 := by omega
    have e := ltF_all (cd := cd) (fa := fa) (fn := fn) (nl := nl) hG (12 - dn W) (by omega)
    rw [show dn W + (12 - dn W) = 12 by omega] at e
    rw [e] at DJ LJ
    exact a_vret rfl rfl ⟨rfl, J, rfl, hf, DJ, LJ⟩
  have hk12 := nI_lt_of (b := 12) c (by omega) (by decide)
  obtain ⟨gV, pV, dV⟩ := ltF_rg (cd := cd) (fa := fa) (fn := fn) (nl := nl) hG (n := k)
  have lawV : LwS J 246 (ltF cd fa fn nl W k) nl len cd fa fn := LwS.eq hL (fun q g1 g2 => hf q (by omega) (by omega) (by omega) (by omega)) (ltF_lo (Or.inl (by decide)) (by decide)) (fun j hj => ltF_lo (Or.inr hj) (by omega))
  have es : ltF cd fa fn nl W (k + 1) = lt1 cd fa fn nl (ltF cd fa fn nl W k) k := rfl
  have on : ∀ (K : Nat → Nat → Int32) (v : Option Value), Sd K 235 (ltF cd fa fn nl W (k + 1)) → Lg K 235 (ltF cd fa fn nl W (k + 1)) → (∀ q, q ≠ 244 → q ≠ 245 → q ≠ 252 → q ≠ 253 → K q = I q) → AW S m_X11_letParadeGoBy 18 (fun v h' => v = none ∧ ∃ J, h' = hp J L w1 w2 t ∧ (∀ q, q ≠ 244 → q ≠ 245 → q ≠ 252 → q ≠ 253 → J q = I q) ∧ Sd J 235 (ltF cd fa fn nl W (dn W)) ∧ Lg J 235 (ltF cd fa fn nl W (dn W))) nX 0 0 53 [some (.ref 200), some (.int (nI k)), v] [] (hp K L w1 w2 t) := by
    intro K v hK hLK hfK
    refine a_iv1 (y := nI (k + 1)) rfl rfl rfl ((nI_succ k).symm) ?_
    refine a_goto rfl ?_
    exact a_less (ih (12 - (k + 1)) _ _ (by omega) ⟨k + 1, K, rfl, rfl, by omega, rfl, hK, hLK, hfK⟩) ⟨rfl, rfl, trivial⟩
  generalize ltF cd fa fn nl W k = V at DJ LJ gV pV dV lawV es
  have v12 : dn V ≤ 12 := gV.1.2.1
  refine a_l0 rfl rfl rfl ?_
  refine a_getq rfl gfX11_37_11 rfl (rfl) ?_
  refine a_l1 rfl rfl rfl ?_
  refine a_eV1 rfl lX11_266 mo_X5_dutyAt (f_dutyAt (k := k) DJ gV (by omega)) rfl rfl rfl ⟨5, _, rfl, rfl, rfl⟩ rfl ?_
  refine a_s2 rfl rfl rfl rfl rfl rfl ?_
  refine a_l2 rfl rfl rfl ?_
  refine a_s rfl rfl ?_
  rcases dtF_ix (W := V) (k := k) (dn V) v12 with z | ⟨d, d1, d2, d3⟩
  · refine a_ic_eq rfl (fun _ => ?_) (fun c => absurd z c)
    have e : ltF cd fa fn nl W (k + 1) = V := by
      rw [es]
      unfold lt1
      rw [if_pos z]
    exact on J _ (by rw [e]; exact DJ) (by rw [e]; exact LJ) hf
  rw [d2]
  refine a_ic_eq rfl (fun c => absurd c (nI_no (by omega))) (fun _ => ?_)
  refine a_l0 rfl rfl rfl ?_
  refine a_getq rfl gfX11_37_11 rfl (rfl) ?_
  refine a_getq rfl gfX11_211_5 rfl (rfl) ?_
  refine a_l0 rfl rfl rfl ?_
  refine a_getq rfl gfX11_37_11 rfl (rfl) ?_
  refine a_getiv (v := V 5) rfl gfX11_188_5 rfl (Sd.fd DJ (by decide)) ?_
  refine a_l2 rfl rfl rfl ?_
  refine a_l1 rfl rfl rfl ?_
  refine a_l0 rfl rfl rfl ?_
  refine a_getq rfl gfX11_44_11 rfl (rfl) ?_
  refine a_l0 rfl rfl rfl ?_
  refine a_getq rfl gfX11_37_11 rfl (rfl) ?_
  refine a_l2 rfl rfl rfl ?_
  refine a_gV rfl lX11_170 mo_X2_shameOf (sp_X2_shameOf (a := 235) (b := 246) (d := d) (by decide) (by decide) (by omega) lawV.1) rfl rfl rfl ⟨2, _, rfl, rfl, rfl⟩ rfl (fun v' h' hv => ?_)
  obtain ⟨rfl, K, rfl, hfK⟩ := hv
  refine a_top (y := shameR V cd fa fn nl d) (by unfold shameC shameR; rw [sum_same DJ gV lawV d1, sum_same DJ gV lawV d1, show J (235 + 5) d = vd V 2 d from Sd.row (k := 2) DJ (by omega) (by decide)]) ?_
  obtain ⟨r, n, r60, n60, l0, l1, l9, lr⟩ := LJ
  have k244 : K 244 = J 244 := hfK 244 (by decide) (by decide)
  have k245 : K 245 = J 245 := hfK 245 (by decide) (by decide)
  refine a_eV0 rfl lX11_385 mo_X1_add (f_add (r := r) (n := n) ((congrFun k244 0).trans l0) ((congrFun k244 1).trans l1) n60) rfl rfl rfl ⟨1, _, rfl, rfl, rfl⟩ rfl ?_
  have e : ltF cd fa fn nl W (k + 1) = tell V (V 5) (nI d) (nI k) (shameR V cd fa fn nl d) := by
    rw [es]
    unfold lt1
    rw [d2, if_neg (nI_no (by omega)), ixN_nI (by omega)]
  have fr : ∀ q, q ≠ 244 → q ≠ 245 → adL K n r (V 5) (nI d) (nI k) (shameR V cd fa fn nl d) q = K q := fun q h1 h2 => by
    unfold adL
    rw [up2_row h1, up2_row h1, up2_row h2, up2_row h2, up2_row h2, up2_row h2]
  refine on _ _ ?_ ?_ (fun q h1 h2 h3 h4 => by rw [fr q h1 h2, hfK q h3 h4]; exact hf q h1 h2 h3 h4)
  · rw [e]
    refine Sd.tell (Sd.eq DJ fun q g1 g2 => ?_)
    rw [fr q (by omega) (by omega), hfK q (by omega) (by omega)]
  · rw [e]
    refine Lg.add r60 n60 l9 (fun k' hk' j hj => ?_)
    rw [k245]
    exact lr k' hk' j hj
end T79ze
