/-! ===== a month more: the class ===== -/
section T79y2
variable {S : aS} {I : Nat → Nat → Int32} {L : Nat → Nat → Int64} {w1 w2 t : Nat} {a b d nl len : Nat} {cd fa fn : Nat → Nat} {W : Nat → Int32}
set_option maxRecDepth 100000
theorem f_passMonth (ha : stp a) (hb : lwp b) (hD : Sd I a W) (hG : Rg W) (hL : LwS I b W nl len cd fa fn) (hN : LwN W nl) : Sp S m_X5_passMonth 18 0 0 [.ref a, .ref b] (hp I L w1 w2 t) (fun v h' => v = none ∧ ∃ J, h' = hp J L w1 w2 t ∧ (∀ q, q ≠ a + 4 → q ≠ a + 5 → q ≠ b + 6 → q ≠ b + 7 → J q = I q) ∧ Sd J a (gwF (gwL cd fa fn nl) W (dn W))) nX := by
  have h12 := hG.1.2.1
  have h6 := hG.1.1
  have hab := stp_lwp a ha b hb
  have ok0 : GwOk nl W W := ⟨hG, rfl, rfl, hN, fun _ _ => rfl⟩
  refine Sp_of ok_X5_passMonth rfl rfl ?_
  show AW S m_X5_passMonth 18 _ _ 0 0 0 [some (.ref a), some (.ref b), none, none] [] (hp I L w1 w2 t)
  refine a_s rfl rfl ?_
  refine a_s2 rfl rfl rfl rfl rfl rfl ?_
  refine a_inv (n := dn W) (fun m ls h => ∃ j J, ls = [some (.ref a), some (.ref b), some (.int (nI j)), none] ∧ h = hp J L w1 w2 t ∧ j ≤ dn W ∧ m = dn W - j ∧ Sd J a (gwF (gwL cd fa fn nl) W j) ∧ ∀ q, q ≠ a + 4 → q ≠ a + 5 → q ≠ b + 6 → q ≠ b + 7 → J q = I q) ⟨0, I, rfl, rfl, Nat.zero_le _, rfl, hD, fun _ _ _ _ _ => rfl⟩ ?_
  rintro m _ _ ⟨j, J, rfl, rfl, hj, hm, hDJ, hf⟩ ih
  have okj := ok0.run (cd := cd) (fa := fa) (fn := fn) j hj
  have hdj : J a 3 = nI (dn W) := ((Sd.fd hDJ (f := 3) (g := 1) (by decide)).trans okj.1.1.2.2.2).trans (by rw [okj.2.2.1])
  refine a_l2 rfl rfl rfl ?_
  refine a_l0 rfl rfl rfl ?_
  refine a_getiv (v := nI (dn W)) rfl gfX5_63_5 (kS0 ha) hdj ?_
  refine a_ic_ge rfl (fun c => ?_) (fun c => ?_)
  · have hge := nI_ge_of c (by omega) (by omega)
    obtain rfl : j = dn W := by omega
    exact a_vret rfl rfl ⟨rfl, J, rfl, hf, hDJ⟩
  have hjn := nI_lt_of c (by omega) (by omega)
  have es : gwF (gwL cd fa fn nl) W (j + 1) = gwS (gwL cd fa fn nl) (gwF (gwL cd fa fn nl) W j) j := rfl
  have hLj : LwS J b (gwF (gwL cd fa fn nl) W j) nl len cd fa fn := LwS.eq hL (fun q g1 g2 => hf q (by omega) (by omega) (by omega) (by omega)) (okj.2.2.2.2 3 (fun d hd => by omega)) (fun k hk => okj.2.2.2.2 k (fun d hd => by omega))
  -- the loop goes on
  have on : ∀ (K : Nat → Nat → Int32) (v : Option Value), Sd K a (gwF (gwL cd fa fn nl) W (j + 1)) → (∀ q, q ≠ a + 4 → q ≠ a + 5 → q ≠ b + 6 → q ≠ b + 7 → K q = I q) → AW S m_X5_passMonth 18 (fun v h' => v = none ∧ ∃ J, h' = hp J L w1 w2 t ∧ (∀ q, q ≠ a + 4 → q ≠ a + 5 → q ≠ b + 6 → q ≠ b + 7 → J q = I q) ∧ Sd J a (gwF (gwL cd fa fn nl) W (dn W))) nX 0 0 65 [some (.ref a), some (.ref b), some (.int (nI j)), v] [] (hp K L w1 w2 t) := by
    intro K v hK hfK
    refine a_iv2 (y := nI (j + 1)) rfl rfl rfl ((nI_succ j).symm) ?_
    refine a_goto rfl ?_
    exact a_less (ih (dn W - (j + 1)) _ _ (by omega) ⟨j + 1, K, rfl, rfl, by omega, rfl, hK, hfK⟩) ⟨rfl, rfl, rfl, trivial⟩
  generalize hsj : gwF (gwL cd fa fn nl) W j = sj at hDJ okj es hLj on ⊢
  have nj : dn sj = dn W := okj.2.2.1
  have row : ∀ k, k < 6 → J (a + 3 + k) j = sj (23 + 6 * j + k) := fun k hk => hDJ.2.2 j (by omega) k hk
  obtain ⟨-, ⟨l, hl, el, e1⟩, -⟩ := okj.1.2.2.2 j (by omega)
  -- behind the hours: perhaps older
  have k48 : ∀ (K : Nat → Nat → Int32) (x : Int32) (v : Option Value), Sd K a (ud sj (23 + 6 * j + 1) x) → (∀ q, q ≠ a + 4 → q ≠ a + 5 → q ≠ b + 6 → q ≠ b + 7 → K q = I q) → (¬ sj (23 + 6 * j + 5) = 1 → x = mn 99 (sj (23 + 6 * j + 1) + (if sj (23 + 6 * j + 5) = 0 then gwL cd fa fn nl sj j else 0))) → (sj (23 + 6 * j + 5) = 1 → x = sj (23 + 6 * j + 1)) → AW S m_X5_passMonth 18 (fun v h' => v = none ∧ ∃ J, h' = hp J L w1 w2 t ∧ (∀ q, q ≠ a + 4 → q ≠ a + 5 → q ≠ b + 6 → q ≠ b + 7 → J q = I q) ∧ Sd J a (gwF (gwL cd fa fn nl) W (dn W))) nX 0 0 48 [some (.ref a), some (.ref b), some (.int (nI j)), v] [] (hp K L w1 w2 t) := by
    intro K x v hK hfK hx hx1
    refine a_l0 rfl rfl rfl ?_
    refine a_getq rfl gfX5_33_5 (kS0 ha) (rS9 ha) ?_
    refine a_l2 rfl rfl rfl ?_
    refine a_eSN1 rfl lX5_86 mo_X11_at (sp_X11_at (kS8 ha)) rfl rfl rfl rfl ?_
    refine a_top (y := sj (23 + 6 * j + 5)) ((atF_nI (show j < 12 by omega) (by decide)).trans ((hK.2.2 j (by omega) 5 (by decide)).trans (ud_ne (by omega)))) ?_
    refine a_s rfl rfl ?_
    refine a_ic_eq rfl (fun c1 => ?_) (fun c1 => ?_)
    · refine on K v ?_ hfK
      rw [es]
      unfold gwS
      rw [if_pos c1]
      rw [hx1 c1, ud_same] at hK
      exact hK
    refine a_l0 rfl rfl rfl ?_
    refine a_l2 rfl rfl rfl ?_
    refine a_eV0 rfl lX5_163 mo_X5_growOlder (sp_X5_growOlder ha) rfl rfl rfl ⟨5, _, kS0 ha, rfl, rfl⟩ rfl ?_
    have e2 : K (a + 5) j = sj (23 + 6 * j + 2) := (hK.2.2 j (by omega) 2 (by decide)).trans (ud_ne (by omega))
    have eg : growF K a (nI j) = up2 K (a + 5) j (mn 99 (sj (23 + 6 * j + 2) + 1)) := by
      unfold growF
      rw [setF_nI (show j < 12 by omega) (by decide), atF_nI (show j < 12 by omega) (by decide), e2]
      rfl
    rw [eg]
    refine on _ v ?_ (fun q h4 h5 h6 h7 => by rw [up2_row h5]; exact hfK q h4 h5 h6 h7)
    rw [es]
    unfold gwS
    rw [if_neg c1, ud_comm (show 23 + 6 * j + 2 ≠ 23 + 6 * j + 1 by omega), ← hx c1]
    exact Sd.ro (k := 2) hK (by omega) (by decide)
  refine a_l0 rfl rfl rfl ?_
  refine a_l2 rfl rfl rfl ?_
  refine a_eV1 rfl lX5_90 mo_X5_isWaiting (sp_X5_isWaiting (nd := dn W) ha hdj h12) rfl rfl rfl ⟨5, _, kS0 ha, rfl, rfl⟩ rfl ?_
  rw [show waitF (dn W) (J (a + 8)) (nI j) = decide (sj (23 + 6 * j + 5) = 0) by rw [waitF_nI hjn h12]; congr 1; rw [show J (a + 8) j = sj (23 + 6 * j + 5) from row 5 (by decide)]]
  by_cases c0 : sj (23 + 6 * j + 5) = 0
  rotate_left
  · rw [decide_eq_false c0]
    refine a_if_eq rfl (fun _ => ?_) (fun z => absurd rfl z)
    refine k48 J (sj (23 + 6 * j + 1)) none (by rw [ud_same]; exact hDJ) hf (fun _ => ?_) (fun _ => rfl)
    rw [if_neg c0, el, show nI l + 0 = nI (l + 0) from nI_addl l 0, show (99 : Int32) = nI 99 from rfl, mn_nI (by decide) (by omega)]
    congr 1
    omega
  rw [decide_eq_true c0]
  refine a_if_eq rfl (fun z => absurd z (by decide)) (fun _ => ?_)
  refine a_l0 rfl rfl rfl ?_
  refine a_getq rfl gfX5_21_5 (kS0 ha) (rS5 ha) ?_
  refine a_l2 rfl rfl rfl ?_
  refine a_eSN1 rfl lX5_86 mo_X11_at (sp_X11_at (kS4 ha)) rfl rfl rfl rfl ?_
  refine a_top (y := sj (23 + 6 * j + 1)) ((atF_nI (show j < 12 by omega) (by decide)).trans (row 1 (by decide))) ?_
  refine a_l1 rfl rfl rfl ?_
  refine a_l0 rfl rfl rfl ?_
  refine a_l2 rfl rfl rfl ?_
  refine a_gV rfl lX5_157 mo_X2_growthOf (sp_X2_growthOf (d := j) ha hb (by omega) hLj.1) rfl rfl rfl ⟨2, _, kW0 hb, rfl, rfl⟩ rfl (fun v' h' hv => ?_)
  obtain ⟨rfl, K, rfl, hfK⟩ := hv
  refine a_top (y := gwL cd fa fn nl sj j) (grow_same hDJ okj.1 hLj (by rw [nj]; exact hjn)) ?_
  refine a_s rfl rfl ?_
  refine a_s3 rfl rfl rfl rfl rfl rfl ?_
  refine a_l0 rfl rfl rfl ?_
  refine a_getq rfl gfX5_21_5 (kS0 ha) (rS5 ha) ?_
  refine a_l2 rfl rfl rfl ?_
  refine a_s rfl rfl ?_
  refine a_l3 rfl rfl rfl ?_
  refine a_min rfl lX5_127 mj_min rfl rfl ?_
  refine a_top (y := mn 99 (sj (23 + 6 * j + 1) + gwL cd fa fn nl sj j)) (rfl) ?_
  refine a_eSN0 rfl lX5_82 mo_X11_setAt (sp_X11_setAt (kS4 ha)) rfl rfl rfl rfl ?_
  rw [setF_nI (show j < 12 by omega) (by decide)]
  have DK : Sd K a sj := Sd.eq hDJ fun q g1 g2 => hfK q (by omega) (by omega)
  exact k48 _ _ _ (Sd.ro (k := 1) DK (by omega) (by decide)) (fun q h4 h5 h6 h7 => by rw [up2_row h4, hfK q h6 h7]; exact hf q h4 h5 h6 h7) (fun _ => by rw [if_pos c0]) (fun z => by rw [c0] at z; exact absurd z (by decide))
end T79y2
