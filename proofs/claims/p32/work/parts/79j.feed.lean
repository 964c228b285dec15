/-! ===== what a feed writes, on both sides ===== -/
section T79j
variable {S : aS} {I : Nat → Nat → Int32} {L : Nat → Nat → Int64} {w1 w2 t : Nat} {l : Nat} {x1 x2 x3 x4 x5 : Int32}
set_option maxRecDepth 100000
def gvF (x1 x2 x3 x4 x5 : Int32) (q : Nat) : Int32 := if q = 0 then x1 else if q = 1 then x2 else if q = 2 then x3 else if q = 3 then x4 else x5
/-- the j-th of twenty bytes -/
def fbF (x1 x2 x3 x4 x5 : Int32) (j : Nat) : Int32 := byA (gvF x1 x2 x3 x4 x5 (j / 4)) (nI (24 - 8 * (j % 4)))
/-- a tape's row behind j of them -/
def tpF (f : Nat → Int32) (l j : Nat) (x1 x2 x3 x4 x5 : Int32) : Nat → Int32 := fun k => if l ≤ k ∧ k < l + j then fbF x1 x2 x3 x4 x5 (k - l) else f k
theorem tpF_0 {f : Nat → Int32} : tpF f l 0 x1 x2 x3 x4 x5 = f := by
  funext k
  exact if_neg (by omega)
theorem by_ok : ∀ n, n < 256 → (nI n - 128).toInt8.toInt32 = nI n - 128 := by decide +kernel
theorem i8_rng (x : Int8) : ∃ n, n < 256 ∧ x.toInt32 = nI n - 128 := by
  have h1 := Int8.le_toInt x
  have h2 := Int8.toInt_lt x
  refine ⟨(x.toInt + 128).toNat, by omega, ?_⟩
  rw [← Int32.toInt_inj, Int8.toInt_toInt32, Int32.toInt_sub, nI_toInt (by omega), show (128 : Int32).toInt = 128 from rfl, Int.bmod_eq_of_le (by omega) (by omega)]
  omega
theorem tpF_bt {f : Nat → Int32} {j : Nat} (h : BtT f) : BtT (tpF f l j x1 x2 x3 x4 x5) := fun k hk => by
  unfold tpF
  by_cases c : l ≤ k ∧ k < l + j
  · rw [if_pos c]
    exact i8_rng _
  · rw [if_neg c]
    exact h k hk
theorem apH_at {x : Int32} {i : Nat} (hi : i < 4) : apH I l x 202 (l + i) = byA x (nI (24 - 8 * i)) := by
  unfold apH
  rcases i with _ | _ | _ | _ | i
  · rw [up2_row (by decide), up2_ne (Or.inr (by omega)), up2_row (by decide), up2_ne (Or.inr (by omega)), up2_row (by decide), up2_ne (Or.inr (by omega)), up2_row (by decide)]
    exact up2_at
  · rw [up2_row (by decide), up2_ne (Or.inr (by omega)), up2_row (by decide), up2_ne (Or.inr (by omega)), up2_row (by decide)]
    exact up2_at
  · rw [up2_row (by decide), up2_ne (Or.inr (by omega)), up2_row (by decide)]
    exact up2_at
  · rw [up2_row (by decide)]
    exact up2_at
  · omega
theorem apH_out {x : Int32} {k : Nat} (h : k < l ∨ l + 4 ≤ k) : apH I l x 202 k = I 202 k := by
  unfold apH
  rw [up2_row (by decide), up2_ne (Or.inr (by omega)), up2_row (by decide), up2_ne (Or.inr (by omega)), up2_row (by decide), up2_ne (Or.inr (by omega)), up2_row (by decide), up2_ne (Or.inr (by omega))]
/-- a block of four -/
theorem fbF_4 {q i : Nat} (hi : i < 4) : fbF x1 x2 x3 x4 x5 (4 * q + i) = byA (gvF x1 x2 x3 x4 x5 q) (nI (24 - 8 * i)) := by
  unfold fbF
  rw [show (4 * q + i) / 4 = q by omega, show (4 * q + i) % 4 = i by omega]
theorem fdH_202 : fdH I l x1 x2 x3 x4 x5 202 = tpF (I 202) l 20 x1 x2 x3 x4 x5 := by
  funext k
  unfold tpF
  by_cases c : l ≤ k ∧ k < l + 20
  · rw [if_pos c]
    obtain ⟨q, i, hq, hi, e⟩ : ∃ q i, q < 5 ∧ i < 4 ∧ k - l = 4 * q + i := ⟨(k - l) / 4, (k - l) % 4, by omega, by omega, by omega⟩
    rw [e, fbF_4 hi]
    unfold fdH
    rcases q with _ | _ | _ | _ | _ | q
    · rw [apH_out (by omega), apH_out (by omega), apH_out (by omega), apH_out (by omega), show k = l + i by omega, apH_at hi]
      rfl
    · rw [apH_out (by omega), apH_out (by omega), apH_out (by omega), show k = l + 4 + i by omega, apH_at hi]
      rfl
    · rw [apH_out (by omega), apH_out (by omega), show k = l + 8 + i by omega, apH_at hi]
      rfl
    · rw [apH_out (by omega), show k = l + 12 + i by omega, apH_at hi]
      rfl
    · rw [show k = l + 16 + i by omega, apH_at hi]
      rfl
    · omega
  · rw [if_neg c]
    unfold fdH
    rw [apH_out (by omega), apH_out (by omega), apH_out (by omega), apH_out (by omega), apH_out (by omega)]
theorem up_tp {J : Nat → Nat → Int32} {f g : Nat → Int32} {j : Nat} : up2 (upr (upr J 427 g) 426 (tpF f l j x1 x2 x3 x4 x5)) 426 (l + j) (fbF x1 x2 x3 x4 x5 j) = upr (upr J 427 g) 426 (tpF f l (j + 1) x1 x2 x3 x4 x5) := by
  funext q k
  by_cases hq : q = 426
  · subst hq
    rw [upr_at]
    unfold tpF
    by_cases hk : k = l + j
    · subst hk
      rw [up2_at, if_pos (by omega), show l + j - l = j by omega]
    · rw [up2_ne (Or.inr hk), upr_at]
      by_cases c5 : l ≤ k ∧ k < l + j
      · rw [if_pos c5, if_pos (by omega)]
      · rw [if_neg c5, if_neg (by omega)]
  · rw [upr_row hq, up2_row hq, upr_row hq]
theorem sh_ok : ∀ j, j < 20 → 24 - 8 * (nI j - nI j / 4 * 4) = nI (24 - 8 * (j % 4)) := by decide +kernel
theorem h_feed (hl : I 420 9 = nI l) (h4 : l ≤ 400) : Sp S m_X12_feed 12 0 0 [.ref 420, .int x1, .int x2, .int x3, .int x4, .int x5] (hp I L w1 w2 t) (fun v h' => v = some (.int (if l + 20 ≤ 400 then nI (l + 20) else -1)) ∧ ∃ g, h' = hp (if l + 20 ≤ 400 then up2 (upr (upr (up2 I 420 0 0) 427 g) 426 (tpF (I 426) l 20 x1 x2 x3 x4 x5)) 420 9 (nI (l + 20)) else up2 I 420 0 0) L w1 w2 t) nX := by
  refine Sp_of ok_X12_feed rfl rfl ?_
  show AW S m_X12_feed 12 _ _ 0 0 0 [some (.ref 420), some (.int x1), some (.int x2), some (.int x3), some (.int x4), some (.int x5), none] [] (hp I L w1 w2 t)
  refine a_l0 rfl rfl rfl ?_
  refine a_s rfl rfl ?_
  refine a_puti rfl pfX12_3_12 rfl ?_
  refine a_l0 rfl rfl rfl ?_
  refine a_geti rfl gfX12_78_12 rfl ?_
  refine a_top (y := nI l) ((up2_ne (Or.inr (by decide))).trans hl) ?_
  refine a_s rfl rfl ?_
  refine a_s rfl rfl ?_
  refine a_top (y := nI (l + 20)) (nI_addl l 20) ?_
  refine a_s rfl rfl ?_
  refine a_ic_le rfl (fun c => ?_) (fun c => ?_)
  · have hc : l + 20 ≤ 400 := nI_ge_of (a := 400) (b := l + 20) c (by decide) (by omega)
    simp only [if_pos hc]
    refine a_l0 rfl rfl rfl ?_
    refine a_getq rfl gfX12_36_12 rfl (rfl) ?_
    refine a_s rfl rfl ?_
    refine a_l1 rfl rfl rfl ?_
    refine a_iastv (k := 0) rfl (n := 5) rfl ⟨by decide, by decide⟩ rfl ?_
    refine a_l0 rfl rfl rfl ?_
    refine a_getq rfl gfX12_36_12 rfl (rfl) ?_
    refine a_s rfl rfl ?_
    refine a_l2 rfl rfl rfl ?_
    refine a_iastv (k := 1) rfl (n := 5) rfl ⟨by decide, by decide⟩ rfl ?_
    refine a_l0 rfl rfl rfl ?_
    refine a_getq rfl gfX12_36_12 rfl (rfl) ?_
    refine a_s rfl rfl ?_
    refine a_l3 rfl rfl rfl ?_
    refine a_iastv (k := 2) rfl (n := 5) rfl ⟨by decide, by decide⟩ rfl ?_
    refine a_l0 rfl rfl rfl ?_
    refine a_getq rfl gfX12_36_12 rfl (rfl) ?_
    refine a_s rfl rfl ?_
    refine a_l4 rfl rfl rfl ?_
    refine a_iastv (k := 3) rfl (n := 5) rfl ⟨by decide, by decide⟩ rfl ?_
    refine a_l0 rfl rfl rfl ?_
    refine a_getq rfl gfX12_36_12 rfl (rfl) ?_
    refine a_s rfl rfl ?_
    refine a_l5 rfl rfl rfl ?_
    refine a_iastv (k := 4) rfl (n := 5) rfl ⟨by decide, by decide⟩ rfl ?_
    obtain ⟨g, eg, hg⟩ : ∃ g, up2 (up2 (up2 (up2 (up2 (up2 I 420 0 0) 427 0 x1) 427 1 x2) 427 2 x3) 427 3 x4) 427 4 x5 = upr (up2 I 420 0 0) 427 g ∧ ∀ q, q < 5 → g q = gvF x1 x2 x3 x4 x5 q := ⟨up2 (up2 (up2 (up2 (up2 (up2 I 420 0 0) 427 0 x1) 427 1 x2) 427 2 x3) 427 3 x4) 427 4 x5 427, by
      funext q
      by_cases hq : q = 427
      · subst hq
        rw [upr_at]
      · rw [upr_row hq, up2_row hq, up2_row hq, up2_row hq, up2_row hq, up2_row hq], fun q hq => by
      rcases q with _ | _ | _ | _ | _ | q
      · rw [up2_ne (Or.inr (by decide)), up2_ne (Or.inr (by decide)), up2_ne (Or.inr (by decide)), up2_ne (Or.inr (by decide)), up2_at]
        rfl
      · rw [up2_ne (Or.inr (by decide)), up2_ne (Or.inr (by decide)), up2_ne (Or.inr (by decide)), up2_at]
        rfl
      · rw [up2_ne (Or.inr (by decide)), up2_ne (Or.inr (by decide)), up2_at]
        rfl
      · rw [up2_ne (Or.inr (by decide)), up2_at]
        rfl
      · rw [up2_at]
        rfl
      · omega⟩
    rw [eg]
    refine a_s rfl rfl ?_
    refine a_s6 rfl rfl rfl rfl rfl rfl ?_
    refine a_inv (n := 20) (fun m ls h => ∃ j, j + m = 20 ∧ ls = [some (.ref 420), some (.int x1), some (.int x2), some (.int x3), some (.int x4), some (.int x5), some (.int (nI j))] ∧ h = hp (upr (upr (up2 I 420 0 0) 427 g) 426 (tpF (I 426) l j x1 x2 x3 x4 x5)) L w1 w2 t) ⟨0, rfl, rfl, by
      rw [tpF_0]
      congr 1
      congr 1
      funext q
      by_cases hq : q = 426
      · subst hq
        rw [upr_at, upr_row (by decide), up2_row (by decide)]
      · rw [upr_row hq]⟩ ?_
    rintro m _ _ ⟨j, hj, rfl, rfl⟩ ih
    refine a_l6 rfl rfl rfl ?_
    refine a_s rfl rfl ?_
    refine a_ic_ge rfl (fun c2 => ?_) (fun c2 => ?_)
    · refine a_l0 rfl rfl rfl ?_
      refine a_s rfl rfl ?_
      refine a_geti rfl gfX12_78_12 rfl ?_
      refine a_top (y := nI l) (by rw [upr_row (by decide), upr_row (by decide)]; exact (up2_ne (Or.inr (by decide))).trans hl) ?_
      refine a_s rfl rfl ?_
      refine a_s rfl rfl ?_
      refine a_top (y := nI (l + 20)) (nI_addl l 20) ?_
      refine a_puti rfl pfX12_78_12 rfl ?_
      refine a_l0 rfl rfl rfl ?_
      refine a_geti rfl gfX12_78_12 rfl ?_
      refine a_top (y := nI (l + 20)) up2_at ?_
      have hge := nI_ge_of (b := 20) c2 (by omega) (by decide)
      obtain rfl : j = 20 := by omega
      exact a_iret rfl rfl ⟨rfl, g, rfl⟩
    · have hj2 : j < 20 := nI_lt_of (b := 20) c2 (by omega) (by decide)
      refine a_l0 rfl rfl rfl ?_
      refine a_getq rfl gfX12_29_12 rfl (rfl) ?_
      refine a_l0 rfl rfl rfl ?_
      refine a_geti rfl gfX12_78_12 rfl ?_
      refine a_top (y := nI l) (by rw [upr_row (by decide), upr_row (by decide)]; exact (up2_ne (Or.inr (by decide))).trans hl) ?_
      refine a_l6 rfl rfl rfl ?_
      refine a_s rfl rfl ?_
      refine a_top (y := nI (l + j)) (nI_addl l j) ?_
      refine a_l0 rfl rfl rfl ?_
      refine a_getq rfl gfX12_36_12 rfl (rfl) ?_
      refine a_l6 rfl rfl rfl ?_
      refine a_s rfl rfl ?_
      refine a_idiv rfl (by decide) ?_
      refine a_top (y := nI (j / 4)) (nI_div4 j hj2).1 ?_
      refine a_iald rfl (n := 5) rfl (inI_nI (by omega) (by omega)) ?_
      refine a_s rfl rfl ?_
      refine a_s rfl rfl ?_
      refine a_l6 rfl rfl rfl ?_
      refine a_s rfl rfl ?_
      refine a_irem rfl (by decide) ?_
      refine a_s rfl rfl ?_
      refine a_s rfl rfl ?_
      refine a_s rfl rfl ?_
      refine a_s rfl rfl ?_
      refine a_top (y := fbF x1 x2 x3 x4 x5 j) (by rw [upr_row (by decide), upr_at, nI_clamp (by omega), hg (j / 4) (by omega), sh_ok j hj2]; rfl) ?_
      refine a_bastv (k := l + j) rfl (n := 400) rfl (inI_nI (by omega) (by omega)) (by unfold fbF byA; exact i2b_id _) (nI_clamp (by omega)) ?_
      rw [up_tp]
      refine a_i6 rfl rfl rfl ?_
      refine a_goto rfl ?_
      exact a_less (ih (m - 1) _ _ (by omega) ⟨j + 1, by omega, rfl, rfl⟩) ⟨rfl, rfl, rfl, rfl, rfl, rfl, nS _, trivial⟩
  · have hc : ¬ l + 20 ≤ 400 := fun z => c (nI_leu z (by decide))
    simp only [if_neg hc]
    refine a_s rfl rfl ?_
    exact a_iret rfl rfl ⟨rfl, I 427, rfl⟩
end T79j
