/-! ===== a row of the log: the reference ===== -/
section T79zc
variable {S : aS} {I : Nat → Nat → Int32} {L : Nat → Nat → Int64} {w1 w2 t : Nat} {d nl len : Nat} {cd fa fn : Nat → Nat} {W V : Nat → Int32}
set_option maxRecDepth 100000
/-- the log's rows don't count for anything but the log -/
theorem Rg.log (h : Rg W) (f : ∀ k, k < 95 → k ≠ 9 → V k = W k) : Rg V ∧ pn V = pn W ∧ dn V = dn W := by
  obtain ⟨⟨h1, h2, h3, h4⟩, hf, hp, hdd⟩ := h
  exact ⟨Rg.of h1 h2 ((f 0 (by omega) (by omega)).trans h3) ((f 1 (by omega) (by omega)).trans h4) (hf.eq fun k z1 z2 => f k (by omega) (by omega)) (fun p z => (hp p z).eq (f _ (by omega) (by omega)) (f _ (by omega) (by omega))) (fun e' z => (hdd e' z).eq fun k hk => f _ (by omega) (by omega)), by unfold pn; rw [f 0 (by omega) (by omega)], by unfold dn; rw [f 1 (by omega) (by omega)]⟩
theorem factW_log (h : Rg W) (hd : d < dn W) (f : ∀ k, k < 95 → k ≠ 9 → V k = W k) : factW V d = factW W d := by
  have h12 := h.1.2.1
  have h6 := h.1.1
  have e : ∀ k, k < 6 → ∀ i, i < 12 → vd V k i = vd W k i := fun k hk i hi => f _ (by omega) (by omega)
  obtain ⟨⟨j, hj, ej⟩, -, -, -, hl, -⟩ := h.2.2.2 d hd
  have ej : vd W 0 d = nI j := ej
  have e5 : V (11 + 2 * (vd W 0 d).toNatClampNeg) = W (11 + 2 * (vd W 0 d).toNatClampNeg) := by
    rw [ej, nI_clamp (by omega)]
    exact f _ (by omega) (by omega)
  have e7 : lwF V d = lwF W d := by
    unfold lwF
    rw [e 4 (by decide) d (by omega)]
    rcases hl with z | ⟨i, hi, z⟩
    · have z : vd W 4 d = -1 := z
      rw [z]
      simp
    · have z : vd W 4 d = nI i := z
      rw [z, nI_clamp (by omega), e 5 (by decide) i (by omega)]
  have e0 := e 0 (by decide) d (by omega)
  have e1 := e 1 (by decide) d (by omega)
  have e2 := e 2 (by decide) d (by omega)
  have e3 := e 3 (by decide) d (by omega)
  have e4 : V 4 = W 4 := f 4 (by decide) (by decide)
  funext k
  rcases k with _ | _ | _ | _ | _ | _ | _ | _ | _ | n
  all_goals simp only [factW, e0, e1, e2, e3, e4, e5, e7]
theorem sumR_log {kind : Int32} (h : Rg W) (hd : d < dn W) (f : ∀ k, k < 95 → k ≠ 9 → V k = W k) (g : ∀ k, 335 ≤ k → V k = W k) : sumR V cd fa fn nl d kind = sumR W cd fa fn nl d kind := by
  unfold sumR
  rw [factW_log h hd f]
  exact sumL_congr fun i _ => ⟨g _ (by omega), g _ (by omega)⟩
theorem shameR_log (h : Rg W) (hd : d < dn W) (f : ∀ k, k < 95 → k ≠ 9 → V k = W k) (g : ∀ k, 335 ≤ k → V k = W k) : shameR V cd fa fn nl d = shameR W cd fa fn nl d := by
  have h12 := h.1.2.1
  unfold shameR
  rw [sumR_log h hd f g, sumR_log h hd f g, show vd V 2 d = vd W 2 d from f _ (by omega) (by omega)]
def shf (W : Nat → Int32) (b : Nat) : Nat → Int32 := fun j => if b < j ∧ j < 335 then W (j - 4) else W j
theorem shf_s {b : Nat} (h : 99 ≤ b) (h2 : b < 335) : ud (shf W b) b (shf W b (b - 4)) = shf W (b - 1) := by
  funext j
  unfold shf
  by_cases c : j = b
  · subst c
    rw [ud_at, if_neg (by omega), if_pos ⟨by omega, h2⟩]
  · rw [ud_ne c]
    by_cases c2 : b < j ∧ j < 335
    · rw [if_pos c2, if_pos ⟨by omega, c2.2⟩]
    · rw [if_neg c2, if_neg (fun z => c2 ⟨by omega, z.2⟩)]
theorem h_tells (hG : Rg (I 421)) (hd : d < dn (I 421)) (hL : LawR (I 421) nl len cd fa fn) {x : Int32} : Sp S m_X12_tells 21 0 0 [.ref 420, .int (nI d), .int x] (hp I L w1 w2 t) (fun v h' => v = none ∧ ∃ J, h' = hp J L w1 w2 t ∧ (∀ q, q ≠ 421 → q ≠ 428 → J q = I q) ∧ J 421 = tell (I 421) (I 421 5) (nI d) x (shameR (I 421) cd fa fn nl d)) nX := by
  generalize hW : I 421 = W at hG hd hL ⊢
  have h12 := hG.1.2.1
  have h6 := hG.1.1
  refine Sp_of ok_X12_tells rfl rfl ?_
  show AW S m_X12_tells 21 _ _ 0 0 0 [some (.ref 420), some (.int (nI d)), some (.int x), none] [] (hp I L w1 w2 t)
  refine a_s rfl rfl ?_
  refine a_s3 rfl rfl rfl rfl rfl rfl ?_
  refine a_inv (n := 236) (fun m ls h => ∃ I', ls = [some (.ref 420), some (.int (nI d)), some (.int x), some (.int (nI (m + 3)))] ∧ h = hp I' L w1 w2 t ∧ I' 421 = shf W (95 + (m + 3)) ∧ (∀ q, q ≠ 421 → I' q = I q) ∧ m ≤ 236) ⟨_, rfl, rfl, ?_, fun _ _ => rfl, by decide⟩ ?_
  · rw [hW]
    funext j
    unfold shf
    rw [if_neg (by omega)]
  rintro m _ _ ⟨I1, rfl, rfl, e1, hf, hm⟩ ih
  refine a_l3 rfl rfl rfl ?_
  refine a_s rfl rfl ?_
  refine a_ic_lt rfl (fun c => ?_) (fun c => ?_)
  rotate_left
  · have h4 : 4 ≤ m + 3 := nI_le_of (a := 4) (b := m + 3) c (by decide) (by omega)
    refine a_l0 rfl rfl rfl ?_
    refine a_getq rfl gfX12_13_12 rfl (rfl) ?_
    refine a_s rfl rfl ?_
    refine a_l3 rfl rfl rfl ?_
    refine a_s rfl rfl ?_
    refine a_top (y := nI (95 + (m + 3))) (nI_addl 95 (m + 3)) ?_
    refine a_l0 rfl rfl rfl ?_
    refine a_getq rfl gfX12_13_12 rfl (rfl) ?_
    refine a_s rfl rfl ?_
    refine a_l3 rfl rfl rfl ?_
    refine a_s rfl rfl ?_
    refine a_s rfl rfl ?_
    refine a_s rfl rfl ?_
    refine a_top (y := nI (95 + (m + 3) - 4)) (by rw [show (95 : Int32) + nI (m + 3) = nI (95 + (m + 3)) from nI_addl 95 (m + 3)]; exact nI_sub (j := 4) (by omega)) ?_
    refine a_ialdv (v := shf W (95 + (m + 3)) (95 + (m + 3) - 4)) rfl (n := 2033) rfl (inI_nI (by omega) (by omega)) (by rw [nI_clamp (by omega), e1]) ?_
    refine a_iastv (k := 95 + (m + 3)) rfl (n := 2033) rfl (inI_nI (by omega) (by omega)) (nI_clamp (by omega)) ?_
    refine a_i3 rfl rfl rfl ?_
    refine a_goto rfl ?_
    refine a_less (ih (m - 1) _ _ (by omega) ⟨_, rfl, rfl, ?_, fun q hq => by rw [up2_row hq]; exact hf q hq, by omega⟩) ⟨rfl, rfl, rfl, ?_, trivial⟩
    · rw [up2_ud, e1, shf_s (by omega) (by omega)]
      congr 1
      omega
    · rw [show m + 3 = m - 1 + 3 + 1 by omega, nI_decm]
  have m0 : m = 0 := by
    have := nI_lt_of (a := m + 3) (b := 4) (Int32.not_le.mpr c) (by omega) (by decide)
    omega
  subst m0
  have e1 : I1 421 = shf W 98 := e1
  have lo : ∀ k, k < 99 → shf W 98 k = W k := fun k hk => by unfold shf; rw [if_neg (by omega)]
  refine a_l0 rfl rfl rfl ?_
  refine a_getq rfl gfX12_13_12 rfl (rfl) ?_
  refine a_s rfl rfl ?_
  refine a_l0 rfl rfl rfl ?_
  refine a_getq rfl gfX12_13_12 rfl (rfl) ?_
  refine a_s rfl rfl ?_
  refine a_ialdv (v := W 5) rfl (n := 2033) rfl ⟨by decide, by decide⟩ ((congrFun e1 5).trans (lo 5 (by decide))) ?_
  refine a_iastv (k := 95) rfl (n := 2033) rfl ⟨by decide, by decide⟩ rfl ?_
  refine a_l0 rfl rfl rfl ?_
  refine a_getq rfl gfX12_13_12 rfl (rfl) ?_
  refine a_s rfl rfl ?_
  refine a_l1 rfl rfl rfl ?_
  refine a_iastv (k := 96) rfl (n := 2033) rfl ⟨by decide, by decide⟩ rfl ?_
  refine a_l0 rfl rfl rfl ?_
  refine a_getq rfl gfX12_13_12 rfl (rfl) ?_
  refine a_s rfl rfl ?_
  refine a_l2 rfl rfl rfl ?_
  refine a_iastv (k := 97) rfl (n := 2033) rfl ⟨by decide, by decide⟩ rfl ?_
  generalize hM : up2 (up2 (up2 I1 421 95 (W 5)) 421 96 (nI d)) 421 97 x = M
  have eM : M 421 = ud (ud (ud (shf W 98) 95 (W 5)) 96 (nI d)) 97 x := by rw [← hM, up2_ud, up2_ud, up2_ud, e1]
  have fM : ∀ q, q ≠ 421 → M q = I q := fun q hq => by rw [← hM, up2_row hq, up2_row hq, up2_row hq]; exact hf q hq
  have lM : ∀ k, k < 95 → k ≠ 9 → M 421 k = W k := fun k hk _ => by rw [eM, ud_ne (by omega), ud_ne (by omega), ud_ne (by omega)]; exact lo k (by omega)
  have hMi : ∀ k, 335 ≤ k → M 421 k = W k := fun k hk => by
    rw [eM, ud_ne (by omega), ud_ne (by omega), ud_ne (by omega)]
    unfold shf
    rw [if_neg (by omega)]
  obtain ⟨gM, pM, dM⟩ := Rg.log hG lM
  refine a_l0 rfl rfl rfl ?_
  refine a_getq rfl gfX12_13_12 rfl (rfl) ?_
  refine a_s rfl rfl ?_
  refine a_l0 rfl rfl rfl ?_
  refine a_l1 rfl rfl rfl ?_
  refine a_gV rfl lX12_318 mo_X12_shamesBy (sp_X12_shamesBy (nd := dn W) (np := pn W) h12 h6 hd (by rw [← dM]; exact gM.so.l) (by rw [← dM, ← pM]; exact gM.so.o) (LawR.eq hL (lM 3 (by decide) (by decide)) hMi)) rfl rfl rfl ⟨12, _, rfl, rfl, rfl⟩ rfl (fun v' h' hv => ?_)
  obtain ⟨rfl, f, rfl⟩ := hv
  refine a_top (y := shameR W cd fa fn nl d) (shameR_log hG hd lM hMi) ?_
  refine a_iastv (k := 98) rfl (n := 2033) rfl ⟨by decide, by decide⟩ rfl ?_
  refine a_l0 rfl rfl rfl ?_
  refine a_getq rfl gfX12_13_12 rfl (rfl) ?_
  refine a_s rfl rfl ?_
  refine a_s rfl rfl ?_
  refine a_l0 rfl rfl rfl ?_
  refine a_getq rfl gfX12_13_12 rfl (rfl) ?_
  refine a_s rfl rfl ?_
  refine a_ialdv (v := W 9) rfl (n := 2033) rfl ⟨by decide, by decide⟩ ?_ ?_
  · show up2 (upr M 428 f) 421 98 (shameR W cd fa fn nl d) 421 9 = W 9
    rw [up2_ne (Or.inr (by decide)), upr_row (by decide), eM, ud_ne (by decide), ud_ne (by decide), ud_ne (by decide)]
    exact lo 9 (by decide)
  refine a_s rfl rfl ?_
  refine a_s rfl rfl ?_
  refine a_min rfl lX12_295 mj_min rfl rfl ?_
  refine a_top (y := mn 60 (W 9 + 1)) (rfl) ?_
  refine a_iastv (k := 9) rfl (n := 2033) rfl ⟨by decide, by decide⟩ rfl ?_
  refine a_vret rfl rfl ⟨rfl, _, rfl, fun q h1 h2 => by rw [up2_row h1, up2_row h1, upr_row h2]; exact fM q h1, ?_⟩
  rw [up2_ud, up2_ud, upr_row (by decide), eM]
  funext j
  unfold tell
  by_cases c99 : 99 ≤ j ∧ j < 335
  · rw [if_pos c99, ud_ne (by omega), ud_ne (by omega), ud_ne (by omega), ud_ne (by omega), ud_ne (by omega)]
    unfold shf
    rw [if_pos ⟨by omega, c99.2⟩]
  rw [if_neg c99]
  by_cases c9 : j = 9
  · subst c9
    rw [ud_at, if_neg (by decide), if_neg (by decide), if_neg (by decide), if_neg (by decide), if_pos rfl]
  rw [ud_ne c9]
  by_cases c8 : j = 98
  · subst c8
    rw [ud_at, if_neg (by decide), if_neg (by decide), if_neg (by decide), if_pos rfl]
  rw [ud_ne c8]
  by_cases c7 : j = 97
  · subst c7
    rw [ud_at, if_neg (by decide), if_neg (by decide), if_pos rfl]
  rw [ud_ne c7]
  by_cases c6 : j = 96
  · subst c6
    rw [ud_at, if_neg (by decide), if_pos rfl]
  rw [ud_ne c6]
  by_cases c5 : j = 95
  · subst c5
    rw [ud_at, if_pos rfl]
  rw [ud_ne c5, if_neg c5, if_neg c6, if_neg c7, if_neg c8, if_neg c9]
  unfold shf
  rw [if_neg (by omega)]
end T79zc
