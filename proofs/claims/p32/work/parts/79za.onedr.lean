/-! ===== a day more: the reference, but for the parade ===== -/
section T79za
variable {S : aS} {I : Nat → Nat → Int32} {L : Nat → Nat → Int64} {w1 w2 t : Nat} {nl len : Nat} {cd fa fn : Nat → Nat} {W : Nat → Int32} {taken had : Int32}
set_option maxRecDepth 100000
theorem bt_32767 : ∀ i, i < 32 → bt 32767 i = decide (i < 15) := by decide +kernel
theorem dr_same {s : Int32} : (s >>> ((16 : Int32) &&& 31)) &&& 32767 = drawV s := by
  unfold drawV
  refine b_ext fun i hi => ?_
  rw [b_and, b_and, bt_32767 i hi]
  by_cases c : i < 15
  · rw [show ((16 : Int32) &&& 31) = (nI 16 &&& 31) from rfl, b_sshr 16 (by decide) s hi, if_pos (by omega), show ((16 : Int32).toUInt32 &&& Int32.toUInt32 31) = ((nI 16).toUInt32 &&& Int32.toUInt32 31) from rfl, b_ushr 16 (by decide) s i]
  · rw [decide_eq_false c, Bool.and_false, Bool.and_false]
theorem sd_same {s : Int32} : (1103515245 : Int32) * s + 12345 = seedF s := by
  unfold seedF
  rw [Int32.mul_comm]
theorem h_drawn : SpE S m_X12_drawn 12 [.ref 420, .int 100] (hp I L w1 w2 t) (some (.int (rm100 (drawV (seedF (I 421 10)))))) (hp (up2 I 421 10 (seedF (I 421 10))) L w1 w2 t) := by
  refine SpE_of ok_X12_drawn rfl rfl ?_
  show AW S m_X12_drawn 12 _ _ 0 0 0 [some (.ref 420), some (.int 100)] [] (hp I L w1 w2 t)
  refine a_l0 rfl rfl rfl ?_
  refine a_getq rfl gfX12_13_12 rfl (rfl) ?_
  refine a_s rfl rfl ?_
  refine a_ldc rfl kX12_77 ?_
  refine a_l0 rfl rfl rfl ?_
  refine a_getq rfl gfX12_13_12 rfl (rfl) ?_
  refine a_s rfl rfl ?_
  refine a_ialdv (v := I 421 10) rfl (n := 2033) rfl ⟨by decide, by decide⟩ rfl ?_
  refine a_s rfl rfl ?_
  refine a_s rfl rfl ?_
  refine a_s rfl rfl ?_
  refine a_top (y := seedF (I 421 10)) (sd_same) ?_
  refine a_iastv (k := 10) rfl (n := 2033) rfl ⟨by decide, by decide⟩ rfl ?_
  refine a_l0 rfl rfl rfl ?_
  refine a_getq rfl gfX12_13_12 rfl (rfl) ?_
  refine a_s rfl rfl ?_
  refine a_ialdv (v := seedF (I 421 10)) rfl (n := 2033) rfl ⟨by decide, by decide⟩ up2_at ?_
  refine a_s rfl rfl ?_
  refine a_s rfl rfl ?_
  refine a_s rfl rfl ?_
  refine a_s rfl rfl ?_
  refine a_top (y := drawV (seedF (I 421 10))) (dr_same) ?_
  refine a_l1 rfl rfl rfl ?_
  refine a_irem rfl (by decide) ?_
  exact a_iret rfl rfl ⟨rfl, rfl⟩
theorem HHd.nx {H : Nat → Int32} {p : Nat} (h : HHd H taken had p) : HHd H (taken ||| had) 0 (p + 1) := fun k hk => by
  obtain ⟨g1, g2, g3⟩ := h k hk
  rw [hasF_or (show k < 31 by omega), hasF_0 (show k < 31 by omega)]
  refine ⟨fun z => ?_, fun _ z => (by cases z), fun z _ => ?_⟩
  · cases ht : hasF taken (nI k) with
    | true =>
      obtain ⟨q, q1, q2⟩ := g1 ht
      exact ⟨q, by omega, q2⟩
    | false =>
      rw [ht, Bool.false_or] at z
      exact ⟨p, by omega, g2 ht z⟩
  · cases ht : hasF taken (nI k) with
    | true =>
      rw [ht, Bool.true_or] at z
      cases z
    | false =>
      rw [ht, Bool.false_or] at z
      exact g3 ht z
theorem HHd.sk {H : Nat → Int32} {p : Nat} (h : HHd H taken 0 p) : HHd H taken 0 (p + 1) := fun k hk => by
  obtain ⟨g1, g2, g3⟩ := h k hk
  refine ⟨fun z => ?_, fun _ z => ?_, g3⟩
  · obtain ⟨q, q1, q2⟩ := g1 z
    exact ⟨q, by omega, q2⟩
  · rw [hasF_0 (show k < 31 by omega)] at z
    cases z
theorem h_oneDay140 (h421 : I 421 = W) (hG : Rg W) (hL : LawR W nl len cd fa fn) (hN : LwN W nl) {calm : Bool} {Q : Option Value → aH → Prop} {X : String → aH → Prop} (kk : ∀ (J : Nat → Nat → Int32) (y : Int32) (u : Option Value), (∀ q, q ≠ 421 → q ≠ 428 → q ≠ 429 → J q = I q) → J 421 = dayW calm (gwL cd fa fn nl) W → AW S m_X12_oneDay 23 Q X 0 0 140 [some (.ref 420), some (.int (bI calm)), some (.int y), u] [] (hp J L w1 w2 t)) : AW S m_X12_oneDay 23 Q X 0 0 0 [some (.ref 420), some (.int (bI calm)), none, none] [] (hp I L w1 w2 t) := by
  have h12 := hG.1.2.1
  have h6 := hG.1.1
  have ok0 : DyOk nl W W := ⟨hG, rfl, rfl, hN, rfl, fun _ _ => rfl⟩
  refine a_s rfl rfl ?_
  refine a_s2 rfl rfl rfl rfl rfl rfl ?_
  refine a_s rfl rfl ?_
  refine a_s3 rfl rfl rfl rfl rfl rfl ?_
  -- nobody has a tool
  refine a_inv (n := 6) (fun m ls h => ∃ j J, ls = [some (.ref 420), some (.int (bI calm)), some (.int 0), some (.int (nI j))] ∧ h = hp J L w1 w2 t ∧ j ≤ 6 ∧ m = 6 - j ∧ (∀ k, k < j → J 429 k = -1) ∧ ∀ q, q ≠ 429 → J q = I q) ⟨0, I, rfl, rfl, by decide, rfl, fun k hk => absurd hk (Nat.not_lt_zero _), fun _ _ => rfl⟩ ?_
  rintro m _ _ ⟨j, J, rfl, rfl, hj, hm, h429, hf⟩ ih
  refine a_l3 rfl rfl rfl ?_
  refine a_s rfl rfl ?_
  refine a_ic_ge rfl (fun c => ?_) (fun c => ?_)
  rotate_left
  · have hj6 := nI_lt_of (b := 6) c (by omega) (by decide)
    refine a_l0 rfl rfl rfl ?_
    refine a_getq rfl gfX12_42_12 rfl (rfl) ?_
    refine a_l3 rfl rfl rfl ?_
    refine a_s rfl rfl ?_
    refine a_iastv (k := j) rfl (n := 6) rfl (inI_nI hj6 (by decide)) (nI_clamp (by omega)) ?_
    refine a_iv3 (y := nI (j + 1)) rfl rfl rfl ((nI_succ j).symm) ?_
    refine a_goto rfl ?_
    refine ih (6 - (j + 1)) _ _ (by omega) ⟨j + 1, _, rfl, rfl, by omega, rfl, fun k hk => ?_, fun q hq => by rw [up2_row hq]; exact hf q hq⟩
    by_cases ck : k = j
    · rw [ck, up2_at]
    · rw [up2_ne (Or.inr ck)]
      exact h429 k (by omega)
  have hge := nI_ge_of (b := 6) c (by omega) (by decide)
  obtain rfl : j = 6 := by omega
  clear ih c hge
  have z0 : ∀ k, k < 6 → hasF 0 (nI k) = false := fun k hk => hasF_0 (by omega)
  have H0 : HHd (J 429) 0 0 0 := fun k hk => ⟨fun z => absurd z (by rw [z0 k hk]; exact Bool.false_ne_true), fun _ z => absurd z (by rw [z0 k hk]; exact Bool.false_ne_true), fun _ _ => h429 k hk⟩
  have J421 : J 421 = W := (hf 421 (by decide)).trans h421
  refine a_s rfl rfl ?_
  refine a_s3 rfl rfl rfl rfl rfl rfl ?_
  refine a_inv (n := pn W) (fun m ls h => ∃ j y K, ls = [some (.ref 420), some (.int (bI calm)), some (.int y), some (.int (nI j))] ∧ h = hp K L w1 w2 t ∧ j ≤ pn W ∧ m = pn W - j ∧ K 421 = (psF calm W j).1 ∧ HHd (K 429) (psF calm W j).2 0 j ∧ ∀ q, q ≠ 421 → q ≠ 428 → q ≠ 429 → K q = I q) ⟨0, 0, J, rfl, rfl, Nat.zero_le _, rfl, J421, H0, fun q _ _ h3 => hf q h3⟩ ?_
  clear hm h429 hj
  rintro m _ _ ⟨j, y, K, rfl, rfl, hj, hm, eK, hHK, hfK⟩ ih
  have okj := psF_ok (calm := calm) ok0 j hj
  refine a_l3 rfl rfl rfl ?_
  refine a_l0 rfl rfl rfl ?_
  refine a_eV1 rfl lX12_66 mo_X12_people sp_X12_people rfl rfl rfl ⟨12, _, rfl, rfl, rfl⟩ rfl ?_
  refine a_top (y := nI (pn W)) (by rw [eK, okj.1.1.2.2.1, okj.2.1]) ?_
  refine a_ic_ge rfl (fun c => ?_) (fun c => ?_)
  · have hge := nI_ge_of c (by omega) (by omega)
    obtain rfl : j = pn W := by omega
    clear ih
    have fin : dayW calm (gwL cd fa fn nl) W = nwD (gwL cd fa fn nl) (psF calm W (pn W)).1 := rfl
    generalize psF calm W (pn W) = sj at eK okj fin
    refine a_l0 rfl rfl rfl ?_
    refine a_getq rfl gfX12_13_12 rfl (rfl) ?_
    refine a_s rfl rfl ?_
    refine a_s rfl rfl ?_
    refine a_ialdv (v := sj.1 4) rfl (n := 2033) rfl ⟨by decide, by decide⟩ (congrFun eK 4) ?_
    refine a_s rfl rfl ?_
    refine a_s rfl rfl ?_
    refine a_iastv (k := 4) rfl (n := 2033) rfl ⟨by decide, by decide⟩ rfl ?_
    refine a_l0 rfl rfl rfl ?_
    refine a_getq rfl gfX12_13_12 rfl (rfl) ?_
    refine a_s rfl rfl ?_
    refine a_ialdv (v := sj.1 4 + 1) rfl (n := 2033) rfl ⟨by decide, by decide⟩ up2_at ?_
    refine a_s rfl rfl ?_
    refine a_ic_le rfl (fun c2 => ?_) (fun c2 => ?_)
    · refine kk _ _ _ (fun q h1 h2 h3 => by rw [up2_row h1]; exact hfK q h1 h2 h3) ?_
      rw [fin]
      unfold nwD
      rw [if_neg (Int32.not_lt.mpr c2), up2_ud, eK]
    refine a_l0 rfl rfl rfl ?_
    refine a_getq rfl gfX12_13_12 rfl (rfl) ?_
    refine a_s rfl rfl ?_
    refine a_s rfl rfl ?_
    refine a_iastv (k := 4) rfl (n := 2033) rfl ⟨by decide, by decide⟩ rfl ?_
    refine a_l0 rfl rfl rfl ?_
    refine a_getq rfl gfX12_13_12 rfl (rfl) ?_
    refine a_s rfl rfl ?_
    refine a_s rfl rfl ?_
    refine a_l0 rfl rfl rfl ?_
    refine a_getq rfl gfX12_13_12 rfl (rfl) ?_
    refine a_s rfl rfl ?_
    refine a_ialdv (v := sj.1 5) rfl (n := 2033) rfl ⟨by decide, by decide⟩ ((up2_ne (Or.inr (by decide))).trans ((up2_ne (Or.inr (by decide))).trans (congrFun eK 5))) ?_
    refine a_s rfl rfl ?_
    refine a_s rfl rfl ?_
    refine a_min rfl lX12_295 mj_min rfl rfl ?_
    refine a_top (y := mn 9999 (sj.1 5 + 1)) (rfl) ?_
    refine a_iastv (k := 5) rfl (n := 2033) rfl ⟨by decide, by decide⟩ rfl ?_
    have ok3 := mth_ok okj
    generalize hM : up2 (up2 (up2 K 421 4 (sj.1 4 + 1)) 421 4 1) 421 5 (mn 9999 (sj.1 5 + 1)) = M
    have eM : M 421 = ud (ud (ud sj.1 4 (sj.1 4 + 1)) 4 1) 5 (mn 9999 (sj.1 5 + 1)) := by
      rw [← hM, up2_ud, up2_ud, up2_ud, eK]
    have fM : ∀ q, q ≠ 421 → M q = K q := fun q hq => by rw [← hM, up2_row hq, up2_row hq, up2_row hq]
    have e9 : nwD (gwL cd fa fn nl) sj.1 = gwF (gwL cd fa fn nl) (ud (ud (ud sj.1 4 (sj.1 4 + 1)) 4 1) 5 (mn 9999 (sj.1 5 + 1))) (dn W) := by
      unfold nwD
      rw [if_pos (Int32.not_le.mp c2), okj.2.2.1]
    generalize ud (ud (ud sj.1 4 (sj.1 4 + 1)) 4 1) 5 (mn 9999 (sj.1 5 + 1)) = V at eM e9 ok3
    clear hM
    have okV : GwOk nl V V := ⟨ok3.1, rfl, rfl, ok3.2.2.2.1, fun _ _ => rfl⟩
    have nV : dn V = dn W := ok3.2.2.1
    refine a_s rfl rfl ?_
    refine a_s3 rfl rfl rfl rfl rfl rfl ?_
    refine a_inv (n := dn W) (fun m ls h => ∃ j N, ls = [some (.ref 420), some (.int (bI calm)), some (.int y), some (.int (nI j))] ∧ h = hp N L w1 w2 t ∧ j ≤ dn W ∧ m = dn W - j ∧ N 421 = gwF (gwL cd fa fn nl) V j ∧ ∀ q, q ≠ 421 → q ≠ 428 → q ≠ 429 → N q = I q) ⟨0, M, rfl, rfl, Nat.zero_le _, rfl, eM, fun q h1 h2 h3 => (fM q h1).trans (hfK q h1 h2 h3)⟩ ?_
    clear hm hj
    rintro m _ _ ⟨j, N, rfl, rfl, hj, hm, eN, hfN⟩ ih
    have okg := okV.run (cd := cd) (fa := fa) (fn := fn) j (by omega)
    refine a_l3 rfl rfl rfl ?_
    refine a_l0 rfl rfl rfl ?_
    refine a_eV1 rfl lX12_74 mo_X12_duties sp_X12_duties rfl rfl rfl ⟨12, _, rfl, rfl, rfl⟩ rfl ?_
    refine a_top (y := nI (dn W)) (by rw [eN, okg.1.1.2.2.2, okg.2.2.1, nV]) ?_
    refine a_ic_ge rfl (fun c => ?_) (fun c => ?_)
    · have hge := nI_ge_of c (by omega) (by omega)
      obtain rfl : j = dn W := by omega
      exact kk N y _ hfN (by rw [fin, e9]; exact eN)
    have hjn := nI_lt_of c (by omega) (by omega)
    have lawN : LawR (gwF (gwL cd fa fn nl) V j) nl len cd fa fn := LawR.eq hL ((okg.2.2.2.2 3 (fun d hd => by omega)).trans ok3.2.2.2.2.1) (fun k hk => (okg.2.2.2.2 k (fun d hd => by omega)).trans (ok3.2.2.2.2.2 k hk))
    refine a_l0 rfl rfl rfl ?_
    refine a_l3 rfl rfl rfl ?_
    refine a_gV rfl lX12_379 mo_X12_growsOlder (h_growsOlder (d := j) (nl := nl) (len := len) (cd := cd) (fa := fa) (fn := fn) (by rw [eN]; exact okg.1) (by rw [eN, okg.2.2.1, nV]; exact hjn) (by rw [eN]; exact lawN)) rfl rfl rfl ⟨12, _, rfl, rfl, rfl⟩ rfl (fun v' h' hv => ?_)
    obtain ⟨rfl, N2, rfl, hf2, eN2⟩ := hv
    refine a_iv3 (y := nI (j + 1)) rfl rfl rfl ((nI_succ j).symm) ?_
    refine a_goto rfl ?_
    exact ih (dn W - (j + 1)) _ _ (by omega) ⟨j + 1, N2, rfl, rfl, by omega, rfl, by rw [eN2, eN]; rfl, fun q h1 h2 h3 => (hf2 q h1 h2).trans (hfN q h1 h2 h3)⟩
  have hjn := nI_lt_of c (by omega) (by omega)
  have es : psF calm W (j + 1) = psS calm (psF calm W j) j := rfl
  -- the loop goes on
  have on : ∀ (N : Nat → Nat → Int32) (z : Int32), N 421 = (psF calm W (j + 1)).1 → HHd (N 429) (psF calm W (j + 1)).2 0 (j + 1) → (∀ q, q ≠ 421 → q ≠ 428 → q ≠ 429 → N q = I q) → AW S m_X12_oneDay 23 Q X 0 0 63 [some (.ref 420), some (.int (bI calm)), some (.int y), some (.int (nI j))] [.int z, .int y] (hp N L w1 w2 t) := by
    intro N z hN hHN hfN
    refine a_s rfl rfl ?_
    refine a_s2 rfl rfl rfl rfl rfl rfl ?_
    refine a_iv3 (y := nI (j + 1)) rfl rfl rfl ((nI_succ j).symm) ?_
    refine a_goto rfl ?_
    exact ih (pn W - (j + 1)) _ _ (by omega) ⟨j + 1, _, N, rfl, rfl, by omega, rfl, hN, hHN, hfN⟩
  generalize hsj : psF calm W j = sj at eK hHK okj es on ⊢
  have okw := psW_ok (calm := calm) okj
  -- it works
  have wk : ∀ (N : Nat → Nat → Int32), N 421 = psW calm sj.1 → N 429 = K 429 → (∀ q, q ≠ 421 → q ≠ 428 → q ≠ 429 → N q = I q) → ¬ (calm = false ∧ rm100 (drawV (seedF (sj.1 10))) < sj.1 6) → AW S m_X12_oneDay 23 Q X 0 0 58 [some (.ref 420), some (.int (bI calm)), some (.int y), some (.int (nI j))] [.int y] (hp N L w1 w2 t) := by
    intro N hN h9 hfN hc
    refine a_l0 rfl rfl rfl ?_
    refine a_l3 rfl rfl rfl ?_
    refine a_gV rfl lX12_376 mo_X12_works (h_works (taken := sj.2) (p := j) (by rw [hN]; exact okw.1) (by rw [hN, okw.2.1]; exact hjn) (by rw [h9]; exact hHK)) rfl rfl rfl ⟨12, _, rfl, rfl, rfl⟩ rfl (fun v' h' hv => ?_)
    obtain ⟨x, rfl, N2, rfl, hf2, eN2, hH2⟩ := hv
    rw [hN] at eN2 hH2
    rw [show psF calm W (j + 1) = ((wdF (nI j) sj.2 (psW calm sj.1, psW calm sj.1 (11 + 2 * j + 1), 0) (dn (psW calm sj.1))).1, sj.2 ||| (wdF (nI j) sj.2 (psW calm sj.1, psW calm sj.1 (11 + 2 * j + 1), 0) (dn (psW calm sj.1))).2.2) from es.trans (if_neg hc)] at on
    exact on N2 x eN2 (HHd.nx hH2) (fun q h1 h2 h3 => (hf2 q h1 h3).trans (hfN q h1 h2 h3))
  refine a_l2 rfl rfl rfl ?_
  refine a_l1 rfl rfl rfl ?_
  cases calm with
  | true =>
    refine a_if_ne rfl (fun _ => ?_) (fun z => absurd z (by decide))
    exact wk K eK rfl hfK (fun z => by cases z.1)
  | false =>
    refine a_if_ne rfl (fun z => absurd rfl z) (fun _ => ?_)
    refine a_l0 rfl rfl rfl ?_
    refine a_s rfl rfl ?_
    refine a_eV1 rfl lX12_373 mo_X12_drawn h_drawn rfl rfl rfl ⟨12, _, rfl, rfl, rfl⟩ rfl ?_
    have e10 : K 421 10 = sj.1 10 := congrFun eK 10
    rw [e10]
    have eN : up2 K 421 10 (seedF (sj.1 10)) 421 = psW false sj.1 := by rw [up2_ud, eK]; rfl
    refine a_l0 rfl rfl rfl ?_
    refine a_getq rfl gfX12_13_12 rfl (rfl) ?_
    refine a_s rfl rfl ?_
    refine a_ialdv (v := sj.1 6) rfl (n := 2033) rfl ⟨by decide, by decide⟩ ((up2_ne (Or.inr (by decide))).trans (congrFun eK 6)) ?_
    refine a_ic_ge rfl (fun c2 => ?_) (fun c2 => ?_)
    · exact wk _ eN (up2_row (by decide)) (fun q h1 h2 h3 => by rw [up2_row h1]; exact hfK q h1 h2 h3) (fun z => absurd z.2 (Int32.not_lt.mpr c2))
    · refine a_s rfl rfl ?_
      refine a_goto rfl ?_
      rw [show psF false W (j + 1) = (psW false sj.1, sj.2) from es.trans (if_pos ⟨rfl, Int32.not_le.mp c2⟩)] at on
      exact on _ 0 eN (by rw [up2_row (by decide)]; exact HHd.sk hHK) (fun q h1 h2 h3 => by rw [up2_row h1]; exact hfK q h1 h2 h3)
end T79za
