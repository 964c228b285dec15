/-! ===== the reference: the law taken ===== -/
section T74
variable {S : aS} {I : Nat → Nat → Int32} {L : Nat → Nat → Int64} {w1 w2 t : Nat} {nd np : Nat}
set_option maxRecDepth 100000
/-- the world's lower part, the image and the acts alone count -/
theorem RI.hi {J : Nat → Nat → Int32} (h : RI nd np I) (f : ∀ k, k < 1184 → J 421 k = I 421 k) (e2 : J 422 = I 422) (e5 : J 425 = I 425) (e6 : J 420 6 = I 420 6) (e7 : J 420 7 = I 420 7) : RI nd np J := by
  have hn := h.so.n
  have h6 := h.so.p
  refine ⟨h.so.eq (f 0 (by decide)) (f 1 (by decide)) (f 7 (by decide)) (fun d k hd hk => f _ (by omega)) (fun _ _ => trivial), fun p hp => ?_, h.lw.eq (f 3 (by decide)) (fun k _ h2 => f k h2), ?_, h.im.eq e6 e2, h.ac.eq e7 e5 (f 3 (by decide))⟩
  · obtain ⟨g, g1, g2⟩ := h.fr p hp
    exact ⟨g, g1, (f _ (by omega)).trans g2⟩
  · obtain ⟨k, k1, k2⟩ := h.lg
    exact ⟨k, k1, (f 9 (by decide)).trans k2⟩
theorem Us.same {J : Nat → Nat → Int32} (hr : RI nd np I) (h : GL I J) : Us nd np I J := by
  obtain ⟨f, h9⟩ := h
  exact ⟨fun q hq => funext fun k => f q k (sL_low hq), h9, f 420 6 rfl, hr.hi (fun k hk => f 421 k (sL_lo hk)) (funext fun k => f 422 k rfl) (funext fun k => f 425 k rfl) (f 420 6 rfl) (f 420 7 rfl)⟩
theorem LawR.of {W K : Nat → Int32} {nl n : Nat} (h3 : W 3 = 1) (h335 : W 335 = nI nl) (e : ∀ k, 1 ≤ k → k < 849 → W (335 + k) = K (1184 + k)) (hnl : nl ≤ 12) (hn : n ≤ 400) (hD : LD nl n K) : LwW W := by
  obtain ⟨hg, hl⟩ := hD
  have hn' : ∀ i, i < n → i < 400 := fun i hi => by omega
  refine ⟨nl, n, cdD K, fun m => (K (1185 + 4 * m + 2)).toNatClampNeg, fun m => (K (1185 + 4 * m + 3)).toNatClampNeg - (K (1185 + 4 * m + 2)).toNatClampNeg, Or.inr ⟨h3, h335⟩, hnl, hn, fun i hi => ?_, fun m hm => ?_⟩
  · obtain ⟨k, m, g1, g2, g3, g4⟩ := hg i hi
    have hi4 := hn' i hi
    refine ⟨k, m, g1, g2, ?_, ?_, ?_⟩
    · rw [show 384 + 2 * i = 335 + (49 + 2 * i) by omega, e _ (by omega) (by omega), show 1184 + (49 + 2 * i) = 1233 + 2 * i by omega]
      exact g3
    · rw [show 385 + 2 * i = 335 + (50 + 2 * i) by omega, e _ (by omega) (by omega), show 1184 + (50 + 2 * i) = 1233 + 2 * i + 1 by omega]
      exact g4
    · unfold cdD
      rw [g3, g4, nI_clamp (by omega), nI_clamp (by omega)]
  · obtain ⟨a, b, y1, y2, y3, y4, y5⟩ := hl m hm
    have e1 : (K (1185 + 4 * m + 2)).toNatClampNeg = a := by rw [y1, nI_clamp (by omega)]
    have e2 : (K (1185 + 4 * m + 3)).toNatClampNeg = b := by rw [y2, nI_clamp (by omega)]
    refine ⟨?_, ?_, ?_, ?_⟩
    · rw [show 336 + 4 * m + 2 = 335 + (3 + 4 * m) by omega, e _ (by omega) (by omega), show 1184 + (3 + 4 * m) = 1185 + 4 * m + 2 by omega]
      show _ = nI (K (1185 + 4 * m + 2)).toNatClampNeg
      rw [e1]
      exact y1
    · rw [show 336 + 4 * m + 3 = 335 + (4 + 4 * m) by omega, e _ (by omega) (by omega), show 1184 + (4 + 4 * m) = 1185 + 4 * m + 3 by omega]
      show _ = nI ((K (1185 + 4 * m + 2)).toNatClampNeg + ((K (1185 + 4 * m + 3)).toNatClampNeg - (K (1185 + 4 * m + 2)).toNatClampNeg))
      rw [e1, e2, show a + (b - a) = b by omega]
      exact y2
    · show (K (1185 + 4 * m + 2)).toNatClampNeg + ((K (1185 + 4 * m + 3)).toNatClampNeg - (K (1185 + 4 * m + 2)).toNatClampNeg) ≤ n
      rw [e1, e2]
      omega
    · show LineOk (cdD K) (K (1185 + 4 * m + 2)).toNatClampNeg ((K (1185 + 4 * m + 3)).toNatClampNeg - (K (1185 + 4 * m + 2)).toNatClampNeg)
      rw [e1, e2]
      exact y5
def lawH (K : Nat → Nat → Int32) (nl : Nat) : Nat → Nat → Int32 := up2 (up2 (cpR (up2 K 421 1184 (nI nl)) 421 335 421 1184 849) 421 3 1) 420 7 0
theorem Us.law {K : Nat → Nat → Int32} {nl n : Nat} (hr : RI nd np I) (h : GL I K) (hnl : nl ≤ 12) (hn : n ≤ 400) (hD : LD nl n (K 421)) : Us nd np I (lawH K nl) := by
  obtain ⟨f, h9⟩ := h
  have e0 : ∀ q, q ≠ 421 → q ≠ 420 → lawH K nl q = K q := fun q h1 h2 => by
    unfold lawH
    rw [up2_row h2, up2_row h1, cpR_row h1, up2_row h1]
  have e1 : ∀ k, k ≠ 7 → lawH K nl 420 k = K 420 k := fun k hk => by
    unfold lawH
    rw [up2_ne (Or.inr hk), up2_row (by decide), cpR_row (by decide), up2_row (by decide)]
  have e2 : ∀ k, k < 335 → k ≠ 3 → lawH K nl 421 k = I 421 k := fun k h1 h2 => by
    unfold lawH
    rw [up2_row (by decide), u2_lo h2, cpR_out (by omega), u2_lo (by omega)]
    exact f 421 k (sL_lo (by omega))
  have e3 : lawH K nl 421 3 = 1 := by
    unfold lawH
    rw [up2_row (by decide)]
    exact up2_at
  have e4 : lawH K nl 421 335 = nI nl := by
    unfold lawH
    rw [up2_row (by decide), u2_lo (by decide), show 335 = 335 + 0 by omega, cpR_in (by decide)]
    exact up2_at
  have e5 : ∀ k, 1 ≤ k → k < 849 → lawH K nl 421 (335 + k) = K 421 (1184 + k) := fun k h1 h2 => by
    unfold lawH
    rw [up2_row (by decide), u2_lo (by omega), cpR_in h2, u2_lo (by omega), Nat.add_comm]
  have hs := hr.so
  have hn12 := hs.n
  have h6 := hs.p
  refine ⟨fun q hq => ?_, (e1 9 (by decide)).trans h9, (e1 6 (by decide)).trans (f 420 6 rfl), ?_, fun p hp => ?_, LawR.of e3 e4 e5 hnl hn hD, ?_, ?_, ⟨0, by decide, ?_, fun i hi => absurd hi (Nat.not_lt_zero _)⟩⟩
  · rw [e0 q (by omega) (by omega)]
    exact funext fun k => f q k (sL_low hq)
  · exact hs.eq (e2 0 (by decide) (by decide)) (e2 1 (by decide) (by decide)) (e2 7 (by decide) (by decide)) (fun d k hd hk => e2 _ (by omega) (by omega)) (fun _ _ => trivial)
  · obtain ⟨g, g1, g2⟩ := hr.fr p hp
    exact ⟨g, g1, (e2 _ (by omega) (by omega)).trans g2⟩
  · obtain ⟨k, k1, k2⟩ := hr.lg
    exact ⟨k, k1, (e2 9 (by decide) (by decide)).trans k2⟩
  · exact hr.im.eq ((e1 6 (by decide)).trans (f 420 6 rfl)) ((e0 422 (by decide) (by decide)).trans (funext fun k => f 422 k rfl))
  · unfold lawH
    exact up2_at
theorem r_X12_law (hw : WdS S) (hr : RI nd np I) (ht : ∃ l, l ≤ 400 ∧ I 420 9 = nI l) : Sp S m_X12_law 62 0 0 [.ref 420] (hp I L w1 w2 t) (QY I w1 w2 t) nX := by
  obtain ⟨l, hl4, hl⟩ := ht
  refine Sp_of ok_X12_law rfl rfl ?_
  show AW S m_X12_law 62 _ _ 0 0 0 [some (.ref 420), none, none] [] (hp I L w1 w2 t)
  have h0 : PL I l 0 0 (up2 (usH I) 420 16 0) := by
    refine ⟨⟨Fm.up ?_ rfl, (up2_ne (Or.inr (by decide))).trans usH_9⟩, by decide, ⟨?_, ?_, Nat.zero_le _, hl4⟩, 0, up2_at, Nat.le_refl _, fun i hi => absurd hi (Nat.not_lt_zero _), fun i hi => absurd hi (Nat.not_lt_zero _)⟩
    · unfold usH
      exact Fm.up (Fm.up (Fm.up (Fm.up Fm.rf rfl) rfl) rfl) rfl
    · exact (up2_ne (Or.inr (by decide))).trans up2_at
    · rw [up2_ne (Or.inr (by decide)), usH_11]
      exact hl
  have hPp : ∀ n p J, PL I l n p J → Pp l p J := fun n p J h => h.2.2.1
  have hP : ∀ n p J b p' J', PL I l n p J → Rd l p b p' J J' → PL I l n p' J' := by
    rintro n p J b p' J' ⟨h1, h2, h3, m, h4, h5, h6⟩ r
    have := Rd.pb r
    have := Rd.bp r
    exact ⟨GL.tr h1 (Rd.fm r) sR_sL rfl, h2, Rd.pp r, m, (Rd.fm r 420 16 rfl).trans h4, by omega, by rw [Rd.w r]; exact h6⟩
  have hU : ∀ n p J, PL I l n p J → p < l → PL I l n (p + 1) (up2 J 420 10 (nI (p + 1))) := by
    rintro n p J ⟨h1, h2, h3, m, h4, h5, h6⟩ hlt
    exact ⟨⟨Fm.up h1.1 rfl, (up2_ne (Or.inr (by decide))).trans h1.2⟩, h2, Pp.to h3 (by omega), m, (up2_ne (Or.inr (by decide))).trans h4, by omega, by rw [up2_row (by decide)]; exact h6⟩
  have hF : ∀ n p J, PL I l n p J → GL I J := fun n p J h => h.1
  refine a_l0 rfl rfl rfl ?_
  refine a_s rfl rfl ?_
  refine a_gV rfl lX12_239 mo_X12_readAll (r_X12_readAll (z := false) (P := PL I l) (Fq := GL I) (e := l) hPp hP hU hF (fun n p J h => r_X12_readLineL hw h) h0) rfl rfl rfl ⟨12, _, rfl, rfl, rfl⟩ rfl (fun v' h' hv => ?_)
  obtain ⟨x, J, rfl, rfl, hg, hx⟩ := hv
  refine a_s1 rfl rfl rfl rfl rfl rfl ?_
  refine a_l0 rfl rfl rfl ?_
  refine a_l1 rfl rfl rfl ?_
  refine a_if_ge rfl (fun c => ?_) (fun c => ?_)
  rotate_left
  · refine a_l0 rfl rfl rfl ?_
    refine a_geti rfl gfX12_91_12 rfl ?_
    refine a_goto rfl ?_
    refine a_puti rfl pfX12_33_12 rfl ?_
    refine a_l0 rfl rfl rfl ?_
    refine a_l1 rfl rfl rfl ?_
    refine a_if_ge rfl (fun c2 => absurd c2 c) (fun _ => ?_)
    refine a_s rfl rfl ?_
    refine a_goto rfl ?_
    refine a_s rfl rfl ?_
    refine a_gV rfl lX12_243 mo_X12_throwsIf (r_X12_throwsIf (b := true)) rfl rfl rfl ⟨12, _, rfl, rfl, rfl⟩ rfl (fun v' h' hv => ?_)
    obtain ⟨rfl, K, rfl, fK⟩ := hv
    refine a_if_eq rfl (fun c => absurd c (by decide)) (fun _ => ?_)
    refine a_s rfl rfl ?_
    exact a_iret rfl rfl ⟨⟨_, rfl⟩, nd, np, _, _, rfl, Us.same hr (GL.tr ⟨Fm.up hg.1 rfl, (up2_ne (Or.inr (by decide))).trans hg.2⟩ fK sU_sL rfl)⟩
  obtain ⟨nl, p', rfl, h1, h2, h3, n, h4, h5, h6⟩ := hx.resolve_left (fun z => by subst z; exact absurd c (by decide))
  refine a_s rfl rfl ?_
  refine a_puti rfl pfX12_33_12 rfl ?_
  refine a_l0 rfl rfl rfl ?_
  refine a_l1 rfl rfl rfl ?_
  refine a_if_ge rfl (fun _ => ?_) (fun c2 => absurd c c2)
  refine a_s rfl rfl ?_
  refine a_s rfl rfl ?_
  refine a_gV rfl lX12_243 mo_X12_throwsIf (r_X12_throwsIf (b := false)) rfl rfl rfl ⟨12, _, rfl, rfl, rfl⟩ rfl (fun v' h' hv => ?_)
  obtain ⟨rfl, K, rfl, fK⟩ := hv
  have gK : GL I K := GL.tr ⟨Fm.up hg.1 rfl, (up2_ne (Or.inr (by decide))).trans hg.2⟩ fK sU_sL rfl
  have eK : K 421 = J 421 := funext fun k => fK 421 k rfl
  have hpl := Pp.le h3
  have fin := Us.law hr gK h2 (show n ≤ 400 by omega) (by rw [eK]; exact h6)
  refine a_if_eq rfl (fun _ => ?_) (fun c => absurd rfl c)
  refine a_l0 rfl rfl rfl ?_
  refine a_getq rfl gfX12_13_12 rfl (rfl) ?_
  refine a_s rfl rfl ?_
  refine a_l1 rfl rfl rfl ?_
  refine a_iastv (k := 1184) rfl (n := 2033) rfl ⟨by decide, by decide⟩ rfl ?_
  refine a_s rfl rfl ?_
  refine a_s2 rfl rfl rfl rfl rfl rfl ?_
  refine a_forE (n := 849) (fun j => [some (.ref 420), some (.int (nI nl)), some (.int (nI j))]) (fun j => hp (cpR (up2 K 421 1184 (nI nl)) 421 335 421 1184 j) L w1 w2 t) (by simp [lsub, nI_0]) (by rw [cpR_0]) ?_ (fun j hj ih => ?_)
  · refine a_l2 rfl rfl rfl ?_
    refine a_s rfl rfl ?_
    refine a_ic_ge rfl (fun _ => ?_) (fun c => absurd (Int32.le_refl _) c)
    refine a_l0 rfl rfl rfl ?_
    refine a_getq rfl gfX12_13_12 rfl (rfl) ?_
    refine a_s rfl rfl ?_
    refine a_s rfl rfl ?_
    refine a_iastv (k := 3) rfl (n := 2033) rfl ⟨by decide, by decide⟩ rfl ?_
    refine a_l0 rfl rfl rfl ?_
    refine a_s rfl rfl ?_
    refine a_puti rfl pfX12_53_12 rfl ?_
    refine a_l1 rfl rfl rfl ?_
    exact a_iret rfl rfl ⟨⟨_, rfl⟩, nd, np, _, _, rfl, fin⟩
  · refine a_l2 rfl rfl rfl ?_
    refine a_s rfl rfl ?_
    refine a_ic_ge rfl (fun c => absurd c (nI_ge (b := 849) hj (by omega))) (fun _ => ?_)
    refine a_l0 rfl rfl rfl ?_
    refine a_getq rfl gfX12_13_12 rfl (rfl) ?_
    refine a_s rfl rfl ?_
    refine a_l2 rfl rfl rfl ?_
    refine a_s rfl rfl ?_
    refine a_top (y := nI (335 + j)) (nI_addl 335 j) ?_
    refine a_l0 rfl rfl rfl ?_
    refine a_getq rfl gfX12_13_12 rfl (rfl) ?_
    refine a_s rfl rfl ?_
    refine a_l2 rfl rfl rfl ?_
    refine a_s rfl rfl ?_
    refine a_top (y := nI (1184 + j)) (nI_addl 1184 j) ?_
    refine a_ialdv (v := up2 K 421 1184 (nI nl) 421 (j + 1184)) rfl (n := 2033) rfl (inI_nI (by omega) (by omega)) (by rw [nI_clamp (by omega), cpR_out (by omega), Nat.add_comm]) ?_
    refine a_iastv (k := 335 + j) rfl (n := 2033) rfl (inI_nI (by omega) (by omega)) (nI_clamp (by omega)) ?_
    rw [cpR_succ]
    refine a_i2 rfl rfl rfl ?_
    refine a_goto rfl ?_
    exact a_back ih (by simp [lsub, nI_1]) rfl
end T74
