/-! ===== the reference: remembering, undoing, the image, the tape (printed by program) ===== -/
set_option maxRecDepth 100000
theorem RI.eq {nd np : Nat} {I I' : Nat → Nat → Int32} (h : RI nd np I) (e1 : I' 421 = I 421) (e2 : I' 422 = I 422) (e5 : I' 425 = I 425) (e6 : I' 420 6 = I 420 6) (e7 : I' 420 7 = I 420 7) : RI nd np I' := by
  unfold RI
  rw [e1]
  exact ⟨h.so, h.fr, h.lw, h.lg, h.im.eq e6 e2, h.ac.eq e7 e5 (by rw [e1])⟩
section R63
variable {S : aS} {I : Nat → Nat → Int32} {L : Nat → Nat → Int64} {w1 w2 t : Nat} {nd np : Nat}
theorem rem2 {B : Nat → Nat → Int32} {m : Nat} (hm : m < 12) (e : B 420 7 = nI (m + 1)) {Q : Option Value → aH → Prop} {X : String → aH → Prop} {u : Option Value} (k : Q none (hp (cpR B 425 (335 * m) 421 0 335) L w1 w2 t)) : AW S m_X12_remembers 12 Q X 0 0 53 [some (.ref 420), u] [] (hp B L w1 w2 t) := by
  refine a_s rfl rfl ?_
  refine a_s1 rfl rfl rfl rfl rfl rfl ?_
  refine a_forE (n := 335) (fun j => [some (.ref 420), some (.int (nI j))]) (fun j => hp (cpR B 425 (335 * m) 421 0 j) L w1 w2 t) (by simp [lsub, nI_0]) (by rw [cpR_0]) ?_ (fun j hj ih => ?_)
  · refine a_l1 rfl rfl rfl ?_
    refine a_s rfl rfl ?_
    refine a_ic_ge rfl (fun _ => ?_) (fun c => absurd (Int32.le_refl _) c)
    exact a_vret rfl rfl k
  · refine a_l1 rfl rfl rfl ?_
    refine a_s rfl rfl ?_
    refine a_ic_ge rfl (fun c => absurd c (nI_ge (b := 335) hj (by omega))) (fun _ => ?_)
    refine a_l0 rfl rfl rfl ?_
    refine a_getq rfl gfX12_26_12 rfl (rfl) ?_
    refine a_s rfl rfl ?_
    refine a_l0 rfl rfl rfl ?_
    refine a_geti rfl gfX12_53_12 rfl ?_
    refine a_top (y := nI (m + 1)) ((congrFun (cpR_row (by decide)) 7).trans e) ?_
    refine a_s rfl rfl ?_
    refine a_s rfl rfl ?_
    refine a_top (y := nI m) (nI_dec m) ?_
    refine a_s rfl rfl ?_
    refine a_top (y := nI (335 * m)) (nI_mul 335 m) ?_
    refine a_l1 rfl rfl rfl ?_
    refine a_s rfl rfl ?_
    refine a_top (y := nI (335 * m + j)) (nI_addl _ _) ?_
    refine a_l0 rfl rfl rfl ?_
    refine a_getq rfl gfX12_13_12 rfl (rfl) ?_
    refine a_l1 rfl rfl rfl ?_
    refine a_ialdv (v := B 421 (j + 0)) rfl (n := 2033) rfl (inI_nI (by omega) (by omega)) (by rw [nI_clamp (by omega), cpR_row (by decide)]; rfl) ?_
    refine a_iastv (k := 335 * m + j) rfl (n := 4020) rfl (inI_nI (by omega) (by omega)) (nI_clamp (by omega)) ?_
    rw [cpR_succ]
    refine a_i1 rfl rfl rfl ?_
    refine a_goto rfl ?_
    exact a_back ih (by simp [lsub, nI_1]) rfl
theorem r_X12_remembers (hr : RI nd np I) : Sp S m_X12_remembers 12 0 0 [.ref 420] (hp I L w1 w2 t) (fun v h' => v = none ∧ ∃ I', h' = hp I' L w1 w2 t ∧ Mr nd np I I' ∧ I' 421 = I 421) nX := by
  obtain ⟨r, hr12, er, ha⟩ := hr.ac
  have fin := Mr.rem hr hr12 er ha
  refine Sp_of ok_X12_remembers rfl rfl ?_
  show AW S m_X12_remembers 12 _ _ 0 0 0 [some (.ref 420), none] [] (hp I L w1 w2 t)
  refine a_l0 rfl rfl rfl ?_
  refine a_geti rfl gfX12_53_12 rfl ?_
  refine a_top (y := nI r) er ?_
  refine a_s rfl rfl ?_
  refine a_ic_ne rfl (fun c => ?_) (fun c => ?_)
  · have h12 : ¬ r = 12 := fun z => c (by rw [z]; rfl)
    unfold remH at fin
    rw [if_neg h12] at fin
    refine a_l0 rfl rfl rfl ?_
    refine a_s rfl rfl ?_
    refine a_geti rfl gfX12_53_12 rfl ?_
    refine a_top (y := nI r) er ?_
    refine a_s rfl rfl ?_
    refine a_s rfl rfl ?_
    refine a_top (y := nI (r + 1)) (nI_succ _).symm ?_
    refine a_puti rfl pfX12_53_12 rfl ?_
    exact rem2 (by omega) up2_at ⟨rfl, _, rfl, fin⟩
  · have h12 : r = 12 := nI_inj (by omega) (by decide) c
    subst h12
    unfold remH at fin
    rw [if_pos rfl] at fin
    refine a_s rfl rfl ?_
    refine a_s1 rfl rfl rfl rfl rfl rfl ?_
    refine a_forE (n := 3685) (fun j => [some (.ref 420), some (.int (nI j))]) (fun j => hp (cpR I 425 0 425 335 j) L w1 w2 t) (by simp [lsub, nI_0]) (by rw [cpR_0]) ?_ (fun j hj ih => ?_)
    · refine a_l1 rfl rfl rfl ?_
      refine a_s rfl rfl ?_
      refine a_ic_ge rfl (fun _ => ?_) (fun c => absurd (Int32.le_refl _) c)
      refine a_goto rfl ?_
      exact rem2 (m := 11) (by decide) ((congrFun (cpR_row (by decide)) 7).trans er) ⟨rfl, _, rfl, fin⟩
    · refine a_l1 rfl rfl rfl ?_
      refine a_s rfl rfl ?_
      refine a_ic_ge rfl (fun c => absurd c (nI_ge (b := 3685) hj (by omega))) (fun _ => ?_)
      refine a_l0 rfl rfl rfl ?_
      refine a_getq rfl gfX12_26_12 rfl (rfl) ?_
      refine a_l1 rfl rfl rfl ?_
      refine a_l0 rfl rfl rfl ?_
      refine a_getq rfl gfX12_26_12 rfl (rfl) ?_
      refine a_l1 rfl rfl rfl ?_
      refine a_s rfl rfl ?_
      refine a_s rfl rfl ?_
      refine a_top (y := nI (j + 335)) (nI_addl j 335) ?_
      refine a_ialdv (v := I 425 (j + 335)) rfl (n := 4020) rfl (inI_nI (by omega) (by omega)) (by rw [nI_clamp (by omega)]; exact cpR_out (by omega)) ?_
      refine a_iastv (k := 0 + j) rfl (n := 4020) rfl (inI_nI (by omega) (by omega)) (by rw [nI_clamp (by omega)]; omega) ?_
      rw [cpR_succ]
      refine a_i1 rfl rfl rfl ?_
      refine a_goto rfl ?_
      exact a_back ih (by simp [lsub, nI_1]) rfl
theorem RI.un {m : Nat} {I : Nat → Nat → Int32} (h : RI nd np I) (er : I 420 7 = nI (m + 1)) (hm : m + 1 ≤ 12) (ha : ∀ i, i < m + 1 → StW (fun k => I 425 (335 * i + k)) ∧ I 425 (335 * i + 3) = I 421 3) : ∃ nd' np', Mr nd' np' I (cpR (up2 (up2 I 420 0 0) 420 7 (nI m)) 421 0 425 (335 * m) 335) := by
  obtain ⟨⟨nd', np', h1, h2, h3⟩, h4⟩ := ha m (by omega)
  have e0 : ∀ q, q ≠ 421 → q ≠ 420 → cpR (up2 (up2 I 420 0 0) 420 7 (nI m)) 421 0 425 (335 * m) 335 q = I q := fun q g1 g2 => by
    rw [cpR_row g1, up2_row g2, up2_row g2]
  have e1 : ∀ k, k ≠ 7 → k ≠ 0 → cpR (up2 (up2 I 420 0 0) 420 7 (nI m)) 421 0 425 (335 * m) 335 420 k = I 420 k := fun k g1 g2 => by
    rw [cpR_row (by decide), up2_ne (Or.inr g1), up2_ne (Or.inr g2)]
  have e2 : ∀ k, k < 335 → cpR (up2 (up2 I 420 0 0) 420 7 (nI m)) 421 0 425 (335 * m) 335 421 k = I 425 (335 * m + k) := fun k hk => by
    rw [show k = 0 + k by omega, cpR_in hk, up2_row (by decide), up2_row (by decide), Nat.add_comm k (335 * m), show 0 + k = k by omega]
  have e3 : ∀ k, 335 ≤ k → cpR (up2 (up2 I 420 0 0) 420 7 (nI m)) 421 0 425 (335 * m) 335 421 k = I 421 k := fun k hk => by
    rw [cpR_out (by omega), up2_row (by decide), up2_row (by decide)]
  have hn' := h1.n
  have h6' := h1.p
  refine ⟨nd', np', ⟨fun q hq => e0 q (by omega) (by omega), e1 9 (by decide) (by decide), e1 6 (by decide) (by decide)⟩, ?_, fun p hp => ?_, ?_, ?_, h.im.eq (e1 6 (by decide) (by decide)) (e0 422 (by decide) (by decide)), ⟨m, by omega, ?_, fun i hi => ?_⟩⟩
  · exact h1.eq (e2 0 (by decide)) (e2 1 (by decide)) (e2 7 (by decide)) (fun d k hd hk => e2 _ (by omega)) (fun _ _ => trivial)
  · show ∃ g, g ≤ 9 ∧ cpR _ 421 0 425 (335 * m) 335 421 (11 + 2 * p + 1) = nI g
    rw [e2 _ (by omega)]
    exact h2 p hp
  · exact h.lw.eq ((e2 3 (by decide)).trans h4) (fun k g1 _ => e3 k g1)
  · obtain ⟨k, g1, g2⟩ := h3
    exact ⟨k, g1, (e2 9 (by decide)).trans g2⟩
  · rw [cpR_row (by decide), up2_at]
  · rw [e0 425 (by decide) (by decide), e2 3 (by decide), h4]
    exact ha i (by omega)
theorem r_X12_undo (hr : RI nd np I) : Sp S m_X12_undo 12 0 0 [.ref 420] (hp I L w1 w2 t) (fun v h' => isZ v ∧ ∃ nd' np' I', h' = hp I' L w1 w2 t ∧ Mr nd' np' I I') nX := by
  obtain ⟨r, hr12, er, ha⟩ := hr.ac
  refine Sp_of ok_X12_undo rfl rfl ?_
  show AW S m_X12_undo 12 _ _ 0 0 0 [some (.ref 420), none] [] (hp I L w1 w2 t)
  refine a_l0 rfl rfl rfl ?_
  refine a_s rfl rfl ?_
  refine a_puti rfl pfX12_3_12 rfl ?_
  refine a_l0 rfl rfl rfl ?_
  refine a_geti rfl gfX12_53_12 rfl ?_
  refine a_top (y := nI r) ((up2_ne (Or.inr (by decide))).trans er) ?_
  refine a_if_ne rfl (fun c => ?_) (fun c => ?_)
  · rcases r with _ | m
    · exact absurd rfl c
    · obtain ⟨nd', np', fin⟩ := RI.un hr er hr12 ha
      refine a_l0 rfl rfl rfl ?_
      refine a_s rfl rfl ?_
      refine a_geti rfl gfX12_53_12 rfl ?_
      refine a_top (y := nI (m + 1)) ((up2_ne (Or.inr (by decide))).trans er) ?_
      refine a_s rfl rfl ?_
      refine a_s rfl rfl ?_
      refine a_top (y := nI m) (nI_dec m) ?_
      refine a_puti rfl pfX12_53_12 rfl ?_
      refine a_s rfl rfl ?_
      refine a_s1 rfl rfl rfl rfl rfl rfl ?_
      refine a_forE (n := 335) (fun j => [some (.ref 420), some (.int (nI j))]) (fun j => hp (cpR (up2 (up2 I 420 0 0) 420 7 (nI m)) 421 0 425 (335 * m) j) L w1 w2 t) (by simp [lsub, nI_0]) (by rw [cpR_0]) ?_ (fun j hj ih => ?_)
      · refine a_l1 rfl rfl rfl ?_
        refine a_s rfl rfl ?_
        refine a_ic_ge rfl (fun _ => ?_) (fun c => absurd (Int32.le_refl _) c)
        refine a_s rfl rfl ?_
        exact a_zret rfl rfl rfl ⟨⟨true, rfl⟩, nd', np', _, rfl, fin⟩
      · refine a_l1 rfl rfl rfl ?_
        refine a_s rfl rfl ?_
        refine a_ic_ge rfl (fun c => absurd c (nI_ge (b := 335) hj (by omega))) (fun _ => ?_)
        refine a_l0 rfl rfl rfl ?_
        refine a_getq rfl gfX12_13_12 rfl (rfl) ?_
        refine a_l1 rfl rfl rfl ?_
        refine a_l0 rfl rfl rfl ?_
        refine a_getq rfl gfX12_26_12 rfl (rfl) ?_
        refine a_s rfl rfl ?_
        refine a_l0 rfl rfl rfl ?_
        refine a_geti rfl gfX12_53_12 rfl ?_
        refine a_top (y := nI m) ((congrFun (cpR_row (by decide)) 7).trans up2_at) ?_
        refine a_s rfl rfl ?_
        refine a_top (y := nI (335 * m)) (nI_mul 335 m) ?_
        refine a_l1 rfl rfl rfl ?_
        refine a_s rfl rfl ?_
        refine a_top (y := nI (335 * m + j)) (nI_addl _ _) ?_
        refine a_ialdv (v := up2 (up2 I 420 0 0) 420 7 (nI m) 425 (j + 335 * m)) rfl (n := 4020) rfl (inI_nI (by omega) (by omega)) (by rw [nI_clamp (by omega), cpR_row (by decide), Nat.add_comm j (335 * m)]) ?_
        refine a_iastv (k := 0 + j) rfl (n := 2033) rfl (inI_nI (by omega) (by omega)) (by rw [nI_clamp (by omega)]; omega) ?_
        rw [cpR_succ]
        refine a_i1 rfl rfl rfl ?_
        refine a_goto rfl ?_
        exact a_back ih (by simp [lsub, nI_1]) rfl
  · refine a_s rfl rfl ?_
    exact a_zret rfl rfl rfl ⟨⟨false, rfl⟩, nd, np, _, rfl, Mr.fm (Mr.rf hr) (Fm.up Fm.rf rfl)⟩
/-- the image is kept -/
def imH (I : Nat → Nat → Int32) : Nat → Nat → Int32 := up2 (cpR (up2 I 420 0 0) 422 0 421 0 1184) 420 6 1
theorem StW.of {W W' : Nat → Int32} (h : StW W) (e : ∀ k, k < 1184 → W' k = W k) : StW W' := h.eq fun k hk => e k (by omega)
theorem imH_at {I : Nat → Nat → Int32} : ∀ k, k < 1184 → imH I 422 k = I 421 k := fun k hk => by
  unfold imH
  rw [up2_row (by decide), show k = 0 + k by omega, cpR_in hk, up2_row (by decide), show k + 0 = 0 + k by omega]
theorem imH_row {I : Nat → Nat → Int32} {q : Nat} (h1 : q ≠ 422) (h2 : q ≠ 420) : imH I q = I q := by
  unfold imH
  rw [up2_row h2, cpR_row h1, up2_row h2]
theorem imH_f {I : Nat → Nat → Int32} {k : Nat} (h1 : k ≠ 6) (h2 : k ≠ 0) : imH I 420 k = I 420 k := by
  unfold imH
  rw [up2_ne (Or.inr h1), cpR_row (by decide), up2_ne (Or.inr h2)]
theorem imH_ok {I : Nat → Nat → Int32} (h : RI nd np I) : (∀ q, (q < 420 ∨ q = 426) → imH I q = I q) ∧ imH I 420 9 = I 420 9 ∧ imH I 420 6 = 1 ∧ RI nd np (imH I) := by
  refine ⟨fun q hq => imH_row (by omega) (by omega), imH_f (by decide) (by decide), up2_at, ?_⟩
  unfold RI
  rw [imH_row (q := 421) (by decide) (by decide)]
  exact ⟨h.so, h.fr, h.lw, h.lg, Or.inr ⟨h.st.of imH_at, h.lw.eq (imH_at 3 (by decide)) (fun k _ h2 => imH_at k h2)⟩, h.ac.eq (imH_f (by decide) (by decide)) (imH_row (by decide) (by decide)) (by rw [imH_row (q := 421) (by decide) (by decide)])⟩
theorem r_X12_image (hr : RI nd np I) : SpE S m_X12_image 12 [.ref 420] (hp I L w1 w2 t) none (hp (imH I) L w1 w2 t) := by
  refine SpE_of ok_X12_image rfl rfl ?_
  show AW S m_X12_image 12 _ _ 0 0 0 [some (.ref 420), none] [] (hp I L w1 w2 t)
  refine a_l0 rfl rfl rfl ?_
  refine a_s rfl rfl ?_
  refine a_puti rfl pfX12_3_12 rfl ?_
  refine a_s rfl rfl ?_
  refine a_s1 rfl rfl rfl rfl rfl rfl ?_
  refine a_forE (n := 1184) (fun j => [some (.ref 420), some (.int (nI j))]) (fun j => hp (cpR (up2 I 420 0 0) 422 0 421 0 j) L w1 w2 t) (by simp [lsub, nI_0]) (by rw [cpR_0]) ?_ (fun j hj ih => ?_)
  · refine a_l1 rfl rfl rfl ?_
    refine a_s rfl rfl ?_
    refine a_ic_ge rfl (fun _ => ?_) (fun c => absurd (Int32.le_refl _) c)
    refine a_l0 rfl rfl rfl ?_
    refine a_s rfl rfl ?_
    refine a_putz rfl pfX12_49_12 ⟨rfl, rfl⟩ rfl ?_
    exact a_vret rfl rfl ⟨rfl, rfl⟩
  · refine a_l1 rfl rfl rfl ?_
    refine a_s rfl rfl ?_
    refine a_ic_ge rfl (fun c => absurd c (nI_ge (b := 1184) hj (by omega))) (fun _ => ?_)
    refine a_l0 rfl rfl rfl ?_
    refine a_getq rfl gfX12_17_12 rfl (rfl) ?_
    refine a_l1 rfl rfl rfl ?_
    refine a_l0 rfl rfl rfl ?_
    refine a_getq rfl gfX12_13_12 rfl (rfl) ?_
    refine a_l1 rfl rfl rfl ?_
    refine a_ialdv (v := (up2 I 420 0 0) 421 (j + 0)) rfl (n := 2033) rfl (inI_nI (by omega) (by omega)) (by rw [nI_clamp (by omega), cpR_row (by decide)]; rfl) ?_
    refine a_iastv (k := 0 + j) rfl (n := 1184) rfl (inI_nI (by omega) (by omega)) (by rw [nI_clamp (by omega)]; omega) ?_
    rw [cpR_succ]
    refine a_i1 rfl rfl rfl ?_
    refine a_goto rfl ?_
    exact a_back ih (by simp [lsub, nI_1]) rfl
/-- gone back to it -/
def bkH (I : Nat → Nat → Int32) : Nat → Nat → Int32 := up2 (cpR (up2 I 420 0 0) 421 0 422 0 1184) 420 7 0
theorem bkH_ok {I : Nat → Nat → Int32} (h : RI nd np I) (c : ¬ I 420 6 = 0) : ∃ nd' np', Mr nd' np' I (bkH I) := by
  obtain ⟨⟨nd', np', h1, h2, h3⟩, h4⟩ := h.im.resolve_left c
  have e0 : ∀ q, q ≠ 421 → q ≠ 420 → bkH I q = I q := fun q g1 g2 => by
    unfold bkH
    rw [up2_row g2, cpR_row g1, up2_row g2]
  have e1 : ∀ k, k ≠ 7 → k ≠ 0 → bkH I 420 k = I 420 k := fun k g1 g2 => by
    unfold bkH
    rw [up2_ne (Or.inr g1), cpR_row (by decide), up2_ne (Or.inr g2)]
  have e2 : ∀ k, k < 1184 → bkH I 421 k = I 422 k := fun k hk => by
    unfold bkH
    rw [up2_row (by decide), show k = 0 + k by omega, cpR_in hk, up2_row (by decide), show k + 0 = 0 + k by omega]
  have hn' := h1.n
  have h6' := h1.p
  refine ⟨nd', np', ⟨fun q hq => e0 q (by omega) (by omega), e1 9 (by decide) (by decide), e1 6 (by decide) (by decide)⟩, ?_, fun p hp => ?_, ?_, ?_, h.im.eq (e1 6 (by decide) (by decide)) (e0 422 (by decide) (by decide)), ⟨0, by omega, up2_at, fun i hi => absurd hi (by omega)⟩⟩
  · exact h1.eq (e2 0 (by decide)) (e2 1 (by decide)) (e2 7 (by decide)) (fun d k hd hk => e2 _ (by omega)) (fun _ _ => trivial)
  · show ∃ g, g ≤ 9 ∧ bkH I 421 (11 + 2 * p + 1) = nI g
    rw [e2 _ (by omega)]
    exact h2 p hp
  · exact h4.eq (e2 3 (by decide)) (fun k _ g2 => e2 k g2)
  · obtain ⟨k, g1, g2⟩ := h3
    exact ⟨k, g1, (e2 9 (by decide)).trans g2⟩
theorem r_X12_back (hr : RI nd np I) : Sp S m_X12_back 12 0 0 [.ref 420] (hp I L w1 w2 t) (fun v h' => v = some (.int (bI (decide (¬ I 420 6 = 0)))) ∧ ∃ nd' np' I', h' = hp I' L w1 w2 t ∧ Mr nd' np' I I') nX := by
  refine Sp_of ok_X12_back rfl rfl ?_
  show AW S m_X12_back 12 _ _ 0 0 0 [some (.ref 420), none] [] (hp I L w1 w2 t)
  refine a_l0 rfl rfl rfl ?_
  refine a_s rfl rfl ?_
  refine a_puti rfl pfX12_3_12 rfl ?_
  refine a_l0 rfl rfl rfl ?_
  refine a_geti rfl gfX12_49_12 rfl ?_
  refine a_top (y := I 420 6) (up2_ne (Or.inr (by decide))) ?_
  refine a_if_ne rfl (fun c => ?_) (fun c => ?_)
  · obtain ⟨nd', np', fin⟩ := bkH_ok hr c
    refine a_s rfl rfl ?_
    refine a_s1 rfl rfl rfl rfl rfl rfl ?_
    refine a_forE (n := 1184) (fun j => [some (.ref 420), some (.int (nI j))]) (fun j => hp (cpR (up2 I 420 0 0) 421 0 422 0 j) L w1 w2 t) (by simp [lsub, nI_0]) (by rw [cpR_0]) ?_ (fun j hj ih => ?_)
    · refine a_l1 rfl rfl rfl ?_
      refine a_s rfl rfl ?_
      refine a_ic_ge rfl (fun _ => ?_) (fun c => absurd (Int32.le_refl _) c)
      refine a_l0 rfl rfl rfl ?_
      refine a_s rfl rfl ?_
      refine a_puti rfl pfX12_53_12 rfl ?_
      refine a_s rfl rfl ?_
      exact a_zret rfl rfl rfl ⟨by rw [decide_eq_true c]; rfl, nd', np', _, rfl, fin⟩
    · refine a_l1 rfl rfl rfl ?_
      refine a_s rfl rfl ?_
      refine a_ic_ge rfl (fun c => absurd c (nI_ge (b := 1184) hj (by omega))) (fun _ => ?_)
      refine a_l0 rfl rfl rfl ?_
      refine a_getq rfl gfX12_13_12 rfl (rfl) ?_
      refine a_l1 rfl rfl rfl ?_
      refine a_l0 rfl rfl rfl ?_
      refine a_getq rfl gfX12_17_12 rfl (rfl) ?_
      refine a_l1 rfl rfl rfl ?_
      refine a_ialdv (v := (up2 I 420 0 0) 422 (j + 0)) rfl (n := 1184) rfl (inI_nI (by omega) (by omega)) (by rw [nI_clamp (by omega), cpR_row (by decide)]; rfl) ?_
      refine a_iastv (k := 0 + j) rfl (n := 2033) rfl (inI_nI (by omega) (by omega)) (by rw [nI_clamp (by omega)]; omega) ?_
      rw [cpR_succ]
      refine a_i1 rfl rfl rfl ?_
      refine a_goto rfl ?_
      exact a_back ih (by simp [lsub, nI_1]) rfl
  · refine a_s rfl rfl ?_
    exact a_zret rfl rfl rfl ⟨by rw [decide_eq_false (fun z => z c)]; rfl, nd, np, _, rfl, Mr.fm (Mr.rf hr) (Fm.up Fm.rf rfl)⟩
theorem r_X12_end {x : Int32} : SpE S m_X12_end 12 [.ref 420, .int x] (hp I L w1 w2 t) (some (.int (bI (endB x (I 420 9))))) (hp (if endB x (I 420 9) then up2 (up2 I 420 0 0) 420 9 x else up2 I 420 0 0) L w1 w2 t) := by
  refine SpE_of ok_X12_end rfl rfl ?_
  show AW S m_X12_end 12 _ _ 0 0 0 [some (.ref 420), some (.int x)] [] (hp I L w1 w2 t)
  refine a_l0 rfl rfl rfl ?_
  refine a_s rfl rfl ?_
  refine a_puti rfl pfX12_3_12 rfl ?_
  refine a_l1 rfl rfl rfl ?_
  refine a_if_lt rfl (fun c1 => ?_) (fun c1 => ?_)
  · refine a_s rfl rfl ?_
    exact a_zret rfl rfl rfl ⟨by simp [endB, bI, c1], by simp [endB, c1]⟩
  · refine a_l1 rfl rfl rfl ?_
    refine a_l0 rfl rfl rfl ?_
    refine a_geti rfl gfX12_78_12 rfl ?_
    refine a_top (y := I 420 9) (up2_ne (Or.inr (by decide))) ?_
    refine a_ic_le rfl (fun c12 => ?_) (fun c12 => ?_)
    · refine a_l0 rfl rfl rfl ?_
      refine a_l1 rfl rfl rfl ?_
      refine a_puti rfl pfX12_78_12 rfl ?_
      refine a_s rfl rfl ?_
      have e : endB x (I 420 9) = true := decide_eq_true ⟨c1, c12⟩
      exact a_zret rfl rfl rfl ⟨by rw [e]; rfl, by rw [e]; rfl⟩
    · refine a_s rfl rfl ?_
      have e : endB x (I 420 9) = false := decide_eq_false (fun z => c12 z.2)
      exact a_zret rfl rfl rfl ⟨by rw [e]; rfl, by rw [e]; rfl⟩
/-- twenty bytes more: the tape's row, five, its length -/
theorem nI_div4 : ∀ j, j < 20 → nI j / 4 = nI (j / 4) ∧ nI j - nI j / 4 * 4 = nI (j % 4) := by decide +kernel
theorem r_X12_feed {l : Nat} (hl : I 420 9 = nI l) (h4 : l ≤ 400) {x1 x2 x3 x4 x5 : Int32} : Sp S m_X12_feed 12 0 0 [.ref 420, .int x1, .int x2, .int x3, .int x4, .int x5] (hp I L w1 w2 t) (fun v h' => v = some (.int (if l + 20 ≤ 400 then nI (l + 20) else -1)) ∧ ∃ f g, h' = hp (if l + 20 ≤ 400 then up2 (upr (upr (up2 I 420 0 0) 427 g) 426 f) 420 9 (nI (l + 20)) else up2 I 420 0 0) L w1 w2 t) nX := by
  refine Sp_of ok_X12_feed rfl rfl ?_
  show AW S m_X12_feed 12 _ _ 0 0 0 [some (.ref 420), some (.int x1), some (.int x2), some (.int x3), some (.int x4), some (.int x5), none] [] (hp I L w1 w2 t)
  refine a_l0 rfl rfl rfl ?_
  refine a_s rfl rfl ?_
  refine a_puti rfl pfX12_3_12 rfl ?_
  refine a_l0 rfl rfl rfl ?_
  refine a_geti rfl gfX12_78_12 rfl ?_
  refine a_top (y := nI l) ((up2_ne (Or.inr (by decide))).trans hl) ?_
  refine a_s rfl rfl ?_
  refine a_s rfl rfl ?_
  refine a_top (y := nI (l + 20)) (nI_addl l 20) ?_
  refine a_s rfl rfl ?_
  refine a_ic_le rfl (fun c => ?_) (fun c => ?_)
  · have hc : l + 20 ≤ 400 := nI_ge_of (a := 400) (b := l + 20) c (by decide) (by omega)
    simp only [if_pos hc]
    refine a_l0 rfl rfl rfl ?_
    refine a_getq rfl gfX12_36_12 rfl (rfl) ?_
    refine a_s rfl rfl ?_
    refine a_l1 rfl rfl rfl ?_
    refine a_iastv (k := 0) rfl (n := 5) rfl ⟨by decide, by decide⟩ rfl ?_
    refine a_l0 rfl rfl rfl ?_
    refine a_getq rfl gfX12_36_12 rfl (rfl) ?_
    refine a_s rfl rfl ?_
    refine a_l2 rfl rfl rfl ?_
    refine a_iastv (k := 1) rfl (n := 5) rfl ⟨by decide, by decide⟩ rfl ?_
    refine a_l0 rfl rfl rfl ?_
    refine a_getq rfl gfX12_36_12 rfl (rfl) ?_
    refine a_s rfl rfl ?_
    refine a_l3 rfl rfl rfl ?_
    refine a_iastv (k := 2) rfl (n := 5) rfl ⟨by decide, by decide⟩ rfl ?_
    refine a_l0 rfl rfl rfl ?_
    refine a_getq rfl gfX12_36_12 rfl (rfl) ?_
    refine a_s rfl rfl ?_
    refine a_l4 rfl rfl rfl ?_
    refine a_iastv (k := 3) rfl (n := 5) rfl ⟨by decide, by decide⟩ rfl ?_
    refine a_l0 rfl rfl rfl ?_
    refine a_getq rfl gfX12_36_12 rfl (rfl) ?_
    refine a_s rfl rfl ?_
    refine a_l5 rfl rfl rfl ?_
    refine a_iastv (k := 4) rfl (n := 5) rfl ⟨by decide, by decide⟩ rfl ?_
    obtain ⟨g, eg⟩ : ∃ g, up2 (up2 (up2 (up2 (up2 (up2 I 420 0 0) 427 0 x1) 427 1 x2) 427 2 x3) 427 3 x4) 427 4 x5 = upr (up2 I 420 0 0) 427 g := ⟨_, by
      funext q
      by_cases hq : q = 427
      · subst hq
        rw [upr_at]
      · rw [upr_row hq, up2_row hq, up2_row hq, up2_row hq, up2_row hq, up2_row hq]⟩
    rw [eg]
    refine a_s rfl rfl ?_
    refine a_s6 rfl rfl rfl rfl rfl rfl ?_
    refine a_inv (n := 20) (fun m ls h => ∃ j f, j + m = 20 ∧ ls = [some (.ref 420), some (.int x1), some (.int x2), some (.int x3), some (.int x4), some (.int x5), some (.int (nI j))] ∧ h = hp (upr (upr (up2 I 420 0 0) 427 g) 426 f) L w1 w2 t) ⟨0, I 426, rfl, rfl, by
      congr 1
      congr 1
      funext q
      by_cases hq : q = 426
      · subst hq
        rw [upr_at, upr_row (by decide), up2_row (by decide)]
      · rw [upr_row hq]⟩ ?_
    rintro m _ _ ⟨j, f, hj, rfl, rfl⟩ ih
    refine a_l6 rfl rfl rfl ?_
    refine a_s rfl rfl ?_
    refine a_ic_ge rfl (fun c2 => ?_) (fun c2 => ?_)
    · refine a_l0 rfl rfl rfl ?_
      refine a_s rfl rfl ?_
      refine a_geti rfl gfX12_78_12 rfl ?_
      refine a_top (y := nI l) (by rw [upr_row (by decide), upr_row (by decide)]; exact (up2_ne (Or.inr (by decide))).trans hl) ?_
      refine a_s rfl rfl ?_
      refine a_s rfl rfl ?_
      refine a_top (y := nI (l + 20)) (nI_addl l 20) ?_
      refine a_puti rfl pfX12_78_12 rfl ?_
      refine a_l0 rfl rfl rfl ?_
      refine a_geti rfl gfX12_78_12 rfl ?_
      refine a_top (y := nI (l + 20)) up2_at ?_
      exact a_iret rfl rfl ⟨rfl, f, g, rfl⟩
    · have hj2 : j < 20 := nI_lt_of (b := 20) c2 (by omega) (by decide)
      refine a_l0 rfl rfl rfl ?_
      refine a_getq rfl gfX12_29_12 rfl (rfl) ?_
      refine a_l0 rfl rfl rfl ?_
      refine a_geti rfl gfX12_78_12 rfl ?_
      refine a_top (y := nI l) (by rw [upr_row (by decide), upr_row (by decide)]; exact (up2_ne (Or.inr (by decide))).trans hl) ?_
      refine a_l6 rfl rfl rfl ?_
      refine a_s rfl rfl ?_
      refine a_top (y := nI (l + j)) (nI_addl l j) ?_
      refine a_l0 rfl rfl rfl ?_
      refine a_getq rfl gfX12_36_12 rfl (rfl) ?_
      refine a_l6 rfl rfl rfl ?_
      refine a_s rfl rfl ?_
      refine a_idiv rfl (by decide) ?_
      refine a_top (y := nI (j / 4)) (nI_div4 j hj2).1 ?_
      refine a_iald rfl (n := 5) rfl (inI_nI (by omega) (by omega)) ?_
      refine a_s rfl rfl ?_
      refine a_s rfl rfl ?_
      refine a_l6 rfl rfl rfl ?_
      refine a_s rfl rfl ?_
      refine a_irem rfl (by decide) ?_
      refine a_s rfl rfl ?_
      refine a_s rfl rfl ?_
      refine a_s rfl rfl ?_
      refine a_s rfl rfl ?_
      refine a_bastv (k := l + j) rfl (n := 400) rfl (inI_nI (by omega) (by omega)) (i2b_id _) (nI_clamp (by omega)) ?_
      obtain ⟨f2, ef⟩ : ∃ f2, ∀ v, True → up2 (upr (upr (up2 I 420 0 0) 427 g) 426 f) 426 (l + j) v = upr (upr (up2 I 420 0 0) 427 g) 426 (f2 v) := ⟨fun v k => if k = l + j then v else f k, fun v _ => by
        funext q k
        by_cases hq : q = 426
        · subst hq
          rw [upr_at]
          by_cases hk : k = l + j
          · subst hk
            rw [up2_at]
            simp
          · rw [up2_ne (Or.inr hk), upr_at]
            simp [hk]
        · rw [upr_row hq, up2_row hq, upr_row hq]⟩
      rw [ef _ trivial]
      refine a_i6 rfl rfl rfl ?_
      refine a_goto rfl ?_
      exact a_less (ih (m - 1) _ _ (by omega) ⟨j + 1, _, by omega, rfl, rfl⟩) ⟨rfl, rfl, rfl, rfl, rfl, rfl, nS _, trivial⟩
  · have hc : ¬ l + 20 ≤ 400 := fun z => c (nI_leu z (by decide))
    simp only [if_neg hc]
    refine a_s rfl rfl ?_
    exact a_iret rfl rfl ⟨rfl, I 426, I 427, rfl⟩
theorem r_X12_uses : SpE S m_X12_uses 12 [.ref 420] (hp I L w1 w2 t) none (hp (up2 (up2 (up2 (up2 I 420 0 0) 420 11 (I 420 9)) 420 9 0) 420 10 0) L w1 w2 t) := by
  refine SpE_of ok_X12_uses rfl rfl ?_
  show AW S m_X12_uses 12 _ _ 0 0 0 [some (.ref 420)] [] (hp I L w1 w2 t)
  refine a_l0 rfl rfl rfl ?_
  refine a_s rfl rfl ?_
  refine a_puti rfl pfX12_3_12 rfl ?_
  refine a_l0 rfl rfl rfl ?_
  refine a_l0 rfl rfl rfl ?_
  refine a_geti rfl gfX12_78_12 rfl ?_
  refine a_top (y := I 420 9) (up2_ne (Or.inr (by decide))) ?_
  refine a_puti rfl pfX12_84_12 rfl ?_
  refine a_l0 rfl rfl rfl ?_
  refine a_s rfl rfl ?_
  refine a_puti rfl pfX12_78_12 rfl ?_
  refine a_l0 rfl rfl rfl ?_
  refine a_s rfl rfl ?_
  refine a_puti rfl pfX12_81_12 rfl ?_
  exact a_vret rfl rfl ⟨rfl, rfl⟩
end R63
