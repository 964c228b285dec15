/-! ===== the class: sums of lines, growth, shame ===== -/
/-- a law at b: nl lines (0 without one), their codes -/
def LawC (I : Nat → Nat → Int32) (b nl len : Nat) (cd fa fn : Nat → Nat) : Prop := ((I b 0 = -1 ∧ nl = 0) ∨ I b 0 = nI nl) ∧ nl ≤ 12 ∧ len ≤ 400 ∧ (∀ i, i < len → I (b + 5) i = nI (cd i)) ∧ ∀ n, n < nl → I (b + 3) n = nI (fa n) ∧ I (b + 4) n = nI (fa n + fn n) ∧ fa n + fn n ≤ len ∧ LineOk cd (fa n) (fn n)
def sumC (I : Nat → Nat → Int32) (b : Nat) (F : Nat → Int32) (cd fa fn : Nat → Nat) (nl : Nat) (kind : Int32) : Int32 := sumL F (I (b + 1)) (I (b + 2)) cd fa fn kind nl
def growC (I : Nat → Nat → Int32) (a b : Nat) (cd fa fn : Nat → Nat) (nl d : Nat) : Int32 := sumC I b (factC I a d) cd fa fn nl 0
def shameC (I : Nat → Nat → Int32) (a b : Nat) (cd fa fn : Nat → Nat) (nl d : Nat) : Int32 := mx0 (I (a + 5) d + sumC I b (factC I a d) cd fa fn nl 1 - sumC I b (factC I a d) cd fa fn nl 2)
set_option maxRecDepth 100000
theorem sp_X2_sumOfLines {S : aS} {I : Nat → Nat → Int32} {L : Nat → Nat → Int64} {w1 w2 t : Nat} {b nl len : Nat} {cd fa fn : Nat → Nat} {F : Nat → Int32} (hb : lwp b) (hw : LawC I b nl len cd fa fn) (hF : ∀ k, k < 9 → I (b + 6) k = F k) (hF01 : ∀ k, k = 7 ∨ k = 8 → F k = 0 ∨ F k = 1) {kind : Int32} : Sp S m_X2_sumOfLines 15 0 0 [.ref b, .int kind] (hp I L w1 w2 t) (fun v h' => v = some (.int (sumC I b F cd fa fn nl kind)) ∧ ∃ f, h' = hp (upr I (b + 7) f) L w1 w2 t) (fun _ _ => False) := by
  refine Sp_of ok_X2_sumOfLines rfl rfl ?_
  show AW S m_X2_sumOfLines 15 _ _ 0 0 0 [some (.ref b), some (.int kind), none, none] [] (hp I L w1 w2 t)
  refine a_s rfl rfl ?_
  refine a_s2 rfl rfl rfl rfl rfl rfl ?_
  refine a_s rfl rfl ?_
  refine a_s3 rfl rfl rfl rfl rfl rfl ?_
  skip
  refine a_inv (n := nl) (fun mm ls h => ∃ j v, j + mm = nl ∧ ls = [some (.ref b), some (.int kind), some (.int (sumL F (I (b + 1)) (I (b + 2)) cd fa fn kind j)), some (.int (nI j))] ∧ h = hp (upr I (b + 7) v) L w1 w2 t) ⟨0, I (b + 7), by omega, by rw [nI_0]; rfl, by rw [upr_self]⟩ ?_
  rintro mm _ _ ⟨j, v, hj, rfl, rfl⟩ ih
  obtain ⟨hlin, hnl, hlen, hcd, hw0⟩ := hw
  by_cases hjn : j = nl
  · subst hjn
    rcases hlin with ⟨hlin, rfl⟩ | hlin
    · refine a_l3 rfl rfl rfl ?_
      refine a_l0 rfl rfl rfl ?_
      refine a_geti rfl gfX2_11_2 (kW0 hb) ?_
      rw [upr_row (show b ≠ b + 7 by omega)]
      refine a_top hlin ?_
      refine a_ic_ge rfl (fun c9 => ?_) (fun c => absurd (by decide) c)
      refine a_l2 rfl rfl rfl ?_
      refine a_iret rfl rfl ⟨rfl, v, rfl⟩
    · refine a_l3 rfl rfl rfl ?_
      refine a_l0 rfl rfl rfl ?_
      refine a_geti rfl gfX2_11_2 (kW0 hb) ?_
      rw [upr_row (show b ≠ b + 7 by omega)]
      refine a_top hlin ?_
      refine a_ic_ge rfl (fun c9 => ?_) (fun c => absurd (Int32.le_refl _) c)
      refine a_l2 rfl rfl rfl ?_
      refine a_iret rfl rfl ⟨rfl, v, rfl⟩
  · obtain ⟨hw1, hw2, hw3, hw4⟩ := hw0 j (by omega)
    replace hlin := hlin.resolve_left (fun z => by omega)
    refine a_l3 rfl rfl rfl ?_
    refine a_l0 rfl rfl rfl ?_
    refine a_geti rfl gfX2_11_2 (kW0 hb) ?_
    rw [upr_row (show b ≠ b + 7 by omega)]
    refine a_top hlin ?_
    refine a_ic_ge rfl (fun c => absurd c (nI_ge (by omega) (by omega))) (fun c9 => ?_)
    refine a_l0 rfl rfl rfl ?_
    refine a_getq rfl gfX2_15_2 (kW0 hb) (rW2 hb) ?_
    refine a_l3 rfl rfl rfl ?_
    refine a_eSN1 rfl lX2_61 mo_X11_at ((sp_X11_at (n := 12) (kW1 hb)).cast (r' := some (.int (I (b + 1) j))) (by rw [upr_row (by omega), atF_nI (by omega) (by decide)]) rfl) rfl rfl rfl rfl ?_
    refine a_l1 rfl rfl rfl ?_
    refine a_ic_ne rfl (fun c21 => ?_) (fun c21 => ?_)
    · refine a_i3 rfl rfl rfl ?_
      refine a_goto rfl ?_
      exact a_back (ih (mm - 1) _ _ (by omega) ⟨j + 1, v, by omega, rfl, rfl⟩) (by simp [lsub, nI_1, sumL, c21]) rfl
    · refine a_l0 rfl rfl rfl ?_
      refine a_l3 rfl rfl rfl ?_
      refine a_callV rfl lX2_105 mo_X2_holds (sp_X2_holds (n := j) (a := fa j) (N := fn j) (cd := cd) (F := F) hb (by omega) (by rw [upr_row (by omega)]; exact hw1) (by rw [upr_row (by omega)]; exact hw2) (by omega) (fun i hi => by rw [upr_row (by omega)]; exact hcd i (by omega)) (fun k hk => by rw [upr_row (by omega)]; exact hF k hk) hF01 hw4) rfl rfl rfl ⟨2, _, kW0 hb, rfl, rfl⟩ rfl (fun v' h' hv => ?_) (fun E h' hx => False.elim hx)
      obtain ⟨rfl, f, rfl⟩ := hv
      rw [upr_upr]
      refine a_if_eq rfl (fun c29 => ?_) (fun c29 => ?_)
      · refine a_i3 rfl rfl rfl ?_
        refine a_goto rfl ?_
        exact a_back (ih (mm - 1) _ _ (by omega) ⟨j + 1, _, by omega, rfl, rfl⟩) (by simp [lsub, nI_1, sumL, c21, bI_f c29]) rfl
      · refine a_l2 rfl rfl rfl ?_
        refine a_l0 rfl rfl rfl ?_
        refine a_getq rfl gfX2_19_2 (kW0 hb) (rW3 hb) ?_
        refine a_l3 rfl rfl rfl ?_
        refine a_eSN1 rfl lX2_61 mo_X11_at ((sp_X11_at (n := 12) (kW2 hb)).cast (r' := some (.int (I (b + 2) j))) (by rw [upr_row (by omega), atF_nI (by omega) (by decide)]) rfl) rfl rfl rfl rfl ?_
        refine a_s rfl rfl ?_
        refine a_s2 rfl rfl rfl rfl rfl rfl ?_
        refine a_i3 rfl rfl rfl ?_
        refine a_goto rfl ?_
        exact a_back (ih (mm - 1) _ _ (by omega) ⟨j + 1, _, by omega, rfl, rfl⟩) (by simp [lsub, nI_1, sumL, c21, bI_t c29]) rfl
theorem LawC.keep {I I' : Nat → Nat → Int32} {b nl len : Nat} {cd fa fn : Nat → Nat} (h : LawC I b nl len cd fa fn) (hf : ∀ q, q ≠ b + 6 → I' q = I q) : LawC I' b nl len cd fa fn := by
  unfold LawC at h ⊢
  rw [hf b (by omega), hf (b + 5) (by omega), hf (b + 3) (by omega), hf (b + 4) (by omega)]
  exact h
theorem LawC.keep7 {I : Nat → Nat → Int32} {f : Nat → Int32} {b nl len : Nat} {cd fa fn : Nat → Nat} (h : LawC I b nl len cd fa fn) : LawC (upr I (b + 7) f) b nl len cd fa fn := by
  unfold LawC at h ⊢
  rw [upr_row (show b ≠ b + 7 by omega), upr_row (show b + 5 ≠ b + 7 by omega), upr_row (show b + 3 ≠ b + 7 by omega), upr_row (show b + 4 ≠ b + 7 by omega)]
  exact h
theorem sp_X2_growthOf {S : aS} {I : Nat → Nat → Int32} {L : Nat → Nat → Int64} {w1 w2 t : Nat} {a b d nl len : Nat} {cd fa fn : Nat → Nat} (ha : stp a) (hb : lwp b) (hd : d < 12) (hw : LawC I b nl len cd fa fn) : Sp S m_X2_growthOf 16 0 0 [.ref b, .ref a, .int (nI d)] (hp I L w1 w2 t) (fun v h' => v = some (.int (growC I a b cd fa fn nl d)) ∧ ∃ I', h' = hp I' L w1 w2 t ∧ ∀ q, q ≠ b + 6 → q ≠ b + 7 → I' q = I q) (fun _ _ => False) := by
  refine Sp_of ok_X2_growthOf rfl rfl ?_
  show AW S m_X2_growthOf 16 _ _ 0 0 0 [some (.ref b), some (.ref a), some (.int (nI d))] [] (hp I L w1 w2 t)
  refine a_l0 rfl rfl rfl ?_
  refine a_l1 rfl rfl rfl ?_
  refine a_l2 rfl rfl rfl ?_
  refine a_callV rfl lX2_48 mo_X2_takeParts (sp_X2_takeParts ha hb (by omega)) rfl rfl rfl ⟨2, _, kW0 hb, rfl, rfl⟩ rfl (fun v h' hv => ?_) (fun E h' hx => False.elim hx)
  obtain ⟨rfl, I1, rfl, hf, hp9⟩ := hv
  have hsep := stp_lwp a ha b hb
  have hw' : LawC I1 b nl len cd fa fn := hw.keep hf
  have e1 : I1 (b + 1) = I (b + 1) := hf _ (by omega)
  have e2 : I1 (b + 2) = I (b + 2) := hf _ (by omega)
  refine a_l0 rfl rfl rfl ?_
  refine a_s rfl rfl ?_
  refine a_callV rfl lX2_52 mo_X2_sumOfLines (sp_X2_sumOfLines (F := factC I a d) hb hw' hp9 (factC_01 I a d)) rfl rfl rfl ⟨2, _, kW0 hb, rfl, rfl⟩ rfl (fun v h' hv => ?_) (fun E h' hx => False.elim hx)
  obtain ⟨rfl, f, rfl⟩ := hv
  refine a_iret rfl rfl ⟨by unfold growC sumC; rw [e1, e2], _, rfl, fun q h6 h7 => (upr_row h7).trans (hf q h6)⟩
theorem sp_X2_shameOf {S : aS} {I : Nat → Nat → Int32} {L : Nat → Nat → Int64} {w1 w2 t : Nat} {a b d nl len : Nat} {cd fa fn : Nat → Nat} (ha : stp a) (hb : lwp b) (hd : d < 12) (hw : LawC I b nl len cd fa fn) : Sp S m_X2_shameOf 16 0 0 [.ref b, .ref a, .int (nI d)] (hp I L w1 w2 t) (fun v h' => v = some (.int (shameC I a b cd fa fn nl d)) ∧ ∃ I', h' = hp I' L w1 w2 t ∧ ∀ q, q ≠ b + 6 → q ≠ b + 7 → I' q = I q) (fun _ _ => False) := by
  refine Sp_of ok_X2_shameOf rfl rfl ?_
  show AW S m_X2_shameOf 16 _ _ 0 0 0 [some (.ref b), some (.ref a), some (.int (nI d))] [] (hp I L w1 w2 t)
  refine a_l0 rfl rfl rfl ?_
  refine a_l1 rfl rfl rfl ?_
  refine a_l2 rfl rfl rfl ?_
  refine a_callV rfl lX2_48 mo_X2_takeParts (sp_X2_takeParts ha hb (by omega)) rfl rfl rfl ⟨2, _, kW0 hb, rfl, rfl⟩ rfl (fun v h' hv => ?_) (fun E h' hx => False.elim hx)
  obtain ⟨rfl, I1, rfl, hf, hp9⟩ := hv
  have hsep := stp_lwp a ha b hb
  have hw' : LawC I1 b nl len cd fa fn := hw.keep hf
  have e1 : I1 (b + 1) = I (b + 1) := hf _ (by omega)
  have e2 : I1 (b + 2) = I (b + 2) := hf _ (by omega)
  refine a_s rfl rfl ?_
  refine a_l1 rfl rfl rfl ?_
  refine a_getq rfl gfX2_56_5 (kS0 ha) (rS6 ha) ?_
  refine a_l2 rfl rfl rfl ?_
  refine a_eSN1 rfl lX2_61 mo_X11_at ((sp_X11_at (n := 12) (kS5 ha)).cast (r' := some (.int (I (a + 5) d))) (by rw [hf _ (by omega), atF_nI (by omega) (by decide)]) rfl) rfl rfl rfl rfl ?_
  refine a_l0 rfl rfl rfl ?_
  refine a_s rfl rfl ?_
  refine a_callV rfl lX2_52 mo_X2_sumOfLines (sp_X2_sumOfLines (F := factC I a d) hb hw' hp9 (factC_01 I a d)) rfl rfl rfl ⟨2, _, kW0 hb, rfl, rfl⟩ rfl (fun v h' hv => ?_) (fun E h' hx => False.elim hx)
  obtain ⟨rfl, f, rfl⟩ := hv
  refine a_s rfl rfl ?_
  refine a_l0 rfl rfl rfl ?_
  refine a_s rfl rfl ?_
  refine a_callV rfl lX2_52 mo_X2_sumOfLines (sp_X2_sumOfLines (F := factC I a d) hb hw'.keep7 (fun k hk => by rw [upr_row (by omega)]; exact hp9 k hk) (factC_01 I a d)) rfl rfl rfl ⟨2, _, kW0 hb, rfl, rfl⟩ rfl (fun v h' hv => ?_) (fun E h' hx => False.elim hx)
  obtain ⟨rfl, f2, rfl⟩ := hv
  refine a_s rfl rfl ?_
  refine a_max rfl lX2_65 mj_max rfl rfl ?_
  refine a_iret rfl rfl ⟨by unfold shameC sumC mx0; rw [upr_row (show b + 1 ≠ b + 7 by omega), upr_row (show b + 2 ≠ b + 7 by omega), e1, e2], _, rfl, fun q h6 h7 => (upr_row h7).trans ((upr_row h7).trans (hf q h6))⟩
