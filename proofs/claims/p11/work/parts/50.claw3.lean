section
/-! ===== the class: sums of lines, growth, shame ===== -/
/-- a law at b: nl lines (0 without one), their codes -/
def LawC (I : Nat → Nat → Int32) (b nl len : Nat) (cd fa fn : Nat → Nat) : Prop := ((I b 0 = -1 ∧ nl = 0) ∨ I b 0 = nI nl) ∧ nl ≤ 12 ∧ len ≤ 400 ∧ (∀ i, i < len → I (b + 5) i = nI (cd i)) ∧ ∀ n, n < nl → I (b + 3) n = nI (fa n) ∧ I (b + 4) n = nI (fa n + fn n) ∧ fa n + fn n ≤ len ∧ LineOk cd (fa n) (fn n)
def sumC (I : Nat → Nat → Int32) (b : Nat) (F : Nat → Int32) (cd fa fn : Nat → Nat) (nl : Nat) (kind : Int32) : Int32 := sumL F (I (b + 1)) (I (b + 2)) cd fa fn kind nl
def growC (I : Nat → Nat → Int32) (a b : Nat) (cd fa fn : Nat → Nat) (nl d : Nat) : Int32 := sumC I b (factC I a d) cd fa fn nl 0
def shameC (I : Nat → Nat → Int32) (a b : Nat) (cd fa fn : Nat → Nat) (nl d : Nat) : Int32 := mx0 (I (a + 5) d + sumC I b (factC I a d) cd fa fn nl 1 - sumC I b (factC I a d) cd fa fn nl 2)
set_option maxRecDepth 100000
theorem sp_X2_sumOfLines {S : aS} {I : Nat → Nat → Int32} {L : Nat → Nat → Int64} {w1 w2 t : Nat} {b nl len : Nat} {cd fa fn : Nat → Nat} {F : Nat → Int32} (hb : lwp b) (hw : LawC I b nl len cd fa fn) (hF : ∀ k, k < 9 → I (b + 6) k = F k) (hF01 : ∀ k, k = 7 ∨ k = 8 → F k = 0 ∨ F k = 1) {kind : Int32} : Sp S m_X2_sumOfLines 15 0 0 [.ref b, .int kind] (hp I L w1 w2 t) (fun v h' => v = some (.int (sumC I b F cd fa fn nl kind)) ∧ ∃ f, h' = hp (upr I (b + 7) f) L w1 w2 t) (fun _ _ => False) := by
  refine Sp_of ok_X2_sumOfLines rfl rfl ?_
  show AW S m_X2_sumOfLines 15 _ _ 0 0 0 [some (.ref b), some (.int kind), none, none] [] (hp I L w1 w2 t)
  refine a_s rfl rfl ?_
  refine a_s2 rfl rfl rfl rfl rfl rfl ?_
  refine a_s rfl rfl ?_
  refine a_s3 rfl rfl rfl rfl rfl rfl ?_
  skip
  refine a_inv (n := nl) (fun mm ls h => ∃ j v, j + mm = nl ∧ ls = [some (.ref b), some (.int kind), some (.int (sumL F (I (b + 1)) (I (b + 2)) cd fa fn kind j)), some (.int (nI j))] ∧ h = hp (upr I (b + 7) v) L w1 w2 t) ⟨0, I (b + 7), by omega, by rw [nI_0]; rfl, by rw [upr_self]⟩ ?_
  rintro mm _ _ ⟨j, v, hj, rfl, rfl⟩ ih
  obtain ⟨hlin, hnl, hlen, hcd, hw0⟩ := hw
  by_cases hjn : j = nl
  · subst hjn
    rcases hlin with ⟨hlin, rfl⟩ | hlin
    · refine a_l3 rfl rfl rfl ?_
      refine a_l0 rfl rfl rfl ?_
      refine a_geti rfl gfX2_11_2 (kW0 hb) ?_
      rw [upr_row (show b ≠ b + 7 by omega)]
      refine a_top hlin ?_
      refine a_ic_ge rfl (fun c9 => ?_) (fun c => absurd (by decide) c)
      refine a_l2 rfl rfl rfl ?_
      refine a_iret rfl rfl ⟨rfl, v, rfl⟩
    · refine a_l3 rfl rfl rfl ?_
      refine a_l0 rfl rfl rfl ?_
      refine a_geti rfl gfX2_11_2 (kW0 hb) ?_
      rw [upr_row (show b ≠ b + 7 by omega)]
      refine a_top hlin ?_
      refine a_ic_ge rfl (fun c9 => ?_) (fun c => absurd (Int32.le_refl _) c)
      refine a_l2 rfl rfl rfl ?_
      refine a_iret rfl rfl ⟨rfl, v, rfl⟩
  · obtain ⟨hw1, hw2, hw3, hw4⟩ := hw0 j (by omega)
    replace hlin := hlin.resolve_left (fun z => by omega)
    refine a_l3 rfl rfl rfl ?_
    refine a_l0 rfl rfl rfl ?_
    refine a_geti rfl gfX2_11_2 (kW0 hb) ?_
    rw [upr_row (show b ≠ b + 7 by omega)]
    refine a_top hlin ?_
    refine a_ic_ge rfl (fun c => absurd c (nI_ge (by omega) (by omega))) (fun c9 => ?_)
    refine a_l0 rfl rfl rfl ?_
    refine a_getq rfl gfX2_15_2 (kW0 hb) (rW2 hb) ?_
    refine a_l3 rfl rfl rfl ?_
    refine a_eSN1 rfl lX2_61 mo_X11_at ((sp_X11_at (n := 12) (kW1 hb)).cast (r' := some (.int (I (b + 1) j))) (by rw [upr_row (by omega), atF_nI (by omega) (by decide)]) rfl) rfl rfl rfl rfl ?_
    refine a_l1 rfl rfl rfl ?_
    refine a_ic_ne rfl (fun c21 => ?_) (fun c21 => ?_)
    · refine a_i3 rfl rfl rfl ?_
      refine a_goto rfl ?_
      exact a_back (ih (mm - 1) _ _ (by omega) ⟨j + 1, v, by omega, rfl, rfl⟩) (by simp [lsub, nI_1, sumL, c21]) rfl
    · refine a_l0 rfl rfl rfl ?_
      refine a_l3 rfl rfl rfl ?_
      refine a_callV rfl lX2_105 mo_X2_holds (sp_X2_holds (n := j) (a := fa j) (N := fn j) (cd := cd) (F := F) hb (by omega) (by rw [upr_row (by omega)]; exact hw1) (by rw [upr_row (by omega)]; exact hw2) (by omega) (fun i hi => by rw [upr_row (by omega)]; exact hcd i (by omega)) (fun k hk => by rw [upr_row (by omega)]; exact hF k hk) hF01 hw4) rfl rfl rfl ⟨2, _, kW0 hb, rfl, rfl⟩ rfl (fun v' h' hv => ?_) (fun E h' hx => False.elim hx)
      obtain ⟨rfl, f, rfl⟩ := hv
      rw [upr_upr]
      refine a_if_eq rfl (fun c29 => ?_) (fun c29 => ?_)
      · refine a_i3 rfl rfl rfl ?_
        refine a_goto rfl ?_
        exact a_back (ih (mm - 1) _ _ (by omega) ⟨j + 1, _, by omega, rfl, rfl⟩) (by simp [lsub, nI_1, sumL, c21, bI_f c29]) rfl
      · refine a_l2 rfl rfl rfl ?_
        refine a_l0 rfl rfl rfl ?_
        refine a_getq rfl gfX2_19_2 (kW0 hb) (rW3 hb) ?_
        refine a_l3 rfl rfl rfl ?_
        refine a_eSN1 rfl lX2_61 mo_X11_at ((sp_X11_at (n := 12) (kW2 hb)).cast (r' := some (.int (I (b + 2) j))) (by rw [upr_row (by omega), atF_nI (by omega) (by decide)]) rfl) rfl rfl rfl rfl ?_
        refine a_s rfl rfl ?_
        refine a_s2 rfl rfl rfl rfl rfl rfl ?_
        refine a_i3 rfl rfl rfl ?_
        refine a_goto rfl ?_
        exact a_back (ih (mm - 1) _ _ (by omega) ⟨j + 1, _, by omega, rfl, rfl⟩) (by simp [lsub, nI_1, sumL, c21, bI_t c29]) rfl
theorem LawC.keep {I I' : Nat → Nat → Int32} {b nl len : Nat} {cd fa fn : Nat → Nat} (h : LawC I b nl len cd fa fn) (hf : ∀ q, q ≠ b + 6 → I' q = I q) : LawC I' b nl len cd fa fn := by
  unfold LawC at h ⊢
  rw [hf b (by omega), hf (b + 5) (by omega), hf (b + 3) (by omega), hf (b + 4) (by omega)]
  exact h
theorem LawC.keep7 {I : Nat → Nat → Int32} {f : Nat → Int32} {b nl len : Nat} {cd fa fn : Nat → Nat} (h : LawC I b nl len cd fa fn) : LawC (upr I (b + 7) f) b nl len cd fa fn := by
  unfold LawC at h ⊢
  rw [upr_row (show b ≠ b + 7 by omega), upr_row (show b + 5 ≠ b + 7 by omega), upr_row (show b + 3 ≠ b + 7 by omega), upr_row (show b + 4 ≠ b + 7 by omega)]
  exact h
theorem sp_X2_growthOf {S : aS} {I : Nat → Nat → Int32} {L : Nat → Nat → Int64} {w1 w2 t : Nat} {a b d nl len : Nat} {cd fa fn : Nat → Nat} (ha : stp a) (hb : lwp b) (hd : d < 12) (hw : LawC I b nl len cd fa fn) : Sp S m_X2_growthOf 16 0 0 [.ref b, .ref a, .int (nI d)] (hp I L w1 w2 t) (fun v h' => v = some (.int (growC I a b cd fa fn nl d)) ∧ ∃ I', h' = hp I' L w1 w2 t ∧ ∀ q, q ≠ b + 6 → q ≠ b + 7 → I' q = I q) (fun _ _ => False) := by
  refine Sp_of ok_X2_growthOf rfl rfl ?_
  show AW S m_X2_growthOf 16 _ _ 0 0 0 [some (.ref b), some (.ref a), some (.int (nI d))] [] (hp I L w1 w2 t)
  refine a_l0 rfl rfl rfl ?_
  refine a_l1 rfl rfl rfl ?_
  refine a_l2 rfl rfl rfl ?_
  refine a_callV rfl lX2_48 mo_X2_takeParts (sp_X2_takeParts ha hb (by omega)) rfl rfl rfl ⟨2, _, kW0 hb, rfl, rfl⟩ rfl (fun v h' hv => ?_) (fun E h' hx => False.elim hx)
  obtain ⟨rfl, I1, rfl, hf, hp9⟩ := hv
  have hsep := stp_lwp a ha b hb
  have hw' : LawC I1 b nl len cd fa fn := hw.keep hf
  have e1 : I1 (b + 1) = I (b + 1) := hf _ (by omega)
  have e2 : I1 (b + 2) = I (b + 2) := hf _ (by omega)
  refine a_l0 rfl rfl rfl ?_
  refine a_s rfl rfl ?_
  refine a_callV rfl lX2_52 mo_X2_sumOfLines (sp_X2_sumOfLines (F := factC I a d) hb hw' hp9 (factC_01 I a d)) rfl rfl rfl ⟨2, _, kW0 hb, rfl, rfl⟩ rfl (fun v h' hv => ?_) (fun E h' hx => False.elim hx)
  obtain ⟨rfl, f, rfl⟩ := hv
  refine a_iret rfl rfl ⟨by unfold growC sumC; rw [e1, e2], _, rfl, fun q h6 h7 => (upr_row h7).trans (hf q h6)⟩
theorem sp_X2_shameOf {S : aS} {I : Nat → Nat → Int32} {L : Nat → Nat → Int64} {w1 w2 t : Nat} {a b d nl len : Nat} {cd fa fn : Nat → Nat} (ha : stp a) (hb : lwp b) (hd : d < 12) (hw : LawC I b nl len cd fa fn) : Sp S m_X2_shameOf 16 0 0 [.ref b, .ref a, .int (nI d)] (hp I L w1 w2 t) (fun v h' => v = some (.int (shameC I a b cd fa fn nl d)) ∧ ∃ I', h' = hp I' L w1 w2 t ∧ ∀ q, q ≠ b + 6 → q ≠ b + 7 → I' q = I q) (fun _ _ => False) := by
  refine Sp_of ok_X2_shameOf rfl rfl ?_
  show AW S m_X2_shameOf 16 _ _ 0 0 0 [some (.ref b), some (.ref a), some (.int (nI d))] [] (hp I L w1 w2 t)
  refine a_l0 rfl rfl rfl ?_
  refine a_l1 rfl rfl rfl ?_
  refine a_l2 rfl rfl rfl ?_
  refine a_callV rfl lX2_48 mo_X2_takeParts (sp_X2_takeParts ha hb (by omega)) rfl rfl rfl ⟨2, _, kW0 hb, rfl, rfl⟩ rfl (fun v h' hv => ?_) (fun E h' hx => False.elim hx)
  obtain ⟨rfl, I1, rfl, hf, hp9⟩ := hv
  have hsep := stp_lwp a ha b hb
  have hw' : LawC I1 b nl len cd fa fn := hw.keep hf
  have e1 : I1 (b + 1) = I (b + 1) := hf _ (by omega)
  have e2 : I1 (b + 2) = I (b + 2) := hf _ (by omega)
  refine a_s rfl rfl ?_
  refine a_l1 rfl rfl rfl ?_
  refine a_getq rfl gfX2_56_5 (kS0 ha) (rS6 ha) ?_
  refine a_l2 rfl rfl rfl ?_
  refine a_eSN1 rfl lX2_61 mo_X11_at ((sp_X11_at (n := 12) (kS5 ha)).cast (r' := some (.int (I (a + 5) d))) (by rw [hf _ (by omega), atF_nI (by omega) (by decide)]) rfl) rfl rfl rfl rfl ?_
  refine a_l0 rfl rfl rfl ?_
  refine a_s rfl rfl ?_
  refine a_callV rfl lX2_52 mo_X2_sumOfLines (sp_X2_sumOfLines (F := factC I a d) hb hw' hp9 (factC_01 I a d)) rfl rfl rfl ⟨2, _, kW0 hb, rfl, rfl⟩ rfl (fun v h' hv => ?_) (fun E h' hx => False.elim hx)
  obtain ⟨rfl, f, rfl⟩ := hv
  refine a_s rfl rfl ?_
  refine a_l0 rfl rfl rfl ?_
  refine a_s rfl rfl ?_
  refine a_callV rfl lX2_52 mo_X2_sumOfLines (sp_X2_sumOfLines (F := factC I a d) hb hw'.keep7 (fun k hk => by rw [upr_row (by omega)]; exact hp9 k hk) (factC_01 I a d)) rfl rfl rfl ⟨2, _, kW0 hb, rfl, rfl⟩ rfl (fun v h' hv => ?_) (fun E h' hx => False.elim hx)
  obtain ⟨rfl, f2, rfl⟩ := hv
  refine a_s rfl rfl ?_
  refine a_max rfl lX2_65 mj_max rfl rfl ?_
  refine a_iret rfl rfl ⟨by unfold shameC sumC mx0; rw [upr_row (show b + 1 ≠ b + 7 by omega), upr_row (show b + 2 ≠ b + 7 by omega), e1, e2], _, rfl, fun q h6 h7 => (upr_row h7).trans ((upr_row h7).trans (hf q h6))⟩
end
section
/-! ===== the class: shame of a set, needs ===== -/
theorem factC_keep {I I' : Nat → Nat → Int32} {a b d : Nat} (hs : a + 11 ≤ b ∨ b + 8 ≤ a) (hf : ∀ q, q ≠ b + 6 → q ≠ b + 7 → I' q = I q) : factC I' a d = factC I a d := by
  funext k
  unfold factC
  rw [hf a (by omega) (by omega), hf (a + 1) (by omega) (by omega), hf (a + 3) (by omega) (by omega), hf (a + 4) (by omega) (by omega), hf (a + 5) (by omega) (by omega), hf (a + 6) (by omega) (by omega), hf (a + 7) (by omega) (by omega), hf (a + 8) (by omega) (by omega)]
theorem sumC_keep {I I' : Nat → Nat → Int32} {b : Nat} {F : Nat → Int32} {cd fa fn : Nat → Nat} {nl : Nat} {kind : Int32} (hf : ∀ q, q ≠ b + 6 → q ≠ b + 7 → I' q = I q) : sumC I' b F cd fa fn nl kind = sumC I b F cd fa fn nl kind := by
  unfold sumC
  rw [hf (b + 1) (by omega) (by omega), hf (b + 2) (by omega) (by omega)]
theorem shameC_keep {I I' : Nat → Nat → Int32} {a b : Nat} {cd fa fn : Nat → Nat} {nl d : Nat} (hs : a + 11 ≤ b ∨ b + 8 ≤ a) (hf : ∀ q, q ≠ b + 6 → q ≠ b + 7 → I' q = I q) : shameC I' a b cd fa fn nl d = shameC I a b cd fa fn nl d := by
  unfold shameC
  rw [factC_keep hs hf, sumC_keep hf, sumC_keep hf, hf (a + 5) (by omega) (by omega)]
theorem LawC.keep67 {I I' : Nat → Nat → Int32} {b nl len : Nat} {cd fa fn : Nat → Nat} (h : LawC I b nl len cd fa fn) (hf : ∀ q, q ≠ b + 6 → q ≠ b + 7 → I' q = I q) : LawC I' b nl len cd fa fn := by
  unfold LawC at h ⊢
  rw [hf b (by omega) (by omega), hf (b + 5) (by omega) (by omega), hf (b + 3) (by omega) (by omega), hf (b + 4) (by omega) (by omega)]
  exact h
/-- has, by a set's bit and a shift -/
theorem shl_eq (d : Nat) : ∀ n : Nat, n < 12 → (1 : Int32) <<< (nI n &&& 31) = nI (2 ^ n) := by decide +kernel
set_option maxRecDepth 100000
def sumG (f : Nat → Int32) (s : Int32) : Nat → Int32
  | 0 => 0
  | n + 1 => if hasF s (nI n) then sumG f s n + f n else sumG f s n
theorem sp_X2_shameOfSet {S : aS} {I : Nat → Nat → Int32} {L : Nat → Nat → Int64} {w1 w2 t : Nat} {a b nd nl len : Nat} {cd fa fn : Nat → Nat} (ha : stp a) (hb : lwp b) (hdu : I a 3 = nI nd) (hn : nd ≤ 12) (hw : LawC I b nl len cd fa fn) {s : Int32} : Sp S m_X2_shameOfSet 17 0 0 [.ref b, .ref a, .int s] (hp I L w1 w2 t) (fun v h' => v = some (.int (sumG (shameC I a b cd fa fn nl) s nd)) ∧ ∃ I', h' = hp I' L w1 w2 t ∧ ∀ q, q ≠ b + 6 → q ≠ b + 7 → I' q = I q) (fun _ _ => False) := by
  have hsep := stp_lwp a ha b hb
  refine Sp_of ok_X2_shameOfSet rfl rfl ?_
  show AW S m_X2_shameOfSet 17 _ _ 0 0 0 [some (.ref b), some (.ref a), some (.int s), none, none] [] (hp I L w1 w2 t)
  refine a_s rfl rfl ?_
  refine a_s3 rfl rfl rfl rfl rfl rfl ?_
  refine a_s rfl rfl ?_
  refine a_s4 rfl rfl rfl rfl rfl rfl ?_
  skip
  refine a_inv (n := nd) (fun mm ls h => ∃ j I1, j + mm = nd ∧ ls = [some (.ref b), some (.ref a), some (.int s), some (.int (sumG (shameC I a b cd fa fn nl) s j)), some (.int (nI j))] ∧ h = hp I1 L w1 w2 t ∧ ∀ q, q ≠ b + 6 → q ≠ b + 7 → I1 q = I q) ⟨0, I, by omega, by rw [nI_0]; rfl, rfl, fun _ _ _ => rfl⟩ ?_
  rintro mm _ _ ⟨j, I1, hj, rfl, rfl, hf⟩ ih
  by_cases hjn : j < nd
  · refine a_l4 rfl rfl rfl ?_
    refine a_l1 rfl rfl rfl ?_
    refine a_geti rfl gfX2_71_5 (kS0 ha) ?_
    refine a_top (y := nI nd) ((congrFun (hf a (by omega) (by omega)) 3).trans hdu) ?_
    refine a_ic_ge rfl (fun c => absurd c (nI_ge (by omega) (by omega))) (fun c11 => ?_)
    refine a_l2 rfl rfl rfl ?_
    refine a_l4 rfl rfl rfl ?_
    refine a_eSN1 rfl lX2_74 mo_X11_has (sp_X11_has) rfl rfl rfl rfl ?_
    refine a_if_eq rfl (fun c20 => ?_) (fun c20 => ?_)
    · refine a_i4 rfl rfl rfl ?_
      refine a_goto rfl ?_
      exact a_back (ih (mm - 1) _ _ (by omega) ⟨j + 1, I1, by omega, rfl, rfl, hf⟩) (by simp [lsub, nI_1, sumG, bI_f c20]) rfl
    · refine a_l3 rfl rfl rfl ?_
      refine a_l0 rfl rfl rfl ?_
      refine a_l1 rfl rfl rfl ?_
      refine a_l4 rfl rfl rfl ?_
      refine a_callV rfl lX2_78 mo_X2_shameOf (sp_X2_shameOf (d := j) ha hb (by omega) (hw.keep67 hf)) rfl rfl rfl ⟨2, _, kW0 hb, rfl, rfl⟩ rfl (fun v' h' hv => ?_) (fun E h' hx => False.elim hx)
      obtain ⟨rfl, I2, rfl, hf2⟩ := hv
      rw [shameC_keep hsep hf]
      refine a_s rfl rfl ?_
      refine a_s3 rfl rfl rfl rfl rfl rfl ?_
      refine a_i4 rfl rfl rfl ?_
      refine a_goto rfl ?_
      exact a_back (ih (mm - 1) _ _ (by omega) ⟨j + 1, I2, by omega, rfl, rfl, fun q h6 h7 => (hf2 q h6 h7).trans (hf q h6 h7)⟩) (by simp [lsub, nI_1, sumG, bI_t c20]) rfl
  · obtain rfl : j = nd := by omega
    refine a_l4 rfl rfl rfl ?_
    refine a_l1 rfl rfl rfl ?_
    refine a_geti rfl gfX2_71_5 (kS0 ha) ?_
    refine a_top (y := nI j) ((congrFun (hf a (by omega) (by omega)) 3).trans hdu) ?_
    refine a_ic_ge rfl (fun c11 => ?_) (fun c => absurd (Int32.le_refl _) c)
    refine a_l3 rfl rfl rfl ?_
    refine a_iret rfl rfl ⟨rfl, I1, rfl, hf⟩
def needC (load free : Int32) : Int32 := if load = 0 then 0 else if 0 < free then (load + free - 1) / free else 1000
theorem sp_X11_needsOf {S : aS} {h : aH} {x y : Int32} : SpE S m_X11_needsOf 12 [.int x, .int y] (h) (some (.int (needC x y))) (h) := by
  refine SpE_of ok_X11_needsOf rfl rfl ?_
  show AW S m_X11_needsOf 12 _ _ 0 0 0 [some (.int x), some (.int y)] [] (h)
  refine a_l0 rfl rfl rfl ?_
  refine a_if_ne rfl (fun c1 => ?_) (fun c1 => ?_)
  · refine a_l1 rfl rfl rfl ?_
    refine a_if_le rfl (fun c7 => ?_) (fun c7 => ?_)
    · refine a_s rfl rfl ?_
      refine a_iret rfl rfl ⟨by simp_all [needC, le_nl, -Int32.not_lt, -Int32.not_le], rfl⟩
    · refine a_l0 rfl rfl rfl ?_
      refine a_l1 rfl rfl rfl ?_
      refine a_s rfl rfl ?_
      refine a_s rfl rfl ?_
      refine a_s rfl rfl ?_
      refine a_l1 rfl rfl rfl ?_
      refine a_idiv rfl ((fun z => by rw [z] at c7; exact absurd c7 (by decide))) ?_
      refine a_goto rfl ?_
      refine a_iret rfl rfl ⟨by simp_all [needC, le_nl, -Int32.not_lt, -Int32.not_le], rfl⟩
  · refine a_s rfl rfl ?_
    refine a_iret rfl rfl ⟨by simp [needC, *], rfl⟩
end
section
/-! ===== a day's work, pure: rows of left and state, hours, tools had, how many were finished ===== -/
abbrev WkT : Type := (Nat → Int32) × (Nat → Int32) × Int32 × Int32 × Nat
def rset (f : Nat → Int32) (d : Nat) (x : Int32) : Nat → Int32 := fun e => if e = d then x else f e
theorem rset_at {f : Nat → Int32} {d : Nat} {x : Int32} : rset f d x d = x := if_pos rfl
theorem rset_ne {f : Nat → Int32} {d e : Nat} {x : Int32} (h : e ≠ d) : rset f d x e = f e := if_neg h
def rdy (st le : Nat → Int32) (d : Nat) : Bool := decide (st d = 0) && decide (le d = -1 ∨ st (le d).toNatClampNeg = 1)
def mn (x y : Int32) : Int32 := if y < x then y else x
def wkS (ow tl le : Nat → Int32) (p taken : Int32) (s : WkT) (d : Nat) : WkT :=
  if 0 < s.2.2.1 ∧ ow d = p ∧ rdy s.2.1 le d = true ∧ hasF taken (tl d) = false then
    (if s.1 d - mn s.2.2.1 (s.1 d) = 0 then (rset s.1 d 0, rset s.2.1 d 1, s.2.2.1 - mn s.2.2.1 (s.1 d), s.2.2.2.1 ||| bitF (tl d), s.2.2.2.2 + 1)
     else (rset s.1 d (s.1 d - mn s.2.2.1 (s.1 d)), s.2.1, s.2.2.1 - mn s.2.2.1 (s.1 d), s.2.2.2.1 ||| bitF (tl d), s.2.2.2.2))
  else s
def wkF (ow tl le : Nat → Int32) (p taken : Int32) (s : WkT) : Nat → WkT
  | 0 => s
  | n + 1 => wkS ow tl le p taken (wkF ow tl le p taken s n) n
theorem wkF_stop {ow tl le : Nat → Int32} {p taken : Int32} {s : WkT} {j : Nat} (h : ¬ 0 < (wkF ow tl le p taken s j).2.2.1) : ∀ i, wkF ow tl le p taken s (j + i) = wkF ow tl le p taken s j := by
  intro i
  induction i with
  | zero => rfl
  | succ i ih =>
    show wkS ow tl le p taken (wkF ow tl le p taken s (j + i)) (j + i) = _
    rw [ih]
    unfold wkS
    rw [if_neg (fun z => h z.1)]
/-- hours 0 to 9; left 0 to 99, of a waiting one 1 at least; states 0 to 2 -/
def WkOk (nd : Nat) (s : WkT) : Prop := (∃ h, h ≤ 9 ∧ s.2.2.1 = nI h) ∧ ∀ d, d < nd → (∃ l, l ≤ 99 ∧ s.1 d = nI l ∧ (s.2.1 d = 0 → 1 ≤ l)) ∧ (s.2.1 d = 0 ∨ s.2.1 d = 1 ∨ s.2.1 d = 2)
theorem nI_subm {n j : Nat} (h : j ≤ n) : nI n - nI j = nI (n - j) := nI_sub h
theorem nI_lt_iff {a b : Nat} (ha : a < 2 ^ 31) (hb : b < 2 ^ 31) : nI a < nI b ↔ a < b := by
  rw [Int32.lt_iff_toInt_lt, nI_toInt ha, nI_toInt hb]
  omega
theorem nI_eq0 {a : Nat} (ha : a < 2 ^ 31) : nI a = 0 ↔ a = 0 := by
  constructor
  · intro h
    exact nI_inj ha (by decide) (h.trans nI_0.symm)
  · intro h
    rw [h, nI_0]
theorem mn_nI {a b : Nat} (ha : a < 2 ^ 31) (hb : b < 2 ^ 31) : mn (nI a) (nI b) = nI (min a b) := by
  unfold mn
  by_cases h : b < a
  · rw [if_pos ((nI_lt_iff hb ha).mpr h), Nat.min_eq_right (by omega)]
  · rw [if_neg (fun z => h ((nI_lt_iff hb ha).mp z)), Nat.min_eq_left (by omega)]
theorem rdy_st {st le : Nat → Int32} {d : Nat} (h : rdy st le d = true) : st d = 0 := by
  unfold rdy at h
  rw [Bool.and_eq_true] at h
  exact of_decide_eq_true h.1
theorem WkOk.step {nd : Nat} {s : WkT} {ow tl le : Nat → Int32} {p taken : Int32} {d : Nat} (h : WkOk nd s) (hd : d < nd) : WkOk nd (wkS ow tl le p taken s d) := by
  unfold wkS
  split
  · next c =>
    obtain ⟨⟨k, hk, ek⟩, h2⟩ := h
    obtain ⟨⟨l, hl, el, hl1⟩, -⟩ := h2 d hd
    have e1 : s.1 d - mn s.2.2.1 (s.1 d) = nI (l - min k l) := by
      rw [ek, el, mn_nI (by omega) (by omega), nI_sub (by omega)]
    have e2 : s.2.2.1 - mn s.2.2.1 (s.1 d) = nI (k - min k l) := by
      rw [ek, el, mn_nI (by omega) (by omega), nI_sub (by omega)]
    rw [e1, e2]
    split
    · refine ⟨⟨k - min k l, by omega, rfl⟩, fun e he => ?_⟩
      by_cases hed : e = d
      · subst hed
        refine ⟨⟨0, by omega, by rw [nI_0]; exact rset_at, fun z => ?_⟩, Or.inr (Or.inl rset_at)⟩
        exact absurd ((rset_at (f := s.2.1) (d := e) (x := 1)).symm.trans z) (by decide)
      · have := h2 e he
        refine ⟨?_, ?_⟩
        · obtain ⟨l', q1, q2, q3⟩ := this.1
          exact ⟨l', q1, (rset_ne hed).trans q2, fun z => q3 ((rset_ne hed).symm.trans z)⟩
        · show rset s.2.1 d 1 e = 0 ∨ rset s.2.1 d 1 e = 1 ∨ rset s.2.1 d 1 e = 2
          rw [rset_ne hed]
          exact this.2
    · next hn0 =>
      refine ⟨⟨k - min k l, by omega, rfl⟩, fun e he => ?_⟩
      by_cases hed : e = d
      · subst hed
        refine ⟨⟨l - min k l, by omega, rset_at, fun _ => ?_⟩, (h2 e he).2⟩
        have : ¬ l - min k l = 0 := fun z => hn0 (by rw [z, nI_0])
        omega
      · obtain ⟨⟨l', q1, q2, q3⟩, q4⟩ := h2 e he
        exact ⟨⟨l', q1, (rset_ne hed).trans q2, q3⟩, q4⟩
  · exact h
theorem WkOk.run {nd : Nat} {s : WkT} {ow tl le : Nat → Int32} {p taken : Int32} (h : WkOk nd s) : ∀ n, n ≤ nd → WkOk nd (wkF ow tl le p taken s n) := by
  intro n
  induction n with
  | zero => intro _; exact h
  | succ n ih => intro hn; exact (ih (by omega)).step (by omega)
end
section
/-! ===== safe walks: what may change, loops that count up, switches ===== -/
/-- of the heap's ints only those of s may have changed -/
def Fm (s : Nat → Nat → Bool) (I I' : Nat → Nat → Int32) : Prop := ∀ q k, s q k = false → I' q k = I q k
theorem Fm.rf {s : Nat → Nat → Bool} {I : Nat → Nat → Int32} : Fm s I I := fun _ _ _ => rfl
theorem Fm.tr {s : Nat → Nat → Bool} {I I' I'' : Nat → Nat → Int32} (h : Fm s I I') (h2 : Fm s I' I'') : Fm s I I'' := fun q k hq => (h2 q k hq).trans (h q k hq)
theorem Fm.mo {s s' : Nat → Nat → Bool} {I I' : Nat → Nat → Int32} (h : Fm s I I') (hs : ∀ q k, s q k = true → s' q k = true) : Fm s' I I' := fun q k hq => h q k (by
  cases h2 : s q k with
  | false => rfl
  | true => rw [hs q k h2] at hq; cases hq)
theorem Fm.up {s : Nat → Nat → Bool} {I I' : Nat → Nat → Int32} {p j : Nat} {v : Int32} (h : Fm s I I') (hs : s p j = true) : Fm s I (up2 I' p j v) := fun q k hq => by
  rw [up2_ne (by
    by_cases h1 : q = p
    · by_cases h2 : k = j
      · subst h1; subst h2; rw [hs] at hq; cases hq
      · exact Or.inr h2
    · exact Or.inl h1)]
  exact h q k hq
theorem Fm.row {s : Nat → Nat → Bool} {I I' : Nat → Nat → Int32} {p : Nat} {f : Nat → Int32} (h : Fm s I I') (hs : ∀ k, s p k = true) : Fm s I (upr I' p f) := fun q k hq => by
  rw [upr_row (by intro e; subst e; rw [hs] at hq; cases hq)]
  exact h q k hq
theorem Fm.of1 {s : Nat → Nat → Bool} {I I1 I' : Nat → Nat → Int32} {p : Nat} (h : Fm s I I1) (hf : ∀ q, q ≠ p → I' q = I1 q) (hs : ∀ k, s p k = true) : Fm s I I' := fun q k hq => by
  rw [hf q (by intro e; subst e; rw [hs] at hq; cases hq)]
  exact h q k hq
theorem setF_row {I : Nat → Nat → Int32} {p n q : Nat} {i v : Int32} (h : q ≠ p) : setF I p n i v q = I q := by
  unfold setF
  split
  · rfl
  · split
    · rfl
    · exact up2_row h
theorem Fm.st {s : Nat → Nat → Bool} {I I' : Nat → Nat → Int32} {p n : Nat} {i v : Int32} (h : Fm s I I') (hs : ∀ k, s p k = true) : Fm s I (setF I' p n i v) := h.of1 (fun _ hq => setF_row hq) hs
theorem Fm.cp {s : Nat → Nat → Bool} {I I' : Nat → Nat → Int32} {a b m : Nat} (h : Fm s I I') (hs : ∀ i k, i < m → s (a + i) k = true) : Fm s I (cpS I' a b m) := fun q k hq => by
  rw [cpS_out (by
    intro z
    have := hs (q - a) k (by omega)
    rw [show a + (q - a) = q by omega, hq] at this
    cases this)]
  exact h q k hq
abbrev isI : Option Value → Prop := fun v => ∃ x, v = some (.int x)
abbrev isZ : Option Value → Prop := fun v => ∃ b, v = some (.int (bI b))
abbrev isV : Option Value → Prop := fun v => v = none
abbrev isL : Option Value → Prop := fun v => ∃ x, v = some (.long x)
/-- it ends so, and nothing has changed -/
abbrev QE (z : Option Value → Prop) (h : aH) : Option Value → aH → Prop := fun v h' => z v ∧ h' = h
/-- it ends so, in a heap of which P holds -/
abbrev QR (P : (Nat → Nat → Int32) → Prop) (z : Option Value → Prop) (L : Nat → Nat → Int64) (w1 w2 t : Nat) : Option Value → aH → Prop := fun v h' => z v ∧ ∃ I', h' = hp I' L w1 w2 t ∧ P I'
abbrev nX : String → aH → Prop := fun _ _ => False
section A53
variable {S : aS} {C C' : aM} {d d' : Nat} {Q Q' : Option Value → aH → Prop} {X X' : String → aH → Prop} {k1 k2 j1 j2 pc np tgt n : Nat} {w : Int32} {ls ls' : List (Option Value)} {st st' st0 : List Value} {h h' : aH} {ins : Instr} {As : List Value} {v : Value}
variable {K : Nat → Nat × Nat} {I I' : Nat → Nat → Int32} {L : Nat → Nat → Int64} {R : Nat → Nat → Nat} {t : Nat}
/-- a name for a heap -/
theorem a_ren {w1 w2 : Nat} {P : (Nat → Nat → Int32) → Prop} (f : P I) (k : ∀ I', P I' → AW S C d Q X k1 k2 pc ls st (hp I' L w1 w2 t)) : AW S C d Q X k1 k2 pc ls st (hp I L w1 w2 t) := k I f
theorem nS (j : Nat) : some (Value.int (nI j + 1)) = some (Value.int (nI (j + 1))) := by rw [nI_succ]
theorem nI_b1 {b : Int32} {j : Nat} (hj : j < 2 ^ 31) (h : ¬ b ≤ nI j) : j + 1 < 2 ^ 31 := by
  rw [Int32.le_iff_toInt_le, nI_toInt hj] at h
  have := Int32.toInt_lt b
  omega
theorem nI_gt1 {a j : Nat} (ha : a + 1 < 2 ^ 31) (hj : j < 2 ^ 31) (h : ¬ nI a < nI j) : ¬ nI (a + 1) ≤ nI j := by
  rw [Int32.lt_iff_toInt_lt, nI_toInt (by omega), nI_toInt hj] at h
  rw [Int32.le_iff_toInt_le, nI_toInt ha, nI_toInt hj]
  omega
/-- a loop that counts up: a place's invariant -/
theorem a_cnt (P : Nat → List (Option Value) → aH → Prop) {j0 : Nat} {ls0 : List (Option Value)} (hj0 : j0 < 2 ^ 31) (h0 : P j0 ls0 h) (e : lsub ls0 ls)
    (hs : ∀ j ls h, j < 2 ^ 31 → P j ls h → (∀ b ls' ls'' h', ¬ b ≤ nI j → P (j + 1) ls' h' → lsub ls' ls'' → AW S C d Q X k1 k2 pc ls'' st h') → AW S C d Q X k1 k2 pc ls st h) : AW S C d Q X k1 k2 pc ls st h := by
  refine a_less (ls' := ls0) ?_ e
  have key : ∀ m j ls h, j + m = 2 ^ 31 → 0 < m → P j ls h → AW S C d Q X k1 k2 pc ls st h := by
    intro m
    induction m using Nat.strongRecOn with
    | _ m ih =>
      intro j ls h hm h0 hp
      refine hs j ls h (by omega) hp fun b ls' ls'' h' hb hp' hl => ?_
      have := nI_b1 (by omega) hb
      exact a_less (ih (m - 1) (by omega) (j + 1) ls' h' (by omega) (by omega) hp') hl
  exact key (2 ^ 31 - j0) j0 ls0 h (by omega) (by omega) h0
theorem i_succ {x b : Int32} (h : ¬ b ≤ x) : (x + 1).toInt = x.toInt + 1 := by
  have h1 : x.toInt < b.toInt := by
    rw [Int32.le_iff_toInt_le] at h
    omega
  have h2 := Int32.toInt_lt b
  have h3 := Int32.le_toInt x
  rw [Int32.toInt_add, show (1 : Int32).toInt = 1 from rfl]
  exact Int.bmod_eq_of_le (by omega) (by omega)
/-- the same, wherever it begins -/
theorem a_cntI (P : Int32 → List (Option Value) → aH → Prop) {x0 : Int32} {ls0 : List (Option Value)} (h0 : P x0 ls0 h) (e : lsub ls0 ls)
    (hs : ∀ x ls h, P x ls h → (∀ b ls' ls'' h', ¬ b ≤ x → P (x + 1) ls' h' → lsub ls' ls'' → AW S C d Q X k1 k2 pc ls'' st h') → AW S C d Q X k1 k2 pc ls st h) : AW S C d Q X k1 k2 pc ls st h := by
  refine a_less (ls' := ls0) ?_ e
  have key : ∀ (m : Nat) (x : Int32) ls h, x.toInt + m = 2 ^ 31 → P x ls h → AW S C d Q X k1 k2 pc ls st h := by
    intro m
    induction m using Nat.strongRecOn with
    | _ m ih =>
      intro x ls h hm hp
      refine hs x ls h hp fun b ls' ls'' h' hb hp' hl => ?_
      have h9 := i_succ hb
      have h8 := Int32.toInt_lt x
      exact a_less (ih (m - 1) (by omega) (x + 1) ls' h' (by omega) hp') hl
  have h7 := Int32.toInt_lt x0
  exact key (2 ^ 31 - x0.toInt).toNat x0 ls0 h (by omega) h0
/-- .. by twos, to a bound that is small -/
theorem a_cntI2 (P : Int32 → List (Option Value) → aH → Prop) {x0 : Int32} {ls0 : List (Option Value)} (h0 : P x0 ls0 h) (e : lsub ls0 ls)
    (hs : ∀ x ls h, P x ls h → (∀ b ls' ls'' h', (¬ b ≤ x ∧ ¬ 40 < b) → P (x + 2) ls' h' → lsub ls' ls'' → AW S C d Q X k1 k2 pc ls'' st h') → AW S C d Q X k1 k2 pc ls st h) : AW S C d Q X k1 k2 pc ls st h := by
  refine a_less (ls' := ls0) ?_ e
  have key : ∀ (m : Nat) (x : Int32) ls h, x.toInt + m = 2 ^ 31 → P x ls h → AW S C d Q X k1 k2 pc ls st h := by
    intro m
    induction m using Nat.strongRecOn with
    | _ m ih =>
      intro x ls h hm hp
      refine hs x ls h hp fun b ls' ls'' h' hb hp' hl => ?_
      obtain ⟨hb, hb4⟩ := hb
      have h9 : (x + 2).toInt = x.toInt + 2 := by
        have h1 : x.toInt < b.toInt := by
          rw [Int32.le_iff_toInt_le] at hb
          omega
        have h2 : b.toInt ≤ 40 := by
          rw [Int32.lt_iff_toInt_lt, show (40 : Int32).toInt = 40 from rfl] at hb4
          omega
        have h3 := Int32.le_toInt x
        rw [Int32.toInt_add, show (2 : Int32).toInt = 2 from rfl]
        exact Int.bmod_eq_of_le (by omega) (by omega)
      have h8 := Int32.toInt_lt x
      have h6 := Int32.toInt_lt (x + 2)
      exact a_less (ih (m - 2) (by omega) (x + 2) ls' h' (by omega) hp') hl
  have h7 := Int32.toInt_lt x0
  exact key (2 ^ 31 - x0.toInt).toNat x0 ls0 h (by omega) h0
theorem a_lsw2 {dflt a b oa ob : Int} {x : Int32} (hC : look C pc = some (.lookupswitch dflt #[(a, oa), (b, ob)], np, tgt, w)) (hab : a < b) (h0 : 0 ≤ (pc : Int) + oa ∧ 0 ≤ (pc : Int) + ob ∧ 0 ≤ (pc : Int) + dflt)
    (ka : x.toInt = a → AW S C d Q X k1 k2 ((pc : Int) + oa).toNat ls st h) (kb : x.toInt = b → AW S C d Q X k1 k2 ((pc : Int) + ob).toNat ls st h) (kd : ¬ x.toInt = a → ¬ x.toInt = b → AW S C d Q X k1 k2 ((pc : Int) + dflt).toNat ls st h) : AW S C d Q X k1 k2 pc ls (.int x :: st) h := by
  have hp : (#[(a, oa), (b, ob)].toList.zip (#[(a, oa), (b, ob)].toList.drop 1)).all (fun (a, next) => a.1 < next.1) = true := by simp [hab]
  by_cases e1 : x.toInt = a
  · refine a_lsw hC hp ?_ (ka e1)
    have : Op.lookupswitch.offset #[(a, oa), (b, ob)].toList dflt x.toInt = oa := by simp [Op.lookupswitch.offset, e1]
    rw [this]
    omega
  · by_cases e2 : x.toInt = b
    · refine a_lsw hC hp ?_ (kb e2)
      have : Op.lookupswitch.offset #[(a, oa), (b, ob)].toList dflt x.toInt = ob := by
        have e3 : ¬ a = x.toInt := fun z => e1 z.symm
        simp [Op.lookupswitch.offset, e2, e3]
        intro z
        exact absurd z (by omega)
      rw [this]
      omega
    · refine a_lsw hC hp ?_ (kd e1 e2)
      have : Op.lookupswitch.offset #[(a, oa), (b, ob)].toList dflt x.toInt = dflt := by
        have e3 : ¬ a = x.toInt := fun z => e1 z.symm
        have e4 : ¬ b = x.toInt := fun z => e2 z.symm
        simp [Op.lookupswitch.offset, e3, e4]
      rw [this]
      omega
theorem a_pc {pc' : Nat} (e : pc = pc') (k : AW S C d Q X k1 k2 pc' ls st h) : AW S C d Q X k1 k2 pc ls st h := by
  rw [e]
  exact k
/-- a switch over a number of which nothing is known -/
theorem a_tswA {dflt lo hi : Int} {offs : Array Int} {x : Int32} (hC : look C pc = some (.tableswitch dflt lo hi offs, np, tgt, w)) (hpos : 0 ≤ (pc : Int) + dflt ∧ ∀ o ∈ offs, 0 ≤ (pc : Int) + o) (hsz : (offs.size : Int) = hi - lo + 1)
    (kd : (x.toInt < lo ∨ hi < x.toInt) → AW S C d Q X k1 k2 ((pc : Int) + dflt).toNat ls st h) (ki : ∀ (i : Nat) o, offs[i]? = some o → x.toInt = lo + i → AW S C d Q X k1 k2 ((pc : Int) + o).toNat ls st h) : AW S C d Q X k1 k2 pc ls (.int x :: st) h := by
  by_cases hx : x.toInt < lo ∨ hi < x.toInt
  · exact a_tsw hC (by unfold swT; rw [if_pos hx]) hpos (kd hx)
  · have hi2 : (x.toInt - lo).toNat < offs.size := by omega
    have ho : offs[(x.toInt - lo).toNat]? = some offs[(x.toInt - lo).toNat] := Array.getElem?_eq_getElem hi2
    refine a_tsw hC (by unfold swT; rw [if_neg hx, ho]; rfl) hpos (ki _ _ ho ?_)
    omega
/-- calls whose end is known but not their answer -/
theorem a_gV {idx q : Nat} (hC : look C pc = some (.invokevirtual idx, np, tgt, w)) (hl : LK C.1.cls idx C') (hM : MOv C' n) (hs : Sp S C' d' 0 0 (.ref q :: As) h Q' nX) (hn : As.length = n) (h0 : st0 = As.reverse ++ .ref q :: st) (ho : cOk d d' 0 0 k1 k2 st = true) (hq : rcv h q C'.1.cls) (hh : C.2.2.2.2.1 = []) (kr : ∀ v h', Q' v h' → AW S C d Q X k1 k2 np ls (v.toList ++ st) h') : AW S C d Q X k1 k2 pc ls st0 h := a_callV hC hl hM hs hn h0 ho hq hh kr (fun _ _ z => False.elim z)
theorem a_gN {idx q : Nat} (hC : look C pc = some (.invokevirtual idx, np, tgt, w)) (hl : LKn C.1.cls idx C') (hM : MOv C' n) (hs : Sp S C' d' 0 0 (.ref q :: As) h Q' nX) (hn : As.length = n) (h0 : st0 = As.reverse ++ .ref q :: st) (ho : cOk d d' 0 0 k1 k2 st = true) (hq : rcv h q C'.1.cls) (hh : C.2.2.2.2.1 = []) (kr : ∀ v h', Q' v h' → AW S C d Q X k1 k2 np ls (v.toList ++ st) h') : AW S C d Q X k1 k2 pc ls st0 h := a_callN hC hl hM hs hn h0 ho hq hh kr (fun _ _ z => False.elim z)
theorem a_gS {idx : Nat} (hC : look C pc = some (.invokestatic idx, np, tgt, w)) (hl : LK C.1.cls idx C') (hM : MOs C' n) (hs : Sp S C' d' 0 0 As h Q' nX) (hn : As.length = n) (h0 : st0 = As.reverse ++ st) (ho : cOk d d' 0 0 k1 k2 st = true) (hh : C.2.2.2.2.1 = []) (kr : ∀ v h', Q' v h' → AW S C d Q X k1 k2 np ls (v.toList ++ st) h') : AW S C d Q X k1 k2 pc ls st0 h := a_callS hC hl hM hs hn h0 ho hh kr (fun _ _ z => False.elim z)
theorem a_gSN {idx : Nat} (hC : look C pc = some (.invokestatic idx, np, tgt, w)) (hl : LKn C.1.cls idx C') (hM : MOs C' n) (hs : Sp S C' d' 0 0 As h Q' nX) (hn : As.length = n) (h0 : st0 = As.reverse ++ st) (ho : cOk d d' 0 0 k1 k2 st = true) (hh : C.2.2.2.2.1 = []) (kr : ∀ v h', Q' v h' → AW S C d Q X k1 k2 np ls (v.toList ++ st) h') : AW S C d Q X k1 k2 pc ls st0 h := a_callSN hC hl hM hs hn h0 ho hh kr (fun _ _ z => False.elim z)
end A53
/-- the class's scratch: what a law's line is read in, what is chosen among, the street that goes ahead -/
def sQ (q _k : Nat) : Bool := Nat.beq q 252 || (Nat.beq q 253 || (Nat.beq q 255 || (Nat.beq q 256 || (Nat.ble 257 q && Nat.ble q 267))))
/-- exceptions by number: 0 no such thing, 1 a number is none, 2 it cannot be, 3 not supported, 4 no such element -/
def exN : Nat → String
  | 0 => "java/lang/IndexOutOfBoundsException"
  | 1 => "java/lang/IllegalArgumentException"
  | 2 => "java/lang/IllegalStateException"
  | 3 => "java/lang/UnsupportedOperationException"
  | _ => "java/util/NoSuchElementException"
def XR (P : (Nat → Nat → Int32) → Prop) (L : Nat → Nat → Int64) (w1 w2 : Nat) (ks : List Nat) : String → aH → Prop := fun E h' => (∃ k, k ∈ ks ∧ E = exN k) ∧ ∃ I', h' = hp I' L w1 w2 0 ∧ P I'
def XH (ks : List Nat) (h : aH) : String → aH → Prop := fun E h' => (∃ k, k ∈ ks ∧ E = exN k) ∧ h' = h
theorem XR.cm {P P' : (Nat → Nat → Int32) → Prop} {L : Nat → Nat → Int64} {w1 w2 : Nat} {ks ks' : List Nat} {E : String} {h' : aH} (h : XR P' L w1 w2 ks' E h') (hk : ∀ k ∈ ks', k ∈ ks) (f : ∀ I', P' I' → P I') : XR P L w1 w2 ks E h' := by
  obtain ⟨⟨k, h1, h2⟩, I', h3, h4⟩ := h
  exact ⟨⟨k, hk k h1, h2⟩, I', h3, f _ h4⟩
/-- what now may become: its rows, day, month, seed, log -/
def sN (q k : Nat) : Bool := sQ q k || ((Nat.beq q 235 && (Nat.beq k 10 || (Nat.beq k 11 || Nat.beq k 15))) || (Nat.ble 236 q && Nat.ble q 245))
theorem sQ_sN : ∀ q k, sQ q k = true → sN q k = true := fun q k h => by
  unfold sN
  rw [h]
  rfl
/-- the streets that stay: now, the draft, the image, the past: not more than 12 duties -/
def CI (I : Nat → Nat → Int32) : Prop := ∀ a, a ∈ stps → a ≠ 257 → ∃ nd, nd ≤ 12 ∧ I a 3 = nI nd
/-- the class alone has changed, the tape's length and whether there is an image have not -/
def Mt (I I' : Nat → Nat → Int32) : Prop := (∀ q, 420 ≤ q → I' q = I q) ∧ I' 201 1 = I 201 1 ∧ I' 200 10 = I 200 10 ∧ (CI I → CI I') ∧ I' 202 = I 202 ∧ I' 203 1 = I 203 1 ∧ I' 220 1 = I 220 1
theorem Mt.rf {I : Nat → Nat → Int32} : Mt I I := ⟨fun _ _ => rfl, rfl, rfl, id, rfl, rfl, rfl⟩
theorem Mt.tr {I I' I'' : Nat → Nat → Int32} (h : Mt I I') (h2 : Mt I' I'') : Mt I I'' := ⟨fun q hq => (h2.1 q hq).trans (h.1 q hq), h2.2.1.trans h.2.1, h2.2.2.1.trans h.2.2.1, fun z => h2.2.2.2.1 (h.2.2.2.1 z), h2.2.2.2.2.1.trans h.2.2.2.2.1, h2.2.2.2.2.2.1.trans h.2.2.2.2.2.1, h2.2.2.2.2.2.2.trans h.2.2.2.2.2.2⟩
/-- all of the class but these -/
def isSt (q : Nat) : Bool := Nat.beq q 209 || Nat.beq q 235 || (Nat.beq q 268 || stps.any (fun a => Nat.ble 288 a && Nat.beq q a))
def sM (q k : Nat) : Bool := Nat.blt q 420 && (!(Nat.beq q 201 && Nat.beq k 1) && (!(Nat.beq q 200 && Nat.beq k 10) && (!(isSt q && Nat.beq k 3) && (!(Nat.beq q 202) && !((Nat.beq q 203 || Nat.beq q 220) && Nat.beq k 1)))))
theorem sM_hi {q k : Nat} (h : 420 ≤ q) : sM q k = false := by
  have e : Nat.blt q 420 = false := by
    cases hb : Nat.blt q 420 with
    | false => rfl
    | true => exact absurd (Nat.le_of_ble_eq_true hb) (by omega)
  simp [sM, e]
theorem sM_st : ∀ a ∈ stps, a ≠ 257 → sM a 3 = false := by decide +kernel
theorem Mt.of {I I' : Nat → Nat → Int32} (f : Fm sM I I') : Mt I I' := ⟨fun q hq => funext fun k => f q k (sM_hi hq), f 201 1 rfl, f 200 10 rfl, (fun h a ha h2 => by
  rw [f a 3 (sM_st a ha h2)]
  exact h a ha h2), funext fun k => f 202 k rfl, f 203 1 rfl, f 220 1 rfl⟩
theorem Mt.fm {I I' I'' : Nat → Nat → Int32} (h : Mt I I') (f : Fm sM I' I'') : Mt I I'' := h.tr (Mt.of f)
theorem sN_lt {q k : Nat} (h : sN q k = true) : 235 ≤ q ∧ q < 268 ∧ (q = 235 → ¬ k = 3) := by
  simp only [sN, sQ, Bool.or_eq_true, Bool.and_eq_true] at h
  have B : ∀ {a b : Nat}, Nat.beq a b = true → a = b := fun z => Nat.eq_of_beq_eq_true z
  have E : ∀ {a b : Nat}, Nat.ble a b = true → a ≤ b := fun z => Nat.le_of_ble_eq_true z
  rcases h with (h | h | h | h | ⟨h, h'⟩) | ⟨h, h'⟩ | ⟨h, h'⟩
  · have := B h; omega
  · have := B h; omega
  · have := B h; omega
  · have := B h; omega
  · have := E h; have := E h'; omega
  · have := B h
    rcases h' with h' | h' | h' <;> (have := B h'; omega)
  · have := E h; have := E h'; omega
theorem sM_mid {q k : Nat} (h1 : 204 ≤ q ∧ q ≠ 220) (h2 : q < 420) (h3 : isSt q = true → ¬ k = 3) : sM q k = true := by
  have e1 : Nat.blt q 420 = true := blt_of h2
  have e2 : Nat.beq q 201 = false := beqF (by omega)
  have e3 : Nat.beq q 200 = false := beqF (by omega)
  have e6 : Nat.beq q 202 = false := beqF (by omega)
  have e7 : Nat.beq q 203 = false := beqF (by omega)
  have e8 : Nat.beq q 220 = false := beqF (by omega)
  cases h4 : isSt q with
  | false => simp [sM, e1, e2, e3, h4, e6, e7, e8]
  | true =>
    have e5 : Nat.beq k 3 = false := beqF (h3 h4)
    simp [sM, e1, e2, e3, h4, e5, e6, e7, e8]
theorem isSt_lt : ∀ q, q < 268 → isSt q = true → q = 209 ∨ q = 235 := by decide +kernel
theorem sN_sM : ∀ q k, sN q k = true → sM q k = true := fun q k h => by
  have h1 := sN_lt h
  exact sM_mid (by omega) (by omega) fun z => h1.2.2 ((isSt_lt q h1.2.1 z).resolve_left (by omega))
theorem sQ_sM : ∀ q k, sQ q k = true → sM q k = true := fun q k h => sN_sM q k (sQ_sN q k h)
theorem stp_220 : ∀ a ∈ stps, a + 11 ≤ 220 ∨ 220 < a := by decide +kernel
theorem stp_hi : ∀ a ∈ stps, 209 ≤ a ∧ a ≤ 409 := by decide +kernel
/-- one street into another -/
theorem Mt.cpM {I : Nat → Nat → Int32} {a b m : Nat} (ha : a ∈ stps) (hb : b ∈ stps) (h2 : b ≠ 257) (hm : m ≤ 11) (h0 : 0 < m) : Mt I (cpS I a b m) := by
  have ka := stp_hi a ha
  have kb := stp_220 a ha
  refine ⟨fun q hq => cpS_out (by omega), by rw [cpS_out (by omega)], by rw [cpS_out (by omega)], fun h s hs g2 => ?_, cpS_out (by omega), by rw [cpS_out (by omega)], by rw [cpS_out (by omega)]⟩
  by_cases e : s = a
  · subst e
    rw [cpS_in0 h0]
    exact h b hb h2
  · have := stp_apart s hs a ha e
    rw [cpS_out (by omega)]
    exact h s hs g2
theorem Mt.cpA {I : Nat → Nat → Int32} {a b : Nat} (ha : a ∈ stps) (hb : b ∈ stps) (h2 : b ≠ 257) : Mt I (cpS I a b 11) := Mt.cpM ha hb h2 (by omega) (by omega)
theorem Fm.cl {s : Nat → Nat → Bool} {I I' : Nat → Nat → Int32} {a b : Nat} (h : Fm s I I') (h0 : s a 0 = true) (hs : ∀ i k, i < 5 → s (a + 1 + i) k = true) : Fm s I (cpL I' a b) := by
  unfold cpL
  exact (h.cp hs).up h0
theorem Fm_l246 (i k : Nat) (h : i < 5) : sM (246 + 1 + i) k = true := sM_mid (by omega) (by omega) fun z => by
  have := isSt_lt _ (by omega) z
  omega
theorem isSt_l : ∀ i, i < 5 → isSt (279 + 1 + i) = false := by decide +kernel
theorem Fm_l279 (i k : Nat) (h : i < 5) : sM (279 + 1 + i) k = true := sM_mid (by omega) (by omega) fun z => by
  rw [isSt_l i h] at z
  cases z
/-- .. and the tape is used up -/
def Mt0 (I I' : Nat → Nat → Int32) : Prop := ∃ I1, Mt I I1 ∧ Mt (up2 I1 201 1 0) I'
theorem Mt0.mk {I I1 : Nat → Nat → Int32} (h : Mt I I1) : Mt0 I (up2 I1 201 1 0) := ⟨I1, h, Mt.rf⟩
theorem Mt0.tr {I I1 I2 : Nat → Nat → Int32} (h : Mt0 I I1) (h2 : Mt I1 I2) : Mt0 I I2 := by
  obtain ⟨J, h3, h4⟩ := h
  exact ⟨J, h3, h4.tr h2⟩
theorem Mt0.fm {I I1 I2 : Nat → Nat → Int32} (h : Mt0 I I1) (f : Fm sM I1 I2) : Mt0 I I2 := h.tr (Mt.of f)
theorem Mt0.all {I I' : Nat → Nat → Int32} (h : Mt0 I I') : (∀ q, 420 ≤ q → I' q = I q) ∧ I' 201 1 = 0 ∧ I' 200 10 = I 200 10 ∧ (CI I → CI I') ∧ I' 202 = I 202 ∧ I' 203 1 = I 203 1 ∧ I' 220 1 = I 220 1 := by
  obtain ⟨J, h1, h2⟩ := h
  refine ⟨fun q hq => ?_, ?_, ?_, fun z => h2.2.2.2.1 fun a ha g2 => ?_, ?_, ?_, ?_⟩
  · rw [h2.1 q hq, up2_row (by omega), h1.1 q hq]
  · rw [h2.2.1, up2_at]
  · rw [h2.2.2.1, up2_row (by decide), h1.2.2.1]
  · have ka := stp_hi a ha
    rw [up2_row (by omega)]
    exact h1.2.2.2.1 z a ha g2
  · rw [h2.2.2.2.2.1, up2_row (by decide), h1.2.2.2.2.1]
  · rw [h2.2.2.2.2.2.1, up2_row (by decide), h1.2.2.2.2.2.1]
  · rw [h2.2.2.2.2.2.2, up2_row (by decide), h1.2.2.2.2.2.2]
theorem inB_nI {a b : Nat} {x : Int32} (hb : a < 2 ^ 31 ∧ b < 2 ^ 31) (h : inB x (nI a) (nI b) = true) : ∃ m, a ≤ m ∧ m ≤ b ∧ x = nI m := by
  have h := of_decide_eq_true h
  obtain ⟨h1, h2⟩ := h
  rw [Int32.le_iff_toInt_le] at h1 h2
  rw [nI_toInt hb.2] at h2
  rw [nI_toInt hb.1] at h1
  refine ⟨x.toInt.toNat, by omega, by omega, ?_⟩
  rw [← Int32.toInt_inj, nI_toInt (by omega)]
  omega
theorem or_bit : ∀ n, n < 12 → ∀ m, m < 2 ^ n → nI m ||| bitF (nI n) = nI (m + 2 ^ n) := by
  intro n hn m hm
  have e : ∀ n, n < 12 → bitF (nI n) = nI (2 ^ n) := by decide +kernel
  have e2 : m + 2 ^ n = m ||| 2 ^ n := by
    have h := Nat.two_pow_add_eq_or_of_lt hm 1
    rw [Nat.mul_one] at h
    rw [Nat.add_comm, h, Nat.or_comm]
  rw [e n hn, e2]
  refine Int32.toBitVec_inj.mp (BitVec.eq_of_getLsbD_eq fun i hi => ?_)
  rw [Int32.toBitVec_or, BitVec.getLsbD_or]
  show ((BitVec.ofNat 32 m).getLsbD i || (BitVec.ofNat 32 (2 ^ n)).getLsbD i) = (BitVec.ofNat 32 (m ||| 2 ^ n)).getLsbD i
  rw [BitVec.getLsbD_ofNat, BitVec.getLsbD_ofNat, BitVec.getLsbD_ofNat, Nat.testBit_or]
  cases decide (i < 32) <;> simp
theorem bs_nI {n : Nat} {P : Nat → Bool} (hn : n ≤ 12) : ∃ m, m < 2 ^ n ∧ bs n P = nI m := by
  induction n with
  | zero => exact ⟨0, by decide, nI_0.symm⟩
  | succ n ih =>
    obtain ⟨m, hm, e⟩ := ih (by omega)
    unfold bs
    split
    · refine ⟨m + 2 ^ n, by rw [Nat.pow_succ]; omega, ?_⟩
      rw [e, or_bit n (by omega) m hm]
    · exact ⟨m, by rw [Nat.pow_succ]; omega, e⟩
theorem bs_nI12 {n : Nat} {P : Nat → Bool} (hn : n ≤ 12) : ∃ m, m < 4096 ∧ bs n P = nI m := by
  obtain ⟨m, h1, h2⟩ := bs_nI (P := P) hn
  exact ⟨m, Nat.lt_of_lt_of_le h1 (Nat.pow_le_pow_right (by decide) hn), h2⟩
theorem odd_nz {m j : Nat} (hm : m ≤ 6) (hj : j < 2 ^ 31) (h : ¬ nI m < nI j) : ¬ (nI j + 1).toInt64 = 0 := by
  have : j ≤ 6 := by
    have := nI_le_of h hj (by omega)
    omega
  rcases j with _ | _ | _ | _ | _ | _ | _ | j
  all_goals first | decide | omega
theorem q_needNumber {S : aS} {I : Nat → Nat → Int32} {L : Nat → Nat → Int64} {w1 w2 t : Nat} {x a b : Int32} : Sp S m_X11_needNumber 13 1 6 [.int x, .int a, .int b] (hp I L w1 w2 t) (fun v h' => v = none ∧ h' = hp I L w1 w2 t ∧ inB x a b = true) (XR (Fm sQ I) L w1 w2 [1]) := by
  refine Sp_of ok_X11_needNumber rfl rfl ?_
  show AW S m_X11_needNumber 13 _ _ 1 6 0 [some (.int x), some (.int a), some (.int b)] [] (hp I L w1 w2 t)
  refine a_l0 rfl rfl rfl ?_
  refine a_l1 rfl rfl rfl ?_
  refine a_ic_lt rfl (fun c2 => ?_) (fun c2 => ?_)
  · exact a_throw rfl rfl rfl rfl tX11_iae rfl rfl rfl rfl rfl ⟨⟨1, by decide, rfl⟩, _, rfl, Fm.rf⟩
  · refine a_l0 rfl rfl rfl ?_
    refine a_l2 rfl rfl rfl ?_
    refine a_ic_le rfl (fun c7 => ?_) (fun c7 => ?_)
    · exact a_vret rfl rfl ⟨rfl, rfl, decide_eq_true ⟨Int32.not_lt.mp c2, c7⟩⟩
    · exact a_throw rfl rfl rfl rfl tX11_iae rfl rfl rfl rfl rfl ⟨⟨1, by decide, rfl⟩, _, rfl, Fm.rf⟩
theorem sQ_257 (i k : Nat) (hi : i < 9) : sQ (257 + i) k = true := by
  have : ∀ i, i < 9 → sQ (257 + i) 0 = true := by decide
  exact this i hi
/-- the readers' tokens -/
def sT (q _k : Nat) : Bool := (Nat.ble 204 q && Nat.ble q 208) || (Nat.ble 221 q && Nat.ble q 225)
theorem sT_sM : ∀ q k, sT q k = true → sM q k = true := fun q k h => by
  simp only [sT, Bool.or_eq_true, Bool.and_eq_true] at h
  have E : ∀ {a b : Nat}, Nat.ble a b = true → a ≤ b := fun z => Nat.le_of_ble_eq_true z
  rcases h with ⟨h, h'⟩ | ⟨h, h'⟩
  · have := E h; have := E h'
    exact sM_mid (by omega) (by omega) fun z => by have := isSt_lt q (by omega) z; omega
  · have := E h; have := E h'
    exact sM_mid (by omega) (by omega) fun z => by have := isSt_lt q (by omega) z; omega
end
section
/-! ===== the class: safe walks (printed by program) ===== -/
set_option maxRecDepth 100000
theorem q_X2_setPart_246 {S : aS} {I : Nat → Nat → Int32} {L : Nat → Nat → Int64} {w1 w2 t : Nat} {x1 x2 : Int32} : Sp S m_X2_setPart 13 0 0 [.ref 246, .int x1, .int x2] (hp I L w1 w2 t) (QR (Fm sQ I) isV L w1 w2 t) nX := by
  refine Sp_of ok_X2_setPart rfl rfl ?_
  show AW S m_X2_setPart 13 _ _ 0 0 0 [some (.ref 246), some (.int x1), some (.int x2)] [] (hp I L w1 w2 t)
  refine a_l0 rfl rfl rfl ?_
  refine a_getq rfl gfX2_31_2 rfl (rfl) ?_
  refine a_l1 rfl rfl rfl ?_
  refine a_s rfl rfl ?_
  refine a_s rfl rfl ?_
  refine a_l2 rfl rfl rfl ?_
  refine a_eSN0 rfl lX2_44 mo_X11_setAt (sp_X11_setAt rfl) rfl rfl rfl rfl ?_
  refine a_ren (P := Fm sQ I) (Fm.st (Fm.rf (s := sQ)) (fun _ => rfl)) (fun I1 f2 => ?_)
  exact a_vret rfl rfl ⟨rfl, _, rfl, f2⟩
theorem q_X5_leansFreely_235 {S : aS} {I : Nat → Nat → Int32} {L : Nat → Nat → Int64} {w1 w2 t : Nat} {x1 : Int32} : Sp S m_X5_leansFreely 13 0 0 [.ref 235, .int x1] (hp I L w1 w2 t) (QE isZ (hp I L w1 w2 t)) nX := by
  refine Sp_of ok_X5_leansFreely rfl rfl ?_
  show AW S m_X5_leansFreely 13 _ _ 0 0 0 [some (.ref 235), some (.int x1), none] [] (hp I L w1 w2 t)
  refine a_l0 rfl rfl rfl ?_
  refine a_getq rfl gfX5_30_5 rfl (rfl) ?_
  refine a_l1 rfl rfl rfl ?_
  refine a_eSN1 rfl lX5_86 mo_X11_at (sp_X11_at rfl) rfl rfl rfl rfl ?_
  refine a_s2 rfl rfl rfl rfl rfl rfl ?_
  refine a_l2 rfl rfl rfl ?_
  refine a_s rfl rfl ?_
  refine a_ic_eq rfl (fun c11 => ?_) (fun c11 => ?_)
  · refine a_s rfl rfl ?_
    refine a_goto rfl ?_
    exact a_zret rfl rfl rfl ⟨⟨true, rfl⟩, rfl⟩
  · refine a_l0 rfl rfl rfl ?_
    refine a_getq rfl gfX5_33_5 rfl (rfl) ?_
    refine a_l2 rfl rfl rfl ?_
    refine a_eSN1 rfl lX5_86 mo_X11_at (sp_X11_at rfl) rfl rfl rfl rfl ?_
    refine a_s rfl rfl ?_
    refine a_ic_ne rfl (fun c23 => ?_) (fun c23 => ?_)
    · refine a_s rfl rfl ?_
      exact a_zret rfl rfl rfl ⟨⟨false, rfl⟩, rfl⟩
    · refine a_s rfl rfl ?_
      refine a_goto rfl ?_
      exact a_zret rfl rfl rfl ⟨⟨true, rfl⟩, rfl⟩
theorem q_X2_takeParts_246_235 {S : aS} {I : Nat → Nat → Int32} {L : Nat → Nat → Int64} {w1 w2 t : Nat} {x2 : Int32} : Sp S m_X2_takeParts 14 0 0 [.ref 246, .ref 235, .int x2] (hp I L w1 w2 t) (QR (Fm sQ I) isV L w1 w2 t) nX := by
  refine Sp_of ok_X2_takeParts rfl rfl ?_
  show AW S m_X2_takeParts 14 _ _ 0 0 0 [some (.ref 246), some (.ref 235), some (.int x2), none, none] [] (hp I L w1 w2 t)
  refine a_l1 rfl rfl rfl ?_
  refine a_getq rfl gfX2_82_5 rfl (rfl) ?_
  refine a_l2 rfl rfl rfl ?_
  refine a_eSN1 rfl lX2_61 mo_X11_at (sp_X11_at rfl) rfl rfl rfl rfl ?_
  refine a_s3 rfl rfl rfl rfl rfl rfl ?_
  refine a_l1 rfl rfl rfl ?_
  refine a_getq rfl gfX2_85_5 rfl (rfl) ?_
  refine a_l2 rfl rfl rfl ?_
  refine a_eSN1 rfl lX2_61 mo_X11_at (sp_X11_at rfl) rfl rfl rfl rfl ?_
  refine a_s4 rfl rfl rfl rfl rfl rfl ?_
  refine a_l0 rfl rfl rfl ?_
  refine a_s rfl rfl ?_
  refine a_l2 rfl rfl rfl ?_
  refine a_gV rfl lX2_88 mo_X2_setPart (q_X2_setPart_246) rfl rfl rfl ⟨2, _, rfl, rfl, rfl⟩ rfl (fun v' h' hv => ?_)
  obtain ⟨rfl, I2, rfl, f3⟩ := hv
  refine a_l0 rfl rfl rfl ?_
  refine a_s rfl rfl ?_
  refine a_l1 rfl rfl rfl ?_
  refine a_getq rfl gfX2_92_5 rfl (rfl) ?_
  refine a_l2 rfl rfl rfl ?_
  refine a_eSN1 rfl lX2_61 mo_X11_at (sp_X11_at rfl) rfl rfl rfl rfl ?_
  refine a_gV rfl lX2_88 mo_X2_setPart (q_X2_setPart_246) rfl rfl rfl ⟨2, _, rfl, rfl, rfl⟩ rfl (fun v' h' hv => ?_)
  obtain ⟨rfl, I5, rfl, f6⟩ := hv
  replace f6 : Fm sQ I I5 := Fm.tr (f3) (f6)
  refine a_l0 rfl rfl rfl ?_
  refine a_s rfl rfl ?_
  refine a_l1 rfl rfl rfl ?_
  refine a_getq rfl gfX2_56_5 rfl (rfl) ?_
  refine a_l2 rfl rfl rfl ?_
  refine a_eSN1 rfl lX2_61 mo_X11_at (sp_X11_at rfl) rfl rfl rfl rfl ?_
  refine a_gV rfl lX2_88 mo_X2_setPart (q_X2_setPart_246) rfl rfl rfl ⟨2, _, rfl, rfl, rfl⟩ rfl (fun v' h' hv => ?_)
  obtain ⟨rfl, I8, rfl, f9⟩ := hv
  replace f9 : Fm sQ I I8 := Fm.tr (f6) (f9)
  refine a_l0 rfl rfl rfl ?_
  refine a_s rfl rfl ?_
  refine a_l3 rfl rfl rfl ?_
  refine a_s rfl rfl ?_
  refine a_ic_ne rfl (fun c63 => ?_) (fun c63 => ?_)
  · refine a_l3 rfl rfl rfl ?_
    refine a_gV rfl lX2_88 mo_X2_setPart (q_X2_setPart_246) rfl rfl rfl ⟨2, _, rfl, rfl, rfl⟩ rfl (fun v' h' hv => ?_)
    obtain ⟨rfl, I11, rfl, f12⟩ := hv
    replace f12 : Fm sQ I I11 := Fm.tr (f9) (f12)
    refine a_l0 rfl rfl rfl ?_
    refine a_s rfl rfl ?_
    refine a_l4 rfl rfl rfl ?_
    refine a_gV rfl lX2_88 mo_X2_setPart (q_X2_setPart_246) rfl rfl rfl ⟨2, _, rfl, rfl, rfl⟩ rfl (fun v' h' hv => ?_)
    obtain ⟨rfl, I14, rfl, f15⟩ := hv
    replace f15 : Fm sQ I I14 := Fm.tr (f12) (f15)
    refine a_l0 rfl rfl rfl ?_
    refine a_s rfl rfl ?_
    refine a_l1 rfl rfl rfl ?_
    refine a_getq rfl gfX2_95_5 rfl (rfl) ?_
    refine a_l4 rfl rfl rfl ?_
    refine a_eSN1 rfl lX2_61 mo_X11_at (sp_X11_at rfl) rfl rfl rfl rfl ?_
    refine a_gV rfl lX2_88 mo_X2_setPart (q_X2_setPart_246) rfl rfl rfl ⟨2, _, rfl, rfl, rfl⟩ rfl (fun v' h' hv => ?_)
    obtain ⟨rfl, I17, rfl, f18⟩ := hv
    replace f18 : Fm sQ I I17 := Fm.tr (f15) (f18)
    refine a_l0 rfl rfl rfl ?_
    refine a_s rfl rfl ?_
    refine a_l1 rfl rfl rfl ?_
    refine a_geti rfl gfX2_98_5 rfl ?_
    refine a_gV rfl lX2_88 mo_X2_setPart (q_X2_setPart_246) rfl rfl rfl ⟨2, _, rfl, rfl, rfl⟩ rfl (fun v' h' hv => ?_)
    obtain ⟨rfl, I20, rfl, f21⟩ := hv
    replace f21 : Fm sQ I I20 := Fm.tr (f18) (f21)
    refine a_l0 rfl rfl rfl ?_
    refine a_s rfl rfl ?_
    refine a_l1 rfl rfl rfl ?_
    refine a_l2 rfl rfl rfl ?_
    refine a_gV rfl lX2_101 mo_X5_leansFreely (q_X5_leansFreely_235) rfl rfl rfl ⟨5, _, rfl, rfl, rfl⟩ rfl (fun v' h' hv => ?_)
    obtain ⟨⟨v22, rfl⟩, rfl⟩ := hv
    refine a_if_eq rfl (fun c120 => ?_) (fun c120 => ?_)
    · refine a_s rfl rfl ?_
      refine a_gV rfl lX2_88 mo_X2_setPart (q_X2_setPart_246) rfl rfl rfl ⟨2, _, rfl, rfl, rfl⟩ rfl (fun v' h' hv => ?_)
      obtain ⟨rfl, I24, rfl, f25⟩ := hv
      replace f25 : Fm sQ I I24 := Fm.tr (f21) (f25)
      refine a_l0 rfl rfl rfl ?_
      refine a_s rfl rfl ?_
      refine a_l1 rfl rfl rfl ?_
      refine a_getq rfl gfX2_56_5 rfl (rfl) ?_
      refine a_l2 rfl rfl rfl ?_
      refine a_eSN1 rfl lX2_61 mo_X11_at (sp_X11_at rfl) rfl rfl rfl rfl ?_
      refine a_s rfl rfl ?_
      refine a_ic_le rfl (fun c145 => ?_) (fun c145 => ?_)
      · refine a_s rfl rfl ?_
        refine a_gV rfl lX2_88 mo_X2_setPart (q_X2_setPart_246) rfl rfl rfl ⟨2, _, rfl, rfl, rfl⟩ rfl (fun v' h' hv => ?_)
        obtain ⟨rfl, I27, rfl, f28⟩ := hv
        replace f28 : Fm sQ I I27 := Fm.tr (f25) (f28)
        exact a_vret rfl rfl ⟨rfl, _, rfl, f28⟩
      · refine a_s rfl rfl ?_
        refine a_goto rfl ?_
        refine a_gV rfl lX2_88 mo_X2_setPart (q_X2_setPart_246) rfl rfl rfl ⟨2, _, rfl, rfl, rfl⟩ rfl (fun v' h' hv => ?_)
        obtain ⟨rfl, I30, rfl, f31⟩ := hv
        replace f31 : Fm sQ I I30 := Fm.tr (f25) (f31)
        exact a_vret rfl rfl ⟨rfl, _, rfl, f31⟩
    · refine a_s rfl rfl ?_
      refine a_goto rfl ?_
      refine a_gV rfl lX2_88 mo_X2_setPart (q_X2_setPart_246) rfl rfl rfl ⟨2, _, rfl, rfl, rfl⟩ rfl (fun v' h' hv => ?_)
      obtain ⟨rfl, I33, rfl, f34⟩ := hv
      replace f34 : Fm sQ I I33 := Fm.tr (f21) (f34)
      refine a_l0 rfl rfl rfl ?_
      refine a_s rfl rfl ?_
      refine a_l1 rfl rfl rfl ?_
      refine a_getq rfl gfX2_56_5 rfl (rfl) ?_
      refine a_l2 rfl rfl rfl ?_
      refine a_eSN1 rfl lX2_61 mo_X11_at (sp_X11_at rfl) rfl rfl rfl rfl ?_
      refine a_s rfl rfl ?_
      refine a_ic_le rfl (fun c145 => ?_) (fun c145 => ?_)
      · refine a_s rfl rfl ?_
        refine a_gV rfl lX2_88 mo_X2_setPart (q_X2_setPart_246) rfl rfl rfl ⟨2, _, rfl, rfl, rfl⟩ rfl (fun v' h' hv => ?_)
        obtain ⟨rfl, I36, rfl, f37⟩ := hv
        replace f37 : Fm sQ I I36 := Fm.tr (f34) (f37)
        exact a_vret rfl rfl ⟨rfl, _, rfl, f37⟩
      · refine a_s rfl rfl ?_
        refine a_goto rfl ?_
        refine a_gV rfl lX2_88 mo_X2_setPart (q_X2_setPart_246) rfl rfl rfl ⟨2, _, rfl, rfl, rfl⟩ rfl (fun v' h' hv => ?_)
        obtain ⟨rfl, I39, rfl, f40⟩ := hv
        replace f40 : Fm sQ I I39 := Fm.tr (f34) (f40)
        exact a_vret rfl rfl ⟨rfl, _, rfl, f40⟩
  · refine a_s rfl rfl ?_
    refine a_goto rfl ?_
    refine a_gV rfl lX2_88 mo_X2_setPart (q_X2_setPart_246) rfl rfl rfl ⟨2, _, rfl, rfl, rfl⟩ rfl (fun v' h' hv => ?_)
    obtain ⟨rfl, I42, rfl, f43⟩ := hv
    replace f43 : Fm sQ I I42 := Fm.tr (f9) (f43)
    refine a_l0 rfl rfl rfl ?_
    refine a_s rfl rfl ?_
    refine a_l4 rfl rfl rfl ?_
    refine a_gV rfl lX2_88 mo_X2_setPart (q_X2_setPart_246) rfl rfl rfl ⟨2, _, rfl, rfl, rfl⟩ rfl (fun v' h' hv => ?_)
    obtain ⟨rfl, I45, rfl, f46⟩ := hv
    replace f46 : Fm sQ I I45 := Fm.tr (f43) (f46)
    refine a_l0 rfl rfl rfl ?_
    refine a_s rfl rfl ?_
    refine a_l1 rfl rfl rfl ?_
    refine a_getq rfl gfX2_95_5 rfl (rfl) ?_
    refine a_l4 rfl rfl rfl ?_
    refine a_eSN1 rfl lX2_61 mo_X11_at (sp_X11_at rfl) rfl rfl rfl rfl ?_
    refine a_gV rfl lX2_88 mo_X2_setPart (q_X2_setPart_246) rfl rfl rfl ⟨2, _, rfl, rfl, rfl⟩ rfl (fun v' h' hv => ?_)
    obtain ⟨rfl, I48, rfl, f49⟩ := hv
    replace f49 : Fm sQ I I48 := Fm.tr (f46) (f49)
    refine a_l0 rfl rfl rfl ?_
    refine a_s rfl rfl ?_
    refine a_l1 rfl rfl rfl ?_
    refine a_geti rfl gfX2_98_5 rfl ?_
    refine a_gV rfl lX2_88 mo_X2_setPart (q_X2_setPart_246) rfl rfl rfl ⟨2, _, rfl, rfl, rfl⟩ rfl (fun v' h' hv => ?_)
    obtain ⟨rfl, I51, rfl, f52⟩ := hv
    replace f52 : Fm sQ I I51 := Fm.tr (f49) (f52)
    refine a_l0 rfl rfl rfl ?_
    refine a_s rfl rfl ?_
    refine a_l1 rfl rfl rfl ?_
    refine a_l2 rfl rfl rfl ?_
    refine a_gV rfl lX2_101 mo_X5_leansFreely (q_X5_leansFreely_235) rfl rfl rfl ⟨5, _, rfl, rfl, rfl⟩ rfl (fun v' h' hv => ?_)
    obtain ⟨⟨v53, rfl⟩, rfl⟩ := hv
    refine a_if_eq rfl (fun c120 => ?_) (fun c120 => ?_)
    · refine a_s rfl rfl ?_
      refine a_gV rfl lX2_88 mo_X2_setPart (q_X2_setPart_246) rfl rfl rfl ⟨2, _, rfl, rfl, rfl⟩ rfl (fun v' h' hv => ?_)
      obtain ⟨rfl, I55, rfl, f56⟩ := hv
      replace f56 : Fm sQ I I55 := Fm.tr (f52) (f56)
      refine a_l0 rfl rfl rfl ?_
      refine a_s rfl rfl ?_
      refine a_l1 rfl rfl rfl ?_
      refine a_getq rfl gfX2_56_5 rfl (rfl) ?_
      refine a_l2 rfl rfl rfl ?_
      refine a_eSN1 rfl lX2_61 mo_X11_at (sp_X11_at rfl) rfl rfl rfl rfl ?_
      refine a_s rfl rfl ?_
      refine a_ic_le rfl (fun c145 => ?_) (fun c145 => ?_)
      · refine a_s rfl rfl ?_
        refine a_gV rfl lX2_88 mo_X2_setPart (q_X2_setPart_246) rfl rfl rfl ⟨2, _, rfl, rfl, rfl⟩ rfl (fun v' h' hv => ?_)
        obtain ⟨rfl, I58, rfl, f59⟩ := hv
        replace f59 : Fm sQ I I58 := Fm.tr (f56) (f59)
        exact a_vret rfl rfl ⟨rfl, _, rfl, f59⟩
      · refine a_s rfl rfl ?_
        refine a_goto rfl ?_
        refine a_gV rfl lX2_88 mo_X2_setPart (q_X2_setPart_246) rfl rfl rfl ⟨2, _, rfl, rfl, rfl⟩ rfl (fun v' h' hv => ?_)
        obtain ⟨rfl, I61, rfl, f62⟩ := hv
        replace f62 : Fm sQ I I61 := Fm.tr (f56) (f62)
        exact a_vret rfl rfl ⟨rfl, _, rfl, f62⟩
    · refine a_s rfl rfl ?_
      refine a_goto rfl ?_
      refine a_gV rfl lX2_88 mo_X2_setPart (q_X2_setPart_246) rfl rfl rfl ⟨2, _, rfl, rfl, rfl⟩ rfl (fun v' h' hv => ?_)
      obtain ⟨rfl, I64, rfl, f65⟩ := hv
      replace f65 : Fm sQ I I64 := Fm.tr (f52) (f65)
      refine a_l0 rfl rfl rfl ?_
      refine a_s rfl rfl ?_
      refine a_l1 rfl rfl rfl ?_
      refine a_getq rfl gfX2_56_5 rfl (rfl) ?_
      refine a_l2 rfl rfl rfl ?_
      refine a_eSN1 rfl lX2_61 mo_X11_at (sp_X11_at rfl) rfl rfl rfl rfl ?_
      refine a_s rfl rfl ?_
      refine a_ic_le rfl (fun c145 => ?_) (fun c145 => ?_)
      · refine a_s rfl rfl ?_
        refine a_gV rfl lX2_88 mo_X2_setPart (q_X2_setPart_246) rfl rfl rfl ⟨2, _, rfl, rfl, rfl⟩ rfl (fun v' h' hv => ?_)
        obtain ⟨rfl, I67, rfl, f68⟩ := hv
        replace f68 : Fm sQ I I67 := Fm.tr (f65) (f68)
        exact a_vret rfl rfl ⟨rfl, _, rfl, f68⟩
      · refine a_s rfl rfl ?_
        refine a_goto rfl ?_
        refine a_gV rfl lX2_88 mo_X2_setPart (q_X2_setPart_246) rfl rfl rfl ⟨2, _, rfl, rfl, rfl⟩ rfl (fun v' h' hv => ?_)
        obtain ⟨rfl, I70, rfl, f71⟩ := hv
        replace f71 : Fm sQ I I70 := Fm.tr (f65) (f71)
        exact a_vret rfl rfl ⟨rfl, _, rfl, f71⟩
theorem q_X2_joined {S : aS} {I : Nat → Nat → Int32} {L : Nat → Nat → Int64} {w1 w2 t : Nat} {x0 x1 x2 : Int32} : Sp S m_X2_joined 12 0 0 [.int x0, .int x1, .int x2] (hp I L w1 w2 t) (QE isI (hp I L w1 w2 t)) nX := by
  refine Sp_of ok_X2_joined rfl rfl ?_
  show AW S m_X2_joined 12 _ _ 0 0 0 [some (.int x0), some (.int x1), some (.int x2)] [] (hp I L w1 w2 t)
  refine a_l0 rfl rfl rfl ?_
  refine a_tswA rfl (by decide) (by decide) (fun hx => ?_) (fun i o ho hx => ?_)
  · refine a_pc (pc' := 66) (by decide) ?_
    refine a_l1 rfl rfl rfl ?_
    refine a_l2 rfl rfl rfl ?_
    refine a_s rfl rfl ?_
    exact a_iret rfl rfl ⟨⟨_, rfl⟩, rfl⟩
  · rcases i with _ | _ | _ | _ | _ | i
    · cases ho
      refine a_pc (pc' := 36) (by decide) ?_
      refine a_l1 rfl rfl rfl ?_
      refine a_l2 rfl rfl rfl ?_
      refine a_s rfl rfl ?_
      exact a_iret rfl rfl ⟨⟨_, rfl⟩, rfl⟩
    · cases ho
      refine a_pc (pc' := 40) (by decide) ?_
      refine a_l1 rfl rfl rfl ?_
      refine a_l2 rfl rfl rfl ?_
      refine a_ic_ge rfl (fun c42 => ?_) (fun c42 => ?_)
      · refine a_s rfl rfl ?_
        exact a_iret rfl rfl ⟨⟨_, rfl⟩, rfl⟩
      · refine a_s rfl rfl ?_
        refine a_goto rfl ?_
        exact a_iret rfl rfl ⟨⟨_, rfl⟩, rfl⟩
    · cases ho
      refine a_pc (pc' := 51) (by decide) ?_
      refine a_l1 rfl rfl rfl ?_
      refine a_l2 rfl rfl rfl ?_
      refine a_ic_le rfl (fun c53 => ?_) (fun c53 => ?_)
      · refine a_s rfl rfl ?_
        exact a_iret rfl rfl ⟨⟨_, rfl⟩, rfl⟩
      · refine a_s rfl rfl ?_
        refine a_goto rfl ?_
        exact a_iret rfl rfl ⟨⟨_, rfl⟩, rfl⟩
    · cases ho
      refine a_pc (pc' := 66) (by decide) ?_
      refine a_l1 rfl rfl rfl ?_
      refine a_l2 rfl rfl rfl ?_
      refine a_s rfl rfl ?_
      exact a_iret rfl rfl ⟨⟨_, rfl⟩, rfl⟩
    · cases ho
      refine a_pc (pc' := 62) (by decide) ?_
      refine a_l1 rfl rfl rfl ?_
      refine a_l2 rfl rfl rfl ?_
      refine a_s rfl rfl ?_
      exact a_iret rfl rfl ⟨⟨_, rfl⟩, rfl⟩
    · cases ho
theorem q_X2_holds_246 {S : aS} {I : Nat → Nat → Int32} {L : Nat → Nat → Int64} {w1 w2 t : Nat} {x1 : Int32} : Sp S m_X2_holds 13 0 0 [.ref 246, .int x1] (hp I L w1 w2 t) (QR (Fm sQ I) isZ L w1 w2 t) nX := by
  refine Sp_of ok_X2_holds rfl rfl ?_
  show AW S m_X2_holds 13 _ _ 0 0 0 [some (.ref 246), some (.int x1), none, none, none, none] [] (hp I L w1 w2 t)
  refine a_s rfl rfl ?_
  refine a_s2 rfl rfl rfl rfl rfl rfl ?_
  refine a_l0 rfl rfl rfl ?_
  refine a_getq rfl gfX2_25_2 rfl (rfl) ?_
  refine a_l1 rfl rfl rfl ?_
  refine a_eSN1 rfl lX2_61 mo_X11_at (sp_X11_at rfl) rfl rfl rfl rfl ?_
  refine a_s3 rfl rfl rfl rfl rfl rfl ?_
  refine a_l0 rfl rfl rfl ?_
  refine a_getq rfl gfX2_22_2 rfl (rfl) ?_
  refine a_l1 rfl rfl rfl ?_
  refine a_eSN1 rfl lX2_61 mo_X11_at (sp_X11_at rfl) rfl rfl rfl rfl ?_
  refine a_s4 rfl rfl rfl rfl rfl rfl ?_
  refine a_cntI (fun y ls h => ∃ a0, ∃ a1, ∃ I', ls = [some (.ref 246), some (.int x1), some (.int a0), some (.int a1), some (.int y), none] ∧ h = hp I' L w1 w2 t ∧ Fm sQ I I') ⟨_, _, _, rfl, rfl, Fm.rf⟩ ⟨rfl, rfl, rfl, rfl, rfl, trivial⟩ ?_
  rintro y21 _ _ ⟨a0_21, a1_21, Ih21, rfl, rfl, fh21⟩ ih21
  refine a_l4 rfl rfl rfl ?_
  refine a_l3 rfl rfl rfl ?_
  refine a_ic_ge rfl (fun c24 => ?_) (fun c24 => ?_)
  · refine a_l2 rfl rfl rfl ?_
    refine a_if_eq rfl (fun c162 => ?_) (fun c162 => ?_)
    · refine a_s rfl rfl ?_
      refine a_goto rfl ?_
      exact a_zret rfl rfl rfl ⟨⟨true, rfl⟩, _, rfl, fh21⟩
    · refine a_l0 rfl rfl rfl ?_
      refine a_getq rfl gfX2_34_2 rfl (rfl) ?_
      refine a_s rfl rfl ?_
      refine a_eSN1 rfl lX2_61 mo_X11_at (sp_X11_at rfl) rfl rfl rfl rfl ?_
      refine a_if_eq rfl (fun c173 => ?_) (fun c173 => ?_)
      · refine a_s rfl rfl ?_
        exact a_zret rfl rfl rfl ⟨⟨false, rfl⟩, _, rfl, fh21⟩
      · refine a_s rfl rfl ?_
        refine a_goto rfl ?_
        exact a_zret rfl rfl rfl ⟨⟨true, rfl⟩, _, rfl, fh21⟩
  · refine a_l0 rfl rfl rfl ?_
    refine a_getq rfl gfX2_28_2 rfl (rfl) ?_
    refine a_l4 rfl rfl rfl ?_
    refine a_eSN1 rfl lX2_61 mo_X11_at (sp_X11_at rfl) rfl rfl rfl rfl ?_
    refine a_s5 rfl rfl rfl rfl rfl rfl ?_
    refine a_l5 rfl rfl rfl ?_
    refine a_s rfl rfl ?_
    refine a_ic_ge rfl (fun c43 => ?_) (fun c43 => ?_)
    · refine a_l5 rfl rfl rfl ?_
      refine a_s rfl rfl ?_
      refine a_ic_ne rfl (fun c91 => ?_) (fun c91 => ?_)
      · refine a_i2 rfl rfl rfl ?_
        refine a_l0 rfl rfl rfl ?_
        refine a_getq rfl gfX2_34_2 rfl (rfl) ?_
        refine a_l2 rfl rfl rfl ?_
        refine a_s rfl rfl ?_
        refine a_s rfl rfl ?_
        refine a_l5 rfl rfl rfl ?_
        refine a_l0 rfl rfl rfl ?_
        refine a_getq rfl gfX2_34_2 rfl (rfl) ?_
        refine a_l2 rfl rfl rfl ?_
        refine a_s rfl rfl ?_
        refine a_s rfl rfl ?_
        refine a_eSN1 rfl lX2_61 mo_X11_at (sp_X11_at rfl) rfl rfl rfl rfl ?_
        refine a_l0 rfl rfl rfl ?_
        refine a_getq rfl gfX2_34_2 rfl (rfl) ?_
        refine a_l2 rfl rfl rfl ?_
        refine a_eSN1 rfl lX2_61 mo_X11_at (sp_X11_at rfl) rfl rfl rfl rfl ?_
        refine a_gS rfl lX2_108 mo_X2_joined (q_X2_joined) rfl rfl rfl rfl (fun v' h' hv => ?_)
        obtain ⟨⟨v1, rfl⟩, rfl⟩ := hv
        refine a_eSN0 rfl lX2_44 mo_X11_setAt (sp_X11_setAt rfl) rfl rfl rfl rfl ?_
        refine a_ren (P := Fm sQ I) (Fm.tr (fh21) (Fm.st (Fm.rf (s := sQ)) (fun _ => rfl))) (fun I2 f3 => ?_)
        refine a_i4 rfl rfl rfl ?_
        refine a_goto rfl ?_
        exact ih21 _ _ _ _ c24 ⟨_, _, _, rfl, rfl, f3⟩ ⟨rfl, rfl, rfl, rfl, rfl, trivial⟩
      · refine a_l0 rfl rfl rfl ?_
        refine a_getq rfl gfX2_34_2 rfl (rfl) ?_
        refine a_l2 rfl rfl rfl ?_
        refine a_s rfl rfl ?_
        refine a_s rfl rfl ?_
        refine a_s rfl rfl ?_
        refine a_l0 rfl rfl rfl ?_
        refine a_getq rfl gfX2_34_2 rfl (rfl) ?_
        refine a_l2 rfl rfl rfl ?_
        refine a_s rfl rfl ?_
        refine a_s rfl rfl ?_
        refine a_eSN1 rfl lX2_61 mo_X11_at (sp_X11_at rfl) rfl rfl rfl rfl ?_
        refine a_s rfl rfl ?_
        refine a_eSN0 rfl lX2_44 mo_X11_setAt (sp_X11_setAt rfl) rfl rfl rfl rfl ?_
        refine a_ren (P := Fm sQ I) (Fm.tr (fh21) (Fm.st (Fm.rf (s := sQ)) (fun _ => rfl))) (fun I4 f5 => ?_)
        refine a_goto rfl ?_
        refine a_i4 rfl rfl rfl ?_
        refine a_goto rfl ?_
        exact ih21 _ _ _ _ c24 ⟨_, _, _, rfl, rfl, f5⟩ ⟨rfl, rfl, rfl, rfl, rfl, trivial⟩
    · refine a_l0 rfl rfl rfl ?_
      refine a_getq rfl gfX2_34_2 rfl (rfl) ?_
      refine a_l2 rfl rfl rfl ?_
      refine a_l5 rfl rfl rfl ?_
      refine a_s rfl rfl ?_
      refine a_ic_ge rfl (fun c56 => ?_) (fun c56 => ?_)
      · refine a_l0 rfl rfl rfl ?_
        refine a_getq rfl gfX2_31_2 rfl (rfl) ?_
        refine a_l5 rfl rfl rfl ?_
        refine a_s rfl rfl ?_
        refine a_s rfl rfl ?_
        refine a_eSN1 rfl lX2_61 mo_X11_at (sp_X11_at rfl) rfl rfl rfl rfl ?_
        refine a_eSN0 rfl lX2_44 mo_X11_setAt (sp_X11_setAt rfl) rfl rfl rfl rfl ?_
        refine a_ren (P := Fm sQ I) (Fm.tr (fh21) (Fm.st (Fm.rf (s := sQ)) (fun _ => rfl))) (fun I6 f7 => ?_)
        refine a_i2 rfl rfl rfl ?_
        refine a_goto rfl ?_
        refine a_i4 rfl rfl rfl ?_
        refine a_goto rfl ?_
        exact ih21 _ _ _ _ c24 ⟨_, _, _, rfl, rfl, f7⟩ ⟨rfl, rfl, rfl, rfl, rfl, trivial⟩
      · refine a_l5 rfl rfl rfl ?_
        refine a_goto rfl ?_
        refine a_eSN0 rfl lX2_44 mo_X11_setAt (sp_X11_setAt rfl) rfl rfl rfl rfl ?_
        refine a_ren (P := Fm sQ I) (Fm.tr (fh21) (Fm.st (Fm.rf (s := sQ)) (fun _ => rfl))) (fun I8 f9 => ?_)
        refine a_i2 rfl rfl rfl ?_
        refine a_goto rfl ?_
        refine a_i4 rfl rfl rfl ?_
        refine a_goto rfl ?_
        exact ih21 _ _ _ _ c24 ⟨_, _, _, rfl, rfl, f9⟩ ⟨rfl, rfl, rfl, rfl, rfl, trivial⟩
theorem q_X2_sumOfLines_246 {S : aS} {I : Nat → Nat → Int32} {L : Nat → Nat → Int64} {w1 w2 t : Nat} {x1 : Int32} : Sp S m_X2_sumOfLines 14 0 0 [.ref 246, .int x1] (hp I L w1 w2 t) (QR (Fm sQ I) isI L w1 w2 t) nX := by
  refine Sp_of ok_X2_sumOfLines rfl rfl ?_
  show AW S m_X2_sumOfLines 14 _ _ 0 0 0 [some (.ref 246), some (.int x1), none, none] [] (hp I L w1 w2 t)
  refine a_s rfl rfl ?_
  refine a_s2 rfl rfl rfl rfl rfl rfl ?_
  refine a_s rfl rfl ?_
  refine a_s3 rfl rfl rfl rfl rfl rfl ?_
  refine a_cnt (j0 := 0) (fun j ls h => ∃ a0, ∃ I', ls = [some (.ref 246), some (.int x1), some (.int a0), some (.int (nI j))] ∧ h = hp I' L w1 w2 t ∧ Fm sQ I I') (by decide) ⟨_, _, rfl, rfl, Fm.rf⟩ ⟨rfl, rfl, rfl, rfl, trivial⟩ ?_
  rintro j4 _ _ hj4 ⟨a0_4, Ih4, rfl, rfl, fh4⟩ ih4
  refine a_l3 rfl rfl rfl ?_
  refine a_l0 rfl rfl rfl ?_
  refine a_geti rfl gfX2_11_2 rfl ?_
  refine a_ic_ge rfl (fun c9 => ?_) (fun c9 => ?_)
  · refine a_l2 rfl rfl rfl ?_
    exact a_iret rfl rfl ⟨⟨_, rfl⟩, _, rfl, fh4⟩
  · refine a_l0 rfl rfl rfl ?_
    refine a_getq rfl gfX2_15_2 rfl (rfl) ?_
    refine a_l3 rfl rfl rfl ?_
    refine a_eSN1 rfl lX2_61 mo_X11_at (sp_X11_at rfl) rfl rfl rfl rfl ?_
    refine a_l1 rfl rfl rfl ?_
    refine a_ic_ne rfl (fun c21 => ?_) (fun c21 => ?_)
    · refine a_i3 rfl rfl rfl ?_
      refine a_goto rfl ?_
      exact ih4 _ _ _ _ c9 ⟨_, _, rfl, rfl, fh4⟩ ⟨rfl, rfl, rfl, nS _, trivial⟩
    · refine a_l0 rfl rfl rfl ?_
      refine a_l3 rfl rfl rfl ?_
      refine a_gV rfl lX2_105 mo_X2_holds (q_X2_holds_246) rfl rfl rfl ⟨2, _, rfl, rfl, rfl⟩ rfl (fun v' h' hv => ?_)
      obtain ⟨⟨v1, rfl⟩, I2, rfl, f3⟩ := hv
      replace f3 : Fm sQ I I2 := Fm.tr (fh4) (f3)
      refine a_if_eq rfl (fun c29 => ?_) (fun c29 => ?_)
      · refine a_i3 rfl rfl rfl ?_
        refine a_goto rfl ?_
        exact ih4 _ _ _ _ c9 ⟨_, _, rfl, rfl, f3⟩ ⟨rfl, rfl, rfl, nS _, trivial⟩
      · refine a_l2 rfl rfl rfl ?_
        refine a_l0 rfl rfl rfl ?_
        refine a_getq rfl gfX2_19_2 rfl (rfl) ?_
        refine a_l3 rfl rfl rfl ?_
        refine a_eSN1 rfl lX2_61 mo_X11_at (sp_X11_at rfl) rfl rfl rfl rfl ?_
        refine a_s rfl rfl ?_
        refine a_s2 rfl rfl rfl rfl rfl rfl ?_
        refine a_i3 rfl rfl rfl ?_
        refine a_goto rfl ?_
        exact ih4 _ _ _ _ c9 ⟨_, _, rfl, rfl, f3⟩ ⟨rfl, rfl, rfl, nS _, trivial⟩
theorem q_X2_shameOf_246_235 {S : aS} {I : Nat → Nat → Int32} {L : Nat → Nat → Int64} {w1 w2 t : Nat} {x2 : Int32} : Sp S m_X2_shameOf 15 0 0 [.ref 246, .ref 235, .int x2] (hp I L w1 w2 t) (QR (Fm sQ I) isI L w1 w2 t) nX := by
  refine Sp_of ok_X2_shameOf rfl rfl ?_
  show AW S m_X2_shameOf 15 _ _ 0 0 0 [some (.ref 246), some (.ref 235), some (.int x2)] [] (hp I L w1 w2 t)
  refine a_l0 rfl rfl rfl ?_
  refine a_l1 rfl rfl rfl ?_
  refine a_l2 rfl rfl rfl ?_
  refine a_gV rfl lX2_48 mo_X2_takeParts (q_X2_takeParts_246_235) rfl rfl rfl ⟨2, _, rfl, rfl, rfl⟩ rfl (fun v' h' hv => ?_)
  obtain ⟨rfl, I2, rfl, f3⟩ := hv
  refine a_s rfl rfl ?_
  refine a_l1 rfl rfl rfl ?_
  refine a_getq rfl gfX2_56_5 rfl (rfl) ?_
  refine a_l2 rfl rfl rfl ?_
  refine a_eSN1 rfl lX2_61 mo_X11_at (sp_X11_at rfl) rfl rfl rfl rfl ?_
  refine a_l0 rfl rfl rfl ?_
  refine a_s rfl rfl ?_
  refine a_gV rfl lX2_52 mo_X2_sumOfLines (q_X2_sumOfLines_246) rfl rfl rfl ⟨2, _, rfl, rfl, rfl⟩ rfl (fun v' h' hv => ?_)
  obtain ⟨⟨v4, rfl⟩, I5, rfl, f6⟩ := hv
  replace f6 : Fm sQ I I5 := Fm.tr (f3) (f6)
  refine a_s rfl rfl ?_
  refine a_l0 rfl rfl rfl ?_
  refine a_s rfl rfl ?_
  refine a_gV rfl lX2_52 mo_X2_sumOfLines (q_X2_sumOfLines_246) rfl rfl rfl ⟨2, _, rfl, rfl, rfl⟩ rfl (fun v' h' hv => ?_)
  obtain ⟨⟨v7, rfl⟩, I8, rfl, f9⟩ := hv
  replace f9 : Fm sQ I I8 := Fm.tr (f6) (f9)
  refine a_s rfl rfl ?_
  refine a_max rfl lX2_65 mj_max rfl rfl ?_
  exact a_iret rfl rfl ⟨⟨_, rfl⟩, _, rfl, f9⟩
theorem q_X2_shameOfSet_246_235 {S : aS} {I : Nat → Nat → Int32} {L : Nat → Nat → Int64} {w1 w2 t : Nat} {x2 : Int32} : Sp S m_X2_shameOfSet 16 0 0 [.ref 246, .ref 235, .int x2] (hp I L w1 w2 t) (QR (Fm sQ I) isI L w1 w2 t) nX := by
  refine Sp_of ok_X2_shameOfSet rfl rfl ?_
  show AW S m_X2_shameOfSet 16 _ _ 0 0 0 [some (.ref 246), some (.ref 235), some (.int x2), none, none] [] (hp I L w1 w2 t)
  refine a_s rfl rfl ?_
  refine a_s3 rfl rfl rfl rfl rfl rfl ?_
  refine a_s rfl rfl ?_
  refine a_s4 rfl rfl rfl rfl rfl rfl ?_
  refine a_cnt (j0 := 0) (fun j ls h => ∃ a0, ∃ I', ls = [some (.ref 246), some (.ref 235), some (.int x2), some (.int a0), some (.int (nI j))] ∧ h = hp I' L w1 w2 t ∧ Fm sQ I I') (by decide) ⟨_, _, rfl, rfl, Fm.rf⟩ ⟨rfl, rfl, rfl, rfl, rfl, trivial⟩ ?_
  rintro j5 _ _ hj5 ⟨a0_5, Ih5, rfl, rfl, fh5⟩ ih5
  refine a_l4 rfl rfl rfl ?_
  refine a_l1 rfl rfl rfl ?_
  refine a_geti rfl gfX2_71_5 rfl ?_
  refine a_ic_ge rfl (fun c11 => ?_) (fun c11 => ?_)
  · refine a_l3 rfl rfl rfl ?_
    exact a_iret rfl rfl ⟨⟨_, rfl⟩, _, rfl, fh5⟩
  · refine a_l2 rfl rfl rfl ?_
    refine a_l4 rfl rfl rfl ?_
    refine a_eSN1 rfl lX2_74 mo_X11_has (sp_X11_has) rfl rfl rfl rfl ?_
    refine a_if_eq rfl (fun c20 => ?_) (fun c20 => ?_)
    · refine a_i4 rfl rfl rfl ?_
      refine a_goto rfl ?_
      exact ih5 _ _ _ _ c11 ⟨_, _, rfl, rfl, fh5⟩ ⟨rfl, rfl, rfl, rfl, nS _, trivial⟩
    · refine a_l3 rfl rfl rfl ?_
      refine a_l0 rfl rfl rfl ?_
      refine a_l1 rfl rfl rfl ?_
      refine a_l4 rfl rfl rfl ?_
      refine a_gV rfl lX2_78 mo_X2_shameOf (q_X2_shameOf_246_235) rfl rfl rfl ⟨2, _, rfl, rfl, rfl⟩ rfl (fun v' h' hv => ?_)
      obtain ⟨⟨v1, rfl⟩, I2, rfl, f3⟩ := hv
      replace f3 : Fm sQ I I2 := Fm.tr (fh5) (f3)
      refine a_s rfl rfl ?_
      refine a_s3 rfl rfl rfl rfl rfl rfl ?_
      refine a_i4 rfl rfl rfl ?_
      refine a_goto rfl ?_
      exact ih5 _ _ _ _ c11 ⟨_, _, rfl, rfl, f3⟩ ⟨rfl, rfl, rfl, rfl, nS _, trivial⟩
theorem q_X2_growthOf_246_235 {S : aS} {I : Nat → Nat → Int32} {L : Nat → Nat → Int64} {w1 w2 t : Nat} {x2 : Int32} : Sp S m_X2_growthOf 15 0 0 [.ref 246, .ref 235, .int x2] (hp I L w1 w2 t) (QR (Fm sQ I) isI L w1 w2 t) nX := by
  refine Sp_of ok_X2_growthOf rfl rfl ?_
  show AW S m_X2_growthOf 15 _ _ 0 0 0 [some (.ref 246), some (.ref 235), some (.int x2)] [] (hp I L w1 w2 t)
  refine a_l0 rfl rfl rfl ?_
  refine a_l1 rfl rfl rfl ?_
  refine a_l2 rfl rfl rfl ?_
  refine a_gV rfl lX2_48 mo_X2_takeParts (q_X2_takeParts_246_235) rfl rfl rfl ⟨2, _, rfl, rfl, rfl⟩ rfl (fun v' h' hv => ?_)
  obtain ⟨rfl, I2, rfl, f3⟩ := hv
  refine a_l0 rfl rfl rfl ?_
  refine a_s rfl rfl ?_
  refine a_gV rfl lX2_52 mo_X2_sumOfLines (q_X2_sumOfLines_246) rfl rfl rfl ⟨2, _, rfl, rfl, rfl⟩ rfl (fun v' h' hv => ?_)
  obtain ⟨⟨v4, rfl⟩, I5, rfl, f6⟩ := hv
  replace f6 : Fm sQ I I5 := Fm.tr (f3) (f6)
  exact a_iret rfl rfl ⟨⟨_, rfl⟩, _, rfl, f6⟩
theorem q_X5_isWaiting_257 {S : aS} {I : Nat → Nat → Int32} {L : Nat → Nat → Int64} {w1 w2 t : Nat} {x1 : Int32} : Sp S m_X5_isWaiting 13 0 0 [.ref 257, .int x1] (hp I L w1 w2 t) (QE isZ (hp I L w1 w2 t)) nX := by
  refine Sp_of ok_X5_isWaiting rfl rfl ?_
  show AW S m_X5_isWaiting 13 _ _ 0 0 0 [some (.ref 257), some (.int x1)] [] (hp I L w1 w2 t)
  refine a_l1 rfl rfl rfl ?_
  refine a_if_lt rfl (fun c1 => ?_) (fun c1 => ?_)
  · refine a_s rfl rfl ?_
    exact a_zret rfl rfl rfl ⟨⟨false, rfl⟩, rfl⟩
  · refine a_l1 rfl rfl rfl ?_
    refine a_l0 rfl rfl rfl ?_
    refine a_geti rfl gfX5_63_5 rfl ?_
    refine a_ic_ge rfl (fun c9 => ?_) (fun c9 => ?_)
    · refine a_s rfl rfl ?_
      exact a_zret rfl rfl rfl ⟨⟨false, rfl⟩, rfl⟩
    · refine a_l0 rfl rfl rfl ?_
      refine a_getq rfl gfX5_33_5 rfl (rfl) ?_
      refine a_l1 rfl rfl rfl ?_
      refine a_eSN1 rfl lX5_86 mo_X11_at (sp_X11_at rfl) rfl rfl rfl rfl ?_
      refine a_if_ne rfl (fun c20 => ?_) (fun c20 => ?_)
      · refine a_s rfl rfl ?_
        exact a_zret rfl rfl rfl ⟨⟨false, rfl⟩, rfl⟩
      · refine a_s rfl rfl ?_
        refine a_goto rfl ?_
        exact a_zret rfl rfl rfl ⟨⟨true, rfl⟩, rfl⟩
theorem q_X5_growOlder_257 {S : aS} {I : Nat → Nat → Int32} {L : Nat → Nat → Int64} {w1 w2 t : Nat} {x1 : Int32} : Sp S m_X5_growOlder 13 0 0 [.ref 257, .int x1] (hp I L w1 w2 t) (QR (Fm sQ I) isV L w1 w2 t) nX := by
  refine Sp_of ok_X5_growOlder rfl rfl ?_
  show AW S m_X5_growOlder 13 _ _ 0 0 0 [some (.ref 257), some (.int x1)] [] (hp I L w1 w2 t)
  refine a_l0 rfl rfl rfl ?_
  refine a_getq rfl gfX5_24_5 rfl (rfl) ?_
  refine a_l1 rfl rfl rfl ?_
  refine a_s rfl rfl ?_
  refine a_l0 rfl rfl rfl ?_
  refine a_getq rfl gfX5_24_5 rfl (rfl) ?_
  refine a_l1 rfl rfl rfl ?_
  refine a_eSN1 rfl lX5_86 mo_X11_at (sp_X11_at rfl) rfl rfl rfl rfl ?_
  refine a_s rfl rfl ?_
  refine a_s rfl rfl ?_
  refine a_min rfl lX5_127 mj_min rfl rfl ?_
  refine a_eSN0 rfl lX5_82 mo_X11_setAt (sp_X11_setAt rfl) rfl rfl rfl rfl ?_
  refine a_ren (P := Fm sQ I) (Fm.st (Fm.rf (s := sQ)) (fun _ => rfl)) (fun I1 f2 => ?_)
  exact a_vret rfl rfl ⟨rfl, _, rfl, f2⟩
theorem q_X5_leansFreely_257 {S : aS} {I : Nat → Nat → Int32} {L : Nat → Nat → Int64} {w1 w2 t : Nat} {x1 : Int32} : Sp S m_X5_leansFreely 13 0 0 [.ref 257, .int x1] (hp I L w1 w2 t) (QE isZ (hp I L w1 w2 t)) nX := by
  refine Sp_of ok_X5_leansFreely rfl rfl ?_
  show AW S m_X5_leansFreely 13 _ _ 0 0 0 [some (.ref 257), some (.int x1), none] [] (hp I L w1 w2 t)
  refine a_l0 rfl rfl rfl ?_
  refine a_getq rfl gfX5_30_5 rfl (rfl) ?_
  refine a_l1 rfl rfl rfl ?_
  refine a_eSN1 rfl lX5_86 mo_X11_at (sp_X11_at rfl) rfl rfl rfl rfl ?_
  refine a_s2 rfl rfl rfl rfl rfl rfl ?_
  refine a_l2 rfl rfl rfl ?_
  refine a_s rfl rfl ?_
  refine a_ic_eq rfl (fun c11 => ?_) (fun c11 => ?_)
  · refine a_s rfl rfl ?_
    refine a_goto rfl ?_
    exact a_zret rfl rfl rfl ⟨⟨true, rfl⟩, rfl⟩
  · refine a_l0 rfl rfl rfl ?_
    refine a_getq rfl gfX5_33_5 rfl (rfl) ?_
    refine a_l2 rfl rfl rfl ?_
    refine a_eSN1 rfl lX5_86 mo_X11_at (sp_X11_at rfl) rfl rfl rfl rfl ?_
    refine a_s rfl rfl ?_
    refine a_ic_ne rfl (fun c23 => ?_) (fun c23 => ?_)
    · refine a_s rfl rfl ?_
      exact a_zret rfl rfl rfl ⟨⟨false, rfl⟩, rfl⟩
    · refine a_s rfl rfl ?_
      refine a_goto rfl ?_
      exact a_zret rfl rfl rfl ⟨⟨true, rfl⟩, rfl⟩
theorem q_X2_takeParts_246_257 {S : aS} {I : Nat → Nat → Int32} {L : Nat → Nat → Int64} {w1 w2 t : Nat} {x2 : Int32} : Sp S m_X2_takeParts 14 0 0 [.ref 246, .ref 257, .int x2] (hp I L w1 w2 t) (QR (Fm sQ I) isV L w1 w2 t) nX := by
  refine Sp_of ok_X2_takeParts rfl rfl ?_
  show AW S m_X2_takeParts 14 _ _ 0 0 0 [some (.ref 246), some (.ref 257), some (.int x2), none, none] [] (hp I L w1 w2 t)
  refine a_l1 rfl rfl rfl ?_
  refine a_getq rfl gfX2_82_5 rfl (rfl) ?_
  refine a_l2 rfl rfl rfl ?_
  refine a_eSN1 rfl lX2_61 mo_X11_at (sp_X11_at rfl) rfl rfl rfl rfl ?_
  refine a_s3 rfl rfl rfl rfl rfl rfl ?_
  refine a_l1 rfl rfl rfl ?_
  refine a_getq rfl gfX2_85_5 rfl (rfl) ?_
  refine a_l2 rfl rfl rfl ?_
  refine a_eSN1 rfl lX2_61 mo_X11_at (sp_X11_at rfl) rfl rfl rfl rfl ?_
  refine a_s4 rfl rfl rfl rfl rfl rfl ?_
  refine a_l0 rfl rfl rfl ?_
  refine a_s rfl rfl ?_
  refine a_l2 rfl rfl rfl ?_
  refine a_gV rfl lX2_88 mo_X2_setPart (q_X2_setPart_246) rfl rfl rfl ⟨2, _, rfl, rfl, rfl⟩ rfl (fun v' h' hv => ?_)
  obtain ⟨rfl, I2, rfl, f3⟩ := hv
  refine a_l0 rfl rfl rfl ?_
  refine a_s rfl rfl ?_
  refine a_l1 rfl rfl rfl ?_
  refine a_getq rfl gfX2_92_5 rfl (rfl) ?_
  refine a_l2 rfl rfl rfl ?_
  refine a_eSN1 rfl lX2_61 mo_X11_at (sp_X11_at rfl) rfl rfl rfl rfl ?_
  refine a_gV rfl lX2_88 mo_X2_setPart (q_X2_setPart_246) rfl rfl rfl ⟨2, _, rfl, rfl, rfl⟩ rfl (fun v' h' hv => ?_)
  obtain ⟨rfl, I5, rfl, f6⟩ := hv
  replace f6 : Fm sQ I I5 := Fm.tr (f3) (f6)
  refine a_l0 rfl rfl rfl ?_
  refine a_s rfl rfl ?_
  refine a_l1 rfl rfl rfl ?_
  refine a_getq rfl gfX2_56_5 rfl (rfl) ?_
  refine a_l2 rfl rfl rfl ?_
  refine a_eSN1 rfl lX2_61 mo_X11_at (sp_X11_at rfl) rfl rfl rfl rfl ?_
  refine a_gV rfl lX2_88 mo_X2_setPart (q_X2_setPart_246) rfl rfl rfl ⟨2, _, rfl, rfl, rfl⟩ rfl (fun v' h' hv => ?_)
  obtain ⟨rfl, I8, rfl, f9⟩ := hv
  replace f9 : Fm sQ I I8 := Fm.tr (f6) (f9)
  refine a_l0 rfl rfl rfl ?_
  refine a_s rfl rfl ?_
  refine a_l3 rfl rfl rfl ?_
  refine a_s rfl rfl ?_
  refine a_ic_ne rfl (fun c63 => ?_) (fun c63 => ?_)
  · refine a_l3 rfl rfl rfl ?_
    refine a_gV rfl lX2_88 mo_X2_setPart (q_X2_setPart_246) rfl rfl rfl ⟨2, _, rfl, rfl, rfl⟩ rfl (fun v' h' hv => ?_)
    obtain ⟨rfl, I11, rfl, f12⟩ := hv
    replace f12 : Fm sQ I I11 := Fm.tr (f9) (f12)
    refine a_l0 rfl rfl rfl ?_
    refine a_s rfl rfl ?_
    refine a_l4 rfl rfl rfl ?_
    refine a_gV rfl lX2_88 mo_X2_setPart (q_X2_setPart_246) rfl rfl rfl ⟨2, _, rfl, rfl, rfl⟩ rfl (fun v' h' hv => ?_)
    obtain ⟨rfl, I14, rfl, f15⟩ := hv
    replace f15 : Fm sQ I I14 := Fm.tr (f12) (f15)
    refine a_l0 rfl rfl rfl ?_
    refine a_s rfl rfl ?_
    refine a_l1 rfl rfl rfl ?_
    refine a_getq rfl gfX2_95_5 rfl (rfl) ?_
    refine a_l4 rfl rfl rfl ?_
    refine a_eSN1 rfl lX2_61 mo_X11_at (sp_X11_at rfl) rfl rfl rfl rfl ?_
    refine a_gV rfl lX2_88 mo_X2_setPart (q_X2_setPart_246) rfl rfl rfl ⟨2, _, rfl, rfl, rfl⟩ rfl (fun v' h' hv => ?_)
    obtain ⟨rfl, I17, rfl, f18⟩ := hv
    replace f18 : Fm sQ I I17 := Fm.tr (f15) (f18)
    refine a_l0 rfl rfl rfl ?_
    refine a_s rfl rfl ?_
    refine a_l1 rfl rfl rfl ?_
    refine a_geti rfl gfX2_98_5 rfl ?_
    refine a_gV rfl lX2_88 mo_X2_setPart (q_X2_setPart_246) rfl rfl rfl ⟨2, _, rfl, rfl, rfl⟩ rfl (fun v' h' hv => ?_)
    obtain ⟨rfl, I20, rfl, f21⟩ := hv
    replace f21 : Fm sQ I I20 := Fm.tr (f18) (f21)
    refine a_l0 rfl rfl rfl ?_
    refine a_s rfl rfl ?_
    refine a_l1 rfl rfl rfl ?_
    refine a_l2 rfl rfl rfl ?_
    refine a_gV rfl lX2_101 mo_X5_leansFreely (q_X5_leansFreely_257) rfl rfl rfl ⟨5, _, rfl, rfl, rfl⟩ rfl (fun v' h' hv => ?_)
    obtain ⟨⟨v22, rfl⟩, rfl⟩ := hv
    refine a_if_eq rfl (fun c120 => ?_) (fun c120 => ?_)
    · refine a_s rfl rfl ?_
      refine a_gV rfl lX2_88 mo_X2_setPart (q_X2_setPart_246) rfl rfl rfl ⟨2, _, rfl, rfl, rfl⟩ rfl (fun v' h' hv => ?_)
      obtain ⟨rfl, I24, rfl, f25⟩ := hv
      replace f25 : Fm sQ I I24 := Fm.tr (f21) (f25)
      refine a_l0 rfl rfl rfl ?_
      refine a_s rfl rfl ?_
      refine a_l1 rfl rfl rfl ?_
      refine a_getq rfl gfX2_56_5 rfl (rfl) ?_
      refine a_l2 rfl rfl rfl ?_
      refine a_eSN1 rfl lX2_61 mo_X11_at (sp_X11_at rfl) rfl rfl rfl rfl ?_
      refine a_s rfl rfl ?_
      refine a_ic_le rfl (fun c145 => ?_) (fun c145 => ?_)
      · refine a_s rfl rfl ?_
        refine a_gV rfl lX2_88 mo_X2_setPart (q_X2_setPart_246) rfl rfl rfl ⟨2, _, rfl, rfl, rfl⟩ rfl (fun v' h' hv => ?_)
        obtain ⟨rfl, I27, rfl, f28⟩ := hv
        replace f28 : Fm sQ I I27 := Fm.tr (f25) (f28)
        exact a_vret rfl rfl ⟨rfl, _, rfl, f28⟩
      · refine a_s rfl rfl ?_
        refine a_goto rfl ?_
        refine a_gV rfl lX2_88 mo_X2_setPart (q_X2_setPart_246) rfl rfl rfl ⟨2, _, rfl, rfl, rfl⟩ rfl (fun v' h' hv => ?_)
        obtain ⟨rfl, I30, rfl, f31⟩ := hv
        replace f31 : Fm sQ I I30 := Fm.tr (f25) (f31)
        exact a_vret rfl rfl ⟨rfl, _, rfl, f31⟩
    · refine a_s rfl rfl ?_
      refine a_goto rfl ?_
      refine a_gV rfl lX2_88 mo_X2_setPart (q_X2_setPart_246) rfl rfl rfl ⟨2, _, rfl, rfl, rfl⟩ rfl (fun v' h' hv => ?_)
      obtain ⟨rfl, I33, rfl, f34⟩ := hv
      replace f34 : Fm sQ I I33 := Fm.tr (f21) (f34)
      refine a_l0 rfl rfl rfl ?_
      refine a_s rfl rfl ?_
      refine a_l1 rfl rfl rfl ?_
      refine a_getq rfl gfX2_56_5 rfl (rfl) ?_
      refine a_l2 rfl rfl rfl ?_
      refine a_eSN1 rfl lX2_61 mo_X11_at (sp_X11_at rfl) rfl rfl rfl rfl ?_
      refine a_s rfl rfl ?_
      refine a_ic_le rfl (fun c145 => ?_) (fun c145 => ?_)
      · refine a_s rfl rfl ?_
        refine a_gV rfl lX2_88 mo_X2_setPart (q_X2_setPart_246) rfl rfl rfl ⟨2, _, rfl, rfl, rfl⟩ rfl (fun v' h' hv => ?_)
        obtain ⟨rfl, I36, rfl, f37⟩ := hv
        replace f37 : Fm sQ I I36 := Fm.tr (f34) (f37)
        exact a_vret rfl rfl ⟨rfl, _, rfl, f37⟩
      · refine a_s rfl rfl ?_
        refine a_goto rfl ?_
        refine a_gV rfl lX2_88 mo_X2_setPart (q_X2_setPart_246) rfl rfl rfl ⟨2, _, rfl, rfl, rfl⟩ rfl (fun v' h' hv => ?_)
        obtain ⟨rfl, I39, rfl, f40⟩ := hv
        replace f40 : Fm sQ I I39 := Fm.tr (f34) (f40)
        exact a_vret rfl rfl ⟨rfl, _, rfl, f40⟩
  · refine a_s rfl rfl ?_
    refine a_goto rfl ?_
    refine a_gV rfl lX2_88 mo_X2_setPart (q_X2_setPart_246) rfl rfl rfl ⟨2, _, rfl, rfl, rfl⟩ rfl (fun v' h' hv => ?_)
    obtain ⟨rfl, I42, rfl, f43⟩ := hv
    replace f43 : Fm sQ I I42 := Fm.tr (f9) (f43)
    refine a_l0 rfl rfl rfl ?_
    refine a_s rfl rfl ?_
    refine a_l4 rfl rfl rfl ?_
    refine a_gV rfl lX2_88 mo_X2_setPart (q_X2_setPart_246) rfl rfl rfl ⟨2, _, rfl, rfl, rfl⟩ rfl (fun v' h' hv => ?_)
    obtain ⟨rfl, I45, rfl, f46⟩ := hv
    replace f46 : Fm sQ I I45 := Fm.tr (f43) (f46)
    refine a_l0 rfl rfl rfl ?_
    refine a_s rfl rfl ?_
    refine a_l1 rfl rfl rfl ?_
    refine a_getq rfl gfX2_95_5 rfl (rfl) ?_
    refine a_l4 rfl rfl rfl ?_
    refine a_eSN1 rfl lX2_61 mo_X11_at (sp_X11_at rfl) rfl rfl rfl rfl ?_
    refine a_gV rfl lX2_88 mo_X2_setPart (q_X2_setPart_246) rfl rfl rfl ⟨2, _, rfl, rfl, rfl⟩ rfl (fun v' h' hv => ?_)
    obtain ⟨rfl, I48, rfl, f49⟩ := hv
    replace f49 : Fm sQ I I48 := Fm.tr (f46) (f49)
    refine a_l0 rfl rfl rfl ?_
    refine a_s rfl rfl ?_
    refine a_l1 rfl rfl rfl ?_
    refine a_geti rfl gfX2_98_5 rfl ?_
    refine a_gV rfl lX2_88 mo_X2_setPart (q_X2_setPart_246) rfl rfl rfl ⟨2, _, rfl, rfl, rfl⟩ rfl (fun v' h' hv => ?_)
    obtain ⟨rfl, I51, rfl, f52⟩ := hv
    replace f52 : Fm sQ I I51 := Fm.tr (f49) (f52)
    refine a_l0 rfl rfl rfl ?_
    refine a_s rfl rfl ?_
    refine a_l1 rfl rfl rfl ?_
    refine a_l2 rfl rfl rfl ?_
    refine a_gV rfl lX2_101 mo_X5_leansFreely (q_X5_leansFreely_257) rfl rfl rfl ⟨5, _, rfl, rfl, rfl⟩ rfl (fun v' h' hv => ?_)
    obtain ⟨⟨v53, rfl⟩, rfl⟩ := hv
    refine a_if_eq rfl (fun c120 => ?_) (fun c120 => ?_)
    · refine a_s rfl rfl ?_
      refine a_gV rfl lX2_88 mo_X2_setPart (q_X2_setPart_246) rfl rfl rfl ⟨2, _, rfl, rfl, rfl⟩ rfl (fun v' h' hv => ?_)
      obtain ⟨rfl, I55, rfl, f56⟩ := hv
      replace f56 : Fm sQ I I55 := Fm.tr (f52) (f56)
      refine a_l0 rfl rfl rfl ?_
      refine a_s rfl rfl ?_
      refine a_l1 rfl rfl rfl ?_
      refine a_getq rfl gfX2_56_5 rfl (rfl) ?_
      refine a_l2 rfl rfl rfl ?_
      refine a_eSN1 rfl lX2_61 mo_X11_at (sp_X11_at rfl) rfl rfl rfl rfl ?_
      refine a_s rfl rfl ?_
      refine a_ic_le rfl (fun c145 => ?_) (fun c145 => ?_)
      · refine a_s rfl rfl ?_
        refine a_gV rfl lX2_88 mo_X2_setPart (q_X2_setPart_246) rfl rfl rfl ⟨2, _, rfl, rfl, rfl⟩ rfl (fun v' h' hv => ?_)
        obtain ⟨rfl, I58, rfl, f59⟩ := hv
        replace f59 : Fm sQ I I58 := Fm.tr (f56) (f59)
        exact a_vret rfl rfl ⟨rfl, _, rfl, f59⟩
      · refine a_s rfl rfl ?_
        refine a_goto rfl ?_
        refine a_gV rfl lX2_88 mo_X2_setPart (q_X2_setPart_246) rfl rfl rfl ⟨2, _, rfl, rfl, rfl⟩ rfl (fun v' h' hv => ?_)
        obtain ⟨rfl, I61, rfl, f62⟩ := hv
        replace f62 : Fm sQ I I61 := Fm.tr (f56) (f62)
        exact a_vret rfl rfl ⟨rfl, _, rfl, f62⟩
    · refine a_s rfl rfl ?_
      refine a_goto rfl ?_
      refine a_gV rfl lX2_88 mo_X2_setPart (q_X2_setPart_246) rfl rfl rfl ⟨2, _, rfl, rfl, rfl⟩ rfl (fun v' h' hv => ?_)
      obtain ⟨rfl, I64, rfl, f65⟩ := hv
      replace f65 : Fm sQ I I64 := Fm.tr (f52) (f65)
      refine a_l0 rfl rfl rfl ?_
      refine a_s rfl rfl ?_
      refine a_l1 rfl rfl rfl ?_
      refine a_getq rfl gfX2_56_5 rfl (rfl) ?_
      refine a_l2 rfl rfl rfl ?_
      refine a_eSN1 rfl lX2_61 mo_X11_at (sp_X11_at rfl) rfl rfl rfl rfl ?_
      refine a_s rfl rfl ?_
      refine a_ic_le rfl (fun c145 => ?_) (fun c145 => ?_)
      · refine a_s rfl rfl ?_
        refine a_gV rfl lX2_88 mo_X2_setPart (q_X2_setPart_246) rfl rfl rfl ⟨2, _, rfl, rfl, rfl⟩ rfl (fun v' h' hv => ?_)
        obtain ⟨rfl, I67, rfl, f68⟩ := hv
        replace f68 : Fm sQ I I67 := Fm.tr (f65) (f68)
        exact a_vret rfl rfl ⟨rfl, _, rfl, f68⟩
      · refine a_s rfl rfl ?_
        refine a_goto rfl ?_
        refine a_gV rfl lX2_88 mo_X2_setPart (q_X2_setPart_246) rfl rfl rfl ⟨2, _, rfl, rfl, rfl⟩ rfl (fun v' h' hv => ?_)
        obtain ⟨rfl, I70, rfl, f71⟩ := hv
        replace f71 : Fm sQ I I70 := Fm.tr (f65) (f71)
        exact a_vret rfl rfl ⟨rfl, _, rfl, f71⟩
theorem q_X2_growthOf_246_257 {S : aS} {I : Nat → Nat → Int32} {L : Nat → Nat → Int64} {w1 w2 t : Nat} {x2 : Int32} : Sp S m_X2_growthOf 15 0 0 [.ref 246, .ref 257, .int x2] (hp I L w1 w2 t) (QR (Fm sQ I) isI L w1 w2 t) nX := by
  refine Sp_of ok_X2_growthOf rfl rfl ?_
  show AW S m_X2_growthOf 15 _ _ 0 0 0 [some (.ref 246), some (.ref 257), some (.int x2)] [] (hp I L w1 w2 t)
  refine a_l0 rfl rfl rfl ?_
  refine a_l1 rfl rfl rfl ?_
  refine a_l2 rfl rfl rfl ?_
  refine a_gV rfl lX2_48 mo_X2_takeParts (q_X2_takeParts_246_257) rfl rfl rfl ⟨2, _, rfl, rfl, rfl⟩ rfl (fun v' h' hv => ?_)
  obtain ⟨rfl, I2, rfl, f3⟩ := hv
  refine a_l0 rfl rfl rfl ?_
  refine a_s rfl rfl ?_
  refine a_gV rfl lX2_52 mo_X2_sumOfLines (q_X2_sumOfLines_246) rfl rfl rfl ⟨2, _, rfl, rfl, rfl⟩ rfl (fun v' h' hv => ?_)
  obtain ⟨⟨v4, rfl⟩, I5, rfl, f6⟩ := hv
  replace f6 : Fm sQ I I5 := Fm.tr (f3) (f6)
  exact a_iret rfl rfl ⟨⟨_, rfl⟩, _, rfl, f6⟩
theorem q_X5_passMonth_257_246 {S : aS} {I : Nat → Nat → Int32} {L : Nat → Nat → Int64} {w1 w2 t : Nat} : Sp S m_X5_passMonth 16 0 0 [.ref 257, .ref 246] (hp I L w1 w2 t) (QR (Fm sQ I) isV L w1 w2 t) nX := by
  refine Sp_of ok_X5_passMonth rfl rfl ?_
  show AW S m_X5_passMonth 16 _ _ 0 0 0 [some (.ref 257), some (.ref 246), none, none] [] (hp I L w1 w2 t)
  refine a_s rfl rfl ?_
  refine a_s2 rfl rfl rfl rfl rfl rfl ?_
  refine a_cnt (j0 := 0) (fun j ls h => ∃ I', ls = [some (.ref 257), some (.ref 246), some (.int (nI j)), none] ∧ h = hp I' L w1 w2 t ∧ Fm sQ I I') (by decide) ⟨_, rfl, rfl, Fm.rf⟩ ⟨rfl, rfl, rfl, trivial⟩ ?_
  rintro j2 _ _ hj2 ⟨Ih2, rfl, rfl, fh2⟩ ih2
  refine a_l2 rfl rfl rfl ?_
  refine a_l0 rfl rfl rfl ?_
  refine a_geti rfl gfX5_63_5 rfl ?_
  refine a_ic_ge rfl (fun c7 => ?_) (fun c7 => ?_)
  · exact a_vret rfl rfl ⟨rfl, _, rfl, fh2⟩
  · refine a_l0 rfl rfl rfl ?_
    refine a_l2 rfl rfl rfl ?_
    refine a_gV rfl lX5_90 mo_X5_isWaiting (q_X5_isWaiting_257) rfl rfl rfl ⟨5, _, rfl, rfl, rfl⟩ rfl (fun v' h' hv => ?_)
    obtain ⟨⟨v1, rfl⟩, rfl⟩ := hv
    refine a_if_eq rfl (fun c15 => ?_) (fun c15 => ?_)
    · refine a_l0 rfl rfl rfl ?_
      refine a_getq rfl gfX5_33_5 rfl (rfl) ?_
      refine a_l2 rfl rfl rfl ?_
      refine a_eSN1 rfl lX5_86 mo_X11_at (sp_X11_at rfl) rfl rfl rfl rfl ?_
      refine a_s rfl rfl ?_
      refine a_ic_eq rfl (fun c57 => ?_) (fun c57 => ?_)
      · refine a_i2 rfl rfl rfl ?_
        refine a_goto rfl ?_
        exact ih2 _ _ _ _ c7 ⟨_, rfl, rfl, fh2⟩ ⟨rfl, rfl, nS _, trivial⟩
      · refine a_l0 rfl rfl rfl ?_
        refine a_l2 rfl rfl rfl ?_
        refine a_gV rfl lX5_163 mo_X5_growOlder (q_X5_growOlder_257) rfl rfl rfl ⟨5, _, rfl, rfl, rfl⟩ rfl (fun v' h' hv => ?_)
        obtain ⟨rfl, I3, rfl, f4⟩ := hv
        replace f4 : Fm sQ I I3 := Fm.tr (fh2) (f4)
        refine a_i2 rfl rfl rfl ?_
        refine a_goto rfl ?_
        exact ih2 _ _ _ _ c7 ⟨_, rfl, rfl, f4⟩ ⟨rfl, rfl, nS _, trivial⟩
    · refine a_l0 rfl rfl rfl ?_
      refine a_getq rfl gfX5_21_5 rfl (rfl) ?_
      refine a_l2 rfl rfl rfl ?_
      refine a_eSN1 rfl lX5_86 mo_X11_at (sp_X11_at rfl) rfl rfl rfl rfl ?_
      refine a_l1 rfl rfl rfl ?_
      refine a_l0 rfl rfl rfl ?_
      refine a_l2 rfl rfl rfl ?_
      refine a_gV rfl lX5_157 mo_X2_growthOf (q_X2_growthOf_246_257) rfl rfl rfl ⟨2, _, rfl, rfl, rfl⟩ rfl (fun v' h' hv => ?_)
      obtain ⟨⟨v5, rfl⟩, I6, rfl, f7⟩ := hv
      replace f7 : Fm sQ I I6 := Fm.tr (fh2) (f7)
      refine a_s rfl rfl ?_
      refine a_s3 rfl rfl rfl rfl rfl rfl ?_
      refine a_l0 rfl rfl rfl ?_
      refine a_getq rfl gfX5_21_5 rfl (rfl) ?_
      refine a_l2 rfl rfl rfl ?_
      refine a_s rfl rfl ?_
      refine a_l3 rfl rfl rfl ?_
      refine a_min rfl lX5_127 mj_min rfl rfl ?_
      refine a_eSN0 rfl lX5_82 mo_X11_setAt (sp_X11_setAt rfl) rfl rfl rfl rfl ?_
      refine a_ren (P := Fm sQ I) (Fm.tr (f7) (Fm.st (Fm.rf (s := sQ)) (fun _ => rfl))) (fun I8 f9 => ?_)
      refine a_l0 rfl rfl rfl ?_
      refine a_getq rfl gfX5_33_5 rfl (rfl) ?_
      refine a_l2 rfl rfl rfl ?_
      refine a_eSN1 rfl lX5_86 mo_X11_at (sp_X11_at rfl) rfl rfl rfl rfl ?_
      refine a_s rfl rfl ?_
      refine a_ic_eq rfl (fun c57 => ?_) (fun c57 => ?_)
      · refine a_i2 rfl rfl rfl ?_
        refine a_goto rfl ?_
        exact ih2 _ _ _ _ c7 ⟨_, rfl, rfl, f9⟩ ⟨rfl, rfl, nS _, trivial⟩
      · refine a_l0 rfl rfl rfl ?_
        refine a_l2 rfl rfl rfl ?_
        refine a_gV rfl lX5_163 mo_X5_growOlder (q_X5_growOlder_257) rfl rfl rfl ⟨5, _, rfl, rfl, rfl⟩ rfl (fun v' h' hv => ?_)
        obtain ⟨rfl, I11, rfl, f12⟩ := hv
        replace f12 : Fm sQ I I11 := Fm.tr (f9) (f12)
        refine a_i2 rfl rfl rfl ?_
        refine a_goto rfl ?_
        exact ih2 _ _ _ _ c7 ⟨_, rfl, rfl, f12⟩ ⟨rfl, rfl, nS _, trivial⟩
theorem q_X5_isReady_257 {S : aS} {I : Nat → Nat → Int32} {L : Nat → Nat → Int64} {w1 w2 t : Nat} {x1 : Int32} : Sp S m_X5_isReady 14 0 0 [.ref 257, .int x1] (hp I L w1 w2 t) (QE isZ (hp I L w1 w2 t)) nX := by
  refine Sp_of ok_X5_isReady rfl rfl ?_
  show AW S m_X5_isReady 14 _ _ 0 0 0 [some (.ref 257), some (.int x1)] [] (hp I L w1 w2 t)
  refine a_l0 rfl rfl rfl ?_
  refine a_l1 rfl rfl rfl ?_
  refine a_gV rfl lX5_90 mo_X5_isWaiting (q_X5_isWaiting_257) rfl rfl rfl ⟨5, _, rfl, rfl, rfl⟩ rfl (fun v' h' hv => ?_)
  obtain ⟨⟨v1, rfl⟩, rfl⟩ := hv
  refine a_if_eq rfl (fun c5 => ?_) (fun c5 => ?_)
  · refine a_s rfl rfl ?_
    exact a_zret rfl rfl rfl ⟨⟨false, rfl⟩, rfl⟩
  · refine a_l0 rfl rfl rfl ?_
    refine a_l1 rfl rfl rfl ?_
    refine a_gV rfl lX5_94 mo_X5_leansFreely (q_X5_leansFreely_257) rfl rfl rfl ⟨5, _, rfl, rfl, rfl⟩ rfl (fun v' h' hv => ?_)
    obtain ⟨⟨v2, rfl⟩, rfl⟩ := hv
    refine a_if_eq rfl (fun c13 => ?_) (fun c13 => ?_)
    · refine a_s rfl rfl ?_
      exact a_zret rfl rfl rfl ⟨⟨false, rfl⟩, rfl⟩
    · refine a_s rfl rfl ?_
      refine a_goto rfl ?_
      exact a_zret rfl rfl rfl ⟨⟨true, rfl⟩, rfl⟩
theorem q_X5_finish_257 {S : aS} {I : Nat → Nat → Int32} {L : Nat → Nat → Int64} {w1 w2 t : Nat} {x1 : Int32} : Sp S m_X5_finish 13 0 0 [.ref 257, .int x1] (hp I L w1 w2 t) (QR (Fm sQ I) isV L w1 w2 t) nX := by
  refine Sp_of ok_X5_finish rfl rfl ?_
  show AW S m_X5_finish 13 _ _ 0 0 0 [some (.ref 257), some (.int x1)] [] (hp I L w1 w2 t)
  refine a_l0 rfl rfl rfl ?_
  refine a_getq rfl gfX5_21_5 rfl (rfl) ?_
  refine a_l1 rfl rfl rfl ?_
  refine a_s rfl rfl ?_
  refine a_eSN0 rfl lX5_82 mo_X11_setAt (sp_X11_setAt rfl) rfl rfl rfl rfl ?_
  refine a_ren (P := Fm sQ I) (Fm.st (Fm.rf (s := sQ)) (fun _ => rfl)) (fun I1 f2 => ?_)
  refine a_l0 rfl rfl rfl ?_
  refine a_getq rfl gfX5_33_5 rfl (rfl) ?_
  refine a_l1 rfl rfl rfl ?_
  refine a_s rfl rfl ?_
  refine a_eSN0 rfl lX5_82 mo_X11_setAt (sp_X11_setAt rfl) rfl rfl rfl rfl ?_
  refine a_ren (P := Fm sQ I) (Fm.tr (f2) (Fm.st (Fm.rf (s := sQ)) (fun _ => rfl))) (fun I3 f4 => ?_)
  exact a_vret rfl rfl ⟨rfl, _, rfl, f4⟩
theorem q_X5_work_257 {S : aS} {I : Nat → Nat → Int32} {L : Nat → Nat → Int64} {w1 w2 t : Nat} {x1 x2 : Int32} : Sp S m_X5_work 15 0 0 [.ref 257, .int x1, .int x2] (hp I L w1 w2 t) (QR (Fm sQ I) isI L w1 w2 t) nX := by
  refine Sp_of ok_X5_work rfl rfl ?_
  show AW S m_X5_work 15 _ _ 0 0 0 [some (.ref 257), some (.int x1), some (.int x2), none, none, none, none] [] (hp I L w1 w2 t)
  refine a_s rfl rfl ?_
  refine a_s3 rfl rfl rfl rfl rfl rfl ?_
  refine a_l0 rfl rfl rfl ?_
  refine a_getq rfl gfX5_15_5 rfl (rfl) ?_
  refine a_l1 rfl rfl rfl ?_
  refine a_eSN1 rfl lX5_86 mo_X11_at (sp_X11_at rfl) rfl rfl rfl rfl ?_
  refine a_s4 rfl rfl rfl rfl rfl rfl ?_
  refine a_s rfl rfl ?_
  refine a_s5 rfl rfl rfl rfl rfl rfl ?_
  refine a_cnt (j0 := 0) (fun j ls h => ∃ a0, ∃ a1, ∃ I', ls = [some (.ref 257), some (.int x1), some (.int x2), some (.int a0), some (.int a1), some (.int (nI j)), none] ∧ h = hp I' L w1 w2 t ∧ Fm sQ I I') (by decide) ⟨_, _, _, rfl, rfl, Fm.rf⟩ ⟨rfl, rfl, rfl, rfl, rfl, rfl, trivial⟩ ?_
  rintro j15 _ _ hj15 ⟨a0_15, a1_15, Ih15, rfl, rfl, fh15⟩ ih15
  refine a_l5 rfl rfl rfl ?_
  refine a_l0 rfl rfl rfl ?_
  refine a_geti rfl gfX5_63_5 rfl ?_
  refine a_ic_ge rfl (fun c21 => ?_) (fun c21 => ?_)
  · refine a_l3 rfl rfl rfl ?_
    exact a_iret rfl rfl ⟨⟨_, rfl⟩, _, rfl, fh15⟩
  · refine a_l4 rfl rfl rfl ?_
    refine a_if_le rfl (fun c26 => ?_) (fun c26 => ?_)
    · refine a_l3 rfl rfl rfl ?_
      exact a_iret rfl rfl ⟨⟨_, rfl⟩, _, rfl, fh15⟩
    · refine a_l0 rfl rfl rfl ?_
      refine a_getq rfl gfX5_18_5 rfl (rfl) ?_
      refine a_l5 rfl rfl rfl ?_
      refine a_eSN1 rfl lX5_86 mo_X11_at (sp_X11_at rfl) rfl rfl rfl rfl ?_
      refine a_l1 rfl rfl rfl ?_
      refine a_ic_ne rfl (fun c39 => ?_) (fun c39 => ?_)
      · refine a_i5 rfl rfl rfl ?_
        refine a_goto rfl ?_
        exact ih15 _ _ _ _ c21 ⟨_, _, _, rfl, rfl, fh15⟩ ⟨rfl, rfl, rfl, rfl, rfl, nS _, trivial⟩
      · refine a_l0 rfl rfl rfl ?_
        refine a_l5 rfl rfl rfl ?_
        refine a_gV rfl lX5_101 mo_X5_isReady (q_X5_isReady_257) rfl rfl rfl ⟨5, _, rfl, rfl, rfl⟩ rfl (fun v' h' hv => ?_)
        obtain ⟨⟨v1, rfl⟩, rfl⟩ := hv
        refine a_if_eq rfl (fun c48 => ?_) (fun c48 => ?_)
        · refine a_i5 rfl rfl rfl ?_
          refine a_goto rfl ?_
          exact ih15 _ _ _ _ c21 ⟨_, _, _, rfl, rfl, fh15⟩ ⟨rfl, rfl, rfl, rfl, rfl, nS _, trivial⟩
        · refine a_l2 rfl rfl rfl ?_
          refine a_l0 rfl rfl rfl ?_
          refine a_getq rfl gfX5_27_5 rfl (rfl) ?_
          refine a_l5 rfl rfl rfl ?_
          refine a_eSN1 rfl lX5_86 mo_X11_at (sp_X11_at rfl) rfl rfl rfl rfl ?_
          refine a_eSN1 rfl lX5_149 mo_X11_has (sp_X11_has) rfl rfl rfl rfl ?_
          refine a_if_ne rfl (fun c64 => ?_) (fun c64 => ?_)
          · refine a_i5 rfl rfl rfl ?_
            refine a_goto rfl ?_
            exact ih15 _ _ _ _ c21 ⟨_, _, _, rfl, rfl, fh15⟩ ⟨rfl, rfl, rfl, rfl, rfl, nS _, trivial⟩
          · refine a_l4 rfl rfl rfl ?_
            refine a_l0 rfl rfl rfl ?_
            refine a_getq rfl gfX5_21_5 rfl (rfl) ?_
            refine a_l5 rfl rfl rfl ?_
            refine a_eSN1 rfl lX5_86 mo_X11_at (sp_X11_at rfl) rfl rfl rfl rfl ?_
            refine a_min rfl lX5_127 mj_min rfl rfl ?_
            refine a_s6 rfl rfl rfl rfl rfl rfl ?_
            refine a_l4 rfl rfl rfl ?_
            refine a_l6 rfl rfl rfl ?_
            refine a_s rfl rfl ?_
            refine a_s4 rfl rfl rfl rfl rfl rfl ?_
            refine a_l3 rfl rfl rfl ?_
            refine a_l0 rfl rfl rfl ?_
            refine a_getq rfl gfX5_27_5 rfl (rfl) ?_
            refine a_l5 rfl rfl rfl ?_
            refine a_eSN1 rfl lX5_86 mo_X11_at (sp_X11_at rfl) rfl rfl rfl rfl ?_
            refine a_eSN1 rfl lX5_97 mo_X11_bit (sp_X11_bit) rfl rfl rfl rfl ?_
            refine a_s rfl rfl ?_
            refine a_s3 rfl rfl rfl rfl rfl rfl ?_
            refine a_l0 rfl rfl rfl ?_
            refine a_getq rfl gfX5_21_5 rfl (rfl) ?_
            refine a_l5 rfl rfl rfl ?_
            refine a_l0 rfl rfl rfl ?_
            refine a_getq rfl gfX5_21_5 rfl (rfl) ?_
            refine a_l5 rfl rfl rfl ?_
            refine a_eSN1 rfl lX5_86 mo_X11_at (sp_X11_at rfl) rfl rfl rfl rfl ?_
            refine a_l6 rfl rfl rfl ?_
            refine a_s rfl rfl ?_
            refine a_eSN0 rfl lX5_82 mo_X11_setAt (sp_X11_setAt rfl) rfl rfl rfl rfl ?_
            refine a_ren (P := Fm sQ I) (Fm.tr (fh15) (Fm.st (Fm.rf (s := sQ)) (fun _ => rfl))) (fun I2 f3 => ?_)
            refine a_l0 rfl rfl rfl ?_
            refine a_getq rfl gfX5_21_5 rfl (rfl) ?_
            refine a_l5 rfl rfl rfl ?_
            refine a_eSN1 rfl lX5_86 mo_X11_at (sp_X11_at rfl) rfl rfl rfl rfl ?_
            refine a_if_ne rfl (fun c135 => ?_) (fun c135 => ?_)
            · refine a_i5 rfl rfl rfl ?_
              refine a_goto rfl ?_
              exact ih15 _ _ _ _ c21 ⟨_, _, _, rfl, rfl, f3⟩ ⟨rfl, rfl, rfl, rfl, rfl, nS _, trivial⟩
            · refine a_l0 rfl rfl rfl ?_
              refine a_l5 rfl rfl rfl ?_
              refine a_gV rfl lX5_153 mo_X5_finish (q_X5_finish_257) rfl rfl rfl ⟨5, _, rfl, rfl, rfl⟩ rfl (fun v' h' hv => ?_)
              obtain ⟨rfl, I5, rfl, f6⟩ := hv
              replace f6 : Fm sQ I I5 := Fm.tr (f3) (f6)
              refine a_i5 rfl rfl rfl ?_
              refine a_goto rfl ?_
              exact ih15 _ _ _ _ c21 ⟨_, _, _, rfl, rfl, f6⟩ ⟨rfl, rfl, rfl, rfl, rfl, nS _, trivial⟩
theorem q_X5_passDay_257_246 {S : aS} {I : Nat → Nat → Int32} {L : Nat → Nat → Int64} {w1 w2 t : Nat} {b2 : Bool} : Sp S m_X5_passDay 17 0 0 [.ref 257, .ref 246, .int (bI b2)] (hp I L w1 w2 t) (QR (Fm sQ I) isV L w1 w2 t) nX := by
  refine Sp_of ok_X5_passDay rfl rfl ?_
  show AW S m_X5_passDay 17 _ _ 0 0 0 [some (.ref 257), some (.ref 246), some (.int (bI b2)), none, none, none] [] (hp I L w1 w2 t)
  refine a_s rfl rfl ?_
  refine a_s3 rfl rfl rfl rfl rfl rfl ?_
  refine a_s rfl rfl ?_
  refine a_s4 rfl rfl rfl rfl rfl rfl ?_
  refine a_cnt (j0 := 0) (fun j ls h => ∃ a0, ∃ I', ls = [some (.ref 257), some (.ref 246), some (.int (bI b2)), some (.int a0), some (.int (nI j)), none] ∧ h = hp I' L w1 w2 t ∧ Fm sQ I I') (by decide) ⟨_, _, rfl, rfl, Fm.rf⟩ ⟨rfl, rfl, rfl, rfl, rfl, trivial⟩ ?_
  rintro j5 _ _ hj5 ⟨a0_5, Ih5, rfl, rfl, fh5⟩ ih5
  refine a_l4 rfl rfl rfl ?_
  refine a_l0 rfl rfl rfl ?_
  refine a_geti rfl gfX5_56_5 rfl ?_
  refine a_ic_ge rfl (fun c11 => ?_) (fun c11 => ?_)
  · refine a_l0 rfl rfl rfl ?_
    refine a_s rfl rfl ?_
    refine a_geti rfl gfX5_36_5 rfl ?_
    refine a_s rfl rfl ?_
    refine a_s rfl rfl ?_
    refine a_puti rfl pfX5_36_5 rfl ?_
    refine a_ren (P := Fm sQ I) (Fm.tr (fh5) (Fm.up (Fm.rf (s := sQ)) rfl)) (fun I1 f2 => ?_)
    refine a_l0 rfl rfl rfl ?_
    refine a_geti rfl gfX5_36_5 rfl ?_
    refine a_s rfl rfl ?_
    refine a_ic_le rfl (fun c76 => ?_) (fun c76 => ?_)
    · exact a_vret rfl rfl ⟨rfl, _, rfl, f2⟩
    · refine a_l0 rfl rfl rfl ?_
      refine a_s rfl rfl ?_
      refine a_puti rfl pfX5_36_5 rfl ?_
      refine a_ren (P := Fm sQ I) (Fm.tr (f2) (Fm.up (Fm.rf (s := sQ)) rfl)) (fun I3 f4 => ?_)
      refine a_l0 rfl rfl rfl ?_
      refine a_s rfl rfl ?_
      refine a_l0 rfl rfl rfl ?_
      refine a_geti rfl gfX5_66_5 rfl ?_
      refine a_s rfl rfl ?_
      refine a_s rfl rfl ?_
      refine a_min rfl lX5_127 mj_min rfl rfl ?_
      refine a_puti rfl pfX5_66_5 rfl ?_
      refine a_ren (P := Fm sQ I) (Fm.tr (f4) (Fm.up (Fm.rf (s := sQ)) rfl)) (fun I5 f6 => ?_)
      refine a_l0 rfl rfl rfl ?_
      refine a_l1 rfl rfl rfl ?_
      refine a_gV rfl lX5_140 mo_X5_passMonth (q_X5_passMonth_257_246) rfl rfl rfl ⟨5, _, rfl, rfl, rfl⟩ rfl (fun v' h' hv => ?_)
      obtain ⟨rfl, I8, rfl, f9⟩ := hv
      replace f9 : Fm sQ I I8 := Fm.tr (f6) (f9)
      exact a_vret rfl rfl ⟨rfl, _, rfl, f9⟩
  · refine a_l2 rfl rfl rfl ?_
    refine a_if_eq rfl (fun c15 => ?_) (fun c15 => ?_)
    · refine a_s rfl rfl ?_
      refine a_s5 rfl rfl rfl rfl rfl rfl ?_
      refine a_l5 rfl rfl rfl ?_
      refine a_if_ne rfl (fun c41 => ?_) (fun c41 => ?_)
      · refine a_i4 rfl rfl rfl ?_
        refine a_goto rfl ?_
        exact ih5 _ _ _ _ c11 ⟨_, _, rfl, rfl, fh5⟩ ⟨rfl, rfl, rfl, rfl, nS _, trivial⟩
      · refine a_l3 rfl rfl rfl ?_
        refine a_l0 rfl rfl rfl ?_
        refine a_l4 rfl rfl rfl ?_
        refine a_l3 rfl rfl rfl ?_
        refine a_gV rfl lX5_137 mo_X5_work (q_X5_work_257) rfl rfl rfl ⟨5, _, rfl, rfl, rfl⟩ rfl (fun v' h' hv => ?_)
        obtain ⟨⟨v10, rfl⟩, I11, rfl, f12⟩ := hv
        replace f12 : Fm sQ I I11 := Fm.tr (fh5) (f12)
        refine a_s rfl rfl ?_
        refine a_s3 rfl rfl rfl rfl rfl rfl ?_
        refine a_i4 rfl rfl rfl ?_
        refine a_goto rfl ?_
        exact ih5 _ _ _ _ c11 ⟨_, _, rfl, rfl, f12⟩ ⟨rfl, rfl, rfl, rfl, nS _, trivial⟩
    · refine a_l0 rfl rfl rfl ?_
      refine a_eV1 rfl lX5_133 mo_X5_draw (sp_X5_draw (a := 257) (by decide)) rfl rfl rfl ⟨5, _, rfl, rfl, rfl⟩ rfl ?_
      refine a_ren (P := Fm sQ I) (Fm.tr (fh5) (Fm.up (Fm.rf (s := sQ)) rfl)) (fun I13 f14 => ?_)
      refine a_s rfl rfl ?_
      refine a_irem rfl (by decide) ?_
      refine a_l0 rfl rfl rfl ?_
      refine a_geti rfl gfX5_69_5 rfl ?_
      refine a_ic_ge rfl (fun c29 => ?_) (fun c29 => ?_)
      · refine a_s rfl rfl ?_
        refine a_s5 rfl rfl rfl rfl rfl rfl ?_
        refine a_l5 rfl rfl rfl ?_
        refine a_if_ne rfl (fun c41 => ?_) (fun c41 => ?_)
        · refine a_i4 rfl rfl rfl ?_
          refine a_goto rfl ?_
          exact ih5 _ _ _ _ c11 ⟨_, _, rfl, rfl, f14⟩ ⟨rfl, rfl, rfl, rfl, nS _, trivial⟩
        · refine a_l3 rfl rfl rfl ?_
          refine a_l0 rfl rfl rfl ?_
          refine a_l4 rfl rfl rfl ?_
          refine a_l3 rfl rfl rfl ?_
          refine a_gV rfl lX5_137 mo_X5_work (q_X5_work_257) rfl rfl rfl ⟨5, _, rfl, rfl, rfl⟩ rfl (fun v' h' hv => ?_)
          obtain ⟨⟨v15, rfl⟩, I16, rfl, f17⟩ := hv
          replace f17 : Fm sQ I I16 := Fm.tr (f14) (f17)
          refine a_s rfl rfl ?_
          refine a_s3 rfl rfl rfl rfl rfl rfl ?_
          refine a_i4 rfl rfl rfl ?_
          refine a_goto rfl ?_
          exact ih5 _ _ _ _ c11 ⟨_, _, rfl, rfl, f17⟩ ⟨rfl, rfl, rfl, rfl, nS _, trivial⟩
      · refine a_s rfl rfl ?_
        refine a_goto rfl ?_
        refine a_s5 rfl rfl rfl rfl rfl rfl ?_
        refine a_l5 rfl rfl rfl ?_
        refine a_if_ne rfl (fun c41 => ?_) (fun c41 => ?_)
        · refine a_i4 rfl rfl rfl ?_
          refine a_goto rfl ?_
          exact ih5 _ _ _ _ c11 ⟨_, _, rfl, rfl, f14⟩ ⟨rfl, rfl, rfl, rfl, nS _, trivial⟩
        · refine a_l3 rfl rfl rfl ?_
          refine a_l0 rfl rfl rfl ?_
          refine a_l4 rfl rfl rfl ?_
          refine a_l3 rfl rfl rfl ?_
          refine a_gV rfl lX5_137 mo_X5_work (q_X5_work_257) rfl rfl rfl ⟨5, _, rfl, rfl, rfl⟩ rfl (fun v' h' hv => ?_)
          obtain ⟨⟨v18, rfl⟩, I19, rfl, f20⟩ := hv
          replace f20 : Fm sQ I I19 := Fm.tr (f14) (f20)
          refine a_s rfl rfl ?_
          refine a_s3 rfl rfl rfl rfl rfl rfl ?_
          refine a_i4 rfl rfl rfl ?_
          refine a_goto rfl ?_
          exact ih5 _ _ _ _ c11 ⟨_, _, rfl, rfl, f20⟩ ⟨rfl, rfl, rfl, rfl, nS _, trivial⟩
theorem q_X5_daysTillDone_257_246 {S : aS} {I : Nat → Nat → Int32} {L : Nat → Nat → Int64} {w1 w2 t : Nat} {x2 : Int32} : Sp S m_X5_daysTillDone 18 0 0 [.ref 257, .ref 246, .int x2] (hp I L w1 w2 t) (QR (Fm sQ I) isI L w1 w2 t) nX := by
  refine Sp_of ok_X5_daysTillDone rfl rfl ?_
  show AW S m_X5_daysTillDone 18 _ _ 0 0 0 [some (.ref 257), some (.ref 246), some (.int x2), none] [] (hp I L w1 w2 t)
  refine a_s rfl rfl ?_
  refine a_s3 rfl rfl rfl rfl rfl rfl ?_
  refine a_cnt (j0 := 0) (fun j ls h => ∃ I', ls = [some (.ref 257), some (.ref 246), some (.int x2), some (.int (nI j))] ∧ h = hp I' L w1 w2 t ∧ Fm sQ I I') (by decide) ⟨_, rfl, rfl, Fm.rf⟩ ⟨rfl, rfl, rfl, rfl, trivial⟩ ?_
  rintro j2 _ _ hj2 ⟨Ih2, rfl, rfl, fh2⟩ ih2
  refine a_l3 rfl rfl rfl ?_
  refine a_s rfl rfl ?_
  refine a_ic_gt rfl (fun c5 => ?_) (fun c5 => ?_)
  · refine a_s rfl rfl ?_
    exact a_iret rfl rfl ⟨⟨_, rfl⟩, _, rfl, fh2⟩
  · refine a_l0 rfl rfl rfl ?_
    refine a_getq rfl gfX5_33_5 rfl (rfl) ?_
    refine a_l2 rfl rfl rfl ?_
    refine a_eSN1 rfl lX5_86 mo_X11_at (sp_X11_at rfl) rfl rfl rfl rfl ?_
    refine a_s rfl rfl ?_
    refine a_ic_ne rfl (fun c17 => ?_) (fun c17 => ?_)
    · refine a_l0 rfl rfl rfl ?_
      refine a_l1 rfl rfl rfl ?_
      refine a_s rfl rfl ?_
      refine a_gV rfl lX5_144 mo_X5_passDay (q_X5_passDay_257_246 (b2 := false)) rfl rfl rfl ⟨5, _, rfl, rfl, rfl⟩ rfl (fun v' h' hv => ?_)
      obtain ⟨rfl, I2, rfl, f3⟩ := hv
      replace f3 : Fm sQ I I2 := Fm.tr (fh2) (f3)
      refine a_i3 rfl rfl rfl ?_
      refine a_goto rfl ?_
      exact ih2 _ _ _ _ (nI_gt1 (a := 90) (by decide) hj2 c5) ⟨_, rfl, rfl, f3⟩ ⟨rfl, rfl, rfl, nS _, trivial⟩
    · refine a_l3 rfl rfl rfl ?_
      exact a_iret rfl rfl ⟨⟨_, rfl⟩, _, rfl, fh2⟩
theorem q_X5_bitsIn_257 {S : aS} {I : Nat → Nat → Int32} {L : Nat → Nat → Int64} {w1 w2 t : Nat} {x1 : Int32} : Sp S m_X5_bitsIn 13 0 0 [.ref 257, .int x1] (hp I L w1 w2 t) (QE isI (hp I L w1 w2 t)) nX := by
  refine Sp_of ok_X5_bitsIn rfl rfl ?_
  show AW S m_X5_bitsIn 13 _ _ 0 0 0 [some (.ref 257), some (.int x1), none, none] [] (hp I L w1 w2 t)
  refine a_s rfl rfl ?_
  refine a_s2 rfl rfl rfl rfl rfl rfl ?_
  refine a_s rfl rfl ?_
  refine a_s3 rfl rfl rfl rfl rfl rfl ?_
  refine a_cnt (j0 := 0) (fun j ls h => ∃ a0, ls = [some (.ref 257), some (.int x1), some (.int a0), some (.int (nI j))] ∧ h = hp I L w1 w2 t) (by decide) ⟨_, rfl, rfl⟩ ⟨rfl, rfl, rfl, rfl, trivial⟩ ?_
  rintro j4 _ _ hj4 ⟨a0_4, rfl, rfl⟩ ih4
  refine a_l3 rfl rfl rfl ?_
  refine a_l0 rfl rfl rfl ?_
  refine a_geti rfl gfX5_63_5 rfl ?_
  refine a_ic_ge rfl (fun c9 => ?_) (fun c9 => ?_)
  · refine a_l2 rfl rfl rfl ?_
    exact a_iret rfl rfl ⟨⟨_, rfl⟩, rfl⟩
  · refine a_l0 rfl rfl rfl ?_
    refine a_getq rfl gfX5_33_5 rfl (rfl) ?_
    refine a_l3 rfl rfl rfl ?_
    refine a_eSN1 rfl lX5_86 mo_X11_at (sp_X11_at rfl) rfl rfl rfl rfl ?_
    refine a_l1 rfl rfl rfl ?_
    refine a_ic_ne rfl (fun c21 => ?_) (fun c21 => ?_)
    · refine a_i3 rfl rfl rfl ?_
      refine a_goto rfl ?_
      exact ih4 _ _ _ _ c9 ⟨_, rfl, rfl⟩ ⟨rfl, rfl, rfl, nS _, trivial⟩
    · refine a_l2 rfl rfl rfl ?_
      refine a_l3 rfl rfl rfl ?_
      refine a_eSN1 rfl lX5_97 mo_X11_bit (sp_X11_bit) rfl rfl rfl rfl ?_
      refine a_s rfl rfl ?_
      refine a_s2 rfl rfl rfl rfl rfl rfl ?_
      refine a_i3 rfl rfl rfl ?_
      refine a_goto rfl ?_
      exact ih4 _ _ _ _ c9 ⟨_, rfl, rfl⟩ ⟨rfl, rfl, rfl, nS _, trivial⟩
theorem q_X5_daysTillNoneWaits_257_246 {S : aS} {I : Nat → Nat → Int32} {L : Nat → Nat → Int64} {w1 w2 t : Nat} : Sp S m_X5_daysTillNoneWaits 18 0 0 [.ref 257, .ref 246] (hp I L w1 w2 t) (QR (Fm sQ I) isI L w1 w2 t) nX := by
  refine Sp_of ok_X5_daysTillNoneWaits rfl rfl ?_
  show AW S m_X5_daysTillNoneWaits 18 _ _ 0 0 0 [some (.ref 257), some (.ref 246), none] [] (hp I L w1 w2 t)
  refine a_s rfl rfl ?_
  refine a_s2 rfl rfl rfl rfl rfl rfl ?_
  refine a_cnt (j0 := 0) (fun j ls h => ∃ I', ls = [some (.ref 257), some (.ref 246), some (.int (nI j))] ∧ h = hp I' L w1 w2 t ∧ Fm sQ I I') (by decide) ⟨_, rfl, rfl, Fm.rf⟩ ⟨rfl, rfl, rfl, trivial⟩ ?_
  rintro j2 _ _ hj2 ⟨Ih2, rfl, rfl, fh2⟩ ih2
  refine a_l2 rfl rfl rfl ?_
  refine a_s rfl rfl ?_
  refine a_ic_gt rfl (fun c5 => ?_) (fun c5 => ?_)
  · refine a_s rfl rfl ?_
    exact a_iret rfl rfl ⟨⟨_, rfl⟩, _, rfl, fh2⟩
  · refine a_l0 rfl rfl rfl ?_
    refine a_s rfl rfl ?_
    refine a_gV rfl lX5_104 mo_X5_bitsIn (q_X5_bitsIn_257) rfl rfl rfl ⟨5, _, rfl, rfl, rfl⟩ rfl (fun v' h' hv => ?_)
    obtain ⟨⟨v1, rfl⟩, rfl⟩ := hv
    refine a_if_ne rfl (fun c13 => ?_) (fun c13 => ?_)
    · refine a_l0 rfl rfl rfl ?_
      refine a_l1 rfl rfl rfl ?_
      refine a_s rfl rfl ?_
      refine a_gV rfl lX5_144 mo_X5_passDay (q_X5_passDay_257_246 (b2 := false)) rfl rfl rfl ⟨5, _, rfl, rfl, rfl⟩ rfl (fun v' h' hv => ?_)
      obtain ⟨rfl, I3, rfl, f4⟩ := hv
      replace f4 : Fm sQ I I3 := Fm.tr (fh2) (f4)
      refine a_i2 rfl rfl rfl ?_
      refine a_goto rfl ?_
      exact ih2 _ _ _ _ (nI_gt1 (a := 90) (by decide) hj2 c5) ⟨_, rfl, rfl, f4⟩ ⟨rfl, rfl, nS _, trivial⟩
    · refine a_l2 rfl rfl rfl ?_
      exact a_iret rfl rfl ⟨⟨_, rfl⟩, _, rfl, fh2⟩
theorem q_X4_chainOf_235 {S : aS} {I : Nat → Nat → Int32} {L : Nat → Nat → Int64} {w1 w2 t : Nat} {x1 : Int32} : Sp S m_X4_chainOf 13 0 0 [.ref 235, .int x1] (hp I L w1 w2 t) (QE isI (hp I L w1 w2 t)) nX := by
  refine Sp_of ok_X4_chainOf rfl rfl ?_
  show AW S m_X4_chainOf 13 _ _ 0 0 0 [some (.ref 235), some (.int x1), none, none, none] [] (hp I L w1 w2 t)
  refine a_s rfl rfl ?_
  refine a_s2 rfl rfl rfl rfl rfl rfl ?_
  refine a_l0 rfl rfl rfl ?_
  refine a_getq rfl gfX4_9_5 rfl (rfl) ?_
  refine a_l1 rfl rfl rfl ?_
  refine a_eSN1 rfl lX4_15 mo_X11_at (sp_X11_at rfl) rfl rfl rfl rfl ?_
  refine a_s3 rfl rfl rfl rfl rfl rfl ?_
  refine a_s rfl rfl ?_
  refine a_s4 rfl rfl rfl rfl rfl rfl ?_
  refine a_cnt (j0 := 0) (fun j ls h => ∃ a0, ∃ a1, ls = [some (.ref 235), some (.int x1), some (.int a0), some (.int a1), some (.int (nI j))] ∧ h = hp I L w1 w2 t) (by decide) ⟨_, _, rfl, rfl⟩ ⟨rfl, rfl, rfl, rfl, rfl, trivial⟩ ?_
  rintro j14 _ _ hj14 ⟨a0_14, a1_14, rfl, rfl⟩ ih14
  refine a_l4 rfl rfl rfl ?_
  refine a_s rfl rfl ?_
  refine a_ic_ge rfl (fun c18 => ?_) (fun c18 => ?_)
  · refine a_l2 rfl rfl rfl ?_
    exact a_iret rfl rfl ⟨⟨_, rfl⟩, rfl⟩
  · refine a_l3 rfl rfl rfl ?_
    refine a_s rfl rfl ?_
    refine a_ic_eq rfl (fun c23 => ?_) (fun c23 => ?_)
    · refine a_l2 rfl rfl rfl ?_
      exact a_iret rfl rfl ⟨⟨_, rfl⟩, rfl⟩
    · refine a_l2 rfl rfl rfl ?_
      refine a_l3 rfl rfl rfl ?_
      refine a_eSN1 rfl lX4_19 mo_X11_bit (sp_X11_bit) rfl rfl rfl rfl ?_
      refine a_s rfl rfl ?_
      refine a_s2 rfl rfl rfl rfl rfl rfl ?_
      refine a_l0 rfl rfl rfl ?_
      refine a_getq rfl gfX4_9_5 rfl (rfl) ?_
      refine a_l3 rfl rfl rfl ?_
      refine a_eSN1 rfl lX4_15 mo_X11_at (sp_X11_at rfl) rfl rfl rfl rfl ?_
      refine a_s3 rfl rfl rfl rfl rfl rfl ?_
      refine a_i4 rfl rfl rfl ?_
      refine a_goto rfl ?_
      exact ih14 _ _ _ _ c18 ⟨_, _, rfl, rfl⟩ ⟨rfl, rfl, rfl, rfl, nS _, trivial⟩
theorem q_X4_leaningOn_235 {S : aS} {I : Nat → Nat → Int32} {L : Nat → Nat → Int64} {w1 w2 t : Nat} {x1 : Int32} : Sp S m_X4_leaningOn 14 0 0 [.ref 235, .int x1] (hp I L w1 w2 t) (QE isI (hp I L w1 w2 t)) nX := by
  refine Sp_of ok_X4_leaningOn rfl rfl ?_
  show AW S m_X4_leaningOn 14 _ _ 0 0 0 [some (.ref 235), some (.int x1), none, none] [] (hp I L w1 w2 t)
  refine a_s rfl rfl ?_
  refine a_s2 rfl rfl rfl rfl rfl rfl ?_
  refine a_s rfl rfl ?_
  refine a_s3 rfl rfl rfl rfl rfl rfl ?_
  refine a_cnt (j0 := 0) (fun j ls h => ∃ a0, ls = [some (.ref 235), some (.int x1), some (.int a0), some (.int (nI j))] ∧ h = hp I L w1 w2 t) (by decide) ⟨_, rfl, rfl⟩ ⟨rfl, rfl, rfl, rfl, trivial⟩ ?_
  rintro j4 _ _ hj4 ⟨a0_4, rfl, rfl⟩ ih4
  refine a_l3 rfl rfl rfl ?_
  refine a_l0 rfl rfl rfl ?_
  refine a_geti rfl gfX4_23_5 rfl ?_
  refine a_ic_ge rfl (fun c9 => ?_) (fun c9 => ?_)
  · refine a_l2 rfl rfl rfl ?_
    exact a_iret rfl rfl ⟨⟨_, rfl⟩, rfl⟩
  · refine a_l0 rfl rfl rfl ?_
    refine a_l3 rfl rfl rfl ?_
    refine a_gS rfl lX4_27 mo_X4_chainOf (q_X4_chainOf_235) rfl rfl rfl rfl (fun v' h' hv => ?_)
    obtain ⟨⟨v1, rfl⟩, rfl⟩ := hv
    refine a_l1 rfl rfl rfl ?_
    refine a_eSN1 rfl lX4_33 mo_X11_has (sp_X11_has) rfl rfl rfl rfl ?_
    refine a_if_eq rfl (fun c21 => ?_) (fun c21 => ?_)
    · refine a_i3 rfl rfl rfl ?_
      refine a_goto rfl ?_
      exact ih4 _ _ _ _ c9 ⟨_, rfl, rfl⟩ ⟨rfl, rfl, rfl, nS _, trivial⟩
    · refine a_l2 rfl rfl rfl ?_
      refine a_l3 rfl rfl rfl ?_
      refine a_eSN1 rfl lX4_19 mo_X11_bit (sp_X11_bit) rfl rfl rfl rfl ?_
      refine a_s rfl rfl ?_
      refine a_s2 rfl rfl rfl rfl rfl rfl ?_
      refine a_i3 rfl rfl rfl ?_
      refine a_goto rfl ?_
      exact ih4 _ _ _ _ c9 ⟨_, rfl, rfl⟩ ⟨rfl, rfl, rfl, nS _, trivial⟩
theorem q_X4_ringBits_235 {S : aS} {I : Nat → Nat → Int32} {L : Nat → Nat → Int64} {w1 w2 t : Nat} : Sp S m_X4_ringBits 14 0 0 [.ref 235] (hp I L w1 w2 t) (QE isI (hp I L w1 w2 t)) nX := by
  refine Sp_of ok_X4_ringBits rfl rfl ?_
  show AW S m_X4_ringBits 14 _ _ 0 0 0 [some (.ref 235), none, none] [] (hp I L w1 w2 t)
  refine a_s rfl rfl ?_
  refine a_s1 rfl rfl rfl rfl rfl rfl ?_
  refine a_s rfl rfl ?_
  refine a_s2 rfl rfl rfl rfl rfl rfl ?_
  refine a_cnt (j0 := 0) (fun j ls h => ∃ a0, ls = [some (.ref 235), some (.int a0), some (.int (nI j))] ∧ h = hp I L w1 w2 t) (by decide) ⟨_, rfl, rfl⟩ ⟨rfl, rfl, rfl, trivial⟩ ?_
  rintro j4 _ _ hj4 ⟨a0_4, rfl, rfl⟩ ih4
  refine a_l2 rfl rfl rfl ?_
  refine a_l0 rfl rfl rfl ?_
  refine a_geti rfl gfX4_23_5 rfl ?_
  refine a_ic_ge rfl (fun c9 => ?_) (fun c9 => ?_)
  · refine a_l1 rfl rfl rfl ?_
    exact a_iret rfl rfl ⟨⟨_, rfl⟩, rfl⟩
  · refine a_l0 rfl rfl rfl ?_
    refine a_l2 rfl rfl rfl ?_
    refine a_gS rfl lX4_27 mo_X4_chainOf (q_X4_chainOf_235) rfl rfl rfl rfl (fun v' h' hv => ?_)
    obtain ⟨⟨v1, rfl⟩, rfl⟩ := hv
    refine a_l2 rfl rfl rfl ?_
    refine a_eSN1 rfl lX4_33 mo_X11_has (sp_X11_has) rfl rfl rfl rfl ?_
    refine a_if_eq rfl (fun c21 => ?_) (fun c21 => ?_)
    · refine a_i2 rfl rfl rfl ?_
      refine a_goto rfl ?_
      exact ih4 _ _ _ _ c9 ⟨_, rfl, rfl⟩ ⟨rfl, rfl, nS _, trivial⟩
    · refine a_l1 rfl rfl rfl ?_
      refine a_l2 rfl rfl rfl ?_
      refine a_eSN1 rfl lX4_19 mo_X11_bit (sp_X11_bit) rfl rfl rfl rfl ?_
      refine a_s rfl rfl ?_
      refine a_s1 rfl rfl rfl rfl rfl rfl ?_
      refine a_i2 rfl rfl rfl ?_
      refine a_goto rfl ?_
      exact ih4 _ _ _ _ c9 ⟨_, rfl, rfl⟩ ⟨rfl, rfl, nS _, trivial⟩
theorem q_X5_isWaiting_235 {S : aS} {I : Nat → Nat → Int32} {L : Nat → Nat → Int64} {w1 w2 t : Nat} {x1 : Int32} : Sp S m_X5_isWaiting 13 0 0 [.ref 235, .int x1] (hp I L w1 w2 t) (QE isZ (hp I L w1 w2 t)) nX := by
  refine Sp_of ok_X5_isWaiting rfl rfl ?_
  show AW S m_X5_isWaiting 13 _ _ 0 0 0 [some (.ref 235), some (.int x1)] [] (hp I L w1 w2 t)
  refine a_l1 rfl rfl rfl ?_
  refine a_if_lt rfl (fun c1 => ?_) (fun c1 => ?_)
  · refine a_s rfl rfl ?_
    exact a_zret rfl rfl rfl ⟨⟨false, rfl⟩, rfl⟩
  · refine a_l1 rfl rfl rfl ?_
    refine a_l0 rfl rfl rfl ?_
    refine a_geti rfl gfX5_63_5 rfl ?_
    refine a_ic_ge rfl (fun c9 => ?_) (fun c9 => ?_)
    · refine a_s rfl rfl ?_
      exact a_zret rfl rfl rfl ⟨⟨false, rfl⟩, rfl⟩
    · refine a_l0 rfl rfl rfl ?_
      refine a_getq rfl gfX5_33_5 rfl (rfl) ?_
      refine a_l1 rfl rfl rfl ?_
      refine a_eSN1 rfl lX5_86 mo_X11_at (sp_X11_at rfl) rfl rfl rfl rfl ?_
      refine a_if_ne rfl (fun c20 => ?_) (fun c20 => ?_)
      · refine a_s rfl rfl ?_
        exact a_zret rfl rfl rfl ⟨⟨false, rfl⟩, rfl⟩
      · refine a_s rfl rfl ?_
        refine a_goto rfl ?_
        exact a_zret rfl rfl rfl ⟨⟨true, rfl⟩, rfl⟩
theorem q_X5_bitsIn_235 {S : aS} {I : Nat → Nat → Int32} {L : Nat → Nat → Int64} {w1 w2 t : Nat} {x1 : Int32} : Sp S m_X5_bitsIn 13 0 0 [.ref 235, .int x1] (hp I L w1 w2 t) (QE isI (hp I L w1 w2 t)) nX := by
  refine Sp_of ok_X5_bitsIn rfl rfl ?_
  show AW S m_X5_bitsIn 13 _ _ 0 0 0 [some (.ref 235), some (.int x1), none, none] [] (hp I L w1 w2 t)
  refine a_s rfl rfl ?_
  refine a_s2 rfl rfl rfl rfl rfl rfl ?_
  refine a_s rfl rfl ?_
  refine a_s3 rfl rfl rfl rfl rfl rfl ?_
  refine a_cnt (j0 := 0) (fun j ls h => ∃ a0, ls = [some (.ref 235), some (.int x1), some (.int a0), some (.int (nI j))] ∧ h = hp I L w1 w2 t) (by decide) ⟨_, rfl, rfl⟩ ⟨rfl, rfl, rfl, rfl, trivial⟩ ?_
  rintro j4 _ _ hj4 ⟨a0_4, rfl, rfl⟩ ih4
  refine a_l3 rfl rfl rfl ?_
  refine a_l0 rfl rfl rfl ?_
  refine a_geti rfl gfX5_63_5 rfl ?_
  refine a_ic_ge rfl (fun c9 => ?_) (fun c9 => ?_)
  · refine a_l2 rfl rfl rfl ?_
    exact a_iret rfl rfl ⟨⟨_, rfl⟩, rfl⟩
  · refine a_l0 rfl rfl rfl ?_
    refine a_getq rfl gfX5_33_5 rfl (rfl) ?_
    refine a_l3 rfl rfl rfl ?_
    refine a_eSN1 rfl lX5_86 mo_X11_at (sp_X11_at rfl) rfl rfl rfl rfl ?_
    refine a_l1 rfl rfl rfl ?_
    refine a_ic_ne rfl (fun c21 => ?_) (fun c21 => ?_)
    · refine a_i3 rfl rfl rfl ?_
      refine a_goto rfl ?_
      exact ih4 _ _ _ _ c9 ⟨_, rfl, rfl⟩ ⟨rfl, rfl, rfl, nS _, trivial⟩
    · refine a_l2 rfl rfl rfl ?_
      refine a_l3 rfl rfl rfl ?_
      refine a_eSN1 rfl lX5_97 mo_X11_bit (sp_X11_bit) rfl rfl rfl rfl ?_
      refine a_s rfl rfl ?_
      refine a_s2 rfl rfl rfl rfl rfl rfl ?_
      refine a_i3 rfl rfl rfl ?_
      refine a_goto rfl ?_
      exact ih4 _ _ _ _ c9 ⟨_, rfl, rfl⟩ ⟨rfl, rfl, rfl, nS _, trivial⟩
theorem q_X4_hoursOf_235 {S : aS} {I : Nat → Nat → Int32} {L : Nat → Nat → Int64} {w1 w2 t : Nat} {x1 : Int32} : Sp S m_X4_hoursOf 15 0 0 [.ref 235, .int x1] (hp I L w1 w2 t) (QE isI (hp I L w1 w2 t)) nX := by
  refine Sp_of ok_X4_hoursOf rfl rfl ?_
  show AW S m_X4_hoursOf 15 _ _ 0 0 0 [some (.ref 235), some (.int x1), none] [] (hp I L w1 w2 t)
  refine a_l0 rfl rfl rfl ?_
  refine a_gS rfl lX4_50 mo_X4_ringBits (q_X4_ringBits_235) rfl rfl rfl rfl (fun v' h' hv => ?_)
  obtain ⟨⟨v1, rfl⟩, rfl⟩ := hv
  refine a_l0 rfl rfl rfl ?_
  refine a_s rfl rfl ?_
  refine a_gV rfl lX4_47 mo_X5_bitsIn (q_X5_bitsIn_235) rfl rfl rfl ⟨5, _, rfl, rfl, rfl⟩ rfl (fun v' h' hv => ?_)
  obtain ⟨⟨v2, rfl⟩, rfl⟩ := hv
  refine a_s rfl rfl ?_
  refine a_s2 rfl rfl rfl rfl rfl rfl ?_
  refine a_l1 rfl rfl rfl ?_
  refine a_l2 rfl rfl rfl ?_
  refine a_s rfl rfl ?_
  refine a_if_eq rfl (fun c14 => ?_) (fun c14 => ?_)
  · refine a_l0 rfl rfl rfl ?_
    refine a_getq rfl gfX4_54_5 rfl (rfl) ?_
    refine a_l1 rfl rfl rfl ?_
    refine a_eSN1 rfl lX4_57 mo_X11_sumOver (sp_X11_sumOver rfl) rfl rfl rfl rfl ?_
    exact a_iret rfl rfl ⟨⟨_, rfl⟩, rfl⟩
  · refine a_s rfl rfl ?_
    refine a_goto rfl ?_
    exact a_iret rfl rfl ⟨⟨_, rfl⟩, rfl⟩
theorem q_X4_hoursTill_235 {S : aS} {I : Nat → Nat → Int32} {L : Nat → Nat → Int64} {w1 w2 t : Nat} {x1 : Int32} : Sp S m_X4_hoursTill 16 0 0 [.ref 235, .int x1] (hp I L w1 w2 t) (QE isI (hp I L w1 w2 t)) nX := by
  refine Sp_of ok_X4_hoursTill rfl rfl ?_
  show AW S m_X4_hoursTill 16 _ _ 0 0 0 [some (.ref 235), some (.int x1)] [] (hp I L w1 w2 t)
  refine a_l0 rfl rfl rfl ?_
  refine a_l1 rfl rfl rfl ?_
  refine a_gV rfl lX4_37 mo_X5_isWaiting (q_X5_isWaiting_235) rfl rfl rfl ⟨5, _, rfl, rfl, rfl⟩ rfl (fun v' h' hv => ?_)
  obtain ⟨⟨v1, rfl⟩, rfl⟩ := hv
  refine a_if_eq rfl (fun c5 => ?_) (fun c5 => ?_)
  · refine a_s rfl rfl ?_
    exact a_iret rfl rfl ⟨⟨_, rfl⟩, rfl⟩
  · refine a_l0 rfl rfl rfl ?_
    refine a_l1 rfl rfl rfl ?_
    refine a_eSN1 rfl lX4_19 mo_X11_bit (sp_X11_bit) rfl rfl rfl rfl ?_
    refine a_l0 rfl rfl rfl ?_
    refine a_l1 rfl rfl rfl ?_
    refine a_gS rfl lX4_27 mo_X4_chainOf (q_X4_chainOf_235) rfl rfl rfl rfl (fun v' h' hv => ?_)
    obtain ⟨⟨v2, rfl⟩, rfl⟩ := hv
    refine a_s rfl rfl ?_
    refine a_gS rfl lX4_41 mo_X4_hoursOf (q_X4_hoursOf_235) rfl rfl rfl rfl (fun v' h' hv => ?_)
    obtain ⟨⟨v3, rfl⟩, rfl⟩ := hv
    refine a_goto rfl ?_
    exact a_iret rfl rfl ⟨⟨_, rfl⟩, rfl⟩
theorem q_X5_olderThan_235 {S : aS} {I : Nat → Nat → Int32} {L : Nat → Nat → Int64} {w1 w2 t : Nat} {x1 : Int32} : Sp S m_X5_olderThan 14 0 0 [.ref 235, .int x1] (hp I L w1 w2 t) (QE isI (hp I L w1 w2 t)) nX := by
  refine Sp_of ok_X5_olderThan rfl rfl ?_
  show AW S m_X5_olderThan 14 _ _ 0 0 0 [some (.ref 235), some (.int x1), none, none] [] (hp I L w1 w2 t)
  refine a_s rfl rfl ?_
  refine a_s2 rfl rfl rfl rfl rfl rfl ?_
  refine a_s rfl rfl ?_
  refine a_s3 rfl rfl rfl rfl rfl rfl ?_
  refine a_cnt (j0 := 0) (fun j ls h => ∃ a0, ls = [some (.ref 235), some (.int x1), some (.int a0), some (.int (nI j))] ∧ h = hp I L w1 w2 t) (by decide) ⟨_, rfl, rfl⟩ ⟨rfl, rfl, rfl, rfl, trivial⟩ ?_
  rintro j4 _ _ hj4 ⟨a0_4, rfl, rfl⟩ ih4
  refine a_l3 rfl rfl rfl ?_
  refine a_l0 rfl rfl rfl ?_
  refine a_geti rfl gfX5_63_5 rfl ?_
  refine a_ic_ge rfl (fun c9 => ?_) (fun c9 => ?_)
  · refine a_l2 rfl rfl rfl ?_
    exact a_iret rfl rfl ⟨⟨_, rfl⟩, rfl⟩
  · refine a_l0 rfl rfl rfl ?_
    refine a_l3 rfl rfl rfl ?_
    refine a_gV rfl lX5_90 mo_X5_isWaiting (q_X5_isWaiting_235) rfl rfl rfl ⟨5, _, rfl, rfl, rfl⟩ rfl (fun v' h' hv => ?_)
    obtain ⟨⟨v1, rfl⟩, rfl⟩ := hv
    refine a_if_eq rfl (fun c17 => ?_) (fun c17 => ?_)
    · refine a_i3 rfl rfl rfl ?_
      refine a_goto rfl ?_
      exact ih4 _ _ _ _ c9 ⟨_, rfl, rfl⟩ ⟨rfl, rfl, rfl, nS _, trivial⟩
    · refine a_l0 rfl rfl rfl ?_
      refine a_getq rfl gfX5_24_5 rfl (rfl) ?_
      refine a_l3 rfl rfl rfl ?_
      refine a_eSN1 rfl lX5_86 mo_X11_at (sp_X11_at rfl) rfl rfl rfl rfl ?_
      refine a_l1 rfl rfl rfl ?_
      refine a_ic_le rfl (fun c29 => ?_) (fun c29 => ?_)
      · refine a_i3 rfl rfl rfl ?_
        refine a_goto rfl ?_
        exact ih4 _ _ _ _ c9 ⟨_, rfl, rfl⟩ ⟨rfl, rfl, rfl, nS _, trivial⟩
      · refine a_l2 rfl rfl rfl ?_
        refine a_l3 rfl rfl rfl ?_
        refine a_eSN1 rfl lX5_97 mo_X11_bit (sp_X11_bit) rfl rfl rfl rfl ?_
        refine a_s rfl rfl ?_
        refine a_s2 rfl rfl rfl rfl rfl rfl ?_
        refine a_i3 rfl rfl rfl ?_
        refine a_goto rfl ?_
        exact ih4 _ _ _ _ c9 ⟨_, rfl, rfl⟩ ⟨rfl, rfl, rfl, nS _, trivial⟩
theorem q_X4_hoursTillYoung_235 {S : aS} {I : Nat → Nat → Int32} {L : Nat → Nat → Int64} {w1 w2 t : Nat} {x1 : Int32} : Sp S m_X4_hoursTillYoung 16 0 0 [.ref 235, .int x1] (hp I L w1 w2 t) (QE isI (hp I L w1 w2 t)) nX := by
  refine Sp_of ok_X4_hoursTillYoung rfl rfl ?_
  show AW S m_X4_hoursTillYoung 16 _ _ 0 0 0 [some (.ref 235), some (.int x1), none, none, none] [] (hp I L w1 w2 t)
  refine a_l0 rfl rfl rfl ?_
  refine a_l1 rfl rfl rfl ?_
  refine a_gV rfl lX4_44 mo_X5_olderThan (q_X5_olderThan_235) rfl rfl rfl ⟨5, _, rfl, rfl, rfl⟩ rfl (fun v' h' hv => ?_)
  obtain ⟨⟨v1, rfl⟩, rfl⟩ := hv
  refine a_s2 rfl rfl rfl rfl rfl rfl ?_
  refine a_l2 rfl rfl rfl ?_
  refine a_s3 rfl rfl rfl rfl rfl rfl ?_
  refine a_s rfl rfl ?_
  refine a_s4 rfl rfl rfl rfl rfl rfl ?_
  refine a_cnt (j0 := 0) (fun j ls h => ∃ a0, ls = [some (.ref 235), some (.int x1), some (.int v1), some (.int a0), some (.int (nI j))] ∧ h = hp I L w1 w2 t) (by decide) ⟨_, rfl, rfl⟩ ⟨rfl, rfl, rfl, rfl, rfl, trivial⟩ ?_
  rintro j11 _ _ hj11 ⟨a0_11, rfl, rfl⟩ ih11
  refine a_l4 rfl rfl rfl ?_
  refine a_l0 rfl rfl rfl ?_
  refine a_geti rfl gfX4_23_5 rfl ?_
  refine a_ic_ge rfl (fun c17 => ?_) (fun c17 => ?_)
  · refine a_l0 rfl rfl rfl ?_
    refine a_l3 rfl rfl rfl ?_
    refine a_l0 rfl rfl rfl ?_
    refine a_s rfl rfl ?_
    refine a_gV rfl lX4_47 mo_X5_bitsIn (q_X5_bitsIn_235) rfl rfl rfl ⟨5, _, rfl, rfl, rfl⟩ rfl (fun v' h' hv => ?_)
    obtain ⟨⟨v2, rfl⟩, rfl⟩ := hv
    refine a_s rfl rfl ?_
    refine a_s rfl rfl ?_
    refine a_s rfl rfl ?_
    refine a_gS rfl lX4_41 mo_X4_hoursOf (q_X4_hoursOf_235) rfl rfl rfl rfl (fun v' h' hv => ?_)
    obtain ⟨⟨v3, rfl⟩, rfl⟩ := hv
    exact a_iret rfl rfl ⟨⟨_, rfl⟩, rfl⟩
  · refine a_l2 rfl rfl rfl ?_
    refine a_l4 rfl rfl rfl ?_
    refine a_eSN1 rfl lX4_33 mo_X11_has (sp_X11_has) rfl rfl rfl rfl ?_
    refine a_if_eq rfl (fun c26 => ?_) (fun c26 => ?_)
    · refine a_i4 rfl rfl rfl ?_
      refine a_goto rfl ?_
      exact ih11 _ _ _ _ c17 ⟨_, rfl, rfl⟩ ⟨rfl, rfl, rfl, rfl, nS _, trivial⟩
    · refine a_l3 rfl rfl rfl ?_
      refine a_l0 rfl rfl rfl ?_
      refine a_l4 rfl rfl rfl ?_
      refine a_gS rfl lX4_27 mo_X4_chainOf (q_X4_chainOf_235) rfl rfl rfl rfl (fun v' h' hv => ?_)
      obtain ⟨⟨v4, rfl⟩, rfl⟩ := hv
      refine a_s rfl rfl ?_
      refine a_s3 rfl rfl rfl rfl rfl rfl ?_
      refine a_i4 rfl rfl rfl ?_
      refine a_goto rfl ?_
      exact ih11 _ _ _ _ c17 ⟨_, rfl, rfl⟩ ⟨rfl, rfl, rfl, rfl, nS _, trivial⟩
theorem q_X5_ownedBy_235 {S : aS} {I : Nat → Nat → Int32} {L : Nat → Nat → Int64} {w1 w2 t : Nat} {x1 : Int32} : Sp S m_X5_ownedBy 13 0 0 [.ref 235, .int x1] (hp I L w1 w2 t) (QE isI (hp I L w1 w2 t)) nX := by
  refine Sp_of ok_X5_ownedBy rfl rfl ?_
  show AW S m_X5_ownedBy 13 _ _ 0 0 0 [some (.ref 235), some (.int x1), none, none] [] (hp I L w1 w2 t)
  refine a_s rfl rfl ?_
  refine a_s2 rfl rfl rfl rfl rfl rfl ?_
  refine a_s rfl rfl ?_
  refine a_s3 rfl rfl rfl rfl rfl rfl ?_
  refine a_cnt (j0 := 0) (fun j ls h => ∃ a0, ls = [some (.ref 235), some (.int x1), some (.int a0), some (.int (nI j))] ∧ h = hp I L w1 w2 t) (by decide) ⟨_, rfl, rfl⟩ ⟨rfl, rfl, rfl, rfl, trivial⟩ ?_
  rintro j4 _ _ hj4 ⟨a0_4, rfl, rfl⟩ ih4
  refine a_l3 rfl rfl rfl ?_
  refine a_l0 rfl rfl rfl ?_
  refine a_geti rfl gfX5_63_5 rfl ?_
  refine a_ic_ge rfl (fun c9 => ?_) (fun c9 => ?_)
  · refine a_l2 rfl rfl rfl ?_
    exact a_iret rfl rfl ⟨⟨_, rfl⟩, rfl⟩
  · refine a_l0 rfl rfl rfl ?_
    refine a_getq rfl gfX5_18_5 rfl (rfl) ?_
    refine a_l3 rfl rfl rfl ?_
    refine a_eSN1 rfl lX5_86 mo_X11_at (sp_X11_at rfl) rfl rfl rfl rfl ?_
    refine a_l1 rfl rfl rfl ?_
    refine a_ic_ne rfl (fun c21 => ?_) (fun c21 => ?_)
    · refine a_i3 rfl rfl rfl ?_
      refine a_goto rfl ?_
      exact ih4 _ _ _ _ c9 ⟨_, rfl, rfl⟩ ⟨rfl, rfl, rfl, nS _, trivial⟩
    · refine a_l2 rfl rfl rfl ?_
      refine a_l3 rfl rfl rfl ?_
      refine a_eSN1 rfl lX5_97 mo_X11_bit (sp_X11_bit) rfl rfl rfl rfl ?_
      refine a_s rfl rfl ?_
      refine a_s2 rfl rfl rfl rfl rfl rfl ?_
      refine a_i3 rfl rfl rfl ?_
      refine a_goto rfl ?_
      exact ih4 _ _ _ _ c9 ⟨_, rfl, rfl⟩ ⟨rfl, rfl, rfl, nS _, trivial⟩
theorem q_X5_loadOf_235 {S : aS} {I : Nat → Nat → Int32} {L : Nat → Nat → Int64} {w1 w2 t : Nat} {x1 : Int32} : Sp S m_X5_loadOf 14 0 0 [.ref 235, .int x1] (hp I L w1 w2 t) (QE isI (hp I L w1 w2 t)) nX := by
  refine Sp_of ok_X5_loadOf rfl rfl ?_
  show AW S m_X5_loadOf 14 _ _ 0 0 0 [some (.ref 235), some (.int x1)] [] (hp I L w1 w2 t)
  refine a_l0 rfl rfl rfl ?_
  refine a_getq rfl gfX5_21_5 rfl (rfl) ?_
  refine a_l0 rfl rfl rfl ?_
  refine a_s rfl rfl ?_
  refine a_gV rfl lX5_104 mo_X5_bitsIn (q_X5_bitsIn_235) rfl rfl rfl ⟨5, _, rfl, rfl, rfl⟩ rfl (fun v' h' hv => ?_)
  obtain ⟨⟨v1, rfl⟩, rfl⟩ := hv
  refine a_l0 rfl rfl rfl ?_
  refine a_l1 rfl rfl rfl ?_
  refine a_gV rfl lX5_107 mo_X5_ownedBy (q_X5_ownedBy_235) rfl rfl rfl ⟨5, _, rfl, rfl, rfl⟩ rfl (fun v' h' hv => ?_)
  obtain ⟨⟨v2, rfl⟩, rfl⟩ := hv
  refine a_s rfl rfl ?_
  refine a_eSN1 rfl lX5_110 mo_X11_sumOver (sp_X11_sumOver rfl) rfl rfl rfl rfl ?_
  exact a_iret rfl rfl ⟨⟨_, rfl⟩, rfl⟩
theorem q_X0_gainOf_235 {S : aS} {I : Nat → Nat → Int32} {L : Nat → Nat → Int64} {w1 w2 t : Nat} {x1 x2 : Int32} : Sp S m_X0_gainOf 15 0 0 [.ref 235, .int x1, .int x2] (hp I L w1 w2 t) (QE isI (hp I L w1 w2 t)) nX := by
  refine Sp_of ok_X0_gainOf rfl rfl ?_
  show AW S m_X0_gainOf 15 _ _ 0 0 0 [some (.ref 235), some (.int x1), some (.int x2), none, none] [] (hp I L w1 w2 t)
  refine a_l0 rfl rfl rfl ?_
  refine a_l1 rfl rfl rfl ?_
  refine a_gV rfl lX0_91 mo_X5_loadOf (q_X5_loadOf_235) rfl rfl rfl ⟨5, _, rfl, rfl, rfl⟩ rfl (fun v' h' hv => ?_)
  obtain ⟨⟨v1, rfl⟩, rfl⟩ := hv
  refine a_s3 rfl rfl rfl rfl rfl rfl ?_
  refine a_l0 rfl rfl rfl ?_
  refine a_getq rfl gfX0_94_5 rfl (rfl) ?_
  refine a_l1 rfl rfl rfl ?_
  refine a_eSN1 rfl lX0_52 mo_X11_at (sp_X11_at rfl) rfl rfl rfl rfl ?_
  refine a_s4 rfl rfl rfl rfl rfl rfl ?_
  refine a_l3 rfl rfl rfl ?_
  refine a_l4 rfl rfl rfl ?_
  refine a_eSN1 rfl lX0_97 mo_X11_needsOf (sp_X11_needsOf) rfl rfl rfl rfl ?_
  refine a_l3 rfl rfl rfl ?_
  refine a_l2 rfl rfl rfl ?_
  refine a_s rfl rfl ?_
  refine a_l4 rfl rfl rfl ?_
  refine a_eSN1 rfl lX0_97 mo_X11_needsOf (sp_X11_needsOf) rfl rfl rfl rfl ?_
  refine a_s rfl rfl ?_
  exact a_iret rfl rfl ⟨⟨_, rfl⟩, rfl⟩
theorem q_X0_firstSwap_235 {S : aS} {I : Nat → Nat → Int32} {L : Nat → Nat → Int64} {w1 w2 t : Nat} {x1 x2 : Int32} : Sp S m_X0_firstSwap 16 0 0 [.ref 235, .int x1, .int x2] (hp I L w1 w2 t) (QE isI (hp I L w1 w2 t)) nX := by
  refine Sp_of ok_X0_firstSwap rfl rfl ?_
  show AW S m_X0_firstSwap 16 _ _ 0 0 0 [some (.ref 235), some (.int x1), some (.int x2), none, none, none, none, none, none, none, none] [] (hp I L w1 w2 t)
  refine a_l0 rfl rfl rfl ?_
  refine a_s rfl rfl ?_
  refine a_gV rfl lX0_59 mo_X5_bitsIn (q_X5_bitsIn_235) rfl rfl rfl ⟨5, _, rfl, rfl, rfl⟩ rfl (fun v' h' hv => ?_)
  obtain ⟨⟨v1, rfl⟩, rfl⟩ := hv
  refine a_s3 rfl rfl rfl rfl rfl rfl ?_
  refine a_l3 rfl rfl rfl ?_
  refine a_l0 rfl rfl rfl ?_
  refine a_l1 rfl rfl rfl ?_
  refine a_gV rfl lX0_84 mo_X5_ownedBy (q_X5_ownedBy_235) rfl rfl rfl ⟨5, _, rfl, rfl, rfl⟩ rfl (fun v' h' hv => ?_)
  obtain ⟨⟨v2, rfl⟩, rfl⟩ := hv
  refine a_s rfl rfl ?_
  refine a_s4 rfl rfl rfl rfl rfl rfl ?_
  refine a_l3 rfl rfl rfl ?_
  refine a_l0 rfl rfl rfl ?_
  refine a_l2 rfl rfl rfl ?_
  refine a_gV rfl lX0_84 mo_X5_ownedBy (q_X5_ownedBy_235) rfl rfl rfl ⟨5, _, rfl, rfl, rfl⟩ rfl (fun v' h' hv => ?_)
  obtain ⟨⟨v3, rfl⟩, rfl⟩ := hv
  refine a_s rfl rfl ?_
  refine a_s5 rfl rfl rfl rfl rfl rfl ?_
  refine a_s rfl rfl ?_
  refine a_s6 rfl rfl rfl rfl rfl rfl ?_
  refine a_cnt (j0 := 0) (fun j ls h => ∃ a0, ∃ a1, ls = [some (.ref 235), some (.int x1), some (.int x2), some (.int v1), some (.int a0), some (.int a1), some (.int (nI j)), none, none, none, none] ∧ h = hp I L w1 w2 t) (by decide) ⟨_, _, rfl, rfl⟩ ⟨rfl, rfl, rfl, rfl, rfl, rfl, rfl, trivial⟩ ?_
  rintro j27 _ _ hj27 ⟨a0_27, a1_27, rfl, rfl⟩ ih27
  refine a_l6 rfl rfl rfl ?_
  refine a_l0 rfl rfl rfl ?_
  refine a_geti rfl gfX0_24_5 rfl ?_
  refine a_ic_ge rfl (fun c33 => ?_) (fun c33 => ?_)
  · refine a_s rfl rfl ?_
    exact a_iret rfl rfl ⟨⟨_, rfl⟩, rfl⟩
  · refine a_s rfl rfl ?_
    refine a_s7 rfl rfl rfl rfl rfl rfl ?_
    refine a_cnt (j0 := 0) (fun j ls h => ls = [some (.ref 235), some (.int x1), some (.int x2), some (.int v1), some (.int a0_27), some (.int a1_27), some (.int (nI j27)), some (.int (nI j)), none, none, none] ∧ h = hp I L w1 w2 t) (by decide) ⟨rfl, rfl⟩ ⟨rfl, rfl, rfl, rfl, rfl, rfl, rfl, rfl, trivial⟩ ?_
    rintro j39 _ _ hj39 ⟨rfl, rfl⟩ ih39
    refine a_l7 rfl rfl rfl ?_
    refine a_l0 rfl rfl rfl ?_
    refine a_geti rfl gfX0_24_5 rfl ?_
    refine a_ic_ge rfl (fun c45 => ?_) (fun c45 => ?_)
    · refine a_i6 rfl rfl rfl ?_
      refine a_goto rfl ?_
      exact ih27 _ _ _ _ c33 ⟨_, _, rfl, rfl⟩ ⟨rfl, rfl, rfl, rfl, rfl, rfl, nS _, trivial⟩
    · refine a_l4 rfl rfl rfl ?_
      refine a_l6 rfl rfl rfl ?_
      refine a_eSN1 rfl lX0_45 mo_X11_has (sp_X11_has) rfl rfl rfl rfl ?_
      refine a_if_eq rfl (fun c55 => ?_) (fun c55 => ?_)
      · refine a_i7 rfl rfl rfl ?_
        refine a_goto rfl ?_
        exact ih39 _ _ _ _ c45 ⟨rfl, rfl⟩ ⟨rfl, rfl, rfl, rfl, rfl, rfl, rfl, nS _, trivial⟩
      · refine a_l5 rfl rfl rfl ?_
        refine a_l7 rfl rfl rfl ?_
        refine a_eSN1 rfl lX0_45 mo_X11_has (sp_X11_has) rfl rfl rfl rfl ?_
        refine a_if_eq rfl (fun c65 => ?_) (fun c65 => ?_)
        · refine a_i7 rfl rfl rfl ?_
          refine a_goto rfl ?_
          exact ih39 _ _ _ _ c45 ⟨rfl, rfl⟩ ⟨rfl, rfl, rfl, rfl, rfl, rfl, rfl, nS _, trivial⟩
        · refine a_l0 rfl rfl rfl ?_
          refine a_getq rfl gfX0_68_5 rfl (rfl) ?_
          refine a_l7 rfl rfl rfl ?_
          refine a_eSN1 rfl lX0_52 mo_X11_at (sp_X11_at rfl) rfl rfl rfl rfl ?_
          refine a_l0 rfl rfl rfl ?_
          refine a_getq rfl gfX0_68_5 rfl (rfl) ?_
          refine a_l6 rfl rfl rfl ?_
          refine a_eSN1 rfl lX0_52 mo_X11_at (sp_X11_at rfl) rfl rfl rfl rfl ?_
          refine a_s rfl rfl ?_
          refine a_s8 rfl rfl rfl rfl rfl rfl ?_
          refine a_l0 rfl rfl rfl ?_
          refine a_l1 rfl rfl rfl ?_
          refine a_l8 rfl rfl rfl ?_
          refine a_gS rfl lX0_87 mo_X0_gainOf (q_X0_gainOf_235) rfl rfl rfl rfl (fun v' h' hv => ?_)
          obtain ⟨⟨v4, rfl⟩, rfl⟩ := hv
          refine a_s9 rfl rfl rfl rfl rfl rfl ?_
          refine a_l0 rfl rfl rfl ?_
          refine a_l2 rfl rfl rfl ?_
          refine a_l8 rfl rfl rfl ?_
          refine a_s rfl rfl ?_
          refine a_gS rfl lX0_87 mo_X0_gainOf (q_X0_gainOf_235) rfl rfl rfl rfl (fun v' h' hv => ?_)
          obtain ⟨⟨v5, rfl⟩, rfl⟩ := hv
          refine a_s10 rfl rfl rfl rfl rfl rfl ?_
          refine a_l9 rfl rfl rfl ?_
          refine a_if_lt rfl (fun c110 => ?_) (fun c110 => ?_)
          · refine a_i7 rfl rfl rfl ?_
            refine a_goto rfl ?_
            exact ih39 _ _ _ _ c45 ⟨rfl, rfl⟩ ⟨rfl, rfl, rfl, rfl, rfl, rfl, rfl, nS _, trivial⟩
          · refine a_l10 rfl rfl rfl ?_
            refine a_if_lt rfl (fun c115 => ?_) (fun c115 => ?_)
            · refine a_i7 rfl rfl rfl ?_
              refine a_goto rfl ?_
              exact ih39 _ _ _ _ c45 ⟨rfl, rfl⟩ ⟨rfl, rfl, rfl, rfl, rfl, rfl, rfl, nS _, trivial⟩
            · refine a_l9 rfl rfl rfl ?_
              refine a_l10 rfl rfl rfl ?_
              refine a_s rfl rfl ?_
              refine a_if_le rfl (fun c123 => ?_) (fun c123 => ?_)
              · refine a_i7 rfl rfl rfl ?_
                refine a_goto rfl ?_
                exact ih39 _ _ _ _ c45 ⟨rfl, rfl⟩ ⟨rfl, rfl, rfl, rfl, rfl, rfl, rfl, nS _, trivial⟩
              · refine a_s rfl rfl ?_
                refine a_l6 rfl rfl rfl ?_
                refine a_s rfl rfl ?_
                refine a_l7 rfl rfl rfl ?_
                refine a_s rfl rfl ?_
                exact a_iret rfl rfl ⟨⟨_, rfl⟩, rfl⟩
theorem q_X0_payOf {S : aS} {I : Nat → Nat → Int32} {L : Nat → Nat → Int64} {w1 w2 t : Nat} {x0 x1 x2 x3 : Int32} : Sp S m_X0_payOf 12 0 0 [.int x0, .int x1, .int x2, .int x3] (hp I L w1 w2 t) (QE isI (hp I L w1 w2 t)) nX := by
  refine Sp_of ok_X0_payOf rfl rfl ?_
  show AW S m_X0_payOf 12 _ _ 0 0 0 [some (.int x0), some (.int x1), some (.int x2), some (.int x3)] [] (hp I L w1 w2 t)
  refine a_l0 rfl rfl rfl ?_
  refine a_if_ne rfl (fun c1 => ?_) (fun c1 => ?_)
  · refine a_l1 rfl rfl rfl ?_
    refine a_if_ne rfl (fun c21 => ?_) (fun c21 => ?_)
    · refine a_l2 rfl rfl rfl ?_
      refine a_s rfl rfl ?_
      exact a_iret rfl rfl ⟨⟨_, rfl⟩, rfl⟩
    · refine a_l2 rfl rfl rfl ?_
      refine a_goto rfl ?_
      exact a_iret rfl rfl ⟨⟨_, rfl⟩, rfl⟩
  · refine a_l1 rfl rfl rfl ?_
    refine a_if_ne rfl (fun c5 => ?_) (fun c5 => ?_)
    · refine a_l2 rfl rfl rfl ?_
      refine a_l3 rfl rfl rfl ?_
      refine a_s rfl rfl ?_
      exact a_iret rfl rfl ⟨⟨_, rfl⟩, rfl⟩
    · refine a_l2 rfl rfl rfl ?_
      refine a_l3 rfl rfl rfl ?_
      refine a_s rfl rfl ?_
      refine a_idiv rfl (by decide) ?_
      refine a_s rfl rfl ?_
      refine a_goto rfl ?_
      exact a_iret rfl rfl ⟨⟨_, rfl⟩, rfl⟩
theorem q_X0_isBest {S : aS} {I : Nat → Nat → Int32} {L : Nat → Nat → Int64} {w1 w2 t : Nat} {x0 x1 x2 x3 : Int32} : Sp S m_X0_isBest 13 0 0 [.int x0, .int x1, .int x2, .int x3] (hp I L w1 w2 t) (QE isZ (hp I L w1 w2 t)) nX := by
  refine Sp_of ok_X0_isBest rfl rfl ?_
  show AW S m_X0_isBest 13 _ _ 0 0 0 [some (.int x0), some (.int x1), some (.int x2), some (.int x3)] [] (hp I L w1 w2 t)
  refine a_l0 rfl rfl rfl ?_
  refine a_l1 rfl rfl rfl ?_
  refine a_l2 rfl rfl rfl ?_
  refine a_l3 rfl rfl rfl ?_
  refine a_gS rfl lX0_105 mo_X0_payOf (q_X0_payOf) rfl rfl rfl rfl (fun v' h' hv => ?_)
  obtain ⟨⟨v1, rfl⟩, rfl⟩ := hv
  refine a_s rfl rfl ?_
  refine a_l0 rfl rfl rfl ?_
  refine a_s rfl rfl ?_
  refine a_l1 rfl rfl rfl ?_
  refine a_l2 rfl rfl rfl ?_
  refine a_l3 rfl rfl rfl ?_
  refine a_gS rfl lX0_105 mo_X0_payOf (q_X0_payOf) rfl rfl rfl rfl (fun v' h' hv => ?_)
  obtain ⟨⟨v2, rfl⟩, rfl⟩ := hv
  refine a_ic_lt rfl (fun c16 => ?_) (fun c16 => ?_)
  · refine a_s rfl rfl ?_
    exact a_zret rfl rfl rfl ⟨⟨false, rfl⟩, rfl⟩
  · refine a_s rfl rfl ?_
    refine a_goto rfl ?_
    exact a_zret rfl rfl rfl ⟨⟨true, rfl⟩, rfl⟩
theorem q_X0_restingChoices {S : aS} {I : Nat → Nat → Int32} {L : Nat → Nat → Int64} {w1 w2 t : Nat} {x0 x1 : Int32} : Sp S m_X0_restingChoices 14 0 0 [.int x0, .int x1] (hp I L w1 w2 t) (QE isI (hp I L w1 w2 t)) nX := by
  refine Sp_of ok_X0_restingChoices rfl rfl ?_
  show AW S m_X0_restingChoices 14 _ _ 0 0 0 [some (.int x0), some (.int x1), none, none, none] [] (hp I L w1 w2 t)
  refine a_s rfl rfl ?_
  refine a_s2 rfl rfl rfl rfl rfl rfl ?_
  refine a_s rfl rfl ?_
  refine a_s3 rfl rfl rfl rfl rfl rfl ?_
  refine a_cnt (j0 := 0) (fun j ls h => ∃ a0, ls = [some (.int x0), some (.int x1), some (.int a0), some (.int (nI j)), none] ∧ h = hp I L w1 w2 t) (by decide) ⟨_, rfl, rfl⟩ ⟨rfl, rfl, rfl, rfl, trivial⟩ ?_
  rintro j4 _ _ hj4 ⟨a0_4, rfl, rfl⟩ ih4
  refine a_l3 rfl rfl rfl ?_
  refine a_s rfl rfl ?_
  refine a_ic_ge rfl (fun c6 => ?_) (fun c6 => ?_)
  · refine a_l2 rfl rfl rfl ?_
    exact a_iret rfl rfl ⟨⟨_, rfl⟩, rfl⟩
  · refine a_s rfl rfl ?_
    refine a_s4 rfl rfl rfl rfl rfl rfl ?_
    refine a_cnt (j0 := 0) (fun j ls h => ∃ a0, ls = [some (.int x0), some (.int x1), some (.int a0), some (.int (nI j4)), some (.int (nI j))] ∧ h = hp I L w1 w2 t) (by decide) ⟨_, rfl, rfl⟩ ⟨rfl, rfl, rfl, rfl, rfl, trivial⟩ ?_
    rintro j12 _ _ hj12 ⟨a0_12, rfl, rfl⟩ ih12
    refine a_l4 rfl rfl rfl ?_
    refine a_s rfl rfl ?_
    refine a_ic_ge rfl (fun c15 => ?_) (fun c15 => ?_)
    · refine a_i3 rfl rfl rfl ?_
      refine a_goto rfl ?_
      exact ih4 _ _ _ _ c6 ⟨_, rfl, rfl⟩ ⟨rfl, rfl, rfl, nS _, trivial⟩
    · refine a_l3 rfl rfl rfl ?_
      refine a_l4 rfl rfl rfl ?_
      refine a_l0 rfl rfl rfl ?_
      refine a_l1 rfl rfl rfl ?_
      refine a_gS rfl lX0_101 mo_X0_isBest (q_X0_isBest) rfl rfl rfl rfl (fun v' h' hv => ?_)
      obtain ⟨⟨v1, rfl⟩, rfl⟩ := hv
      refine a_if_eq rfl (fun c26 => ?_) (fun c26 => ?_)
      · refine a_i4 rfl rfl rfl ?_
        refine a_goto rfl ?_
        exact ih12 _ _ _ _ c15 ⟨_, rfl, rfl⟩ ⟨rfl, rfl, rfl, rfl, nS _, trivial⟩
      · refine a_l4 rfl rfl rfl ?_
        refine a_l3 rfl rfl rfl ?_
        refine a_l0 rfl rfl rfl ?_
        refine a_l1 rfl rfl rfl ?_
        refine a_gS rfl lX0_101 mo_X0_isBest (q_X0_isBest) rfl rfl rfl rfl (fun v' h' hv => ?_)
        obtain ⟨⟨v2, rfl⟩, rfl⟩ := hv
        refine a_if_eq rfl (fun c37 => ?_) (fun c37 => ?_)
        · refine a_i4 rfl rfl rfl ?_
          refine a_goto rfl ?_
          exact ih12 _ _ _ _ c15 ⟨_, rfl, rfl⟩ ⟨rfl, rfl, rfl, rfl, nS _, trivial⟩
        · refine a_l2 rfl rfl rfl ?_
          refine a_s rfl rfl ?_
          refine a_l3 rfl rfl rfl ?_
          refine a_s rfl rfl ?_
          refine a_l4 rfl rfl rfl ?_
          refine a_s rfl rfl ?_
          refine a_eSN1 rfl lX0_56 mo_X11_bit (sp_X11_bit) rfl rfl rfl rfl ?_
          refine a_s rfl rfl ?_
          refine a_s2 rfl rfl rfl rfl rfl rfl ?_
          refine a_i4 rfl rfl rfl ?_
          refine a_goto rfl ?_
          exact ih12 _ _ _ _ c15 ⟨_, rfl, rfl⟩ ⟨rfl, rfl, rfl, rfl, nS _, trivial⟩
theorem q_X11_fault_200 {S : aS} {I : Nat → Nat → Int32} {L : Nat → Nat → Int64} {w1 w2 t : Nat} : Sp S m_X11_fault 12 0 0 [.ref 200] (hp I L w1 w2 t) (QE isI (hp I L w1 w2 t)) nX := by
  refine Sp_of ok_X11_fault rfl rfl ?_
  show AW S m_X11_fault 12 _ _ 0 0 0 [some (.ref 200)] [] (hp I L w1 w2 t)
  refine a_l0 rfl rfl rfl ?_
  refine a_geti rfl gfX11_30_11 rfl ?_
  exact a_iret rfl rfl ⟨⟨_, rfl⟩, rfl⟩
theorem q_X5_isReady_235 {S : aS} {I : Nat → Nat → Int32} {L : Nat → Nat → Int64} {w1 w2 t : Nat} {x1 : Int32} : Sp S m_X5_isReady 14 0 0 [.ref 235, .int x1] (hp I L w1 w2 t) (QE isZ (hp I L w1 w2 t)) nX := by
  refine Sp_of ok_X5_isReady rfl rfl ?_
  show AW S m_X5_isReady 14 _ _ 0 0 0 [some (.ref 235), some (.int x1)] [] (hp I L w1 w2 t)
  refine a_l0 rfl rfl rfl ?_
  refine a_l1 rfl rfl rfl ?_
  refine a_gV rfl lX5_90 mo_X5_isWaiting (q_X5_isWaiting_235) rfl rfl rfl ⟨5, _, rfl, rfl, rfl⟩ rfl (fun v' h' hv => ?_)
  obtain ⟨⟨v1, rfl⟩, rfl⟩ := hv
  refine a_if_eq rfl (fun c5 => ?_) (fun c5 => ?_)
  · refine a_s rfl rfl ?_
    exact a_zret rfl rfl rfl ⟨⟨false, rfl⟩, rfl⟩
  · refine a_l0 rfl rfl rfl ?_
    refine a_l1 rfl rfl rfl ?_
    refine a_gV rfl lX5_94 mo_X5_leansFreely (q_X5_leansFreely_235) rfl rfl rfl ⟨5, _, rfl, rfl, rfl⟩ rfl (fun v' h' hv => ?_)
    obtain ⟨⟨v2, rfl⟩, rfl⟩ := hv
    refine a_if_eq rfl (fun c13 => ?_) (fun c13 => ?_)
    · refine a_s rfl rfl ?_
      exact a_zret rfl rfl rfl ⟨⟨false, rfl⟩, rfl⟩
    · refine a_s rfl rfl ?_
      refine a_goto rfl ?_
      exact a_zret rfl rfl rfl ⟨⟨true, rfl⟩, rfl⟩
theorem q_X5_readyBits_235 {S : aS} {I : Nat → Nat → Int32} {L : Nat → Nat → Int64} {w1 w2 t : Nat} : Sp S m_X5_readyBits 15 0 0 [.ref 235] (hp I L w1 w2 t) (QE isI (hp I L w1 w2 t)) nX := by
  refine Sp_of ok_X5_readyBits rfl rfl ?_
  show AW S m_X5_readyBits 15 _ _ 0 0 0 [some (.ref 235), none, none] [] (hp I L w1 w2 t)
  refine a_s rfl rfl ?_
  refine a_s1 rfl rfl rfl rfl rfl rfl ?_
  refine a_s rfl rfl ?_
  refine a_s2 rfl rfl rfl rfl rfl rfl ?_
  refine a_cnt (j0 := 0) (fun j ls h => ∃ a0, ls = [some (.ref 235), some (.int a0), some (.int (nI j))] ∧ h = hp I L w1 w2 t) (by decide) ⟨_, rfl, rfl⟩ ⟨rfl, rfl, rfl, trivial⟩ ?_
  rintro j4 _ _ hj4 ⟨a0_4, rfl, rfl⟩ ih4
  refine a_l2 rfl rfl rfl ?_
  refine a_l0 rfl rfl rfl ?_
  refine a_geti rfl gfX5_63_5 rfl ?_
  refine a_ic_ge rfl (fun c9 => ?_) (fun c9 => ?_)
  · refine a_l1 rfl rfl rfl ?_
    exact a_iret rfl rfl ⟨⟨_, rfl⟩, rfl⟩
  · refine a_l0 rfl rfl rfl ?_
    refine a_l2 rfl rfl rfl ?_
    refine a_gV rfl lX5_101 mo_X5_isReady (q_X5_isReady_235) rfl rfl rfl ⟨5, _, rfl, rfl, rfl⟩ rfl (fun v' h' hv => ?_)
    obtain ⟨⟨v1, rfl⟩, rfl⟩ := hv
    refine a_if_eq rfl (fun c17 => ?_) (fun c17 => ?_)
    · refine a_i2 rfl rfl rfl ?_
      refine a_goto rfl ?_
      exact ih4 _ _ _ _ c9 ⟨_, rfl, rfl⟩ ⟨rfl, rfl, nS _, trivial⟩
    · refine a_l1 rfl rfl rfl ?_
      refine a_l2 rfl rfl rfl ?_
      refine a_eSN1 rfl lX5_97 mo_X11_bit (sp_X11_bit) rfl rfl rfl rfl ?_
      refine a_s rfl rfl ?_
      refine a_s1 rfl rfl rfl rfl rfl rfl ?_
      refine a_i2 rfl rfl rfl ?_
      refine a_goto rfl ?_
      exact ih4 _ _ _ _ c9 ⟨_, rfl, rfl⟩ ⟨rfl, rfl, nS _, trivial⟩
theorem q_X11_shameOfWaiting_200_235 {S : aS} {I : Nat → Nat → Int32} {L : Nat → Nat → Int64} {w1 w2 t : Nat} : Sp S m_X11_shameOfWaiting 17 0 0 [.ref 200, .ref 235] (hp I L w1 w2 t) (QR (Fm sQ I) isI L w1 w2 t) nX := by
  refine Sp_of ok_X11_shameOfWaiting rfl rfl ?_
  show AW S m_X11_shameOfWaiting 17 _ _ 0 0 0 [some (.ref 200), some (.ref 235)] [] (hp I L w1 w2 t)
  refine a_l0 rfl rfl rfl ?_
  refine a_getq rfl gfX11_44_11 rfl (rfl) ?_
  refine a_l1 rfl rfl rfl ?_
  refine a_l1 rfl rfl rfl ?_
  refine a_s rfl rfl ?_
  refine a_gV rfl lX11_200 mo_X5_bitsIn (q_X5_bitsIn_235) rfl rfl rfl ⟨5, _, rfl, rfl, rfl⟩ rfl (fun v' h' hv => ?_)
  obtain ⟨⟨v1, rfl⟩, rfl⟩ := hv
  refine a_gV rfl lX11_282 mo_X2_shameOfSet (q_X2_shameOfSet_246_235) rfl rfl rfl ⟨2, _, rfl, rfl, rfl⟩ rfl (fun v' h' hv => ?_)
  obtain ⟨⟨v2, rfl⟩, I3, rfl, f4⟩ := hv
  exact a_iret rfl rfl ⟨⟨_, rfl⟩, _, rfl, f4⟩
theorem q_X11_count_200 {S : aS} {I : Nat → Nat → Int32} {L : Nat → Nat → Int64} {w1 w2 t : Nat} {x1 : Int32} : Sp S m_X11_count 18 0 0 [.ref 200, .int x1] (hp I L w1 w2 t) (QR (Fm sQ I) isI L w1 w2 t) nX := by
  refine Sp_of ok_X11_count rfl rfl ?_
  show AW S m_X11_count 18 _ _ 0 0 0 [some (.ref 200), some (.int x1)] [] (hp I L w1 w2 t)
  refine a_l1 rfl rfl rfl ?_
  refine a_tswA rfl (by decide) (by decide) (fun hx => ?_) (fun i o ho hx => ?_)
  · refine a_pc (pc' := 199) (by decide) ?_
    refine a_s rfl rfl ?_
    exact a_iret rfl rfl ⟨⟨_, rfl⟩, _, rfl, Fm.rf⟩
  · rcases i with _ | _ | _ | _ | _ | _ | _ | _ | _ | _ | _ | _ | _ | _ | _ | i
    · cases ho
      refine a_pc (pc' := 76) (by decide) ?_
      refine a_l0 rfl rfl rfl ?_
      refine a_getq rfl gfX11_37_11 rfl (rfl) ?_
      refine a_geti rfl gfX11_179_5 rfl ?_
      exact a_iret rfl rfl ⟨⟨_, rfl⟩, _, rfl, Fm.rf⟩
    · cases ho
      refine a_pc (pc' := 84) (by decide) ?_
      refine a_l0 rfl rfl rfl ?_
      refine a_getq rfl gfX11_37_11 rfl (rfl) ?_
      refine a_geti rfl gfX11_182_5 rfl ?_
      exact a_iret rfl rfl ⟨⟨_, rfl⟩, _, rfl, Fm.rf⟩
    · cases ho
      refine a_pc (pc' := 92) (by decide) ?_
      refine a_l0 rfl rfl rfl ?_
      refine a_getq rfl gfX11_37_11 rfl (rfl) ?_
      refine a_geti rfl gfX11_89_5 rfl ?_
      exact a_iret rfl rfl ⟨⟨_, rfl⟩, _, rfl, Fm.rf⟩
    · cases ho
      refine a_pc (pc' := 100) (by decide) ?_
      refine a_l0 rfl rfl rfl ?_
      refine a_getq rfl gfX11_44_11 rfl (rfl) ?_
      refine a_geti rfl gfX11_107_2 rfl ?_
      exact a_iret rfl rfl ⟨⟨_, rfl⟩, _, rfl, Fm.rf⟩
    · cases ho
      refine a_pc (pc' := 108) (by decide) ?_
      refine a_l0 rfl rfl rfl ?_
      refine a_getq rfl gfX11_37_11 rfl (rfl) ?_
      refine a_geti rfl gfX11_185_5 rfl ?_
      exact a_iret rfl rfl ⟨⟨_, rfl⟩, _, rfl, Fm.rf⟩
    · cases ho
      refine a_pc (pc' := 116) (by decide) ?_
      refine a_l0 rfl rfl rfl ?_
      refine a_getq rfl gfX11_37_11 rfl (rfl) ?_
      refine a_geti rfl gfX11_188_5 rfl ?_
      exact a_iret rfl rfl ⟨⟨_, rfl⟩, _, rfl, Fm.rf⟩
    · cases ho
      refine a_pc (pc' := 124) (by decide) ?_
      refine a_l0 rfl rfl rfl ?_
      refine a_getq rfl gfX11_37_11 rfl (rfl) ?_
      refine a_geti rfl gfX11_191_5 rfl ?_
      exact a_iret rfl rfl ⟨⟨_, rfl⟩, _, rfl, Fm.rf⟩
    · cases ho
      refine a_pc (pc' := 132) (by decide) ?_
      refine a_l0 rfl rfl rfl ?_
      refine a_getq rfl gfX11_37_11 rfl (rfl) ?_
      refine a_geti rfl gfX11_194_5 rfl ?_
      exact a_iret rfl rfl ⟨⟨_, rfl⟩, _, rfl, Fm.rf⟩
    · cases ho
      refine a_pc (pc' := 140) (by decide) ?_
      refine a_l0 rfl rfl rfl ?_
      refine a_getq rfl gfX11_37_11 rfl (rfl) ?_
      refine a_geti rfl gfX11_197_5 rfl ?_
      exact a_iret rfl rfl ⟨⟨_, rfl⟩, _, rfl, Fm.rf⟩
    · cases ho
      refine a_pc (pc' := 148) (by decide) ?_
      refine a_l0 rfl rfl rfl ?_
      refine a_getq rfl gfX11_37_11 rfl (rfl) ?_
      refine a_s rfl rfl ?_
      refine a_gV rfl lX11_200 mo_X5_bitsIn (q_X5_bitsIn_235) rfl rfl rfl ⟨5, _, rfl, rfl, rfl⟩ rfl (fun v' h' hv => ?_)
      obtain ⟨⟨v1, rfl⟩, rfl⟩ := hv
      exact a_iret rfl rfl ⟨⟨_, rfl⟩, _, rfl, Fm.rf⟩
    · cases ho
      refine a_pc (pc' := 157) (by decide) ?_
      refine a_l0 rfl rfl rfl ?_
      refine a_getq rfl gfX11_37_11 rfl (rfl) ?_
      refine a_s rfl rfl ?_
      refine a_gV rfl lX11_200 mo_X5_bitsIn (q_X5_bitsIn_235) rfl rfl rfl ⟨5, _, rfl, rfl, rfl⟩ rfl (fun v' h' hv => ?_)
      obtain ⟨⟨v2, rfl⟩, rfl⟩ := hv
      exact a_iret rfl rfl ⟨⟨_, rfl⟩, _, rfl, Fm.rf⟩
    · cases ho
      refine a_pc (pc' := 166) (by decide) ?_
      refine a_l0 rfl rfl rfl ?_
      refine a_getq rfl gfX11_37_11 rfl (rfl) ?_
      refine a_gV rfl lX11_203 mo_X5_readyBits (q_X5_readyBits_235) rfl rfl rfl ⟨5, _, rfl, rfl, rfl⟩ rfl (fun v' h' hv => ?_)
      obtain ⟨⟨v3, rfl⟩, rfl⟩ := hv
      exact a_iret rfl rfl ⟨⟨_, rfl⟩, _, rfl, Fm.rf⟩
    · cases ho
      refine a_pc (pc' := 174) (by decide) ?_
      refine a_l0 rfl rfl rfl ?_
      refine a_l0 rfl rfl rfl ?_
      refine a_getq rfl gfX11_37_11 rfl (rfl) ?_
      refine a_gV rfl lX11_207 mo_X11_shameOfWaiting (q_X11_shameOfWaiting_200_235) rfl rfl rfl ⟨11, _, rfl, rfl, rfl⟩ rfl (fun v' h' hv => ?_)
      obtain ⟨⟨v4, rfl⟩, I5, rfl, f6⟩ := hv
      exact a_iret rfl rfl ⟨⟨_, rfl⟩, _, rfl, f6⟩
    · cases ho
      refine a_pc (pc' := 183) (by decide) ?_
      refine a_l0 rfl rfl rfl ?_
      refine a_getq rfl gfX11_37_11 rfl (rfl) ?_
      refine a_getq rfl gfX11_211_5 rfl (rfl) ?_
      refine a_geti rfl gfX11_215_1 rfl ?_
      exact a_iret rfl rfl ⟨⟨_, rfl⟩, _, rfl, Fm.rf⟩
    · cases ho
      refine a_pc (pc' := 194) (by decide) ?_
      refine a_l0 rfl rfl rfl ?_
      refine a_geti rfl gfX11_95_11 rfl ?_
      exact a_iret rfl rfl ⟨⟨_, rfl⟩, _, rfl, Fm.rf⟩
    · cases ho
theorem q_X5_placeOf_235 {S : aS} {I : Nat → Nat → Int32} {L : Nat → Nat → Int64} {w1 w2 t : Nat} {x1 : Int32} : Sp S m_X5_placeOf 14 0 0 [.ref 235, .int x1] (hp I L w1 w2 t) (QE isI (hp I L w1 w2 t)) nX := by
  refine Sp_of ok_X5_placeOf rfl rfl ?_
  show AW S m_X5_placeOf 14 _ _ 0 0 0 [some (.ref 235), some (.int x1), none, none, none, none] [] (hp I L w1 w2 t)
  refine a_l0 rfl rfl rfl ?_
  refine a_l1 rfl rfl rfl ?_
  refine a_gV rfl lX5_90 mo_X5_isWaiting (q_X5_isWaiting_235) rfl rfl rfl ⟨5, _, rfl, rfl, rfl⟩ rfl (fun v' h' hv => ?_)
  obtain ⟨⟨v1, rfl⟩, rfl⟩ := hv
  refine a_if_ne rfl (fun c5 => ?_) (fun c5 => ?_)
  · refine a_l0 rfl rfl rfl ?_
    refine a_getq rfl gfX5_24_5 rfl (rfl) ?_
    refine a_l1 rfl rfl rfl ?_
    refine a_eSN1 rfl lX5_86 mo_X11_at (sp_X11_at rfl) rfl rfl rfl rfl ?_
    refine a_s2 rfl rfl rfl rfl rfl rfl ?_
    refine a_s rfl rfl ?_
    refine a_s3 rfl rfl rfl rfl rfl rfl ?_
    refine a_s rfl rfl ?_
    refine a_s4 rfl rfl rfl rfl rfl rfl ?_
    refine a_cnt (j0 := 0) (fun j ls h => ∃ a0, ∃ a1, ls = [some (.ref 235), some (.int x1), some (.int a0), some (.int a1), some (.int (nI j)), none] ∧ h = hp I L w1 w2 t) (by decide) ⟨_, _, rfl, rfl⟩ ⟨rfl, rfl, rfl, rfl, rfl, trivial⟩ ?_
    rintro j24 _ _ hj24 ⟨a0_24, a1_24, rfl, rfl⟩ ih24
    refine a_l4 rfl rfl rfl ?_
    refine a_l0 rfl rfl rfl ?_
    refine a_geti rfl gfX5_63_5 rfl ?_
    refine a_ic_ge rfl (fun c30 => ?_) (fun c30 => ?_)
    · refine a_l3 rfl rfl rfl ?_
      exact a_iret rfl rfl ⟨⟨_, rfl⟩, rfl⟩
    · refine a_l0 rfl rfl rfl ?_
      refine a_getq rfl gfX5_24_5 rfl (rfl) ?_
      refine a_l4 rfl rfl rfl ?_
      refine a_eSN1 rfl lX5_86 mo_X11_at (sp_X11_at rfl) rfl rfl rfl rfl ?_
      refine a_s5 rfl rfl rfl rfl rfl rfl ?_
      refine a_l0 rfl rfl rfl ?_
      refine a_l4 rfl rfl rfl ?_
      refine a_gV rfl lX5_90 mo_X5_isWaiting (q_X5_isWaiting_235) rfl rfl rfl ⟨5, _, rfl, rfl, rfl⟩ rfl (fun v' h' hv => ?_)
      obtain ⟨⟨v2, rfl⟩, rfl⟩ := hv
      refine a_if_eq rfl (fun c50 => ?_) (fun c50 => ?_)
      · refine a_i4 rfl rfl rfl ?_
        refine a_goto rfl ?_
        exact ih24 _ _ _ _ c30 ⟨_, _, rfl, rfl⟩ ⟨rfl, rfl, rfl, rfl, nS _, trivial⟩
      · refine a_l5 rfl rfl rfl ?_
        refine a_l2 rfl rfl rfl ?_
        refine a_ic_lt rfl (fun c56 => ?_) (fun c56 => ?_)
        · refine a_i3 rfl rfl rfl ?_
          refine a_i4 rfl rfl rfl ?_
          refine a_goto rfl ?_
          exact ih24 _ _ _ _ c30 ⟨_, _, rfl, rfl⟩ ⟨rfl, rfl, rfl, rfl, nS _, trivial⟩
        · refine a_l5 rfl rfl rfl ?_
          refine a_l2 rfl rfl rfl ?_
          refine a_ic_ne rfl (fun c62 => ?_) (fun c62 => ?_)
          · refine a_i4 rfl rfl rfl ?_
            refine a_goto rfl ?_
            exact ih24 _ _ _ _ c30 ⟨_, _, rfl, rfl⟩ ⟨rfl, rfl, rfl, rfl, nS _, trivial⟩
          · refine a_l4 rfl rfl rfl ?_
            refine a_l1 rfl rfl rfl ?_
            refine a_ic_ge rfl (fun c68 => ?_) (fun c68 => ?_)
            · refine a_i4 rfl rfl rfl ?_
              refine a_goto rfl ?_
              exact ih24 _ _ _ _ c30 ⟨_, _, rfl, rfl⟩ ⟨rfl, rfl, rfl, rfl, nS _, trivial⟩
            · refine a_i3 rfl rfl rfl ?_
              refine a_i4 rfl rfl rfl ?_
              refine a_goto rfl ?_
              exact ih24 _ _ _ _ c30 ⟨_, _, rfl, rfl⟩ ⟨rfl, rfl, rfl, rfl, nS _, trivial⟩
  · refine a_s rfl rfl ?_
    exact a_iret rfl rfl ⟨⟨_, rfl⟩, rfl⟩
theorem q_X5_dutyAt_235 {S : aS} {I : Nat → Nat → Int32} {L : Nat → Nat → Int64} {w1 w2 t : Nat} {x1 : Int32} : Sp S m_X5_dutyAt 15 0 0 [.ref 235, .int x1] (hp I L w1 w2 t) (QE isI (hp I L w1 w2 t)) nX := by
  refine Sp_of ok_X5_dutyAt rfl rfl ?_
  show AW S m_X5_dutyAt 15 _ _ 0 0 0 [some (.ref 235), some (.int x1), none] [] (hp I L w1 w2 t)
  refine a_s rfl rfl ?_
  refine a_s2 rfl rfl rfl rfl rfl rfl ?_
  refine a_cnt (j0 := 0) (fun j ls h => ls = [some (.ref 235), some (.int x1), some (.int (nI j))] ∧ h = hp I L w1 w2 t) (by decide) ⟨rfl, rfl⟩ ⟨rfl, rfl, rfl, trivial⟩ ?_
  rintro j2 _ _ hj2 ⟨rfl, rfl⟩ ih2
  refine a_l2 rfl rfl rfl ?_
  refine a_l0 rfl rfl rfl ?_
  refine a_geti rfl gfX5_63_5 rfl ?_
  refine a_ic_ge rfl (fun c7 => ?_) (fun c7 => ?_)
  · refine a_s rfl rfl ?_
    exact a_iret rfl rfl ⟨⟨_, rfl⟩, rfl⟩
  · refine a_l0 rfl rfl rfl ?_
    refine a_l2 rfl rfl rfl ?_
    refine a_gV rfl lX5_90 mo_X5_isWaiting (q_X5_isWaiting_235) rfl rfl rfl ⟨5, _, rfl, rfl, rfl⟩ rfl (fun v' h' hv => ?_)
    obtain ⟨⟨v1, rfl⟩, rfl⟩ := hv
    refine a_if_eq rfl (fun c15 => ?_) (fun c15 => ?_)
    · refine a_i2 rfl rfl rfl ?_
      refine a_goto rfl ?_
      exact ih2 _ _ _ _ c7 ⟨rfl, rfl⟩ ⟨rfl, rfl, nS _, trivial⟩
    · refine a_l0 rfl rfl rfl ?_
      refine a_l2 rfl rfl rfl ?_
      refine a_gV rfl lX5_113 mo_X5_placeOf (q_X5_placeOf_235) rfl rfl rfl ⟨5, _, rfl, rfl, rfl⟩ rfl (fun v' h' hv => ?_)
      obtain ⟨⟨v2, rfl⟩, rfl⟩ := hv
      refine a_l1 rfl rfl rfl ?_
      refine a_ic_ne rfl (fun c24 => ?_) (fun c24 => ?_)
      · refine a_i2 rfl rfl rfl ?_
        refine a_goto rfl ?_
        exact ih2 _ _ _ _ c7 ⟨rfl, rfl⟩ ⟨rfl, rfl, nS _, trivial⟩
      · refine a_l2 rfl rfl rfl ?_
        exact a_iret rfl rfl ⟨⟨_, rfl⟩, rfl⟩
theorem q_X11_parade_200 {S : aS} {I : Nat → Nat → Int32} {L : Nat → Nat → Int64} {w1 w2 t : Nat} {x1 : Int32} : Sp S m_X11_parade 16 0 0 [.ref 200, .int x1] (hp I L w1 w2 t) (QE isI (hp I L w1 w2 t)) nX := by
  refine Sp_of ok_X11_parade rfl rfl ?_
  show AW S m_X11_parade 16 _ _ 0 0 0 [some (.ref 200), some (.int x1)] [] (hp I L w1 w2 t)
  refine a_l0 rfl rfl rfl ?_
  refine a_getq rfl gfX11_37_11 rfl (rfl) ?_
  refine a_l1 rfl rfl rfl ?_
  refine a_gV rfl lX11_266 mo_X5_dutyAt (q_X5_dutyAt_235) rfl rfl rfl ⟨5, _, rfl, rfl, rfl⟩ rfl (fun v' h' hv => ?_)
  obtain ⟨⟨v1, rfl⟩, rfl⟩ := hv
  exact a_iret rfl rfl ⟨⟨_, rfl⟩, rfl⟩
theorem q_X5_passesOf_235 {S : aS} {I : Nat → Nat → Int32} {L : Nat → Nat → Int64} {w1 w2 t : Nat} {x1 : Int32} : Sp S m_X5_passesOf 15 0 0 [.ref 235, .int x1] (hp I L w1 w2 t) (QE isI (hp I L w1 w2 t)) nX := by
  refine Sp_of ok_X5_passesOf rfl rfl ?_
  show AW S m_X5_passesOf 15 _ _ 0 0 0 [some (.ref 235), some (.int x1), none] [] (hp I L w1 w2 t)
  refine a_l0 rfl rfl rfl ?_
  refine a_l1 rfl rfl rfl ?_
  refine a_gV rfl lX5_90 mo_X5_isWaiting (q_X5_isWaiting_235) rfl rfl rfl ⟨5, _, rfl, rfl, rfl⟩ rfl (fun v' h' hv => ?_)
  obtain ⟨⟨v1, rfl⟩, rfl⟩ := hv
  refine a_if_ne rfl (fun c5 => ?_) (fun c5 => ?_)
  · refine a_l0 rfl rfl rfl ?_
    refine a_s rfl rfl ?_
    refine a_gV rfl lX5_104 mo_X5_bitsIn (q_X5_bitsIn_235) rfl rfl rfl ⟨5, _, rfl, rfl, rfl⟩ rfl (fun v' h' hv => ?_)
    obtain ⟨⟨v2, rfl⟩, rfl⟩ := hv
    refine a_l0 rfl rfl rfl ?_
    refine a_l0 rfl rfl rfl ?_
    refine a_getq rfl gfX5_24_5 rfl (rfl) ?_
    refine a_l1 rfl rfl rfl ?_
    refine a_eSN1 rfl lX5_86 mo_X11_at (sp_X11_at rfl) rfl rfl rfl rfl ?_
    refine a_gV rfl lX5_116 mo_X5_olderThan (q_X5_olderThan_235) rfl rfl rfl ⟨5, _, rfl, rfl, rfl⟩ rfl (fun v' h' hv => ?_)
    obtain ⟨⟨v3, rfl⟩, rfl⟩ := hv
    refine a_s rfl rfl ?_
    refine a_s rfl rfl ?_
    refine a_s rfl rfl ?_
    refine a_s2 rfl rfl rfl rfl rfl rfl ?_
    refine a_l0 rfl rfl rfl ?_
    refine a_geti rfl gfX5_40_5 rfl ?_
    refine a_l2 rfl rfl rfl ?_
    refine a_eS1 rfl lX5_119 mo_J6_bitCount_0f7a4 (sp_bitCount) rfl rfl rfl rfl ?_
    refine a_s rfl rfl ?_
    exact a_iret rfl rfl ⟨⟨_, rfl⟩, rfl⟩
  · refine a_s rfl rfl ?_
    exact a_iret rfl rfl ⟨⟨_, rfl⟩, rfl⟩
theorem q_X5_canBits_235 {S : aS} {I : Nat → Nat → Int32} {L : Nat → Nat → Int64} {w1 w2 t : Nat} : Sp S m_X5_canBits 16 0 0 [.ref 235] (hp I L w1 w2 t) (QE isI (hp I L w1 w2 t)) nX := by
  refine Sp_of ok_X5_canBits rfl rfl ?_
  show AW S m_X5_canBits 16 _ _ 0 0 0 [some (.ref 235), none, none] [] (hp I L w1 w2 t)
  refine a_s rfl rfl ?_
  refine a_s1 rfl rfl rfl rfl rfl rfl ?_
  refine a_s rfl rfl ?_
  refine a_s2 rfl rfl rfl rfl rfl rfl ?_
  refine a_cnt (j0 := 0) (fun j ls h => ∃ a0, ls = [some (.ref 235), some (.int a0), some (.int (nI j))] ∧ h = hp I L w1 w2 t) (by decide) ⟨_, rfl, rfl⟩ ⟨rfl, rfl, rfl, trivial⟩ ?_
  rintro j4 _ _ hj4 ⟨a0_4, rfl, rfl⟩ ih4
  refine a_l2 rfl rfl rfl ?_
  refine a_l0 rfl rfl rfl ?_
  refine a_geti rfl gfX5_63_5 rfl ?_
  refine a_ic_ge rfl (fun c9 => ?_) (fun c9 => ?_)
  · refine a_l1 rfl rfl rfl ?_
    exact a_iret rfl rfl ⟨⟨_, rfl⟩, rfl⟩
  · refine a_l0 rfl rfl rfl ?_
    refine a_l2 rfl rfl rfl ?_
    refine a_gV rfl lX5_101 mo_X5_isReady (q_X5_isReady_235) rfl rfl rfl ⟨5, _, rfl, rfl, rfl⟩ rfl (fun v' h' hv => ?_)
    obtain ⟨⟨v1, rfl⟩, rfl⟩ := hv
    refine a_if_eq rfl (fun c17 => ?_) (fun c17 => ?_)
    · refine a_i2 rfl rfl rfl ?_
      refine a_goto rfl ?_
      exact ih4 _ _ _ _ c9 ⟨_, rfl, rfl⟩ ⟨rfl, rfl, nS _, trivial⟩
    · refine a_l0 rfl rfl rfl ?_
      refine a_getq rfl gfX5_21_5 rfl (rfl) ?_
      refine a_l2 rfl rfl rfl ?_
      refine a_eSN1 rfl lX5_86 mo_X11_at (sp_X11_at rfl) rfl rfl rfl rfl ?_
      refine a_l0 rfl rfl rfl ?_
      refine a_l2 rfl rfl rfl ?_
      refine a_gV rfl lX5_124 mo_X5_passesOf (q_X5_passesOf_235) rfl rfl rfl ⟨5, _, rfl, rfl, rfl⟩ rfl (fun v' h' hv => ?_)
      obtain ⟨⟨v2, rfl⟩, rfl⟩ := hv
      refine a_ic_gt rfl (fun c33 => ?_) (fun c33 => ?_)
      · refine a_i2 rfl rfl rfl ?_
        refine a_goto rfl ?_
        exact ih4 _ _ _ _ c9 ⟨_, rfl, rfl⟩ ⟨rfl, rfl, nS _, trivial⟩
      · refine a_l1 rfl rfl rfl ?_
        refine a_l2 rfl rfl rfl ?_
        refine a_eSN1 rfl lX5_97 mo_X11_bit (sp_X11_bit) rfl rfl rfl rfl ?_
        refine a_s rfl rfl ?_
        refine a_s1 rfl rfl rfl rfl rfl rfl ?_
        refine a_i2 rfl rfl rfl ?_
        refine a_goto rfl ?_
        exact ih4 _ _ _ _ c9 ⟨_, rfl, rfl⟩ ⟨rfl, rfl, nS _, trivial⟩
theorem q_X11_can_200 {S : aS} {I : Nat → Nat → Int32} {L : Nat → Nat → Int64} {w1 w2 t : Nat} : Sp S m_X11_can 17 0 0 [.ref 200] (hp I L w1 w2 t) (QE isI (hp I L w1 w2 t)) nX := by
  refine Sp_of ok_X11_can rfl rfl ?_
  show AW S m_X11_can 17 _ _ 0 0 0 [some (.ref 200)] [] (hp I L w1 w2 t)
  refine a_l0 rfl rfl rfl ?_
  refine a_getq rfl gfX11_37_11 rfl (rfl) ?_
  refine a_gV rfl lX11_220 mo_X5_canBits (q_X5_canBits_235) rfl rfl rfl ⟨5, _, rfl, rfl, rfl⟩ rfl (fun v' h' hv => ?_)
  obtain ⟨⟨v1, rfl⟩, rfl⟩ := hv
  exact a_iret rfl rfl ⟨⟨_, rfl⟩, rfl⟩
theorem q_X11_ring_200 {S : aS} {I : Nat → Nat → Int32} {L : Nat → Nat → Int64} {w1 w2 t : Nat} : Sp S m_X11_ring 15 0 0 [.ref 200] (hp I L w1 w2 t) (QE isI (hp I L w1 w2 t)) nX := by
  refine Sp_of ok_X11_ring rfl rfl ?_
  show AW S m_X11_ring 15 _ _ 0 0 0 [some (.ref 200)] [] (hp I L w1 w2 t)
  refine a_l0 rfl rfl rfl ?_
  refine a_getq rfl gfX11_37_11 rfl (rfl) ?_
  refine a_gS rfl lX11_295 mo_X4_ringBits (q_X4_ringBits_235) rfl rfl rfl rfl (fun v' h' hv => ?_)
  obtain ⟨⟨v1, rfl⟩, rfl⟩ := hv
  exact a_iret rfl rfl ⟨⟨_, rfl⟩, rfl⟩
theorem q_X11_longest_200 {S : aS} {I : Nat → Nat → Int32} {L : Nat → Nat → Int64} {w1 w2 t : Nat} : Sp S m_X11_longest 17 0 0 [.ref 200] (hp I L w1 w2 t) (QE isI (hp I L w1 w2 t)) nX := by
  refine Sp_of ok_X11_longest rfl rfl ?_
  show AW S m_X11_longest 17 _ _ 0 0 0 [some (.ref 200), none, none] [] (hp I L w1 w2 t)
  refine a_s rfl rfl ?_
  refine a_s1 rfl rfl rfl rfl rfl rfl ?_
  refine a_s rfl rfl ?_
  refine a_s2 rfl rfl rfl rfl rfl rfl ?_
  refine a_cnt (j0 := 0) (fun j ls h => ∃ a0, ls = [some (.ref 200), some (.int a0), some (.int (nI j))] ∧ h = hp I L w1 w2 t) (by decide) ⟨_, rfl, rfl⟩ ⟨rfl, rfl, rfl, trivial⟩ ?_
  rintro j4 _ _ hj4 ⟨a0_4, rfl, rfl⟩ ih4
  refine a_l2 rfl rfl rfl ?_
  refine a_l0 rfl rfl rfl ?_
  refine a_getq rfl gfX11_37_11 rfl (rfl) ?_
  refine a_geti rfl gfX11_182_5 rfl ?_
  refine a_ic_ge rfl (fun c12 => ?_) (fun c12 => ?_)
  · refine a_l1 rfl rfl rfl ?_
    exact a_iret rfl rfl ⟨⟨_, rfl⟩, rfl⟩
  · refine a_l1 rfl rfl rfl ?_
    refine a_l0 rfl rfl rfl ?_
    refine a_getq rfl gfX11_37_11 rfl (rfl) ?_
    refine a_l2 rfl rfl rfl ?_
    refine a_gS rfl lX11_285 mo_X4_hoursTill (q_X4_hoursTill_235) rfl rfl rfl rfl (fun v' h' hv => ?_)
    obtain ⟨⟨v1, rfl⟩, rfl⟩ := hv
    refine a_max rfl lX11_290 mj_max rfl rfl ?_
    refine a_s1 rfl rfl rfl rfl rfl rfl ?_
    refine a_i2 rfl rfl rfl ?_
    refine a_goto rfl ?_
    exact ih4 _ _ _ _ c12 ⟨_, rfl, rfl⟩ ⟨rfl, rfl, nS _, trivial⟩
theorem q_X11_isGap_200 {S : aS} {I : Nat → Nat → Int32} {L : Nat → Nat → Int64} {w1 w2 t : Nat} {x1 : Int32} : Sp S m_X11_isGap 15 0 0 [.ref 200, .int x1] (hp I L w1 w2 t) (QE isZ (hp I L w1 w2 t)) nX := by
  refine Sp_of ok_X11_isGap rfl rfl ?_
  show AW S m_X11_isGap 15 _ _ 0 0 0 [some (.ref 200), some (.int x1), none] [] (hp I L w1 w2 t)
  refine a_l1 rfl rfl rfl ?_
  refine a_if_lt rfl (fun c1 => ?_) (fun c1 => ?_)
  · refine a_s rfl rfl ?_
    exact a_zret rfl rfl rfl ⟨⟨false, rfl⟩, rfl⟩
  · refine a_l1 rfl rfl rfl ?_
    refine a_s rfl rfl ?_
    refine a_ic_ge rfl (fun c7 => ?_) (fun c7 => ?_)
    · refine a_s rfl rfl ?_
      exact a_zret rfl rfl rfl ⟨⟨false, rfl⟩, rfl⟩
    · refine a_l0 rfl rfl rfl ?_
      refine a_getq rfl gfX11_37_11 rfl (rfl) ?_
      refine a_l1 rfl rfl rfl ?_
      refine a_gV rfl lX11_307 mo_X5_olderThan (q_X5_olderThan_235) rfl rfl rfl ⟨5, _, rfl, rfl, rfl⟩ rfl (fun v' h' hv => ?_)
      obtain ⟨⟨v1, rfl⟩, rfl⟩ := hv
      refine a_if_ne rfl (fun c18 => ?_) (fun c18 => ?_)
      · refine a_s rfl rfl ?_
        refine a_s2 rfl rfl rfl rfl rfl rfl ?_
        refine a_cnt (j0 := 0) (fun j ls h => ls = [some (.ref 200), some (.int x1), some (.int (nI j))] ∧ h = hp I L w1 w2 t) (by decide) ⟨rfl, rfl⟩ ⟨rfl, rfl, rfl, trivial⟩ ?_
        rintro j25 _ _ hj25 ⟨rfl, rfl⟩ ih25
        refine a_l2 rfl rfl rfl ?_
        refine a_l0 rfl rfl rfl ?_
        refine a_getq rfl gfX11_37_11 rfl (rfl) ?_
        refine a_geti rfl gfX11_182_5 rfl ?_
        refine a_ic_ge rfl (fun c33 => ?_) (fun c33 => ?_)
        · refine a_s rfl rfl ?_
          exact a_zret rfl rfl rfl ⟨⟨true, rfl⟩, rfl⟩
        · refine a_l0 rfl rfl rfl ?_
          refine a_getq rfl gfX11_37_11 rfl (rfl) ?_
          refine a_l2 rfl rfl rfl ?_
          refine a_gV rfl lX11_329 mo_X5_isWaiting (q_X5_isWaiting_235) rfl rfl rfl ⟨5, _, rfl, rfl, rfl⟩ rfl (fun v' h' hv => ?_)
          obtain ⟨⟨v2, rfl⟩, rfl⟩ := hv
          refine a_if_eq rfl (fun c44 => ?_) (fun c44 => ?_)
          · refine a_i2 rfl rfl rfl ?_
            refine a_goto rfl ?_
            exact ih25 _ _ _ _ c33 ⟨rfl, rfl⟩ ⟨rfl, rfl, nS _, trivial⟩
          · refine a_l0 rfl rfl rfl ?_
            refine a_getq rfl gfX11_37_11 rfl (rfl) ?_
            refine a_getq rfl gfX11_150_5 rfl (rfl) ?_
            refine a_l2 rfl rfl rfl ?_
            refine a_eS1 rfl lX11_117 mo_X11_at (sp_X11_at rfl) rfl rfl rfl rfl ?_
            refine a_l1 rfl rfl rfl ?_
            refine a_ic_ne rfl (fun c59 => ?_) (fun c59 => ?_)
            · refine a_i2 rfl rfl rfl ?_
              refine a_goto rfl ?_
              exact ih25 _ _ _ _ c33 ⟨rfl, rfl⟩ ⟨rfl, rfl, nS _, trivial⟩
            · refine a_s rfl rfl ?_
              exact a_zret rfl rfl rfl ⟨⟨false, rfl⟩, rfl⟩
      · refine a_s rfl rfl ?_
        exact a_zret rfl rfl rfl ⟨⟨false, rfl⟩, rfl⟩
theorem q_X11_gap_200 {S : aS} {I : Nat → Nat → Int32} {L : Nat → Nat → Int64} {w1 w2 t : Nat} : Sp S m_X11_gap 16 0 0 [.ref 200] (hp I L w1 w2 t) (QE isI (hp I L w1 w2 t)) nX := by
  refine Sp_of ok_X11_gap rfl rfl ?_
  show AW S m_X11_gap 16 _ _ 0 0 0 [some (.ref 200), none] [] (hp I L w1 w2 t)
  refine a_s rfl rfl ?_
  refine a_s1 rfl rfl rfl rfl rfl rfl ?_
  refine a_cnt (j0 := 0) (fun j ls h => ls = [some (.ref 200), some (.int (nI j))] ∧ h = hp I L w1 w2 t) (by decide) ⟨rfl, rfl⟩ ⟨rfl, rfl, trivial⟩ ?_
  rintro j2 _ _ hj2 ⟨rfl, rfl⟩ ih2
  refine a_l1 rfl rfl rfl ?_
  refine a_s rfl rfl ?_
  refine a_ic_ge rfl (fun c5 => ?_) (fun c5 => ?_)
  · refine a_s rfl rfl ?_
    exact a_iret rfl rfl ⟨⟨_, rfl⟩, rfl⟩
  · refine a_l0 rfl rfl rfl ?_
    refine a_l1 rfl rfl rfl ?_
    refine a_gV rfl lX11_316 mo_X11_isGap (q_X11_isGap_200) rfl rfl rfl ⟨11, _, rfl, rfl, rfl⟩ rfl (fun v' h' hv => ?_)
    obtain ⟨⟨v1, rfl⟩, rfl⟩ := hv
    refine a_if_eq rfl (fun c13 => ?_) (fun c13 => ?_)
    · refine a_i1 rfl rfl rfl ?_
      refine a_goto rfl ?_
      exact ih2 _ _ _ _ c5 ⟨rfl, rfl⟩ ⟨rfl, nS _, trivial⟩
    · refine a_l1 rfl rfl rfl ?_
      exact a_iret rfl rfl ⟨⟨_, rfl⟩, rfl⟩
theorem q_X11_lost_200 {S : aS} {I : Nat → Nat → Int32} {L : Nat → Nat → Int64} {w1 w2 t : Nat} : Sp S m_X11_lost 14 0 0 [.ref 200] (hp I L w1 w2 t) (QE isI (hp I L w1 w2 t)) nX := by
  refine Sp_of ok_X11_lost rfl rfl ?_
  show AW S m_X11_lost 14 _ _ 0 0 0 [some (.ref 200)] [] (hp I L w1 w2 t)
  refine a_l0 rfl rfl rfl ?_
  refine a_getq rfl gfX11_37_11 rfl (rfl) ?_
  refine a_s rfl rfl ?_
  refine a_gV rfl lX11_200 mo_X5_bitsIn (q_X5_bitsIn_235) rfl rfl rfl ⟨5, _, rfl, rfl, rfl⟩ rfl (fun v' h' hv => ?_)
  obtain ⟨⟨v1, rfl⟩, rfl⟩ := hv
  exact a_iret rfl rfl ⟨⟨_, rfl⟩, rfl⟩
theorem q_X11_missed_200 {S : aS} {I : Nat → Nat → Int32} {L : Nat → Nat → Int64} {w1 w2 t : Nat} : Sp S m_X11_missed 16 0 0 [.ref 200] (hp I L w1 w2 t) (QE isI (hp I L w1 w2 t)) nX := by
  refine Sp_of ok_X11_missed rfl rfl ?_
  show AW S m_X11_missed 16 _ _ 0 0 0 [some (.ref 200), none, none] [] (hp I L w1 w2 t)
  refine a_s rfl rfl ?_
  refine a_s1 rfl rfl rfl rfl rfl rfl ?_
  refine a_s rfl rfl ?_
  refine a_s2 rfl rfl rfl rfl rfl rfl ?_
  refine a_cnt (j0 := 0) (fun j ls h => ∃ a0, ls = [some (.ref 200), some (.int a0), some (.int (nI j))] ∧ h = hp I L w1 w2 t) (by decide) ⟨_, rfl, rfl⟩ ⟨rfl, rfl, rfl, trivial⟩ ?_
  rintro j4 _ _ hj4 ⟨a0_4, rfl, rfl⟩ ih4
  refine a_l2 rfl rfl rfl ?_
  refine a_l0 rfl rfl rfl ?_
  refine a_getq rfl gfX11_37_11 rfl (rfl) ?_
  refine a_geti rfl gfX11_182_5 rfl ?_
  refine a_ic_ge rfl (fun c12 => ?_) (fun c12 => ?_)
  · refine a_l1 rfl rfl rfl ?_
    exact a_iret rfl rfl ⟨⟨_, rfl⟩, rfl⟩
  · refine a_l0 rfl rfl rfl ?_
    refine a_getq rfl gfX11_37_11 rfl (rfl) ?_
    refine a_getq rfl gfX11_159_5 rfl (rfl) ?_
    refine a_l2 rfl rfl rfl ?_
    refine a_eS1 rfl lX11_117 mo_X11_at (sp_X11_at rfl) rfl rfl rfl rfl ?_
    refine a_s rfl rfl ?_
    refine a_ic_ne rfl (fun c27 => ?_) (fun c27 => ?_)
    · refine a_i2 rfl rfl rfl ?_
      refine a_goto rfl ?_
      exact ih4 _ _ _ _ c12 ⟨_, rfl, rfl⟩ ⟨rfl, rfl, nS _, trivial⟩
    · refine a_l0 rfl rfl rfl ?_
      refine a_l0 rfl rfl rfl ?_
      refine a_getq rfl gfX11_37_11 rfl (rfl) ?_
      refine a_getq rfl gfX11_150_5 rfl (rfl) ?_
      refine a_l2 rfl rfl rfl ?_
      refine a_eS1 rfl lX11_117 mo_X11_at (sp_X11_at rfl) rfl rfl rfl rfl ?_
      refine a_gV rfl lX11_316 mo_X11_isGap (q_X11_isGap_200) rfl rfl rfl ⟨11, _, rfl, rfl, rfl⟩ rfl (fun v' h' hv => ?_)
      obtain ⟨⟨v1, rfl⟩, rfl⟩ := hv
      refine a_if_eq rfl (fun c45 => ?_) (fun c45 => ?_)
      · refine a_i2 rfl rfl rfl ?_
        refine a_goto rfl ?_
        exact ih4 _ _ _ _ c12 ⟨_, rfl, rfl⟩ ⟨rfl, rfl, nS _, trivial⟩
      · refine a_l1 rfl rfl rfl ?_
        refine a_l2 rfl rfl rfl ?_
        refine a_eS1 rfl lX11_319 mo_X11_bit (sp_X11_bit) rfl rfl rfl rfl ?_
        refine a_s rfl rfl ?_
        refine a_s1 rfl rfl rfl rfl rfl rfl ?_
        refine a_i2 rfl rfl rfl ?_
        refine a_goto rfl ?_
        exact ih4 _ _ _ _ c12 ⟨_, rfl, rfl⟩ ⟨rfl, rfl, nS _, trivial⟩
theorem q_X11_sponsor_200 {S : aS} {I : Nat → Nat → Int32} {L : Nat → Nat → Int64} {w1 w2 t : Nat} : Sp S m_X11_sponsor 14 0 0 [.ref 200] (hp I L w1 w2 t) (QE isI (hp I L w1 w2 t)) nX := by
  refine Sp_of ok_X11_sponsor rfl rfl ?_
  show AW S m_X11_sponsor 14 _ _ 0 0 0 [some (.ref 200), none, none] [] (hp I L w1 w2 t)
  refine a_s rfl rfl ?_
  refine a_s1 rfl rfl rfl rfl rfl rfl ?_
  refine a_s rfl rfl ?_
  refine a_s2 rfl rfl rfl rfl rfl rfl ?_
  refine a_cnt (j0 := 0) (fun j ls h => ∃ a0, ls = [some (.ref 200), some (.int a0), some (.int (nI j))] ∧ h = hp I L w1 w2 t) (by decide) ⟨_, rfl, rfl⟩ ⟨rfl, rfl, rfl, trivial⟩ ?_
  rintro j4 _ _ hj4 ⟨a0_4, rfl, rfl⟩ ih4
  refine a_l2 rfl rfl rfl ?_
  refine a_l0 rfl rfl rfl ?_
  refine a_getq rfl gfX11_37_11 rfl (rfl) ?_
  refine a_geti rfl gfX11_182_5 rfl ?_
  refine a_ic_ge rfl (fun c12 => ?_) (fun c12 => ?_)
  · refine a_l1 rfl rfl rfl ?_
    exact a_iret rfl rfl ⟨⟨_, rfl⟩, rfl⟩
  · refine a_l0 rfl rfl rfl ?_
    refine a_getq rfl gfX11_37_11 rfl (rfl) ?_
    refine a_l2 rfl rfl rfl ?_
    refine a_gV rfl lX11_329 mo_X5_isWaiting (q_X5_isWaiting_235) rfl rfl rfl ⟨5, _, rfl, rfl, rfl⟩ rfl (fun v' h' hv => ?_)
    obtain ⟨⟨v1, rfl⟩, rfl⟩ := hv
    refine a_if_eq rfl (fun c23 => ?_) (fun c23 => ?_)
    · refine a_i2 rfl rfl rfl ?_
      refine a_goto rfl ?_
      exact ih4 _ _ _ _ c12 ⟨_, rfl, rfl⟩ ⟨rfl, rfl, nS _, trivial⟩
    · refine a_l1 rfl rfl rfl ?_
      refine a_s rfl rfl ?_
      refine a_l0 rfl rfl rfl ?_
      refine a_getq rfl gfX11_37_11 rfl (rfl) ?_
      refine a_geti rfl gfX11_197_5 rfl ?_
      refine a_l0 rfl rfl rfl ?_
      refine a_getq rfl gfX11_37_11 rfl (rfl) ?_
      refine a_getq rfl gfX11_150_5 rfl (rfl) ?_
      refine a_l2 rfl rfl rfl ?_
      refine a_eS1 rfl lX11_117 mo_X11_at (sp_X11_at rfl) rfl rfl rfl rfl ?_
      refine a_s rfl rfl ?_
      refine a_l0 rfl rfl rfl ?_
      refine a_getq rfl gfX11_37_11 rfl (rfl) ?_
      refine a_getq rfl gfX11_147_5 rfl (rfl) ?_
      refine a_l2 rfl rfl rfl ?_
      refine a_eS1 rfl lX11_117 mo_X11_at (sp_X11_at rfl) rfl rfl rfl rfl ?_
      refine a_s rfl rfl ?_
      refine a_max rfl lX11_290 mj_max rfl rfl ?_
      refine a_s rfl rfl ?_
      refine a_s1 rfl rfl rfl rfl rfl rfl ?_
      refine a_i2 rfl rfl rfl ?_
      refine a_goto rfl ?_
      exact ih4 _ _ _ _ c12 ⟨_, rfl, rfl⟩ ⟨rfl, rfl, nS _, trivial⟩
theorem q_X11_idle_200 {S : aS} {I : Nat → Nat → Int32} {L : Nat → Nat → Int64} {w1 w2 t : Nat} : Sp S m_X11_idle 15 0 0 [.ref 200] (hp I L w1 w2 t) (QE isI (hp I L w1 w2 t)) nX := by
  refine Sp_of ok_X11_idle rfl rfl ?_
  show AW S m_X11_idle 15 _ _ 0 0 0 [some (.ref 200), none, none, none, none] [] (hp I L w1 w2 t)
  refine a_s rfl rfl ?_
  refine a_s1 rfl rfl rfl rfl rfl rfl ?_
  refine a_s rfl rfl ?_
  refine a_s2 rfl rfl rfl rfl rfl rfl ?_
  refine a_s rfl rfl ?_
  refine a_s3 rfl rfl rfl rfl rfl rfl ?_
  refine a_cnt (j0 := 0) (fun j ls h => ∃ a0, ∃ a1, ls = [some (.ref 200), some (.int a0), some (.int a1), some (.int (nI j)), none] ∧ h = hp I L w1 w2 t) (by decide) ⟨_, _, rfl, rfl⟩ ⟨rfl, rfl, rfl, rfl, trivial⟩ ?_
  rintro j6 _ _ hj6 ⟨a0_6, a1_6, rfl, rfl⟩ ih6
  refine a_l3 rfl rfl rfl ?_
  refine a_l0 rfl rfl rfl ?_
  refine a_getq rfl gfX11_37_11 rfl (rfl) ?_
  refine a_geti rfl gfX11_179_5 rfl ?_
  refine a_ic_ge rfl (fun c14 => ?_) (fun c14 => ?_)
  · refine a_l1 rfl rfl rfl ?_
    exact a_iret rfl rfl ⟨⟨_, rfl⟩, rfl⟩
  · refine a_l0 rfl rfl rfl ?_
    refine a_getq rfl gfX11_37_11 rfl (rfl) ?_
    refine a_l3 rfl rfl rfl ?_
    refine a_gV rfl lX11_128 mo_X5_loadOf (q_X5_loadOf_235) rfl rfl rfl ⟨5, _, rfl, rfl, rfl⟩ rfl (fun v' h' hv => ?_)
    obtain ⟨⟨v1, rfl⟩, rfl⟩ := hv
    refine a_s4 rfl rfl rfl rfl rfl rfl ?_
    refine a_l1 rfl rfl rfl ?_
    refine a_s rfl rfl ?_
    refine a_ic_eq rfl (fun c29 => ?_) (fun c29 => ?_)
    · refine a_l3 rfl rfl rfl ?_
      refine a_s1 rfl rfl rfl rfl rfl rfl ?_
      refine a_l4 rfl rfl rfl ?_
      refine a_s2 rfl rfl rfl rfl rfl rfl ?_
      refine a_i3 rfl rfl rfl ?_
      refine a_goto rfl ?_
      exact ih6 _ _ _ _ c14 ⟨_, _, rfl, rfl⟩ ⟨rfl, rfl, rfl, nS _, trivial⟩
    · refine a_l4 rfl rfl rfl ?_
      refine a_l2 rfl rfl rfl ?_
      refine a_ic_ge rfl (fun c35 => ?_) (fun c35 => ?_)
      · refine a_i3 rfl rfl rfl ?_
        refine a_goto rfl ?_
        exact ih6 _ _ _ _ c14 ⟨_, _, rfl, rfl⟩ ⟨rfl, rfl, rfl, nS _, trivial⟩
      · refine a_l3 rfl rfl rfl ?_
        refine a_s1 rfl rfl rfl rfl rfl rfl ?_
        refine a_l4 rfl rfl rfl ?_
        refine a_s2 rfl rfl rfl rfl rfl rfl ?_
        refine a_i3 rfl rfl rfl ?_
        refine a_goto rfl ?_
        exact ih6 _ _ _ _ c14 ⟨_, _, rfl, rfl⟩ ⟨rfl, rfl, rfl, nS _, trivial⟩
theorem q_X11_worst_200 {S : aS} {I : Nat → Nat → Int32} {L : Nat → Nat → Int64} {w1 w2 t : Nat} : Sp S m_X11_worst 16 0 0 [.ref 200] (hp I L w1 w2 t) (QR (Fm sQ I) isI L w1 w2 t) nX := by
  refine Sp_of ok_X11_worst rfl rfl ?_
  show AW S m_X11_worst 16 _ _ 0 0 0 [some (.ref 200), none, none, none, none] [] (hp I L w1 w2 t)
  refine a_s rfl rfl ?_
  refine a_s1 rfl rfl rfl rfl rfl rfl ?_
  refine a_s rfl rfl ?_
  refine a_s2 rfl rfl rfl rfl rfl rfl ?_
  refine a_s rfl rfl ?_
  refine a_s3 rfl rfl rfl rfl rfl rfl ?_
  refine a_cnt (j0 := 0) (fun j ls h => ∃ a0, ∃ a1, ∃ I', ls = [some (.ref 200), some (.int a0), some (.int a1), some (.int (nI j)), none] ∧ h = hp I' L w1 w2 t ∧ Fm sQ I I') (by decide) ⟨_, _, _, rfl, rfl, Fm.rf⟩ ⟨rfl, rfl, rfl, rfl, trivial⟩ ?_
  rintro j6 _ _ hj6 ⟨a0_6, a1_6, Ih6, rfl, rfl, fh6⟩ ih6
  refine a_l3 rfl rfl rfl ?_
  refine a_l0 rfl rfl rfl ?_
  refine a_getq rfl gfX11_37_11 rfl (rfl) ?_
  refine a_geti rfl gfX11_182_5 rfl ?_
  refine a_ic_ge rfl (fun c14 => ?_) (fun c14 => ?_)
  · refine a_l1 rfl rfl rfl ?_
    exact a_iret rfl rfl ⟨⟨_, rfl⟩, _, rfl, fh6⟩
  · refine a_l0 rfl rfl rfl ?_
    refine a_getq rfl gfX11_37_11 rfl (rfl) ?_
    refine a_l3 rfl rfl rfl ?_
    refine a_gV rfl lX11_329 mo_X5_isWaiting (q_X5_isWaiting_235) rfl rfl rfl ⟨5, _, rfl, rfl, rfl⟩ rfl (fun v' h' hv => ?_)
    obtain ⟨⟨v1, rfl⟩, rfl⟩ := hv
    refine a_if_eq rfl (fun c25 => ?_) (fun c25 => ?_)
    · refine a_s rfl rfl ?_
      refine a_s4 rfl rfl rfl rfl rfl rfl ?_
      refine a_l4 rfl rfl rfl ?_
      refine a_l2 rfl rfl rfl ?_
      refine a_ic_le rfl (fun c49 => ?_) (fun c49 => ?_)
      · refine a_i3 rfl rfl rfl ?_
        refine a_goto rfl ?_
        exact ih6 _ _ _ _ c14 ⟨_, _, _, rfl, rfl, fh6⟩ ⟨rfl, rfl, rfl, nS _, trivial⟩
      · refine a_l3 rfl rfl rfl ?_
        refine a_s1 rfl rfl rfl rfl rfl rfl ?_
        refine a_l4 rfl rfl rfl ?_
        refine a_s2 rfl rfl rfl rfl rfl rfl ?_
        refine a_i3 rfl rfl rfl ?_
        refine a_goto rfl ?_
        exact ih6 _ _ _ _ c14 ⟨_, _, _, rfl, rfl, fh6⟩ ⟨rfl, rfl, rfl, nS _, trivial⟩
    · refine a_l0 rfl rfl rfl ?_
      refine a_getq rfl gfX11_44_11 rfl (rfl) ?_
      refine a_l0 rfl rfl rfl ?_
      refine a_getq rfl gfX11_37_11 rfl (rfl) ?_
      refine a_l3 rfl rfl rfl ?_
      refine a_gV rfl lX11_170 mo_X2_shameOf (q_X2_shameOf_246_235) rfl rfl rfl ⟨2, _, rfl, rfl, rfl⟩ rfl (fun v' h' hv => ?_)
      obtain ⟨⟨v2, rfl⟩, I3, rfl, f4⟩ := hv
      replace f4 : Fm sQ I I3 := Fm.tr (fh6) (f4)
      refine a_goto rfl ?_
      refine a_s4 rfl rfl rfl rfl rfl rfl ?_
      refine a_l4 rfl rfl rfl ?_
      refine a_l2 rfl rfl rfl ?_
      refine a_ic_le rfl (fun c49 => ?_) (fun c49 => ?_)
      · refine a_i3 rfl rfl rfl ?_
        refine a_goto rfl ?_
        exact ih6 _ _ _ _ c14 ⟨_, _, _, rfl, rfl, f4⟩ ⟨rfl, rfl, rfl, nS _, trivial⟩
      · refine a_l3 rfl rfl rfl ?_
        refine a_s1 rfl rfl rfl rfl rfl rfl ?_
        refine a_l4 rfl rfl rfl ?_
        refine a_s2 rfl rfl rfl rfl rfl rfl ?_
        refine a_i3 rfl rfl rfl ?_
        refine a_goto rfl ?_
        exact ih6 _ _ _ _ c14 ⟨_, _, _, rfl, rfl, f4⟩ ⟨rfl, rfl, rfl, nS _, trivial⟩
theorem q_X5_areAlike_235 {S : aS} {I : Nat → Nat → Int32} {L : Nat → Nat → Int64} {w1 w2 t : Nat} {x1 x2 : Int32} : Sp S m_X5_areAlike 14 0 0 [.ref 235, .int x1, .int x2] (hp I L w1 w2 t) (QE isZ (hp I L w1 w2 t)) nX := by
  refine Sp_of ok_X5_areAlike rfl rfl ?_
  show AW S m_X5_areAlike 14 _ _ 0 0 0 [some (.ref 235), some (.int x1), some (.int x2)] [] (hp I L w1 w2 t)
  refine a_l0 rfl rfl rfl ?_
  refine a_l1 rfl rfl rfl ?_
  refine a_gV rfl lX5_90 mo_X5_isWaiting (q_X5_isWaiting_235) rfl rfl rfl ⟨5, _, rfl, rfl, rfl⟩ rfl (fun v' h' hv => ?_)
  obtain ⟨⟨v1, rfl⟩, rfl⟩ := hv
  refine a_if_eq rfl (fun c5 => ?_) (fun c5 => ?_)
  · refine a_s rfl rfl ?_
    exact a_zret rfl rfl rfl ⟨⟨false, rfl⟩, rfl⟩
  · refine a_l0 rfl rfl rfl ?_
    refine a_l2 rfl rfl rfl ?_
    refine a_gV rfl lX5_90 mo_X5_isWaiting (q_X5_isWaiting_235) rfl rfl rfl ⟨5, _, rfl, rfl, rfl⟩ rfl (fun v' h' hv => ?_)
    obtain ⟨⟨v2, rfl⟩, rfl⟩ := hv
    refine a_if_eq rfl (fun c13 => ?_) (fun c13 => ?_)
    · refine a_s rfl rfl ?_
      exact a_zret rfl rfl rfl ⟨⟨false, rfl⟩, rfl⟩
    · refine a_l0 rfl rfl rfl ?_
      refine a_getq rfl gfX5_21_5 rfl (rfl) ?_
      refine a_l1 rfl rfl rfl ?_
      refine a_eSN1 rfl lX5_86 mo_X11_at (sp_X11_at rfl) rfl rfl rfl rfl ?_
      refine a_l0 rfl rfl rfl ?_
      refine a_getq rfl gfX5_21_5 rfl (rfl) ?_
      refine a_l2 rfl rfl rfl ?_
      refine a_eSN1 rfl lX5_86 mo_X11_at (sp_X11_at rfl) rfl rfl rfl rfl ?_
      refine a_ic_ne rfl (fun c32 => ?_) (fun c32 => ?_)
      · refine a_s rfl rfl ?_
        exact a_zret rfl rfl rfl ⟨⟨false, rfl⟩, rfl⟩
      · refine a_l0 rfl rfl rfl ?_
        refine a_getq rfl gfX5_24_5 rfl (rfl) ?_
        refine a_l1 rfl rfl rfl ?_
        refine a_eSN1 rfl lX5_86 mo_X11_at (sp_X11_at rfl) rfl rfl rfl rfl ?_
        refine a_l0 rfl rfl rfl ?_
        refine a_getq rfl gfX5_24_5 rfl (rfl) ?_
        refine a_l2 rfl rfl rfl ?_
        refine a_eSN1 rfl lX5_86 mo_X11_at (sp_X11_at rfl) rfl rfl rfl rfl ?_
        refine a_ic_ne rfl (fun c51 => ?_) (fun c51 => ?_)
        · refine a_s rfl rfl ?_
          exact a_zret rfl rfl rfl ⟨⟨false, rfl⟩, rfl⟩
        · refine a_s rfl rfl ?_
          refine a_goto rfl ?_
          exact a_zret rfl rfl rfl ⟨⟨true, rfl⟩, rfl⟩
theorem q_X11_alike_200 {S : aS} {I : Nat → Nat → Int32} {L : Nat → Nat → Int64} {w1 w2 t : Nat} : Sp S m_X11_alike 15 0 0 [.ref 200] (hp I L w1 w2 t) (QE isI (hp I L w1 w2 t)) nX := by
  refine Sp_of ok_X11_alike rfl rfl ?_
  show AW S m_X11_alike 15 _ _ 0 0 0 [some (.ref 200), none, none, none] [] (hp I L w1 w2 t)
  refine a_s rfl rfl ?_
  refine a_s1 rfl rfl rfl rfl rfl rfl ?_
  refine a_s rfl rfl ?_
  refine a_s2 rfl rfl rfl rfl rfl rfl ?_
  refine a_cnt (j0 := 0) (fun j ls h => ∃ a0, ls = [some (.ref 200), some (.int a0), some (.int (nI j)), none] ∧ h = hp I L w1 w2 t) (by decide) ⟨_, rfl, rfl⟩ ⟨rfl, rfl, rfl, trivial⟩ ?_
  rintro j4 _ _ hj4 ⟨a0_4, rfl, rfl⟩ ih4
  refine a_l2 rfl rfl rfl ?_
  refine a_l0 rfl rfl rfl ?_
  refine a_getq rfl gfX11_37_11 rfl (rfl) ?_
  refine a_geti rfl gfX11_182_5 rfl ?_
  refine a_ic_ge rfl (fun c12 => ?_) (fun c12 => ?_)
  · refine a_l1 rfl rfl rfl ?_
    exact a_iret rfl rfl ⟨⟨_, rfl⟩, rfl⟩
  · refine a_l2 rfl rfl rfl ?_
    refine a_s rfl rfl ?_
    refine a_s rfl rfl ?_
    refine a_s3 rfl rfl rfl rfl rfl rfl ?_
    refine a_cnt (j0 := j4 + 1) (fun j ls h => ∃ a0, ls = [some (.ref 200), some (.int a0), some (.int (nI j4)), some (.int (nI j))] ∧ h = hp I L w1 w2 t) (nI_b1 hj4 c12) ⟨_, rfl, rfl⟩ ⟨rfl, rfl, rfl, nS _, trivial⟩ ?_
    rintro j19 _ _ hj19 ⟨a0_19, rfl, rfl⟩ ih19
    refine a_l3 rfl rfl rfl ?_
    refine a_l0 rfl rfl rfl ?_
    refine a_getq rfl gfX11_37_11 rfl (rfl) ?_
    refine a_geti rfl gfX11_182_5 rfl ?_
    refine a_ic_ge rfl (fun c27 => ?_) (fun c27 => ?_)
    · refine a_i2 rfl rfl rfl ?_
      refine a_goto rfl ?_
      exact ih4 _ _ _ _ c12 ⟨_, rfl, rfl⟩ ⟨rfl, rfl, nS _, trivial⟩
    · refine a_l0 rfl rfl rfl ?_
      refine a_getq rfl gfX11_37_11 rfl (rfl) ?_
      refine a_l2 rfl rfl rfl ?_
      refine a_l3 rfl rfl rfl ?_
      refine a_gV rfl lX11_332 mo_X5_areAlike (q_X5_areAlike_235) rfl rfl rfl ⟨5, _, rfl, rfl, rfl⟩ rfl (fun v' h' hv => ?_)
      obtain ⟨⟨v1, rfl⟩, rfl⟩ := hv
      refine a_if_eq rfl (fun c39 => ?_) (fun c39 => ?_)
      · refine a_i3 rfl rfl rfl ?_
        refine a_goto rfl ?_
        exact ih19 _ _ _ _ c27 ⟨_, rfl, rfl⟩ ⟨rfl, rfl, rfl, nS _, trivial⟩
      · refine a_i1 rfl rfl rfl ?_
        refine a_i3 rfl rfl rfl ?_
        refine a_goto rfl ?_
        exact ih19 _ _ _ _ c27 ⟨_, rfl, rfl⟩ ⟨rfl, rfl, rfl, nS _, trivial⟩
theorem q_X11_shareOf_200 {S : aS} {I : Nat → Nat → Int32} {L : Nat → Nat → Int64} {w1 w2 t : Nat} {x1 : Int32} : Sp S m_X11_shareOf 18 0 0 [.ref 200, .int x1] (hp I L w1 w2 t) (QR (Fm sQ I) isI L w1 w2 t) nX := by
  refine Sp_of ok_X11_shareOf rfl rfl ?_
  show AW S m_X11_shareOf 18 _ _ 0 0 0 [some (.ref 200), some (.int x1), none, none] [] (hp I L w1 w2 t)
  refine a_l0 rfl rfl rfl ?_
  refine a_l0 rfl rfl rfl ?_
  refine a_getq rfl gfX11_37_11 rfl (rfl) ?_
  refine a_gV rfl lX11_207 mo_X11_shameOfWaiting (q_X11_shameOfWaiting_200_235) rfl rfl rfl ⟨11, _, rfl, rfl, rfl⟩ rfl (fun v' h' hv => ?_)
  obtain ⟨⟨v1, rfl⟩, I2, rfl, f3⟩ := hv
  refine a_s2 rfl rfl rfl rfl rfl rfl ?_
  refine a_l0 rfl rfl rfl ?_
  refine a_getq rfl gfX11_44_11 rfl (rfl) ?_
  refine a_l0 rfl rfl rfl ?_
  refine a_getq rfl gfX11_37_11 rfl (rfl) ?_
  refine a_l0 rfl rfl rfl ?_
  refine a_getq rfl gfX11_37_11 rfl (rfl) ?_
  refine a_s rfl rfl ?_
  refine a_gV rfl lX11_200 mo_X5_bitsIn (q_X5_bitsIn_235) rfl rfl rfl ⟨5, _, rfl, rfl, rfl⟩ rfl (fun v' h' hv => ?_)
  obtain ⟨⟨v4, rfl⟩, rfl⟩ := hv
  refine a_l0 rfl rfl rfl ?_
  refine a_getq rfl gfX11_37_11 rfl (rfl) ?_
  refine a_l1 rfl rfl rfl ?_
  refine a_gV rfl lX11_124 mo_X5_ownedBy (q_X5_ownedBy_235) rfl rfl rfl ⟨5, _, rfl, rfl, rfl⟩ rfl (fun v' h' hv => ?_)
  obtain ⟨⟨v5, rfl⟩, rfl⟩ := hv
  refine a_s rfl rfl ?_
  refine a_gV rfl lX11_282 mo_X2_shameOfSet (q_X2_shameOfSet_246_235) rfl rfl rfl ⟨2, _, rfl, rfl, rfl⟩ rfl (fun v' h' hv => ?_)
  obtain ⟨⟨v6, rfl⟩, I7, rfl, f8⟩ := hv
  replace f8 : Fm sQ I I7 := Fm.tr (f3) (f8)
  refine a_s3 rfl rfl rfl rfl rfl rfl ?_
  refine a_l2 rfl rfl rfl ?_
  refine a_if_le rfl (fun c39 => ?_) (fun c39 => ?_)
  · refine a_s rfl rfl ?_
    exact a_iret rfl rfl ⟨⟨_, rfl⟩, _, rfl, f8⟩
  · refine a_l3 rfl rfl rfl ?_
    refine a_s rfl rfl ?_
    refine a_s rfl rfl ?_
    refine a_l2 rfl rfl rfl ?_
    refine a_idiv rfl (fun z => c39 (by rw [z]; decide)) ?_
    refine a_goto rfl ?_
    exact a_iret rfl rfl ⟨⟨_, rfl⟩, _, rfl, f8⟩
theorem q_X5_standingBetween_235 {S : aS} {I : Nat → Nat → Int32} {L : Nat → Nat → Int64} {w1 w2 t : Nat} {x1 x2 : Int32} : Sp S m_X5_standingBetween 13 0 0 [.ref 235, .int x1, .int x2] (hp I L w1 w2 t) (QE isI (hp I L w1 w2 t)) nX := by
  refine Sp_of ok_X5_standingBetween rfl rfl ?_
  show AW S m_X5_standingBetween 13 _ _ 0 0 0 [some (.ref 235), some (.int x1), some (.int x2), none, none] [] (hp I L w1 w2 t)
  refine a_s rfl rfl ?_
  refine a_s3 rfl rfl rfl rfl rfl rfl ?_
  refine a_s rfl rfl ?_
  refine a_s4 rfl rfl rfl rfl rfl rfl ?_
  refine a_cnt (j0 := 0) (fun j ls h => ∃ a0, ls = [some (.ref 235), some (.int x1), some (.int x2), some (.int a0), some (.int (nI j))] ∧ h = hp I L w1 w2 t) (by decide) ⟨_, rfl, rfl⟩ ⟨rfl, rfl, rfl, rfl, rfl, trivial⟩ ?_
  rintro j5 _ _ hj5 ⟨a0_5, rfl, rfl⟩ ih5
  refine a_l4 rfl rfl rfl ?_
  refine a_l0 rfl rfl rfl ?_
  refine a_geti rfl gfX5_56_5 rfl ?_
  refine a_ic_ge rfl (fun c11 => ?_) (fun c11 => ?_)
  · refine a_l3 rfl rfl rfl ?_
    exact a_iret rfl rfl ⟨⟨_, rfl⟩, rfl⟩
  · refine a_l0 rfl rfl rfl ?_
    refine a_getq rfl gfX5_9_5 rfl (rfl) ?_
    refine a_l4 rfl rfl rfl ?_
    refine a_eSN1 rfl lX5_86 mo_X11_at (sp_X11_at rfl) rfl rfl rfl rfl ?_
    refine a_l1 rfl rfl rfl ?_
    refine a_ic_lt rfl (fun c24 => ?_) (fun c24 => ?_)
    · refine a_i4 rfl rfl rfl ?_
      refine a_goto rfl ?_
      exact ih5 _ _ _ _ c11 ⟨_, rfl, rfl⟩ ⟨rfl, rfl, rfl, rfl, nS _, trivial⟩
    · refine a_l0 rfl rfl rfl ?_
      refine a_getq rfl gfX5_9_5 rfl (rfl) ?_
      refine a_l4 rfl rfl rfl ?_
      refine a_eSN1 rfl lX5_86 mo_X11_at (sp_X11_at rfl) rfl rfl rfl rfl ?_
      refine a_l2 rfl rfl rfl ?_
      refine a_ic_gt rfl (fun c37 => ?_) (fun c37 => ?_)
      · refine a_i4 rfl rfl rfl ?_
        refine a_goto rfl ?_
        exact ih5 _ _ _ _ c11 ⟨_, rfl, rfl⟩ ⟨rfl, rfl, rfl, rfl, nS _, trivial⟩
      · refine a_l3 rfl rfl rfl ?_
        refine a_l4 rfl rfl rfl ?_
        refine a_eSN1 rfl lX5_97 mo_X11_bit (sp_X11_bit) rfl rfl rfl rfl ?_
        refine a_s rfl rfl ?_
        refine a_s3 rfl rfl rfl rfl rfl rfl ?_
        refine a_i4 rfl rfl rfl ?_
        refine a_goto rfl ?_
        exact ih5 _ _ _ _ c11 ⟨_, rfl, rfl⟩ ⟨rfl, rfl, rfl, rfl, nS _, trivial⟩
theorem q_X11_kerbToAskFor_200 {S : aS} {I : Nat → Nat → Int32} {L : Nat → Nat → Int64} {w1 w2 t : Nat} {x1 : Int32} : Sp S m_X11_kerbToAskFor 14 0 0 [.ref 200, .int x1] (hp I L w1 w2 t) (QE isI (hp I L w1 w2 t)) nX := by
  refine Sp_of ok_X11_kerbToAskFor rfl rfl ?_
  show AW S m_X11_kerbToAskFor 14 _ _ 0 0 0 [some (.ref 200), some (.int x1), none, none, none, none, none, none] [] (hp I L w1 w2 t)
  refine a_l1 rfl rfl rfl ?_
  refine a_eS1 rfl lX11_261 mo_J6_bitCount_0f7a4 (sp_bitCount) rfl rfl rfl rfl ?_
  refine a_s2 rfl rfl rfl rfl rfl rfl ?_
  refine a_l2 rfl rfl rfl ?_
  refine a_s rfl rfl ?_
  refine a_ic_ge rfl (fun c7 => ?_) (fun c7 => ?_)
  · refine a_s rfl rfl ?_
    refine a_s3 rfl rfl rfl rfl rfl rfl ?_
    refine a_l2 rfl rfl rfl ?_
    refine a_s rfl rfl ?_
    refine a_s rfl rfl ?_
    refine a_s4 rfl rfl rfl rfl rfl rfl ?_
    refine a_s rfl rfl ?_
    refine a_s5 rfl rfl rfl rfl rfl rfl ?_
    refine a_cnt (j0 := 0) (fun j ls h => ∃ a0, ∃ a1, ∃ a2, ls = [some (.ref 200), some (.int x1), some (.int a0), some (.int a1), some (.int a2), some (.int (nI j)), none, none] ∧ h = hp I L w1 w2 t) (by decide) ⟨_, _, _, rfl, rfl⟩ ⟨rfl, rfl, rfl, rfl, rfl, rfl, trivial⟩ ?_
    rintro j22 _ _ hj22 ⟨a0_22, a1_22, a2_22, rfl, rfl⟩ ih22
    refine a_l5 rfl rfl rfl ?_
    refine a_s rfl rfl ?_
    refine a_ic_ge rfl (fun c26 => ?_) (fun c26 => ?_)
    · refine a_l3 rfl rfl rfl ?_
      exact a_iret rfl rfl ⟨⟨_, rfl⟩, rfl⟩
    · refine a_l1 rfl rfl rfl ?_
      refine a_l0 rfl rfl rfl ?_
      refine a_getq rfl gfX11_37_11 rfl (rfl) ?_
      refine a_s rfl rfl ?_
      refine a_l5 rfl rfl rfl ?_
      refine a_gV rfl lX11_395 mo_X5_standingBetween (q_X5_standingBetween_235) rfl rfl rfl ⟨5, _, rfl, rfl, rfl⟩ rfl (fun v' h' hv => ?_)
      obtain ⟨⟨v1, rfl⟩, rfl⟩ := hv
      refine a_s rfl rfl ?_
      refine a_eS1 rfl lX11_261 mo_J6_bitCount_0f7a4 (sp_bitCount) rfl rfl rfl rfl ?_
      refine a_s6 rfl rfl rfl rfl rfl rfl ?_
      refine a_l6 rfl rfl rfl ?_
      refine a_l2 rfl rfl rfl ?_
      refine a_l6 rfl rfl rfl ?_
      refine a_s rfl rfl ?_
      refine a_max rfl lX11_290 mj_max rfl rfl ?_
      refine a_s7 rfl rfl rfl rfl rfl rfl ?_
      refine a_l7 rfl rfl rfl ?_
      refine a_l4 rfl rfl rfl ?_
      refine a_ic_ge rfl (fun c61 => ?_) (fun c61 => ?_)
      · refine a_i5 rfl rfl rfl ?_
        refine a_goto rfl ?_
        exact ih22 _ _ _ _ c26 ⟨_, _, _, rfl, rfl⟩ ⟨rfl, rfl, rfl, rfl, rfl, nS _, trivial⟩
      · refine a_l5 rfl rfl rfl ?_
        refine a_s3 rfl rfl rfl rfl rfl rfl ?_
        refine a_l7 rfl rfl rfl ?_
        refine a_s4 rfl rfl rfl rfl rfl rfl ?_
        refine a_i5 rfl rfl rfl ?_
        refine a_goto rfl ?_
        exact ih22 _ _ _ _ c26 ⟨_, _, _, rfl, rfl⟩ ⟨rfl, rfl, rfl, rfl, rfl, nS _, trivial⟩
  · refine a_s rfl rfl ?_
    exact a_iret rfl rfl ⟨⟨_, rfl⟩, rfl⟩
theorem q_X7_byteAt_201 {S : aS} {I : Nat → Nat → Int32} {L : Nat → Nat → Int64} {w1 w2 t : Nat} {x1 : Int32} : Sp S m_X7_byteAt 12 0 0 [.ref 201, .int x1] (hp I L w1 w2 t) (QE isI (hp I L w1 w2 t)) nX := by
  refine Sp_of ok_X7_byteAt rfl rfl ?_
  show AW S m_X7_byteAt 12 _ _ 0 0 0 [some (.ref 201), some (.int x1)] [] (hp I L w1 w2 t)
  refine a_l1 rfl rfl rfl ?_
  refine a_if_lt rfl (fun c1 => ?_) (fun c1 => ?_)
  · refine a_s rfl rfl ?_
    exact a_iret rfl rfl ⟨⟨_, rfl⟩, rfl⟩
  · refine a_l1 rfl rfl rfl ?_
    refine a_l0 rfl rfl rfl ?_
    refine a_geti rfl gfX7_15_7 rfl ?_
    refine a_ic_ge rfl (fun c9 => ?_) (fun c9 => ?_)
    · refine a_s rfl rfl ?_
      exact a_iret rfl rfl ⟨⟨_, rfl⟩, rfl⟩
    · refine a_l1 rfl rfl rfl ?_
      refine a_l0 rfl rfl rfl ?_
      refine a_getq rfl gfX7_9_7 rfl (rfl) ?_
      refine a_len rfl rfl rfl rfl ?_
      refine a_ic_ge rfl (fun c18 => ?_) (fun c18 => ?_)
      · refine a_s rfl rfl ?_
        exact a_iret rfl rfl ⟨⟨_, rfl⟩, rfl⟩
      · refine a_l0 rfl rfl rfl ?_
        refine a_getq rfl gfX7_9_7 rfl (rfl) ?_
        refine a_l1 rfl rfl rfl ?_
        refine a_bald rfl rfl (inI_of (by decide) c1 c18) ?_
        refine a_s rfl rfl ?_
        refine a_s rfl rfl ?_
        refine a_goto rfl ?_
        exact a_iret rfl rfl ⟨⟨_, rfl⟩, rfl⟩
theorem q_X11_whoFits_200 {S : aS} {I : Nat → Nat → Int32} {L : Nat → Nat → Int64} {w1 w2 t : Nat} : Sp S m_X11_whoFits 14 0 0 [.ref 200] (hp I L w1 w2 t) (QE isI (hp I L w1 w2 t)) nX := by
  refine Sp_of ok_X11_whoFits rfl rfl ?_
  show AW S m_X11_whoFits 14 _ _ 0 0 0 [some (.ref 200), none, none, none, none] [] (hp I L w1 w2 t)
  refine a_l0 rfl rfl rfl ?_
  refine a_getq rfl gfX11_10_11 rfl (rfl) ?_
  refine a_geti rfl gfX11_68_7 rfl ?_
  refine a_s rfl rfl ?_
  refine a_ic_gt rfl (fun c9 => ?_) (fun c9 => ?_)
  · refine a_s rfl rfl ?_
    exact a_iret rfl rfl ⟨⟨_, rfl⟩, rfl⟩
  · refine a_l0 rfl rfl rfl ?_
    refine a_getq rfl gfX11_10_11 rfl (rfl) ?_
    refine a_geti rfl gfX11_68_7 rfl ?_
    refine a_s rfl rfl ?_
    refine a_irem rfl (by decide) ?_
    refine a_if_eq rfl (fun c21 => ?_) (fun c21 => ?_)
    · refine a_l0 rfl rfl rfl ?_
      refine a_getq rfl gfX11_37_11 rfl (rfl) ?_
      refine a_geti rfl gfX11_179_5 rfl ?_
      refine a_eS1 rfl lX11_319 mo_X11_bit (sp_X11_bit) rfl rfl rfl rfl ?_
      refine a_s rfl rfl ?_
      refine a_s rfl rfl ?_
      refine a_s1 rfl rfl rfl rfl rfl rfl ?_
      refine a_s rfl rfl ?_
      refine a_s2 rfl rfl rfl rfl rfl rfl ?_
      refine a_cntI2 (fun y ls h => ∃ a0, ls = [some (.ref 200), some (.int a0), some (.int y), none, none] ∧ h = hp I L w1 w2 t) ⟨_, rfl, rfl⟩ ⟨rfl, rfl, rfl, trivial⟩ ?_
      rintro y41 _ _ ⟨a0_41, rfl, rfl⟩ ih41
      refine a_l2 rfl rfl rfl ?_
      refine a_l0 rfl rfl rfl ?_
      refine a_getq rfl gfX11_10_11 rfl (rfl) ?_
      refine a_geti rfl gfX11_68_7 rfl ?_
      refine a_ic_ge rfl (fun c49 => ?_) (fun c49 => ?_)
      · refine a_l1 rfl rfl rfl ?_
        exact a_iret rfl rfl ⟨⟨_, rfl⟩, rfl⟩
      · refine a_l0 rfl rfl rfl ?_
        refine a_getq rfl gfX11_10_11 rfl (rfl) ?_
        refine a_l2 rfl rfl rfl ?_
        refine a_gV rfl lX11_392 mo_X7_byteAt (q_X7_byteAt_201) rfl rfl rfl ⟨7, _, rfl, rfl, rfl⟩ rfl (fun v' h' hv => ?_)
        obtain ⟨⟨v1, rfl⟩, rfl⟩ := hv
        refine a_s3 rfl rfl rfl rfl rfl rfl ?_
        refine a_l0 rfl rfl rfl ?_
        refine a_getq rfl gfX11_10_11 rfl (rfl) ?_
        refine a_l2 rfl rfl rfl ?_
        refine a_s rfl rfl ?_
        refine a_s rfl rfl ?_
        refine a_gV rfl lX11_392 mo_X7_byteAt (q_X7_byteAt_201) rfl rfl rfl ⟨7, _, rfl, rfl, rfl⟩ rfl (fun v' h' hv => ?_)
        obtain ⟨⟨v2, rfl⟩, rfl⟩ := hv
        refine a_s4 rfl rfl rfl rfl rfl rfl ?_
        refine a_l3 rfl rfl rfl ?_
        refine a_l4 rfl rfl rfl ?_
        refine a_ic_gt rfl (fun c76 => ?_) (fun c76 => ?_)
        · refine a_s rfl rfl ?_
          exact a_iret rfl rfl ⟨⟨_, rfl⟩, rfl⟩
        · refine a_l4 rfl rfl rfl ?_
          refine a_s rfl rfl ?_
          refine a_ic_le rfl (fun c83 => ?_) (fun c83 => ?_)
          · refine a_l1 rfl rfl rfl ?_
            refine a_l0 rfl rfl rfl ?_
            refine a_getq rfl gfX11_37_11 rfl (rfl) ?_
            refine a_l3 rfl rfl rfl ?_
            refine a_l4 rfl rfl rfl ?_
            refine a_gV rfl lX11_395 mo_X5_standingBetween (q_X5_standingBetween_235) rfl rfl rfl ⟨5, _, rfl, rfl, rfl⟩ rfl (fun v' h' hv => ?_)
            obtain ⟨⟨v3, rfl⟩, rfl⟩ := hv
            refine a_s rfl rfl ?_
            refine a_s1 rfl rfl rfl rfl rfl rfl ?_
            refine a_i2 rfl rfl rfl ?_
            refine a_goto rfl ?_
            exact ih41 _ _ _ _ ⟨c49, c9⟩ ⟨_, rfl, rfl⟩ ⟨rfl, rfl, rfl, trivial⟩
          · refine a_s rfl rfl ?_
            exact a_iret rfl rfl ⟨⟨_, rfl⟩, rfl⟩
    · refine a_s rfl rfl ?_
      exact a_iret rfl rfl ⟨⟨_, rfl⟩, rfl⟩
theorem q_X2_shameOf_246_257 {S : aS} {I : Nat → Nat → Int32} {L : Nat → Nat → Int64} {w1 w2 t : Nat} {x2 : Int32} : Sp S m_X2_shameOf 15 0 0 [.ref 246, .ref 257, .int x2] (hp I L w1 w2 t) (QR (Fm sQ I) isI L w1 w2 t) nX := by
  refine Sp_of ok_X2_shameOf rfl rfl ?_
  show AW S m_X2_shameOf 15 _ _ 0 0 0 [some (.ref 246), some (.ref 257), some (.int x2)] [] (hp I L w1 w2 t)
  refine a_l0 rfl rfl rfl ?_
  refine a_l1 rfl rfl rfl ?_
  refine a_l2 rfl rfl rfl ?_
  refine a_gV rfl lX2_48 mo_X2_takeParts (q_X2_takeParts_246_257) rfl rfl rfl ⟨2, _, rfl, rfl, rfl⟩ rfl (fun v' h' hv => ?_)
  obtain ⟨rfl, I2, rfl, f3⟩ := hv
  refine a_s rfl rfl ?_
  refine a_l1 rfl rfl rfl ?_
  refine a_getq rfl gfX2_56_5 rfl (rfl) ?_
  refine a_l2 rfl rfl rfl ?_
  refine a_eSN1 rfl lX2_61 mo_X11_at (sp_X11_at rfl) rfl rfl rfl rfl ?_
  refine a_l0 rfl rfl rfl ?_
  refine a_s rfl rfl ?_
  refine a_gV rfl lX2_52 mo_X2_sumOfLines (q_X2_sumOfLines_246) rfl rfl rfl ⟨2, _, rfl, rfl, rfl⟩ rfl (fun v' h' hv => ?_)
  obtain ⟨⟨v4, rfl⟩, I5, rfl, f6⟩ := hv
  replace f6 : Fm sQ I I5 := Fm.tr (f3) (f6)
  refine a_s rfl rfl ?_
  refine a_l0 rfl rfl rfl ?_
  refine a_s rfl rfl ?_
  refine a_gV rfl lX2_52 mo_X2_sumOfLines (q_X2_sumOfLines_246) rfl rfl rfl ⟨2, _, rfl, rfl, rfl⟩ rfl (fun v' h' hv => ?_)
  obtain ⟨⟨v7, rfl⟩, I8, rfl, f9⟩ := hv
  replace f9 : Fm sQ I I8 := Fm.tr (f6) (f9)
  refine a_s rfl rfl ?_
  refine a_max rfl lX2_65 mj_max rfl rfl ?_
  exact a_iret rfl rfl ⟨⟨_, rfl⟩, _, rfl, f9⟩
theorem q_X2_shameOfSet_246_257 {S : aS} {I : Nat → Nat → Int32} {L : Nat → Nat → Int64} {w1 w2 t : Nat} {x2 : Int32} : Sp S m_X2_shameOfSet 16 0 0 [.ref 246, .ref 257, .int x2] (hp I L w1 w2 t) (QR (Fm sQ I) isI L w1 w2 t) nX := by
  refine Sp_of ok_X2_shameOfSet rfl rfl ?_
  show AW S m_X2_shameOfSet 16 _ _ 0 0 0 [some (.ref 246), some (.ref 257), some (.int x2), none, none] [] (hp I L w1 w2 t)
  refine a_s rfl rfl ?_
  refine a_s3 rfl rfl rfl rfl rfl rfl ?_
  refine a_s rfl rfl ?_
  refine a_s4 rfl rfl rfl rfl rfl rfl ?_
  refine a_cnt (j0 := 0) (fun j ls h => ∃ a0, ∃ I', ls = [some (.ref 246), some (.ref 257), some (.int x2), some (.int a0), some (.int (nI j))] ∧ h = hp I' L w1 w2 t ∧ Fm sQ I I') (by decide) ⟨_, _, rfl, rfl, Fm.rf⟩ ⟨rfl, rfl, rfl, rfl, rfl, trivial⟩ ?_
  rintro j5 _ _ hj5 ⟨a0_5, Ih5, rfl, rfl, fh5⟩ ih5
  refine a_l4 rfl rfl rfl ?_
  refine a_l1 rfl rfl rfl ?_
  refine a_geti rfl gfX2_71_5 rfl ?_
  refine a_ic_ge rfl (fun c11 => ?_) (fun c11 => ?_)
  · refine a_l3 rfl rfl rfl ?_
    exact a_iret rfl rfl ⟨⟨_, rfl⟩, _, rfl, fh5⟩
  · refine a_l2 rfl rfl rfl ?_
    refine a_l4 rfl rfl rfl ?_
    refine a_eSN1 rfl lX2_74 mo_X11_has (sp_X11_has) rfl rfl rfl rfl ?_
    refine a_if_eq rfl (fun c20 => ?_) (fun c20 => ?_)
    · refine a_i4 rfl rfl rfl ?_
      refine a_goto rfl ?_
      exact ih5 _ _ _ _ c11 ⟨_, _, rfl, rfl, fh5⟩ ⟨rfl, rfl, rfl, rfl, nS _, trivial⟩
    · refine a_l3 rfl rfl rfl ?_
      refine a_l0 rfl rfl rfl ?_
      refine a_l1 rfl rfl rfl ?_
      refine a_l4 rfl rfl rfl ?_
      refine a_gV rfl lX2_78 mo_X2_shameOf (q_X2_shameOf_246_257) rfl rfl rfl ⟨2, _, rfl, rfl, rfl⟩ rfl (fun v' h' hv => ?_)
      obtain ⟨⟨v1, rfl⟩, I2, rfl, f3⟩ := hv
      replace f3 : Fm sQ I I2 := Fm.tr (fh5) (f3)
      refine a_s rfl rfl ?_
      refine a_s3 rfl rfl rfl rfl rfl rfl ?_
      refine a_i4 rfl rfl rfl ?_
      refine a_goto rfl ?_
      exact ih5 _ _ _ _ c11 ⟨_, _, rfl, rfl, f3⟩ ⟨rfl, rfl, rfl, rfl, nS _, trivial⟩
theorem q_X11_shameOfWaiting_200_257 {S : aS} {I : Nat → Nat → Int32} {L : Nat → Nat → Int64} {w1 w2 t : Nat} : Sp S m_X11_shameOfWaiting 17 0 0 [.ref 200, .ref 257] (hp I L w1 w2 t) (QR (Fm sQ I) isI L w1 w2 t) nX := by
  refine Sp_of ok_X11_shameOfWaiting rfl rfl ?_
  show AW S m_X11_shameOfWaiting 17 _ _ 0 0 0 [some (.ref 200), some (.ref 257)] [] (hp I L w1 w2 t)
  refine a_l0 rfl rfl rfl ?_
  refine a_getq rfl gfX11_44_11 rfl (rfl) ?_
  refine a_l1 rfl rfl rfl ?_
  refine a_l1 rfl rfl rfl ?_
  refine a_s rfl rfl ?_
  refine a_gV rfl lX11_200 mo_X5_bitsIn (q_X5_bitsIn_257) rfl rfl rfl ⟨5, _, rfl, rfl, rfl⟩ rfl (fun v' h' hv => ?_)
  obtain ⟨⟨v1, rfl⟩, rfl⟩ := hv
  refine a_gV rfl lX11_282 mo_X2_shameOfSet (q_X2_shameOfSet_246_257) rfl rfl rfl ⟨2, _, rfl, rfl, rfl⟩ rfl (fun v' h' hv => ?_)
  obtain ⟨⟨v2, rfl⟩, I3, rfl, f4⟩ := hv
  exact a_iret rfl rfl ⟨⟨_, rfl⟩, _, rfl, f4⟩
theorem q_X11_shameTriedOut_200 {S : aS} {I : Nat → Nat → Int32} {L : Nat → Nat → Int64} {w1 w2 t : Nat} {x1 x2 : Int32} : Sp S m_X11_shameTriedOut 18 0 0 [.ref 200, .int x1, .int x2] (hp I L w1 w2 t) (QR (Fm sQ I) isI L w1 w2 t) nX := by
  refine Sp_of ok_X11_shameTriedOut rfl rfl ?_
  show AW S m_X11_shameTriedOut 18 _ _ 0 0 0 [some (.ref 200), some (.int x1), some (.int x2), none] [] (hp I L w1 w2 t)
  refine a_l0 rfl rfl rfl ?_
  refine a_getq rfl gfX11_55_11 rfl (rfl) ?_
  refine a_l0 rfl rfl rfl ?_
  refine a_getq rfl gfX11_37_11 rfl (rfl) ?_
  refine a_eV0 rfl lX11_78 mo_X5_copyFrom (sp_X5_copyFrom (a := 257) (b := 235) (by decide) (by decide) (by decide)) rfl rfl rfl ⟨5, _, rfl, rfl, rfl⟩ rfl ?_
  refine a_ren (P := Fm sQ I) (Fm.cp (Fm.rf (s := sQ)) sQ_257) (fun I1 f2 => ?_)
  refine a_l0 rfl rfl rfl ?_
  refine a_getq rfl gfX11_55_11 rfl (rfl) ?_
  refine a_l2 rfl rfl rfl ?_
  refine a_puti rfl pfX11_353_5 rfl ?_
  refine a_ren (P := Fm sQ I) (Fm.tr (f2) (Fm.up (Fm.rf (s := sQ)) rfl)) (fun I3 f4 => ?_)
  refine a_s rfl rfl ?_
  refine a_s3 rfl rfl rfl rfl rfl rfl ?_
  refine a_cnt (j0 := 0) (fun j ls h => ∃ I', ls = [some (.ref 200), some (.int x1), some (.int x2), some (.int (nI j))] ∧ h = hp I' L w1 w2 t ∧ Fm sQ I I') (by decide) ⟨_, rfl, rfl, f4⟩ ⟨rfl, rfl, rfl, rfl, trivial⟩ ?_
  rintro j21 _ _ hj21 ⟨Ih21, rfl, rfl, fh21⟩ ih21
  refine a_l3 rfl rfl rfl ?_
  refine a_l1 rfl rfl rfl ?_
  refine a_ic_ge rfl (fun c23 => ?_) (fun c23 => ?_)
  · refine a_l0 rfl rfl rfl ?_
    refine a_l0 rfl rfl rfl ?_
    refine a_getq rfl gfX11_55_11 rfl (rfl) ?_
    refine a_gV rfl lX11_207 mo_X11_shameOfWaiting (q_X11_shameOfWaiting_200_257) rfl rfl rfl ⟨11, _, rfl, rfl, rfl⟩ rfl (fun v' h' hv => ?_)
    obtain ⟨⟨v5, rfl⟩, I6, rfl, f7⟩ := hv
    replace f7 : Fm sQ I I6 := Fm.tr (fh21) (f7)
    exact a_iret rfl rfl ⟨⟨_, rfl⟩, _, rfl, f7⟩
  · refine a_l0 rfl rfl rfl ?_
    refine a_getq rfl gfX11_55_11 rfl (rfl) ?_
    refine a_l0 rfl rfl rfl ?_
    refine a_getq rfl gfX11_44_11 rfl (rfl) ?_
    refine a_s rfl rfl ?_
    refine a_gV rfl lX11_254 mo_X5_passDay (q_X5_passDay_257_246 (b2 := true)) rfl rfl rfl ⟨5, _, rfl, rfl, rfl⟩ rfl (fun v' h' hv => ?_)
    obtain ⟨rfl, I9, rfl, f10⟩ := hv
    replace f10 : Fm sQ I I9 := Fm.tr (fh21) (f10)
    refine a_i3 rfl rfl rfl ?_
    refine a_goto rfl ?_
    exact ih21 _ _ _ _ c23 ⟨_, rfl, rfl, f10⟩ ⟨rfl, rfl, rfl, nS _, trivial⟩
theorem q_X11_needPerson_200 {S : aS} {I : Nat → Nat → Int32} {L : Nat → Nat → Int64} {w1 w2 t : Nat} {x1 : Int32} : Sp S m_X11_needPerson 13 1 6 [.ref 200, .int x1] (hp I L w1 w2 t) (QE isV (hp I L w1 w2 t)) (XR (Fm sQ I) L w1 w2 [0]) := by
  refine Sp_of ok_X11_needPerson rfl rfl ?_
  show AW S m_X11_needPerson 13 _ _ 1 6 0 [some (.ref 200), some (.int x1)] [] (hp I L w1 w2 t)
  refine a_l1 rfl rfl rfl ?_
  refine a_if_lt rfl (fun c1 => ?_) (fun c1 => ?_)
  · exact a_throw rfl rfl rfl rfl tX11_ioobe rfl rfl rfl rfl rfl ⟨⟨0, by decide, rfl⟩, _, rfl, Fm.rf⟩
  · refine a_l1 rfl rfl rfl ?_
    refine a_l0 rfl rfl rfl ?_
    refine a_getq rfl gfX11_37_11 rfl (rfl) ?_
    refine a_geti rfl gfX11_179_5 rfl ?_
    refine a_ic_lt rfl (fun c12 => ?_) (fun c12 => ?_)
    · exact a_vret rfl rfl ⟨rfl, rfl⟩
    · exact a_throw rfl rfl rfl rfl tX11_ioobe rfl rfl rfl rfl rfl ⟨⟨0, by decide, rfl⟩, _, rfl, Fm.rf⟩
theorem q_X11_person_200 {S : aS} {I : Nat → Nat → Int32} {L : Nat → Nat → Int64} {w1 w2 t : Nat} {x1 x2 : Int32} : Sp S m_X11_person 19 2 12 [.ref 200, .int x1, .int x2] (hp I L w1 w2 t) (QR (Fm sQ I) isI L w1 w2 t) (XR (Fm sQ I) L w1 w2 [0, 4]) := by
  refine Sp_of ok_X11_person rfl rfl ?_
  show AW S m_X11_person 19 _ _ 2 12 0 [some (.ref 200), some (.int x1), some (.int x2)] [] (hp I L w1 w2 t)
  refine a_l0 rfl rfl rfl ?_
  refine a_l1 rfl rfl rfl ?_
  refine a_callV rfl lX11_110 mo_X11_needPerson (q_X11_needPerson_200) rfl rfl rfl ⟨11, _, rfl, rfl, rfl⟩ rfl (fun v' h' hv => ?_) (fun E h' hx => XR.cm hx (by decide) (fun _ z => z))
  obtain ⟨rfl, rfl⟩ := hv
  refine a_l2 rfl rfl rfl ?_
  refine a_tswA rfl (by decide) (by decide) (fun hx => ?_) (fun i o ho hx => ?_)
  · refine a_pc (pc' := 115) (by decide) ?_
    exact a_throw rfl rfl rfl rfl tX11_nsee rfl rfl rfl rfl rfl ⟨⟨4, by decide, rfl⟩, _, rfl, Fm.rf⟩
  · rcases i with _ | _ | _ | _ | _ | _ | i
    · cases ho
      refine a_pc (pc' := 44) (by decide) ?_
      refine a_l0 rfl rfl rfl ?_
      refine a_getq rfl gfX11_37_11 rfl (rfl) ?_
      refine a_getq rfl gfX11_113_5 rfl (rfl) ?_
      refine a_l1 rfl rfl rfl ?_
      refine a_eS1 rfl lX11_117 mo_X11_at (sp_X11_at rfl) rfl rfl rfl rfl ?_
      exact a_iret rfl rfl ⟨⟨_, rfl⟩, _, rfl, Fm.rf⟩
    · cases ho
      refine a_pc (pc' := 56) (by decide) ?_
      refine a_l0 rfl rfl rfl ?_
      refine a_getq rfl gfX11_37_11 rfl (rfl) ?_
      refine a_getq rfl gfX11_121_5 rfl (rfl) ?_
      refine a_l1 rfl rfl rfl ?_
      refine a_eS1 rfl lX11_117 mo_X11_at (sp_X11_at rfl) rfl rfl rfl rfl ?_
      exact a_iret rfl rfl ⟨⟨_, rfl⟩, _, rfl, Fm.rf⟩
    · cases ho
      refine a_pc (pc' := 68) (by decide) ?_
      refine a_l0 rfl rfl rfl ?_
      refine a_getq rfl gfX11_37_11 rfl (rfl) ?_
      refine a_l1 rfl rfl rfl ?_
      refine a_gV rfl lX11_124 mo_X5_ownedBy (q_X5_ownedBy_235) rfl rfl rfl ⟨5, _, rfl, rfl, rfl⟩ rfl (fun v' h' hv => ?_)
      obtain ⟨⟨v2, rfl⟩, rfl⟩ := hv
      exact a_iret rfl rfl ⟨⟨_, rfl⟩, _, rfl, Fm.rf⟩
    · cases ho
      refine a_pc (pc' := 77) (by decide) ?_
      refine a_l0 rfl rfl rfl ?_
      refine a_getq rfl gfX11_37_11 rfl (rfl) ?_
      refine a_l1 rfl rfl rfl ?_
      refine a_gV rfl lX11_128 mo_X5_loadOf (q_X5_loadOf_235) rfl rfl rfl ⟨5, _, rfl, rfl, rfl⟩ rfl (fun v' h' hv => ?_)
      obtain ⟨⟨v3, rfl⟩, rfl⟩ := hv
      exact a_iret rfl rfl ⟨⟨_, rfl⟩, _, rfl, Fm.rf⟩
    · cases ho
      refine a_pc (pc' := 86) (by decide) ?_
      refine a_l0 rfl rfl rfl ?_
      refine a_getq rfl gfX11_37_11 rfl (rfl) ?_
      refine a_l1 rfl rfl rfl ?_
      refine a_gV rfl lX11_128 mo_X5_loadOf (q_X5_loadOf_235) rfl rfl rfl ⟨5, _, rfl, rfl, rfl⟩ rfl (fun v' h' hv => ?_)
      obtain ⟨⟨v4, rfl⟩, rfl⟩ := hv
      refine a_l0 rfl rfl rfl ?_
      refine a_getq rfl gfX11_37_11 rfl (rfl) ?_
      refine a_getq rfl gfX11_121_5 rfl (rfl) ?_
      refine a_l1 rfl rfl rfl ?_
      refine a_eS1 rfl lX11_117 mo_X11_at (sp_X11_at rfl) rfl rfl rfl rfl ?_
      refine a_eS1 rfl lX11_131 mo_X11_needsOf (sp_X11_needsOf) rfl rfl rfl rfl ?_
      exact a_iret rfl rfl ⟨⟨_, rfl⟩, _, rfl, Fm.rf⟩
    · cases ho
      refine a_pc (pc' := 109) (by decide) ?_
      refine a_l0 rfl rfl rfl ?_
      refine a_l1 rfl rfl rfl ?_
      refine a_gV rfl lX11_135 mo_X11_shareOf (q_X11_shareOf_200) rfl rfl rfl ⟨11, _, rfl, rfl, rfl⟩ rfl (fun v' h' hv => ?_)
      obtain ⟨⟨v5, rfl⟩, I6, rfl, f7⟩ := hv
      exact a_iret rfl rfl ⟨⟨_, rfl⟩, _, rfl, f7⟩
    · cases ho
theorem q_X11_needDuty_200 {S : aS} {I : Nat → Nat → Int32} {L : Nat → Nat → Int64} {w1 w2 t : Nat} {x1 : Int32} : Sp S m_X11_needDuty 13 1 6 [.ref 200, .int x1] (hp I L w1 w2 t) (QE isV (hp I L w1 w2 t)) (XR (Fm sQ I) L w1 w2 [0]) := by
  refine Sp_of ok_X11_needDuty rfl rfl ?_
  show AW S m_X11_needDuty 13 _ _ 1 6 0 [some (.ref 200), some (.int x1)] [] (hp I L w1 w2 t)
  refine a_l1 rfl rfl rfl ?_
  refine a_if_lt rfl (fun c1 => ?_) (fun c1 => ?_)
  · exact a_throw rfl rfl rfl rfl tX11_ioobe rfl rfl rfl rfl rfl ⟨⟨0, by decide, rfl⟩, _, rfl, Fm.rf⟩
  · refine a_l1 rfl rfl rfl ?_
    refine a_l0 rfl rfl rfl ?_
    refine a_getq rfl gfX11_37_11 rfl (rfl) ?_
    refine a_geti rfl gfX11_182_5 rfl ?_
    refine a_ic_lt rfl (fun c12 => ?_) (fun c12 => ?_)
    · exact a_vret rfl rfl ⟨rfl, rfl⟩
    · exact a_throw rfl rfl rfl rfl tX11_ioobe rfl rfl rfl rfl rfl ⟨⟨0, by decide, rfl⟩, _, rfl, Fm.rf⟩
theorem q_X11_duty_200 {S : aS} {I : Nat → Nat → Int32} {L : Nat → Nat → Int64} {w1 w2 t : Nat} {x1 x2 : Int32} : Sp S m_X11_duty 16 2 12 [.ref 200, .int x1, .int x2] (hp I L w1 w2 t) (QR (Fm sQ I) isI L w1 w2 t) (XR (Fm sQ I) L w1 w2 [0, 4]) := by
  refine Sp_of ok_X11_duty rfl rfl ?_
  show AW S m_X11_duty 16 _ _ 2 12 0 [some (.ref 200), some (.int x1), some (.int x2)] [] (hp I L w1 w2 t)
  refine a_l0 rfl rfl rfl ?_
  refine a_l1 rfl rfl rfl ?_
  refine a_callV rfl lX11_141 mo_X11_needDuty (q_X11_needDuty_200) rfl rfl rfl ⟨11, _, rfl, rfl, rfl⟩ rfl (fun v' h' hv => ?_) (fun E h' hx => XR.cm hx (by decide) (fun _ z => z))
  obtain ⟨rfl, rfl⟩ := hv
  refine a_l2 rfl rfl rfl ?_
  refine a_tswA rfl (by decide) (by decide) (fun hx => ?_) (fun i o ho hx => ?_)
  · refine a_pc (pc' := 197) (by decide) ?_
    exact a_throw rfl rfl rfl rfl tX11_nsee rfl rfl rfl rfl rfl ⟨⟨4, by decide, rfl⟩, _, rfl, Fm.rf⟩
  · rcases i with _ | _ | _ | _ | _ | _ | _ | _ | _ | _ | _ | i
    · cases ho
      refine a_pc (pc' := 64) (by decide) ?_
      refine a_l0 rfl rfl rfl ?_
      refine a_getq rfl gfX11_37_11 rfl (rfl) ?_
      refine a_getq rfl gfX11_144_5 rfl (rfl) ?_
      refine a_l1 rfl rfl rfl ?_
      refine a_eS1 rfl lX11_117 mo_X11_at (sp_X11_at rfl) rfl rfl rfl rfl ?_
      exact a_iret rfl rfl ⟨⟨_, rfl⟩, _, rfl, Fm.rf⟩
    · cases ho
      refine a_pc (pc' := 76) (by decide) ?_
      refine a_l0 rfl rfl rfl ?_
      refine a_getq rfl gfX11_37_11 rfl (rfl) ?_
      refine a_getq rfl gfX11_147_5 rfl (rfl) ?_
      refine a_l1 rfl rfl rfl ?_
      refine a_eS1 rfl lX11_117 mo_X11_at (sp_X11_at rfl) rfl rfl rfl rfl ?_
      exact a_iret rfl rfl ⟨⟨_, rfl⟩, _, rfl, Fm.rf⟩
    · cases ho
      refine a_pc (pc' := 88) (by decide) ?_
      refine a_l0 rfl rfl rfl ?_
      refine a_getq rfl gfX11_37_11 rfl (rfl) ?_
      refine a_getq rfl gfX11_150_5 rfl (rfl) ?_
      refine a_l1 rfl rfl rfl ?_
      refine a_eS1 rfl lX11_117 mo_X11_at (sp_X11_at rfl) rfl rfl rfl rfl ?_
      exact a_iret rfl rfl ⟨⟨_, rfl⟩, _, rfl, Fm.rf⟩
    · cases ho
      refine a_pc (pc' := 100) (by decide) ?_
      refine a_l0 rfl rfl rfl ?_
      refine a_getq rfl gfX11_37_11 rfl (rfl) ?_
      refine a_getq rfl gfX11_153_5 rfl (rfl) ?_
      refine a_l1 rfl rfl rfl ?_
      refine a_eS1 rfl lX11_117 mo_X11_at (sp_X11_at rfl) rfl rfl rfl rfl ?_
      exact a_iret rfl rfl ⟨⟨_, rfl⟩, _, rfl, Fm.rf⟩
    · cases ho
      refine a_pc (pc' := 112) (by decide) ?_
      refine a_l0 rfl rfl rfl ?_
      refine a_getq rfl gfX11_37_11 rfl (rfl) ?_
      refine a_getq rfl gfX11_156_5 rfl (rfl) ?_
      refine a_l1 rfl rfl rfl ?_
      refine a_eS1 rfl lX11_117 mo_X11_at (sp_X11_at rfl) rfl rfl rfl rfl ?_
      exact a_iret rfl rfl ⟨⟨_, rfl⟩, _, rfl, Fm.rf⟩
    · cases ho
      refine a_pc (pc' := 124) (by decide) ?_
      refine a_l0 rfl rfl rfl ?_
      refine a_getq rfl gfX11_37_11 rfl (rfl) ?_
      refine a_getq rfl gfX11_159_5 rfl (rfl) ?_
      refine a_l1 rfl rfl rfl ?_
      refine a_eS1 rfl lX11_117 mo_X11_at (sp_X11_at rfl) rfl rfl rfl rfl ?_
      exact a_iret rfl rfl ⟨⟨_, rfl⟩, _, rfl, Fm.rf⟩
    · cases ho
      refine a_pc (pc' := 136) (by decide) ?_
      refine a_l0 rfl rfl rfl ?_
      refine a_getq rfl gfX11_37_11 rfl (rfl) ?_
      refine a_l1 rfl rfl rfl ?_
      refine a_gV rfl lX11_162 mo_X5_isReady (q_X5_isReady_235) rfl rfl rfl ⟨5, _, rfl, rfl, rfl⟩ rfl (fun v' h' hv => ?_)
      obtain ⟨⟨v2, rfl⟩, rfl⟩ := hv
      refine a_if_eq rfl (fun c144 => ?_) (fun c144 => ?_)
      · refine a_s rfl rfl ?_
        exact a_iret rfl rfl ⟨⟨_, rfl⟩, _, rfl, Fm.rf⟩
      · refine a_s rfl rfl ?_
        refine a_goto rfl ?_
        exact a_iret rfl rfl ⟨⟨_, rfl⟩, _, rfl, Fm.rf⟩
    · cases ho
      refine a_pc (pc' := 153) (by decide) ?_
      refine a_l0 rfl rfl rfl ?_
      refine a_getq rfl gfX11_44_11 rfl (rfl) ?_
      refine a_l0 rfl rfl rfl ?_
      refine a_getq rfl gfX11_37_11 rfl (rfl) ?_
      refine a_l1 rfl rfl rfl ?_
      refine a_gV rfl lX11_166 mo_X2_growthOf (q_X2_growthOf_246_235) rfl rfl rfl ⟨2, _, rfl, rfl, rfl⟩ rfl (fun v' h' hv => ?_)
      obtain ⟨⟨v3, rfl⟩, I4, rfl, f5⟩ := hv
      exact a_iret rfl rfl ⟨⟨_, rfl⟩, _, rfl, f5⟩
    · cases ho
      refine a_pc (pc' := 166) (by decide) ?_
      refine a_l0 rfl rfl rfl ?_
      refine a_getq rfl gfX11_44_11 rfl (rfl) ?_
      refine a_l0 rfl rfl rfl ?_
      refine a_getq rfl gfX11_37_11 rfl (rfl) ?_
      refine a_l1 rfl rfl rfl ?_
      refine a_gV rfl lX11_170 mo_X2_shameOf (q_X2_shameOf_246_235) rfl rfl rfl ⟨2, _, rfl, rfl, rfl⟩ rfl (fun v' h' hv => ?_)
      obtain ⟨⟨v6, rfl⟩, I7, rfl, f8⟩ := hv
      exact a_iret rfl rfl ⟨⟨_, rfl⟩, _, rfl, f8⟩
    · cases ho
      refine a_pc (pc' := 179) (by decide) ?_
      refine a_l0 rfl rfl rfl ?_
      refine a_getq rfl gfX11_37_11 rfl (rfl) ?_
      refine a_l1 rfl rfl rfl ?_
      refine a_gV rfl lX11_173 mo_X5_placeOf (q_X5_placeOf_235) rfl rfl rfl ⟨5, _, rfl, rfl, rfl⟩ rfl (fun v' h' hv => ?_)
      obtain ⟨⟨v9, rfl⟩, rfl⟩ := hv
      exact a_iret rfl rfl ⟨⟨_, rfl⟩, _, rfl, Fm.rf⟩
    · cases ho
      refine a_pc (pc' := 188) (by decide) ?_
      refine a_l0 rfl rfl rfl ?_
      refine a_getq rfl gfX11_37_11 rfl (rfl) ?_
      refine a_l1 rfl rfl rfl ?_
      refine a_gV rfl lX11_176 mo_X5_passesOf (q_X5_passesOf_235) rfl rfl rfl ⟨5, _, rfl, rfl, rfl⟩ rfl (fun v' h' hv => ?_)
      obtain ⟨⟨v10, rfl⟩, rfl⟩ := hv
      exact a_iret rfl rfl ⟨⟨_, rfl⟩, _, rfl, Fm.rf⟩
    · cases ho
theorem q_X11_soon_200 {S : aS} {I : Nat → Nat → Int32} {L : Nat → Nat → Int64} {w1 w2 t : Nat} {x1 : Int32} : Sp S m_X11_soon 17 1 6 [.ref 200, .int x1] (hp I L w1 w2 t) (QE isI (hp I L w1 w2 t)) (XR (Fm sQ I) L w1 w2 [0]) := by
  refine Sp_of ok_X11_soon rfl rfl ?_
  show AW S m_X11_soon 17 _ _ 1 6 0 [some (.ref 200), some (.int x1)] [] (hp I L w1 w2 t)
  refine a_l0 rfl rfl rfl ?_
  refine a_l1 rfl rfl rfl ?_
  refine a_callV rfl lX11_141 mo_X11_needDuty (q_X11_needDuty_200) rfl rfl rfl ⟨11, _, rfl, rfl, rfl⟩ rfl (fun v' h' hv => ?_) (fun E h' hx => XR.cm hx (by decide) (fun _ z => z))
  obtain ⟨rfl, rfl⟩ := hv
  refine a_l0 rfl rfl rfl ?_
  refine a_getq rfl gfX11_37_11 rfl (rfl) ?_
  refine a_l1 rfl rfl rfl ?_
  refine a_gS rfl lX11_285 mo_X4_hoursTill (q_X4_hoursTill_235) rfl rfl rfl rfl (fun v' h' hv => ?_)
  obtain ⟨⟨v2, rfl⟩, rfl⟩ := hv
  exact a_iret rfl rfl ⟨⟨_, rfl⟩, rfl⟩
theorem q_X11_before_200 {S : aS} {I : Nat → Nat → Int32} {L : Nat → Nat → Int64} {w1 w2 t : Nat} {x1 : Int32} : Sp S m_X11_before 14 1 6 [.ref 200, .int x1] (hp I L w1 w2 t) (QE isI (hp I L w1 w2 t)) (XR (Fm sQ I) L w1 w2 [0]) := by
  refine Sp_of ok_X11_before rfl rfl ?_
  show AW S m_X11_before 14 _ _ 1 6 0 [some (.ref 200), some (.int x1)] [] (hp I L w1 w2 t)
  refine a_l0 rfl rfl rfl ?_
  refine a_l1 rfl rfl rfl ?_
  refine a_callV rfl lX11_141 mo_X11_needDuty (q_X11_needDuty_200) rfl rfl rfl ⟨11, _, rfl, rfl, rfl⟩ rfl (fun v' h' hv => ?_) (fun E h' hx => XR.cm hx (by decide) (fun _ z => z))
  obtain ⟨rfl, rfl⟩ := hv
  refine a_l0 rfl rfl rfl ?_
  refine a_getq rfl gfX11_37_11 rfl (rfl) ?_
  refine a_l1 rfl rfl rfl ?_
  refine a_gS rfl lX11_298 mo_X4_chainOf (q_X4_chainOf_235) rfl rfl rfl rfl (fun v' h' hv => ?_)
  obtain ⟨⟨v2, rfl⟩, rfl⟩ := hv
  exact a_iret rfl rfl ⟨⟨_, rfl⟩, rfl⟩
theorem q_X11_after_200 {S : aS} {I : Nat → Nat → Int32} {L : Nat → Nat → Int64} {w1 w2 t : Nat} {x1 : Int32} : Sp S m_X11_after 15 1 6 [.ref 200, .int x1] (hp I L w1 w2 t) (QE isI (hp I L w1 w2 t)) (XR (Fm sQ I) L w1 w2 [0]) := by
  refine Sp_of ok_X11_after rfl rfl ?_
  show AW S m_X11_after 15 _ _ 1 6 0 [some (.ref 200), some (.int x1)] [] (hp I L w1 w2 t)
  refine a_l0 rfl rfl rfl ?_
  refine a_l1 rfl rfl rfl ?_
  refine a_callV rfl lX11_141 mo_X11_needDuty (q_X11_needDuty_200) rfl rfl rfl ⟨11, _, rfl, rfl, rfl⟩ rfl (fun v' h' hv => ?_) (fun E h' hx => XR.cm hx (by decide) (fun _ z => z))
  obtain ⟨rfl, rfl⟩ := hv
  refine a_l0 rfl rfl rfl ?_
  refine a_getq rfl gfX11_37_11 rfl (rfl) ?_
  refine a_l1 rfl rfl rfl ?_
  refine a_gS rfl lX11_301 mo_X4_leaningOn (q_X4_leaningOn_235) rfl rfl rfl rfl (fun v' h' hv => ?_)
  obtain ⟨⟨v2, rfl⟩, rfl⟩ := hv
  exact a_iret rfl rfl ⟨⟨_, rfl⟩, rfl⟩
theorem q_X11_depth_200 {S : aS} {I : Nat → Nat → Int32} {L : Nat → Nat → Int64} {w1 w2 t : Nat} {x1 : Int32} : Sp S m_X11_depth 14 1 6 [.ref 200, .int x1] (hp I L w1 w2 t) (QE isI (hp I L w1 w2 t)) (XR (Fm sQ I) L w1 w2 [0]) := by
  refine Sp_of ok_X11_depth rfl rfl ?_
  show AW S m_X11_depth 14 _ _ 1 6 0 [some (.ref 200), some (.int x1)] [] (hp I L w1 w2 t)
  refine a_l0 rfl rfl rfl ?_
  refine a_l1 rfl rfl rfl ?_
  refine a_callV rfl lX11_141 mo_X11_needDuty (q_X11_needDuty_200) rfl rfl rfl ⟨11, _, rfl, rfl, rfl⟩ rfl (fun v' h' hv => ?_) (fun E h' hx => XR.cm hx (by decide) (fun _ z => z))
  obtain ⟨rfl, rfl⟩ := hv
  refine a_l0 rfl rfl rfl ?_
  refine a_getq rfl gfX11_37_11 rfl (rfl) ?_
  refine a_l1 rfl rfl rfl ?_
  refine a_gS rfl lX11_298 mo_X4_chainOf (q_X4_chainOf_235) rfl rfl rfl rfl (fun v' h' hv => ?_)
  obtain ⟨⟨v2, rfl⟩, rfl⟩ := hv
  refine a_l0 rfl rfl rfl ?_
  refine a_getq rfl gfX11_37_11 rfl (rfl) ?_
  refine a_s rfl rfl ?_
  refine a_gV rfl lX11_200 mo_X5_bitsIn (q_X5_bitsIn_235) rfl rfl rfl ⟨5, _, rfl, rfl, rfl⟩ rfl (fun v' h' hv => ?_)
  obtain ⟨⟨v3, rfl⟩, rfl⟩ := hv
  refine a_s rfl rfl ?_
  refine a_s rfl rfl ?_
  refine a_s rfl rfl ?_
  refine a_eS1 rfl lX11_261 mo_J6_bitCount_0f7a4 (sp_bitCount) rfl rfl rfl rfl ?_
  exact a_iret rfl rfl ⟨⟨_, rfl⟩, rfl⟩
theorem q_X11_older_200 {S : aS} {I : Nat → Nat → Int32} {L : Nat → Nat → Int64} {w1 w2 t : Nat} {x1 : Int32} : Sp S m_X11_older 15 1 6 [.ref 200, .int x1] (hp I L w1 w2 t) (QE isI (hp I L w1 w2 t)) (XR (Fm sQ I) L w1 w2 [1]) := by
  refine Sp_of ok_X11_older rfl rfl ?_
  show AW S m_X11_older 15 _ _ 1 6 0 [some (.ref 200), some (.int x1)] [] (hp I L w1 w2 t)
  refine a_l1 rfl rfl rfl ?_
  refine a_s rfl rfl ?_
  refine a_s rfl rfl ?_
  refine a_callS rfl lX11_250 mo_X11_needNumber q_needNumber rfl rfl rfl rfl (fun v' h' hv => ?_) (fun E h' hx => XR.cm hx (by decide) (fun _ z => z))
  obtain ⟨rfl, rfl, hbm1⟩ := hv
  obtain ⟨m1, hm1a, hm1b, rfl⟩ := inB_nI (a := 0) (b := 99) (by decide) hbm1
  refine a_l0 rfl rfl rfl ?_
  refine a_getq rfl gfX11_37_11 rfl (rfl) ?_
  refine a_l1 rfl rfl rfl ?_
  refine a_gV rfl lX11_307 mo_X5_olderThan (q_X5_olderThan_235) rfl rfl rfl ⟨5, _, rfl, rfl, rfl⟩ rfl (fun v' h' hv => ?_)
  obtain ⟨⟨v2, rfl⟩, rfl⟩ := hv
  refine a_eS1 rfl lX11_261 mo_J6_bitCount_0f7a4 (sp_bitCount) rfl rfl rfl rfl ?_
  exact a_iret rfl rfl ⟨⟨_, rfl⟩, rfl⟩
theorem q_X11_young_200 {S : aS} {I : Nat → Nat → Int32} {L : Nat → Nat → Int64} {w1 w2 t : Nat} {x1 : Int32} : Sp S m_X11_young 17 1 6 [.ref 200, .int x1] (hp I L w1 w2 t) (QE isI (hp I L w1 w2 t)) (XR (Fm sQ I) L w1 w2 [1]) := by
  refine Sp_of ok_X11_young rfl rfl ?_
  show AW S m_X11_young 17 _ _ 1 6 0 [some (.ref 200), some (.int x1)] [] (hp I L w1 w2 t)
  refine a_l1 rfl rfl rfl ?_
  refine a_s rfl rfl ?_
  refine a_s rfl rfl ?_
  refine a_callS rfl lX11_250 mo_X11_needNumber q_needNumber rfl rfl rfl rfl (fun v' h' hv => ?_) (fun E h' hx => XR.cm hx (by decide) (fun _ z => z))
  obtain ⟨rfl, rfl, hbm1⟩ := hv
  obtain ⟨m1, hm1a, hm1b, rfl⟩ := inB_nI (a := 0) (b := 98) (by decide) hbm1
  refine a_l0 rfl rfl rfl ?_
  refine a_getq rfl gfX11_37_11 rfl (rfl) ?_
  refine a_l1 rfl rfl rfl ?_
  refine a_gS rfl lX11_304 mo_X4_hoursTillYoung (q_X4_hoursTillYoung_235) rfl rfl rfl rfl (fun v' h' hv => ?_)
  obtain ⟨⟨v2, rfl⟩, rfl⟩ := hv
  exact a_iret rfl rfl ⟨⟨_, rfl⟩, rfl⟩
theorem q_X5_kerbAt_235 {S : aS} {I : Nat → Nat → Int32} {L : Nat → Nat → Int64} {w1 w2 t : Nat} {x1 x2 : Int32} : Sp S m_X5_kerbAt 15 0 0 [.ref 235, .int x1, .int x2] (hp I L w1 w2 t) (QE isI (hp I L w1 w2 t)) nX := by
  refine Sp_of ok_X5_kerbAt rfl rfl ?_
  show AW S m_X5_kerbAt 15 _ _ 0 0 0 [some (.ref 235), some (.int x1), some (.int x2), none, none] [] (hp I L w1 w2 t)
  refine a_l0 rfl rfl rfl ?_
  refine a_l1 rfl rfl rfl ?_
  refine a_gV rfl lX5_113 mo_X5_placeOf (q_X5_placeOf_235) rfl rfl rfl ⟨5, _, rfl, rfl, rfl⟩ rfl (fun v' h' hv => ?_)
  obtain ⟨⟨v1, rfl⟩, rfl⟩ := hv
  refine a_s3 rfl rfl rfl rfl rfl rfl ?_
  refine a_l3 rfl rfl rfl ?_
  refine a_s rfl rfl ?_
  refine a_ic_eq rfl (fun c8 => ?_) (fun c8 => ?_)
  · refine a_s rfl rfl ?_
    exact a_iret rfl rfl ⟨⟨_, rfl⟩, rfl⟩
  · refine a_l0 rfl rfl rfl ?_
    refine a_geti rfl gfX5_40_5 rfl ?_
    refine a_s rfl rfl ?_
    refine a_ic_ge rfl (fun c16 => ?_) (fun c16 => ?_)
    · refine a_l2 rfl rfl rfl ?_
      refine a_l0 rfl rfl rfl ?_
      refine a_geti rfl gfX5_40_5 rfl ?_
      refine a_idiv rfl (fun z => by rw [z] at c16; exact absurd c16 (by decide)) ?_
      refine a_l3 rfl rfl rfl ?_
      refine a_s rfl rfl ?_
      refine a_s4 rfl rfl rfl rfl rfl rfl ?_
      refine a_l4 rfl rfl rfl ?_
      refine a_if_ge rfl (fun c33 => ?_) (fun c33 => ?_)
      · refine a_l4 rfl rfl rfl ?_
        refine a_s rfl rfl ?_
        refine a_min rfl lX5_127 mj_min rfl rfl ?_
        exact a_iret rfl rfl ⟨⟨_, rfl⟩, rfl⟩
      · refine a_s rfl rfl ?_
        refine a_goto rfl ?_
        exact a_iret rfl rfl ⟨⟨_, rfl⟩, rfl⟩
    · refine a_s rfl rfl ?_
      exact a_iret rfl rfl ⟨⟨_, rfl⟩, rfl⟩
theorem q_X11_where_200 {S : aS} {I : Nat → Nat → Int32} {L : Nat → Nat → Int64} {w1 w2 t : Nat} {x1 x2 : Int32} : Sp S m_X11_where 16 2 12 [.ref 200, .int x1, .int x2] (hp I L w1 w2 t) (QE isI (hp I L w1 w2 t)) (XR (Fm sQ I) L w1 w2 [0, 1]) := by
  refine Sp_of ok_X11_where rfl rfl ?_
  show AW S m_X11_where 16 _ _ 2 12 0 [some (.ref 200), some (.int x1), some (.int x2)] [] (hp I L w1 w2 t)
  refine a_l0 rfl rfl rfl ?_
  refine a_l1 rfl rfl rfl ?_
  refine a_callV rfl lX11_141 mo_X11_needDuty (q_X11_needDuty_200) rfl rfl rfl ⟨11, _, rfl, rfl, rfl⟩ rfl (fun v' h' hv => ?_) (fun E h' hx => XR.cm hx (by decide) (fun _ z => z))
  obtain ⟨rfl, rfl⟩ := hv
  refine a_l2 rfl rfl rfl ?_
  refine a_s rfl rfl ?_
  refine a_s rfl rfl ?_
  refine a_callS rfl lX11_250 mo_X11_needNumber q_needNumber rfl rfl rfl rfl (fun v' h' hv => ?_) (fun E h' hx => XR.cm hx (by decide) (fun _ z => z))
  obtain ⟨rfl, rfl, hbm2⟩ := hv
  obtain ⟨m2, hm2a, hm2b, rfl⟩ := inB_nI (a := 0) (b := 300) (by decide) hbm2
  refine a_l0 rfl rfl rfl ?_
  refine a_getq rfl gfX11_37_11 rfl (rfl) ?_
  refine a_l1 rfl rfl rfl ?_
  refine a_l2 rfl rfl rfl ?_
  refine a_gV rfl lX11_272 mo_X5_kerbAt (q_X5_kerbAt_235) rfl rfl rfl ⟨5, _, rfl, rfl, rfl⟩ rfl (fun v' h' hv => ?_)
  obtain ⟨⟨v3, rfl⟩, rfl⟩ := hv
  exact a_iret rfl rfl ⟨⟨_, rfl⟩, rfl⟩
theorem q_X11_needKerb {S : aS} {I : Nat → Nat → Int32} {L : Nat → Nat → Int64} {w1 w2 t : Nat} {x0 : Int32} : Sp S m_X11_needKerb 13 1 6 [.int x0] (hp I L w1 w2 t) (QE isV (hp I L w1 w2 t)) (XR (Fm sQ I) L w1 w2 [0]) := by
  refine Sp_of ok_X11_needKerb rfl rfl ?_
  show AW S m_X11_needKerb 13 _ _ 1 6 0 [some (.int x0)] [] (hp I L w1 w2 t)
  refine a_l0 rfl rfl rfl ?_
  refine a_if_lt rfl (fun c1 => ?_) (fun c1 => ?_)
  · exact a_throw rfl rfl rfl rfl tX11_ioobe rfl rfl rfl rfl rfl ⟨⟨0, by decide, rfl⟩, _, rfl, Fm.rf⟩
  · refine a_l0 rfl rfl rfl ?_
    refine a_s rfl rfl ?_
    refine a_ic_le rfl (fun c7 => ?_) (fun c7 => ?_)
    · exact a_vret rfl rfl ⟨rfl, rfl⟩
    · exact a_throw rfl rfl rfl rfl tX11_ioobe rfl rfl rfl rfl rfl ⟨⟨0, by decide, rfl⟩, _, rfl, Fm.rf⟩
theorem q_X11_greets_200 {S : aS} {I : Nat → Nat → Int32} {L : Nat → Nat → Int64} {w1 w2 t : Nat} {x1 x2 : Int32} : Sp S m_X11_greets 15 2 12 [.ref 200, .int x1, .int x2] (hp I L w1 w2 t) (QE isI (hp I L w1 w2 t)) (XR (Fm sQ I) L w1 w2 [0]) := by
  refine Sp_of ok_X11_greets rfl rfl ?_
  show AW S m_X11_greets 15 _ _ 2 12 0 [some (.ref 200), some (.int x1), some (.int x2), none] [] (hp I L w1 w2 t)
  refine a_l0 rfl rfl rfl ?_
  refine a_l1 rfl rfl rfl ?_
  refine a_callV rfl lX11_141 mo_X11_needDuty (q_X11_needDuty_200) rfl rfl rfl ⟨11, _, rfl, rfl, rfl⟩ rfl (fun v' h' hv => ?_) (fun E h' hx => XR.cm hx (by decide) (fun _ z => z))
  obtain ⟨rfl, rfl⟩ := hv
  refine a_l2 rfl rfl rfl ?_
  refine a_callS rfl lX11_269 mo_X11_needKerb (q_X11_needKerb) rfl rfl rfl rfl (fun v' h' hv => ?_) (fun E h' hx => XR.cm hx (by decide) (fun _ z => z))
  obtain ⟨rfl, rfl⟩ := hv
  refine a_l0 rfl rfl rfl ?_
  refine a_getq rfl gfX11_37_11 rfl (rfl) ?_
  refine a_l1 rfl rfl rfl ?_
  refine a_gV rfl lX11_173 mo_X5_placeOf (q_X5_placeOf_235) rfl rfl rfl ⟨5, _, rfl, rfl, rfl⟩ rfl (fun v' h' hv => ?_)
  obtain ⟨⟨v3, rfl⟩, rfl⟩ := hv
  refine a_s3 rfl rfl rfl rfl rfl rfl ?_
  refine a_l3 rfl rfl rfl ?_
  refine a_s rfl rfl ?_
  refine a_ic_ne rfl (fun c20 => ?_) (fun c20 => ?_)
  · refine a_l0 rfl rfl rfl ?_
    refine a_getq rfl gfX11_37_11 rfl (rfl) ?_
    refine a_geti rfl gfX11_194_5 rfl ?_
    refine a_l3 rfl rfl rfl ?_
    refine a_l2 rfl rfl rfl ?_
    refine a_s rfl rfl ?_
    refine a_s rfl rfl ?_
    exact a_iret rfl rfl ⟨⟨_, rfl⟩, rfl⟩
  · refine a_s rfl rfl ?_
    refine a_goto rfl ?_
    exact a_iret rfl rfl ⟨⟨_, rfl⟩, rfl⟩
theorem q_X11_crowd_200 {S : aS} {I : Nat → Nat → Int32} {L : Nat → Nat → Int64} {w1 w2 t : Nat} {x1 x2 x3 : Int32} : Sp S m_X11_crowd 16 4 24 [.ref 200, .int x1, .int x2, .int x3] (hp I L w1 w2 t) (QE isI (hp I L w1 w2 t)) (XR (Fm sQ I) L w1 w2 [0, 1]) := by
  refine Sp_of ok_X11_crowd rfl rfl ?_
  show AW S m_X11_crowd 16 _ _ 4 24 0 [some (.ref 200), some (.int x1), some (.int x2), some (.int x3), none, none, none] [] (hp I L w1 w2 t)
  refine a_l1 rfl rfl rfl ?_
  refine a_callS rfl lX11_269 mo_X11_needKerb (q_X11_needKerb) rfl rfl rfl rfl (fun v' h' hv => ?_) (fun E h' hx => XR.cm hx (by decide) (fun _ z => z))
  obtain ⟨rfl, rfl⟩ := hv
  refine a_l2 rfl rfl rfl ?_
  refine a_callS rfl lX11_269 mo_X11_needKerb (q_X11_needKerb) rfl rfl rfl rfl (fun v' h' hv => ?_) (fun E h' hx => XR.cm hx (by decide) (fun _ z => z))
  obtain ⟨rfl, rfl⟩ := hv
  refine a_l3 rfl rfl rfl ?_
  refine a_s rfl rfl ?_
  refine a_s rfl rfl ?_
  refine a_callS rfl lX11_250 mo_X11_needNumber q_needNumber rfl rfl rfl rfl (fun v' h' hv => ?_) (fun E h' hx => XR.cm hx (by decide) (fun _ z => z))
  obtain ⟨rfl, rfl, hbm3⟩ := hv
  obtain ⟨m3, hm3a, hm3b, rfl⟩ := inB_nI (a := 0) (b := 300) (by decide) hbm3
  refine a_l1 rfl rfl rfl ?_
  refine a_s rfl rfl ?_
  refine a_l2 rfl rfl rfl ?_
  refine a_callS rfl lX11_250 mo_X11_needNumber q_needNumber rfl rfl rfl rfl (fun v' h' hv => ?_) (fun E h' hx => XR.cm hx (by decide) (fun _ z => z))
  obtain ⟨rfl, rfl, hbm4⟩ := hv
  refine a_s rfl rfl ?_
  refine a_s4 rfl rfl rfl rfl rfl rfl ?_
  refine a_s rfl rfl ?_
  refine a_s5 rfl rfl rfl rfl rfl rfl ?_
  refine a_cnt (j0 := 0) (fun j ls h => ∃ a0, ls = [some (.ref 200), some (.int x1), some (.int x2), some (.int (nI m3)), some (.int a0), some (.int (nI j)), none] ∧ h = hp I L w1 w2 t) (by decide) ⟨_, rfl, rfl⟩ ⟨rfl, rfl, rfl, rfl, rfl, rfl, trivial⟩ ?_
  rintro j28 _ _ hj28 ⟨a0_28, rfl, rfl⟩ ih28
  refine a_l5 rfl rfl rfl ?_
  refine a_l0 rfl rfl rfl ?_
  refine a_getq rfl gfX11_37_11 rfl (rfl) ?_
  refine a_geti rfl gfX11_182_5 rfl ?_
  refine a_ic_ge rfl (fun c37 => ?_) (fun c37 => ?_)
  · refine a_l4 rfl rfl rfl ?_
    exact a_iret rfl rfl ⟨⟨_, rfl⟩, rfl⟩
  · refine a_l0 rfl rfl rfl ?_
    refine a_getq rfl gfX11_37_11 rfl (rfl) ?_
    refine a_l5 rfl rfl rfl ?_
    refine a_l3 rfl rfl rfl ?_
    refine a_gV rfl lX11_272 mo_X5_kerbAt (q_X5_kerbAt_235) rfl rfl rfl ⟨5, _, rfl, rfl, rfl⟩ rfl (fun v' h' hv => ?_)
    obtain ⟨⟨v5, rfl⟩, rfl⟩ := hv
    refine a_s6 rfl rfl rfl rfl rfl rfl ?_
    refine a_l6 rfl rfl rfl ?_
    refine a_l1 rfl rfl rfl ?_
    refine a_ic_lt rfl (fun c55 => ?_) (fun c55 => ?_)
    · refine a_i5 rfl rfl rfl ?_
      refine a_goto rfl ?_
      exact ih28 _ _ _ _ c37 ⟨_, rfl, rfl⟩ ⟨rfl, rfl, rfl, rfl, rfl, nS _, trivial⟩
    · refine a_l6 rfl rfl rfl ?_
      refine a_l2 rfl rfl rfl ?_
      refine a_ic_gt rfl (fun c61 => ?_) (fun c61 => ?_)
      · refine a_i5 rfl rfl rfl ?_
        refine a_goto rfl ?_
        exact ih28 _ _ _ _ c37 ⟨_, rfl, rfl⟩ ⟨rfl, rfl, rfl, rfl, rfl, nS _, trivial⟩
      · refine a_i4 rfl rfl rfl ?_
        refine a_i5 rfl rfl rfl ?_
        refine a_goto rfl ?_
        exact ih28 _ _ _ _ c37 ⟨_, rfl, rfl⟩ ⟨rfl, rfl, rfl, rfl, rfl, nS _, trivial⟩
theorem q_X11_needTwo {S : aS} {I : Nat → Nat → Int32} {L : Nat → Nat → Int64} {w1 w2 t : Nat} {x0 x1 : Int32} : Sp S m_X11_needTwo 13 1 6 [.int x0, .int x1] (hp I L w1 w2 t) (QE isV (hp I L w1 w2 t)) (XR (Fm sQ I) L w1 w2 [1]) := by
  refine Sp_of ok_X11_needTwo rfl rfl ?_
  show AW S m_X11_needTwo 13 _ _ 1 6 0 [some (.int x0), some (.int x1)] [] (hp I L w1 w2 t)
  refine a_l0 rfl rfl rfl ?_
  refine a_l1 rfl rfl rfl ?_
  refine a_ic_ne rfl (fun c2 => ?_) (fun c2 => ?_)
  · exact a_vret rfl rfl ⟨rfl, rfl⟩
  · exact a_throw rfl rfl rfl rfl tX11_iae rfl rfl rfl rfl rfl ⟨⟨1, by decide, rfl⟩, _, rfl, Fm.rf⟩
theorem q_X11_swap_200 {S : aS} {I : Nat → Nat → Int32} {L : Nat → Nat → Int64} {w1 w2 t : Nat} {x1 x2 : Int32} : Sp S m_X11_swap 17 3 18 [.ref 200, .int x1, .int x2] (hp I L w1 w2 t) (QE isI (hp I L w1 w2 t)) (XR (Fm sQ I) L w1 w2 [0, 1]) := by
  refine Sp_of ok_X11_swap rfl rfl ?_
  show AW S m_X11_swap 17 _ _ 3 18 0 [some (.ref 200), some (.int x1), some (.int x2)] [] (hp I L w1 w2 t)
  refine a_l0 rfl rfl rfl ?_
  refine a_l1 rfl rfl rfl ?_
  refine a_callV rfl lX11_110 mo_X11_needPerson (q_X11_needPerson_200) rfl rfl rfl ⟨11, _, rfl, rfl, rfl⟩ rfl (fun v' h' hv => ?_) (fun E h' hx => XR.cm hx (by decide) (fun _ z => z))
  obtain ⟨rfl, rfl⟩ := hv
  refine a_l0 rfl rfl rfl ?_
  refine a_l2 rfl rfl rfl ?_
  refine a_callV rfl lX11_110 mo_X11_needPerson (q_X11_needPerson_200) rfl rfl rfl ⟨11, _, rfl, rfl, rfl⟩ rfl (fun v' h' hv => ?_) (fun E h' hx => XR.cm hx (by decide) (fun _ z => z))
  obtain ⟨rfl, rfl⟩ := hv
  refine a_l1 rfl rfl rfl ?_
  refine a_l2 rfl rfl rfl ?_
  refine a_callS rfl lX11_247 mo_X11_needTwo (q_X11_needTwo) rfl rfl rfl rfl (fun v' h' hv => ?_) (fun E h' hx => XR.cm hx (by decide) (fun _ z => z))
  obtain ⟨rfl, rfl⟩ := hv
  refine a_l0 rfl rfl rfl ?_
  refine a_getq rfl gfX11_37_11 rfl (rfl) ?_
  refine a_l1 rfl rfl rfl ?_
  refine a_l2 rfl rfl rfl ?_
  refine a_gS rfl lX11_322 mo_X0_firstSwap (q_X0_firstSwap_235) rfl rfl rfl rfl (fun v' h' hv => ?_)
  obtain ⟨⟨v4, rfl⟩, rfl⟩ := hv
  exact a_iret rfl rfl ⟨⟨_, rfl⟩, rfl⟩
theorem q_X11_rests_200 {S : aS} {I : Nat → Nat → Int32} {L : Nat → Nat → Int64} {w1 w2 t : Nat} {x1 x2 x3 : Int32} : Sp S m_X11_rests 16 4 24 [.ref 200, .int x1, .int x2, .int x3] (hp I L w1 w2 t) (QR (Fm sQ I) isI L w1 w2 t) (XR (Fm sQ I) L w1 w2 [0, 1]) := by
  refine Sp_of ok_X11_rests rfl rfl ?_
  show AW S m_X11_rests 16 _ _ 4 24 0 [some (.ref 200), some (.int x1), some (.int x2), some (.int x3)] [] (hp I L w1 w2 t)
  refine a_l0 rfl rfl rfl ?_
  refine a_l1 rfl rfl rfl ?_
  refine a_callV rfl lX11_110 mo_X11_needPerson (q_X11_needPerson_200) rfl rfl rfl ⟨11, _, rfl, rfl, rfl⟩ rfl (fun v' h' hv => ?_) (fun E h' hx => XR.cm hx (by decide) (fun _ z => z))
  obtain ⟨rfl, rfl⟩ := hv
  refine a_l0 rfl rfl rfl ?_
  refine a_l2 rfl rfl rfl ?_
  refine a_callV rfl lX11_110 mo_X11_needPerson (q_X11_needPerson_200) rfl rfl rfl ⟨11, _, rfl, rfl, rfl⟩ rfl (fun v' h' hv => ?_) (fun E h' hx => XR.cm hx (by decide) (fun _ z => z))
  obtain ⟨rfl, rfl⟩ := hv
  refine a_l0 rfl rfl rfl ?_
  refine a_l3 rfl rfl rfl ?_
  refine a_callV rfl lX11_141 mo_X11_needDuty (q_X11_needDuty_200) rfl rfl rfl ⟨11, _, rfl, rfl, rfl⟩ rfl (fun v' h' hv => ?_) (fun E h' hx => XR.cm hx (by decide) (fun _ z => z))
  obtain ⟨rfl, rfl⟩ := hv
  refine a_l1 rfl rfl rfl ?_
  refine a_l2 rfl rfl rfl ?_
  refine a_callS rfl lX11_247 mo_X11_needTwo (q_X11_needTwo) rfl rfl rfl rfl (fun v' h' hv => ?_) (fun E h' hx => XR.cm hx (by decide) (fun _ z => z))
  obtain ⟨rfl, rfl⟩ := hv
  refine a_l0 rfl rfl rfl ?_
  refine a_getq rfl gfX11_44_11 rfl (rfl) ?_
  refine a_l0 rfl rfl rfl ?_
  refine a_getq rfl gfX11_37_11 rfl (rfl) ?_
  refine a_l3 rfl rfl rfl ?_
  refine a_gV rfl lX11_170 mo_X2_shameOf (q_X2_shameOf_246_235) rfl rfl rfl ⟨2, _, rfl, rfl, rfl⟩ rfl (fun v' h' hv => ?_)
  obtain ⟨⟨v5, rfl⟩, I6, rfl, f7⟩ := hv
  refine a_l0 rfl rfl rfl ?_
  refine a_getq rfl gfX11_37_11 rfl (rfl) ?_
  refine a_getq rfl gfX11_147_5 rfl (rfl) ?_
  refine a_l3 rfl rfl rfl ?_
  refine a_eS1 rfl lX11_117 mo_X11_at (sp_X11_at rfl) rfl rfl rfl rfl ?_
  refine a_gS rfl lX11_326 mo_X0_restingChoices (q_X0_restingChoices) rfl rfl rfl rfl (fun v' h' hv => ?_)
  obtain ⟨⟨v8, rfl⟩, rfl⟩ := hv
  exact a_iret rfl rfl ⟨⟨_, rfl⟩, _, rfl, f7⟩
theorem q_X11_done_200 {S : aS} {I : Nat → Nat → Int32} {L : Nat → Nat → Int64} {w1 w2 t : Nat} {x1 : Int32} : Sp S m_X11_done 19 1 6 [.ref 200, .int x1] (hp I L w1 w2 t) (QR (Fm sQ I) isI L w1 w2 t) (XR (Fm sQ I) L w1 w2 [0]) := by
  refine Sp_of ok_X11_done rfl rfl ?_
  show AW S m_X11_done 19 _ _ 1 6 0 [some (.ref 200), some (.int x1)] [] (hp I L w1 w2 t)
  refine a_l0 rfl rfl rfl ?_
  refine a_l1 rfl rfl rfl ?_
  refine a_callV rfl lX11_141 mo_X11_needDuty (q_X11_needDuty_200) rfl rfl rfl ⟨11, _, rfl, rfl, rfl⟩ rfl (fun v' h' hv => ?_) (fun E h' hx => XR.cm hx (by decide) (fun _ z => z))
  obtain ⟨rfl, rfl⟩ := hv
  refine a_l0 rfl rfl rfl ?_
  refine a_getq rfl gfX11_55_11 rfl (rfl) ?_
  refine a_l0 rfl rfl rfl ?_
  refine a_getq rfl gfX11_37_11 rfl (rfl) ?_
  refine a_eV0 rfl lX11_78 mo_X5_copyFrom (sp_X5_copyFrom (a := 257) (b := 235) (by decide) (by decide) (by decide)) rfl rfl rfl ⟨5, _, rfl, rfl, rfl⟩ rfl ?_
  refine a_ren (P := Fm sQ I) (Fm.cp (Fm.rf (s := sQ)) sQ_257) (fun I2 f3 => ?_)
  refine a_l0 rfl rfl rfl ?_
  refine a_getq rfl gfX11_55_11 rfl (rfl) ?_
  refine a_l0 rfl rfl rfl ?_
  refine a_getq rfl gfX11_44_11 rfl (rfl) ?_
  refine a_l1 rfl rfl rfl ?_
  refine a_gV rfl lX11_342 mo_X5_daysTillDone (q_X5_daysTillDone_257_246) rfl rfl rfl ⟨5, _, rfl, rfl, rfl⟩ rfl (fun v' h' hv => ?_)
  obtain ⟨⟨v4, rfl⟩, I5, rfl, f6⟩ := hv
  replace f6 : Fm sQ I I5 := Fm.tr (f3) (f6)
  exact a_iret rfl rfl ⟨⟨_, rfl⟩, _, rfl, f6⟩
theorem q_X11_all_200 {S : aS} {I : Nat → Nat → Int32} {L : Nat → Nat → Int64} {w1 w2 t : Nat} : Sp S m_X11_all 19 0 0 [.ref 200] (hp I L w1 w2 t) (QR (Fm sQ I) isI L w1 w2 t) nX := by
  refine Sp_of ok_X11_all rfl rfl ?_
  show AW S m_X11_all 19 _ _ 0 0 0 [some (.ref 200), none] [] (hp I L w1 w2 t)
  refine a_l0 rfl rfl rfl ?_
  refine a_getq rfl gfX11_55_11 rfl (rfl) ?_
  refine a_l0 rfl rfl rfl ?_
  refine a_getq rfl gfX11_37_11 rfl (rfl) ?_
  refine a_eV0 rfl lX11_78 mo_X5_copyFrom (sp_X5_copyFrom (a := 257) (b := 235) (by decide) (by decide) (by decide)) rfl rfl rfl ⟨5, _, rfl, rfl, rfl⟩ rfl ?_
  refine a_ren (P := Fm sQ I) (Fm.cp (Fm.rf (s := sQ)) sQ_257) (fun I1 f2 => ?_)
  refine a_l0 rfl rfl rfl ?_
  refine a_getq rfl gfX11_55_11 rfl (rfl) ?_
  refine a_l0 rfl rfl rfl ?_
  refine a_getq rfl gfX11_44_11 rfl (rfl) ?_
  refine a_gV rfl lX11_346 mo_X5_daysTillNoneWaits (q_X5_daysTillNoneWaits_257_246) rfl rfl rfl ⟨5, _, rfl, rfl, rfl⟩ rfl (fun v' h' hv => ?_)
  obtain ⟨⟨v3, rfl⟩, I4, rfl, f5⟩ := hv
  replace f5 : Fm sQ I I4 := Fm.tr (f2) (f5)
  refine a_s1 rfl rfl rfl rfl rfl rfl ?_
  refine a_l1 rfl rfl rfl ?_
  refine a_s rfl rfl ?_
  refine a_ic_ne rfl (fun c27 => ?_) (fun c27 => ?_)
  · refine a_l1 rfl rfl rfl ?_
    exact a_iret rfl rfl ⟨⟨_, rfl⟩, _, rfl, f5⟩
  · refine a_s rfl rfl ?_
    refine a_goto rfl ?_
    exact a_iret rfl rfl ⟨⟨_, rfl⟩, _, rfl, f5⟩
theorem q_X11_help_200 {S : aS} {I : Nat → Nat → Int32} {L : Nat → Nat → Int64} {w1 w2 t : Nat} : Sp S m_X11_help 19 0 0 [.ref 200] (hp I L w1 w2 t) (QR (Fm sQ I) isI L w1 w2 t) nX := by
  refine Sp_of ok_X11_help rfl rfl ?_
  show AW S m_X11_help 19 _ _ 0 0 0 [some (.ref 200), none, none, none, none] [] (hp I L w1 w2 t)
  refine a_l0 rfl rfl rfl ?_
  refine a_getq rfl gfX11_55_11 rfl (rfl) ?_
  refine a_l0 rfl rfl rfl ?_
  refine a_getq rfl gfX11_37_11 rfl (rfl) ?_
  refine a_eV0 rfl lX11_78 mo_X5_copyFrom (sp_X5_copyFrom (a := 257) (b := 235) (by decide) (by decide) (by decide)) rfl rfl rfl ⟨5, _, rfl, rfl, rfl⟩ rfl ?_
  refine a_ren (P := Fm sQ I) (Fm.cp (Fm.rf (s := sQ)) sQ_257) (fun I1 f2 => ?_)
  refine a_l0 rfl rfl rfl ?_
  refine a_getq rfl gfX11_55_11 rfl (rfl) ?_
  refine a_l0 rfl rfl rfl ?_
  refine a_getq rfl gfX11_44_11 rfl (rfl) ?_
  refine a_gV rfl lX11_346 mo_X5_daysTillNoneWaits (q_X5_daysTillNoneWaits_257_246) rfl rfl rfl ⟨5, _, rfl, rfl, rfl⟩ rfl (fun v' h' hv => ?_)
  obtain ⟨⟨v3, rfl⟩, I4, rfl, f5⟩ := hv
  replace f5 : Fm sQ I I4 := Fm.tr (f2) (f5)
  refine a_s1 rfl rfl rfl rfl rfl rfl ?_
  refine a_s rfl rfl ?_
  refine a_s2 rfl rfl rfl rfl rfl rfl ?_
  refine a_s rfl rfl ?_
  refine a_s3 rfl rfl rfl rfl rfl rfl ?_
  refine a_cnt (j0 := 0) (fun j ls h => ∃ a0, ∃ a1, ∃ I', ls = [some (.ref 200), some (.int a0), some (.int a1), some (.int (nI j)), none] ∧ h = hp I' L w1 w2 t ∧ Fm sQ I I') (by decide) ⟨_, _, _, rfl, rfl, f5⟩ ⟨rfl, rfl, rfl, rfl, trivial⟩ ?_
  rintro j27 _ _ hj27 ⟨a0_27, a1_27, Ih27, rfl, rfl, fh27⟩ ih27
  refine a_l3 rfl rfl rfl ?_
  refine a_l0 rfl rfl rfl ?_
  refine a_getq rfl gfX11_37_11 rfl (rfl) ?_
  refine a_geti rfl gfX11_179_5 rfl ?_
  refine a_ic_ge rfl (fun c35 => ?_) (fun c35 => ?_)
  · refine a_l2 rfl rfl rfl ?_
    exact a_iret rfl rfl ⟨⟨_, rfl⟩, _, rfl, fh27⟩
  · refine a_l0 rfl rfl rfl ?_
    refine a_getq rfl gfX11_55_11 rfl (rfl) ?_
    refine a_l0 rfl rfl rfl ?_
    refine a_getq rfl gfX11_37_11 rfl (rfl) ?_
    refine a_eV0 rfl lX11_78 mo_X5_copyFrom (sp_X5_copyFrom (a := 257) (b := 235) (by decide) (by decide) (by decide)) rfl rfl rfl ⟨5, _, rfl, rfl, rfl⟩ rfl ?_
    refine a_ren (P := Fm sQ I) (Fm.tr (fh27) (Fm.cp (Fm.rf (s := sQ)) sQ_257)) (fun I6 f7 => ?_)
    refine a_l0 rfl rfl rfl ?_
    refine a_getq rfl gfX11_55_11 rfl (rfl) ?_
    refine a_getq rfl gfX11_121_5 rfl (rfl) ?_
    refine a_l3 rfl rfl rfl ?_
    refine a_s rfl rfl ?_
    refine a_l0 rfl rfl rfl ?_
    refine a_getq rfl gfX11_37_11 rfl (rfl) ?_
    refine a_getq rfl gfX11_121_5 rfl (rfl) ?_
    refine a_l3 rfl rfl rfl ?_
    refine a_eS1 rfl lX11_117 mo_X11_at (sp_X11_at rfl) rfl rfl rfl rfl ?_
    refine a_s rfl rfl ?_
    refine a_s rfl rfl ?_
    refine a_min rfl lX11_350 mj_min rfl rfl ?_
    refine a_eS0 rfl lX11_243 mo_X11_setAt (sp_X11_setAt rfl) rfl rfl rfl rfl ?_
    refine a_ren (P := Fm sQ I) (Fm.tr (f7) (Fm.st (Fm.rf (s := sQ)) (fun _ => rfl))) (fun I8 f9 => ?_)
    refine a_l0 rfl rfl rfl ?_
    refine a_getq rfl gfX11_55_11 rfl (rfl) ?_
    refine a_l0 rfl rfl rfl ?_
    refine a_getq rfl gfX11_44_11 rfl (rfl) ?_
    refine a_gV rfl lX11_346 mo_X5_daysTillNoneWaits (q_X5_daysTillNoneWaits_257_246) rfl rfl rfl ⟨5, _, rfl, rfl, rfl⟩ rfl (fun v' h' hv => ?_)
    obtain ⟨⟨v10, rfl⟩, I11, rfl, f12⟩ := hv
    replace f12 : Fm sQ I I11 := Fm.tr (f9) (f12)
    refine a_s4 rfl rfl rfl rfl rfl rfl ?_
    refine a_l4 rfl rfl rfl ?_
    refine a_l1 rfl rfl rfl ?_
    refine a_ic_ge rfl (fun c94 => ?_) (fun c94 => ?_)
    · refine a_i3 rfl rfl rfl ?_
      refine a_goto rfl ?_
      exact ih27 _ _ _ _ c35 ⟨_, _, _, rfl, rfl, f12⟩ ⟨rfl, rfl, rfl, nS _, trivial⟩
    · refine a_l4 rfl rfl rfl ?_
      refine a_s1 rfl rfl rfl rfl rfl rfl ?_
      refine a_l3 rfl rfl rfl ?_
      refine a_s2 rfl rfl rfl rfl rfl rfl ?_
      refine a_i3 rfl rfl rfl ?_
      refine a_goto rfl ?_
      exact ih27 _ _ _ _ c35 ⟨_, _, _, rfl, rfl, f12⟩ ⟨rfl, rfl, rfl, nS _, trivial⟩
theorem q_X11_crux_200 {S : aS} {I : Nat → Nat → Int32} {L : Nat → Nat → Int64} {w1 w2 t : Nat} : Sp S m_X11_crux 19 0 0 [.ref 200] (hp I L w1 w2 t) (QR (Fm sQ I) isI L w1 w2 t) nX := by
  refine Sp_of ok_X11_crux rfl rfl ?_
  show AW S m_X11_crux 19 _ _ 0 0 0 [some (.ref 200), none, none, none, none] [] (hp I L w1 w2 t)
  refine a_l0 rfl rfl rfl ?_
  refine a_getq rfl gfX11_55_11 rfl (rfl) ?_
  refine a_l0 rfl rfl rfl ?_
  refine a_getq rfl gfX11_37_11 rfl (rfl) ?_
  refine a_eV0 rfl lX11_78 mo_X5_copyFrom (sp_X5_copyFrom (a := 257) (b := 235) (by decide) (by decide) (by decide)) rfl rfl rfl ⟨5, _, rfl, rfl, rfl⟩ rfl ?_
  refine a_ren (P := Fm sQ I) (Fm.cp (Fm.rf (s := sQ)) sQ_257) (fun I1 f2 => ?_)
  refine a_l0 rfl rfl rfl ?_
  refine a_getq rfl gfX11_55_11 rfl (rfl) ?_
  refine a_l0 rfl rfl rfl ?_
  refine a_getq rfl gfX11_44_11 rfl (rfl) ?_
  refine a_gV rfl lX11_346 mo_X5_daysTillNoneWaits (q_X5_daysTillNoneWaits_257_246) rfl rfl rfl ⟨5, _, rfl, rfl, rfl⟩ rfl (fun v' h' hv => ?_)
  obtain ⟨⟨v3, rfl⟩, I4, rfl, f5⟩ := hv
  replace f5 : Fm sQ I I4 := Fm.tr (f2) (f5)
  refine a_s1 rfl rfl rfl rfl rfl rfl ?_
  refine a_s rfl rfl ?_
  refine a_s2 rfl rfl rfl rfl rfl rfl ?_
  refine a_s rfl rfl ?_
  refine a_s3 rfl rfl rfl rfl rfl rfl ?_
  refine a_cnt (j0 := 0) (fun j ls h => ∃ a0, ∃ a1, ∃ I', ls = [some (.ref 200), some (.int a0), some (.int a1), some (.int (nI j)), none] ∧ h = hp I' L w1 w2 t ∧ Fm sQ I I') (by decide) ⟨_, _, _, rfl, rfl, f5⟩ ⟨rfl, rfl, rfl, rfl, trivial⟩ ?_
  rintro j27 _ _ hj27 ⟨a0_27, a1_27, Ih27, rfl, rfl, fh27⟩ ih27
  refine a_l3 rfl rfl rfl ?_
  refine a_l0 rfl rfl rfl ?_
  refine a_getq rfl gfX11_37_11 rfl (rfl) ?_
  refine a_geti rfl gfX11_182_5 rfl ?_
  refine a_ic_ge rfl (fun c35 => ?_) (fun c35 => ?_)
  · refine a_l2 rfl rfl rfl ?_
    exact a_iret rfl rfl ⟨⟨_, rfl⟩, _, rfl, fh27⟩
  · refine a_l0 rfl rfl rfl ?_
    refine a_getq rfl gfX11_37_11 rfl (rfl) ?_
    refine a_l3 rfl rfl rfl ?_
    refine a_gV rfl lX11_329 mo_X5_isWaiting (q_X5_isWaiting_235) rfl rfl rfl ⟨5, _, rfl, rfl, rfl⟩ rfl (fun v' h' hv => ?_)
    obtain ⟨⟨v6, rfl⟩, rfl⟩ := hv
    refine a_if_eq rfl (fun c46 => ?_) (fun c46 => ?_)
    · refine a_i3 rfl rfl rfl ?_
      refine a_goto rfl ?_
      exact ih27 _ _ _ _ c35 ⟨_, _, _, rfl, rfl, fh27⟩ ⟨rfl, rfl, rfl, nS _, trivial⟩
    · refine a_l0 rfl rfl rfl ?_
      refine a_getq rfl gfX11_55_11 rfl (rfl) ?_
      refine a_l0 rfl rfl rfl ?_
      refine a_getq rfl gfX11_37_11 rfl (rfl) ?_
      refine a_eV0 rfl lX11_78 mo_X5_copyFrom (sp_X5_copyFrom (a := 257) (b := 235) (by decide) (by decide) (by decide)) rfl rfl rfl ⟨5, _, rfl, rfl, rfl⟩ rfl ?_
      refine a_ren (P := Fm sQ I) (Fm.tr (fh27) (Fm.cp (Fm.rf (s := sQ)) sQ_257)) (fun I7 f8 => ?_)
      refine a_l0 rfl rfl rfl ?_
      refine a_getq rfl gfX11_55_11 rfl (rfl) ?_
      refine a_l3 rfl rfl rfl ?_
      refine a_gV rfl lX11_233 mo_X5_finish (q_X5_finish_257) rfl rfl rfl ⟨5, _, rfl, rfl, rfl⟩ rfl (fun v' h' hv => ?_)
      obtain ⟨rfl, I10, rfl, f11⟩ := hv
      replace f11 : Fm sQ I I10 := Fm.tr (f8) (f11)
      refine a_l0 rfl rfl rfl ?_
      refine a_getq rfl gfX11_55_11 rfl (rfl) ?_
      refine a_l0 rfl rfl rfl ?_
      refine a_getq rfl gfX11_44_11 rfl (rfl) ?_
      refine a_gV rfl lX11_346 mo_X5_daysTillNoneWaits (q_X5_daysTillNoneWaits_257_246) rfl rfl rfl ⟨5, _, rfl, rfl, rfl⟩ rfl (fun v' h' hv => ?_)
      obtain ⟨⟨v12, rfl⟩, I13, rfl, f14⟩ := hv
      replace f14 : Fm sQ I I13 := Fm.tr (f11) (f14)
      refine a_s4 rfl rfl rfl rfl rfl rfl ?_
      refine a_l4 rfl rfl rfl ?_
      refine a_l1 rfl rfl rfl ?_
      refine a_ic_ge rfl (fun c84 => ?_) (fun c84 => ?_)
      · refine a_i3 rfl rfl rfl ?_
        refine a_goto rfl ?_
        exact ih27 _ _ _ _ c35 ⟨_, _, _, rfl, rfl, f14⟩ ⟨rfl, rfl, rfl, nS _, trivial⟩
      · refine a_l4 rfl rfl rfl ?_
        refine a_s1 rfl rfl rfl rfl rfl rfl ?_
        refine a_l3 rfl rfl rfl ?_
        refine a_s2 rfl rfl rfl rfl rfl rfl ?_
        refine a_i3 rfl rfl rfl ?_
        refine a_goto rfl ?_
        exact ih27 _ _ _ _ c35 ⟨_, _, _, rfl, rfl, f14⟩ ⟨rfl, rfl, rfl, nS _, trivial⟩
theorem q_X11_sick_200 {S : aS} {I : Nat → Nat → Int32} {L : Nat → Nat → Int64} {w1 w2 t : Nat} {x1 : Int32} : Sp S m_X11_sick 19 1 6 [.ref 200, .int x1] (hp I L w1 w2 t) (QR (Fm sQ I) isI L w1 w2 t) (XR (Fm sQ I) L w1 w2 [0]) := by
  refine Sp_of ok_X11_sick rfl rfl ?_
  show AW S m_X11_sick 19 _ _ 1 6 0 [some (.ref 200), some (.int x1), none, none] [] (hp I L w1 w2 t)
  refine a_l0 rfl rfl rfl ?_
  refine a_l1 rfl rfl rfl ?_
  refine a_callV rfl lX11_110 mo_X11_needPerson (q_X11_needPerson_200) rfl rfl rfl ⟨11, _, rfl, rfl, rfl⟩ rfl (fun v' h' hv => ?_) (fun E h' hx => XR.cm hx (by decide) (fun _ z => z))
  obtain ⟨rfl, rfl⟩ := hv
  refine a_l0 rfl rfl rfl ?_
  refine a_getq rfl gfX11_55_11 rfl (rfl) ?_
  refine a_l0 rfl rfl rfl ?_
  refine a_getq rfl gfX11_37_11 rfl (rfl) ?_
  refine a_eV0 rfl lX11_78 mo_X5_copyFrom (sp_X5_copyFrom (a := 257) (b := 235) (by decide) (by decide) (by decide)) rfl rfl rfl ⟨5, _, rfl, rfl, rfl⟩ rfl ?_
  refine a_ren (P := Fm sQ I) (Fm.cp (Fm.rf (s := sQ)) sQ_257) (fun I2 f3 => ?_)
  refine a_l0 rfl rfl rfl ?_
  refine a_getq rfl gfX11_55_11 rfl (rfl) ?_
  refine a_l0 rfl rfl rfl ?_
  refine a_getq rfl gfX11_44_11 rfl (rfl) ?_
  refine a_gV rfl lX11_346 mo_X5_daysTillNoneWaits (q_X5_daysTillNoneWaits_257_246) rfl rfl rfl ⟨5, _, rfl, rfl, rfl⟩ rfl (fun v' h' hv => ?_)
  obtain ⟨⟨v4, rfl⟩, I5, rfl, f6⟩ := hv
  replace f6 : Fm sQ I I5 := Fm.tr (f3) (f6)
  refine a_s2 rfl rfl rfl rfl rfl rfl ?_
  refine a_l2 rfl rfl rfl ?_
  refine a_s rfl rfl ?_
  refine a_ic_ne rfl (fun c32 => ?_) (fun c32 => ?_)
  · refine a_l0 rfl rfl rfl ?_
    refine a_getq rfl gfX11_55_11 rfl (rfl) ?_
    refine a_l0 rfl rfl rfl ?_
    refine a_getq rfl gfX11_37_11 rfl (rfl) ?_
    refine a_eV0 rfl lX11_78 mo_X5_copyFrom (sp_X5_copyFrom (a := 257) (b := 235) (by decide) (by decide) (by decide)) rfl rfl rfl ⟨5, _, rfl, rfl, rfl⟩ rfl ?_
    refine a_ren (P := Fm sQ I) (Fm.tr (f6) (Fm.cp (Fm.rf (s := sQ)) sQ_257)) (fun I7 f8 => ?_)
    refine a_l0 rfl rfl rfl ?_
    refine a_getq rfl gfX11_55_11 rfl (rfl) ?_
    refine a_getq rfl gfX11_121_5 rfl (rfl) ?_
    refine a_l1 rfl rfl rfl ?_
    refine a_s rfl rfl ?_
    refine a_eS0 rfl lX11_243 mo_X11_setAt (sp_X11_setAt rfl) rfl rfl rfl rfl ?_
    refine a_ren (P := Fm sQ I) (Fm.tr (f8) (Fm.st (Fm.rf (s := sQ)) (fun _ => rfl))) (fun I9 f10 => ?_)
    refine a_l0 rfl rfl rfl ?_
    refine a_getq rfl gfX11_55_11 rfl (rfl) ?_
    refine a_l0 rfl rfl rfl ?_
    refine a_getq rfl gfX11_44_11 rfl (rfl) ?_
    refine a_gV rfl lX11_346 mo_X5_daysTillNoneWaits (q_X5_daysTillNoneWaits_257_246) rfl rfl rfl ⟨5, _, rfl, rfl, rfl⟩ rfl (fun v' h' hv => ?_)
    obtain ⟨⟨v11, rfl⟩, I12, rfl, f13⟩ := hv
    replace f13 : Fm sQ I I12 := Fm.tr (f10) (f13)
    refine a_s3 rfl rfl rfl rfl rfl rfl ?_
    refine a_l3 rfl rfl rfl ?_
    refine a_s rfl rfl ?_
    refine a_ic_ne rfl (fun c76 => ?_) (fun c76 => ?_)
    · refine a_l3 rfl rfl rfl ?_
      refine a_l2 rfl rfl rfl ?_
      refine a_s rfl rfl ?_
      exact a_iret rfl rfl ⟨⟨_, rfl⟩, _, rfl, f13⟩
    · refine a_s rfl rfl ?_
      refine a_goto rfl ?_
      exact a_iret rfl rfl ⟨⟨_, rfl⟩, _, rfl, f13⟩
  · refine a_s rfl rfl ?_
    exact a_iret rfl rfl ⟨⟨_, rfl⟩, _, rfl, f6⟩
theorem q_X11_ahead_200 {S : aS} {I : Nat → Nat → Int32} {L : Nat → Nat → Int64} {w1 w2 t : Nat} {x1 x2 x3 : Int32} : Sp S m_X11_ahead 18 3 18 [.ref 200, .int x1, .int x2, .int x3] (hp I L w1 w2 t) (QR (Fm sQ I) isI L w1 w2 t) (XR (Fm sQ I) L w1 w2 [0, 1, 4]) := by
  refine Sp_of ok_X11_ahead rfl rfl ?_
  show AW S m_X11_ahead 18 _ _ 3 18 0 [some (.ref 200), some (.int x1), some (.int x2), some (.int x3), none] [] (hp I L w1 w2 t)
  refine a_l0 rfl rfl rfl ?_
  refine a_l1 rfl rfl rfl ?_
  refine a_callV rfl lX11_141 mo_X11_needDuty (q_X11_needDuty_200) rfl rfl rfl ⟨11, _, rfl, rfl, rfl⟩ rfl (fun v' h' hv => ?_) (fun E h' hx => XR.cm hx (by decide) (fun _ z => z))
  obtain ⟨rfl, rfl⟩ := hv
  refine a_l2 rfl rfl rfl ?_
  refine a_s rfl rfl ?_
  refine a_s rfl rfl ?_
  refine a_callS rfl lX11_250 mo_X11_needNumber q_needNumber rfl rfl rfl rfl (fun v' h' hv => ?_) (fun E h' hx => XR.cm hx (by decide) (fun _ z => z))
  obtain ⟨rfl, rfl, hbm2⟩ := hv
  obtain ⟨m2, hm2a, hm2b, rfl⟩ := inB_nI (a := 0) (b := 90) (by decide) hbm2
  refine a_l3 rfl rfl rfl ?_
  refine a_if_lt rfl (fun c13 => ?_) (fun c13 => ?_)
  · exact a_throw rfl rfl rfl rfl tX11_nsee rfl rfl rfl rfl rfl ⟨⟨4, by decide, rfl⟩, _, rfl, Fm.rf⟩
  · refine a_l3 rfl rfl rfl ?_
    refine a_s rfl rfl ?_
    refine a_ic_le rfl (fun c18 => ?_) (fun c18 => ?_)
    · refine a_l0 rfl rfl rfl ?_
      refine a_getq rfl gfX11_55_11 rfl (rfl) ?_
      refine a_l0 rfl rfl rfl ?_
      refine a_getq rfl gfX11_37_11 rfl (rfl) ?_
      refine a_eV0 rfl lX11_78 mo_X5_copyFrom (sp_X5_copyFrom (a := 257) (b := 235) (by decide) (by decide) (by decide)) rfl rfl rfl ⟨5, _, rfl, rfl, rfl⟩ rfl ?_
      refine a_ren (P := Fm sQ I) (Fm.cp (Fm.rf (s := sQ)) sQ_257) (fun I3 f4 => ?_)
      refine a_s rfl rfl ?_
      refine a_s4 rfl rfl rfl rfl rfl rfl ?_
      refine a_cnt (j0 := 0) (fun j ls h => ∃ I', ls = [some (.ref 200), some (.int x1), some (.int (nI m2)), some (.int x3), some (.int (nI j))] ∧ h = hp I' L w1 w2 t ∧ Fm sQ I I') (by decide) ⟨_, rfl, rfl, f4⟩ ⟨rfl, rfl, rfl, rfl, rfl, trivial⟩ ?_
      rintro j43 _ _ hj43 ⟨Ih43, rfl, rfl, fh43⟩ ih43
      refine a_l4 rfl rfl rfl ?_
      refine a_l2 rfl rfl rfl ?_
      refine a_ic_ge rfl (fun c46 => ?_) (fun c46 => ?_)
      · refine a_l3 rfl rfl rfl ?_
        refine a_lsw2 rfl (by decide) (by decide) (fun hx => ?_) (fun hx => ?_) (fun hx hx2 => ?_)
        · refine a_pc (pc' := 96) (by decide) ?_
          refine a_l0 rfl rfl rfl ?_
          refine a_getq rfl gfX11_55_11 rfl (rfl) ?_
          refine a_getq rfl gfX11_147_5 rfl (rfl) ?_
          refine a_l1 rfl rfl rfl ?_
          refine a_eS1 rfl lX11_117 mo_X11_at (sp_X11_at rfl) rfl rfl rfl rfl ?_
          exact a_iret rfl rfl ⟨⟨_, rfl⟩, _, rfl, fh43⟩
        · refine a_pc (pc' := 108) (by decide) ?_
          refine a_l0 rfl rfl rfl ?_
          refine a_getq rfl gfX11_55_11 rfl (rfl) ?_
          refine a_getq rfl gfX11_150_5 rfl (rfl) ?_
          refine a_l1 rfl rfl rfl ?_
          refine a_eS1 rfl lX11_117 mo_X11_at (sp_X11_at rfl) rfl rfl rfl rfl ?_
          exact a_iret rfl rfl ⟨⟨_, rfl⟩, _, rfl, fh43⟩
        · refine a_pc (pc' := 120) (by decide) ?_
          refine a_l0 rfl rfl rfl ?_
          refine a_getq rfl gfX11_55_11 rfl (rfl) ?_
          refine a_getq rfl gfX11_159_5 rfl (rfl) ?_
          refine a_l1 rfl rfl rfl ?_
          refine a_eS1 rfl lX11_117 mo_X11_at (sp_X11_at rfl) rfl rfl rfl rfl ?_
          exact a_iret rfl rfl ⟨⟨_, rfl⟩, _, rfl, fh43⟩
      · refine a_l0 rfl rfl rfl ?_
        refine a_getq rfl gfX11_55_11 rfl (rfl) ?_
        refine a_l0 rfl rfl rfl ?_
        refine a_getq rfl gfX11_44_11 rfl (rfl) ?_
        refine a_s rfl rfl ?_
        refine a_gV rfl lX11_254 mo_X5_passDay (q_X5_passDay_257_246 (b2 := false)) rfl rfl rfl ⟨5, _, rfl, rfl, rfl⟩ rfl (fun v' h' hv => ?_)
        obtain ⟨rfl, I6, rfl, f7⟩ := hv
        replace f7 : Fm sQ I I6 := Fm.tr (fh43) (f7)
        refine a_i4 rfl rfl rfl ?_
        refine a_goto rfl ?_
        exact ih43 _ _ _ _ c46 ⟨_, rfl, rfl, f7⟩ ⟨rfl, rfl, rfl, rfl, nS _, trivial⟩
    · exact a_throw rfl rfl rfl rfl tX11_nsee rfl rfl rfl rfl rfl ⟨⟨4, by decide, rfl⟩, _, rfl, Fm.rf⟩
theorem q_X11_trial_200 {S : aS} {I : Nat → Nat → Int32} {L : Nat → Nat → Int64} {w1 w2 t : Nat} {x1 : Int32} {b2 : Bool} : Sp S m_X11_trial 19 1 6 [.ref 200, .int x1, .int (bI b2)] (hp I L w1 w2 t) (QR (Fm sQ I) isI L w1 w2 t) (XR (Fm sQ I) L w1 w2 [1]) := by
  refine Sp_of ok_X11_trial rfl rfl ?_
  show AW S m_X11_trial 19 _ _ 1 6 0 [some (.ref 200), some (.int x1), some (.int (bI b2)), none] [] (hp I L w1 w2 t)
  refine a_l1 rfl rfl rfl ?_
  refine a_s rfl rfl ?_
  refine a_s rfl rfl ?_
  refine a_callS rfl lX11_250 mo_X11_needNumber q_needNumber rfl rfl rfl rfl (fun v' h' hv => ?_) (fun E h' hx => XR.cm hx (by decide) (fun _ z => z))
  obtain ⟨rfl, rfl, hbm1⟩ := hv
  obtain ⟨m1, hm1a, hm1b, rfl⟩ := inB_nI (a := 0) (b := 90) (by decide) hbm1
  refine a_l0 rfl rfl rfl ?_
  refine a_l1 rfl rfl rfl ?_
  refine a_l0 rfl rfl rfl ?_
  refine a_getq rfl gfX11_37_11 rfl (rfl) ?_
  refine a_geti rfl gfX11_353_5 rfl ?_
  refine a_gV rfl lX11_356 mo_X11_shameTriedOut (q_X11_shameTriedOut_200) rfl rfl rfl ⟨11, _, rfl, rfl, rfl⟩ rfl (fun v' h' hv => ?_)
  obtain ⟨⟨v2, rfl⟩, I3, rfl, f4⟩ := hv
  refine a_s3 rfl rfl rfl rfl rfl rfl ?_
  refine a_l2 rfl rfl rfl ?_
  refine a_if_eq rfl (fun c21 => ?_) (fun c21 => ?_)
  · refine a_l3 rfl rfl rfl ?_
    exact a_iret rfl rfl ⟨⟨_, rfl⟩, _, rfl, f4⟩
  · refine a_l0 rfl rfl rfl ?_
    refine a_getq rfl gfX11_55_11 rfl (rfl) ?_
    refine a_s rfl rfl ?_
    refine a_gV rfl lX11_200 mo_X5_bitsIn (q_X5_bitsIn_257) rfl rfl rfl ⟨5, _, rfl, rfl, rfl⟩ rfl (fun v' h' hv => ?_)
    obtain ⟨⟨v5, rfl⟩, rfl⟩ := hv
    refine a_goto rfl ?_
    exact a_iret rfl rfl ⟨⟨_, rfl⟩, _, rfl, f4⟩
theorem q_X11_span_200 {S : aS} {I : Nat → Nat → Int32} {L : Nat → Nat → Int64} {w1 w2 t : Nat} {x1 : Int32} {b2 : Bool} : Sp S m_X11_span 19 1 6 [.ref 200, .int x1, .int (bI b2)] (hp I L w1 w2 t) (QR (Fm sQ I) isI L w1 w2 t) (XR (Fm sQ I) L w1 w2 [1]) := by
  refine Sp_of ok_X11_span rfl rfl ?_
  show AW S m_X11_span 19 _ _ 1 6 0 [some (.ref 200), some (.int x1), some (.int (bI b2)), none, none, none] [] (hp I L w1 w2 t)
  refine a_l1 rfl rfl rfl ?_
  refine a_s rfl rfl ?_
  refine a_s rfl rfl ?_
  refine a_callS rfl lX11_250 mo_X11_needNumber q_needNumber rfl rfl rfl rfl (fun v' h' hv => ?_) (fun E h' hx => XR.cm hx (by decide) (fun _ z => z))
  obtain ⟨rfl, rfl, hbm1⟩ := hv
  obtain ⟨m1, hm1a, hm1b, rfl⟩ := inB_nI (a := 0) (b := 90) (by decide) hbm1
  refine a_l0 rfl rfl rfl ?_
  refine a_l1 rfl rfl rfl ?_
  refine a_s rfl rfl ?_
  refine a_gV rfl lX11_356 mo_X11_shameTriedOut (q_X11_shameTriedOut_200) rfl rfl rfl ⟨11, _, rfl, rfl, rfl⟩ rfl (fun v' h' hv => ?_)
  obtain ⟨⟨v2, rfl⟩, I3, rfl, f4⟩ := hv
  refine a_s3 rfl rfl rfl rfl rfl rfl ?_
  refine a_s rfl rfl ?_
  refine a_s4 rfl rfl rfl rfl rfl rfl ?_
  refine a_cnt (j0 := 2) (fun j ls h => ∃ a0, ∃ I', ls = [some (.ref 200), some (.int (nI m1)), some (.int (bI b2)), some (.int a0), some (.int (nI j)), none] ∧ h = hp I' L w1 w2 t ∧ Fm sQ I I') (by decide) ⟨_, _, rfl, rfl, f4⟩ ⟨rfl, rfl, rfl, rfl, rfl, trivial⟩ ?_
  rintro j17 _ _ hj17 ⟨a0_17, Ih17, rfl, rfl, fh17⟩ ih17
  refine a_l4 rfl rfl rfl ?_
  refine a_s rfl rfl ?_
  refine a_ic_gt rfl (fun c21 => ?_) (fun c21 => ?_)
  · refine a_l3 rfl rfl rfl ?_
    exact a_iret rfl rfl ⟨⟨_, rfl⟩, _, rfl, fh17⟩
  · refine a_l0 rfl rfl rfl ?_
    refine a_l1 rfl rfl rfl ?_
    refine a_l4 rfl rfl rfl ?_
    refine a_gV rfl lX11_356 mo_X11_shameTriedOut (q_X11_shameTriedOut_200) rfl rfl rfl ⟨11, _, rfl, rfl, rfl⟩ rfl (fun v' h' hv => ?_)
    obtain ⟨⟨v5, rfl⟩, I6, rfl, f7⟩ := hv
    replace f7 : Fm sQ I I6 := Fm.tr (fh17) (f7)
    refine a_s5 rfl rfl rfl rfl rfl rfl ?_
    refine a_l2 rfl rfl rfl ?_
    refine a_if_eq rfl (fun c34 => ?_) (fun c34 => ?_)
    · refine a_l3 rfl rfl rfl ?_
      refine a_l5 rfl rfl rfl ?_
      refine a_min rfl lX11_350 mj_min rfl rfl ?_
      refine a_s3 rfl rfl rfl rfl rfl rfl ?_
      refine a_i4 rfl rfl rfl ?_
      refine a_goto rfl ?_
      exact ih17 _ _ _ _ (nI_gt1 (a := 6) (by decide) hj17 c21) ⟨_, _, rfl, rfl, f7⟩ ⟨rfl, rfl, rfl, rfl, nS _, trivial⟩
    · refine a_l3 rfl rfl rfl ?_
      refine a_l5 rfl rfl rfl ?_
      refine a_max rfl lX11_290 mj_max rfl rfl ?_
      refine a_goto rfl ?_
      refine a_s3 rfl rfl rfl rfl rfl rfl ?_
      refine a_i4 rfl rfl rfl ?_
      refine a_goto rfl ?_
      exact ih17 _ _ _ _ (nI_gt1 (a := 6) (by decide) hj17 c21) ⟨_, _, rfl, rfl, f7⟩ ⟨rfl, rfl, rfl, rfl, nS _, trivial⟩
theorem q_X1_valueOf_244 {S : aS} {I : Nat → Nat → Int32} {L : Nat → Nat → Int64} {w1 w2 t : Nat} {x1 x2 : Int32} : Sp S m_X1_valueOf 13 0 0 [.ref 244, .int x1, .int x2] (hp I L w1 w2 t) (QE isI (hp I L w1 w2 t)) nX := by
  refine Sp_of ok_X1_valueOf rfl rfl ?_
  show AW S m_X1_valueOf 13 _ _ 0 0 0 [some (.ref 244), some (.int x1), some (.int x2), none] [] (hp I L w1 w2 t)
  refine a_l1 rfl rfl rfl ?_
  refine a_if_lt rfl (fun c1 => ?_) (fun c1 => ?_)
  · refine a_s rfl rfl ?_
    exact a_iret rfl rfl ⟨⟨_, rfl⟩, rfl⟩
  · refine a_l1 rfl rfl rfl ?_
    refine a_l0 rfl rfl rfl ?_
    refine a_geti rfl gfX1_15_1 rfl ?_
    refine a_ic_lt rfl (fun c9 => ?_) (fun c9 => ?_)
    · refine a_l0 rfl rfl rfl ?_
      refine a_geti rfl gfX1_19_1 rfl ?_
      refine a_s rfl rfl ?_
      refine a_s rfl rfl ?_
      refine a_l1 rfl rfl rfl ?_
      refine a_s rfl rfl ?_
      refine a_s rfl rfl ?_
      refine a_s rfl rfl ?_
      refine a_s rfl rfl ?_
      refine a_irem rfl (by decide) ?_
      refine a_s3 rfl rfl rfl rfl rfl rfl ?_
      refine a_l0 rfl rfl rfl ?_
      refine a_getq rfl gfX1_11_1 rfl (rfl) ?_
      refine a_l3 rfl rfl rfl ?_
      refine a_s rfl rfl ?_
      refine a_s rfl rfl ?_
      refine a_l2 rfl rfl rfl ?_
      refine a_s rfl rfl ?_
      refine a_eSN1 rfl lX1_36 mo_X11_at (sp_X11_at rfl) rfl rfl rfl rfl ?_
      exact a_iret rfl rfl ⟨⟨_, rfl⟩, rfl⟩
    · refine a_s rfl rfl ?_
      exact a_iret rfl rfl ⟨⟨_, rfl⟩, rfl⟩
theorem q_X1_rowsOf_244 {S : aS} {I : Nat → Nat → Int32} {L : Nat → Nat → Int64} {w1 w2 t : Nat} {x1 : Int32} : Sp S m_X1_rowsOf 14 0 0 [.ref 244, .int x1] (hp I L w1 w2 t) (QE isI (hp I L w1 w2 t)) nX := by
  refine Sp_of ok_X1_rowsOf rfl rfl ?_
  show AW S m_X1_rowsOf 14 _ _ 0 0 0 [some (.ref 244), some (.int x1), none, none] [] (hp I L w1 w2 t)
  refine a_s rfl rfl ?_
  refine a_s2 rfl rfl rfl rfl rfl rfl ?_
  refine a_s rfl rfl ?_
  refine a_s3 rfl rfl rfl rfl rfl rfl ?_
  refine a_cnt (j0 := 0) (fun j ls h => ∃ a0, ls = [some (.ref 244), some (.int x1), some (.int a0), some (.int (nI j))] ∧ h = hp I L w1 w2 t) (by decide) ⟨_, rfl, rfl⟩ ⟨rfl, rfl, rfl, rfl, trivial⟩ ?_
  rintro j4 _ _ hj4 ⟨a0_4, rfl, rfl⟩ ih4
  refine a_l3 rfl rfl rfl ?_
  refine a_l0 rfl rfl rfl ?_
  refine a_geti rfl gfX1_15_1 rfl ?_
  refine a_ic_ge rfl (fun c9 => ?_) (fun c9 => ?_)
  · refine a_l2 rfl rfl rfl ?_
    exact a_iret rfl rfl ⟨⟨_, rfl⟩, rfl⟩
  · refine a_l0 rfl rfl rfl ?_
    refine a_l3 rfl rfl rfl ?_
    refine a_s rfl rfl ?_
    refine a_gV rfl lX1_40 mo_X1_valueOf (q_X1_valueOf_244) rfl rfl rfl ⟨1, _, rfl, rfl, rfl⟩ rfl (fun v' h' hv => ?_)
    obtain ⟨⟨v1, rfl⟩, rfl⟩ := hv
    refine a_l1 rfl rfl rfl ?_
    refine a_ic_ne rfl (fun c19 => ?_) (fun c19 => ?_)
    · refine a_i3 rfl rfl rfl ?_
      refine a_goto rfl ?_
      exact ih4 _ _ _ _ c9 ⟨_, rfl, rfl⟩ ⟨rfl, rfl, rfl, nS _, trivial⟩
    · refine a_i2 rfl rfl rfl ?_
      refine a_i3 rfl rfl rfl ?_
      refine a_goto rfl ?_
      exact ih4 _ _ _ _ c9 ⟨_, rfl, rfl⟩ ⟨rfl, rfl, rfl, nS _, trivial⟩
theorem q_X1_latestMonthOf_244 {S : aS} {I : Nat → Nat → Int32} {L : Nat → Nat → Int64} {w1 w2 t : Nat} {x1 : Int32} : Sp S m_X1_latestMonthOf 14 0 0 [.ref 244, .int x1] (hp I L w1 w2 t) (QE isI (hp I L w1 w2 t)) nX := by
  refine Sp_of ok_X1_latestMonthOf rfl rfl ?_
  show AW S m_X1_latestMonthOf 14 _ _ 0 0 0 [some (.ref 244), some (.int x1), none] [] (hp I L w1 w2 t)
  refine a_s rfl rfl ?_
  refine a_s2 rfl rfl rfl rfl rfl rfl ?_
  refine a_cnt (j0 := 0) (fun j ls h => ls = [some (.ref 244), some (.int x1), some (.int (nI j))] ∧ h = hp I L w1 w2 t) (by decide) ⟨rfl, rfl⟩ ⟨rfl, rfl, rfl, trivial⟩ ?_
  rintro j2 _ _ hj2 ⟨rfl, rfl⟩ ih2
  refine a_l2 rfl rfl rfl ?_
  refine a_l0 rfl rfl rfl ?_
  refine a_geti rfl gfX1_15_1 rfl ?_
  refine a_ic_ge rfl (fun c7 => ?_) (fun c7 => ?_)
  · refine a_s rfl rfl ?_
    exact a_iret rfl rfl ⟨⟨_, rfl⟩, rfl⟩
  · refine a_l0 rfl rfl rfl ?_
    refine a_l2 rfl rfl rfl ?_
    refine a_s rfl rfl ?_
    refine a_gV rfl lX1_40 mo_X1_valueOf (q_X1_valueOf_244) rfl rfl rfl ⟨1, _, rfl, rfl, rfl⟩ rfl (fun v' h' hv => ?_)
    obtain ⟨⟨v1, rfl⟩, rfl⟩ := hv
    refine a_l1 rfl rfl rfl ?_
    refine a_ic_ne rfl (fun c17 => ?_) (fun c17 => ?_)
    · refine a_i2 rfl rfl rfl ?_
      refine a_goto rfl ?_
      exact ih2 _ _ _ _ c7 ⟨rfl, rfl⟩ ⟨rfl, rfl, nS _, trivial⟩
    · refine a_l0 rfl rfl rfl ?_
      refine a_l2 rfl rfl rfl ?_
      refine a_s rfl rfl ?_
      refine a_gV rfl lX1_40 mo_X1_valueOf (q_X1_valueOf_244) rfl rfl rfl ⟨1, _, rfl, rfl, rfl⟩ rfl (fun v' h' hv => ?_)
      obtain ⟨⟨v2, rfl⟩, rfl⟩ := hv
      exact a_iret rfl rfl ⟨⟨_, rfl⟩, rfl⟩
theorem q_X11_led_200 {S : aS} {I : Nat → Nat → Int32} {L : Nat → Nat → Int64} {w1 w2 t : Nat} {x1 : Int32} {b2 : Bool} : Sp S m_X11_led 15 1 6 [.ref 200, .int x1, .int (bI b2)] (hp I L w1 w2 t) (QE isI (hp I L w1 w2 t)) (XR (Fm sQ I) L w1 w2 [0]) := by
  refine Sp_of ok_X11_led rfl rfl ?_
  show AW S m_X11_led 15 _ _ 1 6 0 [some (.ref 200), some (.int x1), some (.int (bI b2))] [] (hp I L w1 w2 t)
  refine a_l0 rfl rfl rfl ?_
  refine a_l1 rfl rfl rfl ?_
  refine a_callV rfl lX11_141 mo_X11_needDuty (q_X11_needDuty_200) rfl rfl rfl ⟨11, _, rfl, rfl, rfl⟩ rfl (fun v' h' hv => ?_) (fun E h' hx => XR.cm hx (by decide) (fun _ z => z))
  obtain ⟨rfl, rfl⟩ := hv
  refine a_l2 rfl rfl rfl ?_
  refine a_if_eq rfl (fun c6 => ?_) (fun c6 => ?_)
  · refine a_l0 rfl rfl rfl ?_
    refine a_getq rfl gfX11_37_11 rfl (rfl) ?_
    refine a_getq rfl gfX11_211_5 rfl (rfl) ?_
    refine a_l1 rfl rfl rfl ?_
    refine a_gV rfl lX11_362 mo_X1_rowsOf (q_X1_rowsOf_244) rfl rfl rfl ⟨1, _, rfl, rfl, rfl⟩ rfl (fun v' h' hv => ?_)
    obtain ⟨⟨v2, rfl⟩, rfl⟩ := hv
    exact a_iret rfl rfl ⟨⟨_, rfl⟩, rfl⟩
  · refine a_l0 rfl rfl rfl ?_
    refine a_getq rfl gfX11_37_11 rfl (rfl) ?_
    refine a_getq rfl gfX11_211_5 rfl (rfl) ?_
    refine a_l1 rfl rfl rfl ?_
    refine a_gV rfl lX11_359 mo_X1_latestMonthOf (q_X1_latestMonthOf_244) rfl rfl rfl ⟨1, _, rfl, rfl, rfl⟩ rfl (fun v' h' hv => ?_)
    obtain ⟨⟨v3, rfl⟩, rfl⟩ := hv
    refine a_goto rfl ?_
    exact a_iret rfl rfl ⟨⟨_, rfl⟩, rfl⟩
theorem q_X11_log_200 {S : aS} {I : Nat → Nat → Int32} {L : Nat → Nat → Int64} {w1 w2 t : Nat} {x1 x2 : Int32} : Sp S m_X11_log 14 1 6 [.ref 200, .int x1, .int x2] (hp I L w1 w2 t) (QE isI (hp I L w1 w2 t)) (XR (Fm sQ I) L w1 w2 [4]) := by
  refine Sp_of ok_X11_log rfl rfl ?_
  show AW S m_X11_log 14 _ _ 1 6 0 [some (.ref 200), some (.int x1), some (.int x2)] [] (hp I L w1 w2 t)
  refine a_l2 rfl rfl rfl ?_
  refine a_if_lt rfl (fun c1 => ?_) (fun c1 => ?_)
  · exact a_throw rfl rfl rfl rfl tX11_nsee rfl rfl rfl rfl rfl ⟨⟨4, by decide, rfl⟩, _, rfl, Fm.rf⟩
  · refine a_l2 rfl rfl rfl ?_
    refine a_s rfl rfl ?_
    refine a_ic_le rfl (fun c6 => ?_) (fun c6 => ?_)
    · refine a_l0 rfl rfl rfl ?_
      refine a_getq rfl gfX11_37_11 rfl (rfl) ?_
      refine a_getq rfl gfX11_211_5 rfl (rfl) ?_
      refine a_l1 rfl rfl rfl ?_
      refine a_l2 rfl rfl rfl ?_
      refine a_gV rfl lX11_365 mo_X1_valueOf (q_X1_valueOf_244) rfl rfl rfl ⟨1, _, rfl, rfl, rfl⟩ rfl (fun v' h' hv => ?_)
      obtain ⟨⟨v1, rfl⟩, rfl⟩ := hv
      exact a_iret rfl rfl ⟨⟨_, rfl⟩, rfl⟩
    · exact a_throw rfl rfl rfl rfl tX11_nsee rfl rfl rfl rfl rfl ⟨⟨4, by decide, rfl⟩, _, rfl, Fm.rf⟩
theorem q_X0_leansWithin_235 {S : aS} {I : Nat → Nat → Int32} {L : Nat → Nat → Int64} {w1 w2 t : Nat} {x1 : Int32} : Sp S m_X0_leansWithin 14 0 0 [.ref 235, .int x1] (hp I L w1 w2 t) (QE isZ (hp I L w1 w2 t)) nX := by
  refine Sp_of ok_X0_leansWithin rfl rfl ?_
  show AW S m_X0_leansWithin 14 _ _ 0 0 0 [some (.ref 235), some (.int x1), none] [] (hp I L w1 w2 t)
  refine a_s rfl rfl ?_
  refine a_s2 rfl rfl rfl rfl rfl rfl ?_
  refine a_cnt (j0 := 0) (fun j ls h => ls = [some (.ref 235), some (.int x1), some (.int (nI j))] ∧ h = hp I L w1 w2 t) (by decide) ⟨rfl, rfl⟩ ⟨rfl, rfl, rfl, trivial⟩ ?_
  rintro j2 _ _ hj2 ⟨rfl, rfl⟩ ih2
  refine a_l2 rfl rfl rfl ?_
  refine a_l0 rfl rfl rfl ?_
  refine a_geti rfl gfX0_24_5 rfl ?_
  refine a_ic_ge rfl (fun c7 => ?_) (fun c7 => ?_)
  · refine a_s rfl rfl ?_
    exact a_zret rfl rfl rfl ⟨⟨true, rfl⟩, rfl⟩
  · refine a_l1 rfl rfl rfl ?_
    refine a_l2 rfl rfl rfl ?_
    refine a_eSN1 rfl lX0_45 mo_X11_has (sp_X11_has) rfl rfl rfl rfl ?_
    refine a_if_eq rfl (fun c15 => ?_) (fun c15 => ?_)
    · refine a_i2 rfl rfl rfl ?_
      refine a_goto rfl ?_
      exact ih2 _ _ _ _ c7 ⟨rfl, rfl⟩ ⟨rfl, rfl, nS _, trivial⟩
    · refine a_l0 rfl rfl rfl ?_
      refine a_l2 rfl rfl rfl ?_
      refine a_gV rfl lX0_77 mo_X5_leansFreely (q_X5_leansFreely_235) rfl rfl rfl ⟨5, _, rfl, rfl, rfl⟩ rfl (fun v' h' hv => ?_)
      obtain ⟨⟨v1, rfl⟩, rfl⟩ := hv
      refine a_if_ne rfl (fun c23 => ?_) (fun c23 => ?_)
      · refine a_i2 rfl rfl rfl ?_
        refine a_goto rfl ?_
        exact ih2 _ _ _ _ c7 ⟨rfl, rfl⟩ ⟨rfl, rfl, nS _, trivial⟩
      · refine a_l1 rfl rfl rfl ?_
        refine a_l0 rfl rfl rfl ?_
        refine a_getq rfl gfX0_81_5 rfl (rfl) ?_
        refine a_l2 rfl rfl rfl ?_
        refine a_eSN1 rfl lX0_52 mo_X11_at (sp_X11_at rfl) rfl rfl rfl rfl ?_
        refine a_eSN1 rfl lX0_45 mo_X11_has (sp_X11_has) rfl rfl rfl rfl ?_
        refine a_if_ne rfl (fun c38 => ?_) (fun c38 => ?_)
        · refine a_i2 rfl rfl rfl ?_
          refine a_goto rfl ?_
          exact ih2 _ _ _ _ c7 ⟨rfl, rfl⟩ ⟨rfl, rfl, nS _, trivial⟩
        · refine a_s rfl rfl ?_
          exact a_zret rfl rfl rfl ⟨⟨false, rfl⟩, rfl⟩
theorem q_X0_leastShame_254_235_246 {S : aS} {I : Nat → Nat → Int32} {L : Nat → Nat → Int64} {w1 w2 t : Nat} {x3 : Int32} {nd : Nat} (hd : I 235 3 = nI nd) (hn : nd ≤ 12) : Sp S m_X0_leastShame 16 0 0 [.ref 254, .ref 235, .ref 246, .int x3] (hp I L w1 w2 t) (QR (Fm sQ I) isI L w1 w2 t) nX := by
  refine Sp_of ok_X0_leastShame rfl rfl ?_
  show AW S m_X0_leastShame 16 _ _ 0 0 0 [some (.ref 254), some (.ref 235), some (.ref 246), some (.int x3), none, none, none, none, none] [] (hp I L w1 w2 t)
  refine a_l1 rfl rfl rfl ?_
  refine a_s rfl rfl ?_
  refine a_eV1 rfl lX0_59 mo_X5_bitsIn (sp_X5_bitsIn (a := 235) (by decide) hd hn) rfl rfl rfl ⟨5, _, rfl, rfl, rfl⟩ rfl ?_
  obtain ⟨mc, hmc, emc⟩ := bs_nI12 hn (P := fun d => decide (I (235 + 8) d = 0))
  refine a_top (y := nI mc) emc ?_
  refine a_s4 rfl rfl rfl rfl rfl rfl ?_
  refine a_s rfl rfl ?_
  refine a_s5 rfl rfl rfl rfl rfl rfl ?_
  refine a_cnt (j0 := 0) (fun j ls h => ∃ I', ls = [some (.ref 254), some (.ref 235), some (.ref 246), some (.int x3), some (.int (nI mc)), some (.int (nI j)), none, none, none] ∧ h = hp I' L w1 w2 t ∧ Fm sQ I I') (by decide) ⟨_, rfl, rfl, Fm.rf⟩ ⟨rfl, rfl, rfl, rfl, rfl, rfl, trivial⟩ ?_
  rintro j10 _ _ hj10 ⟨Ih10, rfl, rfl, fh10⟩ ih10
  refine a_l5 rfl rfl rfl ?_
  refine a_l1 rfl rfl rfl ?_
  refine a_geti rfl gfX0_24_5 rfl ?_
  refine a_ic_ge rfl (fun c16 => ?_) (fun c16 => ?_)
  · refine a_s rfl rfl ?_
    refine a_s5 rfl rfl rfl rfl rfl rfl ?_
    refine a_s rfl rfl ?_
    refine a_s6 rfl rfl rfl rfl rfl rfl ?_
    refine a_s rfl rfl ?_
    refine a_s7 rfl rfl rfl rfl rfl rfl ?_
    refine a_cnt (j0 := 0) (fun j ls h => ∃ a0, ∃ a1, ∃ I', ls = [some (.ref 254), some (.ref 235), some (.ref 246), some (.int x3), some (.int (nI mc)), some (.int a0), some (.int a1), some (.int (nI j)), none] ∧ h = hp I' L w1 w2 t ∧ Fm sQ I I') (by decide) ⟨_, _, _, rfl, rfl, fh10⟩ ⟨rfl, rfl, rfl, rfl, rfl, rfl, rfl, rfl, trivial⟩ ?_
    rintro j50 _ _ hj50 ⟨a0_50, a1_50, Ih50, rfl, rfl, fh50⟩ ih50
    refine a_l7 rfl rfl rfl ?_
    refine a_l4 rfl rfl rfl ?_
    refine a_ic_gt rfl (fun c54 => ?_) (fun c54 => ?_)
    · refine a_l5 rfl rfl rfl ?_
      exact a_iret rfl rfl ⟨⟨_, rfl⟩, _, rfl, fh50⟩
    · refine a_l7 rfl rfl rfl ?_
      refine a_l4 rfl rfl rfl ?_
      refine a_s rfl rfl ?_
      refine a_s rfl rfl ?_
      refine a_s rfl rfl ?_
      refine a_if_ne rfl (fun c64 => ?_) (fun c64 => ?_)
      · refine a_i7 rfl rfl rfl ?_
        refine a_goto rfl ?_
        exact ih50 _ _ _ _ (nI_gt1 (a := mc) (by omega) hj50 c54) ⟨_, _, _, rfl, rfl, fh50⟩ ⟨rfl, rfl, rfl, rfl, rfl, rfl, rfl, nS _, trivial⟩
      · refine a_l1 rfl rfl rfl ?_
        refine a_getq rfl gfX0_68_5 rfl (rfl) ?_
        refine a_l7 rfl rfl rfl ?_
        refine a_eSN1 rfl lX0_71 mo_X11_sumOver (sp_X11_sumOver rfl) rfl rfl rfl rfl ?_
        refine a_l3 rfl rfl rfl ?_
        refine a_ic_gt rfl (fun c77 => ?_) (fun c77 => ?_)
        · refine a_i7 rfl rfl rfl ?_
          refine a_goto rfl ?_
          exact ih50 _ _ _ _ (nI_gt1 (a := mc) (by omega) hj50 c54) ⟨_, _, _, rfl, rfl, fh50⟩ ⟨rfl, rfl, rfl, rfl, rfl, rfl, rfl, nS _, trivial⟩
        · refine a_l1 rfl rfl rfl ?_
          refine a_l7 rfl rfl rfl ?_
          refine a_gS rfl lX0_74 mo_X0_leansWithin (q_X0_leansWithin_235) rfl rfl rfl rfl (fun v' h' hv => ?_)
          obtain ⟨⟨v1, rfl⟩, rfl⟩ := hv
          refine a_if_eq rfl (fun c86 => ?_) (fun c86 => ?_)
          · refine a_i7 rfl rfl rfl ?_
            refine a_goto rfl ?_
            exact ih50 _ _ _ _ (nI_gt1 (a := mc) (by omega) hj50 c54) ⟨_, _, _, rfl, rfl, fh50⟩ ⟨rfl, rfl, rfl, rfl, rfl, rfl, rfl, nS _, trivial⟩
          · refine a_l0 rfl rfl rfl ?_
            refine a_getq rfl gfX0_15_0 rfl (rfl) ?_
            refine a_l7 rfl rfl rfl ?_
            refine a_eSN1 rfl lX0_71 mo_X11_sumOver (sp_X11_sumOver rfl) rfl rfl rfl rfl ?_
            refine a_s8 rfl rfl rfl rfl rfl rfl ?_
            refine a_l8 rfl rfl rfl ?_
            refine a_l6 rfl rfl rfl ?_
            refine a_ic_le rfl (fun c104 => ?_) (fun c104 => ?_)
            · refine a_i7 rfl rfl rfl ?_
              refine a_goto rfl ?_
              exact ih50 _ _ _ _ (nI_gt1 (a := mc) (by omega) hj50 c54) ⟨_, _, _, rfl, rfl, fh50⟩ ⟨rfl, rfl, rfl, rfl, rfl, rfl, rfl, nS _, trivial⟩
            · refine a_l7 rfl rfl rfl ?_
              refine a_s5 rfl rfl rfl rfl rfl rfl ?_
              refine a_l8 rfl rfl rfl ?_
              refine a_s6 rfl rfl rfl rfl rfl rfl ?_
              refine a_i7 rfl rfl rfl ?_
              refine a_goto rfl ?_
              exact ih50 _ _ _ _ (nI_gt1 (a := mc) (by omega) hj50 c54) ⟨_, _, _, rfl, rfl, fh50⟩ ⟨rfl, rfl, rfl, rfl, rfl, rfl, rfl, nS _, trivial⟩
  · refine a_l0 rfl rfl rfl ?_
    refine a_getq rfl gfX0_15_0 rfl (rfl) ?_
    refine a_l5 rfl rfl rfl ?_
    refine a_l2 rfl rfl rfl ?_
    refine a_l1 rfl rfl rfl ?_
    refine a_l5 rfl rfl rfl ?_
    refine a_gV rfl lX0_62 mo_X2_shameOf (q_X2_shameOf_246_235) rfl rfl rfl ⟨2, _, rfl, rfl, rfl⟩ rfl (fun v' h' hv => ?_)
    obtain ⟨⟨v2, rfl⟩, I3, rfl, f4⟩ := hv
    replace f4 : Fm sQ I I3 := Fm.tr (fh10) (f4)
    refine a_eSN0 rfl lX0_32 mo_X11_setAt (sp_X11_setAt rfl) rfl rfl rfl rfl ?_
    refine a_ren (P := Fm sQ I) (Fm.tr (f4) (Fm.st (Fm.rf (s := sQ)) (fun _ => rfl))) (fun I5 f6 => ?_)
    refine a_i5 rfl rfl rfl ?_
    refine a_goto rfl ?_
    exact ih10 _ _ _ _ c16 ⟨_, rfl, rfl, f6⟩ ⟨rfl, rfl, rfl, rfl, rfl, nS _, trivial⟩
theorem q_X11_does_200 {S : aS} {I : Nat → Nat → Int32} {L : Nat → Nat → Int64} {w1 w2 t : Nat} {x1 : Int32} {b2 : Bool} {nd : Nat} (hd : I 235 3 = nI nd) (hn : nd ≤ 12) : Sp S m_X11_does 17 1 6 [.ref 200, .int x1, .int (bI b2)] (hp I L w1 w2 t) (QR (Fm sQ I) isI L w1 w2 t) (XR (Fm sQ I) L w1 w2 [1]) := by
  refine Sp_of ok_X11_does rfl rfl ?_
  show AW S m_X11_does 17 _ _ 1 6 0 [some (.ref 200), some (.int x1), some (.int (bI b2)), none] [] (hp I L w1 w2 t)
  refine a_l1 rfl rfl rfl ?_
  refine a_s rfl rfl ?_
  refine a_s rfl rfl ?_
  refine a_callS rfl lX11_250 mo_X11_needNumber q_needNumber rfl rfl rfl rfl (fun v' h' hv => ?_) (fun E h' hx => XR.cm hx (by decide) (fun _ z => z))
  obtain ⟨rfl, rfl, hbm1⟩ := hv
  obtain ⟨m1, hm1a, hm1b, rfl⟩ := inB_nI (a := 0) (b := 99) (by decide) hbm1
  refine a_l0 rfl rfl rfl ?_
  refine a_getq rfl gfX11_51_11 rfl (rfl) ?_
  refine a_l0 rfl rfl rfl ?_
  refine a_getq rfl gfX11_37_11 rfl (rfl) ?_
  refine a_l0 rfl rfl rfl ?_
  refine a_getq rfl gfX11_44_11 rfl (rfl) ?_
  refine a_l1 rfl rfl rfl ?_
  refine a_gV rfl lX11_278 mo_X0_leastShame (q_X0_leastShame_254_235_246 hd hn) rfl rfl rfl ⟨0, _, rfl, rfl, rfl⟩ rfl (fun v' h' hv => ?_)
  obtain ⟨⟨v2, rfl⟩, I3, rfl, f4⟩ := hv
  refine a_s3 rfl rfl rfl rfl rfl rfl ?_
  refine a_l2 rfl rfl rfl ?_
  refine a_if_eq rfl (fun c25 => ?_) (fun c25 => ?_)
  · refine a_l3 rfl rfl rfl ?_
    exact a_iret rfl rfl ⟨⟨_, rfl⟩, _, rfl, f4⟩
  · refine a_l0 rfl rfl rfl ?_
    refine a_getq rfl gfX11_44_11 rfl (rfl) ?_
    refine a_l0 rfl rfl rfl ?_
    refine a_getq rfl gfX11_37_11 rfl (rfl) ?_
    refine a_l0 rfl rfl rfl ?_
    refine a_getq rfl gfX11_37_11 rfl (rfl) ?_
    refine a_s rfl rfl ?_
    refine a_gV rfl lX11_200 mo_X5_bitsIn (q_X5_bitsIn_235) rfl rfl rfl ⟨5, _, rfl, rfl, rfl⟩ rfl (fun v' h' hv => ?_)
    obtain ⟨⟨v5, rfl⟩, rfl⟩ := hv
    refine a_l3 rfl rfl rfl ?_
    refine a_s rfl rfl ?_
    refine a_s rfl rfl ?_
    refine a_s rfl rfl ?_
    refine a_gV rfl lX11_282 mo_X2_shameOfSet (q_X2_shameOfSet_246_235) rfl rfl rfl ⟨2, _, rfl, rfl, rfl⟩ rfl (fun v' h' hv => ?_)
    obtain ⟨⟨v6, rfl⟩, I7, rfl, f8⟩ := hv
    replace f8 : Fm sQ I I7 := Fm.tr (f4) (f8)
    refine a_goto rfl ?_
    exact a_iret rfl rfl ⟨⟨_, rfl⟩, _, rfl, f8⟩
theorem q_X0_canBeCalledTogether_254_235 {S : aS} {I : Nat → Nat → Int32} {L : Nat → Nat → Int64} {w1 w2 t : Nat} {x2 : Int32} : Sp S m_X0_canBeCalledTogether 14 0 0 [.ref 254, .ref 235, .int x2] (hp I L w1 w2 t) (QE isZ (hp I L w1 w2 t)) nX := by
  refine Sp_of ok_X0_canBeCalledTogether rfl rfl ?_
  show AW S m_X0_canBeCalledTogether 14 _ _ 0 0 0 [some (.ref 254), some (.ref 235), some (.int x2), none, none, none, none] [] (hp I L w1 w2 t)
  refine a_s rfl rfl ?_
  refine a_s3 rfl rfl rfl rfl rfl rfl ?_
  refine a_s rfl rfl ?_
  refine a_s4 rfl rfl rfl rfl rfl rfl ?_
  refine a_s rfl rfl ?_
  refine a_s5 rfl rfl rfl rfl rfl rfl ?_
  refine a_cnt (j0 := 0) (fun j ls h => ∃ a0, ∃ a1, ls = [some (.ref 254), some (.ref 235), some (.int x2), some (.int a0), some (.int a1), some (.int (nI j)), none] ∧ h = hp I L w1 w2 t) (by decide) ⟨_, _, rfl, rfl⟩ ⟨rfl, rfl, rfl, rfl, rfl, rfl, trivial⟩ ?_
  rintro j8 _ _ hj8 ⟨a0_8, a1_8, rfl, rfl⟩ ih8
  refine a_l5 rfl rfl rfl ?_
  refine a_l1 rfl rfl rfl ?_
  refine a_geti rfl gfX0_24_5 rfl ?_
  refine a_ic_ge rfl (fun c14 => ?_) (fun c14 => ?_)
  · refine a_l4 rfl rfl rfl ?_
    refine a_l4 rfl rfl rfl ?_
    refine a_s rfl rfl ?_
    refine a_s rfl rfl ?_
    refine a_s rfl rfl ?_
    refine a_if_ne rfl (fun c84 => ?_) (fun c84 => ?_)
    · refine a_s rfl rfl ?_
      exact a_zret rfl rfl rfl ⟨⟨false, rfl⟩, rfl⟩
    · refine a_s rfl rfl ?_
      refine a_goto rfl ?_
      exact a_zret rfl rfl rfl ⟨⟨true, rfl⟩, rfl⟩
  · refine a_l2 rfl rfl rfl ?_
    refine a_l5 rfl rfl rfl ?_
    refine a_eSN1 rfl lX0_45 mo_X11_has (sp_X11_has) rfl rfl rfl rfl ?_
    refine a_if_eq rfl (fun c23 => ?_) (fun c23 => ?_)
    · refine a_i5 rfl rfl rfl ?_
      refine a_goto rfl ?_
      exact ih8 _ _ _ _ c14 ⟨_, _, rfl, rfl⟩ ⟨rfl, rfl, rfl, rfl, rfl, nS _, trivial⟩
    · refine a_l1 rfl rfl rfl ?_
      refine a_getq rfl gfX0_49_5 rfl (rfl) ?_
      refine a_l5 rfl rfl rfl ?_
      refine a_eSN1 rfl lX0_52 mo_X11_at (sp_X11_at rfl) rfl rfl rfl rfl ?_
      refine a_eSN1 rfl lX0_56 mo_X11_bit (sp_X11_bit) rfl rfl rfl rfl ?_
      refine a_s6 rfl rfl rfl rfl rfl rfl ?_
      refine a_l3 rfl rfl rfl ?_
      refine a_l6 rfl rfl rfl ?_
      refine a_s rfl rfl ?_
      refine a_if_eq rfl (fun c44 => ?_) (fun c44 => ?_)
      · refine a_l3 rfl rfl rfl ?_
        refine a_l6 rfl rfl rfl ?_
        refine a_s rfl rfl ?_
        refine a_s3 rfl rfl rfl rfl rfl rfl ?_
        refine a_l4 rfl rfl rfl ?_
        refine a_l0 rfl rfl rfl ?_
        refine a_getq rfl gfX0_9_0 rfl (rfl) ?_
        refine a_l5 rfl rfl rfl ?_
        refine a_eSN1 rfl lX0_52 mo_X11_at (sp_X11_at rfl) rfl rfl rfl rfl ?_
        refine a_eSN1 rfl lX0_56 mo_X11_bit (sp_X11_bit) rfl rfl rfl rfl ?_
        refine a_s rfl rfl ?_
        refine a_s4 rfl rfl rfl rfl rfl rfl ?_
        refine a_i5 rfl rfl rfl ?_
        refine a_goto rfl ?_
        exact ih8 _ _ _ _ c14 ⟨_, _, rfl, rfl⟩ ⟨rfl, rfl, rfl, rfl, rfl, nS _, trivial⟩
      · refine a_s rfl rfl ?_
        exact a_zret rfl rfl rfl ⟨⟨false, rfl⟩, rfl⟩
theorem q_X0_mostCalled_254_235 {S : aS} {I : Nat → Nat → Int32} {L : Nat → Nat → Int64} {w1 w2 t : Nat} {nd : Nat} (hd : I 235 3 = nI nd) (hn : nd ≤ 12) : Sp S m_X0_mostCalled 18 0 0 [.ref 254, .ref 235] (hp I L w1 w2 t) (QR (Fm sQ I) isI L w1 w2 t) nX := by
  refine Sp_of ok_X0_mostCalled rfl rfl ?_
  show AW S m_X0_mostCalled 18 _ _ 0 0 0 [some (.ref 254), some (.ref 235), none, none, none, none] [] (hp I L w1 w2 t)
  refine a_l1 rfl rfl rfl ?_
  refine a_eV1 rfl lX0_18 mo_X5_canBits (sp_X5_canBits (a := 235) (by decide) hd hn) rfl rfl rfl ⟨5, _, rfl, rfl, rfl⟩ rfl ?_
  obtain ⟨mc, hmc, emc⟩ := bs_nI12 hn (P := fun d => rdF nd (I (235 + 8)) (I (235 + 7)) (nI d) && decide (I (235 + 4) d ≤ passF nd (I (235 + 8)) (I (235 + 5)) (I 235 13) (nI d)))
  refine a_top (y := nI mc) emc ?_
  refine a_s2 rfl rfl rfl rfl rfl rfl ?_
  refine a_s rfl rfl ?_
  refine a_s3 rfl rfl rfl rfl rfl rfl ?_
  refine a_cnt (j0 := 0) (fun j ls h => ∃ I', ls = [some (.ref 254), some (.ref 235), some (.int (nI mc)), some (.int (nI j)), none, none] ∧ h = hp I' L w1 w2 t ∧ Fm sQ I I') (by decide) ⟨_, rfl, rfl, Fm.rf⟩ ⟨rfl, rfl, rfl, rfl, trivial⟩ ?_
  rintro j7 _ _ hj7 ⟨Ih7, rfl, rfl, fh7⟩ ih7
  refine a_l3 rfl rfl rfl ?_
  refine a_l1 rfl rfl rfl ?_
  refine a_geti rfl gfX0_24_5 rfl ?_
  refine a_ic_ge rfl (fun c12 => ?_) (fun c12 => ?_)
  · refine a_s rfl rfl ?_
    refine a_s3 rfl rfl rfl rfl rfl rfl ?_
    refine a_s rfl rfl ?_
    refine a_s4 rfl rfl rfl rfl rfl rfl ?_
    refine a_cnt (j0 := 1) (fun j ls h => ∃ a0, ∃ I', ls = [some (.ref 254), some (.ref 235), some (.int (nI mc)), some (.int a0), some (.int (nI j)), none] ∧ h = hp I' L w1 w2 t ∧ Fm sQ I I') (by decide) ⟨_, _, rfl, rfl, fh7⟩ ⟨rfl, rfl, rfl, rfl, rfl, trivial⟩ ?_
    rintro j39 _ _ hj39 ⟨a0_39, Ih39, rfl, rfl, fh39⟩ ih39
    refine a_l4 rfl rfl rfl ?_
    refine a_l2 rfl rfl rfl ?_
    refine a_ic_gt rfl (fun c42 => ?_) (fun c42 => ?_)
    · refine a_l3 rfl rfl rfl ?_
      exact a_iret rfl rfl ⟨⟨_, rfl⟩, _, rfl, fh39⟩
    · refine a_l4 rfl rfl rfl ?_
      refine a_l2 rfl rfl rfl ?_
      refine a_s rfl rfl ?_
      refine a_s rfl rfl ?_
      refine a_s rfl rfl ?_
      refine a_if_ne rfl (fun c51 => ?_) (fun c51 => ?_)
      · refine a_s rfl rfl ?_
        refine a_s5 rfl rfl rfl rfl rfl rfl ?_
        refine a_l5 rfl rfl rfl ?_
        refine a_if_eq rfl (fun c63 => ?_) (fun c63 => ?_)
        · refine a_i4 rfl rfl rfl ?_
          refine a_goto rfl ?_
          exact ih39 _ _ _ _ (nI_gt1 (a := mc) (by omega) hj39 c42) ⟨_, _, rfl, rfl, fh39⟩ ⟨rfl, rfl, rfl, rfl, nS _, trivial⟩
        · refine a_l4 rfl rfl rfl ?_
          refine a_eS1 rfl lX0_36 mo_J6_bitCount_0f7a4 (sp_bitCount) rfl rfl rfl rfl ?_
          refine a_l3 rfl rfl rfl ?_
          refine a_eS1 rfl lX0_36 mo_J6_bitCount_0f7a4 (sp_bitCount) rfl rfl rfl rfl ?_
          refine a_ic_le rfl (fun c75 => ?_) (fun c75 => ?_)
          · refine a_i4 rfl rfl rfl ?_
            refine a_goto rfl ?_
            exact ih39 _ _ _ _ (nI_gt1 (a := mc) (by omega) hj39 c42) ⟨_, _, rfl, rfl, fh39⟩ ⟨rfl, rfl, rfl, rfl, nS _, trivial⟩
          · refine a_l0 rfl rfl rfl ?_
            refine a_l1 rfl rfl rfl ?_
            refine a_l4 rfl rfl rfl ?_
            refine a_gV rfl lX0_41 mo_X0_canBeCalledTogether (q_X0_canBeCalledTogether_254_235) rfl rfl rfl ⟨0, _, rfl, rfl, rfl⟩ rfl (fun v' h' hv => ?_)
            obtain ⟨⟨v1, rfl⟩, rfl⟩ := hv
            refine a_if_eq rfl (fun c85 => ?_) (fun c85 => ?_)
            · refine a_i4 rfl rfl rfl ?_
              refine a_goto rfl ?_
              exact ih39 _ _ _ _ (nI_gt1 (a := mc) (by omega) hj39 c42) ⟨_, _, rfl, rfl, fh39⟩ ⟨rfl, rfl, rfl, rfl, nS _, trivial⟩
            · refine a_l4 rfl rfl rfl ?_
              refine a_s3 rfl rfl rfl rfl rfl rfl ?_
              refine a_i4 rfl rfl rfl ?_
              refine a_goto rfl ?_
              exact ih39 _ _ _ _ (nI_gt1 (a := mc) (by omega) hj39 c42) ⟨_, _, rfl, rfl, fh39⟩ ⟨rfl, rfl, rfl, rfl, nS _, trivial⟩
      · refine a_s rfl rfl ?_
        refine a_goto rfl ?_
        refine a_s5 rfl rfl rfl rfl rfl rfl ?_
        refine a_l5 rfl rfl rfl ?_
        refine a_if_eq rfl (fun c63 => ?_) (fun c63 => ?_)
        · refine a_i4 rfl rfl rfl ?_
          refine a_goto rfl ?_
          exact ih39 _ _ _ _ (nI_gt1 (a := mc) (by omega) hj39 c42) ⟨_, _, rfl, rfl, fh39⟩ ⟨rfl, rfl, rfl, rfl, nS _, trivial⟩
        · refine a_l4 rfl rfl rfl ?_
          refine a_eS1 rfl lX0_36 mo_J6_bitCount_0f7a4 (sp_bitCount) rfl rfl rfl rfl ?_
          refine a_l3 rfl rfl rfl ?_
          refine a_eS1 rfl lX0_36 mo_J6_bitCount_0f7a4 (sp_bitCount) rfl rfl rfl rfl ?_
          refine a_ic_le rfl (fun c75 => ?_) (fun c75 => ?_)
          · refine a_i4 rfl rfl rfl ?_
            refine a_goto rfl ?_
            exact ih39 _ _ _ _ (nI_gt1 (a := mc) (by omega) hj39 c42) ⟨_, _, rfl, rfl, fh39⟩ ⟨rfl, rfl, rfl, rfl, nS _, trivial⟩
          · refine a_l0 rfl rfl rfl ?_
            refine a_l1 rfl rfl rfl ?_
            refine a_l4 rfl rfl rfl ?_
            refine a_gV rfl lX0_41 mo_X0_canBeCalledTogether (q_X0_canBeCalledTogether_254_235) rfl rfl rfl ⟨0, _, rfl, rfl, rfl⟩ rfl (fun v' h' hv => ?_)
            obtain ⟨⟨v2, rfl⟩, rfl⟩ := hv
            refine a_if_eq rfl (fun c85 => ?_) (fun c85 => ?_)
            · refine a_i4 rfl rfl rfl ?_
              refine a_goto rfl ?_
              exact ih39 _ _ _ _ (nI_gt1 (a := mc) (by omega) hj39 c42) ⟨_, _, rfl, rfl, fh39⟩ ⟨rfl, rfl, rfl, rfl, nS _, trivial⟩
            · refine a_l4 rfl rfl rfl ?_
              refine a_s3 rfl rfl rfl rfl rfl rfl ?_
              refine a_i4 rfl rfl rfl ?_
              refine a_goto rfl ?_
              exact ih39 _ _ _ _ (nI_gt1 (a := mc) (by omega) hj39 c42) ⟨_, _, rfl, rfl, fh39⟩ ⟨rfl, rfl, rfl, rfl, nS _, trivial⟩
  · refine a_l0 rfl rfl rfl ?_
    refine a_getq rfl gfX0_9_0 rfl (rfl) ?_
    refine a_l3 rfl rfl rfl ?_
    refine a_l1 rfl rfl rfl ?_
    refine a_l3 rfl rfl rfl ?_
    refine a_gV rfl lX0_28 mo_X5_placeOf (q_X5_placeOf_235) rfl rfl rfl ⟨5, _, rfl, rfl, rfl⟩ rfl (fun v' h' hv => ?_)
    obtain ⟨⟨v3, rfl⟩, rfl⟩ := hv
    refine a_eSN0 rfl lX0_32 mo_X11_setAt (sp_X11_setAt rfl) rfl rfl rfl rfl ?_
    refine a_ren (P := Fm sQ I) (Fm.tr (fh7) (Fm.st (Fm.rf (s := sQ)) (fun _ => rfl))) (fun I4 f5 => ?_)
    refine a_i3 rfl rfl rfl ?_
    refine a_goto rfl ?_
    exact ih7 _ _ _ _ c12 ⟨_, rfl, rfl, f5⟩ ⟨rfl, rfl, rfl, nS _, trivial⟩
theorem q_X11_most_200 {S : aS} {I : Nat → Nat → Int32} {L : Nat → Nat → Int64} {w1 w2 t : Nat} {nd : Nat} (hd : I 235 3 = nI nd) (hn : nd ≤ 12) : Sp S m_X11_most 19 0 0 [.ref 200] (hp I L w1 w2 t) (QR (Fm sQ I) isI L w1 w2 t) nX := by
  refine Sp_of ok_X11_most rfl rfl ?_
  show AW S m_X11_most 19 _ _ 0 0 0 [some (.ref 200)] [] (hp I L w1 w2 t)
  refine a_l0 rfl rfl rfl ?_
  refine a_getq rfl gfX11_51_11 rfl (rfl) ?_
  refine a_l0 rfl rfl rfl ?_
  refine a_getq rfl gfX11_37_11 rfl (rfl) ?_
  refine a_gV rfl lX11_275 mo_X0_mostCalled (q_X0_mostCalled_254_235 hd hn) rfl rfl rfl ⟨0, _, rfl, rfl, rfl⟩ rfl (fun v' h' hv => ?_)
  obtain ⟨⟨v1, rfl⟩, I2, rfl, f3⟩ := hv
  exact a_iret rfl rfl ⟨⟨_, rfl⟩, _, rfl, f3⟩
theorem q_X0_power {S : aS} {I : Nat → Nat → Int32} {L : Nat → Nat → Int64} {w1 w2 t : Nat} {x0 x1 : Int32} : Sp S m_X0_power 12 0 0 [.int x0, .int x1] (hp I L w1 w2 t) (QE isL (hp I L w1 w2 t)) nX := by
  refine Sp_of ok_X0_power rfl rfl ?_
  show AW S m_X0_power 12 _ _ 0 0 0 [some (.int x0), some (.int x1), none, none, none] [] (hp I L w1 w2 t)
  refine a_s rfl rfl ?_
  refine a_sL2 rfl rfl rfl rfl ?_
  refine a_s rfl rfl ?_
  refine a_s4 rfl rfl rfl rfl rfl rfl ?_
  refine a_cnt (j0 := 0) (fun j ls h => ∃ a0L, ls = [some (.int x0), some (.int x1), some (.long a0L), none, some (.int (nI j))] ∧ h = hp I L w1 w2 t) (by decide) ⟨_, rfl, rfl⟩ ⟨rfl, rfl, rfl, rfl, trivial⟩ ?_
  rintro j5 _ _ hj5 ⟨a0L_5, rfl, rfl⟩ ih5
  refine a_l4 rfl rfl rfl ?_
  refine a_l1 rfl rfl rfl ?_
  refine a_ic_ge rfl (fun c8 => ?_) (fun c8 => ?_)
  · refine a_l2 rfl rfl rfl ?_
    exact a_lret rfl rfl ⟨⟨_, rfl⟩, rfl⟩
  · refine a_l2 rfl rfl rfl ?_
    refine a_l0 rfl rfl rfl ?_
    refine a_s rfl rfl ?_
    refine a_s rfl rfl ?_
    refine a_sL2 rfl rfl rfl rfl ?_
    refine a_i4 rfl rfl rfl ?_
    refine a_goto rfl ?_
    exact ih5 _ _ _ _ c8 ⟨_, rfl, rfl⟩ ⟨rfl, rfl, rfl, nS _, trivial⟩
theorem q_X0_oddsOf {S : aS} {I : Nat → Nat → Int32} {L : Nat → Nat → Int64} {w1 w2 t : Nat} {x0 x2 : Int32} {m1 : Nat} (hm1 : m1 ≤ 6) : Sp S m_X0_oddsOf 13 0 0 [.int x0, .int (nI m1), .int x2] (hp I L w1 w2 t) (QE isI (hp I L w1 w2 t)) nX := by
  refine Sp_of ok_X0_oddsOf rfl rfl ?_
  show AW S m_X0_oddsOf 13 _ _ 0 0 0 [some (.int x0), some (.int (nI m1)), some (.int x2), none, none, none, none, none, none, none] [] (hp I L w1 w2 t)
  refine a_s rfl rfl ?_
  refine a_sL3 rfl rfl rfl rfl ?_
  refine a_s rfl rfl ?_
  refine a_l1 rfl rfl rfl ?_
  refine a_gS rfl lX0_109 mo_X0_power (q_X0_power) rfl rfl rfl rfl (fun v' h' hv => ?_)
  obtain ⟨⟨v1, rfl⟩, rfl⟩ := hv
  refine a_sL5 rfl rfl rfl rfl ?_
  refine a_s rfl rfl ?_
  refine a_sL7 rfl rfl rfl rfl ?_
  refine a_s rfl rfl ?_
  refine a_s9 rfl rfl rfl rfl rfl rfl ?_
  refine a_cnt (j0 := 0) (fun j ls h => ∃ a0L, ∃ a1L, ∃ a2L, ls = [some (.int x0), some (.int (nI m1)), some (.int x2), some (.long a0L), none, some (.long a1L), none, some (.long a2L), none, some (.int (nI j))] ∧ h = hp I L w1 w2 t) (by decide) ⟨_, _, _, rfl, rfl⟩ ⟨rfl, rfl, rfl, rfl, rfl, rfl, rfl, trivial⟩ ?_
  rintro j16 _ _ hj16 ⟨a0L_16, a1L_16, a2L_16, rfl, rfl⟩ ih16
  refine a_l9 rfl rfl rfl ?_
  refine a_l1 rfl rfl rfl ?_
  refine a_ic_gt rfl (fun c19 => ?_) (fun c19 => ?_)
  · refine a_l5 rfl rfl rfl ?_
    refine a_s rfl rfl ?_
    refine a_s rfl rfl ?_
    refine a_if_le rfl (fun c78 => ?_) (fun c78 => ?_)
    · refine a_s rfl rfl ?_
      exact a_iret rfl rfl ⟨⟨_, rfl⟩, rfl⟩
    · refine a_l3 rfl rfl rfl ?_
      refine a_ldc2 rfl kX0_113 ?_
      refine a_s rfl rfl ?_
      refine a_l5 rfl rfl rfl ?_
      refine a_ldiv rfl (fun z => c78 (by rw [z]; decide)) ?_
      refine a_s rfl rfl ?_
      refine a_goto rfl ?_
      exact a_iret rfl rfl ⟨⟨_, rfl⟩, rfl⟩
  · refine a_l9 rfl rfl rfl ?_
    refine a_l2 rfl rfl rfl ?_
    refine a_ic_lt rfl (fun c25 => ?_) (fun c25 => ?_)
    · refine a_l7 rfl rfl rfl ?_
      refine a_l1 rfl rfl rfl ?_
      refine a_l9 rfl rfl rfl ?_
      refine a_s rfl rfl ?_
      refine a_s rfl rfl ?_
      refine a_s rfl rfl ?_
      refine a_l9 rfl rfl rfl ?_
      refine a_s rfl rfl ?_
      refine a_s rfl rfl ?_
      refine a_s rfl rfl ?_
      refine a_ldiv rfl (odd_nz hm1 hj16 c19) ?_
      refine a_sL7 rfl rfl rfl rfl ?_
      refine a_i9 rfl rfl rfl ?_
      refine a_goto rfl ?_
      exact ih16 _ _ _ _ (nI_gt1 (a := m1) (by omega) hj16 c19) ⟨_, _, _, rfl, rfl⟩ ⟨rfl, rfl, rfl, rfl, rfl, rfl, nS _, trivial⟩
    · refine a_l3 rfl rfl rfl ?_
      refine a_l7 rfl rfl rfl ?_
      refine a_l0 rfl rfl rfl ?_
      refine a_l9 rfl rfl rfl ?_
      refine a_gS rfl lX0_109 mo_X0_power (q_X0_power) rfl rfl rfl rfl (fun v' h' hv => ?_)
      obtain ⟨⟨v2, rfl⟩, rfl⟩ := hv
      refine a_s rfl rfl ?_
      refine a_s rfl rfl ?_
      refine a_l0 rfl rfl rfl ?_
      refine a_s rfl rfl ?_
      refine a_l1 rfl rfl rfl ?_
      refine a_l9 rfl rfl rfl ?_
      refine a_s rfl rfl ?_
      refine a_gS rfl lX0_109 mo_X0_power (q_X0_power) rfl rfl rfl rfl (fun v' h' hv => ?_)
      obtain ⟨⟨v3, rfl⟩, rfl⟩ := hv
      refine a_s rfl rfl ?_
      refine a_s rfl rfl ?_
      refine a_sL3 rfl rfl rfl rfl ?_
      refine a_l7 rfl rfl rfl ?_
      refine a_l1 rfl rfl rfl ?_
      refine a_l9 rfl rfl rfl ?_
      refine a_s rfl rfl ?_
      refine a_s rfl rfl ?_
      refine a_s rfl rfl ?_
      refine a_l9 rfl rfl rfl ?_
      refine a_s rfl rfl ?_
      refine a_s rfl rfl ?_
      refine a_s rfl rfl ?_
      refine a_ldiv rfl (odd_nz hm1 hj16 c19) ?_
      refine a_sL7 rfl rfl rfl rfl ?_
      refine a_i9 rfl rfl rfl ?_
      refine a_goto rfl ?_
      exact ih16 _ _ _ _ (nI_gt1 (a := m1) (by omega) hj16 c19) ⟨_, _, _, rfl, rfl⟩ ⟨rfl, rfl, rfl, rfl, rfl, rfl, nS _, trivial⟩
theorem q_X11_odds_200 {S : aS} {I : Nat → Nat → Int32} {L : Nat → Nat → Int64} {w1 w2 t : Nat} {x1 x2 : Int32} : Sp S m_X11_odds 14 2 12 [.ref 200, .int x1, .int x2] (hp I L w1 w2 t) (QE isI (hp I L w1 w2 t)) (XR (Fm sQ I) L w1 w2 [1]) := by
  refine Sp_of ok_X11_odds rfl rfl ?_
  show AW S m_X11_odds 14 _ _ 2 12 0 [some (.ref 200), some (.int x1), some (.int x2)] [] (hp I L w1 w2 t)
  refine a_l1 rfl rfl rfl ?_
  refine a_s rfl rfl ?_
  refine a_s rfl rfl ?_
  refine a_callS rfl lX11_250 mo_X11_needNumber q_needNumber rfl rfl rfl rfl (fun v' h' hv => ?_) (fun E h' hx => XR.cm hx (by decide) (fun _ z => z))
  obtain ⟨rfl, rfl, hbm1⟩ := hv
  obtain ⟨m1, hm1a, hm1b, rfl⟩ := inB_nI (a := 0) (b := 6) (by decide) hbm1
  refine a_l2 rfl rfl rfl ?_
  refine a_s rfl rfl ?_
  refine a_s rfl rfl ?_
  refine a_callS rfl lX11_250 mo_X11_needNumber q_needNumber rfl rfl rfl rfl (fun v' h' hv => ?_) (fun E h' hx => XR.cm hx (by decide) (fun _ z => z))
  obtain ⟨rfl, rfl, hbm2⟩ := hv
  obtain ⟨m2, hm2a, hm2b, rfl⟩ := inB_nI (a := 0) (b := 6) (by decide) hbm2
  refine a_l0 rfl rfl rfl ?_
  refine a_getq rfl gfX11_37_11 rfl (rfl) ?_
  refine a_geti rfl gfX11_191_5 rfl ?_
  refine a_l1 rfl rfl rfl ?_
  refine a_l2 rfl rfl rfl ?_
  refine a_gS rfl lX11_335 mo_X0_oddsOf (q_X0_oddsOf (m1 := m1) (by omega)) rfl rfl rfl rfl (fun v' h' hv => ?_)
  obtain ⟨⟨v3, rfl⟩, rfl⟩ := hv
  exact a_iret rfl rfl ⟨⟨_, rfl⟩, rfl⟩
theorem q_X0_daysToLeaveFree {S : aS} {I : Nat → Nat → Int32} {L : Nat → Nat → Int64} {w1 w2 t : Nat} {x0 x1 x2 : Int32} : Sp S m_X0_daysToLeaveFree 14 0 0 [.int x0, .int x1, .int x2] (hp I L w1 w2 t) (QE isI (hp I L w1 w2 t)) nX := by
  refine Sp_of ok_X0_daysToLeaveFree rfl rfl ?_
  show AW S m_X0_daysToLeaveFree 14 _ _ 0 0 0 [some (.int x0), some (.int x1), some (.int x2), none, none] [] (hp I L w1 w2 t)
  refine a_l2 rfl rfl rfl ?_
  refine a_l1 rfl rfl rfl ?_
  refine a_eSN1 rfl lX0_97 mo_X11_needsOf (sp_X11_needsOf) rfl rfl rfl rfl ?_
  refine a_s3 rfl rfl rfl rfl rfl rfl ?_
  refine a_s rfl rfl ?_
  refine a_s4 rfl rfl rfl rfl rfl rfl ?_
  refine a_cnt (j0 := 1) (fun j ls h => ∃ a0, ls = [some (.int x0), some (.int x1), some (.int x2), some (.int a0), some (.int (nI j))] ∧ h = hp I L w1 w2 t) (by decide) ⟨_, rfl, rfl⟩ ⟨rfl, rfl, rfl, rfl, rfl, trivial⟩ ?_
  rintro j9 _ _ hj9 ⟨a0_9, rfl, rfl⟩ ih9
  refine a_l4 rfl rfl rfl ?_
  refine a_s rfl rfl ?_
  refine a_ic_gt rfl (fun c13 => ?_) (fun c13 => ?_)
  · refine a_s rfl rfl ?_
    exact a_iret rfl rfl ⟨⟨_, rfl⟩, rfl⟩
  · refine a_l0 rfl rfl rfl ?_
    refine a_l4 rfl rfl rfl ?_
    refine a_l3 rfl rfl rfl ?_
    refine a_gS rfl lX0_115 mo_X0_oddsOf (q_X0_oddsOf (m1 := j9) (by have := nI_le_of (a := j9) (b := 6) c13 hj9 (by decide); omega)) rfl rfl rfl rfl (fun v' h' hv => ?_)
    obtain ⟨⟨v1, rfl⟩, rfl⟩ := hv
    refine a_s rfl rfl ?_
    refine a_ic_lt rfl (fun c26 => ?_) (fun c26 => ?_)
    · refine a_i4 rfl rfl rfl ?_
      refine a_goto rfl ?_
      exact ih9 _ _ _ _ (nI_gt1 (a := 6) (by decide) hj9 c13) ⟨_, rfl, rfl⟩ ⟨rfl, rfl, rfl, rfl, nS _, trivial⟩
    · refine a_l4 rfl rfl rfl ?_
      exact a_iret rfl rfl ⟨⟨_, rfl⟩, rfl⟩
theorem q_X11_spare_200 {S : aS} {I : Nat → Nat → Int32} {L : Nat → Nat → Int64} {w1 w2 t : Nat} {x1 x2 : Int32} : Sp S m_X11_spare 15 2 12 [.ref 200, .int x1, .int x2] (hp I L w1 w2 t) (QE isI (hp I L w1 w2 t)) (XR (Fm sQ I) L w1 w2 [0, 1]) := by
  refine Sp_of ok_X11_spare rfl rfl ?_
  show AW S m_X11_spare 15 _ _ 2 12 0 [some (.ref 200), some (.int x1), some (.int x2)] [] (hp I L w1 w2 t)
  refine a_l0 rfl rfl rfl ?_
  refine a_l1 rfl rfl rfl ?_
  refine a_callV rfl lX11_110 mo_X11_needPerson (q_X11_needPerson_200) rfl rfl rfl ⟨11, _, rfl, rfl, rfl⟩ rfl (fun v' h' hv => ?_) (fun E h' hx => XR.cm hx (by decide) (fun _ z => z))
  obtain ⟨rfl, rfl⟩ := hv
  refine a_l2 rfl rfl rfl ?_
  refine a_s rfl rfl ?_
  refine a_s rfl rfl ?_
  refine a_callS rfl lX11_250 mo_X11_needNumber q_needNumber rfl rfl rfl rfl (fun v' h' hv => ?_) (fun E h' hx => XR.cm hx (by decide) (fun _ z => z))
  obtain ⟨rfl, rfl, hbm2⟩ := hv
  obtain ⟨m2, hm2a, hm2b, rfl⟩ := inB_nI (a := 1) (b := 54) (by decide) hbm2
  refine a_s rfl rfl ?_
  refine a_l0 rfl rfl rfl ?_
  refine a_getq rfl gfX11_37_11 rfl (rfl) ?_
  refine a_geti rfl gfX11_191_5 rfl ?_
  refine a_s rfl rfl ?_
  refine a_l0 rfl rfl rfl ?_
  refine a_getq rfl gfX11_37_11 rfl (rfl) ?_
  refine a_getq rfl gfX11_121_5 rfl (rfl) ?_
  refine a_l1 rfl rfl rfl ?_
  refine a_eS1 rfl lX11_117 mo_X11_at (sp_X11_at rfl) rfl rfl rfl rfl ?_
  refine a_l2 rfl rfl rfl ?_
  refine a_gS rfl lX11_339 mo_X0_daysToLeaveFree (q_X0_daysToLeaveFree) rfl rfl rfl rfl (fun v' h' hv => ?_)
  obtain ⟨⟨v3, rfl⟩, rfl⟩ := hv
  exact a_iret rfl rfl ⟨⟨_, rfl⟩, rfl⟩
theorem q_X11_takeWhoFits_200 {S : aS} {I : Nat → Nat → Int32} {L : Nat → Nat → Int64} {w1 w2 t : Nat} : Sp S m_X11_takeWhoFits 15 0 0 [.ref 200] (hp I L w1 w2 t) (QE isI (hp (up2 I 201 1 0) L w1 w2 t)) nX := by
  refine Sp_of ok_X11_takeWhoFits rfl rfl ?_
  show AW S m_X11_takeWhoFits 15 _ _ 0 0 0 [some (.ref 200), none] [] (hp I L w1 w2 t)
  refine a_l0 rfl rfl rfl ?_
  refine a_gV rfl lX11_389 mo_X11_whoFits (q_X11_whoFits_200) rfl rfl rfl ⟨11, _, rfl, rfl, rfl⟩ rfl (fun v' h' hv => ?_)
  obtain ⟨⟨v1, rfl⟩, rfl⟩ := hv
  refine a_s1 rfl rfl rfl rfl rfl rfl ?_
  refine a_l0 rfl rfl rfl ?_
  refine a_getq rfl gfX11_10_11 rfl (rfl) ?_
  refine a_s rfl rfl ?_
  refine a_puti rfl pfX11_68_7 rfl ?_
  refine a_l1 rfl rfl rfl ?_
  exact a_iret rfl rfl ⟨⟨_, rfl⟩, rfl⟩
theorem q_X11_whose_200 {S : aS} {I : Nat → Nat → Int32} {L : Nat → Nat → Int64} {w1 w2 t : Nat} : Sp S m_X11_whose 16 1 6 [.ref 200] (hp I L w1 w2 t) (QE isI (hp (up2 I 201 1 0) L w1 w2 t)) (XH [1] (hp (up2 I 201 1 0) L w1 w2 0)) := by
  refine Sp_of ok_X11_whose rfl rfl ?_
  show AW S m_X11_whose 16 _ _ 1 6 0 [some (.ref 200), none] [] (hp I L w1 w2 t)
  refine a_l0 rfl rfl rfl ?_
  refine a_gV rfl lX11_310 mo_X11_takeWhoFits (q_X11_takeWhoFits_200) rfl rfl rfl ⟨11, _, rfl, rfl, rfl⟩ rfl (fun v' h' hv => ?_)
  obtain ⟨⟨v1, rfl⟩, rfl⟩ := hv
  refine a_s1 rfl rfl rfl rfl rfl rfl ?_
  refine a_l1 rfl rfl rfl ?_
  refine a_s rfl rfl ?_
  refine a_ic_ne rfl (fun c7 => ?_) (fun c7 => ?_)
  · refine a_l1 rfl rfl rfl ?_
    exact a_iret rfl rfl ⟨⟨_, rfl⟩, rfl⟩
  · exact a_throw rfl rfl rfl rfl tX11_iae rfl rfl rfl rfl rfl ⟨⟨1, by decide, rfl⟩, rfl⟩
theorem q_X11_ask_200 {S : aS} {I : Nat → Nat → Int32} {L : Nat → Nat → Int64} {w1 w2 t : Nat} : Sp S m_X11_ask 16 1 6 [.ref 200] (hp I L w1 w2 t) (QE isI (hp (up2 I 201 1 0) L w1 w2 t)) (XH [1] (hp (up2 I 201 1 0) L w1 w2 0)) := by
  refine Sp_of ok_X11_ask rfl rfl ?_
  show AW S m_X11_ask 16 _ _ 1 6 0 [some (.ref 200), none] [] (hp I L w1 w2 t)
  refine a_l0 rfl rfl rfl ?_
  refine a_gV rfl lX11_310 mo_X11_takeWhoFits (q_X11_takeWhoFits_200) rfl rfl rfl ⟨11, _, rfl, rfl, rfl⟩ rfl (fun v' h' hv => ?_)
  obtain ⟨⟨v1, rfl⟩, rfl⟩ := hv
  refine a_s1 rfl rfl rfl rfl rfl rfl ?_
  refine a_l1 rfl rfl rfl ?_
  refine a_s rfl rfl ?_
  refine a_ic_ne rfl (fun c7 => ?_) (fun c7 => ?_)
  · refine a_l0 rfl rfl rfl ?_
    refine a_l1 rfl rfl rfl ?_
    refine a_gV rfl lX11_313 mo_X11_kerbToAskFor (q_X11_kerbToAskFor_200) rfl rfl rfl ⟨11, _, rfl, rfl, rfl⟩ rfl (fun v' h' hv => ?_)
    obtain ⟨⟨v2, rfl⟩, rfl⟩ := hv
    exact a_iret rfl rfl ⟨⟨_, rfl⟩, rfl⟩
  · exact a_throw rfl rfl rfl rfl tX11_iae rfl rfl rfl rfl rfl ⟨⟨1, by decide, rfl⟩, rfl⟩
theorem q_X11_seed_200_sN {S : aS} {I : Nat → Nat → Int32} {L : Nat → Nat → Int64} {w1 w2 t : Nat} {x1 : Int32} : Sp S m_X11_seed 12 0 0 [.ref 200, .int x1] (hp I L w1 w2 t) (QR (Fm sN I) isI L w1 w2 t) nX := by
  refine Sp_of ok_X11_seed rfl rfl ?_
  show AW S m_X11_seed 12 _ _ 0 0 0 [some (.ref 200), some (.int x1), none] [] (hp I L w1 w2 t)
  refine a_l0 rfl rfl rfl ?_
  refine a_getq rfl gfX11_37_11 rfl (rfl) ?_
  refine a_geti rfl gfX11_353_5 rfl ?_
  refine a_s2 rfl rfl rfl rfl rfl rfl ?_
  refine a_l0 rfl rfl rfl ?_
  refine a_getq rfl gfX11_37_11 rfl (rfl) ?_
  refine a_l1 rfl rfl rfl ?_
  refine a_puti rfl pfX11_353_5 rfl ?_
  refine a_ren (P := Fm sN I) (Fm.up (Fm.rf (s := sN)) rfl) (fun I1 f2 => ?_)
  refine a_l2 rfl rfl rfl ?_
  exact a_iret rfl rfl ⟨⟨_, rfl⟩, _, rfl, f2⟩
theorem q_X1_add_244_sN {S : aS} {I : Nat → Nat → Int32} {L : Nat → Nat → Int64} {w1 w2 t : Nat} {x1 x2 x3 x4 : Int32} : Sp S m_X1_add 13 0 0 [.ref 244, .int x1, .int x2, .int x3, .int x4] (hp I L w1 w2 t) (QR (Fm sN I) isV L w1 w2 t) nX := by
  refine Sp_of ok_X1_add rfl rfl ?_
  show AW S m_X1_add 13 _ _ 0 0 0 [some (.ref 244), some (.int x1), some (.int x2), some (.int x3), some (.int x4), none] [] (hp I L w1 w2 t)
  refine a_l0 rfl rfl rfl ?_
  refine a_geti rfl gfX1_19_1 rfl ?_
  refine a_s rfl rfl ?_
  refine a_s rfl rfl ?_
  refine a_s5 rfl rfl rfl rfl rfl rfl ?_
  refine a_l0 rfl rfl rfl ?_
  refine a_getq rfl gfX1_11_1 rfl (rfl) ?_
  refine a_l5 rfl rfl rfl ?_
  refine a_l1 rfl rfl rfl ?_
  refine a_eSN0 rfl lX1_26 mo_X11_setAt (sp_X11_setAt rfl) rfl rfl rfl rfl ?_
  refine a_ren (P := Fm sN I) (Fm.st (Fm.rf (s := sN)) (fun _ => rfl)) (fun I1 f2 => ?_)
  refine a_l0 rfl rfl rfl ?_
  refine a_getq rfl gfX1_11_1 rfl (rfl) ?_
  refine a_l5 rfl rfl rfl ?_
  refine a_s rfl rfl ?_
  refine a_s rfl rfl ?_
  refine a_l2 rfl rfl rfl ?_
  refine a_eSN0 rfl lX1_26 mo_X11_setAt (sp_X11_setAt rfl) rfl rfl rfl rfl ?_
  refine a_ren (P := Fm sN I) (Fm.tr (f2) (Fm.st (Fm.rf (s := sN)) (fun _ => rfl))) (fun I3 f4 => ?_)
  refine a_l0 rfl rfl rfl ?_
  refine a_getq rfl gfX1_11_1 rfl (rfl) ?_
  refine a_l5 rfl rfl rfl ?_
  refine a_s rfl rfl ?_
  refine a_s rfl rfl ?_
  refine a_l3 rfl rfl rfl ?_
  refine a_eSN0 rfl lX1_26 mo_X11_setAt (sp_X11_setAt rfl) rfl rfl rfl rfl ?_
  refine a_ren (P := Fm sN I) (Fm.tr (f4) (Fm.st (Fm.rf (s := sN)) (fun _ => rfl))) (fun I5 f6 => ?_)
  refine a_l0 rfl rfl rfl ?_
  refine a_getq rfl gfX1_11_1 rfl (rfl) ?_
  refine a_l5 rfl rfl rfl ?_
  refine a_s rfl rfl ?_
  refine a_s rfl rfl ?_
  refine a_l4 rfl rfl rfl ?_
  refine a_eSN0 rfl lX1_26 mo_X11_setAt (sp_X11_setAt rfl) rfl rfl rfl rfl ?_
  refine a_ren (P := Fm sN I) (Fm.tr (f6) (Fm.st (Fm.rf (s := sN)) (fun _ => rfl))) (fun I7 f8 => ?_)
  refine a_l0 rfl rfl rfl ?_
  refine a_l0 rfl rfl rfl ?_
  refine a_geti rfl gfX1_19_1 rfl ?_
  refine a_s rfl rfl ?_
  refine a_s rfl rfl ?_
  refine a_s rfl rfl ?_
  refine a_irem rfl (by decide) ?_
  refine a_puti rfl pfX1_19_1 rfl ?_
  refine a_ren (P := Fm sN I) (Fm.tr (f8) (Fm.up (Fm.rf (s := sN)) rfl)) (fun I9 f10 => ?_)
  refine a_l0 rfl rfl rfl ?_
  refine a_s rfl rfl ?_
  refine a_l0 rfl rfl rfl ?_
  refine a_geti rfl gfX1_15_1 rfl ?_
  refine a_s rfl rfl ?_
  refine a_s rfl rfl ?_
  refine a_min rfl lX1_30 mj_min rfl rfl ?_
  refine a_puti rfl pfX1_15_1 rfl ?_
  refine a_ren (P := Fm sN I) (Fm.tr (f10) (Fm.up (Fm.rf (s := sN)) rfl)) (fun I11 f12 => ?_)
  exact a_vret rfl rfl ⟨rfl, _, rfl, f12⟩
theorem q_X11_letParadeGoBy_200_sN {S : aS} {I : Nat → Nat → Int32} {L : Nat → Nat → Int64} {w1 w2 t : Nat} : Sp S m_X11_letParadeGoBy 16 0 0 [.ref 200] (hp I L w1 w2 t) (QR (Fm sN I) isV L w1 w2 t) nX := by
  refine Sp_of ok_X11_letParadeGoBy rfl rfl ?_
  show AW S m_X11_letParadeGoBy 16 _ _ 0 0 0 [some (.ref 200), none, none] [] (hp I L w1 w2 t)
  refine a_s rfl rfl ?_
  refine a_s1 rfl rfl rfl rfl rfl rfl ?_
  refine a_cnt (j0 := 0) (fun j ls h => ∃ I', ls = [some (.ref 200), some (.int (nI j)), none] ∧ h = hp I' L w1 w2 t ∧ Fm sN I I') (by decide) ⟨_, rfl, rfl, Fm.rf⟩ ⟨rfl, rfl, trivial⟩ ?_
  rintro j2 _ _ hj2 ⟨Ih2, rfl, rfl, fh2⟩ ih2
  refine a_l1 rfl rfl rfl ?_
  refine a_s rfl rfl ?_
  refine a_ic_ge rfl (fun c5 => ?_) (fun c5 => ?_)
  · exact a_vret rfl rfl ⟨rfl, _, rfl, fh2⟩
  · refine a_l0 rfl rfl rfl ?_
    refine a_getq rfl gfX11_37_11 rfl (rfl) ?_
    refine a_l1 rfl rfl rfl ?_
    refine a_gV rfl lX11_266 mo_X5_dutyAt (q_X5_dutyAt_235) rfl rfl rfl ⟨5, _, rfl, rfl, rfl⟩ rfl (fun v' h' hv => ?_)
    obtain ⟨⟨v1, rfl⟩, rfl⟩ := hv
    refine a_s2 rfl rfl rfl rfl rfl rfl ?_
    refine a_l2 rfl rfl rfl ?_
    refine a_s rfl rfl ?_
    refine a_ic_eq rfl (fun c19 => ?_) (fun c19 => ?_)
    · refine a_i1 rfl rfl rfl ?_
      refine a_goto rfl ?_
      exact ih2 _ _ _ _ c5 ⟨_, rfl, rfl, fh2⟩ ⟨rfl, nS _, trivial⟩
    · refine a_l0 rfl rfl rfl ?_
      refine a_getq rfl gfX11_37_11 rfl (rfl) ?_
      refine a_getq rfl gfX11_211_5 rfl (rfl) ?_
      refine a_l0 rfl rfl rfl ?_
      refine a_getq rfl gfX11_37_11 rfl (rfl) ?_
      refine a_geti rfl gfX11_188_5 rfl ?_
      refine a_l2 rfl rfl rfl ?_
      refine a_l1 rfl rfl rfl ?_
      refine a_l0 rfl rfl rfl ?_
      refine a_getq rfl gfX11_44_11 rfl (rfl) ?_
      refine a_l0 rfl rfl rfl ?_
      refine a_getq rfl gfX11_37_11 rfl (rfl) ?_
      refine a_l2 rfl rfl rfl ?_
      refine a_gV rfl lX11_170 mo_X2_shameOf (q_X2_shameOf_246_235) rfl rfl rfl ⟨2, _, rfl, rfl, rfl⟩ rfl (fun v' h' hv => ?_)
      obtain ⟨⟨v2, rfl⟩, I3, rfl, f4⟩ := hv
      replace f4 : Fm sN I I3 := Fm.tr (fh2) (Fm.mo (f4) sQ_sN)
      refine a_gV rfl lX11_385 mo_X1_add (q_X1_add_244_sN) rfl rfl rfl ⟨1, _, rfl, rfl, rfl⟩ rfl (fun v' h' hv => ?_)
      obtain ⟨rfl, I6, rfl, f7⟩ := hv
      replace f7 : Fm sN I I6 := Fm.tr (f4) (f7)
      refine a_i1 rfl rfl rfl ?_
      refine a_goto rfl ?_
      exact ih2 _ _ _ _ c5 ⟨_, rfl, rfl, f7⟩ ⟨rfl, nS _, trivial⟩
theorem q_X5_growOlder_235_sN {S : aS} {I : Nat → Nat → Int32} {L : Nat → Nat → Int64} {w1 w2 t : Nat} {x1 : Int32} : Sp S m_X5_growOlder 13 0 0 [.ref 235, .int x1] (hp I L w1 w2 t) (QR (Fm sN I) isV L w1 w2 t) nX := by
  refine Sp_of ok_X5_growOlder rfl rfl ?_
  show AW S m_X5_growOlder 13 _ _ 0 0 0 [some (.ref 235), some (.int x1)] [] (hp I L w1 w2 t)
  refine a_l0 rfl rfl rfl ?_
  refine a_getq rfl gfX5_24_5 rfl (rfl) ?_
  refine a_l1 rfl rfl rfl ?_
  refine a_s rfl rfl ?_
  refine a_l0 rfl rfl rfl ?_
  refine a_getq rfl gfX5_24_5 rfl (rfl) ?_
  refine a_l1 rfl rfl rfl ?_
  refine a_eSN1 rfl lX5_86 mo_X11_at (sp_X11_at rfl) rfl rfl rfl rfl ?_
  refine a_s rfl rfl ?_
  refine a_s rfl rfl ?_
  refine a_min rfl lX5_127 mj_min rfl rfl ?_
  refine a_eSN0 rfl lX5_82 mo_X11_setAt (sp_X11_setAt rfl) rfl rfl rfl rfl ?_
  refine a_ren (P := Fm sN I) (Fm.st (Fm.rf (s := sN)) (fun _ => rfl)) (fun I1 f2 => ?_)
  exact a_vret rfl rfl ⟨rfl, _, rfl, f2⟩
theorem q_X5_passMonth_235_246_sN {S : aS} {I : Nat → Nat → Int32} {L : Nat → Nat → Int64} {w1 w2 t : Nat} : Sp S m_X5_passMonth 16 0 0 [.ref 235, .ref 246] (hp I L w1 w2 t) (QR (Fm sN I) isV L w1 w2 t) nX := by
  refine Sp_of ok_X5_passMonth rfl rfl ?_
  show AW S m_X5_passMonth 16 _ _ 0 0 0 [some (.ref 235), some (.ref 246), none, none] [] (hp I L w1 w2 t)
  refine a_s rfl rfl ?_
  refine a_s2 rfl rfl rfl rfl rfl rfl ?_
  refine a_cnt (j0 := 0) (fun j ls h => ∃ I', ls = [some (.ref 235), some (.ref 246), some (.int (nI j)), none] ∧ h = hp I' L w1 w2 t ∧ Fm sN I I') (by decide) ⟨_, rfl, rfl, Fm.rf⟩ ⟨rfl, rfl, rfl, trivial⟩ ?_
  rintro j2 _ _ hj2 ⟨Ih2, rfl, rfl, fh2⟩ ih2
  refine a_l2 rfl rfl rfl ?_
  refine a_l0 rfl rfl rfl ?_
  refine a_geti rfl gfX5_63_5 rfl ?_
  refine a_ic_ge rfl (fun c7 => ?_) (fun c7 => ?_)
  · exact a_vret rfl rfl ⟨rfl, _, rfl, fh2⟩
  · refine a_l0 rfl rfl rfl ?_
    refine a_l2 rfl rfl rfl ?_
    refine a_gV rfl lX5_90 mo_X5_isWaiting (q_X5_isWaiting_235) rfl rfl rfl ⟨5, _, rfl, rfl, rfl⟩ rfl (fun v' h' hv => ?_)
    obtain ⟨⟨v1, rfl⟩, rfl⟩ := hv
    refine a_if_eq rfl (fun c15 => ?_) (fun c15 => ?_)
    · refine a_l0 rfl rfl rfl ?_
      refine a_getq rfl gfX5_33_5 rfl (rfl) ?_
      refine a_l2 rfl rfl rfl ?_
      refine a_eSN1 rfl lX5_86 mo_X11_at (sp_X11_at rfl) rfl rfl rfl rfl ?_
      refine a_s rfl rfl ?_
      refine a_ic_eq rfl (fun c57 => ?_) (fun c57 => ?_)
      · refine a_i2 rfl rfl rfl ?_
        refine a_goto rfl ?_
        exact ih2 _ _ _ _ c7 ⟨_, rfl, rfl, fh2⟩ ⟨rfl, rfl, nS _, trivial⟩
      · refine a_l0 rfl rfl rfl ?_
        refine a_l2 rfl rfl rfl ?_
        refine a_gV rfl lX5_163 mo_X5_growOlder (q_X5_growOlder_235_sN) rfl rfl rfl ⟨5, _, rfl, rfl, rfl⟩ rfl (fun v' h' hv => ?_)
        obtain ⟨rfl, I3, rfl, f4⟩ := hv
        replace f4 : Fm sN I I3 := Fm.tr (fh2) (f4)
        refine a_i2 rfl rfl rfl ?_
        refine a_goto rfl ?_
        exact ih2 _ _ _ _ c7 ⟨_, rfl, rfl, f4⟩ ⟨rfl, rfl, nS _, trivial⟩
    · refine a_l0 rfl rfl rfl ?_
      refine a_getq rfl gfX5_21_5 rfl (rfl) ?_
      refine a_l2 rfl rfl rfl ?_
      refine a_eSN1 rfl lX5_86 mo_X11_at (sp_X11_at rfl) rfl rfl rfl rfl ?_
      refine a_l1 rfl rfl rfl ?_
      refine a_l0 rfl rfl rfl ?_
      refine a_l2 rfl rfl rfl ?_
      refine a_gV rfl lX5_157 mo_X2_growthOf (q_X2_growthOf_246_235) rfl rfl rfl ⟨2, _, rfl, rfl, rfl⟩ rfl (fun v' h' hv => ?_)
      obtain ⟨⟨v5, rfl⟩, I6, rfl, f7⟩ := hv
      replace f7 : Fm sN I I6 := Fm.tr (fh2) (Fm.mo (f7) sQ_sN)
      refine a_s rfl rfl ?_
      refine a_s3 rfl rfl rfl rfl rfl rfl ?_
      refine a_l0 rfl rfl rfl ?_
      refine a_getq rfl gfX5_21_5 rfl (rfl) ?_
      refine a_l2 rfl rfl rfl ?_
      refine a_s rfl rfl ?_
      refine a_l3 rfl rfl rfl ?_
      refine a_min rfl lX5_127 mj_min rfl rfl ?_
      refine a_eSN0 rfl lX5_82 mo_X11_setAt (sp_X11_setAt rfl) rfl rfl rfl rfl ?_
      refine a_ren (P := Fm sN I) (Fm.tr (f7) (Fm.st (Fm.rf (s := sN)) (fun _ => rfl))) (fun I8 f9 => ?_)
      refine a_l0 rfl rfl rfl ?_
      refine a_getq rfl gfX5_33_5 rfl (rfl) ?_
      refine a_l2 rfl rfl rfl ?_
      refine a_eSN1 rfl lX5_86 mo_X11_at (sp_X11_at rfl) rfl rfl rfl rfl ?_
      refine a_s rfl rfl ?_
      refine a_ic_eq rfl (fun c57 => ?_) (fun c57 => ?_)
      · refine a_i2 rfl rfl rfl ?_
        refine a_goto rfl ?_
        exact ih2 _ _ _ _ c7 ⟨_, rfl, rfl, f9⟩ ⟨rfl, rfl, nS _, trivial⟩
      · refine a_l0 rfl rfl rfl ?_
        refine a_l2 rfl rfl rfl ?_
        refine a_gV rfl lX5_163 mo_X5_growOlder (q_X5_growOlder_235_sN) rfl rfl rfl ⟨5, _, rfl, rfl, rfl⟩ rfl (fun v' h' hv => ?_)
        obtain ⟨rfl, I11, rfl, f12⟩ := hv
        replace f12 : Fm sN I I11 := Fm.tr (f9) (f12)
        refine a_i2 rfl rfl rfl ?_
        refine a_goto rfl ?_
        exact ih2 _ _ _ _ c7 ⟨_, rfl, rfl, f12⟩ ⟨rfl, rfl, nS _, trivial⟩
theorem q_X5_finish_235_sN {S : aS} {I : Nat → Nat → Int32} {L : Nat → Nat → Int64} {w1 w2 t : Nat} {x1 : Int32} : Sp S m_X5_finish 13 0 0 [.ref 235, .int x1] (hp I L w1 w2 t) (QR (Fm sN I) isV L w1 w2 t) nX := by
  refine Sp_of ok_X5_finish rfl rfl ?_
  show AW S m_X5_finish 13 _ _ 0 0 0 [some (.ref 235), some (.int x1)] [] (hp I L w1 w2 t)
  refine a_l0 rfl rfl rfl ?_
  refine a_getq rfl gfX5_21_5 rfl (rfl) ?_
  refine a_l1 rfl rfl rfl ?_
  refine a_s rfl rfl ?_
  refine a_eSN0 rfl lX5_82 mo_X11_setAt (sp_X11_setAt rfl) rfl rfl rfl rfl ?_
  refine a_ren (P := Fm sN I) (Fm.st (Fm.rf (s := sN)) (fun _ => rfl)) (fun I1 f2 => ?_)
  refine a_l0 rfl rfl rfl ?_
  refine a_getq rfl gfX5_33_5 rfl (rfl) ?_
  refine a_l1 rfl rfl rfl ?_
  refine a_s rfl rfl ?_
  refine a_eSN0 rfl lX5_82 mo_X11_setAt (sp_X11_setAt rfl) rfl rfl rfl rfl ?_
  refine a_ren (P := Fm sN I) (Fm.tr (f2) (Fm.st (Fm.rf (s := sN)) (fun _ => rfl))) (fun I3 f4 => ?_)
  exact a_vret rfl rfl ⟨rfl, _, rfl, f4⟩
theorem q_X5_work_235_sN {S : aS} {I : Nat → Nat → Int32} {L : Nat → Nat → Int64} {w1 w2 t : Nat} {x1 x2 : Int32} : Sp S m_X5_work 15 0 0 [.ref 235, .int x1, .int x2] (hp I L w1 w2 t) (QR (Fm sN I) isI L w1 w2 t) nX := by
  refine Sp_of ok_X5_work rfl rfl ?_
  show AW S m_X5_work 15 _ _ 0 0 0 [some (.ref 235), some (.int x1), some (.int x2), none, none, none, none] [] (hp I L w1 w2 t)
  refine a_s rfl rfl ?_
  refine a_s3 rfl rfl rfl rfl rfl rfl ?_
  refine a_l0 rfl rfl rfl ?_
  refine a_getq rfl gfX5_15_5 rfl (rfl) ?_
  refine a_l1 rfl rfl rfl ?_
  refine a_eSN1 rfl lX5_86 mo_X11_at (sp_X11_at rfl) rfl rfl rfl rfl ?_
  refine a_s4 rfl rfl rfl rfl rfl rfl ?_
  refine a_s rfl rfl ?_
  refine a_s5 rfl rfl rfl rfl rfl rfl ?_
  refine a_cnt (j0 := 0) (fun j ls h => ∃ a0, ∃ a1, ∃ I', ls = [some (.ref 235), some (.int x1), some (.int x2), some (.int a0), some (.int a1), some (.int (nI j)), none] ∧ h = hp I' L w1 w2 t ∧ Fm sN I I') (by decide) ⟨_, _, _, rfl, rfl, Fm.rf⟩ ⟨rfl, rfl, rfl, rfl, rfl, rfl, trivial⟩ ?_
  rintro j15 _ _ hj15 ⟨a0_15, a1_15, Ih15, rfl, rfl, fh15⟩ ih15
  refine a_l5 rfl rfl rfl ?_
  refine a_l0 rfl rfl rfl ?_
  refine a_geti rfl gfX5_63_5 rfl ?_
  refine a_ic_ge rfl (fun c21 => ?_) (fun c21 => ?_)
  · refine a_l3 rfl rfl rfl ?_
    exact a_iret rfl rfl ⟨⟨_, rfl⟩, _, rfl, fh15⟩
  · refine a_l4 rfl rfl rfl ?_
    refine a_if_le rfl (fun c26 => ?_) (fun c26 => ?_)
    · refine a_l3 rfl rfl rfl ?_
      exact a_iret rfl rfl ⟨⟨_, rfl⟩, _, rfl, fh15⟩
    · refine a_l0 rfl rfl rfl ?_
      refine a_getq rfl gfX5_18_5 rfl (rfl) ?_
      refine a_l5 rfl rfl rfl ?_
      refine a_eSN1 rfl lX5_86 mo_X11_at (sp_X11_at rfl) rfl rfl rfl rfl ?_
      refine a_l1 rfl rfl rfl ?_
      refine a_ic_ne rfl (fun c39 => ?_) (fun c39 => ?_)
      · refine a_i5 rfl rfl rfl ?_
        refine a_goto rfl ?_
        exact ih15 _ _ _ _ c21 ⟨_, _, _, rfl, rfl, fh15⟩ ⟨rfl, rfl, rfl, rfl, rfl, nS _, trivial⟩
      · refine a_l0 rfl rfl rfl ?_
        refine a_l5 rfl rfl rfl ?_
        refine a_gV rfl lX5_101 mo_X5_isReady (q_X5_isReady_235) rfl rfl rfl ⟨5, _, rfl, rfl, rfl⟩ rfl (fun v' h' hv => ?_)
        obtain ⟨⟨v1, rfl⟩, rfl⟩ := hv
        refine a_if_eq rfl (fun c48 => ?_) (fun c48 => ?_)
        · refine a_i5 rfl rfl rfl ?_
          refine a_goto rfl ?_
          exact ih15 _ _ _ _ c21 ⟨_, _, _, rfl, rfl, fh15⟩ ⟨rfl, rfl, rfl, rfl, rfl, nS _, trivial⟩
        · refine a_l2 rfl rfl rfl ?_
          refine a_l0 rfl rfl rfl ?_
          refine a_getq rfl gfX5_27_5 rfl (rfl) ?_
          refine a_l5 rfl rfl rfl ?_
          refine a_eSN1 rfl lX5_86 mo_X11_at (sp_X11_at rfl) rfl rfl rfl rfl ?_
          refine a_eSN1 rfl lX5_149 mo_X11_has (sp_X11_has) rfl rfl rfl rfl ?_
          refine a_if_ne rfl (fun c64 => ?_) (fun c64 => ?_)
          · refine a_i5 rfl rfl rfl ?_
            refine a_goto rfl ?_
            exact ih15 _ _ _ _ c21 ⟨_, _, _, rfl, rfl, fh15⟩ ⟨rfl, rfl, rfl, rfl, rfl, nS _, trivial⟩
          · refine a_l4 rfl rfl rfl ?_
            refine a_l0 rfl rfl rfl ?_
            refine a_getq rfl gfX5_21_5 rfl (rfl) ?_
            refine a_l5 rfl rfl rfl ?_
            refine a_eSN1 rfl lX5_86 mo_X11_at (sp_X11_at rfl) rfl rfl rfl rfl ?_
            refine a_min rfl lX5_127 mj_min rfl rfl ?_
            refine a_s6 rfl rfl rfl rfl rfl rfl ?_
            refine a_l4 rfl rfl rfl ?_
            refine a_l6 rfl rfl rfl ?_
            refine a_s rfl rfl ?_
            refine a_s4 rfl rfl rfl rfl rfl rfl ?_
            refine a_l3 rfl rfl rfl ?_
            refine a_l0 rfl rfl rfl ?_
            refine a_getq rfl gfX5_27_5 rfl (rfl) ?_
            refine a_l5 rfl rfl rfl ?_
            refine a_eSN1 rfl lX5_86 mo_X11_at (sp_X11_at rfl) rfl rfl rfl rfl ?_
            refine a_eSN1 rfl lX5_97 mo_X11_bit (sp_X11_bit) rfl rfl rfl rfl ?_
            refine a_s rfl rfl ?_
            refine a_s3 rfl rfl rfl rfl rfl rfl ?_
            refine a_l0 rfl rfl rfl ?_
            refine a_getq rfl gfX5_21_5 rfl (rfl) ?_
            refine a_l5 rfl rfl rfl ?_
            refine a_l0 rfl rfl rfl ?_
            refine a_getq rfl gfX5_21_5 rfl (rfl) ?_
            refine a_l5 rfl rfl rfl ?_
            refine a_eSN1 rfl lX5_86 mo_X11_at (sp_X11_at rfl) rfl rfl rfl rfl ?_
            refine a_l6 rfl rfl rfl ?_
            refine a_s rfl rfl ?_
            refine a_eSN0 rfl lX5_82 mo_X11_setAt (sp_X11_setAt rfl) rfl rfl rfl rfl ?_
            refine a_ren (P := Fm sN I) (Fm.tr (fh15) (Fm.st (Fm.rf (s := sN)) (fun _ => rfl))) (fun I2 f3 => ?_)
            refine a_l0 rfl rfl rfl ?_
            refine a_getq rfl gfX5_21_5 rfl (rfl) ?_
            refine a_l5 rfl rfl rfl ?_
            refine a_eSN1 rfl lX5_86 mo_X11_at (sp_X11_at rfl) rfl rfl rfl rfl ?_
            refine a_if_ne rfl (fun c135 => ?_) (fun c135 => ?_)
            · refine a_i5 rfl rfl rfl ?_
              refine a_goto rfl ?_
              exact ih15 _ _ _ _ c21 ⟨_, _, _, rfl, rfl, f3⟩ ⟨rfl, rfl, rfl, rfl, rfl, nS _, trivial⟩
            · refine a_l0 rfl rfl rfl ?_
              refine a_l5 rfl rfl rfl ?_
              refine a_gV rfl lX5_153 mo_X5_finish (q_X5_finish_235_sN) rfl rfl rfl ⟨5, _, rfl, rfl, rfl⟩ rfl (fun v' h' hv => ?_)
              obtain ⟨rfl, I5, rfl, f6⟩ := hv
              replace f6 : Fm sN I I5 := Fm.tr (f3) (f6)
              refine a_i5 rfl rfl rfl ?_
              refine a_goto rfl ?_
              exact ih15 _ _ _ _ c21 ⟨_, _, _, rfl, rfl, f6⟩ ⟨rfl, rfl, rfl, rfl, rfl, nS _, trivial⟩
theorem q_X5_passDay_235_246_sN {S : aS} {I : Nat → Nat → Int32} {L : Nat → Nat → Int64} {w1 w2 t : Nat} {b2 : Bool} : Sp S m_X5_passDay 17 0 0 [.ref 235, .ref 246, .int (bI b2)] (hp I L w1 w2 t) (QR (Fm sN I) isV L w1 w2 t) nX := by
  refine Sp_of ok_X5_passDay rfl rfl ?_
  show AW S m_X5_passDay 17 _ _ 0 0 0 [some (.ref 235), some (.ref 246), some (.int (bI b2)), none, none, none] [] (hp I L w1 w2 t)
  refine a_s rfl rfl ?_
  refine a_s3 rfl rfl rfl rfl rfl rfl ?_
  refine a_s rfl rfl ?_
  refine a_s4 rfl rfl rfl rfl rfl rfl ?_
  refine a_cnt (j0 := 0) (fun j ls h => ∃ a0, ∃ I', ls = [some (.ref 235), some (.ref 246), some (.int (bI b2)), some (.int a0), some (.int (nI j)), none] ∧ h = hp I' L w1 w2 t ∧ Fm sN I I') (by decide) ⟨_, _, rfl, rfl, Fm.rf⟩ ⟨rfl, rfl, rfl, rfl, rfl, trivial⟩ ?_
  rintro j5 _ _ hj5 ⟨a0_5, Ih5, rfl, rfl, fh5⟩ ih5
  refine a_l4 rfl rfl rfl ?_
  refine a_l0 rfl rfl rfl ?_
  refine a_geti rfl gfX5_56_5 rfl ?_
  refine a_ic_ge rfl (fun c11 => ?_) (fun c11 => ?_)
  · refine a_l0 rfl rfl rfl ?_
    refine a_s rfl rfl ?_
    refine a_geti rfl gfX5_36_5 rfl ?_
    refine a_s rfl rfl ?_
    refine a_s rfl rfl ?_
    refine a_puti rfl pfX5_36_5 rfl ?_
    refine a_ren (P := Fm sN I) (Fm.tr (fh5) (Fm.up (Fm.rf (s := sN)) rfl)) (fun I1 f2 => ?_)
    refine a_l0 rfl rfl rfl ?_
    refine a_geti rfl gfX5_36_5 rfl ?_
    refine a_s rfl rfl ?_
    refine a_ic_le rfl (fun c76 => ?_) (fun c76 => ?_)
    · exact a_vret rfl rfl ⟨rfl, _, rfl, f2⟩
    · refine a_l0 rfl rfl rfl ?_
      refine a_s rfl rfl ?_
      refine a_puti rfl pfX5_36_5 rfl ?_
      refine a_ren (P := Fm sN I) (Fm.tr (f2) (Fm.up (Fm.rf (s := sN)) rfl)) (fun I3 f4 => ?_)
      refine a_l0 rfl rfl rfl ?_
      refine a_s rfl rfl ?_
      refine a_l0 rfl rfl rfl ?_
      refine a_geti rfl gfX5_66_5 rfl ?_
      refine a_s rfl rfl ?_
      refine a_s rfl rfl ?_
      refine a_min rfl lX5_127 mj_min rfl rfl ?_
      refine a_puti rfl pfX5_66_5 rfl ?_
      refine a_ren (P := Fm sN I) (Fm.tr (f4) (Fm.up (Fm.rf (s := sN)) rfl)) (fun I5 f6 => ?_)
      refine a_l0 rfl rfl rfl ?_
      refine a_l1 rfl rfl rfl ?_
      refine a_gV rfl lX5_140 mo_X5_passMonth (q_X5_passMonth_235_246_sN) rfl rfl rfl ⟨5, _, rfl, rfl, rfl⟩ rfl (fun v' h' hv => ?_)
      obtain ⟨rfl, I8, rfl, f9⟩ := hv
      replace f9 : Fm sN I I8 := Fm.tr (f6) (f9)
      exact a_vret rfl rfl ⟨rfl, _, rfl, f9⟩
  · refine a_l2 rfl rfl rfl ?_
    refine a_if_eq rfl (fun c15 => ?_) (fun c15 => ?_)
    · refine a_s rfl rfl ?_
      refine a_s5 rfl rfl rfl rfl rfl rfl ?_
      refine a_l5 rfl rfl rfl ?_
      refine a_if_ne rfl (fun c41 => ?_) (fun c41 => ?_)
      · refine a_i4 rfl rfl rfl ?_
        refine a_goto rfl ?_
        exact ih5 _ _ _ _ c11 ⟨_, _, rfl, rfl, fh5⟩ ⟨rfl, rfl, rfl, rfl, nS _, trivial⟩
      · refine a_l3 rfl rfl rfl ?_
        refine a_l0 rfl rfl rfl ?_
        refine a_l4 rfl rfl rfl ?_
        refine a_l3 rfl rfl rfl ?_
        refine a_gV rfl lX5_137 mo_X5_work (q_X5_work_235_sN) rfl rfl rfl ⟨5, _, rfl, rfl, rfl⟩ rfl (fun v' h' hv => ?_)
        obtain ⟨⟨v10, rfl⟩, I11, rfl, f12⟩ := hv
        replace f12 : Fm sN I I11 := Fm.tr (fh5) (f12)
        refine a_s rfl rfl ?_
        refine a_s3 rfl rfl rfl rfl rfl rfl ?_
        refine a_i4 rfl rfl rfl ?_
        refine a_goto rfl ?_
        exact ih5 _ _ _ _ c11 ⟨_, _, rfl, rfl, f12⟩ ⟨rfl, rfl, rfl, rfl, nS _, trivial⟩
    · refine a_l0 rfl rfl rfl ?_
      refine a_eV1 rfl lX5_133 mo_X5_draw (sp_X5_draw (a := 235) (by decide)) rfl rfl rfl ⟨5, _, rfl, rfl, rfl⟩ rfl ?_
      refine a_ren (P := Fm sN I) (Fm.tr (fh5) (Fm.up (Fm.rf (s := sN)) rfl)) (fun I13 f14 => ?_)
      refine a_s rfl rfl ?_
      refine a_irem rfl (by decide) ?_
      refine a_l0 rfl rfl rfl ?_
      refine a_geti rfl gfX5_69_5 rfl ?_
      refine a_ic_ge rfl (fun c29 => ?_) (fun c29 => ?_)
      · refine a_s rfl rfl ?_
        refine a_s5 rfl rfl rfl rfl rfl rfl ?_
        refine a_l5 rfl rfl rfl ?_
        refine a_if_ne rfl (fun c41 => ?_) (fun c41 => ?_)
        · refine a_i4 rfl rfl rfl ?_
          refine a_goto rfl ?_
          exact ih5 _ _ _ _ c11 ⟨_, _, rfl, rfl, f14⟩ ⟨rfl, rfl, rfl, rfl, nS _, trivial⟩
        · refine a_l3 rfl rfl rfl ?_
          refine a_l0 rfl rfl rfl ?_
          refine a_l4 rfl rfl rfl ?_
          refine a_l3 rfl rfl rfl ?_
          refine a_gV rfl lX5_137 mo_X5_work (q_X5_work_235_sN) rfl rfl rfl ⟨5, _, rfl, rfl, rfl⟩ rfl (fun v' h' hv => ?_)
          obtain ⟨⟨v15, rfl⟩, I16, rfl, f17⟩ := hv
          replace f17 : Fm sN I I16 := Fm.tr (f14) (f17)
          refine a_s rfl rfl ?_
          refine a_s3 rfl rfl rfl rfl rfl rfl ?_
          refine a_i4 rfl rfl rfl ?_
          refine a_goto rfl ?_
          exact ih5 _ _ _ _ c11 ⟨_, _, rfl, rfl, f17⟩ ⟨rfl, rfl, rfl, rfl, nS _, trivial⟩
      · refine a_s rfl rfl ?_
        refine a_goto rfl ?_
        refine a_s5 rfl rfl rfl rfl rfl rfl ?_
        refine a_l5 rfl rfl rfl ?_
        refine a_if_ne rfl (fun c41 => ?_) (fun c41 => ?_)
        · refine a_i4 rfl rfl rfl ?_
          refine a_goto rfl ?_
          exact ih5 _ _ _ _ c11 ⟨_, _, rfl, rfl, f14⟩ ⟨rfl, rfl, rfl, rfl, nS _, trivial⟩
        · refine a_l3 rfl rfl rfl ?_
          refine a_l0 rfl rfl rfl ?_
          refine a_l4 rfl rfl rfl ?_
          refine a_l3 rfl rfl rfl ?_
          refine a_gV rfl lX5_137 mo_X5_work (q_X5_work_235_sN) rfl rfl rfl ⟨5, _, rfl, rfl, rfl⟩ rfl (fun v' h' hv => ?_)
          obtain ⟨⟨v18, rfl⟩, I19, rfl, f20⟩ := hv
          replace f20 : Fm sN I I19 := Fm.tr (f14) (f20)
          refine a_s rfl rfl ?_
          refine a_s3 rfl rfl rfl rfl rfl rfl ?_
          refine a_i4 rfl rfl rfl ?_
          refine a_goto rfl ?_
          exact ih5 _ _ _ _ c11 ⟨_, _, rfl, rfl, f20⟩ ⟨rfl, rfl, rfl, rfl, nS _, trivial⟩
end
section
/-! ===== the class: acts, image, undo, tape (printed by program) ===== -/
set_option maxRecDepth 100000
theorem nI_leu {n j : Nat} (h : n ≤ j) (hj : j < 2 ^ 31) : nI n ≤ nI j := Int32.le_iff_toInt_le.mpr (by rw [nI_toInt (by omega), nI_toInt hj]; omega)
theorem past_R {w1 w2 : Nat} : ∀ i, i < 12 → Rw w1 w2 287 i = 288 + 11 * i + 1 := by
  intro i hi
  have h : ∀ i, i < 12 → Rc 287 i = 288 + 11 * i + 1 := by decide +kernel
  have h9 : Nat.beq 287 204 = false := rfl
  have h8 : Nat.beq 287 221 = false := rfl
  unfold Rw
  rw [h9, h8, h i hi]
  split <;> rfl
theorem past_st : ∀ i, i < 12 → stp (288 + 11 * i) := by decide +kernel
theorem q_pastAt {S : aS} {I : Nat → Nat → Int32} {L : Nat → Nat → Int64} {w1 w2 t : Nat} {x : Int32} : Sp S m_X11_pastAt 12 0 0 [.ref 200, .int x] (hp I L w1 w2 t) (fun v h' => (v = some .null ∨ ∃ i, i < 12 ∧ v = some (.ref (288 + 11 * i))) ∧ h' = hp I L w1 w2 t) nX := by
  refine Sp_of ok_X11_pastAt rfl rfl ?_
  show AW S m_X11_pastAt 12 _ _ 0 0 0 [some (.ref 200), some (.int x), none] [] (hp I L w1 w2 t)
  refine a_l1 rfl rfl rfl ?_
  refine a_s rfl rfl ?_
  refine a_irem rfl (by decide) ?_
  refine a_s2 rfl rfl rfl rfl rfl rfl ?_
  refine a_l2 rfl rfl rfl ?_
  refine a_if_lt rfl (fun c6 => ?_) (fun c6 => ?_)
  · refine a_s rfl rfl ?_
    exact a_aret (q := 0) rfl rfl rfl ⟨Or.inl rfl, rfl⟩
  · refine a_l2 rfl rfl rfl ?_
    refine a_l0 rfl rfl rfl ?_
    refine a_getq rfl gfX11_64_11 rfl (rfl) ?_
    refine a_len rfl rfl rfl rfl ?_
    refine a_ic_ge rfl (fun c15 => ?_) (fun c15 => ?_)
    · refine a_s rfl rfl ?_
      exact a_aret (q := 0) rfl rfl rfl ⟨Or.inl rfl, rfl⟩
    · refine a_l0 rfl rfl rfl ?_
      refine a_getq rfl gfX11_64_11 rfl (rfl) ?_
      refine a_l2 rfl rfl rfl ?_
      have hi := inI_of (n := 12) (by decide) c6 c15
      refine a_aald rfl rfl hi (past_R _ hi.2) ?_
      refine a_goto rfl ?_
      exact a_aret (q := 288 + 11 * _ + 1) rfl rfl rfl ⟨Or.inr ⟨_, hi.2, rfl⟩, rfl⟩
theorem q_X11_rememberAct_200 {S : aS} {I : Nat → Nat → Int32} {L : Nat → Nat → Int64} {w1 w2 t : Nat} : Sp S m_X11_rememberAct 15 0 0 [.ref 200] (hp I L w1 w2 t) (QR (Mt I) isV L w1 w2 t) nX := by
  refine Sp_of ok_X11_rememberAct rfl rfl ?_
  show AW S m_X11_rememberAct 15 _ _ 0 0 0 [some (.ref 200), none] [] (hp I L w1 w2 t)
  refine a_l0 rfl rfl rfl ?_
  refine a_geti rfl gfX11_95_11 rfl ?_
  refine a_s rfl rfl ?_
  refine a_ic_ne rfl (fun c6 => ?_) (fun c6 => ?_)
  · refine a_l0 rfl rfl rfl ?_
    refine a_l0 rfl rfl rfl ?_
    refine a_geti rfl gfX11_368_11 rfl ?_
    refine a_l0 rfl rfl rfl ?_
    refine a_geti rfl gfX11_95_11 rfl ?_
    refine a_s rfl rfl ?_
    refine a_gV rfl lX11_371 mo_X11_pastAt (q_pastAt) rfl rfl rfl ⟨11, _, rfl, rfl, rfl⟩ rfl (fun v' h' hv => ?_)
    obtain ⟨rfl | ⟨i, hi, rfl⟩, rfl⟩ := hv
    · refine a_s1 rfl rfl rfl rfl rfl rfl ?_
      refine a_l1 rfl rfl rfl ?_
      refine a_ifnull_t rfl ?_
      refine a_l0 rfl rfl rfl ?_
      refine a_s rfl rfl ?_
      refine a_geti rfl gfX11_95_11 rfl ?_
      refine a_s rfl rfl ?_
      refine a_s rfl rfl ?_
      refine a_puti rfl pfX11_95_11 rfl ?_
      refine a_ren (P := Mt I) (Mt.fm (Mt.rf) (Fm.up (Fm.rf (s := sM)) rfl)) (fun I1 f2 => ?_)
      exact a_vret rfl rfl ⟨rfl, _, rfl, f2⟩
    · refine a_s1 rfl rfl rfl rfl rfl rfl ?_
      refine a_l1 rfl rfl rfl ?_
      refine a_ifnull_f rfl ?_
      refine a_l1 rfl rfl rfl ?_
      refine a_l0 rfl rfl rfl ?_
      refine a_getq rfl gfX11_37_11 rfl (rfl) ?_
      refine a_eV0 rfl lX11_375 mo_X5_copyAll (sp_X5_copyAll (a := 288 + 11 * i) (b := 235) (past_st i hi) (by decide) (by omega)) rfl rfl rfl ⟨5, _, kS0 (past_st i hi), rfl, rfl⟩ rfl ?_
      refine a_ren (P := Mt I) (Mt.tr (Mt.rf) (Mt.cpA (past_st i hi) (by decide) (by decide))) (fun I3 f4 => ?_)
      refine a_l0 rfl rfl rfl ?_
      refine a_s rfl rfl ?_
      refine a_geti rfl gfX11_95_11 rfl ?_
      refine a_s rfl rfl ?_
      refine a_s rfl rfl ?_
      refine a_puti rfl pfX11_95_11 rfl ?_
      refine a_ren (P := Mt I) (Mt.fm (f4) (Fm.up (Fm.rf (s := sM)) rfl)) (fun I5 f6 => ?_)
      exact a_vret rfl rfl ⟨rfl, _, rfl, f6⟩
  · refine a_l0 rfl rfl rfl ?_
    refine a_l0 rfl rfl rfl ?_
    refine a_geti rfl gfX11_368_11 rfl ?_
    refine a_s rfl rfl ?_
    refine a_s rfl rfl ?_
    refine a_s rfl rfl ?_
    refine a_irem rfl (by decide) ?_
    refine a_puti rfl pfX11_368_11 rfl ?_
    refine a_ren (P := Mt I) (Mt.fm (Mt.rf) (Fm.up (Fm.rf (s := sM)) rfl)) (fun I7 f8 => ?_)
    refine a_l0 rfl rfl rfl ?_
    refine a_s rfl rfl ?_
    refine a_geti rfl gfX11_95_11 rfl ?_
    refine a_s rfl rfl ?_
    refine a_s rfl rfl ?_
    refine a_puti rfl pfX11_95_11 rfl ?_
    refine a_ren (P := Mt I) (Mt.fm (f8) (Fm.up (Fm.rf (s := sM)) rfl)) (fun I9 f10 => ?_)
    refine a_l0 rfl rfl rfl ?_
    refine a_l0 rfl rfl rfl ?_
    refine a_geti rfl gfX11_368_11 rfl ?_
    refine a_l0 rfl rfl rfl ?_
    refine a_geti rfl gfX11_95_11 rfl ?_
    refine a_s rfl rfl ?_
    refine a_gV rfl lX11_371 mo_X11_pastAt (q_pastAt) rfl rfl rfl ⟨11, _, rfl, rfl, rfl⟩ rfl (fun v' h' hv => ?_)
    obtain ⟨rfl | ⟨i, hi, rfl⟩, rfl⟩ := hv
    · refine a_s1 rfl rfl rfl rfl rfl rfl ?_
      refine a_l1 rfl rfl rfl ?_
      refine a_ifnull_t rfl ?_
      refine a_l0 rfl rfl rfl ?_
      refine a_s rfl rfl ?_
      refine a_geti rfl gfX11_95_11 rfl ?_
      refine a_s rfl rfl ?_
      refine a_s rfl rfl ?_
      refine a_puti rfl pfX11_95_11 rfl ?_
      refine a_ren (P := Mt I) (Mt.fm (f10) (Fm.up (Fm.rf (s := sM)) rfl)) (fun I11 f12 => ?_)
      exact a_vret rfl rfl ⟨rfl, _, rfl, f12⟩
    · refine a_s1 rfl rfl rfl rfl rfl rfl ?_
      refine a_l1 rfl rfl rfl ?_
      refine a_ifnull_f rfl ?_
      refine a_l1 rfl rfl rfl ?_
      refine a_l0 rfl rfl rfl ?_
      refine a_getq rfl gfX11_37_11 rfl (rfl) ?_
      refine a_eV0 rfl lX11_375 mo_X5_copyAll (sp_X5_copyAll (a := 288 + 11 * i) (b := 235) (past_st i hi) (by decide) (by omega)) rfl rfl rfl ⟨5, _, kS0 (past_st i hi), rfl, rfl⟩ rfl ?_
      refine a_ren (P := Mt I) (Mt.tr (f10) (Mt.cpA (past_st i hi) (by decide) (by decide))) (fun I13 f14 => ?_)
      refine a_l0 rfl rfl rfl ?_
      refine a_s rfl rfl ?_
      refine a_geti rfl gfX11_95_11 rfl ?_
      refine a_s rfl rfl ?_
      refine a_s rfl rfl ?_
      refine a_puti rfl pfX11_95_11 rfl ?_
      refine a_ren (P := Mt I) (Mt.fm (f14) (Fm.up (Fm.rf (s := sM)) rfl)) (fun I15 f16 => ?_)
      exact a_vret rfl rfl ⟨rfl, _, rfl, f16⟩
theorem q_X11_call_200 {S : aS} {I : Nat → Nat → Int32} {L : Nat → Nat → Int64} {w1 w2 t : Nat} {x1 : Int32} : Sp S m_X11_call 17 2 12 [.ref 200, .int x1] (hp I L w1 w2 t) (QR (Mt I) isI L w1 w2 t) (XR (Mt I) L w1 w2 [0, 2]) := by
  refine Sp_of ok_X11_call rfl rfl ?_
  show AW S m_X11_call 17 _ _ 2 12 0 [some (.ref 200), some (.int x1), none] [] (hp I L w1 w2 t)
  refine a_l0 rfl rfl rfl ?_
  refine a_l1 rfl rfl rfl ?_
  refine a_callV rfl lX11_141 mo_X11_needDuty (q_X11_needDuty_200) rfl rfl rfl ⟨11, _, rfl, rfl, rfl⟩ rfl (fun v' h' hv => ?_) (fun E h' hx => XR.cm hx (by decide) (fun _ z => Mt.fm (Mt.rf) (Fm.mo (z) sQ_sM)))
  obtain ⟨rfl, rfl⟩ := hv
  refine a_l0 rfl rfl rfl ?_
  refine a_getq rfl gfX11_37_11 rfl (rfl) ?_
  refine a_gV rfl lX11_220 mo_X5_canBits (q_X5_canBits_235) rfl rfl rfl ⟨5, _, rfl, rfl, rfl⟩ rfl (fun v' h' hv => ?_)
  obtain ⟨⟨v2, rfl⟩, rfl⟩ := hv
  refine a_l1 rfl rfl rfl ?_
  refine a_eS1 rfl lX11_223 mo_X11_has (sp_X11_has) rfl rfl rfl rfl ?_
  refine a_if_ne rfl (fun c16 => ?_) (fun c16 => ?_)
  · refine a_l0 rfl rfl rfl ?_
    refine a_getq rfl gfX11_37_11 rfl (rfl) ?_
    refine a_l1 rfl rfl rfl ?_
    refine a_gV rfl lX11_176 mo_X5_passesOf (q_X5_passesOf_235) rfl rfl rfl ⟨5, _, rfl, rfl, rfl⟩ rfl (fun v' h' hv => ?_)
    obtain ⟨⟨v3, rfl⟩, rfl⟩ := hv
    refine a_s2 rfl rfl rfl rfl rfl rfl ?_
    refine a_l0 rfl rfl rfl ?_
    refine a_gV rfl lX11_230 mo_X11_rememberAct (q_X11_rememberAct_200) rfl rfl rfl ⟨11, _, rfl, rfl, rfl⟩ rfl (fun v' h' hv => ?_)
    obtain ⟨rfl, I5, rfl, f6⟩ := hv
    refine a_l0 rfl rfl rfl ?_
    refine a_getq rfl gfX11_37_11 rfl (rfl) ?_
    refine a_l1 rfl rfl rfl ?_
    refine a_gV rfl lX11_233 mo_X5_finish (q_X5_finish_235_sN) rfl rfl rfl ⟨5, _, rfl, rfl, rfl⟩ rfl (fun v' h' hv => ?_)
    obtain ⟨rfl, I8, rfl, f9⟩ := hv
    replace f9 : Mt I I8 := Mt.fm (f6) (Fm.mo (f9) sN_sM)
    refine a_l2 rfl rfl rfl ?_
    exact a_iret rfl rfl ⟨⟨_, rfl⟩, _, rfl, f9⟩
  · exact a_throw rfl rfl rfl rfl tX11_ise rfl rfl rfl rfl rfl ⟨⟨2, by decide, rfl⟩, _, rfl, Mt.rf⟩
theorem q_X11_needState_200 {S : aS} {I : Nat → Nat → Int32} {L : Nat → Nat → Int64} {w1 w2 t : Nat} {x1 x2 : Int32} : Sp S m_X11_needState 13 1 6 [.ref 200, .int x1, .int x2] (hp I L w1 w2 t) (QE isV (hp I L w1 w2 t)) (XR (Fm sQ I) L w1 w2 [2]) := by
  refine Sp_of ok_X11_needState rfl rfl ?_
  show AW S m_X11_needState 13 _ _ 1 6 0 [some (.ref 200), some (.int x1), some (.int x2)] [] (hp I L w1 w2 t)
  refine a_l0 rfl rfl rfl ?_
  refine a_getq rfl gfX11_37_11 rfl (rfl) ?_
  refine a_getq rfl gfX11_159_5 rfl (rfl) ?_
  refine a_l1 rfl rfl rfl ?_
  refine a_eS1 rfl lX11_117 mo_X11_at (sp_X11_at rfl) rfl rfl rfl rfl ?_
  refine a_l2 rfl rfl rfl ?_
  refine a_ic_eq rfl (fun c12 => ?_) (fun c12 => ?_)
  · exact a_vret rfl rfl ⟨rfl, rfl⟩
  · exact a_throw rfl rfl rfl rfl tX11_ise rfl rfl rfl rfl rfl ⟨⟨2, by decide, rfl⟩, _, rfl, Fm.rf⟩
theorem q_X11_put_200 {S : aS} {I : Nat → Nat → Int32} {L : Nat → Nat → Int64} {w1 w2 t : Nat} {x1 : Int32} : Sp S m_X11_put 16 2 12 [.ref 200, .int x1] (hp I L w1 w2 t) (QR (Mt I) isI L w1 w2 t) (XR (Mt I) L w1 w2 [0, 2]) := by
  refine Sp_of ok_X11_put rfl rfl ?_
  show AW S m_X11_put 16 _ _ 2 12 0 [some (.ref 200), some (.int x1)] [] (hp I L w1 w2 t)
  refine a_l0 rfl rfl rfl ?_
  refine a_l1 rfl rfl rfl ?_
  refine a_callV rfl lX11_141 mo_X11_needDuty (q_X11_needDuty_200) rfl rfl rfl ⟨11, _, rfl, rfl, rfl⟩ rfl (fun v' h' hv => ?_) (fun E h' hx => XR.cm hx (by decide) (fun _ z => Mt.fm (Mt.rf) (Fm.mo (z) sQ_sM)))
  obtain ⟨rfl, rfl⟩ := hv
  refine a_l0 rfl rfl rfl ?_
  refine a_l1 rfl rfl rfl ?_
  refine a_s rfl rfl ?_
  refine a_callV rfl lX11_236 mo_X11_needState (q_X11_needState_200) rfl rfl rfl ⟨11, _, rfl, rfl, rfl⟩ rfl (fun v' h' hv => ?_) (fun E h' hx => XR.cm hx (by decide) (fun _ z => Mt.fm (Mt.rf) (Fm.mo (z) sQ_sM)))
  obtain ⟨rfl, rfl⟩ := hv
  refine a_l0 rfl rfl rfl ?_
  refine a_gV rfl lX11_230 mo_X11_rememberAct (q_X11_rememberAct_200) rfl rfl rfl ⟨11, _, rfl, rfl, rfl⟩ rfl (fun v' h' hv => ?_)
  obtain ⟨rfl, I4, rfl, f5⟩ := hv
  refine a_l0 rfl rfl rfl ?_
  refine a_getq rfl gfX11_37_11 rfl (rfl) ?_
  refine a_l1 rfl rfl rfl ?_
  refine a_gV rfl lX11_240 mo_X5_growOlder (q_X5_growOlder_235_sN) rfl rfl rfl ⟨5, _, rfl, rfl, rfl⟩ rfl (fun v' h' hv => ?_)
  obtain ⟨rfl, I7, rfl, f8⟩ := hv
  replace f8 : Mt I I7 := Mt.fm (f5) (Fm.mo (f8) sN_sM)
  refine a_l0 rfl rfl rfl ?_
  refine a_getq rfl gfX11_37_11 rfl (rfl) ?_
  refine a_getq rfl gfX11_150_5 rfl (rfl) ?_
  refine a_l1 rfl rfl rfl ?_
  refine a_eS1 rfl lX11_117 mo_X11_at (sp_X11_at rfl) rfl rfl rfl rfl ?_
  exact a_iret rfl rfl ⟨⟨_, rfl⟩, _, rfl, f8⟩
theorem q_X11_forget_200 {S : aS} {I : Nat → Nat → Int32} {L : Nat → Nat → Int64} {w1 w2 t : Nat} {x1 : Int32} : Sp S m_X11_forget 16 2 12 [.ref 200, .int x1] (hp I L w1 w2 t) (QR (Mt I) isI L w1 w2 t) (XR (Mt I) L w1 w2 [0, 2]) := by
  refine Sp_of ok_X11_forget rfl rfl ?_
  show AW S m_X11_forget 16 _ _ 2 12 0 [some (.ref 200), some (.int x1)] [] (hp I L w1 w2 t)
  refine a_l0 rfl rfl rfl ?_
  refine a_l1 rfl rfl rfl ?_
  refine a_callV rfl lX11_141 mo_X11_needDuty (q_X11_needDuty_200) rfl rfl rfl ⟨11, _, rfl, rfl, rfl⟩ rfl (fun v' h' hv => ?_) (fun E h' hx => XR.cm hx (by decide) (fun _ z => Mt.fm (Mt.rf) (Fm.mo (z) sQ_sM)))
  obtain ⟨rfl, rfl⟩ := hv
  refine a_l0 rfl rfl rfl ?_
  refine a_l1 rfl rfl rfl ?_
  refine a_s rfl rfl ?_
  refine a_callV rfl lX11_236 mo_X11_needState (q_X11_needState_200) rfl rfl rfl ⟨11, _, rfl, rfl, rfl⟩ rfl (fun v' h' hv => ?_) (fun E h' hx => XR.cm hx (by decide) (fun _ z => Mt.fm (Mt.rf) (Fm.mo (z) sQ_sM)))
  obtain ⟨rfl, rfl⟩ := hv
  refine a_l0 rfl rfl rfl ?_
  refine a_gV rfl lX11_230 mo_X11_rememberAct (q_X11_rememberAct_200) rfl rfl rfl ⟨11, _, rfl, rfl, rfl⟩ rfl (fun v' h' hv => ?_)
  obtain ⟨rfl, I4, rfl, f5⟩ := hv
  refine a_l0 rfl rfl rfl ?_
  refine a_getq rfl gfX11_37_11 rfl (rfl) ?_
  refine a_getq rfl gfX11_159_5 rfl (rfl) ?_
  refine a_l1 rfl rfl rfl ?_
  refine a_s rfl rfl ?_
  refine a_eS0 rfl lX11_243 mo_X11_setAt (sp_X11_setAt rfl) rfl rfl rfl rfl ?_
  refine a_ren (P := Mt I) (Mt.fm (f5) (Fm.st (Fm.rf (s := sM)) (fun _ => rfl))) (fun I6 f7 => ?_)
  refine a_l0 rfl rfl rfl ?_
  refine a_getq rfl gfX11_37_11 rfl (rfl) ?_
  refine a_getq rfl gfX11_147_5 rfl (rfl) ?_
  refine a_l1 rfl rfl rfl ?_
  refine a_eS1 rfl lX11_117 mo_X11_at (sp_X11_at rfl) rfl rfl rfl rfl ?_
  exact a_iret rfl rfl ⟨⟨_, rfl⟩, _, rfl, f7⟩
theorem q_X11_recall_200 {S : aS} {I : Nat → Nat → Int32} {L : Nat → Nat → Int64} {w1 w2 t : Nat} {x1 : Int32} : Sp S m_X11_recall 16 2 12 [.ref 200, .int x1] (hp I L w1 w2 t) (QR (Mt I) isI L w1 w2 t) (XR (Mt I) L w1 w2 [0, 2]) := by
  refine Sp_of ok_X11_recall rfl rfl ?_
  show AW S m_X11_recall 16 _ _ 2 12 0 [some (.ref 200), some (.int x1)] [] (hp I L w1 w2 t)
  refine a_l0 rfl rfl rfl ?_
  refine a_l1 rfl rfl rfl ?_
  refine a_callV rfl lX11_141 mo_X11_needDuty (q_X11_needDuty_200) rfl rfl rfl ⟨11, _, rfl, rfl, rfl⟩ rfl (fun v' h' hv => ?_) (fun E h' hx => XR.cm hx (by decide) (fun _ z => Mt.fm (Mt.rf) (Fm.mo (z) sQ_sM)))
  obtain ⟨rfl, rfl⟩ := hv
  refine a_l0 rfl rfl rfl ?_
  refine a_l1 rfl rfl rfl ?_
  refine a_s rfl rfl ?_
  refine a_callV rfl lX11_236 mo_X11_needState (q_X11_needState_200) rfl rfl rfl ⟨11, _, rfl, rfl, rfl⟩ rfl (fun v' h' hv => ?_) (fun E h' hx => XR.cm hx (by decide) (fun _ z => Mt.fm (Mt.rf) (Fm.mo (z) sQ_sM)))
  obtain ⟨rfl, rfl⟩ := hv
  refine a_l0 rfl rfl rfl ?_
  refine a_gV rfl lX11_230 mo_X11_rememberAct (q_X11_rememberAct_200) rfl rfl rfl ⟨11, _, rfl, rfl, rfl⟩ rfl (fun v' h' hv => ?_)
  obtain ⟨rfl, I4, rfl, f5⟩ := hv
  refine a_l0 rfl rfl rfl ?_
  refine a_getq rfl gfX11_37_11 rfl (rfl) ?_
  refine a_getq rfl gfX11_159_5 rfl (rfl) ?_
  refine a_l1 rfl rfl rfl ?_
  refine a_s rfl rfl ?_
  refine a_eS0 rfl lX11_243 mo_X11_setAt (sp_X11_setAt rfl) rfl rfl rfl rfl ?_
  refine a_ren (P := Mt I) (Mt.fm (f5) (Fm.st (Fm.rf (s := sM)) (fun _ => rfl))) (fun I6 f7 => ?_)
  refine a_l0 rfl rfl rfl ?_
  refine a_getq rfl gfX11_37_11 rfl (rfl) ?_
  refine a_getq rfl gfX11_150_5 rfl (rfl) ?_
  refine a_l1 rfl rfl rfl ?_
  refine a_eS1 rfl lX11_117 mo_X11_at (sp_X11_at rfl) rfl rfl rfl rfl ?_
  exact a_iret rfl rfl ⟨⟨_, rfl⟩, _, rfl, f7⟩
theorem q_X11_hand_200 {S : aS} {I : Nat → Nat → Int32} {L : Nat → Nat → Int64} {w1 w2 t : Nat} {x1 x2 : Int32} : Sp S m_X11_hand 16 4 24 [.ref 200, .int x1, .int x2] (hp I L w1 w2 t) (QR (Mt I) isI L w1 w2 t) (XR (Mt I) L w1 w2 [0, 1, 2]) := by
  refine Sp_of ok_X11_hand rfl rfl ?_
  show AW S m_X11_hand 16 _ _ 4 24 0 [some (.ref 200), some (.int x1), some (.int x2), none] [] (hp I L w1 w2 t)
  refine a_l0 rfl rfl rfl ?_
  refine a_l1 rfl rfl rfl ?_
  refine a_callV rfl lX11_141 mo_X11_needDuty (q_X11_needDuty_200) rfl rfl rfl ⟨11, _, rfl, rfl, rfl⟩ rfl (fun v' h' hv => ?_) (fun E h' hx => XR.cm hx (by decide) (fun _ z => Mt.fm (Mt.rf) (Fm.mo (z) sQ_sM)))
  obtain ⟨rfl, rfl⟩ := hv
  refine a_l0 rfl rfl rfl ?_
  refine a_l2 rfl rfl rfl ?_
  refine a_callV rfl lX11_110 mo_X11_needPerson (q_X11_needPerson_200) rfl rfl rfl ⟨11, _, rfl, rfl, rfl⟩ rfl (fun v' h' hv => ?_) (fun E h' hx => XR.cm hx (by decide) (fun _ z => Mt.fm (Mt.rf) (Fm.mo (z) sQ_sM)))
  obtain ⟨rfl, rfl⟩ := hv
  refine a_l0 rfl rfl rfl ?_
  refine a_getq rfl gfX11_37_11 rfl (rfl) ?_
  refine a_getq rfl gfX11_144_5 rfl (rfl) ?_
  refine a_l1 rfl rfl rfl ?_
  refine a_eS1 rfl lX11_117 mo_X11_at (sp_X11_at rfl) rfl rfl rfl rfl ?_
  refine a_s3 rfl rfl rfl rfl rfl rfl ?_
  refine a_l3 rfl rfl rfl ?_
  refine a_l2 rfl rfl rfl ?_
  refine a_callS rfl lX11_247 mo_X11_needTwo (q_X11_needTwo) rfl rfl rfl rfl (fun v' h' hv => ?_) (fun E h' hx => XR.cm hx (by decide) (fun _ z => Mt.fm (Mt.rf) (Fm.mo (z) sQ_sM)))
  obtain ⟨rfl, rfl⟩ := hv
  refine a_l0 rfl rfl rfl ?_
  refine a_getq rfl gfX11_37_11 rfl (rfl) ?_
  refine a_getq rfl gfX11_159_5 rfl (rfl) ?_
  refine a_l1 rfl rfl rfl ?_
  refine a_eS1 rfl lX11_117 mo_X11_at (sp_X11_at rfl) rfl rfl rfl rfl ?_
  refine a_s rfl rfl ?_
  refine a_ic_ne rfl (fun c39 => ?_) (fun c39 => ?_)
  · refine a_l0 rfl rfl rfl ?_
    refine a_gV rfl lX11_230 mo_X11_rememberAct (q_X11_rememberAct_200) rfl rfl rfl ⟨11, _, rfl, rfl, rfl⟩ rfl (fun v' h' hv => ?_)
    obtain ⟨rfl, I5, rfl, f6⟩ := hv
    refine a_l0 rfl rfl rfl ?_
    refine a_getq rfl gfX11_37_11 rfl (rfl) ?_
    refine a_getq rfl gfX11_144_5 rfl (rfl) ?_
    refine a_l1 rfl rfl rfl ?_
    refine a_l2 rfl rfl rfl ?_
    refine a_eS0 rfl lX11_243 mo_X11_setAt (sp_X11_setAt rfl) rfl rfl rfl rfl ?_
    refine a_ren (P := Mt I) (Mt.fm (f6) (Fm.st (Fm.rf (s := sM)) (fun _ => rfl))) (fun I7 f8 => ?_)
    refine a_l3 rfl rfl rfl ?_
    exact a_iret rfl rfl ⟨⟨_, rfl⟩, _, rfl, f8⟩
  · exact a_throw rfl rfl rfl rfl tX11_ise rfl rfl rfl rfl rfl ⟨⟨2, by decide, rfl⟩, _, rfl, Mt.rf⟩
theorem q_X11_lean_200 {S : aS} {I : Nat → Nat → Int32} {L : Nat → Nat → Int64} {w1 w2 t : Nat} {x1 x2 : Int32} : Sp S m_X11_lean 16 3 18 [.ref 200, .int x1, .int x2] (hp I L w1 w2 t) (QR (Mt I) isI L w1 w2 t) (XR (Mt I) L w1 w2 [0, 1]) := by
  refine Sp_of ok_X11_lean rfl rfl ?_
  show AW S m_X11_lean 16 _ _ 3 18 0 [some (.ref 200), some (.int x1), some (.int x2), none] [] (hp I L w1 w2 t)
  refine a_l0 rfl rfl rfl ?_
  refine a_l1 rfl rfl rfl ?_
  refine a_callV rfl lX11_141 mo_X11_needDuty (q_X11_needDuty_200) rfl rfl rfl ⟨11, _, rfl, rfl, rfl⟩ rfl (fun v' h' hv => ?_) (fun E h' hx => XR.cm hx (by decide) (fun _ z => Mt.fm (Mt.rf) (Fm.mo (z) sQ_sM)))
  obtain ⟨rfl, rfl⟩ := hv
  refine a_l2 rfl rfl rfl ?_
  refine a_s rfl rfl ?_
  refine a_ic_eq rfl (fun c7 => ?_) (fun c7 => ?_)
  · refine a_l1 rfl rfl rfl ?_
    refine a_l2 rfl rfl rfl ?_
    refine a_callS rfl lX11_247 mo_X11_needTwo (q_X11_needTwo) rfl rfl rfl rfl (fun v' h' hv => ?_) (fun E h' hx => XR.cm hx (by decide) (fun _ z => Mt.fm (Mt.rf) (Fm.mo (z) sQ_sM)))
    obtain ⟨rfl, rfl⟩ := hv
    refine a_l0 rfl rfl rfl ?_
    refine a_getq rfl gfX11_37_11 rfl (rfl) ?_
    refine a_getq rfl gfX11_156_5 rfl (rfl) ?_
    refine a_l1 rfl rfl rfl ?_
    refine a_eS1 rfl lX11_117 mo_X11_at (sp_X11_at rfl) rfl rfl rfl rfl ?_
    refine a_s3 rfl rfl rfl rfl rfl rfl ?_
    refine a_l0 rfl rfl rfl ?_
    refine a_gV rfl lX11_230 mo_X11_rememberAct (q_X11_rememberAct_200) rfl rfl rfl ⟨11, _, rfl, rfl, rfl⟩ rfl (fun v' h' hv => ?_)
    obtain ⟨rfl, I4, rfl, f5⟩ := hv
    refine a_l0 rfl rfl rfl ?_
    refine a_getq rfl gfX11_37_11 rfl (rfl) ?_
    refine a_getq rfl gfX11_156_5 rfl (rfl) ?_
    refine a_l1 rfl rfl rfl ?_
    refine a_l2 rfl rfl rfl ?_
    refine a_eS0 rfl lX11_243 mo_X11_setAt (sp_X11_setAt rfl) rfl rfl rfl rfl ?_
    refine a_ren (P := Mt I) (Mt.fm (f5) (Fm.st (Fm.rf (s := sM)) (fun _ => rfl))) (fun I6 f7 => ?_)
    refine a_l3 rfl rfl rfl ?_
    exact a_iret rfl rfl ⟨⟨_, rfl⟩, _, rfl, f7⟩
  · refine a_l0 rfl rfl rfl ?_
    refine a_l2 rfl rfl rfl ?_
    refine a_callV rfl lX11_141 mo_X11_needDuty (q_X11_needDuty_200) rfl rfl rfl ⟨11, _, rfl, rfl, rfl⟩ rfl (fun v' h' hv => ?_) (fun E h' hx => XR.cm hx (by decide) (fun _ z => Mt.fm (Mt.rf) (Fm.mo (z) sQ_sM)))
    obtain ⟨rfl, rfl⟩ := hv
    refine a_l1 rfl rfl rfl ?_
    refine a_l2 rfl rfl rfl ?_
    refine a_callS rfl lX11_247 mo_X11_needTwo (q_X11_needTwo) rfl rfl rfl rfl (fun v' h' hv => ?_) (fun E h' hx => XR.cm hx (by decide) (fun _ z => Mt.fm (Mt.rf) (Fm.mo (z) sQ_sM)))
    obtain ⟨rfl, rfl⟩ := hv
    refine a_l0 rfl rfl rfl ?_
    refine a_getq rfl gfX11_37_11 rfl (rfl) ?_
    refine a_getq rfl gfX11_156_5 rfl (rfl) ?_
    refine a_l1 rfl rfl rfl ?_
    refine a_eS1 rfl lX11_117 mo_X11_at (sp_X11_at rfl) rfl rfl rfl rfl ?_
    refine a_s3 rfl rfl rfl rfl rfl rfl ?_
    refine a_l0 rfl rfl rfl ?_
    refine a_gV rfl lX11_230 mo_X11_rememberAct (q_X11_rememberAct_200) rfl rfl rfl ⟨11, _, rfl, rfl, rfl⟩ rfl (fun v' h' hv => ?_)
    obtain ⟨rfl, I11, rfl, f12⟩ := hv
    refine a_l0 rfl rfl rfl ?_
    refine a_getq rfl gfX11_37_11 rfl (rfl) ?_
    refine a_getq rfl gfX11_156_5 rfl (rfl) ?_
    refine a_l1 rfl rfl rfl ?_
    refine a_l2 rfl rfl rfl ?_
    refine a_eS0 rfl lX11_243 mo_X11_setAt (sp_X11_setAt rfl) rfl rfl rfl rfl ?_
    refine a_ren (P := Mt I) (Mt.fm (f12) (Fm.st (Fm.rf (s := sM)) (fun _ => rfl))) (fun I13 f14 => ?_)
    refine a_l3 rfl rfl rfl ?_
    exact a_iret rfl rfl ⟨⟨_, rfl⟩, _, rfl, f14⟩
theorem q_X11_free_200 {S : aS} {I : Nat → Nat → Int32} {L : Nat → Nat → Int64} {w1 w2 t : Nat} {x1 x2 : Int32} : Sp S m_X11_free 16 2 12 [.ref 200, .int x1, .int x2] (hp I L w1 w2 t) (QR (Mt I) isI L w1 w2 t) (XR (Mt I) L w1 w2 [0, 1]) := by
  refine Sp_of ok_X11_free rfl rfl ?_
  show AW S m_X11_free 16 _ _ 2 12 0 [some (.ref 200), some (.int x1), some (.int x2), none] [] (hp I L w1 w2 t)
  refine a_l0 rfl rfl rfl ?_
  refine a_l1 rfl rfl rfl ?_
  refine a_callV rfl lX11_110 mo_X11_needPerson (q_X11_needPerson_200) rfl rfl rfl ⟨11, _, rfl, rfl, rfl⟩ rfl (fun v' h' hv => ?_) (fun E h' hx => XR.cm hx (by decide) (fun _ z => Mt.fm (Mt.rf) (Fm.mo (z) sQ_sM)))
  obtain ⟨rfl, rfl⟩ := hv
  refine a_l2 rfl rfl rfl ?_
  refine a_s rfl rfl ?_
  refine a_s rfl rfl ?_
  refine a_callS rfl lX11_250 mo_X11_needNumber q_needNumber rfl rfl rfl rfl (fun v' h' hv => ?_) (fun E h' hx => XR.cm hx (by decide) (fun _ z => Mt.fm (Mt.rf) (Fm.mo (z) sQ_sM)))
  obtain ⟨rfl, rfl, hbm2⟩ := hv
  obtain ⟨m2, hm2a, hm2b, rfl⟩ := inB_nI (a := 0) (b := 9) (by decide) hbm2
  refine a_l0 rfl rfl rfl ?_
  refine a_getq rfl gfX11_37_11 rfl (rfl) ?_
  refine a_getq rfl gfX11_121_5 rfl (rfl) ?_
  refine a_l1 rfl rfl rfl ?_
  refine a_eS1 rfl lX11_117 mo_X11_at (sp_X11_at rfl) rfl rfl rfl rfl ?_
  refine a_s3 rfl rfl rfl rfl rfl rfl ?_
  refine a_l0 rfl rfl rfl ?_
  refine a_gV rfl lX11_230 mo_X11_rememberAct (q_X11_rememberAct_200) rfl rfl rfl ⟨11, _, rfl, rfl, rfl⟩ rfl (fun v' h' hv => ?_)
  obtain ⟨rfl, I4, rfl, f5⟩ := hv
  refine a_l0 rfl rfl rfl ?_
  refine a_getq rfl gfX11_37_11 rfl (rfl) ?_
  refine a_getq rfl gfX11_121_5 rfl (rfl) ?_
  refine a_l1 rfl rfl rfl ?_
  refine a_l2 rfl rfl rfl ?_
  refine a_eS0 rfl lX11_243 mo_X11_setAt (sp_X11_setAt rfl) rfl rfl rfl rfl ?_
  refine a_ren (P := Mt I) (Mt.fm (f5) (Fm.st (Fm.rf (s := sM)) (fun _ => rfl))) (fun I6 f7 => ?_)
  refine a_l3 rfl rfl rfl ?_
  exact a_iret rfl rfl ⟨⟨_, rfl⟩, _, rfl, f7⟩
theorem q_X11_days_200 {S : aS} {I : Nat → Nat → Int32} {L : Nat → Nat → Int64} {w1 w2 t : Nat} {x1 : Int32} : Sp S m_X11_days 18 1 6 [.ref 200, .int x1] (hp I L w1 w2 t) (QR (Mt I) isI L w1 w2 t) (XR (Mt I) L w1 w2 [1]) := by
  refine Sp_of ok_X11_days rfl rfl ?_
  show AW S m_X11_days 18 _ _ 1 6 0 [some (.ref 200), some (.int x1), none, none] [] (hp I L w1 w2 t)
  refine a_l1 rfl rfl rfl ?_
  refine a_s rfl rfl ?_
  refine a_s rfl rfl ?_
  refine a_callS rfl lX11_250 mo_X11_needNumber q_needNumber rfl rfl rfl rfl (fun v' h' hv => ?_) (fun E h' hx => XR.cm hx (by decide) (fun _ z => Mt.fm (Mt.rf) (Fm.mo (z) sQ_sM)))
  obtain ⟨rfl, rfl, hbm1⟩ := hv
  obtain ⟨m1, hm1a, hm1b, rfl⟩ := inB_nI (a := 1) (b := 90) (by decide) hbm1
  refine a_l0 rfl rfl rfl ?_
  refine a_gV rfl lX11_230 mo_X11_rememberAct (q_X11_rememberAct_200) rfl rfl rfl ⟨11, _, rfl, rfl, rfl⟩ rfl (fun v' h' hv => ?_)
  obtain ⟨rfl, I3, rfl, f4⟩ := hv
  refine a_l0 rfl rfl rfl ?_
  refine a_getq rfl gfX11_37_11 rfl (rfl) ?_
  refine a_s rfl rfl ?_
  refine a_gV rfl lX11_200 mo_X5_bitsIn (q_X5_bitsIn_235) rfl rfl rfl ⟨5, _, rfl, rfl, rfl⟩ rfl (fun v' h' hv => ?_)
  obtain ⟨⟨v5, rfl⟩, rfl⟩ := hv
  refine a_s2 rfl rfl rfl rfl rfl rfl ?_
  refine a_s rfl rfl ?_
  refine a_s3 rfl rfl rfl rfl rfl rfl ?_
  refine a_cnt (j0 := 0) (fun j ls h => ∃ I', ls = [some (.ref 200), some (.int (nI m1)), some (.int v5), some (.int (nI j))] ∧ h = hp I' L w1 w2 t ∧ Mt I I') (by decide) ⟨_, rfl, rfl, f4⟩ ⟨rfl, rfl, rfl, rfl, trivial⟩ ?_
  rintro j22 _ _ hj22 ⟨Ih22, rfl, rfl, fh22⟩ ih22
  refine a_l3 rfl rfl rfl ?_
  refine a_l1 rfl rfl rfl ?_
  refine a_ic_ge rfl (fun c24 => ?_) (fun c24 => ?_)
  · refine a_l0 rfl rfl rfl ?_
    refine a_getq rfl gfX11_37_11 rfl (rfl) ?_
    refine a_s rfl rfl ?_
    refine a_gV rfl lX11_200 mo_X5_bitsIn (q_X5_bitsIn_235) rfl rfl rfl ⟨5, _, rfl, rfl, rfl⟩ rfl (fun v' h' hv => ?_)
    obtain ⟨⟨v6, rfl⟩, rfl⟩ := hv
    refine a_l2 rfl rfl rfl ?_
    refine a_s rfl rfl ?_
    refine a_s rfl rfl ?_
    refine a_s rfl rfl ?_
    refine a_eS1 rfl lX11_261 mo_J6_bitCount_0f7a4 (sp_bitCount) rfl rfl rfl rfl ?_
    exact a_iret rfl rfl ⟨⟨_, rfl⟩, _, rfl, fh22⟩
  · refine a_l0 rfl rfl rfl ?_
    refine a_getq rfl gfX11_37_11 rfl (rfl) ?_
    refine a_l0 rfl rfl rfl ?_
    refine a_getq rfl gfX11_44_11 rfl (rfl) ?_
    refine a_s rfl rfl ?_
    refine a_gV rfl lX11_254 mo_X5_passDay (q_X5_passDay_235_246_sN (b2 := true)) rfl rfl rfl ⟨5, _, rfl, rfl, rfl⟩ rfl (fun v' h' hv => ?_)
    obtain ⟨rfl, I8, rfl, f9⟩ := hv
    replace f9 : Mt I I8 := Mt.fm (fh22) (Fm.mo (f9) sN_sM)
    refine a_l0 rfl rfl rfl ?_
    refine a_getq rfl gfX11_37_11 rfl (rfl) ?_
    refine a_geti rfl gfX11_185_5 rfl ?_
    refine a_s rfl rfl ?_
    refine a_ic_ne rfl (fun c47 => ?_) (fun c47 => ?_)
    · refine a_i3 rfl rfl rfl ?_
      refine a_goto rfl ?_
      exact ih22 _ _ _ _ c24 ⟨_, rfl, rfl, f9⟩ ⟨rfl, rfl, rfl, nS _, trivial⟩
    · refine a_l0 rfl rfl rfl ?_
      refine a_gV rfl lX11_258 mo_X11_letParadeGoBy (q_X11_letParadeGoBy_200_sN) rfl rfl rfl ⟨11, _, rfl, rfl, rfl⟩ rfl (fun v' h' hv => ?_)
      obtain ⟨rfl, I11, rfl, f12⟩ := hv
      replace f12 : Mt I I11 := Mt.fm (f9) (Fm.mo (f12) sN_sM)
      refine a_i3 rfl rfl rfl ?_
      refine a_goto rfl ?_
      exact ih22 _ _ _ _ c24 ⟨_, rfl, rfl, f12⟩ ⟨rfl, rfl, rfl, nS _, trivial⟩
theorem q_X11_undo_200 {S : aS} {I : Nat → Nat → Int32} {L : Nat → Nat → Int64} {w1 w2 t : Nat} : Sp S m_X11_undo 15 0 0 [.ref 200] (hp I L w1 w2 t) (QR (Mt I) isZ L w1 w2 t) nX := by
  refine Sp_of ok_X11_undo rfl rfl ?_
  show AW S m_X11_undo 15 _ _ 0 0 0 [some (.ref 200), none] [] (hp I L w1 w2 t)
  refine a_l0 rfl rfl rfl ?_
  refine a_geti rfl gfX11_95_11 rfl ?_
  refine a_s rfl rfl ?_
  refine a_ic_ge rfl (fun c5 => ?_) (fun c5 => ?_)
  · refine a_l0 rfl rfl rfl ?_
    refine a_s rfl rfl ?_
    refine a_geti rfl gfX11_95_11 rfl ?_
    refine a_s rfl rfl ?_
    refine a_s rfl rfl ?_
    refine a_puti rfl pfX11_95_11 rfl ?_
    refine a_ren (P := Mt I) (Mt.fm (Mt.rf) (Fm.up (Fm.rf (s := sM)) rfl)) (fun I1 f2 => ?_)
    refine a_l0 rfl rfl rfl ?_
    refine a_l0 rfl rfl rfl ?_
    refine a_geti rfl gfX11_368_11 rfl ?_
    refine a_l0 rfl rfl rfl ?_
    refine a_geti rfl gfX11_95_11 rfl ?_
    refine a_s rfl rfl ?_
    refine a_gV rfl lX11_371 mo_X11_pastAt (q_pastAt) rfl rfl rfl ⟨11, _, rfl, rfl, rfl⟩ rfl (fun v' h' hv => ?_)
    obtain ⟨rfl | ⟨i, hi, rfl⟩, rfl⟩ := hv
    · refine a_s1 rfl rfl rfl rfl rfl rfl ?_
      refine a_l1 rfl rfl rfl ?_
      refine a_ifnull_t rfl ?_
      refine a_s rfl rfl ?_
      exact a_zret rfl rfl rfl ⟨⟨true, rfl⟩, _, rfl, f2⟩
    · refine a_s1 rfl rfl rfl rfl rfl rfl ?_
      refine a_l1 rfl rfl rfl ?_
      refine a_ifnull_f rfl ?_
      refine a_l0 rfl rfl rfl ?_
      refine a_getq rfl gfX11_37_11 rfl (rfl) ?_
      refine a_l1 rfl rfl rfl ?_
      refine a_eV0 rfl lX11_375 mo_X5_copyAll (sp_X5_copyAll (a := 235) (b := 288 + 11 * i) (by decide) (past_st i hi) (by omega)) rfl rfl rfl ⟨5, _, rfl, rfl, rfl⟩ rfl ?_
      refine a_ren (P := Mt I) (Mt.tr (f2) (Mt.cpA (by decide) (past_st i hi) (by omega))) (fun I3 f4 => ?_)
      refine a_s rfl rfl ?_
      exact a_zret rfl rfl rfl ⟨⟨true, rfl⟩, _, rfl, f4⟩
  · refine a_s rfl rfl ?_
    exact a_zret rfl rfl rfl ⟨⟨false, rfl⟩, _, rfl, Mt.rf⟩
theorem q_X11_back_200 {S : aS} {I : Nat → Nat → Int32} {L : Nat → Nat → Int64} {w1 w2 t : Nat} : Sp S m_X11_back 15 0 0 [.ref 200] (hp I L w1 w2 t) (fun v h' => v = some (.int (bI (decide (¬ I 200 10 = 0)))) ∧ ∃ I', h' = hp I' L w1 w2 t ∧ Mt I I') nX := by
  refine Sp_of ok_X11_back rfl rfl ?_
  show AW S m_X11_back 15 _ _ 0 0 0 [some (.ref 200)] [] (hp I L w1 w2 t)
  refine a_l0 rfl rfl rfl ?_
  refine a_geti rfl gfX11_378_11 rfl ?_
  refine a_if_ne rfl (fun c4 => ?_) (fun c4 => ?_)
  · refine a_l0 rfl rfl rfl ?_
    refine a_getq rfl gfX11_37_11 rfl (rfl) ?_
    refine a_l0 rfl rfl rfl ?_
    refine a_getq rfl gfX11_58_11 rfl (rfl) ?_
    refine a_eV0 rfl lX11_375 mo_X5_copyAll (sp_X5_copyAll (a := 235) (b := 268) (by decide) (by decide) (by decide)) rfl rfl rfl ⟨5, _, rfl, rfl, rfl⟩ rfl ?_
    refine a_ren (P := Mt I) (Mt.tr (Mt.rf) (Mt.cpA (by decide) (by decide) (by decide))) (fun I1 f2 => ?_)
    refine a_l0 rfl rfl rfl ?_
    refine a_getq rfl gfX11_44_11 rfl (rfl) ?_
    refine a_l0 rfl rfl rfl ?_
    refine a_getq rfl gfX11_61_11 rfl (rfl) ?_
    refine a_eV0 rfl lX11_104 mo_X2_copyFrom (sp_X2_copyFrom (a := 246) (b := 279) (by decide) (by decide) (by decide)) rfl rfl rfl ⟨2, _, rfl, rfl, rfl⟩ rfl ?_
    refine a_ren (P := Mt I) (Mt.fm (f2) (Fm.cl (Fm.rf (s := sM)) (by decide) (Fm_l246))) (fun I3 f4 => ?_)
    refine a_l0 rfl rfl rfl ?_
    refine a_s rfl rfl ?_
    refine a_puti rfl pfX11_95_11 rfl ?_
    refine a_ren (P := Mt I) (Mt.fm (f4) (Fm.up (Fm.rf (s := sM)) rfl)) (fun I5 f6 => ?_)
    refine a_s rfl rfl ?_
    exact a_zret rfl rfl rfl ⟨by rw [decide_eq_true c4]; rfl, _, rfl, f6⟩
  · refine a_s rfl rfl ?_
    exact a_zret rfl rfl rfl ⟨by rw [decide_eq_false (fun z => z c4)]; rfl, _, rfl, Mt.rf⟩
theorem q_X11_image {S : aS} {I : Nat → Nat → Int32} {L : Nat → Nat → Int64} {w1 w2 t : Nat} : Sp S m_X11_image 15 0 0 [.ref 200] (hp I L w1 w2 t) (fun v h' => v = none ∧ ∃ I', h' = hp (up2 I' 200 10 1) L w1 w2 t ∧ Mt I I') nX := by
  refine Sp_of ok_X11_image rfl rfl ?_
  show AW S m_X11_image 15 _ _ 0 0 0 [some (.ref 200)] [] (hp I L w1 w2 t)
  refine a_l0 rfl rfl rfl ?_
  refine a_getq rfl gfX11_58_11 rfl (rfl) ?_
  refine a_l0 rfl rfl rfl ?_
  refine a_getq rfl gfX11_37_11 rfl (rfl) ?_
  refine a_eV0 rfl lX11_375 mo_X5_copyAll (sp_X5_copyAll (a := 268) (b := 235) (by decide) (by decide) (by decide)) rfl rfl rfl ⟨5, _, rfl, rfl, rfl⟩ rfl ?_
  refine a_ren (P := Mt I) (Mt.cpA (by decide) (by decide) (by decide)) (fun I1 f1 => ?_)
  refine a_l0 rfl rfl rfl ?_
  refine a_getq rfl gfX11_61_11 rfl (rfl) ?_
  refine a_l0 rfl rfl rfl ?_
  refine a_getq rfl gfX11_44_11 rfl (rfl) ?_
  refine a_eV0 rfl lX11_104 mo_X2_copyFrom (sp_X2_copyFrom (a := 279) (b := 246) (by decide) (by decide) (by decide)) rfl rfl rfl ⟨2, _, rfl, rfl, rfl⟩ rfl ?_
  refine a_ren (P := Mt I) (f1.fm ((Fm.rf (s := sM)).cl (by decide) (Fm_l279))) (fun I2 f2 => ?_)
  refine a_l0 rfl rfl rfl ?_
  refine a_s rfl rfl ?_
  refine a_putz rfl pfX11_378_11 ⟨rfl, rfl⟩ rfl ?_
  exact a_vret rfl rfl ⟨rfl, _, rfl, f2⟩
def endB (n l : Int32) : Bool := decide (¬ n < 0 ∧ n ≤ l)
theorem q_X11_end {S : aS} {I : Nat → Nat → Int32} {L : Nat → Nat → Int64} {w1 w2 t : Nat} {x : Int32} : SpE S m_X11_end 12 [.ref 200, .int x] (hp I L w1 w2 t) (some (.int (bI (endB x (I 201 1))))) (hp (if endB x (I 201 1) then up2 I 201 1 x else I) L w1 w2 t) := by
  refine SpE_of ok_X11_end rfl rfl ?_
  show AW S m_X11_end 12 _ _ 0 0 0 [some (.ref 200), some (.int x)] [] (hp I L w1 w2 t)
  refine a_l1 rfl rfl rfl ?_
  refine a_if_lt rfl (fun c1 => ?_) (fun c1 => ?_)
  · refine a_s rfl rfl ?_
    exact a_zret rfl rfl rfl ⟨by simp [endB, bI, c1], by simp [endB, c1]⟩
  · refine a_l1 rfl rfl rfl ?_
    refine a_l0 rfl rfl rfl ?_
    refine a_getq rfl gfX11_10_11 rfl (rfl) ?_
    refine a_geti rfl gfX11_68_7 rfl ?_
    refine a_ic_le rfl (fun c12 => ?_) (fun c12 => ?_)
    · refine a_l0 rfl rfl rfl ?_
      refine a_getq rfl gfX11_10_11 rfl (rfl) ?_
      refine a_l1 rfl rfl rfl ?_
      refine a_puti rfl pfX11_68_7 rfl ?_
      refine a_s rfl rfl ?_
      have e : endB x (I 201 1) = true := decide_eq_true ⟨c1, c12⟩
      exact a_zret rfl rfl rfl ⟨by rw [e]; rfl, by rw [e]; rfl⟩
    · refine a_s rfl rfl ?_
      have e : endB x (I 201 1) = false := decide_eq_false (fun z => c12 z.2)
      exact a_zret rfl rfl rfl ⟨by rw [e]; rfl, by rw [e]; rfl⟩
/-- four bytes more -/
def byA (x : Int32) (s : Int32) : Int32 := (x >>> (s &&& 31)).toInt8.toInt32
def apH (I : Nat → Nat → Int32) (l : Nat) (x : Int32) : Nat → Nat → Int32 := up2 (up2 (up2 (up2 (up2 (up2 (up2 (up2 I 202 l (byA x 24)) 201 1 (nI (l + 1))) 202 (l + 1) (byA x 16)) 201 1 (nI (l + 2))) 202 (l + 2) (byA x 8)) 201 1 (nI (l + 3))) 202 (l + 3) (byA x 0)) 201 1 (nI (l + 4))
theorem q_X7_append {S : aS} {I : Nat → Nat → Int32} {L : Nat → Nat → Int64} {w1 w2 t : Nat} {l : Nat} {x : Int32} (hl : I 201 1 = nI l) (h4 : l + 4 ≤ 400) : SpE S m_X7_append 12 [.ref 201, .int x] (hp I L w1 w2 t) none (hp (apH I l x) L w1 w2 t) := by
  refine SpE_of ok_X7_append rfl rfl ?_
  show AW S m_X7_append 12 _ _ 0 0 0 [some (.ref 201), some (.int x), none] [] (hp I L w1 w2 t)
  refine a_s rfl rfl ?_
  refine a_s2 rfl rfl rfl rfl rfl rfl ?_
  refine a_l2 rfl rfl rfl ?_
  refine a_if_lt rfl (fun c => absurd c (by decide)) (fun _ => ?_)
  refine a_l0 rfl rfl rfl ?_
  refine a_geti rfl gfX7_15_7 rfl ?_
  refine a_top (y := nI (l)) (hl) ?_
  refine a_if_lt rfl (fun c => absurd c (nI_pos (by omega))) (fun _ => ?_)
  refine a_l0 rfl rfl rfl ?_
  refine a_geti rfl gfX7_15_7 rfl ?_
  refine a_top (y := nI (l)) (hl) ?_
  refine a_l0 rfl rfl rfl ?_
  refine a_getq rfl gfX7_9_7 rfl (rfl) ?_
  refine a_len rfl rfl rfl rfl ?_
  refine a_ic_ge rfl (fun c => absurd c (nI_ge (b := 400) (by omega) (by omega))) (fun _ => ?_)
  refine a_l0 rfl rfl rfl ?_
  refine a_getq rfl gfX7_9_7 rfl (rfl) ?_
  refine a_l0 rfl rfl rfl ?_
  refine a_geti rfl gfX7_15_7 rfl ?_
  refine a_top (y := nI (l)) (hl) ?_
  refine a_l1 rfl rfl rfl ?_
  refine a_l2 rfl rfl rfl ?_
  refine a_s rfl rfl ?_
  refine a_s rfl rfl ?_
  refine a_bastv (k := l) rfl rfl (inI_nI (by omega) (by omega)) (i2b_id _) (nI_clamp (by omega)) ?_
  refine a_l0 rfl rfl rfl ?_
  refine a_s rfl rfl ?_
  refine a_geti rfl gfX7_15_7 rfl ?_
  refine a_top (y := nI (l)) ((congrFun (up2_row (by decide)) 1).trans hl) ?_
  refine a_s rfl rfl ?_
  refine a_s rfl rfl ?_
  refine a_top (y := nI (l + 1)) (nI_succ _).symm ?_
  refine a_puti rfl pfX7_15_7 rfl ?_
  refine a_i2 rfl rfl rfl ?_
  refine a_goto rfl ?_
  refine a_l2 rfl rfl rfl ?_
  refine a_if_lt rfl (fun c => absurd c (by decide)) (fun _ => ?_)
  refine a_l0 rfl rfl rfl ?_
  refine a_geti rfl gfX7_15_7 rfl ?_
  refine a_top (y := nI (l + 1)) (up2_at) ?_
  refine a_if_lt rfl (fun c => absurd c (nI_pos (by omega))) (fun _ => ?_)
  refine a_l0 rfl rfl rfl ?_
  refine a_geti rfl gfX7_15_7 rfl ?_
  refine a_top (y := nI (l + 1)) (up2_at) ?_
  refine a_l0 rfl rfl rfl ?_
  refine a_getq rfl gfX7_9_7 rfl (rfl) ?_
  refine a_len rfl rfl rfl rfl ?_
  refine a_ic_ge rfl (fun c => absurd c (nI_ge (b := 400) (by omega) (by omega))) (fun _ => ?_)
  refine a_l0 rfl rfl rfl ?_
  refine a_getq rfl gfX7_9_7 rfl (rfl) ?_
  refine a_l0 rfl rfl rfl ?_
  refine a_geti rfl gfX7_15_7 rfl ?_
  refine a_top (y := nI (l + 1)) (up2_at) ?_
  refine a_l1 rfl rfl rfl ?_
  refine a_l2 rfl rfl rfl ?_
  refine a_s rfl rfl ?_
  refine a_s rfl rfl ?_
  refine a_bastv (k := l + 1) rfl rfl (inI_nI (by omega) (by omega)) (i2b_id _) (nI_clamp (by omega)) ?_
  refine a_l0 rfl rfl rfl ?_
  refine a_s rfl rfl ?_
  refine a_geti rfl gfX7_15_7 rfl ?_
  refine a_top (y := nI (l + 1)) ((congrFun (up2_row (by decide)) 1).trans up2_at) ?_
  refine a_s rfl rfl ?_
  refine a_s rfl rfl ?_
  refine a_top (y := nI (l + 2)) (nI_succ _).symm ?_
  refine a_puti rfl pfX7_15_7 rfl ?_
  refine a_i2 rfl rfl rfl ?_
  refine a_goto rfl ?_
  refine a_l2 rfl rfl rfl ?_
  refine a_if_lt rfl (fun c => absurd c (by decide)) (fun _ => ?_)
  refine a_l0 rfl rfl rfl ?_
  refine a_geti rfl gfX7_15_7 rfl ?_
  refine a_top (y := nI (l + 2)) (up2_at) ?_
  refine a_if_lt rfl (fun c => absurd c (nI_pos (by omega))) (fun _ => ?_)
  refine a_l0 rfl rfl rfl ?_
  refine a_geti rfl gfX7_15_7 rfl ?_
  refine a_top (y := nI (l + 2)) (up2_at) ?_
  refine a_l0 rfl rfl rfl ?_
  refine a_getq rfl gfX7_9_7 rfl (rfl) ?_
  refine a_len rfl rfl rfl rfl ?_
  refine a_ic_ge rfl (fun c => absurd c (nI_ge (b := 400) (by omega) (by omega))) (fun _ => ?_)
  refine a_l0 rfl rfl rfl ?_
  refine a_getq rfl gfX7_9_7 rfl (rfl) ?_
  refine a_l0 rfl rfl rfl ?_
  refine a_geti rfl gfX7_15_7 rfl ?_
  refine a_top (y := nI (l + 2)) (up2_at) ?_
  refine a_l1 rfl rfl rfl ?_
  refine a_l2 rfl rfl rfl ?_
  refine a_s rfl rfl ?_
  refine a_s rfl rfl ?_
  refine a_bastv (k := l + 2) rfl rfl (inI_nI (by omega) (by omega)) (i2b_id _) (nI_clamp (by omega)) ?_
  refine a_l0 rfl rfl rfl ?_
  refine a_s rfl rfl ?_
  refine a_geti rfl gfX7_15_7 rfl ?_
  refine a_top (y := nI (l + 2)) ((congrFun (up2_row (by decide)) 1).trans up2_at) ?_
  refine a_s rfl rfl ?_
  refine a_s rfl rfl ?_
  refine a_top (y := nI (l + 3)) (nI_succ _).symm ?_
  refine a_puti rfl pfX7_15_7 rfl ?_
  refine a_i2 rfl rfl rfl ?_
  refine a_goto rfl ?_
  refine a_l2 rfl rfl rfl ?_
  refine a_if_lt rfl (fun c => absurd c (by decide)) (fun _ => ?_)
  refine a_l0 rfl rfl rfl ?_
  refine a_geti rfl gfX7_15_7 rfl ?_
  refine a_top (y := nI (l + 3)) (up2_at) ?_
  refine a_if_lt rfl (fun c => absurd c (nI_pos (by omega))) (fun _ => ?_)
  refine a_l0 rfl rfl rfl ?_
  refine a_geti rfl gfX7_15_7 rfl ?_
  refine a_top (y := nI (l + 3)) (up2_at) ?_
  refine a_l0 rfl rfl rfl ?_
  refine a_getq rfl gfX7_9_7 rfl (rfl) ?_
  refine a_len rfl rfl rfl rfl ?_
  refine a_ic_ge rfl (fun c => absurd c (nI_ge (b := 400) (by omega) (by omega))) (fun _ => ?_)
  refine a_l0 rfl rfl rfl ?_
  refine a_getq rfl gfX7_9_7 rfl (rfl) ?_
  refine a_l0 rfl rfl rfl ?_
  refine a_geti rfl gfX7_15_7 rfl ?_
  refine a_top (y := nI (l + 3)) (up2_at) ?_
  refine a_l1 rfl rfl rfl ?_
  refine a_l2 rfl rfl rfl ?_
  refine a_s rfl rfl ?_
  refine a_s rfl rfl ?_
  refine a_bastv (k := l + 3) rfl rfl (inI_nI (by omega) (by omega)) (i2b_id _) (nI_clamp (by omega)) ?_
  refine a_l0 rfl rfl rfl ?_
  refine a_s rfl rfl ?_
  refine a_geti rfl gfX7_15_7 rfl ?_
  refine a_top (y := nI (l + 3)) ((congrFun (up2_row (by decide)) 1).trans up2_at) ?_
  refine a_s rfl rfl ?_
  refine a_s rfl rfl ?_
  refine a_top (y := nI (l + 4)) (nI_succ _).symm ?_
  refine a_puti rfl pfX7_15_7 rfl ?_
  refine a_i2 rfl rfl rfl ?_
  refine a_goto rfl ?_
  refine a_l2 rfl rfl rfl ?_
  refine a_if_lt rfl (fun _ => ?_) (fun c => absurd (by decide) c)
  exact a_vret rfl rfl ⟨rfl, rfl⟩
theorem apH_len {I : Nat → Nat → Int32} {l : Nat} {x : Int32} : apH I l x 201 1 = nI (l + 4) := up2_at
theorem apH_row {I : Nat → Nat → Int32} {l q : Nat} {x : Int32} (h1 : q ≠ 201) (h2 : q ≠ 202) : apH I l x q = I q := by
  unfold apH
  rw [up2_row h1, up2_row h2, up2_row h1, up2_row h2, up2_row h1, up2_row h2, up2_row h1, up2_row h2]
def fdH (I : Nat → Nat → Int32) (l : Nat) (x1 x2 x3 x4 x5 : Int32) : Nat → Nat → Int32 := apH (apH (apH (apH (apH I l x1) (l + 4) x2) (l + 8) x3) (l + 12) x4) (l + 16) x5
theorem q_X11_feed {S : aS} {I : Nat → Nat → Int32} {L : Nat → Nat → Int64} {w1 w2 t : Nat} {l : Nat} {x1 x2 x3 x4 x5 : Int32} (hl : I 201 1 = nI l) (h4 : l ≤ 400) : SpE S m_X11_feed 13 [.ref 200, .int x1, .int x2, .int x3, .int x4, .int x5] (hp I L w1 w2 t) (some (.int (if l + 20 ≤ 400 then nI (l + 20) else -1))) (hp (if l + 20 ≤ 400 then fdH I l x1 x2 x3 x4 x5 else I) L w1 w2 t) := by
  refine SpE_of ok_X11_feed rfl rfl ?_
  show AW S m_X11_feed 13 _ _ 0 0 0 [some (.ref 200), some (.int x1), some (.int x2), some (.int x3), some (.int x4), some (.int x5)] [] (hp I L w1 w2 t)
  refine a_l0 rfl rfl rfl ?_
  refine a_getq rfl gfX11_10_11 rfl (rfl) ?_
  refine a_geti rfl gfX11_68_7 rfl ?_
  refine a_top (y := nI l) hl ?_
  refine a_s rfl rfl ?_
  refine a_s rfl rfl ?_
  refine a_top (y := nI (l + 20)) (nI_addl l 20) ?_
  refine a_s rfl rfl ?_
  refine a_ic_le rfl (fun c => ?_) (fun c => ?_)
  · have hc : l + 20 ≤ 400 := nI_ge_of (a := 400) (b := l + 20) c (by decide) (by omega)
    rw [if_pos hc, if_pos hc]
    refine a_l0 rfl rfl rfl ?_
    refine a_getq rfl gfX11_10_11 rfl (rfl) ?_
    refine a_l1 rfl rfl rfl ?_
    refine a_eV0 rfl lX11_71 mo_X7_append (q_X7_append (l := l) hl (by omega)) rfl rfl rfl ⟨7, _, rfl, rfl, rfl⟩ rfl ?_
    refine a_l0 rfl rfl rfl ?_
    refine a_getq rfl gfX11_10_11 rfl (rfl) ?_
    refine a_l2 rfl rfl rfl ?_
    refine a_eV0 rfl lX11_71 mo_X7_append (q_X7_append (l := l + 4) apH_len (by omega)) rfl rfl rfl ⟨7, _, rfl, rfl, rfl⟩ rfl ?_
    refine a_l0 rfl rfl rfl ?_
    refine a_getq rfl gfX11_10_11 rfl (rfl) ?_
    refine a_l3 rfl rfl rfl ?_
    refine a_eV0 rfl lX11_71 mo_X7_append (q_X7_append (l := l + 8) apH_len (by omega)) rfl rfl rfl ⟨7, _, rfl, rfl, rfl⟩ rfl ?_
    refine a_l0 rfl rfl rfl ?_
    refine a_getq rfl gfX11_10_11 rfl (rfl) ?_
    refine a_l4 rfl rfl rfl ?_
    refine a_eV0 rfl lX11_71 mo_X7_append (q_X7_append (l := l + 12) apH_len (by omega)) rfl rfl rfl ⟨7, _, rfl, rfl, rfl⟩ rfl ?_
    refine a_l0 rfl rfl rfl ?_
    refine a_getq rfl gfX11_10_11 rfl (rfl) ?_
    refine a_l5 rfl rfl rfl ?_
    refine a_eV0 rfl lX11_71 mo_X7_append (q_X7_append (l := l + 16) apH_len (by omega)) rfl rfl rfl ⟨7, _, rfl, rfl, rfl⟩ rfl ?_
    refine a_l0 rfl rfl rfl ?_
    refine a_getq rfl gfX11_10_11 rfl (rfl) ?_
    refine a_geti rfl gfX11_68_7 rfl ?_
    refine a_top (y := nI (l + 20)) apH_len ?_
    exact a_iret rfl rfl ⟨rfl, rfl⟩
  · have hc : ¬ l + 20 ≤ 400 := fun z => c (nI_leu z (by decide))
    rw [if_neg hc, if_neg hc]
    refine a_s rfl rfl ?_
    exact a_iret rfl rfl ⟨rfl, rfl⟩
end
section
/-! ===== constants: the words, their texts, strings ===== -/
section A56
variable {S : aS} {C C' : aM} {d d' : Nat} {Q Q' : Option Value → aH → Prop} {X X' : String → aH → Prop} {k1 k2 j1 j2 pc np tgt n : Nat} {w : Int32} {ls ls' : List (Option Value)} {st st' st0 : List Value} {h h' : aH} {ins : Instr} {As : List Value} {v : Value}
theorem a_i2c {x y : Int32} {r : List Value} (hC : look C pc = some (.i2c, np, tgt, w)) (hv : x.toUInt32.toUInt16.toUInt32.toInt32 = y) (k : AW S C d Q X k1 k2 np ls (.int y :: r) h) : AW S C d Q X k1 k2 pc ls (.int x :: r) h := by
  intro p l e s m args below meth c H la locs cells slots mc ms G CC hS hL hR hF h1 h2
  have K := k p l e s m args below meth c H la locs cells slots mc ms G CC hS hL hR hF h1 h2
  obtain ⟨hd, rfl, -⟩ := okd CC.2.2.2.2.2.2.2.2.2 hC rfl
  have hexec := CC.1
  have hb := CC.2.1
  intro T hT X
  obtain ⟨t, a, b⟩ := K T hT X
  refine ⟨t, ?_, b⟩
  rw [List.map_cons, show mv G (Value.int y) = .int y from rfl, ← hv] at a
  rw [List.map_cons, show mv G (Value.int x) = .int x from rfl]
  jvm_step X.here [X.here.top, hexec, hb, hd]
  exact a
theorem a_bret {x : Int32} (hC : look C pc = some (.ireturn, np, tgt, w)) (hr : C.2.2.2.1 = some .byte) (hx : narrow .byte (.int x) = .int x) (hQ : Q (some (.int x)) h) : AW S C d Q X k1 k2 pc ls [.int x] h := by
  intro p' l e s m args below meth c H la locs cells slots mc ms G CC hS hL hR hF h1 h2
  obtain ⟨hd, rfl, -⟩ := okd CC.2.2.2.2.2.2.2.2.2 hC rfl
  have hlk := CC.2.2.2.1
  refine vx_ret (W.widen (k := mc) (n := ms) (by omega) (by omega) (W.zret CC.1 CC.2.1 (CC.2.2.1.trans hr) hx (fun t ht hW => ⟨some (.int x), h, rfl, hQ, by rw [ht]; exact hR, hF.F ht⟩) hF.2.2 hd hlk))
end A56
def dWd : String := "LPutOffParade$Word;"
def wNm (i : Nat) : String := (["PERSON", "AT", "FREE", "DUTY", "OF", "TAKES", "AGE", "TOOL", "ON", "FORGOTTEN", "ILL", "PACE", "PRICE", "DAY", "MONTH", "GROW", "SHAME", "EASE", "IF", "OR", "AND", "NOT", "READY", "OLD", "LEFT", "OWNER", "KERB"] : List String).getD i ""
def wTx (i : Nat) : String := (["person", "at", "free", "duty", "of", "takes", "age", "tool", "on", "forgotten", "ill", "pace", "price", "day", "month", "grow", "shame", "ease", "if", "or", "and", "not", "ready", "old", "left", "owner", "kerb"] : List String).getD i ""
def wBy (i : Nat) : List Nat := ([[112, 101, 114, 115, 111, 110], [97, 116], [102, 114, 101, 101], [100, 117, 116, 121], [111, 102], [116, 97, 107, 101, 115], [97, 103, 101], [116, 111, 111, 108], [111, 110], [102, 111, 114, 103, 111, 116, 116, 101, 110], [105, 108, 108], [112, 97, 99, 101], [112, 114, 105, 99, 101], [100, 97, 121], [109, 111, 110, 116, 104], [103, 114, 111, 119], [115, 104, 97, 109, 101], [101, 97, 115, 101], [105, 102], [111, 114], [97, 110, 100], [110, 111, 116], [114, 101, 97, 100, 121], [111, 108, 100], [108, 101, 102, 116], [111, 119, 110, 101, 114], [107, 101, 114, 98]] : List (List Nat)).getD i []
def wMi (i : Nat) : Nat := ([139, 116, 121, 145, 123, 124, 126, 131, 133, 150, 155, 160, 162, 164, 166, 218, 220, 222, 224, 216, 211, 200, 190, 192, 171, 173, 175] : List Nat).getD i 0
def wPa (i : Nat) : Int32 := ([(-1), (-1), (-1), 1000, (-1), (-1), 1002, 1003, (-1), (-1), (-1), (-1), (-1), 1006, (-1), (-1), (-1), (-1), (-1), (-1), (-1), (-1), (-1), (-1), 1001, 1004, 1005] : List Int32).getD i (-1)
def wLen (i : Nat) : Nat := (wBy i).length
def wC (i j : Nat) : Int32 := nI ((wBy i).getD j 0)
/-- places: words 100 + i, texts 130 + i, their bytes 160 + i, all words 190, the formatter 191 -/
def WdS (S : aS) : Prop :=
  (∀ i, i < 27 → (RX10, wNm i, dWd, Value.ref (100 + i)) ∈ S.1) ∧ (RX9, "WORDS", "[LPutOffParade$Word;", Value.ref 190) ∈ S.1 ∧ (RJ0, "COMPACT_STRINGS", "Z", Value.int 1) ∈ S.1 ∧ (∃ v, (v = Value.null ∨ v = Value.ref 191) ∧ (RJ3, "SIOOBE_FORMATTER", "Ljava/util/function/BiFunction;", v) ∈ S.1) ∧
  (∀ i, i < 27 → (100 + i, RX10) ∈ S.2.1) ∧ (∀ i, i < 27 → (130 + i, RJ0) ∈ S.2.1) ∧
  (∀ i, i < 27 → (100 + i, RX10, "text", "Ljava/lang/String;", Value.ref (130 + i)) ∈ S.2.2.1) ∧ (∀ i, i < 27 → (100 + i, RX10, "part", "I", Value.int (wPa i)) ∈ S.2.2.1) ∧
  (∀ i, i < 27 → (130 + i, RJ0, "value", "[B", Value.ref (160 + i)) ∈ S.2.2.1) ∧ (∀ i, i < 27 → (130 + i, RJ0, "coder", "B", Value.int 0) ∈ S.2.2.1) ∧
  (190, FieldType.object RX10, 27, fun j => Value.ref (100 + j)) ∈ S.2.2.2.1 ∧ (∀ i, i < 27 → (160 + i, FieldType.byte, wLen i, fun j => Value.int (wC i j)) ∈ S.2.2.2.1) ∧
  (∀ i, i < 27 → (RX12, wMi i, wTx i, 130 + i) ∈ S.2.2.2.2.1)
section B56
variable {S : aS}
theorem WdS.st (h : WdS S) {i : Nat} (hi : i < 27) : (RX10, wNm i, dWd, Value.ref (100 + i)) ∈ S.1 := h.1 i hi
theorem WdS.al (h : WdS S) : (RX9, "WORDS", "[LPutOffParade$Word;", Value.ref 190) ∈ S.1 := h.2.1
theorem WdS.cs (h : WdS S) : (RJ0, "COMPACT_STRINGS", "Z", Value.int 1) ∈ S.1 := h.2.2.1
theorem WdS.sf (h : WdS S) : (∃ v, (v = Value.null ∨ v = Value.ref 191) ∧ (RJ3, "SIOOBE_FORMATTER", "Ljava/util/function/BiFunction;", v) ∈ S.1) := h.2.2.2.1
theorem WdS.ob (h : WdS S) {i : Nat} (hi : i < 27) : (100 + i, RX10) ∈ S.2.1 := h.2.2.2.2.1 i hi
theorem WdS.so (h : WdS S) {i : Nat} (hi : i < 27) : (130 + i, RJ0) ∈ S.2.1 := h.2.2.2.2.2.1 i hi
theorem WdS.tx (h : WdS S) {i : Nat} (hi : i < 27) : (100 + i, RX10, "text", "Ljava/lang/String;", Value.ref (130 + i)) ∈ S.2.2.1 := h.2.2.2.2.2.2.1 i hi
theorem WdS.pa (h : WdS S) {i : Nat} (hi : i < 27) : (100 + i, RX10, "part", "I", Value.int (wPa i)) ∈ S.2.2.1 := h.2.2.2.2.2.2.2.1 i hi
theorem WdS.va (h : WdS S) {i : Nat} (hi : i < 27) : (130 + i, RJ0, "value", "[B", Value.ref (160 + i)) ∈ S.2.2.1 := h.2.2.2.2.2.2.2.2.1 i hi
theorem WdS.co (h : WdS S) {i : Nat} (hi : i < 27) : (130 + i, RJ0, "coder", "B", Value.int 0) ∈ S.2.2.1 := h.2.2.2.2.2.2.2.2.2.1 i hi
theorem WdS.ar (h : WdS S) : (190, FieldType.object RX10, 27, fun j => Value.ref (100 + j)) ∈ S.2.2.2.1 := h.2.2.2.2.2.2.2.2.2.2.1
theorem WdS.by (h : WdS S) {i : Nat} (hi : i < 27) : (160 + i, FieldType.byte, wLen i, fun j => Value.int (wC i j)) ∈ S.2.2.2.1 := h.2.2.2.2.2.2.2.2.2.2.2.1 i hi
theorem WdS.ld (h : WdS S) {i : Nat} (hi : i < 27) : (RX12, wMi i, wTx i, 130 + i) ∈ S.2.2.2.2.1 := h.2.2.2.2.2.2.2.2.2.2.2.2 i hi
theorem wC_ok : ∀ i, i < 27 → ∀ j, j < wLen i → ∃ b, 97 ≤ b ∧ b ≤ 122 ∧ wC i j = nI b ∧ (wC i j &&& 255).toUInt32.toUInt16.toUInt32.toInt32 = nI b := by
  have h : ∀ i, i < 27 → ∀ j, j < wLen i → 97 ≤ (wBy i).getD j 0 ∧ (wBy i).getD j 0 ≤ 122 := by decide +kernel
  have h2 : ∀ b, b < 123 → (nI b &&& 255).toUInt32.toUInt16.toUInt32.toInt32 = nI b := by decide +kernel
  intro i hi j hj
  have := h i hi j hj
  exact ⟨_, this.1, this.2, rfl, h2 _ (by omega)⟩
theorem nr_char : ∀ b, b < 123 → narrow .char (.int (nI b)) = .int (nI b) := by decide +kernel
set_option maxRecDepth 100000
theorem q_coder {h : aH} (hw : WdS S) {i : Nat} (hi : i < 27) : SpE S m_J0_coder_7d493 12 [.ref (130 + i)] h (some (.int 0)) h := by
  refine SpE_of ok_J0_coder_7d493 rfl rfl ?_
  show AW S m_J0_coder_7d493 12 _ _ 0 0 0 [some (.ref (130 + i))] [] h
  refine a_gets rfl (inC4 (i := 14) rfl rfl) hw.cs ?_
  refine a_if_eq rfl (fun c => absurd c (by decide)) (fun _ => ?_)
  refine a_l0 rfl rfl rfl ?_
  refine a_getc rfl (inC10 (i := 52) rfl rfl) (hw.co hi) ?_
  refine a_goto rfl ?_
  exact a_bret rfl rfl rfl ⟨rfl, rfl⟩
theorem q_isLatin1 {h : aH} (hw : WdS S) {i : Nat} (hi : i < 27) : SpE S m_J0_isLatin1_aae02 12 [.ref (130 + i)] h (some (.int 1)) h := by
  refine SpE_of ok_J0_isLatin1_aae02 rfl rfl ?_
  show AW S m_J0_isLatin1_aae02 12 _ _ 0 0 0 [some (.ref (130 + i))] [] h
  refine a_gets rfl (inC4 (i := 14) rfl rfl) hw.cs ?_
  refine a_if_eq rfl (fun c => absurd c (by decide)) (fun _ => ?_)
  refine a_l0 rfl rfl rfl ?_
  refine a_getc rfl (inC10 (i := 52) rfl rfl) (hw.co hi) ?_
  refine a_if_ne rfl (fun c => absurd rfl c) (fun _ => ?_)
  refine a_s rfl rfl ?_
  refine a_goto rfl ?_
  exact a_zret rfl rfl rfl ⟨rfl, rfl⟩
theorem q_strlen {h : aH} (hw : WdS S) {i : Nat} (hi : i < 27) : SpE S m_J0_length_8abf5 13 [.ref (130 + i)] h (some (.int (nI (wLen i)))) h := by
  refine SpE_of ok_J0_length_8abf5 rfl rfl ?_
  show AW S m_J0_length_8abf5 13 _ _ 0 0 0 [some (.ref (130 + i))] [] h
  refine a_l0 rfl rfl rfl ?_
  refine a_getc rfl (inC10 (i := 51) rfl rfl) (hw.va hi) ?_
  refine a_lenc rfl (hw.by hi) rfl ?_
  refine a_l0 rfl rfl rfl ?_
  refine a_eK1 rfl lJ0_335 mo_J0_coder_7d493 (q_coder hw hi) rfl rfl rfl (hw.so hi) rfl ?_
  refine a_s rfl rfl ?_
  refine a_top (y := nI (wLen i)) ?_ ?_
  · have h : ∀ i, i < 27 → nI (wLen i) >>> (0 &&& 31) = nI (wLen i) := by decide +kernel
    exact h i hi
  · exact a_iret rfl rfl ⟨rfl, rfl⟩
theorem q_chk3 {h : aH} {j n : Nat} (hj : j < n) (hn : n < 2 ^ 31) : SpE S m_J3_checkIndex_8e157 12 [.int (nI j), .int (nI n), .ref 191] h (some (.int (nI j))) h := by
  refine SpE_of ok_J3_checkIndex_8e157 rfl rfl ?_
  show AW S m_J3_checkIndex_8e157 12 _ _ 0 0 0 [some (.int (nI j)), some (.int (nI n)), some (.ref 191)] [] h
  refine a_l0 rfl rfl rfl ?_
  refine a_if_lt rfl (fun c => absurd c (nI_pos (by omega))) (fun _ => ?_)
  refine a_l0 rfl rfl rfl ?_
  refine a_l1 rfl rfl rfl ?_
  refine a_ic_lt rfl (fun _ => ?_) (fun c => absurd (nI_ltu hj hn) c)
  refine a_l0 rfl rfl rfl ?_
  exact a_iret rfl rfl ⟨rfl, rfl⟩
theorem q_chk3n {h : aH} {j n : Nat} (hj : j < n) (hn : n < 2 ^ 31) : SpE S m_J3_checkIndex_8e157 12 [.int (nI j), .int (nI n), .null] h (some (.int (nI j))) h := by
  refine SpE_of ok_J3_checkIndex_8e157 rfl rfl ?_
  show AW S m_J3_checkIndex_8e157 12 _ _ 0 0 0 [some (.int (nI j)), some (.int (nI n)), some (.null)] [] h
  refine a_l0 rfl rfl rfl ?_
  refine a_if_lt rfl (fun c => absurd c (nI_pos (by omega))) (fun _ => ?_)
  refine a_l0 rfl rfl rfl ?_
  refine a_l1 rfl rfl rfl ?_
  refine a_ic_lt rfl (fun _ => ?_) (fun c => absurd (nI_ltu hj hn) c)
  refine a_l0 rfl rfl rfl ?_
  exact a_iret rfl rfl ⟨rfl, rfl⟩
theorem q_chk0 {h : aH} (hw : WdS S) {j n : Nat} (hj : j < n) (hn : n < 2 ^ 31) : SpE S m_J0_checkIndex_df160 13 [.int (nI j), .int (nI n)] h none h := by
  refine SpE_of ok_J0_checkIndex_df160 rfl rfl ?_
  show AW S m_J0_checkIndex_df160 13 _ _ 0 0 0 [some (.int (nI j)), some (.int (nI n))] [] h
  obtain ⟨v, rfl | rfl, hm⟩ := hw.sf
  · refine a_l0 rfl rfl rfl ?_
    refine a_l1 rfl rfl rfl ?_
    refine a_gets rfl (inC4 (i := 30) rfl rfl) hm ?_
    refine a_eS1 rfl lJ0_1059 mo_J3_checkIndex_8e157 (q_chk3n hj hn) rfl rfl rfl rfl ?_
    refine a_s rfl rfl ?_
    exact a_vret rfl rfl ⟨rfl, rfl⟩
  · refine a_l0 rfl rfl rfl ?_
    refine a_l1 rfl rfl rfl ?_
    refine a_gets rfl (inC4 (i := 30) rfl rfl) hm ?_
    refine a_eS1 rfl lJ0_1059 mo_J3_checkIndex_8e157 (q_chk3 hj hn) rfl rfl rfl rfl ?_
    refine a_s rfl rfl ?_
    exact a_vret rfl rfl ⟨rfl, rfl⟩
theorem wLen_lt : ∀ i, i < 27 → wLen i < 2 ^ 31 := by decide +kernel
theorem q_chL {h : aH} (hw : WdS S) {i j : Nat} (hi : i < 27) (hj : j < wLen i) : SpE S m_J1_charAt_3b067 14 [.ref (160 + i), .int (nI j)] h (some (.int (wC i j))) h := by
  refine SpE_of ok_J1_charAt_3b067 rfl rfl ?_
  show AW S m_J1_charAt_3b067 14 _ _ 0 0 0 [some (.ref (160 + i)), some (.int (nI j))] [] h
  have hn := wLen_lt i hi
  obtain ⟨b, b1, b2, b3, b4⟩ := wC_ok i hi j hj
  refine a_l1 rfl rfl rfl ?_
  refine a_l0 rfl rfl rfl ?_
  refine a_lenc rfl (hw.by hi) rfl ?_
  refine a_eS0 rfl lJ1_9 mo_J0_checkIndex_df160 (q_chk0 hw hj hn) rfl rfl rfl rfl ?_
  refine a_l0 rfl rfl rfl ?_
  refine a_l1 rfl rfl rfl ?_
  refine a_baldc rfl (hw.by hi) (inI_nI hj hn) ?_
  refine a_top (y := wC i j) (by rw [nI_clamp (by omega)]) ?_
  refine a_s rfl rfl ?_
  refine a_s rfl rfl ?_
  refine a_i2c rfl b4 ?_
  exact a_cret rfl rfl (nr_char b (by omega)) ⟨by rw [b3], rfl⟩
theorem q_charAt {h : aH} (hw : WdS S) {i j : Nat} (hi : i < 27) (hj : j < wLen i) : SpE S m_J0_charAt_5068e 15 [.ref (130 + i), .int (nI j)] h (some (.int (wC i j))) h := by
  refine SpE_of ok_J0_charAt_5068e rfl rfl ?_
  show AW S m_J0_charAt_5068e 15 _ _ 0 0 0 [some (.ref (130 + i)), some (.int (nI j))] [] h
  obtain ⟨b, b1, b2, b3, b4⟩ := wC_ok i hi j hj
  refine a_l0 rfl rfl rfl ?_
  refine a_eK1 rfl lJ0_492 mo_J0_isLatin1_aae02 (q_isLatin1 hw hi) rfl rfl rfl (hw.so hi) rfl ?_
  refine a_if_eq rfl (fun c => absurd c (by decide)) (fun _ => ?_)
  refine a_l0 rfl rfl rfl ?_
  refine a_getc rfl (inC10 (i := 51) rfl rfl) (hw.va hi) ?_
  refine a_l1 rfl rfl rfl ?_
  refine a_eS1 rfl lJ0_495 mo_J1_charAt_3b067 (q_chL hw hi hj) rfl rfl rfl rfl ?_
  exact a_cret rfl rfl (by rw [b3]; exact nr_char b (by omega)) ⟨rfl, rfl⟩
end B56
/-- a word at hand: none, or one of all -/
def WK (w : Nat) : Prop := w = 0 ∨ ∃ i, i < 27 ∧ w = 100 + i + 1
theorem WK.nul : WK 0 := Or.inl rfl
theorem WK.con {i : Nat} (h : i < 27) : WK (100 + i + 1) := Or.inr ⟨i, h, rfl⟩
theorem WK.ck {S : aS} (hw : WdS S) {i : Nat} (h : i < 27) : 100 + i + 1 = 0 ∨ ∃ E, (100 + i + 1 - 1, E) ∈ S.2.1 := Or.inr ⟨_, by rw [Nat.add_sub_cancel]; exact hw.ob h⟩
theorem WK.ac {S : aS} {w : Nat} (h : WK w) (hw : WdS S) : w = 0 ∨ ∃ E, (w - 1, E) ∈ S.2.1 := by
  rcases h with h | ⟨i, hi, h⟩
  · exact Or.inl h
  · rw [h]
    exact WK.ck hw hi
abbrev QT (P : (Nat → Nat → Int32) → Prop) (z : Option Value → Prop) (L : Nat → Nat → Int64) (t : Nat) : Option Value → aH → Prop := fun v h' => z v ∧ ∃ I' w1' w2', h' = hp I' L w1' w2' t ∧ P I' ∧ WK w1' ∧ WK w2'
def XT (P : (Nat → Nat → Int32) → Prop) (L : Nat → Nat → Int64) (ks : List Nat) : String → aH → Prop := fun E h' => (∃ k, k ∈ ks ∧ E = exN k) ∧ ∃ I' w1' w2', h' = hp I' L w1' w2' 0 ∧ P I' ∧ WK w1' ∧ WK w2'
section C56
variable {S : aS} {C : aM} {d : Nat} {Q : Option Value → aH → Prop} {X : String → aH → Prop} {k1 k2 pc np tgt idx : Nat} {w : Int32} {ls : List (Option Value)} {st : List Value} {I : Nat → Nat → Int32} {L : Nat → Nat → Int64} {w1 w2 t q : Nat}
theorem a_putw1 (hC : look C pc = some (.putfield idx, np, tgt, w)) (hf : LPr C.1.cls C.1.name idx 9 9) (kk : AW S C d Q X k1 k2 np ls st (hp I L q w2 t)) : AW S C d Q X k1 k2 pc ls (rv q :: .ref 204 :: st) (hp I L w1 w2 t) := by
  refine a_putr hC hf rfl ?_
  rw [Rw_1]
  exact kk
theorem a_putw2 (hC : look C pc = some (.putfield idx, np, tgt, w)) (hf : LPr C.1.cls C.1.name idx 9 9) (kk : AW S C d Q X k1 k2 np ls st (hp I L w1 q t)) : AW S C d Q X k1 k2 pc ls (rv q :: .ref 221 :: st) (hp I L w1 w2 t) := by
  refine a_putr hC hf rfl ?_
  rw [Rw_2]
  exact kk
end C56
end
