/-! ===== the reference: sums of lines, growth, shame ===== -/
def sumL (F : Nat → Int32) (ki nu : Nat → Int32) (cd fa fn : Nat → Nat) (kind : Int32) : Nat → Int32
  | 0 => 0
  | n + 1 => if ki n = kind ∧ lineF F cd (fa n) (fn n) = true then sumL F ki nu cd fa fn kind n + nu n else sumL F ki nu cd fa fn kind n
/-- the world's law: nl lines (0 without one), their codes -/
def LawR (W : Nat → Int32) (nl len : Nat) (cd fa fn : Nat → Nat) : Prop := ((W 3 = 0 ∧ nl = 0) ∨ (W 3 = 1 ∧ W 335 = nI nl)) ∧ nl ≤ 12 ∧ len ≤ 400 ∧ RCo W cd len ∧ ∀ n, n < nl → W (336 + 4 * n + 2) = nI (fa n) ∧ W (336 + 4 * n + 3) = nI (fa n + fn n) ∧ fa n + fn n ≤ len ∧ LineOk cd (fa n) (fn n)
def kiW (W : Nat → Int32) (n : Nat) : Int32 := W (336 + 4 * n)
def nuW (W : Nat → Int32) (n : Nat) : Int32 := W (336 + 4 * n + 1)
def sumR (W : Nat → Int32) (cd fa fn : Nat → Nat) (nl d : Nat) (kind : Int32) : Int32 := sumL (factW W d) (kiW W) (nuW W) cd fa fn kind nl
def mx0 (x : Int32) : Int32 := if 0 < x then x else 0
def shameR (W : Nat → Int32) (cd fa fn : Nat → Nat) (nl d : Nat) : Int32 := mx0 (vd W 2 d + sumR W cd fa fn nl d 1 - sumR W cd fa fn nl d 2)
theorem RCo.mono {W : Nat → Int32} {cd : Nat → Nat} {n m : Nat} (h : RCo W cd n) (hm : m ≤ n) : RCo W cd m := fun i hi => h i (by omega)
set_option maxRecDepth 100000
theorem sp_X12_sumOf {S : aS} {I : Nat → Nat → Int32} {L : Nat → Nat → Int64} {w1 w2 t : Nat} {nd np d nl len : Nat} {cd fa fn : Nat → Nat} (hn : nd ≤ 12) (hp6 : np ≤ 6) (hd : d < nd) (hl : LeW nd (I 421)) (ho : OwW nd np (I 421)) (hw : LawR (I 421) nl len cd fa fn) {kind : Int32} : Sp S m_X12_sumOf 18 0 0 [.ref 420, .int kind, .int (nI d)] (hp I L w1 w2 t) (fun v h' => v = some (.int (sumR (I 421) cd fa fn nl d kind)) ∧ ∃ f, h' = hp (upr I 428 f) L w1 w2 t) (fun _ _ => False) := by
  refine Sp_of ok_X12_sumOf rfl rfl ?_
  show AW S m_X12_sumOf 18 _ _ 0 0 0 [some (.ref 420), some (.int kind), some (.int (nI d)), none, none] [] (hp I L w1 w2 t)
  refine a_s rfl rfl ?_
  refine a_s3 rfl rfl rfl rfl rfl rfl ?_
  refine a_s rfl rfl ?_
  refine a_s4 rfl rfl rfl rfl rfl rfl ?_
  skip
  refine a_inv (n := nl) (fun mm ls h => ∃ j v, j + mm = nl ∧ ls = [some (.ref 420), some (.int kind), some (.int (nI d)), some (.int (sumL (factW (I 421) d) (kiW (I 421)) (nuW (I 421)) cd fa fn kind j)), some (.int (nI j))] ∧ h = hp (upr I 428 v) L w1 w2 t) ⟨0, I 428, by omega, by rw [nI_0]; rfl, by rw [upr_self]⟩ ?_
  rintro mm _ _ ⟨j, v, hj, rfl, rfl⟩ ih
  obtain ⟨h3, hnl, hlen, hRC, hw0⟩ := hw
  by_cases hjn : j = nl
  · subst hjn
    rcases h3 with ⟨h3, rfl⟩ | ⟨h3, h335⟩
    · refine a_l0 rfl rfl rfl ?_
      refine a_getq rfl gfX12_13_12 rfl (rfl) ?_
      refine a_s rfl rfl ?_
      refine a_ialdv (v := 0) rfl (n := 2033) rfl ⟨by decide, by decide⟩ (by show upr I 428 v 421 3 = 0; rw [upr_row (by decide)]; exact h3) ?_
      refine a_s rfl rfl ?_
      refine a_ic_ne rfl (fun c12 => ?_) (fun c => absurd c (by decide))
      refine a_l3 rfl rfl rfl ?_
      refine a_iret rfl rfl ⟨rfl, v, rfl⟩
    · refine a_l0 rfl rfl rfl ?_
      refine a_getq rfl gfX12_13_12 rfl (rfl) ?_
      refine a_s rfl rfl ?_
      refine a_ialdv (v := 1) rfl (n := 2033) rfl ⟨by decide, by decide⟩ (by show upr I 428 v 421 3 = 1; rw [upr_row (by decide)]; exact h3) ?_
      refine a_s rfl rfl ?_
      refine a_ic_ne rfl (fun c => absurd c (fun z => z rfl)) (fun c12 => ?_)
      refine a_l4 rfl rfl rfl ?_
      refine a_l0 rfl rfl rfl ?_
      refine a_getq rfl gfX12_13_12 rfl (rfl) ?_
      refine a_s rfl rfl ?_
      refine a_ialdv (v := nI j) rfl (n := 2033) rfl ⟨by decide, by decide⟩ (by show upr I 428 v 421 335 = nI j; rw [upr_row (by decide)]; exact h335) ?_
      refine a_ic_ge rfl (fun c25 => ?_) (fun c => absurd (Int32.le_refl _) c)
      refine a_l3 rfl rfl rfl ?_
      refine a_iret rfl rfl ⟨rfl, v, rfl⟩
  · obtain ⟨hw1, hw2, hw3, hw4⟩ := hw0 j (by omega)
    obtain ⟨h3, h335⟩ := h3.resolve_left (fun z => by omega)
    refine a_l0 rfl rfl rfl ?_
    refine a_getq rfl gfX12_13_12 rfl (rfl) ?_
    refine a_s rfl rfl ?_
    refine a_ialdv (v := 1) rfl (n := 2033) rfl ⟨by decide, by decide⟩ (by show upr I 428 v 421 3 = 1; rw [upr_row (by decide)]; exact h3) ?_
    refine a_s rfl rfl ?_
    refine a_ic_ne rfl (fun c => absurd c (fun z => z rfl)) (fun c12 => ?_)
    refine a_l4 rfl rfl rfl ?_
    refine a_l0 rfl rfl rfl ?_
    refine a_getq rfl gfX12_13_12 rfl (rfl) ?_
    refine a_s rfl rfl ?_
    refine a_ialdv (v := nI nl) rfl (n := 2033) rfl ⟨by decide, by decide⟩ (by show upr I 428 v 421 335 = nI nl; rw [upr_row (by decide)]; exact h335) ?_
    refine a_ic_ge rfl (fun c => absurd c (nI_ge (by omega) (by omega))) (fun c25 => ?_)
    refine a_l0 rfl rfl rfl ?_
    refine a_getq rfl gfX12_13_12 rfl (rfl) ?_
    refine a_s rfl rfl ?_
    refine a_s rfl rfl ?_
    refine a_l4 rfl rfl rfl ?_
    refine a_s rfl rfl ?_
    refine a_s rfl rfl ?_
    refine a_top (y := nI (336 + 4 * j)) (by rw [show (4 : Int32) = nI 4 from rfl, show (336 : Int32) = nI 336 from rfl, nI_mul, nI_addl]) ?_
    refine a_ialdv (v := kiW (I 421) j) rfl (n := 2033) rfl (inI_nI (by omega) (by omega)) (by rw [nI_clamp (by omega), upr_row (by decide)]; rfl) ?_
    refine a_l1 rfl rfl rfl ?_
    refine a_ic_ne rfl (fun c42 => ?_) (fun c42 => ?_)
    · refine a_i4 rfl rfl rfl ?_
      refine a_goto rfl ?_
      exact a_back (ih (mm - 1) _ _ (by omega) ⟨j + 1, v, by omega, rfl, rfl⟩) (by simp [lsub, nI_1, sumL, show ¬ kiW (I 421) j = kind from c42]) rfl
    · refine a_l0 rfl rfl rfl ?_
      refine a_l4 rfl rfl rfl ?_
      refine a_l2 rfl rfl rfl ?_
      refine a_callV rfl lX12_259 mo_X12_holdsLine (sp_X12_holdsLine (n := j) (a := fa j) (N := fn j) (cd := cd) hn hp6 hd (by rw [upr_row (by decide)]; exact hl) (by rw [upr_row (by decide)]; exact ho) (by omega) (by rw [upr_row (by decide)]; exact hw1) (by rw [upr_row (by decide)]; exact hw2) (by omega) (by rw [upr_row (by decide)]; exact hRC.mono hw3) hw4) rfl rfl rfl ⟨12, _, rfl, rfl, rfl⟩ rfl (fun v' h' hv => ?_) (fun E h' hx => False.elim hx)
      obtain ⟨rfl, f, rfl⟩ := hv
      rw [upr_upr, upr_row (show 421 ≠ 428 by decide)]
      refine a_if_eq rfl (fun c52 => ?_) (fun c52 => ?_)
      · refine a_i4 rfl rfl rfl ?_
        refine a_goto rfl ?_
        exact a_back (ih (mm - 1) _ _ (by omega) ⟨j + 1, _, by omega, rfl, rfl⟩) (by simp [lsub, nI_1, sumL, show kiW (I 421) j = kind from c42, bI_f c52]) rfl
      · refine a_l3 rfl rfl rfl ?_
        refine a_l0 rfl rfl rfl ?_
        refine a_getq rfl gfX12_13_12 rfl (rfl) ?_
        refine a_s rfl rfl ?_
        refine a_s rfl rfl ?_
        refine a_l4 rfl rfl rfl ?_
        refine a_s rfl rfl ?_
        refine a_s rfl rfl ?_
        refine a_top (y := nI (336 + 4 * j)) (by rw [show (4 : Int32) = nI 4 from rfl, show (336 : Int32) = nI 336 from rfl, nI_mul, nI_addl]) ?_
        refine a_s rfl rfl ?_
        refine a_s rfl rfl ?_
        refine a_top (nI_addl (336 + 4 * j) 1) ?_
        refine a_ialdv (v := nuW (I 421) j) rfl (n := 2033) rfl (inI_nI (by omega) (by omega)) (by rw [nI_clamp (by omega), upr_row (by decide)]; rfl) ?_
        refine a_s rfl rfl ?_
        refine a_s3 rfl rfl rfl rfl rfl rfl ?_
        refine a_i4 rfl rfl rfl ?_
        refine a_goto rfl ?_
        exact a_back (ih (mm - 1) _ _ (by omega) ⟨j + 1, _, by omega, rfl, rfl⟩) (by simp [lsub, nI_1, sumL, show kiW (I 421) j = kind from c42, bI_t c52, nuW]) rfl
theorem sp_X12_growsBy {S : aS} {I : Nat → Nat → Int32} {L : Nat → Nat → Int64} {w1 w2 t : Nat} {nd np d nl len : Nat} {cd fa fn : Nat → Nat} (hn : nd ≤ 12) (hp6 : np ≤ 6) (hd : d < nd) (hl : LeW nd (I 421)) (ho : OwW nd np (I 421)) (hw : LawR (I 421) nl len cd fa fn) : Sp S m_X12_growsBy 19 0 0 [.ref 420, .int (nI d)] (hp I L w1 w2 t) (fun v h' => v = some (.int (sumR (I 421) cd fa fn nl d 0)) ∧ ∃ f, h' = hp (upr I 428 f) L w1 w2 t) (fun _ _ => False) := by
  refine Sp_of ok_X12_growsBy rfl rfl ?_
  show AW S m_X12_growsBy 19 _ _ 0 0 0 [some (.ref 420), some (.int (nI d))] [] (hp I L w1 w2 t)
  refine a_l0 rfl rfl rfl ?_
  refine a_s rfl rfl ?_
  refine a_l1 rfl rfl rfl ?_
  refine a_callV rfl lX12_262 mo_X12_sumOf (sp_X12_sumOf hn hp6 hd hl ho hw) rfl rfl rfl ⟨12, _, rfl, rfl, rfl⟩ rfl (fun v h' hv => ?_) (fun E h' hx => False.elim hx)
  obtain ⟨rfl, f, rfl⟩ := hv
  refine a_iret rfl rfl ⟨rfl, f, rfl⟩
theorem sp_X12_shamesBy {S : aS} {I : Nat → Nat → Int32} {L : Nat → Nat → Int64} {w1 w2 t : Nat} {nd np d nl len : Nat} {cd fa fn : Nat → Nat} (hn : nd ≤ 12) (hp6 : np ≤ 6) (hd : d < nd) (hl : LeW nd (I 421)) (ho : OwW nd np (I 421)) (hw : LawR (I 421) nl len cd fa fn) : Sp S m_X12_shamesBy 19 0 0 [.ref 420, .int (nI d)] (hp I L w1 w2 t) (fun v h' => v = some (.int (shameR (I 421) cd fa fn nl d)) ∧ ∃ f, h' = hp (upr I 428 f) L w1 w2 t) (fun _ _ => False) := by
  refine Sp_of ok_X12_shamesBy rfl rfl ?_
  show AW S m_X12_shamesBy 19 _ _ 0 0 0 [some (.ref 420), some (.int (nI d))] [] (hp I L w1 w2 t)
  refine a_s rfl rfl ?_
  refine a_l0 rfl rfl rfl ?_
  refine a_l1 rfl rfl rfl ?_
  refine a_s rfl rfl ?_
  refine a_eV1 rfl lX12_63 mo_X12_of (sp_X12_of (d := d) (k := 2) (by omega) (by decide)) rfl rfl rfl ⟨12, _, rfl, rfl, rfl⟩ rfl ?_
  refine a_l0 rfl rfl rfl ?_
  refine a_s rfl rfl ?_
  refine a_l1 rfl rfl rfl ?_
  refine a_callV rfl lX12_262 mo_X12_sumOf (sp_X12_sumOf hn hp6 hd hl ho hw) rfl rfl rfl ⟨12, _, rfl, rfl, rfl⟩ rfl (fun v h' hv => ?_) (fun E h' hx => False.elim hx)
  obtain ⟨rfl, f, rfl⟩ := hv
  refine a_s rfl rfl ?_
  refine a_l0 rfl rfl rfl ?_
  refine a_s rfl rfl ?_
  refine a_l1 rfl rfl rfl ?_
  refine a_callV rfl lX12_262 mo_X12_sumOf (sp_X12_sumOf hn hp6 hd (by rw [upr_row (by decide)]; exact hl) (by rw [upr_row (by decide)]; exact ho) (by rw [upr_row (by decide)]; exact hw)) rfl rfl rfl ⟨12, _, rfl, rfl, rfl⟩ rfl (fun v h' hv => ?_) (fun E h' hx => False.elim hx)
  obtain ⟨rfl, f2, rfl⟩ := hv
  rw [upr_upr, upr_row (show 421 ≠ 428 by decide)]
  refine a_s rfl rfl ?_
  refine a_max rfl lX12_265 mj_max rfl rfl ?_
  refine a_iret rfl rfl ⟨rfl, f2, rfl⟩
theorem sp_X12_shameOf {S : aS} {I : Nat → Nat → Int32} {L : Nat → Nat → Int64} {w1 w2 t : Nat} {nd np nl len : Nat} {cd fa fn : Nat → Nat} (hn : nd ≤ 12) (hp6 : np ≤ 6) (hdu : I 421 1 = nI nd) (hl : LeW nd (I 421)) (ho : OwW nd np (I 421)) (hw : LawR (I 421) nl len cd fa fn) {s : Int32} : Sp S m_X12_shameOf 20 0 0 [.ref 420, .int s] (hp I L w1 w2 t) (fun v h' => v = some (.int (sumF (shameR (I 421) cd fa fn nl) s nd)) ∧ ∃ f, h' = hp (upr I 428 f) L w1 w2 t) (fun _ _ => False) := by
  refine Sp_of ok_X12_shameOf rfl rfl ?_
  show AW S m_X12_shameOf 20 _ _ 0 0 0 [some (.ref 420), some (.int s), none, none] [] (hp I L w1 w2 t)
  refine a_s rfl rfl ?_
  refine a_s2 rfl rfl rfl rfl rfl rfl ?_
  refine a_s rfl rfl ?_
  refine a_s3 rfl rfl rfl rfl rfl rfl ?_
  skip
  refine a_inv (n := nd) (fun mm ls h => ∃ j v, j + mm = nd ∧ ls = [some (.ref 420), some (.int s), some (.int (sumF (shameR (I 421) cd fa fn nl) s j)), some (.int (nI j))] ∧ h = hp (upr I 428 v) L w1 w2 t) ⟨0, I 428, by omega, by rw [nI_0]; rfl, by rw [upr_self]⟩ ?_
  rintro mm _ _ ⟨j, v, hj, rfl, rfl⟩ ih
  by_cases hjn : j < nd
  · refine a_l3 rfl rfl rfl ?_
    refine a_l0 rfl rfl rfl ?_
    refine a_eV1 rfl lX12_74 mo_X12_duties (sp_X12_duties) rfl rfl rfl ⟨12, _, rfl, rfl, rfl⟩ rfl ?_
    refine a_top (y := nI nd) (by rw [upr_row (by decide)]; exact hdu) ?_
    refine a_ic_ge rfl (fun c => absurd c (nI_ge (by omega) (by omega))) (fun c9 => ?_)
    refine a_l2 rfl rfl rfl ?_
    refine a_l1 rfl rfl rfl ?_
    refine a_l3 rfl rfl rfl ?_
    refine a_eS1 rfl lX12_304 mo_X12_has (sp_X12_has) rfl rfl rfl rfl ?_
    refine a_if_eq rfl (fun c18 => ?_) (fun c18 => ?_)
    · refine a_s rfl rfl ?_
      refine a_s rfl rfl ?_
      refine a_s2 rfl rfl rfl rfl rfl rfl ?_
      refine a_i3 rfl rfl rfl ?_
      refine a_goto rfl ?_
      exact a_back (ih (mm - 1) _ _ (by omega) ⟨j + 1, v, by omega, rfl, rfl⟩) (by simp [lsub, nI_1, sumF, bI_f c18, Int32.add_zero]) rfl
    · refine a_l0 rfl rfl rfl ?_
      refine a_l3 rfl rfl rfl ?_
      refine a_callV rfl lX12_318 mo_X12_shamesBy (sp_X12_shamesBy (d := j) hn hp6 hjn (by rw [upr_row (by decide)]; exact hl) (by rw [upr_row (by decide)]; exact ho) (by rw [upr_row (by decide)]; exact hw)) rfl rfl rfl ⟨12, _, rfl, rfl, rfl⟩ rfl (fun v' h' hv => ?_) (fun E h' hx => False.elim hx)
      obtain ⟨rfl, f, rfl⟩ := hv
      rw [upr_upr, upr_row (show 421 ≠ 428 by decide)]
      refine a_goto rfl ?_
      refine a_s rfl rfl ?_
      refine a_s2 rfl rfl rfl rfl rfl rfl ?_
      refine a_i3 rfl rfl rfl ?_
      refine a_goto rfl ?_
      exact a_back (ih (mm - 1) _ _ (by omega) ⟨j + 1, _, by omega, rfl, rfl⟩) (by simp [lsub, nI_1, sumF, bI_t c18, Int32.add_zero]) rfl
  · obtain rfl : j = nd := by omega
    refine a_l3 rfl rfl rfl ?_
    refine a_l0 rfl rfl rfl ?_
    refine a_eV1 rfl lX12_74 mo_X12_duties (sp_X12_duties) rfl rfl rfl ⟨12, _, rfl, rfl, rfl⟩ rfl ?_
    refine a_top (y := nI j) (by rw [upr_row (by decide)]; exact hdu) ?_
    refine a_ic_ge rfl (fun c9 => ?_) (fun c => absurd (Int32.le_refl _) c)
    refine a_l2 rfl rfl rfl ?_
    refine a_iret rfl rfl ⟨rfl, v, rfl⟩
