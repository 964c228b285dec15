/-! ===== the class: shame of a set, needs ===== -/
theorem factC_keep {I I' : Nat → Nat → Int32} {a b d : Nat} (hs : a + 11 ≤ b ∨ b + 8 ≤ a) (hf : ∀ q, q ≠ b + 6 → q ≠ b + 7 → I' q = I q) : factC I' a d = factC I a d := by
  funext k
  unfold factC
  rw [hf a (by omega) (by omega), hf (a + 1) (by omega) (by omega), hf (a + 3) (by omega) (by omega), hf (a + 4) (by omega) (by omega), hf (a + 5) (by omega) (by omega), hf (a + 6) (by omega) (by omega), hf (a + 7) (by omega) (by omega), hf (a + 8) (by omega) (by omega)]
theorem sumC_keep {I I' : Nat → Nat → Int32} {b : Nat} {F : Nat → Int32} {cd fa fn : Nat → Nat} {nl : Nat} {kind : Int32} (hf : ∀ q, q ≠ b + 6 → q ≠ b + 7 → I' q = I q) : sumC I' b F cd fa fn nl kind = sumC I b F cd fa fn nl kind := by
  unfold sumC
  rw [hf (b + 1) (by omega) (by omega), hf (b + 2) (by omega) (by omega)]
theorem shameC_keep {I I' : Nat → Nat → Int32} {a b : Nat} {cd fa fn : Nat → Nat} {nl d : Nat} (hs : a + 11 ≤ b ∨ b + 8 ≤ a) (hf : ∀ q, q ≠ b + 6 → q ≠ b + 7 → I' q = I q) : shameC I' a b cd fa fn nl d = shameC I a b cd fa fn nl d := by
  unfold shameC
  rw [factC_keep hs hf, sumC_keep hf, sumC_keep hf, hf (a + 5) (by omega) (by omega)]
theorem LawC.keep67 {I I' : Nat → Nat → Int32} {b nl len : Nat} {cd fa fn : Nat → Nat} (h : LawC I b nl len cd fa fn) (hf : ∀ q, q ≠ b + 6 → q ≠ b + 7 → I' q = I q) : LawC I' b nl len cd fa fn := by
  unfold LawC at h ⊢
  rw [hf b (by omega) (by omega), hf (b + 5) (by omega) (by omega), hf (b + 3) (by omega) (by omega), hf (b + 4) (by omega) (by omega)]
  exact h
/-- has, by a set's bit and a shift -/
theorem shl_eq (d : Nat) : ∀ n : Nat, n < 12 → (1 : Int32) <<< (nI n &&& 31) = nI (2 ^ n) := by decide +kernel
set_option maxRecDepth 100000
def sumG (f : Nat → Int32) (s : Int32) : Nat → Int32
  | 0 => 0
  | n + 1 => if hasF s (nI n) then sumG f s n + f n else sumG f s n
theorem sp_X2_shameOfSet {S : aS} {I : Nat → Nat → Int32} {L : Nat → Nat → Int64} {w1 w2 t : Nat} {a b nd nl len : Nat} {cd fa fn : Nat → Nat} (ha : stp a) (hb : lwp b) (hdu : I a 3 = nI nd) (hn : nd ≤ 12) (hw : LawC I b nl len cd fa fn) {s : Int32} : Sp S m_X2_shameOfSet 17 0 0 [.ref b, .ref a, .int s] (hp I L w1 w2 t) (fun v h' => v = some (.int (sumG (shameC I a b cd fa fn nl) s nd)) ∧ ∃ I', h' = hp I' L w1 w2 t ∧ ∀ q, q ≠ b + 6 → q ≠ b + 7 → I' q = I q) (fun _ _ => False) := by
  have hsep := stp_lwp a ha b hb
  refine Sp_of ok_X2_shameOfSet rfl rfl ?_
  show AW S m_X2_shameOfSet 17 _ _ 0 0 0 [some (.ref b), some (.ref a), some (.int s), none, none] [] (hp I L w1 w2 t)
  refine a_s rfl rfl ?_
  refine a_s3 rfl rfl rfl rfl rfl rfl ?_
  refine a_s rfl rfl ?_
  refine a_s4 rfl rfl rfl rfl rfl rfl ?_
  skip
  refine a_inv (n := nd) (fun mm ls h => ∃ j I1, j + mm = nd ∧ ls = [some (.ref b), some (.ref a), some (.int s), some (.int (sumG (shameC I a b cd fa fn nl) s j)), some (.int (nI j))] ∧ h = hp I1 L w1 w2 t ∧ ∀ q, q ≠ b + 6 → q ≠ b + 7 → I1 q = I q) ⟨0, I, by omega, by rw [nI_0]; rfl, rfl, fun _ _ _ => rfl⟩ ?_
  rintro mm _ _ ⟨j, I1, hj, rfl, rfl, hf⟩ ih
  by_cases hjn : j < nd
  · refine a_l4 rfl rfl rfl ?_
    refine a_l1 rfl rfl rfl ?_
    refine a_geti rfl gfX2_71_5 (kS0 ha) ?_
    refine a_top (y := nI nd) ((congrFun (hf a (by omega) (by omega)) 3).trans hdu) ?_
    refine a_ic_ge rfl (fun c => absurd c (nI_ge (by omega) (by omega))) (fun c11 => ?_)
    refine a_l2 rfl rfl rfl ?_
    refine a_l4 rfl rfl rfl ?_
    refine a_eSN1 rfl lX2_74 mo_X11_has (sp_X11_has) rfl rfl rfl rfl ?_
    refine a_if_eq rfl (fun c20 => ?_) (fun c20 => ?_)
    · refine a_i4 rfl rfl rfl ?_
      refine a_goto rfl ?_
      exact a_back (ih (mm - 1) _ _ (by omega) ⟨j + 1, I1, by omega, rfl, rfl, hf⟩) (by simp [lsub, nI_1, sumG, bI_f c20]) rfl
    · refine a_l3 rfl rfl rfl ?_
      refine a_l0 rfl rfl rfl ?_
      refine a_l1 rfl rfl rfl ?_
      refine a_l4 rfl rfl rfl ?_
      refine a_callV rfl lX2_78 mo_X2_shameOf (sp_X2_shameOf (d := j) ha hb (by omega) (hw.keep67 hf)) rfl rfl rfl ⟨2, _, kW0 hb, rfl, rfl⟩ rfl (fun v' h' hv => ?_) (fun E h' hx => False.elim hx)
      obtain ⟨rfl, I2, rfl, hf2⟩ := hv
      rw [shameC_keep hsep hf]
      refine a_s rfl rfl ?_
      refine a_s3 rfl rfl rfl rfl rfl rfl ?_
      refine a_i4 rfl rfl rfl ?_
      refine a_goto rfl ?_
      exact a_back (ih (mm - 1) _ _ (by omega) ⟨j + 1, I2, by omega, rfl, rfl, fun q h6 h7 => (hf2 q h6 h7).trans (hf q h6 h7)⟩) (by simp [lsub, nI_1, sumG, bI_t c20]) rfl
  · obtain rfl : j = nd := by omega
    refine a_l4 rfl rfl rfl ?_
    refine a_l1 rfl rfl rfl ?_
    refine a_geti rfl gfX2_71_5 (kS0 ha) ?_
    refine a_top (y := nI j) ((congrFun (hf a (by omega) (by omega)) 3).trans hdu) ?_
    refine a_ic_ge rfl (fun c11 => ?_) (fun c => absurd (Int32.le_refl _) c)
    refine a_l3 rfl rfl rfl ?_
    refine a_iret rfl rfl ⟨rfl, I1, rfl, hf⟩
def needC (load free : Int32) : Int32 := if load = 0 then 0 else if 0 < free then (load + free - 1) / free else 1000
theorem sp_X11_needsOf {S : aS} {h : aH} {x y : Int32} : SpE S m_X11_needsOf 12 [.int x, .int y] (h) (some (.int (needC x y))) (h) := by
  refine SpE_of ok_X11_needsOf rfl rfl ?_
  show AW S m_X11_needsOf 12 _ _ 0 0 0 [some (.int x), some (.int y)] [] (h)
  refine a_l0 rfl rfl rfl ?_
  refine a_if_ne rfl (fun c1 => ?_) (fun c1 => ?_)
  · refine a_l1 rfl rfl rfl ?_
    refine a_if_le rfl (fun c7 => ?_) (fun c7 => ?_)
    · refine a_s rfl rfl ?_
      refine a_iret rfl rfl ⟨by simp_all [needC, le_nl, -Int32.not_lt, -Int32.not_le], rfl⟩
    · refine a_l0 rfl rfl rfl ?_
      refine a_l1 rfl rfl rfl ?_
      refine a_s rfl rfl ?_
      refine a_s rfl rfl ?_
      refine a_s rfl rfl ?_
      refine a_l1 rfl rfl rfl ?_
      refine a_idiv rfl ((fun z => by rw [z] at c7; exact absurd c7 (by decide))) ?_
      refine a_goto rfl ?_
      refine a_iret rfl rfl ⟨by simp_all [needC, le_nl, -Int32.not_lt, -Int32.not_le], rfl⟩
  · refine a_s rfl rfl ?_
    refine a_iret rfl rfl ⟨by simp [needC, *], rfl⟩
