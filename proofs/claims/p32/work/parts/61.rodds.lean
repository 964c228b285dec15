/-! ===== the reference: odds (as in p1's 47.odds), ranges of all of it ===== -/
set_option maxRecDepth 100000
theorem nI_ltn {n : Nat} (h : n + 1 < 2 ^ 31) : nI n < nI (n + 1) := Int32.lt_iff_toInt_lt.mpr (by rw [nI_toInt (by omega), nI_toInt h]; omega)
def setW (L : Nat → Nat → Int64) (f : Nat → Int64) : Nat → Nat → Int64 := up2 (up2 (up2 (up2 (up2 (up2 (up2 L 430 0 (f 0)) 430 1 (f 1)) 430 2 (f 2)) 430 3 (f 3)) 430 4 (f 4)) 430 5 (f 5)) 430 6 (f 6)
def stepW (h : Int32) (f : Nat → Int64) : Nat → Int64
  | 0 => f 0 * (100 - h).toInt64 + 0
  | k + 1 => f (k + 1) * (100 - h).toInt64 + f k * h.toInt64
def rowW (h : Int32) : Nat → Nat → Int64
  | 0 => fun k => if k = 0 then 1 else 0
  | d + 1 => stepW h (rowW h d)
def allW : Nat → Int64
  | 0 => 1
  | d + 1 => allW d * 100
def sumW (f : Nat → Int64) (m : Nat) : Nat → Int64
  | 0 => 0
  | j + 1 => sumW f m j + f (m + j)
def oddsR (h : Int32) (n m : Nat) : Int32 := (10000 * sumW (rowW h n) m (7 - m) / allW n).toInt32
theorem setW_at {L : Nat → Nat → Int64} {f : Nat → Int64} {k : Nat} (hk : k < 7) : setW L f 430 k = f k := by
  rcases k with _ | _ | _ | _ | _ | _ | _ | k <;> first | rfl | omega
theorem setW_row {L : Nat → Nat → Int64} {f : Nat → Int64} {q : Nat} (h : q ≠ 430) : setW L f q = L q := by
  unfold setW
  simp only [up2_row h]
theorem setW_step {L : Nat → Nat → Int64} {f g : Nat → Int64} : up2 (up2 (up2 (up2 (up2 (up2 (up2 (setW L f) 430 6 (g 6)) 430 5 (g 5)) 430 4 (g 4)) 430 3 (g 3)) 430 2 (g 2)) 430 1 (g 1)) 430 0 (g 0) = setW L g := by
  funext q k
  by_cases hq : q = 430
  · subst hq
    rcases k with _ | _ | _ | _ | _ | _ | _ | k
    all_goals rfl
  · rw [setW_row hq]
    simp only [up2_row hq, setW_row hq]
theorem allW_ne : ∀ n, n ≤ 6 → ¬ allW n = 0 := by decide +kernel
theorem sp_X12_oddsOf {S : aS} {I : Nat → Nat → Int32} {L : Nat → Nat → Int64} {w1 w2 t : Nat} {h : Int32} {n m : Nat} (hn : n ≤ 6) (hm : m ≤ 6) : SpE S m_X12_oddsOf 12 [.ref 420, .int (nI n), .int (nI m), .int h] (hp I L w1 w2 t) (some (.int (oddsR h n m))) (hp I (setW L (rowW h n)) w1 w2 t) := by
  refine SpE_of ok_X12_oddsOf rfl rfl ?_
  show AW S m_X12_oddsOf 12 _ _ 0 0 0 [some (.ref 420), some (.int (nI n)), some (.int (nI m)), some (.int h), none, none, none, none, none] [] (hp I L w1 w2 t)
  refine a_s rfl rfl ?_
  refine a_sL4 rfl rfl rfl rfl ?_
  refine a_s rfl rfl ?_
  refine a_s6 rfl rfl rfl rfl rfl rfl ?_
  refine a_l6 rfl rfl rfl ?_
  refine a_s rfl rfl ?_
  refine a_ic_gt rfl (fun c => absurd c (by decide)) (fun c10 => ?_)
  refine a_l0 rfl rfl rfl ?_
  refine a_getq rfl gfX12_45_12 rfl rfl ?_
  refine a_l6 rfl rfl rfl ?_
  refine a_l6 rfl rfl rfl ?_
  refine a_if_ne rfl (fun c => absurd c (by decide)) (fun c21 => ?_)
  refine a_s rfl rfl ?_
  refine a_goto rfl ?_
  refine a_lastv (k := 0) rfl (n := 7) rfl ⟨by decide, by decide⟩ (by decide) ?_
  refine a_iv6 (y := 1) rfl rfl rfl (by decide) ?_
  refine a_goto rfl ?_
  refine a_l6 rfl rfl rfl ?_
  refine a_s rfl rfl ?_
  refine a_ic_gt rfl (fun c => absurd c (by decide)) (fun c10 => ?_)
  refine a_l0 rfl rfl rfl ?_
  refine a_getq rfl gfX12_45_12 rfl rfl ?_
  refine a_l6 rfl rfl rfl ?_
  refine a_l6 rfl rfl rfl ?_
  refine a_if_ne rfl (fun c21 => ?_) (fun c => absurd c (by decide))
  refine a_s rfl rfl ?_
  refine a_lastv (k := 1) rfl (n := 7) rfl ⟨by decide, by decide⟩ (by decide) ?_
  refine a_iv6 (y := 2) rfl rfl rfl (by decide) ?_
  refine a_goto rfl ?_
  refine a_l6 rfl rfl rfl ?_
  refine a_s rfl rfl ?_
  refine a_ic_gt rfl (fun c => absurd c (by decide)) (fun c10 => ?_)
  refine a_l0 rfl rfl rfl ?_
  refine a_getq rfl gfX12_45_12 rfl rfl ?_
  refine a_l6 rfl rfl rfl ?_
  refine a_l6 rfl rfl rfl ?_
  refine a_if_ne rfl (fun c21 => ?_) (fun c => absurd c (by decide))
  refine a_s rfl rfl ?_
  refine a_lastv (k := 2) rfl (n := 7) rfl ⟨by decide, by decide⟩ (by decide) ?_
  refine a_iv6 (y := 3) rfl rfl rfl (by decide) ?_
  refine a_goto rfl ?_
  refine a_l6 rfl rfl rfl ?_
  refine a_s rfl rfl ?_
  refine a_ic_gt rfl (fun c => absurd c (by decide)) (fun c10 => ?_)
  refine a_l0 rfl rfl rfl ?_
  refine a_getq rfl gfX12_45_12 rfl rfl ?_
  refine a_l6 rfl rfl rfl ?_
  refine a_l6 rfl rfl rfl ?_
  refine a_if_ne rfl (fun c21 => ?_) (fun c => absurd c (by decide))
  refine a_s rfl rfl ?_
  refine a_lastv (k := 3) rfl (n := 7) rfl ⟨by decide, by decide⟩ (by decide) ?_
  refine a_iv6 (y := 4) rfl rfl rfl (by decide) ?_
  refine a_goto rfl ?_
  refine a_l6 rfl rfl rfl ?_
  refine a_s rfl rfl ?_
  refine a_ic_gt rfl (fun c => absurd c (by decide)) (fun c10 => ?_)
  refine a_l0 rfl rfl rfl ?_
  refine a_getq rfl gfX12_45_12 rfl rfl ?_
  refine a_l6 rfl rfl rfl ?_
  refine a_l6 rfl rfl rfl ?_
  refine a_if_ne rfl (fun c21 => ?_) (fun c => absurd c (by decide))
  refine a_s rfl rfl ?_
  refine a_lastv (k := 4) rfl (n := 7) rfl ⟨by decide, by decide⟩ (by decide) ?_
  refine a_iv6 (y := 5) rfl rfl rfl (by decide) ?_
  refine a_goto rfl ?_
  refine a_l6 rfl rfl rfl ?_
  refine a_s rfl rfl ?_
  refine a_ic_gt rfl (fun c => absurd c (by decide)) (fun c10 => ?_)
  refine a_l0 rfl rfl rfl ?_
  refine a_getq rfl gfX12_45_12 rfl rfl ?_
  refine a_l6 rfl rfl rfl ?_
  refine a_l6 rfl rfl rfl ?_
  refine a_if_ne rfl (fun c21 => ?_) (fun c => absurd c (by decide))
  refine a_s rfl rfl ?_
  refine a_lastv (k := 5) rfl (n := 7) rfl ⟨by decide, by decide⟩ (by decide) ?_
  refine a_iv6 (y := 6) rfl rfl rfl (by decide) ?_
  refine a_goto rfl ?_
  refine a_l6 rfl rfl rfl ?_
  refine a_s rfl rfl ?_
  refine a_ic_gt rfl (fun c => absurd c (by decide)) (fun c10 => ?_)
  refine a_l0 rfl rfl rfl ?_
  refine a_getq rfl gfX12_45_12 rfl rfl ?_
  refine a_l6 rfl rfl rfl ?_
  refine a_l6 rfl rfl rfl ?_
  refine a_if_ne rfl (fun c21 => ?_) (fun c => absurd c (by decide))
  refine a_s rfl rfl ?_
  refine a_lastv (k := 6) rfl (n := 7) rfl ⟨by decide, by decide⟩ (by decide) ?_
  refine a_iv6 (y := 7) rfl rfl rfl (by decide) ?_
  refine a_goto rfl ?_
  refine a_l6 rfl rfl rfl ?_
  refine a_s rfl rfl ?_
  refine a_ic_gt rfl (fun c10 => ?_) (fun c => absurd (by decide) c)
  refine a_eq (h' := hp I (setW L (rowW h 0)) w1 w2 t) rfl rfl ?_
  refine a_s rfl rfl ?_
  refine a_s6 rfl rfl rfl rfl rfl rfl ?_
  refine a_forE (n := n) (fun j => [some (.ref 420), some (.int (nI n)), some (.int (nI m)), some (.int h), some (.long (allW j)), none, some (.int (nI j)), none, none]) (fun j => hp I (setW L (rowW h j)) w1 w2 t) (by simp [lsub, nI_0, allW]) rfl ?_ (fun j hj ih39 => ?_)
  rotate_left
  · refine a_l6 rfl rfl rfl ?_
    refine a_l1 rfl rfl rfl ?_
    refine a_ic_ge rfl (fun c => absurd c (nI_ge hj (by omega))) (fun c42 => ?_)
    refine a_s rfl rfl ?_
    refine a_s7 rfl rfl rfl rfl rfl rfl ?_
    refine a_l7 rfl rfl rfl ?_
    refine a_if_lt rfl (fun c => absurd c (by decide)) (fun c51 => ?_)
    refine a_l0 rfl rfl rfl ?_
    refine a_getq rfl gfX12_45_12 rfl rfl ?_
    refine a_l7 rfl rfl rfl ?_
    refine a_l0 rfl rfl rfl ?_
    refine a_getq rfl gfX12_45_12 rfl rfl ?_
    refine a_l7 rfl rfl rfl ?_
    refine a_laldv (v := rowW h j 6) rfl (n := 7) rfl ⟨by decide, by decide⟩ rfl ?_
    refine a_s rfl rfl ?_
    refine a_l3 rfl rfl rfl ?_
    refine a_s rfl rfl ?_
    refine a_s rfl rfl ?_
    refine a_s rfl rfl ?_
    refine a_l7 rfl rfl rfl ?_
    refine a_if_ne rfl (fun c75 => ?_) (fun c => absurd c (by decide))
    refine a_l0 rfl rfl rfl ?_
    refine a_getq rfl gfX12_45_12 rfl rfl ?_
    refine a_l7 rfl rfl rfl ?_
    refine a_s rfl rfl ?_
    refine a_s rfl rfl ?_
    refine a_top (y := 5) (by decide) ?_
    refine a_laldv (v := rowW h j 5) rfl (n := 7) rfl ⟨by decide, by decide⟩ rfl ?_
    refine a_l3 rfl rfl rfl ?_
    refine a_s rfl rfl ?_
    refine a_s rfl rfl ?_
    refine a_s rfl rfl ?_
    refine a_lastv (k := 6) rfl (n := 7) rfl ⟨by decide, by decide⟩ (by decide) ?_
    refine a_iv7 (y := 5) rfl rfl rfl (by decide) ?_
    refine a_goto rfl ?_
    refine a_l7 rfl rfl rfl ?_
    refine a_if_lt rfl (fun c => absurd c (by decide)) (fun c51 => ?_)
    refine a_l0 rfl rfl rfl ?_
    refine a_getq rfl gfX12_45_12 rfl rfl ?_
    refine a_l7 rfl rfl rfl ?_
    refine a_l0 rfl rfl rfl ?_
    refine a_getq rfl gfX12_45_12 rfl rfl ?_
    refine a_l7 rfl rfl rfl ?_
    refine a_laldv (v := rowW h j 5) rfl (n := 7) rfl ⟨by decide, by decide⟩ rfl ?_
    refine a_s rfl rfl ?_
    refine a_l3 rfl rfl rfl ?_
    refine a_s rfl rfl ?_
    refine a_s rfl rfl ?_
    refine a_s rfl rfl ?_
    refine a_l7 rfl rfl rfl ?_
    refine a_if_ne rfl (fun c75 => ?_) (fun c => absurd c (by decide))
    refine a_l0 rfl rfl rfl ?_
    refine a_getq rfl gfX12_45_12 rfl rfl ?_
    refine a_l7 rfl rfl rfl ?_
    refine a_s rfl rfl ?_
    refine a_s rfl rfl ?_
    refine a_top (y := 4) (by decide) ?_
    refine a_laldv (v := rowW h j 4) rfl (n := 7) rfl ⟨by decide, by decide⟩ rfl ?_
    refine a_l3 rfl rfl rfl ?_
    refine a_s rfl rfl ?_
    refine a_s rfl rfl ?_
    refine a_s rfl rfl ?_
    refine a_lastv (k := 5) rfl (n := 7) rfl ⟨by decide, by decide⟩ (by decide) ?_
    refine a_iv7 (y := 4) rfl rfl rfl (by decide) ?_
    refine a_goto rfl ?_
    refine a_l7 rfl rfl rfl ?_
    refine a_if_lt rfl (fun c => absurd c (by decide)) (fun c51 => ?_)
    refine a_l0 rfl rfl rfl ?_
    refine a_getq rfl gfX12_45_12 rfl rfl ?_
    refine a_l7 rfl rfl rfl ?_
    refine a_l0 rfl rfl rfl ?_
    refine a_getq rfl gfX12_45_12 rfl rfl ?_
    refine a_l7 rfl rfl rfl ?_
    refine a_laldv (v := rowW h j 4) rfl (n := 7) rfl ⟨by decide, by decide⟩ rfl ?_
    refine a_s rfl rfl ?_
    refine a_l3 rfl rfl rfl ?_
    refine a_s rfl rfl ?_
    refine a_s rfl rfl ?_
    refine a_s rfl rfl ?_
    refine a_l7 rfl rfl rfl ?_
    refine a_if_ne rfl (fun c75 => ?_) (fun c => absurd c (by decide))
    refine a_l0 rfl rfl rfl ?_
    refine a_getq rfl gfX12_45_12 rfl rfl ?_
    refine a_l7 rfl rfl rfl ?_
    refine a_s rfl rfl ?_
    refine a_s rfl rfl ?_
    refine a_top (y := 3) (by decide) ?_
    refine a_laldv (v := rowW h j 3) rfl (n := 7) rfl ⟨by decide, by decide⟩ rfl ?_
    refine a_l3 rfl rfl rfl ?_
    refine a_s rfl rfl ?_
    refine a_s rfl rfl ?_
    refine a_s rfl rfl ?_
    refine a_lastv (k := 4) rfl (n := 7) rfl ⟨by decide, by decide⟩ (by decide) ?_
    refine a_iv7 (y := 3) rfl rfl rfl (by decide) ?_
    refine a_goto rfl ?_
    refine a_l7 rfl rfl rfl ?_
    refine a_if_lt rfl (fun c => absurd c (by decide)) (fun c51 => ?_)
    refine a_l0 rfl rfl rfl ?_
    refine a_getq rfl gfX12_45_12 rfl rfl ?_
    refine a_l7 rfl rfl rfl ?_
    refine a_l0 rfl rfl rfl ?_
    refine a_getq rfl gfX12_45_12 rfl rfl ?_
    refine a_l7 rfl rfl rfl ?_
    refine a_laldv (v := rowW h j 3) rfl (n := 7) rfl ⟨by decide, by decide⟩ rfl ?_
    refine a_s rfl rfl ?_
    refine a_l3 rfl rfl rfl ?_
    refine a_s rfl rfl ?_
    refine a_s rfl rfl ?_
    refine a_s rfl rfl ?_
    refine a_l7 rfl rfl rfl ?_
    refine a_if_ne rfl (fun c75 => ?_) (fun c => absurd c (by decide))
    refine a_l0 rfl rfl rfl ?_
    refine a_getq rfl gfX12_45_12 rfl rfl ?_
    refine a_l7 rfl rfl rfl ?_
    refine a_s rfl rfl ?_
    refine a_s rfl rfl ?_
    refine a_top (y := 2) (by decide) ?_
    refine a_laldv (v := rowW h j 2) rfl (n := 7) rfl ⟨by decide, by decide⟩ rfl ?_
    refine a_l3 rfl rfl rfl ?_
    refine a_s rfl rfl ?_
    refine a_s rfl rfl ?_
    refine a_s rfl rfl ?_
    refine a_lastv (k := 3) rfl (n := 7) rfl ⟨by decide, by decide⟩ (by decide) ?_
    refine a_iv7 (y := 2) rfl rfl rfl (by decide) ?_
    refine a_goto rfl ?_
    refine a_l7 rfl rfl rfl ?_
    refine a_if_lt rfl (fun c => absurd c (by decide)) (fun c51 => ?_)
    refine a_l0 rfl rfl rfl ?_
    refine a_getq rfl gfX12_45_12 rfl rfl ?_
    refine a_l7 rfl rfl rfl ?_
    refine a_l0 rfl rfl rfl ?_
    refine a_getq rfl gfX12_45_12 rfl rfl ?_
    refine a_l7 rfl rfl rfl ?_
    refine a_laldv (v := rowW h j 2) rfl (n := 7) rfl ⟨by decide, by decide⟩ rfl ?_
    refine a_s rfl rfl ?_
    refine a_l3 rfl rfl rfl ?_
    refine a_s rfl rfl ?_
    refine a_s rfl rfl ?_
    refine a_s rfl rfl ?_
    refine a_l7 rfl rfl rfl ?_
    refine a_if_ne rfl (fun c75 => ?_) (fun c => absurd c (by decide))
    refine a_l0 rfl rfl rfl ?_
    refine a_getq rfl gfX12_45_12 rfl rfl ?_
    refine a_l7 rfl rfl rfl ?_
    refine a_s rfl rfl ?_
    refine a_s rfl rfl ?_
    refine a_top (y := 1) (by decide) ?_
    refine a_laldv (v := rowW h j 1) rfl (n := 7) rfl ⟨by decide, by decide⟩ rfl ?_
    refine a_l3 rfl rfl rfl ?_
    refine a_s rfl rfl ?_
    refine a_s rfl rfl ?_
    refine a_s rfl rfl ?_
    refine a_lastv (k := 2) rfl (n := 7) rfl ⟨by decide, by decide⟩ (by decide) ?_
    refine a_iv7 (y := 1) rfl rfl rfl (by decide) ?_
    refine a_goto rfl ?_
    refine a_l7 rfl rfl rfl ?_
    refine a_if_lt rfl (fun c => absurd c (by decide)) (fun c51 => ?_)
    refine a_l0 rfl rfl rfl ?_
    refine a_getq rfl gfX12_45_12 rfl rfl ?_
    refine a_l7 rfl rfl rfl ?_
    refine a_l0 rfl rfl rfl ?_
    refine a_getq rfl gfX12_45_12 rfl rfl ?_
    refine a_l7 rfl rfl rfl ?_
    refine a_laldv (v := rowW h j 1) rfl (n := 7) rfl ⟨by decide, by decide⟩ rfl ?_
    refine a_s rfl rfl ?_
    refine a_l3 rfl rfl rfl ?_
    refine a_s rfl rfl ?_
    refine a_s rfl rfl ?_
    refine a_s rfl rfl ?_
    refine a_l7 rfl rfl rfl ?_
    refine a_if_ne rfl (fun c75 => ?_) (fun c => absurd c (by decide))
    refine a_l0 rfl rfl rfl ?_
    refine a_getq rfl gfX12_45_12 rfl rfl ?_
    refine a_l7 rfl rfl rfl ?_
    refine a_s rfl rfl ?_
    refine a_s rfl rfl ?_
    refine a_top (y := 0) (by decide) ?_
    refine a_laldv (v := rowW h j 0) rfl (n := 7) rfl ⟨by decide, by decide⟩ rfl ?_
    refine a_l3 rfl rfl rfl ?_
    refine a_s rfl rfl ?_
    refine a_s rfl rfl ?_
    refine a_s rfl rfl ?_
    refine a_lastv (k := 1) rfl (n := 7) rfl ⟨by decide, by decide⟩ (by decide) ?_
    refine a_iv7 (y := 0) rfl rfl rfl (by decide) ?_
    refine a_goto rfl ?_
    refine a_l7 rfl rfl rfl ?_
    refine a_if_lt rfl (fun c => absurd c (by decide)) (fun c51 => ?_)
    refine a_l0 rfl rfl rfl ?_
    refine a_getq rfl gfX12_45_12 rfl rfl ?_
    refine a_l7 rfl rfl rfl ?_
    refine a_l0 rfl rfl rfl ?_
    refine a_getq rfl gfX12_45_12 rfl rfl ?_
    refine a_l7 rfl rfl rfl ?_
    refine a_laldv (v := rowW h j 0) rfl (n := 7) rfl ⟨by decide, by decide⟩ rfl ?_
    refine a_s rfl rfl ?_
    refine a_l3 rfl rfl rfl ?_
    refine a_s rfl rfl ?_
    refine a_s rfl rfl ?_
    refine a_s rfl rfl ?_
    refine a_l7 rfl rfl rfl ?_
    refine a_if_ne rfl (fun c => absurd c (by decide)) (fun c75 => ?_)
    refine a_s rfl rfl ?_
    refine a_goto rfl ?_
    refine a_s rfl rfl ?_
    refine a_lastv (k := 0) rfl (n := 7) rfl ⟨by decide, by decide⟩ (by decide) ?_
    refine a_iv7 (y := (-1)) rfl rfl rfl (by decide) ?_
    refine a_goto rfl ?_
    refine a_l7 rfl rfl rfl ?_
    refine a_if_lt rfl (fun c51 => ?_) (fun c => absurd (by decide) c)
    refine a_l4 rfl rfl rfl ?_
    refine a_ldc2 rfl kX12_454 ?_
    refine a_s rfl rfl ?_
    refine a_sL4 rfl rfl rfl rfl ?_
    refine a_i6 rfl rfl rfl ?_
    refine a_goto rfl ?_
    exact a_back ih39 (by simp [lsub, nI_1, allW]) (by show (K0, I, _, _, _) = (K0, I, _, _, _); rw [show rowW h (j + 1) = stepW h (rowW h j) from rfl, ← setW_step (L := L) (f := rowW h j) (g := stepW h (rowW h j))]; rfl)
  refine a_l6 rfl rfl rfl ?_
  refine a_l1 rfl rfl rfl ?_
  refine a_ic_ge rfl (fun c42 => ?_) (fun c => absurd (Int32.le_refl _) c)
  refine a_s rfl rfl ?_
  refine a_sL6 rfl rfl rfl rfl ?_
  refine a_l2 rfl rfl rfl ?_
  refine a_s8 rfl rfl rfl rfl rfl rfl ?_
  refine a_forE (n := 7 - m) (fun j => [some (.ref 420), some (.int (nI n)), some (.int (nI m)), some (.int h), some (.long (allW n)), none, some (.long (sumW (rowW h n) m j)), none, some (.int (nI (m + j)))]) (fun j => hp I (setW L (rowW h n)) w1 w2 t) (by simp [lsub, sumW]) rfl ?_ (fun j hj ih122 => ?_)
  rotate_left
  · refine a_l8 rfl rfl rfl ?_
    refine a_s rfl rfl ?_
    refine a_ic_gt rfl (fun c => absurd c (nI_nlu (n := 6) (by omega) (by omega))) (fun c126 => ?_)
    refine a_l6 rfl rfl rfl ?_
    refine a_l0 rfl rfl rfl ?_
    refine a_getq rfl gfX12_45_12 rfl (rfl) ?_
    refine a_l8 rfl rfl rfl ?_
    refine a_laldv (v := rowW h n (m + j)) rfl (n := 7) rfl (inI_nI (by omega) (by omega)) (by rw [nI_clamp (by omega)]; exact setW_at (by omega)) ?_
    refine a_s rfl rfl ?_
    refine a_sL6 rfl rfl rfl rfl ?_
    refine a_i8 rfl rfl rfl ?_
    refine a_goto rfl ?_
    exact a_back ih122 (by simp [lsub, nI_1, sumW, Nat.add_assoc]) rfl
  refine a_l8 rfl rfl rfl ?_
  refine a_s rfl rfl ?_
  refine a_ic_gt rfl (fun c126 => ?_) (fun c => absurd (by rw [show m + (7 - m) = 6 + 1 by omega]; exact nI_ltn (n := 6) (by omega)) c)
  refine a_ldc2 rfl kX12_456 ?_
  refine a_l6 rfl rfl rfl ?_
  refine a_s rfl rfl ?_
  refine a_l4 rfl rfl rfl ?_
  refine a_ldiv rfl (allW_ne n hn) ?_
  refine a_s rfl rfl ?_
  refine a_iret rfl rfl ⟨rfl, rfl⟩
