/-! ===== odds, on both sides ===== -/
set_option maxRecDepth 100000
def powF (b : Int32) : Nat → Int64
  | 0 => 1
  | n + 1 => powF b n * b.toInt64
def waysF (n : Nat) : Nat → Int64
  | 0 => 1
  | j + 1 => waysF n j * (nI n - nI j).toInt64 / (nI j + 1).toInt64
def hitsF (h : Int32) (n : Nat) (k : Int32) : Nat → Int64
  | 0 => 0
  | j + 1 => if nI j < k then hitsF h n k j else hitsF h n k j + waysF n j * powF h j * powF (100 - h) (n - j)
def oddsC (h : Int32) (n : Nat) (k : Int32) : Int32 := if lg_cmp (powF 100 n) 0 ≤ 0 then 0 else (hitsF h n k (n + 1) * 10000 / powF 100 n).toInt32
theorem nI_sub {n j : Nat} (h : j ≤ n) : nI n - nI j = nI (n - j) := by
  obtain ⟨i, rfl⟩ := Nat.exists_eq_add_of_le h
  rw [← nI_addl, show j + i - j = i by omega, Int32.add_comm, Int32.add_sub_cancel]
theorem nI_ltn {n : Nat} (h : n + 1 < 2 ^ 31) : nI n < nI (n + 1) := Int32.lt_iff_toInt_lt.mpr (by rw [nI_toInt (by omega), nI_toInt h]; omega)
theorem nI_nlu {n j : Nat} (h : j ≤ n) (hn : n < 2 ^ 31) : ¬ nI n < nI j := fun z => by
  have := Int32.lt_iff_toInt_lt.mp z
  rw [nI_toInt hn, nI_toInt (by omega)] at this
  omega
theorem day_ne : ∀ j, j ≤ 6 → ¬ (nI j + 1).toInt64 = 0 := by decide +kernel
theorem cmp_ne {x : Int64} (h : ¬ lg_cmp x 0 ≤ 0) : ¬ x = 0 := fun z => h (by rw [z, cmp_self]; decide)
theorem sp_X0_power {S : aS} {h : aH} {b : Int32} {n : Nat} (hn : n < 2 ^ 31) : SpE S m_X0_power 12 [.int b, .int (nI n)] (h) (some (.long (powF b n))) (h) := by
  refine SpE_of ok_X0_power rfl rfl ?_
  show AW S m_X0_power 12 _ _ 0 0 0 [some (.int b), some (.int (nI n)), none, none, none] [] (h)
  refine a_s rfl rfl ?_
  refine a_sL2 rfl rfl rfl rfl ?_
  refine a_s rfl rfl ?_
  refine a_s4 rfl rfl rfl rfl rfl rfl ?_
  refine a_forE (n := n) (fun j => [some (.int b), some (.int (nI n)), some (.long (powF b j)), none, some (.int (nI j))]) (fun j => h) (by simp [lsub, nI_0, powF]) (rfl) ?_ (fun j hj ih5 => ?_)
  · refine a_l4 rfl rfl rfl ?_
    refine a_l1 rfl rfl rfl ?_
    refine a_ic_ge rfl (fun c8 => ?_) (fun c => absurd (Int32.le_refl _) c)
    refine a_l2 rfl rfl rfl ?_
    refine a_lret rfl rfl ⟨rfl, rfl⟩
  · refine a_l4 rfl rfl rfl ?_
    refine a_l1 rfl rfl rfl ?_
    refine a_ic_ge rfl (fun c => absurd c (nI_ge hj hn)) (fun c8 => ?_)
    refine a_l2 rfl rfl rfl ?_
    refine a_l0 rfl rfl rfl ?_
    refine a_s rfl rfl ?_
    refine a_s rfl rfl ?_
    refine a_sL2 rfl rfl rfl rfl ?_
    refine a_i4 rfl rfl rfl ?_
    refine a_goto rfl ?_
    exact a_back ih5 (by simp [lsub, nI_1, powF]) rfl
theorem sp_X0_oddsOf {S : aS} {hh : aH} {h k : Int32} {n : Nat} (hn : n ≤ 6) : SpE S m_X0_oddsOf 13 [.int h, .int (nI n), .int k] (hh) (some (.int (oddsC h n k))) (hh) := by
  refine SpE_of ok_X0_oddsOf rfl rfl ?_
  show AW S m_X0_oddsOf 13 _ _ 0 0 0 [some (.int h), some (.int (nI n)), some (.int k), none, none, none, none, none, none, none] [] (hh)
  refine a_s rfl rfl ?_
  refine a_sL3 rfl rfl rfl rfl ?_
  refine a_s rfl rfl ?_
  refine a_l1 rfl rfl rfl ?_
  refine a_eS1 rfl lX0_109 mo_X0_power (sp_X0_power (b := 100) (n := n) (by omega)) rfl rfl rfl rfl ?_
  refine a_sL5 rfl rfl rfl rfl ?_
  refine a_s rfl rfl ?_
  refine a_sL7 rfl rfl rfl rfl ?_
  refine a_s rfl rfl ?_
  refine a_s9 rfl rfl rfl rfl rfl rfl ?_
  refine a_forE (n := n + 1) (fun j => [some (.int h), some (.int (nI n)), some (.int k), some (.long (hitsF h n k j)), none, some (.long (powF 100 n)), none, some (.long (waysF n j)), none, some (.int (nI j))]) (fun j => hh) (by simp [lsub, nI_0, hitsF, waysF]) (rfl) ?_ (fun j hj ih16 => ?_)
  · refine a_l9 rfl rfl rfl ?_
    refine a_l1 rfl rfl rfl ?_
    refine a_ic_gt rfl (fun c19 => ?_) (fun c => absurd (nI_ltn (by omega)) c)
    refine a_l5 rfl rfl rfl ?_
    refine a_s rfl rfl ?_
    refine a_s rfl rfl ?_
    refine a_if_le rfl (fun c78 => ?_) (fun c78 => ?_)
    · refine a_s rfl rfl ?_
      refine a_iret rfl rfl ⟨by simp [oddsC, *], rfl⟩
    · refine a_l3 rfl rfl rfl ?_
      refine a_ldc2 rfl kX0_113 ?_
      refine a_s rfl rfl ?_
      refine a_l5 rfl rfl rfl ?_
      refine a_ldiv rfl (cmp_ne c78) ?_
      refine a_s rfl rfl ?_
      refine a_goto rfl ?_
      refine a_iret rfl rfl ⟨by simp [oddsC, *], rfl⟩
  · refine a_l9 rfl rfl rfl ?_
    refine a_l1 rfl rfl rfl ?_
    refine a_ic_gt rfl (fun c => absurd c (nI_nlu (by omega) (by omega))) (fun c19 => ?_)
    refine a_l9 rfl rfl rfl ?_
    refine a_l2 rfl rfl rfl ?_
    refine a_ic_lt rfl (fun c25 => ?_) (fun c25 => ?_)
    · refine a_l7 rfl rfl rfl ?_
      refine a_l1 rfl rfl rfl ?_
      refine a_l9 rfl rfl rfl ?_
      refine a_s rfl rfl ?_
      refine a_s rfl rfl ?_
      refine a_s rfl rfl ?_
      refine a_l9 rfl rfl rfl ?_
      refine a_s rfl rfl ?_
      refine a_s rfl rfl ?_
      refine a_s rfl rfl ?_
      refine a_ldiv rfl (day_ne j (by omega)) ?_
      refine a_sL7 rfl rfl rfl rfl ?_
      refine a_i9 rfl rfl rfl ?_
      refine a_goto rfl ?_
      exact a_back ih16 (by simp [lsub, nI_1, hitsF, waysF, *]) rfl
    · refine a_l3 rfl rfl rfl ?_
      refine a_l7 rfl rfl rfl ?_
      refine a_l0 rfl rfl rfl ?_
      refine a_l9 rfl rfl rfl ?_
      refine a_eS1 rfl lX0_109 mo_X0_power (sp_X0_power (n := j) (by omega)) rfl rfl rfl rfl ?_
      refine a_s rfl rfl ?_
      refine a_s rfl rfl ?_
      refine a_l0 rfl rfl rfl ?_
      refine a_s rfl rfl ?_
      refine a_l1 rfl rfl rfl ?_
      refine a_l9 rfl rfl rfl ?_
      refine a_s rfl rfl ?_
      rw [nI_sub (by omega)]
      refine a_eS1 rfl lX0_109 mo_X0_power (sp_X0_power (n := n - j) (by omega)) rfl rfl rfl rfl ?_
      refine a_s rfl rfl ?_
      refine a_s rfl rfl ?_
      refine a_sL3 rfl rfl rfl rfl ?_
      refine a_l7 rfl rfl rfl ?_
      refine a_l1 rfl rfl rfl ?_
      refine a_l9 rfl rfl rfl ?_
      refine a_s rfl rfl ?_
      refine a_s rfl rfl ?_
      refine a_s rfl rfl ?_
      refine a_l9 rfl rfl rfl ?_
      refine a_s rfl rfl ?_
      refine a_s rfl rfl ?_
      refine a_s rfl rfl ?_
      refine a_ldiv rfl (day_ne j (by omega)) ?_
      refine a_sL7 rfl rfl rfl rfl ?_
      refine a_i9 rfl rfl rfl ?_
      refine a_goto rfl ?_
      exact a_back ih16 (by simp [lsub, nI_1, hitsF, waysF, *]) rfl
def setW (L : Nat → Nat → Int64) (f : Nat → Int64) : Nat → Nat → Int64 := up2 (up2 (up2 (up2 (up2 (up2 (up2 L 430 0 (f 0)) 430 1 (f 1)) 430 2 (f 2)) 430 3 (f 3)) 430 4 (f 4)) 430 5 (f 5)) 430 6 (f 6)
def stepW (h : Int32) (f : Nat → Int64) : Nat → Int64
  | 0 => f 0 * (100 - h).toInt64 + 0
  | k + 1 => f (k + 1) * (100 - h).toInt64 + f k * h.toInt64
def rowW (h : Int32) : Nat → Nat → Int64
  | 0 => fun k => if k = 0 then 1 else 0
  | d + 1 => stepW h (rowW h d)
def allW : Nat → Int64
  | 0 => 1
  | d + 1 => allW d * 100
def sumW (f : Nat → Int64) (m : Nat) : Nat → Int64
  | 0 => 0
  | j + 1 => sumW f m j + f (m + j)
def oddsR (h : Int32) (n m : Nat) : Int32 := (10000 * sumW (rowW h n) m (7 - m) / allW n).toInt32
theorem setW_at {L : Nat → Nat → Int64} {f : Nat → Int64} {k : Nat} (hk : k < 7) : setW L f 430 k = f k := by
  rcases k with _ | _ | _ | _ | _ | _ | _ | k <;> first | rfl | omega
theorem setW_row {L : Nat → Nat → Int64} {f : Nat → Int64} {q : Nat} (h : q ≠ 430) : setW L f q = L q := by
  unfold setW
  simp only [up2_row h]
theorem setW_step {L : Nat → Nat → Int64} {f g : Nat → Int64} : up2 (up2 (up2 (up2 (up2 (up2 (up2 (setW L f) 430 6 (g 6)) 430 5 (g 5)) 430 4 (g 4)) 430 3 (g 3)) 430 2 (g 2)) 430 1 (g 1)) 430 0 (g 0) = setW L g := by
  funext q k
  by_cases hq : q = 430
  · subst hq
    rcases k with _ | _ | _ | _ | _ | _ | _ | k
    all_goals rfl
  · rw [setW_row hq]
    simp only [up2_row hq, setW_row hq]
theorem allW_ne : ∀ n, n ≤ 6 → ¬ allW n = 0 := by decide +kernel
theorem sp_X12_oddsOf {S : aS} {I : Nat → Nat → Int32} {L : Nat → Nat → Int64} {w1 w2 t : Nat} {h : Int32} {n m : Nat} (hn : n ≤ 6) (hm : m ≤ 6) : SpE S m_X12_oddsOf 12 [.ref 420, .int (nI n), .int (nI m), .int h] (hp I L w1 w2 t) (some (.int (oddsR h n m))) (hp I (setW L (rowW h n)) w1 w2 t) := by
  refine SpE_of ok_X12_oddsOf rfl rfl ?_
  show AW S m_X12_oddsOf 12 _ _ 0 0 0 [some (.ref 420), some (.int (nI n)), some (.int (nI m)), some (.int h), none, none, none, none, none] [] (hp I L w1 w2 t)
  refine a_s rfl rfl ?_
  refine a_sL4 rfl rfl rfl rfl ?_
  refine a_s rfl rfl ?_
  refine a_s6 rfl rfl rfl rfl rfl rfl ?_
  refine a_l6 rfl rfl rfl ?_
  refine a_s rfl rfl ?_
  refine a_ic_gt rfl (fun c => absurd c (by decide)) (fun c10 => ?_)
  refine a_l0 rfl rfl rfl ?_
  refine a_getq rfl gfX12_45_12 rfl rfl ?_
  refine a_l6 rfl rfl rfl ?_
  refine a_l6 rfl rfl rfl ?_
  refine a_if_ne rfl (fun c => absurd c (by decide)) (fun c21 => ?_)
  refine a_s rfl rfl ?_
  refine a_goto rfl ?_
  refine a_lastv (k := 0) rfl (n := 7) rfl ⟨by decide, by decide⟩ (by decide) ?_
  refine a_iv6 (y := 1) rfl rfl rfl (by decide) ?_
  refine a_goto rfl ?_
  refine a_l6 rfl rfl rfl ?_
  refine a_s rfl rfl ?_
  refine a_ic_gt rfl (fun c => absurd c (by decide)) (fun c10 => ?_)
  refine a_l0 rfl rfl rfl ?_
  refine a_getq rfl gfX12_45_12 rfl rfl ?_
  refine a_l6 rfl rfl rfl ?_
  refine a_l6 rfl rfl rfl ?_
  refine a_if_ne rfl (fun c21 => ?_) (fun c => absurd c (by decide))
  refine a_s rfl rfl ?_
  refine a_lastv (k := 1) rfl (n := 7) rfl ⟨by decide, by decide⟩ (by decide) ?_
  refine a_iv6 (y := 2) rfl rfl rfl (by decide) ?_
  refine a_goto rfl ?_
  refine a_l6 rfl rfl rfl ?_
  refine a_s rfl rfl ?_
  refine a_ic_gt rfl (fun c => absurd c (by decide)) (fun c10 => ?_)
  refine a_l0 rfl rfl rfl ?_
  refine a_getq rfl gfX12_45_12 rfl rfl ?_
  refine a_l6 rfl rfl rfl ?_
  refine a_l6 rfl rfl rfl ?_
  refine a_if_ne rfl (fun c21 => ?_) (fun c => absurd c (by decide))
  refine a_s rfl rfl ?_
  refine a_lastv (k := 2) rfl (n := 7) rfl ⟨by decide, by decide⟩ (by decide) ?_
  refine a_iv6 (y := 3) rfl rfl rfl (by decide) ?_
  refine a_goto rfl ?_
  refine a_l6 rfl rfl rfl ?_
  refine a_s rfl rfl ?_
  refine a_ic_gt rfl (fun c => absurd c (by decide)) (fun c10 => ?_)
  refine a_l0 rfl rfl rfl ?_
  refine a_getq rfl gfX12_45_12 rfl rfl ?_
  refine a_l6 rfl rfl rfl ?_
  refine a_l6 rfl rfl rfl ?_
  refine a_if_ne rfl (fun c21 => ?_) (fun c => absurd c (by decide))
  refine a_s rfl rfl ?_
  refine a_lastv (k := 3) rfl (n := 7) rfl ⟨by decide, by decide⟩ (by decide) ?_
  refine a_iv6 (y := 4) rfl rfl rfl (by decide) ?_
  refine a_goto rfl ?_
  refine a_l6 rfl rfl rfl ?_
  refine a_s rfl rfl ?_
  refine a_ic_gt rfl (fun c => absurd c (by decide)) (fun c10 => ?_)
  refine a_l0 rfl rfl rfl ?_
  refine a_getq rfl gfX12_45_12 rfl rfl ?_
  refine a_l6 rfl rfl rfl ?_
  refine a_l6 rfl rfl rfl ?_
  refine a_if_ne rfl (fun c21 => ?_) (fun c => absurd c (by decide))
  refine a_s rfl rfl ?_
  refine a_lastv (k := 4) rfl (n := 7) rfl ⟨by decide, by decide⟩ (by decide) ?_
  refine a_iv6 (y := 5) rfl rfl rfl (by decide) ?_
  refine a_goto rfl ?_
  refine a_l6 rfl rfl rfl ?_
  refine a_s rfl rfl ?_
  refine a_ic_gt rfl (fun c => absurd c (by decide)) (fun c10 => ?_)
  refine a_l0 rfl rfl rfl ?_
  refine a_getq rfl gfX12_45_12 rfl rfl ?_
  refine a_l6 rfl rfl rfl ?_
  refine a_l6 rfl rfl rfl ?_
  refine a_if_ne rfl (fun c21 => ?_) (fun c => absurd c (by decide))
  refine a_s rfl rfl ?_
  refine a_lastv (k := 5) rfl (n := 7) rfl ⟨by decide, by decide⟩ (by decide) ?_
  refine a_iv6 (y := 6) rfl rfl rfl (by decide) ?_
  refine a_goto rfl ?_
  refine a_l6 rfl rfl rfl ?_
  refine a_s rfl rfl ?_
  refine a_ic_gt rfl (fun c => absurd c (by decide)) (fun c10 => ?_)
  refine a_l0 rfl rfl rfl ?_
  refine a_getq rfl gfX12_45_12 rfl rfl ?_
  refine a_l6 rfl rfl rfl ?_
  refine a_l6 rfl rfl rfl ?_
  refine a_if_ne rfl (fun c21 => ?_) (fun c => absurd c (by decide))
  refine a_s rfl rfl ?_
  refine a_lastv (k := 6) rfl (n := 7) rfl ⟨by decide, by decide⟩ (by decide) ?_
  refine a_iv6 (y := 7) rfl rfl rfl (by decide) ?_
  refine a_goto rfl ?_
  refine a_l6 rfl rfl rfl ?_
  refine a_s rfl rfl ?_
  refine a_ic_gt rfl (fun c10 => ?_) (fun c => absurd (by decide) c)
  refine a_eq (h' := hp I (setW L (rowW h 0)) w1 w2 t) rfl rfl ?_
  refine a_s rfl rfl ?_
  refine a_s6 rfl rfl rfl rfl rfl rfl ?_
  refine a_forE (n := n) (fun j => [some (.ref 420), some (.int (nI n)), some (.int (nI m)), some (.int h), some (.long (allW j)), none, some (.int (nI j)), none, none]) (fun j => hp I (setW L (rowW h j)) w1 w2 t) (by simp [lsub, nI_0, allW]) rfl ?_ (fun j hj ih39 => ?_)
  rotate_left
  · refine a_l6 rfl rfl rfl ?_
    refine a_l1 rfl rfl rfl ?_
    refine a_ic_ge rfl (fun c => absurd c (nI_ge hj (by omega))) (fun c42 => ?_)
    refine a_s rfl rfl ?_
    refine a_s7 rfl rfl rfl rfl rfl rfl ?_
    refine a_l7 rfl rfl rfl ?_
    refine a_if_lt rfl (fun c => absurd c (by decide)) (fun c51 => ?_)
    refine a_l0 rfl rfl rfl ?_
    refine a_getq rfl gfX12_45_12 rfl rfl ?_
    refine a_l7 rfl rfl rfl ?_
    refine a_l0 rfl rfl rfl ?_
    refine a_getq rfl gfX12_45_12 rfl rfl ?_
    refine a_l7 rfl rfl rfl ?_
    refine a_laldv (v := rowW h j 6) rfl (n := 7) rfl ⟨by decide, by decide⟩ rfl ?_
    refine a_s rfl rfl ?_
    refine a_l3 rfl rfl rfl ?_
    refine a_s rfl rfl ?_
    refine a_s rfl rfl ?_
    refine a_s rfl rfl ?_
    refine a_l7 rfl rfl rfl ?_
    refine a_if_ne rfl (fun c75 => ?_) (fun c => absurd c (by decide))
    refine a_l0 rfl rfl rfl ?_
    refine a_getq rfl gfX12_45_12 rfl rfl ?_
    refine a_l7 rfl rfl rfl ?_
    refine a_s rfl rfl ?_
    refine a_s rfl rfl ?_
    refine a_top (y := 5) (by decide) ?_
    refine a_laldv (v := rowW h j 5) rfl (n := 7) rfl ⟨by decide, by decide⟩ rfl ?_
    refine a_l3 rfl rfl rfl ?_
    refine a_s rfl rfl ?_
    refine a_s rfl rfl ?_
    refine a_s rfl rfl ?_
    refine a_lastv (k := 6) rfl (n := 7) rfl ⟨by decide, by decide⟩ (by decide) ?_
    refine a_iv7 (y := 5) rfl rfl rfl (by decide) ?_
    refine a_goto rfl ?_
    refine a_l7 rfl rfl rfl ?_
    refine a_if_lt rfl (fun c => absurd c (by decide)) (fun c51 => ?_)
    refine a_l0 rfl rfl rfl ?_
    refine a_getq rfl gfX12_45_12 rfl rfl ?_
    refine a_l7 rfl rfl rfl ?_
    refine a_l0 rfl rfl rfl ?_
    refine a_getq rfl gfX12_45_12 rfl rfl ?_
    refine a_l7 rfl rfl rfl ?_
    refine a_laldv (v := rowW h j 5) rfl (n := 7) rfl ⟨by decide, by decide⟩ rfl ?_
    refine a_s rfl rfl ?_
    refine a_l3 rfl rfl rfl ?_
    refine a_s rfl rfl ?_
    refine a_s rfl rfl ?_
    refine a_s rfl rfl ?_
    refine a_l7 rfl rfl rfl ?_
    refine a_if_ne rfl (fun c75 => ?_) (fun c => absurd c (by decide))
    refine a_l0 rfl rfl rfl ?_
    refine a_getq rfl gfX12_45_12 rfl rfl ?_
    refine a_l7 rfl rfl rfl ?_
    refine a_s rfl rfl ?_
    refine a_s rfl rfl ?_
    refine a_top (y := 4) (by decide) ?_
    refine a_laldv (v := rowW h j 4) rfl (n := 7) rfl ⟨by decide, by decide⟩ rfl ?_
    refine a_l3 rfl rfl rfl ?_
    refine a_s rfl rfl ?_
    refine a_s rfl rfl ?_
    refine a_s rfl rfl ?_
    refine a_lastv (k := 5) rfl (n := 7) rfl ⟨by decide, by decide⟩ (by decide) ?_
    refine a_iv7 (y := 4) rfl rfl rfl (by decide) ?_
    refine a_goto rfl ?_
    refine a_l7 rfl rfl rfl ?_
    refine a_if_lt rfl (fun c => absurd c (by decide)) (fun c51 => ?_)
    refine a_l0 rfl rfl rfl ?_
    refine a_getq rfl gfX12_45_12 rfl rfl ?_
    refine a_l7 rfl rfl rfl ?_
    refine a_l0 rfl rfl rfl ?_
    refine a_getq rfl gfX12_45_12 rfl rfl ?_
    refine a_l7 rfl rfl rfl ?_
    refine a_laldv (v := rowW h j 4) rfl (n := 7) rfl ⟨by decide, by decide⟩ rfl ?_
    refine a_s rfl rfl ?_
    refine a_l3 rfl rfl rfl ?_
    refine a_s rfl rfl ?_
    refine a_s rfl rfl ?_
    refine a_s rfl rfl ?_
    refine a_l7 rfl rfl rfl ?_
    refine a_if_ne rfl (fun c75 => ?_) (fun c => absurd c (by decide))
    refine a_l0 rfl rfl rfl ?_
    refine a_getq rfl gfX12_45_12 rfl rfl ?_
    refine a_l7 rfl rfl rfl ?_
    refine a_s rfl rfl ?_
    refine a_s rfl rfl ?_
    refine a_top (y := 3) (by decide) ?_
    refine a_laldv (v := rowW h j 3) rfl (n := 7) rfl ⟨by decide, by decide⟩ rfl ?_
    refine a_l3 rfl rfl rfl ?_
    refine a_s rfl rfl ?_
    refine a_s rfl rfl ?_
    refine a_s rfl rfl ?_
    refine a_lastv (k := 4) rfl (n := 7) rfl ⟨by decide, by decide⟩ (by decide) ?_
    refine a_iv7 (y := 3) rfl rfl rfl (by decide) ?_
    refine a_goto rfl ?_
    refine a_l7 rfl rfl rfl ?_
    refine a_if_lt rfl (fun c => absurd c (by decide)) (fun c51 => ?_)
    refine a_l0 rfl rfl rfl ?_
    refine a_getq rfl gfX12_45_12 rfl rfl ?_
    refine a_l7 rfl rfl rfl ?_
    refine a_l0 rfl rfl rfl ?_
    refine a_getq rfl gfX12_45_12 rfl rfl ?_
    refine a_l7 rfl rfl rfl ?_
    refine a_laldv (v := rowW h j 3) rfl (n := 7) rfl ⟨by decide, by decide⟩ rfl ?_
    refine a_s rfl rfl ?_
    refine a_l3 rfl rfl rfl ?_
    refine a_s rfl rfl ?_
    refine a_s rfl rfl ?_
    refine a_s rfl rfl ?_
    refine a_l7 rfl rfl rfl ?_
    refine a_if_ne rfl (fun c75 => ?_) (fun c => absurd c (by decide))
    refine a_l0 rfl rfl rfl ?_
    refine a_getq rfl gfX12_45_12 rfl rfl ?_
    refine a_l7 rfl rfl rfl ?_
    refine a_s rfl rfl ?_
    refine a_s rfl rfl ?_
    refine a_top (y := 2) (by decide) ?_
    refine a_laldv (v := rowW h j 2) rfl (n := 7) rfl ⟨by decide, by decide⟩ rfl ?_
    refine a_l3 rfl rfl rfl ?_
    refine a_s rfl rfl ?_
    refine a_s rfl rfl ?_
    refine a_s rfl rfl ?_
    refine a_lastv (k := 3) rfl (n := 7) rfl ⟨by decide, by decide⟩ (by decide) ?_
    refine a_iv7 (y := 2) rfl rfl rfl (by decide) ?_
    refine a_goto rfl ?_
    refine a_l7 rfl rfl rfl ?_
    refine a_if_lt rfl (fun c => absurd c (by decide)) (fun c51 => ?_)
    refine a_l0 rfl rfl rfl ?_
    refine a_getq rfl gfX12_45_12 rfl rfl ?_
    refine a_l7 rfl rfl rfl ?_
    refine a_l0 rfl rfl rfl ?_
    refine a_getq rfl gfX12_45_12 rfl rfl ?_
    refine a_l7 rfl rfl rfl ?_
    refine a_laldv (v := rowW h j 2) rfl (n := 7) rfl ⟨by decide, by decide⟩ rfl ?_
    refine a_s rfl rfl ?_
    refine a_l3 rfl rfl rfl ?_
    refine a_s rfl rfl ?_
    refine a_s rfl rfl ?_
    refine a_s rfl rfl ?_
    refine a_l7 rfl rfl rfl ?_
    refine a_if_ne rfl (fun c75 => ?_) (fun c => absurd c (by decide))
    refine a_l0 rfl rfl rfl ?_
    refine a_getq rfl gfX12_45_12 rfl rfl ?_
    refine a_l7 rfl rfl rfl ?_
    refine a_s rfl rfl ?_
    refine a_s rfl rfl ?_
    refine a_top (y := 1) (by decide) ?_
    refine a_laldv (v := rowW h j 1) rfl (n := 7) rfl ⟨by decide, by decide⟩ rfl ?_
    refine a_l3 rfl rfl rfl ?_
    refine a_s rfl rfl ?_
    refine a_s rfl rfl ?_
    refine a_s rfl rfl ?_
    refine a_lastv (k := 2) rfl (n := 7) rfl ⟨by decide, by decide⟩ (by decide) ?_
    refine a_iv7 (y := 1) rfl rfl rfl (by decide) ?_
    refine a_goto rfl ?_
    refine a_l7 rfl rfl rfl ?_
    refine a_if_lt rfl (fun c => absurd c (by decide)) (fun c51 => ?_)
    refine a_l0 rfl rfl rfl ?_
    refine a_getq rfl gfX12_45_12 rfl rfl ?_
    refine a_l7 rfl rfl rfl ?_
    refine a_l0 rfl rfl rfl ?_
    refine a_getq rfl gfX12_45_12 rfl rfl ?_
    refine a_l7 rfl rfl rfl ?_
    refine a_laldv (v := rowW h j 1) rfl (n := 7) rfl ⟨by decide, by decide⟩ rfl ?_
    refine a_s rfl rfl ?_
    refine a_l3 rfl rfl rfl ?_
    refine a_s rfl rfl ?_
    refine a_s rfl rfl ?_
    refine a_s rfl rfl ?_
    refine a_l7 rfl rfl rfl ?_
    refine a_if_ne rfl (fun c75 => ?_) (fun c => absurd c (by decide))
    refine a_l0 rfl rfl rfl ?_
    refine a_getq rfl gfX12_45_12 rfl rfl ?_
    refine a_l7 rfl rfl rfl ?_
    refine a_s rfl rfl ?_
    refine a_s rfl rfl ?_
    refine a_top (y := 0) (by decide) ?_
    refine a_laldv (v := rowW h j 0) rfl (n := 7) rfl ⟨by decide, by decide⟩ rfl ?_
    refine a_l3 rfl rfl rfl ?_
    refine a_s rfl rfl ?_
    refine a_s rfl rfl ?_
    refine a_s rfl rfl ?_
    refine a_lastv (k := 1) rfl (n := 7) rfl ⟨by decide, by decide⟩ (by decide) ?_
    refine a_iv7 (y := 0) rfl rfl rfl (by decide) ?_
    refine a_goto rfl ?_
    refine a_l7 rfl rfl rfl ?_
    refine a_if_lt rfl (fun c => absurd c (by decide)) (fun c51 => ?_)
    refine a_l0 rfl rfl rfl ?_
    refine a_getq rfl gfX12_45_12 rfl rfl ?_
    refine a_l7 rfl rfl rfl ?_
    refine a_l0 rfl rfl rfl ?_
    refine a_getq rfl gfX12_45_12 rfl rfl ?_
    refine a_l7 rfl rfl rfl ?_
    refine a_laldv (v := rowW h j 0) rfl (n := 7) rfl ⟨by decide, by decide⟩ rfl ?_
    refine a_s rfl rfl ?_
    refine a_l3 rfl rfl rfl ?_
    refine a_s rfl rfl ?_
    refine a_s rfl rfl ?_
    refine a_s rfl rfl ?_
    refine a_l7 rfl rfl rfl ?_
    refine a_if_ne rfl (fun c => absurd c (by decide)) (fun c75 => ?_)
    refine a_s rfl rfl ?_
    refine a_goto rfl ?_
    refine a_s rfl rfl ?_
    refine a_lastv (k := 0) rfl (n := 7) rfl ⟨by decide, by decide⟩ (by decide) ?_
    refine a_iv7 (y := (-1)) rfl rfl rfl (by decide) ?_
    refine a_goto rfl ?_
    refine a_l7 rfl rfl rfl ?_
    refine a_if_lt rfl (fun c51 => ?_) (fun c => absurd (by decide) c)
    refine a_l4 rfl rfl rfl ?_
    refine a_ldc2 rfl kX12_454 ?_
    refine a_s rfl rfl ?_
    refine a_sL4 rfl rfl rfl rfl ?_
    refine a_i6 rfl rfl rfl ?_
    refine a_goto rfl ?_
    exact a_back ih39 (by simp [lsub, nI_1, allW]) (by show (K0, I, _, _, _) = (K0, I, _, _, _); rw [show rowW h (j + 1) = stepW h (rowW h j) from rfl, ← setW_step (L := L) (f := rowW h j) (g := stepW h (rowW h j))]; rfl)
  refine a_l6 rfl rfl rfl ?_
  refine a_l1 rfl rfl rfl ?_
  refine a_ic_ge rfl (fun c42 => ?_) (fun c => absurd (Int32.le_refl _) c)
  refine a_s rfl rfl ?_
  refine a_sL6 rfl rfl rfl rfl ?_
  refine a_l2 rfl rfl rfl ?_
  refine a_s8 rfl rfl rfl rfl rfl rfl ?_
  refine a_forE (n := 7 - m) (fun j => [some (.ref 420), some (.int (nI n)), some (.int (nI m)), some (.int h), some (.long (allW n)), none, some (.long (sumW (rowW h n) m j)), none, some (.int (nI (m + j)))]) (fun j => hp I (setW L (rowW h n)) w1 w2 t) (by simp [lsub, sumW]) rfl ?_ (fun j hj ih122 => ?_)
  rotate_left
  · refine a_l8 rfl rfl rfl ?_
    refine a_s rfl rfl ?_
    refine a_ic_gt rfl (fun c => absurd c (nI_nlu (n := 6) (by omega) (by omega))) (fun c126 => ?_)
    refine a_l6 rfl rfl rfl ?_
    refine a_l0 rfl rfl rfl ?_
    refine a_getq rfl gfX12_45_12 rfl (rfl) ?_
    refine a_l8 rfl rfl rfl ?_
    refine a_laldv (v := rowW h n (m + j)) rfl (n := 7) rfl (inI_nI (by omega) (by omega)) (by rw [nI_clamp (by omega)]; exact setW_at (by omega)) ?_
    refine a_s rfl rfl ?_
    refine a_sL6 rfl rfl rfl rfl ?_
    refine a_i8 rfl rfl rfl ?_
    refine a_goto rfl ?_
    exact a_back ih122 (by simp [lsub, nI_1, sumW, Nat.add_assoc]) rfl
  refine a_l8 rfl rfl rfl ?_
  refine a_s rfl rfl ?_
  refine a_ic_gt rfl (fun c126 => ?_) (fun c => absurd (by rw [show m + (7 - m) = 6 + 1 by omega]; exact nI_ltn (n := 6) (by omega)) c)
  refine a_ldc2 rfl kX12_456 ?_
  refine a_l6 rfl rfl rfl ?_
  refine a_s rfl rfl ?_
  refine a_l4 rfl rfl rfl ?_
  refine a_ldiv rfl (allW_ne n hn) ?_
  refine a_s rfl rfl ?_
  refine a_iret rfl rfl ⟨rfl, rfl⟩
theorem odds_eq : ∀ h, h ≤ 100 → ∀ n, n ≤ 6 → ∀ m, m ≤ 6 → oddsC (nI h) n (nI m) = oddsR (nI h) n m := by decide +kernel
theorem inB_nI {n b : Nat} (h : n ≤ b) (hb : b < 2 ^ 31) : inB (nI n) 0 (nI b) = true := decide_eq_true ⟨Int32.not_lt.mp (nI_pos (by omega)), Int32.not_lt.mp (nI_nlu h hb)⟩
theorem inB_ex {x : Int32} {b : Nat} (hb : b < 2 ^ 31) (h : inB x 0 (nI b) = true) : ∃ n, n ≤ b ∧ x = nI n := by
  have h := of_decide_eq_true h
  have h1 := Int32.le_iff_toInt_le.mp h.1
  have h2 := Int32.le_iff_toInt_le.mp h.2
  have h4 : (0 : Int32).toInt = 0 := rfl
  rw [nI_toInt hb] at h2
  refine ⟨x.toInt.toNat, by omega, ?_⟩
  apply Int32.toInt_inj.mp
  rw [nI_toInt (by omega)]
  omega
theorem sp_X11_odds {S : aS} {I : Nat → Nat → Int32} {L : Nat → Nat → Int64} {w1 w2 t : Nat} {n m : Nat} (hn : n ≤ 6) (hm : m ≤ 6) : SpE S m_X11_odds 14 [.ref 200, .int (nI n), .int (nI m)] (hp I L w1 w2 t) (some (.int (oddsC (I 235 12) n (nI m)))) (hp I L w1 w2 t) := by
  refine SpE_of ok_X11_odds rfl rfl ?_
  show AW S m_X11_odds 14 _ _ 0 0 0 [some (.ref 200), some (.int (nI n)), some (.int (nI m))] [] (hp I L w1 w2 t)
  refine a_l1 rfl rfl rfl ?_
  refine a_s rfl rfl ?_
  refine a_s rfl rfl ?_
  refine a_eS0 rfl lX11_250 mo_X11_needNumber (sp_needNumber (inB_nI hn (by decide))) rfl rfl rfl rfl ?_
  refine a_l2 rfl rfl rfl ?_
  refine a_s rfl rfl ?_
  refine a_s rfl rfl ?_
  refine a_eS0 rfl lX11_250 mo_X11_needNumber (sp_needNumber (inB_nI hm (by decide))) rfl rfl rfl rfl ?_
  refine a_l0 rfl rfl rfl ?_
  refine a_getq rfl gfX11_37_11 rfl (rfl) ?_
  refine a_geti rfl gfX11_191_5 rfl ?_
  refine a_l1 rfl rfl rfl ?_
  refine a_l2 rfl rfl rfl ?_
  refine a_eS1 rfl lX11_335 mo_X0_oddsOf (sp_X0_oddsOf hn) rfl rfl rfl rfl ?_
  refine a_iret rfl rfl ⟨rfl, rfl⟩
theorem sp_X12_odds {S : aS} {I : Nat → Nat → Int32} {L : Nat → Nat → Int64} {w1 w2 t : Nat} {n m : Nat} (hn : n ≤ 6) (hm : m ≤ 6) : SpE S m_X12_odds 14 [.ref 420, .int (nI n), .int (nI m)] (hp I L w1 w2 t) (some (.int (oddsR (I 421 6) n m))) (hp (up2 I 420 0 0) (setW L (rowW (I 421 6) n)) w1 w2 t) := by
  refine SpE_of ok_X12_odds rfl rfl ?_
  show AW S m_X12_odds 14 _ _ 0 0 0 [some (.ref 420), some (.int (nI n)), some (.int (nI m))] [] (hp I L w1 w2 t)
  refine a_l0 rfl rfl rfl ?_
  refine a_s rfl rfl ?_
  refine a_puti rfl pfX12_3_12 rfl ?_
  refine a_l0 rfl rfl rfl ?_
  refine a_l1 rfl rfl rfl ?_
  refine a_s rfl rfl ?_
  refine a_s rfl rfl ?_
  refine a_eS1 rfl lX12_70 mo_X12_in ((sp_X12_in (x := nI n) (a := 0) (b := 6)).cast (r' := some (.int 1)) (by rw [show inB (nI n) 0 6 = true from inB_nI hn (by decide)]; rfl) rfl) rfl rfl rfl rfl ?_
  refine a_if_eq rfl (fun c => absurd c (by decide)) (fun c13 => ?_)
  refine a_l2 rfl rfl rfl ?_
  refine a_s rfl rfl ?_
  refine a_s rfl rfl ?_
  refine a_eS1 rfl lX12_70 mo_X12_in ((sp_X12_in (x := nI m) (a := 0) (b := 6)).cast (r' := some (.int 1)) (by rw [show inB (nI m) 0 6 = true from inB_nI hm (by decide)]; rfl) rfl) rfl rfl rfl rfl ?_
  refine a_if_ne rfl (fun c23 => ?_) (fun c => absurd c (by decide))
  refine a_s rfl rfl ?_
  refine a_s rfl rfl ?_
  refine a_eV1 rfl lX12_243 mo_X12_throwsIf (sp0_throwsIf) rfl rfl rfl ⟨12, _, rfl, rfl, rfl⟩ rfl ?_
  refine a_if_eq rfl (fun c35 => ?_) (fun c => absurd (by decide) c)
  refine a_l0 rfl rfl rfl ?_
  refine a_l1 rfl rfl rfl ?_
  refine a_l2 rfl rfl rfl ?_
  refine a_l0 rfl rfl rfl ?_
  refine a_getq rfl gfX12_13_12 rfl (rfl) ?_
  refine a_s rfl rfl ?_
  refine a_ialdv (v := I 421 6) rfl (n := 2033) rfl ⟨by decide, by decide⟩ rfl ?_
  refine a_eV1 rfl lX12_458 mo_X12_oddsOf (sp_X12_oddsOf hn hm) rfl rfl rfl ⟨12, _, rfl, rfl, rfl⟩ rfl ?_
  refine a_iret rfl rfl ⟨rfl, rfl⟩
theorem I0_235_12' : I0 235 12 = 0 := by decide +kernel
theorem cr_X11_odds {S : aS} {n m : Nat} (hn : n ≤ 6) (hm : m ≤ 6) : CRet S m_X11_odds 14 [.ref 200, .int (nI n), .int (nI m)] (some (oddsR 0 n m)) := by
  have e : oddsC (I0 235 12) n (nI m) = oddsR 0 n m := by
    rw [I0_235_12']
    exact odds_eq 0 (by decide) n hn m hm
  rw [← e]
  exact CRet.of (sp_X11_odds hn hm) (fun _ _ => rfl)
theorem rr_X12_odds {S : aS} {n m : Nat} (hn : n ≤ 6) (hm : m ≤ 6) : RRet S m_X12_odds 14 [.ref 420, .int (nI n), .int (nI m)] (some (oddsR 0 n m)) 0 := fun I L w1 w2 t hz => by
  have e : oddsR (I 421 6) n m = oddsR 0 n m := by rw [show I 421 6 = 0 from hz.at rfl I0_421_6]
  rw [← e]
  exact Sp.weaken (sp_X12_odds hn hm) (fun v h' ⟨e1, e2⟩ => ⟨e1, _, _, w1, w2, t, e2, rfl, setW_row (by decide)⟩) (fun _ _ z => z)
theorem au_X11_odds_175 {S : aS} {I : Nat → Nat → Int32} {L : Nat → Nat → Int64} {w1 w2 t : Nat} {x1 x2 : Int32}  (q0 : inB x1 0 6 = false) : SpX S m_X11_odds 13 [.ref 200, .int x1, .int x2] (hp I L w1 w2 t) "java/lang/IllegalArgumentException" (hp I L w1 w2 0) := by
  refine SpX_of ok_X11_odds rfl rfl ?_
  show AW S m_X11_odds 13 _ _ 1 6 0 [some (.ref 200), some (.int x1), some (.int x2)] [] (hp I L w1 w2 t)
  refine a_l1 rfl rfl rfl ?_
  refine a_s rfl rfl ?_
  refine a_s rfl rfl ?_
  exact a_xS rfl lX11_250 mo_X11_needNumber (spx_needNumber (q0)) rfl rfl rfl rfl ⟨rfl, rfl⟩
theorem cx_X11_odds_1 {S : aS} {x0 x1 : Int32} (q1 : inB x0 0 6 = false) : CThr S m_X11_odds 13 [.ref 200, .int x0, .int x1] "java/lang/IllegalArgumentException" := CThr.of (au_X11_odds_175  (q1))
theorem au_X12_odds_176 {S : aS} {I : Nat → Nat → Int32} {L : Nat → Nat → Int64} {w1 w2 t : Nat} {x1 x2 : Int32}  (q0 : inB x1 0 6 = false) : SpE S m_X12_odds 13 [.ref 420, .int x1, .int x2] (hp I L w1 w2 t) (some (.int 0)) (hp (up2 (up2 I 420 0 0) 420 0 1) L w1 w2 t) := by
  refine SpE_of ok_X12_odds rfl rfl ?_
  show AW S m_X12_odds 13 _ _ 0 0 0 [some (.ref 420), some (.int x1), some (.int x2)] [] (hp I L w1 w2 t)
  refine a_l0 rfl rfl rfl ?_
  refine a_s rfl rfl ?_
  refine a_puti rfl pfX12_3_12 rfl ?_
  refine a_l0 rfl rfl rfl ?_
  refine a_l1 rfl rfl rfl ?_
  refine a_s rfl rfl ?_
  refine a_s rfl rfl ?_
  refine a_eS1 rfl lX12_70 mo_X12_in ((sp_X12_in (x := x1) (a := 0) (b := 6)).cast (r' := some (.int 0)) (by rw [q0]; rfl) rfl) rfl rfl rfl rfl ?_
  refine a_if_eq rfl (fun c13 => ?_) (fun c => absurd (by decide) c)
  refine a_s rfl rfl ?_
  refine a_goto rfl ?_
  refine a_s rfl rfl ?_
  refine a_eV1 rfl lX12_243 mo_X12_throwsIf (au_X12_throwsIf_87  ) rfl rfl rfl ⟨12, _, rfl, rfl, rfl⟩ rfl ?_
  refine a_if_eq rfl (fun c => absurd c (by decide)) (fun c35 => ?_)
  refine a_s rfl rfl ?_
  refine a_goto rfl ?_
  exact a_iret rfl rfl ⟨rfl, rfl⟩
theorem rr_X12_odds_1 {S : aS} {x0 x1 : Int32} (q1 : inB x0 0 6 = false) : RRet S m_X12_odds 13 [.ref 420, .int x0, .int x1] (some 0) 1 := RRet.of (fun I => up2 (up2 I 420 0 0) 420 0 1) (fun I L w1 w2 t hz => au_X12_odds_176  (q1)) (fun I hz => rfl)
theorem au_X11_odds_177 {S : aS} {I : Nat → Nat → Int32} {L : Nat → Nat → Int64} {w1 w2 t : Nat} {x1 x2 : Int32}  (q0 : inB x1 0 6 = true) (q1 : inB x2 0 6 = false) : SpX S m_X11_odds 13 [.ref 200, .int x1, .int x2] (hp I L w1 w2 t) "java/lang/IllegalArgumentException" (hp I L w1 w2 0) := by
  refine SpX_of ok_X11_odds rfl rfl ?_
  show AW S m_X11_odds 13 _ _ 1 6 0 [some (.ref 200), some (.int x1), some (.int x2)] [] (hp I L w1 w2 t)
  refine a_l1 rfl rfl rfl ?_
  refine a_s rfl rfl ?_
  refine a_s rfl rfl ?_
  refine a_eS0 rfl lX11_250 mo_X11_needNumber (sp_needNumber (q0)) rfl rfl rfl rfl ?_
  refine a_l2 rfl rfl rfl ?_
  refine a_s rfl rfl ?_
  refine a_s rfl rfl ?_
  exact a_xS rfl lX11_250 mo_X11_needNumber (spx_needNumber (q1)) rfl rfl rfl rfl ⟨rfl, rfl⟩
theorem cx_X11_odds_2 {S : aS} {x0 x1 : Int32} (q1 : inB x0 0 6 = true) (q2 : inB x1 0 6 = false) : CThr S m_X11_odds 13 [.ref 200, .int x0, .int x1] "java/lang/IllegalArgumentException" := CThr.of (au_X11_odds_177  (q1) (q2))
theorem au_X12_odds_178 {S : aS} {I : Nat → Nat → Int32} {L : Nat → Nat → Int64} {w1 w2 t : Nat} {x1 x2 : Int32}  (q0 : inB x1 0 6 = true) (q1 : inB x2 0 6 = false) : SpE S m_X12_odds 13 [.ref 420, .int x1, .int x2] (hp I L w1 w2 t) (some (.int 0)) (hp (up2 (up2 I 420 0 0) 420 0 1) L w1 w2 t) := by
  refine SpE_of ok_X12_odds rfl rfl ?_
  show AW S m_X12_odds 13 _ _ 0 0 0 [some (.ref 420), some (.int x1), some (.int x2)] [] (hp I L w1 w2 t)
  refine a_l0 rfl rfl rfl ?_
  refine a_s rfl rfl ?_
  refine a_puti rfl pfX12_3_12 rfl ?_
  refine a_l0 rfl rfl rfl ?_
  refine a_l1 rfl rfl rfl ?_
  refine a_s rfl rfl ?_
  refine a_s rfl rfl ?_
  refine a_eS1 rfl lX12_70 mo_X12_in ((sp_X12_in (x := x1) (a := 0) (b := 6)).cast (r' := some (.int 1)) (by rw [q0]; rfl) rfl) rfl rfl rfl rfl ?_
  refine a_if_eq rfl (fun c => absurd c (by decide)) (fun c13 => ?_)
  refine a_l2 rfl rfl rfl ?_
  refine a_s rfl rfl ?_
  refine a_s rfl rfl ?_
  refine a_eS1 rfl lX12_70 mo_X12_in ((sp_X12_in (x := x2) (a := 0) (b := 6)).cast (r' := some (.int 0)) (by rw [q1]; rfl) rfl) rfl rfl rfl rfl ?_
  refine a_if_ne rfl (fun c => absurd c (by decide)) (fun c23 => ?_)
  refine a_s rfl rfl ?_
  refine a_goto rfl ?_
  refine a_s rfl rfl ?_
  refine a_eV1 rfl lX12_243 mo_X12_throwsIf (au_X12_throwsIf_87  ) rfl rfl rfl ⟨12, _, rfl, rfl, rfl⟩ rfl ?_
  refine a_if_eq rfl (fun c => absurd c (by decide)) (fun c35 => ?_)
  refine a_s rfl rfl ?_
  refine a_goto rfl ?_
  exact a_iret rfl rfl ⟨rfl, rfl⟩
theorem rr_X12_odds_2 {S : aS} {x0 x1 : Int32} (q1 : inB x0 0 6 = true) (q2 : inB x1 0 6 = false) : RRet S m_X12_odds 13 [.ref 420, .int x0, .int x1] (some 0) 1 := RRet.of (fun I => up2 (up2 I 420 0 0) 420 0 1) (fun I L w1 w2 t hz => au_X12_odds_178  (q1) (q2)) (fun I hz => rfl)
theorem w_odds {S : aS} {x0 x1 : Int32} {r : Int32} (h : CRet S m_X11_odds 14 [.ref 200, .int x0, .int x1] (some r)) : Sp S m_L_odds 15 0 0 [.ref 200, .int x0, .int x1, .ref 431] (hp I0 L0 0 0 432) (QW r) (fun _ _ => False) := by
  refine Sp_of ok_L_odds rfl rfl ?_
  show AW S m_L_odds 15 _ _ 0 0 0 [some (.ref 200), some (.int x0), some (.int x1), some (.ref 431), none] [] (hp I0 L0 0 0 432)
  refine a_l3 rfl rfl rfl ?_
  refine a_s rfl rfl ?_
  refine a_l0 rfl rfl rfl ?_
  refine a_l1 rfl rfl rfl ?_
  refine a_l2 rfl rfl rfl ?_
  refine a_callVc rfl lL_102 mo_X11_odds h rfl rfl rfl ⟨11, _, rfl, rfl, rfl⟩ (fun v h' hv => ?_) (fun E h' hx => False.elim hx)
  obtain ⟨rfl, I, w1, w2, t, rfl, hz⟩ := hv
  refine a_s rfl rfl ?_
  refine a_last rfl (n := 1) rfl ⟨by decide, by decide⟩ ?_
  refine a_goto rfl ?_
  refine a_s rfl rfl ?_
  exact a_iret rfl rfl ⟨rfl, I, w1, w2, t, rfl, hz⟩
theorem wx_odds_1 {xs : Nat → Int32} {x0 x1 : Int32} (h : CThr (S1 6 xs) m_X11_odds 13 [.ref 200, .int x0, .int x1] "java/lang/IllegalArgumentException") : Sp (S1 6 xs) m_L_odds 14 1 6 [.ref 200, .int x0, .int x1, .ref 431] (hp I0 L0 0 0 432) (QX 1) (fun _ _ => False) := by
  refine Sp_of ok_L_odds rfl rfl ?_
  show AW (S1 6 xs) m_L_odds 14 _ _ 1 6 0 [some (.ref 200), some (.int x0), some (.int x1), some (.ref 431), none] [] (hp I0 L0 0 0 432)
  refine a_l3 rfl rfl rfl ?_
  refine a_s rfl rfl ?_
  refine a_l0 rfl rfl rfl ?_
  refine a_l1 rfl rfl rfl ?_
  refine a_l2 rfl rfl rfl ?_
  refine a_callVc rfl lL_102 mo_X11_odds h rfl rfl rfl ⟨11, _, rfl, rfl, rfl⟩ (fun v h' hv => False.elim hv) (fun E h' hx => ?_)
  obtain ⟨rfl, I, w1, w2, t, rfl, hz⟩ := hx
  refine ⟨13, _, _, _, _, 4, tk_13 rfl (by decide) (by decide), rfl, rfl, by decide, ?_⟩
  refine a_s rfl rfl ?_
  exact a_iret rfl rfl ⟨rfl, I, w1, w2, t, rfl, hz⟩
theorem op_40_1 {xs : Nat → Int32} (q1 : inB (xs 1) 0 6 = false) : OpOk xs 2134 := by
  show AW (S1 6 xs) m_L_main 1050 QM XM 599770 7281900 2134 [some (.ref 199), some (.ref 200), some (.ref 420), some (.ref 431), some (.int 0), none, none] [] (hp I0 L0 0 0 432)
  refine a_l1 rfl rfl rfl ?_
  refine a_l0 rfl rfl rfl ?_
  refine a_l4 rfl rfl rfl ?_
  refine a_s rfl rfl ?_
  refine a_s rfl rfl ?_
  refine a_ialdc rfl scr_mem ⟨by decide, by decide⟩ ?_
  refine a_l0 rfl rfl rfl ?_
  refine a_l4 rfl rfl rfl ?_
  refine a_s rfl rfl ?_
  refine a_s rfl rfl ?_
  refine a_ialdc rfl scr_mem ⟨by decide, by decide⟩ ?_
  refine a_l3 rfl rfl rfl ?_
  refine a_callW rfl lL_279 mo_L_odds (wx_odds_1 (cx_X11_odds_1 q1)) rfl rfl rfl rfl (fun v h' hv => ?_) (fun E h' hx => False.elim hx)
  obtain ⟨rfl, I, w1, w2, t, rfl, hz⟩ := hv
  refine a_s5 rfl rfl rfl rfl rfl rfl ?_
  refine a_l2 rfl rfl rfl ?_
  refine a_l0 rfl rfl rfl ?_
  refine a_l4 rfl rfl rfl ?_
  refine a_s rfl rfl ?_
  refine a_s rfl rfl ?_
  refine a_ialdc rfl scr_mem ⟨by decide, by decide⟩ ?_
  refine a_l0 rfl rfl rfl ?_
  refine a_l4 rfl rfl rfl ?_
  refine a_s rfl rfl ?_
  refine a_s rfl rfl ?_
  refine a_ialdc rfl scr_mem ⟨by decide, by decide⟩ ?_
  refine a_callV rfl lL_281 mo_X12_odds (rr_X12_odds_1 q1 I _ w1 w2 t hz) rfl rfl rfl ⟨12, _, rfl, rfl, rfl⟩ rfl (fun v h' hv => ?_) (fun E h' hx => False.elim hx)
  obtain ⟨rfl, I', L', w1', w2', t', rfl, hk, hL⟩ := hv
  refine a_s6 rfl rfl rfl rfl rfl rfl ?_
  refine a_l2 rfl rfl rfl ?_
  refine a_eV1 rfl lL_149 mo_X12_thrown (sp_X12_thrown) rfl rfl rfl ⟨12, _, rfl, rfl, rfl⟩ rfl ?_
  refine a_l5 rfl rfl rfl ?_
  refine a_ic_eq rfl (fun c2177 => ?_) (fun c => absurd (hk) c)
  refine a_l5 rfl rfl rfl ?_
  refine a_if_ne rfl (fun c2184 => ?_) (fun c => absurd c (by decide))
  refine a_goto rfl ?_
  exact fin_ok
theorem op_40_2 {xs : Nat → Int32} (q1 : inB (xs 1) 0 6 = true) (q2 : inB (xs 2) 0 6 = false) : OpOk xs 2134 := by
  show AW (S1 6 xs) m_L_main 1050 QM XM 599770 7281900 2134 [some (.ref 199), some (.ref 200), some (.ref 420), some (.ref 431), some (.int 0), none, none] [] (hp I0 L0 0 0 432)
  refine a_l1 rfl rfl rfl ?_
  refine a_l0 rfl rfl rfl ?_
  refine a_l4 rfl rfl rfl ?_
  refine a_s rfl rfl ?_
  refine a_s rfl rfl ?_
  refine a_ialdc rfl scr_mem ⟨by decide, by decide⟩ ?_
  refine a_l0 rfl rfl rfl ?_
  refine a_l4 rfl rfl rfl ?_
  refine a_s rfl rfl ?_
  refine a_s rfl rfl ?_
  refine a_ialdc rfl scr_mem ⟨by decide, by decide⟩ ?_
  refine a_l3 rfl rfl rfl ?_
  refine a_callW rfl lL_279 mo_L_odds (wx_odds_1 (cx_X11_odds_2 q1 q2)) rfl rfl rfl rfl (fun v h' hv => ?_) (fun E h' hx => False.elim hx)
  obtain ⟨rfl, I, w1, w2, t, rfl, hz⟩ := hv
  refine a_s5 rfl rfl rfl rfl rfl rfl ?_
  refine a_l2 rfl rfl rfl ?_
  refine a_l0 rfl rfl rfl ?_
  refine a_l4 rfl rfl rfl ?_
  refine a_s rfl rfl ?_
  refine a_s rfl rfl ?_
  refine a_ialdc rfl scr_mem ⟨by decide, by decide⟩ ?_
  refine a_l0 rfl rfl rfl ?_
  refine a_l4 rfl rfl rfl ?_
  refine a_s rfl rfl ?_
  refine a_s rfl rfl ?_
  refine a_ialdc rfl scr_mem ⟨by decide, by decide⟩ ?_
  refine a_callV rfl lL_281 mo_X12_odds (rr_X12_odds_2 q1 q2 I _ w1 w2 t hz) rfl rfl rfl ⟨12, _, rfl, rfl, rfl⟩ rfl (fun v h' hv => ?_) (fun E h' hx => False.elim hx)
  obtain ⟨rfl, I', L', w1', w2', t', rfl, hk, hL⟩ := hv
  refine a_s6 rfl rfl rfl rfl rfl rfl ?_
  refine a_l2 rfl rfl rfl ?_
  refine a_eV1 rfl lL_149 mo_X12_thrown (sp_X12_thrown) rfl rfl rfl ⟨12, _, rfl, rfl, rfl⟩ rfl ?_
  refine a_l5 rfl rfl rfl ?_
  refine a_ic_eq rfl (fun c2177 => ?_) (fun c => absurd (hk) c)
  refine a_l5 rfl rfl rfl ?_
  refine a_if_ne rfl (fun c2184 => ?_) (fun c => absurd c (by decide))
  refine a_goto rfl ?_
  exact fin_ok
theorem op_40_3 {xs : Nat → Int32} {n m : Nat} (hn : n ≤ 6) (hm : m ≤ 6) (e1 : xs 1 = nI n) (e2 : xs 2 = nI m) : OpOk xs 2134 := by
  have c : CRet (S1 6 xs) m_X11_odds 14 [.ref 200, .int (xs 1), .int (xs 2)] (some (oddsR 0 n m)) := by rw [e1, e2]; exact cr_X11_odds hn hm
  have r : RRet (S1 6 xs) m_X12_odds 14 [.ref 420, .int (xs 1), .int (xs 2)] (some (oddsR 0 n m)) 0 := by rw [e1, e2]; exact rr_X12_odds hn hm
  show AW (S1 6 xs) m_L_main 1050 QM XM 599770 7281900 2134 [some (.ref 199), some (.ref 200), some (.ref 420), some (.ref 431), some (.int 0), none, none] [] (hp I0 L0 0 0 432)
  refine a_l1 rfl rfl rfl ?_
  refine a_l0 rfl rfl rfl ?_
  refine a_l4 rfl rfl rfl ?_
  refine a_s rfl rfl ?_
  refine a_s rfl rfl ?_
  refine a_ialdc rfl scr_mem ⟨by decide, by decide⟩ ?_
  refine a_l0 rfl rfl rfl ?_
  refine a_l4 rfl rfl rfl ?_
  refine a_s rfl rfl ?_
  refine a_s rfl rfl ?_
  refine a_ialdc rfl scr_mem ⟨by decide, by decide⟩ ?_
  refine a_l3 rfl rfl rfl ?_
  refine a_callW rfl lL_279 mo_L_odds (w_odds c) rfl rfl rfl rfl (fun v h' hv => ?_) (fun E h' hx => False.elim hx)
  obtain ⟨rfl, I, w1, w2, t, rfl, hz⟩ := hv
  refine a_s5 rfl rfl rfl rfl rfl rfl ?_
  refine a_l2 rfl rfl rfl ?_
  refine a_l0 rfl rfl rfl ?_
  refine a_l4 rfl rfl rfl ?_
  refine a_s rfl rfl ?_
  refine a_s rfl rfl ?_
  refine a_ialdc rfl scr_mem ⟨by decide, by decide⟩ ?_
  refine a_l0 rfl rfl rfl ?_
  refine a_l4 rfl rfl rfl ?_
  refine a_s rfl rfl ?_
  refine a_s rfl rfl ?_
  refine a_ialdc rfl scr_mem ⟨by decide, by decide⟩ ?_
  refine a_callV rfl lL_281 mo_X12_odds (r I _ w1 w2 t hz) rfl rfl rfl ⟨12, _, rfl, rfl, rfl⟩ rfl (fun v h' hv => ?_) (fun E h' hx => False.elim hx)
  obtain ⟨rfl, I', L', w1', w2', t', rfl, hk, hL⟩ := hv
  refine a_s6 rfl rfl rfl rfl rfl rfl ?_
  refine a_l2 rfl rfl rfl ?_
  refine a_eV1 rfl lL_149 mo_X12_thrown (sp_X12_thrown) rfl rfl rfl ⟨12, _, rfl, rfl, rfl⟩ rfl ?_
  refine a_l5 rfl rfl rfl ?_
  refine a_ic_eq rfl (fun c2177 => ?_) (fun c => absurd (hk) c)
  refine a_l5 rfl rfl rfl ?_
  refine a_if_ne rfl (fun c => absurd c (fun z => z rfl)) (fun c2184 => ?_)
  refine a_l3 rfl rfl rfl ?_
  refine a_s rfl rfl ?_
  refine a_lald rfl (n := 1) rfl ⟨by decide, by decide⟩ ?_
  rw [hL]
  refine a_l6 rfl rfl rfl ?_
  refine a_s rfl rfl ?_
  refine a_s rfl rfl ?_
  refine a_if_eq rfl (fun c2194 => ?_) (fun c => absurd (cmp_self _) c)
  refine a_goto rfl ?_
  exact fin_ok
theorem op_40 {xs : Nat → Int32} : OpOk xs 2134 := by
  cases q1 : inB (xs 1) 0 6 with
  | false => exact op_40_1 q1
  | true =>
    cases q2 : inB (xs 2) 0 6 with
    | false => exact op_40_2 q1 q2
    | true =>
      obtain ⟨n, hn, e1⟩ := inB_ex (b := 6) (by decide) q1
      obtain ⟨m, hm, e2⟩ := inB_ex (b := 6) (by decide) q2
      exact op_40_3 hn hm e1 e2
