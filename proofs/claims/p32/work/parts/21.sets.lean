/-! ===== rows, sets of bits ===== -/
def shb (s : Int32) (n : Nat) : Bool := decide (¬ ((s >>> (nI n &&& 31)) &&& 1) = 0)
def sumF (f : Nat → Int32) (s : Int32) : Nat → Int32
  | 0 => 0
  | n + 1 => if shb s n then sumF f s n + f n else sumF f s n
def bs : Nat → (Nat → Bool) → Int32
  | 0, _ => 0
  | n + 1, P => if P n then bs n P ||| bitF (nI n) else bs n P
theorem bs_congr {n : Nat} {P P' : Nat → Bool} (h : ∀ d, d < n → P d = P' d) : bs n P = bs n P' := by
  induction n with
  | zero => rfl
  | succ n ih => simp only [bs]; rw [h n (by omega), ih fun d hd => h d (by omega)]
set_option maxRecDepth 100000
theorem sp_X11_sumOver {S : aS} {I : Nat → Nat → Int32} {L : Nat → Nat → Int64} {w1 w2 t : Nat} {row n : Nat} {s : Int32} (hK : K0 row = (2, n)) : SpE S m_X11_sumOver 12 [.ref row, .int s] (hp I L w1 w2 t) (some (.int (sumF (I row) s n))) (hp I L w1 w2 t) := by
  refine SpE_of ok_X11_sumOver rfl rfl ?_
  show AW S m_X11_sumOver 12 _ _ 0 0 0 [some (.ref row), some (.int s), none, none] [] (hp I L w1 w2 t)
  refine a_s rfl rfl ?_
  refine a_s2 rfl rfl rfl rfl rfl rfl ?_
  refine a_s rfl rfl ?_
  refine a_s3 rfl rfl rfl rfl rfl rfl ?_
  refine a_forE (n := n) (fun j => [some (.ref row), some (.int s), some (.int (sumF (I row) s j)), some (.int (nI j))]) (fun j => hp I L w1 w2 t) (by simp [lsub, nI_0, sumF]) (rfl) ?_ (fun j hj ih4 => ?_)
  · refine a_l3 rfl rfl rfl ?_
    refine a_l0 rfl rfl rfl ?_
    refine a_len rfl hK rfl rfl ?_
    refine a_ic_ge rfl (fun c7 => ?_) (fun c => absurd (Int32.le_refl _) c)
    refine a_l2 rfl rfl rfl ?_
    refine a_iret rfl rfl ⟨rfl, rfl⟩
  · have hn := K0_lt hK
    refine a_l3 rfl rfl rfl ?_
    refine a_l0 rfl rfl rfl ?_
    refine a_len rfl hK rfl rfl ?_
    refine a_ic_ge rfl (fun c => absurd c (nI_ge hj (K0_lt hK))) (fun c7 => ?_)
    refine a_l1 rfl rfl rfl ?_
    refine a_l3 rfl rfl rfl ?_
    refine a_s rfl rfl ?_
    refine a_s rfl rfl ?_
    refine a_s rfl rfl ?_
    refine a_if_eq rfl (fun c15 => ?_) (fun c15 => ?_)
    · refine a_i3 rfl rfl rfl ?_
      refine a_goto rfl ?_
      exact a_back ih4 (by simp [lsub, nI_1, sumF, shb, *]) rfl
    · refine a_l2 rfl rfl rfl ?_
      refine a_l0 rfl rfl rfl ?_
      refine a_l3 rfl rfl rfl ?_
      refine a_iald rfl hK (inI_nI hj hn) ?_
      rw [nI_clamp (by omega)]
      refine a_s rfl rfl ?_
      refine a_s2 rfl rfl rfl rfl rfl rfl ?_
      refine a_i3 rfl rfl rfl ?_
      refine a_goto rfl ?_
      exact a_back ih4 (by simp [lsub, nI_1, sumF, shb, *]) rfl
