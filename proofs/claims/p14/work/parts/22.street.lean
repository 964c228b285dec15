section
/-! ===== a street: what is read off it ===== -/
theorem le_nl (x y : Int32) : x ≤ y ↔ ¬ y < x := Int32.not_lt.symm
theorem bI_0 (b : Bool) : bI b = 0 ↔ b = false := by cases b <;> simp [bI]
def cntF : Nat → (Nat → Bool) → Nat
  | 0, _ => 0
  | n + 1, P => if P n then cntF n P + 1 else cntF n P
theorem cntF_le (n : Nat) (P : Nat → Bool) : cntF n P ≤ n := by
  induction n with
  | zero => exact Nat.le_refl 0
  | succ n ih => unfold cntF; split <;> omega
theorem cntF_congr {n : Nat} {P P' : Nat → Bool} (h : ∀ d, d < n → P d = P' d) : cntF n P = cntF n P' := by
  induction n with
  | zero => rfl
  | succ n ih => simp only [cntF]; rw [h n (by omega), ih fun d hd => h d (by omega)]
def waitF (nd : Nat) (st : Nat → Int32) (i : Int32) : Bool := decide (¬ i < 0 ∧ ¬ nI nd ≤ i ∧ atF st 12 i = 0)
theorem waitF_nI {nd d : Nat} {st : Nat → Int32} (h : d < nd) (hn : nd ≤ 12) : waitF nd st (nI d) = decide (st d = 0) := by
  unfold waitF
  rw [atF_nI (by omega) (by decide)]
  simp [nI_pos (show d < 2 ^ 31 by omega), nI_ge h (by omega)]
def lfF (le st : Nat → Int32) (i : Int32) : Bool := decide (atF le 12 i = -1 ∨ atF st 12 (atF le 12 i) = 1)
def rdF (nd : Nat) (st le : Nat → Int32) (i : Int32) : Bool := waitF nd st i && lfF le st i
def inS (nd : Nat) (st : Nat → Int32) (w : Int32) : Int32 := bs nd (fun d => decide (st d = w))
def oldF (nd : Nat) (st ag : Nat → Int32) (m : Int32) : Int32 := bs nd (fun d => decide (st d = 0 ∧ m < ag d))
def ownF (nd : Nat) (ow : Nat → Int32) (p : Int32) : Int32 := bs nd (fun d => decide (ow d = p))
def loadF (nd : Nat) (st ow lf : Nat → Int32) (p : Int32) : Int32 := sumF lf (inS nd st 0 &&& ownF nd ow p) 12
def standF (np : Nat) (ke : Nat → Int32) (x y : Int32) : Int32 := bs np (fun p => decide (x ≤ ke p ∧ ke p ≤ y))
def placeC (nd : Nat) (st ag : Nat → Int32) (i : Int32) : Nat := cntF nd (fun d => decide (st d = 0 ∧ (ag d < atF ag 12 i ∨ (ag d = atF ag 12 i ∧ nI d < i))))
def placeF (nd : Nat) (st ag : Nat → Int32) (i : Int32) : Int32 := if waitF nd st i then nI (placeC nd st ag i) else -1
set_option maxRecDepth 100000
theorem sp_X5_isWaiting {S : aS} {I : Nat → Nat → Int32} {L : Nat → Nat → Int64} {w1 w2 t : Nat} {a nd : Nat} (hs : stp a) (hd : I a 3 = nI nd) (hn : nd ≤ 12) {i : Int32} : SpE S m_X5_isWaiting 14 [.ref a, .int i] (hp I L w1 w2 t) (some (.int (bI (waitF nd (I (a + 8)) i)))) (hp I L w1 w2 t) := by
  refine SpE_of ok_X5_isWaiting rfl rfl ?_
  show AW S m_X5_isWaiting 14 _ _ 0 0 0 [some (.ref a), some (.int i)] [] (hp I L w1 w2 t)
  refine a_l1 rfl rfl rfl ?_
  refine a_if_lt rfl (fun c1 => ?_) (fun c1 => ?_)
  · refine a_s rfl rfl ?_
    refine a_zret rfl rfl rfl ⟨by simp [waitF, bI, *], rfl⟩
  · refine a_l1 rfl rfl rfl ?_
    refine a_l0 rfl rfl rfl ?_
    refine a_geti rfl gfX5_63_5 (kS0 hs) ?_
    rw [hd]
    refine a_ic_ge rfl (fun c9 => ?_) (fun c9 => ?_)
    · refine a_s rfl rfl ?_
      refine a_zret rfl rfl rfl ⟨by simp [waitF, bI, *], rfl⟩
    · refine a_l0 rfl rfl rfl ?_
      refine a_getq rfl gfX5_33_5 (kS0 hs) (rS9 hs) ?_
      refine a_l1 rfl rfl rfl ?_
      refine a_eSN1 rfl lX5_86 mo_X11_at (sp_X11_at (by first | rfl | assumption | exact kS0 hs | exact kS1 hs | exact kS2 hs | exact kS3 hs | exact kS4 hs | exact kS5 hs | exact kS6 hs | exact kS7 hs | exact kS8 hs | exact kS9 hs | exact kS10 hs)) rfl rfl rfl rfl ?_
      refine a_if_ne rfl (fun c20 => ?_) (fun c20 => ?_)
      · refine a_s rfl rfl ?_
        refine a_zret rfl rfl rfl ⟨by simp [waitF, bI, *], rfl⟩
      · refine a_s rfl rfl ?_
        refine a_goto rfl ?_
        refine a_zret rfl rfl rfl ⟨by simp [waitF, bI, *], rfl⟩
theorem sp_X5_leansFreely {S : aS} {I : Nat → Nat → Int32} {L : Nat → Nat → Int64} {w1 w2 t : Nat} {a : Nat} (hs : stp a) {i : Int32} : SpE S m_X5_leansFreely 14 [.ref a, .int i] (hp I L w1 w2 t) (some (.int (bI (lfF (I (a + 7)) (I (a + 8)) i)))) (hp I L w1 w2 t) := by
  refine SpE_of ok_X5_leansFreely rfl rfl ?_
  show AW S m_X5_leansFreely 14 _ _ 0 0 0 [some (.ref a), some (.int i), none] [] (hp I L w1 w2 t)
  refine a_l0 rfl rfl rfl ?_
  refine a_getq rfl gfX5_30_5 (kS0 hs) (rS8 hs) ?_
  refine a_l1 rfl rfl rfl ?_
  refine a_eSN1 rfl lX5_86 mo_X11_at (sp_X11_at (by first | rfl | assumption | exact kS0 hs | exact kS1 hs | exact kS2 hs | exact kS3 hs | exact kS4 hs | exact kS5 hs | exact kS6 hs | exact kS7 hs | exact kS8 hs | exact kS9 hs | exact kS10 hs)) rfl rfl rfl rfl ?_
  refine a_s2 rfl rfl rfl rfl rfl rfl ?_
  refine a_l2 rfl rfl rfl ?_
  refine a_s rfl rfl ?_
  refine a_ic_eq rfl (fun c11 => ?_) (fun c11 => ?_)
  · refine a_s rfl rfl ?_
    refine a_goto rfl ?_
    refine a_zret rfl rfl rfl ⟨by simp [lfF, bI, *], rfl⟩
  · refine a_l0 rfl rfl rfl ?_
    refine a_getq rfl gfX5_33_5 (kS0 hs) (rS9 hs) ?_
    refine a_l2 rfl rfl rfl ?_
    refine a_eSN1 rfl lX5_86 mo_X11_at (sp_X11_at (by first | rfl | assumption | exact kS0 hs | exact kS1 hs | exact kS2 hs | exact kS3 hs | exact kS4 hs | exact kS5 hs | exact kS6 hs | exact kS7 hs | exact kS8 hs | exact kS9 hs | exact kS10 hs)) rfl rfl rfl rfl ?_
    refine a_s rfl rfl ?_
    refine a_ic_ne rfl (fun c23 => ?_) (fun c23 => ?_)
    · refine a_s rfl rfl ?_
      refine a_zret rfl rfl rfl ⟨by simp [lfF, bI, *], rfl⟩
    · refine a_s rfl rfl ?_
      refine a_goto rfl ?_
      refine a_zret rfl rfl rfl ⟨by simp [lfF, bI, *], rfl⟩
theorem sp_X5_isReady {S : aS} {I : Nat → Nat → Int32} {L : Nat → Nat → Int64} {w1 w2 t : Nat} {a nd : Nat} (hs : stp a) (hd : I a 3 = nI nd) (hn : nd ≤ 12) {i : Int32} : SpE S m_X5_isReady 15 [.ref a, .int i] (hp I L w1 w2 t) (some (.int (bI (rdF nd (I (a + 8)) (I (a + 7)) i)))) (hp I L w1 w2 t) := by
  refine SpE_of ok_X5_isReady rfl rfl ?_
  show AW S m_X5_isReady 15 _ _ 0 0 0 [some (.ref a), some (.int i)] [] (hp I L w1 w2 t)
  refine a_l0 rfl rfl rfl ?_
  refine a_l1 rfl rfl rfl ?_
  refine a_eV1 rfl lX5_90 mo_X5_isWaiting (sp_X5_isWaiting hs hd hn) rfl rfl rfl ⟨5, _, (kS0 hs), rfl, rfl⟩ rfl ?_
  refine a_if_eq rfl (fun c5 => ?_) (fun c5 => ?_)
  · refine a_s rfl rfl ?_
    refine a_zret rfl rfl rfl ⟨by simp_all [rdF, bI_0, bI], rfl⟩
  · refine a_l0 rfl rfl rfl ?_
    refine a_l1 rfl rfl rfl ?_
    refine a_eV1 rfl lX5_94 mo_X5_leansFreely (sp_X5_leansFreely hs) rfl rfl rfl ⟨5, _, (kS0 hs), rfl, rfl⟩ rfl ?_
    refine a_if_eq rfl (fun c13 => ?_) (fun c13 => ?_)
    · refine a_s rfl rfl ?_
      refine a_zret rfl rfl rfl ⟨by simp_all [rdF, bI_0, bI], rfl⟩
    · refine a_s rfl rfl ?_
      refine a_goto rfl ?_
      refine a_zret rfl rfl rfl ⟨by simp_all [rdF, bI_0, bI], rfl⟩
theorem sp_X5_bitsIn {S : aS} {I : Nat → Nat → Int32} {L : Nat → Nat → Int64} {w1 w2 t : Nat} {a nd : Nat} (hs : stp a) (hd : I a 3 = nI nd) (hn : nd ≤ 12) {w : Int32} : SpE S m_X5_bitsIn 15 [.ref a, .int w] (hp I L w1 w2 t) (some (.int (inS nd (I (a + 8)) w))) (hp I L w1 w2 t) := by
  refine SpE_of ok_X5_bitsIn rfl rfl ?_
  show AW S m_X5_bitsIn 15 _ _ 0 0 0 [some (.ref a), some (.int w), none, none] [] (hp I L w1 w2 t)
  refine a_s rfl rfl ?_
  refine a_s2 rfl rfl rfl rfl rfl rfl ?_
  refine a_s rfl rfl ?_
  refine a_s3 rfl rfl rfl rfl rfl rfl ?_
  refine a_forE (n := nd) (fun j => [some (.ref a), some (.int w), some (.int (bs j (fun d => decide (I (a + 8) d = w)))), some (.int (nI j))]) (fun j => hp I L w1 w2 t) (by simp [lsub, nI_0, bs, sumF, cntF]) (rfl) ?_ (fun j hj ih4 => ?_)
  · refine a_l3 rfl rfl rfl ?_
    refine a_l0 rfl rfl rfl ?_
    refine a_geti rfl gfX5_63_5 (kS0 hs) ?_
    refine a_ic_ge rfl (fun c9 => ?_) (fun c => absurd (by rw [hd]; exact Int32.le_refl _) c)
    refine a_l2 rfl rfl rfl ?_
    refine a_iret rfl rfl ⟨rfl, rfl⟩
  · refine a_l3 rfl rfl rfl ?_
    refine a_l0 rfl rfl rfl ?_
    refine a_geti rfl gfX5_63_5 (kS0 hs) ?_
    refine a_ic_ge rfl (fun c => absurd c (by rw [hd]; exact nI_ge hj (by omega))) (fun c9 => ?_)
    refine a_l0 rfl rfl rfl ?_
    refine a_getq rfl gfX5_33_5 (kS0 hs) (rS9 hs) ?_
    refine a_l3 rfl rfl rfl ?_
    refine a_eSN1 rfl lX5_86 mo_X11_at (sp_X11_at (by first | rfl | assumption | exact kS0 hs | exact kS1 hs | exact kS2 hs | exact kS3 hs | exact kS4 hs | exact kS5 hs | exact kS6 hs | exact kS7 hs | exact kS8 hs | exact kS9 hs | exact kS10 hs)) rfl rfl rfl rfl ?_
    rw [atF_nI (by omega) (by decide)]
    refine a_l1 rfl rfl rfl ?_
    refine a_ic_ne rfl (fun c21 => ?_) (fun c21 => ?_)
    · refine a_i3 rfl rfl rfl ?_
      refine a_goto rfl ?_
      exact a_back ih4 (by simp [lsub, nI_1, bs, *]) rfl
    · refine a_l2 rfl rfl rfl ?_
      refine a_l3 rfl rfl rfl ?_
      refine a_eSN1 rfl lX5_97 mo_X11_bit (sp_X11_bit) rfl rfl rfl rfl ?_
      refine a_s rfl rfl ?_
      refine a_s2 rfl rfl rfl rfl rfl rfl ?_
      refine a_i3 rfl rfl rfl ?_
      refine a_goto rfl ?_
      exact a_back ih4 (by simp [lsub, nI_1, bs, *]) rfl
theorem sp_X5_olderThan {S : aS} {I : Nat → Nat → Int32} {L : Nat → Nat → Int64} {w1 w2 t : Nat} {a nd : Nat} (hs : stp a) (hd : I a 3 = nI nd) (hn : nd ≤ 12) {m : Int32} : SpE S m_X5_olderThan 15 [.ref a, .int m] (hp I L w1 w2 t) (some (.int (oldF nd (I (a + 8)) (I (a + 5)) m))) (hp I L w1 w2 t) := by
  refine SpE_of ok_X5_olderThan rfl rfl ?_
  show AW S m_X5_olderThan 15 _ _ 0 0 0 [some (.ref a), some (.int m), none, none] [] (hp I L w1 w2 t)
  refine a_s rfl rfl ?_
  refine a_s2 rfl rfl rfl rfl rfl rfl ?_
  refine a_s rfl rfl ?_
  refine a_s3 rfl rfl rfl rfl rfl rfl ?_
  refine a_forE (n := nd) (fun j => [some (.ref a), some (.int m), some (.int (bs j (fun d => decide (I (a + 8) d = 0 ∧ m < I (a + 5) d)))), some (.int (nI j))]) (fun j => hp I L w1 w2 t) (by simp [lsub, nI_0, bs, sumF, cntF]) (rfl) ?_ (fun j hj ih4 => ?_)
  · refine a_l3 rfl rfl rfl ?_
    refine a_l0 rfl rfl rfl ?_
    refine a_geti rfl gfX5_63_5 (kS0 hs) ?_
    refine a_ic_ge rfl (fun c9 => ?_) (fun c => absurd (by rw [hd]; exact Int32.le_refl _) c)
    refine a_l2 rfl rfl rfl ?_
    refine a_iret rfl rfl ⟨rfl, rfl⟩
  · refine a_l3 rfl rfl rfl ?_
    refine a_l0 rfl rfl rfl ?_
    refine a_geti rfl gfX5_63_5 (kS0 hs) ?_
    refine a_ic_ge rfl (fun c => absurd c (by rw [hd]; exact nI_ge hj (by omega))) (fun c9 => ?_)
    refine a_l0 rfl rfl rfl ?_
    refine a_l3 rfl rfl rfl ?_
    refine a_eV1 rfl lX5_90 mo_X5_isWaiting (sp_X5_isWaiting hs hd hn) rfl rfl rfl ⟨5, _, (kS0 hs), rfl, rfl⟩ rfl ?_
    rw [waitF_nI hj hn]
    refine a_if_eq rfl (fun c17 => ?_) (fun c17 => ?_)
    · refine a_i3 rfl rfl rfl ?_
      refine a_goto rfl ?_
      exact a_back ih4 (by simp_all [lsub, nI_1, bs, bI_0, waitF_nI, le_nl, -Int32.not_lt, -Int32.not_le]) rfl
    · refine a_l0 rfl rfl rfl ?_
      refine a_getq rfl gfX5_24_5 (kS0 hs) (rS6 hs) ?_
      refine a_l3 rfl rfl rfl ?_
      refine a_eSN1 rfl lX5_86 mo_X11_at (sp_X11_at (by first | rfl | assumption | exact kS0 hs | exact kS1 hs | exact kS2 hs | exact kS3 hs | exact kS4 hs | exact kS5 hs | exact kS6 hs | exact kS7 hs | exact kS8 hs | exact kS9 hs | exact kS10 hs)) rfl rfl rfl rfl ?_
      rw [atF_nI (by omega) (by decide)]
      refine a_l1 rfl rfl rfl ?_
      refine a_ic_le rfl (fun c29 => ?_) (fun c29 => ?_)
      · refine a_i3 rfl rfl rfl ?_
        refine a_goto rfl ?_
        exact a_back ih4 (by simp_all [lsub, nI_1, bs, bI_0, waitF_nI, le_nl, -Int32.not_lt, -Int32.not_le]) rfl
      · refine a_l2 rfl rfl rfl ?_
        refine a_l3 rfl rfl rfl ?_
        refine a_eSN1 rfl lX5_97 mo_X11_bit (sp_X11_bit) rfl rfl rfl rfl ?_
        refine a_s rfl rfl ?_
        refine a_s2 rfl rfl rfl rfl rfl rfl ?_
        refine a_i3 rfl rfl rfl ?_
        refine a_goto rfl ?_
        exact a_back ih4 (by simp_all [lsub, nI_1, bs, bI_0, waitF_nI, le_nl, -Int32.not_lt, -Int32.not_le]) rfl
theorem sp_X5_placeOf {S : aS} {I : Nat → Nat → Int32} {L : Nat → Nat → Int64} {w1 w2 t : Nat} {a nd : Nat} (hs : stp a) (hd : I a 3 = nI nd) (hn : nd ≤ 12) {i : Int32} : SpE S m_X5_placeOf 15 [.ref a, .int i] (hp I L w1 w2 t) (some (.int (placeF nd (I (a + 8)) (I (a + 5)) i))) (hp I L w1 w2 t) := by
  refine SpE_of ok_X5_placeOf rfl rfl ?_
  show AW S m_X5_placeOf 15 _ _ 0 0 0 [some (.ref a), some (.int i), none, none, none, none] [] (hp I L w1 w2 t)
  refine a_l0 rfl rfl rfl ?_
  refine a_l1 rfl rfl rfl ?_
  refine a_eV1 rfl lX5_90 mo_X5_isWaiting (sp_X5_isWaiting hs hd hn) rfl rfl rfl ⟨5, _, (kS0 hs), rfl, rfl⟩ rfl ?_
  refine a_if_ne rfl (fun c5 => ?_) (fun c5 => ?_)
  · refine a_l0 rfl rfl rfl ?_
    refine a_getq rfl gfX5_24_5 (kS0 hs) (rS6 hs) ?_
    refine a_l1 rfl rfl rfl ?_
    refine a_eSN1 rfl lX5_86 mo_X11_at (sp_X11_at (by first | rfl | assumption | exact kS0 hs | exact kS1 hs | exact kS2 hs | exact kS3 hs | exact kS4 hs | exact kS5 hs | exact kS6 hs | exact kS7 hs | exact kS8 hs | exact kS9 hs | exact kS10 hs)) rfl rfl rfl rfl ?_
    refine a_s2 rfl rfl rfl rfl rfl rfl ?_
    refine a_s rfl rfl ?_
    refine a_s3 rfl rfl rfl rfl rfl rfl ?_
    refine a_s rfl rfl ?_
    refine a_s4 rfl rfl rfl rfl rfl rfl ?_
    refine a_forE (n := nd) (fun j => [some (.ref a), some (.int i), some (.int (atF (I (a + 5)) 12 i)), some (.int (nI (cntF j (fun d => decide (I (a + 8) d = 0 ∧ (I (a + 5) d < atF (I (a + 5)) 12 i ∨ (I (a + 5) d = atF (I (a + 5)) 12 i ∧ nI d < i))))))), some (.int (nI j)), none]) (fun j => hp I L w1 w2 t) (by simp [lsub, nI_0, bs, sumF, cntF]) (rfl) ?_ (fun j hj ih24 => ?_)
    · refine a_l4 rfl rfl rfl ?_
      refine a_l0 rfl rfl rfl ?_
      refine a_geti rfl gfX5_63_5 (kS0 hs) ?_
      refine a_ic_ge rfl (fun c30 => ?_) (fun c => absurd (by rw [hd]; exact Int32.le_refl _) c)
      refine a_l3 rfl rfl rfl ?_
      refine a_iret rfl rfl ⟨by simp_all [placeF, placeC, bI_0], rfl⟩
    · refine a_l4 rfl rfl rfl ?_
      refine a_l0 rfl rfl rfl ?_
      refine a_geti rfl gfX5_63_5 (kS0 hs) ?_
      refine a_ic_ge rfl (fun c => absurd c (by rw [hd]; exact nI_ge hj (by omega))) (fun c30 => ?_)
      refine a_l0 rfl rfl rfl ?_
      refine a_getq rfl gfX5_24_5 (kS0 hs) (rS6 hs) ?_
      refine a_l4 rfl rfl rfl ?_
      refine a_eSN1 rfl lX5_86 mo_X11_at (sp_X11_at (by first | rfl | assumption | exact kS0 hs | exact kS1 hs | exact kS2 hs | exact kS3 hs | exact kS4 hs | exact kS5 hs | exact kS6 hs | exact kS7 hs | exact kS8 hs | exact kS9 hs | exact kS10 hs)) rfl rfl rfl rfl ?_
      rw [atF_nI (by omega) (by decide)]
      refine a_s5 rfl rfl rfl rfl rfl rfl ?_
      refine a_l0 rfl rfl rfl ?_
      refine a_l4 rfl rfl rfl ?_
      refine a_eV1 rfl lX5_90 mo_X5_isWaiting (sp_X5_isWaiting hs hd hn) rfl rfl rfl ⟨5, _, (kS0 hs), rfl, rfl⟩ rfl ?_
      rw [waitF_nI hj hn]
      refine a_if_eq rfl (fun c50 => ?_) (fun c50 => ?_)
      · refine a_i4 rfl rfl rfl ?_
        refine a_goto rfl ?_
        exact a_back ih24 (by simp_all [lsub, nI_1, cntF, bI_0, le_nl, -Int32.not_lt, -Int32.not_le]) rfl
      · refine a_l5 rfl rfl rfl ?_
        refine a_l2 rfl rfl rfl ?_
        refine a_ic_lt rfl (fun c56 => ?_) (fun c56 => ?_)
        · refine a_i3 rfl rfl rfl ?_
          refine a_i4 rfl rfl rfl ?_
          refine a_goto rfl ?_
          exact a_back ih24 (by simp_all [lsub, nI_1, cntF, bI_0, le_nl, -Int32.not_lt, -Int32.not_le]) rfl
        · refine a_l5 rfl rfl rfl ?_
          refine a_l2 rfl rfl rfl ?_
          refine a_ic_ne rfl (fun c62 => ?_) (fun c62 => ?_)
          · refine a_i4 rfl rfl rfl ?_
            refine a_goto rfl ?_
            exact a_back ih24 (by simp_all [lsub, nI_1, cntF, bI_0, le_nl, -Int32.not_lt, -Int32.not_le]) rfl
          · refine a_l4 rfl rfl rfl ?_
            refine a_l1 rfl rfl rfl ?_
            refine a_ic_ge rfl (fun c68 => ?_) (fun c68 => ?_)
            · refine a_i4 rfl rfl rfl ?_
              refine a_goto rfl ?_
              exact a_back ih24 (by simp_all [lsub, nI_1, cntF, bI_0, le_nl, -Int32.not_lt, -Int32.not_le]) rfl
            · refine a_i3 rfl rfl rfl ?_
              refine a_i4 rfl rfl rfl ?_
              refine a_goto rfl ?_
              exact a_back ih24 (by simp_all [lsub, nI_1, cntF, bI_0, le_nl, -Int32.not_lt, -Int32.not_le]) rfl
  · refine a_s rfl rfl ?_
    refine a_iret rfl rfl ⟨by simp_all [placeF, bI_0], rfl⟩
end
section
/-! ===== a street: more reads, small writes ===== -/
def rdBits (nd : Nat) (st le : Nat → Int32) : Int32 := bs nd (fun d => rdF nd st le (nI d))
def alikeF (nd : Nat) (st lf ag : Nat → Int32) (i k : Int32) : Bool := waitF nd st i && (waitF nd st k && decide (atF lf 12 i = atF lf 12 k ∧ atF ag 12 i = atF ag 12 k))
def bcF (x : Int32) : Int32 := let a := x - (((x.toUInt32 >>> ((1 : Int32).toUInt32 &&& Int32.toUInt32 31)).toInt32) &&& 1431655765); let b := (a &&& 858993459) + ((a.toUInt32 >>> ((2 : Int32).toUInt32 &&& Int32.toUInt32 31)).toInt32 &&& 858993459); let c := (b + (b.toUInt32 >>> ((4 : Int32).toUInt32 &&& Int32.toUInt32 31)).toInt32) &&& 252645135; let e := c + (c.toUInt32 >>> ((8 : Int32).toUInt32 &&& Int32.toUInt32 31)).toInt32; let f := e + (e.toUInt32 >>> ((16 : Int32).toUInt32 &&& Int32.toUInt32 31)).toInt32; f &&& 63
def passF (nd : Nat) (st ag : Nat → Int32) (pace i : Int32) : Int32 := if waitF nd st i then pace * bcF (inS nd st 0 &&& (oldF nd st ag (atF ag 12 i) ^^^ (-1))) else 0
def canF (nd : Nat) (st le lf ag : Nat → Int32) (pace : Int32) : Int32 := bs nd (fun d => rdF nd st le (nI d) && decide (lf d ≤ passF nd st ag pace (nI d)))
def kerbF (nd : Nat) (st ag : Nat → Int32) (pace i hour : Int32) : Int32 := if placeF nd st ag i = -1 then -1 else if 1 ≤ pace then (if 0 ≤ hour / pace - placeF nd st ag i then (if 16 < hour / pace - placeF nd st ag i then 16 else hour / pace - placeF nd st ag i) else -1) else -1
def finF (I : Nat → Nat → Int32) (a : Nat) (i : Int32) : Nat → Nat → Int32 := setF (setF I (a + 4) 12 i 0) (a + 8) 12 i 1
def growF (I : Nat → Nat → Int32) (a : Nat) (i : Int32) : Nat → Nat → Int32 := setF I (a + 5) 12 i (if atF (I (a + 5)) 12 i + 1 < 99 then atF (I (a + 5)) 12 i + 1 else 99)
def seedF (x : Int32) : Int32 := x * 1103515245 + 12345
def drawV (x : Int32) : Int32 := (x.toUInt32 >>> ((16 : Int32).toUInt32 &&& Int32.toUInt32 31)).toInt32 &&& 32767
theorem ic_ne1 : ¬ (-1 : Int32) = 0 := by decide
set_option maxRecDepth 100000
theorem sp_bitCount {S : aS} {h : aH} {x : Int32} : SpE S m_J6_bitCount_0f7a4 12 [.int x] (h) (some (.int (bcF x))) (h) := by
  refine SpE_of ok_J6_bitCount_0f7a4 rfl rfl ?_
  show AW S m_J6_bitCount_0f7a4 12 _ _ 0 0 0 [some (.int x)] [] (h)
  refine a_l0 rfl rfl rfl ?_
  refine a_l0 rfl rfl rfl ?_
  refine a_s rfl rfl ?_
  refine a_s rfl rfl ?_
  refine a_ldcw rfl kJ6_265 ?_
  refine a_s rfl rfl ?_
  refine a_s rfl rfl ?_
  refine a_s0 rfl rfl rfl rfl rfl ?_
  refine a_l0 rfl rfl rfl ?_
  refine a_ldcw rfl kJ6_266 ?_
  refine a_s rfl rfl ?_
  refine a_l0 rfl rfl rfl ?_
  refine a_s rfl rfl ?_
  refine a_s rfl rfl ?_
  refine a_ldcw rfl kJ6_266 ?_
  refine a_s rfl rfl ?_
  refine a_s rfl rfl ?_
  refine a_s0 rfl rfl rfl rfl rfl ?_
  refine a_l0 rfl rfl rfl ?_
  refine a_l0 rfl rfl rfl ?_
  refine a_s rfl rfl ?_
  refine a_s rfl rfl ?_
  refine a_s rfl rfl ?_
  refine a_ldcw rfl kJ6_267 ?_
  refine a_s rfl rfl ?_
  refine a_s0 rfl rfl rfl rfl rfl ?_
  refine a_l0 rfl rfl rfl ?_
  refine a_l0 rfl rfl rfl ?_
  refine a_s rfl rfl ?_
  refine a_s rfl rfl ?_
  refine a_s rfl rfl ?_
  refine a_s0 rfl rfl rfl rfl rfl ?_
  refine a_l0 rfl rfl rfl ?_
  refine a_l0 rfl rfl rfl ?_
  refine a_s rfl rfl ?_
  refine a_s rfl rfl ?_
  refine a_s rfl rfl ?_
  refine a_s0 rfl rfl rfl rfl rfl ?_
  refine a_l0 rfl rfl rfl ?_
  refine a_s rfl rfl ?_
  refine a_s rfl rfl ?_
  refine a_iret rfl rfl ⟨rfl, rfl⟩
theorem sp_X5_readyBits {S : aS} {I : Nat → Nat → Int32} {L : Nat → Nat → Int64} {w1 w2 t : Nat} {a nd : Nat} (hs : stp a) (hd : I a 3 = nI nd) (hn : nd ≤ 12) : SpE S m_X5_readyBits 16 [.ref a] (hp I L w1 w2 t) (some (.int (rdBits nd (I (a + 8)) (I (a + 7))))) (hp I L w1 w2 t) := by
  refine SpE_of ok_X5_readyBits rfl rfl ?_
  show AW S m_X5_readyBits 16 _ _ 0 0 0 [some (.ref a), none, none] [] (hp I L w1 w2 t)
  refine a_s rfl rfl ?_
  refine a_s1 rfl rfl rfl rfl rfl rfl ?_
  refine a_s rfl rfl ?_
  refine a_s2 rfl rfl rfl rfl rfl rfl ?_
  refine a_forE (n := nd) (fun j => [some (.ref a), some (.int (bs j (fun d => rdF nd (I (a + 8)) (I (a + 7)) (nI d)))), some (.int (nI j))]) (fun j => hp I L w1 w2 t) (by simp [lsub, nI_0, bs, sumF, cntF]) (rfl) ?_ (fun j hj ih4 => ?_)
  · refine a_l2 rfl rfl rfl ?_
    refine a_l0 rfl rfl rfl ?_
    refine a_geti rfl gfX5_63_5 (kS0 hs) ?_
    refine a_ic_ge rfl (fun c9 => ?_) (fun c => absurd (by rw [hd]; exact Int32.le_refl _) c)
    refine a_l1 rfl rfl rfl ?_
    refine a_iret rfl rfl ⟨rfl, rfl⟩
  · refine a_l2 rfl rfl rfl ?_
    refine a_l0 rfl rfl rfl ?_
    refine a_geti rfl gfX5_63_5 (kS0 hs) ?_
    refine a_ic_ge rfl (fun c => absurd c (by rw [hd]; exact nI_ge hj (by omega))) (fun c9 => ?_)
    refine a_l0 rfl rfl rfl ?_
    refine a_l2 rfl rfl rfl ?_
    refine a_eV1 rfl lX5_101 mo_X5_isReady (sp_X5_isReady hs hd hn) rfl rfl rfl ⟨5, _, (kS0 hs), rfl, rfl⟩ rfl ?_
    refine a_if_eq rfl (fun c17 => ?_) (fun c17 => ?_)
    · refine a_i2 rfl rfl rfl ?_
      refine a_goto rfl ?_
      exact a_back ih4 (by simp_all [lsub, nI_1, bs, bI_0]) rfl
    · refine a_l1 rfl rfl rfl ?_
      refine a_l2 rfl rfl rfl ?_
      refine a_eSN1 rfl lX5_97 mo_X11_bit (sp_X11_bit) rfl rfl rfl rfl ?_
      refine a_s rfl rfl ?_
      refine a_s1 rfl rfl rfl rfl rfl rfl ?_
      refine a_i2 rfl rfl rfl ?_
      refine a_goto rfl ?_
      exact a_back ih4 (by simp_all [lsub, nI_1, bs, bI_0]) rfl
theorem sp_X5_ownedBy {S : aS} {I : Nat → Nat → Int32} {L : Nat → Nat → Int64} {w1 w2 t : Nat} {a nd : Nat} (hs : stp a) (hd : I a 3 = nI nd) (hn : nd ≤ 12) {w : Int32} : SpE S m_X5_ownedBy 15 [.ref a, .int w] (hp I L w1 w2 t) (some (.int (ownF nd (I (a + 3)) w))) (hp I L w1 w2 t) := by
  refine SpE_of ok_X5_ownedBy rfl rfl ?_
  show AW S m_X5_ownedBy 15 _ _ 0 0 0 [some (.ref a), some (.int w), none, none] [] (hp I L w1 w2 t)
  refine a_s rfl rfl ?_
  refine a_s2 rfl rfl rfl rfl rfl rfl ?_
  refine a_s rfl rfl ?_
  refine a_s3 rfl rfl rfl rfl rfl rfl ?_
  refine a_forE (n := nd) (fun j => [some (.ref a), some (.int w), some (.int (bs j (fun d => decide (I (a + 3) d = w)))), some (.int (nI j))]) (fun j => hp I L w1 w2 t) (by simp [lsub, nI_0, bs, sumF, cntF]) (rfl) ?_ (fun j hj ih4 => ?_)
  · refine a_l3 rfl rfl rfl ?_
    refine a_l0 rfl rfl rfl ?_
    refine a_geti rfl gfX5_63_5 (kS0 hs) ?_
    refine a_ic_ge rfl (fun c9 => ?_) (fun c => absurd (by rw [hd]; exact Int32.le_refl _) c)
    refine a_l2 rfl rfl rfl ?_
    refine a_iret rfl rfl ⟨rfl, rfl⟩
  · refine a_l3 rfl rfl rfl ?_
    refine a_l0 rfl rfl rfl ?_
    refine a_geti rfl gfX5_63_5 (kS0 hs) ?_
    refine a_ic_ge rfl (fun c => absurd c (by rw [hd]; exact nI_ge hj (by omega))) (fun c9 => ?_)
    refine a_l0 rfl rfl rfl ?_
    refine a_getq rfl gfX5_18_5 (kS0 hs) (rS4 hs) ?_
    refine a_l3 rfl rfl rfl ?_
    refine a_eSN1 rfl lX5_86 mo_X11_at (sp_X11_at (by first | rfl | assumption | exact kS0 hs | exact kS1 hs | exact kS2 hs | exact kS3 hs | exact kS4 hs | exact kS5 hs | exact kS6 hs | exact kS7 hs | exact kS8 hs | exact kS9 hs | exact kS10 hs)) rfl rfl rfl rfl ?_
    rw [atF_nI (by omega) (by decide)]
    refine a_l1 rfl rfl rfl ?_
    refine a_ic_ne rfl (fun c21 => ?_) (fun c21 => ?_)
    · refine a_i3 rfl rfl rfl ?_
      refine a_goto rfl ?_
      exact a_back ih4 (by simp [lsub, nI_1, bs, *]) rfl
    · refine a_l2 rfl rfl rfl ?_
      refine a_l3 rfl rfl rfl ?_
      refine a_eSN1 rfl lX5_97 mo_X11_bit (sp_X11_bit) rfl rfl rfl rfl ?_
      refine a_s rfl rfl ?_
      refine a_s2 rfl rfl rfl rfl rfl rfl ?_
      refine a_i3 rfl rfl rfl ?_
      refine a_goto rfl ?_
      exact a_back ih4 (by simp [lsub, nI_1, bs, *]) rfl
theorem sp_X5_loadOf {S : aS} {I : Nat → Nat → Int32} {L : Nat → Nat → Int64} {w1 w2 t : Nat} {a nd : Nat} (hs : stp a) (hd : I a 3 = nI nd) (hn : nd ≤ 12) {w : Int32} : SpE S m_X5_loadOf 16 [.ref a, .int w] (hp I L w1 w2 t) (some (.int (loadF nd (I (a + 8)) (I (a + 3)) (I (a + 4)) w))) (hp I L w1 w2 t) := by
  refine SpE_of ok_X5_loadOf rfl rfl ?_
  show AW S m_X5_loadOf 16 _ _ 0 0 0 [some (.ref a), some (.int w)] [] (hp I L w1 w2 t)
  refine a_l0 rfl rfl rfl ?_
  refine a_getq rfl gfX5_21_5 (kS0 hs) (rS5 hs) ?_
  refine a_l0 rfl rfl rfl ?_
  refine a_s rfl rfl ?_
  refine a_eV1 rfl lX5_104 mo_X5_bitsIn (sp_X5_bitsIn hs hd hn) rfl rfl rfl ⟨5, _, (kS0 hs), rfl, rfl⟩ rfl ?_
  refine a_l0 rfl rfl rfl ?_
  refine a_l1 rfl rfl rfl ?_
  refine a_eV1 rfl lX5_107 mo_X5_ownedBy (sp_X5_ownedBy hs hd hn) rfl rfl rfl ⟨5, _, (kS0 hs), rfl, rfl⟩ rfl ?_
  refine a_s rfl rfl ?_
  refine a_eSN1 rfl lX5_110 mo_X11_sumOver (sp_X11_sumOver (by first | rfl | assumption | exact kS0 hs | exact kS1 hs | exact kS2 hs | exact kS3 hs | exact kS4 hs | exact kS5 hs | exact kS6 hs | exact kS7 hs | exact kS8 hs | exact kS9 hs | exact kS10 hs)) rfl rfl rfl rfl ?_
  refine a_iret rfl rfl ⟨rfl, rfl⟩
theorem sp_X5_standingBetween {S : aS} {I : Nat → Nat → Int32} {L : Nat → Nat → Int64} {w1 w2 t : Nat} {a np : Nat} (hs : stp a) (hp0 : I a 0 = nI np) (hn : np ≤ 6) {x y : Int32} : SpE S m_X5_standingBetween 15 [.ref a, .int x, .int y] (hp I L w1 w2 t) (some (.int (standF np (I (a + 1)) x y))) (hp I L w1 w2 t) := by
  refine SpE_of ok_X5_standingBetween rfl rfl ?_
  show AW S m_X5_standingBetween 15 _ _ 0 0 0 [some (.ref a), some (.int x), some (.int y), none, none] [] (hp I L w1 w2 t)
  refine a_s rfl rfl ?_
  refine a_s3 rfl rfl rfl rfl rfl rfl ?_
  refine a_s rfl rfl ?_
  refine a_s4 rfl rfl rfl rfl rfl rfl ?_
  refine a_forE (n := np) (fun j => [some (.ref a), some (.int x), some (.int y), some (.int (bs j (fun p => decide (x ≤ I (a + 1) p ∧ I (a + 1) p ≤ y)))), some (.int (nI j))]) (fun j => hp I L w1 w2 t) (by simp [lsub, nI_0, bs, sumF, cntF]) (rfl) ?_ (fun j hj ih5 => ?_)
  · refine a_l4 rfl rfl rfl ?_
    refine a_l0 rfl rfl rfl ?_
    refine a_geti rfl gfX5_56_5 (kS0 hs) ?_
    refine a_ic_ge rfl (fun c11 => ?_) (fun c => absurd (by rw [hp0]; exact Int32.le_refl _) c)
    refine a_l3 rfl rfl rfl ?_
    refine a_iret rfl rfl ⟨rfl, rfl⟩
  · refine a_l4 rfl rfl rfl ?_
    refine a_l0 rfl rfl rfl ?_
    refine a_geti rfl gfX5_56_5 (kS0 hs) ?_
    refine a_ic_ge rfl (fun c => absurd c (by rw [hp0]; exact nI_ge hj (by omega))) (fun c11 => ?_)
    refine a_l0 rfl rfl rfl ?_
    refine a_getq rfl gfX5_9_5 (kS0 hs) (rS1 hs) ?_
    refine a_l4 rfl rfl rfl ?_
    refine a_eSN1 rfl lX5_86 mo_X11_at (sp_X11_at (by first | rfl | assumption | exact kS0 hs | exact kS1 hs | exact kS2 hs | exact kS3 hs | exact kS4 hs | exact kS5 hs | exact kS6 hs | exact kS7 hs | exact kS8 hs | exact kS9 hs | exact kS10 hs)) rfl rfl rfl rfl ?_
    rw [atF_nI (by omega) (by decide)]
    refine a_l1 rfl rfl rfl ?_
    refine a_ic_lt rfl (fun c24 => ?_) (fun c24 => ?_)
    · refine a_i4 rfl rfl rfl ?_
      refine a_goto rfl ?_
      exact a_back ih5 (by simp_all [lsub, nI_1, bs, le_nl, -Int32.not_lt, -Int32.not_le]) rfl
    · refine a_l0 rfl rfl rfl ?_
      refine a_getq rfl gfX5_9_5 (kS0 hs) (rS1 hs) ?_
      refine a_l4 rfl rfl rfl ?_
      refine a_eSN1 rfl lX5_86 mo_X11_at (sp_X11_at (by first | rfl | assumption | exact kS0 hs | exact kS1 hs | exact kS2 hs | exact kS3 hs | exact kS4 hs | exact kS5 hs | exact kS6 hs | exact kS7 hs | exact kS8 hs | exact kS9 hs | exact kS10 hs)) rfl rfl rfl rfl ?_
      rw [atF_nI (by omega) (by decide)]
      refine a_l2 rfl rfl rfl ?_
      refine a_ic_gt rfl (fun c37 => ?_) (fun c37 => ?_)
      · refine a_i4 rfl rfl rfl ?_
        refine a_goto rfl ?_
        exact a_back ih5 (by simp_all [lsub, nI_1, bs, le_nl, -Int32.not_lt, -Int32.not_le]) rfl
      · refine a_l3 rfl rfl rfl ?_
        refine a_l4 rfl rfl rfl ?_
        refine a_eSN1 rfl lX5_97 mo_X11_bit (sp_X11_bit) rfl rfl rfl rfl ?_
        refine a_s rfl rfl ?_
        refine a_s3 rfl rfl rfl rfl rfl rfl ?_
        refine a_i4 rfl rfl rfl ?_
        refine a_goto rfl ?_
        exact a_back ih5 (by simp_all [lsub, nI_1, bs, le_nl, -Int32.not_lt, -Int32.not_le]) rfl
theorem sp_X5_areAlike {S : aS} {I : Nat → Nat → Int32} {L : Nat → Nat → Int64} {w1 w2 t : Nat} {a nd : Nat} (hs : stp a) (hd : I a 3 = nI nd) (hn : nd ≤ 12) {i k : Int32} : SpE S m_X5_areAlike 15 [.ref a, .int i, .int k] (hp I L w1 w2 t) (some (.int (bI (alikeF nd (I (a + 8)) (I (a + 4)) (I (a + 5)) i k)))) (hp I L w1 w2 t) := by
  refine SpE_of ok_X5_areAlike rfl rfl ?_
  show AW S m_X5_areAlike 15 _ _ 0 0 0 [some (.ref a), some (.int i), some (.int k)] [] (hp I L w1 w2 t)
  refine a_l0 rfl rfl rfl ?_
  refine a_l1 rfl rfl rfl ?_
  refine a_eV1 rfl lX5_90 mo_X5_isWaiting (sp_X5_isWaiting hs hd hn) rfl rfl rfl ⟨5, _, (kS0 hs), rfl, rfl⟩ rfl ?_
  refine a_if_eq rfl (fun c5 => ?_) (fun c5 => ?_)
  · refine a_s rfl rfl ?_
    refine a_zret rfl rfl rfl ⟨by simp_all [alikeF, bI_0, bI], rfl⟩
  · refine a_l0 rfl rfl rfl ?_
    refine a_l2 rfl rfl rfl ?_
    refine a_eV1 rfl lX5_90 mo_X5_isWaiting (sp_X5_isWaiting hs hd hn) rfl rfl rfl ⟨5, _, (kS0 hs), rfl, rfl⟩ rfl ?_
    refine a_if_eq rfl (fun c13 => ?_) (fun c13 => ?_)
    · refine a_s rfl rfl ?_
      refine a_zret rfl rfl rfl ⟨by simp_all [alikeF, bI_0, bI], rfl⟩
    · refine a_l0 rfl rfl rfl ?_
      refine a_getq rfl gfX5_21_5 (kS0 hs) (rS5 hs) ?_
      refine a_l1 rfl rfl rfl ?_
      refine a_eSN1 rfl lX5_86 mo_X11_at (sp_X11_at (by first | rfl | assumption | exact kS0 hs | exact kS1 hs | exact kS2 hs | exact kS3 hs | exact kS4 hs | exact kS5 hs | exact kS6 hs | exact kS7 hs | exact kS8 hs | exact kS9 hs | exact kS10 hs)) rfl rfl rfl rfl ?_
      refine a_l0 rfl rfl rfl ?_
      refine a_getq rfl gfX5_21_5 (kS0 hs) (rS5 hs) ?_
      refine a_l2 rfl rfl rfl ?_
      refine a_eSN1 rfl lX5_86 mo_X11_at (sp_X11_at (by first | rfl | assumption | exact kS0 hs | exact kS1 hs | exact kS2 hs | exact kS3 hs | exact kS4 hs | exact kS5 hs | exact kS6 hs | exact kS7 hs | exact kS8 hs | exact kS9 hs | exact kS10 hs)) rfl rfl rfl rfl ?_
      refine a_ic_ne rfl (fun c32 => ?_) (fun c32 => ?_)
      · refine a_s rfl rfl ?_
        refine a_zret rfl rfl rfl ⟨by simp_all [alikeF, bI_0, bI], rfl⟩
      · refine a_l0 rfl rfl rfl ?_
        refine a_getq rfl gfX5_24_5 (kS0 hs) (rS6 hs) ?_
        refine a_l1 rfl rfl rfl ?_
        refine a_eSN1 rfl lX5_86 mo_X11_at (sp_X11_at (by first | rfl | assumption | exact kS0 hs | exact kS1 hs | exact kS2 hs | exact kS3 hs | exact kS4 hs | exact kS5 hs | exact kS6 hs | exact kS7 hs | exact kS8 hs | exact kS9 hs | exact kS10 hs)) rfl rfl rfl rfl ?_
        refine a_l0 rfl rfl rfl ?_
        refine a_getq rfl gfX5_24_5 (kS0 hs) (rS6 hs) ?_
        refine a_l2 rfl rfl rfl ?_
        refine a_eSN1 rfl lX5_86 mo_X11_at (sp_X11_at (by first | rfl | assumption | exact kS0 hs | exact kS1 hs | exact kS2 hs | exact kS3 hs | exact kS4 hs | exact kS5 hs | exact kS6 hs | exact kS7 hs | exact kS8 hs | exact kS9 hs | exact kS10 hs)) rfl rfl rfl rfl ?_
        refine a_ic_ne rfl (fun c51 => ?_) (fun c51 => ?_)
        · refine a_s rfl rfl ?_
          refine a_zret rfl rfl rfl ⟨by simp_all [alikeF, bI_0, bI], rfl⟩
        · refine a_s rfl rfl ?_
          refine a_goto rfl ?_
          refine a_zret rfl rfl rfl ⟨by simp_all [alikeF, bI_0, bI], rfl⟩
theorem sp_X5_passesOf {S : aS} {I : Nat → Nat → Int32} {L : Nat → Nat → Int64} {w1 w2 t : Nat} {a nd : Nat} (hs : stp a) (hd : I a 3 = nI nd) (hn : nd ≤ 12) {i : Int32} : SpE S m_X5_passesOf 16 [.ref a, .int i] (hp I L w1 w2 t) (some (.int (passF nd (I (a + 8)) (I (a + 5)) (I a 13) i))) (hp I L w1 w2 t) := by
  refine SpE_of ok_X5_passesOf rfl rfl ?_
  show AW S m_X5_passesOf 16 _ _ 0 0 0 [some (.ref a), some (.int i), none] [] (hp I L w1 w2 t)
  refine a_l0 rfl rfl rfl ?_
  refine a_l1 rfl rfl rfl ?_
  refine a_eV1 rfl lX5_90 mo_X5_isWaiting (sp_X5_isWaiting hs hd hn) rfl rfl rfl ⟨5, _, (kS0 hs), rfl, rfl⟩ rfl ?_
  refine a_if_ne rfl (fun c5 => ?_) (fun c5 => ?_)
  · refine a_l0 rfl rfl rfl ?_
    refine a_s rfl rfl ?_
    refine a_eV1 rfl lX5_104 mo_X5_bitsIn (sp_X5_bitsIn hs hd hn) rfl rfl rfl ⟨5, _, (kS0 hs), rfl, rfl⟩ rfl ?_
    refine a_l0 rfl rfl rfl ?_
    refine a_l0 rfl rfl rfl ?_
    refine a_getq rfl gfX5_24_5 (kS0 hs) (rS6 hs) ?_
    refine a_l1 rfl rfl rfl ?_
    refine a_eSN1 rfl lX5_86 mo_X11_at (sp_X11_at (by first | rfl | assumption | exact kS0 hs | exact kS1 hs | exact kS2 hs | exact kS3 hs | exact kS4 hs | exact kS5 hs | exact kS6 hs | exact kS7 hs | exact kS8 hs | exact kS9 hs | exact kS10 hs)) rfl rfl rfl rfl ?_
    refine a_eV1 rfl lX5_116 mo_X5_olderThan (sp_X5_olderThan hs hd hn) rfl rfl rfl ⟨5, _, (kS0 hs), rfl, rfl⟩ rfl ?_
    refine a_s rfl rfl ?_
    refine a_s rfl rfl ?_
    refine a_s rfl rfl ?_
    refine a_s2 rfl rfl rfl rfl rfl rfl ?_
    refine a_l0 rfl rfl rfl ?_
    refine a_geti rfl gfX5_40_5 (kS0 hs) ?_
    refine a_l2 rfl rfl rfl ?_
    refine a_eS1 rfl lX5_119 mo_J6_bitCount_0f7a4 (sp_bitCount) rfl rfl rfl rfl ?_
    refine a_s rfl rfl ?_
    refine a_iret rfl rfl ⟨by simp_all [passF, bI_0], rfl⟩
  · refine a_s rfl rfl ?_
    refine a_iret rfl rfl ⟨by simp_all [passF, bI_0], rfl⟩
theorem sp_X5_canBits {S : aS} {I : Nat → Nat → Int32} {L : Nat → Nat → Int64} {w1 w2 t : Nat} {a nd : Nat} (hs : stp a) (hd : I a 3 = nI nd) (hn : nd ≤ 12) : SpE S m_X5_canBits 17 [.ref a] (hp I L w1 w2 t) (some (.int (canF nd (I (a + 8)) (I (a + 7)) (I (a + 4)) (I (a + 5)) (I a 13)))) (hp I L w1 w2 t) := by
  refine SpE_of ok_X5_canBits rfl rfl ?_
  show AW S m_X5_canBits 17 _ _ 0 0 0 [some (.ref a), none, none] [] (hp I L w1 w2 t)
  refine a_s rfl rfl ?_
  refine a_s1 rfl rfl rfl rfl rfl rfl ?_
  refine a_s rfl rfl ?_
  refine a_s2 rfl rfl rfl rfl rfl rfl ?_
  refine a_forE (n := nd) (fun j => [some (.ref a), some (.int (bs j (fun d => rdF nd (I (a + 8)) (I (a + 7)) (nI d) && decide (I (a + 4) d ≤ passF nd (I (a + 8)) (I (a + 5)) (I a 13) (nI d))))), some (.int (nI j))]) (fun j => hp I L w1 w2 t) (by simp [lsub, nI_0, bs, sumF, cntF]) (rfl) ?_ (fun j hj ih4 => ?_)
  · refine a_l2 rfl rfl rfl ?_
    refine a_l0 rfl rfl rfl ?_
    refine a_geti rfl gfX5_63_5 (kS0 hs) ?_
    refine a_ic_ge rfl (fun c9 => ?_) (fun c => absurd (by rw [hd]; exact Int32.le_refl _) c)
    refine a_l1 rfl rfl rfl ?_
    refine a_iret rfl rfl ⟨rfl, rfl⟩
  · refine a_l2 rfl rfl rfl ?_
    refine a_l0 rfl rfl rfl ?_
    refine a_geti rfl gfX5_63_5 (kS0 hs) ?_
    refine a_ic_ge rfl (fun c => absurd c (by rw [hd]; exact nI_ge hj (by omega))) (fun c9 => ?_)
    refine a_l0 rfl rfl rfl ?_
    refine a_l2 rfl rfl rfl ?_
    refine a_eV1 rfl lX5_101 mo_X5_isReady (sp_X5_isReady hs hd hn) rfl rfl rfl ⟨5, _, (kS0 hs), rfl, rfl⟩ rfl ?_
    refine a_if_eq rfl (fun c17 => ?_) (fun c17 => ?_)
    · refine a_i2 rfl rfl rfl ?_
      refine a_goto rfl ?_
      exact a_back ih4 (by simp_all [lsub, nI_1, bs, bI_0, le_nl, -Int32.not_lt, -Int32.not_le]) rfl
    · refine a_l0 rfl rfl rfl ?_
      refine a_getq rfl gfX5_21_5 (kS0 hs) (rS5 hs) ?_
      refine a_l2 rfl rfl rfl ?_
      refine a_eSN1 rfl lX5_86 mo_X11_at (sp_X11_at (by first | rfl | assumption | exact kS0 hs | exact kS1 hs | exact kS2 hs | exact kS3 hs | exact kS4 hs | exact kS5 hs | exact kS6 hs | exact kS7 hs | exact kS8 hs | exact kS9 hs | exact kS10 hs)) rfl rfl rfl rfl ?_
      rw [atF_nI (by omega) (by decide)]
      refine a_l0 rfl rfl rfl ?_
      refine a_l2 rfl rfl rfl ?_
      refine a_eV1 rfl lX5_124 mo_X5_passesOf (sp_X5_passesOf hs hd hn) rfl rfl rfl ⟨5, _, (kS0 hs), rfl, rfl⟩ rfl ?_
      refine a_ic_gt rfl (fun c33 => ?_) (fun c33 => ?_)
      · refine a_i2 rfl rfl rfl ?_
        refine a_goto rfl ?_
        exact a_back ih4 (by simp_all [lsub, nI_1, bs, bI_0, le_nl, -Int32.not_lt, -Int32.not_le]) rfl
      · refine a_l1 rfl rfl rfl ?_
        refine a_l2 rfl rfl rfl ?_
        refine a_eSN1 rfl lX5_97 mo_X11_bit (sp_X11_bit) rfl rfl rfl rfl ?_
        refine a_s rfl rfl ?_
        refine a_s1 rfl rfl rfl rfl rfl rfl ?_
        refine a_i2 rfl rfl rfl ?_
        refine a_goto rfl ?_
        exact a_back ih4 (by simp_all [lsub, nI_1, bs, bI_0, le_nl, -Int32.not_lt, -Int32.not_le]) rfl
theorem sp_X5_kerbAt {S : aS} {I : Nat → Nat → Int32} {L : Nat → Nat → Int64} {w1 w2 t : Nat} {a nd : Nat} (hs : stp a) (hd : I a 3 = nI nd) (hn : nd ≤ 12) {i k : Int32} : SpE S m_X5_kerbAt 16 [.ref a, .int i, .int k] (hp I L w1 w2 t) (some (.int (kerbF nd (I (a + 8)) (I (a + 5)) (I a 13) i k))) (hp I L w1 w2 t) := by
  refine SpE_of ok_X5_kerbAt rfl rfl ?_
  show AW S m_X5_kerbAt 16 _ _ 0 0 0 [some (.ref a), some (.int i), some (.int k), none, none] [] (hp I L w1 w2 t)
  refine a_l0 rfl rfl rfl ?_
  refine a_l1 rfl rfl rfl ?_
  refine a_eV1 rfl lX5_113 mo_X5_placeOf (sp_X5_placeOf hs hd hn) rfl rfl rfl ⟨5, _, (kS0 hs), rfl, rfl⟩ rfl ?_
  refine a_s3 rfl rfl rfl rfl rfl rfl ?_
  refine a_l3 rfl rfl rfl ?_
  refine a_s rfl rfl ?_
  refine a_ic_eq rfl (fun c8 => ?_) (fun c8 => ?_)
  · refine a_s rfl rfl ?_
    refine a_iret rfl rfl ⟨by simp_all [kerbF, le_nl, -Int32.not_lt, -Int32.not_le], rfl⟩
  · refine a_l0 rfl rfl rfl ?_
    refine a_geti rfl gfX5_40_5 (kS0 hs) ?_
    refine a_s rfl rfl ?_
    refine a_ic_ge rfl (fun c16 => ?_) (fun c16 => ?_)
    · refine a_l2 rfl rfl rfl ?_
      refine a_l0 rfl rfl rfl ?_
      refine a_geti rfl gfX5_40_5 (kS0 hs) ?_
      refine a_idiv rfl ((fun z => by rw [z] at c16; exact absurd c16 (by decide))) ?_
      refine a_l3 rfl rfl rfl ?_
      refine a_s rfl rfl ?_
      refine a_s4 rfl rfl rfl rfl rfl rfl ?_
      refine a_l4 rfl rfl rfl ?_
      refine a_if_ge rfl (fun c33 => ?_) (fun c33 => ?_)
      · refine a_l4 rfl rfl rfl ?_
        refine a_s rfl rfl ?_
        refine a_min rfl lX5_127 mj_min rfl rfl ?_
        refine a_iret rfl rfl ⟨by simp_all [kerbF, le_nl, -Int32.not_lt, -Int32.not_le], rfl⟩
      · refine a_s rfl rfl ?_
        refine a_goto rfl ?_
        refine a_iret rfl rfl ⟨by simp_all [kerbF, le_nl, -Int32.not_lt, -Int32.not_le], rfl⟩
    · refine a_s rfl rfl ?_
      refine a_iret rfl rfl ⟨by simp_all [kerbF, le_nl, -Int32.not_lt, -Int32.not_le], rfl⟩
theorem sp_X5_finish {S : aS} {I : Nat → Nat → Int32} {L : Nat → Nat → Int64} {w1 w2 t : Nat} {a : Nat} (hs : stp a) {i : Int32} : SpE S m_X5_finish 14 [.ref a, .int i] (hp I L w1 w2 t) none (hp (finF I a i) L w1 w2 t) := by
  refine SpE_of ok_X5_finish rfl rfl ?_
  show AW S m_X5_finish 14 _ _ 0 0 0 [some (.ref a), some (.int i)] [] (hp I L w1 w2 t)
  refine a_l0 rfl rfl rfl ?_
  refine a_getq rfl gfX5_21_5 (kS0 hs) (rS5 hs) ?_
  refine a_l1 rfl rfl rfl ?_
  refine a_s rfl rfl ?_
  refine a_eSN0 rfl lX5_82 mo_X11_setAt (sp_X11_setAt (by first | rfl | assumption | exact kS0 hs | exact kS1 hs | exact kS2 hs | exact kS3 hs | exact kS4 hs | exact kS5 hs | exact kS6 hs | exact kS7 hs | exact kS8 hs | exact kS9 hs | exact kS10 hs)) rfl rfl rfl rfl ?_
  refine a_l0 rfl rfl rfl ?_
  refine a_getq rfl gfX5_33_5 (kS0 hs) (rS9 hs) ?_
  refine a_l1 rfl rfl rfl ?_
  refine a_s rfl rfl ?_
  refine a_eSN0 rfl lX5_82 mo_X11_setAt (sp_X11_setAt (by first | rfl | assumption | exact kS0 hs | exact kS1 hs | exact kS2 hs | exact kS3 hs | exact kS4 hs | exact kS5 hs | exact kS6 hs | exact kS7 hs | exact kS8 hs | exact kS9 hs | exact kS10 hs)) rfl rfl rfl rfl ?_
  refine a_vret rfl rfl ⟨rfl, rfl⟩
theorem sp_X5_growOlder {S : aS} {I : Nat → Nat → Int32} {L : Nat → Nat → Int64} {w1 w2 t : Nat} {a : Nat} (hs : stp a) {i : Int32} : SpE S m_X5_growOlder 14 [.ref a, .int i] (hp I L w1 w2 t) none (hp (growF I a i) L w1 w2 t) := by
  refine SpE_of ok_X5_growOlder rfl rfl ?_
  show AW S m_X5_growOlder 14 _ _ 0 0 0 [some (.ref a), some (.int i)] [] (hp I L w1 w2 t)
  refine a_l0 rfl rfl rfl ?_
  refine a_getq rfl gfX5_24_5 (kS0 hs) (rS6 hs) ?_
  refine a_l1 rfl rfl rfl ?_
  refine a_s rfl rfl ?_
  refine a_l0 rfl rfl rfl ?_
  refine a_getq rfl gfX5_24_5 (kS0 hs) (rS6 hs) ?_
  refine a_l1 rfl rfl rfl ?_
  refine a_eSN1 rfl lX5_86 mo_X11_at (sp_X11_at (by first | rfl | assumption | exact kS0 hs | exact kS1 hs | exact kS2 hs | exact kS3 hs | exact kS4 hs | exact kS5 hs | exact kS6 hs | exact kS7 hs | exact kS8 hs | exact kS9 hs | exact kS10 hs)) rfl rfl rfl rfl ?_
  refine a_s rfl rfl ?_
  refine a_s rfl rfl ?_
  refine a_min rfl lX5_127 mj_min rfl rfl ?_
  refine a_eSN0 rfl lX5_82 mo_X11_setAt (sp_X11_setAt (by first | rfl | assumption | exact kS0 hs | exact kS1 hs | exact kS2 hs | exact kS3 hs | exact kS4 hs | exact kS5 hs | exact kS6 hs | exact kS7 hs | exact kS8 hs | exact kS9 hs | exact kS10 hs)) rfl rfl rfl rfl ?_
  refine a_vret rfl rfl ⟨rfl, rfl⟩
theorem sp_X5_draw {S : aS} {I : Nat → Nat → Int32} {L : Nat → Nat → Int64} {w1 w2 t : Nat} {a : Nat} (hs : stp a) : SpE S m_X5_draw 14 [.ref a] (hp I L w1 w2 t) (some (.int (drawV (seedF (I a 15))))) (hp (up2 I a 15 (seedF (I a 15))) L w1 w2 t) := by
  refine SpE_of ok_X5_draw rfl rfl ?_
  show AW S m_X5_draw 14 _ _ 0 0 0 [some (.ref a)] [] (hp I L w1 w2 t)
  refine a_l0 rfl rfl rfl ?_
  refine a_l0 rfl rfl rfl ?_
  refine a_geti rfl gfX5_46_5 (kS0 hs) ?_
  refine a_ldc rfl kX5_148 ?_
  refine a_s rfl rfl ?_
  refine a_s rfl rfl ?_
  refine a_s rfl rfl ?_
  refine a_puti rfl pfX5_46_5 (kS0 hs) ?_
  refine a_l0 rfl rfl rfl ?_
  refine a_geti rfl gfX5_46_5 (kS0 hs) ?_
  rw [up2_at]
  refine a_s rfl rfl ?_
  refine a_s rfl rfl ?_
  refine a_s rfl rfl ?_
  refine a_s rfl rfl ?_
  refine a_iret rfl rfl ⟨rfl, rfl⟩
end
section
/-! ===== the law itself ===== -/
def kL_0 : List aE := [(0, .new 8, 3, 0, 0), (3, .dup, 4, 0, 0), (4, .invokespecial 129, 7, 0, 0), (7, .astore_n 1, 8, 0, 0), (8, .new 130, 11, 0, 0), (11, .dup, 12, 0, 0), (12, .invokespecial 132, 15, 0, 0), (15, .astore_n 2, 16, 0, 0), (16, .iconst 1, 17, 0, 1), (17, .newarray .long, 19, 0, 0), (19, .astore_n 3, 20, 0, 0), (20, .iconst 0, 21, 0, 0), (21, .istore 4, 23, 0, 0), (23, .iload 4, 25, 0, 0), (25, .aload_n 0, 26, 0, 0), (26, .arraylength, 27, 0, 0), (27, .bipush 6, 29, 0, 6), (29, .isub, 30, 0, 0), (30, .if_icmp .gt 1945, 33, 1975, 0), (33, .aload_n 0, 34, 0, 0), (34, .iload 4, 36, 0, 0), (36, .iaload, 37, 0, 0), (37, .bipush 63, 39, 0, 63), (39, .iand, 40, 0, 0), (40, .tableswitch 1929 0 57 #[248, 321, 346, 362, 378, 391, 431, 471, 499, 527, 555, 583, 623, 691, 731, 759, 784, 797, 837, 877, 929, 942, 998, 1026, 1039, 1052, 1080, 1108, 1136, 1164, 1192, 1208, 1224, 1237, 1250, 1263, 1303, 1355, 1368, 1381, 1394, 1434, 1474, 1502, 1515, 1528, 1541, 1569, 1582, 1634, 1690, 1746, 1802, 1842, 1867, 1880, 1891, 1904], 288, 0, 0)]
def kL_1 : List aE := []
def kL_2 : List aE := []
def kL_3 : List aE := []
def kL_4 : List aE := [(288, .aload_n 1, 289, 0, 0), (289, .aload_n 0, 290, 0, 0), (290, .iload 4, 292, 0, 0), (292, .iconst 1, 293, 0, 1), (293, .iadd, 294, 0, 0), (294, .iaload, 295, 0, 0), (295, .aload_n 0, 296, 0, 0), (296, .iload 4, 298, 0, 0), (298, .iconst 2, 299, 0, 2), (299, .iadd, 300, 0, 0), (300, .iaload, 301, 0, 0), (301, .aload_n 0, 302, 0, 0), (302, .iload 4, 304, 0, 0), (304, .iconst 3, 305, 0, 3), (305, .iadd, 306, 0, 0), (306, .iaload, 307, 0, 0), (307, .aload_n 0, 308, 0, 0), (308, .iload 4, 310, 0, 0), (310, .iconst 4, 311, 0, 4), (311, .iadd, 312, 0, 0), (312, .iaload, 313, 0, 0), (313, .aload_n 0, 314, 0, 0), (314, .iload 4, 316, 0, 0), (316, .iconst 5, 317, 0, 5), (317, .iadd, 318, 0, 0), (318, .iaload, 319, 0, 0), (319, .invokevirtual 133, 322, 0, 0)]
def kL_5 : List aE := [(322, .pop, 323, 0, 0), (323, .aload_n 2, 324, 0, 0), (324, .aload_n 0, 325, 0, 0), (325, .iload 4, 327, 0, 0), (327, .iconst 1, 328, 0, 1), (328, .iadd, 329, 0, 0), (329, .iaload, 330, 0, 0), (330, .aload_n 0, 331, 0, 0), (331, .iload 4, 333, 0, 0), (333, .iconst 2, 334, 0, 2), (334, .iadd, 335, 0, 0), (335, .iaload, 336, 0, 0), (336, .aload_n 0, 337, 0, 0), (337, .iload 4, 339, 0, 0), (339, .iconst 3, 340, 0, 3), (340, .iadd, 341, 0, 0), (341, .iaload, 342, 0, 0), (342, .aload_n 0, 343, 0, 0), (343, .iload 4, 345, 0, 0), (345, .iconst 4, 346, 0, 4), (346, .iadd, 347, 0, 0), (347, .iaload, 348, 0, 0), (348, .aload_n 0, 349, 0, 0), (349, .iload 4, 351, 0, 0), (351, .iconst 5, 352, 0, 5), (352, .iadd, 353, 0, 0), (353, .iaload, 354, 0, 0), (354, .invokevirtual 137, 357, 0, 0), (357, .pop, 358, 0, 0), (358, .goto 1611, 361, 1969, 0), (361, .aload_n 1, 362, 0, 0), (362, .aload_n 0, 363, 0, 0), (363, .iload 4, 365, 0, 0), (365, .iconst 1, 366, 0, 1), (366, .iadd, 367, 0, 0), (367, .iaload, 368, 0, 0), (368, .invokevirtual 138, 371, 0, 0), (371, .pop, 372, 0, 0), (372, .aload_n 2, 373, 0, 0), (373, .aload_n 0, 374, 0, 0), (374, .iload 4, 376, 0, 0), (376, .iconst 1, 377, 0, 1), (377, .iadd, 378, 0, 0), (378, .iaload, 379, 0, 0), (379, .invokevirtual 142, 382, 0, 0), (382, .pop, 383, 0, 0), (383, .goto 1586, 386, 1969, 0)]
def kL_6 : List aE := [(386, .aload_n 1, 387, 0, 0), (387, .aload_n 3, 388, 0, 0), (388, .invokestatic 143, 391, 0, 0), (391, .istore 5, 393, 0, 0), (393, .aload_n 2, 394, 0, 0), (394, .invokevirtual 148, 397, 0, 0), (397, .istore 6, 399, 0, 0), (399, .goto 1570, 402, 1969, 0), (402, .aload_n 1, 403, 0, 0), (403, .aload_n 3, 404, 0, 0), (404, .invokestatic 149, 407, 0, 0), (407, .istore 5, 409, 0, 0), (409, .aload_n 2, 410, 0, 0), (410, .invokevirtual 151, 413, 0, 0), (413, .istore 6, 415, 0, 0), (415, .goto 1554, 418, 1969, 0), (418, .aload_n 1, 419, 0, 0), (419, .invokevirtual 152, 422, 0, 0), (422, .pop, 423, 0, 0), (423, .aload_n 2, 424, 0, 0), (424, .invokevirtual 155, 427, 0, 0), (427, .pop, 428, 0, 0), (428, .goto 1541, 431, 1969, 0), (431, .aload_n 1, 432, 0, 0), (432, .aload_n 0, 433, 0, 0), (433, .iload 4, 435, 0, 0), (435, .iconst 1, 436, 0, 1), (436, .iadd, 437, 0, 0), (437, .iaload, 438, 0, 0), (438, .aload_n 0, 439, 0, 0), (439, .iload 4, 441, 0, 0), (441, .iconst 2, 442, 0, 2), (442, .iadd, 443, 0, 0), (443, .iaload, 444, 0, 0), (444, .aload_n 3, 445, 0, 0), (445, .invokestatic 156, 448, 0, 0)]
def kL_7 : List aE := [(448, .istore 5, 450, 0, 0), (450, .aload_n 2, 451, 0, 0), (451, .aload_n 0, 452, 0, 0), (452, .iload 4, 454, 0, 0), (454, .iconst 1, 455, 0, 1), (455, .iadd, 456, 0, 0), (456, .iaload, 457, 0, 0), (457, .aload_n 0, 458, 0, 0), (458, .iload 4, 460, 0, 0), (460, .iconst 2, 461, 0, 2), (461, .iadd, 462, 0, 0), (462, .iaload, 463, 0, 0), (463, .invokevirtual 159, 466, 0, 0), (466, .istore 6, 468, 0, 0), (468, .goto 1501, 471, 1969, 0), (471, .aload_n 1, 472, 0, 0), (472, .aload_n 0, 473, 0, 0), (473, .iload 4, 475, 0, 0), (475, .iconst 1, 476, 0, 1), (476, .iadd, 477, 0, 0), (477, .iaload, 478, 0, 0), (478, .aload_n 0, 479, 0, 0), (479, .iload 4, 481, 0, 0), (481, .iconst 2, 482, 0, 2), (482, .iadd, 483, 0, 0), (483, .iaload, 484, 0, 0), (484, .aload_n 3, 485, 0, 0), (485, .invokestatic 160, 488, 0, 0), (488, .istore 5, 490, 0, 0), (490, .aload_n 2, 491, 0, 0), (491, .aload_n 0, 492, 0, 0), (492, .iload 4, 494, 0, 0), (494, .iconst 1, 495, 0, 1), (495, .iadd, 496, 0, 0), (496, .iaload, 497, 0, 0), (497, .aload_n 0, 498, 0, 0), (498, .iload 4, 500, 0, 0), (500, .iconst 2, 501, 0, 2), (501, .iadd, 502, 0, 0), (502, .iaload, 503, 0, 0), (503, .invokevirtual 162, 506, 0, 0), (506, .istore 6, 508, 0, 0), (508, .goto 1461, 511, 1969, 0), (511, .aload_n 1, 512, 0, 0)]
def kL_8 : List aE := [(512, .aload_n 0, 513, 0, 0), (513, .iload 4, 515, 0, 0), (515, .iconst 1, 516, 0, 1), (516, .iadd, 517, 0, 0), (517, .iaload, 518, 0, 0), (518, .aload_n 3, 519, 0, 0), (519, .invokestatic 163, 522, 0, 0), (522, .istore 5, 524, 0, 0), (524, .aload_n 2, 525, 0, 0), (525, .aload_n 0, 526, 0, 0), (526, .iload 4, 528, 0, 0), (528, .iconst 1, 529, 0, 1), (529, .iadd, 530, 0, 0), (530, .iaload, 531, 0, 0), (531, .invokevirtual 166, 534, 0, 0), (534, .istore 6, 536, 0, 0), (536, .goto 1433, 539, 1969, 0), (539, .aload_n 1, 540, 0, 0), (540, .aload_n 0, 541, 0, 0), (541, .iload 4, 543, 0, 0), (543, .iconst 1, 544, 0, 1), (544, .iadd, 545, 0, 0), (545, .iaload, 546, 0, 0), (546, .aload_n 3, 547, 0, 0), (547, .invokestatic 167, 550, 0, 0), (550, .istore 5, 552, 0, 0), (552, .aload_n 2, 553, 0, 0), (553, .aload_n 0, 554, 0, 0), (554, .iload 4, 556, 0, 0), (556, .iconst 1, 557, 0, 1), (557, .iadd, 558, 0, 0), (558, .iaload, 559, 0, 0), (559, .invokevirtual 169, 562, 0, 0), (562, .istore 6, 564, 0, 0), (564, .goto 1405, 567, 1969, 0), (567, .aload_n 1, 568, 0, 0), (568, .aload_n 0, 569, 0, 0), (569, .iload 4, 571, 0, 0), (571, .iconst 1, 572, 0, 1), (572, .iadd, 573, 0, 0), (573, .iaload, 574, 0, 0), (574, .aload_n 3, 575, 0, 0), (575, .invokestatic 170, 578, 0, 0)]
def kL_9 : List aE := [(578, .istore 5, 580, 0, 0), (580, .aload_n 2, 581, 0, 0), (581, .aload_n 0, 582, 0, 0), (582, .iload 4, 584, 0, 0), (584, .iconst 1, 585, 0, 1), (585, .iadd, 586, 0, 0), (586, .iaload, 587, 0, 0), (587, .invokevirtual 172, 590, 0, 0), (590, .istore 6, 592, 0, 0), (592, .goto 1377, 595, 1969, 0), (595, .aload_n 1, 596, 0, 0), (596, .aload_n 0, 597, 0, 0), (597, .iload 4, 599, 0, 0), (599, .iconst 1, 600, 0, 1), (600, .iadd, 601, 0, 0), (601, .iaload, 602, 0, 0), (602, .aload_n 3, 603, 0, 0), (603, .invokestatic 173, 606, 0, 0), (606, .istore 5, 608, 0, 0), (608, .aload_n 2, 609, 0, 0), (609, .aload_n 0, 610, 0, 0), (610, .iload 4, 612, 0, 0), (612, .iconst 1, 613, 0, 1), (613, .iadd, 614, 0, 0), (614, .iaload, 615, 0, 0), (615, .invokevirtual 175, 618, 0, 0), (618, .istore 6, 620, 0, 0), (620, .goto 1349, 623, 1969, 0), (623, .aload_n 1, 624, 0, 0), (624, .aload_n 0, 625, 0, 0), (625, .iload 4, 627, 0, 0), (627, .iconst 1, 628, 0, 1), (628, .iadd, 629, 0, 0), (629, .iaload, 630, 0, 0), (630, .aload_n 0, 631, 0, 0), (631, .iload 4, 633, 0, 0), (633, .iconst 2, 634, 0, 2), (634, .iadd, 635, 0, 0), (635, .iaload, 636, 0, 0), (636, .aload_n 3, 637, 0, 0), (637, .invokestatic 176, 640, 0, 0)]
def kL_10 : List aE := [(640, .istore 5, 642, 0, 0), (642, .aload_n 2, 643, 0, 0), (643, .aload_n 0, 644, 0, 0), (644, .iload 4, 646, 0, 0), (646, .iconst 1, 647, 0, 1), (647, .iadd, 648, 0, 0), (648, .iaload, 649, 0, 0), (649, .aload_n 0, 650, 0, 0), (650, .iload 4, 652, 0, 0), (652, .iconst 2, 653, 0, 2), (653, .iadd, 654, 0, 0), (654, .iaload, 655, 0, 0), (655, .invokevirtual 178, 658, 0, 0), (658, .istore 6, 660, 0, 0), (660, .goto 1309, 663, 1969, 0), (663, .aload_n 1, 664, 0, 0), (664, .aload_n 0, 665, 0, 0), (665, .iload 4, 667, 0, 0), (667, .iconst 1, 668, 0, 1), (668, .iadd, 669, 0, 0), (669, .iaload, 670, 0, 0), (670, .aload_n 0, 671, 0, 0), (671, .iload 4, 673, 0, 0), (673, .iconst 2, 674, 0, 2), (674, .iadd, 675, 0, 0), (675, .iaload, 676, 0, 0), (676, .aload_n 3, 677, 0, 0), (677, .invokestatic 179, 680, 0, 0), (680, .istore 5, 682, 0, 0), (682, .aload_n 2, 683, 0, 0), (683, .aload_n 0, 684, 0, 0), (684, .iload 4, 686, 0, 0), (686, .iconst 1, 687, 0, 1), (687, .iadd, 688, 0, 0), (688, .iaload, 689, 0, 0), (689, .aload_n 0, 690, 0, 0), (690, .iload 4, 692, 0, 0), (692, .iconst 2, 693, 0, 2), (693, .iadd, 694, 0, 0), (694, .iaload, 695, 0, 0), (695, .invokevirtual 181, 698, 0, 0), (698, .istore 6, 700, 0, 0), (700, .aload_n 2, 701, 0, 0), (701, .invokevirtual 182, 704, 0, 0)]
def kL_11 : List aE := [(704, .iload 5, 706, 0, 0), (706, .if_icmp .eq 5, 709, 711, 0), (709, .iconst 0, 710, 0, 0), (710, .ireturn, 711, 0, 0), (711, .iload 5, 713, 0, 0), (713, .ifCond .ne 15, 716, 728, 0), (716, .aload_n 3, 717, 0, 0), (717, .iconst 0, 718, 0, 0), (718, .laload, 719, 0, 0), (719, .iload 6, 721, 0, 0), (721, .i2l, 722, 0, 0), (722, .lcmp, 723, 0, 0), (723, .ifCond .eq 5, 726, 728, 0), (726, .iconst 0, 727, 0, 0), (727, .ireturn, 728, 0, 0), (728, .goto 1241, 731, 1969, 0), (731, .aload_n 1, 732, 0, 0), (732, .aload_n 0, 733, 0, 0), (733, .iload 4, 735, 0, 0), (735, .iconst 1, 736, 0, 1), (736, .iadd, 737, 0, 0), (737, .iaload, 738, 0, 0), (738, .aload_n 0, 739, 0, 0), (739, .iload 4, 741, 0, 0), (741, .iconst 2, 742, 0, 2), (742, .iadd, 743, 0, 0), (743, .iaload, 744, 0, 0), (744, .aload_n 3, 745, 0, 0), (745, .invokestatic 185, 748, 0, 0), (748, .istore 5, 750, 0, 0), (750, .aload_n 2, 751, 0, 0), (751, .aload_n 0, 752, 0, 0), (752, .iload 4, 754, 0, 0), (754, .iconst 1, 755, 0, 1), (755, .iadd, 756, 0, 0), (756, .iaload, 757, 0, 0), (757, .aload_n 0, 758, 0, 0), (758, .iload 4, 760, 0, 0), (760, .iconst 2, 761, 0, 2), (761, .iadd, 762, 0, 0), (762, .iaload, 763, 0, 0), (763, .invokevirtual 187, 766, 0, 0), (766, .istore 6, 768, 0, 0)]
def kL_12 : List aE := [(768, .goto 1201, 771, 1969, 0), (771, .aload_n 1, 772, 0, 0), (772, .aload_n 0, 773, 0, 0), (773, .iload 4, 775, 0, 0), (775, .iconst 1, 776, 0, 1), (776, .iadd, 777, 0, 0), (777, .iaload, 778, 0, 0), (778, .aload_n 3, 779, 0, 0), (779, .invokestatic 188, 782, 0, 0), (782, .istore 5, 784, 0, 0), (784, .aload_n 2, 785, 0, 0), (785, .aload_n 0, 786, 0, 0), (786, .iload 4, 788, 0, 0), (788, .iconst 1, 789, 0, 1), (789, .iadd, 790, 0, 0), (790, .iaload, 791, 0, 0), (791, .invokevirtual 190, 794, 0, 0), (794, .istore 6, 796, 0, 0), (796, .goto 1173, 799, 1969, 0), (799, .aload_n 1, 800, 0, 0), (800, .aload_n 0, 801, 0, 0), (801, .iload 4, 803, 0, 0), (803, .iconst 1, 804, 0, 1), (804, .iadd, 805, 0, 0), (805, .iaload, 806, 0, 0), (806, .invokevirtual 191, 809, 0, 0), (809, .pop, 810, 0, 0), (810, .aload_n 2, 811, 0, 0), (811, .aload_n 0, 812, 0, 0), (812, .iload 4, 814, 0, 0), (814, .iconst 1, 815, 0, 1), (815, .iadd, 816, 0, 0), (816, .iaload, 817, 0, 0), (817, .invokevirtual 194, 820, 0, 0), (820, .pop, 821, 0, 0), (821, .goto 1148, 824, 1969, 0), (824, .aload_n 1, 825, 0, 0), (825, .invokevirtual 195, 828, 0, 0), (828, .pop, 829, 0, 0), (829, .aload_n 2, 830, 0, 0), (830, .invokevirtual 198, 833, 0, 0)]
def kL_13 : List aE := [(833, .pop, 834, 0, 0), (834, .goto 1135, 837, 1969, 0), (837, .aload_n 1, 838, 0, 0), (838, .aload_n 0, 839, 0, 0), (839, .iload 4, 841, 0, 0), (841, .iconst 1, 842, 0, 1), (842, .iadd, 843, 0, 0), (843, .iaload, 844, 0, 0), (844, .aload_n 0, 845, 0, 0), (845, .iload 4, 847, 0, 0), (847, .iconst 2, 848, 0, 2), (848, .iadd, 849, 0, 0), (849, .iaload, 850, 0, 0), (850, .aload_n 3, 851, 0, 0), (851, .invokestatic 199, 854, 0, 0), (854, .istore 5, 856, 0, 0), (856, .aload_n 2, 857, 0, 0), (857, .aload_n 0, 858, 0, 0), (858, .iload 4, 860, 0, 0), (860, .iconst 1, 861, 0, 1), (861, .iadd, 862, 0, 0), (862, .iaload, 863, 0, 0), (863, .aload_n 0, 864, 0, 0), (864, .iload 4, 866, 0, 0), (866, .iconst 2, 867, 0, 2), (867, .iadd, 868, 0, 0), (868, .iaload, 869, 0, 0), (869, .invokevirtual 201, 872, 0, 0), (872, .istore 6, 874, 0, 0), (874, .goto 1095, 877, 1969, 0), (877, .aload_n 1, 878, 0, 0), (878, .aload_n 0, 879, 0, 0), (879, .iload 4, 881, 0, 0), (881, .iconst 1, 882, 0, 1), (882, .iadd, 883, 0, 0), (883, .iaload, 884, 0, 0), (884, .aload_n 0, 885, 0, 0), (885, .iload 4, 887, 0, 0), (887, .iconst 2, 888, 0, 2), (888, .iadd, 889, 0, 0), (889, .iaload, 890, 0, 0), (890, .aload_n 3, 891, 0, 0), (891, .invokestatic 202, 894, 0, 0), (894, .istore 5, 896, 0, 0)]
def kL_14 : List aE := [(896, .aload_n 2, 897, 0, 0), (897, .aload_n 0, 898, 0, 0), (898, .iload 4, 900, 0, 0), (900, .iconst 1, 901, 0, 1), (901, .iadd, 902, 0, 0), (902, .iaload, 903, 0, 0), (903, .aload_n 0, 904, 0, 0), (904, .iload 4, 906, 0, 0), (906, .iconst 2, 907, 0, 2), (907, .iadd, 908, 0, 0), (908, .iaload, 909, 0, 0), (909, .invokevirtual 204, 912, 0, 0), (912, .istore 6, 914, 0, 0), (914, .goto 1055, 917, 1969, 0), (917, .aload_n 1, 918, 0, 0), (918, .aload_n 0, 919, 0, 0), (919, .iload 4, 921, 0, 0), (921, .iconst 1, 922, 0, 1), (922, .iadd, 923, 0, 0), (923, .iaload, 924, 0, 0), (924, .aload_n 0, 925, 0, 0), (925, .iload 4, 927, 0, 0), (927, .iconst 2, 928, 0, 2), (928, .iadd, 929, 0, 0), (929, .iaload, 930, 0, 0), (930, .aload_n 0, 931, 0, 0), (931, .iload 4, 933, 0, 0), (933, .iconst 3, 934, 0, 3), (934, .iadd, 935, 0, 0), (935, .iaload, 936, 0, 0), (936, .aload_n 3, 937, 0, 0), (937, .invokestatic 205, 940, 0, 0), (940, .istore 5, 942, 0, 0), (942, .aload_n 2, 943, 0, 0), (943, .aload_n 0, 944, 0, 0), (944, .iload 4, 946, 0, 0), (946, .iconst 1, 947, 0, 1), (947, .iadd, 948, 0, 0), (948, .iaload, 949, 0, 0), (949, .aload_n 0, 950, 0, 0), (950, .iload 4, 952, 0, 0), (952, .iconst 2, 953, 0, 2), (953, .iadd, 954, 0, 0), (954, .iaload, 955, 0, 0), (955, .aload_n 0, 956, 0, 0), (956, .iload 4, 958, 0, 0), (958, .iconst 3, 959, 0, 3), (959, .iadd, 960, 0, 0)]
def kL_15 : List aE := [(960, .iaload, 961, 0, 0), (961, .invokevirtual 208, 964, 0, 0), (964, .istore 6, 966, 0, 0), (966, .goto 1003, 969, 1969, 0), (969, .aload_n 1, 970, 0, 0), (970, .invokevirtual 209, 973, 0, 0), (973, .pop, 974, 0, 0), (974, .aload_n 2, 975, 0, 0), (975, .invokevirtual 212, 978, 0, 0), (978, .pop, 979, 0, 0), (979, .goto 990, 982, 1969, 0), (982, .aload_n 1, 983, 0, 0), (983, .aload_n 0, 984, 0, 0), (984, .iload 4, 986, 0, 0), (986, .iconst 1, 987, 0, 1), (987, .iadd, 988, 0, 0), (988, .iaload, 989, 0, 0), (989, .aload_n 0, 990, 0, 0), (990, .iload 4, 992, 0, 0), (992, .iconst 2, 993, 0, 2), (993, .iadd, 994, 0, 0), (994, .iaload, 995, 0, 0), (995, .ifCond .eq 7, 998, 1002, 0), (998, .iconst 1, 999, 0, 1), (999, .goto 4, 1002, 1003, 0), (1002, .iconst 0, 1003, 0, 0), (1003, .aload_n 3, 1004, 0, 0), (1004, .invokestatic 213, 1007, 0, 0), (1007, .istore 5, 1009, 0, 0), (1009, .aload_n 2, 1010, 0, 0), (1010, .aload_n 0, 1011, 0, 0), (1011, .iload 4, 1013, 0, 0), (1013, .iconst 1, 1014, 0, 1), (1014, .iadd, 1015, 0, 0), (1015, .iaload, 1016, 0, 0), (1016, .aload_n 0, 1017, 0, 0), (1017, .iload 4, 1019, 0, 0), (1019, .iconst 2, 1020, 0, 2), (1020, .iadd, 1021, 0, 0), (1021, .iaload, 1022, 0, 0), (1022, .ifCond .eq 7, 1025, 1029, 0)]
def kL_16 : List aE := [(1025, .iconst 1, 1026, 0, 1), (1026, .goto 4, 1029, 1030, 0), (1029, .iconst 0, 1030, 0, 0), (1030, .invokevirtual 216, 1033, 0, 0), (1033, .istore 6, 1035, 0, 0), (1035, .goto 934, 1038, 1969, 0), (1038, .aload_n 1, 1039, 0, 0), (1039, .aload_n 0, 1040, 0, 0), (1040, .iload 4, 1042, 0, 0), (1042, .iconst 1, 1043, 0, 1), (1043, .iadd, 1044, 0, 0), (1044, .iaload, 1045, 0, 0), (1045, .aload_n 3, 1046, 0, 0), (1046, .invokestatic 217, 1049, 0, 0), (1049, .istore 5, 1051, 0, 0), (1051, .aload_n 2, 1052, 0, 0), (1052, .aload_n 0, 1053, 0, 0), (1053, .iload 4, 1055, 0, 0), (1055, .iconst 1, 1056, 0, 1), (1056, .iadd, 1057, 0, 0), (1057, .iaload, 1058, 0, 0), (1058, .invokevirtual 219, 1061, 0, 0), (1061, .istore 6, 1063, 0, 0), (1063, .goto 906, 1066, 1969, 0), (1066, .aload_n 1, 1067, 0, 0), (1067, .invokevirtual 220, 1070, 0, 0), (1070, .pop, 1071, 0, 0), (1071, .aload_n 2, 1072, 0, 0), (1072, .invokevirtual 223, 1075, 0, 0), (1075, .pop, 1076, 0, 0), (1076, .goto 893, 1079, 1969, 0), (1079, .aload_n 1, 1080, 0, 0), (1080, .invokevirtual 224, 1083, 0, 0), (1083, .pop, 1084, 0, 0), (1084, .aload_n 2, 1085, 0, 0), (1085, .invokevirtual 227, 1088, 0, 0)]
def kL_17 : List aE := [(1088, .pop, 1089, 0, 0), (1089, .goto 880, 1092, 1969, 0), (1092, .aload_n 1, 1093, 0, 0), (1093, .aload_n 0, 1094, 0, 0), (1094, .iload 4, 1096, 0, 0), (1096, .iconst 1, 1097, 0, 1), (1097, .iadd, 1098, 0, 0), (1098, .iaload, 1099, 0, 0), (1099, .aload_n 3, 1100, 0, 0), (1100, .invokestatic 228, 1103, 0, 0), (1103, .istore 5, 1105, 0, 0), (1105, .aload_n 2, 1106, 0, 0), (1106, .aload_n 0, 1107, 0, 0), (1107, .iload 4, 1109, 0, 0), (1109, .iconst 1, 1110, 0, 1), (1110, .iadd, 1111, 0, 0), (1111, .iaload, 1112, 0, 0), (1112, .invokevirtual 230, 1115, 0, 0), (1115, .istore 6, 1117, 0, 0), (1117, .goto 852, 1120, 1969, 0), (1120, .aload_n 1, 1121, 0, 0), (1121, .aload_n 0, 1122, 0, 0), (1122, .iload 4, 1124, 0, 0), (1124, .iconst 1, 1125, 0, 1), (1125, .iadd, 1126, 0, 0), (1126, .iaload, 1127, 0, 0), (1127, .aload_n 3, 1128, 0, 0), (1128, .invokestatic 231, 1131, 0, 0), (1131, .istore 5, 1133, 0, 0), (1133, .aload_n 2, 1134, 0, 0), (1134, .aload_n 0, 1135, 0, 0), (1135, .iload 4, 1137, 0, 0), (1137, .iconst 1, 1138, 0, 1), (1138, .iadd, 1139, 0, 0), (1139, .iaload, 1140, 0, 0), (1140, .invokevirtual 233, 1143, 0, 0), (1143, .istore 6, 1145, 0, 0), (1145, .goto 824, 1148, 1969, 0), (1148, .aload_n 1, 1149, 0, 0), (1149, .aload_n 0, 1150, 0, 0), (1150, .iload 4, 1152, 0, 0)]
def kL_18 : List aE := [(1152, .iconst 1, 1153, 0, 1), (1153, .iadd, 1154, 0, 0), (1154, .iaload, 1155, 0, 0), (1155, .aload_n 3, 1156, 0, 0), (1156, .invokestatic 234, 1159, 0, 0), (1159, .istore 5, 1161, 0, 0), (1161, .aload_n 2, 1162, 0, 0), (1162, .aload_n 0, 1163, 0, 0), (1163, .iload 4, 1165, 0, 0), (1165, .iconst 1, 1166, 0, 1), (1166, .iadd, 1167, 0, 0), (1167, .iaload, 1168, 0, 0), (1168, .invokevirtual 236, 1171, 0, 0), (1171, .istore 6, 1173, 0, 0), (1173, .goto 796, 1176, 1969, 0), (1176, .aload_n 1, 1177, 0, 0), (1177, .aload_n 0, 1178, 0, 0), (1178, .iload 4, 1180, 0, 0), (1180, .iconst 1, 1181, 0, 1), (1181, .iadd, 1182, 0, 0), (1182, .iaload, 1183, 0, 0), (1183, .aload_n 3, 1184, 0, 0), (1184, .invokestatic 237, 1187, 0, 0), (1187, .istore 5, 1189, 0, 0), (1189, .aload_n 2, 1190, 0, 0), (1190, .aload_n 0, 1191, 0, 0), (1191, .iload 4, 1193, 0, 0), (1193, .iconst 1, 1194, 0, 1), (1194, .iadd, 1195, 0, 0), (1195, .iaload, 1196, 0, 0), (1196, .invokevirtual 239, 1199, 0, 0), (1199, .istore 6, 1201, 0, 0), (1201, .goto 768, 1204, 1969, 0), (1204, .aload_n 1, 1205, 0, 0), (1205, .aload_n 0, 1206, 0, 0), (1206, .iload 4, 1208, 0, 0), (1208, .iconst 1, 1209, 0, 1), (1209, .iadd, 1210, 0, 0), (1210, .iaload, 1211, 0, 0), (1211, .aload_n 3, 1212, 0, 0), (1212, .invokestatic 240, 1215, 0, 0), (1215, .istore 5, 1217, 0, 0)]
def kL_19 : List aE := [(1217, .aload_n 2, 1218, 0, 0), (1218, .aload_n 0, 1219, 0, 0), (1219, .iload 4, 1221, 0, 0), (1221, .iconst 1, 1222, 0, 1), (1222, .iadd, 1223, 0, 0), (1223, .iaload, 1224, 0, 0), (1224, .invokevirtual 242, 1227, 0, 0), (1227, .istore 6, 1229, 0, 0), (1229, .goto 740, 1232, 1969, 0), (1232, .aload_n 1, 1233, 0, 0), (1233, .aload_n 3, 1234, 0, 0), (1234, .invokestatic 243, 1237, 0, 0), (1237, .istore 5, 1239, 0, 0), (1239, .aload_n 2, 1240, 0, 0), (1240, .invokevirtual 245, 1243, 0, 0), (1243, .istore 6, 1245, 0, 0), (1245, .goto 724, 1248, 1969, 0), (1248, .aload_n 1, 1249, 0, 0), (1249, .aload_n 3, 1250, 0, 0), (1250, .invokestatic 246, 1253, 0, 0), (1253, .istore 5, 1255, 0, 0), (1255, .aload_n 2, 1256, 0, 0), (1256, .invokevirtual 248, 1259, 0, 0), (1259, .istore 6, 1261, 0, 0), (1261, .goto 708, 1264, 1969, 0), (1264, .aload_n 1, 1265, 0, 0), (1265, .invokevirtual 249, 1268, 0, 0), (1268, .pop, 1269, 0, 0), (1269, .aload_n 2, 1270, 0, 0), (1270, .invokevirtual 252, 1273, 0, 0), (1273, .pop, 1274, 0, 0), (1274, .goto 695, 1277, 1969, 0), (1277, .aload_n 1, 1278, 0, 0), (1278, .invokevirtual 253, 1281, 0, 0)]
def kL_20 : List aE := [(1281, .pop, 1282, 0, 0), (1282, .aload_n 2, 1283, 0, 0), (1283, .invokevirtual 256, 1286, 0, 0), (1286, .pop, 1287, 0, 0), (1287, .goto 682, 1290, 1969, 0), (1290, .aload_n 1, 1291, 0, 0), (1291, .invokevirtual 257, 1294, 0, 0), (1294, .pop, 1295, 0, 0), (1295, .aload_n 2, 1296, 0, 0), (1296, .invokevirtual 260, 1299, 0, 0), (1299, .pop, 1300, 0, 0), (1300, .goto 669, 1303, 1969, 0), (1303, .aload_n 1, 1304, 0, 0), (1304, .aload_n 0, 1305, 0, 0), (1305, .iload 4, 1307, 0, 0), (1307, .iconst 1, 1308, 0, 1), (1308, .iadd, 1309, 0, 0), (1309, .iaload, 1310, 0, 0), (1310, .aload_n 0, 1311, 0, 0), (1311, .iload 4, 1313, 0, 0), (1313, .iconst 2, 1314, 0, 2), (1314, .iadd, 1315, 0, 0), (1315, .iaload, 1316, 0, 0), (1316, .aload_n 3, 1317, 0, 0), (1317, .invokestatic 261, 1320, 0, 0), (1320, .istore 5, 1322, 0, 0), (1322, .aload_n 2, 1323, 0, 0), (1323, .aload_n 0, 1324, 0, 0), (1324, .iload 4, 1326, 0, 0), (1326, .iconst 1, 1327, 0, 1), (1327, .iadd, 1328, 0, 0), (1328, .iaload, 1329, 0, 0), (1329, .aload_n 0, 1330, 0, 0), (1330, .iload 4, 1332, 0, 0), (1332, .iconst 2, 1333, 0, 2), (1333, .iadd, 1334, 0, 0), (1334, .iaload, 1335, 0, 0), (1335, .invokevirtual 263, 1338, 0, 0), (1338, .istore 6, 1340, 0, 0), (1340, .goto 629, 1343, 1969, 0), (1343, .aload_n 1, 1344, 0, 0)]
def kL_21 : List aE := [(1344, .aload_n 0, 1345, 0, 0), (1345, .iload 4, 1347, 0, 0), (1347, .iconst 1, 1348, 0, 1), (1348, .iadd, 1349, 0, 0), (1349, .iaload, 1350, 0, 0), (1350, .aload_n 0, 1351, 0, 0), (1351, .iload 4, 1353, 0, 0), (1353, .iconst 2, 1354, 0, 2), (1354, .iadd, 1355, 0, 0), (1355, .iaload, 1356, 0, 0), (1356, .aload_n 0, 1357, 0, 0), (1357, .iload 4, 1359, 0, 0), (1359, .iconst 3, 1360, 0, 3), (1360, .iadd, 1361, 0, 0), (1361, .iaload, 1362, 0, 0), (1362, .aload_n 3, 1363, 0, 0), (1363, .invokestatic 264, 1366, 0, 0), (1366, .istore 5, 1368, 0, 0), (1368, .aload_n 2, 1369, 0, 0), (1369, .aload_n 0, 1370, 0, 0), (1370, .iload 4, 1372, 0, 0), (1372, .iconst 1, 1373, 0, 1), (1373, .iadd, 1374, 0, 0), (1374, .iaload, 1375, 0, 0), (1375, .aload_n 0, 1376, 0, 0), (1376, .iload 4, 1378, 0, 0), (1378, .iconst 2, 1379, 0, 2), (1379, .iadd, 1380, 0, 0), (1380, .iaload, 1381, 0, 0), (1381, .aload_n 0, 1382, 0, 0), (1382, .iload 4, 1384, 0, 0), (1384, .iconst 3, 1385, 0, 3), (1385, .iadd, 1386, 0, 0), (1386, .iaload, 1387, 0, 0), (1387, .invokevirtual 266, 1390, 0, 0), (1390, .istore 6, 1392, 0, 0), (1392, .goto 577, 1395, 1969, 0), (1395, .aload_n 1, 1396, 0, 0), (1396, .invokevirtual 267, 1399, 0, 0), (1399, .pop, 1400, 0, 0), (1400, .aload_n 2, 1401, 0, 0), (1401, .invokevirtual 270, 1404, 0, 0), (1404, .pop, 1405, 0, 0), (1405, .goto 564, 1408, 1969, 0)]
def kL_22 : List aE := [(1408, .aload_n 1, 1409, 0, 0), (1409, .invokevirtual 271, 1412, 0, 0), (1412, .pop, 1413, 0, 0), (1413, .aload_n 2, 1414, 0, 0), (1414, .invokevirtual 274, 1417, 0, 0), (1417, .pop, 1418, 0, 0), (1418, .goto 551, 1421, 1969, 0), (1421, .aload_n 1, 1422, 0, 0), (1422, .invokevirtual 275, 1425, 0, 0), (1425, .pop, 1426, 0, 0), (1426, .aload_n 2, 1427, 0, 0), (1427, .invokevirtual 278, 1430, 0, 0), (1430, .pop, 1431, 0, 0), (1431, .goto 538, 1434, 1969, 0), (1434, .aload_n 1, 1435, 0, 0), (1435, .aload_n 0, 1436, 0, 0), (1436, .iload 4, 1438, 0, 0), (1438, .iconst 1, 1439, 0, 1), (1439, .iadd, 1440, 0, 0), (1440, .iaload, 1441, 0, 0), (1441, .aload_n 0, 1442, 0, 0), (1442, .iload 4, 1444, 0, 0), (1444, .iconst 2, 1445, 0, 2), (1445, .iadd, 1446, 0, 0), (1446, .iaload, 1447, 0, 0), (1447, .aload_n 3, 1448, 0, 0), (1448, .invokestatic 279, 1451, 0, 0), (1451, .istore 5, 1453, 0, 0), (1453, .aload_n 2, 1454, 0, 0), (1454, .aload_n 0, 1455, 0, 0), (1455, .iload 4, 1457, 0, 0), (1457, .iconst 1, 1458, 0, 1), (1458, .iadd, 1459, 0, 0), (1459, .iaload, 1460, 0, 0), (1460, .aload_n 0, 1461, 0, 0), (1461, .iload 4, 1463, 0, 0), (1463, .iconst 2, 1464, 0, 2), (1464, .iadd, 1465, 0, 0), (1465, .iaload, 1466, 0, 0), (1466, .invokevirtual 281, 1469, 0, 0), (1469, .istore 6, 1471, 0, 0), (1471, .goto 498, 1474, 1969, 0)]
def kL_23 : List aE := [(1474, .aload_n 1, 1475, 0, 0), (1475, .aload_n 0, 1476, 0, 0), (1476, .iload 4, 1478, 0, 0), (1478, .iconst 1, 1479, 0, 1), (1479, .iadd, 1480, 0, 0), (1480, .iaload, 1481, 0, 0), (1481, .aload_n 0, 1482, 0, 0), (1482, .iload 4, 1484, 0, 0), (1484, .iconst 2, 1485, 0, 2), (1485, .iadd, 1486, 0, 0), (1486, .iaload, 1487, 0, 0), (1487, .aload_n 3, 1488, 0, 0), (1488, .invokestatic 282, 1491, 0, 0), (1491, .istore 5, 1493, 0, 0), (1493, .aload_n 2, 1494, 0, 0), (1494, .aload_n 0, 1495, 0, 0), (1495, .iload 4, 1497, 0, 0), (1497, .iconst 1, 1498, 0, 1), (1498, .iadd, 1499, 0, 0), (1499, .iaload, 1500, 0, 0), (1500, .aload_n 0, 1501, 0, 0), (1501, .iload 4, 1503, 0, 0), (1503, .iconst 2, 1504, 0, 2), (1504, .iadd, 1505, 0, 0), (1505, .iaload, 1506, 0, 0), (1506, .invokevirtual 284, 1509, 0, 0), (1509, .istore 6, 1511, 0, 0), (1511, .goto 458, 1514, 1969, 0), (1514, .aload_n 1, 1515, 0, 0), (1515, .aload_n 0, 1516, 0, 0), (1516, .iload 4, 1518, 0, 0), (1518, .iconst 1, 1519, 0, 1), (1519, .iadd, 1520, 0, 0), (1520, .iaload, 1521, 0, 0), (1521, .aload_n 3, 1522, 0, 0), (1522, .invokestatic 285, 1525, 0, 0), (1525, .istore 5, 1527, 0, 0), (1527, .aload_n 2, 1528, 0, 0), (1528, .aload_n 0, 1529, 0, 0), (1529, .iload 4, 1531, 0, 0), (1531, .iconst 1, 1532, 0, 1), (1532, .iadd, 1533, 0, 0), (1533, .iaload, 1534, 0, 0), (1534, .invokevirtual 287, 1537, 0, 0)]
def kL_24 : List aE := [(1537, .istore 6, 1539, 0, 0), (1539, .goto 430, 1542, 1969, 0), (1542, .aload_n 1, 1543, 0, 0), (1543, .invokevirtual 288, 1546, 0, 0), (1546, .pop, 1547, 0, 0), (1547, .aload_n 2, 1548, 0, 0), (1548, .invokevirtual 291, 1551, 0, 0), (1551, .pop, 1552, 0, 0), (1552, .goto 417, 1555, 1969, 0), (1555, .aload_n 1, 1556, 0, 0), (1556, .invokevirtual 292, 1559, 0, 0), (1559, .pop, 1560, 0, 0), (1560, .aload_n 2, 1561, 0, 0), (1561, .invokevirtual 295, 1564, 0, 0), (1564, .pop, 1565, 0, 0), (1565, .goto 404, 1568, 1969, 0), (1568, .aload_n 1, 1569, 0, 0), (1569, .invokevirtual 296, 1572, 0, 0), (1572, .pop, 1573, 0, 0), (1573, .aload_n 2, 1574, 0, 0), (1574, .invokevirtual 299, 1577, 0, 0), (1577, .pop, 1578, 0, 0), (1578, .goto 391, 1581, 1969, 0), (1581, .aload_n 1, 1582, 0, 0), (1582, .aload_n 0, 1583, 0, 0), (1583, .iload 4, 1585, 0, 0), (1585, .iconst 1, 1586, 0, 1), (1586, .iadd, 1587, 0, 0), (1587, .iaload, 1588, 0, 0), (1588, .aload_n 3, 1589, 0, 0), (1589, .invokestatic 300, 1592, 0, 0), (1592, .istore 5, 1594, 0, 0), (1594, .aload_n 2, 1595, 0, 0), (1595, .aload_n 0, 1596, 0, 0), (1596, .iload 4, 1598, 0, 0), (1598, .iconst 1, 1599, 0, 1), (1599, .iadd, 1600, 0, 0)]
def kL_25 : List aE := [(1600, .iaload, 1601, 0, 0), (1601, .invokevirtual 302, 1604, 0, 0), (1604, .istore 6, 1606, 0, 0), (1606, .goto 363, 1609, 1969, 0), (1609, .aload_n 1, 1610, 0, 0), (1610, .invokevirtual 303, 1613, 0, 0), (1613, .pop, 1614, 0, 0), (1614, .aload_n 2, 1615, 0, 0), (1615, .invokevirtual 306, 1618, 0, 0), (1618, .pop, 1619, 0, 0), (1619, .goto 350, 1622, 1969, 0), (1622, .aload_n 1, 1623, 0, 0), (1623, .aload_n 0, 1624, 0, 0), (1624, .iload 4, 1626, 0, 0), (1626, .iconst 1, 1627, 0, 1), (1627, .iadd, 1628, 0, 0), (1628, .iaload, 1629, 0, 0), (1629, .aload_n 0, 1630, 0, 0), (1630, .iload 4, 1632, 0, 0), (1632, .iconst 2, 1633, 0, 2), (1633, .iadd, 1634, 0, 0), (1634, .iaload, 1635, 0, 0), (1635, .aload_n 0, 1636, 0, 0), (1636, .iload 4, 1638, 0, 0), (1638, .iconst 3, 1639, 0, 3), (1639, .iadd, 1640, 0, 0), (1640, .iaload, 1641, 0, 0), (1641, .aload_n 3, 1642, 0, 0), (1642, .invokestatic 307, 1645, 0, 0), (1645, .istore 5, 1647, 0, 0), (1647, .aload_n 2, 1648, 0, 0), (1648, .aload_n 0, 1649, 0, 0), (1649, .iload 4, 1651, 0, 0), (1651, .iconst 1, 1652, 0, 1), (1652, .iadd, 1653, 0, 0), (1653, .iaload, 1654, 0, 0), (1654, .aload_n 0, 1655, 0, 0), (1655, .iload 4, 1657, 0, 0), (1657, .iconst 2, 1658, 0, 2), (1658, .iadd, 1659, 0, 0), (1659, .iaload, 1660, 0, 0), (1660, .aload_n 0, 1661, 0, 0), (1661, .iload 4, 1663, 0, 0), (1663, .iconst 3, 1664, 0, 3)]
def kL_26 : List aE := [(1664, .iadd, 1665, 0, 0), (1665, .iaload, 1666, 0, 0), (1666, .invokevirtual 309, 1669, 0, 0), (1669, .istore 6, 1671, 0, 0), (1671, .goto 298, 1674, 1969, 0), (1674, .aload_n 1, 1675, 0, 0), (1675, .aload_n 0, 1676, 0, 0), (1676, .iload 4, 1678, 0, 0), (1678, .iconst 1, 1679, 0, 1), (1679, .iadd, 1680, 0, 0), (1680, .iaload, 1681, 0, 0), (1681, .aload_n 0, 1682, 0, 0), (1682, .iload 4, 1684, 0, 0), (1684, .iconst 2, 1685, 0, 2), (1685, .iadd, 1686, 0, 0), (1686, .iaload, 1687, 0, 0), (1687, .ifCond .eq 7, 1690, 1694, 0), (1690, .iconst 1, 1691, 0, 1), (1691, .goto 4, 1694, 1695, 0), (1694, .iconst 0, 1695, 0, 0), (1695, .aload_n 3, 1696, 0, 0), (1696, .invokestatic 310, 1699, 0, 0), (1699, .istore 5, 1701, 0, 0), (1701, .aload_n 2, 1702, 0, 0), (1702, .aload_n 0, 1703, 0, 0), (1703, .iload 4, 1705, 0, 0), (1705, .iconst 1, 1706, 0, 1), (1706, .iadd, 1707, 0, 0), (1707, .iaload, 1708, 0, 0), (1708, .aload_n 0, 1709, 0, 0), (1709, .iload 4, 1711, 0, 0), (1711, .iconst 2, 1712, 0, 2), (1712, .iadd, 1713, 0, 0), (1713, .iaload, 1714, 0, 0), (1714, .ifCond .eq 7, 1717, 1721, 0), (1717, .iconst 1, 1718, 0, 1), (1718, .goto 4, 1721, 1722, 0), (1721, .iconst 0, 1722, 0, 0), (1722, .invokevirtual 312, 1725, 0, 0), (1725, .istore 6, 1727, 0, 0), (1727, .goto 242, 1730, 1969, 0)]
def kL_27 : List aE := [(1730, .aload_n 1, 1731, 0, 0), (1731, .aload_n 0, 1732, 0, 0), (1732, .iload 4, 1734, 0, 0), (1734, .iconst 1, 1735, 0, 1), (1735, .iadd, 1736, 0, 0), (1736, .iaload, 1737, 0, 0), (1737, .aload_n 0, 1738, 0, 0), (1738, .iload 4, 1740, 0, 0), (1740, .iconst 2, 1741, 0, 2), (1741, .iadd, 1742, 0, 0), (1742, .iaload, 1743, 0, 0), (1743, .ifCond .eq 7, 1746, 1750, 0), (1746, .iconst 1, 1747, 0, 1), (1747, .goto 4, 1750, 1751, 0), (1750, .iconst 0, 1751, 0, 0), (1751, .aload_n 3, 1752, 0, 0), (1752, .invokestatic 313, 1755, 0, 0), (1755, .istore 5, 1757, 0, 0), (1757, .aload_n 2, 1758, 0, 0), (1758, .aload_n 0, 1759, 0, 0), (1759, .iload 4, 1761, 0, 0), (1761, .iconst 1, 1762, 0, 1), (1762, .iadd, 1763, 0, 0), (1763, .iaload, 1764, 0, 0), (1764, .aload_n 0, 1765, 0, 0), (1765, .iload 4, 1767, 0, 0), (1767, .iconst 2, 1768, 0, 2), (1768, .iadd, 1769, 0, 0), (1769, .iaload, 1770, 0, 0), (1770, .ifCond .eq 7, 1773, 1777, 0), (1773, .iconst 1, 1774, 0, 1), (1774, .goto 4, 1777, 1778, 0), (1777, .iconst 0, 1778, 0, 0), (1778, .invokevirtual 315, 1781, 0, 0), (1781, .istore 6, 1783, 0, 0), (1783, .goto 186, 1786, 1969, 0), (1786, .aload_n 1, 1787, 0, 0), (1787, .aload_n 0, 1788, 0, 0), (1788, .iload 4, 1790, 0, 0), (1790, .iconst 1, 1791, 0, 1), (1791, .iadd, 1792, 0, 0)]
def kL_28 : List aE := [(1792, .iaload, 1793, 0, 0), (1793, .aload_n 0, 1794, 0, 0), (1794, .iload 4, 1796, 0, 0), (1796, .iconst 2, 1797, 0, 2), (1797, .iadd, 1798, 0, 0), (1798, .iaload, 1799, 0, 0), (1799, .ifCond .eq 7, 1802, 1806, 0), (1802, .iconst 1, 1803, 0, 1), (1803, .goto 4, 1806, 1807, 0), (1806, .iconst 0, 1807, 0, 0), (1807, .aload_n 3, 1808, 0, 0), (1808, .invokestatic 316, 1811, 0, 0), (1811, .istore 5, 1813, 0, 0), (1813, .aload_n 2, 1814, 0, 0), (1814, .aload_n 0, 1815, 0, 0), (1815, .iload 4, 1817, 0, 0), (1817, .iconst 1, 1818, 0, 1), (1818, .iadd, 1819, 0, 0), (1819, .iaload, 1820, 0, 0), (1820, .aload_n 0, 1821, 0, 0), (1821, .iload 4, 1823, 0, 0), (1823, .iconst 2, 1824, 0, 2), (1824, .iadd, 1825, 0, 0), (1825, .iaload, 1826, 0, 0), (1826, .ifCond .eq 7, 1829, 1833, 0), (1829, .iconst 1, 1830, 0, 1), (1830, .goto 4, 1833, 1834, 0), (1833, .iconst 0, 1834, 0, 0), (1834, .invokevirtual 318, 1837, 0, 0), (1837, .istore 6, 1839, 0, 0), (1839, .goto 130, 1842, 1969, 0), (1842, .aload_n 1, 1843, 0, 0), (1843, .aload_n 0, 1844, 0, 0), (1844, .iload 4, 1846, 0, 0), (1846, .iconst 1, 1847, 0, 1), (1847, .iadd, 1848, 0, 0), (1848, .iaload, 1849, 0, 0), (1849, .aload_n 0, 1850, 0, 0), (1850, .iload 4, 1852, 0, 0), (1852, .iconst 2, 1853, 0, 2), (1853, .iadd, 1854, 0, 0), (1854, .iaload, 1855, 0, 0), (1855, .aload_n 3, 1856, 0, 0)]
def kL_29 : List aE := [(1856, .invokestatic 319, 1859, 0, 0), (1859, .istore 5, 1861, 0, 0), (1861, .aload_n 2, 1862, 0, 0), (1862, .aload_n 0, 1863, 0, 0), (1863, .iload 4, 1865, 0, 0), (1865, .iconst 1, 1866, 0, 1), (1866, .iadd, 1867, 0, 0), (1867, .iaload, 1868, 0, 0), (1868, .aload_n 0, 1869, 0, 0), (1869, .iload 4, 1871, 0, 0), (1871, .iconst 2, 1872, 0, 2), (1872, .iadd, 1873, 0, 0), (1873, .iaload, 1874, 0, 0), (1874, .invokevirtual 321, 1877, 0, 0), (1877, .istore 6, 1879, 0, 0), (1879, .goto 90, 1882, 1969, 0), (1882, .aload_n 1, 1883, 0, 0), (1883, .aload_n 0, 1884, 0, 0), (1884, .iload 4, 1886, 0, 0), (1886, .iconst 1, 1887, 0, 1), (1887, .iadd, 1888, 0, 0), (1888, .iaload, 1889, 0, 0), (1889, .invokevirtual 322, 1892, 0, 0), (1892, .pop, 1893, 0, 0), (1893, .aload_n 2, 1894, 0, 0), (1894, .aload_n 0, 1895, 0, 0), (1895, .iload 4, 1897, 0, 0), (1897, .iconst 1, 1898, 0, 1), (1898, .iadd, 1899, 0, 0), (1899, .iaload, 1900, 0, 0), (1900, .invokevirtual 325, 1903, 0, 0), (1903, .pop, 1904, 0, 0), (1904, .goto 65, 1907, 1969, 0), (1907, .aload_n 1, 1908, 0, 0), (1908, .invokevirtual 326, 1911, 0, 0), (1911, .pop, 1912, 0, 0), (1912, .aload_n 2, 1913, 0, 0), (1913, .invokevirtual 330, 1916, 0, 0), (1916, .pop, 1917, 0, 0), (1917, .goto 52, 1920, 1969, 0)]
def kL_30 : List aE := [(1920, .aload_n 1, 1921, 0, 0), (1921, .invokevirtual 331, 1924, 0, 0), (1924, .aload_n 2, 1925, 0, 0), (1925, .invokevirtual 334, 1928, 0, 0), (1928, .goto 41, 1931, 1969, 0), (1931, .aload_n 1, 1932, 0, 0), (1932, .invokevirtual 335, 1935, 0, 0), (1935, .pop, 1936, 0, 0), (1936, .aload_n 2, 1937, 0, 0), (1937, .invokevirtual 338, 1940, 0, 0), (1940, .pop, 1941, 0, 0), (1941, .goto 28, 1944, 1969, 0), (1944, .aload_n 1, 1945, 0, 0), (1945, .aload_n 0, 1946, 0, 0), (1946, .iload 4, 1948, 0, 0), (1948, .iconst 1, 1949, 0, 1), (1949, .iadd, 1950, 0, 0), (1950, .iaload, 1951, 0, 0), (1951, .invokevirtual 339, 1954, 0, 0), (1954, .pop, 1955, 0, 0), (1955, .aload_n 2, 1956, 0, 0), (1956, .aload_n 0, 1957, 0, 0), (1957, .iload 4, 1959, 0, 0), (1959, .iconst 1, 1960, 0, 1), (1960, .iadd, 1961, 0, 0), (1961, .iaload, 1962, 0, 0), (1962, .invokevirtual 342, 1965, 0, 0), (1965, .pop, 1966, 0, 0), (1966, .goto 3, 1969, 1969, 0), (1969, .iinc 4 6, 1972, 0, 6), (1972, .goto (-1949), 1975, 23, 0), (1975, .iconst 1, 1976, 0, 1), (1976, .ireturn, 1977, 0, 0)]
def m_L_main : aM := (x, code, 7, ret, [], [kL_0, kL_1, kL_2, kL_3, kL_4, kL_5, kL_6, kL_7, kL_8, kL_9, kL_10, kL_11, kL_12, kL_13, kL_14, kL_15, kL_16, kL_17, kL_18, kL_19, kL_20, kL_21, kL_22, kL_23, kL_24, kL_25, kL_26, kL_27, kL_28, kL_29, kL_30])
set_option maxRecDepth 100000 in
theorem ok_L_main : okM m_L_main = true := okM_q (by decide +kernel)
end
section
/-! ===== making: what each constructor lays (printed by program) ===== -/
section B5
variable {S : aS} {C C' : aM} {d d' : Nat} {Q Q' : Option Value → aH → Prop} {X X' : String → aH → Prop} {k1 k2 j1 j2 pc np tgt n : Nat} {w : Int32} {ls ls' : List (Option Value)} {st st' st0 : List Value} {h h' : aH} {ins : Instr} {As : List Value}
/-- it makes cells, and all is known -/
def SpM (S : aS) (C : aM) (d k1 k2 : Nat) (args : List Value) (h h' : aH) : Prop := Sp S C d k1 k2 args h (fun v h'' => v = none ∧ h'' = h') (fun _ _ => False)
theorem a_mI {idx q : Nat} (hC : look C pc = some (.invokespecial idx, np, tgt, w)) (hl : LK C.1.cls idx C') (hM : MOi C' n) (hs : SpM S C' d' j1 j2 (.ref q :: As) h h') (hn : As.length = n) (h0 : st0 = As.reverse ++ .ref q :: st) (ho : cOk d d' j1 j2 k1 k2 st = true) (hh : C.2.2.2.2.1 = []) (kk : AW S C d Q X (k1 - j1) (k2 - j2) np ls st h') : AW S C d Q X k1 k2 pc ls st0 h := by
  refine a_callI hC hl hM hs hn h0 ho hh (fun v h'' hv => ?_) (fun E h' hx => False.elim hx)
  obtain ⟨rfl, rfl⟩ := hv
  exact kk
theorem a_mIN {idx q : Nat} (hC : look C pc = some (.invokespecial idx, np, tgt, w)) (hl : LKn C.1.cls idx C') (hM : MOi C' n) (hs : SpM S C' d' j1 j2 (.ref q :: As) h h') (hn : As.length = n) (h0 : st0 = As.reverse ++ .ref q :: st) (ho : cOk d d' j1 j2 k1 k2 st = true) (hh : C.2.2.2.2.1 = []) (kk : AW S C d Q X (k1 - j1) (k2 - j2) np ls st h') : AW S C d Q X k1 k2 pc ls st0 h := by
  refine a_callIN hC hl hM hs hn h0 ho hh (fun v h'' hv => ?_) (fun E h' hx => False.elim hx)
  obtain ⟨rfl, rfl⟩ := hv
  exact kk
theorem SpM_of {args : List Value} (hO : okM C = true) (hc : args.all (fun v => v.category == 1) = true) (hn : Nat.ble args.length C.2.2.1 = true)
    (k : AW S C d (fun v h'' => v = none ∧ h'' = h') (fun _ _ => False) k1 k2 0 (entL args C.2.2.1) [] h) : SpM S C d k1 k2 args h h' := Sp_of hO hc hn k
end B5
/-- nothing of ours lies behind t -/
def Fr (I : Nat → Nat → Int32) (L : Nat → Nat → Int64) (R : Nat → Nat → Nat) (t : Nat) : Prop := ∀ p, t ≤ p → (∀ k, I p k = 0) ∧ (∀ k, L p k = 0) ∧ ∀ k, R p k = 0
theorem upK_ne {K : Nat → Nat × Nat} {p q : Nat} {v : Nat × Nat} (h : q ≠ p) : upK K p v q = K q := by simp [upK, h]
theorem upK_self {K : Nat → Nat × Nat} {p : Nat} {v : Nat × Nat} : upK K p v p = v := by simp [upK]
section B6
variable {I : Nat → Nat → Int32} {L : Nat → Nat → Int64} {R : Nat → Nat → Nat} {t t' q k : Nat}
theorem Fr.mono (h : Fr I L R t) (h1 : t ≤ t') : Fr I L R t' := fun p hp => h p (Nat.le_trans h1 hp)
theorem Fr.putI {v : Int32} (h : Fr I L R t) (h1 : q < t) : Fr (up2 I q k v) L R t := fun p hp => ⟨fun j => by rw [up2_row (show p ≠ q by omega)]; exact (h p hp).1 j, (h p hp).2⟩
theorem Fr.putR {v : Nat} (h : Fr I L R t) (h1 : q < t) : Fr I L (up2 R q k v) t := fun p hp => ⟨(h p hp).1, (h p hp).2.1, fun j => by rw [up2_row (show p ≠ q by omega)]; exact (h p hp).2.2 j⟩
theorem Fr.i (h : Fr I L R t) : ∀ k, I t k = 0 := (h t (Nat.le_refl t)).1
theorem Fr.l (h : Fr I L R t) : ∀ k, L t k = 0 := (h t (Nat.le_refl t)).2.1
theorem Fr.r (h : Fr I L R t) : ∀ k, R t k = 0 := (h t (Nat.le_refl t)).2.2
end B6
def kX1 (K : Nat → Nat × Nat) (t : Nat) : Nat → Nat × Nat := upK K t (2, 240)
def iX1 (I : Nat → Nat → Int32) (q : Nat) (t : Nat) : Nat → Nat → Int32 := I
def rX1 (R : Nat → Nat → Nat) (q : Nat) (t : Nat) : Nat → Nat → Nat := up2 R q 2 (t + 1)
theorem oldX1 {K : Nat → Nat × Nat} {t p : Nat} (h : p < t) : kX1 K t p = K p := by
  unfold kX1
  simp (disch := omega) only [upK_ne]
theorem rowX1 {R : Nat → Nat → Nat} {q t p : Nat} (h : p ≠ q) (h1 : p < t) : rX1 R q t p = R p := by
  unfold rX1
  simp (disch := omega) only [up2_row]
theorem frX1 {I : Nat → Nat → Int32} {L : Nat → Nat → Int64} {R : Nat → Nat → Nat} {q t : Nat} (f : Fr I L R t) (hq : q < t) : Fr (iX1 I q t) L (rX1 R q t) (t + 1) := by
  unfold iX1 rX1
  exact ((Fr.mono (t' := t + 1) f (Nat.le_succ _)).putR (by omega))
theorem sp_X1_init {S : aS} {K : Nat → Nat × Nat} {I : Nat → Nat → Int32} {L : Nat → Nat → Int64} {R : Nat → Nat → Nat} {q t : Nat} (hK : K q = (1, 1)) (hq : q < t) (ht : 200 ≤ t) (f : Fr I L R t) : SpM S m_X1_init 12 1 240 [.ref q] (K, I, L, R, t) (kX1 K t, iX1 I q t, L, rX1 R q t, t + 1) := by
  refine SpM_of ok_X1_init rfl rfl ?_
  refine a_l0 rfl rfl rfl ?_
  refine a_objinit rfl lX1_3 oi_1 oi_2 rfl rfl ?_
  refine a_l0 rfl rfl rfl ?_
  refine a_s rfl rfl ?_
  refine a_newarr (N := 240) (tg := 0) rfl rfl rfl ar_int (by decide) (by decide) rfl (Nat.ble_eq_true_of_le (by omega)) rfl rfl f.i f.l ?_
  replace f := f.mono (t' := t + 1) (Nat.le_succ _)
  refine a_putq rfl pfX1_11_1 (by first | assumption | (simp (disch := omega) only [upK_self, hK, upK_ne]) | (simp (disch := omega) only [upK_ne, upK_self, hK, upK_ne])) ?_
  replace f := f.putR (q := q) (k := 2) (v := t + 1) (by omega)
  exact a_vret rfl rfl ⟨rfl, rfl⟩
def kX0 (K : Nat → Nat × Nat) (t : Nat) : Nat → Nat × Nat := upK (upK K t (2, 12)) (t + 1) (2, 12)
def iX0 (I : Nat → Nat → Int32) (q : Nat) (t : Nat) : Nat → Nat → Int32 := I
def rX0 (R : Nat → Nat → Nat) (q : Nat) (t : Nat) : Nat → Nat → Nat := up2 (up2 R q 0 (t + 1)) q 1 (t + 1 + 1)
theorem oldX0 {K : Nat → Nat × Nat} {t p : Nat} (h : p < t) : kX0 K t p = K p := by
  unfold kX0
  simp (disch := omega) only [upK_ne, oldX1]
theorem rowX0 {R : Nat → Nat → Nat} {q t p : Nat} (h : p ≠ q) (h1 : p < t) : rX0 R q t p = R p := by
  unfold rX0
  simp (disch := omega) only [up2_row, rowX1]
theorem frX0 {I : Nat → Nat → Int32} {L : Nat → Nat → Int64} {R : Nat → Nat → Nat} {q t : Nat} (f : Fr I L R t) (hq : q < t) : Fr (iX0 I q t) L (rX0 R q t) (t + 2) := by
  unfold iX0 rX0
  exact ((Fr.mono (t' := t + 2) ((Fr.mono (t' := t + 1) f (Nat.le_succ _)).putR (by omega)) (Nat.le_succ _)).putR (by omega))
theorem sp_X0_init {S : aS} {K : Nat → Nat × Nat} {I : Nat → Nat → Int32} {L : Nat → Nat → Int64} {R : Nat → Nat → Nat} {q t : Nat} (hK : K q = (1, 0)) (hq : q < t) (ht : 200 ≤ t) (f : Fr I L R t) : SpM S m_X0_init 12 2 24 [.ref q] (K, I, L, R, t) (kX0 K t, iX0 I q t, L, rX0 R q t, t + 2) := by
  refine SpM_of ok_X0_init rfl rfl ?_
  refine a_l0 rfl rfl rfl ?_
  refine a_objinit rfl lX0_3 oi_1 oi_2 rfl rfl ?_
  refine a_l0 rfl rfl rfl ?_
  refine a_s rfl rfl ?_
  refine a_newarr (N := 12) (tg := 0) rfl rfl rfl ar_int (by decide) (by decide) rfl (Nat.ble_eq_true_of_le (by omega)) rfl rfl f.i f.l ?_
  replace f := f.mono (t' := t + 1) (Nat.le_succ _)
  refine a_putq rfl pfX0_9_0 (by first | assumption | (simp (disch := omega) only [upK_self, hK, upK_ne, oldX1]) | (simp (disch := omega) only [upK_ne, upK_self, hK, upK_ne, oldX1])) ?_
  replace f := f.putR (q := q) (k := 0) (v := t + 1) (by omega)
  refine a_l0 rfl rfl rfl ?_
  refine a_s rfl rfl ?_
  refine a_newarr (N := 12) (tg := 0) rfl rfl rfl ar_int (by decide) (by decide) rfl (Nat.ble_eq_true_of_le (by omega)) rfl rfl f.i f.l ?_
  replace f := f.mono (t' := t + 2) (Nat.le_succ _)
  refine a_putq rfl pfX0_15_0 (by first | assumption | (simp (disch := omega) only [upK_self, hK, upK_ne, oldX1]) | (simp (disch := omega) only [upK_ne, upK_self, hK, upK_ne, oldX1])) ?_
  replace f := f.putR (q := q) (k := 1) (v := t + 1 + 1) (by omega)
  exact a_vret rfl rfl ⟨rfl, rfl⟩
def kX2 (K : Nat → Nat × Nat) (t : Nat) : Nat → Nat × Nat := upK (upK (upK (upK (upK (upK (upK K t (2, 12)) (t + 1) (2, 12)) (t + 2) (2, 12)) (t + 3) (2, 12)) (t + 4) (2, 400)) (t + 5) (2, 9)) (t + 6) (2, 32)
def iX2 (I : Nat → Nat → Int32) (q : Nat) (t : Nat) : Nat → Nat → Int32 := up2 I q 0 (-1)
def rX2 (R : Nat → Nat → Nat) (q : Nat) (t : Nat) : Nat → Nat → Nat := up2 (up2 (up2 (up2 (up2 (up2 (up2 R q 2 (t + 1)) q 3 (t + 1 + 1)) q 4 (t + 2 + 1)) q 5 (t + 3 + 1)) q 6 (t + 4 + 1)) q 7 (t + 5 + 1)) q 8 (t + 6 + 1)
theorem oldX2 {K : Nat → Nat × Nat} {t p : Nat} (h : p < t) : kX2 K t p = K p := by
  unfold kX2
  simp (disch := omega) only [upK_ne, oldX1, oldX0]
theorem rowX2 {R : Nat → Nat → Nat} {q t p : Nat} (h : p ≠ q) (h1 : p < t) : rX2 R q t p = R p := by
  unfold rX2
  simp (disch := omega) only [up2_row, rowX1, rowX0]
theorem frX2 {I : Nat → Nat → Int32} {L : Nat → Nat → Int64} {R : Nat → Nat → Nat} {q t : Nat} (f : Fr I L R t) (hq : q < t) : Fr (iX2 I q t) L (rX2 R q t) (t + 7) := by
  unfold iX2 rX2
  exact ((Fr.mono (t' := t + 7) ((Fr.mono (t' := t + 6) ((Fr.mono (t' := t + 5) ((Fr.mono (t' := t + 4) ((Fr.mono (t' := t + 3) ((Fr.mono (t' := t + 2) ((Fr.mono (t' := t + 1) (f.putI (by omega)) (Nat.le_succ _)).putR (by omega)) (Nat.le_succ _)).putR (by omega)) (Nat.le_succ _)).putR (by omega)) (Nat.le_succ _)).putR (by omega)) (Nat.le_succ _)).putR (by omega)) (Nat.le_succ _)).putR (by omega)) (Nat.le_succ _)).putR (by omega))
theorem sp_X2_init {S : aS} {K : Nat → Nat × Nat} {I : Nat → Nat → Int32} {L : Nat → Nat → Int64} {R : Nat → Nat → Nat} {q t : Nat} (hK : K q = (1, 2)) (hq : q < t) (ht : 200 ≤ t) (f : Fr I L R t) : SpM S m_X2_init 12 7 489 [.ref q] (K, I, L, R, t) (kX2 K t, iX2 I q t, L, rX2 R q t, t + 7) := by
  refine SpM_of ok_X2_init rfl rfl ?_
  refine a_l0 rfl rfl rfl ?_
  refine a_objinit rfl lX2_5 oi_1 oi_2 rfl rfl ?_
  refine a_l0 rfl rfl rfl ?_
  refine a_s rfl rfl ?_
  refine a_puti rfl pfX2_11_2 (by first | assumption | (simp (disch := omega) only [upK_self, hK, upK_ne, oldX1, oldX0]) | (simp (disch := omega) only [upK_ne, upK_self, hK, upK_ne, oldX1, oldX0])) ?_
  replace f := f.putI (q := q) (k := 0) (v := (-1)) (by omega)
  refine a_l0 rfl rfl rfl ?_
  refine a_s rfl rfl ?_
  refine a_newarr (N := 12) (tg := 0) rfl rfl rfl ar_int (by decide) (by decide) rfl (Nat.ble_eq_true_of_le (by omega)) rfl rfl f.i f.l ?_
  replace f := f.mono (t' := t + 1) (Nat.le_succ _)
  refine a_putq rfl pfX2_15_2 (by first | assumption | (simp (disch := omega) only [upK_self, hK, upK_ne, oldX1, oldX0]) | (simp (disch := omega) only [upK_ne, upK_self, hK, upK_ne, oldX1, oldX0])) ?_
  replace f := f.putR (q := q) (k := 2) (v := t + 1) (by omega)
  refine a_l0 rfl rfl rfl ?_
  refine a_s rfl rfl ?_
  refine a_newarr (N := 12) (tg := 0) rfl rfl rfl ar_int (by decide) (by decide) rfl (Nat.ble_eq_true_of_le (by omega)) rfl rfl f.i f.l ?_
  replace f := f.mono (t' := t + 2) (Nat.le_succ _)
  refine a_putq rfl pfX2_19_2 (by first | assumption | (simp (disch := omega) only [upK_self, hK, upK_ne, oldX1, oldX0]) | (simp (disch := omega) only [upK_ne, upK_self, hK, upK_ne, oldX1, oldX0])) ?_
  replace f := f.putR (q := q) (k := 3) (v := t + 1 + 1) (by omega)
  refine a_l0 rfl rfl rfl ?_
  refine a_s rfl rfl ?_
  refine a_newarr (N := 12) (tg := 0) rfl rfl rfl ar_int (by decide) (by decide) rfl (Nat.ble_eq_true_of_le (by omega)) rfl rfl f.i f.l ?_
  replace f := f.mono (t' := t + 3) (Nat.le_succ _)
  refine a_putq rfl pfX2_22_2 (by first | assumption | (simp (disch := omega) only [upK_self, hK, upK_ne, oldX1, oldX0]) | (simp (disch := omega) only [upK_ne, upK_self, hK, upK_ne, oldX1, oldX0])) ?_
  replace f := f.putR (q := q) (k := 4) (v := t + 2 + 1) (by omega)
  refine a_l0 rfl rfl rfl ?_
  refine a_s rfl rfl ?_
  refine a_newarr (N := 12) (tg := 0) rfl rfl rfl ar_int (by decide) (by decide) rfl (Nat.ble_eq_true_of_le (by omega)) rfl rfl f.i f.l ?_
  replace f := f.mono (t' := t + 4) (Nat.le_succ _)
  refine a_putq rfl pfX2_25_2 (by first | assumption | (simp (disch := omega) only [upK_self, hK, upK_ne, oldX1, oldX0]) | (simp (disch := omega) only [upK_ne, upK_self, hK, upK_ne, oldX1, oldX0])) ?_
  replace f := f.putR (q := q) (k := 5) (v := t + 3 + 1) (by omega)
  refine a_l0 rfl rfl rfl ?_
  refine a_s rfl rfl ?_
  refine a_newarr (N := 400) (tg := 0) rfl rfl rfl ar_int (by decide) (by decide) rfl (Nat.ble_eq_true_of_le (by omega)) rfl rfl f.i f.l ?_
  replace f := f.mono (t' := t + 5) (Nat.le_succ _)
  refine a_putq rfl pfX2_28_2 (by first | assumption | (simp (disch := omega) only [upK_self, hK, upK_ne, oldX1, oldX0]) | (simp (disch := omega) only [upK_ne, upK_self, hK, upK_ne, oldX1, oldX0])) ?_
  replace f := f.putR (q := q) (k := 6) (v := t + 4 + 1) (by omega)
  refine a_l0 rfl rfl rfl ?_
  refine a_s rfl rfl ?_
  refine a_newarr (N := 9) (tg := 0) rfl rfl rfl ar_int (by decide) (by decide) rfl (Nat.ble_eq_true_of_le (by omega)) rfl rfl f.i f.l ?_
  replace f := f.mono (t' := t + 6) (Nat.le_succ _)
  refine a_putq rfl pfX2_31_2 (by first | assumption | (simp (disch := omega) only [upK_self, hK, upK_ne, oldX1, oldX0]) | (simp (disch := omega) only [upK_ne, upK_self, hK, upK_ne, oldX1, oldX0])) ?_
  replace f := f.putR (q := q) (k := 7) (v := t + 5 + 1) (by omega)
  refine a_l0 rfl rfl rfl ?_
  refine a_s rfl rfl ?_
  refine a_newarr (N := 32) (tg := 0) rfl rfl rfl ar_int (by decide) (by decide) rfl (Nat.ble_eq_true_of_le (by omega)) rfl rfl f.i f.l ?_
  replace f := f.mono (t' := t + 7) (Nat.le_succ _)
  refine a_putq rfl pfX2_34_2 (by first | assumption | (simp (disch := omega) only [upK_self, hK, upK_ne, oldX1, oldX0]) | (simp (disch := omega) only [upK_ne, upK_self, hK, upK_ne, oldX1, oldX0])) ?_
  replace f := f.putR (q := q) (k := 8) (v := t + 6 + 1) (by omega)
  exact a_vret rfl rfl ⟨rfl, rfl⟩
def kX7 (K : Nat → Nat × Nat) (t : Nat) : Nat → Nat × Nat := upK K t (3, 400)
def iX7 (I : Nat → Nat → Int32) (q : Nat) (t : Nat) : Nat → Nat → Int32 := I
def rX7 (R : Nat → Nat → Nat) (q : Nat) (t : Nat) : Nat → Nat → Nat := up2 R q 0 (t + 1)
theorem oldX7 {K : Nat → Nat × Nat} {t p : Nat} (h : p < t) : kX7 K t p = K p := by
  unfold kX7
  simp (disch := omega) only [upK_ne, oldX1, oldX0, oldX2]
theorem rowX7 {R : Nat → Nat → Nat} {q t p : Nat} (h : p ≠ q) (h1 : p < t) : rX7 R q t p = R p := by
  unfold rX7
  simp (disch := omega) only [up2_row, rowX1, rowX0, rowX2]
theorem frX7 {I : Nat → Nat → Int32} {L : Nat → Nat → Int64} {R : Nat → Nat → Nat} {q t : Nat} (f : Fr I L R t) (hq : q < t) : Fr (iX7 I q t) L (rX7 R q t) (t + 1) := by
  unfold iX7 rX7
  exact ((Fr.mono (t' := t + 1) f (Nat.le_succ _)).putR (by omega))
theorem sp_X7_init {S : aS} {K : Nat → Nat × Nat} {I : Nat → Nat → Int32} {L : Nat → Nat → Int64} {R : Nat → Nat → Nat} {q t : Nat} (hK : K q = (1, 7)) (hq : q < t) (ht : 200 ≤ t) (f : Fr I L R t) : SpM S m_X7_init 12 1 400 [.ref q] (K, I, L, R, t) (kX7 K t, iX7 I q t, L, rX7 R q t, t + 1) := by
  refine SpM_of ok_X7_init rfl rfl ?_
  refine a_l0 rfl rfl rfl ?_
  refine a_objinit rfl lX7_3 oi_1 oi_2 rfl rfl ?_
  refine a_l0 rfl rfl rfl ?_
  refine a_s rfl rfl ?_
  refine a_newarr (N := 400) (tg := 1) rfl rfl rfl ar_byte (by decide) (by decide) rfl (Nat.ble_eq_true_of_le (by omega)) rfl rfl f.i f.l ?_
  replace f := f.mono (t' := t + 1) (Nat.le_succ _)
  refine a_putq rfl pfX7_9_7 (by first | assumption | (simp (disch := omega) only [upK_self, hK, upK_ne, oldX1, oldX0, oldX2]) | (simp (disch := omega) only [upK_ne, upK_self, hK, upK_ne, oldX1, oldX0, oldX2])) ?_
  replace f := f.putR (q := q) (k := 0) (v := t + 1) (by omega)
  exact a_vret rfl rfl ⟨rfl, rfl⟩
def kX9 (K : Nat → Nat × Nat) (t : Nat) : Nat → Nat × Nat := upK (upK (upK (upK K t (2, 401)) (t + 1) (2, 401)) (t + 2) (2, 401)) (t + 3) (2, 401)
def iX9 (I : Nat → Nat → Int32) (q : Nat) (t : Nat) : Nat → Nat → Int32 := I
def rX9 (R : Nat → Nat → Nat) (q : Nat) (t : Nat) : Nat → Nat → Nat := up2 (up2 (up2 (up2 R q 0 (t + 1)) q 1 (t + 1 + 1)) q 2 (t + 2 + 1)) q 3 (t + 3 + 1)
theorem oldX9 {K : Nat → Nat × Nat} {t p : Nat} (h : p < t) : kX9 K t p = K p := by
  unfold kX9
  simp (disch := omega) only [upK_ne, oldX1, oldX0, oldX2, oldX7]
theorem rowX9 {R : Nat → Nat → Nat} {q t p : Nat} (h : p ≠ q) (h1 : p < t) : rX9 R q t p = R p := by
  unfold rX9
  simp (disch := omega) only [up2_row, rowX1, rowX0, rowX2, rowX7]
theorem frX9 {I : Nat → Nat → Int32} {L : Nat → Nat → Int64} {R : Nat → Nat → Nat} {q t : Nat} (f : Fr I L R t) (hq : q < t) : Fr (iX9 I q t) L (rX9 R q t) (t + 4) := by
  unfold iX9 rX9
  exact ((Fr.mono (t' := t + 4) ((Fr.mono (t' := t + 3) ((Fr.mono (t' := t + 2) ((Fr.mono (t' := t + 1) f (Nat.le_succ _)).putR (by omega)) (Nat.le_succ _)).putR (by omega)) (Nat.le_succ _)).putR (by omega)) (Nat.le_succ _)).putR (by omega))
theorem sp_X9_init {S : aS} {K : Nat → Nat × Nat} {I : Nat → Nat → Int32} {L : Nat → Nat → Int64} {R : Nat → Nat → Nat} {q t : Nat} (hK : K q = (1, 9)) (hq : q < t) (ht : 200 ≤ t) (f : Fr I L R t) : SpM S m_X9_init 12 4 1604 [.ref q] (K, I, L, R, t) (kX9 K t, iX9 I q t, L, rX9 R q t, t + 4) := by
  refine SpM_of ok_X9_init rfl rfl ?_
  refine a_l0 rfl rfl rfl ?_
  refine a_objinit rfl lX9_3 oi_1 oi_2 rfl rfl ?_
  refine a_l0 rfl rfl rfl ?_
  refine a_s rfl rfl ?_
  refine a_newarr (N := 401) (tg := 0) rfl rfl rfl ar_int (by decide) (by decide) rfl (Nat.ble_eq_true_of_le (by omega)) rfl rfl f.i f.l ?_
  replace f := f.mono (t' := t + 1) (Nat.le_succ _)
  refine a_putq rfl pfX9_9_9 (by first | assumption | (simp (disch := omega) only [upK_self, hK, upK_ne, oldX1, oldX0, oldX2, oldX7]) | (simp (disch := omega) only [upK_ne, upK_self, hK, upK_ne, oldX1, oldX0, oldX2, oldX7])) ?_
  replace f := f.putR (q := q) (k := 0) (v := t + 1) (by omega)
  refine a_l0 rfl rfl rfl ?_
  refine a_s rfl rfl ?_
  refine a_newarr (N := 401) (tg := 0) rfl rfl rfl ar_int (by decide) (by decide) rfl (Nat.ble_eq_true_of_le (by omega)) rfl rfl f.i f.l ?_
  replace f := f.mono (t' := t + 2) (Nat.le_succ _)
  refine a_putq rfl pfX9_15_9 (by first | assumption | (simp (disch := omega) only [upK_self, hK, upK_ne, oldX1, oldX0, oldX2, oldX7]) | (simp (disch := omega) only [upK_ne, upK_self, hK, upK_ne, oldX1, oldX0, oldX2, oldX7])) ?_
  replace f := f.putR (q := q) (k := 1) (v := t + 1 + 1) (by omega)
  refine a_l0 rfl rfl rfl ?_
  refine a_s rfl rfl ?_
  refine a_newarr (N := 401) (tg := 0) rfl rfl rfl ar_int (by decide) (by decide) rfl (Nat.ble_eq_true_of_le (by omega)) rfl rfl f.i f.l ?_
  replace f := f.mono (t' := t + 3) (Nat.le_succ _)
  refine a_putq rfl pfX9_18_9 (by first | assumption | (simp (disch := omega) only [upK_self, hK, upK_ne, oldX1, oldX0, oldX2, oldX7]) | (simp (disch := omega) only [upK_ne, upK_self, hK, upK_ne, oldX1, oldX0, oldX2, oldX7])) ?_
  replace f := f.putR (q := q) (k := 2) (v := t + 2 + 1) (by omega)
  refine a_l0 rfl rfl rfl ?_
  refine a_s rfl rfl ?_
  refine a_newarr (N := 401) (tg := 0) rfl rfl rfl ar_int (by decide) (by decide) rfl (Nat.ble_eq_true_of_le (by omega)) rfl rfl f.i f.l ?_
  replace f := f.mono (t' := t + 4) (Nat.le_succ _)
  refine a_putq rfl pfX9_21_9 (by first | assumption | (simp (disch := omega) only [upK_self, hK, upK_ne, oldX1, oldX0, oldX2, oldX7]) | (simp (disch := omega) only [upK_ne, upK_self, hK, upK_ne, oldX1, oldX0, oldX2, oldX7])) ?_
  replace f := f.putR (q := q) (k := 3) (v := t + 3 + 1) (by omega)
  exact a_vret rfl rfl ⟨rfl, rfl⟩
def kX5 (K : Nat → Nat × Nat) (t : Nat) : Nat → Nat × Nat := kX1 (upK (upK (upK (upK (upK (upK (upK (upK (upK K t (2, 6)) (t + 1) (2, 6)) (t + 2) (2, 12)) (t + 3) (2, 12)) (t + 4) (2, 12)) (t + 5) (2, 12)) (t + 6) (2, 12)) (t + 7) (2, 12)) (t + 8) (1, 1)) (t + 9)
def iX5 (I : Nat → Nat → Int32) (q : Nat) (t : Nat) : Nat → Nat → Int32 := iX1 (up2 (up2 (up2 (up2 I q 10 1) q 13 2) q 14 3) q 15 1) (t + 8) (t + 9)
def rX5 (R : Nat → Nat → Nat) (q : Nat) (t : Nat) : Nat → Nat → Nat := up2 (rX1 (up2 (up2 (up2 (up2 (up2 (up2 (up2 (up2 R q 1 (t + 1)) q 2 (t + 1 + 1)) q 4 (t + 2 + 1)) q 5 (t + 3 + 1)) q 6 (t + 4 + 1)) q 7 (t + 5 + 1)) q 8 (t + 6 + 1)) q 9 (t + 7 + 1)) (t + 8) (t + 9)) q 17 (t + 8 + 1)
theorem oldX5 {K : Nat → Nat × Nat} {t p : Nat} (h : p < t) : kX5 K t p = K p := by
  unfold kX5
  simp (disch := omega) only [upK_ne, oldX1, oldX0, oldX2, oldX7, oldX9]
theorem rowX5 {R : Nat → Nat → Nat} {q t p : Nat} (h : p ≠ q) (h1 : p < t) : rX5 R q t p = R p := by
  unfold rX5
  simp (disch := omega) only [up2_row, rowX1, rowX0, rowX2, rowX7, rowX9]
theorem frX5 {I : Nat → Nat → Int32} {L : Nat → Nat → Int64} {R : Nat → Nat → Nat} {q t : Nat} (f : Fr I L R t) (hq : q < t) : Fr (iX5 I q t) L (rX5 R q t) (t + 10) := by
  unfold iX5 rX5
  exact ((frX1 (Fr.mono (t' := t + 9) ((((((Fr.mono (t' := t + 8) ((Fr.mono (t' := t + 7) ((Fr.mono (t' := t + 6) ((Fr.mono (t' := t + 5) ((Fr.mono (t' := t + 4) ((Fr.mono (t' := t + 3) ((Fr.mono (t' := t + 2) ((Fr.mono (t' := t + 1) f (Nat.le_succ _)).putR (by omega)) (Nat.le_succ _)).putR (by omega)) (Nat.le_succ _)).putR (by omega)) (Nat.le_succ _)).putR (by omega)) (Nat.le_succ _)).putR (by omega)) (Nat.le_succ _)).putR (by omega)) (Nat.le_succ _)).putR (by omega)) (Nat.le_succ _)).putR (by omega)).putI (by omega)).putI (by omega)).putI (by omega)).putI (by omega)) (Nat.le_succ _)) (by omega)).putR (by omega))
theorem sp_X5_init {S : aS} {K : Nat → Nat × Nat} {I : Nat → Nat → Int32} {L : Nat → Nat → Int64} {R : Nat → Nat → Nat} {q t : Nat} (hK : K q = (1, 5)) (hq : q < t) (ht : 200 ≤ t) (f : Fr I L R t) : SpM S m_X5_init 13 10 327 [.ref q] (K, I, L, R, t) (kX5 K t, iX5 I q t, L, rX5 R q t, t + 10) := by
  refine SpM_of ok_X5_init rfl rfl ?_
  refine a_l0 rfl rfl rfl ?_
  refine a_objinit rfl lX5_3 oi_1 oi_2 rfl rfl ?_
  refine a_l0 rfl rfl rfl ?_
  refine a_s rfl rfl ?_
  refine a_newarr (N := 6) (tg := 0) rfl rfl rfl ar_int (by decide) (by decide) rfl (Nat.ble_eq_true_of_le (by omega)) rfl rfl f.i f.l ?_
  replace f := f.mono (t' := t + 1) (Nat.le_succ _)
  refine a_putq rfl pfX5_9_5 (by first | assumption | (simp (disch := omega) only [upK_self, hK, upK_ne, oldX1, oldX0, oldX2, oldX7, oldX9]) | (simp (disch := omega) only [upK_ne, upK_self, hK, upK_ne, oldX1, oldX0, oldX2, oldX7, oldX9])) ?_
  replace f := f.putR (q := q) (k := 1) (v := t + 1) (by omega)
  refine a_l0 rfl rfl rfl ?_
  refine a_s rfl rfl ?_
  refine a_newarr (N := 6) (tg := 0) rfl rfl rfl ar_int (by decide) (by decide) rfl (Nat.ble_eq_true_of_le (by omega)) rfl rfl f.i f.l ?_
  replace f := f.mono (t' := t + 2) (Nat.le_succ _)
  refine a_putq rfl pfX5_15_5 (by first | assumption | (simp (disch := omega) only [upK_self, hK, upK_ne, oldX1, oldX0, oldX2, oldX7, oldX9]) | (simp (disch := omega) only [upK_ne, upK_self, hK, upK_ne, oldX1, oldX0, oldX2, oldX7, oldX9])) ?_
  replace f := f.putR (q := q) (k := 2) (v := t + 1 + 1) (by omega)
  refine a_l0 rfl rfl rfl ?_
  refine a_s rfl rfl ?_
  refine a_newarr (N := 12) (tg := 0) rfl rfl rfl ar_int (by decide) (by decide) rfl (Nat.ble_eq_true_of_le (by omega)) rfl rfl f.i f.l ?_
  replace f := f.mono (t' := t + 3) (Nat.le_succ _)
  refine a_putq rfl pfX5_18_5 (by first | assumption | (simp (disch := omega) only [upK_self, hK, upK_ne, oldX1, oldX0, oldX2, oldX7, oldX9]) | (simp (disch := omega) only [upK_ne, upK_self, hK, upK_ne, oldX1, oldX0, oldX2, oldX7, oldX9])) ?_
  replace f := f.putR (q := q) (k := 4) (v := t + 2 + 1) (by omega)
  refine a_l0 rfl rfl rfl ?_
  refine a_s rfl rfl ?_
  refine a_newarr (N := 12) (tg := 0) rfl rfl rfl ar_int (by decide) (by decide) rfl (Nat.ble_eq_true_of_le (by omega)) rfl rfl f.i f.l ?_
  replace f := f.mono (t' := t + 4) (Nat.le_succ _)
  refine a_putq rfl pfX5_21_5 (by first | assumption | (simp (disch := omega) only [upK_self, hK, upK_ne, oldX1, oldX0, oldX2, oldX7, oldX9]) | (simp (disch := omega) only [upK_ne, upK_self, hK, upK_ne, oldX1, oldX0, oldX2, oldX7, oldX9])) ?_
  replace f := f.putR (q := q) (k := 5) (v := t + 3 + 1) (by omega)
  refine a_l0 rfl rfl rfl ?_
  refine a_s rfl rfl ?_
  refine a_newarr (N := 12) (tg := 0) rfl rfl rfl ar_int (by decide) (by decide) rfl (Nat.ble_eq_true_of_le (by omega)) rfl rfl f.i f.l ?_
  replace f := f.mono (t' := t + 5) (Nat.le_succ _)
  refine a_putq rfl pfX5_24_5 (by first | assumption | (simp (disch := omega) only [upK_self, hK, upK_ne, oldX1, oldX0, oldX2, oldX7, oldX9]) | (simp (disch := omega) only [upK_ne, upK_self, hK, upK_ne, oldX1, oldX0, oldX2, oldX7, oldX9])) ?_
  replace f := f.putR (q := q) (k := 6) (v := t + 4 + 1) (by omega)
  refine a_l0 rfl rfl rfl ?_
  refine a_s rfl rfl ?_
  refine a_newarr (N := 12) (tg := 0) rfl rfl rfl ar_int (by decide) (by decide) rfl (Nat.ble_eq_true_of_le (by omega)) rfl rfl f.i f.l ?_
  replace f := f.mono (t' := t + 6) (Nat.le_succ _)
  refine a_putq rfl pfX5_27_5 (by first | assumption | (simp (disch := omega) only [upK_self, hK, upK_ne, oldX1, oldX0, oldX2, oldX7, oldX9]) | (simp (disch := omega) only [upK_ne, upK_self, hK, upK_ne, oldX1, oldX0, oldX2, oldX7, oldX9])) ?_
  replace f := f.putR (q := q) (k := 7) (v := t + 5 + 1) (by omega)
  refine a_l0 rfl rfl rfl ?_
  refine a_s rfl rfl ?_
  refine a_newarr (N := 12) (tg := 0) rfl rfl rfl ar_int (by decide) (by decide) rfl (Nat.ble_eq_true_of_le (by omega)) rfl rfl f.i f.l ?_
  replace f := f.mono (t' := t + 7) (Nat.le_succ _)
  refine a_putq rfl pfX5_30_5 (by first | assumption | (simp (disch := omega) only [upK_self, hK, upK_ne, oldX1, oldX0, oldX2, oldX7, oldX9]) | (simp (disch := omega) only [upK_ne, upK_self, hK, upK_ne, oldX1, oldX0, oldX2, oldX7, oldX9])) ?_
  replace f := f.putR (q := q) (k := 8) (v := t + 6 + 1) (by omega)
  refine a_l0 rfl rfl rfl ?_
  refine a_s rfl rfl ?_
  refine a_newarr (N := 12) (tg := 0) rfl rfl rfl ar_int (by decide) (by decide) rfl (Nat.ble_eq_true_of_le (by omega)) rfl rfl f.i f.l ?_
  replace f := f.mono (t' := t + 8) (Nat.le_succ _)
  refine a_putq rfl pfX5_33_5 (by first | assumption | (simp (disch := omega) only [upK_self, hK, upK_ne, oldX1, oldX0, oldX2, oldX7, oldX9]) | (simp (disch := omega) only [upK_ne, upK_self, hK, upK_ne, oldX1, oldX0, oldX2, oldX7, oldX9])) ?_
  replace f := f.putR (q := q) (k := 9) (v := t + 7 + 1) (by omega)
  refine a_l0 rfl rfl rfl ?_
  refine a_s rfl rfl ?_
  refine a_puti rfl pfX5_36_5 (by first | assumption | (simp (disch := omega) only [upK_self, hK, upK_ne, oldX1, oldX0, oldX2, oldX7, oldX9]) | (simp (disch := omega) only [upK_ne, upK_self, hK, upK_ne, oldX1, oldX0, oldX2, oldX7, oldX9])) ?_
  replace f := f.putI (q := q) (k := 10) (v := 1) (by omega)
  refine a_l0 rfl rfl rfl ?_
  refine a_s rfl rfl ?_
  refine a_puti rfl pfX5_40_5 (by first | assumption | (simp (disch := omega) only [upK_self, hK, upK_ne, oldX1, oldX0, oldX2, oldX7, oldX9]) | (simp (disch := omega) only [upK_ne, upK_self, hK, upK_ne, oldX1, oldX0, oldX2, oldX7, oldX9])) ?_
  replace f := f.putI (q := q) (k := 13) (v := 2) (by omega)
  refine a_l0 rfl rfl rfl ?_
  refine a_s rfl rfl ?_
  refine a_puti rfl pfX5_43_5 (by first | assumption | (simp (disch := omega) only [upK_self, hK, upK_ne, oldX1, oldX0, oldX2, oldX7, oldX9]) | (simp (disch := omega) only [upK_ne, upK_self, hK, upK_ne, oldX1, oldX0, oldX2, oldX7, oldX9])) ?_
  replace f := f.putI (q := q) (k := 14) (v := 3) (by omega)
  refine a_l0 rfl rfl rfl ?_
  refine a_s rfl rfl ?_
  refine a_puti rfl pfX5_46_5 (by first | assumption | (simp (disch := omega) only [upK_self, hK, upK_ne, oldX1, oldX0, oldX2, oldX7, oldX9]) | (simp (disch := omega) only [upK_ne, upK_self, hK, upK_ne, oldX1, oldX0, oldX2, oldX7, oldX9])) ?_
  replace f := f.putI (q := q) (k := 15) (v := 1) (by omega)
  refine a_l0 rfl rfl rfl ?_
  refine a_new rfl nX5_49 (Nat.ble_eq_true_of_le (by omega)) rfl rfl f.i f.r ?_
  replace f := f.mono (t' := t + 9) (Nat.le_succ _)
  refine a_s rfl rfl ?_
  refine a_mIN rfl lX5_51 mo_X1_init (sp_X1_init (by first | assumption | (simp (disch := omega) only [upK_self, hK, upK_ne, oldX1, oldX0, oldX2, oldX7, oldX9]) | (simp (disch := omega) only [upK_ne, upK_self, hK, upK_ne, oldX1, oldX0, oldX2, oldX7, oldX9])) (by omega) (by omega) f) rfl rfl rfl rfl ?_
  replace f := frX1 (q := t + 8) f (by omega)
  refine a_putq rfl pfX5_52_5 (by first | assumption | (simp (disch := omega) only [upK_self, hK, upK_ne, oldX1, oldX0, oldX2, oldX7, oldX9]) | (simp (disch := omega) only [upK_ne, upK_self, hK, upK_ne, oldX1, oldX0, oldX2, oldX7, oldX9])) ?_
  replace f := f.putR (q := q) (k := 17) (v := t + 8 + 1) (by omega)
  exact a_vret rfl rfl ⟨rfl, rfl⟩
def kX8_3 (K : Nat → Nat × Nat) (t : Nat) : Nat → Nat × Nat := kX9 (upK K t (1, 9)) (t + 1)
def iX8_3 (I : Nat → Nat → Int32) (q : Nat) (t : Nat) (n : Int32) : Nat → Nat → Int32 := up2 (iX9 I t (t + 1)) q 1 n
def rX8_3 (R : Nat → Nat → Nat) (q : Nat) (t : Nat) : Nat → Nat → Nat := up2 (rX9 R t (t + 1)) q 0 (t + 1)
theorem oldX8_3 {K : Nat → Nat × Nat} {t p : Nat} (h : p < t) : kX8_3 K t p = K p := by
  unfold kX8_3
  simp (disch := omega) only [upK_ne, oldX1, oldX0, oldX2, oldX7, oldX9, oldX5]
theorem rowX8_3 {R : Nat → Nat → Nat} {q t p : Nat} (h : p ≠ q) (h1 : p < t) : rX8_3 R q t p = R p := by
  unfold rX8_3
  simp (disch := omega) only [up2_row, rowX1, rowX0, rowX2, rowX7, rowX9, rowX5]
theorem frX8_3 {I : Nat → Nat → Int32} {L : Nat → Nat → Int64} {R : Nat → Nat → Nat} {q t : Nat} {n : Int32} (f : Fr I L R t) (hq : q < t) : Fr (iX8_3 I q t n) L (rX8_3 R q t) (t + 5) := by
  unfold iX8_3 rX8_3
  exact (((frX9 (Fr.mono (t' := t + 1) f (Nat.le_succ _)) (by omega)).putR (by omega)).putI (by omega))
theorem sp_X8_3_init {S : aS} {K : Nat → Nat × Nat} {I : Nat → Nat → Int32} {L : Nat → Nat → Int64} {R : Nat → Nat → Nat} {q t : Nat} {n : Int32} (hK : K q = (1, 3)) (hq : q < t) (ht : 200 ≤ t) (f : Fr I L R t) : SpM S m_X8_init 13 5 1614 [.ref q, .int n] (K, I, L, R, t) (kX8_3 K t, iX8_3 I q t n, L, rX8_3 R q t, t + 5) := by
  refine SpM_of ok_X8_init rfl rfl ?_
  refine a_l0 rfl rfl rfl ?_
  refine a_objinit rfl lX8_3 oi_1 oi_2 rfl rfl ?_
  refine a_l0 rfl rfl rfl ?_
  refine a_new rfl nX8_9 (Nat.ble_eq_true_of_le (by omega)) rfl rfl f.i f.r ?_
  replace f := f.mono (t' := t + 1) (Nat.le_succ _)
  refine a_s rfl rfl ?_
  refine a_mIN rfl lX8_11 mo_X9_init (sp_X9_init (by first | assumption | (simp (disch := omega) only [upK_self, hK, upK_ne, oldX1, oldX0, oldX2, oldX7, oldX9, oldX5]) | (simp (disch := omega) only [upK_ne, upK_self, hK, upK_ne, oldX1, oldX0, oldX2, oldX7, oldX9, oldX5])) (by omega) (by omega) f) rfl rfl rfl rfl ?_
  replace f := frX9 (q := t) f (by omega)
  refine a_putq rfl pfX8_12_3 (by first | assumption | (simp (disch := omega) only [upK_self, hK, upK_ne, oldX1, oldX0, oldX2, oldX7, oldX9, oldX5]) | (simp (disch := omega) only [upK_ne, upK_self, hK, upK_ne, oldX1, oldX0, oldX2, oldX7, oldX9, oldX5])) ?_
  replace f := f.putR (q := q) (k := 0) (v := t + 1) (by omega)
  refine a_l0 rfl rfl rfl ?_
  refine a_l1 rfl rfl rfl ?_
  refine a_puti rfl pfX8_18_3 (by first | assumption | (simp (disch := omega) only [upK_self, hK, upK_ne, oldX1, oldX0, oldX2, oldX7, oldX9, oldX5]) | (simp (disch := omega) only [upK_ne, upK_self, hK, upK_ne, oldX1, oldX0, oldX2, oldX7, oldX9, oldX5])) ?_
  replace f := f.putI (q := q) (k := 1) (v := n) (by omega)
  exact a_vret rfl rfl ⟨rfl, rfl⟩
def kX8_6 (K : Nat → Nat × Nat) (t : Nat) : Nat → Nat × Nat := kX9 (upK K t (1, 9)) (t + 1)
def iX8_6 (I : Nat → Nat → Int32) (q : Nat) (t : Nat) (n : Int32) : Nat → Nat → Int32 := up2 (iX9 I t (t + 1)) q 1 n
def rX8_6 (R : Nat → Nat → Nat) (q : Nat) (t : Nat) : Nat → Nat → Nat := up2 (rX9 R t (t + 1)) q 0 (t + 1)
theorem oldX8_6 {K : Nat → Nat × Nat} {t p : Nat} (h : p < t) : kX8_6 K t p = K p := by
  unfold kX8_6
  simp (disch := omega) only [upK_ne, oldX1, oldX0, oldX2, oldX7, oldX9, oldX5, oldX8_3]
theorem rowX8_6 {R : Nat → Nat → Nat} {q t p : Nat} (h : p ≠ q) (h1 : p < t) : rX8_6 R q t p = R p := by
  unfold rX8_6
  simp (disch := omega) only [up2_row, rowX1, rowX0, rowX2, rowX7, rowX9, rowX5, rowX8_3]
theorem frX8_6 {I : Nat → Nat → Int32} {L : Nat → Nat → Int64} {R : Nat → Nat → Nat} {q t : Nat} {n : Int32} (f : Fr I L R t) (hq : q < t) : Fr (iX8_6 I q t n) L (rX8_6 R q t) (t + 5) := by
  unfold iX8_6 rX8_6
  exact (((frX9 (Fr.mono (t' := t + 1) f (Nat.le_succ _)) (by omega)).putR (by omega)).putI (by omega))
theorem sp_X8_6_init {S : aS} {K : Nat → Nat × Nat} {I : Nat → Nat → Int32} {L : Nat → Nat → Int64} {R : Nat → Nat → Nat} {q t : Nat} {n : Int32} (hK : K q = (1, 6)) (hq : q < t) (ht : 200 ≤ t) (f : Fr I L R t) : SpM S m_X8_init 13 5 1614 [.ref q, .int n] (K, I, L, R, t) (kX8_6 K t, iX8_6 I q t n, L, rX8_6 R q t, t + 5) := by
  refine SpM_of ok_X8_init rfl rfl ?_
  refine a_l0 rfl rfl rfl ?_
  refine a_objinit rfl lX8_3 oi_1 oi_2 rfl rfl ?_
  refine a_l0 rfl rfl rfl ?_
  refine a_new rfl nX8_9 (Nat.ble_eq_true_of_le (by omega)) rfl rfl f.i f.r ?_
  replace f := f.mono (t' := t + 1) (Nat.le_succ _)
  refine a_s rfl rfl ?_
  refine a_mIN rfl lX8_11 mo_X9_init (sp_X9_init (by first | assumption | (simp (disch := omega) only [upK_self, hK, upK_ne, oldX1, oldX0, oldX2, oldX7, oldX9, oldX5, oldX8_3]) | (simp (disch := omega) only [upK_ne, upK_self, hK, upK_ne, oldX1, oldX0, oldX2, oldX7, oldX9, oldX5, oldX8_3])) (by omega) (by omega) f) rfl rfl rfl rfl ?_
  replace f := frX9 (q := t) f (by omega)
  refine a_putq rfl pfX8_12_6 (by first | assumption | (simp (disch := omega) only [upK_self, hK, upK_ne, oldX1, oldX0, oldX2, oldX7, oldX9, oldX5, oldX8_3]) | (simp (disch := omega) only [upK_ne, upK_self, hK, upK_ne, oldX1, oldX0, oldX2, oldX7, oldX9, oldX5, oldX8_3])) ?_
  replace f := f.putR (q := q) (k := 0) (v := t + 1) (by omega)
  refine a_l0 rfl rfl rfl ?_
  refine a_l1 rfl rfl rfl ?_
  refine a_puti rfl pfX8_18_6 (by first | assumption | (simp (disch := omega) only [upK_self, hK, upK_ne, oldX1, oldX0, oldX2, oldX7, oldX9, oldX5, oldX8_3]) | (simp (disch := omega) only [upK_ne, upK_self, hK, upK_ne, oldX1, oldX0, oldX2, oldX7, oldX9, oldX5, oldX8_3])) ?_
  replace f := f.putI (q := q) (k := 1) (v := n) (by omega)
  exact a_vret rfl rfl ⟨rfl, rfl⟩
def kX6 (K : Nat → Nat × Nat) (t : Nat) : Nat → Nat × Nat := kX5 (upK (kX8_6 K t) (t + 5) (1, 5)) (t + 6)
def iX6 (I : Nat → Nat → Int32) (q : Nat) (t : Nat) : Nat → Nat → Int32 := iX5 (iX8_6 I q t 14) (t + 5) (t + 6)
def rX6 (R : Nat → Nat → Nat) (q : Nat) (t : Nat) : Nat → Nat → Nat := up2 (rX5 (rX8_6 R q t) (t + 5) (t + 6)) q 2 (t + 5 + 1)
theorem oldX6 {K : Nat → Nat × Nat} {t p : Nat} (h : p < t) : kX6 K t p = K p := by
  unfold kX6
  simp (disch := omega) only [upK_ne, oldX1, oldX0, oldX2, oldX7, oldX9, oldX5, oldX8_3, oldX8_6]
theorem rowX6 {R : Nat → Nat → Nat} {q t p : Nat} (h : p ≠ q) (h1 : p < t) : rX6 R q t p = R p := by
  unfold rX6
  simp (disch := omega) only [up2_row, rowX1, rowX0, rowX2, rowX7, rowX9, rowX5, rowX8_3, rowX8_6]
theorem frX6 {I : Nat → Nat → Int32} {L : Nat → Nat → Int64} {R : Nat → Nat → Nat} {q t : Nat} (f : Fr I L R t) (hq : q < t) : Fr (iX6 I q t) L (rX6 R q t) (t + 16) := by
  unfold iX6 rX6
  exact ((frX5 (Fr.mono (t' := t + 6) (frX8_6 f (by omega)) (Nat.le_succ _)) (by omega)).putR (by omega))
theorem sp_X6_init {S : aS} {K : Nat → Nat × Nat} {I : Nat → Nat → Int32} {L : Nat → Nat → Int64} {R : Nat → Nat → Nat} {q t : Nat} (hK : K q = (1, 6)) (hq : q < t) (ht : 200 ≤ t) (f : Fr I L R t) : SpM S m_X6_init 14 16 1959 [.ref q] (K, I, L, R, t) (kX6 K t, iX6 I q t, L, rX6 R q t, t + 16) := by
  refine SpM_of ok_X6_init rfl rfl ?_
  refine a_l0 rfl rfl rfl ?_
  refine a_s rfl rfl ?_
  refine a_mI rfl lX6_5 mo_X8_init (sp_X8_6_init (n := 14) (by first | assumption | (simp (disch := omega) only [upK_self, hK, upK_ne, oldX1, oldX0, oldX2, oldX7, oldX9, oldX5, oldX8_3, oldX8_6]) | (simp (disch := omega) only [upK_ne, upK_self, hK, upK_ne, oldX1, oldX0, oldX2, oldX7, oldX9, oldX5, oldX8_3, oldX8_6])) (by omega) (by omega) f) rfl rfl rfl rfl ?_
  replace f := frX8_6 (q := q) (n := 14) f (by omega)
  refine a_l0 rfl rfl rfl ?_
  refine a_new rfl nX6_11 (Nat.ble_eq_true_of_le (by omega)) rfl rfl f.i f.r ?_
  replace f := f.mono (t' := t + 6) (Nat.le_succ _)
  refine a_s rfl rfl ?_
  refine a_mIN rfl lX6_13 mo_X5_init (sp_X5_init (by first | assumption | (simp (disch := omega) only [upK_self, hK, upK_ne, oldX1, oldX0, oldX2, oldX7, oldX9, oldX5, oldX8_3, oldX8_6]) | (simp (disch := omega) only [upK_ne, upK_self, hK, upK_ne, oldX1, oldX0, oldX2, oldX7, oldX9, oldX5, oldX8_3, oldX8_6])) (by omega) (by omega) f) rfl rfl rfl rfl ?_
  replace f := frX5 (q := t + 5) f (by omega)
  refine a_putq rfl pfX6_16_6 (by first | assumption | (simp (disch := omega) only [upK_self, hK, upK_ne, oldX1, oldX0, oldX2, oldX7, oldX9, oldX5, oldX8_3, oldX8_6]) | (simp (disch := omega) only [upK_ne, upK_self, hK, upK_ne, oldX1, oldX0, oldX2, oldX7, oldX9, oldX5, oldX8_3, oldX8_6])) ?_
  replace f := f.putR (q := q) (k := 2) (v := t + 5 + 1) (by omega)
  exact a_vret rfl rfl ⟨rfl, rfl⟩
def kX3 (K : Nat → Nat × Nat) (t : Nat) : Nat → Nat × Nat := upK (kX2 (upK (kX8_3 K t) (t + 5) (1, 2)) (t + 6)) (t + 13) (2, 32)
def iX3 (I : Nat → Nat → Int32) (q : Nat) (t : Nat) : Nat → Nat → Int32 := iX2 (iX8_3 I q t 12) (t + 5) (t + 6)
def rX3 (R : Nat → Nat → Nat) (q : Nat) (t : Nat) : Nat → Nat → Nat := up2 (up2 (rX2 (rX8_3 R q t) (t + 5) (t + 6)) q 2 (t + 5 + 1)) q 3 (t + 13 + 1)
theorem oldX3 {K : Nat → Nat × Nat} {t p : Nat} (h : p < t) : kX3 K t p = K p := by
  unfold kX3
  simp (disch := omega) only [upK_ne, oldX1, oldX0, oldX2, oldX7, oldX9, oldX5, oldX8_3, oldX8_6, oldX6]
theorem rowX3 {R : Nat → Nat → Nat} {q t p : Nat} (h : p ≠ q) (h1 : p < t) : rX3 R q t p = R p := by
  unfold rX3
  simp (disch := omega) only [up2_row, rowX1, rowX0, rowX2, rowX7, rowX9, rowX5, rowX8_3, rowX8_6, rowX6]
theorem frX3 {I : Nat → Nat → Int32} {L : Nat → Nat → Int64} {R : Nat → Nat → Nat} {q t : Nat} (f : Fr I L R t) (hq : q < t) : Fr (iX3 I q t) L (rX3 R q t) (t + 14) := by
  unfold iX3 rX3
  exact ((Fr.mono (t' := t + 14) ((frX2 (Fr.mono (t' := t + 6) (frX8_3 f (by omega)) (Nat.le_succ _)) (by omega)).putR (by omega)) (Nat.le_succ _)).putR (by omega))
theorem sp_X3_init {S : aS} {K : Nat → Nat × Nat} {I : Nat → Nat → Int32} {L : Nat → Nat → Int64} {R : Nat → Nat → Nat} {q t : Nat} (hK : K q = (1, 3)) (hq : q < t) (ht : 200 ≤ t) (f : Fr I L R t) : SpM S m_X3_init 14 14 2144 [.ref q] (K, I, L, R, t) (kX3 K t, iX3 I q t, L, rX3 R q t, t + 14) := by
  refine SpM_of ok_X3_init rfl rfl ?_
  refine a_l0 rfl rfl rfl ?_
  refine a_s rfl rfl ?_
  refine a_mI rfl lX3_5 mo_X8_init (sp_X8_3_init (n := 12) (by first | assumption | (simp (disch := omega) only [upK_self, hK, upK_ne, oldX1, oldX0, oldX2, oldX7, oldX9, oldX5, oldX8_3, oldX8_6, oldX6]) | (simp (disch := omega) only [upK_ne, upK_self, hK, upK_ne, oldX1, oldX0, oldX2, oldX7, oldX9, oldX5, oldX8_3, oldX8_6, oldX6])) (by omega) (by omega) f) rfl rfl rfl rfl ?_
  replace f := frX8_3 (q := q) (n := 12) f (by omega)
  refine a_l0 rfl rfl rfl ?_
  refine a_new rfl nX3_1 (Nat.ble_eq_true_of_le (by omega)) rfl rfl f.i f.r ?_
  replace f := f.mono (t' := t + 6) (Nat.le_succ _)
  refine a_s rfl rfl ?_
  refine a_mIN rfl lX3_11 mo_X2_init (sp_X2_init (by first | assumption | (simp (disch := omega) only [upK_self, hK, upK_ne, oldX1, oldX0, oldX2, oldX7, oldX9, oldX5, oldX8_3, oldX8_6, oldX6]) | (simp (disch := omega) only [upK_ne, upK_self, hK, upK_ne, oldX1, oldX0, oldX2, oldX7, oldX9, oldX5, oldX8_3, oldX8_6, oldX6])) (by omega) (by omega) f) rfl rfl rfl rfl ?_
  replace f := frX2 (q := t + 5) f (by omega)
  refine a_putq rfl pfX3_14_3 (by first | assumption | (simp (disch := omega) only [upK_self, hK, upK_ne, oldX1, oldX0, oldX2, oldX7, oldX9, oldX5, oldX8_3, oldX8_6, oldX6]) | (simp (disch := omega) only [upK_ne, upK_self, hK, upK_ne, oldX1, oldX0, oldX2, oldX7, oldX9, oldX5, oldX8_3, oldX8_6, oldX6])) ?_
  replace f := f.putR (q := q) (k := 2) (v := t + 5 + 1) (by omega)
  refine a_l0 rfl rfl rfl ?_
  refine a_s rfl rfl ?_
  refine a_newarr (N := 32) (tg := 0) rfl rfl rfl ar_int (by decide) (by decide) rfl (Nat.ble_eq_true_of_le (by omega)) rfl rfl f.i f.l ?_
  replace f := f.mono (t' := t + 14) (Nat.le_succ _)
  refine a_putq rfl pfX3_20_3 (by first | assumption | (simp (disch := omega) only [upK_self, hK, upK_ne, oldX1, oldX0, oldX2, oldX7, oldX9, oldX5, oldX8_3, oldX8_6, oldX6]) | (simp (disch := omega) only [upK_ne, upK_self, hK, upK_ne, oldX1, oldX0, oldX2, oldX7, oldX9, oldX5, oldX8_3, oldX8_6, oldX6])) ?_
  replace f := f.putR (q := q) (k := 3) (v := t + 13 + 1) (by omega)
  exact a_vret rfl rfl ⟨rfl, rfl⟩
end
section
/-! ===== making the two roots, at their places (printed by program) ===== -/
set_option maxRecDepth 100000
def kX11 (K : Nat → Nat × Nat) : Nat → Nat × Nat := kX5 (upK (kX5 (upK (kX5 (upK (kX5 (upK (kX5 (upK (kX5 (upK (kX5 (upK (kX5 (upK (kX5 (upK (kX5 (upK (kX5 (upK (kX5 (upK (upK (kX2 (upK (kX5 (upK (kX5 (upK (kX0 (upK (kX2 (upK (kX5 (upK (kX3 (upK (kX6 (upK (kX7 (upK K 201 (1, 7)) 202) 203 (1, 6)) 204) 220 (1, 3)) 221) 235 (1, 5)) 236) 246 (1, 2)) 247) 254 (1, 0)) 255) 257 (1, 5)) 258) 268 (1, 5)) 269) 279 (1, 2)) 280) 287 (5, 12)) 288 (1, 5)) 289) 299 (1, 5)) 300) 310 (1, 5)) 311) 321 (1, 5)) 322) 332 (1, 5)) 333) 343 (1, 5)) 344) 354 (1, 5)) 355) 365 (1, 5)) 366) 376 (1, 5)) 377) 387 (1, 5)) 388) 398 (1, 5)) 399) 409 (1, 5)) 410
def iX11 (I : Nat → Nat → Int32) : Nat → Nat → Int32 := iX5 (iX5 (iX5 (iX5 (iX5 (iX5 (iX5 (iX5 (iX5 (iX5 (iX5 (iX5 (iX2 (iX5 (iX5 (iX0 (iX2 (iX5 (up2 (iX3 (iX6 (iX7 I 201 202) 203 204) 220 221) 200 3 (-1)) 235 236) 246 247) 254 255) 257 258) 268 269) 279 280) 288 289) 299 300) 310 311) 321 322) 332 333) 343 344) 354 355) 365 366) 376 377) 387 388) 398 399) 409 410
def rX11 (R : Nat → Nat → Nat) : Nat → Nat → Nat := up2 (rX5 (up2 (rX5 (up2 (rX5 (up2 (rX5 (up2 (rX5 (up2 (rX5 (up2 (rX5 (up2 (rX5 (up2 (rX5 (up2 (rX5 (up2 (rX5 (up2 (rX5 (up2 (up2 (rX2 (up2 (rX5 (up2 (rX5 (up2 (rX0 (up2 (rX2 (up2 (rX5 (up2 (rX3 (up2 (rX6 (up2 (rX7 R 201 202) 200 0 (201 + 1)) 203 204) 200 1 (203 + 1)) 220 221) 200 2 (220 + 1)) 235 236) 200 4 (235 + 1)) 246 247) 200 5 (246 + 1)) 254 255) 200 6 (254 + 1)) 257 258) 200 7 (257 + 1)) 268 269) 200 8 (268 + 1)) 279 280) 200 9 (279 + 1)) 200 11 (287 + 1)) 288 289) 287 0 (288 + 1)) 299 300) 287 1 (299 + 1)) 310 311) 287 2 (310 + 1)) 321 322) 287 3 (321 + 1)) 332 333) 287 4 (332 + 1)) 343 344) 287 5 (343 + 1)) 354 355) 287 6 (354 + 1)) 365 366) 287 7 (365 + 1)) 376 377) 287 8 (376 + 1)) 387 388) 287 9 (387 + 1)) 398 399) 287 10 (398 + 1)) 409 410) 287 11 (409 + 1)
theorem oldX11 {K : Nat → Nat × Nat} {p : Nat} (h : p < 201) : kX11 K p = K p := by
  unfold kX11
  simp (disch := omega) only [upK_ne, oldX1, oldX0, oldX2, oldX7, oldX9, oldX5, oldX8_3, oldX8_6, oldX6, oldX3]
theorem frX11 {I : Nat → Nat → Int32} {L : Nat → Nat → Int64} {R : Nat → Nat → Nat} {z : Nat} (f : Fr I L R 201) : Fr (iX11 I) L (rX11 R) 420 := by
  unfold iX11 rX11
  exact ((frX5 (Fr.mono (t' := 410) ((frX5 (Fr.mono (t' := 399) ((frX5 (Fr.mono (t' := 388) ((frX5 (Fr.mono (t' := 377) ((frX5 (Fr.mono (t' := 366) ((frX5 (Fr.mono (t' := 355) ((frX5 (Fr.mono (t' := 344) ((frX5 (Fr.mono (t' := 333) ((frX5 (Fr.mono (t' := 322) ((frX5 (Fr.mono (t' := 311) ((frX5 (Fr.mono (t' := 300) ((frX5 (Fr.mono (t' := 289) ((Fr.mono (t' := 288) ((frX2 (Fr.mono (t' := 280) ((frX5 (Fr.mono (t' := 269) ((frX5 (Fr.mono (t' := 258) ((frX0 (Fr.mono (t' := 255) ((frX2 (Fr.mono (t' := 247) ((frX5 (Fr.mono (t' := 236) (((frX3 (Fr.mono (t' := 221) ((frX6 (Fr.mono (t' := 204) ((frX7 (Fr.mono (t' := 202) f (Nat.le_succ _)) (by decide)).putR (by decide)) (Nat.le_succ _)) (by decide)).putR (by decide)) (Nat.le_succ _)) (by decide)).putR (by decide)).putI (by decide)) (Nat.le_succ _)) (by decide)).putR (by decide)) (Nat.le_succ _)) (by decide)).putR (by decide)) (Nat.le_succ _)) (by decide)).putR (by decide)) (Nat.le_succ _)) (by decide)).putR (by decide)) (Nat.le_succ _)) (by decide)).putR (by decide)) (Nat.le_succ _)) (by decide)).putR (by decide)) (Nat.le_succ _)).putR (by decide)) (Nat.le_succ _)) (by decide)).putR (by decide)) (Nat.le_succ _)) (by decide)).putR (by decide)) (Nat.le_succ _)) (by decide)).putR (by decide)) (Nat.le_succ _)) (by decide)).putR (by decide)) (Nat.le_succ _)) (by decide)).putR (by decide)) (Nat.le_succ _)) (by decide)).putR (by decide)) (Nat.le_succ _)) (by decide)).putR (by decide)) (Nat.le_succ _)) (by decide)).putR (by decide)) (Nat.le_succ _)) (by decide)).putR (by decide)) (Nat.le_succ _)) (by decide)).putR (by decide)) (Nat.le_succ _)) (by decide)).putR (by decide)) (Nat.le_succ _)) (by decide)).putR (by decide))
theorem sp_X11_init {S : aS} {K : Nat → Nat × Nat} {I : Nat → Nat → Int32} {L : Nat → Nat → Int64} {R : Nat → Nat → Nat} (hK : K 200 = (1, 11)) (f : Fr I L R 201) : SpM S m_X11_init 15 219 10723 [.ref 200] (K, I, L, R, 201) (kX11 K, iX11 I, L, rX11 R, 420) := by
  refine SpM_of ok_X11_init rfl rfl ?_
  refine a_l0 rfl rfl rfl ?_
  refine a_objinit rfl lX11_1 oi_1 oi_2 rfl rfl ?_
  refine a_l0 rfl rfl rfl ?_
  refine a_new rfl nX11_7 rfl rfl rfl f.i f.r ?_
  replace f := f.mono (t' := 202) (Nat.le_succ _)
  refine a_s rfl rfl ?_
  refine a_mIN rfl lX11_9 mo_X7_init (sp_X7_init (by first | assumption | (simp (disch := omega) only [upK_self, hK, upK_ne, oldX1, oldX0, oldX2, oldX7, oldX9, oldX5, oldX8_3, oldX8_6, oldX6, oldX3]) | (simp (disch := omega) only [upK_ne, upK_self, hK, upK_ne, oldX1, oldX0, oldX2, oldX7, oldX9, oldX5, oldX8_3, oldX8_6, oldX6, oldX3])) (by decide) (by decide) f) rfl rfl rfl rfl ?_
  replace f := frX7 (q := 201) f (by decide)
  refine a_putq rfl pfX11_10_11 (by first | assumption | (simp (disch := omega) only [upK_self, hK, upK_ne, oldX1, oldX0, oldX2, oldX7, oldX9, oldX5, oldX8_3, oldX8_6, oldX6, oldX3]) | (simp (disch := omega) only [upK_ne, upK_self, hK, upK_ne, oldX1, oldX0, oldX2, oldX7, oldX9, oldX5, oldX8_3, oldX8_6, oldX6, oldX3])) ?_
  replace f := f.putR (q := 200) (k := 0) (v := 201 + 1) (by decide)
  refine a_l0 rfl rfl rfl ?_
  refine a_new rfl nX11_16 rfl rfl rfl f.i f.r ?_
  replace f := f.mono (t' := 204) (Nat.le_succ _)
  refine a_s rfl rfl ?_
  refine a_mI rfl lX11_18 mo_X6_init (sp_X6_init (by first | assumption | (simp (disch := omega) only [upK_self, hK, upK_ne, oldX1, oldX0, oldX2, oldX7, oldX9, oldX5, oldX8_3, oldX8_6, oldX6, oldX3]) | (simp (disch := omega) only [upK_ne, upK_self, hK, upK_ne, oldX1, oldX0, oldX2, oldX7, oldX9, oldX5, oldX8_3, oldX8_6, oldX6, oldX3])) (by decide) (by decide) f) rfl rfl rfl rfl ?_
  replace f := frX6 (q := 203) f (by decide)
  refine a_putq rfl pfX11_19_11 (by first | assumption | (simp (disch := omega) only [upK_self, hK, upK_ne, oldX1, oldX0, oldX2, oldX7, oldX9, oldX5, oldX8_3, oldX8_6, oldX6, oldX3]) | (simp (disch := omega) only [upK_ne, upK_self, hK, upK_ne, oldX1, oldX0, oldX2, oldX7, oldX9, oldX5, oldX8_3, oldX8_6, oldX6, oldX3])) ?_
  replace f := f.putR (q := 200) (k := 1) (v := 203 + 1) (by decide)
  refine a_l0 rfl rfl rfl ?_
  refine a_new rfl nX11_23 rfl rfl rfl f.i f.r ?_
  replace f := f.mono (t' := 221) (Nat.le_succ _)
  refine a_s rfl rfl ?_
  refine a_mI rfl lX11_25 mo_X3_init (sp_X3_init (by first | assumption | (simp (disch := omega) only [upK_self, hK, upK_ne, oldX1, oldX0, oldX2, oldX7, oldX9, oldX5, oldX8_3, oldX8_6, oldX6, oldX3]) | (simp (disch := omega) only [upK_ne, upK_self, hK, upK_ne, oldX1, oldX0, oldX2, oldX7, oldX9, oldX5, oldX8_3, oldX8_6, oldX6, oldX3])) (by decide) (by decide) f) rfl rfl rfl rfl ?_
  replace f := frX3 (q := 220) f (by decide)
  refine a_putq rfl pfX11_26_11 (by first | assumption | (simp (disch := omega) only [upK_self, hK, upK_ne, oldX1, oldX0, oldX2, oldX7, oldX9, oldX5, oldX8_3, oldX8_6, oldX6, oldX3]) | (simp (disch := omega) only [upK_ne, upK_self, hK, upK_ne, oldX1, oldX0, oldX2, oldX7, oldX9, oldX5, oldX8_3, oldX8_6, oldX6, oldX3])) ?_
  replace f := f.putR (q := 200) (k := 2) (v := 220 + 1) (by decide)
  refine a_l0 rfl rfl rfl ?_
  refine a_s rfl rfl ?_
  refine a_puti rfl pfX11_30_11 (by first | assumption | (simp (disch := omega) only [upK_self, hK, upK_ne, oldX1, oldX0, oldX2, oldX7, oldX9, oldX5, oldX8_3, oldX8_6, oldX6, oldX3]) | (simp (disch := omega) only [upK_ne, upK_self, hK, upK_ne, oldX1, oldX0, oldX2, oldX7, oldX9, oldX5, oldX8_3, oldX8_6, oldX6, oldX3])) ?_
  replace f := f.putI (q := 200) (k := 3) (v := (-1)) (by decide)
  refine a_l0 rfl rfl rfl ?_
  refine a_new rfl nX11_34 rfl rfl rfl f.i f.r ?_
  replace f := f.mono (t' := 236) (Nat.le_succ _)
  refine a_s rfl rfl ?_
  refine a_mIN rfl lX11_36 mo_X5_init (sp_X5_init (by first | assumption | (simp (disch := omega) only [upK_self, hK, upK_ne, oldX1, oldX0, oldX2, oldX7, oldX9, oldX5, oldX8_3, oldX8_6, oldX6, oldX3]) | (simp (disch := omega) only [upK_ne, upK_self, hK, upK_ne, oldX1, oldX0, oldX2, oldX7, oldX9, oldX5, oldX8_3, oldX8_6, oldX6, oldX3])) (by decide) (by decide) f) rfl rfl rfl rfl ?_
  replace f := frX5 (q := 235) f (by decide)
  refine a_putq rfl pfX11_37_11 (by first | assumption | (simp (disch := omega) only [upK_self, hK, upK_ne, oldX1, oldX0, oldX2, oldX7, oldX9, oldX5, oldX8_3, oldX8_6, oldX6, oldX3]) | (simp (disch := omega) only [upK_ne, upK_self, hK, upK_ne, oldX1, oldX0, oldX2, oldX7, oldX9, oldX5, oldX8_3, oldX8_6, oldX6, oldX3])) ?_
  replace f := f.putR (q := 200) (k := 4) (v := 235 + 1) (by decide)
  refine a_l0 rfl rfl rfl ?_
  refine a_new rfl nX11_41 rfl rfl rfl f.i f.r ?_
  replace f := f.mono (t' := 247) (Nat.le_succ _)
  refine a_s rfl rfl ?_
  refine a_mIN rfl lX11_43 mo_X2_init (sp_X2_init (by first | assumption | (simp (disch := omega) only [upK_self, hK, upK_ne, oldX1, oldX0, oldX2, oldX7, oldX9, oldX5, oldX8_3, oldX8_6, oldX6, oldX3]) | (simp (disch := omega) only [upK_ne, upK_self, hK, upK_ne, oldX1, oldX0, oldX2, oldX7, oldX9, oldX5, oldX8_3, oldX8_6, oldX6, oldX3])) (by decide) (by decide) f) rfl rfl rfl rfl ?_
  replace f := frX2 (q := 246) f (by decide)
  refine a_putq rfl pfX11_44_11 (by first | assumption | (simp (disch := omega) only [upK_self, hK, upK_ne, oldX1, oldX0, oldX2, oldX7, oldX9, oldX5, oldX8_3, oldX8_6, oldX6, oldX3]) | (simp (disch := omega) only [upK_ne, upK_self, hK, upK_ne, oldX1, oldX0, oldX2, oldX7, oldX9, oldX5, oldX8_3, oldX8_6, oldX6, oldX3])) ?_
  replace f := f.putR (q := 200) (k := 5) (v := 246 + 1) (by decide)
  refine a_l0 rfl rfl rfl ?_
  refine a_new rfl nX11_48 rfl rfl rfl f.i f.r ?_
  replace f := f.mono (t' := 255) (Nat.le_succ _)
  refine a_s rfl rfl ?_
  refine a_mIN rfl lX11_50 mo_X0_init (sp_X0_init (by first | assumption | (simp (disch := omega) only [upK_self, hK, upK_ne, oldX1, oldX0, oldX2, oldX7, oldX9, oldX5, oldX8_3, oldX8_6, oldX6, oldX3]) | (simp (disch := omega) only [upK_ne, upK_self, hK, upK_ne, oldX1, oldX0, oldX2, oldX7, oldX9, oldX5, oldX8_3, oldX8_6, oldX6, oldX3])) (by decide) (by decide) f) rfl rfl rfl rfl ?_
  replace f := frX0 (q := 254) f (by decide)
  refine a_putq rfl pfX11_51_11 (by first | assumption | (simp (disch := omega) only [upK_self, hK, upK_ne, oldX1, oldX0, oldX2, oldX7, oldX9, oldX5, oldX8_3, oldX8_6, oldX6, oldX3]) | (simp (disch := omega) only [upK_ne, upK_self, hK, upK_ne, oldX1, oldX0, oldX2, oldX7, oldX9, oldX5, oldX8_3, oldX8_6, oldX6, oldX3])) ?_
  replace f := f.putR (q := 200) (k := 6) (v := 254 + 1) (by decide)
  refine a_l0 rfl rfl rfl ?_
  refine a_new rfl nX11_34 rfl rfl rfl f.i f.r ?_
  replace f := f.mono (t' := 258) (Nat.le_succ _)
  refine a_s rfl rfl ?_
  refine a_mIN rfl lX11_36 mo_X5_init (sp_X5_init (by first | assumption | (simp (disch := omega) only [upK_self, hK, upK_ne, oldX1, oldX0, oldX2, oldX7, oldX9, oldX5, oldX8_3, oldX8_6, oldX6, oldX3]) | (simp (disch := omega) only [upK_ne, upK_self, hK, upK_ne, oldX1, oldX0, oldX2, oldX7, oldX9, oldX5, oldX8_3, oldX8_6, oldX6, oldX3])) (by decide) (by decide) f) rfl rfl rfl rfl ?_
  replace f := frX5 (q := 257) f (by decide)
  refine a_putq rfl pfX11_55_11 (by first | assumption | (simp (disch := omega) only [upK_self, hK, upK_ne, oldX1, oldX0, oldX2, oldX7, oldX9, oldX5, oldX8_3, oldX8_6, oldX6, oldX3]) | (simp (disch := omega) only [upK_ne, upK_self, hK, upK_ne, oldX1, oldX0, oldX2, oldX7, oldX9, oldX5, oldX8_3, oldX8_6, oldX6, oldX3])) ?_
  replace f := f.putR (q := 200) (k := 7) (v := 257 + 1) (by decide)
  refine a_l0 rfl rfl rfl ?_
  refine a_new rfl nX11_34 rfl rfl rfl f.i f.r ?_
  replace f := f.mono (t' := 269) (Nat.le_succ _)
  refine a_s rfl rfl ?_
  refine a_mIN rfl lX11_36 mo_X5_init (sp_X5_init (by first | assumption | (simp (disch := omega) only [upK_self, hK, upK_ne, oldX1, oldX0, oldX2, oldX7, oldX9, oldX5, oldX8_3, oldX8_6, oldX6, oldX3]) | (simp (disch := omega) only [upK_ne, upK_self, hK, upK_ne, oldX1, oldX0, oldX2, oldX7, oldX9, oldX5, oldX8_3, oldX8_6, oldX6, oldX3])) (by decide) (by decide) f) rfl rfl rfl rfl ?_
  replace f := frX5 (q := 268) f (by decide)
  refine a_putq rfl pfX11_58_11 (by first | assumption | (simp (disch := omega) only [upK_self, hK, upK_ne, oldX1, oldX0, oldX2, oldX7, oldX9, oldX5, oldX8_3, oldX8_6, oldX6, oldX3]) | (simp (disch := omega) only [upK_ne, upK_self, hK, upK_ne, oldX1, oldX0, oldX2, oldX7, oldX9, oldX5, oldX8_3, oldX8_6, oldX6, oldX3])) ?_
  replace f := f.putR (q := 200) (k := 8) (v := 268 + 1) (by decide)
  refine a_l0 rfl rfl rfl ?_
  refine a_new rfl nX11_41 rfl rfl rfl f.i f.r ?_
  replace f := f.mono (t' := 280) (Nat.le_succ _)
  refine a_s rfl rfl ?_
  refine a_mIN rfl lX11_43 mo_X2_init (sp_X2_init (by first | assumption | (simp (disch := omega) only [upK_self, hK, upK_ne, oldX1, oldX0, oldX2, oldX7, oldX9, oldX5, oldX8_3, oldX8_6, oldX6, oldX3]) | (simp (disch := omega) only [upK_ne, upK_self, hK, upK_ne, oldX1, oldX0, oldX2, oldX7, oldX9, oldX5, oldX8_3, oldX8_6, oldX6, oldX3])) (by decide) (by decide) f) rfl rfl rfl rfl ?_
  replace f := frX2 (q := 279) f (by decide)
  refine a_putq rfl pfX11_61_11 (by first | assumption | (simp (disch := omega) only [upK_self, hK, upK_ne, oldX1, oldX0, oldX2, oldX7, oldX9, oldX5, oldX8_3, oldX8_6, oldX6, oldX3]) | (simp (disch := omega) only [upK_ne, upK_self, hK, upK_ne, oldX1, oldX0, oldX2, oldX7, oldX9, oldX5, oldX8_3, oldX8_6, oldX6, oldX3])) ?_
  replace f := f.putR (q := 200) (k := 9) (v := 279 + 1) (by decide)
  refine a_l0 rfl rfl rfl ?_
  refine a_s rfl rfl ?_
  refine a_anew (N := 12) rfl (inC2 (i := 59) rfl rfl) (by decide) (by decide) rfl rfl rfl rfl f.r ?_
  replace f := f.mono (t' := 288) (Nat.le_succ _)
  refine a_putq rfl pfX11_64_11 (by first | assumption | (simp (disch := omega) only [upK_self, hK, upK_ne, oldX1, oldX0, oldX2, oldX7, oldX9, oldX5, oldX8_3, oldX8_6, oldX6, oldX3]) | (simp (disch := omega) only [upK_ne, upK_self, hK, upK_ne, oldX1, oldX0, oldX2, oldX7, oldX9, oldX5, oldX8_3, oldX8_6, oldX6, oldX3])) ?_
  replace f := f.putR (q := 200) (k := 11) (v := 287 + 1) (by decide)
  refine a_s rfl rfl ?_
  refine a_s1 rfl rfl rfl rfl rfl rfl ?_
  refine a_l1 rfl rfl rfl ?_
  refine a_l0 rfl rfl rfl ?_
  refine a_getq (q := 287) rfl gfX11_64_11 (by first | assumption | (simp (disch := omega) only [upK_self, hK, upK_ne, oldX1, oldX0, oldX2, oldX7, oldX9, oldX5, oldX8_3, oldX8_6, oldX6, oldX3]) | (simp (disch := omega) only [upK_ne, upK_self, hK, upK_ne, oldX1, oldX0, oldX2, oldX7, oldX9, oldX5, oldX8_3, oldX8_6, oldX6, oldX3])) (by simp (disch := decide) only [up2_at, up2_ne, up2_row, rowX1, rowX0, rowX2, rowX7, rowX9, rowX5, rowX8_3, rowX8_6, rowX6, rowX3]) ?_
  refine a_len (tt := 3) (n := 12) rfl (by first | assumption | (simp (disch := omega) only [upK_self, hK, upK_ne, oldX1, oldX0, oldX2, oldX7, oldX9, oldX5, oldX8_3, oldX8_6, oldX6, oldX3]) | (simp (disch := omega) only [upK_ne, upK_self, hK, upK_ne, oldX1, oldX0, oldX2, oldX7, oldX9, oldX5, oldX8_3, oldX8_6, oldX6, oldX3])) rfl rfl ?_
  refine a_ic_ge rfl (fun c => absurd c (by decide)) (fun c => ?_)
  refine a_l0 rfl rfl rfl ?_
  refine a_getq (q := 287) rfl gfX11_64_11 (by first | assumption | (simp (disch := omega) only [upK_self, hK, upK_ne, oldX1, oldX0, oldX2, oldX7, oldX9, oldX5, oldX8_3, oldX8_6, oldX6, oldX3]) | (simp (disch := omega) only [upK_ne, upK_self, hK, upK_ne, oldX1, oldX0, oldX2, oldX7, oldX9, oldX5, oldX8_3, oldX8_6, oldX6, oldX3])) (by simp (disch := decide) only [up2_at, up2_ne, up2_row, rowX1, rowX0, rowX2, rowX7, rowX9, rowX5, rowX8_3, rowX8_6, rowX6, rowX3]) ?_
  refine a_l1 rfl rfl rfl ?_
  refine a_new rfl nX11_34 rfl rfl rfl f.i f.r ?_
  replace f := f.mono (t' := 289) (Nat.le_succ _)
  refine a_s rfl rfl ?_
  refine a_mIN rfl lX11_36 mo_X5_init (sp_X5_init (by first | assumption | (simp (disch := omega) only [upK_self, hK, upK_ne, oldX1, oldX0, oldX2, oldX7, oldX9, oldX5, oldX8_3, oldX8_6, oldX6, oldX3]) | (simp (disch := omega) only [upK_ne, upK_self, hK, upK_ne, oldX1, oldX0, oldX2, oldX7, oldX9, oldX5, oldX8_3, oldX8_6, oldX6, oldX3])) (by decide) (by decide) f) rfl rfl rfl rfl ?_
  replace f := frX5 (q := 288) f (by decide)
  refine a_aast (n := 12) rfl (by first | assumption | (simp (disch := omega) only [upK_self, hK, upK_ne, oldX1, oldX0, oldX2, oldX7, oldX9, oldX5, oldX8_3, oldX8_6, oldX6, oldX3]) | (simp (disch := omega) only [upK_ne, upK_self, hK, upK_ne, oldX1, oldX0, oldX2, oldX7, oldX9, oldX5, oldX8_3, oldX8_6, oldX6, oldX3])) (by first | assumption | (simp (disch := omega) only [upK_self, hK, upK_ne, oldX1, oldX0, oldX2, oldX7, oldX9, oldX5, oldX8_3, oldX8_6, oldX6, oldX3]) | (simp (disch := omega) only [upK_ne, upK_self, hK, upK_ne, oldX1, oldX0, oldX2, oldX7, oldX9, oldX5, oldX8_3, oldX8_6, oldX6, oldX3])) ⟨by decide, by decide⟩ ?_
  replace f := f.putR (q := 287) (k := 0) (v := 288 + 1) (by decide)
  refine a_i1 rfl rfl rfl ?_
  refine a_goto rfl ?_
  refine a_l1 rfl rfl rfl ?_
  refine a_l0 rfl rfl rfl ?_
  refine a_getq (q := 287) rfl gfX11_64_11 (by first | assumption | (simp (disch := omega) only [upK_self, hK, upK_ne, oldX1, oldX0, oldX2, oldX7, oldX9, oldX5, oldX8_3, oldX8_6, oldX6, oldX3]) | (simp (disch := omega) only [upK_ne, upK_self, hK, upK_ne, oldX1, oldX0, oldX2, oldX7, oldX9, oldX5, oldX8_3, oldX8_6, oldX6, oldX3])) (by simp (disch := decide) only [up2_at, up2_ne, up2_row, rowX1, rowX0, rowX2, rowX7, rowX9, rowX5, rowX8_3, rowX8_6, rowX6, rowX3]) ?_
  refine a_len (tt := 3) (n := 12) rfl (by first | assumption | (simp (disch := omega) only [upK_self, hK, upK_ne, oldX1, oldX0, oldX2, oldX7, oldX9, oldX5, oldX8_3, oldX8_6, oldX6, oldX3]) | (simp (disch := omega) only [upK_ne, upK_self, hK, upK_ne, oldX1, oldX0, oldX2, oldX7, oldX9, oldX5, oldX8_3, oldX8_6, oldX6, oldX3])) rfl rfl ?_
  refine a_ic_ge rfl (fun c => absurd c (by decide)) (fun c => ?_)
  refine a_l0 rfl rfl rfl ?_
  refine a_getq (q := 287) rfl gfX11_64_11 (by first | assumption | (simp (disch := omega) only [upK_self, hK, upK_ne, oldX1, oldX0, oldX2, oldX7, oldX9, oldX5, oldX8_3, oldX8_6, oldX6, oldX3]) | (simp (disch := omega) only [upK_ne, upK_self, hK, upK_ne, oldX1, oldX0, oldX2, oldX7, oldX9, oldX5, oldX8_3, oldX8_6, oldX6, oldX3])) (by simp (disch := decide) only [up2_at, up2_ne, up2_row, rowX1, rowX0, rowX2, rowX7, rowX9, rowX5, rowX8_3, rowX8_6, rowX6, rowX3]) ?_
  refine a_l1 rfl rfl rfl ?_
  refine a_new rfl nX11_34 rfl rfl rfl f.i f.r ?_
  replace f := f.mono (t' := 300) (Nat.le_succ _)
  refine a_s rfl rfl ?_
  refine a_mIN rfl lX11_36 mo_X5_init (sp_X5_init (by first | assumption | (simp (disch := omega) only [upK_self, hK, upK_ne, oldX1, oldX0, oldX2, oldX7, oldX9, oldX5, oldX8_3, oldX8_6, oldX6, oldX3]) | (simp (disch := omega) only [upK_ne, upK_self, hK, upK_ne, oldX1, oldX0, oldX2, oldX7, oldX9, oldX5, oldX8_3, oldX8_6, oldX6, oldX3])) (by decide) (by decide) f) rfl rfl rfl rfl ?_
  replace f := frX5 (q := 299) f (by decide)
  refine a_aast (n := 12) rfl (by first | assumption | (simp (disch := omega) only [upK_self, hK, upK_ne, oldX1, oldX0, oldX2, oldX7, oldX9, oldX5, oldX8_3, oldX8_6, oldX6, oldX3]) | (simp (disch := omega) only [upK_ne, upK_self, hK, upK_ne, oldX1, oldX0, oldX2, oldX7, oldX9, oldX5, oldX8_3, oldX8_6, oldX6, oldX3])) (by first | assumption | (simp (disch := omega) only [upK_self, hK, upK_ne, oldX1, oldX0, oldX2, oldX7, oldX9, oldX5, oldX8_3, oldX8_6, oldX6, oldX3]) | (simp (disch := omega) only [upK_ne, upK_self, hK, upK_ne, oldX1, oldX0, oldX2, oldX7, oldX9, oldX5, oldX8_3, oldX8_6, oldX6, oldX3])) ⟨by decide, by decide⟩ ?_
  replace f := f.putR (q := 287) (k := 1) (v := 299 + 1) (by decide)
  refine a_i1 rfl rfl rfl ?_
  refine a_goto rfl ?_
  refine a_l1 rfl rfl rfl ?_
  refine a_l0 rfl rfl rfl ?_
  refine a_getq (q := 287) rfl gfX11_64_11 (by first | assumption | (simp (disch := omega) only [upK_self, hK, upK_ne, oldX1, oldX0, oldX2, oldX7, oldX9, oldX5, oldX8_3, oldX8_6, oldX6, oldX3]) | (simp (disch := omega) only [upK_ne, upK_self, hK, upK_ne, oldX1, oldX0, oldX2, oldX7, oldX9, oldX5, oldX8_3, oldX8_6, oldX6, oldX3])) (by simp (disch := decide) only [up2_at, up2_ne, up2_row, rowX1, rowX0, rowX2, rowX7, rowX9, rowX5, rowX8_3, rowX8_6, rowX6, rowX3]) ?_
  refine a_len (tt := 3) (n := 12) rfl (by first | assumption | (simp (disch := omega) only [upK_self, hK, upK_ne, oldX1, oldX0, oldX2, oldX7, oldX9, oldX5, oldX8_3, oldX8_6, oldX6, oldX3]) | (simp (disch := omega) only [upK_ne, upK_self, hK, upK_ne, oldX1, oldX0, oldX2, oldX7, oldX9, oldX5, oldX8_3, oldX8_6, oldX6, oldX3])) rfl rfl ?_
  refine a_ic_ge rfl (fun c => absurd c (by decide)) (fun c => ?_)
  refine a_l0 rfl rfl rfl ?_
  refine a_getq (q := 287) rfl gfX11_64_11 (by first | assumption | (simp (disch := omega) only [upK_self, hK, upK_ne, oldX1, oldX0, oldX2, oldX7, oldX9, oldX5, oldX8_3, oldX8_6, oldX6, oldX3]) | (simp (disch := omega) only [upK_ne, upK_self, hK, upK_ne, oldX1, oldX0, oldX2, oldX7, oldX9, oldX5, oldX8_3, oldX8_6, oldX6, oldX3])) (by simp (disch := decide) only [up2_at, up2_ne, up2_row, rowX1, rowX0, rowX2, rowX7, rowX9, rowX5, rowX8_3, rowX8_6, rowX6, rowX3]) ?_
  refine a_l1 rfl rfl rfl ?_
  refine a_new rfl nX11_34 rfl rfl rfl f.i f.r ?_
  replace f := f.mono (t' := 311) (Nat.le_succ _)
  refine a_s rfl rfl ?_
  refine a_mIN rfl lX11_36 mo_X5_init (sp_X5_init (by first | assumption | (simp (disch := omega) only [upK_self, hK, upK_ne, oldX1, oldX0, oldX2, oldX7, oldX9, oldX5, oldX8_3, oldX8_6, oldX6, oldX3]) | (simp (disch := omega) only [upK_ne, upK_self, hK, upK_ne, oldX1, oldX0, oldX2, oldX7, oldX9, oldX5, oldX8_3, oldX8_6, oldX6, oldX3])) (by decide) (by decide) f) rfl rfl rfl rfl ?_
  replace f := frX5 (q := 310) f (by decide)
  refine a_aast (n := 12) rfl (by first | assumption | (simp (disch := omega) only [upK_self, hK, upK_ne, oldX1, oldX0, oldX2, oldX7, oldX9, oldX5, oldX8_3, oldX8_6, oldX6, oldX3]) | (simp (disch := omega) only [upK_ne, upK_self, hK, upK_ne, oldX1, oldX0, oldX2, oldX7, oldX9, oldX5, oldX8_3, oldX8_6, oldX6, oldX3])) (by first | assumption | (simp (disch := omega) only [upK_self, hK, upK_ne, oldX1, oldX0, oldX2, oldX7, oldX9, oldX5, oldX8_3, oldX8_6, oldX6, oldX3]) | (simp (disch := omega) only [upK_ne, upK_self, hK, upK_ne, oldX1, oldX0, oldX2, oldX7, oldX9, oldX5, oldX8_3, oldX8_6, oldX6, oldX3])) ⟨by decide, by decide⟩ ?_
  replace f := f.putR (q := 287) (k := 2) (v := 310 + 1) (by decide)
  refine a_i1 rfl rfl rfl ?_
  refine a_goto rfl ?_
  refine a_l1 rfl rfl rfl ?_
  refine a_l0 rfl rfl rfl ?_
  refine a_getq (q := 287) rfl gfX11_64_11 (by first | assumption | (simp (disch := omega) only [upK_self, hK, upK_ne, oldX1, oldX0, oldX2, oldX7, oldX9, oldX5, oldX8_3, oldX8_6, oldX6, oldX3]) | (simp (disch := omega) only [upK_ne, upK_self, hK, upK_ne, oldX1, oldX0, oldX2, oldX7, oldX9, oldX5, oldX8_3, oldX8_6, oldX6, oldX3])) (by simp (disch := decide) only [up2_at, up2_ne, up2_row, rowX1, rowX0, rowX2, rowX7, rowX9, rowX5, rowX8_3, rowX8_6, rowX6, rowX3]) ?_
  refine a_len (tt := 3) (n := 12) rfl (by first | assumption | (simp (disch := omega) only [upK_self, hK, upK_ne, oldX1, oldX0, oldX2, oldX7, oldX9, oldX5, oldX8_3, oldX8_6, oldX6, oldX3]) | (simp (disch := omega) only [upK_ne, upK_self, hK, upK_ne, oldX1, oldX0, oldX2, oldX7, oldX9, oldX5, oldX8_3, oldX8_6, oldX6, oldX3])) rfl rfl ?_
  refine a_ic_ge rfl (fun c => absurd c (by decide)) (fun c => ?_)
  refine a_l0 rfl rfl rfl ?_
  refine a_getq (q := 287) rfl gfX11_64_11 (by first | assumption | (simp (disch := omega) only [upK_self, hK, upK_ne, oldX1, oldX0, oldX2, oldX7, oldX9, oldX5, oldX8_3, oldX8_6, oldX6, oldX3]) | (simp (disch := omega) only [upK_ne, upK_self, hK, upK_ne, oldX1, oldX0, oldX2, oldX7, oldX9, oldX5, oldX8_3, oldX8_6, oldX6, oldX3])) (by simp (disch := decide) only [up2_at, up2_ne, up2_row, rowX1, rowX0, rowX2, rowX7, rowX9, rowX5, rowX8_3, rowX8_6, rowX6, rowX3]) ?_
  refine a_l1 rfl rfl rfl ?_
  refine a_new rfl nX11_34 rfl rfl rfl f.i f.r ?_
  replace f := f.mono (t' := 322) (Nat.le_succ _)
  refine a_s rfl rfl ?_
  refine a_mIN rfl lX11_36 mo_X5_init (sp_X5_init (by first | assumption | (simp (disch := omega) only [upK_self, hK, upK_ne, oldX1, oldX0, oldX2, oldX7, oldX9, oldX5, oldX8_3, oldX8_6, oldX6, oldX3]) | (simp (disch := omega) only [upK_ne, upK_self, hK, upK_ne, oldX1, oldX0, oldX2, oldX7, oldX9, oldX5, oldX8_3, oldX8_6, oldX6, oldX3])) (by decide) (by decide) f) rfl rfl rfl rfl ?_
  replace f := frX5 (q := 321) f (by decide)
  refine a_aast (n := 12) rfl (by first | assumption | (simp (disch := omega) only [upK_self, hK, upK_ne, oldX1, oldX0, oldX2, oldX7, oldX9, oldX5, oldX8_3, oldX8_6, oldX6, oldX3]) | (simp (disch := omega) only [upK_ne, upK_self, hK, upK_ne, oldX1, oldX0, oldX2, oldX7, oldX9, oldX5, oldX8_3, oldX8_6, oldX6, oldX3])) (by first | assumption | (simp (disch := omega) only [upK_self, hK, upK_ne, oldX1, oldX0, oldX2, oldX7, oldX9, oldX5, oldX8_3, oldX8_6, oldX6, oldX3]) | (simp (disch := omega) only [upK_ne, upK_self, hK, upK_ne, oldX1, oldX0, oldX2, oldX7, oldX9, oldX5, oldX8_3, oldX8_6, oldX6, oldX3])) ⟨by decide, by decide⟩ ?_
  replace f := f.putR (q := 287) (k := 3) (v := 321 + 1) (by decide)
  refine a_i1 rfl rfl rfl ?_
  refine a_goto rfl ?_
  refine a_l1 rfl rfl rfl ?_
  refine a_l0 rfl rfl rfl ?_
  refine a_getq (q := 287) rfl gfX11_64_11 (by first | assumption | (simp (disch := omega) only [upK_self, hK, upK_ne, oldX1, oldX0, oldX2, oldX7, oldX9, oldX5, oldX8_3, oldX8_6, oldX6, oldX3]) | (simp (disch := omega) only [upK_ne, upK_self, hK, upK_ne, oldX1, oldX0, oldX2, oldX7, oldX9, oldX5, oldX8_3, oldX8_6, oldX6, oldX3])) (by simp (disch := decide) only [up2_at, up2_ne, up2_row, rowX1, rowX0, rowX2, rowX7, rowX9, rowX5, rowX8_3, rowX8_6, rowX6, rowX3]) ?_
  refine a_len (tt := 3) (n := 12) rfl (by first | assumption | (simp (disch := omega) only [upK_self, hK, upK_ne, oldX1, oldX0, oldX2, oldX7, oldX9, oldX5, oldX8_3, oldX8_6, oldX6, oldX3]) | (simp (disch := omega) only [upK_ne, upK_self, hK, upK_ne, oldX1, oldX0, oldX2, oldX7, oldX9, oldX5, oldX8_3, oldX8_6, oldX6, oldX3])) rfl rfl ?_
  refine a_ic_ge rfl (fun c => absurd c (by decide)) (fun c => ?_)
  refine a_l0 rfl rfl rfl ?_
  refine a_getq (q := 287) rfl gfX11_64_11 (by first | assumption | (simp (disch := omega) only [upK_self, hK, upK_ne, oldX1, oldX0, oldX2, oldX7, oldX9, oldX5, oldX8_3, oldX8_6, oldX6, oldX3]) | (simp (disch := omega) only [upK_ne, upK_self, hK, upK_ne, oldX1, oldX0, oldX2, oldX7, oldX9, oldX5, oldX8_3, oldX8_6, oldX6, oldX3])) (by simp (disch := decide) only [up2_at, up2_ne, up2_row, rowX1, rowX0, rowX2, rowX7, rowX9, rowX5, rowX8_3, rowX8_6, rowX6, rowX3]) ?_
  refine a_l1 rfl rfl rfl ?_
  refine a_new rfl nX11_34 rfl rfl rfl f.i f.r ?_
  replace f := f.mono (t' := 333) (Nat.le_succ _)
  refine a_s rfl rfl ?_
  refine a_mIN rfl lX11_36 mo_X5_init (sp_X5_init (by first | assumption | (simp (disch := omega) only [upK_self, hK, upK_ne, oldX1, oldX0, oldX2, oldX7, oldX9, oldX5, oldX8_3, oldX8_6, oldX6, oldX3]) | (simp (disch := omega) only [upK_ne, upK_self, hK, upK_ne, oldX1, oldX0, oldX2, oldX7, oldX9, oldX5, oldX8_3, oldX8_6, oldX6, oldX3])) (by decide) (by decide) f) rfl rfl rfl rfl ?_
  replace f := frX5 (q := 332) f (by decide)
  refine a_aast (n := 12) rfl (by first | assumption | (simp (disch := omega) only [upK_self, hK, upK_ne, oldX1, oldX0, oldX2, oldX7, oldX9, oldX5, oldX8_3, oldX8_6, oldX6, oldX3]) | (simp (disch := omega) only [upK_ne, upK_self, hK, upK_ne, oldX1, oldX0, oldX2, oldX7, oldX9, oldX5, oldX8_3, oldX8_6, oldX6, oldX3])) (by first | assumption | (simp (disch := omega) only [upK_self, hK, upK_ne, oldX1, oldX0, oldX2, oldX7, oldX9, oldX5, oldX8_3, oldX8_6, oldX6, oldX3]) | (simp (disch := omega) only [upK_ne, upK_self, hK, upK_ne, oldX1, oldX0, oldX2, oldX7, oldX9, oldX5, oldX8_3, oldX8_6, oldX6, oldX3])) ⟨by decide, by decide⟩ ?_
  replace f := f.putR (q := 287) (k := 4) (v := 332 + 1) (by decide)
  refine a_i1 rfl rfl rfl ?_
  refine a_goto rfl ?_
  refine a_l1 rfl rfl rfl ?_
  refine a_l0 rfl rfl rfl ?_
  refine a_getq (q := 287) rfl gfX11_64_11 (by first | assumption | (simp (disch := omega) only [upK_self, hK, upK_ne, oldX1, oldX0, oldX2, oldX7, oldX9, oldX5, oldX8_3, oldX8_6, oldX6, oldX3]) | (simp (disch := omega) only [upK_ne, upK_self, hK, upK_ne, oldX1, oldX0, oldX2, oldX7, oldX9, oldX5, oldX8_3, oldX8_6, oldX6, oldX3])) (by simp (disch := decide) only [up2_at, up2_ne, up2_row, rowX1, rowX0, rowX2, rowX7, rowX9, rowX5, rowX8_3, rowX8_6, rowX6, rowX3]) ?_
  refine a_len (tt := 3) (n := 12) rfl (by first | assumption | (simp (disch := omega) only [upK_self, hK, upK_ne, oldX1, oldX0, oldX2, oldX7, oldX9, oldX5, oldX8_3, oldX8_6, oldX6, oldX3]) | (simp (disch := omega) only [upK_ne, upK_self, hK, upK_ne, oldX1, oldX0, oldX2, oldX7, oldX9, oldX5, oldX8_3, oldX8_6, oldX6, oldX3])) rfl rfl ?_
  refine a_ic_ge rfl (fun c => absurd c (by decide)) (fun c => ?_)
  refine a_l0 rfl rfl rfl ?_
  refine a_getq (q := 287) rfl gfX11_64_11 (by first | assumption | (simp (disch := omega) only [upK_self, hK, upK_ne, oldX1, oldX0, oldX2, oldX7, oldX9, oldX5, oldX8_3, oldX8_6, oldX6, oldX3]) | (simp (disch := omega) only [upK_ne, upK_self, hK, upK_ne, oldX1, oldX0, oldX2, oldX7, oldX9, oldX5, oldX8_3, oldX8_6, oldX6, oldX3])) (by simp (disch := decide) only [up2_at, up2_ne, up2_row, rowX1, rowX0, rowX2, rowX7, rowX9, rowX5, rowX8_3, rowX8_6, rowX6, rowX3]) ?_
  refine a_l1 rfl rfl rfl ?_
  refine a_new rfl nX11_34 rfl rfl rfl f.i f.r ?_
  replace f := f.mono (t' := 344) (Nat.le_succ _)
  refine a_s rfl rfl ?_
  refine a_mIN rfl lX11_36 mo_X5_init (sp_X5_init (by first | assumption | (simp (disch := omega) only [upK_self, hK, upK_ne, oldX1, oldX0, oldX2, oldX7, oldX9, oldX5, oldX8_3, oldX8_6, oldX6, oldX3]) | (simp (disch := omega) only [upK_ne, upK_self, hK, upK_ne, oldX1, oldX0, oldX2, oldX7, oldX9, oldX5, oldX8_3, oldX8_6, oldX6, oldX3])) (by decide) (by decide) f) rfl rfl rfl rfl ?_
  replace f := frX5 (q := 343) f (by decide)
  refine a_aast (n := 12) rfl (by first | assumption | (simp (disch := omega) only [upK_self, hK, upK_ne, oldX1, oldX0, oldX2, oldX7, oldX9, oldX5, oldX8_3, oldX8_6, oldX6, oldX3]) | (simp (disch := omega) only [upK_ne, upK_self, hK, upK_ne, oldX1, oldX0, oldX2, oldX7, oldX9, oldX5, oldX8_3, oldX8_6, oldX6, oldX3])) (by first | assumption | (simp (disch := omega) only [upK_self, hK, upK_ne, oldX1, oldX0, oldX2, oldX7, oldX9, oldX5, oldX8_3, oldX8_6, oldX6, oldX3]) | (simp (disch := omega) only [upK_ne, upK_self, hK, upK_ne, oldX1, oldX0, oldX2, oldX7, oldX9, oldX5, oldX8_3, oldX8_6, oldX6, oldX3])) ⟨by decide, by decide⟩ ?_
  replace f := f.putR (q := 287) (k := 5) (v := 343 + 1) (by decide)
  refine a_i1 rfl rfl rfl ?_
  refine a_goto rfl ?_
  refine a_l1 rfl rfl rfl ?_
  refine a_l0 rfl rfl rfl ?_
  refine a_getq (q := 287) rfl gfX11_64_11 (by first | assumption | (simp (disch := omega) only [upK_self, hK, upK_ne, oldX1, oldX0, oldX2, oldX7, oldX9, oldX5, oldX8_3, oldX8_6, oldX6, oldX3]) | (simp (disch := omega) only [upK_ne, upK_self, hK, upK_ne, oldX1, oldX0, oldX2, oldX7, oldX9, oldX5, oldX8_3, oldX8_6, oldX6, oldX3])) (by simp (disch := decide) only [up2_at, up2_ne, up2_row, rowX1, rowX0, rowX2, rowX7, rowX9, rowX5, rowX8_3, rowX8_6, rowX6, rowX3]) ?_
  refine a_len (tt := 3) (n := 12) rfl (by first | assumption | (simp (disch := omega) only [upK_self, hK, upK_ne, oldX1, oldX0, oldX2, oldX7, oldX9, oldX5, oldX8_3, oldX8_6, oldX6, oldX3]) | (simp (disch := omega) only [upK_ne, upK_self, hK, upK_ne, oldX1, oldX0, oldX2, oldX7, oldX9, oldX5, oldX8_3, oldX8_6, oldX6, oldX3])) rfl rfl ?_
  refine a_ic_ge rfl (fun c => absurd c (by decide)) (fun c => ?_)
  refine a_l0 rfl rfl rfl ?_
  refine a_getq (q := 287) rfl gfX11_64_11 (by first | assumption | (simp (disch := omega) only [upK_self, hK, upK_ne, oldX1, oldX0, oldX2, oldX7, oldX9, oldX5, oldX8_3, oldX8_6, oldX6, oldX3]) | (simp (disch := omega) only [upK_ne, upK_self, hK, upK_ne, oldX1, oldX0, oldX2, oldX7, oldX9, oldX5, oldX8_3, oldX8_6, oldX6, oldX3])) (by simp (disch := decide) only [up2_at, up2_ne, up2_row, rowX1, rowX0, rowX2, rowX7, rowX9, rowX5, rowX8_3, rowX8_6, rowX6, rowX3]) ?_
  refine a_l1 rfl rfl rfl ?_
  refine a_new rfl nX11_34 rfl rfl rfl f.i f.r ?_
  replace f := f.mono (t' := 355) (Nat.le_succ _)
  refine a_s rfl rfl ?_
  refine a_mIN rfl lX11_36 mo_X5_init (sp_X5_init (by first | assumption | (simp (disch := omega) only [upK_self, hK, upK_ne, oldX1, oldX0, oldX2, oldX7, oldX9, oldX5, oldX8_3, oldX8_6, oldX6, oldX3]) | (simp (disch := omega) only [upK_ne, upK_self, hK, upK_ne, oldX1, oldX0, oldX2, oldX7, oldX9, oldX5, oldX8_3, oldX8_6, oldX6, oldX3])) (by decide) (by decide) f) rfl rfl rfl rfl ?_
  replace f := frX5 (q := 354) f (by decide)
  refine a_aast (n := 12) rfl (by first | assumption | (simp (disch := omega) only [upK_self, hK, upK_ne, oldX1, oldX0, oldX2, oldX7, oldX9, oldX5, oldX8_3, oldX8_6, oldX6, oldX3]) | (simp (disch := omega) only [upK_ne, upK_self, hK, upK_ne, oldX1, oldX0, oldX2, oldX7, oldX9, oldX5, oldX8_3, oldX8_6, oldX6, oldX3])) (by first | assumption | (simp (disch := omega) only [upK_self, hK, upK_ne, oldX1, oldX0, oldX2, oldX7, oldX9, oldX5, oldX8_3, oldX8_6, oldX6, oldX3]) | (simp (disch := omega) only [upK_ne, upK_self, hK, upK_ne, oldX1, oldX0, oldX2, oldX7, oldX9, oldX5, oldX8_3, oldX8_6, oldX6, oldX3])) ⟨by decide, by decide⟩ ?_
  replace f := f.putR (q := 287) (k := 6) (v := 354 + 1) (by decide)
  refine a_i1 rfl rfl rfl ?_
  refine a_goto rfl ?_
  refine a_l1 rfl rfl rfl ?_
  refine a_l0 rfl rfl rfl ?_
  refine a_getq (q := 287) rfl gfX11_64_11 (by first | assumption | (simp (disch := omega) only [upK_self, hK, upK_ne, oldX1, oldX0, oldX2, oldX7, oldX9, oldX5, oldX8_3, oldX8_6, oldX6, oldX3]) | (simp (disch := omega) only [upK_ne, upK_self, hK, upK_ne, oldX1, oldX0, oldX2, oldX7, oldX9, oldX5, oldX8_3, oldX8_6, oldX6, oldX3])) (by simp (disch := decide) only [up2_at, up2_ne, up2_row, rowX1, rowX0, rowX2, rowX7, rowX9, rowX5, rowX8_3, rowX8_6, rowX6, rowX3]) ?_
  refine a_len (tt := 3) (n := 12) rfl (by first | assumption | (simp (disch := omega) only [upK_self, hK, upK_ne, oldX1, oldX0, oldX2, oldX7, oldX9, oldX5, oldX8_3, oldX8_6, oldX6, oldX3]) | (simp (disch := omega) only [upK_ne, upK_self, hK, upK_ne, oldX1, oldX0, oldX2, oldX7, oldX9, oldX5, oldX8_3, oldX8_6, oldX6, oldX3])) rfl rfl ?_
  refine a_ic_ge rfl (fun c => absurd c (by decide)) (fun c => ?_)
  refine a_l0 rfl rfl rfl ?_
  refine a_getq (q := 287) rfl gfX11_64_11 (by first | assumption | (simp (disch := omega) only [upK_self, hK, upK_ne, oldX1, oldX0, oldX2, oldX7, oldX9, oldX5, oldX8_3, oldX8_6, oldX6, oldX3]) | (simp (disch := omega) only [upK_ne, upK_self, hK, upK_ne, oldX1, oldX0, oldX2, oldX7, oldX9, oldX5, oldX8_3, oldX8_6, oldX6, oldX3])) (by simp (disch := decide) only [up2_at, up2_ne, up2_row, rowX1, rowX0, rowX2, rowX7, rowX9, rowX5, rowX8_3, rowX8_6, rowX6, rowX3]) ?_
  refine a_l1 rfl rfl rfl ?_
  refine a_new rfl nX11_34 rfl rfl rfl f.i f.r ?_
  replace f := f.mono (t' := 366) (Nat.le_succ _)
  refine a_s rfl rfl ?_
  refine a_mIN rfl lX11_36 mo_X5_init (sp_X5_init (by first | assumption | (simp (disch := omega) only [upK_self, hK, upK_ne, oldX1, oldX0, oldX2, oldX7, oldX9, oldX5, oldX8_3, oldX8_6, oldX6, oldX3]) | (simp (disch := omega) only [upK_ne, upK_self, hK, upK_ne, oldX1, oldX0, oldX2, oldX7, oldX9, oldX5, oldX8_3, oldX8_6, oldX6, oldX3])) (by decide) (by decide) f) rfl rfl rfl rfl ?_
  replace f := frX5 (q := 365) f (by decide)
  refine a_aast (n := 12) rfl (by first | assumption | (simp (disch := omega) only [upK_self, hK, upK_ne, oldX1, oldX0, oldX2, oldX7, oldX9, oldX5, oldX8_3, oldX8_6, oldX6, oldX3]) | (simp (disch := omega) only [upK_ne, upK_self, hK, upK_ne, oldX1, oldX0, oldX2, oldX7, oldX9, oldX5, oldX8_3, oldX8_6, oldX6, oldX3])) (by first | assumption | (simp (disch := omega) only [upK_self, hK, upK_ne, oldX1, oldX0, oldX2, oldX7, oldX9, oldX5, oldX8_3, oldX8_6, oldX6, oldX3]) | (simp (disch := omega) only [upK_ne, upK_self, hK, upK_ne, oldX1, oldX0, oldX2, oldX7, oldX9, oldX5, oldX8_3, oldX8_6, oldX6, oldX3])) ⟨by decide, by decide⟩ ?_
  replace f := f.putR (q := 287) (k := 7) (v := 365 + 1) (by decide)
  refine a_i1 rfl rfl rfl ?_
  refine a_goto rfl ?_
  refine a_l1 rfl rfl rfl ?_
  refine a_l0 rfl rfl rfl ?_
  refine a_getq (q := 287) rfl gfX11_64_11 (by first | assumption | (simp (disch := omega) only [upK_self, hK, upK_ne, oldX1, oldX0, oldX2, oldX7, oldX9, oldX5, oldX8_3, oldX8_6, oldX6, oldX3]) | (simp (disch := omega) only [upK_ne, upK_self, hK, upK_ne, oldX1, oldX0, oldX2, oldX7, oldX9, oldX5, oldX8_3, oldX8_6, oldX6, oldX3])) (by simp (disch := decide) only [up2_at, up2_ne, up2_row, rowX1, rowX0, rowX2, rowX7, rowX9, rowX5, rowX8_3, rowX8_6, rowX6, rowX3]) ?_
  refine a_len (tt := 3) (n := 12) rfl (by first | assumption | (simp (disch := omega) only [upK_self, hK, upK_ne, oldX1, oldX0, oldX2, oldX7, oldX9, oldX5, oldX8_3, oldX8_6, oldX6, oldX3]) | (simp (disch := omega) only [upK_ne, upK_self, hK, upK_ne, oldX1, oldX0, oldX2, oldX7, oldX9, oldX5, oldX8_3, oldX8_6, oldX6, oldX3])) rfl rfl ?_
  refine a_ic_ge rfl (fun c => absurd c (by decide)) (fun c => ?_)
  refine a_l0 rfl rfl rfl ?_
  refine a_getq (q := 287) rfl gfX11_64_11 (by first | assumption | (simp (disch := omega) only [upK_self, hK, upK_ne, oldX1, oldX0, oldX2, oldX7, oldX9, oldX5, oldX8_3, oldX8_6, oldX6, oldX3]) | (simp (disch := omega) only [upK_ne, upK_self, hK, upK_ne, oldX1, oldX0, oldX2, oldX7, oldX9, oldX5, oldX8_3, oldX8_6, oldX6, oldX3])) (by simp (disch := decide) only [up2_at, up2_ne, up2_row, rowX1, rowX0, rowX2, rowX7, rowX9, rowX5, rowX8_3, rowX8_6, rowX6, rowX3]) ?_
  refine a_l1 rfl rfl rfl ?_
  refine a_new rfl nX11_34 rfl rfl rfl f.i f.r ?_
  replace f := f.mono (t' := 377) (Nat.le_succ _)
  refine a_s rfl rfl ?_
  refine a_mIN rfl lX11_36 mo_X5_init (sp_X5_init (by first | assumption | (simp (disch := omega) only [upK_self, hK, upK_ne, oldX1, oldX0, oldX2, oldX7, oldX9, oldX5, oldX8_3, oldX8_6, oldX6, oldX3]) | (simp (disch := omega) only [upK_ne, upK_self, hK, upK_ne, oldX1, oldX0, oldX2, oldX7, oldX9, oldX5, oldX8_3, oldX8_6, oldX6, oldX3])) (by decide) (by decide) f) rfl rfl rfl rfl ?_
  replace f := frX5 (q := 376) f (by decide)
  refine a_aast (n := 12) rfl (by first | assumption | (simp (disch := omega) only [upK_self, hK, upK_ne, oldX1, oldX0, oldX2, oldX7, oldX9, oldX5, oldX8_3, oldX8_6, oldX6, oldX3]) | (simp (disch := omega) only [upK_ne, upK_self, hK, upK_ne, oldX1, oldX0, oldX2, oldX7, oldX9, oldX5, oldX8_3, oldX8_6, oldX6, oldX3])) (by first | assumption | (simp (disch := omega) only [upK_self, hK, upK_ne, oldX1, oldX0, oldX2, oldX7, oldX9, oldX5, oldX8_3, oldX8_6, oldX6, oldX3]) | (simp (disch := omega) only [upK_ne, upK_self, hK, upK_ne, oldX1, oldX0, oldX2, oldX7, oldX9, oldX5, oldX8_3, oldX8_6, oldX6, oldX3])) ⟨by decide, by decide⟩ ?_
  replace f := f.putR (q := 287) (k := 8) (v := 376 + 1) (by decide)
  refine a_i1 rfl rfl rfl ?_
  refine a_goto rfl ?_
  refine a_l1 rfl rfl rfl ?_
  refine a_l0 rfl rfl rfl ?_
  refine a_getq (q := 287) rfl gfX11_64_11 (by first | assumption | (simp (disch := omega) only [upK_self, hK, upK_ne, oldX1, oldX0, oldX2, oldX7, oldX9, oldX5, oldX8_3, oldX8_6, oldX6, oldX3]) | (simp (disch := omega) only [upK_ne, upK_self, hK, upK_ne, oldX1, oldX0, oldX2, oldX7, oldX9, oldX5, oldX8_3, oldX8_6, oldX6, oldX3])) (by simp (disch := decide) only [up2_at, up2_ne, up2_row, rowX1, rowX0, rowX2, rowX7, rowX9, rowX5, rowX8_3, rowX8_6, rowX6, rowX3]) ?_
  refine a_len (tt := 3) (n := 12) rfl (by first | assumption | (simp (disch := omega) only [upK_self, hK, upK_ne, oldX1, oldX0, oldX2, oldX7, oldX9, oldX5, oldX8_3, oldX8_6, oldX6, oldX3]) | (simp (disch := omega) only [upK_ne, upK_self, hK, upK_ne, oldX1, oldX0, oldX2, oldX7, oldX9, oldX5, oldX8_3, oldX8_6, oldX6, oldX3])) rfl rfl ?_
  refine a_ic_ge rfl (fun c => absurd c (by decide)) (fun c => ?_)
  refine a_l0 rfl rfl rfl ?_
  refine a_getq (q := 287) rfl gfX11_64_11 (by first | assumption | (simp (disch := omega) only [upK_self, hK, upK_ne, oldX1, oldX0, oldX2, oldX7, oldX9, oldX5, oldX8_3, oldX8_6, oldX6, oldX3]) | (simp (disch := omega) only [upK_ne, upK_self, hK, upK_ne, oldX1, oldX0, oldX2, oldX7, oldX9, oldX5, oldX8_3, oldX8_6, oldX6, oldX3])) (by simp (disch := decide) only [up2_at, up2_ne, up2_row, rowX1, rowX0, rowX2, rowX7, rowX9, rowX5, rowX8_3, rowX8_6, rowX6, rowX3]) ?_
  refine a_l1 rfl rfl rfl ?_
  refine a_new rfl nX11_34 rfl rfl rfl f.i f.r ?_
  replace f := f.mono (t' := 388) (Nat.le_succ _)
  refine a_s rfl rfl ?_
  refine a_mIN rfl lX11_36 mo_X5_init (sp_X5_init (by first | assumption | (simp (disch := omega) only [upK_self, hK, upK_ne, oldX1, oldX0, oldX2, oldX7, oldX9, oldX5, oldX8_3, oldX8_6, oldX6, oldX3]) | (simp (disch := omega) only [upK_ne, upK_self, hK, upK_ne, oldX1, oldX0, oldX2, oldX7, oldX9, oldX5, oldX8_3, oldX8_6, oldX6, oldX3])) (by decide) (by decide) f) rfl rfl rfl rfl ?_
  replace f := frX5 (q := 387) f (by decide)
  refine a_aast (n := 12) rfl (by first | assumption | (simp (disch := omega) only [upK_self, hK, upK_ne, oldX1, oldX0, oldX2, oldX7, oldX9, oldX5, oldX8_3, oldX8_6, oldX6, oldX3]) | (simp (disch := omega) only [upK_ne, upK_self, hK, upK_ne, oldX1, oldX0, oldX2, oldX7, oldX9, oldX5, oldX8_3, oldX8_6, oldX6, oldX3])) (by first | assumption | (simp (disch := omega) only [upK_self, hK, upK_ne, oldX1, oldX0, oldX2, oldX7, oldX9, oldX5, oldX8_3, oldX8_6, oldX6, oldX3]) | (simp (disch := omega) only [upK_ne, upK_self, hK, upK_ne, oldX1, oldX0, oldX2, oldX7, oldX9, oldX5, oldX8_3, oldX8_6, oldX6, oldX3])) ⟨by decide, by decide⟩ ?_
  replace f := f.putR (q := 287) (k := 9) (v := 387 + 1) (by decide)
  refine a_i1 rfl rfl rfl ?_
  refine a_goto rfl ?_
  refine a_l1 rfl rfl rfl ?_
  refine a_l0 rfl rfl rfl ?_
  refine a_getq (q := 287) rfl gfX11_64_11 (by first | assumption | (simp (disch := omega) only [upK_self, hK, upK_ne, oldX1, oldX0, oldX2, oldX7, oldX9, oldX5, oldX8_3, oldX8_6, oldX6, oldX3]) | (simp (disch := omega) only [upK_ne, upK_self, hK, upK_ne, oldX1, oldX0, oldX2, oldX7, oldX9, oldX5, oldX8_3, oldX8_6, oldX6, oldX3])) (by simp (disch := decide) only [up2_at, up2_ne, up2_row, rowX1, rowX0, rowX2, rowX7, rowX9, rowX5, rowX8_3, rowX8_6, rowX6, rowX3]) ?_
  refine a_len (tt := 3) (n := 12) rfl (by first | assumption | (simp (disch := omega) only [upK_self, hK, upK_ne, oldX1, oldX0, oldX2, oldX7, oldX9, oldX5, oldX8_3, oldX8_6, oldX6, oldX3]) | (simp (disch := omega) only [upK_ne, upK_self, hK, upK_ne, oldX1, oldX0, oldX2, oldX7, oldX9, oldX5, oldX8_3, oldX8_6, oldX6, oldX3])) rfl rfl ?_
  refine a_ic_ge rfl (fun c => absurd c (by decide)) (fun c => ?_)
  refine a_l0 rfl rfl rfl ?_
  refine a_getq (q := 287) rfl gfX11_64_11 (by first | assumption | (simp (disch := omega) only [upK_self, hK, upK_ne, oldX1, oldX0, oldX2, oldX7, oldX9, oldX5, oldX8_3, oldX8_6, oldX6, oldX3]) | (simp (disch := omega) only [upK_ne, upK_self, hK, upK_ne, oldX1, oldX0, oldX2, oldX7, oldX9, oldX5, oldX8_3, oldX8_6, oldX6, oldX3])) (by simp (disch := decide) only [up2_at, up2_ne, up2_row, rowX1, rowX0, rowX2, rowX7, rowX9, rowX5, rowX8_3, rowX8_6, rowX6, rowX3]) ?_
  refine a_l1 rfl rfl rfl ?_
  refine a_new rfl nX11_34 rfl rfl rfl f.i f.r ?_
  replace f := f.mono (t' := 399) (Nat.le_succ _)
  refine a_s rfl rfl ?_
  refine a_mIN rfl lX11_36 mo_X5_init (sp_X5_init (by first | assumption | (simp (disch := omega) only [upK_self, hK, upK_ne, oldX1, oldX0, oldX2, oldX7, oldX9, oldX5, oldX8_3, oldX8_6, oldX6, oldX3]) | (simp (disch := omega) only [upK_ne, upK_self, hK, upK_ne, oldX1, oldX0, oldX2, oldX7, oldX9, oldX5, oldX8_3, oldX8_6, oldX6, oldX3])) (by decide) (by decide) f) rfl rfl rfl rfl ?_
  replace f := frX5 (q := 398) f (by decide)
  refine a_aast (n := 12) rfl (by first | assumption | (simp (disch := omega) only [upK_self, hK, upK_ne, oldX1, oldX0, oldX2, oldX7, oldX9, oldX5, oldX8_3, oldX8_6, oldX6, oldX3]) | (simp (disch := omega) only [upK_ne, upK_self, hK, upK_ne, oldX1, oldX0, oldX2, oldX7, oldX9, oldX5, oldX8_3, oldX8_6, oldX6, oldX3])) (by first | assumption | (simp (disch := omega) only [upK_self, hK, upK_ne, oldX1, oldX0, oldX2, oldX7, oldX9, oldX5, oldX8_3, oldX8_6, oldX6, oldX3]) | (simp (disch := omega) only [upK_ne, upK_self, hK, upK_ne, oldX1, oldX0, oldX2, oldX7, oldX9, oldX5, oldX8_3, oldX8_6, oldX6, oldX3])) ⟨by decide, by decide⟩ ?_
  replace f := f.putR (q := 287) (k := 10) (v := 398 + 1) (by decide)
  refine a_i1 rfl rfl rfl ?_
  refine a_goto rfl ?_
  refine a_l1 rfl rfl rfl ?_
  refine a_l0 rfl rfl rfl ?_
  refine a_getq (q := 287) rfl gfX11_64_11 (by first | assumption | (simp (disch := omega) only [upK_self, hK, upK_ne, oldX1, oldX0, oldX2, oldX7, oldX9, oldX5, oldX8_3, oldX8_6, oldX6, oldX3]) | (simp (disch := omega) only [upK_ne, upK_self, hK, upK_ne, oldX1, oldX0, oldX2, oldX7, oldX9, oldX5, oldX8_3, oldX8_6, oldX6, oldX3])) (by simp (disch := decide) only [up2_at, up2_ne, up2_row, rowX1, rowX0, rowX2, rowX7, rowX9, rowX5, rowX8_3, rowX8_6, rowX6, rowX3]) ?_
  refine a_len (tt := 3) (n := 12) rfl (by first | assumption | (simp (disch := omega) only [upK_self, hK, upK_ne, oldX1, oldX0, oldX2, oldX7, oldX9, oldX5, oldX8_3, oldX8_6, oldX6, oldX3]) | (simp (disch := omega) only [upK_ne, upK_self, hK, upK_ne, oldX1, oldX0, oldX2, oldX7, oldX9, oldX5, oldX8_3, oldX8_6, oldX6, oldX3])) rfl rfl ?_
  refine a_ic_ge rfl (fun c => absurd c (by decide)) (fun c => ?_)
  refine a_l0 rfl rfl rfl ?_
  refine a_getq (q := 287) rfl gfX11_64_11 (by first | assumption | (simp (disch := omega) only [upK_self, hK, upK_ne, oldX1, oldX0, oldX2, oldX7, oldX9, oldX5, oldX8_3, oldX8_6, oldX6, oldX3]) | (simp (disch := omega) only [upK_ne, upK_self, hK, upK_ne, oldX1, oldX0, oldX2, oldX7, oldX9, oldX5, oldX8_3, oldX8_6, oldX6, oldX3])) (by simp (disch := decide) only [up2_at, up2_ne, up2_row, rowX1, rowX0, rowX2, rowX7, rowX9, rowX5, rowX8_3, rowX8_6, rowX6, rowX3]) ?_
  refine a_l1 rfl rfl rfl ?_
  refine a_new rfl nX11_34 rfl rfl rfl f.i f.r ?_
  replace f := f.mono (t' := 410) (Nat.le_succ _)
  refine a_s rfl rfl ?_
  refine a_mIN rfl lX11_36 mo_X5_init (sp_X5_init (by first | assumption | (simp (disch := omega) only [upK_self, hK, upK_ne, oldX1, oldX0, oldX2, oldX7, oldX9, oldX5, oldX8_3, oldX8_6, oldX6, oldX3]) | (simp (disch := omega) only [upK_ne, upK_self, hK, upK_ne, oldX1, oldX0, oldX2, oldX7, oldX9, oldX5, oldX8_3, oldX8_6, oldX6, oldX3])) (by decide) (by decide) f) rfl rfl rfl rfl ?_
  replace f := frX5 (q := 409) f (by decide)
  refine a_aast (n := 12) rfl (by first | assumption | (simp (disch := omega) only [upK_self, hK, upK_ne, oldX1, oldX0, oldX2, oldX7, oldX9, oldX5, oldX8_3, oldX8_6, oldX6, oldX3]) | (simp (disch := omega) only [upK_ne, upK_self, hK, upK_ne, oldX1, oldX0, oldX2, oldX7, oldX9, oldX5, oldX8_3, oldX8_6, oldX6, oldX3])) (by first | assumption | (simp (disch := omega) only [upK_self, hK, upK_ne, oldX1, oldX0, oldX2, oldX7, oldX9, oldX5, oldX8_3, oldX8_6, oldX6, oldX3]) | (simp (disch := omega) only [upK_ne, upK_self, hK, upK_ne, oldX1, oldX0, oldX2, oldX7, oldX9, oldX5, oldX8_3, oldX8_6, oldX6, oldX3])) ⟨by decide, by decide⟩ ?_
  replace f := f.putR (q := 287) (k := 11) (v := 409 + 1) (by decide)
  refine a_i1 rfl rfl rfl ?_
  refine a_goto rfl ?_
  refine a_l1 rfl rfl rfl ?_
  refine a_l0 rfl rfl rfl ?_
  refine a_getq (q := 287) rfl gfX11_64_11 (by first | assumption | (simp (disch := omega) only [upK_self, hK, upK_ne, oldX1, oldX0, oldX2, oldX7, oldX9, oldX5, oldX8_3, oldX8_6, oldX6, oldX3]) | (simp (disch := omega) only [upK_ne, upK_self, hK, upK_ne, oldX1, oldX0, oldX2, oldX7, oldX9, oldX5, oldX8_3, oldX8_6, oldX6, oldX3])) (by simp (disch := decide) only [up2_at, up2_ne, up2_row, rowX1, rowX0, rowX2, rowX7, rowX9, rowX5, rowX8_3, rowX8_6, rowX6, rowX3]) ?_
  refine a_len (tt := 3) (n := 12) rfl (by first | assumption | (simp (disch := omega) only [upK_self, hK, upK_ne, oldX1, oldX0, oldX2, oldX7, oldX9, oldX5, oldX8_3, oldX8_6, oldX6, oldX3]) | (simp (disch := omega) only [upK_ne, upK_self, hK, upK_ne, oldX1, oldX0, oldX2, oldX7, oldX9, oldX5, oldX8_3, oldX8_6, oldX6, oldX3])) rfl rfl ?_
  refine a_ic_ge rfl (fun c => ?_) (fun c => absurd (by decide) c)
  exact a_vret rfl rfl ⟨rfl, rfl⟩
def kX12 (K : Nat → Nat × Nat) : Nat → Nat × Nat := upK (upK (upK (upK (upK (upK (upK (upK (upK (upK K 421 (2, 2033)) 422 (2, 1184)) 423 (2, 1184)) 424 (2, 335)) 425 (2, 4020)) 426 (3, 400)) 427 (2, 5)) 428 (2, 400)) 429 (2, 6)) 430 (4, 7)
def iX12 (I : Nat → Nat → Int32) : Nat → Nat → Int32 := up2 (up2 (up2 (up2 (up2 I 420 14 (-1)) 421 4 1) 421 7 2) 421 8 3) 421 10 1
def rX12 (R : Nat → Nat → Nat) : Nat → Nat → Nat := up2 (up2 (up2 (up2 (up2 (up2 (up2 (up2 (up2 (up2 R 420 1 (421 + 1)) 420 2 (422 + 1)) 420 3 (423 + 1)) 420 4 (424 + 1)) 420 5 (425 + 1)) 420 8 (426 + 1)) 420 15 (427 + 1)) 420 17 (428 + 1)) 420 18 (429 + 1)) 420 19 (430 + 1)
theorem oldX12 {K : Nat → Nat × Nat} {p : Nat} (h : p < 421) : kX12 K p = K p := by
  unfold kX12
  simp (disch := omega) only [upK_ne, oldX1, oldX0, oldX2, oldX7, oldX9, oldX5, oldX8_3, oldX8_6, oldX6, oldX3, oldX11]
theorem frX12 {I : Nat → Nat → Int32} {L : Nat → Nat → Int64} {R : Nat → Nat → Nat} {z : Nat} (f : Fr I L R 421) : Fr (iX12 I) L (rX12 R) 431 := by
  unfold iX12 rX12
  exact ((((((Fr.mono (t' := 431) ((Fr.mono (t' := 430) ((Fr.mono (t' := 429) ((Fr.mono (t' := 428) (((Fr.mono (t' := 427) ((Fr.mono (t' := 426) ((Fr.mono (t' := 425) ((Fr.mono (t' := 424) ((Fr.mono (t' := 423) ((Fr.mono (t' := 422) f (Nat.le_succ _)).putR (by decide)) (Nat.le_succ _)).putR (by decide)) (Nat.le_succ _)).putR (by decide)) (Nat.le_succ _)).putR (by decide)) (Nat.le_succ _)).putR (by decide)) (Nat.le_succ _)).putR (by decide)).putI (by decide)) (Nat.le_succ _)).putR (by decide)) (Nat.le_succ _)).putR (by decide)) (Nat.le_succ _)).putR (by decide)) (Nat.le_succ _)).putR (by decide)).putI (by decide)).putI (by decide)).putI (by decide)).putI (by decide))
theorem sp_X12_init {S : aS} {K : Nat → Nat × Nat} {I : Nat → Nat → Int32} {L : Nat → Nat → Int64} {R : Nat → Nat → Nat} (hK : K 420 = (1, 12)) (f : Fr I L R 421) : SpM S m_X12_init 12 10 9574 [.ref 420] (K, I, L, R, 421) (kX12 K, iX12 I, L, rX12 R, 431) := by
  refine SpM_of ok_X12_init rfl rfl ?_
  refine a_l0 rfl rfl rfl ?_
  refine a_objinit rfl lX12_7 oi_1 oi_2 rfl rfl ?_
  refine a_l0 rfl rfl rfl ?_
  refine a_s rfl rfl ?_
  refine a_newarr (N := 2033) (tg := 0) rfl rfl rfl ar_int (by decide) (by decide) rfl rfl rfl rfl f.i f.l ?_
  replace f := f.mono (t' := 422) (Nat.le_succ _)
  refine a_putq rfl pfX12_13_12 (by first | assumption | (simp (disch := omega) only [upK_self, hK, upK_ne, oldX1, oldX0, oldX2, oldX7, oldX9, oldX5, oldX8_3, oldX8_6, oldX6, oldX3, oldX11]) | (simp (disch := omega) only [upK_ne, upK_self, hK, upK_ne, oldX1, oldX0, oldX2, oldX7, oldX9, oldX5, oldX8_3, oldX8_6, oldX6, oldX3, oldX11])) ?_
  replace f := f.putR (q := 420) (k := 1) (v := 421 + 1) (by decide)
  refine a_l0 rfl rfl rfl ?_
  refine a_s rfl rfl ?_
  refine a_newarr (N := 1184) (tg := 0) rfl rfl rfl ar_int (by decide) (by decide) rfl rfl rfl rfl f.i f.l ?_
  replace f := f.mono (t' := 423) (Nat.le_succ _)
  refine a_putq rfl pfX12_17_12 (by first | assumption | (simp (disch := omega) only [upK_self, hK, upK_ne, oldX1, oldX0, oldX2, oldX7, oldX9, oldX5, oldX8_3, oldX8_6, oldX6, oldX3, oldX11]) | (simp (disch := omega) only [upK_ne, upK_self, hK, upK_ne, oldX1, oldX0, oldX2, oldX7, oldX9, oldX5, oldX8_3, oldX8_6, oldX6, oldX3, oldX11])) ?_
  replace f := f.putR (q := 420) (k := 2) (v := 422 + 1) (by decide)
  refine a_l0 rfl rfl rfl ?_
  refine a_s rfl rfl ?_
  refine a_newarr (N := 1184) (tg := 0) rfl rfl rfl ar_int (by decide) (by decide) rfl rfl rfl rfl f.i f.l ?_
  replace f := f.mono (t' := 424) (Nat.le_succ _)
  refine a_putq rfl pfX12_20_12 (by first | assumption | (simp (disch := omega) only [upK_self, hK, upK_ne, oldX1, oldX0, oldX2, oldX7, oldX9, oldX5, oldX8_3, oldX8_6, oldX6, oldX3, oldX11]) | (simp (disch := omega) only [upK_ne, upK_self, hK, upK_ne, oldX1, oldX0, oldX2, oldX7, oldX9, oldX5, oldX8_3, oldX8_6, oldX6, oldX3, oldX11])) ?_
  replace f := f.putR (q := 420) (k := 3) (v := 423 + 1) (by decide)
  refine a_l0 rfl rfl rfl ?_
  refine a_s rfl rfl ?_
  refine a_newarr (N := 335) (tg := 0) rfl rfl rfl ar_int (by decide) (by decide) rfl rfl rfl rfl f.i f.l ?_
  replace f := f.mono (t' := 425) (Nat.le_succ _)
  refine a_putq rfl pfX12_23_12 (by first | assumption | (simp (disch := omega) only [upK_self, hK, upK_ne, oldX1, oldX0, oldX2, oldX7, oldX9, oldX5, oldX8_3, oldX8_6, oldX6, oldX3, oldX11]) | (simp (disch := omega) only [upK_ne, upK_self, hK, upK_ne, oldX1, oldX0, oldX2, oldX7, oldX9, oldX5, oldX8_3, oldX8_6, oldX6, oldX3, oldX11])) ?_
  replace f := f.putR (q := 420) (k := 4) (v := 424 + 1) (by decide)
  refine a_l0 rfl rfl rfl ?_
  refine a_s rfl rfl ?_
  refine a_newarr (N := 4020) (tg := 0) rfl rfl rfl ar_int (by decide) (by decide) rfl rfl rfl rfl f.i f.l ?_
  replace f := f.mono (t' := 426) (Nat.le_succ _)
  refine a_putq rfl pfX12_26_12 (by first | assumption | (simp (disch := omega) only [upK_self, hK, upK_ne, oldX1, oldX0, oldX2, oldX7, oldX9, oldX5, oldX8_3, oldX8_6, oldX6, oldX3, oldX11]) | (simp (disch := omega) only [upK_ne, upK_self, hK, upK_ne, oldX1, oldX0, oldX2, oldX7, oldX9, oldX5, oldX8_3, oldX8_6, oldX6, oldX3, oldX11])) ?_
  replace f := f.putR (q := 420) (k := 5) (v := 425 + 1) (by decide)
  refine a_l0 rfl rfl rfl ?_
  refine a_s rfl rfl ?_
  refine a_newarr (N := 400) (tg := 1) rfl rfl rfl ar_byte (by decide) (by decide) rfl rfl rfl rfl f.i f.l ?_
  replace f := f.mono (t' := 427) (Nat.le_succ _)
  refine a_putq rfl pfX12_29_12 (by first | assumption | (simp (disch := omega) only [upK_self, hK, upK_ne, oldX1, oldX0, oldX2, oldX7, oldX9, oldX5, oldX8_3, oldX8_6, oldX6, oldX3, oldX11]) | (simp (disch := omega) only [upK_ne, upK_self, hK, upK_ne, oldX1, oldX0, oldX2, oldX7, oldX9, oldX5, oldX8_3, oldX8_6, oldX6, oldX3, oldX11])) ?_
  replace f := f.putR (q := 420) (k := 8) (v := 426 + 1) (by decide)
  refine a_l0 rfl rfl rfl ?_
  refine a_s rfl rfl ?_
  refine a_puti rfl pfX12_33_12 (by first | assumption | (simp (disch := omega) only [upK_self, hK, upK_ne, oldX1, oldX0, oldX2, oldX7, oldX9, oldX5, oldX8_3, oldX8_6, oldX6, oldX3, oldX11]) | (simp (disch := omega) only [upK_ne, upK_self, hK, upK_ne, oldX1, oldX0, oldX2, oldX7, oldX9, oldX5, oldX8_3, oldX8_6, oldX6, oldX3, oldX11])) ?_
  replace f := f.putI (q := 420) (k := 14) (v := (-1)) (by decide)
  refine a_l0 rfl rfl rfl ?_
  refine a_s rfl rfl ?_
  refine a_newarr (N := 5) (tg := 0) rfl rfl rfl ar_int (by decide) (by decide) rfl rfl rfl rfl f.i f.l ?_
  replace f := f.mono (t' := 428) (Nat.le_succ _)
  refine a_putq rfl pfX12_36_12 (by first | assumption | (simp (disch := omega) only [upK_self, hK, upK_ne, oldX1, oldX0, oldX2, oldX7, oldX9, oldX5, oldX8_3, oldX8_6, oldX6, oldX3, oldX11]) | (simp (disch := omega) only [upK_ne, upK_self, hK, upK_ne, oldX1, oldX0, oldX2, oldX7, oldX9, oldX5, oldX8_3, oldX8_6, oldX6, oldX3, oldX11])) ?_
  replace f := f.putR (q := 420) (k := 15) (v := 427 + 1) (by decide)
  refine a_l0 rfl rfl rfl ?_
  refine a_s rfl rfl ?_
  refine a_newarr (N := 400) (tg := 0) rfl rfl rfl ar_int (by decide) (by decide) rfl rfl rfl rfl f.i f.l ?_
  replace f := f.mono (t' := 429) (Nat.le_succ _)
  refine a_putq rfl pfX12_39_12 (by first | assumption | (simp (disch := omega) only [upK_self, hK, upK_ne, oldX1, oldX0, oldX2, oldX7, oldX9, oldX5, oldX8_3, oldX8_6, oldX6, oldX3, oldX11]) | (simp (disch := omega) only [upK_ne, upK_self, hK, upK_ne, oldX1, oldX0, oldX2, oldX7, oldX9, oldX5, oldX8_3, oldX8_6, oldX6, oldX3, oldX11])) ?_
  replace f := f.putR (q := 420) (k := 17) (v := 428 + 1) (by decide)
  refine a_l0 rfl rfl rfl ?_
  refine a_s rfl rfl ?_
  refine a_newarr (N := 6) (tg := 0) rfl rfl rfl ar_int (by decide) (by decide) rfl rfl rfl rfl f.i f.l ?_
  replace f := f.mono (t' := 430) (Nat.le_succ _)
  refine a_putq rfl pfX12_42_12 (by first | assumption | (simp (disch := omega) only [upK_self, hK, upK_ne, oldX1, oldX0, oldX2, oldX7, oldX9, oldX5, oldX8_3, oldX8_6, oldX6, oldX3, oldX11]) | (simp (disch := omega) only [upK_ne, upK_self, hK, upK_ne, oldX1, oldX0, oldX2, oldX7, oldX9, oldX5, oldX8_3, oldX8_6, oldX6, oldX3, oldX11])) ?_
  replace f := f.putR (q := 420) (k := 18) (v := 429 + 1) (by decide)
  refine a_l0 rfl rfl rfl ?_
  refine a_s rfl rfl ?_
  refine a_newarr (N := 7) (tg := 2) rfl rfl rfl ar_long (by decide) (by decide) rfl rfl rfl rfl f.i f.l ?_
  replace f := f.mono (t' := 431) (Nat.le_succ _)
  refine a_putq rfl pfX12_45_12 (by first | assumption | (simp (disch := omega) only [upK_self, hK, upK_ne, oldX1, oldX0, oldX2, oldX7, oldX9, oldX5, oldX8_3, oldX8_6, oldX6, oldX3, oldX11]) | (simp (disch := omega) only [upK_ne, upK_self, hK, upK_ne, oldX1, oldX0, oldX2, oldX7, oldX9, oldX5, oldX8_3, oldX8_6, oldX6, oldX3, oldX11])) ?_
  replace f := f.putR (q := 420) (k := 19) (v := 430 + 1) (by decide)
  refine a_l0 rfl rfl rfl ?_
  refine a_getq (q := 421) rfl gfX12_13_12 (by first | assumption | (simp (disch := omega) only [upK_self, hK, upK_ne, oldX1, oldX0, oldX2, oldX7, oldX9, oldX5, oldX8_3, oldX8_6, oldX6, oldX3, oldX11]) | (simp (disch := omega) only [upK_ne, upK_self, hK, upK_ne, oldX1, oldX0, oldX2, oldX7, oldX9, oldX5, oldX8_3, oldX8_6, oldX6, oldX3, oldX11])) (by simp (disch := decide) only [up2_at, up2_ne, up2_row, rowX1, rowX0, rowX2, rowX7, rowX9, rowX5, rowX8_3, rowX8_6, rowX6, rowX3]) ?_
  refine a_s rfl rfl ?_
  refine a_s rfl rfl ?_
  refine a_iast (n := 2033) rfl (by first | assumption | (simp (disch := omega) only [upK_self, hK, upK_ne, oldX1, oldX0, oldX2, oldX7, oldX9, oldX5, oldX8_3, oldX8_6, oldX6, oldX3, oldX11]) | (simp (disch := omega) only [upK_ne, upK_self, hK, upK_ne, oldX1, oldX0, oldX2, oldX7, oldX9, oldX5, oldX8_3, oldX8_6, oldX6, oldX3, oldX11])) ⟨by decide, by decide⟩ ?_
  replace f := f.putI (q := 421) (k := 4) (v := 1) (by decide)
  refine a_l0 rfl rfl rfl ?_
  refine a_getq (q := 421) rfl gfX12_13_12 (by first | assumption | (simp (disch := omega) only [upK_self, hK, upK_ne, oldX1, oldX0, oldX2, oldX7, oldX9, oldX5, oldX8_3, oldX8_6, oldX6, oldX3, oldX11]) | (simp (disch := omega) only [upK_ne, upK_self, hK, upK_ne, oldX1, oldX0, oldX2, oldX7, oldX9, oldX5, oldX8_3, oldX8_6, oldX6, oldX3, oldX11])) (by simp (disch := decide) only [up2_at, up2_ne, up2_row, rowX1, rowX0, rowX2, rowX7, rowX9, rowX5, rowX8_3, rowX8_6, rowX6, rowX3]) ?_
  refine a_s rfl rfl ?_
  refine a_s rfl rfl ?_
  refine a_iast (n := 2033) rfl (by first | assumption | (simp (disch := omega) only [upK_self, hK, upK_ne, oldX1, oldX0, oldX2, oldX7, oldX9, oldX5, oldX8_3, oldX8_6, oldX6, oldX3, oldX11]) | (simp (disch := omega) only [upK_ne, upK_self, hK, upK_ne, oldX1, oldX0, oldX2, oldX7, oldX9, oldX5, oldX8_3, oldX8_6, oldX6, oldX3, oldX11])) ⟨by decide, by decide⟩ ?_
  replace f := f.putI (q := 421) (k := 7) (v := 2) (by decide)
  refine a_l0 rfl rfl rfl ?_
  refine a_getq (q := 421) rfl gfX12_13_12 (by first | assumption | (simp (disch := omega) only [upK_self, hK, upK_ne, oldX1, oldX0, oldX2, oldX7, oldX9, oldX5, oldX8_3, oldX8_6, oldX6, oldX3, oldX11]) | (simp (disch := omega) only [upK_ne, upK_self, hK, upK_ne, oldX1, oldX0, oldX2, oldX7, oldX9, oldX5, oldX8_3, oldX8_6, oldX6, oldX3, oldX11])) (by simp (disch := decide) only [up2_at, up2_ne, up2_row, rowX1, rowX0, rowX2, rowX7, rowX9, rowX5, rowX8_3, rowX8_6, rowX6, rowX3]) ?_
  refine a_s rfl rfl ?_
  refine a_s rfl rfl ?_
  refine a_iast (n := 2033) rfl (by first | assumption | (simp (disch := omega) only [upK_self, hK, upK_ne, oldX1, oldX0, oldX2, oldX7, oldX9, oldX5, oldX8_3, oldX8_6, oldX6, oldX3, oldX11]) | (simp (disch := omega) only [upK_ne, upK_self, hK, upK_ne, oldX1, oldX0, oldX2, oldX7, oldX9, oldX5, oldX8_3, oldX8_6, oldX6, oldX3, oldX11])) ⟨by decide, by decide⟩ ?_
  replace f := f.putI (q := 421) (k := 8) (v := 3) (by decide)
  refine a_l0 rfl rfl rfl ?_
  refine a_getq (q := 421) rfl gfX12_13_12 (by first | assumption | (simp (disch := omega) only [upK_self, hK, upK_ne, oldX1, oldX0, oldX2, oldX7, oldX9, oldX5, oldX8_3, oldX8_6, oldX6, oldX3, oldX11]) | (simp (disch := omega) only [upK_ne, upK_self, hK, upK_ne, oldX1, oldX0, oldX2, oldX7, oldX9, oldX5, oldX8_3, oldX8_6, oldX6, oldX3, oldX11])) (by simp (disch := decide) only [up2_at, up2_ne, up2_row, rowX1, rowX0, rowX2, rowX7, rowX9, rowX5, rowX8_3, rowX8_6, rowX6, rowX3]) ?_
  refine a_s rfl rfl ?_
  refine a_s rfl rfl ?_
  refine a_iast (n := 2033) rfl (by first | assumption | (simp (disch := omega) only [upK_self, hK, upK_ne, oldX1, oldX0, oldX2, oldX7, oldX9, oldX5, oldX8_3, oldX8_6, oldX6, oldX3, oldX11]) | (simp (disch := omega) only [upK_ne, upK_self, hK, upK_ne, oldX1, oldX0, oldX2, oldX7, oldX9, oldX5, oldX8_3, oldX8_6, oldX6, oldX3, oldX11])) ⟨by decide, by decide⟩ ?_
  replace f := f.putI (q := 421) (k := 10) (v := 1) (by decide)
  exact a_vret rfl rfl ⟨rfl, rfl⟩
end
