/-! ===== a street: what is read off it ===== -/
theorem le_nl (x y : Int32) : x ≤ y ↔ ¬ y < x := Int32.not_lt.symm
theorem bI_0 (b : Bool) : bI b = 0 ↔ b = false := by cases b <;> simp [bI]
def cntF : Nat → (Nat → Bool) → Nat
  | 0, _ => 0
  | n + 1, P => if P n then cntF n P + 1 else cntF n P
theorem cntF_le (n : Nat) (P : Nat → Bool) : cntF n P ≤ n := by
  induction n with
  | zero => exact Nat.le_refl 0
  | succ n ih => unfold cntF; split <;> omega
theorem cntF_congr {n : Nat} {P P' : Nat → Bool} (h : ∀ d, d < n → P d = P' d) : cntF n P = cntF n P' := by
  induction n with
  | zero => rfl
  | succ n ih => simp only [cntF]; rw [h n (by omega), ih fun d hd => h d (by omega)]
def waitF (nd : Nat) (st : Nat → Int32) (i : Int32) : Bool := decide (¬ i < 0 ∧ ¬ nI nd ≤ i ∧ atF st 12 i = 0)
theorem waitF_nI {nd d : Nat} {st : Nat → Int32} (h : d < nd) (hn : nd ≤ 12) : waitF nd st (nI d) = decide (st d = 0) := by
  unfold waitF
  rw [atF_nI (by omega) (by decide)]
  simp [nI_pos (show d < 2 ^ 31 by omega), nI_ge h (by omega)]
def lfF (le st : Nat → Int32) (i : Int32) : Bool := decide (atF le 12 i = -1 ∨ atF st 12 (atF le 12 i) = 1)
def rdF (nd : Nat) (st le : Nat → Int32) (i : Int32) : Bool := waitF nd st i && lfF le st i
def inS (nd : Nat) (st : Nat → Int32) (w : Int32) : Int32 := bs nd (fun d => decide (st d = w))
def oldF (nd : Nat) (st ag : Nat → Int32) (m : Int32) : Int32 := bs nd (fun d => decide (st d = 0 ∧ m < ag d))
def ownF (nd : Nat) (ow : Nat → Int32) (p : Int32) : Int32 := bs nd (fun d => decide (ow d = p))
def loadF (nd : Nat) (st ow lf : Nat → Int32) (p : Int32) : Int32 := sumF lf (inS nd st 0 &&& ownF nd ow p) 12
def standF (np : Nat) (ke : Nat → Int32) (x y : Int32) : Int32 := bs np (fun p => decide (x ≤ ke p ∧ ke p ≤ y))
def placeC (nd : Nat) (st ag : Nat → Int32) (i : Int32) : Nat := cntF nd (fun d => decide (st d = 0 ∧ (ag d < atF ag 12 i ∨ (ag d = atF ag 12 i ∧ nI d < i))))
def placeF (nd : Nat) (st ag : Nat → Int32) (i : Int32) : Int32 := if waitF nd st i then nI (placeC nd st ag i) else -1
set_option maxRecDepth 100000
theorem sp_X5_isWaiting {S : aS} {I : Nat → Nat → Int32} {L : Nat → Nat → Int64} {w1 w2 t : Nat} {a nd : Nat} (hs : stp a) (hd : I a 3 = nI nd) (hn : nd ≤ 12) {i : Int32} : SpE S m_X5_isWaiting 14 [.ref a, .int i] (hp I L w1 w2 t) (some (.int (bI (waitF nd (I (a + 8)) i)))) (hp I L w1 w2 t) := by
  refine SpE_of ok_X5_isWaiting rfl rfl ?_
  show AW S m_X5_isWaiting 14 _ _ 0 0 0 [some (.ref a), some (.int i)] [] (hp I L w1 w2 t)
  refine a_l1 rfl rfl rfl ?_
  refine a_if_lt rfl (fun c1 => ?_) (fun c1 => ?_)
  · refine a_s rfl rfl ?_
    refine a_zret rfl rfl rfl ⟨by simp [waitF, bI, *], rfl⟩
  · refine a_l1 rfl rfl rfl ?_
    refine a_l0 rfl rfl rfl ?_
    refine a_geti rfl gfX5_63_5 (kS0 hs) ?_
    rw [hd]
    refine a_ic_ge rfl (fun c9 => ?_) (fun c9 => ?_)
    · refine a_s rfl rfl ?_
      refine a_zret rfl rfl rfl ⟨by simp [waitF, bI, *], rfl⟩
    · refine a_l0 rfl rfl rfl ?_
      refine a_getq rfl gfX5_33_5 (kS0 hs) (rS9 hs) ?_
      refine a_l1 rfl rfl rfl ?_
      refine a_eSN1 rfl lX5_86 mo_X11_at (sp_X11_at (by first | rfl | assumption | exact kS0 hs | exact kS1 hs | exact kS2 hs | exact kS3 hs | exact kS4 hs | exact kS5 hs | exact kS6 hs | exact kS7 hs | exact kS8 hs | exact kS9 hs | exact kS10 hs)) rfl rfl rfl rfl ?_
      refine a_if_ne rfl (fun c20 => ?_) (fun c20 => ?_)
      · refine a_s rfl rfl ?_
        refine a_zret rfl rfl rfl ⟨by simp [waitF, bI, *], rfl⟩
      · refine a_s rfl rfl ?_
        refine a_goto rfl ?_
        refine a_zret rfl rfl rfl ⟨by simp [waitF, bI, *], rfl⟩
theorem sp_X5_leansFreely {S : aS} {I : Nat → Nat → Int32} {L : Nat → Nat → Int64} {w1 w2 t : Nat} {a : Nat} (hs : stp a) {i : Int32} : SpE S m_X5_leansFreely 14 [.ref a, .int i] (hp I L w1 w2 t) (some (.int (bI (lfF (I (a + 7)) (I (a + 8)) i)))) (hp I L w1 w2 t) := by
  refine SpE_of ok_X5_leansFreely rfl rfl ?_
  show AW S m_X5_leansFreely 14 _ _ 0 0 0 [some (.ref a), some (.int i), none] [] (hp I L w1 w2 t)
  refine a_l0 rfl rfl rfl ?_
  refine a_getq rfl gfX5_30_5 (kS0 hs) (rS8 hs) ?_
  refine a_l1 rfl rfl rfl ?_
  refine a_eSN1 rfl lX5_86 mo_X11_at (sp_X11_at (by first | rfl | assumption | exact kS0 hs | exact kS1 hs | exact kS2 hs | exact kS3 hs | exact kS4 hs | exact kS5 hs | exact kS6 hs | exact kS7 hs | exact kS8 hs | exact kS9 hs | exact kS10 hs)) rfl rfl rfl rfl ?_
  refine a_s2 rfl rfl rfl rfl rfl rfl ?_
  refine a_l2 rfl rfl rfl ?_
  refine a_s rfl rfl ?_
  refine a_ic_eq rfl (fun c11 => ?_) (fun c11 => ?_)
  · refine a_s rfl rfl ?_
    refine a_goto rfl ?_
    refine a_zret rfl rfl rfl ⟨by simp [lfF, bI, *], rfl⟩
  · refine a_l0 rfl rfl rfl ?_
    refine a_getq rfl gfX5_33_5 (kS0 hs) (rS9 hs) ?_
    refine a_l2 rfl rfl rfl ?_
    refine a_eSN1 rfl lX5_86 mo_X11_at (sp_X11_at (by first | rfl | assumption | exact kS0 hs | exact kS1 hs | exact kS2 hs | exact kS3 hs | exact kS4 hs | exact kS5 hs | exact kS6 hs | exact kS7 hs | exact kS8 hs | exact kS9 hs | exact kS10 hs)) rfl rfl rfl rfl ?_
    refine a_s rfl rfl ?_
    refine a_ic_ne rfl (fun c23 => ?_) (fun c23 => ?_)
    · refine a_s rfl rfl ?_
      refine a_zret rfl rfl rfl ⟨by simp [lfF, bI, *], rfl⟩
    · refine a_s rfl rfl ?_
      refine a_goto rfl ?_
      refine a_zret rfl rfl rfl ⟨by simp [lfF, bI, *], rfl⟩
theorem sp_X5_isReady {S : aS} {I : Nat → Nat → Int32} {L : Nat → Nat → Int64} {w1 w2 t : Nat} {a nd : Nat} (hs : stp a) (hd : I a 3 = nI nd) (hn : nd ≤ 12) {i : Int32} : SpE S m_X5_isReady 15 [.ref a, .int i] (hp I L w1 w2 t) (some (.int (bI (rdF nd (I (a + 8)) (I (a + 7)) i)))) (hp I L w1 w2 t) := by
  refine SpE_of ok_X5_isReady rfl rfl ?_
  show AW S m_X5_isReady 15 _ _ 0 0 0 [some (.ref a), some (.int i)] [] (hp I L w1 w2 t)
  refine a_l0 rfl rfl rfl ?_
  refine a_l1 rfl rfl rfl ?_
  refine a_eV1 rfl lX5_90 mo_X5_isWaiting (sp_X5_isWaiting hs hd hn) rfl rfl rfl ⟨5, _, (kS0 hs), rfl, rfl⟩ rfl ?_
  refine a_if_eq rfl (fun c5 => ?_) (fun c5 => ?_)
  · refine a_s rfl rfl ?_
    refine a_zret rfl rfl rfl ⟨by simp_all [rdF, bI_0, bI], rfl⟩
  · refine a_l0 rfl rfl rfl ?_
    refine a_l1 rfl rfl rfl ?_
    refine a_eV1 rfl lX5_94 mo_X5_leansFreely (sp_X5_leansFreely hs) rfl rfl rfl ⟨5, _, (kS0 hs), rfl, rfl⟩ rfl ?_
    refine a_if_eq rfl (fun c13 => ?_) (fun c13 => ?_)
    · refine a_s rfl rfl ?_
      refine a_zret rfl rfl rfl ⟨by simp_all [rdF, bI_0, bI], rfl⟩
    · refine a_s rfl rfl ?_
      refine a_goto rfl ?_
      refine a_zret rfl rfl rfl ⟨by simp_all [rdF, bI_0, bI], rfl⟩
theorem sp_X5_bitsIn {S : aS} {I : Nat → Nat → Int32} {L : Nat → Nat → Int64} {w1 w2 t : Nat} {a nd : Nat} (hs : stp a) (hd : I a 3 = nI nd) (hn : nd ≤ 12) {w : Int32} : SpE S m_X5_bitsIn 15 [.ref a, .int w] (hp I L w1 w2 t) (some (.int (inS nd (I (a + 8)) w))) (hp I L w1 w2 t) := by
  refine SpE_of ok_X5_bitsIn rfl rfl ?_
  show AW S m_X5_bitsIn 15 _ _ 0 0 0 [some (.ref a), some (.int w), none, none] [] (hp I L w1 w2 t)
  refine a_s rfl rfl ?_
  refine a_s2 rfl rfl rfl rfl rfl rfl ?_
  refine a_s rfl rfl ?_
  refine a_s3 rfl rfl rfl rfl rfl rfl ?_
  refine a_forE (n := nd) (fun j => [some (.ref a), some (.int w), some (.int (bs j (fun d => decide (I (a + 8) d = w)))), some (.int (nI j))]) (fun j => hp I L w1 w2 t) (by simp [lsub, nI_0, bs, sumF, cntF]) (rfl) ?_ (fun j hj ih4 => ?_)
  · refine a_l3 rfl rfl rfl ?_
    refine a_l0 rfl rfl rfl ?_
    refine a_geti rfl gfX5_63_5 (kS0 hs) ?_
    refine a_ic_ge rfl (fun c9 => ?_) (fun c => absurd (by rw [hd]; exact Int32.le_refl _) c)
    refine a_l2 rfl rfl rfl ?_
    refine a_iret rfl rfl ⟨rfl, rfl⟩
  · refine a_l3 rfl rfl rfl ?_
    refine a_l0 rfl rfl rfl ?_
    refine a_geti rfl gfX5_63_5 (kS0 hs) ?_
    refine a_ic_ge rfl (fun c => absurd c (by rw [hd]; exact nI_ge hj (by omega))) (fun c9 => ?_)
    refine a_l0 rfl rfl rfl ?_
    refine a_getq rfl gfX5_33_5 (kS0 hs) (rS9 hs) ?_
    refine a_l3 rfl rfl rfl ?_
    refine a_eSN1 rfl lX5_86 mo_X11_at (sp_X11_at (by first | rfl | assumption | exact kS0 hs | exact kS1 hs | exact kS2 hs | exact kS3 hs | exact kS4 hs | exact kS5 hs | exact kS6 hs | exact kS7 hs | exact kS8 hs | exact kS9 hs | exact kS10 hs)) rfl rfl rfl rfl ?_
    rw [atF_nI (by omega) (by decide)]
    refine a_l1 rfl rfl rfl ?_
    refine a_ic_ne rfl (fun c21 => ?_) (fun c21 => ?_)
    · refine a_i3 rfl rfl rfl ?_
      refine a_goto rfl ?_
      exact a_back ih4 (by simp [lsub, nI_1, bs, *]) rfl
    · refine a_l2 rfl rfl rfl ?_
      refine a_l3 rfl rfl rfl ?_
      refine a_eSN1 rfl lX5_97 mo_X11_bit (sp_X11_bit) rfl rfl rfl rfl ?_
      refine a_s rfl rfl ?_
      refine a_s2 rfl rfl rfl rfl rfl rfl ?_
      refine a_i3 rfl rfl rfl ?_
      refine a_goto rfl ?_
      exact a_back ih4 (by simp [lsub, nI_1, bs, *]) rfl
theorem sp_X5_olderThan {S : aS} {I : Nat → Nat → Int32} {L : Nat → Nat → Int64} {w1 w2 t : Nat} {a nd : Nat} (hs : stp a) (hd : I a 3 = nI nd) (hn : nd ≤ 12) {m : Int32} : SpE S m_X5_olderThan 15 [.ref a, .int m] (hp I L w1 w2 t) (some (.int (oldF nd (I (a + 8)) (I (a + 5)) m))) (hp I L w1 w2 t) := by
  refine SpE_of ok_X5_olderThan rfl rfl ?_
  show AW S m_X5_olderThan 15 _ _ 0 0 0 [some (.ref a), some (.int m), none, none] [] (hp I L w1 w2 t)
  refine a_s rfl rfl ?_
  refine a_s2 rfl rfl rfl rfl rfl rfl ?_
  refine a_s rfl rfl ?_
  refine a_s3 rfl rfl rfl rfl rfl rfl ?_
  refine a_forE (n := nd) (fun j => [some (.ref a), some (.int m), some (.int (bs j (fun d => decide (I (a + 8) d = 0 ∧ m < I (a + 5) d)))), some (.int (nI j))]) (fun j => hp I L w1 w2 t) (by simp [lsub, nI_0, bs, sumF, cntF]) (rfl) ?_ (fun j hj ih4 => ?_)
  · refine a_l3 rfl rfl rfl ?_
    refine a_l0 rfl rfl rfl ?_
    refine a_geti rfl gfX5_63_5 (kS0 hs) ?_
    refine a_ic_ge rfl (fun c9 => ?_) (fun c => absurd (by rw [hd]; exact Int32.le_refl _) c)
    refine a_l2 rfl rfl rfl ?_
    refine a_iret rfl rfl ⟨rfl, rfl⟩
  · refine a_l3 rfl rfl rfl ?_
    refine a_l0 rfl rfl rfl ?_
    refine a_geti rfl gfX5_63_5 (kS0 hs) ?_
    refine a_ic_ge rfl (fun c => absurd c (by rw [hd]; exact nI_ge hj (by omega))) (fun c9 => ?_)
    refine a_l0 rfl rfl rfl ?_
    refine a_l3 rfl rfl rfl ?_
    refine a_eV1 rfl lX5_90 mo_X5_isWaiting (sp_X5_isWaiting hs hd hn) rfl rfl rfl ⟨5, _, (kS0 hs), rfl, rfl⟩ rfl ?_
    rw [waitF_nI hj hn]
    refine a_if_eq rfl (fun c17 => ?_) (fun c17 => ?_)
    · refine a_i3 rfl rfl rfl ?_
      refine a_goto rfl ?_
      exact a_back ih4 (by simp_all [lsub, nI_1, bs, bI_0, waitF_nI, le_nl, -Int32.not_lt, -Int32.not_le]) rfl
    · refine a_l0 rfl rfl rfl ?_
      refine a_getq rfl gfX5_24_5 (kS0 hs) (rS6 hs) ?_
      refine a_l3 rfl rfl rfl ?_
      refine a_eSN1 rfl lX5_86 mo_X11_at (sp_X11_at (by first | rfl | assumption | exact kS0 hs | exact kS1 hs | exact kS2 hs | exact kS3 hs | exact kS4 hs | exact kS5 hs | exact kS6 hs | exact kS7 hs | exact kS8 hs | exact kS9 hs | exact kS10 hs)) rfl rfl rfl rfl ?_
      rw [atF_nI (by omega) (by decide)]
      refine a_l1 rfl rfl rfl ?_
      refine a_ic_le rfl (fun c29 => ?_) (fun c29 => ?_)
      · refine a_i3 rfl rfl rfl ?_
        refine a_goto rfl ?_
        exact a_back ih4 (by simp_all [lsub, nI_1, bs, bI_0, waitF_nI, le_nl, -Int32.not_lt, -Int32.not_le]) rfl
      · refine a_l2 rfl rfl rfl ?_
        refine a_l3 rfl rfl rfl ?_
        refine a_eSN1 rfl lX5_97 mo_X11_bit (sp_X11_bit) rfl rfl rfl rfl ?_
        refine a_s rfl rfl ?_
        refine a_s2 rfl rfl rfl rfl rfl rfl ?_
        refine a_i3 rfl rfl rfl ?_
        refine a_goto rfl ?_
        exact a_back ih4 (by simp_all [lsub, nI_1, bs, bI_0, waitF_nI, le_nl, -Int32.not_lt, -Int32.not_le]) rfl
theorem sp_X5_placeOf {S : aS} {I : Nat → Nat → Int32} {L : Nat → Nat → Int64} {w1 w2 t : Nat} {a nd : Nat} (hs : stp a) (hd : I a 3 = nI nd) (hn : nd ≤ 12) {i : Int32} : SpE S m_X5_placeOf 15 [.ref a, .int i] (hp I L w1 w2 t) (some (.int (placeF nd (I (a + 8)) (I (a + 5)) i))) (hp I L w1 w2 t) := by
  refine SpE_of ok_X5_placeOf rfl rfl ?_
  show AW S m_X5_placeOf 15 _ _ 0 0 0 [some (.ref a), some (.int i), none, none, none, none] [] (hp I L w1 w2 t)
  refine a_l0 rfl rfl rfl ?_
  refine a_l1 rfl rfl rfl ?_
  refine a_eV1 rfl lX5_90 mo_X5_isWaiting (sp_X5_isWaiting hs hd hn) rfl rfl rfl ⟨5, _, (kS0 hs), rfl, rfl⟩ rfl ?_
  refine a_if_ne rfl (fun c5 => ?_) (fun c5 => ?_)
  · refine a_l0 rfl rfl rfl ?_
    refine a_getq rfl gfX5_24_5 (kS0 hs) (rS6 hs) ?_
    refine a_l1 rfl rfl rfl ?_
    refine a_eSN1 rfl lX5_86 mo_X11_at (sp_X11_at (by first | rfl | assumption | exact kS0 hs | exact kS1 hs | exact kS2 hs | exact kS3 hs | exact kS4 hs | exact kS5 hs | exact kS6 hs | exact kS7 hs | exact kS8 hs | exact kS9 hs | exact kS10 hs)) rfl rfl rfl rfl ?_
    refine a_s2 rfl rfl rfl rfl rfl rfl ?_
    refine a_s rfl rfl ?_
    refine a_s3 rfl rfl rfl rfl rfl rfl ?_
    refine a_s rfl rfl ?_
    refine a_s4 rfl rfl rfl rfl rfl rfl ?_
    refine a_forE (n := nd) (fun j => [some (.ref a), some (.int i), some (.int (atF (I (a + 5)) 12 i)), some (.int (nI (cntF j (fun d => decide (I (a + 8) d = 0 ∧ (I (a + 5) d < atF (I (a + 5)) 12 i ∨ (I (a + 5) d = atF (I (a + 5)) 12 i ∧ nI d < i))))))), some (.int (nI j)), none]) (fun j => hp I L w1 w2 t) (by simp [lsub, nI_0, bs, sumF, cntF]) (rfl) ?_ (fun j hj ih24 => ?_)
    · refine a_l4 rfl rfl rfl ?_
      refine a_l0 rfl rfl rfl ?_
      refine a_geti rfl gfX5_63_5 (kS0 hs) ?_
      refine a_ic_ge rfl (fun c30 => ?_) (fun c => absurd (by rw [hd]; exact Int32.le_refl _) c)
      refine a_l3 rfl rfl rfl ?_
      refine a_iret rfl rfl ⟨by simp_all [placeF, placeC, bI_0], rfl⟩
    · refine a_l4 rfl rfl rfl ?_
      refine a_l0 rfl rfl rfl ?_
      refine a_geti rfl gfX5_63_5 (kS0 hs) ?_
      refine a_ic_ge rfl (fun c => absurd c (by rw [hd]; exact nI_ge hj (by omega))) (fun c30 => ?_)
      refine a_l0 rfl rfl rfl ?_
      refine a_getq rfl gfX5_24_5 (kS0 hs) (rS6 hs) ?_
      refine a_l4 rfl rfl rfl ?_
      refine a_eSN1 rfl lX5_86 mo_X11_at (sp_X11_at (by first | rfl | assumption | exact kS0 hs | exact kS1 hs | exact kS2 hs | exact kS3 hs | exact kS4 hs | exact kS5 hs | exact kS6 hs | exact kS7 hs | exact kS8 hs | exact kS9 hs | exact kS10 hs)) rfl rfl rfl rfl ?_
      rw [atF_nI (by omega) (by decide)]
      refine a_s5 rfl rfl rfl rfl rfl rfl ?_
      refine a_l0 rfl rfl rfl ?_
      refine a_l4 rfl rfl rfl ?_
      refine a_eV1 rfl lX5_90 mo_X5_isWaiting (sp_X5_isWaiting hs hd hn) rfl rfl rfl ⟨5, _, (kS0 hs), rfl, rfl⟩ rfl ?_
      rw [waitF_nI hj hn]
      refine a_if_eq rfl (fun c50 => ?_) (fun c50 => ?_)
      · refine a_i4 rfl rfl rfl ?_
        refine a_goto rfl ?_
        exact a_back ih24 (by simp_all [lsub, nI_1, cntF, bI_0, le_nl, -Int32.not_lt, -Int32.not_le]) rfl
      · refine a_l5 rfl rfl rfl ?_
        refine a_l2 rfl rfl rfl ?_
        refine a_ic_lt rfl (fun c56 => ?_) (fun c56 => ?_)
        · refine a_i3 rfl rfl rfl ?_
          refine a_i4 rfl rfl rfl ?_
          refine a_goto rfl ?_
          exact a_back ih24 (by simp_all [lsub, nI_1, cntF, bI_0, le_nl, -Int32.not_lt, -Int32.not_le]) rfl
        · refine a_l5 rfl rfl rfl ?_
          refine a_l2 rfl rfl rfl ?_
          refine a_ic_ne rfl (fun c62 => ?_) (fun c62 => ?_)
          · refine a_i4 rfl rfl rfl ?_
            refine a_goto rfl ?_
            exact a_back ih24 (by simp_all [lsub, nI_1, cntF, bI_0, le_nl, -Int32.not_lt, -Int32.not_le]) rfl
          · refine a_l4 rfl rfl rfl ?_
            refine a_l1 rfl rfl rfl ?_
            refine a_ic_ge rfl (fun c68 => ?_) (fun c68 => ?_)
            · refine a_i4 rfl rfl rfl ?_
              refine a_goto rfl ?_
              exact a_back ih24 (by simp_all [lsub, nI_1, cntF, bI_0, le_nl, -Int32.not_lt, -Int32.not_le]) rfl
            · refine a_i3 rfl rfl rfl ?_
              refine a_i4 rfl rfl rfl ?_
              refine a_goto rfl ?_
              exact a_back ih24 (by simp_all [lsub, nI_1, cntF, bI_0, le_nl, -Int32.not_lt, -Int32.not_le]) rfl
  · refine a_s rfl rfl ?_
    refine a_iret rfl rfl ⟨by simp_all [placeF, bI_0], rfl⟩
