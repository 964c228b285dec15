/-! ===== a street: more reads, small writes ===== -/
def rdBits (nd : Nat) (st le : Nat → Int32) : Int32 := bs nd (fun d => rdF nd st le (nI d))
def alikeF (nd : Nat) (st lf ag : Nat → Int32) (i k : Int32) : Bool := waitF nd st i && (waitF nd st k && decide (atF lf 12 i = atF lf 12 k ∧ atF ag 12 i = atF ag 12 k))
def bcF (x : Int32) : Int32 := let a := x - (((x.toUInt32 >>> ((1 : Int32).toUInt32 &&& Int32.toUInt32 31)).toInt32) &&& 1431655765); let b := (a &&& 858993459) + ((a.toUInt32 >>> ((2 : Int32).toUInt32 &&& Int32.toUInt32 31)).toInt32 &&& 858993459); let c := (b + (b.toUInt32 >>> ((4 : Int32).toUInt32 &&& Int32.toUInt32 31)).toInt32) &&& 252645135; let e := c + (c.toUInt32 >>> ((8 : Int32).toUInt32 &&& Int32.toUInt32 31)).toInt32; let f := e + (e.toUInt32 >>> ((16 : Int32).toUInt32 &&& Int32.toUInt32 31)).toInt32; f &&& 63
def passF (nd : Nat) (st ag : Nat → Int32) (pace i : Int32) : Int32 := if waitF nd st i then pace * bcF (inS nd st 0 &&& (oldF nd st ag (atF ag 12 i) ^^^ (-1))) else 0
def canF (nd : Nat) (st le lf ag : Nat → Int32) (pace : Int32) : Int32 := bs nd (fun d => rdF nd st le (nI d) && decide (lf d ≤ passF nd st ag pace (nI d)))
def kerbF (nd : Nat) (st ag : Nat → Int32) (pace i hour : Int32) : Int32 := if placeF nd st ag i = -1 then -1 else if 1 ≤ pace then (if 0 ≤ hour / pace - placeF nd st ag i then (if 16 < hour / pace - placeF nd st ag i then 16 else hour / pace - placeF nd st ag i) else -1) else -1
def finF (I : Nat → Nat → Int32) (a : Nat) (i : Int32) : Nat → Nat → Int32 := setF (setF I (a + 4) 12 i 0) (a + 8) 12 i 1
def growF (I : Nat → Nat → Int32) (a : Nat) (i : Int32) : Nat → Nat → Int32 := setF I (a + 5) 12 i (if atF (I (a + 5)) 12 i + 1 < 99 then atF (I (a + 5)) 12 i + 1 else 99)
def seedF (x : Int32) : Int32 := x * 1103515245 + 12345
def drawV (x : Int32) : Int32 := (x.toUInt32 >>> ((16 : Int32).toUInt32 &&& Int32.toUInt32 31)).toInt32 &&& 32767
theorem ic_ne1 : ¬ (-1 : Int32) = 0 := by decide
set_option maxRecDepth 100000
theorem sp_bitCount {S : aS} {h : aH} {x : Int32} : SpE S m_J6_bitCount_0f7a4 12 [.int x] (h) (some (.int (bcF x))) (h) := by
  refine SpE_of ok_J6_bitCount_0f7a4 rfl rfl ?_
  show AW S m_J6_bitCount_0f7a4 12 _ _ 0 0 0 [some (.int x)] [] (h)
  refine a_l0 rfl rfl rfl ?_
  refine a_l0 rfl rfl rfl ?_
  refine a_s rfl rfl ?_
  refine a_s rfl rfl ?_
  refine a_ldcw rfl kJ6_265 ?_
  refine a_s rfl rfl ?_
  refine a_s rfl rfl ?_
  refine a_s0 rfl rfl rfl rfl rfl ?_
  refine a_l0 rfl rfl rfl ?_
  refine a_ldcw rfl kJ6_266 ?_
  refine a_s rfl rfl ?_
  refine a_l0 rfl rfl rfl ?_
  refine a_s rfl rfl ?_
  refine a_s rfl rfl ?_
  refine a_ldcw rfl kJ6_266 ?_
  refine a_s rfl rfl ?_
  refine a_s rfl rfl ?_
  refine a_s0 rfl rfl rfl rfl rfl ?_
  refine a_l0 rfl rfl rfl ?_
  refine a_l0 rfl rfl rfl ?_
  refine a_s rfl rfl ?_
  refine a_s rfl rfl ?_
  refine a_s rfl rfl ?_
  refine a_ldcw rfl kJ6_267 ?_
  refine a_s rfl rfl ?_
  refine a_s0 rfl rfl rfl rfl rfl ?_
  refine a_l0 rfl rfl rfl ?_
  refine a_l0 rfl rfl rfl ?_
  refine a_s rfl rfl ?_
  refine a_s rfl rfl ?_
  refine a_s rfl rfl ?_
  refine a_s0 rfl rfl rfl rfl rfl ?_
  refine a_l0 rfl rfl rfl ?_
  refine a_l0 rfl rfl rfl ?_
  refine a_s rfl rfl ?_
  refine a_s rfl rfl ?_
  refine a_s rfl rfl ?_
  refine a_s0 rfl rfl rfl rfl rfl ?_
  refine a_l0 rfl rfl rfl ?_
  refine a_s rfl rfl ?_
  refine a_s rfl rfl ?_
  refine a_iret rfl rfl ⟨rfl, rfl⟩
theorem sp_X5_readyBits {S : aS} {I : Nat → Nat → Int32} {L : Nat → Nat → Int64} {w1 w2 t : Nat} {a nd : Nat} (hs : stp a) (hd : I a 3 = nI nd) (hn : nd ≤ 12) : SpE S m_X5_readyBits 16 [.ref a] (hp I L w1 w2 t) (some (.int (rdBits nd (I (a + 8)) (I (a + 7))))) (hp I L w1 w2 t) := by
  refine SpE_of ok_X5_readyBits rfl rfl ?_
  show AW S m_X5_readyBits 16 _ _ 0 0 0 [some (.ref a), none, none] [] (hp I L w1 w2 t)
  refine a_s rfl rfl ?_
  refine a_s1 rfl rfl rfl rfl rfl rfl ?_
  refine a_s rfl rfl ?_
  refine a_s2 rfl rfl rfl rfl rfl rfl ?_
  refine a_forE (n := nd) (fun j => [some (.ref a), some (.int (bs j (fun d => rdF nd (I (a + 8)) (I (a + 7)) (nI d)))), some (.int (nI j))]) (fun j => hp I L w1 w2 t) (by simp [lsub, nI_0, bs, sumF, cntF]) (rfl) ?_ (fun j hj ih4 => ?_)
  · refine a_l2 rfl rfl rfl ?_
    refine a_l0 rfl rfl rfl ?_
    refine a_geti rfl gfX5_63_5 (kS0 hs) ?_
    refine a_ic_ge rfl (fun c9 => ?_) (fun c => absurd (by rw [hd]; exact Int32.le_refl _) c)
    refine a_l1 rfl rfl rfl ?_
    refine a_iret rfl rfl ⟨rfl, rfl⟩
  · refine a_l2 rfl rfl rfl ?_
    refine a_l0 rfl rfl rfl ?_
    refine a_geti rfl gfX5_63_5 (kS0 hs) ?_
    refine a_ic_ge rfl (fun c => absurd c (by rw [hd]; exact nI_ge hj (by omega))) (fun c9 => ?_)
    refine a_l0 rfl rfl rfl ?_
    refine a_l2 rfl rfl rfl ?_
    refine a_eV1 rfl lX5_101 mo_X5_isReady (sp_X5_isReady hs hd hn) rfl rfl rfl ⟨5, _, (kS0 hs), rfl, rfl⟩ rfl ?_
    refine a_if_eq rfl (fun c17 => ?_) (fun c17 => ?_)
    · refine a_i2 rfl rfl rfl ?_
      refine a_goto rfl ?_
      exact a_back ih4 (by simp_all [lsub, nI_1, bs, bI_0]) rfl
    · refine a_l1 rfl rfl rfl ?_
      refine a_l2 rfl rfl rfl ?_
      refine a_eSN1 rfl lX5_97 mo_X11_bit (sp_X11_bit) rfl rfl rfl rfl ?_
      refine a_s rfl rfl ?_
      refine a_s1 rfl rfl rfl rfl rfl rfl ?_
      refine a_i2 rfl rfl rfl ?_
      refine a_goto rfl ?_
      exact a_back ih4 (by simp_all [lsub, nI_1, bs, bI_0]) rfl
theorem sp_X5_ownedBy {S : aS} {I : Nat → Nat → Int32} {L : Nat → Nat → Int64} {w1 w2 t : Nat} {a nd : Nat} (hs : stp a) (hd : I a 3 = nI nd) (hn : nd ≤ 12) {w : Int32} : SpE S m_X5_ownedBy 15 [.ref a, .int w] (hp I L w1 w2 t) (some (.int (ownF nd (I (a + 3)) w))) (hp I L w1 w2 t) := by
  refine SpE_of ok_X5_ownedBy rfl rfl ?_
  show AW S m_X5_ownedBy 15 _ _ 0 0 0 [some (.ref a), some (.int w), none, none] [] (hp I L w1 w2 t)
  refine a_s rfl rfl ?_
  refine a_s2 rfl rfl rfl rfl rfl rfl ?_
  refine a_s rfl rfl ?_
  refine a_s3 rfl rfl rfl rfl rfl rfl ?_
  refine a_forE (n := nd) (fun j => [some (.ref a), some (.int w), some (.int (bs j (fun d => decide (I (a + 3) d = w)))), some (.int (nI j))]) (fun j => hp I L w1 w2 t) (by simp [lsub, nI_0, bs, sumF, cntF]) (rfl) ?_ (fun j hj ih4 => ?_)
  · refine a_l3 rfl rfl rfl ?_
    refine a_l0 rfl rfl rfl ?_
    refine a_geti rfl gfX5_63_5 (kS0 hs) ?_
    refine a_ic_ge rfl (fun c9 => ?_) (fun c => absurd (by rw [hd]; exact Int32.le_refl _) c)
    refine a_l2 rfl rfl rfl ?_
    refine a_iret rfl rfl ⟨rfl, rfl⟩
  · refine a_l3 rfl rfl rfl ?_
    refine a_l0 rfl rfl rfl ?_
    refine a_geti rfl gfX5_63_5 (kS0 hs) ?_
    refine a_ic_ge rfl (fun c => absurd c (by rw [hd]; exact nI_ge hj (by omega))) (fun c9 => ?_)
    refine a_l0 rfl rfl rfl ?_
    refine a_getq rfl gfX5_18_5 (kS0 hs) (rS4 hs) ?_
    refine a_l3 rfl rfl rfl ?_
    refine a_eSN1 rfl lX5_86 mo_X11_at (sp_X11_at (by first | rfl | assumption | exact kS0 hs | exact kS1 hs | exact kS2 hs | exact kS3 hs | exact kS4 hs | exact kS5 hs | exact kS6 hs | exact kS7 hs | exact kS8 hs | exact kS9 hs | exact kS10 hs)) rfl rfl rfl rfl ?_
    rw [atF_nI (by omega) (by decide)]
    refine a_l1 rfl rfl rfl ?_
    refine a_ic_ne rfl (fun c21 => ?_) (fun c21 => ?_)
    · refine a_i3 rfl rfl rfl ?_
      refine a_goto rfl ?_
      exact a_back ih4 (by simp [lsub, nI_1, bs, *]) rfl
    · refine a_l2 rfl rfl rfl ?_
      refine a_l3 rfl rfl rfl ?_
      refine a_eSN1 rfl lX5_97 mo_X11_bit (sp_X11_bit) rfl rfl rfl rfl ?_
      refine a_s rfl rfl ?_
      refine a_s2 rfl rfl rfl rfl rfl rfl ?_
      refine a_i3 rfl rfl rfl ?_
      refine a_goto rfl ?_
      exact a_back ih4 (by simp [lsub, nI_1, bs, *]) rfl
theorem sp_X5_loadOf {S : aS} {I : Nat → Nat → Int32} {L : Nat → Nat → Int64} {w1 w2 t : Nat} {a nd : Nat} (hs : stp a) (hd : I a 3 = nI nd) (hn : nd ≤ 12) {w : Int32} : SpE S m_X5_loadOf 16 [.ref a, .int w] (hp I L w1 w2 t) (some (.int (loadF nd (I (a + 8)) (I (a + 3)) (I (a + 4)) w))) (hp I L w1 w2 t) := by
  refine SpE_of ok_X5_loadOf rfl rfl ?_
  show AW S m_X5_loadOf 16 _ _ 0 0 0 [some (.ref a), some (.int w)] [] (hp I L w1 w2 t)
  refine a_l0 rfl rfl rfl ?_
  refine a_getq rfl gfX5_21_5 (kS0 hs) (rS5 hs) ?_
  refine a_l0 rfl rfl rfl ?_
  refine a_s rfl rfl ?_
  refine a_eV1 rfl lX5_104 mo_X5_bitsIn (sp_X5_bitsIn hs hd hn) rfl rfl rfl ⟨5, _, (kS0 hs), rfl, rfl⟩ rfl ?_
  refine a_l0 rfl rfl rfl ?_
  refine a_l1 rfl rfl rfl ?_
  refine a_eV1 rfl lX5_107 mo_X5_ownedBy (sp_X5_ownedBy hs hd hn) rfl rfl rfl ⟨5, _, (kS0 hs), rfl, rfl⟩ rfl ?_
  refine a_s rfl rfl ?_
  refine a_eSN1 rfl lX5_110 mo_X11_sumOver (sp_X11_sumOver (by first | rfl | assumption | exact kS0 hs | exact kS1 hs | exact kS2 hs | exact kS3 hs | exact kS4 hs | exact kS5 hs | exact kS6 hs | exact kS7 hs | exact kS8 hs | exact kS9 hs | exact kS10 hs)) rfl rfl rfl rfl ?_
  refine a_iret rfl rfl ⟨rfl, rfl⟩
theorem sp_X5_standingBetween {S : aS} {I : Nat → Nat → Int32} {L : Nat → Nat → Int64} {w1 w2 t : Nat} {a np : Nat} (hs : stp a) (hp0 : I a 0 = nI np) (hn : np ≤ 6) {x y : Int32} : SpE S m_X5_standingBetween 15 [.ref a, .int x, .int y] (hp I L w1 w2 t) (some (.int (standF np (I (a + 1)) x y))) (hp I L w1 w2 t) := by
  refine SpE_of ok_X5_standingBetween rfl rfl ?_
  show AW S m_X5_standingBetween 15 _ _ 0 0 0 [some (.ref a), some (.int x), some (.int y), none, none] [] (hp I L w1 w2 t)
  refine a_s rfl rfl ?_
  refine a_s3 rfl rfl rfl rfl rfl rfl ?_
  refine a_s rfl rfl ?_
  refine a_s4 rfl rfl rfl rfl rfl rfl ?_
  refine a_forE (n := np) (fun j => [some (.ref a), some (.int x), some (.int y), some (.int (bs j (fun p => decide (x ≤ I (a + 1) p ∧ I (a + 1) p ≤ y)))), some (.int (nI j))]) (fun j => hp I L w1 w2 t) (by simp [lsub, nI_0, bs, sumF, cntF]) (rfl) ?_ (fun j hj ih5 => ?_)
  · refine a_l4 rfl rfl rfl ?_
    refine a_l0 rfl rfl rfl ?_
    refine a_geti rfl gfX5_56_5 (kS0 hs) ?_
    refine a_ic_ge rfl (fun c11 => ?_) (fun c => absurd (by rw [hp0]; exact Int32.le_refl _) c)
    refine a_l3 rfl rfl rfl ?_
    refine a_iret rfl rfl ⟨rfl, rfl⟩
  · refine a_l4 rfl rfl rfl ?_
    refine a_l0 rfl rfl rfl ?_
    refine a_geti rfl gfX5_56_5 (kS0 hs) ?_
    refine a_ic_ge rfl (fun c => absurd c (by rw [hp0]; exact nI_ge hj (by omega))) (fun c11 => ?_)
    refine a_l0 rfl rfl rfl ?_
    refine a_getq rfl gfX5_9_5 (kS0 hs) (rS1 hs) ?_
    refine a_l4 rfl rfl rfl ?_
    refine a_eSN1 rfl lX5_86 mo_X11_at (sp_X11_at (by first | rfl | assumption | exact kS0 hs | exact kS1 hs | exact kS2 hs | exact kS3 hs | exact kS4 hs | exact kS5 hs | exact kS6 hs | exact kS7 hs | exact kS8 hs | exact kS9 hs | exact kS10 hs)) rfl rfl rfl rfl ?_
    rw [atF_nI (by omega) (by decide)]
    refine a_l1 rfl rfl rfl ?_
    refine a_ic_lt rfl (fun c24 => ?_) (fun c24 => ?_)
    · refine a_i4 rfl rfl rfl ?_
      refine a_goto rfl ?_
      exact a_back ih5 (by simp_all [lsub, nI_1, bs, le_nl, -Int32.not_lt, -Int32.not_le]) rfl
    · refine a_l0 rfl rfl rfl ?_
      refine a_getq rfl gfX5_9_5 (kS0 hs) (rS1 hs) ?_
      refine a_l4 rfl rfl rfl ?_
      refine a_eSN1 rfl lX5_86 mo_X11_at (sp_X11_at (by first | rfl | assumption | exact kS0 hs | exact kS1 hs | exact kS2 hs | exact kS3 hs | exact kS4 hs | exact kS5 hs | exact kS6 hs | exact kS7 hs | exact kS8 hs | exact kS9 hs | exact kS10 hs)) rfl rfl rfl rfl ?_
      rw [atF_nI (by omega) (by decide)]
      refine a_l2 rfl rfl rfl ?_
      refine a_ic_gt rfl (fun c37 => ?_) (fun c37 => ?_)
      · refine a_i4 rfl rfl rfl ?_
        refine a_goto rfl ?_
        exact a_back ih5 (by simp_all [lsub, nI_1, bs, le_nl, -Int32.not_lt, -Int32.not_le]) rfl
      · refine a_l3 rfl rfl rfl ?_
        refine a_l4 rfl rfl rfl ?_
        refine a_eSN1 rfl lX5_97 mo_X11_bit (sp_X11_bit) rfl rfl rfl rfl ?_
        refine a_s rfl rfl ?_
        refine a_s3 rfl rfl rfl rfl rfl rfl ?_
        refine a_i4 rfl rfl rfl ?_
        refine a_goto rfl ?_
        exact a_back ih5 (by simp_all [lsub, nI_1, bs, le_nl, -Int32.not_lt, -Int32.not_le]) rfl
theorem sp_X5_areAlike {S : aS} {I : Nat → Nat → Int32} {L : Nat → Nat → Int64} {w1 w2 t : Nat} {a nd : Nat} (hs : stp a) (hd : I a 3 = nI nd) (hn : nd ≤ 12) {i k : Int32} : SpE S m_X5_areAlike 15 [.ref a, .int i, .int k] (hp I L w1 w2 t) (some (.int (bI (alikeF nd (I (a + 8)) (I (a + 4)) (I (a + 5)) i k)))) (hp I L w1 w2 t) := by
  refine SpE_of ok_X5_areAlike rfl rfl ?_
  show AW S m_X5_areAlike 15 _ _ 0 0 0 [some (.ref a), some (.int i), some (.int k)] [] (hp I L w1 w2 t)
  refine a_l0 rfl rfl rfl ?_
  refine a_l1 rfl rfl rfl ?_
  refine a_eV1 rfl lX5_90 mo_X5_isWaiting (sp_X5_isWaiting hs hd hn) rfl rfl rfl ⟨5, _, (kS0 hs), rfl, rfl⟩ rfl ?_
  refine a_if_eq rfl (fun c5 => ?_) (fun c5 => ?_)
  · refine a_s rfl rfl ?_
    refine a_zret rfl rfl rfl ⟨by simp_all [alikeF, bI_0, bI], rfl⟩
  · refine a_l0 rfl rfl rfl ?_
    refine a_l2 rfl rfl rfl ?_
    refine a_eV1 rfl lX5_90 mo_X5_isWaiting (sp_X5_isWaiting hs hd hn) rfl rfl rfl ⟨5, _, (kS0 hs), rfl, rfl⟩ rfl ?_
    refine a_if_eq rfl (fun c13 => ?_) (fun c13 => ?_)
    · refine a_s rfl rfl ?_
      refine a_zret rfl rfl rfl ⟨by simp_all [alikeF, bI_0, bI], rfl⟩
    · refine a_l0 rfl rfl rfl ?_
      refine a_getq rfl gfX5_21_5 (kS0 hs) (rS5 hs) ?_
      refine a_l1 rfl rfl rfl ?_
      refine a_eSN1 rfl lX5_86 mo_X11_at (sp_X11_at (by first | rfl | assumption | exact kS0 hs | exact kS1 hs | exact kS2 hs | exact kS3 hs | exact kS4 hs | exact kS5 hs | exact kS6 hs | exact kS7 hs | exact kS8 hs | exact kS9 hs | exact kS10 hs)) rfl rfl rfl rfl ?_
      refine a_l0 rfl rfl rfl ?_
      refine a_getq rfl gfX5_21_5 (kS0 hs) (rS5 hs) ?_
      refine a_l2 rfl rfl rfl ?_
      refine a_eSN1 rfl lX5_86 mo_X11_at (sp_X11_at (by first | rfl | assumption | exact kS0 hs | exact kS1 hs | exact kS2 hs | exact kS3 hs | exact kS4 hs | exact kS5 hs | exact kS6 hs | exact kS7 hs | exact kS8 hs | exact kS9 hs | exact kS10 hs)) rfl rfl rfl rfl ?_
      refine a_ic_ne rfl (fun c32 => ?_) (fun c32 => ?_)
      · refine a_s rfl rfl ?_
        refine a_zret rfl rfl rfl ⟨by simp_all [alikeF, bI_0, bI], rfl⟩
      · refine a_l0 rfl rfl rfl ?_
        refine a_getq rfl gfX5_24_5 (kS0 hs) (rS6 hs) ?_
        refine a_l1 rfl rfl rfl ?_
        refine a_eSN1 rfl lX5_86 mo_X11_at (sp_X11_at (by first | rfl | assumption | exact kS0 hs | exact kS1 hs | exact kS2 hs | exact kS3 hs | exact kS4 hs | exact kS5 hs | exact kS6 hs | exact kS7 hs | exact kS8 hs | exact kS9 hs | exact kS10 hs)) rfl rfl rfl rfl ?_
        refine a_l0 rfl rfl rfl ?_
        refine a_getq rfl gfX5_24_5 (kS0 hs) (rS6 hs) ?_
        refine a_l2 rfl rfl rfl ?_
        refine a_eSN1 rfl lX5_86 mo_X11_at (sp_X11_at (by first | rfl | assumption | exact kS0 hs | exact kS1 hs | exact kS2 hs | exact kS3 hs | exact kS4 hs | exact kS5 hs | exact kS6 hs | exact kS7 hs | exact kS8 hs | exact kS9 hs | exact kS10 hs)) rfl rfl rfl rfl ?_
        refine a_ic_ne rfl (fun c51 => ?_) (fun c51 => ?_)
        · refine a_s rfl rfl ?_
          refine a_zret rfl rfl rfl ⟨by simp_all [alikeF, bI_0, bI], rfl⟩
        · refine a_s rfl rfl ?_
          refine a_goto rfl ?_
          refine a_zret rfl rfl rfl ⟨by simp_all [alikeF, bI_0, bI], rfl⟩
theorem sp_X5_passesOf {S : aS} {I : Nat → Nat → Int32} {L : Nat → Nat → Int64} {w1 w2 t : Nat} {a nd : Nat} (hs : stp a) (hd : I a 3 = nI nd) (hn : nd ≤ 12) {i : Int32} : SpE S m_X5_passesOf 16 [.ref a, .int i] (hp I L w1 w2 t) (some (.int (passF nd (I (a + 8)) (I (a + 5)) (I a 13) i))) (hp I L w1 w2 t) := by
  refine SpE_of ok_X5_passesOf rfl rfl ?_
  show AW S m_X5_passesOf 16 _ _ 0 0 0 [some (.ref a), some (.int i), none] [] (hp I L w1 w2 t)
  refine a_l0 rfl rfl rfl ?_
  refine a_l1 rfl rfl rfl ?_
  refine a_eV1 rfl lX5_90 mo_X5_isWaiting (sp_X5_isWaiting hs hd hn) rfl rfl rfl ⟨5, _, (kS0 hs), rfl, rfl⟩ rfl ?_
  refine a_if_ne rfl (fun c5 => ?_) (fun c5 => ?_)
  · refine a_l0 rfl rfl rfl ?_
    refine a_s rfl rfl ?_
    refine a_eV1 rfl lX5_104 mo_X5_bitsIn (sp_X5_bitsIn hs hd hn) rfl rfl rfl ⟨5, _, (kS0 hs), rfl, rfl⟩ rfl ?_
    refine a_l0 rfl rfl rfl ?_
    refine a_l0 rfl rfl rfl ?_
    refine a_getq rfl gfX5_24_5 (kS0 hs) (rS6 hs) ?_
    refine a_l1 rfl rfl rfl ?_
    refine a_eSN1 rfl lX5_86 mo_X11_at (sp_X11_at (by first | rfl | assumption | exact kS0 hs | exact kS1 hs | exact kS2 hs | exact kS3 hs | exact kS4 hs | exact kS5 hs | exact kS6 hs | exact kS7 hs | exact kS8 hs | exact kS9 hs | exact kS10 hs)) rfl rfl rfl rfl ?_
    refine a_eV1 rfl lX5_116 mo_X5_olderThan (sp_X5_olderThan hs hd hn) rfl rfl rfl ⟨5, _, (kS0 hs), rfl, rfl⟩ rfl ?_
    refine a_s rfl rfl ?_
    refine a_s rfl rfl ?_
    refine a_s rfl rfl ?_
    refine a_s2 rfl rfl rfl rfl rfl rfl ?_
    refine a_l0 rfl rfl rfl ?_
    refine a_geti rfl gfX5_40_5 (kS0 hs) ?_
    refine a_l2 rfl rfl rfl ?_
    refine a_eS1 rfl lX5_119 mo_J6_bitCount_0f7a4 (sp_bitCount) rfl rfl rfl rfl ?_
    refine a_s rfl rfl ?_
    refine a_iret rfl rfl ⟨by simp_all [passF, bI_0], rfl⟩
  · refine a_s rfl rfl ?_
    refine a_iret rfl rfl ⟨by simp_all [passF, bI_0], rfl⟩
theorem sp_X5_canBits {S : aS} {I : Nat → Nat → Int32} {L : Nat → Nat → Int64} {w1 w2 t : Nat} {a nd : Nat} (hs : stp a) (hd : I a 3 = nI nd) (hn : nd ≤ 12) : SpE S m_X5_canBits 17 [.ref a] (hp I L w1 w2 t) (some (.int (canF nd (I (a + 8)) (I (a + 7)) (I (a + 4)) (I (a + 5)) (I a 13)))) (hp I L w1 w2 t) := by
  refine SpE_of ok_X5_canBits rfl rfl ?_
  show AW S m_X5_canBits 17 _ _ 0 0 0 [some (.ref a), none, none] [] (hp I L w1 w2 t)
  refine a_s rfl rfl ?_
  refine a_s1 rfl rfl rfl rfl rfl rfl ?_
  refine a_s rfl rfl ?_
  refine a_s2 rfl rfl rfl rfl rfl rfl ?_
  refine a_forE (n := nd) (fun j => [some (.ref a), some (.int (bs j (fun d => rdF nd (I (a + 8)) (I (a + 7)) (nI d) && decide (I (a + 4) d ≤ passF nd (I (a + 8)) (I (a + 5)) (I a 13) (nI d))))), some (.int (nI j))]) (fun j => hp I L w1 w2 t) (by simp [lsub, nI_0, bs, sumF, cntF]) (rfl) ?_ (fun j hj ih4 => ?_)
  · refine a_l2 rfl rfl rfl ?_
    refine a_l0 rfl rfl rfl ?_
    refine a_geti rfl gfX5_63_5 (kS0 hs) ?_
    refine a_ic_ge rfl (fun c9 => ?_) (fun c => absurd (by rw [hd]; exact Int32.le_refl _) c)
    refine a_l1 rfl rfl rfl ?_
    refine a_iret rfl rfl ⟨rfl, rfl⟩
  · refine a_l2 rfl rfl rfl ?_
    refine a_l0 rfl rfl rfl ?_
    refine a_geti rfl gfX5_63_5 (kS0 hs) ?_
    refine a_ic_ge rfl (fun c => absurd c (by rw [hd]; exact nI_ge hj (by omega))) (fun c9 => ?_)
    refine a_l0 rfl rfl rfl ?_
    refine a_l2 rfl rfl rfl ?_
    refine a_eV1 rfl lX5_101 mo_X5_isReady (sp_X5_isReady hs hd hn) rfl rfl rfl ⟨5, _, (kS0 hs), rfl, rfl⟩ rfl ?_
    refine a_if_eq rfl (fun c17 => ?_) (fun c17 => ?_)
    · refine a_i2 rfl rfl rfl ?_
      refine a_goto rfl ?_
      exact a_back ih4 (by simp_all [lsub, nI_1, bs, bI_0, le_nl, -Int32.not_lt, -Int32.not_le]) rfl
    · refine a_l0 rfl rfl rfl ?_
      refine a_getq rfl gfX5_21_5 (kS0 hs) (rS5 hs) ?_
      refine a_l2 rfl rfl rfl ?_
      refine a_eSN1 rfl lX5_86 mo_X11_at (sp_X11_at (by first | rfl | assumption | exact kS0 hs | exact kS1 hs | exact kS2 hs | exact kS3 hs | exact kS4 hs | exact kS5 hs | exact kS6 hs | exact kS7 hs | exact kS8 hs | exact kS9 hs | exact kS10 hs)) rfl rfl rfl rfl ?_
      rw [atF_nI (by omega) (by decide)]
      refine a_l0 rfl rfl rfl ?_
      refine a_l2 rfl rfl rfl ?_
      refine a_eV1 rfl lX5_124 mo_X5_passesOf (sp_X5_passesOf hs hd hn) rfl rfl rfl ⟨5, _, (kS0 hs), rfl, rfl⟩ rfl ?_
      refine a_ic_gt rfl (fun c33 => ?_) (fun c33 => ?_)
      · refine a_i2 rfl rfl rfl ?_
        refine a_goto rfl ?_
        exact a_back ih4 (by simp_all [lsub, nI_1, bs, bI_0, le_nl, -Int32.not_lt, -Int32.not_le]) rfl
      · refine a_l1 rfl rfl rfl ?_
        refine a_l2 rfl rfl rfl ?_
        refine a_eSN1 rfl lX5_97 mo_X11_bit (sp_X11_bit) rfl rfl rfl rfl ?_
        refine a_s rfl rfl ?_
        refine a_s1 rfl rfl rfl rfl rfl rfl ?_
        refine a_i2 rfl rfl rfl ?_
        refine a_goto rfl ?_
        exact a_back ih4 (by simp_all [lsub, nI_1, bs, bI_0, le_nl, -Int32.not_lt, -Int32.not_le]) rfl
theorem sp_X5_kerbAt {S : aS} {I : Nat → Nat → Int32} {L : Nat → Nat → Int64} {w1 w2 t : Nat} {a nd : Nat} (hs : stp a) (hd : I a 3 = nI nd) (hn : nd ≤ 12) {i k : Int32} : SpE S m_X5_kerbAt 16 [.ref a, .int i, .int k] (hp I L w1 w2 t) (some (.int (kerbF nd (I (a + 8)) (I (a + 5)) (I a 13) i k))) (hp I L w1 w2 t) := by
  refine SpE_of ok_X5_kerbAt rfl rfl ?_
  show AW S m_X5_kerbAt 16 _ _ 0 0 0 [some (.ref a), some (.int i), some (.int k), none, none] [] (hp I L w1 w2 t)
  refine a_l0 rfl rfl rfl ?_
  refine a_l1 rfl rfl rfl ?_
  refine a_eV1 rfl lX5_113 mo_X5_placeOf (sp_X5_placeOf hs hd hn) rfl rfl rfl ⟨5, _, (kS0 hs), rfl, rfl⟩ rfl ?_
  refine a_s3 rfl rfl rfl rfl rfl rfl ?_
  refine a_l3 rfl rfl rfl ?_
  refine a_s rfl rfl ?_
  refine a_ic_eq rfl (fun c8 => ?_) (fun c8 => ?_)
  · refine a_s rfl rfl ?_
    refine a_iret rfl rfl ⟨by simp_all [kerbF, le_nl, -Int32.not_lt, -Int32.not_le], rfl⟩
  · refine a_l0 rfl rfl rfl ?_
    refine a_geti rfl gfX5_40_5 (kS0 hs) ?_
    refine a_s rfl rfl ?_
    refine a_ic_ge rfl (fun c16 => ?_) (fun c16 => ?_)
    · refine a_l2 rfl rfl rfl ?_
      refine a_l0 rfl rfl rfl ?_
      refine a_geti rfl gfX5_40_5 (kS0 hs) ?_
      refine a_idiv rfl ((fun z => by rw [z] at c16; exact absurd c16 (by decide))) ?_
      refine a_l3 rfl rfl rfl ?_
      refine a_s rfl rfl ?_
      refine a_s4 rfl rfl rfl rfl rfl rfl ?_
      refine a_l4 rfl rfl rfl ?_
      refine a_if_ge rfl (fun c33 => ?_) (fun c33 => ?_)
      · refine a_l4 rfl rfl rfl ?_
        refine a_s rfl rfl ?_
        refine a_min rfl lX5_127 mj_min rfl rfl ?_
        refine a_iret rfl rfl ⟨by simp_all [kerbF, le_nl, -Int32.not_lt, -Int32.not_le], rfl⟩
      · refine a_s rfl rfl ?_
        refine a_goto rfl ?_
        refine a_iret rfl rfl ⟨by simp_all [kerbF, le_nl, -Int32.not_lt, -Int32.not_le], rfl⟩
    · refine a_s rfl rfl ?_
      refine a_iret rfl rfl ⟨by simp_all [kerbF, le_nl, -Int32.not_lt, -Int32.not_le], rfl⟩
theorem sp_X5_finish {S : aS} {I : Nat → Nat → Int32} {L : Nat → Nat → Int64} {w1 w2 t : Nat} {a : Nat} (hs : stp a) {i : Int32} : SpE S m_X5_finish 14 [.ref a, .int i] (hp I L w1 w2 t) none (hp (finF I a i) L w1 w2 t) := by
  refine SpE_of ok_X5_finish rfl rfl ?_
  show AW S m_X5_finish 14 _ _ 0 0 0 [some (.ref a), some (.int i)] [] (hp I L w1 w2 t)
  refine a_l0 rfl rfl rfl ?_
  refine a_getq rfl gfX5_21_5 (kS0 hs) (rS5 hs) ?_
  refine a_l1 rfl rfl rfl ?_
  refine a_s rfl rfl ?_
  refine a_eSN0 rfl lX5_82 mo_X11_setAt (sp_X11_setAt (by first | rfl | assumption | exact kS0 hs | exact kS1 hs | exact kS2 hs | exact kS3 hs | exact kS4 hs | exact kS5 hs | exact kS6 hs | exact kS7 hs | exact kS8 hs | exact kS9 hs | exact kS10 hs)) rfl rfl rfl rfl ?_
  refine a_l0 rfl rfl rfl ?_
  refine a_getq rfl gfX5_33_5 (kS0 hs) (rS9 hs) ?_
  refine a_l1 rfl rfl rfl ?_
  refine a_s rfl rfl ?_
  refine a_eSN0 rfl lX5_82 mo_X11_setAt (sp_X11_setAt (by first | rfl | assumption | exact kS0 hs | exact kS1 hs | exact kS2 hs | exact kS3 hs | exact kS4 hs | exact kS5 hs | exact kS6 hs | exact kS7 hs | exact kS8 hs | exact kS9 hs | exact kS10 hs)) rfl rfl rfl rfl ?_
  refine a_vret rfl rfl ⟨rfl, rfl⟩
theorem sp_X5_growOlder {S : aS} {I : Nat → Nat → Int32} {L : Nat → Nat → Int64} {w1 w2 t : Nat} {a : Nat} (hs : stp a) {i : Int32} : SpE S m_X5_growOlder 14 [.ref a, .int i] (hp I L w1 w2 t) none (hp (growF I a i) L w1 w2 t) := by
  refine SpE_of ok_X5_growOlder rfl rfl ?_
  show AW S m_X5_growOlder 14 _ _ 0 0 0 [some (.ref a), some (.int i)] [] (hp I L w1 w2 t)
  refine a_l0 rfl rfl rfl ?_
  refine a_getq rfl gfX5_24_5 (kS0 hs) (rS6 hs) ?_
  refine a_l1 rfl rfl rfl ?_
  refine a_s rfl rfl ?_
  refine a_l0 rfl rfl rfl ?_
  refine a_getq rfl gfX5_24_5 (kS0 hs) (rS6 hs) ?_
  refine a_l1 rfl rfl rfl ?_
  refine a_eSN1 rfl lX5_86 mo_X11_at (sp_X11_at (by first | rfl | assumption | exact kS0 hs | exact kS1 hs | exact kS2 hs | exact kS3 hs | exact kS4 hs | exact kS5 hs | exact kS6 hs | exact kS7 hs | exact kS8 hs | exact kS9 hs | exact kS10 hs)) rfl rfl rfl rfl ?_
  refine a_s rfl rfl ?_
  refine a_s rfl rfl ?_
  refine a_min rfl lX5_127 mj_min rfl rfl ?_
  refine a_eSN0 rfl lX5_82 mo_X11_setAt (sp_X11_setAt (by first | rfl | assumption | exact kS0 hs | exact kS1 hs | exact kS2 hs | exact kS3 hs | exact kS4 hs | exact kS5 hs | exact kS6 hs | exact kS7 hs | exact kS8 hs | exact kS9 hs | exact kS10 hs)) rfl rfl rfl rfl ?_
  refine a_vret rfl rfl ⟨rfl, rfl⟩
theorem sp_X5_draw {S : aS} {I : Nat → Nat → Int32} {L : Nat → Nat → Int64} {w1 w2 t : Nat} {a : Nat} (hs : stp a) : SpE S m_X5_draw 14 [.ref a] (hp I L w1 w2 t) (some (.int (drawV (seedF (I a 15))))) (hp (up2 I a 15 (seedF (I a 15))) L w1 w2 t) := by
  refine SpE_of ok_X5_draw rfl rfl ?_
  show AW S m_X5_draw 14 _ _ 0 0 0 [some (.ref a)] [] (hp I L w1 w2 t)
  refine a_l0 rfl rfl rfl ?_
  refine a_l0 rfl rfl rfl ?_
  refine a_geti rfl gfX5_46_5 (kS0 hs) ?_
  refine a_ldc rfl kX5_148 ?_
  refine a_s rfl rfl ?_
  refine a_s rfl rfl ?_
  refine a_s rfl rfl ?_
  refine a_puti rfl pfX5_46_5 (kS0 hs) ?_
  refine a_l0 rfl rfl rfl ?_
  refine a_geti rfl gfX5_46_5 (kS0 hs) ?_
  rw [up2_at]
  refine a_s rfl rfl ?_
  refine a_s rfl rfl ?_
  refine a_s rfl rfl ?_
  refine a_s rfl rfl ?_
  refine a_iret rfl rfl ⟨rfl, rfl⟩
