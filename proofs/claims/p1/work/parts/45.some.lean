/-! ===== operations with cases on the fresh heap ===== -/
set_option maxRecDepth 100000
theorem inB_none (x : Int32) : inB x 0 (-1) = false := by
  refine decide_eq_false fun z => ?_
  have h1 := Int32.le_iff_toInt_le.mp z.1
  have h2 := Int32.le_iff_toInt_le.mp z.2
  have h3 : (-1 : Int32).toInt = -1 := rfl
  have h4 : (0 : Int32).toInt = 0 := rfl
  omega
theorem inB_lo {x a b : Int32} (h : inB x a b = true) : ¬ x < a := Int32.not_lt.mpr (of_decide_eq_true h).1
theorem inB_hi {x a b : Int32} (h : inB x a b = true) : x ≤ b := (of_decide_eq_true h).2
theorem inB_of {x a b : Int32} (h1 : ¬ x < a) (h2 : x ≤ b) : inB x a b = true := decide_eq_true ⟨Int32.not_lt.mp h1, h2⟩
theorem inB_ge {x a b c : Int32} (h : inB x a b = true) (h' : inB x a c = false) : ¬ x ≤ c := fun z => of_decide_eq_false h' ⟨(of_decide_eq_true h).1, z⟩
theorem swT_out {pc : Nat} {dflt lo hi x : Int} {offs : Array Int} {tg : Nat} (h : x < lo ∨ hi < x) (e : ((pc : Int) + dflt).toNat = tg) : swT pc dflt lo hi offs x = some tg := by
  unfold swT
  rw [if_pos h, e]
theorem au_X5_olderThan_75 {S : aS} {I : Nat → Nat → Int32} {L : Nat → Nat → Int64} {w1 w2 t : Nat} {x1 : Int32} (h235_3 : I 235 3 = 0)  : SpE S m_X5_olderThan 12 [.ref 235, .int x1] (hp I L w1 w2 t) (some (.int 0)) (hp I L w1 w2 t) := by
  refine SpE_of ok_X5_olderThan rfl rfl ?_
  show AW S m_X5_olderThan 12 _ _ 0 0 0 [some (.ref 235), some (.int x1), none, none] [] (hp I L w1 w2 t)
  refine a_s rfl rfl ?_
  refine a_s2 rfl rfl rfl rfl rfl rfl ?_
  refine a_s rfl rfl ?_
  refine a_s3 rfl rfl rfl rfl rfl rfl ?_
  refine a_l3 rfl rfl rfl ?_
  refine a_l0 rfl rfl rfl ?_
  refine a_getiv (v := 0) rfl gfX5_63_5 rfl h235_3 ?_
  refine a_ic_ge rfl (fun c9 => ?_) (fun c => absurd (by decide) c)
  refine a_l2 rfl rfl rfl ?_
  exact a_iret rfl rfl ⟨rfl, rfl⟩
theorem au_X5_bitsIn_76 {S : aS} {I : Nat → Nat → Int32} {L : Nat → Nat → Int64} {w1 w2 t : Nat} (h235_3 : I 235 3 = 0)  : SpE S m_X5_bitsIn 12 [.ref 235, .int 1] (hp I L w1 w2 t) (some (.int 0)) (hp I L w1 w2 t) := by
  refine SpE_of ok_X5_bitsIn rfl rfl ?_
  show AW S m_X5_bitsIn 12 _ _ 0 0 0 [some (.ref 235), some (.int 1), none, none] [] (hp I L w1 w2 t)
  refine a_s rfl rfl ?_
  refine a_s2 rfl rfl rfl rfl rfl rfl ?_
  refine a_s rfl rfl ?_
  refine a_s3 rfl rfl rfl rfl rfl rfl ?_
  refine a_l3 rfl rfl rfl ?_
  refine a_l0 rfl rfl rfl ?_
  refine a_getiv (v := 0) rfl gfX5_63_5 rfl h235_3 ?_
  refine a_ic_ge rfl (fun c9 => ?_) (fun c => absurd (by decide) c)
  refine a_l2 rfl rfl rfl ?_
  exact a_iret rfl rfl ⟨rfl, rfl⟩
theorem au_X4_ringBits_77 {S : aS} {I : Nat → Nat → Int32} {L : Nat → Nat → Int64} {w1 w2 t : Nat} (h235_3 : I 235 3 = 0)  : SpE S m_X4_ringBits 12 [.ref 235] (hp I L w1 w2 t) (some (.int 0)) (hp I L w1 w2 t) := by
  refine SpE_of ok_X4_ringBits rfl rfl ?_
  show AW S m_X4_ringBits 12 _ _ 0 0 0 [some (.ref 235), none, none] [] (hp I L w1 w2 t)
  refine a_s rfl rfl ?_
  refine a_s1 rfl rfl rfl rfl rfl rfl ?_
  refine a_s rfl rfl ?_
  refine a_s2 rfl rfl rfl rfl rfl rfl ?_
  refine a_l2 rfl rfl rfl ?_
  refine a_l0 rfl rfl rfl ?_
  refine a_getiv (v := 0) rfl gfX4_23_5 rfl h235_3 ?_
  refine a_ic_ge rfl (fun c9 => ?_) (fun c => absurd (by decide) c)
  refine a_l1 rfl rfl rfl ?_
  exact a_iret rfl rfl ⟨rfl, rfl⟩
theorem au_X5_bitsIn_78 {S : aS} {I : Nat → Nat → Int32} {L : Nat → Nat → Int64} {w1 w2 t : Nat} (h235_3 : I 235 3 = 0)  : SpE S m_X5_bitsIn 12 [.ref 235, .int 2] (hp I L w1 w2 t) (some (.int 0)) (hp I L w1 w2 t) := by
  refine SpE_of ok_X5_bitsIn rfl rfl ?_
  show AW S m_X5_bitsIn 12 _ _ 0 0 0 [some (.ref 235), some (.int 2), none, none] [] (hp I L w1 w2 t)
  refine a_s rfl rfl ?_
  refine a_s2 rfl rfl rfl rfl rfl rfl ?_
  refine a_s rfl rfl ?_
  refine a_s3 rfl rfl rfl rfl rfl rfl ?_
  refine a_l3 rfl rfl rfl ?_
  refine a_l0 rfl rfl rfl ?_
  refine a_getiv (v := 0) rfl gfX5_63_5 rfl h235_3 ?_
  refine a_ic_ge rfl (fun c9 => ?_) (fun c => absurd (by decide) c)
  refine a_l2 rfl rfl rfl ?_
  exact a_iret rfl rfl ⟨rfl, rfl⟩
theorem au_X11_sumOver_79 {S : aS} {I : Nat → Nat → Int32} {L : Nat → Nat → Int64} {w1 w2 t : Nat}   : SpE S m_X11_sumOver 12 [.ref 239, .int 0] (hp I L w1 w2 t) (some (.int 0)) (hp I L w1 w2 t) := by
  refine SpE_of ok_X11_sumOver rfl rfl ?_
  show AW S m_X11_sumOver 12 _ _ 0 0 0 [some (.ref 239), some (.int 0), none, none] [] (hp I L w1 w2 t)
  refine a_s rfl rfl ?_
  refine a_s2 rfl rfl rfl rfl rfl rfl ?_
  refine a_s rfl rfl ?_
  refine a_s3 rfl rfl rfl rfl rfl rfl ?_
  refine a_l3 rfl rfl rfl ?_
  refine a_l0 rfl rfl rfl ?_
  refine a_len (x := 12) rfl rfl rfl (by decide) ?_
  refine a_ic_ge rfl (fun c => absurd c (by decide)) (fun c7 => ?_)
  refine a_l1 rfl rfl rfl ?_
  refine a_l3 rfl rfl rfl ?_
  refine a_s rfl rfl ?_
  refine a_top (y := 0) (by decide) ?_
  refine a_s rfl rfl ?_
  refine a_s rfl rfl ?_
  refine a_top (y := 0) (by decide) ?_
  refine a_if_eq rfl (fun c15 => ?_) (fun c => absurd (by decide) c)
  refine a_iv3 (y := 1) rfl rfl rfl (by decide) ?_
  refine a_goto rfl ?_
  refine a_l3 rfl rfl rfl ?_
  refine a_l0 rfl rfl rfl ?_
  refine a_len (x := 12) rfl rfl rfl (by decide) ?_
  refine a_ic_ge rfl (fun c => absurd c (by decide)) (fun c7 => ?_)
  refine a_l1 rfl rfl rfl ?_
  refine a_l3 rfl rfl rfl ?_
  refine a_s rfl rfl ?_
  refine a_top (y := 0) (by decide) ?_
  refine a_s rfl rfl ?_
  refine a_s rfl rfl ?_
  refine a_top (y := 0) (by decide) ?_
  refine a_if_eq rfl (fun c15 => ?_) (fun c => absurd (by decide) c)
  refine a_iv3 (y := 2) rfl rfl rfl (by decide) ?_
  refine a_goto rfl ?_
  refine a_l3 rfl rfl rfl ?_
  refine a_l0 rfl rfl rfl ?_
  refine a_len (x := 12) rfl rfl rfl (by decide) ?_
  refine a_ic_ge rfl (fun c => absurd c (by decide)) (fun c7 => ?_)
  refine a_l1 rfl rfl rfl ?_
  refine a_l3 rfl rfl rfl ?_
  refine a_s rfl rfl ?_
  refine a_top (y := 0) (by decide) ?_
  refine a_s rfl rfl ?_
  refine a_s rfl rfl ?_
  refine a_top (y := 0) (by decide) ?_
  refine a_if_eq rfl (fun c15 => ?_) (fun c => absurd (by decide) c)
  refine a_iv3 (y := 3) rfl rfl rfl (by decide) ?_
  refine a_goto rfl ?_
  refine a_l3 rfl rfl rfl ?_
  refine a_l0 rfl rfl rfl ?_
  refine a_len (x := 12) rfl rfl rfl (by decide) ?_
  refine a_ic_ge rfl (fun c => absurd c (by decide)) (fun c7 => ?_)
  refine a_l1 rfl rfl rfl ?_
  refine a_l3 rfl rfl rfl ?_
  refine a_s rfl rfl ?_
  refine a_top (y := 0) (by decide) ?_
  refine a_s rfl rfl ?_
  refine a_s rfl rfl ?_
  refine a_top (y := 0) (by decide) ?_
  refine a_if_eq rfl (fun c15 => ?_) (fun c => absurd (by decide) c)
  refine a_iv3 (y := 4) rfl rfl rfl (by decide) ?_
  refine a_goto rfl ?_
  refine a_l3 rfl rfl rfl ?_
  refine a_l0 rfl rfl rfl ?_
  refine a_len (x := 12) rfl rfl rfl (by decide) ?_
  refine a_ic_ge rfl (fun c => absurd c (by decide)) (fun c7 => ?_)
  refine a_l1 rfl rfl rfl ?_
  refine a_l3 rfl rfl rfl ?_
  refine a_s rfl rfl ?_
  refine a_top (y := 0) (by decide) ?_
  refine a_s rfl rfl ?_
  refine a_s rfl rfl ?_
  refine a_top (y := 0) (by decide) ?_
  refine a_if_eq rfl (fun c15 => ?_) (fun c => absurd (by decide) c)
  refine a_iv3 (y := 5) rfl rfl rfl (by decide) ?_
  refine a_goto rfl ?_
  refine a_l3 rfl rfl rfl ?_
  refine a_l0 rfl rfl rfl ?_
  refine a_len (x := 12) rfl rfl rfl (by decide) ?_
  refine a_ic_ge rfl (fun c => absurd c (by decide)) (fun c7 => ?_)
  refine a_l1 rfl rfl rfl ?_
  refine a_l3 rfl rfl rfl ?_
  refine a_s rfl rfl ?_
  refine a_top (y := 0) (by decide) ?_
  refine a_s rfl rfl ?_
  refine a_s rfl rfl ?_
  refine a_top (y := 0) (by decide) ?_
  refine a_if_eq rfl (fun c15 => ?_) (fun c => absurd (by decide) c)
  refine a_iv3 (y := 6) rfl rfl rfl (by decide) ?_
  refine a_goto rfl ?_
  refine a_l3 rfl rfl rfl ?_
  refine a_l0 rfl rfl rfl ?_
  refine a_len (x := 12) rfl rfl rfl (by decide) ?_
  refine a_ic_ge rfl (fun c => absurd c (by decide)) (fun c7 => ?_)
  refine a_l1 rfl rfl rfl ?_
  refine a_l3 rfl rfl rfl ?_
  refine a_s rfl rfl ?_
  refine a_top (y := 0) (by decide) ?_
  refine a_s rfl rfl ?_
  refine a_s rfl rfl ?_
  refine a_top (y := 0) (by decide) ?_
  refine a_if_eq rfl (fun c15 => ?_) (fun c => absurd (by decide) c)
  refine a_iv3 (y := 7) rfl rfl rfl (by decide) ?_
  refine a_goto rfl ?_
  refine a_l3 rfl rfl rfl ?_
  refine a_l0 rfl rfl rfl ?_
  refine a_len (x := 12) rfl rfl rfl (by decide) ?_
  refine a_ic_ge rfl (fun c => absurd c (by decide)) (fun c7 => ?_)
  refine a_l1 rfl rfl rfl ?_
  refine a_l3 rfl rfl rfl ?_
  refine a_s rfl rfl ?_
  refine a_top (y := 0) (by decide) ?_
  refine a_s rfl rfl ?_
  refine a_s rfl rfl ?_
  refine a_top (y := 0) (by decide) ?_
  refine a_if_eq rfl (fun c15 => ?_) (fun c => absurd (by decide) c)
  refine a_iv3 (y := 8) rfl rfl rfl (by decide) ?_
  refine a_goto rfl ?_
  refine a_l3 rfl rfl rfl ?_
  refine a_l0 rfl rfl rfl ?_
  refine a_len (x := 12) rfl rfl rfl (by decide) ?_
  refine a_ic_ge rfl (fun c => absurd c (by decide)) (fun c7 => ?_)
  refine a_l1 rfl rfl rfl ?_
  refine a_l3 rfl rfl rfl ?_
  refine a_s rfl rfl ?_
  refine a_top (y := 0) (by decide) ?_
  refine a_s rfl rfl ?_
  refine a_s rfl rfl ?_
  refine a_top (y := 0) (by decide) ?_
  refine a_if_eq rfl (fun c15 => ?_) (fun c => absurd (by decide) c)
  refine a_iv3 (y := 9) rfl rfl rfl (by decide) ?_
  refine a_goto rfl ?_
  refine a_l3 rfl rfl rfl ?_
  refine a_l0 rfl rfl rfl ?_
  refine a_len (x := 12) rfl rfl rfl (by decide) ?_
  refine a_ic_ge rfl (fun c => absurd c (by decide)) (fun c7 => ?_)
  refine a_l1 rfl rfl rfl ?_
  refine a_l3 rfl rfl rfl ?_
  refine a_s rfl rfl ?_
  refine a_top (y := 0) (by decide) ?_
  refine a_s rfl rfl ?_
  refine a_s rfl rfl ?_
  refine a_top (y := 0) (by decide) ?_
  refine a_if_eq rfl (fun c15 => ?_) (fun c => absurd (by decide) c)
  refine a_iv3 (y := 10) rfl rfl rfl (by decide) ?_
  refine a_goto rfl ?_
  refine a_l3 rfl rfl rfl ?_
  refine a_l0 rfl rfl rfl ?_
  refine a_len (x := 12) rfl rfl rfl (by decide) ?_
  refine a_ic_ge rfl (fun c => absurd c (by decide)) (fun c7 => ?_)
  refine a_l1 rfl rfl rfl ?_
  refine a_l3 rfl rfl rfl ?_
  refine a_s rfl rfl ?_
  refine a_top (y := 0) (by decide) ?_
  refine a_s rfl rfl ?_
  refine a_s rfl rfl ?_
  refine a_top (y := 0) (by decide) ?_
  refine a_if_eq rfl (fun c15 => ?_) (fun c => absurd (by decide) c)
  refine a_iv3 (y := 11) rfl rfl rfl (by decide) ?_
  refine a_goto rfl ?_
  refine a_l3 rfl rfl rfl ?_
  refine a_l0 rfl rfl rfl ?_
  refine a_len (x := 12) rfl rfl rfl (by decide) ?_
  refine a_ic_ge rfl (fun c => absurd c (by decide)) (fun c7 => ?_)
  refine a_l1 rfl rfl rfl ?_
  refine a_l3 rfl rfl rfl ?_
  refine a_s rfl rfl ?_
  refine a_top (y := 0) (by decide) ?_
  refine a_s rfl rfl ?_
  refine a_s rfl rfl ?_
  refine a_top (y := 0) (by decide) ?_
  refine a_if_eq rfl (fun c15 => ?_) (fun c => absurd (by decide) c)
  refine a_iv3 (y := 12) rfl rfl rfl (by decide) ?_
  refine a_goto rfl ?_
  refine a_l3 rfl rfl rfl ?_
  refine a_l0 rfl rfl rfl ?_
  refine a_len (x := 12) rfl rfl rfl (by decide) ?_
  refine a_ic_ge rfl (fun c7 => ?_) (fun c => absurd (by decide) c)
  refine a_l2 rfl rfl rfl ?_
  exact a_iret rfl rfl ⟨rfl, rfl⟩
theorem au_X4_hoursOf_80 {S : aS} {I : Nat → Nat → Int32} {L : Nat → Nat → Int64} {w1 w2 t : Nat} (h235_3 : I 235 3 = 0)  : SpE S m_X4_hoursOf 13 [.ref 235, .int 0] (hp I L w1 w2 t) (some (.int 0)) (hp I L w1 w2 t) := by
  refine SpE_of ok_X4_hoursOf rfl rfl ?_
  show AW S m_X4_hoursOf 13 _ _ 0 0 0 [some (.ref 235), some (.int 0), none] [] (hp I L w1 w2 t)
  refine a_l0 rfl rfl rfl ?_
  refine a_eS1 rfl lX4_50 mo_X4_ringBits (au_X4_ringBits_77 h235_3 ) rfl rfl rfl rfl ?_
  refine a_l0 rfl rfl rfl ?_
  refine a_s rfl rfl ?_
  refine a_eV1 rfl lX4_47 mo_X5_bitsIn (au_X5_bitsIn_78 h235_3 ) rfl rfl rfl ⟨5, _, rfl, rfl, rfl⟩ rfl ?_
  refine a_s rfl rfl ?_
  refine a_top (y := 0) (by decide) ?_
  refine a_s2 rfl rfl rfl rfl rfl rfl ?_
  refine a_l1 rfl rfl rfl ?_
  refine a_l2 rfl rfl rfl ?_
  refine a_s rfl rfl ?_
  refine a_top (y := 0) (by decide) ?_
  refine a_if_eq rfl (fun c14 => ?_) (fun c => absurd (by decide) c)
  refine a_l0 rfl rfl rfl ?_
  refine a_getq rfl gfX4_54_5 rfl rfl ?_
  refine a_l1 rfl rfl rfl ?_
  refine a_eSN1 rfl lX4_57 mo_X11_sumOver (au_X11_sumOver_79  ) rfl rfl rfl rfl ?_
  exact a_iret rfl rfl ⟨rfl, rfl⟩
theorem au_X4_hoursTillYoung_81 {S : aS} {I : Nat → Nat → Int32} {L : Nat → Nat → Int64} {w1 w2 t : Nat} {x1 : Int32} (h235_3 : I 235 3 = 0)  : SpE S m_X4_hoursTillYoung 14 [.ref 235, .int x1] (hp I L w1 w2 t) (some (.int 0)) (hp I L w1 w2 t) := by
  refine SpE_of ok_X4_hoursTillYoung rfl rfl ?_
  show AW S m_X4_hoursTillYoung 14 _ _ 0 0 0 [some (.ref 235), some (.int x1), none, none, none] [] (hp I L w1 w2 t)
  refine a_l0 rfl rfl rfl ?_
  refine a_l1 rfl rfl rfl ?_
  refine a_eV1 rfl lX4_44 mo_X5_olderThan (au_X5_olderThan_75 h235_3 ) rfl rfl rfl ⟨5, _, rfl, rfl, rfl⟩ rfl ?_
  refine a_s2 rfl rfl rfl rfl rfl rfl ?_
  refine a_l2 rfl rfl rfl ?_
  refine a_s3 rfl rfl rfl rfl rfl rfl ?_
  refine a_s rfl rfl ?_
  refine a_s4 rfl rfl rfl rfl rfl rfl ?_
  refine a_l4 rfl rfl rfl ?_
  refine a_l0 rfl rfl rfl ?_
  refine a_getiv (v := 0) rfl gfX4_23_5 rfl h235_3 ?_
  refine a_ic_ge rfl (fun c17 => ?_) (fun c => absurd (by decide) c)
  refine a_l0 rfl rfl rfl ?_
  refine a_l3 rfl rfl rfl ?_
  refine a_l0 rfl rfl rfl ?_
  refine a_s rfl rfl ?_
  refine a_eV1 rfl lX4_47 mo_X5_bitsIn (au_X5_bitsIn_76 h235_3 ) rfl rfl rfl ⟨5, _, rfl, rfl, rfl⟩ rfl ?_
  refine a_s rfl rfl ?_
  refine a_s rfl rfl ?_
  refine a_top (y := (-1)) (by decide) ?_
  refine a_s rfl rfl ?_
  refine a_top (y := 0) (by decide) ?_
  refine a_eS1 rfl lX4_41 mo_X4_hoursOf (au_X4_hoursOf_80 h235_3 ) rfl rfl rfl rfl ?_
  exact a_iret rfl rfl ⟨rfl, rfl⟩
theorem au_X11_young_82 {S : aS} {I : Nat → Nat → Int32} {L : Nat → Nat → Int64} {w1 w2 t : Nat} {x1 : Int32} (h235_3 : I 235 3 = 0) (q0 : inB x1 0 98 = true) : SpE S m_X11_young 15 [.ref 200, .int x1] (hp I L w1 w2 t) (some (.int 0)) (hp I L w1 w2 t) := by
  refine SpE_of ok_X11_young rfl rfl ?_
  show AW S m_X11_young 15 _ _ 0 0 0 [some (.ref 200), some (.int x1)] [] (hp I L w1 w2 t)
  refine a_l1 rfl rfl rfl ?_
  refine a_s rfl rfl ?_
  refine a_s rfl rfl ?_
  refine a_eS0 rfl lX11_250 mo_X11_needNumber (sp_needNumber (q0)) rfl rfl rfl rfl ?_
  refine a_l0 rfl rfl rfl ?_
  refine a_getq rfl gfX11_37_11 rfl rfl ?_
  refine a_l1 rfl rfl rfl ?_
  refine a_eS1 rfl lX11_304 mo_X4_hoursTillYoung (au_X4_hoursTillYoung_81 h235_3 ) rfl rfl rfl rfl ?_
  exact a_iret rfl rfl ⟨rfl, rfl⟩
theorem cr_X11_young {S : aS} {x0 : Int32} (q : inB x0 0 98 = true) : CRet S m_X11_young 15 [.ref 200, .int x0] (some 0) := CRet.of (au_X11_young_82 I0_235_3 (q)) (fun _ _ => rfl)
theorem au_X12_olderOnes_83 {S : aS} {I : Nat → Nat → Int32} {L : Nat → Nat → Int64} {w1 w2 t : Nat} {x1 : Int32} (h421_1 : I 421 1 = 0)  : SpE S m_X12_olderOnes 13 [.ref 420, .int x1] (hp I L w1 w2 t) (some (.int 0)) (hp I L w1 w2 t) := by
  refine SpE_of ok_X12_olderOnes rfl rfl ?_
  show AW S m_X12_olderOnes 13 _ _ 0 0 0 [some (.ref 420), some (.int x1), none, none] [] (hp I L w1 w2 t)
  refine a_s rfl rfl ?_
  refine a_s2 rfl rfl rfl rfl rfl rfl ?_
  refine a_s rfl rfl ?_
  refine a_s3 rfl rfl rfl rfl rfl rfl ?_
  refine a_l3 rfl rfl rfl ?_
  refine a_l0 rfl rfl rfl ?_
  refine a_eV1 rfl lX12_74 mo_X12_duties (au_X12_duties_4 h421_1 ) rfl rfl rfl ⟨12, _, rfl, rfl, rfl⟩ rfl ?_
  refine a_ic_ge rfl (fun c9 => ?_) (fun c => absurd (by decide) c)
  refine a_l2 rfl rfl rfl ?_
  exact a_iret rfl rfl ⟨rfl, rfl⟩
theorem au_X12_hoursOf_84 {S : aS} {I : Nat → Nat → Int32} {L : Nat → Nat → Int64} {w1 w2 t : Nat} (h421_1 : I 421 1 = 0)  : SpE S m_X12_hoursOf 13 [.ref 420, .int 0] (hp I L w1 w2 t) (some (.int 0)) (hp I L w1 w2 t) := by
  refine SpE_of ok_X12_hoursOf rfl rfl ?_
  show AW S m_X12_hoursOf 13 _ _ 0 0 0 [some (.ref 420), some (.int 0), none, none] [] (hp I L w1 w2 t)
  refine a_s rfl rfl ?_
  refine a_s2 rfl rfl rfl rfl rfl rfl ?_
  refine a_s rfl rfl ?_
  refine a_s3 rfl rfl rfl rfl rfl rfl ?_
  refine a_l3 rfl rfl rfl ?_
  refine a_l0 rfl rfl rfl ?_
  refine a_eV1 rfl lX12_74 mo_X12_duties (au_X12_duties_4 h421_1 ) rfl rfl rfl ⟨12, _, rfl, rfl, rfl⟩ rfl ?_
  refine a_ic_ge rfl (fun c9 => ?_) (fun c => absurd (by decide) c)
  refine a_l2 rfl rfl rfl ?_
  exact a_iret rfl rfl ⟨rfl, rfl⟩
theorem au_X12_young_85 {S : aS} {I : Nat → Nat → Int32} {L : Nat → Nat → Int64} {w1 w2 t : Nat} {x1 : Int32} (h421_1 : I 421 1 = 0) (q0 : inB x1 0 98 = true) : SpE S m_X12_young 14 [.ref 420, .int x1] (hp I L w1 w2 t) (some (.int 0)) (hp (up2 I 420 0 0) L w1 w2 t) := by
  refine SpE_of ok_X12_young rfl rfl ?_
  show AW S m_X12_young 14 _ _ 0 0 0 [some (.ref 420), some (.int x1), none, none, none] [] (hp I L w1 w2 t)
  refine a_l0 rfl rfl rfl ?_
  refine a_s rfl rfl ?_
  refine a_puti rfl pfX12_3_12 rfl ?_
  refine a_l0 rfl rfl rfl ?_
  refine a_l1 rfl rfl rfl ?_
  refine a_s rfl rfl ?_
  refine a_s rfl rfl ?_
  refine a_eS1 rfl lX12_70 mo_X12_in ((sp_X12_in (x := x1) (a := 0) (b := 98)).cast (r' := some (.int 1)) (by rw [q0]; rfl) rfl) rfl rfl rfl rfl ?_
  refine a_if_ne rfl (fun c13 => ?_) (fun c => absurd c (by decide))
  refine a_s rfl rfl ?_
  refine a_s rfl rfl ?_
  refine a_eV1 rfl lX12_243 mo_X12_throwsIf (au_X12_throwsIf_32  ) rfl rfl rfl ⟨12, _, rfl, rfl, rfl⟩ rfl ?_
  refine a_if_eq rfl (fun c25 => ?_) (fun c => absurd (by decide) c)
  refine a_l0 rfl rfl rfl ?_
  refine a_l1 rfl rfl rfl ?_
  refine a_eV1 rfl lX12_429 mo_X12_olderOnes (au_X12_olderOnes_83 h421_1 ) rfl rfl rfl ⟨12, _, rfl, rfl, rfl⟩ rfl ?_
  refine a_s2 rfl rfl rfl rfl rfl rfl ?_
  refine a_s rfl rfl ?_
  refine a_s3 rfl rfl rfl rfl rfl rfl ?_
  refine a_s rfl rfl ?_
  refine a_s4 rfl rfl rfl rfl rfl rfl ?_
  refine a_l4 rfl rfl rfl ?_
  refine a_l0 rfl rfl rfl ?_
  refine a_eV1 rfl lX12_74 mo_X12_duties (au_X12_duties_4 h421_1 ) rfl rfl rfl ⟨12, _, rfl, rfl, rfl⟩ rfl ?_
  refine a_ic_ge rfl (fun c47 => ?_) (fun c => absurd (by decide) c)
  refine a_l0 rfl rfl rfl ?_
  refine a_l3 rfl rfl rfl ?_
  refine a_eV1 rfl lX12_330 mo_X12_hoursOf (au_X12_hoursOf_84 h421_1 ) rfl rfl rfl ⟨12, _, rfl, rfl, rfl⟩ rfl ?_
  exact a_iret rfl rfl ⟨rfl, rfl⟩
theorem rr_X12_young {S : aS} {x0 : Int32} (q : inB x0 0 98 = true) : RRet S m_X12_young 14 [.ref 420, .int x0] (some 0) 0 := RRet.of (fun I => up2 I 420 0 0) (fun I L w1 w2 t hz => au_X12_young_85 (hz.at rfl I0_421_1) (q)) (fun I hz => rfl)
theorem au_X11_young_86 {S : aS} {I : Nat → Nat → Int32} {L : Nat → Nat → Int64} {w1 w2 t : Nat} {x1 : Int32}  (q0 : inB x1 0 98 = false) : SpX S m_X11_young 13 [.ref 200, .int x1] (hp I L w1 w2 t) "java/lang/IllegalArgumentException" (hp I L w1 w2 0) := by
  refine SpX_of ok_X11_young rfl rfl ?_
  show AW S m_X11_young 13 _ _ 1 6 0 [some (.ref 200), some (.int x1)] [] (hp I L w1 w2 t)
  refine a_l1 rfl rfl rfl ?_
  refine a_s rfl rfl ?_
  refine a_s rfl rfl ?_
  exact a_xS rfl lX11_250 mo_X11_needNumber (spx_needNumber (q0)) rfl rfl rfl rfl ⟨rfl, rfl⟩
theorem cx_X11_young_x {S : aS} {x0 : Int32} (q : inB x0 0 98 = false) : CThr S m_X11_young 13 [.ref 200, .int x0] "java/lang/IllegalArgumentException" := CThr.of (au_X11_young_86  (q))
theorem au_X12_throwsIf_87 {S : aS} {I : Nat → Nat → Int32} {L : Nat → Nat → Int64} {w1 w2 t : Nat}   : SpE S m_X12_throwsIf 12 [.ref 420, .int 1, .int 1] (hp I L w1 w2 t) (some (.int 1)) (hp (up2 I 420 0 1) L w1 w2 t) := by
  refine SpE_of ok_X12_throwsIf rfl rfl ?_
  show AW S m_X12_throwsIf 12 _ _ 0 0 0 [some (.ref 420), some (.int 1), some (.int 1)] [] (hp I L w1 w2 t)
  refine a_l1 rfl rfl rfl ?_
  refine a_if_eq rfl (fun c => absurd c (by decide)) (fun c1 => ?_)
  refine a_l0 rfl rfl rfl ?_
  refine a_l2 rfl rfl rfl ?_
  refine a_puti rfl pfX12_3_12 rfl ?_
  refine a_l1 rfl rfl rfl ?_
  exact a_zret rfl rfl rfl ⟨rfl, rfl⟩
theorem au_X12_young_88 {S : aS} {I : Nat → Nat → Int32} {L : Nat → Nat → Int64} {w1 w2 t : Nat} {x1 : Int32}  (q0 : inB x1 0 98 = false) : SpE S m_X12_young 13 [.ref 420, .int x1] (hp I L w1 w2 t) (some (.int 0)) (hp (up2 (up2 I 420 0 0) 420 0 1) L w1 w2 t) := by
  refine SpE_of ok_X12_young rfl rfl ?_
  show AW S m_X12_young 13 _ _ 0 0 0 [some (.ref 420), some (.int x1), none, none, none] [] (hp I L w1 w2 t)
  refine a_l0 rfl rfl rfl ?_
  refine a_s rfl rfl ?_
  refine a_puti rfl pfX12_3_12 rfl ?_
  refine a_l0 rfl rfl rfl ?_
  refine a_l1 rfl rfl rfl ?_
  refine a_s rfl rfl ?_
  refine a_s rfl rfl ?_
  refine a_eS1 rfl lX12_70 mo_X12_in ((sp_X12_in (x := x1) (a := 0) (b := 98)).cast (r' := some (.int 0)) (by rw [q0]; rfl) rfl) rfl rfl rfl rfl ?_
  refine a_if_ne rfl (fun c => absurd c (by decide)) (fun c13 => ?_)
  refine a_s rfl rfl ?_
  refine a_goto rfl ?_
  refine a_s rfl rfl ?_
  refine a_eV1 rfl lX12_243 mo_X12_throwsIf (au_X12_throwsIf_87  ) rfl rfl rfl ⟨12, _, rfl, rfl, rfl⟩ rfl ?_
  refine a_if_eq rfl (fun c => absurd c (by decide)) (fun c25 => ?_)
  refine a_s rfl rfl ?_
  exact a_iret rfl rfl ⟨rfl, rfl⟩
theorem rr_X12_young_x {S : aS} {x0 : Int32} (q : inB x0 0 98 = false) : RRet S m_X12_young 13 [.ref 420, .int x0] (some 0) 1 := RRet.of (fun I => up2 (up2 I 420 0 0) 420 0 1) (fun I L w1 w2 t hz => au_X12_young_88  (q)) (fun I hz => rfl)
theorem w_young {S : aS} {x0 : Int32} {r : Int32} (h : CRet S m_X11_young 15 [.ref 200, .int x0] (some r)) : Sp S m_L_young 16 0 0 [.ref 200, .int x0, .ref 431] (hp I0 L0 0 0 432) (QW r) (fun _ _ => False) := by
  refine Sp_of ok_L_young rfl rfl ?_
  show AW S m_L_young 16 _ _ 0 0 0 [some (.ref 200), some (.int x0), some (.ref 431), none] [] (hp I0 L0 0 0 432)
  refine a_l2 rfl rfl rfl ?_
  refine a_s rfl rfl ?_
  refine a_l0 rfl rfl rfl ?_
  refine a_l1 rfl rfl rfl ?_
  refine a_callVc rfl lL_84 mo_X11_young h rfl rfl rfl ⟨11, _, rfl, rfl, rfl⟩ (fun v h' hv => ?_) (fun E h' hx => False.elim hx)
  obtain ⟨rfl, I, w1, w2, t, rfl, hz⟩ := hv
  refine a_s rfl rfl ?_
  refine a_last rfl (n := 1) rfl ⟨by decide, by decide⟩ ?_
  refine a_goto rfl ?_
  refine a_s rfl rfl ?_
  exact a_iret rfl rfl ⟨rfl, I, w1, w2, t, rfl, hz⟩
theorem wx_young_1 {xs : Nat → Int32} {x0 : Int32} (h : CThr (S1 6 xs) m_X11_young 13 [.ref 200, .int x0] "java/lang/IllegalArgumentException") : Sp (S1 6 xs) m_L_young 14 1 6 [.ref 200, .int x0, .ref 431] (hp I0 L0 0 0 432) (QX 1) (fun _ _ => False) := by
  refine Sp_of ok_L_young rfl rfl ?_
  show AW (S1 6 xs) m_L_young 14 _ _ 1 6 0 [some (.ref 200), some (.int x0), some (.ref 431), none] [] (hp I0 L0 0 0 432)
  refine a_l2 rfl rfl rfl ?_
  refine a_s rfl rfl ?_
  refine a_l0 rfl rfl rfl ?_
  refine a_l1 rfl rfl rfl ?_
  refine a_callVc rfl lL_84 mo_X11_young h rfl rfl rfl ⟨11, _, rfl, rfl, rfl⟩ (fun v h' hv => False.elim hv) (fun E h' hx => ?_)
  obtain ⟨rfl, I, w1, w2, t, rfl, hz⟩ := hx
  refine ⟨12, _, _, _, _, 3, tk_13 rfl (by decide) (by decide), rfl, rfl, by decide, ?_⟩
  refine a_s rfl rfl ?_
  exact a_iret rfl rfl ⟨rfl, I, w1, w2, t, rfl, hz⟩
theorem op_28_0 {xs : Nat → Int32} (hb : inB (xs 1) 0 98 = true) : OpOk xs 1708 := by
  show AW (S1 6 xs) m_L_main 1050 QM XM 599770 7281900 1708 [some (.ref 199), some (.ref 200), some (.ref 420), some (.ref 431), some (.int 0), none, none] [] (hp I0 L0 0 0 432)
  refine a_l1 rfl rfl rfl ?_
  refine a_l0 rfl rfl rfl ?_
  refine a_l4 rfl rfl rfl ?_
  refine a_s rfl rfl ?_
  refine a_s rfl rfl ?_
  refine a_ialdc rfl scr_mem ⟨by decide, by decide⟩ ?_
  refine a_l3 rfl rfl rfl ?_
  refine a_callW rfl lL_237 mo_L_young (w_young (cr_X11_young hb)) rfl rfl rfl rfl (fun v h' hv => ?_) (fun E h' hx => False.elim hx)
  obtain ⟨rfl, I, w1, w2, t, rfl, hz⟩ := hv
  refine a_s5 rfl rfl rfl rfl rfl rfl ?_
  refine a_l2 rfl rfl rfl ?_
  refine a_l0 rfl rfl rfl ?_
  refine a_l4 rfl rfl rfl ?_
  refine a_s rfl rfl ?_
  refine a_s rfl rfl ?_
  refine a_ialdc rfl scr_mem ⟨by decide, by decide⟩ ?_
  refine a_callV rfl lL_239 mo_X12_young (rr_X12_young hb I _ w1 w2 t hz) rfl rfl rfl ⟨12, _, rfl, rfl, rfl⟩ rfl (fun v h' hv => ?_) (fun E h' hx => False.elim hx)
  obtain ⟨rfl, I', L', w1', w2', t', rfl, hk, hL⟩ := hv
  refine a_s6 rfl rfl rfl rfl rfl rfl ?_
  refine a_l2 rfl rfl rfl ?_
  refine a_eV1 rfl lL_149 mo_X12_thrown (sp_X12_thrown) rfl rfl rfl ⟨12, _, rfl, rfl, rfl⟩ rfl ?_
  refine a_l5 rfl rfl rfl ?_
  refine a_ic_eq rfl (fun c1739 => ?_) (fun c => absurd (hk) c)
  refine a_l5 rfl rfl rfl ?_
  refine a_if_ne rfl (fun c => absurd c (fun z => z rfl)) (fun c1746 => ?_)
  refine a_l3 rfl rfl rfl ?_
  refine a_s rfl rfl ?_
  refine a_lald rfl (n := 1) rfl ⟨by decide, by decide⟩ ?_
  rw [hL]
  refine a_l6 rfl rfl rfl ?_
  refine a_s rfl rfl ?_
  refine a_s rfl rfl ?_
  refine a_if_eq rfl (fun c1756 => ?_) (fun c => absurd (cmp_self _) c)
  refine a_goto rfl ?_
  exact fin_ok
theorem op_28_1 {xs : Nat → Int32} (hb : inB (xs 1) 0 98 = false) : OpOk xs 1708 := by
  show AW (S1 6 xs) m_L_main 1050 QM XM 599770 7281900 1708 [some (.ref 199), some (.ref 200), some (.ref 420), some (.ref 431), some (.int 0), none, none] [] (hp I0 L0 0 0 432)
  refine a_l1 rfl rfl rfl ?_
  refine a_l0 rfl rfl rfl ?_
  refine a_l4 rfl rfl rfl ?_
  refine a_s rfl rfl ?_
  refine a_s rfl rfl ?_
  refine a_ialdc rfl scr_mem ⟨by decide, by decide⟩ ?_
  refine a_l3 rfl rfl rfl ?_
  refine a_callW rfl lL_237 mo_L_young (wx_young_1 (cx_X11_young_x hb)) rfl rfl rfl rfl (fun v h' hv => ?_) (fun E h' hx => False.elim hx)
  obtain ⟨rfl, I, w1, w2, t, rfl, hz⟩ := hv
  refine a_s5 rfl rfl rfl rfl rfl rfl ?_
  refine a_l2 rfl rfl rfl ?_
  refine a_l0 rfl rfl rfl ?_
  refine a_l4 rfl rfl rfl ?_
  refine a_s rfl rfl ?_
  refine a_s rfl rfl ?_
  refine a_ialdc rfl scr_mem ⟨by decide, by decide⟩ ?_
  refine a_callV rfl lL_239 mo_X12_young (rr_X12_young_x hb I _ w1 w2 t hz) rfl rfl rfl ⟨12, _, rfl, rfl, rfl⟩ rfl (fun v h' hv => ?_) (fun E h' hx => False.elim hx)
  obtain ⟨rfl, I', L', w1', w2', t', rfl, hk, hL⟩ := hv
  refine a_s6 rfl rfl rfl rfl rfl rfl ?_
  refine a_l2 rfl rfl rfl ?_
  refine a_eV1 rfl lL_149 mo_X12_thrown (sp_X12_thrown) rfl rfl rfl ⟨12, _, rfl, rfl, rfl⟩ rfl ?_
  refine a_l5 rfl rfl rfl ?_
  refine a_ic_eq rfl (fun c1739 => ?_) (fun c => absurd (hk) c)
  refine a_l5 rfl rfl rfl ?_
  refine a_if_ne rfl (fun c1746 => ?_) (fun c => absurd c (by decide))
  refine a_goto rfl ?_
  exact fin_ok
theorem op_28 {xs : Nat → Int32} : OpOk xs 1708 := by
  cases hb : inB (xs 1) 0 98 with
  | true => exact op_28_0 hb
  | false => exact op_28_1 hb
theorem au_X11_older_89 {S : aS} {I : Nat → Nat → Int32} {L : Nat → Nat → Int64} {w1 w2 t : Nat} {x1 : Int32} (h235_3 : I 235 3 = 0) (q0 : inB x1 0 99 = true) : SpE S m_X11_older 13 [.ref 200, .int x1] (hp I L w1 w2 t) (some (.int 0)) (hp I L w1 w2 t) := by
  refine SpE_of ok_X11_older rfl rfl ?_
  show AW S m_X11_older 13 _ _ 0 0 0 [some (.ref 200), some (.int x1)] [] (hp I L w1 w2 t)
  refine a_l1 rfl rfl rfl ?_
  refine a_s rfl rfl ?_
  refine a_s rfl rfl ?_
  refine a_eS0 rfl lX11_250 mo_X11_needNumber (sp_needNumber (q0)) rfl rfl rfl rfl ?_
  refine a_l0 rfl rfl rfl ?_
  refine a_getq rfl gfX11_37_11 rfl rfl ?_
  refine a_l1 rfl rfl rfl ?_
  refine a_eV1 rfl lX11_307 mo_X5_olderThan (au_X5_olderThan_75 h235_3 ) rfl rfl rfl ⟨5, _, rfl, rfl, rfl⟩ rfl ?_
  refine a_eS1 rfl lX11_261 mo_J6_bitCount_0f7a4 ((sp_bitCount (x := 0)).cast (r' := some (.int 0)) (by decide) rfl) rfl rfl rfl rfl ?_
  exact a_iret rfl rfl ⟨rfl, rfl⟩
theorem cr_X11_older {S : aS} {x0 : Int32} (q : inB x0 0 99 = true) : CRet S m_X11_older 13 [.ref 200, .int x0] (some 0) := CRet.of (au_X11_older_89 I0_235_3 (q)) (fun _ _ => rfl)
theorem au_X12_older_90 {S : aS} {I : Nat → Nat → Int32} {L : Nat → Nat → Int64} {w1 w2 t : Nat} {x1 : Int32} (h421_1 : I 421 1 = 0) (q0 : inB x1 0 99 = true) : SpE S m_X12_older 14 [.ref 420, .int x1] (hp I L w1 w2 t) (some (.int 0)) (hp (up2 I 420 0 0) L w1 w2 t) := by
  refine SpE_of ok_X12_older rfl rfl ?_
  show AW S m_X12_older 14 _ _ 0 0 0 [some (.ref 420), some (.int x1)] [] (hp I L w1 w2 t)
  refine a_l0 rfl rfl rfl ?_
  refine a_s rfl rfl ?_
  refine a_puti rfl pfX12_3_12 rfl ?_
  refine a_l0 rfl rfl rfl ?_
  refine a_l1 rfl rfl rfl ?_
  refine a_s rfl rfl ?_
  refine a_s rfl rfl ?_
  refine a_eS1 rfl lX12_70 mo_X12_in ((sp_X12_in (x := x1) (a := 0) (b := 99)).cast (r' := some (.int 1)) (by rw [q0]; rfl) rfl) rfl rfl rfl rfl ?_
  refine a_if_ne rfl (fun c13 => ?_) (fun c => absurd c (by decide))
  refine a_s rfl rfl ?_
  refine a_s rfl rfl ?_
  refine a_eV1 rfl lX12_243 mo_X12_throwsIf (au_X12_throwsIf_32  ) rfl rfl rfl ⟨12, _, rfl, rfl, rfl⟩ rfl ?_
  refine a_if_eq rfl (fun c25 => ?_) (fun c => absurd (by decide) c)
  refine a_l0 rfl rfl rfl ?_
  refine a_l1 rfl rfl rfl ?_
  refine a_eV1 rfl lX12_429 mo_X12_olderOnes (au_X12_olderOnes_83 h421_1 ) rfl rfl rfl ⟨12, _, rfl, rfl, rfl⟩ rfl ?_
  refine a_eS1 rfl lX12_310 mo_J6_bitCount_0f7a4 ((sp_bitCount (x := 0)).cast (r' := some (.int 0)) (by decide) rfl) rfl rfl rfl rfl ?_
  exact a_iret rfl rfl ⟨rfl, rfl⟩
theorem rr_X12_older {S : aS} {x0 : Int32} (q : inB x0 0 99 = true) : RRet S m_X12_older 14 [.ref 420, .int x0] (some 0) 0 := RRet.of (fun I => up2 I 420 0 0) (fun I L w1 w2 t hz => au_X12_older_90 (hz.at rfl I0_421_1) (q)) (fun I hz => rfl)
theorem au_X11_older_91 {S : aS} {I : Nat → Nat → Int32} {L : Nat → Nat → Int64} {w1 w2 t : Nat} {x1 : Int32}  (q0 : inB x1 0 99 = false) : SpX S m_X11_older 13 [.ref 200, .int x1] (hp I L w1 w2 t) "java/lang/IllegalArgumentException" (hp I L w1 w2 0) := by
  refine SpX_of ok_X11_older rfl rfl ?_
  show AW S m_X11_older 13 _ _ 1 6 0 [some (.ref 200), some (.int x1)] [] (hp I L w1 w2 t)
  refine a_l1 rfl rfl rfl ?_
  refine a_s rfl rfl ?_
  refine a_s rfl rfl ?_
  exact a_xS rfl lX11_250 mo_X11_needNumber (spx_needNumber (q0)) rfl rfl rfl rfl ⟨rfl, rfl⟩
theorem cx_X11_older_x {S : aS} {x0 : Int32} (q : inB x0 0 99 = false) : CThr S m_X11_older 13 [.ref 200, .int x0] "java/lang/IllegalArgumentException" := CThr.of (au_X11_older_91  (q))
theorem au_X12_older_92 {S : aS} {I : Nat → Nat → Int32} {L : Nat → Nat → Int64} {w1 w2 t : Nat} {x1 : Int32}  (q0 : inB x1 0 99 = false) : SpE S m_X12_older 13 [.ref 420, .int x1] (hp I L w1 w2 t) (some (.int 0)) (hp (up2 (up2 I 420 0 0) 420 0 1) L w1 w2 t) := by
  refine SpE_of ok_X12_older rfl rfl ?_
  show AW S m_X12_older 13 _ _ 0 0 0 [some (.ref 420), some (.int x1)] [] (hp I L w1 w2 t)
  refine a_l0 rfl rfl rfl ?_
  refine a_s rfl rfl ?_
  refine a_puti rfl pfX12_3_12 rfl ?_
  refine a_l0 rfl rfl rfl ?_
  refine a_l1 rfl rfl rfl ?_
  refine a_s rfl rfl ?_
  refine a_s rfl rfl ?_
  refine a_eS1 rfl lX12_70 mo_X12_in ((sp_X12_in (x := x1) (a := 0) (b := 99)).cast (r' := some (.int 0)) (by rw [q0]; rfl) rfl) rfl rfl rfl rfl ?_
  refine a_if_ne rfl (fun c => absurd c (by decide)) (fun c13 => ?_)
  refine a_s rfl rfl ?_
  refine a_goto rfl ?_
  refine a_s rfl rfl ?_
  refine a_eV1 rfl lX12_243 mo_X12_throwsIf (au_X12_throwsIf_87  ) rfl rfl rfl ⟨12, _, rfl, rfl, rfl⟩ rfl ?_
  refine a_if_eq rfl (fun c => absurd c (by decide)) (fun c25 => ?_)
  refine a_s rfl rfl ?_
  refine a_goto rfl ?_
  exact a_iret rfl rfl ⟨rfl, rfl⟩
theorem rr_X12_older_x {S : aS} {x0 : Int32} (q : inB x0 0 99 = false) : RRet S m_X12_older 13 [.ref 420, .int x0] (some 0) 1 := RRet.of (fun I => up2 (up2 I 420 0 0) 420 0 1) (fun I L w1 w2 t hz => au_X12_older_92  (q)) (fun I hz => rfl)
theorem w_older {S : aS} {x0 : Int32} {r : Int32} (h : CRet S m_X11_older 13 [.ref 200, .int x0] (some r)) : Sp S m_L_older 14 0 0 [.ref 200, .int x0, .ref 431] (hp I0 L0 0 0 432) (QW r) (fun _ _ => False) := by
  refine Sp_of ok_L_older rfl rfl ?_
  show AW S m_L_older 14 _ _ 0 0 0 [some (.ref 200), some (.int x0), some (.ref 431), none] [] (hp I0 L0 0 0 432)
  refine a_l2 rfl rfl rfl ?_
  refine a_s rfl rfl ?_
  refine a_l0 rfl rfl rfl ?_
  refine a_l1 rfl rfl rfl ?_
  refine a_callVc rfl lL_87 mo_X11_older h rfl rfl rfl ⟨11, _, rfl, rfl, rfl⟩ (fun v h' hv => ?_) (fun E h' hx => False.elim hx)
  obtain ⟨rfl, I, w1, w2, t, rfl, hz⟩ := hv
  refine a_s rfl rfl ?_
  refine a_last rfl (n := 1) rfl ⟨by decide, by decide⟩ ?_
  refine a_goto rfl ?_
  refine a_s rfl rfl ?_
  exact a_iret rfl rfl ⟨rfl, I, w1, w2, t, rfl, hz⟩
theorem wx_older_1 {xs : Nat → Int32} {x0 : Int32} (h : CThr (S1 6 xs) m_X11_older 13 [.ref 200, .int x0] "java/lang/IllegalArgumentException") : Sp (S1 6 xs) m_L_older 14 1 6 [.ref 200, .int x0, .ref 431] (hp I0 L0 0 0 432) (QX 1) (fun _ _ => False) := by
  refine Sp_of ok_L_older rfl rfl ?_
  show AW (S1 6 xs) m_L_older 14 _ _ 1 6 0 [some (.ref 200), some (.int x0), some (.ref 431), none] [] (hp I0 L0 0 0 432)
  refine a_l2 rfl rfl rfl ?_
  refine a_s rfl rfl ?_
  refine a_l0 rfl rfl rfl ?_
  refine a_l1 rfl rfl rfl ?_
  refine a_callVc rfl lL_87 mo_X11_older h rfl rfl rfl ⟨11, _, rfl, rfl, rfl⟩ (fun v h' hv => False.elim hv) (fun E h' hx => ?_)
  obtain ⟨rfl, I, w1, w2, t, rfl, hz⟩ := hx
  refine ⟨12, _, _, _, _, 3, tk_13 rfl (by decide) (by decide), rfl, rfl, by decide, ?_⟩
  refine a_s rfl rfl ?_
  exact a_iret rfl rfl ⟨rfl, I, w1, w2, t, rfl, hz⟩
theorem op_29_0 {xs : Nat → Int32} (hb : inB (xs 1) 0 99 = true) : OpOk xs 1764 := by
  show AW (S1 6 xs) m_L_main 1050 QM XM 599770 7281900 1764 [some (.ref 199), some (.ref 200), some (.ref 420), some (.ref 431), some (.int 0), none, none] [] (hp I0 L0 0 0 432)
  refine a_l1 rfl rfl rfl ?_
  refine a_l0 rfl rfl rfl ?_
  refine a_l4 rfl rfl rfl ?_
  refine a_s rfl rfl ?_
  refine a_s rfl rfl ?_
  refine a_ialdc rfl scr_mem ⟨by decide, by decide⟩ ?_
  refine a_l3 rfl rfl rfl ?_
  refine a_callW rfl lL_240 mo_L_older (w_older (cr_X11_older hb)) rfl rfl rfl rfl (fun v h' hv => ?_) (fun E h' hx => False.elim hx)
  obtain ⟨rfl, I, w1, w2, t, rfl, hz⟩ := hv
  refine a_s5 rfl rfl rfl rfl rfl rfl ?_
  refine a_l2 rfl rfl rfl ?_
  refine a_l0 rfl rfl rfl ?_
  refine a_l4 rfl rfl rfl ?_
  refine a_s rfl rfl ?_
  refine a_s rfl rfl ?_
  refine a_ialdc rfl scr_mem ⟨by decide, by decide⟩ ?_
  refine a_callV rfl lL_242 mo_X12_older (rr_X12_older hb I _ w1 w2 t hz) rfl rfl rfl ⟨12, _, rfl, rfl, rfl⟩ rfl (fun v h' hv => ?_) (fun E h' hx => False.elim hx)
  obtain ⟨rfl, I', L', w1', w2', t', rfl, hk, hL⟩ := hv
  refine a_s6 rfl rfl rfl rfl rfl rfl ?_
  refine a_l2 rfl rfl rfl ?_
  refine a_eV1 rfl lL_149 mo_X12_thrown (sp_X12_thrown) rfl rfl rfl ⟨12, _, rfl, rfl, rfl⟩ rfl ?_
  refine a_l5 rfl rfl rfl ?_
  refine a_ic_eq rfl (fun c1795 => ?_) (fun c => absurd (hk) c)
  refine a_l5 rfl rfl rfl ?_
  refine a_if_ne rfl (fun c => absurd c (fun z => z rfl)) (fun c1802 => ?_)
  refine a_l3 rfl rfl rfl ?_
  refine a_s rfl rfl ?_
  refine a_lald rfl (n := 1) rfl ⟨by decide, by decide⟩ ?_
  rw [hL]
  refine a_l6 rfl rfl rfl ?_
  refine a_s rfl rfl ?_
  refine a_s rfl rfl ?_
  refine a_if_eq rfl (fun c1812 => ?_) (fun c => absurd (cmp_self _) c)
  refine a_goto rfl ?_
  exact fin_ok
theorem op_29_1 {xs : Nat → Int32} (hb : inB (xs 1) 0 99 = false) : OpOk xs 1764 := by
  show AW (S1 6 xs) m_L_main 1050 QM XM 599770 7281900 1764 [some (.ref 199), some (.ref 200), some (.ref 420), some (.ref 431), some (.int 0), none, none] [] (hp I0 L0 0 0 432)
  refine a_l1 rfl rfl rfl ?_
  refine a_l0 rfl rfl rfl ?_
  refine a_l4 rfl rfl rfl ?_
  refine a_s rfl rfl ?_
  refine a_s rfl rfl ?_
  refine a_ialdc rfl scr_mem ⟨by decide, by decide⟩ ?_
  refine a_l3 rfl rfl rfl ?_
  refine a_callW rfl lL_240 mo_L_older (wx_older_1 (cx_X11_older_x hb)) rfl rfl rfl rfl (fun v h' hv => ?_) (fun E h' hx => False.elim hx)
  obtain ⟨rfl, I, w1, w2, t, rfl, hz⟩ := hv
  refine a_s5 rfl rfl rfl rfl rfl rfl ?_
  refine a_l2 rfl rfl rfl ?_
  refine a_l0 rfl rfl rfl ?_
  refine a_l4 rfl rfl rfl ?_
  refine a_s rfl rfl ?_
  refine a_s rfl rfl ?_
  refine a_ialdc rfl scr_mem ⟨by decide, by decide⟩ ?_
  refine a_callV rfl lL_242 mo_X12_older (rr_X12_older_x hb I _ w1 w2 t hz) rfl rfl rfl ⟨12, _, rfl, rfl, rfl⟩ rfl (fun v h' hv => ?_) (fun E h' hx => False.elim hx)
  obtain ⟨rfl, I', L', w1', w2', t', rfl, hk, hL⟩ := hv
  refine a_s6 rfl rfl rfl rfl rfl rfl ?_
  refine a_l2 rfl rfl rfl ?_
  refine a_eV1 rfl lL_149 mo_X12_thrown (sp_X12_thrown) rfl rfl rfl ⟨12, _, rfl, rfl, rfl⟩ rfl ?_
  refine a_l5 rfl rfl rfl ?_
  refine a_ic_eq rfl (fun c1795 => ?_) (fun c => absurd (hk) c)
  refine a_l5 rfl rfl rfl ?_
  refine a_if_ne rfl (fun c1802 => ?_) (fun c => absurd c (by decide))
  refine a_goto rfl ?_
  exact fin_ok
theorem op_29 {xs : Nat → Int32} : OpOk xs 1764 := by
  cases hb : inB (xs 1) 0 99 with
  | true => exact op_29_0 hb
  | false => exact op_29_1 hb
theorem au_X5_bitsIn_93 {S : aS} {I : Nat → Nat → Int32} {L : Nat → Nat → Int64} {w1 w2 t : Nat} (h235_3 : I 235 3 = 0)  : SpE S m_X5_bitsIn 12 [.ref 235, .int 0] (hp I L w1 w2 t) (some (.int 0)) (hp I L w1 w2 t) := by
  refine SpE_of ok_X5_bitsIn rfl rfl ?_
  show AW S m_X5_bitsIn 12 _ _ 0 0 0 [some (.ref 235), some (.int 0), none, none] [] (hp I L w1 w2 t)
  refine a_s rfl rfl ?_
  refine a_s2 rfl rfl rfl rfl rfl rfl ?_
  refine a_s rfl rfl ?_
  refine a_s3 rfl rfl rfl rfl rfl rfl ?_
  refine a_l3 rfl rfl rfl ?_
  refine a_l0 rfl rfl rfl ?_
  refine a_getiv (v := 0) rfl gfX5_63_5 rfl h235_3 ?_
  refine a_ic_ge rfl (fun c9 => ?_) (fun c => absurd (by decide) c)
  refine a_l2 rfl rfl rfl ?_
  exact a_iret rfl rfl ⟨rfl, rfl⟩
theorem au_X0_leansWithin_94 {S : aS} {I : Nat → Nat → Int32} {L : Nat → Nat → Int64} {w1 w2 t : Nat} (h235_3 : I 235 3 = 0)  : SpE S m_X0_leansWithin 12 [.ref 235, .int 0] (hp I L w1 w2 t) (some (.int 1)) (hp I L w1 w2 t) := by
  refine SpE_of ok_X0_leansWithin rfl rfl ?_
  show AW S m_X0_leansWithin 12 _ _ 0 0 0 [some (.ref 235), some (.int 0), none] [] (hp I L w1 w2 t)
  refine a_s rfl rfl ?_
  refine a_s2 rfl rfl rfl rfl rfl rfl ?_
  refine a_l2 rfl rfl rfl ?_
  refine a_l0 rfl rfl rfl ?_
  refine a_getiv (v := 0) rfl gfX0_24_5 rfl h235_3 ?_
  refine a_ic_ge rfl (fun c7 => ?_) (fun c => absurd (by decide) c)
  refine a_s rfl rfl ?_
  exact a_zret rfl rfl rfl ⟨rfl, rfl⟩
theorem au_X11_sumOver_95 {S : aS} {I : Nat → Nat → Int32} {L : Nat → Nat → Int64} {w1 w2 t : Nat}   : SpE S m_X11_sumOver 12 [.ref 256, .int 0] (hp I L w1 w2 t) (some (.int 0)) (hp I L w1 w2 t) := by
  refine SpE_of ok_X11_sumOver rfl rfl ?_
  show AW S m_X11_sumOver 12 _ _ 0 0 0 [some (.ref 256), some (.int 0), none, none] [] (hp I L w1 w2 t)
  refine a_s rfl rfl ?_
  refine a_s2 rfl rfl rfl rfl rfl rfl ?_
  refine a_s rfl rfl ?_
  refine a_s3 rfl rfl rfl rfl rfl rfl ?_
  refine a_l3 rfl rfl rfl ?_
  refine a_l0 rfl rfl rfl ?_
  refine a_len (x := 12) rfl rfl rfl (by decide) ?_
  refine a_ic_ge rfl (fun c => absurd c (by decide)) (fun c7 => ?_)
  refine a_l1 rfl rfl rfl ?_
  refine a_l3 rfl rfl rfl ?_
  refine a_s rfl rfl ?_
  refine a_top (y := 0) (by decide) ?_
  refine a_s rfl rfl ?_
  refine a_s rfl rfl ?_
  refine a_top (y := 0) (by decide) ?_
  refine a_if_eq rfl (fun c15 => ?_) (fun c => absurd (by decide) c)
  refine a_iv3 (y := 1) rfl rfl rfl (by decide) ?_
  refine a_goto rfl ?_
  refine a_l3 rfl rfl rfl ?_
  refine a_l0 rfl rfl rfl ?_
  refine a_len (x := 12) rfl rfl rfl (by decide) ?_
  refine a_ic_ge rfl (fun c => absurd c (by decide)) (fun c7 => ?_)
  refine a_l1 rfl rfl rfl ?_
  refine a_l3 rfl rfl rfl ?_
  refine a_s rfl rfl ?_
  refine a_top (y := 0) (by decide) ?_
  refine a_s rfl rfl ?_
  refine a_s rfl rfl ?_
  refine a_top (y := 0) (by decide) ?_
  refine a_if_eq rfl (fun c15 => ?_) (fun c => absurd (by decide) c)
  refine a_iv3 (y := 2) rfl rfl rfl (by decide) ?_
  refine a_goto rfl ?_
  refine a_l3 rfl rfl rfl ?_
  refine a_l0 rfl rfl rfl ?_
  refine a_len (x := 12) rfl rfl rfl (by decide) ?_
  refine a_ic_ge rfl (fun c => absurd c (by decide)) (fun c7 => ?_)
  refine a_l1 rfl rfl rfl ?_
  refine a_l3 rfl rfl rfl ?_
  refine a_s rfl rfl ?_
  refine a_top (y := 0) (by decide) ?_
  refine a_s rfl rfl ?_
  refine a_s rfl rfl ?_
  refine a_top (y := 0) (by decide) ?_
  refine a_if_eq rfl (fun c15 => ?_) (fun c => absurd (by decide) c)
  refine a_iv3 (y := 3) rfl rfl rfl (by decide) ?_
  refine a_goto rfl ?_
  refine a_l3 rfl rfl rfl ?_
  refine a_l0 rfl rfl rfl ?_
  refine a_len (x := 12) rfl rfl rfl (by decide) ?_
  refine a_ic_ge rfl (fun c => absurd c (by decide)) (fun c7 => ?_)
  refine a_l1 rfl rfl rfl ?_
  refine a_l3 rfl rfl rfl ?_
  refine a_s rfl rfl ?_
  refine a_top (y := 0) (by decide) ?_
  refine a_s rfl rfl ?_
  refine a_s rfl rfl ?_
  refine a_top (y := 0) (by decide) ?_
  refine a_if_eq rfl (fun c15 => ?_) (fun c => absurd (by decide) c)
  refine a_iv3 (y := 4) rfl rfl rfl (by decide) ?_
  refine a_goto rfl ?_
  refine a_l3 rfl rfl rfl ?_
  refine a_l0 rfl rfl rfl ?_
  refine a_len (x := 12) rfl rfl rfl (by decide) ?_
  refine a_ic_ge rfl (fun c => absurd c (by decide)) (fun c7 => ?_)
  refine a_l1 rfl rfl rfl ?_
  refine a_l3 rfl rfl rfl ?_
  refine a_s rfl rfl ?_
  refine a_top (y := 0) (by decide) ?_
  refine a_s rfl rfl ?_
  refine a_s rfl rfl ?_
  refine a_top (y := 0) (by decide) ?_
  refine a_if_eq rfl (fun c15 => ?_) (fun c => absurd (by decide) c)
  refine a_iv3 (y := 5) rfl rfl rfl (by decide) ?_
  refine a_goto rfl ?_
  refine a_l3 rfl rfl rfl ?_
  refine a_l0 rfl rfl rfl ?_
  refine a_len (x := 12) rfl rfl rfl (by decide) ?_
  refine a_ic_ge rfl (fun c => absurd c (by decide)) (fun c7 => ?_)
  refine a_l1 rfl rfl rfl ?_
  refine a_l3 rfl rfl rfl ?_
  refine a_s rfl rfl ?_
  refine a_top (y := 0) (by decide) ?_
  refine a_s rfl rfl ?_
  refine a_s rfl rfl ?_
  refine a_top (y := 0) (by decide) ?_
  refine a_if_eq rfl (fun c15 => ?_) (fun c => absurd (by decide) c)
  refine a_iv3 (y := 6) rfl rfl rfl (by decide) ?_
  refine a_goto rfl ?_
  refine a_l3 rfl rfl rfl ?_
  refine a_l0 rfl rfl rfl ?_
  refine a_len (x := 12) rfl rfl rfl (by decide) ?_
  refine a_ic_ge rfl (fun c => absurd c (by decide)) (fun c7 => ?_)
  refine a_l1 rfl rfl rfl ?_
  refine a_l3 rfl rfl rfl ?_
  refine a_s rfl rfl ?_
  refine a_top (y := 0) (by decide) ?_
  refine a_s rfl rfl ?_
  refine a_s rfl rfl ?_
  refine a_top (y := 0) (by decide) ?_
  refine a_if_eq rfl (fun c15 => ?_) (fun c => absurd (by decide) c)
  refine a_iv3 (y := 7) rfl rfl rfl (by decide) ?_
  refine a_goto rfl ?_
  refine a_l3 rfl rfl rfl ?_
  refine a_l0 rfl rfl rfl ?_
  refine a_len (x := 12) rfl rfl rfl (by decide) ?_
  refine a_ic_ge rfl (fun c => absurd c (by decide)) (fun c7 => ?_)
  refine a_l1 rfl rfl rfl ?_
  refine a_l3 rfl rfl rfl ?_
  refine a_s rfl rfl ?_
  refine a_top (y := 0) (by decide) ?_
  refine a_s rfl rfl ?_
  refine a_s rfl rfl ?_
  refine a_top (y := 0) (by decide) ?_
  refine a_if_eq rfl (fun c15 => ?_) (fun c => absurd (by decide) c)
  refine a_iv3 (y := 8) rfl rfl rfl (by decide) ?_
  refine a_goto rfl ?_
  refine a_l3 rfl rfl rfl ?_
  refine a_l0 rfl rfl rfl ?_
  refine a_len (x := 12) rfl rfl rfl (by decide) ?_
  refine a_ic_ge rfl (fun c => absurd c (by decide)) (fun c7 => ?_)
  refine a_l1 rfl rfl rfl ?_
  refine a_l3 rfl rfl rfl ?_
  refine a_s rfl rfl ?_
  refine a_top (y := 0) (by decide) ?_
  refine a_s rfl rfl ?_
  refine a_s rfl rfl ?_
  refine a_top (y := 0) (by decide) ?_
  refine a_if_eq rfl (fun c15 => ?_) (fun c => absurd (by decide) c)
  refine a_iv3 (y := 9) rfl rfl rfl (by decide) ?_
  refine a_goto rfl ?_
  refine a_l3 rfl rfl rfl ?_
  refine a_l0 rfl rfl rfl ?_
  refine a_len (x := 12) rfl rfl rfl (by decide) ?_
  refine a_ic_ge rfl (fun c => absurd c (by decide)) (fun c7 => ?_)
  refine a_l1 rfl rfl rfl ?_
  refine a_l3 rfl rfl rfl ?_
  refine a_s rfl rfl ?_
  refine a_top (y := 0) (by decide) ?_
  refine a_s rfl rfl ?_
  refine a_s rfl rfl ?_
  refine a_top (y := 0) (by decide) ?_
  refine a_if_eq rfl (fun c15 => ?_) (fun c => absurd (by decide) c)
  refine a_iv3 (y := 10) rfl rfl rfl (by decide) ?_
  refine a_goto rfl ?_
  refine a_l3 rfl rfl rfl ?_
  refine a_l0 rfl rfl rfl ?_
  refine a_len (x := 12) rfl rfl rfl (by decide) ?_
  refine a_ic_ge rfl (fun c => absurd c (by decide)) (fun c7 => ?_)
  refine a_l1 rfl rfl rfl ?_
  refine a_l3 rfl rfl rfl ?_
  refine a_s rfl rfl ?_
  refine a_top (y := 0) (by decide) ?_
  refine a_s rfl rfl ?_
  refine a_s rfl rfl ?_
  refine a_top (y := 0) (by decide) ?_
  refine a_if_eq rfl (fun c15 => ?_) (fun c => absurd (by decide) c)
  refine a_iv3 (y := 11) rfl rfl rfl (by decide) ?_
  refine a_goto rfl ?_
  refine a_l3 rfl rfl rfl ?_
  refine a_l0 rfl rfl rfl ?_
  refine a_len (x := 12) rfl rfl rfl (by decide) ?_
  refine a_ic_ge rfl (fun c => absurd c (by decide)) (fun c7 => ?_)
  refine a_l1 rfl rfl rfl ?_
  refine a_l3 rfl rfl rfl ?_
  refine a_s rfl rfl ?_
  refine a_top (y := 0) (by decide) ?_
  refine a_s rfl rfl ?_
  refine a_s rfl rfl ?_
  refine a_top (y := 0) (by decide) ?_
  refine a_if_eq rfl (fun c15 => ?_) (fun c => absurd (by decide) c)
  refine a_iv3 (y := 12) rfl rfl rfl (by decide) ?_
  refine a_goto rfl ?_
  refine a_l3 rfl rfl rfl ?_
  refine a_l0 rfl rfl rfl ?_
  refine a_len (x := 12) rfl rfl rfl (by decide) ?_
  refine a_ic_ge rfl (fun c7 => ?_) (fun c => absurd (by decide) c)
  refine a_l2 rfl rfl rfl ?_
  exact a_iret rfl rfl ⟨rfl, rfl⟩
theorem au_X0_leastShame_96 {S : aS} {I : Nat → Nat → Int32} {L : Nat → Nat → Int64} {w1 w2 t : Nat} {x3 : Int32} (h235_3 : I 235 3 = 0) (q0 : ¬ x3 < 0) : SpE S m_X0_leastShame 13 [.ref 254, .ref 235, .ref 246, .int x3] (hp I L w1 w2 t) (some (.int 0)) (hp I L w1 w2 t) := by
  refine SpE_of ok_X0_leastShame rfl rfl ?_
  show AW S m_X0_leastShame 13 _ _ 0 0 0 [some (.ref 254), some (.ref 235), some (.ref 246), some (.int x3), none, none, none, none, none] [] (hp I L w1 w2 t)
  refine a_l1 rfl rfl rfl ?_
  refine a_s rfl rfl ?_
  refine a_eV1 rfl lX0_59 mo_X5_bitsIn (au_X5_bitsIn_93 h235_3 ) rfl rfl rfl ⟨5, _, rfl, rfl, rfl⟩ rfl ?_
  refine a_s4 rfl rfl rfl rfl rfl rfl ?_
  refine a_s rfl rfl ?_
  refine a_s5 rfl rfl rfl rfl rfl rfl ?_
  refine a_l5 rfl rfl rfl ?_
  refine a_l1 rfl rfl rfl ?_
  refine a_getiv (v := 0) rfl gfX0_24_5 rfl h235_3 ?_
  refine a_ic_ge rfl (fun c16 => ?_) (fun c => absurd (by decide) c)
  refine a_s rfl rfl ?_
  refine a_s5 rfl rfl rfl rfl rfl rfl ?_
  refine a_s rfl rfl ?_
  refine a_s6 rfl rfl rfl rfl rfl rfl ?_
  refine a_s rfl rfl ?_
  refine a_s7 rfl rfl rfl rfl rfl rfl ?_
  refine a_l7 rfl rfl rfl ?_
  refine a_l4 rfl rfl rfl ?_
  refine a_ic_gt rfl (fun c => absurd c (by decide)) (fun c54 => ?_)
  refine a_l7 rfl rfl rfl ?_
  refine a_l4 rfl rfl rfl ?_
  refine a_s rfl rfl ?_
  refine a_s rfl rfl ?_
  refine a_top (y := (-1)) (by decide) ?_
  refine a_s rfl rfl ?_
  refine a_top (y := 0) (by decide) ?_
  refine a_if_ne rfl (fun c => absurd c (by decide)) (fun c64 => ?_)
  refine a_l1 rfl rfl rfl ?_
  refine a_getq rfl gfX0_68_5 rfl rfl ?_
  refine a_l7 rfl rfl rfl ?_
  refine a_eSN1 rfl lX0_71 mo_X11_sumOver (au_X11_sumOver_79  ) rfl rfl rfl rfl ?_
  refine a_l3 rfl rfl rfl ?_
  refine a_ic_gt rfl (fun c => absurd c (q0)) (fun c77 => ?_)
  refine a_l1 rfl rfl rfl ?_
  refine a_l7 rfl rfl rfl ?_
  refine a_eS1 rfl lX0_74 mo_X0_leansWithin (au_X0_leansWithin_94 h235_3 ) rfl rfl rfl rfl ?_
  refine a_if_eq rfl (fun c => absurd c (by decide)) (fun c86 => ?_)
  refine a_l0 rfl rfl rfl ?_
  refine a_getq rfl gfX0_15_0 rfl rfl ?_
  refine a_l7 rfl rfl rfl ?_
  refine a_eSN1 rfl lX0_71 mo_X11_sumOver (au_X11_sumOver_95  ) rfl rfl rfl rfl ?_
  refine a_s8 rfl rfl rfl rfl rfl rfl ?_
  refine a_l8 rfl rfl rfl ?_
  refine a_l6 rfl rfl rfl ?_
  refine a_ic_le rfl (fun c104 => ?_) (fun c => absurd (by decide) c)
  refine a_iv7 (y := 1) rfl rfl rfl (by decide) ?_
  refine a_goto rfl ?_
  refine a_l7 rfl rfl rfl ?_
  refine a_l4 rfl rfl rfl ?_
  refine a_ic_gt rfl (fun c54 => ?_) (fun c => absurd (by decide) c)
  refine a_l5 rfl rfl rfl ?_
  exact a_iret rfl rfl ⟨rfl, rfl⟩
theorem au_X11_does_97 {S : aS} {I : Nat → Nat → Int32} {L : Nat → Nat → Int64} {w1 w2 t : Nat} {x1 : Int32} (h235_3 : I 235 3 = 0) (q0 : inB x1 0 99 = true) (q1 : ¬ x1 < 0) : SpE S m_X11_does 14 [.ref 200, .int x1, .int 0] (hp I L w1 w2 t) (some (.int 0)) (hp I L w1 w2 t) := by
  refine SpE_of ok_X11_does rfl rfl ?_
  show AW S m_X11_does 14 _ _ 0 0 0 [some (.ref 200), some (.int x1), some (.int 0), none] [] (hp I L w1 w2 t)
  refine a_l1 rfl rfl rfl ?_
  refine a_s rfl rfl ?_
  refine a_s rfl rfl ?_
  refine a_eS0 rfl lX11_250 mo_X11_needNumber (sp_needNumber (q0)) rfl rfl rfl rfl ?_
  refine a_l0 rfl rfl rfl ?_
  refine a_getq rfl gfX11_51_11 rfl rfl ?_
  refine a_l0 rfl rfl rfl ?_
  refine a_getq rfl gfX11_37_11 rfl rfl ?_
  refine a_l0 rfl rfl rfl ?_
  refine a_getq rfl gfX11_44_11 rfl rfl ?_
  refine a_l1 rfl rfl rfl ?_
  refine a_eV1 rfl lX11_278 mo_X0_leastShame (au_X0_leastShame_96 h235_3 (q1)) rfl rfl rfl ⟨0, _, rfl, rfl, rfl⟩ rfl ?_
  refine a_s3 rfl rfl rfl rfl rfl rfl ?_
  refine a_l2 rfl rfl rfl ?_
  refine a_if_eq rfl (fun c25 => ?_) (fun c => absurd (by decide) c)
  refine a_l3 rfl rfl rfl ?_
  exact a_iret rfl rfl ⟨rfl, rfl⟩
theorem cr_X11_does_0 {S : aS} {x0 : Int32} (q : inB x0 0 99 = true) : CRet S m_X11_does 14 [.ref 200, .int x0, .int 0] (some 0) := CRet.of (au_X11_does_97 I0_235_3 (q) (inB_lo q)) (fun _ _ => rfl)
theorem au_X12_shameOf_98 {S : aS} {I : Nat → Nat → Int32} {L : Nat → Nat → Int64} {w1 w2 t : Nat} (h421_1 : I 421 1 = 0)  : SpE S m_X12_shameOf 13 [.ref 420, .int 0] (hp I L w1 w2 t) (some (.int 0)) (hp I L w1 w2 t) := by
  refine SpE_of ok_X12_shameOf rfl rfl ?_
  show AW S m_X12_shameOf 13 _ _ 0 0 0 [some (.ref 420), some (.int 0), none, none] [] (hp I L w1 w2 t)
  refine a_s rfl rfl ?_
  refine a_s2 rfl rfl rfl rfl rfl rfl ?_
  refine a_s rfl rfl ?_
  refine a_s3 rfl rfl rfl rfl rfl rfl ?_
  refine a_l3 rfl rfl rfl ?_
  refine a_l0 rfl rfl rfl ?_
  refine a_eV1 rfl lX12_74 mo_X12_duties (au_X12_duties_4 h421_1 ) rfl rfl rfl ⟨12, _, rfl, rfl, rfl⟩ rfl ?_
  refine a_ic_ge rfl (fun c9 => ?_) (fun c => absurd (by decide) c)
  refine a_l2 rfl rfl rfl ?_
  exact a_iret rfl rfl ⟨rfl, rfl⟩
theorem au_X12_toDo_99 {S : aS} {I : Nat → Nat → Int32} {L : Nat → Nat → Int64} {w1 w2 t : Nat} {x1 : Int32} (h421_1 : I 421 1 = 0)  : SpE S m_X12_toDo 14 [.ref 420, .int x1] (hp I L w1 w2 t) (some (.int 0)) (hp I L w1 w2 t) := by
  refine SpE_of ok_X12_toDo rfl rfl ?_
  show AW S m_X12_toDo 14 _ _ 0 0 0 [some (.ref 420), some (.int x1), none, none, none, none, none] [] (hp I L w1 w2 t)
  refine a_l0 rfl rfl rfl ?_
  refine a_s rfl rfl ?_
  refine a_eV1 rfl lX12_324 mo_X12_ofState (au_X12_ofState_6 h421_1 ) rfl rfl rfl ⟨12, _, rfl, rfl, rfl⟩ rfl ?_
  refine a_s2 rfl rfl rfl rfl rfl rfl ?_
  refine a_s rfl rfl ?_
  refine a_s3 rfl rfl rfl rfl rfl rfl ?_
  refine a_l0 rfl rfl rfl ?_
  refine a_l2 rfl rfl rfl ?_
  refine a_eV1 rfl lX12_339 mo_X12_shameOf (au_X12_shameOf_98 h421_1 ) rfl rfl rfl ⟨12, _, rfl, rfl, rfl⟩ rfl ?_
  refine a_s4 rfl rfl rfl rfl rfl rfl ?_
  refine a_s rfl rfl ?_
  refine a_s5 rfl rfl rfl rfl rfl rfl ?_
  refine a_l5 rfl rfl rfl ?_
  refine a_l2 rfl rfl rfl ?_
  refine a_ic_gt rfl (fun c21 => ?_) (fun c => absurd (by decide) c)
  refine a_l3 rfl rfl rfl ?_
  exact a_iret rfl rfl ⟨rfl, rfl⟩
theorem au_X12_does_100 {S : aS} {I : Nat → Nat → Int32} {L : Nat → Nat → Int64} {w1 w2 t : Nat} {x1 : Int32} (h421_1 : I 421 1 = 0) (q0 : inB x1 0 99 = true) : SpE S m_X12_does 15 [.ref 420, .int x1, .int 0] (hp I L w1 w2 t) (some (.int 0)) (hp (up2 I 420 0 0) L w1 w2 t) := by
  refine SpE_of ok_X12_does rfl rfl ?_
  show AW S m_X12_does 15 _ _ 0 0 0 [some (.ref 420), some (.int x1), some (.int 0), none] [] (hp I L w1 w2 t)
  refine a_l0 rfl rfl rfl ?_
  refine a_s rfl rfl ?_
  refine a_puti rfl pfX12_3_12 rfl ?_
  refine a_l0 rfl rfl rfl ?_
  refine a_l1 rfl rfl rfl ?_
  refine a_s rfl rfl ?_
  refine a_s rfl rfl ?_
  refine a_eS1 rfl lX12_70 mo_X12_in ((sp_X12_in (x := x1) (a := 0) (b := 99)).cast (r' := some (.int 1)) (by rw [q0]; rfl) rfl) rfl rfl rfl rfl ?_
  refine a_if_ne rfl (fun c13 => ?_) (fun c => absurd c (by decide))
  refine a_s rfl rfl ?_
  refine a_s rfl rfl ?_
  refine a_eV1 rfl lX12_243 mo_X12_throwsIf (au_X12_throwsIf_32  ) rfl rfl rfl ⟨12, _, rfl, rfl, rfl⟩ rfl ?_
  refine a_if_eq rfl (fun c25 => ?_) (fun c => absurd (by decide) c)
  refine a_l0 rfl rfl rfl ?_
  refine a_l1 rfl rfl rfl ?_
  refine a_eV1 rfl lX12_435 mo_X12_toDo (au_X12_toDo_99 h421_1 ) rfl rfl rfl ⟨12, _, rfl, rfl, rfl⟩ rfl ?_
  refine a_s3 rfl rfl rfl rfl rfl rfl ?_
  refine a_l2 rfl rfl rfl ?_
  refine a_if_eq rfl (fun c37 => ?_) (fun c => absurd (by decide) c)
  refine a_l3 rfl rfl rfl ?_
  exact a_iret rfl rfl ⟨rfl, rfl⟩
theorem rr_X12_does_0 {S : aS} {x0 : Int32} (q : inB x0 0 99 = true) : RRet S m_X12_does 15 [.ref 420, .int x0, .int 0] (some 0) 0 := RRet.of (fun I => up2 I 420 0 0) (fun I L w1 w2 t hz => au_X12_does_100 (hz.at rfl I0_421_1) (q)) (fun I hz => rfl)
theorem au_X2_shameOfSet_101 {S : aS} {I : Nat → Nat → Int32} {L : Nat → Nat → Int64} {w1 w2 t : Nat} (h235_3 : I 235 3 = 0)  : SpE S m_X2_shameOfSet 12 [.ref 246, .ref 235, .int 0] (hp I L w1 w2 t) (some (.int 0)) (hp I L w1 w2 t) := by
  refine SpE_of ok_X2_shameOfSet rfl rfl ?_
  show AW S m_X2_shameOfSet 12 _ _ 0 0 0 [some (.ref 246), some (.ref 235), some (.int 0), none, none] [] (hp I L w1 w2 t)
  refine a_s rfl rfl ?_
  refine a_s3 rfl rfl rfl rfl rfl rfl ?_
  refine a_s rfl rfl ?_
  refine a_s4 rfl rfl rfl rfl rfl rfl ?_
  refine a_l4 rfl rfl rfl ?_
  refine a_l1 rfl rfl rfl ?_
  refine a_getiv (v := 0) rfl gfX2_71_5 rfl h235_3 ?_
  refine a_ic_ge rfl (fun c11 => ?_) (fun c => absurd (by decide) c)
  refine a_l3 rfl rfl rfl ?_
  exact a_iret rfl rfl ⟨rfl, rfl⟩
theorem au_X11_does_102 {S : aS} {I : Nat → Nat → Int32} {L : Nat → Nat → Int64} {w1 w2 t : Nat} {x1 : Int32} (h235_3 : I 235 3 = 0) (q0 : inB x1 0 99 = true) (q1 : ¬ x1 < 0) : SpE S m_X11_does 14 [.ref 200, .int x1, .int 1] (hp I L w1 w2 t) (some (.int 0)) (hp I L w1 w2 t) := by
  refine SpE_of ok_X11_does rfl rfl ?_
  show AW S m_X11_does 14 _ _ 0 0 0 [some (.ref 200), some (.int x1), some (.int 1), none] [] (hp I L w1 w2 t)
  refine a_l1 rfl rfl rfl ?_
  refine a_s rfl rfl ?_
  refine a_s rfl rfl ?_
  refine a_eS0 rfl lX11_250 mo_X11_needNumber (sp_needNumber (q0)) rfl rfl rfl rfl ?_
  refine a_l0 rfl rfl rfl ?_
  refine a_getq rfl gfX11_51_11 rfl rfl ?_
  refine a_l0 rfl rfl rfl ?_
  refine a_getq rfl gfX11_37_11 rfl rfl ?_
  refine a_l0 rfl rfl rfl ?_
  refine a_getq rfl gfX11_44_11 rfl rfl ?_
  refine a_l1 rfl rfl rfl ?_
  refine a_eV1 rfl lX11_278 mo_X0_leastShame (au_X0_leastShame_96 h235_3 (q1)) rfl rfl rfl ⟨0, _, rfl, rfl, rfl⟩ rfl ?_
  refine a_s3 rfl rfl rfl rfl rfl rfl ?_
  refine a_l2 rfl rfl rfl ?_
  refine a_if_eq rfl (fun c => absurd c (by decide)) (fun c25 => ?_)
  refine a_l0 rfl rfl rfl ?_
  refine a_getq rfl gfX11_44_11 rfl rfl ?_
  refine a_l0 rfl rfl rfl ?_
  refine a_getq rfl gfX11_37_11 rfl rfl ?_
  refine a_l0 rfl rfl rfl ?_
  refine a_getq rfl gfX11_37_11 rfl rfl ?_
  refine a_s rfl rfl ?_
  refine a_eV1 rfl lX11_200 mo_X5_bitsIn (au_X5_bitsIn_93 h235_3 ) rfl rfl rfl ⟨5, _, rfl, rfl, rfl⟩ rfl ?_
  refine a_l3 rfl rfl rfl ?_
  refine a_s rfl rfl ?_
  refine a_s rfl rfl ?_
  refine a_top (y := (-1)) (by decide) ?_
  refine a_s rfl rfl ?_
  refine a_top (y := 0) (by decide) ?_
  refine a_eV1 rfl lX11_282 mo_X2_shameOfSet (au_X2_shameOfSet_101 h235_3 ) rfl rfl rfl ⟨2, _, rfl, rfl, rfl⟩ rfl ?_
  refine a_goto rfl ?_
  exact a_iret rfl rfl ⟨rfl, rfl⟩
theorem cr_X11_does_1 {S : aS} {x0 : Int32} (q : inB x0 0 99 = true) : CRet S m_X11_does 14 [.ref 200, .int x0, .int 1] (some 0) := CRet.of (au_X11_does_102 I0_235_3 (q) (inB_lo q)) (fun _ _ => rfl)
theorem au_X12_does_103 {S : aS} {I : Nat → Nat → Int32} {L : Nat → Nat → Int64} {w1 w2 t : Nat} {x1 : Int32} (h421_1 : I 421 1 = 0) (q0 : inB x1 0 99 = true) : SpE S m_X12_does 15 [.ref 420, .int x1, .int 1] (hp I L w1 w2 t) (some (.int 0)) (hp (up2 I 420 0 0) L w1 w2 t) := by
  refine SpE_of ok_X12_does rfl rfl ?_
  show AW S m_X12_does 15 _ _ 0 0 0 [some (.ref 420), some (.int x1), some (.int 1), none] [] (hp I L w1 w2 t)
  refine a_l0 rfl rfl rfl ?_
  refine a_s rfl rfl ?_
  refine a_puti rfl pfX12_3_12 rfl ?_
  refine a_l0 rfl rfl rfl ?_
  refine a_l1 rfl rfl rfl ?_
  refine a_s rfl rfl ?_
  refine a_s rfl rfl ?_
  refine a_eS1 rfl lX12_70 mo_X12_in ((sp_X12_in (x := x1) (a := 0) (b := 99)).cast (r' := some (.int 1)) (by rw [q0]; rfl) rfl) rfl rfl rfl rfl ?_
  refine a_if_ne rfl (fun c13 => ?_) (fun c => absurd c (by decide))
  refine a_s rfl rfl ?_
  refine a_s rfl rfl ?_
  refine a_eV1 rfl lX12_243 mo_X12_throwsIf (au_X12_throwsIf_32  ) rfl rfl rfl ⟨12, _, rfl, rfl, rfl⟩ rfl ?_
  refine a_if_eq rfl (fun c25 => ?_) (fun c => absurd (by decide) c)
  refine a_l0 rfl rfl rfl ?_
  refine a_l1 rfl rfl rfl ?_
  refine a_eV1 rfl lX12_435 mo_X12_toDo (au_X12_toDo_99 h421_1 ) rfl rfl rfl ⟨12, _, rfl, rfl, rfl⟩ rfl ?_
  refine a_s3 rfl rfl rfl rfl rfl rfl ?_
  refine a_l2 rfl rfl rfl ?_
  refine a_if_eq rfl (fun c => absurd c (by decide)) (fun c37 => ?_)
  refine a_l0 rfl rfl rfl ?_
  refine a_l0 rfl rfl rfl ?_
  refine a_s rfl rfl ?_
  refine a_eV1 rfl lX12_324 mo_X12_ofState (au_X12_ofState_6 h421_1 ) rfl rfl rfl ⟨12, _, rfl, rfl, rfl⟩ rfl ?_
  refine a_l3 rfl rfl rfl ?_
  refine a_s rfl rfl ?_
  refine a_s rfl rfl ?_
  refine a_top (y := (-1)) (by decide) ?_
  refine a_s rfl rfl ?_
  refine a_top (y := 0) (by decide) ?_
  refine a_eV1 rfl lX12_339 mo_X12_shameOf (au_X12_shameOf_98 h421_1 ) rfl rfl rfl ⟨12, _, rfl, rfl, rfl⟩ rfl ?_
  refine a_goto rfl ?_
  exact a_iret rfl rfl ⟨rfl, rfl⟩
theorem rr_X12_does_1 {S : aS} {x0 : Int32} (q : inB x0 0 99 = true) : RRet S m_X12_does 15 [.ref 420, .int x0, .int 1] (some 0) 0 := RRet.of (fun I => up2 I 420 0 0) (fun I L w1 w2 t hz => au_X12_does_103 (hz.at rfl I0_421_1) (q)) (fun I hz => rfl)
theorem au_X11_does_104 {S : aS} {I : Nat → Nat → Int32} {L : Nat → Nat → Int64} {w1 w2 t : Nat} {x1 x2 : Int32}  (q0 : inB x1 0 99 = false) : SpX S m_X11_does 13 [.ref 200, .int x1, .int x2] (hp I L w1 w2 t) "java/lang/IllegalArgumentException" (hp I L w1 w2 0) := by
  refine SpX_of ok_X11_does rfl rfl ?_
  show AW S m_X11_does 13 _ _ 1 6 0 [some (.ref 200), some (.int x1), some (.int x2), none] [] (hp I L w1 w2 t)
  refine a_l1 rfl rfl rfl ?_
  refine a_s rfl rfl ?_
  refine a_s rfl rfl ?_
  exact a_xS rfl lX11_250 mo_X11_needNumber (spx_needNumber (q0)) rfl rfl rfl rfl ⟨rfl, rfl⟩
theorem cx_X11_does_x {S : aS} {x0 x1 : Int32} (q : inB x0 0 99 = false) : CThr S m_X11_does 13 [.ref 200, .int x0, .int x1] "java/lang/IllegalArgumentException" := CThr.of (au_X11_does_104  (q))
theorem au_X12_does_105 {S : aS} {I : Nat → Nat → Int32} {L : Nat → Nat → Int64} {w1 w2 t : Nat} {x1 x2 : Int32}  (q0 : inB x1 0 99 = false) : SpE S m_X12_does 13 [.ref 420, .int x1, .int x2] (hp I L w1 w2 t) (some (.int 0)) (hp (up2 (up2 I 420 0 0) 420 0 1) L w1 w2 t) := by
  refine SpE_of ok_X12_does rfl rfl ?_
  show AW S m_X12_does 13 _ _ 0 0 0 [some (.ref 420), some (.int x1), some (.int x2), none] [] (hp I L w1 w2 t)
  refine a_l0 rfl rfl rfl ?_
  refine a_s rfl rfl ?_
  refine a_puti rfl pfX12_3_12 rfl ?_
  refine a_l0 rfl rfl rfl ?_
  refine a_l1 rfl rfl rfl ?_
  refine a_s rfl rfl ?_
  refine a_s rfl rfl ?_
  refine a_eS1 rfl lX12_70 mo_X12_in ((sp_X12_in (x := x1) (a := 0) (b := 99)).cast (r' := some (.int 0)) (by rw [q0]; rfl) rfl) rfl rfl rfl rfl ?_
  refine a_if_ne rfl (fun c => absurd c (by decide)) (fun c13 => ?_)
  refine a_s rfl rfl ?_
  refine a_goto rfl ?_
  refine a_s rfl rfl ?_
  refine a_eV1 rfl lX12_243 mo_X12_throwsIf (au_X12_throwsIf_87  ) rfl rfl rfl ⟨12, _, rfl, rfl, rfl⟩ rfl ?_
  refine a_if_eq rfl (fun c => absurd c (by decide)) (fun c25 => ?_)
  refine a_s rfl rfl ?_
  exact a_iret rfl rfl ⟨rfl, rfl⟩
theorem rr_X12_does_x {S : aS} {x0 x1 : Int32} (q : inB x0 0 99 = false) : RRet S m_X12_does 13 [.ref 420, .int x0, .int x1] (some 0) 1 := RRet.of (fun I => up2 (up2 I 420 0 0) 420 0 1) (fun I L w1 w2 t hz => au_X12_does_105  (q)) (fun I hz => rfl)
theorem cr_X11_does {S : aS} {x0 x1 : Int32} (q : inB x0 0 99 = true) (e : x1 = 0 ∨ x1 = 1) : CRet S m_X11_does 14 [.ref 200, .int x0, .int x1] (some 0) := by
  rcases e with rfl | rfl
  · exact cr_X11_does_0 q
  · exact cr_X11_does_1 q
theorem rr_X12_does {S : aS} {x0 x1 : Int32} (q : inB x0 0 99 = true) (e : x1 = 0 ∨ x1 = 1) : RRet S m_X12_does 15 [.ref 420, .int x0, .int x1] (some 0) 0 := by
  rcases e with rfl | rfl
  · exact rr_X12_does_0 q
  · exact rr_X12_does_1 q
theorem w_does {S : aS} {x0 x1 : Int32} {r : Int32} (h : CRet S m_X11_does 14 [.ref 200, .int x0, .int x1] (some r)) : Sp S m_L_does 15 0 0 [.ref 200, .int x0, .int x1, .ref 431] (hp I0 L0 0 0 432) (QW r) (fun _ _ => False) := by
  refine Sp_of ok_L_does rfl rfl ?_
  show AW S m_L_does 15 _ _ 0 0 0 [some (.ref 200), some (.int x0), some (.int x1), some (.ref 431), none] [] (hp I0 L0 0 0 432)
  refine a_l3 rfl rfl rfl ?_
  refine a_s rfl rfl ?_
  refine a_l0 rfl rfl rfl ?_
  refine a_l1 rfl rfl rfl ?_
  refine a_l2 rfl rfl rfl ?_
  refine a_callVc rfl lL_68 mo_X11_does h rfl rfl rfl ⟨11, _, rfl, rfl, rfl⟩ (fun v h' hv => ?_) (fun E h' hx => False.elim hx)
  obtain ⟨rfl, I, w1, w2, t, rfl, hz⟩ := hv
  refine a_s rfl rfl ?_
  refine a_last rfl (n := 1) rfl ⟨by decide, by decide⟩ ?_
  refine a_goto rfl ?_
  refine a_s rfl rfl ?_
  exact a_iret rfl rfl ⟨rfl, I, w1, w2, t, rfl, hz⟩
theorem wx_does_1 {xs : Nat → Int32} {x0 x1 : Int32} (h : CThr (S1 6 xs) m_X11_does 13 [.ref 200, .int x0, .int x1] "java/lang/IllegalArgumentException") : Sp (S1 6 xs) m_L_does 14 1 6 [.ref 200, .int x0, .int x1, .ref 431] (hp I0 L0 0 0 432) (QX 1) (fun _ _ => False) := by
  refine Sp_of ok_L_does rfl rfl ?_
  show AW (S1 6 xs) m_L_does 14 _ _ 1 6 0 [some (.ref 200), some (.int x0), some (.int x1), some (.ref 431), none] [] (hp I0 L0 0 0 432)
  refine a_l3 rfl rfl rfl ?_
  refine a_s rfl rfl ?_
  refine a_l0 rfl rfl rfl ?_
  refine a_l1 rfl rfl rfl ?_
  refine a_l2 rfl rfl rfl ?_
  refine a_callVc rfl lL_68 mo_X11_does h rfl rfl rfl ⟨11, _, rfl, rfl, rfl⟩ (fun v h' hv => False.elim hv) (fun E h' hx => ?_)
  obtain ⟨rfl, I, w1, w2, t, rfl, hz⟩ := hx
  refine ⟨13, _, _, _, _, 4, tk_13 rfl (by decide) (by decide), rfl, rfl, by decide, ?_⟩
  refine a_s rfl rfl ?_
  exact a_iret rfl rfl ⟨rfl, I, w1, w2, t, rfl, hz⟩
theorem op_21_0 {xs : Nat → Int32} (hb : inB (xs 1) 0 99 = true) : OpOk xs 1374 := by
  show AW (S1 6 xs) m_L_main 1050 QM XM 599770 7281900 1374 [some (.ref 199), some (.ref 200), some (.ref 420), some (.ref 431), some (.int 0), none, none] [] (hp I0 L0 0 0 432)
  refine a_l1 rfl rfl rfl ?_
  refine a_l0 rfl rfl rfl ?_
  refine a_l4 rfl rfl rfl ?_
  refine a_s rfl rfl ?_
  refine a_s rfl rfl ?_
  refine a_ialdc rfl scr_mem ⟨by decide, by decide⟩ ?_
  refine a_l0 rfl rfl rfl ?_
  refine a_l4 rfl rfl rfl ?_
  refine a_s rfl rfl ?_
  refine a_s rfl rfl ?_
  refine a_ialdc rfl scr_mem ⟨by decide, by decide⟩ ?_
  refine a_if_eq rfl (fun c1387 => ?_) (fun c1387 => ?_)
  · refine a_s rfl rfl ?_
    refine a_l3 rfl rfl rfl ?_
    refine a_callW rfl lL_213 mo_L_does (w_does (cr_X11_does hb (by decide))) rfl rfl rfl rfl (fun v h' hv => ?_) (fun E h' hx => False.elim hx)
    obtain ⟨rfl, I, w1, w2, t, rfl, hz⟩ := hv
    refine a_s5 rfl rfl rfl rfl rfl rfl ?_
    refine a_l2 rfl rfl rfl ?_
    refine a_l0 rfl rfl rfl ?_
    refine a_l4 rfl rfl rfl ?_
    refine a_s rfl rfl ?_
    refine a_s rfl rfl ?_
    refine a_ialdc rfl scr_mem ⟨by decide, by decide⟩ ?_
    refine a_l0 rfl rfl rfl ?_
    refine a_l4 rfl rfl rfl ?_
    refine a_s rfl rfl ?_
    refine a_s rfl rfl ?_
    refine a_ialdc rfl scr_mem ⟨by decide, by decide⟩ ?_
    refine a_if_eq rfl (fun c1414 => ?_) (fun c1414 => ?_)
    · refine a_s rfl rfl ?_
      refine a_callV rfl lL_216 mo_X12_does (rr_X12_does hb (by decide) I _ w1 w2 t hz) rfl rfl rfl ⟨12, _, rfl, rfl, rfl⟩ rfl (fun v h' hv => ?_) (fun E h' hx => False.elim hx)
      obtain ⟨rfl, I', L', w1', w2', t', rfl, hk, hL⟩ := hv
      refine a_s6 rfl rfl rfl rfl rfl rfl ?_
      refine a_l2 rfl rfl rfl ?_
      refine a_eV1 rfl lL_149 mo_X12_thrown (sp_X12_thrown) rfl rfl rfl ⟨12, _, rfl, rfl, rfl⟩ rfl ?_
      refine a_l5 rfl rfl rfl ?_
      refine a_ic_eq rfl (fun c1433 => ?_) (fun c => absurd (hk) c)
      refine a_l5 rfl rfl rfl ?_
      refine a_if_ne rfl (fun c => absurd c (fun z => z rfl)) (fun c1440 => ?_)
      refine a_l3 rfl rfl rfl ?_
      refine a_s rfl rfl ?_
      refine a_lald rfl (n := 1) rfl ⟨by decide, by decide⟩ ?_
      rw [hL]
      refine a_l6 rfl rfl rfl ?_
      refine a_s rfl rfl ?_
      refine a_s rfl rfl ?_
      refine a_if_eq rfl (fun c1450 => ?_) (fun c => absurd (cmp_self _) c)
      refine a_goto rfl ?_
      exact fin_ok
    · refine a_s rfl rfl ?_
      refine a_goto rfl ?_
      refine a_callV rfl lL_216 mo_X12_does (rr_X12_does hb (by decide) I _ w1 w2 t hz) rfl rfl rfl ⟨12, _, rfl, rfl, rfl⟩ rfl (fun v h' hv => ?_) (fun E h' hx => False.elim hx)
      obtain ⟨rfl, I', L', w1', w2', t', rfl, hk, hL⟩ := hv
      refine a_s6 rfl rfl rfl rfl rfl rfl ?_
      refine a_l2 rfl rfl rfl ?_
      refine a_eV1 rfl lL_149 mo_X12_thrown (sp_X12_thrown) rfl rfl rfl ⟨12, _, rfl, rfl, rfl⟩ rfl ?_
      refine a_l5 rfl rfl rfl ?_
      refine a_ic_eq rfl (fun c1433 => ?_) (fun c => absurd (hk) c)
      refine a_l5 rfl rfl rfl ?_
      refine a_if_ne rfl (fun c => absurd c (fun z => z rfl)) (fun c1440 => ?_)
      refine a_l3 rfl rfl rfl ?_
      refine a_s rfl rfl ?_
      refine a_lald rfl (n := 1) rfl ⟨by decide, by decide⟩ ?_
      rw [hL]
      refine a_l6 rfl rfl rfl ?_
      refine a_s rfl rfl ?_
      refine a_s rfl rfl ?_
      refine a_if_eq rfl (fun c1450 => ?_) (fun c => absurd (cmp_self _) c)
      refine a_goto rfl ?_
      exact fin_ok
  · refine a_s rfl rfl ?_
    refine a_goto rfl ?_
    refine a_l3 rfl rfl rfl ?_
    refine a_callW rfl lL_213 mo_L_does (w_does (cr_X11_does hb (by decide))) rfl rfl rfl rfl (fun v h' hv => ?_) (fun E h' hx => False.elim hx)
    obtain ⟨rfl, I, w1, w2, t, rfl, hz⟩ := hv
    refine a_s5 rfl rfl rfl rfl rfl rfl ?_
    refine a_l2 rfl rfl rfl ?_
    refine a_l0 rfl rfl rfl ?_
    refine a_l4 rfl rfl rfl ?_
    refine a_s rfl rfl ?_
    refine a_s rfl rfl ?_
    refine a_ialdc rfl scr_mem ⟨by decide, by decide⟩ ?_
    refine a_l0 rfl rfl rfl ?_
    refine a_l4 rfl rfl rfl ?_
    refine a_s rfl rfl ?_
    refine a_s rfl rfl ?_
    refine a_ialdc rfl scr_mem ⟨by decide, by decide⟩ ?_
    refine a_if_eq rfl (fun c1414 => ?_) (fun c1414 => ?_)
    · refine a_s rfl rfl ?_
      refine a_callV rfl lL_216 mo_X12_does (rr_X12_does hb (by decide) I _ w1 w2 t hz) rfl rfl rfl ⟨12, _, rfl, rfl, rfl⟩ rfl (fun v h' hv => ?_) (fun E h' hx => False.elim hx)
      obtain ⟨rfl, I', L', w1', w2', t', rfl, hk, hL⟩ := hv
      refine a_s6 rfl rfl rfl rfl rfl rfl ?_
      refine a_l2 rfl rfl rfl ?_
      refine a_eV1 rfl lL_149 mo_X12_thrown (sp_X12_thrown) rfl rfl rfl ⟨12, _, rfl, rfl, rfl⟩ rfl ?_
      refine a_l5 rfl rfl rfl ?_
      refine a_ic_eq rfl (fun c1433 => ?_) (fun c => absurd (hk) c)
      refine a_l5 rfl rfl rfl ?_
      refine a_if_ne rfl (fun c => absurd c (fun z => z rfl)) (fun c1440 => ?_)
      refine a_l3 rfl rfl rfl ?_
      refine a_s rfl rfl ?_
      refine a_lald rfl (n := 1) rfl ⟨by decide, by decide⟩ ?_
      rw [hL]
      refine a_l6 rfl rfl rfl ?_
      refine a_s rfl rfl ?_
      refine a_s rfl rfl ?_
      refine a_if_eq rfl (fun c1450 => ?_) (fun c => absurd (cmp_self _) c)
      refine a_goto rfl ?_
      exact fin_ok
    · refine a_s rfl rfl ?_
      refine a_goto rfl ?_
      refine a_callV rfl lL_216 mo_X12_does (rr_X12_does hb (by decide) I _ w1 w2 t hz) rfl rfl rfl ⟨12, _, rfl, rfl, rfl⟩ rfl (fun v h' hv => ?_) (fun E h' hx => False.elim hx)
      obtain ⟨rfl, I', L', w1', w2', t', rfl, hk, hL⟩ := hv
      refine a_s6 rfl rfl rfl rfl rfl rfl ?_
      refine a_l2 rfl rfl rfl ?_
      refine a_eV1 rfl lL_149 mo_X12_thrown (sp_X12_thrown) rfl rfl rfl ⟨12, _, rfl, rfl, rfl⟩ rfl ?_
      refine a_l5 rfl rfl rfl ?_
      refine a_ic_eq rfl (fun c1433 => ?_) (fun c => absurd (hk) c)
      refine a_l5 rfl rfl rfl ?_
      refine a_if_ne rfl (fun c => absurd c (fun z => z rfl)) (fun c1440 => ?_)
      refine a_l3 rfl rfl rfl ?_
      refine a_s rfl rfl ?_
      refine a_lald rfl (n := 1) rfl ⟨by decide, by decide⟩ ?_
      rw [hL]
      refine a_l6 rfl rfl rfl ?_
      refine a_s rfl rfl ?_
      refine a_s rfl rfl ?_
      refine a_if_eq rfl (fun c1450 => ?_) (fun c => absurd (cmp_self _) c)
      refine a_goto rfl ?_
      exact fin_ok
theorem op_21_1 {xs : Nat → Int32} (hb : inB (xs 1) 0 99 = false) : OpOk xs 1374 := by
  show AW (S1 6 xs) m_L_main 1050 QM XM 599770 7281900 1374 [some (.ref 199), some (.ref 200), some (.ref 420), some (.ref 431), some (.int 0), none, none] [] (hp I0 L0 0 0 432)
  refine a_l1 rfl rfl rfl ?_
  refine a_l0 rfl rfl rfl ?_
  refine a_l4 rfl rfl rfl ?_
  refine a_s rfl rfl ?_
  refine a_s rfl rfl ?_
  refine a_ialdc rfl scr_mem ⟨by decide, by decide⟩ ?_
  refine a_l0 rfl rfl rfl ?_
  refine a_l4 rfl rfl rfl ?_
  refine a_s rfl rfl ?_
  refine a_s rfl rfl ?_
  refine a_ialdc rfl scr_mem ⟨by decide, by decide⟩ ?_
  refine a_if_eq rfl (fun c1387 => ?_) (fun c1387 => ?_)
  · refine a_s rfl rfl ?_
    refine a_l3 rfl rfl rfl ?_
    refine a_callW rfl lL_213 mo_L_does (wx_does_1 (cx_X11_does_x hb)) rfl rfl rfl rfl (fun v h' hv => ?_) (fun E h' hx => False.elim hx)
    obtain ⟨rfl, I, w1, w2, t, rfl, hz⟩ := hv
    refine a_s5 rfl rfl rfl rfl rfl rfl ?_
    refine a_l2 rfl rfl rfl ?_
    refine a_l0 rfl rfl rfl ?_
    refine a_l4 rfl rfl rfl ?_
    refine a_s rfl rfl ?_
    refine a_s rfl rfl ?_
    refine a_ialdc rfl scr_mem ⟨by decide, by decide⟩ ?_
    refine a_l0 rfl rfl rfl ?_
    refine a_l4 rfl rfl rfl ?_
    refine a_s rfl rfl ?_
    refine a_s rfl rfl ?_
    refine a_ialdc rfl scr_mem ⟨by decide, by decide⟩ ?_
    refine a_if_eq rfl (fun c1414 => ?_) (fun c1414 => ?_)
    · refine a_s rfl rfl ?_
      refine a_callV rfl lL_216 mo_X12_does (rr_X12_does_x hb I _ w1 w2 t hz) rfl rfl rfl ⟨12, _, rfl, rfl, rfl⟩ rfl (fun v h' hv => ?_) (fun E h' hx => False.elim hx)
      obtain ⟨rfl, I', L', w1', w2', t', rfl, hk, hL⟩ := hv
      refine a_s6 rfl rfl rfl rfl rfl rfl ?_
      refine a_l2 rfl rfl rfl ?_
      refine a_eV1 rfl lL_149 mo_X12_thrown (sp_X12_thrown) rfl rfl rfl ⟨12, _, rfl, rfl, rfl⟩ rfl ?_
      refine a_l5 rfl rfl rfl ?_
      refine a_ic_eq rfl (fun c1433 => ?_) (fun c => absurd (hk) c)
      refine a_l5 rfl rfl rfl ?_
      refine a_if_ne rfl (fun c1440 => ?_) (fun c => absurd c (by decide))
      refine a_goto rfl ?_
      exact fin_ok
    · refine a_s rfl rfl ?_
      refine a_goto rfl ?_
      refine a_callV rfl lL_216 mo_X12_does (rr_X12_does_x hb I _ w1 w2 t hz) rfl rfl rfl ⟨12, _, rfl, rfl, rfl⟩ rfl (fun v h' hv => ?_) (fun E h' hx => False.elim hx)
      obtain ⟨rfl, I', L', w1', w2', t', rfl, hk, hL⟩ := hv
      refine a_s6 rfl rfl rfl rfl rfl rfl ?_
      refine a_l2 rfl rfl rfl ?_
      refine a_eV1 rfl lL_149 mo_X12_thrown (sp_X12_thrown) rfl rfl rfl ⟨12, _, rfl, rfl, rfl⟩ rfl ?_
      refine a_l5 rfl rfl rfl ?_
      refine a_ic_eq rfl (fun c1433 => ?_) (fun c => absurd (hk) c)
      refine a_l5 rfl rfl rfl ?_
      refine a_if_ne rfl (fun c1440 => ?_) (fun c => absurd c (by decide))
      refine a_goto rfl ?_
      exact fin_ok
  · refine a_s rfl rfl ?_
    refine a_goto rfl ?_
    refine a_l3 rfl rfl rfl ?_
    refine a_callW rfl lL_213 mo_L_does (wx_does_1 (cx_X11_does_x hb)) rfl rfl rfl rfl (fun v h' hv => ?_) (fun E h' hx => False.elim hx)
    obtain ⟨rfl, I, w1, w2, t, rfl, hz⟩ := hv
    refine a_s5 rfl rfl rfl rfl rfl rfl ?_
    refine a_l2 rfl rfl rfl ?_
    refine a_l0 rfl rfl rfl ?_
    refine a_l4 rfl rfl rfl ?_
    refine a_s rfl rfl ?_
    refine a_s rfl rfl ?_
    refine a_ialdc rfl scr_mem ⟨by decide, by decide⟩ ?_
    refine a_l0 rfl rfl rfl ?_
    refine a_l4 rfl rfl rfl ?_
    refine a_s rfl rfl ?_
    refine a_s rfl rfl ?_
    refine a_ialdc rfl scr_mem ⟨by decide, by decide⟩ ?_
    refine a_if_eq rfl (fun c1414 => ?_) (fun c1414 => ?_)
    · refine a_s rfl rfl ?_
      refine a_callV rfl lL_216 mo_X12_does (rr_X12_does_x hb I _ w1 w2 t hz) rfl rfl rfl ⟨12, _, rfl, rfl, rfl⟩ rfl (fun v h' hv => ?_) (fun E h' hx => False.elim hx)
      obtain ⟨rfl, I', L', w1', w2', t', rfl, hk, hL⟩ := hv
      refine a_s6 rfl rfl rfl rfl rfl rfl ?_
      refine a_l2 rfl rfl rfl ?_
      refine a_eV1 rfl lL_149 mo_X12_thrown (sp_X12_thrown) rfl rfl rfl ⟨12, _, rfl, rfl, rfl⟩ rfl ?_
      refine a_l5 rfl rfl rfl ?_
      refine a_ic_eq rfl (fun c1433 => ?_) (fun c => absurd (hk) c)
      refine a_l5 rfl rfl rfl ?_
      refine a_if_ne rfl (fun c1440 => ?_) (fun c => absurd c (by decide))
      refine a_goto rfl ?_
      exact fin_ok
    · refine a_s rfl rfl ?_
      refine a_goto rfl ?_
      refine a_callV rfl lL_216 mo_X12_does (rr_X12_does_x hb I _ w1 w2 t hz) rfl rfl rfl ⟨12, _, rfl, rfl, rfl⟩ rfl (fun v h' hv => ?_) (fun E h' hx => False.elim hx)
      obtain ⟨rfl, I', L', w1', w2', t', rfl, hk, hL⟩ := hv
      refine a_s6 rfl rfl rfl rfl rfl rfl ?_
      refine a_l2 rfl rfl rfl ?_
      refine a_eV1 rfl lL_149 mo_X12_thrown (sp_X12_thrown) rfl rfl rfl ⟨12, _, rfl, rfl, rfl⟩ rfl ?_
      refine a_l5 rfl rfl rfl ?_
      refine a_ic_eq rfl (fun c1433 => ?_) (fun c => absurd (hk) c)
      refine a_l5 rfl rfl rfl ?_
      refine a_if_ne rfl (fun c1440 => ?_) (fun c => absurd c (by decide))
      refine a_goto rfl ?_
      exact fin_ok
theorem op_21 {xs : Nat → Int32} : OpOk xs 1374 := by
  cases hb : inB (xs 1) 0 99 with
  | true => exact op_21_0 hb
  | false => exact op_21_1 hb
