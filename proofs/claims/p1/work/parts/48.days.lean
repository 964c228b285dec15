/-! ===== days, trial, span on the fresh heap ===== -/
set_option maxRecDepth 100000
theorem sp0_X5_passMonth {S : aS} {I : Nat → Nat → Int32} {L : Nat → Nat → Int64} {w1 w2 t : Nat} {a b : Nat} (hs : stp a) (hd : I a 3 = 0) : SpE S m_X5_passMonth 15 [.ref a, .ref b] (hp I L w1 w2 t) none (hp I L w1 w2 t) := by
  refine SpE_of ok_X5_passMonth rfl rfl ?_
  show AW S m_X5_passMonth 15 _ _ 0 0 0 [some (.ref a), some (.ref b), none, none] [] (hp I L w1 w2 t)
  refine a_s rfl rfl ?_
  refine a_s2 rfl rfl rfl rfl rfl rfl ?_
  refine a_l2 rfl rfl rfl ?_
  refine a_l0 rfl rfl rfl ?_
  refine a_geti rfl gfX5_63_5 (kS0 hs) ?_
  rw [hd]
  refine a_ic_ge rfl (fun c7 => ?_) (fun c => absurd (by decide) c)
  refine a_vret rfl rfl ⟨rfl, rfl⟩
theorem sp0_X5_passDay {S : aS} {I : Nat → Nat → Int32} {L : Nat → Nat → Int64} {w1 w2 t : Nat} {a b : Nat} {x : Int32} (hs : stp a) (hp0 : I a 0 = 0) (hd : I a 3 = 0) : Sp S m_X5_passDay 16 0 0 [.ref a, .ref b, .int x] (hp I L w1 w2 t) (fun v h' => v = none ∧ ∃ I', h' = hp I' L w1 w2 t ∧ (∀ q, q ≠ a → I' q = I q) ∧ I' a 0 = 0 ∧ I' a 3 = 0) (fun _ _ => False) := by
  refine Sp_of ok_X5_passDay rfl rfl ?_
  show AW S m_X5_passDay 16 _ _ 0 0 0 [some (.ref a), some (.ref b), some (.int x), none, none, none] [] (hp I L w1 w2 t)
  refine a_s rfl rfl ?_
  refine a_s3 rfl rfl rfl rfl rfl rfl ?_
  refine a_s rfl rfl ?_
  refine a_s4 rfl rfl rfl rfl rfl rfl ?_
  refine a_l4 rfl rfl rfl ?_
  refine a_l0 rfl rfl rfl ?_
  refine a_geti rfl gfX5_56_5 (kS0 hs) ?_
  rw [hp0]
  refine a_ic_ge rfl (fun c11 => ?_) (fun c => absurd (by decide) c)
  refine a_l0 rfl rfl rfl ?_
  refine a_s rfl rfl ?_
  refine a_geti rfl gfX5_36_5 (kS0 hs) ?_
  refine a_s rfl rfl ?_
  refine a_s rfl rfl ?_
  refine a_puti rfl pfX5_36_5 (kS0 hs) ?_
  refine a_l0 rfl rfl rfl ?_
  refine a_geti rfl gfX5_36_5 (kS0 hs) ?_
  refine a_s rfl rfl ?_
  refine a_ic_le rfl (fun c76 => ?_) (fun c76 => ?_)
  · refine a_vret rfl rfl ⟨rfl, _, rfl, fun q hq => by simp only [up2_row hq], by simp [up2, hp0], by simp [up2, hd]⟩
  · refine a_l0 rfl rfl rfl ?_
    refine a_s rfl rfl ?_
    refine a_puti rfl pfX5_36_5 (kS0 hs) ?_
    refine a_l0 rfl rfl rfl ?_
    refine a_s rfl rfl ?_
    refine a_l0 rfl rfl rfl ?_
    refine a_geti rfl gfX5_66_5 (kS0 hs) ?_
    refine a_s rfl rfl ?_
    refine a_s rfl rfl ?_
    refine a_min rfl lX5_127 mj_min rfl rfl ?_
    refine a_puti rfl pfX5_66_5 (kS0 hs) ?_
    refine a_l0 rfl rfl rfl ?_
    refine a_l1 rfl rfl rfl ?_
    refine a_eV0 rfl lX5_140 mo_X5_passMonth (sp0_X5_passMonth hs (by simp [up2, hd])) rfl rfl rfl ⟨5, _, (kS0 hs), rfl, rfl⟩ rfl ?_
    refine a_vret rfl rfl ⟨rfl, _, rfl, fun q hq => by simp only [up2_row hq], by simp [up2, hp0], by simp [up2, hd]⟩
theorem au_X5_dutyAt_179 {S : aS} {I : Nat → Nat → Int32} {L : Nat → Nat → Int64} {w1 w2 t : Nat} (h235_3 : I 235 3 = 0)  : SpE S m_X5_dutyAt 12 [.ref 235, .int 0] (hp I L w1 w2 t) (some (.int (-1))) (hp I L w1 w2 t) := by
  refine SpE_of ok_X5_dutyAt rfl rfl ?_
  show AW S m_X5_dutyAt 12 _ _ 0 0 0 [some (.ref 235), some (.int 0), none] [] (hp I L w1 w2 t)
  refine a_s rfl rfl ?_
  refine a_s2 rfl rfl rfl rfl rfl rfl ?_
  refine a_l2 rfl rfl rfl ?_
  refine a_l0 rfl rfl rfl ?_
  refine a_getiv (v := 0) rfl gfX5_63_5 rfl h235_3 ?_
  refine a_ic_ge rfl (fun c7 => ?_) (fun c => absurd (by decide) c)
  refine a_s rfl rfl ?_
  exact a_iret rfl rfl ⟨rfl, rfl⟩
theorem au_X5_dutyAt_180 {S : aS} {I : Nat → Nat → Int32} {L : Nat → Nat → Int64} {w1 w2 t : Nat} (h235_3 : I 235 3 = 0)  : SpE S m_X5_dutyAt 12 [.ref 235, .int 1] (hp I L w1 w2 t) (some (.int (-1))) (hp I L w1 w2 t) := by
  refine SpE_of ok_X5_dutyAt rfl rfl ?_
  show AW S m_X5_dutyAt 12 _ _ 0 0 0 [some (.ref 235), some (.int 1), none] [] (hp I L w1 w2 t)
  refine a_s rfl rfl ?_
  refine a_s2 rfl rfl rfl rfl rfl rfl ?_
  refine a_l2 rfl rfl rfl ?_
  refine a_l0 rfl rfl rfl ?_
  refine a_getiv (v := 0) rfl gfX5_63_5 rfl h235_3 ?_
  refine a_ic_ge rfl (fun c7 => ?_) (fun c => absurd (by decide) c)
  refine a_s rfl rfl ?_
  exact a_iret rfl rfl ⟨rfl, rfl⟩
theorem au_X5_dutyAt_181 {S : aS} {I : Nat → Nat → Int32} {L : Nat → Nat → Int64} {w1 w2 t : Nat} (h235_3 : I 235 3 = 0)  : SpE S m_X5_dutyAt 12 [.ref 235, .int 2] (hp I L w1 w2 t) (some (.int (-1))) (hp I L w1 w2 t) := by
  refine SpE_of ok_X5_dutyAt rfl rfl ?_
  show AW S m_X5_dutyAt 12 _ _ 0 0 0 [some (.ref 235), some (.int 2), none] [] (hp I L w1 w2 t)
  refine a_s rfl rfl ?_
  refine a_s2 rfl rfl rfl rfl rfl rfl ?_
  refine a_l2 rfl rfl rfl ?_
  refine a_l0 rfl rfl rfl ?_
  refine a_getiv (v := 0) rfl gfX5_63_5 rfl h235_3 ?_
  refine a_ic_ge rfl (fun c7 => ?_) (fun c => absurd (by decide) c)
  refine a_s rfl rfl ?_
  exact a_iret rfl rfl ⟨rfl, rfl⟩
theorem au_X5_dutyAt_182 {S : aS} {I : Nat → Nat → Int32} {L : Nat → Nat → Int64} {w1 w2 t : Nat} (h235_3 : I 235 3 = 0)  : SpE S m_X5_dutyAt 12 [.ref 235, .int 3] (hp I L w1 w2 t) (some (.int (-1))) (hp I L w1 w2 t) := by
  refine SpE_of ok_X5_dutyAt rfl rfl ?_
  show AW S m_X5_dutyAt 12 _ _ 0 0 0 [some (.ref 235), some (.int 3), none] [] (hp I L w1 w2 t)
  refine a_s rfl rfl ?_
  refine a_s2 rfl rfl rfl rfl rfl rfl ?_
  refine a_l2 rfl rfl rfl ?_
  refine a_l0 rfl rfl rfl ?_
  refine a_getiv (v := 0) rfl gfX5_63_5 rfl h235_3 ?_
  refine a_ic_ge rfl (fun c7 => ?_) (fun c => absurd (by decide) c)
  refine a_s rfl rfl ?_
  exact a_iret rfl rfl ⟨rfl, rfl⟩
theorem au_X5_dutyAt_183 {S : aS} {I : Nat → Nat → Int32} {L : Nat → Nat → Int64} {w1 w2 t : Nat} (h235_3 : I 235 3 = 0)  : SpE S m_X5_dutyAt 12 [.ref 235, .int 4] (hp I L w1 w2 t) (some (.int (-1))) (hp I L w1 w2 t) := by
  refine SpE_of ok_X5_dutyAt rfl rfl ?_
  show AW S m_X5_dutyAt 12 _ _ 0 0 0 [some (.ref 235), some (.int 4), none] [] (hp I L w1 w2 t)
  refine a_s rfl rfl ?_
  refine a_s2 rfl rfl rfl rfl rfl rfl ?_
  refine a_l2 rfl rfl rfl ?_
  refine a_l0 rfl rfl rfl ?_
  refine a_getiv (v := 0) rfl gfX5_63_5 rfl h235_3 ?_
  refine a_ic_ge rfl (fun c7 => ?_) (fun c => absurd (by decide) c)
  refine a_s rfl rfl ?_
  exact a_iret rfl rfl ⟨rfl, rfl⟩
theorem au_X5_dutyAt_184 {S : aS} {I : Nat → Nat → Int32} {L : Nat → Nat → Int64} {w1 w2 t : Nat} (h235_3 : I 235 3 = 0)  : SpE S m_X5_dutyAt 12 [.ref 235, .int 5] (hp I L w1 w2 t) (some (.int (-1))) (hp I L w1 w2 t) := by
  refine SpE_of ok_X5_dutyAt rfl rfl ?_
  show AW S m_X5_dutyAt 12 _ _ 0 0 0 [some (.ref 235), some (.int 5), none] [] (hp I L w1 w2 t)
  refine a_s rfl rfl ?_
  refine a_s2 rfl rfl rfl rfl rfl rfl ?_
  refine a_l2 rfl rfl rfl ?_
  refine a_l0 rfl rfl rfl ?_
  refine a_getiv (v := 0) rfl gfX5_63_5 rfl h235_3 ?_
  refine a_ic_ge rfl (fun c7 => ?_) (fun c => absurd (by decide) c)
  refine a_s rfl rfl ?_
  exact a_iret rfl rfl ⟨rfl, rfl⟩
theorem au_X5_dutyAt_185 {S : aS} {I : Nat → Nat → Int32} {L : Nat → Nat → Int64} {w1 w2 t : Nat} (h235_3 : I 235 3 = 0)  : SpE S m_X5_dutyAt 12 [.ref 235, .int 6] (hp I L w1 w2 t) (some (.int (-1))) (hp I L w1 w2 t) := by
  refine SpE_of ok_X5_dutyAt rfl rfl ?_
  show AW S m_X5_dutyAt 12 _ _ 0 0 0 [some (.ref 235), some (.int 6), none] [] (hp I L w1 w2 t)
  refine a_s rfl rfl ?_
  refine a_s2 rfl rfl rfl rfl rfl rfl ?_
  refine a_l2 rfl rfl rfl ?_
  refine a_l0 rfl rfl rfl ?_
  refine a_getiv (v := 0) rfl gfX5_63_5 rfl h235_3 ?_
  refine a_ic_ge rfl (fun c7 => ?_) (fun c => absurd (by decide) c)
  refine a_s rfl rfl ?_
  exact a_iret rfl rfl ⟨rfl, rfl⟩
theorem au_X5_dutyAt_186 {S : aS} {I : Nat → Nat → Int32} {L : Nat → Nat → Int64} {w1 w2 t : Nat} (h235_3 : I 235 3 = 0)  : SpE S m_X5_dutyAt 12 [.ref 235, .int 7] (hp I L w1 w2 t) (some (.int (-1))) (hp I L w1 w2 t) := by
  refine SpE_of ok_X5_dutyAt rfl rfl ?_
  show AW S m_X5_dutyAt 12 _ _ 0 0 0 [some (.ref 235), some (.int 7), none] [] (hp I L w1 w2 t)
  refine a_s rfl rfl ?_
  refine a_s2 rfl rfl rfl rfl rfl rfl ?_
  refine a_l2 rfl rfl rfl ?_
  refine a_l0 rfl rfl rfl ?_
  refine a_getiv (v := 0) rfl gfX5_63_5 rfl h235_3 ?_
  refine a_ic_ge rfl (fun c7 => ?_) (fun c => absurd (by decide) c)
  refine a_s rfl rfl ?_
  exact a_iret rfl rfl ⟨rfl, rfl⟩
theorem au_X5_dutyAt_187 {S : aS} {I : Nat → Nat → Int32} {L : Nat → Nat → Int64} {w1 w2 t : Nat} (h235_3 : I 235 3 = 0)  : SpE S m_X5_dutyAt 12 [.ref 235, .int 8] (hp I L w1 w2 t) (some (.int (-1))) (hp I L w1 w2 t) := by
  refine SpE_of ok_X5_dutyAt rfl rfl ?_
  show AW S m_X5_dutyAt 12 _ _ 0 0 0 [some (.ref 235), some (.int 8), none] [] (hp I L w1 w2 t)
  refine a_s rfl rfl ?_
  refine a_s2 rfl rfl rfl rfl rfl rfl ?_
  refine a_l2 rfl rfl rfl ?_
  refine a_l0 rfl rfl rfl ?_
  refine a_getiv (v := 0) rfl gfX5_63_5 rfl h235_3 ?_
  refine a_ic_ge rfl (fun c7 => ?_) (fun c => absurd (by decide) c)
  refine a_s rfl rfl ?_
  exact a_iret rfl rfl ⟨rfl, rfl⟩
theorem au_X5_dutyAt_188 {S : aS} {I : Nat → Nat → Int32} {L : Nat → Nat → Int64} {w1 w2 t : Nat} (h235_3 : I 235 3 = 0)  : SpE S m_X5_dutyAt 12 [.ref 235, .int 9] (hp I L w1 w2 t) (some (.int (-1))) (hp I L w1 w2 t) := by
  refine SpE_of ok_X5_dutyAt rfl rfl ?_
  show AW S m_X5_dutyAt 12 _ _ 0 0 0 [some (.ref 235), some (.int 9), none] [] (hp I L w1 w2 t)
  refine a_s rfl rfl ?_
  refine a_s2 rfl rfl rfl rfl rfl rfl ?_
  refine a_l2 rfl rfl rfl ?_
  refine a_l0 rfl rfl rfl ?_
  refine a_getiv (v := 0) rfl gfX5_63_5 rfl h235_3 ?_
  refine a_ic_ge rfl (fun c7 => ?_) (fun c => absurd (by decide) c)
  refine a_s rfl rfl ?_
  exact a_iret rfl rfl ⟨rfl, rfl⟩
theorem au_X5_dutyAt_189 {S : aS} {I : Nat → Nat → Int32} {L : Nat → Nat → Int64} {w1 w2 t : Nat} (h235_3 : I 235 3 = 0)  : SpE S m_X5_dutyAt 12 [.ref 235, .int 10] (hp I L w1 w2 t) (some (.int (-1))) (hp I L w1 w2 t) := by
  refine SpE_of ok_X5_dutyAt rfl rfl ?_
  show AW S m_X5_dutyAt 12 _ _ 0 0 0 [some (.ref 235), some (.int 10), none] [] (hp I L w1 w2 t)
  refine a_s rfl rfl ?_
  refine a_s2 rfl rfl rfl rfl rfl rfl ?_
  refine a_l2 rfl rfl rfl ?_
  refine a_l0 rfl rfl rfl ?_
  refine a_getiv (v := 0) rfl gfX5_63_5 rfl h235_3 ?_
  refine a_ic_ge rfl (fun c7 => ?_) (fun c => absurd (by decide) c)
  refine a_s rfl rfl ?_
  exact a_iret rfl rfl ⟨rfl, rfl⟩
theorem au_X5_dutyAt_190 {S : aS} {I : Nat → Nat → Int32} {L : Nat → Nat → Int64} {w1 w2 t : Nat} (h235_3 : I 235 3 = 0)  : SpE S m_X5_dutyAt 12 [.ref 235, .int 11] (hp I L w1 w2 t) (some (.int (-1))) (hp I L w1 w2 t) := by
  refine SpE_of ok_X5_dutyAt rfl rfl ?_
  show AW S m_X5_dutyAt 12 _ _ 0 0 0 [some (.ref 235), some (.int 11), none] [] (hp I L w1 w2 t)
  refine a_s rfl rfl ?_
  refine a_s2 rfl rfl rfl rfl rfl rfl ?_
  refine a_l2 rfl rfl rfl ?_
  refine a_l0 rfl rfl rfl ?_
  refine a_getiv (v := 0) rfl gfX5_63_5 rfl h235_3 ?_
  refine a_ic_ge rfl (fun c7 => ?_) (fun c => absurd (by decide) c)
  refine a_s rfl rfl ?_
  exact a_iret rfl rfl ⟨rfl, rfl⟩
theorem au_X11_letParadeGoBy_191 {S : aS} {I : Nat → Nat → Int32} {L : Nat → Nat → Int64} {w1 w2 t : Nat} (h235_3 : I 235 3 = 0)  : SpE S m_X11_letParadeGoBy 13 [.ref 200] (hp I L w1 w2 t) none (hp I L w1 w2 t) := by
  refine SpE_of ok_X11_letParadeGoBy rfl rfl ?_
  show AW S m_X11_letParadeGoBy 13 _ _ 0 0 0 [some (.ref 200), none, none] [] (hp I L w1 w2 t)
  refine a_s rfl rfl ?_
  refine a_s1 rfl rfl rfl rfl rfl rfl ?_
  refine a_l1 rfl rfl rfl ?_
  refine a_s rfl rfl ?_
  refine a_ic_ge rfl (fun c => absurd c (by decide)) (fun c5 => ?_)
  refine a_l0 rfl rfl rfl ?_
  refine a_getq rfl gfX11_37_11 rfl rfl ?_
  refine a_l1 rfl rfl rfl ?_
  refine a_eV1 rfl lX11_266 mo_X5_dutyAt (au_X5_dutyAt_179 h235_3 ) rfl rfl rfl ⟨5, _, rfl, rfl, rfl⟩ rfl ?_
  refine a_s2 rfl rfl rfl rfl rfl rfl ?_
  refine a_l2 rfl rfl rfl ?_
  refine a_s rfl rfl ?_
  refine a_ic_eq rfl (fun c19 => ?_) (fun c => absurd (by decide) c)
  refine a_iv1 (y := 1) rfl rfl rfl (by decide) ?_
  refine a_goto rfl ?_
  refine a_l1 rfl rfl rfl ?_
  refine a_s rfl rfl ?_
  refine a_ic_ge rfl (fun c => absurd c (by decide)) (fun c5 => ?_)
  refine a_l0 rfl rfl rfl ?_
  refine a_getq rfl gfX11_37_11 rfl rfl ?_
  refine a_l1 rfl rfl rfl ?_
  refine a_eV1 rfl lX11_266 mo_X5_dutyAt (au_X5_dutyAt_180 h235_3 ) rfl rfl rfl ⟨5, _, rfl, rfl, rfl⟩ rfl ?_
  refine a_s2 rfl rfl rfl rfl rfl rfl ?_
  refine a_l2 rfl rfl rfl ?_
  refine a_s rfl rfl ?_
  refine a_ic_eq rfl (fun c19 => ?_) (fun c => absurd (by decide) c)
  refine a_iv1 (y := 2) rfl rfl rfl (by decide) ?_
  refine a_goto rfl ?_
  refine a_l1 rfl rfl rfl ?_
  refine a_s rfl rfl ?_
  refine a_ic_ge rfl (fun c => absurd c (by decide)) (fun c5 => ?_)
  refine a_l0 rfl rfl rfl ?_
  refine a_getq rfl gfX11_37_11 rfl rfl ?_
  refine a_l1 rfl rfl rfl ?_
  refine a_eV1 rfl lX11_266 mo_X5_dutyAt (au_X5_dutyAt_181 h235_3 ) rfl rfl rfl ⟨5, _, rfl, rfl, rfl⟩ rfl ?_
  refine a_s2 rfl rfl rfl rfl rfl rfl ?_
  refine a_l2 rfl rfl rfl ?_
  refine a_s rfl rfl ?_
  refine a_ic_eq rfl (fun c19 => ?_) (fun c => absurd (by decide) c)
  refine a_iv1 (y := 3) rfl rfl rfl (by decide) ?_
  refine a_goto rfl ?_
  refine a_l1 rfl rfl rfl ?_
  refine a_s rfl rfl ?_
  refine a_ic_ge rfl (fun c => absurd c (by decide)) (fun c5 => ?_)
  refine a_l0 rfl rfl rfl ?_
  refine a_getq rfl gfX11_37_11 rfl rfl ?_
  refine a_l1 rfl rfl rfl ?_
  refine a_eV1 rfl lX11_266 mo_X5_dutyAt (au_X5_dutyAt_182 h235_3 ) rfl rfl rfl ⟨5, _, rfl, rfl, rfl⟩ rfl ?_
  refine a_s2 rfl rfl rfl rfl rfl rfl ?_
  refine a_l2 rfl rfl rfl ?_
  refine a_s rfl rfl ?_
  refine a_ic_eq rfl (fun c19 => ?_) (fun c => absurd (by decide) c)
  refine a_iv1 (y := 4) rfl rfl rfl (by decide) ?_
  refine a_goto rfl ?_
  refine a_l1 rfl rfl rfl ?_
  refine a_s rfl rfl ?_
  refine a_ic_ge rfl (fun c => absurd c (by decide)) (fun c5 => ?_)
  refine a_l0 rfl rfl rfl ?_
  refine a_getq rfl gfX11_37_11 rfl rfl ?_
  refine a_l1 rfl rfl rfl ?_
  refine a_eV1 rfl lX11_266 mo_X5_dutyAt (au_X5_dutyAt_183 h235_3 ) rfl rfl rfl ⟨5, _, rfl, rfl, rfl⟩ rfl ?_
  refine a_s2 rfl rfl rfl rfl rfl rfl ?_
  refine a_l2 rfl rfl rfl ?_
  refine a_s rfl rfl ?_
  refine a_ic_eq rfl (fun c19 => ?_) (fun c => absurd (by decide) c)
  refine a_iv1 (y := 5) rfl rfl rfl (by decide) ?_
  refine a_goto rfl ?_
  refine a_l1 rfl rfl rfl ?_
  refine a_s rfl rfl ?_
  refine a_ic_ge rfl (fun c => absurd c (by decide)) (fun c5 => ?_)
  refine a_l0 rfl rfl rfl ?_
  refine a_getq rfl gfX11_37_11 rfl rfl ?_
  refine a_l1 rfl rfl rfl ?_
  refine a_eV1 rfl lX11_266 mo_X5_dutyAt (au_X5_dutyAt_184 h235_3 ) rfl rfl rfl ⟨5, _, rfl, rfl, rfl⟩ rfl ?_
  refine a_s2 rfl rfl rfl rfl rfl rfl ?_
  refine a_l2 rfl rfl rfl ?_
  refine a_s rfl rfl ?_
  refine a_ic_eq rfl (fun c19 => ?_) (fun c => absurd (by decide) c)
  refine a_iv1 (y := 6) rfl rfl rfl (by decide) ?_
  refine a_goto rfl ?_
  refine a_l1 rfl rfl rfl ?_
  refine a_s rfl rfl ?_
  refine a_ic_ge rfl (fun c => absurd c (by decide)) (fun c5 => ?_)
  refine a_l0 rfl rfl rfl ?_
  refine a_getq rfl gfX11_37_11 rfl rfl ?_
  refine a_l1 rfl rfl rfl ?_
  refine a_eV1 rfl lX11_266 mo_X5_dutyAt (au_X5_dutyAt_185 h235_3 ) rfl rfl rfl ⟨5, _, rfl, rfl, rfl⟩ rfl ?_
  refine a_s2 rfl rfl rfl rfl rfl rfl ?_
  refine a_l2 rfl rfl rfl ?_
  refine a_s rfl rfl ?_
  refine a_ic_eq rfl (fun c19 => ?_) (fun c => absurd (by decide) c)
  refine a_iv1 (y := 7) rfl rfl rfl (by decide) ?_
  refine a_goto rfl ?_
  refine a_l1 rfl rfl rfl ?_
  refine a_s rfl rfl ?_
  refine a_ic_ge rfl (fun c => absurd c (by decide)) (fun c5 => ?_)
  refine a_l0 rfl rfl rfl ?_
  refine a_getq rfl gfX11_37_11 rfl rfl ?_
  refine a_l1 rfl rfl rfl ?_
  refine a_eV1 rfl lX11_266 mo_X5_dutyAt (au_X5_dutyAt_186 h235_3 ) rfl rfl rfl ⟨5, _, rfl, rfl, rfl⟩ rfl ?_
  refine a_s2 rfl rfl rfl rfl rfl rfl ?_
  refine a_l2 rfl rfl rfl ?_
  refine a_s rfl rfl ?_
  refine a_ic_eq rfl (fun c19 => ?_) (fun c => absurd (by decide) c)
  refine a_iv1 (y := 8) rfl rfl rfl (by decide) ?_
  refine a_goto rfl ?_
  refine a_l1 rfl rfl rfl ?_
  refine a_s rfl rfl ?_
  refine a_ic_ge rfl (fun c => absurd c (by decide)) (fun c5 => ?_)
  refine a_l0 rfl rfl rfl ?_
  refine a_getq rfl gfX11_37_11 rfl rfl ?_
  refine a_l1 rfl rfl rfl ?_
  refine a_eV1 rfl lX11_266 mo_X5_dutyAt (au_X5_dutyAt_187 h235_3 ) rfl rfl rfl ⟨5, _, rfl, rfl, rfl⟩ rfl ?_
  refine a_s2 rfl rfl rfl rfl rfl rfl ?_
  refine a_l2 rfl rfl rfl ?_
  refine a_s rfl rfl ?_
  refine a_ic_eq rfl (fun c19 => ?_) (fun c => absurd (by decide) c)
  refine a_iv1 (y := 9) rfl rfl rfl (by decide) ?_
  refine a_goto rfl ?_
  refine a_l1 rfl rfl rfl ?_
  refine a_s rfl rfl ?_
  refine a_ic_ge rfl (fun c => absurd c (by decide)) (fun c5 => ?_)
  refine a_l0 rfl rfl rfl ?_
  refine a_getq rfl gfX11_37_11 rfl rfl ?_
  refine a_l1 rfl rfl rfl ?_
  refine a_eV1 rfl lX11_266 mo_X5_dutyAt (au_X5_dutyAt_188 h235_3 ) rfl rfl rfl ⟨5, _, rfl, rfl, rfl⟩ rfl ?_
  refine a_s2 rfl rfl rfl rfl rfl rfl ?_
  refine a_l2 rfl rfl rfl ?_
  refine a_s rfl rfl ?_
  refine a_ic_eq rfl (fun c19 => ?_) (fun c => absurd (by decide) c)
  refine a_iv1 (y := 10) rfl rfl rfl (by decide) ?_
  refine a_goto rfl ?_
  refine a_l1 rfl rfl rfl ?_
  refine a_s rfl rfl ?_
  refine a_ic_ge rfl (fun c => absurd c (by decide)) (fun c5 => ?_)
  refine a_l0 rfl rfl rfl ?_
  refine a_getq rfl gfX11_37_11 rfl rfl ?_
  refine a_l1 rfl rfl rfl ?_
  refine a_eV1 rfl lX11_266 mo_X5_dutyAt (au_X5_dutyAt_189 h235_3 ) rfl rfl rfl ⟨5, _, rfl, rfl, rfl⟩ rfl ?_
  refine a_s2 rfl rfl rfl rfl rfl rfl ?_
  refine a_l2 rfl rfl rfl ?_
  refine a_s rfl rfl ?_
  refine a_ic_eq rfl (fun c19 => ?_) (fun c => absurd (by decide) c)
  refine a_iv1 (y := 11) rfl rfl rfl (by decide) ?_
  refine a_goto rfl ?_
  refine a_l1 rfl rfl rfl ?_
  refine a_s rfl rfl ?_
  refine a_ic_ge rfl (fun c => absurd c (by decide)) (fun c5 => ?_)
  refine a_l0 rfl rfl rfl ?_
  refine a_getq rfl gfX11_37_11 rfl rfl ?_
  refine a_l1 rfl rfl rfl ?_
  refine a_eV1 rfl lX11_266 mo_X5_dutyAt (au_X5_dutyAt_190 h235_3 ) rfl rfl rfl ⟨5, _, rfl, rfl, rfl⟩ rfl ?_
  refine a_s2 rfl rfl rfl rfl rfl rfl ?_
  refine a_l2 rfl rfl rfl ?_
  refine a_s rfl rfl ?_
  refine a_ic_eq rfl (fun c19 => ?_) (fun c => absurd (by decide) c)
  refine a_iv1 (y := 12) rfl rfl rfl (by decide) ?_
  refine a_goto rfl ?_
  refine a_l1 rfl rfl rfl ?_
  refine a_s rfl rfl ?_
  refine a_ic_ge rfl (fun c5 => ?_) (fun c => absurd (by decide) c)
  exact a_vret rfl rfl ⟨rfl, rfl⟩

theorem I0_200_12 : I0 200 12 = 0 := by decide +kernel
theorem au_X11_pastAt_192 {S : aS} {I : Nat → Nat → Int32} {L : Nat → Nat → Int64} {w1 w2 t : Nat}   : SpE S m_X11_pastAt 12 [.ref 200, .int 0] (hp I L w1 w2 t) (some (.ref 288)) (hp I L w1 w2 t) := by
  refine SpE_of ok_X11_pastAt rfl rfl ?_
  show AW S m_X11_pastAt 12 _ _ 0 0 0 [some (.ref 200), some (.int 0), none] [] (hp I L w1 w2 t)
  refine a_l1 rfl rfl rfl ?_
  refine a_s rfl rfl ?_
  refine a_irem rfl (by decide) ?_
  refine a_top (y := 0) (by decide) ?_
  refine a_s2 rfl rfl rfl rfl rfl rfl ?_
  refine a_l2 rfl rfl rfl ?_
  refine a_if_lt rfl (fun c => absurd c (by decide)) (fun c6 => ?_)
  refine a_l2 rfl rfl rfl ?_
  refine a_l0 rfl rfl rfl ?_
  refine a_getq rfl gfX11_64_11 rfl rfl ?_
  refine a_len (x := 12) rfl rfl rfl (by decide) ?_
  refine a_ic_ge rfl (fun c => absurd c (by decide)) (fun c15 => ?_)
  refine a_l0 rfl rfl rfl ?_
  refine a_getq rfl gfX11_64_11 rfl rfl ?_
  refine a_l2 rfl rfl rfl ?_
  refine a_aald (q := 289) rfl (n := 12) rfl ⟨by decide, by decide⟩ rfl ?_
  refine a_goto rfl ?_
  exact a_aret rfl rfl rfl ⟨rfl, rfl⟩
theorem au_X11_rememberAct_193 {S : aS} {I : Nat → Nat → Int32} {L : Nat → Nat → Int64} {w1 w2 t : Nat} (h200_13 : I 200 13 = 0) (h200_12 : I 200 12 = 0)  : SpE S m_X11_rememberAct 15 [.ref 200] (hp I L w1 w2 t) none (hp (up2 (cpS I 288 235 11) 200 13 1) L w1 w2 t) := by
  refine SpE_of ok_X11_rememberAct rfl rfl ?_
  show AW S m_X11_rememberAct 15 _ _ 0 0 0 [some (.ref 200), none] [] (hp I L w1 w2 t)
  refine a_l0 rfl rfl rfl ?_
  refine a_getiv (v := 0) rfl gfX11_95_11 rfl h200_13 ?_
  refine a_s rfl rfl ?_
  refine a_ic_ne rfl (fun c6 => ?_) (fun c => absurd c (by decide))
  refine a_l0 rfl rfl rfl ?_
  refine a_l0 rfl rfl rfl ?_
  refine a_getiv (v := 0) rfl gfX11_368_11 rfl h200_12 ?_
  refine a_l0 rfl rfl rfl ?_
  refine a_getiv (v := 0) rfl gfX11_95_11 rfl h200_13 ?_
  refine a_s rfl rfl ?_
  refine a_top (y := 0) (by decide) ?_
  refine a_eV1 rfl lX11_371 mo_X11_pastAt (au_X11_pastAt_192  ) rfl rfl rfl ⟨11, _, rfl, rfl, rfl⟩ rfl ?_
  refine a_s1 rfl rfl rfl rfl rfl rfl ?_
  refine a_l1 rfl rfl rfl ?_
  refine a_ifnull_f rfl ?_
  refine a_l1 rfl rfl rfl ?_
  refine a_l0 rfl rfl rfl ?_
  refine a_getq rfl gfX11_37_11 rfl rfl ?_
  refine a_eV0 rfl lX11_375 mo_X5_copyAll (sp_X5_copyAll (a := 288) (b := 235) (by decide) (by decide) (by decide)) rfl rfl rfl ⟨5, _, rfl, rfl, rfl⟩ rfl ?_
  refine a_l0 rfl rfl rfl ?_
  refine a_s rfl rfl ?_
  refine a_getiv (v := 0) rfl gfX11_95_11 rfl h200_13 ?_
  refine a_s rfl rfl ?_
  refine a_s rfl rfl ?_
  refine a_top (y := 1) (by decide) ?_
  refine a_puti rfl pfX11_95_11 rfl ?_
  exact a_vret rfl rfl ⟨rfl, rfl⟩
theorem remA (q : Nat) (h : q < 288 ∨ 299 ≤ q) (h2 : q ≠ 200) : (up2 (cpS I0 288 235 11) 200 13 1) q = I0 q := by
  simp (disch := omega) only [up2_row, cpS_out]
theorem nI_lt_of {a b : Nat} (h : ¬ nI b ≤ nI a) (ha : a < 2 ^ 31) (hb : b < 2 ^ 31) : a < b := by
  rw [Int32.le_iff_toInt_le, nI_toInt ha, nI_toInt hb] at h
  omega
theorem cr_X11_days {S : aS} {n : Nat} (hn : n ≤ 90) (q : inB (nI n) 1 90 = true) : CRet S m_X11_days 17 [.ref 200, .int (nI n)] (some 0) := by
  refine Sp_of ok_X11_days rfl rfl ?_
  show AW S m_X11_days 17 _ _ 0 0 0 [some (.ref 200), some (.int (nI n)), none, none] [] (hp I0 L0 0 0 432)
  refine a_l1 rfl rfl rfl ?_
  refine a_s rfl rfl ?_
  refine a_s rfl rfl ?_
  refine a_eS0 rfl lX11_250 mo_X11_needNumber (sp_needNumber q) rfl rfl rfl rfl ?_
  refine a_l0 rfl rfl rfl ?_
  refine a_eV0 rfl lX11_230 mo_X11_rememberAct (au_X11_rememberAct_193 I0_200_13 I0_200_12 ) rfl rfl rfl ⟨11, _, rfl, rfl, rfl⟩ rfl ?_
  refine a_l0 rfl rfl rfl ?_
  refine a_getq rfl gfX11_37_11 rfl (rfl) ?_
  refine a_s rfl rfl ?_
  refine a_eV1 rfl lX11_200 mo_X5_bitsIn (au_X5_bitsIn_76 ((congrFun (remA 235 (by decide) (by decide)) 3).trans I0_235_3) ) rfl rfl rfl ⟨5, _, rfl, rfl, rfl⟩ rfl ?_
  refine a_s2 rfl rfl rfl rfl rfl rfl ?_
  refine a_s rfl rfl ?_
  refine a_s3 rfl rfl rfl rfl rfl rfl ?_
  refine a_inv (n := n) (fun m ls h => ∃ j I, j + m = n ∧ ls = [some (.ref 200), some (.int (nI n)), some (.int 0), some (.int (nI j))] ∧ h = hp I L0 0 0 432 ∧ RefZ I ∧ I 235 0 = 0 ∧ I 235 3 = 0) ⟨0, _, by omega, by rw [nI_0], rfl, fun q hq => remA q (by omega) (by omega), (congrFun (remA 235 (by decide) (by decide)) 0).trans I0_235_0, (congrFun (remA 235 (by decide) (by decide)) 3).trans I0_235_3⟩ ?_
  rintro m _ _ ⟨j, I, hj, rfl, rfl, hz, h0, hd⟩ ih
  refine a_l3 rfl rfl rfl ?_
  refine a_l1 rfl rfl rfl ?_
  refine a_ic_ge rfl (fun cc => ?_) (fun cc => ?_)
  · refine a_l0 rfl rfl rfl ?_
    refine a_getq rfl gfX11_37_11 rfl (rfl) ?_
    refine a_s rfl rfl ?_
    refine a_eV1 rfl lX11_200 mo_X5_bitsIn (au_X5_bitsIn_76 hd ) rfl rfl rfl ⟨5, _, rfl, rfl, rfl⟩ rfl ?_
    refine a_l2 rfl rfl rfl ?_
    refine a_s rfl rfl ?_
    refine a_s rfl rfl ?_
    refine a_s rfl rfl ?_
    refine a_eS1 rfl lX11_261 mo_J6_bitCount_0f7a4 ((sp_bitCount (x := 0 &&& (0 ^^^ (-1)))).cast (r' := some (.int 0)) (by decide) rfl) rfl rfl rfl rfl ?_
    refine a_iret rfl rfl ⟨rfl, I, 0, 0, 432, rfl, hz⟩
  · refine a_l0 rfl rfl rfl ?_
    refine a_getq rfl gfX11_37_11 rfl (rfl) ?_
    refine a_l0 rfl rfl rfl ?_
    refine a_getq rfl gfX11_44_11 rfl (rfl) ?_
    refine a_s rfl rfl ?_
    refine a_callV rfl lX11_254 mo_X5_passDay (sp0_X5_passDay (b := 246) (by decide) h0 hd) rfl rfl rfl ⟨5, _, rfl, rfl, rfl⟩ rfl (fun v h' hv => ?_) (fun E h' hx => False.elim hx)
    obtain ⟨rfl, I', rfl, hf, h0', hd'⟩ := hv
    refine a_l0 rfl rfl rfl ?_
    refine a_getq rfl gfX11_37_11 rfl (rfl) ?_
    refine a_geti rfl gfX11_185_5 rfl ?_
    refine a_s rfl rfl ?_
    refine a_ic_ne rfl (fun c47 => ?_) (fun c47 => ?_)
    · refine a_i3 rfl rfl rfl ?_
      refine a_goto rfl ?_
      exact ih (m - 1) _ _ (by have := nI_lt_of cc (by omega) (by omega); omega) ⟨j + 1, I', by have := nI_lt_of cc (by omega) (by omega); omega, by rw [nI_1], rfl, fun q hq => (hf q (by omega)).trans (hz q hq), h0', hd'⟩
    · refine a_l0 rfl rfl rfl ?_
      refine a_eV0 rfl lX11_258 mo_X11_letParadeGoBy (au_X11_letParadeGoBy_191 hd' ) rfl rfl rfl ⟨11, _, rfl, rfl, rfl⟩ rfl ?_
      refine a_i3 rfl rfl rfl ?_
      refine a_goto rfl ?_
      exact ih (m - 1) _ _ (by have := nI_lt_of cc (by omega) (by omega); omega) ⟨j + 1, I', by have := nI_lt_of cc (by omega) (by omega); omega, by rw [nI_1], rfl, fun q hq => (hf q (by omega)).trans (hz q hq), h0', hd'⟩
theorem au_X2_shameOfSet_194 {S : aS} {I : Nat → Nat → Int32} {L : Nat → Nat → Int64} {w1 w2 t : Nat} (h257_3 : I 257 3 = 0)  : SpE S m_X2_shameOfSet 12 [.ref 246, .ref 257, .int 0] (hp I L w1 w2 t) (some (.int 0)) (hp I L w1 w2 t) := by
  refine SpE_of ok_X2_shameOfSet rfl rfl ?_
  show AW S m_X2_shameOfSet 12 _ _ 0 0 0 [some (.ref 246), some (.ref 257), some (.int 0), none, none] [] (hp I L w1 w2 t)
  refine a_s rfl rfl ?_
  refine a_s3 rfl rfl rfl rfl rfl rfl ?_
  refine a_s rfl rfl ?_
  refine a_s4 rfl rfl rfl rfl rfl rfl ?_
  refine a_l4 rfl rfl rfl ?_
  refine a_l1 rfl rfl rfl ?_
  refine a_getiv (v := 0) rfl gfX2_71_5 rfl h257_3 ?_
  refine a_ic_ge rfl (fun c11 => ?_) (fun c => absurd (by decide) c)
  refine a_l3 rfl rfl rfl ?_
  exact a_iret rfl rfl ⟨rfl, rfl⟩
theorem au_X11_shameOfWaiting_195 {S : aS} {I : Nat → Nat → Int32} {L : Nat → Nat → Int64} {w1 w2 t : Nat} (h257_3 : I 257 3 = 0)  : SpE S m_X11_shameOfWaiting 13 [.ref 200, .ref 257] (hp I L w1 w2 t) (some (.int 0)) (hp I L w1 w2 t) := by
  refine SpE_of ok_X11_shameOfWaiting rfl rfl ?_
  show AW S m_X11_shameOfWaiting 13 _ _ 0 0 0 [some (.ref 200), some (.ref 257)] [] (hp I L w1 w2 t)
  refine a_l0 rfl rfl rfl ?_
  refine a_getq rfl gfX11_44_11 rfl rfl ?_
  refine a_l1 rfl rfl rfl ?_
  refine a_l1 rfl rfl rfl ?_
  refine a_s rfl rfl ?_
  refine a_eV1 rfl lX11_200 mo_X5_bitsIn (au_X5_bitsIn_1 h257_3 ) rfl rfl rfl ⟨5, _, rfl, rfl, rfl⟩ rfl ?_
  refine a_eV1 rfl lX11_282 mo_X2_shameOfSet (au_X2_shameOfSet_194 h257_3 ) rfl rfl rfl ⟨2, _, rfl, rfl, rfl⟩ rfl ?_
  exact a_iret rfl rfl ⟨rfl, rfl⟩
theorem au_X5_bitsIn_196 {S : aS} {I : Nat → Nat → Int32} {L : Nat → Nat → Int64} {w1 w2 t : Nat} (h257_3 : I 257 3 = 0)  : SpE S m_X5_bitsIn 12 [.ref 257, .int 1] (hp I L w1 w2 t) (some (.int 0)) (hp I L w1 w2 t) := by
  refine SpE_of ok_X5_bitsIn rfl rfl ?_
  show AW S m_X5_bitsIn 12 _ _ 0 0 0 [some (.ref 257), some (.int 1), none, none] [] (hp I L w1 w2 t)
  refine a_s rfl rfl ?_
  refine a_s2 rfl rfl rfl rfl rfl rfl ?_
  refine a_s rfl rfl ?_
  refine a_s3 rfl rfl rfl rfl rfl rfl ?_
  refine a_l3 rfl rfl rfl ?_
  refine a_l0 rfl rfl rfl ?_
  refine a_getiv (v := 0) rfl gfX5_63_5 rfl h257_3 ?_
  refine a_ic_ge rfl (fun c9 => ?_) (fun c => absurd (by decide) c)
  refine a_l2 rfl rfl rfl ?_
  exact a_iret rfl rfl ⟨rfl, rfl⟩
theorem sp0_tried {S : aS} {I : Nat → Nat → Int32} {L : Nat → Nat → Int64} {w1 w2 t n : Nat} {x : Int32} (hn : n ≤ 90) (h0 : I 235 0 = 0) (hd : I 235 3 = 0) : Sp S m_X11_shameTriedOut 17 0 0 [.ref 200, .int (nI n), .int x] (hp I L w1 w2 t) (fun v h' => v = some (.int 0) ∧ ∃ I', h' = hp I' L w1 w2 t ∧ (∀ q, (q < 257 ∨ 266 ≤ q) → I' q = I q) ∧ I' 257 3 = 0) (fun _ _ => False) := by
  refine Sp_of ok_X11_shameTriedOut rfl rfl ?_
  show AW S m_X11_shameTriedOut 17 _ _ 0 0 0 [some (.ref 200), some (.int (nI n)), some (.int x), none] [] (hp I L w1 w2 t)
  refine a_l0 rfl rfl rfl ?_
  refine a_getq rfl gfX11_55_11 rfl (rfl) ?_
  refine a_l0 rfl rfl rfl ?_
  refine a_getq rfl gfX11_37_11 rfl (rfl) ?_
  refine a_eV0 rfl lX11_78 mo_X5_copyFrom (sp_X5_copyFrom (a := 257) (b := 235) (by decide) (by decide) (by decide)) rfl rfl rfl ⟨5, _, rfl, rfl, rfl⟩ rfl ?_
  refine a_l0 rfl rfl rfl ?_
  refine a_getq rfl gfX11_55_11 rfl (rfl) ?_
  refine a_l2 rfl rfl rfl ?_
  refine a_puti rfl pfX11_353_5 rfl ?_
  refine a_s rfl rfl ?_
  refine a_s3 rfl rfl rfl rfl rfl rfl ?_
  refine a_inv (n := n) (fun m ls h => ∃ j I1, j + m = n ∧ ls = [some (.ref 200), some (.int (nI n)), some (.int x), some (.int (nI j))] ∧ h = hp I1 L w1 w2 t ∧ (∀ q, (q < 257 ∨ 266 ≤ q) → I1 q = I q) ∧ I1 257 0 = 0 ∧ I1 257 3 = 0) ⟨0, _, by omega, by rw [nI_0], rfl, fun q hq => by simp (disch := omega) only [up2_row, cpS_out], h0, hd⟩ ?_
  rintro m _ _ ⟨j, I1, hj, rfl, rfl, hf, h0, hd'⟩ ih
  refine a_l3 rfl rfl rfl ?_
  refine a_l1 rfl rfl rfl ?_
  refine a_ic_ge rfl (fun cc => ?_) (fun cc => ?_)
  · refine a_l0 rfl rfl rfl ?_
    refine a_l0 rfl rfl rfl ?_
    refine a_getq rfl gfX11_55_11 rfl (rfl) ?_
    refine a_eV1 rfl lX11_207 mo_X11_shameOfWaiting (au_X11_shameOfWaiting_195 hd' ) rfl rfl rfl ⟨11, _, rfl, rfl, rfl⟩ rfl ?_
    refine a_iret rfl rfl ⟨rfl, I1, rfl, hf, hd'⟩
  · refine a_l0 rfl rfl rfl ?_
    refine a_getq rfl gfX11_55_11 rfl (rfl) ?_
    refine a_l0 rfl rfl rfl ?_
    refine a_getq rfl gfX11_44_11 rfl (rfl) ?_
    refine a_s rfl rfl ?_
    refine a_callV rfl lX11_254 mo_X5_passDay (sp0_X5_passDay (b := 246) (by decide) h0 hd') rfl rfl rfl ⟨5, _, rfl, rfl, rfl⟩ rfl (fun v h' hv => ?_) (fun E h' hx => False.elim hx)
    obtain ⟨rfl, I2, rfl, hf2, h02, hd2⟩ := hv
    refine a_i3 rfl rfl rfl ?_
    refine a_goto rfl ?_
    exact ih (m - 1) _ _ (by have := nI_lt_of cc (by omega) (by omega); omega) ⟨j + 1, I2, by have := nI_lt_of cc (by omega) (by omega); omega, by rw [nI_1], rfl, fun q hq => (hf2 q (by omega)).trans (hf q hq), h02, hd2⟩
theorem cr_X11_trial {S : aS} {n : Nat} {x : Int32} (hn : n ≤ 90) (q : inB (nI n) 0 90 = true) : CRet S m_X11_trial 18 [.ref 200, .int (nI n), .int x] (some 0) := by
  refine Sp_of ok_X11_trial rfl rfl ?_
  show AW S m_X11_trial 18 _ _ 0 0 0 [some (.ref 200), some (.int (nI n)), some (.int x), none] [] (hp I0 L0 0 0 432)
  refine a_l1 rfl rfl rfl ?_
  refine a_s rfl rfl ?_
  refine a_s rfl rfl ?_
  refine a_eS0 rfl lX11_250 mo_X11_needNumber (sp_needNumber q) rfl rfl rfl rfl ?_
  refine a_l0 rfl rfl rfl ?_
  refine a_l1 rfl rfl rfl ?_
  refine a_l0 rfl rfl rfl ?_
  refine a_getq rfl gfX11_37_11 rfl (rfl) ?_
  refine a_geti rfl gfX11_353_5 rfl ?_
  refine a_callV rfl lX11_356 mo_X11_shameTriedOut (sp0_tried hn I0_235_0 I0_235_3) rfl rfl rfl ⟨11, _, rfl, rfl, rfl⟩ rfl (fun v h' hv => ?_) (fun E h' hx => False.elim hx)
  obtain ⟨rfl, I1, rfl, hf, hd'⟩ := hv
  refine a_s3 rfl rfl rfl rfl rfl rfl ?_
  refine a_l2 rfl rfl rfl ?_
  refine a_if_eq rfl (fun c21 => ?_) (fun c21 => ?_)
  · refine a_l3 rfl rfl rfl ?_
    refine a_iret rfl rfl ⟨rfl, I1, 0, 0, 432, rfl, fun q hq => hf q (by omega)⟩
  · refine a_l0 rfl rfl rfl ?_
    refine a_getq rfl gfX11_55_11 rfl (rfl) ?_
    refine a_s rfl rfl ?_
    refine a_eV1 rfl lX11_200 mo_X5_bitsIn (au_X5_bitsIn_196 hd' ) rfl rfl rfl ⟨5, _, rfl, rfl, rfl⟩ rfl ?_
    refine a_goto rfl ?_
    refine a_iret rfl rfl ⟨rfl, I1, 0, 0, 432, rfl, fun q hq => hf q (by omega)⟩
theorem nI_le_of {a b : Nat} (h : ¬ nI b < nI a) (ha : a < 2 ^ 31) (hb : b < 2 ^ 31) : a ≤ b := by
  rw [Int32.lt_iff_toInt_lt, nI_toInt ha, nI_toInt hb] at h
  omega
theorem cr_X11_span {S : aS} {n : Nat} {x : Int32} (hn : n ≤ 90) (q : inB (nI n) 0 90 = true) : CRet S m_X11_span 18 [.ref 200, .int (nI n), .int x] (some 0) := by
  refine Sp_of ok_X11_span rfl rfl ?_
  show AW S m_X11_span 18 _ _ 0 0 0 [some (.ref 200), some (.int (nI n)), some (.int x), none, none, none] [] (hp I0 L0 0 0 432)
  refine a_l1 rfl rfl rfl ?_
  refine a_s rfl rfl ?_
  refine a_s rfl rfl ?_
  refine a_eS0 rfl lX11_250 mo_X11_needNumber (sp_needNumber q) rfl rfl rfl rfl ?_
  refine a_l0 rfl rfl rfl ?_
  refine a_l1 rfl rfl rfl ?_
  refine a_s rfl rfl ?_
  refine a_callV rfl lX11_356 mo_X11_shameTriedOut (sp0_tried hn I0_235_0 I0_235_3) rfl rfl rfl ⟨11, _, rfl, rfl, rfl⟩ rfl (fun v h' hv => ?_) (fun E h' hx => False.elim hx)
  obtain ⟨rfl, I1, rfl, hf, hd'⟩ := hv
  refine a_s3 rfl rfl rfl rfl rfl rfl ?_
  refine a_s rfl rfl ?_
  refine a_s4 rfl rfl rfl rfl rfl rfl ?_
  refine a_inv (n := 5) (fun m ls h => ∃ j I, j + m = 5 ∧ ls = [some (.ref 200), some (.int (nI n)), some (.int x), some (.int 0), some (.int (nI (2 + j))), none] ∧ h = hp I L0 0 0 432 ∧ RefZ I ∧ I 235 0 = 0 ∧ I 235 3 = 0) ⟨0, I1, by omega, rfl, rfl, fun q hq => hf q (by omega), (congrFun (hf 235 (by decide)) 0).trans I0_235_0, (congrFun (hf 235 (by decide)) 3).trans I0_235_3⟩ ?_
  rintro m _ _ ⟨j, I, hj, rfl, rfl, hz, h0, hd⟩ ih
  refine a_l4 rfl rfl rfl ?_
  refine a_s rfl rfl ?_
  refine a_ic_gt rfl (fun cc => ?_) (fun cc => ?_)
  · refine a_l3 rfl rfl rfl ?_
    refine a_iret rfl rfl ⟨rfl, I, 0, 0, 432, rfl, hz⟩
  · refine a_l0 rfl rfl rfl ?_
    refine a_l1 rfl rfl rfl ?_
    refine a_l4 rfl rfl rfl ?_
    refine a_callV rfl lX11_356 mo_X11_shameTriedOut (sp0_tried hn h0 hd) rfl rfl rfl ⟨11, _, rfl, rfl, rfl⟩ rfl (fun v h' hv => ?_) (fun E h' hx => False.elim hx)
    obtain ⟨rfl, I2, rfl, hf2, hd'⟩ := hv
    refine a_s5 rfl rfl rfl rfl rfl rfl ?_
    refine a_l2 rfl rfl rfl ?_
    refine a_if_eq rfl (fun c34 => ?_) (fun c34 => ?_)
    · refine a_l3 rfl rfl rfl ?_
      refine a_l5 rfl rfl rfl ?_
      refine a_min rfl lX11_350 mj_min rfl rfl ?_
      refine a_s3 rfl rfl rfl rfl rfl rfl ?_
      refine a_i4 rfl rfl rfl ?_
      refine a_goto rfl ?_
      exact a_back (ih (m - 1) _ _ (by have := nI_le_of (b := 6) cc (by omega) (by decide); omega) ⟨j + 1, I2, by have := nI_le_of (b := 6) cc (by omega) (by decide); omega, rfl, rfl, fun q hq => (hf2 q (by omega)).trans (hz q hq), (congrFun (hf2 235 (by decide)) 0).trans h0, (congrFun (hf2 235 (by decide)) 3).trans hd⟩) (by simp [lsub, nI_1, ← Nat.add_assoc]) rfl
    · refine a_l3 rfl rfl rfl ?_
      refine a_l5 rfl rfl rfl ?_
      refine a_max rfl lX11_290 mj_max rfl rfl ?_
      refine a_goto rfl ?_
      refine a_s3 rfl rfl rfl rfl rfl rfl ?_
      refine a_i4 rfl rfl rfl ?_
      refine a_goto rfl ?_
      exact a_back (ih (m - 1) _ _ (by have := nI_le_of (b := 6) cc (by omega) (by decide); omega) ⟨j + 1, I2, by have := nI_le_of (b := 6) cc (by omega) (by decide); omega, rfl, rfl, fun q hq => (hf2 q (by omega)).trans (hz q hq), (congrFun (hf2 235 (by decide)) 0).trans h0, (congrFun (hf2 235 (by decide)) 3).trans hd⟩) (by simp [lsub, nI_1, ← Nat.add_assoc]) rfl

theorem sp0_X12_oneDay {S : aS} {I : Nat → Nat → Int32} {L : Nat → Nat → Int64} {w1 w2 t : Nat} {x : Int32} (h0 : I 421 0 = 0) (hd : I 421 1 = 0) : Sp S m_X12_oneDay 14 0 0 [.ref 420, .int x] (hp I L w1 w2 t) (fun v h' => v = some (.int 0) ∧ ∃ I', h' = hp I' L w1 w2 t ∧ (∀ q, q ≠ 421 → q ≠ 429 → I' q = I q) ∧ (∀ k, k ≠ 4 → k ≠ 5 → I' 421 k = I 421 k)) (fun _ _ => False) := by
  refine Sp_of ok_X12_oneDay rfl rfl ?_
  show AW S m_X12_oneDay 14 _ _ 0 0 0 [some (.ref 420), some (.int x), none, none] [] (hp I L w1 w2 t)
  refine a_s rfl rfl ?_
  refine a_s2 rfl rfl rfl rfl rfl rfl ?_
  refine a_s rfl rfl ?_
  refine a_s3 rfl rfl rfl rfl rfl rfl ?_
  refine a_l3 rfl rfl rfl ?_
  refine a_s rfl rfl ?_
  refine a_ic_ge rfl (fun c => absurd c (by decide)) (fun c7 => ?_)
  refine a_l0 rfl rfl rfl ?_
  refine a_getq rfl gfX12_42_12 rfl rfl ?_
  refine a_l3 rfl rfl rfl ?_
  refine a_s rfl rfl ?_
  refine a_iastv (k := 0) rfl (n := 6) rfl ⟨by decide, by decide⟩ (by decide) ?_
  refine a_iv3 (y := 1) rfl rfl rfl (by decide) ?_
  refine a_goto rfl ?_
  refine a_l3 rfl rfl rfl ?_
  refine a_s rfl rfl ?_
  refine a_ic_ge rfl (fun c => absurd c (by decide)) (fun c7 => ?_)
  refine a_l0 rfl rfl rfl ?_
  refine a_getq rfl gfX12_42_12 rfl rfl ?_
  refine a_l3 rfl rfl rfl ?_
  refine a_s rfl rfl ?_
  refine a_iastv (k := 1) rfl (n := 6) rfl ⟨by decide, by decide⟩ (by decide) ?_
  refine a_iv3 (y := 2) rfl rfl rfl (by decide) ?_
  refine a_goto rfl ?_
  refine a_l3 rfl rfl rfl ?_
  refine a_s rfl rfl ?_
  refine a_ic_ge rfl (fun c => absurd c (by decide)) (fun c7 => ?_)
  refine a_l0 rfl rfl rfl ?_
  refine a_getq rfl gfX12_42_12 rfl rfl ?_
  refine a_l3 rfl rfl rfl ?_
  refine a_s rfl rfl ?_
  refine a_iastv (k := 2) rfl (n := 6) rfl ⟨by decide, by decide⟩ (by decide) ?_
  refine a_iv3 (y := 3) rfl rfl rfl (by decide) ?_
  refine a_goto rfl ?_
  refine a_l3 rfl rfl rfl ?_
  refine a_s rfl rfl ?_
  refine a_ic_ge rfl (fun c => absurd c (by decide)) (fun c7 => ?_)
  refine a_l0 rfl rfl rfl ?_
  refine a_getq rfl gfX12_42_12 rfl rfl ?_
  refine a_l3 rfl rfl rfl ?_
  refine a_s rfl rfl ?_
  refine a_iastv (k := 3) rfl (n := 6) rfl ⟨by decide, by decide⟩ (by decide) ?_
  refine a_iv3 (y := 4) rfl rfl rfl (by decide) ?_
  refine a_goto rfl ?_
  refine a_l3 rfl rfl rfl ?_
  refine a_s rfl rfl ?_
  refine a_ic_ge rfl (fun c => absurd c (by decide)) (fun c7 => ?_)
  refine a_l0 rfl rfl rfl ?_
  refine a_getq rfl gfX12_42_12 rfl rfl ?_
  refine a_l3 rfl rfl rfl ?_
  refine a_s rfl rfl ?_
  refine a_iastv (k := 4) rfl (n := 6) rfl ⟨by decide, by decide⟩ (by decide) ?_
  refine a_iv3 (y := 5) rfl rfl rfl (by decide) ?_
  refine a_goto rfl ?_
  refine a_l3 rfl rfl rfl ?_
  refine a_s rfl rfl ?_
  refine a_ic_ge rfl (fun c => absurd c (by decide)) (fun c7 => ?_)
  refine a_l0 rfl rfl rfl ?_
  refine a_getq rfl gfX12_42_12 rfl rfl ?_
  refine a_l3 rfl rfl rfl ?_
  refine a_s rfl rfl ?_
  refine a_iastv (k := 5) rfl (n := 6) rfl ⟨by decide, by decide⟩ (by decide) ?_
  refine a_iv3 (y := 6) rfl rfl rfl (by decide) ?_
  refine a_goto rfl ?_
  refine a_l3 rfl rfl rfl ?_
  refine a_s rfl rfl ?_
  refine a_ic_ge rfl (fun c7 => ?_) (fun c => absurd (by decide) c)
  refine a_s rfl rfl ?_
  refine a_s3 rfl rfl rfl rfl rfl rfl ?_
  refine a_l3 rfl rfl rfl ?_
  refine a_l0 rfl rfl rfl ?_
  refine a_eV1 rfl lX12_66 mo_X12_people (sp_X12_people) rfl rfl rfl ⟨12, _, rfl, rfl, rfl⟩ rfl ?_
  refine a_top (y := 0) h0 ?_
  refine a_ic_ge rfl (fun c30 => ?_) (fun c => absurd (by decide) c)
  refine a_l0 rfl rfl rfl ?_
  refine a_getq rfl gfX12_13_12 rfl (rfl) ?_
  refine a_s rfl rfl ?_
  refine a_s rfl rfl ?_
  refine a_iald rfl (n := 2033) rfl (⟨by decide, by decide⟩) ?_
  refine a_s rfl rfl ?_
  refine a_s rfl rfl ?_
  refine a_iastv (k := 4) rfl (n := 2033) rfl ⟨by decide, by decide⟩ (by decide) ?_
  refine a_l0 rfl rfl rfl ?_
  refine a_getq rfl gfX12_13_12 rfl (rfl) ?_
  refine a_s rfl rfl ?_
  refine a_iald rfl (n := 2033) rfl (⟨by decide, by decide⟩) ?_
  refine a_s rfl rfl ?_
  refine a_ic_le rfl (fun c89 => ?_) (fun c89 => ?_)
  · refine a_l0 rfl rfl rfl ?_
    refine a_getq rfl gfX12_13_12 rfl (rfl) ?_
    refine a_s rfl rfl ?_
    refine a_iald rfl (n := 2033) rfl (⟨by decide, by decide⟩) ?_
    refine a_s rfl rfl ?_
    refine a_ic_ne rfl (fun c147 => ?_) (fun c147 => ?_)
    · refine a_l2 rfl rfl rfl ?_
      refine a_iret rfl rfl ⟨rfl, _, rfl, fun q e1 e2 => by simp only [up2_row e1, up2_row e2], fun k e4 e5 => by simp [up2, e4, e5]⟩
    · refine a_l0 rfl rfl rfl ?_
      refine a_eV0 rfl lX12_382 mo_X12_goesBy (au_X12_goesBy_8 hd ) rfl rfl rfl ⟨12, _, rfl, rfl, rfl⟩ rfl ?_
      refine a_l2 rfl rfl rfl ?_
      refine a_iret rfl rfl ⟨rfl, _, rfl, fun q e1 e2 => by simp only [up2_row e1, up2_row e2], fun k e4 e5 => by simp [up2, e4, e5]⟩
  · refine a_l0 rfl rfl rfl ?_
    refine a_getq rfl gfX12_13_12 rfl (rfl) ?_
    refine a_s rfl rfl ?_
    refine a_s rfl rfl ?_
    refine a_iastv (k := 4) rfl (n := 2033) rfl ⟨by decide, by decide⟩ (by decide) ?_
    refine a_l0 rfl rfl rfl ?_
    refine a_getq rfl gfX12_13_12 rfl (rfl) ?_
    refine a_s rfl rfl ?_
    refine a_s rfl rfl ?_
    refine a_l0 rfl rfl rfl ?_
    refine a_getq rfl gfX12_13_12 rfl (rfl) ?_
    refine a_s rfl rfl ?_
    refine a_iald rfl (n := 2033) rfl (⟨by decide, by decide⟩) ?_
    refine a_s rfl rfl ?_
    refine a_s rfl rfl ?_
    refine a_min rfl lX12_295 mj_min rfl rfl ?_
    refine a_iastv (k := 5) rfl (n := 2033) rfl ⟨by decide, by decide⟩ (by decide) ?_
    refine a_s rfl rfl ?_
    refine a_s3 rfl rfl rfl rfl rfl rfl ?_
    refine a_l3 rfl rfl rfl ?_
    refine a_l0 rfl rfl rfl ?_
    refine a_eV1 rfl lX12_74 mo_X12_duties (sp_X12_duties) rfl rfl rfl ⟨12, _, rfl, rfl, rfl⟩ rfl ?_
    refine a_top (y := 0) hd ?_
    refine a_ic_ge rfl (fun c126 => ?_) (fun c => absurd (by decide) c)
    refine a_l0 rfl rfl rfl ?_
    refine a_getq rfl gfX12_13_12 rfl (rfl) ?_
    refine a_s rfl rfl ?_
    refine a_iald rfl (n := 2033) rfl (⟨by decide, by decide⟩) ?_
    refine a_s rfl rfl ?_
    refine a_ic_ne rfl (fun c147 => ?_) (fun c147 => ?_)
    · refine a_l2 rfl rfl rfl ?_
      refine a_iret rfl rfl ⟨rfl, _, rfl, fun q e1 e2 => by simp only [up2_row e1, up2_row e2], fun k e4 e5 => by simp [up2, e4, e5]⟩
    · refine a_l0 rfl rfl rfl ?_
      refine a_eV0 rfl lX12_382 mo_X12_goesBy (au_X12_goesBy_8 hd ) rfl rfl rfl ⟨12, _, rfl, rfl, rfl⟩ rfl ?_
      refine a_l2 rfl rfl rfl ?_
      refine a_iret rfl rfl ⟨rfl, _, rfl, fun q e1 e2 => by simp only [up2_row e1, up2_row e2], fun k e4 e5 => by simp [up2, e4, e5]⟩
theorem sp0_X12_goesOn {S : aS} {I : Nat → Nat → Int32} {L : Nat → Nat → Int64} {w1 w2 t n : Nat} {x : Int32} (hn : n ≤ 90) (h0 : I 421 0 = 0) (hd : I 421 1 = 0) : Sp S m_X12_goesOn 15 0 0 [.ref 420, .int (nI n), .int x] (hp I L w1 w2 t) (fun v h' => v = some (.int 0) ∧ ∃ I', h' = hp I' L w1 w2 t ∧ (∀ q, q ≠ 421 → q ≠ 429 → I' q = I q) ∧ (∀ k, k ≠ 4 → k ≠ 5 → I' 421 k = I 421 k)) (fun _ _ => False) := by
  refine Sp_of ok_X12_goesOn rfl rfl ?_
  show AW S m_X12_goesOn 15 _ _ 0 0 0 [some (.ref 420), some (.int (nI n)), some (.int x), none, none] [] (hp I L w1 w2 t)
  refine a_s rfl rfl ?_
  refine a_s3 rfl rfl rfl rfl rfl rfl ?_
  refine a_s rfl rfl ?_
  refine a_s4 rfl rfl rfl rfl rfl rfl ?_
  refine a_inv (n := n) (fun m ls h => ∃ j I1, j + m = n ∧ ls = [some (.ref 420), some (.int (nI n)), some (.int x), some (.int 0), some (.int (nI j))] ∧ h = hp I1 L w1 w2 t ∧ (∀ q, q ≠ 421 → q ≠ 429 → I1 q = I q) ∧ (∀ k, k ≠ 4 → k ≠ 5 → I1 421 k = I 421 k)) ⟨0, I, by omega, by rw [nI_0], rfl, fun _ _ _ => rfl, fun _ _ _ => rfl⟩ ?_
  rintro m _ _ ⟨j, I1, hj, rfl, rfl, hf, hw⟩ ih
  refine a_l4 rfl rfl rfl ?_
  refine a_l1 rfl rfl rfl ?_
  refine a_ic_ge rfl (fun cc => ?_) (fun cc => ?_)
  · refine a_l3 rfl rfl rfl ?_
    refine a_iret rfl rfl ⟨rfl, I1, rfl, hf, hw⟩
  · refine a_l3 rfl rfl rfl ?_
    refine a_l0 rfl rfl rfl ?_
    refine a_l2 rfl rfl rfl ?_
    refine a_callV rfl lX12_385 mo_X12_oneDay (sp0_X12_oneDay (I := I1) ((hw 0 (by decide) (by decide)).trans h0) ((hw 1 (by decide) (by decide)).trans hd)) rfl rfl rfl ⟨12, _, rfl, rfl, rfl⟩ rfl (fun v h' hv => ?_) (fun E h' hx => False.elim hx)
    obtain ⟨rfl, I2, rfl, hf2, hw2⟩ := hv
    refine a_s rfl rfl ?_
    refine a_s3 rfl rfl rfl rfl rfl rfl ?_
    refine a_i4 rfl rfl rfl ?_
    refine a_goto rfl ?_
    exact a_back (ih (m - 1) _ _ (by have := nI_lt_of cc (by omega) (by omega); omega) ⟨j + 1, I2, by have := nI_lt_of cc (by omega) (by omega); omega, rfl, rfl, fun q e1 e2 => (hf2 q e1 e2).trans (hf q e1 e2), fun k e4 e5 => (hw2 k e4 e5).trans (hw k e4 e5)⟩) (by simp [lsub, nI_1]) rfl
theorem au_X12_remembers_197 {S : aS} {I : Nat → Nat → Int32} {L : Nat → Nat → Int64} {w1 w2 t : Nat} (h420_7 : I 420 7 = 0)  : SpE S m_X12_remembers 12 [.ref 420] (hp I L w1 w2 t) none (hp (cpP (up2 I 420 7 1) 425 421 335) L w1 w2 t) := by
  refine SpE_of ok_X12_remembers rfl rfl ?_
  show AW S m_X12_remembers 12 _ _ 0 0 0 [some (.ref 420), none] [] (hp I L w1 w2 t)
  refine a_l0 rfl rfl rfl ?_
  refine a_getiv (v := 0) rfl gfX12_53_12 rfl h420_7 ?_
  refine a_s rfl rfl ?_
  refine a_ic_ne rfl (fun c6 => ?_) (fun c => absurd c (by decide))
  refine a_l0 rfl rfl rfl ?_
  refine a_s rfl rfl ?_
  refine a_getiv (v := 0) rfl gfX12_53_12 rfl h420_7 ?_
  refine a_s rfl rfl ?_
  refine a_s rfl rfl ?_
  refine a_top (y := 1) (by decide) ?_
  refine a_puti rfl pfX12_53_12 rfl ?_
  refine a_s rfl rfl ?_
  refine a_s1 rfl rfl rfl rfl rfl rfl ?_
  refine a_forE (n := 335) (fun j => [some (.ref 420), some (.int (nI j))]) (fun j => hp (cpP (up2 I 420 7 1) 425 421 j) L w1 w2 t) (by simp [lsub, nI_0]) (by rw [cpP_0]) ?_ (fun j hj ih55 => ?_)
  rotate_left
  · refine a_l1 rfl rfl rfl ?_
    refine a_s rfl rfl ?_
    refine a_ic_ge rfl (fun c => absurd c (nI_ge (b := 335) hj (by omega))) (fun c59 => ?_)
    refine a_l0 rfl rfl rfl ?_
    refine a_getq rfl gfX12_26_12 rfl (rfl) ?_
    refine a_s rfl rfl ?_
    refine a_l0 rfl rfl rfl ?_
    refine a_getiv (v := 1) rfl gfX12_53_12 rfl rfl ?_
    refine a_s rfl rfl ?_
    refine a_s rfl rfl ?_
    refine a_s rfl rfl ?_
    refine a_top (y := 0) (by decide) ?_
    refine a_l1 rfl rfl rfl ?_
    refine a_s rfl rfl ?_
    refine a_top (y := nI j) (by rw [Int32.zero_add]) ?_
    refine a_l0 rfl rfl rfl ?_
    refine a_getq rfl gfX12_13_12 rfl (rfl) ?_
    refine a_l1 rfl rfl rfl ?_
    refine a_ialdv (v := (up2 I 420 7 1) 421 j) rfl (n := 2033) rfl (inI_nI (by omega) (by omega)) (by rw [nI_clamp (by omega)]; rw [cpP_src (by decide)]) ?_
    refine a_iastv (k := j) rfl (n := 4020) rfl (inI_nI (by omega) (by omega)) (nI_clamp (by omega)) ?_
    rw [cpP_succ]
    refine a_i1 rfl rfl rfl ?_
    refine a_goto rfl ?_
    exact a_back ih55 (by simp [lsub, nI_1]) rfl
  refine a_l1 rfl rfl rfl ?_
  refine a_s rfl rfl ?_
  refine a_ic_ge rfl (fun c59 => ?_) (fun c => absurd (Int32.le_refl _) c)
  exact a_vret rfl rfl ⟨rfl, rfl⟩

theorem rr_X12_days {S : aS} {n : Nat} (hn : n ≤ 90) (q : inB (nI n) 1 90 = true) : RRet S m_X12_days 16 [.ref 420, .int (nI n)] (some 0) 0 := fun I L w1 w2 t hz => by
  have h7 := hz.at rfl I0_420_7
  refine Sp_of ok_X12_days rfl rfl ?_
  show AW S m_X12_days 16 _ _ 0 0 0 [some (.ref 420), some (.int (nI n))] [] (hp I L w1 w2 t)
  refine a_l0 rfl rfl rfl ?_
  refine a_s rfl rfl ?_
  refine a_puti rfl pfX12_3_12 rfl ?_
  refine a_l0 rfl rfl rfl ?_
  refine a_l1 rfl rfl rfl ?_
  refine a_s rfl rfl ?_
  refine a_s rfl rfl ?_
  refine a_eS1 rfl lX12_70 mo_X12_in ((sp_X12_in (x := nI n) (a := 1) (b := 90)).cast (r' := some (.int 1)) (by rw [q]; rfl) rfl) rfl rfl rfl rfl ?_
  refine a_if_ne rfl (fun c13 => ?_) (fun c => absurd c (by decide))
  refine a_s rfl rfl ?_
  refine a_s rfl rfl ?_
  refine a_eV1 rfl lX12_243 mo_X12_throwsIf (sp0_throwsIf) rfl rfl rfl ⟨12, _, rfl, rfl, rfl⟩ rfl ?_
  refine a_if_eq rfl (fun c25 => ?_) (fun c => absurd (by decide) c)
  refine a_l0 rfl rfl rfl ?_
  refine a_eV0 rfl lX12_357 mo_X12_remembers (au_X12_remembers_197 h7 ) rfl rfl rfl ⟨12, _, rfl, rfl, rfl⟩ rfl ?_
  refine a_l0 rfl rfl rfl ?_
  refine a_l1 rfl rfl rfl ?_
  refine a_s rfl rfl ?_
  refine a_callV rfl lX12_388 mo_X12_goesOn (sp0_X12_goesOn hn (hz.at rfl I0_421_0) (hz.at rfl I0_421_1)) rfl rfl rfl ⟨12, _, rfl, rfl, rfl⟩ rfl (fun v h' hv => ?_) (fun E h' hx => False.elim hx)
  obtain ⟨rfl, I1, rfl, hf, hw⟩ := hv
  refine a_iret rfl rfl ⟨rfl, I1, L, w1, w2, t, rfl, congrFun (hf 420 (by decide) (by decide)) 0, rfl⟩



theorem rr_X12_trial {S : aS} {n : Nat} {x : Int32} (hn : n ≤ 90) (q : inB (nI n) 0 90 = true) : RRet S m_X12_trial 16 [.ref 420, .int (nI n), .int x] (some 0) 0 := fun I L w1 w2 t hz => by
  refine Sp_of ok_X12_trial rfl rfl ?_
  show AW S m_X12_trial 16 _ _ 0 0 0 [some (.ref 420), some (.int (nI n)), some (.int x), none] [] (hp I L w1 w2 t)
  refine a_l0 rfl rfl rfl ?_
  refine a_s rfl rfl ?_
  refine a_puti rfl pfX12_3_12 rfl ?_
  refine a_l0 rfl rfl rfl ?_
  refine a_l1 rfl rfl rfl ?_
  refine a_eS1 rfl lX12_392 mo_X12_noDays ((sp_X12_noDays (x := nI n)).cast (r' := some (.int 0)) (by rw [q]; rfl) rfl) rfl rfl rfl rfl ?_
  refine a_s rfl rfl ?_
  refine a_eV1 rfl lX12_243 mo_X12_throwsIf (sp0_throwsIf) rfl rfl rfl ⟨12, _, rfl, rfl, rfl⟩ rfl ?_
  refine a_if_eq rfl (fun c14 => ?_) (fun c => absurd (by decide) c)
  refine a_l0 rfl rfl rfl ?_
  refine a_eV0 rfl lX12_395 mo_X12_keepsAll (sp_X12_keepsAll) rfl rfl rfl ⟨12, _, rfl, rfl, rfl⟩ rfl ?_
  refine a_l0 rfl rfl rfl ?_
  refine a_l1 rfl rfl rfl ?_
  refine a_s rfl rfl ?_
  refine a_callV rfl lX12_388 mo_X12_goesOn (sp0_X12_goesOn hn (hz.at rfl I0_421_0) (hz.at rfl I0_421_1)) rfl rfl rfl ⟨12, _, rfl, rfl, rfl⟩ rfl (fun v h' hv => ?_) (fun E h' hx => False.elim hx)
  obtain ⟨rfl, I1, rfl, hf, hw⟩ := hv
  have hd' : I1 421 1 = 0 := (hw 1 (by decide) (by decide)).trans (hz.at rfl I0_421_1)
  refine a_s rfl rfl ?_
  refine a_l2 rfl rfl rfl ?_
  refine a_if_eq rfl (fun c31 => ?_) (fun c31 => ?_)
  · refine a_l0 rfl rfl rfl ?_
    refine a_l0 rfl rfl rfl ?_
    refine a_s rfl rfl ?_
    refine a_eV1 rfl lX12_324 mo_X12_ofState (au_X12_ofState_6 hd' ) rfl rfl rfl ⟨12, _, rfl, rfl, rfl⟩ rfl ?_
    refine a_eV1 rfl lX12_339 mo_X12_shameOf (au_X12_shameOf_98 hd' ) rfl rfl rfl ⟨12, _, rfl, rfl, rfl⟩ rfl ?_
    refine a_s3 rfl rfl rfl rfl rfl rfl ?_
    refine a_l0 rfl rfl rfl ?_
    refine a_eV0 rfl lX12_398 mo_X12_bringsBack (sp_X12_bringsBack) rfl rfl rfl ⟨12, _, rfl, rfl, rfl⟩ rfl ?_
    refine a_l3 rfl rfl rfl ?_
    refine a_iret rfl rfl ⟨rfl, _, L, w1, w2, t, rfl, congrFun (hf 420 (by decide) (by decide)) 0, rfl⟩
  · refine a_l0 rfl rfl rfl ?_
    refine a_s rfl rfl ?_
    refine a_eV1 rfl lX12_324 mo_X12_ofState (au_X12_ofState_158 hd' ) rfl rfl rfl ⟨12, _, rfl, rfl, rfl⟩ rfl ?_
    refine a_goto rfl ?_
    refine a_s3 rfl rfl rfl rfl rfl rfl ?_
    refine a_l0 rfl rfl rfl ?_
    refine a_eV0 rfl lX12_398 mo_X12_bringsBack (sp_X12_bringsBack) rfl rfl rfl ⟨12, _, rfl, rfl, rfl⟩ rfl ?_
    refine a_l3 rfl rfl rfl ?_
    refine a_iret rfl rfl ⟨rfl, _, L, w1, w2, t, rfl, congrFun (hf 420 (by decide) (by decide)) 0, rfl⟩
theorem rr_X12_span {S : aS} {n : Nat} {x : Int32} (hn : n ≤ 90) (q : inB (nI n) 0 90 = true) : RRet S m_X12_span 16 [.ref 420, .int (nI n), .int x] (some 0) 0 := fun I L w1 w2 t hz => by
  refine Sp_of ok_X12_span rfl rfl ?_
  show AW S m_X12_span 16 _ _ 0 0 0 [some (.ref 420), some (.int (nI n)), some (.int x), none, none, none] [] (hp I L w1 w2 t)
  refine a_l0 rfl rfl rfl ?_
  refine a_s rfl rfl ?_
  refine a_puti rfl pfX12_3_12 rfl ?_
  refine a_l0 rfl rfl rfl ?_
  refine a_l1 rfl rfl rfl ?_
  refine a_eS1 rfl lX12_392 mo_X12_noDays ((sp_X12_noDays (x := nI n)).cast (r' := some (.int 0)) (by rw [q]; rfl) rfl) rfl rfl rfl rfl ?_
  refine a_s rfl rfl ?_
  refine a_eV1 rfl lX12_243 mo_X12_throwsIf (sp0_throwsIf) rfl rfl rfl ⟨12, _, rfl, rfl, rfl⟩ rfl ?_
  refine a_if_eq rfl (fun c14 => ?_) (fun c => absurd (by decide) c)
  refine a_l0 rfl rfl rfl ?_
  refine a_eV0 rfl lX12_395 mo_X12_keepsAll (sp_X12_keepsAll) rfl rfl rfl ⟨12, _, rfl, rfl, rfl⟩ rfl ?_
  refine a_s rfl rfl ?_
  refine a_s3 rfl rfl rfl rfl rfl rfl ?_
  refine a_s rfl rfl ?_
  refine a_s4 rfl rfl rfl rfl rfl rfl ?_
  refine a_inv (n := 6) (fun m ls h => ∃ j b I, j + m = 6 ∧ ((j = 0 ∧ b = -1) ∨ b = 0) ∧ ls = [some (.ref 420), some (.int (nI n)), some (.int x), some (.int b), some (.int (nI (1 + j))), none] ∧ h = hp I L w1 w2 t ∧ I 420 0 = 0 ∧ I 424 0 = 0 ∧ I 424 1 = 0 ∧ I 421 0 = 0 ∧ I 421 1 = 0) ⟨0, -1, _, by omega, Or.inl ⟨rfl, rfl⟩, rfl, rfl, rfl, hz.at rfl I0_421_0, hz.at rfl I0_421_1, hz.at rfl I0_421_0, hz.at rfl I0_421_1⟩ ?_
  rintro m _ _ ⟨j, b, I, hj, hb, rfl, rfl, hk, t0, t1, u0, u1⟩ ih
  rcases hb with ⟨rfl, rfl⟩ | rfl
  · refine a_l4 rfl rfl rfl ?_
    refine a_s rfl rfl ?_
    refine a_ic_gt rfl (fun c => absurd c (by decide)) (fun c32 => ?_)
    refine a_l0 rfl rfl rfl ?_
    refine a_getq rfl gfX12_13_12 rfl (rfl) ?_
    refine a_s rfl rfl ?_
    refine a_l4 rfl rfl rfl ?_
    refine a_iastv (k := 10) rfl (n := 2033) rfl ⟨by decide, by decide⟩ (by decide) ?_
    refine a_l0 rfl rfl rfl ?_
    refine a_l1 rfl rfl rfl ?_
    refine a_s rfl rfl ?_
    refine a_callV rfl lX12_388 mo_X12_goesOn (sp0_X12_goesOn hn u0 u1) rfl rfl rfl ⟨12, _, rfl, rfl, rfl⟩ rfl (fun v h' hv => ?_) (fun E h' hx => False.elim hx)
    obtain ⟨rfl, I1, rfl, hf, hw⟩ := hv
    have hd' : I1 421 1 = 0 := (hw 1 (by decide) (by decide)).trans u1
    refine a_s rfl rfl ?_
    refine a_l0 rfl rfl rfl ?_
    refine a_l0 rfl rfl rfl ?_
    refine a_s rfl rfl ?_
    refine a_eV1 rfl lX12_324 mo_X12_ofState (au_X12_ofState_6 hd' ) rfl rfl rfl ⟨12, _, rfl, rfl, rfl⟩ rfl ?_
    refine a_eV1 rfl lX12_339 mo_X12_shameOf (au_X12_shameOf_98 hd' ) rfl rfl rfl ⟨12, _, rfl, rfl, rfl⟩ rfl ?_
    refine a_s5 rfl rfl rfl rfl rfl rfl ?_
    refine a_l0 rfl rfl rfl ?_
    refine a_eV0 rfl lX12_398 mo_X12_bringsBack (sp_X12_bringsBack) rfl rfl rfl ⟨12, _, rfl, rfl, rfl⟩ rfl ?_
    refine a_l3 rfl rfl rfl ?_
    refine a_if_ge rfl (fun c => absurd c (by decide)) (fun c67 => ?_)
    refine a_l5 rfl rfl rfl ?_
    refine a_goto rfl ?_
    refine a_s3 rfl rfl rfl rfl rfl rfl ?_
    refine a_i4 rfl rfl rfl ?_
    refine a_goto rfl ?_
    exact a_back (ih (m - 1) _ _ (by omega) ⟨0 + 1, 0, cpP I1 421 424 335, by omega, Or.inr rfl, rfl, rfl, (congrFun (hf 420 (by decide) (by decide)) 0).trans hk, (congrFun (hf 424 (by decide) (by decide)) 0).trans t0, (congrFun (hf 424 (by decide) (by decide)) 1).trans t1, (congrFun (hf 424 (by decide) (by decide)) 0).trans t0, (congrFun (hf 424 (by decide) (by decide)) 1).trans t1⟩) (by simp [lsub, nI_1, ← Nat.add_assoc]) rfl
  · refine a_l4 rfl rfl rfl ?_
    refine a_s rfl rfl ?_
    refine a_ic_gt rfl (fun cc => ?_) (fun cc => ?_)
    · refine a_l3 rfl rfl rfl ?_
      refine a_iret rfl rfl ⟨rfl, I, L, w1, w2, t, rfl, hk, rfl⟩
    · refine a_l0 rfl rfl rfl ?_
      refine a_getq rfl gfX12_13_12 rfl (rfl) ?_
      refine a_s rfl rfl ?_
      refine a_l4 rfl rfl rfl ?_
      refine a_iastv (k := 10) rfl (n := 2033) rfl ⟨by decide, by decide⟩ (by decide) ?_
      refine a_l0 rfl rfl rfl ?_
      refine a_l1 rfl rfl rfl ?_
      refine a_s rfl rfl ?_
      refine a_callV rfl lX12_388 mo_X12_goesOn (sp0_X12_goesOn hn u0 u1) rfl rfl rfl ⟨12, _, rfl, rfl, rfl⟩ rfl (fun v h' hv => ?_) (fun E h' hx => False.elim hx)
      obtain ⟨rfl, I1, rfl, hf, hw⟩ := hv
      have hd' : I1 421 1 = 0 := (hw 1 (by decide) (by decide)).trans u1
      refine a_s rfl rfl ?_
      refine a_l0 rfl rfl rfl ?_
      refine a_l0 rfl rfl rfl ?_
      refine a_s rfl rfl ?_
      refine a_eV1 rfl lX12_324 mo_X12_ofState (au_X12_ofState_6 hd' ) rfl rfl rfl ⟨12, _, rfl, rfl, rfl⟩ rfl ?_
      refine a_eV1 rfl lX12_339 mo_X12_shameOf (au_X12_shameOf_98 hd' ) rfl rfl rfl ⟨12, _, rfl, rfl, rfl⟩ rfl ?_
      refine a_s5 rfl rfl rfl rfl rfl rfl ?_
      refine a_l0 rfl rfl rfl ?_
      refine a_eV0 rfl lX12_398 mo_X12_bringsBack (sp_X12_bringsBack) rfl rfl rfl ⟨12, _, rfl, rfl, rfl⟩ rfl ?_
      refine a_l3 rfl rfl rfl ?_
      refine a_if_ge rfl (fun c67 => ?_) (fun c => absurd (by decide) c)
      refine a_l2 rfl rfl rfl ?_
      refine a_if_eq rfl (fun c76 => ?_) (fun c76 => ?_)
      · refine a_l3 rfl rfl rfl ?_
        refine a_l5 rfl rfl rfl ?_
        refine a_min rfl lX12_295 mj_min rfl rfl ?_
        refine a_s3 rfl rfl rfl rfl rfl rfl ?_
        refine a_i4 rfl rfl rfl ?_
        refine a_goto rfl ?_
        exact a_back (ih (m - 1) _ _ (by have := nI_le_of (b := 6) cc (by omega) (by decide); omega) ⟨j + 1, 0, cpP I1 421 424 335, by have := nI_le_of (b := 6) cc (by omega) (by decide); omega, Or.inr rfl, rfl, rfl, (congrFun (hf 420 (by decide) (by decide)) 0).trans hk, (congrFun (hf 424 (by decide) (by decide)) 0).trans t0, (congrFun (hf 424 (by decide) (by decide)) 1).trans t1, (congrFun (hf 424 (by decide) (by decide)) 0).trans t0, (congrFun (hf 424 (by decide) (by decide)) 1).trans t1⟩) (by simp [lsub, nI_1, ← Nat.add_assoc]) rfl
      · refine a_l3 rfl rfl rfl ?_
        refine a_l5 rfl rfl rfl ?_
        refine a_max rfl lX12_265 mj_max rfl rfl ?_
        refine a_goto rfl ?_
        refine a_s3 rfl rfl rfl rfl rfl rfl ?_
        refine a_i4 rfl rfl rfl ?_
        refine a_goto rfl ?_
        exact a_back (ih (m - 1) _ _ (by have := nI_le_of (b := 6) cc (by omega) (by decide); omega) ⟨j + 1, 0, cpP I1 421 424 335, by have := nI_le_of (b := 6) cc (by omega) (by decide); omega, Or.inr rfl, rfl, rfl, (congrFun (hf 420 (by decide) (by decide)) 0).trans hk, (congrFun (hf 424 (by decide) (by decide)) 0).trans t0, (congrFun (hf 424 (by decide) (by decide)) 1).trans t1, (congrFun (hf 424 (by decide) (by decide)) 0).trans t0, (congrFun (hf 424 (by decide) (by decide)) 1).trans t1⟩) (by simp [lsub, nI_1, ← Nat.add_assoc]) rfl
theorem inB_lo0 {x : Int32} (h : inB x 1 90 = true) : inB x 0 (nI 90) = true := by
  have h := of_decide_eq_true h
  refine decide_eq_true ⟨?_, h.2⟩
  have h1 := Int32.le_iff_toInt_le.mp h.1
  have h3 : (1 : Int32).toInt = 1 := rfl
  have h4 : (0 : Int32).toInt = 0 := rfl
  exact Int32.le_iff_toInt_le.mpr (by omega)
theorem au_X11_days_198 {S : aS} {I : Nat → Nat → Int32} {L : Nat → Nat → Int64} {w1 w2 t : Nat} {x1 : Int32}  (q0 : inB x1 1 90 = false) : SpX S m_X11_days 13 [.ref 200, .int x1] (hp I L w1 w2 t) "java/lang/IllegalArgumentException" (hp I L w1 w2 0) := by
  refine SpX_of ok_X11_days rfl rfl ?_
  show AW S m_X11_days 13 _ _ 1 6 0 [some (.ref 200), some (.int x1), none, none] [] (hp I L w1 w2 t)
  refine a_l1 rfl rfl rfl ?_
  refine a_s rfl rfl ?_
  refine a_s rfl rfl ?_
  exact a_xS rfl lX11_250 mo_X11_needNumber (spx_needNumber (q0)) rfl rfl rfl rfl ⟨rfl, rfl⟩
theorem cx_X11_days_x {S : aS} {x0 : Int32} (q : inB x0 1 90 = false) : CThr S m_X11_days 13 [.ref 200, .int x0] "java/lang/IllegalArgumentException" := CThr.of (au_X11_days_198  (q))
theorem au_X12_days_199 {S : aS} {I : Nat → Nat → Int32} {L : Nat → Nat → Int64} {w1 w2 t : Nat} {x1 : Int32}  (q0 : inB x1 1 90 = false) : SpE S m_X12_days 13 [.ref 420, .int x1] (hp I L w1 w2 t) (some (.int 0)) (hp (up2 (up2 I 420 0 0) 420 0 1) L w1 w2 t) := by
  refine SpE_of ok_X12_days rfl rfl ?_
  show AW S m_X12_days 13 _ _ 0 0 0 [some (.ref 420), some (.int x1)] [] (hp I L w1 w2 t)
  refine a_l0 rfl rfl rfl ?_
  refine a_s rfl rfl ?_
  refine a_puti rfl pfX12_3_12 rfl ?_
  refine a_l0 rfl rfl rfl ?_
  refine a_l1 rfl rfl rfl ?_
  refine a_s rfl rfl ?_
  refine a_s rfl rfl ?_
  refine a_eS1 rfl lX12_70 mo_X12_in ((sp_X12_in (x := x1) (a := 1) (b := 90)).cast (r' := some (.int 0)) (by rw [q0]; rfl) rfl) rfl rfl rfl rfl ?_
  refine a_if_ne rfl (fun c => absurd c (by decide)) (fun c13 => ?_)
  refine a_s rfl rfl ?_
  refine a_goto rfl ?_
  refine a_s rfl rfl ?_
  refine a_eV1 rfl lX12_243 mo_X12_throwsIf (au_X12_throwsIf_87  ) rfl rfl rfl ⟨12, _, rfl, rfl, rfl⟩ rfl ?_
  refine a_if_eq rfl (fun c => absurd c (by decide)) (fun c25 => ?_)
  refine a_s rfl rfl ?_
  exact a_iret rfl rfl ⟨rfl, rfl⟩
theorem rr_X12_days_x {S : aS} {x0 : Int32} (q : inB x0 1 90 = false) : RRet S m_X12_days 13 [.ref 420, .int x0] (some 0) 1 := RRet.of (fun I => up2 (up2 I 420 0 0) 420 0 1) (fun I L w1 w2 t hz => au_X12_days_199  (q)) (fun I hz => rfl)
theorem w_days {S : aS} {x0 : Int32} {r : Int32} (h : CRet S m_X11_days 17 [.ref 200, .int x0] (some r)) : Sp S m_L_days 18 0 0 [.ref 200, .int x0, .ref 431] (hp I0 L0 0 0 432) (QW r) (fun _ _ => False) := by
  refine Sp_of ok_L_days rfl rfl ?_
  show AW S m_L_days 18 _ _ 0 0 0 [some (.ref 200), some (.int x0), some (.ref 431), none] [] (hp I0 L0 0 0 432)
  refine a_l2 rfl rfl rfl ?_
  refine a_s rfl rfl ?_
  refine a_l0 rfl rfl rfl ?_
  refine a_l1 rfl rfl rfl ?_
  refine a_callVc rfl lL_55 mo_X11_days h rfl rfl rfl ⟨11, _, rfl, rfl, rfl⟩ (fun v h' hv => ?_) (fun E h' hx => False.elim hx)
  obtain ⟨rfl, I, w1, w2, t, rfl, hz⟩ := hv
  refine a_s rfl rfl ?_
  refine a_last rfl (n := 1) rfl ⟨by decide, by decide⟩ ?_
  refine a_goto rfl ?_
  refine a_s rfl rfl ?_
  exact a_iret rfl rfl ⟨rfl, I, w1, w2, t, rfl, hz⟩
theorem wx_days_1 {xs : Nat → Int32} {x0 : Int32} (h : CThr (S1 6 xs) m_X11_days 13 [.ref 200, .int x0] "java/lang/IllegalArgumentException") : Sp (S1 6 xs) m_L_days 14 1 6 [.ref 200, .int x0, .ref 431] (hp I0 L0 0 0 432) (QX 1) (fun _ _ => False) := by
  refine Sp_of ok_L_days rfl rfl ?_
  show AW (S1 6 xs) m_L_days 14 _ _ 1 6 0 [some (.ref 200), some (.int x0), some (.ref 431), none] [] (hp I0 L0 0 0 432)
  refine a_l2 rfl rfl rfl ?_
  refine a_s rfl rfl ?_
  refine a_l0 rfl rfl rfl ?_
  refine a_l1 rfl rfl rfl ?_
  refine a_callVc rfl lL_55 mo_X11_days h rfl rfl rfl ⟨11, _, rfl, rfl, rfl⟩ (fun v h' hv => False.elim hv) (fun E h' hx => ?_)
  obtain ⟨rfl, I, w1, w2, t, rfl, hz⟩ := hx
  refine ⟨12, _, _, _, _, 3, tk_13 rfl (by decide) (by decide), rfl, rfl, by decide, ?_⟩
  refine a_s rfl rfl ?_
  exact a_iret rfl rfl ⟨rfl, I, w1, w2, t, rfl, hz⟩
theorem op_14_1 {xs : Nat → Int32} (hb : inB (xs 1) 1 90 = false) : OpOk xs 1051 := by
  show AW (S1 6 xs) m_L_main 1050 QM XM 599770 7281900 1051 [some (.ref 199), some (.ref 200), some (.ref 420), some (.ref 431), some (.int 0), none, none] [] (hp I0 L0 0 0 432)
  refine a_l1 rfl rfl rfl ?_
  refine a_l0 rfl rfl rfl ?_
  refine a_l4 rfl rfl rfl ?_
  refine a_s rfl rfl ?_
  refine a_s rfl rfl ?_
  refine a_ialdc rfl scr_mem ⟨by decide, by decide⟩ ?_
  refine a_l3 rfl rfl rfl ?_
  refine a_callW rfl lL_188 mo_L_days (wx_days_1 (cx_X11_days_x hb)) rfl rfl rfl rfl (fun v h' hv => ?_) (fun E h' hx => False.elim hx)
  obtain ⟨rfl, I, w1, w2, t, rfl, hz⟩ := hv
  refine a_s5 rfl rfl rfl rfl rfl rfl ?_
  refine a_l2 rfl rfl rfl ?_
  refine a_l0 rfl rfl rfl ?_
  refine a_l4 rfl rfl rfl ?_
  refine a_s rfl rfl ?_
  refine a_s rfl rfl ?_
  refine a_ialdc rfl scr_mem ⟨by decide, by decide⟩ ?_
  refine a_callV rfl lL_190 mo_X12_days (rr_X12_days_x hb I _ w1 w2 t hz) rfl rfl rfl ⟨12, _, rfl, rfl, rfl⟩ rfl (fun v h' hv => ?_) (fun E h' hx => False.elim hx)
  obtain ⟨rfl, I', L', w1', w2', t', rfl, hk, hL⟩ := hv
  refine a_s6 rfl rfl rfl rfl rfl rfl ?_
  refine a_l2 rfl rfl rfl ?_
  refine a_eV1 rfl lL_149 mo_X12_thrown (sp_X12_thrown) rfl rfl rfl ⟨12, _, rfl, rfl, rfl⟩ rfl ?_
  refine a_l5 rfl rfl rfl ?_
  refine a_ic_eq rfl (fun c1082 => ?_) (fun c => absurd (hk) c)
  refine a_l5 rfl rfl rfl ?_
  refine a_if_ne rfl (fun c1089 => ?_) (fun c => absurd c (by decide))
  refine a_goto rfl ?_
  exact fin_ok
theorem op_14_0 {xs : Nat → Int32} {n : Nat} (hn : n ≤ 90) (e : xs 1 = nI n) (q : inB (nI n) 1 90 = true) : OpOk xs 1051 := by
  have c : CRet (S1 6 xs) m_X11_days 17 [.ref 200, .int (xs 1)] (some 0) := by rw [e]; exact cr_X11_days hn q
  have r : RRet (S1 6 xs) m_X12_days 16 [.ref 420, .int (xs 1)] (some 0) 0 := by rw [e]; exact rr_X12_days hn q
  show AW (S1 6 xs) m_L_main 1050 QM XM 599770 7281900 1051 [some (.ref 199), some (.ref 200), some (.ref 420), some (.ref 431), some (.int 0), none, none] [] (hp I0 L0 0 0 432)
  refine a_l1 rfl rfl rfl ?_
  refine a_l0 rfl rfl rfl ?_
  refine a_l4 rfl rfl rfl ?_
  refine a_s rfl rfl ?_
  refine a_s rfl rfl ?_
  refine a_ialdc rfl scr_mem ⟨by decide, by decide⟩ ?_
  refine a_l3 rfl rfl rfl ?_
  refine a_callW rfl lL_188 mo_L_days (w_days c) rfl rfl rfl rfl (fun v h' hv => ?_) (fun E h' hx => False.elim hx)
  obtain ⟨rfl, I, w1, w2, t, rfl, hz⟩ := hv
  refine a_s5 rfl rfl rfl rfl rfl rfl ?_
  refine a_l2 rfl rfl rfl ?_
  refine a_l0 rfl rfl rfl ?_
  refine a_l4 rfl rfl rfl ?_
  refine a_s rfl rfl ?_
  refine a_s rfl rfl ?_
  refine a_ialdc rfl scr_mem ⟨by decide, by decide⟩ ?_
  refine a_callV rfl lL_190 mo_X12_days (r I _ w1 w2 t hz) rfl rfl rfl ⟨12, _, rfl, rfl, rfl⟩ rfl (fun v h' hv => ?_) (fun E h' hx => False.elim hx)
  obtain ⟨rfl, I', L', w1', w2', t', rfl, hk, hL⟩ := hv
  refine a_s6 rfl rfl rfl rfl rfl rfl ?_
  refine a_l2 rfl rfl rfl ?_
  refine a_eV1 rfl lL_149 mo_X12_thrown (sp_X12_thrown) rfl rfl rfl ⟨12, _, rfl, rfl, rfl⟩ rfl ?_
  refine a_l5 rfl rfl rfl ?_
  refine a_ic_eq rfl (fun c1082 => ?_) (fun c => absurd (hk) c)
  refine a_l5 rfl rfl rfl ?_
  refine a_if_ne rfl (fun c => absurd c (fun z => z rfl)) (fun c1089 => ?_)
  refine a_l3 rfl rfl rfl ?_
  refine a_s rfl rfl ?_
  refine a_lald rfl (n := 1) rfl ⟨by decide, by decide⟩ ?_
  rw [hL]
  refine a_l6 rfl rfl rfl ?_
  refine a_s rfl rfl ?_
  refine a_s rfl rfl ?_
  refine a_if_eq rfl (fun c1099 => ?_) (fun c => absurd (cmp_self _) c)
  refine a_goto rfl ?_
  exact fin_ok
theorem op_14 {xs : Nat → Int32} : OpOk xs 1051 := by
  cases q : inB (xs 1) 1 90 with
  | false => exact op_14_1 q
  | true =>
    have q0 : inB (xs 1) 0 (nI 90) = true := inB_lo0 q
    obtain ⟨n, hn, e⟩ := inB_ex (b := 90) (by decide) q0
    exact op_14_0 hn e (by rw [← e]; exact q)
theorem au_X11_trial_200 {S : aS} {I : Nat → Nat → Int32} {L : Nat → Nat → Int64} {w1 w2 t : Nat} {x1 x2 : Int32}  (q0 : inB x1 0 90 = false) : SpX S m_X11_trial 13 [.ref 200, .int x1, .int x2] (hp I L w1 w2 t) "java/lang/IllegalArgumentException" (hp I L w1 w2 0) := by
  refine SpX_of ok_X11_trial rfl rfl ?_
  show AW S m_X11_trial 13 _ _ 1 6 0 [some (.ref 200), some (.int x1), some (.int x2), none] [] (hp I L w1 w2 t)
  refine a_l1 rfl rfl rfl ?_
  refine a_s rfl rfl ?_
  refine a_s rfl rfl ?_
  exact a_xS rfl lX11_250 mo_X11_needNumber (spx_needNumber (q0)) rfl rfl rfl rfl ⟨rfl, rfl⟩
theorem cx_X11_trial_x {S : aS} {x0 x1 : Int32} (q : inB x0 0 90 = false) : CThr S m_X11_trial 13 [.ref 200, .int x0, .int x1] "java/lang/IllegalArgumentException" := CThr.of (au_X11_trial_200  (q))
theorem au_X12_noDays_201 {S : aS} {I : Nat → Nat → Int32} {L : Nat → Nat → Int64} {w1 w2 t : Nat} {x0 : Int32}  (q0 : inB x0 0 90 = false) : SpE S m_X12_noDays 13 [.int x0] (hp I L w1 w2 t) (some (.int 1)) (hp I L w1 w2 t) := by
  refine SpE_of ok_X12_noDays rfl rfl ?_
  show AW S m_X12_noDays 13 _ _ 0 0 0 [some (.int x0)] [] (hp I L w1 w2 t)
  refine a_l0 rfl rfl rfl ?_
  refine a_s rfl rfl ?_
  refine a_s rfl rfl ?_
  refine a_eS1 rfl lX12_70 mo_X12_in ((sp_X12_in (x := x0) (a := 0) (b := 90)).cast (r' := some (.int 0)) (by rw [q0]; rfl) rfl) rfl rfl rfl rfl ?_
  refine a_if_ne rfl (fun c => absurd c (by decide)) (fun c7 => ?_)
  refine a_s rfl rfl ?_
  refine a_goto rfl ?_
  exact a_zret rfl rfl rfl ⟨rfl, rfl⟩
theorem au_X12_trial_202 {S : aS} {I : Nat → Nat → Int32} {L : Nat → Nat → Int64} {w1 w2 t : Nat} {x1 x2 : Int32}  (q0 : inB x1 0 90 = false) : SpE S m_X12_trial 14 [.ref 420, .int x1, .int x2] (hp I L w1 w2 t) (some (.int 0)) (hp (up2 (up2 I 420 0 0) 420 0 1) L w1 w2 t) := by
  refine SpE_of ok_X12_trial rfl rfl ?_
  show AW S m_X12_trial 14 _ _ 0 0 0 [some (.ref 420), some (.int x1), some (.int x2), none] [] (hp I L w1 w2 t)
  refine a_l0 rfl rfl rfl ?_
  refine a_s rfl rfl ?_
  refine a_puti rfl pfX12_3_12 rfl ?_
  refine a_l0 rfl rfl rfl ?_
  refine a_l1 rfl rfl rfl ?_
  refine a_eS1 rfl lX12_392 mo_X12_noDays (au_X12_noDays_201  (q0)) rfl rfl rfl rfl ?_
  refine a_s rfl rfl ?_
  refine a_eV1 rfl lX12_243 mo_X12_throwsIf (au_X12_throwsIf_87  ) rfl rfl rfl ⟨12, _, rfl, rfl, rfl⟩ rfl ?_
  refine a_if_eq rfl (fun c => absurd c (by decide)) (fun c14 => ?_)
  refine a_s rfl rfl ?_
  exact a_iret rfl rfl ⟨rfl, rfl⟩
theorem rr_X12_trial_x {S : aS} {x0 x1 : Int32} (q : inB x0 0 90 = false) : RRet S m_X12_trial 14 [.ref 420, .int x0, .int x1] (some 0) 1 := RRet.of (fun I => up2 (up2 I 420 0 0) 420 0 1) (fun I L w1 w2 t hz => au_X12_trial_202  (q)) (fun I hz => rfl)
theorem w_trial {S : aS} {x0 x1 : Int32} {r : Int32} (h : CRet S m_X11_trial 18 [.ref 200, .int x0, .int x1] (some r)) : Sp S m_L_trial 19 0 0 [.ref 200, .int x0, .int x1, .ref 431] (hp I0 L0 0 0 432) (QW r) (fun _ _ => False) := by
  refine Sp_of ok_L_trial rfl rfl ?_
  show AW S m_L_trial 19 _ _ 0 0 0 [some (.ref 200), some (.int x0), some (.int x1), some (.ref 431), none] [] (hp I0 L0 0 0 432)
  refine a_l3 rfl rfl rfl ?_
  refine a_s rfl rfl ?_
  refine a_l0 rfl rfl rfl ?_
  refine a_l1 rfl rfl rfl ?_
  refine a_l2 rfl rfl rfl ?_
  refine a_callVc rfl lL_117 mo_X11_trial h rfl rfl rfl ⟨11, _, rfl, rfl, rfl⟩ (fun v h' hv => ?_) (fun E h' hx => False.elim hx)
  obtain ⟨rfl, I, w1, w2, t, rfl, hz⟩ := hv
  refine a_s rfl rfl ?_
  refine a_last rfl (n := 1) rfl ⟨by decide, by decide⟩ ?_
  refine a_goto rfl ?_
  refine a_s rfl rfl ?_
  exact a_iret rfl rfl ⟨rfl, I, w1, w2, t, rfl, hz⟩
theorem wx_trial_1 {xs : Nat → Int32} {x0 x1 : Int32} (h : CThr (S1 6 xs) m_X11_trial 13 [.ref 200, .int x0, .int x1] "java/lang/IllegalArgumentException") : Sp (S1 6 xs) m_L_trial 14 1 6 [.ref 200, .int x0, .int x1, .ref 431] (hp I0 L0 0 0 432) (QX 1) (fun _ _ => False) := by
  refine Sp_of ok_L_trial rfl rfl ?_
  show AW (S1 6 xs) m_L_trial 14 _ _ 1 6 0 [some (.ref 200), some (.int x0), some (.int x1), some (.ref 431), none] [] (hp I0 L0 0 0 432)
  refine a_l3 rfl rfl rfl ?_
  refine a_s rfl rfl ?_
  refine a_l0 rfl rfl rfl ?_
  refine a_l1 rfl rfl rfl ?_
  refine a_l2 rfl rfl rfl ?_
  refine a_callVc rfl lL_117 mo_X11_trial h rfl rfl rfl ⟨11, _, rfl, rfl, rfl⟩ (fun v h' hv => False.elim hv) (fun E h' hx => ?_)
  obtain ⟨rfl, I, w1, w2, t, rfl, hz⟩ := hx
  refine ⟨13, _, _, _, _, 4, tk_13 rfl (by decide) (by decide), rfl, rfl, by decide, ?_⟩
  refine a_s rfl rfl ?_
  exact a_iret rfl rfl ⟨rfl, I, w1, w2, t, rfl, hz⟩
theorem op_49_1 {xs : Nat → Int32} (hb : inB (xs 1) 0 90 = false) : OpOk xs 2514 := by
  show AW (S1 6 xs) m_L_main 1050 QM XM 599770 7281900 2514 [some (.ref 199), some (.ref 200), some (.ref 420), some (.ref 431), some (.int 0), none, none] [] (hp I0 L0 0 0 432)
  refine a_l1 rfl rfl rfl ?_
  refine a_l0 rfl rfl rfl ?_
  refine a_l4 rfl rfl rfl ?_
  refine a_s rfl rfl ?_
  refine a_s rfl rfl ?_
  refine a_ialdc rfl scr_mem ⟨by decide, by decide⟩ ?_
  refine a_l0 rfl rfl rfl ?_
  refine a_l4 rfl rfl rfl ?_
  refine a_s rfl rfl ?_
  refine a_s rfl rfl ?_
  refine a_ialdc rfl scr_mem ⟨by decide, by decide⟩ ?_
  refine a_if_eq rfl (fun c2527 => ?_) (fun c2527 => ?_)
  · refine a_s rfl rfl ?_
    refine a_l3 rfl rfl rfl ?_
    refine a_callW rfl lL_310 mo_L_trial (wx_trial_1 (cx_X11_trial_x hb)) rfl rfl rfl rfl (fun v h' hv => ?_) (fun E h' hx => False.elim hx)
    obtain ⟨rfl, I, w1, w2, t, rfl, hz⟩ := hv
    refine a_s5 rfl rfl rfl rfl rfl rfl ?_
    refine a_l2 rfl rfl rfl ?_
    refine a_l0 rfl rfl rfl ?_
    refine a_l4 rfl rfl rfl ?_
    refine a_s rfl rfl ?_
    refine a_s rfl rfl ?_
    refine a_ialdc rfl scr_mem ⟨by decide, by decide⟩ ?_
    refine a_l0 rfl rfl rfl ?_
    refine a_l4 rfl rfl rfl ?_
    refine a_s rfl rfl ?_
    refine a_s rfl rfl ?_
    refine a_ialdc rfl scr_mem ⟨by decide, by decide⟩ ?_
    refine a_if_eq rfl (fun c2554 => ?_) (fun c2554 => ?_)
    · refine a_s rfl rfl ?_
      refine a_callV rfl lL_312 mo_X12_trial (rr_X12_trial_x hb I _ w1 w2 t hz) rfl rfl rfl ⟨12, _, rfl, rfl, rfl⟩ rfl (fun v h' hv => ?_) (fun E h' hx => False.elim hx)
      obtain ⟨rfl, I', L', w1', w2', t', rfl, hk, hL⟩ := hv
      refine a_s6 rfl rfl rfl rfl rfl rfl ?_
      refine a_l2 rfl rfl rfl ?_
      refine a_eV1 rfl lL_149 mo_X12_thrown (sp_X12_thrown) rfl rfl rfl ⟨12, _, rfl, rfl, rfl⟩ rfl ?_
      refine a_l5 rfl rfl rfl ?_
      refine a_ic_eq rfl (fun c2573 => ?_) (fun c => absurd (hk) c)
      refine a_l5 rfl rfl rfl ?_
      refine a_if_ne rfl (fun c2580 => ?_) (fun c => absurd c (by decide))
      refine a_goto rfl ?_
      exact fin_ok
    · refine a_s rfl rfl ?_
      refine a_goto rfl ?_
      refine a_callV rfl lL_312 mo_X12_trial (rr_X12_trial_x hb I _ w1 w2 t hz) rfl rfl rfl ⟨12, _, rfl, rfl, rfl⟩ rfl (fun v h' hv => ?_) (fun E h' hx => False.elim hx)
      obtain ⟨rfl, I', L', w1', w2', t', rfl, hk, hL⟩ := hv
      refine a_s6 rfl rfl rfl rfl rfl rfl ?_
      refine a_l2 rfl rfl rfl ?_
      refine a_eV1 rfl lL_149 mo_X12_thrown (sp_X12_thrown) rfl rfl rfl ⟨12, _, rfl, rfl, rfl⟩ rfl ?_
      refine a_l5 rfl rfl rfl ?_
      refine a_ic_eq rfl (fun c2573 => ?_) (fun c => absurd (hk) c)
      refine a_l5 rfl rfl rfl ?_
      refine a_if_ne rfl (fun c2580 => ?_) (fun c => absurd c (by decide))
      refine a_goto rfl ?_
      exact fin_ok
  · refine a_s rfl rfl ?_
    refine a_goto rfl ?_
    refine a_l3 rfl rfl rfl ?_
    refine a_callW rfl lL_310 mo_L_trial (wx_trial_1 (cx_X11_trial_x hb)) rfl rfl rfl rfl (fun v h' hv => ?_) (fun E h' hx => False.elim hx)
    obtain ⟨rfl, I, w1, w2, t, rfl, hz⟩ := hv
    refine a_s5 rfl rfl rfl rfl rfl rfl ?_
    refine a_l2 rfl rfl rfl ?_
    refine a_l0 rfl rfl rfl ?_
    refine a_l4 rfl rfl rfl ?_
    refine a_s rfl rfl ?_
    refine a_s rfl rfl ?_
    refine a_ialdc rfl scr_mem ⟨by decide, by decide⟩ ?_
    refine a_l0 rfl rfl rfl ?_
    refine a_l4 rfl rfl rfl ?_
    refine a_s rfl rfl ?_
    refine a_s rfl rfl ?_
    refine a_ialdc rfl scr_mem ⟨by decide, by decide⟩ ?_
    refine a_if_eq rfl (fun c2554 => ?_) (fun c2554 => ?_)
    · refine a_s rfl rfl ?_
      refine a_callV rfl lL_312 mo_X12_trial (rr_X12_trial_x hb I _ w1 w2 t hz) rfl rfl rfl ⟨12, _, rfl, rfl, rfl⟩ rfl (fun v h' hv => ?_) (fun E h' hx => False.elim hx)
      obtain ⟨rfl, I', L', w1', w2', t', rfl, hk, hL⟩ := hv
      refine a_s6 rfl rfl rfl rfl rfl rfl ?_
      refine a_l2 rfl rfl rfl ?_
      refine a_eV1 rfl lL_149 mo_X12_thrown (sp_X12_thrown) rfl rfl rfl ⟨12, _, rfl, rfl, rfl⟩ rfl ?_
      refine a_l5 rfl rfl rfl ?_
      refine a_ic_eq rfl (fun c2573 => ?_) (fun c => absurd (hk) c)
      refine a_l5 rfl rfl rfl ?_
      refine a_if_ne rfl (fun c2580 => ?_) (fun c => absurd c (by decide))
      refine a_goto rfl ?_
      exact fin_ok
    · refine a_s rfl rfl ?_
      refine a_goto rfl ?_
      refine a_callV rfl lL_312 mo_X12_trial (rr_X12_trial_x hb I _ w1 w2 t hz) rfl rfl rfl ⟨12, _, rfl, rfl, rfl⟩ rfl (fun v h' hv => ?_) (fun E h' hx => False.elim hx)
      obtain ⟨rfl, I', L', w1', w2', t', rfl, hk, hL⟩ := hv
      refine a_s6 rfl rfl rfl rfl rfl rfl ?_
      refine a_l2 rfl rfl rfl ?_
      refine a_eV1 rfl lL_149 mo_X12_thrown (sp_X12_thrown) rfl rfl rfl ⟨12, _, rfl, rfl, rfl⟩ rfl ?_
      refine a_l5 rfl rfl rfl ?_
      refine a_ic_eq rfl (fun c2573 => ?_) (fun c => absurd (hk) c)
      refine a_l5 rfl rfl rfl ?_
      refine a_if_ne rfl (fun c2580 => ?_) (fun c => absurd c (by decide))
      refine a_goto rfl ?_
      exact fin_ok
theorem op_49_0 {xs : Nat → Int32} {n : Nat} (hn : n ≤ 90) (e : xs 1 = nI n) (q : inB (nI n) 0 90 = true) : OpOk xs 2514 := by
  have c : ∀ x : Int32, CRet (S1 6 xs) m_X11_trial 18 [.ref 200, .int (xs 1), .int x] (some 0) := by intro x; rw [e]; exact cr_X11_trial hn q
  have r : ∀ x : Int32, RRet (S1 6 xs) m_X12_trial 16 [.ref 420, .int (xs 1), .int x] (some 0) 0 := by intro x; rw [e]; exact rr_X12_trial hn q
  show AW (S1 6 xs) m_L_main 1050 QM XM 599770 7281900 2514 [some (.ref 199), some (.ref 200), some (.ref 420), some (.ref 431), some (.int 0), none, none] [] (hp I0 L0 0 0 432)
  refine a_l1 rfl rfl rfl ?_
  refine a_l0 rfl rfl rfl ?_
  refine a_l4 rfl rfl rfl ?_
  refine a_s rfl rfl ?_
  refine a_s rfl rfl ?_
  refine a_ialdc rfl scr_mem ⟨by decide, by decide⟩ ?_
  refine a_l0 rfl rfl rfl ?_
  refine a_l4 rfl rfl rfl ?_
  refine a_s rfl rfl ?_
  refine a_s rfl rfl ?_
  refine a_ialdc rfl scr_mem ⟨by decide, by decide⟩ ?_
  refine a_if_eq rfl (fun c2527 => ?_) (fun c2527 => ?_)
  · refine a_s rfl rfl ?_
    refine a_l3 rfl rfl rfl ?_
    refine a_callW rfl lL_310 mo_L_trial (w_trial (c _)) rfl rfl rfl rfl (fun v h' hv => ?_) (fun E h' hx => False.elim hx)
    obtain ⟨rfl, I, w1, w2, t, rfl, hz⟩ := hv
    refine a_s5 rfl rfl rfl rfl rfl rfl ?_
    refine a_l2 rfl rfl rfl ?_
    refine a_l0 rfl rfl rfl ?_
    refine a_l4 rfl rfl rfl ?_
    refine a_s rfl rfl ?_
    refine a_s rfl rfl ?_
    refine a_ialdc rfl scr_mem ⟨by decide, by decide⟩ ?_
    refine a_l0 rfl rfl rfl ?_
    refine a_l4 rfl rfl rfl ?_
    refine a_s rfl rfl ?_
    refine a_s rfl rfl ?_
    refine a_ialdc rfl scr_mem ⟨by decide, by decide⟩ ?_
    refine a_if_eq rfl (fun c2554 => ?_) (fun c2554 => ?_)
    · refine a_s rfl rfl ?_
      refine a_callV rfl lL_312 mo_X12_trial (r _ I _ w1 w2 t hz) rfl rfl rfl ⟨12, _, rfl, rfl, rfl⟩ rfl (fun v h' hv => ?_) (fun E h' hx => False.elim hx)
      obtain ⟨rfl, I', L', w1', w2', t', rfl, hk, hL⟩ := hv
      refine a_s6 rfl rfl rfl rfl rfl rfl ?_
      refine a_l2 rfl rfl rfl ?_
      refine a_eV1 rfl lL_149 mo_X12_thrown (sp_X12_thrown) rfl rfl rfl ⟨12, _, rfl, rfl, rfl⟩ rfl ?_
      refine a_l5 rfl rfl rfl ?_
      refine a_ic_eq rfl (fun c2573 => ?_) (fun c => absurd (hk) c)
      refine a_l5 rfl rfl rfl ?_
      refine a_if_ne rfl (fun c => absurd c (fun z => z rfl)) (fun c2580 => ?_)
      refine a_l3 rfl rfl rfl ?_
      refine a_s rfl rfl ?_
      refine a_lald rfl (n := 1) rfl ⟨by decide, by decide⟩ ?_
      rw [hL]
      refine a_l6 rfl rfl rfl ?_
      refine a_s rfl rfl ?_
      refine a_s rfl rfl ?_
      refine a_if_eq rfl (fun c2590 => ?_) (fun c => absurd (cmp_self _) c)
      refine a_goto rfl ?_
      exact fin_ok
    · refine a_s rfl rfl ?_
      refine a_goto rfl ?_
      refine a_callV rfl lL_312 mo_X12_trial (r _ I _ w1 w2 t hz) rfl rfl rfl ⟨12, _, rfl, rfl, rfl⟩ rfl (fun v h' hv => ?_) (fun E h' hx => False.elim hx)
      obtain ⟨rfl, I', L', w1', w2', t', rfl, hk, hL⟩ := hv
      refine a_s6 rfl rfl rfl rfl rfl rfl ?_
      refine a_l2 rfl rfl rfl ?_
      refine a_eV1 rfl lL_149 mo_X12_thrown (sp_X12_thrown) rfl rfl rfl ⟨12, _, rfl, rfl, rfl⟩ rfl ?_
      refine a_l5 rfl rfl rfl ?_
      refine a_ic_eq rfl (fun c2573 => ?_) (fun c => absurd (hk) c)
      refine a_l5 rfl rfl rfl ?_
      refine a_if_ne rfl (fun c => absurd c (fun z => z rfl)) (fun c2580 => ?_)
      refine a_l3 rfl rfl rfl ?_
      refine a_s rfl rfl ?_
      refine a_lald rfl (n := 1) rfl ⟨by decide, by decide⟩ ?_
      rw [hL]
      refine a_l6 rfl rfl rfl ?_
      refine a_s rfl rfl ?_
      refine a_s rfl rfl ?_
      refine a_if_eq rfl (fun c2590 => ?_) (fun c => absurd (cmp_self _) c)
      refine a_goto rfl ?_
      exact fin_ok
  · refine a_s rfl rfl ?_
    refine a_goto rfl ?_
    refine a_l3 rfl rfl rfl ?_
    refine a_callW rfl lL_310 mo_L_trial (w_trial (c _)) rfl rfl rfl rfl (fun v h' hv => ?_) (fun E h' hx => False.elim hx)
    obtain ⟨rfl, I, w1, w2, t, rfl, hz⟩ := hv
    refine a_s5 rfl rfl rfl rfl rfl rfl ?_
    refine a_l2 rfl rfl rfl ?_
    refine a_l0 rfl rfl rfl ?_
    refine a_l4 rfl rfl rfl ?_
    refine a_s rfl rfl ?_
    refine a_s rfl rfl ?_
    refine a_ialdc rfl scr_mem ⟨by decide, by decide⟩ ?_
    refine a_l0 rfl rfl rfl ?_
    refine a_l4 rfl rfl rfl ?_
    refine a_s rfl rfl ?_
    refine a_s rfl rfl ?_
    refine a_ialdc rfl scr_mem ⟨by decide, by decide⟩ ?_
    refine a_if_eq rfl (fun c2554 => ?_) (fun c2554 => ?_)
    · refine a_s rfl rfl ?_
      refine a_callV rfl lL_312 mo_X12_trial (r _ I _ w1 w2 t hz) rfl rfl rfl ⟨12, _, rfl, rfl, rfl⟩ rfl (fun v h' hv => ?_) (fun E h' hx => False.elim hx)
      obtain ⟨rfl, I', L', w1', w2', t', rfl, hk, hL⟩ := hv
      refine a_s6 rfl rfl rfl rfl rfl rfl ?_
      refine a_l2 rfl rfl rfl ?_
      refine a_eV1 rfl lL_149 mo_X12_thrown (sp_X12_thrown) rfl rfl rfl ⟨12, _, rfl, rfl, rfl⟩ rfl ?_
      refine a_l5 rfl rfl rfl ?_
      refine a_ic_eq rfl (fun c2573 => ?_) (fun c => absurd (hk) c)
      refine a_l5 rfl rfl rfl ?_
      refine a_if_ne rfl (fun c => absurd c (fun z => z rfl)) (fun c2580 => ?_)
      refine a_l3 rfl rfl rfl ?_
      refine a_s rfl rfl ?_
      refine a_lald rfl (n := 1) rfl ⟨by decide, by decide⟩ ?_
      rw [hL]
      refine a_l6 rfl rfl rfl ?_
      refine a_s rfl rfl ?_
      refine a_s rfl rfl ?_
      refine a_if_eq rfl (fun c2590 => ?_) (fun c => absurd (cmp_self _) c)
      refine a_goto rfl ?_
      exact fin_ok
    · refine a_s rfl rfl ?_
      refine a_goto rfl ?_
      refine a_callV rfl lL_312 mo_X12_trial (r _ I _ w1 w2 t hz) rfl rfl rfl ⟨12, _, rfl, rfl, rfl⟩ rfl (fun v h' hv => ?_) (fun E h' hx => False.elim hx)
      obtain ⟨rfl, I', L', w1', w2', t', rfl, hk, hL⟩ := hv
      refine a_s6 rfl rfl rfl rfl rfl rfl ?_
      refine a_l2 rfl rfl rfl ?_
      refine a_eV1 rfl lL_149 mo_X12_thrown (sp_X12_thrown) rfl rfl rfl ⟨12, _, rfl, rfl, rfl⟩ rfl ?_
      refine a_l5 rfl rfl rfl ?_
      refine a_ic_eq rfl (fun c2573 => ?_) (fun c => absurd (hk) c)
      refine a_l5 rfl rfl rfl ?_
      refine a_if_ne rfl (fun c => absurd c (fun z => z rfl)) (fun c2580 => ?_)
      refine a_l3 rfl rfl rfl ?_
      refine a_s rfl rfl ?_
      refine a_lald rfl (n := 1) rfl ⟨by decide, by decide⟩ ?_
      rw [hL]
      refine a_l6 rfl rfl rfl ?_
      refine a_s rfl rfl ?_
      refine a_s rfl rfl ?_
      refine a_if_eq rfl (fun c2590 => ?_) (fun c => absurd (cmp_self _) c)
      refine a_goto rfl ?_
      exact fin_ok
theorem op_49 {xs : Nat → Int32} : OpOk xs 2514 := by
  cases q : inB (xs 1) 0 90 with
  | false => exact op_49_1 q
  | true =>
    have q0 : inB (xs 1) 0 (nI 90) = true := q
    obtain ⟨n, hn, e⟩ := inB_ex (b := 90) (by decide) q0
    exact op_49_0 hn e (by rw [← e]; exact q)
theorem au_X11_span_203 {S : aS} {I : Nat → Nat → Int32} {L : Nat → Nat → Int64} {w1 w2 t : Nat} {x1 x2 : Int32}  (q0 : inB x1 0 90 = false) : SpX S m_X11_span 13 [.ref 200, .int x1, .int x2] (hp I L w1 w2 t) "java/lang/IllegalArgumentException" (hp I L w1 w2 0) := by
  refine SpX_of ok_X11_span rfl rfl ?_
  show AW S m_X11_span 13 _ _ 1 6 0 [some (.ref 200), some (.int x1), some (.int x2), none, none, none] [] (hp I L w1 w2 t)
  refine a_l1 rfl rfl rfl ?_
  refine a_s rfl rfl ?_
  refine a_s rfl rfl ?_
  exact a_xS rfl lX11_250 mo_X11_needNumber (spx_needNumber (q0)) rfl rfl rfl rfl ⟨rfl, rfl⟩
theorem cx_X11_span_x {S : aS} {x0 x1 : Int32} (q : inB x0 0 90 = false) : CThr S m_X11_span 13 [.ref 200, .int x0, .int x1] "java/lang/IllegalArgumentException" := CThr.of (au_X11_span_203  (q))
theorem au_X12_span_204 {S : aS} {I : Nat → Nat → Int32} {L : Nat → Nat → Int64} {w1 w2 t : Nat} {x1 x2 : Int32}  (q0 : inB x1 0 90 = false) : SpE S m_X12_span 14 [.ref 420, .int x1, .int x2] (hp I L w1 w2 t) (some (.int 0)) (hp (up2 (up2 I 420 0 0) 420 0 1) L w1 w2 t) := by
  refine SpE_of ok_X12_span rfl rfl ?_
  show AW S m_X12_span 14 _ _ 0 0 0 [some (.ref 420), some (.int x1), some (.int x2), none, none, none] [] (hp I L w1 w2 t)
  refine a_l0 rfl rfl rfl ?_
  refine a_s rfl rfl ?_
  refine a_puti rfl pfX12_3_12 rfl ?_
  refine a_l0 rfl rfl rfl ?_
  refine a_l1 rfl rfl rfl ?_
  refine a_eS1 rfl lX12_392 mo_X12_noDays (au_X12_noDays_201  (q0)) rfl rfl rfl rfl ?_
  refine a_s rfl rfl ?_
  refine a_eV1 rfl lX12_243 mo_X12_throwsIf (au_X12_throwsIf_87  ) rfl rfl rfl ⟨12, _, rfl, rfl, rfl⟩ rfl ?_
  refine a_if_eq rfl (fun c => absurd c (by decide)) (fun c14 => ?_)
  refine a_s rfl rfl ?_
  exact a_iret rfl rfl ⟨rfl, rfl⟩
theorem rr_X12_span_x {S : aS} {x0 x1 : Int32} (q : inB x0 0 90 = false) : RRet S m_X12_span 14 [.ref 420, .int x0, .int x1] (some 0) 1 := RRet.of (fun I => up2 (up2 I 420 0 0) 420 0 1) (fun I L w1 w2 t hz => au_X12_span_204  (q)) (fun I hz => rfl)
theorem w_span {S : aS} {x0 x1 : Int32} {r : Int32} (h : CRet S m_X11_span 18 [.ref 200, .int x0, .int x1] (some r)) : Sp S m_L_span 19 0 0 [.ref 200, .int x0, .int x1, .ref 431] (hp I0 L0 0 0 432) (QW r) (fun _ _ => False) := by
  refine Sp_of ok_L_span rfl rfl ?_
  show AW S m_L_span 19 _ _ 0 0 0 [some (.ref 200), some (.int x0), some (.int x1), some (.ref 431), none] [] (hp I0 L0 0 0 432)
  refine a_l3 rfl rfl rfl ?_
  refine a_s rfl rfl ?_
  refine a_l0 rfl rfl rfl ?_
  refine a_l1 rfl rfl rfl ?_
  refine a_l2 rfl rfl rfl ?_
  refine a_callVc rfl lL_120 mo_X11_span h rfl rfl rfl ⟨11, _, rfl, rfl, rfl⟩ (fun v h' hv => ?_) (fun E h' hx => False.elim hx)
  obtain ⟨rfl, I, w1, w2, t, rfl, hz⟩ := hv
  refine a_s rfl rfl ?_
  refine a_last rfl (n := 1) rfl ⟨by decide, by decide⟩ ?_
  refine a_goto rfl ?_
  refine a_s rfl rfl ?_
  exact a_iret rfl rfl ⟨rfl, I, w1, w2, t, rfl, hz⟩
theorem wx_span_1 {xs : Nat → Int32} {x0 x1 : Int32} (h : CThr (S1 6 xs) m_X11_span 13 [.ref 200, .int x0, .int x1] "java/lang/IllegalArgumentException") : Sp (S1 6 xs) m_L_span 14 1 6 [.ref 200, .int x0, .int x1, .ref 431] (hp I0 L0 0 0 432) (QX 1) (fun _ _ => False) := by
  refine Sp_of ok_L_span rfl rfl ?_
  show AW (S1 6 xs) m_L_span 14 _ _ 1 6 0 [some (.ref 200), some (.int x0), some (.int x1), some (.ref 431), none] [] (hp I0 L0 0 0 432)
  refine a_l3 rfl rfl rfl ?_
  refine a_s rfl rfl ?_
  refine a_l0 rfl rfl rfl ?_
  refine a_l1 rfl rfl rfl ?_
  refine a_l2 rfl rfl rfl ?_
  refine a_callVc rfl lL_120 mo_X11_span h rfl rfl rfl ⟨11, _, rfl, rfl, rfl⟩ (fun v h' hv => False.elim hv) (fun E h' hx => ?_)
  obtain ⟨rfl, I, w1, w2, t, rfl, hz⟩ := hx
  refine ⟨13, _, _, _, _, 4, tk_13 rfl (by decide) (by decide), rfl, rfl, by decide, ?_⟩
  refine a_s rfl rfl ?_
  exact a_iret rfl rfl ⟨rfl, I, w1, w2, t, rfl, hz⟩
theorem op_50_1 {xs : Nat → Int32} (hb : inB (xs 1) 0 90 = false) : OpOk xs 2598 := by
  show AW (S1 6 xs) m_L_main 1050 QM XM 599770 7281900 2598 [some (.ref 199), some (.ref 200), some (.ref 420), some (.ref 431), some (.int 0), none, none] [] (hp I0 L0 0 0 432)
  refine a_l1 rfl rfl rfl ?_
  refine a_l0 rfl rfl rfl ?_
  refine a_l4 rfl rfl rfl ?_
  refine a_s rfl rfl ?_
  refine a_s rfl rfl ?_
  refine a_ialdc rfl scr_mem ⟨by decide, by decide⟩ ?_
  refine a_l0 rfl rfl rfl ?_
  refine a_l4 rfl rfl rfl ?_
  refine a_s rfl rfl ?_
  refine a_s rfl rfl ?_
  refine a_ialdc rfl scr_mem ⟨by decide, by decide⟩ ?_
  refine a_if_eq rfl (fun c2611 => ?_) (fun c2611 => ?_)
  · refine a_s rfl rfl ?_
    refine a_l3 rfl rfl rfl ?_
    refine a_callW rfl lL_313 mo_L_span (wx_span_1 (cx_X11_span_x hb)) rfl rfl rfl rfl (fun v h' hv => ?_) (fun E h' hx => False.elim hx)
    obtain ⟨rfl, I, w1, w2, t, rfl, hz⟩ := hv
    refine a_s5 rfl rfl rfl rfl rfl rfl ?_
    refine a_l2 rfl rfl rfl ?_
    refine a_l0 rfl rfl rfl ?_
    refine a_l4 rfl rfl rfl ?_
    refine a_s rfl rfl ?_
    refine a_s rfl rfl ?_
    refine a_ialdc rfl scr_mem ⟨by decide, by decide⟩ ?_
    refine a_l0 rfl rfl rfl ?_
    refine a_l4 rfl rfl rfl ?_
    refine a_s rfl rfl ?_
    refine a_s rfl rfl ?_
    refine a_ialdc rfl scr_mem ⟨by decide, by decide⟩ ?_
    refine a_if_eq rfl (fun c2638 => ?_) (fun c2638 => ?_)
    · refine a_s rfl rfl ?_
      refine a_callV rfl lL_315 mo_X12_span (rr_X12_span_x hb I _ w1 w2 t hz) rfl rfl rfl ⟨12, _, rfl, rfl, rfl⟩ rfl (fun v h' hv => ?_) (fun E h' hx => False.elim hx)
      obtain ⟨rfl, I', L', w1', w2', t', rfl, hk, hL⟩ := hv
      refine a_s6 rfl rfl rfl rfl rfl rfl ?_
      refine a_l2 rfl rfl rfl ?_
      refine a_eV1 rfl lL_149 mo_X12_thrown (sp_X12_thrown) rfl rfl rfl ⟨12, _, rfl, rfl, rfl⟩ rfl ?_
      refine a_l5 rfl rfl rfl ?_
      refine a_ic_eq rfl (fun c2657 => ?_) (fun c => absurd (hk) c)
      refine a_l5 rfl rfl rfl ?_
      refine a_if_ne rfl (fun c2664 => ?_) (fun c => absurd c (by decide))
      refine a_goto rfl ?_
      exact fin_ok
    · refine a_s rfl rfl ?_
      refine a_goto rfl ?_
      refine a_callV rfl lL_315 mo_X12_span (rr_X12_span_x hb I _ w1 w2 t hz) rfl rfl rfl ⟨12, _, rfl, rfl, rfl⟩ rfl (fun v h' hv => ?_) (fun E h' hx => False.elim hx)
      obtain ⟨rfl, I', L', w1', w2', t', rfl, hk, hL⟩ := hv
      refine a_s6 rfl rfl rfl rfl rfl rfl ?_
      refine a_l2 rfl rfl rfl ?_
      refine a_eV1 rfl lL_149 mo_X12_thrown (sp_X12_thrown) rfl rfl rfl ⟨12, _, rfl, rfl, rfl⟩ rfl ?_
      refine a_l5 rfl rfl rfl ?_
      refine a_ic_eq rfl (fun c2657 => ?_) (fun c => absurd (hk) c)
      refine a_l5 rfl rfl rfl ?_
      refine a_if_ne rfl (fun c2664 => ?_) (fun c => absurd c (by decide))
      refine a_goto rfl ?_
      exact fin_ok
  · refine a_s rfl rfl ?_
    refine a_goto rfl ?_
    refine a_l3 rfl rfl rfl ?_
    refine a_callW rfl lL_313 mo_L_span (wx_span_1 (cx_X11_span_x hb)) rfl rfl rfl rfl (fun v h' hv => ?_) (fun E h' hx => False.elim hx)
    obtain ⟨rfl, I, w1, w2, t, rfl, hz⟩ := hv
    refine a_s5 rfl rfl rfl rfl rfl rfl ?_
    refine a_l2 rfl rfl rfl ?_
    refine a_l0 rfl rfl rfl ?_
    refine a_l4 rfl rfl rfl ?_
    refine a_s rfl rfl ?_
    refine a_s rfl rfl ?_
    refine a_ialdc rfl scr_mem ⟨by decide, by decide⟩ ?_
    refine a_l0 rfl rfl rfl ?_
    refine a_l4 rfl rfl rfl ?_
    refine a_s rfl rfl ?_
    refine a_s rfl rfl ?_
    refine a_ialdc rfl scr_mem ⟨by decide, by decide⟩ ?_
    refine a_if_eq rfl (fun c2638 => ?_) (fun c2638 => ?_)
    · refine a_s rfl rfl ?_
      refine a_callV rfl lL_315 mo_X12_span (rr_X12_span_x hb I _ w1 w2 t hz) rfl rfl rfl ⟨12, _, rfl, rfl, rfl⟩ rfl (fun v h' hv => ?_) (fun E h' hx => False.elim hx)
      obtain ⟨rfl, I', L', w1', w2', t', rfl, hk, hL⟩ := hv
      refine a_s6 rfl rfl rfl rfl rfl rfl ?_
      refine a_l2 rfl rfl rfl ?_
      refine a_eV1 rfl lL_149 mo_X12_thrown (sp_X12_thrown) rfl rfl rfl ⟨12, _, rfl, rfl, rfl⟩ rfl ?_
      refine a_l5 rfl rfl rfl ?_
      refine a_ic_eq rfl (fun c2657 => ?_) (fun c => absurd (hk) c)
      refine a_l5 rfl rfl rfl ?_
      refine a_if_ne rfl (fun c2664 => ?_) (fun c => absurd c (by decide))
      refine a_goto rfl ?_
      exact fin_ok
    · refine a_s rfl rfl ?_
      refine a_goto rfl ?_
      refine a_callV rfl lL_315 mo_X12_span (rr_X12_span_x hb I _ w1 w2 t hz) rfl rfl rfl ⟨12, _, rfl, rfl, rfl⟩ rfl (fun v h' hv => ?_) (fun E h' hx => False.elim hx)
      obtain ⟨rfl, I', L', w1', w2', t', rfl, hk, hL⟩ := hv
      refine a_s6 rfl rfl rfl rfl rfl rfl ?_
      refine a_l2 rfl rfl rfl ?_
      refine a_eV1 rfl lL_149 mo_X12_thrown (sp_X12_thrown) rfl rfl rfl ⟨12, _, rfl, rfl, rfl⟩ rfl ?_
      refine a_l5 rfl rfl rfl ?_
      refine a_ic_eq rfl (fun c2657 => ?_) (fun c => absurd (hk) c)
      refine a_l5 rfl rfl rfl ?_
      refine a_if_ne rfl (fun c2664 => ?_) (fun c => absurd c (by decide))
      refine a_goto rfl ?_
      exact fin_ok
theorem op_50_0 {xs : Nat → Int32} {n : Nat} (hn : n ≤ 90) (e : xs 1 = nI n) (q : inB (nI n) 0 90 = true) : OpOk xs 2598 := by
  have c : ∀ x : Int32, CRet (S1 6 xs) m_X11_span 18 [.ref 200, .int (xs 1), .int x] (some 0) := by intro x; rw [e]; exact cr_X11_span hn q
  have r : ∀ x : Int32, RRet (S1 6 xs) m_X12_span 16 [.ref 420, .int (xs 1), .int x] (some 0) 0 := by intro x; rw [e]; exact rr_X12_span hn q
  show AW (S1 6 xs) m_L_main 1050 QM XM 599770 7281900 2598 [some (.ref 199), some (.ref 200), some (.ref 420), some (.ref 431), some (.int 0), none, none] [] (hp I0 L0 0 0 432)
  refine a_l1 rfl rfl rfl ?_
  refine a_l0 rfl rfl rfl ?_
  refine a_l4 rfl rfl rfl ?_
  refine a_s rfl rfl ?_
  refine a_s rfl rfl ?_
  refine a_ialdc rfl scr_mem ⟨by decide, by decide⟩ ?_
  refine a_l0 rfl rfl rfl ?_
  refine a_l4 rfl rfl rfl ?_
  refine a_s rfl rfl ?_
  refine a_s rfl rfl ?_
  refine a_ialdc rfl scr_mem ⟨by decide, by decide⟩ ?_
  refine a_if_eq rfl (fun c2611 => ?_) (fun c2611 => ?_)
  · refine a_s rfl rfl ?_
    refine a_l3 rfl rfl rfl ?_
    refine a_callW rfl lL_313 mo_L_span (w_span (c _)) rfl rfl rfl rfl (fun v h' hv => ?_) (fun E h' hx => False.elim hx)
    obtain ⟨rfl, I, w1, w2, t, rfl, hz⟩ := hv
    refine a_s5 rfl rfl rfl rfl rfl rfl ?_
    refine a_l2 rfl rfl rfl ?_
    refine a_l0 rfl rfl rfl ?_
    refine a_l4 rfl rfl rfl ?_
    refine a_s rfl rfl ?_
    refine a_s rfl rfl ?_
    refine a_ialdc rfl scr_mem ⟨by decide, by decide⟩ ?_
    refine a_l0 rfl rfl rfl ?_
    refine a_l4 rfl rfl rfl ?_
    refine a_s rfl rfl ?_
    refine a_s rfl rfl ?_
    refine a_ialdc rfl scr_mem ⟨by decide, by decide⟩ ?_
    refine a_if_eq rfl (fun c2638 => ?_) (fun c2638 => ?_)
    · refine a_s rfl rfl ?_
      refine a_callV rfl lL_315 mo_X12_span (r _ I _ w1 w2 t hz) rfl rfl rfl ⟨12, _, rfl, rfl, rfl⟩ rfl (fun v h' hv => ?_) (fun E h' hx => False.elim hx)
      obtain ⟨rfl, I', L', w1', w2', t', rfl, hk, hL⟩ := hv
      refine a_s6 rfl rfl rfl rfl rfl rfl ?_
      refine a_l2 rfl rfl rfl ?_
      refine a_eV1 rfl lL_149 mo_X12_thrown (sp_X12_thrown) rfl rfl rfl ⟨12, _, rfl, rfl, rfl⟩ rfl ?_
      refine a_l5 rfl rfl rfl ?_
      refine a_ic_eq rfl (fun c2657 => ?_) (fun c => absurd (hk) c)
      refine a_l5 rfl rfl rfl ?_
      refine a_if_ne rfl (fun c => absurd c (fun z => z rfl)) (fun c2664 => ?_)
      refine a_l3 rfl rfl rfl ?_
      refine a_s rfl rfl ?_
      refine a_lald rfl (n := 1) rfl ⟨by decide, by decide⟩ ?_
      rw [hL]
      refine a_l6 rfl rfl rfl ?_
      refine a_s rfl rfl ?_
      refine a_s rfl rfl ?_
      refine a_if_eq rfl (fun c2674 => ?_) (fun c => absurd (cmp_self _) c)
      refine a_goto rfl ?_
      exact fin_ok
    · refine a_s rfl rfl ?_
      refine a_goto rfl ?_
      refine a_callV rfl lL_315 mo_X12_span (r _ I _ w1 w2 t hz) rfl rfl rfl ⟨12, _, rfl, rfl, rfl⟩ rfl (fun v h' hv => ?_) (fun E h' hx => False.elim hx)
      obtain ⟨rfl, I', L', w1', w2', t', rfl, hk, hL⟩ := hv
      refine a_s6 rfl rfl rfl rfl rfl rfl ?_
      refine a_l2 rfl rfl rfl ?_
      refine a_eV1 rfl lL_149 mo_X12_thrown (sp_X12_thrown) rfl rfl rfl ⟨12, _, rfl, rfl, rfl⟩ rfl ?_
      refine a_l5 rfl rfl rfl ?_
      refine a_ic_eq rfl (fun c2657 => ?_) (fun c => absurd (hk) c)
      refine a_l5 rfl rfl rfl ?_
      refine a_if_ne rfl (fun c => absurd c (fun z => z rfl)) (fun c2664 => ?_)
      refine a_l3 rfl rfl rfl ?_
      refine a_s rfl rfl ?_
      refine a_lald rfl (n := 1) rfl ⟨by decide, by decide⟩ ?_
      rw [hL]
      refine a_l6 rfl rfl rfl ?_
      refine a_s rfl rfl ?_
      refine a_s rfl rfl ?_
      refine a_if_eq rfl (fun c2674 => ?_) (fun c => absurd (cmp_self _) c)
      refine a_goto rfl ?_
      exact fin_ok
  · refine a_s rfl rfl ?_
    refine a_goto rfl ?_
    refine a_l3 rfl rfl rfl ?_
    refine a_callW rfl lL_313 mo_L_span (w_span (c _)) rfl rfl rfl rfl (fun v h' hv => ?_) (fun E h' hx => False.elim hx)
    obtain ⟨rfl, I, w1, w2, t, rfl, hz⟩ := hv
    refine a_s5 rfl rfl rfl rfl rfl rfl ?_
    refine a_l2 rfl rfl rfl ?_
    refine a_l0 rfl rfl rfl ?_
    refine a_l4 rfl rfl rfl ?_
    refine a_s rfl rfl ?_
    refine a_s rfl rfl ?_
    refine a_ialdc rfl scr_mem ⟨by decide, by decide⟩ ?_
    refine a_l0 rfl rfl rfl ?_
    refine a_l4 rfl rfl rfl ?_
    refine a_s rfl rfl ?_
    refine a_s rfl rfl ?_
    refine a_ialdc rfl scr_mem ⟨by decide, by decide⟩ ?_
    refine a_if_eq rfl (fun c2638 => ?_) (fun c2638 => ?_)
    · refine a_s rfl rfl ?_
      refine a_callV rfl lL_315 mo_X12_span (r _ I _ w1 w2 t hz) rfl rfl rfl ⟨12, _, rfl, rfl, rfl⟩ rfl (fun v h' hv => ?_) (fun E h' hx => False.elim hx)
      obtain ⟨rfl, I', L', w1', w2', t', rfl, hk, hL⟩ := hv
      refine a_s6 rfl rfl rfl rfl rfl rfl ?_
      refine a_l2 rfl rfl rfl ?_
      refine a_eV1 rfl lL_149 mo_X12_thrown (sp_X12_thrown) rfl rfl rfl ⟨12, _, rfl, rfl, rfl⟩ rfl ?_
      refine a_l5 rfl rfl rfl ?_
      refine a_ic_eq rfl (fun c2657 => ?_) (fun c => absurd (hk) c)
      refine a_l5 rfl rfl rfl ?_
      refine a_if_ne rfl (fun c => absurd c (fun z => z rfl)) (fun c2664 => ?_)
      refine a_l3 rfl rfl rfl ?_
      refine a_s rfl rfl ?_
      refine a_lald rfl (n := 1) rfl ⟨by decide, by decide⟩ ?_
      rw [hL]
      refine a_l6 rfl rfl rfl ?_
      refine a_s rfl rfl ?_
      refine a_s rfl rfl ?_
      refine a_if_eq rfl (fun c2674 => ?_) (fun c => absurd (cmp_self _) c)
      refine a_goto rfl ?_
      exact fin_ok
    · refine a_s rfl rfl ?_
      refine a_goto rfl ?_
      refine a_callV rfl lL_315 mo_X12_span (r _ I _ w1 w2 t hz) rfl rfl rfl ⟨12, _, rfl, rfl, rfl⟩ rfl (fun v h' hv => ?_) (fun E h' hx => False.elim hx)
      obtain ⟨rfl, I', L', w1', w2', t', rfl, hk, hL⟩ := hv
      refine a_s6 rfl rfl rfl rfl rfl rfl ?_
      refine a_l2 rfl rfl rfl ?_
      refine a_eV1 rfl lL_149 mo_X12_thrown (sp_X12_thrown) rfl rfl rfl ⟨12, _, rfl, rfl, rfl⟩ rfl ?_
      refine a_l5 rfl rfl rfl ?_
      refine a_ic_eq rfl (fun c2657 => ?_) (fun c => absurd (hk) c)
      refine a_l5 rfl rfl rfl ?_
      refine a_if_ne rfl (fun c => absurd c (fun z => z rfl)) (fun c2664 => ?_)
      refine a_l3 rfl rfl rfl ?_
      refine a_s rfl rfl ?_
      refine a_lald rfl (n := 1) rfl ⟨by decide, by decide⟩ ?_
      rw [hL]
      refine a_l6 rfl rfl rfl ?_
      refine a_s rfl rfl ?_
      refine a_s rfl rfl ?_
      refine a_if_eq rfl (fun c2674 => ?_) (fun c => absurd (cmp_self _) c)
      refine a_goto rfl ?_
      exact fin_ok
theorem op_50 {xs : Nat → Int32} : OpOk xs 2598 := by
  cases q : inB (xs 1) 0 90 with
  | false => exact op_50_1 q
  | true =>
    have q0 : inB (xs 1) 0 (nI 90) = true := q
    obtain ⟨n, hn, e⟩ := inB_ex (b := 90) (by decide) q0
    exact op_50_0 hn e (by rw [← e]; exact q)
