/-! ===== street and law on the fresh heap: nothing on the tape ===== -/
set_option maxRecDepth 100000
theorem dc_readLines {S : aS} : ∀ (G : aG) (s : State), SW S G s → va_Decl s ⟨RX8, "readLines", "(LPutOffParade$Tape;)I"⟩ := fun G s hS => va_Decl.of (args := #[]) (gT_ok hS _ (inT_gT (inC3 (i := 213) rfl rfl))) (gT_ok hS _ (inT_gT (inC3 (i := 214) rfl rfl)))
theorem lu_82 : ∀ z ∈ [Cond.methodLink RX11 82 ⟨RX6, "readLines", "(LPutOffParade$Tape;)I"⟩, .sameMethod RX6 RX8 "readLines" "(LPutOffParade$Tape;)I", .selects RX6 ⟨RX6, "readLines", "(LPutOffParade$Tape;)I"⟩ m_X8_readLines.1, .instanceMethod m_X8_readLines.1], inT z := all4 (inC3 (i := 209) rfl rfl) (inC3 (i := 210) rfl rfl) (inC3 (i := 212) rfl rfl) (inC3 (i := 213) rfl rfl)
theorem lu_103 : ∀ z ∈ [Cond.methodLink RX11 103 ⟨RX3, "readLines", "(LPutOffParade$Tape;)I"⟩, .sameMethod RX3 RX8 "readLines" "(LPutOffParade$Tape;)I", .selects RX3 ⟨RX3, "readLines", "(LPutOffParade$Tape;)I"⟩ m_X8_readLines.1, .instanceMethod m_X8_readLines.1], inT z := all4 (inC5 (i := 81) rfl rfl) (inC5 (i := 82) rfl rfl) (inC5 (i := 83) rfl rfl) (inC3 (i := 213) rfl rfl)
theorem hx_rl : RX8 ≠ "java/lang/invoke/MethodHandle" ∧ RX8 ≠ "java/lang/invoke/VarHandle" ∧ (parseMethodDescriptor "(LPutOffParade$Tape;)I").map (fun d => d.parameters.length) = some 1 := by decide +kernel
theorem nI_addl (a j : Nat) : nI a + nI j = nI (a + j) := by
  induction j with
  | zero => rw [nI_0, Int32.add_zero]; rfl
  | succ j ih => rw [nI_succ, ← Int32.add_assoc, ih, ← nI_succ]; rfl
theorem I0_235_16 : I0 235 16 = 0 := by decide +kernel
theorem au_X11_setAt_38 {S : aS} {I : Nat → Nat → Int32} {L : Nat → Nat → Int64} {w1 w2 t : Nat}   : SpE S m_X11_setAt 12 [.ref 205, .int 0, .int 0] (hp I L w1 w2 t) none (hp (up2 I 205 0 0) L w1 w2 t) := by
  refine SpE_of ok_X11_setAt rfl rfl ?_
  show AW S m_X11_setAt 12 _ _ 0 0 0 [some (.ref 205), some (.int 0), some (.int 0)] [] (hp I L w1 w2 t)
  refine a_l1 rfl rfl rfl ?_
  refine a_if_lt rfl (fun c => absurd c (by decide)) (fun c1 => ?_)
  refine a_l1 rfl rfl rfl ?_
  refine a_l0 rfl rfl rfl ?_
  refine a_len (x := 401) rfl rfl rfl (by decide) ?_
  refine a_ic_ge rfl (fun c => absurd c (by decide)) (fun c7 => ?_)
  refine a_l0 rfl rfl rfl ?_
  refine a_l1 rfl rfl rfl ?_
  refine a_l2 rfl rfl rfl ?_
  refine a_iastv (k := 0) rfl (n := 401) rfl ⟨by decide, by decide⟩ (by decide) ?_
  exact a_vret rfl rfl ⟨rfl, rfl⟩
theorem au_X11_setAt_39 {S : aS} {I : Nat → Nat → Int32} {L : Nat → Nat → Int64} {w1 w2 t : Nat}   : SpE S m_X11_setAt 12 [.ref 206, .int 0, .int 0] (hp I L w1 w2 t) none (hp (up2 I 206 0 0) L w1 w2 t) := by
  refine SpE_of ok_X11_setAt rfl rfl ?_
  show AW S m_X11_setAt 12 _ _ 0 0 0 [some (.ref 206), some (.int 0), some (.int 0)] [] (hp I L w1 w2 t)
  refine a_l1 rfl rfl rfl ?_
  refine a_if_lt rfl (fun c => absurd c (by decide)) (fun c1 => ?_)
  refine a_l1 rfl rfl rfl ?_
  refine a_l0 rfl rfl rfl ?_
  refine a_len (x := 401) rfl rfl rfl (by decide) ?_
  refine a_ic_ge rfl (fun c => absurd c (by decide)) (fun c7 => ?_)
  refine a_l0 rfl rfl rfl ?_
  refine a_l1 rfl rfl rfl ?_
  refine a_l2 rfl rfl rfl ?_
  refine a_iastv (k := 0) rfl (n := 401) rfl ⟨by decide, by decide⟩ (by decide) ?_
  exact a_vret rfl rfl ⟨rfl, rfl⟩
theorem au_X11_setAt_40 {S : aS} {I : Nat → Nat → Int32} {L : Nat → Nat → Int64} {w1 w2 t : Nat}   : SpE S m_X11_setAt 12 [.ref 207, .int 0, .int 0] (hp I L w1 w2 t) none (hp (up2 I 207 0 0) L w1 w2 t) := by
  refine SpE_of ok_X11_setAt rfl rfl ?_
  show AW S m_X11_setAt 12 _ _ 0 0 0 [some (.ref 207), some (.int 0), some (.int 0)] [] (hp I L w1 w2 t)
  refine a_l1 rfl rfl rfl ?_
  refine a_if_lt rfl (fun c => absurd c (by decide)) (fun c1 => ?_)
  refine a_l1 rfl rfl rfl ?_
  refine a_l0 rfl rfl rfl ?_
  refine a_len (x := 401) rfl rfl rfl (by decide) ?_
  refine a_ic_ge rfl (fun c => absurd c (by decide)) (fun c7 => ?_)
  refine a_l0 rfl rfl rfl ?_
  refine a_l1 rfl rfl rfl ?_
  refine a_l2 rfl rfl rfl ?_
  refine a_iastv (k := 0) rfl (n := 401) rfl ⟨by decide, by decide⟩ (by decide) ?_
  exact a_vret rfl rfl ⟨rfl, rfl⟩
theorem au_X9_open_41 {S : aS} {I : Nat → Nat → Int32} {L : Nat → Nat → Int64} {w1 w2 t : Nat} (h204_4 : I 204 4 = 0)  : SpE S m_X9_open 13 [.ref 204, .int 0, .int 0] (hp I L w1 w2 t) none (hp (up2 (up2 (up2 (up2 I 205 0 0) 206 0 0) 207 0 0) 204 4 1) L w1 w2 t) := by
  refine SpE_of ok_X9_open rfl rfl ?_
  show AW S m_X9_open 13 _ _ 0 0 0 [some (.ref 204), some (.int 0), some (.int 0)] [] (hp I L w1 w2 t)
  refine a_l0 rfl rfl rfl ?_
  refine a_getq rfl gfX9_9_9 rfl rfl ?_
  refine a_l0 rfl rfl rfl ?_
  refine a_getiv (v := 0) rfl gfX9_24_9 rfl h204_4 ?_
  refine a_l1 rfl rfl rfl ?_
  refine a_eSN0 rfl lX9_44 mo_X11_setAt (au_X11_setAt_38  ) rfl rfl rfl rfl ?_
  refine a_l0 rfl rfl rfl ?_
  refine a_getq rfl gfX9_15_9 rfl rfl ?_
  refine a_l0 rfl rfl rfl ?_
  refine a_getiv (v := 0) rfl gfX9_24_9 rfl h204_4 ?_
  refine a_l2 rfl rfl rfl ?_
  refine a_eSN0 rfl lX9_44 mo_X11_setAt (au_X11_setAt_39  ) rfl rfl rfl rfl ?_
  refine a_l0 rfl rfl rfl ?_
  refine a_getq rfl gfX9_18_9 rfl rfl ?_
  refine a_l0 rfl rfl rfl ?_
  refine a_getiv (v := 0) rfl gfX9_24_9 rfl h204_4 ?_
  refine a_l2 rfl rfl rfl ?_
  refine a_eSN0 rfl lX9_44 mo_X11_setAt (au_X11_setAt_40  ) rfl rfl rfl rfl ?_
  refine a_l0 rfl rfl rfl ?_
  refine a_s rfl rfl ?_
  refine a_getiv (v := 0) rfl gfX9_24_9 rfl h204_4 ?_
  refine a_s rfl rfl ?_
  refine a_s rfl rfl ?_
  refine a_top (y := 1) (by decide) ?_
  refine a_puti rfl pfX9_24_9 rfl ?_
  exact a_vret rfl rfl ⟨rfl, rfl⟩
theorem au_X11_at_42 {S : aS} {I : Nat → Nat → Int32} {L : Nat → Nat → Int64} {w1 w2 t : Nat} (h205_0 : I 205 0 = 0)  : SpE S m_X11_at 12 [.ref 205, .int 0] (hp I L w1 w2 t) (some (.int 0)) (hp I L w1 w2 t) := by
  refine SpE_of ok_X11_at rfl rfl ?_
  show AW S m_X11_at 12 _ _ 0 0 0 [some (.ref 205), some (.int 0)] [] (hp I L w1 w2 t)
  refine a_l1 rfl rfl rfl ?_
  refine a_if_lt rfl (fun c => absurd c (by decide)) (fun c1 => ?_)
  refine a_l1 rfl rfl rfl ?_
  refine a_l0 rfl rfl rfl ?_
  refine a_len (x := 401) rfl rfl rfl (by decide) ?_
  refine a_ic_ge rfl (fun c => absurd c (by decide)) (fun c7 => ?_)
  refine a_l0 rfl rfl rfl ?_
  refine a_l1 rfl rfl rfl ?_
  refine a_ialdv (v := 0) rfl (n := 401) rfl ⟨by decide, by decide⟩ h205_0 ?_
  refine a_goto rfl ?_
  exact a_iret rfl rfl ⟨rfl, rfl⟩
theorem au_X11_at_43 {S : aS} {I : Nat → Nat → Int32} {L : Nat → Nat → Int64} {w1 w2 t : Nat} (h206_0 : I 206 0 = 0)  : SpE S m_X11_at 12 [.ref 206, .int 0] (hp I L w1 w2 t) (some (.int 0)) (hp I L w1 w2 t) := by
  refine SpE_of ok_X11_at rfl rfl ?_
  show AW S m_X11_at 12 _ _ 0 0 0 [some (.ref 206), some (.int 0)] [] (hp I L w1 w2 t)
  refine a_l1 rfl rfl rfl ?_
  refine a_if_lt rfl (fun c => absurd c (by decide)) (fun c1 => ?_)
  refine a_l1 rfl rfl rfl ?_
  refine a_l0 rfl rfl rfl ?_
  refine a_len (x := 401) rfl rfl rfl (by decide) ?_
  refine a_ic_ge rfl (fun c => absurd c (by decide)) (fun c7 => ?_)
  refine a_l0 rfl rfl rfl ?_
  refine a_l1 rfl rfl rfl ?_
  refine a_ialdv (v := 0) rfl (n := 401) rfl ⟨by decide, by decide⟩ h206_0 ?_
  refine a_goto rfl ?_
  exact a_iret rfl rfl ⟨rfl, rfl⟩
theorem au_X7_byteAt_44 {S : aS} {I : Nat → Nat → Int32} {L : Nat → Nat → Int64} {w1 w2 t : Nat} (h201_1 : I 201 1 = 0)  : SpE S m_X7_byteAt 12 [.ref 201, .int 0] (hp I L w1 w2 t) (some (.int (-1))) (hp I L w1 w2 t) := by
  refine SpE_of ok_X7_byteAt rfl rfl ?_
  show AW S m_X7_byteAt 12 _ _ 0 0 0 [some (.ref 201), some (.int 0)] [] (hp I L w1 w2 t)
  refine a_l1 rfl rfl rfl ?_
  refine a_if_lt rfl (fun c => absurd c (by decide)) (fun c1 => ?_)
  refine a_l1 rfl rfl rfl ?_
  refine a_l0 rfl rfl rfl ?_
  refine a_getiv (v := 0) rfl gfX7_15_7 rfl h201_1 ?_
  refine a_ic_ge rfl (fun c9 => ?_) (fun c => absurd (by decide) c)
  refine a_s rfl rfl ?_
  exact a_iret rfl rfl ⟨rfl, rfl⟩
theorem au_X9_valueOf_45 {S : aS} {I : Nat → Nat → Int32} {L : Nat → Nat → Int64} {w1 w2 t : Nat} (h205_0 : I 205 0 = 0) (h206_0 : I 206 0 = 0) (h201_1 : I 201 1 = 0)  : SpE S m_X9_valueOf 13 [.ref 204, .ref 201, .int 0] (hp I L w1 w2 t) (some (.int (-1))) (hp I L w1 w2 t) := by
  refine SpE_of ok_X9_valueOf rfl rfl ?_
  show AW S m_X9_valueOf 13 _ _ 0 0 0 [some (.ref 204), some (.ref 201), some (.int 0)] [] (hp I L w1 w2 t)
  refine a_l0 rfl rfl rfl ?_
  refine a_getq rfl gfX9_9_9 rfl rfl ?_
  refine a_l2 rfl rfl rfl ?_
  refine a_eSN1 rfl lX9_58 mo_X11_at (au_X11_at_42 h205_0 ) rfl rfl rfl rfl ?_
  refine a_lsw (tg := 50) rfl (by decide) (by decide) ?_
  refine a_l1 rfl rfl rfl ?_
  refine a_l0 rfl rfl rfl ?_
  refine a_getq rfl gfX9_15_9 rfl rfl ?_
  refine a_l2 rfl rfl rfl ?_
  refine a_eSN1 rfl lX9_58 mo_X11_at (au_X11_at_43 h206_0 ) rfl rfl rfl rfl ?_
  refine a_eV1 rfl lX9_33 mo_X7_byteAt (au_X7_byteAt_44 h201_1 ) rfl rfl rfl ⟨7, _, rfl, rfl, rfl⟩ rfl ?_
  exact a_iret rfl rfl ⟨rfl, rfl⟩
theorem au_X11_setAt_46 {S : aS} {I : Nat → Nat → Int32} {L : Nat → Nat → Int64} {w1 w2 t : Nat}   : SpE S m_X11_setAt 12 [.ref 208, .int 0, .int (-1)] (hp I L w1 w2 t) none (hp (up2 I 208 0 (-1)) L w1 w2 t) := by
  refine SpE_of ok_X11_setAt rfl rfl ?_
  show AW S m_X11_setAt 12 _ _ 0 0 0 [some (.ref 208), some (.int 0), some (.int (-1))] [] (hp I L w1 w2 t)
  refine a_l1 rfl rfl rfl ?_
  refine a_if_lt rfl (fun c => absurd c (by decide)) (fun c1 => ?_)
  refine a_l1 rfl rfl rfl ?_
  refine a_l0 rfl rfl rfl ?_
  refine a_len (x := 401) rfl rfl rfl (by decide) ?_
  refine a_ic_ge rfl (fun c => absurd c (by decide)) (fun c7 => ?_)
  refine a_l0 rfl rfl rfl ?_
  refine a_l1 rfl rfl rfl ?_
  refine a_l2 rfl rfl rfl ?_
  refine a_iastv (k := 0) rfl (n := 401) rfl ⟨by decide, by decide⟩ (by decide) ?_
  exact a_vret rfl rfl ⟨rfl, rfl⟩
theorem au_X11_at_47 {S : aS} {I : Nat → Nat → Int32} {L : Nat → Nat → Int64} {w1 w2 t : Nat} (h208_0 : I 208 0 = (-1))  : SpE S m_X11_at 12 [.ref 208, .int 0] (hp I L w1 w2 t) (some (.int (-1))) (hp I L w1 w2 t) := by
  refine SpE_of ok_X11_at rfl rfl ?_
  show AW S m_X11_at 12 _ _ 0 0 0 [some (.ref 208), some (.int 0)] [] (hp I L w1 w2 t)
  refine a_l1 rfl rfl rfl ?_
  refine a_if_lt rfl (fun c => absurd c (by decide)) (fun c1 => ?_)
  refine a_l1 rfl rfl rfl ?_
  refine a_l0 rfl rfl rfl ?_
  refine a_len (x := 401) rfl rfl rfl (by decide) ?_
  refine a_ic_ge rfl (fun c => absurd c (by decide)) (fun c7 => ?_)
  refine a_l0 rfl rfl rfl ?_
  refine a_l1 rfl rfl rfl ?_
  refine a_ialdv (v := (-1)) rfl (n := 401) rfl ⟨by decide, by decide⟩ h208_0 ?_
  refine a_goto rfl ?_
  exact a_iret rfl rfl ⟨rfl, rfl⟩
theorem au_X9_next_48 {S : aS} {I : Nat → Nat → Int32} {L : Nat → Nat → Int64} {w1 w2 t : Nat} (h204_5 : I 204 5 = (-1)) (h204_4 : I 204 4 = 1) (h205_0 : I 205 0 = 0) (h206_0 : I 206 0 = 0) (h208_0 : I 208 0 = (-1))  : SpE S m_X9_next 13 [.ref 204] (hp I L w1 w2 t) none (hp (up2 (up2 (up2 (up2 I 204 5 0) 204 6 0) 204 7 0) 204 8 (-1)) L 0 w2 t) := by
  refine SpE_of ok_X9_next rfl rfl ?_
  show AW S m_X9_next 13 _ _ 0 0 0 [some (.ref 204)] [] (hp I L w1 w2 t)
  refine a_l0 rfl rfl rfl ?_
  refine a_l0 rfl rfl rfl ?_
  refine a_getiv (v := (-1)) rfl gfX9_52_9 rfl h204_5 ?_
  refine a_s rfl rfl ?_
  refine a_s rfl rfl ?_
  refine a_top (y := 0) (by decide) ?_
  refine a_l0 rfl rfl rfl ?_
  refine a_getiv (v := 1) rfl gfX9_24_9 rfl h204_4 ?_
  refine a_s rfl rfl ?_
  refine a_s rfl rfl ?_
  refine a_top (y := 0) (by decide) ?_
  refine a_min rfl lX9_91 mj_min rfl rfl ?_
  refine a_top (y := 0) (by decide) ?_
  refine a_puti rfl pfX9_52_9 rfl ?_
  refine a_l0 rfl rfl rfl ?_
  refine a_l0 rfl rfl rfl ?_
  refine a_getq rfl gfX9_9_9 rfl rfl ?_
  refine a_l0 rfl rfl rfl ?_
  refine a_getiv (v := 0) rfl gfX9_52_9 rfl rfl ?_
  refine a_eSN1 rfl lX9_58 mo_X11_at (au_X11_at_42 h205_0 ) rfl rfl rfl rfl ?_
  refine a_puti rfl pfX9_97_9 rfl ?_
  refine a_l0 rfl rfl rfl ?_
  refine a_l0 rfl rfl rfl ?_
  refine a_getq rfl gfX9_15_9 rfl rfl ?_
  refine a_l0 rfl rfl rfl ?_
  refine a_getiv (v := 0) rfl gfX9_52_9 rfl rfl ?_
  refine a_eSN1 rfl lX9_58 mo_X11_at (au_X11_at_43 h206_0 ) rfl rfl rfl rfl ?_
  refine a_puti rfl pfX9_100_9 rfl ?_
  refine a_l0 rfl rfl rfl ?_
  refine a_l0 rfl rfl rfl ?_
  refine a_getq rfl gfX9_21_9 rfl rfl ?_
  refine a_l0 rfl rfl rfl ?_
  refine a_getiv (v := 0) rfl gfX9_52_9 rfl rfl ?_
  refine a_eSN1 rfl lX9_58 mo_X11_at (au_X11_at_47 h208_0 ) rfl rfl rfl rfl ?_
  refine a_puti rfl pfX9_103_9 rfl ?_
  refine a_l0 rfl rfl rfl ?_
  refine a_l0 rfl rfl rfl ?_
  refine a_getiv (v := 0) rfl gfX9_97_9 rfl rfl ?_
  refine a_s rfl rfl ?_
  refine a_ic_ne rfl (fun c70 => ?_) (fun c => absurd c (by decide))
  refine a_s rfl rfl ?_
  refine a_putr (q := 0) rfl pfX9_106_9 rfl ?_
  rw [Rw_1]
  exact a_vret rfl rfl ⟨rfl, rfl⟩
theorem au_X9_scan_49 {S : aS} {I : Nat → Nat → Int32} {L : Nat → Nat → Int64} {w1 w2 t : Nat} (h201_1 : I 201 1 = 0)  : SpE S m_X9_scan 14 [.ref 204, .ref 201] (hp I L w1 w2 t) none (hp (up2 (up2 (up2 (up2 (up2 (up2 (up2 (up2 (up2 (up2 (up2 I 204 4 0) 205 0 0) 206 0 0) 207 0 0) 204 4 1) 208 0 (-1)) 204 5 (-1)) 204 5 0) 204 6 0) 204 7 0) 204 8 (-1)) L 0 w2 t) := by
  refine SpE_of ok_X9_scan rfl rfl ?_
  show AW S m_X9_scan 14 _ _ 0 0 0 [some (.ref 204), some (.ref 201), none, none, none] [] (hp I L w1 w2 t)
  refine a_l0 rfl rfl rfl ?_
  refine a_s rfl rfl ?_
  refine a_puti rfl pfX9_24_9 rfl ?_
  refine a_s rfl rfl ?_
  refine a_s2 rfl rfl rfl rfl rfl rfl ?_
  refine a_s rfl rfl ?_
  refine a_s3 rfl rfl rfl rfl rfl rfl ?_
  refine a_l3 rfl rfl rfl ?_
  refine a_l1 rfl rfl rfl ?_
  refine a_getiv (v := 0) rfl gfX9_28_7 rfl h201_1 ?_
  refine a_ic_ge rfl (fun c14 => ?_) (fun c => absurd (by decide) c)
  refine a_l0 rfl rfl rfl ?_
  refine a_s rfl rfl ?_
  refine a_l1 rfl rfl rfl ?_
  refine a_getiv (v := 0) rfl gfX9_28_7 rfl h201_1 ?_
  refine a_eV0 rfl lX9_40 mo_X9_open (au_X9_open_41 rfl ) rfl rfl rfl ⟨9, _, rfl, rfl, rfl⟩ rfl ?_
  refine a_s rfl rfl ?_
  refine a_s3 rfl rfl rfl rfl rfl rfl ?_
  refine a_l3 rfl rfl rfl ?_
  refine a_l0 rfl rfl rfl ?_
  refine a_getiv (v := 1) rfl gfX9_24_9 rfl rfl ?_
  refine a_ic_ge rfl (fun c => absurd c (by decide)) (fun c99 => ?_)
  refine a_l0 rfl rfl rfl ?_
  refine a_getq rfl gfX9_21_9 rfl rfl ?_
  refine a_l3 rfl rfl rfl ?_
  refine a_l0 rfl rfl rfl ?_
  refine a_l1 rfl rfl rfl ?_
  refine a_l3 rfl rfl rfl ?_
  refine a_eV1 rfl lX9_48 mo_X9_valueOf (au_X9_valueOf_45 rfl rfl h201_1 ) rfl rfl rfl ⟨9, _, rfl, rfl, rfl⟩ rfl ?_
  refine a_eSN0 rfl lX9_44 mo_X11_setAt (au_X11_setAt_46  ) rfl rfl rfl rfl ?_
  refine a_iv3 (y := 1) rfl rfl rfl (by decide) ?_
  refine a_goto rfl ?_
  refine a_l3 rfl rfl rfl ?_
  refine a_l0 rfl rfl rfl ?_
  refine a_getiv (v := 1) rfl gfX9_24_9 rfl rfl ?_
  refine a_ic_ge rfl (fun c99 => ?_) (fun c => absurd (by decide) c)
  refine a_l0 rfl rfl rfl ?_
  refine a_s rfl rfl ?_
  refine a_puti rfl pfX9_52_9 rfl ?_
  refine a_l0 rfl rfl rfl ?_
  refine a_eV0 rfl lX9_55 mo_X9_next (au_X9_next_48 rfl rfl rfl rfl rfl ) rfl rfl rfl ⟨9, _, rfl, rfl, rfl⟩ rfl ?_
  exact a_vret rfl rfl ⟨rfl, rfl⟩
theorem au_X9_isEnd_50 {S : aS} {I : Nat → Nat → Int32} {L : Nat → Nat → Int64} {w1 w2 t : Nat} (h204_6 : I 204 6 = 0)  : SpE S m_X9_isEnd 12 [.ref 204] (hp I L w1 w2 t) (some (.int 1)) (hp I L w1 w2 t) := by
  refine SpE_of ok_X9_isEnd rfl rfl ?_
  show AW S m_X9_isEnd 12 _ _ 0 0 0 [some (.ref 204)] [] (hp I L w1 w2 t)
  refine a_l0 rfl rfl rfl ?_
  refine a_getiv (v := 0) rfl gfX9_97_9 rfl h204_6 ?_
  refine a_if_ne rfl (fun c => absurd c (by decide)) (fun c4 => ?_)
  refine a_s rfl rfl ?_
  refine a_goto rfl ?_
  exact a_zret rfl rfl rfl ⟨rfl, rfl⟩
theorem au_X8_readLines_51 {S : aS} {I : Nat → Nat → Int32} {L : Nat → Nat → Int64} {w1 w2 t : Nat} (h201_1 : I 201 1 = 0)  : SpE S m_X8_readLines 15 [.ref 203, .ref 201] (hp I L w1 w2 t) (some (.int (-1))) (hp (up2 (up2 (up2 (up2 (up2 (up2 (up2 (up2 (up2 (up2 (up2 I 204 4 0) 205 0 0) 206 0 0) 207 0 0) 204 4 1) 208 0 (-1)) 204 5 (-1)) 204 5 0) 204 6 0) 204 7 0) 204 8 (-1)) L 0 w2 t) := by
  refine SpE_of ok_X8_readLines rfl rfl ?_
  show AW S m_X8_readLines 15 _ _ 0 0 0 [some (.ref 203), some (.ref 201), none] [] (hp I L w1 w2 t)
  refine a_l0 rfl rfl rfl ?_
  refine a_getq rfl gfX8_12_6 rfl rfl ?_
  refine a_l1 rfl rfl rfl ?_
  refine a_eV0 rfl lX8_22 mo_X9_scan (au_X9_scan_49 h201_1 ) rfl rfl rfl ⟨9, _, rfl, rfl, rfl⟩ rfl ?_
  refine a_l0 rfl rfl rfl ?_
  refine a_getq rfl gfX8_12_6 rfl rfl ?_
  refine a_eV1 rfl lX8_26 mo_X9_isEnd (au_X9_isEnd_50 rfl ) rfl rfl rfl ⟨9, _, rfl, rfl, rfl⟩ rfl ?_
  refine a_if_eq rfl (fun c => absurd c (by decide)) (fun c15 => ?_)
  refine a_s rfl rfl ?_
  exact a_iret rfl rfl ⟨rfl, rfl⟩
theorem au_X11_street_52 {S : aS} {I : Nat → Nat → Int32} {L : Nat → Nat → Int64} {w1 w2 t : Nat} (h201_1 : I 201 1 = 0) (h235_16 : I 235 16 = 0)  : SpE S m_X11_street 16 [.ref 200] (hp I L w1 w2 t) (some (.int 1)) (hp (up2 (up2 (cpS (up2 (up2 (up2 (up2 (up2 (up2 (up2 (up2 (up2 (up2 (up2 (up2 (up2 (cpS I 209 235 9) 204 4 0) 205 0 0) 206 0 0) 207 0 0) 204 4 1) 208 0 (-1)) 204 5 (-1)) 204 5 0) 204 6 0) 204 7 0) 204 8 (-1)) 200 3 (-1)) 201 1 0) 235 209 9) 235 16 1) 200 13 0) L 0 w2 t) := by
  refine SpE_of ok_X11_street rfl rfl ?_
  show AW S m_X11_street 16 _ _ 0 0 0 [some (.ref 200)] [] (hp I L w1 w2 t)
  refine a_l0 rfl rfl rfl ?_
  refine a_getq rfl gfX11_19_11 rfl rfl ?_
  refine a_getq rfl gfX11_75_6 rfl rfl ?_
  refine a_l0 rfl rfl rfl ?_
  refine a_getq rfl gfX11_37_11 rfl rfl ?_
  refine a_eV0 rfl lX11_78 mo_X5_copyFrom (sp_X5_copyFrom (a := 209) (b := 235) (by decide) (by decide) (by decide)) rfl rfl rfl ⟨5, _, rfl, rfl, rfl⟩ rfl ?_
  refine a_l0 rfl rfl rfl ?_
  refine a_l0 rfl rfl rfl ?_
  refine a_getq rfl gfX11_19_11 rfl rfl ?_
  refine a_l0 rfl rfl rfl ?_
  refine a_getq rfl gfX11_10_11 rfl rfl ?_
  refine a_eU1 rfl lu_82 dc_readLines mo_X8_readLines hx_rl (au_X8_readLines_51 h201_1 ) rfl rfl rfl ⟨6, _, rfl, rfl, rfl⟩ rfl ?_
  refine a_puti rfl pfX11_30_11 rfl ?_
  refine a_l0 rfl rfl rfl ?_
  refine a_getq rfl gfX11_10_11 rfl rfl ?_
  refine a_s rfl rfl ?_
  refine a_puti rfl pfX11_68_7 rfl ?_
  refine a_l0 rfl rfl rfl ?_
  refine a_getiv (v := (-1)) rfl gfX11_30_11 rfl rfl ?_
  refine a_s rfl rfl ?_
  refine a_ic_eq rfl (fun c42 => ?_) (fun c => absurd (by decide) c)
  refine a_l0 rfl rfl rfl ?_
  refine a_getq rfl gfX11_37_11 rfl rfl ?_
  refine a_getiv (v := 0) rfl gfX11_89_5 rfl h235_16 ?_
  refine a_s rfl rfl ?_
  refine a_ic_lt rfl (fun c62 => ?_) (fun c => absurd (by decide) c)
  refine a_l0 rfl rfl rfl ?_
  refine a_getq rfl gfX11_37_11 rfl rfl ?_
  refine a_l0 rfl rfl rfl ?_
  refine a_getq rfl gfX11_19_11 rfl rfl ?_
  refine a_getq rfl gfX11_75_6 rfl rfl ?_
  refine a_eV0 rfl lX11_78 mo_X5_copyFrom (sp_X5_copyFrom (a := 235) (b := 209) (by decide) (by decide) (by decide)) rfl rfl rfl ⟨5, _, rfl, rfl, rfl⟩ rfl ?_
  refine a_l0 rfl rfl rfl ?_
  refine a_getq rfl gfX11_37_11 rfl rfl ?_
  refine a_s rfl rfl ?_
  refine a_getiv (v := 0) rfl gfX11_89_5 rfl h235_16 ?_
  refine a_s rfl rfl ?_
  refine a_s rfl rfl ?_
  refine a_top (y := 1) (by decide) ?_
  refine a_puti rfl pfX11_89_5 rfl ?_
  refine a_l0 rfl rfl rfl ?_
  refine a_s rfl rfl ?_
  refine a_puti rfl pfX11_95_11 rfl ?_
  refine a_l0 rfl rfl rfl ?_
  refine a_getq rfl gfX11_37_11 rfl rfl ?_
  refine a_getiv (v := 1) rfl gfX11_89_5 rfl rfl ?_
  exact a_iret rfl rfl ⟨rfl, rfl⟩
theorem cr_X11_street {S : aS} : CRet S m_X11_street 16 [.ref 200] (some 1) := CRet.of (au_X11_street_52 I0_201_1 I0_235_16 ) (fun q hq => by simp (disch := omega) only [up2_row, upr_row, cpS_out, cpL_out])
theorem I0_421_2 : I0 421 2 = 0 := by decide +kernel
theorem au_X12_isAt_53 {S : aS} {I : Nat → Nat → Int32} {L : Nat → Nat → Int64} {w1 w2 t : Nat} (h420_10 : I 420 10 = 0) (h420_11 : I 420 11 = 0)  : SpE S m_X12_isAt 12 [.ref 420, .int 32, .int 32] (hp I L w1 w2 t) (some (.int 0)) (hp I L w1 w2 t) := by
  refine SpE_of ok_X12_isAt rfl rfl ?_
  show AW S m_X12_isAt 12 _ _ 0 0 0 [some (.ref 420), some (.int 32), some (.int 32)] [] (hp I L w1 w2 t)
  refine a_l0 rfl rfl rfl ?_
  refine a_getiv (v := 0) rfl gfX12_81_12 rfl h420_10 ?_
  refine a_l0 rfl rfl rfl ?_
  refine a_getiv (v := 0) rfl gfX12_84_12 rfl h420_11 ?_
  refine a_ic_ge rfl (fun c8 => ?_) (fun c => absurd (by decide) c)
  refine a_s rfl rfl ?_
  exact a_zret rfl rfl rfl ⟨rfl, rfl⟩
theorem au_X12_blanks_54 {S : aS} {I : Nat → Nat → Int32} {L : Nat → Nat → Int64} {w1 w2 t : Nat} (h420_10 : I 420 10 = 0) (h420_11 : I 420 11 = 0)  : SpE S m_X12_blanks 13 [.ref 420] (hp I L w1 w2 t) none (hp (up2 I 420 12 0) L w1 w2 t) := by
  refine SpE_of ok_X12_blanks rfl rfl ?_
  show AW S m_X12_blanks 13 _ _ 0 0 0 [some (.ref 420)] [] (hp I L w1 w2 t)
  refine a_l0 rfl rfl rfl ?_
  refine a_s rfl rfl ?_
  refine a_s rfl rfl ?_
  refine a_eV1 rfl lX12_87 mo_X12_isAt (au_X12_isAt_53 h420_10 h420_11 ) rfl rfl rfl ⟨12, _, rfl, rfl, rfl⟩ rfl ?_
  refine a_if_eq rfl (fun c8 => ?_) (fun c => absurd (by decide) c)
  refine a_l0 rfl rfl rfl ?_
  refine a_l0 rfl rfl rfl ?_
  refine a_getiv (v := 0) rfl gfX12_81_12 rfl h420_10 ?_
  refine a_puti rfl pfX12_91_12 rfl ?_
  exact a_vret rfl rfl ⟨rfl, rfl⟩
theorem au_X12_readAll_55 {S : aS} {I : Nat → Nat → Int32} {L : Nat → Nat → Int64} {w1 w2 t : Nat} (h420_9 : I 420 9 = 0)  : SpE S m_X12_readAll 14 [.ref 420, .int 1] (hp I L w1 w2 t) (some (.int 0)) (hp (up2 (up2 (up2 (up2 (up2 (up2 I 420 0 0) 420 11 0) 420 9 0) 420 10 0) 420 16 0) 420 12 0) L w1 w2 t) := by
  refine SpE_of ok_X12_readAll rfl rfl ?_
  show AW S m_X12_readAll 14 _ _ 0 0 0 [some (.ref 420), some (.int 1), none] [] (hp I L w1 w2 t)
  refine a_l0 rfl rfl rfl ?_
  refine a_eV0 rfl lX12_232 mo_X12_uses (au_X12_uses_30 h420_9 ) rfl rfl rfl ⟨12, _, rfl, rfl, rfl⟩ rfl ?_
  refine a_l0 rfl rfl rfl ?_
  refine a_s rfl rfl ?_
  refine a_puti rfl pfX12_168_12 rfl ?_
  refine a_l0 rfl rfl rfl ?_
  refine a_eV0 rfl lX12_94 mo_X12_blanks (au_X12_blanks_54 rfl rfl ) rfl rfl rfl ⟨12, _, rfl, rfl, rfl⟩ rfl ?_
  refine a_l0 rfl rfl rfl ?_
  refine a_getiv (v := 0) rfl gfX12_81_12 rfl rfl ?_
  refine a_l0 rfl rfl rfl ?_
  refine a_getiv (v := 0) rfl gfX12_84_12 rfl rfl ?_
  refine a_ic_ne rfl (fun c => absurd c (by decide)) (fun c21 => ?_)
  refine a_s rfl rfl ?_
  exact a_iret rfl rfl ⟨rfl, rfl⟩
theorem au_X12_throwsIf_56 {S : aS} {I : Nat → Nat → Int32} {L : Nat → Nat → Int64} {w1 w2 t : Nat}   : SpE S m_X12_throwsIf 12 [.ref 420, .int 0, .int 2] (hp I L w1 w2 t) (some (.int 0)) (hp I L w1 w2 t) := by
  refine SpE_of ok_X12_throwsIf rfl rfl ?_
  show AW S m_X12_throwsIf 12 _ _ 0 0 0 [some (.ref 420), some (.int 0), some (.int 2)] [] (hp I L w1 w2 t)
  refine a_l1 rfl rfl rfl ?_
  refine a_if_eq rfl (fun c1 => ?_) (fun c => absurd (by decide) c)
  refine a_l1 rfl rfl rfl ?_
  exact a_zret rfl rfl rfl ⟨rfl, rfl⟩
theorem au_X12_street_57 {S : aS} {I : Nat → Nat → Int32} {L : Nat → Nat → Int64} {w1 w2 t : Nat} (h420_9 : I 420 9 = 0) (h421_2 : I 421 2 = 0)  : SpE S m_X12_street 15 [.ref 420] (hp I L w1 w2 t) (some (.int 1)) (hp (up2 (up2 (up2 (up2 (up2 (up2 (up2 (up2 (up2 (cpP I 423 421 1184) 420 0 0) 420 11 0) 420 9 0) 420 10 0) 420 16 0) 420 12 0) 420 14 (-1)) 421 2 1) 420 7 0) L w1 w2 t) := by
  refine SpE_of ok_X12_street rfl rfl ?_
  show AW S m_X12_street 15 _ _ 0 0 0 [some (.ref 420), none, none] [] (hp I L w1 w2 t)
  refine a_s rfl rfl ?_
  refine a_s1 rfl rfl rfl rfl rfl rfl ?_
  refine a_forE (n := 1184) (fun j => [some (.ref 420), some (.int (nI j)), none]) (fun j => hp (cpP I 423 421 j) L w1 w2 t) (by simp [lsub, nI_0]) (by rw [cpP_0]) ?_ (fun j hj ih2 => ?_)
  rotate_left
  · refine a_l1 rfl rfl rfl ?_
    refine a_s rfl rfl ?_
    refine a_ic_ge rfl (fun c => absurd c (nI_ge (b := 1184) hj (by omega))) (fun c6 => ?_)
    refine a_l0 rfl rfl rfl ?_
    refine a_getq rfl gfX12_20_12 rfl (rfl) ?_
    refine a_l1 rfl rfl rfl ?_
    refine a_l0 rfl rfl rfl ?_
    refine a_getq rfl gfX12_13_12 rfl (rfl) ?_
    refine a_l1 rfl rfl rfl ?_
    refine a_ialdv (v := I 421 j) rfl (n := 2033) rfl (inI_nI (by omega) (by omega)) (by rw [nI_clamp (by omega)]; rw [cpP_src (by decide)]) ?_
    refine a_iastv (k := j) rfl (n := 1184) rfl (inI_nI (by omega) (by omega)) (nI_clamp (by omega)) ?_
    rw [cpP_succ]
    refine a_i1 rfl rfl rfl ?_
    refine a_goto rfl ?_
    exact a_back ih2 (by simp [lsub, nI_1]) rfl
  refine a_l1 rfl rfl rfl ?_
  refine a_s rfl rfl ?_
  refine a_ic_ge rfl (fun c6 => ?_) (fun c => absurd (Int32.le_refl _) c)
  refine a_l0 rfl rfl rfl ?_
  refine a_s rfl rfl ?_
  refine a_eV1 rfl lX12_239 mo_X12_readAll (au_X12_readAll_55 h420_9 ) rfl rfl rfl ⟨12, _, rfl, rfl, rfl⟩ rfl ?_
  refine a_s1 rfl rfl rfl rfl rfl rfl ?_
  refine a_l0 rfl rfl rfl ?_
  refine a_l1 rfl rfl rfl ?_
  refine a_if_ge rfl (fun c35 => ?_) (fun c => absurd (by decide) c)
  refine a_s rfl rfl ?_
  refine a_puti rfl pfX12_33_12 rfl ?_
  refine a_l0 rfl rfl rfl ?_
  refine a_l1 rfl rfl rfl ?_
  refine a_if_ge rfl (fun c51 => ?_) (fun c => absurd (by decide) c)
  refine a_s rfl rfl ?_
  refine a_s rfl rfl ?_
  refine a_eV1 rfl lX12_243 mo_X12_throwsIf (au_X12_throwsIf_32  ) rfl rfl rfl ⟨12, _, rfl, rfl, rfl⟩ rfl ?_
  refine a_if_ne rfl (fun c => absurd c (by decide)) (fun c63 => ?_)
  refine a_l0 rfl rfl rfl ?_
  refine a_l0 rfl rfl rfl ?_
  refine a_getq rfl gfX12_13_12 rfl rfl ?_
  refine a_s rfl rfl ?_
  refine a_ialdv (v := 0) rfl (n := 2033) rfl ⟨by decide, by decide⟩ h421_2 ?_
  refine a_s rfl rfl ?_
  refine a_ic_ne rfl (fun c75 => ?_) (fun c => absurd c (by decide))
  refine a_s rfl rfl ?_
  refine a_s rfl rfl ?_
  refine a_eV1 rfl lX12_243 mo_X12_throwsIf (au_X12_throwsIf_56  ) rfl rfl rfl ⟨12, _, rfl, rfl, rfl⟩ rfl ?_
  refine a_if_eq rfl (fun c87 => ?_) (fun c => absurd (by decide) c)
  refine a_l0 rfl rfl rfl ?_
  refine a_getq rfl gfX12_13_12 rfl rfl ?_
  refine a_s rfl rfl ?_
  refine a_s rfl rfl ?_
  refine a_ialdv (v := 0) rfl (n := 2033) rfl ⟨by decide, by decide⟩ h421_2 ?_
  refine a_s rfl rfl ?_
  refine a_s rfl rfl ?_
  refine a_top (y := 1) (by decide) ?_
  refine a_iastv (k := 2) rfl (n := 2033) rfl ⟨by decide, by decide⟩ (by decide) ?_
  refine a_l0 rfl rfl rfl ?_
  refine a_s rfl rfl ?_
  refine a_puti rfl pfX12_53_12 rfl ?_
  refine a_l0 rfl rfl rfl ?_
  refine a_getq rfl gfX12_13_12 rfl rfl ?_
  refine a_s rfl rfl ?_
  refine a_ialdv (v := 1) rfl (n := 2033) rfl ⟨by decide, by decide⟩ rfl ?_
  exact a_iret rfl rfl ⟨rfl, rfl⟩
theorem rr_X12_street {S : aS} : RRet S m_X12_street 15 [.ref 420] (some 1) 0 := RRet.of (fun I => up2 (up2 (up2 (up2 (up2 (up2 (up2 (up2 (up2 (cpP I 423 421 1184) 420 0 0) 420 11 0) 420 9 0) 420 10 0) 420 16 0) 420 12 0) 420 14 (-1)) 421 2 1) 420 7 0) (fun I L w1 w2 t hz => au_X12_street_57 (hz.at rfl I0_420_9) (hz.at rfl I0_421_2) ) (fun I hz => rfl)
theorem w_street {S : aS} {r : Int32} (h : CRet S m_X11_street 16 [.ref 200] (some r)) : Sp S m_L_street 17 0 0 [.ref 200, .ref 431] (hp I0 L0 0 0 432) (QW r) (fun _ _ => False) := by
  refine Sp_of ok_L_street rfl rfl ?_
  show AW S m_L_street 17 _ _ 0 0 0 [some (.ref 200), some (.ref 431), none] [] (hp I0 L0 0 0 432)
  refine a_l1 rfl rfl rfl ?_
  refine a_s rfl rfl ?_
  refine a_l0 rfl rfl rfl ?_
  refine a_callVc rfl lL_7 mo_X11_street h rfl rfl rfl ⟨11, _, rfl, rfl, rfl⟩ (fun v h' hv => ?_) (fun E h' hx => False.elim hx)
  obtain ⟨rfl, I, w1, w2, t, rfl, hz⟩ := hv
  refine a_s rfl rfl ?_
  refine a_last rfl (n := 1) rfl ⟨by decide, by decide⟩ ?_
  refine a_goto rfl ?_
  refine a_s rfl rfl ?_
  exact a_iret rfl rfl ⟨rfl, I, w1, w2, t, rfl, hz⟩
theorem op_2 {xs : Nat → Int32} : OpOk xs 386 := by
  show AW (S1 6 xs) m_L_main 1050 QM XM 599770 7281900 386 [some (.ref 199), some (.ref 200), some (.ref 420), some (.ref 431), some (.int 0), none, none] [] (hp I0 L0 0 0 432)
  refine a_l1 rfl rfl rfl ?_
  refine a_l3 rfl rfl rfl ?_
  refine a_callW rfl lL_143 mo_L_street (w_street cr_X11_street) rfl rfl rfl rfl (fun v h' hv => ?_) (fun E h' hx => False.elim hx)
  obtain ⟨rfl, I, w1, w2, t, rfl, hz⟩ := hv
  refine a_s5 rfl rfl rfl rfl rfl rfl ?_
  refine a_l2 rfl rfl rfl ?_
  refine a_callV rfl lL_148 mo_X12_street (rr_X12_street I _ w1 w2 t hz) rfl rfl rfl ⟨12, _, rfl, rfl, rfl⟩ rfl (fun v h' hv => ?_) (fun E h' hx => False.elim hx)
  obtain ⟨rfl, I', L', w1', w2', t', rfl, hk, hL⟩ := hv
  refine a_s6 rfl rfl rfl rfl rfl rfl ?_
  refine a_l2 rfl rfl rfl ?_
  refine a_eV1 rfl lL_149 mo_X12_thrown (sp_X12_thrown) rfl rfl rfl ⟨12, _, rfl, rfl, rfl⟩ rfl ?_
  refine a_l5 rfl rfl rfl ?_
  refine a_ic_eq rfl (fun c405 => ?_) (fun c => absurd (hk) c)
  refine a_l5 rfl rfl rfl ?_
  refine a_if_ne rfl (fun c => absurd c (fun z => z rfl)) (fun c412 => ?_)
  refine a_l3 rfl rfl rfl ?_
  refine a_s rfl rfl ?_
  refine a_lald rfl (n := 1) rfl ⟨by decide, by decide⟩ ?_
  rw [hL]
  refine a_l6 rfl rfl rfl ?_
  refine a_s rfl rfl ?_
  refine a_s rfl rfl ?_
  refine a_if_eq rfl (fun c422 => ?_) (fun c => absurd (cmp_self _) c)
  refine a_goto rfl ?_
  exact fin_ok
theorem au_X2_clear_58 {S : aS} {I : Nat → Nat → Int32} {L : Nat → Nat → Int64} {w1 w2 t : Nat}   : SpE S m_X2_clear 12 [.ref 226] (hp I L w1 w2 t) none (hp (up2 (up2 I 226 0 0) 226 1 0) L w1 w2 t) := by
  refine SpE_of ok_X2_clear rfl rfl ?_
  show AW S m_X2_clear 12 _ _ 0 0 0 [some (.ref 226)] [] (hp I L w1 w2 t)
  refine a_l0 rfl rfl rfl ?_
  refine a_s rfl rfl ?_
  refine a_puti rfl pfX2_11_2 rfl ?_
  refine a_l0 rfl rfl rfl ?_
  refine a_s rfl rfl ?_
  refine a_puti rfl pfX2_41_2 rfl ?_
  exact a_vret rfl rfl ⟨rfl, rfl⟩
theorem au_X11_setAt_59 {S : aS} {I : Nat → Nat → Int32} {L : Nat → Nat → Int64} {w1 w2 t : Nat}   : SpE S m_X11_setAt 12 [.ref 222, .int 0, .int 0] (hp I L w1 w2 t) none (hp (up2 I 222 0 0) L w1 w2 t) := by
  refine SpE_of ok_X11_setAt rfl rfl ?_
  show AW S m_X11_setAt 12 _ _ 0 0 0 [some (.ref 222), some (.int 0), some (.int 0)] [] (hp I L w1 w2 t)
  refine a_l1 rfl rfl rfl ?_
  refine a_if_lt rfl (fun c => absurd c (by decide)) (fun c1 => ?_)
  refine a_l1 rfl rfl rfl ?_
  refine a_l0 rfl rfl rfl ?_
  refine a_len (x := 401) rfl rfl rfl (by decide) ?_
  refine a_ic_ge rfl (fun c => absurd c (by decide)) (fun c7 => ?_)
  refine a_l0 rfl rfl rfl ?_
  refine a_l1 rfl rfl rfl ?_
  refine a_l2 rfl rfl rfl ?_
  refine a_iastv (k := 0) rfl (n := 401) rfl ⟨by decide, by decide⟩ (by decide) ?_
  exact a_vret rfl rfl ⟨rfl, rfl⟩
theorem au_X11_setAt_60 {S : aS} {I : Nat → Nat → Int32} {L : Nat → Nat → Int64} {w1 w2 t : Nat}   : SpE S m_X11_setAt 12 [.ref 223, .int 0, .int 0] (hp I L w1 w2 t) none (hp (up2 I 223 0 0) L w1 w2 t) := by
  refine SpE_of ok_X11_setAt rfl rfl ?_
  show AW S m_X11_setAt 12 _ _ 0 0 0 [some (.ref 223), some (.int 0), some (.int 0)] [] (hp I L w1 w2 t)
  refine a_l1 rfl rfl rfl ?_
  refine a_if_lt rfl (fun c => absurd c (by decide)) (fun c1 => ?_)
  refine a_l1 rfl rfl rfl ?_
  refine a_l0 rfl rfl rfl ?_
  refine a_len (x := 401) rfl rfl rfl (by decide) ?_
  refine a_ic_ge rfl (fun c => absurd c (by decide)) (fun c7 => ?_)
  refine a_l0 rfl rfl rfl ?_
  refine a_l1 rfl rfl rfl ?_
  refine a_l2 rfl rfl rfl ?_
  refine a_iastv (k := 0) rfl (n := 401) rfl ⟨by decide, by decide⟩ (by decide) ?_
  exact a_vret rfl rfl ⟨rfl, rfl⟩
theorem au_X11_setAt_61 {S : aS} {I : Nat → Nat → Int32} {L : Nat → Nat → Int64} {w1 w2 t : Nat}   : SpE S m_X11_setAt 12 [.ref 224, .int 0, .int 0] (hp I L w1 w2 t) none (hp (up2 I 224 0 0) L w1 w2 t) := by
  refine SpE_of ok_X11_setAt rfl rfl ?_
  show AW S m_X11_setAt 12 _ _ 0 0 0 [some (.ref 224), some (.int 0), some (.int 0)] [] (hp I L w1 w2 t)
  refine a_l1 rfl rfl rfl ?_
  refine a_if_lt rfl (fun c => absurd c (by decide)) (fun c1 => ?_)
  refine a_l1 rfl rfl rfl ?_
  refine a_l0 rfl rfl rfl ?_
  refine a_len (x := 401) rfl rfl rfl (by decide) ?_
  refine a_ic_ge rfl (fun c => absurd c (by decide)) (fun c7 => ?_)
  refine a_l0 rfl rfl rfl ?_
  refine a_l1 rfl rfl rfl ?_
  refine a_l2 rfl rfl rfl ?_
  refine a_iastv (k := 0) rfl (n := 401) rfl ⟨by decide, by decide⟩ (by decide) ?_
  exact a_vret rfl rfl ⟨rfl, rfl⟩
theorem au_X9_open_62 {S : aS} {I : Nat → Nat → Int32} {L : Nat → Nat → Int64} {w1 w2 t : Nat} (h221_4 : I 221 4 = 0)  : SpE S m_X9_open 13 [.ref 221, .int 0, .int 0] (hp I L w1 w2 t) none (hp (up2 (up2 (up2 (up2 I 222 0 0) 223 0 0) 224 0 0) 221 4 1) L w1 w2 t) := by
  refine SpE_of ok_X9_open rfl rfl ?_
  show AW S m_X9_open 13 _ _ 0 0 0 [some (.ref 221), some (.int 0), some (.int 0)] [] (hp I L w1 w2 t)
  refine a_l0 rfl rfl rfl ?_
  refine a_getq rfl gfX9_9_9 rfl rfl ?_
  refine a_l0 rfl rfl rfl ?_
  refine a_getiv (v := 0) rfl gfX9_24_9 rfl h221_4 ?_
  refine a_l1 rfl rfl rfl ?_
  refine a_eSN0 rfl lX9_44 mo_X11_setAt (au_X11_setAt_59  ) rfl rfl rfl rfl ?_
  refine a_l0 rfl rfl rfl ?_
  refine a_getq rfl gfX9_15_9 rfl rfl ?_
  refine a_l0 rfl rfl rfl ?_
  refine a_getiv (v := 0) rfl gfX9_24_9 rfl h221_4 ?_
  refine a_l2 rfl rfl rfl ?_
  refine a_eSN0 rfl lX9_44 mo_X11_setAt (au_X11_setAt_60  ) rfl rfl rfl rfl ?_
  refine a_l0 rfl rfl rfl ?_
  refine a_getq rfl gfX9_18_9 rfl rfl ?_
  refine a_l0 rfl rfl rfl ?_
  refine a_getiv (v := 0) rfl gfX9_24_9 rfl h221_4 ?_
  refine a_l2 rfl rfl rfl ?_
  refine a_eSN0 rfl lX9_44 mo_X11_setAt (au_X11_setAt_61  ) rfl rfl rfl rfl ?_
  refine a_l0 rfl rfl rfl ?_
  refine a_s rfl rfl ?_
  refine a_getiv (v := 0) rfl gfX9_24_9 rfl h221_4 ?_
  refine a_s rfl rfl ?_
  refine a_s rfl rfl ?_
  refine a_top (y := 1) (by decide) ?_
  refine a_puti rfl pfX9_24_9 rfl ?_
  exact a_vret rfl rfl ⟨rfl, rfl⟩
theorem au_X11_at_63 {S : aS} {I : Nat → Nat → Int32} {L : Nat → Nat → Int64} {w1 w2 t : Nat} (h222_0 : I 222 0 = 0)  : SpE S m_X11_at 12 [.ref 222, .int 0] (hp I L w1 w2 t) (some (.int 0)) (hp I L w1 w2 t) := by
  refine SpE_of ok_X11_at rfl rfl ?_
  show AW S m_X11_at 12 _ _ 0 0 0 [some (.ref 222), some (.int 0)] [] (hp I L w1 w2 t)
  refine a_l1 rfl rfl rfl ?_
  refine a_if_lt rfl (fun c => absurd c (by decide)) (fun c1 => ?_)
  refine a_l1 rfl rfl rfl ?_
  refine a_l0 rfl rfl rfl ?_
  refine a_len (x := 401) rfl rfl rfl (by decide) ?_
  refine a_ic_ge rfl (fun c => absurd c (by decide)) (fun c7 => ?_)
  refine a_l0 rfl rfl rfl ?_
  refine a_l1 rfl rfl rfl ?_
  refine a_ialdv (v := 0) rfl (n := 401) rfl ⟨by decide, by decide⟩ h222_0 ?_
  refine a_goto rfl ?_
  exact a_iret rfl rfl ⟨rfl, rfl⟩
theorem au_X11_at_64 {S : aS} {I : Nat → Nat → Int32} {L : Nat → Nat → Int64} {w1 w2 t : Nat} (h223_0 : I 223 0 = 0)  : SpE S m_X11_at 12 [.ref 223, .int 0] (hp I L w1 w2 t) (some (.int 0)) (hp I L w1 w2 t) := by
  refine SpE_of ok_X11_at rfl rfl ?_
  show AW S m_X11_at 12 _ _ 0 0 0 [some (.ref 223), some (.int 0)] [] (hp I L w1 w2 t)
  refine a_l1 rfl rfl rfl ?_
  refine a_if_lt rfl (fun c => absurd c (by decide)) (fun c1 => ?_)
  refine a_l1 rfl rfl rfl ?_
  refine a_l0 rfl rfl rfl ?_
  refine a_len (x := 401) rfl rfl rfl (by decide) ?_
  refine a_ic_ge rfl (fun c => absurd c (by decide)) (fun c7 => ?_)
  refine a_l0 rfl rfl rfl ?_
  refine a_l1 rfl rfl rfl ?_
  refine a_ialdv (v := 0) rfl (n := 401) rfl ⟨by decide, by decide⟩ h223_0 ?_
  refine a_goto rfl ?_
  exact a_iret rfl rfl ⟨rfl, rfl⟩
theorem au_X9_valueOf_65 {S : aS} {I : Nat → Nat → Int32} {L : Nat → Nat → Int64} {w1 w2 t : Nat} (h222_0 : I 222 0 = 0) (h223_0 : I 223 0 = 0) (h201_1 : I 201 1 = 0)  : SpE S m_X9_valueOf 13 [.ref 221, .ref 201, .int 0] (hp I L w1 w2 t) (some (.int (-1))) (hp I L w1 w2 t) := by
  refine SpE_of ok_X9_valueOf rfl rfl ?_
  show AW S m_X9_valueOf 13 _ _ 0 0 0 [some (.ref 221), some (.ref 201), some (.int 0)] [] (hp I L w1 w2 t)
  refine a_l0 rfl rfl rfl ?_
  refine a_getq rfl gfX9_9_9 rfl rfl ?_
  refine a_l2 rfl rfl rfl ?_
  refine a_eSN1 rfl lX9_58 mo_X11_at (au_X11_at_63 h222_0 ) rfl rfl rfl rfl ?_
  refine a_lsw (tg := 50) rfl (by decide) (by decide) ?_
  refine a_l1 rfl rfl rfl ?_
  refine a_l0 rfl rfl rfl ?_
  refine a_getq rfl gfX9_15_9 rfl rfl ?_
  refine a_l2 rfl rfl rfl ?_
  refine a_eSN1 rfl lX9_58 mo_X11_at (au_X11_at_64 h223_0 ) rfl rfl rfl rfl ?_
  refine a_eV1 rfl lX9_33 mo_X7_byteAt (au_X7_byteAt_44 h201_1 ) rfl rfl rfl ⟨7, _, rfl, rfl, rfl⟩ rfl ?_
  exact a_iret rfl rfl ⟨rfl, rfl⟩
theorem au_X11_setAt_66 {S : aS} {I : Nat → Nat → Int32} {L : Nat → Nat → Int64} {w1 w2 t : Nat}   : SpE S m_X11_setAt 12 [.ref 225, .int 0, .int (-1)] (hp I L w1 w2 t) none (hp (up2 I 225 0 (-1)) L w1 w2 t) := by
  refine SpE_of ok_X11_setAt rfl rfl ?_
  show AW S m_X11_setAt 12 _ _ 0 0 0 [some (.ref 225), some (.int 0), some (.int (-1))] [] (hp I L w1 w2 t)
  refine a_l1 rfl rfl rfl ?_
  refine a_if_lt rfl (fun c => absurd c (by decide)) (fun c1 => ?_)
  refine a_l1 rfl rfl rfl ?_
  refine a_l0 rfl rfl rfl ?_
  refine a_len (x := 401) rfl rfl rfl (by decide) ?_
  refine a_ic_ge rfl (fun c => absurd c (by decide)) (fun c7 => ?_)
  refine a_l0 rfl rfl rfl ?_
  refine a_l1 rfl rfl rfl ?_
  refine a_l2 rfl rfl rfl ?_
  refine a_iastv (k := 0) rfl (n := 401) rfl ⟨by decide, by decide⟩ (by decide) ?_
  exact a_vret rfl rfl ⟨rfl, rfl⟩
theorem au_X11_at_67 {S : aS} {I : Nat → Nat → Int32} {L : Nat → Nat → Int64} {w1 w2 t : Nat} (h225_0 : I 225 0 = (-1))  : SpE S m_X11_at 12 [.ref 225, .int 0] (hp I L w1 w2 t) (some (.int (-1))) (hp I L w1 w2 t) := by
  refine SpE_of ok_X11_at rfl rfl ?_
  show AW S m_X11_at 12 _ _ 0 0 0 [some (.ref 225), some (.int 0)] [] (hp I L w1 w2 t)
  refine a_l1 rfl rfl rfl ?_
  refine a_if_lt rfl (fun c => absurd c (by decide)) (fun c1 => ?_)
  refine a_l1 rfl rfl rfl ?_
  refine a_l0 rfl rfl rfl ?_
  refine a_len (x := 401) rfl rfl rfl (by decide) ?_
  refine a_ic_ge rfl (fun c => absurd c (by decide)) (fun c7 => ?_)
  refine a_l0 rfl rfl rfl ?_
  refine a_l1 rfl rfl rfl ?_
  refine a_ialdv (v := (-1)) rfl (n := 401) rfl ⟨by decide, by decide⟩ h225_0 ?_
  refine a_goto rfl ?_
  exact a_iret rfl rfl ⟨rfl, rfl⟩
theorem au_X9_next_68 {S : aS} {I : Nat → Nat → Int32} {L : Nat → Nat → Int64} {w1 w2 t : Nat} (h221_5 : I 221 5 = (-1)) (h221_4 : I 221 4 = 1) (h222_0 : I 222 0 = 0) (h223_0 : I 223 0 = 0) (h225_0 : I 225 0 = (-1))  : SpE S m_X9_next 13 [.ref 221] (hp I L w1 w2 t) none (hp (up2 (up2 (up2 (up2 I 221 5 0) 221 6 0) 221 7 0) 221 8 (-1)) L w1 0 t) := by
  refine SpE_of ok_X9_next rfl rfl ?_
  show AW S m_X9_next 13 _ _ 0 0 0 [some (.ref 221)] [] (hp I L w1 w2 t)
  refine a_l0 rfl rfl rfl ?_
  refine a_l0 rfl rfl rfl ?_
  refine a_getiv (v := (-1)) rfl gfX9_52_9 rfl h221_5 ?_
  refine a_s rfl rfl ?_
  refine a_s rfl rfl ?_
  refine a_top (y := 0) (by decide) ?_
  refine a_l0 rfl rfl rfl ?_
  refine a_getiv (v := 1) rfl gfX9_24_9 rfl h221_4 ?_
  refine a_s rfl rfl ?_
  refine a_s rfl rfl ?_
  refine a_top (y := 0) (by decide) ?_
  refine a_min rfl lX9_91 mj_min rfl rfl ?_
  refine a_top (y := 0) (by decide) ?_
  refine a_puti rfl pfX9_52_9 rfl ?_
  refine a_l0 rfl rfl rfl ?_
  refine a_l0 rfl rfl rfl ?_
  refine a_getq rfl gfX9_9_9 rfl rfl ?_
  refine a_l0 rfl rfl rfl ?_
  refine a_getiv (v := 0) rfl gfX9_52_9 rfl rfl ?_
  refine a_eSN1 rfl lX9_58 mo_X11_at (au_X11_at_63 h222_0 ) rfl rfl rfl rfl ?_
  refine a_puti rfl pfX9_97_9 rfl ?_
  refine a_l0 rfl rfl rfl ?_
  refine a_l0 rfl rfl rfl ?_
  refine a_getq rfl gfX9_15_9 rfl rfl ?_
  refine a_l0 rfl rfl rfl ?_
  refine a_getiv (v := 0) rfl gfX9_52_9 rfl rfl ?_
  refine a_eSN1 rfl lX9_58 mo_X11_at (au_X11_at_64 h223_0 ) rfl rfl rfl rfl ?_
  refine a_puti rfl pfX9_100_9 rfl ?_
  refine a_l0 rfl rfl rfl ?_
  refine a_l0 rfl rfl rfl ?_
  refine a_getq rfl gfX9_21_9 rfl rfl ?_
  refine a_l0 rfl rfl rfl ?_
  refine a_getiv (v := 0) rfl gfX9_52_9 rfl rfl ?_
  refine a_eSN1 rfl lX9_58 mo_X11_at (au_X11_at_67 h225_0 ) rfl rfl rfl rfl ?_
  refine a_puti rfl pfX9_103_9 rfl ?_
  refine a_l0 rfl rfl rfl ?_
  refine a_l0 rfl rfl rfl ?_
  refine a_getiv (v := 0) rfl gfX9_97_9 rfl rfl ?_
  refine a_s rfl rfl ?_
  refine a_ic_ne rfl (fun c70 => ?_) (fun c => absurd c (by decide))
  refine a_s rfl rfl ?_
  refine a_putr (q := 0) rfl pfX9_106_9 rfl ?_
  rw [Rw_2]
  exact a_vret rfl rfl ⟨rfl, rfl⟩
theorem au_X9_scan_69 {S : aS} {I : Nat → Nat → Int32} {L : Nat → Nat → Int64} {w1 w2 t : Nat} (h201_1 : I 201 1 = 0)  : SpE S m_X9_scan 14 [.ref 221, .ref 201] (hp I L w1 w2 t) none (hp (up2 (up2 (up2 (up2 (up2 (up2 (up2 (up2 (up2 (up2 (up2 I 221 4 0) 222 0 0) 223 0 0) 224 0 0) 221 4 1) 225 0 (-1)) 221 5 (-1)) 221 5 0) 221 6 0) 221 7 0) 221 8 (-1)) L w1 0 t) := by
  refine SpE_of ok_X9_scan rfl rfl ?_
  show AW S m_X9_scan 14 _ _ 0 0 0 [some (.ref 221), some (.ref 201), none, none, none] [] (hp I L w1 w2 t)
  refine a_l0 rfl rfl rfl ?_
  refine a_s rfl rfl ?_
  refine a_puti rfl pfX9_24_9 rfl ?_
  refine a_s rfl rfl ?_
  refine a_s2 rfl rfl rfl rfl rfl rfl ?_
  refine a_s rfl rfl ?_
  refine a_s3 rfl rfl rfl rfl rfl rfl ?_
  refine a_l3 rfl rfl rfl ?_
  refine a_l1 rfl rfl rfl ?_
  refine a_getiv (v := 0) rfl gfX9_28_7 rfl h201_1 ?_
  refine a_ic_ge rfl (fun c14 => ?_) (fun c => absurd (by decide) c)
  refine a_l0 rfl rfl rfl ?_
  refine a_s rfl rfl ?_
  refine a_l1 rfl rfl rfl ?_
  refine a_getiv (v := 0) rfl gfX9_28_7 rfl h201_1 ?_
  refine a_eV0 rfl lX9_40 mo_X9_open (au_X9_open_62 rfl ) rfl rfl rfl ⟨9, _, rfl, rfl, rfl⟩ rfl ?_
  refine a_s rfl rfl ?_
  refine a_s3 rfl rfl rfl rfl rfl rfl ?_
  refine a_l3 rfl rfl rfl ?_
  refine a_l0 rfl rfl rfl ?_
  refine a_getiv (v := 1) rfl gfX9_24_9 rfl rfl ?_
  refine a_ic_ge rfl (fun c => absurd c (by decide)) (fun c99 => ?_)
  refine a_l0 rfl rfl rfl ?_
  refine a_getq rfl gfX9_21_9 rfl rfl ?_
  refine a_l3 rfl rfl rfl ?_
  refine a_l0 rfl rfl rfl ?_
  refine a_l1 rfl rfl rfl ?_
  refine a_l3 rfl rfl rfl ?_
  refine a_eV1 rfl lX9_48 mo_X9_valueOf (au_X9_valueOf_65 rfl rfl h201_1 ) rfl rfl rfl ⟨9, _, rfl, rfl, rfl⟩ rfl ?_
  refine a_eSN0 rfl lX9_44 mo_X11_setAt (au_X11_setAt_66  ) rfl rfl rfl rfl ?_
  refine a_iv3 (y := 1) rfl rfl rfl (by decide) ?_
  refine a_goto rfl ?_
  refine a_l3 rfl rfl rfl ?_
  refine a_l0 rfl rfl rfl ?_
  refine a_getiv (v := 1) rfl gfX9_24_9 rfl rfl ?_
  refine a_ic_ge rfl (fun c99 => ?_) (fun c => absurd (by decide) c)
  refine a_l0 rfl rfl rfl ?_
  refine a_s rfl rfl ?_
  refine a_puti rfl pfX9_52_9 rfl ?_
  refine a_l0 rfl rfl rfl ?_
  refine a_eV0 rfl lX9_55 mo_X9_next (au_X9_next_68 rfl rfl rfl rfl rfl ) rfl rfl rfl ⟨9, _, rfl, rfl, rfl⟩ rfl ?_
  exact a_vret rfl rfl ⟨rfl, rfl⟩
theorem au_X9_isEnd_70 {S : aS} {I : Nat → Nat → Int32} {L : Nat → Nat → Int64} {w1 w2 t : Nat} (h221_6 : I 221 6 = 0)  : SpE S m_X9_isEnd 12 [.ref 221] (hp I L w1 w2 t) (some (.int 1)) (hp I L w1 w2 t) := by
  refine SpE_of ok_X9_isEnd rfl rfl ?_
  show AW S m_X9_isEnd 12 _ _ 0 0 0 [some (.ref 221)] [] (hp I L w1 w2 t)
  refine a_l0 rfl rfl rfl ?_
  refine a_getiv (v := 0) rfl gfX9_97_9 rfl h221_6 ?_
  refine a_if_ne rfl (fun c => absurd c (by decide)) (fun c4 => ?_)
  refine a_s rfl rfl ?_
  refine a_goto rfl ?_
  exact a_zret rfl rfl rfl ⟨rfl, rfl⟩
theorem au_X8_readLines_71 {S : aS} {I : Nat → Nat → Int32} {L : Nat → Nat → Int64} {w1 w2 t : Nat} (h201_1 : I 201 1 = 0)  : SpE S m_X8_readLines 15 [.ref 220, .ref 201] (hp I L w1 w2 t) (some (.int (-1))) (hp (up2 (up2 (up2 (up2 (up2 (up2 (up2 (up2 (up2 (up2 (up2 I 221 4 0) 222 0 0) 223 0 0) 224 0 0) 221 4 1) 225 0 (-1)) 221 5 (-1)) 221 5 0) 221 6 0) 221 7 0) 221 8 (-1)) L w1 0 t) := by
  refine SpE_of ok_X8_readLines rfl rfl ?_
  show AW S m_X8_readLines 15 _ _ 0 0 0 [some (.ref 220), some (.ref 201), none] [] (hp I L w1 w2 t)
  refine a_l0 rfl rfl rfl ?_
  refine a_getq rfl gfX8_12_3 rfl rfl ?_
  refine a_l1 rfl rfl rfl ?_
  refine a_eV0 rfl lX8_22 mo_X9_scan (au_X9_scan_69 h201_1 ) rfl rfl rfl ⟨9, _, rfl, rfl, rfl⟩ rfl ?_
  refine a_l0 rfl rfl rfl ?_
  refine a_getq rfl gfX8_12_3 rfl rfl ?_
  refine a_eV1 rfl lX8_26 mo_X9_isEnd (au_X9_isEnd_70 rfl ) rfl rfl rfl ⟨9, _, rfl, rfl, rfl⟩ rfl ?_
  refine a_if_eq rfl (fun c => absurd c (by decide)) (fun c15 => ?_)
  refine a_s rfl rfl ?_
  exact a_iret rfl rfl ⟨rfl, rfl⟩
theorem au_X11_law_72 {S : aS} {I : Nat → Nat → Int32} {L : Nat → Nat → Int64} {w1 w2 t : Nat} (h201_1 : I 201 1 = 0)  : SpE S m_X11_law 16 [.ref 200] (hp I L w1 w2 t) (some (.int 0)) (hp (up2 (cpL (up2 (up2 (up2 (up2 (up2 (up2 (up2 (up2 (up2 (up2 (up2 (up2 (up2 (up2 (up2 I 226 0 0) 226 1 0) 221 4 0) 222 0 0) 223 0 0) 224 0 0) 221 4 1) 225 0 (-1)) 221 5 (-1)) 221 5 0) 221 6 0) 221 7 0) 221 8 (-1)) 200 3 (-1)) 201 1 0) 246 226) 200 13 0) L w1 0 t) := by
  refine SpE_of ok_X11_law rfl rfl ?_
  show AW S m_X11_law 16 _ _ 0 0 0 [some (.ref 200)] [] (hp I L w1 w2 t)
  refine a_l0 rfl rfl rfl ?_
  refine a_getq rfl gfX11_26_11 rfl rfl ?_
  refine a_getq rfl gfX11_98_3 rfl rfl ?_
  refine a_eV0 rfl lX11_100 mo_X2_clear (au_X2_clear_58  ) rfl rfl rfl ⟨2, _, rfl, rfl, rfl⟩ rfl ?_
  refine a_l0 rfl rfl rfl ?_
  refine a_l0 rfl rfl rfl ?_
  refine a_getq rfl gfX11_26_11 rfl rfl ?_
  refine a_l0 rfl rfl rfl ?_
  refine a_getq rfl gfX11_10_11 rfl rfl ?_
  refine a_eU1 rfl lu_103 dc_readLines mo_X8_readLines hx_rl (au_X8_readLines_71 h201_1 ) rfl rfl rfl ⟨3, _, rfl, rfl, rfl⟩ rfl ?_
  refine a_puti rfl pfX11_30_11 rfl ?_
  refine a_l0 rfl rfl rfl ?_
  refine a_getq rfl gfX11_10_11 rfl rfl ?_
  refine a_s rfl rfl ?_
  refine a_puti rfl pfX11_68_7 rfl ?_
  refine a_l0 rfl rfl rfl ?_
  refine a_getiv (v := (-1)) rfl gfX11_30_11 rfl rfl ?_
  refine a_s rfl rfl ?_
  refine a_ic_eq rfl (fun c38 => ?_) (fun c => absurd (by decide) c)
  refine a_l0 rfl rfl rfl ?_
  refine a_getq rfl gfX11_44_11 rfl rfl ?_
  refine a_l0 rfl rfl rfl ?_
  refine a_getq rfl gfX11_26_11 rfl rfl ?_
  refine a_getq rfl gfX11_98_3 rfl rfl ?_
  refine a_eV0 rfl lX11_104 mo_X2_copyFrom (sp_X2_copyFrom (a := 246) (b := 226) (by decide) (by decide) (by decide)) rfl rfl rfl ⟨2, _, rfl, rfl, rfl⟩ rfl ?_
  refine a_l0 rfl rfl rfl ?_
  refine a_s rfl rfl ?_
  refine a_puti rfl pfX11_95_11 rfl ?_
  refine a_l0 rfl rfl rfl ?_
  refine a_getq rfl gfX11_44_11 rfl rfl ?_
  refine a_getiv (v := 0) rfl gfX11_107_2 rfl rfl ?_
  exact a_iret rfl rfl ⟨rfl, rfl⟩
theorem cr_X11_law {S : aS} : CRet S m_X11_law 16 [.ref 200] (some 0) := CRet.of (au_X11_law_72 I0_201_1 ) (fun q hq => by simp (disch := omega) only [up2_row, upr_row, cpS_out, cpL_out])
theorem au_X12_readAll_73 {S : aS} {I : Nat → Nat → Int32} {L : Nat → Nat → Int64} {w1 w2 t : Nat} (h420_9 : I 420 9 = 0)  : SpE S m_X12_readAll 14 [.ref 420, .int 0] (hp I L w1 w2 t) (some (.int 0)) (hp (up2 (up2 (up2 (up2 (up2 (up2 I 420 0 0) 420 11 0) 420 9 0) 420 10 0) 420 16 0) 420 12 0) L w1 w2 t) := by
  refine SpE_of ok_X12_readAll rfl rfl ?_
  show AW S m_X12_readAll 14 _ _ 0 0 0 [some (.ref 420), some (.int 0), none] [] (hp I L w1 w2 t)
  refine a_l0 rfl rfl rfl ?_
  refine a_eV0 rfl lX12_232 mo_X12_uses (au_X12_uses_30 h420_9 ) rfl rfl rfl ⟨12, _, rfl, rfl, rfl⟩ rfl ?_
  refine a_l0 rfl rfl rfl ?_
  refine a_s rfl rfl ?_
  refine a_puti rfl pfX12_168_12 rfl ?_
  refine a_l0 rfl rfl rfl ?_
  refine a_eV0 rfl lX12_94 mo_X12_blanks (au_X12_blanks_54 rfl rfl ) rfl rfl rfl ⟨12, _, rfl, rfl, rfl⟩ rfl ?_
  refine a_l0 rfl rfl rfl ?_
  refine a_getiv (v := 0) rfl gfX12_81_12 rfl rfl ?_
  refine a_l0 rfl rfl rfl ?_
  refine a_getiv (v := 0) rfl gfX12_84_12 rfl rfl ?_
  refine a_ic_ne rfl (fun c => absurd c (by decide)) (fun c21 => ?_)
  refine a_s rfl rfl ?_
  exact a_iret rfl rfl ⟨rfl, rfl⟩
theorem au_X12_law_74 {S : aS} {I : Nat → Nat → Int32} {L : Nat → Nat → Int64} {w1 w2 t : Nat} (h420_9 : I 420 9 = 0)  : SpE S m_X12_law 15 [.ref 420] (hp I L w1 w2 t) (some (.int 0)) (hp (up2 (up2 (cpW (up2 (up2 (up2 (up2 (up2 (up2 (up2 (up2 I 420 0 0) 420 11 0) 420 9 0) 420 10 0) 420 16 0) 420 12 0) 420 14 (-1)) 421 1184 0) 849) 421 3 1) 420 7 0) L w1 w2 t) := by
  refine SpE_of ok_X12_law rfl rfl ?_
  show AW S m_X12_law 15 _ _ 0 0 0 [some (.ref 420), none, none] [] (hp I L w1 w2 t)
  refine a_l0 rfl rfl rfl ?_
  refine a_s rfl rfl ?_
  refine a_eV1 rfl lX12_239 mo_X12_readAll (au_X12_readAll_73 h420_9 ) rfl rfl rfl ⟨12, _, rfl, rfl, rfl⟩ rfl ?_
  refine a_s1 rfl rfl rfl rfl rfl rfl ?_
  refine a_l0 rfl rfl rfl ?_
  refine a_l1 rfl rfl rfl ?_
  refine a_if_ge rfl (fun c8 => ?_) (fun c => absurd (by decide) c)
  refine a_s rfl rfl ?_
  refine a_puti rfl pfX12_33_12 rfl ?_
  refine a_l0 rfl rfl rfl ?_
  refine a_l1 rfl rfl rfl ?_
  refine a_if_ge rfl (fun c24 => ?_) (fun c => absurd (by decide) c)
  refine a_s rfl rfl ?_
  refine a_s rfl rfl ?_
  refine a_eV1 rfl lX12_243 mo_X12_throwsIf (au_X12_throwsIf_32  ) rfl rfl rfl ⟨12, _, rfl, rfl, rfl⟩ rfl ?_
  refine a_if_eq rfl (fun c36 => ?_) (fun c => absurd (by decide) c)
  refine a_l0 rfl rfl rfl ?_
  refine a_getq rfl gfX12_13_12 rfl rfl ?_
  refine a_s rfl rfl ?_
  refine a_l1 rfl rfl rfl ?_
  refine a_iastv (k := 1184) rfl (n := 2033) rfl ⟨by decide, by decide⟩ (by decide) ?_
  refine a_s rfl rfl ?_
  refine a_s2 rfl rfl rfl rfl rfl rfl ?_
  refine a_forE (n := 849) (fun j => [some (.ref 420), some (.int 0), some (.int (nI j))]) (fun j => hp (cpW (up2 (up2 (up2 (up2 (up2 (up2 (up2 (up2 I 420 0 0) 420 11 0) 420 9 0) 420 10 0) 420 16 0) 420 12 0) 420 14 (-1)) 421 1184 0) j) L w1 w2 t) (by simp [lsub, nI_0]) (by rw [cpW_0]) ?_ (fun j hj ih52 => ?_)
  rotate_left
  · refine a_l2 rfl rfl rfl ?_
    refine a_s rfl rfl ?_
    refine a_ic_ge rfl (fun c => absurd c (nI_ge (b := 849) hj (by omega))) (fun c56 => ?_)
    refine a_l0 rfl rfl rfl ?_
    refine a_getq rfl gfX12_13_12 rfl (rfl) ?_
    refine a_s rfl rfl ?_
    refine a_l2 rfl rfl rfl ?_
    refine a_s rfl rfl ?_
    refine a_top (nI_addl 335 j) ?_
    refine a_l0 rfl rfl rfl ?_
    refine a_getq rfl gfX12_13_12 rfl (rfl) ?_
    refine a_s rfl rfl ?_
    refine a_l2 rfl rfl rfl ?_
    refine a_s rfl rfl ?_
    refine a_top (nI_addl 1184 j) ?_
    refine a_ialdv (v := (up2 (up2 (up2 (up2 (up2 (up2 (up2 (up2 I 420 0 0) 420 11 0) 420 9 0) 420 10 0) 420 16 0) 420 12 0) 420 14 (-1)) 421 1184 0) 421 (1184 + j)) rfl (n := 2033) rfl (inI_nI (by omega) (by omega)) (by rw [nI_clamp (by omega)]; exact cpW_src hj) ?_
    refine a_iastv (k := 335 + j) rfl (n := 2033) rfl (inI_nI (by omega) (by omega)) (nI_clamp (by omega)) ?_
    rw [cpW_succ]
    refine a_i2 rfl rfl rfl ?_
    refine a_goto rfl ?_
    exact a_back ih52 (by simp [lsub, nI_1]) rfl
  refine a_l2 rfl rfl rfl ?_
  refine a_s rfl rfl ?_
  refine a_ic_ge rfl (fun c56 => ?_) (fun c => absurd (Int32.le_refl _) c)
  refine a_l0 rfl rfl rfl ?_
  refine a_getq rfl gfX12_13_12 rfl rfl ?_
  refine a_s rfl rfl ?_
  refine a_s rfl rfl ?_
  refine a_iastv (k := 3) rfl (n := 2033) rfl ⟨by decide, by decide⟩ (by decide) ?_
  refine a_l0 rfl rfl rfl ?_
  refine a_s rfl rfl ?_
  refine a_puti rfl pfX12_53_12 rfl ?_
  refine a_l1 rfl rfl rfl ?_
  exact a_iret rfl rfl ⟨rfl, rfl⟩
theorem rr_X12_law {S : aS} : RRet S m_X12_law 15 [.ref 420] (some 0) 0 := RRet.of (fun I => up2 (up2 (cpW (up2 (up2 (up2 (up2 (up2 (up2 (up2 (up2 I 420 0 0) 420 11 0) 420 9 0) 420 10 0) 420 16 0) 420 12 0) 420 14 (-1)) 421 1184 0) 849) 421 3 1) 420 7 0) (fun I L w1 w2 t hz => au_X12_law_74 (hz.at rfl I0_420_9) ) (fun I hz => rfl)
theorem w_law {S : aS} {r : Int32} (h : CRet S m_X11_law 16 [.ref 200] (some r)) : Sp S m_L_law 17 0 0 [.ref 200, .ref 431] (hp I0 L0 0 0 432) (QW r) (fun _ _ => False) := by
  refine Sp_of ok_L_law rfl rfl ?_
  show AW S m_L_law 17 _ _ 0 0 0 [some (.ref 200), some (.ref 431), none] [] (hp I0 L0 0 0 432)
  refine a_l1 rfl rfl rfl ?_
  refine a_s rfl rfl ?_
  refine a_l0 rfl rfl rfl ?_
  refine a_callVc rfl lL_17 mo_X11_law h rfl rfl rfl ⟨11, _, rfl, rfl, rfl⟩ (fun v h' hv => ?_) (fun E h' hx => False.elim hx)
  obtain ⟨rfl, I, w1, w2, t, rfl, hz⟩ := hv
  refine a_s rfl rfl ?_
  refine a_last rfl (n := 1) rfl ⟨by decide, by decide⟩ ?_
  refine a_goto rfl ?_
  refine a_s rfl rfl ?_
  exact a_iret rfl rfl ⟨rfl, I, w1, w2, t, rfl, hz⟩
theorem op_3 {xs : Nat → Int32} : OpOk xs 430 := by
  show AW (S1 6 xs) m_L_main 1050 QM XM 599770 7281900 430 [some (.ref 199), some (.ref 200), some (.ref 420), some (.ref 431), some (.int 0), none, none] [] (hp I0 L0 0 0 432)
  refine a_l1 rfl rfl rfl ?_
  refine a_l3 rfl rfl rfl ?_
  refine a_callW rfl lL_152 mo_L_law (w_law cr_X11_law) rfl rfl rfl rfl (fun v h' hv => ?_) (fun E h' hx => False.elim hx)
  obtain ⟨rfl, I, w1, w2, t, rfl, hz⟩ := hv
  refine a_s5 rfl rfl rfl rfl rfl rfl ?_
  refine a_l2 rfl rfl rfl ?_
  refine a_callV rfl lL_154 mo_X12_law (rr_X12_law I _ w1 w2 t hz) rfl rfl rfl ⟨12, _, rfl, rfl, rfl⟩ rfl (fun v h' hv => ?_) (fun E h' hx => False.elim hx)
  obtain ⟨rfl, I', L', w1', w2', t', rfl, hk, hL⟩ := hv
  refine a_s6 rfl rfl rfl rfl rfl rfl ?_
  refine a_l2 rfl rfl rfl ?_
  refine a_eV1 rfl lL_149 mo_X12_thrown (sp_X12_thrown) rfl rfl rfl ⟨12, _, rfl, rfl, rfl⟩ rfl ?_
  refine a_l5 rfl rfl rfl ?_
  refine a_ic_eq rfl (fun c449 => ?_) (fun c => absurd (hk) c)
  refine a_l5 rfl rfl rfl ?_
  refine a_if_ne rfl (fun c => absurd c (fun z => z rfl)) (fun c456 => ?_)
  refine a_l3 rfl rfl rfl ?_
  refine a_s rfl rfl ?_
  refine a_lald rfl (n := 1) rfl ⟨by decide, by decide⟩ ?_
  rw [hL]
  refine a_l6 rfl rfl rfl ?_
  refine a_s rfl rfl ?_
  refine a_s rfl rfl ?_
  refine a_if_eq rfl (fun c466 => ?_) (fun c => absurd (cmp_self _) c)
  refine a_goto rfl ?_
  exact fin_ok
