/-! ===== making the two roots, at their places (printed by program) ===== -/
set_option maxRecDepth 100000
def kX11 (K : Nat → Nat × Nat) : Nat → Nat × Nat := kX5 (upK (kX5 (upK (kX5 (upK (kX5 (upK (kX5 (upK (kX5 (upK (kX5 (upK (kX5 (upK (kX5 (upK (kX5 (upK (kX5 (upK (kX5 (upK (upK (kX2 (upK (kX5 (upK (kX5 (upK (kX0 (upK (kX2 (upK (kX5 (upK (kX3 (upK (kX6 (upK (kX7 (upK K 201 (1, 7)) 202) 203 (1, 6)) 204) 220 (1, 3)) 221) 235 (1, 5)) 236) 246 (1, 2)) 247) 254 (1, 0)) 255) 257 (1, 5)) 258) 268 (1, 5)) 269) 279 (1, 2)) 280) 287 (5, 12)) 288 (1, 5)) 289) 299 (1, 5)) 300) 310 (1, 5)) 311) 321 (1, 5)) 322) 332 (1, 5)) 333) 343 (1, 5)) 344) 354 (1, 5)) 355) 365 (1, 5)) 366) 376 (1, 5)) 377) 387 (1, 5)) 388) 398 (1, 5)) 399) 409 (1, 5)) 410
def iX11 (I : Nat → Nat → Int32) : Nat → Nat → Int32 := iX5 (iX5 (iX5 (iX5 (iX5 (iX5 (iX5 (iX5 (iX5 (iX5 (iX5 (iX5 (iX2 (iX5 (iX5 (iX0 (iX2 (iX5 (up2 (iX3 (iX6 (iX7 I 201 202) 203 204) 220 221) 200 3 (-1)) 235 236) 246 247) 254 255) 257 258) 268 269) 279 280) 288 289) 299 300) 310 311) 321 322) 332 333) 343 344) 354 355) 365 366) 376 377) 387 388) 398 399) 409 410
def rX11 (R : Nat → Nat → Nat) : Nat → Nat → Nat := up2 (rX5 (up2 (rX5 (up2 (rX5 (up2 (rX5 (up2 (rX5 (up2 (rX5 (up2 (rX5 (up2 (rX5 (up2 (rX5 (up2 (rX5 (up2 (rX5 (up2 (rX5 (up2 (up2 (rX2 (up2 (rX5 (up2 (rX5 (up2 (rX0 (up2 (rX2 (up2 (rX5 (up2 (rX3 (up2 (rX6 (up2 (rX7 R 201 202) 200 0 (201 + 1)) 203 204) 200 1 (203 + 1)) 220 221) 200 2 (220 + 1)) 235 236) 200 4 (235 + 1)) 246 247) 200 5 (246 + 1)) 254 255) 200 6 (254 + 1)) 257 258) 200 7 (257 + 1)) 268 269) 200 8 (268 + 1)) 279 280) 200 9 (279 + 1)) 200 11 (287 + 1)) 288 289) 287 0 (288 + 1)) 299 300) 287 1 (299 + 1)) 310 311) 287 2 (310 + 1)) 321 322) 287 3 (321 + 1)) 332 333) 287 4 (332 + 1)) 343 344) 287 5 (343 + 1)) 354 355) 287 6 (354 + 1)) 365 366) 287 7 (365 + 1)) 376 377) 287 8 (376 + 1)) 387 388) 287 9 (387 + 1)) 398 399) 287 10 (398 + 1)) 409 410) 287 11 (409 + 1)
theorem oldX11 {K : Nat → Nat × Nat} {p : Nat} (h : p < 201) : kX11 K p = K p := by
  unfold kX11
  simp (disch := omega) only [upK_ne, oldX1, oldX0, oldX2, oldX7, oldX9, oldX5, oldX8_3, oldX8_6, oldX6, oldX3]
theorem frX11 {I : Nat → Nat → Int32} {L : Nat → Nat → Int64} {R : Nat → Nat → Nat} {z : Nat} (f : Fr I L R 201) : Fr (iX11 I) L (rX11 R) 420 := by
  unfold iX11 rX11
  exact ((frX5 (Fr.mono (t' := 410) ((frX5 (Fr.mono (t' := 399) ((frX5 (Fr.mono (t' := 388) ((frX5 (Fr.mono (t' := 377) ((frX5 (Fr.mono (t' := 366) ((frX5 (Fr.mono (t' := 355) ((frX5 (Fr.mono (t' := 344) ((frX5 (Fr.mono (t' := 333) ((frX5 (Fr.mono (t' := 322) ((frX5 (Fr.mono (t' := 311) ((frX5 (Fr.mono (t' := 300) ((frX5 (Fr.mono (t' := 289) ((Fr.mono (t' := 288) ((frX2 (Fr.mono (t' := 280) ((frX5 (Fr.mono (t' := 269) ((frX5 (Fr.mono (t' := 258) ((frX0 (Fr.mono (t' := 255) ((frX2 (Fr.mono (t' := 247) ((frX5 (Fr.mono (t' := 236) (((frX3 (Fr.mono (t' := 221) ((frX6 (Fr.mono (t' := 204) ((frX7 (Fr.mono (t' := 202) f (Nat.le_succ _)) (by decide)).putR (by decide)) (Nat.le_succ _)) (by decide)).putR (by decide)) (Nat.le_succ _)) (by decide)).putR (by decide)).putI (by decide)) (Nat.le_succ _)) (by decide)).putR (by decide)) (Nat.le_succ _)) (by decide)).putR (by decide)) (Nat.le_succ _)) (by decide)).putR (by decide)) (Nat.le_succ _)) (by decide)).putR (by decide)) (Nat.le_succ _)) (by decide)).putR (by decide)) (Nat.le_succ _)) (by decide)).putR (by decide)) (Nat.le_succ _)).putR (by decide)) (Nat.le_succ _)) (by decide)).putR (by decide)) (Nat.le_succ _)) (by decide)).putR (by decide)) (Nat.le_succ _)) (by decide)).putR (by decide)) (Nat.le_succ _)) (by decide)).putR (by decide)) (Nat.le_succ _)) (by decide)).putR (by decide)) (Nat.le_succ _)) (by decide)).putR (by decide)) (Nat.le_succ _)) (by decide)).putR (by decide)) (Nat.le_succ _)) (by decide)).putR (by decide)) (Nat.le_succ _)) (by decide)).putR (by decide)) (Nat.le_succ _)) (by decide)).putR (by decide)) (Nat.le_succ _)) (by decide)).putR (by decide)) (Nat.le_succ _)) (by decide)).putR (by decide))
theorem sp_X11_init {S : aS} {K : Nat → Nat × Nat} {I : Nat → Nat → Int32} {L : Nat → Nat → Int64} {R : Nat → Nat → Nat} (hK : K 200 = (1, 11)) (f : Fr I L R 201) : SpM S m_X11_init 15 219 10723 [.ref 200] (K, I, L, R, 201) (kX11 K, iX11 I, L, rX11 R, 420) := by
  refine SpM_of ok_X11_init rfl rfl ?_
  refine a_l0 rfl rfl rfl ?_
  refine a_objinit rfl lX11_1 oi_1 oi_2 rfl rfl ?_
  refine a_l0 rfl rfl rfl ?_
  refine a_new rfl nX11_7 rfl rfl rfl f.i f.r ?_
  replace f := f.mono (t' := 202) (Nat.le_succ _)
  refine a_s rfl rfl ?_
  refine a_mIN rfl lX11_9 mo_X7_init (sp_X7_init (by first | assumption | (simp (disch := omega) only [upK_self, hK, upK_ne, oldX1, oldX0, oldX2, oldX7, oldX9, oldX5, oldX8_3, oldX8_6, oldX6, oldX3]) | (simp (disch := omega) only [upK_ne, upK_self, hK, upK_ne, oldX1, oldX0, oldX2, oldX7, oldX9, oldX5, oldX8_3, oldX8_6, oldX6, oldX3])) (by decide) (by decide) f) rfl rfl rfl rfl ?_
  replace f := frX7 (q := 201) f (by decide)
  refine a_putq rfl pfX11_10_11 (by first | assumption | (simp (disch := omega) only [upK_self, hK, upK_ne, oldX1, oldX0, oldX2, oldX7, oldX9, oldX5, oldX8_3, oldX8_6, oldX6, oldX3]) | (simp (disch := omega) only [upK_ne, upK_self, hK, upK_ne, oldX1, oldX0, oldX2, oldX7, oldX9, oldX5, oldX8_3, oldX8_6, oldX6, oldX3])) ?_
  replace f := f.putR (q := 200) (k := 0) (v := 201 + 1) (by decide)
  refine a_l0 rfl rfl rfl ?_
  refine a_new rfl nX11_16 rfl rfl rfl f.i f.r ?_
  replace f := f.mono (t' := 204) (Nat.le_succ _)
  refine a_s rfl rfl ?_
  refine a_mI rfl lX11_18 mo_X6_init (sp_X6_init (by first | assumption | (simp (disch := omega) only [upK_self, hK, upK_ne, oldX1, oldX0, oldX2, oldX7, oldX9, oldX5, oldX8_3, oldX8_6, oldX6, oldX3]) | (simp (disch := omega) only [upK_ne, upK_self, hK, upK_ne, oldX1, oldX0, oldX2, oldX7, oldX9, oldX5, oldX8_3, oldX8_6, oldX6, oldX3])) (by decide) (by decide) f) rfl rfl rfl rfl ?_
  replace f := frX6 (q := 203) f (by decide)
  refine a_putq rfl pfX11_19_11 (by first | assumption | (simp (disch := omega) only [upK_self, hK, upK_ne, oldX1, oldX0, oldX2, oldX7, oldX9, oldX5, oldX8_3, oldX8_6, oldX6, oldX3]) | (simp (disch := omega) only [upK_ne, upK_self, hK, upK_ne, oldX1, oldX0, oldX2, oldX7, oldX9, oldX5, oldX8_3, oldX8_6, oldX6, oldX3])) ?_
  replace f := f.putR (q := 200) (k := 1) (v := 203 + 1) (by decide)
  refine a_l0 rfl rfl rfl ?_
  refine a_new rfl nX11_23 rfl rfl rfl f.i f.r ?_
  replace f := f.mono (t' := 221) (Nat.le_succ _)
  refine a_s rfl rfl ?_
  refine a_mI rfl lX11_25 mo_X3_init (sp_X3_init (by first | assumption | (simp (disch := omega) only [upK_self, hK, upK_ne, oldX1, oldX0, oldX2, oldX7, oldX9, oldX5, oldX8_3, oldX8_6, oldX6, oldX3]) | (simp (disch := omega) only [upK_ne, upK_self, hK, upK_ne, oldX1, oldX0, oldX2, oldX7, oldX9, oldX5, oldX8_3, oldX8_6, oldX6, oldX3])) (by decide) (by decide) f) rfl rfl rfl rfl ?_
  replace f := frX3 (q := 220) f (by decide)
  refine a_putq rfl pfX11_26_11 (by first | assumption | (simp (disch := omega) only [upK_self, hK, upK_ne, oldX1, oldX0, oldX2, oldX7, oldX9, oldX5, oldX8_3, oldX8_6, oldX6, oldX3]) | (simp (disch := omega) only [upK_ne, upK_self, hK, upK_ne, oldX1, oldX0, oldX2, oldX7, oldX9, oldX5, oldX8_3, oldX8_6, oldX6, oldX3])) ?_
  replace f := f.putR (q := 200) (k := 2) (v := 220 + 1) (by decide)
  refine a_l0 rfl rfl rfl ?_
  refine a_s rfl rfl ?_
  refine a_puti rfl pfX11_30_11 (by first | assumption | (simp (disch := omega) only [upK_self, hK, upK_ne, oldX1, oldX0, oldX2, oldX7, oldX9, oldX5, oldX8_3, oldX8_6, oldX6, oldX3]) | (simp (disch := omega) only [upK_ne, upK_self, hK, upK_ne, oldX1, oldX0, oldX2, oldX7, oldX9, oldX5, oldX8_3, oldX8_6, oldX6, oldX3])) ?_
  replace f := f.putI (q := 200) (k := 3) (v := (-1)) (by decide)
  refine a_l0 rfl rfl rfl ?_
  refine a_new rfl nX11_34 rfl rfl rfl f.i f.r ?_
  replace f := f.mono (t' := 236) (Nat.le_succ _)
  refine a_s rfl rfl ?_
  refine a_mIN rfl lX11_36 mo_X5_init (sp_X5_init (by first | assumption | (simp (disch := omega) only [upK_self, hK, upK_ne, oldX1, oldX0, oldX2, oldX7, oldX9, oldX5, oldX8_3, oldX8_6, oldX6, oldX3]) | (simp (disch := omega) only [upK_ne, upK_self, hK, upK_ne, oldX1, oldX0, oldX2, oldX7, oldX9, oldX5, oldX8_3, oldX8_6, oldX6, oldX3])) (by decide) (by decide) f) rfl rfl rfl rfl ?_
  replace f := frX5 (q := 235) f (by decide)
  refine a_putq rfl pfX11_37_11 (by first | assumption | (simp (disch := omega) only [upK_self, hK, upK_ne, oldX1, oldX0, oldX2, oldX7, oldX9, oldX5, oldX8_3, oldX8_6, oldX6, oldX3]) | (simp (disch := omega) only [upK_ne, upK_self, hK, upK_ne, oldX1, oldX0, oldX2, oldX7, oldX9, oldX5, oldX8_3, oldX8_6, oldX6, oldX3])) ?_
  replace f := f.putR (q := 200) (k := 4) (v := 235 + 1) (by decide)
  refine a_l0 rfl rfl rfl ?_
  refine a_new rfl nX11_41 rfl rfl rfl f.i f.r ?_
  replace f := f.mono (t' := 247) (Nat.le_succ _)
  refine a_s rfl rfl ?_
  refine a_mIN rfl lX11_43 mo_X2_init (sp_X2_init (by first | assumption | (simp (disch := omega) only [upK_self, hK, upK_ne, oldX1, oldX0, oldX2, oldX7, oldX9, oldX5, oldX8_3, oldX8_6, oldX6, oldX3]) | (simp (disch := omega) only [upK_ne, upK_self, hK, upK_ne, oldX1, oldX0, oldX2, oldX7, oldX9, oldX5, oldX8_3, oldX8_6, oldX6, oldX3])) (by decide) (by decide) f) rfl rfl rfl rfl ?_
  replace f := frX2 (q := 246) f (by decide)
  refine a_putq rfl pfX11_44_11 (by first | assumption | (simp (disch := omega) only [upK_self, hK, upK_ne, oldX1, oldX0, oldX2, oldX7, oldX9, oldX5, oldX8_3, oldX8_6, oldX6, oldX3]) | (simp (disch := omega) only [upK_ne, upK_self, hK, upK_ne, oldX1, oldX0, oldX2, oldX7, oldX9, oldX5, oldX8_3, oldX8_6, oldX6, oldX3])) ?_
  replace f := f.putR (q := 200) (k := 5) (v := 246 + 1) (by decide)
  refine a_l0 rfl rfl rfl ?_
  refine a_new rfl nX11_48 rfl rfl rfl f.i f.r ?_
  replace f := f.mono (t' := 255) (Nat.le_succ _)
  refine a_s rfl rfl ?_
  refine a_mIN rfl lX11_50 mo_X0_init (sp_X0_init (by first | assumption | (simp (disch := omega) only [upK_self, hK, upK_ne, oldX1, oldX0, oldX2, oldX7, oldX9, oldX5, oldX8_3, oldX8_6, oldX6, oldX3]) | (simp (disch := omega) only [upK_ne, upK_self, hK, upK_ne, oldX1, oldX0, oldX2, oldX7, oldX9, oldX5, oldX8_3, oldX8_6, oldX6, oldX3])) (by decide) (by decide) f) rfl rfl rfl rfl ?_
  replace f := frX0 (q := 254) f (by decide)
  refine a_putq rfl pfX11_51_11 (by first | assumption | (simp (disch := omega) only [upK_self, hK, upK_ne, oldX1, oldX0, oldX2, oldX7, oldX9, oldX5, oldX8_3, oldX8_6, oldX6, oldX3]) | (simp (disch := omega) only [upK_ne, upK_self, hK, upK_ne, oldX1, oldX0, oldX2, oldX7, oldX9, oldX5, oldX8_3, oldX8_6, oldX6, oldX3])) ?_
  replace f := f.putR (q := 200) (k := 6) (v := 254 + 1) (by decide)
  refine a_l0 rfl rfl rfl ?_
  refine a_new rfl nX11_34 rfl rfl rfl f.i f.r ?_
  replace f := f.mono (t' := 258) (Nat.le_succ _)
  refine a_s rfl rfl ?_
  refine a_mIN rfl lX11_36 mo_X5_init (sp_X5_init (by first | assumption | (simp (disch := omega) only [upK_self, hK, upK_ne, oldX1, oldX0, oldX2, oldX7, oldX9, oldX5, oldX8_3, oldX8_6, oldX6, oldX3]) | (simp (disch := omega) only [upK_ne, upK_self, hK, upK_ne, oldX1, oldX0, oldX2, oldX7, oldX9, oldX5, oldX8_3, oldX8_6, oldX6, oldX3])) (by decide) (by decide) f) rfl rfl rfl rfl ?_
  replace f := frX5 (q := 257) f (by decide)
  refine a_putq rfl pfX11_55_11 (by first | assumption | (simp (disch := omega) only [upK_self, hK, upK_ne, oldX1, oldX0, oldX2, oldX7, oldX9, oldX5, oldX8_3, oldX8_6, oldX6, oldX3]) | (simp (disch := omega) only [upK_ne, upK_self, hK, upK_ne, oldX1, oldX0, oldX2, oldX7, oldX9, oldX5, oldX8_3, oldX8_6, oldX6, oldX3])) ?_
  replace f := f.putR (q := 200) (k := 7) (v := 257 + 1) (by decide)
  refine a_l0 rfl rfl rfl ?_
  refine a_new rfl nX11_34 rfl rfl rfl f.i f.r ?_
  replace f := f.mono (t' := 269) (Nat.le_succ _)
  refine a_s rfl rfl ?_
  refine a_mIN rfl lX11_36 mo_X5_init (sp_X5_init (by first | assumption | (simp (disch := omega) only [upK_self, hK, upK_ne, oldX1, oldX0, oldX2, oldX7, oldX9, oldX5, oldX8_3, oldX8_6, oldX6, oldX3]) | (simp (disch := omega) only [upK_ne, upK_self, hK, upK_ne, oldX1, oldX0, oldX2, oldX7, oldX9, oldX5, oldX8_3, oldX8_6, oldX6, oldX3])) (by decide) (by decide) f) rfl rfl rfl rfl ?_
  replace f := frX5 (q := 268) f (by decide)
  refine a_putq rfl pfX11_58_11 (by first | assumption | (simp (disch := omega) only [upK_self, hK, upK_ne, oldX1, oldX0, oldX2, oldX7, oldX9, oldX5, oldX8_3, oldX8_6, oldX6, oldX3]) | (simp (disch := omega) only [upK_ne, upK_self, hK, upK_ne, oldX1, oldX0, oldX2, oldX7, oldX9, oldX5, oldX8_3, oldX8_6, oldX6, oldX3])) ?_
  replace f := f.putR (q := 200) (k := 8) (v := 268 + 1) (by decide)
  refine a_l0 rfl rfl rfl ?_
  refine a_new rfl nX11_41 rfl rfl rfl f.i f.r ?_
  replace f := f.mono (t' := 280) (Nat.le_succ _)
  refine a_s rfl rfl ?_
  refine a_mIN rfl lX11_43 mo_X2_init (sp_X2_init (by first | assumption | (simp (disch := omega) only [upK_self, hK, upK_ne, oldX1, oldX0, oldX2, oldX7, oldX9, oldX5, oldX8_3, oldX8_6, oldX6, oldX3]) | (simp (disch := omega) only [upK_ne, upK_self, hK, upK_ne, oldX1, oldX0, oldX2, oldX7, oldX9, oldX5, oldX8_3, oldX8_6, oldX6, oldX3])) (by decide) (by decide) f) rfl rfl rfl rfl ?_
  replace f := frX2 (q := 279) f (by decide)
  refine a_putq rfl pfX11_61_11 (by first | assumption | (simp (disch := omega) only [upK_self, hK, upK_ne, oldX1, oldX0, oldX2, oldX7, oldX9, oldX5, oldX8_3, oldX8_6, oldX6, oldX3]) | (simp (disch := omega) only [upK_ne, upK_self, hK, upK_ne, oldX1, oldX0, oldX2, oldX7, oldX9, oldX5, oldX8_3, oldX8_6, oldX6, oldX3])) ?_
  replace f := f.putR (q := 200) (k := 9) (v := 279 + 1) (by decide)
  refine a_l0 rfl rfl rfl ?_
  refine a_s rfl rfl ?_
  refine a_anew (N := 12) rfl (inC2 (i := 59) rfl rfl) (by decide) (by decide) rfl rfl rfl rfl f.r ?_
  replace f := f.mono (t' := 288) (Nat.le_succ _)
  refine a_putq rfl pfX11_64_11 (by first | assumption | (simp (disch := omega) only [upK_self, hK, upK_ne, oldX1, oldX0, oldX2, oldX7, oldX9, oldX5, oldX8_3, oldX8_6, oldX6, oldX3]) | (simp (disch := omega) only [upK_ne, upK_self, hK, upK_ne, oldX1, oldX0, oldX2, oldX7, oldX9, oldX5, oldX8_3, oldX8_6, oldX6, oldX3])) ?_
  replace f := f.putR (q := 200) (k := 11) (v := 287 + 1) (by decide)
  refine a_s rfl rfl ?_
  refine a_s1 rfl rfl rfl rfl rfl rfl ?_
  refine a_l1 rfl rfl rfl ?_
  refine a_l0 rfl rfl rfl ?_
  refine a_getq (q := 287) rfl gfX11_64_11 (by first | assumption | (simp (disch := omega) only [upK_self, hK, upK_ne, oldX1, oldX0, oldX2, oldX7, oldX9, oldX5, oldX8_3, oldX8_6, oldX6, oldX3]) | (simp (disch := omega) only [upK_ne, upK_self, hK, upK_ne, oldX1, oldX0, oldX2, oldX7, oldX9, oldX5, oldX8_3, oldX8_6, oldX6, oldX3])) (by simp (disch := decide) only [up2_at, up2_ne, up2_row, rowX1, rowX0, rowX2, rowX7, rowX9, rowX5, rowX8_3, rowX8_6, rowX6, rowX3]) ?_
  refine a_len (tt := 3) (n := 12) rfl (by first | assumption | (simp (disch := omega) only [upK_self, hK, upK_ne, oldX1, oldX0, oldX2, oldX7, oldX9, oldX5, oldX8_3, oldX8_6, oldX6, oldX3]) | (simp (disch := omega) only [upK_ne, upK_self, hK, upK_ne, oldX1, oldX0, oldX2, oldX7, oldX9, oldX5, oldX8_3, oldX8_6, oldX6, oldX3])) rfl rfl ?_
  refine a_ic_ge rfl (fun c => absurd c (by decide)) (fun c => ?_)
  refine a_l0 rfl rfl rfl ?_
  refine a_getq (q := 287) rfl gfX11_64_11 (by first | assumption | (simp (disch := omega) only [upK_self, hK, upK_ne, oldX1, oldX0, oldX2, oldX7, oldX9, oldX5, oldX8_3, oldX8_6, oldX6, oldX3]) | (simp (disch := omega) only [upK_ne, upK_self, hK, upK_ne, oldX1, oldX0, oldX2, oldX7, oldX9, oldX5, oldX8_3, oldX8_6, oldX6, oldX3])) (by simp (disch := decide) only [up2_at, up2_ne, up2_row, rowX1, rowX0, rowX2, rowX7, rowX9, rowX5, rowX8_3, rowX8_6, rowX6, rowX3]) ?_
  refine a_l1 rfl rfl rfl ?_
  refine a_new rfl nX11_34 rfl rfl rfl f.i f.r ?_
  replace f := f.mono (t' := 289) (Nat.le_succ _)
  refine a_s rfl rfl ?_
  refine a_mIN rfl lX11_36 mo_X5_init (sp_X5_init (by first | assumption | (simp (disch := omega) only [upK_self, hK, upK_ne, oldX1, oldX0, oldX2, oldX7, oldX9, oldX5, oldX8_3, oldX8_6, oldX6, oldX3]) | (simp (disch := omega) only [upK_ne, upK_self, hK, upK_ne, oldX1, oldX0, oldX2, oldX7, oldX9, oldX5, oldX8_3, oldX8_6, oldX6, oldX3])) (by decide) (by decide) f) rfl rfl rfl rfl ?_
  replace f := frX5 (q := 288) f (by decide)
  refine a_aast (n := 12) rfl (by first | assumption | (simp (disch := omega) only [upK_self, hK, upK_ne, oldX1, oldX0, oldX2, oldX7, oldX9, oldX5, oldX8_3, oldX8_6, oldX6, oldX3]) | (simp (disch := omega) only [upK_ne, upK_self, hK, upK_ne, oldX1, oldX0, oldX2, oldX7, oldX9, oldX5, oldX8_3, oldX8_6, oldX6, oldX3])) (by first | assumption | (simp (disch := omega) only [upK_self, hK, upK_ne, oldX1, oldX0, oldX2, oldX7, oldX9, oldX5, oldX8_3, oldX8_6, oldX6, oldX3]) | (simp (disch := omega) only [upK_ne, upK_self, hK, upK_ne, oldX1, oldX0, oldX2, oldX7, oldX9, oldX5, oldX8_3, oldX8_6, oldX6, oldX3])) ⟨by decide, by decide⟩ ?_
  replace f := f.putR (q := 287) (k := 0) (v := 288 + 1) (by decide)
  refine a_i1 rfl rfl rfl ?_
  refine a_goto rfl ?_
  refine a_l1 rfl rfl rfl ?_
  refine a_l0 rfl rfl rfl ?_
  refine a_getq (q := 287) rfl gfX11_64_11 (by first | assumption | (simp (disch := omega) only [upK_self, hK, upK_ne, oldX1, oldX0, oldX2, oldX7, oldX9, oldX5, oldX8_3, oldX8_6, oldX6, oldX3]) | (simp (disch := omega) only [upK_ne, upK_self, hK, upK_ne, oldX1, oldX0, oldX2, oldX7, oldX9, oldX5, oldX8_3, oldX8_6, oldX6, oldX3])) (by simp (disch := decide) only [up2_at, up2_ne, up2_row, rowX1, rowX0, rowX2, rowX7, rowX9, rowX5, rowX8_3, rowX8_6, rowX6, rowX3]) ?_
  refine a_len (tt := 3) (n := 12) rfl (by first | assumption | (simp (disch := omega) only [upK_self, hK, upK_ne, oldX1, oldX0, oldX2, oldX7, oldX9, oldX5, oldX8_3, oldX8_6, oldX6, oldX3]) | (simp (disch := omega) only [upK_ne, upK_self, hK, upK_ne, oldX1, oldX0, oldX2, oldX7, oldX9, oldX5, oldX8_3, oldX8_6, oldX6, oldX3])) rfl rfl ?_
  refine a_ic_ge rfl (fun c => absurd c (by decide)) (fun c => ?_)
  refine a_l0 rfl rfl rfl ?_
  refine a_getq (q := 287) rfl gfX11_64_11 (by first | assumption | (simp (disch := omega) only [upK_self, hK, upK_ne, oldX1, oldX0, oldX2, oldX7, oldX9, oldX5, oldX8_3, oldX8_6, oldX6, oldX3]) | (simp (disch := omega) only [upK_ne, upK_self, hK, upK_ne, oldX1, oldX0, oldX2, oldX7, oldX9, oldX5, oldX8_3, oldX8_6, oldX6, oldX3])) (by simp (disch := decide) only [up2_at, up2_ne, up2_row, rowX1, rowX0, rowX2, rowX7, rowX9, rowX5, rowX8_3, rowX8_6, rowX6, rowX3]) ?_
  refine a_l1 rfl rfl rfl ?_
  refine a_new rfl nX11_34 rfl rfl rfl f.i f.r ?_
  replace f := f.mono (t' := 300) (Nat.le_succ _)
  refine a_s rfl rfl ?_
  refine a_mIN rfl lX11_36 mo_X5_init (sp_X5_init (by first | assumption | (simp (disch := omega) only [upK_self, hK, upK_ne, oldX1, oldX0, oldX2, oldX7, oldX9, oldX5, oldX8_3, oldX8_6, oldX6, oldX3]) | (simp (disch := omega) only [upK_ne, upK_self, hK, upK_ne, oldX1, oldX0, oldX2, oldX7, oldX9, oldX5, oldX8_3, oldX8_6, oldX6, oldX3])) (by decide) (by decide) f) rfl rfl rfl rfl ?_
  replace f := frX5 (q := 299) f (by decide)
  refine a_aast (n := 12) rfl (by first | assumption | (simp (disch := omega) only [upK_self, hK, upK_ne, oldX1, oldX0, oldX2, oldX7, oldX9, oldX5, oldX8_3, oldX8_6, oldX6, oldX3]) | (simp (disch := omega) only [upK_ne, upK_self, hK, upK_ne, oldX1, oldX0, oldX2, oldX7, oldX9, oldX5, oldX8_3, oldX8_6, oldX6, oldX3])) (by first | assumption | (simp (disch := omega) only [upK_self, hK, upK_ne, oldX1, oldX0, oldX2, oldX7, oldX9, oldX5, oldX8_3, oldX8_6, oldX6, oldX3]) | (simp (disch := omega) only [upK_ne, upK_self, hK, upK_ne, oldX1, oldX0, oldX2, oldX7, oldX9, oldX5, oldX8_3, oldX8_6, oldX6, oldX3])) ⟨by decide, by decide⟩ ?_
  replace f := f.putR (q := 287) (k := 1) (v := 299 + 1) (by decide)
  refine a_i1 rfl rfl rfl ?_
  refine a_goto rfl ?_
  refine a_l1 rfl rfl rfl ?_
  refine a_l0 rfl rfl rfl ?_
  refine a_getq (q := 287) rfl gfX11_64_11 (by first | assumption | (simp (disch := omega) only [upK_self, hK, upK_ne, oldX1, oldX0, oldX2, oldX7, oldX9, oldX5, oldX8_3, oldX8_6, oldX6, oldX3]) | (simp (disch := omega) only [upK_ne, upK_self, hK, upK_ne, oldX1, oldX0, oldX2, oldX7, oldX9, oldX5, oldX8_3, oldX8_6, oldX6, oldX3])) (by simp (disch := decide) only [up2_at, up2_ne, up2_row, rowX1, rowX0, rowX2, rowX7, rowX9, rowX5, rowX8_3, rowX8_6, rowX6, rowX3]) ?_
  refine a_len (tt := 3) (n := 12) rfl (by first | assumption | (simp (disch := omega) only [upK_self, hK, upK_ne, oldX1, oldX0, oldX2, oldX7, oldX9, oldX5, oldX8_3, oldX8_6, oldX6, oldX3]) | (simp (disch := omega) only [upK_ne, upK_self, hK, upK_ne, oldX1, oldX0, oldX2, oldX7, oldX9, oldX5, oldX8_3, oldX8_6, oldX6, oldX3])) rfl rfl ?_
  refine a_ic_ge rfl (fun c => absurd c (by decide)) (fun c => ?_)
  refine a_l0 rfl rfl rfl ?_
  refine a_getq (q := 287) rfl gfX11_64_11 (by first | assumption | (simp (disch := omega) only [upK_self, hK, upK_ne, oldX1, oldX0, oldX2, oldX7, oldX9, oldX5, oldX8_3, oldX8_6, oldX6, oldX3]) | (simp (disch := omega) only [upK_ne, upK_self, hK, upK_ne, oldX1, oldX0, oldX2, oldX7, oldX9, oldX5, oldX8_3, oldX8_6, oldX6, oldX3])) (by simp (disch := decide) only [up2_at, up2_ne, up2_row, rowX1, rowX0, rowX2, rowX7, rowX9, rowX5, rowX8_3, rowX8_6, rowX6, rowX3]) ?_
  refine a_l1 rfl rfl rfl ?_
  refine a_new rfl nX11_34 rfl rfl rfl f.i f.r ?_
  replace f := f.mono (t' := 311) (Nat.le_succ _)
  refine a_s rfl rfl ?_
  refine a_mIN rfl lX11_36 mo_X5_init (sp_X5_init (by first | assumption | (simp (disch := omega) only [upK_self, hK, upK_ne, oldX1, oldX0, oldX2, oldX7, oldX9, oldX5, oldX8_3, oldX8_6, oldX6, oldX3]) | (simp (disch := omega) only [upK_ne, upK_self, hK, upK_ne, oldX1, oldX0, oldX2, oldX7, oldX9, oldX5, oldX8_3, oldX8_6, oldX6, oldX3])) (by decide) (by decide) f) rfl rfl rfl rfl ?_
  replace f := frX5 (q := 310) f (by decide)
  refine a_aast (n := 12) rfl (by first | assumption | (simp (disch := omega) only [upK_self, hK, upK_ne, oldX1, oldX0, oldX2, oldX7, oldX9, oldX5, oldX8_3, oldX8_6, oldX6, oldX3]) | (simp (disch := omega) only [upK_ne, upK_self, hK, upK_ne, oldX1, oldX0, oldX2, oldX7, oldX9, oldX5, oldX8_3, oldX8_6, oldX6, oldX3])) (by first | assumption | (simp (disch := omega) only [upK_self, hK, upK_ne, oldX1, oldX0, oldX2, oldX7, oldX9, oldX5, oldX8_3, oldX8_6, oldX6, oldX3]) | (simp (disch := omega) only [upK_ne, upK_self, hK, upK_ne, oldX1, oldX0, oldX2, oldX7, oldX9, oldX5, oldX8_3, oldX8_6, oldX6, oldX3])) ⟨by decide, by decide⟩ ?_
  replace f := f.putR (q := 287) (k := 2) (v := 310 + 1) (by decide)
  refine a_i1 rfl rfl rfl ?_
  refine a_goto rfl ?_
  refine a_l1 rfl rfl rfl ?_
  refine a_l0 rfl rfl rfl ?_
  refine a_getq (q := 287) rfl gfX11_64_11 (by first | assumption | (simp (disch := omega) only [upK_self, hK, upK_ne, oldX1, oldX0, oldX2, oldX7, oldX9, oldX5, oldX8_3, oldX8_6, oldX6, oldX3]) | (simp (disch := omega) only [upK_ne, upK_self, hK, upK_ne, oldX1, oldX0, oldX2, oldX7, oldX9, oldX5, oldX8_3, oldX8_6, oldX6, oldX3])) (by simp (disch := decide) only [up2_at, up2_ne, up2_row, rowX1, rowX0, rowX2, rowX7, rowX9, rowX5, rowX8_3, rowX8_6, rowX6, rowX3]) ?_
  refine a_len (tt := 3) (n := 12) rfl (by first | assumption | (simp (disch := omega) only [upK_self, hK, upK_ne, oldX1, oldX0, oldX2, oldX7, oldX9, oldX5, oldX8_3, oldX8_6, oldX6, oldX3]) | (simp (disch := omega) only [upK_ne, upK_self, hK, upK_ne, oldX1, oldX0, oldX2, oldX7, oldX9, oldX5, oldX8_3, oldX8_6, oldX6, oldX3])) rfl rfl ?_
  refine a_ic_ge rfl (fun c => absurd c (by decide)) (fun c => ?_)
  refine a_l0 rfl rfl rfl ?_
  refine a_getq (q := 287) rfl gfX11_64_11 (by first | assumption | (simp (disch := omega) only [upK_self, hK, upK_ne, oldX1, oldX0, oldX2, oldX7, oldX9, oldX5, oldX8_3, oldX8_6, oldX6, oldX3]) | (simp (disch := omega) only [upK_ne, upK_self, hK, upK_ne, oldX1, oldX0, oldX2, oldX7, oldX9, oldX5, oldX8_3, oldX8_6, oldX6, oldX3])) (by simp (disch := decide) only [up2_at, up2_ne, up2_row, rowX1, rowX0, rowX2, rowX7, rowX9, rowX5, rowX8_3, rowX8_6, rowX6, rowX3]) ?_
  refine a_l1 rfl rfl rfl ?_
  refine a_new rfl nX11_34 rfl rfl rfl f.i f.r ?_
  replace f := f.mono (t' := 322) (Nat.le_succ _)
  refine a_s rfl rfl ?_
  refine a_mIN rfl lX11_36 mo_X5_init (sp_X5_init (by first | assumption | (simp (disch := omega) only [upK_self, hK, upK_ne, oldX1, oldX0, oldX2, oldX7, oldX9, oldX5, oldX8_3, oldX8_6, oldX6, oldX3]) | (simp (disch := omega) only [upK_ne, upK_self, hK, upK_ne, oldX1, oldX0, oldX2, oldX7, oldX9, oldX5, oldX8_3, oldX8_6, oldX6, oldX3])) (by decide) (by decide) f) rfl rfl rfl rfl ?_
  replace f := frX5 (q := 321) f (by decide)
  refine a_aast (n := 12) rfl (by first | assumption | (simp (disch := omega) only [upK_self, hK, upK_ne, oldX1, oldX0, oldX2, oldX7, oldX9, oldX5, oldX8_3, oldX8_6, oldX6, oldX3]) | (simp (disch := omega) only [upK_ne, upK_self, hK, upK_ne, oldX1, oldX0, oldX2, oldX7, oldX9, oldX5, oldX8_3, oldX8_6, oldX6, oldX3])) (by first | assumption | (simp (disch := omega) only [upK_self, hK, upK_ne, oldX1, oldX0, oldX2, oldX7, oldX9, oldX5, oldX8_3, oldX8_6, oldX6, oldX3]) | (simp (disch := omega) only [upK_ne, upK_self, hK, upK_ne, oldX1, oldX0, oldX2, oldX7, oldX9, oldX5, oldX8_3, oldX8_6, oldX6, oldX3])) ⟨by decide, by decide⟩ ?_
  replace f := f.putR (q := 287) (k := 3) (v := 321 + 1) (by decide)
  refine a_i1 rfl rfl rfl ?_
  refine a_goto rfl ?_
  refine a_l1 rfl rfl rfl ?_
  refine a_l0 rfl rfl rfl ?_
  refine a_getq (q := 287) rfl gfX11_64_11 (by first | assumption | (simp (disch := omega) only [upK_self, hK, upK_ne, oldX1, oldX0, oldX2, oldX7, oldX9, oldX5, oldX8_3, oldX8_6, oldX6, oldX3]) | (simp (disch := omega) only [upK_ne, upK_self, hK, upK_ne, oldX1, oldX0, oldX2, oldX7, oldX9, oldX5, oldX8_3, oldX8_6, oldX6, oldX3])) (by simp (disch := decide) only [up2_at, up2_ne, up2_row, rowX1, rowX0, rowX2, rowX7, rowX9, rowX5, rowX8_3, rowX8_6, rowX6, rowX3]) ?_
  refine a_len (tt := 3) (n := 12) rfl (by first | assumption | (simp (disch := omega) only [upK_self, hK, upK_ne, oldX1, oldX0, oldX2, oldX7, oldX9, oldX5, oldX8_3, oldX8_6, oldX6, oldX3]) | (simp (disch := omega) only [upK_ne, upK_self, hK, upK_ne, oldX1, oldX0, oldX2, oldX7, oldX9, oldX5, oldX8_3, oldX8_6, oldX6, oldX3])) rfl rfl ?_
  refine a_ic_ge rfl (fun c => absurd c (by decide)) (fun c => ?_)
  refine a_l0 rfl rfl rfl ?_
  refine a_getq (q := 287) rfl gfX11_64_11 (by first | assumption | (simp (disch := omega) only [upK_self, hK, upK_ne, oldX1, oldX0, oldX2, oldX7, oldX9, oldX5, oldX8_3, oldX8_6, oldX6, oldX3]) | (simp (disch := omega) only [upK_ne, upK_self, hK, upK_ne, oldX1, oldX0, oldX2, oldX7, oldX9, oldX5, oldX8_3, oldX8_6, oldX6, oldX3])) (by simp (disch := decide) only [up2_at, up2_ne, up2_row, rowX1, rowX0, rowX2, rowX7, rowX9, rowX5, rowX8_3, rowX8_6, rowX6, rowX3]) ?_
  refine a_l1 rfl rfl rfl ?_
  refine a_new rfl nX11_34 rfl rfl rfl f.i f.r ?_
  replace f := f.mono (t' := 333) (Nat.le_succ _)
  refine a_s rfl rfl ?_
  refine a_mIN rfl lX11_36 mo_X5_init (sp_X5_init (by first | assumption | (simp (disch := omega) only [upK_self, hK, upK_ne, oldX1, oldX0, oldX2, oldX7, oldX9, oldX5, oldX8_3, oldX8_6, oldX6, oldX3]) | (simp (disch := omega) only [upK_ne, upK_self, hK, upK_ne, oldX1, oldX0, oldX2, oldX7, oldX9, oldX5, oldX8_3, oldX8_6, oldX6, oldX3])) (by decide) (by decide) f) rfl rfl rfl rfl ?_
  replace f := frX5 (q := 332) f (by decide)
  refine a_aast (n := 12) rfl (by first | assumption | (simp (disch := omega) only [upK_self, hK, upK_ne, oldX1, oldX0, oldX2, oldX7, oldX9, oldX5, oldX8_3, oldX8_6, oldX6, oldX3]) | (simp (disch := omega) only [upK_ne, upK_self, hK, upK_ne, oldX1, oldX0, oldX2, oldX7, oldX9, oldX5, oldX8_3, oldX8_6, oldX6, oldX3])) (by first | assumption | (simp (disch := omega) only [upK_self, hK, upK_ne, oldX1, oldX0, oldX2, oldX7, oldX9, oldX5, oldX8_3, oldX8_6, oldX6, oldX3]) | (simp (disch := omega) only [upK_ne, upK_self, hK, upK_ne, oldX1, oldX0, oldX2, oldX7, oldX9, oldX5, oldX8_3, oldX8_6, oldX6, oldX3])) ⟨by decide, by decide⟩ ?_
  replace f := f.putR (q := 287) (k := 4) (v := 332 + 1) (by decide)
  refine a_i1 rfl rfl rfl ?_
  refine a_goto rfl ?_
  refine a_l1 rfl rfl rfl ?_
  refine a_l0 rfl rfl rfl ?_
  refine a_getq (q := 287) rfl gfX11_64_11 (by first | assumption | (simp (disch := omega) only [upK_self, hK, upK_ne, oldX1, oldX0, oldX2, oldX7, oldX9, oldX5, oldX8_3, oldX8_6, oldX6, oldX3]) | (simp (disch := omega) only [upK_ne, upK_self, hK, upK_ne, oldX1, oldX0, oldX2, oldX7, oldX9, oldX5, oldX8_3, oldX8_6, oldX6, oldX3])) (by simp (disch := decide) only [up2_at, up2_ne, up2_row, rowX1, rowX0, rowX2, rowX7, rowX9, rowX5, rowX8_3, rowX8_6, rowX6, rowX3]) ?_
  refine a_len (tt := 3) (n := 12) rfl (by first | assumption | (simp (disch := omega) only [upK_self, hK, upK_ne, oldX1, oldX0, oldX2, oldX7, oldX9, oldX5, oldX8_3, oldX8_6, oldX6, oldX3]) | (simp (disch := omega) only [upK_ne, upK_self, hK, upK_ne, oldX1, oldX0, oldX2, oldX7, oldX9, oldX5, oldX8_3, oldX8_6, oldX6, oldX3])) rfl rfl ?_
  refine a_ic_ge rfl (fun c => absurd c (by decide)) (fun c => ?_)
  refine a_l0 rfl rfl rfl ?_
  refine a_getq (q := 287) rfl gfX11_64_11 (by first | assumption | (simp (disch := omega) only [upK_self, hK, upK_ne, oldX1, oldX0, oldX2, oldX7, oldX9, oldX5, oldX8_3, oldX8_6, oldX6, oldX3]) | (simp (disch := omega) only [upK_ne, upK_self, hK, upK_ne, oldX1, oldX0, oldX2, oldX7, oldX9, oldX5, oldX8_3, oldX8_6, oldX6, oldX3])) (by simp (disch := decide) only [up2_at, up2_ne, up2_row, rowX1, rowX0, rowX2, rowX7, rowX9, rowX5, rowX8_3, rowX8_6, rowX6, rowX3]) ?_
  refine a_l1 rfl rfl rfl ?_
  refine a_new rfl nX11_34 rfl rfl rfl f.i f.r ?_
  replace f := f.mono (t' := 344) (Nat.le_succ _)
  refine a_s rfl rfl ?_
  refine a_mIN rfl lX11_36 mo_X5_init (sp_X5_init (by first | assumption | (simp (disch := omega) only [upK_self, hK, upK_ne, oldX1, oldX0, oldX2, oldX7, oldX9, oldX5, oldX8_3, oldX8_6, oldX6, oldX3]) | (simp (disch := omega) only [upK_ne, upK_self, hK, upK_ne, oldX1, oldX0, oldX2, oldX7, oldX9, oldX5, oldX8_3, oldX8_6, oldX6, oldX3])) (by decide) (by decide) f) rfl rfl rfl rfl ?_
  replace f := frX5 (q := 343) f (by decide)
  refine a_aast (n := 12) rfl (by first | assumption | (simp (disch := omega) only [upK_self, hK, upK_ne, oldX1, oldX0, oldX2, oldX7, oldX9, oldX5, oldX8_3, oldX8_6, oldX6, oldX3]) | (simp (disch := omega) only [upK_ne, upK_self, hK, upK_ne, oldX1, oldX0, oldX2, oldX7, oldX9, oldX5, oldX8_3, oldX8_6, oldX6, oldX3])) (by first | assumption | (simp (disch := omega) only [upK_self, hK, upK_ne, oldX1, oldX0, oldX2, oldX7, oldX9, oldX5, oldX8_3, oldX8_6, oldX6, oldX3]) | (simp (disch := omega) only [upK_ne, upK_self, hK, upK_ne, oldX1, oldX0, oldX2, oldX7, oldX9, oldX5, oldX8_3, oldX8_6, oldX6, oldX3])) ⟨by decide, by decide⟩ ?_
  replace f := f.putR (q := 287) (k := 5) (v := 343 + 1) (by decide)
  refine a_i1 rfl rfl rfl ?_
  refine a_goto rfl ?_
  refine a_l1 rfl rfl rfl ?_
  refine a_l0 rfl rfl rfl ?_
  refine a_getq (q := 287) rfl gfX11_64_11 (by first | assumption | (simp (disch := omega) only [upK_self, hK, upK_ne, oldX1, oldX0, oldX2, oldX7, oldX9, oldX5, oldX8_3, oldX8_6, oldX6, oldX3]) | (simp (disch := omega) only [upK_ne, upK_self, hK, upK_ne, oldX1, oldX0, oldX2, oldX7, oldX9, oldX5, oldX8_3, oldX8_6, oldX6, oldX3])) (by simp (disch := decide) only [up2_at, up2_ne, up2_row, rowX1, rowX0, rowX2, rowX7, rowX9, rowX5, rowX8_3, rowX8_6, rowX6, rowX3]) ?_
  refine a_len (tt := 3) (n := 12) rfl (by first | assumption | (simp (disch := omega) only [upK_self, hK, upK_ne, oldX1, oldX0, oldX2, oldX7, oldX9, oldX5, oldX8_3, oldX8_6, oldX6, oldX3]) | (simp (disch := omega) only [upK_ne, upK_self, hK, upK_ne, oldX1, oldX0, oldX2, oldX7, oldX9, oldX5, oldX8_3, oldX8_6, oldX6, oldX3])) rfl rfl ?_
  refine a_ic_ge rfl (fun c => absurd c (by decide)) (fun c => ?_)
  refine a_l0 rfl rfl rfl ?_
  refine a_getq (q := 287) rfl gfX11_64_11 (by first | assumption | (simp (disch := omega) only [upK_self, hK, upK_ne, oldX1, oldX0, oldX2, oldX7, oldX9, oldX5, oldX8_3, oldX8_6, oldX6, oldX3]) | (simp (disch := omega) only [upK_ne, upK_self, hK, upK_ne, oldX1, oldX0, oldX2, oldX7, oldX9, oldX5, oldX8_3, oldX8_6, oldX6, oldX3])) (by simp (disch := decide) only [up2_at, up2_ne, up2_row, rowX1, rowX0, rowX2, rowX7, rowX9, rowX5, rowX8_3, rowX8_6, rowX6, rowX3]) ?_
  refine a_l1 rfl rfl rfl ?_
  refine a_new rfl nX11_34 rfl rfl rfl f.i f.r ?_
  replace f := f.mono (t' := 355) (Nat.le_succ _)
  refine a_s rfl rfl ?_
  refine a_mIN rfl lX11_36 mo_X5_init (sp_X5_init (by first | assumption | (simp (disch := omega) only [upK_self, hK, upK_ne, oldX1, oldX0, oldX2, oldX7, oldX9, oldX5, oldX8_3, oldX8_6, oldX6, oldX3]) | (simp (disch := omega) only [upK_ne, upK_self, hK, upK_ne, oldX1, oldX0, oldX2, oldX7, oldX9, oldX5, oldX8_3, oldX8_6, oldX6, oldX3])) (by decide) (by decide) f) rfl rfl rfl rfl ?_
  replace f := frX5 (q := 354) f (by decide)
  refine a_aast (n := 12) rfl (by first | assumption | (simp (disch := omega) only [upK_self, hK, upK_ne, oldX1, oldX0, oldX2, oldX7, oldX9, oldX5, oldX8_3, oldX8_6, oldX6, oldX3]) | (simp (disch := omega) only [upK_ne, upK_self, hK, upK_ne, oldX1, oldX0, oldX2, oldX7, oldX9, oldX5, oldX8_3, oldX8_6, oldX6, oldX3])) (by first | assumption | (simp (disch := omega) only [upK_self, hK, upK_ne, oldX1, oldX0, oldX2, oldX7, oldX9, oldX5, oldX8_3, oldX8_6, oldX6, oldX3]) | (simp (disch := omega) only [upK_ne, upK_self, hK, upK_ne, oldX1, oldX0, oldX2, oldX7, oldX9, oldX5, oldX8_3, oldX8_6, oldX6, oldX3])) ⟨by decide, by decide⟩ ?_
  replace f := f.putR (q := 287) (k := 6) (v := 354 + 1) (by decide)
  refine a_i1 rfl rfl rfl ?_
  refine a_goto rfl ?_
  refine a_l1 rfl rfl rfl ?_
  refine a_l0 rfl rfl rfl ?_
  refine a_getq (q := 287) rfl gfX11_64_11 (by first | assumption | (simp (disch := omega) only [upK_self, hK, upK_ne, oldX1, oldX0, oldX2, oldX7, oldX9, oldX5, oldX8_3, oldX8_6, oldX6, oldX3]) | (simp (disch := omega) only [upK_ne, upK_self, hK, upK_ne, oldX1, oldX0, oldX2, oldX7, oldX9, oldX5, oldX8_3, oldX8_6, oldX6, oldX3])) (by simp (disch := decide) only [up2_at, up2_ne, up2_row, rowX1, rowX0, rowX2, rowX7, rowX9, rowX5, rowX8_3, rowX8_6, rowX6, rowX3]) ?_
  refine a_len (tt := 3) (n := 12) rfl (by first | assumption | (simp (disch := omega) only [upK_self, hK, upK_ne, oldX1, oldX0, oldX2, oldX7, oldX9, oldX5, oldX8_3, oldX8_6, oldX6, oldX3]) | (simp (disch := omega) only [upK_ne, upK_self, hK, upK_ne, oldX1, oldX0, oldX2, oldX7, oldX9, oldX5, oldX8_3, oldX8_6, oldX6, oldX3])) rfl rfl ?_
  refine a_ic_ge rfl (fun c => absurd c (by decide)) (fun c => ?_)
  refine a_l0 rfl rfl rfl ?_
  refine a_getq (q := 287) rfl gfX11_64_11 (by first | assumption | (simp (disch := omega) only [upK_self, hK, upK_ne, oldX1, oldX0, oldX2, oldX7, oldX9, oldX5, oldX8_3, oldX8_6, oldX6, oldX3]) | (simp (disch := omega) only [upK_ne, upK_self, hK, upK_ne, oldX1, oldX0, oldX2, oldX7, oldX9, oldX5, oldX8_3, oldX8_6, oldX6, oldX3])) (by simp (disch := decide) only [up2_at, up2_ne, up2_row, rowX1, rowX0, rowX2, rowX7, rowX9, rowX5, rowX8_3, rowX8_6, rowX6, rowX3]) ?_
  refine a_l1 rfl rfl rfl ?_
  refine a_new rfl nX11_34 rfl rfl rfl f.i f.r ?_
  replace f := f.mono (t' := 366) (Nat.le_succ _)
  refine a_s rfl rfl ?_
  refine a_mIN rfl lX11_36 mo_X5_init (sp_X5_init (by first | assumption | (simp (disch := omega) only [upK_self, hK, upK_ne, oldX1, oldX0, oldX2, oldX7, oldX9, oldX5, oldX8_3, oldX8_6, oldX6, oldX3]) | (simp (disch := omega) only [upK_ne, upK_self, hK, upK_ne, oldX1, oldX0, oldX2, oldX7, oldX9, oldX5, oldX8_3, oldX8_6, oldX6, oldX3])) (by decide) (by decide) f) rfl rfl rfl rfl ?_
  replace f := frX5 (q := 365) f (by decide)
  refine a_aast (n := 12) rfl (by first | assumption | (simp (disch := omega) only [upK_self, hK, upK_ne, oldX1, oldX0, oldX2, oldX7, oldX9, oldX5, oldX8_3, oldX8_6, oldX6, oldX3]) | (simp (disch := omega) only [upK_ne, upK_self, hK, upK_ne, oldX1, oldX0, oldX2, oldX7, oldX9, oldX5, oldX8_3, oldX8_6, oldX6, oldX3])) (by first | assumption | (simp (disch := omega) only [upK_self, hK, upK_ne, oldX1, oldX0, oldX2, oldX7, oldX9, oldX5, oldX8_3, oldX8_6, oldX6, oldX3]) | (simp (disch := omega) only [upK_ne, upK_self, hK, upK_ne, oldX1, oldX0, oldX2, oldX7, oldX9, oldX5, oldX8_3, oldX8_6, oldX6, oldX3])) ⟨by decide, by decide⟩ ?_
  replace f := f.putR (q := 287) (k := 7) (v := 365 + 1) (by decide)
  refine a_i1 rfl rfl rfl ?_
  refine a_goto rfl ?_
  refine a_l1 rfl rfl rfl ?_
  refine a_l0 rfl rfl rfl ?_
  refine a_getq (q := 287) rfl gfX11_64_11 (by first | assumption | (simp (disch := omega) only [upK_self, hK, upK_ne, oldX1, oldX0, oldX2, oldX7, oldX9, oldX5, oldX8_3, oldX8_6, oldX6, oldX3]) | (simp (disch := omega) only [upK_ne, upK_self, hK, upK_ne, oldX1, oldX0, oldX2, oldX7, oldX9, oldX5, oldX8_3, oldX8_6, oldX6, oldX3])) (by simp (disch := decide) only [up2_at, up2_ne, up2_row, rowX1, rowX0, rowX2, rowX7, rowX9, rowX5, rowX8_3, rowX8_6, rowX6, rowX3]) ?_
  refine a_len (tt := 3) (n := 12) rfl (by first | assumption | (simp (disch := omega) only [upK_self, hK, upK_ne, oldX1, oldX0, oldX2, oldX7, oldX9, oldX5, oldX8_3, oldX8_6, oldX6, oldX3]) | (simp (disch := omega) only [upK_ne, upK_self, hK, upK_ne, oldX1, oldX0, oldX2, oldX7, oldX9, oldX5, oldX8_3, oldX8_6, oldX6, oldX3])) rfl rfl ?_
  refine a_ic_ge rfl (fun c => absurd c (by decide)) (fun c => ?_)
  refine a_l0 rfl rfl rfl ?_
  refine a_getq (q := 287) rfl gfX11_64_11 (by first | assumption | (simp (disch := omega) only [upK_self, hK, upK_ne, oldX1, oldX0, oldX2, oldX7, oldX9, oldX5, oldX8_3, oldX8_6, oldX6, oldX3]) | (simp (disch := omega) only [upK_ne, upK_self, hK, upK_ne, oldX1, oldX0, oldX2, oldX7, oldX9, oldX5, oldX8_3, oldX8_6, oldX6, oldX3])) (by simp (disch := decide) only [up2_at, up2_ne, up2_row, rowX1, rowX0, rowX2, rowX7, rowX9, rowX5, rowX8_3, rowX8_6, rowX6, rowX3]) ?_
  refine a_l1 rfl rfl rfl ?_
  refine a_new rfl nX11_34 rfl rfl rfl f.i f.r ?_
  replace f := f.mono (t' := 377) (Nat.le_succ _)
  refine a_s rfl rfl ?_
  refine a_mIN rfl lX11_36 mo_X5_init (sp_X5_init (by first | assumption | (simp (disch := omega) only [upK_self, hK, upK_ne, oldX1, oldX0, oldX2, oldX7, oldX9, oldX5, oldX8_3, oldX8_6, oldX6, oldX3]) | (simp (disch := omega) only [upK_ne, upK_self, hK, upK_ne, oldX1, oldX0, oldX2, oldX7, oldX9, oldX5, oldX8_3, oldX8_6, oldX6, oldX3])) (by decide) (by decide) f) rfl rfl rfl rfl ?_
  replace f := frX5 (q := 376) f (by decide)
  refine a_aast (n := 12) rfl (by first | assumption | (simp (disch := omega) only [upK_self, hK, upK_ne, oldX1, oldX0, oldX2, oldX7, oldX9, oldX5, oldX8_3, oldX8_6, oldX6, oldX3]) | (simp (disch := omega) only [upK_ne, upK_self, hK, upK_ne, oldX1, oldX0, oldX2, oldX7, oldX9, oldX5, oldX8_3, oldX8_6, oldX6, oldX3])) (by first | assumption | (simp (disch := omega) only [upK_self, hK, upK_ne, oldX1, oldX0, oldX2, oldX7, oldX9, oldX5, oldX8_3, oldX8_6, oldX6, oldX3]) | (simp (disch := omega) only [upK_ne, upK_self, hK, upK_ne, oldX1, oldX0, oldX2, oldX7, oldX9, oldX5, oldX8_3, oldX8_6, oldX6, oldX3])) ⟨by decide, by decide⟩ ?_
  replace f := f.putR (q := 287) (k := 8) (v := 376 + 1) (by decide)
  refine a_i1 rfl rfl rfl ?_
  refine a_goto rfl ?_
  refine a_l1 rfl rfl rfl ?_
  refine a_l0 rfl rfl rfl ?_
  refine a_getq (q := 287) rfl gfX11_64_11 (by first | assumption | (simp (disch := omega) only [upK_self, hK, upK_ne, oldX1, oldX0, oldX2, oldX7, oldX9, oldX5, oldX8_3, oldX8_6, oldX6, oldX3]) | (simp (disch := omega) only [upK_ne, upK_self, hK, upK_ne, oldX1, oldX0, oldX2, oldX7, oldX9, oldX5, oldX8_3, oldX8_6, oldX6, oldX3])) (by simp (disch := decide) only [up2_at, up2_ne, up2_row, rowX1, rowX0, rowX2, rowX7, rowX9, rowX5, rowX8_3, rowX8_6, rowX6, rowX3]) ?_
  refine a_len (tt := 3) (n := 12) rfl (by first | assumption | (simp (disch := omega) only [upK_self, hK, upK_ne, oldX1, oldX0, oldX2, oldX7, oldX9, oldX5, oldX8_3, oldX8_6, oldX6, oldX3]) | (simp (disch := omega) only [upK_ne, upK_self, hK, upK_ne, oldX1, oldX0, oldX2, oldX7, oldX9, oldX5, oldX8_3, oldX8_6, oldX6, oldX3])) rfl rfl ?_
  refine a_ic_ge rfl (fun c => absurd c (by decide)) (fun c => ?_)
  refine a_l0 rfl rfl rfl ?_
  refine a_getq (q := 287) rfl gfX11_64_11 (by first | assumption | (simp (disch := omega) only [upK_self, hK, upK_ne, oldX1, oldX0, oldX2, oldX7, oldX9, oldX5, oldX8_3, oldX8_6, oldX6, oldX3]) | (simp (disch := omega) only [upK_ne, upK_self, hK, upK_ne, oldX1, oldX0, oldX2, oldX7, oldX9, oldX5, oldX8_3, oldX8_6, oldX6, oldX3])) (by simp (disch := decide) only [up2_at, up2_ne, up2_row, rowX1, rowX0, rowX2, rowX7, rowX9, rowX5, rowX8_3, rowX8_6, rowX6, rowX3]) ?_
  refine a_l1 rfl rfl rfl ?_
  refine a_new rfl nX11_34 rfl rfl rfl f.i f.r ?_
  replace f := f.mono (t' := 388) (Nat.le_succ _)
  refine a_s rfl rfl ?_
  refine a_mIN rfl lX11_36 mo_X5_init (sp_X5_init (by first | assumption | (simp (disch := omega) only [upK_self, hK, upK_ne, oldX1, oldX0, oldX2, oldX7, oldX9, oldX5, oldX8_3, oldX8_6, oldX6, oldX3]) | (simp (disch := omega) only [upK_ne, upK_self, hK, upK_ne, oldX1, oldX0, oldX2, oldX7, oldX9, oldX5, oldX8_3, oldX8_6, oldX6, oldX3])) (by decide) (by decide) f) rfl rfl rfl rfl ?_
  replace f := frX5 (q := 387) f (by decide)
  refine a_aast (n := 12) rfl (by first | assumption | (simp (disch := omega) only [upK_self, hK, upK_ne, oldX1, oldX0, oldX2, oldX7, oldX9, oldX5, oldX8_3, oldX8_6, oldX6, oldX3]) | (simp (disch := omega) only [upK_ne, upK_self, hK, upK_ne, oldX1, oldX0, oldX2, oldX7, oldX9, oldX5, oldX8_3, oldX8_6, oldX6, oldX3])) (by first | assumption | (simp (disch := omega) only [upK_self, hK, upK_ne, oldX1, oldX0, oldX2, oldX7, oldX9, oldX5, oldX8_3, oldX8_6, oldX6, oldX3]) | (simp (disch := omega) only [upK_ne, upK_self, hK, upK_ne, oldX1, oldX0, oldX2, oldX7, oldX9, oldX5, oldX8_3, oldX8_6, oldX6, oldX3])) ⟨by decide, by decide⟩ ?_
  replace f := f.putR (q := 287) (k := 9) (v := 387 + 1) (by decide)
  refine a_i1 rfl rfl rfl ?_
  refine a_goto rfl ?_
  refine a_l1 rfl rfl rfl ?_
  refine a_l0 rfl rfl rfl ?_
  refine a_getq (q := 287) rfl gfX11_64_11 (by first | assumption | (simp (disch := omega) only [upK_self, hK, upK_ne, oldX1, oldX0, oldX2, oldX7, oldX9, oldX5, oldX8_3, oldX8_6, oldX6, oldX3]) | (simp (disch := omega) only [upK_ne, upK_self, hK, upK_ne, oldX1, oldX0, oldX2, oldX7, oldX9, oldX5, oldX8_3, oldX8_6, oldX6, oldX3])) (by simp (disch := decide) only [up2_at, up2_ne, up2_row, rowX1, rowX0, rowX2, rowX7, rowX9, rowX5, rowX8_3, rowX8_6, rowX6, rowX3]) ?_
  refine a_len (tt := 3) (n := 12) rfl (by first | assumption | (simp (disch := omega) only [upK_self, hK, upK_ne, oldX1, oldX0, oldX2, oldX7, oldX9, oldX5, oldX8_3, oldX8_6, oldX6, oldX3]) | (simp (disch := omega) only [upK_ne, upK_self, hK, upK_ne, oldX1, oldX0, oldX2, oldX7, oldX9, oldX5, oldX8_3, oldX8_6, oldX6, oldX3])) rfl rfl ?_
  refine a_ic_ge rfl (fun c => absurd c (by decide)) (fun c => ?_)
  refine a_l0 rfl rfl rfl ?_
  refine a_getq (q := 287) rfl gfX11_64_11 (by first | assumption | (simp (disch := omega) only [upK_self, hK, upK_ne, oldX1, oldX0, oldX2, oldX7, oldX9, oldX5, oldX8_3, oldX8_6, oldX6, oldX3]) | (simp (disch := omega) only [upK_ne, upK_self, hK, upK_ne, oldX1, oldX0, oldX2, oldX7, oldX9, oldX5, oldX8_3, oldX8_6, oldX6, oldX3])) (by simp (disch := decide) only [up2_at, up2_ne, up2_row, rowX1, rowX0, rowX2, rowX7, rowX9, rowX5, rowX8_3, rowX8_6, rowX6, rowX3]) ?_
  refine a_l1 rfl rfl rfl ?_
  refine a_new rfl nX11_34 rfl rfl rfl f.i f.r ?_
  replace f := f.mono (t' := 399) (Nat.le_succ _)
  refine a_s rfl rfl ?_
  refine a_mIN rfl lX11_36 mo_X5_init (sp_X5_init (by first | assumption | (simp (disch := omega) only [upK_self, hK, upK_ne, oldX1, oldX0, oldX2, oldX7, oldX9, oldX5, oldX8_3, oldX8_6, oldX6, oldX3]) | (simp (disch := omega) only [upK_ne, upK_self, hK, upK_ne, oldX1, oldX0, oldX2, oldX7, oldX9, oldX5, oldX8_3, oldX8_6, oldX6, oldX3])) (by decide) (by decide) f) rfl rfl rfl rfl ?_
  replace f := frX5 (q := 398) f (by decide)
  refine a_aast (n := 12) rfl (by first | assumption | (simp (disch := omega) only [upK_self, hK, upK_ne, oldX1, oldX0, oldX2, oldX7, oldX9, oldX5, oldX8_3, oldX8_6, oldX6, oldX3]) | (simp (disch := omega) only [upK_ne, upK_self, hK, upK_ne, oldX1, oldX0, oldX2, oldX7, oldX9, oldX5, oldX8_3, oldX8_6, oldX6, oldX3])) (by first | assumption | (simp (disch := omega) only [upK_self, hK, upK_ne, oldX1, oldX0, oldX2, oldX7, oldX9, oldX5, oldX8_3, oldX8_6, oldX6, oldX3]) | (simp (disch := omega) only [upK_ne, upK_self, hK, upK_ne, oldX1, oldX0, oldX2, oldX7, oldX9, oldX5, oldX8_3, oldX8_6, oldX6, oldX3])) ⟨by decide, by decide⟩ ?_
  replace f := f.putR (q := 287) (k := 10) (v := 398 + 1) (by decide)
  refine a_i1 rfl rfl rfl ?_
  refine a_goto rfl ?_
  refine a_l1 rfl rfl rfl ?_
  refine a_l0 rfl rfl rfl ?_
  refine a_getq (q := 287) rfl gfX11_64_11 (by first | assumption | (simp (disch := omega) only [upK_self, hK, upK_ne, oldX1, oldX0, oldX2, oldX7, oldX9, oldX5, oldX8_3, oldX8_6, oldX6, oldX3]) | (simp (disch := omega) only [upK_ne, upK_self, hK, upK_ne, oldX1, oldX0, oldX2, oldX7, oldX9, oldX5, oldX8_3, oldX8_6, oldX6, oldX3])) (by simp (disch := decide) only [up2_at, up2_ne, up2_row, rowX1, rowX0, rowX2, rowX7, rowX9, rowX5, rowX8_3, rowX8_6, rowX6, rowX3]) ?_
  refine a_len (tt := 3) (n := 12) rfl (by first | assumption | (simp (disch := omega) only [upK_self, hK, upK_ne, oldX1, oldX0, oldX2, oldX7, oldX9, oldX5, oldX8_3, oldX8_6, oldX6, oldX3]) | (simp (disch := omega) only [upK_ne, upK_self, hK, upK_ne, oldX1, oldX0, oldX2, oldX7, oldX9, oldX5, oldX8_3, oldX8_6, oldX6, oldX3])) rfl rfl ?_
  refine a_ic_ge rfl (fun c => absurd c (by decide)) (fun c => ?_)
  refine a_l0 rfl rfl rfl ?_
  refine a_getq (q := 287) rfl gfX11_64_11 (by first | assumption | (simp (disch := omega) only [upK_self, hK, upK_ne, oldX1, oldX0, oldX2, oldX7, oldX9, oldX5, oldX8_3, oldX8_6, oldX6, oldX3]) | (simp (disch := omega) only [upK_ne, upK_self, hK, upK_ne, oldX1, oldX0, oldX2, oldX7, oldX9, oldX5, oldX8_3, oldX8_6, oldX6, oldX3])) (by simp (disch := decide) only [up2_at, up2_ne, up2_row, rowX1, rowX0, rowX2, rowX7, rowX9, rowX5, rowX8_3, rowX8_6, rowX6, rowX3]) ?_
  refine a_l1 rfl rfl rfl ?_
  refine a_new rfl nX11_34 rfl rfl rfl f.i f.r ?_
  replace f := f.mono (t' := 410) (Nat.le_succ _)
  refine a_s rfl rfl ?_
  refine a_mIN rfl lX11_36 mo_X5_init (sp_X5_init (by first | assumption | (simp (disch := omega) only [upK_self, hK, upK_ne, oldX1, oldX0, oldX2, oldX7, oldX9, oldX5, oldX8_3, oldX8_6, oldX6, oldX3]) | (simp (disch := omega) only [upK_ne, upK_self, hK, upK_ne, oldX1, oldX0, oldX2, oldX7, oldX9, oldX5, oldX8_3, oldX8_6, oldX6, oldX3])) (by decide) (by decide) f) rfl rfl rfl rfl ?_
  replace f := frX5 (q := 409) f (by decide)
  refine a_aast (n := 12) rfl (by first | assumption | (simp (disch := omega) only [upK_self, hK, upK_ne, oldX1, oldX0, oldX2, oldX7, oldX9, oldX5, oldX8_3, oldX8_6, oldX6, oldX3]) | (simp (disch := omega) only [upK_ne, upK_self, hK, upK_ne, oldX1, oldX0, oldX2, oldX7, oldX9, oldX5, oldX8_3, oldX8_6, oldX6, oldX3])) (by first | assumption | (simp (disch := omega) only [upK_self, hK, upK_ne, oldX1, oldX0, oldX2, oldX7, oldX9, oldX5, oldX8_3, oldX8_6, oldX6, oldX3]) | (simp (disch := omega) only [upK_ne, upK_self, hK, upK_ne, oldX1, oldX0, oldX2, oldX7, oldX9, oldX5, oldX8_3, oldX8_6, oldX6, oldX3])) ⟨by decide, by decide⟩ ?_
  replace f := f.putR (q := 287) (k := 11) (v := 409 + 1) (by decide)
  refine a_i1 rfl rfl rfl ?_
  refine a_goto rfl ?_
  refine a_l1 rfl rfl rfl ?_
  refine a_l0 rfl rfl rfl ?_
  refine a_getq (q := 287) rfl gfX11_64_11 (by first | assumption | (simp (disch := omega) only [upK_self, hK, upK_ne, oldX1, oldX0, oldX2, oldX7, oldX9, oldX5, oldX8_3, oldX8_6, oldX6, oldX3]) | (simp (disch := omega) only [upK_ne, upK_self, hK, upK_ne, oldX1, oldX0, oldX2, oldX7, oldX9, oldX5, oldX8_3, oldX8_6, oldX6, oldX3])) (by simp (disch := decide) only [up2_at, up2_ne, up2_row, rowX1, rowX0, rowX2, rowX7, rowX9, rowX5, rowX8_3, rowX8_6, rowX6, rowX3]) ?_
  refine a_len (tt := 3) (n := 12) rfl (by first | assumption | (simp (disch := omega) only [upK_self, hK, upK_ne, oldX1, oldX0, oldX2, oldX7, oldX9, oldX5, oldX8_3, oldX8_6, oldX6, oldX3]) | (simp (disch := omega) only [upK_ne, upK_self, hK, upK_ne, oldX1, oldX0, oldX2, oldX7, oldX9, oldX5, oldX8_3, oldX8_6, oldX6, oldX3])) rfl rfl ?_
  refine a_ic_ge rfl (fun c => ?_) (fun c => absurd (by decide) c)
  exact a_vret rfl rfl ⟨rfl, rfl⟩
def kX12 (K : Nat → Nat × Nat) : Nat → Nat × Nat := upK (upK (upK (upK (upK (upK (upK (upK (upK (upK K 421 (2, 2033)) 422 (2, 1184)) 423 (2, 1184)) 424 (2, 335)) 425 (2, 4020)) 426 (3, 400)) 427 (2, 5)) 428 (2, 400)) 429 (2, 6)) 430 (4, 7)
def iX12 (I : Nat → Nat → Int32) : Nat → Nat → Int32 := up2 (up2 (up2 (up2 (up2 I 420 14 (-1)) 421 4 1) 421 7 2) 421 8 3) 421 10 1
def rX12 (R : Nat → Nat → Nat) : Nat → Nat → Nat := up2 (up2 (up2 (up2 (up2 (up2 (up2 (up2 (up2 (up2 R 420 1 (421 + 1)) 420 2 (422 + 1)) 420 3 (423 + 1)) 420 4 (424 + 1)) 420 5 (425 + 1)) 420 8 (426 + 1)) 420 15 (427 + 1)) 420 17 (428 + 1)) 420 18 (429 + 1)) 420 19 (430 + 1)
theorem oldX12 {K : Nat → Nat × Nat} {p : Nat} (h : p < 421) : kX12 K p = K p := by
  unfold kX12
  simp (disch := omega) only [upK_ne, oldX1, oldX0, oldX2, oldX7, oldX9, oldX5, oldX8_3, oldX8_6, oldX6, oldX3, oldX11]
theorem frX12 {I : Nat → Nat → Int32} {L : Nat → Nat → Int64} {R : Nat → Nat → Nat} {z : Nat} (f : Fr I L R 421) : Fr (iX12 I) L (rX12 R) 431 := by
  unfold iX12 rX12
  exact ((((((Fr.mono (t' := 431) ((Fr.mono (t' := 430) ((Fr.mono (t' := 429) ((Fr.mono (t' := 428) (((Fr.mono (t' := 427) ((Fr.mono (t' := 426) ((Fr.mono (t' := 425) ((Fr.mono (t' := 424) ((Fr.mono (t' := 423) ((Fr.mono (t' := 422) f (Nat.le_succ _)).putR (by decide)) (Nat.le_succ _)).putR (by decide)) (Nat.le_succ _)).putR (by decide)) (Nat.le_succ _)).putR (by decide)) (Nat.le_succ _)).putR (by decide)) (Nat.le_succ _)).putR (by decide)).putI (by decide)) (Nat.le_succ _)).putR (by decide)) (Nat.le_succ _)).putR (by decide)) (Nat.le_succ _)).putR (by decide)) (Nat.le_succ _)).putR (by decide)).putI (by decide)).putI (by decide)).putI (by decide)).putI (by decide))
theorem sp_X12_init {S : aS} {K : Nat → Nat × Nat} {I : Nat → Nat → Int32} {L : Nat → Nat → Int64} {R : Nat → Nat → Nat} (hK : K 420 = (1, 12)) (f : Fr I L R 421) : SpM S m_X12_init 12 10 9574 [.ref 420] (K, I, L, R, 421) (kX12 K, iX12 I, L, rX12 R, 431) := by
  refine SpM_of ok_X12_init rfl rfl ?_
  refine a_l0 rfl rfl rfl ?_
  refine a_objinit rfl lX12_7 oi_1 oi_2 rfl rfl ?_
  refine a_l0 rfl rfl rfl ?_
  refine a_s rfl rfl ?_
  refine a_newarr (N := 2033) (tg := 0) rfl rfl rfl ar_int (by decide) (by decide) rfl rfl rfl rfl f.i f.l ?_
  replace f := f.mono (t' := 422) (Nat.le_succ _)
  refine a_putq rfl pfX12_13_12 (by first | assumption | (simp (disch := omega) only [upK_self, hK, upK_ne, oldX1, oldX0, oldX2, oldX7, oldX9, oldX5, oldX8_3, oldX8_6, oldX6, oldX3, oldX11]) | (simp (disch := omega) only [upK_ne, upK_self, hK, upK_ne, oldX1, oldX0, oldX2, oldX7, oldX9, oldX5, oldX8_3, oldX8_6, oldX6, oldX3, oldX11])) ?_
  replace f := f.putR (q := 420) (k := 1) (v := 421 + 1) (by decide)
  refine a_l0 rfl rfl rfl ?_
  refine a_s rfl rfl ?_
  refine a_newarr (N := 1184) (tg := 0) rfl rfl rfl ar_int (by decide) (by decide) rfl rfl rfl rfl f.i f.l ?_
  replace f := f.mono (t' := 423) (Nat.le_succ _)
  refine a_putq rfl pfX12_17_12 (by first | assumption | (simp (disch := omega) only [upK_self, hK, upK_ne, oldX1, oldX0, oldX2, oldX7, oldX9, oldX5, oldX8_3, oldX8_6, oldX6, oldX3, oldX11]) | (simp (disch := omega) only [upK_ne, upK_self, hK, upK_ne, oldX1, oldX0, oldX2, oldX7, oldX9, oldX5, oldX8_3, oldX8_6, oldX6, oldX3, oldX11])) ?_
  replace f := f.putR (q := 420) (k := 2) (v := 422 + 1) (by decide)
  refine a_l0 rfl rfl rfl ?_
  refine a_s rfl rfl ?_
  refine a_newarr (N := 1184) (tg := 0) rfl rfl rfl ar_int (by decide) (by decide) rfl rfl rfl rfl f.i f.l ?_
  replace f := f.mono (t' := 424) (Nat.le_succ _)
  refine a_putq rfl pfX12_20_12 (by first | assumption | (simp (disch := omega) only [upK_self, hK, upK_ne, oldX1, oldX0, oldX2, oldX7, oldX9, oldX5, oldX8_3, oldX8_6, oldX6, oldX3, oldX11]) | (simp (disch := omega) only [upK_ne, upK_self, hK, upK_ne, oldX1, oldX0, oldX2, oldX7, oldX9, oldX5, oldX8_3, oldX8_6, oldX6, oldX3, oldX11])) ?_
  replace f := f.putR (q := 420) (k := 3) (v := 423 + 1) (by decide)
  refine a_l0 rfl rfl rfl ?_
  refine a_s rfl rfl ?_
  refine a_newarr (N := 335) (tg := 0) rfl rfl rfl ar_int (by decide) (by decide) rfl rfl rfl rfl f.i f.l ?_
  replace f := f.mono (t' := 425) (Nat.le_succ _)
  refine a_putq rfl pfX12_23_12 (by first | assumption | (simp (disch := omega) only [upK_self, hK, upK_ne, oldX1, oldX0, oldX2, oldX7, oldX9, oldX5, oldX8_3, oldX8_6, oldX6, oldX3, oldX11]) | (simp (disch := omega) only [upK_ne, upK_self, hK, upK_ne, oldX1, oldX0, oldX2, oldX7, oldX9, oldX5, oldX8_3, oldX8_6, oldX6, oldX3, oldX11])) ?_
  replace f := f.putR (q := 420) (k := 4) (v := 424 + 1) (by decide)
  refine a_l0 rfl rfl rfl ?_
  refine a_s rfl rfl ?_
  refine a_newarr (N := 4020) (tg := 0) rfl rfl rfl ar_int (by decide) (by decide) rfl rfl rfl rfl f.i f.l ?_
  replace f := f.mono (t' := 426) (Nat.le_succ _)
  refine a_putq rfl pfX12_26_12 (by first | assumption | (simp (disch := omega) only [upK_self, hK, upK_ne, oldX1, oldX0, oldX2, oldX7, oldX9, oldX5, oldX8_3, oldX8_6, oldX6, oldX3, oldX11]) | (simp (disch := omega) only [upK_ne, upK_self, hK, upK_ne, oldX1, oldX0, oldX2, oldX7, oldX9, oldX5, oldX8_3, oldX8_6, oldX6, oldX3, oldX11])) ?_
  replace f := f.putR (q := 420) (k := 5) (v := 425 + 1) (by decide)
  refine a_l0 rfl rfl rfl ?_
  refine a_s rfl rfl ?_
  refine a_newarr (N := 400) (tg := 1) rfl rfl rfl ar_byte (by decide) (by decide) rfl rfl rfl rfl f.i f.l ?_
  replace f := f.mono (t' := 427) (Nat.le_succ _)
  refine a_putq rfl pfX12_29_12 (by first | assumption | (simp (disch := omega) only [upK_self, hK, upK_ne, oldX1, oldX0, oldX2, oldX7, oldX9, oldX5, oldX8_3, oldX8_6, oldX6, oldX3, oldX11]) | (simp (disch := omega) only [upK_ne, upK_self, hK, upK_ne, oldX1, oldX0, oldX2, oldX7, oldX9, oldX5, oldX8_3, oldX8_6, oldX6, oldX3, oldX11])) ?_
  replace f := f.putR (q := 420) (k := 8) (v := 426 + 1) (by decide)
  refine a_l0 rfl rfl rfl ?_
  refine a_s rfl rfl ?_
  refine a_puti rfl pfX12_33_12 (by first | assumption | (simp (disch := omega) only [upK_self, hK, upK_ne, oldX1, oldX0, oldX2, oldX7, oldX9, oldX5, oldX8_3, oldX8_6, oldX6, oldX3, oldX11]) | (simp (disch := omega) only [upK_ne, upK_self, hK, upK_ne, oldX1, oldX0, oldX2, oldX7, oldX9, oldX5, oldX8_3, oldX8_6, oldX6, oldX3, oldX11])) ?_
  replace f := f.putI (q := 420) (k := 14) (v := (-1)) (by decide)
  refine a_l0 rfl rfl rfl ?_
  refine a_s rfl rfl ?_
  refine a_newarr (N := 5) (tg := 0) rfl rfl rfl ar_int (by decide) (by decide) rfl rfl rfl rfl f.i f.l ?_
  replace f := f.mono (t' := 428) (Nat.le_succ _)
  refine a_putq rfl pfX12_36_12 (by first | assumption | (simp (disch := omega) only [upK_self, hK, upK_ne, oldX1, oldX0, oldX2, oldX7, oldX9, oldX5, oldX8_3, oldX8_6, oldX6, oldX3, oldX11]) | (simp (disch := omega) only [upK_ne, upK_self, hK, upK_ne, oldX1, oldX0, oldX2, oldX7, oldX9, oldX5, oldX8_3, oldX8_6, oldX6, oldX3, oldX11])) ?_
  replace f := f.putR (q := 420) (k := 15) (v := 427 + 1) (by decide)
  refine a_l0 rfl rfl rfl ?_
  refine a_s rfl rfl ?_
  refine a_newarr (N := 400) (tg := 0) rfl rfl rfl ar_int (by decide) (by decide) rfl rfl rfl rfl f.i f.l ?_
  replace f := f.mono (t' := 429) (Nat.le_succ _)
  refine a_putq rfl pfX12_39_12 (by first | assumption | (simp (disch := omega) only [upK_self, hK, upK_ne, oldX1, oldX0, oldX2, oldX7, oldX9, oldX5, oldX8_3, oldX8_6, oldX6, oldX3, oldX11]) | (simp (disch := omega) only [upK_ne, upK_self, hK, upK_ne, oldX1, oldX0, oldX2, oldX7, oldX9, oldX5, oldX8_3, oldX8_6, oldX6, oldX3, oldX11])) ?_
  replace f := f.putR (q := 420) (k := 17) (v := 428 + 1) (by decide)
  refine a_l0 rfl rfl rfl ?_
  refine a_s rfl rfl ?_
  refine a_newarr (N := 6) (tg := 0) rfl rfl rfl ar_int (by decide) (by decide) rfl rfl rfl rfl f.i f.l ?_
  replace f := f.mono (t' := 430) (Nat.le_succ _)
  refine a_putq rfl pfX12_42_12 (by first | assumption | (simp (disch := omega) only [upK_self, hK, upK_ne, oldX1, oldX0, oldX2, oldX7, oldX9, oldX5, oldX8_3, oldX8_6, oldX6, oldX3, oldX11]) | (simp (disch := omega) only [upK_ne, upK_self, hK, upK_ne, oldX1, oldX0, oldX2, oldX7, oldX9, oldX5, oldX8_3, oldX8_6, oldX6, oldX3, oldX11])) ?_
  replace f := f.putR (q := 420) (k := 18) (v := 429 + 1) (by decide)
  refine a_l0 rfl rfl rfl ?_
  refine a_s rfl rfl ?_
  refine a_newarr (N := 7) (tg := 2) rfl rfl rfl ar_long (by decide) (by decide) rfl rfl rfl rfl f.i f.l ?_
  replace f := f.mono (t' := 431) (Nat.le_succ _)
  refine a_putq rfl pfX12_45_12 (by first | assumption | (simp (disch := omega) only [upK_self, hK, upK_ne, oldX1, oldX0, oldX2, oldX7, oldX9, oldX5, oldX8_3, oldX8_6, oldX6, oldX3, oldX11]) | (simp (disch := omega) only [upK_ne, upK_self, hK, upK_ne, oldX1, oldX0, oldX2, oldX7, oldX9, oldX5, oldX8_3, oldX8_6, oldX6, oldX3, oldX11])) ?_
  replace f := f.putR (q := 420) (k := 19) (v := 430 + 1) (by decide)
  refine a_l0 rfl rfl rfl ?_
  refine a_getq (q := 421) rfl gfX12_13_12 (by first | assumption | (simp (disch := omega) only [upK_self, hK, upK_ne, oldX1, oldX0, oldX2, oldX7, oldX9, oldX5, oldX8_3, oldX8_6, oldX6, oldX3, oldX11]) | (simp (disch := omega) only [upK_ne, upK_self, hK, upK_ne, oldX1, oldX0, oldX2, oldX7, oldX9, oldX5, oldX8_3, oldX8_6, oldX6, oldX3, oldX11])) (by simp (disch := decide) only [up2_at, up2_ne, up2_row, rowX1, rowX0, rowX2, rowX7, rowX9, rowX5, rowX8_3, rowX8_6, rowX6, rowX3]) ?_
  refine a_s rfl rfl ?_
  refine a_s rfl rfl ?_
  refine a_iast (n := 2033) rfl (by first | assumption | (simp (disch := omega) only [upK_self, hK, upK_ne, oldX1, oldX0, oldX2, oldX7, oldX9, oldX5, oldX8_3, oldX8_6, oldX6, oldX3, oldX11]) | (simp (disch := omega) only [upK_ne, upK_self, hK, upK_ne, oldX1, oldX0, oldX2, oldX7, oldX9, oldX5, oldX8_3, oldX8_6, oldX6, oldX3, oldX11])) ⟨by decide, by decide⟩ ?_
  replace f := f.putI (q := 421) (k := 4) (v := 1) (by decide)
  refine a_l0 rfl rfl rfl ?_
  refine a_getq (q := 421) rfl gfX12_13_12 (by first | assumption | (simp (disch := omega) only [upK_self, hK, upK_ne, oldX1, oldX0, oldX2, oldX7, oldX9, oldX5, oldX8_3, oldX8_6, oldX6, oldX3, oldX11]) | (simp (disch := omega) only [upK_ne, upK_self, hK, upK_ne, oldX1, oldX0, oldX2, oldX7, oldX9, oldX5, oldX8_3, oldX8_6, oldX6, oldX3, oldX11])) (by simp (disch := decide) only [up2_at, up2_ne, up2_row, rowX1, rowX0, rowX2, rowX7, rowX9, rowX5, rowX8_3, rowX8_6, rowX6, rowX3]) ?_
  refine a_s rfl rfl ?_
  refine a_s rfl rfl ?_
  refine a_iast (n := 2033) rfl (by first | assumption | (simp (disch := omega) only [upK_self, hK, upK_ne, oldX1, oldX0, oldX2, oldX7, oldX9, oldX5, oldX8_3, oldX8_6, oldX6, oldX3, oldX11]) | (simp (disch := omega) only [upK_ne, upK_self, hK, upK_ne, oldX1, oldX0, oldX2, oldX7, oldX9, oldX5, oldX8_3, oldX8_6, oldX6, oldX3, oldX11])) ⟨by decide, by decide⟩ ?_
  replace f := f.putI (q := 421) (k := 7) (v := 2) (by decide)
  refine a_l0 rfl rfl rfl ?_
  refine a_getq (q := 421) rfl gfX12_13_12 (by first | assumption | (simp (disch := omega) only [upK_self, hK, upK_ne, oldX1, oldX0, oldX2, oldX7, oldX9, oldX5, oldX8_3, oldX8_6, oldX6, oldX3, oldX11]) | (simp (disch := omega) only [upK_ne, upK_self, hK, upK_ne, oldX1, oldX0, oldX2, oldX7, oldX9, oldX5, oldX8_3, oldX8_6, oldX6, oldX3, oldX11])) (by simp (disch := decide) only [up2_at, up2_ne, up2_row, rowX1, rowX0, rowX2, rowX7, rowX9, rowX5, rowX8_3, rowX8_6, rowX6, rowX3]) ?_
  refine a_s rfl rfl ?_
  refine a_s rfl rfl ?_
  refine a_iast (n := 2033) rfl (by first | assumption | (simp (disch := omega) only [upK_self, hK, upK_ne, oldX1, oldX0, oldX2, oldX7, oldX9, oldX5, oldX8_3, oldX8_6, oldX6, oldX3, oldX11]) | (simp (disch := omega) only [upK_ne, upK_self, hK, upK_ne, oldX1, oldX0, oldX2, oldX7, oldX9, oldX5, oldX8_3, oldX8_6, oldX6, oldX3, oldX11])) ⟨by decide, by decide⟩ ?_
  replace f := f.putI (q := 421) (k := 8) (v := 3) (by decide)
  refine a_l0 rfl rfl rfl ?_
  refine a_getq (q := 421) rfl gfX12_13_12 (by first | assumption | (simp (disch := omega) only [upK_self, hK, upK_ne, oldX1, oldX0, oldX2, oldX7, oldX9, oldX5, oldX8_3, oldX8_6, oldX6, oldX3, oldX11]) | (simp (disch := omega) only [upK_ne, upK_self, hK, upK_ne, oldX1, oldX0, oldX2, oldX7, oldX9, oldX5, oldX8_3, oldX8_6, oldX6, oldX3, oldX11])) (by simp (disch := decide) only [up2_at, up2_ne, up2_row, rowX1, rowX0, rowX2, rowX7, rowX9, rowX5, rowX8_3, rowX8_6, rowX6, rowX3]) ?_
  refine a_s rfl rfl ?_
  refine a_s rfl rfl ?_
  refine a_iast (n := 2033) rfl (by first | assumption | (simp (disch := omega) only [upK_self, hK, upK_ne, oldX1, oldX0, oldX2, oldX7, oldX9, oldX5, oldX8_3, oldX8_6, oldX6, oldX3, oldX11]) | (simp (disch := omega) only [upK_ne, upK_self, hK, upK_ne, oldX1, oldX0, oldX2, oldX7, oldX9, oldX5, oldX8_3, oldX8_6, oldX6, oldX3, oldX11])) ⟨by decide, by decide⟩ ?_
  replace f := f.putI (q := 421) (k := 10) (v := 1) (by decide)
  exact a_vret rfl rfl ⟨rfl, rfl⟩
