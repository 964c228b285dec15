/-! ===== the class's tokens, as functions of the tape ===== -/
section T79
variable {S : aS} {I : Nat → Nat → Int32} {L : Nat → Nat → Int64} {w1 w2 t : Nat} {e n j b : Nat}
set_option maxRecDepth 100000
theorem f_byteAt (he : I 201 1 = nI e) (h4 : e ≤ 400) {j : Nat} (hj : j < 2 ^ 31) : SpE S m_X7_byteAt 12 [.ref 201, .int (nI j)] (hp I L w1 w2 t) (some (.int (if j < e then I 202 j &&& 255 else -1))) (hp I L w1 w2 t) := by
  refine SpE_of ok_X7_byteAt rfl rfl ?_
  show AW S m_X7_byteAt 12 _ _ 0 0 0 [some (.ref 201), some (.int (nI j))] [] (hp I L w1 w2 t)
  refine a_l1 rfl rfl rfl ?_
  refine a_if_lt rfl (fun c => absurd c (nI_pos (by omega))) (fun _ => ?_)
  refine a_l1 rfl rfl rfl ?_
  refine a_l0 rfl rfl rfl ?_
  refine a_getiv (v := nI e) rfl gfX7_15_7 rfl (he) ?_
  refine a_ic_ge rfl (fun c => ?_) (fun c => ?_)
  · refine a_s rfl rfl ?_
    refine a_iret rfl rfl ⟨?_, rfl⟩
    rw [if_neg (Nat.not_lt.mpr (nI_ge_of c hj (by omega)))]
  · have hlt := nI_lt_of c hj (by omega)
    refine a_l1 rfl rfl rfl ?_
    refine a_l0 rfl rfl rfl ?_
    refine a_getq rfl gfX7_9_7 rfl (rfl) ?_
    refine a_len rfl (n := 400) rfl rfl rfl ?_
    refine a_ic_ge rfl (fun c => absurd c (nI_ge (b := 400) (by omega) (by omega))) (fun _ => ?_)
    refine a_l0 rfl rfl rfl ?_
    refine a_getq rfl gfX7_9_7 rfl (rfl) ?_
    refine a_l1 rfl rfl rfl ?_
    refine a_baldv (v := I 202 j) rfl (n := 400) rfl (inI_nI (by omega) (by omega)) (by rw [nI_clamp (by omega)]) ?_
    refine a_s rfl rfl ?_
    refine a_s rfl rfl ?_
    refine a_goto rfl ?_
    refine a_iret rfl rfl ⟨?_, rfl⟩
    rw [if_pos hlt]
theorem f_kindOf {h : aH} {x : Int32} : SpE S m_X9_kindOf 12 [.int x] h (some (.int (nI (kcF x)))) h := by
  refine SpE_of ok_X9_kindOf rfl rfl ?_
  show AW S m_X9_kindOf 12 _ _ 0 0 0 [some (.int x)] [] h
  refine a_l0 rfl rfl rfl ?_
  refine a_s rfl rfl ?_
  refine a_ic_ne rfl (fun c2 => ?_) (fun c2 => ?_)
  · have tail : ¬ (97 ≤ x ∧ x ≤ 122) → AW S m_X9_kindOf 12 (fun v h' => v = some (.int (nI (kcF x))) ∧ h' = h) (fun _ _ => False) 0 0 22 [some (.int x)] [] h := by
      intro hn
      refine a_l0 rfl rfl rfl ?_
      refine a_s rfl rfl ?_
      refine a_ic_lt rfl (fun c3 => ?_) (fun c3 => ?_)
      · refine a_s rfl rfl ?_
        refine a_iret rfl rfl ⟨?_, rfl⟩
        unfold kcF
        rw [if_neg c2, if_neg hn, if_neg (fun z => absurd c3 (Int32.not_lt.mpr z.1))]
        rfl
      · refine a_l0 rfl rfl rfl ?_
        refine a_s rfl rfl ?_
        refine a_ic_gt rfl (fun c4 => ?_) (fun c4 => ?_)
        · refine a_s rfl rfl ?_
          refine a_iret rfl rfl ⟨?_, rfl⟩
          unfold kcF
          rw [if_neg c2, if_neg hn, if_neg (fun z => absurd c4 (Int32.not_lt.mpr z.2))]
          rfl
        · refine a_s rfl rfl ?_
          refine a_goto rfl ?_
          refine a_iret rfl rfl ⟨?_, rfl⟩
          unfold kcF
          rw [if_neg c2, if_neg hn, if_pos ⟨Int32.not_lt.mp c3, Int32.not_lt.mp c4⟩]
          rfl
    refine a_l0 rfl rfl rfl ?_
    refine a_s rfl rfl ?_
    refine a_ic_lt rfl (fun c3 => tail (fun z => absurd c3 (Int32.not_lt.mpr z.1))) (fun c3 => ?_)
    refine a_l0 rfl rfl rfl ?_
    refine a_s rfl rfl ?_
    refine a_ic_gt rfl (fun c4 => tail (fun z => absurd c4 (Int32.not_lt.mpr z.2))) (fun c4 => ?_)
    refine a_s rfl rfl ?_
    refine a_iret rfl rfl ⟨?_, rfl⟩
    unfold kcF
    rw [if_neg c2, if_pos ⟨Int32.not_lt.mp c3, Int32.not_lt.mp c4⟩]
    rfl
  · refine a_s rfl rfl ?_
    refine a_iret rfl rfl ⟨?_, rfl⟩
    unfold kcF
    rw [if_pos c2]
    rfl
def opH (I : Nat → Nat → Int32) (n : Nat) (x y : Int32) : Nat → Nat → Int32 := up2 (up2 (up2 (up2 I 222 n x) 223 n y) 224 n y) 221 4 (nI (n + 1))
theorem f_open (h4 : I 221 4 = nI n) (hn : n < 401) {x y : Int32} : SpE S m_X9_open 13 [.ref 221, .int x, .int y] (hp I L w1 w2 t) none (hp (opH I n x y) L w1 w2 t) := by
  refine SpE_of ok_X9_open rfl rfl ?_
  show AW S m_X9_open 13 _ _ 0 0 0 [some (.ref 221), some (.int x), some (.int y)] [] (hp I L w1 w2 t)
  refine a_l0 rfl rfl rfl ?_
  refine a_getq rfl gfX9_9_9 rfl (rfl) ?_
  refine a_l0 rfl rfl rfl ?_
  refine a_getiv (v := nI n) rfl gfX9_24_9 rfl (h4) ?_
  refine a_l1 rfl rfl rfl ?_
  refine a_eSN0 rfl lX9_44 mo_X11_setAt (sp_X11_setAt rfl) rfl rfl rfl rfl ?_
  rw [setF_nI hn (by decide)]
  refine a_l0 rfl rfl rfl ?_
  refine a_getq rfl gfX9_15_9 rfl (rfl) ?_
  refine a_l0 rfl rfl rfl ?_
  refine a_getiv (v := nI n) rfl gfX9_24_9 rfl ((congrFun (up2_row (by decide)) 4).trans h4) ?_
  refine a_l2 rfl rfl rfl ?_
  refine a_eSN0 rfl lX9_44 mo_X11_setAt (sp_X11_setAt rfl) rfl rfl rfl rfl ?_
  rw [setF_nI hn (by decide)]
  refine a_l0 rfl rfl rfl ?_
  refine a_getq rfl gfX9_18_9 rfl (rfl) ?_
  refine a_l0 rfl rfl rfl ?_
  refine a_getiv (v := nI n) rfl gfX9_24_9 rfl ((congrFun (up2_row (by decide)) 4).trans ((congrFun (up2_row (by decide)) 4).trans h4)) ?_
  refine a_l2 rfl rfl rfl ?_
  refine a_eSN0 rfl lX9_44 mo_X11_setAt (sp_X11_setAt rfl) rfl rfl rfl rfl ?_
  rw [setF_nI hn (by decide)]
  refine a_l0 rfl rfl rfl ?_
  refine a_s rfl rfl ?_
  refine a_getiv (v := nI n) rfl gfX9_24_9 rfl ((congrFun (up2_row (by decide)) 4).trans ((congrFun (up2_row (by decide)) 4).trans ((congrFun (up2_row (by decide)) 4).trans h4))) ?_
  refine a_s rfl rfl ?_
  refine a_s rfl rfl ?_
  refine a_top (y := nI (n + 1)) ((nI_succ n).symm) ?_
  refine a_puti rfl pfX9_24_9 rfl ?_
  exact a_vret rfl rfl ⟨rfl, rfl⟩
/-- what a thing of the row is -/
def TkJ (I : Nat → Nat → Int32) (e j b : Nat) : Prop := I 222 j = nI (kd (I 202) e b) ∧ I 223 j = nI b ∧ I 224 j = nI (en (I 202) e b)
theorem f_isText (hw : WdS S) (he : I 201 1 = nI e) (h4 : e ≤ 400) (hbt : BtT (I 202)) (hj : j < 401) (hb : b < e) (hk : kd (I 202) e b = 1) (hT : TkJ I e j b) {k : Nat} (hk3 : k < 27) : SpE S m_X9_isText 16 [.ref 221, .ref 201, .int (nI j), .ref (130 + k)] (hp I L w1 w2 t) (some (.int (bI (isW (I 202) b (en (I 202) e b - b) k)))) (hp I L w1 w2 t) := by
  have h1 := en_ge (T := I 202) (e := e) (b := b)
  have h2 := en_le (T := I 202) (Nat.le_of_lt hb)
  have h3 := wLen_lt k hk3
  obtain ⟨-, t2, t3⟩ := hT
  refine SpE_of ok_X9_isText rfl rfl ?_
  show AW S m_X9_isText 16 _ _ 0 0 0 [some (.ref 221), some (.ref 201), some (.int (nI j)), some (.ref (130 + k)), none, none] [] (hp I L w1 w2 t)
  refine a_l0 rfl rfl rfl ?_
  refine a_getq rfl gfX9_15_9 rfl (rfl) ?_
  refine a_l2 rfl rfl rfl ?_
  refine a_eSN1 rfl lX9_58 mo_X11_at (sp_X11_at rfl) rfl rfl rfl rfl ?_
  refine a_top (y := nI b) ((atF_nI hj (by decide)).trans t2) ?_
  refine a_s4 rfl rfl rfl rfl rfl rfl ?_
  refine a_l0 rfl rfl rfl ?_
  refine a_getq rfl gfX9_18_9 rfl (rfl) ?_
  refine a_l2 rfl rfl rfl ?_
  refine a_eSN1 rfl lX9_58 mo_X11_at (sp_X11_at rfl) rfl rfl rfl rfl ?_
  refine a_top (y := nI (en (I 202) e b)) ((atF_nI hj (by decide)).trans t3) ?_
  refine a_l4 rfl rfl rfl ?_
  refine a_s rfl rfl ?_
  refine a_top (y := nI (en (I 202) e b - b)) (nI_sub h1) ?_
  refine a_l3 rfl rfl rfl ?_
  refine a_eK1 rfl lX9_82 mo_J0_length_8abf5 (q_strlen hw hk3) rfl rfl rfl (hw.so hk3) rfl ?_
  refine a_ic_eq rfl (fun c => ?_) (fun c => ?_)
  rotate_left
  · refine a_s rfl rfl ?_
    refine a_zret rfl rfl rfl ⟨?_, rfl⟩
    rw [show isW (I 202) b (en (I 202) e b - b) k = false from decide_eq_false fun z => c (congrArg nI z.1)]
    rfl
  have hl : en (I 202) e b - b = wLen k := nI_inj (by omega) h3 c
  refine a_s rfl rfl ?_
  refine a_s5 rfl rfl rfl rfl rfl rfl ?_
  refine a_inv (n := wLen k) (fun m ls h => ∃ i, ls = [some (.ref 221), some (.ref 201), some (.int (nI j)), some (.ref (130 + k)), some (.int (nI b)), some (.int (nI i))] ∧ h = hp I L w1 w2 t ∧ i ≤ wLen k ∧ m = wLen k - i ∧ ∀ q, q < i → I 202 (b + q) = wC k q) ⟨0, rfl, rfl, Nat.zero_le _, rfl, fun q hq => absurd hq (Nat.not_lt_zero _)⟩ ?_
  rintro m _ _ ⟨i, rfl, rfl, hi, hm, hq⟩ ih
  refine a_l5 rfl rfl rfl ?_
  refine a_l3 rfl rfl rfl ?_
  refine a_eK1 rfl lX9_82 mo_J0_length_8abf5 (q_strlen hw hk3) rfl rfl rfl (hw.so hk3) rfl ?_
  refine a_ic_ge rfl (fun c2 => ?_) (fun c2 => ?_)
  · have hge := nI_ge_of c2 (by omega) h3
    refine a_s rfl rfl ?_
    refine a_zret rfl rfl rfl ⟨?_, rfl⟩
    rw [show isW (I 202) b (en (I 202) e b - b) k = true from decide_eq_true ⟨hl, fun q hq2 => hq q (by omega)⟩]
    rfl
  have hil : i < wLen k := nI_lt_of c2 (by omega) h3
  refine a_l1 rfl rfl rfl ?_
  refine a_l4 rfl rfl rfl ?_
  refine a_l5 rfl rfl rfl ?_
  refine a_s rfl rfl ?_
  refine a_top (y := nI (b + i)) (nI_addl b i) ?_
  refine a_eV1 rfl lX9_33 mo_X7_byteAt (f_byteAt he h4 (by omega)) rfl rfl rfl ⟨7, _, rfl, rfl, rfl⟩ rfl ?_
  have hbi : b + i < e := by omega
  refine a_top (y := I 202 (b + i) &&& 255) (if_pos hbi) ?_
  have hkc : kcF (I 202 (b + i)) = 1 := by
    rw [en_1 hk] at hl
    exact isK_kc (rn_all (T := I 202) (e := e) (k := 1) (p := b) (Nat.le_add_right _ _) (by omega))
  obtain ⟨x, hx, ex⟩ := hbt (b + i) (by omega)
  have e255 : I 202 (b + i) &&& 255 = I 202 (b + i) := by
    rw [ex] at hkc ⊢
    exact bt_lt x hx hkc
  refine a_top (y := I 202 (b + i)) (e255) ?_
  refine a_l3 rfl rfl rfl ?_
  refine a_l5 rfl rfl rfl ?_
  refine a_eK1 rfl lX9_87 mo_J0_charAt_5068e (q_charAt hw hk3 hil) rfl rfl rfl (hw.so hk3) rfl ?_
  refine a_ic_eq rfl (fun c3 => ?_) (fun c3 => ?_)
  · refine a_iv5 (y := nI (i + 1)) rfl rfl rfl ((nI_succ i).symm) ?_
    refine a_goto rfl ?_
    refine ih (wLen k - (i + 1)) _ _ (by omega) ⟨i + 1, rfl, rfl, by omega, rfl, fun q hq2 => ?_⟩
    by_cases c4 : q = i
    · rw [c4]
      exact c3
    · exact hq q (by omega)
  · refine a_s rfl rfl ?_
    refine a_zret rfl rfl rfl ⟨?_, rfl⟩
    rw [show isW (I 202) b (en (I 202) e b - b) k = false from decide_eq_false fun z => c3 (z.2 i hil)]
    rfl
theorem f_wordOf (hw : WdS S) (he : I 201 1 = nI e) (h4 : e ≤ 400) (hbt : BtT (I 202)) (hj : j < 401) (hb : b < e) (hk : kd (I 202) e b = 1) (hT : TkJ I e j b) : SpE S m_X9_wordOf 17 [.ref 221, .ref 201, .int (nI j)] (hp I L w1 w2 t) (some (.int (if wd (I 202) e b < 27 then nI (wd (I 202) e b) else -1))) (hp I L w1 w2 t) := by
  have hs := srA_all (isW (I 202) b (en (I 202) e b - b)) 27 0
  refine SpE_of ok_X9_wordOf rfl rfl ?_
  show AW S m_X9_wordOf 17 _ _ 0 0 0 [some (.ref 221), some (.ref 201), some (.int (nI j)), none, none] [] (hp I L w1 w2 t)
  refine a_s rfl rfl ?_
  refine a_s3 rfl rfl rfl rfl rfl rfl ?_
  refine a_inv (n := 27) (fun m ls h => ∃ i, ls = [some (.ref 221), some (.ref 201), some (.int (nI j)), some (.int (nI i)), none] ∧ h = hp I L w1 w2 t ∧ i ≤ 27 ∧ m = 27 - i ∧ i ≤ wd (I 202) e b) ⟨0, rfl, rfl, Nat.zero_le _, rfl, Nat.zero_le _⟩ ?_
  rintro m _ _ ⟨i, rfl, rfl, hi, hm, hq⟩ ih
  refine a_l3 rfl rfl rfl ?_
  refine a_gets rfl (inC4 (i := 0) rfl rfl) hw.al ?_
  refine a_lenc rfl hw.ar rfl ?_
  refine a_ic_ge rfl (fun c2 => ?_) (fun c2 => ?_)
  · have hge := nI_ge_of (b := 27) c2 (by omega) (by decide)
    refine a_s rfl rfl ?_
    refine a_iret rfl rfl ⟨?_, rfl⟩
    rw [if_neg (by omega)]
  have hil : i < 27 := nI_lt_of (b := 27) c2 (by omega) (by decide)
  refine a_gets rfl (inC4 (i := 0) rfl rfl) hw.al ?_
  refine a_l3 rfl rfl rfl ?_
  refine a_aaldc rfl hw.ar rfl (inI_nI hil (by decide)) ?_
  refine a_pop1 (st := [.ref (100 + i)]) (by rw [nI_clamp (by omega)]) ?_
  refine a_s4 rfl rfl rfl rfl rfl rfl ?_
  refine a_l4 rfl rfl rfl ?_
  refine a_ifnull_f rfl ?_
  refine a_l0 rfl rfl rfl ?_
  refine a_l1 rfl rfl rfl ?_
  refine a_l2 rfl rfl rfl ?_
  refine a_l4 rfl rfl rfl ?_
  refine a_getc rfl (inC10 (i := 50) rfl rfl) (hw.tx hil) ?_
  refine a_eV1 rfl lX9_78 mo_X9_isText (f_isText hw he h4 hbt hj hb hk hT hil) rfl rfl rfl ⟨9, _, rfl, rfl, rfl⟩ rfl ?_
  cases c3 : isW (I 202) b (en (I 202) e b - b) i with
  | true =>
    refine a_if_eq rfl (fun c => absurd c (by decide)) (fun _ => ?_)
    refine a_l3 rfl rfl rfl ?_
    refine a_iret rfl rfl ⟨?_, rfl⟩
    rw [wd_eq hil c3, if_pos hil]
  | false =>
    refine a_if_eq rfl (fun _ => ?_) (fun c => absurd rfl c)
    refine a_iv3 (y := nI (i + 1)) rfl rfl rfl ((nI_succ i).symm) ?_
    refine a_goto rfl ?_
    refine a_less (ih (27 - (i + 1)) _ _ (by omega) ⟨i + 1, rfl, rfl, by omega, rfl, ?_⟩) ⟨rfl, rfl, rfl, rfl, trivial⟩
    rcases Nat.lt_or_ge (wd (I 202) e b) (i + 1) with z | z
    · exfalso
      have hwi : wd (I 202) e b = i := by omega
      have := wd_is (T := I 202) (e := e) (b := b) (by omega)
      rw [hwi, c3] at this
      cases this
    · exact z
theorem f_numberOf (he : I 201 1 = nI e) (h4 : e ≤ 400) (hbt : BtT (I 202)) (hj : j < 401) (hb : b < e) (hk : kd (I 202) e b = 2) (hT : TkJ I e j b) : SpE S m_X9_numberOf 13 [.ref 221, .ref 201, .int (nI j)] (hp I L w1 w2 t) (some (.int (if 3 < en (I 202) e b - b then -1 else nuF (I 202) b (en (I 202) e b - b)))) (hp I L w1 w2 t) := by
  have h1 := en_ge (T := I 202) (e := e) (b := b)
  have h2 := en_le (T := I 202) (Nat.le_of_lt hb)
  obtain ⟨-, t2, t3⟩ := hT
  refine SpE_of ok_X9_numberOf rfl rfl ?_
  show AW S m_X9_numberOf 13 _ _ 0 0 0 [some (.ref 221), some (.ref 201), some (.int (nI j)), none, none, none, none] [] (hp I L w1 w2 t)
  refine a_l0 rfl rfl rfl ?_
  refine a_getq rfl gfX9_15_9 rfl (rfl) ?_
  refine a_l2 rfl rfl rfl ?_
  refine a_eSN1 rfl lX9_58 mo_X11_at (sp_X11_at rfl) rfl rfl rfl rfl ?_
  refine a_top (y := nI b) ((atF_nI hj (by decide)).trans t2) ?_
  refine a_s3 rfl rfl rfl rfl rfl rfl ?_
  refine a_l0 rfl rfl rfl ?_
  refine a_getq rfl gfX9_18_9 rfl (rfl) ?_
  refine a_l2 rfl rfl rfl ?_
  refine a_eSN1 rfl lX9_58 mo_X11_at (sp_X11_at rfl) rfl rfl rfl rfl ?_
  refine a_top (y := nI (en (I 202) e b)) ((atF_nI hj (by decide)).trans t3) ?_
  refine a_s4 rfl rfl rfl rfl rfl rfl ?_
  refine a_l4 rfl rfl rfl ?_
  refine a_l3 rfl rfl rfl ?_
  refine a_s rfl rfl ?_
  refine a_top (y := nI (en (I 202) e b - b)) (nI_sub h1) ?_
  refine a_s rfl rfl ?_
  refine a_ic_le rfl (fun c => ?_) (fun c => ?_)
  rotate_left
  · refine a_s rfl rfl ?_
    refine a_iret rfl rfl ⟨?_, rfl⟩
    rw [if_pos (Nat.not_le.mp fun z => c (nI_leu (j := 3) z (by decide)))]
  have hle : ¬ 3 < en (I 202) e b - b := fun z => absurd (nI_ltu (n := 3) z (by omega)) (Int32.not_lt.mpr c)
  refine a_s rfl rfl ?_
  refine a_s5 rfl rfl rfl rfl rfl rfl ?_
  refine a_l3 rfl rfl rfl ?_
  refine a_s6 rfl rfl rfl rfl rfl rfl ?_
  refine a_inv (n := en (I 202) e b - b) (fun m ls h => ∃ i, ls = [some (.ref 221), some (.ref 201), some (.int (nI j)), some (.int (nI b)), some (.int (nI (en (I 202) e b))), some (.int (nuF (I 202) b i)), some (.int (nI (b + i)))] ∧ h = hp I L w1 w2 t ∧ b + i ≤ en (I 202) e b ∧ m = en (I 202) e b - b - i) ⟨0, rfl, rfl, h1, rfl⟩ ?_
  rintro m _ _ ⟨i, rfl, rfl, hi, hm⟩ ih
  refine a_l6 rfl rfl rfl ?_
  refine a_l4 rfl rfl rfl ?_
  refine a_ic_ge rfl (fun c2 => ?_) (fun c2 => ?_)
  · have hge := nI_ge_of c2 (by omega) (by omega)
    refine a_l5 rfl rfl rfl ?_
    refine a_iret rfl rfl ⟨?_, rfl⟩
    rw [if_neg hle, show en (I 202) e b - b = i by omega]
  have hil : b + i < en (I 202) e b := nI_lt_of c2 (by omega) (by omega)
  refine a_l5 rfl rfl rfl ?_
  refine a_s rfl rfl ?_
  refine a_s rfl rfl ?_
  refine a_l1 rfl rfl rfl ?_
  refine a_l6 rfl rfl rfl ?_
  refine a_eV1 rfl lX9_33 mo_X7_byteAt (f_byteAt he h4 (by omega)) rfl rfl rfl ⟨7, _, rfl, rfl, rfl⟩ rfl ?_
  refine a_top (y := I 202 (b + i) &&& 255) (if_pos (by omega)) ?_
  have hkc : kcF (I 202 (b + i)) = 2 := by
    rw [en_2 hk] at hil
    exact isK_kc (rn_all (T := I 202) (e := e) (k := 2) (p := b) (Nat.le_add_right _ _) hil)
  obtain ⟨x, hx, ex⟩ := hbt (b + i) (by omega)
  have e255 : I 202 (b + i) &&& 255 = I 202 (b + i) := by
    rw [ex] at hkc ⊢
    exact (bt_dg x hx hkc).1
  refine a_top (y := I 202 (b + i)) (e255) ?_
  refine a_s rfl rfl ?_
  refine a_s rfl rfl ?_
  refine a_s rfl rfl ?_
  refine a_s5 rfl rfl rfl rfl rfl rfl ?_
  refine a_iv6 (y := nI (b + (i + 1))) rfl rfl rfl ((nI_succ (b + i)).symm) ?_
  refine a_goto rfl ?_
  exact ih (en (I 202) e b - b - (i + 1)) _ _ (by omega) ⟨i + 1, rfl, rfl, by omega, rfl⟩
theorem f_valueOf (hw : WdS S) (he : I 201 1 = nI e) (h4 : e ≤ 400) (hbt : BtT (I 202)) (hj : j < 401) (hbe : b ≤ e) (hnb : kd (I 202) e b ≠ 4) (hT : TkJ I e j b) : SpE S m_X9_valueOf 18 [.ref 221, .ref 201, .int (nI j)] (hp I L w1 w2 t) (some (.int (vl (I 202) e b))) (hp I L w1 w2 t) := by
  refine SpE_of ok_X9_valueOf rfl rfl ?_
  show AW S m_X9_valueOf 18 _ _ 0 0 0 [some (.ref 221), some (.ref 201), some (.int (nI j))] [] (hp I L w1 w2 t)
  refine a_l0 rfl rfl rfl ?_
  refine a_getq rfl gfX9_9_9 rfl (rfl) ?_
  refine a_l2 rfl rfl rfl ?_
  refine a_eSN1 rfl lX9_58 mo_X11_at (sp_X11_at rfl) rfl rfl rfl rfl ?_
  refine a_top (y := nI (kd (I 202) e b)) ((atF_nI hj (by decide)).trans hT.1) ?_
  have hk5 : kd (I 202) e b < 5 := by
    by_cases c : b < e
    · rw [kd_lt c]
      rcases kc_cases (I 202 b) with z | z | z | z <;> omega
    · rw [kd_ge c]
      omega
  have hti : (nI (kd (I 202) e b)).toInt = (kd (I 202) e b : Int) := nI_toInt (by omega)
  refine a_lsw2 rfl (by decide) (by decide) (fun hx => ?_) (fun hx => ?_) (fun hx hx2 => ?_)
  · refine a_pc (pc' := 36) (by decide) ?_
    have hk : kd (I 202) e b = 1 := by rw [hti] at hx; omega
    refine a_l0 rfl rfl rfl ?_
    refine a_l1 rfl rfl rfl ?_
    refine a_l2 rfl rfl rfl ?_
    refine a_eV1 rfl lX9_62 mo_X9_wordOf (f_wordOf hw he h4 hbt hj (kd_in (by rw [hk]; decide)) hk hT) rfl rfl rfl ⟨9, _, rfl, rfl, rfl⟩ rfl ?_
    refine a_iret rfl rfl ⟨?_, rfl⟩
    rw [vl_1 hk]
  · refine a_pc (pc' := 43) (by decide) ?_
    have hk : kd (I 202) e b = 2 := by rw [hti] at hx; omega
    refine a_l0 rfl rfl rfl ?_
    refine a_l1 rfl rfl rfl ?_
    refine a_l2 rfl rfl rfl ?_
    refine a_eV1 rfl lX9_65 mo_X9_numberOf (f_numberOf he h4 hbt hj (kd_in (by rw [hk]; decide)) hk hT) rfl rfl rfl ⟨9, _, rfl, rfl, rfl⟩ rfl ?_
    refine a_iret rfl rfl ⟨?_, rfl⟩
    rw [vl_2 hk]
  · refine a_pc (pc' := 50) (by decide) ?_
    rw [hti] at hx hx2
    refine a_l1 rfl rfl rfl ?_
    refine a_l0 rfl rfl rfl ?_
    refine a_getq rfl gfX9_15_9 rfl (rfl) ?_
    refine a_l2 rfl rfl rfl ?_
    refine a_eSN1 rfl lX9_58 mo_X11_at (sp_X11_at rfl) rfl rfl rfl rfl ?_
    refine a_top (y := nI b) ((atF_nI hj (by decide)).trans hT.2.1) ?_
    refine a_eV1 rfl lX9_33 mo_X7_byteAt (f_byteAt he h4 (by omega)) rfl rfl rfl ⟨7, _, rfl, rfl, rfl⟩ rfl ?_
    refine a_iret rfl rfl ⟨?_, rfl⟩
    by_cases c : b < e
    · have hk : kd (I 202) e b = 3 := by
        have := kd_lt (T := I 202) c
        rcases kc_cases (I 202 b) with z | z | z | z <;> omega
      rw [vl_3 hk, if_pos c]
    · rw [vl_0 (kd_ge c), if_neg c]
end T79
