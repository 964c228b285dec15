section
/-! ===== the class's tokens, as functions of the tape ===== -/
section T79
variable {S : aS} {I : Nat → Nat → Int32} {L : Nat → Nat → Int64} {w1 w2 t : Nat} {e n j b : Nat}
set_option maxRecDepth 100000
theorem f_byteAt (he : I 201 1 = nI e) (h4 : e ≤ 400) {j : Nat} (hj : j < 2 ^ 31) : SpE S m_X7_byteAt 12 [.ref 201, .int (nI j)] (hp I L w1 w2 t) (some (.int (if j < e then I 202 j &&& 255 else -1))) (hp I L w1 w2 t) := by
  refine SpE_of ok_X7_byteAt rfl rfl ?_
  show AW S m_X7_byteAt 12 _ _ 0 0 0 [some (.ref 201), some (.int (nI j))] [] (hp I L w1 w2 t)
  refine a_l1 rfl rfl rfl ?_
  refine a_if_lt rfl (fun c => absurd c (nI_pos (by omega))) (fun _ => ?_)
  refine a_l1 rfl rfl rfl ?_
  refine a_l0 rfl rfl rfl ?_
  refine a_getiv (v := nI e) rfl gfX7_15_7 rfl (he) ?_
  refine a_ic_ge rfl (fun c => ?_) (fun c => ?_)
  · refine a_s rfl rfl ?_
    refine a_iret rfl rfl ⟨?_, rfl⟩
    rw [if_neg (Nat.not_lt.mpr (nI_ge_of c hj (by omega)))]
  · have hlt := nI_lt_of c hj (by omega)
    refine a_l1 rfl rfl rfl ?_
    refine a_l0 rfl rfl rfl ?_
    refine a_getq rfl gfX7_9_7 rfl (rfl) ?_
    refine a_len rfl (n := 400) rfl rfl rfl ?_
    refine a_ic_ge rfl (fun c => absurd c (nI_ge (b := 400) (by omega) (by omega))) (fun _ => ?_)
    refine a_l0 rfl rfl rfl ?_
    refine a_getq rfl gfX7_9_7 rfl (rfl) ?_
    refine a_l1 rfl rfl rfl ?_
    refine a_baldv (v := I 202 j) rfl (n := 400) rfl (inI_nI (by omega) (by omega)) (by rw [nI_clamp (by omega)]) ?_
    refine a_s rfl rfl ?_
    refine a_s rfl rfl ?_
    refine a_goto rfl ?_
    refine a_iret rfl rfl ⟨?_, rfl⟩
    rw [if_pos hlt]
theorem f_kindOf {h : aH} {x : Int32} : SpE S m_X9_kindOf 12 [.int x] h (some (.int (nI (kcF x)))) h := by
  refine SpE_of ok_X9_kindOf rfl rfl ?_
  show AW S m_X9_kindOf 12 _ _ 0 0 0 [some (.int x)] [] h
  refine a_l0 rfl rfl rfl ?_
  refine a_s rfl rfl ?_
  refine a_ic_ne rfl (fun c2 => ?_) (fun c2 => ?_)
  · have tail : ¬ (97 ≤ x ∧ x ≤ 122) → AW S m_X9_kindOf 12 (fun v h' => v = some (.int (nI (kcF x))) ∧ h' = h) (fun _ _ => False) 0 0 22 [some (.int x)] [] h := by
      intro hn
      refine a_l0 rfl rfl rfl ?_
      refine a_s rfl rfl ?_
      refine a_ic_lt rfl (fun c3 => ?_) (fun c3 => ?_)
      · refine a_s rfl rfl ?_
        refine a_iret rfl rfl ⟨?_, rfl⟩
        unfold kcF
        rw [if_neg c2, if_neg hn, if_neg (fun z => absurd c3 (Int32.not_lt.mpr z.1))]
        rfl
      · refine a_l0 rfl rfl rfl ?_
        refine a_s rfl rfl ?_
        refine a_ic_gt rfl (fun c4 => ?_) (fun c4 => ?_)
        · refine a_s rfl rfl ?_
          refine a_iret rfl rfl ⟨?_, rfl⟩
          unfold kcF
          rw [if_neg c2, if_neg hn, if_neg (fun z => absurd c4 (Int32.not_lt.mpr z.2))]
          rfl
        · refine a_s rfl rfl ?_
          refine a_goto rfl ?_
          refine a_iret rfl rfl ⟨?_, rfl⟩
          unfold kcF
          rw [if_neg c2, if_neg hn, if_pos ⟨Int32.not_lt.mp c3, Int32.not_lt.mp c4⟩]
          rfl
    refine a_l0 rfl rfl rfl ?_
    refine a_s rfl rfl ?_
    refine a_ic_lt rfl (fun c3 => tail (fun z => absurd c3 (Int32.not_lt.mpr z.1))) (fun c3 => ?_)
    refine a_l0 rfl rfl rfl ?_
    refine a_s rfl rfl ?_
    refine a_ic_gt rfl (fun c4 => tail (fun z => absurd c4 (Int32.not_lt.mpr z.2))) (fun c4 => ?_)
    refine a_s rfl rfl ?_
    refine a_iret rfl rfl ⟨?_, rfl⟩
    unfold kcF
    rw [if_neg c2, if_pos ⟨Int32.not_lt.mp c3, Int32.not_lt.mp c4⟩]
    rfl
  · refine a_s rfl rfl ?_
    refine a_iret rfl rfl ⟨?_, rfl⟩
    unfold kcF
    rw [if_pos c2]
    rfl
def opH (I : Nat → Nat → Int32) (n : Nat) (x y : Int32) : Nat → Nat → Int32 := up2 (up2 (up2 (up2 I 222 n x) 223 n y) 224 n y) 221 4 (nI (n + 1))
theorem f_open (h4 : I 221 4 = nI n) (hn : n < 401) {x y : Int32} : SpE S m_X9_open 13 [.ref 221, .int x, .int y] (hp I L w1 w2 t) none (hp (opH I n x y) L w1 w2 t) := by
  refine SpE_of ok_X9_open rfl rfl ?_
  show AW S m_X9_open 13 _ _ 0 0 0 [some (.ref 221), some (.int x), some (.int y)] [] (hp I L w1 w2 t)
  refine a_l0 rfl rfl rfl ?_
  refine a_getq rfl gfX9_9_9 rfl (rfl) ?_
  refine a_l0 rfl rfl rfl ?_
  refine a_getiv (v := nI n) rfl gfX9_24_9 rfl (h4) ?_
  refine a_l1 rfl rfl rfl ?_
  refine a_eSN0 rfl lX9_44 mo_X11_setAt (sp_X11_setAt rfl) rfl rfl rfl rfl ?_
  rw [setF_nI hn (by decide)]
  refine a_l0 rfl rfl rfl ?_
  refine a_getq rfl gfX9_15_9 rfl (rfl) ?_
  refine a_l0 rfl rfl rfl ?_
  refine a_getiv (v := nI n) rfl gfX9_24_9 rfl ((congrFun (up2_row (by decide)) 4).trans h4) ?_
  refine a_l2 rfl rfl rfl ?_
  refine a_eSN0 rfl lX9_44 mo_X11_setAt (sp_X11_setAt rfl) rfl rfl rfl rfl ?_
  rw [setF_nI hn (by decide)]
  refine a_l0 rfl rfl rfl ?_
  refine a_getq rfl gfX9_18_9 rfl (rfl) ?_
  refine a_l0 rfl rfl rfl ?_
  refine a_getiv (v := nI n) rfl gfX9_24_9 rfl ((congrFun (up2_row (by decide)) 4).trans ((congrFun (up2_row (by decide)) 4).trans h4)) ?_
  refine a_l2 rfl rfl rfl ?_
  refine a_eSN0 rfl lX9_44 mo_X11_setAt (sp_X11_setAt rfl) rfl rfl rfl rfl ?_
  rw [setF_nI hn (by decide)]
  refine a_l0 rfl rfl rfl ?_
  refine a_s rfl rfl ?_
  refine a_getiv (v := nI n) rfl gfX9_24_9 rfl ((congrFun (up2_row (by decide)) 4).trans ((congrFun (up2_row (by decide)) 4).trans ((congrFun (up2_row (by decide)) 4).trans h4))) ?_
  refine a_s rfl rfl ?_
  refine a_s rfl rfl ?_
  refine a_top (y := nI (n + 1)) ((nI_succ n).symm) ?_
  refine a_puti rfl pfX9_24_9 rfl ?_
  exact a_vret rfl rfl ⟨rfl, rfl⟩
/-- what a thing of the row is -/
def TkJ (I : Nat → Nat → Int32) (e j b : Nat) : Prop := I 222 j = nI (kd (I 202) e b) ∧ I 223 j = nI b ∧ I 224 j = nI (en (I 202) e b)
theorem f_isText (hw : WdS S) (he : I 201 1 = nI e) (h4 : e ≤ 400) (hbt : BtT (I 202)) (hj : j < 401) (hb : b < e) (hk : kd (I 202) e b = 1) (hT : TkJ I e j b) {k : Nat} (hk3 : k < 27) : SpE S m_X9_isText 16 [.ref 221, .ref 201, .int (nI j), .ref (130 + k)] (hp I L w1 w2 t) (some (.int (bI (isW (I 202) b (en (I 202) e b - b) k)))) (hp I L w1 w2 t) := by
  have h1 := en_ge (T := I 202) (e := e) (b := b)
  have h2 := en_le (T := I 202) (Nat.le_of_lt hb)
  have h3 := wLen_lt k hk3
  obtain ⟨-, t2, t3⟩ := hT
  refine SpE_of ok_X9_isText rfl rfl ?_
  show AW S m_X9_isText 16 _ _ 0 0 0 [some (.ref 221), some (.ref 201), some (.int (nI j)), some (.ref (130 + k)), none, none] [] (hp I L w1 w2 t)
  refine a_l0 rfl rfl rfl ?_
  refine a_getq rfl gfX9_15_9 rfl (rfl) ?_
  refine a_l2 rfl rfl rfl ?_
  refine a_eSN1 rfl lX9_58 mo_X11_at (sp_X11_at rfl) rfl rfl rfl rfl ?_
  refine a_top (y := nI b) ((atF_nI hj (by decide)).trans t2) ?_
  refine a_s4 rfl rfl rfl rfl rfl rfl ?_
  refine a_l0 rfl rfl rfl ?_
  refine a_getq rfl gfX9_18_9 rfl (rfl) ?_
  refine a_l2 rfl rfl rfl ?_
  refine a_eSN1 rfl lX9_58 mo_X11_at (sp_X11_at rfl) rfl rfl rfl rfl ?_
  refine a_top (y := nI (en (I 202) e b)) ((atF_nI hj (by decide)).trans t3) ?_
  refine a_l4 rfl rfl rfl ?_
  refine a_s rfl rfl ?_
  refine a_top (y := nI (en (I 202) e b - b)) (nI_sub h1) ?_
  refine a_l3 rfl rfl rfl ?_
  refine a_eK1 rfl lX9_82 mo_J0_length_8abf5 (q_strlen hw hk3) rfl rfl rfl (hw.so hk3) rfl ?_
  refine a_ic_eq rfl (fun c => ?_) (fun c => ?_)
  rotate_left
  · refine a_s rfl rfl ?_
    refine a_zret rfl rfl rfl ⟨?_, rfl⟩
    rw [show isW (I 202) b (en (I 202) e b - b) k = false from decide_eq_false fun z => c (congrArg nI z.1)]
    rfl
  have hl : en (I 202) e b - b = wLen k := nI_inj (by omega) h3 c
  refine a_s rfl rfl ?_
  refine a_s5 rfl rfl rfl rfl rfl rfl ?_
  refine a_inv (n := wLen k) (fun m ls h => ∃ i, ls = [some (.ref 221), some (.ref 201), some (.int (nI j)), some (.ref (130 + k)), some (.int (nI b)), some (.int (nI i))] ∧ h = hp I L w1 w2 t ∧ i ≤ wLen k ∧ m = wLen k - i ∧ ∀ q, q < i → I 202 (b + q) = wC k q) ⟨0, rfl, rfl, Nat.zero_le _, rfl, fun q hq => absurd hq (Nat.not_lt_zero _)⟩ ?_
  rintro m _ _ ⟨i, rfl, rfl, hi, hm, hq⟩ ih
  refine a_l5 rfl rfl rfl ?_
  refine a_l3 rfl rfl rfl ?_
  refine a_eK1 rfl lX9_82 mo_J0_length_8abf5 (q_strlen hw hk3) rfl rfl rfl (hw.so hk3) rfl ?_
  refine a_ic_ge rfl (fun c2 => ?_) (fun c2 => ?_)
  · have hge := nI_ge_of c2 (by omega) h3
    refine a_s rfl rfl ?_
    refine a_zret rfl rfl rfl ⟨?_, rfl⟩
    rw [show isW (I 202) b (en (I 202) e b - b) k = true from decide_eq_true ⟨hl, fun q hq2 => hq q (by omega)⟩]
    rfl
  have hil : i < wLen k := nI_lt_of c2 (by omega) h3
  refine a_l1 rfl rfl rfl ?_
  refine a_l4 rfl rfl rfl ?_
  refine a_l5 rfl rfl rfl ?_
  refine a_s rfl rfl ?_
  refine a_top (y := nI (b + i)) (nI_addl b i) ?_
  refine a_eV1 rfl lX9_33 mo_X7_byteAt (f_byteAt he h4 (by omega)) rfl rfl rfl ⟨7, _, rfl, rfl, rfl⟩ rfl ?_
  have hbi : b + i < e := by omega
  refine a_top (y := I 202 (b + i) &&& 255) (if_pos hbi) ?_
  have hkc : kcF (I 202 (b + i)) = 1 := by
    rw [en_1 hk] at hl
    exact isK_kc (rn_all (T := I 202) (e := e) (k := 1) (p := b) (Nat.le_add_right _ _) (by omega))
  obtain ⟨x, hx, ex⟩ := hbt (b + i) (by omega)
  have e255 : I 202 (b + i) &&& 255 = I 202 (b + i) := by
    rw [ex] at hkc ⊢
    exact bt_lt x hx hkc
  refine a_top (y := I 202 (b + i)) (e255) ?_
  refine a_l3 rfl rfl rfl ?_
  refine a_l5 rfl rfl rfl ?_
  refine a_eK1 rfl lX9_87 mo_J0_charAt_5068e (q_charAt hw hk3 hil) rfl rfl rfl (hw.so hk3) rfl ?_
  refine a_ic_eq rfl (fun c3 => ?_) (fun c3 => ?_)
  · refine a_iv5 (y := nI (i + 1)) rfl rfl rfl ((nI_succ i).symm) ?_
    refine a_goto rfl ?_
    refine ih (wLen k - (i + 1)) _ _ (by omega) ⟨i + 1, rfl, rfl, by omega, rfl, fun q hq2 => ?_⟩
    by_cases c4 : q = i
    · rw [c4]
      exact c3
    · exact hq q (by omega)
  · refine a_s rfl rfl ?_
    refine a_zret rfl rfl rfl ⟨?_, rfl⟩
    rw [show isW (I 202) b (en (I 202) e b - b) k = false from decide_eq_false fun z => c3 (z.2 i hil)]
    rfl
theorem f_wordOf (hw : WdS S) (he : I 201 1 = nI e) (h4 : e ≤ 400) (hbt : BtT (I 202)) (hj : j < 401) (hb : b < e) (hk : kd (I 202) e b = 1) (hT : TkJ I e j b) : SpE S m_X9_wordOf 17 [.ref 221, .ref 201, .int (nI j)] (hp I L w1 w2 t) (some (.int (if wd (I 202) e b < 27 then nI (wd (I 202) e b) else -1))) (hp I L w1 w2 t) := by
  have hs := srA_all (isW (I 202) b (en (I 202) e b - b)) 27 0
  refine SpE_of ok_X9_wordOf rfl rfl ?_
  show AW S m_X9_wordOf 17 _ _ 0 0 0 [some (.ref 221), some (.ref 201), some (.int (nI j)), none, none] [] (hp I L w1 w2 t)
  refine a_s rfl rfl ?_
  refine a_s3 rfl rfl rfl rfl rfl rfl ?_
  refine a_inv (n := 27) (fun m ls h => ∃ i, ls = [some (.ref 221), some (.ref 201), some (.int (nI j)), some (.int (nI i)), none] ∧ h = hp I L w1 w2 t ∧ i ≤ 27 ∧ m = 27 - i ∧ i ≤ wd (I 202) e b) ⟨0, rfl, rfl, Nat.zero_le _, rfl, Nat.zero_le _⟩ ?_
  rintro m _ _ ⟨i, rfl, rfl, hi, hm, hq⟩ ih
  refine a_l3 rfl rfl rfl ?_
  refine a_gets rfl (inC4 (i := 0) rfl rfl) hw.al ?_
  refine a_lenc rfl hw.ar rfl ?_
  refine a_ic_ge rfl (fun c2 => ?_) (fun c2 => ?_)
  · have hge := nI_ge_of (b := 27) c2 (by omega) (by decide)
    refine a_s rfl rfl ?_
    refine a_iret rfl rfl ⟨?_, rfl⟩
    rw [if_neg (by omega)]
  have hil : i < 27 := nI_lt_of (b := 27) c2 (by omega) (by decide)
  refine a_gets rfl (inC4 (i := 0) rfl rfl) hw.al ?_
  refine a_l3 rfl rfl rfl ?_
  refine a_aaldc rfl hw.ar rfl (inI_nI hil (by decide)) ?_
  refine a_pop1 (st := [.ref (100 + i)]) (by rw [nI_clamp (by omega)]) ?_
  refine a_s4 rfl rfl rfl rfl rfl rfl ?_
  refine a_l4 rfl rfl rfl ?_
  refine a_ifnull_f rfl ?_
  refine a_l0 rfl rfl rfl ?_
  refine a_l1 rfl rfl rfl ?_
  refine a_l2 rfl rfl rfl ?_
  refine a_l4 rfl rfl rfl ?_
  refine a_getc rfl (inC10 (i := 50) rfl rfl) (hw.tx hil) ?_
  refine a_eV1 rfl lX9_78 mo_X9_isText (f_isText hw he h4 hbt hj hb hk hT hil) rfl rfl rfl ⟨9, _, rfl, rfl, rfl⟩ rfl ?_
  cases c3 : isW (I 202) b (en (I 202) e b - b) i with
  | true =>
    refine a_if_eq rfl (fun c => absurd c (by decide)) (fun _ => ?_)
    refine a_l3 rfl rfl rfl ?_
    refine a_iret rfl rfl ⟨?_, rfl⟩
    rw [wd_eq hil c3, if_pos hil]
  | false =>
    refine a_if_eq rfl (fun _ => ?_) (fun c => absurd rfl c)
    refine a_iv3 (y := nI (i + 1)) rfl rfl rfl ((nI_succ i).symm) ?_
    refine a_goto rfl ?_
    refine a_less (ih (27 - (i + 1)) _ _ (by omega) ⟨i + 1, rfl, rfl, by omega, rfl, ?_⟩) ⟨rfl, rfl, rfl, rfl, trivial⟩
    rcases Nat.lt_or_ge (wd (I 202) e b) (i + 1) with z | z
    · exfalso
      have hwi : wd (I 202) e b = i := by omega
      have := wd_is (T := I 202) (e := e) (b := b) (by omega)
      rw [hwi, c3] at this
      cases this
    · exact z
theorem f_numberOf (he : I 201 1 = nI e) (h4 : e ≤ 400) (hbt : BtT (I 202)) (hj : j < 401) (hb : b < e) (hk : kd (I 202) e b = 2) (hT : TkJ I e j b) : SpE S m_X9_numberOf 13 [.ref 221, .ref 201, .int (nI j)] (hp I L w1 w2 t) (some (.int (if 3 < en (I 202) e b - b then -1 else nuF (I 202) b (en (I 202) e b - b)))) (hp I L w1 w2 t) := by
  have h1 := en_ge (T := I 202) (e := e) (b := b)
  have h2 := en_le (T := I 202) (Nat.le_of_lt hb)
  obtain ⟨-, t2, t3⟩ := hT
  refine SpE_of ok_X9_numberOf rfl rfl ?_
  show AW S m_X9_numberOf 13 _ _ 0 0 0 [some (.ref 221), some (.ref 201), some (.int (nI j)), none, none, none, none] [] (hp I L w1 w2 t)
  refine a_l0 rfl rfl rfl ?_
  refine a_getq rfl gfX9_15_9 rfl (rfl) ?_
  refine a_l2 rfl rfl rfl ?_
  refine a_eSN1 rfl lX9_58 mo_X11_at (sp_X11_at rfl) rfl rfl rfl rfl ?_
  refine a_top (y := nI b) ((atF_nI hj (by decide)).trans t2) ?_
  refine a_s3 rfl rfl rfl rfl rfl rfl ?_
  refine a_l0 rfl rfl rfl ?_
  refine a_getq rfl gfX9_18_9 rfl (rfl) ?_
  refine a_l2 rfl rfl rfl ?_
  refine a_eSN1 rfl lX9_58 mo_X11_at (sp_X11_at rfl) rfl rfl rfl rfl ?_
  refine a_top (y := nI (en (I 202) e b)) ((atF_nI hj (by decide)).trans t3) ?_
  refine a_s4 rfl rfl rfl rfl rfl rfl ?_
  refine a_l4 rfl rfl rfl ?_
  refine a_l3 rfl rfl rfl ?_
  refine a_s rfl rfl ?_
  refine a_top (y := nI (en (I 202) e b - b)) (nI_sub h1) ?_
  refine a_s rfl rfl ?_
  refine a_ic_le rfl (fun c => ?_) (fun c => ?_)
  rotate_left
  · refine a_s rfl rfl ?_
    refine a_iret rfl rfl ⟨?_, rfl⟩
    rw [if_pos (Nat.not_le.mp fun z => c (nI_leu (j := 3) z (by decide)))]
  have hle : ¬ 3 < en (I 202) e b - b := fun z => absurd (nI_ltu (n := 3) z (by omega)) (Int32.not_lt.mpr c)
  refine a_s rfl rfl ?_
  refine a_s5 rfl rfl rfl rfl rfl rfl ?_
  refine a_l3 rfl rfl rfl ?_
  refine a_s6 rfl rfl rfl rfl rfl rfl ?_
  refine a_inv (n := en (I 202) e b - b) (fun m ls h => ∃ i, ls = [some (.ref 221), some (.ref 201), some (.int (nI j)), some (.int (nI b)), some (.int (nI (en (I 202) e b))), some (.int (nuF (I 202) b i)), some (.int (nI (b + i)))] ∧ h = hp I L w1 w2 t ∧ b + i ≤ en (I 202) e b ∧ m = en (I 202) e b - b - i) ⟨0, rfl, rfl, h1, rfl⟩ ?_
  rintro m _ _ ⟨i, rfl, rfl, hi, hm⟩ ih
  refine a_l6 rfl rfl rfl ?_
  refine a_l4 rfl rfl rfl ?_
  refine a_ic_ge rfl (fun c2 => ?_) (fun c2 => ?_)
  · have hge := nI_ge_of c2 (by omega) (by omega)
    refine a_l5 rfl rfl rfl ?_
    refine a_iret rfl rfl ⟨?_, rfl⟩
    rw [if_neg hle, show en (I 202) e b - b = i by omega]
  have hil : b + i < en (I 202) e b := nI_lt_of c2 (by omega) (by omega)
  refine a_l5 rfl rfl rfl ?_
  refine a_s rfl rfl ?_
  refine a_s rfl rfl ?_
  refine a_l1 rfl rfl rfl ?_
  refine a_l6 rfl rfl rfl ?_
  refine a_eV1 rfl lX9_33 mo_X7_byteAt (f_byteAt he h4 (by omega)) rfl rfl rfl ⟨7, _, rfl, rfl, rfl⟩ rfl ?_
  refine a_top (y := I 202 (b + i) &&& 255) (if_pos (by omega)) ?_
  have hkc : kcF (I 202 (b + i)) = 2 := by
    rw [en_2 hk] at hil
    exact isK_kc (rn_all (T := I 202) (e := e) (k := 2) (p := b) (Nat.le_add_right _ _) hil)
  obtain ⟨x, hx, ex⟩ := hbt (b + i) (by omega)
  have e255 : I 202 (b + i) &&& 255 = I 202 (b + i) := by
    rw [ex] at hkc ⊢
    exact (bt_dg x hx hkc).1
  refine a_top (y := I 202 (b + i)) (e255) ?_
  refine a_s rfl rfl ?_
  refine a_s rfl rfl ?_
  refine a_s rfl rfl ?_
  refine a_s5 rfl rfl rfl rfl rfl rfl ?_
  refine a_iv6 (y := nI (b + (i + 1))) rfl rfl rfl ((nI_succ (b + i)).symm) ?_
  refine a_goto rfl ?_
  exact ih (en (I 202) e b - b - (i + 1)) _ _ (by omega) ⟨i + 1, rfl, rfl, by omega, rfl⟩
theorem f_valueOf (hw : WdS S) (he : I 201 1 = nI e) (h4 : e ≤ 400) (hbt : BtT (I 202)) (hj : j < 401) (hbe : b ≤ e) (hnb : kd (I 202) e b ≠ 4) (hT : TkJ I e j b) : SpE S m_X9_valueOf 18 [.ref 221, .ref 201, .int (nI j)] (hp I L w1 w2 t) (some (.int (vl (I 202) e b))) (hp I L w1 w2 t) := by
  refine SpE_of ok_X9_valueOf rfl rfl ?_
  show AW S m_X9_valueOf 18 _ _ 0 0 0 [some (.ref 221), some (.ref 201), some (.int (nI j))] [] (hp I L w1 w2 t)
  refine a_l0 rfl rfl rfl ?_
  refine a_getq rfl gfX9_9_9 rfl (rfl) ?_
  refine a_l2 rfl rfl rfl ?_
  refine a_eSN1 rfl lX9_58 mo_X11_at (sp_X11_at rfl) rfl rfl rfl rfl ?_
  refine a_top (y := nI (kd (I 202) e b)) ((atF_nI hj (by decide)).trans hT.1) ?_
  have hk5 : kd (I 202) e b < 5 := by
    by_cases c : b < e
    · rw [kd_lt c]
      rcases kc_cases (I 202 b) with z | z | z | z <;> omega
    · rw [kd_ge c]
      omega
  have hti : (nI (kd (I 202) e b)).toInt = (kd (I 202) e b : Int) := nI_toInt (by omega)
  refine a_lsw2 rfl (by decide) (by decide) (fun hx => ?_) (fun hx => ?_) (fun hx hx2 => ?_)
  · refine a_pc (pc' := 36) (by decide) ?_
    have hk : kd (I 202) e b = 1 := by rw [hti] at hx; omega
    refine a_l0 rfl rfl rfl ?_
    refine a_l1 rfl rfl rfl ?_
    refine a_l2 rfl rfl rfl ?_
    refine a_eV1 rfl lX9_62 mo_X9_wordOf (f_wordOf hw he h4 hbt hj (kd_in (by rw [hk]; decide)) hk hT) rfl rfl rfl ⟨9, _, rfl, rfl, rfl⟩ rfl ?_
    refine a_iret rfl rfl ⟨?_, rfl⟩
    rw [vl_1 hk]
  · refine a_pc (pc' := 43) (by decide) ?_
    have hk : kd (I 202) e b = 2 := by rw [hti] at hx; omega
    refine a_l0 rfl rfl rfl ?_
    refine a_l1 rfl rfl rfl ?_
    refine a_l2 rfl rfl rfl ?_
    refine a_eV1 rfl lX9_65 mo_X9_numberOf (f_numberOf he h4 hbt hj (kd_in (by rw [hk]; decide)) hk hT) rfl rfl rfl ⟨9, _, rfl, rfl, rfl⟩ rfl ?_
    refine a_iret rfl rfl ⟨?_, rfl⟩
    rw [vl_2 hk]
  · refine a_pc (pc' := 50) (by decide) ?_
    rw [hti] at hx hx2
    refine a_l1 rfl rfl rfl ?_
    refine a_l0 rfl rfl rfl ?_
    refine a_getq rfl gfX9_15_9 rfl (rfl) ?_
    refine a_l2 rfl rfl rfl ?_
    refine a_eSN1 rfl lX9_58 mo_X11_at (sp_X11_at rfl) rfl rfl rfl rfl ?_
    refine a_top (y := nI b) ((atF_nI hj (by decide)).trans hT.2.1) ?_
    refine a_eV1 rfl lX9_33 mo_X7_byteAt (f_byteAt he h4 (by omega)) rfl rfl rfl ⟨7, _, rfl, rfl, rfl⟩ rfl ?_
    refine a_iret rfl rfl ⟨?_, rfl⟩
    by_cases c : b < e
    · have hk : kd (I 202) e b = 3 := by
        have := kd_lt (T := I 202) c
        rcases kc_cases (I 202 b) with z | z | z | z <;> omega
      rw [vl_3 hk, if_pos c]
    · rw [vl_0 (kd_ge c), if_neg c]
end T79
end
section
/-! ===== the class's tokens: all at once, and one behind another ===== -/
section T79b
variable {S : aS} {I : Nat → Nat → Int32} {L : Nat → Nat → Int64} {w1 w2 t : Nat} {e n j b : Nat}
set_option maxRecDepth 100000
/-- all but the law's tokens is as it was -/
def Ft (I J : Nat → Nat → Int32) : Prop := ∀ q, ¬ (221 ≤ q ∧ q ≤ 225) → J q = I q
theorem Ft.rf : Ft I I := fun _ _ => rfl
theorem Ft.tr {J K : Nat → Nat → Int32} (h : Ft I J) (h2 : Ft J K) : Ft I K := fun q hq => (h2 q hq).trans (h q hq)
theorem Ft.up {J : Nat → Nat → Int32} {p k : Nat} {v : Int32} (h : Ft I J) (hp : 221 ≤ p ∧ p ≤ 225) : Ft I (up2 J p k v) := fun q hq => by
  rw [up2_row (by intro z; subst z; exact hq hp)]
  exact h q hq
/-- the things up to n, the last of them the end -/
def TkA (T : Nat → Int32) (e n : Nat) (I : Nat → Nat → Int32) : Prop := n ≤ 400 ∧ ¬ bg T e n < e ∧ I 221 4 = nI (n + 1) ∧ ∀ j, j ≤ n → I 222 j = nI (kd T e (bg T e j)) ∧ I 223 j = nI (bg T e j) ∧ I 225 j = vl T e (bg T e j)
def wrF (T : Nat → Int32) (e b : Nat) : Nat := if kd T e b = 1 ∧ wd T e b < 27 then 100 + wd T e b + 1 else 0
/-- what is at hand begins at b -/
def At (T : Nat → Int32) (e b w : Nat) (I : Nat → Nat → Int32) : Prop := (∃ n j, TkA T e n I ∧ j ≤ n ∧ I 221 5 = nI j ∧ b = bg T e j) ∧ I 221 6 = nI (kd T e b) ∧ I 221 7 = nI b ∧ I 221 8 = vl T e b ∧ w = wrF T e b
theorem At.ki {T : Nat → Int32} {w : Nat} (h : At T e b w I) : I 221 6 = nI (kd T e b) := h.2.1
theorem At.be {T : Nat → Int32} {w : Nat} (h : At T e b w I) : I 221 7 = nI b := h.2.2.1
theorem At.va {T : Nat → Int32} {w : Nat} (h : At T e b w I) : I 221 8 = vl T e b := h.2.2.2.1
theorem At.wo {T : Nat → Int32} {w : Nat} (h : At T e b w I) : w = wrF T e b := h.2.2.2.2
theorem At.le {T : Nat → Int32} {w : Nat} (h : At T e b w I) : b ≤ e := by
  obtain ⟨⟨n, j, -, -, -, rfl⟩, -⟩ := h
  exact bg_le j
theorem At.sk {T : Nat → Int32} {w : Nat} (h : At T e b w I) : rn T e 4 b = b := by
  obtain ⟨⟨n, j, -, -, -, rfl⟩, -⟩ := h
  exact bg_sk j
theorem At.eq {T : Nat → Int32} {w : Nat} {J : Nat → Nat → Int32} (h : At T e b w I) (f : ∀ q, 221 ≤ q → q ≤ 225 → J q = I q) : At T e b w J := by
  obtain ⟨⟨n, j, ⟨a1, a2, a3, a4⟩, h2, h3, h4⟩, h5, h6, h7, h8⟩ := h
  have e1 := f 221 (by decide) (by decide)
  refine ⟨⟨n, j, ⟨a1, a2, by rw [e1]; exact a3, fun i hi => ?_⟩, h2, by rw [e1]; exact h3, h4⟩, by rw [e1]; exact h5, by rw [e1]; exact h6, by rw [e1]; exact h7, h8⟩
  rw [f 222 (by decide) (by decide), f 223 (by decide) (by decide), f 225 (by decide) (by decide)]
  exact a4 i hi
theorem kd_4 {T : Nat → Int32} {k : Nat} (h : kd T e b = k) : k < 5 := by
  rw [← h]
  by_cases c : b < e
  · rw [kd_lt c]
    rcases kc_cases (T b) with z | z | z | z <;> omega
  · rw [kd_ge c]
    omega
theorem min_nI {a c : Nat} (ha : a < 2 ^ 31) (hc : c < 2 ^ 31) : (if nI c < nI a then nI c else nI a) = nI (if a ≤ c then a else c) := by
  by_cases h : a ≤ c
  · rw [if_pos h, if_neg (Int32.not_lt.mpr (nI_leu h hc))]
  · rw [if_neg h, if_pos (nI_ltu (by omega) ha)]
theorem vl_w {T : Nat → Int32} (h : kd T e b = 1) : (vl T e b < 0 ∧ ¬ wd T e b < 27) ∨ (¬ vl T e b < 0 ∧ wd T e b < 27 ∧ vl T e b = nI (wd T e b)) := by
  rw [vl_1 h]
  by_cases c : wd T e b < 27
  · rw [if_pos c]
    exact Or.inr ⟨nI_pos (by omega), c, rfl⟩
  · rw [if_neg c]
    exact Or.inl ⟨by decide, c⟩
/-- to the thing behind, or it stays at the end -/
theorem f_next {T : Nat → Int32} (hw : WdS S) {n i j : Nat} (hT : TkA T e n I) (h5 : I 221 5 + 1 = nI i) (hij : j = if i ≤ n then i else n) (hi : i ≤ 401) : Sp S m_X9_next 13 0 0 [.ref 221] (hp I L w1 w2 t) (fun v h' => v = none ∧ ∃ J w, h' = hp J L w1 w t ∧ At T e (bg T e j) w J ∧ ∀ q, q ≠ 221 → J q = I q) nX := by
  obtain ⟨a1, a2, a3, a4⟩ := id hT
  have hjn : j ≤ n := by
    rw [hij]
    by_cases c : i ≤ n
    · rw [if_pos c]
      exact c
    · rw [if_neg c]
      exact Nat.le_refl n
  obtain ⟨b1, b2, b3⟩ := a4 j hjn
  refine Sp_of ok_X9_next rfl rfl ?_
  show AW S m_X9_next 13 _ _ 0 0 0 [some (.ref 221)] [] (hp I L w1 w2 t)
  refine a_l0 rfl rfl rfl ?_
  refine a_l0 rfl rfl rfl ?_
  refine a_geti rfl gfX9_52_9 rfl ?_
  refine a_s rfl rfl ?_
  refine a_s rfl rfl ?_
  refine a_top (y := nI i) (h5) ?_
  refine a_l0 rfl rfl rfl ?_
  refine a_getiv (v := nI (n + 1)) rfl gfX9_24_9 rfl (a3) ?_
  refine a_s rfl rfl ?_
  refine a_s rfl rfl ?_
  refine a_top (y := nI n) (nI_dec n) ?_
  refine a_min rfl lX9_91 mj_min rfl rfl ?_
  refine a_top (y := nI j) ((min_nI (by omega) (by omega)).trans (congrArg nI hij.symm)) ?_
  refine a_puti rfl pfX9_52_9 rfl ?_
  refine a_l0 rfl rfl rfl ?_
  refine a_l0 rfl rfl rfl ?_
  refine a_getq rfl gfX9_9_9 rfl (rfl) ?_
  refine a_l0 rfl rfl rfl ?_
  refine a_getiv (v := nI j) rfl gfX9_52_9 rfl (up2_at) ?_
  refine a_eSN1 rfl lX9_58 mo_X11_at (sp_X11_at rfl) rfl rfl rfl rfl ?_
  refine a_top (y := nI (kd T e (bg T e j))) ((atF_nI (by omega) (by decide)).trans ((congrFun (up2_row (by decide)) j).trans b1)) ?_
  refine a_puti rfl pfX9_97_9 rfl ?_
  refine a_l0 rfl rfl rfl ?_
  refine a_l0 rfl rfl rfl ?_
  refine a_getq rfl gfX9_15_9 rfl (rfl) ?_
  refine a_l0 rfl rfl rfl ?_
  refine a_getiv (v := nI j) rfl gfX9_52_9 rfl ((up2_ne (Or.inr (by decide))).trans up2_at) ?_
  refine a_eSN1 rfl lX9_58 mo_X11_at (sp_X11_at rfl) rfl rfl rfl rfl ?_
  refine a_top (y := nI (bg T e j)) ((atF_nI (by omega) (by decide)).trans ((congrFun (up2_row (by decide)) j).trans ((congrFun (up2_row (by decide)) j).trans b2))) ?_
  refine a_puti rfl pfX9_100_9 rfl ?_
  refine a_l0 rfl rfl rfl ?_
  refine a_l0 rfl rfl rfl ?_
  refine a_getq rfl gfX9_21_9 rfl (rfl) ?_
  refine a_l0 rfl rfl rfl ?_
  refine a_getiv (v := nI j) rfl gfX9_52_9 rfl ((up2_ne (Or.inr (by decide))).trans ((up2_ne (Or.inr (by decide))).trans up2_at)) ?_
  refine a_eSN1 rfl lX9_58 mo_X11_at (sp_X11_at rfl) rfl rfl rfl rfl ?_
  refine a_top (y := vl T e (bg T e j)) ((atF_nI (by omega) (by decide)).trans ((congrFun (up2_row (by decide)) j).trans ((congrFun (up2_row (by decide)) j).trans ((congrFun (up2_row (by decide)) j).trans b3)))) ?_
  refine a_puti rfl pfX9_103_9 rfl ?_
  refine a_ren (P := fun J => (∀ q, q ≠ 221 → J q = I q) ∧ J 221 4 = nI (n + 1) ∧ J 221 5 = nI j ∧ J 221 6 = nI (kd T e (bg T e j)) ∧ J 221 7 = nI (bg T e j) ∧ J 221 8 = vl T e (bg T e j)) ⟨fun q hq => ?_, ?_, ?_, ?_, ?_, up2_at⟩ (fun J hJ => ?_)
  · rw [up2_row hq, up2_row hq, up2_row hq, up2_row hq]
  · exact (up2_ne (Or.inr (by decide))).trans ((up2_ne (Or.inr (by decide))).trans ((up2_ne (Or.inr (by decide))).trans ((up2_ne (Or.inr (by decide))).trans a3)))
  · exact (up2_ne (Or.inr (by decide))).trans ((up2_ne (Or.inr (by decide))).trans ((up2_ne (Or.inr (by decide))).trans up2_at))
  · exact (up2_ne (Or.inr (by decide))).trans ((up2_ne (Or.inr (by decide))).trans up2_at)
  · exact (up2_ne (Or.inr (by decide))).trans up2_at
  obtain ⟨f, g4, g5, g6, g7, g8⟩ := hJ
  have hTJ : TkA T e n J := ⟨a1, a2, g4, fun i hi => by
    rw [f 222 (by decide), f 223 (by decide), f 225 (by decide)]
    exact a4 i hi⟩
  have fin : ∀ q, q = wrF T e (bg T e j) → AW S m_X9_next 13 (fun v h' => v = none ∧ ∃ J w, h' = hp J L w1 w t ∧ At T e (bg T e j) w J ∧ ∀ q, q ≠ 221 → J q = I q) nX 0 0 103 [some (.ref 221)] [rv q, .ref 221] (hp J L w1 w2 t) := by
    intro q hq
    refine a_putw2 (q := q) rfl pfX9_106_9 ?_
    exact a_vret rfl rfl ⟨rfl, J, q, rfl, ⟨⟨n, j, hTJ, hjn, g5, rfl⟩, g6, g7, g8, hq⟩, f⟩
  refine a_l0 rfl rfl rfl ?_
  refine a_l0 rfl rfl rfl ?_
  refine a_getiv (v := nI (kd T e (bg T e j))) rfl gfX9_97_9 rfl (g6) ?_
  refine a_s rfl rfl ?_
  refine a_ic_ne rfl (fun c => ?_) (fun c => ?_)
  · refine a_s rfl rfl ?_
    exact fin 0 (if_neg (fun z => c (congrArg nI z.1))).symm
  have hk : kd T e (bg T e j) = 1 := nI_inj (a := kd T e (bg T e j)) (b := 1) (by have := kd_4 (T := T) (e := e) (b := bg T e j) rfl; omega) (by decide) c
  refine a_l0 rfl rfl rfl ?_
  refine a_getiv (v := vl T e (bg T e j)) rfl gfX9_103_9 rfl (g8) ?_
  rcases vl_w hk with ⟨v1, v2⟩ | ⟨v1, v2, v3⟩
  · refine a_if_lt rfl (fun _ => ?_) (fun c => absurd v1 c)
    refine a_s rfl rfl ?_
    exact fin 0 (if_neg (fun z => v2 z.2)).symm
  · refine a_if_lt rfl (fun c => absurd c v1) (fun _ => ?_)
    refine a_l0 rfl rfl rfl ?_
    refine a_getiv (v := nI (wd T e (bg T e j))) rfl gfX9_103_9 rfl (g8.trans v3) ?_
    refine a_gets rfl (inC4 (i := 0) rfl rfl) hw.al ?_
    refine a_lenc rfl hw.ar rfl ?_
    refine a_ic_ge rfl (fun c => absurd c (nI_ge (b := 27) v2 (by decide))) (fun _ => ?_)
    refine a_gets rfl (inC4 (i := 0) rfl rfl) hw.al ?_
    refine a_l0 rfl rfl rfl ?_
    refine a_getiv (v := nI (wd T e (bg T e j))) rfl gfX9_103_9 rfl (g8.trans v3) ?_
    refine a_aaldc rfl hw.ar rfl (inI_nI v2 (by decide)) ?_
    refine a_pop1 (st := [rv (100 + wd T e (bg T e j) + 1), .ref 221]) (by rw [nI_clamp (by omega)]; rfl) ?_
    refine a_goto rfl ?_
    exact fin _ (if_pos ⟨hk, v2⟩).symm
/-- so far: n things begun by i, the last of kind la (4, 3: none goes on) -/
def SI (T : Nat → Int32) (e n i la : Nat) (I : Nat → Nat → Int32) : Prop := n ≤ i ∧ i ≤ e ∧ I 221 4 = nI n ∧ (∀ j, j < n → bg T e j < e ∧ I 222 j = nI (kd T e (bg T e j)) ∧ I 223 j = nI (bg T e j)) ∧
  (((la = 4 ∨ la = 3) ∧ (∀ j, j < n → I 224 j = nI (en T e (bg T e j))) ∧ bg T e n = rn T e 4 i) ∨
   ∃ m, n = m + 1 ∧ (la = 1 ∨ la = 2) ∧ kd T e (bg T e m) = la ∧ (∀ j, j < m → I 224 j = nI (en T e (bg T e j))) ∧ I 224 m = nI i ∧ en T e (bg T e m) = rn T e la i)
/-- none goes on over a sign of another kind -/
theorem SI.cl {T : Nat → Int32} {i la : Nat} (h : SI T e n i la I) (hne : (la = 4 ∨ la = 3) ∨ ¬ isK T e la i = true) : (∀ j, j < n → I 224 j = nI (en T e (bg T e j))) ∧ bg T e n = rn T e 4 i := by
  obtain ⟨-, -, -, -, ⟨-, h2, h3⟩ | ⟨m, rfl, h2, h3, h4, h5, h6⟩⟩ := h
  · exact ⟨h2, h3⟩
  · have hne : ¬ isK T e la i = true := hne.resolve_left (by omega)
    have e1 : en T e (bg T e m) = i := h6.trans (rn_f (Bool.eq_false_iff.mpr hne))
    refine ⟨fun j hj => ?_, ?_⟩
    · by_cases c : j = m
      · rw [c, e1]
        exact h5
      · exact h4 j (by omega)
    · show rn T e 4 (en T e (bg T e m)) = _
      rw [e1]
theorem f_scan (hw : WdS S) (he : I 201 1 = nI e) (h4 : e ≤ 400) (hbt : BtT (I 202)) : Sp S m_X9_scan 19 0 0 [.ref 221, .ref 201] (hp I L w1 w2 t) (fun v h' => v = none ∧ ∃ J w, h' = hp J L w1 w t ∧ At (I 202) e (bg (I 202) e 0) w J ∧ Ft I J) nX := by
  refine Sp_of ok_X9_scan rfl rfl ?_
  show AW S m_X9_scan 19 _ _ 0 0 0 [some (.ref 221), some (.ref 201), none, none, none] [] (hp I L w1 w2 t)
  -- behind both loops
  have part2 : ∀ (n : Nat) (J : Nat → Nat → Int32), Ft I J → n ≤ e → J 221 4 = nI (n + 1) → ¬ bg (I 202) e n < e → (∀ j, j ≤ n → TkJ J e j (bg (I 202) e j)) → AW S m_X9_scan 19 (fun v h' => v = none ∧ ∃ J w, h' = hp J L w1 w t ∧ At (I 202) e (bg (I 202) e 0) w J ∧ Ft I J) nX 0 0 92 [some (.ref 221), some (.ref 201), none, none, none] [] (hp J L w1 w2 t) := by
    intro n J hF hne hs hend hall
    have hT2 : J 202 = I 202 := hF 202 (by omega)
    have he2 : J 201 1 = nI e := (congrFun (hF 201 (by omega)) 1).trans he
    refine a_s rfl rfl ?_
    refine a_s3 rfl rfl rfl rfl rfl rfl ?_
    refine a_inv (n := n + 1) (fun m ls h => ∃ q K, ls = [some (.ref 221), some (.ref 201), none, some (.int (nI q)), none] ∧ h = hp K L w1 w2 t ∧ q ≤ n + 1 ∧ m = n + 1 - q ∧ (∀ p, p ≠ 225 → K p = J p) ∧ ∀ j, j < q → K 225 j = vl (I 202) e (bg (I 202) e j)) ⟨0, J, rfl, rfl, Nat.zero_le _, rfl, fun _ _ => rfl, fun j hj => absurd hj (Nat.not_lt_zero _)⟩ ?_
    rintro m _ _ ⟨q, K, rfl, rfl, hq, hm, hK, hv5⟩ ih
    refine a_l3 rfl rfl rfl ?_
    refine a_l0 rfl rfl rfl ?_
    refine a_getiv (v := nI (n + 1)) rfl gfX9_24_9 rfl ((congrFun (hK 221 (by decide)) 4).trans hs) ?_
    refine a_ic_ge rfl (fun c => ?_) (fun c => ?_)
    · have hge := nI_ge_of c (by omega) (by omega)
      obtain rfl : q = n + 1 := by omega
      refine a_l0 rfl rfl rfl ?_
      refine a_s rfl rfl ?_
      refine a_puti rfl pfX9_52_9 rfl ?_
      refine a_l0 rfl rfl rfl ?_
      have hTA : TkA (I 202) e n (up2 K 221 5 (-1)) := by
        refine ⟨by omega, hend, (up2_ne (Or.inr (by decide))).trans ((congrFun (hK 221 (by decide)) 4).trans hs), fun j hj => ?_⟩
        obtain ⟨z1, z2, z3⟩ := hall j hj
        rw [hT2] at z1
        rw [up2_row (by decide), up2_row (by decide), up2_row (by decide), hK 222 (by decide), hK 223 (by decide)]
        exact ⟨z1, z2, hv5 j (by omega)⟩
      refine a_gV rfl lX9_55 mo_X9_next (f_next (i := 0) (j := 0) hw hTA (by rw [up2_at]; rfl) rfl (by omega)) rfl rfl rfl ⟨9, _, rfl, rfl, rfl⟩ rfl (fun v' h' hv => ?_)
      obtain ⟨rfl, J2, w, rfl, hA, hf⟩ := hv
      refine a_vret rfl rfl ⟨rfl, J2, w, rfl, hA, fun p hp => ?_⟩
      have p1 : p ≠ 221 := by omega
      have p2 : p ≠ 225 := by omega
      rw [hf p p1, up2_row p1, hK p p2]
      exact hF p hp
    · have hqn : q < n + 1 := nI_lt_of c (by omega) (by omega)
      refine a_l0 rfl rfl rfl ?_
      refine a_getq rfl gfX9_21_9 rfl (rfl) ?_
      refine a_l3 rfl rfl rfl ?_
      refine a_l0 rfl rfl rfl ?_
      refine a_l1 rfl rfl rfl ?_
      refine a_l3 rfl rfl rfl ?_
      have hKT : K 202 = I 202 := (hK 202 (by decide)).trans hT2
      have hTq : TkJ K e q (bg (I 202) e q) := by
        have := hall q (by omega)
        unfold TkJ at this ⊢
        rw [hK 222 (by decide), hK 223 (by decide), hK 224 (by decide), hK 202 (by decide)]
        exact this
      refine a_eV1 rfl lX9_48 mo_X9_valueOf (f_valueOf (b := bg (I 202) e q) hw ((congrFun (hK 201 (by decide)) 1).trans he2) h4 (by rw [hKT]; exact hbt) (by omega) (bg_le q) (by rw [hKT]; exact sk_kd (bg_sk q)) hTq) rfl rfl rfl ⟨9, _, rfl, rfl, rfl⟩ rfl ?_
      refine a_top (y := vl (I 202) e (bg (I 202) e q)) (by rw [hKT]) ?_
      refine a_eSN0 rfl lX9_44 mo_X11_setAt (sp_X11_setAt rfl) rfl rfl rfl rfl ?_
      rw [setF_nI (by omega) (by decide)]
      refine a_iv3 (y := nI (q + 1)) rfl rfl rfl ((nI_succ q).symm) ?_
      refine a_goto rfl ?_
      refine ih (n + 1 - (q + 1)) _ _ (by omega) ⟨q + 1, up2 K 225 q (vl (I 202) e (bg (I 202) e q)), rfl, rfl, by omega, rfl, fun p hp => (up2_row hp).trans (hK p hp), fun j hj => ?_⟩
      by_cases cj : j = q
      · rw [cj]
        exact up2_at
      · exact (up2_ne (Or.inr cj)).trans (hv5 j (by omega))
  refine a_l0 rfl rfl rfl ?_
  refine a_s rfl rfl ?_
  refine a_puti rfl pfX9_24_9 rfl ?_
  refine a_s rfl rfl ?_
  refine a_s2 rfl rfl rfl rfl rfl rfl ?_
  refine a_s rfl rfl ?_
  refine a_s3 rfl rfl rfl rfl rfl rfl ?_
  refine a_inv (n := e) (fun m ls h => ∃ n i la J, ls = [some (.ref 221), some (.ref 201), some (.int (nI la)), some (.int (nI i)), none] ∧ h = hp J L w1 w2 t ∧ m = e - i ∧ Ft I J ∧ SI (I 202) e n i la J) ⟨0, 0, 4, _, rfl, rfl, rfl, Ft.up Ft.rf (by omega), Nat.le_refl _, Nat.zero_le _, up2_at, fun j hj => absurd hj (Nat.not_lt_zero _), Or.inl ⟨Or.inl rfl, fun j hj => absurd hj (Nat.not_lt_zero _), rfl⟩⟩ ?_
  rintro m _ _ ⟨n, i, la, J, rfl, rfl, hm, hF, hSI⟩ ih
  have hT2 : J 202 = I 202 := hF 202 (by omega)
  have he2 : J 201 1 = nI e := (congrFun (hF 201 (by omega)) 1).trans he
  obtain ⟨s1, s2, s3, s4, s5⟩ := id hSI
  have hla : la < 5 := by
    rcases s5 with ⟨z | z, -⟩ | ⟨_, -, z | z, -⟩ <;> omega
  refine a_l3 rfl rfl rfl ?_
  refine a_l1 rfl rfl rfl ?_
  refine a_getiv (v := nI e) rfl gfX9_28_7 rfl (he2) ?_
  refine a_ic_ge rfl (fun c => ?_) (fun c => ?_)
  · have hge := nI_ge_of c (by omega) (by omega)
    obtain rfl : i = e := by omega
    obtain ⟨k1, k2⟩ := SI.cl hSI (Or.inr fun z => absurd (isK_lt z) (Nat.lt_irrefl _))
    rw [rn_e (Nat.lt_irrefl _)] at k2
    refine a_l0 rfl rfl rfl ?_
    refine a_s rfl rfl ?_
    refine a_l1 rfl rfl rfl ?_
    refine a_getiv (v := nI i) rfl gfX9_28_7 rfl (he2) ?_
    refine a_eV0 rfl lX9_40 mo_X9_open (f_open s3 (by omega)) rfl rfl rfl ⟨9, _, rfl, rfl, rfl⟩ rfl ?_
    refine a_less (part2 n (opH J n 0 (nI i)) (Ft.up (Ft.up (Ft.up (Ft.up hF (by omega)) (by omega)) (by omega)) (by omega)) (by omega) up2_at (by rw [k2]; exact Nat.lt_irrefl _) (fun j hj => ?_)) ⟨rfl, rfl, trivial⟩
    have r2 : ∀ q, opH J n 0 (nI i) 222 q = up2 J 222 n 0 222 q := fun q => by
      unfold opH
      rw [up2_row (by decide), up2_row (by decide), up2_row (by decide)]
    have r3 : ∀ q, opH J n 0 (nI i) 223 q = up2 J 223 n (nI i) 223 q := fun q => by
      unfold opH
      rw [up2_row (by decide), up2_row (by decide)]
      by_cases cq : q = n
      · rw [cq, up2_at, up2_at]
      · rw [up2_ne (Or.inr cq), up2_ne (Or.inr cq), up2_ne (Or.inr cq)]
    have r4 : ∀ q, opH J n 0 (nI i) 224 q = up2 J 224 n (nI i) 224 q := fun q => by
      unfold opH
      rw [up2_row (by decide)]
      by_cases cq : q = n
      · rw [cq, up2_at, up2_at]
      · rw [up2_ne (Or.inr cq), up2_ne (Or.inr cq), up2_ne (Or.inr cq), up2_ne (Or.inr cq)]
    have r0 : opH J n 0 (nI i) 202 = I 202 := by
      unfold opH
      rw [up2_row (by decide), up2_row (by decide), up2_row (by decide), up2_row (by decide)]
      exact hT2
    unfold TkJ
    rw [r0, r2, r3, r4]
    by_cases cj : j = n
    · rw [cj, up2_at, up2_at, up2_at, k2, kd_ge (Nat.lt_irrefl _), en_0 (Nat.lt_irrefl _)]
      exact ⟨nI_0.symm, rfl, rfl⟩
    · obtain ⟨z1, z2, z3⟩ := s4 j (by omega)
      rw [up2_ne (Or.inr cj), up2_ne (Or.inr cj), up2_ne (Or.inr cj)]
      exact ⟨z2, z3, k1 j (by omega)⟩
  have hie : i < e := nI_lt_of c (by omega) (by omega)
  refine a_l1 rfl rfl rfl ?_
  refine a_l3 rfl rfl rfl ?_
  refine a_eV1 rfl lX9_33 mo_X7_byteAt (f_byteAt he2 h4 (by omega)) rfl rfl rfl ⟨7, _, rfl, rfl, rfl⟩ rfl ?_
  refine a_top (y := I 202 i &&& 255) ((if_pos hie).trans (by rw [hT2])) ?_
  refine a_eS1 rfl lX9_37 mo_X9_kindOf f_kindOf rfl rfl rfl rfl ?_
  obtain ⟨x, hx, ex⟩ := hbt i (by omega)
  refine a_top (y := nI (kcF (I 202 i))) (by rw [ex, bt_kc x hx]) ?_
  refine a_s4 rfl rfl rfl rfl rfl rfl ?_
  have hkc := kc_cases (I 202 i)
  generalize hk0 : kcF (I 202 i) = kc at hkc
  have isK_of : ∀ k, isK (I 202) e k i = true ↔ kc = k := fun k => ⟨fun z => hk0.symm.trans (isK_kc z), fun z => isK_t hie (hk0.trans z)⟩
  -- the loop goes on
  have on : ∀ (n' : Nat) (K : Nat → Nat → Int32), Ft I K → SI (I 202) e n' (i + 1) kc K → AW S m_X9_scan 19 (fun v h' => v = none ∧ ∃ J w, h' = hp J L w1 w t ∧ At (I 202) e (bg (I 202) e 0) w J ∧ Ft I J) nX 0 0 74 [some (.ref 221), some (.ref 201), some (.int (nI la)), some (.int (nI i)), some (.int (nI kc))] [] (hp K L w1 w2 t) := by
    intro n' K hFK hSK
    refine a_l4 rfl rfl rfl ?_
    refine a_s2 rfl rfl rfl rfl rfl rfl ?_
    refine a_iv3 (y := nI (i + 1)) rfl rfl rfl ((nI_succ i).symm) ?_
    refine a_goto rfl ?_
    have lt : e - (i + 1) < m := by rw [hm]; exact Nat.sub_lt_sub_left hie (Nat.lt_succ_self i)
    exact a_less (ih (e - (i + 1)) [some (.ref 221), some (.ref 201), some (.int (nI kc)), some (.int (nI (i + 1))), none] (hp K L w1 w2 t) lt ⟨n', i + 1, kc, K, rfl, rfl, rfl, hFK, hSK⟩) ⟨rfl, rfl, rfl, rfl, trivial⟩
  -- where the latest ends
  have k52 : ∀ (m : Nat) (K : Nat → Nat → Int32), kc ≠ 4 → m < 401 → K 221 4 = nI (m + 1) → Ft I K → SI (I 202) e (m + 1) (i + 1) kc (up2 K 224 m (nI (i + 1))) → AW S m_X9_scan 19 (fun v h' => v = none ∧ ∃ J w, h' = hp J L w1 w t ∧ At (I 202) e (bg (I 202) e 0) w J ∧ Ft I J) nX 0 0 52 [some (.ref 221), some (.ref 201), some (.int (nI la)), some (.int (nI i)), some (.int (nI kc))] [] (hp K L w1 w2 t) := by
    intro m K h4 hm4 hK4 hFK hSK
    refine a_l4 rfl rfl rfl ?_
    refine a_s rfl rfl ?_
    refine a_ic_eq rfl (fun c => absurd (nI_inj (b := 4) (by omega) (by decide) c) h4) (fun _ => ?_)
    refine a_l0 rfl rfl rfl ?_
    refine a_getq rfl gfX9_18_9 rfl (rfl) ?_
    refine a_l0 rfl rfl rfl ?_
    refine a_getiv (v := nI (m + 1)) rfl gfX9_24_9 rfl (hK4) ?_
    refine a_s rfl rfl ?_
    refine a_s rfl rfl ?_
    refine a_top (y := nI m) (nI_dec m) ?_
    refine a_l3 rfl rfl rfl ?_
    refine a_s rfl rfl ?_
    refine a_s rfl rfl ?_
    refine a_top (y := nI (i + 1)) ((nI_succ i).symm) ?_
    refine a_eSN0 rfl lX9_44 mo_X11_setAt (sp_X11_setAt rfl) rfl rfl rfl rfl ?_
    rw [setF_nI hm4 (by decide)]
    exact on _ _ (Ft.up hFK (by omega)) hSK
  -- a new one begins here
  have k45 : kc ≠ 4 → ((la = 4 ∨ la = 3) ∨ kc ≠ la) → AW S m_X9_scan 19 (fun v h' => v = none ∧ ∃ J w, h' = hp J L w1 w t ∧ At (I 202) e (bg (I 202) e 0) w J ∧ Ft I J) nX 0 0 45 [some (.ref 221), some (.ref 201), some (.int (nI la)), some (.int (nI i)), some (.int (nI kc))] [] (hp J L w1 w2 t) := by
    intro n4 hne
    obtain ⟨k1, k2⟩ := SI.cl hSI (hne.imp id fun z y => z ((isK_of la).mp y))
    have kb : bg (I 202) e n = i := k2.trans (rn_f (Bool.eq_false_iff.mpr fun z => n4 ((isK_of 4).mp z)))
    have kk : kd (I 202) e i = kc := (kd_lt hie).trans hk0
    refine a_l0 rfl rfl rfl ?_
    refine a_l4 rfl rfl rfl ?_
    refine a_l3 rfl rfl rfl ?_
    refine a_eV0 rfl lX9_40 mo_X9_open (f_open s3 (by omega)) rfl rfl rfl ⟨9, _, rfl, rfl, rfl⟩ rfl ?_
    refine k52 n _ n4 (by omega) up2_at (Ft.up (Ft.up (Ft.up (Ft.up hF (by omega)) (by omega)) (by omega)) (by omega)) ?_
    have r2 : ∀ q, up2 (opH J n (nI kc) (nI i)) 224 n (nI (i + 1)) 222 q = up2 J 222 n (nI kc) 222 q := fun q => by
      unfold opH
      rw [up2_row (by decide), up2_row (by decide), up2_row (by decide), up2_row (by decide)]
    have r3 : ∀ q, up2 (opH J n (nI kc) (nI i)) 224 n (nI (i + 1)) 223 q = up2 J 223 n (nI i) 223 q := fun q => by
      unfold opH
      rw [up2_row (by decide), up2_row (by decide), up2_row (by decide)]
      by_cases cq : q = n
      · rw [cq, up2_at, up2_at]
      · rw [up2_ne (Or.inr cq), up2_ne (Or.inr cq), up2_ne (Or.inr cq)]
    have r4 : ∀ q, q ≠ n → up2 (opH J n (nI kc) (nI i)) 224 n (nI (i + 1)) 224 q = J 224 q := fun q hq => by
      rw [up2_ne (Or.inr hq)]
      unfold opH
      rw [up2_row (by decide), up2_ne (Or.inr hq), up2_row (by decide), up2_row (by decide)]
    have s4' : ∀ j, j < n + 1 → bg (I 202) e j < e ∧ up2 (opH J n (nI kc) (nI i)) 224 n (nI (i + 1)) 222 j = nI (kd (I 202) e (bg (I 202) e j)) ∧ up2 (opH J n (nI kc) (nI i)) 224 n (nI (i + 1)) 223 j = nI (bg (I 202) e j) := fun j hj => by
      rw [r2, r3]
      by_cases cj : j = n
      · rw [cj, kb, kk, up2_at, up2_at]
        exact ⟨hie, rfl, rfl⟩
      · rw [up2_ne (Or.inr cj), up2_ne (Or.inr cj)]
        exact s4 j (by omega)
    refine ⟨by omega, hie, (congrFun (up2_row (by decide)) 4).trans up2_at, s4', ?_⟩
    by_cases c3 : kc = 3
    · refine Or.inl ⟨Or.inr c3, fun j hj => ?_, ?_⟩
      · by_cases cj : j = n
        · rw [cj, up2_at, kb, en_3 (kk.trans c3)]
        · rw [r4 j cj]
          exact k1 j (by omega)
      · show rn (I 202) e 4 (en (I 202) e (bg (I 202) e n)) = _
        rw [kb, en_3 (kk.trans c3)]
    · refine Or.inr ⟨n, rfl, by omega, by rw [kb, kk], fun j hj => ?_, up2_at, ?_⟩
      · rw [r4 j (by omega)]
        exact k1 j hj
      · rw [kb]
        rcases hkc with z | z | z | z
        · rw [en_1 (kk.trans z), z, rn_t ((isK_of 1).mpr z)]
        · rw [en_2 (kk.trans z), z, rn_t ((isK_of 2).mpr z)]
        · exact absurd z c3
        · exact absurd z n4
  refine a_l4 rfl rfl rfl ?_
  refine a_s rfl rfl ?_
  refine a_ic_eq rfl (fun c => ?_) (fun c3 => ?_)
  · have c := nI_inj (b := 3) (by omega) (by decide) c
    exact k45 (by omega) (by omega)
  have c3 : kc ≠ 3 := fun z => c3 (congrArg nI z)
  refine a_l4 rfl rfl rfl ?_
  refine a_s rfl rfl ?_
  refine a_ic_eq rfl (fun c => ?_) (fun c4 => ?_)
  · have c := nI_inj (b := 4) (by omega) (by decide) c
    obtain ⟨k1, k2⟩ := SI.cl hSI (by
      rcases s5 with ⟨z, -⟩ | ⟨_, -, z, -⟩
      · exact Or.inl z
      · exact Or.inr fun y => by have := (isK_of la).mp y; omega)
    refine a_l4 rfl rfl rfl ?_
    refine a_s rfl rfl ?_
    refine a_ic_eq rfl (fun _ => ?_) (fun z => absurd (congrArg nI c) z)
    exact on n J hF ⟨by omega, hie, s3, s4, Or.inl ⟨Or.inl c, k1, k2.trans (rn_t ((isK_of 4).mpr c))⟩⟩
  have c4 : kc ≠ 4 := fun z => c4 (congrArg nI z)
  refine a_l4 rfl rfl rfl ?_
  refine a_l2 rfl rfl rfl ?_
  refine a_ic_eq rfl (fun c => ?_) (fun cl => ?_)
  · have c := nI_inj (by omega) (by omega) c
    rcases s5 with ⟨z, -⟩ | ⟨m, rfl, h2, h3, h4', h5, h6⟩
    · exfalso
      omega
    · refine k52 m J c4 (by omega) s3 hF ⟨by omega, hie, (congrFun (up2_row (by decide)) 4).trans s3, fun j hj => ?_, Or.inr ⟨m, rfl, by omega, h3.trans c.symm, fun j hj => ?_, up2_at, ?_⟩⟩
      · rw [up2_row (by decide), up2_row (by decide)]
        exact s4 j hj
      · rw [up2_ne (Or.inr (by omega))]
        exact h4' j hj
      · rw [h6, c, rn_t ((isK_of la).mpr c)]
  · exact k45 c4 (Or.inr fun z => cl (congrArg nI z))
end T79b
end
section
/-! ===== the class's tokens: what is at hand, and taking it ===== -/
section T79c
variable {S : aS} {I : Nat → Nat → Int32} {L : Nat → Nat → Int64} {w1 w2 t : Nat} {e b : Nat} {T : Nat → Int32}
set_option maxRecDepth 100000
theorem wr_of (h1 : kd T e b = 1) (h2 : wd T e b < 27) : wrF T e b = 100 + wd T e b + 1 := if_pos ⟨h1, h2⟩
theorem wr_no (h : ¬ (kd T e b = 1 ∧ wd T e b < 27)) : wrF T e b = 0 := if_neg h
theorem wr_wk : WK (wrF T e b) := by
  by_cases c : kd T e b = 1 ∧ wd T e b < 27
  · rw [wr_of c.1 c.2]
    exact WK.con c.2
  · rw [wr_no c]
    exact WK.nul
theorem wr_is {k : Nat} (hk : k < 27) : wrF T e b = 100 + k + 1 ↔ isWd T e b k = true := by
  unfold isWd
  by_cases c : kd T e b = 1 ∧ wd T e b < 27
  · rw [wr_of c.1 c.2]
    exact ⟨fun z => decide_eq_true ⟨c.1, by omega⟩, fun z => by have := (of_decide_eq_true z).2; omega⟩
  · rw [wr_no c]
    exact ⟨fun z => by omega, fun z => absurd ⟨(of_decide_eq_true z).1, by have := (of_decide_eq_true z).2; omega⟩ c⟩
theorem At.wk {w : Nat} (h : At T e b w I) : WK w := by
  rw [At.wo h]
  exact wr_wk
theorem g_next (hw : WdS S) (h : At T e b w2 I) : Sp S m_X9_next 13 0 0 [.ref 221] (hp I L w1 w2 t) (fun v h' => v = none ∧ ∃ J w, h' = hp J L w1 w t ∧ At T e (nx T e b) w J ∧ ∀ q, q ≠ 221 → J q = I q) nX := by
  obtain ⟨⟨n, j, hT, hj, h5, rfl⟩, -⟩ := h
  have hn := hT.1
  by_cases c : j + 1 ≤ n
  · exact f_next (i := j + 1) (j := j + 1) hw hT (by rw [h5, ← nI_succ]) (if_pos c).symm (by omega)
  · obtain rfl : j = n := by omega
    have e1 : nx T e (bg T e j) = bg T e j := nx_e hT.2.1
    rw [e1]
    exact f_next (i := j + 1) (j := j) hw hT (by rw [h5, ← nI_succ]) (if_neg c).symm (by omega)
theorem f_isEnd (h : At T e b w2 I) : SpE S m_X9_isEnd 12 [.ref 221] (hp I L w1 w2 t) (some (.int (bI (decide (¬ b < e))))) (hp I L w1 w2 t) := by
  refine SpE_of ok_X9_isEnd rfl rfl ?_
  show AW S m_X9_isEnd 12 _ _ 0 0 0 [some (.ref 221)] [] (hp I L w1 w2 t)
  refine a_l0 rfl rfl rfl ?_
  refine a_getiv (v := nI (kd T e b)) rfl gfX9_97_9 rfl (At.ki h) ?_
  have k4 := kd_4 (T := T) (e := e) (b := b) rfl
  refine a_if_ne rfl (fun c => ?_) (fun c => ?_)
  · refine a_s rfl rfl ?_
    refine a_zret rfl rfl rfl ⟨?_, rfl⟩
    rw [show decide (¬ b < e) = false from decide_eq_false fun z => c (by rw [kd_ge z]; rfl)]
    rfl
  · refine a_s rfl rfl ?_
    refine a_goto rfl ?_
    refine a_zret rfl rfl rfl ⟨?_, rfl⟩
    rw [show decide (¬ b < e) = true from decide_eq_true (kd_0 ((nI_eq0 (by omega)).mp c))]
    rfl
theorem f_isSign (h : At T e b w2 I) {x : Int32} : SpE S m_X9_isSign 12 [.ref 221, .int x] (hp I L w1 w2 t) (some (.int (bI (sg T e b x)))) (hp I L w1 w2 t) := by
  refine SpE_of ok_X9_isSign rfl rfl ?_
  show AW S m_X9_isSign 12 _ _ 0 0 0 [some (.ref 221), some (.int x)] [] (hp I L w1 w2 t)
  have k4 := kd_4 (T := T) (e := e) (b := b) rfl
  refine a_l0 rfl rfl rfl ?_
  refine a_getiv (v := nI (kd T e b)) rfl gfX9_97_9 rfl (At.ki h) ?_
  refine a_s rfl rfl ?_
  refine a_ic_ne rfl (fun c => ?_) (fun c => ?_)
  · refine a_s rfl rfl ?_
    refine a_zret rfl rfl rfl ⟨?_, rfl⟩
    rw [show sg T e b x = false from decide_eq_false fun z => c (congrArg nI z.1)]
    rfl
  have c := nI_inj (b := 3) (by omega) (by decide) c
  refine a_l0 rfl rfl rfl ?_
  refine a_getiv (v := vl T e b) rfl gfX9_103_9 rfl (At.va h) ?_
  refine a_l1 rfl rfl rfl ?_
  refine a_ic_ne rfl (fun c2 => ?_) (fun c2 => ?_)
  · refine a_s rfl rfl ?_
    refine a_zret rfl rfl rfl ⟨?_, rfl⟩
    rw [show sg T e b x = false from decide_eq_false fun z => c2 z.2]
    rfl
  · refine a_s rfl rfl ?_
    refine a_goto rfl ?_
    refine a_zret rfl rfl rfl ⟨?_, rfl⟩
    rw [show sg T e b x = true from decide_eq_true ⟨c, c2⟩]
    rfl
/-- taken, if it is that: what is at hand then -/
def Tk (T : Nat → Int32) (e b : Nat) (z : Bool) (I : Nat → Nat → Int32) (L : Nat → Nat → Int64) (w1 t : Nat) : Option Value → aH → Prop := fun v h' => v = some (.int (bI z)) ∧ ∃ J w, h' = hp J L w1 w t ∧ At T e (if z = true then nx T e b else b) w J ∧ ∀ q, q ≠ 221 → J q = I q
theorem f_takeSign (hw : WdS S) (h : At T e b w2 I) {x : Int32} : Sp S m_X9_takeSign 14 0 0 [.ref 221, .int x] (hp I L w1 w2 t) (Tk T e b (sg T e b x) I L w1 t) nX := by
  refine Sp_of ok_X9_takeSign rfl rfl ?_
  show AW S m_X9_takeSign 14 _ _ 0 0 0 [some (.ref 221), some (.int x), none] [] (hp I L w1 w2 t)
  refine a_l0 rfl rfl rfl ?_
  refine a_l1 rfl rfl rfl ?_
  refine a_eV1 rfl lX9_110 mo_X9_isSign (f_isSign h) rfl rfl rfl ⟨9, _, rfl, rfl, rfl⟩ rfl ?_
  refine a_s2 rfl rfl rfl rfl rfl rfl ?_
  refine a_l2 rfl rfl rfl ?_
  cases c : sg T e b x with
  | false =>
    refine a_if_eq rfl (fun _ => ?_) (fun z => absurd rfl z)
    refine a_l2 rfl rfl rfl ?_
    exact a_zret rfl rfl rfl ⟨rfl, I, w2, rfl, h, fun _ _ => rfl⟩
  | true =>
    refine a_if_eq rfl (fun z => absurd z (by decide)) (fun _ => ?_)
    refine a_l0 rfl rfl rfl ?_
    refine a_gV rfl lX9_55 mo_X9_next (g_next hw h) rfl rfl rfl ⟨9, _, rfl, rfl, rfl⟩ rfl (fun v' h' hv => ?_)
    obtain ⟨rfl, J, w, rfl, hA, hf⟩ := hv
    refine a_l2 rfl rfl rfl ?_
    exact a_zret rfl rfl rfl ⟨rfl, J, w, rfl, hA, hf⟩
theorem f_takeWord (hw : WdS S) (h : At T e b w2 I) {k : Nat} (hk : k < 27) : Sp S m_X9_takeWord 14 0 0 [.ref 221, .ref (100 + k)] (hp I L w1 w2 t) (Tk T e b (isWd T e b k) I L w1 t) nX := by
  refine Sp_of ok_X9_takeWord rfl rfl ?_
  show AW S m_X9_takeWord 14 _ _ 0 0 0 [some (.ref 221), some (.ref (100 + k)), none] [] (hp I L w1 w2 t)
  refine a_l0 rfl rfl rfl ?_
  refine a_getr rfl gfX9_106_9 rfl ?_
  refine a_pop1 (show _ = rv w2 :: _ from rfl) ?_
  refine a_l1 rfl rfl rfl ?_
  refine a_acmp_ne (rx := w2) (ry := 100 + k + 1) rfl ((At.wk h).ac hw) (WK.ck hw hk) (fun c => ?_) (fun c => ?_)
  · have c3 : isWd T e b k = false := Bool.eq_false_iff.mpr fun z => c ((At.wo h).trans ((wr_is hk).mpr z))
    refine a_s rfl rfl ?_
    refine a_s2 rfl rfl rfl rfl rfl rfl ?_
    refine a_l2 rfl rfl rfl ?_
    refine a_if_eq rfl (fun _ => ?_) (fun z => absurd rfl z)
    refine a_l2 rfl rfl rfl ?_
    exact a_zret rfl rfl rfl ⟨by rw [c3]; rfl, I, w2, rfl, by rw [c3]; exact h, fun _ _ => rfl⟩
  · have c3 : isWd T e b k = true := (wr_is hk).mp ((At.wo h).symm.trans c)
    refine a_s rfl rfl ?_
    refine a_goto rfl ?_
    refine a_s2 rfl rfl rfl rfl rfl rfl ?_
    refine a_l2 rfl rfl rfl ?_
    refine a_if_eq rfl (fun z => absurd z (by decide)) (fun _ => ?_)
    refine a_l0 rfl rfl rfl ?_
    refine a_gV rfl lX9_55 mo_X9_next (g_next hw h) rfl rfl rfl ⟨9, _, rfl, rfl, rfl⟩ rfl (fun v' h' hv => ?_)
    obtain ⟨rfl, J, w, rfl, hA, hf⟩ := hv
    refine a_l2 rfl rfl rfl ?_
    exact a_zret rfl rfl rfl ⟨by rw [c3]; rfl, J, w, rfl, by rw [c3]; exact hA, hf⟩
theorem f_takeNumber (hw : WdS S) (h : At T e b w2 I) {lo hi : Int32} (h0 : 0 ≤ lo) : Sp S m_X9_takeNumber 14 0 0 [.ref 221, .int lo, .int hi] (hp I L w1 w2 t) (fun v h' => v = some (.int (nm T e b lo hi)) ∧ ∃ J w, h' = hp J L w1 w t ∧ At T e (if nm T e b lo hi = -1 then b else nx T e b) w J ∧ ∀ q, q ≠ 221 → J q = I q) nX := by
  refine Sp_of ok_X9_takeNumber rfl rfl ?_
  show AW S m_X9_takeNumber 14 _ _ 0 0 0 [some (.ref 221), some (.int lo), some (.int hi), none] [] (hp I L w1 w2 t)
  have k4 := kd_4 (T := T) (e := e) (b := b) rfl
  have no : nm T e b lo hi = -1 → AW S m_X9_takeNumber 14 (fun v h' => v = some (.int (nm T e b lo hi)) ∧ ∃ J w, h' = hp J L w1 w t ∧ At T e (if nm T e b lo hi = -1 then b else nx T e b) w J ∧ ∀ q, q ≠ 221 → J q = I q) nX 0 0 23 [some (.ref 221), some (.int lo), some (.int hi), some (.int (vl T e b))] [] (hp I L w1 w2 t) := by
    intro hn
    refine a_s rfl rfl ?_
    exact a_iret rfl rfl ⟨by rw [hn], I, w2, rfl, by rw [if_pos hn]; exact h, fun _ _ => rfl⟩
  refine a_l0 rfl rfl rfl ?_
  refine a_getiv (v := vl T e b) rfl gfX9_103_9 rfl (At.va h) ?_
  refine a_s3 rfl rfl rfl rfl rfl rfl ?_
  refine a_l0 rfl rfl rfl ?_
  refine a_getiv (v := nI (kd T e b)) rfl gfX9_97_9 rfl (At.ki h) ?_
  refine a_s rfl rfl ?_
  refine a_ic_ne rfl (fun c => no (if_neg fun z => c (congrArg nI z.1))) (fun c => ?_)
  have c := nI_inj (b := 2) (by omega) (by decide) c
  refine a_l3 rfl rfl rfl ?_
  refine a_l1 rfl rfl rfl ?_
  refine a_ic_lt rfl (fun c2 => no (if_neg fun z => absurd c2 (Int32.not_lt.mpr z.2.1))) (fun c2 => ?_)
  refine a_l3 rfl rfl rfl ?_
  refine a_l2 rfl rfl rfl ?_
  refine a_ic_le rfl (fun c3 => ?_) (fun c3 => no (if_neg fun z => c3 z.2.2))
  have c2 := Int32.not_lt.mp c2
  have hn : nm T e b lo hi = vl T e b := if_pos ⟨c, c2, c3⟩
  have hne : ¬ nm T e b lo hi = -1 := fun z => by
    rw [hn] at z
    rw [z] at c2
    exact absurd (Int32.le_trans h0 c2) (by decide)
  refine a_l0 rfl rfl rfl ?_
  refine a_gV rfl lX9_55 mo_X9_next (g_next hw h) rfl rfl rfl ⟨9, _, rfl, rfl, rfl⟩ rfl (fun v' h' hv => ?_)
  obtain ⟨rfl, J, w, rfl, hA, hf⟩ := hv
  refine a_l3 rfl rfl rfl ?_
  exact a_iret rfl rfl ⟨by rw [hn], J, w, rfl, by rw [if_neg hne]; exact hA, hf⟩
end T79c
end
section
/-! ===== the class's reader of conditions ===== -/
section T79d
variable {S : aS} {I : Nat → Nat → Int32} {L : Nat → Nat → Int64} {w1 w2 t : Nat} {e b : Nat} {T : Nat → Int32} {st o : List Int32} {d : Int32} {R : PR}
set_option maxRecDepth 100000
/-- a row's head, the latest first -/
def RowL (f : Nat → Int32) : List Int32 → Prop
  | [] => True
  | x :: r => f r.length = x ∧ RowL f r
theorem RowL.up {J : Nat → Nat → Int32} {p k : Nat} {v : Int32} : ∀ {r : List Int32}, RowL (J p) r → r.length ≤ k → RowL (up2 J p k v p) r := by
  intro r
  induction r with
  | nil => exact fun _ _ => trivial
  | cons x r ih =>
    intro h hk
    have hk : r.length + 1 ≤ k := hk
    exact ⟨(up2_ne (Or.inr (by omega))).trans h.1, ih h.2 (by omega)⟩
theorem RowL.ad {J : Nat → Nat → Int32} {p : Nat} {v : Int32} {r : List Int32} (h : RowL (J p) r) : RowL (up2 J p r.length v p) (v :: r) := ⟨up2_at, RowL.up h (Nat.le_refl _)⟩
/-- what a condition may change -/
def sC (q k : Nat) : Bool := Nat.beq q 221 || (Nat.beq q 234 || (Nat.beq q 231 || ((Nat.beq q 220 && (Nat.beq k 4 || Nat.beq k 5)) || (Nat.beq q 226 && Nat.beq k 1))))
theorem sC_of {q k : Nat} (h : sC q k = false) : q ≠ 221 := fun z => by
  subst z
  cases h
theorem sC_tok : ∀ q, 222 ≤ q → q ≤ 225 → ∀ k, sC q k = false := by
  intro q h1 h2 k
  have e1 : Nat.beq q 221 = false := beqF (by omega)
  have e2 : Nat.beq q 234 = false := beqF (by omega)
  have e3 : Nat.beq q 231 = false := beqF (by omega)
  have e4 : Nat.beq q 220 = false := beqF (by omega)
  have e5 : Nat.beq q 226 = false := beqF (by omega)
  simp [sC, e1, e2, e3, e4, e5]
theorem Fm.nx {J J' : Nat → Nat → Int32} (h : Fm sC I J) (f : ∀ q, q ≠ 221 → J' q = J q) : Fm sC I J' := fun q k hq => by
  rw [f q (sC_of hq)]
  exact h q k hq
/-- the reader: what is at hand, what waits, how deep, what was emitted -/
def Lr (T : Nat → Int32) (e b w : Nat) (st : List Int32) (d : Int32) (o : List Int32) (J : Nat → Nat → Int32) : Prop := At T e b w J ∧ (J 220 4 = nI st.length ∧ J 220 5 = d ∧ RowL (J 234) st) ∧ (J 226 1 = nI o.length ∧ RowL (J 231) o) ∧ e ≤ 400
theorem Lr.at {w : Nat} {J : Nat → Nat → Int32} (h : Lr T e b w st d o J) : At T e b w J := h.1
theorem Lr.hd {w : Nat} {J : Nat → Nat → Int32} (h : Lr T e b w st d o J) : J 220 4 = nI st.length := h.2.1.1
theorem Lr.de {w : Nat} {J : Nat → Nat → Int32} (h : Lr T e b w st d o J) : J 220 5 = d := h.2.1.2.1
theorem Lr.ro {w : Nat} {J : Nat → Nat → Int32} (h : Lr T e b w st d o J) : RowL (J 234) st := h.2.1.2.2
theorem Lr.cl {w : Nat} {J : Nat → Nat → Int32} (h : Lr T e b w st d o J) : J 226 1 = nI o.length := h.2.2.1.1
theorem Lr.co {w : Nat} {J : Nat → Nat → Int32} (h : Lr T e b w st d o J) : RowL (J 231) o := h.2.2.1.2
theorem Lr.e4 {w : Nat} {J : Nat → Nat → Int32} (h : Lr T e b w st d o J) : e ≤ 400 := h.2.2.2
theorem Lr.be {w : Nat} {J : Nat → Nat → Int32} (h : Lr T e b w st d o J) : b ≤ 400 := Nat.le_trans (At.le (Lr.at h)) (Lr.e4 h)
theorem Lr.mv {w b2 w' : Nat} {J J' : Nat → Nat → Int32} (h : Lr T e b w st d o J) (hA : At T e b2 w' J') (f : ∀ q, q ≠ 221 → J' q = J q) : Lr T e b2 w' st d o J' := by
  obtain ⟨-, ⟨h1, h2, h3⟩, ⟨h4, h5⟩, h6⟩ := h
  refine ⟨hA, ⟨?_, ?_, ?_⟩, ⟨?_, ?_⟩, h6⟩
  · rw [f 220 (by decide)]; exact h1
  · rw [f 220 (by decide)]; exact h2
  · rw [f 234 (by decide)]; exact h3
  · rw [f 226 (by decide)]; exact h4
  · rw [f 231 (by decide)]; exact h5
theorem Lr.em {w : Nat} {J : Nat → Nat → Int32} {x : Int32} (h : Lr T e b w st d o J) : Lr T e b w st d (x :: o) (up2 (up2 J 231 o.length x) 226 1 (nI (o.length + 1))) := by
  obtain ⟨h0, ⟨h1, h2, h3⟩, ⟨h4, h5⟩, h6⟩ := h
  refine ⟨At.eq h0 (fun q g1 g2 => by rw [up2_row (by omega), up2_row (by omega)]), ⟨?_, ?_, ?_⟩, ⟨up2_at, ?_⟩, h6⟩
  · rw [up2_row (by decide), up2_row (by decide)]; exact h1
  · rw [up2_row (by decide), up2_row (by decide)]; exact h2
  · rw [up2_row (by decide), up2_row (by decide)]; exact h3
  · rw [up2_row (by decide)]; exact RowL.ad h5
theorem Lr.ho {w : Nat} {J : Nat → Nat → Int32} {x : Int32} (h : Lr T e b w st d o J) : Lr T e b w (x :: st) d o (up2 (up2 J 234 st.length x) 220 4 (nI (st.length + 1))) := by
  obtain ⟨h0, ⟨h1, h2, h3⟩, ⟨h4, h5⟩, h6⟩ := h
  refine ⟨At.eq h0 (fun q g1 g2 => by rw [up2_row (by omega), up2_row (by omega)]), ⟨up2_at, ?_, ?_⟩, ⟨?_, ?_⟩, h6⟩
  · rw [up2_ne (Or.inr (by decide)), up2_row (by decide)]; exact h2
  · rw [up2_row (by decide)]; exact RowL.ad h3
  · rw [up2_row (by decide), up2_row (by decide)]; exact h4
  · rw [up2_row (by decide), up2_row (by decide)]; exact h5
theorem Lr.dp {w : Nat} {J : Nat → Nat → Int32} {d2 : Int32} (h : Lr T e b w st d o J) : Lr T e b w st d2 o (up2 J 220 5 d2) := by
  obtain ⟨h0, ⟨h1, h2, h3⟩, ⟨h4, h5⟩, h6⟩ := h
  refine ⟨At.eq h0 (fun q g1 g2 => by rw [up2_row (by omega)]), ⟨?_, up2_at, ?_⟩, ⟨?_, ?_⟩, h6⟩
  · rw [up2_ne (Or.inr (by decide))]; exact h1
  · rw [up2_row (by decide)]; exact h3
  · rw [up2_row (by decide)]; exact h4
  · rw [up2_row (by decide)]; exact h5
theorem Lr.po {w : Nat} {J : Nat → Nat → Int32} {x : Int32} (h : Lr T e b w (x :: st) d o J) : Lr T e b w st d o (up2 J 220 4 (nI st.length)) := by
  obtain ⟨h0, ⟨h1, h2, h3⟩, ⟨h4, h5⟩, h6⟩ := h
  refine ⟨At.eq h0 (fun q g1 g2 => by rw [up2_row (by omega)]), ⟨up2_at, ?_, ?_⟩, ⟨?_, ?_⟩, h6⟩
  · rw [up2_ne (Or.inr (by decide))]; exact h2
  · rw [up2_row (by decide)]; exact h3.2
  · rw [up2_row (by decide)]; exact h4
  · rw [up2_row (by decide)]; exact h5
theorem emitH_eq {n : Nat} {x : Int32} (h : I 226 1 = nI n) (hn : n < 400) : emitH I x = up2 (up2 I 231 n x) 226 1 (nI (n + 1)) := by
  unfold emitH
  rw [h, setF_nI hn (by decide), ← nI_succ]
theorem emitH_sC {x : Int32} : Fm sC I (emitH I x) := by
  unfold emitH
  exact Fm.up (Fm.st Fm.rf (fun _ => rfl)) rfl
theorem At.emH {w : Nat} {x : Int32} (h : At T e b w I) : At T e b w (emitH I x) := At.eq h (fun q g1 g2 => by
  unfold emitH
  rw [up2_row (by omega), setF_row (by omega)])
theorem f_partAtHand (hw : WdS S) (h : At T e b w2 I) : SpE S m_X3_partAtHand 12 [.ref 220] (hp I L w1 w2 t) (some (.int (prt T e b))) (hp I L w1 w2 t) := by
  refine SpE_of ok_X3_partAtHand rfl rfl ?_
  show AW S m_X3_partAtHand 12 _ _ 0 0 0 [some (.ref 220), none] [] (hp I L w1 w2 t)
  have k4 := kd_4 (T := T) (e := e) (b := b) rfl
  refine a_l0 rfl rfl rfl ?_
  refine a_getq rfl gfX3_28_3 rfl (rfl) ?_
  refine a_getiv (v := nI (kd T e b)) rfl gfX3_138_9 rfl (At.ki h) ?_
  refine a_s rfl rfl ?_
  refine a_ic_ne rfl (fun c => ?_) (fun c => ?_)
  · have c : kd T e b ≠ 2 := fun z => c (congrArg nI z)
    refine a_l0 rfl rfl rfl ?_
    refine a_getq rfl gfX3_28_3 rfl (rfl) ?_
    refine a_getr rfl gfX3_96_9 rfl ?_
    refine a_pop1 (show _ = rv w2 :: _ from rfl) ?_
    by_cases c1 : kd T e b = 1 ∧ wd T e b < 27
    · have e2 : w2 = 100 + wd T e b + 1 := (At.wo h).trans (wr_of c1.1 c1.2)
      subst e2
      refine a_s1 rfl rfl rfl rfl rfl rfl ?_
      refine a_l1 rfl rfl rfl ?_
      refine a_ifnonnull_t rfl ?_
      refine a_l1 rfl rfl rfl ?_
      refine a_getc rfl (inC10 (i := 53) rfl rfl) (hw.pa c1.2) ?_
      refine a_iret rfl rfl ⟨?_, rfl⟩
      unfold prt
      rw [if_neg c, if_pos c1.1]
    · have e2 : w2 = 0 := (At.wo h).trans (wr_no c1)
      subst e2
      refine a_s1 rfl rfl rfl rfl rfl rfl ?_
      refine a_l1 rfl rfl rfl ?_
      refine a_ifnonnull_f rfl ?_
      refine a_s rfl rfl ?_
      refine a_goto rfl ?_
      refine a_iret rfl rfl ⟨?_, rfl⟩
      unfold prt
      rw [if_neg c]
      by_cases c2 : kd T e b = 1
      · have := wd_le (T := T) (e := e) (b := b)
        have e3 : wd T e b = 27 := by
          have : ¬ wd T e b < 27 := fun z => c1 ⟨c2, z⟩
          omega
        rw [if_pos c2, e3]
        rfl
      · rw [if_neg c2]
  · have c := nI_inj (b := 2) (by omega) (by decide) c
    refine a_l0 rfl rfl rfl ?_
    refine a_getq rfl gfX3_28_3 rfl (rfl) ?_
    refine a_getiv (v := vl T e b) rfl gfX3_141_9 rfl (At.va h) ?_
    refine a_iret rfl rfl ⟨?_, rfl⟩
    unfold prt
    rw [if_pos c]
def jn (T : Nat → Int32) (e b : Nat) : Int32 := if isWd T e b 20 = true then 2004 else if isWd T e b 19 = true then 2005 else -1
theorem f_joinAtHand (hw : WdS S) (h : At T e b w2 I) : SpE S m_X3_joinAtHand 12 [.ref 220] (hp I L w1 w2 t) (some (.int (jn T e b))) (hp I L w1 w2 t) := by
  have kk2 := At.wk h
  have hi : ∀ k, k < 27 → (w2 = 100 + k + 1 ↔ isWd T e b k = true) := fun k hk => by
    rw [At.wo h]
    exact wr_is hk
  refine SpE_of ok_X3_joinAtHand rfl rfl ?_
  show AW S m_X3_joinAtHand 12 _ _ 0 0 0 [some (.ref 220)] [] (hp I L w1 w2 t)
  refine a_l0 rfl rfl rfl ?_
  refine a_getq rfl gfX3_28_3 rfl (rfl) ?_
  refine a_getr rfl gfX3_96_9 rfl ?_
  refine a_pop1 (show _ = rv w2 :: _ from rfl) ?_
  refine a_gets rfl (inC4 (i := 155) rfl rfl) (hw.st (i := 20) (by decide)) ?_
  refine a_acmp_ne (rx := w2) (ry := 100 + 20 + 1) rfl (kk2.ac hw) (WK.ck hw (i := 20) (by decide)) (fun c10 => ?_) (fun c10 => ?_)
  · have d1 : ¬ isWd T e b 20 = true := fun z => c10 ((hi 20 (by decide)).mpr z)
    refine a_l0 rfl rfl rfl ?_
    refine a_getq rfl gfX3_28_3 rfl (rfl) ?_
    refine a_getr rfl gfX3_96_9 rfl ?_
    refine a_pop1 (show _ = rv w2 :: _ from rfl) ?_
    refine a_gets rfl (inC4 (i := 157) rfl rfl) (hw.st (i := 19) (by decide)) ?_
    refine a_acmp_ne (rx := w2) (ry := 100 + 19 + 1) rfl (kk2.ac hw) (WK.ck hw (i := 19) (by decide)) (fun c27 => ?_) (fun c27 => ?_)
    · have d2 : ¬ isWd T e b 19 = true := fun z => c27 ((hi 19 (by decide)).mpr z)
      refine a_s rfl rfl ?_
      refine a_iret rfl rfl ⟨?_, rfl⟩
      unfold jn
      rw [if_neg d1, if_neg d2]
    · have d2 := (hi 19 (by decide)).mp c27
      refine a_s rfl rfl ?_
      refine a_goto rfl ?_
      refine a_iret rfl rfl ⟨?_, rfl⟩
      unfold jn
      rw [if_neg d1, if_pos d2]
  · have d1 := (hi 20 (by decide)).mp c10
    refine a_s rfl rfl ?_
    refine a_iret rfl rfl ⟨?_, rfl⟩
    unfold jn
    rw [if_pos d1]
theorem f_hold {n : Nat} (hs : I 220 4 = nI n) (hn : n < 32) {x : Int32} : SpE S m_X3_hold 13 [.ref 220, .int x] (hp I L w1 w2 t) none (hp (up2 (up2 I 234 n x) 220 4 (nI (n + 1))) L w1 w2 t) := by
  refine SpE_of ok_X3_hold rfl rfl ?_
  show AW S m_X3_hold 13 _ _ 0 0 0 [some (.ref 220), some (.int x)] [] (hp I L w1 w2 t)
  refine a_l0 rfl rfl rfl ?_
  refine a_getq rfl gfX3_20_3 rfl (rfl) ?_
  refine a_l0 rfl rfl rfl ?_
  refine a_getiv (v := nI n) rfl gfX3_68_3 rfl (hs) ?_
  refine a_l1 rfl rfl rfl ?_
  refine a_eSN0 rfl lX3_112 mo_X11_setAt (sp_X11_setAt rfl) rfl rfl rfl rfl ?_
  rw [setF_nI hn (by decide)]
  refine a_l0 rfl rfl rfl ?_
  refine a_s rfl rfl ?_
  refine a_getiv (v := nI n) rfl gfX3_68_3 rfl ((congrFun (up2_row (by decide)) 4).trans hs) ?_
  refine a_s rfl rfl ?_
  refine a_s rfl rfl ?_
  refine a_top (y := nI (n + 1)) ((nI_succ n).symm) ?_
  refine a_puti rfl pfX3_68_3 rfl ?_
  exact a_vret rfl rfl ⟨rfl, rfl⟩
theorem popF_len {op : Int32} : ∀ (st : List Int32) (d : Int32) (o : List Int32), (popF op st d o).1.length + (popF op st d o).2.2.length = st.length + o.length := by
  intro st
  induction st with
  | nil => exact fun d o => rfl
  | cons x r ih =>
    intro d o
    by_cases c : x ≤ op
    · rw [show popF op (x :: r) d o = popF op r (if x = 2003 then d - 1 else d) (x :: o) from if_pos c, ih]
      simp only [List.length_cons]
      omega
    · rw [show popF op (x :: r) d o = (x :: r, d, o) from if_neg c]
theorem brk_popF : ∀ (st : List Int32) (d : Int32) (o : List Int32), brk (popF 2005 st d o).1 = brk st := by
  intro st
  induction st with
  | nil => exact fun d o => rfl
  | cons x r ih =>
    intro d o
    by_cases c : x ≤ 2005
    · rw [show popF 2005 (x :: r) d o = popF 2005 r (if x = 2003 then d - 1 else d) (x :: o) from if_pos c, ih, brk_in c]
    · rw [show popF 2005 (x :: r) d o = (x :: r, d, o) from if_neg c]
theorem popF_hd : ∀ (st : List Int32) (d : Int32) (o : List Int32) (x : Int32) (r : List Int32), (popF 2005 st d o).1 = x :: r → ¬ x ≤ 2005 := by
  intro st
  induction st with
  | nil => exact fun d o x r z => by cases z
  | cons y s ih =>
    intro d o x r z
    by_cases c : y ≤ 2005
    · rw [show popF 2005 (y :: s) d o = popF 2005 s (if y = 2003 then d - 1 else d) (y :: o) from if_pos c] at z
      exact ih _ _ x r z
    · rw [show popF 2005 (y :: s) d o = (y :: s, d, o) from if_neg c] at z
      cases z
      exact c
theorem f_emitHeld (h : Lr T e b w2 st d o I) (hB : o.length + st.length ≤ b) (h32 : st.length ≤ 32) {op : Int32} : Sp S m_X3_emitHeld 14 0 0 [.ref 220, .int op] (hp I L w1 w2 t) (fun v h' => v = none ∧ ∃ J, h' = hp J L w1 w2 t ∧ Fm sC I J ∧ Lr T e b w2 (popF op st d o).1 (popF op st d o).2.1 (popF op st d o).2.2 J) nX := by
  have hb4 := Lr.be h
  refine Sp_of ok_X3_emitHeld rfl rfl ?_
  show AW S m_X3_emitHeld 14 _ _ 0 0 0 [some (.ref 220), some (.int op), none] [] (hp I L w1 w2 t)
  refine a_inv (n := st.length) (fun m ls h => ∃ s' d' o' J, ls = [some (.ref 220), some (.int op), none] ∧ h = hp J L w1 w2 t ∧ Lr T e b w2 s' d' o' J ∧ Fm sC I J ∧ popF op s' d' o' = popF op st d o ∧ m = s'.length ∧ o'.length + s'.length ≤ b ∧ s'.length ≤ 32) ⟨st, d, o, I, rfl, rfl, h, Fm.rf, rfl, rfl, hB, h32⟩ ?_
  rintro m _ _ ⟨s', d', o', J, rfl, rfl, hL, hF, hp', hm, hB', h32'⟩ ih
  refine a_l0 rfl rfl rfl ?_
  refine a_getiv (v := nI s'.length) rfl gfX3_68_3 rfl (Lr.hd hL) ?_
  cases s' with
  | nil =>
    refine a_if_le rfl (fun _ => ?_) (fun c => absurd (by decide) c)
    refine a_vret rfl rfl ⟨rfl, J, rfl, hF, ?_⟩
    rw [← hp']
    exact hL
  | cons x r =>
    have hr : o'.length + (r.length + 1) ≤ b := hB'
    have hr32 : r.length + 1 ≤ 32 := h32'
    refine a_if_le rfl (fun c => ?_) (fun _ => ?_)
    · exfalso
      have z := Int32.le_iff_toInt_le.mp c
      rw [show (x :: r).length = r.length + 1 from rfl, nI_toInt (by omega), show (0 : Int32).toInt = 0 from rfl] at z
      omega
    refine a_l0 rfl rfl rfl ?_
    refine a_getq rfl gfX3_20_3 rfl (rfl) ?_
    refine a_l0 rfl rfl rfl ?_
    refine a_getiv (v := nI (r.length + 1)) rfl gfX3_68_3 rfl (Lr.hd hL) ?_
    refine a_s rfl rfl ?_
    refine a_s rfl rfl ?_
    refine a_top (y := nI r.length) (nI_dec r.length) ?_
    refine a_eSN1 rfl lX3_116 mo_X11_at (sp_X11_at rfl) rfl rfl rfl rfl ?_
    refine a_top (y := x) ((atF_nI (by omega) (by decide)).trans (Lr.ro hL).1) ?_
    refine a_l1 rfl rfl rfl ?_
    refine a_ic_gt rfl (fun c => ?_) (fun c => ?_)
    · refine a_vret rfl rfl ⟨rfl, J, rfl, hF, ?_⟩
      rw [← hp', show popF op (x :: r) d' o' = (x :: r, d', o') from if_neg (Int32.not_le.mpr c)]
      exact hL
    have hxo := Int32.not_lt.mp c
    have ep : popF op r (if x = 2003 then d' - 1 else d') (x :: o') = popF op st d o := by
      rw [← hp']
      exact (if_pos hxo).symm
    refine a_l0 rfl rfl rfl ?_
    refine a_s rfl rfl ?_
    refine a_getiv (v := nI (r.length + 1)) rfl gfX3_68_3 rfl (Lr.hd hL) ?_
    refine a_s rfl rfl ?_
    refine a_s rfl rfl ?_
    refine a_top (y := nI r.length) (nI_dec r.length) ?_
    refine a_puti rfl pfX3_68_3 rfl ?_
    have hL1 := Lr.po hL
    have hF1 : Fm sC I (up2 J 220 4 (nI r.length)) := Fm.up hF rfl
    refine a_l0 rfl rfl rfl ?_
    refine a_getq rfl gfX3_20_3 rfl (rfl) ?_
    refine a_l0 rfl rfl rfl ?_
    refine a_getiv (v := nI r.length) rfl gfX3_68_3 rfl (Lr.hd hL1) ?_
    refine a_eSN1 rfl lX3_116 mo_X11_at (sp_X11_at rfl) rfl rfl rfl rfl ?_
    refine a_top (y := x) ((atF_nI (by omega) (by decide)).trans ((congrFun (up2_row (by decide)) r.length).trans (Lr.ro hL).1)) ?_
    refine a_s2 rfl rfl rfl rfl rfl rfl ?_
    refine a_l2 rfl rfl rfl ?_
    refine a_s rfl rfl ?_
    have k63 : ∀ (d2 : Int32) (K : Nat → Nat → Int32), Lr T e b w2 r d2 o' K → Fm sC I K → d2 = (if x = 2003 then d' - 1 else d') → AW S m_X3_emitHeld 14 (fun v h' => v = none ∧ ∃ J, h' = hp J L w1 w2 t ∧ Fm sC I J ∧ Lr T e b w2 (popF op st d o).1 (popF op st d o).2.1 (popF op st d o).2.2 J) nX 0 0 63 [some (.ref 220), some (.int op), some (.int x)] [] (hp K L w1 w2 t) := by
      intro d2 K hK hFK hd2
      refine a_l0 rfl rfl rfl ?_
      refine a_getq rfl gfX3_14_3 rfl (rfl) ?_
      refine a_l2 rfl rfl rfl ?_
      refine a_eV0 rfl lX3_120 mo_X2_emit q_X2_emit rfl rfl rfl ⟨2, _, rfl, rfl, rfl⟩ rfl ?_
      rw [emitH_eq (Lr.cl hK) (by omega)]
      refine a_goto rfl ?_
      refine a_less (ih r.length _ _ (by rw [hm]; exact Nat.lt_succ_self _) ⟨r, d2, x :: o', _, rfl, rfl, Lr.em hK, Fm.up (Fm.up hFK rfl) rfl, by rw [hd2]; exact ep, rfl, by simp only [List.length_cons]; omega, by omega⟩) ⟨rfl, rfl, trivial⟩
    refine a_ic_ne rfl (fun c3 => ?_) (fun c3 => ?_)
    · exact k63 d' _ hL1 hF1 (if_neg c3).symm
    · refine a_l0 rfl rfl rfl ?_
      refine a_s rfl rfl ?_
      refine a_getiv (v := d') rfl gfX3_72_3 rfl (Lr.de hL1) ?_
      refine a_s rfl rfl ?_
      refine a_s rfl rfl ?_
      refine a_puti rfl pfX3_72_3 rfl ?_
      exact k63 (d' - 1) _ (Lr.dp hL1) (Fm.up hF1 rfl) (if_pos c3).symm
theorem f_readSum (hw : WdS S) (h : Lr T e b w2 st d o I) (hB : o.length + st.length ≤ b) : Sp S m_X3_readSum 14 0 0 [.ref 220] (hp I L w1 w2 t) (fun v h' => v = some (.int (bI (sumP T e b o).1)) ∧ ∃ J w, h' = hp J L w1 w t ∧ Fm sC I J ∧ At T e (sumP T e b o).2.1 w J ∧ ((sumP T e b o).1 = true → Lr T e (sumP T e b o).2.1 w st d (sumP T e b o).2.2 J)) nX := by
  have hb4 := Lr.be h
  have hbe := At.le (Lr.at h)
  refine Sp_of ok_X3_readSum rfl rfl ?_
  show AW S m_X3_readSum 14 _ _ 0 0 0 [some (.ref 220), none, none] [] (hp I L w1 w2 t)
  refine a_l0 rfl rfl rfl ?_
  refine a_eV1 rfl lX3_135 mo_X3_partAtHand (f_partAtHand hw (Lr.at h)) rfl rfl rfl ⟨3, _, rfl, rfl, rfl⟩ rfl ?_
  refine a_s1 rfl rfl rfl rfl rfl rfl ?_
  refine a_l1 rfl rfl rfl ?_
  refine a_s rfl rfl ?_
  refine a_ic_ne rfl (fun c => ?_) (fun c => ?_)
  rotate_left
  · refine a_s rfl rfl ?_
    have e1 : sumP T e b o = (false, b, []) := if_pos c
    rw [e1]
    exact a_zret rfl rfl rfl ⟨rfl, I, w2, rfl, Fm.rf, Lr.at h, fun z => by cases z⟩
  have e1 : sumP T e b o = smL T e (nx T e b) (prt T e b :: o) := if_neg c
  have n1 := nx_lt (T := T) (prt_lt c)
  have n1e := nx_le (T := T) hbe
  refine a_l0 rfl rfl rfl ?_
  refine a_getq rfl gfX3_28_3 rfl (rfl) ?_
  refine a_gV rfl lX3_93 mo_X9_next (g_next hw (Lr.at h)) rfl rfl rfl ⟨9, _, rfl, rfl, rfl⟩ rfl (fun v' h' hv => ?_)
  obtain ⟨rfl, J1, wa, rfl, hA1, hf1⟩ := hv
  have h1 := Lr.mv h hA1 hf1
  have hF1 : Fm sC I J1 := Fm.nx Fm.rf hf1
  have he4 := Lr.e4 h
  refine a_l0 rfl rfl rfl ?_
  refine a_getq rfl gfX3_14_3 rfl (rfl) ?_
  refine a_l1 rfl rfl rfl ?_
  refine a_eV0 rfl lX3_120 mo_X2_emit q_X2_emit rfl rfl rfl ⟨2, _, rfl, rfl, rfl⟩ rfl ?_
  rw [emitH_eq (Lr.cl h1) (by omega)]
  refine a_s rfl rfl ?_
  refine a_s2 rfl rfl rfl rfl rfl rfl ?_
  refine a_inv (n := e - nx T e b) (fun m ls h => ∃ i b' w' o' x J, ls = [some (.ref 220), some (.int x), some (.int (nI i))] ∧ h = hp J L w1 w' t ∧ Lr T e b' w' st d o' J ∧ Fm sC I J ∧ smL T e b' o' = sumP T e b o ∧ o'.length + st.length ≤ b' ∧ i < b' ∧ m = e - b') ⟨0, nx T e b, wa, prt T e b :: o, prt T e b, _, rfl, rfl, Lr.em h1, Fm.up (Fm.up hF1 rfl) rfl, e1.symm, by simp only [List.length_cons]; omega, by omega, rfl⟩ ?_
  rintro m _ _ ⟨i, b', w', o', x, J, rfl, rfl, hL, hF, es, hB', hib, hm⟩ ih
  have hb' := At.le (Lr.at hL)
  refine a_l2 rfl rfl rfl ?_
  refine a_s rfl rfl ?_
  refine a_ic_ge rfl (fun c => absurd c (nI_ge (b := 400) (by omega) (by omega))) (fun _ => ?_)
  refine a_l0 rfl rfl rfl ?_
  refine a_getq rfl gfX3_28_3 rfl (rfl) ?_
  refine a_s rfl rfl ?_
  refine a_eV1 rfl lX3_108 mo_X9_isSign (f_isSign (Lr.at hL)) rfl rfl rfl ⟨9, _, rfl, rfl, rfl⟩ rfl ?_
  cases cs : sg T e b' 43 with
  | false =>
    refine a_if_eq rfl (fun _ => ?_) (fun z => absurd rfl z)
    refine a_s rfl rfl ?_
    rw [smL_f cs] at es
    rw [← es]
    exact a_zret rfl rfl rfl ⟨rfl, J, w', rfl, hF, Lr.at hL, fun _ => hL⟩
  | true =>
    refine a_if_eq rfl (fun z => absurd z (by decide)) (fun _ => ?_)
    have n2 := nx_lt (T := T) (sg_lt cs)
    have n2e := nx_le (T := T) hb'
    refine a_l0 rfl rfl rfl ?_
    refine a_getq rfl gfX3_28_3 rfl (rfl) ?_
    refine a_gV rfl lX3_93 mo_X9_next (g_next hw (Lr.at hL)) rfl rfl rfl ⟨9, _, rfl, rfl, rfl⟩ rfl (fun v' h' hv => ?_)
    obtain ⟨rfl, J2, wb, rfl, hA2, hf2⟩ := hv
    have h2 := Lr.mv hL hA2 hf2
    have hF2 : Fm sC I J2 := Fm.nx hF hf2
    refine a_l0 rfl rfl rfl ?_
    refine a_eV1 rfl lX3_135 mo_X3_partAtHand (f_partAtHand hw hA2) rfl rfl rfl ⟨3, _, rfl, rfl, rfl⟩ rfl ?_
    refine a_s1 rfl rfl rfl rfl rfl rfl ?_
    refine a_l1 rfl rfl rfl ?_
    refine a_s rfl rfl ?_
    refine a_ic_ne rfl (fun cp => ?_) (fun cp => ?_)
    rotate_left
    · refine a_s rfl rfl ?_
      rw [smL_n cs cp] at es
      rw [← es]
      exact a_zret rfl rfl rfl ⟨rfl, J2, wb, rfl, hF2, hA2, fun z => by cases z⟩
    have n3 := nx_lt (T := T) (prt_lt cp)
    have n3e := nx_le (T := T) n2e
    rw [smL_t cs cp] at es
    refine a_l0 rfl rfl rfl ?_
    refine a_getq rfl gfX3_28_3 rfl (rfl) ?_
    refine a_gV rfl lX3_93 mo_X9_next (g_next hw hA2) rfl rfl rfl ⟨9, _, rfl, rfl, rfl⟩ rfl (fun v' h' hv => ?_)
    obtain ⟨rfl, J3, wc, rfl, hA3, hf3⟩ := hv
    have h3 := Lr.mv h2 hA3 hf3
    have hF3 : Fm sC I J3 := Fm.nx hF2 hf3
    refine a_l0 rfl rfl rfl ?_
    refine a_getq rfl gfX3_14_3 rfl (rfl) ?_
    refine a_l1 rfl rfl rfl ?_
    refine a_eV0 rfl lX3_120 mo_X2_emit q_X2_emit rfl rfl rfl ⟨2, _, rfl, rfl, rfl⟩ rfl ?_
    rw [emitH_eq (Lr.cl h3) (by omega)]
    have h4 := Lr.em (x := prt T e (nx T e b')) h3
    refine a_l0 rfl rfl rfl ?_
    refine a_getq rfl gfX3_14_3 rfl (rfl) ?_
    refine a_s rfl rfl ?_
    refine a_eV0 rfl lX3_120 mo_X2_emit q_X2_emit rfl rfl rfl ⟨2, _, rfl, rfl, rfl⟩ rfl ?_
    rw [emitH_eq (Lr.cl h4) (by simp only [List.length_cons]; omega)]
    refine a_iv2 (y := nI (i + 1)) rfl rfl rfl ((nI_succ i).symm) ?_
    refine a_goto rfl ?_
    exact ih (e - nx T e (nx T e b')) _ _ (by omega) ⟨i + 1, _, wc, _, _, _, rfl, rfl, Lr.em h4, Fm.up (Fm.up (Fm.up (Fm.up hF3 rfl) rfl) rfl) rfl, es, by simp only [List.length_cons]; omega, by omega, rfl⟩
end T79d
end
section
/-! ===== the class's reader of conditions: atoms, deeper, back, all ===== -/
section T79e
variable {S : aS} {I : Nat → Nat → Int32} {L : Nat → Nat → Int64} {w1 w2 t : Nat} {e b : Nat} {T : Nat → Int32} {st o : List Int32} {d : Int32} {R : PR}
set_option maxRecDepth 100000
theorem cmpP_t {x : Int32} {b1 : Nat} {o1 : List Int32} (h : sumP T e b o = (true, b1, o1)) : cmpP T e x b o = (true, b1, x :: o1) := by
  unfold cmpP
  rw [h]
  rfl
theorem cmpP_f {x : Int32} {b1 : Nat} {o1 : List Int32} (h : sumP T e b o = (false, b1, o1)) : cmpP T e x b o = (false, b1, []) := by
  unfold cmpP
  rw [h]
  rfl
theorem baseP_s {z : Bool} {b1 : Nat} {o1 : List Int32} (h22 : isWd T e b 22 = false) (h23 : isWd T e b 23 = false) (hr : sumP T e b o = (z, b1, o1)) : baseP T e b o = if z = true then (if sg T e b1 60 = true then cmpP T e 2001 (nx T e b1) o1 else if sg T e b1 62 = true then cmpP T e 2002 (nx T e b1) o1 else (false, b1, [])) else (false, b1, []) := by
  unfold baseP
  rw [if_neg (by rw [h22]; decide), if_neg (by rw [h23]; decide), hr]
/-- behind an atom -/
def QAt (T : Nat → Int32) (e : Nat) (st : List Int32) (d : Int32) (r : PR) (I : Nat → Nat → Int32) (L : Nat → Nat → Int64) (w1 t : Nat) : Option Value → aH → Prop := fun v h' => v = some (.int (bI r.1)) ∧ ∃ J w, h' = hp J L w1 w t ∧ Fm sC I J ∧ At T e r.2.1 w J ∧ (r.1 = true → Lr T e r.2.1 w st d r.2.2 J)
theorem f_readAtom (hw : WdS S) (h : Lr T e b w2 st d o I) (hB : o.length + st.length ≤ b) : Sp S m_X3_readAtom 15 0 0 [.ref 220] (hp I L w1 w2 t) (QAt T e st d (baseP T e b o) I L w1 t) nX := by
  have hb4 := Lr.be h
  have hbe := At.le (Lr.at h)
  have he4 := Lr.e4 h
  refine Sp_of ok_X3_readAtom rfl rfl ?_
  show AW S m_X3_readAtom 15 _ _ 0 0 0 [some (.ref 220), none, none] [] (hp I L w1 w2 t)
  refine a_l0 rfl rfl rfl ?_
  refine a_getq rfl gfX3_28_3 rfl (rfl) ?_
  refine a_gets rfl (inC4 (i := 121) rfl rfl) (hw.st (i := 22) (by decide)) ?_
  refine a_gV rfl lX3_48 mo_X9_takeWord (f_takeWord (k := 22) hw (Lr.at h) (by decide)) rfl rfl rfl ⟨9, _, rfl, rfl, rfl⟩ rfl (fun v' h' hv => ?_)
  obtain ⟨rfl, J1, wa, rfl, hA1, hf1⟩ := hv
  have hF1 : Fm sC I J1 := Fm.nx Fm.rf hf1
  have h1 := Lr.mv h hA1 hf1
  cases cr : isWd T e b 22 with
  | true =>
    refine a_if_eq rfl (fun z => absurd z (by decide)) (fun _ => ?_)
    rw [cr, if_pos rfl] at hA1 h1
    have n1 := nx_lt (T := T) (isWd_lt cr)
    have n1e := nx_le (T := T) hbe
    refine a_l0 rfl rfl rfl ?_
    refine a_getq rfl gfX3_14_3 rfl (rfl) ?_
    refine a_s rfl rfl ?_
    refine a_eV0 rfl lX3_120 mo_X2_emit q_X2_emit rfl rfl rfl ⟨2, _, rfl, rfl, rfl⟩ rfl ?_
    rw [emitH_eq (Lr.cl h1) (by omega)]
    refine a_s rfl rfl ?_
    rw [show baseP T e b o = (true, nx T e b, 1007 :: o) from if_pos cr]
    have h2 := Lr.em (x := 1007) h1
    exact a_zret rfl rfl rfl ⟨rfl, _, wa, rfl, Fm.up (Fm.up hF1 rfl) rfl, Lr.at h2, fun _ => h2⟩
  | false =>
  refine a_if_eq rfl (fun _ => ?_) (fun z => absurd rfl z)
  rw [cr, if_neg (by decide)] at hA1 h1
  refine a_l0 rfl rfl rfl ?_
  refine a_getq rfl gfX3_28_3 rfl (rfl) ?_
  refine a_gets rfl (inC4 (i := 127) rfl rfl) (hw.st (i := 23) (by decide)) ?_
  refine a_gV rfl lX3_48 mo_X9_takeWord (f_takeWord (k := 23) hw hA1 (by decide)) rfl rfl rfl ⟨9, _, rfl, rfl, rfl⟩ rfl (fun v' h' hv => ?_)
  obtain ⟨rfl, J2, wb, rfl, hA2, hf2⟩ := hv
  have hF2 : Fm sC I J2 := Fm.nx hF1 hf2
  have h2 := Lr.mv h1 hA2 hf2
  cases co : isWd T e b 23 with
  | true =>
    refine a_if_eq rfl (fun z => absurd z (by decide)) (fun _ => ?_)
    rw [co, if_pos rfl] at hA2 h2
    have n1 := nx_lt (T := T) (isWd_lt co)
    have n1e := nx_le (T := T) hbe
    refine a_l0 rfl rfl rfl ?_
    refine a_getq rfl gfX3_14_3 rfl (rfl) ?_
    refine a_s rfl rfl ?_
    refine a_eV0 rfl lX3_120 mo_X2_emit q_X2_emit rfl rfl rfl ⟨2, _, rfl, rfl, rfl⟩ rfl ?_
    rw [emitH_eq (Lr.cl h2) (by omega)]
    refine a_s rfl rfl ?_
    rw [show baseP T e b o = (true, nx T e b, 1008 :: o) from (if_neg (by rw [cr]; decide)).trans (if_pos co)]
    have h3 := Lr.em (x := 1008) h2
    exact a_zret rfl rfl rfl ⟨rfl, _, wb, rfl, Fm.up (Fm.up hF2 rfl) rfl, Lr.at h3, fun _ => h3⟩
  | false =>
  refine a_if_eq rfl (fun _ => ?_) (fun z => absurd rfl z)
  rw [co, if_neg (by decide)] at hA2 h2
  refine a_l0 rfl rfl rfl ?_
  refine a_gV rfl lX3_129 mo_X3_readSum (f_readSum hw h2 hB) rfl rfl rfl ⟨3, _, rfl, rfl, rfl⟩ rfl (fun v' h' hv => ?_)
  obtain ⟨rfl, J3, wc, rfl, f3, hA3, hz3⟩ := hv
  have hF3 : Fm sC I J3 := Fm.tr hF2 f3
  have g0 := sumP_gd (T := T) (o := o) hbe
  rcases hr : sumP T e b o with ⟨z, b1, o1⟩
  rw [baseP_s cr co hr]
  rw [hr] at hA3 hz3 g0
  obtain ⟨g1, g2, g3⟩ := g0
  have g2 : b1 ≤ e := g2
  cases z with
  | false =>
    refine a_if_ne rfl (fun z => absurd rfl z) (fun _ => ?_)
    refine a_s rfl rfl ?_
    rw [if_neg (by decide)]
    exact a_zret rfl rfl rfl ⟨rfl, J3, wc, rfl, hF3, hA3, fun z => by cases z⟩
  | true =>
  have h3 : Lr T e b1 wc st d o1 J3 := hz3 rfl
  have g3 : b < b1 ∧ o1.length + b ≤ o.length + b1 := g3 rfl
  rw [if_pos rfl]
  refine a_if_ne rfl (fun _ => ?_) (fun z => absurd (show (1 : Int32) = 0 from z) (by decide))
  have k107 : ∀ (x : Int32) (wx : Nat) (J : Nat → Nat → Int32), Fm sC I J → Lr T e (nx T e b1) wx st d o1 J → b1 < nx T e b1 → AW S m_X3_readAtom 15 (QAt T e st d (cmpP T e x (nx T e b1) o1) I L w1 t) nX 0 0 107 [some (.ref 220), some (.int x), none] [] (hp J L w1 wx t) := by
    intro x wx J hF hL hlt
    have hLe := At.le (Lr.at hL)
    refine a_l0 rfl rfl rfl ?_
    refine a_gV rfl lX3_129 mo_X3_readSum (f_readSum hw hL (by omega)) rfl rfl rfl ⟨3, _, rfl, rfl, rfl⟩ rfl (fun v' h' hv => ?_)
    obtain ⟨rfl, J4, wy, rfl, f4, hA4, hz4⟩ := hv
    have hF4 : Fm sC I J4 := Fm.tr hF f4
    have q0 := sumP_gd (T := T) (o := o1) hLe
    rcases hr2 : sumP T e (nx T e b1) o1 with ⟨z2, b2, o2⟩
    rw [hr2] at hA4 hz4 q0
    obtain ⟨q1, q2, q3⟩ := q0
    have q2 : b2 ≤ e := q2
    refine a_s2 rfl rfl rfl rfl rfl rfl ?_
    refine a_l0 rfl rfl rfl ?_
    refine a_getq rfl gfX3_14_3 rfl (rfl) ?_
    refine a_l1 rfl rfl rfl ?_
    refine a_eV0 rfl lX3_120 mo_X2_emit q_X2_emit rfl rfl rfl ⟨2, _, rfl, rfl, rfl⟩ rfl ?_
    refine a_l2 rfl rfl rfl ?_
    cases z2 with
    | false =>
      rw [cmpP_f hr2]
      exact a_zret rfl rfl (bI_nar _) ⟨rfl, _, wy, rfl, Fm.tr hF4 emitH_sC, At.emH hA4, fun z => by cases z⟩
    | true =>
      have h4 : Lr T e b2 wy st d o2 J4 := hz4 rfl
      have q3 : nx T e b1 < b2 ∧ o2.length + nx T e b1 ≤ o1.length + b2 := q3 rfl
      rw [cmpP_t hr2, emitH_eq (Lr.cl h4) (by omega)]
      have h5 := Lr.em (x := x) h4
      exact a_zret rfl rfl (bI_nar _) ⟨rfl, _, wy, rfl, Fm.up (Fm.up hF4 rfl) rfl, Lr.at h5, fun _ => h5⟩
  refine a_l0 rfl rfl rfl ?_
  refine a_getq rfl gfX3_28_3 rfl (rfl) ?_
  refine a_s rfl rfl ?_
  refine a_eV1 rfl lX3_108 mo_X9_isSign (f_isSign (Lr.at h3)) rfl rfl rfl ⟨9, _, rfl, rfl, rfl⟩ rfl ?_
  have k81 : ∀ x : Int32, (x = if sg T e b1 60 = true then 2001 else 2002) → AW S m_X3_readAtom 15 (QAt T e st d (if sg T e b1 60 = true then cmpP T e 2001 (nx T e b1) o1 else if sg T e b1 62 = true then cmpP T e 2002 (nx T e b1) o1 else (false, b1, [])) I L w1 t) nX 0 0 81 [some (.ref 220), some (.int x), none] [] (hp J3 L w1 wc t) := by
    intro x hx
    refine a_l0 rfl rfl rfl ?_
    refine a_getq rfl gfX3_28_3 rfl (rfl) ?_
    refine a_s rfl rfl ?_
    refine a_gV rfl lX3_132 mo_X9_takeSign (f_takeSign hw (Lr.at h3)) rfl rfl rfl ⟨9, _, rfl, rfl, rfl⟩ rfl (fun v' h' hv => ?_)
    obtain ⟨rfl, J5, wd5, rfl, hA5, hf5⟩ := hv
    have hF5 : Fm sC I J5 := Fm.nx hF3 hf5
    have h5 := Lr.mv h3 hA5 hf5
    cases c60 : sg T e b1 60 with
    | true =>
      refine a_if_ne rfl (fun _ => ?_) (fun z => absurd z (by decide))
      rw [c60, if_pos rfl] at h5
      rw [c60, if_pos rfl] at hx
      rw [if_pos rfl, hx]
      exact k107 2001 wd5 J5 hF5 h5 (nx_lt (sg_lt c60))
    | false =>
      refine a_if_ne rfl (fun z => absurd rfl z) (fun _ => ?_)
      rw [c60, if_neg (by decide)] at h5
      rw [c60, if_neg (by decide)] at hx
      rw [if_neg (by decide), hx]
      refine a_l0 rfl rfl rfl ?_
      refine a_getq rfl gfX3_28_3 rfl (rfl) ?_
      refine a_s rfl rfl ?_
      refine a_gV rfl lX3_132 mo_X9_takeSign (f_takeSign hw (Lr.at h5)) rfl rfl rfl ⟨9, _, rfl, rfl, rfl⟩ rfl (fun v' h' hv => ?_)
      obtain ⟨rfl, J6, wd6, rfl, hA6, hf6⟩ := hv
      have hF6 : Fm sC I J6 := Fm.nx hF5 hf6
      have h6 := Lr.mv h5 hA6 hf6
      cases c62 : sg T e b1 62 with
      | true =>
        refine a_if_ne rfl (fun _ => ?_) (fun z => absurd z (by decide))
        rw [c62, if_pos rfl] at h6
        rw [if_pos rfl]
        exact k107 2002 wd6 J6 hF6 h6 (nx_lt (sg_lt c62))
      | false =>
        refine a_if_ne rfl (fun z => absurd rfl z) (fun _ => ?_)
        rw [c62, if_neg (by decide)] at h6
        rw [if_neg (by decide)]
        refine a_s rfl rfl ?_
        exact a_zret rfl rfl rfl ⟨rfl, J6, wd6, rfl, hF6, Lr.at h6, fun z => by cases z⟩
  cases c60 : sg T e b1 60 with
  | true =>
    refine a_if_eq rfl (fun z => absurd z (by decide)) (fun _ => ?_)
    refine a_s rfl rfl ?_
    refine a_goto rfl ?_
    refine a_s1 rfl rfl rfl rfl rfl rfl ?_
    rw [c60] at k81
    exact k81 2001 rfl
  | false =>
    refine a_if_eq rfl (fun _ => ?_) (fun z => absurd rfl z)
    refine a_s rfl rfl ?_
    refine a_s1 rfl rfl rfl rfl rfl rfl ?_
    rw [c60] at k81
    exact k81 2002 rfl
theorem Rn_A (h : Rn T e false b st d o R) : 0 ≤ d ∧ st.length < 32 ∧ (opn T e b = true → (6 ≤ d → R = (false, b, [])) ∧ (¬ 6 ≤ d → Rn T e false (nx T e b) ((if isWd T e b 21 = true then 2003 else 2006) :: st) (d + 1) o R)) ∧ (¬ opn T e b = true → ((baseP T e b o).1 = true → Rn T e true (baseP T e b o).2.1 st d (baseP T e b o).2.2 R) ∧ (¬ (baseP T e b o).1 = true → R = (false, (baseP T e b o).2.1, []))) := by
  obtain ⟨f, hf⟩ := h
  cases f with
  | zero => cases hf
  | succ f =>
    unfold run at hf
    by_cases c : 0 ≤ d ∧ st.length < 32
    · rw [if_pos c] at hf
      refine ⟨c.1, c.2, fun h1 => ?_, fun h1 => ?_⟩
      · rw [if_pos h1] at hf
        refine ⟨fun h6 => ?_, fun h6 => ?_⟩
        · rw [if_pos h6] at hf
          exact (Option.some.inj hf).symm
        · rw [if_neg h6] at hf
          exact ⟨f, hf⟩
      · rw [if_neg h1] at hf
        refine ⟨fun h6 => ?_, fun h6 => ?_⟩
        · rw [if_pos h6] at hf
          exact ⟨f, hf⟩
        · rw [if_neg h6] at hf
          exact (Option.some.inj hf).symm
    · rw [if_neg c] at hf
      cases hf
/-- where no ) is to be closed -/
def FinB (T : Nat → Int32) (e b : Nat) (st : List Int32) (d : Int32) (o : List Int32) (R : PR) : Prop := st.length ≤ 32 ∧ (isWd T e b 20 = true → Rn T e false (nx T e b) (2004 :: (popF 2004 st d o).1) (popF 2004 st d o).2.1 (popF 2004 st d o).2.2 R) ∧ (isWd T e b 20 = false → isWd T e b 19 = true → Rn T e false (nx T e b) (2005 :: (popF 2005 st d o).1) (popF 2005 st d o).2.1 (popF 2005 st d o).2.2 R) ∧ (isWd T e b 20 = false → isWd T e b 19 = false → R = ends b (popF 2005 st d o))
theorem Rn_B (h : Rn T e true b st d o R) : (brk st ≤ 6 ∧ st.length ≤ 32) ∧ (sg T e b 41 = true → ((popF 2005 st d o).1 = [] → R = (true, b, (popF 2005 st d o).2.2)) ∧ (∀ x r, (popF 2005 st d o).1 = x :: r → Rn T e true (nx T e b) r ((popF 2005 st d o).2.1 - 1) (popF 2005 st d o).2.2 R)) ∧ (sg T e b 41 = false → FinB T e b st d o R) := by
  obtain ⟨f, hf⟩ := h
  cases f with
  | zero => cases hf
  | succ f =>
    unfold run at hf
    by_cases c : brk st ≤ 6 ∧ st.length ≤ 32
    · rw [if_pos c] at hf
      refine ⟨c, fun h1 => ?_, fun h1 => ?_⟩
      · rw [if_pos h1] at hf
        refine ⟨fun h2 => ?_, fun x r h2 => ?_⟩
        · rw [h2] at hf
          exact (Option.some.inj hf).symm
        · rw [h2] at hf
          exact ⟨f, hf⟩
      · rw [if_neg (by rw [h1]; decide)] at hf
        refine ⟨c.2, fun h2 => ?_, fun h2 h3 => ?_, fun h2 h3 => ?_⟩
        · rw [if_pos h2] at hf
          exact ⟨f, hf⟩
        · rw [if_neg (by rw [h2]; decide), if_pos h3] at hf
          exact ⟨f, hf⟩
        · rw [if_neg (by rw [h2]; decide), if_neg (by rw [h3]; decide)] at hf
          exact (Option.some.inj hf).symm
    · rw [if_neg c] at hf
      cases hf
theorem i6 {d : Int32} (h0 : 0 ≤ d) (h6 : d < 6) : ∃ k, k < 6 ∧ d = nI k := by
  rw [Int32.le_iff_toInt_le, show (0 : Int32).toInt = 0 from rfl] at h0
  rw [Int32.lt_iff_toInt_lt, show (6 : Int32).toInt = 6 from rfl] at h6
  refine ⟨d.toInt.toNat, by omega, ?_⟩
  rw [← Int32.toInt_inj, nI_toInt (by omega)]
  omega
theorem f_openDeeper (hw : WdS S) (h : Lr T e b w2 st d o I) (hB : o.length + st.length ≤ b) (hR : Rn T e false b st d o R) : Sp S m_X3_openDeeper 14 0 0 [.ref 220] (hp I L w1 w2 t) (fun v h' => ∃ z b' w' st' d' J, v = some (.int (bI z)) ∧ h' = hp J L w1 w' t ∧ Fm sC I J ∧ Lr T e b' w' st' d' o J ∧ b ≤ b' ∧ o.length + st'.length ≤ b' ∧ (z = false → R = (false, b', [])) ∧ (z = true → ¬ opn T e b' = true ∧ Rn T e false b' st' d' o R)) nX := by
  refine Sp_of ok_X3_openDeeper rfl rfl ?_
  show AW S m_X3_openDeeper 14 _ _ 0 0 0 [some (.ref 220), none, none] [] (hp I L w1 w2 t)
  refine a_s rfl rfl ?_
  refine a_s1 rfl rfl rfl rfl rfl rfl ?_
  refine a_inv (n := 7) (fun m ls h => ∃ i b' w' st' d' J, ls = [some (.ref 220), some (.int (nI i)), none] ∧ h = hp J L w1 w' t ∧ Fm sC I J ∧ Lr T e b' w' st' d' o J ∧ b ≤ b' ∧ o.length + st'.length ≤ b' ∧ Rn T e false b' st' d' o R ∧ i ≤ 6 ∧ nI i ≤ d' ∧ m = 7 - i) ⟨0, b, w2, st, d, I, rfl, rfl, Fm.rf, h, Nat.le_refl _, hB, hR, by decide, (Rn_A hR).1, rfl⟩ ?_
  rintro m _ _ ⟨i, b', w', st', d', J, rfl, rfl, hF, hL, hbb, hB', hR', hi, hid, hm⟩ ih
  obtain ⟨r1, r2, r3, r4⟩ := Rn_A hR'
  have hb4 := Lr.be hL
  have hbe := At.le (Lr.at hL)
  have kk2 := At.wk (Lr.at hL)
  refine a_l1 rfl rfl rfl ?_
  refine a_s rfl rfl ?_
  refine a_ic_gt rfl (fun c => absurd c (Int32.not_lt.mpr (nI_leu (j := 6) hi (by decide)))) (fun _ => ?_)
  have k45 : ∀ zn : Bool, zn = isWd T e b' 21 → opn T e b' = true → AW S m_X3_openDeeper 14 (fun v h' => ∃ z b' w' st' d' J, v = some (.int (bI z)) ∧ h' = hp J L w1 w' t ∧ Fm sC I J ∧ Lr T e b' w' st' d' o J ∧ b ≤ b' ∧ o.length + st'.length ≤ b' ∧ (z = false → R = (false, b', [])) ∧ (z = true → ¬ opn T e b' = true ∧ Rn T e false b' st' d' o R)) nX 0 0 45 [some (.ref 220), some (.int (nI i)), some (.int (bI zn))] [] (hp J L w1 w' t) := by
    intro zn hzn ho
    refine a_l0 rfl rfl rfl ?_
    refine a_getiv (v := d') rfl gfX3_72_3 rfl (Lr.de hL) ?_
    refine a_s rfl rfl ?_
    refine a_ic_lt rfl (fun c6 => ?_) (fun c6 => ?_)
    rotate_left
    · refine a_s rfl rfl ?_
      exact a_zret rfl rfl rfl ⟨false, b', w', st', d', J, rfl, rfl, hF, hL, hbb, hB', fun _ => (r3 ho).1 (Int32.not_lt.mp c6), fun z => by cases z⟩
    have r5 := (r3 ho).2 (Int32.not_le.mpr c6)
    obtain ⟨k, hk, rfl⟩ := i6 r1 c6
    have hik := nI_ge_of hid (by omega) (by omega)
    have n1 : b' < nx T e b' := nx_lt (by
      unfold opn at ho
      rcases Bool.or_eq_true_iff.mp ho with z | z
      · exact isWd_lt z
      · exact sg_lt z)
    refine a_l0 rfl rfl rfl ?_
    refine a_s rfl rfl ?_
    refine a_getiv (v := nI k) rfl gfX3_72_3 rfl (Lr.de hL) ?_
    refine a_s rfl rfl ?_
    refine a_s rfl rfl ?_
    refine a_top (y := nI (k + 1)) ((nI_succ k).symm) ?_
    refine a_puti rfl pfX3_72_3 rfl ?_
    have hL1 := Lr.dp (d2 := nI (k + 1)) hL
    have hF1 : Fm sC I (up2 J 220 5 (nI (k + 1))) := Fm.up hF rfl
    have k80 : ∀ x : Int32, x = (if isWd T e b' 21 = true then 2003 else 2006) → AW S m_X3_openDeeper 14 (fun v h' => ∃ z b' w' st' d' J, v = some (.int (bI z)) ∧ h' = hp J L w1 w' t ∧ Fm sC I J ∧ Lr T e b' w' st' d' o J ∧ b ≤ b' ∧ o.length + st'.length ≤ b' ∧ (z = false → R = (false, b', [])) ∧ (z = true → ¬ opn T e b' = true ∧ Rn T e false b' st' d' o R)) nX 0 0 80 [some (.ref 220), some (.int (nI i)), some (.int (bI zn))] [.int x, .ref 220] (hp (up2 J 220 5 (nI (k + 1))) L w1 w' t) := by
      intro x hx
      refine a_eV0 rfl lX3_90 mo_X3_hold (f_hold (Lr.hd hL1) r2) rfl rfl rfl ⟨3, _, rfl, rfl, rfl⟩ rfl ?_
      have hL2 := Lr.ho (x := x) hL1
      refine a_l0 rfl rfl rfl ?_
      refine a_getq rfl gfX3_28_3 rfl (rfl) ?_
      refine a_gV rfl lX3_93 mo_X9_next (g_next hw (Lr.at hL2)) rfl rfl rfl ⟨9, _, rfl, rfl, rfl⟩ rfl (fun v' h' hv => ?_)
      obtain ⟨rfl, J3, w3, rfl, hA3, hf3⟩ := hv
      refine a_iv1 (y := nI (i + 1)) rfl rfl rfl ((nI_succ i).symm) ?_
      refine a_goto rfl ?_
      rw [← hx, ← nI_succ] at r5
      exact a_less (ih (7 - (i + 1)) _ _ (by omega) ⟨i + 1, nx T e b', w3, x :: st', nI (k + 1), J3, rfl, rfl, Fm.nx (Fm.up (Fm.up hF1 rfl) rfl) hf3, Lr.mv hL2 hA3 hf3, by omega, by simp only [List.length_cons]; omega, r5, by omega, nI_leu (by omega) (by omega), rfl⟩) ⟨rfl, rfl, trivial⟩
    refine a_l0 rfl rfl rfl ?_
    refine a_l2 rfl rfl rfl ?_
    cases zn with
    | false =>
      refine a_if_eq rfl (fun _ => ?_) (fun z => absurd rfl z)
      refine a_s rfl rfl ?_
      exact k80 2006 (by rw [← hzn]; rfl)
    | true =>
      refine a_if_eq rfl (fun z => absurd z (by decide)) (fun _ => ?_)
      refine a_s rfl rfl ?_
      refine a_goto rfl ?_
      exact k80 2003 (by rw [← hzn]; rfl)
  refine a_l0 rfl rfl rfl ?_
  refine a_getq rfl gfX3_28_3 rfl (rfl) ?_
  refine a_getr rfl gfX3_96_9 rfl ?_
  refine a_pop1 (show _ = rv w' :: _ from rfl) ?_
  refine a_gets rfl (inC4 (i := 105) rfl rfl) (hw.st (i := 21) (by decide)) ?_
  refine a_acmp_ne (rx := w') (ry := 100 + 21 + 1) rfl (kk2.ac hw) (WK.ck hw (i := 21) (by decide)) (fun c => ?_) (fun c => ?_)
  · have c1 : isWd T e b' 21 = false := Bool.eq_false_iff.mpr fun z => c ((At.wo (Lr.at hL)).trans ((wr_is (by decide)).mpr z))
    refine a_s rfl rfl ?_
    refine a_s2 rfl rfl rfl rfl rfl rfl ?_
    refine a_l2 rfl rfl rfl ?_
    refine a_if_ne rfl (fun z => absurd rfl z) (fun _ => ?_)
    refine a_l0 rfl rfl rfl ?_
    refine a_getq rfl gfX3_28_3 rfl (rfl) ?_
    refine a_s rfl rfl ?_
    refine a_eV1 rfl lX3_108 mo_X9_isSign (f_isSign (Lr.at hL)) rfl rfl rfl ⟨9, _, rfl, rfl, rfl⟩ rfl ?_
    cases c2 : sg T e b' 40 with
    | true =>
      refine a_if_ne rfl (fun _ => ?_) (fun z => absurd z (by decide))
      exact k45 false c1.symm (by unfold opn; rw [c2]; exact Bool.or_true _)
    | false =>
      refine a_if_ne rfl (fun z => absurd rfl z) (fun _ => ?_)
      refine a_s rfl rfl ?_
      exact a_zret rfl rfl rfl ⟨true, b', w', st', d', J, rfl, rfl, hF, hL, hbb, hB', fun z => (by cases z), fun _ => ⟨by unfold opn; rw [c1, c2]; decide, hR'⟩⟩
  · have c1 : isWd T e b' 21 = true := (wr_is (by decide)).mp ((At.wo (Lr.at hL)).symm.trans c)
    refine a_s rfl rfl ?_
    refine a_goto rfl ?_
    refine a_s2 rfl rfl rfl rfl rfl rfl ?_
    refine a_l2 rfl rfl rfl ?_
    refine a_if_ne rfl (fun _ => ?_) (fun z => absurd z (by decide))
    exact k45 true c1.symm (by unfold opn; rw [c1]; exact Bool.true_or _)
theorem popF_0 : ∀ (st : List Int32) (d : Int32) (o : List Int32), brk st = 0 → (popF 2005 st d o).1 = [] := by
  intro st
  induction st with
  | nil => exact fun _ _ _ => rfl
  | cons x r ih =>
    intro d o h
    by_cases c : x ≤ 2005
    · rw [show popF 2005 (x :: r) d o = popF 2005 r (if x = 2003 then d - 1 else d) (x :: o) from if_pos c]
      exact ih _ _ (by rw [brk_in c] at h; exact h)
    · rw [brk_out c] at h
      cases h
theorem ends_nil {p : List Int32 × Int32 × List Int32} (h : p.1 = []) : ends b p = (true, b, p.2.2) := by
  unfold ends
  rw [h]
theorem ends_cons {p : List Int32 × Int32 × List Int32} {x : Int32} {r : List Int32} (h : p.1 = x :: r) : ends b p = (false, b, []) := by
  unfold ends
  rw [h]
theorem f_closeDeeper (hw : WdS S) (h : Lr T e b w2 st d o I) (hB : o.length + st.length ≤ b) (hR : Rn T e true b st d o R) : Sp S m_X3_closeDeeper 15 0 0 [.ref 220] (hp I L w1 w2 t) (fun v h' => v = none ∧ ∃ b' w' st' d' o' J, h' = hp J L w1 w' t ∧ Fm sC I J ∧ Lr T e b' w' st' d' o' J ∧ b ≤ b' ∧ o'.length + st'.length ≤ b' ∧ FinB T e b' st' d' o' R) nX := by
  refine Sp_of ok_X3_closeDeeper rfl rfl ?_
  show AW S m_X3_closeDeeper 15 _ _ 0 0 0 [some (.ref 220), none] [] (hp I L w1 w2 t)
  refine a_s rfl rfl ?_
  refine a_s1 rfl rfl rfl rfl rfl rfl ?_
  refine a_inv (n := 6) (fun m ls h => ∃ i b' w' st' d' o' J, ls = [some (.ref 220), some (.int (nI i))] ∧ h = hp J L w1 w' t ∧ Fm sC I J ∧ Lr T e b' w' st' d' o' J ∧ b ≤ b' ∧ o'.length + st'.length ≤ b' ∧ Rn T e true b' st' d' o' R ∧ i + brk st' ≤ 6 ∧ m = 6 - i) ⟨0, b, w2, st, d, o, I, rfl, rfl, Fm.rf, h, Nat.le_refl _, hB, hR, by have := (Rn_B hR).1.1; omega, rfl⟩ ?_
  rintro m _ _ ⟨i, b', w', st', d', o', J, rfl, rfl, hF, hL, hbb, hB', hR', hi, hm⟩ ih
  obtain ⟨r1, r2, r3⟩ := Rn_B hR'
  have hb4 := Lr.be hL
  have hbe := At.le (Lr.at hL)
  -- none is left to be closed
  have fin0 : (popF 2005 st' d' o').1 = [] → sg T e b' 41 = true → R = (true, b', (popF 2005 st' d' o').2.2) := fun z1 z2 => (r2 z2).1 z1
  refine a_l1 rfl rfl rfl ?_
  refine a_s rfl rfl ?_
  refine a_ic_ge rfl (fun c => ?_) (fun c => ?_)
  · have h6 := nI_ge_of (b := 6) c (by omega) (by decide)
    refine a_vret rfl rfl ⟨rfl, b', w', st', d', o', J, rfl, hF, hL, hbb, hB', ?_⟩
    cases cs : sg T e b' 41 with
    | false => exact r3 cs
    | true =>
      have e0 := popF_0 st' d' o' (by omega)
      refine ⟨r1.2, fun z => ?_, fun _ z => ?_, fun _ _ => ?_⟩
      · rw [sg_wd cs] at z
        cases z
      · rw [sg_wd cs] at z
        cases z
      · rw [ends_nil e0]
        exact fin0 e0 cs
  have hi6 : i < 6 := nI_lt_of (b := 6) c (by omega) (by decide)
  refine a_l0 rfl rfl rfl ?_
  refine a_getq rfl gfX3_28_3 rfl (rfl) ?_
  refine a_s rfl rfl ?_
  refine a_eV1 rfl lX3_108 mo_X9_isSign (f_isSign (Lr.at hL)) rfl rfl rfl ⟨9, _, rfl, rfl, rfl⟩ rfl ?_
  cases cs : sg T e b' 41 with
  | false =>
    refine a_if_eq rfl (fun _ => ?_) (fun z => absurd rfl z)
    exact a_vret rfl rfl ⟨rfl, b', w', st', d', o', J, rfl, hF, hL, hbb, hB', r3 cs⟩
  | true =>
  refine a_if_eq rfl (fun z => absurd z (by decide)) (fun _ => ?_)
  have n1 := nx_lt (T := T) (sg_lt cs)
  refine a_l0 rfl rfl rfl ?_
  refine a_s rfl rfl ?_
  refine a_gV rfl lX3_87 mo_X3_emitHeld (f_emitHeld (op := 2005) hL hB' r1.2) rfl rfl rfl ⟨3, _, rfl, rfl, rfl⟩ rfl (fun v' h' hv => ?_)
  obtain ⟨rfl, K, rfl, fK, hK⟩ := hv
  have hFK : Fm sC I K := Fm.tr hF fK
  have hlen := popF_len (op := 2005) st' d' o'
  have hbrk := brk_popF st' d' o'
  have hhd := popF_hd st' d' o'
  have r2 := r2 cs
  clear fin0
  generalize popF 2005 st' d' o' = p at hK hlen hbrk hhd r2
  obtain ⟨ps, pd, po⟩ := p
  refine a_l0 rfl rfl rfl ?_
  refine a_getiv (v := nI ps.length) rfl gfX3_68_3 rfl (Lr.hd hK) ?_
  cases ps with
  | nil =>
    refine a_if_ne rfl (fun z => absurd rfl z) (fun _ => ?_)
    refine a_vret rfl rfl ⟨rfl, b', w', [], pd, po, K, rfl, hFK, hK, hbb, by have : 0 + po.length = st'.length + o'.length := hlen; show po.length + 0 ≤ b'; omega, Nat.zero_le _, fun z => ?_, fun _ z => ?_, fun _ _ => ?_⟩
    · rw [sg_wd cs] at z
      cases z
    · rw [sg_wd cs] at z
      cases z
    · exact r2.1 rfl
  | cons x r =>
    have hlen : r.length + 1 + po.length = st'.length + o'.length := hlen
    have hbrk : brk r + 1 = brk st' := (brk_out (hhd x r rfl)).symm.trans hbrk
    refine a_if_ne rfl (fun _ => ?_) (fun c => ?_)
    rotate_left
    · exfalso
      have := (nI_eq0 (a := r.length + 1) (by omega)).mp c
      omega
    refine a_l0 rfl rfl rfl ?_
    refine a_s rfl rfl ?_
    refine a_getiv (v := nI (r.length + 1)) rfl gfX3_68_3 rfl (Lr.hd hK) ?_
    refine a_s rfl rfl ?_
    refine a_s rfl rfl ?_
    refine a_top (y := nI r.length) (nI_dec r.length) ?_
    refine a_puti rfl pfX3_68_3 rfl ?_
    have hK1 := Lr.po hK
    refine a_l0 rfl rfl rfl ?_
    refine a_s rfl rfl ?_
    refine a_getiv (v := pd) rfl gfX3_72_3 rfl (Lr.de hK1) ?_
    refine a_s rfl rfl ?_
    refine a_s rfl rfl ?_
    refine a_puti rfl pfX3_72_3 rfl ?_
    have hK2 := Lr.dp (d2 := pd - 1) hK1
    refine a_l0 rfl rfl rfl ?_
    refine a_getq rfl gfX3_28_3 rfl (rfl) ?_
    refine a_gV rfl lX3_93 mo_X9_next (g_next hw (Lr.at hK2)) rfl rfl rfl ⟨9, _, rfl, rfl, rfl⟩ rfl (fun v' h' hv => ?_)
    obtain ⟨rfl, J3, w3, rfl, hA3, hf3⟩ := hv
    refine a_iv1 (y := nI (i + 1)) rfl rfl rfl ((nI_succ i).symm) ?_
    refine a_goto rfl ?_
    exact ih (6 - (i + 1)) _ _ (by omega) ⟨i + 1, nx T e b', w3, r, pd - 1, po, J3, rfl, rfl, Fm.nx (Fm.up (Fm.up hFK rfl) rfl) hf3, Lr.mv hK2 hA3 hf3, by omega, by omega, r2.2 x r rfl, by omega, rfl⟩
theorem f_readCondition (hw : WdS S) (hA : At T e b w2 I) (hc1 : I 226 1 = nI o.length) (hc2 : RowL (I 231) o) (hB : o.length ≤ b) (h0 : 0 < b) (he : e ≤ 400) : Sp S m_X3_readCondition 16 0 0 [.ref 220] (hp I L w1 w2 t) (fun v h' => v = some (.int (bI (condR T e 6 b o).1)) ∧ ∃ J w, h' = hp J L w1 w t ∧ Fm sC I J ∧ At T e (condR T e 6 b o).2.1 w J ∧ ((condR T e 6 b o).1 = true → J 226 1 = nI (condR T e 6 b o).2.2.length ∧ RowL (J 231) (condR T e 6 b o).2.2)) nX := by
  obtain ⟨z, b1, o1, ec, ef, et⟩ := cond_run (T := T) (o := o) (At.le hA)
  rw [ec]
  have hR : Rn T e false b [] 0 o (z, b1, if z = true then o1 else []) := by
    cases z with
    | false => exact ef rfl
    | true => exact et rfl
  refine Sp_of ok_X3_readCondition rfl rfl ?_
  show AW S m_X3_readCondition 16 _ _ 0 0 0 [some (.ref 220), none, none] [] (hp I L w1 w2 t)
  refine a_l0 rfl rfl rfl ?_
  refine a_s rfl rfl ?_
  refine a_puti rfl pfX3_68_3 rfl ?_
  refine a_l0 rfl rfl rfl ?_
  refine a_s rfl rfl ?_
  refine a_puti rfl pfX3_72_3 rfl ?_
  refine a_s rfl rfl ?_
  refine a_s1 rfl rfl rfl rfl rfl rfl ?_
  have hL0 : Lr T e b w2 [] 0 o (up2 (up2 I 220 4 0) 220 5 0) := ⟨At.eq hA (fun q g1 g2 => by rw [up2_row (by omega), up2_row (by omega)]), ⟨(up2_ne (Or.inr (by decide))).trans up2_at, up2_at, trivial⟩, ⟨by rw [up2_row (by decide), up2_row (by decide)]; exact hc1, by rw [up2_row (by decide), up2_row (by decide)]; exact hc2⟩, he⟩
  refine a_inv (n := e - b) (fun m ls h => ∃ i b' w' st' d' o' J, ls = [some (.ref 220), some (.int (nI i)), none] ∧ h = hp J L w1 w' t ∧ Fm sC I J ∧ Lr T e b' w' st' d' o' J ∧ o'.length + st'.length ≤ b' ∧ Rn T e false b' st' d' o' (z, b1, if z = true then o1 else []) ∧ i < b' ∧ m = e - b') ⟨0, b, w2, [], 0, o, _, rfl, rfl, Fm.up (Fm.up Fm.rf rfl) rfl, hL0, hB, hR, h0, rfl⟩ ?_
  rintro m _ _ ⟨i, b', w', st', d', o', J, rfl, rfl, hF, hL, hB', hR', hib, hm⟩ ih
  have hb4 := Lr.be hL
  refine a_l1 rfl rfl rfl ?_
  refine a_s rfl rfl ?_
  refine a_ic_ge rfl (fun c => absurd c (nI_ge (b := 400) (by omega) (by omega))) (fun _ => ?_)
  refine a_l0 rfl rfl rfl ?_
  refine a_gV rfl lX3_75 mo_X3_openDeeper (f_openDeeper hw hL hB' hR') rfl rfl rfl ⟨3, _, rfl, rfl, rfl⟩ rfl (fun v' h' hv => ?_)
  obtain ⟨z2, b2, w3, st2, d2, J2, rfl, rfl, f2, hL2, hbb2, hB2, hz0, hz1⟩ := hv
  have hF2 : Fm sC I J2 := Fm.tr hF f2
  cases z2 with
  | false =>
    refine a_if_eq rfl (fun _ => ?_) (fun z => absurd rfl z)
    have e9 := hz0 rfl
    refine a_s rfl rfl ?_
    cases z with
    | true => cases e9
    | false =>
      have e9 : b1 = b2 := congrArg (fun r : PR => r.2.1) e9
      subst e9
      exact a_zret rfl rfl rfl ⟨rfl, J2, w3, rfl, hF2, Lr.at hL2, fun z => by cases z⟩
  | true =>
  refine a_if_eq rfl (fun z => absurd z (by decide)) (fun _ => ?_)
  obtain ⟨hno, hR2⟩ := hz1 rfl
  obtain ⟨-, -, -, r4⟩ := Rn_A hR2
  have r4 := r4 hno
  have g0 := baseP_gd (T := T) (o := o') (At.le (Lr.at hL2))
  refine a_l0 rfl rfl rfl ?_
  refine a_gV rfl lX3_78 mo_X3_readAtom (f_readAtom hw hL2 hB2) rfl rfl rfl ⟨3, _, rfl, rfl, rfl⟩ rfl (fun v' h' hv => ?_)
  obtain ⟨rfl, J3, w4, rfl, f3, hA3, hz3⟩ := hv
  have hF3 : Fm sC I J3 := Fm.tr hF2 f3
  generalize baseP T e b2 o' = r at r4 g0 hA3 hz3
  obtain ⟨zr, b3, o3⟩ := r
  cases zr with
  | false =>
    refine a_if_ne rfl (fun z => absurd rfl z) (fun _ => ?_)
    have e9 := r4.2 Bool.false_ne_true
    refine a_s rfl rfl ?_
    cases z with
    | true => cases e9
    | false =>
      have e9 : b1 = b3 := congrArg (fun r : PR => r.2.1) e9
      subst e9
      exact a_zret rfl rfl rfl ⟨rfl, J3, w4, rfl, hF3, hA3, fun z => by cases z⟩
  | true =>
  refine a_if_ne rfl (fun _ => ?_) (fun z => absurd (show (1 : Int32) = 0 from z) (by decide))
  have h3 : Lr T e b3 w4 st2 d2 o3 J3 := hz3 rfl
  obtain ⟨g1, g2, g3⟩ := g0
  have g3 : b2 < b3 ∧ o3.length + b2 ≤ o'.length + b3 := g3 rfl
  have hR3 := r4.1 rfl
  refine a_l0 rfl rfl rfl ?_
  refine a_gV rfl lX3_81 mo_X3_closeDeeper (f_closeDeeper hw h3 (by omega) hR3) rfl rfl rfl ⟨3, _, rfl, rfl, rfl⟩ rfl (fun v' h' hv => ?_)
  obtain ⟨rfl, b4, w5, st4, d4, o4, J4, rfl, f4, hL4, hbb4, hB4, hfin⟩ := hv
  have hF4 : Fm sC I J4 := Fm.tr hF3 f4
  refine a_l0 rfl rfl rfl ?_
  refine a_eV1 rfl lX3_84 mo_X3_joinAtHand (f_joinAtHand hw (Lr.at hL4)) rfl rfl rfl ⟨3, _, rfl, rfl, rfl⟩ rfl ?_
  have hbe4 := At.le (Lr.at hL4)
  have hb44 := Lr.be hL4
  -- a join
  have k69 : ∀ x : Int32, b4 < nx T e b4 → Rn T e false (nx T e b4) (x :: (popF x st4 d4 o4).1) (popF x st4 d4 o4).2.1 (popF x st4 d4 o4).2.2 (z, b1, if z = true then o1 else []) → AW S m_X3_readCondition 16 (fun v h' => v = some (.int (bI (z, b1, o1).1)) ∧ ∃ J w, h' = hp J L w1 w t ∧ Fm sC I J ∧ At T e (z, b1, o1).2.1 w J ∧ ((z, b1, o1).1 = true → J 226 1 = nI (z, b1, o1).2.2.length ∧ RowL (J 231) (z, b1, o1).2.2)) nX 0 0 69 [some (.ref 220), some (.int (nI i)), some (.int x)] [] (hp J4 L w1 w5 t) := by
    intro x hn hRx
    refine a_l0 rfl rfl rfl ?_
    refine a_l2 rfl rfl rfl ?_
    refine a_gV rfl lX3_87 mo_X3_emitHeld (f_emitHeld (op := x) hL4 hB4 hfin.1) rfl rfl rfl ⟨3, _, rfl, rfl, rfl⟩ rfl (fun v' h' hv => ?_)
    obtain ⟨rfl, K, rfl, fK, hK⟩ := hv
    have hlen := popF_len (op := x) st4 d4 o4
    have hl32 := (Rn_A hRx).2.1
    have hl32 : (popF x st4 d4 o4).1.length + 1 < 32 := hl32
    refine a_l0 rfl rfl rfl ?_
    refine a_l2 rfl rfl rfl ?_
    refine a_eV0 rfl lX3_90 mo_X3_hold (f_hold (Lr.hd hK) (by omega)) rfl rfl rfl ⟨3, _, rfl, rfl, rfl⟩ rfl ?_
    have hK1 := Lr.ho (x := x) hK
    refine a_l0 rfl rfl rfl ?_
    refine a_getq rfl gfX3_28_3 rfl (rfl) ?_
    refine a_gV rfl lX3_93 mo_X9_next (g_next hw (Lr.at hK1)) rfl rfl rfl ⟨9, _, rfl, rfl, rfl⟩ rfl (fun v' h' hv => ?_)
    obtain ⟨rfl, J6, w6, rfl, hA6, hf6⟩ := hv
    refine a_iv1 (y := nI (i + 1)) rfl rfl rfl ((nI_succ i).symm) ?_
    refine a_goto rfl ?_
    have hn6 := nx_le (T := T) hbe4
    exact a_less (ih (e - nx T e b4) _ _ (by omega) ⟨i + 1, nx T e b4, w6, x :: (popF x st4 d4 o4).1, (popF x st4 d4 o4).2.1, (popF x st4 d4 o4).2.2, J6, rfl, rfl, Fm.nx (Fm.up (Fm.up (Fm.tr hF4 fK) rfl) rfl) hf6, Lr.mv hK1 hA6 hf6, by simp only [List.length_cons]; omega, hRx, by omega, rfl⟩) ⟨rfl, rfl, trivial⟩
  cases c20 : isWd T e b4 20 with
  | true =>
    refine a_top (y := 2004) (if_pos c20) ?_
    refine a_s2 rfl rfl rfl rfl rfl rfl ?_
    refine a_l2 rfl rfl rfl ?_
    refine a_s rfl rfl ?_
    refine a_ic_ne rfl (fun _ => ?_) (fun c => absurd c (by decide))
    exact k69 2004 (nx_lt (isWd_lt c20)) (hfin.2.1 c20)
  | false =>
  cases c19 : isWd T e b4 19 with
  | true =>
    refine a_top (y := 2005) ((if_neg (by rw [c20]; decide)).trans (if_pos c19)) ?_
    refine a_s2 rfl rfl rfl rfl rfl rfl ?_
    refine a_l2 rfl rfl rfl ?_
    refine a_s rfl rfl ?_
    refine a_ic_ne rfl (fun _ => ?_) (fun c => absurd c (by decide))
    exact k69 2005 (nx_lt (isWd_lt c19)) (hfin.2.2.1 c20 c19)
  | false =>
    refine a_top (y := (-1)) ((if_neg (by rw [c20]; decide)).trans (if_neg (by rw [c19]; decide))) ?_
    refine a_s2 rfl rfl rfl rfl rfl rfl ?_
    refine a_l2 rfl rfl rfl ?_
    refine a_s rfl rfl ?_
    refine a_ic_ne rfl (fun c => absurd rfl c) (fun _ => ?_)
    have hE := hfin.2.2.2 c20 c19
    refine a_l0 rfl rfl rfl ?_
    refine a_s rfl rfl ?_
    refine a_gV rfl lX3_87 mo_X3_emitHeld (f_emitHeld (op := 2005) hL4 hB4 hfin.1) rfl rfl rfl ⟨3, _, rfl, rfl, rfl⟩ rfl (fun v' h' hv => ?_)
    obtain ⟨rfl, K, rfl, fK, hK⟩ := hv
    have hFK : Fm sC I K := Fm.tr hF4 fK
    have hlen := popF_len (op := 2005) st4 d4 o4
    generalize popF 2005 st4 d4 o4 = p at hK hE hlen
    obtain ⟨ps, pd, po⟩ := p
    refine a_l0 rfl rfl rfl ?_
    refine a_getiv (v := nI ps.length) rfl gfX3_68_3 rfl (Lr.hd hK) ?_
    cases ps with
    | nil =>
      refine a_if_ne rfl (fun z => absurd rfl z) (fun _ => ?_)
      refine a_s rfl rfl ?_
      refine a_goto rfl ?_
      have hE : (z, b1, if z = true then o1 else []) = (true, b4, po) := hE
      cases z with
      | false => cases hE
      | true =>
        have e1 : b1 = b4 := congrArg (fun r : PR => r.2.1) hE
        have e2 : o1 = po := congrArg (fun r : PR => r.2.2) hE
        subst e1
        subst e2
        exact a_zret rfl rfl rfl ⟨rfl, K, w5, rfl, hFK, Lr.at hK, fun _ => ⟨Lr.cl hK, Lr.co hK⟩⟩
    | cons x r =>
      have hlen : r.length + 1 + po.length = st4.length + o4.length := hlen
      refine a_if_ne rfl (fun _ => ?_) (fun c => ?_)
      · refine a_s rfl rfl ?_
        have hE : (z, b1, if z = true then o1 else []) = (false, b4, []) := hE
        cases z with
        | true => cases hE
        | false =>
          have e1 : b1 = b4 := congrArg (fun r : PR => r.2.1) hE
          subst e1
          exact a_zret rfl rfl rfl ⟨rfl, K, w5, rfl, hFK, Lr.at hK, fun z => by cases z⟩
      · exfalso
        have := (nI_eq0 (a := r.length + 1) (by omega)).mp c
        omega
end T79e
end
section
/-! ===== the class's reader of laws: a line, all lines, a law ===== -/
section T79f
variable {S : aS} {I : Nat → Nat → Int32} {L : Nat → Nat → Int64} {w1 w2 t : Nat} {e b : Nat} {T : Nat → Int32} {o : List Int32} {ls : List LnT}
set_option maxRecDepth 100000
theorem f_takeKind (hw : WdS S) (h : At T e b w2 I) : Sp S m_X3_takeKind 15 0 0 [.ref 220] (hp I L w1 w2 t) (fun v h' => v = some (.int (kndP T e b)) ∧ ∃ J w, h' = hp J L w1 w t ∧ At T e (if kndP T e b = -1 then b else nx T e b) w J ∧ ∀ q, q ≠ 221 → J q = I q) nX := by
  refine Sp_of ok_X3_takeKind rfl rfl ?_
  show AW S m_X3_takeKind 15 _ _ 0 0 0 [some (.ref 220)] [] (hp I L w1 w2 t)
  refine a_l0 rfl rfl rfl ?_
  refine a_getq rfl gfX3_28_3 rfl (rfl) ?_
  refine a_gets rfl (inC4 (i := 77) rfl rfl) (hw.st (i := 15) (by decide)) ?_
  refine a_gV rfl lX3_48 mo_X9_takeWord (f_takeWord (k := 15) hw h (by decide)) rfl rfl rfl ⟨9, _, rfl, rfl, rfl⟩ rfl (fun v' h' hv => ?_)
  obtain ⟨rfl, J1, wa, rfl, hA1, hf1⟩ := hv
  cases c1 : isWd T e b 15 with
  | true =>
    refine a_if_eq rfl (fun z => absurd z (by decide)) (fun _ => ?_)
    rw [c1, if_pos rfl] at hA1
    have ek : kndP T e b = 0 := if_pos c1
    rw [ek, if_neg (by decide)]
    refine a_s rfl rfl ?_
    exact a_iret rfl rfl ⟨rfl, J1, wa, rfl, hA1, hf1⟩
  | false =>
  refine a_if_eq rfl (fun _ => ?_) (fun z => absurd rfl z)
  rw [c1, if_neg (by decide)] at hA1
  refine a_l0 rfl rfl rfl ?_
  refine a_getq rfl gfX3_28_3 rfl (rfl) ?_
  refine a_gets rfl (inC4 (i := 83) rfl rfl) (hw.st (i := 16) (by decide)) ?_
  refine a_gV rfl lX3_48 mo_X9_takeWord (f_takeWord (k := 16) hw hA1 (by decide)) rfl rfl rfl ⟨9, _, rfl, rfl, rfl⟩ rfl (fun v' h' hv => ?_)
  obtain ⟨rfl, J2, wb, rfl, hA2, hf2⟩ := hv
  cases c2 : isWd T e b 16 with
  | true =>
    refine a_if_eq rfl (fun z => absurd z (by decide)) (fun _ => ?_)
    rw [c2, if_pos rfl] at hA2
    have ek : kndP T e b = 1 := (if_neg (by rw [c1]; decide)).trans (if_pos c2)
    rw [ek, if_neg (by decide)]
    refine a_s rfl rfl ?_
    exact a_iret rfl rfl ⟨rfl, J2, wb, rfl, hA2, fun q hq => (hf2 q hq).trans (hf1 q hq)⟩
  | false =>
  refine a_if_eq rfl (fun _ => ?_) (fun z => absurd rfl z)
  rw [c2, if_neg (by decide)] at hA2
  refine a_l0 rfl rfl rfl ?_
  refine a_getq rfl gfX3_28_3 rfl (rfl) ?_
  refine a_gets rfl (inC4 (i := 85) rfl rfl) (hw.st (i := 17) (by decide)) ?_
  refine a_gV rfl lX3_48 mo_X9_takeWord (f_takeWord (k := 17) hw hA2 (by decide)) rfl rfl rfl ⟨9, _, rfl, rfl, rfl⟩ rfl (fun v' h' hv => ?_)
  obtain ⟨rfl, J3, wc, rfl, hA3, hf3⟩ := hv
  have hf : ∀ q, q ≠ 221 → J3 q = I q := fun q hq => (hf3 q hq).trans ((hf2 q hq).trans (hf1 q hq))
  cases c3 : isWd T e b 17 with
  | true =>
    refine a_if_eq rfl (fun z => absurd z (by decide)) (fun _ => ?_)
    rw [c3, if_pos rfl] at hA3
    have ek : kndP T e b = 2 := (if_neg (by rw [c1]; decide)).trans ((if_neg (by rw [c2]; decide)).trans (if_pos c3))
    rw [ek, if_neg (by decide)]
    refine a_s rfl rfl ?_
    refine a_goto rfl ?_
    exact a_iret rfl rfl ⟨rfl, J3, wc, rfl, hA3, hf⟩
  | false =>
    refine a_if_eq rfl (fun _ => ?_) (fun z => absurd rfl z)
    rw [c3, if_neg (by decide)] at hA3
    have ek : kndP T e b = -1 := (if_neg (by rw [c1]; decide)).trans ((if_neg (by rw [c2]; decide)).trans (if_neg (by rw [c3]; decide)))
    rw [ek, if_pos rfl]
    refine a_s rfl rfl ?_
    exact a_iret rfl rfl ⟨rfl, J3, wc, rfl, hA3, hf⟩
theorem f_openLine {k n : Nat} (h0 : I 226 0 = nI k) (hk : k < 12) (h1 : I 226 1 = nI n) {x y : Int32} : SpE S m_X2_openLine 13 [.ref 226, .int x, .int y] (hp I L w1 w2 t) none (hp (up2 (up2 (up2 I 227 k x) 228 k y) 229 k (nI n)) L w1 w2 t) := by
  refine SpE_of ok_X2_openLine rfl rfl ?_
  show AW S m_X2_openLine 13 _ _ 0 0 0 [some (.ref 226), some (.int x), some (.int y)] [] (hp I L w1 w2 t)
  refine a_l0 rfl rfl rfl ?_
  refine a_getq rfl gfX2_15_2 rfl (rfl) ?_
  refine a_l0 rfl rfl rfl ?_
  refine a_getiv (v := nI k) rfl gfX2_11_2 rfl (h0) ?_
  refine a_l1 rfl rfl rfl ?_
  refine a_eSN0 rfl lX2_44 mo_X11_setAt (sp_X11_setAt rfl) rfl rfl rfl rfl ?_
  rw [setF_nI hk (by decide)]
  refine a_l0 rfl rfl rfl ?_
  refine a_getq rfl gfX2_19_2 rfl (rfl) ?_
  refine a_l0 rfl rfl rfl ?_
  refine a_getiv (v := nI k) rfl gfX2_11_2 rfl ((congrFun (up2_row (by decide)) 0).trans h0) ?_
  refine a_l2 rfl rfl rfl ?_
  refine a_eSN0 rfl lX2_44 mo_X11_setAt (sp_X11_setAt rfl) rfl rfl rfl rfl ?_
  rw [setF_nI hk (by decide)]
  refine a_l0 rfl rfl rfl ?_
  refine a_getq rfl gfX2_22_2 rfl (rfl) ?_
  refine a_l0 rfl rfl rfl ?_
  refine a_getiv (v := nI k) rfl gfX2_11_2 rfl ((congrFun (up2_row (by decide)) 0).trans ((congrFun (up2_row (by decide)) 0).trans h0)) ?_
  refine a_l0 rfl rfl rfl ?_
  refine a_getiv (v := nI n) rfl gfX2_41_2 rfl ((congrFun (up2_row (by decide)) 1).trans ((congrFun (up2_row (by decide)) 1).trans h1)) ?_
  refine a_eSN0 rfl lX2_44 mo_X11_setAt (sp_X11_setAt rfl) rfl rfl rfl rfl ?_
  rw [setF_nI hk (by decide)]
  exact a_vret rfl rfl ⟨rfl, rfl⟩
theorem f_closeLine {k n : Nat} (h0 : I 226 0 = nI k) (hk : k < 12) (h1 : I 226 1 = nI n) : SpE S m_X2_closeLine 13 [.ref 226] (hp I L w1 w2 t) none (hp (up2 (up2 I 230 k (nI n)) 226 0 (nI (k + 1))) L w1 w2 t) := by
  refine SpE_of ok_X2_closeLine rfl rfl ?_
  show AW S m_X2_closeLine 13 _ _ 0 0 0 [some (.ref 226)] [] (hp I L w1 w2 t)
  refine a_l0 rfl rfl rfl ?_
  refine a_getq rfl gfX2_25_2 rfl (rfl) ?_
  refine a_l0 rfl rfl rfl ?_
  refine a_getiv (v := nI k) rfl gfX2_11_2 rfl (h0) ?_
  refine a_l0 rfl rfl rfl ?_
  refine a_getiv (v := nI n) rfl gfX2_41_2 rfl (h1) ?_
  refine a_eSN0 rfl lX2_44 mo_X11_setAt (sp_X11_setAt rfl) rfl rfl rfl rfl ?_
  rw [setF_nI hk (by decide)]
  refine a_l0 rfl rfl rfl ?_
  refine a_s rfl rfl ?_
  refine a_getiv (v := nI k) rfl gfX2_11_2 rfl ((congrFun (up2_row (by decide)) 0).trans h0) ?_
  refine a_s rfl rfl ?_
  refine a_s rfl rfl ?_
  refine a_top (y := nI (k + 1)) ((nI_succ k).symm) ?_
  refine a_puti rfl pfX2_11_2 rfl ?_
  exact a_vret rfl rfl ⟨rfl, rfl⟩
/-- what a law's lines may change -/
def sW (q k : Nat) : Bool := sC q k || ((Nat.ble 227 q && Nat.ble q 230) || ((Nat.ble 222 q && Nat.ble q 225) || (Nat.beq q 226 && Nat.beq k 0)))
theorem sC_sW : ∀ q k, sC q k = true → sW q k = true := fun q k h => by
  unfold sW
  rw [h]
  rfl
/-- the draft of a law, lines and codes so far -/
def Ld (T : Nat → Int32) (e b w : Nat) (o : List Int32) (ls : List LnT) (J : Nat → Nat → Int32) : Prop := At T e b w J ∧ J 226 1 = nI o.length ∧ RowL (J 231) o ∧ J 226 0 = nI ls.length ∧ LnL (J 227) (J 228) (J 229) (J 230) ls ∧ o.length ≤ b ∧ e ≤ 400
theorem f_readLine (hw : WdS S) (h : Ld T e b w2 o ls I) (h12 : ls.length < 12) : Sp S m_X3_readLine 17 0 0 [.ref 220] (hp I L w1 w2 t) (fun v h' => v = some (.int (bI (lnP T e b o).1)) ∧ ∃ J w, h' = hp J L w1 w t ∧ Fm sW I J ∧ At T e (lnP T e b o).2.1 w J ∧ ((lnP T e b o).1 = true → Ld T e (lnP T e b o).2.1 w (lnP T e b o).2.2 (lnV T e b o (lnP T e b o).2.2 :: ls) J)) nX := by
  obtain ⟨hA, l1, l2, l3, l4, l5, l6⟩ := h
  have hbe := At.le hA
  have gd := lnP_gd (T := T) (o := o) hbe
  refine Sp_of ok_X3_readLine rfl rfl ?_
  show AW S m_X3_readLine 17 _ _ 0 0 0 [some (.ref 220), none, none] [] (hp I L w1 w2 t)
  have fmx : ∀ {J J' : Nat → Nat → Int32}, Fm sW I J → (∀ q, q ≠ 221 → J' q = J q) → Fm sW I J' := fun {J J'} h f q k hq => by
    rw [f q (by intro z; subst z; cases hq)]
    exact h q k hq
  refine a_l0 rfl rfl rfl ?_
  refine a_gV rfl lX3_24 mo_X3_takeKind (f_takeKind hw hA) rfl rfl rfl ⟨3, _, rfl, rfl, rfl⟩ rfl (fun v' h' hv => ?_)
  obtain ⟨rfl, J1, wa, rfl, hA1, hf1⟩ := hv
  have hF1 : Fm sW I J1 := fmx Fm.rf hf1
  refine a_s1 rfl rfl rfl rfl rfl rfl ?_
  refine a_l1 rfl rfl rfl ?_
  refine a_s rfl rfl ?_
  refine a_ic_ne rfl (fun c1 => ?_) (fun c1 => ?_)
  rotate_left
  · have el : lnP T e b o = (false, b, []) := if_pos c1
    rw [c1, if_pos rfl] at hA1
    rw [el]
    refine a_s rfl rfl ?_
    exact a_zret rfl rfl rfl ⟨rfl, J1, wa, rfl, hF1, hA1, fun z => by cases z⟩
  rw [if_neg c1] at hA1
  have n1 := nx_lt (T := T) (knd_lt c1)
  refine a_l0 rfl rfl rfl ?_
  refine a_getq rfl gfX3_28_3 rfl (rfl) ?_
  refine a_s rfl rfl ?_
  refine a_s rfl rfl ?_
  refine a_gV rfl lX3_32 mo_X9_takeNumber (f_takeNumber (lo := 0) (hi := 60) hw hA1 (by decide)) rfl rfl rfl ⟨9, _, rfl, rfl, rfl⟩ rfl (fun v' h' hv => ?_)
  obtain ⟨rfl, J2, wb, rfl, hA2, hf2⟩ := hv
  have hF2 : Fm sW I J2 := fmx hF1 hf2
  refine a_s2 rfl rfl rfl rfl rfl rfl ?_
  refine a_l2 rfl rfl rfl ?_
  refine a_s rfl rfl ?_
  refine a_ic_ne rfl (fun c2 => ?_) (fun c2 => ?_)
  rotate_left
  · have el : lnP T e b o = (false, nx T e b, []) := (if_neg c1).trans (if_pos c2)
    rw [c2, if_pos rfl] at hA2
    rw [el]
    refine a_s rfl rfl ?_
    exact a_zret rfl rfl rfl ⟨rfl, J2, wb, rfl, hF2, hA2, fun z => by cases z⟩
  rw [if_neg c2] at hA2
  have n2 := nx_lt (T := T) (nm_lt c2)
  have f12 : ∀ q, q ≠ 221 → J2 q = I q := fun q hq => (hf2 q hq).trans (hf1 q hq)
  refine a_l0 rfl rfl rfl ?_
  refine a_getq rfl gfX3_14_3 rfl (rfl) ?_
  refine a_l1 rfl rfl rfl ?_
  refine a_l2 rfl rfl rfl ?_
  refine a_eV0 rfl lX3_38 mo_X2_openLine (f_openLine ((congrFun (f12 226 (by decide)) 0).trans l3) h12 ((congrFun (f12 226 (by decide)) 1).trans l1)) rfl rfl rfl ⟨2, _, rfl, rfl, rfl⟩ rfl ?_
  refine a_ren (P := fun J => Fm sW I J ∧ At T e (nx T e (nx T e b)) wb J ∧ J 226 1 = nI o.length ∧ RowL (J 231) o ∧ J 226 0 = nI ls.length ∧ J 227 ls.length = kndP T e b ∧ J 228 ls.length = nm T e (nx T e b) 0 60 ∧ J 229 ls.length = nI o.length ∧ LnL (J 227) (J 228) (J 229) (J 230) ls) ⟨Fm.up (Fm.up (Fm.up hF2 rfl) rfl) rfl, At.eq hA2 (fun q g1 g2 => by rw [up2_row (by omega), up2_row (by omega), up2_row (by omega)]), ?_, ?_, ?_, ?_, ?_, ?_, ?_⟩ (fun J3 hJ3 => ?_)
  · rw [up2_row (by decide), up2_row (by decide), up2_row (by decide), f12 226 (by decide)]
    exact l1
  · rw [up2_row (by decide), up2_row (by decide), up2_row (by decide), f12 231 (by decide)]
    exact l2
  · rw [up2_row (by decide), up2_row (by decide), up2_row (by decide), f12 226 (by decide)]
    exact l3
  · rw [up2_row (by decide), up2_row (by decide)]
    exact up2_at
  · rw [up2_row (by decide)]
    exact up2_at
  · exact up2_at
  · refine LnL.eq l4 (fun i hi => ⟨?_, ?_, ?_, ?_⟩)
    · rw [up2_row (by decide), up2_row (by decide), up2_ne (Or.inr (by omega)), f12 227 (by decide)]
    · rw [up2_row (by decide), up2_ne (Or.inr (by omega)), up2_row (by decide), f12 228 (by decide)]
    · rw [up2_ne (Or.inr (by omega)), up2_row (by decide), up2_row (by decide), f12 229 (by decide)]
    · rw [up2_row (by decide), up2_row (by decide), up2_row (by decide), f12 230 (by decide)]
  obtain ⟨hF3, hA3, m1, m2, m3, m4, m5, m6, m7⟩ := hJ3
  -- the line is closed
  have k61 : ∀ (b1 : Nat) (o1 : List Int32) (J : Nat → Nat → Int32) (w : Nat), lnP T e b o = (true, b1, o1) → Fm sW I J → At T e b1 w J → J 226 1 = nI o1.length → RowL (J 231) o1 → J 226 0 = nI ls.length → (∀ q, 227 ≤ q → q ≤ 230 → J q = J3 q) → AW S m_X3_readLine 17 (fun v h' => v = some (.int (bI (lnP T e b o).1)) ∧ ∃ J w, h' = hp J L w1 w t ∧ Fm sW I J ∧ At T e (lnP T e b o).2.1 w J ∧ ((lnP T e b o).1 = true → Ld T e (lnP T e b o).2.1 w (lnP T e b o).2.2 (lnV T e b o (lnP T e b o).2.2 :: ls) J)) nX 0 0 61 [some (.ref 220), some (.int (kndP T e b)), some (.int (nm T e (nx T e b) 0 60))] [] (hp J L w1 w t) := by
    intro b1 o1 J w el hF hAb p1 p2 p3 p4
    rw [el] at gd ⊢
    obtain ⟨-, g2, g3⟩ := gd
    have g3 : b < b1 ∧ o1.length + b ≤ o.length + b1 := g3 rfl
    refine a_l0 rfl rfl rfl ?_
    refine a_getq rfl gfX3_14_3 rfl (rfl) ?_
    refine a_eV0 rfl lX3_56 mo_X2_closeLine (f_closeLine p3 h12 p1) rfl rfl rfl ⟨2, _, rfl, rfl, rfl⟩ rfl ?_
    refine a_s rfl rfl ?_
    refine a_zret rfl rfl rfl ⟨rfl, _, w, rfl, Fm.up (Fm.up hF rfl) rfl, At.eq hAb (fun q g1 g2 => by rw [up2_row (by omega), up2_row (by omega)]), fun _ => ⟨At.eq hAb (fun q g1 g2 => by rw [up2_row (by omega), up2_row (by omega)]), ?_, ?_, up2_at, ⟨⟨?_, ?_, ?_, ?_⟩, ?_⟩, by show o1.length ≤ b1; omega, l6⟩⟩
    · rw [up2_ne (Or.inr (by decide)), up2_row (by decide)]
      exact p1
    · rw [up2_row (by decide), up2_row (by decide)]
      exact p2
    · rw [up2_row (by decide), up2_row (by decide), p4 227 (by decide) (by decide)]
      exact m4
    · rw [up2_row (by decide), up2_row (by decide), p4 228 (by decide) (by decide)]
      exact m5
    · rw [up2_row (by decide), up2_row (by decide), p4 229 (by decide) (by decide)]
      exact m6
    · rw [up2_row (by decide)]
      exact up2_at
    · refine LnL.eq m7 (fun i hi => ⟨?_, ?_, ?_, ?_⟩)
      · rw [up2_row (by decide), up2_row (by decide), p4 227 (by decide) (by decide)]
      · rw [up2_row (by decide), up2_row (by decide), p4 228 (by decide) (by decide)]
      · rw [up2_row (by decide), up2_row (by decide), p4 229 (by decide) (by decide)]
      · rw [up2_row (by decide), up2_ne (Or.inr (by omega)), p4 230 (by decide) (by decide)]
  refine a_l0 rfl rfl rfl ?_
  refine a_getq rfl gfX3_28_3 rfl (rfl) ?_
  refine a_gets rfl (inC4 (i := 95) rfl rfl) (hw.st (i := 18) (by decide)) ?_
  refine a_gV rfl lX3_48 mo_X9_takeWord (f_takeWord (k := 18) hw hA3 (by decide)) rfl rfl rfl ⟨9, _, rfl, rfl, rfl⟩ rfl (fun v' h' hv => ?_)
  obtain ⟨rfl, J4, wd4, rfl, hA4, hf4⟩ := hv
  have hF4 : Fm sW I J4 := fmx hF3 hf4
  have q1 : J4 226 1 = nI o.length := (congrFun (hf4 226 (by decide)) 1).trans m1
  have q2 : RowL (J4 231) o := by
    rw [hf4 231 (by decide)]
    exact m2
  have q3 : J4 226 0 = nI ls.length := (congrFun (hf4 226 (by decide)) 0).trans m3
  have n2e := nx_le (T := T) (nx_le (T := T) hbe)
  cases c3 : isWd T e (nx T e (nx T e b)) 18 with
  | false =>
    refine a_if_eq rfl (fun _ => ?_) (fun z => absurd rfl z)
    rw [c3, if_neg (by decide)] at hA4
    exact k61 _ _ J4 wd4 ((if_neg c1).trans ((if_neg c2).trans (if_neg (by rw [c3]; decide)))) hF4 hA4 q1 q2 q3 (fun q g1 g2 => hf4 q (by omega))
  | true =>
    refine a_if_eq rfl (fun z => absurd z (by decide)) (fun _ => ?_)
    rw [c3, if_pos rfl] at hA4
    have n3 := nx_lt (T := T) (isWd_lt c3)
    have el : lnP T e b o = condR T e 6 (nx T e (nx T e (nx T e b))) o := (if_neg c1).trans ((if_neg c2).trans (if_pos c3))
    refine a_l0 rfl rfl rfl ?_
    refine a_gV rfl lX3_52 mo_X3_readCondition (f_readCondition hw hA4 q1 q2 (by omega) (by omega) l6) rfl rfl rfl ⟨3, _, rfl, rfl, rfl⟩ rfl (fun v' h' hv => ?_)
    obtain ⟨rfl, J5, w5, rfl, f5, hA5, hz5⟩ := hv
    have hF5 : Fm sW I J5 := Fm.tr hF4 (Fm.mo f5 sC_sW)
    rw [← el] at hA5 hz5 ⊢
    rcases er : lnP T e b o with ⟨z, b1, o1⟩
    rw [er] at hA5 hz5
    cases z with
    | false =>
      refine a_if_ne rfl (fun z => absurd rfl z) (fun _ => ?_)
      refine a_s rfl rfl ?_
      exact a_zret rfl rfl rfl ⟨rfl, J5, w5, rfl, hF5, hA5, fun z => by cases z⟩
    | true =>
      refine a_if_ne rfl (fun _ => ?_) (fun z => absurd (show (1 : Int32) = 0 from z) (by decide))
      obtain ⟨y1, y2⟩ := hz5 rfl
      rw [er] at k61
      exact k61 b1 o1 J5 w5 rfl hF5 hA5 y1 y2 ((f5 226 0 rfl).trans q3) (fun q g1 g2 => by
        have e1 : Nat.beq q 221 = false := beqF (by omega)
        have e2 : Nat.beq q 234 = false := beqF (by omega)
        have e3 : Nat.beq q 231 = false := beqF (by omega)
        have e4 : Nat.beq q 220 = false := beqF (by omega)
        have e5 : Nat.beq q 226 = false := beqF (by omega)
        rw [show J5 q = J4 q from funext fun k => f5 q k (by simp [sC, e1, e2, e3, e4, e5]), hf4 q (by omega)])
/-- what is known behind the lines of a law -/
def LwD (r : LRs) (J : Nat → Nat → Int32) : Prop := J 226 1 = nI r.2.2.1.length ∧ RowL (J 231) r.2.2.1 ∧ J 226 0 = nI r.2.2.2.length ∧ LnL (J 227) (J 228) (J 229) (J 230) r.2.2.2 ∧ r.2.2.2.length ≤ 12 ∧ r.2.2.1.length ≤ 400
theorem f_readLines (hw : WdS S) (he : I 201 1 = nI e) (h4 : e ≤ 400) (hbt : BtT (I 202)) (hm0 : I 220 1 = 12) (h0 : I 226 0 = 0) (h1 : I 226 1 = 0) : Sp S m_X8_readLines 20 0 0 [.ref 220, .ref 201] (hp I L w1 w2 t) (fun v h' => v = some (.int (if (lawP (I 202) e).1 = true then -1 else nI (lawP (I 202) e).2.1)) ∧ ∃ J w, h' = hp J L w1 w t ∧ WK w ∧ Fm sW I J ∧ ((lawP (I 202) e).1 = true → LwD (lawP (I 202) e) J)) nX := by
  refine Sp_of ok_X8_readLines rfl rfl ?_
  show AW S m_X8_readLines 20 _ _ 0 0 0 [some (.ref 220), some (.ref 201), none] [] (hp I L w1 w2 t)
  generalize hT : I 202 = T at hbt ⊢
  refine a_l0 rfl rfl rfl ?_
  refine a_getq rfl gfX8_12_3 rfl (rfl) ?_
  refine a_l1 rfl rfl rfl ?_
  refine a_gV rfl lX8_22 mo_X9_scan (f_scan hw he h4 (by rw [hT]; exact hbt)) rfl rfl rfl ⟨9, _, rfl, rfl, rfl⟩ rfl (fun v' h' hv => ?_)
  obtain ⟨rfl, J1, wa, rfl, hA1, hf1⟩ := hv
  rw [hT] at hA1
  have hF1 : Fm sW I J1 := fun q k hq => by
    by_cases c : 221 ≤ q ∧ q ≤ 225
    · exfalso
      rcases Nat.eq_or_lt_of_le c.1 with z | z
      · subst z
        cases hq
      · unfold sW at hq
        rw [Nat.ble_eq_true_of_le (show 222 ≤ q from z), Nat.ble_eq_true_of_le c.2] at hq
        simp at hq
    · rw [hf1 q c]
  have hL1 : Ld T e (bg T e 0) wa [] [] J1 := ⟨hA1, (congrFun (hf1 226 (by omega)) 1).trans (h1.trans nI_0.symm), trivial, (congrFun (hf1 226 (by omega)) 0).trans (h0.trans nI_0.symm), trivial, Nat.zero_le _, h4⟩
  refine a_l0 rfl rfl rfl ?_
  refine a_getq rfl gfX8_12_3 rfl (rfl) ?_
  refine a_eV1 rfl lX8_26 mo_X9_isEnd (f_isEnd hA1) rfl rfl rfl ⟨9, _, rfl, rfl, rfl⟩ rfl ?_
  by_cases c0 : bg T e 0 < e
  rotate_left
  · rw [show decide (¬ bg T e 0 < e) = true from decide_eq_true c0]
    refine a_if_eq rfl (fun z => absurd z (by decide)) (fun _ => ?_)
    have el : lawP T e = (true, bg T e 0, [], []) := if_neg c0
    rw [el, if_pos rfl]
    refine a_s rfl rfl ?_
    exact a_iret rfl rfl ⟨rfl, J1, wa, rfl, At.wk hA1, hF1, fun _ => ⟨hL1.2.1, trivial, hL1.2.2.2.1, trivial, Nat.zero_le _, Nat.zero_le _⟩⟩
  rw [show decide (¬ bg T e 0 < e) = false from decide_eq_false (fun z => z c0)]
  refine a_if_eq rfl (fun _ => ?_) (fun z => absurd rfl z)
  refine a_s rfl rfl ?_
  refine a_s2 rfl rfl rfl rfl rfl rfl ?_
  refine a_inv (n := 12) (fun m ls h => ∃ i b' w' o' ls' J, ls = [some (.ref 220), some (.ref 201), some (.int (nI i))] ∧ h = hp J L w1 w' t ∧ Ld T e b' w' o' ls' J ∧ Fm sW I J ∧ ls'.length = i ∧ i ≤ 12 ∧ lnsP T e (12 - i) b' o' ls' = lawP T e ∧ m = 12 - i) ⟨0, bg T e 0, wa, [], [], J1, rfl, rfl, hL1, hF1, rfl, by decide, (if_pos c0).symm, rfl⟩ ?_
  rintro m _ _ ⟨i, b', w', o', ls', J, rfl, rfl, hL, hF, hli, hi, es, hm⟩ ih
  refine a_l2 rfl rfl rfl ?_
  refine a_l0 rfl rfl rfl ?_
  refine a_getiv (v := 12) rfl gfX8_18_3 rfl ((hF 220 1 rfl).trans hm0) ?_
  refine a_ic_ge rfl (fun c => ?_) (fun c => ?_)
  · have h12 := nI_ge_of (b := 12) c (by omega) (by decide)
    obtain rfl : i = 12 := by omega
    have es : lawP T e = (false, b', [], []) := es.symm
    rw [es, if_neg Bool.false_ne_true]
    refine a_l0 rfl rfl rfl ?_
    refine a_getq rfl gfX8_12_3 rfl (rfl) ?_
    refine a_getiv (v := nI b') rfl gfX8_33_9 rfl (At.be hL.1) ?_
    exact a_iret rfl rfl ⟨rfl, J, w', rfl, At.wk hL.1, hF, fun z => by cases z⟩
  have hi12 : i < 12 := nI_lt_of (b := 12) c (by omega) (by decide)
  obtain ⟨f, hf⟩ : ∃ f, 12 - i = f + 1 := ⟨12 - i - 1, by omega⟩
  rw [hf, lnsP_s] at es
  have gd := lnP_gd (T := T) (o := o') (At.le hL.1)
  have hlen : ls'.length < 12 := by omega
  refine a_l0 rfl rfl rfl ?_
  refine a_callU rfl lu_30_3 dc_readLine mo_X3_readLine hx_rl0 (f_readLine hw hL hlen) rfl rfl rfl ⟨3, _, rfl, rfl, rfl⟩ rfl (fun v' h' hv => ?_) (fun _ _ z => False.elim z)
  obtain ⟨rfl, J2, wb, rfl, f2, hA2, hz2⟩ := hv
  have hF2 : Fm sW I J2 := Fm.tr hF f2
  rcases er : lnP T e b' o' with ⟨z, b1, o1⟩
  rw [er] at es hA2 hz2 gd
  cases z with
  | false =>
    refine a_if_ne rfl (fun z => absurd rfl z) (fun _ => ?_)
    have es : lawP T e = (false, b1, [], []) := es.symm
    rw [es, if_neg Bool.false_ne_true]
    refine a_l0 rfl rfl rfl ?_
    refine a_getq rfl gfX8_12_3 rfl (rfl) ?_
    refine a_getiv (v := nI b1) rfl gfX8_33_9 rfl (At.be hA2) ?_
    exact a_iret rfl rfl ⟨rfl, J2, wb, rfl, At.wk hA2, hF2, fun z => by cases z⟩
  | true =>
  refine a_if_ne rfl (fun _ => ?_) (fun z => absurd (show (1 : Int32) = 0 from z) (by decide))
  have hL2 := hz2 rfl
  obtain ⟨-, g2, g3⟩ := gd
  have g2 : b1 ≤ e := g2
  rw [if_pos rfl] at es
  refine a_l0 rfl rfl rfl ?_
  refine a_getq rfl gfX8_12_3 rfl (rfl) ?_
  refine a_eV1 rfl lX8_26 mo_X9_isEnd (f_isEnd hA2) rfl rfl rfl ⟨9, _, rfl, rfl, rfl⟩ rfl ?_
  by_cases c1 : b1 < e
  rotate_left
  · rw [show decide (¬ b1 < e) = true from decide_eq_true c1]
    refine a_if_eq rfl (fun z => absurd z (by decide)) (fun _ => ?_)
    have es : lawP T e = (true, b1, o1, lnV T e b' o' o1 :: ls') := es.symm.trans (if_neg c1)
    rw [es, if_pos rfl]
    refine a_s rfl rfl ?_
    obtain ⟨-, x1, x2, x3, x4, x5, -⟩ := hL2
    exact a_iret rfl rfl ⟨rfl, J2, wb, rfl, At.wk hA2, hF2, fun _ => ⟨x1, x2, x3, x4, by show ls'.length + 1 ≤ 12; omega, by have x5 : o1.length ≤ b1 := x5; show o1.length ≤ 400; omega⟩⟩
  rw [show decide (¬ b1 < e) = false from decide_eq_false (fun z => z c1)]
  refine a_if_eq rfl (fun _ => ?_) (fun z => absurd rfl z)
  have es := (if_pos c1).symm.trans es
  refine a_l0 rfl rfl rfl ?_
  refine a_getq rfl gfX8_12_3 rfl (rfl) ?_
  refine a_s rfl rfl ?_
  refine a_gV rfl lX8_36 mo_X9_takeSign (f_takeSign hw hA2) rfl rfl rfl ⟨9, _, rfl, rfl, rfl⟩ rfl (fun v' h' hv => ?_)
  obtain ⟨rfl, J3, wc, rfl, hA3, hf3⟩ := hv
  have hF3 : Fm sW I J3 := fun q k hq => by
    rw [hf3 q (by intro z; subst z; cases hq)]
    exact hF2 q k hq
  cases c59 : sg T e b1 59 with
  | false =>
    refine a_if_ne rfl (fun z => absurd rfl z) (fun _ => ?_)
    rw [c59, if_neg (by decide)] at hA3
    have es : lawP T e = (false, b1, [], []) := es.symm.trans (if_neg (by rw [c59]; decide))
    rw [es, if_neg Bool.false_ne_true]
    refine a_l0 rfl rfl rfl ?_
    refine a_getq rfl gfX8_12_3 rfl (rfl) ?_
    refine a_getiv (v := nI b1) rfl gfX8_33_9 rfl (At.be hA3) ?_
    exact a_iret rfl rfl ⟨rfl, J3, wc, rfl, At.wk hA3, hF3, fun z => by cases z⟩
  | true =>
    refine a_if_ne rfl (fun _ => ?_) (fun z => absurd (show (1 : Int32) = 0 from z) (by decide))
    rw [c59, if_pos rfl] at hA3
    have es := (if_pos c59).symm.trans es
    obtain ⟨-, x1, x2, x3, x4, x5, x6⟩ := hL2
    have x5 : o1.length ≤ b1 := x5
    have n1 := nx_lt (T := T) c1
    refine a_iv2 (y := nI (i + 1)) rfl rfl rfl ((nI_succ i).symm) ?_
    refine a_goto rfl ?_
    refine ih (12 - (i + 1)) _ _ (by omega) ⟨i + 1, nx T e b1, wc, o1, lnV T e b' o' o1 :: ls', J3, rfl, rfl, ⟨hA3, ?_, ?_, ?_, ?_, by omega, x6⟩, hF3, by show ls'.length + 1 = i + 1; omega, by omega, by rw [show 12 - (i + 1) = f by omega]; exact es, rfl⟩
    · rw [hf3 226 (by decide)]
      exact x1
    · rw [hf3 231 (by decide)]
      exact x2
    · rw [hf3 226 (by decide)]
      exact x3
    · rw [hf3 227 (by decide), hf3 228 (by decide), hf3 229 (by decide), hf3 230 (by decide)]
      exact x4
end T79f
end
section
/-! ===== the reference's signs, words, numbers, as functions of the tape ===== -/
section T79g
variable {S : aS} {I : Nat → Nat → Int32} {L : Nat → Nat → Int64} {w1 w2 t : Nat} {e p b : Nat}
set_option maxRecDepth 100000
theorem kc4 {x : Int32} : kcF x = 4 ↔ x = 32 := by
  unfold kcF
  by_cases c : x = 32
  · rw [if_pos c]
    exact ⟨fun _ => c, fun _ => rfl⟩
  · rw [if_neg c]
    refine ⟨fun z => ?_, fun z => absurd z c⟩
    by_cases c2 : 97 ≤ x ∧ x ≤ 122
    · rw [if_pos c2] at z
      cases z
    · rw [if_neg c2] at z
      by_cases c3 : 48 ≤ x ∧ x ≤ 57
      · rw [if_pos c3] at z
        cases z
      · rw [if_neg c3] at z
        cases z
theorem kc1 {x : Int32} : kcF x = 1 ↔ 97 ≤ x ∧ x ≤ 122 := by
  unfold kcF
  by_cases c : x = 32
  · rw [if_pos c]
    refine ⟨fun z => (by cases z), fun z => ?_⟩
    rw [c] at z
    exact absurd z.1 (by decide)
  · rw [if_neg c]
    by_cases c2 : 97 ≤ x ∧ x ≤ 122
    · rw [if_pos c2]
      exact ⟨fun _ => c2, fun _ => rfl⟩
    · rw [if_neg c2]
      refine ⟨fun z => ?_, fun z => absurd z c2⟩
      by_cases c3 : 48 ≤ x ∧ x ≤ 57
      · rw [if_pos c3] at z
        cases z
      · rw [if_neg c3] at z
        cases z
theorem kc2 {x : Int32} : kcF x = 2 ↔ 48 ≤ x ∧ x ≤ 57 := by
  unfold kcF
  by_cases c : x = 32
  · rw [if_pos c]
    refine ⟨fun z => (by cases z), fun z => ?_⟩
    rw [c] at z
    exact absurd z.1 (by decide)
  · rw [if_neg c]
    by_cases c2 : 97 ≤ x ∧ x ≤ 122
    · rw [if_pos c2]
      refine ⟨fun z => (by cases z), fun z => absurd (Int32.le_trans c2.1 z.2) (by decide)⟩
    · rw [if_neg c2]
      by_cases c3 : 48 ≤ x ∧ x ≤ 57
      · rw [if_pos c3]
        exact ⟨fun _ => c3, fun _ => rfl⟩
      · rw [if_neg c3]
        exact ⟨fun z => (by cases z), fun z => absurd z c3⟩
def atB (T : Nat → Int32) (e p : Nat) (x y : Int32) : Bool := decide (p < e ∧ x ≤ T p ∧ T p ≤ y)
theorem at_b {T : Nat → Int32} : atB T e p 32 32 = isK T e 4 p := by
  unfold atB isK
  congr 1
  refine propext ⟨fun z => ⟨z.1, kc4.mpr (Int32.le_antisymm z.2.2 z.2.1)⟩, fun z => ?_⟩
  have := kc4.mp z.2
  rw [this]
  exact ⟨z.1, by decide, by decide⟩
theorem at_l {T : Nat → Int32} : atB T e p 97 122 = isK T e 1 p := by
  unfold atB isK
  congr 1
  exact propext ⟨fun z => ⟨z.1, kc1.mpr z.2⟩, fun z => ⟨z.1, kc1.mp z.2⟩⟩
theorem at_d {T : Nat → Int32} : atB T e p 48 57 = isK T e 2 p := by
  unfold atB isK
  congr 1
  exact propext ⟨fun z => ⟨z.1, kc2.mpr z.2⟩, fun z => ⟨z.1, kc2.mp z.2⟩⟩
theorem at_s {T : Nat → Int32} {c : Nat} (hbt : BtT T) (he : e ≤ 400) (hc : c ∈ [40, 41, 43, 59, 60, 62]) : atB T e p (nI c) (nI c) = sg T e p (nI c) := by
  unfold atB sg
  congr 1
  by_cases hp : p < e
  · obtain ⟨n, hn, en⟩ := hbt p (by omega)
    obtain ⟨g1, g2⟩ := bt_sg n hn c hc
    rw [← en] at g1 g2
    refine propext ⟨fun z => ?_, fun z => ?_⟩
    · have e1 := Int32.le_antisymm z.2.2 z.2.1
      have k3 := (kd_lt hp).trans (g2 e1)
      exact ⟨k3, (vl_3 k3).trans (g1.mpr e1)⟩
    · have e1 := g1.mp ((vl_3 z.1).symm.trans z.2)
      rw [e1]
      exact ⟨hp, Int32.le_refl _, Int32.le_refl _⟩
  · refine propext ⟨fun z => absurd z.1 hp, fun z => absurd (kd_in (by rw [z.1]; decide)) hp⟩
theorem Rd.T {b p' : Nat} {J : Nat → Nat → Int32} (h : Rd e p b p' I J) : J 426 = I 426 := funext fun k => Rd.fm h 426 k rfl
theorem isW_wd {T : Nat → Int32} {k : Nat} (hk : k < 27) : isW T b (rn T e 1 b - b) k = isWd T e b k := by
  by_cases c : kd T e b = 1
  · rw [← en_1 c]
    cases h : isW T b (en T e b - b) k with
    | true => exact (decide_eq_true ⟨c, wd_eq hk h⟩).symm
    | false =>
      refine (decide_eq_false fun z => ?_).symm
      have h2 := wd_is (T := T) (e := e) (b := b) (by rw [z.2]; exact hk)
      rw [z.2, h] at h2
      cases h2
  · have e1 : rn T e 1 b = b := rn_f (Bool.eq_false_iff.mpr fun z => c ((kd_lt (isK_lt z)).trans (isK_kc z)))
    have := wLen_pos k hk
    rw [e1, show isWd T e b k = false from decide_eq_false fun z => c z.1]
    exact decide_eq_false fun z => by have := z.1; omega
theorem h_isAt (hq : Pp e p I) {x y : Int32} : SpE S m_X12_isAt 12 [.ref 420, .int x, .int y] (hp I L w1 w2 t) (some (.int (bI (atB (I 426) e p x y)))) (hp I L w1 w2 t) := by
  obtain ⟨h1, h2, h3, h4⟩ := hq
  refine SpE_of ok_X12_isAt rfl rfl ?_
  show AW S m_X12_isAt 12 _ _ 0 0 0 [some (.ref 420), some (.int x), some (.int y)] [] (hp I L w1 w2 t)
  have no : ¬ (p < e ∧ x ≤ I 426 p ∧ I 426 p ≤ y) → AW S m_X12_isAt 12 (fun v h' => v = some (.int (bI (atB (I 426) e p x y))) ∧ h' = hp I L w1 w2 t) (fun _ _ => False) 0 0 41 [some (.ref 420), some (.int x), some (.int y)] [] (hp I L w1 w2 t) := by
    intro hn
    refine a_s rfl rfl ?_
    refine a_zret rfl rfl rfl ⟨?_, rfl⟩
    rw [show atB (I 426) e p x y = false from decide_eq_false hn]
    rfl
  refine a_l0 rfl rfl rfl ?_
  refine a_geti rfl gfX12_81_12 rfl ?_
  refine a_top (y := nI p) (h1) ?_
  refine a_l0 rfl rfl rfl ?_
  refine a_geti rfl gfX12_84_12 rfl ?_
  refine a_top (y := nI e) (h2) ?_
  refine a_ic_ge rfl (fun c => no fun z => absurd (nI_ge_of c (by omega) (by omega)) (Nat.not_le.mpr z.1)) (fun c => ?_)
  have hlt : p < e := nI_lt_of c (by omega) (by omega)
  refine a_l0 rfl rfl rfl ?_
  refine a_getq rfl gfX12_29_12 rfl (rfl) ?_
  refine a_l0 rfl rfl rfl ?_
  refine a_geti rfl gfX12_81_12 rfl ?_
  refine a_top (y := nI p) (h1) ?_
  refine a_baldv (v := I 426 p) rfl (n := 400) rfl (inI_nI (by omega) (by omega)) (by rw [nI_clamp (by omega)]) ?_
  refine a_l1 rfl rfl rfl ?_
  refine a_ic_lt rfl (fun c => no fun z => absurd c (Int32.not_lt.mpr z.2.1)) (fun c1 => ?_)
  refine a_l0 rfl rfl rfl ?_
  refine a_getq rfl gfX12_29_12 rfl (rfl) ?_
  refine a_l0 rfl rfl rfl ?_
  refine a_geti rfl gfX12_81_12 rfl ?_
  refine a_top (y := nI p) (h1) ?_
  refine a_baldv (v := I 426 p) rfl (n := 400) rfl (inI_nI (by omega) (by omega)) (by rw [nI_clamp (by omega)]) ?_
  refine a_l2 rfl rfl rfl ?_
  refine a_ic_gt rfl (fun c => no fun z => absurd c (Int32.not_lt.mpr z.2.2)) (fun c2 => ?_)
  refine a_s rfl rfl ?_
  refine a_goto rfl ?_
  refine a_zret rfl rfl rfl ⟨?_, rfl⟩
  rw [show atB (I 426) e p x y = true from decide_eq_true ⟨hlt, Int32.not_lt.mp c1, Int32.not_lt.mp c2⟩]
  rfl
theorem h_blanks (hq : Pp e p I) : Sp S m_X12_blanks 13 0 0 [.ref 420] (hp I L w1 w2 t) (fun v h' => v = none ∧ ∃ J, h' = hp J L w1 w2 t ∧ Rd e p (rn (I 426) e 4 p) (rn (I 426) e 4 p) I J) nX := by
  refine Sp_of ok_X12_blanks rfl rfl ?_
  show AW S m_X12_blanks 13 _ _ 0 0 0 [some (.ref 420)] [] (hp I L w1 w2 t)
  refine a_inv (n := e - p) (fun m ls h => ls = [some (.ref 420)] ∧ ∃ J p', h = hp J L w1 w2 t ∧ Fm sR I J ∧ p ≤ p' ∧ Pp e p' J ∧ rn (I 426) e 4 p = rn (I 426) e 4 p' ∧ m = e - p') ⟨rfl, I, p, rfl, Fm.rf, Nat.le_refl _, hq, rfl, rfl⟩ ?_
  rintro m _ _ ⟨rfl, J, p', rfl, f, hpp, hq', hr, hm⟩ ih
  have eT : J 426 = I 426 := funext fun k => f 426 k rfl
  refine a_l0 rfl rfl rfl ?_
  refine a_s rfl rfl ?_
  refine a_s rfl rfl ?_
  refine a_eV1 rfl lX12_87 mo_X12_isAt (h_isAt hq') rfl rfl rfl ⟨12, _, rfl, rfl, rfl⟩ rfl ?_
  refine a_top (y := bI (isK (I 426) e 4 p')) (by rw [eT]; exact congrArg bI at_b) ?_
  cases c : isK (I 426) e 4 p' with
  | false =>
    refine a_if_eq rfl (fun _ => ?_) (fun z => absurd rfl z)
    rw [hr, rn_f c]
    refine a_l0 rfl rfl rfl ?_
    refine a_l0 rfl rfl rfl ?_
    refine a_geti rfl gfX12_81_12 rfl ?_
    refine a_top (y := nI p') (Pp.pu hq') ?_
    refine a_puti rfl pfX12_91_12 rfl ?_
    exact a_vret rfl rfl ⟨rfl, _, rfl, Fm.up f rfl, hpp, Nat.le_refl _, up2_at, Pp.bg hq'⟩
  | true =>
    refine a_if_eq rfl (fun z => absurd z (by decide)) (fun _ => ?_)
    have hb' := isK_lt c
    refine a_l0 rfl rfl rfl ?_
    refine a_s rfl rfl ?_
    refine a_geti rfl gfX12_81_12 rfl ?_
    refine a_top (y := nI p') (Pp.pu hq') ?_
    refine a_s rfl rfl ?_
    refine a_s rfl rfl ?_
    refine a_top (y := nI (p' + 1)) ((nI_succ _).symm) ?_
    refine a_puti rfl pfX12_81_12 rfl ?_
    refine a_goto rfl ?_
    exact ih (e - (p' + 1)) _ _ (by omega) ⟨rfl, _, p' + 1, rfl, Fm.up f rfl, by omega, Pp.to hq' hb', hr.trans (rn_t c), rfl⟩
theorem h_letters (hq : Pp e p I) : Sp S m_X12_letters 14 0 0 [.ref 420] (hp I L w1 w2 t) (fun v h' => v = none ∧ ∃ J, h' = hp J L w1 w2 t ∧ Rd e p (rn (I 426) e 4 p) (rn (I 426) e 1 (rn (I 426) e 4 p)) I J) nX := by
  refine Sp_of ok_X12_letters rfl rfl ?_
  show AW S m_X12_letters 14 _ _ 0 0 0 [some (.ref 420)] [] (hp I L w1 w2 t)
  refine a_l0 rfl rfl rfl ?_
  refine a_gV rfl lX12_94 mo_X12_blanks (h_blanks hq) rfl rfl rfl ⟨12, _, rfl, rfl, rfl⟩ rfl (fun v' h' hv => ?_)
  obtain ⟨rfl, J1, rfl, h1⟩ := hv
  generalize rn (I 426) e 4 p = b at h1 ⊢
  refine a_inv (n := e - b) (fun m ls h => ls = [some (.ref 420)] ∧ ∃ J p', h = hp J L w1 w2 t ∧ Rd e p b p' I J ∧ rn (I 426) e 1 b = rn (I 426) e 1 p' ∧ m = e - p') ⟨rfl, J1, b, rfl, h1, rfl, rfl⟩ ?_
  rintro m _ _ ⟨rfl, J, p', rfl, h, hr, hm⟩ ih
  refine a_l0 rfl rfl rfl ?_
  refine a_s rfl rfl ?_
  refine a_s rfl rfl ?_
  refine a_eV1 rfl lX12_87 mo_X12_isAt (h_isAt (Rd.pp h)) rfl rfl rfl ⟨12, _, rfl, rfl, rfl⟩ rfl ?_
  refine a_top (y := bI (isK (I 426) e 1 p')) (by rw [Rd.T h]; exact congrArg bI at_l) ?_
  cases c : isK (I 426) e 1 p' with
  | false =>
    refine a_if_eq rfl (fun _ => ?_) (fun z => absurd rfl z)
    rw [hr, rn_f c]
    exact a_vret rfl rfl ⟨rfl, _, rfl, h⟩
  | true =>
    refine a_if_eq rfl (fun z => absurd z (by decide)) (fun _ => ?_)
    have hb' := isK_lt c
    refine a_l0 rfl rfl rfl ?_
    refine a_s rfl rfl ?_
    refine a_geti rfl gfX12_81_12 rfl ?_
    refine a_top (y := nI p') (Pp.pu (Rd.pp h)) ?_
    refine a_s rfl rfl ?_
    refine a_s rfl rfl ?_
    refine a_top (y := nI (p' + 1)) ((nI_succ _).symm) ?_
    refine a_puti rfl pfX12_81_12 rfl ?_
    refine a_goto rfl ?_
    exact ih (e - (p' + 1)) _ _ (by omega) ⟨rfl, _, p' + 1, rfl, Rd.up h hb', hr.trans (rn_t c), rfl⟩
theorem h_isWord {k : Nat} (hw : WdS S) (hk : k < 27) (h12 : I 420 12 = nI b) (hbp : b ≤ p) (hq : Pp e p I) : SpE S m_X12_isWord 16 [.ref 420, .ref (130 + k)] (hp I L w1 w2 t) (some (.int (bI (isW (I 426) b (p - b) k)))) (hp I L w1 w2 t) := by
  obtain ⟨h1, h2, h3, h4⟩ := hq
  have hl1 := wLen_pos k hk
  have hl2 := wLen_lt k hk
  refine SpE_of ok_X12_isWord rfl rfl ?_
  show AW S m_X12_isWord 16 _ _ 0 0 0 [some (.ref 420), some (.ref (130 + k)), none, none] [] (hp I L w1 w2 t)
  have key : ∀ z : Bool, (z = true ↔ p - b = wLen k) → AW S m_X12_isWord 16 (fun v h' => v = some (.int (bI (isW (I 426) b (p - b) k))) ∧ h' = hp I L w1 w2 t) (fun _ _ => False) 0 0 21 [some (.ref 420), some (.ref (130 + k)), none, none] [.int (bI z)] (hp I L w1 w2 t) := by
    intro z hz
    refine a_s2 rfl rfl rfl rfl rfl rfl ?_
    refine a_s rfl rfl ?_
    refine a_s3 rfl rfl rfl rfl rfl rfl ?_
    refine a_inv (n := wLen k + 1) (fun m ls h => ∃ z i, ls = [some (.ref 420), some (.ref (130 + k)), some (.int (bI z)), some (.int (nI i))] ∧ h = hp I L w1 w2 t ∧ i ≤ wLen k ∧ m = wLen k + 1 - i ∧ (z = true ↔ (p - b = wLen k ∧ ∀ q, q < i → I 426 (b + q) = wC k q))) ⟨z, 0, rfl, rfl, Nat.zero_le _, rfl, hz.trans ⟨fun y => ⟨y, fun q hq => absurd hq (Nat.not_lt_zero _)⟩, fun y => y.1⟩⟩ ?_
    rintro m _ _ ⟨z, i, rfl, rfl, hi, hm, hz⟩ ih
    have out : isW (I 426) b (p - b) k = z → AW S m_X12_isWord 16 (fun v h' => v = some (.int (bI (isW (I 426) b (p - b) k))) ∧ h' = hp I L w1 w2 t) (fun _ _ => False) 0 0 67 [some (.ref 420), some (.ref (130 + k)), some (.int (bI z)), some (.int (nI i))] [] (hp I L w1 w2 t) := by
      intro ez
      refine a_l2 rfl rfl rfl ?_
      exact a_zret rfl rfl (bI_nar _) ⟨by rw [ez], rfl⟩
    refine a_l2 rfl rfl rfl ?_
    cases z with
    | false =>
      refine a_if_eq rfl (fun _ => out (decide_eq_false fun y => ?_)) (fun y => absurd rfl y)
      have := hz.mpr ⟨y.1, fun q hq => y.2 q (by omega)⟩
      cases this
    | true =>
    refine a_if_eq rfl (fun y => absurd y (by decide)) (fun _ => ?_)
    obtain ⟨hpb, hq⟩ := hz.mp rfl
    refine a_l3 rfl rfl rfl ?_
    refine a_l1 rfl rfl rfl ?_
    refine a_eK1 rfl lX12_97 mo_J0_length_8abf5 (q_strlen hw hk) rfl rfl rfl (hw.so hk) rfl ?_
    refine a_ic_ge rfl (fun c2 => ?_) (fun c2 => ?_)
    · have := nI_ge_of c2 (by omega) hl2
      exact out (decide_eq_true ⟨hpb, fun q hq2 => hq q (by omega)⟩)
    have hjl : i < wLen k := nI_lt_of c2 (by omega) hl2
    refine a_l0 rfl rfl rfl ?_
    refine a_getq rfl gfX12_29_12 rfl (rfl) ?_
    refine a_l0 rfl rfl rfl ?_
    refine a_geti rfl gfX12_91_12 rfl ?_
    refine a_top (y := nI b) (h12) ?_
    refine a_l3 rfl rfl rfl ?_
    refine a_s rfl rfl ?_
    refine a_top (y := nI (b + i)) (nI_addl _ _) ?_
    refine a_baldv (v := I 426 (b + i)) rfl (n := 400) rfl (inI_nI (by omega) (by omega)) (by rw [nI_clamp (by omega)]) ?_
    refine a_l1 rfl rfl rfl ?_
    refine a_l3 rfl rfl rfl ?_
    refine a_eK1 rfl lX12_102 mo_J0_charAt_5068e (q_charAt hw hk hjl) rfl rfl rfl (hw.so hk) rfl ?_
    have back : ∀ z' : Bool, (z' = true ↔ I 426 (b + i) = wC k i) → AW S m_X12_isWord 16 (fun v h' => v = some (.int (bI (isW (I 426) b (p - b) k))) ∧ h' = hp I L w1 w2 t) (fun _ _ => False) 0 0 60 [some (.ref 420), some (.ref (130 + k)), some (.int (bI true)), some (.int (nI i))] [.int (bI z')] (hp I L w1 w2 t) := by
      intro z' hz'
      refine a_s2 rfl rfl rfl rfl rfl rfl ?_
      refine a_iv3 (y := nI (i + 1)) rfl rfl rfl ((nI_succ i).symm) ?_
      refine a_goto rfl ?_
      refine ih (wLen k + 1 - (i + 1)) _ _ (by omega) ⟨z', i + 1, rfl, rfl, by omega, rfl, ?_⟩
      refine hz'.trans ⟨fun y => ⟨hpb, fun q hq2 => ?_⟩, fun y => y.2 i (Nat.lt_succ_self i)⟩
      by_cases cq : q = i
      · rw [cq]
        exact y
      · exact hq q (by omega)
    refine a_ic_ne rfl (fun c3 => ?_) (fun c3 => ?_)
    · refine a_s rfl rfl ?_
      exact back false ⟨fun y => (by cases y), fun y => absurd y c3⟩
    · refine a_s rfl rfl ?_
      refine a_goto rfl ?_
      exact back true ⟨fun _ => c3, fun _ => rfl⟩
  refine a_l0 rfl rfl rfl ?_
  refine a_geti rfl gfX12_81_12 rfl ?_
  refine a_top (y := nI p) (h1) ?_
  refine a_l0 rfl rfl rfl ?_
  refine a_geti rfl gfX12_91_12 rfl ?_
  refine a_top (y := nI b) (h12) ?_
  refine a_s rfl rfl ?_
  refine a_top (y := nI (p - b)) (nI_sub hbp) ?_
  refine a_l1 rfl rfl rfl ?_
  refine a_eK1 rfl lX12_97 mo_J0_length_8abf5 (q_strlen hw hk) rfl rfl rfl (hw.so hk) rfl ?_
  refine a_ic_ne rfl (fun c => ?_) (fun c => ?_)
  · refine a_s rfl rfl ?_
    exact key false ⟨fun z => (by cases z), fun z => absurd (congrArg nI z) c⟩
  · refine a_s rfl rfl ?_
    refine a_goto rfl ?_
    exact key true ⟨fun _ => nI_inj (by omega) hl2 c, fun _ => rfl⟩
theorem h_passes {k : Nat} (hw : WdS S) (hk : k < 27) (hq : Pp e p I) (hb : rn (I 426) e 4 p = b) : Sp S m_X12_passes 17 0 0 [.ref 420, .ref (130 + k)] (hp I L w1 w2 t) (fun v h' => v = some (.int (bI (isWd (I 426) e b k))) ∧ ∃ J, h' = hp J L w1 w2 t ∧ Rd e p b (if isWd (I 426) e b k = true then en (I 426) e b else b) I J) nX := by
  refine Sp_of ok_X12_passes rfl rfl ?_
  show AW S m_X12_passes 17 _ _ 0 0 0 [some (.ref 420), some (.ref (130 + k))] [] (hp I L w1 w2 t)
  refine a_l0 rfl rfl rfl ?_
  refine a_gV rfl lX12_106 mo_X12_letters (h_letters hq) rfl rfl rfl ⟨12, _, rfl, rfl, rfl⟩ rfl (fun v' h' hv => ?_)
  obtain ⟨rfl, J, rfl, h⟩ := hv
  rw [hb] at h
  refine a_l0 rfl rfl rfl ?_
  refine a_l1 rfl rfl rfl ?_
  refine a_eV1 rfl lX12_109 mo_X12_isWord (h_isWord hw hk (Rd.be h) (Rd.bp h) (Rd.pp h)) rfl rfl rfl ⟨12, _, rfl, rfl, rfl⟩ rfl ?_
  refine a_top (y := bI (isWd (I 426) e b k)) (by rw [Rd.T h]; exact congrArg bI (isW_wd hk)) ?_
  cases c : isWd (I 426) e b k with
  | false =>
    refine a_if_eq rfl (fun _ => ?_) (fun z => absurd rfl z)
    refine a_l0 rfl rfl rfl ?_
    refine a_l0 rfl rfl rfl ?_
    refine a_geti rfl gfX12_91_12 rfl ?_
    refine a_top (y := nI b) (Rd.be h) ?_
    refine a_puti rfl pfX12_81_12 rfl ?_
    refine a_s rfl rfl ?_
    exact a_zret rfl rfl rfl ⟨rfl, _, rfl, Rd.rs h⟩
  | true =>
    refine a_if_eq rfl (fun z => absurd z (by decide)) (fun _ => ?_)
    refine a_s rfl rfl ?_
    refine a_zret rfl rfl rfl ⟨rfl, J, rfl, ?_⟩
    rw [if_pos rfl, en_1 (of_decide_eq_true c).1]
    exact h
theorem h_sign {c : Nat} (hbt : BtT (I 426)) (hc : c ∈ [40, 41, 43, 59, 60, 62]) (hq : Pp e p I) (hb : rn (I 426) e 4 p = b) : Sp S m_X12_sign 14 0 0 [.ref 420, .int (nI c)] (hp I L w1 w2 t) (fun v h' => v = some (.int (bI (sg (I 426) e b (nI c)))) ∧ ∃ J, h' = hp J L w1 w2 t ∧ Rd e p b (if sg (I 426) e b (nI c) = true then en (I 426) e b else b) I J) nX := by
  have he4 := Pp.e4 hq
  refine Sp_of ok_X12_sign rfl rfl ?_
  show AW S m_X12_sign 14 _ _ 0 0 0 [some (.ref 420), some (.int (nI c))] [] (hp I L w1 w2 t)
  refine a_l0 rfl rfl rfl ?_
  refine a_gV rfl lX12_94 mo_X12_blanks (h_blanks hq) rfl rfl rfl ⟨12, _, rfl, rfl, rfl⟩ rfl (fun v' h' hv => ?_)
  obtain ⟨rfl, J, rfl, h⟩ := hv
  rw [hb] at h
  refine a_l0 rfl rfl rfl ?_
  refine a_l1 rfl rfl rfl ?_
  refine a_l1 rfl rfl rfl ?_
  refine a_eV1 rfl lX12_87 mo_X12_isAt (h_isAt (Rd.pp h)) rfl rfl rfl ⟨12, _, rfl, rfl, rfl⟩ rfl ?_
  refine a_top (y := bI (sg (I 426) e b (nI c))) (by rw [Rd.T h]; exact congrArg bI (at_s hbt he4 hc)) ?_
  cases cs : sg (I 426) e b (nI c) with
  | true =>
    refine a_if_ne rfl (fun _ => ?_) (fun z => absurd z (by decide))
    refine a_l0 rfl rfl rfl ?_
    refine a_s rfl rfl ?_
    refine a_geti rfl gfX12_81_12 rfl ?_
    refine a_top (y := nI b) (Pp.pu (Rd.pp h)) ?_
    refine a_s rfl rfl ?_
    refine a_s rfl rfl ?_
    refine a_top (y := nI (b + 1)) ((nI_succ _).symm) ?_
    refine a_puti rfl pfX12_81_12 rfl ?_
    refine a_s rfl rfl ?_
    refine a_zret rfl rfl rfl ⟨rfl, _, rfl, ?_⟩
    rw [if_pos rfl, en_3 (of_decide_eq_true cs).1]
    exact Rd.up h (sg_lt cs)
  | false =>
    refine a_if_ne rfl (fun z => absurd rfl z) (fun _ => ?_)
    refine a_s rfl rfl ?_
    exact a_zret rfl rfl rfl ⟨rfl, J, rfl, h⟩
theorem h_number (hq : Pp e p I) (hb : rn (I 426) e 4 p = b) {x y : Int32} (h0 : 0 ≤ x) : Sp S m_X12_number 14 0 0 [.ref 420, .int x, .int y] (hp I L w1 w2 t) (fun v h' => v = some (.int (nm (I 426) e b x y)) ∧ ∃ J, h' = hp J L w1 w2 t ∧ Rd e p b (rn (I 426) e 2 b) I J) nX := by
  refine Sp_of ok_X12_number rfl rfl ?_
  show AW S m_X12_number 14 _ _ 0 0 0 [some (.ref 420), some (.int x), some (.int y), none] [] (hp I L w1 w2 t)
  refine a_l0 rfl rfl rfl ?_
  refine a_gV rfl lX12_94 mo_X12_blanks (h_blanks hq) rfl rfl rfl ⟨12, _, rfl, rfl, rfl⟩ rfl (fun v' h' hv => ?_)
  obtain ⟨rfl, J1, rfl, h1⟩ := hv
  rw [hb] at h1
  refine a_s rfl rfl ?_
  refine a_s3 rfl rfl rfl rfl rfl rfl ?_
  refine a_inv (n := e - b) (fun m ls h => ∃ J p', ls = [some (.ref 420), some (.int x), some (.int y), some (.int (nuF (I 426) b (if p' - b < 3 then p' - b else 3)))] ∧ h = hp J L w1 w2 t ∧ Rd e p b p' I J ∧ rn (I 426) e 2 b = rn (I 426) e 2 p' ∧ m = e - p') ⟨J1, b, by rw [Nat.sub_self]; rfl, rfl, h1, rfl, rfl⟩ ?_
  rintro m _ _ ⟨J, p', rfl, rfl, h, hr, hm⟩ ih
  have hbp := Rd.bp h
  have hpe := Pp.le (Rd.pp h)
  have he4 := Pp.e4 (Rd.pp h)
  refine a_l0 rfl rfl rfl ?_
  refine a_s rfl rfl ?_
  refine a_s rfl rfl ?_
  refine a_eV1 rfl lX12_87 mo_X12_isAt (h_isAt (Rd.pp h)) rfl rfl rfl ⟨12, _, rfl, rfl, rfl⟩ rfl ?_
  refine a_top (y := bI (isK (I 426) e 2 p')) (by rw [Rd.T h]; exact congrArg bI at_d) ?_
  cases ck : isK (I 426) e 2 p' with
  | false =>
    refine a_if_eq rfl (fun _ => ?_) (fun z => absurd rfl z)
    rw [rn_f ck] at hr
    have no : nm (I 426) e b x y = -1 → AW S m_X12_number 14 (fun v h' => v = some (.int (nm (I 426) e b x y)) ∧ ∃ J, h' = hp J L w1 w2 t ∧ Rd e p b (rn (I 426) e 2 b) I J) nX 0 0 99 [some (.ref 420), some (.int x), some (.int y), some (.int (nuF (I 426) b (if p' - b < 3 then p' - b else 3)))] [] (hp J L w1 w2 t) := by
      intro hn
      refine a_s rfl rfl ?_
      refine a_goto rfl ?_
      refine a_iret rfl rfl ⟨by rw [hn], J, rfl, ?_⟩
      rw [hr]
      exact h
    refine a_l0 rfl rfl rfl ?_
    refine a_geti rfl gfX12_81_12 rfl ?_
    refine a_top (y := nI p') (Pp.pu (Rd.pp h)) ?_
    refine a_l0 rfl rfl rfl ?_
    refine a_geti rfl gfX12_91_12 rfl ?_
    refine a_top (y := nI b) (Rd.be h) ?_
    refine a_ic_eq rfl (fun c => no (if_neg fun z => ?_)) (fun cne => ?_)
    · have c := nI_inj (by omega) (by omega) c
      have := rn_t (kd_isK (by decide) z.1)
      have h9 := rn_ge (T := I 426) (e := e) (k := 2) (p := b + 1)
      omega
    have hlt : b < p' := by
      rcases Nat.lt_or_ge b p' with g | g
      · exact g
      · exact absurd (congrArg nI (show p' = b by omega)) cne
    have hk2 : kd (I 426) e b = 2 := by
      have h9 := rn_all (T := I 426) (e := e) (k := 2) (p := b) (q := b) (Nat.le_refl _) (by omega)
      exact (kd_lt (isK_lt h9)).trans (isK_kc h9)
    have een : en (I 426) e b = p' := (en_2 hk2).trans hr
    refine a_l0 rfl rfl rfl ?_
    refine a_geti rfl gfX12_81_12 rfl ?_
    refine a_top (y := nI p') (Pp.pu (Rd.pp h)) ?_
    refine a_l0 rfl rfl rfl ?_
    refine a_geti rfl gfX12_91_12 rfl ?_
    refine a_top (y := nI b) (Rd.be h) ?_
    refine a_s rfl rfl ?_
    refine a_top (y := nI (p' - b)) (nI_sub hbp) ?_
    refine a_s rfl rfl ?_
    refine a_ic_gt rfl (fun c => no (if_neg fun z => ?_)) (fun c3 => ?_)
    · have c := (nI_lt_iff (a := 3) (b := p' - b) (by decide) (by omega)).mp c
      have z2 := z.2.1
      rw [vl_2 hk2, een, if_pos c] at z2
      exact absurd (Int32.le_trans h0 z2) (by decide)
    have h3 : p' - b ≤ 3 := Nat.not_lt.mp fun z => c3 ((nI_lt_iff (a := 3) (b := p' - b) (by decide) (by omega)).mpr z)
    have ev : vl (I 426) e b = nuF (I 426) b (if p' - b < 3 then p' - b else 3) := by
      rw [vl_2 hk2, een, if_neg (by omega)]
      by_cases c : p' - b < 3
      · rw [if_pos c]
      · rw [if_neg c, show p' - b = 3 by omega]
    rw [← ev]
    rw [← ev] at no
    refine a_l3 rfl rfl rfl ?_
    refine a_l1 rfl rfl rfl ?_
    refine a_ic_lt rfl (fun c => no (if_neg fun z => absurd c (Int32.not_lt.mpr z.2.1))) (fun c1 => ?_)
    refine a_l3 rfl rfl rfl ?_
    refine a_l2 rfl rfl rfl ?_
    refine a_ic_le rfl (fun c2 => ?_) (fun c2 => no (if_neg fun z => c2 z.2.2))
    refine a_l3 rfl rfl rfl ?_
    refine a_iret rfl rfl ⟨?_, J, rfl, ?_⟩
    · rw [show nm (I 426) e b x y = vl (I 426) e b from if_pos ⟨hk2, Int32.not_lt.mp c1, c2⟩]
    · rw [hr]
      exact h
  | true =>
    refine a_if_eq rfl (fun z => absurd z (by decide)) (fun _ => ?_)
    have hb' := isK_lt ck
    have back : ∀ a' : Int32, a' = nuF (I 426) b (if p' + 1 - b < 3 then p' + 1 - b else 3) → AW S m_X12_number 14 (fun v h' => v = some (.int (nm (I 426) e b x y)) ∧ ∃ J, h' = hp J L w1 w2 t ∧ Rd e p b (rn (I 426) e 2 b) I J) nX 0 0 51 [some (.ref 420), some (.int x), some (.int y), some (.int (nuF (I 426) b (if p' - b < 3 then p' - b else 3)))] [.int a'] (hp J L w1 w2 t) := by
      intro a' ha'
      refine a_s3 rfl rfl rfl rfl rfl rfl ?_
      refine a_l0 rfl rfl rfl ?_
      refine a_s rfl rfl ?_
      refine a_geti rfl gfX12_81_12 rfl ?_
      refine a_top (y := nI p') (Pp.pu (Rd.pp h)) ?_
      refine a_s rfl rfl ?_
      refine a_s rfl rfl ?_
      refine a_top (y := nI (p' + 1)) ((nI_succ _).symm) ?_
      refine a_puti rfl pfX12_81_12 rfl ?_
      refine a_goto rfl ?_
      rw [ha']
      exact ih (e - (p' + 1)) _ _ (by omega) ⟨_, p' + 1, rfl, rfl, Rd.up h hb', hr.trans (rn_t ck), rfl⟩
    refine a_l0 rfl rfl rfl ?_
    refine a_geti rfl gfX12_81_12 rfl ?_
    refine a_top (y := nI p') (Pp.pu (Rd.pp h)) ?_
    refine a_l0 rfl rfl rfl ?_
    refine a_geti rfl gfX12_91_12 rfl ?_
    refine a_top (y := nI b) (Rd.be h) ?_
    refine a_s rfl rfl ?_
    refine a_top (y := nI (p' - b)) (nI_sub hbp) ?_
    refine a_s rfl rfl ?_
    refine a_ic_ge rfl (fun c => ?_) (fun c => ?_)
    · have h3 := nI_ge_of (b := 3) c (by omega) (by decide)
      refine a_l3 rfl rfl rfl ?_
      exact back _ (by rw [if_neg (by omega), if_neg (by omega)])
    · have h3 := nI_lt_of (b := 3) c (by omega) (by decide)
      refine a_s rfl rfl ?_
      refine a_l3 rfl rfl rfl ?_
      refine a_s rfl rfl ?_
      refine a_l0 rfl rfl rfl ?_
      refine a_getq rfl gfX12_29_12 rfl (rfl) ?_
      refine a_l0 rfl rfl rfl ?_
      refine a_geti rfl gfX12_81_12 rfl ?_
      refine a_top (y := nI p') (Pp.pu (Rd.pp h)) ?_
      refine a_baldv (v := I 426 p') rfl (n := 400) rfl (inI_nI (by omega) (by omega)) (by rw [nI_clamp (by omega), Rd.T h]) ?_
      refine a_s rfl rfl ?_
      refine a_s rfl rfl ?_
      refine a_s rfl rfl ?_
      refine a_goto rfl ?_
      refine back _ ?_
      rw [if_pos h3]
      have e1 : (if p' + 1 - b < 3 then p' + 1 - b else 3) = (p' - b) + 1 := by
        by_cases c4 : p' + 1 - b < 3
        · rw [if_pos c4]
          omega
        · rw [if_neg c4]
          omega
      rw [e1]
      show _ = nuF (I 426) b (p' - b) * 10 + I 426 (b + (p' - b)) - 48
      rw [show b + (p' - b) = p' by omega, Int32.mul_comm]
end T79g
end
