/-! ===== the class's reader of conditions ===== -/
section T79d
variable {S : aS} {I : Nat → Nat → Int32} {L : Nat → Nat → Int64} {w1 w2 t : Nat} {e b : Nat} {T : Nat → Int32} {st o : List Int32} {d : Int32} {R : PR}
set_option maxRecDepth 100000
/-- a row's head, the latest first -/
def RowL (f : Nat → Int32) : List Int32 → Prop
  | [] => True
  | x :: r => f r.length = x ∧ RowL f r
theorem RowL.up {J : Nat → Nat → Int32} {p k : Nat} {v : Int32} : ∀ {r : List Int32}, RowL (J p) r → r.length ≤ k → RowL (up2 J p k v p) r := by
  intro r
  induction r with
  | nil => exact fun _ _ => trivial
  | cons x r ih =>
    intro h hk
    have hk : r.length + 1 ≤ k := hk
    exact ⟨(up2_ne (Or.inr (by omega))).trans h.1, ih h.2 (by omega)⟩
theorem RowL.ad {J : Nat → Nat → Int32} {p : Nat} {v : Int32} {r : List Int32} (h : RowL (J p) r) : RowL (up2 J p r.length v p) (v :: r) := ⟨up2_at, RowL.up h (Nat.le_refl _)⟩
/-- what a condition may change -/
def sC (q k : Nat) : Bool := Nat.beq q 221 || (Nat.beq q 234 || (Nat.beq q 231 || ((Nat.beq q 220 && (Nat.beq k 4 || Nat.beq k 5)) || (Nat.beq q 226 && Nat.beq k 1))))
theorem sC_of {q k : Nat} (h : sC q k = false) : q ≠ 221 := fun z => by
  subst z
  cases h
theorem sC_tok : ∀ q, 222 ≤ q → q ≤ 225 → ∀ k, sC q k = false := by
  intro q h1 h2 k
  have e1 : Nat.beq q 221 = false := beqF (by omega)
  have e2 : Nat.beq q 234 = false := beqF (by omega)
  have e3 : Nat.beq q 231 = false := beqF (by omega)
  have e4 : Nat.beq q 220 = false := beqF (by omega)
  have e5 : Nat.beq q 226 = false := beqF (by omega)
  simp [sC, e1, e2, e3, e4, e5]
theorem Fm.nx {J J' : Nat → Nat → Int32} (h : Fm sC I J) (f : ∀ q, q ≠ 221 → J' q = J q) : Fm sC I J' := fun q k hq => by
  rw [f q (sC_of hq)]
  exact h q k hq
/-- the reader: what is at hand, what waits, how deep, what was emitted -/
def Lr (T : Nat → Int32) (e b w : Nat) (st : List Int32) (d : Int32) (o : List Int32) (J : Nat → Nat → Int32) : Prop := At T e b w J ∧ (J 220 4 = nI st.length ∧ J 220 5 = d ∧ RowL (J 234) st) ∧ (J 226 1 = nI o.length ∧ RowL (J 231) o) ∧ e ≤ 400
theorem Lr.at {w : Nat} {J : Nat → Nat → Int32} (h : Lr T e b w st d o J) : At T e b w J := h.1
theorem Lr.hd {w : Nat} {J : Nat → Nat → Int32} (h : Lr T e b w st d o J) : J 220 4 = nI st.length := h.2.1.1
theorem Lr.de {w : Nat} {J : Nat → Nat → Int32} (h : Lr T e b w st d o J) : J 220 5 = d := h.2.1.2.1
theorem Lr.ro {w : Nat} {J : Nat → Nat → Int32} (h : Lr T e b w st d o J) : RowL (J 234) st := h.2.1.2.2
theorem Lr.cl {w : Nat} {J : Nat → Nat → Int32} (h : Lr T e b w st d o J) : J 226 1 = nI o.length := h.2.2.1.1
theorem Lr.co {w : Nat} {J : Nat → Nat → Int32} (h : Lr T e b w st d o J) : RowL (J 231) o := h.2.2.1.2
theorem Lr.e4 {w : Nat} {J : Nat → Nat → Int32} (h : Lr T e b w st d o J) : e ≤ 400 := h.2.2.2
theorem Lr.be {w : Nat} {J : Nat → Nat → Int32} (h : Lr T e b w st d o J) : b ≤ 400 := Nat.le_trans (At.le (Lr.at h)) (Lr.e4 h)
theorem Lr.mv {w b2 w' : Nat} {J J' : Nat → Nat → Int32} (h : Lr T e b w st d o J) (hA : At T e b2 w' J') (f : ∀ q, q ≠ 221 → J' q = J q) : Lr T e b2 w' st d o J' := by
  obtain ⟨-, ⟨h1, h2, h3⟩, ⟨h4, h5⟩, h6⟩ := h
  refine ⟨hA, ⟨?_, ?_, ?_⟩, ⟨?_, ?_⟩, h6⟩
  · rw [f 220 (by decide)]; exact h1
  · rw [f 220 (by decide)]; exact h2
  · rw [f 234 (by decide)]; exact h3
  · rw [f 226 (by decide)]; exact h4
  · rw [f 231 (by decide)]; exact h5
theorem Lr.em {w : Nat} {J : Nat → Nat → Int32} {x : Int32} (h : Lr T e b w st d o J) : Lr T e b w st d (x :: o) (up2 (up2 J 231 o.length x) 226 1 (nI (o.length + 1))) := by
  obtain ⟨h0, ⟨h1, h2, h3⟩, ⟨h4, h5⟩, h6⟩ := h
  refine ⟨At.eq h0 (fun q g1 g2 => by rw [up2_row (by omega), up2_row (by omega)]), ⟨?_, ?_, ?_⟩, ⟨up2_at, ?_⟩, h6⟩
  · rw [up2_row (by decide), up2_row (by decide)]; exact h1
  · rw [up2_row (by decide), up2_row (by decide)]; exact h2
  · rw [up2_row (by decide), up2_row (by decide)]; exact h3
  · rw [up2_row (by decide)]; exact RowL.ad h5
theorem Lr.ho {w : Nat} {J : Nat → Nat → Int32} {x : Int32} (h : Lr T e b w st d o J) : Lr T e b w (x :: st) d o (up2 (up2 J 234 st.length x) 220 4 (nI (st.length + 1))) := by
  obtain ⟨h0, ⟨h1, h2, h3⟩, ⟨h4, h5⟩, h6⟩ := h
  refine ⟨At.eq h0 (fun q g1 g2 => by rw [up2_row (by omega), up2_row (by omega)]), ⟨up2_at, ?_, ?_⟩, ⟨?_, ?_⟩, h6⟩
  · rw [up2_ne (Or.inr (by decide)), up2_row (by decide)]; exact h2
  · rw [up2_row (by decide)]; exact RowL.ad h3
  · rw [up2_row (by decide), up2_row (by decide)]; exact h4
  · rw [up2_row (by decide), up2_row (by decide)]; exact h5
theorem Lr.dp {w : Nat} {J : Nat → Nat → Int32} {d2 : Int32} (h : Lr T e b w st d o J) : Lr T e b w st d2 o (up2 J 220 5 d2) := by
  obtain ⟨h0, ⟨h1, h2, h3⟩, ⟨h4, h5⟩, h6⟩ := h
  refine ⟨At.eq h0 (fun q g1 g2 => by rw [up2_row (by omega)]), ⟨?_, up2_at, ?_⟩, ⟨?_, ?_⟩, h6⟩
  · rw [up2_ne (Or.inr (by decide))]; exact h1
  · rw [up2_row (by decide)]; exact h3
  · rw [up2_row (by decide)]; exact h4
  · rw [up2_row (by decide)]; exact h5
theorem Lr.po {w : Nat} {J : Nat → Nat → Int32} {x : Int32} (h : Lr T e b w (x :: st) d o J) : Lr T e b w st d o (up2 J 220 4 (nI st.length)) := by
  obtain ⟨h0, ⟨h1, h2, h3⟩, ⟨h4, h5⟩, h6⟩ := h
  refine ⟨At.eq h0 (fun q g1 g2 => by rw [up2_row (by omega)]), ⟨up2_at, ?_, ?_⟩, ⟨?_, ?_⟩, h6⟩
  · rw [up2_ne (Or.inr (by decide))]; exact h2
  · rw [up2_row (by decide)]; exact h3.2
  · rw [up2_row (by decide)]; exact h4
  · rw [up2_row (by decide)]; exact h5
theorem emitH_eq {n : Nat} {x : Int32} (h : I 226 1 = nI n) (hn : n < 400) : emitH I x = up2 (up2 I 231 n x) 226 1 (nI (n + 1)) := by
  unfold emitH
  rw [h, setF_nI hn (by decide), ← nI_succ]
theorem emitH_sC {x : Int32} : Fm sC I (emitH I x) := by
  unfold emitH
  exact Fm.up (Fm.st Fm.rf (fun _ => rfl)) rfl
theorem At.emH {w : Nat} {x : Int32} (h : At T e b w I) : At T e b w (emitH I x) := At.eq h (fun q g1 g2 => by
  unfold emitH
  rw [up2_row (by omega), setF_row (by omega)])
theorem f_partAtHand (hw : WdS S) (h : At T e b w2 I) : SpE S m_X3_partAtHand 12 [.ref 220] (hp I L w1 w2 t) (some (.int (prt T e b))) (hp I L w1 w2 t) := by
  refine SpE_of ok_X3_partAtHand rfl rfl ?_
  show AW S m_X3_partAtHand 12 _ _ 0 0 0 [some (.ref 220), none] [] (hp I L w1 w2 t)
  have k4 := kd_4 (T := T) (e := e) (b := b) rfl
  refine a_l0 rfl rfl rfl ?_
  refine a_getq rfl gfX3_28_3 rfl (rfl) ?_
  refine a_getiv (v := nI (kd T e b)) rfl gfX3_138_9 rfl (At.ki h) ?_
  refine a_s rfl rfl ?_
  refine a_ic_ne rfl (fun c => ?_) (fun c => ?_)
  · have c : kd T e b ≠ 2 := fun z => c (congrArg nI z)
    refine a_l0 rfl rfl rfl ?_
    refine a_getq rfl gfX3_28_3 rfl (rfl) ?_
    refine a_getr rfl gfX3_96_9 rfl ?_
    refine a_pop1 (show _ = rv w2 :: _ from rfl) ?_
    by_cases c1 : kd T e b = 1 ∧ wd T e b < 27
    · have e2 : w2 = 100 + wd T e b + 1 := (At.wo h).trans (wr_of c1.1 c1.2)
      subst e2
      refine a_s1 rfl rfl rfl rfl rfl rfl ?_
      refine a_l1 rfl rfl rfl ?_
      refine a_ifnonnull_t rfl ?_
      refine a_l1 rfl rfl rfl ?_
      refine a_getc rfl (inC10 (i := 53) rfl rfl) (hw.pa c1.2) ?_
      refine a_iret rfl rfl ⟨?_, rfl⟩
      unfold prt
      rw [if_neg c, if_pos c1.1]
    · have e2 : w2 = 0 := (At.wo h).trans (wr_no c1)
      subst e2
      refine a_s1 rfl rfl rfl rfl rfl rfl ?_
      refine a_l1 rfl rfl rfl ?_
      refine a_ifnonnull_f rfl ?_
      refine a_s rfl rfl ?_
      refine a_goto rfl ?_
      refine a_iret rfl rfl ⟨?_, rfl⟩
      unfold prt
      rw [if_neg c]
      by_cases c2 : kd T e b = 1
      · have := wd_le (T := T) (e := e) (b := b)
        have e3 : wd T e b = 27 := by
          have : ¬ wd T e b < 27 := fun z => c1 ⟨c2, z⟩
          omega
        rw [if_pos c2, e3]
        rfl
      · rw [if_neg c2]
  · have c := nI_inj (b := 2) (by omega) (by decide) c
    refine a_l0 rfl rfl rfl ?_
    refine a_getq rfl gfX3_28_3 rfl (rfl) ?_
    refine a_getiv (v := vl T e b) rfl gfX3_141_9 rfl (At.va h) ?_
    refine a_iret rfl rfl ⟨?_, rfl⟩
    unfold prt
    rw [if_pos c]
def jn (T : Nat → Int32) (e b : Nat) : Int32 := if isWd T e b 20 = true then 2004 else if isWd T e b 19 = true then 2005 else -1
theorem f_joinAtHand (hw : WdS S) (h : At T e b w2 I) : SpE S m_X3_joinAtHand 12 [.ref 220] (hp I L w1 w2 t) (some (.int (jn T e b))) (hp I L w1 w2 t) := by
  have kk2 := At.wk h
  have hi : ∀ k, k < 27 → (w2 = 100 + k + 1 ↔ isWd T e b k = true) := fun k hk => by
    rw [At.wo h]
    exact wr_is hk
  refine SpE_of ok_X3_joinAtHand rfl rfl ?_
  show AW S m_X3_joinAtHand 12 _ _ 0 0 0 [some (.ref 220)] [] (hp I L w1 w2 t)
  refine a_l0 rfl rfl rfl ?_
  refine a_getq rfl gfX3_28_3 rfl (rfl) ?_
  refine a_getr rfl gfX3_96_9 rfl ?_
  refine a_pop1 (show _ = rv w2 :: _ from rfl) ?_
  refine a_gets rfl (inC4 (i := 155) rfl rfl) (hw.st (i := 20) (by decide)) ?_
  refine a_acmp_ne (rx := w2) (ry := 100 + 20 + 1) rfl (kk2.ac hw) (WK.ck hw (i := 20) (by decide)) (fun c10 => ?_) (fun c10 => ?_)
  · have d1 : ¬ isWd T e b 20 = true := fun z => c10 ((hi 20 (by decide)).mpr z)
    refine a_l0 rfl rfl rfl ?_
    refine a_getq rfl gfX3_28_3 rfl (rfl) ?_
    refine a_getr rfl gfX3_96_9 rfl ?_
    refine a_pop1 (show _ = rv w2 :: _ from rfl) ?_
    refine a_gets rfl (inC4 (i := 157) rfl rfl) (hw.st (i := 19) (by decide)) ?_
    refine a_acmp_ne (rx := w2) (ry := 100 + 19 + 1) rfl (kk2.ac hw) (WK.ck hw (i := 19) (by decide)) (fun c27 => ?_) (fun c27 => ?_)
    · have d2 : ¬ isWd T e b 19 = true := fun z => c27 ((hi 19 (by decide)).mpr z)
      refine a_s rfl rfl ?_
      refine a_iret rfl rfl ⟨?_, rfl⟩
      unfold jn
      rw [if_neg d1, if_neg d2]
    · have d2 := (hi 19 (by decide)).mp c27
      refine a_s rfl rfl ?_
      refine a_goto rfl ?_
      refine a_iret rfl rfl ⟨?_, rfl⟩
      unfold jn
      rw [if_neg d1, if_pos d2]
  · have d1 := (hi 20 (by decide)).mp c10
    refine a_s rfl rfl ?_
    refine a_iret rfl rfl ⟨?_, rfl⟩
    unfold jn
    rw [if_pos d1]
theorem f_hold {n : Nat} (hs : I 220 4 = nI n) (hn : n < 32) {x : Int32} : SpE S m_X3_hold 13 [.ref 220, .int x] (hp I L w1 w2 t) none (hp (up2 (up2 I 234 n x) 220 4 (nI (n + 1))) L w1 w2 t) := by
  refine SpE_of ok_X3_hold rfl rfl ?_
  show AW S m_X3_hold 13 _ _ 0 0 0 [some (.ref 220), some (.int x)] [] (hp I L w1 w2 t)
  refine a_l0 rfl rfl rfl ?_
  refine a_getq rfl gfX3_20_3 rfl (rfl) ?_
  refine a_l0 rfl rfl rfl ?_
  refine a_getiv (v := nI n) rfl gfX3_68_3 rfl (hs) ?_
  refine a_l1 rfl rfl rfl ?_
  refine a_eSN0 rfl lX3_112 mo_X11_setAt (sp_X11_setAt rfl) rfl rfl rfl rfl ?_
  rw [setF_nI hn (by decide)]
  refine a_l0 rfl rfl rfl ?_
  refine a_s rfl rfl ?_
  refine a_getiv (v := nI n) rfl gfX3_68_3 rfl ((congrFun (up2_row (by decide)) 4).trans hs) ?_
  refine a_s rfl rfl ?_
  refine a_s rfl rfl ?_
  refine a_top (y := nI (n + 1)) ((nI_succ n).symm) ?_
  refine a_puti rfl pfX3_68_3 rfl ?_
  exact a_vret rfl rfl ⟨rfl, rfl⟩
theorem popF_len {op : Int32} : ∀ (st : List Int32) (d : Int32) (o : List Int32), (popF op st d o).1.length + (popF op st d o).2.2.length = st.length + o.length := by
  intro st
  induction st with
  | nil => exact fun d o => rfl
  | cons x r ih =>
    intro d o
    by_cases c : x ≤ op
    · rw [show popF op (x :: r) d o = popF op r (if x = 2003 then d - 1 else d) (x :: o) from if_pos c, ih]
      simp only [List.length_cons]
      omega
    · rw [show popF op (x :: r) d o = (x :: r, d, o) from if_neg c]
theorem brk_popF : ∀ (st : List Int32) (d : Int32) (o : List Int32), brk (popF 2005 st d o).1 = brk st := by
  intro st
  induction st with
  | nil => exact fun d o => rfl
  | cons x r ih =>
    intro d o
    by_cases c : x ≤ 2005
    · rw [show popF 2005 (x :: r) d o = popF 2005 r (if x = 2003 then d - 1 else d) (x :: o) from if_pos c, ih, brk_in c]
    · rw [show popF 2005 (x :: r) d o = (x :: r, d, o) from if_neg c]
theorem popF_hd : ∀ (st : List Int32) (d : Int32) (o : List Int32) (x : Int32) (r : List Int32), (popF 2005 st d o).1 = x :: r → ¬ x ≤ 2005 := by
  intro st
  induction st with
  | nil => exact fun d o x r z => by cases z
  | cons y s ih =>
    intro d o x r z
    by_cases c : y ≤ 2005
    · rw [show popF 2005 (y :: s) d o = popF 2005 s (if y = 2003 then d - 1 else d) (y :: o) from if_pos c] at z
      exact ih _ _ x r z
    · rw [show popF 2005 (y :: s) d o = (y :: s, d, o) from if_neg c] at z
      cases z
      exact c
theorem f_emitHeld (h : Lr T e b w2 st d o I) (hB : o.length + st.length ≤ b) (h32 : st.length ≤ 32) {op : Int32} : Sp S m_X3_emitHeld 14 0 0 [.ref 220, .int op] (hp I L w1 w2 t) (fun v h' => v = none ∧ ∃ J, h' = hp J L w1 w2 t ∧ Fm sC I J ∧ Lr T e b w2 (popF op st d o).1 (popF op st d o).2.1 (popF op st d o).2.2 J) nX := by
  have hb4 := Lr.be h
  refine Sp_of ok_X3_emitHeld rfl rfl ?_
  show AW S m_X3_emitHeld 14 _ _ 0 0 0 [some (.ref 220), some (.int op), none] [] (hp I L w1 w2 t)
  refine a_inv (n := st.length) (fun m ls h => ∃ s' d' o' J, ls = [some (.ref 220), some (.int op), none] ∧ h = hp J L w1 w2 t ∧ Lr T e b w2 s' d' o' J ∧ Fm sC I J ∧ popF op s' d' o' = popF op st d o ∧ m = s'.length ∧ o'.length + s'.length ≤ b ∧ s'.length ≤ 32) ⟨st, d, o, I, rfl, rfl, h, Fm.rf, rfl, rfl, hB, h32⟩ ?_
  rintro m _ _ ⟨s', d', o', J, rfl, rfl, hL, hF, hp', hm, hB', h32'⟩ ih
  refine a_l0 rfl rfl rfl ?_
  refine a_getiv (v := nI s'.length) rfl gfX3_68_3 rfl (Lr.hd hL) ?_
  cases s' with
  | nil =>
    refine a_if_le rfl (fun _ => ?_) (fun c => absurd (by decide) c)
    refine a_vret rfl rfl ⟨rfl, J, rfl, hF, ?_⟩
    rw [← hp']
    exact hL
  | cons x r =>
    have hr : o'.length + (r.length + 1) ≤ b := hB'
    have hr32 : r.length + 1 ≤ 32 := h32'
    refine a_if_le rfl (fun c => ?_) (fun _ => ?_)
    · exfalso
      have z := Int32.le_iff_toInt_le.mp c
      rw [show (x :: r).length = r.length + 1 from rfl, nI_toInt (by omega), show (0 : Int32).toInt = 0 from rfl] at z
      omega
    refine a_l0 rfl rfl rfl ?_
    refine a_getq rfl gfX3_20_3 rfl (rfl) ?_
    refine a_l0 rfl rfl rfl ?_
    refine a_getiv (v := nI (r.length + 1)) rfl gfX3_68_3 rfl (Lr.hd hL) ?_
    refine a_s rfl rfl ?_
    refine a_s rfl rfl ?_
    refine a_top (y := nI r.length) (nI_dec r.length) ?_
    refine a_eSN1 rfl lX3_116 mo_X11_at (sp_X11_at rfl) rfl rfl rfl rfl ?_
    refine a_top (y := x) ((atF_nI (by omega) (by decide)).trans (Lr.ro hL).1) ?_
    refine a_l1 rfl rfl rfl ?_
    refine a_ic_gt rfl (fun c => ?_) (fun c => ?_)
    · refine a_vret rfl rfl ⟨rfl, J, rfl, hF, ?_⟩
      rw [← hp', show popF op (x :: r) d' o' = (x :: r, d', o') from if_neg (Int32.not_le.mpr c)]
      exact hL
    have hxo := Int32.not_lt.mp c
    have ep : popF op r (if x = 2003 then d' - 1 else d') (x :: o') = popF op st d o := by
      rw [← hp']
      exact (if_pos hxo).symm
    refine a_l0 rfl rfl rfl ?_
    refine a_s rfl rfl ?_
    refine a_getiv (v := nI (r.length + 1)) rfl gfX3_68_3 rfl (Lr.hd hL) ?_
    refine a_s rfl rfl ?_
    refine a_s rfl rfl ?_
    refine a_top (y := nI r.length) (nI_dec r.length) ?_
    refine a_puti rfl pfX3_68_3 rfl ?_
    have hL1 := Lr.po hL
    have hF1 : Fm sC I (up2 J 220 4 (nI r.length)) := Fm.up hF rfl
    refine a_l0 rfl rfl rfl ?_
    refine a_getq rfl gfX3_20_3 rfl (rfl) ?_
    refine a_l0 rfl rfl rfl ?_
    refine a_getiv (v := nI r.length) rfl gfX3_68_3 rfl (Lr.hd hL1) ?_
    refine a_eSN1 rfl lX3_116 mo_X11_at (sp_X11_at rfl) rfl rfl rfl rfl ?_
    refine a_top (y := x) ((atF_nI (by omega) (by decide)).trans ((congrFun (up2_row (by decide)) r.length).trans (Lr.ro hL).1)) ?_
    refine a_s2 rfl rfl rfl rfl rfl rfl ?_
    refine a_l2 rfl rfl rfl ?_
    refine a_s rfl rfl ?_
    have k63 : ∀ (d2 : Int32) (K : Nat → Nat → Int32), Lr T e b w2 r d2 o' K → Fm sC I K → d2 = (if x = 2003 then d' - 1 else d') → AW S m_X3_emitHeld 14 (fun v h' => v = none ∧ ∃ J, h' = hp J L w1 w2 t ∧ Fm sC I J ∧ Lr T e b w2 (popF op st d o).1 (popF op st d o).2.1 (popF op st d o).2.2 J) nX 0 0 63 [some (.ref 220), some (.int op), some (.int x)] [] (hp K L w1 w2 t) := by
      intro d2 K hK hFK hd2
      refine a_l0 rfl rfl rfl ?_
      refine a_getq rfl gfX3_14_3 rfl (rfl) ?_
      refine a_l2 rfl rfl rfl ?_
      refine a_eV0 rfl lX3_120 mo_X2_emit q_X2_emit rfl rfl rfl ⟨2, _, rfl, rfl, rfl⟩ rfl ?_
      rw [emitH_eq (Lr.cl hK) (by omega)]
      refine a_goto rfl ?_
      refine a_less (ih r.length _ _ (by rw [hm]; exact Nat.lt_succ_self _) ⟨r, d2, x :: o', _, rfl, rfl, Lr.em hK, Fm.up (Fm.up hFK rfl) rfl, by rw [hd2]; exact ep, rfl, by simp only [List.length_cons]; omega, by omega⟩) ⟨rfl, rfl, trivial⟩
    refine a_ic_ne rfl (fun c3 => ?_) (fun c3 => ?_)
    · exact k63 d' _ hL1 hF1 (if_neg c3).symm
    · refine a_l0 rfl rfl rfl ?_
      refine a_s rfl rfl ?_
      refine a_getiv (v := d') rfl gfX3_72_3 rfl (Lr.de hL1) ?_
      refine a_s rfl rfl ?_
      refine a_s rfl rfl ?_
      refine a_puti rfl pfX3_72_3 rfl ?_
      exact k63 (d' - 1) _ (Lr.dp hL1) (Fm.up hF1 rfl) (if_pos c3).symm
theorem f_readSum (hw : WdS S) (h : Lr T e b w2 st d o I) (hB : o.length + st.length ≤ b) : Sp S m_X3_readSum 14 0 0 [.ref 220] (hp I L w1 w2 t) (fun v h' => v = some (.int (bI (sumP T e b o).1)) ∧ ∃ J w, h' = hp J L w1 w t ∧ Fm sC I J ∧ At T e (sumP T e b o).2.1 w J ∧ ((sumP T e b o).1 = true → Lr T e (sumP T e b o).2.1 w st d (sumP T e b o).2.2 J)) nX := by
  have hb4 := Lr.be h
  have hbe := At.le (Lr.at h)
  refine Sp_of ok_X3_readSum rfl rfl ?_
  show AW S m_X3_readSum 14 _ _ 0 0 0 [some (.ref 220), none, none] [] (hp I L w1 w2 t)
  refine a_l0 rfl rfl rfl ?_
  refine a_eV1 rfl lX3_135 mo_X3_partAtHand (f_partAtHand hw (Lr.at h)) rfl rfl rfl ⟨3, _, rfl, rfl, rfl⟩ rfl ?_
  refine a_s1 rfl rfl rfl rfl rfl rfl ?_
  refine a_l1 rfl rfl rfl ?_
  refine a_s rfl rfl ?_
  refine a_ic_ne rfl (fun c => ?_) (fun c => ?_)
  rotate_left
  · refine a_s rfl rfl ?_
    have e1 : sumP T e b o = (false, b, []) := if_pos c
    rw [e1]
    exact a_zret rfl rfl rfl ⟨rfl, I, w2, rfl, Fm.rf, Lr.at h, fun z => by cases z⟩
  have e1 : sumP T e b o = smL T e (nx T e b) (prt T e b :: o) := if_neg c
  have n1 := nx_lt (T := T) (prt_lt c)
  have n1e := nx_le (T := T) hbe
  refine a_l0 rfl rfl rfl ?_
  refine a_getq rfl gfX3_28_3 rfl (rfl) ?_
  refine a_gV rfl lX3_93 mo_X9_next (g_next hw (Lr.at h)) rfl rfl rfl ⟨9, _, rfl, rfl, rfl⟩ rfl (fun v' h' hv => ?_)
  obtain ⟨rfl, J1, wa, rfl, hA1, hf1⟩ := hv
  have h1 := Lr.mv h hA1 hf1
  have hF1 : Fm sC I J1 := Fm.nx Fm.rf hf1
  have he4 := Lr.e4 h
  refine a_l0 rfl rfl rfl ?_
  refine a_getq rfl gfX3_14_3 rfl (rfl) ?_
  refine a_l1 rfl rfl rfl ?_
  refine a_eV0 rfl lX3_120 mo_X2_emit q_X2_emit rfl rfl rfl ⟨2, _, rfl, rfl, rfl⟩ rfl ?_
  rw [emitH_eq (Lr.cl h1) (by omega)]
  refine a_s rfl rfl ?_
  refine a_s2 rfl rfl rfl rfl rfl rfl ?_
  refine a_inv (n := e - nx T e b) (fun m ls h => ∃ i b' w' o' x J, ls = [some (.ref 220), some (.int x), some (.int (nI i))] ∧ h = hp J L w1 w' t ∧ Lr T e b' w' st d o' J ∧ Fm sC I J ∧ smL T e b' o' = sumP T e b o ∧ o'.length + st.length ≤ b' ∧ i < b' ∧ m = e - b') ⟨0, nx T e b, wa, prt T e b :: o, prt T e b, _, rfl, rfl, Lr.em h1, Fm.up (Fm.up hF1 rfl) rfl, e1.symm, by simp only [List.length_cons]; omega, by omega, rfl⟩ ?_
  rintro m _ _ ⟨i, b', w', o', x, J, rfl, rfl, hL, hF, es, hB', hib, hm⟩ ih
  have hb' := At.le (Lr.at hL)
  refine a_l2 rfl rfl rfl ?_
  refine a_s rfl rfl ?_
  refine a_ic_ge rfl (fun c => absurd c (nI_ge (b := 400) (by omega) (by omega))) (fun _ => ?_)
  refine a_l0 rfl rfl rfl ?_
  refine a_getq rfl gfX3_28_3 rfl (rfl) ?_
  refine a_s rfl rfl ?_
  refine a_eV1 rfl lX3_108 mo_X9_isSign (f_isSign (Lr.at hL)) rfl rfl rfl ⟨9, _, rfl, rfl, rfl⟩ rfl ?_
  cases cs : sg T e b' 43 with
  | false =>
    refine a_if_eq rfl (fun _ => ?_) (fun z => absurd rfl z)
    refine a_s rfl rfl ?_
    rw [smL_f cs] at es
    rw [← es]
    exact a_zret rfl rfl rfl ⟨rfl, J, w', rfl, hF, Lr.at hL, fun _ => hL⟩
  | true =>
    refine a_if_eq rfl (fun z => absurd z (by decide)) (fun _ => ?_)
    have n2 := nx_lt (T := T) (sg_lt cs)
    have n2e := nx_le (T := T) hb'
    refine a_l0 rfl rfl rfl ?_
    refine a_getq rfl gfX3_28_3 rfl (rfl) ?_
    refine a_gV rfl lX3_93 mo_X9_next (g_next hw (Lr.at hL)) rfl rfl rfl ⟨9, _, rfl, rfl, rfl⟩ rfl (fun v' h' hv => ?_)
    obtain ⟨rfl, J2, wb, rfl, hA2, hf2⟩ := hv
    have h2 := Lr.mv hL hA2 hf2
    have hF2 : Fm sC I J2 := Fm.nx hF hf2
    refine a_l0 rfl rfl rfl ?_
    refine a_eV1 rfl lX3_135 mo_X3_partAtHand (f_partAtHand hw hA2) rfl rfl rfl ⟨3, _, rfl, rfl, rfl⟩ rfl ?_
    refine a_s1 rfl rfl rfl rfl rfl rfl ?_
    refine a_l1 rfl rfl rfl ?_
    refine a_s rfl rfl ?_
    refine a_ic_ne rfl (fun cp => ?_) (fun cp => ?_)
    rotate_left
    · refine a_s rfl rfl ?_
      rw [smL_n cs cp] at es
      rw [← es]
      exact a_zret rfl rfl rfl ⟨rfl, J2, wb, rfl, hF2, hA2, fun z => by cases z⟩
    have n3 := nx_lt (T := T) (prt_lt cp)
    have n3e := nx_le (T := T) n2e
    rw [smL_t cs cp] at es
    refine a_l0 rfl rfl rfl ?_
    refine a_getq rfl gfX3_28_3 rfl (rfl) ?_
    refine a_gV rfl lX3_93 mo_X9_next (g_next hw hA2) rfl rfl rfl ⟨9, _, rfl, rfl, rfl⟩ rfl (fun v' h' hv => ?_)
    obtain ⟨rfl, J3, wc, rfl, hA3, hf3⟩ := hv
    have h3 := Lr.mv h2 hA3 hf3
    have hF3 : Fm sC I J3 := Fm.nx hF2 hf3
    refine a_l0 rfl rfl rfl ?_
    refine a_getq rfl gfX3_14_3 rfl (rfl) ?_
    refine a_l1 rfl rfl rfl ?_
    refine a_eV0 rfl lX3_120 mo_X2_emit q_X2_emit rfl rfl rfl ⟨2, _, rfl, rfl, rfl⟩ rfl ?_
    rw [emitH_eq (Lr.cl h3) (by omega)]
    have h4 := Lr.em (x := prt T e (nx T e b')) h3
    refine a_l0 rfl rfl rfl ?_
    refine a_getq rfl gfX3_14_3 rfl (rfl) ?_
    refine a_s rfl rfl ?_
    refine a_eV0 rfl lX3_120 mo_X2_emit q_X2_emit rfl rfl rfl ⟨2, _, rfl, rfl, rfl⟩ rfl ?_
    rw [emitH_eq (Lr.cl h4) (by simp only [List.length_cons]; omega)]
    refine a_iv2 (y := nI (i + 1)) rfl rfl rfl ((nI_succ i).symm) ?_
    refine a_goto rfl ?_
    exact ih (e - nx T e (nx T e b')) _ _ (by omega) ⟨i + 1, _, wc, _, _, _, rfl, rfl, Lr.em h4, Fm.up (Fm.up (Fm.up (Fm.up hF3 rfl) rfl) rfl) rfl, es, by simp only [List.length_cons]; omega, by omega, rfl⟩
end T79d
