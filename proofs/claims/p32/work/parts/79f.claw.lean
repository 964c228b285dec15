/-! ===== the class's reader of laws: a line, all lines, a law ===== -/
section T79f
variable {S : aS} {I : Nat → Nat → Int32} {L : Nat → Nat → Int64} {w1 w2 t : Nat} {e b : Nat} {T : Nat → Int32} {o : List Int32} {ls : List LnT}
set_option maxRecDepth 100000
theorem f_takeKind (hw : WdS S) (h : At T e b w2 I) : Sp S m_X3_takeKind 15 0 0 [.ref 220] (hp I L w1 w2 t) (fun v h' => v = some (.int (kndP T e b)) ∧ ∃ J w, h' = hp J L w1 w t ∧ At T e (if kndP T e b = -1 then b else nx T e b) w J ∧ ∀ q, q ≠ 221 → J q = I q) nX := by
  refine Sp_of ok_X3_takeKind rfl rfl ?_
  show AW S m_X3_takeKind 15 _ _ 0 0 0 [some (.ref 220)] [] (hp I L w1 w2 t)
  refine a_l0 rfl rfl rfl ?_
  refine a_getq rfl gfX3_28_3 rfl (rfl) ?_
  refine a_gets rfl (inC4 (i := 77) rfl rfl) (hw.st (i := 15) (by decide)) ?_
  refine a_gV rfl lX3_48 mo_X9_takeWord (f_takeWord (k := 15) hw h (by decide)) rfl rfl rfl ⟨9, _, rfl, rfl, rfl⟩ rfl (fun v' h' hv => ?_)
  obtain ⟨rfl, J1, wa, rfl, hA1, hf1⟩ := hv
  cases c1 : isWd T e b 15 with
  | true =>
    refine a_if_eq rfl (fun z => absurd z (by decide)) (fun _ => ?_)
    rw [c1, if_pos rfl] at hA1
    have ek : kndP T e b = 0 := if_pos c1
    rw [ek, if_neg (by decide)]
    refine a_s rfl rfl ?_
    exact a_iret rfl rfl ⟨rfl, J1, wa, rfl, hA1, hf1⟩
  | false =>
  refine a_if_eq rfl (fun _ => ?_) (fun z => absurd rfl z)
  rw [c1, if_neg (by decide)] at hA1
  refine a_l0 rfl rfl rfl ?_
  refine a_getq rfl gfX3_28_3 rfl (rfl) ?_
  refine a_gets rfl (inC4 (i := 83) rfl rfl) (hw.st (i := 16) (by decide)) ?_
  refine a_gV rfl lX3_48 mo_X9_takeWord (f_takeWord (k := 16) hw hA1 (by decide)) rfl rfl rfl ⟨9, _, rfl, rfl, rfl⟩ rfl (fun v' h' hv => ?_)
  obtain ⟨rfl, J2, wb, rfl, hA2, hf2⟩ := hv
  cases c2 : isWd T e b 16 with
  | true =>
    refine a_if_eq rfl (fun z => absurd z (by decide)) (fun _ => ?_)
    rw [c2, if_pos rfl] at hA2
    have ek : kndP T e b = 1 := (if_neg (by rw [c1]; decide)).trans (if_pos c2)
    rw [ek, if_neg (by decide)]
    refine a_s rfl rfl ?_
    exact a_iret rfl rfl ⟨rfl, J2, wb, rfl, hA2, fun q hq => (hf2 q hq).trans (hf1 q hq)⟩
  | false =>
  refine a_if_eq rfl (fun _ => ?_) (fun z => absurd rfl z)
  rw [c2, if_neg (by decide)] at hA2
  refine a_l0 rfl rfl rfl ?_
  refine a_getq rfl gfX3_28_3 rfl (rfl) ?_
  refine a_gets rfl (inC4 (i := 85) rfl rfl) (hw.st (i := 17) (by decide)) ?_
  refine a_gV rfl lX3_48 mo_X9_takeWord (f_takeWord (k := 17) hw hA2 (by decide)) rfl rfl rfl ⟨9, _, rfl, rfl, rfl⟩ rfl (fun v' h' hv => ?_)
  obtain ⟨rfl, J3, wc, rfl, hA3, hf3⟩ := hv
  have hf : ∀ q, q ≠ 221 → J3 q = I q := fun q hq => (hf3 q hq).trans ((hf2 q hq).trans (hf1 q hq))
  cases c3 : isWd T e b 17 with
  | true =>
    refine a_if_eq rfl (fun z => absurd z (by decide)) (fun _ => ?_)
    rw [c3, if_pos rfl] at hA3
    have ek : kndP T e b = 2 := (if_neg (by rw [c1]; decide)).trans ((if_neg (by rw [c2]; decide)).trans (if_pos c3))
    rw [ek, if_neg (by decide)]
    refine a_s rfl rfl ?_
    refine a_goto rfl ?_
    exact a_iret rfl rfl ⟨rfl, J3, wc, rfl, hA3, hf⟩
  | false =>
    refine a_if_eq rfl (fun _ => ?_) (fun z => absurd rfl z)
    rw [c3, if_neg (by decide)] at hA3
    have ek : kndP T e b = -1 := (if_neg (by rw [c1]; decide)).trans ((if_neg (by rw [c2]; decide)).trans (if_neg (by rw [c3]; decide)))
    rw [ek, if_pos rfl]
    refine a_s rfl rfl ?_
    exact a_iret rfl rfl ⟨rfl, J3, wc, rfl, hA3, hf⟩
theorem f_openLine {k n : Nat} (h0 : I 226 0 = nI k) (hk : k < 12) (h1 : I 226 1 = nI n) {x y : Int32} : SpE S m_X2_openLine 13 [.ref 226, .int x, .int y] (hp I L w1 w2 t) none (hp (up2 (up2 (up2 I 227 k x) 228 k y) 229 k (nI n)) L w1 w2 t) := by
  refine SpE_of ok_X2_openLine rfl rfl ?_
  show AW S m_X2_openLine 13 _ _ 0 0 0 [some (.ref 226), some (.int x), some (.int y)] [] (hp I L w1 w2 t)
  refine a_l0 rfl rfl rfl ?_
  refine a_getq rfl gfX2_15_2 rfl (rfl) ?_
  refine a_l0 rfl rfl rfl ?_
  refine a_getiv (v := nI k) rfl gfX2_11_2 rfl (h0) ?_
  refine a_l1 rfl rfl rfl ?_
  refine a_eSN0 rfl lX2_44 mo_X11_setAt (sp_X11_setAt rfl) rfl rfl rfl rfl ?_
  rw [setF_nI hk (by decide)]
  refine a_l0 rfl rfl rfl ?_
  refine a_getq rfl gfX2_19_2 rfl (rfl) ?_
  refine a_l0 rfl rfl rfl ?_
  refine a_getiv (v := nI k) rfl gfX2_11_2 rfl ((congrFun (up2_row (by decide)) 0).trans h0) ?_
  refine a_l2 rfl rfl rfl ?_
  refine a_eSN0 rfl lX2_44 mo_X11_setAt (sp_X11_setAt rfl) rfl rfl rfl rfl ?_
  rw [setF_nI hk (by decide)]
  refine a_l0 rfl rfl rfl ?_
  refine a_getq rfl gfX2_22_2 rfl (rfl) ?_
  refine a_l0 rfl rfl rfl ?_
  refine a_getiv (v := nI k) rfl gfX2_11_2 rfl ((congrFun (up2_row (by decide)) 0).trans ((congrFun (up2_row (by decide)) 0).trans h0)) ?_
  refine a_l0 rfl rfl rfl ?_
  refine a_getiv (v := nI n) rfl gfX2_41_2 rfl ((congrFun (up2_row (by decide)) 1).trans ((congrFun (up2_row (by decide)) 1).trans h1)) ?_
  refine a_eSN0 rfl lX2_44 mo_X11_setAt (sp_X11_setAt rfl) rfl rfl rfl rfl ?_
  rw [setF_nI hk (by decide)]
  exact a_vret rfl rfl ⟨rfl, rfl⟩
theorem f_closeLine {k n : Nat} (h0 : I 226 0 = nI k) (hk : k < 12) (h1 : I 226 1 = nI n) : SpE S m_X2_closeLine 13 [.ref 226] (hp I L w1 w2 t) none (hp (up2 (up2 I 230 k (nI n)) 226 0 (nI (k + 1))) L w1 w2 t) := by
  refine SpE_of ok_X2_closeLine rfl rfl ?_
  show AW S m_X2_closeLine 13 _ _ 0 0 0 [some (.ref 226)] [] (hp I L w1 w2 t)
  refine a_l0 rfl rfl rfl ?_
  refine a_getq rfl gfX2_25_2 rfl (rfl) ?_
  refine a_l0 rfl rfl rfl ?_
  refine a_getiv (v := nI k) rfl gfX2_11_2 rfl (h0) ?_
  refine a_l0 rfl rfl rfl ?_
  refine a_getiv (v := nI n) rfl gfX2_41_2 rfl (h1) ?_
  refine a_eSN0 rfl lX2_44 mo_X11_setAt (sp_X11_setAt rfl) rfl rfl rfl rfl ?_
  rw [setF_nI hk (by decide)]
  refine a_l0 rfl rfl rfl ?_
  refine a_s rfl rfl ?_
  refine a_getiv (v := nI k) rfl gfX2_11_2 rfl ((congrFun (up2_row (by decide)) 0).trans h0) ?_
  refine a_s rfl rfl ?_
  refine a_s rfl rfl ?_
  refine a_top (y := nI (k + 1)) ((nI_succ k).symm) ?_
  refine a_puti rfl pfX2_11_2 rfl ?_
  exact a_vret rfl rfl ⟨rfl, rfl⟩
/-- what a law's lines may change -/
def sW (q k : Nat) : Bool := sC q k || ((Nat.ble 227 q && Nat.ble q 230) || ((Nat.ble 222 q && Nat.ble q 225) || (Nat.beq q 226 && Nat.beq k 0)))
theorem sC_sW : ∀ q k, sC q k = true → sW q k = true := fun q k h => by
  unfold sW
  rw [h]
  rfl
/-- the draft of a law, lines and codes so far -/
def Ld (T : Nat → Int32) (e b w : Nat) (o : List Int32) (ls : List LnT) (J : Nat → Nat → Int32) : Prop := At T e b w J ∧ J 226 1 = nI o.length ∧ RowL (J 231) o ∧ J 226 0 = nI ls.length ∧ LnL (J 227) (J 228) (J 229) (J 230) ls ∧ o.length ≤ b ∧ e ≤ 400
theorem f_readLine (hw : WdS S) (h : Ld T e b w2 o ls I) (h12 : ls.length < 12) : Sp S m_X3_readLine 17 0 0 [.ref 220] (hp I L w1 w2 t) (fun v h' => v = some (.int (bI (lnP T e b o).1)) ∧ ∃ J w, h' = hp J L w1 w t ∧ Fm sW I J ∧ At T e (lnP T e b o).2.1 w J ∧ ((lnP T e b o).1 = true → Ld T e (lnP T e b o).2.1 w (lnP T e b o).2.2 (lnV T e b o (lnP T e b o).2.2 :: ls) J)) nX := by
  obtain ⟨hA, l1, l2, l3, l4, l5, l6⟩ := h
  have hbe := At.le hA
  have gd := lnP_gd (T := T) (o := o) hbe
  refine Sp_of ok_X3_readLine rfl rfl ?_
  show AW S m_X3_readLine 17 _ _ 0 0 0 [some (.ref 220), none, none] [] (hp I L w1 w2 t)
  have fmx : ∀ {J J' : Nat → Nat → Int32}, Fm sW I J → (∀ q, q ≠ 221 → J' q = J q) → Fm sW I J' := fun {J J'} h f q k hq => by
    rw [f q (by intro z; subst z; cases hq)]
    exact h q k hq
  refine a_l0 rfl rfl rfl ?_
  refine a_gV rfl lX3_24 mo_X3_takeKind (f_takeKind hw hA) rfl rfl rfl ⟨3, _, rfl, rfl, rfl⟩ rfl (fun v' h' hv => ?_)
  obtain ⟨rfl, J1, wa, rfl, hA1, hf1⟩ := hv
  have hF1 : Fm sW I J1 := fmx Fm.rf hf1
  refine a_s1 rfl rfl rfl rfl rfl rfl ?_
  refine a_l1 rfl rfl rfl ?_
  refine a_s rfl rfl ?_
  refine a_ic_ne rfl (fun c1 => ?_) (fun c1 => ?_)
  rotate_left
  · have el : lnP T e b o = (false, b, []) := if_pos c1
    rw [c1, if_pos rfl] at hA1
    rw [el]
    refine a_s rfl rfl ?_
    exact a_zret rfl rfl rfl ⟨rfl, J1, wa, rfl, hF1, hA1, fun z => by cases z⟩
  rw [if_neg c1] at hA1
  have n1 := nx_lt (T := T) (knd_lt c1)
  refine a_l0 rfl rfl rfl ?_
  refine a_getq rfl gfX3_28_3 rfl (rfl) ?_
  refine a_s rfl rfl ?_
  refine a_s rfl rfl ?_
  refine a_gV rfl lX3_32 mo_X9_takeNumber (f_takeNumber (lo := 0) (hi := 60) hw hA1 (by decide)) rfl rfl rfl ⟨9, _, rfl, rfl, rfl⟩ rfl (fun v' h' hv => ?_)
  obtain ⟨rfl, J2, wb, rfl, hA2, hf2⟩ := hv
  have hF2 : Fm sW I J2 := fmx hF1 hf2
  refine a_s2 rfl rfl rfl rfl rfl rfl ?_
  refine a_l2 rfl rfl rfl ?_
  refine a_s rfl rfl ?_
  refine a_ic_ne rfl (fun c2 => ?_) (fun c2 => ?_)
  rotate_left
  · have el : lnP T e b o = (false, nx T e b, []) := (if_neg c1).trans (if_pos c2)
    rw [c2, if_pos rfl] at hA2
    rw [el]
    refine a_s rfl rfl ?_
    exact a_zret rfl rfl rfl ⟨rfl, J2, wb, rfl, hF2, hA2, fun z => by cases z⟩
  rw [if_neg c2] at hA2
  have n2 := nx_lt (T := T) (nm_lt c2)
  have f12 : ∀ q, q ≠ 221 → J2 q = I q := fun q hq => (hf2 q hq).trans (hf1 q hq)
  refine a_l0 rfl rfl rfl ?_
  refine a_getq rfl gfX3_14_3 rfl (rfl) ?_
  refine a_l1 rfl rfl rfl ?_
  refine a_l2 rfl rfl rfl ?_
  refine a_eV0 rfl lX3_38 mo_X2_openLine (f_openLine ((congrFun (f12 226 (by decide)) 0).trans l3) h12 ((congrFun (f12 226 (by decide)) 1).trans l1)) rfl rfl rfl ⟨2, _, rfl, rfl, rfl⟩ rfl ?_
  refine a_ren (P := fun J => Fm sW I J ∧ At T e (nx T e (nx T e b)) wb J ∧ J 226 1 = nI o.length ∧ RowL (J 231) o ∧ J 226 0 = nI ls.length ∧ J 227 ls.length = kndP T e b ∧ J 228 ls.length = nm T e (nx T e b) 0 60 ∧ J 229 ls.length = nI o.length ∧ LnL (J 227) (J 228) (J 229) (J 230) ls) ⟨Fm.up (Fm.up (Fm.up hF2 rfl) rfl) rfl, At.eq hA2 (fun q g1 g2 => by rw [up2_row (by omega), up2_row (by omega), up2_row (by omega)]), ?_, ?_, ?_, ?_, ?_, ?_, ?_⟩ (fun J3 hJ3 => ?_)
  · rw [up2_row (by decide), up2_row (by decide), up2_row (by decide), f12 226 (by decide)]
    exact l1
  · rw [up2_row (by decide), up2_row (by decide), up2_row (by decide), f12 231 (by decide)]
    exact l2
  · rw [up2_row (by decide), up2_row (by decide), up2_row (by decide), f12 226 (by decide)]
    exact l3
  · rw [up2_row (by decide), up2_row (by decide)]
    exact up2_at
  · rw [up2_row (by decide)]
    exact up2_at
  · exact up2_at
  · refine LnL.eq l4 (fun i hi => ⟨?_, ?_, ?_, ?_⟩)
    · rw [up2_row (by decide), up2_row (by decide), up2_ne (Or.inr (by omega)), f12 227 (by decide)]
    · rw [up2_row (by decide), up2_ne (Or.inr (by omega)), up2_row (by decide), f12 228 (by decide)]
    · rw [up2_ne (Or.inr (by omega)), up2_row (by decide), up2_row (by decide), f12 229 (by decide)]
    · rw [up2_row (by decide), up2_row (by decide), up2_row (by decide), f12 230 (by decide)]
  obtain ⟨hF3, hA3, m1, m2, m3, m4, m5, m6, m7⟩ := hJ3
  -- the line is closed
  have k61 : ∀ (b1 : Nat) (o1 : List Int32) (J : Nat → Nat → Int32) (w : Nat), lnP T e b o = (true, b1, o1) → Fm sW I J → At T e b1 w J → J 226 1 = nI o1.length → RowL (J 231) o1 → J 226 0 = nI ls.length → (∀ q, 227 ≤ q → q ≤ 230 → J q = J3 q) → AW S m_X3_readLine 17 (fun v h' => v = some (.int (bI (lnP T e b o).1)) ∧ ∃ J w, h' = hp J L w1 w t ∧ Fm sW I J ∧ At T e (lnP T e b o).2.1 w J ∧ ((lnP T e b o).1 = true → Ld T e (lnP T e b o).2.1 w (lnP T e b o).2.2 (lnV T e b o (lnP T e b o).2.2 :: ls) J)) nX 0 0 61 [some (.ref 220), some (.int (kndP T e b)), some (.int (nm T e (nx T e b) 0 60))] [] (hp J L w1 w t) := by
    intro b1 o1 J w el hF hAb p1 p2 p3 p4
    rw [el] at gd ⊢
    obtain ⟨-, g2, g3⟩ := gd
    have g3 : b < b1 ∧ o1.length + b ≤ o.length + b1 := g3 rfl
    refine a_l0 rfl rfl rfl ?_
    refine a_getq rfl gfX3_14_3 rfl (rfl) ?_
    refine a_eV0 rfl lX3_56 mo_X2_closeLine (f_closeLine p3 h12 p1) rfl rfl rfl ⟨2, _, rfl, rfl, rfl⟩ rfl ?_
    refine a_s rfl rfl ?_
    refine a_zret rfl rfl rfl ⟨rfl, _, w, rfl, Fm.up (Fm.up hF rfl) rfl, At.eq hAb (fun q g1 g2 => by rw [up2_row (by omega), up2_row (by omega)]), fun _ => ⟨At.eq hAb (fun q g1 g2 => by rw [up2_row (by omega), up2_row (by omega)]), ?_, ?_, up2_at, ⟨⟨?_, ?_, ?_, ?_⟩, ?_⟩, by show o1.length ≤ b1; omega, l6⟩⟩
    · rw [up2_ne (Or.inr (by decide)), up2_row (by decide)]
      exact p1
    · rw [up2_row (by decide), up2_row (by decide)]
      exact p2
    · rw [up2_row (by decide), up2_row (by decide), p4 227 (by decide) (by decide)]
      exact m4
    · rw [up2_row (by decide), up2_row (by decide), p4 228 (by decide) (by decide)]
      exact m5
    · rw [up2_row (by decide), up2_row (by decide), p4 229 (by decide) (by decide)]
      exact m6
    · rw [up2_row (by decide)]
      exact up2_at
    · refine LnL.eq m7 (fun i hi => ⟨?_, ?_, ?_, ?_⟩)
      · rw [up2_row (by decide), up2_row (by decide), p4 227 (by decide) (by decide)]
      · rw [up2_row (by decide), up2_row (by decide), p4 228 (by decide) (by decide)]
      · rw [up2_row (by decide), up2_row (by decide), p4 229 (by decide) (by decide)]
      · rw [up2_row (by decide), up2_ne (Or.inr (by omega)), p4 230 (by decide) (by decide)]
  refine a_l0 rfl rfl rfl ?_
  refine a_getq rfl gfX3_28_3 rfl (rfl) ?_
  refine a_gets rfl (inC4 (i := 95) rfl rfl) (hw.st (i := 18) (by decide)) ?_
  refine a_gV rfl lX3_48 mo_X9_takeWord (f_takeWord (k := 18) hw hA3 (by decide)) rfl rfl rfl ⟨9, _, rfl, rfl, rfl⟩ rfl (fun v' h' hv => ?_)
  obtain ⟨rfl, J4, wd4, rfl, hA4, hf4⟩ := hv
  have hF4 : Fm sW I J4 := fmx hF3 hf4
  have q1 : J4 226 1 = nI o.length := (congrFun (hf4 226 (by decide)) 1).trans m1
  have q2 : RowL (J4 231) o := by
    rw [hf4 231 (by decide)]
    exact m2
  have q3 : J4 226 0 = nI ls.length := (congrFun (hf4 226 (by decide)) 0).trans m3
  have n2e := nx_le (T := T) (nx_le (T := T) hbe)
  cases c3 : isWd T e (nx T e (nx T e b)) 18 with
  | false =>
    refine a_if_eq rfl (fun _ => ?_) (fun z => absurd rfl z)
    rw [c3, if_neg (by decide)] at hA4
    exact k61 _ _ J4 wd4 ((if_neg c1).trans ((if_neg c2).trans (if_neg (by rw [c3]; decide)))) hF4 hA4 q1 q2 q3 (fun q g1 g2 => hf4 q (by omega))
  | true =>
    refine a_if_eq rfl (fun z => absurd z (by decide)) (fun _ => ?_)
    rw [c3, if_pos rfl] at hA4
    have n3 := nx_lt (T := T) (isWd_lt c3)
    have el : lnP T e b o = condR T e 6 (nx T e (nx T e (nx T e b))) o := (if_neg c1).trans ((if_neg c2).trans (if_pos c3))
    refine a_l0 rfl rfl rfl ?_
    refine a_gV rfl lX3_52 mo_X3_readCondition (f_readCondition hw hA4 q1 q2 (by omega) (by omega) l6) rfl rfl rfl ⟨3, _, rfl, rfl, rfl⟩ rfl (fun v' h' hv => ?_)
    obtain ⟨rfl, J5, w5, rfl, f5, hA5, hz5⟩ := hv
    have hF5 : Fm sW I J5 := Fm.tr hF4 (Fm.mo f5 sC_sW)
    rw [← el] at hA5 hz5 ⊢
    rcases er : lnP T e b o with ⟨z, b1, o1⟩
    rw [er] at hA5 hz5
    cases z with
    | false =>
      refine a_if_ne rfl (fun z => absurd rfl z) (fun _ => ?_)
      refine a_s rfl rfl ?_
      exact a_zret rfl rfl rfl ⟨rfl, J5, w5, rfl, hF5, hA5, fun z => by cases z⟩
    | true =>
      refine a_if_ne rfl (fun _ => ?_) (fun z => absurd (show (1 : Int32) = 0 from z) (by decide))
      obtain ⟨y1, y2⟩ := hz5 rfl
      rw [er] at k61
      exact k61 b1 o1 J5 w5 rfl hF5 hA5 y1 y2 ((f5 226 0 rfl).trans q3) (fun q g1 g2 => by
        have e1 : Nat.beq q 221 = false := beqF (by omega)
        have e2 : Nat.beq q 234 = false := beqF (by omega)
        have e3 : Nat.beq q 231 = false := beqF (by omega)
        have e4 : Nat.beq q 220 = false := beqF (by omega)
        have e5 : Nat.beq q 226 = false := beqF (by omega)
        rw [show J5 q = J4 q from funext fun k => f5 q k (by simp [sC, e1, e2, e3, e4, e5]), hf4 q (by omega)])
/-- what is known behind the lines of a law -/
def LwD (r : LRs) (J : Nat → Nat → Int32) : Prop := J 226 1 = nI r.2.2.1.length ∧ RowL (J 231) r.2.2.1 ∧ J 226 0 = nI r.2.2.2.length ∧ LnL (J 227) (J 228) (J 229) (J 230) r.2.2.2 ∧ r.2.2.2.length ≤ 12 ∧ r.2.2.1.length ≤ 400
theorem f_readLines (hw : WdS S) (he : I 201 1 = nI e) (h4 : e ≤ 400) (hbt : BtT (I 202)) (hm0 : I 220 1 = 12) (h0 : I 226 0 = 0) (h1 : I 226 1 = 0) : Sp S m_X8_readLines 20 0 0 [.ref 220, .ref 201] (hp I L w1 w2 t) (fun v h' => v = some (.int (if (lawP (I 202) e).1 = true then -1 else nI (lawP (I 202) e).2.1)) ∧ ∃ J w, h' = hp J L w1 w t ∧ WK w ∧ Fm sW I J ∧ ((lawP (I 202) e).1 = true → LwD (lawP (I 202) e) J)) nX := by
  refine Sp_of ok_X8_readLines rfl rfl ?_
  show AW S m_X8_readLines 20 _ _ 0 0 0 [some (.ref 220), some (.ref 201), none] [] (hp I L w1 w2 t)
  generalize hT : I 202 = T at hbt ⊢
  refine a_l0 rfl rfl rfl ?_
  refine a_getq rfl gfX8_12_3 rfl (rfl) ?_
  refine a_l1 rfl rfl rfl ?_
  refine a_gV rfl lX8_22 mo_X9_scan (f_scan hw he h4 (by rw [hT]; exact hbt)) rfl rfl rfl ⟨9, _, rfl, rfl, rfl⟩ rfl (fun v' h' hv => ?_)
  obtain ⟨rfl, J1, wa, rfl, hA1, hf1⟩ := hv
  rw [hT] at hA1
  have hF1 : Fm sW I J1 := fun q k hq => by
    by_cases c : 221 ≤ q ∧ q ≤ 225
    · exfalso
      rcases Nat.eq_or_lt_of_le c.1 with z | z
      · subst z
        cases hq
      · unfold sW at hq
        rw [Nat.ble_eq_true_of_le (show 222 ≤ q from z), Nat.ble_eq_true_of_le c.2] at hq
        simp at hq
    · rw [hf1 q c]
  have hL1 : Ld T e (bg T e 0) wa [] [] J1 := ⟨hA1, (congrFun (hf1 226 (by omega)) 1).trans (h1.trans nI_0.symm), trivial, (congrFun (hf1 226 (by omega)) 0).trans (h0.trans nI_0.symm), trivial, Nat.zero_le _, h4⟩
  refine a_l0 rfl rfl rfl ?_
  refine a_getq rfl gfX8_12_3 rfl (rfl) ?_
  refine a_eV1 rfl lX8_26 mo_X9_isEnd (f_isEnd hA1) rfl rfl rfl ⟨9, _, rfl, rfl, rfl⟩ rfl ?_
  by_cases c0 : bg T e 0 < e
  rotate_left
  · rw [show decide (¬ bg T e 0 < e) = true from decide_eq_true c0]
    refine a_if_eq rfl (fun z => absurd z (by decide)) (fun _ => ?_)
    have el : lawP T e = (true, bg T e 0, [], []) := if_neg c0
    rw [el, if_pos rfl]
    refine a_s rfl rfl ?_
    exact a_iret rfl rfl ⟨rfl, J1, wa, rfl, At.wk hA1, hF1, fun _ => ⟨hL1.2.1, trivial, hL1.2.2.2.1, trivial, Nat.zero_le _, Nat.zero_le _⟩⟩
  rw [show decide (¬ bg T e 0 < e) = false from decide_eq_false (fun z => z c0)]
  refine a_if_eq rfl (fun _ => ?_) (fun z => absurd rfl z)
  refine a_s rfl rfl ?_
  refine a_s2 rfl rfl rfl rfl rfl rfl ?_
  refine a_inv (n := 12) (fun m ls h => ∃ i b' w' o' ls' J, ls = [some (.ref 220), some (.ref 201), some (.int (nI i))] ∧ h = hp J L w1 w' t ∧ Ld T e b' w' o' ls' J ∧ Fm sW I J ∧ ls'.length = i ∧ i ≤ 12 ∧ lnsP T e (12 - i) b' o' ls' = lawP T e ∧ m = 12 - i) ⟨0, bg T e 0, wa, [], [], J1, rfl, rfl, hL1, hF1, rfl, by decide, (if_pos c0).symm, rfl⟩ ?_
  rintro m _ _ ⟨i, b', w', o', ls', J, rfl, rfl, hL, hF, hli, hi, es, hm⟩ ih
  refine a_l2 rfl rfl rfl ?_
  refine a_l0 rfl rfl rfl ?_
  refine a_getiv (v := 12) rfl gfX8_18_3 rfl ((hF 220 1 rfl).trans hm0) ?_
  refine a_ic_ge rfl (fun c => ?_) (fun c => ?_)
  · have h12 := nI_ge_of (b := 12) c (by omega) (by decide)
    obtain rfl : i = 12 := by omega
    have es : lawP T e = (false, b', [], []) := es.symm
    rw [es, if_neg Bool.false_ne_true]
    refine a_l0 rfl rfl rfl ?_
    refine a_getq rfl gfX8_12_3 rfl (rfl) ?_
    refine a_getiv (v := nI b') rfl gfX8_33_9 rfl (At.be hL.1) ?_
    exact a_iret rfl rfl ⟨rfl, J, w', rfl, At.wk hL.1, hF, fun z => by cases z⟩
  have hi12 : i < 12 := nI_lt_of (b := 12) c (by omega) (by decide)
  obtain ⟨f, hf⟩ : ∃ f, 12 - i = f + 1 := ⟨12 - i - 1, by omega⟩
  rw [hf, lnsP_s] at es
  have gd := lnP_gd (T := T) (o := o') (At.le hL.1)
  have hlen : ls'.length < 12 := by omega
  refine a_l0 rfl rfl rfl ?_
  refine a_callU rfl lu_30_3 dc_readLine mo_X3_readLine hx_rl0 (f_readLine hw hL hlen) rfl rfl rfl ⟨3, _, rfl, rfl, rfl⟩ rfl (fun v' h' hv => ?_) (fun _ _ z => False.elim z)
  obtain ⟨rfl, J2, wb, rfl, f2, hA2, hz2⟩ := hv
  have hF2 : Fm sW I J2 := Fm.tr hF f2
  rcases er : lnP T e b' o' with ⟨z, b1, o1⟩
  rw [er] at es hA2 hz2 gd
  cases z with
  | false =>
    refine a_if_ne rfl (fun z => absurd rfl z) (fun _ => ?_)
    have es : lawP T e = (false, b1, [], []) := es.symm
    rw [es, if_neg Bool.false_ne_true]
    refine a_l0 rfl rfl rfl ?_
    refine a_getq rfl gfX8_12_3 rfl (rfl) ?_
    refine a_getiv (v := nI b1) rfl gfX8_33_9 rfl (At.be hA2) ?_
    exact a_iret rfl rfl ⟨rfl, J2, wb, rfl, At.wk hA2, hF2, fun z => by cases z⟩
  | true =>
  refine a_if_ne rfl (fun _ => ?_) (fun z => absurd (show (1 : Int32) = 0 from z) (by decide))
  have hL2 := hz2 rfl
  obtain ⟨-, g2, g3⟩ := gd
  have g2 : b1 ≤ e := g2
  rw [if_pos rfl] at es
  refine a_l0 rfl rfl rfl ?_
  refine a_getq rfl gfX8_12_3 rfl (rfl) ?_
  refine a_eV1 rfl lX8_26 mo_X9_isEnd (f_isEnd hA2) rfl rfl rfl ⟨9, _, rfl, rfl, rfl⟩ rfl ?_
  by_cases c1 : b1 < e
  rotate_left
  · rw [show decide (¬ b1 < e) = true from decide_eq_true c1]
    refine a_if_eq rfl (fun z => absurd z (by decide)) (fun _ => ?_)
    have es : lawP T e = (true, b1, o1, lnV T e b' o' o1 :: ls') := es.symm.trans (if_neg c1)
    rw [es, if_pos rfl]
    refine a_s rfl rfl ?_
    obtain ⟨-, x1, x2, x3, x4, x5, -⟩ := hL2
    exact a_iret rfl rfl ⟨rfl, J2, wb, rfl, At.wk hA2, hF2, fun _ => ⟨x1, x2, x3, x4, by show ls'.length + 1 ≤ 12; omega, by have x5 : o1.length ≤ b1 := x5; show o1.length ≤ 400; omega⟩⟩
  rw [show decide (¬ b1 < e) = false from decide_eq_false (fun z => z c1)]
  refine a_if_eq rfl (fun _ => ?_) (fun z => absurd rfl z)
  have es := (if_pos c1).symm.trans es
  refine a_l0 rfl rfl rfl ?_
  refine a_getq rfl gfX8_12_3 rfl (rfl) ?_
  refine a_s rfl rfl ?_
  refine a_gV rfl lX8_36 mo_X9_takeSign (f_takeSign hw hA2) rfl rfl rfl ⟨9, _, rfl, rfl, rfl⟩ rfl (fun v' h' hv => ?_)
  obtain ⟨rfl, J3, wc, rfl, hA3, hf3⟩ := hv
  have hF3 : Fm sW I J3 := fun q k hq => by
    rw [hf3 q (by intro z; subst z; cases hq)]
    exact hF2 q k hq
  cases c59 : sg T e b1 59 with
  | false =>
    refine a_if_ne rfl (fun z => absurd rfl z) (fun _ => ?_)
    rw [c59, if_neg (by decide)] at hA3
    have es : lawP T e = (false, b1, [], []) := es.symm.trans (if_neg (by rw [c59]; decide))
    rw [es, if_neg Bool.false_ne_true]
    refine a_l0 rfl rfl rfl ?_
    refine a_getq rfl gfX8_12_3 rfl (rfl) ?_
    refine a_getiv (v := nI b1) rfl gfX8_33_9 rfl (At.be hA3) ?_
    exact a_iret rfl rfl ⟨rfl, J3, wc, rfl, At.wk hA3, hF3, fun z => by cases z⟩
  | true =>
    refine a_if_ne rfl (fun _ => ?_) (fun z => absurd (show (1 : Int32) = 0 from z) (by decide))
    rw [c59, if_pos rfl] at hA3
    have es := (if_pos c59).symm.trans es
    obtain ⟨-, x1, x2, x3, x4, x5, x6⟩ := hL2
    have x5 : o1.length ≤ b1 := x5
    have n1 := nx_lt (T := T) c1
    refine a_iv2 (y := nI (i + 1)) rfl rfl rfl ((nI_succ i).symm) ?_
    refine a_goto rfl ?_
    refine ih (12 - (i + 1)) _ _ (by omega) ⟨i + 1, nx T e b1, wc, o1, lnV T e b' o' o1 :: ls', J3, rfl, rfl, ⟨hA3, ?_, ?_, ?_, ?_, by omega, x6⟩, hF3, by show ls'.length + 1 = i + 1; omega, by omega, by rw [show 12 - (i + 1) = f by omega]; exact es, rfl⟩
    · rw [hf3 226 (by decide)]
      exact x1
    · rw [hf3 231 (by decide)]
      exact x2
    · rw [hf3 226 (by decide)]
      exact x3
    · rw [hf3 227 (by decide), hf3 228 (by decide), hf3 229 (by decide), hf3 230 (by decide)]
      exact x4
end T79f
