/-! ===== the reference: all lines, a street ===== -/
section T70
variable {S : aS} {I : Nat → Nat → Int32} {L : Nat → Nat → Int64} {w1 w2 t : Nat} {e p nd np : Nat}
set_option maxRecDepth 100000
theorem r_X12_readLineS (hw : WdS S) (s : SF nd np I) (hq : Pp e p I) {x : Int32} : Sp S m_X12_readLine 60 0 0 [.ref 420, .int (bI true), .int x] (hp I L w1 w2 t) (QL e p I L w1 w2 t) nX := by
  refine Sp_of ok_X12_readLine rfl rfl ?_
  show AW S m_X12_readLine 60 _ _ 0 0 0 [some (.ref 420), some (.int (bI true)), some (.int x)] [] (hp I L w1 w2 t)
  refine a_l0 rfl rfl rfl ?_
  refine a_gV rfl lX12_106 mo_X12_letters (r_X12_letters hq) rfl rfl rfl ⟨12, _, rfl, rfl, rfl⟩ rfl (fun v' h' hv => ?_)
  obtain ⟨rfl, J, b, p', rfl, h⟩ := hv
  refine a_l2 rfl rfl rfl ?_
  refine a_l1 rfl rfl rfl ?_
  refine a_if_eq rfl (fun c => absurd c (by decide)) (fun _ => ?_)
  refine a_s rfl rfl ?_
  refine a_goto rfl ?_
  refine a_ic_ge rfl (fun _ => ?_) (fun _ => ?_)
  · refine a_s rfl rfl ?_
    exact a_zret rfl rfl rfl (QL.rd (z := false) h s)
  · refine a_l1 rfl rfl rfl ?_
    refine a_if_eq rfl (fun c => absurd c (by decide)) (fun _ => ?_)
    refine a_l0 rfl rfl rfl ?_
    refine a_gV rfl lX12_226 mo_X12_readStreetLine (r_X12_readStreetLine hw (SF.eq s (Rd.w h)) (Rd.be h) (Rd.bp h) (Rd.pp h)) rfl rfl rfl ⟨12, _, rfl, rfl, rfl⟩ rfl (fun v' h' hv => ?_)
    obtain ⟨z, p2, J2, rfl, rfl, h2⟩ := hv
    refine a_if_eq rfl (fun _ => ?_) (fun _ => ?_)
    · refine a_s rfl rfl ?_
      exact a_zret rfl rfl rfl ⟨false, p2, J2, rfl, rfl, Rs.td h h2⟩
    · refine a_goto rfl ?_
      refine a_s rfl rfl ?_
      refine a_goto rfl ?_
      exact a_zret rfl rfl rfl ⟨true, p2, J2, rfl, rfl, Rs.td h h2⟩
/-- all lines, by what one line keeps -/
theorem r_X12_readAll {P : Nat → Nat → (Nat → Nat → Int32) → Prop} {Fq : (Nat → Nat → Int32) → Prop} {z : Bool} (hPp : ∀ n p J, P n p J → Pp e p J)
    (hP : ∀ n p J b p' J', P n p J → Rd e p b p' J J' → P n p' J') (hU : ∀ n p J, P n p J → p < e → P n (p + 1) (up2 J 420 10 (nI (p + 1)))) (hF : ∀ n p J, P n p J → Fq J)
    (hL : ∀ n p J, P n p J → Sp S m_X12_readLine 60 0 0 [.ref 420, .int (bI z), .int (nI n)] (hp J L w1 w2 t) (fun v h' => ∃ zz p' J', v = some (.int (bI zz)) ∧ h' = hp J' L w1 w2 t ∧ Fq J' ∧ (zz = true → p ≤ p' ∧ P (n + 1) p' J')) nX)
    (h0 : P 0 0 (up2 (usH I) 420 16 0)) : Sp S m_X12_readAll 61 0 0 [.ref 420, .int (bI z)] (hp I L w1 w2 t) (fun v h' => ∃ x J, v = some (.int x) ∧ h' = hp J L w1 w2 t ∧ Fq J ∧ (x = -1 ∨ ∃ n p', x = nI n ∧ P n p' J)) nX := by
  refine Sp_of ok_X12_readAll rfl rfl ?_
  show AW S m_X12_readAll 61 _ _ 0 0 0 [some (.ref 420), some (.int (bI z)), none] [] (hp I L w1 w2 t)
  refine a_l0 rfl rfl rfl ?_
  refine a_eV0 rfl lX12_232 mo_X12_uses r_X12_uses rfl rfl rfl ⟨12, _, rfl, rfl, rfl⟩ rfl ?_
  refine a_l0 rfl rfl rfl ?_
  refine a_s rfl rfl ?_
  refine a_puti rfl pfX12_168_12 rfl ?_
  refine a_l0 rfl rfl rfl ?_
  refine a_gV rfl lX12_94 mo_X12_blanks (r_X12_blanks (hPp 0 0 _ h0)) rfl rfl rfl ⟨12, _, rfl, rfl, rfl⟩ rfl (fun v' h' hv => ?_)
  obtain ⟨rfl, J1, p1, rfl, h1⟩ := hv
  have P1 := hP _ _ _ _ _ _ h0 h1
  refine a_l0 rfl rfl rfl ?_
  refine a_geti rfl gfX12_81_12 rfl ?_
  refine a_top (y := nI p1) (Pp.pu (Rd.pp h1)) ?_
  refine a_l0 rfl rfl rfl ?_
  refine a_geti rfl gfX12_84_12 rfl ?_
  refine a_top (y := nI e) (Pp.en (Rd.pp h1)) ?_
  refine a_ic_ne rfl (fun _ => ?_) (fun _ => ?_)
  rotate_left
  · refine a_s rfl rfl ?_
    exact a_iret rfl rfl ⟨0, J1, rfl, rfl, hF _ _ _ P1, Or.inr ⟨0, p1, rfl, P1⟩⟩
  refine a_s rfl rfl ?_
  refine a_s2 rfl rfl rfl rfl rfl rfl ?_
  refine a_inv (n := e - p1) (fun m ls h => ∃ n p' J, ls = [some (.ref 420), some (.int (bI z)), some (.int (nI n))] ∧ h = hp J L w1 w2 t ∧ P n p' J ∧ m = e - p') ⟨0, p1, J1, rfl, rfl, P1, rfl⟩ ?_
  rintro m _ _ ⟨n, p', J, rfl, rfl, hP', hm⟩ ih
  refine a_l0 rfl rfl rfl ?_
  refine a_l1 rfl rfl rfl ?_
  refine a_l2 rfl rfl rfl ?_
  refine a_gV rfl lX12_235 mo_X12_readLine (hL _ _ _ hP') rfl rfl rfl ⟨12, _, rfl, rfl, rfl⟩ rfl (fun v' h' hv => ?_)
  obtain ⟨zz, p2, J2, rfl, rfl, hf2, hz⟩ := hv
  refine a_if_ne rfl (fun c => ?_) (fun _ => ?_)
  rotate_left
  · refine a_s rfl rfl ?_
    exact a_iret rfl rfl ⟨-1, J2, rfl, rfl, hf2, Or.inl rfl⟩
  obtain ⟨hle, hP2⟩ := hz (bI_t c)
  refine a_l0 rfl rfl rfl ?_
  refine a_gV rfl lX12_94 mo_X12_blanks (r_X12_blanks (hPp _ _ _ hP2)) rfl rfl rfl ⟨12, _, rfl, rfl, rfl⟩ rfl (fun v' h' hv => ?_)
  obtain ⟨rfl, J3, p3, rfl, h3⟩ := hv
  have P3 := hP _ _ _ _ _ _ hP2 h3
  have hp3 := Rd.pb h3
  refine a_l0 rfl rfl rfl ?_
  refine a_geti rfl gfX12_81_12 rfl ?_
  refine a_top (y := nI p3) (Pp.pu (Rd.pp h3)) ?_
  refine a_l0 rfl rfl rfl ?_
  refine a_geti rfl gfX12_84_12 rfl ?_
  refine a_top (y := nI e) (Pp.en (Rd.pp h3)) ?_
  refine a_ic_ne rfl (fun _ => ?_) (fun _ => ?_)
  rotate_left
  · refine a_l2 rfl rfl rfl ?_
    refine a_s rfl rfl ?_
    refine a_s rfl rfl ?_
    refine a_top (y := nI (n + 1)) ((nI_succ _).symm) ?_
    exact a_iret rfl rfl ⟨_, J3, rfl, rfl, hF _ _ _ P3, Or.inr ⟨n + 1, p3, rfl, P3⟩⟩
  refine a_l0 rfl rfl rfl ?_
  refine a_s rfl rfl ?_
  refine a_s rfl rfl ?_
  refine a_gV rfl lX12_87 mo_X12_isAt (r_X12_isAt (Rd.pp h3)) rfl rfl rfl ⟨12, _, rfl, rfl, rfl⟩ rfl (fun v' h' hv => ?_)
  obtain ⟨rfl, zb, rfl, hb⟩ := hv
  refine a_if_ne rfl (fun c2 => ?_) (fun _ => ?_)
  · have hlt := hb (bI_t c2)
    refine a_l0 rfl rfl rfl ?_
    refine a_s rfl rfl ?_
    refine a_geti rfl gfX12_81_12 rfl ?_
    refine a_top (y := nI p3) (Pp.pu (Rd.pp h3)) ?_
    refine a_s rfl rfl ?_
    refine a_s rfl rfl ?_
    refine a_top (y := nI (p3 + 1)) ((nI_succ _).symm) ?_
    refine a_puti rfl pfX12_81_12 rfl ?_
    refine a_i2 rfl rfl rfl ?_
    refine a_goto rfl ?_
    exact a_less (ih (e - (p3 + 1)) _ _ (by omega) ⟨n + 1, p3 + 1, _, rfl, rfl, hU _ _ _ P3 hlt, rfl⟩) ⟨rfl, rfl, nS n, trivial⟩
  · refine a_s rfl rfl ?_
    exact a_iret rfl rfl ⟨-1, J3, rfl, rfl, hF _ _ _ P3, Or.inl rfl⟩
/-- what a text may change, but for the law's draft -/
def sX (q k : Nat) : Bool := sU q k || (sS q k || (Nat.beq q 423 || (Nat.beq q 420 && (Nat.beq k 9 || (Nat.beq k 11 || (Nat.beq k 13 || (Nat.beq k 14 || Nat.beq k 16)))))))
theorem sS_sX : ∀ q k, sS q k = true → sX q k = true := fun q k h => by
  unfold sX
  rw [h]
  cases sU q k <;> rfl
theorem sR_sX : ∀ q k, sR q k = true → sX q k = true := fun q k h => sS_sX q k (sR_sS q k h)
theorem sU_sX : ∀ q k, sU q k = true → sX q k = true := fun q k h => by
  unfold sX
  rw [h]
  rfl
theorem sX_low {q k : Nat} (h : q < 420 ∨ q = 426) : sX q k = false := by
  have b : ∀ n, 420 ≤ n → n ≠ 426 → Nat.beq q n = false := fun n hn hn2 => beqF (by omega)
  simp [sX, sU, sS, sR, b]
theorem stC_hi {k : Nat} (h : 95 ≤ k) : stC k = false := by
  have e1 : Nat.blt k 95 = false := by
    cases hb : Nat.blt k 95 with
    | false => rfl
    | true => exact absurd (Nat.le_of_ble_eq_true hb) (by omega)
  simp [stC, e1]
theorem sX_421 {k : Nat} : sX 421 k = stC k := by
  show (stC k || false) = stC k
  cases stC k <;> rfl
theorem sX_hi {k : Nat} (h : 95 ≤ k) : sX 421 k = false := sX_421.trans (stC_hi h)
def GX (I J : Nat → Nat → Int32) : Prop := Fm sX I J ∧ J 420 9 = 0 ∧ ∀ k, k < 1184 → J 423 k = I 421 k
theorem GX.sS {J K : Nat → Nat → Int32} (h : GX I J) (f : Fm sS J K) : GX I K := ⟨Fm.tr h.1 (Fm.mo f sS_sX), (f 420 9 rfl).trans h.2.1, fun k hk => (f 423 k rfl).trans (h.2.2 k hk)⟩
theorem GX.sU {J K : Nat → Nat → Int32} (h : GX I J) (f : Fm sU J K) : GX I K := ⟨Fm.tr h.1 (Fm.mo f sU_sX), (f 420 9 rfl).trans h.2.1, fun k hk => (f 423 k rfl).trans (h.2.2 k hk)⟩
theorem GX.up {J : Nat → Nat → Int32} {x : Int32} (h : GX I J) {j : Nat} (hj : sX 420 j = true) (h9 : j ≠ 9) : GX I (up2 J 420 j x) := ⟨Fm.up h.1 hj, (up2_ne (Or.inr (fun z => h9 z.symm))).trans h.2.1, fun k hk => (congrFun (up2_row (by decide)) k).trans (h.2.2 k hk)⟩
theorem SF.up {J : Nat → Nat → Int32} {j : Nat} {x : Int32} (h : SF nd np J) : SF nd np (up2 J 420 j x) := SF.eq h (up2_row (by decide))
theorem GX.beg {l : Nat} (hl : I 420 9 = nI l) : GX I (up2 (usH (cpR I 423 0 421 0 1184)) 420 16 0) := by
  have e0 : cpR I 423 0 421 0 1184 420 = I 420 := cpR_row (by decide)
  refine ⟨Fm.up ?_ rfl, (up2_ne (Or.inr (by decide))).trans usH_9, fun k hk => ?_⟩
  · unfold usH
    refine Fm.up (Fm.up (Fm.up (Fm.up ?_ rfl) rfl) rfl) rfl
    intro q k hq
    by_cases c : q = 423
    · subst c
      exact absurd hq (by simp [sX])
    · rw [cpR_row c]
  · rw [up2_row (by decide), usH_row (by decide), show k = 0 + k by omega, cpR_in hk]
    congr 1
    omega
def PS (I : Nat → Nat → Int32) (e : Nat) (_ p : Nat) (J : Nat → Nat → Int32) : Prop := GX I J ∧ (∃ nd np, SF nd np J) ∧ Pp e p J
theorem Us.rest {J : Nat → Nat → Int32} (hr : RI nd np I) (h : GX I J) : Us nd np I (cpR J 421 0 423 0 1184) := by
  obtain ⟨f, h9, h3⟩ := h
  have e0 : ∀ q, q ≠ 421 → cpR J 421 0 423 0 1184 q = J q := fun q hq => cpR_row hq
  refine ⟨fun q hq => ?_, ?_, ?_, hr.eq (funext fun k => ?_) ?_ ?_ ?_ ?_⟩
  · rw [e0 q (by omega)]
    exact funext fun k => f q k (sX_low hq)
  · rw [e0 420 (by decide)]
    exact h9
  · rw [e0 420 (by decide)]
    exact f 420 6 rfl
  · by_cases c : k < 1184
    · rw [show k = 0 + k by omega, cpR_in c]
      rw [show k + 0 = k by omega, h3 k c]
      congr 1
      omega
    · rw [cpR_out (by omega)]
      exact f 421 k (sX_hi (by omega))
  · rw [e0 422 (by decide)]
    exact funext fun k => f 422 k rfl
  · rw [e0 425 (by decide)]
    exact funext fun k => f 425 k rfl
  · rw [e0 420 (by decide)]
    exact f 420 6 rfl
  · rw [e0 420 (by decide)]
    exact f 420 7 rfl
theorem Us.done {nd0 np0 : Nat} {K : Nat → Nat → Int32} {v : Int32} (hr : RI nd0 np0 I) (h : GX I K) (s : SF nd np K) : Us nd np I (up2 (up2 K 421 2 v) 420 7 0) := by
  obtain ⟨f, h9, -⟩ := h
  have e0 : ∀ q, q ≠ 421 → q ≠ 420 → up2 (up2 K 421 2 v) 420 7 0 q = K q := fun q h1 h2 => by rw [up2_row h2, up2_row h1]
  have e1 : ∀ k, k ≠ 7 → up2 (up2 K 421 2 v) 420 7 0 420 k = K 420 k := fun k hk => by rw [up2_ne (Or.inr hk), up2_row (by decide)]
  have e2 : ∀ k, k ≠ 2 → up2 (up2 K 421 2 v) 420 7 0 421 k = K 421 k := fun k hk => by rw [up2_row (by decide), u2_lo hk]
  refine ⟨fun q hq => ?_, (e1 9 (by decide)).trans h9, (e1 6 (by decide)).trans (f 420 6 rfl), ?_, fun q hq => ?_, ?_, ?_, ?_, ⟨0, by decide, up2_at, fun i hi => absurd hi (Nat.not_lt_zero _)⟩⟩
  · rw [e0 q (by omega) (by omega)]
    exact funext fun k => f q k (sX_low hq)
  · exact s.1.eq (e2 0 (by decide)) (e2 1 (by decide)) (e2 7 (by decide)) (fun d k hd hk => e2 _ (by omega)) (fun _ _ => trivial)
  · obtain ⟨g, g1, g2⟩ := s.2 q hq
    exact ⟨g, g1, (e2 _ (by omega)).trans g2⟩
  · exact hr.lw.eq ((e2 3 (by decide)).trans (f 421 3 rfl)) (fun k h1 _ => (e2 k (by omega)).trans (f 421 k (sX_hi (by omega))))
  · obtain ⟨k, k1, k2⟩ := hr.lg
    exact ⟨k, k1, ((e2 9 (by decide)).trans (f 421 9 rfl)).trans k2⟩
  · exact hr.im.eq ((e1 6 (by decide)).trans (f 420 6 rfl)) ((e0 422 (by decide) (by decide)).trans (funext fun k => f 422 k rfl))
def QY (I : Nat → Nat → Int32) (w1 w2 t : Nat) : Option Value → aH → Prop := fun v h' => isI v ∧ ∃ nd' np' J L', h' = hp J L' w1 w2 t ∧ Us nd' np' I J
theorem r_X12_street (hw : WdS S) (hr : RI nd np I) (ht : ∃ l, l ≤ 400 ∧ I 420 9 = nI l) : Sp S m_X12_street 62 0 0 [.ref 420] (hp I L w1 w2 t) (QY I w1 w2 t) nX := by
  obtain ⟨l, hl4, hl⟩ := ht
  refine Sp_of ok_X12_street rfl rfl ?_
  show AW S m_X12_street 62 _ _ 0 0 0 [some (.ref 420), none, none] [] (hp I L w1 w2 t)
  have restore : ∀ {x : Int32} {J : Nat → Nat → Int32}, GX I J → AW S m_X12_street 62 (QY I w1 w2 t) nX 0 0 90 [some (.ref 420), some (.int x), none] [] (hp J L w1 w2 t) := by
    intro x J hg
    refine a_s rfl rfl ?_
    refine a_s2 rfl rfl rfl rfl rfl rfl ?_
    refine a_forE (n := 1184) (fun j => [some (.ref 420), some (.int x), some (.int (nI j))]) (fun j => hp (cpR J 421 0 423 0 j) L w1 w2 t) (by simp [lsub, nI_0]) (by rw [cpR_0]) ?_ (fun j hj ih => ?_)
    · refine a_l2 rfl rfl rfl ?_
      refine a_s rfl rfl ?_
      refine a_ic_ge rfl (fun _ => ?_) (fun c => absurd (Int32.le_refl _) c)
      refine a_s rfl rfl ?_
      exact a_iret rfl rfl ⟨⟨_, rfl⟩, nd, np, _, _, rfl, Us.rest hr hg⟩
    · refine a_l2 rfl rfl rfl ?_
      refine a_s rfl rfl ?_
      refine a_ic_ge rfl (fun c => absurd c (nI_ge (b := 1184) hj (by omega))) (fun _ => ?_)
      refine a_l0 rfl rfl rfl ?_
      refine a_getq rfl gfX12_13_12 rfl (rfl) ?_
      refine a_l2 rfl rfl rfl ?_
      refine a_l0 rfl rfl rfl ?_
      refine a_getq rfl gfX12_20_12 rfl (rfl) ?_
      refine a_l2 rfl rfl rfl ?_
      refine a_ialdv (v := J 423 (j + 0)) rfl (n := 1184) rfl (inI_nI (by omega) (by omega)) (by rw [nI_clamp (by omega), cpR_row (by decide)]; rfl) ?_
      refine a_iastv (k := 0 + j) rfl (n := 2033) rfl (inI_nI (by omega) (by omega)) (by rw [nI_clamp (by omega)]; omega) ?_
      rw [cpR_succ]
      refine a_i2 rfl rfl rfl ?_
      refine a_goto rfl ?_
      exact a_back ih (by simp [lsub, nI_1]) rfl
  have done : ∀ {x : Int32} {J : Nat → Nat → Int32}, GX I J → (∃ nd np, SF nd np J) → AW S m_X12_street 62 (QY I w1 w2 t) nX 0 0 119 [some (.ref 420), some (.int x), none] [] (hp J L w1 w2 t) := by
    rintro x J hg ⟨nd', np', sf⟩
    refine a_l0 rfl rfl rfl ?_
    refine a_getq rfl gfX12_13_12 rfl (rfl) ?_
    refine a_s rfl rfl ?_
    refine a_s rfl rfl ?_
    refine a_iald rfl (n := 2033) rfl ⟨by decide, by decide⟩ ?_
    refine a_s rfl rfl ?_
    refine a_s rfl rfl ?_
    refine a_iastv (k := 2) rfl (n := 2033) rfl ⟨by decide, by decide⟩ rfl ?_
    refine a_l0 rfl rfl rfl ?_
    refine a_s rfl rfl ?_
    refine a_puti rfl pfX12_53_12 rfl ?_
    refine a_l0 rfl rfl rfl ?_
    refine a_getq rfl gfX12_13_12 rfl (rfl) ?_
    refine a_s rfl rfl ?_
    refine a_iald rfl (n := 2033) rfl ⟨by decide, by decide⟩ ?_
    exact a_iret rfl rfl ⟨⟨_, rfl⟩, nd', np', _, _, rfl, Us.done hr hg sf⟩
  have k27 : AW S m_X12_street 62 (QY I w1 w2 t) nX 0 0 27 [some (.ref 420), some (.int (nI 1184)), none] [] (hp (cpR I 423 0 421 0 1184) L w1 w2 t) := by
    have h0 : PS I l 0 0 (up2 (usH (cpR I 423 0 421 0 1184)) 420 16 0) := by
      refine ⟨GX.beg hl, ⟨nd, np, SF.eq (I := I) ⟨hr.so, hr.fr⟩ ?_⟩, ?_, ?_, Nat.zero_le _, hl4⟩
      · rw [up2_row (by decide), usH_row (by decide), cpR_row (by decide)]
      · exact (up2_ne (Or.inr (by decide))).trans up2_at
      · rw [up2_ne (Or.inr (by decide)), usH_11, cpR_row (by decide)]
        exact hl
    have hPp : ∀ n p J, PS I l n p J → Pp l p J := fun n p J h => h.2.2
    have hP : ∀ n p J b p' J', PS I l n p J → Rd l p b p' J J' → PS I l n p' J' := fun n p J b p' J' h r => ⟨GX.sS h.1 (Fm.mo (Rd.fm r) sR_sS), (by obtain ⟨nd', np', g⟩ := h.2.1; exact ⟨nd', np', SF.eq g (Rd.w r)⟩), Rd.pp r⟩
    have hU : ∀ n p J, PS I l n p J → p < l → PS I l n (p + 1) (up2 J 420 10 (nI (p + 1))) := fun n p J h hp => ⟨GX.up h.1 rfl (by decide), (by obtain ⟨nd', np', g⟩ := h.2.1; exact ⟨nd', np', SF.up g⟩), Pp.to h.2.2 (by omega)⟩
    have hF : ∀ n p J, PS I l n p J → GX I J := fun n p J h => h.1
    have hL : ∀ n p J, PS I l n p J → Sp S m_X12_readLine 60 0 0 [.ref 420, .int (bI true), .int (nI n)] (hp J L w1 w2 t) (fun v h' => ∃ zz p' J', v = some (.int (bI zz)) ∧ h' = hp J' L w1 w2 t ∧ GX I J' ∧ (zz = true → p ≤ p' ∧ PS I l (n + 1) p' J')) nX := by
      rintro n p J ⟨g1, ⟨nd', np', g2⟩, g3⟩
      refine Sp.weaken (r_X12_readLineS hw g2 g3) ?_ (fun _ _ z => z)
      rintro v h' ⟨z, p', J', e1, e2, e3⟩
      exact ⟨z, p', J', e1, e2, GX.sS g1 e3.1, fun _ => ⟨e3.2.2.1, GX.sS g1 e3.1, e3.2.1, e3.2.2.2⟩⟩
    refine a_l0 rfl rfl rfl ?_
    refine a_s rfl rfl ?_
    refine a_gV rfl lX12_239 mo_X12_readAll (r_X12_readAll (z := true) (P := PS I l) (Fq := GX I) (e := l) hPp hP hU hF hL h0) rfl rfl rfl ⟨12, _, rfl, rfl, rfl⟩ rfl (fun v' h' hv => ?_)
    obtain ⟨x, J, rfl, rfl, hg, hx⟩ := hv
    refine a_s1 rfl rfl rfl rfl rfl rfl ?_
    refine a_l0 rfl rfl rfl ?_
    refine a_l1 rfl rfl rfl ?_
    refine a_if_ge rfl (fun c => ?_) (fun c => ?_)
    · obtain ⟨n, p', rfl, hps⟩ := hx.resolve_left (fun z => by subst z; exact absurd c (by decide))
      refine a_s rfl rfl ?_
      refine a_puti rfl pfX12_33_12 rfl ?_
      refine a_l0 rfl rfl rfl ?_
      refine a_l1 rfl rfl rfl ?_
      refine a_if_ge rfl (fun _ => ?_) (fun c2 => absurd c c2)
      refine a_s rfl rfl ?_
      refine a_s rfl rfl ?_
      refine a_gV rfl lX12_243 mo_X12_throwsIf (r_X12_throwsIf (b := false)) rfl rfl rfl ⟨12, _, rfl, rfl, rfl⟩ rfl (fun v' h' hv => ?_)
      obtain ⟨rfl, K, rfl, fK⟩ := hv
      have gK : GX I K := GX.sU (GX.up hg rfl (by decide)) fK
      have sK : ∃ nd np, SF nd np K := by
        obtain ⟨nd', np', g⟩ := hps.2.1
        exact ⟨nd', np', SF.eq (SF.up g) (funext fun k => fK 421 k rfl)⟩
      refine a_if_ne rfl (fun c => absurd (by decide) c) (fun _ => ?_)
      refine a_l0 rfl rfl rfl ?_
      refine a_l0 rfl rfl rfl ?_
      refine a_getq rfl gfX12_13_12 rfl (rfl) ?_
      refine a_s rfl rfl ?_
      refine a_iald rfl (n := 2033) rfl ⟨by decide, by decide⟩ ?_
      refine a_s rfl rfl ?_
      refine a_ic_ne rfl (fun _ => ?_) (fun _ => ?_)
      · refine a_s rfl rfl ?_
        refine a_s rfl rfl ?_
        refine a_gV rfl lX12_243 mo_X12_throwsIf (r_X12_throwsIf (b := false)) rfl rfl rfl ⟨12, _, rfl, rfl, rfl⟩ rfl (fun v' h' hv => ?_)
        obtain ⟨rfl, K2, rfl, fK2⟩ := hv
        refine a_if_eq rfl (fun _ => ?_) (fun c => absurd (by decide) c)
        refine done (GX.sU gK fK2) ?_
        obtain ⟨nd', np', g⟩ := sK
        exact ⟨nd', np', SF.eq g (funext fun k => fK2 421 k rfl)⟩
      · refine a_s rfl rfl ?_
        refine a_goto rfl ?_
        refine a_s rfl rfl ?_
        refine a_gV rfl lX12_243 mo_X12_throwsIf (r_X12_throwsIf (b := true)) rfl rfl rfl ⟨12, _, rfl, rfl, rfl⟩ rfl (fun v' h' hv => ?_)
        obtain ⟨rfl, K2, rfl, fK2⟩ := hv
        refine a_if_eq rfl (fun c => absurd c (by decide)) (fun _ => ?_)
        exact restore (GX.sU gK fK2)
    · refine a_l0 rfl rfl rfl ?_
      refine a_geti rfl gfX12_91_12 rfl ?_
      refine a_goto rfl ?_
      refine a_puti rfl pfX12_33_12 rfl ?_
      refine a_l0 rfl rfl rfl ?_
      refine a_l1 rfl rfl rfl ?_
      refine a_if_ge rfl (fun c2 => absurd c2 c) (fun _ => ?_)
      refine a_s rfl rfl ?_
      refine a_goto rfl ?_
      refine a_s rfl rfl ?_
      refine a_gV rfl lX12_243 mo_X12_throwsIf (r_X12_throwsIf (b := true)) rfl rfl rfl ⟨12, _, rfl, rfl, rfl⟩ rfl (fun v' h' hv => ?_)
      obtain ⟨rfl, K, rfl, fK⟩ := hv
      refine a_if_ne rfl (fun _ => ?_) (fun c => absurd c (by decide))
      exact restore (GX.sU (GX.up hg rfl (by decide)) fK)
  refine a_s rfl rfl ?_
  refine a_s1 rfl rfl rfl rfl rfl rfl ?_
  refine a_forE (n := 1184) (fun j => [some (.ref 420), some (.int (nI j)), none]) (fun j => hp (cpR I 423 0 421 0 j) L w1 w2 t) (by simp [lsub, nI_0]) (by rw [cpR_0]) ?_ (fun j hj ih => ?_)
  · refine a_l1 rfl rfl rfl ?_
    refine a_s rfl rfl ?_
    refine a_ic_ge rfl (fun _ => k27) (fun c => absurd (Int32.le_refl _) c)
  · refine a_l1 rfl rfl rfl ?_
    refine a_s rfl rfl ?_
    refine a_ic_ge rfl (fun c => absurd c (nI_ge (b := 1184) hj (by omega))) (fun _ => ?_)
    refine a_l0 rfl rfl rfl ?_
    refine a_getq rfl gfX12_20_12 rfl (rfl) ?_
    refine a_l1 rfl rfl rfl ?_
    refine a_l0 rfl rfl rfl ?_
    refine a_getq rfl gfX12_13_12 rfl (rfl) ?_
    refine a_l1 rfl rfl rfl ?_
    refine a_ialdv (v := I 421 (j + 0)) rfl (n := 2033) rfl (inI_nI (by omega) (by omega)) (by rw [nI_clamp (by omega), cpR_row (by decide)]; rfl) ?_
    refine a_iastv (k := 0 + j) rfl (n := 1184) rfl (inI_nI (by omega) (by omega)) (by rw [nI_clamp (by omega)]; omega) ?_
    rw [cpR_succ]
    refine a_i1 rfl rfl rfl ?_
    refine a_goto rfl ?_
    exact a_back ih (by simp [lsub, nI_1]) rfl
end T70
