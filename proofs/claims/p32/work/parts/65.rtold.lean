/-! ===== the reference: odds, spare, whose, ask ===== -/
section T65
variable {S : aS} {I : Nat → Nat → Int32} {L : Nat → Nat → Int64} {w1 w2 t : Nat} {nd np : Nat}
set_option maxRecDepth 100000
theorem nS2 (j : Nat) : some (Value.int (nI (2 * j) + 2)) = some (Value.int (nI (2 * (j + 1)))) := by
  rw [show (2 : Int32) = nI 2 from rfl, nI_addl]
  rfl
theorem r_X12_isTold {e : Nat} (he : I 420 11 = nI e) (he4 : e ≤ 400) : Sp S m_X12_isTold 14 0 0 [.ref 420] (hp I L w1 w2 t) (QE isZ (hp I L w1 w2 t)) nX := by
  refine Sp_of ok_X12_isTold rfl rfl ?_
  show AW S m_X12_isTold 14 _ _ 0 0 0 [some (.ref 420), none, none] [] (hp I L w1 w2 t)
  have key : ∀ b : Bool, AW S m_X12_isTold 14 (QE isZ (hp I L w1 w2 t)) nX 0 0 24 [some (.ref 420), some (.int (bI b)), none] [] (hp I L w1 w2 t) := by
    intro b
    refine a_s rfl rfl ?_
    refine a_s2 rfl rfl rfl rfl rfl rfl ?_
    refine a_inv (n := 202) (fun m ls h => ∃ b j, ls = [some (.ref 420), some (.int (bI b)), some (.int (nI (2 * j)))] ∧ h = hp I L w1 w2 t ∧ j + m = 202) ⟨b, 0, rfl, rfl, rfl⟩ ?_
    rintro m _ _ ⟨b, j, rfl, rfl, hj⟩ ih
    refine a_l2 rfl rfl rfl ?_
    refine a_l0 rfl rfl rfl ?_
    refine a_geti rfl gfX12_84_12 rfl ?_
    refine a_top (y := nI e) he ?_
    refine a_ic_ge rfl (fun c => ?_) (fun c => ?_)
    · refine a_l1 rfl rfl rfl ?_
      exact a_zret rfl rfl (bI_nar _) ⟨⟨_, rfl⟩, rfl⟩
    · have hd : 2 * j < e := nI_lt_of c (by omega) (by omega)
      have back : ∀ b' : Bool, AW S m_X12_isTold 14 (QE isZ (hp I L w1 w2 t)) nX 0 0 87 [some (.ref 420), some (.int (bI b')), some (.int (nI (2 * j)))] [] (hp I L w1 w2 t) := by
        intro b'
        refine a_i2 rfl rfl rfl ?_
        refine a_goto rfl ?_
        exact a_less (ih (m - 1) _ _ (by omega) ⟨b', j + 1, rfl, rfl, by omega⟩) ⟨rfl, rfl, nS2 j, trivial⟩
      refine a_l1 rfl rfl rfl ?_
      refine a_if_eq rfl (fun _ => ?_) (fun _ => ?_)
      · refine a_l1 rfl rfl rfl ?_
        exact a_zret rfl rfl (bI_nar _) ⟨⟨_, rfl⟩, rfl⟩
      · have no : AW S m_X12_isTold 14 (QE isZ (hp I L w1 w2 t)) nX 0 0 85 [some (.ref 420), some (.int (bI b)), some (.int (nI (2 * j)))] [] (hp I L w1 w2 t) := by
          refine a_s rfl rfl ?_
          refine a_s1 rfl rfl rfl rfl rfl rfl ?_
          exact back false
        refine a_l0 rfl rfl rfl ?_
        refine a_getq rfl gfX12_29_12 rfl (rfl) ?_
        refine a_l2 rfl rfl rfl ?_
        refine a_bald rfl (n := 400) rfl (inI_nI (by omega) (by omega)) ?_
        refine a_eS1 rfl lX12_292 mo_X12_noKerb sp_X12_noKerb rfl rfl rfl rfl ?_
        refine a_if_ne rfl (fun _ => no) (fun _ => ?_)
        refine a_l0 rfl rfl rfl ?_
        refine a_getq rfl gfX12_29_12 rfl (rfl) ?_
        refine a_l2 rfl rfl rfl ?_
        refine a_s rfl rfl ?_
        refine a_s rfl rfl ?_
        refine a_top (y := nI (2 * j + 1)) (nI_succ _).symm ?_
        refine a_bald rfl (n := 400) rfl (inI_nI (by omega) (by omega)) ?_
        refine a_eS1 rfl lX12_292 mo_X12_noKerb sp_X12_noKerb rfl rfl rfl rfl ?_
        refine a_if_ne rfl (fun _ => no) (fun _ => ?_)
        refine a_l0 rfl rfl rfl ?_
        refine a_getq rfl gfX12_29_12 rfl (rfl) ?_
        refine a_l2 rfl rfl rfl ?_
        refine a_bald rfl (n := 400) rfl (inI_nI (by omega) (by omega)) ?_
        refine a_l0 rfl rfl rfl ?_
        refine a_getq rfl gfX12_29_12 rfl (rfl) ?_
        refine a_l2 rfl rfl rfl ?_
        refine a_s rfl rfl ?_
        refine a_s rfl rfl ?_
        refine a_top (y := nI (2 * j + 1)) (nI_succ _).symm ?_
        refine a_bald rfl (n := 400) rfl (inI_nI (by omega) (by omega)) ?_
        refine a_ic_gt rfl (fun _ => no) (fun _ => ?_)
        refine a_s rfl rfl ?_
        refine a_goto rfl ?_
        refine a_s1 rfl rfl rfl rfl rfl rfl ?_
        exact back true
  refine a_l0 rfl rfl rfl ?_
  refine a_geti rfl gfX12_84_12 rfl ?_
  refine a_s rfl rfl ?_
  refine a_irem rfl (by decide) ?_
  refine a_if_ne rfl (fun _ => ?_) (fun _ => ?_)
  · refine a_s rfl rfl ?_
    refine a_s1 rfl rfl rfl rfl rfl rfl ?_
    exact key false
  · refine a_l0 rfl rfl rfl ?_
    refine a_geti rfl gfX12_84_12 rfl ?_
    refine a_s rfl rfl ?_
    refine a_ic_gt rfl (fun _ => ?_) (fun _ => ?_)
    · refine a_s rfl rfl ?_
      refine a_s1 rfl rfl rfl rfl rfl rfl ?_
      exact key false
    · refine a_s rfl rfl ?_
      refine a_goto rfl ?_
      refine a_s1 rfl rfl rfl rfl rfl rfl ?_
      exact key true
theorem r_X12_allThatFit {e : Nat} (hs : SO nd np (I 421)) (he : I 420 11 = nI e) (he4 : e ≤ 400) : Sp S m_X12_allThatFit 14 0 0 [.ref 420] (hp I L w1 w2 t) (QE isI (hp I L w1 w2 t)) nX := by
  have hp6 := hs.p
  refine Sp_of ok_X12_allThatFit rfl rfl ?_
  show AW S m_X12_allThatFit 14 _ _ 0 0 0 [some (.ref 420), none, none, none, none] [] (hp I L w1 w2 t)
  refine a_s rfl rfl ?_
  refine a_s1 rfl rfl rfl rfl rfl rfl ?_
  refine a_s rfl rfl ?_
  refine a_s2 rfl rfl rfl rfl rfl rfl ?_
  refine a_cnt (j0 := 0) (fun j ls h => ∃ a, ls = [some (.ref 420), some (.int a), some (.int (nI j)), none, none] ∧ h = hp I L w1 w2 t) (by decide) ⟨_, rfl, rfl⟩ ⟨rfl, rfl, rfl, trivial⟩ ?_
  rintro j _ _ hj ⟨a, rfl, rfl⟩ ih
  refine a_l2 rfl rfl rfl ?_
  refine a_l0 rfl rfl rfl ?_
  refine a_eV1 rfl lX12_66 mo_X12_people sp_X12_people rfl rfl rfl ⟨12, _, rfl, rfl, rfl⟩ rfl ?_
  refine a_top (y := nI np) hs.pu ?_
  refine a_ic_ge rfl (fun c => ?_) (fun c => ?_)
  · refine a_l1 rfl rfl rfl ?_
    exact a_iret rfl rfl ⟨⟨_, rfl⟩, rfl⟩
  · have hjp : j < np := nI_lt_of c hj (by omega)
    refine a_s rfl rfl ?_
    refine a_s3 rfl rfl rfl rfl rfl rfl ?_
    refine a_s rfl rfl ?_
    refine a_s4 rfl rfl rfl rfl rfl rfl ?_
    refine a_inv (n := 202) (fun m ls h => ∃ b i, ls = [some (.ref 420), some (.int a), some (.int (nI j)), some (.int (bI b)), some (.int (nI (2 * i)))] ∧ h = hp I L w1 w2 t ∧ i + m = 202) ⟨true, 0, rfl, rfl, rfl⟩ ?_
    rintro m _ _ ⟨b, i, rfl, rfl, hi⟩ ih2
    refine a_l4 rfl rfl rfl ?_
    refine a_l0 rfl rfl rfl ?_
    refine a_geti rfl gfX12_84_12 rfl ?_
    refine a_top (y := nI e) he ?_
    refine a_ic_ge rfl (fun c2 => ?_) (fun c2 => ?_)
    · refine a_l1 rfl rfl rfl ?_
      refine a_l3 rfl rfl rfl ?_
      have fin : ∀ x : Int32, AW S m_X12_allThatFit 14 (QE isI (hp I L w1 w2 t)) nX 0 0 82 [some (.ref 420), some (.int a), some (.int (nI j)), some (.int (bI b)), some (.int (nI (2 * i)))] [.int x, .int a] (hp I L w1 w2 t) := by
        intro x
        refine a_s rfl rfl ?_
        refine a_s1 rfl rfl rfl rfl rfl rfl ?_
        refine a_i2 rfl rfl rfl ?_
        refine a_goto rfl ?_
        exact ih _ _ _ _ c ⟨_, rfl, rfl⟩ ⟨rfl, rfl, nS _, trivial⟩
      refine a_if_eq rfl (fun _ => ?_) (fun _ => ?_)
      · refine a_s rfl rfl ?_
        exact fin _
      · refine a_s rfl rfl ?_
        refine a_l2 rfl rfl rfl ?_
        refine a_s rfl rfl ?_
        refine a_goto rfl ?_
        exact fin _
    · have hd : 2 * i < e := nI_lt_of c2 (by omega) (by omega)
      have back : ∀ b' : Bool, AW S m_X12_allThatFit 14 (QE isI (hp I L w1 w2 t)) nX 0 0 64 [some (.ref 420), some (.int a), some (.int (nI j)), some (.int (bI b')), some (.int (nI (2 * i)))] [] (hp I L w1 w2 t) := by
        intro b'
        refine a_i4 rfl rfl rfl ?_
        refine a_goto rfl ?_
        exact a_less (ih2 (m - 1) _ _ (by omega) ⟨b', i + 1, rfl, rfl, by omega⟩) ⟨rfl, rfl, rfl, rfl, nS2 i, trivial⟩
      have no : AW S m_X12_allThatFit 14 (QE isI (hp I L w1 w2 t)) nX 0 0 62 [some (.ref 420), some (.int a), some (.int (nI j)), some (.int (bI b)), some (.int (nI (2 * i)))] [] (hp I L w1 w2 t) := by
        refine a_s rfl rfl ?_
        refine a_s3 rfl rfl rfl rfl rfl rfl ?_
        exact back false
      refine a_l3 rfl rfl rfl ?_
      refine a_if_eq rfl (fun _ => no) (fun _ => ?_)
      refine a_l0 rfl rfl rfl ?_
      refine a_l2 rfl rfl rfl ?_
      refine a_s rfl rfl ?_
      refine a_eV1 rfl lX12_252 mo_X12_ofPerson (sp_X12_ofPerson (d := j) (k := 0) (by omega) (by decide)) rfl rfl rfl ⟨12, _, rfl, rfl, rfl⟩ rfl ?_
      refine a_l0 rfl rfl rfl ?_
      refine a_getq rfl gfX12_29_12 rfl (rfl) ?_
      refine a_l4 rfl rfl rfl ?_
      refine a_bald rfl (n := 400) rfl (inI_nI (by omega) (by omega)) ?_
      refine a_l0 rfl rfl rfl ?_
      refine a_getq rfl gfX12_29_12 rfl (rfl) ?_
      refine a_l4 rfl rfl rfl ?_
      refine a_s rfl rfl ?_
      refine a_s rfl rfl ?_
      refine a_top (y := nI (2 * i + 1)) (nI_succ _).symm ?_
      refine a_bald rfl (n := 400) rfl (inI_nI (by omega) (by omega)) ?_
      refine a_eS1 rfl lX12_70 mo_X12_in sp_X12_in rfl rfl rfl rfl ?_
      refine a_if_eq rfl (fun _ => no) (fun _ => ?_)
      refine a_s rfl rfl ?_
      refine a_goto rfl ?_
      refine a_s3 rfl rfl rfl rfl rfl rfl ?_
      exact back true
/-- the tape is used up -/
def usH (I : Nat → Nat → Int32) : Nat → Nat → Int32 := up2 (up2 (up2 (up2 I 420 0 0) 420 11 (I 420 9)) 420 9 0) 420 10 0
theorem usH_row {I : Nat → Nat → Int32} {q : Nat} (h : q ≠ 420) : usH I q = I q := by
  unfold usH
  rw [up2_row h, up2_row h, up2_row h, up2_row h]
theorem usH_f {I : Nat → Nat → Int32} {k : Nat} (h0 : k ≠ 0) (h1 : k ≠ 11) (h2 : k ≠ 9) (h3 : k ≠ 10) : usH I 420 k = I 420 k := by
  unfold usH
  rw [up2_ne (Or.inr h3), up2_ne (Or.inr h2), up2_ne (Or.inr h1), up2_ne (Or.inr h0)]
theorem usH_11 {I : Nat → Nat → Int32} : usH I 420 11 = I 420 9 := by
  unfold usH
  rw [up2_ne (Or.inr (by decide)), up2_ne (Or.inr (by decide)), up2_at]
theorem usH_9 {I : Nat → Nat → Int32} : usH I 420 9 = 0 := by
  unfold usH
  rw [up2_ne (Or.inr (by decide)), up2_at]
/-- nothing else between two calls has changed, but the tape is empty -/
def Us (nd np : Nat) (I I' : Nat → Nat → Int32) : Prop := (∀ q, (q < 420 ∨ q = 426) → I' q = I q) ∧ I' 420 9 = 0 ∧ I' 420 6 = I 420 6 ∧ RI nd np I'
theorem Us.mk (hr : RI nd np I) : Us nd np I (usH I) := ⟨fun q hq => usH_row (by omega), usH_9, usH_f (by decide) (by decide) (by decide) (by decide), hr.eq (usH_row (by decide)) (usH_row (by decide)) (usH_row (by decide)) (usH_f (by decide) (by decide) (by decide) (by decide)) (usH_f (by decide) (by decide) (by decide) (by decide))⟩
theorem Us.fm {I1 I2 : Nat → Nat → Int32} (h : Us nd np I I1) (f : Fm sU I1 I2) : Us nd np I I2 := by
  have m := Mr.fm (Mr.rf h.2.2.2) f
  exact ⟨fun q hq => (m.1.1 q hq).trans (h.1 q hq), m.1.2.1.trans h.2.1, m.1.2.2.trans h.2.2.1, m.2⟩
theorem r_X12_whose (hr : RI nd np I) (ht : ∃ l, l ≤ 400 ∧ I 420 9 = nI l) : Sp S m_X12_whose 15 0 0 [.ref 420] (hp I L w1 w2 t) (QR (Us nd np I) isI L w1 w2 t) nX := by
  obtain ⟨l, hl4, hl⟩ := ht
  refine Sp_of ok_X12_whose rfl rfl ?_
  show AW S m_X12_whose 15 _ _ 0 0 0 [some (.ref 420)] [] (hp I L w1 w2 t)
  have f0 : Us nd np I (usH I) := Us.mk hr
  refine a_l0 rfl rfl rfl ?_
  refine a_eV0 rfl lX12_232 mo_X12_uses r_X12_uses rfl rfl rfl ⟨12, _, rfl, rfl, rfl⟩ rfl ?_
  refine a_ren (P := fun J => Us nd np I J ∧ J 420 11 = nI l) ⟨f0, usH_11.trans hl⟩ (fun I1 hI1 => ?_)
  clear f0
  obtain ⟨f1, he⟩ := hI1
  refine a_l0 rfl rfl rfl ?_
  refine a_l0 rfl rfl rfl ?_
  refine a_gV rfl lX12_438 mo_X12_isTold (r_X12_isTold he hl4) rfl rfl rfl ⟨12, _, rfl, rfl, rfl⟩ rfl (fun v' h' hv => ?_)
  obtain ⟨⟨b, rfl⟩, rfl⟩ := hv
  refine a_if_ne rfl (fun _ => ?_) (fun _ => ?_)
  · refine a_s rfl rfl ?_
    refine a_s rfl rfl ?_
    refine a_gV rfl lX12_243 mo_X12_throwsIf (r_X12_throwsIf (b := false)) rfl rfl rfl ⟨12, _, rfl, rfl, rfl⟩ rfl (fun v' h' hv => ?_)
    obtain ⟨rfl, I2, rfl, f2⟩ := hv
    refine a_if_eq rfl (fun _ => ?_) (fun c => absurd (by decide) c)
    refine a_l0 rfl rfl rfl ?_
    refine a_gV rfl lX12_441 mo_X12_allThatFit (r_X12_allThatFit (f1.fm f2).2.2.2.so ((f2 420 11 rfl).trans he) hl4) rfl rfl rfl ⟨12, _, rfl, rfl, rfl⟩ rfl (fun v' h' hv => ?_)
    obtain ⟨⟨v, rfl⟩, rfl⟩ := hv
    exact a_iret rfl rfl ⟨⟨_, rfl⟩, _, rfl, f1.fm f2⟩
  · refine a_s rfl rfl ?_
    refine a_goto rfl ?_
    refine a_s rfl rfl ?_
    refine a_gV rfl lX12_243 mo_X12_throwsIf (r_X12_throwsIf (b := true)) rfl rfl rfl ⟨12, _, rfl, rfl, rfl⟩ rfl (fun v' h' hv => ?_)
    obtain ⟨rfl, I2, rfl, f2⟩ := hv
    refine a_if_eq rfl (fun c => absurd c (by decide)) (fun _ => ?_)
    refine a_s rfl rfl ?_
    refine a_goto rfl ?_
    exact a_iret rfl rfl ⟨⟨_, rfl⟩, _, rfl, f1.fm f2⟩
/-- days that so many hours take, one's free hours 0 to 9 -/
def dN (h f : Nat) : Nat := if h = 0 then 0 else if f = 0 then 1000 else (h + f - 1) / f
theorem days_nI : ∀ h, h < 55 → ∀ f, f < 10 → daysR (nI h) (nI f) = nI (dN h f) ∧ dN h f ≤ 1000 := by decide +kernel
theorem r_X12_odds (hs : SO nd np (I 421)) (hw : LwW (I 421)) (lg : LgW (I 421)) {x1 x2 : Int32} : Sp S m_X12_odds 14 0 0 [.ref 420, .int x1, .int x2] (hp I L w1 w2 t) (fun v h' => isI v ∧ ∃ I' L', h' = hp I' L' w1 w2 t ∧ Fm sV I I') nX := by
  refine Sp_of ok_X12_odds rfl rfl ?_
  show AW S m_X12_odds 14 _ _ 0 0 0 [some (.ref 420), some (.int x1), some (.int x2)] [] (hp I L w1 w2 t)
  refine a_l0 rfl rfl rfl ?_
  refine a_s rfl rfl ?_
  refine a_puti rfl pfX12_3_12 rfl ?_
  refine a_ren (P := Fm sV I) (Fm.up Fm.rf rfl) (fun I1 f1 => ?_)
  have no : AW S m_X12_odds 14 (fun v h' => isI v ∧ ∃ I' L', h' = hp I' L' w1 w2 t ∧ Fm sV I I') nX 0 0 26 [some (.ref 420), some (.int x1), some (.int x2)] [.ref 420] (hp I1 L w1 w2 t) := by
    refine a_s rfl rfl ?_
    refine a_goto rfl ?_
    refine a_s rfl rfl ?_
    refine a_gV rfl lX12_243 mo_X12_throwsIf (r_X12_throwsIf (b := true)) rfl rfl rfl ⟨12, _, rfl, rfl, rfl⟩ rfl (fun v' h' hv => ?_)
    obtain ⟨rfl, I2, rfl, f2⟩ := hv
    refine a_if_eq rfl (fun c => absurd c (by decide)) (fun _ => ?_)
    refine a_s rfl rfl ?_
    refine a_goto rfl ?_
    exact a_iret rfl rfl ⟨⟨_, rfl⟩, _, _, rfl, Fm.tr f1 (Fm.mo f2 sU_sV)⟩
  refine a_l0 rfl rfl rfl ?_
  refine a_l1 rfl rfl rfl ?_
  refine a_s rfl rfl ?_
  refine a_s rfl rfl ?_
  refine a_eS1 rfl lX12_70 mo_X12_in sp_X12_in rfl rfl rfl rfl ?_
  refine a_if_eq rfl (fun _ => no) (fun c => ?_)
  obtain ⟨n, -, hn, rfl⟩ := inB_nI (a := 0) (b := 6) (by decide) (bI_t c)
  refine a_l2 rfl rfl rfl ?_
  refine a_s rfl rfl ?_
  refine a_s rfl rfl ?_
  refine a_eS1 rfl lX12_70 mo_X12_in sp_X12_in rfl rfl rfl rfl ?_
  refine a_if_ne rfl (fun c2 => ?_) (fun _ => no)
  obtain ⟨m, -, hm, rfl⟩ := inB_nI (a := 0) (b := 6) (by decide) (bI_t c2)
  clear no
  refine a_s rfl rfl ?_
  refine a_s rfl rfl ?_
  refine a_gV rfl lX12_243 mo_X12_throwsIf (r_X12_throwsIf (b := false)) rfl rfl rfl ⟨12, _, rfl, rfl, rfl⟩ rfl (fun v' h' hv => ?_)
  obtain ⟨rfl, I2, rfl, f2⟩ := hv
  refine a_if_eq rfl (fun _ => ?_) (fun c => absurd (by decide) c)
  refine a_l0 rfl rfl rfl ?_
  refine a_l1 rfl rfl rfl ?_
  refine a_l2 rfl rfl rfl ?_
  refine a_l0 rfl rfl rfl ?_
  refine a_getq rfl gfX12_13_12 rfl (rfl) ?_
  refine a_s rfl rfl ?_
  refine a_iald rfl (n := 2033) rfl ⟨by decide, by decide⟩ ?_
  refine a_eV1 rfl lX12_458 mo_X12_oddsOf (sp_X12_oddsOf (n := n) (m := m) hn hm) rfl rfl rfl ⟨12, _, rfl, rfl, rfl⟩ rfl ?_
  exact a_iret rfl rfl ⟨⟨_, rfl⟩, _, _, rfl, Fm.tr f1 (Fm.mo f2 sU_sV)⟩
theorem r_X12_spare (hs : SO nd np (I 421)) (fr : FrW np (I 421)) {x1 x2 : Int32} : Sp S m_X12_spare 14 0 0 [.ref 420, .int x1, .int x2] (hp I L w1 w2 t) (fun v h' => isI v ∧ ∃ I' L', h' = hp I' L' w1 w2 t ∧ Fm sV I I') nX := by
  have h6 := hs.p
  refine Sp_of ok_X12_spare rfl rfl ?_
  show AW S m_X12_spare 14 _ _ 0 0 0 [some (.ref 420), some (.int x1), some (.int x2), none, none] [] (hp I L w1 w2 t)
  refine a_l0 rfl rfl rfl ?_
  refine a_s rfl rfl ?_
  refine a_puti rfl pfX12_3_12 rfl ?_
  refine a_ren (P := Fm sV I) (Fm.up Fm.rf rfl) (fun I1 f1 => ?_)
  have out : ∀ {J : Nat → Nat → Int32} {l1 l2 : Option Value}, Fm sV I J → AW S m_X12_spare 14 (fun v h' => isI v ∧ ∃ I' L', h' = hp I' L' w1 w2 t ∧ Fm sV I I') nX 0 0 41 [some (.ref 420), l1, l2, none, none] [] (hp J L w1 w2 t) := by
    intro J l1 l2 f
    refine a_s rfl rfl ?_
    exact a_iret rfl rfl ⟨⟨_, rfl⟩, _, _, rfl, f⟩
  refine a_l0 rfl rfl rfl ?_
  refine a_l0 rfl rfl rfl ?_
  refine a_l1 rfl rfl rfl ?_
  refine a_eV1 rfl lX12_342 mo_X12_noPerson (r_X12_noPerson (SO.fm hs f1)) rfl rfl rfl ⟨12, _, rfl, rfl, rfl⟩ rfl ?_
  refine a_s rfl rfl ?_
  refine a_gV rfl lX12_243 mo_X12_throwsIf r_X12_throwsIf rfl rfl rfl ⟨12, _, rfl, rfl, rfl⟩ rfl (fun v' h' hv => ?_)
  obtain ⟨rfl, I2, rfl, f2⟩ := hv
  replace f2 : Fm sV I I2 := Fm.tr f1 (Fm.mo f2 sU_sV)
  refine a_if_ne rfl (fun _ => out f2) (fun c => ?_)
  obtain ⟨p, hpp, rfl⟩ := isIx (n := np) (by omega) c
  refine a_l0 rfl rfl rfl ?_
  refine a_l2 rfl rfl rfl ?_
  refine a_s rfl rfl ?_
  refine a_s rfl rfl ?_
  refine a_eS1 rfl lX12_70 mo_X12_in sp_X12_in rfl rfl rfl rfl ?_
  refine a_if_ne rfl (fun c2 => ?_) (fun _ => ?_)
  · obtain ⟨h, hh1, hh2, rfl⟩ := inB_nI (a := 1) (b := 54) (by decide) (bI_t c2)
    refine a_s rfl rfl ?_
    refine a_s rfl rfl ?_
    refine a_gV rfl lX12_243 mo_X12_throwsIf (r_X12_throwsIf (b := false)) rfl rfl rfl ⟨12, _, rfl, rfl, rfl⟩ rfl (fun v' h' hv => ?_)
    obtain ⟨rfl, I3, rfl, f3⟩ := hv
    replace f3 : Fm sV I I3 := Fm.tr f2 (Fm.mo f3 sU_sV)
    refine a_if_eq rfl (fun _ => ?_) (fun c => absurd (by decide) c)
    refine a_l2 rfl rfl rfl ?_
    refine a_l0 rfl rfl rfl ?_
    refine a_l1 rfl rfl rfl ?_
    refine a_s rfl rfl ?_
    refine a_eV1 rfl lX12_252 mo_X12_ofPerson (sp_X12_ofPerson (d := p) (k := 1) (by omega) (by decide)) rfl rfl rfl ⟨12, _, rfl, rfl, rfl⟩ rfl ?_
    obtain ⟨g, hg, eg⟩ := fr p hpp
    refine a_top (y := nI g) ((f3 421 _ rfl).trans eg) ?_
    obtain ⟨ed, hd⟩ := days_nI h (by omega) g (by omega)
    refine a_eS1 rfl lX12_336 mo_X12_daysFor sp_X12_daysFor rfl rfl rfl rfl ?_
    refine a_top (y := nI (dN h g)) ed ?_
    refine a_s3 rfl rfl rfl rfl rfl rfl ?_
    refine a_s rfl rfl ?_
    refine a_s4 rfl rfl rfl rfl rfl rfl ?_
    refine a_cnt (j0 := 1) (fun j ls h' => ∃ L', ls = [some (.ref 420), some (.int (nI p)), some (.int (nI h)), some (.int (nI (dN h g))), some (.int (nI j))] ∧ h' = hp I3 L' w1 w2 t) (by decide) ⟨_, rfl, rfl⟩ ⟨rfl, rfl, rfl, rfl, rfl, trivial⟩ ?_
    rintro j _ _ hj ⟨L', rfl, rfl⟩ ih
    refine a_l4 rfl rfl rfl ?_
    refine a_s rfl rfl ?_
    refine a_ic_gt rfl (fun _ => ?_) (fun c4 => ?_)
    · refine a_s rfl rfl ?_
      exact a_iret rfl rfl ⟨⟨_, rfl⟩, _, _, rfl, f3⟩
    · have hj6 : j ≤ 6 := nI_le_of (a := j) (b := 6) c4 hj (by decide)
      have back : ∀ L2, AW S m_X12_spare 14 (fun v h' => isI v ∧ ∃ I' L', h' = hp I' L' w1 w2 t ∧ Fm sV I I') nX 0 0 96 [some (.ref 420), some (.int (nI p)), some (.int (nI h)), some (.int (nI (dN h g))), some (.int (nI j))] [] (hp I3 L2 w1 w2 t) := by
        intro L2
        refine a_i4 rfl rfl rfl ?_
        refine a_goto rfl ?_
        exact ih _ _ _ _ (nI_gt1 (a := 6) (by decide) hj c4) ⟨_, rfl, rfl⟩ ⟨rfl, rfl, rfl, rfl, nS _, trivial⟩
      refine a_l3 rfl rfl rfl ?_
      refine a_l4 rfl rfl rfl ?_
      refine a_ic_gt rfl (fun _ => back _) (fun c5 => ?_)
      have hm : dN h g ≤ j := nI_le_of c5 (by omega) hj
      refine a_l0 rfl rfl rfl ?_
      refine a_l4 rfl rfl rfl ?_
      refine a_l3 rfl rfl rfl ?_
      refine a_s rfl rfl ?_
      refine a_l0 rfl rfl rfl ?_
      refine a_getq rfl gfX12_13_12 rfl (rfl) ?_
      refine a_s rfl rfl ?_
      refine a_iald rfl (n := 2033) rfl ⟨by decide, by decide⟩ ?_
      refine a_s rfl rfl ?_
      refine a_eV1 rfl lX12_458 mo_X12_oddsOf (sp_X12_oddsOf (n := j) (m := dN h g) hj6 (by omega)) rfl rfl rfl ⟨12, _, rfl, rfl, rfl⟩ rfl ?_
      refine a_s rfl rfl ?_
      refine a_ic_lt rfl (fun _ => back _) (fun _ => ?_)
      refine a_l4 rfl rfl rfl ?_
      exact a_iret rfl rfl ⟨⟨_, rfl⟩, _, _, rfl, f3⟩
  · refine a_s rfl rfl ?_
    refine a_goto rfl ?_
    refine a_s rfl rfl ?_
    refine a_gV rfl lX12_243 mo_X12_throwsIf (r_X12_throwsIf (b := true)) rfl rfl rfl ⟨12, _, rfl, rfl, rfl⟩ rfl (fun v' h' hv => ?_)
    obtain ⟨rfl, I3, rfl, f3⟩ := hv
    refine a_if_eq rfl (fun c => absurd c (by decide)) (fun _ => ?_)
    exact out (Fm.tr f2 (Fm.mo f3 sU_sV))
end T65
