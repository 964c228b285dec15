/-! ===== the reference: ask ===== -/
section T66
variable {S : aS} {I : Nat → Nat → Int32} {L : Nat → Nat → Int64} {w1 w2 t : Nat} {nd np : Nat}
set_option maxRecDepth 100000
theorem r_X12_ask (hr : RI nd np I) (ht : ∃ l, l ≤ 400 ∧ I 420 9 = nI l) : Sp S m_X12_ask 15 0 0 [.ref 420] (hp I L w1 w2 t) (QR (Us nd np I) isI L w1 w2 t) nX := by
  obtain ⟨l, hl4, hl⟩ := ht
  refine Sp_of ok_X12_ask rfl rfl ?_
  show AW S m_X12_ask 15 _ _ 0 0 0 [some (.ref 420), none, none, none, none, none, none, none] [] (hp I L w1 w2 t)
  have f0 : Us nd np I (usH I) := Us.mk hr
  refine a_l0 rfl rfl rfl ?_
  refine a_eV0 rfl lX12_232 mo_X12_uses r_X12_uses rfl rfl rfl ⟨12, _, rfl, rfl, rfl⟩ rfl ?_
  refine a_ren (P := fun J => Us nd np I J ∧ J 420 11 = nI l) ⟨f0, usH_11.trans hl⟩ (fun I1 hI1 => ?_)
  clear f0
  obtain ⟨f1, he⟩ := hI1
  refine a_l0 rfl rfl rfl ?_
  refine a_l0 rfl rfl rfl ?_
  refine a_gV rfl lX12_438 mo_X12_isTold (r_X12_isTold he hl4) rfl rfl rfl ⟨12, _, rfl, rfl, rfl⟩ rfl (fun v' h' hv => ?_)
  obtain ⟨⟨b, rfl⟩, rfl⟩ := hv
  refine a_if_ne rfl (fun _ => ?_) (fun _ => ?_)
  · refine a_s rfl rfl ?_
    refine a_s rfl rfl ?_
    refine a_gV rfl lX12_243 mo_X12_throwsIf (r_X12_throwsIf (b := false)) rfl rfl rfl ⟨12, _, rfl, rfl, rfl⟩ rfl (fun v' h' hv => ?_)
    obtain ⟨rfl, I2, rfl, f2⟩ := hv
    refine a_if_eq rfl (fun _ => ?_) (fun c => absurd (by decide) c)
    have hs2 := (f1.fm f2).2.2.2.so
    have h6 := hs2.p
    refine a_l0 rfl rfl rfl ?_
    refine a_gV rfl lX12_441 mo_X12_allThatFit (r_X12_allThatFit hs2 ((f2 420 11 rfl).trans he) hl4) rfl rfl rfl ⟨12, _, rfl, rfl, rfl⟩ rfl (fun v' h' hv => ?_)
    obtain ⟨⟨v, rfl⟩, rfl⟩ := hv
    refine a_s1 rfl rfl rfl rfl rfl rfl ?_
    refine a_l1 rfl rfl rfl ?_
    refine a_eS1 rfl lX12_310 mo_J6_bitCount_0f7a4 (sp_bitCount) rfl rfl rfl rfl ?_
    refine a_s2 rfl rfl rfl rfl rfl rfl ?_
    refine a_s rfl rfl ?_
    refine a_s3 rfl rfl rfl rfl rfl rfl ?_
    refine a_ldcw rfl kX12_401 ?_
    refine a_s4 rfl rfl rfl rfl rfl rfl ?_
    refine a_s rfl rfl ?_
    refine a_s5 rfl rfl rfl rfl rfl rfl ?_
    refine a_cnt (j0 := 0) (fun j ls h => ∃ a b, ls = [some (.ref 420), some (.int v), some (.int (bcF v)), some (.int a), some (.int b), some (.int (nI j)), none, none] ∧ h = hp I2 L w1 w2 t) (by decide) ⟨_, _, rfl, rfl⟩ ⟨rfl, rfl, rfl, rfl, rfl, rfl, trivial⟩ ?_
    rintro j _ _ hj ⟨a, b, rfl, rfl⟩ ih
    have out : ∀ {y6 y7 : Option Value} {a b c : Int32}, AW S m_X12_ask 15 (QR (Us nd np I) isI L w1 w2 t) nX 0 0 150 [some (.ref 420), some (.int v), some (.int (bcF v)), some (.int a), some (.int b), some (.int c), y6, y7] [] (hp I2 L w1 w2 t) := by
      intro y6 y7 a b c
      refine a_l3 rfl rfl rfl ?_
      exact a_iret rfl rfl ⟨⟨_, rfl⟩, _, rfl, f1.fm f2⟩
    refine a_l5 rfl rfl rfl ?_
    refine a_s rfl rfl ?_
    refine a_ic_ge rfl (fun _ => out) (fun c15 => ?_)
    refine a_l2 rfl rfl rfl ?_
    refine a_s rfl rfl ?_
    refine a_ic_le rfl (fun _ => out) (fun _ => ?_)
    refine a_s rfl rfl ?_
    refine a_s6 rfl rfl rfl rfl rfl rfl ?_
    refine a_s rfl rfl ?_
    refine a_s7 rfl rfl rfl rfl rfl rfl ?_
    refine a_cnt (j0 := 0) (fun p ls h => ∃ y, ls = [some (.ref 420), some (.int v), some (.int (bcF v)), some (.int a), some (.int b), some (.int (nI j)), some (.int y), some (.int (nI p))] ∧ h = hp I2 L w1 w2 t) (by decide) ⟨_, rfl, rfl⟩ ⟨rfl, rfl, rfl, rfl, rfl, rfl, rfl, rfl, trivial⟩ ?_
    rintro p _ _ hp4 ⟨y, rfl, rfl⟩ ih2
    refine a_l7 rfl rfl rfl ?_
    refine a_l0 rfl rfl rfl ?_
    refine a_eV1 rfl lX12_66 mo_X12_people sp_X12_people rfl rfl rfl ⟨12, _, rfl, rfl, rfl⟩ rfl ?_
    refine a_top (y := nI np) hs2.pu ?_
    refine a_ic_ge rfl (fun c => ?_) (fun c => ?_)
    · refine a_l6 rfl rfl rfl ?_
      refine a_l2 rfl rfl rfl ?_
      refine a_l6 rfl rfl rfl ?_
      refine a_s rfl rfl ?_
      refine a_max rfl lX12_265 mj_max rfl rfl ?_
      refine a_s7 rfl rfl rfl rfl rfl rfl ?_
      refine a_l7 rfl rfl rfl ?_
      refine a_l4 rfl rfl rfl ?_
      have fin : ∀ {x z : Int32}, AW S m_X12_ask 15 (QR (Us nd np I) isI L w1 w2 t) nX 0 0 134 [some (.ref 420), some (.int v), some (.int (bcF v)), some (.int a), some (.int b), some (.int (nI j)), some (.int y), some (.int x)] [.int z] (hp I2 L w1 w2 t) := by
        intro x z
        refine a_s3 rfl rfl rfl rfl rfl rfl ?_
        refine a_l4 rfl rfl rfl ?_
        refine a_l7 rfl rfl rfl ?_
        refine a_min rfl lX12_295 mj_min rfl rfl ?_
        refine a_s4 rfl rfl rfl rfl rfl rfl ?_
        refine a_i5 rfl rfl rfl ?_
        refine a_goto rfl ?_
        exact ih _ _ _ _ c15 ⟨_, _, rfl, rfl⟩ ⟨rfl, rfl, rfl, rfl, rfl, nS _, trivial⟩
      refine a_ic_ge rfl (fun _ => ?_) (fun _ => ?_)
      · refine a_l3 rfl rfl rfl ?_
        exact fin
      · refine a_l5 rfl rfl rfl ?_
        refine a_goto rfl ?_
        exact fin
    · have hpp : p < np := nI_lt_of c hp4 (by omega)
      have fin : ∀ {x : Int32}, AW S m_X12_ask 15 (QR (Us nd np I) isI L w1 w2 t) nX 0 0 101 [some (.ref 420), some (.int v), some (.int (bcF v)), some (.int a), some (.int b), some (.int (nI j)), some (.int y), some (.int (nI p))] [.int x, .int y] (hp I2 L w1 w2 t) := by
        intro x
        refine a_s rfl rfl ?_
        refine a_s6 rfl rfl rfl rfl rfl rfl ?_
        refine a_i7 rfl rfl rfl ?_
        refine a_goto rfl ?_
        exact ih2 _ _ _ _ c ⟨_, rfl, rfl⟩ ⟨rfl, rfl, rfl, rfl, rfl, rfl, rfl, nS _, trivial⟩
      refine a_l6 rfl rfl rfl ?_
      refine a_l1 rfl rfl rfl ?_
      refine a_l7 rfl rfl rfl ?_
      refine a_eS1 rfl lX12_304 mo_X12_has (sp_X12_has) rfl rfl rfl rfl ?_
      refine a_if_eq rfl (fun _ => ?_) (fun _ => ?_)
      · refine a_s rfl rfl ?_
        exact fin
      · refine a_l0 rfl rfl rfl ?_
        refine a_l7 rfl rfl rfl ?_
        refine a_s rfl rfl ?_
        refine a_eV1 rfl lX12_252 mo_X12_ofPerson (sp_X12_ofPerson (d := p) (k := 0) (by omega) (by decide)) rfl rfl rfl ⟨12, _, rfl, rfl, rfl⟩ rfl ?_
        refine a_l5 rfl rfl rfl ?_
        refine a_ic_gt rfl (fun _ => ?_) (fun _ => ?_)
        · refine a_s rfl rfl ?_
          exact fin
        · refine a_s rfl rfl ?_
          refine a_goto rfl ?_
          exact fin
  · refine a_s rfl rfl ?_
    refine a_goto rfl ?_
    refine a_s rfl rfl ?_
    refine a_gV rfl lX12_243 mo_X12_throwsIf (r_X12_throwsIf (b := true)) rfl rfl rfl ⟨12, _, rfl, rfl, rfl⟩ rfl (fun v' h' hv => ?_)
    obtain ⟨rfl, I2, rfl, f2⟩ := hv
    refine a_if_eq rfl (fun c => absurd c (by decide)) (fun _ => ?_)
    refine a_s rfl rfl ?_
    exact a_iret rfl rfl ⟨⟨_, rfl⟩, _, rfl, f1.fm f2⟩
end T66
