/-! ===== the reference: its law ===== -/
def factW (W : Nat → Int32) (d : Nat) (k : Nat) : Int32 := match k with
  | 0 => nI d
  | 1 => vd W 1 d
  | 2 => vd W 2 d
  | 3 => if vd W 3 d = -1 then 9 else vd W 3 d
  | 4 => vd W 0 d
  | 5 => W (11 + 2 * (vd W 0 d).toNatClampNeg)
  | 6 => W 4
  | 7 => bI (lwF W d)
  | 8 => bI (decide (11 < vd W 2 d))
  | _ => 0
theorem factW_01 (W : Nat → Int32) (d : Nat) : ∀ k, k = 7 ∨ k = 8 → factW W d k = 0 ∨ factW W d k = 1 := by
  intro k hk
  rcases hk with rfl | rfl
  · show bI _ = 0 ∨ bI _ = 1
    cases lwF W d <;> simp [bI]
  · show bI _ = 0 ∨ bI _ = 1
    cases decide (11 < vd W 2 d) <;> simp [bI]
def OwW (nd np : Nat) (W : Nat → Int32) : Prop := ∀ d, d < nd → ∃ p, p < np ∧ vd W 0 d = nI p
def trN (k m : Nat) : Nat := if k = 9 then m else if k < 9 then 1000 + k else 1990 + k
/-- the reference's steps are these codes -/
def RCo (W : Nat → Int32) (cd : Nat → Nat) (n : Nat) : Prop := ∀ i, i < n → ∃ k m, k ≤ 15 ∧ m < 1000 ∧ W (384 + 2 * i) = nI k ∧ W (385 + 2 * i) = nI m ∧ cd i = trN k m
theorem up2_upr {α : Type} {f : Nat → Nat → α} {p k : Nat} {r : Nat → α} {x : α} : up2 (upr f p r) p k x = upr f p (fun j => if j = k then x else r j) := by
  funext q j
  by_cases hq : q = p
  · subst hq
    rw [upr_at]
    simp only [up2, upr_at, if_pos]
  · rw [up2_row hq, upr_row hq, upr_row hq]
theorem upr_upr {α : Type} {f : Nat → α} {p : Nat} {r r' : α} : upr (upr f p r) p r' = upr f p r' := by
  funext q
  by_cases hq : q = p
  · subst hq; rw [upr_at, upr_at]
  · rw [upr_row hq, upr_row hq, upr_row hq]
theorem upr_self {α : Type} {f : Nat → α} {p : Nat} : upr f p (f p) = f := by
  funext q
  by_cases hq : q = p
  · subst hq; rw [upr_at]
  · rw [upr_row hq]
set_option maxRecDepth 100000
theorem sp_X12_fact0 {S : aS} {I : Nat → Nat → Int32} {L : Nat → Nat → Int64} {w1 w2 t : Nat} {nd np d m : Nat} (hn : nd ≤ 12) (hp6 : np ≤ 6) (hd : d < nd) (hl : LeW nd (I 421)) (ho : OwW nd np (I 421)) : SpE S m_X12_factOf 16 [.ref 420, .int (nI 0), .int (nI m), .int (nI d)] (hp I L w1 w2 t) (some (.int (factW (I 421) d 0))) (hp I L w1 w2 t) := by
  refine SpE_of ok_X12_factOf rfl rfl ?_
  show AW S m_X12_factOf 16 _ _ 0 0 0 [some (.ref 420), some (.int (nI 0)), some (.int (nI m)), some (.int (nI d))] [] (hp I L w1 w2 t)
  refine a_l1 rfl rfl rfl ?_
  refine a_tsw (tg := 52) rfl (by decide) (by decide) ?_
  refine a_l3 rfl rfl rfl ?_
  refine a_iret rfl rfl ⟨rfl, rfl⟩
theorem sp_X12_fact1 {S : aS} {I : Nat → Nat → Int32} {L : Nat → Nat → Int64} {w1 w2 t : Nat} {nd np d m : Nat} (hn : nd ≤ 12) (hp6 : np ≤ 6) (hd : d < nd) (hl : LeW nd (I 421)) (ho : OwW nd np (I 421)) : SpE S m_X12_factOf 16 [.ref 420, .int (nI 1), .int (nI m), .int (nI d)] (hp I L w1 w2 t) (some (.int (factW (I 421) d 1))) (hp I L w1 w2 t) := by
  refine SpE_of ok_X12_factOf rfl rfl ?_
  show AW S m_X12_factOf 16 _ _ 0 0 0 [some (.ref 420), some (.int (nI 1)), some (.int (nI m)), some (.int (nI d))] [] (hp I L w1 w2 t)
  refine a_l1 rfl rfl rfl ?_
  refine a_tsw (tg := 54) rfl (by decide) (by decide) ?_
  refine a_l0 rfl rfl rfl ?_
  refine a_l3 rfl rfl rfl ?_
  refine a_s rfl rfl ?_
  refine a_eV1 rfl lX12_63 mo_X12_of (sp_X12_of (d := d) (k := 1) (by omega) (by decide)) rfl rfl rfl ⟨12, _, rfl, rfl, rfl⟩ rfl ?_
  refine a_iret rfl rfl ⟨rfl, rfl⟩
theorem sp_X12_fact2 {S : aS} {I : Nat → Nat → Int32} {L : Nat → Nat → Int64} {w1 w2 t : Nat} {nd np d m : Nat} (hn : nd ≤ 12) (hp6 : np ≤ 6) (hd : d < nd) (hl : LeW nd (I 421)) (ho : OwW nd np (I 421)) : SpE S m_X12_factOf 16 [.ref 420, .int (nI 2), .int (nI m), .int (nI d)] (hp I L w1 w2 t) (some (.int (factW (I 421) d 2))) (hp I L w1 w2 t) := by
  refine SpE_of ok_X12_factOf rfl rfl ?_
  show AW S m_X12_factOf 16 _ _ 0 0 0 [some (.ref 420), some (.int (nI 2)), some (.int (nI m)), some (.int (nI d))] [] (hp I L w1 w2 t)
  refine a_l1 rfl rfl rfl ?_
  refine a_tsw (tg := 61) rfl (by decide) (by decide) ?_
  refine a_l0 rfl rfl rfl ?_
  refine a_l3 rfl rfl rfl ?_
  refine a_s rfl rfl ?_
  refine a_eV1 rfl lX12_63 mo_X12_of (sp_X12_of (d := d) (k := 2) (by omega) (by decide)) rfl rfl rfl ⟨12, _, rfl, rfl, rfl⟩ rfl ?_
  refine a_iret rfl rfl ⟨rfl, rfl⟩
theorem sp_X12_fact3 {S : aS} {I : Nat → Nat → Int32} {L : Nat → Nat → Int64} {w1 w2 t : Nat} {nd np d m : Nat} (hn : nd ≤ 12) (hp6 : np ≤ 6) (hd : d < nd) (hl : LeW nd (I 421)) (ho : OwW nd np (I 421)) : SpE S m_X12_factOf 16 [.ref 420, .int (nI 3), .int (nI m), .int (nI d)] (hp I L w1 w2 t) (some (.int (factW (I 421) d 3))) (hp I L w1 w2 t) := by
  refine SpE_of ok_X12_factOf rfl rfl ?_
  show AW S m_X12_factOf 16 _ _ 0 0 0 [some (.ref 420), some (.int (nI 3)), some (.int (nI m)), some (.int (nI d))] [] (hp I L w1 w2 t)
  refine a_l1 rfl rfl rfl ?_
  refine a_tsw (tg := 68) rfl (by decide) (by decide) ?_
  refine a_l0 rfl rfl rfl ?_
  refine a_l3 rfl rfl rfl ?_
  refine a_s rfl rfl ?_
  refine a_eV1 rfl lX12_63 mo_X12_of (sp_X12_of (d := d) (k := 3) (by omega) (by decide)) rfl rfl rfl ⟨12, _, rfl, rfl, rfl⟩ rfl ?_
  refine a_s rfl rfl ?_
  refine a_ic_ne rfl (fun c75 => ?_) (fun c75 => ?_)
  · refine a_l0 rfl rfl rfl ?_
    refine a_l3 rfl rfl rfl ?_
    refine a_s rfl rfl ?_
    refine a_eV1 rfl lX12_63 mo_X12_of (sp_X12_of (d := d) (k := 3) (by omega) (by decide)) rfl rfl rfl ⟨12, _, rfl, rfl, rfl⟩ rfl ?_
    refine a_iret rfl rfl ⟨by simp [factW, *], rfl⟩
  · refine a_s rfl rfl ?_
    refine a_goto rfl ?_
    refine a_iret rfl rfl ⟨by simp [factW, *], rfl⟩
theorem sp_X12_fact4 {S : aS} {I : Nat → Nat → Int32} {L : Nat → Nat → Int64} {w1 w2 t : Nat} {nd np d m : Nat} (hn : nd ≤ 12) (hp6 : np ≤ 6) (hd : d < nd) (hl : LeW nd (I 421)) (ho : OwW nd np (I 421)) : SpE S m_X12_factOf 16 [.ref 420, .int (nI 4), .int (nI m), .int (nI d)] (hp I L w1 w2 t) (some (.int (factW (I 421) d 4))) (hp I L w1 w2 t) := by
  refine SpE_of ok_X12_factOf rfl rfl ?_
  show AW S m_X12_factOf 16 _ _ 0 0 0 [some (.ref 420), some (.int (nI 4)), some (.int (nI m)), some (.int (nI d))] [] (hp I L w1 w2 t)
  refine a_l1 rfl rfl rfl ?_
  refine a_tsw (tg := 90) rfl (by decide) (by decide) ?_
  refine a_l0 rfl rfl rfl ?_
  refine a_l3 rfl rfl rfl ?_
  refine a_s rfl rfl ?_
  refine a_eV1 rfl lX12_63 mo_X12_of (sp_X12_of (d := d) (k := 0) (by omega) (by decide)) rfl rfl rfl ⟨12, _, rfl, rfl, rfl⟩ rfl ?_
  refine a_iret rfl rfl ⟨rfl, rfl⟩
theorem sp_X12_fact5 {S : aS} {I : Nat → Nat → Int32} {L : Nat → Nat → Int64} {w1 w2 t : Nat} {nd np d m : Nat} (hn : nd ≤ 12) (hp6 : np ≤ 6) (hd : d < nd) (hl : LeW nd (I 421)) (ho : OwW nd np (I 421)) : SpE S m_X12_factOf 16 [.ref 420, .int (nI 5), .int (nI m), .int (nI d)] (hp I L w1 w2 t) (some (.int (factW (I 421) d 5))) (hp I L w1 w2 t) := by
  refine SpE_of ok_X12_factOf rfl rfl ?_
  show AW S m_X12_factOf 16 _ _ 0 0 0 [some (.ref 420), some (.int (nI 5)), some (.int (nI m)), some (.int (nI d))] [] (hp I L w1 w2 t)
  refine a_l1 rfl rfl rfl ?_
  refine a_tsw (tg := 97) rfl (by decide) (by decide) ?_
  refine a_l0 rfl rfl rfl ?_
  refine a_l0 rfl rfl rfl ?_
  refine a_l3 rfl rfl rfl ?_
  refine a_s rfl rfl ?_
  refine a_eV1 rfl lX12_63 mo_X12_of (sp_X12_of (d := d) (k := 0) (by omega) (by decide)) rfl rfl rfl ⟨12, _, rfl, rfl, rfl⟩ rfl ?_
  obtain ⟨p, hp, ep⟩ := ho d hd
  refine a_top ep ?_
  refine a_s rfl rfl ?_
  refine a_eV1 rfl lX12_252 mo_X12_ofPerson (sp_X12_ofPerson (d := p) (k := 0) (by omega) (by decide)) rfl rfl rfl ⟨12, _, rfl, rfl, rfl⟩ rfl ?_
  refine a_iret rfl rfl ⟨by show _ = some (Value.int (I 421 (11 + 2 * (vd (I 421) 0 d).toNatClampNeg))); rw [ep, nI_clamp (by omega)]; rfl, rfl⟩
theorem sp_X12_fact6 {S : aS} {I : Nat → Nat → Int32} {L : Nat → Nat → Int64} {w1 w2 t : Nat} {nd np d m : Nat} (hn : nd ≤ 12) (hp6 : np ≤ 6) (hd : d < nd) (hl : LeW nd (I 421)) (ho : OwW nd np (I 421)) : SpE S m_X12_factOf 16 [.ref 420, .int (nI 6), .int (nI m), .int (nI d)] (hp I L w1 w2 t) (some (.int (factW (I 421) d 6))) (hp I L w1 w2 t) := by
  refine SpE_of ok_X12_factOf rfl rfl ?_
  show AW S m_X12_factOf 16 _ _ 0 0 0 [some (.ref 420), some (.int (nI 6)), some (.int (nI m)), some (.int (nI d))] [] (hp I L w1 w2 t)
  refine a_l1 rfl rfl rfl ?_
  refine a_tsw (tg := 109) rfl (by decide) (by decide) ?_
  refine a_l0 rfl rfl rfl ?_
  refine a_getq rfl gfX12_13_12 rfl (rfl) ?_
  refine a_s rfl rfl ?_
  refine a_ialdv (v := I 421 4) rfl (n := 2033) rfl ⟨by decide, by decide⟩ rfl ?_
  refine a_iret rfl rfl ⟨rfl, rfl⟩
theorem sp_X12_fact7 {S : aS} {I : Nat → Nat → Int32} {L : Nat → Nat → Int64} {w1 w2 t : Nat} {nd np d m : Nat} (hn : nd ≤ 12) (hp6 : np ≤ 6) (hd : d < nd) (hl : LeW nd (I 421)) (ho : OwW nd np (I 421)) : SpE S m_X12_factOf 16 [.ref 420, .int (nI 7), .int (nI m), .int (nI d)] (hp I L w1 w2 t) (some (.int (factW (I 421) d 7))) (hp I L w1 w2 t) := by
  refine SpE_of ok_X12_factOf rfl rfl ?_
  show AW S m_X12_factOf 16 _ _ 0 0 0 [some (.ref 420), some (.int (nI 7)), some (.int (nI m)), some (.int (nI d))] [] (hp I L w1 w2 t)
  refine a_l1 rfl rfl rfl ?_
  refine a_tsw (tg := 116) rfl (by decide) (by decide) ?_
  refine a_l0 rfl rfl rfl ?_
  refine a_l3 rfl rfl rfl ?_
  refine a_eV1 rfl lX12_249 mo_X12_leansWell (sp_X12_leansWell hn hd hl) rfl rfl rfl ⟨12, _, rfl, rfl, rfl⟩ rfl ?_
  refine a_if_eq rfl (fun c121 => ?_) (fun c121 => ?_)
  · refine a_s rfl rfl ?_
    refine a_iret rfl rfl ⟨by simp_all [factW, bI, bI_0], rfl⟩
  · refine a_s rfl rfl ?_
    refine a_goto rfl ?_
    refine a_iret rfl rfl ⟨by simp_all [factW, bI, bI_0], rfl⟩
theorem sp_X12_fact8 {S : aS} {I : Nat → Nat → Int32} {L : Nat → Nat → Int64} {w1 w2 t : Nat} {nd np d m : Nat} (hn : nd ≤ 12) (hp6 : np ≤ 6) (hd : d < nd) (hl : LeW nd (I 421)) (ho : OwW nd np (I 421)) : SpE S m_X12_factOf 16 [.ref 420, .int (nI 8), .int (nI m), .int (nI d)] (hp I L w1 w2 t) (some (.int (factW (I 421) d 8))) (hp I L w1 w2 t) := by
  refine SpE_of ok_X12_factOf rfl rfl ?_
  show AW S m_X12_factOf 16 _ _ 0 0 0 [some (.ref 420), some (.int (nI 8)), some (.int (nI m)), some (.int (nI d))] [] (hp I L w1 w2 t)
  refine a_l1 rfl rfl rfl ?_
  refine a_tsw (tg := 130) rfl (by decide) (by decide) ?_
  refine a_l0 rfl rfl rfl ?_
  refine a_l3 rfl rfl rfl ?_
  refine a_s rfl rfl ?_
  refine a_eV1 rfl lX12_63 mo_X12_of (sp_X12_of (d := d) (k := 2) (by omega) (by decide)) rfl rfl rfl ⟨12, _, rfl, rfl, rfl⟩ rfl ?_
  refine a_s rfl rfl ?_
  refine a_ic_le rfl (fun c138 => ?_) (fun c138 => ?_)
  · refine a_s rfl rfl ?_
    refine a_iret rfl rfl ⟨by simp_all [factW, bI, le_nl, -Int32.not_lt, -Int32.not_le], rfl⟩
  · refine a_s rfl rfl ?_
    refine a_goto rfl ?_
    refine a_iret rfl rfl ⟨by simp_all [factW, bI, le_nl, -Int32.not_lt, -Int32.not_le], rfl⟩
theorem sp_X12_fact9 {S : aS} {I : Nat → Nat → Int32} {L : Nat → Nat → Int64} {w1 w2 t : Nat} {nd np d m : Nat} (hn : nd ≤ 12) (hp6 : np ≤ 6) (hd : d < nd) (hl : LeW nd (I 421)) (ho : OwW nd np (I 421)) : SpE S m_X12_factOf 16 [.ref 420, .int (nI 9), .int (nI m), .int (nI d)] (hp I L w1 w2 t) (some (.int (nI m))) (hp I L w1 w2 t) := by
  refine SpE_of ok_X12_factOf rfl rfl ?_
  show AW S m_X12_factOf 16 _ _ 0 0 0 [some (.ref 420), some (.int (nI 9)), some (.int (nI m)), some (.int (nI d))] [] (hp I L w1 w2 t)
  refine a_l1 rfl rfl rfl ?_
  refine a_tsw (tg := 147) rfl (by decide) (by decide) ?_
  refine a_l2 rfl rfl rfl ?_
  refine a_iret rfl rfl ⟨rfl, rfl⟩
theorem sp_X12_factOf {S : aS} {I : Nat → Nat → Int32} {L : Nat → Nat → Int64} {w1 w2 t : Nat} {nd np d m : Nat} (hn : nd ≤ 12) (hp6 : np ≤ 6) (hd : d < nd) (hl : LeW nd (I 421)) (ho : OwW nd np (I 421)) {k : Nat} (hk : k ≤ 9) (F : Nat → Int32) (hF : F = factW (I 421) d) (r : List Int32) (hm : m < 1000) : SpE S m_X12_factOf 16 [.ref 420, .int (nI k), .int (nI m), .int (nI d)] (hp I L w1 w2 t) (some (.int ((stpF F (trN k m) r).headD 0))) (hp I L w1 w2 t) := by
  subst hF
  rcases k with _ | _ | _ | _ | _ | _ | _ | _ | _ | _ | k
  · exact sp_X12_fact0 hn hp6 hd hl ho
  · exact sp_X12_fact1 hn hp6 hd hl ho
  · exact sp_X12_fact2 hn hp6 hd hl ho
  · exact sp_X12_fact3 hn hp6 hd hl ho
  · exact sp_X12_fact4 hn hp6 hd hl ho
  · exact sp_X12_fact5 hn hp6 hd hl ho
  · exact sp_X12_fact6 hn hp6 hd hl ho
  · exact sp_X12_fact7 hn hp6 hd hl ho
  · exact sp_X12_fact8 hn hp6 hd hl ho
  · have e : stpF (factW (I 421) d) (trN 9 m) r = nI m :: r := by
      show stpF _ m r = _
      unfold stpF
      rw [if_pos hm]
    rw [e]
    exact sp_X12_fact9 hn hp6 hd hl ho
  · omega
theorem stpF_push {F : Nat → Int32} {c : Nat} {r : List Int32} (h : c < 2000) : stpF F c r = (stpF F c r).headD 0 :: r := by
  unfold stpF
  by_cases h1 : c < 1000
  · rw [if_pos h1]; rfl
  · rw [if_neg h1, if_pos h]; rfl
theorem trN_lt {k m : Nat} (hk : k ≤ 9) (hm : m < 1000) : trN k m < 2000 := by
  unfold trN
  split
  · omega
  · split <;> omega
theorem tyR_prev {cd : Nat → Nat} {a j : Nat} {t' : List Bool} (h : tyR cd a (j + 1) = some t') : ∃ t, tyR cd a j = some t ∧ tyS (cd (a + j)) t = some t' := by
  unfold tyR at h
  cases e : tyR cd a j with
  | none => rw [e] at h; cases h
  | some t => rw [e] at h; exact ⟨t, rfl, h⟩
/-- a binary operation's stack -/
theorem two_of {F : Nat → Int32} {cd : Nat → Nat} {a j c : Nat} {t' : List Bool} (hF : ∀ k, k = 7 ∨ k = 8 → F k = 0 ∨ F k = 1) (hc : cd (a + j) = c) (h1 : ¬ c < 1009) (h2 : ¬ c = 2003) (h : tyR cd a (j + 1) = some t') : ∃ x y r, runF F cd a j = y :: x :: r ∧ runF F cd a (j + 1) = jnF c x y :: r ∧ ((c = 2004 ∨ c = 2005) → (x = 0 ∨ x = 1) ∧ (y = 0 ∨ y = 1)) := by
  obtain ⟨t, e1, e2⟩ := tyR_prev h
  have hv := VOK.run hF e1
  rw [hc] at e2
  obtain ⟨b, b', r, rfl, rfl, hh⟩ := tyS_two h1 h2 e2
  rcases hs : runF F cd a j with _ | ⟨y, _ | ⟨x, s⟩⟩
  · rw [hs] at hv; exact False.elim hv
  · rw [hs] at hv; exact False.elim hv.2
  · rw [hs] at hv
    refine ⟨x, y, s, rfl, ?_, fun z => ?_⟩
    · show stpF F (cd (a + j)) (runF F cd a j) = _
      rw [hs, hc]
      unfold stpF
      rw [if_neg (by omega), if_neg (by omega), if_neg h2]
    · have hb : b = true := by
        rcases hh with ⟨e, _, _⟩ | ⟨e, _, _⟩ | ⟨_, e, _⟩
        · omega
        · omega
        · exact e
      exact ⟨hv.2.1 hb, hv.1 hb⟩
theorem one_of {F : Nat → Int32} {cd : Nat → Nat} {a j : Nat} {t' : List Bool} (hF : ∀ k, k = 7 ∨ k = 8 → F k = 0 ∨ F k = 1) (hc : cd (a + j) = 2003) (h : tyR cd a (j + 1) = some t') : ∃ x r, runF F cd a j = x :: r ∧ runF F cd a (j + 1) = (1 - x) :: r := by
  obtain ⟨t, e1, e2⟩ := tyR_prev h
  have hv := VOK.run hF e1
  rw [hc] at e2
  obtain ⟨r, rfl, rfl⟩ := tyS_not e2
  rcases hs : runF F cd a j with _ | ⟨x, s⟩
  · rw [hs] at hv; exact False.elim hv
  · refine ⟨x, s, rfl, ?_⟩
    show stpF F (cd (a + j)) (runF F cd a j) = _
    rw [hs, hc]
    rfl
theorem sp_X12_holdsLine {S : aS} {I : Nat → Nat → Int32} {L : Nat → Nat → Int64} {w1 w2 t : Nat} {nd np d n a N : Nat} {cd : Nat → Nat} (hn : nd ≤ 12) (hp6 : np ≤ 6) (hd : d < nd) (hl : LeW nd (I 421)) (ho : OwW nd np (I 421)) (hn12 : n < 12) (h2 : I 421 (336 + 4 * n + 2) = nI a) (h3 : I 421 (336 + 4 * n + 3) = nI (a + N)) (hab : a + N ≤ 400) (hRC : RCo (I 421) cd (a + N)) (hok : LineOk cd a N) : Sp S m_X12_holdsLine 17 0 0 [.ref 420, .int (nI n), .int (nI d)] (hp I L w1 w2 t) (fun v h' => v = some (.int (bI (lineF (factW (I 421) d) cd a N))) ∧ ∃ f, h' = hp (upr I 428 f) L w1 w2 t) (fun _ _ => False) := by
  refine Sp_of ok_X12_holdsLine rfl rfl ?_
  show AW S m_X12_holdsLine 17 _ _ 0 0 0 [some (.ref 420), some (.int (nI n)), some (.int (nI d)), none, none, none, none, none, none, none] [] (hp I L w1 w2 t)
  refine a_s rfl rfl ?_
  refine a_s3 rfl rfl rfl rfl rfl rfl ?_
  refine a_s rfl rfl ?_
  refine a_s rfl rfl ?_
  refine a_l1 rfl rfl rfl ?_
  refine a_s rfl rfl ?_
  refine a_s rfl rfl ?_
  refine a_top (y := nI (336 + 4 * n)) (by rw [show (4 : Int32) = nI 4 from rfl, show (336 : Int32) = nI 336 from rfl, nI_mul, nI_addl]) ?_
  refine a_s4 rfl rfl rfl rfl rfl rfl ?_
  refine a_l0 rfl rfl rfl ?_
  refine a_getq rfl gfX12_13_12 rfl (rfl) ?_
  refine a_l4 rfl rfl rfl ?_
  refine a_s rfl rfl ?_
  refine a_s rfl rfl ?_
  refine a_top (nI_addl (336 + 4 * n) 2) ?_
  refine a_ialdv (v := nI a) rfl (n := 2033) rfl (inI_nI (by omega) (by omega)) (by rw [nI_clamp (by omega)]; exact h2) ?_
  refine a_s5 rfl rfl rfl rfl rfl rfl ?_
  
  refine a_inv (n := N) (fun mm ls h => ∃ j v, j + mm = N ∧ ls = [some (.ref 420), some (.int (nI n)), some (.int (nI d)), some (.int (nI (runF (factW (I 421) d) cd a j).length)), some (.int (nI (336 + 4 * n))), some (.int (nI (a + j))), none, none, none, none] ∧ h = hp (upr I 428 v) L w1 w2 t ∧ Stk (runF (factW (I 421) d) cd a j) v) ⟨0, I 428, by omega, rfl, by rw [upr_self], trivial⟩ ?_
  rintro mm _ _ ⟨j, v, hj, rfl, rfl, hv⟩ ih
  have hF := factW_01 (I 421) d
  obtain ⟨tj, htj, h24j⟩ := hok.2 j (by omega)
  have hlen := (VOK.run hF htj).len
  by_cases hjN : j = N
  · subst hjN
    refine a_l5 rfl rfl rfl ?_
    refine a_l0 rfl rfl rfl ?_
    refine a_getq rfl gfX12_13_12 rfl (rfl) ?_
    refine a_l4 rfl rfl rfl ?_
    refine a_s rfl rfl ?_
    refine a_s rfl rfl ?_
    refine a_top (nI_addl (336 + 4 * n) 3) ?_
    refine a_ialdv (v := nI (a + j)) rfl (n := 2033) rfl (inI_nI (by omega) (by omega)) (by rw [nI_clamp (by omega)]; rw [upr_row (by decide)]; exact h3) ?_
    refine a_ic_ge rfl (fun c33 => ?_) (fun c => absurd (Int32.le_refl _) c)
    skip
    rcases hok.1 with e | e
    · have hs : runF (factW (I 421) d) cd a j = [] := by
        have := VOK.run hF e
        cases hs : runF (factW (I 421) d) cd a j with
        | nil => rfl
        | cons x r => rw [hs] at this; exact False.elim this
      rw [hs]
      refine a_l3 rfl rfl rfl ?_
      refine a_if_eq rfl (fun c264 => ?_) (fun c => absurd (rfl) c)
      refine a_s rfl rfl ?_
      refine a_goto rfl ?_
      refine a_zret rfl rfl rfl ⟨by simp [lineF, hs, bI], v, rfl⟩
    · obtain ⟨x, hs, h01⟩ : ∃ x, runF (factW (I 421) d) cd a j = [x] ∧ (x = 0 ∨ x = 1) := by
        have := VOK.run hF e
        rcases hs : runF (factW (I 421) d) cd a j with _ | ⟨x, _ | ⟨y, r⟩⟩
        · rw [hs] at this; exact False.elim this
        · rw [hs] at this; exact ⟨x, rfl, this.1 rfl⟩
        · rw [hs] at this; exact False.elim this.2
      rw [hs] at hv ⊢
      simp only [List.length_cons, List.length_nil]
      refine a_l3 rfl rfl rfl ?_
      refine a_if_eq rfl (fun c => absurd c (by decide)) (fun c264 => ?_)
      refine a_l0 rfl rfl rfl ?_
      refine a_getq rfl gfX12_39_12 rfl (rfl) ?_
      refine a_s rfl rfl ?_
      refine a_ialdv (v := x) rfl (n := 400) rfl ⟨by decide, by decide⟩ (by show upr I 428 v 428 0 = x; rw [upr_at]; exact hv.1) ?_
      refine a_s rfl rfl ?_
      refine a_ic_ne rfl (fun c274 => ?_) (fun c274 => ?_)
      · refine a_s rfl rfl ?_
        refine a_zret rfl rfl rfl ⟨by rcases h01 with rfl | rfl <;> simp_all [lineF, bI], v, rfl⟩
      · refine a_s rfl rfl ?_
        refine a_goto rfl ?_
        refine a_zret rfl rfl rfl ⟨by rcases h01 with rfl | rfl <;> simp_all [lineF, bI], v, rfl⟩
  · obtain ⟨k, m, hk, hm, e1, e2, e3⟩ := hRC (a + j) (by omega)
    obtain ⟨t', ht', h24⟩ := hok.2 (j + 1) (by omega)
    by_cases hk9 : k ≤ 9
    · have hr : runF (factW (I 421) d) cd a (j + 1) = (stpF (factW (I 421) d) (trN k m) (runF (factW (I 421) d) cd a j)).headD 0 :: runF (factW (I 421) d) cd a j := by
        show stpF _ (cd (a + j)) _ = _
        rw [e3]
        exact stpF_push (trN_lt hk9 hm)
      refine a_l5 rfl rfl rfl ?_
      refine a_l0 rfl rfl rfl ?_
      refine a_getq rfl gfX12_13_12 rfl (rfl) ?_
      refine a_l4 rfl rfl rfl ?_
      refine a_s rfl rfl ?_
      refine a_s rfl rfl ?_
      refine a_top (nI_addl (336 + 4 * n) 3) ?_
      refine a_ialdv (v := nI (a + N)) rfl (n := 2033) rfl (inI_nI (by omega) (by omega)) (by rw [nI_clamp (by omega)]; rw [upr_row (by decide)]; exact h3) ?_
      refine a_ic_ge rfl (fun c => absurd c (nI_ge (by omega) (by omega))) (fun c33 => ?_)
      refine a_l0 rfl rfl rfl ?_
      refine a_getq rfl gfX12_13_12 rfl (rfl) ?_
      refine a_s rfl rfl ?_
      refine a_s rfl rfl ?_
      refine a_l5 rfl rfl rfl ?_
      refine a_s rfl rfl ?_
      refine a_s rfl rfl ?_
      refine a_top (y := nI (384 + 2 * (a + j))) (by rw [show (2 : Int32) = nI 2 from rfl, show (384 : Int32) = nI 384 from rfl, nI_mul, nI_addl]) ?_
      refine a_ialdv (v := nI k) rfl (n := 2033) rfl (inI_nI (by omega) (by omega)) (by rw [nI_clamp (by omega)]; rw [upr_row (by decide)]; exact e1) ?_
      refine a_s6 rfl rfl rfl rfl rfl rfl ?_
      refine a_l6 rfl rfl rfl ?_
      refine a_s rfl rfl ?_
      refine a_ic_gt rfl (fun c => absurd c (nI_nlu (n := 9) hk9 (by decide))) (fun c55 => ?_)
      refine a_l0 rfl rfl rfl ?_
      refine a_getq rfl gfX12_39_12 rfl (rfl) ?_
      refine a_l3 rfl rfl rfl ?_
      refine a_l0 rfl rfl rfl ?_
      refine a_l6 rfl rfl rfl ?_
      refine a_l0 rfl rfl rfl ?_
      refine a_getq rfl gfX12_13_12 rfl (rfl) ?_
      refine a_s rfl rfl ?_
      refine a_s rfl rfl ?_
      refine a_l5 rfl rfl rfl ?_
      refine a_s rfl rfl ?_
      refine a_s rfl rfl ?_
      refine a_top (y := nI (384 + 2 * (a + j))) (by rw [show (2 : Int32) = nI 2 from rfl, show (384 : Int32) = nI 384 from rfl, nI_mul, nI_addl]) ?_
      refine a_s rfl rfl ?_
      refine a_s rfl rfl ?_
      refine a_top (nI_addl (384 + 2 * (a + j)) 1) ?_
      refine a_ialdv (v := nI m) rfl (n := 2033) rfl (inI_nI (by omega) (by omega)) (by rw [nI_clamp (by omega)]; rw [upr_row (by decide), show 384 + 2 * (a + j) + 1 = 385 + 2 * (a + j) by omega]; exact e2) ?_
      refine a_l2 rfl rfl rfl ?_
      refine a_eV1 rfl lX12_255 mo_X12_factOf (sp_X12_factOf hn hp6 hd (by rw [upr_row (by decide)]; exact hl) (by rw [upr_row (by decide)]; exact ho) hk9 (factW (I 421) d) (by rw [upr_row (by decide)]) (runF (factW (I 421) d) cd a j) hm) rfl rfl rfl ⟨12, _, rfl, rfl, rfl⟩ rfl ?_
      refine a_iastv (k := (runF (factW (I 421) d) cd a j).length) rfl (n := 400) rfl (inI_nI (by omega) (by omega)) (nI_clamp (by omega)) ?_
      rw [up2_upr]
      refine a_i3 rfl rfl rfl ?_
      refine a_goto rfl ?_
      refine a_i5 rfl rfl rfl ?_
      refine a_goto rfl ?_
      first | exact absurd ‹(1 : Int32) = 0› (by decide) | exact absurd rfl ‹¬ (0 : Int32) = 0› | exact a_back (ih (mm - 1) _ _ (by omega) ⟨j + 1, _, by omega, rfl, rfl, by rw [hr]; exact ⟨if_pos rfl, Stk.upd hv fun q hq => if_neg (by omega)⟩⟩) (by simp [lsub, nI_1, hr, ← Nat.add_assoc]) rfl
    · by_cases hk13 : k = 13
      · subst hk13
        obtain ⟨x, r, hs, hr⟩ := one_of hF e3 ht'
        rw [hs] at hv hlen ⊢
        simp only [List.length_cons]
        have hlr : r.length + 1 = tj.length := hlen
        refine a_l5 rfl rfl rfl ?_
        refine a_l0 rfl rfl rfl ?_
        refine a_getq rfl gfX12_13_12 rfl (rfl) ?_
        refine a_l4 rfl rfl rfl ?_
        refine a_s rfl rfl ?_
        refine a_s rfl rfl ?_
        refine a_top (nI_addl (336 + 4 * n) 3) ?_
        refine a_ialdv (v := nI (a + N)) rfl (n := 2033) rfl (inI_nI (by omega) (by omega)) (by rw [nI_clamp (by omega)]; rw [upr_row (by decide)]; exact h3) ?_
        refine a_ic_ge rfl (fun c => absurd c (nI_ge (by omega) (by omega))) (fun c33 => ?_)
        refine a_l0 rfl rfl rfl ?_
        refine a_getq rfl gfX12_13_12 rfl (rfl) ?_
        refine a_s rfl rfl ?_
        refine a_s rfl rfl ?_
        refine a_l5 rfl rfl rfl ?_
        refine a_s rfl rfl ?_
        refine a_s rfl rfl ?_
        refine a_top (y := nI (384 + 2 * (a + j))) (by rw [show (2 : Int32) = nI 2 from rfl, show (384 : Int32) = nI 384 from rfl, nI_mul, nI_addl]) ?_
        refine a_ialdv (v := nI 13) rfl (n := 2033) rfl (inI_nI (by omega) (by omega)) (by rw [nI_clamp (by omega)]; rw [upr_row (by decide)]; exact e1) ?_
        refine a_s6 rfl rfl rfl rfl rfl rfl ?_
        refine a_l6 rfl rfl rfl ?_
        refine a_s rfl rfl ?_
        refine a_ic_gt rfl (fun c55 => ?_) (fun c => absurd (by decide) c)
        refine a_l6 rfl rfl rfl ?_
        refine a_s rfl rfl ?_
        refine a_ic_ne rfl (fun c => absurd c (fun z => z rfl)) (fun c96 => ?_)
        refine a_l0 rfl rfl rfl ?_
        refine a_getq rfl gfX12_39_12 rfl (rfl) ?_
        refine a_l3 rfl rfl rfl ?_
        refine a_s rfl rfl ?_
        refine a_s rfl rfl ?_
        refine a_top (nI_dec _) ?_
        refine a_s rfl rfl ?_
        refine a_l0 rfl rfl rfl ?_
        refine a_getq rfl gfX12_39_12 rfl (rfl) ?_
        refine a_l3 rfl rfl rfl ?_
        refine a_s rfl rfl ?_
        refine a_s rfl rfl ?_
        refine a_top (nI_dec _) ?_
        refine a_ialdv (v := x) rfl (n := 400) rfl (inI_nI (by omega) (by omega)) (by rw [nI_clamp (by omega)]; rw [upr_at]; exact hv.1) ?_
        refine a_s rfl rfl ?_
        refine a_iastv (k := r.length) rfl (n := 400) rfl (inI_nI (by omega) (by omega)) (nI_clamp (by omega)) ?_
        rw [up2_upr]
        refine a_goto rfl ?_
        refine a_i5 rfl rfl rfl ?_
        refine a_goto rfl ?_
        first | exact absurd ‹(1 : Int32) = 0› (by decide) | exact absurd rfl ‹¬ (0 : Int32) = 0› | exact a_back (ih (mm - 1) _ _ (by omega) ⟨j + 1, _, by omega, rfl, rfl, by rw [hr]; exact ⟨(if_pos rfl).trans (rfl), Stk.upd hv.2 fun q hq => if_neg (by omega)⟩⟩) (by simp [lsub, nI_1, hr, ← Nat.add_assoc]) rfl
      · obtain ⟨x, y, r, hs, hr, h01⟩ := two_of hF (c := trN k m) e3 (by unfold trN; rw [if_neg (by omega), if_neg (by omega)]; omega) (by unfold trN; rw [if_neg (by omega), if_neg (by omega)]; omega) ht'
        rw [hs] at hv hlen ⊢
        simp only [List.length_cons]
        have hlr : r.length + 1 + 1 = tj.length := hlen
        have hkk : k = 10 ∨ k = 11 ∨ k = 12 ∨ k = 14 ∨ k = 15 := by omega
        rcases hkk with rfl | rfl | rfl | rfl | rfl
        · refine a_l5 rfl rfl rfl ?_
          refine a_l0 rfl rfl rfl ?_
          refine a_getq rfl gfX12_13_12 rfl (rfl) ?_
          refine a_l4 rfl rfl rfl ?_
          refine a_s rfl rfl ?_
          refine a_s rfl rfl ?_
          refine a_top (nI_addl (336 + 4 * n) 3) ?_
          refine a_ialdv (v := nI (a + N)) rfl (n := 2033) rfl (inI_nI (by omega) (by omega)) (by rw [nI_clamp (by omega)]; rw [upr_row (by decide)]; exact h3) ?_
          refine a_ic_ge rfl (fun c => absurd c (nI_ge (by omega) (by omega))) (fun c33 => ?_)
          refine a_l0 rfl rfl rfl ?_
          refine a_getq rfl gfX12_13_12 rfl (rfl) ?_
          refine a_s rfl rfl ?_
          refine a_s rfl rfl ?_
          refine a_l5 rfl rfl rfl ?_
          refine a_s rfl rfl ?_
          refine a_s rfl rfl ?_
          refine a_top (y := nI (384 + 2 * (a + j))) (by rw [show (2 : Int32) = nI 2 from rfl, show (384 : Int32) = nI 384 from rfl, nI_mul, nI_addl]) ?_
          refine a_ialdv (v := nI 10) rfl (n := 2033) rfl (inI_nI (by omega) (by omega)) (by rw [nI_clamp (by omega)]; rw [upr_row (by decide)]; exact e1) ?_
          refine a_s6 rfl rfl rfl rfl rfl rfl ?_
          refine a_l6 rfl rfl rfl ?_
          refine a_s rfl rfl ?_
          refine a_ic_gt rfl (fun c55 => ?_) (fun c => absurd (by decide) c)
          refine a_l6 rfl rfl rfl ?_
          refine a_s rfl rfl ?_
          refine a_ic_ne rfl (fun c96 => ?_) (fun c => absurd c (by decide))
          refine a_i3 rfl rfl rfl ?_
          rw [nI_decm]
          refine a_l0 rfl rfl rfl ?_
          refine a_getq rfl gfX12_39_12 rfl (rfl) ?_
          refine a_l3 rfl rfl rfl ?_
          refine a_s rfl rfl ?_
          refine a_s rfl rfl ?_
          refine a_top (nI_dec _) ?_
          refine a_ialdv (v := x) rfl (n := 400) rfl (inI_nI (by omega) (by omega)) (by rw [nI_clamp (by omega)]; rw [upr_at]; exact hv.2.1) ?_
          refine a_s7 rfl rfl rfl rfl rfl rfl ?_
          refine a_l0 rfl rfl rfl ?_
          refine a_getq rfl gfX12_39_12 rfl (rfl) ?_
          refine a_l3 rfl rfl rfl ?_
          refine a_ialdv (v := y) rfl (n := 400) rfl (inI_nI (by omega) (by omega)) (by rw [nI_clamp (by omega)]; rw [upr_at]; exact hv.1) ?_
          refine a_s8 rfl rfl rfl rfl rfl rfl ?_
          refine a_l6 rfl rfl rfl ?_
          refine a_s rfl rfl ?_
          refine a_ic_ne rfl (fun c145 => ?_) (fun c => absurd c (by decide))
          refine a_l6 rfl rfl rfl ?_
          refine a_s rfl rfl ?_
          refine a_ic_ne rfl (fun c167 => ?_) (fun c => absurd c (by decide))
          refine a_l6 rfl rfl rfl ?_
          refine a_s rfl rfl ?_
          refine a_ic_ne rfl (fun c189 => ?_) (fun c => absurd c (by decide))
          refine a_l7 rfl rfl rfl ?_
          refine a_l8 rfl rfl rfl ?_
          refine a_s rfl rfl ?_
          refine a_if_le rfl (fun c214 => ?_) (fun c214 => ?_)
          · refine a_s rfl rfl ?_
            refine a_s9 rfl rfl rfl rfl rfl rfl ?_
            refine a_l0 rfl rfl rfl ?_
            refine a_getq rfl gfX12_39_12 rfl (rfl) ?_
            refine a_l3 rfl rfl rfl ?_
            refine a_s rfl rfl ?_
            refine a_s rfl rfl ?_
            refine a_top (nI_dec _) ?_
            refine a_l6 rfl rfl rfl ?_
            refine a_s rfl rfl ?_
            refine a_ic_ne rfl (fun c => absurd c (fun z => z rfl)) (fun c235 => ?_)
            refine a_l7 rfl rfl rfl ?_
            refine a_l8 rfl rfl rfl ?_
            refine a_s rfl rfl ?_
            refine a_goto rfl ?_
            refine a_iastv (k := r.length) rfl (n := 400) rfl (inI_nI (by omega) (by omega)) (nI_clamp (by omega)) ?_
            rw [up2_upr]
            refine a_i5 rfl rfl rfl ?_
            refine a_goto rfl ?_
            exact a_back (ih (mm - 1) _ _ (by omega) ⟨j + 1, _, by omega, rfl, rfl, by rw [hr]; exact ⟨(if_pos rfl).trans (rfl), Stk.upd hv.2.2 fun q hq => if_neg (by omega)⟩⟩) (by simp [lsub, nI_1, hr, ← Nat.add_assoc]) rfl
          · refine a_s rfl rfl ?_
            refine a_goto rfl ?_
            refine a_s9 rfl rfl rfl rfl rfl rfl ?_
            refine a_l0 rfl rfl rfl ?_
            refine a_getq rfl gfX12_39_12 rfl (rfl) ?_
            refine a_l3 rfl rfl rfl ?_
            refine a_s rfl rfl ?_
            refine a_s rfl rfl ?_
            refine a_top (nI_dec _) ?_
            refine a_l6 rfl rfl rfl ?_
            refine a_s rfl rfl ?_
            refine a_ic_ne rfl (fun c => absurd c (fun z => z rfl)) (fun c235 => ?_)
            refine a_l7 rfl rfl rfl ?_
            refine a_l8 rfl rfl rfl ?_
            refine a_s rfl rfl ?_
            refine a_goto rfl ?_
            refine a_iastv (k := r.length) rfl (n := 400) rfl (inI_nI (by omega) (by omega)) (nI_clamp (by omega)) ?_
            rw [up2_upr]
            refine a_i5 rfl rfl rfl ?_
            refine a_goto rfl ?_
            exact a_back (ih (mm - 1) _ _ (by omega) ⟨j + 1, _, by omega, rfl, rfl, by rw [hr]; exact ⟨(if_pos rfl).trans (rfl), Stk.upd hv.2.2 fun q hq => if_neg (by omega)⟩⟩) (by simp [lsub, nI_1, hr, ← Nat.add_assoc]) rfl
        · refine a_l5 rfl rfl rfl ?_
          refine a_l0 rfl rfl rfl ?_
          refine a_getq rfl gfX12_13_12 rfl (rfl) ?_
          refine a_l4 rfl rfl rfl ?_
          refine a_s rfl rfl ?_
          refine a_s rfl rfl ?_
          refine a_top (nI_addl (336 + 4 * n) 3) ?_
          refine a_ialdv (v := nI (a + N)) rfl (n := 2033) rfl (inI_nI (by omega) (by omega)) (by rw [nI_clamp (by omega)]; rw [upr_row (by decide)]; exact h3) ?_
          refine a_ic_ge rfl (fun c => absurd c (nI_ge (by omega) (by omega))) (fun c33 => ?_)
          refine a_l0 rfl rfl rfl ?_
          refine a_getq rfl gfX12_13_12 rfl (rfl) ?_
          refine a_s rfl rfl ?_
          refine a_s rfl rfl ?_
          refine a_l5 rfl rfl rfl ?_
          refine a_s rfl rfl ?_
          refine a_s rfl rfl ?_
          refine a_top (y := nI (384 + 2 * (a + j))) (by rw [show (2 : Int32) = nI 2 from rfl, show (384 : Int32) = nI 384 from rfl, nI_mul, nI_addl]) ?_
          refine a_ialdv (v := nI 11) rfl (n := 2033) rfl (inI_nI (by omega) (by omega)) (by rw [nI_clamp (by omega)]; rw [upr_row (by decide)]; exact e1) ?_
          refine a_s6 rfl rfl rfl rfl rfl rfl ?_
          refine a_l6 rfl rfl rfl ?_
          refine a_s rfl rfl ?_
          refine a_ic_gt rfl (fun c55 => ?_) (fun c => absurd (by decide) c)
          refine a_l6 rfl rfl rfl ?_
          refine a_s rfl rfl ?_
          refine a_ic_ne rfl (fun c96 => ?_) (fun c => absurd c (by decide))
          refine a_i3 rfl rfl rfl ?_
          rw [nI_decm]
          refine a_l0 rfl rfl rfl ?_
          refine a_getq rfl gfX12_39_12 rfl (rfl) ?_
          refine a_l3 rfl rfl rfl ?_
          refine a_s rfl rfl ?_
          refine a_s rfl rfl ?_
          refine a_top (nI_dec _) ?_
          refine a_ialdv (v := x) rfl (n := 400) rfl (inI_nI (by omega) (by omega)) (by rw [nI_clamp (by omega)]; rw [upr_at]; exact hv.2.1) ?_
          refine a_s7 rfl rfl rfl rfl rfl rfl ?_
          refine a_l0 rfl rfl rfl ?_
          refine a_getq rfl gfX12_39_12 rfl (rfl) ?_
          refine a_l3 rfl rfl rfl ?_
          refine a_ialdv (v := y) rfl (n := 400) rfl (inI_nI (by omega) (by omega)) (by rw [nI_clamp (by omega)]; rw [upr_at]; exact hv.1) ?_
          refine a_s8 rfl rfl rfl rfl rfl rfl ?_
          refine a_l6 rfl rfl rfl ?_
          refine a_s rfl rfl ?_
          refine a_ic_ne rfl (fun c => absurd c (fun z => z rfl)) (fun c145 => ?_)
          refine a_l7 rfl rfl rfl ?_
          refine a_l8 rfl rfl rfl ?_
          refine a_ic_ge rfl (fun c152 => ?_) (fun c152 => ?_)
          · refine a_s rfl rfl ?_
            refine a_goto rfl ?_
            refine a_s9 rfl rfl rfl rfl rfl rfl ?_
            refine a_l0 rfl rfl rfl ?_
            refine a_getq rfl gfX12_39_12 rfl (rfl) ?_
            refine a_l3 rfl rfl rfl ?_
            refine a_s rfl rfl ?_
            refine a_s rfl rfl ?_
            refine a_top (nI_dec _) ?_
            refine a_l6 rfl rfl rfl ?_
            refine a_s rfl rfl ?_
            refine a_ic_ne rfl (fun c235 => ?_) (fun c => absurd c (by decide))
            refine a_l9 rfl rfl rfl ?_
            refine a_if_eq rfl (fun c248 => ?_) (fun c248 => ?_)
            · refine a_s rfl rfl ?_
              refine a_iastv (k := r.length) rfl (n := 400) rfl (inI_nI (by omega) (by omega)) (nI_clamp (by omega)) ?_
              rw [up2_upr]
              refine a_i5 rfl rfl rfl ?_
              refine a_goto rfl ?_
              exact a_back (ih (mm - 1) _ _ (by omega) ⟨j + 1, _, by omega, rfl, rfl, by rw [hr]; exact ⟨(if_pos rfl).trans (show (0 : Int32) = (if x < y then 1 else 0) from (if_neg (Int32.not_lt.mpr c152)).symm), Stk.upd hv.2.2 fun q hq => if_neg (by omega)⟩⟩) (by simp [lsub, nI_1, hr, ← Nat.add_assoc]) rfl
            · refine a_s rfl rfl ?_
              refine a_goto rfl ?_
              refine a_iastv (k := r.length) rfl (n := 400) rfl (inI_nI (by omega) (by omega)) (nI_clamp (by omega)) ?_
              rw [up2_upr]
              refine a_i5 rfl rfl rfl ?_
              refine a_goto rfl ?_
              exact absurd rfl c248
          · refine a_s rfl rfl ?_
            refine a_goto rfl ?_
            refine a_s9 rfl rfl rfl rfl rfl rfl ?_
            refine a_l0 rfl rfl rfl ?_
            refine a_getq rfl gfX12_39_12 rfl (rfl) ?_
            refine a_l3 rfl rfl rfl ?_
            refine a_s rfl rfl ?_
            refine a_s rfl rfl ?_
            refine a_top (nI_dec _) ?_
            refine a_l6 rfl rfl rfl ?_
            refine a_s rfl rfl ?_
            refine a_ic_ne rfl (fun c235 => ?_) (fun c => absurd c (by decide))
            refine a_l9 rfl rfl rfl ?_
            refine a_if_eq rfl (fun c248 => ?_) (fun c248 => ?_)
            · refine a_s rfl rfl ?_
              refine a_iastv (k := r.length) rfl (n := 400) rfl (inI_nI (by omega) (by omega)) (nI_clamp (by omega)) ?_
              rw [up2_upr]
              refine a_i5 rfl rfl rfl ?_
              refine a_goto rfl ?_
              exact absurd c248 (by decide)
            · refine a_s rfl rfl ?_
              refine a_goto rfl ?_
              refine a_iastv (k := r.length) rfl (n := 400) rfl (inI_nI (by omega) (by omega)) (nI_clamp (by omega)) ?_
              rw [up2_upr]
              refine a_i5 rfl rfl rfl ?_
              refine a_goto rfl ?_
              exact a_back (ih (mm - 1) _ _ (by omega) ⟨j + 1, _, by omega, rfl, rfl, by rw [hr]; exact ⟨(if_pos rfl).trans (show (1 : Int32) = (if x < y then 1 else 0) from (if_pos (Int32.not_le.mp c152)).symm), Stk.upd hv.2.2 fun q hq => if_neg (by omega)⟩⟩) (by simp [lsub, nI_1, hr, ← Nat.add_assoc]) rfl
        · refine a_l5 rfl rfl rfl ?_
          refine a_l0 rfl rfl rfl ?_
          refine a_getq rfl gfX12_13_12 rfl (rfl) ?_
          refine a_l4 rfl rfl rfl ?_
          refine a_s rfl rfl ?_
          refine a_s rfl rfl ?_
          refine a_top (nI_addl (336 + 4 * n) 3) ?_
          refine a_ialdv (v := nI (a + N)) rfl (n := 2033) rfl (inI_nI (by omega) (by omega)) (by rw [nI_clamp (by omega)]; rw [upr_row (by decide)]; exact h3) ?_
          refine a_ic_ge rfl (fun c => absurd c (nI_ge (by omega) (by omega))) (fun c33 => ?_)
          refine a_l0 rfl rfl rfl ?_
          refine a_getq rfl gfX12_13_12 rfl (rfl) ?_
          refine a_s rfl rfl ?_
          refine a_s rfl rfl ?_
          refine a_l5 rfl rfl rfl ?_
          refine a_s rfl rfl ?_
          refine a_s rfl rfl ?_
          refine a_top (y := nI (384 + 2 * (a + j))) (by rw [show (2 : Int32) = nI 2 from rfl, show (384 : Int32) = nI 384 from rfl, nI_mul, nI_addl]) ?_
          refine a_ialdv (v := nI 12) rfl (n := 2033) rfl (inI_nI (by omega) (by omega)) (by rw [nI_clamp (by omega)]; rw [upr_row (by decide)]; exact e1) ?_
          refine a_s6 rfl rfl rfl rfl rfl rfl ?_
          refine a_l6 rfl rfl rfl ?_
          refine a_s rfl rfl ?_
          refine a_ic_gt rfl (fun c55 => ?_) (fun c => absurd (by decide) c)
          refine a_l6 rfl rfl rfl ?_
          refine a_s rfl rfl ?_
          refine a_ic_ne rfl (fun c96 => ?_) (fun c => absurd c (by decide))
          refine a_i3 rfl rfl rfl ?_
          rw [nI_decm]
          refine a_l0 rfl rfl rfl ?_
          refine a_getq rfl gfX12_39_12 rfl (rfl) ?_
          refine a_l3 rfl rfl rfl ?_
          refine a_s rfl rfl ?_
          refine a_s rfl rfl ?_
          refine a_top (nI_dec _) ?_
          refine a_ialdv (v := x) rfl (n := 400) rfl (inI_nI (by omega) (by omega)) (by rw [nI_clamp (by omega)]; rw [upr_at]; exact hv.2.1) ?_
          refine a_s7 rfl rfl rfl rfl rfl rfl ?_
          refine a_l0 rfl rfl rfl ?_
          refine a_getq rfl gfX12_39_12 rfl (rfl) ?_
          refine a_l3 rfl rfl rfl ?_
          refine a_ialdv (v := y) rfl (n := 400) rfl (inI_nI (by omega) (by omega)) (by rw [nI_clamp (by omega)]; rw [upr_at]; exact hv.1) ?_
          refine a_s8 rfl rfl rfl rfl rfl rfl ?_
          refine a_l6 rfl rfl rfl ?_
          refine a_s rfl rfl ?_
          refine a_ic_ne rfl (fun c145 => ?_) (fun c => absurd c (by decide))
          refine a_l6 rfl rfl rfl ?_
          refine a_s rfl rfl ?_
          refine a_ic_ne rfl (fun c => absurd c (fun z => z rfl)) (fun c167 => ?_)
          refine a_l7 rfl rfl rfl ?_
          refine a_l8 rfl rfl rfl ?_
          refine a_ic_le rfl (fun c174 => ?_) (fun c174 => ?_)
          · refine a_s rfl rfl ?_
            refine a_goto rfl ?_
            refine a_s9 rfl rfl rfl rfl rfl rfl ?_
            refine a_l0 rfl rfl rfl ?_
            refine a_getq rfl gfX12_39_12 rfl (rfl) ?_
            refine a_l3 rfl rfl rfl ?_
            refine a_s rfl rfl ?_
            refine a_s rfl rfl ?_
            refine a_top (nI_dec _) ?_
            refine a_l6 rfl rfl rfl ?_
            refine a_s rfl rfl ?_
            refine a_ic_ne rfl (fun c235 => ?_) (fun c => absurd c (by decide))
            refine a_l9 rfl rfl rfl ?_
            refine a_if_eq rfl (fun c248 => ?_) (fun c248 => ?_)
            · refine a_s rfl rfl ?_
              refine a_iastv (k := r.length) rfl (n := 400) rfl (inI_nI (by omega) (by omega)) (nI_clamp (by omega)) ?_
              rw [up2_upr]
              refine a_i5 rfl rfl rfl ?_
              refine a_goto rfl ?_
              exact a_back (ih (mm - 1) _ _ (by omega) ⟨j + 1, _, by omega, rfl, rfl, by rw [hr]; exact ⟨(if_pos rfl).trans (show (0 : Int32) = (if y < x then 1 else 0) from (if_neg (Int32.not_lt.mpr c174)).symm), Stk.upd hv.2.2 fun q hq => if_neg (by omega)⟩⟩) (by simp [lsub, nI_1, hr, ← Nat.add_assoc]) rfl
            · refine a_s rfl rfl ?_
              refine a_goto rfl ?_
              refine a_iastv (k := r.length) rfl (n := 400) rfl (inI_nI (by omega) (by omega)) (nI_clamp (by omega)) ?_
              rw [up2_upr]
              refine a_i5 rfl rfl rfl ?_
              refine a_goto rfl ?_
              exact absurd rfl c248
          · refine a_s rfl rfl ?_
            refine a_goto rfl ?_
            refine a_s9 rfl rfl rfl rfl rfl rfl ?_
            refine a_l0 rfl rfl rfl ?_
            refine a_getq rfl gfX12_39_12 rfl (rfl) ?_
            refine a_l3 rfl rfl rfl ?_
            refine a_s rfl rfl ?_
            refine a_s rfl rfl ?_
            refine a_top (nI_dec _) ?_
            refine a_l6 rfl rfl rfl ?_
            refine a_s rfl rfl ?_
            refine a_ic_ne rfl (fun c235 => ?_) (fun c => absurd c (by decide))
            refine a_l9 rfl rfl rfl ?_
            refine a_if_eq rfl (fun c248 => ?_) (fun c248 => ?_)
            · refine a_s rfl rfl ?_
              refine a_iastv (k := r.length) rfl (n := 400) rfl (inI_nI (by omega) (by omega)) (nI_clamp (by omega)) ?_
              rw [up2_upr]
              refine a_i5 rfl rfl rfl ?_
              refine a_goto rfl ?_
              exact absurd c248 (by decide)
            · refine a_s rfl rfl ?_
              refine a_goto rfl ?_
              refine a_iastv (k := r.length) rfl (n := 400) rfl (inI_nI (by omega) (by omega)) (nI_clamp (by omega)) ?_
              rw [up2_upr]
              refine a_i5 rfl rfl rfl ?_
              refine a_goto rfl ?_
              exact a_back (ih (mm - 1) _ _ (by omega) ⟨j + 1, _, by omega, rfl, rfl, by rw [hr]; exact ⟨(if_pos rfl).trans (show (1 : Int32) = (if y < x then 1 else 0) from (if_pos (Int32.not_le.mp c174)).symm), Stk.upd hv.2.2 fun q hq => if_neg (by omega)⟩⟩) (by simp [lsub, nI_1, hr, ← Nat.add_assoc]) rfl
        · replace h01 := h01 (Or.inl rfl)
          refine a_l5 rfl rfl rfl ?_
          refine a_l0 rfl rfl rfl ?_
          refine a_getq rfl gfX12_13_12 rfl (rfl) ?_
          refine a_l4 rfl rfl rfl ?_
          refine a_s rfl rfl ?_
          refine a_s rfl rfl ?_
          refine a_top (nI_addl (336 + 4 * n) 3) ?_
          refine a_ialdv (v := nI (a + N)) rfl (n := 2033) rfl (inI_nI (by omega) (by omega)) (by rw [nI_clamp (by omega)]; rw [upr_row (by decide)]; exact h3) ?_
          refine a_ic_ge rfl (fun c => absurd c (nI_ge (by omega) (by omega))) (fun c33 => ?_)
          refine a_l0 rfl rfl rfl ?_
          refine a_getq rfl gfX12_13_12 rfl (rfl) ?_
          refine a_s rfl rfl ?_
          refine a_s rfl rfl ?_
          refine a_l5 rfl rfl rfl ?_
          refine a_s rfl rfl ?_
          refine a_s rfl rfl ?_
          refine a_top (y := nI (384 + 2 * (a + j))) (by rw [show (2 : Int32) = nI 2 from rfl, show (384 : Int32) = nI 384 from rfl, nI_mul, nI_addl]) ?_
          refine a_ialdv (v := nI 14) rfl (n := 2033) rfl (inI_nI (by omega) (by omega)) (by rw [nI_clamp (by omega)]; rw [upr_row (by decide)]; exact e1) ?_
          refine a_s6 rfl rfl rfl rfl rfl rfl ?_
          refine a_l6 rfl rfl rfl ?_
          refine a_s rfl rfl ?_
          refine a_ic_gt rfl (fun c55 => ?_) (fun c => absurd (by decide) c)
          refine a_l6 rfl rfl rfl ?_
          refine a_s rfl rfl ?_
          refine a_ic_ne rfl (fun c96 => ?_) (fun c => absurd c (by decide))
          refine a_i3 rfl rfl rfl ?_
          rw [nI_decm]
          refine a_l0 rfl rfl rfl ?_
          refine a_getq rfl gfX12_39_12 rfl (rfl) ?_
          refine a_l3 rfl rfl rfl ?_
          refine a_s rfl rfl ?_
          refine a_s rfl rfl ?_
          refine a_top (nI_dec _) ?_
          refine a_ialdv (v := x) rfl (n := 400) rfl (inI_nI (by omega) (by omega)) (by rw [nI_clamp (by omega)]; rw [upr_at]; exact hv.2.1) ?_
          refine a_s7 rfl rfl rfl rfl rfl rfl ?_
          refine a_l0 rfl rfl rfl ?_
          refine a_getq rfl gfX12_39_12 rfl (rfl) ?_
          refine a_l3 rfl rfl rfl ?_
          refine a_ialdv (v := y) rfl (n := 400) rfl (inI_nI (by omega) (by omega)) (by rw [nI_clamp (by omega)]; rw [upr_at]; exact hv.1) ?_
          refine a_s8 rfl rfl rfl rfl rfl rfl ?_
          refine a_l6 rfl rfl rfl ?_
          refine a_s rfl rfl ?_
          refine a_ic_ne rfl (fun c145 => ?_) (fun c => absurd c (by decide))
          refine a_l6 rfl rfl rfl ?_
          refine a_s rfl rfl ?_
          refine a_ic_ne rfl (fun c167 => ?_) (fun c => absurd c (by decide))
          refine a_l6 rfl rfl rfl ?_
          refine a_s rfl rfl ?_
          refine a_ic_ne rfl (fun c => absurd c (fun z => z rfl)) (fun c189 => ?_)
          refine a_l7 rfl rfl rfl ?_
          refine a_l8 rfl rfl rfl ?_
          refine a_s rfl rfl ?_
          refine a_s rfl rfl ?_
          refine a_ic_ne rfl (fun c198 => ?_) (fun c198 => ?_)
          · refine a_s rfl rfl ?_
            refine a_goto rfl ?_
            refine a_s9 rfl rfl rfl rfl rfl rfl ?_
            refine a_l0 rfl rfl rfl ?_
            refine a_getq rfl gfX12_39_12 rfl (rfl) ?_
            refine a_l3 rfl rfl rfl ?_
            refine a_s rfl rfl ?_
            refine a_s rfl rfl ?_
            refine a_top (nI_dec _) ?_
            refine a_l6 rfl rfl rfl ?_
            refine a_s rfl rfl ?_
            refine a_ic_ne rfl (fun c235 => ?_) (fun c => absurd c (by decide))
            refine a_l9 rfl rfl rfl ?_
            refine a_if_eq rfl (fun c248 => ?_) (fun c248 => ?_)
            · refine a_s rfl rfl ?_
              refine a_iastv (k := r.length) rfl (n := 400) rfl (inI_nI (by omega) (by omega)) (nI_clamp (by omega)) ?_
              rw [up2_upr]
              refine a_i5 rfl rfl rfl ?_
              refine a_goto rfl ?_
              exact a_back (ih (mm - 1) _ _ (by omega) ⟨j + 1, _, by omega, rfl, rfl, by rw [hr]; exact ⟨(if_pos rfl).trans (show (0 : Int32) = x &&& y from (by rcases h01.1 with rfl | rfl <;> rcases h01.2 with rfl | rfl <;> first | rfl | exact absurd (by decide) c198)), Stk.upd hv.2.2 fun q hq => if_neg (by omega)⟩⟩) (by simp [lsub, nI_1, hr, ← Nat.add_assoc]) rfl
            · refine a_s rfl rfl ?_
              refine a_goto rfl ?_
              refine a_iastv (k := r.length) rfl (n := 400) rfl (inI_nI (by omega) (by omega)) (nI_clamp (by omega)) ?_
              rw [up2_upr]
              refine a_i5 rfl rfl rfl ?_
              refine a_goto rfl ?_
              exact absurd rfl c248
          · refine a_s rfl rfl ?_
            refine a_goto rfl ?_
            refine a_s9 rfl rfl rfl rfl rfl rfl ?_
            refine a_l0 rfl rfl rfl ?_
            refine a_getq rfl gfX12_39_12 rfl (rfl) ?_
            refine a_l3 rfl rfl rfl ?_
            refine a_s rfl rfl ?_
            refine a_s rfl rfl ?_
            refine a_top (nI_dec _) ?_
            refine a_l6 rfl rfl rfl ?_
            refine a_s rfl rfl ?_
            refine a_ic_ne rfl (fun c235 => ?_) (fun c => absurd c (by decide))
            refine a_l9 rfl rfl rfl ?_
            refine a_if_eq rfl (fun c248 => ?_) (fun c248 => ?_)
            · refine a_s rfl rfl ?_
              refine a_iastv (k := r.length) rfl (n := 400) rfl (inI_nI (by omega) (by omega)) (nI_clamp (by omega)) ?_
              rw [up2_upr]
              refine a_i5 rfl rfl rfl ?_
              refine a_goto rfl ?_
              exact absurd c248 (by decide)
            · refine a_s rfl rfl ?_
              refine a_goto rfl ?_
              refine a_iastv (k := r.length) rfl (n := 400) rfl (inI_nI (by omega) (by omega)) (nI_clamp (by omega)) ?_
              rw [up2_upr]
              refine a_i5 rfl rfl rfl ?_
              refine a_goto rfl ?_
              exact a_back (ih (mm - 1) _ _ (by omega) ⟨j + 1, _, by omega, rfl, rfl, by rw [hr]; exact ⟨(if_pos rfl).trans (show (1 : Int32) = x &&& y from (by rcases h01.1 with rfl | rfl <;> rcases h01.2 with rfl | rfl <;> first | exact absurd c198 (by decide) | rfl)), Stk.upd hv.2.2 fun q hq => if_neg (by omega)⟩⟩) (by simp [lsub, nI_1, hr, ← Nat.add_assoc]) rfl
        · replace h01 := h01 (Or.inr rfl)
          refine a_l5 rfl rfl rfl ?_
          refine a_l0 rfl rfl rfl ?_
          refine a_getq rfl gfX12_13_12 rfl (rfl) ?_
          refine a_l4 rfl rfl rfl ?_
          refine a_s rfl rfl ?_
          refine a_s rfl rfl ?_
          refine a_top (nI_addl (336 + 4 * n) 3) ?_
          refine a_ialdv (v := nI (a + N)) rfl (n := 2033) rfl (inI_nI (by omega) (by omega)) (by rw [nI_clamp (by omega)]; rw [upr_row (by decide)]; exact h3) ?_
          refine a_ic_ge rfl (fun c => absurd c (nI_ge (by omega) (by omega))) (fun c33 => ?_)
          refine a_l0 rfl rfl rfl ?_
          refine a_getq rfl gfX12_13_12 rfl (rfl) ?_
          refine a_s rfl rfl ?_
          refine a_s rfl rfl ?_
          refine a_l5 rfl rfl rfl ?_
          refine a_s rfl rfl ?_
          refine a_s rfl rfl ?_
          refine a_top (y := nI (384 + 2 * (a + j))) (by rw [show (2 : Int32) = nI 2 from rfl, show (384 : Int32) = nI 384 from rfl, nI_mul, nI_addl]) ?_
          refine a_ialdv (v := nI 15) rfl (n := 2033) rfl (inI_nI (by omega) (by omega)) (by rw [nI_clamp (by omega)]; rw [upr_row (by decide)]; exact e1) ?_
          refine a_s6 rfl rfl rfl rfl rfl rfl ?_
          refine a_l6 rfl rfl rfl ?_
          refine a_s rfl rfl ?_
          refine a_ic_gt rfl (fun c55 => ?_) (fun c => absurd (by decide) c)
          refine a_l6 rfl rfl rfl ?_
          refine a_s rfl rfl ?_
          refine a_ic_ne rfl (fun c96 => ?_) (fun c => absurd c (by decide))
          refine a_i3 rfl rfl rfl ?_
          rw [nI_decm]
          refine a_l0 rfl rfl rfl ?_
          refine a_getq rfl gfX12_39_12 rfl (rfl) ?_
          refine a_l3 rfl rfl rfl ?_
          refine a_s rfl rfl ?_
          refine a_s rfl rfl ?_
          refine a_top (nI_dec _) ?_
          refine a_ialdv (v := x) rfl (n := 400) rfl (inI_nI (by omega) (by omega)) (by rw [nI_clamp (by omega)]; rw [upr_at]; exact hv.2.1) ?_
          refine a_s7 rfl rfl rfl rfl rfl rfl ?_
          refine a_l0 rfl rfl rfl ?_
          refine a_getq rfl gfX12_39_12 rfl (rfl) ?_
          refine a_l3 rfl rfl rfl ?_
          refine a_ialdv (v := y) rfl (n := 400) rfl (inI_nI (by omega) (by omega)) (by rw [nI_clamp (by omega)]; rw [upr_at]; exact hv.1) ?_
          refine a_s8 rfl rfl rfl rfl rfl rfl ?_
          refine a_l6 rfl rfl rfl ?_
          refine a_s rfl rfl ?_
          refine a_ic_ne rfl (fun c145 => ?_) (fun c => absurd c (by decide))
          refine a_l6 rfl rfl rfl ?_
          refine a_s rfl rfl ?_
          refine a_ic_ne rfl (fun c167 => ?_) (fun c => absurd c (by decide))
          refine a_l6 rfl rfl rfl ?_
          refine a_s rfl rfl ?_
          refine a_ic_ne rfl (fun c189 => ?_) (fun c => absurd c (by decide))
          refine a_l7 rfl rfl rfl ?_
          refine a_l8 rfl rfl rfl ?_
          refine a_s rfl rfl ?_
          refine a_if_le rfl (fun c214 => ?_) (fun c214 => ?_)
          · refine a_s rfl rfl ?_
            refine a_s9 rfl rfl rfl rfl rfl rfl ?_
            refine a_l0 rfl rfl rfl ?_
            refine a_getq rfl gfX12_39_12 rfl (rfl) ?_
            refine a_l3 rfl rfl rfl ?_
            refine a_s rfl rfl ?_
            refine a_s rfl rfl ?_
            refine a_top (nI_dec _) ?_
            refine a_l6 rfl rfl rfl ?_
            refine a_s rfl rfl ?_
            refine a_ic_ne rfl (fun c235 => ?_) (fun c => absurd c (by decide))
            refine a_l9 rfl rfl rfl ?_
            refine a_if_eq rfl (fun c248 => ?_) (fun c248 => ?_)
            · refine a_s rfl rfl ?_
              refine a_iastv (k := r.length) rfl (n := 400) rfl (inI_nI (by omega) (by omega)) (nI_clamp (by omega)) ?_
              rw [up2_upr]
              refine a_i5 rfl rfl rfl ?_
              refine a_goto rfl ?_
              exact a_back (ih (mm - 1) _ _ (by omega) ⟨j + 1, _, by omega, rfl, rfl, by rw [hr]; exact ⟨(if_pos rfl).trans (show (0 : Int32) = x ||| y from (by rcases h01.1 with rfl | rfl <;> rcases h01.2 with rfl | rfl <;> first | rfl | exact absurd c214 (by decide))), Stk.upd hv.2.2 fun q hq => if_neg (by omega)⟩⟩) (by simp [lsub, nI_1, hr, ← Nat.add_assoc]) rfl
            · refine a_s rfl rfl ?_
              refine a_goto rfl ?_
              refine a_iastv (k := r.length) rfl (n := 400) rfl (inI_nI (by omega) (by omega)) (nI_clamp (by omega)) ?_
              rw [up2_upr]
              refine a_i5 rfl rfl rfl ?_
              refine a_goto rfl ?_
              exact absurd rfl c248
          · refine a_s rfl rfl ?_
            refine a_goto rfl ?_
            refine a_s9 rfl rfl rfl rfl rfl rfl ?_
            refine a_l0 rfl rfl rfl ?_
            refine a_getq rfl gfX12_39_12 rfl (rfl) ?_
            refine a_l3 rfl rfl rfl ?_
            refine a_s rfl rfl ?_
            refine a_s rfl rfl ?_
            refine a_top (nI_dec _) ?_
            refine a_l6 rfl rfl rfl ?_
            refine a_s rfl rfl ?_
            refine a_ic_ne rfl (fun c235 => ?_) (fun c => absurd c (by decide))
            refine a_l9 rfl rfl rfl ?_
            refine a_if_eq rfl (fun c248 => ?_) (fun c248 => ?_)
            · refine a_s rfl rfl ?_
              refine a_iastv (k := r.length) rfl (n := 400) rfl (inI_nI (by omega) (by omega)) (nI_clamp (by omega)) ?_
              rw [up2_upr]
              refine a_i5 rfl rfl rfl ?_
              refine a_goto rfl ?_
              exact absurd c248 (by decide)
            · refine a_s rfl rfl ?_
              refine a_goto rfl ?_
              refine a_iastv (k := r.length) rfl (n := 400) rfl (inI_nI (by omega) (by omega)) (nI_clamp (by omega)) ?_
              rw [up2_upr]
              refine a_i5 rfl rfl rfl ?_
              refine a_goto rfl ?_
              exact a_back (ih (mm - 1) _ _ (by omega) ⟨j + 1, _, by omega, rfl, rfl, by rw [hr]; exact ⟨(if_pos rfl).trans (show (1 : Int32) = x ||| y from (by rcases h01.1 with rfl | rfl <;> rcases h01.2 with rfl | rfl <;> first | exact absurd (by decide) c214 | rfl)), Stk.upd hv.2.2 fun q hq => if_neg (by omega)⟩⟩) (by simp [lsub, nI_1, hr, ← Nat.add_assoc]) rfl
