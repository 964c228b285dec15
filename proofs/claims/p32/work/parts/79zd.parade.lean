/-! ===== the parade: each place has one duty at most ===== -/
section T79zd
variable {S : aS} {I : Nat → Nat → Int32} {L : Nat → Nat → Int64} {w1 w2 t : Nat} {d e k nl len : Nat} {cd fa fn : Nat → Nat} {W V : Nat → Int32}
set_option maxRecDepth 100000
def pl (W : Nat → Int32) (d : Nat) : Int32 := placeF (dn W) (vd W 5) (vd W 2) (nI d)
theorem cnt_le {P Q : Nat → Bool} : ∀ {n : Nat}, (∀ x, x < n → P x = true → Q x = true) → cntF n P ≤ cntF n Q := by
  intro n
  induction n with
  | zero => exact fun _ => Nat.le_refl _
  | succ n ih =>
    intro h
    have ih := ih fun x hx => h x (by omega)
    cases hp : P n with
    | false =>
      rw [cntF_f hp]
      cases hq : Q n with
      | false => rw [cntF_f hq]; exact ih
      | true => rw [cntF_t hq]; omega
    | true =>
      rw [cntF_t hp, cntF_t (h n (Nat.lt_succ_self n) hp)]
      omega
theorem cnt_lt {P Q : Nat → Bool} : ∀ {n : Nat}, (∀ x, x < n → P x = true → Q x = true) → (∃ x, x < n ∧ Q x = true ∧ P x = false) → cntF n P < cntF n Q := by
  intro n
  induction n with
  | zero =>
    rintro _ ⟨x, hx, -⟩
    exact absurd hx (Nat.not_lt_zero _)
  | succ n ih =>
    rintro h ⟨x, hx, q, p⟩
    have hl := cnt_le (n := n) fun y hy => h y (by omega)
    by_cases c : x = n
    · subst c
      rw [cntF_f p, cntF_t q]
      omega
    · have ih := ih (fun y hy => h y (by omega)) ⟨x, by omega, q, p⟩
      cases hp : P n with
      | false =>
        rw [cntF_f hp]
        cases hq : Q n with
        | false => rw [cntF_f hq]; exact ih
        | true => rw [cntF_t hq]; omega
      | true =>
        rw [cntF_t hp, cntF_t (h n (Nat.lt_succ_self n) hp)]
        omega
theorem pl_no (h12 : dn W ≤ 12) (hd : d < dn W) (h : ¬ vd W 5 d = 0) : pl W d = -1 := by
  unfold pl placeF
  rw [waitF_nI hd h12, decide_eq_false h, if_neg Bool.false_ne_true]
theorem pl_is (h12 : dn W ≤ 12) (hd : d < dn W) (h : vd W 5 d = 0) : pl W d = nI (cntF (dn W) (fun x => decide (vd W 5 x = 0 ∧ (vd W 2 x < vd W 2 d ∨ (vd W 2 x = vd W 2 d ∧ nI x < nI d))))) := by
  unfold pl placeF placeC
  rw [waitF_nI hd h12, decide_eq_true h, if_pos rfl, atF_nI (show d < 12 by omega) (by decide)]
theorem nI_no {m : Nat} (h : m < 2 ^ 31) : ¬ nI m = -1 := fun z => by
  have := nI_pos h
  rw [z] at this
  exact this (by decide)
theorem bf_irr {x : Int32} : ¬ (x < x) := fun z => Int32.lt_irrefl z
/-- who goes ahead has the lesser place -/
theorem pl_lt (h12 : dn W ≤ 12) (hd : d < dn W) (he : e < dn W) (h1 : vd W 5 d = 0) (h : vd W 2 d < vd W 2 e ∨ (vd W 2 d = vd W 2 e ∧ d < e)) : cntF (dn W) (fun x => decide (vd W 5 x = 0 ∧ (vd W 2 x < vd W 2 d ∨ (vd W 2 x = vd W 2 d ∧ nI x < nI d)))) < cntF (dn W) (fun x => decide (vd W 5 x = 0 ∧ (vd W 2 x < vd W 2 e ∨ (vd W 2 x = vd W 2 e ∧ nI x < nI e)))) := by
  have ix : ∀ {x y : Nat}, x < 12 → y < 12 → (nI x < nI y ↔ x < y) := fun hx hy => nI_lt_iff (by omega) (by omega)
  refine cnt_lt (fun x hx z => ?_) ⟨d, hd, ?_, ?_⟩
  · obtain ⟨z1, z2⟩ := of_decide_eq_true z
    refine decide_eq_true ⟨z1, ?_⟩
    rcases z2 with z2 | ⟨z2, z3⟩
    · rcases h with h | ⟨h, h'⟩
      · exact Or.inl (Int32.lt_trans z2 h)
      · exact Or.inl (h ▸ z2)
    · rcases h with h | ⟨h, h'⟩
      · exact Or.inl (z2 ▸ h)
      · exact Or.inr ⟨z2.trans h, (ix (by omega) (by omega)).mpr (by have := (ix (by omega) (by omega)).mp z3; omega)⟩
  · refine decide_eq_true ⟨h1, ?_⟩
    rcases h with h | ⟨h, h'⟩
    · exact Or.inl h
    · exact Or.inr ⟨h, (ix (by omega) (by omega)).mpr h'⟩
  · refine decide_eq_false fun z => ?_
    rcases z.2 with z | ⟨-, z⟩
    · exact bf_irr z
    · exact bf_irr z
theorem pl_inj (h12 : dn W ≤ 12) (hd : d < dn W) (he : e < dn W) (h1 : vd W 5 d = 0) (h2 : vd W 5 e = 0) (h : pl W d = pl W e) : d = e := by
  rw [pl_is h12 hd h1, pl_is h12 he h2] at h
  have c1 := cntF_le (dn W) (fun x => decide (vd W 5 x = 0 ∧ (vd W 2 x < vd W 2 d ∨ (vd W 2 x = vd W 2 d ∧ nI x < nI d))))
  have c2 := cntF_le (dn W) (fun x => decide (vd W 5 x = 0 ∧ (vd W 2 x < vd W 2 e ∨ (vd W 2 x = vd W 2 e ∧ nI x < nI e))))
  have h := nI_inj (by omega) (by omega) h
  by_cases c : d = e
  · exact c
  exfalso
  by_cases a1 : vd W 2 d < vd W 2 e
  · have := pl_lt h12 hd he h1 (Or.inl a1)
    omega
  by_cases a2 : vd W 2 e < vd W 2 d
  · have := pl_lt h12 he hd h2 (Or.inl a2)
    omega
  have a3 : vd W 2 d = vd W 2 e := Int32.le_antisymm (Int32.not_lt.mp a2) (Int32.not_lt.mp a1)
  rcases Nat.lt_or_gt_of_ne c with g | g
  · have := pl_lt h12 hd he h1 (Or.inr ⟨a3, g⟩)
    omega
  · have := pl_lt h12 he hd h2 (Or.inr ⟨a3.symm, g⟩)
    omega
theorem pl_bd (h12 : dn W ≤ 12) (hd : d < dn W) {k : Nat} (hk : k < 2 ^ 31) (h : pl W d = nI k) : vd W 5 d = 0 ∧ k < dn W := by
  by_cases h1 : vd W 5 d = 0
  · refine ⟨h1, ?_⟩
    have c2 := cntF_le (dn W) (fun x => decide (vd W 5 x = 0 ∧ (vd W 2 x < vd W 2 d ∨ (vd W 2 x = vd W 2 d ∧ nI x < nI d))))
    rw [pl_is h12 hd h1] at h
    have h := nI_inj (by omega) hk h
    have c3 : cntF (dn W) (fun x => decide (vd W 5 x = 0 ∧ (vd W 2 x < vd W 2 d ∨ (vd W 2 x = vd W 2 d ∧ nI x < nI d)))) < cntF (dn W) (fun _ => true) := by
      refine cnt_lt (fun _ _ _ => rfl) ⟨d, hd, rfl, decide_eq_false fun z => ?_⟩
      rcases z.2 with z | ⟨-, z⟩
      · exact bf_irr z
      · exact bf_irr z
    have c4 := cntF_le (dn W) (fun _ => true)
    omega
  · rw [pl_no h12 hd h1] at h
    exact absurd h.symm (nI_no hk)
theorem pl_log (hG : Rg W) (hd : d < dn W) (f : ∀ k, k < 95 → k ≠ 9 → V k = W k) : pl V d = pl W d := by
  have h12 := hG.1.2.1
  obtain ⟨-, -, eV⟩ := Rg.log hG f
  have e5 : ∀ x, x < dn W → vd V 5 x = vd W 5 x := fun x hx => f _ (by omega) (by omega)
  have e2 : ∀ x, x < dn W → vd V 2 x = vd W 2 x := fun x hx => f _ (by omega) (by omega)
  by_cases c : vd W 5 d = 0
  · rw [pl_is h12 hd c, pl_is (by rw [eV]; exact h12) (by rw [eV]; exact hd) (by rw [e5 d hd]; exact c), eV]
    congr 1
    refine cntF_congr fun x hx => ?_
    rw [e5 x hx, e2 x hx, e2 d hd]
  · rw [pl_no h12 hd c, pl_no (by rw [eV]; exact h12) (by rw [eV]; exact hd) (by rw [e5 d hd]; exact c)]
/-- the duty at a place -/
def dtF (W : Nat → Int32) (k : Nat) : Nat → Int32
  | 0 => -1
  | n + 1 => if dtF W k n = -1 then (if pl W n = nI k then nI n else -1) else dtF W k n
theorem dtF_ix {k : Nat} : ∀ n, n ≤ 12 → dtF W k n = -1 ∨ ∃ d, d < n ∧ dtF W k n = nI d ∧ pl W d = nI k := by
  intro n
  induction n with
  | zero => exact fun _ => Or.inl rfl
  | succ n ih =>
    intro hn
    unfold dtF
    rcases ih (by omega) with z | ⟨d, d1, d2, d3⟩
    · rw [if_pos z]
      by_cases c : pl W n = nI k
      · rw [if_pos c]
        exact Or.inr ⟨n, Nat.lt_succ_self n, rfl, c⟩
      · rw [if_neg c]
        exact Or.inl rfl
    · rw [d2, if_neg (nI_no (by omega))]
      exact Or.inr ⟨d, by omega, rfl, d3⟩
/-- a place goes by -/
def lt1 (cd fa fn : Nat → Nat) (nl : Nat) (W : Nat → Int32) (k : Nat) : Nat → Int32 := if dtF W k (dn W) = -1 then W else tell W (W 5) (dtF W k (dn W)) (nI k) (shameR W cd fa fn nl (ixN (dtF W k (dn W))))
def ltF (cd fa fn : Nat → Nat) (nl : Nat) (W : Nat → Int32) : Nat → Nat → Int32
  | 0 => W
  | n + 1 => lt1 cd fa fn nl (ltF cd fa fn nl W n) n
theorem lt1_lo {k j : Nat} (h : j < 95 ∨ 335 ≤ j) (h9 : j ≠ 9) : lt1 cd fa fn nl W k j = W j := by
  unfold lt1
  by_cases c : dtF W k (dn W) = -1
  · rw [if_pos c]
  · rw [if_neg c, tell_lo h h9]
theorem ltF_lo {n j : Nat} (h : j < 95 ∨ 335 ≤ j) (h9 : j ≠ 9) : ltF cd fa fn nl W n j = W j := by
  induction n with
  | zero => rfl
  | succ n ih =>
    show lt1 cd fa fn nl (ltF cd fa fn nl W n) n j = W j
    rw [lt1_lo h h9, ih]
theorem f_dutyAt (hD : Sd I 235 W) (hG : Rg W) {k : Nat} (hk : k < 2 ^ 31) : SpE S m_X5_dutyAt 16 [.ref 235, .int (nI k)] (hp I L w1 w2 t) (some (.int (dtF W k (dn W)))) (hp I L w1 w2 t) := by
  have h12 := hG.1.2.1
  have hd3 : I 235 3 = nI (dn W) := (Sd.fd hD (f := 3) (g := 1) (by decide)).trans hG.1.2.2.2
  refine SpE_of ok_X5_dutyAt rfl rfl ?_
  show AW S m_X5_dutyAt 16 _ _ 0 0 0 [some (.ref 235), some (.int (nI k)), none] [] (hp I L w1 w2 t)
  refine a_s rfl rfl ?_
  refine a_s2 rfl rfl rfl rfl rfl rfl ?_
  refine a_inv (n := dn W) (fun m ls h => ∃ j, ls = [some (.ref 235), some (.int (nI k)), some (.int (nI j))] ∧ h = hp I L w1 w2 t ∧ j ≤ dn W ∧ m = dn W - j ∧ dtF W k j = -1) ⟨0, rfl, rfl, Nat.zero_le _, rfl, rfl⟩ ?_
  rintro m _ _ ⟨j, rfl, rfl, hj, hm, hdt⟩ ih
  refine a_l2 rfl rfl rfl ?_
  refine a_l0 rfl rfl rfl ?_
  refine a_getiv (v := nI (dn W)) rfl gfX5_63_5 rfl (hd3) ?_
  refine a_ic_ge rfl (fun c => ?_) (fun c => ?_)
  · have hge := nI_ge_of c (by omega) (by omega)
    obtain rfl : j = dn W := by omega
    refine a_s rfl rfl ?_
    exact a_iret rfl rfl ⟨by rw [hdt], rfl⟩
  have hjn := nI_lt_of c (by omega) (by omega)
  have skip : ¬ pl W j = nI k → AW S m_X5_dutyAt 16 (fun v h' => v = some (.int (dtF W k (dn W))) ∧ h' = hp I L w1 w2 t) (fun _ _ => False) 0 0 29 [some (.ref 235), some (.int (nI k)), some (.int (nI j))] [] (hp I L w1 w2 t) := by
    intro z
    refine a_iv2 (y := nI (j + 1)) rfl rfl rfl ((nI_succ j).symm) ?_
    refine a_goto rfl ?_
    refine ih (dn W - (j + 1)) _ _ (by omega) ⟨j + 1, rfl, rfl, by omega, rfl, ?_⟩
    unfold dtF
    rw [if_pos hdt, if_neg z]
  refine a_l0 rfl rfl rfl ?_
  refine a_l2 rfl rfl rfl ?_
  refine a_eV1 rfl lX5_90 mo_X5_isWaiting (sp_X5_isWaiting (nd := dn W) (a := 235) (by decide) hd3 h12) rfl rfl rfl ⟨5, _, rfl, rfl, rfl⟩ rfl ?_
  rw [wait_same hD hG hjn]
  by_cases c0 : vd W 5 j = 0
  rotate_left
  · rw [decide_eq_false c0]
    refine a_if_eq rfl (fun _ => ?_) (fun z => absurd rfl z)
    exact skip (fun z => by rw [pl_no h12 hjn c0] at z; exact nI_no hk z.symm)
  rw [decide_eq_true c0]
  refine a_if_eq rfl (fun z => absurd z (by decide)) (fun _ => ?_)
  refine a_l0 rfl rfl rfl ?_
  refine a_l2 rfl rfl rfl ?_
  refine a_eV1 rfl lX5_113 mo_X5_placeOf (sp_X5_placeOf (nd := dn W) (a := 235) (by decide) hd3 h12) rfl rfl rfl ⟨5, _, rfl, rfl, rfl⟩ rfl ?_
  rw [place_same hD hG hjn]
  refine a_l1 rfl rfl rfl ?_
  refine a_ic_ne rfl (fun c2 => skip c2) (fun c2 => ?_)
  refine a_l2 rfl rfl rfl ?_
  refine a_iret rfl rfl ⟨?_, rfl⟩
  have key : ∀ i, dtF W k (j + 1 + i) = nI j := by
    intro i
    induction i with
    | zero =>
      show dtF W k (j + 1) = nI j
      unfold dtF
      rw [if_pos hdt]
      exact if_pos c2
    | succ i ih =>
      show dtF W k ((j + 1 + i) + 1) = nI j
      unfold dtF
      rw [ih, if_neg (nI_no (by omega))]
  rw [show dn W = j + 1 + (dn W - (j + 1)) by omega, key]
end T79zd
