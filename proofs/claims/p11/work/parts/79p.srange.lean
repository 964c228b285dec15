section
/-! ===== the ranges of a street's numbers; lines of a text keep them ===== -/
section P79p
def Nb (x : Int32) (m : Nat) : Prop := ∃ k, k ≤ m ∧ x = nI k
def Nc (x : Int32) (l m : Nat) : Prop := ∃ k, l ≤ k ∧ k ≤ m ∧ x = nI k
/-- a person -/
def RgP (W : Nat → Int32) (p : Nat) : Prop := Nb (W (11 + 2 * p)) 15 ∧ Nb (W (11 + 2 * p + 1)) 9
/-- a duty: done, if none is left -/
def RgD (np nd : Nat) (W : Nat → Int32) (d : Nat) : Prop := (∃ j, j < np ∧ W (23 + 6 * d + 0) = nI j) ∧ (∃ l, l ≤ 99 ∧ W (23 + 6 * d + 1) = nI l ∧ (W (23 + 6 * d + 5) = 1 ↔ l = 0)) ∧ Nb (W (23 + 6 * d + 2)) 99 ∧ (W (23 + 6 * d + 3) = -1 ∨ Nb (W (23 + 6 * d + 3)) 5) ∧ (W (23 + 6 * d + 4) = -1 ∨ ∃ k, k < nd ∧ W (23 + 6 * d + 4) = nI k) ∧ Nb (W (23 + 6 * d + 5)) 2
def RgF (W : Nat → Int32) : Prop := Nb (W 2) 12 ∧ Nc (W 4) 1 30 ∧ Nb (W 5) 9999 ∧ Nb (W 6) 100 ∧ Nc (W 7) 1 9 ∧ Nb (W 8) 50
def Rg (W : Nat → Int32) : Prop := WOk W ∧ RgF W ∧ (∀ p, p < pn W → RgP W p) ∧ ∀ d, d < dn W → RgD (pn W) (dn W) W d
variable {T : Nat → Int32} {e b : Nat} {W : Nat → Int32}
theorem RgP.eq {W' : Nat → Int32} {p : Nat} (h : RgP W p) (e0 : W' (11 + 2 * p) = W (11 + 2 * p)) (e1 : W' (11 + 2 * p + 1) = W (11 + 2 * p + 1)) : RgP W' p := by
  unfold RgP
  rw [e0, e1]
  exact h
theorem RgD.eq {W' : Nat → Int32} {np nd d : Nat} (h : RgD np nd W d) (f : ∀ k, k < 6 → W' (23 + 6 * d + k) = W (23 + 6 * d + k)) : RgD np nd W' d := by
  unfold RgD
  rw [f 0 (by decide), f 1 (by decide), f 2 (by decide), f 3 (by decide), f 4 (by decide), f 5 (by decide)]
  exact h
theorem RgD.mo {np nd np' nd' d : Nat} (h : RgD np nd W d) (h1 : np ≤ np') (h2 : nd ≤ nd') : RgD np' nd' W d := by
  obtain ⟨⟨j, a1, a2⟩, a3, a4, a5, a6, a7⟩ := h
  refine ⟨⟨j, by omega, a2⟩, a3, a4, a5, ?_, a7⟩
  rcases a6 with z | ⟨k, z1, z2⟩
  · exact Or.inl z
  · exact Or.inr ⟨k, by omega, z2⟩
theorem RgF.eq {W' : Nat → Int32} (h : RgF W) (f : ∀ k, k < 9 → 2 ≤ k → W' k = W k) : RgF W' := by
  unfold RgF
  rw [f 2 (by decide) (by decide), f 4 (by decide) (by decide), f 5 (by decide) (by decide), f 6 (by decide) (by decide), f 7 (by decide) (by decide), f 8 (by decide) (by decide)]
  exact h
theorem Rg.of {np nd : Nat} (h1 : np ≤ 6) (h2 : nd ≤ 12) (h3 : W 0 = nI np) (h4 : W 1 = nI nd) (h5 : RgF W) (h6 : ∀ p, p < np → RgP W p) (h7 : ∀ d, d < nd → RgD np nd W d) : Rg W := by
  obtain ⟨w, e0, e1⟩ := WOk.of h1 h2 h3 h4
  refine ⟨w, h5, fun p hp => h6 p (by omega), fun d hd => ?_⟩
  rw [e0, e1]
  exact h7 d (by omega)
theorem Rg.so (h : Rg W) : SO (dn W) (pn W) W := by
  obtain ⟨⟨h1, h2, h3, h4⟩, ⟨-, -, -, -, ⟨k7, k71, k79, k7e⟩, -⟩, -, h7⟩ := h
  refine ⟨h2, h1, h4, h3, fun d hd => (h7 d hd).2.2.2.2.1, fun d hd => (h7 d hd).1, fun d hd => ?_, fun z => ?_⟩
  · rcases (h7 d hd).2.2.2.1 with z | ⟨k, z1, z2⟩
    · exact Or.inl z
    · exact Or.inr ⟨k, by omega, z2⟩
  · rw [k7e] at z
    have := (nI_eq0 (a := k7) (by omega)).mp z
    omega
theorem Rg.fr (h : Rg W) : FrW (pn W) W := fun p hp => by
  obtain ⟨k, k1, k2⟩ := (h.2.2.1 p hp).2
  exact ⟨k, k1, k2⟩
theorem nm_rg {l m : Nat} (hm : m < 2 ^ 31) (hl : l ≤ m) (h : ¬ nm T e b (nI l) (nI m) = -1) : Nc (nm T e b (nI l) (nI m)) l m := by
  obtain ⟨h1, h2, -, -⟩ := nm_in h
  generalize nm T e b (nI l) (nI m) = v at h1 h2 ⊢
  rw [Int32.le_iff_toInt_le, nI_toInt (by omega)] at h1 h2
  refine ⟨v.toInt.toNat, by omega, by omega, ?_⟩
  rw [← Int32.toInt_inj, nI_toInt (by omega)]
  omega
theorem Nc.nb {x : Int32} {l m : Nat} (h : Nc x l m) : Nb x m := by
  obtain ⟨k, -, k2, k3⟩ := h
  exact ⟨k, k2, k3⟩
theorem nbP_in {k : Nat} {lo hi : Int32} (h : ¬ (nbP T e k lo hi b).1 = -1) : (nbP T e k lo hi b).1 = nm T e (nx T e b) lo hi ∧ ¬ nm T e (nx T e b) lo hi = -1 := by
  unfold nbP at h ⊢
  by_cases c : isWd T e b k = true
  · rw [if_pos c] at h ⊢
    by_cases c2 : nm T e (nx T e b) lo hi = -1
    · rw [if_pos c2] at h
      exact absurd rfl h
    · rw [if_neg c2]
      exact ⟨rfl, c2⟩
  · rw [if_neg c] at h
    exact absurd rfl h
theorem optP_in {k : Nat} {lo hi d : Int32} (h : (optP T e k lo hi d b).1 = true) : (optP T e k lo hi d b).2.1 = d ∨ ((optP T e k lo hi d b).2.1 = nm T e (nx T e b) lo hi ∧ ¬ nm T e (nx T e b) lo hi = -1) := by
  unfold optP at h ⊢
  by_cases c : isWd T e b k = true
  · rw [if_pos c] at h ⊢
    by_cases c2 : nm T e (nx T e b) lo hi = -1
    · rw [if_pos c2] at h
      cases h
    · rw [if_neg c2]
      exact Or.inr ⟨rfl, c2⟩
  · rw [if_neg c]
    exact Or.inl rfl
theorem addPs_rg (h : Rg W) (h6 : ¬ W 0 = 6) {x y : Int32} (hx : Nb x 15) (hy : Nb y 9) : Rg (addPs W x y) := by
  obtain ⟨⟨h1, h2, h3, h4⟩, hf, hp, hd⟩ := h
  have n6 : pn W ≠ 6 := fun z => h6 (by rw [h3, z]; rfl)
  have e : ∀ k, k ≠ 0 → k ≠ 11 + 2 * pn W → k ≠ 11 + 2 * pn W + 1 → addPs W x y k = W k := fun k z0 z1 z2 => by
    show ud (ud (ud W (11 + 2 * pn W) x) (11 + 2 * pn W + 1) y) 0 (nI (pn W + 1)) k = _
    rw [ud_ne z0, ud_ne z2, ud_ne z1]
  refine Rg.of (np := pn W + 1) (nd := dn W) (by omega) h2 ud_at ((e 1 (by decide) (by omega) (by omega)).trans h4) (hf.eq fun k z1 z2 => e k (by omega) (by omega) (by omega)) (fun p z => ?_) (fun d z => ?_)
  · by_cases c : p = pn W
    · subst c
      refine ⟨?_, ?_⟩
      · rw [show addPs W x y (11 + 2 * pn W) = x by show ud (ud (ud W (11 + 2 * pn W) x) (11 + 2 * pn W + 1) y) 0 (nI (pn W + 1)) _ = _; rw [ud_ne (by omega), ud_ne (by omega), ud_at]]
        exact hx
      · rw [show addPs W x y (11 + 2 * pn W + 1) = y by show ud (ud (ud W (11 + 2 * pn W) x) (11 + 2 * pn W + 1) y) 0 (nI (pn W + 1)) _ = _; rw [ud_ne (by omega), ud_at]]
        exact hy
    · exact (hp p (by omega)).eq (e _ (by omega) (by omega) (by omega)) (e _ (by omega) (by omega) (by omega))
  · exact ((hd d z).eq fun k hk => e _ (by omega) (by omega) (by omega)).mo (by omega) (Nat.le_refl _)
theorem addDt_rg (h : Rg W) (h12 : ¬ W 1 = 12) {o l a t n : Int32} (ho : ∃ j, j < pn W ∧ o = nI j) (hl : Nc l 1 99) (ha : Nb a 99) (ht : t = -1 ∨ Nb t 5) (hn : n = -1 ∨ ∃ k, k < dn W ∧ n = nI k) : Rg (addDt W o l a t n) := by
  obtain ⟨⟨h1, h2, h3, h4⟩, hf, hp, hd⟩ := h
  have n12 : dn W ≠ 12 := fun z => h12 (by rw [h4, z]; rfl)
  have e : ∀ k, k ≠ 1 → (∀ i, i < 6 → k ≠ 23 + 6 * dn W + i) → addDt W o l a t n k = W k := fun k z0 z => by
    have z1 := z 0 (by decide)
    have z2 := z 1 (by decide)
    have z3 := z 2 (by decide)
    have z4 := z 3 (by decide)
    have z5 := z 4 (by decide)
    have z6 := z 5 (by decide)
    unfold addDt
    rw [ud_ne z0, ud_ne z6, ud_ne z5, ud_ne z4, ud_ne z3, ud_ne z2, ud_ne z1]
  refine Rg.of (np := pn W) (nd := dn W + 1) h1 (by omega) ((e 0 (by decide) (fun i hi => by omega)).trans h3) ud_at (hf.eq fun k z1 z2 => e k (by omega) (fun i hi => by omega)) (fun p z => ?_) (fun d z => ?_)
  · exact (hp p z).eq (e _ (by omega) (fun i hi => by omega)) (e _ (by omega) (fun i hi => by omega))
  · by_cases c : d = dn W
    · subst c
      have f0 : addDt W o l a t n (23 + 6 * dn W + 0) = o := by unfold addDt; rw [ud_ne (by omega), ud_ne (by omega), ud_ne (by omega), ud_ne (by omega), ud_ne (by omega), ud_ne (by omega), ud_at]
      have f1 : addDt W o l a t n (23 + 6 * dn W + 1) = l := by unfold addDt; rw [ud_ne (by omega), ud_ne (by omega), ud_ne (by omega), ud_ne (by omega), ud_ne (by omega), ud_at]
      have f2 : addDt W o l a t n (23 + 6 * dn W + 2) = a := by unfold addDt; rw [ud_ne (by omega), ud_ne (by omega), ud_ne (by omega), ud_ne (by omega), ud_at]
      have f3 : addDt W o l a t n (23 + 6 * dn W + 3) = t := by unfold addDt; rw [ud_ne (by omega), ud_ne (by omega), ud_ne (by omega), ud_at]
      have f4 : addDt W o l a t n (23 + 6 * dn W + 4) = n := by unfold addDt; rw [ud_ne (by omega), ud_ne (by omega), ud_at]
      have f5 : addDt W o l a t n (23 + 6 * dn W + 5) = 0 := by unfold addDt; rw [ud_ne (by omega), ud_at]
      unfold RgD
      rw [f0, f1, f2, f3, f4, f5]
      obtain ⟨k, k1, k2, k3⟩ := hl
      refine ⟨ho, ⟨k, k2, k3, ⟨fun z => absurd z (by decide), fun z => by omega⟩⟩, ha, ht, ?_, ⟨0, by decide, rfl⟩⟩
      rcases hn with z | ⟨k, z1, z2⟩
      · exact Or.inl z
      · exact Or.inr ⟨k, by omega, z2⟩
    · exact ((hd d (by omega)).eq fun k hk => e _ (by omega) (fun i hi => by omega)).mo (Nat.le_refl _) (by omega)
theorem perP_rg (h : Rg W) (hz : (perP T e b W).1 = true) : Rg (perP T e b W).2.2 := by
  unfold perP at hz ⊢
  by_cases c : W 0 = 6
  · rw [if_pos c] at hz
    cases hz
  rw [if_neg c] at hz ⊢
  unfold perB at hz ⊢
  by_cases c2 : (nbP T e 1 0 15 (nx T e b)).1 = -1
  · rw [if_pos c2] at hz
    cases hz
  rw [if_neg c2] at hz ⊢
  unfold perC at hz ⊢
  by_cases c3 : (nbP T e 2 0 9 (nbP T e 1 0 15 (nx T e b)).2).1 = -1
  · rw [if_pos c3] at hz
    cases hz
  rw [if_neg c3] at hz ⊢
  obtain ⟨i1, i2⟩ := nbP_in c2
  obtain ⟨j1, j2⟩ := nbP_in c3
  refine addPs_rg h c ?_ ?_
  · rw [i1]
    exact Nc.nb (nm_rg (l := 0) (m := 15) (by decide) (by decide) i2)
  · rw [j1]
    exact Nc.nb (nm_rg (l := 0) (m := 9) (by decide) (by decide) j2)
theorem dutP_rg (h : Rg W) (hz : (dutP T e b W).1 = true) : Rg (dutP T e b W).2.2 := by
  have hw := h.1
  unfold dutP at hz ⊢
  by_cases c : W 1 = 12
  · rw [if_pos c] at hz
    cases hz
  rw [if_neg c] at hz ⊢
  have i1 := nbP_in (T := T) (e := e) (b := nx T e b) (k := 4) (lo := 0) (hi := W 0 - 1)
  have i2 := nm_ix (T := T) (e := e) (b := nx T e (nx T e b)) (n := pn W) (by have := hw.1; omega)
  rw [← hw.2.2.1] at i2
  generalize nbP T e 4 0 (W 0 - 1) (nx T e b) = x at hz i1 ⊢
  unfold duA at hz ⊢
  by_cases c2 : x.1 = -1
  · rw [if_pos c2] at hz
    cases hz
  rw [if_neg c2] at hz ⊢
  obtain ⟨i3, i4⟩ := i1 c2
  have j1 := nbP_in (T := T) (e := e) (b := x.2) (k := 5) (lo := 1) (hi := 99)
  have j2 := nm_rg (T := T) (e := e) (b := nx T e x.2) (l := 1) (m := 99) (by decide) (by decide)
  generalize nbP T e 5 1 99 x.2 = y at hz j1 ⊢
  unfold duB at hz ⊢
  by_cases c3 : y.1 = -1
  · rw [if_pos c3] at hz
    cases hz
  rw [if_neg c3] at hz ⊢
  obtain ⟨j3, j4⟩ := j1 c3
  have k1 := optP_in (T := T) (e := e) (b := y.2) (k := 6) (lo := 0) (hi := 99) (d := 0)
  have k2 := nm_rg (T := T) (e := e) (b := nx T e y.2) (l := 0) (m := 99) (by decide) (by decide)
  generalize optP T e 6 0 99 0 y.2 = u at hz k1 ⊢
  unfold duC at hz ⊢
  by_cases c4 : u.1 = true
  rotate_left
  · rw [if_neg c4] at hz
    cases hz
  rw [if_pos c4] at hz ⊢
  have l1 := optP_in (T := T) (e := e) (b := u.2.2) (k := 7) (lo := 0) (hi := 5) (d := -1)
  have l2 := nm_rg (T := T) (e := e) (b := nx T e u.2.2) (l := 0) (m := 5) (by decide) (by decide)
  generalize optP T e 7 0 5 (-1) u.2.2 = v at hz l1 ⊢
  unfold duD at hz ⊢
  by_cases c5 : v.1 = true
  rotate_left
  · rw [if_neg c5] at hz
    cases hz
  rw [if_pos c5] at hz ⊢
  have m1 := optP_in (T := T) (e := e) (b := v.2.2) (k := 8) (lo := 0) (hi := W 1 - 1) (d := -1)
  have m2 := nm_ix (T := T) (e := e) (b := nx T e v.2.2) (n := dn W) hw.2.1
  rw [← hw.2.2.2] at m2
  generalize optP T e 8 0 (W 1 - 1) (-1) v.2.2 = w at hz m1 ⊢
  unfold duE at hz ⊢
  by_cases c6 : w.1 = true
  rotate_left
  · rw [if_neg c6] at hz
    cases hz
  rw [if_pos c6] at hz ⊢
  refine addDt_rg h c ?_ ?_ ?_ ?_ ?_
  · rw [i3]
    exact i2 i4
  · rw [j3]
    exact j2 j4
  · rcases k1 c4 with z | ⟨z1, z2⟩
    · exact ⟨0, by decide, z⟩
    · rw [z1]
      exact Nc.nb (k2 z2)
  · rcases l1 c5 with z | ⟨z1, z2⟩
    · exact Or.inl z
    · rw [z1]
      exact Or.inr (Nc.nb (l2 z2))
  · rcases m1 c6 with z | ⟨z1, z2⟩
    · exact Or.inl z
    · rw [z1]
      exact Or.inr (m2 z2)
theorem forP_rg (h : Rg W) (hz : (forP T e b W).1 = true) : Rg (forP T e b W).2.2 := by
  unfold forP at hz ⊢
  by_cases c : nm T e b 0 (W 1 - 1) = -1
  · rw [if_pos c] at hz
    cases hz
  rw [if_neg c] at hz ⊢
  obtain ⟨⟨h1, h2, h3, h4⟩, hf, hp, hd⟩ := h
  obtain ⟨j, hj, ej⟩ := nm_ix h2 (by rw [← h4]; exact c)
  rw [← h4] at ej
  rw [ej, nI_clamp (by omega)] at hz ⊢
  by_cases c2 : W (23 + 6 * j + 5) = 0
  rotate_left
  · rw [if_neg c2] at hz
    cases hz
  rw [if_pos c2] at hz ⊢
  have e : ∀ k, k ≠ 23 + 6 * j + 5 → ud W (23 + 6 * j + 5) 2 k = W k := fun k hk => ud_ne hk
  refine Rg.of h1 h2 ((e 0 (by omega)).trans h3) ((e 1 (by omega)).trans h4) (hf.eq fun k z1 z2 => e k (by omega)) (fun p z => (hp p z).eq (e _ (by omega)) (e _ (by omega))) (fun d z => ?_)
  by_cases cd : d = j
  · subst cd
    obtain ⟨a1, ⟨l, a2, a3, a4⟩, a5, a6, a7, a8⟩ := hd d hj
    show RgD (pn W) (dn W) (ud W (23 + 6 * d + 5) 2) d
    unfold RgD
    rw [e (23 + 6 * d + 0) (by omega), e (23 + 6 * d + 1) (by omega), e (23 + 6 * d + 2) (by omega), e (23 + 6 * d + 3) (by omega), e (23 + 6 * d + 4) (by omega)]
    show _ ∧ (∃ l, l ≤ 99 ∧ _ ∧ (ud W (23 + 6 * d + 5) 2 (23 + 6 * d + 5) = 1 ↔ l = 0)) ∧ _ ∧ _ ∧ _ ∧ Nb (ud W (23 + 6 * d + 5) 2 (23 + 6 * d + 5)) 2
    rw [ud_at]
    refine ⟨a1, ⟨l, a2, a3, ⟨fun z => absurd z (by decide), fun z => ?_⟩⟩, a5, a6, a7, ⟨2, Nat.le_refl _, rfl⟩⟩
    have := a4.mpr z
    rw [c2] at this
    exact absurd this (by decide)
  · exact (hd d z).eq fun k hk => e _ (by omega)
theorem setP_rg (h : Rg W) {g : Nat} {l m : Nat} (hm : m < 2 ^ 31) (hl : l ≤ m) (hg : 2 ≤ g) (hg2 : g < 9) (hr : ∀ v, Nc v l m → RgF (ud W g v)) (hz : (setP T e b W g (nI l) (nI m)).1 = true) : Rg (setP T e b W g (nI l) (nI m)).2.2 := by
  unfold setP at hz ⊢
  by_cases c : nm T e b (nI l) (nI m) = -1
  · rw [if_pos c] at hz
    cases hz
  rw [if_neg c]
  obtain ⟨⟨h1, h2, h3, h4⟩, hf, hp, hd⟩ := h
  have e : ∀ k, k ≠ g → ud W g (nm T e b (nI l) (nI m)) k = W k := fun k hk => ud_ne hk
  exact Rg.of h1 h2 ((e 0 (by omega)).trans h3) ((e 1 (by omega)).trans h4) (hr _ (nm_rg hm hl c)) (fun p z => (hp p z).eq (e _ (by omega)) (e _ (by omega))) (fun d z => (hd d z).eq fun k hk => e _ (by omega))
theorem stgP_rg (h : Rg W) (hz : (stgP T e b W).1 = true) : Rg (stgP T e b W).2.2 := by
  obtain ⟨f2, f4, f5, f6, f7, f8⟩ := h.2.1
  have u : ∀ {g k : Nat} {v : Int32}, k ≠ g → ud W g v k = W k := fun z => ud_ne z
  unfold stgP at hz ⊢
  by_cases c : isWd T e b 10 = true
  · rw [if_pos c] at hz ⊢
    refine setP_rg (l := 0) (m := 100) h (by decide) (by decide) (by decide) (by decide) (fun v hv => ?_) hz
    unfold RgF
    rw [u (show 2 ≠ 6 by decide), u (show 4 ≠ 6 by decide), u (show 5 ≠ 6 by decide), ud_at, u (show 7 ≠ 6 by decide), u (show 8 ≠ 6 by decide)]
    exact ⟨f2, f4, f5, Nc.nb hv, f7, f8⟩
  rw [if_neg c] at hz ⊢
  by_cases c : isWd T e b 11 = true
  · rw [if_pos c] at hz ⊢
    refine setP_rg (l := 1) (m := 9) h (by decide) (by decide) (by decide) (by decide) (fun v hv => ?_) hz
    unfold RgF
    rw [u (show 2 ≠ 7 by decide), u (show 4 ≠ 7 by decide), u (show 5 ≠ 7 by decide), u (show 6 ≠ 7 by decide), ud_at, u (show 8 ≠ 7 by decide)]
    exact ⟨f2, f4, f5, f6, hv, f8⟩
  rw [if_neg c] at hz ⊢
  by_cases c : isWd T e b 12 = true
  · rw [if_pos c] at hz ⊢
    refine setP_rg (l := 0) (m := 50) h (by decide) (by decide) (by decide) (by decide) (fun v hv => ?_) hz
    unfold RgF
    rw [u (show 2 ≠ 8 by decide), u (show 4 ≠ 8 by decide), u (show 5 ≠ 8 by decide), u (show 6 ≠ 8 by decide), u (show 7 ≠ 8 by decide), ud_at]
    exact ⟨f2, f4, f5, f6, f7, Nc.nb hv⟩
  rw [if_neg c] at hz ⊢
  by_cases c : isWd T e b 13 = true
  · rw [if_pos c] at hz ⊢
    refine setP_rg (l := 1) (m := 30) h (by decide) (by decide) (by decide) (by decide) (fun v hv => ?_) hz
    unfold RgF
    rw [u (show 2 ≠ 4 by decide), ud_at, u (show 5 ≠ 4 by decide), u (show 6 ≠ 4 by decide), u (show 7 ≠ 4 by decide), u (show 8 ≠ 4 by decide)]
    exact ⟨f2, hv, f5, f6, f7, f8⟩
  rw [if_neg c] at hz ⊢
  by_cases c : isWd T e b 14 = true
  · rw [if_pos c] at hz ⊢
    refine setP_rg (l := 0) (m := 999) h (by decide) (by decide) (by decide) (by decide) (fun v hv => ?_) hz
    unfold RgF
    rw [u (show 2 ≠ 5 by decide), u (show 4 ≠ 5 by decide), ud_at, u (show 6 ≠ 5 by decide), u (show 7 ≠ 5 by decide), u (show 8 ≠ 5 by decide)]
    obtain ⟨k, k1, k2, k3⟩ := hv
    exact ⟨f2, f4, ⟨k, by omega, k3⟩, f6, f7, f8⟩
  rw [if_neg c] at hz
  cases hz
theorem linP_rg (h : Rg W) (hz : (linP T e b W).1 = true) : Rg (linP T e b W).2.2 := by
  unfold linP at hz ⊢
  by_cases c : isWd T e b 0 = true
  · rw [if_pos c] at hz ⊢; exact perP_rg h hz
  rw [if_neg c] at hz ⊢
  by_cases c : isWd T e b 3 = true
  · rw [if_pos c] at hz ⊢; exact dutP_rg h hz
  rw [if_neg c] at hz ⊢
  by_cases c : isWd T e b 9 = true
  · rw [if_pos c] at hz ⊢; exact forP_rg h hz
  rw [if_neg c] at hz ⊢
  exact stgP_rg h hz
theorem strsP_rg : ∀ (f b : Nat) (W : Nat → Int32), Rg W → (strsP T e f b W).1 = true → Rg (strsP T e f b W).2.2 := by
  intro f
  induction f with
  | zero => exact fun b W h hz => by cases hz
  | succ f ih =>
    intro b W h hz
    rw [strsP_s] at hz ⊢
    have hl := linP_rg (T := T) (e := e) (b := b) h
    generalize linP T e b W = r at hz hl ⊢
    by_cases c1 : r.1 = true
    · rw [if_pos c1] at hz ⊢
      by_cases c2 : r.2.1 < e
      · rw [if_pos c2] at hz ⊢
        by_cases c3 : sg T e r.2.1 59 = true
        · rw [if_pos c3] at hz ⊢
          exact ih _ _ (hl c1) hz
        · rw [if_neg c3] at hz
          cases hz
      · rw [if_neg c2]
        exact hl c1
    · rw [if_neg c1] at hz
      cases hz
theorem strP_rg (h : Rg W) (hz : (strP T e W).1 = true) : Rg (strP T e W).2.2 := by
  unfold strP at hz ⊢
  by_cases c : bg T e 0 < e
  · rw [if_pos c] at hz ⊢
    exact strsP_rg _ _ _ h hz
  · rw [if_neg c]
    exact h
end P79p
end
section
/-! ===== street, whole, on both sides ===== -/
section T79q
variable {S : aS} {I : Nat → Nat → Int32} {L : Nat → Nat → Int64} {w1 w2 t : Nat} {e b : Nat} {T W : Nat → Int32}
set_option maxRecDepth 100000
theorem perP_2 (hz : (perP T e b W).1 = true) : (perP T e b W).2.2 2 = W 2 := by
  unfold perP at hz ⊢
  by_cases c : W 0 = 6
  · rw [if_pos c] at hz
    cases hz
  rw [if_neg c] at hz ⊢
  generalize nbP T e 1 0 15 (nx T e b) = x at hz ⊢
  unfold perB at hz ⊢
  by_cases c2 : x.1 = -1
  · rw [if_pos c2] at hz
    cases hz
  rw [if_neg c2] at hz ⊢
  generalize nbP T e 2 0 9 x.2 = y at hz ⊢
  unfold perC at hz ⊢
  by_cases c3 : y.1 = -1
  · rw [if_pos c3] at hz
    cases hz
  rw [if_neg c3]
  show ud (ud (ud W (11 + 2 * pn W) x.1) (11 + 2 * pn W + 1) y.1) 0 (nI (pn W + 1)) 2 = W 2
  rw [ud_ne (by decide), ud_ne (by omega), ud_ne (by omega)]
theorem addDt_2 {o l a t n : Int32} : addDt W o l a t n 2 = W 2 := by
  unfold addDt
  rw [ud_ne (by decide), ud_ne (by omega), ud_ne (by omega), ud_ne (by omega), ud_ne (by omega), ud_ne (by omega), ud_ne (by omega)]
theorem dutP_2 (hz : (dutP T e b W).1 = true) : (dutP T e b W).2.2 2 = W 2 := by
  unfold dutP at hz ⊢
  by_cases c : W 1 = 12
  · rw [if_pos c] at hz
    cases hz
  rw [if_neg c] at hz ⊢
  generalize nbP T e 4 0 (W 0 - 1) (nx T e b) = x at hz ⊢
  unfold duA at hz ⊢
  by_cases c2 : x.1 = -1
  · rw [if_pos c2] at hz
    cases hz
  rw [if_neg c2] at hz ⊢
  generalize nbP T e 5 1 99 x.2 = y at hz ⊢
  unfold duB at hz ⊢
  by_cases c3 : y.1 = -1
  · rw [if_pos c3] at hz
    cases hz
  rw [if_neg c3] at hz ⊢
  generalize optP T e 6 0 99 0 y.2 = u at hz ⊢
  unfold duC at hz ⊢
  by_cases c4 : u.1 = true
  rotate_left
  · rw [if_neg c4] at hz
    cases hz
  rw [if_pos c4] at hz ⊢
  generalize optP T e 7 0 5 (-1) u.2.2 = v at hz ⊢
  unfold duD at hz ⊢
  by_cases c5 : v.1 = true
  rotate_left
  · rw [if_neg c5] at hz
    cases hz
  rw [if_pos c5] at hz ⊢
  generalize optP T e 8 0 (W 1 - 1) (-1) v.2.2 = w at hz ⊢
  unfold duE at hz ⊢
  by_cases c6 : w.1 = true
  rotate_left
  · rw [if_neg c6] at hz
    cases hz
  rw [if_pos c6]
  exact addDt_2 (t := v.2.1) (n := w.2.1)
theorem forP_2 (hz : (forP T e b W).1 = true) : (forP T e b W).2.2 2 = W 2 := by
  unfold forP at hz ⊢
  by_cases c : nm T e b 0 (W 1 - 1) = -1
  · rw [if_pos c] at hz
    cases hz
  rw [if_neg c] at hz ⊢
  by_cases c2 : W (23 + 6 * (nm T e b 0 (W 1 - 1)).toNatClampNeg + 5) = 0
  · rw [if_pos c2]
    show ud W (23 + 6 * (nm T e b 0 (W 1 - 1)).toNatClampNeg + 5) 2 2 = W 2
    exact ud_ne (by omega)
  · rw [if_neg c2] at hz
    cases hz
theorem setP_2 {g : Nat} {lo hi : Int32} (hg : 2 < g) (hz : (setP T e b W g lo hi).1 = true) : (setP T e b W g lo hi).2.2 2 = W 2 := by
  unfold setP at hz ⊢
  by_cases c : nm T e b lo hi = -1
  · rw [if_pos c] at hz
    cases hz
  rw [if_neg c]
  exact ud_ne (by omega)
theorem stgP_2 (hz : (stgP T e b W).1 = true) : (stgP T e b W).2.2 2 = W 2 := by
  unfold stgP at hz ⊢
  by_cases c : isWd T e b 10 = true
  · rw [if_pos c] at hz ⊢; exact setP_2 (by decide) hz
  rw [if_neg c] at hz ⊢
  by_cases c : isWd T e b 11 = true
  · rw [if_pos c] at hz ⊢; exact setP_2 (by decide) hz
  rw [if_neg c] at hz ⊢
  by_cases c : isWd T e b 12 = true
  · rw [if_pos c] at hz ⊢; exact setP_2 (by decide) hz
  rw [if_neg c] at hz ⊢
  by_cases c : isWd T e b 13 = true
  · rw [if_pos c] at hz ⊢; exact setP_2 (by decide) hz
  rw [if_neg c] at hz ⊢
  by_cases c : isWd T e b 14 = true
  · rw [if_pos c] at hz ⊢; exact setP_2 (by decide) hz
  rw [if_neg c] at hz
  cases hz
theorem linP_2 (hz : (linP T e b W).1 = true) : (linP T e b W).2.2 2 = W 2 := by
  unfold linP at hz ⊢
  by_cases c : isWd T e b 0 = true
  · rw [if_pos c] at hz ⊢; exact perP_2 hz
  rw [if_neg c] at hz ⊢
  by_cases c : isWd T e b 3 = true
  · rw [if_pos c] at hz ⊢; exact dutP_2 hz
  rw [if_neg c] at hz ⊢
  by_cases c : isWd T e b 9 = true
  · rw [if_pos c] at hz ⊢; exact forP_2 hz
  rw [if_neg c] at hz ⊢
  exact stgP_2 hz
theorem strsP_2 : ∀ (f b : Nat) (W : Nat → Int32), (strsP T e f b W).1 = true → (strsP T e f b W).2.2 2 = W 2 := by
  intro f
  induction f with
  | zero => exact fun b W hz => by cases hz
  | succ f ih =>
    intro b W hz
    rw [strsP_s] at hz ⊢
    have hl := linP_2 (T := T) (e := e) (b := b) (W := W)
    generalize linP T e b W = r at hz hl ⊢
    by_cases c1 : r.1 = true
    · rw [if_pos c1] at hz ⊢
      by_cases c2 : r.2.1 < e
      · rw [if_pos c2] at hz ⊢
        by_cases c3 : sg T e r.2.1 59 = true
        · rw [if_pos c3] at hz ⊢
          exact (ih _ _ hz).trans (hl c1)
        · rw [if_neg c3] at hz
          cases hz
      · rw [if_neg c2]
        exact hl c1
    · rw [if_neg c1] at hz
      cases hz
theorem strP_2 (hz : (strP T e W).1 = true) : (strP T e W).2.2 2 = W 2 := by
  unfold strP at hz ⊢
  by_cases c : bg T e 0 < e
  · rw [if_pos c] at hz ⊢
    exact strsP_2 _ _ _ hz
  · rw [if_neg c]
theorem strsP_ok : ∀ (f b : Nat) (W : Nat → Int32), WOk W → (strsP T e f b W).1 = true → WOk (strsP T e f b W).2.2 := by
  intro f
  induction f with
  | zero => exact fun b W _ hz => by cases hz
  | succ f ih =>
    intro b W h hz
    rw [strsP_s] at hz ⊢
    have hl := linP_ok (T := T) (e := e) (b := b) h
    generalize linP T e b W = r at hz hl ⊢
    by_cases c1 : r.1 = true
    · rw [if_pos c1] at hz ⊢
      by_cases c2 : r.2.1 < e
      · rw [if_pos c2] at hz ⊢
        by_cases c3 : sg T e r.2.1 59 = true
        · rw [if_pos c3] at hz ⊢
          exact ih _ _ (hl c1) hz
        · rw [if_neg c3] at hz
          cases hz
      · rw [if_neg c2]
        exact hl c1
    · rw [if_neg c1] at hz
      cases hz
theorem strP_ok (h : WOk W) (hz : (strP T e W).1 = true) : WOk (strP T e W).2.2 := by
  unfold strP at hz ⊢
  by_cases c : bg T e 0 < e
  · rw [if_pos c] at hz ⊢
    exact strsP_ok _ _ _ h hz
  · rw [if_neg c]
    exact h
theorem Sd.cp {a b m : Nat} (h : Sd I b W) (hm : 9 ≤ m) : Sd (cpS I a b m) a W := by
  obtain ⟨h1, h2, h3⟩ := h
  refine ⟨fun x hx => ?_, fun p hp => ?_, fun d hd k hk => ?_⟩
  · rw [cpS_in0 (by omega)]
    exact h1 x hx
  · rw [cpS_in (i := 1) (by omega), cpS_in (i := 2) (by omega)]
    exact h2 p hp
  · rw [show a + 3 + k = a + (3 + k) by omega, cpS_in (i := 3 + k) (by omega), show b + (3 + k) = b + 3 + k by omega]
    exact h3 d hd k hk
/-- what street may change in the class -/
def sJ (q k : Nat) : Bool := sO q k || ((Nat.beq q 200 && (Nat.beq k 3 || Nat.beq k 13)) || ((Nat.beq q 201 && Nat.beq k 1) || (Nat.ble 235 q && Nat.ble q 243)))
theorem sO_sJ : ∀ q k, sO q k = true → sJ q k = true := fun q k h => by
  unfold sJ
  rw [h]
  rfl
theorem sJ_hi {q k : Nat} (h : 244 ≤ q) : sJ q k = false := by
  have e1 : Nat.ble q 217 = false := by
    cases hb : Nat.ble q 217 with
    | false => rfl
    | true => exact absurd (Nat.le_of_ble_eq_true hb) (by omega)
  have e2 : Nat.ble q 243 = false := by
    cases hb : Nat.ble q 243 with
    | false => rfl
    | true => exact absurd (Nat.le_of_ble_eq_true hb) (by omega)
  simp [sJ, sO, e1, e2, beqF (show q ≠ 200 by omega), beqF (show q ≠ 201 by omega)]
theorem CI.st {J : Nat → Nat → Int32} (h : CI I) (f : Fm sJ I J) (k : Dk J) (k2 : ∃ nd, nd ≤ 12 ∧ J 235 3 = nI nd) : CI J := fun a ha h2 => by
  by_cases c1 : a = 209
  · rw [c1]
    exact k
  · by_cases c2 : a = 235
    · rw [c2]
      exact k2
    · rw [f a 3 (sJ_hi (by simp only [stp, stps, List.mem_cons, List.not_mem_nil, or_false] at ha; omega))]
      exact h a ha h2
theorem f_streetC (hw : WdS S) (he : I 201 1 = nI e) (h4 : e ≤ 400) (hbt : BtT T) (hT : I 202 = T) (hm : I 203 1 = 14) (hci : CI I) (hD : Sd I 235 W) (hW : WOk W) (h2 : ∃ k, k ≤ 12 ∧ W 2 = nI k) : Sp S m_X11_street 21 1 6 [.ref 200] (hp I L w1 w2 t) (fun v h' => v = some (.int (W 2 + 1)) ∧ (strP T e W).1 = true ∧ ¬ W 2 = 12 ∧ ∃ J w, h' = hp J L w w2 t ∧ WK w ∧ CI J ∧ Fm sJ I J ∧ J 201 1 = 0 ∧ J 200 3 = -1 ∧ J 200 13 = 0 ∧ Sd J 235 (ud (strP T e W).2.2 2 (W 2 + 1))) (fun E h' => ∃ J w, h' = hp J L w w2 0 ∧ WK w ∧ CI J ∧ Fm sJ I J ∧ J 201 1 = 0 ∧ J 200 13 = I 200 13 ∧ Sd J 235 W ∧ ((E = exN 1 ∧ (strP T e W).1 = false ∧ J 200 3 = nI (strP T e W).2.1) ∨ (E = exN 3 ∧ (strP T e W).1 = true ∧ W 2 = 12 ∧ J 200 3 = -1))) := by
  obtain ⟨tx, tx12, etx⟩ := h2
  refine Sp_of ok_X11_street rfl rfl ?_
  show AW S m_X11_street 21 _ _ 1 6 0 [some (.ref 200)] [] (hp I L w1 w2 t)
  refine a_l0 rfl rfl rfl ?_
  refine a_getq rfl gfX11_19_11 rfl (rfl) ?_
  refine a_getq rfl gfX11_75_6 rfl (rfl) ?_
  refine a_l0 rfl rfl rfl ?_
  refine a_getq rfl gfX11_37_11 rfl (rfl) ?_
  refine a_eV0 rfl lX11_78 mo_X5_copyFrom (sp_X5_copyFrom (a := 209) (b := 235) (by decide) (by decide) (by decide)) rfl rfl rfl ⟨5, _, rfl, rfl, rfl⟩ rfl ?_
  refine a_l0 rfl rfl rfl ?_
  refine a_l0 rfl rfl rfl ?_
  refine a_getq rfl gfX11_19_11 rfl (rfl) ?_
  refine a_l0 rfl rfl rfl ?_
  refine a_getq rfl gfX11_10_11 rfl (rfl) ?_
  have g1 : ∀ q, ¬ (209 ≤ q ∧ q < 209 + 9) → cpS I 209 235 9 q = I q := fun q hq => cpS_out hq
  refine a_callU rfl lu_82 dc_readLines mo_X8_readLines hx_rl (s_readLines hw ((congrFun (g1 201 (by decide)) 1).trans he) h4 (by rw [g1 202 (by decide), hT]; exact hbt) ((congrFun (g1 203 (by decide)) 1).trans hm) (Sd.cp hD (Nat.le_refl _)) hW) rfl rfl rfl ⟨6, _, rfl, rfl, rfl⟩ rfl (fun v' h' hv => ?_) (fun _ _ z => False.elim z)
  rw [g1 202 (by decide), hT] at hv
  obtain ⟨rfl, J, w, rfl, hww, hle, hF, hk, hy⟩ := hv
  have fJ : Fm sJ I J := fun q k hq => by
    have hq' : sO q k = false := by
      cases hb : sO q k with
      | false => rfl
      | true => rw [sO_sJ q k hb] at hq; cases hq
    rw [hF q k hq', g1 q (by have := sO_in hq'; omega)]
  have rowJ : ∀ q, 218 ≤ q → J q = I q := fun q hq => by
    rw [show J q = cpS I 209 235 9 q from funext fun k => hF q k (by unfold sO; rw [show Nat.ble q 217 = false by (cases hb : Nat.ble q 217 with | false => rfl | true => exact absurd (Nat.le_of_ble_eq_true hb) (by omega)), Bool.and_false]), g1 q (by omega)]
  have o2 := strP_2 (T := T) (e := e) (W := W)
  have ok2 := strP_ok (T := T) (e := e) hW
  rcases er : strP T e W with ⟨z, b1, W1⟩
  rw [er] at hle hk hy o2 ok2
  have DJ : Sd J 235 W := Sd.eq hD fun q g _ => rowJ q (by omega)
  have r13 : J 200 13 = I 200 13 := (hF 200 13 rfl).trans (congrFun (g1 200 (by decide)) 13)
  cases z with
  | false =>
    refine a_top (y := nI b1) (rfl) ?_
    refine a_puti rfl pfX11_30_11 rfl ?_
    refine a_l0 rfl rfl rfl ?_
    refine a_getq rfl gfX11_10_11 rfl (rfl) ?_
    refine a_s rfl rfl ?_
    refine a_puti rfl pfX11_68_7 rfl ?_
    have fK : Fm sJ I (up2 (up2 J 200 3 (nI b1)) 201 1 0) := Fm.up (Fm.up fJ rfl) rfl
    have e3 : up2 (up2 J 200 3 (nI b1)) 201 1 0 200 3 = nI b1 := (congrFun (up2_row (by decide)) 3).trans up2_at
    have DK : Sd (up2 (up2 J 200 3 (nI b1)) 201 1 0) 235 W := Sd.eq DJ fun q g1 g2 => by rw [up2_row (by omega), up2_row (by omega)]
    refine a_l0 rfl rfl rfl ?_
    refine a_getiv (v := nI b1) rfl gfX11_30_11 rfl (e3) ?_
    refine a_s rfl rfl ?_
    have hb1 : b1 ≤ e := hle
    refine a_ic_eq rfl (fun c => absurd c ?_) (fun _ => ?_)
    · intro z
      have := nI_pos (show b1 < 2 ^ 31 by omega)
      rw [z] at this
      exact this (by decide)
    obtain ⟨nd, n1, n2⟩ := hk rfl
    exact a_throw rfl rfl rfl rfl tX11_iae rfl rfl rfl rfl rfl ⟨_, w, rfl, hww, CI.st hci fK ⟨nd, n1, (congrFun ((up2_row (p := 201) (q := 209) (by decide)).trans (up2_row (p := 200) (q := 209) (by decide))) 3).trans n2⟩ ⟨dn W, hW.2.1, (Sd.fd DK (f := 3) (g := 1) (by decide)).trans hW.2.2.2⟩, fK, up2_at, (congrFun (up2_row (p := 201) (q := 200) (by decide)) 13).trans ((up2_ne (Or.inr (by decide))).trans r13), DK, Or.inl ⟨rfl, rfl, e3⟩⟩
  | true =>
    refine a_top (y := (-1)) (rfl) ?_
    have D1 : Sd J 209 W1 := hy rfl
    have W1k : WOk W1 := ok2 rfl
    have o2 : W1 2 = W 2 := o2 rfl
    refine a_puti rfl pfX11_30_11 rfl ?_
    refine a_l0 rfl rfl rfl ?_
    refine a_getq rfl gfX11_10_11 rfl (rfl) ?_
    refine a_s rfl rfl ?_
    refine a_puti rfl pfX11_68_7 rfl ?_
    generalize hK : up2 (up2 J 200 3 (-1)) 201 1 0 = K
    have fK : Fm sJ I K := by
      subst hK
      exact Fm.up (Fm.up fJ rfl) rfl
    have rK : ∀ q, q ≠ 200 → q ≠ 201 → K q = J q := fun q h1 h2 => by
      subst hK
      rw [up2_row h2, up2_row h1]
    have e3 : K 200 3 = -1 := by
      subst hK
      exact (congrFun (up2_row (by decide)) 3).trans up2_at
    have e1 : K 201 1 = 0 := by
      subst hK
      exact up2_at
    have e13 : K 200 13 = J 200 13 := by
      subst hK
      exact (congrFun (up2_row (by decide)) 13).trans (up2_ne (Or.inr (by decide)))
    have DK : Sd K 235 W := Sd.eq DJ fun q g1 g2 => rK q (by omega) (by omega)
    have DK2 : Sd K 209 W1 := Sd.eq D1 fun q g1 g2 => rK q (by omega) (by omega)
    have d3 : K 209 3 = nI (dn W1) := (Sd.fd DK2 (f := 3) (g := 1) (by decide)).trans W1k.2.2.2
    clear hK
    refine a_l0 rfl rfl rfl ?_
    refine a_getiv (v := (-1)) rfl gfX11_30_11 rfl (e3) ?_
    refine a_s rfl rfl ?_
    refine a_ic_eq rfl (fun _ => ?_) (fun c => absurd rfl c)
    refine a_l0 rfl rfl rfl ?_
    refine a_getq rfl gfX11_37_11 rfl (rfl) ?_
    refine a_getiv (v := nI tx) rfl gfX11_89_5 rfl ((Sd.fd DK (f := 16) (g := 2) (by decide)).trans etx) ?_
    refine a_s rfl rfl ?_
    refine a_ic_lt rfl (fun c => ?_) (fun c => ?_)
    rotate_left
    · have t12 : tx = 12 := by
        have := nI_ge_of (a := tx) (b := 12) (Int32.not_lt.mp c) (by omega) (by decide)
        omega
      exact a_throw rfl rfl rfl rfl tX11_uoe rfl rfl rfl rfl rfl ⟨K, w, rfl, hww, CI.st hci fK ⟨dn W1, W1k.2.1, d3⟩ ⟨dn W, hW.2.1, (Sd.fd DK (f := 3) (g := 1) (by decide)).trans hW.2.2.2⟩, fK, e1, e13.trans r13, DK, Or.inr ⟨rfl, rfl, by rw [etx, t12]; rfl, e3⟩⟩
    have t12 : tx < 12 := nI_lt_of (b := 12) (Int32.not_le.mpr c) (by omega) (by decide)
    refine a_l0 rfl rfl rfl ?_
    refine a_getq rfl gfX11_37_11 rfl (rfl) ?_
    refine a_l0 rfl rfl rfl ?_
    refine a_getq rfl gfX11_19_11 rfl (rfl) ?_
    refine a_getq rfl gfX11_75_6 rfl (rfl) ?_
    refine a_eV0 rfl lX11_78 mo_X5_copyFrom (sp_X5_copyFrom (a := 235) (b := 209) (by decide) (by decide) (by decide)) rfl rfl rfl ⟨5, _, rfl, rfl, rfl⟩ rfl ?_
    have D9 : Sd (cpS K 235 209 9) 235 W1 := Sd.cp DK2 (Nat.le_refl _)
    have r9 : ∀ q, ¬ (235 ≤ q ∧ q < 235 + 9) → cpS K 235 209 9 q = K q := fun q hq => cpS_out hq
    generalize hM : cpS K 235 209 9 = M at D9 r9
    refine a_l0 rfl rfl rfl ?_
    refine a_getq rfl gfX11_37_11 rfl (rfl) ?_
    refine a_s rfl rfl ?_
    refine a_getiv (v := W 2) rfl gfX11_89_5 rfl ((Sd.fd D9 (f := 16) (g := 2) (by decide)).trans o2) ?_
    refine a_s rfl rfl ?_
    refine a_s rfl rfl ?_
    refine a_puti rfl pfX11_89_5 rfl ?_
    refine a_l0 rfl rfl rfl ?_
    refine a_s rfl rfl ?_
    refine a_puti rfl pfX11_95_11 rfl ?_
    refine a_l0 rfl rfl rfl ?_
    refine a_getq rfl gfX11_37_11 rfl (rfl) ?_
    refine a_getiv (v := W 2 + 1) rfl gfX11_89_5 rfl ((congrFun (up2_row (by decide)) 16).trans up2_at) ?_
    have fM : Fm sJ I (up2 (up2 M 235 16 (W 2 + 1)) 200 13 0) := Fm.up (Fm.up (fun q k hq => by
      by_cases c9 : 235 ≤ q ∧ q < 235 + 9
      · exfalso
        have e5 : Nat.ble 235 q = true := Nat.ble_eq_true_of_le c9.1
        have e6 : Nat.ble q 243 = true := Nat.ble_eq_true_of_le (by omega)
        simp [sJ, e5, e6] at hq
      · rw [r9 q c9]
        exact fK q k hq) rfl) rfl
    have D8 : Sd (up2 (up2 M 235 16 (W 2 + 1)) 200 13 0) 235 (ud W1 2 (W 2 + 1)) := Sd.eq (Sd.pu (f := 16) (g := 2) D9 (by decide)) fun q g1 g2 => up2_row (by omega)
    refine a_iret rfl rfl ⟨rfl, rfl, fun z => ?_, _, w, rfl, hww, CI.st hci fM ?_ ?_, fM, ?_, ?_, up2_at, D8⟩
    · rw [etx] at z
      have := nI_inj (b := 12) (by omega) (by decide) z
      omega
    · refine ⟨dn W1, W1k.2.1, ?_⟩
      rw [up2_row (by decide), up2_row (by decide), r9 209 (by decide)]
      exact d3
    · refine ⟨dn W1, W1k.2.1, ?_⟩
      rw [up2_row (by decide), up2_ne (Or.inr (by decide))]
      exact (Sd.fd D9 (f := 3) (g := 1) (by decide)).trans W1k.2.2.2
    · rw [up2_row (by decide), up2_row (by decide), r9 201 (by decide)]
      exact e1
    · rw [up2_ne (Or.inr (by decide)), up2_row (by decide), r9 200 (by decide)]
      exact e3
end T79q
end
section
/-! ===== street, whole, of the reference ===== -/
section T79r
variable {S : aS} {I : Nat → Nat → Int32} {L : Nat → Nat → Int64} {w1 w2 t : Nat} {e b nd np : Nat} {T W : Nat → Int32}
set_option maxRecDepth 100000
theorem usH_0 : usH I 420 0 = 0 := by
  unfold usH
  rw [up2_ne (Or.inr (by decide)), up2_ne (Or.inr (by decide)), up2_ne (Or.inr (by decide)), up2_at]
theorem h_readAllS (hw : WdS S) (hbt : BtT T) (hT : I 426 = T) (h9 : I 420 9 = nI e) (h4 : e ≤ 400) (h421 : I 421 = W) (hW : WOk W) : Sp S m_X12_readAll 61 0 0 [.ref 420, .int (bI true)] (hp I L w1 w2 t) (fun v h' => ∃ x, v = some (.int x) ∧ ((strP T e W).1 = false → x = -1) ∧ ((strP T e W).1 = true → 0 ≤ x) ∧ ∃ J, h' = hp J L w1 w2 t ∧ Fm sS (up2 (usH I) 420 16 0) J ∧ ((strP T e W).1 = false → J 420 12 = nI (strP T e W).2.1) ∧ ((strP T e W).1 = true → J 421 = (strP T e W).2.2)) nX := by
  refine Sp_of ok_X12_readAll rfl rfl ?_
  show AW S m_X12_readAll 61 _ _ 0 0 0 [some (.ref 420), some (.int (bI true)), none] [] (hp I L w1 w2 t)
  have T0 : up2 (usH I) 420 16 0 426 = T := ((up2_row (by decide)).trans (usH_row (by decide))).trans hT
  have P0 : Pp e 0 (up2 (usH I) 420 16 0) := ⟨(up2_ne (Or.inr (by decide))).trans up2_at, ((up2_ne (Or.inr (by decide))).trans usH_11).trans h9, Nat.zero_le _, h4⟩
  have W0 : up2 (usH I) 420 16 0 421 = W := ((up2_row (by decide)).trans (usH_row (by decide))).trans h421
  refine a_l0 rfl rfl rfl ?_
  refine a_eV0 rfl lX12_232 mo_X12_uses r_X12_uses rfl rfl rfl ⟨12, _, rfl, rfl, rfl⟩ rfl ?_
  refine a_l0 rfl rfl rfl ?_
  refine a_s rfl rfl ?_
  refine a_puti rfl pfX12_168_12 rfl ?_
  refine a_l0 rfl rfl rfl ?_
  refine a_gV rfl lX12_94 mo_X12_blanks (h_blanks (I := up2 (usH I) 420 16 0) P0) rfl rfl rfl ⟨12, _, rfl, rfl, rfl⟩ rfl (fun v' h' hv => ?_)
  obtain ⟨rfl, J1, rfl, h1⟩ := hv
  rw [T0] at h1
  have h1 : Rd e 0 (bg T e 0) (bg T e 0) (up2 (usH I) 420 16 0) J1 := h1
  have C1 : Hf T e (bg T e 0) W (up2 (usH I) 420 16 0) J1 (bg T e 0) := ⟨Fm.mo (Rd.fm h1) sR_sS, Rd.pp h1, bg_sk 0, (Rd.w h1).trans W0⟩
  have hb0 := bg_le (T := T) (e := e) 0
  refine a_l0 rfl rfl rfl ?_
  refine a_geti rfl gfX12_81_12 rfl ?_
  refine a_top (y := nI (bg T e 0)) (Pp.pu (Rd.pp h1)) ?_
  refine a_l0 rfl rfl rfl ?_
  refine a_geti rfl gfX12_84_12 rfl ?_
  refine a_top (y := nI e) (Pp.en (Rd.pp h1)) ?_
  refine a_ic_ne rfl (fun c0 => ?_) (fun c0 => ?_)
  rotate_left
  · have c0 := nI_inj (by omega) (by omega) c0
    have el : strP T e W = (true, bg T e 0, W) := if_neg (by omega)
    rw [el]
    refine a_s rfl rfl ?_
    exact a_iret rfl rfl ⟨0, rfl, fun z => (by cases z), fun _ => Int32.le_refl _, J1, rfl, C1.1, fun z => (by cases z), fun _ => Hf.wd C1⟩
  have c0 : bg T e 0 < e := by
    rcases Nat.lt_or_ge (bg T e 0) e with g | g
    · exact g
    · exact absurd (congrArg nI (show bg T e 0 = e by omega)) c0
  refine a_s rfl rfl ?_
  refine a_s2 rfl rfl rfl rfl rfl rfl ?_
  refine a_inv (n := 14) (fun m ls h => ∃ i b' W' p' J, ls = [some (.ref 420), some (.int (bI true)), some (.int (nI i))] ∧ h = hp J L w1 w2 t ∧ Hf T e b' W' (up2 (usH I) 420 16 0) J p' ∧ WOk W' ∧ strsP T e (14 - i) b' W' = strP T e W ∧ i ≤ 14 ∧ m = 14 - i) ⟨0, bg T e 0, W, bg T e 0, J1, rfl, rfl, C1, hW, (if_pos c0).symm, by decide, rfl⟩ ?_
  rintro m _ _ ⟨i, b', W', p', J, rfl, rfl, C, hW', es, hi, hm⟩ ih
  have eT : J 426 = T := Hf.tt C T0
  refine a_l0 rfl rfl rfl ?_
  refine a_l1 rfl rfl rfl ?_
  refine a_l2 rfl rfl rfl ?_
  refine a_gV rfl lX12_235 mo_X12_readLine (h_readLineS hw eT (Hf.pp C) (Hf.nb C) (Hf.wd C) hW' hi) rfl rfl rfl ⟨12, _, rfl, rfl, rfl⟩ rfl (fun v' h' hv => ?_)
  replace hv := QH.be C.1 hv
  by_cases c14 : i < 14
  rotate_left
  · rw [if_neg c14] at hv
    obtain ⟨rfl, J2, p2, rfl, y, n⟩ := hv
    rw [show 14 - i = 0 by omega] at es
    have es : strP T e W = (false, b', W') := es.symm
    refine a_if_ne rfl (fun z => absurd rfl z) (fun _ => ?_)
    refine a_s rfl rfl ?_
    rw [es]
    exact a_iret rfl rfl ⟨-1, rfl, fun _ => rfl, fun z => (by cases z), J2, rfl, (n rfl).1, fun _ => (n rfl).2, fun z => by cases z⟩
  rw [if_pos c14] at hv
  obtain ⟨rfl, J2, p2, rfl, y, n⟩ := hv
  obtain ⟨f, hf⟩ : ∃ f, 14 - i = f + 1 := ⟨14 - i - 1, by omega⟩
  rw [hf, strsP_s] at es
  have lok := linP_ok (T := T) (e := e) (b := b') hW'
  generalize linP T e b' W' = r at es y n lok ⊢
  obtain ⟨z, b1, W1⟩ := r
  cases z with
  | false =>
    refine a_if_ne rfl (fun z => absurd rfl z) (fun _ => ?_)
    have es : strP T e W = (false, b1, W') := es.symm
    refine a_s rfl rfl ?_
    rw [es]
    exact a_iret rfl rfl ⟨-1, rfl, fun _ => rfl, fun z => (by cases z), J2, rfl, (n rfl).1, fun _ => (n rfl).2, fun z => by cases z⟩
  | true =>
  refine a_if_ne rfl (fun _ => ?_) (fun z => absurd (show (1 : Int32) = 0 from z) (by decide))
  rw [if_pos rfl] at es
  have C2 : Hf T e b1 W1 (up2 (usH I) 420 16 0) J2 p2 := y rfl
  have W1k : WOk W1 := lok rfl
  have g2 := Hf.le C2
  have eT2 : J2 426 = T := Hf.tt C2 T0
  refine a_l0 rfl rfl rfl ?_
  refine a_gV rfl lX12_94 mo_X12_blanks (h_blanks (Hf.pp C2)) rfl rfl rfl ⟨12, _, rfl, rfl, rfl⟩ rfl (fun v' h' hv => ?_)
  obtain ⟨rfl, J3, rfl, h3⟩ := hv
  rw [eT2, Hf.nb C2] at h3
  have C3 : Hf T e b1 W1 (up2 (usH I) 420 16 0) J3 b1 := Hf.rd C2 h3 (Hf.sk C2)
  have eT3 : J3 426 = T := Hf.tt C3 T0
  have h4' := Pp.e4 (Hf.pp C3)
  refine a_l0 rfl rfl rfl ?_
  refine a_geti rfl gfX12_81_12 rfl ?_
  refine a_top (y := nI b1) (Pp.pu (Rd.pp h3)) ?_
  refine a_l0 rfl rfl rfl ?_
  refine a_geti rfl gfX12_84_12 rfl ?_
  refine a_top (y := nI e) (Pp.en (Rd.pp h3)) ?_
  refine a_ic_ne rfl (fun c1 => ?_) (fun c1 => ?_)
  rotate_left
  · have c1 := nI_inj (by omega) (by omega) c1
    have es : strP T e W = (true, b1, W1) := es.symm.trans (if_neg (show ¬ b1 < e by omega))
    refine a_l2 rfl rfl rfl ?_
    refine a_s rfl rfl ?_
    refine a_s rfl rfl ?_
    refine a_top (y := nI (i + 1)) ((nI_succ _).symm) ?_
    rw [es]
    exact a_iret rfl rfl ⟨nI (i + 1), rfl, fun z => (by cases z), fun _ => nI_0le (by omega), J3, rfl, C3.1, fun z => (by cases z), fun _ => Hf.wd C3⟩
  have c1 : b1 < e := by
    rcases Nat.lt_or_ge b1 e with g | g
    · exact g
    · exact absurd (congrArg nI (show b1 = e by omega)) c1
  have es := (if_pos c1).symm.trans es
  refine a_l0 rfl rfl rfl ?_
  refine a_s rfl rfl ?_
  refine a_s rfl rfl ?_
  refine a_eV1 rfl lX12_87 mo_X12_isAt (h_isAt (Rd.pp h3)) rfl rfl rfl ⟨12, _, rfl, rfl, rfl⟩ rfl ?_
  refine a_top (y := bI (sg T e b1 59)) (by rw [eT3]; exact congrArg bI (at_s (c := 59) hbt h4 (by decide))) ?_
  cases c59 : sg T e b1 59 with
  | true =>
    refine a_if_ne rfl (fun _ => ?_) (fun z => absurd (show (1 : Int32) = 0 from z) (by decide))
    have es := (if_pos c59).symm.trans es
    refine a_l0 rfl rfl rfl ?_
    refine a_s rfl rfl ?_
    refine a_geti rfl gfX12_81_12 rfl ?_
    refine a_top (y := nI b1) (Pp.pu (Rd.pp h3)) ?_
    refine a_s rfl rfl ?_
    refine a_s rfl rfl ?_
    refine a_top (y := nI (b1 + 1)) ((nI_succ _).symm) ?_
    refine a_puti rfl pfX12_81_12 rfl ?_
    refine a_iv2 (y := nI (i + 1)) rfl rfl rfl ((nI_succ _).symm) ?_
    refine a_goto rfl ?_
    have e3 := en_3 (of_decide_eq_true c59).1
    exact ih (14 - (i + 1)) _ _ (by omega) ⟨i + 1, nx T e b1, W1, b1 + 1, _, rfl, rfl, ⟨Fm.up C3.1 rfl, Pp.to (Rd.pp h3) (by omega), by rw [← e3]; rfl, (up2_row (by decide)).trans (Hf.wd C3)⟩, W1k, by rw [show 14 - (i + 1) = f by omega]; exact es, by omega, rfl⟩
  | false =>
    refine a_if_ne rfl (fun z => absurd rfl z) (fun _ => ?_)
    have es : strP T e W = (false, b1, W') := es.symm.trans (if_neg (by show ¬ sg T e b1 59 = true; rw [c59]; exact Bool.false_ne_true))
    refine a_s rfl rfl ?_
    rw [es]
    exact a_iret rfl rfl ⟨-1, rfl, fun _ => rfl, fun z => (by cases z), J3, rfl, C3.1, fun _ => Rd.be h3, fun z => by cases z⟩
/-- street of the reference: as it was, or the new one -/
def StN (r : SR) (I J : Nat → Nat → Int32) (v : Option Value) : Prop :=
  (r.1 = false ∧ v = some (.int 0) ∧ J 420 0 = 1 ∧ J 420 14 = nI r.2.1 ∧ J 421 = I 421 ∧ J 420 7 = I 420 7) ∨
  (r.1 = true ∧ I 421 2 = 12 ∧ v = some (.int 0) ∧ J 420 0 = 2 ∧ J 420 14 = -1 ∧ J 421 = I 421 ∧ J 420 7 = I 420 7) ∨
  (r.1 = true ∧ ¬ I 421 2 = 12 ∧ v = some (.int (I 421 2 + 1)) ∧ J 420 0 = 0 ∧ J 420 14 = -1 ∧ J 421 = ud r.2.2 2 (I 421 2 + 1) ∧ J 420 7 = 0)
theorem h_streetR (hw : WdS S) (hr : RI nd np I) (hbt : BtT T) (hT : I 426 = T) (h9 : I 420 9 = nI e) (h4 : e ≤ 400) (hG : Rg (I 421)) : Sp S m_X12_street 62 0 0 [.ref 420] (hp I L w1 w2 t) (fun v h' => ∃ J nd' np', h' = hp J L w1 w2 t ∧ Us nd' np' I J ∧ J 422 = I 422 ∧ J 425 = I 425 ∧ StN (strP T e (I 421)) I J v) nX := by
  refine Sp_of ok_X12_street rfl rfl ?_
  show AW S m_X12_street 62 _ _ 0 0 0 [some (.ref 420), none, none] [] (hp I L w1 w2 t)
  have restore : ∀ {x : Int32} {J : Nat → Nat → Int32}, GX I J → (∀ K, K 421 = I 421 → (∀ k, K 420 k = J 420 k) → StN (strP T e (I 421)) I K (some (.int 0))) → AW S m_X12_street 62 (fun v h' => ∃ J nd' np', h' = hp J L w1 w2 t ∧ Us nd' np' I J ∧ J 422 = I 422 ∧ J 425 = I 425 ∧ StN (strP T e (I 421)) I J v) nX 0 0 90 [some (.ref 420), some (.int x), none] [] (hp J L w1 w2 t) := by
    intro x J hg hst
    refine a_s rfl rfl ?_
    refine a_s2 rfl rfl rfl rfl rfl rfl ?_
    refine a_forE (n := 1184) (fun j => [some (.ref 420), some (.int x), some (.int (nI j))]) (fun j => hp (cpR J 421 0 423 0 j) L w1 w2 t) (by simp [lsub, nI_0]) (by rw [cpR_0]) ?_ (fun j hj ih => ?_)
    · refine a_l2 rfl rfl rfl ?_
      refine a_s rfl rfl ?_
      refine a_ic_ge rfl (fun _ => ?_) (fun c => absurd (Int32.le_refl _) c)
      refine a_s rfl rfl ?_
      have e0 : ∀ q, q ≠ 421 → cpR J 421 0 423 0 1184 q = J q := fun q hq => cpR_row hq
      refine a_iret rfl rfl ⟨_, nd, np, rfl, Us.rest hr hg, (e0 422 (by decide)).trans (funext fun k => hg.1 422 k rfl), (e0 425 (by decide)).trans (funext fun k => hg.1 425 k rfl), hst _ (funext fun k => ?_) (fun k => congrFun (e0 420 (by decide)) k)⟩
      by_cases c : k < 1184
      · rw [show k = 0 + k by omega, cpR_in c]
        rw [show k + 0 = k by omega, hg.2.2 k c]
        congr 1
        omega
      · rw [cpR_out (by omega)]
        exact hg.1 421 k (sX_hi (by omega))
    · refine a_l2 rfl rfl rfl ?_
      refine a_s rfl rfl ?_
      refine a_ic_ge rfl (fun c => absurd c (nI_ge (b := 1184) hj (by omega))) (fun _ => ?_)
      refine a_l0 rfl rfl rfl ?_
      refine a_getq rfl gfX12_13_12 rfl (rfl) ?_
      refine a_l2 rfl rfl rfl ?_
      refine a_l0 rfl rfl rfl ?_
      refine a_getq rfl gfX12_20_12 rfl (rfl) ?_
      refine a_l2 rfl rfl rfl ?_
      refine a_ialdv (v := J 423 (j + 0)) rfl (n := 1184) rfl (inI_nI (by omega) (by omega)) (by rw [nI_clamp (by omega), cpR_row (by decide)]; rfl) ?_
      refine a_iastv (k := 0 + j) rfl (n := 2033) rfl (inI_nI (by omega) (by omega)) (by rw [nI_clamp (by omega)]; omega) ?_
      rw [cpR_succ]
      refine a_i2 rfl rfl rfl ?_
      refine a_goto rfl ?_
      exact a_back ih (by simp [lsub, nI_1]) rfl
  have k27 : AW S m_X12_street 62 (fun v h' => ∃ J nd' np', h' = hp J L w1 w2 t ∧ Us nd' np' I J ∧ J 422 = I 422 ∧ J 425 = I 425 ∧ StN (strP T e (I 421)) I J v) nX 0 0 27 [some (.ref 420), some (.int (nI 1184)), none] [] (hp (cpR I 423 0 421 0 1184) L w1 w2 t) := by
    have e0 : ∀ q, q ≠ 423 → cpR I 423 0 421 0 1184 q = I q := fun q hq => cpR_row hq
    refine a_l0 rfl rfl rfl ?_
    refine a_s rfl rfl ?_
    refine a_gV rfl lX12_239 mo_X12_readAll (h_readAllS (T := T) (e := e) (W := I 421) hw hbt ((e0 426 (by decide)).trans hT) ((congrFun (e0 420 (by decide)) 9).trans h9) h4 (e0 421 (by decide)) hG.1) rfl rfl rfl ⟨12, _, rfl, rfl, rfl⟩ rfl (fun v' h' hv => ?_)
    obtain ⟨x, rfl, xf, xt, J, rfl, hF, n, y⟩ := hv
    have hg : GX I J := GX.sS (GX.beg h9) hF
    have o2 := strP_2 (T := T) (e := e) (W := I 421)
    have org := strP_rg (T := T) (e := e) hG
    have j0 : J 420 0 = 0 := (hF 420 0 rfl).trans ((up2_ne (Or.inr (by decide))).trans (usH_0))
    have j7 : J 420 7 = I 420 7 := (hF 420 7 rfl).trans ((up2_ne (Or.inr (by decide))).trans ((usH_f (by decide) (by decide) (by decide) (by decide)).trans (congrFun (e0 420 (by decide)) 7)))
    refine a_s1 rfl rfl rfl rfl rfl rfl ?_
    refine a_l0 rfl rfl rfl ?_
    refine a_l1 rfl rfl rfl ?_
    rcases er : strP T e (I 421) with ⟨z, b1, W1⟩
    rw [er] at xf xt n y o2 org restore
    cases z with
    | false =>
      have xf : x = -1 := xf rfl
      subst xf
      refine a_if_ge rfl (fun z => absurd z (by decide)) (fun _ => ?_)
      refine a_l0 rfl rfl rfl ?_
      refine a_getiv (v := nI b1) rfl gfX12_91_12 rfl (n rfl) ?_
      refine a_goto rfl ?_
      refine a_puti rfl pfX12_33_12 rfl ?_
      refine a_l0 rfl rfl rfl ?_
      refine a_l1 rfl rfl rfl ?_
      refine a_if_ge rfl (fun z => absurd z (by decide)) (fun _ => ?_)
      refine a_s rfl rfl ?_
      refine a_goto rfl ?_
      refine a_s rfl rfl ?_
      refine a_eV1 rfl lX12_243 mo_X12_throwsIf (h_throwsIf (z := true)) rfl rfl rfl ⟨12, _, rfl, rfl, rfl⟩ rfl ?_
      rw [if_pos rfl]
      refine a_if_ne rfl (fun _ => ?_) (fun z => absurd z (by decide))
      refine restore (GX.up (GX.up hg rfl (by decide)) rfl (by decide)) (fun K k1 k2 => Or.inl ⟨rfl, rfl, (k2 0).trans up2_at, ?_, k1, ?_⟩)
      · rw [k2 14, up2_ne (Or.inr (by decide))]
        exact up2_at
      · rw [k2 7, up2_ne (Or.inr (by decide)), up2_ne (Or.inr (by decide))]
        exact j7
    | true =>
      have xt : 0 ≤ x := xt rfl
      have y : J 421 = W1 := y rfl
      have o2 : W1 2 = I 421 2 := o2 rfl
      have org : Rg W1 := org rfl
      refine a_if_ge rfl (fun _ => ?_) (fun z => absurd xt z)
      refine a_s rfl rfl ?_
      refine a_puti rfl pfX12_33_12 rfl ?_
      refine a_l0 rfl rfl rfl ?_
      refine a_l1 rfl rfl rfl ?_
      refine a_if_ge rfl (fun _ => ?_) (fun z => absurd xt z)
      refine a_s rfl rfl ?_
      refine a_s rfl rfl ?_
      refine a_eV1 rfl lX12_243 mo_X12_throwsIf (h_throwsIf (z := false)) rfl rfl rfl ⟨12, _, rfl, rfl, rfl⟩ rfl ?_
      rw [if_neg Bool.false_ne_true]
      refine a_if_ne rfl (fun z => absurd rfl z) (fun _ => ?_)
      have hg1 : GX I (up2 J 420 14 (-1)) := GX.up hg rfl (by decide)
      have t2 : up2 J 420 14 (-1) 421 2 = I 421 2 := (congrFun (up2_row (by decide)) 2).trans ((congrFun y 2).trans o2)
      refine a_l0 rfl rfl rfl ?_
      refine a_l0 rfl rfl rfl ?_
      refine a_getq rfl gfX12_13_12 rfl (rfl) ?_
      refine a_s rfl rfl ?_
      refine a_ialdv (v := I 421 2) rfl (n := 2033) rfl ⟨by decide, by decide⟩ t2 ?_
      refine a_s rfl rfl ?_
      refine a_ic_ne rfl (fun c12 => ?_) (fun c12 => ?_)
      rotate_left
      · refine a_s rfl rfl ?_
        refine a_goto rfl ?_
        refine a_s rfl rfl ?_
        refine a_eV1 rfl lX12_243 mo_X12_throwsIf (h_throwsIf (z := true)) rfl rfl rfl ⟨12, _, rfl, rfl, rfl⟩ rfl ?_
        rw [if_pos rfl]
        refine a_if_eq rfl (fun z => absurd z (by decide)) (fun _ => ?_)
        refine restore (GX.up hg1 rfl (by decide)) (fun K k1 k2 => Or.inr (Or.inl ⟨rfl, c12, rfl, (k2 0).trans up2_at, ?_, k1, ?_⟩))
        · rw [k2 14, up2_ne (Or.inr (by decide))]
          exact up2_at
        · rw [k2 7, up2_ne (Or.inr (by decide)), up2_ne (Or.inr (by decide))]
          exact j7
      refine a_s rfl rfl ?_
      refine a_s rfl rfl ?_
      refine a_eV1 rfl lX12_243 mo_X12_throwsIf (h_throwsIf (z := false)) rfl rfl rfl ⟨12, _, rfl, rfl, rfl⟩ rfl ?_
      rw [if_neg Bool.false_ne_true]
      refine a_if_eq rfl (fun _ => ?_) (fun z => absurd rfl z)
      have sf : SF (dn W1) (pn W1) (up2 J 420 14 (-1)) := by
        unfold SF
        rw [up2_row (by decide), y]
        exact ⟨org.so, org.fr⟩
      generalize hM : up2 J 420 14 (-1) = M at hg1 t2 sf
      have m421 : M 421 = W1 := by
        subst hM
        rw [up2_row (by decide)]
        exact y
      have m0 : M 420 0 = 0 := by
        subst hM
        exact (up2_ne (Or.inr (by decide))).trans j0
      have m14 : M 420 14 = -1 := by
        subst hM
        exact up2_at
      refine a_l0 rfl rfl rfl ?_
      refine a_getq rfl gfX12_13_12 rfl (rfl) ?_
      refine a_s rfl rfl ?_
      refine a_s rfl rfl ?_
      refine a_ialdv (v := I 421 2) rfl (n := 2033) rfl ⟨by decide, by decide⟩ t2 ?_
      refine a_s rfl rfl ?_
      refine a_s rfl rfl ?_
      refine a_iastv (k := 2) rfl (n := 2033) rfl ⟨by decide, by decide⟩ rfl ?_
      refine a_l0 rfl rfl rfl ?_
      refine a_s rfl rfl ?_
      refine a_puti rfl pfX12_53_12 rfl ?_
      refine a_l0 rfl rfl rfl ?_
      refine a_getq rfl gfX12_13_12 rfl (rfl) ?_
      refine a_s rfl rfl ?_
      refine a_ialdv (v := I 421 2 + 1) rfl (n := 2033) rfl ⟨by decide, by decide⟩ ((congrFun (up2_row (by decide)) 2).trans up2_at) ?_
      have e9 : ∀ q, q ≠ 421 → q ≠ 420 → up2 (up2 M 421 2 (I 421 2 + 1)) 420 7 0 q = M q := fun q h1 h2 => by rw [up2_row h2, up2_row h1]
      refine a_iret rfl rfl ⟨_, _, _, rfl, Us.done hr hg1 sf, (e9 422 (by decide) (by decide)).trans (funext fun k => hg1.1 422 k rfl), (e9 425 (by decide) (by decide)).trans (funext fun k => hg1.1 425 k rfl), Or.inr (Or.inr ⟨rfl, c12, rfl, ?_, ?_, ?_, up2_at⟩)⟩
      · rw [up2_ne (Or.inr (by decide)), up2_row (by decide)]
        exact m0
      · rw [up2_ne (Or.inr (by decide)), up2_row (by decide)]
        exact m14
      · rw [up2_row (by decide), up2_ud, m421]
  refine a_s rfl rfl ?_
  refine a_s1 rfl rfl rfl rfl rfl rfl ?_
  refine a_forE (n := 1184) (fun j => [some (.ref 420), some (.int (nI j)), none]) (fun j => hp (cpR I 423 0 421 0 j) L w1 w2 t) (by simp [lsub, nI_0]) (by rw [cpR_0]) ?_ (fun j hj ih => ?_)
  · refine a_l1 rfl rfl rfl ?_
    refine a_s rfl rfl ?_
    refine a_ic_ge rfl (fun _ => k27) (fun c => absurd (Int32.le_refl _) c)
  · refine a_l1 rfl rfl rfl ?_
    refine a_s rfl rfl ?_
    refine a_ic_ge rfl (fun c => absurd c (nI_ge (b := 1184) hj (by omega))) (fun _ => ?_)
    refine a_l0 rfl rfl rfl ?_
    refine a_getq rfl gfX12_20_12 rfl (rfl) ?_
    refine a_l1 rfl rfl rfl ?_
    refine a_l0 rfl rfl rfl ?_
    refine a_getq rfl gfX12_13_12 rfl (rfl) ?_
    refine a_l1 rfl rfl rfl ?_
    refine a_ialdv (v := I 421 (j + 0)) rfl (n := 2033) rfl (inI_nI (by omega) (by omega)) (by rw [nI_clamp (by omega), cpR_row (by decide)]; rfl) ?_
    refine a_iastv (k := 0 + j) rfl (n := 1184) rfl (inI_nI (by omega) (by omega)) (by rw [nI_clamp (by omega)]; omega) ?_
    rw [cpR_succ]
    refine a_i1 rfl rfl rfl ?_
    refine a_goto rfl ?_
    exact a_back ih (by simp [lsub, nI_1]) rfl
end T79r
end
section
/-! ===== the reference's acts, exactly (printed by program) ===== -/
section T79s
variable {S : aS} {I : Nat → Nat → Int32} {L : Nat → Nat → Int64} {w1 w2 t : Nat} {nd np r : Nat}
set_option maxRecDepth 100000
def ixN (x : Int32) : Nat := x.toNatClampNeg
theorem ixN_nI {i : Nat} (h : i < 2 ^ 31) : ixN (nI i) = i := nI_clamp h
theorem inB_ix {n : Nat} {x : Int32} (hn : n < 2 ^ 31) (h : inB x 0 (nI n - 1) = true) : ∃ j, j < n ∧ x = nI j := isIx hn (by rw [h]; rfl)
theorem h_remembers (er : I 420 7 = nI r) (hr12 : r ≤ 12) : SpE S m_X12_remembers 12 [.ref 420] (hp I L w1 w2 t) none (hp (remH I r) L w1 w2 t) := by
  refine SpE_of ok_X12_remembers rfl rfl ?_
  show AW S m_X12_remembers 12 _ _ 0 0 0 [some (.ref 420), none] [] (hp I L w1 w2 t)
  refine a_l0 rfl rfl rfl ?_
  refine a_geti rfl gfX12_53_12 rfl ?_
  refine a_top (y := nI r) (er) ?_
  refine a_s rfl rfl ?_
  refine a_ic_ne rfl (fun c => ?_) (fun c => ?_)
  · have h12 : ¬ r = 12 := fun z => c (by rw [z]; rfl)
    unfold remH
    rw [if_neg h12]
    refine a_l0 rfl rfl rfl ?_
    refine a_s rfl rfl ?_
    refine a_geti rfl gfX12_53_12 rfl ?_
    refine a_top (y := nI r) (er) ?_
    refine a_s rfl rfl ?_
    refine a_s rfl rfl ?_
    refine a_top (y := nI (r + 1)) ((nI_succ _).symm) ?_
    refine a_puti rfl pfX12_53_12 rfl ?_
    exact rem2 (by omega) up2_at ⟨rfl, rfl⟩
  · have h12 : r = 12 := nI_inj (by omega) (by decide) c
    subst h12
    unfold remH
    rw [if_pos rfl]
    refine a_s rfl rfl ?_
    refine a_s1 rfl rfl rfl rfl rfl rfl ?_
    refine a_forE (n := 3685) (fun j => [some (.ref 420), some (.int (nI j))]) (fun j => hp (cpR I 425 0 425 335 j) L w1 w2 t) (by simp [lsub, nI_0]) (by rw [cpR_0]) ?_ (fun j hj ih => ?_)
    · refine a_l1 rfl rfl rfl ?_
      refine a_s rfl rfl ?_
      refine a_ic_ge rfl (fun _ => ?_) (fun c => absurd (Int32.le_refl _) c)
      refine a_goto rfl ?_
      exact rem2 (m := 11) (by decide) ((congrFun (cpR_row (by decide)) 7).trans er) ⟨rfl, rfl⟩
    · refine a_l1 rfl rfl rfl ?_
      refine a_s rfl rfl ?_
      refine a_ic_ge rfl (fun c => absurd c (nI_ge (b := 3685) hj (by omega))) (fun _ => ?_)
      refine a_l0 rfl rfl rfl ?_
      refine a_getq rfl gfX12_26_12 rfl (rfl) ?_
      refine a_l1 rfl rfl rfl ?_
      refine a_l0 rfl rfl rfl ?_
      refine a_getq rfl gfX12_26_12 rfl (rfl) ?_
      refine a_l1 rfl rfl rfl ?_
      refine a_s rfl rfl ?_
      refine a_s rfl rfl ?_
      refine a_top (y := nI (j + 335)) (nI_addl j 335) ?_
      refine a_ialdv (v := I 425 (j + 335)) rfl (n := 4020) rfl (inI_nI (by omega) (by omega)) (by rw [nI_clamp (by omega)]; exact cpR_out (by omega)) ?_
      refine a_iastv (k := 0 + j) rfl (n := 4020) rfl (inI_nI (by omega) (by omega)) (by rw [nI_clamp (by omega)]; omega) ?_
      rw [cpR_succ]
      refine a_i1 rfl rfl rfl ?_
      refine a_goto rfl ?_
      exact a_back ih (by simp [lsub, nI_1]) rfl
theorem remH_421 : remH I r 421 = I 421 := by
  unfold remH
  by_cases c : r = 12
  · rw [if_pos c, cpR_row (by decide), cpR_row (by decide)]
  · rw [if_neg c, cpR_row (by decide), up2_row (by decide)]
/-- an act: refused, or done behind its being remembered -/
def QA (I : Nat → Nat → Int32) (r : Nat) (c v : Int32) (f : (Nat → Nat → Int32) → Nat → Nat → Int32) (L : Nat → Nat → Int64) (w1 w2 t : Nat) : Option Value → aH → Prop := fun v' h' => (c = 0 ∧ v' = some (.int v) ∧ h' = hp (f (remH (up2 I 420 0 0) r)) L w1 w2 t) ∨ (¬ c = 0 ∧ v' = some (.int 0) ∧ h' = hp (up2 (up2 I 420 0 0) 420 0 c) L w1 w2 t)
theorem QA.no {c v k : Int32} {f : (Nat → Nat → Int32) → Nat → Nat → Int32} (hc : c = k) (hk : ¬ k = 0) : QA I r c v f L w1 w2 t (some (.int 0)) (hp (up2 (up2 I 420 0 0) 420 0 k) L w1 w2 t) := by
  subst hc
  exact Or.inr ⟨hk, rfl, rfl⟩
theorem QA.yes {c v x : Int32} {f : (Nat → Nat → Int32) → Nat → Nat → Int32} {J : Nat → Nat → Int32} (hc : c = 0) (hx : x = v) (hJ : J = f (remH (up2 I 420 0 0) r)) : QA I r c v f L w1 w2 t (some (.int x)) (hp J L w1 w2 t) := Or.inl ⟨hc, by rw [hx], by rw [hJ]⟩
def vS (nd : Nat) (W : Nat → Int32) (k x : Int32) : Int32 := if inB x 0 (nI nd - 1) = true then (if W (23 + 6 * ixN x + 5) = k then 0 else 2) else 1
def vC (nd : Nat) (W : Nat → Int32) (x : Int32) : Int32 := if inB x 0 (nI nd - 1) = true then (if canR nd W (ixN x) = true then 0 else 2) else 1
def vH (nd np : Nat) (W : Nat → Int32) (x y : Int32) : Int32 := if inB x 0 (nI nd - 1) = true ∧ inB y 0 (nI np - 1) = true then (if W (23 + 6 * ixN x + 0) = y then 2 else if W (23 + 6 * ixN x + 5) = 1 then 3 else 0) else 1
def vL (nd : Nat) (x y : Int32) : Int32 := if inB x 0 (nI nd - 1) = true ∧ (y = -1 ∨ inB y 0 (nI nd - 1) = true) then (if x = y then 2 else 0) else 1
def vF (np : Nat) (x y : Int32) : Int32 := if inB x 0 (nI np - 1) = true then (if inB y 0 9 = true then 0 else 2) else 1
theorem h_isNow {i : Nat} (hi : i < 12) {x : Int32} : SpE S m_X12_isNow 13 [.ref 420, .int (nI i), .int x] (hp I L w1 w2 t) none (hp (up2 I 421 (23 + 6 * i + 5) x) L w1 w2 t) := by
  refine SpE_of ok_X12_isNow rfl rfl ?_
  show AW S m_X12_isNow 13 _ _ 0 0 0 [some (.ref 420), some (.int (nI i)), some (.int x)] [] (hp I L w1 w2 t)
  refine a_l0 rfl rfl rfl ?_
  refine a_getq rfl gfX12_13_12 rfl (rfl) ?_
  refine a_l1 rfl rfl rfl ?_
  refine a_s rfl rfl ?_
  refine a_eS1 rfl lX12_60 mo_X12_at (sp_X12_at (d := i) (k := 5)) rfl rfl rfl rfl ?_
  refine a_l2 rfl rfl rfl ?_
  refine a_iastv (k := 23 + 6 * i + 5) rfl (n := 2033) rfl (inI_nI (by omega) (by omega)) (nI_clamp (by omega)) ?_
  exact a_vret rfl rfl ⟨rfl, rfl⟩
theorem h_finishes {i : Nat} (hi : i < 12) : SpE S m_X12_finishes 14 [.ref 420, .int (nI i)] (hp I L w1 w2 t) none (hp (up2 (up2 I 421 (23 + 6 * i + 1) 0) 421 (23 + 6 * i + 5) 1) L w1 w2 t) := by
  refine SpE_of ok_X12_finishes rfl rfl ?_
  show AW S m_X12_finishes 14 _ _ 0 0 0 [some (.ref 420), some (.int (nI i))] [] (hp I L w1 w2 t)
  refine a_l0 rfl rfl rfl ?_
  refine a_getq rfl gfX12_13_12 rfl (rfl) ?_
  refine a_l1 rfl rfl rfl ?_
  refine a_s rfl rfl ?_
  refine a_eS1 rfl lX12_60 mo_X12_at (sp_X12_at (d := i) (k := 1)) rfl rfl rfl rfl ?_
  refine a_s rfl rfl ?_
  refine a_iastv (k := 23 + 6 * i + 1) rfl (n := 2033) rfl (inI_nI (by omega) (by omega)) (nI_clamp (by omega)) ?_
  refine a_l0 rfl rfl rfl ?_
  refine a_l1 rfl rfl rfl ?_
  refine a_s rfl rfl ?_
  refine a_eV0 rfl lX12_354 mo_X12_isNow (h_isNow hi) rfl rfl rfl ⟨12, _, rfl, rfl, rfl⟩ rfl ?_
  exact a_vret rfl rfl ⟨rfl, rfl⟩
theorem h_put (hs : SO nd np (I 421)) (er : I 420 7 = nI r) (hr12 : r ≤ 12) {x1 : Int32} : Sp S m_X12_put 16 0 0 [.ref 420, .int x1] (hp I L w1 w2 t) (QA I r (vS nd (I 421) 0 x1) (mn 99 (I 421 (23 + 6 * ixN x1 + 2) + 1)) (fun J => up2 J 421 (23 + 6 * ixN x1 + 2) (mn 99 (I 421 (23 + 6 * ixN x1 + 2) + 1))) L w1 w2 t) nX := by
  have hn := hs.n
  have hp6 := hs.p
  have e21 : up2 I 420 0 0 421 = I 421 := up2_row (by decide)
  have er0 : up2 I 420 0 0 420 7 = nI r := (up2_ne (Or.inr (by decide))).trans er
  have s0 : SO nd np (up2 I 420 0 0 421) := by rw [e21]; exact hs
  have s1 : SO nd np (remH (up2 I 420 0 0) r 421) := by rw [remH_421]; exact s0
  have e22 : remH (up2 I 420 0 0) r 421 = I 421 := remH_421.trans e21
  refine Sp_of ok_X12_put rfl rfl ?_
  show AW S m_X12_put 16 _ _ 0 0 0 [some (.ref 420), some (.int x1)] [] (hp I L w1 w2 t)
  refine a_l0 rfl rfl rfl ?_
  refine a_s rfl rfl ?_
  refine a_puti rfl pfX12_3_12 rfl ?_
  refine a_l0 rfl rfl rfl ?_
  refine a_l0 rfl rfl rfl ?_
  refine a_l1 rfl rfl rfl ?_
  refine a_eV1 rfl lX12_289 mo_X12_noDuty (r_X12_noDuty s0) rfl rfl rfl ⟨12, _, rfl, rfl, rfl⟩ rfl ?_
  obtain ⟨z, hz⟩ : ∃ z, inB x1 0 (nI nd - 1) = z := ⟨_, rfl⟩
  rw [hz]
  refine a_s rfl rfl ?_
  cases z with
  | false =>
    refine a_eV1 rfl lX12_243 mo_X12_throwsIf (h_throwsIf (z := true)) rfl rfl rfl ⟨12, _, rfl, rfl, rfl⟩ rfl ?_
    rw [if_pos rfl]
    refine a_if_ne rfl (fun _ => ?_) (fun c => absurd c (by decide))
    refine a_s rfl rfl ?_
    exact a_iret rfl rfl (QA.no (if_neg (by rw [hz]; exact Bool.false_ne_true)) (by decide))
  | true =>
    refine a_eV1 rfl lX12_243 mo_X12_throwsIf (h_throwsIf (z := false)) rfl rfl rfl ⟨12, _, rfl, rfl, rfl⟩ rfl ?_
    rw [if_neg Bool.false_ne_true]
    refine a_if_ne rfl (fun c => absurd rfl c) (fun _ => ?_)
    obtain ⟨i, hi, rfl⟩ := inB_ix (by omega) hz
    have hx := ixN_nI (i := i) (by omega)
    refine a_l0 rfl rfl rfl ?_
    refine a_l0 rfl rfl rfl ?_
    refine a_l1 rfl rfl rfl ?_
    refine a_eV1 rfl lX12_135 mo_X12_isWaiting (sp_X12_isWaiting (d := i) (by omega)) rfl rfl rfl ⟨12, _, rfl, rfl, rfl⟩ rfl ?_
    rw [show vd (up2 I 420 0 0 421) 5 i = I 421 (23 + 6 * i + 5) from congrFun e21 _]
    by_cases cw : I 421 (23 + 6 * i + 5) = 0
    · rw [decide_eq_true cw]
      refine a_if_ne rfl (fun _ => ?_) (fun c => absurd c (by decide))
      refine a_s rfl rfl ?_
      refine a_s rfl rfl ?_
      refine a_eV1 rfl lX12_243 mo_X12_throwsIf (h_throwsIf (z := false)) rfl rfl rfl ⟨12, _, rfl, rfl, rfl⟩ rfl ?_
      rw [if_neg Bool.false_ne_true]
      refine a_if_eq rfl (fun _ => ?_) (fun c => absurd rfl c)
      refine a_l0 rfl rfl rfl ?_
      refine a_eV0 rfl lX12_357 mo_X12_remembers (h_remembers er0 hr12) rfl rfl rfl ⟨12, _, rfl, rfl, rfl⟩ rfl ?_
      refine a_l0 rfl rfl rfl ?_
      refine a_getq rfl gfX12_13_12 rfl (rfl) ?_
      refine a_l1 rfl rfl rfl ?_
      refine a_s rfl rfl ?_
      refine a_eS1 rfl lX12_60 mo_X12_at (sp_X12_at (d := i) (k := 2)) rfl rfl rfl rfl ?_
      refine a_s rfl rfl ?_
      refine a_l0 rfl rfl rfl ?_
      refine a_l1 rfl rfl rfl ?_
      refine a_s rfl rfl ?_
      refine a_eV1 rfl lX12_63 mo_X12_of (sp_X12_of (d := i) (k := 2) (by omega) (by decide)) rfl rfl rfl ⟨12, _, rfl, rfl, rfl⟩ rfl ?_
      rw [show vd (remH (up2 I 420 0 0) r 421) 2 i = I 421 (23 + 6 * i + 2) from congrFun e22 _]
      refine a_s rfl rfl ?_
      refine a_s rfl rfl ?_
      refine a_min rfl lX12_295 mj_min rfl rfl ?_
      refine a_iastv (k := (23 + 6 * i + 2)) rfl (n := 2033) rfl (inI_nI (by omega) (by omega)) (nI_clamp (by omega)) ?_
      refine a_l0 rfl rfl rfl ?_
      refine a_l1 rfl rfl rfl ?_
      refine a_s rfl rfl ?_
      refine a_eV1 rfl lX12_63 mo_X12_of (sp_X12_of (d := i) (k := 2) (by omega) (by decide)) rfl rfl rfl ⟨12, _, rfl, rfl, rfl⟩ rfl ?_
      exact a_iret rfl rfl (QA.yes ((if_pos hz).trans (if_pos (by rw [hx]; exact cw))) (by rw [hx]; exact up2_at) (by rw [hx]; rfl))
    · rw [decide_eq_false cw]
      refine a_if_ne rfl (fun c => absurd rfl c) (fun _ => ?_)
      refine a_s rfl rfl ?_
      refine a_goto rfl ?_
      refine a_s rfl rfl ?_
      refine a_eV1 rfl lX12_243 mo_X12_throwsIf (h_throwsIf (z := true)) rfl rfl rfl ⟨12, _, rfl, rfl, rfl⟩ rfl ?_
      rw [if_pos rfl]
      refine a_if_eq rfl (fun c => absurd c (by decide)) (fun _ => ?_)
      refine a_s rfl rfl ?_
      exact a_iret rfl rfl (QA.no ((if_pos hz).trans (if_neg (by rw [hx]; exact cw))) (by decide))
theorem h_forget (hs : SO nd np (I 421)) (er : I 420 7 = nI r) (hr12 : r ≤ 12) {x1 : Int32} : Sp S m_X12_forget 16 0 0 [.ref 420, .int x1] (hp I L w1 w2 t) (QA I r (vS nd (I 421) 0 x1) (I 421 (23 + 6 * ixN x1 + 1)) (fun J => up2 J 421 (23 + 6 * ixN x1 + 5) 2) L w1 w2 t) nX := by
  have hn := hs.n
  have hp6 := hs.p
  have e21 : up2 I 420 0 0 421 = I 421 := up2_row (by decide)
  have er0 : up2 I 420 0 0 420 7 = nI r := (up2_ne (Or.inr (by decide))).trans er
  have s0 : SO nd np (up2 I 420 0 0 421) := by rw [e21]; exact hs
  have s1 : SO nd np (remH (up2 I 420 0 0) r 421) := by rw [remH_421]; exact s0
  have e22 : remH (up2 I 420 0 0) r 421 = I 421 := remH_421.trans e21
  refine Sp_of ok_X12_forget rfl rfl ?_
  show AW S m_X12_forget 16 _ _ 0 0 0 [some (.ref 420), some (.int x1)] [] (hp I L w1 w2 t)
  refine a_l0 rfl rfl rfl ?_
  refine a_s rfl rfl ?_
  refine a_puti rfl pfX12_3_12 rfl ?_
  refine a_l0 rfl rfl rfl ?_
  refine a_l0 rfl rfl rfl ?_
  refine a_l1 rfl rfl rfl ?_
  refine a_eV1 rfl lX12_289 mo_X12_noDuty (r_X12_noDuty s0) rfl rfl rfl ⟨12, _, rfl, rfl, rfl⟩ rfl ?_
  obtain ⟨z, hz⟩ : ∃ z, inB x1 0 (nI nd - 1) = z := ⟨_, rfl⟩
  rw [hz]
  refine a_s rfl rfl ?_
  cases z with
  | false =>
    refine a_eV1 rfl lX12_243 mo_X12_throwsIf (h_throwsIf (z := true)) rfl rfl rfl ⟨12, _, rfl, rfl, rfl⟩ rfl ?_
    rw [if_pos rfl]
    refine a_if_ne rfl (fun _ => ?_) (fun c => absurd c (by decide))
    refine a_s rfl rfl ?_
    exact a_iret rfl rfl (QA.no (if_neg (by rw [hz]; exact Bool.false_ne_true)) (by decide))
  | true =>
    refine a_eV1 rfl lX12_243 mo_X12_throwsIf (h_throwsIf (z := false)) rfl rfl rfl ⟨12, _, rfl, rfl, rfl⟩ rfl ?_
    rw [if_neg Bool.false_ne_true]
    refine a_if_ne rfl (fun c => absurd rfl c) (fun _ => ?_)
    obtain ⟨i, hi, rfl⟩ := inB_ix (by omega) hz
    have hx := ixN_nI (i := i) (by omega)
    refine a_l0 rfl rfl rfl ?_
    refine a_l0 rfl rfl rfl ?_
    refine a_l1 rfl rfl rfl ?_
    refine a_eV1 rfl lX12_135 mo_X12_isWaiting (sp_X12_isWaiting (d := i) (by omega)) rfl rfl rfl ⟨12, _, rfl, rfl, rfl⟩ rfl ?_
    rw [show vd (up2 I 420 0 0 421) 5 i = I 421 (23 + 6 * i + 5) from congrFun e21 _]
    by_cases cw : I 421 (23 + 6 * i + 5) = 0
    · rw [decide_eq_true cw]
      refine a_if_ne rfl (fun _ => ?_) (fun c => absurd c (by decide))
      refine a_s rfl rfl ?_
      refine a_s rfl rfl ?_
      refine a_eV1 rfl lX12_243 mo_X12_throwsIf (h_throwsIf (z := false)) rfl rfl rfl ⟨12, _, rfl, rfl, rfl⟩ rfl ?_
      rw [if_neg Bool.false_ne_true]
      refine a_if_eq rfl (fun _ => ?_) (fun c => absurd rfl c)
      refine a_l0 rfl rfl rfl ?_
      refine a_eV0 rfl lX12_357 mo_X12_remembers (h_remembers er0 hr12) rfl rfl rfl ⟨12, _, rfl, rfl, rfl⟩ rfl ?_
      refine a_l0 rfl rfl rfl ?_
      refine a_l1 rfl rfl rfl ?_
      refine a_s rfl rfl ?_
      refine a_eV0 rfl lX12_354 mo_X12_isNow (h_isNow (i := i) (by omega)) rfl rfl rfl ⟨12, _, rfl, rfl, rfl⟩ rfl ?_
      refine a_l0 rfl rfl rfl ?_
      refine a_l1 rfl rfl rfl ?_
      refine a_s rfl rfl ?_
      refine a_eV1 rfl lX12_63 mo_X12_of (sp_X12_of (d := i) (k := 1) (by omega) (by decide)) rfl rfl rfl ⟨12, _, rfl, rfl, rfl⟩ rfl ?_
      exact a_iret rfl rfl (QA.yes ((if_pos hz).trans (if_pos (by rw [hx]; exact cw))) (by rw [hx, show vd (up2 (remH (up2 I 420 0 0) r) 421 (23 + 6 * i + 5) 2 421) 1 i = remH (up2 I 420 0 0) r 421 (23 + 6 * i + 1) from up2_ne (Or.inr (by omega)), e22]) (by rw [hx]))
    · rw [decide_eq_false cw]
      refine a_if_ne rfl (fun c => absurd rfl c) (fun _ => ?_)
      refine a_s rfl rfl ?_
      refine a_goto rfl ?_
      refine a_s rfl rfl ?_
      refine a_eV1 rfl lX12_243 mo_X12_throwsIf (h_throwsIf (z := true)) rfl rfl rfl ⟨12, _, rfl, rfl, rfl⟩ rfl ?_
      rw [if_pos rfl]
      refine a_if_eq rfl (fun c => absurd c (by decide)) (fun _ => ?_)
      refine a_s rfl rfl ?_
      exact a_iret rfl rfl (QA.no ((if_pos hz).trans (if_neg (by rw [hx]; exact cw))) (by decide))
theorem h_recall (hs : SO nd np (I 421)) (er : I 420 7 = nI r) (hr12 : r ≤ 12) {x1 : Int32} : Sp S m_X12_recall 16 0 0 [.ref 420, .int x1] (hp I L w1 w2 t) (QA I r (vS nd (I 421) 2 x1) (I 421 (23 + 6 * ixN x1 + 2)) (fun J => up2 J 421 (23 + 6 * ixN x1 + 5) 0) L w1 w2 t) nX := by
  have hn := hs.n
  have hp6 := hs.p
  have e21 : up2 I 420 0 0 421 = I 421 := up2_row (by decide)
  have er0 : up2 I 420 0 0 420 7 = nI r := (up2_ne (Or.inr (by decide))).trans er
  have s0 : SO nd np (up2 I 420 0 0 421) := by rw [e21]; exact hs
  have s1 : SO nd np (remH (up2 I 420 0 0) r 421) := by rw [remH_421]; exact s0
  have e22 : remH (up2 I 420 0 0) r 421 = I 421 := remH_421.trans e21
  refine Sp_of ok_X12_recall rfl rfl ?_
  show AW S m_X12_recall 16 _ _ 0 0 0 [some (.ref 420), some (.int x1)] [] (hp I L w1 w2 t)
  refine a_l0 rfl rfl rfl ?_
  refine a_s rfl rfl ?_
  refine a_puti rfl pfX12_3_12 rfl ?_
  refine a_l0 rfl rfl rfl ?_
  refine a_l0 rfl rfl rfl ?_
  refine a_l1 rfl rfl rfl ?_
  refine a_eV1 rfl lX12_289 mo_X12_noDuty (r_X12_noDuty s0) rfl rfl rfl ⟨12, _, rfl, rfl, rfl⟩ rfl ?_
  obtain ⟨z, hz⟩ : ∃ z, inB x1 0 (nI nd - 1) = z := ⟨_, rfl⟩
  rw [hz]
  refine a_s rfl rfl ?_
  cases z with
  | false =>
    refine a_eV1 rfl lX12_243 mo_X12_throwsIf (h_throwsIf (z := true)) rfl rfl rfl ⟨12, _, rfl, rfl, rfl⟩ rfl ?_
    rw [if_pos rfl]
    refine a_if_ne rfl (fun _ => ?_) (fun c => absurd c (by decide))
    refine a_s rfl rfl ?_
    exact a_iret rfl rfl (QA.no (if_neg (by rw [hz]; exact Bool.false_ne_true)) (by decide))
  | true =>
    refine a_eV1 rfl lX12_243 mo_X12_throwsIf (h_throwsIf (z := false)) rfl rfl rfl ⟨12, _, rfl, rfl, rfl⟩ rfl ?_
    rw [if_neg Bool.false_ne_true]
    refine a_if_ne rfl (fun c => absurd rfl c) (fun _ => ?_)
    obtain ⟨i, hi, rfl⟩ := inB_ix (by omega) hz
    have hx := ixN_nI (i := i) (by omega)
    refine a_l0 rfl rfl rfl ?_
    refine a_l0 rfl rfl rfl ?_
    refine a_l1 rfl rfl rfl ?_
    refine a_eV1 rfl lX12_364 mo_X12_isForgotten (sp_X12_isForgotten (d := i) (by omega)) rfl rfl rfl ⟨12, _, rfl, rfl, rfl⟩ rfl ?_
    rw [show vd (up2 I 420 0 0 421) 5 i = I 421 (23 + 6 * i + 5) from congrFun e21 _]
    by_cases cw : I 421 (23 + 6 * i + 5) = 2
    · rw [decide_eq_true cw]
      refine a_if_ne rfl (fun _ => ?_) (fun c => absurd c (by decide))
      refine a_s rfl rfl ?_
      refine a_s rfl rfl ?_
      refine a_eV1 rfl lX12_243 mo_X12_throwsIf (h_throwsIf (z := false)) rfl rfl rfl ⟨12, _, rfl, rfl, rfl⟩ rfl ?_
      rw [if_neg Bool.false_ne_true]
      refine a_if_eq rfl (fun _ => ?_) (fun c => absurd rfl c)
      refine a_l0 rfl rfl rfl ?_
      refine a_eV0 rfl lX12_357 mo_X12_remembers (h_remembers er0 hr12) rfl rfl rfl ⟨12, _, rfl, rfl, rfl⟩ rfl ?_
      refine a_l0 rfl rfl rfl ?_
      refine a_l1 rfl rfl rfl ?_
      refine a_s rfl rfl ?_
      refine a_eV0 rfl lX12_354 mo_X12_isNow (h_isNow (i := i) (by omega)) rfl rfl rfl ⟨12, _, rfl, rfl, rfl⟩ rfl ?_
      refine a_l0 rfl rfl rfl ?_
      refine a_l1 rfl rfl rfl ?_
      refine a_s rfl rfl ?_
      refine a_eV1 rfl lX12_63 mo_X12_of (sp_X12_of (d := i) (k := 2) (by omega) (by decide)) rfl rfl rfl ⟨12, _, rfl, rfl, rfl⟩ rfl ?_
      exact a_iret rfl rfl (QA.yes ((if_pos hz).trans (if_pos (by rw [hx]; exact cw))) (by rw [hx, show vd (up2 (remH (up2 I 420 0 0) r) 421 (23 + 6 * i + 5) 0 421) 2 i = remH (up2 I 420 0 0) r 421 (23 + 6 * i + 2) from up2_ne (Or.inr (by omega)), e22]) (by rw [hx]))
    · rw [decide_eq_false cw]
      refine a_if_ne rfl (fun c => absurd rfl c) (fun _ => ?_)
      refine a_s rfl rfl ?_
      refine a_goto rfl ?_
      refine a_s rfl rfl ?_
      refine a_eV1 rfl lX12_243 mo_X12_throwsIf (h_throwsIf (z := true)) rfl rfl rfl ⟨12, _, rfl, rfl, rfl⟩ rfl ?_
      rw [if_pos rfl]
      refine a_if_eq rfl (fun c => absurd c (by decide)) (fun _ => ?_)
      refine a_s rfl rfl ?_
      exact a_iret rfl rfl (QA.no ((if_pos hz).trans (if_neg (by rw [hx]; exact cw))) (by decide))
theorem h_call (hs : SO nd np (I 421)) (er : I 420 7 = nI r) (hr12 : r ≤ 12) {x1 : Int32} : Sp S m_X12_call 19 0 0 [.ref 420, .int x1] (hp I L w1 w2 t) (QA I r (vC nd (I 421) x1) (passR nd (I 421) (ixN x1)) (fun J => up2 (up2 J 421 (23 + 6 * ixN x1 + 1) 0) 421 (23 + 6 * ixN x1 + 5) 1) L w1 w2 t) nX := by
  have hn := hs.n
  have hp6 := hs.p
  have e21 : up2 I 420 0 0 421 = I 421 := up2_row (by decide)
  have er0 : up2 I 420 0 0 420 7 = nI r := (up2_ne (Or.inr (by decide))).trans er
  have s0 : SO nd np (up2 I 420 0 0 421) := by rw [e21]; exact hs
  have s1 : SO nd np (remH (up2 I 420 0 0) r 421) := by rw [remH_421]; exact s0
  have e22 : remH (up2 I 420 0 0) r 421 = I 421 := remH_421.trans e21
  refine Sp_of ok_X12_call rfl rfl ?_
  show AW S m_X12_call 19 _ _ 0 0 0 [some (.ref 420), some (.int x1), none] [] (hp I L w1 w2 t)
  refine a_l0 rfl rfl rfl ?_
  refine a_s rfl rfl ?_
  refine a_puti rfl pfX12_3_12 rfl ?_
  refine a_l0 rfl rfl rfl ?_
  refine a_l0 rfl rfl rfl ?_
  refine a_l1 rfl rfl rfl ?_
  refine a_eV1 rfl lX12_289 mo_X12_noDuty (r_X12_noDuty s0) rfl rfl rfl ⟨12, _, rfl, rfl, rfl⟩ rfl ?_
  obtain ⟨z, hz⟩ : ∃ z, inB x1 0 (nI nd - 1) = z := ⟨_, rfl⟩
  rw [hz]
  refine a_s rfl rfl ?_
  cases z with
  | false =>
    refine a_eV1 rfl lX12_243 mo_X12_throwsIf (h_throwsIf (z := true)) rfl rfl rfl ⟨12, _, rfl, rfl, rfl⟩ rfl ?_
    rw [if_pos rfl]
    refine a_if_ne rfl (fun _ => ?_) (fun c => absurd c (by decide))
    refine a_s rfl rfl ?_
    exact a_iret rfl rfl (QA.no (if_neg (by rw [hz]; exact Bool.false_ne_true)) (by decide))
  | true =>
    refine a_eV1 rfl lX12_243 mo_X12_throwsIf (h_throwsIf (z := false)) rfl rfl rfl ⟨12, _, rfl, rfl, rfl⟩ rfl ?_
    rw [if_neg Bool.false_ne_true]
    refine a_if_ne rfl (fun c => absurd rfl c) (fun _ => ?_)
    obtain ⟨i, hi, rfl⟩ := inB_ix (by omega) hz
    have hx := ixN_nI (i := i) (by omega)
    refine a_l0 rfl rfl rfl ?_
    refine a_l0 rfl rfl rfl ?_
    refine a_l1 rfl rfl rfl ?_
    refine a_eV1 rfl lX12_280 mo_X12_canBeCalled (sp_X12_canBeCalled (nd := nd) hn s0.du s0.l hi) rfl rfl rfl ⟨12, _, rfl, rfl, rfl⟩ rfl ?_
    rw [e21]
    by_cases cw : canR nd (I 421) i = true
    · rw [cw]
      refine a_if_ne rfl (fun _ => ?_) (fun c => absurd c (by decide))
      refine a_s rfl rfl ?_
      refine a_s rfl rfl ?_
      refine a_eV1 rfl lX12_243 mo_X12_throwsIf (h_throwsIf (z := false)) rfl rfl rfl ⟨12, _, rfl, rfl, rfl⟩ rfl ?_
      rw [if_neg Bool.false_ne_true]
      refine a_if_eq rfl (fun _ => ?_) (fun c => absurd rfl c)
      refine a_l0 rfl rfl rfl ?_
      refine a_eV0 rfl lX12_357 mo_X12_remembers (h_remembers er0 hr12) rfl rfl rfl ⟨12, _, rfl, rfl, rfl⟩ rfl ?_
      refine a_l0 rfl rfl rfl ?_
      refine a_l1 rfl rfl rfl ?_
      refine a_eV1 rfl lX12_276 mo_X12_passesBy (sp_X12_passesBy (nd := nd) hn s1.du hi) rfl rfl rfl ⟨12, _, rfl, rfl, rfl⟩ rfl ?_
      refine a_s2 rfl rfl rfl rfl rfl rfl ?_
      refine a_l0 rfl rfl rfl ?_
      refine a_l1 rfl rfl rfl ?_
      refine a_eV0 rfl lX12_360 mo_X12_finishes (h_finishes (i := i) (by omega)) rfl rfl rfl ⟨12, _, rfl, rfl, rfl⟩ rfl ?_
      refine a_l2 rfl rfl rfl ?_
      exact a_iret rfl rfl (QA.yes ((if_pos hz).trans (if_pos (by rw [hx]; exact cw))) (by rw [hx, e22]) (by rw [hx]))
    · rw [Bool.eq_false_iff.mpr cw]
      refine a_if_ne rfl (fun c => absurd rfl c) (fun _ => ?_)
      refine a_s rfl rfl ?_
      refine a_goto rfl ?_
      refine a_s rfl rfl ?_
      refine a_eV1 rfl lX12_243 mo_X12_throwsIf (h_throwsIf (z := true)) rfl rfl rfl ⟨12, _, rfl, rfl, rfl⟩ rfl ?_
      rw [if_pos rfl]
      refine a_if_eq rfl (fun c => absurd c (by decide)) (fun _ => ?_)
      refine a_s rfl rfl ?_
      exact a_iret rfl rfl (QA.no ((if_pos hz).trans (if_neg (by rw [hx]; exact cw))) (by decide))
theorem h_hand (hs : SO nd np (I 421)) (er : I 420 7 = nI r) (hr12 : r ≤ 12) {x1 x2 : Int32} : Sp S m_X12_hand 16 0 0 [.ref 420, .int x1, .int x2] (hp I L w1 w2 t) (QA I r (vH nd np (I 421) x1 x2) (I 421 (23 + 6 * ixN x1 + 0)) (fun J => up2 J 421 (23 + 6 * ixN x1 + 0) x2) L w1 w2 t) nX := by
  have hn := hs.n
  have hp6 := hs.p
  have e21 : up2 I 420 0 0 421 = I 421 := up2_row (by decide)
  have er0 : up2 I 420 0 0 420 7 = nI r := (up2_ne (Or.inr (by decide))).trans er
  have s0 : SO nd np (up2 I 420 0 0 421) := by rw [e21]; exact hs
  have s1 : SO nd np (remH (up2 I 420 0 0) r 421) := by rw [remH_421]; exact s0
  have e22 : remH (up2 I 420 0 0) r 421 = I 421 := remH_421.trans e21
  refine Sp_of ok_X12_hand rfl rfl ?_
  show AW S m_X12_hand 16 _ _ 0 0 0 [some (.ref 420), some (.int x1), some (.int x2), none] [] (hp I L w1 w2 t)
  refine a_l0 rfl rfl rfl ?_
  refine a_s rfl rfl ?_
  refine a_puti rfl pfX12_3_12 rfl ?_
  refine a_l0 rfl rfl rfl ?_
  refine a_l0 rfl rfl rfl ?_
  refine a_l1 rfl rfl rfl ?_
  refine a_eV1 rfl lX12_289 mo_X12_noDuty (r_X12_noDuty s0) rfl rfl rfl ⟨12, _, rfl, rfl, rfl⟩ rfl ?_
  obtain ⟨z, hz⟩ : ∃ z, inB x1 0 (nI nd - 1) = z := ⟨_, rfl⟩
  rw [hz]
  cases z with
  | false =>
    refine a_if_ne rfl (fun _ => ?_) (fun c => absurd c (by decide))
    refine a_s rfl rfl ?_
    refine a_goto rfl ?_
    refine a_s rfl rfl ?_
    refine a_eV1 rfl lX12_243 mo_X12_throwsIf (h_throwsIf (z := true)) rfl rfl rfl ⟨12, _, rfl, rfl, rfl⟩ rfl ?_
    rw [if_pos rfl]
    refine a_if_ne rfl (fun _ => ?_) (fun c => absurd c (by decide))
    refine a_s rfl rfl ?_
    exact a_iret rfl rfl (QA.no (if_neg (fun z => by rw [hz] at z; exact Bool.false_ne_true z.1)) (by decide))
  | true =>
  refine a_if_ne rfl (fun c => absurd rfl c) (fun _ => ?_)
  refine a_l0 rfl rfl rfl ?_
  refine a_l2 rfl rfl rfl ?_
  refine a_eV1 rfl lX12_342 mo_X12_noPerson (r_X12_noPerson s0) rfl rfl rfl ⟨12, _, rfl, rfl, rfl⟩ rfl ?_
  obtain ⟨z2, hz2⟩ : ∃ z, inB x2 0 (nI np - 1) = z := ⟨_, rfl⟩
  rw [hz2]
  cases z2 with
  | false =>
    refine a_if_eq rfl (fun c => absurd c (by decide)) (fun _ => ?_)
    refine a_s rfl rfl ?_
    refine a_goto rfl ?_
    refine a_s rfl rfl ?_
    refine a_eV1 rfl lX12_243 mo_X12_throwsIf (h_throwsIf (z := true)) rfl rfl rfl ⟨12, _, rfl, rfl, rfl⟩ rfl ?_
    rw [if_pos rfl]
    refine a_if_ne rfl (fun _ => ?_) (fun c => absurd c (by decide))
    refine a_s rfl rfl ?_
    exact a_iret rfl rfl (QA.no (if_neg (fun z => by rw [hz2] at z; exact Bool.false_ne_true z.2)) (by decide))
  | true =>
  refine a_if_eq rfl (fun _ => ?_) (fun c => absurd rfl c)
  refine a_s rfl rfl ?_
  refine a_s rfl rfl ?_
  refine a_eV1 rfl lX12_243 mo_X12_throwsIf (h_throwsIf (z := false)) rfl rfl rfl ⟨12, _, rfl, rfl, rfl⟩ rfl ?_
  rw [if_neg Bool.false_ne_true]
  refine a_if_ne rfl (fun c => absurd rfl c) (fun _ => ?_)
  obtain ⟨i, hi, rfl⟩ := inB_ix (by omega) hz
  have hx := ixN_nI (i := i) (by omega)
  refine a_l0 rfl rfl rfl ?_
  refine a_l0 rfl rfl rfl ?_
  refine a_l1 rfl rfl rfl ?_
  refine a_s rfl rfl ?_
  refine a_eV1 rfl lX12_63 mo_X12_of (sp_X12_of (d := i) (k := 0) (by omega) (by decide)) rfl rfl rfl ⟨12, _, rfl, rfl, rfl⟩ rfl ?_
  rw [show vd (up2 I 420 0 0 421) 0 i = I 421 (23 + 6 * i + 0) from congrFun e21 _]
  refine a_l2 rfl rfl rfl ?_
  refine a_ic_ne rfl (fun c => ?_) (fun c => ?_)
  rotate_left
  · refine a_s rfl rfl ?_
    refine a_goto rfl ?_
    refine a_s rfl rfl ?_
    refine a_eV1 rfl lX12_243 mo_X12_throwsIf (h_throwsIf (z := true)) rfl rfl rfl ⟨12, _, rfl, rfl, rfl⟩ rfl ?_
    rw [if_pos rfl]
    refine a_if_ne rfl (fun _ => ?_) (fun c => absurd c (by decide))
    refine a_s rfl rfl ?_
    exact a_iret rfl rfl (QA.no ((if_pos ⟨hz, hz2⟩).trans (if_pos (by rw [hx]; exact c))) (by decide))
  refine a_s rfl rfl ?_
  refine a_s rfl rfl ?_
  refine a_eV1 rfl lX12_243 mo_X12_throwsIf (h_throwsIf (z := false)) rfl rfl rfl ⟨12, _, rfl, rfl, rfl⟩ rfl ?_
  rw [if_neg Bool.false_ne_true]
  refine a_if_ne rfl (fun c => absurd rfl c) (fun _ => ?_)
  refine a_l0 rfl rfl rfl ?_
  refine a_l0 rfl rfl rfl ?_
  refine a_l1 rfl rfl rfl ?_
  refine a_eV1 rfl lX12_246 mo_X12_isDone (sp_X12_isDone (d := i) (by omega)) rfl rfl rfl ⟨12, _, rfl, rfl, rfl⟩ rfl ?_
  rw [show vd (up2 I 420 0 0 421) 5 i = I 421 (23 + 6 * i + 5) from congrFun e21 _]
  refine a_s rfl rfl ?_
  by_cases cw : I 421 (23 + 6 * i + 5) = 1
  · rw [decide_eq_true cw]
    refine a_eV1 rfl lX12_243 mo_X12_throwsIf (h_throwsIf (z := true)) rfl rfl rfl ⟨12, _, rfl, rfl, rfl⟩ rfl ?_
    rw [if_pos rfl]
    refine a_if_eq rfl (fun c => absurd c (by decide)) (fun _ => ?_)
    refine a_s rfl rfl ?_
    exact a_iret rfl rfl (QA.no ((if_pos ⟨hz, hz2⟩).trans ((if_neg (by rw [hx]; exact c)).trans (if_pos (by rw [hx]; exact cw)))) (by decide))
  · rw [decide_eq_false cw]
    refine a_eV1 rfl lX12_243 mo_X12_throwsIf (h_throwsIf (z := false)) rfl rfl rfl ⟨12, _, rfl, rfl, rfl⟩ rfl ?_
    rw [if_neg Bool.false_ne_true]
    refine a_if_eq rfl (fun _ => ?_) (fun c => absurd rfl c)
    refine a_l0 rfl rfl rfl ?_
    refine a_eV0 rfl lX12_357 mo_X12_remembers (h_remembers er0 hr12) rfl rfl rfl ⟨12, _, rfl, rfl, rfl⟩ rfl ?_
    refine a_l0 rfl rfl rfl ?_
    refine a_l1 rfl rfl rfl ?_
    refine a_s rfl rfl ?_
    refine a_eV1 rfl lX12_63 mo_X12_of (sp_X12_of (d := i) (k := 0) (by omega) (by decide)) rfl rfl rfl ⟨12, _, rfl, rfl, rfl⟩ rfl ?_
    refine a_s3 rfl rfl rfl rfl rfl rfl ?_
    refine a_l0 rfl rfl rfl ?_
    refine a_getq rfl gfX12_13_12 rfl (rfl) ?_
    refine a_l1 rfl rfl rfl ?_
    refine a_s rfl rfl ?_
    refine a_eS1 rfl lX12_60 mo_X12_at (sp_X12_at (d := i) (k := 0)) rfl rfl rfl rfl ?_
    refine a_l2 rfl rfl rfl ?_
    refine a_iastv (k := (23 + 6 * i + 0)) rfl (n := 2033) rfl (inI_nI (by omega) (by omega)) (nI_clamp (by omega)) ?_
    refine a_l3 rfl rfl rfl ?_
    exact a_iret rfl rfl (QA.yes ((if_pos ⟨hz, hz2⟩).trans ((if_neg (by rw [hx]; exact c)).trans (if_neg (by rw [hx]; exact cw)))) (by rw [hx]; exact congrFun e22 _) (by rw [hx]))
theorem h_lean (hs : SO nd np (I 421)) (er : I 420 7 = nI r) (hr12 : r ≤ 12) {x1 x2 : Int32} : Sp S m_X12_lean 16 0 0 [.ref 420, .int x1, .int x2] (hp I L w1 w2 t) (QA I r (vL nd x1 x2) (I 421 (23 + 6 * ixN x1 + 4)) (fun J => up2 J 421 (23 + 6 * ixN x1 + 4) x2) L w1 w2 t) nX := by
  have hn := hs.n
  have hp6 := hs.p
  have e21 : up2 I 420 0 0 421 = I 421 := up2_row (by decide)
  have er0 : up2 I 420 0 0 420 7 = nI r := (up2_ne (Or.inr (by decide))).trans er
  have s0 : SO nd np (up2 I 420 0 0 421) := by rw [e21]; exact hs
  have s1 : SO nd np (remH (up2 I 420 0 0) r 421) := by rw [remH_421]; exact s0
  have e22 : remH (up2 I 420 0 0) r 421 = I 421 := remH_421.trans e21
  refine Sp_of ok_X12_lean rfl rfl ?_
  show AW S m_X12_lean 16 _ _ 0 0 0 [some (.ref 420), some (.int x1), some (.int x2), none] [] (hp I L w1 w2 t)
  refine a_l0 rfl rfl rfl ?_
  refine a_s rfl rfl ?_
  refine a_puti rfl pfX12_3_12 rfl ?_
  refine a_l0 rfl rfl rfl ?_
  refine a_l0 rfl rfl rfl ?_
  refine a_l1 rfl rfl rfl ?_
  refine a_eV1 rfl lX12_289 mo_X12_noDuty (r_X12_noDuty s0) rfl rfl rfl ⟨12, _, rfl, rfl, rfl⟩ rfl ?_
  obtain ⟨z, hz⟩ : ∃ z, inB x1 0 (nI nd - 1) = z := ⟨_, rfl⟩
  rw [hz]
  cases z with
  | false =>
    refine a_if_ne rfl (fun _ => ?_) (fun c => absurd c (by decide))
    refine a_s rfl rfl ?_
    refine a_goto rfl ?_
    refine a_s rfl rfl ?_
    refine a_eV1 rfl lX12_243 mo_X12_throwsIf (h_throwsIf (z := true)) rfl rfl rfl ⟨12, _, rfl, rfl, rfl⟩ rfl ?_
    rw [if_pos rfl]
    refine a_if_ne rfl (fun _ => ?_) (fun c => absurd c (by decide))
    refine a_s rfl rfl ?_
    exact a_iret rfl rfl (QA.no (if_neg (fun z => by rw [hz] at z; exact Bool.false_ne_true z.1)) (by decide))
  | true =>
  refine a_if_ne rfl (fun c => absurd rfl c) (fun _ => ?_)
  obtain ⟨i, hi, rfl⟩ := inB_ix (by omega) hz
  have hx := ixN_nI (i := i) (by omega)
  -- both are there
  have k31 : (x2 = -1 ∨ inB x2 0 (nI nd - 1) = true) → AW S m_X12_lean 16 (QA I r (vL nd (nI i) x2) (I 421 (23 + 6 * ixN (nI i) + 4)) (fun J => up2 J 421 (23 + 6 * ixN (nI i) + 4) x2) L w1 w2 t) nX 0 0 31 [some (.ref 420), some (.int (nI i)), some (.int x2), none] [.ref 420] (hp (up2 I 420 0 0) L w1 w2 t) := by
    intro hy
    refine a_s rfl rfl ?_
    refine a_s rfl rfl ?_
    refine a_eV1 rfl lX12_243 mo_X12_throwsIf (h_throwsIf (z := false)) rfl rfl rfl ⟨12, _, rfl, rfl, rfl⟩ rfl ?_
    rw [if_neg Bool.false_ne_true]
    refine a_if_ne rfl (fun c => absurd rfl c) (fun _ => ?_)
    refine a_l0 rfl rfl rfl ?_
    refine a_l1 rfl rfl rfl ?_
    refine a_l2 rfl rfl rfl ?_
    refine a_ic_ne rfl (fun c => ?_) (fun c => ?_)
    rotate_left
    · refine a_s rfl rfl ?_
      refine a_goto rfl ?_
      refine a_s rfl rfl ?_
      refine a_eV1 rfl lX12_243 mo_X12_throwsIf (h_throwsIf (z := true)) rfl rfl rfl ⟨12, _, rfl, rfl, rfl⟩ rfl ?_
      rw [if_pos rfl]
      refine a_if_eq rfl (fun c => absurd c (by decide)) (fun _ => ?_)
      refine a_s rfl rfl ?_
      exact a_iret rfl rfl (QA.no ((if_pos ⟨hz, hy⟩).trans (if_pos c)) (by decide))
    refine a_s rfl rfl ?_
    refine a_s rfl rfl ?_
    refine a_eV1 rfl lX12_243 mo_X12_throwsIf (h_throwsIf (z := false)) rfl rfl rfl ⟨12, _, rfl, rfl, rfl⟩ rfl ?_
    rw [if_neg Bool.false_ne_true]
    refine a_if_eq rfl (fun _ => ?_) (fun c => absurd rfl c)
    refine a_l0 rfl rfl rfl ?_
    refine a_eV0 rfl lX12_357 mo_X12_remembers (h_remembers er0 hr12) rfl rfl rfl ⟨12, _, rfl, rfl, rfl⟩ rfl ?_
    refine a_l0 rfl rfl rfl ?_
    refine a_l1 rfl rfl rfl ?_
    refine a_s rfl rfl ?_
    refine a_eV1 rfl lX12_63 mo_X12_of (sp_X12_of (d := i) (k := 4) (by omega) (by decide)) rfl rfl rfl ⟨12, _, rfl, rfl, rfl⟩ rfl ?_
    refine a_s3 rfl rfl rfl rfl rfl rfl ?_
    refine a_l0 rfl rfl rfl ?_
    refine a_getq rfl gfX12_13_12 rfl (rfl) ?_
    refine a_l1 rfl rfl rfl ?_
    refine a_s rfl rfl ?_
    refine a_eS1 rfl lX12_60 mo_X12_at (sp_X12_at (d := i) (k := 4)) rfl rfl rfl rfl ?_
    refine a_l2 rfl rfl rfl ?_
    refine a_iastv (k := (23 + 6 * i + 4)) rfl (n := 2033) rfl (inI_nI (by omega) (by omega)) (nI_clamp (by omega)) ?_
    refine a_l3 rfl rfl rfl ?_
    exact a_iret rfl rfl (QA.yes ((if_pos ⟨hz, hy⟩).trans (if_neg c)) (by rw [hx]; exact congrFun e22 _) (by rw [hx]))
  refine a_l2 rfl rfl rfl ?_
  refine a_s rfl rfl ?_
  refine a_ic_eq rfl (fun c => k31 (Or.inl c)) (fun c => ?_)
  refine a_l0 rfl rfl rfl ?_
  refine a_l2 rfl rfl rfl ?_
  refine a_eV1 rfl lX12_289 mo_X12_noDuty (r_X12_noDuty s0) rfl rfl rfl ⟨12, _, rfl, rfl, rfl⟩ rfl ?_
  obtain ⟨z2, hz2⟩ : ∃ z, inB x2 0 (nI nd - 1) = z := ⟨_, rfl⟩
  rw [hz2]
  cases z2 with
  | false =>
    refine a_if_eq rfl (fun c => absurd c (by decide)) (fun _ => ?_)
    refine a_s rfl rfl ?_
    refine a_goto rfl ?_
    refine a_s rfl rfl ?_
    refine a_eV1 rfl lX12_243 mo_X12_throwsIf (h_throwsIf (z := true)) rfl rfl rfl ⟨12, _, rfl, rfl, rfl⟩ rfl ?_
    rw [if_pos rfl]
    refine a_if_ne rfl (fun _ => ?_) (fun c => absurd c (by decide))
    refine a_s rfl rfl ?_
    exact a_iret rfl rfl (QA.no (if_neg (fun z => z.2.elim c (fun y => by rw [hz2] at y; exact Bool.false_ne_true y))) (by decide))
  | true =>
    exact a_if_eq rfl (fun _ => k31 (Or.inr hz2)) (fun c => absurd rfl c)
theorem h_free (hs : SO nd np (I 421)) (er : I 420 7 = nI r) (hr12 : r ≤ 12) {x1 x2 : Int32} : Sp S m_X12_free 16 0 0 [.ref 420, .int x1, .int x2] (hp I L w1 w2 t) (QA I r (vF np x1 x2) (I 421 (11 + 2 * ixN x1 + 1)) (fun J => up2 J 421 (11 + 2 * ixN x1 + 1) x2) L w1 w2 t) nX := by
  have hn := hs.n
  have hp6 := hs.p
  have e21 : up2 I 420 0 0 421 = I 421 := up2_row (by decide)
  have er0 : up2 I 420 0 0 420 7 = nI r := (up2_ne (Or.inr (by decide))).trans er
  have s0 : SO nd np (up2 I 420 0 0 421) := by rw [e21]; exact hs
  have s1 : SO nd np (remH (up2 I 420 0 0) r 421) := by rw [remH_421]; exact s0
  have e22 : remH (up2 I 420 0 0) r 421 = I 421 := remH_421.trans e21
  refine Sp_of ok_X12_free rfl rfl ?_
  show AW S m_X12_free 16 _ _ 0 0 0 [some (.ref 420), some (.int x1), some (.int x2), none] [] (hp I L w1 w2 t)
  refine a_l0 rfl rfl rfl ?_
  refine a_s rfl rfl ?_
  refine a_puti rfl pfX12_3_12 rfl ?_
  refine a_l0 rfl rfl rfl ?_
  refine a_l0 rfl rfl rfl ?_
  refine a_l1 rfl rfl rfl ?_
  refine a_eV1 rfl lX12_342 mo_X12_noPerson (r_X12_noPerson s0) rfl rfl rfl ⟨12, _, rfl, rfl, rfl⟩ rfl ?_
  obtain ⟨z, hz⟩ : ∃ z, inB x1 0 (nI np - 1) = z := ⟨_, rfl⟩
  rw [hz]
  refine a_s rfl rfl ?_
  cases z with
  | false =>
    refine a_eV1 rfl lX12_243 mo_X12_throwsIf (h_throwsIf (z := true)) rfl rfl rfl ⟨12, _, rfl, rfl, rfl⟩ rfl ?_
    rw [if_pos rfl]
    refine a_if_ne rfl (fun _ => ?_) (fun c => absurd c (by decide))
    refine a_s rfl rfl ?_
    exact a_iret rfl rfl (QA.no (if_neg (by rw [hz]; exact Bool.false_ne_true)) (by decide))
  | true =>
  refine a_eV1 rfl lX12_243 mo_X12_throwsIf (h_throwsIf (z := false)) rfl rfl rfl ⟨12, _, rfl, rfl, rfl⟩ rfl ?_
  rw [if_neg Bool.false_ne_true]
  refine a_if_ne rfl (fun c => absurd rfl c) (fun _ => ?_)
  obtain ⟨i, hi, rfl⟩ := inB_ix (by omega) hz
  have hx := ixN_nI (i := i) (by omega)
  refine a_l0 rfl rfl rfl ?_
  refine a_l2 rfl rfl rfl ?_
  refine a_s rfl rfl ?_
  refine a_s rfl rfl ?_
  refine a_eS1 rfl lX12_70 mo_X12_in sp_X12_in rfl rfl rfl rfl ?_
  obtain ⟨z2, hz2⟩ : ∃ z, inB x2 0 9 = z := ⟨_, rfl⟩
  rw [hz2]
  cases z2 with
  | false =>
    refine a_if_ne rfl (fun c => absurd rfl c) (fun _ => ?_)
    refine a_s rfl rfl ?_
    refine a_goto rfl ?_
    refine a_s rfl rfl ?_
    refine a_eV1 rfl lX12_243 mo_X12_throwsIf (h_throwsIf (z := true)) rfl rfl rfl ⟨12, _, rfl, rfl, rfl⟩ rfl ?_
    rw [if_pos rfl]
    refine a_if_eq rfl (fun c => absurd c (by decide)) (fun _ => ?_)
    refine a_s rfl rfl ?_
    exact a_iret rfl rfl (QA.no ((if_pos hz).trans (if_neg (by rw [hz2]; exact Bool.false_ne_true))) (by decide))
  | true =>
    refine a_if_ne rfl (fun _ => ?_) (fun c => absurd c (by decide))
    refine a_s rfl rfl ?_
    refine a_s rfl rfl ?_
    refine a_eV1 rfl lX12_243 mo_X12_throwsIf (h_throwsIf (z := false)) rfl rfl rfl ⟨12, _, rfl, rfl, rfl⟩ rfl ?_
    rw [if_neg Bool.false_ne_true]
    refine a_if_eq rfl (fun _ => ?_) (fun c => absurd rfl c)
    refine a_l0 rfl rfl rfl ?_
    refine a_eV0 rfl lX12_357 mo_X12_remembers (h_remembers er0 hr12) rfl rfl rfl ⟨12, _, rfl, rfl, rfl⟩ rfl ?_
    refine a_l0 rfl rfl rfl ?_
    refine a_l1 rfl rfl rfl ?_
    refine a_s rfl rfl ?_
    refine a_eV1 rfl lX12_252 mo_X12_ofPerson (sp_X12_ofPerson (d := i) (k := 1) (by omega) (by decide)) rfl rfl rfl ⟨12, _, rfl, rfl, rfl⟩ rfl ?_
    refine a_s3 rfl rfl rfl rfl rfl rfl ?_
    refine a_l0 rfl rfl rfl ?_
    refine a_getq rfl gfX12_13_12 rfl (rfl) ?_
    refine a_l1 rfl rfl rfl ?_
    refine a_s rfl rfl ?_
    refine a_eS1 rfl lX12_56 mo_X12_personAt (sp_X12_personAt (d := i) (k := 1)) rfl rfl rfl rfl ?_
    refine a_l2 rfl rfl rfl ?_
    refine a_iastv (k := (11 + 2 * i + 1)) rfl (n := 2033) rfl (inI_nI (by omega) (by omega)) (nI_clamp (by omega)) ?_
    refine a_l3 rfl rfl rfl ?_
    exact a_iret rfl rfl (QA.yes ((if_pos hz).trans (if_pos hz2)) (by rw [hx]; exact congrFun e22 _) (by rw [hx]))
end T79s
end
section
/-! ===== the class's acts, exactly (printed by program) ===== -/
section T79t
variable {S : aS} {I : Nat → Nat → Int32} {L : Nat → Nat → Int64} {w1 w2 t : Nat} {nd np n fa : Nat} {W : Nat → Int32}
set_option maxRecDepth 100000
theorem a_bud {C : aM} {d k1 k2 j1 j2 pc : Nat} {Q : Option Value → aH → Prop} {X : String → aH → Prop} {ls : List (Option Value)} {st : List Value} {h : aH} (h1 : j1 ≤ k1) (h2 : j2 ≤ k2) (k : AW S C d Q X j1 j2 pc ls st h) : AW S C d Q X k1 k2 pc ls st h := by
  intro p l e s m args below meth c H la locs cells slots mc ms G CC hS hL hR hF g1 g2
  exact k p l e s m args below meth c H la locs cells slots mc ms G CC hS hL hR hF (by omega) (by omega)
theorem le_m1 {n : Nat} (hn : n ≤ 12) {x : Int32} : x ≤ nI n - 1 ↔ x < nI n := by
  rcases n with _ | n
  · rw [Int32.le_iff_toInt_le, Int32.lt_iff_toInt_lt]
    show x.toInt ≤ -1 ↔ x.toInt < 0
    omega
  · rw [nI_dec, Int32.le_iff_toInt_le, Int32.lt_iff_toInt_lt, nI_toInt (by omega), nI_toInt (by omega)]
    omega
theorem inB_t {n : Nat} (hn : n ≤ 12) {x : Int32} (h1 : ¬ x < 0) (h2 : x < nI n) : inB x 0 (nI n - 1) = true := decide_eq_true ⟨Int32.not_lt.mp h1, (le_m1 hn).mpr h2⟩
theorem inB_f1 {y x : Int32} (h1 : x < 0) : inB x 0 y = false := decide_eq_false fun z => absurd h1 (Int32.not_lt.mpr z.1)
theorem inB_f2 {n : Nat} (hn : n ≤ 12) {x : Int32} (h2 : ¬ x < nI n) : inB x 0 (nI n - 1) = false := decide_eq_false fun z => h2 ((le_m1 hn).mp z.2)
theorem f_needDuty (h3 : I 235 3 = nI nd) (hn : nd ≤ 12) {x : Int32} : Sp S m_X11_needDuty 13 1 6 [.ref 200, .int x] (hp I L w1 w2 t) (fun v h' => v = none ∧ inB x 0 (nI nd - 1) = true ∧ h' = hp I L w1 w2 t) (fun E h' => E = exN 0 ∧ inB x 0 (nI nd - 1) = false ∧ h' = hp I L w1 w2 0) := by
  refine Sp_of ok_X11_needDuty rfl rfl ?_
  show AW S m_X11_needDuty 13 _ _ 1 6 0 [some (.ref 200), some (.int x)] [] (hp I L w1 w2 t)
  refine a_l1 rfl rfl rfl ?_
  refine a_if_lt rfl (fun c => ?_) (fun c => ?_)
  · exact a_throw rfl rfl rfl rfl tX11_ioobe rfl rfl rfl rfl rfl ⟨rfl, inB_f1 c, rfl⟩
  · refine a_l1 rfl rfl rfl ?_
    refine a_l0 rfl rfl rfl ?_
    refine a_getq rfl gfX11_37_11 rfl (rfl) ?_
    refine a_getiv (v := nI nd) rfl gfX11_182_5 rfl (h3) ?_
    refine a_ic_lt rfl (fun c2 => ?_) (fun c2 => ?_)
    · exact a_vret rfl rfl ⟨rfl, inB_t hn c c2, rfl⟩
    · exact a_throw rfl rfl rfl rfl tX11_ioobe rfl rfl rfl rfl rfl ⟨rfl, inB_f2 hn c2, rfl⟩
theorem f_needPerson (h3 : I 235 0 = nI np) (hn : np ≤ 12) {x : Int32} : Sp S m_X11_needPerson 13 1 6 [.ref 200, .int x] (hp I L w1 w2 t) (fun v h' => v = none ∧ inB x 0 (nI np - 1) = true ∧ h' = hp I L w1 w2 t) (fun E h' => E = exN 0 ∧ inB x 0 (nI np - 1) = false ∧ h' = hp I L w1 w2 0) := by
  refine Sp_of ok_X11_needPerson rfl rfl ?_
  show AW S m_X11_needPerson 13 _ _ 1 6 0 [some (.ref 200), some (.int x)] [] (hp I L w1 w2 t)
  refine a_l1 rfl rfl rfl ?_
  refine a_if_lt rfl (fun c => ?_) (fun c => ?_)
  · exact a_throw rfl rfl rfl rfl tX11_ioobe rfl rfl rfl rfl rfl ⟨rfl, inB_f1 c, rfl⟩
  · refine a_l1 rfl rfl rfl ?_
    refine a_l0 rfl rfl rfl ?_
    refine a_getq rfl gfX11_37_11 rfl (rfl) ?_
    refine a_getiv (v := nI np) rfl gfX11_179_5 rfl (h3) ?_
    refine a_ic_lt rfl (fun c2 => ?_) (fun c2 => ?_)
    · exact a_vret rfl rfl ⟨rfl, inB_t hn c c2, rfl⟩
    · exact a_throw rfl rfl rfl rfl tX11_ioobe rfl rfl rfl rfl rfl ⟨rfl, inB_f2 hn c2, rfl⟩
theorem f_needTwo {x y : Int32} : Sp S m_X11_needTwo 13 1 6 [.int x, .int y] (hp I L w1 w2 t) (fun v h' => v = none ∧ ¬ x = y ∧ h' = hp I L w1 w2 t) (fun E h' => E = exN 1 ∧ x = y ∧ h' = hp I L w1 w2 0) := by
  refine Sp_of ok_X11_needTwo rfl rfl ?_
  show AW S m_X11_needTwo 13 _ _ 1 6 0 [some (.int x), some (.int y)] [] (hp I L w1 w2 t)
  refine a_l0 rfl rfl rfl ?_
  refine a_l1 rfl rfl rfl ?_
  refine a_ic_ne rfl (fun c => ?_) (fun c => ?_)
  · exact a_vret rfl rfl ⟨rfl, c, rfl⟩
  · exact a_throw rfl rfl rfl rfl tX11_iae rfl rfl rfl rfl rfl ⟨rfl, c, rfl⟩
theorem f_needNumber {x y z : Int32} : Sp S m_X11_needNumber 13 1 6 [.int x, .int y, .int z] (hp I L w1 w2 t) (fun v h' => v = none ∧ inB x y z = true ∧ h' = hp I L w1 w2 t) (fun E h' => E = exN 1 ∧ inB x y z = false ∧ h' = hp I L w1 w2 0) := by
  refine Sp_of ok_X11_needNumber rfl rfl ?_
  show AW S m_X11_needNumber 13 _ _ 1 6 0 [some (.int x), some (.int y), some (.int z)] [] (hp I L w1 w2 t)
  refine a_l0 rfl rfl rfl ?_
  refine a_l1 rfl rfl rfl ?_
  refine a_ic_lt rfl (fun c => ?_) (fun c => ?_)
  · exact a_throw rfl rfl rfl rfl tX11_iae rfl rfl rfl rfl rfl ⟨rfl, decide_eq_false fun q => absurd c (Int32.not_lt.mpr q.1), rfl⟩
  · refine a_l0 rfl rfl rfl ?_
    refine a_l2 rfl rfl rfl ?_
    refine a_ic_le rfl (fun c2 => ?_) (fun c2 => ?_)
    · exact a_vret rfl rfl ⟨rfl, decide_eq_true ⟨Int32.not_lt.mp c, c2⟩, rfl⟩
    · exact a_throw rfl rfl rfl rfl tX11_iae rfl rfl rfl rfl rfl ⟨rfl, decide_eq_false fun q => c2 q.2, rfl⟩
theorem f_needState {i : Nat} (hi : i < 12) {y : Int32} : Sp S m_X11_needState 13 1 6 [.ref 200, .int (nI i), .int y] (hp I L w1 w2 t) (fun v h' => v = none ∧ I 243 i = y ∧ h' = hp I L w1 w2 t) (fun E h' => E = exN 2 ∧ ¬ I 243 i = y ∧ h' = hp I L w1 w2 0) := by
  refine Sp_of ok_X11_needState rfl rfl ?_
  show AW S m_X11_needState 13 _ _ 1 6 0 [some (.ref 200), some (.int (nI i)), some (.int y)] [] (hp I L w1 w2 t)
  refine a_l0 rfl rfl rfl ?_
  refine a_getq rfl gfX11_37_11 rfl (rfl) ?_
  refine a_getq rfl gfX11_159_5 rfl (rfl) ?_
  refine a_l1 rfl rfl rfl ?_
  refine a_eS1 rfl lX11_117 mo_X11_at (sp_X11_at rfl) rfl rfl rfl rfl ?_
  rw [atF_nI hi (by decide)]
  refine a_l2 rfl rfl rfl ?_
  refine a_ic_eq rfl (fun c => ?_) (fun c => ?_)
  · exact a_vret rfl rfl ⟨rfl, c, rfl⟩
  · exact a_throw rfl rfl rfl rfl tX11_ise rfl rfl rfl rfl rfl ⟨rfl, c, rfl⟩
theorem rem12 : ∀ k, k < 24 → nI k - nI k / 12 * 12 = nI (k % 12) := by decide +kernel
theorem f_pastAt {k : Nat} (hk : k < 24) : SpE S m_X11_pastAt 12 [.ref 200, .int (nI k)] (hp I L w1 w2 t) (some (.ref (288 + 11 * (k % 12)))) (hp I L w1 w2 t) := by
  have hm : k % 12 < 12 := Nat.mod_lt _ (by decide)
  refine SpE_of ok_X11_pastAt rfl rfl ?_
  show AW S m_X11_pastAt 12 _ _ 0 0 0 [some (.ref 200), some (.int (nI k)), none] [] (hp I L w1 w2 t)
  refine a_l1 rfl rfl rfl ?_
  refine a_s rfl rfl ?_
  refine a_irem rfl (by decide) ?_
  refine a_top (y := nI (k % 12)) (rem12 k hk) ?_
  refine a_s2 rfl rfl rfl rfl rfl rfl ?_
  refine a_l2 rfl rfl rfl ?_
  refine a_if_lt rfl (fun c => absurd c (nI_pos (by omega))) (fun _ => ?_)
  refine a_l2 rfl rfl rfl ?_
  refine a_l0 rfl rfl rfl ?_
  refine a_getq rfl gfX11_64_11 rfl (rfl) ?_
  refine a_len rfl rfl rfl rfl ?_
  refine a_ic_ge rfl (fun c => absurd c (nI_ge (b := 12) hm (by omega))) (fun _ => ?_)
  refine a_l0 rfl rfl rfl ?_
  refine a_getq rfl gfX11_64_11 rfl (rfl) ?_
  refine a_l2 rfl rfl rfl ?_
  refine a_aald (q := 288 + 11 * (k % 12) + 1) rfl rfl (inI_nI hm (by decide)) (by rw [nI_clamp (by omega)]; exact past_R _ hm) ?_
  refine a_goto rfl ?_
  exact a_aret (q := 288 + 11 * (k % 12) + 1) rfl rfl rfl ⟨rfl, rfl⟩
/-- now is kept as the latest of twelve at most -/
def reS (I : Nat → Nat → Int32) (n fa : Nat) : Nat → Nat → Int32 := if n = 12 then up2 (cpS (up2 (up2 I 200 12 (nI ((fa + 1) % 12))) 200 13 (nI 11)) (288 + 11 * (((fa + 1) % 12 + 11) % 12)) 235 11) 200 13 (nI 12) else up2 (cpS I (288 + 11 * ((fa + n) % 12)) 235 11) 200 13 (nI (n + 1))
theorem f_remember2 {J : Nat → Nat → Int32} {f m : Nat} (h12 : J 200 12 = nI f) (hf : f < 12) (h13 : J 200 13 = nI m) (hm : m < 12) {Q : Option Value → aH → Prop} {X : String → aH → Prop} {u : Option Value} (k : Q none (hp (up2 (cpS J (288 + 11 * ((f + m) % 12)) 235 11) 200 13 (nI (m + 1))) L w1 w2 t)) : AW S m_X11_rememberAct 15 Q X 0 0 32 [some (.ref 200), u] [] (hp J L w1 w2 t) := by
  have hi : (f + m) % 12 < 12 := Nat.mod_lt _ (by decide)
  refine a_l0 rfl rfl rfl ?_
  refine a_l0 rfl rfl rfl ?_
  refine a_getiv (v := nI f) rfl gfX11_368_11 rfl (h12) ?_
  refine a_l0 rfl rfl rfl ?_
  refine a_getiv (v := nI m) rfl gfX11_95_11 rfl (h13) ?_
  refine a_s rfl rfl ?_
  refine a_top (y := nI (f + m)) (nI_addl f m) ?_
  refine a_eV1 rfl lX11_371 mo_X11_pastAt (f_pastAt (k := f + m) (by omega)) rfl rfl rfl ⟨11, _, rfl, rfl, rfl⟩ rfl ?_
  refine a_s1 rfl rfl rfl rfl rfl rfl ?_
  refine a_l1 rfl rfl rfl ?_
  refine a_ifnull_f rfl ?_
  refine a_l1 rfl rfl rfl ?_
  refine a_l0 rfl rfl rfl ?_
  refine a_getq rfl gfX11_37_11 rfl (rfl) ?_
  refine a_eV0 rfl lX11_375 mo_X5_copyAll (sp_X5_copyAll (a := 288 + 11 * ((f + m) % 12)) (b := 235) (past_st _ hi) (by decide) (by omega)) rfl rfl rfl ⟨5, _, kS0 (past_st _ hi), rfl, rfl⟩ rfl ?_
  refine a_l0 rfl rfl rfl ?_
  refine a_s rfl rfl ?_
  refine a_getiv (v := nI m) rfl gfX11_95_11 rfl ((congrFun (cpS_out (by omega)) 13).trans h13) ?_
  refine a_s rfl rfl ?_
  refine a_s rfl rfl ?_
  refine a_top (y := nI (m + 1)) ((nI_succ m).symm) ?_
  refine a_puti rfl pfX11_95_11 rfl ?_
  exact a_vret rfl rfl k
theorem f_remember (h13 : I 200 13 = nI n) (hn : n ≤ 12) (h12 : I 200 12 = nI fa) (hf : fa < 12) : SpE S m_X11_rememberAct 15 [.ref 200] (hp I L w1 w2 t) none (hp (reS I n fa) L w1 w2 t) := by
  refine SpE_of ok_X11_rememberAct rfl rfl ?_
  show AW S m_X11_rememberAct 15 _ _ 0 0 0 [some (.ref 200), none] [] (hp I L w1 w2 t)
  refine a_l0 rfl rfl rfl ?_
  refine a_getiv (v := nI n) rfl gfX11_95_11 rfl (h13) ?_
  refine a_s rfl rfl ?_
  refine a_ic_ne rfl (fun c => ?_) (fun c => ?_)
  · have n12 : ¬ n = 12 := fun z => c (by rw [z]; rfl)
    unfold reS
    rw [if_neg n12]
    exact f_remember2 h12 hf h13 (by omega) ⟨rfl, rfl⟩
  · have n12 : n = 12 := nI_inj (by omega) (by decide) c
    unfold reS
    rw [if_pos n12]
    refine a_l0 rfl rfl rfl ?_
    refine a_l0 rfl rfl rfl ?_
    refine a_getiv (v := nI fa) rfl gfX11_368_11 rfl (h12) ?_
    refine a_s rfl rfl ?_
    refine a_s rfl rfl ?_
    refine a_top (y := nI (fa + 1)) ((nI_succ fa).symm) ?_
    refine a_s rfl rfl ?_
    refine a_irem rfl (by decide) ?_
    refine a_top (y := nI ((fa + 1) % 12)) (rem12 (fa + 1) (by omega)) ?_
    refine a_puti rfl pfX11_368_11 rfl ?_
    refine a_l0 rfl rfl rfl ?_
    refine a_s rfl rfl ?_
    refine a_getiv (v := nI 12) rfl gfX11_95_11 rfl ((up2_ne (Or.inr (by decide))).trans (h13.trans (by rw [n12]))) ?_
    refine a_s rfl rfl ?_
    refine a_s rfl rfl ?_
    refine a_top (y := nI 11) (rfl) ?_
    refine a_puti rfl pfX11_95_11 rfl ?_
    exact f_remember2 (f := (fa + 1) % 12) (m := 11) ((up2_ne (Or.inr (by decide))).trans up2_at) (Nat.mod_lt _ (by decide)) up2_at (by decide) ⟨rfl, rfl⟩
theorem reS_row {q : Nat} (h0 : q ≠ 200) (h1 : q < 288 ∨ 420 ≤ q) : reS I n fa q = I q := by
  have m1 : ((fa + 1) % 12 + 11) % 12 < 12 := Nat.mod_lt _ (by decide)
  have m2 : (fa + n) % 12 < 12 := Nat.mod_lt _ (by decide)
  unfold reS
  by_cases c : n = 12
  · rw [if_pos c, up2_row h0, cpS_out (by omega), up2_row h0, up2_row h0]
  · rw [if_neg c, up2_row h0, cpS_out (by omega)]
def QAc (I : Nat → Nat → Int32) (n fa : Nat) (c v : Int32) (f : (Nat → Nat → Int32) → Nat → Nat → Int32) (L : Nat → Nat → Int64) (w1 w2 t : Nat) : Option Value → aH → Prop := fun v' h' => c = 0 ∧ v' = some (.int v) ∧ h' = hp (f (reS I n fa)) L w1 w2 t
def XAc (I : Nat → Nat → Int32) (c : Int32) (ks : List (Int32 × Nat)) (L : Nat → Nat → Int64) (w1 w2 : Nat) : String → aH → Prop := fun E h' => (∃ x ∈ ks, c = x.1 ∧ E = exN x.2) ∧ h' = hp I L w1 w2 0
theorem QAc.yes {c v x : Int32} {f : (Nat → Nat → Int32) → Nat → Nat → Int32} {J : Nat → Nat → Int32} (hc : c = 0) (hx : x = v) (hJ : J = f (reS I n fa)) : QAc I n fa c v f L w1 w2 t (some (.int x)) (hp J L w1 w2 t) := ⟨hc, by rw [hx], by rw [hJ]⟩
theorem f_put (hD : Sd I 235 W) (hW : WOk W) (h13 : I 200 13 = nI n) (hn : n ≤ 12) (h12 : I 200 12 = nI fa) (hf : fa < 12) {x1 : Int32} : Sp S m_X11_put 16 2 12 [.ref 200, .int x1] (hp I L w1 w2 t) (QAc I n fa (vS (dn W) W 0 x1) (mn 99 (W (23 + 6 * ixN x1 + 2) + 1)) (fun J => up2 J 240 (ixN x1) (mn 99 (W (23 + 6 * ixN x1 + 2) + 1))) L w1 w2 t) (XAc I (vS (dn W) W 0 x1) [(1, 0), (2, 2)] L w1 w2) := by
  have hd3 : I 235 3 = nI (dn W) := (Sd.fd hD (f := 3) (g := 1) (by decide)).trans hW.2.2.2
  have hp0 : I 235 0 = nI (pn W) := (Sd.fd hD (f := 0) (g := 0) (by decide)).trans hW.2.2.1
  have hd12 := hW.2.1
  have hp6 := hW.1
  refine Sp_of ok_X11_put rfl rfl ?_
  show AW S m_X11_put 16 _ _ 2 12 0 [some (.ref 200), some (.int x1)] [] (hp I L w1 w2 t)
  refine a_l0 rfl rfl rfl ?_
  refine a_l1 rfl rfl rfl ?_
  refine a_callV rfl lX11_141 mo_X11_needDuty (f_needDuty hd3 (by omega)) rfl rfl rfl ⟨11, _, rfl, rfl, rfl⟩ rfl (fun v' h' hv => ?_) (fun E h' ex => ?_)
  rotate_left
  · obtain ⟨rfl, hz, rfl⟩ := ex
    exact ⟨⟨_, List.mem_cons_self, (if_neg (by rw [hz]; exact Bool.false_ne_true)), rfl⟩, rfl⟩
  obtain ⟨rfl, hz, rfl⟩ := hv
  obtain ⟨i, hi, rfl⟩ := inB_ix (by omega) hz
  have hx := ixN_nI (i := i) (by omega)
  have e5 : I 243 i = W (23 + 6 * i + 5) := hD.2.2 i (by omega) 5 (by decide)
  refine a_l0 rfl rfl rfl ?_
  refine a_l1 rfl rfl rfl ?_
  refine a_s rfl rfl ?_
  refine a_callV rfl lX11_236 mo_X11_needState (f_needState (i := i) (y := 0) (by omega)) rfl rfl rfl ⟨11, _, rfl, rfl, rfl⟩ rfl (fun v' h' hv => ?_) (fun E h' ex => ?_)
  rotate_left
  · obtain ⟨rfl, hz2, rfl⟩ := ex
    exact ⟨⟨_, (List.mem_cons_of_mem _ List.mem_cons_self), ((if_pos hz).trans (if_neg (by rw [hx, ← e5]; exact hz2))), rfl⟩, rfl⟩
  obtain ⟨rfl, hz2, rfl⟩ := hv
  have vy : vS (dn W) W 0 (nI i) = 0 := (if_pos hz).trans (if_pos (by rw [hx, ← e5]; exact hz2))
  refine a_l0 rfl rfl rfl ?_
  refine a_eV0 rfl lX11_230 mo_X11_rememberAct (f_remember h13 hn h12 hf) rfl rfl rfl ⟨11, _, rfl, rfl, rfl⟩ rfl ?_
  have e2 : reS I n fa 240 i = W (23 + 6 * i + 2) := (congrFun (reS_row (by decide) (by decide)) i).trans (hD.2.2 i (by omega) 2 (by decide))
  refine a_l0 rfl rfl rfl ?_
  refine a_getq rfl gfX11_37_11 rfl (rfl) ?_
  refine a_l1 rfl rfl rfl ?_
  refine a_eV0 rfl lX11_240 mo_X5_growOlder (sp_X5_growOlder (a := 235) (by decide)) rfl rfl rfl ⟨5, _, rfl, rfl, rfl⟩ rfl ?_
  have eg : growF (reS I n fa) 235 (nI i) = up2 (reS I n fa) 240 i (mn 99 (W (23 + 6 * i + 2) + 1)) := by
    unfold growF
    rw [setF_nI (show i < 12 by omega) (by decide), atF_nI (show i < 12 by omega) (by decide), show reS I n fa (235 + 5) i = W (23 + 6 * i + 2) from e2]
    rfl
  rw [eg]
  refine a_l0 rfl rfl rfl ?_
  refine a_getq rfl gfX11_37_11 rfl (rfl) ?_
  refine a_getq rfl gfX11_150_5 rfl (rfl) ?_
  refine a_l1 rfl rfl rfl ?_
  refine a_eS1 rfl lX11_117 mo_X11_at (sp_X11_at rfl) rfl rfl rfl rfl ?_
  exact a_iret rfl rfl (QAc.yes vy (by rw [atF_nI (show i < 12 by omega) (by decide), hx]; exact up2_at) (by rw [hx]))
theorem f_forget (hD : Sd I 235 W) (hW : WOk W) (h13 : I 200 13 = nI n) (hn : n ≤ 12) (h12 : I 200 12 = nI fa) (hf : fa < 12) {x1 : Int32} : Sp S m_X11_forget 16 2 12 [.ref 200, .int x1] (hp I L w1 w2 t) (QAc I n fa (vS (dn W) W 0 x1) (W (23 + 6 * ixN x1 + 1)) (fun J => up2 J 243 (ixN x1) 2) L w1 w2 t) (XAc I (vS (dn W) W 0 x1) [(1, 0), (2, 2)] L w1 w2) := by
  have hd3 : I 235 3 = nI (dn W) := (Sd.fd hD (f := 3) (g := 1) (by decide)).trans hW.2.2.2
  have hp0 : I 235 0 = nI (pn W) := (Sd.fd hD (f := 0) (g := 0) (by decide)).trans hW.2.2.1
  have hd12 := hW.2.1
  have hp6 := hW.1
  refine Sp_of ok_X11_forget rfl rfl ?_
  show AW S m_X11_forget 16 _ _ 2 12 0 [some (.ref 200), some (.int x1)] [] (hp I L w1 w2 t)
  refine a_l0 rfl rfl rfl ?_
  refine a_l1 rfl rfl rfl ?_
  refine a_callV rfl lX11_141 mo_X11_needDuty (f_needDuty hd3 (by omega)) rfl rfl rfl ⟨11, _, rfl, rfl, rfl⟩ rfl (fun v' h' hv => ?_) (fun E h' ex => ?_)
  rotate_left
  · obtain ⟨rfl, hz, rfl⟩ := ex
    exact ⟨⟨_, List.mem_cons_self, (if_neg (by rw [hz]; exact Bool.false_ne_true)), rfl⟩, rfl⟩
  obtain ⟨rfl, hz, rfl⟩ := hv
  obtain ⟨i, hi, rfl⟩ := inB_ix (by omega) hz
  have hx := ixN_nI (i := i) (by omega)
  have e5 : I 243 i = W (23 + 6 * i + 5) := hD.2.2 i (by omega) 5 (by decide)
  refine a_l0 rfl rfl rfl ?_
  refine a_l1 rfl rfl rfl ?_
  refine a_s rfl rfl ?_
  refine a_callV rfl lX11_236 mo_X11_needState (f_needState (i := i) (y := 0) (by omega)) rfl rfl rfl ⟨11, _, rfl, rfl, rfl⟩ rfl (fun v' h' hv => ?_) (fun E h' ex => ?_)
  rotate_left
  · obtain ⟨rfl, hz2, rfl⟩ := ex
    exact ⟨⟨_, (List.mem_cons_of_mem _ List.mem_cons_self), ((if_pos hz).trans (if_neg (by rw [hx, ← e5]; exact hz2))), rfl⟩, rfl⟩
  obtain ⟨rfl, hz2, rfl⟩ := hv
  have vy : vS (dn W) W 0 (nI i) = 0 := (if_pos hz).trans (if_pos (by rw [hx, ← e5]; exact hz2))
  refine a_l0 rfl rfl rfl ?_
  refine a_eV0 rfl lX11_230 mo_X11_rememberAct (f_remember h13 hn h12 hf) rfl rfl rfl ⟨11, _, rfl, rfl, rfl⟩ rfl ?_
  refine a_l0 rfl rfl rfl ?_
  refine a_getq rfl gfX11_37_11 rfl (rfl) ?_
  refine a_getq rfl gfX11_159_5 rfl (rfl) ?_
  refine a_l1 rfl rfl rfl ?_
  refine a_s rfl rfl ?_
  refine a_eS0 rfl lX11_243 mo_X11_setAt (sp_X11_setAt rfl) rfl rfl rfl rfl ?_
  rw [setF_nI (show i < 12 by omega) (by decide)]
  refine a_l0 rfl rfl rfl ?_
  refine a_getq rfl gfX11_37_11 rfl (rfl) ?_
  refine a_getq rfl gfX11_147_5 rfl (rfl) ?_
  refine a_l1 rfl rfl rfl ?_
  refine a_eS1 rfl lX11_117 mo_X11_at (sp_X11_at rfl) rfl rfl rfl rfl ?_
  exact a_iret rfl rfl (QAc.yes vy (by rw [atF_nI (show i < 12 by omega) (by decide), hx, up2_row (by decide), reS_row (by decide) (by decide)]; exact hD.2.2 i (by omega) 1 (by decide)) (by rw [hx]))
theorem f_recall (hD : Sd I 235 W) (hW : WOk W) (h13 : I 200 13 = nI n) (hn : n ≤ 12) (h12 : I 200 12 = nI fa) (hf : fa < 12) {x1 : Int32} : Sp S m_X11_recall 16 2 12 [.ref 200, .int x1] (hp I L w1 w2 t) (QAc I n fa (vS (dn W) W 2 x1) (W (23 + 6 * ixN x1 + 2)) (fun J => up2 J 243 (ixN x1) 0) L w1 w2 t) (XAc I (vS (dn W) W 2 x1) [(1, 0), (2, 2)] L w1 w2) := by
  have hd3 : I 235 3 = nI (dn W) := (Sd.fd hD (f := 3) (g := 1) (by decide)).trans hW.2.2.2
  have hp0 : I 235 0 = nI (pn W) := (Sd.fd hD (f := 0) (g := 0) (by decide)).trans hW.2.2.1
  have hd12 := hW.2.1
  have hp6 := hW.1
  refine Sp_of ok_X11_recall rfl rfl ?_
  show AW S m_X11_recall 16 _ _ 2 12 0 [some (.ref 200), some (.int x1)] [] (hp I L w1 w2 t)
  refine a_l0 rfl rfl rfl ?_
  refine a_l1 rfl rfl rfl ?_
  refine a_callV rfl lX11_141 mo_X11_needDuty (f_needDuty hd3 (by omega)) rfl rfl rfl ⟨11, _, rfl, rfl, rfl⟩ rfl (fun v' h' hv => ?_) (fun E h' ex => ?_)
  rotate_left
  · obtain ⟨rfl, hz, rfl⟩ := ex
    exact ⟨⟨_, List.mem_cons_self, (if_neg (by rw [hz]; exact Bool.false_ne_true)), rfl⟩, rfl⟩
  obtain ⟨rfl, hz, rfl⟩ := hv
  obtain ⟨i, hi, rfl⟩ := inB_ix (by omega) hz
  have hx := ixN_nI (i := i) (by omega)
  have e5 : I 243 i = W (23 + 6 * i + 5) := hD.2.2 i (by omega) 5 (by decide)
  refine a_l0 rfl rfl rfl ?_
  refine a_l1 rfl rfl rfl ?_
  refine a_s rfl rfl ?_
  refine a_callV rfl lX11_236 mo_X11_needState (f_needState (i := i) (y := 2) (by omega)) rfl rfl rfl ⟨11, _, rfl, rfl, rfl⟩ rfl (fun v' h' hv => ?_) (fun E h' ex => ?_)
  rotate_left
  · obtain ⟨rfl, hz2, rfl⟩ := ex
    exact ⟨⟨_, (List.mem_cons_of_mem _ List.mem_cons_self), ((if_pos hz).trans (if_neg (by rw [hx, ← e5]; exact hz2))), rfl⟩, rfl⟩
  obtain ⟨rfl, hz2, rfl⟩ := hv
  have vy : vS (dn W) W 2 (nI i) = 0 := (if_pos hz).trans (if_pos (by rw [hx, ← e5]; exact hz2))
  refine a_l0 rfl rfl rfl ?_
  refine a_eV0 rfl lX11_230 mo_X11_rememberAct (f_remember h13 hn h12 hf) rfl rfl rfl ⟨11, _, rfl, rfl, rfl⟩ rfl ?_
  refine a_l0 rfl rfl rfl ?_
  refine a_getq rfl gfX11_37_11 rfl (rfl) ?_
  refine a_getq rfl gfX11_159_5 rfl (rfl) ?_
  refine a_l1 rfl rfl rfl ?_
  refine a_s rfl rfl ?_
  refine a_eS0 rfl lX11_243 mo_X11_setAt (sp_X11_setAt rfl) rfl rfl rfl rfl ?_
  rw [setF_nI (show i < 12 by omega) (by decide)]
  refine a_l0 rfl rfl rfl ?_
  refine a_getq rfl gfX11_37_11 rfl (rfl) ?_
  refine a_getq rfl gfX11_150_5 rfl (rfl) ?_
  refine a_l1 rfl rfl rfl ?_
  refine a_eS1 rfl lX11_117 mo_X11_at (sp_X11_at rfl) rfl rfl rfl rfl ?_
  exact a_iret rfl rfl (QAc.yes vy (by rw [atF_nI (show i < 12 by omega) (by decide), hx, up2_row (by decide), reS_row (by decide) (by decide)]; exact hD.2.2 i (by omega) 2 (by decide)) (by rw [hx]))
theorem f_hand (hD : Sd I 235 W) (hW : WOk W) (h13 : I 200 13 = nI n) (hn : n ≤ 12) (h12 : I 200 12 = nI fa) (hf : fa < 12) {x1 x2 : Int32} : Sp S m_X11_hand 16 4 24 [.ref 200, .int x1, .int x2] (hp I L w1 w2 t) (QAc I n fa (vH (dn W) (pn W) W x1 x2) (W (23 + 6 * ixN x1 + 0)) (fun J => up2 J 238 (ixN x1) x2) L w1 w2 t) (XAc I (vH (dn W) (pn W) W x1 x2) [(1, 0), (2, 1), (3, 2)] L w1 w2) := by
  have hd3 : I 235 3 = nI (dn W) := (Sd.fd hD (f := 3) (g := 1) (by decide)).trans hW.2.2.2
  have hp0 : I 235 0 = nI (pn W) := (Sd.fd hD (f := 0) (g := 0) (by decide)).trans hW.2.2.1
  have hd12 := hW.2.1
  have hp6 := hW.1
  refine Sp_of ok_X11_hand rfl rfl ?_
  show AW S m_X11_hand 16 _ _ 4 24 0 [some (.ref 200), some (.int x1), some (.int x2), none] [] (hp I L w1 w2 t)
  refine a_l0 rfl rfl rfl ?_
  refine a_l1 rfl rfl rfl ?_
  refine a_callV rfl lX11_141 mo_X11_needDuty (f_needDuty hd3 (by omega)) rfl rfl rfl ⟨11, _, rfl, rfl, rfl⟩ rfl (fun v' h' hv => ?_) (fun E h' ex => ?_)
  rotate_left
  · obtain ⟨rfl, hz, rfl⟩ := ex
    exact ⟨⟨_, List.mem_cons_self, (if_neg (fun z => by rw [hz] at z; exact Bool.false_ne_true z.1)), rfl⟩, rfl⟩
  obtain ⟨rfl, hz, rfl⟩ := hv
  obtain ⟨i, hi, rfl⟩ := inB_ix (by omega) hz
  have hx := ixN_nI (i := i) (by omega)
  have e0 : I 238 i = W (23 + 6 * i + 0) := hD.2.2 i (by omega) 0 (by decide)
  have e5 : I 243 i = W (23 + 6 * i + 5) := hD.2.2 i (by omega) 5 (by decide)
  refine a_l0 rfl rfl rfl ?_
  refine a_l2 rfl rfl rfl ?_
  refine a_callV rfl lX11_110 mo_X11_needPerson (f_needPerson hp0 (by omega)) rfl rfl rfl ⟨11, _, rfl, rfl, rfl⟩ rfl (fun v' h' hv => ?_) (fun E h' ex => ?_)
  rotate_left
  · obtain ⟨rfl, hz2, rfl⟩ := ex
    exact ⟨⟨_, List.mem_cons_self, (if_neg (fun z => by rw [hz2] at z; exact Bool.false_ne_true z.2)), rfl⟩, rfl⟩
  obtain ⟨rfl, hz2, rfl⟩ := hv
  refine a_l0 rfl rfl rfl ?_
  refine a_getq rfl gfX11_37_11 rfl (rfl) ?_
  refine a_getq rfl gfX11_144_5 rfl (rfl) ?_
  refine a_l1 rfl rfl rfl ?_
  refine a_eS1 rfl lX11_117 mo_X11_at (sp_X11_at rfl) rfl rfl rfl rfl ?_
  refine a_top (y := W (23 + 6 * i + 0)) ((atF_nI (show i < 12 by omega) (by decide)).trans e0) ?_
  refine a_s3 rfl rfl rfl rfl rfl rfl ?_
  refine a_l3 rfl rfl rfl ?_
  refine a_l2 rfl rfl rfl ?_
  refine a_callS rfl lX11_247 mo_X11_needTwo (f_needTwo) rfl rfl rfl rfl (fun v' h' hv => ?_) (fun E h' ex => ?_)
  rotate_left
  · obtain ⟨rfl, hz3, rfl⟩ := ex
    exact ⟨⟨_, (List.mem_cons_of_mem _ List.mem_cons_self), ((if_pos ⟨hz, hz2⟩).trans (if_pos (by rw [hx]; exact hz3))), rfl⟩, rfl⟩
  obtain ⟨rfl, hz3, rfl⟩ := hv
  refine a_l0 rfl rfl rfl ?_
  refine a_getq rfl gfX11_37_11 rfl (rfl) ?_
  refine a_getq rfl gfX11_159_5 rfl (rfl) ?_
  refine a_l1 rfl rfl rfl ?_
  refine a_eS1 rfl lX11_117 mo_X11_at (sp_X11_at rfl) rfl rfl rfl rfl ?_
  refine a_top (y := W (23 + 6 * i + 5)) ((atF_nI (show i < 12 by omega) (by decide)).trans e5) ?_
  refine a_s rfl rfl ?_
  refine a_ic_ne rfl (fun c => ?_) (fun c => ?_)
  rotate_left
  · exact a_throw rfl rfl rfl rfl tX11_ise rfl rfl rfl rfl rfl ⟨⟨_, (List.mem_cons_of_mem _ (List.mem_cons_of_mem _ List.mem_cons_self)), (if_pos ⟨hz, hz2⟩).trans ((if_neg (by rw [hx]; exact hz3)).trans (if_pos (by rw [hx]; exact c))), rfl⟩, rfl⟩
  refine a_l0 rfl rfl rfl ?_
  refine a_eV0 rfl lX11_230 mo_X11_rememberAct (f_remember h13 hn h12 hf) rfl rfl rfl ⟨11, _, rfl, rfl, rfl⟩ rfl ?_
  refine a_l0 rfl rfl rfl ?_
  refine a_getq rfl gfX11_37_11 rfl (rfl) ?_
  refine a_getq rfl gfX11_144_5 rfl (rfl) ?_
  refine a_l1 rfl rfl rfl ?_
  refine a_l2 rfl rfl rfl ?_
  refine a_eS0 rfl lX11_243 mo_X11_setAt (sp_X11_setAt rfl) rfl rfl rfl rfl ?_
  rw [setF_nI (show i < 12 by omega) (by decide)]
  refine a_l3 rfl rfl rfl ?_
  exact a_iret rfl rfl (QAc.yes ((if_pos ⟨hz, hz2⟩).trans ((if_neg (by rw [hx]; exact hz3)).trans (if_neg (by rw [hx]; exact c)))) (by rw [hx]) (by rw [hx]))
theorem f_lean (hD : Sd I 235 W) (hW : WOk W) (h13 : I 200 13 = nI n) (hn : n ≤ 12) (h12 : I 200 12 = nI fa) (hf : fa < 12) {x1 x2 : Int32} : Sp S m_X11_lean 16 3 18 [.ref 200, .int x1, .int x2] (hp I L w1 w2 t) (QAc I n fa (vL (dn W) x1 x2) (W (23 + 6 * ixN x1 + 4)) (fun J => up2 J 242 (ixN x1) x2) L w1 w2 t) (XAc I (vL (dn W) x1 x2) [(1, 0), (2, 1)] L w1 w2) := by
  have hd3 : I 235 3 = nI (dn W) := (Sd.fd hD (f := 3) (g := 1) (by decide)).trans hW.2.2.2
  have hp0 : I 235 0 = nI (pn W) := (Sd.fd hD (f := 0) (g := 0) (by decide)).trans hW.2.2.1
  have hd12 := hW.2.1
  have hp6 := hW.1
  refine Sp_of ok_X11_lean rfl rfl ?_
  show AW S m_X11_lean 16 _ _ 3 18 0 [some (.ref 200), some (.int x1), some (.int x2), none] [] (hp I L w1 w2 t)
  refine a_l0 rfl rfl rfl ?_
  refine a_l1 rfl rfl rfl ?_
  refine a_callV rfl lX11_141 mo_X11_needDuty (f_needDuty hd3 (by omega)) rfl rfl rfl ⟨11, _, rfl, rfl, rfl⟩ rfl (fun v' h' hv => ?_) (fun E h' ex => ?_)
  rotate_left
  · obtain ⟨rfl, hz, rfl⟩ := ex
    exact ⟨⟨_, List.mem_cons_self, (if_neg (fun z => by rw [hz] at z; exact Bool.false_ne_true z.1)), rfl⟩, rfl⟩
  obtain ⟨rfl, hz, rfl⟩ := hv
  obtain ⟨i, hi, rfl⟩ := inB_ix (by omega) hz
  have hx := ixN_nI (i := i) (by omega)
  have e4 : I 242 i = W (23 + 6 * i + 4) := hD.2.2 i (by omega) 4 (by decide)
  have k15 : (x2 = -1 ∨ inB x2 0 (nI (dn W) - 1) = true) → AW S m_X11_lean 16 (QAc I n fa (vL (dn W) (nI i) x2) (W (23 + 6 * ixN (nI i) + 4)) (fun J => up2 J 242 (ixN (nI i)) x2) L w1 w2 t) (XAc I (vL (dn W) (nI i) x2) [(1, 0), (2, 1)] L w1 w2) 1 6 15 [some (.ref 200), some (.int (nI i)), some (.int x2), none] [] (hp I L w1 w2 t) := by
    intro hy
    refine a_l1 rfl rfl rfl ?_
    refine a_l2 rfl rfl rfl ?_
    refine a_callS rfl lX11_247 mo_X11_needTwo (f_needTwo) rfl rfl rfl rfl (fun v' h' hv => ?_) (fun E h' ex => ?_)
    rotate_left
    · obtain ⟨rfl, hz3, rfl⟩ := ex
      exact ⟨⟨_, (List.mem_cons_of_mem _ List.mem_cons_self), (if_pos ⟨hz, hy⟩).trans (if_pos hz3), rfl⟩, rfl⟩
    obtain ⟨rfl, hz3, rfl⟩ := hv
    refine a_l0 rfl rfl rfl ?_
    refine a_getq rfl gfX11_37_11 rfl (rfl) ?_
    refine a_getq rfl gfX11_156_5 rfl (rfl) ?_
    refine a_l1 rfl rfl rfl ?_
    refine a_eS1 rfl lX11_117 mo_X11_at (sp_X11_at rfl) rfl rfl rfl rfl ?_
    refine a_top (y := W (23 + 6 * i + 4)) ((atF_nI (show i < 12 by omega) (by decide)).trans e4) ?_
    refine a_s3 rfl rfl rfl rfl rfl rfl ?_
    refine a_l0 rfl rfl rfl ?_
    refine a_eV0 rfl lX11_230 mo_X11_rememberAct (f_remember h13 hn h12 hf) rfl rfl rfl ⟨11, _, rfl, rfl, rfl⟩ rfl ?_
    refine a_l0 rfl rfl rfl ?_
    refine a_getq rfl gfX11_37_11 rfl (rfl) ?_
    refine a_getq rfl gfX11_156_5 rfl (rfl) ?_
    refine a_l1 rfl rfl rfl ?_
    refine a_l2 rfl rfl rfl ?_
    refine a_eS0 rfl lX11_243 mo_X11_setAt (sp_X11_setAt rfl) rfl rfl rfl rfl ?_
    rw [setF_nI (show i < 12 by omega) (by decide)]
    refine a_l3 rfl rfl rfl ?_
    exact a_iret rfl rfl (QAc.yes ((if_pos ⟨hz, hy⟩).trans (if_neg hz3)) (by rw [hx]) (by rw [hx]))
  refine a_l2 rfl rfl rfl ?_
  refine a_s rfl rfl ?_
  refine a_ic_eq rfl (fun c => ?_) (fun c => ?_)
  · exact a_bud (by decide) (by decide) (k15 (Or.inl c))
  refine a_l0 rfl rfl rfl ?_
  refine a_l2 rfl rfl rfl ?_
  refine a_callV rfl lX11_141 mo_X11_needDuty (f_needDuty hd3 (by omega)) rfl rfl rfl ⟨11, _, rfl, rfl, rfl⟩ rfl (fun v' h' hv => ?_) (fun E h' ex => ?_)
  rotate_left
  · obtain ⟨rfl, hz2, rfl⟩ := ex
    exact ⟨⟨_, List.mem_cons_self, (if_neg (fun z => z.2.elim c (fun y => by rw [hz2] at y; exact Bool.false_ne_true y))), rfl⟩, rfl⟩
  obtain ⟨rfl, hz2, rfl⟩ := hv
  exact k15 (Or.inr hz2)
theorem f_free (hD : Sd I 235 W) (hW : WOk W) (h13 : I 200 13 = nI n) (hn : n ≤ 12) (h12 : I 200 12 = nI fa) (hf : fa < 12) {x1 x2 : Int32} : Sp S m_X11_free 16 2 12 [.ref 200, .int x1, .int x2] (hp I L w1 w2 t) (QAc I n fa (vF (pn W) x1 x2) (W (11 + 2 * ixN x1 + 1)) (fun J => up2 J 237 (ixN x1) x2) L w1 w2 t) (XAc I (vF (pn W) x1 x2) [(1, 0), (2, 1)] L w1 w2) := by
  have hd3 : I 235 3 = nI (dn W) := (Sd.fd hD (f := 3) (g := 1) (by decide)).trans hW.2.2.2
  have hp0 : I 235 0 = nI (pn W) := (Sd.fd hD (f := 0) (g := 0) (by decide)).trans hW.2.2.1
  have hd12 := hW.2.1
  have hp6 := hW.1
  refine Sp_of ok_X11_free rfl rfl ?_
  show AW S m_X11_free 16 _ _ 2 12 0 [some (.ref 200), some (.int x1), some (.int x2), none] [] (hp I L w1 w2 t)
  refine a_l0 rfl rfl rfl ?_
  refine a_l1 rfl rfl rfl ?_
  refine a_callV rfl lX11_110 mo_X11_needPerson (f_needPerson hp0 (by omega)) rfl rfl rfl ⟨11, _, rfl, rfl, rfl⟩ rfl (fun v' h' hv => ?_) (fun E h' ex => ?_)
  rotate_left
  · obtain ⟨rfl, hz, rfl⟩ := ex
    exact ⟨⟨_, List.mem_cons_self, (if_neg (by rw [hz]; exact Bool.false_ne_true)), rfl⟩, rfl⟩
  obtain ⟨rfl, hz, rfl⟩ := hv
  obtain ⟨i, hi, rfl⟩ := inB_ix (by omega) hz
  have hx := ixN_nI (i := i) (by omega)
  refine a_l2 rfl rfl rfl ?_
  refine a_s rfl rfl ?_
  refine a_s rfl rfl ?_
  refine a_callS rfl lX11_250 mo_X11_needNumber (f_needNumber) rfl rfl rfl rfl (fun v' h' hv => ?_) (fun E h' ex => ?_)
  rotate_left
  · obtain ⟨rfl, hz2, rfl⟩ := ex
    exact ⟨⟨_, (List.mem_cons_of_mem _ List.mem_cons_self), ((if_pos hz).trans (if_neg (by rw [hz2]; exact Bool.false_ne_true))), rfl⟩, rfl⟩
  obtain ⟨rfl, hz2, rfl⟩ := hv
  refine a_l0 rfl rfl rfl ?_
  refine a_getq rfl gfX11_37_11 rfl (rfl) ?_
  refine a_getq rfl gfX11_121_5 rfl (rfl) ?_
  refine a_l1 rfl rfl rfl ?_
  refine a_eS1 rfl lX11_117 mo_X11_at (sp_X11_at rfl) rfl rfl rfl rfl ?_
  refine a_top (y := W (11 + 2 * i + 1)) ((atF_nI (show i < 6 by omega) (by decide)).trans (hD.2.1 i (by omega)).2) ?_
  refine a_s3 rfl rfl rfl rfl rfl rfl ?_
  refine a_l0 rfl rfl rfl ?_
  refine a_eV0 rfl lX11_230 mo_X11_rememberAct (f_remember h13 hn h12 hf) rfl rfl rfl ⟨11, _, rfl, rfl, rfl⟩ rfl ?_
  refine a_l0 rfl rfl rfl ?_
  refine a_getq rfl gfX11_37_11 rfl (rfl) ?_
  refine a_getq rfl gfX11_121_5 rfl (rfl) ?_
  refine a_l1 rfl rfl rfl ?_
  refine a_l2 rfl rfl rfl ?_
  refine a_eS0 rfl lX11_243 mo_X11_setAt (sp_X11_setAt rfl) rfl rfl rfl rfl ?_
  rw [setF_nI (show i < 6 by omega) (by decide)]
  refine a_l3 rfl rfl rfl ?_
  exact a_iret rfl rfl (QAc.yes ((if_pos hz).trans (if_pos hz2)) (by rw [hx]) (by rw [hx]))
end T79t
end
section
/-! ===== undo, the image, the seed: exactly, on both sides ===== -/
section T79u
variable {S : aS} {I : Nat → Nat → Int32} {L : Nat → Nat → Int64} {w1 w2 t : Nat} {n fa r : Nat}
set_option maxRecDepth 100000
def unH (I : Nat → Nat → Int32) (r : Nat) : Nat → Nat → Int32 := if r = 0 then up2 I 420 0 0 else cpR (up2 (up2 I 420 0 0) 420 7 (nI (r - 1))) 421 0 425 (335 * (r - 1)) 335
theorem h_undo (er : I 420 7 = nI r) (hr12 : r ≤ 12) : SpE S m_X12_undo 12 [.ref 420] (hp I L w1 w2 t) (some (.int (bI (decide (¬ r = 0))))) (hp (unH I r) L w1 w2 t) := by
  refine SpE_of ok_X12_undo rfl rfl ?_
  show AW S m_X12_undo 12 _ _ 0 0 0 [some (.ref 420), none] [] (hp I L w1 w2 t)
  refine a_l0 rfl rfl rfl ?_
  refine a_s rfl rfl ?_
  refine a_puti rfl pfX12_3_12 rfl ?_
  refine a_l0 rfl rfl rfl ?_
  refine a_geti rfl gfX12_53_12 rfl ?_
  refine a_top (y := nI r) ((up2_ne (Or.inr (by decide))).trans er) ?_
  refine a_if_ne rfl (fun c => ?_) (fun c => ?_)
  · rcases r with _ | m
    · exact absurd rfl c
    · refine a_l0 rfl rfl rfl ?_
      refine a_s rfl rfl ?_
      refine a_geti rfl gfX12_53_12 rfl ?_
      refine a_top (y := nI (m + 1)) ((up2_ne (Or.inr (by decide))).trans er) ?_
      refine a_s rfl rfl ?_
      refine a_s rfl rfl ?_
      refine a_top (y := nI m) (nI_dec m) ?_
      refine a_puti rfl pfX12_53_12 rfl ?_
      refine a_s rfl rfl ?_
      refine a_s1 rfl rfl rfl rfl rfl rfl ?_
      refine a_forE (n := 335) (fun j => [some (.ref 420), some (.int (nI j))]) (fun j => hp (cpR (up2 (up2 I 420 0 0) 420 7 (nI m)) 421 0 425 (335 * m) j) L w1 w2 t) (by simp [lsub, nI_0]) (by rw [cpR_0]) ?_ (fun j hj ih => ?_)
      · refine a_l1 rfl rfl rfl ?_
        refine a_s rfl rfl ?_
        refine a_ic_ge rfl (fun _ => ?_) (fun c => absurd (Int32.le_refl _) c)
        refine a_s rfl rfl ?_
        exact a_zret rfl rfl rfl ⟨by rw [decide_eq_true (Nat.succ_ne_zero m)]; rfl, by unfold unH; rw [if_neg (Nat.succ_ne_zero m)]; rfl⟩
      · refine a_l1 rfl rfl rfl ?_
        refine a_s rfl rfl ?_
        refine a_ic_ge rfl (fun c => absurd c (nI_ge (b := 335) hj (by omega))) (fun _ => ?_)
        refine a_l0 rfl rfl rfl ?_
        refine a_getq rfl gfX12_13_12 rfl (rfl) ?_
        refine a_l1 rfl rfl rfl ?_
        refine a_l0 rfl rfl rfl ?_
        refine a_getq rfl gfX12_26_12 rfl (rfl) ?_
        refine a_s rfl rfl ?_
        refine a_l0 rfl rfl rfl ?_
        refine a_geti rfl gfX12_53_12 rfl ?_
        refine a_top (y := nI m) ((congrFun (cpR_row (by decide)) 7).trans up2_at) ?_
        refine a_s rfl rfl ?_
        refine a_top (y := nI (335 * m)) (nI_mul 335 m) ?_
        refine a_l1 rfl rfl rfl ?_
        refine a_s rfl rfl ?_
        refine a_top (y := nI (335 * m + j)) (nI_addl _ _) ?_
        refine a_ialdv (v := up2 (up2 I 420 0 0) 420 7 (nI m) 425 (j + 335 * m)) rfl (n := 4020) rfl (inI_nI (by omega) (by omega)) (by rw [nI_clamp (by omega), cpR_row (by decide), Nat.add_comm j (335 * m)]) ?_
        refine a_iastv (k := 0 + j) rfl (n := 2033) rfl (inI_nI (by omega) (by omega)) (by rw [nI_clamp (by omega)]; omega) ?_
        rw [cpR_succ]
        refine a_i1 rfl rfl rfl ?_
        refine a_goto rfl ?_
        exact a_back ih (by simp [lsub, nI_1]) rfl
  · have r0 : r = 0 := (nI_eq0 (by omega)).mp c
    refine a_s rfl rfl ?_
    exact a_zret rfl rfl rfl ⟨by rw [r0]; rfl, by unfold unH; rw [if_pos r0]⟩
theorem h_back : SpE S m_X12_back 12 [.ref 420] (hp I L w1 w2 t) (some (.int (bI (decide (¬ I 420 6 = 0))))) (hp (if I 420 6 = 0 then up2 I 420 0 0 else bkH I) L w1 w2 t) := by
  refine SpE_of ok_X12_back rfl rfl ?_
  show AW S m_X12_back 12 _ _ 0 0 0 [some (.ref 420), none] [] (hp I L w1 w2 t)
  refine a_l0 rfl rfl rfl ?_
  refine a_s rfl rfl ?_
  refine a_puti rfl pfX12_3_12 rfl ?_
  refine a_l0 rfl rfl rfl ?_
  refine a_geti rfl gfX12_49_12 rfl ?_
  refine a_top (y := I 420 6) (up2_ne (Or.inr (by decide))) ?_
  refine a_if_ne rfl (fun c => ?_) (fun c => ?_)
  · rw [if_neg c]
    refine a_s rfl rfl ?_
    refine a_s1 rfl rfl rfl rfl rfl rfl ?_
    refine a_forE (n := 1184) (fun j => [some (.ref 420), some (.int (nI j))]) (fun j => hp (cpR (up2 I 420 0 0) 421 0 422 0 j) L w1 w2 t) (by simp [lsub, nI_0]) (by rw [cpR_0]) ?_ (fun j hj ih => ?_)
    · refine a_l1 rfl rfl rfl ?_
      refine a_s rfl rfl ?_
      refine a_ic_ge rfl (fun _ => ?_) (fun c => absurd (Int32.le_refl _) c)
      refine a_l0 rfl rfl rfl ?_
      refine a_s rfl rfl ?_
      refine a_puti rfl pfX12_53_12 rfl ?_
      refine a_s rfl rfl ?_
      exact a_zret rfl rfl rfl ⟨by rw [decide_eq_true c]; rfl, rfl⟩
    · refine a_l1 rfl rfl rfl ?_
      refine a_s rfl rfl ?_
      refine a_ic_ge rfl (fun c => absurd c (nI_ge (b := 1184) hj (by omega))) (fun _ => ?_)
      refine a_l0 rfl rfl rfl ?_
      refine a_getq rfl gfX12_13_12 rfl (rfl) ?_
      refine a_l1 rfl rfl rfl ?_
      refine a_l0 rfl rfl rfl ?_
      refine a_getq rfl gfX12_17_12 rfl (rfl) ?_
      refine a_l1 rfl rfl rfl ?_
      refine a_ialdv (v := (up2 I 420 0 0) 422 (j + 0)) rfl (n := 1184) rfl (inI_nI (by omega) (by omega)) (by rw [nI_clamp (by omega), cpR_row (by decide)]; rfl) ?_
      refine a_iastv (k := 0 + j) rfl (n := 2033) rfl (inI_nI (by omega) (by omega)) (by rw [nI_clamp (by omega)]; omega) ?_
      rw [cpR_succ]
      refine a_i1 rfl rfl rfl ?_
      refine a_goto rfl ?_
      exact a_back ih (by simp [lsub, nI_1]) rfl
  · rw [if_pos c]
    refine a_s rfl rfl ?_
    exact a_zret rfl rfl rfl ⟨by rw [decide_eq_false (fun z => z c)]; rfl, rfl⟩
theorem h_seed {x : Int32} : SpE S m_X12_seed 12 [.ref 420, .int x] (hp I L w1 w2 t) (some (.int (I 421 10))) (hp (up2 (up2 I 420 0 0) 421 10 x) L w1 w2 t) := by
  refine SpE_of ok_X12_seed rfl rfl ?_
  show AW S m_X12_seed 12 _ _ 0 0 0 [some (.ref 420), some (.int x), none] [] (hp I L w1 w2 t)
  refine a_l0 rfl rfl rfl ?_
  refine a_s rfl rfl ?_
  refine a_puti rfl pfX12_3_12 rfl ?_
  refine a_l0 rfl rfl rfl ?_
  refine a_getq rfl gfX12_13_12 rfl (rfl) ?_
  refine a_s rfl rfl ?_
  refine a_ialdv (v := I 421 10) rfl (n := 2033) rfl ⟨by decide, by decide⟩ (congrFun (up2_row (by decide)) 10) ?_
  refine a_s2 rfl rfl rfl rfl rfl rfl ?_
  refine a_l0 rfl rfl rfl ?_
  refine a_getq rfl gfX12_13_12 rfl (rfl) ?_
  refine a_s rfl rfl ?_
  refine a_l1 rfl rfl rfl ?_
  refine a_iastv (k := 10) rfl (n := 2033) rfl ⟨by decide, by decide⟩ rfl ?_
  refine a_l2 rfl rfl rfl ?_
  exact a_iret rfl rfl ⟨rfl, rfl⟩
def unS (I : Nat → Nat → Int32) (n fa : Nat) : Nat → Nat → Int32 := if n = 0 then I else cpS (up2 I 200 13 (nI (n - 1))) 235 (288 + 11 * ((fa + (n - 1)) % 12)) 11
theorem f_undo (h13 : I 200 13 = nI n) (hn : n ≤ 12) (h12 : I 200 12 = nI fa) (hf : fa < 12) : SpE S m_X11_undo 15 [.ref 200] (hp I L w1 w2 t) (some (.int (bI (decide (¬ n = 0))))) (hp (unS I n fa) L w1 w2 t) := by
  refine SpE_of ok_X11_undo rfl rfl ?_
  show AW S m_X11_undo 15 _ _ 0 0 0 [some (.ref 200), none] [] (hp I L w1 w2 t)
  refine a_l0 rfl rfl rfl ?_
  refine a_getiv (v := nI n) rfl gfX11_95_11 rfl (h13) ?_
  refine a_s rfl rfl ?_
  rcases n with _ | m
  · refine a_ic_ge rfl (fun c => absurd c (by decide)) (fun _ => ?_)
    refine a_s rfl rfl ?_
    exact a_zret rfl rfl rfl ⟨rfl, rfl⟩
  · have hi : (fa + m) % 12 < 12 := Nat.mod_lt _ (by decide)
    refine a_ic_ge rfl (fun _ => ?_) (fun c => absurd (nI_leu (n := 1) (j := m + 1) (by omega) (by omega)) c)
    refine a_l0 rfl rfl rfl ?_
    refine a_s rfl rfl ?_
    refine a_getiv (v := nI (m + 1)) rfl gfX11_95_11 rfl (h13) ?_
    refine a_s rfl rfl ?_
    refine a_s rfl rfl ?_
    refine a_top (y := nI m) (nI_dec m) ?_
    refine a_puti rfl pfX11_95_11 rfl ?_
    refine a_l0 rfl rfl rfl ?_
    refine a_l0 rfl rfl rfl ?_
    refine a_getiv (v := nI fa) rfl gfX11_368_11 rfl ((up2_ne (Or.inr (by decide))).trans h12) ?_
    refine a_l0 rfl rfl rfl ?_
    refine a_getiv (v := nI m) rfl gfX11_95_11 rfl (up2_at) ?_
    refine a_s rfl rfl ?_
    refine a_top (y := nI (fa + m)) (nI_addl fa m) ?_
    refine a_eV1 rfl lX11_371 mo_X11_pastAt (f_pastAt (k := fa + m) (by omega)) rfl rfl rfl ⟨11, _, rfl, rfl, rfl⟩ rfl ?_
    refine a_s1 rfl rfl rfl rfl rfl rfl ?_
    refine a_l1 rfl rfl rfl ?_
    refine a_ifnull_f rfl ?_
    refine a_l0 rfl rfl rfl ?_
    refine a_getq rfl gfX11_37_11 rfl (rfl) ?_
    refine a_l1 rfl rfl rfl ?_
    refine a_eV0 rfl lX11_375 mo_X5_copyAll (sp_X5_copyAll (a := 235) (b := 288 + 11 * ((fa + m) % 12)) (by decide) (past_st _ hi) (by omega)) rfl rfl rfl ⟨5, _, rfl, rfl, rfl⟩ rfl ?_
    refine a_s rfl rfl ?_
    exact a_zret rfl rfl rfl ⟨by rw [decide_eq_true (Nat.succ_ne_zero m)]; rfl, by unfold unS; rw [if_neg (Nat.succ_ne_zero m)]; rfl⟩
def bkS (I : Nat → Nat → Int32) : Nat → Nat → Int32 := up2 (cpL (cpS I 235 268 11) 246 279) 200 13 0
theorem f_back : SpE S m_X11_back 15 [.ref 200] (hp I L w1 w2 t) (some (.int (bI (decide (¬ I 200 10 = 0))))) (hp (if I 200 10 = 0 then I else bkS I) L w1 w2 t) := by
  refine SpE_of ok_X11_back rfl rfl ?_
  show AW S m_X11_back 15 _ _ 0 0 0 [some (.ref 200)] [] (hp I L w1 w2 t)
  refine a_l0 rfl rfl rfl ?_
  refine a_geti rfl gfX11_378_11 rfl ?_
  refine a_if_ne rfl (fun c => ?_) (fun c => ?_)
  · rw [if_neg c]
    refine a_l0 rfl rfl rfl ?_
    refine a_getq rfl gfX11_37_11 rfl (rfl) ?_
    refine a_l0 rfl rfl rfl ?_
    refine a_getq rfl gfX11_58_11 rfl (rfl) ?_
    refine a_eV0 rfl lX11_375 mo_X5_copyAll (sp_X5_copyAll (a := 235) (b := 268) (by decide) (by decide) (by decide)) rfl rfl rfl ⟨5, _, rfl, rfl, rfl⟩ rfl ?_
    refine a_l0 rfl rfl rfl ?_
    refine a_getq rfl gfX11_44_11 rfl (rfl) ?_
    refine a_l0 rfl rfl rfl ?_
    refine a_getq rfl gfX11_61_11 rfl (rfl) ?_
    refine a_eV0 rfl lX11_104 mo_X2_copyFrom (sp_X2_copyFrom (a := 246) (b := 279) (by decide) (by decide) (by decide)) rfl rfl rfl ⟨2, _, rfl, rfl, rfl⟩ rfl ?_
    refine a_l0 rfl rfl rfl ?_
    refine a_s rfl rfl ?_
    refine a_puti rfl pfX11_95_11 rfl ?_
    refine a_s rfl rfl ?_
    exact a_zret rfl rfl rfl ⟨by rw [decide_eq_true c]; rfl, rfl⟩
  · rw [if_pos c]
    refine a_s rfl rfl ?_
    exact a_zret rfl rfl rfl ⟨by rw [decide_eq_false (fun z => z c)]; rfl, rfl⟩
def imS (I : Nat → Nat → Int32) : Nat → Nat → Int32 := up2 (cpL (cpS I 268 235 11) 279 246) 200 10 1
theorem f_image : SpE S m_X11_image 15 [.ref 200] (hp I L w1 w2 t) none (hp (imS I) L w1 w2 t) := by
  refine SpE_of ok_X11_image rfl rfl ?_
  show AW S m_X11_image 15 _ _ 0 0 0 [some (.ref 200)] [] (hp I L w1 w2 t)
  refine a_l0 rfl rfl rfl ?_
  refine a_getq rfl gfX11_58_11 rfl (rfl) ?_
  refine a_l0 rfl rfl rfl ?_
  refine a_getq rfl gfX11_37_11 rfl (rfl) ?_
  refine a_eV0 rfl lX11_375 mo_X5_copyAll (sp_X5_copyAll (a := 268) (b := 235) (by decide) (by decide) (by decide)) rfl rfl rfl ⟨5, _, rfl, rfl, rfl⟩ rfl ?_
  refine a_l0 rfl rfl rfl ?_
  refine a_getq rfl gfX11_61_11 rfl (rfl) ?_
  refine a_l0 rfl rfl rfl ?_
  refine a_getq rfl gfX11_44_11 rfl (rfl) ?_
  refine a_eV0 rfl lX11_104 mo_X2_copyFrom (sp_X2_copyFrom (a := 279) (b := 246) (by decide) (by decide) (by decide)) rfl rfl rfl ⟨2, _, rfl, rfl, rfl⟩ rfl ?_
  refine a_l0 rfl rfl rfl ?_
  refine a_s rfl rfl ?_
  refine a_putz rfl pfX11_378_11 ⟨rfl, rfl⟩ rfl ?_
  exact a_vret rfl rfl ⟨rfl, rfl⟩
theorem f_seed {x : Int32} : SpE S m_X11_seed 12 [.ref 200, .int x] (hp I L w1 w2 t) (some (.int (I 235 15))) (hp (up2 I 235 15 x) L w1 w2 t) := by
  refine SpE_of ok_X11_seed rfl rfl ?_
  show AW S m_X11_seed 12 _ _ 0 0 0 [some (.ref 200), some (.int x), none] [] (hp I L w1 w2 t)
  refine a_l0 rfl rfl rfl ?_
  refine a_getq rfl gfX11_37_11 rfl (rfl) ?_
  refine a_getiv (v := I 235 15) rfl gfX11_353_5 rfl (rfl) ?_
  refine a_s2 rfl rfl rfl rfl rfl rfl ?_
  refine a_l0 rfl rfl rfl ?_
  refine a_getq rfl gfX11_37_11 rfl (rfl) ?_
  refine a_l1 rfl rfl rfl ?_
  refine a_puti rfl pfX11_353_5 rfl ?_
  refine a_l2 rfl rfl rfl ?_
  exact a_iret rfl rfl ⟨rfl, rfl⟩
end T79u
end
section
section T58c
set_option maxRecDepth 100000
/-- the steps of a count of bits, on numbers -/
def bcA (x : Int32) : Int32 := x - (((x.toUInt32 >>> ((1 : Int32).toUInt32 &&& Int32.toUInt32 31)).toInt32) &&& 1431655765)
def bcB (a : Int32) : Int32 := (a &&& 858993459) + ((a.toUInt32 >>> ((2 : Int32).toUInt32 &&& Int32.toUInt32 31)).toInt32 &&& 858993459)
def bcC (b : Int32) : Int32 := (b + (b.toUInt32 >>> ((4 : Int32).toUInt32 &&& Int32.toUInt32 31)).toInt32) &&& 252645135
def bcD (c : Int32) : Int32 := c + (c.toUInt32 >>> ((8 : Int32).toUInt32 &&& Int32.toUInt32 31)).toInt32
def bcE (e : Int32) : Int32 := e + (e.toUInt32 >>> ((16 : Int32).toUInt32 &&& Int32.toUInt32 31)).toInt32
def bnA (m : Nat) : Nat := m - (m >>> 1 &&& 1431655765)
def bnB (a : Nat) : Nat := (a &&& 858993459) + (a >>> 2 &&& 858993459)
def bnC (b : Nat) : Nat := (b + b >>> 4) &&& 252645135
def bnD (c : Nat) : Nat := c + c >>> 8
def bnE (e : Nat) : Nat := e + e >>> 16
variable {a k m : Nat}
theorem nI_bt {i : Nat} (hi : i < 32) : bt (nI m) i = m.testBit i := by
  show (BitVec.ofNat 32 m).getLsbD i = _
  rw [BitVec.getLsbD_ofNat, decide_eq_true hi, Bool.true_and]
theorem nI_and {b : Nat} : nI a &&& nI b = nI (a &&& b) := b_ext fun i hi => by rw [b_and, nI_bt hi, nI_bt hi, nI_bt hi, Nat.testBit_and]
theorem nI_shr (k : Nat) (hk : k < 32) (hm : m < 2 ^ 31) : ((nI m).toUInt32 >>> ((nI k).toUInt32 &&& Int32.toUInt32 31)).toInt32 = nI (m >>> k) := b_ext fun i hi => by
  rw [b_ushr k hk, nI_bt hi, Nat.testBit_shiftRight]
  by_cases c : k + i < 32
  · exact nI_bt c
  · rw [b_big (by omega), Nat.testBit_lt_two_pow (Nat.lt_of_lt_of_le hm (Nat.pow_le_pow_right (by decide) (by omega)))]
theorem bcA_n (hm : m < 2 ^ 20) : bcA (nI m) = nI (bnA m) ∧ bnA m ≤ m := by
  refine ⟨?_, Nat.sub_le _ _⟩
  unfold bcA bnA
  rw [show ((nI m).toUInt32 >>> ((1 : Int32).toUInt32 &&& Int32.toUInt32 31)).toInt32 = nI (m >>> 1) from nI_shr 1 (by decide) (by omega), show (1431655765 : Int32) = nI 1431655765 from rfl, nI_and, nI_sub]
  exact Nat.le_trans Nat.and_le_left (Nat.shiftRight_le m 1)
theorem bcB_n (hm : m < 2 ^ 20) : bcB (nI m) = nI (bnB m) ∧ bnB m ≤ m + m := by
  refine ⟨?_, Nat.add_le_add Nat.and_le_left (Nat.le_trans Nat.and_le_left (Nat.shiftRight_le m 2))⟩
  unfold bcB bnB
  rw [show ((nI m).toUInt32 >>> ((2 : Int32).toUInt32 &&& Int32.toUInt32 31)).toInt32 = nI (m >>> 2) from nI_shr 2 (by decide) (by omega), show (858993459 : Int32) = nI 858993459 from rfl, nI_and, nI_and, nI_addl]
theorem bcC_n (hm : m < 2 ^ 20) : bcC (nI m) = nI (bnC m) ∧ bnC m ≤ m + m := by
  refine ⟨?_, Nat.le_trans Nat.and_le_left (Nat.add_le_add_left (Nat.shiftRight_le m 4) m)⟩
  unfold bcC bnC
  rw [show ((nI m).toUInt32 >>> ((4 : Int32).toUInt32 &&& Int32.toUInt32 31)).toInt32 = nI (m >>> 4) from nI_shr 4 (by decide) (by omega), nI_addl, show (252645135 : Int32) = nI 252645135 from rfl, nI_and]
theorem bcD_n (hm : m < 2 ^ 20) : bcD (nI m) = nI (bnD m) ∧ bnD m ≤ m + m := by
  refine ⟨?_, Nat.add_le_add_left (Nat.shiftRight_le m 8) m⟩
  unfold bcD bnD
  rw [show ((nI m).toUInt32 >>> ((8 : Int32).toUInt32 &&& Int32.toUInt32 31)).toInt32 = nI (m >>> 8) from nI_shr 8 (by decide) (by omega), nI_addl]
theorem bcE_n (hm : m < 2 ^ 20) : bcE (nI m) = nI (bnE m) := by
  unfold bcE bnE
  rw [show ((nI m).toUInt32 >>> ((16 : Int32).toUInt32 &&& Int32.toUInt32 31)).toInt32 = nI (m >>> 16) from nI_shr 16 (by decide) (by omega), nI_addl]
def bcN (m : Nat) : Nat := bnE (bnD (bnC (bnB (bnA m)))) &&& 63
theorem bc_nI (hm : m < 4096) : bcF (nI m) = nI (bcN m) := by
  show bcE (bcD (bcC (bcB (bcA (nI m))))) &&& 63 = _
  obtain ⟨e1, l1⟩ := bcA_n (m := m) (by omega)
  obtain ⟨e2, l2⟩ := bcB_n (m := bnA m) (by omega)
  obtain ⟨e3, l3⟩ := bcC_n (m := bnB (bnA m)) (by omega)
  obtain ⟨e4, l4⟩ := bcD_n (m := bnC (bnB (bnA m))) (by omega)
  rw [e1, e2, e3, e4, bcE_n (by omega), show (63 : Int32) = nI 63 from rfl, nI_and]
  rfl
theorem bcN_add : ∀ n, n < 12 → ∀ m, m < 2 ^ n → bcN (m + 2 ^ n) = bcN m + 1 := by decide +kernel
theorem bc_add : ∀ n, n < 12 → ∀ m, m < 2 ^ n → bcF (nI (m + 2 ^ n)) = bcF (nI m) + 1 := by
  intro n hn m hm
  have h : 2 ^ n ≤ 2 ^ 11 := Nat.pow_le_pow_right (by decide) (by omega)
  rw [bc_nI (by omega), bc_nI (by omega), bcN_add n hn m hm, nI_succ]
end T58c
/-! ===== sets by their bits; the class's queries on a street are those on its row ===== -/
section P79v
variable {nd np d : Nat} {W : Nat → Int32} {I : Nat → Nat → Int32} {a : Nat}
set_option maxRecDepth 100000
theorem bt_bitF {e i : Nat} (he : e < 31) (hi : i < 32) : bt (bitF (nI e)) i = decide (i = e) := by
  unfold bitF
  rw [if_neg (nI_pos (by omega)), if_neg (fun z => by have := nI_ge_of (a := e) (b := 31) z (by omega) (by decide); omega)]
  exact bt_sh (by omega) hi
theorem bt_bs {P : Nat → Bool} : ∀ {n : Nat}, n ≤ 12 → ∀ i, i < 32 → bt (bs n P) i = (decide (i < n) && P i) := by
  intro n
  induction n with
  | zero =>
    intro _ i _
    exact b_0 i
  | succ n ih =>
    intro hn i hi
    have ih := ih (by omega) i hi
    show bt (if P n then bs n P ||| bitF (nI n) else bs n P) i = _
    by_cases c : P n = true
    · rw [if_pos c, b_or, ih, bt_bitF (by omega) hi]
      by_cases ci : i = n
      · subst ci
        simp [c]
      · simp only [ci, decide_false, Bool.or_false]
        congr 1
        exact decide_eq_decide.mpr ⟨fun z => by omega, fun z => by omega⟩
    · rw [if_neg c, ih]
      by_cases ci : i = n
      · subst ci
        simp [c]
      · congr 1
        exact decide_eq_decide.mpr ⟨fun z => by omega, fun z => by omega⟩
theorem hasF_bt {s : Int32} {e : Nat} (he : e < 31) : hasF s (nI e) = bt s e := by
  unfold hasF
  have key : (s &&& bitF (nI e)) = 0 ↔ bt s e = false := by
    constructor
    · intro z
      have := congrArg (fun x => bt x e) z
      simp only [b_and, b_0, bt_bitF he (show e < 32 by omega), decide_true, Bool.and_true] at this
      exact this
    · intro z
      refine b_ext fun i hi => ?_
      rw [b_and, b_0, bt_bitF he hi]
      by_cases c : i = e
      · subst c
        simp [z]
      · simp [c]
  cases hb : bt s e with
  | false => exact decide_eq_false (fun z => z (key.mpr hb))
  | true => exact decide_eq_true (fun z => by rw [key.mp z] at hb; cases hb)
theorem shb_is {s : Int32} {e : Nat} (he : e < 31) : shb s e = bt s e := by
  unfold shb
  have key : ((s >>> (nI e &&& 31)) &&& 1) = 0 ↔ bt s e = false := by
    constructor
    · intro z
      have := congrArg (fun x => bt x 0) z
      simp only [b_and, b_0, bt_1 0 (by decide), b_sshr e (show e < 32 by omega) s (show 0 < 32 by decide), Nat.add_zero, decide_true, Bool.and_true] at this
      rw [if_pos (by omega)] at this
      exact this
    · intro z
      refine b_ext fun i hi => ?_
      rw [b_and, b_0, bt_1 i hi, b_sshr e (by omega) s hi]
      by_cases c : i = 0
      · subst c
        rw [Nat.add_zero, if_pos (by omega), z]
        rfl
      · simp [c]
  cases hb : bt s e with
  | false => exact decide_eq_false (fun z => z (key.mpr hb))
  | true => exact decide_eq_true (fun z => by rw [key.mp z] at hb; cases hb)
theorem hasF_or {x y : Int32} {e : Nat} (he : e < 31) : hasF (x ||| y) (nI e) = (hasF x (nI e) || hasF y (nI e)) := by rw [hasF_bt he, hasF_bt he, hasF_bt he, b_or]
theorem hasF_bit {e i : Nat} (he : e < 31) (hi : i < 31) : hasF (bitF (nI e)) (nI i) = decide (i = e) := by rw [hasF_bt hi, bt_bitF he (by omega)]
theorem hasF_0 {i : Nat} (hi : i < 31) : hasF 0 (nI i) = false := by rw [hasF_bt hi, b_0]
theorem hasF_bs {P : Nat → Bool} (hn : nd ≤ 12) (hd : d < nd) : hasF (bs nd P) (nI d) = P d := by
  rw [hasF_bt (by omega), bt_bs hn d (by omega), decide_eq_true hd, Bool.true_and]
theorem shb_bs {P : Nat → Bool} (hn : nd ≤ 12) (hd : d < 31) : shb (bs nd P) d = (decide (d < nd) && P d) := by
  rw [shb_is hd, bt_bs hn d (by omega)]
theorem bs_and {P Q : Nat → Bool} (hn : nd ≤ 12) : bs nd P &&& bs nd Q = bs nd (fun d => P d && Q d) := by
  refine b_ext fun i hi => ?_
  rw [b_and, bt_bs hn i hi, bt_bs hn i hi, bt_bs hn i hi]
  cases decide (i < nd) <;> simp
theorem bs_andn {P Q : Nat → Bool} (hn : nd ≤ 12) : bs nd P &&& (bs nd Q ^^^ (-1)) = bs nd (fun d => P d && !Q d) := by
  refine b_ext fun i hi => ?_
  rw [b_and, b_xor, b_m1 i hi, bt_bs hn i hi, bt_bs hn i hi, bt_bs hn i hi]
  cases decide (i < nd) <;> simp
theorem bc_bs {P : Nat → Bool} : ∀ {n : Nat}, n ≤ 12 → bcF (bs n P) = nI (cntF n P) := by
  intro n
  induction n with
  | zero =>
    intro _
    show bcF 0 = nI 0
    decide
  | succ n ih =>
    intro hn
    have ih := ih (by omega)
    obtain ⟨m, hm, em⟩ := bs_nI (n := n) (P := P) (by omega)
    show bcF (if P n then bs n P ||| bitF (nI n) else bs n P) = nI (if P n then cntF n P + 1 else cntF n P)
    by_cases c : P n = true
    · rw [if_pos c, if_pos c, em, or_bit n (by omega) m hm, bc_add n (by omega) m hm, ← em, ih, ← nI_succ]
    · rw [if_neg c, if_neg c, ih]
theorem Sd.row {k : Nat} (h : Sd I a W) (hd : d < 12) (hk : k < 6) : I (a + (3 + k)) d = vd W k d := by
  rw [← Nat.add_assoc]
  exact h.2.2 d hd k hk
theorem lf_same (h : Sd I a W) (hG : Rg W) (hd : d < dn W) : lfF (I (a + 7)) (I (a + 8)) (nI d) = lwF W d := by
  have h12 := hG.1.2.1
  have e4 : I (a + 7) d = vd W 4 d := Sd.row (k := 4) h (by omega) (by decide)
  unfold lfF lwF
  rw [atF_nI (show d < 12 by omega) (by decide), e4]
  rcases (hG.2.2.2 d hd).2.2.2.2.1 with z | ⟨j, hj, z⟩
  · have z : vd W 4 d = -1 := z
    rw [z]
    simp
  · have z : vd W 4 d = nI j := z
    rw [z, atF_nI (show j < 12 by omega) (by decide), nI_clamp (by omega), show I (a + 8) j = vd W 5 j from Sd.row (k := 5) h (by omega) (by decide)]
theorem wait_same (h : Sd I a W) (hG : Rg W) (hd : d < dn W) : waitF (dn W) (I (a + 8)) (nI d) = decide (vd W 5 d = 0) := by
  have h12 := hG.1.2.1
  rw [waitF_nI hd h12, show I (a + 8) d = vd W 5 d from Sd.row (k := 5) h (by omega) (by decide)]
theorem rd_same (h : Sd I a W) (hG : Rg W) (hd : d < dn W) : rdF (dn W) (I (a + 8)) (I (a + 7)) (nI d) = readyR W d := by
  unfold rdF readyR
  rw [wait_same h hG hd, lf_same h hG hd]
theorem inS_same (h : Sd I a W) (hG : Rg W) {x : Int32} : inS (dn W) (I (a + 8)) x = inS (dn W) (vd W 5) x := by
  have h12 := hG.1.2.1
  exact bs_congr fun e he => by rw [show I (a + 8) e = vd W 5 e from Sd.row (k := 5) h (by omega) (by decide)]
theorem old_same (h : Sd I a W) (hG : Rg W) {x : Int32} : oldF (dn W) (I (a + 8)) (I (a + 5)) x = oldF (dn W) (vd W 5) (vd W 2) x := by
  have h12 := hG.1.2.1
  exact bs_congr fun e he => by rw [show I (a + 8) e = vd W 5 e from Sd.row (k := 5) h (by omega) (by decide), show I (a + 5) e = vd W 2 e from Sd.row (k := 2) h (by omega) (by decide)]
theorem own_same (h : Sd I a W) (hG : Rg W) {x : Int32} : ownF (dn W) (I (a + 3)) x = ownF (dn W) (vd W 0) x := by
  have h12 := hG.1.2.1
  exact bs_congr fun e he => by rw [show I (a + 3) e = vd W 0 e from Sd.row (k := 0) h (by omega) (by decide)]
theorem place_same (h : Sd I a W) (hG : Rg W) (hd : d < dn W) : placeF (dn W) (I (a + 8)) (I (a + 5)) (nI d) = placeF (dn W) (vd W 5) (vd W 2) (nI d) := by
  have h12 := hG.1.2.1
  have e2 : ∀ e, e < dn W → I (a + 5) e = vd W 2 e := fun e he => Sd.row (k := 2) h (by omega) (by decide)
  have e5 : ∀ e, e < dn W → I (a + 8) e = vd W 5 e := fun e he => Sd.row (k := 5) h (by omega) (by decide)
  unfold placeF placeC
  rw [wait_same h hG hd, waitF_nI hd h12, atF_nI (show d < 12 by omega) (by decide), atF_nI (show d < 12 by omega) (by decide), e2 d hd]
  rw [cntF_congr (P' := fun e => decide (vd W 5 e = 0 ∧ (vd W 2 e < vd W 2 d ∨ (vd W 2 e = vd W 2 d ∧ nI e < nI d)))) fun e he => by rw [e5 e he, e2 e he]]
theorem pass_same (h : Sd I a W) (hG : Rg W) (hd : d < dn W) : passF (dn W) (I (a + 8)) (I (a + 5)) (I a 13) (nI d) = passR (dn W) W d := by
  have h12 := hG.1.2.1
  unfold passF passR
  rw [wait_same h hG hd, inS_same h hG, old_same h hG, show I a 13 = W 7 from Sd.fd h (by decide), atF_nI (show d < 12 by omega) (by decide), show I (a + 5) d = vd W 2 d from Sd.row (k := 2) h (by omega) (by decide)]
  have e1 : bcF (inS (dn W) (vd W 5) 0 &&& (oldF (dn W) (vd W 5) (vd W 2) (vd W 2 d) ^^^ (-1))) = nI (cntF (dn W) (fun e => decide (vd W 5 e = 0 ∧ vd W 2 e ≤ vd W 2 d))) := by
    unfold inS oldF
    rw [bs_andn h12, bc_bs h12]
    congr 1
    refine cntF_congr fun e _ => ?_
    by_cases c5 : vd W 5 e = 0
    · by_cases c2 : vd W 2 e ≤ vd W 2 d
      · simp [c5, c2, Int32.not_lt.mpr c2]
      · simp [c5, c2, Int32.not_le.mp c2]
    · simp [c5]
  rw [e1]
  by_cases c : vd W 5 d = 0
  · rw [decide_eq_true c, if_pos rfl, if_pos c]
  · rw [decide_eq_false c, if_neg Bool.false_ne_true, if_neg c]
theorem can_same (h : Sd I a W) (hG : Rg W) : canF (dn W) (I (a + 8)) (I (a + 7)) (I (a + 4)) (I (a + 5)) (I a 13) = bs (dn W) (canR (dn W) W) := by
  have h12 := hG.1.2.1
  refine bs_congr fun e he => ?_
  unfold canR
  rw [rd_same h hG he, pass_same h hG he, show I (a + 4) e = vd W 1 e from Sd.row (k := 1) h (by omega) (by decide)]
theorem fact_5 (h : Sd I a W) (hG : Rg W) (hd : d < dn W) : atF (I (a + 1)) 6 (vd W 0 d) = W (11 + 2 * (vd W 0 d).toNatClampNeg) := by
  have h6 := hG.1.1
  obtain ⟨⟨j, hj, ej⟩, -⟩ := hG.2.2.2 d hd
  have ej : vd W 0 d = nI j := ej
  rw [ej, atF_nI (show j < 6 by omega) (by decide), nI_clamp (by omega)]
  exact (h.2.1 j (by omega)).1
theorem fact_same (h : Sd I a W) (hG : Rg W) (hd : d < dn W) : factC I a d = factW W d := by
  have h12 := hG.1.2.1
  have e0 : I (a + 3) d = vd W 0 d := Sd.row (k := 0) h (by omega) (by decide)
  have e1 : I (a + 4) d = vd W 1 d := Sd.row (k := 1) h (by omega) (by decide)
  have e2 : I (a + 5) d = vd W 2 d := Sd.row (k := 2) h (by omega) (by decide)
  have e3 : I (a + 6) d = vd W 3 d := Sd.row (k := 3) h (by omega) (by decide)
  have e4 : I a 10 = W 4 := Sd.fd h (by decide)
  have e5 := fact_5 h hG hd
  have e7 := lf_same h hG hd
  funext k
  rcases k with _ | _ | _ | _ | _ | _ | _ | _ | _ | n
  all_goals simp only [factC, factW, e0, e1, e2, e3, e4, e5, e7]
/-- both laws are alike -/
def LwS (I : Nat → Nat → Int32) (b : Nat) (W : Nat → Int32) (nl len : Nat) (cd fa fn : Nat → Nat) : Prop := LawC I b nl len cd fa fn ∧ LawR W nl len cd fa fn ∧ (∀ n, n < nl → I (b + 1) n = kiW W n ∧ I (b + 2) n = nuW W n) ∧ (I b 0 = -1 ↔ W 3 = 0)
theorem sumL_congr {F ki ki' nu nu' : Nat → Int32} {cd fa fn : Nat → Nat} {kind : Int32} : ∀ {n : Nat}, (∀ i, i < n → ki i = ki' i ∧ nu i = nu' i) → sumL F ki nu cd fa fn kind n = sumL F ki' nu' cd fa fn kind n := by
  intro n
  induction n with
  | zero => exact fun _ => rfl
  | succ n ih =>
    intro h
    have e := h n (Nat.lt_succ_self n)
    unfold sumL
    rw [ih fun i hi => h i (Nat.lt_succ_of_lt hi), e.1, e.2]
theorem sum_same {b nl len : Nat} {cd fa fn : Nat → Nat} {kind : Int32} (h : Sd I a W) (hG : Rg W) (hL : LwS I b W nl len cd fa fn) (hd : d < dn W) : sumC I b (factC I a d) cd fa fn nl kind = sumR W cd fa fn nl d kind := by
  unfold sumC sumR
  rw [fact_same h hG hd]
  exact sumL_congr hL.2.2.1
theorem grow_same {b nl len : Nat} {cd fa fn : Nat → Nat} (h : Sd I a W) (hG : Rg W) (hL : LwS I b W nl len cd fa fn) (hd : d < dn W) : growC I a b cd fa fn nl d = sumR W cd fa fn nl d 0 := sum_same h hG hL hd
end P79v
end
section
/-! ===== a day's work, on the row; the class does it so ===== -/
section T79w
variable {S : aS} {I : Nat → Nat → Int32} {L : Nat → Nat → Int64} {w1 w2 t : Nat} {n fa a d p : Nat} {W : Nat → Int32}
set_option maxRecDepth 100000
abbrev WdT : Type := (Nat → Int32) × Int32 × Int32
/-- a duty's turn: the row, hours that are left, tools had -/
def wdS (p taken : Int32) (s : WdT) (d : Nat) : WdT :=
  if 0 < s.2.1 ∧ s.1 (23 + 6 * d + 0) = p ∧ readyR s.1 d = true ∧ hasF taken (s.1 (23 + 6 * d + 3)) = false then
    (if s.1 (23 + 6 * d + 1) - mn s.2.1 (s.1 (23 + 6 * d + 1)) = 0 then ud (ud (ud s.1 (23 + 6 * d + 1) (s.1 (23 + 6 * d + 1) - mn s.2.1 (s.1 (23 + 6 * d + 1)))) (23 + 6 * d + 1) 0) (23 + 6 * d + 5) 1
     else ud s.1 (23 + 6 * d + 1) (s.1 (23 + 6 * d + 1) - mn s.2.1 (s.1 (23 + 6 * d + 1))), s.2.1 - mn s.2.1 (s.1 (23 + 6 * d + 1)), s.2.2 ||| bitF (s.1 (23 + 6 * d + 3)))
  else s
def wdF (p taken : Int32) (s : WdT) : Nat → WdT
  | 0 => s
  | n + 1 => wdS p taken (wdF p taken s n) n
theorem wdF_stop {p taken : Int32} {s : WdT} {j : Nat} (h : ¬ 0 < (wdF p taken s j).2.1) : ∀ i, wdF p taken s (j + i) = wdF p taken s j := by
  intro i
  induction i with
  | zero => rfl
  | succ i ih =>
    show wdS p taken (wdF p taken s (j + i)) (j + i) = _
    rw [ih]
    unfold wdS
    rw [if_neg (fun z => h z.1)]
/-- what holds on the way: ranges, how many, hours 0 to 9; but for left and state all as it was -/
def WdOk (W : Nat → Int32) (s : WdT) : Prop := Rg s.1 ∧ pn s.1 = pn W ∧ dn s.1 = dn W ∧ (∃ h, h ≤ 9 ∧ s.2.1 = nI h) ∧ ∀ k, (∀ d, d < 12 → k ≠ 23 + 6 * d + 1 ∧ k ≠ 23 + 6 * d + 5) → s.1 k = W k
theorem readyR_0 (h : readyR W d = true) : W (23 + 6 * d + 5) = 0 := by
  unfold readyR at h
  rw [Bool.and_eq_true] at h
  exact of_decide_eq_true h.1
theorem Rg.upd {W' : Nat → Int32} (h : Rg W) (hd : d < dn W) (f : ∀ k, k ≠ 23 + 6 * d + 1 → k ≠ 23 + 6 * d + 5 → W' k = W k) {l s : Nat} (hl : l ≤ 99) (e1 : W' (23 + 6 * d + 1) = nI l) (hs : s ≤ 2) (e5 : W' (23 + 6 * d + 5) = nI s) (e : s = 1 ↔ l = 0) : Rg W' ∧ pn W' = pn W ∧ dn W' = dn W := by
  obtain ⟨⟨h1, h2, h3, h4⟩, hf, hp, hdd⟩ := h
  have r : Rg W' := by
    refine Rg.of h1 h2 ((f 0 (by omega) (by omega)).trans h3) ((f 1 (by omega) (by omega)).trans h4) (hf.eq fun k z1 z2 => f k (by omega) (by omega)) (fun p z => (hp p z).eq (f _ (by omega) (by omega)) (f _ (by omega) (by omega))) (fun e' z => ?_)
    by_cases c : e' = d
    · subst c
      obtain ⟨a1, -, a3, a4, a5, -⟩ := hdd e' hd
      unfold RgD
      rw [f (23 + 6 * e' + 0) (by omega) (by omega), f (23 + 6 * e' + 2) (by omega) (by omega), f (23 + 6 * e' + 3) (by omega) (by omega), f (23 + 6 * e' + 4) (by omega) (by omega), e1, e5]
      refine ⟨a1, ⟨l, hl, rfl, ⟨fun z => e.mp (nI_inj (b := 1) (by omega) (by decide) z), fun z => by rw [e.mpr z]; rfl⟩⟩, a3, a4, a5, ⟨s, hs, rfl⟩⟩
    · exact (hdd e' z).eq fun k hk => f _ (by omega) (by omega)
  refine ⟨r, ?_, ?_⟩
  · unfold pn
    rw [f 0 (by omega) (by omega)]
  · unfold dn
    rw [f 1 (by omega) (by omega)]
theorem WdOk.step {s : WdT} {p taken : Int32} (h : WdOk W s) (hd : d < dn W) : WdOk W (wdS p taken s d) := by
  have hd12 := h.1.1.2.1
  unfold wdS
  by_cases c : 0 < s.2.1 ∧ s.1 (23 + 6 * d + 0) = p ∧ readyR s.1 d = true ∧ hasF taken (s.1 (23 + 6 * d + 3)) = false
  rotate_left
  · rw [if_neg c]
    exact h
  rw [if_pos c]
  obtain ⟨hG, hp, hdn, ⟨k, hk, ek⟩, hr⟩ := h
  obtain ⟨-, ⟨l, hl, el, e1⟩, -⟩ := hG.2.2.2 d (by omega)
  have st0 := readyR_0 c.2.2.1
  have l1 : 1 ≤ l := by
    rcases l with _ | l
    · have := e1.mpr rfl
      rw [st0] at this
      exact absurd this (by decide)
    · omega
  have em : mn s.2.1 (s.1 (23 + 6 * d + 1)) = nI (min k l) := by rw [ek, el, mn_nI (by omega) (by omega)]
  have ex : s.1 (23 + 6 * d + 1) - mn s.2.1 (s.1 (23 + 6 * d + 1)) = nI (l - min k l) := by rw [em, el, nI_sub (by omega)]
  have eh : s.2.1 - mn s.2.1 (s.1 (23 + 6 * d + 1)) = nI (k - min k l) := by rw [em, ek, nI_sub (by omega)]
  rw [ex, eh]
  by_cases c0 : nI (l - min k l) = 0
  · rw [if_pos c0]
    have f : ∀ j, j ≠ 23 + 6 * d + 1 → j ≠ 23 + 6 * d + 5 → ud (ud (ud s.1 (23 + 6 * d + 1) (nI (l - min k l))) (23 + 6 * d + 1) 0) (23 + 6 * d + 5) 1 j = s.1 j := fun j j1 j2 => by rw [ud_ne j2, ud_ne j1, ud_ne j1]
    obtain ⟨g1, g2, g3⟩ := Rg.upd (l := 0) (s := 1) hG (by omega) f (by decide) (by rw [ud_ne (by omega), ud_at]; rfl) (by decide) ud_at (by decide)
    refine ⟨g1, g2.trans hp, g3.trans hdn, ⟨k - min k l, by omega, rfl⟩, fun j hj => ?_⟩
    exact (f j (hj d (by omega)).1 (hj d (by omega)).2).trans (hr j hj)
  · rw [if_neg c0]
    have f : ∀ j, j ≠ 23 + 6 * d + 1 → j ≠ 23 + 6 * d + 5 → ud s.1 (23 + 6 * d + 1) (nI (l - min k l)) j = s.1 j := fun j j1 _ => ud_ne j1
    obtain ⟨g1, g2, g3⟩ := Rg.upd (l := l - min k l) (s := 0) hG (by omega) f (by omega) ud_at (by decide) (by rw [ud_ne (by omega), st0]; rfl) ⟨fun z => by omega, fun z => absurd (by rw [z]; rfl) c0⟩
    refine ⟨g1, g2.trans hp, g3.trans hdn, ⟨k - min k l, by omega, rfl⟩, fun j hj => ?_⟩
    exact (f j (hj d (by omega)).1 (hj d (by omega)).2).trans (hr j hj)
theorem WdOk.run {s : WdT} {p taken : Int32} (h : WdOk W s) : ∀ n, n ≤ dn W → WdOk W (wdF p taken s n) := by
  intro n
  induction n with
  | zero => exact fun _ => h
  | succ n ih => exact fun hn => (ih (by omega)).step (by omega)
theorem f_work (hs : stp a) (hD : Sd I a W) (hG : Rg W) {taken : Int32} (hq : p < pn W) : Sp S m_X5_work 17 0 0 [.ref a, .int (nI p), .int taken] (hp I L w1 w2 t) (fun v h' => v = some (.int (wdF (nI p) taken (W, W (11 + 2 * p + 1), 0) (dn W)).2.2) ∧ ∃ J, h' = hp J L w1 w2 t ∧ (∀ q, q ≠ a + 4 → q ≠ a + 8 → J q = I q) ∧ Sd J a (wdF (nI p) taken (W, W (11 + 2 * p + 1), 0) (dn W)).1) nX := by
  have h12 := hG.1.2.1
  have h6 := hG.1.1
  have e0 : (fun q => I (a + 2) q) p = W (11 + 2 * p + 1) := (hD.2.1 p (by omega)).2
  have fr := (hG.2.2.1 p hq).2
  have ok0 : WdOk W (W, W (11 + 2 * p + 1), 0) := ⟨hG, rfl, rfl, fr, fun _ _ => rfl⟩
  refine Sp_of ok_X5_work rfl rfl ?_
  show AW S m_X5_work 17 _ _ 0 0 0 [some (.ref a), some (.int (nI p)), some (.int taken), none, none, none, none] [] (hp I L w1 w2 t)
  refine a_s rfl rfl ?_
  refine a_s3 rfl rfl rfl rfl rfl rfl ?_
  refine a_l0 rfl rfl rfl ?_
  refine a_getq rfl gfX5_15_5 (kS0 hs) (rS2 hs) ?_
  refine a_l1 rfl rfl rfl ?_
  refine a_eSN1 rfl lX5_86 mo_X11_at (sp_X11_at (kS2 hs)) rfl rfl rfl rfl ?_
  refine a_top (y := W (11 + 2 * p + 1)) ((atF_nI (show p < 6 by omega) (by decide)).trans e0) ?_
  refine a_s4 rfl rfl rfl rfl rfl rfl ?_
  refine a_s rfl rfl ?_
  refine a_s5 rfl rfl rfl rfl rfl rfl ?_
  generalize hs0 : ((W, W (11 + 2 * p + 1), 0) : WdT) = s0 at ok0 ⊢
  refine a_inv (n := dn W) (fun m ls h => ∃ j J, ls = [some (.ref a), some (.int (nI p)), some (.int taken), some (.int (wdF (nI p) taken s0 j).2.2), some (.int (wdF (nI p) taken s0 j).2.1), some (.int (nI j)), none] ∧ h = hp J L w1 w2 t ∧ j ≤ dn W ∧ m = dn W - j ∧ Sd J a (wdF (nI p) taken s0 j).1 ∧ ∀ q, q ≠ a + 4 → q ≠ a + 8 → J q = I q) ⟨0, I, by rw [← hs0]; rfl, rfl, Nat.zero_le _, rfl, by rw [← hs0]; exact hD, fun _ _ _ => rfl⟩ ?_
  rintro m _ _ ⟨j, J, rfl, rfl, hj, hm, hDJ, hf⟩ ih
  have okj := ok0.run (p := nI p) (taken := taken) j hj
  have hdj : J a 3 = nI (dn W) := ((Sd.fd hDJ (f := 3) (g := 1) (by decide)).trans okj.1.1.2.2.2).trans (by rw [okj.2.2.1])
  refine a_l5 rfl rfl rfl ?_
  refine a_l0 rfl rfl rfl ?_
  refine a_getiv (v := nI (dn W)) rfl gfX5_63_5 (kS0 hs) hdj ?_
  refine a_ic_ge rfl (fun c => ?_) (fun c => ?_)
  · have hge := nI_ge_of c (by omega) (by omega)
    obtain rfl : j = dn W := by omega
    refine a_l3 rfl rfl rfl ?_
    exact a_iret rfl rfl ⟨rfl, J, rfl, hf, hDJ⟩
  have hjn := nI_lt_of c (by omega) (by omega)
  refine a_l4 rfl rfl rfl ?_
  refine a_if_le rfl (fun c2 => ?_) (fun c2 => ?_)
  · have e := wdF_stop (p := nI p) (taken := taken) (s := s0) (j := j) (Int32.not_lt.mpr c2) (dn W - j)
    rw [show j + (dn W - j) = dn W by omega] at e
    refine a_l3 rfl rfl rfl ?_
    rw [e]
    exact a_iret rfl rfl ⟨rfl, J, rfl, hf, hDJ⟩
  have hpos := Int32.not_le.mp c2
  have es : wdF (nI p) taken s0 (j + 1) = wdS (nI p) taken (wdF (nI p) taken s0 j) j := rfl
  -- the loop goes on
  have on : ∀ (K : Nat → Nat → Int32) (v : Option Value), Sd K a (wdF (nI p) taken s0 (j + 1)).1 → (∀ q, q ≠ a + 4 → q ≠ a + 8 → K q = I q) → AW S m_X5_work 17 (fun v h' => v = some (.int (wdF (nI p) taken s0 (dn W)).2.2) ∧ ∃ J, h' = hp J L w1 w2 t ∧ (∀ q, q ≠ a + 4 → q ≠ a + 8 → J q = I q) ∧ Sd J a (wdF (nI p) taken s0 (dn W)).1) nX 0 0 144 [some (.ref a), some (.int (nI p)), some (.int taken), some (.int (wdF (nI p) taken s0 (j + 1)).2.2), some (.int (wdF (nI p) taken s0 (j + 1)).2.1), some (.int (nI j)), v] [] (hp K L w1 w2 t) := by
    intro K v hK hfK
    refine a_iv5 (y := nI (j + 1)) rfl rfl rfl ((nI_succ j).symm) ?_
    refine a_goto rfl ?_
    exact a_less (ih (dn W - (j + 1)) _ _ (by omega) ⟨j + 1, K, rfl, rfl, by omega, rfl, hK, hfK⟩) ⟨rfl, rfl, rfl, rfl, rfl, rfl, trivial⟩
  have skip : (¬ (0 < (wdF (nI p) taken s0 j).2.1 ∧ (wdF (nI p) taken s0 j).1 (23 + 6 * j + 0) = nI p ∧ readyR (wdF (nI p) taken s0 j).1 j = true ∧ hasF taken ((wdF (nI p) taken s0 j).1 (23 + 6 * j + 3)) = false)) → wdF (nI p) taken s0 (j + 1) = wdF (nI p) taken s0 j := fun z => if_neg z
  generalize hsj : wdF (nI p) taken s0 j = sj at hDJ okj hpos es skip on ⊢
  have row : ∀ k, k < 6 → J (a + 3 + k) j = sj.1 (23 + 6 * j + k) := fun k hk => hDJ.2.2 j (by omega) k hk
  refine a_l0 rfl rfl rfl ?_
  refine a_getq rfl gfX5_18_5 (kS0 hs) (rS4 hs) ?_
  refine a_l5 rfl rfl rfl ?_
  refine a_eSN1 rfl lX5_86 mo_X11_at (sp_X11_at (kS3 hs)) rfl rfl rfl rfl ?_
  refine a_top (y := sj.1 (23 + 6 * j + 0)) ((atF_nI (show j < 12 by omega) (by decide)).trans (row 0 (by decide))) ?_
  refine a_l1 rfl rfl rfl ?_
  refine a_ic_ne rfl (fun c3 => ?_) (fun c3 => ?_)
  · have e := skip (fun z => c3 z.2.1)
    have on := on J none (by rw [e]; exact hDJ) hf
    rw [e] at on
    exact on
  refine a_l0 rfl rfl rfl ?_
  refine a_l5 rfl rfl rfl ?_
  refine a_eV1 rfl lX5_101 mo_X5_isReady (sp_X5_isReady (nd := dn W) hs hdj h12) rfl rfl rfl ⟨5, _, kS0 hs, rfl, rfl⟩ rfl ?_
  rw [show rdF (dn W) (J (a + 8)) (J (a + 7)) (nI j) = readyR sj.1 j by rw [← okj.2.2.1]; exact rd_same hDJ okj.1 (by rw [okj.2.2.1]; exact hjn)]
  obtain ⟨z, hz⟩ : ∃ z, readyR sj.1 j = z := ⟨_, rfl⟩
  rw [hz]
  cases z with
  | false =>
    refine a_if_eq rfl (fun _ => ?_) (fun c => absurd rfl c)
    have e := skip (fun y => by rw [hz] at y; exact Bool.false_ne_true y.2.2.1)
    have on := on J none (by rw [e]; exact hDJ) hf
    rw [e] at on
    exact on
  | true =>
  refine a_if_eq rfl (fun c => absurd c (by decide)) (fun _ => ?_)
  refine a_l2 rfl rfl rfl ?_
  refine a_l0 rfl rfl rfl ?_
  refine a_getq rfl gfX5_27_5 (kS0 hs) (rS7 hs) ?_
  refine a_l5 rfl rfl rfl ?_
  refine a_eSN1 rfl lX5_86 mo_X11_at (sp_X11_at (kS6 hs)) rfl rfl rfl rfl ?_
  refine a_top (y := sj.1 (23 + 6 * j + 3)) ((atF_nI (show j < 12 by omega) (by decide)).trans (row 3 (by decide))) ?_
  refine a_eSN1 rfl lX5_149 mo_X11_has sp_X11_has rfl rfl rfl rfl ?_
  obtain ⟨z2, hz2⟩ : ∃ z, hasF taken (sj.1 (23 + 6 * j + 3)) = z := ⟨_, rfl⟩
  rw [hz2]
  cases z2 with
  | true =>
    refine a_if_ne rfl (fun _ => ?_) (fun c => absurd c (by decide))
    have e := skip (fun y => by rw [hz2] at y; exact absurd y.2.2.2 (by decide))
    have on := on J none (by rw [e]; exact hDJ) hf
    rw [e] at on
    exact on
  | false =>
  refine a_if_ne rfl (fun c => absurd rfl c) (fun _ => ?_)
  have ec : 0 < sj.2.1 ∧ sj.1 (23 + 6 * j + 0) = nI p ∧ readyR sj.1 j = true ∧ hasF taken (sj.1 (23 + 6 * j + 3)) = false := ⟨hpos, c3, hz, hz2⟩
  refine a_l4 rfl rfl rfl ?_
  refine a_l0 rfl rfl rfl ?_
  refine a_getq rfl gfX5_21_5 (kS0 hs) (rS5 hs) ?_
  refine a_l5 rfl rfl rfl ?_
  refine a_eSN1 rfl lX5_86 mo_X11_at (sp_X11_at (kS4 hs)) rfl rfl rfl rfl ?_
  refine a_top (y := sj.1 (23 + 6 * j + 1)) ((atF_nI (show j < 12 by omega) (by decide)).trans (row 1 (by decide))) ?_
  refine a_min rfl lX5_127 mj_min rfl rfl ?_
  refine a_top (y := mn sj.2.1 (sj.1 (23 + 6 * j + 1))) (rfl) ?_
  refine a_s6 rfl rfl rfl rfl rfl rfl ?_
  refine a_l4 rfl rfl rfl ?_
  refine a_l6 rfl rfl rfl ?_
  refine a_s rfl rfl ?_
  refine a_s4 rfl rfl rfl rfl rfl rfl ?_
  refine a_l3 rfl rfl rfl ?_
  refine a_l0 rfl rfl rfl ?_
  refine a_getq rfl gfX5_27_5 (kS0 hs) (rS7 hs) ?_
  refine a_l5 rfl rfl rfl ?_
  refine a_eSN1 rfl lX5_86 mo_X11_at (sp_X11_at (kS6 hs)) rfl rfl rfl rfl ?_
  refine a_top (y := sj.1 (23 + 6 * j + 3)) ((atF_nI (show j < 12 by omega) (by decide)).trans (row 3 (by decide))) ?_
  refine a_eSN1 rfl lX5_97 mo_X11_bit sp_X11_bit rfl rfl rfl rfl ?_
  refine a_s rfl rfl ?_
  refine a_s3 rfl rfl rfl rfl rfl rfl ?_
  refine a_l0 rfl rfl rfl ?_
  refine a_getq rfl gfX5_21_5 (kS0 hs) (rS5 hs) ?_
  refine a_l5 rfl rfl rfl ?_
  refine a_l0 rfl rfl rfl ?_
  refine a_getq rfl gfX5_21_5 (kS0 hs) (rS5 hs) ?_
  refine a_l5 rfl rfl rfl ?_
  refine a_eSN1 rfl lX5_86 mo_X11_at (sp_X11_at (kS4 hs)) rfl rfl rfl rfl ?_
  refine a_top (y := sj.1 (23 + 6 * j + 1)) ((atF_nI (show j < 12 by omega) (by decide)).trans (row 1 (by decide))) ?_
  refine a_l6 rfl rfl rfl ?_
  refine a_s rfl rfl ?_
  refine a_eSN0 rfl lX5_82 mo_X11_setAt (sp_X11_setAt (kS4 hs)) rfl rfl rfl rfl ?_
  rw [setF_nI (show j < 12 by omega) (by decide)]
  have D1 : Sd (up2 J (a + 4) j (sj.1 (23 + 6 * j + 1) - mn sj.2.1 (sj.1 (23 + 6 * j + 1)))) a (ud sj.1 (23 + 6 * j + 1) (sj.1 (23 + 6 * j + 1) - mn sj.2.1 (sj.1 (23 + 6 * j + 1)))) := Sd.ro (k := 1) hDJ (by omega) (by decide)
  refine a_l0 rfl rfl rfl ?_
  refine a_getq rfl gfX5_21_5 (kS0 hs) (rS5 hs) ?_
  refine a_l5 rfl rfl rfl ?_
  refine a_eSN1 rfl lX5_86 mo_X11_at (sp_X11_at (kS4 hs)) rfl rfl rfl rfl ?_
  refine a_top (y := sj.1 (23 + 6 * j + 1) - mn sj.2.1 (sj.1 (23 + 6 * j + 1))) ((atF_nI (show j < 12 by omega) (by decide)).trans up2_at) ?_
  by_cases c0 : sj.1 (23 + 6 * j + 1) - mn sj.2.1 (sj.1 (23 + 6 * j + 1)) = 0
  · refine a_if_ne rfl (fun c => absurd c0 c) (fun _ => ?_)
    have ew : wdF (nI p) taken s0 (j + 1) = (ud (ud (ud sj.1 (23 + 6 * j + 1) (sj.1 (23 + 6 * j + 1) - mn sj.2.1 (sj.1 (23 + 6 * j + 1)))) (23 + 6 * j + 1) 0) (23 + 6 * j + 5) 1, sj.2.1 - mn sj.2.1 (sj.1 (23 + 6 * j + 1)), sj.2.2 ||| bitF (sj.1 (23 + 6 * j + 3))) := by
      rw [es]
      unfold wdS
      rw [if_pos ec, if_pos c0]
    rw [ew] at on
    refine a_l0 rfl rfl rfl ?_
    refine a_l5 rfl rfl rfl ?_
    refine a_eV0 rfl lX5_153 mo_X5_finish (sp_X5_finish hs) rfl rfl rfl ⟨5, _, kS0 hs, rfl, rfl⟩ rfl ?_
    unfold finF
    rw [setF_nI (show j < 12 by omega) (by decide), setF_nI (show j < 12 by omega) (by decide)]
    exact on _ _ (Sd.ro (k := 5) (Sd.ro (k := 1) D1 (by omega) (by decide)) (by omega) (by decide)) (fun q h4 h8 => by rw [up2_row h8, up2_row h4, up2_row h4]; exact hf q h4 h8)
  · refine a_if_ne rfl (fun _ => ?_) (fun c => absurd c c0)
    have ew : wdF (nI p) taken s0 (j + 1) = (ud sj.1 (23 + 6 * j + 1) (sj.1 (23 + 6 * j + 1) - mn sj.2.1 (sj.1 (23 + 6 * j + 1))), sj.2.1 - mn sj.2.1 (sj.1 (23 + 6 * j + 1)), sj.2.2 ||| bitF (sj.1 (23 + 6 * j + 3))) := by
      rw [es]
      unfold wdS
      rw [if_pos ec, if_neg c0]
    rw [ew] at on
    exact on _ _ D1 (fun q h4 h8 => by rw [up2_row h4]; exact hf q h4 h8)
end T79w
end
section
/-! ===== a day's work: the reference ===== -/
section T79x
variable {S : aS} {I : Nat → Nat → Int32} {L : Nat → Nat → Int64} {w1 w2 t : Nat} {d p : Nat} {W : Nat → Int32} {taken had : Int32}
set_option maxRecDepth 100000
/-- who has which tool -/
def HHd (H : Nat → Int32) (taken had : Int32) (p : Nat) : Prop := ∀ k, k < 6 → (hasF taken (nI k) = true → ∃ q, q < p ∧ H k = nI q) ∧ (hasF taken (nI k) = false → hasF had (nI k) = true → H k = nI p) ∧ (hasF taken (nI k) = false → hasF had (nI k) = false → H k = -1)
theorem hasF_no {s : Int32} : hasF s (-1) = false := by
  unfold hasF bitF
  rw [if_pos (by decide)]
  refine decide_eq_false fun z => z (b_ext fun i hi => ?_)
  rw [b_and, b_0, Bool.and_false]
theorem bitF_no : bitF (-1) = 0 := if_pos (by decide)
theorem or_0 {s : Int32} : s ||| 0 = s := b_ext fun i hi => by rw [b_or, b_0, Bool.or_false]
theorem h_hasTool (h421 : I 421 = W) (hd : d < 12) (hH : HHd (I 429) taken had p) (ht : W (23 + 6 * d + 3) = -1 ∨ Nb (W (23 + 6 * d + 3)) 5) (h6 : p < 6) : SpE S m_X12_hasTool 14 [.ref 420, .int (nI d), .int (nI p)] (hp I L w1 w2 t) (some (.int (bI (!hasF taken (W (23 + 6 * d + 3)))))) (hp I L w1 w2 t) := by
  refine SpE_of ok_X12_hasTool rfl rfl ?_
  show AW S m_X12_hasTool 14 _ _ 0 0 0 [some (.ref 420), some (.int (nI d)), some (.int (nI p)), none] [] (hp I L w1 w2 t)
  refine a_l0 rfl rfl rfl ?_
  refine a_l1 rfl rfl rfl ?_
  refine a_s rfl rfl ?_
  refine a_eV1 rfl lX12_63 mo_X12_of (sp_X12_of (d := d) (k := 3) hd (by decide)) rfl rfl rfl ⟨12, _, rfl, rfl, rfl⟩ rfl ?_
  refine a_top (y := W (23 + 6 * d + 3)) (congrFun h421 _) ?_
  refine a_s3 rfl rfl rfl rfl rfl rfl ?_
  refine a_l3 rfl rfl rfl ?_
  refine a_s rfl rfl ?_
  refine a_ic_eq rfl (fun c => ?_) (fun c => ?_)
  · rw [c, hasF_no]
    refine a_s rfl rfl ?_
    refine a_goto rfl ?_
    exact a_zret rfl rfl rfl ⟨rfl, rfl⟩
  obtain ⟨k, hk, ek⟩ := ht.resolve_left c
  obtain ⟨g1, g2, g3⟩ := hH k (by omega)
  rw [ek]
  refine a_l0 rfl rfl rfl ?_
  refine a_getq rfl gfX12_42_12 rfl (rfl) ?_
  refine a_l3 rfl rfl rfl ?_
  refine a_ialdv (v := I 429 k) rfl (n := 6) rfl (inI_nI (by omega) (by decide)) (by rw [nI_clamp (by omega)]) ?_
  refine a_s rfl rfl ?_
  cases ht : hasF taken (nI k) with
  | true =>
    obtain ⟨q, hq, eq⟩ := g1 ht
    refine a_ic_eq rfl (fun c => ?_) (fun _ => ?_)
    · exfalso
      rw [eq] at c
      have := nI_pos (show q < 2 ^ 31 by omega)
      rw [c] at this
      exact this (by decide)
    refine a_l0 rfl rfl rfl ?_
    refine a_getq rfl gfX12_42_12 rfl (rfl) ?_
    refine a_l3 rfl rfl rfl ?_
    refine a_ialdv (v := I 429 k) rfl (n := 6) rfl (inI_nI (by omega) (by decide)) (by rw [nI_clamp (by omega)]) ?_
    refine a_l2 rfl rfl rfl ?_
    refine a_ic_ne rfl (fun _ => ?_) (fun c => ?_)
    · refine a_s rfl rfl ?_
      exact a_zret rfl rfl rfl ⟨rfl, rfl⟩
    · exfalso
      rw [eq] at c
      have := nI_inj (by omega) (by omega) c
      omega
  | false =>
    cases hh : hasF had (nI k) with
    | false =>
      refine a_ic_eq rfl (fun _ => ?_) (fun c => absurd (g3 ht hh) c)
      refine a_s rfl rfl ?_
      refine a_goto rfl ?_
      exact a_zret rfl rfl rfl ⟨rfl, rfl⟩
    | true =>
      have e := g2 ht hh
      refine a_ic_eq rfl (fun _ => ?_) (fun _ => ?_)
      · refine a_s rfl rfl ?_
        refine a_goto rfl ?_
        exact a_zret rfl rfl rfl ⟨rfl, rfl⟩
      refine a_l0 rfl rfl rfl ?_
      refine a_getq rfl gfX12_42_12 rfl (rfl) ?_
      refine a_l3 rfl rfl rfl ?_
      refine a_ialdv (v := I 429 k) rfl (n := 6) rfl (inI_nI (by omega) (by decide)) (by rw [nI_clamp (by omega)]) ?_
      refine a_l2 rfl rfl rfl ?_
      refine a_ic_ne rfl (fun c => absurd e c) (fun _ => ?_)
      refine a_s rfl rfl ?_
      refine a_goto rfl ?_
      exact a_zret rfl rfl rfl ⟨rfl, rfl⟩
theorem ud_same {k : Nat} : ud W k (W k) = W := by
  funext j
  by_cases c : j = k
  · rw [c, ud_at]
  · rw [ud_ne c]
theorem HHd.tk {H : Nat → Int32} {k : Nat} (h : HHd H taken had p) (hk : k < 6) (ht : hasF taken (nI k) = false) : HHd (fun j => if j = k then nI p else H j) taken (had ||| bitF (nI k)) p := fun j hj => by
  obtain ⟨g1, g2, g3⟩ := h j hj
  rw [hasF_or (show j < 31 by omega), hasF_bit (show k < 31 by omega) (show j < 31 by omega)]
  by_cases c : j = k
  · subst c
    refine ⟨fun z => ?_, fun _ _ => if_pos rfl, fun _ z => ?_⟩
    · rw [ht] at z
      cases z
    · rw [decide_eq_true rfl, Bool.or_true] at z
      cases z
  · rw [decide_eq_false c, Bool.or_false]
    refine ⟨fun z => ?_, fun z1 z2 => ?_, fun z1 z2 => ?_⟩
    · obtain ⟨q, q1, q2⟩ := g1 z
      exact ⟨q, q1, (if_neg c).trans q2⟩
    · exact (if_neg c).trans (g2 z1 z2)
    · exact (if_neg c).trans (g3 z1 z2)
theorem h_works (hG : Rg (I 421)) (hq : p < pn (I 421)) (hH : HHd (I 429) taken 0 p) : Sp S m_X12_works 18 0 0 [.ref 420, .int (nI p)] (hp I L w1 w2 t) (fun v h' => ∃ x, v = some (.int x) ∧ ∃ J, h' = hp J L w1 w2 t ∧ (∀ q, q ≠ 421 → q ≠ 429 → J q = I q) ∧ J 421 = (wdF (nI p) taken (I 421, I 421 (11 + 2 * p + 1), 0) (dn (I 421))).1 ∧ HHd (J 429) taken (wdF (nI p) taken (I 421, I 421 (11 + 2 * p + 1), 0) (dn (I 421))).2.2 p) nX := by
  generalize hW : I 421 = W at hG hq ⊢
  have h12 := hG.1.2.1
  have h6 := hG.1.1
  have ok0 : WdOk W (W, W (11 + 2 * p + 1), 0) := ⟨hG, rfl, rfl, (hG.2.2.1 p hq).2, fun _ _ => rfl⟩
  refine Sp_of ok_X12_works rfl rfl ?_
  show AW S m_X12_works 18 _ _ 0 0 0 [some (.ref 420), some (.int (nI p)), none, none, none, none] [] (hp I L w1 w2 t)
  refine a_l0 rfl rfl rfl ?_
  refine a_l1 rfl rfl rfl ?_
  refine a_s rfl rfl ?_
  refine a_eV1 rfl lX12_252 mo_X12_ofPerson (sp_X12_ofPerson (d := p) (k := 1) (by omega) (by decide)) rfl rfl rfl ⟨12, _, rfl, rfl, rfl⟩ rfl ?_
  refine a_top (y := W (11 + 2 * p + 1)) (congrFun hW _) ?_
  refine a_s2 rfl rfl rfl rfl rfl rfl ?_
  refine a_s rfl rfl ?_
  refine a_s3 rfl rfl rfl rfl rfl rfl ?_
  refine a_s rfl rfl ?_
  refine a_s4 rfl rfl rfl rfl rfl rfl ?_
  generalize hs0 : ((W, W (11 + 2 * p + 1), 0) : WdT) = s0 at ok0 ⊢
  refine a_inv (n := dn W) (fun m ls h => ∃ j y J, ls = [some (.ref 420), some (.int (nI p)), some (.int (wdF (nI p) taken s0 j).2.1), some (.int y), some (.int (nI j)), none] ∧ h = hp J L w1 w2 t ∧ j ≤ dn W ∧ m = dn W - j ∧ J 421 = (wdF (nI p) taken s0 j).1 ∧ HHd (J 429) taken (wdF (nI p) taken s0 j).2.2 p ∧ ∀ q, q ≠ 421 → q ≠ 429 → J q = I q) ⟨0, 0, I, by rw [← hs0]; rfl, rfl, Nat.zero_le _, rfl, by rw [← hs0]; exact hW, by rw [← hs0]; exact hH, fun _ _ _ => rfl⟩ ?_
  rintro m _ _ ⟨j, y, J, rfl, rfl, hj, hm, eJ, hHJ, hf⟩ ih
  have okj := ok0.run (p := nI p) (taken := taken) j hj
  refine a_l4 rfl rfl rfl ?_
  refine a_l0 rfl rfl rfl ?_
  refine a_eV1 rfl lX12_74 mo_X12_duties sp_X12_duties rfl rfl rfl ⟨12, _, rfl, rfl, rfl⟩ rfl ?_
  refine a_top (y := nI (dn W)) (by rw [eJ, okj.1.1.2.2.2, okj.2.2.1]) ?_
  refine a_ic_ge rfl (fun c => ?_) (fun c => ?_)
  · have hge := nI_ge_of c (by omega) (by omega)
    obtain rfl : j = dn W := by omega
    refine a_l3 rfl rfl rfl ?_
    exact a_iret rfl rfl ⟨_, rfl, J, rfl, hf, eJ, hHJ⟩
  have hjn := nI_lt_of c (by omega) (by omega)
  have es : wdF (nI p) taken s0 (j + 1) = wdS (nI p) taken (wdF (nI p) taken s0 j) j := rfl
  -- the loop goes on
  have on : ∀ (K : Nat → Nat → Int32) (v : Option Value) (y : Int32), K 421 = (wdF (nI p) taken s0 (j + 1)).1 → HHd (K 429) taken (wdF (nI p) taken s0 (j + 1)).2.2 p → (∀ q, q ≠ 421 → q ≠ 429 → K q = I q) → AW S m_X12_works 18 (fun v h' => ∃ x, v = some (.int x) ∧ ∃ J, h' = hp J L w1 w2 t ∧ (∀ q, q ≠ 421 → q ≠ 429 → J q = I q) ∧ J 421 = (wdF (nI p) taken s0 (dn W)).1 ∧ HHd (J 429) taken (wdF (nI p) taken s0 (dn W)).2.2 p) nX 0 0 139 [some (.ref 420), some (.int (nI p)), some (.int (wdF (nI p) taken s0 (j + 1)).2.1), some (.int y), some (.int (nI j)), v] [] (hp K L w1 w2 t) := by
    intro K v y hK hHK hfK
    refine a_iv4 (y := nI (j + 1)) rfl rfl rfl ((nI_succ j).symm) ?_
    refine a_goto rfl ?_
    exact a_less (ih (dn W - (j + 1)) _ _ (by omega) ⟨j + 1, y, K, rfl, rfl, by omega, rfl, hK, hHK, hfK⟩) ⟨rfl, rfl, rfl, rfl, rfl, trivial⟩
  have skip : (¬ (0 < (wdF (nI p) taken s0 j).2.1 ∧ (wdF (nI p) taken s0 j).1 (23 + 6 * j + 0) = nI p ∧ readyR (wdF (nI p) taken s0 j).1 j = true ∧ hasF taken ((wdF (nI p) taken s0 j).1 (23 + 6 * j + 3)) = false)) → wdF (nI p) taken s0 (j + 1) = wdF (nI p) taken s0 j := fun z => if_neg z
  generalize hsj : wdF (nI p) taken s0 j = sj at eJ hHJ okj es skip on ⊢
  have gj : ∀ k, J 421 k = sj.1 k := fun k => congrFun eJ k
  have nj : dn sj.1 = dn W := okj.2.2.1
  have dj := okj.1.2.2.2 j (by omega)
  have next : ∀ v, wdF (nI p) taken s0 (j + 1) = sj → AW S m_X12_works 18 (fun v h' => ∃ x, v = some (.int x) ∧ ∃ J, h' = hp J L w1 w2 t ∧ (∀ q, q ≠ 421 → q ≠ 429 → J q = I q) ∧ J 421 = (wdF (nI p) taken s0 (dn W)).1 ∧ HHd (J 429) taken (wdF (nI p) taken s0 (dn W)).2.2 p) nX 0 0 139 [some (.ref 420), some (.int (nI p)), some (.int sj.2.1), some (.int y), some (.int (nI j)), v] [] (hp J L w1 w2 t) := fun v e => by
    have on := on J v y (by rw [e]; exact eJ) (by rw [e]; exact hHJ) hf
    rw [e] at on
    exact on
  refine a_l0 rfl rfl rfl ?_
  refine a_l4 rfl rfl rfl ?_
  refine a_s rfl rfl ?_
  refine a_eV1 rfl lX12_63 mo_X12_of (sp_X12_of (d := j) (k := 0) (by omega) (by decide)) rfl rfl rfl ⟨12, _, rfl, rfl, rfl⟩ rfl ?_
  refine a_top (y := sj.1 (23 + 6 * j + 0)) (gj _) ?_
  refine a_l1 rfl rfl rfl ?_
  refine a_ic_ne rfl (fun c3 => ?_) (fun c3 => ?_)
  · exact next _ (skip fun z => c3 z.2.1)
  refine a_l0 rfl rfl rfl ?_
  refine a_l4 rfl rfl rfl ?_
  refine a_eV1 rfl lX12_273 mo_X12_isReady (sp_X12_isReady (nd := dn W) h12 hjn (by rw [eJ, ← nj]; exact okj.1.so.l)) rfl rfl rfl ⟨12, _, rfl, rfl, rfl⟩ rfl ?_
  obtain ⟨z, hz⟩ : ∃ z, readyR sj.1 j = z := ⟨_, rfl⟩
  refine a_top (y := bI z) (by rw [eJ, ← hz]; rfl) ?_
  cases z with
  | false =>
    refine a_if_eq rfl (fun _ => ?_) (fun c => absurd rfl c)
    exact next _ (skip fun y => by rw [hz] at y; exact Bool.false_ne_true y.2.2.1)
  | true =>
  refine a_if_eq rfl (fun c => absurd c (by decide)) (fun _ => ?_)
  refine a_l0 rfl rfl rfl ?_
  refine a_l4 rfl rfl rfl ?_
  refine a_l1 rfl rfl rfl ?_
  refine a_eV1 rfl lX12_367 mo_X12_hasTool (h_hasTool (W := sj.1) (had := sj.2.2) eJ (by omega) hHJ dj.2.2.2.1 (by omega)) rfl rfl rfl ⟨12, _, rfl, rfl, rfl⟩ rfl ?_
  obtain ⟨z2, hz2⟩ : ∃ z, hasF taken (sj.1 (23 + 6 * j + 3)) = z := ⟨_, rfl⟩
  rw [hz2]
  cases z2 with
  | true =>
    refine a_if_ne rfl (fun c => absurd rfl c) (fun _ => ?_)
    refine a_goto rfl ?_
    exact next _ (skip fun y => by rw [hz2] at y; exact absurd y.2.2.2 (by decide))
  | false =>
  refine a_if_ne rfl (fun _ => ?_) (fun c => absurd c (by decide))
  obtain ⟨hh, hh9, eh⟩ := okj.2.2.2.1
  obtain ⟨-, ⟨l, hl, el, e1⟩, -, htl, -⟩ := dj
  have st0 := readyR_0 hz
  have l1 : 1 ≤ l := by
    rcases l with _ | l
    · have := e1.mpr rfl
      rw [st0] at this
      exact absurd this (by decide)
    · omega
  have em : mn sj.2.1 (sj.1 (23 + 6 * j + 1)) = nI (min hh l) := by rw [eh, el, mn_nI (by omega) (by omega)]
  refine a_l2 rfl rfl rfl ?_
  refine a_l0 rfl rfl rfl ?_
  refine a_l4 rfl rfl rfl ?_
  refine a_s rfl rfl ?_
  refine a_eV1 rfl lX12_63 mo_X12_of (sp_X12_of (d := j) (k := 1) (by omega) (by decide)) rfl rfl rfl ⟨12, _, rfl, rfl, rfl⟩ rfl ?_
  refine a_top (y := sj.1 (23 + 6 * j + 1)) (gj _) ?_
  refine a_min rfl lX12_295 mj_min rfl rfl ?_
  refine a_top (y := nI (min hh l)) (em) ?_
  refine a_s5 rfl rfl rfl rfl rfl rfl ?_
  -- behind the tool: hours, left, perhaps done
  have k96 : ∀ (K : Nat → Nat → Int32), K 421 = sj.1 → (∀ q, q ≠ 421 → q ≠ 429 → K q = I q) → (hh = 0 → HHd (K 429) taken sj.2.2 p) → (¬ hh = 0 → HHd (K 429) taken (sj.2.2 ||| bitF (sj.1 (23 + 6 * j + 3))) p) → AW S m_X12_works 18 (fun v h' => ∃ x, v = some (.int x) ∧ ∃ J, h' = hp J L w1 w2 t ∧ (∀ q, q ≠ 421 → q ≠ 429 → J q = I q) ∧ J 421 = (wdF (nI p) taken s0 (dn W)).1 ∧ HHd (J 429) taken (wdF (nI p) taken s0 (dn W)).2.2 p) nX 0 0 96 [some (.ref 420), some (.int (nI p)), some (.int sj.2.1), some (.int y), some (.int (nI j)), some (.int (nI (min hh l)))] [] (hp K L w1 w2 t) := by
    intro K eK hfK hH0 hH1
    refine a_l2 rfl rfl rfl ?_
    refine a_l5 rfl rfl rfl ?_
    refine a_s rfl rfl ?_
    refine a_top (y := nI (hh - min hh l)) (by rw [eh, nI_sub (by omega)]) ?_
    refine a_s2 rfl rfl rfl rfl rfl rfl ?_
    refine a_l0 rfl rfl rfl ?_
    refine a_getq rfl gfX12_13_12 rfl (rfl) ?_
    refine a_l4 rfl rfl rfl ?_
    refine a_s rfl rfl ?_
    refine a_eS1 rfl lX12_60 mo_X12_at (sp_X12_at (d := j) (k := 1)) rfl rfl rfl rfl ?_
    refine a_s rfl rfl ?_
    refine a_ialdv (v := nI l) rfl (n := 2033) rfl (inI_nI (by omega) (by omega)) (by rw [nI_clamp (by omega), eK, el]) ?_
    refine a_l5 rfl rfl rfl ?_
    refine a_s rfl rfl ?_
    refine a_top (y := nI (l - min hh l)) (nI_sub (by omega)) ?_
    refine a_iastv (k := 23 + 6 * j + 1) rfl (n := 2033) rfl (inI_nI (by omega) (by omega)) (nI_clamp (by omega)) ?_
    have eK1 : up2 K 421 (23 + 6 * j + 1) (nI (l - min hh l)) 421 = ud sj.1 (23 + 6 * j + 1) (nI (l - min hh l)) := by rw [up2_ud, eK]
    refine a_l0 rfl rfl rfl ?_
    refine a_l4 rfl rfl rfl ?_
    refine a_s rfl rfl ?_
    refine a_eV1 rfl lX12_63 mo_X12_of (sp_X12_of (d := j) (k := 1) (by omega) (by decide)) rfl rfl rfl ⟨12, _, rfl, rfl, rfl⟩ rfl ?_
    refine a_top (y := nI (l - min hh l)) (up2_at) ?_
    by_cases h0 : hh = 0
    · -- no hours: nothing
      have ec : ¬ (0 < sj.2.1 ∧ sj.1 (23 + 6 * j + 0) = nI p ∧ readyR sj.1 j = true ∧ hasF taken (sj.1 (23 + 6 * j + 3)) = false) := fun z => by
        have := z.1
        rw [eh, h0] at this
        exact absurd this (by decide)
      have e := skip ec
      refine a_if_le rfl (fun c => ?_) (fun _ => ?_)
      · exfalso
        have := Int32.le_iff_toInt_le.mp c
        rw [nI_toInt (by omega), show (0 : Int32).toInt = 0 from rfl] at this
        omega
      have on := on (up2 K 421 (23 + 6 * j + 1) (nI (l - min hh l))) (some (.int (nI (min hh l)))) y (by rw [eK1, e, show l - min hh l = l by omega, ← el]; exact ud_same) (by rw [e, up2_row (by decide)]; exact hH0 h0) (fun q h1 h2 => by rw [up2_row h1]; exact hfK q h1 h2)
      rw [e, eh, show nI hh = nI (hh - min hh l) by rw [h0]; rfl] at on
      refine a_goto rfl ?_
      exact on
    have ec : 0 < sj.2.1 ∧ sj.1 (23 + 6 * j + 0) = nI p ∧ readyR sj.1 j = true ∧ hasF taken (sj.1 (23 + 6 * j + 3)) = false := ⟨by
      rw [eh, Int32.lt_iff_toInt_lt, nI_toInt (by omega)]
      show (0 : Int) < _
      omega, c3, hz, hz2⟩
    have ex : sj.1 (23 + 6 * j + 1) - mn sj.2.1 (sj.1 (23 + 6 * j + 1)) = nI (l - min hh l) := by rw [em, el, nI_sub (by omega)]
    have eh2 : sj.2.1 - mn sj.2.1 (sj.1 (23 + 6 * j + 1)) = nI (hh - min hh l) := by rw [em, eh, nI_sub (by omega)]
    by_cases c0 : nI (l - min hh l) = 0
    · refine a_if_le rfl (fun _ => ?_) (fun c => absurd (by rw [c0]; exact Int32.le_refl _) c)
      have ew : wdF (nI p) taken s0 (j + 1) = (ud (ud (ud sj.1 (23 + 6 * j + 1) (nI (l - min hh l))) (23 + 6 * j + 1) 0) (23 + 6 * j + 5) 1, nI (hh - min hh l), sj.2.2 ||| bitF (sj.1 (23 + 6 * j + 3))) := by
        rw [es]
        unfold wdS
        rw [if_pos ec, ex, eh2, if_pos c0]
      rw [ew] at on
      refine a_l0 rfl rfl rfl ?_
      refine a_l4 rfl rfl rfl ?_
      refine a_eV0 rfl lX12_360 mo_X12_finishes (h_finishes (i := j) (by omega)) rfl rfl rfl ⟨12, _, rfl, rfl, rfl⟩ rfl ?_
      refine a_i3 rfl rfl rfl ?_
      exact on _ _ _ (by rw [up2_ud, up2_ud, eK1]) (by rw [up2_row (by decide), up2_row (by decide), up2_row (by decide)]; exact hH1 h0) (fun q h1 h2 => by rw [up2_row h1, up2_row h1, up2_row h1]; exact hfK q h1 h2)
    · refine a_if_le rfl (fun c => ?_) (fun _ => ?_)
      · exfalso
        have := Int32.le_iff_toInt_le.mp c
        rw [nI_toInt (by omega), show (0 : Int32).toInt = 0 from rfl] at this
        exact c0 (by rw [show l - min hh l = 0 by omega]; rfl)
      have ew : wdF (nI p) taken s0 (j + 1) = (ud sj.1 (23 + 6 * j + 1) (nI (l - min hh l)), nI (hh - min hh l), sj.2.2 ||| bitF (sj.1 (23 + 6 * j + 3))) := by
        rw [es]
        unfold wdS
        rw [if_pos ec, ex, eh2, if_neg c0]
      rw [ew] at on
      refine a_goto rfl ?_
      exact on _ _ _ eK1 (by rw [up2_row (by decide)]; exact hH1 h0) (fun q h1 h2 => by rw [up2_row h1]; exact hfK q h1 h2)
  refine a_l5 rfl rfl rfl ?_
  refine a_if_le rfl (fun c4 => ?_) (fun c4 => ?_)
  · have h0 : hh = 0 := by
      have := Int32.le_iff_toInt_le.mp c4
      rw [nI_toInt (by omega), show (0 : Int32).toInt = 0 from rfl] at this
      omega
    exact k96 J eJ hf (fun _ => hHJ) (fun z => absurd h0 z)
  have h0 : ¬ hh = 0 := fun z => c4 (by rw [z, Nat.zero_min]; decide)
  refine a_l0 rfl rfl rfl ?_
  refine a_l4 rfl rfl rfl ?_
  refine a_s rfl rfl ?_
  refine a_eV1 rfl lX12_63 mo_X12_of (sp_X12_of (d := j) (k := 3) (by omega) (by decide)) rfl rfl rfl ⟨12, _, rfl, rfl, rfl⟩ rfl ?_
  refine a_top (y := sj.1 (23 + 6 * j + 3)) (gj _) ?_
  refine a_s rfl rfl ?_
  refine a_ic_eq rfl (fun c5 => ?_) (fun c5 => ?_)
  · exact k96 J eJ hf (fun z => absurd z h0) (fun _ => by rw [c5, bitF_no, or_0]; exact hHJ)
  obtain ⟨k, hk, ek⟩ := htl.resolve_left c5
  refine a_l0 rfl rfl rfl ?_
  refine a_getq rfl gfX12_42_12 rfl (rfl) ?_
  refine a_l0 rfl rfl rfl ?_
  refine a_l4 rfl rfl rfl ?_
  refine a_s rfl rfl ?_
  refine a_eV1 rfl lX12_63 mo_X12_of (sp_X12_of (d := j) (k := 3) (by omega) (by decide)) rfl rfl rfl ⟨12, _, rfl, rfl, rfl⟩ rfl ?_
  refine a_top (y := nI k) ((gj _).trans ek) ?_
  refine a_l1 rfl rfl rfl ?_
  refine a_iastv (k := k) rfl (n := 6) rfl (inI_nI (by omega) (by omega)) (nI_clamp (by omega)) ?_
  refine k96 _ ((up2_row (by decide)).trans eJ) (fun q h1 h2 => by rw [up2_row h2]; exact hf q h1 h2) (fun z => absurd z h0) (fun _ => ?_)
  rw [up2_ud, ek]
  exact HHd.tk hHJ (by omega) (by rw [← ek]; exact hz2)
end T79x
end
section
/-! ===== a month more, on the row; both sides do it so ===== -/
section T79y
variable {S : aS} {I : Nat → Nat → Int32} {L : Nat → Nat → Int64} {w1 w2 t : Nat} {a b d nl len : Nat} {cd fa fn : Nat → Nat} {W : Nat → Int32}
set_option maxRecDepth 100000
/-- a duty grows older -/
def gwS (g : (Nat → Int32) → Nat → Int32) (W : Nat → Int32) (d : Nat) : Nat → Int32 :=
  if W (23 + 6 * d + 5) = 1 then W else ud (ud W (23 + 6 * d + 2) (mn 99 (W (23 + 6 * d + 2) + 1))) (23 + 6 * d + 1) (mn 99 (W (23 + 6 * d + 1) + (if W (23 + 6 * d + 5) = 0 then g W d else 0)))
def gwF (g : (Nat → Int32) → Nat → Int32) (W : Nat → Int32) : Nat → Nat → Int32
  | 0 => W
  | n + 1 => gwS g (gwF g W n) n
def gwL (cd fa fn : Nat → Nat) (nl : Nat) (W : Nat → Int32) (d : Nat) : Int32 := sumR W cd fa fn nl d 0
def LwN (W : Nat → Int32) (nl : Nat) : Prop := nl ≤ 12 ∧ ∀ n, n < nl → Nb (nuW W n) 60
theorem sumL_nb {F ki nu : Nat → Int32} {kind : Int32} : ∀ {n : Nat}, n ≤ 12 → (∀ i, i < n → Nb (nu i) 60) → Nb (sumL F ki nu cd fa fn kind n) (60 * n) := by
  intro n
  induction n with
  | zero => exact fun _ _ => ⟨0, Nat.le_refl _, rfl⟩
  | succ n ih =>
    intro hn h
    obtain ⟨k, k1, k2⟩ := ih (by omega) fun i hi => h i (by omega)
    obtain ⟨m, m1, m2⟩ := h n (by omega)
    unfold sumL
    by_cases c : ki n = kind ∧ lineF F cd (fa n) (fn n) = true
    · rw [if_pos c, k2, m2, nI_addl]
      exact ⟨k + m, by omega, rfl⟩
    · rw [if_neg c, k2]
      exact ⟨k, by omega, rfl⟩
theorem gwL_nb (h : LwN W nl) : Nb (gwL cd fa fn nl W d) 720 := by
  obtain ⟨k, k1, k2⟩ := sumL_nb (cd := cd) (fa := fa) (fn := fn) (F := factW W d) (ki := kiW W) (nu := nuW W) (kind := 0) h.1 h.2
  exact ⟨k, by have := h.1; omega, k2⟩
theorem ud_comm {i j : Nat} {x y : Int32} (h : i ≠ j) : ud (ud W i x) j y = ud (ud W j y) i x := by
  funext k
  by_cases c1 : k = i
  · subst c1
    rw [ud_ne h, ud_at, ud_at]
  · rw [ud_ne (W := ud W j y) c1]
    by_cases c2 : k = j
    · subst c2
      rw [ud_at, ud_at]
    · rw [ud_ne c2, ud_ne c2, ud_ne c1]
/-- what holds on the way -/
def GwOk (nl : Nat) (W s : Nat → Int32) : Prop := Rg s ∧ pn s = pn W ∧ dn s = dn W ∧ LwN s nl ∧ ∀ k, (∀ d, d < 12 → k ≠ 23 + 6 * d + 1 ∧ k ≠ 23 + 6 * d + 2) → s k = W k
theorem GwOk.step {s : Nat → Int32} (h : GwOk nl W s) (hd : d < dn W) : GwOk nl W (gwS (gwL cd fa fn nl) s d) := by
  obtain ⟨hG, hp, hdn, hL, hr⟩ := h
  have h12 := hG.1.2.1
  unfold gwS
  by_cases c : s (23 + 6 * d + 5) = 1
  · rw [if_pos c]
    exact ⟨hG, hp, hdn, hL, hr⟩
  rw [if_neg c]
  obtain ⟨⟨h1, h2, h3, h4⟩, hf, hpp, hdd⟩ := id hG
  obtain ⟨b0, ⟨l, hl, el, e1⟩, ⟨ag, ha, ea⟩, b3, b4, b5⟩ := hdd d (by omega)
  have l1 : 1 ≤ l := by
    rcases l with _ | l
    · exact absurd (e1.mpr rfl) c
    · omega
  obtain ⟨g, hg, eg⟩ : ∃ g, g ≤ 720 ∧ (if s (23 + 6 * d + 5) = 0 then gwL cd fa fn nl s d else 0) = nI g := by
    by_cases c0 : s (23 + 6 * d + 5) = 0
    · rw [if_pos c0]
      exact gwL_nb hL
    · rw [if_neg c0]
      exact ⟨0, by decide, rfl⟩
  have ex : mn 99 (s (23 + 6 * d + 1) + (if s (23 + 6 * d + 5) = 0 then gwL cd fa fn nl s d else 0)) = nI (min 99 (l + g)) := by
    rw [eg, el, nI_addl, show (99 : Int32) = nI 99 from rfl, mn_nI (by decide) (by omega)]
  have ey : mn 99 (s (23 + 6 * d + 2) + 1) = nI (min 99 (ag + 1)) := by
    rw [ea, ← nI_succ, show (99 : Int32) = nI 99 from rfl, mn_nI (by decide) (by omega)]
  rw [ex, ey]
  have f : ∀ k, k ≠ 23 + 6 * d + 1 → k ≠ 23 + 6 * d + 2 → ud (ud s (23 + 6 * d + 2) (nI (min 99 (ag + 1)))) (23 + 6 * d + 1) (nI (min 99 (l + g))) k = s k := fun k k1 k2 => by rw [ud_ne k1, ud_ne k2]
  generalize hs' : ud (ud s (23 + 6 * d + 2) (nI (min 99 (ag + 1)))) (23 + 6 * d + 1) (nI (min 99 (l + g))) = s' at f
  have f1 : s' (23 + 6 * d + 1) = nI (min 99 (l + g)) := by rw [← hs', ud_at]
  have f2 : s' (23 + 6 * d + 2) = nI (min 99 (ag + 1)) := by rw [← hs', ud_ne (by omega), ud_at]
  have r : Rg s' := by
    refine Rg.of h1 h2 ((f 0 (by omega) (by omega)).trans h3) ((f 1 (by omega) (by omega)).trans h4) (hf.eq fun k z1 z2 => f k (by omega) (by omega)) (fun p z => (hpp p z).eq (f _ (by omega) (by omega)) (f _ (by omega) (by omega))) (fun e' z => ?_)
    by_cases ce : e' = d
    · subst ce
      unfold RgD
      rw [f (23 + 6 * e' + 0) (by omega) (by omega), f (23 + 6 * e' + 3) (by omega) (by omega), f (23 + 6 * e' + 4) (by omega) (by omega), f (23 + 6 * e' + 5) (by omega) (by omega), f1, f2]
      exact ⟨b0, ⟨min 99 (l + g), by omega, rfl, ⟨fun z => absurd z c, fun z => by omega⟩⟩, ⟨min 99 (ag + 1), by omega, rfl⟩, b3, b4, b5⟩
    · exact (hdd e' z).eq fun k hk => f _ (by omega) (by omega)
  refine ⟨r, ?_, ?_, ⟨hL.1, fun n hn => ?_⟩, fun k hk => (f k (hk d (by omega)).1 (hk d (by omega)).2).trans (hr k hk)⟩
  · rw [← hp]
    unfold pn
    rw [f 0 (by omega) (by omega)]
  · rw [← hdn]
    unfold dn
    rw [f 1 (by omega) (by omega)]
  · rw [show nuW s' n = nuW s n from f _ (by omega) (by omega)]
    exact hL.2 n hn
theorem GwOk.run {s : Nat → Int32} (h : GwOk nl W s) : ∀ n, n ≤ dn W → GwOk nl W (gwF (gwL cd fa fn nl) s n) := by
  intro n
  induction n with
  | zero => exact fun _ => h
  | succ n ih => exact fun hn => (ih (by omega)).step (by omega)
theorem LawR.eq {W' : Nat → Int32} (h : LawR W nl len cd fa fn) (e3 : W' 3 = W 3) (e : ∀ k, 335 ≤ k → W' k = W k) : LawR W' nl len cd fa fn := by
  obtain ⟨h1, h2, h3, h4, h5⟩ := h
  refine ⟨?_, h2, h3, fun i hi => ?_, fun n hn => ?_⟩
  · rw [e3, e 335 (Nat.le_refl _)]
    exact h1
  · rw [e _ (by omega), e _ (by omega)]
    exact h4 i hi
  · rw [e _ (by omega), e _ (by omega)]
    exact h5 n hn
theorem LawC.eq {J : Nat → Nat → Int32} (h : LawC I b nl len cd fa fn) (f : ∀ q, b ≤ q → q ≤ b + 5 → J q = I q) : LawC J b nl len cd fa fn := by
  unfold LawC
  rw [f b (by omega) (by omega), f (b + 3) (by omega) (by omega), f (b + 4) (by omega) (by omega), f (b + 5) (by omega) (by omega)]
  exact h
theorem LwS.eq {J : Nat → Nat → Int32} {W' : Nat → Int32} (h : LwS I b W nl len cd fa fn) (f : ∀ q, b ≤ q → q ≤ b + 5 → J q = I q) (e3 : W' 3 = W 3) (e : ∀ k, 335 ≤ k → W' k = W k) : LwS J b W' nl len cd fa fn := by
  obtain ⟨h1, h2, h3, h4⟩ := h
  refine ⟨LawC.eq h1 f, LawR.eq h2 e3 e, fun n hn => ?_, ?_⟩
  · rw [f (b + 1) (by omega) (by omega), f (b + 2) (by omega) (by omega), show kiW W' n = kiW W n from e _ (by omega), show nuW W' n = nuW W n from e _ (by omega)]
    exact h3 n hn
  · rw [f b (by omega) (by omega), e3]
    exact h4
theorem h_growsOlder (hG : Rg (I 421)) (hd : d < dn (I 421)) (hL : LawR (I 421) nl len cd fa fn) : Sp S m_X12_growsOlder 20 0 0 [.ref 420, .int (nI d)] (hp I L w1 w2 t) (fun v h' => v = none ∧ ∃ J, h' = hp J L w1 w2 t ∧ (∀ q, q ≠ 421 → q ≠ 428 → J q = I q) ∧ J 421 = gwS (gwL cd fa fn nl) (I 421) d) nX := by
  generalize hW : I 421 = W at hG hd hL ⊢
  have h12 := hG.1.2.1
  have h6 := hG.1.1
  refine Sp_of ok_X12_growsOlder rfl rfl ?_
  show AW S m_X12_growsOlder 20 _ _ 0 0 0 [some (.ref 420), some (.int (nI d)), none] [] (hp I L w1 w2 t)
  refine a_l0 rfl rfl rfl ?_
  refine a_l1 rfl rfl rfl ?_
  refine a_eV1 rfl lX12_246 mo_X12_isDone (sp_X12_isDone (d := d) (by omega)) rfl rfl rfl ⟨12, _, rfl, rfl, rfl⟩ rfl ?_
  rw [show vd (I 421) 5 d = W (23 + 6 * d + 5) from congrFun hW _]
  by_cases c : W (23 + 6 * d + 5) = 1
  · rw [decide_eq_true c]
    refine a_if_eq rfl (fun z => absurd z (by decide)) (fun _ => ?_)
    exact a_vret rfl rfl ⟨rfl, I, rfl, fun _ _ _ => rfl, by unfold gwS; rw [if_pos c]; exact hW⟩
  rw [decide_eq_false c]
  refine a_if_eq rfl (fun _ => ?_) (fun z => absurd rfl z)
  have fin : ∀ (K : Nat → Nat → Int32) (g : Int32), K 421 = W → (∀ q, q ≠ 421 → q ≠ 428 → K q = I q) → g = (if W (23 + 6 * d + 5) = 0 then gwL cd fa fn nl W d else 0) → AW S m_X12_growsOlder 20 (fun v h' => v = none ∧ ∃ J, h' = hp J L w1 w2 t ∧ (∀ q, q ≠ 421 → q ≠ 428 → J q = I q) ∧ J 421 = gwS (gwL cd fa fn nl) W d) nX 0 0 26 [some (.ref 420), some (.int (nI d)), none] [.int g] (hp K L w1 w2 t) := by
    intro K g eK hf hg
    refine a_s2 rfl rfl rfl rfl rfl rfl ?_
    refine a_l0 rfl rfl rfl ?_
    refine a_getq rfl gfX12_13_12 rfl (rfl) ?_
    refine a_l1 rfl rfl rfl ?_
    refine a_s rfl rfl ?_
    refine a_eS1 rfl lX12_60 mo_X12_at (sp_X12_at (d := d) (k := 2)) rfl rfl rfl rfl ?_
    refine a_s rfl rfl ?_
    refine a_l0 rfl rfl rfl ?_
    refine a_l1 rfl rfl rfl ?_
    refine a_s rfl rfl ?_
    refine a_eV1 rfl lX12_63 mo_X12_of (sp_X12_of (d := d) (k := 2) (by omega) (by decide)) rfl rfl rfl ⟨12, _, rfl, rfl, rfl⟩ rfl ?_
    refine a_top (y := W (23 + 6 * d + 2)) (congrFun eK _) ?_
    refine a_s rfl rfl ?_
    refine a_s rfl rfl ?_
    refine a_min rfl lX12_295 mj_min rfl rfl ?_
    refine a_top (y := mn 99 (W (23 + 6 * d + 2) + 1)) (rfl) ?_
    refine a_iastv (k := 23 + 6 * d + 2) rfl (n := 2033) rfl (inI_nI (by omega) (by omega)) (nI_clamp (by omega)) ?_
    refine a_l0 rfl rfl rfl ?_
    refine a_getq rfl gfX12_13_12 rfl (rfl) ?_
    refine a_l1 rfl rfl rfl ?_
    refine a_s rfl rfl ?_
    refine a_eS1 rfl lX12_60 mo_X12_at (sp_X12_at (d := d) (k := 1)) rfl rfl rfl rfl ?_
    refine a_s rfl rfl ?_
    refine a_l0 rfl rfl rfl ?_
    refine a_l1 rfl rfl rfl ?_
    refine a_s rfl rfl ?_
    refine a_eV1 rfl lX12_63 mo_X12_of (sp_X12_of (d := d) (k := 1) (by omega) (by decide)) rfl rfl rfl ⟨12, _, rfl, rfl, rfl⟩ rfl ?_
    refine a_top (y := W (23 + 6 * d + 1)) ((up2_ne (Or.inr (by omega))).trans (congrFun eK _)) ?_
    refine a_l2 rfl rfl rfl ?_
    refine a_s rfl rfl ?_
    refine a_min rfl lX12_295 mj_min rfl rfl ?_
    refine a_top (y := mn 99 (W (23 + 6 * d + 1) + g)) (rfl) ?_
    refine a_iastv (k := 23 + 6 * d + 1) rfl (n := 2033) rfl (inI_nI (by omega) (by omega)) (nI_clamp (by omega)) ?_
    exact a_vret rfl rfl ⟨rfl, _, rfl, fun q h1 h2 => by rw [up2_row h1, up2_row h1]; exact hf q h1 h2, by unfold gwS; rw [if_neg c, up2_ud, up2_ud, eK, hg]⟩
  refine a_l0 rfl rfl rfl ?_
  refine a_l1 rfl rfl rfl ?_
  refine a_eV1 rfl lX12_135 mo_X12_isWaiting (sp_X12_isWaiting (d := d) (by omega)) rfl rfl rfl ⟨12, _, rfl, rfl, rfl⟩ rfl ?_
  rw [show vd (I 421) 5 d = W (23 + 6 * d + 5) from congrFun hW _]
  by_cases c0 : W (23 + 6 * d + 5) = 0
  · rw [decide_eq_true c0]
    refine a_if_eq rfl (fun z => absurd z (by decide)) (fun _ => ?_)
    refine a_l0 rfl rfl rfl ?_
    refine a_l1 rfl rfl rfl ?_
    refine a_gV rfl lX12_351 mo_X12_growsBy (sp_X12_growsBy (nd := dn W) (np := pn W) h12 h6 hd (by rw [hW]; exact hG.so.l) (by rw [hW]; exact hG.so.o) (by rw [hW]; exact hL)) rfl rfl rfl ⟨12, _, rfl, rfl, rfl⟩ rfl (fun v' h' hv => ?_)
    obtain ⟨rfl, f, rfl⟩ := hv
    refine a_goto rfl ?_
    exact fin _ _ ((upr_row (by decide)).trans hW) (fun q h1 h2 => upr_row h2) (by rw [if_pos c0, hW]; rfl)
  · rw [decide_eq_false c0]
    refine a_if_eq rfl (fun _ => ?_) (fun z => absurd rfl z)
    refine a_s rfl rfl ?_
    exact fin I 0 hW (fun _ _ _ => rfl) (by rw [if_neg c0])
end T79y
end
section
/-! ===== a month more: the class ===== -/
section T79y2
variable {S : aS} {I : Nat → Nat → Int32} {L : Nat → Nat → Int64} {w1 w2 t : Nat} {a b d nl len : Nat} {cd fa fn : Nat → Nat} {W : Nat → Int32}
set_option maxRecDepth 100000
theorem f_passMonth (ha : stp a) (hb : lwp b) (hD : Sd I a W) (hG : Rg W) (hL : LwS I b W nl len cd fa fn) (hN : LwN W nl) : Sp S m_X5_passMonth 18 0 0 [.ref a, .ref b] (hp I L w1 w2 t) (fun v h' => v = none ∧ ∃ J, h' = hp J L w1 w2 t ∧ (∀ q, q ≠ a + 4 → q ≠ a + 5 → q ≠ b + 6 → q ≠ b + 7 → J q = I q) ∧ Sd J a (gwF (gwL cd fa fn nl) W (dn W))) nX := by
  have h12 := hG.1.2.1
  have h6 := hG.1.1
  have hab := stp_lwp a ha b hb
  have ok0 : GwOk nl W W := ⟨hG, rfl, rfl, hN, fun _ _ => rfl⟩
  refine Sp_of ok_X5_passMonth rfl rfl ?_
  show AW S m_X5_passMonth 18 _ _ 0 0 0 [some (.ref a), some (.ref b), none, none] [] (hp I L w1 w2 t)
  refine a_s rfl rfl ?_
  refine a_s2 rfl rfl rfl rfl rfl rfl ?_
  refine a_inv (n := dn W) (fun m ls h => ∃ j J, ls = [some (.ref a), some (.ref b), some (.int (nI j)), none] ∧ h = hp J L w1 w2 t ∧ j ≤ dn W ∧ m = dn W - j ∧ Sd J a (gwF (gwL cd fa fn nl) W j) ∧ ∀ q, q ≠ a + 4 → q ≠ a + 5 → q ≠ b + 6 → q ≠ b + 7 → J q = I q) ⟨0, I, rfl, rfl, Nat.zero_le _, rfl, hD, fun _ _ _ _ _ => rfl⟩ ?_
  rintro m _ _ ⟨j, J, rfl, rfl, hj, hm, hDJ, hf⟩ ih
  have okj := ok0.run (cd := cd) (fa := fa) (fn := fn) j hj
  have hdj : J a 3 = nI (dn W) := ((Sd.fd hDJ (f := 3) (g := 1) (by decide)).trans okj.1.1.2.2.2).trans (by rw [okj.2.2.1])
  refine a_l2 rfl rfl rfl ?_
  refine a_l0 rfl rfl rfl ?_
  refine a_getiv (v := nI (dn W)) rfl gfX5_63_5 (kS0 ha) hdj ?_
  refine a_ic_ge rfl (fun c => ?_) (fun c => ?_)
  · have hge := nI_ge_of c (by omega) (by omega)
    obtain rfl : j = dn W := by omega
    exact a_vret rfl rfl ⟨rfl, J, rfl, hf, hDJ⟩
  have hjn := nI_lt_of c (by omega) (by omega)
  have es : gwF (gwL cd fa fn nl) W (j + 1) = gwS (gwL cd fa fn nl) (gwF (gwL cd fa fn nl) W j) j := rfl
  have hLj : LwS J b (gwF (gwL cd fa fn nl) W j) nl len cd fa fn := LwS.eq hL (fun q g1 g2 => hf q (by omega) (by omega) (by omega) (by omega)) (okj.2.2.2.2 3 (fun d hd => by omega)) (fun k hk => okj.2.2.2.2 k (fun d hd => by omega))
  -- the loop goes on
  have on : ∀ (K : Nat → Nat → Int32) (v : Option Value), Sd K a (gwF (gwL cd fa fn nl) W (j + 1)) → (∀ q, q ≠ a + 4 → q ≠ a + 5 → q ≠ b + 6 → q ≠ b + 7 → K q = I q) → AW S m_X5_passMonth 18 (fun v h' => v = none ∧ ∃ J, h' = hp J L w1 w2 t ∧ (∀ q, q ≠ a + 4 → q ≠ a + 5 → q ≠ b + 6 → q ≠ b + 7 → J q = I q) ∧ Sd J a (gwF (gwL cd fa fn nl) W (dn W))) nX 0 0 65 [some (.ref a), some (.ref b), some (.int (nI j)), v] [] (hp K L w1 w2 t) := by
    intro K v hK hfK
    refine a_iv2 (y := nI (j + 1)) rfl rfl rfl ((nI_succ j).symm) ?_
    refine a_goto rfl ?_
    exact a_less (ih (dn W - (j + 1)) _ _ (by omega) ⟨j + 1, K, rfl, rfl, by omega, rfl, hK, hfK⟩) ⟨rfl, rfl, rfl, trivial⟩
  generalize hsj : gwF (gwL cd fa fn nl) W j = sj at hDJ okj es hLj on ⊢
  have nj : dn sj = dn W := okj.2.2.1
  have row : ∀ k, k < 6 → J (a + 3 + k) j = sj (23 + 6 * j + k) := fun k hk => hDJ.2.2 j (by omega) k hk
  obtain ⟨-, ⟨l, hl, el, e1⟩, -⟩ := okj.1.2.2.2 j (by omega)
  -- behind the hours: perhaps older
  have k48 : ∀ (K : Nat → Nat → Int32) (x : Int32) (v : Option Value), Sd K a (ud sj (23 + 6 * j + 1) x) → (∀ q, q ≠ a + 4 → q ≠ a + 5 → q ≠ b + 6 → q ≠ b + 7 → K q = I q) → (¬ sj (23 + 6 * j + 5) = 1 → x = mn 99 (sj (23 + 6 * j + 1) + (if sj (23 + 6 * j + 5) = 0 then gwL cd fa fn nl sj j else 0))) → (sj (23 + 6 * j + 5) = 1 → x = sj (23 + 6 * j + 1)) → AW S m_X5_passMonth 18 (fun v h' => v = none ∧ ∃ J, h' = hp J L w1 w2 t ∧ (∀ q, q ≠ a + 4 → q ≠ a + 5 → q ≠ b + 6 → q ≠ b + 7 → J q = I q) ∧ Sd J a (gwF (gwL cd fa fn nl) W (dn W))) nX 0 0 48 [some (.ref a), some (.ref b), some (.int (nI j)), v] [] (hp K L w1 w2 t) := by
    intro K x v hK hfK hx hx1
    refine a_l0 rfl rfl rfl ?_
    refine a_getq rfl gfX5_33_5 (kS0 ha) (rS9 ha) ?_
    refine a_l2 rfl rfl rfl ?_
    refine a_eSN1 rfl lX5_86 mo_X11_at (sp_X11_at (kS8 ha)) rfl rfl rfl rfl ?_
    refine a_top (y := sj (23 + 6 * j + 5)) ((atF_nI (show j < 12 by omega) (by decide)).trans ((hK.2.2 j (by omega) 5 (by decide)).trans (ud_ne (by omega)))) ?_
    refine a_s rfl rfl ?_
    refine a_ic_eq rfl (fun c1 => ?_) (fun c1 => ?_)
    · refine on K v ?_ hfK
      rw [es]
      unfold gwS
      rw [if_pos c1]
      rw [hx1 c1, ud_same] at hK
      exact hK
    refine a_l0 rfl rfl rfl ?_
    refine a_l2 rfl rfl rfl ?_
    refine a_eV0 rfl lX5_163 mo_X5_growOlder (sp_X5_growOlder ha) rfl rfl rfl ⟨5, _, kS0 ha, rfl, rfl⟩ rfl ?_
    have e2 : K (a + 5) j = sj (23 + 6 * j + 2) := (hK.2.2 j (by omega) 2 (by decide)).trans (ud_ne (by omega))
    have eg : growF K a (nI j) = up2 K (a + 5) j (mn 99 (sj (23 + 6 * j + 2) + 1)) := by
      unfold growF
      rw [setF_nI (show j < 12 by omega) (by decide), atF_nI (show j < 12 by omega) (by decide), e2]
      rfl
    rw [eg]
    refine on _ v ?_ (fun q h4 h5 h6 h7 => by rw [up2_row h5]; exact hfK q h4 h5 h6 h7)
    rw [es]
    unfold gwS
    rw [if_neg c1, ud_comm (show 23 + 6 * j + 2 ≠ 23 + 6 * j + 1 by omega), ← hx c1]
    exact Sd.ro (k := 2) hK (by omega) (by decide)
  refine a_l0 rfl rfl rfl ?_
  refine a_l2 rfl rfl rfl ?_
  refine a_eV1 rfl lX5_90 mo_X5_isWaiting (sp_X5_isWaiting (nd := dn W) ha hdj h12) rfl rfl rfl ⟨5, _, kS0 ha, rfl, rfl⟩ rfl ?_
  rw [show waitF (dn W) (J (a + 8)) (nI j) = decide (sj (23 + 6 * j + 5) = 0) by rw [waitF_nI hjn h12]; congr 1; rw [show J (a + 8) j = sj (23 + 6 * j + 5) from row 5 (by decide)]]
  by_cases c0 : sj (23 + 6 * j + 5) = 0
  rotate_left
  · rw [decide_eq_false c0]
    refine a_if_eq rfl (fun _ => ?_) (fun z => absurd rfl z)
    refine k48 J (sj (23 + 6 * j + 1)) none (by rw [ud_same]; exact hDJ) hf (fun _ => ?_) (fun _ => rfl)
    rw [if_neg c0, el, show nI l + 0 = nI (l + 0) from nI_addl l 0, show (99 : Int32) = nI 99 from rfl, mn_nI (by decide) (by omega)]
    congr 1
    omega
  rw [decide_eq_true c0]
  refine a_if_eq rfl (fun z => absurd z (by decide)) (fun _ => ?_)
  refine a_l0 rfl rfl rfl ?_
  refine a_getq rfl gfX5_21_5 (kS0 ha) (rS5 ha) ?_
  refine a_l2 rfl rfl rfl ?_
  refine a_eSN1 rfl lX5_86 mo_X11_at (sp_X11_at (kS4 ha)) rfl rfl rfl rfl ?_
  refine a_top (y := sj (23 + 6 * j + 1)) ((atF_nI (show j < 12 by omega) (by decide)).trans (row 1 (by decide))) ?_
  refine a_l1 rfl rfl rfl ?_
  refine a_l0 rfl rfl rfl ?_
  refine a_l2 rfl rfl rfl ?_
  refine a_gV rfl lX5_157 mo_X2_growthOf (sp_X2_growthOf (d := j) ha hb (by omega) hLj.1) rfl rfl rfl ⟨2, _, kW0 hb, rfl, rfl⟩ rfl (fun v' h' hv => ?_)
  obtain ⟨rfl, K, rfl, hfK⟩ := hv
  refine a_top (y := gwL cd fa fn nl sj j) (grow_same hDJ okj.1 hLj (by rw [nj]; exact hjn)) ?_
  refine a_s rfl rfl ?_
  refine a_s3 rfl rfl rfl rfl rfl rfl ?_
  refine a_l0 rfl rfl rfl ?_
  refine a_getq rfl gfX5_21_5 (kS0 ha) (rS5 ha) ?_
  refine a_l2 rfl rfl rfl ?_
  refine a_s rfl rfl ?_
  refine a_l3 rfl rfl rfl ?_
  refine a_min rfl lX5_127 mj_min rfl rfl ?_
  refine a_top (y := mn 99 (sj (23 + 6 * j + 1) + gwL cd fa fn nl sj j)) (rfl) ?_
  refine a_eSN0 rfl lX5_82 mo_X11_setAt (sp_X11_setAt (kS4 ha)) rfl rfl rfl rfl ?_
  rw [setF_nI (show j < 12 by omega) (by decide)]
  have DK : Sd K a sj := Sd.eq hDJ fun q g1 g2 => hfK q (by omega) (by omega)
  exact k48 _ _ _ (Sd.ro (k := 1) DK (by omega) (by decide)) (fun q h4 h5 h6 h7 => by rw [up2_row h4, hfK q h6 h7]; exact hf q h4 h5 h6 h7) (fun _ => by rw [if_pos c0]) (fun z => by rw [c0] at z; exact absurd z (by decide))
end T79y2
end
section
/-! ===== a day more, on the row; the class does it so ===== -/
section T79z
variable {S : aS} {I : Nat → Nat → Int32} {L : Nat → Nat → Int64} {w1 w2 t : Nat} {a b d nl len : Nat} {cd fa fn : Nat → Nat} {W : Nat → Int32} {taken had : Int32}
set_option maxRecDepth 100000
def rm100 (x : Int32) : Int32 := x - x / 100 * 100
abbrev PsT : Type := (Nat → Int32) × Int32
/-- a person's turn; calm: without draws -/
def psW (calm : Bool) (W : Nat → Int32) : Nat → Int32 := if calm = true then W else ud W 10 (seedF (W 10))
def psS (calm : Bool) (s : PsT) (p : Nat) : PsT :=
  if calm = false ∧ rm100 (drawV (seedF (s.1 10))) < s.1 6 then (psW calm s.1, s.2)
  else ((wdF (nI p) s.2 (psW calm s.1, psW calm s.1 (11 + 2 * p + 1), 0) (dn (psW calm s.1))).1, s.2 ||| (wdF (nI p) s.2 (psW calm s.1, psW calm s.1 (11 + 2 * p + 1), 0) (dn (psW calm s.1))).2.2)
def psF (calm : Bool) (W : Nat → Int32) : Nat → PsT
  | 0 => (W, 0)
  | n + 1 => psS calm (psF calm W n) n
def nwD (g : (Nat → Int32) → Nat → Int32) (W : Nat → Int32) : Nat → Int32 := if 30 < W 4 + 1 then gwF g (ud (ud (ud W 4 (W 4 + 1)) 4 1) 5 (mn 9999 (W 5 + 1))) (dn W) else ud W 4 (W 4 + 1)
def dayW (calm : Bool) (g : (Nat → Int32) → Nat → Int32) (W : Nat → Int32) : Nat → Int32 := nwD g (psF calm W (pn W)).1
/-- ranges, and what a day never changes -/
def DyOk (nl : Nat) (W s : Nat → Int32) : Prop := Rg s ∧ pn s = pn W ∧ dn s = dn W ∧ LwN s nl ∧ s 3 = W 3 ∧ ∀ k, 335 ≤ k → s k = W k
theorem LwN.eq {s : Nat → Int32} (h : LwN W nl) (e : ∀ k, 335 ≤ k → s k = W k) : LwN s nl := ⟨h.1, fun n hn => by
  rw [show nuW s n = nuW W n from e _ (by omega)]
  exact h.2 n hn⟩
theorem Rg.hi (h : Rg W) {k : Nat} {v : Int32} (hk : k = 10) : Rg (ud W k v) ∧ pn (ud W k v) = pn W ∧ dn (ud W k v) = dn W := by
  subst hk
  obtain ⟨⟨h1, h2, h3, h4⟩, hf, hp, hdd⟩ := h
  have f : ∀ j, j ≠ 10 → ud W 10 v j = W j := fun j hj => ud_ne hj
  exact ⟨Rg.of h1 h2 ((f 0 (by omega)).trans h3) ((f 1 (by omega)).trans h4) (hf.eq fun k z1 z2 => f k (by omega)) (fun p z => (hp p z).eq (f _ (by omega)) (f _ (by omega))) (fun e' z => (hdd e' z).eq fun k hk => f _ (by omega)), by unfold pn; rw [f 0 (by omega)], by unfold dn; rw [f 1 (by omega)]⟩
theorem psW_ok {calm : Bool} {s : Nat → Int32} (h : DyOk nl W s) : DyOk nl W (psW calm s) := by
  unfold psW
  by_cases c : calm = true
  · rw [if_pos c]
    exact h
  rw [if_neg c]
  obtain ⟨hG, hp, hd, hL, h3, hk⟩ := h
  obtain ⟨g1, g2, g3⟩ := Rg.hi (v := seedF (s 10)) hG rfl
  exact ⟨g1, g2.trans hp, g3.trans hd, LwN.eq hL fun k hk => ud_ne (by omega), (ud_ne (by omega)).trans h3, fun k z => (ud_ne (by omega)).trans (hk k z)⟩
theorem wd_ok {s : Nat → Int32} {p : Nat} (h : DyOk nl W s) (hp : p < pn W) : DyOk nl W (wdF (nI p) taken (s, s (11 + 2 * p + 1), 0) (dn s)).1 := by
  obtain ⟨hG, hpn, hd, hL, h3, hk⟩ := h
  obtain ⟨g1, g2, g3, -, g5⟩ := WdOk.run (p := nI p) (taken := taken) (W := s) (s := (s, s (11 + 2 * p + 1), 0)) ⟨hG, rfl, rfl, (hG.2.2.1 p (by omega)).2, fun _ _ => rfl⟩ (dn s) (Nat.le_refl _)
  exact ⟨g1, g2.trans hpn, g3.trans hd, LwN.eq hL fun k hk => g5 k (fun d hd => by omega), (g5 3 (fun d hd => by omega)).trans h3, fun k z => (g5 k (fun d hd => by omega)).trans (hk k z)⟩
theorem psF_ok {calm : Bool} (h : DyOk nl W W) : ∀ n, n ≤ pn W → DyOk nl W (psF calm W n).1 := by
  intro n
  induction n with
  | zero => exact fun _ => h
  | succ n ih =>
    intro hn
    have ih := ih (by omega)
    show DyOk nl W (psS calm (psF calm W n) n).1
    unfold psS
    by_cases c : calm = false ∧ rm100 (drawV (seedF ((psF calm W n).1 10))) < (psF calm W n).1 6
    · rw [if_pos c]
      exact psW_ok ih
    · rw [if_neg c]
      exact wd_ok (psW_ok ih) (by omega)
theorem Rg.day (h : Rg W) {x y : Nat} (hx1 : 1 ≤ x) (hx : x ≤ 30) (hy : y ≤ 9999) {W' : Nat → Int32} (e4 : W' 4 = nI x) (e5 : W' 5 = nI y) (f : ∀ k, k ≠ 4 → k ≠ 5 → W' k = W k) : Rg W' ∧ pn W' = pn W ∧ dn W' = dn W := by
  obtain ⟨⟨h1, h2, h3, h4⟩, ⟨f2, f4, f5, f6, f7, f8⟩, hp, hdd⟩ := h
  refine ⟨Rg.of h1 h2 ((f 0 (by omega) (by omega)).trans h3) ((f 1 (by omega) (by omega)).trans h4) ?_ (fun p z => (hp p z).eq (f _ (by omega) (by omega)) (f _ (by omega) (by omega))) (fun e' z => (hdd e' z).eq fun k hk => f _ (by omega) (by omega)), by unfold pn; rw [f 0 (by omega) (by omega)], by unfold dn; rw [f 1 (by omega) (by omega)]⟩
  unfold RgF
  rw [f 2 (by decide) (by decide), e4, e5, f 6 (by decide) (by decide), f 7 (by decide) (by decide), f 8 (by decide) (by decide)]
  exact ⟨f2, ⟨x, hx1, hx, rfl⟩, ⟨y, hy, rfl⟩, f6, f7, f8⟩
theorem mth_ok {s : Nat → Int32} (h : DyOk nl W s) : DyOk nl W (ud (ud (ud s 4 (s 4 + 1)) 4 1) 5 (mn 9999 (s 5 + 1))) := by
  obtain ⟨hG, hp, hd, hL, h3, hk⟩ := h
  obtain ⟨m, m1, m2⟩ := hG.2.1.2.2.1
  have f : ∀ k, k ≠ 4 → k ≠ 5 → ud (ud (ud s 4 (s 4 + 1)) 4 1) 5 (mn 9999 (s 5 + 1)) k = s k := fun k k4 k5 => by rw [ud_ne k5, ud_ne k4, ud_ne k4]
  obtain ⟨g1, g2, g3⟩ := Rg.day (x := 1) (y := min 9999 (m + 1)) hG (by decide) (by decide) (by omega) (by rw [ud_ne (by decide), ud_at]; rfl) (by rw [ud_at, m2, ← nI_succ, show (9999 : Int32) = nI 9999 from rfl, mn_nI (by decide) (by omega)]) f
  exact ⟨g1, g2.trans hp, g3.trans hd, LwN.eq hL fun k hk => f k (by omega) (by omega), (f 3 (by decide) (by decide)).trans h3, fun k z => (f k (by omega) (by omega)).trans (hk k z)⟩
theorem nwD_ok {s : Nat → Int32} (h : DyOk nl W s) : DyOk nl W (nwD (gwL cd fa fn nl) s) := by
  unfold nwD
  by_cases c : 30 < s 4 + 1
  · rw [if_pos c]
    obtain ⟨hG, hp, hd, hL, h3, hk⟩ := mth_ok h
    obtain ⟨g1, g2, g3, g4, g5⟩ := GwOk.run (cd := cd) (fa := fa) (fn := fn) (nl := nl) ⟨hG, rfl, rfl, hL, fun _ _ => rfl⟩ (dn s) (by rw [hd, h.2.2.1]; exact Nat.le_refl _)
    exact ⟨g1, g2.trans hp, g3.trans hd, g4, (g5 3 (fun d hd => by omega)).trans h3, fun k z => (g5 k (fun d hd => by omega)).trans (hk k z)⟩
  · rw [if_neg c]
    obtain ⟨hG, hp, hd, hL, h3, hk⟩ := h
    obtain ⟨x, x1, x2, x3⟩ := hG.2.1.2.1
    obtain ⟨m, m1, m2⟩ := hG.2.1.2.2.1
    have f : ∀ k, k ≠ 4 → k ≠ 5 → ud s 4 (s 4 + 1) k = s k := fun k k4 k5 => ud_ne k4
    have x30 : x + 1 ≤ 30 := by
      have c := Int32.not_lt.mp c
      rw [x3, ← nI_succ, Int32.le_iff_toInt_le, nI_toInt (by omega)] at c
      have c : ((x + 1 : Nat) : Int) ≤ 30 := c
      omega
    obtain ⟨g1, g2, g3⟩ := Rg.day (x := x + 1) (y := m) hG (by omega) x30 m1 (by rw [ud_at, x3, ← nI_succ]) (by rw [ud_ne (by decide)]; exact m2) f
    exact ⟨g1, g2.trans hp, g3.trans hd, LwN.eq hL fun k hk => f k (by omega) (by omega), (f 3 (by decide) (by decide)).trans h3, fun k z => (f k (by omega) (by omega)).trans (hk k z)⟩
theorem dayW_ok {calm : Bool} (h : DyOk nl W W) : DyOk nl W (dayW calm (gwL cd fa fn nl) W) := nwD_ok (psF_ok h _ (Nat.le_refl _))
theorem f_passDay (ha : stp a) (hb : lwp b) (hD : Sd I a W) (hG : Rg W) (hL : LwS I b W nl len cd fa fn) (hN : LwN W nl) {dr : Bool} : Sp S m_X5_passDay 19 0 0 [.ref a, .ref b, .int (bI dr)] (hp I L w1 w2 t) (fun v h' => v = none ∧ ∃ J, h' = hp J L w1 w2 t ∧ (∀ q, (q < a ∨ a + 8 < q) → q ≠ b + 6 → q ≠ b + 7 → J q = I q) ∧ Sd J a (dayW (!dr) (gwL cd fa fn nl) W)) nX := by
  have h12 := hG.1.2.1
  have h6 := hG.1.1
  have hab := stp_lwp a ha b hb
  have ok0 : DyOk nl W W := ⟨hG, rfl, rfl, hN, rfl, fun _ _ => rfl⟩
  refine Sp_of ok_X5_passDay rfl rfl ?_
  show AW S m_X5_passDay 19 _ _ 0 0 0 [some (.ref a), some (.ref b), some (.int (bI dr)), none, none, none] [] (hp I L w1 w2 t)
  refine a_s rfl rfl ?_
  refine a_s3 rfl rfl rfl rfl rfl rfl ?_
  refine a_s rfl rfl ?_
  refine a_s4 rfl rfl rfl rfl rfl rfl ?_
  refine a_inv (n := pn W) (fun m ls h => ∃ j J, ls = [some (.ref a), some (.ref b), some (.int (bI dr)), some (.int (psF (!dr) W j).2), some (.int (nI j)), none] ∧ h = hp J L w1 w2 t ∧ j ≤ pn W ∧ m = pn W - j ∧ Sd J a (psF (!dr) W j).1 ∧ ∀ q, (q < a ∨ a + 8 < q) → q ≠ b + 6 → q ≠ b + 7 → J q = I q) ⟨0, I, rfl, rfl, Nat.zero_le _, rfl, hD, fun _ _ _ _ => rfl⟩ ?_
  rintro m _ _ ⟨j, J, rfl, rfl, hj, hm, hDJ, hf⟩ ih
  have okj := psF_ok (calm := !dr) ok0 j hj
  have hpj : J a 0 = nI (pn W) := ((Sd.fd hDJ (f := 0) (g := 0) (by decide)).trans okj.1.1.2.2.1).trans (by rw [okj.2.1])
  refine a_l4 rfl rfl rfl ?_
  refine a_l0 rfl rfl rfl ?_
  refine a_getiv (v := nI (pn W)) rfl gfX5_56_5 (kS0 ha) hpj ?_
  refine a_ic_ge rfl (fun c => ?_) (fun c => ?_)
  · have hge := nI_ge_of c (by omega) (by omega)
    obtain rfl : j = pn W := by omega
    show AW S m_X5_passDay 19 (fun v h' => v = none ∧ ∃ J, h' = hp J L w1 w2 t ∧ (∀ q, (q < a ∨ a + 8 < q) → q ≠ b + 6 → q ≠ b + 7 → J q = I q) ∧ Sd J a (nwD (gwL cd fa fn nl) (psF (!dr) W (pn W)).1)) nX 0 0 60 _ _ _
    generalize psF (!dr) W (pn W) = sj at hDJ okj
    have e4 : J a 10 = sj.1 4 := Sd.fd hDJ (by decide)
    have e5 : J a 11 = sj.1 5 := Sd.fd hDJ (by decide)
    refine a_l0 rfl rfl rfl ?_
    refine a_s rfl rfl ?_
    refine a_getiv (v := sj.1 4) rfl gfX5_36_5 (kS0 ha) e4 ?_
    refine a_s rfl rfl ?_
    refine a_s rfl rfl ?_
    refine a_puti rfl pfX5_36_5 (kS0 ha) ?_
    have D1 : Sd (up2 J a 10 (sj.1 4 + 1)) a (ud sj.1 4 (sj.1 4 + 1)) := Sd.pu hDJ (by decide)
    refine a_l0 rfl rfl rfl ?_
    refine a_getiv (v := sj.1 4 + 1) rfl gfX5_36_5 (kS0 ha) up2_at ?_
    refine a_s rfl rfl ?_
    refine a_ic_le rfl (fun c2 => ?_) (fun c2 => ?_)
    · refine a_vret rfl rfl ⟨rfl, _, rfl, fun q g1 g2 g3 => by rw [up2_row (by omega)]; exact hf q g1 g2 g3, ?_⟩
      unfold nwD
      rw [if_neg (Int32.not_lt.mpr c2)]
      exact D1
    refine a_l0 rfl rfl rfl ?_
    refine a_s rfl rfl ?_
    refine a_puti rfl pfX5_36_5 (kS0 ha) ?_
    refine a_l0 rfl rfl rfl ?_
    refine a_s rfl rfl ?_
    refine a_l0 rfl rfl rfl ?_
    refine a_getiv (v := sj.1 5) rfl gfX5_66_5 (kS0 ha) ((up2_ne (Or.inr (by decide))).trans ((up2_ne (Or.inr (by decide))).trans e5)) ?_
    refine a_s rfl rfl ?_
    refine a_s rfl rfl ?_
    refine a_min rfl lX5_127 mj_min rfl rfl ?_
    refine a_top (y := mn 9999 (sj.1 5 + 1)) (rfl) ?_
    refine a_puti rfl pfX5_66_5 (kS0 ha) ?_
    have D3 : Sd (up2 (up2 (up2 J a 10 (sj.1 4 + 1)) a 10 1) a 11 (mn 9999 (sj.1 5 + 1))) a (ud (ud (ud sj.1 4 (sj.1 4 + 1)) 4 1) 5 (mn 9999 (sj.1 5 + 1))) := Sd.pu (Sd.pu D1 (by decide)) (by decide)
    have ok3 := mth_ok okj
    refine a_l0 rfl rfl rfl ?_
    refine a_l1 rfl rfl rfl ?_
    refine a_gV rfl lX5_140 mo_X5_passMonth (f_passMonth ha hb D3 ok3.1 (LwS.eq hL (fun q g1 g2 => by rw [up2_row (by omega), up2_row (by omega), up2_row (by omega)]; exact hf q (by omega) (by omega) (by omega)) ok3.2.2.2.2.1 ok3.2.2.2.2.2) ok3.2.2.2.1) rfl rfl rfl ⟨5, _, kS0 ha, rfl, rfl⟩ rfl (fun v' h' hv => ?_)
    obtain ⟨rfl, K, rfl, hfK, hDK⟩ := hv
    refine a_vret rfl rfl ⟨rfl, K, rfl, fun q g1 g2 g3 => by rw [hfK q (by omega) (by omega) g2 g3, up2_row (by omega), up2_row (by omega), up2_row (by omega)]; exact hf q g1 g2 g3, ?_⟩
    unfold nwD
    rw [if_pos (Int32.not_le.mp c2)]
    rw [ok3.2.2.1, ← okj.2.2.1] at hDK
    exact hDK
  have hjn := nI_lt_of c (by omega) (by omega)
  have es : psF (!dr) W (j + 1) = psS (!dr) (psF (!dr) W j) j := rfl
  -- the loop goes on
  have on : ∀ (K : Nat → Nat → Int32) (v : Option Value), Sd K a (psF (!dr) W (j + 1)).1 → (∀ q, (q < a ∨ a + 8 < q) → q ≠ b + 6 → q ≠ b + 7 → K q = I q) → AW S m_X5_passDay 19 (fun v h' => v = none ∧ ∃ J, h' = hp J L w1 w2 t ∧ (∀ q, (q < a ∨ a + 8 < q) → q ≠ b + 6 → q ≠ b + 7 → J q = I q) ∧ Sd J a (dayW (!dr) (gwL cd fa fn nl) W)) nX 0 0 54 [some (.ref a), some (.ref b), some (.int (bI dr)), some (.int (psF (!dr) W (j + 1)).2), some (.int (nI j)), v] [] (hp K L w1 w2 t) := by
    intro K v hK hfK
    refine a_iv4 (y := nI (j + 1)) rfl rfl rfl ((nI_succ j).symm) ?_
    refine a_goto rfl ?_
    exact a_less (ih (pn W - (j + 1)) _ _ (by omega) ⟨j + 1, K, rfl, rfl, by omega, rfl, hK, hfK⟩) ⟨rfl, rfl, rfl, rfl, rfl, trivial⟩
  generalize hsj : psF (!dr) W j = sj at hDJ okj es on ⊢
  have okw := psW_ok (calm := !dr) okj
  -- it works
  have wk : ∀ (K : Nat → Nat → Int32), Sd K a (psW (!dr) sj.1) → (∀ q, (q < a ∨ a + 8 < q) → q ≠ b + 6 → q ≠ b + 7 → K q = I q) → ¬ ((!dr) = false ∧ rm100 (drawV (seedF (sj.1 10))) < sj.1 6) → AW S m_X5_passDay 19 (fun v h' => v = none ∧ ∃ J, h' = hp J L w1 w2 t ∧ (∀ q, (q < a ∨ a + 8 < q) → q ≠ b + 6 → q ≠ b + 7 → J q = I q) ∧ Sd J a (dayW (!dr) (gwL cd fa fn nl) W)) nX 0 0 36 [some (.ref a), some (.ref b), some (.int (bI dr)), some (.int sj.2), some (.int (nI j)), none] [] (hp K L w1 w2 t) := by
    intro K hK hfK hc
    refine a_s rfl rfl ?_
    refine a_s5 rfl rfl rfl rfl rfl rfl ?_
    refine a_l5 rfl rfl rfl ?_
    refine a_if_ne rfl (fun z => absurd rfl z) (fun _ => ?_)
    refine a_l3 rfl rfl rfl ?_
    refine a_l0 rfl rfl rfl ?_
    refine a_l4 rfl rfl rfl ?_
    refine a_l3 rfl rfl rfl ?_
    refine a_gV rfl lX5_137 mo_X5_work (f_work (taken := sj.2) ha hK okw.1 (by rw [okw.2.1]; exact hjn)) rfl rfl rfl ⟨5, _, kS0 ha, rfl, rfl⟩ rfl (fun v' h' hv => ?_)
    obtain ⟨rfl, K2, rfl, hfK2, hDK2⟩ := hv
    rw [show psF (!dr) W (j + 1) = ((wdF (nI j) sj.2 (psW (!dr) sj.1, psW (!dr) sj.1 (11 + 2 * j + 1), 0) (dn (psW (!dr) sj.1))).1, sj.2 ||| (wdF (nI j) sj.2 (psW (!dr) sj.1, psW (!dr) sj.1 (11 + 2 * j + 1), 0) (dn (psW (!dr) sj.1))).2.2) from es.trans (if_neg hc)] at on
    refine a_s rfl rfl ?_
    refine a_s3 rfl rfl rfl rfl rfl rfl ?_
    exact on K2 _ hDK2 (fun q g1 g2 g3 => (hfK2 q (by omega) (by omega)).trans (hfK q g1 g2 g3))
  refine a_l2 rfl rfl rfl ?_
  cases dr with
  | false =>
    refine a_if_eq rfl (fun _ => ?_) (fun z => absurd rfl z)
    exact wk J hDJ hf (fun z => by cases z.1)
  | true =>
    refine a_if_eq rfl (fun z => absurd z (by decide)) (fun _ => ?_)
    refine a_l0 rfl rfl rfl ?_
    refine a_eV1 rfl lX5_133 mo_X5_draw (sp_X5_draw ha) rfl rfl rfl ⟨5, _, kS0 ha, rfl, rfl⟩ rfl ?_
    have e15 : J a 15 = sj.1 10 := Sd.fd hDJ (by decide)
    rw [e15]
    have DK : Sd (up2 J a 15 (seedF (sj.1 10))) a (psW (!true) sj.1) := Sd.pu hDJ (by decide)
    have hfK : ∀ q, (q < a ∨ a + 8 < q) → q ≠ b + 6 → q ≠ b + 7 → up2 J a 15 (seedF (sj.1 10)) q = I q := fun q g1 g2 g3 => by rw [up2_row (by omega)]; exact hf q g1 g2 g3
    refine a_s rfl rfl ?_
    refine a_irem rfl (by decide) ?_
    refine a_top (y := rm100 (drawV (seedF (sj.1 10)))) (rfl) ?_
    refine a_l0 rfl rfl rfl ?_
    refine a_getiv (v := sj.1 6) rfl gfX5_69_5 (kS0 ha) ((up2_ne (Or.inr (by decide))).trans (Sd.fd hDJ (by decide))) ?_
    refine a_ic_ge rfl (fun c2 => ?_) (fun c2 => ?_)
    · exact wk _ DK hfK (fun z => absurd z.2 (Int32.not_lt.mpr c2))
    · refine a_s rfl rfl ?_
      refine a_goto rfl ?_
      refine a_s5 rfl rfl rfl rfl rfl rfl ?_
      refine a_l5 rfl rfl rfl ?_
      refine a_if_ne rfl (fun _ => ?_) (fun z => absurd z (by decide))
      rw [show psF (!true) W (j + 1) = (psW (!true) sj.1, sj.2) from es.trans (if_pos ⟨rfl, Int32.not_le.mp c2⟩)] at on
      exact on _ _ DK hfK
end T79z
end
section
/-! ===== a day more: the reference, but for the parade ===== -/
section T79za
variable {S : aS} {I : Nat → Nat → Int32} {L : Nat → Nat → Int64} {w1 w2 t : Nat} {nl len : Nat} {cd fa fn : Nat → Nat} {W : Nat → Int32} {taken had : Int32}
set_option maxRecDepth 100000
theorem bt_32767 : ∀ i, i < 32 → bt 32767 i = decide (i < 15) := by decide +kernel
theorem dr_same {s : Int32} : (s >>> ((16 : Int32) &&& 31)) &&& 32767 = drawV s := by
  unfold drawV
  refine b_ext fun i hi => ?_
  rw [b_and, b_and, bt_32767 i hi]
  by_cases c : i < 15
  · rw [show ((16 : Int32) &&& 31) = (nI 16 &&& 31) from rfl, b_sshr 16 (by decide) s hi, if_pos (by omega), show ((16 : Int32).toUInt32 &&& Int32.toUInt32 31) = ((nI 16).toUInt32 &&& Int32.toUInt32 31) from rfl, b_ushr 16 (by decide) s i]
  · rw [decide_eq_false c, Bool.and_false, Bool.and_false]
theorem sd_same {s : Int32} : (1103515245 : Int32) * s + 12345 = seedF s := by
  unfold seedF
  rw [Int32.mul_comm]
theorem h_drawn : SpE S m_X12_drawn 12 [.ref 420, .int 100] (hp I L w1 w2 t) (some (.int (rm100 (drawV (seedF (I 421 10)))))) (hp (up2 I 421 10 (seedF (I 421 10))) L w1 w2 t) := by
  refine SpE_of ok_X12_drawn rfl rfl ?_
  show AW S m_X12_drawn 12 _ _ 0 0 0 [some (.ref 420), some (.int 100)] [] (hp I L w1 w2 t)
  refine a_l0 rfl rfl rfl ?_
  refine a_getq rfl gfX12_13_12 rfl (rfl) ?_
  refine a_s rfl rfl ?_
  refine a_ldc rfl kX12_77 ?_
  refine a_l0 rfl rfl rfl ?_
  refine a_getq rfl gfX12_13_12 rfl (rfl) ?_
  refine a_s rfl rfl ?_
  refine a_ialdv (v := I 421 10) rfl (n := 2033) rfl ⟨by decide, by decide⟩ rfl ?_
  refine a_s rfl rfl ?_
  refine a_s rfl rfl ?_
  refine a_s rfl rfl ?_
  refine a_top (y := seedF (I 421 10)) (sd_same) ?_
  refine a_iastv (k := 10) rfl (n := 2033) rfl ⟨by decide, by decide⟩ rfl ?_
  refine a_l0 rfl rfl rfl ?_
  refine a_getq rfl gfX12_13_12 rfl (rfl) ?_
  refine a_s rfl rfl ?_
  refine a_ialdv (v := seedF (I 421 10)) rfl (n := 2033) rfl ⟨by decide, by decide⟩ up2_at ?_
  refine a_s rfl rfl ?_
  refine a_s rfl rfl ?_
  refine a_s rfl rfl ?_
  refine a_s rfl rfl ?_
  refine a_top (y := drawV (seedF (I 421 10))) (dr_same) ?_
  refine a_l1 rfl rfl rfl ?_
  refine a_irem rfl (by decide) ?_
  exact a_iret rfl rfl ⟨rfl, rfl⟩
theorem HHd.nx {H : Nat → Int32} {p : Nat} (h : HHd H taken had p) : HHd H (taken ||| had) 0 (p + 1) := fun k hk => by
  obtain ⟨g1, g2, g3⟩ := h k hk
  rw [hasF_or (show k < 31 by omega), hasF_0 (show k < 31 by omega)]
  refine ⟨fun z => ?_, fun _ z => (by cases z), fun z _ => ?_⟩
  · cases ht : hasF taken (nI k) with
    | true =>
      obtain ⟨q, q1, q2⟩ := g1 ht
      exact ⟨q, by omega, q2⟩
    | false =>
      rw [ht, Bool.false_or] at z
      exact ⟨p, by omega, g2 ht z⟩
  · cases ht : hasF taken (nI k) with
    | true =>
      rw [ht, Bool.true_or] at z
      cases z
    | false =>
      rw [ht, Bool.false_or] at z
      exact g3 ht z
theorem HHd.sk {H : Nat → Int32} {p : Nat} (h : HHd H taken 0 p) : HHd H taken 0 (p + 1) := fun k hk => by
  obtain ⟨g1, g2, g3⟩ := h k hk
  refine ⟨fun z => ?_, fun _ z => ?_, g3⟩
  · obtain ⟨q, q1, q2⟩ := g1 z
    exact ⟨q, by omega, q2⟩
  · rw [hasF_0 (show k < 31 by omega)] at z
    cases z
theorem h_oneDay140 (h421 : I 421 = W) (hG : Rg W) (hL : LawR W nl len cd fa fn) (hN : LwN W nl) {calm : Bool} {Q : Option Value → aH → Prop} {X : String → aH → Prop} (kk : ∀ (J : Nat → Nat → Int32) (y : Int32) (u : Option Value), (∀ q, q ≠ 421 → q ≠ 428 → q ≠ 429 → J q = I q) → J 421 = dayW calm (gwL cd fa fn nl) W → AW S m_X12_oneDay 23 Q X 0 0 140 [some (.ref 420), some (.int (bI calm)), some (.int y), u] [] (hp J L w1 w2 t)) : AW S m_X12_oneDay 23 Q X 0 0 0 [some (.ref 420), some (.int (bI calm)), none, none] [] (hp I L w1 w2 t) := by
  have h12 := hG.1.2.1
  have h6 := hG.1.1
  have ok0 : DyOk nl W W := ⟨hG, rfl, rfl, hN, rfl, fun _ _ => rfl⟩
  refine a_s rfl rfl ?_
  refine a_s2 rfl rfl rfl rfl rfl rfl ?_
  refine a_s rfl rfl ?_
  refine a_s3 rfl rfl rfl rfl rfl rfl ?_
  -- nobody has a tool
  refine a_inv (n := 6) (fun m ls h => ∃ j J, ls = [some (.ref 420), some (.int (bI calm)), some (.int 0), some (.int (nI j))] ∧ h = hp J L w1 w2 t ∧ j ≤ 6 ∧ m = 6 - j ∧ (∀ k, k < j → J 429 k = -1) ∧ ∀ q, q ≠ 429 → J q = I q) ⟨0, I, rfl, rfl, by decide, rfl, fun k hk => absurd hk (Nat.not_lt_zero _), fun _ _ => rfl⟩ ?_
  rintro m _ _ ⟨j, J, rfl, rfl, hj, hm, h429, hf⟩ ih
  refine a_l3 rfl rfl rfl ?_
  refine a_s rfl rfl ?_
  refine a_ic_ge rfl (fun c => ?_) (fun c => ?_)
  rotate_left
  · have hj6 := nI_lt_of (b := 6) c (by omega) (by decide)
    refine a_l0 rfl rfl rfl ?_
    refine a_getq rfl gfX12_42_12 rfl (rfl) ?_
    refine a_l3 rfl rfl rfl ?_
    refine a_s rfl rfl ?_
    refine a_iastv (k := j) rfl (n := 6) rfl (inI_nI hj6 (by decide)) (nI_clamp (by omega)) ?_
    refine a_iv3 (y := nI (j + 1)) rfl rfl rfl ((nI_succ j).symm) ?_
    refine a_goto rfl ?_
    refine ih (6 - (j + 1)) _ _ (by omega) ⟨j + 1, _, rfl, rfl, by omega, rfl, fun k hk => ?_, fun q hq => by rw [up2_row hq]; exact hf q hq⟩
    by_cases ck : k = j
    · rw [ck, up2_at]
    · rw [up2_ne (Or.inr ck)]
      exact h429 k (by omega)
  have hge := nI_ge_of (b := 6) c (by omega) (by decide)
  obtain rfl : j = 6 := by omega
  clear ih c hge
  have z0 : ∀ k, k < 6 → hasF 0 (nI k) = false := fun k hk => hasF_0 (by omega)
  have H0 : HHd (J 429) 0 0 0 := fun k hk => ⟨fun z => absurd z (by rw [z0 k hk]; exact Bool.false_ne_true), fun _ z => absurd z (by rw [z0 k hk]; exact Bool.false_ne_true), fun _ _ => h429 k hk⟩
  have J421 : J 421 = W := (hf 421 (by decide)).trans h421
  refine a_s rfl rfl ?_
  refine a_s3 rfl rfl rfl rfl rfl rfl ?_
  refine a_inv (n := pn W) (fun m ls h => ∃ j y K, ls = [some (.ref 420), some (.int (bI calm)), some (.int y), some (.int (nI j))] ∧ h = hp K L w1 w2 t ∧ j ≤ pn W ∧ m = pn W - j ∧ K 421 = (psF calm W j).1 ∧ HHd (K 429) (psF calm W j).2 0 j ∧ ∀ q, q ≠ 421 → q ≠ 428 → q ≠ 429 → K q = I q) ⟨0, 0, J, rfl, rfl, Nat.zero_le _, rfl, J421, H0, fun q _ _ h3 => hf q h3⟩ ?_
  clear hm h429 hj
  rintro m _ _ ⟨j, y, K, rfl, rfl, hj, hm, eK, hHK, hfK⟩ ih
  have okj := psF_ok (calm := calm) ok0 j hj
  refine a_l3 rfl rfl rfl ?_
  refine a_l0 rfl rfl rfl ?_
  refine a_eV1 rfl lX12_66 mo_X12_people sp_X12_people rfl rfl rfl ⟨12, _, rfl, rfl, rfl⟩ rfl ?_
  refine a_top (y := nI (pn W)) (by rw [eK, okj.1.1.2.2.1, okj.2.1]) ?_
  refine a_ic_ge rfl (fun c => ?_) (fun c => ?_)
  · have hge := nI_ge_of c (by omega) (by omega)
    obtain rfl : j = pn W := by omega
    clear ih
    have fin : dayW calm (gwL cd fa fn nl) W = nwD (gwL cd fa fn nl) (psF calm W (pn W)).1 := rfl
    generalize psF calm W (pn W) = sj at eK okj fin
    refine a_l0 rfl rfl rfl ?_
    refine a_getq rfl gfX12_13_12 rfl (rfl) ?_
    refine a_s rfl rfl ?_
    refine a_s rfl rfl ?_
    refine a_ialdv (v := sj.1 4) rfl (n := 2033) rfl ⟨by decide, by decide⟩ (congrFun eK 4) ?_
    refine a_s rfl rfl ?_
    refine a_s rfl rfl ?_
    refine a_iastv (k := 4) rfl (n := 2033) rfl ⟨by decide, by decide⟩ rfl ?_
    refine a_l0 rfl rfl rfl ?_
    refine a_getq rfl gfX12_13_12 rfl (rfl) ?_
    refine a_s rfl rfl ?_
    refine a_ialdv (v := sj.1 4 + 1) rfl (n := 2033) rfl ⟨by decide, by decide⟩ up2_at ?_
    refine a_s rfl rfl ?_
    refine a_ic_le rfl (fun c2 => ?_) (fun c2 => ?_)
    · refine kk _ _ _ (fun q h1 h2 h3 => by rw [up2_row h1]; exact hfK q h1 h2 h3) ?_
      rw [fin]
      unfold nwD
      rw [if_neg (Int32.not_lt.mpr c2), up2_ud, eK]
    refine a_l0 rfl rfl rfl ?_
    refine a_getq rfl gfX12_13_12 rfl (rfl) ?_
    refine a_s rfl rfl ?_
    refine a_s rfl rfl ?_
    refine a_iastv (k := 4) rfl (n := 2033) rfl ⟨by decide, by decide⟩ rfl ?_
    refine a_l0 rfl rfl rfl ?_
    refine a_getq rfl gfX12_13_12 rfl (rfl) ?_
    refine a_s rfl rfl ?_
    refine a_s rfl rfl ?_
    refine a_l0 rfl rfl rfl ?_
    refine a_getq rfl gfX12_13_12 rfl (rfl) ?_
    refine a_s rfl rfl ?_
    refine a_ialdv (v := sj.1 5) rfl (n := 2033) rfl ⟨by decide, by decide⟩ ((up2_ne (Or.inr (by decide))).trans ((up2_ne (Or.inr (by decide))).trans (congrFun eK 5))) ?_
    refine a_s rfl rfl ?_
    refine a_s rfl rfl ?_
    refine a_min rfl lX12_295 mj_min rfl rfl ?_
    refine a_top (y := mn 9999 (sj.1 5 + 1)) (rfl) ?_
    refine a_iastv (k := 5) rfl (n := 2033) rfl ⟨by decide, by decide⟩ rfl ?_
    have ok3 := mth_ok okj
    generalize hM : up2 (up2 (up2 K 421 4 (sj.1 4 + 1)) 421 4 1) 421 5 (mn 9999 (sj.1 5 + 1)) = M
    have eM : M 421 = ud (ud (ud sj.1 4 (sj.1 4 + 1)) 4 1) 5 (mn 9999 (sj.1 5 + 1)) := by
      rw [← hM, up2_ud, up2_ud, up2_ud, eK]
    have fM : ∀ q, q ≠ 421 → M q = K q := fun q hq => by rw [← hM, up2_row hq, up2_row hq, up2_row hq]
    have e9 : nwD (gwL cd fa fn nl) sj.1 = gwF (gwL cd fa fn nl) (ud (ud (ud sj.1 4 (sj.1 4 + 1)) 4 1) 5 (mn 9999 (sj.1 5 + 1))) (dn W) := by
      unfold nwD
      rw [if_pos (Int32.not_le.mp c2), okj.2.2.1]
    generalize ud (ud (ud sj.1 4 (sj.1 4 + 1)) 4 1) 5 (mn 9999 (sj.1 5 + 1)) = V at eM e9 ok3
    clear hM
    have okV : GwOk nl V V := ⟨ok3.1, rfl, rfl, ok3.2.2.2.1, fun _ _ => rfl⟩
    have nV : dn V = dn W := ok3.2.2.1
    refine a_s rfl rfl ?_
    refine a_s3 rfl rfl rfl rfl rfl rfl ?_
    refine a_inv (n := dn W) (fun m ls h => ∃ j N, ls = [some (.ref 420), some (.int (bI calm)), some (.int y), some (.int (nI j))] ∧ h = hp N L w1 w2 t ∧ j ≤ dn W ∧ m = dn W - j ∧ N 421 = gwF (gwL cd fa fn nl) V j ∧ ∀ q, q ≠ 421 → q ≠ 428 → q ≠ 429 → N q = I q) ⟨0, M, rfl, rfl, Nat.zero_le _, rfl, eM, fun q h1 h2 h3 => (fM q h1).trans (hfK q h1 h2 h3)⟩ ?_
    clear hm hj
    rintro m _ _ ⟨j, N, rfl, rfl, hj, hm, eN, hfN⟩ ih
    have okg := okV.run (cd := cd) (fa := fa) (fn := fn) j (by omega)
    refine a_l3 rfl rfl rfl ?_
    refine a_l0 rfl rfl rfl ?_
    refine a_eV1 rfl lX12_74 mo_X12_duties sp_X12_duties rfl rfl rfl ⟨12, _, rfl, rfl, rfl⟩ rfl ?_
    refine a_top (y := nI (dn W)) (by rw [eN, okg.1.1.2.2.2, okg.2.2.1, nV]) ?_
    refine a_ic_ge rfl (fun c => ?_) (fun c => ?_)
    · have hge := nI_ge_of c (by omega) (by omega)
      obtain rfl : j = dn W := by omega
      exact kk N y _ hfN (by rw [fin, e9]; exact eN)
    have hjn := nI_lt_of c (by omega) (by omega)
    have lawN : LawR (gwF (gwL cd fa fn nl) V j) nl len cd fa fn := LawR.eq hL ((okg.2.2.2.2 3 (fun d hd => by omega)).trans ok3.2.2.2.2.1) (fun k hk => (okg.2.2.2.2 k (fun d hd => by omega)).trans (ok3.2.2.2.2.2 k hk))
    refine a_l0 rfl rfl rfl ?_
    refine a_l3 rfl rfl rfl ?_
    refine a_gV rfl lX12_379 mo_X12_growsOlder (h_growsOlder (d := j) (nl := nl) (len := len) (cd := cd) (fa := fa) (fn := fn) (by rw [eN]; exact okg.1) (by rw [eN, okg.2.2.1, nV]; exact hjn) (by rw [eN]; exact lawN)) rfl rfl rfl ⟨12, _, rfl, rfl, rfl⟩ rfl (fun v' h' hv => ?_)
    obtain ⟨rfl, N2, rfl, hf2, eN2⟩ := hv
    refine a_iv3 (y := nI (j + 1)) rfl rfl rfl ((nI_succ j).symm) ?_
    refine a_goto rfl ?_
    exact ih (dn W - (j + 1)) _ _ (by omega) ⟨j + 1, N2, rfl, rfl, by omega, rfl, by rw [eN2, eN]; rfl, fun q h1 h2 h3 => (hf2 q h1 h2).trans (hfN q h1 h2 h3)⟩
  have hjn := nI_lt_of c (by omega) (by omega)
  have es : psF calm W (j + 1) = psS calm (psF calm W j) j := rfl
  -- the loop goes on
  have on : ∀ (N : Nat → Nat → Int32) (z : Int32), N 421 = (psF calm W (j + 1)).1 → HHd (N 429) (psF calm W (j + 1)).2 0 (j + 1) → (∀ q, q ≠ 421 → q ≠ 428 → q ≠ 429 → N q = I q) → AW S m_X12_oneDay 23 Q X 0 0 63 [some (.ref 420), some (.int (bI calm)), some (.int y), some (.int (nI j))] [.int z, .int y] (hp N L w1 w2 t) := by
    intro N z hN hHN hfN
    refine a_s rfl rfl ?_
    refine a_s2 rfl rfl rfl rfl rfl rfl ?_
    refine a_iv3 (y := nI (j + 1)) rfl rfl rfl ((nI_succ j).symm) ?_
    refine a_goto rfl ?_
    exact ih (pn W - (j + 1)) _ _ (by omega) ⟨j + 1, _, N, rfl, rfl, by omega, rfl, hN, hHN, hfN⟩
  generalize hsj : psF calm W j = sj at eK hHK okj es on ⊢
  have okw := psW_ok (calm := calm) okj
  -- it works
  have wk : ∀ (N : Nat → Nat → Int32), N 421 = psW calm sj.1 → N 429 = K 429 → (∀ q, q ≠ 421 → q ≠ 428 → q ≠ 429 → N q = I q) → ¬ (calm = false ∧ rm100 (drawV (seedF (sj.1 10))) < sj.1 6) → AW S m_X12_oneDay 23 Q X 0 0 58 [some (.ref 420), some (.int (bI calm)), some (.int y), some (.int (nI j))] [.int y] (hp N L w1 w2 t) := by
    intro N hN h9 hfN hc
    refine a_l0 rfl rfl rfl ?_
    refine a_l3 rfl rfl rfl ?_
    refine a_gV rfl lX12_376 mo_X12_works (h_works (taken := sj.2) (p := j) (by rw [hN]; exact okw.1) (by rw [hN, okw.2.1]; exact hjn) (by rw [h9]; exact hHK)) rfl rfl rfl ⟨12, _, rfl, rfl, rfl⟩ rfl (fun v' h' hv => ?_)
    obtain ⟨x, rfl, N2, rfl, hf2, eN2, hH2⟩ := hv
    rw [hN] at eN2 hH2
    rw [show psF calm W (j + 1) = ((wdF (nI j) sj.2 (psW calm sj.1, psW calm sj.1 (11 + 2 * j + 1), 0) (dn (psW calm sj.1))).1, sj.2 ||| (wdF (nI j) sj.2 (psW calm sj.1, psW calm sj.1 (11 + 2 * j + 1), 0) (dn (psW calm sj.1))).2.2) from es.trans (if_neg hc)] at on
    exact on N2 x eN2 (HHd.nx hH2) (fun q h1 h2 h3 => (hf2 q h1 h3).trans (hfN q h1 h2 h3))
  refine a_l2 rfl rfl rfl ?_
  refine a_l1 rfl rfl rfl ?_
  cases calm with
  | true =>
    refine a_if_ne rfl (fun _ => ?_) (fun z => absurd z (by decide))
    exact wk K eK rfl hfK (fun z => by cases z.1)
  | false =>
    refine a_if_ne rfl (fun z => absurd rfl z) (fun _ => ?_)
    refine a_l0 rfl rfl rfl ?_
    refine a_s rfl rfl ?_
    refine a_eV1 rfl lX12_373 mo_X12_drawn h_drawn rfl rfl rfl ⟨12, _, rfl, rfl, rfl⟩ rfl ?_
    have e10 : K 421 10 = sj.1 10 := congrFun eK 10
    rw [e10]
    have eN : up2 K 421 10 (seedF (sj.1 10)) 421 = psW false sj.1 := by rw [up2_ud, eK]; rfl
    refine a_l0 rfl rfl rfl ?_
    refine a_getq rfl gfX12_13_12 rfl (rfl) ?_
    refine a_s rfl rfl ?_
    refine a_ialdv (v := sj.1 6) rfl (n := 2033) rfl ⟨by decide, by decide⟩ ((up2_ne (Or.inr (by decide))).trans (congrFun eK 6)) ?_
    refine a_ic_ge rfl (fun c2 => ?_) (fun c2 => ?_)
    · exact wk _ eN (up2_row (by decide)) (fun q h1 h2 h3 => by rw [up2_row h1]; exact hfK q h1 h2 h3) (fun z => absurd z.2 (Int32.not_lt.mpr c2))
    · refine a_s rfl rfl ?_
      refine a_goto rfl ?_
      rw [show psF false W (j + 1) = (psW false sj.1, sj.2) from es.trans (if_pos ⟨rfl, Int32.not_le.mp c2⟩)] at on
      exact on _ 0 eN (by rw [up2_row (by decide)]; exact HHd.sk hHK) (fun q h1 h2 h3 => by rw [up2_row h1]; exact hfK q h1 h2 h3)
end T79za
end
section
/-! ===== the log: a ring of the class, rows moved on by the reference ===== -/
section T79zb
variable {S : aS} {I : Nat → Nat → Int32} {L : Nat → Nat → Int64} {w1 w2 t : Nat} {a nl len : Nat} {cd fa fn : Nat → Nat} {W : Nat → Int32}
set_option maxRecDepth 100000
/-- the latest rows of both -/
def Lg (I : Nat → Nat → Int32) (a : Nat) (W : Nat → Int32) : Prop := ∃ r n, r ≤ 60 ∧ n < 60 ∧ I (a + 9) 0 = nI r ∧ I (a + 9) 1 = nI n ∧ W 9 = nI r ∧ ∀ k, k < r → ∀ j, j < 4 → I (a + 10) (4 * ((n + 59 - k) % 60) + j) = W (95 + 4 * k + j)
/-- a row more -/
def tell (W : Nat → Int32) (x0 x1 x2 x3 : Int32) : Nat → Int32 := fun j => if 99 ≤ j ∧ j < 335 then W (j - 4) else if j = 95 then x0 else if j = 96 then x1 else if j = 97 then x2 else if j = 98 then x3 else if j = 9 then mn 60 (W 9 + 1) else W j
def adL (I : Nat → Nat → Int32) (n r : Nat) (x0 x1 x2 x3 : Int32) : Nat → Nat → Int32 := up2 (up2 (up2 (up2 (up2 (up2 I 245 (4 * n) x0) 245 (4 * n + 1) x1) 245 (4 * n + 2) x2) 245 (4 * n + 3) x3) 244 1 (nI ((n + 1) % 60))) 244 0 (mn 60 (nI r + 1))
theorem rem60 : ∀ k, k < 61 → nI k - nI k / 60 * 60 = nI (k % 60) := by decide +kernel
theorem f_add {n r : Nat} (h0 : I 244 0 = nI r) (h1 : I 244 1 = nI n) (hn : n < 60) {x0 x1 x2 x3 : Int32} : SpE S m_X1_add 13 [.ref 244, .int x0, .int x1, .int x2, .int x3] (hp I L w1 w2 t) none (hp (adL I n r x0 x1 x2 x3) L w1 w2 t) := by
  refine SpE_of ok_X1_add rfl rfl ?_
  show AW S m_X1_add 13 _ _ 0 0 0 [some (.ref 244), some (.int x0), some (.int x1), some (.int x2), some (.int x3), none] [] (hp I L w1 w2 t)
  refine a_l0 rfl rfl rfl ?_
  refine a_getiv (v := nI n) rfl gfX1_19_1 rfl (h1) ?_
  refine a_s rfl rfl ?_
  refine a_s rfl rfl ?_
  refine a_top (y := nI (4 * n)) (by rw [Nat.mul_comm]; exact nI_mul n 4) ?_
  refine a_s5 rfl rfl rfl rfl rfl rfl ?_
  refine a_l0 rfl rfl rfl ?_
  refine a_getq rfl gfX1_11_1 rfl (rfl) ?_
  refine a_l5 rfl rfl rfl ?_
  refine a_l1 rfl rfl rfl ?_
  refine a_eSN0 rfl lX1_26 mo_X11_setAt (sp_X11_setAt rfl) rfl rfl rfl rfl ?_
  rw [setF_nI (show 4 * n < 240 by omega) (by decide)]
  refine a_l0 rfl rfl rfl ?_
  refine a_getq rfl gfX1_11_1 rfl (rfl) ?_
  refine a_l5 rfl rfl rfl ?_
  refine a_s rfl rfl ?_
  refine a_s rfl rfl ?_
  refine a_top (y := nI (4 * n + 1)) (nI_addl (4 * n) 1) ?_
  refine a_l2 rfl rfl rfl ?_
  refine a_eSN0 rfl lX1_26 mo_X11_setAt (sp_X11_setAt rfl) rfl rfl rfl rfl ?_
  rw [setF_nI (show 4 * n + 1 < 240 by omega) (by decide)]
  refine a_l0 rfl rfl rfl ?_
  refine a_getq rfl gfX1_11_1 rfl (rfl) ?_
  refine a_l5 rfl rfl rfl ?_
  refine a_s rfl rfl ?_
  refine a_s rfl rfl ?_
  refine a_top (y := nI (4 * n + 2)) (nI_addl (4 * n) 2) ?_
  refine a_l3 rfl rfl rfl ?_
  refine a_eSN0 rfl lX1_26 mo_X11_setAt (sp_X11_setAt rfl) rfl rfl rfl rfl ?_
  rw [setF_nI (show 4 * n + 2 < 240 by omega) (by decide)]
  refine a_l0 rfl rfl rfl ?_
  refine a_getq rfl gfX1_11_1 rfl (rfl) ?_
  refine a_l5 rfl rfl rfl ?_
  refine a_s rfl rfl ?_
  refine a_s rfl rfl ?_
  refine a_top (y := nI (4 * n + 3)) (nI_addl (4 * n) 3) ?_
  refine a_l4 rfl rfl rfl ?_
  refine a_eSN0 rfl lX1_26 mo_X11_setAt (sp_X11_setAt rfl) rfl rfl rfl rfl ?_
  rw [setF_nI (show 4 * n + 3 < 240 by omega) (by decide)]
  have g : ∀ q, q ≠ 245 → up2 (up2 (up2 (up2 I 245 (4 * n) x0) 245 (4 * n + 1) x1) 245 (4 * n + 2) x2) 245 (4 * n + 3) x3 q = I q := fun q hq => by rw [up2_row hq, up2_row hq, up2_row hq, up2_row hq]
  refine a_l0 rfl rfl rfl ?_
  refine a_l0 rfl rfl rfl ?_
  refine a_getiv (v := nI n) rfl gfX1_19_1 rfl ((congrFun (g 244 (by decide)) 1).trans h1) ?_
  refine a_s rfl rfl ?_
  refine a_s rfl rfl ?_
  refine a_top (y := nI (n + 1)) ((nI_succ n).symm) ?_
  refine a_s rfl rfl ?_
  refine a_irem rfl (by decide) ?_
  refine a_top (y := nI ((n + 1) % 60)) (rem60 (n + 1) (by omega)) ?_
  refine a_puti rfl pfX1_19_1 rfl ?_
  refine a_l0 rfl rfl rfl ?_
  refine a_s rfl rfl ?_
  refine a_l0 rfl rfl rfl ?_
  refine a_getiv (v := nI r) rfl gfX1_15_1 rfl ((up2_ne (Or.inr (by decide))).trans ((congrFun (g 244 (by decide)) 0).trans h0)) ?_
  refine a_s rfl rfl ?_
  refine a_s rfl rfl ?_
  refine a_min rfl lX1_30 mj_min rfl rfl ?_
  refine a_top (y := mn 60 (nI r + 1)) (rfl) ?_
  refine a_puti rfl pfX1_15_1 rfl ?_
  exact a_vret rfl rfl ⟨rfl, rfl⟩
theorem Lg.add {n r : Nat} {x0 x1 x2 x3 : Int32} (hr : r ≤ 60) (hn : n < 60) (h9 : W 9 = nI r) (hrow : ∀ k, k < r → ∀ j, j < 4 → I 245 (4 * ((n + 59 - k) % 60) + j) = W (95 + 4 * k + j)) : Lg (adL I n r x0 x1 x2 x3) 235 (tell W x0 x1 x2 x3) := by
  have em : mn 60 (nI r + 1) = nI (min 60 (r + 1)) := by rw [← nI_succ, show (60 : Int32) = nI 60 from rfl, mn_nI (by decide) (by omega)]
  refine ⟨min 60 (r + 1), (n + 1) % 60, by omega, Nat.mod_lt _ (by decide), ?_, ?_, ?_, fun k hk j hj => ?_⟩
  · show adL I n r x0 x1 x2 x3 244 0 = _
    unfold adL
    rw [up2_at, em]
  · show adL I n r x0 x1 x2 x3 244 1 = _
    unfold adL
    rw [up2_ne (Or.inr (by decide)), up2_at]
  · unfold tell
    rw [if_neg (by omega), if_neg (by decide), if_neg (by decide), if_neg (by decide), if_neg (by decide), if_pos rfl, h9, em]
  · show adL I n r x0 x1 x2 x3 245 (4 * (((n + 1) % 60 + 59 - k) % 60) + j) = _
    unfold adL
    rw [up2_row (by decide), up2_row (by decide)]
    rcases k with _ | k
    · rw [show ((n + 1) % 60 + 59 - 0) % 60 = n by omega]
      unfold tell
      rcases j with _ | _ | _ | _ | j
      · rw [up2_ne (Or.inr (by omega)), up2_ne (Or.inr (by omega)), up2_ne (Or.inr (by omega))]
        exact up2_at
      · rw [up2_ne (Or.inr (by omega)), up2_ne (Or.inr (by omega))]
        exact up2_at
      · rw [up2_ne (Or.inr (by omega))]
        exact up2_at
      · exact up2_at
      · omega
    · have e : ((n + 1) % 60 + 59 - (k + 1)) % 60 = (n + 59 - k) % 60 := by omega
      have ne : (n + 59 - k) % 60 ≠ n := by omega
      rw [e, up2_ne (Or.inr (by omega)), up2_ne (Or.inr (by omega)), up2_ne (Or.inr (by omega)), up2_ne (Or.inr (by omega)), hrow k (by omega) j hj]
      unfold tell
      rw [if_pos ⟨by omega, by omega⟩]
      congr 1
      omega
theorem Lg.eq {J : Nat → Nat → Int32} {W' : Nat → Int32} (h : Lg I a W) (e9 : J (a + 9) = I (a + 9)) (e10 : J (a + 10) = I (a + 10)) (f9 : W' 9 = W 9) (f : ∀ k, 95 ≤ k → k < 335 → W' k = W k) : Lg J a W' := by
  obtain ⟨r, n, h1, h2, h3, h4, h5, h6⟩ := h
  refine ⟨r, n, h1, h2, by rw [e9]; exact h3, by rw [e9]; exact h4, f9.trans h5, fun k hk j hj => ?_⟩
  rw [e10, f _ (by omega) (by omega)]
  exact h6 k hk j hj
theorem tell_lo {x0 x1 x2 x3 : Int32} {k : Nat} (h : k < 95 ∨ 335 ≤ k) (h9 : k ≠ 9) : tell W x0 x1 x2 x3 k = W k := by
  unfold tell
  rw [if_neg (by omega), if_neg (by omega), if_neg (by omega), if_neg (by omega), if_neg (by omega), if_neg h9]
theorem Sd.tell {x0 x1 x2 x3 : Int32} (h : Sd I a W) : Sd I a (tell W x0 x1 x2 x3) := by
  obtain ⟨h1, h2, h3⟩ := h
  refine ⟨fun x hx => ?_, fun p hp => ?_, fun d hd k hk => ?_⟩
  · have g : ∀ y ∈ flds, y.2 < 11 ∧ y.2 ≠ 9 := by decide
    rw [tell_lo (Or.inl (by have := (g x hx).1; omega)) (g x hx).2]
    exact h1 x hx
  · rw [tell_lo (Or.inl (by omega)) (by omega), tell_lo (Or.inl (by omega)) (by omega)]
    exact h2 p hp
  · rw [tell_lo (Or.inl (by omega)) (by omega)]
    exact h3 d hd k hk
end T79zb
end
section
/-! ===== a row of the log: the reference ===== -/
section T79zc
variable {S : aS} {I : Nat → Nat → Int32} {L : Nat → Nat → Int64} {w1 w2 t : Nat} {d nl len : Nat} {cd fa fn : Nat → Nat} {W V : Nat → Int32}
set_option maxRecDepth 100000
/-- the log's rows don't count for anything but the log -/
theorem Rg.log (h : Rg W) (f : ∀ k, k < 95 → k ≠ 9 → V k = W k) : Rg V ∧ pn V = pn W ∧ dn V = dn W := by
  obtain ⟨⟨h1, h2, h3, h4⟩, hf, hp, hdd⟩ := h
  exact ⟨Rg.of h1 h2 ((f 0 (by omega) (by omega)).trans h3) ((f 1 (by omega) (by omega)).trans h4) (hf.eq fun k z1 z2 => f k (by omega) (by omega)) (fun p z => (hp p z).eq (f _ (by omega) (by omega)) (f _ (by omega) (by omega))) (fun e' z => (hdd e' z).eq fun k hk => f _ (by omega) (by omega)), by unfold pn; rw [f 0 (by omega) (by omega)], by unfold dn; rw [f 1 (by omega) (by omega)]⟩
theorem factW_log (h : Rg W) (hd : d < dn W) (f : ∀ k, k < 95 → k ≠ 9 → V k = W k) : factW V d = factW W d := by
  have h12 := h.1.2.1
  have h6 := h.1.1
  have e : ∀ k, k < 6 → ∀ i, i < 12 → vd V k i = vd W k i := fun k hk i hi => f _ (by omega) (by omega)
  obtain ⟨⟨j, hj, ej⟩, -, -, -, hl, -⟩ := h.2.2.2 d hd
  have ej : vd W 0 d = nI j := ej
  have e5 : V (11 + 2 * (vd W 0 d).toNatClampNeg) = W (11 + 2 * (vd W 0 d).toNatClampNeg) := by
    rw [ej, nI_clamp (by omega)]
    exact f _ (by omega) (by omega)
  have e7 : lwF V d = lwF W d := by
    unfold lwF
    rw [e 4 (by decide) d (by omega)]
    rcases hl with z | ⟨i, hi, z⟩
    · have z : vd W 4 d = -1 := z
      rw [z]
      simp
    · have z : vd W 4 d = nI i := z
      rw [z, nI_clamp (by omega), e 5 (by decide) i (by omega)]
  have e0 := e 0 (by decide) d (by omega)
  have e1 := e 1 (by decide) d (by omega)
  have e2 := e 2 (by decide) d (by omega)
  have e3 := e 3 (by decide) d (by omega)
  have e4 : V 4 = W 4 := f 4 (by decide) (by decide)
  funext k
  rcases k with _ | _ | _ | _ | _ | _ | _ | _ | _ | n
  all_goals simp only [factW, e0, e1, e2, e3, e4, e5, e7]
theorem sumR_log {kind : Int32} (h : Rg W) (hd : d < dn W) (f : ∀ k, k < 95 → k ≠ 9 → V k = W k) (g : ∀ k, 335 ≤ k → V k = W k) : sumR V cd fa fn nl d kind = sumR W cd fa fn nl d kind := by
  unfold sumR
  rw [factW_log h hd f]
  exact sumL_congr fun i _ => ⟨g _ (by omega), g _ (by omega)⟩
theorem shameR_log (h : Rg W) (hd : d < dn W) (f : ∀ k, k < 95 → k ≠ 9 → V k = W k) (g : ∀ k, 335 ≤ k → V k = W k) : shameR V cd fa fn nl d = shameR W cd fa fn nl d := by
  have h12 := h.1.2.1
  unfold shameR
  rw [sumR_log h hd f g, sumR_log h hd f g, show vd V 2 d = vd W 2 d from f _ (by omega) (by omega)]
def shf (W : Nat → Int32) (b : Nat) : Nat → Int32 := fun j => if b < j ∧ j < 335 then W (j - 4) else W j
theorem shf_s {b : Nat} (h : 99 ≤ b) (h2 : b < 335) : ud (shf W b) b (shf W b (b - 4)) = shf W (b - 1) := by
  funext j
  unfold shf
  by_cases c : j = b
  · subst c
    rw [ud_at, if_neg (by omega), if_pos ⟨by omega, h2⟩]
  · rw [ud_ne c]
    by_cases c2 : b < j ∧ j < 335
    · rw [if_pos c2, if_pos ⟨by omega, c2.2⟩]
    · rw [if_neg c2, if_neg (fun z => c2 ⟨by omega, z.2⟩)]
theorem h_tells (hG : Rg (I 421)) (hd : d < dn (I 421)) (hL : LawR (I 421) nl len cd fa fn) {x : Int32} : Sp S m_X12_tells 21 0 0 [.ref 420, .int (nI d), .int x] (hp I L w1 w2 t) (fun v h' => v = none ∧ ∃ J, h' = hp J L w1 w2 t ∧ (∀ q, q ≠ 421 → q ≠ 428 → J q = I q) ∧ J 421 = tell (I 421) (I 421 5) (nI d) x (shameR (I 421) cd fa fn nl d)) nX := by
  generalize hW : I 421 = W at hG hd hL ⊢
  have h12 := hG.1.2.1
  have h6 := hG.1.1
  refine Sp_of ok_X12_tells rfl rfl ?_
  show AW S m_X12_tells 21 _ _ 0 0 0 [some (.ref 420), some (.int (nI d)), some (.int x), none] [] (hp I L w1 w2 t)
  refine a_s rfl rfl ?_
  refine a_s3 rfl rfl rfl rfl rfl rfl ?_
  refine a_inv (n := 236) (fun m ls h => ∃ I', ls = [some (.ref 420), some (.int (nI d)), some (.int x), some (.int (nI (m + 3)))] ∧ h = hp I' L w1 w2 t ∧ I' 421 = shf W (95 + (m + 3)) ∧ (∀ q, q ≠ 421 → I' q = I q) ∧ m ≤ 236) ⟨_, rfl, rfl, ?_, fun _ _ => rfl, by decide⟩ ?_
  · rw [hW]
    funext j
    unfold shf
    rw [if_neg (by omega)]
  rintro m _ _ ⟨I1, rfl, rfl, e1, hf, hm⟩ ih
  refine a_l3 rfl rfl rfl ?_
  refine a_s rfl rfl ?_
  refine a_ic_lt rfl (fun c => ?_) (fun c => ?_)
  rotate_left
  · have h4 : 4 ≤ m + 3 := nI_le_of (a := 4) (b := m + 3) c (by decide) (by omega)
    refine a_l0 rfl rfl rfl ?_
    refine a_getq rfl gfX12_13_12 rfl (rfl) ?_
    refine a_s rfl rfl ?_
    refine a_l3 rfl rfl rfl ?_
    refine a_s rfl rfl ?_
    refine a_top (y := nI (95 + (m + 3))) (nI_addl 95 (m + 3)) ?_
    refine a_l0 rfl rfl rfl ?_
    refine a_getq rfl gfX12_13_12 rfl (rfl) ?_
    refine a_s rfl rfl ?_
    refine a_l3 rfl rfl rfl ?_
    refine a_s rfl rfl ?_
    refine a_s rfl rfl ?_
    refine a_s rfl rfl ?_
    refine a_top (y := nI (95 + (m + 3) - 4)) (by rw [show (95 : Int32) + nI (m + 3) = nI (95 + (m + 3)) from nI_addl 95 (m + 3)]; exact nI_sub (j := 4) (by omega)) ?_
    refine a_ialdv (v := shf W (95 + (m + 3)) (95 + (m + 3) - 4)) rfl (n := 2033) rfl (inI_nI (by omega) (by omega)) (by rw [nI_clamp (by omega), e1]) ?_
    refine a_iastv (k := 95 + (m + 3)) rfl (n := 2033) rfl (inI_nI (by omega) (by omega)) (nI_clamp (by omega)) ?_
    refine a_i3 rfl rfl rfl ?_
    refine a_goto rfl ?_
    refine a_less (ih (m - 1) _ _ (by omega) ⟨_, rfl, rfl, ?_, fun q hq => by rw [up2_row hq]; exact hf q hq, by omega⟩) ⟨rfl, rfl, rfl, ?_, trivial⟩
    · rw [up2_ud, e1, shf_s (by omega) (by omega)]
      congr 1
      omega
    · rw [show m + 3 = m - 1 + 3 + 1 by omega, nI_decm]
  have m0 : m = 0 := by
    have := nI_lt_of (a := m + 3) (b := 4) (Int32.not_le.mpr c) (by omega) (by decide)
    omega
  subst m0
  have e1 : I1 421 = shf W 98 := e1
  have lo : ∀ k, k < 99 → shf W 98 k = W k := fun k hk => by unfold shf; rw [if_neg (by omega)]
  refine a_l0 rfl rfl rfl ?_
  refine a_getq rfl gfX12_13_12 rfl (rfl) ?_
  refine a_s rfl rfl ?_
  refine a_l0 rfl rfl rfl ?_
  refine a_getq rfl gfX12_13_12 rfl (rfl) ?_
  refine a_s rfl rfl ?_
  refine a_ialdv (v := W 5) rfl (n := 2033) rfl ⟨by decide, by decide⟩ ((congrFun e1 5).trans (lo 5 (by decide))) ?_
  refine a_iastv (k := 95) rfl (n := 2033) rfl ⟨by decide, by decide⟩ rfl ?_
  refine a_l0 rfl rfl rfl ?_
  refine a_getq rfl gfX12_13_12 rfl (rfl) ?_
  refine a_s rfl rfl ?_
  refine a_l1 rfl rfl rfl ?_
  refine a_iastv (k := 96) rfl (n := 2033) rfl ⟨by decide, by decide⟩ rfl ?_
  refine a_l0 rfl rfl rfl ?_
  refine a_getq rfl gfX12_13_12 rfl (rfl) ?_
  refine a_s rfl rfl ?_
  refine a_l2 rfl rfl rfl ?_
  refine a_iastv (k := 97) rfl (n := 2033) rfl ⟨by decide, by decide⟩ rfl ?_
  generalize hM : up2 (up2 (up2 I1 421 95 (W 5)) 421 96 (nI d)) 421 97 x = M
  have eM : M 421 = ud (ud (ud (shf W 98) 95 (W 5)) 96 (nI d)) 97 x := by rw [← hM, up2_ud, up2_ud, up2_ud, e1]
  have fM : ∀ q, q ≠ 421 → M q = I q := fun q hq => by rw [← hM, up2_row hq, up2_row hq, up2_row hq]; exact hf q hq
  have lM : ∀ k, k < 95 → k ≠ 9 → M 421 k = W k := fun k hk _ => by rw [eM, ud_ne (by omega), ud_ne (by omega), ud_ne (by omega)]; exact lo k (by omega)
  have hMi : ∀ k, 335 ≤ k → M 421 k = W k := fun k hk => by
    rw [eM, ud_ne (by omega), ud_ne (by omega), ud_ne (by omega)]
    unfold shf
    rw [if_neg (by omega)]
  obtain ⟨gM, pM, dM⟩ := Rg.log hG lM
  refine a_l0 rfl rfl rfl ?_
  refine a_getq rfl gfX12_13_12 rfl (rfl) ?_
  refine a_s rfl rfl ?_
  refine a_l0 rfl rfl rfl ?_
  refine a_l1 rfl rfl rfl ?_
  refine a_gV rfl lX12_318 mo_X12_shamesBy (sp_X12_shamesBy (nd := dn W) (np := pn W) h12 h6 hd (by rw [← dM]; exact gM.so.l) (by rw [← dM, ← pM]; exact gM.so.o) (LawR.eq hL (lM 3 (by decide) (by decide)) hMi)) rfl rfl rfl ⟨12, _, rfl, rfl, rfl⟩ rfl (fun v' h' hv => ?_)
  obtain ⟨rfl, f, rfl⟩ := hv
  refine a_top (y := shameR W cd fa fn nl d) (shameR_log hG hd lM hMi) ?_
  refine a_iastv (k := 98) rfl (n := 2033) rfl ⟨by decide, by decide⟩ rfl ?_
  refine a_l0 rfl rfl rfl ?_
  refine a_getq rfl gfX12_13_12 rfl (rfl) ?_
  refine a_s rfl rfl ?_
  refine a_s rfl rfl ?_
  refine a_l0 rfl rfl rfl ?_
  refine a_getq rfl gfX12_13_12 rfl (rfl) ?_
  refine a_s rfl rfl ?_
  refine a_ialdv (v := W 9) rfl (n := 2033) rfl ⟨by decide, by decide⟩ ?_ ?_
  · show up2 (upr M 428 f) 421 98 (shameR W cd fa fn nl d) 421 9 = W 9
    rw [up2_ne (Or.inr (by decide)), upr_row (by decide), eM, ud_ne (by decide), ud_ne (by decide), ud_ne (by decide)]
    exact lo 9 (by decide)
  refine a_s rfl rfl ?_
  refine a_s rfl rfl ?_
  refine a_min rfl lX12_295 mj_min rfl rfl ?_
  refine a_top (y := mn 60 (W 9 + 1)) (rfl) ?_
  refine a_iastv (k := 9) rfl (n := 2033) rfl ⟨by decide, by decide⟩ rfl ?_
  refine a_vret rfl rfl ⟨rfl, _, rfl, fun q h1 h2 => by rw [up2_row h1, up2_row h1, upr_row h2]; exact fM q h1, ?_⟩
  rw [up2_ud, up2_ud, upr_row (by decide), eM]
  funext j
  unfold tell
  by_cases c99 : 99 ≤ j ∧ j < 335
  · rw [if_pos c99, ud_ne (by omega), ud_ne (by omega), ud_ne (by omega), ud_ne (by omega), ud_ne (by omega)]
    unfold shf
    rw [if_pos ⟨by omega, c99.2⟩]
  rw [if_neg c99]
  by_cases c9 : j = 9
  · subst c9
    rw [ud_at, if_neg (by decide), if_neg (by decide), if_neg (by decide), if_neg (by decide), if_pos rfl]
  rw [ud_ne c9]
  by_cases c8 : j = 98
  · subst c8
    rw [ud_at, if_neg (by decide), if_neg (by decide), if_neg (by decide), if_pos rfl]
  rw [ud_ne c8]
  by_cases c7 : j = 97
  · subst c7
    rw [ud_at, if_neg (by decide), if_neg (by decide), if_pos rfl]
  rw [ud_ne c7]
  by_cases c6 : j = 96
  · subst c6
    rw [ud_at, if_neg (by decide), if_pos rfl]
  rw [ud_ne c6]
  by_cases c5 : j = 95
  · subst c5
    rw [ud_at, if_pos rfl]
  rw [ud_ne c5, if_neg c5, if_neg c6, if_neg c7, if_neg c8, if_neg c9]
  unfold shf
  rw [if_neg (by omega)]
end T79zc
end
section
/-! ===== the parade: each place has one duty at most ===== -/
section T79zd
variable {S : aS} {I : Nat → Nat → Int32} {L : Nat → Nat → Int64} {w1 w2 t : Nat} {d e k nl len : Nat} {cd fa fn : Nat → Nat} {W V : Nat → Int32}
set_option maxRecDepth 100000
def pl (W : Nat → Int32) (d : Nat) : Int32 := placeF (dn W) (vd W 5) (vd W 2) (nI d)
theorem cnt_le {P Q : Nat → Bool} : ∀ {n : Nat}, (∀ x, x < n → P x = true → Q x = true) → cntF n P ≤ cntF n Q := by
  intro n
  induction n with
  | zero => exact fun _ => Nat.le_refl _
  | succ n ih =>
    intro h
    have ih := ih fun x hx => h x (by omega)
    cases hp : P n with
    | false =>
      rw [cntF_f hp]
      cases hq : Q n with
      | false => rw [cntF_f hq]; exact ih
      | true => rw [cntF_t hq]; omega
    | true =>
      rw [cntF_t hp, cntF_t (h n (Nat.lt_succ_self n) hp)]
      omega
theorem cnt_lt {P Q : Nat → Bool} : ∀ {n : Nat}, (∀ x, x < n → P x = true → Q x = true) → (∃ x, x < n ∧ Q x = true ∧ P x = false) → cntF n P < cntF n Q := by
  intro n
  induction n with
  | zero =>
    rintro _ ⟨x, hx, -⟩
    exact absurd hx (Nat.not_lt_zero _)
  | succ n ih =>
    rintro h ⟨x, hx, q, p⟩
    have hl := cnt_le (n := n) fun y hy => h y (by omega)
    by_cases c : x = n
    · subst c
      rw [cntF_f p, cntF_t q]
      omega
    · have ih := ih (fun y hy => h y (by omega)) ⟨x, by omega, q, p⟩
      cases hp : P n with
      | false =>
        rw [cntF_f hp]
        cases hq : Q n with
        | false => rw [cntF_f hq]; exact ih
        | true => rw [cntF_t hq]; omega
      | true =>
        rw [cntF_t hp, cntF_t (h n (Nat.lt_succ_self n) hp)]
        omega
theorem pl_no (h12 : dn W ≤ 12) (hd : d < dn W) (h : ¬ vd W 5 d = 0) : pl W d = -1 := by
  unfold pl placeF
  rw [waitF_nI hd h12, decide_eq_false h, if_neg Bool.false_ne_true]
theorem pl_is (h12 : dn W ≤ 12) (hd : d < dn W) (h : vd W 5 d = 0) : pl W d = nI (cntF (dn W) (fun x => decide (vd W 5 x = 0 ∧ (vd W 2 x < vd W 2 d ∨ (vd W 2 x = vd W 2 d ∧ nI x < nI d))))) := by
  unfold pl placeF placeC
  rw [waitF_nI hd h12, decide_eq_true h, if_pos rfl, atF_nI (show d < 12 by omega) (by decide)]
theorem nI_no {m : Nat} (h : m < 2 ^ 31) : ¬ nI m = -1 := fun z => by
  have := nI_pos h
  rw [z] at this
  exact this (by decide)
theorem bf_irr {x : Int32} : ¬ (x < x) := fun z => Int32.lt_irrefl z
/-- who goes ahead has the lesser place -/
theorem pl_lt (h12 : dn W ≤ 12) (hd : d < dn W) (he : e < dn W) (h1 : vd W 5 d = 0) (h : vd W 2 d < vd W 2 e ∨ (vd W 2 d = vd W 2 e ∧ d < e)) : cntF (dn W) (fun x => decide (vd W 5 x = 0 ∧ (vd W 2 x < vd W 2 d ∨ (vd W 2 x = vd W 2 d ∧ nI x < nI d)))) < cntF (dn W) (fun x => decide (vd W 5 x = 0 ∧ (vd W 2 x < vd W 2 e ∨ (vd W 2 x = vd W 2 e ∧ nI x < nI e)))) := by
  have ix : ∀ {x y : Nat}, x < 12 → y < 12 → (nI x < nI y ↔ x < y) := fun hx hy => nI_lt_iff (by omega) (by omega)
  refine cnt_lt (fun x hx z => ?_) ⟨d, hd, ?_, ?_⟩
  · obtain ⟨z1, z2⟩ := of_decide_eq_true z
    refine decide_eq_true ⟨z1, ?_⟩
    rcases z2 with z2 | ⟨z2, z3⟩
    · rcases h with h | ⟨h, h'⟩
      · exact Or.inl (Int32.lt_trans z2 h)
      · exact Or.inl (h ▸ z2)
    · rcases h with h | ⟨h, h'⟩
      · exact Or.inl (z2 ▸ h)
      · exact Or.inr ⟨z2.trans h, (ix (by omega) (by omega)).mpr (by have := (ix (by omega) (by omega)).mp z3; omega)⟩
  · refine decide_eq_true ⟨h1, ?_⟩
    rcases h with h | ⟨h, h'⟩
    · exact Or.inl h
    · exact Or.inr ⟨h, (ix (by omega) (by omega)).mpr h'⟩
  · refine decide_eq_false fun z => ?_
    rcases z.2 with z | ⟨-, z⟩
    · exact bf_irr z
    · exact bf_irr z
theorem pl_inj (h12 : dn W ≤ 12) (hd : d < dn W) (he : e < dn W) (h1 : vd W 5 d = 0) (h2 : vd W 5 e = 0) (h : pl W d = pl W e) : d = e := by
  rw [pl_is h12 hd h1, pl_is h12 he h2] at h
  have c1 := cntF_le (dn W) (fun x => decide (vd W 5 x = 0 ∧ (vd W 2 x < vd W 2 d ∨ (vd W 2 x = vd W 2 d ∧ nI x < nI d))))
  have c2 := cntF_le (dn W) (fun x => decide (vd W 5 x = 0 ∧ (vd W 2 x < vd W 2 e ∨ (vd W 2 x = vd W 2 e ∧ nI x < nI e))))
  have h := nI_inj (by omega) (by omega) h
  by_cases c : d = e
  · exact c
  exfalso
  by_cases a1 : vd W 2 d < vd W 2 e
  · have := pl_lt h12 hd he h1 (Or.inl a1)
    omega
  by_cases a2 : vd W 2 e < vd W 2 d
  · have := pl_lt h12 he hd h2 (Or.inl a2)
    omega
  have a3 : vd W 2 d = vd W 2 e := Int32.le_antisymm (Int32.not_lt.mp a2) (Int32.not_lt.mp a1)
  rcases Nat.lt_or_gt_of_ne c with g | g
  · have := pl_lt h12 hd he h1 (Or.inr ⟨a3, g⟩)
    omega
  · have := pl_lt h12 he hd h2 (Or.inr ⟨a3.symm, g⟩)
    omega
theorem pl_bd (h12 : dn W ≤ 12) (hd : d < dn W) {k : Nat} (hk : k < 2 ^ 31) (h : pl W d = nI k) : vd W 5 d = 0 ∧ k < dn W := by
  by_cases h1 : vd W 5 d = 0
  · refine ⟨h1, ?_⟩
    have c2 := cntF_le (dn W) (fun x => decide (vd W 5 x = 0 ∧ (vd W 2 x < vd W 2 d ∨ (vd W 2 x = vd W 2 d ∧ nI x < nI d))))
    rw [pl_is h12 hd h1] at h
    have h := nI_inj (by omega) hk h
    have c3 : cntF (dn W) (fun x => decide (vd W 5 x = 0 ∧ (vd W 2 x < vd W 2 d ∨ (vd W 2 x = vd W 2 d ∧ nI x < nI d)))) < cntF (dn W) (fun _ => true) := by
      refine cnt_lt (fun _ _ _ => rfl) ⟨d, hd, rfl, decide_eq_false fun z => ?_⟩
      rcases z.2 with z | ⟨-, z⟩
      · exact bf_irr z
      · exact bf_irr z
    have c4 := cntF_le (dn W) (fun _ => true)
    omega
  · rw [pl_no h12 hd h1] at h
    exact absurd h.symm (nI_no hk)
theorem pl_log (hG : Rg W) (hd : d < dn W) (f : ∀ k, k < 95 → k ≠ 9 → V k = W k) : pl V d = pl W d := by
  have h12 := hG.1.2.1
  obtain ⟨-, -, eV⟩ := Rg.log hG f
  have e5 : ∀ x, x < dn W → vd V 5 x = vd W 5 x := fun x hx => f _ (by omega) (by omega)
  have e2 : ∀ x, x < dn W → vd V 2 x = vd W 2 x := fun x hx => f _ (by omega) (by omega)
  by_cases c : vd W 5 d = 0
  · rw [pl_is h12 hd c, pl_is (by rw [eV]; exact h12) (by rw [eV]; exact hd) (by rw [e5 d hd]; exact c), eV]
    congr 1
    refine cntF_congr fun x hx => ?_
    rw [e5 x hx, e2 x hx, e2 d hd]
  · rw [pl_no h12 hd c, pl_no (by rw [eV]; exact h12) (by rw [eV]; exact hd) (by rw [e5 d hd]; exact c)]
/-- the duty at a place -/
def dtF (W : Nat → Int32) (k : Nat) : Nat → Int32
  | 0 => -1
  | n + 1 => if dtF W k n = -1 then (if pl W n = nI k then nI n else -1) else dtF W k n
theorem dtF_ix {k : Nat} : ∀ n, n ≤ 12 → dtF W k n = -1 ∨ ∃ d, d < n ∧ dtF W k n = nI d ∧ pl W d = nI k := by
  intro n
  induction n with
  | zero => exact fun _ => Or.inl rfl
  | succ n ih =>
    intro hn
    unfold dtF
    rcases ih (by omega) with z | ⟨d, d1, d2, d3⟩
    · rw [if_pos z]
      by_cases c : pl W n = nI k
      · rw [if_pos c]
        exact Or.inr ⟨n, Nat.lt_succ_self n, rfl, c⟩
      · rw [if_neg c]
        exact Or.inl rfl
    · rw [d2, if_neg (nI_no (by omega))]
      exact Or.inr ⟨d, by omega, rfl, d3⟩
/-- a place goes by -/
def lt1 (cd fa fn : Nat → Nat) (nl : Nat) (W : Nat → Int32) (k : Nat) : Nat → Int32 := if dtF W k (dn W) = -1 then W else tell W (W 5) (dtF W k (dn W)) (nI k) (shameR W cd fa fn nl (ixN (dtF W k (dn W))))
def ltF (cd fa fn : Nat → Nat) (nl : Nat) (W : Nat → Int32) : Nat → Nat → Int32
  | 0 => W
  | n + 1 => lt1 cd fa fn nl (ltF cd fa fn nl W n) n
theorem lt1_lo {k j : Nat} (h : j < 95 ∨ 335 ≤ j) (h9 : j ≠ 9) : lt1 cd fa fn nl W k j = W j := by
  unfold lt1
  by_cases c : dtF W k (dn W) = -1
  · rw [if_pos c]
  · rw [if_neg c, tell_lo h h9]
theorem ltF_lo {n j : Nat} (h : j < 95 ∨ 335 ≤ j) (h9 : j ≠ 9) : ltF cd fa fn nl W n j = W j := by
  induction n with
  | zero => rfl
  | succ n ih =>
    show lt1 cd fa fn nl (ltF cd fa fn nl W n) n j = W j
    rw [lt1_lo h h9, ih]
theorem f_dutyAt (hD : Sd I 235 W) (hG : Rg W) {k : Nat} (hk : k < 2 ^ 31) : SpE S m_X5_dutyAt 16 [.ref 235, .int (nI k)] (hp I L w1 w2 t) (some (.int (dtF W k (dn W)))) (hp I L w1 w2 t) := by
  have h12 := hG.1.2.1
  have hd3 : I 235 3 = nI (dn W) := (Sd.fd hD (f := 3) (g := 1) (by decide)).trans hG.1.2.2.2
  refine SpE_of ok_X5_dutyAt rfl rfl ?_
  show AW S m_X5_dutyAt 16 _ _ 0 0 0 [some (.ref 235), some (.int (nI k)), none] [] (hp I L w1 w2 t)
  refine a_s rfl rfl ?_
  refine a_s2 rfl rfl rfl rfl rfl rfl ?_
  refine a_inv (n := dn W) (fun m ls h => ∃ j, ls = [some (.ref 235), some (.int (nI k)), some (.int (nI j))] ∧ h = hp I L w1 w2 t ∧ j ≤ dn W ∧ m = dn W - j ∧ dtF W k j = -1) ⟨0, rfl, rfl, Nat.zero_le _, rfl, rfl⟩ ?_
  rintro m _ _ ⟨j, rfl, rfl, hj, hm, hdt⟩ ih
  refine a_l2 rfl rfl rfl ?_
  refine a_l0 rfl rfl rfl ?_
  refine a_getiv (v := nI (dn W)) rfl gfX5_63_5 rfl (hd3) ?_
  refine a_ic_ge rfl (fun c => ?_) (fun c => ?_)
  · have hge := nI_ge_of c (by omega) (by omega)
    obtain rfl : j = dn W := by omega
    refine a_s rfl rfl ?_
    exact a_iret rfl rfl ⟨by rw [hdt], rfl⟩
  have hjn := nI_lt_of c (by omega) (by omega)
  have skip : ¬ pl W j = nI k → AW S m_X5_dutyAt 16 (fun v h' => v = some (.int (dtF W k (dn W))) ∧ h' = hp I L w1 w2 t) (fun _ _ => False) 0 0 29 [some (.ref 235), some (.int (nI k)), some (.int (nI j))] [] (hp I L w1 w2 t) := by
    intro z
    refine a_iv2 (y := nI (j + 1)) rfl rfl rfl ((nI_succ j).symm) ?_
    refine a_goto rfl ?_
    refine ih (dn W - (j + 1)) _ _ (by omega) ⟨j + 1, rfl, rfl, by omega, rfl, ?_⟩
    unfold dtF
    rw [if_pos hdt, if_neg z]
  refine a_l0 rfl rfl rfl ?_
  refine a_l2 rfl rfl rfl ?_
  refine a_eV1 rfl lX5_90 mo_X5_isWaiting (sp_X5_isWaiting (nd := dn W) (a := 235) (by decide) hd3 h12) rfl rfl rfl ⟨5, _, rfl, rfl, rfl⟩ rfl ?_
  rw [wait_same hD hG hjn]
  by_cases c0 : vd W 5 j = 0
  rotate_left
  · rw [decide_eq_false c0]
    refine a_if_eq rfl (fun _ => ?_) (fun z => absurd rfl z)
    exact skip (fun z => by rw [pl_no h12 hjn c0] at z; exact nI_no hk z.symm)
  rw [decide_eq_true c0]
  refine a_if_eq rfl (fun z => absurd z (by decide)) (fun _ => ?_)
  refine a_l0 rfl rfl rfl ?_
  refine a_l2 rfl rfl rfl ?_
  refine a_eV1 rfl lX5_113 mo_X5_placeOf (sp_X5_placeOf (nd := dn W) (a := 235) (by decide) hd3 h12) rfl rfl rfl ⟨5, _, rfl, rfl, rfl⟩ rfl ?_
  rw [place_same hD hG hjn]
  refine a_l1 rfl rfl rfl ?_
  refine a_ic_ne rfl (fun c2 => skip c2) (fun c2 => ?_)
  refine a_l2 rfl rfl rfl ?_
  refine a_iret rfl rfl ⟨?_, rfl⟩
  have key : ∀ i, dtF W k (j + 1 + i) = nI j := by
    intro i
    induction i with
    | zero =>
      show dtF W k (j + 1) = nI j
      unfold dtF
      rw [if_pos hdt]
      exact if_pos c2
    | succ i ih =>
      show dtF W k ((j + 1 + i) + 1) = nI j
      unfold dtF
      rw [ih, if_neg (nI_no (by omega))]
  rw [show dn W = j + 1 + (dn W - (j + 1)) by omega, key]
end T79zd
end
section
/-! ===== the parade goes by, on both sides ===== -/
section T79ze
variable {S : aS} {I : Nat → Nat → Int32} {L : Nat → Nat → Int64} {w1 w2 t : Nat} {nl len : Nat} {cd fa fn : Nat → Nat} {W : Nat → Int32}
set_option maxRecDepth 100000
def inG (cd fa fn : Nat → Nat) (nl : Nat) (W : Nat → Int32) (k n : Nat) : Nat → Int32 := if dtF W k n = -1 then W else tell W (W 5) (dtF W k n) (nI k) (shameR W cd fa fn nl (ixN (dtF W k n)))
theorem inG_lo {k n j : Nat} (h : j < 95 ∨ 335 ≤ j) (h9 : j ≠ 9) : inG cd fa fn nl W k n j = W j := by
  unfold inG
  by_cases c : dtF W k n = -1
  · rw [if_pos c]
  · rw [if_neg c, tell_lo h h9]
theorem ltF_rg (hG : Rg W) {n : Nat} : Rg (ltF cd fa fn nl W n) ∧ pn (ltF cd fa fn nl W n) = pn W ∧ dn (ltF cd fa fn nl W n) = dn W := Rg.log hG fun k h1 h9 => ltF_lo (Or.inl h1) h9
theorem lt1_no (hG : Rg W) {k : Nat} (hk : dn W ≤ k) (h2 : k < 2 ^ 31) : lt1 cd fa fn nl W k = W := by
  have h12 := hG.1.2.1
  unfold lt1
  rcases dtF_ix (W := W) (k := k) (dn W) h12 with z | ⟨d, d1, d2, d3⟩
  · rw [if_pos z]
  · have := (pl_bd h12 d1 h2 d3).2
    omega
theorem ltF_all (hG : Rg W) : ∀ i, dn W + i ≤ 12 → ltF cd fa fn nl W (dn W + i) = ltF cd fa fn nl W (dn W) := by
  intro i
  induction i with
  | zero => exact fun _ => rfl
  | succ i ih =>
    intro h
    have ih := ih (by omega)
    show lt1 cd fa fn nl (ltF cd fa fn nl W (dn W + i)) (dn W + i) = _
    obtain ⟨g1, -, g3⟩ := ltF_rg (cd := cd) (fa := fa) (fn := fn) (nl := nl) hG (n := dn W + i)
    rw [lt1_no g1 (by rw [g3]; omega) (by omega), ih]
theorem h_goesBy (hG : Rg (I 421)) (hL : LawR (I 421) nl len cd fa fn) : Sp S m_X12_goesBy 22 0 0 [.ref 420] (hp I L w1 w2 t) (fun v h' => v = none ∧ ∃ J, h' = hp J L w1 w2 t ∧ (∀ q, q ≠ 421 → q ≠ 428 → J q = I q) ∧ J 421 = ltF cd fa fn nl (I 421) (dn (I 421))) nX := by
  generalize hW : I 421 = W at hG hL ⊢
  have h12 := hG.1.2.1
  refine Sp_of ok_X12_goesBy rfl rfl ?_
  show AW S m_X12_goesBy 22 _ _ 0 0 0 [some (.ref 420), none, none] [] (hp I L w1 w2 t)
  refine a_s rfl rfl ?_
  refine a_s1 rfl rfl rfl rfl rfl rfl ?_
  refine a_inv (n := dn W) (fun m ls h => ∃ k J, ls = [some (.ref 420), some (.int (nI k)), none] ∧ h = hp J L w1 w2 t ∧ k ≤ dn W ∧ m = dn W - k ∧ J 421 = ltF cd fa fn nl W k ∧ ∀ q, q ≠ 421 → q ≠ 428 → J q = I q) ⟨0, I, rfl, rfl, Nat.zero_le _, rfl, hW, fun _ _ _ => rfl⟩ ?_
  rintro m _ _ ⟨k, J, rfl, rfl, hk, hm, eJ, hf⟩ ih
  obtain ⟨gV, pV, dV⟩ := ltF_rg (cd := cd) (fa := fa) (fn := fn) (nl := nl) hG (n := k)
  have lawV : LawR (ltF cd fa fn nl W k) nl len cd fa fn := LawR.eq hL (ltF_lo (Or.inl (by decide)) (by decide)) (fun j hj => ltF_lo (Or.inr hj) (by omega))
  have es : ltF cd fa fn nl W (k + 1) = lt1 cd fa fn nl (ltF cd fa fn nl W k) k := rfl
  refine a_l1 rfl rfl rfl ?_
  refine a_l0 rfl rfl rfl ?_
  refine a_eV1 rfl lX12_74 mo_X12_duties sp_X12_duties rfl rfl rfl ⟨12, _, rfl, rfl, rfl⟩ rfl ?_
  refine a_top (y := nI (dn W)) (by rw [eJ, gV.1.2.2.2, dV]) ?_
  refine a_ic_ge rfl (fun c => ?_) (fun c => ?_)
  · have hge := nI_ge_of c (by omega) (by omega)
    obtain rfl : k = dn W := by omega
    exact a_vret rfl rfl ⟨rfl, J, rfl, hf, eJ⟩
  have hkn := nI_lt_of c (by omega) (by omega)
  have on : ∀ (K : Nat → Nat → Int32) (v : Option Value), K 421 = ltF cd fa fn nl W (k + 1) → (∀ q, q ≠ 421 → q ≠ 428 → K q = I q) → AW S m_X12_goesBy 22 (fun v h' => v = none ∧ ∃ J, h' = hp J L w1 w2 t ∧ (∀ q, q ≠ 421 → q ≠ 428 → J q = I q) ∧ J 421 = ltF cd fa fn nl W (dn W)) nX 0 0 41 [some (.ref 420), some (.int (nI k)), v] [] (hp K L w1 w2 t) := by
    intro K v hK hfK
    refine a_iv1 (y := nI (k + 1)) rfl rfl rfl ((nI_succ k).symm) ?_
    refine a_goto rfl ?_
    exact a_less (ih (dn W - (k + 1)) _ _ (by omega) ⟨k + 1, K, rfl, rfl, by omega, rfl, hK, hfK⟩) ⟨rfl, rfl, trivial⟩
  generalize ltF cd fa fn nl W k = V at eJ gV pV dV lawV es
  clear ih hm
  refine a_s rfl rfl ?_
  refine a_s2 rfl rfl rfl rfl rfl rfl ?_
  refine a_inv (n := dn W) (fun m ls h => ∃ d K, ls = [some (.ref 420), some (.int (nI k)), some (.int (nI d))] ∧ h = hp K L w1 w2 t ∧ d ≤ dn W ∧ m = dn W - d ∧ K 421 = inG cd fa fn nl V k d ∧ ∀ q, q ≠ 421 → q ≠ 428 → K q = I q) ⟨0, J, rfl, rfl, Nat.zero_le _, rfl, eJ, hf⟩ ?_
  rintro m _ _ ⟨d, K, rfl, rfl, hd, hm, eK, hfK⟩ ih
  have lo : ∀ j, j < 95 → j ≠ 9 → K 421 j = V j := fun j h1 h9 => by rw [eK]; exact inG_lo (Or.inl h1) h9
  have hi : ∀ j, 335 ≤ j → K 421 j = V j := fun j h1 => by rw [eK]; exact inG_lo (Or.inr h1) (by omega)
  obtain ⟨gK, pK, dK⟩ := Rg.log gV lo
  refine a_l2 rfl rfl rfl ?_
  refine a_l0 rfl rfl rfl ?_
  refine a_eV1 rfl lX12_74 mo_X12_duties sp_X12_duties rfl rfl rfl ⟨12, _, rfl, rfl, rfl⟩ rfl ?_
  refine a_top (y := nI (dn W)) (by rw [gK.1.2.2.2, dK, dV]) ?_
  refine a_ic_ge rfl (fun c => ?_) (fun c => ?_)
  · have hge := nI_ge_of c (by omega) (by omega)
    obtain rfl : d = dn W := by omega
    refine on K _ ?_ hfK
    rw [es, eK]
    unfold inG lt1
    rw [dV]
  have hdn := nI_lt_of c (by omega) (by omega)
  have eds : dtF V k (d + 1) = if dtF V k d = -1 then (if pl V d = nI k then nI d else -1) else dtF V k d := rfl
  refine a_l0 rfl rfl rfl ?_
  refine a_l2 rfl rfl rfl ?_
  refine a_eV1 rfl lX12_283 mo_X12_placeOf (sp_X12_placeOf (nd := dn W) h12 (by rw [gK.1.2.2.2, dK, dV]) hdn) rfl rfl rfl ⟨12, _, rfl, rfl, rfl⟩ rfl ?_
  refine a_top (y := pl V d) (by rw [← pl_log gV (by rw [dV]; exact hdn) lo]; unfold pl; rw [dK, dV]) ?_
  refine a_l1 rfl rfl rfl ?_
  refine a_ic_ne rfl (fun c2 => ?_) (fun c2 => ?_)
  · refine a_iv2 (y := nI (d + 1)) rfl rfl rfl ((nI_succ d).symm) ?_
    refine a_goto rfl ?_
    refine ih (dn W - (d + 1)) _ _ (by omega) ⟨d + 1, K, rfl, rfl, by omega, rfl, ?_, hfK⟩
    have ed : dtF V k (d + 1) = dtF V k d := by
      rw [eds, if_neg c2]
      by_cases cz : dtF V k d = -1
      · rw [if_pos cz, cz]
      · rw [if_neg cz]
    rw [eK]
    unfold inG
    rw [ed]
  have hpd := pl_bd (by rw [dV]; exact h12) (by rw [dV]; exact hdn) (show k < 2 ^ 31 by omega) c2
  have cz : dtF V k d = -1 := by
    rcases dtF_ix (W := V) (k := k) d (by omega) with z | ⟨e, e1, e2, e3⟩
    · exact z
    · exfalso
      have hpe := pl_bd (W := V) (d := e) (by rw [dV]; exact h12) (by rw [dV]; omega) (show k < 2 ^ 31 by omega) e3
      have := pl_inj (by rw [dV]; exact h12) (by rw [dV]; omega) (by rw [dV]; exact hdn) hpe.1 hpd.1 (e3.trans c2.symm)
      omega
  have eKV : K 421 = V := by
    rw [eK]
    unfold inG
    rw [if_pos cz]
  refine a_l0 rfl rfl rfl ?_
  refine a_l2 rfl rfl rfl ?_
  refine a_l1 rfl rfl rfl ?_
  refine a_gV rfl lX12_370 mo_X12_tells (h_tells (d := d) (nl := nl) (len := len) (cd := cd) (fa := fa) (fn := fn) (by rw [eKV]; exact gV) (by rw [eKV, dV]; exact hdn) (by rw [eKV]; exact lawV)) rfl rfl rfl ⟨12, _, rfl, rfl, rfl⟩ rfl (fun v' h' hv => ?_)
  obtain ⟨rfl, K2, rfl, hf2, eK2⟩ := hv
  refine a_iv2 (y := nI (d + 1)) rfl rfl rfl ((nI_succ d).symm) ?_
  refine a_goto rfl ?_
  refine ih (dn W - (d + 1)) _ _ (by omega) ⟨d + 1, K2, rfl, rfl, by omega, rfl, ?_, fun q h1 h2 => (hf2 q h1 h2).trans (hfK q h1 h2)⟩
  rw [eK2, eKV]
  unfold inG
  rw [eds, if_pos cz, if_pos c2, if_neg (nI_no (by omega)), ixN_nI (by omega)]
theorem f_parade (hD : Sd I 235 W) (hLg : Lg I 235 W) (hG : Rg W) (hL : LwS I 246 W nl len cd fa fn) : Sp S m_X11_letParadeGoBy 18 0 0 [.ref 200] (hp I L w1 w2 t) (fun v h' => v = none ∧ ∃ J, h' = hp J L w1 w2 t ∧ (∀ q, q ≠ 244 → q ≠ 245 → q ≠ 252 → q ≠ 253 → J q = I q) ∧ Sd J 235 (ltF cd fa fn nl W (dn W)) ∧ Lg J 235 (ltF cd fa fn nl W (dn W))) nX := by
  have h12 := hG.1.2.1
  refine Sp_of ok_X11_letParadeGoBy rfl rfl ?_
  show AW S m_X11_letParadeGoBy 18 _ _ 0 0 0 [some (.ref 200), none, none] [] (hp I L w1 w2 t)
  refine a_s rfl rfl ?_
  refine a_s1 rfl rfl rfl rfl rfl rfl ?_
  refine a_inv (n := 12) (fun m ls h => ∃ k J, ls = [some (.ref 200), some (.int (nI k)), none] ∧ h = hp J L w1 w2 t ∧ k ≤ 12 ∧ m = 12 - k ∧ Sd J 235 (ltF cd fa fn nl W k) ∧ Lg J 235 (ltF cd fa fn nl W k) ∧ ∀ q, q ≠ 244 → q ≠ 245 → q ≠ 252 → q ≠ 253 → J q = I q) ⟨0, I, rfl, rfl, Nat.zero_le _, rfl, hD, hLg, fun _ _ _ _ _ => rfl⟩ ?_
  rintro m _ _ ⟨k, J, rfl, rfl, hk, hm, DJ, LJ, hf⟩ ih
  refine a_l1 rfl rfl rfl ?_
  refine a_s rfl rfl ?_
  refine a_ic_ge rfl (fun c => ?_) (fun c => ?_)
  · have hge := nI_ge_of (b := 12) c (by omega) (by decide)
    obtain rfl : k = 12 := by omega
    have e := ltF_all (cd := cd) (fa := fa) (fn := fn) (nl := nl) hG (12 - dn W) (by omega)
    rw [show dn W + (12 - dn W) = 12 by omega] at e
    rw [e] at DJ LJ
    exact a_vret rfl rfl ⟨rfl, J, rfl, hf, DJ, LJ⟩
  have hk12 := nI_lt_of (b := 12) c (by omega) (by decide)
  obtain ⟨gV, pV, dV⟩ := ltF_rg (cd := cd) (fa := fa) (fn := fn) (nl := nl) hG (n := k)
  have lawV : LwS J 246 (ltF cd fa fn nl W k) nl len cd fa fn := LwS.eq hL (fun q g1 g2 => hf q (by omega) (by omega) (by omega) (by omega)) (ltF_lo (Or.inl (by decide)) (by decide)) (fun j hj => ltF_lo (Or.inr hj) (by omega))
  have es : ltF cd fa fn nl W (k + 1) = lt1 cd fa fn nl (ltF cd fa fn nl W k) k := rfl
  have on : ∀ (K : Nat → Nat → Int32) (v : Option Value), Sd K 235 (ltF cd fa fn nl W (k + 1)) → Lg K 235 (ltF cd fa fn nl W (k + 1)) → (∀ q, q ≠ 244 → q ≠ 245 → q ≠ 252 → q ≠ 253 → K q = I q) → AW S m_X11_letParadeGoBy 18 (fun v h' => v = none ∧ ∃ J, h' = hp J L w1 w2 t ∧ (∀ q, q ≠ 244 → q ≠ 245 → q ≠ 252 → q ≠ 253 → J q = I q) ∧ Sd J 235 (ltF cd fa fn nl W (dn W)) ∧ Lg J 235 (ltF cd fa fn nl W (dn W))) nX 0 0 53 [some (.ref 200), some (.int (nI k)), v] [] (hp K L w1 w2 t) := by
    intro K v hK hLK hfK
    refine a_iv1 (y := nI (k + 1)) rfl rfl rfl ((nI_succ k).symm) ?_
    refine a_goto rfl ?_
    exact a_less (ih (12 - (k + 1)) _ _ (by omega) ⟨k + 1, K, rfl, rfl, by omega, rfl, hK, hLK, hfK⟩) ⟨rfl, rfl, trivial⟩
  generalize ltF cd fa fn nl W k = V at DJ LJ gV pV dV lawV es
  have v12 : dn V ≤ 12 := gV.1.2.1
  refine a_l0 rfl rfl rfl ?_
  refine a_getq rfl gfX11_37_11 rfl (rfl) ?_
  refine a_l1 rfl rfl rfl ?_
  refine a_eV1 rfl lX11_266 mo_X5_dutyAt (f_dutyAt (k := k) DJ gV (by omega)) rfl rfl rfl ⟨5, _, rfl, rfl, rfl⟩ rfl ?_
  refine a_s2 rfl rfl rfl rfl rfl rfl ?_
  refine a_l2 rfl rfl rfl ?_
  refine a_s rfl rfl ?_
  rcases dtF_ix (W := V) (k := k) (dn V) v12 with z | ⟨d, d1, d2, d3⟩
  · refine a_ic_eq rfl (fun _ => ?_) (fun c => absurd z c)
    have e : ltF cd fa fn nl W (k + 1) = V := by
      rw [es]
      unfold lt1
      rw [if_pos z]
    exact on J _ (by rw [e]; exact DJ) (by rw [e]; exact LJ) hf
  rw [d2]
  refine a_ic_eq rfl (fun c => absurd c (nI_no (by omega))) (fun _ => ?_)
  refine a_l0 rfl rfl rfl ?_
  refine a_getq rfl gfX11_37_11 rfl (rfl) ?_
  refine a_getq rfl gfX11_211_5 rfl (rfl) ?_
  refine a_l0 rfl rfl rfl ?_
  refine a_getq rfl gfX11_37_11 rfl (rfl) ?_
  refine a_getiv (v := V 5) rfl gfX11_188_5 rfl (Sd.fd DJ (by decide)) ?_
  refine a_l2 rfl rfl rfl ?_
  refine a_l1 rfl rfl rfl ?_
  refine a_l0 rfl rfl rfl ?_
  refine a_getq rfl gfX11_44_11 rfl (rfl) ?_
  refine a_l0 rfl rfl rfl ?_
  refine a_getq rfl gfX11_37_11 rfl (rfl) ?_
  refine a_l2 rfl rfl rfl ?_
  refine a_gV rfl lX11_170 mo_X2_shameOf (sp_X2_shameOf (a := 235) (b := 246) (d := d) (by decide) (by decide) (by omega) lawV.1) rfl rfl rfl ⟨2, _, rfl, rfl, rfl⟩ rfl (fun v' h' hv => ?_)
  obtain ⟨rfl, K, rfl, hfK⟩ := hv
  refine a_top (y := shameR V cd fa fn nl d) (by unfold shameC shameR; rw [sum_same DJ gV lawV d1, sum_same DJ gV lawV d1, show J (235 + 5) d = vd V 2 d from Sd.row (k := 2) DJ (by omega) (by decide)]) ?_
  obtain ⟨r, n, r60, n60, l0, l1, l9, lr⟩ := LJ
  have k244 : K 244 = J 244 := hfK 244 (by decide) (by decide)
  have k245 : K 245 = J 245 := hfK 245 (by decide) (by decide)
  refine a_eV0 rfl lX11_385 mo_X1_add (f_add (r := r) (n := n) ((congrFun k244 0).trans l0) ((congrFun k244 1).trans l1) n60) rfl rfl rfl ⟨1, _, rfl, rfl, rfl⟩ rfl ?_
  have e : ltF cd fa fn nl W (k + 1) = tell V (V 5) (nI d) (nI k) (shameR V cd fa fn nl d) := by
    rw [es]
    unfold lt1
    rw [d2, if_neg (nI_no (by omega)), ixN_nI (by omega)]
  have fr : ∀ q, q ≠ 244 → q ≠ 245 → adL K n r (V 5) (nI d) (nI k) (shameR V cd fa fn nl d) q = K q := fun q h1 h2 => by
    unfold adL
    rw [up2_row h1, up2_row h1, up2_row h2, up2_row h2, up2_row h2, up2_row h2]
  refine on _ _ ?_ ?_ (fun q h1 h2 h3 h4 => by rw [fr q h1 h2, hfK q h3 h4]; exact hf q h1 h2 h3 h4)
  · rw [e]
    refine Sd.tell (Sd.eq DJ fun q g1 g2 => ?_)
    rw [fr q (by omega) (by omega), hfK q (by omega) (by omega)]
  · rw [e]
    refine Lg.add r60 n60 l9 (fun k' hk' j hj => ?_)
    rw [k245]
    exact lr k' hk' j hj
end T79ze
end
section
/-! ===== days, on both sides ===== -/
section T79zf
variable {S : aS} {I : Nat → Nat → Int32} {L : Nat → Nat → Int64} {w1 w2 t : Nat} {nl len nd np n fa r : Nat} {cd fa' fn : Nat → Nat} {W : Nat → Int32}
set_option maxRecDepth 100000
theorem psF_lg {calm : Bool} (h : DyOk nl W W) {k : Nat} (hk : k = 9 ∨ 95 ≤ k) : ∀ n, n ≤ pn W → (psF calm W n).1 k = W k := by
  intro n
  induction n with
  | zero => exact fun _ => rfl
  | succ n ih =>
    intro hn
    have ih := ih (by omega)
    have ok := psF_ok (calm := calm) h n (by omega)
    have e1 : psW calm (psF calm W n).1 k = (psF calm W n).1 k := by
      unfold psW
      by_cases c : calm = true
      · rw [if_pos c]
      · rw [if_neg c, ud_ne (by omega)]
    show (psS calm (psF calm W n) n).1 k = W k
    unfold psS
    by_cases c : calm = false ∧ rm100 (drawV (seedF ((psF calm W n).1 10))) < (psF calm W n).1 6
    · rw [if_pos c]
      exact e1.trans ih
    · rw [if_neg c]
      have okw := psW_ok (calm := calm) ok
      obtain ⟨-, -, -, -, g5⟩ := WdOk.run (p := nI n) (taken := (psF calm W n).2) (W := psW calm (psF calm W n).1) (s := (psW calm (psF calm W n).1, psW calm (psF calm W n).1 (11 + 2 * n + 1), 0)) ⟨okw.1, rfl, rfl, (okw.1.2.2.1 n (by rw [okw.2.1]; omega)).2, fun _ _ => rfl⟩ (dn (psW calm (psF calm W n).1)) (Nat.le_refl _)
      exact (g5 k (fun d hd => by omega)).trans (e1.trans ih)
theorem nwD_lg {s : Nat → Int32} (h : DyOk nl W s) {k : Nat} (hk : k = 9 ∨ 95 ≤ k) : nwD (gwL cd fa' fn nl) s k = s k := by
  unfold nwD
  by_cases c : 30 < s 4 + 1
  · rw [if_pos c]
    obtain ⟨hG, hp, hd, hL, h3, -⟩ := mth_ok h
    obtain ⟨-, -, -, -, g5⟩ := GwOk.run (cd := cd) (fa := fa') (fn := fn) (nl := nl) ⟨hG, rfl, rfl, hL, fun _ _ => rfl⟩ (dn s) (by rw [hd, h.2.2.1]; exact Nat.le_refl _)
    rw [g5 k (fun d hd => by omega), ud_ne (by omega), ud_ne (by omega), ud_ne (by omega)]
  · rw [if_neg c, ud_ne (by omega)]
theorem dayW_lg {calm : Bool} (h : DyOk nl W W) {k : Nat} (hk : k = 9 ∨ 95 ≤ k) : dayW calm (gwL cd fa' fn nl) W k = W k := (nwD_lg (psF_ok h _ (Nat.le_refl _)) hk).trans (psF_lg h hk _ (Nat.le_refl _))
/-- a day, and the parade on the second -/
def dyP (cd fa fn : Nat → Nat) (nl : Nat) (V : Nat → Int32) : Nat → Int32 := if V 4 = 2 then ltF cd fa fn nl V (dn V) else V
def dsW (calm : Bool) (cd fa fn : Nat → Nat) (nl : Nat) (W : Nat → Int32) : Nat → Nat → Int32
  | 0 => W
  | n + 1 => dyP cd fa fn nl (dayW calm (gwL cd fa fn nl) (dsW calm cd fa fn nl W n))
/-- ranges, and what days never change -/
def DsOk (nl : Nat) (W s : Nat → Int32) : Prop := Rg s ∧ pn s = pn W ∧ dn s = dn W ∧ LwN s nl ∧ s 3 = W 3 ∧ ∀ k, 335 ≤ k → s k = W k
theorem DsOk.dy {s : Nat → Int32} (h : DsOk nl W s) : DyOk nl s s := ⟨h.1, rfl, rfl, h.2.2.2.1, rfl, fun _ _ => rfl⟩
theorem dyP_ok {s V : Nat → Int32} (h : DsOk nl W s) (hV : DyOk nl s V) : DsOk nl W (dyP cd fa' fn nl V) := by
  obtain ⟨g1, g2, g3, g4, g5, g6⟩ := hV
  unfold dyP
  by_cases c : V 4 = 2
  · rw [if_pos c]
    obtain ⟨l1, l2, l3⟩ := ltF_rg (cd := cd) (fa := fa') (fn := fn) (nl := nl) g1 (n := dn V)
    exact ⟨l1, l2.trans (g2.trans h.2.1), l3.trans (g3.trans h.2.2.1), LwN.eq g4 fun k hk => ltF_lo (Or.inr hk) (by omega), (ltF_lo (Or.inl (by decide)) (by decide)).trans (g5.trans h.2.2.2.2.1), fun k hk => (ltF_lo (Or.inr hk) (by omega)).trans ((g6 k hk).trans (h.2.2.2.2.2 k hk))⟩
  · rw [if_neg c]
    exact ⟨g1, g2.trans h.2.1, g3.trans h.2.2.1, g4, g5.trans h.2.2.2.2.1, fun k hk => (g6 k hk).trans (h.2.2.2.2.2 k hk)⟩
theorem dsW_ok {calm : Bool} (h : DsOk nl W W) : ∀ n, DsOk nl W (dsW calm cd fa' fn nl W n) := by
  intro n
  induction n with
  | zero => exact h
  | succ n ih => exact dyP_ok ih (dayW_ok ih.dy)
theorem h_oneDay (h421 : I 421 = W) (hG : Rg W) (hL : LawR W nl len cd fa' fn) (hN : LwN W nl) {calm : Bool} : Sp S m_X12_oneDay 23 0 0 [.ref 420, .int (bI calm)] (hp I L w1 w2 t) (fun v h' => ∃ y, v = some (.int y) ∧ ∃ J, h' = hp J L w1 w2 t ∧ (∀ q, q ≠ 421 → q ≠ 428 → q ≠ 429 → J q = I q) ∧ J 421 = dyP cd fa' fn nl (dayW calm (gwL cd fa' fn nl) W)) nX := by
  refine Sp_of ok_X12_oneDay rfl rfl ?_
  show AW S m_X12_oneDay 23 _ _ 0 0 0 [some (.ref 420), some (.int (bI calm)), none, none] [] (hp I L w1 w2 t)
  refine h_oneDay140 h421 hG hL hN (fun J y u hf eJ => ?_)
  have ok : DyOk nl W (dayW calm (gwL cd fa' fn nl) W) := dayW_ok ⟨hG, rfl, rfl, hN, rfl, fun _ _ => rfl⟩
  generalize dayW calm (gwL cd fa' fn nl) W = V at eJ ok ⊢
  refine a_l0 rfl rfl rfl ?_
  refine a_getq rfl gfX12_13_12 rfl (rfl) ?_
  refine a_s rfl rfl ?_
  refine a_ialdv (v := V 4) rfl (n := 2033) rfl ⟨by decide, by decide⟩ (congrFun eJ 4) ?_
  refine a_s rfl rfl ?_
  refine a_ic_ne rfl (fun c => ?_) (fun c => ?_)
  · refine a_l2 rfl rfl rfl ?_
    exact a_iret rfl rfl ⟨y, rfl, J, rfl, hf, by unfold dyP; rw [if_neg c]; exact eJ⟩
  refine a_l0 rfl rfl rfl ?_
  refine a_gV rfl lX12_382 mo_X12_goesBy (h_goesBy (nl := nl) (len := len) (cd := cd) (fa := fa') (fn := fn) (by rw [eJ]; exact ok.1) (by rw [eJ]; exact LawR.eq hL ok.2.2.2.2.1 ok.2.2.2.2.2)) rfl rfl rfl ⟨12, _, rfl, rfl, rfl⟩ rfl (fun v' h' hv => ?_)
  obtain ⟨rfl, K, rfl, hfK, eK⟩ := hv
  refine a_l2 rfl rfl rfl ?_
  exact a_iret rfl rfl ⟨y, rfl, K, rfl, fun q h1 h2 h3 => (hfK q h1 h2).trans (hf q h1 h2 h3), by unfold dyP; rw [if_pos c, eK, eJ]⟩
theorem h_goesOn (h421 : I 421 = W) (hG : Rg W) (hL : LawR W nl len cd fa' fn) (hN : LwN W nl) {calm : Bool} {m : Nat} (hm : m ≤ 90) : Sp S m_X12_goesOn 24 0 0 [.ref 420, .int (nI m), .int (bI calm)] (hp I L w1 w2 t) (fun v h' => ∃ y, v = some (.int y) ∧ ∃ J, h' = hp J L w1 w2 t ∧ (∀ q, q ≠ 421 → q ≠ 428 → q ≠ 429 → J q = I q) ∧ J 421 = dsW calm cd fa' fn nl W m) nX := by
  have ok0 : DsOk nl W W := ⟨hG, rfl, rfl, hN, rfl, fun _ _ => rfl⟩
  refine Sp_of ok_X12_goesOn rfl rfl ?_
  show AW S m_X12_goesOn 24 _ _ 0 0 0 [some (.ref 420), some (.int (nI m)), some (.int (bI calm)), none, none] [] (hp I L w1 w2 t)
  refine a_s rfl rfl ?_
  refine a_s3 rfl rfl rfl rfl rfl rfl ?_
  refine a_s rfl rfl ?_
  refine a_s4 rfl rfl rfl rfl rfl rfl ?_
  refine a_inv (n := m) (fun i ls h => ∃ j y J, ls = [some (.ref 420), some (.int (nI m)), some (.int (bI calm)), some (.int y), some (.int (nI j))] ∧ h = hp J L w1 w2 t ∧ j ≤ m ∧ i = m - j ∧ J 421 = dsW calm cd fa' fn nl W j ∧ ∀ q, q ≠ 421 → q ≠ 428 → q ≠ 429 → J q = I q) ⟨0, 0, I, rfl, rfl, Nat.zero_le _, rfl, h421, fun _ _ _ _ => rfl⟩ ?_
  rintro i _ _ ⟨j, y, J, rfl, rfl, hj, hi, eJ, hf⟩ ih
  refine a_l4 rfl rfl rfl ?_
  refine a_l1 rfl rfl rfl ?_
  refine a_ic_ge rfl (fun c => ?_) (fun c => ?_)
  · have hge := nI_ge_of c (by omega) (by omega)
    obtain rfl : j = m := by omega
    refine a_l3 rfl rfl rfl ?_
    exact a_iret rfl rfl ⟨y, rfl, J, rfl, hf, eJ⟩
  have hjm := nI_lt_of c (by omega) (by omega)
  have okj := dsW_ok (calm := calm) (cd := cd) (fa' := fa') (fn := fn) ok0 j
  refine a_l3 rfl rfl rfl ?_
  refine a_l0 rfl rfl rfl ?_
  refine a_l2 rfl rfl rfl ?_
  refine a_gV rfl lX12_385 mo_X12_oneDay (h_oneDay (calm := calm) eJ okj.1 (LawR.eq hL okj.2.2.2.2.1 okj.2.2.2.2.2) okj.2.2.2.1) rfl rfl rfl ⟨12, _, rfl, rfl, rfl⟩ rfl (fun v' h' hv => ?_)
  obtain ⟨z, rfl, K, rfl, hfK, eK⟩ := hv
  refine a_s rfl rfl ?_
  refine a_s3 rfl rfl rfl rfl rfl rfl ?_
  refine a_iv4 (y := nI (j + 1)) rfl rfl rfl ((nI_succ j).symm) ?_
  refine a_goto rfl ?_
  exact ih (m - (j + 1)) _ _ (by omega) ⟨j + 1, _, K, rfl, rfl, by omega, rfl, eK, fun q h1 h2 h3 => (hfK q h1 h2 h3).trans (hf q h1 h2 h3)⟩
theorem h_days (hG : Rg (I 421)) (hL : LawR (I 421) nl len cd fa' fn) (hN : LwN (I 421) nl) (er : I 420 7 = nI r) (hr12 : r ≤ 12) {x : Int32} : Sp S m_X12_days 25 0 0 [.ref 420, .int x] (hp I L w1 w2 t) (fun v h' => ∃ y, v = some (.int y) ∧ ((inB x 1 90 = false ∧ h' = hp (up2 (up2 I 420 0 0) 420 0 1) L w1 w2 t) ∨ ∃ m, 1 ≤ m ∧ m ≤ 90 ∧ x = nI m ∧ ∃ J, h' = hp J L w1 w2 t ∧ (∀ q, q ≠ 421 → q ≠ 428 → q ≠ 429 → J q = remH (up2 I 420 0 0) r q) ∧ J 421 = dsW false cd fa' fn nl (I 421) m)) nX := by
  have e21 : up2 I 420 0 0 421 = I 421 := up2_row (by decide)
  have er0 : up2 I 420 0 0 420 7 = nI r := (up2_ne (Or.inr (by decide))).trans er
  refine Sp_of ok_X12_days rfl rfl ?_
  show AW S m_X12_days 25 _ _ 0 0 0 [some (.ref 420), some (.int x)] [] (hp I L w1 w2 t)
  refine a_l0 rfl rfl rfl ?_
  refine a_s rfl rfl ?_
  refine a_puti rfl pfX12_3_12 rfl ?_
  refine a_l0 rfl rfl rfl ?_
  refine a_l1 rfl rfl rfl ?_
  refine a_s rfl rfl ?_
  refine a_s rfl rfl ?_
  refine a_eS1 rfl lX12_70 mo_X12_in sp_X12_in rfl rfl rfl rfl ?_
  obtain ⟨z, hz⟩ : ∃ z, inB x 1 90 = z := ⟨_, rfl⟩
  rw [hz]
  cases z with
  | false =>
    refine a_if_ne rfl (fun c => absurd rfl c) (fun _ => ?_)
    refine a_s rfl rfl ?_
    refine a_goto rfl ?_
    refine a_s rfl rfl ?_
    refine a_eV1 rfl lX12_243 mo_X12_throwsIf (h_throwsIf (z := true)) rfl rfl rfl ⟨12, _, rfl, rfl, rfl⟩ rfl ?_
    rw [if_pos rfl]
    refine a_if_eq rfl (fun c => absurd c (by decide)) (fun _ => ?_)
    refine a_s rfl rfl ?_
    exact a_iret rfl rfl ⟨0, rfl, Or.inl ⟨rfl, rfl⟩⟩
  | true =>
    refine a_if_ne rfl (fun _ => ?_) (fun c => absurd c (by decide))
    refine a_s rfl rfl ?_
    refine a_s rfl rfl ?_
    refine a_eV1 rfl lX12_243 mo_X12_throwsIf (h_throwsIf (z := false)) rfl rfl rfl ⟨12, _, rfl, rfl, rfl⟩ rfl ?_
    rw [if_neg Bool.false_ne_true]
    refine a_if_eq rfl (fun _ => ?_) (fun c => absurd rfl c)
    obtain ⟨z1, z2⟩ := of_decide_eq_true hz
    obtain ⟨m, m1, m2, em⟩ : ∃ m, 1 ≤ m ∧ m ≤ 90 ∧ x = nI m := by
      rw [Int32.le_iff_toInt_le] at z1 z2
      have z1 : (1 : Int) ≤ x.toInt := z1
      have z2 : x.toInt ≤ 90 := z2
      refine ⟨x.toInt.toNat, by omega, by omega, ?_⟩
      rw [← Int32.toInt_inj, nI_toInt (by omega)]
      omega
    subst em
    refine a_l0 rfl rfl rfl ?_
    refine a_eV0 rfl lX12_357 mo_X12_remembers (h_remembers er0 hr12) rfl rfl rfl ⟨12, _, rfl, rfl, rfl⟩ rfl ?_
    have e22 : remH (up2 I 420 0 0) r 421 = I 421 := remH_421.trans e21
    refine a_l0 rfl rfl rfl ?_
    refine a_l1 rfl rfl rfl ?_
    refine a_s rfl rfl ?_
    refine a_gV rfl lX12_388 mo_X12_goesOn (h_goesOn (calm := false) (m := m) e22 hG hL hN m2) rfl rfl rfl ⟨12, _, rfl, rfl, rfl⟩ rfl (fun v' h' hv => ?_)
    obtain ⟨y, rfl, J, rfl, hf, eJ⟩ := hv
    exact a_iret rfl rfl ⟨y, rfl, Or.inr ⟨m, m1, m2, rfl, J, rfl, hf, eJ⟩⟩
end T79zf
end
section
/-! ===== days and call of the class ===== -/
section T79zg
variable {S : aS} {I : Nat → Nat → Int32} {L : Nat → Nat → Int64} {w1 w2 t : Nat} {nl len n fa : Nat} {cd fa' fn : Nat → Nat} {W : Nat → Int32}
set_option maxRecDepth 100000
theorem f_days (hD : Sd I 235 W) (hLg : Lg I 235 W) (hG : Rg W) (hL : LwS I 246 W nl len cd fa' fn) (hN : LwN W nl) (h13 : I 200 13 = nI n) (hn : n ≤ 12) (h12 : I 200 12 = nI fa) (hf : fa < 12) {x : Int32} : Sp S m_X11_days 20 1 6 [.ref 200, .int x] (hp I L w1 w2 t) (fun v h' => ∃ y, v = some (.int y) ∧ ∃ m, 1 ≤ m ∧ m ≤ 90 ∧ x = nI m ∧ ∃ J, h' = hp J L w1 w2 t ∧ (∀ q, (q < 235 ∨ 245 < q) → q ≠ 252 → q ≠ 253 → J q = reS I n fa q) ∧ Sd J 235 (dsW false cd fa' fn nl W m) ∧ Lg J 235 (dsW false cd fa' fn nl W m)) (fun E h' => E = exN 1 ∧ inB x 1 90 = false ∧ h' = hp I L w1 w2 0) := by
  have ok0 : DsOk nl W W := ⟨hG, rfl, rfl, hN, rfl, fun _ _ => rfl⟩
  refine Sp_of ok_X11_days rfl rfl ?_
  show AW S m_X11_days 20 _ _ 1 6 0 [some (.ref 200), some (.int x), none, none] [] (hp I L w1 w2 t)
  refine a_l1 rfl rfl rfl ?_
  refine a_s rfl rfl ?_
  refine a_s rfl rfl ?_
  refine a_callS rfl lX11_250 mo_X11_needNumber (f_needNumber) rfl rfl rfl rfl (fun v' h' hv => ?_) (fun E h' ex => ex)
  obtain ⟨rfl, hz, rfl⟩ := hv
  obtain ⟨z1, z2⟩ := of_decide_eq_true hz
  obtain ⟨m, m1, m2, em⟩ : ∃ m, 1 ≤ m ∧ m ≤ 90 ∧ x = nI m := by
    rw [Int32.le_iff_toInt_le] at z1 z2
    have z1 : (1 : Int) ≤ x.toInt := z1
    have z2 : x.toInt ≤ 90 := z2
    refine ⟨x.toInt.toNat, by omega, by omega, ?_⟩
    rw [← Int32.toInt_inj, nI_toInt (by omega)]
    omega
  subst em
  refine a_l0 rfl rfl rfl ?_
  refine a_eV0 rfl lX11_230 mo_X11_rememberAct (f_remember h13 hn h12 hf) rfl rfl rfl ⟨11, _, rfl, rfl, rfl⟩ rfl ?_
  have rr : ∀ q, q ≠ 200 → q < 288 → reS I n fa q = I q := fun q h1 h2 => reS_row h1 (Or.inl h2)
  have D0 : Sd (reS I n fa) 235 W := Sd.eq hD fun q g1 g2 => rr q (by omega) (by omega)
  have L0 : Lg (reS I n fa) 235 W := Lg.eq hLg (rr 244 (by decide) (by decide)) (rr 245 (by decide) (by decide)) rfl fun _ _ _ => rfl
  have hd3 : reS I n fa 235 3 = nI (dn W) := (Sd.fd D0 (f := 3) (g := 1) (by decide)).trans hG.1.2.2.2
  refine a_l0 rfl rfl rfl ?_
  refine a_getq rfl gfX11_37_11 rfl (rfl) ?_
  refine a_s rfl rfl ?_
  refine a_eV1 rfl lX11_200 mo_X5_bitsIn (sp_X5_bitsIn (nd := dn W) (a := 235) (by decide) hd3 hG.1.2.1) rfl rfl rfl ⟨5, _, rfl, rfl, rfl⟩ rfl ?_
  refine a_s2 rfl rfl rfl rfl rfl rfl ?_
  refine a_s rfl rfl ?_
  refine a_s3 rfl rfl rfl rfl rfl rfl ?_
  generalize hB : inS (dn W) (reS I n fa (235 + 8)) 1 = B
  refine a_inv (n := m) (fun i ls h => ∃ j J, ls = [some (.ref 200), some (.int (nI m)), some (.int B), some (.int (nI j))] ∧ h = hp J L w1 w2 t ∧ j ≤ m ∧ i = m - j ∧ Sd J 235 (dsW false cd fa' fn nl W j) ∧ Lg J 235 (dsW false cd fa' fn nl W j) ∧ ∀ q, (q < 235 ∨ 245 < q) → q ≠ 252 → q ≠ 253 → J q = reS I n fa q) ⟨0, _, rfl, rfl, Nat.zero_le _, rfl, D0, L0, fun _ _ _ _ => rfl⟩ ?_
  rintro i _ _ ⟨j, J, rfl, rfl, hj, hi, DJ, LJ, hfJ⟩ ih
  have okj := dsW_ok (calm := false) (cd := cd) (fa' := fa') (fn := fn) ok0 j
  refine a_l3 rfl rfl rfl ?_
  refine a_l1 rfl rfl rfl ?_
  refine a_ic_ge rfl (fun c => ?_) (fun c => ?_)
  · have hge := nI_ge_of c (by omega) (by omega)
    obtain rfl : j = m := by omega
    have hd9 : J 235 3 = nI (dn W) := ((Sd.fd DJ (f := 3) (g := 1) (by decide)).trans okj.1.1.2.2.2).trans (by rw [okj.2.2.1])
    refine a_l0 rfl rfl rfl ?_
    refine a_getq rfl gfX11_37_11 rfl (rfl) ?_
    refine a_s rfl rfl ?_
    refine a_eV1 rfl lX11_200 mo_X5_bitsIn (sp_X5_bitsIn (nd := dn W) (a := 235) (by decide) hd9 hG.1.2.1) rfl rfl rfl ⟨5, _, rfl, rfl, rfl⟩ rfl ?_
    refine a_l2 rfl rfl rfl ?_
    refine a_s rfl rfl ?_
    refine a_s rfl rfl ?_
    refine a_s rfl rfl ?_
    refine a_eS1 rfl lX11_261 mo_J6_bitCount_0f7a4 (sp_bitCount) rfl rfl rfl rfl ?_
    exact a_iret rfl rfl ⟨_, rfl, j, m1, m2, rfl, J, rfl, hfJ, DJ, LJ⟩
  have hjm := nI_lt_of c (by omega) (by omega)
  have es : dsW false cd fa' fn nl W (j + 1) = dyP cd fa' fn nl (dayW false (gwL cd fa' fn nl) (dsW false cd fa' fn nl W j)) := rfl
  have on : ∀ (K : Nat → Nat → Int32), Sd K 235 (dsW false cd fa' fn nl W (j + 1)) → Lg K 235 (dsW false cd fa' fn nl W (j + 1)) → (∀ q, (q < 235 ∨ 245 < q) → q ≠ 252 → q ≠ 253 → K q = reS I n fa q) → AW S m_X11_days 20 (fun v h' => ∃ y, v = some (.int y) ∧ ∃ m', 1 ≤ m' ∧ m' ≤ 90 ∧ nI m = nI m' ∧ ∃ J, h' = hp J L w1 w2 t ∧ (∀ q, (q < 235 ∨ 245 < q) → q ≠ 252 → q ≠ 253 → J q = reS I n fa q) ∧ Sd J 235 (dsW false cd fa' fn nl W m') ∧ Lg J 235 (dsW false cd fa' fn nl W m')) (fun E h' => E = exN 1 ∧ inB (nI m) 1 90 = false ∧ h' = hp I L w1 w2 0) 0 0 54 [some (.ref 200), some (.int (nI m)), some (.int B), some (.int (nI j))] [] (hp K L w1 w2 t) := by
    intro K hK hLK hfK
    refine a_iv3 (y := nI (j + 1)) rfl rfl rfl ((nI_succ j).symm) ?_
    refine a_goto rfl ?_
    exact ih (m - (j + 1)) _ _ (by omega) ⟨j + 1, K, rfl, rfl, by omega, rfl, hK, hLK, hfK⟩
  generalize dsW false cd fa' fn nl W j = V at DJ LJ okj es
  have lawJ : LwS J 246 V nl len cd fa' fn := LwS.eq hL (fun q g1 g2 => (hfJ q (by omega) (by omega) (by omega)).trans (rr q (by omega) (by omega))) okj.2.2.2.2.1 okj.2.2.2.2.2
  refine a_l0 rfl rfl rfl ?_
  refine a_getq rfl gfX11_37_11 rfl (rfl) ?_
  refine a_l0 rfl rfl rfl ?_
  refine a_getq rfl gfX11_44_11 rfl (rfl) ?_
  refine a_s rfl rfl ?_
  refine a_gV rfl lX11_254 mo_X5_passDay (f_passDay (a := 235) (b := 246) (dr := true) (by decide) (by decide) DJ okj.1 lawJ okj.2.2.2.1) rfl rfl rfl ⟨5, _, rfl, rfl, rfl⟩ rfl (fun v' h' hv => ?_)
  obtain ⟨rfl, K, rfl, hfK, DK⟩ := hv
  have DK : Sd K 235 (dayW false (gwL cd fa' fn nl) V) := DK
  have ok1 : DyOk nl V (dayW false (gwL cd fa' fn nl) V) := dayW_ok okj.dy
  have LK : Lg K 235 (dayW false (gwL cd fa' fn nl) V) := Lg.eq LJ (hfK 244 (by decide) (by decide) (by decide)) (hfK 245 (by decide) (by decide) (by decide)) (dayW_lg okj.dy (Or.inl rfl)) fun k h1 _ => dayW_lg okj.dy (Or.inr h1)
  have lawK : LwS K 246 (dayW false (gwL cd fa' fn nl) V) nl len cd fa' fn := LwS.eq lawJ (fun q g1 g2 => hfK q (by omega) (by omega) (by omega)) ok1.2.2.2.2.1 ok1.2.2.2.2.2
  have hfK2 : ∀ q, (q < 235 ∨ 245 < q) → q ≠ 252 → q ≠ 253 → K q = reS I n fa q := fun q g1 g2 g3 => (hfK q (by omega) g2 g3).trans (hfJ q g1 g2 g3)
  generalize dayW false (gwL cd fa' fn nl) V = U at DK ok1 LK lawK es
  refine a_l0 rfl rfl rfl ?_
  refine a_getq rfl gfX11_37_11 rfl (rfl) ?_
  refine a_getiv (v := U 4) rfl gfX11_185_5 rfl (Sd.fd DK (by decide)) ?_
  refine a_s rfl rfl ?_
  refine a_ic_ne rfl (fun c2 => ?_) (fun c2 => ?_)
  · have e : dsW false cd fa' fn nl W (j + 1) = U := by
      rw [es]
      unfold dyP
      rw [if_neg c2]
    exact on K (by rw [e]; exact DK) (by rw [e]; exact LK) hfK2
  have e : dsW false cd fa' fn nl W (j + 1) = ltF cd fa' fn nl U (dn U) := by
    rw [es]
    unfold dyP
    rw [if_pos c2]
  refine a_l0 rfl rfl rfl ?_
  refine a_gV rfl lX11_258 mo_X11_letParadeGoBy (f_parade DK LK ok1.1 lawK) rfl rfl rfl ⟨11, _, rfl, rfl, rfl⟩ rfl (fun v' h' hv => ?_)
  obtain ⟨rfl, N, rfl, hfN, DN, LN⟩ := hv
  exact on N (by rw [e]; exact DN) (by rw [e]; exact LN) (fun q g1 g2 g3 => (hfN q (by omega) (by omega) g2 g3).trans (hfK2 q g1 g2 g3))
theorem f_call (hD : Sd I 235 W) (hG : Rg W) (h13 : I 200 13 = nI n) (hn : n ≤ 12) (h12 : I 200 12 = nI fa) (hf : fa < 12) {x1 : Int32} : Sp S m_X11_call 19 2 12 [.ref 200, .int x1] (hp I L w1 w2 t) (QAc I n fa (vC (dn W) W x1) (passR (dn W) W (ixN x1)) (fun J => up2 (up2 J 239 (ixN x1) 0) 243 (ixN x1) 1) L w1 w2 t) (XAc I (vC (dn W) W x1) [(1, 0), (2, 2)] L w1 w2) := by
  have hd12 := hG.1.2.1
  have hd3 : I 235 3 = nI (dn W) := (Sd.fd hD (f := 3) (g := 1) (by decide)).trans hG.1.2.2.2
  refine Sp_of ok_X11_call rfl rfl ?_
  show AW S m_X11_call 19 _ _ 2 12 0 [some (.ref 200), some (.int x1), none] [] (hp I L w1 w2 t)
  refine a_l0 rfl rfl rfl ?_
  refine a_l1 rfl rfl rfl ?_
  refine a_callV rfl lX11_141 mo_X11_needDuty (f_needDuty hd3 (by omega)) rfl rfl rfl ⟨11, _, rfl, rfl, rfl⟩ rfl (fun v' h' hv => ?_) (fun E h' ex => ?_)
  rotate_left
  · obtain ⟨rfl, hz, rfl⟩ := ex
    exact ⟨⟨_, List.mem_cons_self, (if_neg (by rw [hz]; exact Bool.false_ne_true)), rfl⟩, rfl⟩
  obtain ⟨rfl, hz, rfl⟩ := hv
  obtain ⟨i, hi, rfl⟩ := inB_ix (by omega) hz
  have hx := ixN_nI (i := i) (by omega)
  refine a_l0 rfl rfl rfl ?_
  refine a_getq rfl gfX11_37_11 rfl (rfl) ?_
  refine a_eV1 rfl lX11_220 mo_X5_canBits (sp_X5_canBits (nd := dn W) (a := 235) (by decide) hd3 hd12) rfl rfl rfl ⟨5, _, rfl, rfl, rfl⟩ rfl ?_
  rw [can_same hD hG]
  refine a_l1 rfl rfl rfl ?_
  refine a_eS1 rfl lX11_223 mo_X11_has sp_X11_has rfl rfl rfl rfl ?_
  rw [hasF_bs hd12 hi]
  by_cases cw : canR (dn W) W i = true
  rotate_left
  · rw [Bool.eq_false_iff.mpr cw]
    refine a_if_ne rfl (fun c => absurd rfl c) (fun _ => ?_)
    exact a_throw rfl rfl rfl rfl tX11_ise rfl rfl rfl rfl rfl ⟨⟨_, (List.mem_cons_of_mem _ List.mem_cons_self), ((if_pos hz).trans (if_neg (by rw [hx]; exact cw))), rfl⟩, rfl⟩
  rw [cw]
  refine a_if_ne rfl (fun _ => ?_) (fun c => absurd c (by decide))
  refine a_l0 rfl rfl rfl ?_
  refine a_getq rfl gfX11_37_11 rfl (rfl) ?_
  refine a_l1 rfl rfl rfl ?_
  refine a_eV1 rfl lX11_176 mo_X5_passesOf (sp_X5_passesOf (nd := dn W) (a := 235) (by decide) hd3 hd12) rfl rfl rfl ⟨5, _, rfl, rfl, rfl⟩ rfl ?_
  rw [pass_same hD hG hi]
  refine a_s2 rfl rfl rfl rfl rfl rfl ?_
  refine a_l0 rfl rfl rfl ?_
  refine a_eV0 rfl lX11_230 mo_X11_rememberAct (f_remember h13 hn h12 hf) rfl rfl rfl ⟨11, _, rfl, rfl, rfl⟩ rfl ?_
  refine a_l0 rfl rfl rfl ?_
  refine a_getq rfl gfX11_37_11 rfl (rfl) ?_
  refine a_l1 rfl rfl rfl ?_
  refine a_eV0 rfl lX11_233 mo_X5_finish (sp_X5_finish (a := 235) (by decide)) rfl rfl rfl ⟨5, _, rfl, rfl, rfl⟩ rfl ?_
  have eg : finF (reS I n fa) 235 (nI i) = up2 (up2 (reS I n fa) 239 i 0) 243 i 1 := by
    unfold finF
    rw [setF_nI (show i < 12 by omega) (by decide), setF_nI (show i < 12 by omega) (by decide)]
  rw [eg]
  refine a_l2 rfl rfl rfl ?_
  exact a_iret rfl rfl (QAc.yes ((if_pos hz).trans (if_pos (by rw [hx]; exact cw))) (by rw [hx]) (by rw [hx]))
end T79zg
end
section
/-! ===== what holds of both states between two operations ===== -/
section T79zh
variable {I J : Nat → Nat → Int32} {a b : Nat} {W V : Nat → Int32}
set_option maxRecDepth 100000
/-- the street and the log at a are those that W tells, and W keeps its ranges -/
def Nm (I : Nat → Nat → Int32) (a : Nat) (W : Nat → Int32) : Prop := Sd I a W ∧ Lg I a W ∧ Rg W
/-- the law at b is the one that W tells -/
def Nl (I : Nat → Nat → Int32) (b : Nat) (W : Nat → Int32) : Prop := ∃ nl len cd fa fn, LwS I b W nl len cd fa fn ∧ LwN W nl
def ImS (I : Nat → Nat → Int32) : Prop := (I 200 10 = 0 ∧ I 420 6 = 0) ∨ (¬ I 200 10 = 0 ∧ ¬ I 420 6 = 0 ∧ Nm I 268 (I 422) ∧ Nl I 279 (I 422))
def PsS (I : Nat → Nat → Int32) : Prop := ∃ n fa, n ≤ 12 ∧ fa < 12 ∧ I 200 13 = nI n ∧ I 420 7 = nI n ∧ I 200 12 = nI fa ∧ ∀ i, i < n → Nm I (288 + 11 * ((fa + i) % 12)) (fun k => I 425 (335 * i + k)) ∧ I 425 (335 * i + 3) = I 421 3
def Sim (I : Nat → Nat → Int32) : Prop := Nm I 235 (I 421) ∧ Nl I 246 (I 421) ∧ ImS I ∧ PsS I
theorem Nm.eq (h : Nm I a W) (f : ∀ q, a ≤ q → q ≤ a + 10 → J q = I q) : Nm J a W :=
  ⟨h.1.eq fun q g1 g2 => f q g1 (by omega), h.2.1.eq (f _ (by omega) (by omega)) (f _ (by omega) (by omega)) rfl fun _ _ _ => rfl, h.2.2⟩
theorem Nl.eq (h : Nl I b W) (f : ∀ q, b ≤ q → q ≤ b + 5 → J q = I q) (e3 : V 3 = W 3) (e : ∀ k, 335 ≤ k → V k = W k) : Nl J b V := by
  obtain ⟨nl, len, cd, fa, fn, h1, h2, h3⟩ := h
  refine ⟨nl, len, cd, fa, fn, h1.eq f e3 e, h2, fun n hn => ?_⟩
  rw [show nuW V n = nuW W n from e _ (by omega)]
  exact h3 n hn
theorem Nm.lg (h : Nm I a W) : LgW W := by
  obtain ⟨r, _, h1, _, _, _, h5, _⟩ := h.2.1
  exact ⟨r, h1, h5⟩
theorem Nm.st (h : Nm I a W) : StW W := ⟨_, _, h.2.2.so, h.2.2.fr, h.lg⟩
theorem Nl.lw (h : Nl I b W) : LwW W := by
  obtain ⟨nl, len, cd, fa, fn, h1, _⟩ := h
  exact ⟨nl, len, cd, fa, fn, h1.2.1⟩
theorem Sim.ri (h : Sim I) : RI (dn (I 421)) (pn (I 421)) I := by
  obtain ⟨h1, h2, h3, n, fa, hn, hf, e1, e2, e3, h4⟩ := h
  refine ⟨h1.2.2.so, h1.2.2.fr, h2.lw, h1.lg, ?_, n, hn, e2, fun i hi => ⟨(h4 i hi).1.st, (h4 i hi).2⟩⟩
  rcases h3 with h3 | h3
  · exact Or.inl h3.2
  · exact Or.inr ⟨h3.2.2.1.st, h3.2.2.2.lw⟩
/-- what the relation reads -/
theorem Sim.eq (h : Sim I) (f : ∀ q, 235 ≤ q → q < 420 → (q < 252 ∨ 268 ≤ q) → J q = I q) (f1 : J 421 = I 421) (f2 : J 422 = I 422) (f5 : J 425 = I 425) (g1 : J 200 10 = I 200 10) (g2 : J 200 12 = I 200 12) (g3 : J 200 13 = I 200 13) (g4 : J 420 6 = I 420 6) (g5 : J 420 7 = I 420 7) : Sim J := by
  obtain ⟨h1, h2, h3, n, fa, hn, hf, e1, e2, e3, h4⟩ := h
  unfold Sim ImS PsS
  rw [f1, f2, f5, g1, g2, g3, g4, g5]
  refine ⟨h1.eq fun q k1 k2 => f q (by omega) (by omega) (by omega), h2.eq (fun q k1 k2 => f q (by omega) (by omega) (by omega)) rfl fun _ _ => rfl, ?_, n, fa, hn, hf, e1, e2, e3, fun i hi => ⟨(h4 i hi).1.eq fun q k1 k2 => f q (by omega) (by omega) (by omega), (h4 i hi).2⟩⟩
  rcases h3 with h3 | ⟨k1, k2, k3, k4⟩
  · exact Or.inl h3
  · exact Or.inr ⟨k1, k2, k3.eq fun q k1 k2 => f q (by omega) (by omega) (by omega), k4.eq (fun q k1 k2 => f q (by omega) (by omega) (by omega)) rfl fun _ _ => rfl⟩
end T79zh
end
section
/-! ===== the relation's past: an act remembers on both sides ===== -/
section T79zi
variable {I J : Nat → Nat → Int32} {a b n fa : Nat} {W V : Nat → Int32}
set_option maxRecDepth 100000
theorem Sd.eqW (h : Sd I a W) (e : ∀ k, k < 95 → V k = W k) : Sd I a V := by
  obtain ⟨h1, h2, h3⟩ := h
  have hb : ∀ x ∈ flds, x.2 < 95 := by decide
  refine ⟨fun x hx => ?_, fun p hp => ?_, fun d hd k hk => ?_⟩
  · rw [e _ (hb x hx)]
    exact h1 x hx
  · rw [e _ (by omega), e _ (by omega)]
    exact h2 p hp
  · rw [e _ (by omega)]
    exact h3 d hd k hk
theorem Nm.eqW (h : Nm I a W) (e : ∀ k, k < 335 → V k = W k) : Nm I a V :=
  ⟨h.1.eqW fun k hk => e k (by omega), h.2.1.eq rfl rfl (e 9 (by decide)) fun k _ hk => e k hk, (h.2.2.log fun k hk _ => e k (by omega)).1⟩
theorem Nm.at (h : Nm I b W) (f : ∀ i, i ≤ 10 → J (a + i) = I (b + i)) : Nm J a W := by
  refine ⟨?_, ?_, h.2.2⟩
  · obtain ⟨h1, h2, h3⟩ := h.1
    refine ⟨fun x hx => ?_, fun p hp => ?_, fun d hd k hk => ?_⟩
    · rw [show J a = I b from f 0 (by decide)]
      exact h1 x hx
    · rw [f 1 (by decide), f 2 (by decide)]
      exact h2 p hp
    · rw [Nat.add_assoc, f (3 + k) (by omega), ← Nat.add_assoc]
      exact h3 d hd k hk
  · obtain ⟨r, m, h1, h2, h3, h4, h5, h6⟩ := h.2.1
    refine ⟨r, m, h1, h2, by rw [f 9 (by decide)]; exact h3, by rw [f 9 (by decide)]; exact h4, h5, fun k hk j hj => ?_⟩
    rw [f 10 (by decide)]
    exact h6 k hk j hj
def PsN (I : Nat → Nat → Int32) (n fa : Nat) : Prop := n ≤ 12 ∧ fa < 12 ∧ I 200 13 = nI n ∧ I 420 7 = nI n ∧ I 200 12 = nI fa ∧ ∀ i, i < n → Nm I (288 + 11 * ((fa + i) % 12)) (fun k => I 425 (335 * i + k)) ∧ I 425 (335 * i + 3) = I 421 3
theorem remH_7 : remH I n 420 7 = (if n = 12 then I 420 7 else nI (n + 1)) := by
  unfold remH
  by_cases e : n = 12
  · rw [if_pos e, if_pos e, cpR_row (by decide), cpR_row (by decide)]
  · rw [if_neg e, if_neg e, cpR_row (by decide), up2_at]
theorem PsN.rem (h : PsN I n fa) (hn : Nm I 235 (I 421)) (f : ∀ q, 288 ≤ q → q < 420 → J q = reS I n fa q) (g2 : J 200 12 = reS I n fa 200 12) (g3 : J 200 13 = reS I n fa 200 13) (f5 : J 425 = remH I n 425) (g7 : J 420 7 = remH I n 420 7) (f3 : J 421 3 = I 421 3) : PsS J := by
  obtain ⟨h1, h2, e1, e2, e3, h4⟩ := h
  rw [remH_7] at g7
  by_cases e : n = 12
  · subst e
    rw [if_pos rfl, e2] at g7
    unfold reS at g2 g3 f
    rw [if_pos rfl] at g2 g3
    unfold remH at f5
    rw [if_pos rfl] at f5
    refine ⟨12, (fa + 1) % 12, by decide, by omega, g3.trans (up2_at), g7, ?_, fun i hi => ?_⟩
    · rw [g2, up2_ne (by decide), cpS_out (by omega), up2_ne (by decide), up2_at]
    have hb : ∀ k, k < 335 → J 425 (335 * i + k) = if i < 11 then I 425 (335 * (i + 1) + k) else I 421 k := by
      intro k hk
      rw [f5]
      by_cases h11 : i < 11
      · rw [if_pos h11, cpR_out (by omega), show 335 * i + k = 0 + (335 * i + k) by omega, cpR_in (by omega), show 335 * i + k + 335 = 335 * (i + 1) + k by omega]
      · obtain rfl : i = 11 := by omega
        rw [if_neg h11, cpR_in (by omega), cpR_row (by decide)]
        rfl
    by_cases h11 : i < 11
    · have ha := h4 (i + 1) (by omega)
      refine ⟨?_, ?_⟩
      · refine Nm.eqW (W := fun k => I 425 (335 * (i + 1) + k)) ?_ fun k hk => by rw [hb k hk, if_pos h11]
        refine ha.1.at fun j hj => ?_
        rw [f _ (by omega) (by omega), if_pos rfl, up2_row (by omega), cpS_out (by omega), up2_row (by omega), up2_row (by omega)]
        congr 1
        omega
      · rw [hb 3 (by decide), if_pos h11, f3]
        exact ha.2
    · obtain rfl : i = 11 := by omega
      refine ⟨?_, ?_⟩
      · refine Nm.eqW (W := I 421) ?_ fun k hk => by rw [hb k hk, if_neg h11]
        refine hn.at fun j hj => ?_
        rw [f _ (by omega) (by omega), if_pos rfl, up2_row (by omega), cpS_in (by omega), up2_row (by omega), up2_row (by omega)]
      · rw [hb 3 (by decide), if_neg h11, f3]
  · rw [if_neg e] at g7
    unfold reS at g2 g3 f
    rw [if_neg e] at g2 g3
    unfold remH at f5
    rw [if_neg e] at f5
    refine ⟨n + 1, fa, by omega, h2, g3.trans (up2_at), g7, ?_, fun i hi => ?_⟩
    · rw [g2, up2_ne (by decide), cpS_out (by omega), e3]
    have hb : ∀ k, k < 335 → J 425 (335 * i + k) = if i < n then I 425 (335 * i + k) else I 421 k := by
      intro k hk
      rw [f5]
      by_cases h11 : i < n
      · rw [if_pos h11, cpR_out (by omega), up2_row (by decide)]
      · obtain rfl : i = n := by omega
        rw [if_neg h11, cpR_in (by omega), up2_row (by decide)]
        rfl
    by_cases h11 : i < n
    · have ha := h4 i h11
      refine ⟨?_, ?_⟩
      · refine Nm.eqW (W := fun k => I 425 (335 * i + k)) ?_ fun k hk => by rw [hb k hk, if_pos h11]
        refine ha.1.at fun j hj => ?_
        rw [f _ (by omega) (by omega), if_neg e, up2_row (by omega), cpS_out (by omega)]
      · rw [hb 3 (by decide), if_pos h11, f3]
        exact ha.2
    · obtain rfl : i = n := by omega
      refine ⟨?_, ?_⟩
      · refine Nm.eqW (W := I 421) ?_ fun k hk => by rw [hb k hk, if_neg h11]
        refine hn.at fun j hj => ?_
        rw [f _ (by omega) (by omega), if_neg e, up2_row (by omega), cpS_in (by omega)]
      · rw [hb 3 (by decide), if_neg h11, f3]
end T79zi
end
