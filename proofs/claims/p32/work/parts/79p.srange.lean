/-! ===== the ranges of a street's numbers; lines of a text keep them ===== -/
section P79p
def Nb (x : Int32) (m : Nat) : Prop := ∃ k, k ≤ m ∧ x = nI k
def Nc (x : Int32) (l m : Nat) : Prop := ∃ k, l ≤ k ∧ k ≤ m ∧ x = nI k
/-- a person -/
def RgP (W : Nat → Int32) (p : Nat) : Prop := Nb (W (11 + 2 * p)) 15 ∧ Nb (W (11 + 2 * p + 1)) 9
/-- a duty: done, if none is left -/
def RgD (np nd : Nat) (W : Nat → Int32) (d : Nat) : Prop := (∃ j, j < np ∧ W (23 + 6 * d + 0) = nI j) ∧ (∃ l, l ≤ 99 ∧ W (23 + 6 * d + 1) = nI l ∧ (W (23 + 6 * d + 5) = 1 ↔ l = 0)) ∧ Nb (W (23 + 6 * d + 2)) 99 ∧ (W (23 + 6 * d + 3) = -1 ∨ Nb (W (23 + 6 * d + 3)) 5) ∧ (W (23 + 6 * d + 4) = -1 ∨ ∃ k, k < nd ∧ W (23 + 6 * d + 4) = nI k) ∧ Nb (W (23 + 6 * d + 5)) 2
def RgF (W : Nat → Int32) : Prop := Nb (W 2) 12 ∧ Nc (W 4) 1 30 ∧ Nb (W 5) 9999 ∧ Nb (W 6) 100 ∧ Nc (W 7) 1 9 ∧ Nb (W 8) 50
def Rg (W : Nat → Int32) : Prop := WOk W ∧ RgF W ∧ (∀ p, p < pn W → RgP W p) ∧ ∀ d, d < dn W → RgD (pn W) (dn W) W d
variable {T : Nat → Int32} {e b : Nat} {W : Nat → Int32}
theorem RgP.eq {W' : Nat → Int32} {p : Nat} (h : RgP W p) (e0 : W' (11 + 2 * p) = W (11 + 2 * p)) (e1 : W' (11 + 2 * p + 1) = W (11 + 2 * p + 1)) : RgP W' p := by
  unfold RgP
  rw [e0, e1]
  exact h
theorem RgD.eq {W' : Nat → Int32} {np nd d : Nat} (h : RgD np nd W d) (f : ∀ k, k < 6 → W' (23 + 6 * d + k) = W (23 + 6 * d + k)) : RgD np nd W' d := by
  unfold RgD
  rw [f 0 (by decide), f 1 (by decide), f 2 (by decide), f 3 (by decide), f 4 (by decide), f 5 (by decide)]
  exact h
theorem RgD.mo {np nd np' nd' d : Nat} (h : RgD np nd W d) (h1 : np ≤ np') (h2 : nd ≤ nd') : RgD np' nd' W d := by
  obtain ⟨⟨j, a1, a2⟩, a3, a4, a5, a6, a7⟩ := h
  refine ⟨⟨j, by omega, a2⟩, a3, a4, a5, ?_, a7⟩
  rcases a6 with z | ⟨k, z1, z2⟩
  · exact Or.inl z
  · exact Or.inr ⟨k, by omega, z2⟩
theorem RgF.eq {W' : Nat → Int32} (h : RgF W) (f : ∀ k, k < 9 → 2 ≤ k → W' k = W k) : RgF W' := by
  unfold RgF
  rw [f 2 (by decide) (by decide), f 4 (by decide) (by decide), f 5 (by decide) (by decide), f 6 (by decide) (by decide), f 7 (by decide) (by decide), f 8 (by decide) (by decide)]
  exact h
theorem Rg.of {np nd : Nat} (h1 : np ≤ 6) (h2 : nd ≤ 12) (h3 : W 0 = nI np) (h4 : W 1 = nI nd) (h5 : RgF W) (h6 : ∀ p, p < np → RgP W p) (h7 : ∀ d, d < nd → RgD np nd W d) : Rg W := by
  obtain ⟨w, e0, e1⟩ := WOk.of h1 h2 h3 h4
  refine ⟨w, h5, fun p hp => h6 p (by omega), fun d hd => ?_⟩
  rw [e0, e1]
  exact h7 d (by omega)
theorem Rg.so (h : Rg W) : SO (dn W) (pn W) W := by
  obtain ⟨⟨h1, h2, h3, h4⟩, ⟨-, -, -, -, ⟨k7, k71, k79, k7e⟩, -⟩, -, h7⟩ := h
  refine ⟨h2, h1, h4, h3, fun d hd => (h7 d hd).2.2.2.2.1, fun d hd => (h7 d hd).1, fun d hd => ?_, fun z => ?_⟩
  · rcases (h7 d hd).2.2.2.1 with z | ⟨k, z1, z2⟩
    · exact Or.inl z
    · exact Or.inr ⟨k, by omega, z2⟩
  · rw [k7e] at z
    have := (nI_eq0 (a := k7) (by omega)).mp z
    omega
theorem Rg.fr (h : Rg W) : FrW (pn W) W := fun p hp => by
  obtain ⟨k, k1, k2⟩ := (h.2.2.1 p hp).2
  exact ⟨k, k1, k2⟩
theorem nm_rg {l m : Nat} (hm : m < 2 ^ 31) (hl : l ≤ m) (h : ¬ nm T e b (nI l) (nI m) = -1) : Nc (nm T e b (nI l) (nI m)) l m := by
  obtain ⟨h1, h2, -, -⟩ := nm_in h
  generalize nm T e b (nI l) (nI m) = v at h1 h2 ⊢
  rw [Int32.le_iff_toInt_le, nI_toInt (by omega)] at h1 h2
  refine ⟨v.toInt.toNat, by omega, by omega, ?_⟩
  rw [← Int32.toInt_inj, nI_toInt (by omega)]
  omega
theorem Nc.nb {x : Int32} {l m : Nat} (h : Nc x l m) : Nb x m := by
  obtain ⟨k, -, k2, k3⟩ := h
  exact ⟨k, k2, k3⟩
theorem nbP_in {k : Nat} {lo hi : Int32} (h : ¬ (nbP T e k lo hi b).1 = -1) : (nbP T e k lo hi b).1 = nm T e (nx T e b) lo hi ∧ ¬ nm T e (nx T e b) lo hi = -1 := by
  unfold nbP at h ⊢
  by_cases c : isWd T e b k = true
  · rw [if_pos c] at h ⊢
    by_cases c2 : nm T e (nx T e b) lo hi = -1
    · rw [if_pos c2] at h
      exact absurd rfl h
    · rw [if_neg c2]
      exact ⟨rfl, c2⟩
  · rw [if_neg c] at h
    exact absurd rfl h
theorem optP_in {k : Nat} {lo hi d : Int32} (h : (optP T e k lo hi d b).1 = true) : (optP T e k lo hi d b).2.1 = d ∨ ((optP T e k lo hi d b).2.1 = nm T e (nx T e b) lo hi ∧ ¬ nm T e (nx T e b) lo hi = -1) := by
  unfold optP at h ⊢
  by_cases c : isWd T e b k = true
  · rw [if_pos c] at h ⊢
    by_cases c2 : nm T e (nx T e b) lo hi = -1
    · rw [if_pos c2] at h
      cases h
    · rw [if_neg c2]
      exact Or.inr ⟨rfl, c2⟩
  · rw [if_neg c]
    exact Or.inl rfl
theorem addPs_rg (h : Rg W) (h6 : ¬ W 0 = 6) {x y : Int32} (hx : Nb x 15) (hy : Nb y 9) : Rg (addPs W x y) := by
  obtain ⟨⟨h1, h2, h3, h4⟩, hf, hp, hd⟩ := h
  have n6 : pn W ≠ 6 := fun z => h6 (by rw [h3, z]; rfl)
  have e : ∀ k, k ≠ 0 → k ≠ 11 + 2 * pn W → k ≠ 11 + 2 * pn W + 1 → addPs W x y k = W k := fun k z0 z1 z2 => by
    show ud (ud (ud W (11 + 2 * pn W) x) (11 + 2 * pn W + 1) y) 0 (nI (pn W + 1)) k = _
    rw [ud_ne z0, ud_ne z2, ud_ne z1]
  refine Rg.of (np := pn W + 1) (nd := dn W) (by omega) h2 ud_at ((e 1 (by decide) (by omega) (by omega)).trans h4) (hf.eq fun k z1 z2 => e k (by omega) (by omega) (by omega)) (fun p z => ?_) (fun d z => ?_)
  · by_cases c : p = pn W
    · subst c
      refine ⟨?_, ?_⟩
      · rw [show addPs W x y (11 + 2 * pn W) = x by show ud (ud (ud W (11 + 2 * pn W) x) (11 + 2 * pn W + 1) y) 0 (nI (pn W + 1)) _ = _; rw [ud_ne (by omega), ud_ne (by omega), ud_at]]
        exact hx
      · rw [show addPs W x y (11 + 2 * pn W + 1) = y by show ud (ud (ud W (11 + 2 * pn W) x) (11 + 2 * pn W + 1) y) 0 (nI (pn W + 1)) _ = _; rw [ud_ne (by omega), ud_at]]
        exact hy
    · exact (hp p (by omega)).eq (e _ (by omega) (by omega) (by omega)) (e _ (by omega) (by omega) (by omega))
  · exact ((hd d z).eq fun k hk => e _ (by omega) (by omega) (by omega)).mo (by omega) (Nat.le_refl _)
theorem addDt_rg (h : Rg W) (h12 : ¬ W 1 = 12) {o l a t n : Int32} (ho : ∃ j, j < pn W ∧ o = nI j) (hl : Nc l 1 99) (ha : Nb a 99) (ht : t = -1 ∨ Nb t 5) (hn : n = -1 ∨ ∃ k, k < dn W ∧ n = nI k) : Rg (addDt W o l a t n) := by
  obtain ⟨⟨h1, h2, h3, h4⟩, hf, hp, hd⟩ := h
  have n12 : dn W ≠ 12 := fun z => h12 (by rw [h4, z]; rfl)
  have e : ∀ k, k ≠ 1 → (∀ i, i < 6 → k ≠ 23 + 6 * dn W + i) → addDt W o l a t n k = W k := fun k z0 z => by
    have z1 := z 0 (by decide)
    have z2 := z 1 (by decide)
    have z3 := z 2 (by decide)
    have z4 := z 3 (by decide)
    have z5 := z 4 (by decide)
    have z6 := z 5 (by decide)
    unfold addDt
    rw [ud_ne z0, ud_ne z6, ud_ne z5, ud_ne z4, ud_ne z3, ud_ne z2, ud_ne z1]
  refine Rg.of (np := pn W) (nd := dn W + 1) h1 (by omega) ((e 0 (by decide) (fun i hi => by omega)).trans h3) ud_at (hf.eq fun k z1 z2 => e k (by omega) (fun i hi => by omega)) (fun p z => ?_) (fun d z => ?_)
  · exact (hp p z).eq (e _ (by omega) (fun i hi => by omega)) (e _ (by omega) (fun i hi => by omega))
  · by_cases c : d = dn W
    · subst c
      have f0 : addDt W o l a t n (23 + 6 * dn W + 0) = o := by unfold addDt; rw [ud_ne (by omega), ud_ne (by omega), ud_ne (by omega), ud_ne (by omega), ud_ne (by omega), ud_ne (by omega), ud_at]
      have f1 : addDt W o l a t n (23 + 6 * dn W + 1) = l := by unfold addDt; rw [ud_ne (by omega), ud_ne (by omega), ud_ne (by omega), ud_ne (by omega), ud_ne (by omega), ud_at]
      have f2 : addDt W o l a t n (23 + 6 * dn W + 2) = a := by unfold addDt; rw [ud_ne (by omega), ud_ne (by omega), ud_ne (by omega), ud_ne (by omega), ud_at]
      have f3 : addDt W o l a t n (23 + 6 * dn W + 3) = t := by unfold addDt; rw [ud_ne (by omega), ud_ne (by omega), ud_ne (by omega), ud_at]
      have f4 : addDt W o l a t n (23 + 6 * dn W + 4) = n := by unfold addDt; rw [ud_ne (by omega), ud_ne (by omega), ud_at]
      have f5 : addDt W o l a t n (23 + 6 * dn W + 5) = 0 := by unfold addDt; rw [ud_ne (by omega), ud_at]
      unfold RgD
      rw [f0, f1, f2, f3, f4, f5]
      obtain ⟨k, k1, k2, k3⟩ := hl
      refine ⟨ho, ⟨k, k2, k3, ⟨fun z => absurd z (by decide), fun z => by omega⟩⟩, ha, ht, ?_, ⟨0, by decide, rfl⟩⟩
      rcases hn with z | ⟨k, z1, z2⟩
      · exact Or.inl z
      · exact Or.inr ⟨k, by omega, z2⟩
    · exact ((hd d (by omega)).eq fun k hk => e _ (by omega) (fun i hi => by omega)).mo (Nat.le_refl _) (by omega)
theorem perP_rg (h : Rg W) (hz : (perP T e b W).1 = true) : Rg (perP T e b W).2.2 := by
  unfold perP at hz ⊢
  by_cases c : W 0 = 6
  · rw [if_pos c] at hz
    cases hz
  rw [if_neg c] at hz ⊢
  unfold perB at hz ⊢
  by_cases c2 : (nbP T e 1 0 15 (nx T e b)).1 = -1
  · rw [if_pos c2] at hz
    cases hz
  rw [if_neg c2] at hz ⊢
  unfold perC at hz ⊢
  by_cases c3 : (nbP T e 2 0 9 (nbP T e 1 0 15 (nx T e b)).2).1 = -1
  · rw [if_pos c3] at hz
    cases hz
  rw [if_neg c3] at hz ⊢
  obtain ⟨i1, i2⟩ := nbP_in c2
  obtain ⟨j1, j2⟩ := nbP_in c3
  refine addPs_rg h c ?_ ?_
  · rw [i1]
    exact Nc.nb (nm_rg (l := 0) (m := 15) (by decide) (by decide) i2)
  · rw [j1]
    exact Nc.nb (nm_rg (l := 0) (m := 9) (by decide) (by decide) j2)
theorem dutP_rg (h : Rg W) (hz : (dutP T e b W).1 = true) : Rg (dutP T e b W).2.2 := by
  have hw := h.1
  unfold dutP at hz ⊢
  by_cases c : W 1 = 12
  · rw [if_pos c] at hz
    cases hz
  rw [if_neg c] at hz ⊢
  have i1 := nbP_in (T := T) (e := e) (b := nx T e b) (k := 4) (lo := 0) (hi := W 0 - 1)
  have i2 := nm_ix (T := T) (e := e) (b := nx T e (nx T e b)) (n := pn W) (by have := hw.1; omega)
  rw [← hw.2.2.1] at i2
  generalize nbP T e 4 0 (W 0 - 1) (nx T e b) = x at hz i1 ⊢
  unfold duA at hz ⊢
  by_cases c2 : x.1 = -1
  · rw [if_pos c2] at hz
    cases hz
  rw [if_neg c2] at hz ⊢
  obtain ⟨i3, i4⟩ := i1 c2
  have j1 := nbP_in (T := T) (e := e) (b := x.2) (k := 5) (lo := 1) (hi := 99)
  have j2 := nm_rg (T := T) (e := e) (b := nx T e x.2) (l := 1) (m := 99) (by decide) (by decide)
  generalize nbP T e 5 1 99 x.2 = y at hz j1 ⊢
  unfold duB at hz ⊢
  by_cases c3 : y.1 = -1
  · rw [if_pos c3] at hz
    cases hz
  rw [if_neg c3] at hz ⊢
  obtain ⟨j3, j4⟩ := j1 c3
  have k1 := optP_in (T := T) (e := e) (b := y.2) (k := 6) (lo := 0) (hi := 99) (d := 0)
  have k2 := nm_rg (T := T) (e := e) (b := nx T e y.2) (l := 0) (m := 99) (by decide) (by decide)
  generalize optP T e 6 0 99 0 y.2 = u at hz k1 ⊢
  unfold duC at hz ⊢
  by_cases c4 : u.1 = true
  rotate_left
  · rw [if_neg c4] at hz
    cases hz
  rw [if_pos c4] at hz ⊢
  have l1 := optP_in (T := T) (e := e) (b := u.2.2) (k := 7) (lo := 0) (hi := 5) (d := -1)
  have l2 := nm_rg (T := T) (e := e) (b := nx T e u.2.2) (l := 0) (m := 5) (by decide) (by decide)
  generalize optP T e 7 0 5 (-1) u.2.2 = v at hz l1 ⊢
  unfold duD at hz ⊢
  by_cases c5 : v.1 = true
  rotate_left
  · rw [if_neg c5] at hz
    cases hz
  rw [if_pos c5] at hz ⊢
  have m1 := optP_in (T := T) (e := e) (b := v.2.2) (k := 8) (lo := 0) (hi := W 1 - 1) (d := -1)
  have m2 := nm_ix (T := T) (e := e) (b := nx T e v.2.2) (n := dn W) hw.2.1
  rw [← hw.2.2.2] at m2
  generalize optP T e 8 0 (W 1 - 1) (-1) v.2.2 = w at hz m1 ⊢
  unfold duE at hz ⊢
  by_cases c6 : w.1 = true
  rotate_left
  · rw [if_neg c6] at hz
    cases hz
  rw [if_pos c6] at hz ⊢
  refine addDt_rg h c ?_ ?_ ?_ ?_ ?_
  · rw [i3]
    exact i2 i4
  · rw [j3]
    exact j2 j4
  · rcases k1 c4 with z | ⟨z1, z2⟩
    · exact ⟨0, by decide, z⟩
    · rw [z1]
      exact Nc.nb (k2 z2)
  · rcases l1 c5 with z | ⟨z1, z2⟩
    · exact Or.inl z
    · rw [z1]
      exact Or.inr (Nc.nb (l2 z2))
  · rcases m1 c6 with z | ⟨z1, z2⟩
    · exact Or.inl z
    · rw [z1]
      exact Or.inr (m2 z2)
theorem forP_rg (h : Rg W) (hz : (forP T e b W).1 = true) : Rg (forP T e b W).2.2 := by
  unfold forP at hz ⊢
  by_cases c : nm T e b 0 (W 1 - 1) = -1
  · rw [if_pos c] at hz
    cases hz
  rw [if_neg c] at hz ⊢
  obtain ⟨⟨h1, h2, h3, h4⟩, hf, hp, hd⟩ := h
  obtain ⟨j, hj, ej⟩ := nm_ix h2 (by rw [← h4]; exact c)
  rw [← h4] at ej
  rw [ej, nI_clamp (by omega)] at hz ⊢
  by_cases c2 : W (23 + 6 * j + 5) = 0
  rotate_left
  · rw [if_neg c2] at hz
    cases hz
  rw [if_pos c2] at hz ⊢
  have e : ∀ k, k ≠ 23 + 6 * j + 5 → ud W (23 + 6 * j + 5) 2 k = W k := fun k hk => ud_ne hk
  refine Rg.of h1 h2 ((e 0 (by omega)).trans h3) ((e 1 (by omega)).trans h4) (hf.eq fun k z1 z2 => e k (by omega)) (fun p z => (hp p z).eq (e _ (by omega)) (e _ (by omega))) (fun d z => ?_)
  by_cases cd : d = j
  · subst cd
    obtain ⟨a1, ⟨l, a2, a3, a4⟩, a5, a6, a7, a8⟩ := hd d hj
    show RgD (pn W) (dn W) (ud W (23 + 6 * d + 5) 2) d
    unfold RgD
    rw [e (23 + 6 * d + 0) (by omega), e (23 + 6 * d + 1) (by omega), e (23 + 6 * d + 2) (by omega), e (23 + 6 * d + 3) (by omega), e (23 + 6 * d + 4) (by omega)]
    show _ ∧ (∃ l, l ≤ 99 ∧ _ ∧ (ud W (23 + 6 * d + 5) 2 (23 + 6 * d + 5) = 1 ↔ l = 0)) ∧ _ ∧ _ ∧ _ ∧ Nb (ud W (23 + 6 * d + 5) 2 (23 + 6 * d + 5)) 2
    rw [ud_at]
    refine ⟨a1, ⟨l, a2, a3, ⟨fun z => absurd z (by decide), fun z => ?_⟩⟩, a5, a6, a7, ⟨2, Nat.le_refl _, rfl⟩⟩
    have := a4.mpr z
    rw [c2] at this
    exact absurd this (by decide)
  · exact (hd d z).eq fun k hk => e _ (by omega)
theorem setP_rg (h : Rg W) {g : Nat} {l m : Nat} (hm : m < 2 ^ 31) (hl : l ≤ m) (hg : 2 ≤ g) (hg2 : g < 9) (hr : ∀ v, Nc v l m → RgF (ud W g v)) (hz : (setP T e b W g (nI l) (nI m)).1 = true) : Rg (setP T e b W g (nI l) (nI m)).2.2 := by
  unfold setP at hz ⊢
  by_cases c : nm T e b (nI l) (nI m) = -1
  · rw [if_pos c] at hz
    cases hz
  rw [if_neg c]
  obtain ⟨⟨h1, h2, h3, h4⟩, hf, hp, hd⟩ := h
  have e : ∀ k, k ≠ g → ud W g (nm T e b (nI l) (nI m)) k = W k := fun k hk => ud_ne hk
  exact Rg.of h1 h2 ((e 0 (by omega)).trans h3) ((e 1 (by omega)).trans h4) (hr _ (nm_rg hm hl c)) (fun p z => (hp p z).eq (e _ (by omega)) (e _ (by omega))) (fun d z => (hd d z).eq fun k hk => e _ (by omega))
theorem stgP_rg (h : Rg W) (hz : (stgP T e b W).1 = true) : Rg (stgP T e b W).2.2 := by
  obtain ⟨f2, f4, f5, f6, f7, f8⟩ := h.2.1
  have u : ∀ {g k : Nat} {v : Int32}, k ≠ g → ud W g v k = W k := fun z => ud_ne z
  unfold stgP at hz ⊢
  by_cases c : isWd T e b 10 = true
  · rw [if_pos c] at hz ⊢
    refine setP_rg (l := 0) (m := 100) h (by decide) (by decide) (by decide) (by decide) (fun v hv => ?_) hz
    unfold RgF
    rw [u (show 2 ≠ 6 by decide), u (show 4 ≠ 6 by decide), u (show 5 ≠ 6 by decide), ud_at, u (show 7 ≠ 6 by decide), u (show 8 ≠ 6 by decide)]
    exact ⟨f2, f4, f5, Nc.nb hv, f7, f8⟩
  rw [if_neg c] at hz ⊢
  by_cases c : isWd T e b 11 = true
  · rw [if_pos c] at hz ⊢
    refine setP_rg (l := 1) (m := 9) h (by decide) (by decide) (by decide) (by decide) (fun v hv => ?_) hz
    unfold RgF
    rw [u (show 2 ≠ 7 by decide), u (show 4 ≠ 7 by decide), u (show 5 ≠ 7 by decide), u (show 6 ≠ 7 by decide), ud_at, u (show 8 ≠ 7 by decide)]
    exact ⟨f2, f4, f5, f6, hv, f8⟩
  rw [if_neg c] at hz ⊢
  by_cases c : isWd T e b 12 = true
  · rw [if_pos c] at hz ⊢
    refine setP_rg (l := 0) (m := 50) h (by decide) (by decide) (by decide) (by decide) (fun v hv => ?_) hz
    unfold RgF
    rw [u (show 2 ≠ 8 by decide), u (show 4 ≠ 8 by decide), u (show 5 ≠ 8 by decide), u (show 6 ≠ 8 by decide), u (show 7 ≠ 8 by decide), ud_at]
    exact ⟨f2, f4, f5, f6, f7, Nc.nb hv⟩
  rw [if_neg c] at hz ⊢
  by_cases c : isWd T e b 13 = true
  · rw [if_pos c] at hz ⊢
    refine setP_rg (l := 1) (m := 30) h (by decide) (by decide) (by decide) (by decide) (fun v hv => ?_) hz
    unfold RgF
    rw [u (show 2 ≠ 4 by decide), ud_at, u (show 5 ≠ 4 by decide), u (show 6 ≠ 4 by decide), u (show 7 ≠ 4 by decide), u (show 8 ≠ 4 by decide)]
    exact ⟨f2, hv, f5, f6, f7, f8⟩
  rw [if_neg c] at hz ⊢
  by_cases c : isWd T e b 14 = true
  · rw [if_pos c] at hz ⊢
    refine setP_rg (l := 0) (m := 999) h (by decide) (by decide) (by decide) (by decide) (fun v hv => ?_) hz
    unfold RgF
    rw [u (show 2 ≠ 5 by decide), u (show 4 ≠ 5 by decide), ud_at, u (show 6 ≠ 5 by decide), u (show 7 ≠ 5 by decide), u (show 8 ≠ 5 by decide)]
    obtain ⟨k, k1, k2, k3⟩ := hv
    exact ⟨f2, f4, ⟨k, by omega, k3⟩, f6, f7, f8⟩
  rw [if_neg c] at hz
  cases hz
theorem linP_rg (h : Rg W) (hz : (linP T e b W).1 = true) : Rg (linP T e b W).2.2 := by
  unfold linP at hz ⊢
  by_cases c : isWd T e b 0 = true
  · rw [if_pos c] at hz ⊢; exact perP_rg h hz
  rw [if_neg c] at hz ⊢
  by_cases c : isWd T e b 3 = true
  · rw [if_pos c] at hz ⊢; exact dutP_rg h hz
  rw [if_neg c] at hz ⊢
  by_cases c : isWd T e b 9 = true
  · rw [if_pos c] at hz ⊢; exact forP_rg h hz
  rw [if_neg c] at hz ⊢
  exact stgP_rg h hz
theorem strsP_rg : ∀ (f b : Nat) (W : Nat → Int32), Rg W → (strsP T e f b W).1 = true → Rg (strsP T e f b W).2.2 := by
  intro f
  induction f with
  | zero => exact fun b W h hz => by cases hz
  | succ f ih =>
    intro b W h hz
    rw [strsP_s] at hz ⊢
    have hl := linP_rg (T := T) (e := e) (b := b) h
    generalize linP T e b W = r at hz hl ⊢
    by_cases c1 : r.1 = true
    · rw [if_pos c1] at hz ⊢
      by_cases c2 : r.2.1 < e
      · rw [if_pos c2] at hz ⊢
        by_cases c3 : sg T e r.2.1 59 = true
        · rw [if_pos c3] at hz ⊢
          exact ih _ _ (hl c1) hz
        · rw [if_neg c3] at hz
          cases hz
      · rw [if_neg c2]
        exact hl c1
    · rw [if_neg c1] at hz
      cases hz
theorem strP_rg (h : Rg W) (hz : (strP T e W).1 = true) : Rg (strP T e W).2.2 := by
  unfold strP at hz ⊢
  by_cases c : bg T e 0 < e
  · rw [if_pos c] at hz ⊢
    exact strsP_rg _ _ _ h hz
  · rw [if_neg c]
    exact h
end P79p
