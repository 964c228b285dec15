/-! ===== the acts keep the ranges ===== -/
section T79zn
variable {I J K : Nat → Nat → Int32} {a b n fa d p : Nat} {W V : Nat → Int32}
set_option maxRecDepth 100000
theorem Rg.du (h : Rg W) (hd : d < dn W) (f : ∀ k, (k < 23 + 6 * d ∨ 23 + 6 * d + 6 ≤ k) → V k = W k) (hv : RgD (pn W) (dn W) V d) : Rg V := by
  obtain ⟨⟨h1, h2, h3, h4⟩, hf, hp, hdd⟩ := h
  refine Rg.of h1 h2 ((f 0 (by omega)).trans h3) ((f 1 (by omega)).trans h4) (hf.eq fun k z1 z2 => f k (by omega)) (fun p z => (hp p z).eq (f _ (by omega)) (f _ (by omega))) (fun e' z => ?_)
  by_cases c : e' = d
  · rw [c]
    exact hv
  · exact (hdd e' z).eq fun k hk => f _ (by omega)
theorem Rg.pu (h : Rg W) (hp : p < pn W) (f : ∀ k, k ≠ 11 + 2 * p + 1 → V k = W k) (hv : Nb (V (11 + 2 * p + 1)) 9) : Rg V := by
  obtain ⟨⟨h1, h2, h3, h4⟩, hf, hpp, hdd⟩ := h
  refine Rg.of h1 h2 ((f 0 (by omega)).trans h3) ((f 1 (by omega)).trans h4) (hf.eq fun k z1 z2 => f k (by omega)) (fun p' z => ?_) (fun e' z => (hdd e' z).eq fun k hk => f _ (by omega))
  by_cases c : p' = p
  · subst c
    have h2 := (hpp p' z).1
    unfold RgP
    rw [f (11 + 2 * p') (by omega)]
    exact ⟨h2, hv⟩
  · exact (hpp p' z).eq (f _ (by omega)) (f _ (by omega))
theorem ix_of {m : Nat} (hm : m ≤ 12) {x : Int32} (h : inB x 0 (nI m - 1) = true) : ixN x < m ∧ x = nI (ixN x) := by
  obtain ⟨j, h1, rfl⟩ := inB_ix (by omega) h
  have e : ixN (nI j) = j := ixN_nI (by omega)
  rw [e]
  exact ⟨h1, rfl⟩
theorem vS_ix {nd : Nat} (hn : nd ≤ 12) {k x : Int32} (h : vS nd W k x = 0) : ixN x < nd ∧ W (23 + 6 * ixN x + 5) = k := by
  unfold vS at h
  by_cases c : inB x 0 (nI nd - 1) = true
  · rw [if_pos c] at h
    by_cases c2 : W (23 + 6 * ixN x + 5) = k
    · exact ⟨(ix_of hn c).1, c2⟩
    · rw [if_neg c2] at h
      exact absurd h (by decide)
  · rw [if_neg c] at h
    exact absurd h (by decide)
theorem mn99_nb {x : Int32} (h : Nb x 99) : Nb (mn 99 (x + 1)) 99 := by
  obtain ⟨k, hk, rfl⟩ := h
  by_cases e : k = 99
  · subst e
    exact ⟨99, by decide, by decide⟩
  · have t : ∀ j, j < 99 → mn 99 (nI j + 1) = nI (j + 1) := by decide +kernel
    exact ⟨k + 1, by omega, t k (by omega)⟩
theorem Nm.put (h : Nm I 235 W) {x : Int32} (c : vS (dn W) W 0 x = 0) : Nm (up2 I 240 (ixN x) (mn 99 (W (23 + 6 * ixN x + 2) + 1))) 235 (ud W (23 + 6 * ixN x + 2) (mn 99 (W (23 + 6 * ixN x + 2) + 1))) := by
  have hG := h.2.2
  have hd := (vS_ix hG.1.2.1 c).1
  have h12 : ixN x < 12 := Nat.lt_of_lt_of_le hd hG.1.2.1
  generalize ixN x = d at *
  refine ⟨Sd.ro (a := 235) (k := 2) h.1 h12 (by decide), h.2.1.eq (up2_row (by decide)) (up2_row (by decide)) (if_neg (by omega)) fun k g1 g2 => if_neg (by omega), hG.du hd (fun k hk => if_neg (by omega)) ?_⟩
  obtain ⟨a0, a1, a2, a3, a4, a5⟩ := hG.2.2.2 d hd
  unfold RgD ud
  rw [if_neg (by omega), if_neg (by omega), if_pos rfl, if_neg (by omega), if_neg (by omega), if_neg (by omega)]
  exact ⟨a0, a1, mn99_nb a2, a3, a4, a5⟩
end T79zn
