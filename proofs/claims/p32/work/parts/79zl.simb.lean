/-! ===== the relation is kept by back ===== -/
section T79zl
variable {I J : Nat → Nat → Int32} {a b n fa : Nat} {W V : Nat → Int32}
set_option maxRecDepth 100000
theorem Sim.back (h : Sim I) (c : ¬ I 200 10 = 0) : ¬ I 420 6 = 0 ∧ Sim (bkH (bkS I)) := by
  obtain ⟨_, _, h3, n, fa, hn, hf, e1, e2, e3, h4⟩ := h
  rcases h3 with h3 | ⟨_, c6, m1, m2⟩
  · exact absurd h3.1 c
  refine ⟨c6, ?_⟩
  generalize hK : bkH (bkS I) = K
  have row : ∀ q, q ≠ 200 → q ≠ 420 → q ≠ 421 → (q < 235 ∨ 251 < q) → K q = I q := by
    intro q k1 k2 k3 k4
    rw [← hK]
    unfold bkH bkS cpL
    rw [up2_row k2, cpR_row k3, up2_row k2, up2_row k1, up2_row (by omega), cpS_out (by omega), cpS_out (by omega)]
  have r2 : ∀ k, k ≠ 13 → K 200 k = I 200 k := by
    intro k hk
    rw [← hK]
    unfold bkH bkS cpL
    rw [up2_row (by decide), cpR_row (by decide), up2_row (by decide), up2_ne (Or.inr hk), up2_row (by decide), cpS_out (by omega), cpS_out (by omega)]
  have r4 : ∀ k, k ≠ 0 → k ≠ 7 → K 420 k = I 420 k := by
    intro k hk h6
    rw [← hK]
    unfold bkH bkS cpL
    rw [up2_ne (Or.inr h6), cpR_row (by decide), up2_ne (Or.inr hk), up2_row (by decide), up2_row (by decide), cpS_out (by omega), cpS_out (by omega)]
  have lo : ∀ k, k < 1184 → K 421 k = I 422 k := by
    intro k hk
    have hh := cpR_in (I := up2 (bkS I) 420 0 0) (p := 421) (a := 0) (q := 422) (b := 0) (n := 1184) hk
    rw [Nat.zero_add] at hh
    rw [← hK]
    unfold bkH
    rw [up2_row (by decide), hh, up2_row (by decide)]
    unfold bkS cpL
    rw [up2_row (by decide), up2_row (by decide), cpS_out (by omega), cpS_out (by omega)]
    rfl
  have now : ∀ i, i ≤ 10 → K (235 + i) = I (268 + i) := by
    intro i hi
    rw [← hK]
    unfold bkH bkS cpL
    rw [up2_row (by omega), cpR_row (by omega), up2_row (by omega), up2_row (by omega), up2_row (by omega), cpS_out (by omega), cpS_in (by omega)]
  have law : ∀ i, 1 ≤ i → i ≤ 5 → K (246 + i) = I (279 + i) := by
    intro i h1 hi
    rw [← hK]
    unfold bkH bkS cpL
    rw [up2_row (by omega), cpR_row (by omega), up2_row (by omega), up2_row (by omega), up2_row (by omega), show 246 + i = 246 + 1 + (i - 1) by omega, cpS_in (by omega), cpS_out (by omega)]
    congr 1
    omega
  have law0 : K 246 0 = I 279 0 := by
    rw [← hK]
    unfold bkH bkS cpL
    rw [up2_row (by decide), cpR_row (by decide), up2_row (by decide), up2_row (by decide), up2_at, cpS_out (by omega)]
  refine ⟨(m1.at now).eqW fun k hk => lo k (by omega), m2.at law0 law (lo 3 (by decide)) fun k _ hk => lo k hk, Or.inr ⟨?_, ?_, ?_, ?_⟩, 0, fa, by decide, hf, ?_, ?_, ?_, fun i hi => absurd hi (by omega)⟩
  · rw [r2 _ (by decide)]; exact c
  · rw [r4 _ (by decide) (by decide)]; exact c6
  · rw [row 422 (by decide) (by decide) (by decide) (by decide)]
    exact m1.eq fun q g1 g2 => row q (by omega) (by omega) (by omega) (by omega)
  · rw [row 422 (by decide) (by decide) (by decide) (by decide)]
    exact m2.eq (fun q g1 g2 => row q (by omega) (by omega) (by omega) (by omega)) rfl fun _ _ => rfl
  · rw [← hK]
    unfold bkH bkS
    rw [up2_row (by decide), cpR_row (by decide), up2_row (by decide), up2_at]
    decide
  · rw [← hK]
    unfold bkH
    rw [up2_at]
    decide
  · rw [r2 _ (by decide)]; exact e3
end T79zl
