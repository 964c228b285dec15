/-! ===== the relation is kept by image and back ===== -/
section T79zk
variable {I J : Nat → Nat → Int32} {a b n fa : Nat} {W V : Nat → Int32}
set_option maxRecDepth 100000
theorem Nl.at (h : Nl I b W) (f0 : J a 0 = I b 0) (f : ∀ i, 1 ≤ i → i ≤ 5 → J (a + i) = I (b + i)) (e3 : V 3 = W 3) (e : ∀ k, 335 ≤ k → k < 1184 → V k = W k) : Nl J a V := by
  obtain ⟨nl, len, cd, fa, fn, ⟨⟨c1, c2, c3, c4, c5⟩, ⟨r1, _, _, r4, r5⟩, h3, h4⟩, g1, g2⟩ := h
  refine ⟨nl, len, cd, fa, fn, ⟨⟨?_, c2, c3, fun i hi => ?_, fun n hn => ?_⟩, ⟨?_, c2, c3, fun i hi => ?_, fun n hn => ?_⟩, fun n hn => ?_, ?_⟩, g1, fun n hn => ?_⟩
  · rw [f0]
    exact c1
  · rw [f 5 (by decide) (by decide)]
    exact c4 i hi
  · rw [f 3 (by decide) (by decide), f 4 (by decide) (by decide)]
    exact c5 n hn
  · rw [e3, e 335 (by decide) (by decide)]
    exact r1
  · rw [e _ (by omega) (by omega), e _ (by omega) (by omega)]
    exact r4 i hi
  · rw [e _ (by omega) (by omega), e _ (by omega) (by omega)]
    exact r5 n hn
  · rw [f 1 (by decide) (by decide), f 2 (by decide) (by decide), show kiW V n = kiW W n from e _ (by omega) (by omega), show nuW V n = nuW W n from e _ (by omega) (by omega)]
    exact h3 n hn
  · rw [f0, e3]
    exact h4
  · rw [show nuW V n = nuW W n from e _ (by omega) (by omega)]
    exact g2 n hn
theorem Sim.image (h : Sim I) : Sim (imH (imS I)) := by
  obtain ⟨h1, h2, _, n, fa, hn, hf, e1, e2, e3, h4⟩ := h
  generalize hK : imH (imS I) = K
  have row : ∀ q, q ≠ 200 → q ≠ 420 → q ≠ 422 → (q < 268 ∨ 284 < q) → K q = I q := by
    intro q k1 k2 k3 k4
    rw [← hK]
    unfold imH imS cpL
    rw [up2_row k2, cpR_row k3, up2_row k2, up2_row k1, up2_row (by omega), cpS_out (by omega), cpS_out (by omega)]
  have r2 : ∀ k, k ≠ 10 → K 200 k = I 200 k := by
    intro k hk
    rw [← hK]
    unfold imH imS cpL
    rw [up2_row (by decide), cpR_row (by decide), up2_row (by decide), up2_ne (Or.inr hk), up2_row (by decide), cpS_out (by omega), cpS_out (by omega)]
  have r4 : ∀ k, k ≠ 0 → k ≠ 6 → K 420 k = I 420 k := by
    intro k hk h6
    rw [← hK]
    unfold imH imS cpL
    rw [up2_ne (Or.inr h6), cpR_row (by decide), up2_ne (Or.inr hk), up2_row (by decide), up2_row (by decide), cpS_out (by omega), cpS_out (by omega)]
  have lo : ∀ k, k < 1184 → K 422 k = I 421 k := by
    intro k hk
    have hh := cpR_in (I := up2 (imS I) 420 0 0) (p := 422) (a := 0) (q := 421) (b := 0) (n := 1184) hk
    rw [Nat.zero_add] at hh
    rw [← hK]
    unfold imH
    rw [up2_row (by decide), hh, up2_row (by decide)]
    unfold imS cpL
    rw [up2_row (by decide), up2_row (by decide), cpS_out (by omega), cpS_out (by omega)]
    rfl
  have now : ∀ i, i ≤ 10 → K (268 + i) = I (235 + i) := by
    intro i hi
    rw [← hK]
    unfold imH imS cpL
    rw [up2_row (by omega), cpR_row (by omega), up2_row (by omega), up2_row (by omega), up2_row (by omega), cpS_out (by omega), cpS_in (by omega)]
  have law : ∀ i, 1 ≤ i → i ≤ 5 → K (279 + i) = I (246 + i) := by
    intro i h1 hi
    rw [← hK]
    unfold imH imS cpL
    rw [up2_row (by omega), cpR_row (by omega), up2_row (by omega), up2_row (by omega), up2_row (by omega), show 279 + i = 279 + 1 + (i - 1) by omega, cpS_in (by omega), cpS_out (by omega)]
    congr 1
    omega
  have law0 : K 279 0 = I 246 0 := by
    rw [← hK]
    unfold imH imS cpL
    rw [up2_row (by decide), cpR_row (by decide), up2_row (by decide), up2_row (by decide), up2_at, cpS_out (by omega)]
  refine ⟨?_, ?_, Or.inr ⟨?_, ?_, ?_, ?_⟩, n, fa, hn, hf, ?_, ?_, ?_, fun i hi => ?_⟩
  · rw [row 421 (by decide) (by decide) (by decide) (by decide)]
    exact h1.eq fun q g1 g2 => row q (by omega) (by omega) (by omega) (by omega)
  · rw [row 421 (by decide) (by decide) (by decide) (by decide)]
    exact h2.eq (fun q g1 g2 => row q (by omega) (by omega) (by omega) (by omega)) rfl fun _ _ => rfl
  · rw [← hK]
    unfold imH imS
    rw [up2_row (by decide), cpR_row (by decide), up2_row (by decide), up2_at]
    decide
  · rw [← hK]
    unfold imH
    rw [up2_at]
    decide
  · exact (h1.at now).eqW fun k hk => lo k (by omega)
  · exact h2.at law0 law (lo 3 (by decide)) fun k _ hk => lo k hk
  · rw [r2 _ (by decide)]; exact e1
  · rw [r4 _ (by decide) (by decide)]; exact e2
  · rw [r2 _ (by decide)]; exact e3
  · rw [row 421 (by decide) (by decide) (by decide) (by decide), row 425 (by decide) (by decide) (by decide) (by decide)]
    exact ⟨(h4 i hi).1.eq fun q g1 g2 => row q (by omega) (by omega) (by omega) (by omega), (h4 i hi).2⟩
end T79zk
