/-! ===== the relation is kept by undo, back, image, seed ===== -/
section T79zj
variable {I J : Nat → Nat → Int32} {a b n fa : Nat} {W V : Nat → Int32}
set_option maxRecDepth 100000
theorem ImS.eq (h : ImS I) (f : ∀ q, 268 ≤ q → q < 285 → J q = I q) (f2 : J 422 = I 422) (g1 : J 200 10 = I 200 10) (g4 : J 420 6 = I 420 6) : ImS J := by
  unfold ImS
  rw [f2, g1, g4]
  rcases h with h3 | ⟨k1, k2, k3, k4⟩
  · exact Or.inl h3
  · exact Or.inr ⟨k1, k2, k3.eq fun q k1 k2 => f q (by omega) (by omega), k4.eq (fun q k1 k2 => f q (by omega) (by omega)) rfl fun _ _ => rfl⟩
theorem Sim.thr (h : Sim I) {x : Int32} : Sim (up2 I 420 0 x) := h.eq (fun q _ _ _ => up2_row (by omega)) (up2_row (by decide)) (up2_row (by decide)) (up2_row (by decide)) (up2_ne (by decide)) (up2_ne (by decide)) (up2_ne (by decide)) (up2_ne (by decide)) (up2_ne (by decide))
theorem Sim.undo (h : Sim I) (hp : PsN I n fa) : Sim (unH (unS I n fa) n) := by
  unfold unH unS
  by_cases e : n = 0
  · rw [if_pos e, if_pos e]
    exact h.thr
  rw [if_neg e, if_neg e]
  obtain ⟨h1, h2, h3, _⟩ := h
  obtain ⟨hn, hf, e1, e2, e3, h4⟩ := hp
  have hl := h4 (n - 1) (by omega)
  generalize hK : cpR (up2 (up2 (cpS (up2 I 200 13 (nI (n - 1))) 235 (288 + 11 * ((fa + (n - 1)) % 12)) 11) 420 0 0) 420 7 (nI (n - 1))) 421 0 425 (335 * (n - 1)) 335 = K
  have row : ∀ q, q ≠ 200 → q ≠ 420 → q ≠ 421 → (q < 235 ∨ 245 < q) → K q = I q := by
    intro q k1 k2 k3 k4
    rw [← hK, cpR_row k3, up2_row k2, up2_row k2, cpS_out (by omega), up2_row k1]
  have now : ∀ i, i ≤ 10 → K (235 + i) = I (288 + 11 * ((fa + (n - 1)) % 12) + i) := by
    intro i hi
    rw [← hK, cpR_row (by omega), up2_row (by omega), up2_row (by omega), cpS_in (by omega), up2_row (by omega)]
  have lo : ∀ k, k < 335 → K 421 k = I 425 (335 * (n - 1) + k) := by
    intro k hk
    have := cpR_in (I := up2 (up2 (cpS (up2 I 200 13 (nI (n - 1))) 235 (288 + 11 * ((fa + (n - 1)) % 12)) 11) 420 0 0) 420 7 (nI (n - 1))) (p := 421) (a := 0) (q := 425) (b := 335 * (n - 1)) (n := 335) hk
    rw [Nat.zero_add, hK] at this
    rw [this, up2_row (by decide), up2_row (by decide), cpS_out (by omega), up2_row (by decide), Nat.add_comm]
  have hi : ∀ k, 335 ≤ k → K 421 k = I 421 k := by
    intro k hk
    rw [← hK, cpR_out (by omega), up2_row (by decide), up2_row (by decide), cpS_out (by omega), up2_row (by decide)]
  have k3 : K 421 3 = I 421 3 := (lo 3 (by decide)).trans hl.2
  refine ⟨(hl.1.at now).eqW lo, h2.eq (fun q g1 g2 => row q (by omega) (by omega) (by omega) (by omega)) k3 hi, h3.eq (fun q g1 g2 => row q (by omega) (by omega) (by omega) (by omega)) (row _ (by decide) (by decide) (by decide) (by decide)) ?_ ?_, n - 1, fa, by omega, hf, ?_, ?_, ?_, fun i hi => ?_⟩
  · rw [← hK, cpR_row (by decide), up2_row (by decide), up2_row (by decide), cpS_out (by omega), up2_ne (by decide)]
  · rw [← hK, cpR_row (by decide), up2_ne (by decide), up2_ne (by decide), cpS_out (by omega), up2_row (by decide)]
  · rw [← hK, cpR_row (by decide), up2_row (by decide), up2_row (by decide), cpS_out (by omega), up2_at]
  · rw [← hK, cpR_row (by decide), up2_at]
  · rw [← hK, cpR_row (by decide), up2_row (by decide), up2_row (by decide), cpS_out (by omega), up2_ne (by decide), e3]
  · have ha := h4 i (by omega)
    rw [row 425 (by decide) (by decide) (by decide) (by decide), k3]
    exact ⟨ha.1.eq fun q g1 g2 => row q (by omega) (by omega) (by omega) (by omega), ha.2⟩
theorem Sim.seed (h : Sim I) {x : Int32} : Sim (up2 (up2 (up2 I 235 15 x) 420 0 0) 421 10 x) := by
  obtain ⟨h1, h2, h3, n, fa, hn, hf, e1, e2, e3, h4⟩ := h
  have row : ∀ q, q ≠ 235 → q ≠ 420 → q ≠ 421 → up2 (up2 (up2 I 235 15 x) 420 0 0) 421 10 x q = I q := fun q g1 g2 g3 => by rw [up2_row g3, up2_row g2, up2_row g1]
  have e : up2 (up2 (up2 I 235 15 x) 420 0 0) 421 10 x 421 = ud (I 421) 10 x := by rw [up2_ud, up2_row (by decide), up2_row (by decide)]
  refine ⟨⟨?_, ?_, ?_⟩, ?_, h3.eq (fun q _ _ => row q (by omega) (by omega) (by omega)) (row _ (by decide) (by decide) (by decide)) ?_ ?_, n, fa, hn, hf, ?_, ?_, ?_, fun i hi => ?_⟩
  · rw [e]
    refine Sd.eq ?_ (fun q g1 g2 => by rw [up2_row (by omega), up2_row (by omega)]) (I := up2 I 235 15 x)
    exact Sd.pu h1.1 (f := 15) (g := 10) (by decide)
  · rw [e]
    exact h1.2.1.eq (row _ (by decide) (by decide) (by decide)) (row _ (by decide) (by decide) (by decide)) (if_neg (by decide)) fun k g1 g2 => if_neg (by omega)
  · rw [e]
    exact (h1.2.2.hi rfl).1
  · rw [e]
    exact h2.eq (fun q g1 g2 => row q (by omega) (by omega) (by omega)) (if_neg (by decide)) fun k g => if_neg (by omega)
  · rw [row 200 (by decide) (by decide) (by decide)]
  · rw [up2_row (by decide), up2_ne (by decide), up2_row (by decide)]
  · rw [row 200 (by decide) (by decide) (by decide)]; exact e1
  · rw [up2_row (by decide), up2_ne (by decide), up2_row (by decide)]; exact e2
  · rw [row 200 (by decide) (by decide) (by decide)]; exact e3
  · rw [e, row 425 (by decide) (by decide) (by decide)]
    refine ⟨(h4 i hi).1.eq fun q g1 g2 => row q (by omega) (by omega) (by omega), ?_⟩
    rw [show ud (I 421) 10 x 3 = I 421 3 from if_neg (by decide)]
    exact (h4 i hi).2
end T79zj
