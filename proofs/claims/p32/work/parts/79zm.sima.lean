/-! ===== the relation is kept by an act ===== -/
section T79zm
variable {I J K : Nat → Nat → Int32} {a b n fa : Nat} {W V : Nat → Int32}
set_option maxRecDepth 100000
theorem remH_row {q : Nat} (h1 : q ≠ 420) (h2 : q ≠ 425) : remH I n q = I q := by
  unfold remH
  by_cases e : n = 12
  · rw [if_pos e, cpR_row h2, cpR_row h2]
  · rw [if_neg e, cpR_row h2, up2_row h1]
theorem remH_el {k : Nat} (h : k ≠ 7) : remH I n 420 k = I 420 k := by
  unfold remH
  by_cases e : n = 12
  · rw [if_pos e, cpR_row (by decide), cpR_row (by decide)]
  · rw [if_neg e, cpR_row (by decide), up2_ne (Or.inr h)]
theorem remH_425 (h5 : J 425 = I 425) (h1 : J 421 = I 421) : remH J n 425 = remH I n 425 := by
  unfold remH
  by_cases e : n = 12
  · rw [if_pos e, if_pos e]
    unfold cpR upr
    rw [if_pos rfl, if_pos rfl, if_pos rfl, if_pos rfl, if_neg (by decide), if_neg (by decide), h5, h1]
  · rw [if_neg e, if_neg e]
    unfold cpR upr
    rw [if_pos rfl, if_pos rfl, up2_row (by decide), up2_row (by decide), up2_row (by decide), up2_row (by decide), h5, h1]
theorem reS_el {k : Nat} (h1 : k ≠ 12) (h2 : k ≠ 13) : reS I n fa 200 k = I 200 k := by
  unfold reS
  by_cases e : n = 12
  · rw [if_pos e, up2_ne (Or.inr h2), cpS_out (by omega), up2_ne (Or.inr h2), up2_ne (Or.inr h1)]
  · rw [if_neg e, up2_ne (Or.inr h2), cpS_out (by omega)]
theorem Sim.act (h : Sim I) (hp : PsN I n fa) (f : ∀ q, (q < 235 ∨ 245 < q) → q ≠ 252 → q ≠ 253 → J q = reS I n fa q) (g : ∀ q, q ≠ 421 → q ≠ 428 → q ≠ 429 → K q = remH (up2 J 420 0 0) n q) (D : Nm J 235 (K 421)) (e3 : K 421 3 = I 421 3) (e : ∀ k, 335 ≤ k → K 421 k = I 421 k) : Sim K := by
  obtain ⟨h1, h2, h3, _⟩ := h
  have kj : ∀ q, q < 420 → K q = J q := fun q hq => by rw [g q (by omega) (by omega) (by omega), remH_row (by omega) (by omega), up2_row (by omega)]
  have ji : ∀ q, q ≠ 200 → (q < 235 ∨ 245 < q) → q ≠ 252 → q ≠ 253 → (q < 288 ∨ 420 ≤ q) → J q = I q := fun q k1 k2 k3 k4 k5 => by rw [f q k2 k3 k4, reS_row k1 k5]
  have ki : ∀ q, q ≠ 200 → (q < 235 ∨ 245 < q) → q ≠ 252 → q ≠ 253 → q < 288 → K q = I q := fun q k1 k2 k3 k4 k5 => by rw [kj q (by omega), ji q k1 k2 k3 k4 (Or.inl k5)]
  refine ⟨D.eq fun q g1 g2 => kj q (by omega), h2.eq (fun q g1 g2 => ki q (by omega) (by omega) (by omega) (by omega) (by omega)) e3 e, h3.eq (fun q g1 g2 => ki q (by omega) (by omega) (by omega) (by omega) (by omega)) ?_ ?_ ?_, ?_⟩
  · rw [g 422 (by decide) (by decide) (by decide), remH_row (by decide) (by decide), up2_row (by decide), ji 422 (by decide) (by decide) (by decide) (by decide) (by decide)]
  · rw [kj 200 (by decide), f 200 (by decide) (by decide) (by decide), reS_el (by decide) (by decide)]
  · rw [g 420 (by decide) (by decide) (by decide), remH_el (by decide), up2_ne (by decide), ji 420 (by decide) (by decide) (by decide) (by decide) (by decide)]
  · refine hp.rem h1 (fun q g1 g2 => by rw [kj q g2, f q (by omega) (by omega) (by omega)]) (by rw [kj 200 (by decide), f 200 (by decide) (by decide) (by decide)]) (by rw [kj 200 (by decide), f 200 (by decide) (by decide) (by decide)]) ?_ ?_ e3
    · rw [g 425 (by decide) (by decide) (by decide)]
      exact remH_425 (by rw [up2_row (by decide), ji 425 (by decide) (by decide) (by decide) (by decide) (by decide)]) (by rw [up2_row (by decide), ji 421 (by decide) (by decide) (by decide) (by decide) (by decide)])
    · rw [g 420 (by decide) (by decide) (by decide), remH_7, remH_7, up2_ne (by decide), ji 420 (by decide) (by decide) (by decide) (by decide) (by decide)]
end T79zm
