/-! ===== what holds of both states between two operations ===== -/
section T79zh
variable {I J : Nat → Nat → Int32} {a b : Nat} {W V : Nat → Int32}
set_option maxRecDepth 100000
/-- the street and the log at a are those that W tells, and W keeps its ranges -/
def Nm (I : Nat → Nat → Int32) (a : Nat) (W : Nat → Int32) : Prop := Sd I a W ∧ Lg I a W ∧ Rg W
/-- the law at b is the one that W tells -/
def Nl (I : Nat → Nat → Int32) (b : Nat) (W : Nat → Int32) : Prop := ∃ nl len cd fa fn, LwS I b W nl len cd fa fn ∧ LwN W nl
def ImS (I : Nat → Nat → Int32) : Prop := (I 200 10 = 0 ∧ I 420 6 = 0) ∨ (¬ I 200 10 = 0 ∧ ¬ I 420 6 = 0 ∧ Nm I 268 (I 422) ∧ Nl I 279 (I 422))
def PsS (I : Nat → Nat → Int32) : Prop := ∃ n fa, n ≤ 12 ∧ fa < 12 ∧ I 200 13 = nI n ∧ I 420 7 = nI n ∧ I 200 12 = nI fa ∧ ∀ i, i < n → Nm I (288 + 11 * ((fa + i) % 12)) (fun k => I 425 (335 * i + k)) ∧ I 425 (335 * i + 3) = I 421 3
def Sim (I : Nat → Nat → Int32) : Prop := Nm I 235 (I 421) ∧ Nl I 246 (I 421) ∧ ImS I ∧ PsS I
theorem Nm.eq (h : Nm I a W) (f : ∀ q, a ≤ q → q ≤ a + 10 → J q = I q) : Nm J a W :=
  ⟨h.1.eq fun q g1 g2 => f q g1 (by omega), h.2.1.eq (f _ (by omega) (by omega)) (f _ (by omega) (by omega)) rfl fun _ _ _ => rfl, h.2.2⟩
theorem Nl.eq (h : Nl I b W) (f : ∀ q, b ≤ q → q ≤ b + 5 → J q = I q) (e3 : V 3 = W 3) (e : ∀ k, 335 ≤ k → V k = W k) : Nl J b V := by
  obtain ⟨nl, len, cd, fa, fn, h1, h2, h3⟩ := h
  refine ⟨nl, len, cd, fa, fn, h1.eq f e3 e, h2, fun n hn => ?_⟩
  rw [show nuW V n = nuW W n from e _ (by omega)]
  exact h3 n hn
theorem Nm.lg (h : Nm I a W) : LgW W := by
  obtain ⟨r, _, h1, _, _, _, h5, _⟩ := h.2.1
  exact ⟨r, h1, h5⟩
theorem Nm.st (h : Nm I a W) : StW W := ⟨_, _, h.2.2.so, h.2.2.fr, h.lg⟩
theorem Nl.lw (h : Nl I b W) : LwW W := by
  obtain ⟨nl, len, cd, fa, fn, h1, _⟩ := h
  exact ⟨nl, len, cd, fa, fn, h1.2.1⟩
theorem Sim.ri (h : Sim I) : RI (dn (I 421)) (pn (I 421)) I := by
  obtain ⟨h1, h2, h3, n, fa, hn, hf, e1, e2, e3, h4⟩ := h
  refine ⟨h1.2.2.so, h1.2.2.fr, h2.lw, h1.lg, ?_, n, hn, e2, fun i hi => ⟨(h4 i hi).1.st, (h4 i hi).2⟩⟩
  rcases h3 with h3 | h3
  · exact Or.inl h3.2
  · exact Or.inr ⟨h3.2.2.1.st, h3.2.2.2.lw⟩
/-- what the relation reads -/
theorem Sim.eq (h : Sim I) (f : ∀ q, 235 ≤ q → q < 420 → (q < 252 ∨ 268 ≤ q) → J q = I q) (f1 : J 421 = I 421) (f2 : J 422 = I 422) (f5 : J 425 = I 425) (g1 : J 200 10 = I 200 10) (g2 : J 200 12 = I 200 12) (g3 : J 200 13 = I 200 13) (g4 : J 420 6 = I 420 6) (g5 : J 420 7 = I 420 7) : Sim J := by
  obtain ⟨h1, h2, h3, n, fa, hn, hf, e1, e2, e3, h4⟩ := h
  unfold Sim ImS PsS
  rw [f1, f2, f5, g1, g2, g3, g4, g5]
  refine ⟨h1.eq fun q k1 k2 => f q (by omega) (by omega) (by omega), h2.eq (fun q k1 k2 => f q (by omega) (by omega) (by omega)) rfl fun _ _ => rfl, ?_, n, fa, hn, hf, e1, e2, e3, fun i hi => ⟨(h4 i hi).1.eq fun q k1 k2 => f q (by omega) (by omega) (by omega), (h4 i hi).2⟩⟩
  rcases h3 with h3 | ⟨k1, k2, k3, k4⟩
  · exact Or.inl h3
  · exact Or.inr ⟨k1, k2, k3.eq fun q k1 k2 => f q (by omega) (by omega) (by omega), k4.eq (fun q k1 k2 => f q (by omega) (by omega) (by omega)) rfl fun _ _ => rfl⟩
end T79zh
