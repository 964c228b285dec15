section
/-! ===== what holds of both states between two operations ===== -/
section T79zh
variable {I J : Nat → Nat → Int32} {a b : Nat} {W V : Nat → Int32}
set_option maxRecDepth 100000
/-- the street and the log at a are those that W tells, and W keeps its ranges -/
def Nm (I : Nat → Nat → Int32) (a : Nat) (W : Nat → Int32) : Prop := Sd I a W ∧ Lg I a W ∧ Rg W
/-- the law at b is the one that W tells -/
def Nl (I : Nat → Nat → Int32) (b : Nat) (W : Nat → Int32) : Prop := ∃ nl len cd fa fn, LwS I b W nl len cd fa fn ∧ LwN W nl
def ImS (I : Nat → Nat → Int32) : Prop := (I 200 10 = 0 ∧ I 420 6 = 0) ∨ (¬ I 200 10 = 0 ∧ ¬ I 420 6 = 0 ∧ Nm I 268 (I 422) ∧ Nl I 279 (I 422))
def PsS (I : Nat → Nat → Int32) : Prop := ∃ n fa, n ≤ 12 ∧ fa < 12 ∧ I 200 13 = nI n ∧ I 420 7 = nI n ∧ I 200 12 = nI fa ∧ ∀ i, i < n → Nm I (288 + 11 * ((fa + i) % 12)) (fun k => I 425 (335 * i + k)) ∧ I 425 (335 * i + 3) = I 421 3
def Sim (I : Nat → Nat → Int32) : Prop := Nm I 235 (I 421) ∧ Nl I 246 (I 421) ∧ ImS I ∧ PsS I
theorem Nm.eq (h : Nm I a W) (f : ∀ q, a ≤ q → q ≤ a + 10 → J q = I q) : Nm J a W :=
  ⟨h.1.eq fun q g1 g2 => f q g1 (by omega), h.2.1.eq (f _ (by omega) (by omega)) (f _ (by omega) (by omega)) rfl fun _ _ _ => rfl, h.2.2⟩
theorem Nl.eq (h : Nl I b W) (f : ∀ q, b ≤ q → q ≤ b + 5 → J q = I q) (e3 : V 3 = W 3) (e : ∀ k, 335 ≤ k → V k = W k) : Nl J b V := by
  obtain ⟨nl, len, cd, fa, fn, h1, h2, h3⟩ := h
  refine ⟨nl, len, cd, fa, fn, h1.eq f e3 e, h2, fun n hn => ?_⟩
  rw [show nuW V n = nuW W n from e _ (by omega)]
  exact h3 n hn
theorem Nm.lg (h : Nm I a W) : LgW W := by
  obtain ⟨r, _, h1, _, _, _, h5, _⟩ := h.2.1
  exact ⟨r, h1, h5⟩
theorem Nm.st (h : Nm I a W) : StW W := ⟨_, _, h.2.2.so, h.2.2.fr, h.lg⟩
theorem Nl.lw (h : Nl I b W) : LwW W := by
  obtain ⟨nl, len, cd, fa, fn, h1, _⟩ := h
  exact ⟨nl, len, cd, fa, fn, h1.2.1⟩
theorem Sim.ri (h : Sim I) : RI (dn (I 421)) (pn (I 421)) I := by
  obtain ⟨h1, h2, h3, n, fa, hn, hf, e1, e2, e3, h4⟩ := h
  refine ⟨h1.2.2.so, h1.2.2.fr, h2.lw, h1.lg, ?_, n, hn, e2, fun i hi => ⟨(h4 i hi).1.st, (h4 i hi).2⟩⟩
  rcases h3 with h3 | h3
  · exact Or.inl h3.2
  · exact Or.inr ⟨h3.2.2.1.st, h3.2.2.2.lw⟩
/-- what the relation reads -/
theorem Sim.eq (h : Sim I) (f : ∀ q, 235 ≤ q → q < 420 → (q < 252 ∨ 268 ≤ q) → J q = I q) (f1 : J 421 = I 421) (f2 : J 422 = I 422) (f5 : J 425 = I 425) (g1 : J 200 10 = I 200 10) (g2 : J 200 12 = I 200 12) (g3 : J 200 13 = I 200 13) (g4 : J 420 6 = I 420 6) (g5 : J 420 7 = I 420 7) : Sim J := by
  obtain ⟨h1, h2, h3, n, fa, hn, hf, e1, e2, e3, h4⟩ := h
  unfold Sim ImS PsS
  rw [f1, f2, f5, g1, g2, g3, g4, g5]
  refine ⟨h1.eq fun q k1 k2 => f q (by omega) (by omega) (by omega), h2.eq (fun q k1 k2 => f q (by omega) (by omega) (by omega)) rfl fun _ _ => rfl, ?_, n, fa, hn, hf, e1, e2, e3, fun i hi => ⟨(h4 i hi).1.eq fun q k1 k2 => f q (by omega) (by omega) (by omega), (h4 i hi).2⟩⟩
  rcases h3 with h3 | ⟨k1, k2, k3, k4⟩
  · exact Or.inl h3
  · exact Or.inr ⟨k1, k2, k3.eq fun q k1 k2 => f q (by omega) (by omega) (by omega), k4.eq (fun q k1 k2 => f q (by omega) (by omega) (by omega)) rfl fun _ _ => rfl⟩
end T79zh
end
section
/-! ===== the relation's past: an act remembers on both sides ===== -/
section T79zi
variable {I J : Nat → Nat → Int32} {a b n fa : Nat} {W V : Nat → Int32}
set_option maxRecDepth 100000
theorem Sd.eqW (h : Sd I a W) (e : ∀ k, k < 95 → V k = W k) : Sd I a V := by
  obtain ⟨h1, h2, h3⟩ := h
  have hb : ∀ x ∈ flds, x.2 < 95 := by decide
  refine ⟨fun x hx => ?_, fun p hp => ?_, fun d hd k hk => ?_⟩
  · rw [e _ (hb x hx)]
    exact h1 x hx
  · rw [e _ (by omega), e _ (by omega)]
    exact h2 p hp
  · rw [e _ (by omega)]
    exact h3 d hd k hk
theorem Nm.eqW (h : Nm I a W) (e : ∀ k, k < 335 → V k = W k) : Nm I a V :=
  ⟨h.1.eqW fun k hk => e k (by omega), h.2.1.eq rfl rfl (e 9 (by decide)) fun k _ hk => e k hk, (h.2.2.log fun k hk _ => e k (by omega)).1⟩
theorem Nm.at (h : Nm I b W) (f : ∀ i, i ≤ 10 → J (a + i) = I (b + i)) : Nm J a W := by
  refine ⟨?_, ?_, h.2.2⟩
  · obtain ⟨h1, h2, h3⟩ := h.1
    refine ⟨fun x hx => ?_, fun p hp => ?_, fun d hd k hk => ?_⟩
    · rw [show J a = I b from f 0 (by decide)]
      exact h1 x hx
    · rw [f 1 (by decide), f 2 (by decide)]
      exact h2 p hp
    · rw [Nat.add_assoc, f (3 + k) (by omega), ← Nat.add_assoc]
      exact h3 d hd k hk
  · obtain ⟨r, m, h1, h2, h3, h4, h5, h6⟩ := h.2.1
    refine ⟨r, m, h1, h2, by rw [f 9 (by decide)]; exact h3, by rw [f 9 (by decide)]; exact h4, h5, fun k hk j hj => ?_⟩
    rw [f 10 (by decide)]
    exact h6 k hk j hj
def PsN (I : Nat → Nat → Int32) (n fa : Nat) : Prop := n ≤ 12 ∧ fa < 12 ∧ I 200 13 = nI n ∧ I 420 7 = nI n ∧ I 200 12 = nI fa ∧ ∀ i, i < n → Nm I (288 + 11 * ((fa + i) % 12)) (fun k => I 425 (335 * i + k)) ∧ I 425 (335 * i + 3) = I 421 3
theorem remH_7 : remH I n 420 7 = (if n = 12 then I 420 7 else nI (n + 1)) := by
  unfold remH
  by_cases e : n = 12
  · rw [if_pos e, if_pos e, cpR_row (by decide), cpR_row (by decide)]
  · rw [if_neg e, if_neg e, cpR_row (by decide), up2_at]
theorem PsN.rem (h : PsN I n fa) (hn : Nm I 235 (I 421)) (f : ∀ q, 288 ≤ q → q < 420 → J q = reS I n fa q) (g2 : J 200 12 = reS I n fa 200 12) (g3 : J 200 13 = reS I n fa 200 13) (f5 : J 425 = remH I n 425) (g7 : J 420 7 = remH I n 420 7) (f3 : J 421 3 = I 421 3) : PsS J := by
  obtain ⟨h1, h2, e1, e2, e3, h4⟩ := h
  rw [remH_7] at g7
  by_cases e : n = 12
  · subst e
    rw [if_pos rfl, e2] at g7
    unfold reS at g2 g3 f
    rw [if_pos rfl] at g2 g3
    unfold remH at f5
    rw [if_pos rfl] at f5
    refine ⟨12, (fa + 1) % 12, by decide, by omega, g3.trans (up2_at), g7, ?_, fun i hi => ?_⟩
    · rw [g2, up2_ne (by decide), cpS_out (by omega), up2_ne (by decide), up2_at]
    have hb : ∀ k, k < 335 → J 425 (335 * i + k) = if i < 11 then I 425 (335 * (i + 1) + k) else I 421 k := by
      intro k hk
      rw [f5]
      by_cases h11 : i < 11
      · rw [if_pos h11, cpR_out (by omega), show 335 * i + k = 0 + (335 * i + k) by omega, cpR_in (by omega), show 335 * i + k + 335 = 335 * (i + 1) + k by omega]
      · obtain rfl : i = 11 := by omega
        rw [if_neg h11, cpR_in (by omega), cpR_row (by decide)]
        rfl
    by_cases h11 : i < 11
    · have ha := h4 (i + 1) (by omega)
      refine ⟨?_, ?_⟩
      · refine Nm.eqW (W := fun k => I 425 (335 * (i + 1) + k)) ?_ fun k hk => by rw [hb k hk, if_pos h11]
        refine ha.1.at fun j hj => ?_
        rw [f _ (by omega) (by omega), if_pos rfl, up2_row (by omega), cpS_out (by omega), up2_row (by omega), up2_row (by omega)]
        congr 1
        omega
      · rw [hb 3 (by decide), if_pos h11, f3]
        exact ha.2
    · obtain rfl : i = 11 := by omega
      refine ⟨?_, ?_⟩
      · refine Nm.eqW (W := I 421) ?_ fun k hk => by rw [hb k hk, if_neg h11]
        refine hn.at fun j hj => ?_
        rw [f _ (by omega) (by omega), if_pos rfl, up2_row (by omega), cpS_in (by omega), up2_row (by omega), up2_row (by omega)]
      · rw [hb 3 (by decide), if_neg h11, f3]
  · rw [if_neg e] at g7
    unfold reS at g2 g3 f
    rw [if_neg e] at g2 g3
    unfold remH at f5
    rw [if_neg e] at f5
    refine ⟨n + 1, fa, by omega, h2, g3.trans (up2_at), g7, ?_, fun i hi => ?_⟩
    · rw [g2, up2_ne (by decide), cpS_out (by omega), e3]
    have hb : ∀ k, k < 335 → J 425 (335 * i + k) = if i < n then I 425 (335 * i + k) else I 421 k := by
      intro k hk
      rw [f5]
      by_cases h11 : i < n
      · rw [if_pos h11, cpR_out (by omega), up2_row (by decide)]
      · obtain rfl : i = n := by omega
        rw [if_neg h11, cpR_in (by omega), up2_row (by decide)]
        rfl
    by_cases h11 : i < n
    · have ha := h4 i h11
      refine ⟨?_, ?_⟩
      · refine Nm.eqW (W := fun k => I 425 (335 * i + k)) ?_ fun k hk => by rw [hb k hk, if_pos h11]
        refine ha.1.at fun j hj => ?_
        rw [f _ (by omega) (by omega), if_neg e, up2_row (by omega), cpS_out (by omega)]
      · rw [hb 3 (by decide), if_pos h11, f3]
        exact ha.2
    · obtain rfl : i = n := by omega
      refine ⟨?_, ?_⟩
      · refine Nm.eqW (W := I 421) ?_ fun k hk => by rw [hb k hk, if_neg h11]
        refine hn.at fun j hj => ?_
        rw [f _ (by omega) (by omega), if_neg e, up2_row (by omega), cpS_in (by omega)]
      · rw [hb 3 (by decide), if_neg h11, f3]
end T79zi
end
section
/-! ===== the relation is kept by undo, back, image, seed ===== -/
section T79zj
variable {I J : Nat → Nat → Int32} {a b n fa : Nat} {W V : Nat → Int32}
set_option maxRecDepth 100000
theorem ImS.eq (h : ImS I) (f : ∀ q, 268 ≤ q → q < 285 → J q = I q) (f2 : J 422 = I 422) (g1 : J 200 10 = I 200 10) (g4 : J 420 6 = I 420 6) : ImS J := by
  unfold ImS
  rw [f2, g1, g4]
  rcases h with h3 | ⟨k1, k2, k3, k4⟩
  · exact Or.inl h3
  · exact Or.inr ⟨k1, k2, k3.eq fun q k1 k2 => f q (by omega) (by omega), k4.eq (fun q k1 k2 => f q (by omega) (by omega)) rfl fun _ _ => rfl⟩
theorem Sim.thr (h : Sim I) {x : Int32} : Sim (up2 I 420 0 x) := h.eq (fun q _ _ _ => up2_row (by omega)) (up2_row (by decide)) (up2_row (by decide)) (up2_row (by decide)) (up2_ne (by decide)) (up2_ne (by decide)) (up2_ne (by decide)) (up2_ne (by decide)) (up2_ne (by decide))
theorem Sim.undo (h : Sim I) (hp : PsN I n fa) : Sim (unH (unS I n fa) n) := by
  unfold unH unS
  by_cases e : n = 0
  · rw [if_pos e, if_pos e]
    exact h.thr
  rw [if_neg e, if_neg e]
  obtain ⟨h1, h2, h3, _⟩ := h
  obtain ⟨hn, hf, e1, e2, e3, h4⟩ := hp
  have hl := h4 (n - 1) (by omega)
  generalize hK : cpR (up2 (up2 (cpS (up2 I 200 13 (nI (n - 1))) 235 (288 + 11 * ((fa + (n - 1)) % 12)) 11) 420 0 0) 420 7 (nI (n - 1))) 421 0 425 (335 * (n - 1)) 335 = K
  have row : ∀ q, q ≠ 200 → q ≠ 420 → q ≠ 421 → (q < 235 ∨ 245 < q) → K q = I q := by
    intro q k1 k2 k3 k4
    rw [← hK, cpR_row k3, up2_row k2, up2_row k2, cpS_out (by omega), up2_row k1]
  have now : ∀ i, i ≤ 10 → K (235 + i) = I (288 + 11 * ((fa + (n - 1)) % 12) + i) := by
    intro i hi
    rw [← hK, cpR_row (by omega), up2_row (by omega), up2_row (by omega), cpS_in (by omega), up2_row (by omega)]
  have lo : ∀ k, k < 335 → K 421 k = I 425 (335 * (n - 1) + k) := by
    intro k hk
    have := cpR_in (I := up2 (up2 (cpS (up2 I 200 13 (nI (n - 1))) 235 (288 + 11 * ((fa + (n - 1)) % 12)) 11) 420 0 0) 420 7 (nI (n - 1))) (p := 421) (a := 0) (q := 425) (b := 335 * (n - 1)) (n := 335) hk
    rw [Nat.zero_add, hK] at this
    rw [this, up2_row (by decide), up2_row (by decide), cpS_out (by omega), up2_row (by decide), Nat.add_comm]
  have hi : ∀ k, 335 ≤ k → K 421 k = I 421 k := by
    intro k hk
    rw [← hK, cpR_out (by omega), up2_row (by decide), up2_row (by decide), cpS_out (by omega), up2_row (by decide)]
  have k3 : K 421 3 = I 421 3 := (lo 3 (by decide)).trans hl.2
  refine ⟨(hl.1.at now).eqW lo, h2.eq (fun q g1 g2 => row q (by omega) (by omega) (by omega) (by omega)) k3 hi, h3.eq (fun q g1 g2 => row q (by omega) (by omega) (by omega) (by omega)) (row _ (by decide) (by decide) (by decide) (by decide)) ?_ ?_, n - 1, fa, by omega, hf, ?_, ?_, ?_, fun i hi => ?_⟩
  · rw [← hK, cpR_row (by decide), up2_row (by decide), up2_row (by decide), cpS_out (by omega), up2_ne (by decide)]
  · rw [← hK, cpR_row (by decide), up2_ne (by decide), up2_ne (by decide), cpS_out (by omega), up2_row (by decide)]
  · rw [← hK, cpR_row (by decide), up2_row (by decide), up2_row (by decide), cpS_out (by omega), up2_at]
  · rw [← hK, cpR_row (by decide), up2_at]
  · rw [← hK, cpR_row (by decide), up2_row (by decide), up2_row (by decide), cpS_out (by omega), up2_ne (by decide), e3]
  · have ha := h4 i (by omega)
    rw [row 425 (by decide) (by decide) (by decide) (by decide), k3]
    exact ⟨ha.1.eq fun q g1 g2 => row q (by omega) (by omega) (by omega) (by omega), ha.2⟩
theorem Sim.seed (h : Sim I) {x : Int32} : Sim (up2 (up2 (up2 I 235 15 x) 420 0 0) 421 10 x) := by
  obtain ⟨h1, h2, h3, n, fa, hn, hf, e1, e2, e3, h4⟩ := h
  have row : ∀ q, q ≠ 235 → q ≠ 420 → q ≠ 421 → up2 (up2 (up2 I 235 15 x) 420 0 0) 421 10 x q = I q := fun q g1 g2 g3 => by rw [up2_row g3, up2_row g2, up2_row g1]
  have e : up2 (up2 (up2 I 235 15 x) 420 0 0) 421 10 x 421 = ud (I 421) 10 x := by rw [up2_ud, up2_row (by decide), up2_row (by decide)]
  refine ⟨⟨?_, ?_, ?_⟩, ?_, h3.eq (fun q _ _ => row q (by omega) (by omega) (by omega)) (row _ (by decide) (by decide) (by decide)) ?_ ?_, n, fa, hn, hf, ?_, ?_, ?_, fun i hi => ?_⟩
  · rw [e]
    refine Sd.eq ?_ (fun q g1 g2 => by rw [up2_row (by omega), up2_row (by omega)]) (I := up2 I 235 15 x)
    exact Sd.pu h1.1 (f := 15) (g := 10) (by decide)
  · rw [e]
    exact h1.2.1.eq (row _ (by decide) (by decide) (by decide)) (row _ (by decide) (by decide) (by decide)) (if_neg (by decide)) fun k g1 g2 => if_neg (by omega)
  · rw [e]
    exact (h1.2.2.hi rfl).1
  · rw [e]
    exact h2.eq (fun q g1 g2 => row q (by omega) (by omega) (by omega)) (if_neg (by decide)) fun k g => if_neg (by omega)
  · rw [row 200 (by decide) (by decide) (by decide)]
  · rw [up2_row (by decide), up2_ne (by decide), up2_row (by decide)]
  · rw [row 200 (by decide) (by decide) (by decide)]; exact e1
  · rw [up2_row (by decide), up2_ne (by decide), up2_row (by decide)]; exact e2
  · rw [row 200 (by decide) (by decide) (by decide)]; exact e3
  · rw [e, row 425 (by decide) (by decide) (by decide)]
    refine ⟨(h4 i hi).1.eq fun q g1 g2 => row q (by omega) (by omega) (by omega), ?_⟩
    rw [show ud (I 421) 10 x 3 = I 421 3 from if_neg (by decide)]
    exact (h4 i hi).2
end T79zj
end
section
/-! ===== the relation is kept by image and back ===== -/
section T79zk
variable {I J : Nat → Nat → Int32} {a b n fa : Nat} {W V : Nat → Int32}
set_option maxRecDepth 100000
theorem Nl.at (h : Nl I b W) (f0 : J a 0 = I b 0) (f : ∀ i, 1 ≤ i → i ≤ 5 → J (a + i) = I (b + i)) (e3 : V 3 = W 3) (e : ∀ k, 335 ≤ k → k < 1184 → V k = W k) : Nl J a V := by
  obtain ⟨nl, len, cd, fa, fn, ⟨⟨c1, c2, c3, c4, c5⟩, ⟨r1, _, _, r4, r5⟩, h3, h4⟩, g1, g2⟩ := h
  refine ⟨nl, len, cd, fa, fn, ⟨⟨?_, c2, c3, fun i hi => ?_, fun n hn => ?_⟩, ⟨?_, c2, c3, fun i hi => ?_, fun n hn => ?_⟩, fun n hn => ?_, ?_⟩, g1, fun n hn => ?_⟩
  · rw [f0]
    exact c1
  · rw [f 5 (by decide) (by decide)]
    exact c4 i hi
  · rw [f 3 (by decide) (by decide), f 4 (by decide) (by decide)]
    exact c5 n hn
  · rw [e3, e 335 (by decide) (by decide)]
    exact r1
  · rw [e _ (by omega) (by omega), e _ (by omega) (by omega)]
    exact r4 i hi
  · rw [e _ (by omega) (by omega), e _ (by omega) (by omega)]
    exact r5 n hn
  · rw [f 1 (by decide) (by decide), f 2 (by decide) (by decide), show kiW V n = kiW W n from e _ (by omega) (by omega), show nuW V n = nuW W n from e _ (by omega) (by omega)]
    exact h3 n hn
  · rw [f0, e3]
    exact h4
  · rw [show nuW V n = nuW W n from e _ (by omega) (by omega)]
    exact g2 n hn
theorem Sim.image (h : Sim I) : Sim (imH (imS I)) := by
  obtain ⟨h1, h2, _, n, fa, hn, hf, e1, e2, e3, h4⟩ := h
  generalize hK : imH (imS I) = K
  have row : ∀ q, q ≠ 200 → q ≠ 420 → q ≠ 422 → (q < 268 ∨ 284 < q) → K q = I q := by
    intro q k1 k2 k3 k4
    rw [← hK]
    unfold imH imS cpL
    rw [up2_row k2, cpR_row k3, up2_row k2, up2_row k1, up2_row (by omega), cpS_out (by omega), cpS_out (by omega)]
  have r2 : ∀ k, k ≠ 10 → K 200 k = I 200 k := by
    intro k hk
    rw [← hK]
    unfold imH imS cpL
    rw [up2_row (by decide), cpR_row (by decide), up2_row (by decide), up2_ne (Or.inr hk), up2_row (by decide), cpS_out (by omega), cpS_out (by omega)]
  have r4 : ∀ k, k ≠ 0 → k ≠ 6 → K 420 k = I 420 k := by
    intro k hk h6
    rw [← hK]
    unfold imH imS cpL
    rw [up2_ne (Or.inr h6), cpR_row (by decide), up2_ne (Or.inr hk), up2_row (by decide), up2_row (by decide), cpS_out (by omega), cpS_out (by omega)]
  have lo : ∀ k, k < 1184 → K 422 k = I 421 k := by
    intro k hk
    have hh := cpR_in (I := up2 (imS I) 420 0 0) (p := 422) (a := 0) (q := 421) (b := 0) (n := 1184) hk
    rw [Nat.zero_add] at hh
    rw [← hK]
    unfold imH
    rw [up2_row (by decide), hh, up2_row (by decide)]
    unfold imS cpL
    rw [up2_row (by decide), up2_row (by decide), cpS_out (by omega), cpS_out (by omega)]
    rfl
  have now : ∀ i, i ≤ 10 → K (268 + i) = I (235 + i) := by
    intro i hi
    rw [← hK]
    unfold imH imS cpL
    rw [up2_row (by omega), cpR_row (by omega), up2_row (by omega), up2_row (by omega), up2_row (by omega), cpS_out (by omega), cpS_in (by omega)]
  have law : ∀ i, 1 ≤ i → i ≤ 5 → K (279 + i) = I (246 + i) := by
    intro i h1 hi
    rw [← hK]
    unfold imH imS cpL
    rw [up2_row (by omega), cpR_row (by omega), up2_row (by omega), up2_row (by omega), up2_row (by omega), show 279 + i = 279 + 1 + (i - 1) by omega, cpS_in (by omega), cpS_out (by omega)]
    congr 1
    omega
  have law0 : K 279 0 = I 246 0 := by
    rw [← hK]
    unfold imH imS cpL
    rw [up2_row (by decide), cpR_row (by decide), up2_row (by decide), up2_row (by decide), up2_at, cpS_out (by omega)]
  refine ⟨?_, ?_, Or.inr ⟨?_, ?_, ?_, ?_⟩, n, fa, hn, hf, ?_, ?_, ?_, fun i hi => ?_⟩
  · rw [row 421 (by decide) (by decide) (by decide) (by decide)]
    exact h1.eq fun q g1 g2 => row q (by omega) (by omega) (by omega) (by omega)
  · rw [row 421 (by decide) (by decide) (by decide) (by decide)]
    exact h2.eq (fun q g1 g2 => row q (by omega) (by omega) (by omega) (by omega)) rfl fun _ _ => rfl
  · rw [← hK]
    unfold imH imS
    rw [up2_row (by decide), cpR_row (by decide), up2_row (by decide), up2_at]
    decide
  · rw [← hK]
    unfold imH
    rw [up2_at]
    decide
  · exact (h1.at now).eqW fun k hk => lo k (by omega)
  · exact h2.at law0 law (lo 3 (by decide)) fun k _ hk => lo k hk
  · rw [r2 _ (by decide)]; exact e1
  · rw [r4 _ (by decide) (by decide)]; exact e2
  · rw [r2 _ (by decide)]; exact e3
  · rw [row 421 (by decide) (by decide) (by decide) (by decide), row 425 (by decide) (by decide) (by decide) (by decide)]
    exact ⟨(h4 i hi).1.eq fun q g1 g2 => row q (by omega) (by omega) (by omega) (by omega), (h4 i hi).2⟩
end T79zk
end
section
/-! ===== the relation is kept by back ===== -/
section T79zl
variable {I J : Nat → Nat → Int32} {a b n fa : Nat} {W V : Nat → Int32}
set_option maxRecDepth 100000
theorem Sim.back (h : Sim I) (c : ¬ I 200 10 = 0) : ¬ I 420 6 = 0 ∧ Sim (bkH (bkS I)) := by
  obtain ⟨_, _, h3, n, fa, hn, hf, e1, e2, e3, h4⟩ := h
  rcases h3 with h3 | ⟨_, c6, m1, m2⟩
  · exact absurd h3.1 c
  refine ⟨c6, ?_⟩
  generalize hK : bkH (bkS I) = K
  have row : ∀ q, q ≠ 200 → q ≠ 420 → q ≠ 421 → (q < 235 ∨ 251 < q) → K q = I q := by
    intro q k1 k2 k3 k4
    rw [← hK]
    unfold bkH bkS cpL
    rw [up2_row k2, cpR_row k3, up2_row k2, up2_row k1, up2_row (by omega), cpS_out (by omega), cpS_out (by omega)]
  have r2 : ∀ k, k ≠ 13 → K 200 k = I 200 k := by
    intro k hk
    rw [← hK]
    unfold bkH bkS cpL
    rw [up2_row (by decide), cpR_row (by decide), up2_row (by decide), up2_ne (Or.inr hk), up2_row (by decide), cpS_out (by omega), cpS_out (by omega)]
  have r4 : ∀ k, k ≠ 0 → k ≠ 7 → K 420 k = I 420 k := by
    intro k hk h6
    rw [← hK]
    unfold bkH bkS cpL
    rw [up2_ne (Or.inr h6), cpR_row (by decide), up2_ne (Or.inr hk), up2_row (by decide), up2_row (by decide), cpS_out (by omega), cpS_out (by omega)]
  have lo : ∀ k, k < 1184 → K 421 k = I 422 k := by
    intro k hk
    have hh := cpR_in (I := up2 (bkS I) 420 0 0) (p := 421) (a := 0) (q := 422) (b := 0) (n := 1184) hk
    rw [Nat.zero_add] at hh
    rw [← hK]
    unfold bkH
    rw [up2_row (by decide), hh, up2_row (by decide)]
    unfold bkS cpL
    rw [up2_row (by decide), up2_row (by decide), cpS_out (by omega), cpS_out (by omega)]
    rfl
  have now : ∀ i, i ≤ 10 → K (235 + i) = I (268 + i) := by
    intro i hi
    rw [← hK]
    unfold bkH bkS cpL
    rw [up2_row (by omega), cpR_row (by omega), up2_row (by omega), up2_row (by omega), up2_row (by omega), cpS_out (by omega), cpS_in (by omega)]
  have law : ∀ i, 1 ≤ i → i ≤ 5 → K (246 + i) = I (279 + i) := by
    intro i h1 hi
    rw [← hK]
    unfold bkH bkS cpL
    rw [up2_row (by omega), cpR_row (by omega), up2_row (by omega), up2_row (by omega), up2_row (by omega), show 246 + i = 246 + 1 + (i - 1) by omega, cpS_in (by omega), cpS_out (by omega)]
    congr 1
    omega
  have law0 : K 246 0 = I 279 0 := by
    rw [← hK]
    unfold bkH bkS cpL
    rw [up2_row (by decide), cpR_row (by decide), up2_row (by decide), up2_row (by decide), up2_at, cpS_out (by omega)]
  refine ⟨(m1.at now).eqW fun k hk => lo k (by omega), m2.at law0 law (lo 3 (by decide)) fun k _ hk => lo k hk, Or.inr ⟨?_, ?_, ?_, ?_⟩, 0, fa, by decide, hf, ?_, ?_, ?_, fun i hi => absurd hi (by omega)⟩
  · rw [r2 _ (by decide)]; exact c
  · rw [r4 _ (by decide) (by decide)]; exact c6
  · rw [row 422 (by decide) (by decide) (by decide) (by decide)]
    exact m1.eq fun q g1 g2 => row q (by omega) (by omega) (by omega) (by omega)
  · rw [row 422 (by decide) (by decide) (by decide) (by decide)]
    exact m2.eq (fun q g1 g2 => row q (by omega) (by omega) (by omega) (by omega)) rfl fun _ _ => rfl
  · rw [← hK]
    unfold bkH bkS
    rw [up2_row (by decide), cpR_row (by decide), up2_row (by decide), up2_at]
    decide
  · rw [← hK]
    unfold bkH
    rw [up2_at]
    decide
  · rw [r2 _ (by decide)]; exact e3
end T79zl
end
section
/-! ===== the relation is kept by an act ===== -/
section T79zm
variable {I J K : Nat → Nat → Int32} {a b n fa : Nat} {W V : Nat → Int32}
set_option maxRecDepth 100000
theorem remH_row {q : Nat} (h1 : q ≠ 420) (h2 : q ≠ 425) : remH I n q = I q := by
  unfold remH
  by_cases e : n = 12
  · rw [if_pos e, cpR_row h2, cpR_row h2]
  · rw [if_neg e, cpR_row h2, up2_row h1]
theorem remH_el {k : Nat} (h : k ≠ 7) : remH I n 420 k = I 420 k := by
  unfold remH
  by_cases e : n = 12
  · rw [if_pos e, cpR_row (by decide), cpR_row (by decide)]
  · rw [if_neg e, cpR_row (by decide), up2_ne (Or.inr h)]
theorem remH_425 (h5 : J 425 = I 425) (h1 : J 421 = I 421) : remH J n 425 = remH I n 425 := by
  unfold remH
  by_cases e : n = 12
  · rw [if_pos e, if_pos e]
    unfold cpR upr
    rw [if_pos rfl, if_pos rfl, if_pos rfl, if_pos rfl, if_neg (by decide), if_neg (by decide), h5, h1]
  · rw [if_neg e, if_neg e]
    unfold cpR upr
    rw [if_pos rfl, if_pos rfl, up2_row (by decide), up2_row (by decide), up2_row (by decide), up2_row (by decide), h5, h1]
theorem reS_el {k : Nat} (h1 : k ≠ 12) (h2 : k ≠ 13) : reS I n fa 200 k = I 200 k := by
  unfold reS
  by_cases e : n = 12
  · rw [if_pos e, up2_ne (Or.inr h2), cpS_out (by omega), up2_ne (Or.inr h2), up2_ne (Or.inr h1)]
  · rw [if_neg e, up2_ne (Or.inr h2), cpS_out (by omega)]
theorem Sim.act (h : Sim I) (hp : PsN I n fa) (f : ∀ q, (q < 235 ∨ 245 < q) → q ≠ 252 → q ≠ 253 → J q = reS I n fa q) (g : ∀ q, q ≠ 421 → q ≠ 428 → q ≠ 429 → K q = remH (up2 J 420 0 0) n q) (D : Nm J 235 (K 421)) (e3 : K 421 3 = I 421 3) (e : ∀ k, 335 ≤ k → K 421 k = I 421 k) : Sim K := by
  obtain ⟨h1, h2, h3, _⟩ := h
  have kj : ∀ q, q < 420 → K q = J q := fun q hq => by rw [g q (by omega) (by omega) (by omega), remH_row (by omega) (by omega), up2_row (by omega)]
  have ji : ∀ q, q ≠ 200 → (q < 235 ∨ 245 < q) → q ≠ 252 → q ≠ 253 → (q < 288 ∨ 420 ≤ q) → J q = I q := fun q k1 k2 k3 k4 k5 => by rw [f q k2 k3 k4, reS_row k1 k5]
  have ki : ∀ q, q ≠ 200 → (q < 235 ∨ 245 < q) → q ≠ 252 → q ≠ 253 → q < 288 → K q = I q := fun q k1 k2 k3 k4 k5 => by rw [kj q (by omega), ji q k1 k2 k3 k4 (Or.inl k5)]
  refine ⟨D.eq fun q g1 g2 => kj q (by omega), h2.eq (fun q g1 g2 => ki q (by omega) (by omega) (by omega) (by omega) (by omega)) e3 e, h3.eq (fun q g1 g2 => ki q (by omega) (by omega) (by omega) (by omega) (by omega)) ?_ ?_ ?_, ?_⟩
  · rw [g 422 (by decide) (by decide) (by decide), remH_row (by decide) (by decide), up2_row (by decide), ji 422 (by decide) (by decide) (by decide) (by decide) (by decide)]
  · rw [kj 200 (by decide), f 200 (by decide) (by decide) (by decide), reS_el (by decide) (by decide)]
  · rw [g 420 (by decide) (by decide) (by decide), remH_el (by decide), up2_ne (by decide), ji 420 (by decide) (by decide) (by decide) (by decide) (by decide)]
  · refine hp.rem h1 (fun q g1 g2 => by rw [kj q g2, f q (by omega) (by omega) (by omega)]) (by rw [kj 200 (by decide), f 200 (by decide) (by decide) (by decide)]) (by rw [kj 200 (by decide), f 200 (by decide) (by decide) (by decide)]) ?_ ?_ e3
    · rw [g 425 (by decide) (by decide) (by decide)]
      exact remH_425 (by rw [up2_row (by decide), ji 425 (by decide) (by decide) (by decide) (by decide) (by decide)]) (by rw [up2_row (by decide), ji 421 (by decide) (by decide) (by decide) (by decide) (by decide)])
    · rw [g 420 (by decide) (by decide) (by decide), remH_7, remH_7, up2_ne (by decide), ji 420 (by decide) (by decide) (by decide) (by decide) (by decide)]
end T79zm
end
section
/-! ===== the acts keep the ranges ===== -/
section T79zn
variable {I J K : Nat → Nat → Int32} {a b n fa d p : Nat} {W V : Nat → Int32}
set_option maxRecDepth 100000
theorem Rg.du (h : Rg W) (hd : d < dn W) (f : ∀ k, (k < 23 + 6 * d ∨ 23 + 6 * d + 6 ≤ k) → V k = W k) (hv : RgD (pn W) (dn W) V d) : Rg V := by
  obtain ⟨⟨h1, h2, h3, h4⟩, hf, hp, hdd⟩ := h
  refine Rg.of h1 h2 ((f 0 (by omega)).trans h3) ((f 1 (by omega)).trans h4) (hf.eq fun k z1 z2 => f k (by omega)) (fun p z => (hp p z).eq (f _ (by omega)) (f _ (by omega))) (fun e' z => ?_)
  by_cases c : e' = d
  · rw [c]
    exact hv
  · exact (hdd e' z).eq fun k hk => f _ (by omega)
theorem Rg.pu (h : Rg W) (hp : p < pn W) (f : ∀ k, k ≠ 11 + 2 * p + 1 → V k = W k) (hv : Nb (V (11 + 2 * p + 1)) 9) : Rg V := by
  obtain ⟨⟨h1, h2, h3, h4⟩, hf, hpp, hdd⟩ := h
  refine Rg.of h1 h2 ((f 0 (by omega)).trans h3) ((f 1 (by omega)).trans h4) (hf.eq fun k z1 z2 => f k (by omega)) (fun p' z => ?_) (fun e' z => (hdd e' z).eq fun k hk => f _ (by omega))
  by_cases c : p' = p
  · subst c
    have h2 := (hpp p' z).1
    unfold RgP
    rw [f (11 + 2 * p') (by omega)]
    exact ⟨h2, hv⟩
  · exact (hpp p' z).eq (f _ (by omega)) (f _ (by omega))
theorem ix_of {m : Nat} (hm : m ≤ 12) {x : Int32} (h : inB x 0 (nI m - 1) = true) : ixN x < m ∧ x = nI (ixN x) := by
  obtain ⟨j, h1, rfl⟩ := inB_ix (by omega) h
  have e : ixN (nI j) = j := ixN_nI (by omega)
  rw [e]
  exact ⟨h1, rfl⟩
theorem vS_ix {nd : Nat} (hn : nd ≤ 12) {k x : Int32} (h : vS nd W k x = 0) : ixN x < nd ∧ W (23 + 6 * ixN x + 5) = k := by
  unfold vS at h
  by_cases c : inB x 0 (nI nd - 1) = true
  · rw [if_pos c] at h
    by_cases c2 : W (23 + 6 * ixN x + 5) = k
    · exact ⟨(ix_of hn c).1, c2⟩
    · rw [if_neg c2] at h
      exact absurd h (by decide)
  · rw [if_neg c] at h
    exact absurd h (by decide)
theorem mn99_nb {x : Int32} (h : Nb x 99) : Nb (mn 99 (x + 1)) 99 := by
  obtain ⟨k, hk, rfl⟩ := h
  by_cases e : k = 99
  · subst e
    exact ⟨99, by decide, by decide⟩
  · have t : ∀ j, j < 99 → mn 99 (nI j + 1) = nI (j + 1) := by decide +kernel
    exact ⟨k + 1, by omega, t k (by omega)⟩
theorem Nm.put (h : Nm I 235 W) {x : Int32} (c : vS (dn W) W 0 x = 0) : Nm (up2 I 240 (ixN x) (mn 99 (W (23 + 6 * ixN x + 2) + 1))) 235 (ud W (23 + 6 * ixN x + 2) (mn 99 (W (23 + 6 * ixN x + 2) + 1))) := by
  have hG := h.2.2
  have hd := (vS_ix hG.1.2.1 c).1
  have h12 : ixN x < 12 := Nat.lt_of_lt_of_le hd hG.1.2.1
  generalize ixN x = d at *
  refine ⟨Sd.ro (a := 235) (k := 2) h.1 h12 (by decide), h.2.1.eq (up2_row (by decide)) (up2_row (by decide)) (if_neg (by omega)) fun k g1 g2 => if_neg (by omega), hG.du hd (fun k hk => if_neg (by omega)) ?_⟩
  obtain ⟨a0, a1, a2, a3, a4, a5⟩ := hG.2.2.2 d hd
  unfold RgD ud
  rw [if_neg (by omega), if_neg (by omega), if_pos rfl, if_neg (by omega), if_neg (by omega), if_neg (by omega)]
  exact ⟨a0, a1, mn99_nb a2, a3, a4, a5⟩
end T79zn
end
section
/-! ===== forget, recall, hand, lean, free keep the ranges ===== -/
section T79zo
variable {I J K : Nat → Nat → Int32} {a b n fa d p : Nat} {W V : Nat → Int32}
set_option maxRecDepth 100000
theorem RgD.st {np nd : Nat} (h : RgD np nd W d) (c : ¬ W (23 + 6 * d + 5) = 1) {s : Nat} (hs : s ≤ 2) (h1 : s ≠ 1) : RgD np nd (ud W (23 + 6 * d + 5) (nI s)) d := by
  obtain ⟨a0, ⟨l, hl, e, f⟩, a2, a3, a4, a5⟩ := h
  unfold RgD ud
  rw [if_pos rfl, if_neg (by omega), if_neg (by omega), if_neg (by omega), if_neg (by omega), if_neg (by omega)]
  refine ⟨a0, ⟨l, hl, e, ⟨fun z => absurd (nI_inj (b := 1) (by omega) (by decide) z) h1, fun z => absurd (f.mpr z) c⟩⟩, a2, a3, a4, ⟨s, hs, rfl⟩⟩
theorem Nm.stt (h : Nm I 235 W) {k x : Int32} (hk : ¬ k = 1) (c : vS (dn W) W k x = 0) {s : Nat} (hs : s ≤ 2) (h1 : s ≠ 1) : Nm (up2 I 243 (ixN x) (nI s)) 235 (ud W (23 + 6 * ixN x + 5) (nI s)) := by
  have hG := h.2.2
  have hd := (vS_ix hG.1.2.1 c).1
  have hc := (vS_ix hG.1.2.1 c).2
  have h12 : ixN x < 12 := Nat.lt_of_lt_of_le hd hG.1.2.1
  generalize ixN x = d at *
  refine ⟨Sd.ro (a := 235) (k := 5) h.1 h12 (by decide), h.2.1.eq (up2_row (by decide)) (up2_row (by decide)) (if_neg (by omega)) fun k g1 g2 => if_neg (by omega), hG.du hd (fun k hk => if_neg (by omega)) ?_⟩
  exact (hG.2.2.2 d hd).st (by rw [hc]; exact hk) hs h1
theorem Nm.hand (h : Nm I 235 W) {x y : Int32} (c : vH (dn W) (pn W) W x y = 0) : Nm (up2 I 238 (ixN x) y) 235 (ud W (23 + 6 * ixN x + 0) y) := by
  have hG := h.2.2
  have hn := hG.1.2.1
  have hm := hG.1.1
  unfold vH at c
  by_cases c0 : inB x 0 (nI (dn W) - 1) = true ∧ inB y 0 (nI (pn W) - 1) = true
  · have hd := (ix_of hn c0.1).1
    obtain ⟨j, hj, ey⟩ := inB_ix (by omega) c0.2
    have h12 : ixN x < 12 := Nat.lt_of_lt_of_le hd hn
    clear c c0
    generalize ixN x = d at *
    refine ⟨Sd.ro (a := 235) (k := 0) h.1 h12 (by decide), h.2.1.eq (up2_row (by decide)) (up2_row (by decide)) (if_neg (by omega)) fun k g1 g2 => if_neg (by omega), hG.du hd (fun k hk => if_neg (by omega)) ?_⟩
    obtain ⟨a0, a1, a2, a3, a4, a5⟩ := hG.2.2.2 d hd
    unfold RgD ud
    rw [if_pos rfl, if_neg (by omega), if_neg (by omega), if_neg (by omega), if_neg (by omega), if_neg (by omega)]
    exact ⟨⟨j, hj, ey⟩, a1, a2, a3, a4, a5⟩
  · rw [if_neg c0] at c
    exact absurd c (by decide)
theorem Nm.lean (h : Nm I 235 W) {x y : Int32} (c : vL (dn W) x y = 0) : Nm (up2 I 242 (ixN x) y) 235 (ud W (23 + 6 * ixN x + 4) y) := by
  have hG := h.2.2
  have hn := hG.1.2.1
  unfold vL at c
  by_cases c0 : inB x 0 (nI (dn W) - 1) = true ∧ (y = -1 ∨ inB y 0 (nI (dn W) - 1) = true)
  · have hd := (ix_of hn c0.1).1
    have ey : y = -1 ∨ ∃ k, k < dn W ∧ y = nI k := c0.2.imp id fun z => inB_ix (by omega) z
    have h12 : ixN x < 12 := Nat.lt_of_lt_of_le hd hn
    clear c c0
    generalize ixN x = d at *
    refine ⟨Sd.ro (a := 235) (k := 4) h.1 h12 (by decide), h.2.1.eq (up2_row (by decide)) (up2_row (by decide)) (if_neg (by omega)) fun k g1 g2 => if_neg (by omega), hG.du hd (fun k hk => if_neg (by omega)) ?_⟩
    obtain ⟨a0, a1, a2, a3, a4, a5⟩ := hG.2.2.2 d hd
    unfold RgD ud
    rw [if_pos rfl, if_neg (by omega), if_neg (by omega), if_neg (by omega), if_neg (by omega), if_neg (by omega)]
    exact ⟨a0, a1, a2, a3, ey, a5⟩
  · rw [if_neg c0] at c
    exact absurd c (by decide)
theorem Nm.free (h : Nm I 235 W) {x y : Int32} (c : vF (pn W) x y = 0) : Nm (up2 I 237 (ixN x) y) 235 (ud W (11 + 2 * ixN x + 1) y) := by
  have hG := h.2.2
  have hm := hG.1.1
  unfold vF at c
  by_cases c0 : inB x 0 (nI (pn W) - 1) = true
  · rw [if_pos c0] at c
    by_cases c1 : inB y 0 9 = true
    · have hp := (ix_of (Nat.le_trans hm (by decide)) c0).1
      obtain ⟨j, _, hj, ey⟩ := inB_nI (a := 0) (b := 9) (by decide) c1
      have h6 : ixN x < 6 := Nat.lt_of_lt_of_le hp hm
      clear c c0 c1
      generalize ixN x = p at *
      refine ⟨Sd.fr (a := 235) h.1 h6, h.2.1.eq (up2_row (by decide)) (up2_row (by decide)) (if_neg (by omega)) fun k g1 g2 => if_neg (by omega), hG.pu hp (fun k hk => if_neg (by omega)) ?_⟩
      unfold ud
      rw [if_pos rfl]
      exact ⟨j, hj, ey⟩
    · rw [if_neg c1] at c
      exact absurd c (by decide)
  · rw [if_neg c0] at c
    exact absurd c (by decide)
end T79zo
end
section
/-! ===== call, days keep the relation ===== -/
section T79zp
variable {I J K : Nat → Nat → Int32} {a b n fa d p nl len m : Nat} {cd fc fn : Nat → Nat} {W V : Nat → Int32}
set_option maxRecDepth 100000
theorem Nm.call (h : Nm I 235 W) {x : Int32} (c : vC (dn W) W x = 0) : Nm (up2 (up2 I 239 (ixN x) 0) 243 (ixN x) 1) 235 (ud (ud W (23 + 6 * ixN x + 1) 0) (23 + 6 * ixN x + 5) 1) := by
  have hG := h.2.2
  have hn := hG.1.2.1
  unfold vC at c
  by_cases c0 : inB x 0 (nI (dn W) - 1) = true
  · have hd := (ix_of hn c0).1
    have h12 : ixN x < 12 := Nat.lt_of_lt_of_le hd hn
    clear c c0
    generalize ixN x = d at *
    refine ⟨Sd.ro (a := 235) (k := 5) (Sd.ro (a := 235) (k := 1) h.1 h12 (by decide)) h12 (by decide), h.2.1.eq ?_ ?_ ?_ fun k g1 g2 => ?_, (hG.upd hd (fun k k1 k5 => ?_) (l := 0) (s := 1) (by decide) ?_ (by decide) ?_ (by decide)).1⟩
    · rw [up2_row (by decide), up2_row (by decide)]
    · rw [up2_row (by decide), up2_row (by decide)]
    · unfold ud
      rw [if_neg (by omega), if_neg (by omega)]
    · unfold ud
      rw [if_neg (by omega), if_neg (by omega)]
    · unfold ud
      rw [if_neg k5, if_neg k1]
    · unfold ud
      rw [if_neg (by omega), if_pos rfl]
      rfl
    · unfold ud
      rw [if_pos rfl]
      rfl
  · rw [if_neg c0] at c
    exact absurd c (by decide)
/-- the days of both sides keep the relation -/
theorem Sim.days (h : Sim I) (hp : PsN I n fa) (ok : DsOk nl (I 421) (dsW false cd fc fn nl (I 421) m)) (f : ∀ q, (q < 235 ∨ 245 < q) → q ≠ 252 → q ≠ 253 → J q = reS I n fa q) (D : Sd J 235 (dsW false cd fc fn nl (I 421) m)) (G : Lg J 235 (dsW false cd fc fn nl (I 421) m)) (g : ∀ q, q ≠ 421 → q ≠ 428 → q ≠ 429 → K q = remH (up2 J 420 0 0) n q) (g1 : K 421 = dsW false cd fc fn nl (I 421) m) : Sim K := by
  refine h.act hp f g ?_ ?_ ?_
  · rw [g1]
    exact ⟨D, G, ok.1⟩
  · rw [g1]
    exact ok.2.2.2.2.1
  · rw [g1]
    exact ok.2.2.2.2.2
end T79zp
end
section
/-! ===== law of both sides with finer frames; both laws alike behind a text (printed by program) ===== -/
section T79zq
variable {S : aS} {I J : Nat → Nat → Int32} {L : Nat → Nat → Int64} {w1 w2 t : Nat} {e b nd np : Nat} {T W K : Nat → Int32} {o : List Int32} {ls : List LnT}
set_option maxRecDepth 100000
/-- what law may change in the class -/
def sLf (q k : Nat) : Bool := sW q k || ((Nat.beq q 200 && Nat.beq k 3) || (Nat.beq q 201 && Nat.beq k 1))
def sLw (q k : Nat) : Bool := sLf q k || ((Nat.beq q 200 && Nat.beq k 13) || (Nat.ble 246 q && Nat.ble q 251))
theorem sW_sLf : ∀ q k, sW q k = true → sLf q k = true := fun q k h => by
  unfold sLf
  rw [h]
  rfl
theorem sLf_sLw : ∀ q k, sLf q k = true → sLw q k = true := fun q k h => by
  unfold sLw
  rw [h]
  rfl
theorem sLw_l {q k : Nat} (h1 : 246 ≤ q) (h2 : q ≤ 251) : sLw q k = true := by
  unfold sLw
  rw [Nat.ble_eq_true_of_le h1, Nat.ble_eq_true_of_le h2]
  cases sLf q k <;> cases (Nat.beq q 200 && Nat.beq k 13) <;> rfl
theorem sLf_hi {q k : Nat} (h : 235 ≤ q) : sLf q k = false := by
  have n : ∀ {x : Nat}, x < 235 → Nat.beq q x = false := fun hx => beqF (by omega)
  have m : ∀ {x : Nat}, x < 235 → Nat.ble q x = false := fun {x} hx => by
    cases hb : Nat.ble q x with
    | false => rfl
    | true => exact absurd (Nat.le_of_ble_eq_true hb) (by omega)
  simp [sLf, sW, sC, n, m]
theorem sLw_hi {q k : Nat} (h : 235 ≤ q) (h2 : q < 246 ∨ 251 < q) : sLw q k = false := by
  unfold sLw
  rw [sLf_hi h, beqF (show q ≠ 200 by omega)]
  rcases h2 with h2 | h2
  · have e1 : Nat.ble 246 q = false := by
      cases hb : Nat.ble 246 q with
      | false => rfl
      | true => exact absurd (Nat.le_of_ble_eq_true hb) (by omega)
    rw [e1]
    rfl
  · have e1 : Nat.ble q 251 = false := by
      cases hb : Nat.ble q 251 with
      | false => rfl
      | true => exact absurd (Nat.le_of_ble_eq_true hb) (by omega)
    rw [e1]
    cases Nat.ble 246 q <;> rfl
theorem h_lawS (hw : WdS S) (hr : RI nd np I) (hbt : BtT T) (hT : I 426 = T) (h9 : I 420 9 = nI e) (h4 : e ≤ 400) : Sp S m_X12_law 62 0 0 [.ref 420] (hp I L w1 w2 t) (fun v h' => v = some (.int (if (lawP T e).1 = true then nI (lawP T e).2.2.2.length else 0)) ∧ ∃ J, h' = hp J L w1 w2 t ∧ Us nd np I J ∧ J 420 0 = (if (lawP T e).1 = true then 0 else 1) ∧ J 420 14 = (if (lawP T e).1 = true then -1 else nI (lawP T e).2.1) ∧ (∀ q, q ≠ 420 → q ≠ 421 → J q = I q) ∧ LwJ (lawP T e) I J ∧ ((lawP T e).1 = true → J 420 7 = 0 ∧ ∀ k, k < 335 → k ≠ 3 → J 421 k = I 421 k) ∧ ((lawP T e).1 = false → J 420 7 = I 420 7)) nX := by
  refine Sp_of ok_X12_law rfl rfl ?_
  show AW S m_X12_law 62 _ _ 0 0 0 [some (.ref 420), none, none] [] (hp I L w1 w2 t)
  have fU : Fm sL I (usH I) := by
    unfold usH
    exact Fm.up (Fm.up (Fm.up (Fm.up Fm.rf rfl) rfl) rfl) rfl
  have u0 : usH I 420 0 = 0 := by
    unfold usH
    rw [up2_ne (Or.inr (by decide)), up2_ne (Or.inr (by decide)), up2_ne (Or.inr (by decide))]
    exact up2_at
  refine a_l0 rfl rfl rfl ?_
  refine a_s rfl rfl ?_
  refine a_gV rfl lX12_239 mo_X12_readAll (h_readAllL hw hbt hT h9 h4) rfl rfl rfl ⟨12, _, rfl, rfl, rfl⟩ rfl (fun v' h' hv => ?_)
  obtain ⟨rfl, J, rfl, hF, hn, hy⟩ := hv
  have hG : GL I J := ⟨Fm.tr fU (Fm.mo hF sG_sL), (hF 420 9 rfl).trans usH_9⟩
  have j0 : J 420 0 = 0 := (hF 420 0 rfl).trans u0
  have other : ∀ q, q ≠ 420 → q ≠ 421 → J q = I q := fun q g1 g2 => by
    rw [show J q = usH I q from funext fun k => hF q k (by unfold sG sR; rw [beqF g1, beqF g2]; rfl), usH_row g1]
  rcases er : lawP T e with ⟨z, b1, o1, l1⟩
  rw [er] at hn hy
  have lok := lawP_ok (T := T) (e := e)
  rw [er] at lok
  cases z with
  | false =>
    refine a_top (y := (-1)) (rfl) ?_
    refine a_s1 rfl rfl rfl rfl rfl rfl ?_
    refine a_l0 rfl rfl rfl ?_
    refine a_l1 rfl rfl rfl ?_
    refine a_if_ge rfl (fun c => absurd c (by decide)) (fun _ => ?_)
    refine a_l0 rfl rfl rfl ?_
    refine a_getiv (v := nI b1) rfl gfX12_91_12 rfl (hn rfl) ?_
    refine a_goto rfl ?_
    refine a_puti rfl pfX12_33_12 rfl ?_
    refine a_l0 rfl rfl rfl ?_
    refine a_l1 rfl rfl rfl ?_
    refine a_if_ge rfl (fun c => absurd c (by decide)) (fun _ => ?_)
    refine a_s rfl rfl ?_
    refine a_goto rfl ?_
    refine a_s rfl rfl ?_
    refine a_eV1 rfl lX12_243 mo_X12_throwsIf (h_throwsIf (z := true)) rfl rfl rfl ⟨12, _, rfl, rfl, rfl⟩ rfl ?_
    rw [if_pos rfl]
    refine a_if_eq rfl (fun c => absurd c (by decide)) (fun _ => ?_)
    refine a_s rfl rfl ?_
    have g2 : GL I (up2 (up2 J 420 14 (nI b1)) 420 0 1) := ⟨Fm.up (Fm.up hG.1 rfl) rfl, (up2_ne (Or.inr (by decide))).trans ((up2_ne (Or.inr (by decide))).trans hG.2)⟩
    refine a_iret rfl rfl ⟨rfl, _, rfl, Us.same hr g2, ?_, ?_, ?_, ⟨?_, ?_⟩, (fun z => by cases z), fun _ => ?_⟩
    · exact up2_at
    · exact (up2_ne (Or.inr (by decide))).trans up2_at
    · intro q g1 g3
      rw [up2_row g1, up2_row g1]
      exact other q g1 g3
    · exact fun z => by cases z
    · intro _ k hk
      rw [up2_row (by decide), up2_row (by decide), hF 421 k (sG_lo hk), usH_row (by decide)]
    · exact (up2_ne (Or.inr (by decide))).trans ((up2_ne (Or.inr (by decide))).trans (hG.1 420 7 rfl))
  | true =>
    refine a_top (y := nI l1.length) (rfl) ?_
    obtain ⟨x1, x2, x3, x4, x5⟩ := hy rfl
    have x4 : l1.length ≤ 12 := x4
    have x5 : o1.length ≤ 400 := x5
    refine a_s1 rfl rfl rfl rfl rfl rfl ?_
    refine a_l0 rfl rfl rfl ?_
    refine a_l1 rfl rfl rfl ?_
    refine a_if_ge rfl (fun _ => ?_) (fun c => absurd (nI_0le (k := l1.length) (by omega)) c)
    refine a_s rfl rfl ?_
    refine a_puti rfl pfX12_33_12 rfl ?_
    refine a_l0 rfl rfl rfl ?_
    refine a_l1 rfl rfl rfl ?_
    refine a_if_ge rfl (fun _ => ?_) (fun c => absurd (nI_0le (k := l1.length) (by omega)) c)
    refine a_s rfl rfl ?_
    refine a_s rfl rfl ?_
    refine a_eV1 rfl lX12_243 mo_X12_throwsIf (h_throwsIf (z := false)) rfl rfl rfl ⟨12, _, rfl, rfl, rfl⟩ rfl ?_
    rw [if_neg Bool.false_ne_true]
    generalize hK : up2 J 420 14 (-1) = K
    have gK : GL I K := by
      subst hK
      exact ⟨Fm.up hG.1 rfl, (up2_ne (Or.inr (by decide))).trans hG.2⟩
    have eK : K 421 = J 421 := by
      subst hK
      exact up2_row (by decide)
    have k0 : K 420 0 = 0 := by
      subst hK
      exact (up2_ne (Or.inr (by decide))).trans j0
    have k14 : K 420 14 = -1 := by
      subst hK
      exact up2_at
    have kother : ∀ q, q ≠ 420 → q ≠ 421 → K q = I q := fun q g1 g2 => by
      subst hK
      rw [up2_row g1]
      exact other q g1 g2
    have fin := Us.law (nl := l1.length) hr gK x4 x5 (by rw [eK]; exact LD_of x2 x3 (lok rfl))
    refine a_if_eq rfl (fun _ => ?_) (fun c => absurd rfl c)
    refine a_l0 rfl rfl rfl ?_
    refine a_getq rfl gfX12_13_12 rfl (rfl) ?_
    refine a_s rfl rfl ?_
    refine a_l1 rfl rfl rfl ?_
    refine a_iastv (k := 1184) rfl (n := 2033) rfl ⟨by decide, by decide⟩ rfl ?_
    refine a_s rfl rfl ?_
    refine a_s2 rfl rfl rfl rfl rfl rfl ?_
    refine a_forE (n := 849) (fun j => [some (.ref 420), some (.int (nI l1.length)), some (.int (nI j))]) (fun j => hp (cpR (up2 K 421 1184 (nI l1.length)) 421 335 421 1184 j) L w1 w2 t) (by simp [lsub, nI_0]) (by rw [cpR_0]) ?_ (fun j hj ih => ?_)
    · refine a_l2 rfl rfl rfl ?_
      refine a_s rfl rfl ?_
      refine a_ic_ge rfl (fun _ => ?_) (fun c => absurd (Int32.le_refl _) c)
      refine a_l0 rfl rfl rfl ?_
      refine a_getq rfl gfX12_13_12 rfl (rfl) ?_
      refine a_s rfl rfl ?_
      refine a_s rfl rfl ?_
      refine a_iastv (k := 3) rfl (n := 2033) rfl ⟨by decide, by decide⟩ rfl ?_
      refine a_l0 rfl rfl rfl ?_
      refine a_s rfl rfl ?_
      refine a_puti rfl pfX12_53_12 rfl ?_
      refine a_l1 rfl rfl rfl ?_
      have r0 : ∀ k, k ≠ 7 → lawH K l1.length 420 k = K 420 k := fun k hk => by
        unfold lawH
        rw [up2_ne (Or.inr hk), up2_row (by decide), cpR_row (by decide), up2_row (by decide)]
      refine a_iret rfl rfl ⟨rfl, _, rfl, fin, ?_, ?_, ?_, ⟨?_, ?_⟩, (fun _ => ⟨?_, fun k k1 k2 => ?_⟩), (fun z => by cases z)⟩
      · exact (r0 0 (by decide)).trans k0
      · exact (r0 14 (by decide)).trans k14
      · intro q g1 g2
        show lawH K l1.length q = I q
        unfold lawH
        rw [up2_row g1, up2_row g2, cpR_row g2, up2_row g2]
        exact kother q g1 g2
      · refine fun _ => ⟨?_, ?_, J 421, x2, x3, fun k k1 k2 => ?_⟩
        · show lawH K l1.length 421 3 = 1
          unfold lawH
          rw [up2_row (by decide)]
          exact up2_at
        · show lawH K l1.length 421 335 = nI l1.length
          unfold lawH
          rw [up2_row (by decide), u2_lo (by decide), show 335 = 335 + 0 by omega, cpR_in (by decide)]
          exact up2_at
        · show lawH K l1.length 421 (335 + k) = _
          unfold lawH
          rw [up2_row (by decide), u2_lo (by omega), cpR_in k2, u2_lo (by omega), eK, Nat.add_comm]
      · exact fun z => by cases z
      · show lawH K l1.length 420 7 = 0
        unfold lawH
        exact up2_at
      · show lawH K l1.length 421 k = I 421 k
        unfold lawH
        rw [up2_row (by decide), u2_lo k2, cpR_out (by omega), u2_lo (by omega), eK]
        exact hG.1 421 k (sL_lo (by omega))
    · refine a_l2 rfl rfl rfl ?_
      refine a_s rfl rfl ?_
      refine a_ic_ge rfl (fun c => absurd c (nI_ge (b := 849) hj (by omega))) (fun _ => ?_)
      refine a_l0 rfl rfl rfl ?_
      refine a_getq rfl gfX12_13_12 rfl (rfl) ?_
      refine a_s rfl rfl ?_
      refine a_l2 rfl rfl rfl ?_
      refine a_s rfl rfl ?_
      refine a_top (y := nI (335 + j)) (nI_addl 335 j) ?_
      refine a_l0 rfl rfl rfl ?_
      refine a_getq rfl gfX12_13_12 rfl (rfl) ?_
      refine a_s rfl rfl ?_
      refine a_l2 rfl rfl rfl ?_
      refine a_s rfl rfl ?_
      refine a_top (y := nI (1184 + j)) (nI_addl 1184 j) ?_
      refine a_ialdv (v := up2 K 421 1184 (nI l1.length) 421 (j + 1184)) rfl (n := 2033) rfl (inI_nI (by omega) (by omega)) (by rw [nI_clamp (by omega), cpR_out (by omega), Nat.add_comm]) ?_
      refine a_iastv (k := 335 + j) rfl (n := 2033) rfl (inI_nI (by omega) (by omega)) (nI_clamp (by omega)) ?_
      rw [cpR_succ]
      refine a_i2 rfl rfl rfl ?_
      refine a_goto rfl ?_
      exact a_back ih (by simp [lsub, nI_1]) rfl
theorem f_lawS (hw : WdS S) (he : I 201 1 = nI e) (h4 : e ≤ 400) (hbt : BtT T) (hT : I 202 = T) (hm : I 220 1 = 12) : Sp S m_X11_law 21 1 6 [.ref 200] (hp I L w1 w2 t) (fun v h' => v = some (.int (nI (lawP T e).2.2.2.length)) ∧ (lawP T e).1 = true ∧ ∃ J w, h' = hp J L w1 w t ∧ WK w ∧ Mt0 I J ∧ LwC (lawP T e) J ∧ Fm sLw I J ∧ (lawP T e).2.2.2.length ≤ 12 ∧ (lawP T e).2.2.1.length ≤ 400) (fun E h' => E = exN 1 ∧ (lawP T e).1 = false ∧ ∃ J w, h' = hp J L w1 w 0 ∧ WK w ∧ Mt0 I J ∧ J 200 3 = nI (lawP T e).2.1 ∧ Fm sLf I J) := by
  refine Sp_of ok_X11_law rfl rfl ?_
  show AW S m_X11_law 21 _ _ 1 6 0 [some (.ref 200)] [] (hp I L w1 w2 t)
  refine a_l0 rfl rfl rfl ?_
  refine a_getq rfl gfX11_26_11 rfl (rfl) ?_
  refine a_getq rfl gfX11_98_3 rfl (rfl) ?_
  refine a_eV0 rfl lX11_100 mo_X2_clear f_clear rfl rfl rfl ⟨2, _, rfl, rfl, rfl⟩ rfl ?_
  refine a_l0 rfl rfl rfl ?_
  refine a_l0 rfl rfl rfl ?_
  refine a_getq rfl gfX11_26_11 rfl (rfl) ?_
  refine a_l0 rfl rfl rfl ?_
  refine a_getq rfl gfX11_10_11 rfl (rfl) ?_
  have g1 : ∀ q, q ≠ 226 → up2 (up2 I 226 0 0) 226 1 0 q = I q := fun q hq => by rw [up2_row hq, up2_row hq]
  refine a_callU rfl lu_103 dc_readLines mo_X8_readLines hx_rl (f_readLines hw ((congrFun (g1 201 (by decide)) 1).trans he) h4 (by rw [g1 202 (by decide), hT]; exact hbt) ((congrFun (g1 220 (by decide)) 1).trans hm) ((up2_ne (Or.inr (by decide))).trans up2_at) up2_at) rfl rfl rfl ⟨3, _, rfl, rfl, rfl⟩ rfl (fun v' h' hv => ?_) (fun _ _ z => False.elim z)
  rw [g1 202 (by decide), hT] at hv
  obtain ⟨rfl, J, w, rfl, hww, hF, hy⟩ := hv
  have f0 : Fm sLf I J := Fm.tr (Fm.up (Fm.up Fm.rf rfl) rfl) (Fm.mo hF sW_sLf)
  have fM : Mt I J := Mt.of (Fm.tr (Fm.up (Fm.up Fm.rf rfl) rfl) (Fm.mo hF sW_sM))
  rcases er : lawP T e with ⟨z, b1, o1, l1⟩
  rw [er] at hy
  cases z with
  | false =>
    rw [if_neg Bool.false_ne_true]
    refine a_puti rfl pfX11_30_11 rfl ?_
    refine a_l0 rfl rfl rfl ?_
    refine a_getq rfl gfX11_10_11 rfl (rfl) ?_
    refine a_s rfl rfl ?_
    refine a_puti rfl pfX11_68_7 rfl ?_
    have fM0 : Mt0 I (up2 (up2 J 200 3 (nI b1)) 201 1 0) := Mt0.mk (Mt.fm fM (Fm.up Fm.rf rfl))
    have e3 : up2 (up2 J 200 3 (nI b1)) 201 1 0 200 3 = nI b1 := (congrFun (up2_row (by decide)) 3).trans up2_at
    refine a_l0 rfl rfl rfl ?_
    refine a_getiv (v := nI b1) rfl gfX11_30_11 rfl (e3) ?_
    refine a_s rfl rfl ?_
    have hb1 : b1 < 2 ^ 31 := by
      have := lawP_le (T := T) (e := e)
      rw [er] at this
      have this : b1 ≤ e := this
      omega
    refine a_ic_eq rfl (fun c => absurd c ?_) (fun _ => ?_)
    · intro z
      have := nI_pos hb1
      rw [z] at this
      exact this (by decide)
    exact a_throw rfl rfl rfl rfl tX11_iae rfl rfl rfl rfl rfl ⟨rfl, rfl, _, w, rfl, hww, fM0, e3, Fm.up (Fm.up f0 rfl) rfl⟩
  | true =>
    rw [if_pos rfl]
    obtain ⟨y1, y2, y3, y4, y5, y6⟩ := hy rfl
    refine a_puti rfl pfX11_30_11 rfl ?_
    refine a_l0 rfl rfl rfl ?_
    refine a_getq rfl gfX11_10_11 rfl (rfl) ?_
    refine a_s rfl rfl ?_
    refine a_puti rfl pfX11_68_7 rfl ?_
    have fM0 : Mt0 I (up2 (up2 J 200 3 (-1)) 201 1 0) := Mt0.mk (Mt.fm fM (Fm.up Fm.rf rfl))
    refine a_l0 rfl rfl rfl ?_
    refine a_getiv (v := (-1)) rfl gfX11_30_11 rfl ((congrFun (up2_row (by decide)) 3).trans up2_at) ?_
    refine a_s rfl rfl ?_
    refine a_ic_eq rfl (fun _ => ?_) (fun c => absurd rfl c)
    refine a_l0 rfl rfl rfl ?_
    refine a_getq rfl gfX11_44_11 rfl (rfl) ?_
    refine a_l0 rfl rfl rfl ?_
    refine a_getq rfl gfX11_26_11 rfl (rfl) ?_
    refine a_getq rfl gfX11_98_3 rfl (rfl) ?_
    refine a_eV0 rfl lX11_104 mo_X2_copyFrom (sp_X2_copyFrom (a := 246) (b := 226) (by decide) (by decide) (by decide)) rfl rfl rfl ⟨2, _, rfl, rfl, rfl⟩ rfl ?_
    refine a_l0 rfl rfl rfl ?_
    refine a_s rfl rfl ?_
    refine a_puti rfl pfX11_95_11 rfl ?_
    have fM1 : Mt0 I (up2 (cpL (up2 (up2 J 200 3 (-1)) 201 1 0) 246 226) 200 13 0) := Mt0.fm (Mt0.fm fM0 (Fm.cl (Fm.rf (s := sM)) (by decide) Fm_l246)) (Fm.up Fm.rf rfl)
    have r0 : ∀ k, up2 (cpL (up2 (up2 J 200 3 (-1)) 201 1 0) 246 226) 200 13 0 246 k = cpL (up2 (up2 J 200 3 (-1)) 201 1 0) 246 226 246 k := fun k => congrFun (up2_row (by decide)) k
    have e0 : up2 (cpL (up2 (up2 J 200 3 (-1)) 201 1 0) 246 226) 200 13 0 246 0 = nI l1.length := by
      rw [r0]
      unfold cpL
      rw [up2_at, up2_row (by decide), up2_row (by decide)]
      exact y3
    have ri : ∀ i, i < 5 → up2 (cpL (up2 (up2 J 200 3 (-1)) 201 1 0) 246 226) 200 13 0 (247 + i) = J (227 + i) := fun i hi => by
      rw [up2_row (by omega)]
      unfold cpL
      rw [up2_row (by omega), show 247 + i = 246 + 1 + i from rfl, cpS_in hi, up2_row (by omega), up2_row (by omega)]
    refine a_l0 rfl rfl rfl ?_
    refine a_getq rfl gfX11_44_11 rfl (rfl) ?_
    refine a_getiv (v := nI l1.length) rfl gfX11_107_2 rfl (e0) ?_
    have f1 : Fm sLw I (up2 (cpL (up2 (up2 J 200 3 (-1)) 201 1 0) 246 226) 200 13 0) := Fm.up (Fm.cl (Fm.mo (Fm.up (Fm.up f0 rfl) rfl) sLf_sLw) rfl fun i k hi => sLw_l (by omega) (by omega)) rfl
    refine a_iret rfl rfl ⟨rfl, rfl, _, w, rfl, hww, fM1, ⟨?_, up2_at, e0, ?_, ?_⟩, f1, y5, y6⟩
    · rw [up2_ne (Or.inr (by decide))]
      unfold cpL
      rw [up2_row (by decide), cpS_out (by decide), up2_row (by decide)]
      exact up2_at
    · rw [show (247 : Nat) = 247 + 0 from rfl, show (248 : Nat) = 247 + 1 from rfl, show (249 : Nat) = 247 + 2 from rfl, show (250 : Nat) = 247 + 3 from rfl, ri 0 (by decide), ri 1 (by decide), ri 2 (by decide), ri 3 (by decide)]
      exact y4
    · rw [show (251 : Nat) = 247 + 4 from rfl, ri 4 (by decide)]
      exact y2
/-- the numbers of a law's lines -/
def LnB (ls : List LnT) : Prop := ∀ i, i < ls.length → Nb (lnAt ls i).2.1 60
theorem LnB.ad {k v : Int32} {x y : Nat} (h : LnB ls) (hv : Nb v 60) : LnB ((k, v, x, y) :: ls) := fun i hi => by
  have hi : i < ls.length + 1 := hi
  by_cases c : i = ls.length
  · rw [show lnAt ((k, v, x, y) :: ls) i = (k, v, x, y) from if_pos c]
    exact hv
  · rw [show lnAt ((k, v, x, y) :: ls) i = lnAt ls i from if_neg c]
    exact h i (by omega)
theorem lnP_nb (hz : (lnP T e b o).1 = true) : Nb (nm T e (nx T e b) 0 60) 60 := by
  unfold lnP at hz
  by_cases c1 : kndP T e b = -1
  · rw [if_pos c1] at hz
    cases hz
  rw [if_neg c1] at hz
  by_cases c2 : nm T e (nx T e b) 0 60 = -1
  · rw [if_pos c2] at hz
    cases hz
  exact Nc.nb (nm_rg (T := T) (e := e) (b := nx T e b) (l := 0) (m := 60) (by decide) (by decide) c2)
theorem lnsP_nb : ∀ (f b : Nat) (o : List Int32) (ls : List LnT), LnB ls → (lnsP T e f b o ls).1 = true → LnB (lnsP T e f b o ls).2.2.2 := by
  intro f
  induction f with
  | zero => exact fun b o ls _ z => by cases z
  | succ f ih =>
    intro b o ls h hz
    rw [lnsP_s] at hz ⊢
    by_cases c1 : (lnP T e b o).1 = true
    · rw [if_pos c1] at hz ⊢
      have h2 : LnB (lnV T e b o (lnP T e b o).2.2 :: ls) := LnB.ad h (lnP_nb c1)
      by_cases c2 : (lnP T e b o).2.1 < e
      · rw [if_pos c2] at hz ⊢
        by_cases c3 : sg T e (lnP T e b o).2.1 59 = true
        · rw [if_pos c3] at hz ⊢
          exact ih _ _ _ h2 hz
        · rw [if_neg c3] at hz
          cases hz
      · rw [if_neg c2]
        exact h2
    · rw [if_neg c1] at hz
      cases hz
theorem lawP_nb (hz : (lawP T e).1 = true) : LnB (lawP T e).2.2.2 := by
  have h0 : LnB [] := fun i hi => absurd hi (Nat.not_lt_zero _)
  unfold lawP at hz ⊢
  by_cases c : bg T e 0 < e
  · rw [if_pos c] at hz ⊢
    exact lnsP_nb _ _ _ _ h0 hz
  · rw [if_neg c]
    exact h0
theorem LnL.at {f0 f1 f2 f3 : Nat → Int32} : ∀ {r : List LnT}, LnL f0 f1 f2 f3 r → ∀ i, i < r.length → f0 i = (lnAt r i).1 ∧ f1 i = (lnAt r i).2.1 ∧ f2 i = nI (lnAt r i).2.2.1 ∧ f3 i = nI (lnAt r i).2.2.2 := by
  intro r
  induction r with
  | nil => exact fun _ i hi => absurd hi (Nat.not_lt_zero _)
  | cons x r ih =>
    intro h i hi
    have hi : i < r.length + 1 := hi
    by_cases c : i = r.length
    · rw [show lnAt (x :: r) i = x from if_pos c, c]
      exact h.1
    · rw [show lnAt (x :: r) i = lnAt r i from if_neg c]
      exact ih h.2 i (by omega)
theorem RowL.at {f : Nat → Int32} : ∀ {r : List Int32}, RowL f r → ∀ i, i < r.length → f i = cdL r i := by
  intro r
  induction r with
  | nil => exact fun _ i hi => absurd hi (Nat.not_lt_zero _)
  | cons x r ih =>
    intro h i hi
    have hi : i < r.length + 1 := hi
    by_cases c : i = r.length
    · rw [show cdL (x :: r) i = x from if_pos c, c]
      exact h.1
    · rw [show cdL (x :: r) i = cdL r i from if_neg c]
      exact ih h.2 i (by omega)
/-- both laws are alike behind the same text -/
theorem Nl.of (hk : LsOk o ls) (h12 : ls.length ≤ 12) (h400 : o.length ≤ 400) (hB : LnB ls) (c0 : J 246 0 = nI ls.length) (c1 : LnL (J 247) (J 248) (J 249) (J 250) ls) (c2 : RowL (J 251) o) (w3 : W 3 = 1) (w335 : W 335 = nI ls.length) (k1 : RowS K o) (k2 : LnW K ls) (ek : ∀ k, 1 ≤ k → k < 849 → W (335 + k) = K (1184 + k)) : Nl J 246 W := by
  obtain ⟨g1, g2⟩ := hk
  have ln : ∀ n, n < ls.length → W (336 + 4 * n) = (lnAt ls n).1 ∧ W (336 + 4 * n + 1) = (lnAt ls n).2.1 ∧ W (336 + 4 * n + 2) = nI (lnAt ls n).2.2.1 ∧ W (336 + 4 * n + 3) = nI (lnAt ls n).2.2.2 := fun n hn => by
    obtain ⟨l1, l2, l3, l4⟩ := LnW.at k2 n hn
    refine ⟨?_, ?_, ?_, ?_⟩
    · rw [show 336 + 4 * n = 335 + (1 + 4 * n) by omega, ek _ (by omega) (by omega), show 1184 + (1 + 4 * n) = 1185 + 4 * n by omega]
      exact l1
    · rw [show 336 + 4 * n + 1 = 335 + (2 + 4 * n) by omega, ek _ (by omega) (by omega), show 1184 + (2 + 4 * n) = 1185 + 4 * n + 1 by omega]
      exact l2
    · rw [show 336 + 4 * n + 2 = 335 + (3 + 4 * n) by omega, ek _ (by omega) (by omega), show 1184 + (3 + 4 * n) = 1185 + 4 * n + 2 by omega]
      exact l3
    · rw [show 336 + 4 * n + 3 = 335 + (4 + 4 * n) by omega, ek _ (by omega) (by omega), show 1184 + (4 + 4 * n) = 1185 + 4 * n + 3 by omega]
      exact l4
  have hj : ∀ n, n < ls.length → (lnAt ls n).2.2.1 + ((lnAt ls n).2.2.2 - (lnAt ls n).2.2.1) = (lnAt ls n).2.2.2 := fun n hn => by
    have := (g2 n hn).1
    omega
  refine ⟨ls.length, o.length, cdN o, fun n => (lnAt ls n).2.2.1, fun n => (lnAt ls n).2.2.2 - (lnAt ls n).2.2.1, ⟨⟨Or.inr c0, h12, h400, fun i hi => ?_, fun n hn => ?_⟩, ⟨Or.inr ⟨w3, w335⟩, h12, h400, fun i hi => ?_, fun n hn => ?_⟩, fun n hn => ?_, ⟨fun z => ?_, fun z => ?_⟩⟩, h12, fun n hn => ?_⟩
  · obtain ⟨k, m, -, -, -, -, -, a6⟩ := okC_st (cdL_ok g1 i hi)
    exact (RowL.at c2 i hi).trans a6
  · obtain ⟨-, -, a3, a4⟩ := LnL.at c1 n hn
    refine ⟨a3, ?_, ?_, (g2 n hn).2.2⟩
    · show J 250 n = nI ((lnAt ls n).2.2.1 + ((lnAt ls n).2.2.2 - (lnAt ls n).2.2.1))
      rw [hj n hn]
      exact a4
    · show (lnAt ls n).2.2.1 + ((lnAt ls n).2.2.2 - (lnAt ls n).2.2.1) ≤ o.length
      rw [hj n hn]
      exact (g2 n hn).2.1
  · obtain ⟨k, m, a1, a2, a3, a4, a5, -⟩ := okC_st (cdL_ok g1 i hi)
    obtain ⟨r1, r2⟩ := RowS.at k1 i hi
    refine ⟨k, m, a1, a2, ?_, ?_, a5⟩
    · rw [show 384 + 2 * i = 335 + (49 + 2 * i) by omega, ek _ (by omega) (by omega), show 1184 + (49 + 2 * i) = 1233 + 2 * i by omega]
      exact r1.trans a3
    · rw [show 385 + 2 * i = 335 + (50 + 2 * i) by omega, ek _ (by omega) (by omega), show 1184 + (50 + 2 * i) = 1233 + 2 * i + 1 by omega]
      exact r2.trans a4
  · obtain ⟨-, -, a3, a4⟩ := ln n hn
    refine ⟨a3, ?_, ?_, (g2 n hn).2.2⟩
    · show W (336 + 4 * n + 3) = nI ((lnAt ls n).2.2.1 + ((lnAt ls n).2.2.2 - (lnAt ls n).2.2.1))
      rw [hj n hn]
      exact a4
    · show (lnAt ls n).2.2.1 + ((lnAt ls n).2.2.2 - (lnAt ls n).2.2.1) ≤ o.length
      rw [hj n hn]
      exact (g2 n hn).2.1
  · obtain ⟨a1, a2, -, -⟩ := LnL.at c1 n hn
    obtain ⟨b1, b2, -, -⟩ := ln n hn
    exact ⟨a1.trans b1.symm, a2.trans b2.symm⟩
  · exfalso
    have := nI_pos (show ls.length < 2 ^ 31 by omega)
    rw [← c0, z] at this
    exact this (by decide)
  · rw [w3] at z
    exact absurd z (by decide)
  · obtain ⟨-, b2, -, -⟩ := ln n hn
    rw [show nuW W n = (lnAt ls n).2.1 from b2]
    exact hB n hn
end T79zq
end
section
/-! ===== the relation is kept by street, by law; whose, ask with finer frames (printed by program) ===== -/
section T79zr
variable {S : aS} {I J K : Nat → Nat → Int32} {L : Nat → Nat → Int64} {w1 w2 t : Nat} {e b a n fa nd np : Nat} {T W V : Nat → Int32}
set_option maxRecDepth 100000
/-- what a text with no street changes in the reference -/
def sU9 (q k : Nat) : Bool := sU q k || (Nat.beq q 420 && (Nat.beq k 9 || (Nat.beq k 10 || Nat.beq k 11)))
theorem sU_sU9 : ∀ q k, sU q k = true → sU9 q k = true := fun q k h => by
  unfold sU9
  rw [h]
  rfl
def Uz (nd np : Nat) (I J : Nat → Nat → Int32) : Prop := Us nd np I J ∧ Fm sU9 I J
theorem Uz.mk (hr : RI nd np I) : Uz nd np I (usH I) := ⟨Us.mk hr, by
  unfold usH
  exact Fm.up (Fm.up (Fm.up (Fm.up Fm.rf rfl) rfl) rfl) rfl⟩
theorem Uz.fm {I1 I2 : Nat → Nat → Int32} (h : Uz nd np I I1) (f : Fm sU I1 I2) : Uz nd np I I2 := ⟨h.1.fm f, Fm.tr h.2 (Fm.mo f sU_sU9)⟩
theorem h_whoseU (hr : RI nd np I) (ht : ∃ l, l ≤ 400 ∧ I 420 9 = nI l) : Sp S m_X12_whose 15 0 0 [.ref 420] (hp I L w1 w2 t) (QR (Uz nd np I) isI L w1 w2 t) nX := by
  obtain ⟨l, hl4, hl⟩ := ht
  refine Sp_of ok_X12_whose rfl rfl ?_
  show AW S m_X12_whose 15 _ _ 0 0 0 [some (.ref 420)] [] (hp I L w1 w2 t)
  have f0 : Uz nd np I (usH I) := Uz.mk hr
  refine a_l0 rfl rfl rfl ?_
  refine a_eV0 rfl lX12_232 mo_X12_uses r_X12_uses rfl rfl rfl ⟨12, _, rfl, rfl, rfl⟩ rfl ?_
  refine a_ren (P := fun J => Uz nd np I J ∧ J 420 11 = nI l) ⟨f0, usH_11.trans hl⟩ (fun I1 hI1 => ?_)
  clear f0
  obtain ⟨f1, he⟩ := hI1
  refine a_l0 rfl rfl rfl ?_
  refine a_l0 rfl rfl rfl ?_
  refine a_gV rfl lX12_438 mo_X12_isTold (r_X12_isTold he hl4) rfl rfl rfl ⟨12, _, rfl, rfl, rfl⟩ rfl (fun v' h' hv => ?_)
  obtain ⟨⟨b, rfl⟩, rfl⟩ := hv
  refine a_if_ne rfl (fun _ => ?_) (fun _ => ?_)
  · refine a_s rfl rfl ?_
    refine a_s rfl rfl ?_
    refine a_gV rfl lX12_243 mo_X12_throwsIf (r_X12_throwsIf (b := false)) rfl rfl rfl ⟨12, _, rfl, rfl, rfl⟩ rfl (fun v' h' hv => ?_)
    obtain ⟨rfl, I2, rfl, f2⟩ := hv
    refine a_if_eq rfl (fun _ => ?_) (fun c => absurd (by decide) c)
    refine a_l0 rfl rfl rfl ?_
    refine a_gV rfl lX12_441 mo_X12_allThatFit (r_X12_allThatFit (f1.fm f2).1.2.2.2.so ((f2 420 11 rfl).trans he) hl4) rfl rfl rfl ⟨12, _, rfl, rfl, rfl⟩ rfl (fun v' h' hv => ?_)
    obtain ⟨⟨v, rfl⟩, rfl⟩ := hv
    exact a_iret rfl rfl ⟨⟨_, rfl⟩, _, rfl, f1.fm f2⟩
  · refine a_s rfl rfl ?_
    refine a_goto rfl ?_
    refine a_s rfl rfl ?_
    refine a_gV rfl lX12_243 mo_X12_throwsIf (r_X12_throwsIf (b := true)) rfl rfl rfl ⟨12, _, rfl, rfl, rfl⟩ rfl (fun v' h' hv => ?_)
    obtain ⟨rfl, I2, rfl, f2⟩ := hv
    refine a_if_eq rfl (fun c => absurd c (by decide)) (fun _ => ?_)
    refine a_s rfl rfl ?_
    refine a_goto rfl ?_
    exact a_iret rfl rfl ⟨⟨_, rfl⟩, _, rfl, f1.fm f2⟩
theorem h_askU (hr : RI nd np I) (ht : ∃ l, l ≤ 400 ∧ I 420 9 = nI l) : Sp S m_X12_ask 15 0 0 [.ref 420] (hp I L w1 w2 t) (QR (Uz nd np I) isI L w1 w2 t) nX := by
  obtain ⟨l, hl4, hl⟩ := ht
  refine Sp_of ok_X12_ask rfl rfl ?_
  show AW S m_X12_ask 15 _ _ 0 0 0 [some (.ref 420), none, none, none, none, none, none, none] [] (hp I L w1 w2 t)
  have f0 : Uz nd np I (usH I) := Uz.mk hr
  refine a_l0 rfl rfl rfl ?_
  refine a_eV0 rfl lX12_232 mo_X12_uses r_X12_uses rfl rfl rfl ⟨12, _, rfl, rfl, rfl⟩ rfl ?_
  refine a_ren (P := fun J => Uz nd np I J ∧ J 420 11 = nI l) ⟨f0, usH_11.trans hl⟩ (fun I1 hI1 => ?_)
  clear f0
  obtain ⟨f1, he⟩ := hI1
  refine a_l0 rfl rfl rfl ?_
  refine a_l0 rfl rfl rfl ?_
  refine a_gV rfl lX12_438 mo_X12_isTold (r_X12_isTold he hl4) rfl rfl rfl ⟨12, _, rfl, rfl, rfl⟩ rfl (fun v' h' hv => ?_)
  obtain ⟨⟨b, rfl⟩, rfl⟩ := hv
  refine a_if_ne rfl (fun _ => ?_) (fun _ => ?_)
  · refine a_s rfl rfl ?_
    refine a_s rfl rfl ?_
    refine a_gV rfl lX12_243 mo_X12_throwsIf (r_X12_throwsIf (b := false)) rfl rfl rfl ⟨12, _, rfl, rfl, rfl⟩ rfl (fun v' h' hv => ?_)
    obtain ⟨rfl, I2, rfl, f2⟩ := hv
    refine a_if_eq rfl (fun _ => ?_) (fun c => absurd (by decide) c)
    have hs2 := (f1.fm f2).1.2.2.2.so
    have h6 := hs2.p
    refine a_l0 rfl rfl rfl ?_
    refine a_gV rfl lX12_441 mo_X12_allThatFit (r_X12_allThatFit hs2 ((f2 420 11 rfl).trans he) hl4) rfl rfl rfl ⟨12, _, rfl, rfl, rfl⟩ rfl (fun v' h' hv => ?_)
    obtain ⟨⟨v, rfl⟩, rfl⟩ := hv
    refine a_s1 rfl rfl rfl rfl rfl rfl ?_
    refine a_l1 rfl rfl rfl ?_
    refine a_eS1 rfl lX12_310 mo_J6_bitCount_0f7a4 (sp_bitCount) rfl rfl rfl rfl ?_
    refine a_s2 rfl rfl rfl rfl rfl rfl ?_
    refine a_s rfl rfl ?_
    refine a_s3 rfl rfl rfl rfl rfl rfl ?_
    refine a_ldcw rfl kX12_401 ?_
    refine a_s4 rfl rfl rfl rfl rfl rfl ?_
    refine a_s rfl rfl ?_
    refine a_s5 rfl rfl rfl rfl rfl rfl ?_
    refine a_cnt (j0 := 0) (fun j ls h => ∃ a b, ls = [some (.ref 420), some (.int v), some (.int (bcF v)), some (.int a), some (.int b), some (.int (nI j)), none, none] ∧ h = hp I2 L w1 w2 t) (by decide) ⟨_, _, rfl, rfl⟩ ⟨rfl, rfl, rfl, rfl, rfl, rfl, trivial⟩ ?_
    rintro j _ _ hj ⟨a, b, rfl, rfl⟩ ih
    have out : ∀ {y6 y7 : Option Value} {a b c : Int32}, AW S m_X12_ask 15 (QR (Uz nd np I) isI L w1 w2 t) nX 0 0 150 [some (.ref 420), some (.int v), some (.int (bcF v)), some (.int a), some (.int b), some (.int c), y6, y7] [] (hp I2 L w1 w2 t) := by
      intro y6 y7 a b c
      refine a_l3 rfl rfl rfl ?_
      exact a_iret rfl rfl ⟨⟨_, rfl⟩, _, rfl, f1.fm f2⟩
    refine a_l5 rfl rfl rfl ?_
    refine a_s rfl rfl ?_
    refine a_ic_ge rfl (fun _ => out) (fun c15 => ?_)
    refine a_l2 rfl rfl rfl ?_
    refine a_s rfl rfl ?_
    refine a_ic_le rfl (fun _ => out) (fun _ => ?_)
    refine a_s rfl rfl ?_
    refine a_s6 rfl rfl rfl rfl rfl rfl ?_
    refine a_s rfl rfl ?_
    refine a_s7 rfl rfl rfl rfl rfl rfl ?_
    refine a_cnt (j0 := 0) (fun p ls h => ∃ y, ls = [some (.ref 420), some (.int v), some (.int (bcF v)), some (.int a), some (.int b), some (.int (nI j)), some (.int y), some (.int (nI p))] ∧ h = hp I2 L w1 w2 t) (by decide) ⟨_, rfl, rfl⟩ ⟨rfl, rfl, rfl, rfl, rfl, rfl, rfl, rfl, trivial⟩ ?_
    rintro p _ _ hp4 ⟨y, rfl, rfl⟩ ih2
    refine a_l7 rfl rfl rfl ?_
    refine a_l0 rfl rfl rfl ?_
    refine a_eV1 rfl lX12_66 mo_X12_people sp_X12_people rfl rfl rfl ⟨12, _, rfl, rfl, rfl⟩ rfl ?_
    refine a_top (y := nI np) hs2.pu ?_
    refine a_ic_ge rfl (fun c => ?_) (fun c => ?_)
    · refine a_l6 rfl rfl rfl ?_
      refine a_l2 rfl rfl rfl ?_
      refine a_l6 rfl rfl rfl ?_
      refine a_s rfl rfl ?_
      refine a_max rfl lX12_265 mj_max rfl rfl ?_
      refine a_s7 rfl rfl rfl rfl rfl rfl ?_
      refine a_l7 rfl rfl rfl ?_
      refine a_l4 rfl rfl rfl ?_
      have fin : ∀ {x z : Int32}, AW S m_X12_ask 15 (QR (Uz nd np I) isI L w1 w2 t) nX 0 0 134 [some (.ref 420), some (.int v), some (.int (bcF v)), some (.int a), some (.int b), some (.int (nI j)), some (.int y), some (.int x)] [.int z] (hp I2 L w1 w2 t) := by
        intro x z
        refine a_s3 rfl rfl rfl rfl rfl rfl ?_
        refine a_l4 rfl rfl rfl ?_
        refine a_l7 rfl rfl rfl ?_
        refine a_min rfl lX12_295 mj_min rfl rfl ?_
        refine a_s4 rfl rfl rfl rfl rfl rfl ?_
        refine a_i5 rfl rfl rfl ?_
        refine a_goto rfl ?_
        exact ih _ _ _ _ c15 ⟨_, _, rfl, rfl⟩ ⟨rfl, rfl, rfl, rfl, rfl, nS _, trivial⟩
      refine a_ic_ge rfl (fun _ => ?_) (fun _ => ?_)
      · refine a_l3 rfl rfl rfl ?_
        exact fin
      · refine a_l5 rfl rfl rfl ?_
        refine a_goto rfl ?_
        exact fin
    · have hpp : p < np := nI_lt_of c hp4 (by omega)
      have fin : ∀ {x : Int32}, AW S m_X12_ask 15 (QR (Uz nd np I) isI L w1 w2 t) nX 0 0 101 [some (.ref 420), some (.int v), some (.int (bcF v)), some (.int a), some (.int b), some (.int (nI j)), some (.int y), some (.int (nI p))] [.int x, .int y] (hp I2 L w1 w2 t) := by
        intro x
        refine a_s rfl rfl ?_
        refine a_s6 rfl rfl rfl rfl rfl rfl ?_
        refine a_i7 rfl rfl rfl ?_
        refine a_goto rfl ?_
        exact ih2 _ _ _ _ c ⟨_, rfl, rfl⟩ ⟨rfl, rfl, rfl, rfl, rfl, rfl, rfl, nS _, trivial⟩
      refine a_l6 rfl rfl rfl ?_
      refine a_l1 rfl rfl rfl ?_
      refine a_l7 rfl rfl rfl ?_
      refine a_eS1 rfl lX12_304 mo_X12_has (sp_X12_has) rfl rfl rfl rfl ?_
      refine a_if_eq rfl (fun _ => ?_) (fun _ => ?_)
      · refine a_s rfl rfl ?_
        exact fin
      · refine a_l0 rfl rfl rfl ?_
        refine a_l7 rfl rfl rfl ?_
        refine a_s rfl rfl ?_
        refine a_eV1 rfl lX12_252 mo_X12_ofPerson (sp_X12_ofPerson (d := p) (k := 0) (by omega) (by decide)) rfl rfl rfl ⟨12, _, rfl, rfl, rfl⟩ rfl ?_
        refine a_l5 rfl rfl rfl ?_
        refine a_ic_gt rfl (fun _ => ?_) (fun _ => ?_)
        · refine a_s rfl rfl ?_
          exact fin
        · refine a_s rfl rfl ?_
          refine a_goto rfl ?_
          exact fin
  · refine a_s rfl rfl ?_
    refine a_goto rfl ?_
    refine a_s rfl rfl ?_
    refine a_gV rfl lX12_243 mo_X12_throwsIf (r_X12_throwsIf (b := true)) rfl rfl rfl ⟨12, _, rfl, rfl, rfl⟩ rfl (fun v' h' hv => ?_)
    obtain ⟨rfl, I2, rfl, f2⟩ := hv
    refine a_if_eq rfl (fun c => absurd c (by decide)) (fun _ => ?_)
    refine a_s rfl rfl ?_
    exact a_iret rfl rfl ⟨⟨_, rfl⟩, _, rfl, f1.fm f2⟩
theorem Nm.eq3 (h : Nm I a W) (f : ∀ k, k < 335 → k ≠ 3 → V k = W k) : Nm I a V := by
  obtain ⟨⟨h1, h2, h3⟩, hl, ⟨⟨r1, r2, r3, r4⟩, hf, hp, hd⟩⟩ := h
  have hb : ∀ x ∈ flds, x.2 < 95 ∧ x.2 ≠ 3 := by decide
  refine ⟨⟨fun x hx => ?_, fun p hp => ?_, fun d hd k hk => ?_⟩, hl.eq rfl rfl (f 9 (by decide) (by decide)) fun k g1 g2 => f k g2 (by omega), (Rg.of r1 r2 ((f 0 (by decide) (by decide)).trans r3) ((f 1 (by decide) (by decide)).trans r4) ?_ (fun p z => (hp p z).eq (f _ (by omega) (by omega)) (f _ (by omega) (by omega))) (fun d z => (hd d z).eq fun k hk => f _ (by omega) (by omega)))⟩
  · have := hb x hx
    rw [f _ (by omega) (by omega)]
    exact h1 x hx
  · rw [f _ (by omega) (by omega), f _ (by omega) (by omega)]
    exact h2 p hp
  · rw [f _ (by omega) (by omega)]
    exact h3 d hd k hk
  · unfold RgF
    rw [f 2 (by decide) (by decide), f 4 (by decide) (by decide), f 5 (by decide) (by decide), f 6 (by decide) (by decide), f 7 (by decide) (by decide), f 8 (by decide) (by decide)]
    exact hf
/-- behind a law: the same but for the law, no acts -/
theorem Sim.law {r : LRs} (h : Sim I) (f : Fm sLw I J) (c : LwC r J) (h12 : r.2.2.2.length ≤ 12) (h400 : r.2.2.1.length ≤ 400) (ok : LsOk r.2.2.1 r.2.2.2) (nb : LnB r.2.2.2) (us : Us nd np J K) (g : ∀ q, q ≠ 420 → q ≠ 421 → K q = J q) (e7 : K 420 7 = 0) (elo : ∀ k, k < 335 → k ≠ 3 → K 421 k = J 421 k) (lj : LwJ r J K) (hz : r.1 = true) : Sim K := by
  obtain ⟨h1, _, h3, n, fa, hn, hf, e1, e2, e3, _⟩ := h
  obtain ⟨_, c13, c0, c1, c2⟩ := c
  obtain ⟨w3, w335, M, m1, m2, m3⟩ := lj.1 hz
  have row : ∀ q, 235 ≤ q → (q < 246 ∨ 251 < q) → J q = I q := fun q g1 g2 => funext fun k => f q k (sLw_hi g1 g2)
  have e21 : J 421 = I 421 := row 421 (by decide) (by decide)
  refine ⟨(h1.eq3 (V := K 421) fun k g1 g2 => by rw [elo k g1 g2, e21]).eq fun q g1 g2 => by rw [g q (by omega) (by omega), row q (by omega) (by omega)], Nl.of ok h12 h400 nb ?_ ?_ ?_ w3 w335 m1 m2 m3, h3.eq (fun q g1 g2 => by rw [g q (by omega) (by omega), row q (by omega) (by omega)]) ?_ ?_ ?_, 0, fa, by decide, hf, ?_, e7, ?_, fun i hi => absurd hi (Nat.not_lt_zero _)⟩
  · rw [g 246 (by decide) (by decide)]
    exact c0
  · rw [g 247 (by decide) (by decide), g 248 (by decide) (by decide), g 249 (by decide) (by decide), g 250 (by decide) (by decide)]
    exact c1
  · rw [g 251 (by decide) (by decide)]
    exact c2
  · rw [g 422 (by decide) (by decide), row 422 (by decide) (by decide)]
  · rw [g 200 (by decide) (by decide)]
    exact f 200 10 rfl
  · rw [us.2.2.1, row 420 (by decide) (by decide)]
  · rw [g 200 (by decide) (by decide)]
    exact c13
  · rw [g 200 (by decide) (by decide)]
    exact (f 200 12 rfl).trans e3
/-- what the relation reads, and no draft -/
theorem Sim.lo (h : Sim I) (f : ∀ q, 235 ≤ q → q < 420 → (q < 252 ∨ 268 ≤ q) → J q = I q) (f1 : ∀ k, k < 1184 → J 421 k = I 421 k) (f2 : J 422 = I 422) (f5 : J 425 = I 425) (g1 : J 200 10 = I 200 10) (g2 : J 200 12 = I 200 12) (g3 : J 200 13 = I 200 13) (g4 : J 420 6 = I 420 6) (g5 : J 420 7 = I 420 7) : Sim J := by
  obtain ⟨h1, h2, h3, n, fa, hn, hf, e1, e2, e3, h4⟩ := h
  refine ⟨(h1.eqW fun k hk => f1 k (by omega)).eq fun q k1 k2 => f q (by omega) (by omega) (by omega), h2.at (congrFun (f 246 (by decide) (by decide) (by decide)) 0) (fun i k1 k2 => f _ (by omega) (by omega) (by omega)) (f1 3 (by decide)) (fun k _ hk => f1 k hk), h3.eq (fun q k1 k2 => f q (by omega) (by omega) (by omega)) f2 g1 g4, n, fa, hn, hf, g3.trans e1, g5.trans e2, g2.trans e3, fun i hi => ?_⟩
  rw [f5, f1 3 (by decide)]
  exact ⟨(h4 i hi).1.eq fun q k1 k2 => f q (by omega) (by omega) (by omega), (h4 i hi).2⟩
theorem Sim.lawNo {r : LRs} (h : Sim I) (f : Fm sLf I J) (us : Us nd np J K) (g : ∀ q, q ≠ 420 → q ≠ 421 → K q = J q) (e7 : K 420 7 = J 420 7) (lj : LwJ r J K) (hz : r.1 = false) : Sim K := by
  have row : ∀ q, 235 ≤ q → J q = I q := fun q g1 => funext fun k => f q k (sLf_hi g1)
  refine h.lo (fun q g1 g2 g3 => by rw [g q (by omega) (by omega), row q g1]) (fun k hk => by rw [lj.2 hz k hk, row 421 (by decide)]) (by rw [g 422 (by decide) (by decide), row 422 (by decide)]) (by rw [g 425 (by decide) (by decide), row 425 (by decide)]) ?_ ?_ ?_ (by rw [us.2.2.1, row 420 (by decide)]) (by rw [e7, row 420 (by decide)])
  · rw [g 200 (by decide) (by decide)]
    exact f 200 10 rfl
  · rw [g 200 (by decide) (by decide)]
    exact f 200 12 rfl
  · rw [g 200 (by decide) (by decide)]
    exact f 200 13 rfl
/-- what a text of the street leaves as it is -/
def Ky (k : Nat) : Prop := 95 ≤ k ∨ k = 3 ∨ k = 9
theorem perP_hi (h : WOk W) {k : Nat} (hk : Ky k) (hz : (perP T e b W).1 = true) : (perP T e b W).2.2 k = W k := by
  obtain ⟨w1, w2, w3, w4⟩ := h
  unfold Ky at hk
  unfold perP at hz ⊢
  by_cases c : W 0 = 6
  · rw [if_pos c] at hz
    cases hz
  have n6 : pn W ≠ 6 := fun z => c (by rw [w3, z]; rfl)
  rw [if_neg c] at hz ⊢
  generalize nbP T e 1 0 15 (nx T e b) = x at hz ⊢
  unfold perB at hz ⊢
  by_cases c2 : x.1 = -1
  · rw [if_pos c2] at hz
    cases hz
  rw [if_neg c2] at hz ⊢
  generalize nbP T e 2 0 9 x.2 = y at hz ⊢
  unfold perC at hz ⊢
  by_cases c3 : y.1 = -1
  · rw [if_pos c3] at hz
    cases hz
  rw [if_neg c3]
  show ud (ud (ud W (11 + 2 * pn W) x.1) (11 + 2 * pn W + 1) y.1) 0 (nI (pn W + 1)) k = W k
  rw [ud_ne (by omega), ud_ne (by omega), ud_ne (by omega)]
theorem dutP_hi (h : WOk W) {k : Nat} (hk : Ky k) (hz : (dutP T e b W).1 = true) : (dutP T e b W).2.2 k = W k := by
  obtain ⟨w1, w2, w3, w4⟩ := h
  unfold Ky at hk
  unfold dutP at hz ⊢
  by_cases c : W 1 = 12
  · rw [if_pos c] at hz
    cases hz
  have n12 : dn W ≠ 12 := fun z => c (by rw [w4, z]; rfl)
  rw [if_neg c] at hz ⊢
  generalize nbP T e 4 0 (W 0 - 1) (nx T e b) = x at hz ⊢
  unfold duA at hz ⊢
  by_cases c2 : x.1 = -1
  · rw [if_pos c2] at hz
    cases hz
  rw [if_neg c2] at hz ⊢
  generalize nbP T e 5 1 99 x.2 = y at hz ⊢
  unfold duB at hz ⊢
  by_cases c3 : y.1 = -1
  · rw [if_pos c3] at hz
    cases hz
  rw [if_neg c3] at hz ⊢
  generalize optP T e 6 0 99 0 y.2 = u at hz ⊢
  unfold duC at hz ⊢
  by_cases c4 : u.1 = true
  rotate_left
  · rw [if_neg c4] at hz
    cases hz
  rw [if_pos c4] at hz ⊢
  generalize optP T e 7 0 5 (-1) u.2.2 = v at hz ⊢
  unfold duD at hz ⊢
  by_cases c5 : v.1 = true
  rotate_left
  · rw [if_neg c5] at hz
    cases hz
  rw [if_pos c5] at hz ⊢
  generalize optP T e 8 0 (W 1 - 1) (-1) v.2.2 = w at hz ⊢
  unfold duE at hz ⊢
  by_cases c6 : w.1 = true
  rotate_left
  · rw [if_neg c6] at hz
    cases hz
  rw [if_pos c6]
  show addDt W x.1 y.1 u.2.1 v.2.1 w.2.1 k = W k
  unfold addDt
  rw [ud_ne (by omega), ud_ne (by omega), ud_ne (by omega), ud_ne (by omega), ud_ne (by omega), ud_ne (by omega), ud_ne (by omega)]
theorem forP_hi (h : WOk W) {k : Nat} (hk : Ky k) (hz : (forP T e b W).1 = true) : (forP T e b W).2.2 k = W k := by
  obtain ⟨w1, w2, w3, w4⟩ := h
  unfold Ky at hk
  unfold forP at hz ⊢
  by_cases c : nm T e b 0 (W 1 - 1) = -1
  · rw [if_pos c] at hz
    cases hz
  rw [if_neg c] at hz ⊢
  by_cases c2 : W (23 + 6 * (nm T e b 0 (W 1 - 1)).toNatClampNeg + 5) = 0
  · rw [if_pos c2]
    show ud W (23 + 6 * (nm T e b 0 (W 1 - 1)).toNatClampNeg + 5) 2 k = W k
    rw [w4] at c ⊢
    obtain ⟨j, hj, ej⟩ := nm_ix w2 c
    rw [ej, nI_clamp (by omega)]
    exact ud_ne (by omega)
  · rw [if_neg c2] at hz
    cases hz
theorem setP_hi {g : Nat} {lo hi : Int32} (hg : g < 9 ∧ g ≠ 3) {k : Nat} (hk : Ky k) (hz : (setP T e b W g lo hi).1 = true) : (setP T e b W g lo hi).2.2 k = W k := by
  unfold Ky at hk
  unfold setP at hz ⊢
  by_cases c : nm T e b lo hi = -1
  · rw [if_pos c] at hz
    cases hz
  rw [if_neg c]
  exact ud_ne (by omega)
theorem stgP_hi {k : Nat} (hk : Ky k) (hz : (stgP T e b W).1 = true) : (stgP T e b W).2.2 k = W k := by
  unfold stgP at hz ⊢
  by_cases c : isWd T e b 10 = true
  · rw [if_pos c] at hz ⊢; exact setP_hi (by decide) hk hz
  rw [if_neg c] at hz ⊢
  by_cases c : isWd T e b 11 = true
  · rw [if_pos c] at hz ⊢; exact setP_hi (by decide) hk hz
  rw [if_neg c] at hz ⊢
  by_cases c : isWd T e b 12 = true
  · rw [if_pos c] at hz ⊢; exact setP_hi (by decide) hk hz
  rw [if_neg c] at hz ⊢
  by_cases c : isWd T e b 13 = true
  · rw [if_pos c] at hz ⊢; exact setP_hi (by decide) hk hz
  rw [if_neg c] at hz ⊢
  by_cases c : isWd T e b 14 = true
  · rw [if_pos c] at hz ⊢; exact setP_hi (by decide) hk hz
  rw [if_neg c] at hz
  cases hz
theorem linP_hi (h : WOk W) {k : Nat} (hk : Ky k) (hz : (linP T e b W).1 = true) : (linP T e b W).2.2 k = W k := by
  unfold linP at hz ⊢
  by_cases c : isWd T e b 0 = true
  · rw [if_pos c] at hz ⊢; exact perP_hi h hk hz
  rw [if_neg c] at hz ⊢
  by_cases c : isWd T e b 3 = true
  · rw [if_pos c] at hz ⊢; exact dutP_hi h hk hz
  rw [if_neg c] at hz ⊢
  by_cases c : isWd T e b 9 = true
  · rw [if_pos c] at hz ⊢; exact forP_hi h hk hz
  rw [if_neg c] at hz ⊢
  exact stgP_hi hk hz
theorem strsP_hi {k : Nat} (hk : Ky k) : ∀ (f b : Nat) (W : Nat → Int32), WOk W → (strsP T e f b W).1 = true → (strsP T e f b W).2.2 k = W k := by
  intro f
  induction f with
  | zero => exact fun b W _ hz => by cases hz
  | succ f ih =>
    intro b W h hz
    rw [strsP_s] at hz ⊢
    have hl := linP_hi (T := T) (e := e) (b := b) h hk
    have ho := linP_ok (T := T) (e := e) (b := b) h
    generalize linP T e b W = r at hz hl ho ⊢
    by_cases c1 : r.1 = true
    · rw [if_pos c1] at hz ⊢
      by_cases c2 : r.2.1 < e
      · rw [if_pos c2] at hz ⊢
        by_cases c3 : sg T e r.2.1 59 = true
        · rw [if_pos c3] at hz ⊢
          exact (ih _ _ (ho c1) hz).trans (hl c1)
        · rw [if_neg c3] at hz
          cases hz
      · rw [if_neg c2]
        exact hl c1
    · rw [if_neg c1] at hz
      cases hz
theorem strP_hi (h : WOk W) {k : Nat} (hk : Ky k) (hz : (strP T e W).1 = true) : (strP T e W).2.2 k = W k := by
  unfold strP at hz ⊢
  by_cases c : bg T e 0 < e
  · rw [if_pos c] at hz ⊢
    exact strsP_hi hk _ _ _ h hz
  · rw [if_neg c]
theorem Rg.tx (h : Rg W) {x : Int32} (hx : Nb x 12) : Rg (ud W 2 x) := by
  obtain ⟨⟨r1, r2, r3, r4⟩, ⟨_, f4, f5, f6, f7, f8⟩, hp, hd⟩ := h
  refine (Rg.of r1 r2 ((ud_ne (by decide)).trans r3) ((ud_ne (by decide)).trans r4) ?_ (fun p z => (hp p z).eq (ud_ne (by omega)) (ud_ne (by omega))) (fun d z => (hd d z).eq fun k hk => ud_ne (by omega)))
  unfold RgF
  rw [ud_at, ud_ne (show 4 ≠ 2 by decide), ud_ne (show 5 ≠ 2 by decide), ud_ne (show 6 ≠ 2 by decide), ud_ne (show 7 ≠ 2 by decide), ud_ne (show 8 ≠ 2 by decide)]
  exact ⟨hx, f4, f5, f6, f7, f8⟩
/-- behind a street that was read -/
theorem Sim.street (h : Sim I) (hz : (strP T e (I 421)).1 = true) (h2 : ¬ I 421 2 = 12) (f : Fm sJ I J) (c13 : J 200 13 = 0) (D : Sd J 235 (ud (strP T e (I 421)).2.2 2 (I 421 2 + 1))) (g : ∀ q, q < 420 → K q = J q) (g6 : K 420 6 = J 420 6) (k2 : K 422 = J 422) (e1 : K 421 = ud (strP T e (I 421)).2.2 2 (I 421 2 + 1)) (e7 : K 420 7 = 0) : Sim K := by
  obtain ⟨h1, hl, h3, n, fa, hn, hf, _, _, e3, _⟩ := h
  have row : ∀ q, 244 ≤ q → J q = I q := fun q g1 => funext fun k => f q k (sJ_hi g1)
  have hG := h1.2.2
  have hi : ∀ k, Ky k → K 421 k = I 421 k := fun k hk => by
    rw [e1, ud_ne (by unfold Ky at hk; omega)]
    exact strP_hi hG.1 hk hz
  have hRG : Rg (K 421) := by
    rw [e1]
    refine (strP_rg hG hz).tx ?_
    obtain ⟨k, k12, ek⟩ := hG.2.1.1
    rw [ek] at h2 ⊢
    refine ⟨k + 1, ?_, (nI_succ k).symm⟩
    have : k ≠ 12 := fun z => h2 (by rw [z]; rfl)
    omega
  refine ⟨⟨?_, h1.2.1.eq ?_ ?_ ?_ ?_, hRG⟩, hl.eq (fun q g1 g2 => by rw [g q (by omega), row q (by omega)]) (hi 3 (Or.inr (Or.inl rfl))) (fun k hk => hi k (Or.inl (by omega))), h3.eq (fun q g1 g2 => by rw [g q (by omega), row q (by omega)]) ?_ ?_ ?_, 0, fa, by decide, hf, ?_, e7, ?_, fun i hi => absurd hi (Nat.not_lt_zero _)⟩
  · rw [e1]
    exact D.eq fun q g1 g2 => g q (by omega)
  · exact (g 244 (by decide)).trans (row 244 (by decide))
  · exact (g 245 (by decide)).trans (row 245 (by decide))
  · exact hi 9 (Or.inr (Or.inr rfl))
  · exact fun k g1 g2 => hi k (Or.inl g1)
  · rw [k2, row 422 (by decide)]
  · rw [g 200 (by decide)]
    exact f 200 10 rfl
  · rw [g6, row 420 (by decide)]
  · rw [g 200 (by decide)]
    exact c13
  · rw [g 200 (by decide)]
    exact (f 200 12 rfl).trans e3
/-- behind one that was not -/
theorem Sim.streetNo (h : Sim I) (f : Fm sJ I J) (c13 : J 200 13 = I 200 13) (D : Sd J 235 (I 421)) (g : ∀ q, q < 420 → K q = J q) (g6 : K 420 6 = J 420 6) (k2 : K 422 = J 422) (k5 : K 425 = J 425) (e1 : K 421 = J 421) (e7 : K 420 7 = J 420 7) : Sim K := by
  obtain ⟨h1, hl, h3, n, fa, hn, hf, e1', e2, e3, h4⟩ := h
  have row : ∀ q, 244 ≤ q → J q = I q := fun q g1 => funext fun k => f q k (sJ_hi g1)
  have w : K 421 = I 421 := e1.trans (row 421 (by decide))
  refine ⟨⟨?_, h1.2.1.eq ?_ ?_ ?_ ?_, ?_⟩, hl.eq (fun q g1 g2 => by rw [g q (by omega), row q (by omega)]) (congrFun w 3) (fun k _ => congrFun w k), h3.eq (fun q g1 g2 => by rw [g q (by omega), row q (by omega)]) ?_ ?_ ?_, n, fa, hn, hf, ?_, ?_, ?_, fun i hi => ?_⟩
  · rw [w]
    exact D.eq fun q g1 g2 => g q (by omega)
  · exact (g 244 (by decide)).trans (row 244 (by decide))
  · exact (g 245 (by decide)).trans (row 245 (by decide))
  · exact congrFun w 9
  · exact fun k _ _ => congrFun w k
  · rw [w]
    exact h1.2.2
  · rw [k2, row 422 (by decide)]
  · rw [g 200 (by decide)]
    exact f 200 10 rfl
  · rw [g6, row 420 (by decide)]
  · rw [g 200 (by decide), c13]
    exact e1'
  · rw [e7, row 420 (by decide)]
    exact e2
  · rw [g 200 (by decide)]
    exact (f 200 12 rfl).trans e3
  · rw [k5, row 425 (by decide), w]
    exact ⟨(h4 i hi).1.eq fun q g1 g2 => by rw [g q (by omega), row q (by omega)], (h4 i hi).2⟩
end T79zr
end
section
/-! ===== all that is known of both between two operations, with the relation ===== -/
section T79zs
variable {I J K : Nat → Nat → Int32} {L : Nat → Nat → Int64} {w1 w2 t n fa nd np : Nat} {W : Nat → Int32} {c y val : Int32} {l : Int64} {ov : Option Value} {h' : aH}
set_option maxRecDepth 100000
def Sy (I : Nat → Nat → Int32) : Prop := (CI I ∧ Tp I) ∧ (Sim I ∧ I 200 3 = I 420 14) ∧ ∃ l, l ≤ 400 ∧ I 201 1 = nI l ∧ I 420 9 = nI l
/-- the class has used its tape up, the reference not yet -/
def Sz (I : Nat → Nat → Int32) : Prop := (CI I ∧ Tp I) ∧ (Sim I ∧ I 200 3 = I 420 14) ∧ I 201 1 = 0 ∧ ∃ l, l ≤ 400 ∧ I 420 9 = nI l
theorem Sim.ps (h : Sim I) : ∃ n fa, PsN I n fa := h.2.2.2
theorem Sy.sim (h : Sy I) : Sim I := h.2.1.1
theorem Sy.nm (h : Sy I) : Nm I 235 (I 421) := h.2.1.1.1
theorem Sy.nl (h : Sy I) : Nl I 246 (I 421) := h.2.1.1.2.1
theorem Sy.ri (h : Sy I) : RI (dn (I 421)) (pn (I 421)) I := h.2.1.1.ri
theorem Sz.ri (h : Sz I) : RI (dn (I 421)) (pn (I 421)) I := h.2.1.1.ri
theorem RI.rows (h : RI nd np I) (e : ∀ q, 420 ≤ q → J q = I q) : RI nd np J := h.eq (e 421 (by decide)) (e 422 (by decide)) (e 425 (by decide)) (congrFun (e 420 (by decide)) 6) (congrFun (e 420 (by decide)) 7)
theorem CI.rows (h : CI I) (e : ∀ q, q < 420 → J q = I q) : CI J := fun a ha h2 => by
  rw [e a (by have := stp_hi a ha; omega)]
  exact h a ha h2
theorem sQ_no {q k : Nat} (h : q < 252 ∨ 268 ≤ q) : sQ q k = false := by
  unfold sQ
  rw [beqF (show q ≠ 252 by omega), beqF (show q ≠ 253 by omega), beqF (show q ≠ 255 by omega), beqF (show q ≠ 256 by omega)]
  rcases h with h | h
  · have e : Nat.ble 257 q = false := by
      cases hb : Nat.ble 257 q with
      | false => rfl
      | true => exact absurd (Nat.le_of_ble_eq_true hb) (by omega)
    rw [e]
    rfl
  · have e : Nat.ble q 267 = false := by
      cases hb : Nat.ble q 267 with
      | false => rfl
      | true => exact absurd (Nat.le_of_ble_eq_true hb) (by omega)
    rw [e]
    cases Nat.ble 257 q <;> rfl
theorem sV_lo4 {q k : Nat} (h : q < 420) : sV q k = false := by
  unfold sV sU
  rw [beqF (show q ≠ 428 by omega), beqF (show q ≠ 429 by omega), beqF (show q ≠ 420 by omega), beqF (show q ≠ 424 by omega)]
  rfl
/-- a question to the class -/
theorem Sy.q (h : Sy I) (f : Fm sQ I J) : Sy J := by
  have m := Mt.of (Fm.mo f sQ_sM)
  obtain ⟨⟨h1, h2⟩, ⟨h3, h6⟩, l, h4, h5, h7⟩ := h
  have row : ∀ q, (q < 252 ∨ 268 ≤ q) → J q = I q := fun q hq => funext fun k => f q k (sQ_no hq)
  have r2 := row 200 (by decide)
  have r4 := row 420 (by decide)
  refine ⟨⟨m.2.2.2.1 h1, h2.m m⟩, ⟨h3.eq (fun q _ _ g3 => row q g3) (row 421 (by decide)) (row 422 (by decide)) (row 425 (by decide)) (congrFun r2 10) (congrFun r2 12) (congrFun r2 13) (congrFun r4 6) (congrFun r4 7), ?_⟩, l, h4, (congrFun (row 201 (by decide)) 1).trans h5, (congrFun r4 9).trans h7⟩
  rw [r2, r4]
  exact h6
/-- a question to the reference -/
theorem Sy.v (h : Sy I) (f : Fm sV I J) : Sy J := by
  obtain ⟨⟨h1, h2⟩, ⟨h3, h6⟩, l, h4, h5, h7⟩ := h
  have row : ∀ q, q < 420 → J q = I q := fun q hq => funext fun k => f q k (sV_lo4 hq)
  have r2 := row 200 (by decide)
  refine ⟨⟨h1.rows row, h2.r fun q hq => ?_⟩, ⟨h3.eq (fun q _ g2 _ => row q g2) (funext fun k => f 421 k rfl) (funext fun k => f 422 k rfl) (funext fun k => f 425 k rfl) (congrFun r2 10) (congrFun r2 12) (congrFun r2 13) (f 420 6 rfl) (f 420 7 rfl), ?_⟩, l, h4, (congrFun (row 201 (by decide)) 1).trans h5, (f 420 9 rfl).trans h7⟩
  · rcases hq with hq | hq
    · exact row q hq
    · rw [hq]
      exact funext fun k => f 426 k rfl
  · rw [r2, show J 420 14 = I 420 14 from f 420 14 rfl]
    exact h6
theorem Sy.u (h : Sy I) (f : Fm sU I J) : Sy J := Sy.v h (Fm.mo f sU_sV)
/-- a text with no street: the class uses it up, the reference too -/
theorem Sy.z1 (h : Sy I) : Sz (up2 I 201 1 0) := by
  have m := Mt0.all (Mt0.mk (Mt.rf (I := I)))
  obtain ⟨⟨h1, h2⟩, ⟨h3, h6⟩, l, h4, h5, h7⟩ := h
  have row : ∀ q, q ≠ 201 → up2 I 201 1 0 q = I q := fun q hq => up2_row hq
  have r2 := row 200 (by decide)
  have r4 := row 420 (by decide)
  refine ⟨⟨m.2.2.2.1 h1, h2.eq (row 426 (by decide)) (row 202 (by decide)) (congrFun (row 203 (by decide)) 1) (congrFun (row 220 (by decide)) 1)⟩, ⟨h3.eq (fun q g1 _ _ => row q (by omega)) (row 421 (by decide)) (row 422 (by decide)) (row 425 (by decide)) (congrFun r2 10) (congrFun r2 12) (congrFun r2 13) (congrFun r4 6) (congrFun r4 7), ?_⟩, m.2.1, l, h4, (congrFun r4 9).trans h7⟩
  rw [r2, r4]
  exact h6
theorem Sz.uz (h : Sz I) (f : Uz nd np I J) : Sy J := by
  obtain ⟨⟨h1, h2⟩, ⟨h3, h6⟩, h5, -⟩ := h
  obtain ⟨⟨g1, g2, g3, -⟩, f⟩ := f
  have r2 := g1 200 (by decide)
  refine ⟨⟨h1.rows fun q hq => g1 q (Or.inl hq), h2.r g1⟩, ⟨h3.eq (fun q _ g2 _ => g1 q (Or.inl g2)) (funext fun k => f 421 k rfl) (funext fun k => f 422 k rfl) (funext fun k => f 425 k rfl) (congrFun r2 10) (congrFun r2 12) (congrFun r2 13) g3 (f 420 7 rfl), ?_⟩, 0, by decide, (congrFun (g1 201 (by decide)) 1).trans h5, g2⟩
  rw [r2, show J 420 14 = I 420 14 from f 420 14 rfl]
  exact h6
theorem stp_past : ∀ i, i < 12 → 288 + 11 * i ∈ stps := by decide +kernel
theorem stp_far2 : ∀ a ∈ stps, a ≠ 235 → (a < 235 ∨ 245 < a) ∧ a ≠ 252 ∧ a ≠ 253 ∧ a < 420 := by decide +kernel
theorem Mt_reS : Mt I (reS I n fa) := by
  unfold reS
  by_cases e : n = 12
  · rw [if_pos e]
    exact Mt.fm (Mt.tr (Mt.of (Fm.up (Fm.up Fm.rf rfl) rfl)) (Mt.cpA (stp_past _ (Nat.mod_lt _ (by decide))) (by decide) (by decide))) (Fm.up Fm.rf rfl)
  · rw [if_neg e]
    exact Mt.fm (Mt.cpA (stp_past _ (Nat.mod_lt _ (by decide))) (by decide) (by decide)) (Fm.up Fm.rf rfl)
/-- behind an act of both, or days -/
theorem Sy.of (h : Sy I) (hs : Sim K) (f : ∀ q, q < 420 → (q < 235 ∨ 245 < q) → q ≠ 252 → q ≠ 253 → K q = reS I n fa q) (e6 : K 426 = I 426) (e14 : K 420 14 = I 420 14) (e9 : K 420 9 = I 420 9) : Sy K := by
  obtain ⟨⟨h1, h2⟩, ⟨h3, h6⟩, l, h4, h5, h7⟩ := h
  have m : Mt I (reS I n fa) := Mt_reS
  have hn := hs.1
  refine ⟨⟨fun a ha h8 => ?_, ?_⟩, ⟨hs, ?_⟩, l, h4, ?_, e9.trans h7⟩
  · by_cases e : a = 235
    · subst e
      exact ⟨dn (K 421), hn.2.2.1.2.1, (Sd.fd hn.1 (f := 3) (g := 1) (by decide)).trans hn.2.2.1.2.2.2⟩
    · obtain ⟨a1, a2, a3, a4⟩ := stp_far2 a ha e
      rw [f a a4 a1 a2 a3]
      exact m.2.2.2.1 h1 a ha h8
  · exact h2.eq e6 ((f 202 (by decide) (by decide) (by decide) (by decide)).trans m.2.2.2.2.1) ((congrFun (f 203 (by decide) (by decide) (by decide) (by decide)) 1).trans m.2.2.2.2.2.1) ((congrFun (f 220 (by decide) (by decide) (by decide) (by decide)) 1).trans m.2.2.2.2.2.2)
  · rw [f 200 (by decide) (by decide) (by decide) (by decide), reS_el (by decide) (by decide), e14]
    exact h6
  · rw [f 201 (by decide) (by decide) (by decide) (by decide)]
    exact m.2.1.trans h5
/-- what an act of the class did: c what it threw -/
def AcJ (c y : Int32) (l : Int64) (val : Int32) (J F I : Nat → Nat → Int32) : Prop := (c = 0 ∧ y = 0 ∧ l = val.toInt64 ∧ J = F) ∨ (¬ c = 0 ∧ y = c ∧ J = I)
theorem AcJ.up {F : Nat → Nat → Int32} (h : AcJ c y l val J F I) (f : ∀ q, 420 ≤ q → F q = I q) : ∀ q, 420 ≤ q → J q = I q := by
  rcases h with ⟨_, _, _, rfl⟩ | ⟨_, _, rfl⟩
  · exact f
  · exact fun _ _ => rfl
theorem AcJ.st {F : Nat → Nat → Int32} (h : AcJ c y l val J F I) : y = c := by
  rcases h with ⟨c0, y0, _, _⟩ | ⟨_, y0, _⟩
  · rw [c0, y0]
  · exact y0
theorem Sy.qa {fc fh : (Nat → Nat → Int32) → Nat → Nat → Int32} (h : Sy I) (hps : PsN I n fa) (kc : ∀ M q, (q < 235 ∨ 245 < q) → fc M q = M q) (kh : ∀ M q, q ≠ 421 → fh M q = M q) (kk : c = 0 → ∀ M k, (k = 3 ∨ 335 ≤ k) → fh M 421 k = M 421 k) (D : c = 0 → ∀ R M, Nm R 235 (I 421) → M 421 = I 421 → Nm (fc R) 235 (fh M 421)) (hJ : AcJ c y l val J (fc (reS I n fa)) I) (hv : QA J n c val fh L w1 w2 t ov h') : ∃ y2 K, ov = some (.int y2) ∧ h' = hp K L w1 w2 t ∧ Sy K ∧ K 420 0 = c ∧ (c = 0 → y2 = val) := by
  rcases hJ with ⟨c0, _, _, rfl⟩ | ⟨c0, _, rfl⟩
  · rcases hv with ⟨_, e1, e2⟩ | ⟨c1, _, _⟩
    · have r0 : ∀ q, 420 ≤ q → fc (reS I n fa) q = I q := fun q hq => by rw [kc _ q (by omega), reS_row (by omega) (by omega)]
      have r1 : ∀ q, q ≠ 420 → q ≠ 425 → remH (up2 (fc (reS I n fa)) 420 0 0) n q = fc (reS I n fa) q := fun q g1 g2 => by rw [remH_row g1 g2, up2_row g1]
      have r21 : remH (up2 (fc (reS I n fa)) 420 0 0) n 421 = I 421 := (r1 421 (by decide) (by decide)).trans (r0 421 (by decide))
      have hn0 : Nm (reS I n fa) 235 (I 421) := h.nm.eq fun q g1 g2 => reS_row (by omega) (by omega)
      have el : ∀ k, k ≠ 0 → k ≠ 7 → fh (remH (up2 (fc (reS I n fa)) 420 0 0) n) 420 k = I 420 k := fun k g1 g2 => by rw [kh _ 420 (by decide), remH_el g2, up2_ne (Or.inr g1), r0 420 (by decide)]
      refine ⟨val, _, e1, e2, Sy.of (n := n) (fa := fa) h (Sim.act (J := fc (reS I n fa)) h.sim hps (fun q g1 _ _ => kc _ q g1) (fun q g1 _ _ => kh _ q g1) (D c0 _ _ hn0 r21) ?_ fun k hk => ?_) (fun q g1 g2 _ _ => ?_) ?_ (el 14 (by decide) (by decide)) (el 9 (by decide) (by decide)), ?_, fun _ => rfl⟩
      · rw [kk c0 _ 3 (Or.inl rfl), r21]
      · rw [kk c0 _ k (Or.inr hk), r21]
      · rw [kh _ q (by omega), r1 q (by omega) (by omega), kc _ q g2]
      · rw [kh _ 426 (by decide), r1 426 (by decide) (by decide), r0 426 (by decide)]
      · rw [kh _ 420 (by decide), remH_el (by decide), up2_at, c0]
    · exact absurd c0 c1
  · rcases hv with ⟨c1, _, _⟩ | ⟨_, e1, e2⟩
    · exact absurd c1 c0
    · exact ⟨0, _, e1, e2, h.u (Fm.up (Fm.up Fm.rf rfl) rfl), up2_at, fun z => absurd z c0⟩
theorem vC_ix (hn : nd ≤ 12) {x : Int32} (h : vC nd W x = 0) : ixN x < nd := by
  unfold vC at h
  by_cases c : inB x 0 (nI nd - 1) = true
  · exact (ix_of hn c).1
  · rw [if_neg c] at h
    exact absurd h (by decide)
theorem vH_ix (hn : nd ≤ 12) {x y : Int32} (h : vH nd np W x y = 0) : ixN x < nd := by
  unfold vH at h
  by_cases c : inB x 0 (nI nd - 1) = true ∧ inB y 0 (nI np - 1) = true
  · exact (ix_of hn c.1).1
  · rw [if_neg c] at h
    exact absurd h (by decide)
theorem vL_ix (hn : nd ≤ 12) {x y : Int32} (h : vL nd x y = 0) : ixN x < nd := by
  unfold vL at h
  by_cases c : inB x 0 (nI nd - 1) = true ∧ (y = -1 ∨ inB y 0 (nI nd - 1) = true)
  · exact (ix_of hn c.1).1
  · rw [if_neg c] at h
    exact absurd h (by decide)
theorem vF_ix (hn : np ≤ 12) {x y : Int32} (h : vF np x y = 0) : ixN x < np := by
  unfold vF at h
  by_cases c : inB x 0 (nI np - 1) = true
  · exact (ix_of hn c).1
  · rw [if_neg c] at h
    exact absurd h (by decide)
theorem Sy.put (h : Sy I) (hps : PsN I n fa) {x : Int32} (hJ : AcJ (vS (dn (I 421)) (I 421) 0 x) y l (mn 99 (I 421 (23 + 6 * ixN x + 2) + 1)) J (up2 (reS I n fa) 240 (ixN x) (mn 99 (I 421 (23 + 6 * ixN x + 2) + 1))) I) (hv : QA J n (vS (dn (I 421)) (I 421) 0 x) (mn 99 (I 421 (23 + 6 * ixN x + 2) + 1)) (fun M => up2 M 421 (23 + 6 * ixN x + 2) (mn 99 (I 421 (23 + 6 * ixN x + 2) + 1))) L w1 w2 t ov h') : ∃ y2 K, ov = some (.int y2) ∧ h' = hp K L w1 w2 t ∧ Sy K ∧ K 420 0 = vS (dn (I 421)) (I 421) 0 x ∧ (vS (dn (I 421)) (I 421) 0 x = 0 → y2 = mn 99 (I 421 (23 + 6 * ixN x + 2) + 1)) := by
  have h12 := h.nm.2.2.1.2.1
  refine h.qa hps (fc := fun M => up2 M 240 (ixN x) (mn 99 (I 421 (23 + 6 * ixN x + 2) + 1))) (fun M q g => up2_row (by omega)) (fun M q g => up2_row g) (fun c0 M k g => up2_ne (Or.inr ?_)) (fun c0 R M hR hM => ?_) hJ hv
  · have := (vS_ix h12 c0).1
    omega
  · show Nm (up2 R 240 (ixN x) _) 235 (up2 M 421 (23 + 6 * ixN x + 2) _ 421)
    rw [up2_ud, hM]
    exact hR.put c0
theorem Sy.stt (h : Sy I) (hps : PsN I n fa) {x k val : Int32} {s : Nat} (hk : ¬ k = 1) (hs : s ≤ 2) (h1 : s ≠ 1) (hJ : AcJ (vS (dn (I 421)) (I 421) k x) y l val J (up2 (reS I n fa) 243 (ixN x) (nI s)) I) (hv : QA J n (vS (dn (I 421)) (I 421) k x) val (fun M => up2 M 421 (23 + 6 * ixN x + 5) (nI s)) L w1 w2 t ov h') : ∃ y2 K, ov = some (.int y2) ∧ h' = hp K L w1 w2 t ∧ Sy K ∧ K 420 0 = vS (dn (I 421)) (I 421) k x ∧ (vS (dn (I 421)) (I 421) k x = 0 → y2 = val) := by
  have h12 := h.nm.2.2.1.2.1
  refine h.qa hps (fc := fun M => up2 M 243 (ixN x) (nI s)) (fun M q g => up2_row (by omega)) (fun M q g => up2_row g) (fun c0 M k g => up2_ne (Or.inr ?_)) (fun c0 R M hR hM => ?_) hJ hv
  · have := (vS_ix h12 c0).1
    omega
  · show Nm (up2 R 243 (ixN x) _) 235 (up2 M 421 (23 + 6 * ixN x + 5) _ 421)
    rw [up2_ud, hM]
    exact hR.stt hk c0 hs h1
theorem Sy.hand (h : Sy I) (hps : PsN I n fa) {x z val : Int32} (hJ : AcJ (vH (dn (I 421)) (pn (I 421)) (I 421) x z) y l val J (up2 (reS I n fa) 238 (ixN x) z) I) (hv : QA J n (vH (dn (I 421)) (pn (I 421)) (I 421) x z) val (fun M => up2 M 421 (23 + 6 * ixN x + 0) z) L w1 w2 t ov h') : ∃ y2 K, ov = some (.int y2) ∧ h' = hp K L w1 w2 t ∧ Sy K ∧ K 420 0 = vH (dn (I 421)) (pn (I 421)) (I 421) x z ∧ (vH (dn (I 421)) (pn (I 421)) (I 421) x z = 0 → y2 = val) := by
  have h12 := h.nm.2.2.1.2.1
  refine h.qa hps (fc := fun M => up2 M 238 (ixN x) z) (fun M q g => up2_row (by omega)) (fun M q g => up2_row g) (fun c0 M k g => up2_ne (Or.inr ?_)) (fun c0 R M hR hM => ?_) hJ hv
  · have := vH_ix h12 c0
    omega
  · show Nm (up2 R 238 (ixN x) _) 235 (up2 M 421 (23 + 6 * ixN x + 0) _ 421)
    rw [up2_ud, hM]
    exact hR.hand c0
theorem Sy.lean (h : Sy I) (hps : PsN I n fa) {x z val : Int32} (hJ : AcJ (vL (dn (I 421)) x z) y l val J (up2 (reS I n fa) 242 (ixN x) z) I) (hv : QA J n (vL (dn (I 421)) x z) val (fun M => up2 M 421 (23 + 6 * ixN x + 4) z) L w1 w2 t ov h') : ∃ y2 K, ov = some (.int y2) ∧ h' = hp K L w1 w2 t ∧ Sy K ∧ K 420 0 = vL (dn (I 421)) x z ∧ (vL (dn (I 421)) x z = 0 → y2 = val) := by
  have h12 := h.nm.2.2.1.2.1
  refine h.qa hps (fc := fun M => up2 M 242 (ixN x) z) (fun M q g => up2_row (by omega)) (fun M q g => up2_row g) (fun c0 M k g => up2_ne (Or.inr ?_)) (fun c0 R M hR hM => ?_) hJ hv
  · have := vL_ix h12 c0
    omega
  · show Nm (up2 R 242 (ixN x) _) 235 (up2 M 421 (23 + 6 * ixN x + 4) _ 421)
    rw [up2_ud, hM]
    exact hR.lean c0
theorem Sy.free (h : Sy I) (hps : PsN I n fa) {x z val : Int32} (hJ : AcJ (vF (pn (I 421)) x z) y l val J (up2 (reS I n fa) 237 (ixN x) z) I) (hv : QA J n (vF (pn (I 421)) x z) val (fun M => up2 M 421 (11 + 2 * ixN x + 1) z) L w1 w2 t ov h') : ∃ y2 K, ov = some (.int y2) ∧ h' = hp K L w1 w2 t ∧ Sy K ∧ K 420 0 = vF (pn (I 421)) x z ∧ (vF (pn (I 421)) x z = 0 → y2 = val) := by
  have h6 := h.nm.2.2.1.1
  refine h.qa hps (fc := fun M => up2 M 237 (ixN x) z) (fun M q g => up2_row (by omega)) (fun M q g => up2_row g) (fun c0 M k g => up2_ne (Or.inr ?_)) (fun c0 R M hR hM => ?_) hJ hv
  · have := vF_ix (Nat.le_trans h6 (by decide)) c0
    omega
  · show Nm (up2 R 237 (ixN x) _) 235 (up2 M 421 (11 + 2 * ixN x + 1) _ 421)
    rw [up2_ud, hM]
    exact hR.free c0
theorem Sy.call (h : Sy I) (hps : PsN I n fa) {x val : Int32} (hJ : AcJ (vC (dn (I 421)) (I 421) x) y l val J (up2 (up2 (reS I n fa) 239 (ixN x) 0) 243 (ixN x) 1) I) (hv : QA J n (vC (dn (I 421)) (I 421) x) val (fun M => up2 (up2 M 421 (23 + 6 * ixN x + 1) 0) 421 (23 + 6 * ixN x + 5) 1) L w1 w2 t ov h') : ∃ y2 K, ov = some (.int y2) ∧ h' = hp K L w1 w2 t ∧ Sy K ∧ K 420 0 = vC (dn (I 421)) (I 421) x ∧ (vC (dn (I 421)) (I 421) x = 0 → y2 = val) := by
  have h12 := h.nm.2.2.1.2.1
  refine h.qa hps (fc := fun M => up2 (up2 M 239 (ixN x) 0) 243 (ixN x) 1) (fun M q g => ?_) (fun M q g => ?_) (fun c0 M k g => ?_) (fun c0 R M hR hM => ?_) hJ hv
  · show up2 (up2 M 239 (ixN x) 0) 243 (ixN x) 1 q = M q
    rw [up2_row (by omega), up2_row (by omega)]
  · show up2 (up2 M 421 (23 + 6 * ixN x + 1) 0) 421 (23 + 6 * ixN x + 5) 1 q = M q
    rw [up2_row g, up2_row g]
  · have := vC_ix h12 c0
    show up2 (up2 M 421 (23 + 6 * ixN x + 1) 0) 421 (23 + 6 * ixN x + 5) 1 421 k = M 421 k
    rw [up2_ne (Or.inr (by omega)), up2_ne (Or.inr (by omega))]
  · show Nm (up2 (up2 R 239 (ixN x) 0) 243 (ixN x) 1) 235 (up2 (up2 M 421 (23 + 6 * ixN x + 1) 0) 421 (23 + 6 * ixN x + 5) 1 421)
    rw [up2_ud, up2_ud, hM]
    exact hR.call c0
end T79zs
end
