/-! ===== the relation's past: an act remembers on both sides ===== -/
section T79zi
variable {I J : Nat → Nat → Int32} {a b n fa : Nat} {W V : Nat → Int32}
set_option maxRecDepth 100000
theorem Sd.eqW (h : Sd I a W) (e : ∀ k, k < 95 → V k = W k) : Sd I a V := by
  obtain ⟨h1, h2, h3⟩ := h
  have hb : ∀ x ∈ flds, x.2 < 95 := by decide
  refine ⟨fun x hx => ?_, fun p hp => ?_, fun d hd k hk => ?_⟩
  · rw [e _ (hb x hx)]
    exact h1 x hx
  · rw [e _ (by omega), e _ (by omega)]
    exact h2 p hp
  · rw [e _ (by omega)]
    exact h3 d hd k hk
theorem Nm.eqW (h : Nm I a W) (e : ∀ k, k < 335 → V k = W k) : Nm I a V :=
  ⟨h.1.eqW fun k hk => e k (by omega), h.2.1.eq rfl rfl (e 9 (by decide)) fun k _ hk => e k hk, (h.2.2.log fun k hk _ => e k (by omega)).1⟩
theorem Nm.at (h : Nm I b W) (f : ∀ i, i ≤ 10 → J (a + i) = I (b + i)) : Nm J a W := by
  refine ⟨?_, ?_, h.2.2⟩
  · obtain ⟨h1, h2, h3⟩ := h.1
    refine ⟨fun x hx => ?_, fun p hp => ?_, fun d hd k hk => ?_⟩
    · rw [show J a = I b from f 0 (by decide)]
      exact h1 x hx
    · rw [f 1 (by decide), f 2 (by decide)]
      exact h2 p hp
    · rw [Nat.add_assoc, f (3 + k) (by omega), ← Nat.add_assoc]
      exact h3 d hd k hk
  · obtain ⟨r, m, h1, h2, h3, h4, h5, h6⟩ := h.2.1
    refine ⟨r, m, h1, h2, by rw [f 9 (by decide)]; exact h3, by rw [f 9 (by decide)]; exact h4, h5, fun k hk j hj => ?_⟩
    rw [f 10 (by decide)]
    exact h6 k hk j hj
def PsN (I : Nat → Nat → Int32) (n fa : Nat) : Prop := n ≤ 12 ∧ fa < 12 ∧ I 200 13 = nI n ∧ I 420 7 = nI n ∧ I 200 12 = nI fa ∧ ∀ i, i < n → Nm I (288 + 11 * ((fa + i) % 12)) (fun k => I 425 (335 * i + k)) ∧ I 425 (335 * i + 3) = I 421 3
theorem remH_7 : remH I n 420 7 = (if n = 12 then I 420 7 else nI (n + 1)) := by
  unfold remH
  by_cases e : n = 12
  · rw [if_pos e, if_pos e, cpR_row (by decide), cpR_row (by decide)]
  · rw [if_neg e, if_neg e, cpR_row (by decide), up2_at]
theorem PsN.rem (h : PsN I n fa) (hn : Nm I 235 (I 421)) (f : ∀ q, 288 ≤ q → q < 420 → J q = reS I n fa q) (g2 : J 200 12 = reS I n fa 200 12) (g3 : J 200 13 = reS I n fa 200 13) (f5 : J 425 = remH I n 425) (g7 : J 420 7 = remH I n 420 7) (f3 : J 421 3 = I 421 3) : PsS J := by
  obtain ⟨h1, h2, e1, e2, e3, h4⟩ := h
  rw [remH_7] at g7
  by_cases e : n = 12
  · subst e
    rw [if_pos rfl, e2] at g7
    unfold reS at g2 g3 f
    rw [if_pos rfl] at g2 g3
    unfold remH at f5
    rw [if_pos rfl] at f5
    refine ⟨12, (fa + 1) % 12, by decide, by omega, g3.trans (up2_at), g7, ?_, fun i hi => ?_⟩
    · rw [g2, up2_ne (by decide), cpS_out (by omega), up2_ne (by decide), up2_at]
    have hb : ∀ k, k < 335 → J 425 (335 * i + k) = if i < 11 then I 425 (335 * (i + 1) + k) else I 421 k := by
      intro k hk
      rw [f5]
      by_cases h11 : i < 11
      · rw [if_pos h11, cpR_out (by omega), show 335 * i + k = 0 + (335 * i + k) by omega, cpR_in (by omega), show 335 * i + k + 335 = 335 * (i + 1) + k by omega]
      · obtain rfl : i = 11 := by omega
        rw [if_neg h11, cpR_in (by omega), cpR_row (by decide)]
        rfl
    by_cases h11 : i < 11
    · have ha := h4 (i + 1) (by omega)
      refine ⟨?_, ?_⟩
      · refine Nm.eqW (W := fun k => I 425 (335 * (i + 1) + k)) ?_ fun k hk => by rw [hb k hk, if_pos h11]
        refine ha.1.at fun j hj => ?_
        rw [f _ (by omega) (by omega), if_pos rfl, up2_row (by omega), cpS_out (by omega), up2_row (by omega), up2_row (by omega)]
        congr 1
        omega
      · rw [hb 3 (by decide), if_pos h11, f3]
        exact ha.2
    · obtain rfl : i = 11 := by omega
      refine ⟨?_, ?_⟩
      · refine Nm.eqW (W := I 421) ?_ fun k hk => by rw [hb k hk, if_neg h11]
        refine hn.at fun j hj => ?_
        rw [f _ (by omega) (by omega), if_pos rfl, up2_row (by omega), cpS_in (by omega), up2_row (by omega), up2_row (by omega)]
      · rw [hb 3 (by decide), if_neg h11, f3]
  · rw [if_neg e] at g7
    unfold reS at g2 g3 f
    rw [if_neg e] at g2 g3
    unfold remH at f5
    rw [if_neg e] at f5
    refine ⟨n + 1, fa, by omega, h2, g3.trans (up2_at), g7, ?_, fun i hi => ?_⟩
    · rw [g2, up2_ne (by decide), cpS_out (by omega), e3]
    have hb : ∀ k, k < 335 → J 425 (335 * i + k) = if i < n then I 425 (335 * i + k) else I 421 k := by
      intro k hk
      rw [f5]
      by_cases h11 : i < n
      · rw [if_pos h11, cpR_out (by omega), up2_row (by decide)]
      · obtain rfl : i = n := by omega
        rw [if_neg h11, cpR_in (by omega), up2_row (by decide)]
        rfl
    by_cases h11 : i < n
    · have ha := h4 i h11
      refine ⟨?_, ?_⟩
      · refine Nm.eqW (W := fun k => I 425 (335 * i + k)) ?_ fun k hk => by rw [hb k hk, if_pos h11]
        refine ha.1.at fun j hj => ?_
        rw [f _ (by omega) (by omega), if_neg e, up2_row (by omega), cpS_out (by omega)]
      · rw [hb 3 (by decide), if_pos h11, f3]
        exact ha.2
    · obtain rfl : i = n := by omega
      refine ⟨?_, ?_⟩
      · refine Nm.eqW (W := I 421) ?_ fun k hk => by rw [hb k hk, if_neg h11]
        refine hn.at fun j hj => ?_
        rw [f _ (by omega) (by omega), if_neg e, up2_row (by omega), cpS_in (by omega)]
      · rw [hb 3 (by decide), if_neg h11, f3]
end T79zi
