/-! ===== call, days keep the relation ===== -/
section T79zp
variable {I J K : Nat → Nat → Int32} {a b n fa d p nl len m : Nat} {cd fc fn : Nat → Nat} {W V : Nat → Int32}
set_option maxRecDepth 100000
theorem Nm.call (h : Nm I 235 W) {x : Int32} (c : vC (dn W) W x = 0) : Nm (up2 (up2 I 239 (ixN x) 0) 243 (ixN x) 1) 235 (ud (ud W (23 + 6 * ixN x + 1) 0) (23 + 6 * ixN x + 5) 1) := by
  have hG := h.2.2
  have hn := hG.1.2.1
  unfold vC at c
  by_cases c0 : inB x 0 (nI (dn W) - 1) = true
  · have hd := (ix_of hn c0).1
    have h12 : ixN x < 12 := Nat.lt_of_lt_of_le hd hn
    clear c c0
    generalize ixN x = d at *
    refine ⟨Sd.ro (a := 235) (k := 5) (Sd.ro (a := 235) (k := 1) h.1 h12 (by decide)) h12 (by decide), h.2.1.eq ?_ ?_ ?_ fun k g1 g2 => ?_, (hG.upd hd (fun k k1 k5 => ?_) (l := 0) (s := 1) (by decide) ?_ (by decide) ?_ (by decide)).1⟩
    · rw [up2_row (by decide), up2_row (by decide)]
    · rw [up2_row (by decide), up2_row (by decide)]
    · unfold ud
      rw [if_neg (by omega), if_neg (by omega)]
    · unfold ud
      rw [if_neg (by omega), if_neg (by omega)]
    · unfold ud
      rw [if_neg k5, if_neg k1]
    · unfold ud
      rw [if_neg (by omega), if_pos rfl]
      rfl
    · unfold ud
      rw [if_pos rfl]
      rfl
  · rw [if_neg c0] at c
    exact absurd c (by decide)
/-- the days of both sides keep the relation -/
theorem Sim.days (h : Sim I) (hp : PsN I n fa) (ok : DsOk nl (I 421) (dsW false cd fc fn nl (I 421) m)) (f : ∀ q, (q < 235 ∨ 245 < q) → q ≠ 252 → q ≠ 253 → J q = reS I n fa q) (D : Sd J 235 (dsW false cd fc fn nl (I 421) m)) (G : Lg J 235 (dsW false cd fc fn nl (I 421) m)) (g : ∀ q, q ≠ 421 → q ≠ 428 → q ≠ 429 → K q = remH (up2 J 420 0 0) n q) (g1 : K 421 = dsW false cd fc fn nl (I 421) m) : Sim K := by
  refine h.act hp f g ?_ ?_ ?_
  · rw [g1]
    exact ⟨D, G, ok.1⟩
  · rw [g1]
    exact ok.2.2.2.2.1
  · rw [g1]
    exact ok.2.2.2.2.2
end T79zp
