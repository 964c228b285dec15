/-! ===== forget, recall, hand, lean, free keep the ranges ===== -/
section T79zo
variable {I J K : Nat → Nat → Int32} {a b n fa d p : Nat} {W V : Nat → Int32}
set_option maxRecDepth 100000
theorem RgD.st {np nd : Nat} (h : RgD np nd W d) (c : ¬ W (23 + 6 * d + 5) = 1) {s : Nat} (hs : s ≤ 2) (h1 : s ≠ 1) : RgD np nd (ud W (23 + 6 * d + 5) (nI s)) d := by
  obtain ⟨a0, ⟨l, hl, e, f⟩, a2, a3, a4, a5⟩ := h
  unfold RgD ud
  rw [if_pos rfl, if_neg (by omega), if_neg (by omega), if_neg (by omega), if_neg (by omega), if_neg (by omega)]
  refine ⟨a0, ⟨l, hl, e, ⟨fun z => absurd (nI_inj (b := 1) (by omega) (by decide) z) h1, fun z => absurd (f.mpr z) c⟩⟩, a2, a3, a4, ⟨s, hs, rfl⟩⟩
theorem Nm.stt (h : Nm I 235 W) {k x : Int32} (hk : ¬ k = 1) (c : vS (dn W) W k x = 0) {s : Nat} (hs : s ≤ 2) (h1 : s ≠ 1) : Nm (up2 I 243 (ixN x) (nI s)) 235 (ud W (23 + 6 * ixN x + 5) (nI s)) := by
  have hG := h.2.2
  have hd := (vS_ix hG.1.2.1 c).1
  have hc := (vS_ix hG.1.2.1 c).2
  have h12 : ixN x < 12 := Nat.lt_of_lt_of_le hd hG.1.2.1
  generalize ixN x = d at *
  refine ⟨Sd.ro (a := 235) (k := 5) h.1 h12 (by decide), h.2.1.eq (up2_row (by decide)) (up2_row (by decide)) (if_neg (by omega)) fun k g1 g2 => if_neg (by omega), hG.du hd (fun k hk => if_neg (by omega)) ?_⟩
  exact (hG.2.2.2 d hd).st (by rw [hc]; exact hk) hs h1
theorem Nm.hand (h : Nm I 235 W) {x y : Int32} (c : vH (dn W) (pn W) W x y = 0) : Nm (up2 I 238 (ixN x) y) 235 (ud W (23 + 6 * ixN x + 0) y) := by
  have hG := h.2.2
  have hn := hG.1.2.1
  have hm := hG.1.1
  unfold vH at c
  by_cases c0 : inB x 0 (nI (dn W) - 1) = true ∧ inB y 0 (nI (pn W) - 1) = true
  · have hd := (ix_of hn c0.1).1
    obtain ⟨j, hj, ey⟩ := inB_ix (by omega) c0.2
    have h12 : ixN x < 12 := Nat.lt_of_lt_of_le hd hn
    clear c c0
    generalize ixN x = d at *
    refine ⟨Sd.ro (a := 235) (k := 0) h.1 h12 (by decide), h.2.1.eq (up2_row (by decide)) (up2_row (by decide)) (if_neg (by omega)) fun k g1 g2 => if_neg (by omega), hG.du hd (fun k hk => if_neg (by omega)) ?_⟩
    obtain ⟨a0, a1, a2, a3, a4, a5⟩ := hG.2.2.2 d hd
    unfold RgD ud
    rw [if_pos rfl, if_neg (by omega), if_neg (by omega), if_neg (by omega), if_neg (by omega), if_neg (by omega)]
    exact ⟨⟨j, hj, ey⟩, a1, a2, a3, a4, a5⟩
  · rw [if_neg c0] at c
    exact absurd c (by decide)
theorem Nm.lean (h : Nm I 235 W) {x y : Int32} (c : vL (dn W) x y = 0) : Nm (up2 I 242 (ixN x) y) 235 (ud W (23 + 6 * ixN x + 4) y) := by
  have hG := h.2.2
  have hn := hG.1.2.1
  unfold vL at c
  by_cases c0 : inB x 0 (nI (dn W) - 1) = true ∧ (y = -1 ∨ inB y 0 (nI (dn W) - 1) = true)
  · have hd := (ix_of hn c0.1).1
    have ey : y = -1 ∨ ∃ k, k < dn W ∧ y = nI k := c0.2.imp id fun z => inB_ix (by omega) z
    have h12 : ixN x < 12 := Nat.lt_of_lt_of_le hd hn
    clear c c0
    generalize ixN x = d at *
    refine ⟨Sd.ro (a := 235) (k := 4) h.1 h12 (by decide), h.2.1.eq (up2_row (by decide)) (up2_row (by decide)) (if_neg (by omega)) fun k g1 g2 => if_neg (by omega), hG.du hd (fun k hk => if_neg (by omega)) ?_⟩
    obtain ⟨a0, a1, a2, a3, a4, a5⟩ := hG.2.2.2 d hd
    unfold RgD ud
    rw [if_pos rfl, if_neg (by omega), if_neg (by omega), if_neg (by omega), if_neg (by omega), if_neg (by omega)]
    exact ⟨a0, a1, a2, a3, ey, a5⟩
  · rw [if_neg c0] at c
    exact absurd c (by decide)
theorem Nm.free (h : Nm I 235 W) {x y : Int32} (c : vF (pn W) x y = 0) : Nm (up2 I 237 (ixN x) y) 235 (ud W (11 + 2 * ixN x + 1) y) := by
  have hG := h.2.2
  have hm := hG.1.1
  unfold vF at c
  by_cases c0 : inB x 0 (nI (pn W) - 1) = true
  · rw [if_pos c0] at c
    by_cases c1 : inB y 0 9 = true
    · have hp := (ix_of (Nat.le_trans hm (by decide)) c0).1
      obtain ⟨j, _, hj, ey⟩ := inB_nI (a := 0) (b := 9) (by decide) c1
      have h6 : ixN x < 6 := Nat.lt_of_lt_of_le hp hm
      clear c c0 c1
      generalize ixN x = p at *
      refine ⟨Sd.fr (a := 235) h.1 h6, h.2.1.eq (up2_row (by decide)) (up2_row (by decide)) (if_neg (by omega)) fun k g1 g2 => if_neg (by omega), hG.pu hp (fun k hk => if_neg (by omega)) ?_⟩
      unfold ud
      rw [if_pos rfl]
      exact ⟨j, hj, ey⟩
    · rw [if_neg c1] at c
      exact absurd c (by decide)
  · rw [if_neg c0] at c
    exact absurd c (by decide)
end T79zo
