/-! ===== what is known stays: days, undo, back, image, seed, feed, end, street, law ===== -/
section T79zt
variable {I J K : Nat → Nat → Int32} {L : Nat → Nat → Int64} {w1 w2 t n fa nd np nl len e : Nat} {cd fc fn : Nat → Nat} {W T : Nat → Int32} {c y val : Int32} {l : Int64} {ov : Option Value} {h' : aH}
set_option maxRecDepth 100000
theorem inB90 : ∀ m, m < 91 → 1 ≤ m → inB (nI m) 1 90 = true := by decide +kernel
theorem Sy.days (h : Sy I) (hps : PsN I n fa) (ln : LwN (I 421) nl) {x y : Int32} (u : ∀ q, 420 ≤ q → J q = I q) (hJ : (∃ m, 1 ≤ m ∧ m ≤ 90 ∧ x = nI m ∧ y = 0 ∧ (∀ q, (q < 235 ∨ 245 < q) → q ≠ 252 → q ≠ 253 → J q = reS I n fa q) ∧ Sd J 235 (dsW false cd fc fn nl (I 421) m) ∧ Lg J 235 (dsW false cd fc fn nl (I 421) m)) ∨ (inB x 1 90 = false ∧ y = 1 ∧ J = I)) (hv : ∃ z, ov = some (.int z) ∧ ((inB x 1 90 = false ∧ h' = hp (up2 (up2 J 420 0 0) 420 0 1) L w1 w2 t) ∨ ∃ m, 1 ≤ m ∧ m ≤ 90 ∧ x = nI m ∧ ∃ K, h' = hp K L w1 w2 t ∧ (∀ q, q ≠ 421 → q ≠ 428 → q ≠ 429 → K q = remH (up2 J 420 0 0) n q) ∧ K 421 = dsW false cd fc fn nl (I 421) m)) : ∃ z K, ov = some (.int z) ∧ h' = hp K L w1 w2 t ∧ Sy K ∧ K 420 0 = y := by
  obtain ⟨z, rfl, hv⟩ := hv
  rcases hJ with ⟨m, m1, m2, rfl, rfl, f, D, G⟩ | ⟨c, rfl, rfl⟩
  · rcases hv with ⟨c, _⟩ | ⟨m', p1, p2, ex, K, rfl, g, e21⟩
    · rw [inB90 m (by omega) m1] at c
      cases c
    · obtain rfl := nI_inj (by omega) (by omega) ex
      have ok : DsOk nl (I 421) (dsW false cd fc fn nl (I 421) m) := dsW_ok ⟨h.nm.2.2, rfl, rfl, ln, rfl, fun _ _ => rfl⟩ m
      refine ⟨z, K, rfl, rfl, Sy.of (n := n) (fa := fa) h (Sim.days h.sim hps ok f D G g e21) (fun q g1 g2 g3 g4 => ?_) ?_ ?_ ?_, ?_⟩
      · rw [g q (by omega) (by omega) (by omega), remH_row (by omega) (by omega), up2_row (by omega)]
        exact f q g2 g3 g4
      · rw [g 426 (by decide) (by decide) (by decide), remH_row (by decide) (by decide), up2_row (by decide), u 426 (by decide)]
      · rw [g 420 (by decide) (by decide) (by decide), remH_el (by decide), up2_ne (by decide), u 420 (by decide)]
      · rw [g 420 (by decide) (by decide) (by decide), remH_el (by decide), up2_ne (by decide), u 420 (by decide)]
      · rw [g 420 (by decide) (by decide) (by decide), remH_el (by decide), up2_at]
  · rcases hv with ⟨_, rfl⟩ | ⟨m', p1, p2, rfl, _⟩
    · exact ⟨z, _, rfl, rfl, h.u (Fm.up (Fm.up Fm.rf rfl) rfl), up2_at⟩
    · rw [inB90 m' (by omega) p1] at c
      cases c
/-- a mutator of the class and what the reference did -/
theorem Sy.mt (h : Sy I) (m : Mt I J) (e3 : J 200 3 = I 200 3) (g : ∀ q, (q < 420 ∨ q = 426) → K q = J q) (e9 : K 420 9 = J 420 9) (e14 : K 420 14 = J 420 14) (hs : Sim K) : Sy K := by
  obtain ⟨⟨h1, h2⟩, ⟨_, h6⟩, l, h4, h5, h7⟩ := h
  have r4 := m.1 420 (by decide)
  refine ⟨⟨(m.2.2.2.1 h1).rows fun q hq => g q (Or.inl hq), (h2.m m).r g⟩, ⟨hs, ?_⟩, l, h4, ?_, ?_⟩
  · rw [g 200 (by decide), e3, e14, r4]
    exact h6
  · rw [g 201 (by decide)]
    exact m.2.1.trans h5
  · rw [e9, r4]
    exact h7
theorem Mt_unS : Mt I (unS I n fa) := by
  unfold unS
  by_cases e : n = 0
  · rw [if_pos e]
    exact Mt.rf
  · rw [if_neg e]
    exact Mt.tr (Mt.of (Fm.up Fm.rf rfl)) (Mt.cpA (by decide) (stp_past _ (Nat.mod_lt _ (by decide))) (by omega))
theorem unS_el {k : Nat} (hk : k ≠ 13) : unS I n fa 200 k = I 200 k := by
  unfold unS
  by_cases e : n = 0
  · rw [if_pos e]
  · rw [if_neg e, cpS_out (by omega), up2_ne (Or.inr hk)]
theorem unS_hi {q : Nat} (hq : 420 ≤ q) : unS I n fa q = I q := by
  unfold unS
  by_cases e : n = 0
  · rw [if_pos e]
  · rw [if_neg e, cpS_out (by omega), up2_row (by omega)]
theorem unH_row {q : Nat} (h1 : q ≠ 420) (h2 : q ≠ 421) : unH I n q = I q := by
  unfold unH
  by_cases e : n = 0
  · rw [if_pos e, up2_row h1]
  · rw [if_neg e, cpR_row h2, up2_row h1, up2_row h1]
theorem unH_el {k : Nat} (h1 : k ≠ 0) (h2 : k ≠ 7) : unH I n 420 k = I 420 k := by
  unfold unH
  by_cases e : n = 0
  · rw [if_pos e, up2_ne (Or.inr h1)]
  · rw [if_neg e, cpR_row (by decide), up2_ne (Or.inr h2), up2_ne (Or.inr h1)]
theorem Sy.undo (h : Sy I) (hps : PsN I n fa) : Sy (unH (unS I n fa) n) := h.mt Mt_unS (unS_el (by decide)) (fun q hq => unH_row (by omega) (by omega)) (unH_el (by decide) (by decide)) (unH_el (by decide) (by decide)) (h.sim.undo hps)
theorem Mt_bkS : Mt I (bkS I) := by
  unfold bkS
  exact Mt.fm (Mt.fm (Mt.cpA (by decide) (by decide) (by decide)) (Fm.cl (Fm.rf (s := sM)) (by decide) Fm_l246)) (Fm.up Fm.rf rfl)
theorem bkH_row {q : Nat} (h1 : q ≠ 420) (h2 : q ≠ 421) : bkH I q = I q := by
  unfold bkH
  rw [up2_row h1, cpR_row h2, up2_row h1]
theorem bkH_el {k : Nat} (h1 : k ≠ 0) (h2 : k ≠ 7) : bkH I 420 k = I 420 k := by
  unfold bkH
  rw [up2_ne (Or.inr h2), cpR_row (by decide), up2_ne (Or.inr h1)]
theorem bkS_el {k : Nat} (hk : k ≠ 13) : bkS I 200 k = I 200 k := by
  unfold bkS cpL
  rw [up2_ne (Or.inr hk), up2_row (by decide), cpS_out (by omega), cpS_out (by omega)]
theorem Sy.im6 (h : Sy I) : I 200 10 = 0 ↔ I 420 6 = 0 := by
  rcases h.sim.2.2.1 with ⟨a, b⟩ | ⟨a, b, _⟩
  · exact ⟨fun _ => b, fun _ => a⟩
  · exact ⟨fun z => absurd z a, fun z => absurd z b⟩
theorem bkS_6 : (if I 200 10 = 0 then I else bkS I) 420 6 = I 420 6 := by
  by_cases c : I 200 10 = 0
  · rw [if_pos c]
  · rw [if_neg c]
    exact congrFun (Mt_bkS.1 420 (by decide)) 6
theorem Sy.back (h : Sy I) : Sy (if (if I 200 10 = 0 then I else bkS I) 420 6 = 0 then up2 (if I 200 10 = 0 then I else bkS I) 420 0 0 else bkH (if I 200 10 = 0 then I else bkS I)) := by
  rw [bkS_6]
  by_cases c : I 200 10 = 0
  · rw [if_pos c, if_pos (h.im6.mp c)]
    exact h.u (Fm.up Fm.rf rfl)
  · obtain ⟨c6, hs⟩ := h.sim.back c
    rw [if_neg c, if_neg c6]
    exact h.mt Mt_bkS (bkS_el (by decide)) (fun q hq => bkH_row (by omega) (by omega)) (bkH_el (by decide) (by decide)) (bkH_el (by decide) (by decide)) hs
theorem imS_hi {q : Nat} (hq : 420 ≤ q) : imS I q = I q := by
  unfold imS cpL
  rw [up2_row (by omega), up2_row (by omega), cpS_out (by omega), cpS_out (by omega)]
theorem imH_el {k : Nat} (h1 : k ≠ 0) (h2 : k ≠ 6) : imH I 420 k = I 420 k := by
  unfold imH
  rw [up2_ne (Or.inr h2), cpR_row (by decide), up2_ne (Or.inr h1)]
theorem Sy.image (h : Sy I) : Sy (imH (imS I)) := by
  have hs := h.sim.image
  have m : Mt I (cpL (cpS I 268 235 11) 279 246) := Mt.fm (Mt.cpA (by decide) (by decide) (by decide)) (Fm.cl (Fm.rf (s := sM)) (by decide) Fm_l279)
  obtain ⟨⟨h1, h2⟩, ⟨_, h6⟩, l, h4, h5, h7⟩ := h
  have row : ∀ q, q ≠ 420 → q ≠ 422 → q ≠ 200 → imH (imS I) q = cpL (cpS I 268 235 11) 279 246 q := fun q g1 g2 g3 => by
    rw [imH_row g2 g1]
    unfold imS
    rw [up2_row g3]
  have r4 : ∀ k, k ≠ 0 → k ≠ 6 → imH (imS I) 420 k = I 420 k := fun k g1 g2 => by
    rw [imH_el g1 g2]
    unfold imS
    rw [up2_row (by decide), m.1 420 (by decide)]
  refine ⟨⟨fun a ha g2 => ?_, ?_⟩, ⟨hs, ?_⟩, l, h4, ?_, (r4 9 (by decide) (by decide)).trans h7⟩
  · have := stp_hi a ha
    rw [row a (by omega) (by omega) (by omega)]
    exact m.2.2.2.1 h1 a ha g2
  · exact (h2.m m).eq (row 426 (by decide) (by decide) (by decide)) (row 202 (by decide) (by decide) (by decide)) (congrFun (row 203 (by decide) (by decide) (by decide)) 1) (congrFun (row 220 (by decide) (by decide) (by decide)) 1)
  · rw [r4 14 (by decide) (by decide), imH_row (by decide) (by decide)]
    unfold imS cpL
    rw [up2_ne (by decide), up2_row (by decide), cpS_out (by omega), cpS_out (by omega)]
    exact h6
  · rw [row 201 (by decide) (by decide) (by decide)]
    exact m.2.1.trans h5
theorem Sy.seed (h : Sy I) {x : Int32} : Sy (up2 (up2 (up2 I 235 15 x) 420 0 0) 421 10 x) := Sy.mt (J := up2 I 235 15 x) h (Mt.of (Fm.up Fm.rf rfl)) (congrFun (up2_row (p := 235) (q := 200) (by decide)) 3) (fun q hq => by rw [up2_row (by omega), up2_row (by omega)]) (by rw [up2_row (by decide), up2_ne (by decide)]) (by rw [up2_row (by decide), up2_ne (by decide)]) h.sim.seed
theorem Sim.fr (h : Sim I) (g : ∀ q, q ≠ 201 → q ≠ 202 → q ≠ 420 → q ≠ 426 → q ≠ 427 → J q = I q) (g6 : J 420 6 = I 420 6) (g7 : J 420 7 = I 420 7) : Sim J := by
  have r2 := g 200 (by decide) (by decide) (by decide) (by decide) (by decide)
  exact h.eq (fun q _ _ _ => g q (by omega) (by omega) (by omega) (by omega) (by omega)) (g 421 (by decide) (by decide) (by decide) (by decide) (by decide)) (g 422 (by decide) (by decide) (by decide) (by decide) (by decide)) (g 425 (by decide) (by decide) (by decide) (by decide) (by decide)) (congrFun r2 10) (congrFun r2 12) (congrFun r2 13) g6 g7
/-- between both ends of a tape -/
def Se (l : Nat) (x : Int32) (b : Bool) (J : Nat → Nat → Int32) : Prop := (CI J ∧ Tp J) ∧ (Sim J ∧ J 200 3 = J 420 14) ∧ l ≤ 400 ∧ J 420 9 = nI l ∧ J 201 1 = (if b then x else nI l) ∧ b = endB x (nI l)
theorem Se.mk {l : Nat} {x : Int32} (h : Sy I) (hl : l ≤ 400) (e1 : I 201 1 = nI l) (e2 : I 420 9 = nI l) : Se l x (endB x (nI l)) (if endB x (I 201 1) = true then up2 I 201 1 x else I) := by
  obtain ⟨⟨h1, ht⟩, ⟨hs, h6⟩, -⟩ := h
  rw [e1]
  cases hb : endB x (nI l) with
  | false =>
    exact ⟨⟨h1, ht⟩, ⟨hs, h6⟩, hl, e2, e1, hb.symm⟩
  | true =>
    rw [if_pos rfl]
    exact ⟨⟨fun a ha g2 => by rw [up2_row (by intro z; subst z; exact absurd ha (by decide))]; exact h1 a ha g2, ht.f fun q g1 _ => up2_row g1⟩, ⟨hs.fr (fun q g1 _ _ _ _ => up2_row g1) (congrFun (up2_row (by decide)) 6) (congrFun (up2_row (by decide)) 7), by rw [up2_row (by decide), up2_row (by decide)]; exact h6⟩, hl, (congrFun (up2_row (by decide)) 9).trans e2, up2_at, hb.symm⟩
theorem Se.sy {l : Nat} {x : Int32} {b : Bool} (h : Se l x b J) : Sy (if endB x (J 420 9) = true then up2 (up2 J 420 0 0) 420 9 x else up2 J 420 0 0) := by
  obtain ⟨⟨h1, ht⟩, ⟨hs, hf⟩, h3, h4, h5, h6⟩ := h
  rw [h4]
  cases hb : endB x (nI l) with
  | false =>
    rw [h6, hb] at h5
    rw [if_neg (by decide)]
    exact ⟨⟨h1.rows fun q hq => up2_row (by omega), ht.f fun q _ g => up2_row g⟩, ⟨hs.thr, by rw [up2_row (by decide), up2_ne (Or.inr (by decide))]; exact hf⟩, l, h3, (congrFun (up2_row (by decide)) 1).trans h5, (up2_ne (Or.inr (by decide))).trans h4⟩
  | true =>
    rw [h6, hb] at h5
    rw [if_pos rfl]
    obtain ⟨g1, g2⟩ := of_decide_eq_true hb
    obtain ⟨m, -, hm, rfl⟩ := inB_nI (a := 0) (b := l) ⟨by decide, by omega⟩ (le0 (Int32.not_lt.mp g1) g2)
    exact ⟨⟨h1.rows fun q hq => by rw [up2_row (by omega), up2_row (by omega)], ht.f fun q _ g => by rw [up2_row g, up2_row g]⟩, ⟨hs.fr (fun q _ _ g _ _ => by rw [up2_row g, up2_row g]) (by rw [up2_ne (by decide), up2_ne (by decide)]) (by rw [up2_ne (by decide), up2_ne (by decide)]), by rw [up2_row (by decide), up2_row (by decide), up2_ne (by decide), up2_ne (by decide)]; exact hf⟩, m, by omega, by rw [up2_row (by decide), up2_row (by decide)]; exact h5, up2_at⟩
theorem fdH_row {l q : Nat} {x1 x2 x3 x4 x5 : Int32} (h1 : q ≠ 201) (h2 : q ≠ 202) : fdH I l x1 x2 x3 x4 x5 q = I q := by
  unfold fdH
  rw [apH_row h1 h2, apH_row h1 h2, apH_row h1 h2, apH_row h1 h2, apH_row h1 h2]
/-- between both feeds -/
def Sf (l : Nat) (y1 y2 y3 y4 y5 : Int32) (J : Nat → Nat → Int32) : Prop := (CI J ∧ (J 203 1 = 14 ∧ J 220 1 = 12 ∧ BtT (J 426) ∧ J 202 = (if l + 20 ≤ 400 then tpF (J 426) l 20 y1 y2 y3 y4 y5 else J 426))) ∧ (Sim J ∧ J 200 3 = J 420 14) ∧ l ≤ 400 ∧ J 201 1 = (if l + 20 ≤ 400 then nI (l + 20) else nI l) ∧ J 420 9 = nI l
theorem Sf.mk {l : Nat} {x1 x2 x3 x4 x5 : Int32} (h : Sy I) (hl : l ≤ 400) (e1 : I 201 1 = nI l) (e2 : I 420 9 = nI l) : Sf l x1 x2 x3 x4 x5 (if l + 20 ≤ 400 then fdH I l x1 x2 x3 x4 x5 else I) := by
  obtain ⟨⟨h1, t1, t2, t3, t4⟩, ⟨hs, h6⟩, -⟩ := h
  by_cases c : l + 20 ≤ 400
  · rw [if_pos c]
    have r : ∀ q, q ≠ 201 → q ≠ 202 → fdH I l x1 x2 x3 x4 x5 q = I q := fun q g1 g2 => fdH_row g1 g2
    refine ⟨⟨fun a ha g2 => ?_, ?_, ?_, ?_, ?_⟩, ⟨hs.fr (fun q g1 g2 _ _ _ => r q g1 g2) (congrFun (r 420 (by decide) (by decide)) 6) (congrFun (r 420 (by decide) (by decide)) 7), ?_⟩, hl, ?_, (congrFun (fdH_row (by decide) (by decide)) 9).trans e2⟩
    · rw [fdH_row (by intro z; subst z; exact absurd ha (by decide)) (by intro z; subst z; exact absurd ha (by decide))]
      exact h1 a ha g2
    · rw [fdH_row (by decide) (by decide)]
      exact t3
    · rw [fdH_row (by decide) (by decide)]
      exact t4
    · rw [fdH_row (by decide) (by decide), t1]
      exact t2
    · rw [if_pos c, fdH_202, fdH_row (q := 426) (by decide) (by decide), t1]
    · rw [r 200 (by decide) (by decide), r 420 (by decide) (by decide)]
      exact h6
    · rw [if_pos c]
      unfold fdH
      exact apH_len
  · rw [if_neg c]
    exact ⟨⟨h1, t3, t4, by rw [t1]; exact t2, by rw [if_neg c]; exact t1.symm⟩, ⟨hs, h6⟩, hl, by rw [if_neg c]; exact e1, e2⟩
theorem Sf.sy {l : Nat} {y1 y2 y3 y4 y5 : Int32} {g : Nat → Int32} (h : Sf l y1 y2 y3 y4 y5 J) : Sy (if l + 20 ≤ 400 then up2 (upr (upr (up2 J 420 0 0) 427 g) 426 (tpF (J 426) l 20 y1 y2 y3 y4 y5)) 420 9 (nI (l + 20)) else up2 J 420 0 0) := by
  obtain ⟨⟨h1, t1, t2, t3, t4⟩, ⟨hs, h6⟩, h3, h4, h5⟩ := h
  by_cases c : l + 20 ≤ 400
  · rw [if_pos c]
    rw [if_pos c] at h4 t4
    have e0 : ∀ q, q ≠ 420 → q ≠ 426 → q ≠ 427 → up2 (upr (upr (up2 J 420 0 0) 427 g) 426 (tpF (J 426) l 20 y1 y2 y3 y4 y5)) 420 9 (nI (l + 20)) q = J q := fun q g1 g2 g3 => by
      rw [up2_row g1, upr_row g2, upr_row g3, up2_row g1]
    have e1 : ∀ k, k ≠ 9 → k ≠ 0 → up2 (upr (upr (up2 J 420 0 0) 427 g) 426 (tpF (J 426) l 20 y1 y2 y3 y4 y5)) 420 9 (nI (l + 20)) 420 k = J 420 k := fun k hk h0 => by
      rw [up2_ne (Or.inr hk), upr_row (by decide), upr_row (by decide), up2_ne (Or.inr h0)]
    have e6 : up2 (upr (upr (up2 J 420 0 0) 427 g) 426 (tpF (J 426) l 20 y1 y2 y3 y4 y5)) 420 9 (nI (l + 20)) 426 = tpF (J 426) l 20 y1 y2 y3 y4 y5 := by
      rw [up2_row (by decide)]
      exact upr_at
    exact ⟨⟨h1.rows fun q hq => e0 q (by omega) (by omega) (by omega), e6.trans (t4.symm.trans (e0 202 (by decide) (by decide) (by decide)).symm), by rw [e0 202 (by decide) (by decide) (by decide), t4]; exact tpF_bt t3, by rw [e0 203 (by decide) (by decide) (by decide)]; exact t1, by rw [e0 220 (by decide) (by decide) (by decide)]; exact t2⟩, ⟨hs.fr (fun q _ _ g3 g4 g5 => e0 q g3 g4 g5) (e1 6 (by decide) (by decide)) (e1 7 (by decide) (by decide)), by rw [e0 200 (by decide) (by decide) (by decide), e1 14 (by decide) (by decide)]; exact h6⟩, l + 20, c, (congrFun (e0 201 (by decide) (by decide) (by decide)) 1).trans h4, up2_at⟩
  · rw [if_neg c]
    rw [if_neg c] at h4 t4
    exact ⟨⟨h1.rows fun q hq => up2_row (by omega), by rw [up2_row (by decide), up2_row (by decide)]; exact t4.symm, by rw [up2_row (by decide), t4]; exact t3, by rw [up2_row (by decide)]; exact t1, by rw [up2_row (by decide)]; exact t2⟩, ⟨hs.thr, by rw [up2_row (by decide), up2_ne (by decide)]; exact h6⟩, l, h3, (congrFun (up2_row (by decide)) 1).trans h4, (up2_ne (Or.inr (by decide))).trans h5⟩
/-- the class's street, read or not -/
def StC (r : SR) (I J : Nat → Nat → Int32) (y : Int32) (l : Int64) : Prop :=
  (r.1 = true ∧ ¬ I 421 2 = 12 ∧ y = 0 ∧ l = (I 421 2 + 1).toInt64 ∧ J 200 3 = -1 ∧ J 200 13 = 0 ∧ Sd J 235 (ud r.2.2 2 (I 421 2 + 1))) ∨
  (r.1 = false ∧ y = 1 ∧ J 200 3 = nI r.2.1 ∧ J 200 13 = I 200 13 ∧ Sd J 235 (I 421)) ∨
  (r.1 = true ∧ I 421 2 = 12 ∧ y = 2 ∧ J 200 3 = -1 ∧ J 200 13 = I 200 13 ∧ Sd J 235 (I 421))
theorem Sy.street (h : Sy I) (hci : CI J) (f : Fm sJ I J) (c1 : J 201 1 = 0) (hC : StC (strP T e (I 421)) I J y l) (us : Us nd np J K) (k2 : K 422 = J 422) (k5 : K 425 = J 425) (hN : StN (strP T e (I 421)) J K ov) : Sy K ∧ ∃ z, ov = some (.int z) ∧ K 420 0 = y ∧ (y = 0 → l = z.toInt64) := by
  have e21 : J 421 = I 421 := funext fun k => f 421 k (sJ_hi (by decide))
  have g : ∀ q, q < 420 → K q = J q := fun q hq => us.1 q (Or.inl hq)
  have g6 : K 420 6 = J 420 6 := us.2.2.1
  have all : Sim K → K 200 3 = K 420 14 → Sy K := fun hs hf => ⟨⟨hci.rows g, h.1.2.eq ((us.1 426 (Or.inr rfl)).trans (funext fun k => f 426 k (sJ_hi (by decide)))) ((g 202 (by decide)).trans (funext fun k => f 202 k rfl)) ((congrFun (g 203 (by decide)) 1).trans (f 203 1 rfl)) ((congrFun (g 220 (by decide)) 1).trans (f 220 1 rfl))⟩, ⟨hs, hf⟩, 0, by decide, (congrFun (g 201 (by decide)) 1).trans c1, us.2.1⟩
  have g3 : K 200 3 = J 200 3 := congrFun (g 200 (by decide)) 3
  unfold StN at hN
  rw [e21] at hN
  rcases hC with ⟨a1, a2, a3, a4, a5, a6, a7⟩ | ⟨a1, a3, a5, a6, a7⟩ | ⟨a1, a2, a3, a5, a6, a7⟩
  · rcases hN with ⟨b1, _⟩ | ⟨_, b2, _⟩ | ⟨b1, b2, b3, b4, b5, b6, b7⟩
    · rw [a1] at b1
      cases b1
    · exact absurd b2 a2
    · exact ⟨all (h.sim.street a1 a2 f a6 a7 g g6 k2 b6 b7) (by rw [g3, a5, b5]), _, b3, by rw [b4, a3], fun _ => a4⟩
  · rcases hN with ⟨b1, b3, b4, b5, b6, b7⟩ | ⟨b1, _⟩ | ⟨b1, _⟩
    · exact ⟨all (h.sim.streetNo f a6 a7 g g6 k2 k5 (b6.trans e21.symm) b7) (by rw [g3, a5, b5]), _, b3, by rw [b4, a3], fun z => by rw [a3] at z; exact absurd z (by decide)⟩
    · rw [a1] at b1
      cases b1
    · rw [a1] at b1
      cases b1
  · rcases hN with ⟨b1, _⟩ | ⟨b1, b2, b3, b4, b5, b6, b7⟩ | ⟨_, b2, _⟩
    · rw [a1] at b1
      cases b1
    · exact ⟨all (h.sim.streetNo f a6 a7 g g6 k2 k5 (b6.trans e21.symm) b7) (by rw [g3, a5, b5]), _, b3, by rw [b4, a3], fun z => by rw [a3] at z; exact absurd z (by decide)⟩
    · exact absurd a2 b2
/-- the class's law, read or not -/
def LaC (r : LRs) (I J : Nat → Nat → Int32) (y : Int32) (l : Int64) : Prop :=
  (r.1 = true ∧ y = 0 ∧ l = (nI r.2.2.2.length).toInt64 ∧ LwC r J ∧ Fm sLw I J ∧ r.2.2.2.length ≤ 12 ∧ r.2.2.1.length ≤ 400) ∨
  (r.1 = false ∧ y = 1 ∧ J 200 3 = nI r.2.1 ∧ Fm sLf I J)
theorem Sy.law (h : Sy I) (m : Mt0 I J) (hC : LaC (lawP T e) I J y l) (us : Us nd np J K) (k0 : K 420 0 = (if (lawP T e).1 = true then 0 else 1)) (k14 : K 420 14 = (if (lawP T e).1 = true then -1 else nI (lawP T e).2.1)) (g : ∀ q, q ≠ 420 → q ≠ 421 → K q = J q) (lj : LwJ (lawP T e) J K) (k7 : (lawP T e).1 = true → K 420 7 = 0 ∧ ∀ k, k < 335 → k ≠ 3 → K 421 k = J 421 k) (k8 : (lawP T e).1 = false → K 420 7 = J 420 7) : Sy K ∧ K 420 0 = y := by
  obtain ⟨m1, m2, _, m4, m5, m6, m7⟩ := Mt0.all m
  have all : Sim K → K 200 3 = K 420 14 → Sy K := fun hs hf => ⟨⟨(m4 h.1.1).rows fun q hq => g q (by omega) (by omega), h.1.2.eq ((g 426 (by decide) (by decide)).trans (m1 426 (by decide))) ((g 202 (by decide) (by decide)).trans m5) ((congrFun (g 203 (by decide) (by decide)) 1).trans m6) ((congrFun (g 220 (by decide) (by decide)) 1).trans m7)⟩, ⟨hs, hf⟩, 0, by decide, (congrFun (g 201 (by decide) (by decide)) 1).trans m2, us.2.1⟩
  have g3 : K 200 3 = J 200 3 := congrFun (g 200 (by decide) (by decide)) 3
  rcases hC with ⟨a1, a2, a3, a4, a5, a6, a7⟩ | ⟨a1, a2, a3, a4⟩
  · obtain ⟨k7a, k7b⟩ := k7 a1
    rw [if_pos a1] at k0 k14
    exact ⟨all (h.sim.law a5 a4 a6 a7 (lawP_ok a1) (lawP_nb a1) us g k7a k7b lj a1) (by rw [g3, k14]; exact a4.1), by rw [k0, a2]⟩
  · rw [if_neg (by rw [a1]; decide)] at k0 k14
    exact ⟨all (h.sim.lawNo a4 us g (k8 a1) lj a1) (by rw [g3, k14, a3]), by rw [k0, a2]⟩
end T79zt
