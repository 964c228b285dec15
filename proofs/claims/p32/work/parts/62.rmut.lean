/-! ===== the reference: all of its ranges; what it remembers ===== -/
def FrW (np : Nat) (W : Nat → Int32) : Prop := ∀ p, p < np → ∃ f, f ≤ 9 ∧ vp W 1 p = nI f
def StW (W : Nat → Int32) : Prop := ∃ nd np, SO nd np W ∧ FrW np W ∧ LgW W
def Img (I : Nat → Nat → Int32) : Prop := I 420 6 = 0 ∨ (StW (I 422) ∧ LwW (I 422))
def Act (I : Nat → Nat → Int32) : Prop := ∃ r, r ≤ 12 ∧ I 420 7 = nI r ∧ ∀ i, i < r → StW (fun k => I 425 (335 * i + k)) ∧ I 425 (335 * i + 3) = I 421 3
/-- all that is known of the reference between two calls, but for its tape -/
def RI (nd np : Nat) (I : Nat → Nat → Int32) : Prop := SO nd np (I 421) ∧ FrW np (I 421) ∧ LwW (I 421) ∧ LgW (I 421) ∧ Img I ∧ Act I
def Fk (I I' : Nat → Nat → Int32) : Prop := (∀ q, (q < 420 ∨ q = 426) → I' q = I q) ∧ I' 420 9 = I 420 9 ∧ I' 420 6 = I 420 6
theorem Fk.rf {I : Nat → Nat → Int32} : Fk I I := ⟨fun _ _ => rfl, rfl, rfl⟩
theorem Fk.tr {I I' I'' : Nat → Nat → Int32} (h : Fk I I') (h2 : Fk I' I'') : Fk I I'' := ⟨fun q hq => (h2.1 q hq).trans (h.1 q hq), h2.2.1.trans h.2.1, h2.2.2.trans h.2.2⟩
def Mr (nd np : Nat) (I I' : Nat → Nat → Int32) : Prop := Fk I I' ∧ RI nd np I'
theorem Mr.rf {nd np : Nat} {I : Nat → Nat → Int32} (h : RI nd np I) : Mr nd np I I := ⟨Fk.rf, h⟩
theorem Mr.tr {nd np : Nat} {I I' I'' : Nat → Nat → Int32} (h : Mr nd np I I') (h2 : Mr nd np I' I'') : Mr nd np I I'' := ⟨h.1.tr h2.1, h2.2⟩
theorem RI.so {nd np : Nat} {I : Nat → Nat → Int32} (h : RI nd np I) : SO nd np (I 421) := h.1
theorem RI.fr {nd np : Nat} {I : Nat → Nat → Int32} (h : RI nd np I) : FrW np (I 421) := h.2.1
theorem RI.lw {nd np : Nat} {I : Nat → Nat → Int32} (h : RI nd np I) : LwW (I 421) := h.2.2.1
theorem RI.lg {nd np : Nat} {I : Nat → Nat → Int32} (h : RI nd np I) : LgW (I 421) := h.2.2.2.1
theorem RI.im {nd np : Nat} {I : Nat → Nat → Int32} (h : RI nd np I) : Img I := h.2.2.2.2.1
theorem RI.ac {nd np : Nat} {I : Nat → Nat → Int32} (h : RI nd np I) : Act I := h.2.2.2.2.2
theorem Img.eq {I I' : Nat → Nat → Int32} (h : Img I) (e6 : I' 420 6 = I 420 6) (e : I' 422 = I 422) : Img I' := by
  unfold Img
  rw [e6, e]
  exact h
theorem Act.eq {I I' : Nat → Nat → Int32} (h : Act I) (e7 : I' 420 7 = I 420 7) (e : I' 425 = I 425) (e3 : I' 421 3 = I 421 3) : Act I' := by
  unfold Act
  rw [e7, e, e3]
  exact h
/-- a change of the world alone, not of whether there is a law -/
theorem Mr.wd {nd np : Nat} {I I' : Nat → Nat → Int32} (h : RI nd np I) (hf : ∀ q, q ≠ 421 → I' q = I q) (e3 : I' 421 3 = I 421 3) (h1 : SO nd np (I' 421)) (h2 : FrW np (I' 421)) (h3 : LwW (I' 421)) (h4 : LgW (I' 421)) : Mr nd np I I' :=
  ⟨⟨fun q hq => hf q (by omega), by rw [hf 420 (by decide)], by rw [hf 420 (by decide)]⟩, h1, h2, h3, h4, h.im.eq (by rw [hf 420 (by decide)]) (hf 422 (by decide)), h.ac.eq (by rw [hf 420 (by decide)]) (hf 425 (by decide)) e3⟩
theorem dayC_per : ∀ p, p < 6 → dayC (11 + 2 * p + 1) = false := by decide +kernel
theorem sD_low {q k : Nat} (h : q < 420 ∨ q = 426) : sD q k = false := by
  have b : ∀ n, 420 ≤ n → n ≠ 426 → Nat.beq q n = false := fun n hn hn2 => beqF (by omega)
  simp [sD, sU, b]
theorem Mr.ofD {nd np : Nat} {I I' : Nat → Nat → Int32} (h : RI nd np I) (f : Dd I I') : Mr nd np I I' := by
  refine ⟨⟨fun q hq => funext fun k => f.1 q k (sD_low hq), f.1 420 9 rfl, f.1 420 6 rfl⟩, f.so h.so, fun p hp => ?_, f.lw h.lw, f.lg h.lg, h.im.eq (f.1 420 6 rfl) (funext fun k => f.1 422 k rfl), h.ac.eq (f.1 420 7 rfl) (funext fun k => f.1 425 k rfl) (f.1 421 3 rfl)⟩
  have h6 := h.so.p
  show ∃ g, g ≤ 9 ∧ I' 421 (11 + 2 * p + 1) = nI g
  rw [f.1 421 _ (dayC_per p (by omega))]
  exact h.fr p hp
theorem Mr.dd {nd np : Nat} {I I' I'' : Nat → Nat → Int32} (h : Mr nd np I I') (f : Dd I' I'') : Mr nd np I I'' := h.tr (Mr.ofD h.2 f)
theorem Mr.fm {nd np : Nat} {I I' I'' : Nat → Nat → Int32} (h : Mr nd np I I') (f : Fm sU I' I'') : Mr nd np I I'' := h.dd (Dd.of f)
theorem sV_low {q k : Nat} (h : q < 420 ∨ q = 426) : sV q k = false := by
  have b : ∀ n, 420 ≤ n → n ≠ 426 → Nat.beq q n = false := fun n hn hn2 => beqF (by omega)
  simp [sV, sU, b]
theorem Mr.ofV {nd np : Nat} {I I' : Nat → Nat → Int32} (h : RI nd np I) (f : Fm sV I I') : Mr nd np I I' := by
  have e : I' 421 = I 421 := funext fun k => f 421 k rfl
  refine ⟨⟨fun q hq => funext fun k => f q k (sV_low hq), f 420 9 rfl, f 420 6 rfl⟩, by rw [e]; exact h.so, by rw [e]; exact h.fr, by rw [e]; exact h.lw, by rw [e]; exact h.lg, h.im.eq (f 420 6 rfl) (funext fun k => f 422 k rfl), h.ac.eq (f 420 7 rfl) (funext fun k => f 425 k rfl) (f 421 3 rfl)⟩
theorem u2_lo {I : Nat → Nat → Int32} {j k : Nat} {v : Int32} (h : k ≠ j) : up2 I 421 j v 421 k = I 421 k := up2_ne (Or.inr h)
theorem LgW.up {I : Nat → Nat → Int32} {j : Nat} {v : Int32} (h : LgW (I 421)) (hj : j ≠ 9) : LgW (up2 I 421 j v 421) := by
  obtain ⟨n, h1, h2⟩ := h
  exact ⟨n, h1, by rw [u2_lo (fun e => hj e.symm)]; exact h2⟩
theorem LwW.up {I : Nat → Nat → Int32} {j : Nat} {v : Int32} (h : LwW (I 421)) (hj : j ≠ 3) (hj2 : j < 335) : LwW (up2 I 421 j v 421) := h.eq (u2_lo (fun e => hj e.symm)) (fun k h1 _ => u2_lo (by omega))
theorem Mr.own {nd np d p : Nat} {I I' : Nat → Nat → Int32} (h : Mr nd np I I') (hd : d < nd) (hp : p < np) : Mr nd np I (up2 I' 421 (23 + 6 * d + 0) (nI p)) := by
  have hs := h.2.so
  have hn := hs.n
  have h6 := hs.p
  refine h.tr (Mr.wd h.2 (fun q hq => up2_row hq) (u2_lo (by omega)) ⟨hs.n, hs.p, (u2_lo (by omega)).trans hs.du, (u2_lo (by omega)).trans hs.pu, fun e he => ?_, fun e he => ?_, fun e he => ?_, fun z => hs.h7 ((u2_lo (by omega)).symm.trans z)⟩ (fun q hq => ?_) (h.2.lw.up (by omega) (by omega)) (h.2.lg.up (by omega)))
  · show up2 I' 421 _ _ 421 (23 + 6 * e + 4) = -1 ∨ ∃ g, g < nd ∧ up2 I' 421 _ _ 421 (23 + 6 * e + 4) = nI g
    rw [u2_lo (by omega)]
    exact hs.l e he
  · show ∃ g, g < np ∧ up2 I' 421 _ _ 421 (23 + 6 * e + 0) = nI g
    by_cases hed : e = d
    · subst hed
      exact ⟨p, hp, up2_at⟩
    · rw [u2_lo (by omega)]
      exact hs.o e he
  · show up2 I' 421 _ _ 421 (23 + 6 * e + 3) = -1 ∨ ∃ g, g < 6 ∧ up2 I' 421 _ _ 421 (23 + 6 * e + 3) = nI g
    rw [u2_lo (by omega)]
    exact hs.t e he
  · show ∃ g, g ≤ 9 ∧ up2 I' 421 _ _ 421 (11 + 2 * q + 1) = nI g
    rw [u2_lo (by omega)]
    exact h.2.fr q hq
theorem Mr.le {nd np d : Nat} {I I' : Nat → Nat → Int32} {x : Int32} (h : Mr nd np I I') (hd : d < nd) (hx : x = -1 ∨ ∃ e, e < nd ∧ x = nI e) : Mr nd np I (up2 I' 421 (23 + 6 * d + 4) x) := by
  have hs := h.2.so
  have hn := hs.n
  have h6 := hs.p
  refine h.tr (Mr.wd h.2 (fun q hq => up2_row hq) (u2_lo (by omega)) ⟨hs.n, hs.p, (u2_lo (by omega)).trans hs.du, (u2_lo (by omega)).trans hs.pu, fun e he => ?_, fun e he => ?_, fun e he => ?_, fun z => hs.h7 ((u2_lo (by omega)).symm.trans z)⟩ (fun q hq => ?_) (h.2.lw.up (by omega) (by omega)) (h.2.lg.up (by omega)))
  · show up2 I' 421 _ _ 421 (23 + 6 * e + 4) = -1 ∨ ∃ g, g < nd ∧ up2 I' 421 _ _ 421 (23 + 6 * e + 4) = nI g
    by_cases hed : e = d
    · subst hed
      rw [up2_at]
      exact hx
    · rw [u2_lo (by omega)]
      exact hs.l e he
  · show ∃ g, g < np ∧ up2 I' 421 _ _ 421 (23 + 6 * e + 0) = nI g
    rw [u2_lo (by omega)]
    exact hs.o e he
  · show up2 I' 421 _ _ 421 (23 + 6 * e + 3) = -1 ∨ ∃ g, g < 6 ∧ up2 I' 421 _ _ 421 (23 + 6 * e + 3) = nI g
    rw [u2_lo (by omega)]
    exact hs.t e he
  · show ∃ g, g ≤ 9 ∧ up2 I' 421 _ _ 421 (11 + 2 * q + 1) = nI g
    rw [u2_lo (by omega)]
    exact h.2.fr q hq
theorem Mr.free {nd np p m : Nat} {I I' : Nat → Nat → Int32} (h : Mr nd np I I') (hp : p < np) (hm : m ≤ 9) : Mr nd np I (up2 I' 421 (11 + 2 * p + 1) (nI m)) := by
  have hs := h.2.so
  have h6 := hs.p
  refine h.tr (Mr.wd h.2 (fun q hq => up2_row hq) (u2_lo (by omega)) (hs.fr hp) (fun q hq => ?_) (h.2.lw.up (by omega) (by omega)) (h.2.lg.up (by omega)))
  show ∃ g, g ≤ 9 ∧ up2 I' 421 _ _ 421 (11 + 2 * q + 1) = nI g
  by_cases e : q = p
  · subst e
    exact ⟨m, hm, up2_at⟩
  · rw [u2_lo (by omega)]
    exact h.2.fr q hq
/-! what is remembered: rows within a row -/
def cpR (I : Nat → Nat → Int32) (p a q b n : Nat) : Nat → Nat → Int32 := upr I p (fun k => if a ≤ k ∧ k < a + n then I q (k - a + b) else I p k)
theorem cpR_0 {I : Nat → Nat → Int32} {p a q b : Nat} : cpR I p a q b 0 = I := by
  funext x
  unfold cpR upr
  split
  · next h =>
    subst h
    funext k
    rw [if_neg (by omega)]
  · rfl
theorem cpR_row {I : Nat → Nat → Int32} {p a q b n x : Nat} (h : x ≠ p) : cpR I p a q b n x = I x := upr_row h
theorem cpR_in {I : Nat → Nat → Int32} {p a q b n k : Nat} (h1 : k < n) : cpR I p a q b n p (a + k) = I q (k + b) := by
  unfold cpR
  rw [upr_at, if_pos ⟨by omega, by omega⟩]
  congr 1
  omega
theorem cpR_out {I : Nat → Nat → Int32} {p a q b n k : Nat} (h : ¬ (a ≤ k ∧ k < a + n)) : cpR I p a q b n p k = I p k := by
  unfold cpR
  rw [upr_at, if_neg h]
/-- one more; the row copied from is another, or lies behind -/
theorem cpR_succ {I : Nat → Nat → Int32} {p a q b n : Nat} : up2 (cpR I p a q b n) p (a + n) (I q (n + b)) = cpR I p a q b (n + 1) := by
  funext x k
  by_cases hx : x = p
  · subst hx
    by_cases hk : k = a + n
    · subst hk
      rw [up2_at, cpR_in (by omega)]
    · rw [up2_ne (Or.inr hk)]
      unfold cpR
      rw [upr_at, upr_at]
      by_cases h : a ≤ k ∧ k < a + n
      · rw [if_pos h, if_pos ⟨h.1, by omega⟩]
      · rw [if_neg h, if_neg (by omega)]
  · rw [up2_row hx, cpR_row hx, cpR_row hx]
theorem StW.eq {W W' : Nat → Int32} (h : StW W) (e : ∀ k, k < 335 → W' k = W k) : StW W' := by
  obtain ⟨nd, np, h1, h2, h3⟩ := h
  have hn := h1.n
  have h6 := h1.p
  refine ⟨nd, np, h1.eq (e 0 (by decide)) (e 1 (by decide)) (e 7 (by decide)) (fun d k hd hk => e _ (by omega)) (fun _ _ => trivial), fun p hp => ?_, ?_⟩
  · show ∃ g, g ≤ 9 ∧ W' (11 + 2 * p + 1) = nI g
    rw [e _ (by omega)]
    exact h2 p hp
  · obtain ⟨k, h4, h5⟩ := h3
    exact ⟨k, h4, (e 9 (by decide)).trans h5⟩
theorem RI.st {nd np : Nat} {I : Nat → Nat → Int32} (h : RI nd np I) : StW (I 421) := ⟨nd, np, h.so, h.fr, h.lg⟩
/-- twelve are there: the eldest goes; else one more -/
def remH (I : Nat → Nat → Int32) (r : Nat) : Nat → Nat → Int32 := if r = 12 then cpR (cpR I 425 0 425 335 3685) 425 (335 * 11) 421 0 335 else cpR (up2 I 420 7 (nI (r + 1))) 425 (335 * r) 421 0 335
theorem Mr.rem {nd np r : Nat} {I : Nat → Nat → Int32} (h : RI nd np I) (hr : r ≤ 12) (er : I 420 7 = nI r) (ha : ∀ i, i < r → StW (fun k => I 425 (335 * i + k)) ∧ I 425 (335 * i + 3) = I 421 3) : Mr nd np I (remH I r) ∧ remH I r 421 = I 421 := by
  have e1 : ∀ q, q ≠ 425 → q ≠ 420 → remH I r q = I q := fun q h1 h2 => by
    unfold remH
    split
    · rw [cpR_row h1, cpR_row h1]
    · rw [cpR_row h1, up2_row h2]
  have e2 : ∀ k, k ≠ 7 → remH I r 420 k = I 420 k := fun k hk => by
    unfold remH
    split
    · rw [cpR_row (by decide), cpR_row (by decide)]
    · rw [cpR_row (by decide), up2_ne (Or.inr hk)]
  refine ⟨⟨⟨fun q hq => e1 q (by omega) (by omega), e2 9 (by decide), e2 6 (by decide)⟩, ?_⟩, e1 421 (by decide) (by decide)⟩
  unfold RI
  rw [e1 421 (by decide) (by decide)]
  refine ⟨h.so, h.fr, h.lw, h.lg, h.im.eq (e2 6 (by decide)) (e1 422 (by decide) (by decide)), ?_⟩
  unfold Act
  rw [e1 421 (by decide) (by decide)]
  by_cases h12 : r = 12
  · subst h12
    refine ⟨12, by decide, ?_, fun i hi => ?_⟩
    · unfold remH
      rw [if_pos rfl, cpR_row (by decide), cpR_row (by decide)]
      exact er
    · have e3 : ∀ k, k < 335 → remH I 12 425 (335 * i + k) = if i = 11 then I 421 k else I 425 (335 * (i + 1) + k) := fun k hk => by
        unfold remH
        rw [if_pos rfl]
        by_cases h11 : i = 11
        · subst h11
          rw [if_pos rfl, cpR_in hk, cpR_row (by decide), Nat.add_zero]
        · rw [if_neg h11, cpR_out (by omega), show 335 * i + k = 0 + (335 * i + k) by omega, cpR_in (by omega)]
          congr 1
          omega
      by_cases h11 : i = 11
      · refine ⟨h.st.eq fun k hk => (e3 k hk).trans (if_pos h11), (e3 3 (by decide)).trans (if_pos h11)⟩
      · have h9 := ha (i + 1) (by omega)
        exact ⟨h9.1.eq fun k hk => (e3 k hk).trans (if_neg h11), ((e3 3 (by decide)).trans (if_neg h11)).trans h9.2⟩
  · refine ⟨r + 1, by omega, ?_, fun i hi => ?_⟩
    · unfold remH
      rw [if_neg h12, cpR_row (by decide), up2_at]
    · have e3 : ∀ k, k < 335 → remH I r 425 (335 * i + k) = if i = r then I 421 k else I 425 (335 * i + k) := fun k hk => by
        unfold remH
        rw [if_neg h12]
        by_cases h11 : i = r
        · subst h11
          rw [if_pos rfl, cpR_in hk, up2_row (by decide), Nat.add_zero]
        · rw [if_neg h11, cpR_out (by omega), up2_row (by decide)]
      by_cases h11 : i = r
      · exact ⟨h.st.eq fun k hk => (e3 k hk).trans (if_pos h11), (e3 3 (by decide)).trans (if_pos h11)⟩
      · have h9 := ha i (by omega)
        exact ⟨h9.1.eq fun k hk => (e3 k hk).trans (if_neg h11), ((e3 3 (by decide)).trans (if_neg h11)).trans h9.2⟩
