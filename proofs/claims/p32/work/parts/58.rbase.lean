/-! ===== the reference: ranges, frames ===== -/
/-- a world's state: counts, what leans, whose, tools, pace -/
def SO (nd np : Nat) (W : Nat → Int32) : Prop := nd ≤ 12 ∧ np ≤ 6 ∧ W 1 = nI nd ∧ W 0 = nI np ∧ LeW nd W ∧ OwW nd np W ∧ (∀ d, d < nd → vd W 3 d = -1 ∨ ∃ k, k < 6 ∧ vd W 3 d = nI k) ∧ ¬ W 7 = 0
theorem SO.n {nd np : Nat} {W : Nat → Int32} (h : SO nd np W) : nd ≤ 12 := h.1
theorem SO.p {nd np : Nat} {W : Nat → Int32} (h : SO nd np W) : np ≤ 6 := h.2.1
theorem SO.du {nd np : Nat} {W : Nat → Int32} (h : SO nd np W) : W 1 = nI nd := h.2.2.1
theorem SO.pu {nd np : Nat} {W : Nat → Int32} (h : SO nd np W) : W 0 = nI np := h.2.2.2.1
theorem SO.l {nd np : Nat} {W : Nat → Int32} (h : SO nd np W) : LeW nd W := h.2.2.2.2.1
theorem SO.o {nd np : Nat} {W : Nat → Int32} (h : SO nd np W) : OwW nd np W := h.2.2.2.2.2.1
theorem SO.t {nd np : Nat} {W : Nat → Int32} (h : SO nd np W) : ∀ d, d < nd → vd W 3 d = -1 ∨ ∃ k, k < 6 ∧ vd W 3 d = nI k := h.2.2.2.2.2.2.1
theorem SO.h7 {nd np : Nat} {W : Nat → Int32} (h : SO nd np W) : ¬ W 7 = 0 := h.2.2.2.2.2.2.2
def LgW (W : Nat → Int32) : Prop := ∃ k, k ≤ 60 ∧ W 9 = nI k
def LwW (W : Nat → Int32) : Prop := ∃ nl len cd fa fn, LawR W nl len cd fa fn
/-- what a look may change: the values of a line, who has which tool, what was thrown; and what is kept meanwhile -/
def sU (q k : Nat) : Bool := Nat.beq q 428 || (Nat.beq q 429 || (Nat.beq q 420 && Nat.beq k 0))
def sV (q k : Nat) : Bool := sU q k || Nat.beq q 424
theorem sU_sV : ∀ q k, sU q k = true → sV q k = true := fun q k h => by
  unfold sV
  rw [h]
  rfl
/-- of a world what days change -/
def dayC (k : Nat) : Bool := Nat.beq k 4 || (Nat.beq k 5 || (Nat.beq k 9 || (Nat.beq k 10 || ((Nat.ble 23 k && Nat.blt k 95) && (Nat.beq ((k - 23) % 6) 1 || (Nat.beq ((k - 23) % 6) 2 || Nat.beq ((k - 23) % 6) 5)) || (Nat.ble 95 k && Nat.blt k 335)))))
def sD (q k : Nat) : Bool := sU q k || (Nat.beq q 421 && dayC k)
theorem sV_421 {k : Nat} : sV 421 k = false := rfl
theorem sD_421 {k : Nat} : sD 421 k = dayC k := rfl
theorem sU_sD : ∀ q k, sU q k = true → sD q k = true := fun q k h => by
  unfold sD
  rw [h]
  rfl
theorem dayC_lo : ∀ k, k < 95 → dayC k = true → k = 4 ∨ k = 5 ∨ k = 9 ∨ k = 10 ∨ (23 ≤ k ∧ ((k - 23) % 6 = 1 ∨ (k - 23) % 6 = 2 ∨ (k - 23) % 6 = 5)) := by decide +kernel
theorem dayC_hi {k : Nat} (h : 335 ≤ k) : dayC k = false := by
  have b : ∀ n, n < 335 → Nat.beq k n = false := fun n hn => beqF (by omega)
  have e : ∀ n, n ≤ 335 → Nat.blt k n = false := fun n hn => by
    cases hb : Nat.blt k n with
    | false => rfl
    | true => exact absurd (Nat.le_of_ble_eq_true hb) (by omega)
  simp [dayC, b, e]
theorem dayC_at1 : ∀ d, d < 12 → dayC (23 + 6 * d + 1) = true := by decide +kernel
theorem dayC_at2 : ∀ d, d < 12 → dayC (23 + 6 * d + 2) = true := by decide +kernel
theorem dayC_at5 : ∀ d, d < 12 → dayC (23 + 6 * d + 5) = true := by decide +kernel
theorem dayC_log {k : Nat} (h1 : 95 ≤ k) (h2 : k < 335) : dayC k = true := by
  have e1 : Nat.ble 95 k = true := Nat.ble_eq_true_of_le h1
  have e2 : Nat.blt k 335 = true := Nat.ble_eq_true_of_le h2
  simp [dayC, e1, e2]
theorem SO.eq {nd np : Nat} {W W' : Nat → Int32} (h : SO nd np W) (e0 : W' 0 = W 0) (e1 : W' 1 = W 1) (e7 : W' 7 = W 7) (e : ∀ d k, d < 12 → (k = 0 ∨ k = 3 ∨ k = 4) → vd W' k d = vd W k d) (e5 : ∀ d, d < 12 → True) : SO nd np W' := by
  have hn := h.n
  refine ⟨h.1, h.2.1, e1.trans h.du, e0.trans h.pu, fun d hd => ?_, fun d hd => ?_, fun d hd => ?_, fun z => h.h7 (e7.symm.trans z)⟩
  · rw [e d 4 (by omega) (by omega)]
    exact h.l d hd
  · rw [e d 0 (by omega) (by omega)]
    exact h.o d hd
  · rw [e d 3 (by omega) (by omega)]
    exact h.t d hd
theorem SO.fm {nd np : Nat} {I I' : Nat → Nat → Int32} (h : SO nd np (I 421)) (f : Fm sV I I') : SO nd np (I' 421) := by
  rw [show I' 421 = I 421 from funext fun k => f 421 k rfl]
  exact h
theorem dayC_st : ∀ d, d < 12 → dayC (23 + 6 * d + 0) = false ∧ dayC (23 + 6 * d + 3) = false ∧ dayC (23 + 6 * d + 4) = false := by decide +kernel
theorem SO.dy {nd np : Nat} {I I' : Nat → Nat → Int32} (h : SO nd np (I 421)) (f : Fm sD I I') : SO nd np (I' 421) := by
  refine h.eq (f 421 0 rfl) (f 421 1 rfl) (f 421 7 rfl) (fun d k hd hk => ?_) (fun _ _ => trivial)
  have := dayC_st d hd
  rcases hk with rfl | rfl | rfl
  · exact f 421 _ this.1
  · exact f 421 _ this.2.1
  · exact f 421 _ this.2.2
theorem LwW.eq {W W' : Nat → Int32} (h : LwW W) (e3 : W' 3 = W 3) (e : ∀ k, 335 ≤ k → k < 1184 → W' k = W k) : LwW W' := by
  obtain ⟨nl, len, cd, fa, fn, h1, h2, h3, h4, h5⟩ := h
  refine ⟨nl, len, cd, fa, fn, ?_, h2, h3, ?_, ?_⟩
  · rw [e3, e 335 (by omega) (by omega)]
    exact h1
  · intro i hi
    rw [e _ (by omega) (by omega), e _ (by omega) (by omega)]
    exact h4 i hi
  · intro n hn
    rw [e _ (by omega) (by omega), e _ (by omega) (by omega)]
    exact h5 n hn
theorem LwW.fm {I I' : Nat → Nat → Int32} (h : LwW (I 421)) (f : Fm sV I I') : LwW (I' 421) := by
  rw [show I' 421 = I 421 from funext fun k => f 421 k rfl]
  exact h
theorem LwW.dy {I I' : Nat → Nat → Int32} (h : LwW (I 421)) (f : Fm sD I I') : LwW (I' 421) := h.eq (f 421 3 rfl) (fun k h1 _ => f 421 k (dayC_hi h1))
theorem LgW.fm {I I' : Nat → Nat → Int32} (h : LgW (I 421)) (f : Fm sV I I') : LgW (I' 421) := by
  rw [show I' 421 = I 421 from funext fun k => f 421 k rfl]
  exact h
/-- days: their places alone have changed, the log is not too long -/
def Dd (I I' : Nat → Nat → Int32) : Prop := Fm sD I I' ∧ (LgW (I 421) → LgW (I' 421))
theorem Dd.rf {I : Nat → Nat → Int32} : Dd I I := ⟨Fm.rf, id⟩
theorem Dd.tr {I I' I'' : Nat → Nat → Int32} (h : Dd I I') (h2 : Dd I' I'') : Dd I I'' := ⟨h.1.tr h2.1, fun z => h2.2 (h.2 z)⟩
theorem Dd.of {I I' : Nat → Nat → Int32} (f : Fm sU I I') : Dd I I' := ⟨f.mo sU_sD, fun z => z.fm (f.mo sU_sV)⟩
theorem Dd.fm {I I' I'' : Nat → Nat → Int32} (h : Dd I I') (f : Fm sU I' I'') : Dd I I'' := h.tr (Dd.of f)
theorem Dd.up {I I' : Nat → Nat → Int32} {k : Nat} {v : Int32} (h : Dd I I') (hk : dayC k = true) (h9 : k ≠ 9) : Dd I (up2 I' 421 k v) := h.tr ⟨Fm.rf.up hk, fun z => by
  obtain ⟨n, h1, h2⟩ := z
  exact ⟨n, h1, by rw [up2_ne (Or.inr (fun e => h9 e.symm))]; exact h2⟩⟩
theorem Dd.so {nd np : Nat} {I I' : Nat → Nat → Int32} (h : SO nd np (I 421)) (f : Dd I I') : SO nd np (I' 421) := h.dy f.1
theorem Dd.lw {I I' : Nat → Nat → Int32} (h : LwW (I 421)) (f : Dd I I') : LwW (I' 421) := h.dy f.1
theorem Dd.lg {I I' : Nat → Nat → Int32} (h : LgW (I 421)) (f : Dd I I') : LgW (I' 421) := f.2 h
/-- a number that is one of so many -/
theorem isIx {n : Nat} {x : Int32} (hn : n < 2 ^ 31) (h : bI (!inB x 0 (nI n - 1)) = 0) : ∃ j, j < n ∧ x = nI j := by
  have h := (bI_0 _).mp h
  have h2 : inB x 0 (nI n - 1) = true := by
    cases hb : inB x 0 (nI n - 1) with
    | true => rfl
    | false => rw [hb] at h; cases h
  obtain ⟨h3, h4⟩ := of_decide_eq_true h2
  have e0 : (0 : Int32).toInt = 0 := rfl
  rw [Int32.le_iff_toInt_le, e0] at h3
  rcases n with _ | n
  · exfalso
    rw [show nI 0 - 1 = -1 from rfl, Int32.le_iff_toInt_le, show (-1 : Int32).toInt = -1 from rfl] at h4
    omega
  · rw [nI_dec, Int32.le_iff_toInt_le, nI_toInt (by omega)] at h4
    refine ⟨x.toInt.toNat, by omega, ?_⟩
    rw [← Int32.toInt_inj, nI_toInt (by omega)]
    omega
theorem upr_ne {I : Nat → Nat → Int32} {p q : Nat} {f : Nat → Int32} (h : q ≠ p) : upr I p f q = I q := upr_row h
/-- looking ahead: the state that is kept in 424 -/
def Kp (nd np : Nat) (I I' : Nat → Nat → Int32) : Prop := (∀ q k, ¬ (q = 421 ∧ k < 335) → sV q k = false → I' q k = I q k) ∧ (∀ k, k < 335 → I' 424 k = I 421 k) ∧ SO nd np (I' 421) ∧ LwW (I' 421) ∧ LgW (I' 421)
theorem Kp.so {nd np : Nat} {I I' : Nat → Nat → Int32} (h : Kp nd np I I') : SO nd np (I' 421) := h.2.2.1
theorem Kp.lw {nd np : Nat} {I I' : Nat → Nat → Int32} (h : Kp nd np I I') : LwW (I' 421) := h.2.2.2.1
theorem Kp.lg {nd np : Nat} {I I' : Nat → Nat → Int32} (h : Kp nd np I I') : LgW (I' 421) := h.2.2.2.2
theorem Kp.mk {nd np : Nat} {I I' : Nat → Nat → Int32} (f : Fm sV I I') (hs : SO nd np (I 421)) (hw : LwW (I 421)) (lg : LgW (I 421)) : Kp nd np I (cpP I' 424 421 335) := by
  have e : I' 421 = I 421 := funext fun k => f 421 k rfl
  have e2 : cpP I' 424 421 335 421 = I 421 := (cpP_out (by decide)).trans e
  refine ⟨fun q k _ hq => ?_, fun k hk => ?_, by rw [e2]; exact hs, by rw [e2]; exact hw, by rw [e2]; exact lg⟩
  · rw [cpP_out (by intro z; subst z; simp [sV] at hq)]
    exact f q k hq
  · unfold cpP
    rw [upr_at, if_pos hk, e]
theorem sV_of {q k : Nat} (h : sV q k = false) : sU q k = false := by
  cases h2 : sU q k with
  | false => rfl
  | true => rw [sU_sV q k h2] at h; cases h
theorem Kp.dd {nd np : Nat} {I I' I'' : Nat → Nat → Int32} (h : Kp nd np I I') (f : Dd I' I'') : Kp nd np I I'' := by
  refine ⟨fun q k hn hq => ?_, fun k hk => ?_, f.so h.so, f.lw h.lw, f.lg h.lg⟩
  · rw [f.1 q k ?_]
    · exact h.1 q k hn hq
    · unfold sD
      rw [sV_of hq]
      by_cases e : q = 421
      · subst e
        have : ¬ k < 335 := fun z => hn ⟨rfl, z⟩
        rw [dayC_hi (by omega)]
        rfl
      · rw [beqF e]
        rfl
  · rw [f.1 424 k rfl]
    exact h.2.1 k hk
theorem Kp.fm {nd np : Nat} {I I' I'' : Nat → Nat → Int32} (h : Kp nd np I I') (f : Fm sU I' I'') : Kp nd np I I'' := h.dd (Dd.of f)
/-- what was kept comes back -/
theorem Kp.bk {nd np : Nat} {I I' : Nat → Nat → Int32} (h : Kp nd np I I') : Fm sV I (cpP I' 421 424 335) := fun q k hq => by
  by_cases e : q = 421
  · subst e
    unfold cpP
    rw [upr_at]
    by_cases hk : k < 335
    · rw [if_pos hk, h.2.1 k hk]
    · rw [if_neg hk, h.1 421 k (fun z => hk z.2) hq]
  · rw [cpP_out e]
    exact h.1 q k (fun z => e z.1) hq
theorem Kp.bk2 {nd np : Nat} {I I' : Nat → Nat → Int32} (h : Kp nd np I I') (hs : SO nd np (I 421)) (hw : LwW (I 421)) (lg : LgW (I 421)) : Kp nd np I (cpP I' 421 424 335) := by
  have f := h.bk
  have e : cpP I' 421 424 335 421 = I 421 := funext fun k => f 421 k rfl
  refine ⟨fun q k _ hq => f q k hq, fun k hk => ?_, by rw [e]; exact hs, by rw [e]; exact hw, by rw [e]; exact lg⟩
  rw [cpP_out (by decide)]
  exact h.2.1 k hk
theorem SO.fr {nd np p : Nat} {W : Nat → Nat → Int32} {v : Int32} (h : SO nd np (W 421)) (hp : p < np) : SO nd np (up2 W 421 (11 + 2 * p + 1) v 421) := by
  have := h.p
  have e : ∀ k, k ≠ 11 + 2 * p + 1 → up2 W 421 (11 + 2 * p + 1) v 421 k = W 421 k := fun k hk => up2_ne (Or.inr hk)
  refine h.eq (e 0 (by omega)) (e 1 (by omega)) (e 7 (by omega)) (fun d k hd hk => ?_) (fun _ _ => trivial)
  exact e _ (by omega)
theorem Kp.fr {nd np p : Nat} {I I' : Nat → Nat → Int32} {v : Int32} (h : Kp nd np I I') (hp : p < np) : Kp nd np I (up2 I' 421 (11 + 2 * p + 1) v) := by
  have h6 := h.so.p
  refine ⟨fun q k hn hq => ?_, fun k hk => ?_, h.so.fr hp, h.lw.eq (up2_ne (Or.inr (by omega))) (fun k h1 _ => up2_ne (Or.inr (by omega))), ?_⟩
  · rw [up2_ne (by
      by_cases e : q = 421
      · exact Or.inr (fun z => hn ⟨e, by omega⟩)
      · exact Or.inl e)]
    exact h.1 q k hn hq
  · rw [up2_row (by decide)]
    exact h.2.1 k hk
  · obtain ⟨n, h1, h2⟩ := h.lg
    exact ⟨n, h1, by rw [up2_ne (Or.inr (by omega))]; exact h2⟩
/-- both: kept, and as it was -/
def Kw (nd np : Nat) (I I' : Nat → Nat → Int32) : Prop := Kp nd np I I' ∧ Fm sV I I'
theorem Kw.mk {nd np : Nat} {I I' : Nat → Nat → Int32} (f : Fm sV I I') (hs : SO nd np (I 421)) (hw : LwW (I 421)) (lg : LgW (I 421)) : Kw nd np I (cpP I' 424 421 335) := ⟨Kp.mk f hs hw lg, Fm.of1 f (fun _ hq => cpP_out hq) (fun _ => rfl)⟩
