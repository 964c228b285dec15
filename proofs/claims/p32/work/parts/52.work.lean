/-! ===== a day's work, pure: rows of left and state, hours, tools had, how many were finished ===== -/
abbrev WkT : Type := (Nat → Int32) × (Nat → Int32) × Int32 × Int32 × Nat
def rset (f : Nat → Int32) (d : Nat) (x : Int32) : Nat → Int32 := fun e => if e = d then x else f e
theorem rset_at {f : Nat → Int32} {d : Nat} {x : Int32} : rset f d x d = x := if_pos rfl
theorem rset_ne {f : Nat → Int32} {d e : Nat} {x : Int32} (h : e ≠ d) : rset f d x e = f e := if_neg h
def rdy (st le : Nat → Int32) (d : Nat) : Bool := decide (st d = 0) && decide (le d = -1 ∨ st (le d).toNatClampNeg = 1)
def mn (x y : Int32) : Int32 := if y < x then y else x
def wkS (ow tl le : Nat → Int32) (p taken : Int32) (s : WkT) (d : Nat) : WkT :=
  if 0 < s.2.2.1 ∧ ow d = p ∧ rdy s.2.1 le d = true ∧ hasF taken (tl d) = false then
    (if s.1 d - mn s.2.2.1 (s.1 d) = 0 then (rset s.1 d 0, rset s.2.1 d 1, s.2.2.1 - mn s.2.2.1 (s.1 d), s.2.2.2.1 ||| bitF (tl d), s.2.2.2.2 + 1)
     else (rset s.1 d (s.1 d - mn s.2.2.1 (s.1 d)), s.2.1, s.2.2.1 - mn s.2.2.1 (s.1 d), s.2.2.2.1 ||| bitF (tl d), s.2.2.2.2))
  else s
def wkF (ow tl le : Nat → Int32) (p taken : Int32) (s : WkT) : Nat → WkT
  | 0 => s
  | n + 1 => wkS ow tl le p taken (wkF ow tl le p taken s n) n
theorem wkF_stop {ow tl le : Nat → Int32} {p taken : Int32} {s : WkT} {j : Nat} (h : ¬ 0 < (wkF ow tl le p taken s j).2.2.1) : ∀ i, wkF ow tl le p taken s (j + i) = wkF ow tl le p taken s j := by
  intro i
  induction i with
  | zero => rfl
  | succ i ih =>
    show wkS ow tl le p taken (wkF ow tl le p taken s (j + i)) (j + i) = _
    rw [ih]
    unfold wkS
    rw [if_neg (fun z => h z.1)]
/-- hours 0 to 9; left 0 to 99, of a waiting one 1 at least; states 0 to 2 -/
def WkOk (nd : Nat) (s : WkT) : Prop := (∃ h, h ≤ 9 ∧ s.2.2.1 = nI h) ∧ ∀ d, d < nd → (∃ l, l ≤ 99 ∧ s.1 d = nI l ∧ (s.2.1 d = 0 → 1 ≤ l)) ∧ (s.2.1 d = 0 ∨ s.2.1 d = 1 ∨ s.2.1 d = 2)
theorem nI_subm {n j : Nat} (h : j ≤ n) : nI n - nI j = nI (n - j) := nI_sub h
theorem nI_lt_iff {a b : Nat} (ha : a < 2 ^ 31) (hb : b < 2 ^ 31) : nI a < nI b ↔ a < b := by
  rw [Int32.lt_iff_toInt_lt, nI_toInt ha, nI_toInt hb]
  omega
theorem nI_eq0 {a : Nat} (ha : a < 2 ^ 31) : nI a = 0 ↔ a = 0 := by
  constructor
  · intro h
    exact nI_inj ha (by decide) (h.trans nI_0.symm)
  · intro h
    rw [h, nI_0]
theorem mn_nI {a b : Nat} (ha : a < 2 ^ 31) (hb : b < 2 ^ 31) : mn (nI a) (nI b) = nI (min a b) := by
  unfold mn
  by_cases h : b < a
  · rw [if_pos ((nI_lt_iff hb ha).mpr h), Nat.min_eq_right (by omega)]
  · rw [if_neg (fun z => h ((nI_lt_iff hb ha).mp z)), Nat.min_eq_left (by omega)]
theorem rdy_st {st le : Nat → Int32} {d : Nat} (h : rdy st le d = true) : st d = 0 := by
  unfold rdy at h
  rw [Bool.and_eq_true] at h
  exact of_decide_eq_true h.1
theorem WkOk.step {nd : Nat} {s : WkT} {ow tl le : Nat → Int32} {p taken : Int32} {d : Nat} (h : WkOk nd s) (hd : d < nd) : WkOk nd (wkS ow tl le p taken s d) := by
  unfold wkS
  split
  · next c =>
    obtain ⟨⟨k, hk, ek⟩, h2⟩ := h
    obtain ⟨⟨l, hl, el, hl1⟩, -⟩ := h2 d hd
    have e1 : s.1 d - mn s.2.2.1 (s.1 d) = nI (l - min k l) := by
      rw [ek, el, mn_nI (by omega) (by omega), nI_sub (by omega)]
    have e2 : s.2.2.1 - mn s.2.2.1 (s.1 d) = nI (k - min k l) := by
      rw [ek, el, mn_nI (by omega) (by omega), nI_sub (by omega)]
    rw [e1, e2]
    split
    · refine ⟨⟨k - min k l, by omega, rfl⟩, fun e he => ?_⟩
      by_cases hed : e = d
      · subst hed
        refine ⟨⟨0, by omega, by rw [nI_0]; exact rset_at, fun z => ?_⟩, Or.inr (Or.inl rset_at)⟩
        exact absurd ((rset_at (f := s.2.1) (d := e) (x := 1)).symm.trans z) (by decide)
      · have := h2 e he
        refine ⟨?_, ?_⟩
        · obtain ⟨l', q1, q2, q3⟩ := this.1
          exact ⟨l', q1, (rset_ne hed).trans q2, fun z => q3 ((rset_ne hed).symm.trans z)⟩
        · show rset s.2.1 d 1 e = 0 ∨ rset s.2.1 d 1 e = 1 ∨ rset s.2.1 d 1 e = 2
          rw [rset_ne hed]
          exact this.2
    · next hn0 =>
      refine ⟨⟨k - min k l, by omega, rfl⟩, fun e he => ?_⟩
      by_cases hed : e = d
      · subst hed
        refine ⟨⟨l - min k l, by omega, rset_at, fun _ => ?_⟩, (h2 e he).2⟩
        have : ¬ l - min k l = 0 := fun z => hn0 (by rw [z, nI_0])
        omega
      · obtain ⟨⟨l', q1, q2, q3⟩, q4⟩ := h2 e he
        exact ⟨⟨l', q1, (rset_ne hed).trans q2, q3⟩, q4⟩
  · exact h
theorem WkOk.run {nd : Nat} {s : WkT} {ow tl le : Nat → Int32} {p taken : Int32} (h : WkOk nd s) : ∀ n, n ≤ nd → WkOk nd (wkF ow tl le p taken s n) := by
  intro n
  induction n with
  | zero => intro _; exact h
  | succ n ih => intro hn; exact (ih (by omega)).step (by omega)
