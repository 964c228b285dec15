/-! ===== lines of a law ===== -/
section P78
/-- of a line: kind, number, where its condition begins and ends -/
abbrev LnT : Type := Int32 × Int32 × Nat × Nat
abbrev LRs : Type := Bool × Nat × List Int32 × List LnT
def kndP (T : Nat → Int32) (e b : Nat) : Int32 := if isWd T e b 15 = true then 0 else if isWd T e b 16 = true then 1 else if isWd T e b 17 = true then 2 else -1
def lnP (T : Nat → Int32) (e b : Nat) (o : List Int32) : PR :=
  if kndP T e b = -1 then (false, b, []) else if nm T e (nx T e b) 0 60 = -1 then (false, nx T e b, []) else
  if isWd T e (nx T e (nx T e b)) 18 = true then condR T e 6 (nx T e (nx T e (nx T e b))) o else (true, nx T e (nx T e b), o)
def lnV (T : Nat → Int32) (e b : Nat) (o o1 : List Int32) : LnT := (kndP T e b, nm T e (nx T e b) 0 60, o.length, o1.length)
def lnsP (T : Nat → Int32) (e : Nat) : Nat → Nat → List Int32 → List LnT → LRs
  | 0, b, _, _ => (false, b, [], [])
  | f + 1, b, o, ls =>
    if (lnP T e b o).1 = true then
      (if (lnP T e b o).2.1 < e then
        (if sg T e (lnP T e b o).2.1 59 = true then lnsP T e f (nx T e (lnP T e b o).2.1) (lnP T e b o).2.2 (lnV T e b o (lnP T e b o).2.2 :: ls) else (false, (lnP T e b o).2.1, [], []))
       else (true, (lnP T e b o).2.1, (lnP T e b o).2.2, lnV T e b o (lnP T e b o).2.2 :: ls))
    else (false, (lnP T e b o).2.1, [], [])
def lawP (T : Nat → Int32) (e : Nat) : LRs := if bg T e 0 < e then lnsP T e 12 (bg T e 0) [] [] else (true, bg T e 0, [], [])
/-- the heads of four rows of lines, the latest first -/
def LnL (f0 f1 f2 f3 : Nat → Int32) : List LnT → Prop
  | [] => True
  | x :: r => (f0 r.length = x.1 ∧ f1 r.length = x.2.1 ∧ f2 r.length = nI x.2.2.1 ∧ f3 r.length = nI x.2.2.2) ∧ LnL f0 f1 f2 f3 r
theorem LnL.eq {f0 f1 f2 f3 g0 g1 g2 g3 : Nat → Int32} : ∀ {ls : List LnT}, LnL f0 f1 f2 f3 ls → (∀ i, i < ls.length → g0 i = f0 i ∧ g1 i = f1 i ∧ g2 i = f2 i ∧ g3 i = f3 i) → LnL g0 g1 g2 g3 ls := by
  intro ls
  induction ls with
  | nil => exact fun _ _ => trivial
  | cons x r ih =>
    intro h f
    obtain ⟨a0, a1, a2, a3⟩ := f r.length (Nat.lt_succ_self _)
    exact ⟨⟨a0.trans h.1.1, a1.trans h.1.2.1, a2.trans h.1.2.2.1, a3.trans h.1.2.2.2⟩, ih h.2 fun i hi => f i (Nat.lt_succ_of_lt hi)⟩
variable {T : Nat → Int32} {e b : Nat} {o : List Int32}
theorem lnsP_s {f : Nat} {ls : List LnT} : lnsP T e (f + 1) b o ls = if (lnP T e b o).1 = true then
      (if (lnP T e b o).2.1 < e then
        (if sg T e (lnP T e b o).2.1 59 = true then lnsP T e f (nx T e (lnP T e b o).2.1) (lnP T e b o).2.2 (lnV T e b o (lnP T e b o).2.2 :: ls) else (false, (lnP T e b o).2.1, [], []))
       else (true, (lnP T e b o).2.1, (lnP T e b o).2.2, lnV T e b o (lnP T e b o).2.2 :: ls))
    else (false, (lnP T e b o).2.1, [], []) := rfl
theorem knd_lt (h : ¬ kndP T e b = -1) : b < e := by
  unfold kndP at h
  by_cases c1 : isWd T e b 15 = true
  · exact isWd_lt c1
  · rw [if_neg c1] at h
    by_cases c2 : isWd T e b 16 = true
    · exact isWd_lt c2
    · rw [if_neg c2] at h
      by_cases c3 : isWd T e b 17 = true
      · exact isWd_lt c3
      · rw [if_neg c3] at h
        exact absurd rfl h
theorem nm_lt {lo hi : Int32} (h : ¬ nm T e b lo hi = -1) : b < e := by
  by_cases c : b < e
  · exact c
  · exfalso
    apply h
    unfold nm
    rw [if_neg (fun z => by rw [kd_ge c] at z; exact absurd z.1 (by decide))]
theorem lnP_gd (h : b ≤ e) : Gd e b o (lnP T e b o) := by
  unfold lnP
  by_cases c1 : kndP T e b = -1
  · rw [if_pos c1]
    exact Gd.no (Nat.le_refl _) h
  rw [if_neg c1]
  have n1 := nx_lt (T := T) (knd_lt c1)
  have n1e := nx_le (T := T) h
  by_cases c2 : nm T e (nx T e b) 0 60 = -1
  · rw [if_pos c2]
    exact Gd.no (Nat.le_of_lt n1) n1e
  rw [if_neg c2]
  have n2 := nx_lt (T := T) (nm_lt c2)
  have n2e := nx_le (T := T) n1e
  by_cases c3 : isWd T e (nx T e (nx T e b)) 18 = true
  · rw [if_pos c3]
    have n3 := nx_lt (T := T) (isWd_lt c3)
    obtain ⟨g1, g2, g3⟩ := condR_gd (T := T) (D := 6) (o := o) (nx_le (T := T) n2e)
    exact ⟨by omega, g2, fun z => ⟨by have := (g3 z).1; omega, by have := (g3 z).2; omega⟩⟩
  · rw [if_neg c3]
    exact ⟨by show b ≤ nx T e (nx T e b); omega, n2e, fun _ => ⟨by show b < nx T e (nx T e b); omega, by show o.length + b ≤ o.length + nx T e (nx T e b); omega⟩⟩
theorem lnsP_le : ∀ (f b : Nat) (o : List Int32) (ls : List LnT), b ≤ e → (lnsP T e f b o ls).2.1 ≤ e := by
  intro f
  induction f with
  | zero => exact fun b o ls h => h
  | succ f ih =>
    intro b o ls h
    have g := (lnP_gd (T := T) (o := o) h).2.1
    rw [lnsP_s]
    by_cases c1 : (lnP T e b o).1 = true
    · rw [if_pos c1]
      by_cases c2 : (lnP T e b o).2.1 < e
      · rw [if_pos c2]
        by_cases c3 : sg T e (lnP T e b o).2.1 59 = true
        · rw [if_pos c3]
          exact ih _ _ _ (nx_le g)
        · rw [if_neg c3]
          exact g
      · rw [if_neg c2]
        exact g
    · rw [if_neg c1]
      exact g
theorem lawP_le : (lawP T e).2.1 ≤ e := by
  unfold lawP
  by_cases c : bg T e 0 < e
  · rw [if_pos c]
    exact lnsP_le _ _ _ _ (bg_le 0)
  · rw [if_neg c]
    exact bg_le 0
end P78
