/-! ===== codes of conditions: one machine for both (pure) ===== -/
def jnF (c : Nat) (x y : Int32) : Int32 := if c = 2000 then x + y else if c = 2001 then (if x < y then 1 else 0) else if c = 2002 then (if y < x then 1 else 0) else if c = 2004 then x &&& y else x ||| y
def stpF (F : Nat → Int32) (c : Nat) (s : List Int32) : List Int32 :=
  if c < 1000 then nI c :: s else if c < 2000 then F (c - 1000) :: s
  else if c = 2003 then (match s with | [] => [] | x :: r => (1 - x) :: r)
  else match s with | y :: x :: r => jnF c x y :: r | r => r
def runF (F : Nat → Int32) (cd : Nat → Nat) (a : Nat) : Nat → List Int32
  | 0 => []
  | n + 1 => stpF F (cd (a + n)) (runF F cd a n)
/-- kinds on the stack: true a truth, false a number -/
def tyS (c : Nat) (s : List Bool) : Option (List Bool) :=
  if c < 1007 then some (false :: s) else if c < 1009 then some (true :: s)
  else if c = 2000 then (match s with | false :: false :: r => some (false :: r) | _ => none)
  else if c = 2001 ∨ c = 2002 then (match s with | false :: false :: r => some (true :: r) | _ => none)
  else if c = 2003 then (match s with | true :: r => some (true :: r) | _ => none)
  else if c = 2004 ∨ c = 2005 then (match s with | true :: true :: r => some (true :: r) | _ => none)
  else none
def tyR (cd : Nat → Nat) (a : Nat) : Nat → Option (List Bool)
  | 0 => some []
  | n + 1 => (tyR cd a n).bind (tyS (cd (a + n)))
/-- each truth is 0 or 1 -/
def VOK : List Int32 → List Bool → Prop
  | [], [] => True
  | x :: s, b :: t => (b = true → x = 0 ∨ x = 1) ∧ VOK s t
  | _, _ => False
theorem VOK.len {s : List Int32} {t : List Bool} (h : VOK s t) : s.length = t.length := by
  induction s generalizing t with
  | nil => cases t with
    | nil => rfl
    | cons b t => exact False.elim h
  | cons x s ih => cases t with
    | nil => exact False.elim h
    | cons b t => exact congrArg (· + 1) (ih h.2)
theorem or01 {x y : Int32} (hx : x = 0 ∨ x = 1) (hy : y = 0 ∨ y = 1) : (x ||| y = 0 ∨ x ||| y = 1) ∧ (x &&& y = 0 ∨ x &&& y = 1) := by
  rcases hx with rfl | rfl <;> rcases hy with rfl | rfl <;> decide
/-- what a typed code finds: nothing to find, a truth, two of one kind -/
theorem tyS_not {s t' : List Bool} (h : tyS 2003 s = some t') : ∃ r, s = true :: r ∧ t' = true :: r := by
  unfold tyS at h
  rcases s with _ | ⟨_ | _, r⟩
  · cases h
  · cases h
  · cases h
    exact ⟨_, rfl, rfl⟩
theorem tyS_two {c : Nat} {s t' : List Bool} (h1 : ¬ c < 1009) (h2 : ¬ c = 2003) (h : tyS c s = some t') : ∃ b b' r, s = b :: b :: r ∧ t' = b' :: r ∧ ((c = 2000 ∧ b = false ∧ b' = false) ∨ ((c = 2001 ∨ c = 2002) ∧ b = false ∧ b' = true) ∨ ((c = 2004 ∨ c = 2005) ∧ b = true ∧ b' = true)) := by
  unfold tyS at h
  rw [if_neg (by omega), if_neg h1] at h
  by_cases e1 : c = 2000
  · rw [if_pos e1] at h
    rcases s with _ | ⟨_ | _, _ | ⟨_ | _, r⟩⟩ <;> first | (cases h; done) | skip
    cases h
    exact ⟨false, false, r, rfl, rfl, Or.inl ⟨e1, rfl, rfl⟩⟩
  · rw [if_neg e1] at h
    by_cases e2 : c = 2001 ∨ c = 2002
    · rw [if_pos e2] at h
      rcases s with _ | ⟨_ | _, _ | ⟨_ | _, r⟩⟩ <;> first | (cases h; done) | skip
      cases h
      exact ⟨false, true, r, rfl, rfl, Or.inr (Or.inl ⟨e2, rfl, rfl⟩)⟩
    · rw [if_neg e2, if_neg h2] at h
      by_cases e3 : c = 2004 ∨ c = 2005
      · rw [if_pos e3] at h
        rcases s with _ | ⟨_ | _, _ | ⟨_ | _, r⟩⟩ <;> first | (cases h; done) | skip
        cases h
        exact ⟨true, true, r, rfl, rfl, Or.inr (Or.inr ⟨e3, rfl, rfl⟩)⟩
      · rw [if_neg e3] at h
        cases h
theorem VOK.step {F : Nat → Int32} {c : Nat} {s : List Int32} {t t' : List Bool} (hF : ∀ k, k = 7 ∨ k = 8 → F k = 0 ∨ F k = 1) (h : VOK s t) (ht : tyS c t = some t') : VOK (stpF F c s) t' := by
  by_cases h1 : c < 1009
  · by_cases h2 : c < 1007
    · have e : t' = false :: t := by
        unfold tyS at ht
        rw [if_pos h2] at ht
        exact (Option.some.inj ht).symm
      subst e
      unfold stpF
      by_cases h3 : c < 1000
      · rw [if_pos h3]
        exact ⟨fun z => (by cases z), h⟩
      · rw [if_neg h3, if_pos (by omega)]
        exact ⟨fun z => (by cases z), h⟩
    · have e : t' = true :: t := by
        unfold tyS at ht
        rw [if_neg h2, if_pos h1] at ht
        exact (Option.some.inj ht).symm
      subst e
      unfold stpF
      rw [if_neg (by omega), if_pos (by omega)]
      exact ⟨fun _ => hF _ (by omega), h⟩
  · by_cases h2 : c = 2003
    · subst h2
      obtain ⟨r, rfl, rfl⟩ := tyS_not ht
      rcases s with _ | ⟨x, s⟩
      · exact False.elim h
      · refine ⟨fun _ => ?_, h.2⟩
        rcases h.1 rfl with rfl | rfl <;> decide
    · obtain ⟨b, b', r, rfl, rfl, hc⟩ := tyS_two h1 h2 ht
      rcases s with _ | ⟨y, _ | ⟨x, s⟩⟩
      · exact False.elim h
      · exact False.elim h.2
      · unfold stpF
        rw [if_neg (by omega), if_neg (by omega), if_neg h2]
        refine ⟨fun hb => ?_, h.2.2⟩
        rcases hc with ⟨_, _, e⟩ | ⟨e, _, _⟩ | ⟨e, e2, _⟩
        · rw [e] at hb; cases hb
        · rcases e with rfl | rfl
          · show (if x < y then (1 : Int32) else 0) = 0 ∨ (if x < y then (1 : Int32) else 0) = 1
            split <;> simp
          · show (if y < x then (1 : Int32) else 0) = 0 ∨ (if y < x then (1 : Int32) else 0) = 1
            split <;> simp
        · have o := or01 (h.2.1 e2) (h.1 e2)
          rcases e with rfl | rfl
          · exact o.2
          · exact o.1
theorem VOK.run {F : Nat → Int32} {cd : Nat → Nat} {a n : Nat} {t : List Bool} (hF : ∀ k, k = 7 ∨ k = 8 → F k = 0 ∨ F k = 1) (ht : tyR cd a n = some t) : VOK (runF F cd a n) t := by
  induction n generalizing t with
  | zero =>
    cases ht
    trivial
  | succ n ih =>
    unfold tyR at ht
    cases h : tyR cd a n with
    | none => rw [h] at ht; cases ht
    | some t0 =>
      rw [h] at ht
      exact VOK.step hF (ih h) ht
/-- a stack in a row, its last one at the place of its length less 1 -/
def Stk : List Int32 → (Nat → Int32) → Prop
  | [], _ => True
  | x :: r, f => f r.length = x ∧ Stk r f
theorem Stk.upd {s : List Int32} {f g : Nat → Int32} (h : Stk s f) (e : ∀ k, k < s.length → g k = f k) : Stk s g := by
  induction s with
  | nil => trivial
  | cons x r ih => exact ⟨(e _ (Nat.lt_succ_self _)).trans h.1, ih h.2 fun k hk => e k (Nat.lt_succ_of_lt hk)⟩
/-- a line's codes: from a on n of them, typed, never deep -/
def LineOk (cd : Nat → Nat) (a n : Nat) : Prop := (tyR cd a n = some [] ∨ tyR cd a n = some [true]) ∧ ∀ j, j ≤ n → ∃ t, tyR cd a j = some t ∧ t.length ≤ 24
def lineF (F : Nat → Int32) (cd : Nat → Nat) (a n : Nat) : Bool := match runF F cd a n with | [] => true | x :: _ => decide (¬ x = 0)
