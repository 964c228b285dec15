/-! ===== sums and conditions of a law, as the reference reads them and as the class does ===== -/
section P76
/-- whether it stands, where it ends or what is wrong, what was emitted (the latest first) -/
abbrev PR : Type := Bool × Nat × List Int32
def prt (T : Nat → Int32) (e b : Nat) : Int32 := if kd T e b = 2 then vl T e b else if kd T e b = 1 then wPa (wd T e b) else -1
theorem prt_lt {T : Nat → Int32} {e b : Nat} (h : ¬ prt T e b = -1) : b < e := by
  by_cases c : b < e
  · exact c
  · exfalso
    apply h
    unfold prt
    rw [kd_ge c]
    rfl
def smL (T : Nat → Int32) (e b : Nat) (o : List Int32) : PR :=
  if h : sg T e b 43 = true then (if prt T e (nx T e b) = -1 then (false, nx T e b, []) else smL T e (nx T e (nx T e b)) (2000 :: prt T e (nx T e b) :: o)) else (true, b, o)
termination_by e - b
decreasing_by
  have h1 := sg_lt h
  have h2 := nx_lt (T := T) h1
  have h3 := nx_ge (T := T) (e := e) (b := nx T e b)
  omega
def sumP (T : Nat → Int32) (e b : Nat) (o : List Int32) : PR := if prt T e b = -1 then (false, b, []) else smL T e (nx T e b) (prt T e b :: o)
def cmpP (T : Nat → Int32) (e : Nat) (op : Int32) (b : Nat) (o : List Int32) : PR := if (sumP T e b o).1 = true then (true, (sumP T e b o).2.1, op :: (sumP T e b o).2.2) else (false, (sumP T e b o).2.1, [])
def baseP (T : Nat → Int32) (e b : Nat) (o : List Int32) : PR :=
  if isWd T e b 22 = true then (true, nx T e b, 1007 :: o) else if isWd T e b 23 = true then (true, nx T e b, 1008 :: o) else
  if (sumP T e b o).1 = true then
    (if sg T e (sumP T e b o).2.1 60 = true then cmpP T e 2001 (nx T e (sumP T e b o).2.1) (sumP T e b o).2.2 else
     if sg T e (sumP T e b o).2.1 62 = true then cmpP T e 2002 (nx T e (sumP T e b o).2.1) (sumP T e b o).2.2 else (false, (sumP T e b o).2.1, []))
  else (false, (sumP T e b o).2.1, [])
def loopP (T : Nat → Int32) (e : Nat) (item : Nat → List Int32 → PR) (k : Nat) (op : Int32) (b : Nat) (o : List Int32) : PR :=
  if h : isWd T e b k = true then
    (if g : b < (item (nx T e b) o).2.1 then
      (if (item (nx T e b) o).1 = true then loopP T e item k op (item (nx T e b) o).2.1 (op :: (item (nx T e b) o).2.2) else (false, (item (nx T e b) o).2.1, []))
     else (false, (item (nx T e b) o).2.1, []))
  else (true, b, o)
termination_by e - b
decreasing_by
  have h1 := isWd_lt h
  omega
def seqP (T : Nat → Int32) (e : Nat) (item : Nat → List Int32 → PR) (k : Nat) (op : Int32) (b : Nat) (o : List Int32) : PR :=
  if (item b o).1 = true then loopP T e item k op (item b o).2.1 (item b o).2.2 else (false, (item b o).2.1, [])
def cndP (T : Nat → Int32) (e : Nat) (item : Nat → List Int32 → PR) : Nat → List Int32 → PR := seqP T e (seqP T e item 20 2004) 19 2005
def opn (T : Nat → Int32) (e b : Nat) : Bool := isWd T e b 21 || sg T e b 40
/-- an atom, so many ( and not deep at most -/
def atomR (T : Nat → Int32) (e : Nat) : Nat → Nat → List Int32 → PR
  | 0, b, o => if opn T e b = true then (false, b, []) else baseP T e b o
  | D + 1, b, o =>
    if sg T e b 40 = true then
      (if (cndP T e (atomR T e D) (nx T e b) o).1 = true then
        (if sg T e (cndP T e (atomR T e D) (nx T e b) o).2.1 41 = true then (true, nx T e (cndP T e (atomR T e D) (nx T e b) o).2.1, (cndP T e (atomR T e D) (nx T e b) o).2.2) else (false, (cndP T e (atomR T e D) (nx T e b) o).2.1, []))
       else (false, (cndP T e (atomR T e D) (nx T e b) o).2.1, []))
    else if isWd T e b 21 = true then
      (if (atomR T e D (nx T e b) o).1 = true then (true, (atomR T e D (nx T e b) o).2.1, 2003 :: (atomR T e D (nx T e b) o).2.2) else (false, (atomR T e D (nx T e b) o).2.1, []))
    else baseP T e b o
def condR (T : Nat → Int32) (e D : Nat) : Nat → List Int32 → PR := cndP T e (atomR T e D)
/-- what waits and binds as strongly at least -/
def popF (op : Int32) : List Int32 → Int32 → List Int32 → List Int32 × Int32 × List Int32
  | [], d, o => ([], d, o)
  | x :: r, d, o => if x ≤ op then popF op r (if x = 2003 then d - 1 else d) (x :: o) else (x :: r, d, o)
def brk : List Int32 → Nat
  | [] => 0
  | x :: r => if x ≤ 2005 then brk r else brk r + 1
def ends (b : Nat) (p : List Int32 × Int32 × List Int32) : PR := match p.1 with
  | [] => (true, b, p.2.2)
  | _ :: _ => (false, b, [])
/-- the class's reader of conditions, a step at a time: an atom is wanted (false), or one has been read (true) -/
def run (T : Nat → Int32) (e : Nat) : Nat → Bool → Nat → List Int32 → Int32 → List Int32 → Option PR
  | 0, _, _, _, _, _ => none
  | f + 1, false, b, st, d, o => if 0 ≤ d ∧ st.length < 32 then
      (if opn T e b = true then (if 6 ≤ d then some (false, b, []) else run T e f false (nx T e b) ((if isWd T e b 21 = true then 2003 else 2006) :: st) (d + 1) o)
       else (if (baseP T e b o).1 = true then run T e f true (baseP T e b o).2.1 st d (baseP T e b o).2.2 else some (false, (baseP T e b o).2.1, []))) else none
  | f + 1, true, b, st, d, o => if brk st ≤ 6 ∧ st.length ≤ 32 then
      (if sg T e b 41 = true then (match (popF 2005 st d o).1 with
        | [] => some (true, b, (popF 2005 st d o).2.2)
        | _ :: r => run T e f true (nx T e b) r ((popF 2005 st d o).2.1 - 1) (popF 2005 st d o).2.2)
       else if isWd T e b 20 = true then run T e f false (nx T e b) (2004 :: (popF 2004 st d o).1) (popF 2004 st d o).2.1 (popF 2004 st d o).2.2
       else if isWd T e b 19 = true then run T e f false (nx T e b) (2005 :: (popF 2005 st d o).1) (popF 2005 st d o).2.1 (popF 2005 st d o).2.2
       else some (ends b (popF 2005 st d o))) else none
variable {T : Nat → Int32} {e b : Nat} {o : List Int32}
theorem smL_t (h : sg T e b 43 = true) (hp : ¬ prt T e (nx T e b) = -1) : smL T e b o = smL T e (nx T e (nx T e b)) (2000 :: prt T e (nx T e b) :: o) := by
  rw [smL, dif_pos h, if_neg hp]
theorem smL_n (h : sg T e b 43 = true) (hp : prt T e (nx T e b) = -1) : smL T e b o = (false, nx T e b, []) := by
  rw [smL, dif_pos h, if_pos hp]
theorem smL_f (h : sg T e b 43 = false) : smL T e b o = (true, b, o) := by
  rw [smL, dif_neg (by rw [h]; decide)]
theorem loopP_f {item : Nat → List Int32 → PR} {k : Nat} {op : Int32} (h : isWd T e b k = false) : loopP T e item k op b o = (true, b, o) := by
  rw [loopP, dif_neg (by rw [h]; decide)]
theorem loopP_t {item : Nat → List Int32 → PR} {k : Nat} {op : Int32} (h : isWd T e b k = true) (g : b < (item (nx T e b) o).2.1) (h1 : (item (nx T e b) o).1 = true) : loopP T e item k op b o = loopP T e item k op (item (nx T e b) o).2.1 (op :: (item (nx T e b) o).2.2) := by
  rw [loopP, dif_pos h, dif_pos g, if_pos h1]
theorem loopP_n {item : Nat → List Int32 → PR} {k : Nat} {op : Int32} (h : isWd T e b k = true) (h1 : ¬ (item (nx T e b) o).1 = true) : loopP T e item k op b o = (false, (item (nx T e b) o).2.1, []) := by
  rw [loopP, dif_pos h]
  by_cases g : b < (item (nx T e b) o).2.1
  · rw [dif_pos g, if_neg h1]
  · rw [dif_neg g]
/-- it goes on, within the text, and emits no more than it takes -/
def Gd (e b : Nat) (o : List Int32) (r : PR) : Prop := b ≤ r.2.1 ∧ r.2.1 ≤ e ∧ (r.1 = true → b < r.2.1 ∧ r.2.2.length + b ≤ o.length + r.2.1)
theorem Gd.no {b1 : Nat} (h : b ≤ b1) (h2 : b1 ≤ e) : Gd e b o (false, b1, []) := ⟨h, h2, fun z => by cases z⟩
theorem smL_gd : ∀ (n b : Nat) (o : List Int32), e - b ≤ n → b ≤ e → b ≤ (smL T e b o).2.1 ∧ (smL T e b o).2.1 ≤ e ∧ ((smL T e b o).1 = true → (smL T e b o).2.2.length + b ≤ o.length + (smL T e b o).2.1) := by
  intro n
  induction n with
  | zero =>
    intro b o h1 h2
    have hf : sg T e b 43 = false := by
      cases hs : sg T e b 43 with
      | false => rfl
      | true => have := sg_lt hs; omega
    rw [smL_f hf]
    exact ⟨Nat.le_refl _, h2, fun _ => Nat.le_refl _⟩
  | succ n ih =>
    intro b o h1 h2
    cases hs : sg T e b 43 with
    | false =>
      rw [smL_f hs]
      exact ⟨Nat.le_refl _, h2, fun _ => Nat.le_refl _⟩
    | true =>
      have hb := sg_lt hs
      have n1 := nx_lt (T := T) hb
      have n2 := nx_le (T := T) h2
      by_cases hp : prt T e (nx T e b) = -1
      · rw [smL_n hs hp]
        exact ⟨Nat.le_of_lt n1, n2, fun z => by cases z⟩
      · have n3 := nx_lt (T := T) (prt_lt hp)
        have n4 := nx_le (T := T) n2
        rw [smL_t hs hp]
        obtain ⟨g1, g2, g3⟩ := ih (nx T e (nx T e b)) (2000 :: prt T e (nx T e b) :: o) (by omega) n4
        refine ⟨by omega, g2, fun z => ?_⟩
        have := g3 z
        simp only [List.length_cons] at this
        omega
theorem sumP_gd (h : b ≤ e) : Gd e b o (sumP T e b o) := by
  unfold sumP
  by_cases hp : prt T e b = -1
  · rw [if_pos hp]
    exact Gd.no (Nat.le_refl _) h
  · rw [if_neg hp]
    have n1 := nx_lt (T := T) (prt_lt hp)
    obtain ⟨g1, g2, g3⟩ := smL_gd (T := T) _ (nx T e b) (prt T e b :: o) (Nat.le_refl _) (nx_le h)
    refine ⟨by omega, g2, fun z => ⟨by omega, ?_⟩⟩
    have := g3 z
    simp only [List.length_cons] at this
    omega
theorem cmpP_gd {op : Int32} {b0 : Nat} {o0 : List Int32} (hb : b0 < b) (h : b ≤ e) (ho : o.length + b0 < o0.length + b) : Gd e b0 o0 (cmpP T e op b o) := by
  obtain ⟨g1, g2, g3⟩ := sumP_gd (T := T) (o := o) h
  unfold cmpP
  by_cases c : (sumP T e b o).1 = true
  · rw [if_pos c]
    obtain ⟨g4, g5⟩ := g3 c
    refine ⟨by show b0 ≤ (sumP T e b o).2.1; omega, g2, fun _ => ⟨by show b0 < (sumP T e b o).2.1; omega, ?_⟩⟩
    show (op :: (sumP T e b o).2.2).length + b0 ≤ o0.length + (sumP T e b o).2.1
    simp only [List.length_cons]
    omega
  · rw [if_neg c]
    exact Gd.no (by omega) g2
theorem baseP_gd (h : b ≤ e) : Gd e b o (baseP T e b o) := by
  unfold baseP
  by_cases c1 : isWd T e b 22 = true
  · rw [if_pos c1]
    have n1 := nx_lt (T := T) (isWd_lt c1)
    exact ⟨Nat.le_of_lt n1, nx_le h, fun _ => ⟨n1, by show o.length + 1 + b ≤ o.length + nx T e b; omega⟩⟩
  rw [if_neg c1]
  by_cases c2 : isWd T e b 23 = true
  · rw [if_pos c2]
    have n1 := nx_lt (T := T) (isWd_lt c2)
    exact ⟨Nat.le_of_lt n1, nx_le h, fun _ => ⟨n1, by show o.length + 1 + b ≤ o.length + nx T e b; omega⟩⟩
  rw [if_neg c2]
  obtain ⟨g1, g2, g3⟩ := sumP_gd (T := T) (o := o) h
  by_cases c3 : (sumP T e b o).1 = true
  · rw [if_pos c3]
    obtain ⟨g4, g5⟩ := g3 c3
    by_cases c4 : sg T e (sumP T e b o).2.1 60 = true
    · rw [if_pos c4]
      have n1 := nx_lt (T := T) (sg_lt c4)
      exact cmpP_gd (by omega) (nx_le g2) (by omega)
    rw [if_neg c4]
    by_cases c5 : sg T e (sumP T e b o).2.1 62 = true
    · rw [if_pos c5]
      have n1 := nx_lt (T := T) (sg_lt c5)
      exact cmpP_gd (by omega) (nx_le g2) (by omega)
    rw [if_neg c5]
    exact Gd.no g1 g2
  · rw [if_neg c3]
    exact Gd.no g1 g2
theorem loopP_gd {item : Nat → List Int32 → PR} {k : Nat} {op : Int32} (hi : ∀ b o, b ≤ e → Gd e b o (item b o)) : ∀ (n b : Nat) (o : List Int32), e - b ≤ n → b ≤ e → b ≤ (loopP T e item k op b o).2.1 ∧ (loopP T e item k op b o).2.1 ≤ e ∧ ((loopP T e item k op b o).1 = true → (loopP T e item k op b o).2.2.length + b ≤ o.length + (loopP T e item k op b o).2.1) := by
  intro n
  induction n with
  | zero =>
    intro b o h1 h2
    have hf : isWd T e b k = false := by
      cases hs : isWd T e b k with
      | false => rfl
      | true => have := isWd_lt hs; omega
    rw [loopP_f hf]
    exact ⟨Nat.le_refl _, h2, fun _ => Nat.le_refl _⟩
  | succ n ih =>
    intro b o h1 h2
    cases hs : isWd T e b k with
    | false =>
      rw [loopP_f hs]
      exact ⟨Nat.le_refl _, h2, fun _ => Nat.le_refl _⟩
    | true =>
      have hb := isWd_lt hs
      have n1 := nx_lt (T := T) hb
      obtain ⟨g1, g2, g3⟩ := hi (nx T e b) o (nx_le h2)
      by_cases c : (item (nx T e b) o).1 = true
      · obtain ⟨g4, g5⟩ := g3 c
        rw [loopP_t hs (by omega) c]
        obtain ⟨q1, q2, q3⟩ := ih (item (nx T e b) o).2.1 (op :: (item (nx T e b) o).2.2) (by omega) g2
        refine ⟨by omega, q2, fun z => ?_⟩
        have := q3 z
        simp only [List.length_cons] at this
        omega
      · rw [loopP_n hs c]
        exact ⟨by show b ≤ (item (nx T e b) o).2.1; omega, g2, fun z => by cases z⟩
theorem seqP_gd {item : Nat → List Int32 → PR} {k : Nat} {op : Int32} (hi : ∀ b o, b ≤ e → Gd e b o (item b o)) (h : b ≤ e) : Gd e b o (seqP T e item k op b o) := by
  unfold seqP
  obtain ⟨g1, g2, g3⟩ := hi b o h
  by_cases c : (item b o).1 = true
  · rw [if_pos c]
    obtain ⟨g4, g5⟩ := g3 c
    obtain ⟨q1, q2, q3⟩ := loopP_gd (T := T) (k := k) (op := op) hi _ (item b o).2.1 (item b o).2.2 (Nat.le_refl _) g2
    exact ⟨by omega, q2, fun z => ⟨by omega, by have := q3 z; omega⟩⟩
  · rw [if_neg c]
    exact Gd.no g1 g2
theorem cndP_gd {item : Nat → List Int32 → PR} (hi : ∀ b o, b ≤ e → Gd e b o (item b o)) (h : b ≤ e) : Gd e b o (cndP T e item b o) := seqP_gd (fun _ _ h => seqP_gd hi h) h
theorem atomR_gd : ∀ (D b : Nat) (o : List Int32), b ≤ e → Gd e b o (atomR T e D b o) := by
  intro D
  induction D with
  | zero =>
    intro b o h
    unfold atomR
    by_cases c : opn T e b = true
    · rw [if_pos c]
      exact Gd.no (Nat.le_refl _) h
    · rw [if_neg c]
      exact baseP_gd h
  | succ D ih =>
    intro b o h
    unfold atomR
    by_cases c : sg T e b 40 = true
    · rw [if_pos c]
      have n1 := nx_lt (T := T) (sg_lt c)
      obtain ⟨g1, g2, g3⟩ := cndP_gd (T := T) (o := o) ih (nx_le (T := T) h)
      by_cases c1 : (cndP T e (atomR T e D) (nx T e b) o).1 = true
      · rw [if_pos c1]
        obtain ⟨g4, g5⟩ := g3 c1
        by_cases c2 : sg T e (cndP T e (atomR T e D) (nx T e b) o).2.1 41 = true
        · rw [if_pos c2]
          have n2 := nx_lt (T := T) (sg_lt c2)
          exact ⟨by show b ≤ nx T e _; omega, nx_le g2, fun _ => ⟨by show b < nx T e _; omega, by show (cndP T e (atomR T e D) (nx T e b) o).2.2.length + b ≤ o.length + nx T e _; omega⟩⟩
        · rw [if_neg c2]
          exact Gd.no (by omega) g2
      · rw [if_neg c1]
        exact Gd.no (by omega) g2
    · rw [if_neg c]
      by_cases c1 : isWd T e b 21 = true
      · rw [if_pos c1]
        have n1 := nx_lt (T := T) (isWd_lt c1)
        obtain ⟨g1, g2, g3⟩ := ih (nx T e b) o (nx_le h)
        by_cases c2 : (atomR T e D (nx T e b) o).1 = true
        · rw [if_pos c2]
          obtain ⟨g4, g5⟩ := g3 c2
          exact ⟨by show b ≤ (atomR T e D (nx T e b) o).2.1; omega, g2, fun _ => ⟨by show b < (atomR T e D (nx T e b) o).2.1; omega, by show (2003 :: (atomR T e D (nx T e b) o).2.2).length + b ≤ o.length + (atomR T e D (nx T e b) o).2.1; simp only [List.length_cons]; omega⟩⟩
        · rw [if_neg c2]
          exact Gd.no (by omega) g2
      · rw [if_neg c1]
        exact baseP_gd h
theorem condR_gd {D : Nat} (h : b ≤ e) : Gd e b o (condR T e D b o) := cndP_gd (fun b o h => atomR_gd D b o h) h
end P76
