/-! ===== the class's reader of conditions reads what the reference reads ===== -/
section P77
variable {T : Nat → Int32} {e b : Nat} {o : List Int32} {st : List Int32} {d : Int32} {R : PR}
def Rn (T : Nat → Int32) (e : Nat) (md : Bool) (b : Nat) (st : List Int32) (d : Int32) (o : List Int32) (R : PR) : Prop := ∃ f, run T e f md b st d o = some R
theorem Rn_open (h0 : 0 ≤ d) (hl : st.length < 32) (ho : opn T e b = true) (h6 : ¬ 6 ≤ d) (hR : Rn T e false (nx T e b) ((if isWd T e b 21 = true then 2003 else 2006) :: st) (d + 1) o R) : Rn T e false b st d o R := by
  obtain ⟨f, hf⟩ := hR
  refine ⟨f + 1, ?_⟩
  unfold run
  rw [if_pos ⟨h0, hl⟩, if_pos ho, if_neg h6]
  exact hf
theorem Rn_deep (h0 : 0 ≤ d) (hl : st.length < 32) (ho : opn T e b = true) (h6 : 6 ≤ d) : Rn T e false b st d o (false, b, []) := by
  refine ⟨1, ?_⟩
  unfold run
  rw [if_pos ⟨h0, hl⟩, if_pos ho, if_pos h6]
theorem Rn_base (h0 : 0 ≤ d) (hl : st.length < 32) (ho : ¬ opn T e b = true) (h1 : (baseP T e b o).1 = true) (hR : Rn T e true (baseP T e b o).2.1 st d (baseP T e b o).2.2 R) : Rn T e false b st d o R := by
  obtain ⟨f, hf⟩ := hR
  refine ⟨f + 1, ?_⟩
  unfold run
  rw [if_pos ⟨h0, hl⟩, if_neg ho, if_pos h1]
  exact hf
theorem Rn_bad (h0 : 0 ≤ d) (hl : st.length < 32) (ho : ¬ opn T e b = true) (h1 : ¬ (baseP T e b o).1 = true) : Rn T e false b st d o (false, (baseP T e b o).2.1, []) := by
  refine ⟨1, ?_⟩
  unfold run
  rw [if_pos ⟨h0, hl⟩, if_neg ho, if_neg h1]
theorem Rn_close {x : Int32} {r : List Int32} {d1 : Int32} {o1 : List Int32} (hb : brk st ≤ 6 ∧ st.length ≤ 32) (hs : sg T e b 41 = true) (hp : popF 2005 st d o = (x :: r, d1, o1)) (hR : Rn T e true (nx T e b) r (d1 - 1) o1 R) : Rn T e true b st d o R := by
  obtain ⟨f, hf⟩ := hR
  refine ⟨f + 1, ?_⟩
  unfold run
  rw [if_pos hb, if_pos hs, hp]
  exact hf
theorem Rn_over {d1 : Int32} {o1 : List Int32} (hb : brk st ≤ 6 ∧ st.length ≤ 32) (hs : sg T e b 41 = true) (hp : popF 2005 st d o = ([], d1, o1)) : Rn T e true b st d o (true, b, o1) := by
  refine ⟨1, ?_⟩
  unfold run
  rw [if_pos hb, if_pos hs, hp]
theorem Rn_and (hb : brk st ≤ 6 ∧ st.length ≤ 32) (hw : isWd T e b 20 = true) (hR : Rn T e false (nx T e b) (2004 :: (popF 2004 st d o).1) (popF 2004 st d o).2.1 (popF 2004 st d o).2.2 R) : Rn T e true b st d o R := by
  obtain ⟨f, hf⟩ := hR
  refine ⟨f + 1, ?_⟩
  unfold run
  rw [if_pos hb, if_neg (by rw [wd_sg hw]; decide), if_pos hw]
  exact hf
theorem Rn_or (hb : brk st ≤ 6 ∧ st.length ≤ 32) (hw : isWd T e b 19 = true) (hR : Rn T e false (nx T e b) (2005 :: (popF 2005 st d o).1) (popF 2005 st d o).2.1 (popF 2005 st d o).2.2 R) : Rn T e true b st d o R := by
  obtain ⟨f, hf⟩ := hR
  refine ⟨f + 1, ?_⟩
  unfold run
  rw [if_pos hb, if_neg (by rw [wd_sg hw]; decide), if_neg (by rw [isWd_one hw (by decide)]; decide), if_pos hw]
  exact hf
theorem Rn_end (hb : brk st ≤ 6 ∧ st.length ≤ 32) (hs : sg T e b 41 = false) (h1 : isWd T e b 20 = false) (h2 : isWd T e b 19 = false) : Rn T e true b st d o (ends b (popF 2005 st d o)) := by
  refine ⟨1, ?_⟩
  unfold run
  rw [if_pos hb, if_neg (by rw [hs]; decide), if_neg (by rw [h1]; decide), if_neg (by rw [h2]; decide)]
def PopTo (m : Int32) (s : List Int32) (d1 : Int32) (o2 : List Int32) (d : Int32) (o1 : List Int32) : Prop := ∀ op st, m ≤ op → op ≤ 2005 → popF op (s ++ st) d1 o2 = popF op st d o1
def Top (tp : Int32) (st : List Int32) : Prop := ∀ x r, st = x :: r → ¬ x ≤ tp
theorem popF_top {op : Int32} (h : Top op st) : popF op st d o = (st, d, o) := by
  cases st with
  | nil => rfl
  | cons x r => exact if_neg (h x r rfl)
theorem popF_pop {op x : Int32} (h : x ≤ op) (h2 : x ≠ 2003) : popF op (x :: st) d o = popF op st d (x :: o) := by
  have e1 : popF op (x :: st) d o = popF op st (if x = 2003 then d - 1 else d) (x :: o) := if_pos h
  rw [e1, if_neg h2]
theorem popF_not {op : Int32} (h : 2003 ≤ op) : popF op (2003 :: st) d o = popF op st (d - 1) (2003 :: o) := if_pos h
theorem brk_app {s : List Int32} : brk (s ++ st) = brk s + brk st := by
  induction s with
  | nil => exact (Nat.zero_add _).symm
  | cons x r ih =>
    show (if x ≤ 2005 then brk (r ++ st) else brk (r ++ st) + 1) = (if x ≤ 2005 then brk r else brk r + 1) + brk st
    rw [ih]
    by_cases c : x ≤ 2005
    · rw [if_pos c, if_pos c]
    · rw [if_neg c, if_neg c]
      omega
theorem brk_in {x : Int32} (h : x ≤ 2005) : brk (x :: st) = brk st := if_pos h
theorem brk_out {x : Int32} (h : ¬ x ≤ 2005) : brk (x :: st) = brk st + 1 := if_neg h
/-- the class reads an item (D ( or not more may be open, L less than 20 wait) as it is read -/
def IOK (T : Nat → Int32) (e D L : Nat) (tp m : Int32) (Pb : Nat → Prop) (item : Nat → List Int32 → PR) : Prop := ∀ (b : Nat) (st o : List Int32), b ≤ e → st.length + L ≤ 20 → brk st + D ≤ 6 → Top tp st →
  ((item b o).1 = true → Pb (item b o).2.1 ∧ ∃ s d1 o2, (brk s = 0 ∧ s.length ≤ L) ∧ PopTo m s d1 o2 (nI (6 - D)) (item b o).2.2 ∧ ∀ R, Rn T e true (item b o).2.1 (s ++ st) d1 o2 R → Rn T e false b st (nI (6 - D)) o R) ∧
  (¬ (item b o).1 = true → Rn T e false b st (nI (6 - D)) o (false, (item b o).2.1, []))
theorem seq_ok {item : Nat → List Int32 → PR} {D L k : Nat} {tp m op : Int32} {Pb : Nat → Prop} (hg : ∀ b o, b ≤ e → Gd e b o (item b o)) (hi : IOK T e D L tp m Pb item) (h1 : ¬ op ≤ tp) (h2 : m ≤ op) (h3 : op ≤ 2005) (h4 : op ≠ 2003) (h5 : tp ≤ op)
    (hstep : ∀ b, isWd T e b k = true → ∀ st d o R, brk st ≤ 6 ∧ st.length ≤ 32 → Rn T e false (nx T e b) (op :: (popF op st d o).1) (popF op st d o).2.1 (popF op st d o).2.2 R → Rn T e true b st d o R) : IOK T e D (L + 1) op op (fun b => Pb b ∧ isWd T e b k = false) (seqP T e item k op) := by
  intro b st o hb hl hk ht
  have key : ∀ (n b : Nat) (s : List Int32) (d1 : Int32) (o2 o : List Int32), e - b ≤ n → b ≤ e → Pb b → brk s = 0 ∧ s.length ≤ L + 1 → PopTo op s d1 o2 (nI (6 - D)) o →
      ((loopP T e item k op b o).1 = true → (Pb (loopP T e item k op b o).2.1 ∧ isWd T e (loopP T e item k op b o).2.1 k = false) ∧ ∃ s' d' o', (brk s' = 0 ∧ s'.length ≤ L + 1) ∧ PopTo op s' d' o' (nI (6 - D)) (loopP T e item k op b o).2.2 ∧ ∀ R, Rn T e true (loopP T e item k op b o).2.1 (s' ++ st) d' o' R → Rn T e true b (s ++ st) d1 o2 R) ∧
      (¬ (loopP T e item k op b o).1 = true → Rn T e true b (s ++ st) d1 o2 (false, (loopP T e item k op b o).2.1, [])) := by
    intro n
    induction n with
    | zero =>
      intro b s d1 o2 o hn hb hPb hs0 hpt
      have hf : isWd T e b k = false := by
        cases hs : isWd T e b k with
        | false => rfl
        | true => have := isWd_lt hs; omega
      rw [loopP_f hf]
      exact ⟨fun _ => ⟨⟨hPb, hf⟩, s, d1, o2, hs0, hpt, fun R z => z⟩, fun z => absurd rfl z⟩
    | succ n ih =>
      intro b s d1 o2 o hn hb hPb hs0 hpt
      cases hs : isWd T e b k with
      | false =>
        rw [loopP_f hs]
        exact ⟨fun _ => ⟨⟨hPb, hs⟩, s, d1, o2, hs0, hpt, fun R z => z⟩, fun z => absurd rfl z⟩
      | true =>
        have hbe := isWd_lt hs
        have n1 := nx_lt (T := T) hbe
        have ep : popF op (s ++ st) d1 o2 = (st, nI (6 - D), o) := by rw [hpt op st (Int32.le_refl _) h3, popF_top ht]
        have st1 : ∀ R, Rn T e false (nx T e b) (op :: st) (nI (6 - D)) o R → Rn T e true b (s ++ st) d1 o2 R := fun R z => hstep b hs _ _ _ R ⟨by rw [brk_app, hs0.1]; omega, by rw [List.length_append]; have := hs0.2; omega⟩ (by rw [ep]; exact z)
        obtain ⟨i1, i2⟩ := hi (nx T e b) (op :: st) o (nx_le hb) (by simp only [List.length_cons]; omega) (by rw [brk_in h3]; exact hk) (fun x r z => by cases z; exact h1)
        obtain ⟨g1, g2, g3⟩ := hg (nx T e b) o (nx_le hb)
        by_cases c : (item (nx T e b) o).1 = true
        · obtain ⟨hP2, s1, d2, o3, q1, q2, q3⟩ := i1 c
          rw [loopP_t hs (by omega) c]
          have hpt2 : PopTo op (s1 ++ [op]) d2 o3 (nI (6 - D)) (op :: (item (nx T e b) o).2.2) := fun op2 st2 z1 z2 => by
            rw [List.append_assoc, List.singleton_append, q2 op2 (op :: st2) (Int32.le_trans h2 z1) z2, popF_pop z1 h4]
          obtain ⟨j1, j2⟩ := ih (item (nx T e b) o).2.1 (s1 ++ [op]) d2 o3 (op :: (item (nx T e b) o).2.2) (by omega) g2 hP2 ⟨by rw [brk_app, q1.1, brk_in h3]; rfl, by rw [List.length_append]; exact Nat.succ_le_succ q1.2⟩ hpt2
          have st2 : ∀ R, Rn T e true (item (nx T e b) o).2.1 ((s1 ++ [op]) ++ st) d2 o3 R → Rn T e true b (s ++ st) d1 o2 R := fun R z => st1 R (q3 R (by rw [List.append_assoc, List.singleton_append] at z; exact z))
          refine ⟨fun z => ?_, fun z => st2 _ (j2 z)⟩
          obtain ⟨k1, s3, d3, o4, k2, k3, k4⟩ := j1 z
          exact ⟨k1, s3, d3, o4, k2, k3, fun R z2 => st2 R (k4 R z2)⟩
        · rw [loopP_n hs c]
          exact ⟨fun z => (by cases z), fun _ => st1 _ (i2 c)⟩
  obtain ⟨i1, i2⟩ := hi b st o hb (by omega) hk (fun x r z y => ht x r z (Int32.le_trans y h5))
  obtain ⟨g1, g2, g3⟩ := hg b o hb
  unfold seqP
  by_cases c : (item b o).1 = true
  · rw [if_pos c]
    obtain ⟨hP2, s1, d2, o3, q1, q2, q3⟩ := i1 c
    obtain ⟨j1, j2⟩ := key _ (item b o).2.1 s1 d2 o3 (item b o).2.2 (Nat.le_refl _) g2 hP2 ⟨q1.1, Nat.le_succ_of_le q1.2⟩ (fun op2 st2 z1 z2 => q2 op2 st2 (Int32.le_trans h2 z1) z2)
    refine ⟨fun z => ?_, fun z => q3 _ (j2 z)⟩
    obtain ⟨k1, s3, d3, o4, k2, k3, k4⟩ := j1 z
    exact ⟨k1, s3, d3, o4, k2, k3, fun R z2 => q3 R (k4 R z2)⟩
  · rw [if_neg c]
    exact ⟨fun z => (by cases z), fun _ => i2 c⟩
theorem cnd_ok {item : Nat → List Int32 → PR} {D L : Nat} (hg : ∀ b o, b ≤ e → Gd e b o (item b o)) (hi : IOK T e D L 0 2003 (fun _ => True) item) : IOK T e D (L + 1 + 1) 2005 2005 (fun b => (True ∧ isWd T e b 20 = false) ∧ isWd T e b 19 = false) (cndP T e item) :=
  seq_ok (fun _ _ h => seqP_gd hg h) (seq_ok hg hi (by decide) (by decide) (by decide) (by decide) (by decide) (fun b h st d o R hb hR => Rn_and hb h hR)) (by decide) (by decide) (by decide) (by decide) (by decide) (fun b h st d o R hb hR => Rn_or hb h hR)
theorem nI_6 {D : Nat} (h : D + 1 ≤ 6) : nI (6 - (D + 1)) + 1 = nI (6 - D) := by
  rw [← nI_succ]
  congr 1
  omega
theorem nI_6s {D : Nat} (h : D + 1 ≤ 6) : nI (6 - D) - 1 = nI (6 - (D + 1)) := by
  rw [← nI_6 h, Int32.add_sub_cancel]
theorem nI_6b : ∀ D, D + 1 ≤ 6 → ¬ (6 : Int32) ≤ nI (6 - (D + 1)) := by
  intro D h
  have : ∀ k, k < 6 → ¬ (6 : Int32) ≤ nI k := by decide
  exact this _ (by omega)
theorem nI_0le {k : Nat} (h : k < 2 ^ 31) : (0 : Int32) ≤ nI k := by
  rw [Int32.le_iff_toInt_le, nI_toInt h]
  show (0 : Int) ≤ _
  omega
theorem base_ok {D L : Nat} (hD : D ≤ 6) (hb : b ≤ e) (hl : st.length + L ≤ 20) (ho : ¬ opn T e b = true) :
    ((baseP T e b o).1 = true → True ∧ ∃ s d1 o2, (brk s = 0 ∧ s.length ≤ L) ∧ PopTo 2003 s d1 o2 (nI (6 - D)) (baseP T e b o).2.2 ∧ ∀ R, Rn T e true (baseP T e b o).2.1 (s ++ st) d1 o2 R → Rn T e false b st (nI (6 - D)) o R) ∧
    (¬ (baseP T e b o).1 = true → Rn T e false b st (nI (6 - D)) o (false, (baseP T e b o).2.1, [])) := by
  refine ⟨fun z => ⟨trivial, [], nI (6 - D), (baseP T e b o).2.2, ⟨rfl, Nat.zero_le _⟩, fun op st _ _ => rfl, fun R hR => ?_⟩, fun z => ?_⟩
  · exact Rn_base (nI_0le (by omega)) (by omega) ho z hR
  · exact Rn_bad (nI_0le (by omega)) (by omega) ho z
theorem atom_ok : ∀ D, D ≤ 6 → IOK T e D (3 * D) 0 2003 (fun _ => True) (atomR T e D) := by
  intro D
  induction D with
  | zero =>
    intro hD b st o hb hl hk ht
    unfold atomR
    by_cases c : opn T e b = true
    · rw [if_pos c]
      exact ⟨fun z => (by cases z), fun _ => Rn_deep (by decide) (by omega) c (by decide)⟩
    · rw [if_neg c]
      exact base_ok hD hb hl c
  | succ D ih =>
    intro hD b st o hb hl hk ht
    have ih := ih (by omega)
    have d0 : (0 : Int32) ≤ nI (6 - (D + 1)) := nI_0le (by omega)
    unfold atomR
    by_cases c : sg T e b 40 = true
    · rw [if_pos c]
      have ho : opn T e b = true := by
        unfold opn
        rw [c]
        exact Bool.or_true _
      have op1 : ∀ R, Rn T e false (nx T e b) (2006 :: st) (nI (6 - D)) o R → Rn T e false b st (nI (6 - (D + 1))) o R := fun R z => Rn_open d0 (by omega) ho (nI_6b D hD) (by rw [if_neg (by rw [sg_wd c]; decide), nI_6 hD]; exact z)
      obtain ⟨i1, i2⟩ := cnd_ok (fun b o h => atomR_gd D b o h) ih (nx T e b) (2006 :: st) o (nx_le hb) (by simp only [List.length_cons]; omega) (by rw [brk_out (by decide)]; omega) (fun x r z => by cases z; decide)
      by_cases c1 : (cndP T e (atomR T e D) (nx T e b) o).1 = true
      · rw [if_pos c1]
        obtain ⟨⟨⟨-, hA⟩, hO⟩, s, d1, o2, q1, q2, q3⟩ := i1 c1
        have ep : popF 2005 (s ++ 2006 :: st) d1 o2 = (2006 :: st, nI (6 - D), (cndP T e (atomR T e D) (nx T e b) o).2.2) := by
          rw [q2 2005 (2006 :: st) (Int32.le_refl _) (Int32.le_refl _)]
          exact popF_top (fun x r z => by cases z; decide)
        have hbk : brk (s ++ 2006 :: st) ≤ 6 ∧ (s ++ 2006 :: st).length ≤ 32 := by
          rw [brk_app, q1.1, brk_out (by decide), List.length_append, List.length_cons]
          have := q1.2
          omega
        by_cases c2 : sg T e (cndP T e (atomR T e D) (nx T e b) o).2.1 41 = true
        · rw [if_pos c2]
          refine ⟨fun _ => ⟨trivial, [], nI (6 - (D + 1)), (cndP T e (atomR T e D) (nx T e b) o).2.2, ⟨rfl, Nat.zero_le _⟩, fun op st _ _ => rfl, fun R hR => ?_⟩, fun z => absurd rfl z⟩
          exact op1 R (q3 R (Rn_close hbk c2 ep (by rw [nI_6s hD]; exact hR)))
        · rw [if_neg c2]
          refine ⟨fun z => (by cases z), fun _ => ?_⟩
          have h9 := Rn_end (T := T) (e := e) (d := d1) (o := o2) hbk (Bool.eq_false_iff.mpr c2) hA hO
          rw [ep] at h9
          exact op1 _ (q3 _ h9)
      · rw [if_neg c1]
        exact ⟨fun z => (by cases z), fun _ => op1 _ (i2 c1)⟩
    · rw [if_neg c]
      by_cases c1 : isWd T e b 21 = true
      · rw [if_pos c1]
        have ho : opn T e b = true := by
          unfold opn
          rw [c1]
          exact Bool.true_or _
        have op1 : ∀ R, Rn T e false (nx T e b) (2003 :: st) (nI (6 - D)) o R → Rn T e false b st (nI (6 - (D + 1))) o R := fun R z => Rn_open d0 (by omega) ho (nI_6b D hD) (by rw [if_pos c1, nI_6 hD]; exact z)
        obtain ⟨i1, i2⟩ := ih (nx T e b) (2003 :: st) o (nx_le hb) (by simp only [List.length_cons]; omega) (by rw [brk_in (by decide)]; omega) (fun x r z => by cases z; decide)
        by_cases c2 : (atomR T e D (nx T e b) o).1 = true
        · rw [if_pos c2]
          obtain ⟨-, s, d1, o2, q1, q2, q3⟩ := i1 c2
          refine ⟨fun _ => ⟨trivial, s ++ [2003], d1, o2, ⟨by rw [brk_app, q1.1, brk_in (by decide)]; rfl, by rw [List.length_append]; have := q1.2; show s.length + 1 ≤ _; omega⟩, fun op st2 z1 z2 => ?_, fun R hR => op1 R (q3 R ?_)⟩, fun z => absurd rfl z⟩
          · rw [List.append_assoc, List.singleton_append, q2 op (2003 :: st2) z1 z2, popF_not z1, nI_6s hD]
          · rw [List.append_assoc, List.singleton_append] at hR
            exact hR
        · rw [if_neg c2]
          exact ⟨fun z => (by cases z), fun _ => op1 _ (i2 c2)⟩
      · rw [if_neg c1]
        have ho : ¬ opn T e b = true := by
          unfold opn
          rw [Bool.or_eq_true]
          exact fun z => z.elim c1 c
        exact base_ok hD hb hl ho
/-- a whole condition, six deep -/
theorem cond_run (hb : b ≤ e) : ∃ z b1 o1, condR T e 6 b o = (z, b1, o1) ∧ (z = false → Rn T e false b [] 0 o (false, b1, [])) ∧ (z = true → Rn T e false b [] 0 o (true, b1, o1)) := by
  obtain ⟨i1, i2⟩ := cnd_ok (fun b o h => atomR_gd 6 b o h) (atom_ok (T := T) (e := e) 6 (Nat.le_refl 6)) b [] o hb (by decide) (by decide) (fun x r z => by cases z)
  rw [show nI (6 - 6) = 0 from rfl] at i1 i2
  refine ⟨(condR T e 6 b o).1, (condR T e 6 b o).2.1, (condR T e 6 b o).2.2, rfl, fun z => i2 (by rw [show cndP T e (atomR T e 6) b o = condR T e 6 b o from rfl, z]; decide), fun z => ?_⟩
  obtain ⟨⟨⟨-, hA⟩, hO⟩, s, d1, o2, q1, q2, q3⟩ := i1 z
  refine q3 _ ?_
  have ep : popF 2005 (s ++ []) d1 o2 = ([], 0, (condR T e 6 b o).2.2) := by
    rw [q2 2005 [] (Int32.le_refl _) (Int32.le_refl _)]
    rfl
  have hbk : brk (s ++ []) ≤ 6 ∧ (s ++ []).length ≤ 32 := by
    have := q1.2
    rw [brk_app, q1.1, List.length_append]
    exact ⟨by decide, by show s.length + 0 ≤ 32; omega⟩
  by_cases c2 : sg T e (cndP T e (atomR T e 6) b o).2.1 41 = true
  · exact Rn_over hbk c2 ep
  · have h9 := Rn_end (T := T) (e := e) (d := d1) (o := o2) hbk (Bool.eq_false_iff.mpr c2) hA hO
    rw [ep] at h9
    exact h9
end P77
