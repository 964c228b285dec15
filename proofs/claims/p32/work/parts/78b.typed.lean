/-! ===== what a law's text emits is typed and never deep ===== -/
section P78b
/-- a code -/
def okC (x : Int32) : Prop := ∃ c : Nat, c < 2006 ∧ x = nI c ∧ (c < 1009 ∨ 2000 ≤ c)
theorem okC_st {x : Int32} (h : okC x) : ∃ k m, k ≤ 15 ∧ m < 1000 ∧ (if x < 1000 then (9 : Int32) else if x < 2000 then x - 1000 else x - 1990) = nI k ∧ (if x < 1000 then x else 0) = nI m ∧ x.toNatClampNeg = trN k m ∧ x = nI x.toNatClampNeg := by
  have key : ∀ c, c < 2006 → (c < 1009 ∨ 2000 ≤ c) → (if c < 1000 then 9 else if c < 2000 then c - 1000 else c - 1990) ≤ 15 ∧ (if c < 1000 then c else 0) < 1000 ∧ (if nI c < 1000 then (9 : Int32) else if nI c < 2000 then nI c - 1000 else nI c - 1990) = nI (if c < 1000 then 9 else if c < 2000 then c - 1000 else c - 1990) ∧ (if nI c < 1000 then nI c else 0) = nI (if c < 1000 then c else 0) ∧ c = trN (if c < 1000 then 9 else if c < 2000 then c - 1000 else c - 1990) (if c < 1000 then c else 0) := by
    intro c h1 h2
    have e1 : (nI c < 1000) = (c < 1000) := propext (nI_lt_iff (a := c) (b := 1000) (by omega) (by decide))
    have e2 : (nI c < 2000) = (c < 2000) := propext (nI_lt_iff (a := c) (b := 2000) (by omega) (by decide))
    simp only [e1, e2]
    by_cases c1 : c < 1000
    · rw [if_pos c1, if_pos c1, if_pos c1, if_pos c1]
      exact ⟨by decide, c1, rfl, rfl, by unfold trN; rw [if_pos rfl]⟩
    · rw [if_neg c1, if_neg c1, if_neg c1, if_neg c1]
      by_cases c2 : c < 2000
      · rw [if_pos c2, if_pos c2]
        refine ⟨by omega, by decide, ?_, rfl, ?_⟩
        · rw [show (1000 : Int32) = nI 1000 from rfl, nI_sub (by omega)]
        · unfold trN
          rw [if_neg (by omega), if_pos (by omega)]
          omega
      · rw [if_neg c2, if_neg c2]
        refine ⟨by omega, by decide, ?_, rfl, ?_⟩
        · rw [show (1990 : Int32) = nI 1990 from rfl, nI_sub (by omega)]
        · unfold trN
          rw [if_neg (by omega), if_neg (by omega)]
          omega
  obtain ⟨c, h1, rfl, h2⟩ := h
  obtain ⟨g1, g2, g3, g4, g5⟩ := key c h1 h2
  exact ⟨_, _, g1, g2, g3, g4, by rw [nI_clamp (by omega)]; exact g5, by rw [nI_clamp (by omega)]⟩
def tyN : List Int32 → List Bool → Option (List Bool)
  | [], s => some s
  | x :: r, s => (tyN r s).bind (tyS x.toNatClampNeg)
def okN : List Int32 → List Bool → Prop
  | [], s => s.length ≤ 24
  | x :: r, s => okN r s ∧ ∃ s', tyN (x :: r) s = some s' ∧ s'.length ≤ 24
theorem tyN_app {s s' : List Bool} {m : List Int32} : ∀ {n : List Int32}, tyN m s = some s' → tyN (n ++ m) s = tyN n s' := by
  intro n
  induction n with
  | nil => exact fun h => h
  | cons x r ih =>
    intro h
    show (tyN (r ++ m) s).bind _ = (tyN r s').bind _
    rw [ih h]
theorem okN_app {s s' : List Bool} {m : List Int32} : ∀ {n : List Int32}, tyN m s = some s' → okN m s → okN n s' → okN (n ++ m) s := by
  intro n
  induction n with
  | nil => exact fun _ h _ => h
  | cons x r ih =>
    intro h1 h2 h3
    refine ⟨ih h1 h2 h3.1, ?_⟩
    obtain ⟨t, e, l⟩ := h3.2
    exact ⟨t, (tyN_app (n := x :: r) h1).trans e, l⟩
/-- it emits, behind what is there, typed codes: so many deep at most -/
def Em (K : Nat) (s0 s1 : List Bool) (o o1 : List Int32) : Prop := ∃ n, o1 = n ++ o ∧ (∀ x ∈ n, okC x) ∧ ∀ s, s.length + K ≤ 24 → tyN n (s0 ++ s) = some (s1 ++ s) ∧ okN n (s0 ++ s)
theorem Em.rf {K : Nat} {s0 : List Bool} {o : List Int32} (h : s0.length ≤ K) : Em K s0 s0 o o := ⟨[], rfl, fun x hx => absurd hx List.not_mem_nil, fun s hs => ⟨rfl, by show (s0 ++ s).length ≤ 24; rw [List.length_append]; omega⟩⟩
theorem Em.tr {K : Nat} {s0 s1 s2 : List Bool} {o o1 o2 : List Int32} (h : Em K s0 s1 o o1) (h2 : Em K s1 s2 o1 o2) : Em K s0 s2 o o2 := by
  obtain ⟨n, rfl, c1, e1⟩ := h
  obtain ⟨m, rfl, c2, e2⟩ := h2
  refine ⟨m ++ n, (List.append_assoc _ _ _).symm, fun x hx => ?_, fun s hs => ?_⟩
  · rcases List.mem_append.mp hx with z | z
    · exact c2 x z
    · exact c1 x z
  · obtain ⟨a1, a2⟩ := e1 s hs
    obtain ⟨b1, b2⟩ := e2 s hs
    exact ⟨(tyN_app a1).trans b1, okN_app a1 a2 b2⟩
/-- over something that lies below -/
theorem Em.up {K : Nat} {s0 s1 q : List Bool} {o o1 : List Int32} (h : Em K s0 s1 o o1) : Em (K + q.length) (s0 ++ q) (s1 ++ q) o o1 := by
  obtain ⟨n, e, c, f⟩ := h
  refine ⟨n, e, c, fun s hs => ?_⟩
  rw [List.append_assoc, List.append_assoc]
  exact f (q ++ s) (by rw [List.length_append]; omega)
theorem Em.mo {K K2 : Nat} {s0 s1 : List Bool} {o o1 : List Int32} (h : Em K s0 s1 o o1) (hk : K ≤ K2) : Em K2 s0 s1 o o1 := by
  obtain ⟨n, e, c, f⟩ := h
  exact ⟨n, e, c, fun s hs => f s (by omega)⟩
theorem Em.one {K : Nat} {s0 s1 : List Bool} {o : List Int32} {x : Int32} (hx : okC x) (ht : ∀ s, tyS x.toNatClampNeg (s0 ++ s) = some (s1 ++ s)) (h0 : s0.length ≤ K) (h1 : s1.length ≤ K) : Em K s0 s1 o (x :: o) := by
  refine ⟨[x], rfl, fun y hy => ?_, fun s hs => ⟨ht s, ⟨?_, s1 ++ s, ht s, ?_⟩⟩⟩
  · rw [List.mem_singleton.mp hy]
    exact hx
  · show (s0 ++ s).length ≤ 24
    rw [List.length_append]
    omega
  · rw [List.length_append]
    omega
variable {T : Nat → Int32} {e b : Nat} {o : List Int32}
/-- the tape holds bytes, so a number of three digits is less than 1000 -/
theorem nu_rng (hk : kd T e b = 2) (hv : ¬ vl T e b = -1) : ∃ m, m < 1000 ∧ vl T e b = nI m := by
  rw [vl_2 hk] at hv ⊢
  by_cases c : 3 < en T e b - b
  · rw [if_pos c] at hv
    exact absurd rfl hv
  rw [if_neg c]
  have dg : ∀ q, b ≤ q → q < en T e b → ∃ m, m < 10 ∧ T q - 48 = nI m := by
    intro q h1 h2
    rw [en_2 hk] at h2
    have h3 : 48 ≤ T q ∧ T q ≤ 57 := by
      have h4 := isK_kc (rn_all (T := T) (e := e) (k := 2) h1 h2)
      unfold kcF at h4
      by_cases c1 : T q = 32
      · rw [if_pos c1] at h4
        cases h4
      · rw [if_neg c1] at h4
        by_cases c2 : 97 ≤ T q ∧ T q ≤ 122
        · rw [if_pos c2] at h4
          cases h4
        · rw [if_neg c2] at h4
          by_cases c3 : 48 ≤ T q ∧ T q ≤ 57
          · exact c3
          · rw [if_neg c3] at h4
            cases h4
    have a1 := Int32.le_iff_toInt_le.mp h3.1
    have a2 := Int32.le_iff_toInt_le.mp h3.2
    rw [show (48 : Int32).toInt = 48 from rfl] at a1
    rw [show (57 : Int32).toInt = 57 from rfl] at a2
    refine ⟨(T q).toInt.toNat - 48, by omega, ?_⟩
    rw [← Int32.toInt_inj, nI_toInt (by omega), Int32.toInt_sub, show (48 : Int32).toInt = 48 from rfl, Int.bmod_eq_of_le (by omega) (by omega)]
    omega
  have key : ∀ j, b + j ≤ en T e b → ∃ m, m < 10 ^ j ∧ nuF T b j = nI m := by
    intro j
    induction j with
    | zero => exact fun _ => ⟨0, by decide, nI_0.symm⟩
    | succ j ih =>
      intro h1
      obtain ⟨m, hm, em⟩ := ih (by omega)
      obtain ⟨x, hx, ex⟩ := dg (b + j) (by omega) (by omega)
      refine ⟨m * 10 + x, by rw [Nat.pow_succ]; omega, ?_⟩
      show nuF T b j * 10 + T (b + j) - 48 = _
      rw [Int32.sub_eq_add_neg, Int32.add_assoc, ← Int32.sub_eq_add_neg, em, ex, show (10 : Int32) = nI 10 from rfl, nI_mul, nI_addl]
  have hge := en_ge (T := T) (e := e) (b := b)
  obtain ⟨m, hm, em⟩ := key (en T e b - b) (by omega)
  have : 10 ^ (en T e b - b) ≤ 10 ^ 3 := Nat.pow_le_pow_right (by decide) (by omega)
  exact ⟨m, by omega, em⟩
theorem wPa_ok : ∀ i, i < 28 → ¬ wPa i = -1 → ∃ c, c < 7 ∧ wPa i = nI (1000 + c) := by decide +kernel
theorem prt_ok (h : ¬ prt T e b = -1) : ∃ c, c < 1007 ∧ prt T e b = nI c := by
  unfold prt at h ⊢
  by_cases c2 : kd T e b = 2
  · rw [if_pos c2] at h ⊢
    obtain ⟨m, hm, em⟩ := nu_rng c2 h
    exact ⟨m, by omega, em⟩
  · rw [if_neg c2] at h ⊢
    by_cases c1 : kd T e b = 1
    · rw [if_pos c1] at h ⊢
      have := wd_le (T := T) (e := e) (b := b)
      obtain ⟨c, hc, ec⟩ := wPa_ok _ (by omega) h
      exact ⟨1000 + c, by omega, ec⟩
    · rw [if_neg c1] at h
      exact absurd rfl h
theorem prt_em {K : Nat} {s0 : List Bool} (h : ¬ prt T e b = -1) (hK : s0.length + 1 ≤ K) : Em K s0 (false :: s0) o (prt T e b :: o) := by
  obtain ⟨c, hc, ec⟩ := prt_ok h
  refine Em.one ⟨c, by omega, ec, by omega⟩ (fun s => ?_) (by omega) (by simp only [List.length_cons]; omega)
  rw [ec, nI_clamp (by omega)]
  unfold tyS
  rw [if_pos hc]
  rfl
theorem op_ok {c : Nat} (h : c < 6) : okC (nI (2000 + c)) := ⟨2000 + c, by omega, rfl, by omega⟩
theorem smL_em : ∀ (n b : Nat) (o : List Int32), e - b ≤ n → (smL T e b o).1 = true → Em 2 [false] [false] o (smL T e b o).2.2 := by
  intro n
  induction n with
  | zero =>
    intro b o h1 _
    have hf : sg T e b 43 = false := by
      cases hs : sg T e b 43 with
      | false => rfl
      | true => have := sg_lt hs; omega
    rw [smL_f hf]
    exact Em.rf (by decide)
  | succ n ih =>
    intro b o h1 hz
    cases hs : sg T e b 43 with
    | false =>
      rw [smL_f hs]
      exact Em.rf (by decide)
    | true =>
      have n1 := nx_lt (T := T) (sg_lt hs)
      have hb := sg_lt hs
      by_cases hp : prt T e (nx T e b) = -1
      · rw [smL_n hs hp] at hz
        cases hz
      · rw [smL_t hs hp] at hz ⊢
        have n3 := nx_lt (T := T) (prt_lt hp)
        refine Em.tr (Em.tr (prt_em hp (by decide)) ?_) (ih _ _ (by omega) hz)
        exact Em.one (op_ok (c := 0) (by decide)) (fun s => rfl) (by decide) (by decide)
theorem sumP_em (hz : (sumP T e b o).1 = true) : Em 2 [] [false] o (sumP T e b o).2.2 := by
  unfold sumP at hz ⊢
  by_cases hp : prt T e b = -1
  · rw [if_pos hp] at hz
    cases hz
  · rw [if_neg hp] at hz ⊢
    exact Em.tr (prt_em hp (by decide)) (smL_em _ _ _ (Nat.le_refl _) hz)
theorem cmpP_em {x : Int32} (hx : x = nI 2001 ∨ x = nI 2002) (hz : (cmpP T e x b o).1 = true) : Em 3 [false] [true] o (cmpP T e x b o).2.2 := by
  unfold cmpP at hz ⊢
  by_cases c : (sumP T e b o).1 = true
  · rw [if_pos c]
    refine Em.tr (Em.up (q := [false]) (sumP_em c)) ?_
    rcases hx with rfl | rfl
    · exact Em.one (op_ok (c := 1) (by decide)) (fun s => rfl) (by decide) (by decide)
    · exact Em.one (op_ok (c := 2) (by decide)) (fun s => rfl) (by decide) (by decide)
  · rw [if_neg c] at hz
    cases hz
theorem baseP_em (hz : (baseP T e b o).1 = true) : Em 3 [] [true] o (baseP T e b o).2.2 := by
  unfold baseP at hz ⊢
  by_cases c1 : isWd T e b 22 = true
  · rw [if_pos c1]
    exact Em.one ⟨1007, by decide, rfl, by decide⟩ (fun s => rfl) (by decide) (by decide)
  rw [if_neg c1] at hz ⊢
  by_cases c2 : isWd T e b 23 = true
  · rw [if_pos c2]
    exact Em.one ⟨1008, by decide, rfl, by decide⟩ (fun s => rfl) (by decide) (by decide)
  rw [if_neg c2] at hz ⊢
  by_cases c3 : (sumP T e b o).1 = true
  · rw [if_pos c3] at hz ⊢
    have h1 := Em.mo (K2 := 3) (sumP_em c3) (by decide)
    by_cases c4 : sg T e (sumP T e b o).2.1 60 = true
    · rw [if_pos c4] at hz ⊢
      exact Em.tr h1 (cmpP_em (Or.inl rfl) hz)
    rw [if_neg c4] at hz ⊢
    by_cases c5 : sg T e (sumP T e b o).2.1 62 = true
    · rw [if_pos c5] at hz ⊢
      exact Em.tr h1 (cmpP_em (Or.inr rfl) hz)
    rw [if_neg c5] at hz
    cases hz
  · rw [if_neg c3] at hz
    cases hz
def ItE (K : Nat) (item : Nat → List Int32 → PR) : Prop := ∀ b o, (item b o).1 = true → Em K [] [true] o (item b o).2.2
theorem loopP_em {item : Nat → List Int32 → PR} {K k c : Nat} (hc : c = 2004 ∨ c = 2005) (hi : ItE K item) (hK : 1 ≤ K) : ∀ (n b : Nat) (o : List Int32), e - b ≤ n → (loopP T e item k (nI c) b o).1 = true → Em (K + 1) [true] [true] o (loopP T e item k (nI c) b o).2.2 := by
  intro n
  induction n with
  | zero =>
    intro b o h1 _
    have hf : isWd T e b k = false := by
      cases hs : isWd T e b k with
      | false => rfl
      | true => have := isWd_lt hs; omega
    rw [loopP_f hf]
    exact Em.rf (by show 1 ≤ K + 1; omega)
  | succ n ih =>
    intro b o h1 hz
    cases hs : isWd T e b k with
    | false =>
      rw [loopP_f hs]
      exact Em.rf (by show 1 ≤ K + 1; omega)
    | true =>
      by_cases c1 : (item (nx T e b) o).1 = true
      · by_cases g : b < (item (nx T e b) o).2.1
        · have hb := isWd_lt hs
          rw [loopP_t hs g c1] at hz ⊢
          refine Em.tr (Em.tr (Em.up (q := [true]) (hi _ _ c1)) ?_) (ih _ _ (by omega) hz)
          rcases hc with rfl | rfl
          · exact Em.one (op_ok (c := 4) (by decide)) (fun s => rfl) (by show 2 ≤ K + 1; omega) (by show 1 ≤ K + 1; omega)
          · exact Em.one (op_ok (c := 5) (by decide)) (fun s => rfl) (by show 2 ≤ K + 1; omega) (by show 1 ≤ K + 1; omega)
        · rw [loopP, dif_pos hs, dif_neg g] at hz
          cases hz
      · rw [loopP_n hs c1] at hz
        cases hz
theorem seqP_em {item : Nat → List Int32 → PR} {K k c : Nat} (hc : c = 2004 ∨ c = 2005) (hi : ItE K item) (hK : 1 ≤ K) : ItE (K + 1) (seqP T e item k (nI c)) := by
  intro b o hz
  unfold seqP at hz ⊢
  by_cases c1 : (item b o).1 = true
  · rw [if_pos c1] at hz ⊢
    exact Em.tr (Em.mo (hi b o c1) (by omega)) (loopP_em hc hi hK _ _ _ (Nat.le_refl _) hz)
  · rw [if_neg c1] at hz
    cases hz
theorem cndP_em {item : Nat → List Int32 → PR} {K : Nat} (hi : ItE K item) (hK : 1 ≤ K) : ItE (K + 2) (cndP T e item) := seqP_em (c := 2005) (Or.inr rfl) (seqP_em (c := 2004) (Or.inl rfl) hi hK) (by omega)
theorem atomR_em : ∀ D, ItE (3 + 2 * D) (atomR T e D) := by
  intro D
  induction D with
  | zero =>
    intro b o hz
    unfold atomR at hz ⊢
    by_cases c : opn T e b = true
    · rw [if_pos c] at hz
      cases hz
    · rw [if_neg c] at hz ⊢
      exact baseP_em hz
  | succ D ih =>
    intro b o hz
    unfold atomR at hz ⊢
    by_cases c : sg T e b 40 = true
    · rw [if_pos c] at hz ⊢
      by_cases c1 : (cndP T e (atomR T e D) (nx T e b) o).1 = true
      · rw [if_pos c1] at hz ⊢
        by_cases c2 : sg T e (cndP T e (atomR T e D) (nx T e b) o).2.1 41 = true
        · rw [if_pos c2]
          exact Em.mo (cndP_em ih (by omega) _ _ c1) (by omega)
        · rw [if_neg c2] at hz
          cases hz
      · rw [if_neg c1] at hz
        cases hz
    · rw [if_neg c] at hz ⊢
      by_cases c1 : isWd T e b 21 = true
      · rw [if_pos c1] at hz ⊢
        by_cases c2 : (atomR T e D (nx T e b) o).1 = true
        · rw [if_pos c2]
          refine Em.tr (Em.mo (ih _ _ c2) (by omega)) ?_
          exact Em.one (op_ok (c := 3) (by decide)) (fun s => rfl) (by show 1 ≤ _; omega) (by show 1 ≤ _; omega)
        · rw [if_neg c2] at hz
          cases hz
      · rw [if_neg c1] at hz ⊢
        exact Em.mo (baseP_em hz) (by omega)
theorem condR_em : ItE 17 (condR T e 6) := cndP_em (atomR_em 6) (by decide)
/-- the code at a place, the latest at the end -/
def cdL : List Int32 → Nat → Int32
  | [], _ => 0
  | x :: r, i => if i = r.length then x else cdL r i
def cdN (o : List Int32) (i : Nat) : Nat := (cdL o i).toNatClampNeg
theorem cdL_app {n o : List Int32} {i : Nat} (h : i < o.length) : cdL (n ++ o) i = cdL o i := by
  induction n with
  | nil => rfl
  | cons x r ih =>
    show (if i = (r ++ o).length then x else cdL (r ++ o) i) = _
    rw [if_neg (by rw [List.length_append]; omega), ih]
theorem cdL_ok {o : List Int32} (h : ∀ x ∈ o, okC x) : ∀ i, i < o.length → okC (cdL o i) := by
  induction o with
  | nil => exact fun i hi => absurd hi (Nat.not_lt_zero _)
  | cons x r ih =>
    intro i hi
    have hi : i < r.length + 1 := hi
    by_cases c : i = r.length
    · rw [show cdL (x :: r) i = x from if_pos c]
      exact h x List.mem_cons_self
    · rw [show cdL (x :: r) i = cdL r i from if_neg c]
      exact ih (fun y hy => h y (List.mem_cons_of_mem _ hy)) i (by omega)
/-- what was emitted, as a row read from its first -/
theorem tyR_of {m : List Int32} : ∀ {n : List Int32}, (∀ s', tyN n [] = some s' → tyR (cdN (n ++ m)) m.length n.length = some s') ∧ (okN n [] → ∀ j, j ≤ n.length → ∃ t, tyR (cdN (n ++ m)) m.length j = some t ∧ t.length ≤ 24) := by
  intro n
  induction n with
  | nil =>
    refine ⟨fun s' h => h, fun h j hj => ?_⟩
    have hj : j ≤ 0 := hj
    obtain rfl : j = 0 := by omega
    exact ⟨[], rfl, by decide⟩
  | cons x r ih =>
    obtain ⟨i1, i2⟩ := ih
    have ec : ∀ i, i < r.length → cdN (x :: r ++ m) (m.length + i) = cdN (r ++ m) (m.length + i) := fun i hi => by
      unfold cdN
      rw [show cdL (x :: r ++ m) (m.length + i) = cdL (r ++ m) (m.length + i) from if_neg (show ¬ m.length + i = (r ++ m).length from by rw [List.length_append]; omega)]
    have el : cdN (x :: r ++ m) (m.length + r.length) = x.toNatClampNeg := by
      unfold cdN
      rw [show cdL (x :: r ++ m) (m.length + r.length) = x from if_pos (show m.length + r.length = (r ++ m).length from by rw [List.length_append]; omega)]
    have key : ∀ s', tyN (x :: r) [] = some s' → tyR (cdN (x :: r ++ m)) m.length (r.length + 1) = some s' := by
      intro s' h
      show (tyR _ _ r.length).bind _ = _
      rw [tyR_congr r.length ec, el]
      have h : (tyN r []).bind (tyS x.toNatClampNeg) = some s' := h
      cases ht : tyN r [] with
      | none =>
        rw [ht] at h
        cases h
      | some t =>
        rw [i1 t ht, ← h, ht]
    refine ⟨key, fun h j hj => ?_⟩
    have hj : j ≤ r.length + 1 := hj
    by_cases c : j = r.length + 1
    · subst c
      obtain ⟨t, e1, l⟩ := h.2
      exact ⟨t, key t e1, l⟩
    · obtain ⟨t, e1, l⟩ := i2 h.1 j (by omega)
      exact ⟨t, by rw [tyR_congr j (fun i hi => ec i (by omega))]; exact e1, l⟩
/-- the line at a place -/
def lnAt : List LnT → Nat → LnT
  | [], _ => (0, 0, 0, 0)
  | x :: r, i => if i = r.length then x else lnAt r i
/-- lines whose conditions are typed -/
def LsOk (o : List Int32) (ls : List LnT) : Prop := (∀ x ∈ o, okC x) ∧ ∀ i, i < ls.length → (lnAt ls i).2.2.1 ≤ (lnAt ls i).2.2.2 ∧ (lnAt ls i).2.2.2 ≤ o.length ∧ LineOk (cdN o) (lnAt ls i).2.2.1 ((lnAt ls i).2.2.2 - (lnAt ls i).2.2.1)
theorem LineOk.cdc {cd cd' : Nat → Nat} {a m : Nat} (h : LineOk cd a m) (e : ∀ i, i < m → cd (a + i) = cd' (a + i)) : LineOk cd' a m := LineOk.congr h e
theorem lnP_em (hz : (lnP T e b o).1 = true) : Em 17 [] [] o (lnP T e b o).2.2 ∨ Em 17 [] [true] o (lnP T e b o).2.2 := by
  unfold lnP at hz ⊢
  by_cases c1 : kndP T e b = -1
  · rw [if_pos c1] at hz
    cases hz
  rw [if_neg c1] at hz ⊢
  by_cases c2 : nm T e (nx T e b) 0 60 = -1
  · rw [if_pos c2] at hz
    cases hz
  rw [if_neg c2] at hz ⊢
  by_cases c3 : isWd T e (nx T e (nx T e b)) 18 = true
  · rw [if_pos c3] at hz ⊢
    exact Or.inr (condR_em _ _ hz)
  · rw [if_neg c3]
    exact Or.inl (Em.rf (by decide))
theorem LsOk.ad {ls : List LnT} {k v : Int32} {o1 : List Int32} (h : LsOk o ls) (hz : Em 17 [] [] o o1 ∨ Em 17 [] [true] o o1) : LsOk o1 ((k, v, o.length, o1.length) :: ls) := by
  obtain ⟨n, e1, c1, t1⟩ : ∃ n, o1 = n ++ o ∧ (∀ x ∈ n, okC x) ∧ ((tyN n [] = some [] ∨ tyN n [] = some [true]) ∧ okN n []) := by
    rcases hz with ⟨n, e1, c1, t1⟩ | ⟨n, e1, c1, t1⟩
    · obtain ⟨a1, a2⟩ := t1 [] (by decide)
      exact ⟨n, e1, c1, Or.inl a1, a2⟩
    · obtain ⟨a1, a2⟩ := t1 [] (by decide)
      exact ⟨n, e1, c1, Or.inr a1, a2⟩
  subst e1
  obtain ⟨h1, h2⟩ := h
  refine ⟨fun x hx => ?_, fun i hi => ?_⟩
  · rcases List.mem_append.mp hx with z | z
    · exact c1 x z
    · exact h1 x z
  · have hi : i < ls.length + 1 := hi
    have hl : (n ++ o).length = n.length + o.length := List.length_append
    by_cases c : i = ls.length
    · rw [show lnAt ((k, v, o.length, (n ++ o).length) :: ls) i = (k, v, o.length, (n ++ o).length) from if_pos c]
      refine ⟨by show o.length ≤ (n ++ o).length; omega, Nat.le_refl _, ?_⟩
      show LineOk (cdN (n ++ o)) o.length ((n ++ o).length - o.length)
      rw [show (n ++ o).length - o.length = n.length by omega]
      obtain ⟨r1, r2⟩ := tyR_of (m := o) (n := n)
      exact ⟨t1.1.imp (r1 []) (r1 [true]), r2 t1.2⟩
    · rw [show lnAt ((k, v, o.length, (n ++ o).length) :: ls) i = lnAt ls i from if_neg c]
      obtain ⟨g1, g2, g3⟩ := h2 i (by omega)
      refine ⟨g1, by omega, LineOk.cdc g3 fun j hj => ?_⟩
      unfold cdN
      rw [cdL_app (by omega)]
theorem lnsP_ok : ∀ (f b : Nat) (o : List Int32) (ls : List LnT), LsOk o ls → (lnsP T e f b o ls).1 = true → LsOk (lnsP T e f b o ls).2.2.1 (lnsP T e f b o ls).2.2.2 := by
  intro f
  induction f with
  | zero => exact fun b o ls _ z => by cases z
  | succ f ih =>
    intro b o ls h hz
    rw [lnsP_s] at hz ⊢
    by_cases c1 : (lnP T e b o).1 = true
    · rw [if_pos c1] at hz ⊢
      have h2 := LsOk.ad (k := kndP T e b) (v := nm T e (nx T e b) 0 60) h (lnP_em c1)
      by_cases c2 : (lnP T e b o).2.1 < e
      · rw [if_pos c2] at hz ⊢
        by_cases c3 : sg T e (lnP T e b o).2.1 59 = true
        · rw [if_pos c3] at hz ⊢
          exact ih _ _ _ h2 hz
        · rw [if_neg c3] at hz
          cases hz
      · rw [if_neg c2]
        exact h2
    · rw [if_neg c1] at hz
      cases hz
theorem lawP_ok (hz : (lawP T e).1 = true) : LsOk (lawP T e).2.2.1 (lawP T e).2.2.2 := by
  have h0 : LsOk [] [] := ⟨fun x hx => absurd hx List.not_mem_nil, fun i hi => absurd hi (Nat.not_lt_zero _)⟩
  unfold lawP at hz ⊢
  by_cases c : bg T e 0 < e
  · rw [if_pos c] at hz ⊢
    exact lnsP_ok _ _ _ _ h0 hz
  · rw [if_neg c]
    exact h0
end P78b
