/-! ===== a street as a row of numbers; what a text of the street says ===== -/
section P79m
def ud (W : Nat → Int32) (k : Nat) (v : Int32) : Nat → Int32 := fun j => if j = k then v else W j
theorem ud_at {W : Nat → Int32} {k : Nat} {v : Int32} : ud W k v k = v := if_pos rfl
theorem ud_ne {W : Nat → Int32} {k j : Nat} {v : Int32} (h : j ≠ k) : ud W k v j = W j := if_neg h
theorem up2_ud {I : Nat → Nat → Int32} {p k : Nat} {v : Int32} : up2 I p k v p = ud (I p) k v := by
  funext j
  by_cases c : j = k
  · rw [c, up2_at, ud_at]
  · rw [up2_ne (Or.inr c), ud_ne c]
/-- a street's own fields: where they lie in the row -/
def flds : List (Nat × Nat) := [(0, 0), (3, 1), (16, 2), (10, 4), (11, 5), (12, 6), (13, 7), (14, 8), (15, 10)]
theorem flds_in : ∀ x ∈ flds, x.2 < 11 ∧ ∀ y ∈ flds, x.1 = y.1 → x.2 = y.2 := by decide
theorem flds_ni : ∀ x ∈ flds, ∀ y ∈ flds, x.2 = y.2 → x.1 = y.1 := by decide
/-- the street at a is the one that the row tells -/
def Sd (I : Nat → Nat → Int32) (a : Nat) (W : Nat → Int32) : Prop := (∀ x ∈ flds, I a x.1 = W x.2) ∧ (∀ p, p < 6 → I (a + 1) p = W (11 + 2 * p) ∧ I (a + 2) p = W (11 + 2 * p + 1)) ∧ ∀ d, d < 12 → ∀ k, k < 6 → I (a + 3 + k) d = W (23 + 6 * d + k)
theorem Sd.fd {I : Nat → Nat → Int32} {a : Nat} {W : Nat → Int32} (h : Sd I a W) {f g : Nat} (hm : (f, g) ∈ flds) : I a f = W g := h.1 (f, g) hm
theorem Sd.eq {I J : Nat → Nat → Int32} {a : Nat} {W : Nat → Int32} (h : Sd I a W) (f : ∀ q, a ≤ q → q ≤ a + 8 → J q = I q) : Sd J a W := by
  obtain ⟨h1, h2, h3⟩ := h
  refine ⟨fun x hx => ?_, fun p hp => ?_, fun d hd k hk => ?_⟩
  · rw [f a (by omega) (by omega)]
    exact h1 x hx
  · rw [f (a + 1) (by omega) (by omega), f (a + 2) (by omega) (by omega)]
    exact h2 p hp
  · rw [f (a + 3 + k) (by omega) (by omega)]
    exact h3 d hd k hk
theorem Sd.pu {I : Nat → Nat → Int32} {a f g : Nat} {W : Nat → Int32} {v : Int32} (h : Sd I a W) (hm : (f, g) ∈ flds) : Sd (up2 I a f v) a (ud W g v) := by
  obtain ⟨h1, h2, h3⟩ := h
  have hg : g < 11 := (flds_in _ hm).1
  refine ⟨fun x hx => ?_, fun p hp => ?_, fun d hd k hk => ?_⟩
  · by_cases c : x.1 = f
    · rw [c, up2_at, show x.2 = g from (flds_in x hx).2 _ hm c, ud_at]
    · rw [up2_ne (Or.inr c), ud_ne (fun z => c (flds_ni x hx _ hm z))]
      exact h1 x hx
  · rw [up2_row (by omega), up2_row (by omega), ud_ne (by omega), ud_ne (by omega)]
    exact h2 p hp
  · rw [up2_row (by omega), ud_ne (by omega)]
    exact h3 d hd k hk
theorem Sd.kb {I : Nat → Nat → Int32} {a p : Nat} {W : Nat → Int32} {v : Int32} (h : Sd I a W) (hp : p < 6) : Sd (up2 I (a + 1) p v) a (ud W (11 + 2 * p) v) := by
  obtain ⟨h1, h2, h3⟩ := h
  refine ⟨fun x hx => ?_, fun q hq => ?_, fun d hd k hk => ?_⟩
  · have := (flds_in x hx).1
    rw [up2_row (by omega), ud_ne (by omega)]
    exact h1 x hx
  · rw [up2_row (p := a + 1) (q := a + 2) (by omega), ud_ne (j := 11 + 2 * q + 1) (by omega)]
    refine ⟨?_, (h2 q hq).2⟩
    by_cases c : q = p
    · rw [c, up2_at, ud_at]
    · rw [up2_ne (Or.inr c), ud_ne (by omega)]
      exact (h2 q hq).1
  · rw [up2_row (by omega), ud_ne (by omega)]
    exact h3 d hd k hk
theorem Sd.fr {I : Nat → Nat → Int32} {a p : Nat} {W : Nat → Int32} {v : Int32} (h : Sd I a W) (hp : p < 6) : Sd (up2 I (a + 2) p v) a (ud W (11 + 2 * p + 1) v) := by
  obtain ⟨h1, h2, h3⟩ := h
  refine ⟨fun x hx => ?_, fun q hq => ?_, fun d hd k hk => ?_⟩
  · have := (flds_in x hx).1
    rw [up2_row (by omega), ud_ne (by omega)]
    exact h1 x hx
  · rw [up2_row (p := a + 2) (q := a + 1) (by omega), ud_ne (j := 11 + 2 * q) (by omega)]
    refine ⟨(h2 q hq).1, ?_⟩
    by_cases c : q = p
    · rw [c, up2_at, ud_at]
    · rw [up2_ne (Or.inr c), ud_ne (by omega)]
      exact (h2 q hq).2
  · rw [up2_row (by omega), ud_ne (by omega)]
    exact h3 d hd k hk
theorem Sd.ro {I : Nat → Nat → Int32} {a d k : Nat} {W : Nat → Int32} {v : Int32} (h : Sd I a W) (hd : d < 12) (hk : k < 6) : Sd (up2 I (a + 3 + k) d v) a (ud W (23 + 6 * d + k) v) := by
  obtain ⟨h1, h2, h3⟩ := h
  refine ⟨fun x hx => ?_, fun q hq => ?_, fun d' hd' k' hk' => ?_⟩
  · have := (flds_in x hx).1
    rw [up2_row (by omega), ud_ne (by omega)]
    exact h1 x hx
  · rw [up2_row (by omega), up2_row (by omega), ud_ne (by omega), ud_ne (by omega)]
    exact h2 q hq
  · by_cases c : d' = d ∧ k' = k
    · rw [c.1, c.2, up2_at, ud_at]
    · rw [up2_ne (by omega), ud_ne (by omega)]
      exact h3 d' hd' k' hk'
/-- how many -/
def pn (W : Nat → Int32) : Nat := (W 0).toNatClampNeg
def dn (W : Nat → Int32) : Nat := (W 1).toNatClampNeg
def WOk (W : Nat → Int32) : Prop := pn W ≤ 6 ∧ dn W ≤ 12 ∧ W 0 = nI (pn W) ∧ W 1 = nI (dn W)
theorem WOk.of {W : Nat → Int32} {np nd : Nat} (hp : np ≤ 6) (hd : nd ≤ 12) (h0 : W 0 = nI np) (h1 : W 1 = nI nd) : WOk W ∧ pn W = np ∧ dn W = nd := by
  have e0 : pn W = np := by unfold pn; rw [h0, nI_clamp (by omega)]
  have e1 : dn W = nd := by unfold dn; rw [h1, nI_clamp (by omega)]
  exact ⟨⟨by omega, by omega, by rw [e0]; exact h0, by rw [e1]; exact h1⟩, e0, e1⟩
theorem WOk.eq {W W' : Nat → Int32} (h : WOk W) (e0 : W' 0 = W 0) (e1 : W' 1 = W 1) : WOk W' := by
  obtain ⟨h1, h2, h3, h4⟩ := h
  exact (WOk.of h1 h2 (e0.trans h3) (e1.trans h4)).1
abbrev SR : Type := Bool × Nat × (Nat → Int32)
/-- a number behind a word; where what is next begins then, or what is wrong -/
def nbP (T : Nat → Int32) (e k : Nat) (lo hi : Int32) (b : Nat) : Int32 × Nat := if isWd T e b k = true then (if nm T e (nx T e b) lo hi = -1 then (-1, nx T e b) else (nm T e (nx T e b) lo hi, nx T e (nx T e b))) else (-1, b)
def optP (T : Nat → Int32) (e k : Nat) (lo hi d : Int32) (b : Nat) : Bool × Int32 × Nat := if isWd T e b k = true then (if nm T e (nx T e b) lo hi = -1 then (false, -1, nx T e b) else (true, nm T e (nx T e b) lo hi, nx T e (nx T e b))) else (true, d, b)
def addPs (W : Nat → Int32) (x y : Int32) : Nat → Int32 := ud (ud (ud W (11 + 2 * pn W) x) (11 + 2 * pn W + 1) y) 0 (nI (pn W + 1))
def addDt (W : Nat → Int32) (o l a t n : Int32) : Nat → Int32 := ud (ud (ud (ud (ud (ud (ud W (23 + 6 * dn W + 0) o) (23 + 6 * dn W + 1) l) (23 + 6 * dn W + 2) a) (23 + 6 * dn W + 3) t) (23 + 6 * dn W + 4) n) (23 + 6 * dn W + 5) 0) 1 (nI (dn W + 1))
def perC (W : Nat → Int32) (k : Int32) (y : Int32 × Nat) : SR := if y.1 = -1 then (false, y.2, W) else (true, y.2, addPs W k y.1)
def perB (T : Nat → Int32) (e : Nat) (W : Nat → Int32) (x : Int32 × Nat) : SR := if x.1 = -1 then (false, x.2, W) else perC W x.1 (nbP T e 2 0 9 x.2)
def perP (T : Nat → Int32) (e b : Nat) (W : Nat → Int32) : SR := if W 0 = 6 then (false, b, W) else perB T e W (nbP T e 1 0 15 (nx T e b))
def duE (W : Nat → Int32) (o l a t : Int32) (y : Bool × Int32 × Nat) : SR := if y.1 = true then (true, y.2.2, addDt W o l a t y.2.1) else (false, y.2.2, W)
def duD (T : Nat → Int32) (e : Nat) (W : Nat → Int32) (o l a : Int32) (y : Bool × Int32 × Nat) : SR := if y.1 = true then duE W o l a y.2.1 (optP T e 8 0 (W 1 - 1) (-1) y.2.2) else (false, y.2.2, W)
def duC (T : Nat → Int32) (e : Nat) (W : Nat → Int32) (o l : Int32) (y : Bool × Int32 × Nat) : SR := if y.1 = true then duD T e W o l y.2.1 (optP T e 7 0 5 (-1) y.2.2) else (false, y.2.2, W)
def duB (T : Nat → Int32) (e : Nat) (W : Nat → Int32) (o : Int32) (x : Int32 × Nat) : SR := if x.1 = -1 then (false, x.2, W) else duC T e W o x.1 (optP T e 6 0 99 0 x.2)
def duA (T : Nat → Int32) (e : Nat) (W : Nat → Int32) (x : Int32 × Nat) : SR := if x.1 = -1 then (false, x.2, W) else duB T e W x.1 (nbP T e 5 1 99 x.2)
def dutP (T : Nat → Int32) (e b : Nat) (W : Nat → Int32) : SR := if W 1 = 12 then (false, b, W) else duA T e W (nbP T e 4 0 (W 0 - 1) (nx T e b))
def forP (T : Nat → Int32) (e b : Nat) (W : Nat → Int32) : SR := if nm T e b 0 (W 1 - 1) = -1 then (false, b, W) else if W (23 + 6 * (nm T e b 0 (W 1 - 1)).toNatClampNeg + 5) = 0 then (true, nx T e b, ud W (23 + 6 * (nm T e b 0 (W 1 - 1)).toNatClampNeg + 5) 2) else (false, b, W)
def setP (T : Nat → Int32) (e b : Nat) (W : Nat → Int32) (g : Nat) (lo hi : Int32) : SR := if nm T e b lo hi = -1 then (false, b, W) else (true, nx T e b, ud W g (nm T e b lo hi))
def stgP (T : Nat → Int32) (e b : Nat) (W : Nat → Int32) : SR :=
  if isWd T e b 10 = true then setP T e (nx T e b) W 6 0 100 else if isWd T e b 11 = true then setP T e (nx T e b) W 7 1 9 else if isWd T e b 12 = true then setP T e (nx T e b) W 8 0 50 else
  if isWd T e b 13 = true then setP T e (nx T e b) W 4 1 30 else if isWd T e b 14 = true then setP T e (nx T e b) W 5 0 999 else (false, b, W)
def linP (T : Nat → Int32) (e b : Nat) (W : Nat → Int32) : SR :=
  if isWd T e b 0 = true then perP T e b W else if isWd T e b 3 = true then dutP T e b W else if isWd T e b 9 = true then forP T e (nx T e b) W else
  stgP T e b W
def strsP (T : Nat → Int32) (e : Nat) : Nat → Nat → (Nat → Int32) → SR
  | 0, b, W => (false, b, W)
  | f + 1, b, W =>
    if (linP T e b W).1 = true then
      (if (linP T e b W).2.1 < e then
        (if sg T e (linP T e b W).2.1 59 = true then strsP T e f (nx T e (linP T e b W).2.1) (linP T e b W).2.2 else (false, (linP T e b W).2.1, W))
       else (true, (linP T e b W).2.1, (linP T e b W).2.2))
    else (false, (linP T e b W).2.1, W)
def strP (T : Nat → Int32) (e : Nat) (W : Nat → Int32) : SR := if bg T e 0 < e then strsP T e 14 (bg T e 0) W else (true, bg T e 0, W)
variable {T : Nat → Int32} {e b : Nat} {W : Nat → Int32}
theorem strsP_s {f : Nat} : strsP T e (f + 1) b W =
    if (linP T e b W).1 = true then
      (if (linP T e b W).2.1 < e then
        (if sg T e (linP T e b W).2.1 59 = true then strsP T e f (nx T e (linP T e b W).2.1) (linP T e b W).2.2 else (false, (linP T e b W).2.1, W))
       else (true, (linP T e b W).2.1, (linP T e b W).2.2))
    else (false, (linP T e b W).2.1, W) := rfl
theorem nm_in {lo hi : Int32} (h : ¬ nm T e b lo hi = -1) : lo ≤ nm T e b lo hi ∧ nm T e b lo hi ≤ hi ∧ kd T e b = 2 ∧ nm T e b lo hi = vl T e b := by
  unfold nm at h ⊢
  by_cases c : kd T e b = 2 ∧ lo ≤ vl T e b ∧ vl T e b ≤ hi
  · rw [if_pos c]
    exact ⟨c.2.1, c.2.2, c.1, rfl⟩
  · rw [if_neg c] at h
    exact absurd rfl h
/-- a number below so many -/
theorem nm_ix {n : Nat} (hn : n ≤ 12) (h : ¬ nm T e b 0 (nI n - 1) = -1) : ∃ j, j < n ∧ nm T e b 0 (nI n - 1) = nI j := by
  obtain ⟨h1, h2, -, -⟩ := nm_in h
  generalize nm T e b 0 (nI n - 1) = v at h1 h2
  rcases n with _ | n
  · exfalso
    exact absurd (Int32.le_trans h1 h2) (by decide)
  · rw [nI_dec, Int32.le_iff_toInt_le, nI_toInt (by omega)] at h2
    rw [Int32.le_iff_toInt_le, show (0 : Int32).toInt = 0 from rfl] at h1
    refine ⟨v.toInt.toNat, by omega, ?_⟩
    rw [← Int32.toInt_inj, nI_toInt (by omega)]
    omega
theorem nbP_t {k : Nat} {lo hi : Int32} (h : isWd T e b k = true) : nbP T e k lo hi b = if nm T e (nx T e b) lo hi = -1 then (-1, nx T e b) else (nm T e (nx T e b) lo hi, nx T e (nx T e b)) := if_pos h
theorem nbP_f {k : Nat} {lo hi : Int32} (h : isWd T e b k = false) : nbP T e k lo hi b = (-1, b) := if_neg (by rw [h]; exact Bool.false_ne_true)
theorem addPs_ok (h : WOk W) (h6 : ¬ W 0 = 6) {x y : Int32} : WOk (addPs W x y) := by
  obtain ⟨h1, h2, h3, h4⟩ := h
  have : pn W ≠ 6 := fun z => h6 (by rw [h3, z]; rfl)
  refine (WOk.of (np := pn W + 1) (nd := dn W) (by omega) h2 ud_at ?_).1
  show ud (ud (ud W (11 + 2 * pn W) x) (11 + 2 * pn W + 1) y) 0 (nI (pn W + 1)) 1 = _
  rw [ud_ne (by decide), ud_ne (by omega), ud_ne (by omega)]
  exact h4
theorem addDt_ok (h : WOk W) (h6 : ¬ W 1 = 12) {o l a t n : Int32} : WOk (addDt W o l a t n) := by
  obtain ⟨h1, h2, h3, h4⟩ := h
  have : dn W ≠ 12 := fun z => h6 (by rw [h4, z]; rfl)
  refine (WOk.of (np := pn W) (nd := dn W + 1) h1 (by omega) ?_ ud_at).1
  rw [ud_ne (by decide), ud_ne (by omega), ud_ne (by omega), ud_ne (by omega), ud_ne (by omega), ud_ne (by omega), ud_ne (by omega)]
  exact h3
theorem ud_ok (h : WOk W) {g : Nat} {v : Int32} (hg : 2 ≤ g) : WOk (ud W g v) := h.eq (ud_ne (by omega)) (ud_ne (by omega))
theorem perP_ok (h : WOk W) (hz : (perP T e b W).1 = true) : WOk (perP T e b W).2.2 := by
  unfold perP at hz ⊢
  by_cases c : W 0 = 6
  · rw [if_pos c] at hz
    cases hz
  rw [if_neg c] at hz ⊢
  unfold perB at hz ⊢
  by_cases c2 : (nbP T e 1 0 15 (nx T e b)).1 = -1
  · rw [if_pos c2] at hz
    cases hz
  rw [if_neg c2] at hz ⊢
  unfold perC at hz ⊢
  by_cases c3 : (nbP T e 2 0 9 (nbP T e 1 0 15 (nx T e b)).2).1 = -1
  · rw [if_pos c3] at hz
    cases hz
  rw [if_neg c3] at hz ⊢
  exact addPs_ok h c
theorem dutP_ok (h : WOk W) (hz : (dutP T e b W).1 = true) : WOk (dutP T e b W).2.2 := by
  unfold dutP at hz ⊢
  by_cases c : W 1 = 12
  · rw [if_pos c] at hz
    cases hz
  rw [if_neg c] at hz ⊢
  generalize nbP T e 4 0 (W 0 - 1) (nx T e b) = x at hz ⊢
  unfold duA at hz ⊢
  by_cases c2 : x.1 = -1
  · rw [if_pos c2] at hz
    cases hz
  rw [if_neg c2] at hz ⊢
  generalize nbP T e 5 1 99 x.2 = y at hz ⊢
  unfold duB at hz ⊢
  by_cases c3 : y.1 = -1
  · rw [if_pos c3] at hz
    cases hz
  rw [if_neg c3] at hz ⊢
  generalize optP T e 6 0 99 0 y.2 = u at hz ⊢
  unfold duC at hz ⊢
  by_cases c4 : u.1 = true
  · rw [if_pos c4] at hz ⊢
    generalize optP T e 7 0 5 (-1) u.2.2 = v at hz ⊢
    unfold duD at hz ⊢
    by_cases c5 : v.1 = true
    · rw [if_pos c5] at hz ⊢
      generalize optP T e 8 0 (W 1 - 1) (-1) v.2.2 = w at hz ⊢
      unfold duE at hz ⊢
      by_cases c6 : w.1 = true
      · rw [if_pos c6] at hz ⊢
        exact addDt_ok h c
      · rw [if_neg c6] at hz
        cases hz
    · rw [if_neg c5] at hz
      cases hz
  · rw [if_neg c4] at hz
    cases hz
theorem forP_ok (h : WOk W) (hz : (forP T e b W).1 = true) : WOk (forP T e b W).2.2 := by
  unfold forP at hz ⊢
  by_cases c : nm T e b 0 (W 1 - 1) = -1
  · rw [if_pos c] at hz
    cases hz
  rw [if_neg c] at hz ⊢
  by_cases c2 : W (23 + 6 * (nm T e b 0 (W 1 - 1)).toNatClampNeg + 5) = 0
  · rw [if_pos c2]
    exact ud_ok h (by omega)
  · rw [if_neg c2] at hz
    cases hz
theorem setP_ok (h : WOk W) {g : Nat} {lo hi : Int32} (hg : 2 ≤ g) (hz : (setP T e b W g lo hi).1 = true) : WOk (setP T e b W g lo hi).2.2 := by
  unfold setP at hz ⊢
  by_cases c : nm T e b lo hi = -1
  · rw [if_pos c] at hz
    cases hz
  rw [if_neg c]
  exact ud_ok h hg
theorem stgP_ok (h : WOk W) (hz : (stgP T e b W).1 = true) : WOk (stgP T e b W).2.2 := by
  unfold stgP at hz ⊢
  by_cases c : isWd T e b 10 = true
  · rw [if_pos c] at hz ⊢; exact setP_ok h (by decide) hz
  rw [if_neg c] at hz ⊢
  by_cases c : isWd T e b 11 = true
  · rw [if_pos c] at hz ⊢; exact setP_ok h (by decide) hz
  rw [if_neg c] at hz ⊢
  by_cases c : isWd T e b 12 = true
  · rw [if_pos c] at hz ⊢; exact setP_ok h (by decide) hz
  rw [if_neg c] at hz ⊢
  by_cases c : isWd T e b 13 = true
  · rw [if_pos c] at hz ⊢; exact setP_ok h (by decide) hz
  rw [if_neg c] at hz ⊢
  by_cases c : isWd T e b 14 = true
  · rw [if_pos c] at hz ⊢; exact setP_ok h (by decide) hz
  rw [if_neg c] at hz
  cases hz
theorem linP_ok (h : WOk W) (hz : (linP T e b W).1 = true) : WOk (linP T e b W).2.2 := by
  unfold linP at hz ⊢
  by_cases c : isWd T e b 0 = true
  · rw [if_pos c] at hz ⊢; exact perP_ok h hz
  rw [if_neg c] at hz ⊢
  by_cases c : isWd T e b 3 = true
  · rw [if_pos c] at hz ⊢; exact dutP_ok h hz
  rw [if_neg c] at hz ⊢
  by_cases c : isWd T e b 9 = true
  · rw [if_pos c] at hz ⊢; exact forP_ok h hz
  rw [if_neg c] at hz ⊢
  exact stgP_ok h hz
end P79m
