/-! ===== texts as functions: signs, tokens, values ===== -/
section P75
/-- a sign's kind: 4 a blank, 1 a letter, 2 a digit, 3 another -/
def kcF (x : Int32) : Nat := if x = 32 then 4 else if 97 ≤ x ∧ x ≤ 122 then 1 else if 48 ≤ x ∧ x ≤ 57 then 2 else 3
def isK (T : Nat → Int32) (e k p : Nat) : Bool := decide (p < e ∧ kcF (T p) = k)
def rnA (T : Nat → Int32) (e k : Nat) : Nat → Nat → Nat
  | 0, p => p
  | m + 1, p => if isK T e k p = true then rnA T e k m (p + 1) else p
/-- as far as signs of a kind go on -/
def rn (T : Nat → Int32) (e k p : Nat) : Nat := rnA T e k (e - p) p
def kd (T : Nat → Int32) (e b : Nat) : Nat := if b < e then kcF (T b) else 0
def en (T : Nat → Int32) (e b : Nat) : Nat := if kd T e b = 0 then b else if kd T e b = 1 then rn T e 1 b else if kd T e b = 2 then rn T e 2 b else b + 1
/-- where the thing behind begins -/
def nx (T : Nat → Int32) (e b : Nat) : Nat := rn T e 4 (en T e b)
def bg (T : Nat → Int32) (e : Nat) : Nat → Nat
  | 0 => rn T e 4 0
  | j + 1 => nx T e (bg T e j)
variable {T : Nat → Int32} {e k p b : Nat}
theorem isK_t (h1 : p < e) (h2 : kcF (T p) = k) : isK T e k p = true := decide_eq_true ⟨h1, h2⟩
theorem isK_lt (h : isK T e k p = true) : p < e := (of_decide_eq_true h).1
theorem isK_kc (h : isK T e k p = true) : kcF (T p) = k := (of_decide_eq_true h).2
theorem isK_f (h : ¬ (p < e ∧ kcF (T p) = k)) : isK T e k p = false := decide_eq_false h
theorem rn_t (h : isK T e k p = true) : rn T e k p = rn T e k (p + 1) := by
  have hp := isK_lt h
  unfold rn
  obtain ⟨m, hm⟩ : ∃ m, e - p = m + 1 := ⟨e - p - 1, by omega⟩
  rw [hm, show e - (p + 1) = m by omega]
  exact if_pos h
theorem rn_f (h : isK T e k p = false) : rn T e k p = p := by
  unfold rn
  generalize e - p = m
  cases m with
  | zero => rfl
  | succ m => exact if_neg (by rw [h]; decide)
theorem rnA_ge : ∀ m p, p ≤ rnA T e k m p := by
  intro m
  induction m with
  | zero => exact fun p => Nat.le_refl p
  | succ m ih =>
    intro p
    by_cases c : isK T e k p = true
    · have h := ih (p + 1)
      rw [show rnA T e k (m + 1) p = rnA T e k m (p + 1) from if_pos c]
      omega
    · rw [show rnA T e k (m + 1) p = p from if_neg c]
      exact Nat.le_refl p
theorem rnA_le : ∀ m p, p ≤ e → rnA T e k m p ≤ e := by
  intro m
  induction m with
  | zero => exact fun p h => h
  | succ m ih =>
    intro p hp
    by_cases c : isK T e k p = true
    · rw [show rnA T e k (m + 1) p = rnA T e k m (p + 1) from if_pos c]
      exact ih (p + 1) (isK_lt c)
    · rw [show rnA T e k (m + 1) p = p from if_neg c]
      exact hp
theorem rnA_st : ∀ m p, e - p ≤ m → isK T e k (rnA T e k m p) = false := by
  intro m
  induction m with
  | zero =>
    intro p h
    exact isK_f (fun z => by have := z.1; have : p < e := z.1; omega)
  | succ m ih =>
    intro p h
    by_cases c : isK T e k p = true
    · rw [show rnA T e k (m + 1) p = rnA T e k m (p + 1) from if_pos c]
      exact ih (p + 1) (by omega)
    · rw [show rnA T e k (m + 1) p = p from if_neg c]
      exact Bool.eq_false_iff.mpr c
theorem rnA_all : ∀ m p q, p ≤ q → q < rnA T e k m p → isK T e k q = true := by
  intro m
  induction m with
  | zero =>
    intro p q h1 h2
    exact absurd h2 (Nat.not_lt.mpr h1)
  | succ m ih =>
    intro p q h1 h2
    by_cases c : isK T e k p = true
    · rw [show rnA T e k (m + 1) p = rnA T e k m (p + 1) from if_pos c] at h2
      by_cases c2 : q = p
      · rw [c2]
        exact c
      · exact ih (p + 1) q (by omega) h2
    · rw [show rnA T e k (m + 1) p = p from if_neg c] at h2
      exact absurd h2 (Nat.not_lt.mpr h1)
theorem rn_ge : p ≤ rn T e k p := rnA_ge _ _
theorem rn_le (h : p ≤ e) : rn T e k p ≤ e := rnA_le _ _ h
theorem rn_st : isK T e k (rn T e k p) = false := rnA_st _ _ (Nat.le_refl _)
theorem rn_all {q : Nat} (h1 : p ≤ q) (h2 : q < rn T e k p) : isK T e k q = true := rnA_all _ _ q h1 h2
theorem rn_rn : rn T e k (rn T e k p) = rn T e k p := rn_f rn_st
theorem rn_e (h : ¬ p < e) : rn T e k p = p := rn_f (isK_f fun z => h z.1)
theorem rn_nk {k2 : Nat} (h : isK T e k2 p = true) (hk : k ≠ k2) : rn T e k p = p := rn_f (isK_f fun z => hk (z.2.symm.trans (isK_kc h)))
theorem kc_cases (x : Int32) : kcF x = 1 ∨ kcF x = 2 ∨ kcF x = 3 ∨ kcF x = 4 := by
  unfold kcF
  by_cases c1 : x = 32
  · rw [if_pos c1]
    omega
  · rw [if_neg c1]
    by_cases c2 : 97 ≤ x ∧ x ≤ 122
    · rw [if_pos c2]
      omega
    · rw [if_neg c2]
      by_cases c3 : 48 ≤ x ∧ x ≤ 57
      · rw [if_pos c3]
        omega
      · rw [if_neg c3]
        omega
theorem kd_lt (h : b < e) : kd T e b = kcF (T b) := if_pos h
theorem kd_ge (h : ¬ b < e) : kd T e b = 0 := if_neg h
theorem kd_in (h : kd T e b ≠ 0) : b < e := by
  by_cases c : b < e
  · exact c
  · exact absurd (kd_ge c) h
theorem kd_0 (h : kd T e b = 0) : ¬ b < e := fun c => by
  rw [kd_lt c] at h
  rcases kc_cases (T b) with z | z | z | z <;> omega
theorem kd_isK (h0 : k ≠ 0) (h : kd T e b = k) : isK T e k b = true := by
  have hb := kd_in (T := T) (e := e) (b := b) (by omega)
  exact isK_t hb (by rw [← kd_lt hb]; exact h)
theorem en_0 (h : ¬ b < e) : en T e b = b := if_pos (kd_ge h)
theorem en_1 (h : kd T e b = 1) : en T e b = rn T e 1 b := by
  unfold en
  rw [h]
  rfl
theorem en_2 (h : kd T e b = 2) : en T e b = rn T e 2 b := by
  unfold en
  rw [h]
  rfl
theorem en_3 (h : kd T e b = 3) : en T e b = b + 1 := by
  unfold en
  rw [h]
  rfl
theorem en_lt (h : b < e) : b < en T e b := by
  rcases kc_cases (T b) with z | z | z | z <;> rw [← kd_lt h] at z
  · rw [en_1 z, rn_t (kd_isK (by decide) z)]
    exact rn_ge
  · rw [en_2 z, rn_t (kd_isK (by decide) z)]
    exact rn_ge
  · rw [en_3 z]
    omega
  · unfold en
    rw [z]
    exact Nat.lt_succ_self b
theorem en_ge : b ≤ en T e b := by
  by_cases c : b < e
  · exact Nat.le_of_lt (en_lt c)
  · rw [en_0 c]
    exact Nat.le_refl b
theorem en_le (h : b ≤ e) : en T e b ≤ e := by
  by_cases c : b < e
  · rcases kc_cases (T b) with z | z | z | z <;> rw [← kd_lt c] at z
    · rw [en_1 z]
      exact rn_le h
    · rw [en_2 z]
      exact rn_le h
    · rw [en_3 z]
      omega
    · unfold en
      rw [z]
      show b + 1 ≤ e
      omega
  · rw [en_0 c]
    exact h
theorem nx_lt (h : b < e) : b < nx T e b := Nat.lt_of_lt_of_le (en_lt h) rn_ge
theorem nx_ge : b ≤ nx T e b := Nat.le_trans en_ge rn_ge
theorem nx_le (h : b ≤ e) : nx T e b ≤ e := rn_le (en_le h)
theorem nx_e (h : ¬ b < e) : nx T e b = b := by
  unfold nx
  rw [en_0 h, rn_e h]
theorem nx_sk : rn T e 4 (nx T e b) = nx T e b := rn_rn
theorem bg_sk : ∀ j, rn T e 4 (bg T e j) = bg T e j := by
  intro j
  cases j with
  | zero => exact rn_rn
  | succ j => exact rn_rn
theorem bg_le : ∀ j, bg T e j ≤ e := by
  intro j
  induction j with
  | zero => exact rn_le (Nat.zero_le _)
  | succ j ih => exact nx_le ih
theorem bg_ge : ∀ j, (∀ i, i < j → bg T e i < e) → j ≤ bg T e j := by
  intro j
  induction j with
  | zero => exact fun _ => Nat.zero_le _
  | succ j ih =>
    intro h
    have h1 := ih fun i hi => h i (by omega)
    have h2 := nx_lt (T := T) (h j (by omega))
    show j + 1 ≤ nx T e (bg T e j)
    omega
/-- behind blanks there is none -/
theorem sk_kd (h : rn T e 4 b = b) : kd T e b ≠ 4 := fun z => by
  have h2 := rn_st (T := T) (e := e) (k := 4) (p := b)
  rw [h, kd_isK (by decide) z] at h2
  cases h2
/-- the text of a word stands there -/
def isW (T : Nat → Int32) (b l k : Nat) : Bool := decide (l = wLen k ∧ ∀ j, j < wLen k → T (b + j) = wC k j)
def srA (P : Nat → Bool) : Nat → Nat → Nat
  | 0, i => i
  | m + 1, i => if P i = true then i else srA P m (i + 1)
theorem srA_all (P : Nat → Bool) : ∀ m i, i ≤ srA P m i ∧ srA P m i ≤ i + m ∧ (srA P m i < i + m → P (srA P m i) = true) ∧ ∀ j, i ≤ j → j < srA P m i → P j = false := by
  intro m
  induction m with
  | zero => exact fun i => ⟨Nat.le_refl _, Nat.le_refl _, fun h => absurd h (Nat.lt_irrefl _), fun j h1 h2 => absurd h2 (Nat.not_lt.mpr h1)⟩
  | succ m ih =>
    intro i
    by_cases c : P i = true
    · rw [show srA P (m + 1) i = i from if_pos c]
      exact ⟨Nat.le_refl _, by omega, fun _ => c, fun j h1 h2 => absurd h2 (Nat.not_lt.mpr h1)⟩
    · rw [show srA P (m + 1) i = srA P m (i + 1) from if_neg c]
      obtain ⟨h1, h2, h3, h4⟩ := ih (i + 1)
      refine ⟨by omega, by omega, fun h => h3 (by omega), fun j g1 g2 => ?_⟩
      by_cases c2 : j = i
      · rw [c2]
        exact Bool.eq_false_iff.mpr c
      · exact h4 j (by omega) g2
/-- which word it is: 27 none -/
def wd (T : Nat → Int32) (e b : Nat) : Nat := srA (isW T b (en T e b - b)) 27 0
theorem wd_le : wd T e b ≤ 27 := by
  have := (srA_all (isW T b (en T e b - b)) 27 0).2.1
  unfold wd
  omega
theorem wd_is (h : wd T e b < 27) : isW T b (en T e b - b) (wd T e b) = true := (srA_all (isW T b (en T e b - b)) 27 0).2.2.1 (by unfold wd at h; omega)
theorem w_apart : ∀ k, k < 27 → ∀ k2, k2 < 27 → k ≠ k2 → wLen k = wLen k2 → ∃ j, j < 9 ∧ j < wLen k ∧ wC k j ≠ wC k2 j := by decide +kernel
theorem isW_one {l k2 : Nat} (hk : k < 27) (hk2 : k2 < 27) (h1 : isW T b l k = true) (h2 : isW T b l k2 = true) : k = k2 := by
  by_cases c : k = k2
  · exact c
  · obtain ⟨a1, a2⟩ := of_decide_eq_true h1
    obtain ⟨b1, b2⟩ := of_decide_eq_true h2
    obtain ⟨j, -, j2, j3⟩ := w_apart k hk k2 hk2 c (a1.symm.trans b1)
    exact absurd ((a2 j j2).symm.trans (b2 j (by rw [← b1, a1]; exact j2))) j3
theorem wd_eq (hk : k < 27) (h : isW T b (en T e b - b) k = true) : wd T e b = k := by
  have h1 := srA_all (isW T b (en T e b - b)) 27 0
  have h2 : wd T e b ≤ k := Nat.not_lt.mp fun z => by
    rw [h1.2.2.2 k (Nat.zero_le _) z] at h
    cases h
  exact isW_one (by omega) hk (wd_is (by omega)) h
def nuF (T : Nat → Int32) (b : Nat) : Nat → Int32
  | 0 => 0
  | j + 1 => nuF T b j * 10 + T (b + j) - 48
/-- what a thing is worth: a word's number, a number, a sign -/
def vl (T : Nat → Int32) (e b : Nat) : Int32 := if kd T e b = 0 then -1 else if kd T e b = 1 then (if wd T e b < 27 then nI (wd T e b) else -1) else if kd T e b = 2 then (if 3 < en T e b - b then -1 else nuF T b (en T e b - b)) else T b &&& 255
theorem vl_0 (h : kd T e b = 0) : vl T e b = -1 := if_pos h
theorem vl_1 (h : kd T e b = 1) : vl T e b = if wd T e b < 27 then nI (wd T e b) else -1 := by
  unfold vl
  rw [h]
  rfl
theorem vl_2 (h : kd T e b = 2) : vl T e b = if 3 < en T e b - b then -1 else nuF T b (en T e b - b) := by
  unfold vl
  rw [h]
  rfl
theorem vl_3 (h : kd T e b = 3) : vl T e b = T b &&& 255 := by
  unfold vl
  rw [h]
  rfl
def isWd (T : Nat → Int32) (e b k : Nat) : Bool := decide (kd T e b = 1 ∧ wd T e b = k)
def sg (T : Nat → Int32) (e b : Nat) (c : Int32) : Bool := decide (kd T e b = 3 ∧ vl T e b = c)
def nm (T : Nat → Int32) (e b : Nat) (lo hi : Int32) : Int32 := if kd T e b = 2 ∧ lo ≤ vl T e b ∧ vl T e b ≤ hi then vl T e b else -1
theorem isWd_lt (h : isWd T e b k = true) : b < e := kd_in (by rw [(of_decide_eq_true h).1]; decide)
theorem sg_lt {c : Int32} (h : sg T e b c = true) : b < e := kd_in (by rw [(of_decide_eq_true h).1]; decide)
theorem sg_wd {c : Int32} (h : sg T e b c = true) : isWd T e b k = false := decide_eq_false fun z => by
  have h1 := (of_decide_eq_true h).1
  rw [z.1] at h1
  cases h1
theorem wd_sg {c : Int32} (h : isWd T e b k = true) : sg T e b c = false := decide_eq_false fun z => by
  have h1 := (of_decide_eq_true h).1
  rw [z.1] at h1
  cases h1
theorem isWd_one {k2 : Nat} (h : isWd T e b k = true) (hn : k ≠ k2) : isWd T e b k2 = false := decide_eq_false fun z => hn ((of_decide_eq_true h).2.symm.trans z.2)
theorem sg_one {c c2 : Int32} (h : sg T e b c = true) (hn : c ≠ c2) : sg T e b c2 = false := decide_eq_false fun z => hn ((of_decide_eq_true h).2.symm.trans z.2)
/-- the row of a tape holds bytes -/
def BtT (T : Nat → Int32) : Prop := ∀ k, k < 400 → ∃ n, n < 256 ∧ T k = nI n - 128
theorem bt_kc : ∀ n, n < 256 → kcF ((nI n - 128) &&& 255) = kcF (nI n - 128) := by decide +kernel
theorem bt_dg : ∀ n, n < 256 → kcF (nI n - 128) = 2 → (nI n - 128) &&& 255 = nI n - 128 ∧ 48 ≤ nI n - 128 ∧ nI n - 128 ≤ 57 := by decide +kernel
theorem bt_lt : ∀ n, n < 256 → kcF (nI n - 128) = 1 → (nI n - 128) &&& 255 = nI n - 128 := by decide +kernel
theorem bt_sg : ∀ n, n < 256 → ∀ c, c ∈ [40, 41, 43, 59, 60, 62] → (((nI n - 128) &&& 255 = nI c ↔ nI n - 128 = nI c) ∧ (nI n - 128 = nI c → kcF (nI n - 128) = 3)) := by decide +kernel
end P75
