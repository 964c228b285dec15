section
/-! ===== codes of conditions: one machine for both (pure) ===== -/
def jnF (c : Nat) (x y : Int32) : Int32 := if c = 2000 then x + y else if c = 2001 then (if x < y then 1 else 0) else if c = 2002 then (if y < x then 1 else 0) else if c = 2004 then x &&& y else x ||| y
def stpF (F : Nat → Int32) (c : Nat) (s : List Int32) : List Int32 :=
  if c < 1000 then nI c :: s else if c < 2000 then F (c - 1000) :: s
  else if c = 2003 then (match s with | [] => [] | x :: r => (1 - x) :: r)
  else match s with | y :: x :: r => jnF c x y :: r | r => r
def runF (F : Nat → Int32) (cd : Nat → Nat) (a : Nat) : Nat → List Int32
  | 0 => []
  | n + 1 => stpF F (cd (a + n)) (runF F cd a n)
/-- kinds on the stack: true a truth, false a number -/
def tyS (c : Nat) (s : List Bool) : Option (List Bool) :=
  if c < 1007 then some (false :: s) else if c < 1009 then some (true :: s)
  else if c = 2000 then (match s with | false :: false :: r => some (false :: r) | _ => none)
  else if c = 2001 ∨ c = 2002 then (match s with | false :: false :: r => some (true :: r) | _ => none)
  else if c = 2003 then (match s with | true :: r => some (true :: r) | _ => none)
  else if c = 2004 ∨ c = 2005 then (match s with | true :: true :: r => some (true :: r) | _ => none)
  else none
def tyR (cd : Nat → Nat) (a : Nat) : Nat → Option (List Bool)
  | 0 => some []
  | n + 1 => (tyR cd a n).bind (tyS (cd (a + n)))
/-- each truth is 0 or 1 -/
def VOK : List Int32 → List Bool → Prop
  | [], [] => True
  | x :: s, b :: t => (b = true → x = 0 ∨ x = 1) ∧ VOK s t
  | _, _ => False
theorem VOK.len {s : List Int32} {t : List Bool} (h : VOK s t) : s.length = t.length := by
  induction s generalizing t with
  | nil => cases t with
    | nil => rfl
    | cons b t => exact False.elim h
  | cons x s ih => cases t with
    | nil => exact False.elim h
    | cons b t => exact congrArg (· + 1) (ih h.2)
theorem or01 {x y : Int32} (hx : x = 0 ∨ x = 1) (hy : y = 0 ∨ y = 1) : (x ||| y = 0 ∨ x ||| y = 1) ∧ (x &&& y = 0 ∨ x &&& y = 1) := by
  rcases hx with rfl | rfl <;> rcases hy with rfl | rfl <;> decide
/-- what a typed code finds: nothing to find, a truth, two of one kind -/
theorem tyS_not {s t' : List Bool} (h : tyS 2003 s = some t') : ∃ r, s = true :: r ∧ t' = true :: r := by
  unfold tyS at h
  rcases s with _ | ⟨_ | _, r⟩
  · cases h
  · cases h
  · cases h
    exact ⟨_, rfl, rfl⟩
theorem tyS_two {c : Nat} {s t' : List Bool} (h1 : ¬ c < 1009) (h2 : ¬ c = 2003) (h : tyS c s = some t') : ∃ b b' r, s = b :: b :: r ∧ t' = b' :: r ∧ ((c = 2000 ∧ b = false ∧ b' = false) ∨ ((c = 2001 ∨ c = 2002) ∧ b = false ∧ b' = true) ∨ ((c = 2004 ∨ c = 2005) ∧ b = true ∧ b' = true)) := by
  unfold tyS at h
  rw [if_neg (by omega), if_neg h1] at h
  by_cases e1 : c = 2000
  · rw [if_pos e1] at h
    rcases s with _ | ⟨_ | _, _ | ⟨_ | _, r⟩⟩ <;> first | (cases h; done) | skip
    cases h
    exact ⟨false, false, r, rfl, rfl, Or.inl ⟨e1, rfl, rfl⟩⟩
  · rw [if_neg e1] at h
    by_cases e2 : c = 2001 ∨ c = 2002
    · rw [if_pos e2] at h
      rcases s with _ | ⟨_ | _, _ | ⟨_ | _, r⟩⟩ <;> first | (cases h; done) | skip
      cases h
      exact ⟨false, true, r, rfl, rfl, Or.inr (Or.inl ⟨e2, rfl, rfl⟩)⟩
    · rw [if_neg e2, if_neg h2] at h
      by_cases e3 : c = 2004 ∨ c = 2005
      · rw [if_pos e3] at h
        rcases s with _ | ⟨_ | _, _ | ⟨_ | _, r⟩⟩ <;> first | (cases h; done) | skip
        cases h
        exact ⟨true, true, r, rfl, rfl, Or.inr (Or.inr ⟨e3, rfl, rfl⟩)⟩
      · rw [if_neg e3] at h
        cases h
theorem VOK.step {F : Nat → Int32} {c : Nat} {s : List Int32} {t t' : List Bool} (hF : ∀ k, k = 7 ∨ k = 8 → F k = 0 ∨ F k = 1) (h : VOK s t) (ht : tyS c t = some t') : VOK (stpF F c s) t' := by
  by_cases h1 : c < 1009
  · by_cases h2 : c < 1007
    · have e : t' = false :: t := by
        unfold tyS at ht
        rw [if_pos h2] at ht
        exact (Option.some.inj ht).symm
      subst e
      unfold stpF
      by_cases h3 : c < 1000
      · rw [if_pos h3]
        exact ⟨fun z => (by cases z), h⟩
      · rw [if_neg h3, if_pos (by omega)]
        exact ⟨fun z => (by cases z), h⟩
    · have e : t' = true :: t := by
        unfold tyS at ht
        rw [if_neg h2, if_pos h1] at ht
        exact (Option.some.inj ht).symm
      subst e
      unfold stpF
      rw [if_neg (by omega), if_pos (by omega)]
      exact ⟨fun _ => hF _ (by omega), h⟩
  · by_cases h2 : c = 2003
    · subst h2
      obtain ⟨r, rfl, rfl⟩ := tyS_not ht
      rcases s with _ | ⟨x, s⟩
      · exact False.elim h
      · refine ⟨fun _ => ?_, h.2⟩
        rcases h.1 rfl with rfl | rfl <;> decide
    · obtain ⟨b, b', r, rfl, rfl, hc⟩ := tyS_two h1 h2 ht
      rcases s with _ | ⟨y, _ | ⟨x, s⟩⟩
      · exact False.elim h
      · exact False.elim h.2
      · unfold stpF
        rw [if_neg (by omega), if_neg (by omega), if_neg h2]
        refine ⟨fun hb => ?_, h.2.2⟩
        rcases hc with ⟨_, _, e⟩ | ⟨e, _, _⟩ | ⟨e, e2, _⟩
        · rw [e] at hb; cases hb
        · rcases e with rfl | rfl
          · show (if x < y then (1 : Int32) else 0) = 0 ∨ (if x < y then (1 : Int32) else 0) = 1
            split <;> simp
          · show (if y < x then (1 : Int32) else 0) = 0 ∨ (if y < x then (1 : Int32) else 0) = 1
            split <;> simp
        · have o := or01 (h.2.1 e2) (h.1 e2)
          rcases e with rfl | rfl
          · exact o.2
          · exact o.1
theorem VOK.run {F : Nat → Int32} {cd : Nat → Nat} {a n : Nat} {t : List Bool} (hF : ∀ k, k = 7 ∨ k = 8 → F k = 0 ∨ F k = 1) (ht : tyR cd a n = some t) : VOK (runF F cd a n) t := by
  induction n generalizing t with
  | zero =>
    cases ht
    trivial
  | succ n ih =>
    unfold tyR at ht
    cases h : tyR cd a n with
    | none => rw [h] at ht; cases ht
    | some t0 =>
      rw [h] at ht
      exact VOK.step hF (ih h) ht
/-- a stack in a row, its last one at the place of its length less 1 -/
def Stk : List Int32 → (Nat → Int32) → Prop
  | [], _ => True
  | x :: r, f => f r.length = x ∧ Stk r f
theorem Stk.upd {s : List Int32} {f g : Nat → Int32} (h : Stk s f) (e : ∀ k, k < s.length → g k = f k) : Stk s g := by
  induction s with
  | nil => trivial
  | cons x r ih => exact ⟨(e _ (Nat.lt_succ_self _)).trans h.1, ih h.2 fun k hk => e k (Nat.lt_succ_of_lt hk)⟩
/-- a line's codes: from a on n of them, typed, never deep -/
def LineOk (cd : Nat → Nat) (a n : Nat) : Prop := (tyR cd a n = some [] ∨ tyR cd a n = some [true]) ∧ ∀ j, j ≤ n → ∃ t, tyR cd a j = some t ∧ t.length ≤ 24
def lineF (F : Nat → Int32) (cd : Nat → Nat) (a n : Nat) : Bool := match runF F cd a n with | [] => true | x :: _ => decide (¬ x = 0)
end
section
/-! ===== the reference: its law ===== -/
def factW (W : Nat → Int32) (d : Nat) (k : Nat) : Int32 := match k with
  | 0 => nI d
  | 1 => vd W 1 d
  | 2 => vd W 2 d
  | 3 => if vd W 3 d = -1 then 9 else vd W 3 d
  | 4 => vd W 0 d
  | 5 => W (11 + 2 * (vd W 0 d).toNatClampNeg)
  | 6 => W 4
  | 7 => bI (lwF W d)
  | 8 => bI (decide (11 < vd W 2 d))
  | _ => 0
theorem factW_01 (W : Nat → Int32) (d : Nat) : ∀ k, k = 7 ∨ k = 8 → factW W d k = 0 ∨ factW W d k = 1 := by
  intro k hk
  rcases hk with rfl | rfl
  · show bI _ = 0 ∨ bI _ = 1
    cases lwF W d <;> simp [bI]
  · show bI _ = 0 ∨ bI _ = 1
    cases decide (11 < vd W 2 d) <;> simp [bI]
def OwW (nd np : Nat) (W : Nat → Int32) : Prop := ∀ d, d < nd → ∃ p, p < np ∧ vd W 0 d = nI p
def trN (k m : Nat) : Nat := if k = 9 then m else if k < 9 then 1000 + k else 1990 + k
/-- the reference's steps are these codes -/
def RCo (W : Nat → Int32) (cd : Nat → Nat) (n : Nat) : Prop := ∀ i, i < n → ∃ k m, k ≤ 15 ∧ m < 1000 ∧ W (384 + 2 * i) = nI k ∧ W (385 + 2 * i) = nI m ∧ cd i = trN k m
theorem up2_upr {α : Type} {f : Nat → Nat → α} {p k : Nat} {r : Nat → α} {x : α} : up2 (upr f p r) p k x = upr f p (fun j => if j = k then x else r j) := by
  funext q j
  by_cases hq : q = p
  · subst hq
    rw [upr_at]
    simp only [up2, upr_at, if_pos]
  · rw [up2_row hq, upr_row hq, upr_row hq]
theorem upr_upr {α : Type} {f : Nat → α} {p : Nat} {r r' : α} : upr (upr f p r) p r' = upr f p r' := by
  funext q
  by_cases hq : q = p
  · subst hq; rw [upr_at, upr_at]
  · rw [upr_row hq, upr_row hq, upr_row hq]
theorem upr_self {α : Type} {f : Nat → α} {p : Nat} : upr f p (f p) = f := by
  funext q
  by_cases hq : q = p
  · subst hq; rw [upr_at]
  · rw [upr_row hq]
set_option maxRecDepth 100000
theorem sp_X12_fact0 {S : aS} {I : Nat → Nat → Int32} {L : Nat → Nat → Int64} {w1 w2 t : Nat} {nd np d m : Nat} (hn : nd ≤ 12) (hp6 : np ≤ 6) (hd : d < nd) (hl : LeW nd (I 421)) (ho : OwW nd np (I 421)) : SpE S m_X12_factOf 16 [.ref 420, .int (nI 0), .int (nI m), .int (nI d)] (hp I L w1 w2 t) (some (.int (factW (I 421) d 0))) (hp I L w1 w2 t) := by
  refine SpE_of ok_X12_factOf rfl rfl ?_
  show AW S m_X12_factOf 16 _ _ 0 0 0 [some (.ref 420), some (.int (nI 0)), some (.int (nI m)), some (.int (nI d))] [] (hp I L w1 w2 t)
  refine a_l1 rfl rfl rfl ?_
  refine a_tsw (tg := 52) rfl (by decide) (by decide) ?_
  refine a_l3 rfl rfl rfl ?_
  refine a_iret rfl rfl ⟨rfl, rfl⟩
theorem sp_X12_fact1 {S : aS} {I : Nat → Nat → Int32} {L : Nat → Nat → Int64} {w1 w2 t : Nat} {nd np d m : Nat} (hn : nd ≤ 12) (hp6 : np ≤ 6) (hd : d < nd) (hl : LeW nd (I 421)) (ho : OwW nd np (I 421)) : SpE S m_X12_factOf 16 [.ref 420, .int (nI 1), .int (nI m), .int (nI d)] (hp I L w1 w2 t) (some (.int (factW (I 421) d 1))) (hp I L w1 w2 t) := by
  refine SpE_of ok_X12_factOf rfl rfl ?_
  show AW S m_X12_factOf 16 _ _ 0 0 0 [some (.ref 420), some (.int (nI 1)), some (.int (nI m)), some (.int (nI d))] [] (hp I L w1 w2 t)
  refine a_l1 rfl rfl rfl ?_
  refine a_tsw (tg := 54) rfl (by decide) (by decide) ?_
  refine a_l0 rfl rfl rfl ?_
  refine a_l3 rfl rfl rfl ?_
  refine a_s rfl rfl ?_
  refine a_eV1 rfl lX12_63 mo_X12_of (sp_X12_of (d := d) (k := 1) (by omega) (by decide)) rfl rfl rfl ⟨12, _, rfl, rfl, rfl⟩ rfl ?_
  refine a_iret rfl rfl ⟨rfl, rfl⟩
theorem sp_X12_fact2 {S : aS} {I : Nat → Nat → Int32} {L : Nat → Nat → Int64} {w1 w2 t : Nat} {nd np d m : Nat} (hn : nd ≤ 12) (hp6 : np ≤ 6) (hd : d < nd) (hl : LeW nd (I 421)) (ho : OwW nd np (I 421)) : SpE S m_X12_factOf 16 [.ref 420, .int (nI 2), .int (nI m), .int (nI d)] (hp I L w1 w2 t) (some (.int (factW (I 421) d 2))) (hp I L w1 w2 t) := by
  refine SpE_of ok_X12_factOf rfl rfl ?_
  show AW S m_X12_factOf 16 _ _ 0 0 0 [some (.ref 420), some (.int (nI 2)), some (.int (nI m)), some (.int (nI d))] [] (hp I L w1 w2 t)
  refine a_l1 rfl rfl rfl ?_
  refine a_tsw (tg := 61) rfl (by decide) (by decide) ?_
  refine a_l0 rfl rfl rfl ?_
  refine a_l3 rfl rfl rfl ?_
  refine a_s rfl rfl ?_
  refine a_eV1 rfl lX12_63 mo_X12_of (sp_X12_of (d := d) (k := 2) (by omega) (by decide)) rfl rfl rfl ⟨12, _, rfl, rfl, rfl⟩ rfl ?_
  refine a_iret rfl rfl ⟨rfl, rfl⟩
theorem sp_X12_fact3 {S : aS} {I : Nat → Nat → Int32} {L : Nat → Nat → Int64} {w1 w2 t : Nat} {nd np d m : Nat} (hn : nd ≤ 12) (hp6 : np ≤ 6) (hd : d < nd) (hl : LeW nd (I 421)) (ho : OwW nd np (I 421)) : SpE S m_X12_factOf 16 [.ref 420, .int (nI 3), .int (nI m), .int (nI d)] (hp I L w1 w2 t) (some (.int (factW (I 421) d 3))) (hp I L w1 w2 t) := by
  refine SpE_of ok_X12_factOf rfl rfl ?_
  show AW S m_X12_factOf 16 _ _ 0 0 0 [some (.ref 420), some (.int (nI 3)), some (.int (nI m)), some (.int (nI d))] [] (hp I L w1 w2 t)
  refine a_l1 rfl rfl rfl ?_
  refine a_tsw (tg := 68) rfl (by decide) (by decide) ?_
  refine a_l0 rfl rfl rfl ?_
  refine a_l3 rfl rfl rfl ?_
  refine a_s rfl rfl ?_
  refine a_eV1 rfl lX12_63 mo_X12_of (sp_X12_of (d := d) (k := 3) (by omega) (by decide)) rfl rfl rfl ⟨12, _, rfl, rfl, rfl⟩ rfl ?_
  refine a_s rfl rfl ?_
  refine a_ic_ne rfl (fun c75 => ?_) (fun c75 => ?_)
  · refine a_l0 rfl rfl rfl ?_
    refine a_l3 rfl rfl rfl ?_
    refine a_s rfl rfl ?_
    refine a_eV1 rfl lX12_63 mo_X12_of (sp_X12_of (d := d) (k := 3) (by omega) (by decide)) rfl rfl rfl ⟨12, _, rfl, rfl, rfl⟩ rfl ?_
    refine a_iret rfl rfl ⟨by simp [factW, *], rfl⟩
  · refine a_s rfl rfl ?_
    refine a_goto rfl ?_
    refine a_iret rfl rfl ⟨by simp [factW, *], rfl⟩
theorem sp_X12_fact4 {S : aS} {I : Nat → Nat → Int32} {L : Nat → Nat → Int64} {w1 w2 t : Nat} {nd np d m : Nat} (hn : nd ≤ 12) (hp6 : np ≤ 6) (hd : d < nd) (hl : LeW nd (I 421)) (ho : OwW nd np (I 421)) : SpE S m_X12_factOf 16 [.ref 420, .int (nI 4), .int (nI m), .int (nI d)] (hp I L w1 w2 t) (some (.int (factW (I 421) d 4))) (hp I L w1 w2 t) := by
  refine SpE_of ok_X12_factOf rfl rfl ?_
  show AW S m_X12_factOf 16 _ _ 0 0 0 [some (.ref 420), some (.int (nI 4)), some (.int (nI m)), some (.int (nI d))] [] (hp I L w1 w2 t)
  refine a_l1 rfl rfl rfl ?_
  refine a_tsw (tg := 90) rfl (by decide) (by decide) ?_
  refine a_l0 rfl rfl rfl ?_
  refine a_l3 rfl rfl rfl ?_
  refine a_s rfl rfl ?_
  refine a_eV1 rfl lX12_63 mo_X12_of (sp_X12_of (d := d) (k := 0) (by omega) (by decide)) rfl rfl rfl ⟨12, _, rfl, rfl, rfl⟩ rfl ?_
  refine a_iret rfl rfl ⟨rfl, rfl⟩
theorem sp_X12_fact5 {S : aS} {I : Nat → Nat → Int32} {L : Nat → Nat → Int64} {w1 w2 t : Nat} {nd np d m : Nat} (hn : nd ≤ 12) (hp6 : np ≤ 6) (hd : d < nd) (hl : LeW nd (I 421)) (ho : OwW nd np (I 421)) : SpE S m_X12_factOf 16 [.ref 420, .int (nI 5), .int (nI m), .int (nI d)] (hp I L w1 w2 t) (some (.int (factW (I 421) d 5))) (hp I L w1 w2 t) := by
  refine SpE_of ok_X12_factOf rfl rfl ?_
  show AW S m_X12_factOf 16 _ _ 0 0 0 [some (.ref 420), some (.int (nI 5)), some (.int (nI m)), some (.int (nI d))] [] (hp I L w1 w2 t)
  refine a_l1 rfl rfl rfl ?_
  refine a_tsw (tg := 97) rfl (by decide) (by decide) ?_
  refine a_l0 rfl rfl rfl ?_
  refine a_l0 rfl rfl rfl ?_
  refine a_l3 rfl rfl rfl ?_
  refine a_s rfl rfl ?_
  refine a_eV1 rfl lX12_63 mo_X12_of (sp_X12_of (d := d) (k := 0) (by omega) (by decide)) rfl rfl rfl ⟨12, _, rfl, rfl, rfl⟩ rfl ?_
  obtain ⟨p, hp, ep⟩ := ho d hd
  refine a_top ep ?_
  refine a_s rfl rfl ?_
  refine a_eV1 rfl lX12_252 mo_X12_ofPerson (sp_X12_ofPerson (d := p) (k := 0) (by omega) (by decide)) rfl rfl rfl ⟨12, _, rfl, rfl, rfl⟩ rfl ?_
  refine a_iret rfl rfl ⟨by show _ = some (Value.int (I 421 (11 + 2 * (vd (I 421) 0 d).toNatClampNeg))); rw [ep, nI_clamp (by omega)]; rfl, rfl⟩
theorem sp_X12_fact6 {S : aS} {I : Nat → Nat → Int32} {L : Nat → Nat → Int64} {w1 w2 t : Nat} {nd np d m : Nat} (hn : nd ≤ 12) (hp6 : np ≤ 6) (hd : d < nd) (hl : LeW nd (I 421)) (ho : OwW nd np (I 421)) : SpE S m_X12_factOf 16 [.ref 420, .int (nI 6), .int (nI m), .int (nI d)] (hp I L w1 w2 t) (some (.int (factW (I 421) d 6))) (hp I L w1 w2 t) := by
  refine SpE_of ok_X12_factOf rfl rfl ?_
  show AW S m_X12_factOf 16 _ _ 0 0 0 [some (.ref 420), some (.int (nI 6)), some (.int (nI m)), some (.int (nI d))] [] (hp I L w1 w2 t)
  refine a_l1 rfl rfl rfl ?_
  refine a_tsw (tg := 109) rfl (by decide) (by decide) ?_
  refine a_l0 rfl rfl rfl ?_
  refine a_getq rfl gfX12_13_12 rfl (rfl) ?_
  refine a_s rfl rfl ?_
  refine a_ialdv (v := I 421 4) rfl (n := 2033) rfl ⟨by decide, by decide⟩ rfl ?_
  refine a_iret rfl rfl ⟨rfl, rfl⟩
theorem sp_X12_fact7 {S : aS} {I : Nat → Nat → Int32} {L : Nat → Nat → Int64} {w1 w2 t : Nat} {nd np d m : Nat} (hn : nd ≤ 12) (hp6 : np ≤ 6) (hd : d < nd) (hl : LeW nd (I 421)) (ho : OwW nd np (I 421)) : SpE S m_X12_factOf 16 [.ref 420, .int (nI 7), .int (nI m), .int (nI d)] (hp I L w1 w2 t) (some (.int (factW (I 421) d 7))) (hp I L w1 w2 t) := by
  refine SpE_of ok_X12_factOf rfl rfl ?_
  show AW S m_X12_factOf 16 _ _ 0 0 0 [some (.ref 420), some (.int (nI 7)), some (.int (nI m)), some (.int (nI d))] [] (hp I L w1 w2 t)
  refine a_l1 rfl rfl rfl ?_
  refine a_tsw (tg := 116) rfl (by decide) (by decide) ?_
  refine a_l0 rfl rfl rfl ?_
  refine a_l3 rfl rfl rfl ?_
  refine a_eV1 rfl lX12_249 mo_X12_leansWell (sp_X12_leansWell hn hd hl) rfl rfl rfl ⟨12, _, rfl, rfl, rfl⟩ rfl ?_
  refine a_if_eq rfl (fun c121 => ?_) (fun c121 => ?_)
  · refine a_s rfl rfl ?_
    refine a_iret rfl rfl ⟨by simp_all [factW, bI, bI_0], rfl⟩
  · refine a_s rfl rfl ?_
    refine a_goto rfl ?_
    refine a_iret rfl rfl ⟨by simp_all [factW, bI, bI_0], rfl⟩
theorem sp_X12_fact8 {S : aS} {I : Nat → Nat → Int32} {L : Nat → Nat → Int64} {w1 w2 t : Nat} {nd np d m : Nat} (hn : nd ≤ 12) (hp6 : np ≤ 6) (hd : d < nd) (hl : LeW nd (I 421)) (ho : OwW nd np (I 421)) : SpE S m_X12_factOf 16 [.ref 420, .int (nI 8), .int (nI m), .int (nI d)] (hp I L w1 w2 t) (some (.int (factW (I 421) d 8))) (hp I L w1 w2 t) := by
  refine SpE_of ok_X12_factOf rfl rfl ?_
  show AW S m_X12_factOf 16 _ _ 0 0 0 [some (.ref 420), some (.int (nI 8)), some (.int (nI m)), some (.int (nI d))] [] (hp I L w1 w2 t)
  refine a_l1 rfl rfl rfl ?_
  refine a_tsw (tg := 130) rfl (by decide) (by decide) ?_
  refine a_l0 rfl rfl rfl ?_
  refine a_l3 rfl rfl rfl ?_
  refine a_s rfl rfl ?_
  refine a_eV1 rfl lX12_63 mo_X12_of (sp_X12_of (d := d) (k := 2) (by omega) (by decide)) rfl rfl rfl ⟨12, _, rfl, rfl, rfl⟩ rfl ?_
  refine a_s rfl rfl ?_
  refine a_ic_le rfl (fun c138 => ?_) (fun c138 => ?_)
  · refine a_s rfl rfl ?_
    refine a_iret rfl rfl ⟨by simp_all [factW, bI, le_nl, -Int32.not_lt, -Int32.not_le], rfl⟩
  · refine a_s rfl rfl ?_
    refine a_goto rfl ?_
    refine a_iret rfl rfl ⟨by simp_all [factW, bI, le_nl, -Int32.not_lt, -Int32.not_le], rfl⟩
theorem sp_X12_fact9 {S : aS} {I : Nat → Nat → Int32} {L : Nat → Nat → Int64} {w1 w2 t : Nat} {nd np d m : Nat} (hn : nd ≤ 12) (hp6 : np ≤ 6) (hd : d < nd) (hl : LeW nd (I 421)) (ho : OwW nd np (I 421)) : SpE S m_X12_factOf 16 [.ref 420, .int (nI 9), .int (nI m), .int (nI d)] (hp I L w1 w2 t) (some (.int (nI m))) (hp I L w1 w2 t) := by
  refine SpE_of ok_X12_factOf rfl rfl ?_
  show AW S m_X12_factOf 16 _ _ 0 0 0 [some (.ref 420), some (.int (nI 9)), some (.int (nI m)), some (.int (nI d))] [] (hp I L w1 w2 t)
  refine a_l1 rfl rfl rfl ?_
  refine a_tsw (tg := 147) rfl (by decide) (by decide) ?_
  refine a_l2 rfl rfl rfl ?_
  refine a_iret rfl rfl ⟨rfl, rfl⟩
theorem stp_fact {F : Nat → Int32} {k m : Nat} {r : List Int32} (hk : k < 9) : (stpF F (trN k m) r).headD 0 = F k := by
  unfold trN stpF
  rw [if_neg (show ¬ k = 9 by omega), if_pos hk, if_neg (show ¬ 1000 + k < 1000 by omega), if_pos (show 1000 + k < 2000 by omega)]
  show F (1000 + k - 1000) = F k
  rw [Nat.add_sub_cancel_left]
theorem sp_X12_factOf {S : aS} {I : Nat → Nat → Int32} {L : Nat → Nat → Int64} {w1 w2 t : Nat} {nd np d m : Nat} (hn : nd ≤ 12) (hp6 : np ≤ 6) (hd : d < nd) (hl : LeW nd (I 421)) (ho : OwW nd np (I 421)) {k : Nat} (hk : k ≤ 9) (F : Nat → Int32) (hF : F = factW (I 421) d) (r : List Int32) (hm : m < 1000) : SpE S m_X12_factOf 16 [.ref 420, .int (nI k), .int (nI m), .int (nI d)] (hp I L w1 w2 t) (some (.int ((stpF F (trN k m) r).headD 0))) (hp I L w1 w2 t) := by
  subst hF
  by_cases k9 : k < 9
  · rw [stp_fact k9]
    rcases k with _ | _ | _ | _ | _ | _ | _ | _ | _ | k
    · exact sp_X12_fact0 hn hp6 hd hl ho
    · exact sp_X12_fact1 hn hp6 hd hl ho
    · exact sp_X12_fact2 hn hp6 hd hl ho
    · exact sp_X12_fact3 hn hp6 hd hl ho
    · exact sp_X12_fact4 hn hp6 hd hl ho
    · exact sp_X12_fact5 hn hp6 hd hl ho
    · exact sp_X12_fact6 hn hp6 hd hl ho
    · exact sp_X12_fact7 hn hp6 hd hl ho
    · exact sp_X12_fact8 hn hp6 hd hl ho
    · omega
  obtain rfl : k = 9 := by omega
  have e : stpF (factW (I 421) d) (trN 9 m) r = nI m :: r := by
    show stpF _ m r = _
    unfold stpF
    rw [if_pos hm]
  rw [e]
  exact sp_X12_fact9 hn hp6 hd hl ho
theorem stpF_push {F : Nat → Int32} {c : Nat} {r : List Int32} (h : c < 2000) : stpF F c r = (stpF F c r).headD 0 :: r := by
  unfold stpF
  by_cases h1 : c < 1000
  · rw [if_pos h1]; rfl
  · rw [if_neg h1, if_pos h]; rfl
theorem trN_lt {k m : Nat} (hk : k ≤ 9) (hm : m < 1000) : trN k m < 2000 := by
  unfold trN
  split
  · omega
  · split <;> omega
theorem tyR_prev {cd : Nat → Nat} {a j : Nat} {t' : List Bool} (h : tyR cd a (j + 1) = some t') : ∃ t, tyR cd a j = some t ∧ tyS (cd (a + j)) t = some t' := by
  unfold tyR at h
  cases e : tyR cd a j with
  | none => rw [e] at h; cases h
  | some t => rw [e] at h; exact ⟨t, rfl, h⟩
/-- a binary operation's stack -/
theorem two_of {F : Nat → Int32} {cd : Nat → Nat} {a j c : Nat} {t' : List Bool} (hF : ∀ k, k = 7 ∨ k = 8 → F k = 0 ∨ F k = 1) (hc : cd (a + j) = c) (h1 : ¬ c < 1009) (h2 : ¬ c = 2003) (h : tyR cd a (j + 1) = some t') : ∃ x y r, runF F cd a j = y :: x :: r ∧ runF F cd a (j + 1) = jnF c x y :: r ∧ ((c = 2004 ∨ c = 2005) → (x = 0 ∨ x = 1) ∧ (y = 0 ∨ y = 1)) := by
  obtain ⟨t, e1, e2⟩ := tyR_prev h
  have hv := VOK.run hF e1
  rw [hc] at e2
  obtain ⟨b, b', r, rfl, rfl, hh⟩ := tyS_two h1 h2 e2
  rcases hs : runF F cd a j with _ | ⟨y, _ | ⟨x, s⟩⟩
  · rw [hs] at hv; exact False.elim hv
  · rw [hs] at hv; exact False.elim hv.2
  · rw [hs] at hv
    refine ⟨x, y, s, rfl, ?_, fun z => ?_⟩
    · show stpF F (cd (a + j)) (runF F cd a j) = _
      rw [hs, hc]
      unfold stpF
      rw [if_neg (by omega), if_neg (by omega), if_neg h2]
    · have hb : b = true := by
        rcases hh with ⟨e, _, _⟩ | ⟨e, _, _⟩ | ⟨_, e, _⟩
        · omega
        · omega
        · exact e
      exact ⟨hv.2.1 hb, hv.1 hb⟩
theorem one_of {F : Nat → Int32} {cd : Nat → Nat} {a j : Nat} {t' : List Bool} (hF : ∀ k, k = 7 ∨ k = 8 → F k = 0 ∨ F k = 1) (hc : cd (a + j) = 2003) (h : tyR cd a (j + 1) = some t') : ∃ x r, runF F cd a j = x :: r ∧ runF F cd a (j + 1) = (1 - x) :: r := by
  obtain ⟨t, e1, e2⟩ := tyR_prev h
  have hv := VOK.run hF e1
  rw [hc] at e2
  obtain ⟨r, rfl, rfl⟩ := tyS_not e2
  rcases hs : runF F cd a j with _ | ⟨x, s⟩
  · rw [hs] at hv; exact False.elim hv
  · refine ⟨x, s, rfl, ?_⟩
    show stpF F (cd (a + j)) (runF F cd a j) = _
    rw [hs, hc]
    rfl
theorem sp_X12_holdsLine {S : aS} {I : Nat → Nat → Int32} {L : Nat → Nat → Int64} {w1 w2 t : Nat} {nd np d n a N : Nat} {cd : Nat → Nat} (hn : nd ≤ 12) (hp6 : np ≤ 6) (hd : d < nd) (hl : LeW nd (I 421)) (ho : OwW nd np (I 421)) (hn12 : n < 12) (h2 : I 421 (336 + 4 * n + 2) = nI a) (h3 : I 421 (336 + 4 * n + 3) = nI (a + N)) (hab : a + N ≤ 400) (hRC : RCo (I 421) cd (a + N)) (hok : LineOk cd a N) : Sp S m_X12_holdsLine 17 0 0 [.ref 420, .int (nI n), .int (nI d)] (hp I L w1 w2 t) (fun v h' => v = some (.int (bI (lineF (factW (I 421) d) cd a N))) ∧ ∃ f, h' = hp (upr I 428 f) L w1 w2 t) (fun _ _ => False) := by
  refine Sp_of ok_X12_holdsLine rfl rfl ?_
  show AW S m_X12_holdsLine 17 _ _ 0 0 0 [some (.ref 420), some (.int (nI n)), some (.int (nI d)), none, none, none, none, none, none, none] [] (hp I L w1 w2 t)
  refine a_s rfl rfl ?_
  refine a_s3 rfl rfl rfl rfl rfl rfl ?_
  refine a_s rfl rfl ?_
  refine a_s rfl rfl ?_
  refine a_l1 rfl rfl rfl ?_
  refine a_s rfl rfl ?_
  refine a_s rfl rfl ?_
  refine a_top (y := nI (336 + 4 * n)) (by rw [show (4 : Int32) = nI 4 from rfl, show (336 : Int32) = nI 336 from rfl, nI_mul, nI_addl]) ?_
  refine a_s4 rfl rfl rfl rfl rfl rfl ?_
  refine a_l0 rfl rfl rfl ?_
  refine a_getq rfl gfX12_13_12 rfl (rfl) ?_
  refine a_l4 rfl rfl rfl ?_
  refine a_s rfl rfl ?_
  refine a_s rfl rfl ?_
  refine a_top (nI_addl (336 + 4 * n) 2) ?_
  refine a_ialdv (v := nI a) rfl (n := 2033) rfl (inI_nI (by omega) (by omega)) (by rw [nI_clamp (by omega)]; exact h2) ?_
  refine a_s5 rfl rfl rfl rfl rfl rfl ?_
  
  refine a_inv (n := N) (fun mm ls h => ∃ j v, j + mm = N ∧ ls = [some (.ref 420), some (.int (nI n)), some (.int (nI d)), some (.int (nI (runF (factW (I 421) d) cd a j).length)), some (.int (nI (336 + 4 * n))), some (.int (nI (a + j))), none, none, none, none] ∧ h = hp (upr I 428 v) L w1 w2 t ∧ Stk (runF (factW (I 421) d) cd a j) v) ⟨0, I 428, by omega, rfl, by rw [upr_self], trivial⟩ ?_
  rintro mm _ _ ⟨j, v, hj, rfl, rfl, hv⟩ ih
  have hF := factW_01 (I 421) d
  obtain ⟨tj, htj, h24j⟩ := hok.2 j (by omega)
  have hlen := (VOK.run hF htj).len
  by_cases hjN : j = N
  · subst hjN
    refine a_l5 rfl rfl rfl ?_
    refine a_l0 rfl rfl rfl ?_
    refine a_getq rfl gfX12_13_12 rfl (rfl) ?_
    refine a_l4 rfl rfl rfl ?_
    refine a_s rfl rfl ?_
    refine a_s rfl rfl ?_
    refine a_top (nI_addl (336 + 4 * n) 3) ?_
    refine a_ialdv (v := nI (a + j)) rfl (n := 2033) rfl (inI_nI (by omega) (by omega)) (by rw [nI_clamp (by omega)]; rw [upr_row (by decide)]; exact h3) ?_
    refine a_ic_ge rfl (fun c33 => ?_) (fun c => absurd (Int32.le_refl _) c)
    skip
    rcases hok.1 with e | e
    · have hs : runF (factW (I 421) d) cd a j = [] := by
        have := VOK.run hF e
        cases hs : runF (factW (I 421) d) cd a j with
        | nil => rfl
        | cons x r => rw [hs] at this; exact False.elim this
      rw [hs]
      refine a_l3 rfl rfl rfl ?_
      refine a_if_eq rfl (fun c264 => ?_) (fun c => absurd (rfl) c)
      refine a_s rfl rfl ?_
      refine a_goto rfl ?_
      refine a_zret rfl rfl rfl ⟨by simp [lineF, hs, bI], v, rfl⟩
    · obtain ⟨x, hs, h01⟩ : ∃ x, runF (factW (I 421) d) cd a j = [x] ∧ (x = 0 ∨ x = 1) := by
        have := VOK.run hF e
        rcases hs : runF (factW (I 421) d) cd a j with _ | ⟨x, _ | ⟨y, r⟩⟩
        · rw [hs] at this; exact False.elim this
        · rw [hs] at this; exact ⟨x, rfl, this.1 rfl⟩
        · rw [hs] at this; exact False.elim this.2
      rw [hs] at hv ⊢
      simp only [List.length_cons, List.length_nil]
      refine a_l3 rfl rfl rfl ?_
      refine a_if_eq rfl (fun c => absurd c (by decide)) (fun c264 => ?_)
      refine a_l0 rfl rfl rfl ?_
      refine a_getq rfl gfX12_39_12 rfl (rfl) ?_
      refine a_s rfl rfl ?_
      refine a_ialdv (v := x) rfl (n := 400) rfl ⟨by decide, by decide⟩ (by show upr I 428 v 428 0 = x; rw [upr_at]; exact hv.1) ?_
      refine a_s rfl rfl ?_
      refine a_ic_ne rfl (fun c274 => ?_) (fun c274 => ?_)
      · refine a_s rfl rfl ?_
        refine a_zret rfl rfl rfl ⟨by rcases h01 with rfl | rfl <;> simp_all [lineF, bI], v, rfl⟩
      · refine a_s rfl rfl ?_
        refine a_goto rfl ?_
        refine a_zret rfl rfl rfl ⟨by rcases h01 with rfl | rfl <;> simp_all [lineF, bI], v, rfl⟩
  · obtain ⟨k, m, hk, hm, e1, e2, e3⟩ := hRC (a + j) (by omega)
    obtain ⟨t', ht', h24⟩ := hok.2 (j + 1) (by omega)
    by_cases hk9 : k ≤ 9
    · have hr : runF (factW (I 421) d) cd a (j + 1) = (stpF (factW (I 421) d) (trN k m) (runF (factW (I 421) d) cd a j)).headD 0 :: runF (factW (I 421) d) cd a j := by
        show stpF _ (cd (a + j)) _ = _
        rw [e3]
        exact stpF_push (trN_lt hk9 hm)
      refine a_l5 rfl rfl rfl ?_
      refine a_l0 rfl rfl rfl ?_
      refine a_getq rfl gfX12_13_12 rfl (rfl) ?_
      refine a_l4 rfl rfl rfl ?_
      refine a_s rfl rfl ?_
      refine a_s rfl rfl ?_
      refine a_top (nI_addl (336 + 4 * n) 3) ?_
      refine a_ialdv (v := nI (a + N)) rfl (n := 2033) rfl (inI_nI (by omega) (by omega)) (by rw [nI_clamp (by omega)]; rw [upr_row (by decide)]; exact h3) ?_
      refine a_ic_ge rfl (fun c => absurd c (nI_ge (by omega) (by omega))) (fun c33 => ?_)
      refine a_l0 rfl rfl rfl ?_
      refine a_getq rfl gfX12_13_12 rfl (rfl) ?_
      refine a_s rfl rfl ?_
      refine a_s rfl rfl ?_
      refine a_l5 rfl rfl rfl ?_
      refine a_s rfl rfl ?_
      refine a_s rfl rfl ?_
      refine a_top (y := nI (384 + 2 * (a + j))) (by rw [show (2 : Int32) = nI 2 from rfl, show (384 : Int32) = nI 384 from rfl, nI_mul, nI_addl]) ?_
      refine a_ialdv (v := nI k) rfl (n := 2033) rfl (inI_nI (by omega) (by omega)) (by rw [nI_clamp (by omega)]; rw [upr_row (by decide)]; exact e1) ?_
      refine a_s6 rfl rfl rfl rfl rfl rfl ?_
      refine a_l6 rfl rfl rfl ?_
      refine a_s rfl rfl ?_
      refine a_ic_gt rfl (fun c => absurd c (nI_nlu (n := 9) hk9 (by decide))) (fun c55 => ?_)
      refine a_l0 rfl rfl rfl ?_
      refine a_getq rfl gfX12_39_12 rfl (rfl) ?_
      refine a_l3 rfl rfl rfl ?_
      refine a_l0 rfl rfl rfl ?_
      refine a_l6 rfl rfl rfl ?_
      refine a_l0 rfl rfl rfl ?_
      refine a_getq rfl gfX12_13_12 rfl (rfl) ?_
      refine a_s rfl rfl ?_
      refine a_s rfl rfl ?_
      refine a_l5 rfl rfl rfl ?_
      refine a_s rfl rfl ?_
      refine a_s rfl rfl ?_
      refine a_top (y := nI (384 + 2 * (a + j))) (by rw [show (2 : Int32) = nI 2 from rfl, show (384 : Int32) = nI 384 from rfl, nI_mul, nI_addl]) ?_
      refine a_s rfl rfl ?_
      refine a_s rfl rfl ?_
      refine a_top (nI_addl (384 + 2 * (a + j)) 1) ?_
      refine a_ialdv (v := nI m) rfl (n := 2033) rfl (inI_nI (by omega) (by omega)) (by rw [nI_clamp (by omega)]; rw [upr_row (by decide), show 384 + 2 * (a + j) + 1 = 385 + 2 * (a + j) by omega]; exact e2) ?_
      refine a_l2 rfl rfl rfl ?_
      refine a_eV1 rfl lX12_255 mo_X12_factOf (sp_X12_factOf hn hp6 hd (by rw [upr_row (by decide)]; exact hl) (by rw [upr_row (by decide)]; exact ho) hk9 (factW (I 421) d) (by rw [upr_row (by decide)]) (runF (factW (I 421) d) cd a j) hm) rfl rfl rfl ⟨12, _, rfl, rfl, rfl⟩ rfl ?_
      refine a_iastv (k := (runF (factW (I 421) d) cd a j).length) rfl (n := 400) rfl (inI_nI (by omega) (by omega)) (nI_clamp (by omega)) ?_
      rw [up2_upr]
      refine a_i3 rfl rfl rfl ?_
      refine a_goto rfl ?_
      refine a_i5 rfl rfl rfl ?_
      refine a_goto rfl ?_
      first | exact absurd ‹(1 : Int32) = 0› (by decide) | exact absurd rfl ‹¬ (0 : Int32) = 0› | exact a_back (ih (mm - 1) _ _ (by omega) ⟨j + 1, _, by omega, rfl, rfl, by rw [hr]; exact ⟨if_pos rfl, Stk.upd hv fun q hq => if_neg (by omega)⟩⟩) (by simp [lsub, nI_1, hr, ← Nat.add_assoc]) rfl
    · by_cases hk13 : k = 13
      · subst hk13
        obtain ⟨x, r, hs, hr⟩ := one_of hF e3 ht'
        rw [hs] at hv hlen ⊢
        simp only [List.length_cons]
        have hlr : r.length + 1 = tj.length := hlen
        refine a_l5 rfl rfl rfl ?_
        refine a_l0 rfl rfl rfl ?_
        refine a_getq rfl gfX12_13_12 rfl (rfl) ?_
        refine a_l4 rfl rfl rfl ?_
        refine a_s rfl rfl ?_
        refine a_s rfl rfl ?_
        refine a_top (nI_addl (336 + 4 * n) 3) ?_
        refine a_ialdv (v := nI (a + N)) rfl (n := 2033) rfl (inI_nI (by omega) (by omega)) (by rw [nI_clamp (by omega)]; rw [upr_row (by decide)]; exact h3) ?_
        refine a_ic_ge rfl (fun c => absurd c (nI_ge (by omega) (by omega))) (fun c33 => ?_)
        refine a_l0 rfl rfl rfl ?_
        refine a_getq rfl gfX12_13_12 rfl (rfl) ?_
        refine a_s rfl rfl ?_
        refine a_s rfl rfl ?_
        refine a_l5 rfl rfl rfl ?_
        refine a_s rfl rfl ?_
        refine a_s rfl rfl ?_
        refine a_top (y := nI (384 + 2 * (a + j))) (by rw [show (2 : Int32) = nI 2 from rfl, show (384 : Int32) = nI 384 from rfl, nI_mul, nI_addl]) ?_
        refine a_ialdv (v := nI 13) rfl (n := 2033) rfl (inI_nI (by omega) (by omega)) (by rw [nI_clamp (by omega)]; rw [upr_row (by decide)]; exact e1) ?_
        refine a_s6 rfl rfl rfl rfl rfl rfl ?_
        refine a_l6 rfl rfl rfl ?_
        refine a_s rfl rfl ?_
        refine a_ic_gt rfl (fun c55 => ?_) (fun c => absurd (by decide) c)
        refine a_l6 rfl rfl rfl ?_
        refine a_s rfl rfl ?_
        refine a_ic_ne rfl (fun c => absurd c (fun z => z rfl)) (fun c96 => ?_)
        refine a_l0 rfl rfl rfl ?_
        refine a_getq rfl gfX12_39_12 rfl (rfl) ?_
        refine a_l3 rfl rfl rfl ?_
        refine a_s rfl rfl ?_
        refine a_s rfl rfl ?_
        refine a_top (nI_dec _) ?_
        refine a_s rfl rfl ?_
        refine a_l0 rfl rfl rfl ?_
        refine a_getq rfl gfX12_39_12 rfl (rfl) ?_
        refine a_l3 rfl rfl rfl ?_
        refine a_s rfl rfl ?_
        refine a_s rfl rfl ?_
        refine a_top (nI_dec _) ?_
        refine a_ialdv (v := x) rfl (n := 400) rfl (inI_nI (by omega) (by omega)) (by rw [nI_clamp (by omega)]; rw [upr_at]; exact hv.1) ?_
        refine a_s rfl rfl ?_
        refine a_iastv (k := r.length) rfl (n := 400) rfl (inI_nI (by omega) (by omega)) (nI_clamp (by omega)) ?_
        rw [up2_upr]
        refine a_goto rfl ?_
        refine a_i5 rfl rfl rfl ?_
        refine a_goto rfl ?_
        first | exact absurd ‹(1 : Int32) = 0› (by decide) | exact absurd rfl ‹¬ (0 : Int32) = 0› | exact a_back (ih (mm - 1) _ _ (by omega) ⟨j + 1, _, by omega, rfl, rfl, by rw [hr]; exact ⟨(if_pos rfl).trans (rfl), Stk.upd hv.2 fun q hq => if_neg (by omega)⟩⟩) (by simp [lsub, nI_1, hr, ← Nat.add_assoc]) rfl
      · obtain ⟨x, y, r, hs, hr, h01⟩ := two_of hF (c := trN k m) e3 (by unfold trN; rw [if_neg (by omega), if_neg (by omega)]; omega) (by unfold trN; rw [if_neg (by omega), if_neg (by omega)]; omega) ht'
        rw [hs] at hv hlen ⊢
        simp only [List.length_cons]
        have hlr : r.length + 1 + 1 = tj.length := hlen
        have hkk : k = 10 ∨ k = 11 ∨ k = 12 ∨ k = 14 ∨ k = 15 := by omega
        rcases hkk with rfl | rfl | rfl | rfl | rfl
        · refine a_l5 rfl rfl rfl ?_
          refine a_l0 rfl rfl rfl ?_
          refine a_getq rfl gfX12_13_12 rfl (rfl) ?_
          refine a_l4 rfl rfl rfl ?_
          refine a_s rfl rfl ?_
          refine a_s rfl rfl ?_
          refine a_top (nI_addl (336 + 4 * n) 3) ?_
          refine a_ialdv (v := nI (a + N)) rfl (n := 2033) rfl (inI_nI (by omega) (by omega)) (by rw [nI_clamp (by omega)]; rw [upr_row (by decide)]; exact h3) ?_
          refine a_ic_ge rfl (fun c => absurd c (nI_ge (by omega) (by omega))) (fun c33 => ?_)
          refine a_l0 rfl rfl rfl ?_
          refine a_getq rfl gfX12_13_12 rfl (rfl) ?_
          refine a_s rfl rfl ?_
          refine a_s rfl rfl ?_
          refine a_l5 rfl rfl rfl ?_
          refine a_s rfl rfl ?_
          refine a_s rfl rfl ?_
          refine a_top (y := nI (384 + 2 * (a + j))) (by rw [show (2 : Int32) = nI 2 from rfl, show (384 : Int32) = nI 384 from rfl, nI_mul, nI_addl]) ?_
          refine a_ialdv (v := nI 10) rfl (n := 2033) rfl (inI_nI (by omega) (by omega)) (by rw [nI_clamp (by omega)]; rw [upr_row (by decide)]; exact e1) ?_
          refine a_s6 rfl rfl rfl rfl rfl rfl ?_
          refine a_l6 rfl rfl rfl ?_
          refine a_s rfl rfl ?_
          refine a_ic_gt rfl (fun c55 => ?_) (fun c => absurd (by decide) c)
          refine a_l6 rfl rfl rfl ?_
          refine a_s rfl rfl ?_
          refine a_ic_ne rfl (fun c96 => ?_) (fun c => absurd c (by decide))
          refine a_i3 rfl rfl rfl ?_
          rw [nI_decm]
          refine a_l0 rfl rfl rfl ?_
          refine a_getq rfl gfX12_39_12 rfl (rfl) ?_
          refine a_l3 rfl rfl rfl ?_
          refine a_s rfl rfl ?_
          refine a_s rfl rfl ?_
          refine a_top (nI_dec _) ?_
          refine a_ialdv (v := x) rfl (n := 400) rfl (inI_nI (by omega) (by omega)) (by rw [nI_clamp (by omega)]; rw [upr_at]; exact hv.2.1) ?_
          refine a_s7 rfl rfl rfl rfl rfl rfl ?_
          refine a_l0 rfl rfl rfl ?_
          refine a_getq rfl gfX12_39_12 rfl (rfl) ?_
          refine a_l3 rfl rfl rfl ?_
          refine a_ialdv (v := y) rfl (n := 400) rfl (inI_nI (by omega) (by omega)) (by rw [nI_clamp (by omega)]; rw [upr_at]; exact hv.1) ?_
          refine a_s8 rfl rfl rfl rfl rfl rfl ?_
          refine a_l6 rfl rfl rfl ?_
          refine a_s rfl rfl ?_
          refine a_ic_ne rfl (fun c145 => ?_) (fun c => absurd c (by decide))
          refine a_l6 rfl rfl rfl ?_
          refine a_s rfl rfl ?_
          refine a_ic_ne rfl (fun c167 => ?_) (fun c => absurd c (by decide))
          refine a_l6 rfl rfl rfl ?_
          refine a_s rfl rfl ?_
          refine a_ic_ne rfl (fun c189 => ?_) (fun c => absurd c (by decide))
          refine a_l7 rfl rfl rfl ?_
          refine a_l8 rfl rfl rfl ?_
          refine a_s rfl rfl ?_
          refine a_if_le rfl (fun c214 => ?_) (fun c214 => ?_)
          · refine a_s rfl rfl ?_
            refine a_s9 rfl rfl rfl rfl rfl rfl ?_
            refine a_l0 rfl rfl rfl ?_
            refine a_getq rfl gfX12_39_12 rfl (rfl) ?_
            refine a_l3 rfl rfl rfl ?_
            refine a_s rfl rfl ?_
            refine a_s rfl rfl ?_
            refine a_top (nI_dec _) ?_
            refine a_l6 rfl rfl rfl ?_
            refine a_s rfl rfl ?_
            refine a_ic_ne rfl (fun c => absurd c (fun z => z rfl)) (fun c235 => ?_)
            refine a_l7 rfl rfl rfl ?_
            refine a_l8 rfl rfl rfl ?_
            refine a_s rfl rfl ?_
            refine a_goto rfl ?_
            refine a_iastv (k := r.length) rfl (n := 400) rfl (inI_nI (by omega) (by omega)) (nI_clamp (by omega)) ?_
            rw [up2_upr]
            refine a_i5 rfl rfl rfl ?_
            refine a_goto rfl ?_
            exact a_back (ih (mm - 1) _ _ (by omega) ⟨j + 1, _, by omega, rfl, rfl, by rw [hr]; exact ⟨(if_pos rfl).trans (rfl), Stk.upd hv.2.2 fun q hq => if_neg (by omega)⟩⟩) (by simp [lsub, nI_1, hr, ← Nat.add_assoc]) rfl
          · refine a_s rfl rfl ?_
            refine a_goto rfl ?_
            refine a_s9 rfl rfl rfl rfl rfl rfl ?_
            refine a_l0 rfl rfl rfl ?_
            refine a_getq rfl gfX12_39_12 rfl (rfl) ?_
            refine a_l3 rfl rfl rfl ?_
            refine a_s rfl rfl ?_
            refine a_s rfl rfl ?_
            refine a_top (nI_dec _) ?_
            refine a_l6 rfl rfl rfl ?_
            refine a_s rfl rfl ?_
            refine a_ic_ne rfl (fun c => absurd c (fun z => z rfl)) (fun c235 => ?_)
            refine a_l7 rfl rfl rfl ?_
            refine a_l8 rfl rfl rfl ?_
            refine a_s rfl rfl ?_
            refine a_goto rfl ?_
            refine a_iastv (k := r.length) rfl (n := 400) rfl (inI_nI (by omega) (by omega)) (nI_clamp (by omega)) ?_
            rw [up2_upr]
            refine a_i5 rfl rfl rfl ?_
            refine a_goto rfl ?_
            exact a_back (ih (mm - 1) _ _ (by omega) ⟨j + 1, _, by omega, rfl, rfl, by rw [hr]; exact ⟨(if_pos rfl).trans (rfl), Stk.upd hv.2.2 fun q hq => if_neg (by omega)⟩⟩) (by simp [lsub, nI_1, hr, ← Nat.add_assoc]) rfl
        · refine a_l5 rfl rfl rfl ?_
          refine a_l0 rfl rfl rfl ?_
          refine a_getq rfl gfX12_13_12 rfl (rfl) ?_
          refine a_l4 rfl rfl rfl ?_
          refine a_s rfl rfl ?_
          refine a_s rfl rfl ?_
          refine a_top (nI_addl (336 + 4 * n) 3) ?_
          refine a_ialdv (v := nI (a + N)) rfl (n := 2033) rfl (inI_nI (by omega) (by omega)) (by rw [nI_clamp (by omega)]; rw [upr_row (by decide)]; exact h3) ?_
          refine a_ic_ge rfl (fun c => absurd c (nI_ge (by omega) (by omega))) (fun c33 => ?_)
          refine a_l0 rfl rfl rfl ?_
          refine a_getq rfl gfX12_13_12 rfl (rfl) ?_
          refine a_s rfl rfl ?_
          refine a_s rfl rfl ?_
          refine a_l5 rfl rfl rfl ?_
          refine a_s rfl rfl ?_
          refine a_s rfl rfl ?_
          refine a_top (y := nI (384 + 2 * (a + j))) (by rw [show (2 : Int32) = nI 2 from rfl, show (384 : Int32) = nI 384 from rfl, nI_mul, nI_addl]) ?_
          refine a_ialdv (v := nI 11) rfl (n := 2033) rfl (inI_nI (by omega) (by omega)) (by rw [nI_clamp (by omega)]; rw [upr_row (by decide)]; exact e1) ?_
          refine a_s6 rfl rfl rfl rfl rfl rfl ?_
          refine a_l6 rfl rfl rfl ?_
          refine a_s rfl rfl ?_
          refine a_ic_gt rfl (fun c55 => ?_) (fun c => absurd (by decide) c)
          refine a_l6 rfl rfl rfl ?_
          refine a_s rfl rfl ?_
          refine a_ic_ne rfl (fun c96 => ?_) (fun c => absurd c (by decide))
          refine a_i3 rfl rfl rfl ?_
          rw [nI_decm]
          refine a_l0 rfl rfl rfl ?_
          refine a_getq rfl gfX12_39_12 rfl (rfl) ?_
          refine a_l3 rfl rfl rfl ?_
          refine a_s rfl rfl ?_
          refine a_s rfl rfl ?_
          refine a_top (nI_dec _) ?_
          refine a_ialdv (v := x) rfl (n := 400) rfl (inI_nI (by omega) (by omega)) (by rw [nI_clamp (by omega)]; rw [upr_at]; exact hv.2.1) ?_
          refine a_s7 rfl rfl rfl rfl rfl rfl ?_
          refine a_l0 rfl rfl rfl ?_
          refine a_getq rfl gfX12_39_12 rfl (rfl) ?_
          refine a_l3 rfl rfl rfl ?_
          refine a_ialdv (v := y) rfl (n := 400) rfl (inI_nI (by omega) (by omega)) (by rw [nI_clamp (by omega)]; rw [upr_at]; exact hv.1) ?_
          refine a_s8 rfl rfl rfl rfl rfl rfl ?_
          refine a_l6 rfl rfl rfl ?_
          refine a_s rfl rfl ?_
          refine a_ic_ne rfl (fun c => absurd c (fun z => z rfl)) (fun c145 => ?_)
          refine a_l7 rfl rfl rfl ?_
          refine a_l8 rfl rfl rfl ?_
          refine a_ic_ge rfl (fun c152 => ?_) (fun c152 => ?_)
          · refine a_s rfl rfl ?_
            refine a_goto rfl ?_
            refine a_s9 rfl rfl rfl rfl rfl rfl ?_
            refine a_l0 rfl rfl rfl ?_
            refine a_getq rfl gfX12_39_12 rfl (rfl) ?_
            refine a_l3 rfl rfl rfl ?_
            refine a_s rfl rfl ?_
            refine a_s rfl rfl ?_
            refine a_top (nI_dec _) ?_
            refine a_l6 rfl rfl rfl ?_
            refine a_s rfl rfl ?_
            refine a_ic_ne rfl (fun c235 => ?_) (fun c => absurd c (by decide))
            refine a_l9 rfl rfl rfl ?_
            refine a_if_eq rfl (fun c248 => ?_) (fun c248 => ?_)
            · refine a_s rfl rfl ?_
              refine a_iastv (k := r.length) rfl (n := 400) rfl (inI_nI (by omega) (by omega)) (nI_clamp (by omega)) ?_
              rw [up2_upr]
              refine a_i5 rfl rfl rfl ?_
              refine a_goto rfl ?_
              exact a_back (ih (mm - 1) _ _ (by omega) ⟨j + 1, _, by omega, rfl, rfl, by rw [hr]; exact ⟨(if_pos rfl).trans (show (0 : Int32) = (if x < y then 1 else 0) from (if_neg (Int32.not_lt.mpr c152)).symm), Stk.upd hv.2.2 fun q hq => if_neg (by omega)⟩⟩) (by simp [lsub, nI_1, hr, ← Nat.add_assoc]) rfl
            · refine a_s rfl rfl ?_
              refine a_goto rfl ?_
              refine a_iastv (k := r.length) rfl (n := 400) rfl (inI_nI (by omega) (by omega)) (nI_clamp (by omega)) ?_
              rw [up2_upr]
              refine a_i5 rfl rfl rfl ?_
              refine a_goto rfl ?_
              exact absurd rfl c248
          · refine a_s rfl rfl ?_
            refine a_goto rfl ?_
            refine a_s9 rfl rfl rfl rfl rfl rfl ?_
            refine a_l0 rfl rfl rfl ?_
            refine a_getq rfl gfX12_39_12 rfl (rfl) ?_
            refine a_l3 rfl rfl rfl ?_
            refine a_s rfl rfl ?_
            refine a_s rfl rfl ?_
            refine a_top (nI_dec _) ?_
            refine a_l6 rfl rfl rfl ?_
            refine a_s rfl rfl ?_
            refine a_ic_ne rfl (fun c235 => ?_) (fun c => absurd c (by decide))
            refine a_l9 rfl rfl rfl ?_
            refine a_if_eq rfl (fun c248 => ?_) (fun c248 => ?_)
            · refine a_s rfl rfl ?_
              refine a_iastv (k := r.length) rfl (n := 400) rfl (inI_nI (by omega) (by omega)) (nI_clamp (by omega)) ?_
              rw [up2_upr]
              refine a_i5 rfl rfl rfl ?_
              refine a_goto rfl ?_
              exact absurd c248 (by decide)
            · refine a_s rfl rfl ?_
              refine a_goto rfl ?_
              refine a_iastv (k := r.length) rfl (n := 400) rfl (inI_nI (by omega) (by omega)) (nI_clamp (by omega)) ?_
              rw [up2_upr]
              refine a_i5 rfl rfl rfl ?_
              refine a_goto rfl ?_
              exact a_back (ih (mm - 1) _ _ (by omega) ⟨j + 1, _, by omega, rfl, rfl, by rw [hr]; exact ⟨(if_pos rfl).trans (show (1 : Int32) = (if x < y then 1 else 0) from (if_pos (Int32.not_le.mp c152)).symm), Stk.upd hv.2.2 fun q hq => if_neg (by omega)⟩⟩) (by simp [lsub, nI_1, hr, ← Nat.add_assoc]) rfl
        · refine a_l5 rfl rfl rfl ?_
          refine a_l0 rfl rfl rfl ?_
          refine a_getq rfl gfX12_13_12 rfl (rfl) ?_
          refine a_l4 rfl rfl rfl ?_
          refine a_s rfl rfl ?_
          refine a_s rfl rfl ?_
          refine a_top (nI_addl (336 + 4 * n) 3) ?_
          refine a_ialdv (v := nI (a + N)) rfl (n := 2033) rfl (inI_nI (by omega) (by omega)) (by rw [nI_clamp (by omega)]; rw [upr_row (by decide)]; exact h3) ?_
          refine a_ic_ge rfl (fun c => absurd c (nI_ge (by omega) (by omega))) (fun c33 => ?_)
          refine a_l0 rfl rfl rfl ?_
          refine a_getq rfl gfX12_13_12 rfl (rfl) ?_
          refine a_s rfl rfl ?_
          refine a_s rfl rfl ?_
          refine a_l5 rfl rfl rfl ?_
          refine a_s rfl rfl ?_
          refine a_s rfl rfl ?_
          refine a_top (y := nI (384 + 2 * (a + j))) (by rw [show (2 : Int32) = nI 2 from rfl, show (384 : Int32) = nI 384 from rfl, nI_mul, nI_addl]) ?_
          refine a_ialdv (v := nI 12) rfl (n := 2033) rfl (inI_nI (by omega) (by omega)) (by rw [nI_clamp (by omega)]; rw [upr_row (by decide)]; exact e1) ?_
          refine a_s6 rfl rfl rfl rfl rfl rfl ?_
          refine a_l6 rfl rfl rfl ?_
          refine a_s rfl rfl ?_
          refine a_ic_gt rfl (fun c55 => ?_) (fun c => absurd (by decide) c)
          refine a_l6 rfl rfl rfl ?_
          refine a_s rfl rfl ?_
          refine a_ic_ne rfl (fun c96 => ?_) (fun c => absurd c (by decide))
          refine a_i3 rfl rfl rfl ?_
          rw [nI_decm]
          refine a_l0 rfl rfl rfl ?_
          refine a_getq rfl gfX12_39_12 rfl (rfl) ?_
          refine a_l3 rfl rfl rfl ?_
          refine a_s rfl rfl ?_
          refine a_s rfl rfl ?_
          refine a_top (nI_dec _) ?_
          refine a_ialdv (v := x) rfl (n := 400) rfl (inI_nI (by omega) (by omega)) (by rw [nI_clamp (by omega)]; rw [upr_at]; exact hv.2.1) ?_
          refine a_s7 rfl rfl rfl rfl rfl rfl ?_
          refine a_l0 rfl rfl rfl ?_
          refine a_getq rfl gfX12_39_12 rfl (rfl) ?_
          refine a_l3 rfl rfl rfl ?_
          refine a_ialdv (v := y) rfl (n := 400) rfl (inI_nI (by omega) (by omega)) (by rw [nI_clamp (by omega)]; rw [upr_at]; exact hv.1) ?_
          refine a_s8 rfl rfl rfl rfl rfl rfl ?_
          refine a_l6 rfl rfl rfl ?_
          refine a_s rfl rfl ?_
          refine a_ic_ne rfl (fun c145 => ?_) (fun c => absurd c (by decide))
          refine a_l6 rfl rfl rfl ?_
          refine a_s rfl rfl ?_
          refine a_ic_ne rfl (fun c => absurd c (fun z => z rfl)) (fun c167 => ?_)
          refine a_l7 rfl rfl rfl ?_
          refine a_l8 rfl rfl rfl ?_
          refine a_ic_le rfl (fun c174 => ?_) (fun c174 => ?_)
          · refine a_s rfl rfl ?_
            refine a_goto rfl ?_
            refine a_s9 rfl rfl rfl rfl rfl rfl ?_
            refine a_l0 rfl rfl rfl ?_
            refine a_getq rfl gfX12_39_12 rfl (rfl) ?_
            refine a_l3 rfl rfl rfl ?_
            refine a_s rfl rfl ?_
            refine a_s rfl rfl ?_
            refine a_top (nI_dec _) ?_
            refine a_l6 rfl rfl rfl ?_
            refine a_s rfl rfl ?_
            refine a_ic_ne rfl (fun c235 => ?_) (fun c => absurd c (by decide))
            refine a_l9 rfl rfl rfl ?_
            refine a_if_eq rfl (fun c248 => ?_) (fun c248 => ?_)
            · refine a_s rfl rfl ?_
              refine a_iastv (k := r.length) rfl (n := 400) rfl (inI_nI (by omega) (by omega)) (nI_clamp (by omega)) ?_
              rw [up2_upr]
              refine a_i5 rfl rfl rfl ?_
              refine a_goto rfl ?_
              exact a_back (ih (mm - 1) _ _ (by omega) ⟨j + 1, _, by omega, rfl, rfl, by rw [hr]; exact ⟨(if_pos rfl).trans (show (0 : Int32) = (if y < x then 1 else 0) from (if_neg (Int32.not_lt.mpr c174)).symm), Stk.upd hv.2.2 fun q hq => if_neg (by omega)⟩⟩) (by simp [lsub, nI_1, hr, ← Nat.add_assoc]) rfl
            · refine a_s rfl rfl ?_
              refine a_goto rfl ?_
              refine a_iastv (k := r.length) rfl (n := 400) rfl (inI_nI (by omega) (by omega)) (nI_clamp (by omega)) ?_
              rw [up2_upr]
              refine a_i5 rfl rfl rfl ?_
              refine a_goto rfl ?_
              exact absurd rfl c248
          · refine a_s rfl rfl ?_
            refine a_goto rfl ?_
            refine a_s9 rfl rfl rfl rfl rfl rfl ?_
            refine a_l0 rfl rfl rfl ?_
            refine a_getq rfl gfX12_39_12 rfl (rfl) ?_
            refine a_l3 rfl rfl rfl ?_
            refine a_s rfl rfl ?_
            refine a_s rfl rfl ?_
            refine a_top (nI_dec _) ?_
            refine a_l6 rfl rfl rfl ?_
            refine a_s rfl rfl ?_
            refine a_ic_ne rfl (fun c235 => ?_) (fun c => absurd c (by decide))
            refine a_l9 rfl rfl rfl ?_
            refine a_if_eq rfl (fun c248 => ?_) (fun c248 => ?_)
            · refine a_s rfl rfl ?_
              refine a_iastv (k := r.length) rfl (n := 400) rfl (inI_nI (by omega) (by omega)) (nI_clamp (by omega)) ?_
              rw [up2_upr]
              refine a_i5 rfl rfl rfl ?_
              refine a_goto rfl ?_
              exact absurd c248 (by decide)
            · refine a_s rfl rfl ?_
              refine a_goto rfl ?_
              refine a_iastv (k := r.length) rfl (n := 400) rfl (inI_nI (by omega) (by omega)) (nI_clamp (by omega)) ?_
              rw [up2_upr]
              refine a_i5 rfl rfl rfl ?_
              refine a_goto rfl ?_
              exact a_back (ih (mm - 1) _ _ (by omega) ⟨j + 1, _, by omega, rfl, rfl, by rw [hr]; exact ⟨(if_pos rfl).trans (show (1 : Int32) = (if y < x then 1 else 0) from (if_pos (Int32.not_le.mp c174)).symm), Stk.upd hv.2.2 fun q hq => if_neg (by omega)⟩⟩) (by simp [lsub, nI_1, hr, ← Nat.add_assoc]) rfl
        · replace h01 := h01 (Or.inl rfl)
          refine a_l5 rfl rfl rfl ?_
          refine a_l0 rfl rfl rfl ?_
          refine a_getq rfl gfX12_13_12 rfl (rfl) ?_
          refine a_l4 rfl rfl rfl ?_
          refine a_s rfl rfl ?_
          refine a_s rfl rfl ?_
          refine a_top (nI_addl (336 + 4 * n) 3) ?_
          refine a_ialdv (v := nI (a + N)) rfl (n := 2033) rfl (inI_nI (by omega) (by omega)) (by rw [nI_clamp (by omega)]; rw [upr_row (by decide)]; exact h3) ?_
          refine a_ic_ge rfl (fun c => absurd c (nI_ge (by omega) (by omega))) (fun c33 => ?_)
          refine a_l0 rfl rfl rfl ?_
          refine a_getq rfl gfX12_13_12 rfl (rfl) ?_
          refine a_s rfl rfl ?_
          refine a_s rfl rfl ?_
          refine a_l5 rfl rfl rfl ?_
          refine a_s rfl rfl ?_
          refine a_s rfl rfl ?_
          refine a_top (y := nI (384 + 2 * (a + j))) (by rw [show (2 : Int32) = nI 2 from rfl, show (384 : Int32) = nI 384 from rfl, nI_mul, nI_addl]) ?_
          refine a_ialdv (v := nI 14) rfl (n := 2033) rfl (inI_nI (by omega) (by omega)) (by rw [nI_clamp (by omega)]; rw [upr_row (by decide)]; exact e1) ?_
          refine a_s6 rfl rfl rfl rfl rfl rfl ?_
          refine a_l6 rfl rfl rfl ?_
          refine a_s rfl rfl ?_
          refine a_ic_gt rfl (fun c55 => ?_) (fun c => absurd (by decide) c)
          refine a_l6 rfl rfl rfl ?_
          refine a_s rfl rfl ?_
          refine a_ic_ne rfl (fun c96 => ?_) (fun c => absurd c (by decide))
          refine a_i3 rfl rfl rfl ?_
          rw [nI_decm]
          refine a_l0 rfl rfl rfl ?_
          refine a_getq rfl gfX12_39_12 rfl (rfl) ?_
          refine a_l3 rfl rfl rfl ?_
          refine a_s rfl rfl ?_
          refine a_s rfl rfl ?_
          refine a_top (nI_dec _) ?_
          refine a_ialdv (v := x) rfl (n := 400) rfl (inI_nI (by omega) (by omega)) (by rw [nI_clamp (by omega)]; rw [upr_at]; exact hv.2.1) ?_
          refine a_s7 rfl rfl rfl rfl rfl rfl ?_
          refine a_l0 rfl rfl rfl ?_
          refine a_getq rfl gfX12_39_12 rfl (rfl) ?_
          refine a_l3 rfl rfl rfl ?_
          refine a_ialdv (v := y) rfl (n := 400) rfl (inI_nI (by omega) (by omega)) (by rw [nI_clamp (by omega)]; rw [upr_at]; exact hv.1) ?_
          refine a_s8 rfl rfl rfl rfl rfl rfl ?_
          refine a_l6 rfl rfl rfl ?_
          refine a_s rfl rfl ?_
          refine a_ic_ne rfl (fun c145 => ?_) (fun c => absurd c (by decide))
          refine a_l6 rfl rfl rfl ?_
          refine a_s rfl rfl ?_
          refine a_ic_ne rfl (fun c167 => ?_) (fun c => absurd c (by decide))
          refine a_l6 rfl rfl rfl ?_
          refine a_s rfl rfl ?_
          refine a_ic_ne rfl (fun c => absurd c (fun z => z rfl)) (fun c189 => ?_)
          refine a_l7 rfl rfl rfl ?_
          refine a_l8 rfl rfl rfl ?_
          refine a_s rfl rfl ?_
          refine a_s rfl rfl ?_
          refine a_ic_ne rfl (fun c198 => ?_) (fun c198 => ?_)
          · refine a_s rfl rfl ?_
            refine a_goto rfl ?_
            refine a_s9 rfl rfl rfl rfl rfl rfl ?_
            refine a_l0 rfl rfl rfl ?_
            refine a_getq rfl gfX12_39_12 rfl (rfl) ?_
            refine a_l3 rfl rfl rfl ?_
            refine a_s rfl rfl ?_
            refine a_s rfl rfl ?_
            refine a_top (nI_dec _) ?_
            refine a_l6 rfl rfl rfl ?_
            refine a_s rfl rfl ?_
            refine a_ic_ne rfl (fun c235 => ?_) (fun c => absurd c (by decide))
            refine a_l9 rfl rfl rfl ?_
            refine a_if_eq rfl (fun c248 => ?_) (fun c248 => ?_)
            · refine a_s rfl rfl ?_
              refine a_iastv (k := r.length) rfl (n := 400) rfl (inI_nI (by omega) (by omega)) (nI_clamp (by omega)) ?_
              rw [up2_upr]
              refine a_i5 rfl rfl rfl ?_
              refine a_goto rfl ?_
              exact a_back (ih (mm - 1) _ _ (by omega) ⟨j + 1, _, by omega, rfl, rfl, by rw [hr]; exact ⟨(if_pos rfl).trans (show (0 : Int32) = x &&& y from (by rcases h01.1 with rfl | rfl <;> rcases h01.2 with rfl | rfl <;> first | rfl | exact absurd (by decide) c198)), Stk.upd hv.2.2 fun q hq => if_neg (by omega)⟩⟩) (by simp [lsub, nI_1, hr, ← Nat.add_assoc]) rfl
            · refine a_s rfl rfl ?_
              refine a_goto rfl ?_
              refine a_iastv (k := r.length) rfl (n := 400) rfl (inI_nI (by omega) (by omega)) (nI_clamp (by omega)) ?_
              rw [up2_upr]
              refine a_i5 rfl rfl rfl ?_
              refine a_goto rfl ?_
              exact absurd rfl c248
          · refine a_s rfl rfl ?_
            refine a_goto rfl ?_
            refine a_s9 rfl rfl rfl rfl rfl rfl ?_
            refine a_l0 rfl rfl rfl ?_
            refine a_getq rfl gfX12_39_12 rfl (rfl) ?_
            refine a_l3 rfl rfl rfl ?_
            refine a_s rfl rfl ?_
            refine a_s rfl rfl ?_
            refine a_top (nI_dec _) ?_
            refine a_l6 rfl rfl rfl ?_
            refine a_s rfl rfl ?_
            refine a_ic_ne rfl (fun c235 => ?_) (fun c => absurd c (by decide))
            refine a_l9 rfl rfl rfl ?_
            refine a_if_eq rfl (fun c248 => ?_) (fun c248 => ?_)
            · refine a_s rfl rfl ?_
              refine a_iastv (k := r.length) rfl (n := 400) rfl (inI_nI (by omega) (by omega)) (nI_clamp (by omega)) ?_
              rw [up2_upr]
              refine a_i5 rfl rfl rfl ?_
              refine a_goto rfl ?_
              exact absurd c248 (by decide)
            · refine a_s rfl rfl ?_
              refine a_goto rfl ?_
              refine a_iastv (k := r.length) rfl (n := 400) rfl (inI_nI (by omega) (by omega)) (nI_clamp (by omega)) ?_
              rw [up2_upr]
              refine a_i5 rfl rfl rfl ?_
              refine a_goto rfl ?_
              exact a_back (ih (mm - 1) _ _ (by omega) ⟨j + 1, _, by omega, rfl, rfl, by rw [hr]; exact ⟨(if_pos rfl).trans (show (1 : Int32) = x &&& y from (by rcases h01.1 with rfl | rfl <;> rcases h01.2 with rfl | rfl <;> first | exact absurd c198 (by decide) | rfl)), Stk.upd hv.2.2 fun q hq => if_neg (by omega)⟩⟩) (by simp [lsub, nI_1, hr, ← Nat.add_assoc]) rfl
        · replace h01 := h01 (Or.inr rfl)
          refine a_l5 rfl rfl rfl ?_
          refine a_l0 rfl rfl rfl ?_
          refine a_getq rfl gfX12_13_12 rfl (rfl) ?_
          refine a_l4 rfl rfl rfl ?_
          refine a_s rfl rfl ?_
          refine a_s rfl rfl ?_
          refine a_top (nI_addl (336 + 4 * n) 3) ?_
          refine a_ialdv (v := nI (a + N)) rfl (n := 2033) rfl (inI_nI (by omega) (by omega)) (by rw [nI_clamp (by omega)]; rw [upr_row (by decide)]; exact h3) ?_
          refine a_ic_ge rfl (fun c => absurd c (nI_ge (by omega) (by omega))) (fun c33 => ?_)
          refine a_l0 rfl rfl rfl ?_
          refine a_getq rfl gfX12_13_12 rfl (rfl) ?_
          refine a_s rfl rfl ?_
          refine a_s rfl rfl ?_
          refine a_l5 rfl rfl rfl ?_
          refine a_s rfl rfl ?_
          refine a_s rfl rfl ?_
          refine a_top (y := nI (384 + 2 * (a + j))) (by rw [show (2 : Int32) = nI 2 from rfl, show (384 : Int32) = nI 384 from rfl, nI_mul, nI_addl]) ?_
          refine a_ialdv (v := nI 15) rfl (n := 2033) rfl (inI_nI (by omega) (by omega)) (by rw [nI_clamp (by omega)]; rw [upr_row (by decide)]; exact e1) ?_
          refine a_s6 rfl rfl rfl rfl rfl rfl ?_
          refine a_l6 rfl rfl rfl ?_
          refine a_s rfl rfl ?_
          refine a_ic_gt rfl (fun c55 => ?_) (fun c => absurd (by decide) c)
          refine a_l6 rfl rfl rfl ?_
          refine a_s rfl rfl ?_
          refine a_ic_ne rfl (fun c96 => ?_) (fun c => absurd c (by decide))
          refine a_i3 rfl rfl rfl ?_
          rw [nI_decm]
          refine a_l0 rfl rfl rfl ?_
          refine a_getq rfl gfX12_39_12 rfl (rfl) ?_
          refine a_l3 rfl rfl rfl ?_
          refine a_s rfl rfl ?_
          refine a_s rfl rfl ?_
          refine a_top (nI_dec _) ?_
          refine a_ialdv (v := x) rfl (n := 400) rfl (inI_nI (by omega) (by omega)) (by rw [nI_clamp (by omega)]; rw [upr_at]; exact hv.2.1) ?_
          refine a_s7 rfl rfl rfl rfl rfl rfl ?_
          refine a_l0 rfl rfl rfl ?_
          refine a_getq rfl gfX12_39_12 rfl (rfl) ?_
          refine a_l3 rfl rfl rfl ?_
          refine a_ialdv (v := y) rfl (n := 400) rfl (inI_nI (by omega) (by omega)) (by rw [nI_clamp (by omega)]; rw [upr_at]; exact hv.1) ?_
          refine a_s8 rfl rfl rfl rfl rfl rfl ?_
          refine a_l6 rfl rfl rfl ?_
          refine a_s rfl rfl ?_
          refine a_ic_ne rfl (fun c145 => ?_) (fun c => absurd c (by decide))
          refine a_l6 rfl rfl rfl ?_
          refine a_s rfl rfl ?_
          refine a_ic_ne rfl (fun c167 => ?_) (fun c => absurd c (by decide))
          refine a_l6 rfl rfl rfl ?_
          refine a_s rfl rfl ?_
          refine a_ic_ne rfl (fun c189 => ?_) (fun c => absurd c (by decide))
          refine a_l7 rfl rfl rfl ?_
          refine a_l8 rfl rfl rfl ?_
          refine a_s rfl rfl ?_
          refine a_if_le rfl (fun c214 => ?_) (fun c214 => ?_)
          · refine a_s rfl rfl ?_
            refine a_s9 rfl rfl rfl rfl rfl rfl ?_
            refine a_l0 rfl rfl rfl ?_
            refine a_getq rfl gfX12_39_12 rfl (rfl) ?_
            refine a_l3 rfl rfl rfl ?_
            refine a_s rfl rfl ?_
            refine a_s rfl rfl ?_
            refine a_top (nI_dec _) ?_
            refine a_l6 rfl rfl rfl ?_
            refine a_s rfl rfl ?_
            refine a_ic_ne rfl (fun c235 => ?_) (fun c => absurd c (by decide))
            refine a_l9 rfl rfl rfl ?_
            refine a_if_eq rfl (fun c248 => ?_) (fun c248 => ?_)
            · refine a_s rfl rfl ?_
              refine a_iastv (k := r.length) rfl (n := 400) rfl (inI_nI (by omega) (by omega)) (nI_clamp (by omega)) ?_
              rw [up2_upr]
              refine a_i5 rfl rfl rfl ?_
              refine a_goto rfl ?_
              exact a_back (ih (mm - 1) _ _ (by omega) ⟨j + 1, _, by omega, rfl, rfl, by rw [hr]; exact ⟨(if_pos rfl).trans (show (0 : Int32) = x ||| y from (by rcases h01.1 with rfl | rfl <;> rcases h01.2 with rfl | rfl <;> first | rfl | exact absurd c214 (by decide))), Stk.upd hv.2.2 fun q hq => if_neg (by omega)⟩⟩) (by simp [lsub, nI_1, hr, ← Nat.add_assoc]) rfl
            · refine a_s rfl rfl ?_
              refine a_goto rfl ?_
              refine a_iastv (k := r.length) rfl (n := 400) rfl (inI_nI (by omega) (by omega)) (nI_clamp (by omega)) ?_
              rw [up2_upr]
              refine a_i5 rfl rfl rfl ?_
              refine a_goto rfl ?_
              exact absurd rfl c248
          · refine a_s rfl rfl ?_
            refine a_goto rfl ?_
            refine a_s9 rfl rfl rfl rfl rfl rfl ?_
            refine a_l0 rfl rfl rfl ?_
            refine a_getq rfl gfX12_39_12 rfl (rfl) ?_
            refine a_l3 rfl rfl rfl ?_
            refine a_s rfl rfl ?_
            refine a_s rfl rfl ?_
            refine a_top (nI_dec _) ?_
            refine a_l6 rfl rfl rfl ?_
            refine a_s rfl rfl ?_
            refine a_ic_ne rfl (fun c235 => ?_) (fun c => absurd c (by decide))
            refine a_l9 rfl rfl rfl ?_
            refine a_if_eq rfl (fun c248 => ?_) (fun c248 => ?_)
            · refine a_s rfl rfl ?_
              refine a_iastv (k := r.length) rfl (n := 400) rfl (inI_nI (by omega) (by omega)) (nI_clamp (by omega)) ?_
              rw [up2_upr]
              refine a_i5 rfl rfl rfl ?_
              refine a_goto rfl ?_
              exact absurd c248 (by decide)
            · refine a_s rfl rfl ?_
              refine a_goto rfl ?_
              refine a_iastv (k := r.length) rfl (n := 400) rfl (inI_nI (by omega) (by omega)) (nI_clamp (by omega)) ?_
              rw [up2_upr]
              refine a_i5 rfl rfl rfl ?_
              refine a_goto rfl ?_
              exact a_back (ih (mm - 1) _ _ (by omega) ⟨j + 1, _, by omega, rfl, rfl, by rw [hr]; exact ⟨(if_pos rfl).trans (show (1 : Int32) = x ||| y from (by rcases h01.1 with rfl | rfl <;> rcases h01.2 with rfl | rfl <;> first | exact absurd (by decide) c214 | rfl)), Stk.upd hv.2.2 fun q hq => if_neg (by omega)⟩⟩) (by simp [lsub, nI_1, hr, ← Nat.add_assoc]) rfl
end
section
/-! ===== the reference: sums of lines, growth, shame ===== -/
def sumL (F : Nat → Int32) (ki nu : Nat → Int32) (cd fa fn : Nat → Nat) (kind : Int32) : Nat → Int32
  | 0 => 0
  | n + 1 => if ki n = kind ∧ lineF F cd (fa n) (fn n) = true then sumL F ki nu cd fa fn kind n + nu n else sumL F ki nu cd fa fn kind n
/-- the world's law: nl lines (0 without one), their codes -/
def LawR (W : Nat → Int32) (nl len : Nat) (cd fa fn : Nat → Nat) : Prop := ((W 3 = 0 ∧ nl = 0) ∨ (W 3 = 1 ∧ W 335 = nI nl)) ∧ nl ≤ 12 ∧ len ≤ 400 ∧ RCo W cd len ∧ ∀ n, n < nl → W (336 + 4 * n + 2) = nI (fa n) ∧ W (336 + 4 * n + 3) = nI (fa n + fn n) ∧ fa n + fn n ≤ len ∧ LineOk cd (fa n) (fn n)
def kiW (W : Nat → Int32) (n : Nat) : Int32 := W (336 + 4 * n)
def nuW (W : Nat → Int32) (n : Nat) : Int32 := W (336 + 4 * n + 1)
def sumR (W : Nat → Int32) (cd fa fn : Nat → Nat) (nl d : Nat) (kind : Int32) : Int32 := sumL (factW W d) (kiW W) (nuW W) cd fa fn kind nl
def mx0 (x : Int32) : Int32 := if 0 < x then x else 0
def shameR (W : Nat → Int32) (cd fa fn : Nat → Nat) (nl d : Nat) : Int32 := mx0 (vd W 2 d + sumR W cd fa fn nl d 1 - sumR W cd fa fn nl d 2)
theorem RCo.mono {W : Nat → Int32} {cd : Nat → Nat} {n m : Nat} (h : RCo W cd n) (hm : m ≤ n) : RCo W cd m := fun i hi => h i (by omega)
set_option maxRecDepth 100000
theorem sp_X12_sumOf {S : aS} {I : Nat → Nat → Int32} {L : Nat → Nat → Int64} {w1 w2 t : Nat} {nd np d nl len : Nat} {cd fa fn : Nat → Nat} (hn : nd ≤ 12) (hp6 : np ≤ 6) (hd : d < nd) (hl : LeW nd (I 421)) (ho : OwW nd np (I 421)) (hw : LawR (I 421) nl len cd fa fn) {kind : Int32} : Sp S m_X12_sumOf 18 0 0 [.ref 420, .int kind, .int (nI d)] (hp I L w1 w2 t) (fun v h' => v = some (.int (sumR (I 421) cd fa fn nl d kind)) ∧ ∃ f, h' = hp (upr I 428 f) L w1 w2 t) (fun _ _ => False) := by
  refine Sp_of ok_X12_sumOf rfl rfl ?_
  show AW S m_X12_sumOf 18 _ _ 0 0 0 [some (.ref 420), some (.int kind), some (.int (nI d)), none, none] [] (hp I L w1 w2 t)
  refine a_s rfl rfl ?_
  refine a_s3 rfl rfl rfl rfl rfl rfl ?_
  refine a_s rfl rfl ?_
  refine a_s4 rfl rfl rfl rfl rfl rfl ?_
  skip
  refine a_inv (n := nl) (fun mm ls h => ∃ j v, j + mm = nl ∧ ls = [some (.ref 420), some (.int kind), some (.int (nI d)), some (.int (sumL (factW (I 421) d) (kiW (I 421)) (nuW (I 421)) cd fa fn kind j)), some (.int (nI j))] ∧ h = hp (upr I 428 v) L w1 w2 t) ⟨0, I 428, by omega, by rw [nI_0]; rfl, by rw [upr_self]⟩ ?_
  rintro mm _ _ ⟨j, v, hj, rfl, rfl⟩ ih
  obtain ⟨h3, hnl, hlen, hRC, hw0⟩ := hw
  by_cases hjn : j = nl
  · subst hjn
    rcases h3 with ⟨h3, rfl⟩ | ⟨h3, h335⟩
    · refine a_l0 rfl rfl rfl ?_
      refine a_getq rfl gfX12_13_12 rfl (rfl) ?_
      refine a_s rfl rfl ?_
      refine a_ialdv (v := 0) rfl (n := 2033) rfl ⟨by decide, by decide⟩ (by show upr I 428 v 421 3 = 0; rw [upr_row (by decide)]; exact h3) ?_
      refine a_s rfl rfl ?_
      refine a_ic_ne rfl (fun c12 => ?_) (fun c => absurd c (by decide))
      refine a_l3 rfl rfl rfl ?_
      refine a_iret rfl rfl ⟨rfl, v, rfl⟩
    · refine a_l0 rfl rfl rfl ?_
      refine a_getq rfl gfX12_13_12 rfl (rfl) ?_
      refine a_s rfl rfl ?_
      refine a_ialdv (v := 1) rfl (n := 2033) rfl ⟨by decide, by decide⟩ (by show upr I 428 v 421 3 = 1; rw [upr_row (by decide)]; exact h3) ?_
      refine a_s rfl rfl ?_
      refine a_ic_ne rfl (fun c => absurd c (fun z => z rfl)) (fun c12 => ?_)
      refine a_l4 rfl rfl rfl ?_
      refine a_l0 rfl rfl rfl ?_
      refine a_getq rfl gfX12_13_12 rfl (rfl) ?_
      refine a_s rfl rfl ?_
      refine a_ialdv (v := nI j) rfl (n := 2033) rfl ⟨by decide, by decide⟩ (by show upr I 428 v 421 335 = nI j; rw [upr_row (by decide)]; exact h335) ?_
      refine a_ic_ge rfl (fun c25 => ?_) (fun c => absurd (Int32.le_refl _) c)
      refine a_l3 rfl rfl rfl ?_
      refine a_iret rfl rfl ⟨rfl, v, rfl⟩
  · obtain ⟨hw1, hw2, hw3, hw4⟩ := hw0 j (by omega)
    obtain ⟨h3, h335⟩ := h3.resolve_left (fun z => by omega)
    refine a_l0 rfl rfl rfl ?_
    refine a_getq rfl gfX12_13_12 rfl (rfl) ?_
    refine a_s rfl rfl ?_
    refine a_ialdv (v := 1) rfl (n := 2033) rfl ⟨by decide, by decide⟩ (by show upr I 428 v 421 3 = 1; rw [upr_row (by decide)]; exact h3) ?_
    refine a_s rfl rfl ?_
    refine a_ic_ne rfl (fun c => absurd c (fun z => z rfl)) (fun c12 => ?_)
    refine a_l4 rfl rfl rfl ?_
    refine a_l0 rfl rfl rfl ?_
    refine a_getq rfl gfX12_13_12 rfl (rfl) ?_
    refine a_s rfl rfl ?_
    refine a_ialdv (v := nI nl) rfl (n := 2033) rfl ⟨by decide, by decide⟩ (by show upr I 428 v 421 335 = nI nl; rw [upr_row (by decide)]; exact h335) ?_
    refine a_ic_ge rfl (fun c => absurd c (nI_ge (by omega) (by omega))) (fun c25 => ?_)
    refine a_l0 rfl rfl rfl ?_
    refine a_getq rfl gfX12_13_12 rfl (rfl) ?_
    refine a_s rfl rfl ?_
    refine a_s rfl rfl ?_
    refine a_l4 rfl rfl rfl ?_
    refine a_s rfl rfl ?_
    refine a_s rfl rfl ?_
    refine a_top (y := nI (336 + 4 * j)) (by rw [show (4 : Int32) = nI 4 from rfl, show (336 : Int32) = nI 336 from rfl, nI_mul, nI_addl]) ?_
    refine a_ialdv (v := kiW (I 421) j) rfl (n := 2033) rfl (inI_nI (by omega) (by omega)) (by rw [nI_clamp (by omega), upr_row (by decide)]; rfl) ?_
    refine a_l1 rfl rfl rfl ?_
    refine a_ic_ne rfl (fun c42 => ?_) (fun c42 => ?_)
    · refine a_i4 rfl rfl rfl ?_
      refine a_goto rfl ?_
      exact a_back (ih (mm - 1) _ _ (by omega) ⟨j + 1, v, by omega, rfl, rfl⟩) (by simp [lsub, nI_1, sumL, show ¬ kiW (I 421) j = kind from c42]) rfl
    · refine a_l0 rfl rfl rfl ?_
      refine a_l4 rfl rfl rfl ?_
      refine a_l2 rfl rfl rfl ?_
      refine a_callV rfl lX12_259 mo_X12_holdsLine (sp_X12_holdsLine (n := j) (a := fa j) (N := fn j) (cd := cd) hn hp6 hd (by rw [upr_row (by decide)]; exact hl) (by rw [upr_row (by decide)]; exact ho) (by omega) (by rw [upr_row (by decide)]; exact hw1) (by rw [upr_row (by decide)]; exact hw2) (by omega) (by rw [upr_row (by decide)]; exact hRC.mono hw3) hw4) rfl rfl rfl ⟨12, _, rfl, rfl, rfl⟩ rfl (fun v' h' hv => ?_) (fun E h' hx => False.elim hx)
      obtain ⟨rfl, f, rfl⟩ := hv
      rw [upr_upr, upr_row (show 421 ≠ 428 by decide)]
      refine a_if_eq rfl (fun c52 => ?_) (fun c52 => ?_)
      · refine a_i4 rfl rfl rfl ?_
        refine a_goto rfl ?_
        exact a_back (ih (mm - 1) _ _ (by omega) ⟨j + 1, _, by omega, rfl, rfl⟩) (by simp [lsub, nI_1, sumL, show kiW (I 421) j = kind from c42, bI_f c52]) rfl
      · refine a_l3 rfl rfl rfl ?_
        refine a_l0 rfl rfl rfl ?_
        refine a_getq rfl gfX12_13_12 rfl (rfl) ?_
        refine a_s rfl rfl ?_
        refine a_s rfl rfl ?_
        refine a_l4 rfl rfl rfl ?_
        refine a_s rfl rfl ?_
        refine a_s rfl rfl ?_
        refine a_top (y := nI (336 + 4 * j)) (by rw [show (4 : Int32) = nI 4 from rfl, show (336 : Int32) = nI 336 from rfl, nI_mul, nI_addl]) ?_
        refine a_s rfl rfl ?_
        refine a_s rfl rfl ?_
        refine a_top (nI_addl (336 + 4 * j) 1) ?_
        refine a_ialdv (v := nuW (I 421) j) rfl (n := 2033) rfl (inI_nI (by omega) (by omega)) (by rw [nI_clamp (by omega), upr_row (by decide)]; rfl) ?_
        refine a_s rfl rfl ?_
        refine a_s3 rfl rfl rfl rfl rfl rfl ?_
        refine a_i4 rfl rfl rfl ?_
        refine a_goto rfl ?_
        exact a_back (ih (mm - 1) _ _ (by omega) ⟨j + 1, _, by omega, rfl, rfl⟩) (by simp [lsub, nI_1, sumL, show kiW (I 421) j = kind from c42, bI_t c52, nuW]) rfl
theorem sp_X12_growsBy {S : aS} {I : Nat → Nat → Int32} {L : Nat → Nat → Int64} {w1 w2 t : Nat} {nd np d nl len : Nat} {cd fa fn : Nat → Nat} (hn : nd ≤ 12) (hp6 : np ≤ 6) (hd : d < nd) (hl : LeW nd (I 421)) (ho : OwW nd np (I 421)) (hw : LawR (I 421) nl len cd fa fn) : Sp S m_X12_growsBy 19 0 0 [.ref 420, .int (nI d)] (hp I L w1 w2 t) (fun v h' => v = some (.int (sumR (I 421) cd fa fn nl d 0)) ∧ ∃ f, h' = hp (upr I 428 f) L w1 w2 t) (fun _ _ => False) := by
  refine Sp_of ok_X12_growsBy rfl rfl ?_
  show AW S m_X12_growsBy 19 _ _ 0 0 0 [some (.ref 420), some (.int (nI d))] [] (hp I L w1 w2 t)
  refine a_l0 rfl rfl rfl ?_
  refine a_s rfl rfl ?_
  refine a_l1 rfl rfl rfl ?_
  refine a_callV rfl lX12_262 mo_X12_sumOf (sp_X12_sumOf hn hp6 hd hl ho hw) rfl rfl rfl ⟨12, _, rfl, rfl, rfl⟩ rfl (fun v h' hv => ?_) (fun E h' hx => False.elim hx)
  obtain ⟨rfl, f, rfl⟩ := hv
  refine a_iret rfl rfl ⟨rfl, f, rfl⟩
theorem sp_X12_shamesBy {S : aS} {I : Nat → Nat → Int32} {L : Nat → Nat → Int64} {w1 w2 t : Nat} {nd np d nl len : Nat} {cd fa fn : Nat → Nat} (hn : nd ≤ 12) (hp6 : np ≤ 6) (hd : d < nd) (hl : LeW nd (I 421)) (ho : OwW nd np (I 421)) (hw : LawR (I 421) nl len cd fa fn) : Sp S m_X12_shamesBy 19 0 0 [.ref 420, .int (nI d)] (hp I L w1 w2 t) (fun v h' => v = some (.int (shameR (I 421) cd fa fn nl d)) ∧ ∃ f, h' = hp (upr I 428 f) L w1 w2 t) (fun _ _ => False) := by
  refine Sp_of ok_X12_shamesBy rfl rfl ?_
  show AW S m_X12_shamesBy 19 _ _ 0 0 0 [some (.ref 420), some (.int (nI d))] [] (hp I L w1 w2 t)
  refine a_s rfl rfl ?_
  refine a_l0 rfl rfl rfl ?_
  refine a_l1 rfl rfl rfl ?_
  refine a_s rfl rfl ?_
  refine a_eV1 rfl lX12_63 mo_X12_of (sp_X12_of (d := d) (k := 2) (by omega) (by decide)) rfl rfl rfl ⟨12, _, rfl, rfl, rfl⟩ rfl ?_
  refine a_l0 rfl rfl rfl ?_
  refine a_s rfl rfl ?_
  refine a_l1 rfl rfl rfl ?_
  refine a_callV rfl lX12_262 mo_X12_sumOf (sp_X12_sumOf hn hp6 hd hl ho hw) rfl rfl rfl ⟨12, _, rfl, rfl, rfl⟩ rfl (fun v h' hv => ?_) (fun E h' hx => False.elim hx)
  obtain ⟨rfl, f, rfl⟩ := hv
  refine a_s rfl rfl ?_
  refine a_l0 rfl rfl rfl ?_
  refine a_s rfl rfl ?_
  refine a_l1 rfl rfl rfl ?_
  refine a_callV rfl lX12_262 mo_X12_sumOf (sp_X12_sumOf hn hp6 hd (by rw [upr_row (by decide)]; exact hl) (by rw [upr_row (by decide)]; exact ho) (by rw [upr_row (by decide)]; exact hw)) rfl rfl rfl ⟨12, _, rfl, rfl, rfl⟩ rfl (fun v h' hv => ?_) (fun E h' hx => False.elim hx)
  obtain ⟨rfl, f2, rfl⟩ := hv
  rw [upr_upr, upr_row (show 421 ≠ 428 by decide)]
  refine a_s rfl rfl ?_
  refine a_max rfl lX12_265 mj_max rfl rfl ?_
  refine a_iret rfl rfl ⟨rfl, f2, rfl⟩
theorem sp_X12_shameOf {S : aS} {I : Nat → Nat → Int32} {L : Nat → Nat → Int64} {w1 w2 t : Nat} {nd np nl len : Nat} {cd fa fn : Nat → Nat} (hn : nd ≤ 12) (hp6 : np ≤ 6) (hdu : I 421 1 = nI nd) (hl : LeW nd (I 421)) (ho : OwW nd np (I 421)) (hw : LawR (I 421) nl len cd fa fn) {s : Int32} : Sp S m_X12_shameOf 20 0 0 [.ref 420, .int s] (hp I L w1 w2 t) (fun v h' => v = some (.int (sumF (shameR (I 421) cd fa fn nl) s nd)) ∧ ∃ f, h' = hp (upr I 428 f) L w1 w2 t) (fun _ _ => False) := by
  refine Sp_of ok_X12_shameOf rfl rfl ?_
  show AW S m_X12_shameOf 20 _ _ 0 0 0 [some (.ref 420), some (.int s), none, none] [] (hp I L w1 w2 t)
  refine a_s rfl rfl ?_
  refine a_s2 rfl rfl rfl rfl rfl rfl ?_
  refine a_s rfl rfl ?_
  refine a_s3 rfl rfl rfl rfl rfl rfl ?_
  skip
  refine a_inv (n := nd) (fun mm ls h => ∃ j v, j + mm = nd ∧ ls = [some (.ref 420), some (.int s), some (.int (sumF (shameR (I 421) cd fa fn nl) s j)), some (.int (nI j))] ∧ h = hp (upr I 428 v) L w1 w2 t) ⟨0, I 428, by omega, by rw [nI_0]; rfl, by rw [upr_self]⟩ ?_
  rintro mm _ _ ⟨j, v, hj, rfl, rfl⟩ ih
  by_cases hjn : j < nd
  · refine a_l3 rfl rfl rfl ?_
    refine a_l0 rfl rfl rfl ?_
    refine a_eV1 rfl lX12_74 mo_X12_duties (sp_X12_duties) rfl rfl rfl ⟨12, _, rfl, rfl, rfl⟩ rfl ?_
    refine a_top (y := nI nd) (by rw [upr_row (by decide)]; exact hdu) ?_
    refine a_ic_ge rfl (fun c => absurd c (nI_ge (by omega) (by omega))) (fun c9 => ?_)
    refine a_l2 rfl rfl rfl ?_
    refine a_l1 rfl rfl rfl ?_
    refine a_l3 rfl rfl rfl ?_
    refine a_eS1 rfl lX12_304 mo_X12_has (sp_X12_has) rfl rfl rfl rfl ?_
    refine a_if_eq rfl (fun c18 => ?_) (fun c18 => ?_)
    · refine a_s rfl rfl ?_
      refine a_s rfl rfl ?_
      refine a_s2 rfl rfl rfl rfl rfl rfl ?_
      refine a_i3 rfl rfl rfl ?_
      refine a_goto rfl ?_
      exact a_back (ih (mm - 1) _ _ (by omega) ⟨j + 1, v, by omega, rfl, rfl⟩) (by simp [lsub, nI_1, sumF, bI_f c18, Int32.add_zero]) rfl
    · refine a_l0 rfl rfl rfl ?_
      refine a_l3 rfl rfl rfl ?_
      refine a_callV rfl lX12_318 mo_X12_shamesBy (sp_X12_shamesBy (d := j) hn hp6 hjn (by rw [upr_row (by decide)]; exact hl) (by rw [upr_row (by decide)]; exact ho) (by rw [upr_row (by decide)]; exact hw)) rfl rfl rfl ⟨12, _, rfl, rfl, rfl⟩ rfl (fun v' h' hv => ?_) (fun E h' hx => False.elim hx)
      obtain ⟨rfl, f, rfl⟩ := hv
      rw [upr_upr, upr_row (show 421 ≠ 428 by decide)]
      refine a_goto rfl ?_
      refine a_s rfl rfl ?_
      refine a_s2 rfl rfl rfl rfl rfl rfl ?_
      refine a_i3 rfl rfl rfl ?_
      refine a_goto rfl ?_
      exact a_back (ih (mm - 1) _ _ (by omega) ⟨j + 1, _, by omega, rfl, rfl⟩) (by simp [lsub, nI_1, sumF, bI_t c18, Int32.add_zero]) rfl
  · obtain rfl : j = nd := by omega
    refine a_l3 rfl rfl rfl ?_
    refine a_l0 rfl rfl rfl ?_
    refine a_eV1 rfl lX12_74 mo_X12_duties (sp_X12_duties) rfl rfl rfl ⟨12, _, rfl, rfl, rfl⟩ rfl ?_
    refine a_top (y := nI j) (by rw [upr_row (by decide)]; exact hdu) ?_
    refine a_ic_ge rfl (fun c9 => ?_) (fun c => absurd (Int32.le_refl _) c)
    refine a_l2 rfl rfl rfl ?_
    refine a_iret rfl rfl ⟨rfl, v, rfl⟩
end
section
/-! ===== the class: its law ===== -/
def factC (I : Nat → Nat → Int32) (a d : Nat) (k : Nat) : Int32 := match k with
  | 0 => nI d
  | 1 => I (a + 4) d
  | 2 => I (a + 5) d
  | 3 => if I (a + 6) d = -1 then 9 else I (a + 6) d
  | 4 => I (a + 3) d
  | 5 => atF (I (a + 1)) 6 (I (a + 3) d)
  | 6 => I a 10
  | 7 => bI (lfF (I (a + 7)) (I (a + 8)) (nI d))
  | 8 => bI (decide (11 < I (a + 5) d))
  | _ => 0
theorem factC_01 (I : Nat → Nat → Int32) (a d : Nat) : ∀ k, k = 7 ∨ k = 8 → factC I a d k = 0 ∨ factC I a d k = 1 := by
  intro k hk
  rcases hk with rfl | rfl
  · show bI _ = 0 ∨ bI _ = 1
    cases lfF (I (a + 7)) (I (a + 8)) (nI d) <;> simp [bI]
  · show bI _ = 0 ∨ bI _ = 1
    cases decide (11 < I (a + 5) d) <;> simp [bI]
theorem stp_lwp : ∀ a ∈ stps, ∀ b ∈ lwps, a + 11 ≤ b ∨ b + 8 ≤ a := by decide +kernel
set_option maxRecDepth 100000
theorem sp_X2_setPart {S : aS} {I : Nat → Nat → Int32} {L : Nat → Nat → Int64} {w1 w2 t : Nat} {b k : Nat} (hb : lwp b) (hk : k < 9) {x y : Int32} (hx : x - 1000 = nI k) : SpE S m_X2_setPart 13 [.ref b, .int x, .int y] (hp I L w1 w2 t) none (hp (up2 I (b + 6) k y) L w1 w2 t) := by
  refine SpE_of ok_X2_setPart rfl rfl ?_
  show AW S m_X2_setPart 13 _ _ 0 0 0 [some (.ref b), some (.int x), some (.int y)] [] (hp I L w1 w2 t)
  refine a_l0 rfl rfl rfl ?_
  refine a_getq rfl gfX2_31_2 (kW0 hb) (rW7 hb) ?_
  refine a_l1 rfl rfl rfl ?_
  refine a_s rfl rfl ?_
  refine a_s rfl rfl ?_
  rw [hx]
  refine a_l2 rfl rfl rfl ?_
  refine a_eSN0 rfl lX2_44 mo_X11_setAt (sp_X11_setAt (n := 9) (kW6 hb)) rfl rfl rfl rfl ?_
  refine a_vret rfl rfl ⟨rfl, by rw [setF_nI hk (by decide)]⟩
theorem sp_X2_takeParts {S : aS} {I : Nat → Nat → Int32} {L : Nat → Nat → Int64} {w1 w2 t : Nat} {a b d : Nat} (ha : stp a) (hb : lwp b) (hd : d < 12) : Sp S m_X2_takeParts 15 0 0 [.ref b, .ref a, .int (nI d)] (hp I L w1 w2 t) (fun v h' => v = none ∧ ∃ I', h' = hp I' L w1 w2 t ∧ (∀ q, q ≠ b + 6 → I' q = I q) ∧ ∀ k, k < 9 → I' (b + 6) k = factC I a d k) (fun _ _ => False) := by
  have hsep := stp_lwp a ha b hb
  refine Sp_of ok_X2_takeParts rfl rfl ?_
  show AW S m_X2_takeParts 15 _ _ 0 0 0 [some (.ref b), some (.ref a), some (.int (nI d)), none, none] [] (hp I L w1 w2 t)
  refine a_l1 rfl rfl rfl ?_
  refine a_getq rfl gfX2_82_5 (kS0 ha) (rS7 ha) ?_
  refine a_l2 rfl rfl rfl ?_
  refine a_eSN1 rfl lX2_61 mo_X11_at ((sp_X11_at (n := 12) (kS6 ha)).cast (r' := some (.int (I (a + 6) d))) (by (try simp (disch := omega) only [up2_row]); rw [atF_nI (by omega) (by decide)]) rfl) rfl rfl rfl rfl ?_
  refine a_s3 rfl rfl rfl rfl rfl rfl ?_
  refine a_l1 rfl rfl rfl ?_
  refine a_getq rfl gfX2_85_5 (kS0 ha) (rS4 ha) ?_
  refine a_l2 rfl rfl rfl ?_
  refine a_eSN1 rfl lX2_61 mo_X11_at ((sp_X11_at (n := 12) (kS3 ha)).cast (r' := some (.int (I (a + 3) d))) (by (try simp (disch := omega) only [up2_row]); rw [atF_nI (by omega) (by decide)]) rfl) rfl rfl rfl rfl ?_
  refine a_s4 rfl rfl rfl rfl rfl rfl ?_
  refine a_l0 rfl rfl rfl ?_
  refine a_s rfl rfl ?_
  refine a_l2 rfl rfl rfl ?_
  refine a_eV0 rfl lX2_88 mo_X2_setPart (sp_X2_setPart (k := 0) hb (by decide) (by decide)) rfl rfl rfl ⟨2, _, (kW0 hb), rfl, rfl⟩ rfl ?_
  refine a_l0 rfl rfl rfl ?_
  refine a_s rfl rfl ?_
  refine a_l1 rfl rfl rfl ?_
  refine a_getq rfl gfX2_92_5 (kS0 ha) (rS5 ha) ?_
  refine a_l2 rfl rfl rfl ?_
  refine a_eSN1 rfl lX2_61 mo_X11_at ((sp_X11_at (n := 12) (kS4 ha)).cast (r' := some (.int (I (a + 4) d))) (by (try simp (disch := omega) only [up2_row]); rw [atF_nI (by omega) (by decide)]) rfl) rfl rfl rfl rfl ?_
  refine a_eV0 rfl lX2_88 mo_X2_setPart (sp_X2_setPart (k := 1) hb (by decide) (by decide)) rfl rfl rfl ⟨2, _, (kW0 hb), rfl, rfl⟩ rfl ?_
  refine a_l0 rfl rfl rfl ?_
  refine a_s rfl rfl ?_
  refine a_l1 rfl rfl rfl ?_
  refine a_getq rfl gfX2_56_5 (kS0 ha) (rS6 ha) ?_
  refine a_l2 rfl rfl rfl ?_
  refine a_eSN1 rfl lX2_61 mo_X11_at ((sp_X11_at (n := 12) (kS5 ha)).cast (r' := some (.int (I (a + 5) d))) (by (try simp (disch := omega) only [up2_row]); rw [atF_nI (by omega) (by decide)]) rfl) rfl rfl rfl rfl ?_
  refine a_eV0 rfl lX2_88 mo_X2_setPart (sp_X2_setPart (k := 2) hb (by decide) (by decide)) rfl rfl rfl ⟨2, _, (kW0 hb), rfl, rfl⟩ rfl ?_
  refine a_l0 rfl rfl rfl ?_
  refine a_s rfl rfl ?_
  refine a_l3 rfl rfl rfl ?_
  refine a_s rfl rfl ?_
  refine a_ic_ne rfl (fun c63 => ?_) (fun c63 => ?_)
  · refine a_l3 rfl rfl rfl ?_
    refine a_eV0 rfl lX2_88 mo_X2_setPart (sp_X2_setPart (k := 3) hb (by decide) (by decide)) rfl rfl rfl ⟨2, _, (kW0 hb), rfl, rfl⟩ rfl ?_
    refine a_l0 rfl rfl rfl ?_
    refine a_s rfl rfl ?_
    refine a_l4 rfl rfl rfl ?_
    refine a_eV0 rfl lX2_88 mo_X2_setPart (sp_X2_setPart (k := 4) hb (by decide) (by decide)) rfl rfl rfl ⟨2, _, (kW0 hb), rfl, rfl⟩ rfl ?_
    refine a_l0 rfl rfl rfl ?_
    refine a_s rfl rfl ?_
    refine a_l1 rfl rfl rfl ?_
    refine a_getq rfl gfX2_95_5 (kS0 ha) (rS1 ha) ?_
    refine a_l4 rfl rfl rfl ?_
    refine a_eSN1 rfl lX2_61 mo_X11_at ((sp_X11_at (n := 6) (kS1 ha)).cast (r' := some (.int (atF (I (a + 1)) 6 (I (a + 3) d)))) (by simp (disch := omega) only [up2_row]) rfl) rfl rfl rfl rfl ?_
    refine a_eV0 rfl lX2_88 mo_X2_setPart (sp_X2_setPart (k := 5) hb (by decide) (by decide)) rfl rfl rfl ⟨2, _, (kW0 hb), rfl, rfl⟩ rfl ?_
    refine a_l0 rfl rfl rfl ?_
    refine a_s rfl rfl ?_
    refine a_l1 rfl rfl rfl ?_
    refine a_getiv (v := I a 10) rfl gfX2_98_5 (kS0 ha) (by simp (disch := omega) only [up2_row]) ?_
    refine a_eV0 rfl lX2_88 mo_X2_setPart (sp_X2_setPart (k := 6) hb (by decide) (by decide)) rfl rfl rfl ⟨2, _, (kW0 hb), rfl, rfl⟩ rfl ?_
    refine a_l0 rfl rfl rfl ?_
    refine a_s rfl rfl ?_
    refine a_l1 rfl rfl rfl ?_
    refine a_l2 rfl rfl rfl ?_
    refine a_eV1 rfl lX2_101 mo_X5_leansFreely ((sp_X5_leansFreely ha).cast (r' := some (.int (bI (lfF (I (a + 7)) (I (a + 8)) (nI d))))) (by simp (disch := omega) only [up2_row]) rfl) rfl rfl rfl ⟨5, _, (kS0 ha), rfl, rfl⟩ rfl ?_
    refine a_if_eq rfl (fun c120 => ?_) (fun c120 => ?_)
    · refine a_s rfl rfl ?_
      refine a_eV0 rfl lX2_88 mo_X2_setPart (sp_X2_setPart (k := 7) hb (by decide) (by decide)) rfl rfl rfl ⟨2, _, (kW0 hb), rfl, rfl⟩ rfl ?_
      refine a_l0 rfl rfl rfl ?_
      refine a_s rfl rfl ?_
      refine a_l1 rfl rfl rfl ?_
      refine a_getq rfl gfX2_56_5 (kS0 ha) (rS6 ha) ?_
      refine a_l2 rfl rfl rfl ?_
      refine a_eSN1 rfl lX2_61 mo_X11_at ((sp_X11_at (n := 12) (kS5 ha)).cast (r' := some (.int (I (a + 5) d))) (by (try simp (disch := omega) only [up2_row]); rw [atF_nI (by omega) (by decide)]) rfl) rfl rfl rfl rfl ?_
      refine a_s rfl rfl ?_
      refine a_ic_le rfl (fun c145 => ?_) (fun c145 => ?_)
      · refine a_s rfl rfl ?_
        refine a_eV0 rfl lX2_88 mo_X2_setPart (sp_X2_setPart (k := 8) hb (by decide) (by decide)) rfl rfl rfl ⟨2, _, (kW0 hb), rfl, rfl⟩ rfl ?_
        refine a_vret rfl rfl ⟨rfl, _, rfl, fun q hq => by simp (disch := omega) only [up2_row], fun k hk => by rcases k with _ | _ | _ | _ | _ | _ | _ | _ | _ | k <;> first | omega | (simp_all [up2, factC, bI, bI_0, le_nl, -Int32.not_lt, -Int32.not_le])⟩
      · refine a_s rfl rfl ?_
        refine a_goto rfl ?_
        refine a_eV0 rfl lX2_88 mo_X2_setPart (sp_X2_setPart (k := 8) hb (by decide) (by decide)) rfl rfl rfl ⟨2, _, (kW0 hb), rfl, rfl⟩ rfl ?_
        refine a_vret rfl rfl ⟨rfl, _, rfl, fun q hq => by simp (disch := omega) only [up2_row], fun k hk => by rcases k with _ | _ | _ | _ | _ | _ | _ | _ | _ | k <;> first | omega | (simp_all [up2, factC, bI, bI_0, le_nl, -Int32.not_lt, -Int32.not_le])⟩
    · refine a_s rfl rfl ?_
      refine a_goto rfl ?_
      refine a_eV0 rfl lX2_88 mo_X2_setPart (sp_X2_setPart (k := 7) hb (by decide) (by decide)) rfl rfl rfl ⟨2, _, (kW0 hb), rfl, rfl⟩ rfl ?_
      refine a_l0 rfl rfl rfl ?_
      refine a_s rfl rfl ?_
      refine a_l1 rfl rfl rfl ?_
      refine a_getq rfl gfX2_56_5 (kS0 ha) (rS6 ha) ?_
      refine a_l2 rfl rfl rfl ?_
      refine a_eSN1 rfl lX2_61 mo_X11_at ((sp_X11_at (n := 12) (kS5 ha)).cast (r' := some (.int (I (a + 5) d))) (by (try simp (disch := omega) only [up2_row]); rw [atF_nI (by omega) (by decide)]) rfl) rfl rfl rfl rfl ?_
      refine a_s rfl rfl ?_
      refine a_ic_le rfl (fun c145 => ?_) (fun c145 => ?_)
      · refine a_s rfl rfl ?_
        refine a_eV0 rfl lX2_88 mo_X2_setPart (sp_X2_setPart (k := 8) hb (by decide) (by decide)) rfl rfl rfl ⟨2, _, (kW0 hb), rfl, rfl⟩ rfl ?_
        refine a_vret rfl rfl ⟨rfl, _, rfl, fun q hq => by simp (disch := omega) only [up2_row], fun k hk => by rcases k with _ | _ | _ | _ | _ | _ | _ | _ | _ | k <;> first | omega | (simp_all [up2, factC, bI, bI_0, le_nl, -Int32.not_lt, -Int32.not_le])⟩
      · refine a_s rfl rfl ?_
        refine a_goto rfl ?_
        refine a_eV0 rfl lX2_88 mo_X2_setPart (sp_X2_setPart (k := 8) hb (by decide) (by decide)) rfl rfl rfl ⟨2, _, (kW0 hb), rfl, rfl⟩ rfl ?_
        refine a_vret rfl rfl ⟨rfl, _, rfl, fun q hq => by simp (disch := omega) only [up2_row], fun k hk => by rcases k with _ | _ | _ | _ | _ | _ | _ | _ | _ | k <;> first | omega | (simp_all [up2, factC, bI, bI_0, le_nl, -Int32.not_lt, -Int32.not_le])⟩
  · refine a_s rfl rfl ?_
    refine a_goto rfl ?_
    refine a_eV0 rfl lX2_88 mo_X2_setPart (sp_X2_setPart (k := 3) hb (by decide) (by decide)) rfl rfl rfl ⟨2, _, (kW0 hb), rfl, rfl⟩ rfl ?_
    refine a_l0 rfl rfl rfl ?_
    refine a_s rfl rfl ?_
    refine a_l4 rfl rfl rfl ?_
    refine a_eV0 rfl lX2_88 mo_X2_setPart (sp_X2_setPart (k := 4) hb (by decide) (by decide)) rfl rfl rfl ⟨2, _, (kW0 hb), rfl, rfl⟩ rfl ?_
    refine a_l0 rfl rfl rfl ?_
    refine a_s rfl rfl ?_
    refine a_l1 rfl rfl rfl ?_
    refine a_getq rfl gfX2_95_5 (kS0 ha) (rS1 ha) ?_
    refine a_l4 rfl rfl rfl ?_
    refine a_eSN1 rfl lX2_61 mo_X11_at ((sp_X11_at (n := 6) (kS1 ha)).cast (r' := some (.int (atF (I (a + 1)) 6 (I (a + 3) d)))) (by simp (disch := omega) only [up2_row]) rfl) rfl rfl rfl rfl ?_
    refine a_eV0 rfl lX2_88 mo_X2_setPart (sp_X2_setPart (k := 5) hb (by decide) (by decide)) rfl rfl rfl ⟨2, _, (kW0 hb), rfl, rfl⟩ rfl ?_
    refine a_l0 rfl rfl rfl ?_
    refine a_s rfl rfl ?_
    refine a_l1 rfl rfl rfl ?_
    refine a_getiv (v := I a 10) rfl gfX2_98_5 (kS0 ha) (by simp (disch := omega) only [up2_row]) ?_
    refine a_eV0 rfl lX2_88 mo_X2_setPart (sp_X2_setPart (k := 6) hb (by decide) (by decide)) rfl rfl rfl ⟨2, _, (kW0 hb), rfl, rfl⟩ rfl ?_
    refine a_l0 rfl rfl rfl ?_
    refine a_s rfl rfl ?_
    refine a_l1 rfl rfl rfl ?_
    refine a_l2 rfl rfl rfl ?_
    refine a_eV1 rfl lX2_101 mo_X5_leansFreely ((sp_X5_leansFreely ha).cast (r' := some (.int (bI (lfF (I (a + 7)) (I (a + 8)) (nI d))))) (by simp (disch := omega) only [up2_row]) rfl) rfl rfl rfl ⟨5, _, (kS0 ha), rfl, rfl⟩ rfl ?_
    refine a_if_eq rfl (fun c120 => ?_) (fun c120 => ?_)
    · refine a_s rfl rfl ?_
      refine a_eV0 rfl lX2_88 mo_X2_setPart (sp_X2_setPart (k := 7) hb (by decide) (by decide)) rfl rfl rfl ⟨2, _, (kW0 hb), rfl, rfl⟩ rfl ?_
      refine a_l0 rfl rfl rfl ?_
      refine a_s rfl rfl ?_
      refine a_l1 rfl rfl rfl ?_
      refine a_getq rfl gfX2_56_5 (kS0 ha) (rS6 ha) ?_
      refine a_l2 rfl rfl rfl ?_
      refine a_eSN1 rfl lX2_61 mo_X11_at ((sp_X11_at (n := 12) (kS5 ha)).cast (r' := some (.int (I (a + 5) d))) (by (try simp (disch := omega) only [up2_row]); rw [atF_nI (by omega) (by decide)]) rfl) rfl rfl rfl rfl ?_
      refine a_s rfl rfl ?_
      refine a_ic_le rfl (fun c145 => ?_) (fun c145 => ?_)
      · refine a_s rfl rfl ?_
        refine a_eV0 rfl lX2_88 mo_X2_setPart (sp_X2_setPart (k := 8) hb (by decide) (by decide)) rfl rfl rfl ⟨2, _, (kW0 hb), rfl, rfl⟩ rfl ?_
        refine a_vret rfl rfl ⟨rfl, _, rfl, fun q hq => by simp (disch := omega) only [up2_row], fun k hk => by rcases k with _ | _ | _ | _ | _ | _ | _ | _ | _ | k <;> first | omega | (simp_all [up2, factC, bI, bI_0, le_nl, -Int32.not_lt, -Int32.not_le])⟩
      · refine a_s rfl rfl ?_
        refine a_goto rfl ?_
        refine a_eV0 rfl lX2_88 mo_X2_setPart (sp_X2_setPart (k := 8) hb (by decide) (by decide)) rfl rfl rfl ⟨2, _, (kW0 hb), rfl, rfl⟩ rfl ?_
        refine a_vret rfl rfl ⟨rfl, _, rfl, fun q hq => by simp (disch := omega) only [up2_row], fun k hk => by rcases k with _ | _ | _ | _ | _ | _ | _ | _ | _ | k <;> first | omega | (simp_all [up2, factC, bI, bI_0, le_nl, -Int32.not_lt, -Int32.not_le])⟩
    · refine a_s rfl rfl ?_
      refine a_goto rfl ?_
      refine a_eV0 rfl lX2_88 mo_X2_setPart (sp_X2_setPart (k := 7) hb (by decide) (by decide)) rfl rfl rfl ⟨2, _, (kW0 hb), rfl, rfl⟩ rfl ?_
      refine a_l0 rfl rfl rfl ?_
      refine a_s rfl rfl ?_
      refine a_l1 rfl rfl rfl ?_
      refine a_getq rfl gfX2_56_5 (kS0 ha) (rS6 ha) ?_
      refine a_l2 rfl rfl rfl ?_
      refine a_eSN1 rfl lX2_61 mo_X11_at ((sp_X11_at (n := 12) (kS5 ha)).cast (r' := some (.int (I (a + 5) d))) (by (try simp (disch := omega) only [up2_row]); rw [atF_nI (by omega) (by decide)]) rfl) rfl rfl rfl rfl ?_
      refine a_s rfl rfl ?_
      refine a_ic_le rfl (fun c145 => ?_) (fun c145 => ?_)
      · refine a_s rfl rfl ?_
        refine a_eV0 rfl lX2_88 mo_X2_setPart (sp_X2_setPart (k := 8) hb (by decide) (by decide)) rfl rfl rfl ⟨2, _, (kW0 hb), rfl, rfl⟩ rfl ?_
        refine a_vret rfl rfl ⟨rfl, _, rfl, fun q hq => by simp (disch := omega) only [up2_row], fun k hk => by rcases k with _ | _ | _ | _ | _ | _ | _ | _ | _ | k <;> first | omega | (simp_all [up2, factC, bI, bI_0, le_nl, -Int32.not_lt, -Int32.not_le])⟩
      · refine a_s rfl rfl ?_
        refine a_goto rfl ?_
        refine a_eV0 rfl lX2_88 mo_X2_setPart (sp_X2_setPart (k := 8) hb (by decide) (by decide)) rfl rfl rfl ⟨2, _, (kW0 hb), rfl, rfl⟩ rfl ?_
        refine a_vret rfl rfl ⟨rfl, _, rfl, fun q hq => by simp (disch := omega) only [up2_row], fun k hk => by rcases k with _ | _ | _ | _ | _ | _ | _ | _ | _ | k <;> first | omega | (simp_all [up2, factC, bI, bI_0, le_nl, -Int32.not_lt, -Int32.not_le])⟩
theorem sp_X2_joined_2000 {S : aS} {h : aH} {x y : Int32} : SpE S m_X2_joined 12 [.int (nI 2000), .int x, .int y] (h) (some (.int (jnF 2000 x y))) (h) := by
  refine SpE_of ok_X2_joined rfl rfl ?_
  show AW S m_X2_joined 12 _ _ 0 0 0 [some (.int (nI 2000)), some (.int x), some (.int y)] [] (h)
  refine a_l0 rfl rfl rfl ?_
  refine a_tsw (tg := 36) rfl (by decide) (by decide) ?_
  refine a_l1 rfl rfl rfl ?_
  refine a_l2 rfl rfl rfl ?_
  refine a_s rfl rfl ?_
  refine a_iret rfl rfl ⟨rfl, rfl⟩
theorem sp_X2_joined_2001 {S : aS} {h : aH} {x y : Int32} : SpE S m_X2_joined 12 [.int (nI 2001), .int x, .int y] (h) (some (.int (jnF 2001 x y))) (h) := by
  refine SpE_of ok_X2_joined rfl rfl ?_
  show AW S m_X2_joined 12 _ _ 0 0 0 [some (.int (nI 2001)), some (.int x), some (.int y)] [] (h)
  refine a_l0 rfl rfl rfl ?_
  refine a_tsw (tg := 40) rfl (by decide) (by decide) ?_
  refine a_l1 rfl rfl rfl ?_
  refine a_l2 rfl rfl rfl ?_
  refine a_ic_ge rfl (fun c42 => ?_) (fun c42 => ?_)
  · refine a_s rfl rfl ?_
    refine a_iret rfl rfl ⟨by simp_all [jnF, le_nl, -Int32.not_lt, -Int32.not_le], rfl⟩
  · refine a_s rfl rfl ?_
    refine a_goto rfl ?_
    refine a_iret rfl rfl ⟨by simp_all [jnF, le_nl, -Int32.not_lt, -Int32.not_le], rfl⟩
theorem sp_X2_joined_2002 {S : aS} {h : aH} {x y : Int32} : SpE S m_X2_joined 12 [.int (nI 2002), .int x, .int y] (h) (some (.int (jnF 2002 x y))) (h) := by
  refine SpE_of ok_X2_joined rfl rfl ?_
  show AW S m_X2_joined 12 _ _ 0 0 0 [some (.int (nI 2002)), some (.int x), some (.int y)] [] (h)
  refine a_l0 rfl rfl rfl ?_
  refine a_tsw (tg := 51) rfl (by decide) (by decide) ?_
  refine a_l1 rfl rfl rfl ?_
  refine a_l2 rfl rfl rfl ?_
  refine a_ic_le rfl (fun c53 => ?_) (fun c53 => ?_)
  · refine a_s rfl rfl ?_
    refine a_iret rfl rfl ⟨by simp_all [jnF, le_nl, -Int32.not_lt, -Int32.not_le], rfl⟩
  · refine a_s rfl rfl ?_
    refine a_goto rfl ?_
    refine a_iret rfl rfl ⟨by simp_all [jnF, le_nl, -Int32.not_lt, -Int32.not_le], rfl⟩
theorem sp_X2_joined_2004 {S : aS} {h : aH} {x y : Int32} : SpE S m_X2_joined 12 [.int (nI 2004), .int x, .int y] (h) (some (.int (jnF 2004 x y))) (h) := by
  refine SpE_of ok_X2_joined rfl rfl ?_
  show AW S m_X2_joined 12 _ _ 0 0 0 [some (.int (nI 2004)), some (.int x), some (.int y)] [] (h)
  refine a_l0 rfl rfl rfl ?_
  refine a_tsw (tg := 62) rfl (by decide) (by decide) ?_
  refine a_l1 rfl rfl rfl ?_
  refine a_l2 rfl rfl rfl ?_
  refine a_s rfl rfl ?_
  refine a_iret rfl rfl ⟨rfl, rfl⟩
theorem sp_X2_joined_2005 {S : aS} {h : aH} {x y : Int32} : SpE S m_X2_joined 12 [.int (nI 2005), .int x, .int y] (h) (some (.int (jnF 2005 x y))) (h) := by
  refine SpE_of ok_X2_joined rfl rfl ?_
  show AW S m_X2_joined 12 _ _ 0 0 0 [some (.int (nI 2005)), some (.int x), some (.int y)] [] (h)
  refine a_l0 rfl rfl rfl ?_
  refine a_tsw (tg := 66) rfl (by decide) (by decide) ?_
  refine a_l1 rfl rfl rfl ?_
  refine a_l2 rfl rfl rfl ?_
  refine a_s rfl rfl ?_
  refine a_iret rfl rfl ⟨rfl, rfl⟩
end
section
/-! ===== the class: a line of the law, sums, growth, shame ===== -/
theorem nI_sub {n j : Nat} (h : j ≤ n) : nI n - nI j = nI (n - j) := by
  obtain ⟨i, rfl⟩ := Nat.exists_eq_add_of_le h
  rw [← nI_addl, show j + i - j = i by omega, Int32.add_comm, Int32.add_sub_cancel]
theorem tyS_lt {c : Nat} {s t : List Bool} (h : tyS c s = some t) (h2 : c < 2000) : c < 1009 := by
  by_cases h1 : c < 1009
  · exact h1
  · exfalso
    unfold tyS at h
    rw [if_neg (by omega), if_neg h1, if_neg (by omega), if_neg (by omega), if_neg (by omega), if_neg (by omega)] at h
    cases h
theorem stpF_num {F : Nat → Int32} {c : Nat} {r : List Int32} (h : c < 1000) : stpF F c r = nI c :: r := by
  unfold stpF
  rw [if_pos h]
theorem stpF_fact {F : Nat → Int32} {c : Nat} {r : List Int32} (h : ¬ c < 1000) (h2 : c < 2000) : stpF F c r = F (c - 1000) :: r := by
  unfold stpF
  rw [if_neg h, if_pos h2]
set_option maxRecDepth 100000
theorem sp_X2_holds {S : aS} {I : Nat → Nat → Int32} {L : Nat → Nat → Int64} {w1 w2 t : Nat} {b n a N : Nat} {cd : Nat → Nat} {F : Nat → Int32} (hb : lwp b) (hn12 : n < 12) (h2 : I (b + 3) n = nI a) (h3 : I (b + 4) n = nI (a + N)) (hab : a + N ≤ 400) (hc : ∀ i, i < a + N → I (b + 5) i = nI (cd i)) (hF : ∀ k, k < 9 → I (b + 6) k = F k) (hF01 : ∀ k, k = 7 ∨ k = 8 → F k = 0 ∨ F k = 1) (hok : LineOk cd a N) : Sp S m_X2_holds 14 0 0 [.ref b, .int (nI n)] (hp I L w1 w2 t) (fun v h' => v = some (.int (bI (lineF F cd a N))) ∧ ∃ f, h' = hp (upr I (b + 7) f) L w1 w2 t) (fun _ _ => False) := by
  refine Sp_of ok_X2_holds rfl rfl ?_
  show AW S m_X2_holds 14 _ _ 0 0 0 [some (.ref b), some (.int (nI n)), none, none, none, none] [] (hp I L w1 w2 t)
  refine a_s rfl rfl ?_
  refine a_s2 rfl rfl rfl rfl rfl rfl ?_
  refine a_l0 rfl rfl rfl ?_
  refine a_getq rfl gfX2_25_2 (kW0 hb) (rW5 hb) ?_
  refine a_l1 rfl rfl rfl ?_
  refine a_eSN1 rfl lX2_61 mo_X11_at ((sp_X11_at (n := 12) (kW4 hb)).cast (r' := some (.int (nI (a + N)))) (by rw [atF_nI (by omega) (by decide), h3]) rfl) rfl rfl rfl rfl ?_
  refine a_s3 rfl rfl rfl rfl rfl rfl ?_
  refine a_l0 rfl rfl rfl ?_
  refine a_getq rfl gfX2_22_2 (kW0 hb) (rW4 hb) ?_
  refine a_l1 rfl rfl rfl ?_
  refine a_eSN1 rfl lX2_61 mo_X11_at ((sp_X11_at (n := 12) (kW3 hb)).cast (r' := some (.int (nI a))) (by rw [atF_nI (by omega) (by decide), h2]) rfl) rfl rfl rfl rfl ?_
  refine a_s4 rfl rfl rfl rfl rfl rfl ?_
  skip
  refine a_inv (n := N) (fun mm ls h => ∃ j v, j + mm = N ∧ ls = [some (.ref b), some (.int (nI n)), some (.int (nI (runF F cd a j).length)), some (.int (nI (a + N))), some (.int (nI (a + j))), none] ∧ h = hp (upr I (b + 7) v) L w1 w2 t ∧ Stk (runF F cd a j) v) ⟨0, I (b + 7), by omega, rfl, by rw [upr_self], trivial⟩ ?_
  rintro mm _ _ ⟨j, v, hj, rfl, rfl, hv⟩ ih
  obtain ⟨tj, htj, h24j⟩ := hok.2 j (by omega)
  have hlen := (VOK.run hF01 htj).len
  by_cases hjN : j = N
  · subst hjN
    refine a_l4 rfl rfl rfl ?_
    refine a_l3 rfl rfl rfl ?_
    refine a_ic_ge rfl (fun c24 => ?_) (fun c => absurd (Int32.le_refl _) c)
    skip
    rcases hok.1 with e | e
    · have hs : runF F cd a j = [] := by
        have := VOK.run hF01 e
        cases hs : runF F cd a j with
        | nil => rfl
        | cons x r => rw [hs] at this; exact False.elim this
      rw [hs]
      refine a_l2 rfl rfl rfl ?_
      refine a_if_eq rfl (fun c162 => ?_) (fun c => absurd (rfl) c)
      refine a_s rfl rfl ?_
      refine a_goto rfl ?_
      refine a_zret rfl rfl rfl ⟨by simp [lineF, hs, bI], v, rfl⟩
    · obtain ⟨x, hs, h01⟩ : ∃ x, runF F cd a j = [x] ∧ (x = 0 ∨ x = 1) := by
        have := VOK.run hF01 e
        rcases hs : runF F cd a j with _ | ⟨x, _ | ⟨y, r⟩⟩
        · rw [hs] at this; exact False.elim this
        · rw [hs] at this; exact ⟨x, rfl, this.1 rfl⟩
        · rw [hs] at this; exact False.elim this.2
      rw [hs] at hv ⊢
      simp only [List.length_cons, List.length_nil]
      refine a_l2 rfl rfl rfl ?_
      refine a_if_eq rfl (fun c => absurd c (by decide)) (fun c162 => ?_)
      refine a_l0 rfl rfl rfl ?_
      refine a_getq rfl gfX2_34_2 (kW0 hb) (rW8 hb) ?_
      refine a_s rfl rfl ?_
      refine a_eSN1 rfl lX2_61 mo_X11_at ((sp_X11_at (n := 32) (kW7 hb)).cast (r' := some (.int x)) (by rw [upr_at, show (0 : Int32) = nI 0 from rfl, atF_nI (by decide) (by decide)]; exact congrArg (fun z => some (Value.int z)) hv.1) rfl) rfl rfl rfl rfl ?_
      refine a_if_eq rfl (fun c173 => ?_) (fun c173 => ?_)
      · refine a_s rfl rfl ?_
        refine a_zret rfl rfl rfl ⟨by rcases h01 with rfl | rfl <;> simp_all [lineF, bI], v, rfl⟩
      · refine a_s rfl rfl ?_
        refine a_goto rfl ?_
        refine a_zret rfl rfl rfl ⟨by rcases h01 with rfl | rfl <;> simp_all [lineF, bI], v, rfl⟩
  · obtain ⟨t', ht', h24⟩ := hok.2 (j + 1) (by omega)
    obtain ⟨t0, ht0, hts⟩ := tyR_prev ht'
    by_cases hk1 : cd (a + j) < 1000
    · have hr : runF F cd a (j + 1) = nI (cd (a + j)) :: runF F cd a j := stpF_num hk1
      refine a_l4 rfl rfl rfl ?_
      refine a_l3 rfl rfl rfl ?_
      refine a_ic_ge rfl (fun c => absurd c (nI_ge (by omega) (by omega))) (fun c24 => ?_)
      refine a_l0 rfl rfl rfl ?_
      refine a_getq rfl gfX2_28_2 (kW0 hb) (rW6 hb) ?_
      refine a_l4 rfl rfl rfl ?_
      refine a_eSN1 rfl lX2_61 mo_X11_at ((sp_X11_at (n := 400) (kW5 hb)).cast (r' := some (.int (nI (cd (a + j))))) (by rw [upr_row (by omega), atF_nI (by omega) (by decide), hc _ (by omega)]) rfl) rfl rfl rfl rfl ?_
      refine a_s5 rfl rfl rfl rfl rfl rfl ?_
      refine a_l5 rfl rfl rfl ?_
      refine a_s rfl rfl ?_
      refine a_ic_ge rfl (fun c => absurd c (nI_ge (b := 2000) (by omega) (by decide))) (fun c43 => ?_)
      refine a_l0 rfl rfl rfl ?_
      refine a_getq rfl gfX2_34_2 (kW0 hb) (rW8 hb) ?_
      refine a_l2 rfl rfl rfl ?_
      refine a_l5 rfl rfl rfl ?_
      refine a_s rfl rfl ?_
      refine a_ic_ge rfl (fun c => absurd c (nI_ge (b := 1000) (by omega) (by decide))) (fun c56 => ?_)
      refine a_l5 rfl rfl rfl ?_
      refine a_goto rfl ?_
      refine a_eSN0 rfl lX2_44 mo_X11_setAt (sp_X11_setAt (n := 32) (kW7 hb)) rfl rfl rfl rfl ?_
      rw [setF_nI (by omega) (by decide), up2_upr]
      refine a_i2 rfl rfl rfl ?_
      refine a_goto rfl ?_
      refine a_i4 rfl rfl rfl ?_
      refine a_goto rfl ?_
      exact a_back (ih (mm - 1) _ _ (by omega) ⟨j + 1, _, by omega, rfl, rfl, by rw [hr]; exact ⟨if_pos rfl, Stk.upd hv fun q hq => if_neg (by omega)⟩⟩) (by simp [lsub, nI_1, hr, ← Nat.add_assoc]) rfl
    · by_cases hk2 : cd (a + j) < 2000
      · have hk3 := tyS_lt hts hk2
        have hr : runF F cd a (j + 1) = F (cd (a + j) - 1000) :: runF F cd a j := stpF_fact hk1 hk2
        refine a_l4 rfl rfl rfl ?_
        refine a_l3 rfl rfl rfl ?_
        refine a_ic_ge rfl (fun c => absurd c (nI_ge (by omega) (by omega))) (fun c24 => ?_)
        refine a_l0 rfl rfl rfl ?_
        refine a_getq rfl gfX2_28_2 (kW0 hb) (rW6 hb) ?_
        refine a_l4 rfl rfl rfl ?_
        refine a_eSN1 rfl lX2_61 mo_X11_at ((sp_X11_at (n := 400) (kW5 hb)).cast (r' := some (.int (nI (cd (a + j))))) (by rw [upr_row (by omega), atF_nI (by omega) (by decide), hc _ (by omega)]) rfl) rfl rfl rfl rfl ?_
        refine a_s5 rfl rfl rfl rfl rfl rfl ?_
        refine a_l5 rfl rfl rfl ?_
        refine a_s rfl rfl ?_
        refine a_ic_ge rfl (fun c => absurd c (nI_ge (b := 2000) (by omega) (by decide))) (fun c43 => ?_)
        refine a_l0 rfl rfl rfl ?_
        refine a_getq rfl gfX2_34_2 (kW0 hb) (rW8 hb) ?_
        refine a_l2 rfl rfl rfl ?_
        refine a_l5 rfl rfl rfl ?_
        refine a_s rfl rfl ?_
        refine a_ic_ge rfl (fun c56 => ?_) (fun c => absurd (Int32.not_lt.mp (nI_nlu (n := cd (a + j)) (j := 1000) (by omega) (by omega))) c)
        refine a_l0 rfl rfl rfl ?_
        refine a_getq rfl gfX2_31_2 (kW0 hb) (rW7 hb) ?_
        refine a_l5 rfl rfl rfl ?_
        refine a_s rfl rfl ?_
        refine a_s rfl rfl ?_
        refine a_top (y := nI (cd (a + j) - 1000)) (nI_sub (j := 1000) (by omega)) ?_
        refine a_eSN1 rfl lX2_61 mo_X11_at ((sp_X11_at (n := 9) (kW6 hb)).cast (r' := some (.int (F (cd (a + j) - 1000)))) (by rw [upr_row (by omega), atF_nI (by omega) (by decide), hF _ (by omega)]) rfl) rfl rfl rfl rfl ?_
        refine a_eSN0 rfl lX2_44 mo_X11_setAt (sp_X11_setAt (n := 32) (kW7 hb)) rfl rfl rfl rfl ?_
        rw [setF_nI (by omega) (by decide), up2_upr]
        refine a_i2 rfl rfl rfl ?_
        refine a_goto rfl ?_
        refine a_i4 rfl rfl rfl ?_
        refine a_goto rfl ?_
        exact a_back (ih (mm - 1) _ _ (by omega) ⟨j + 1, _, by omega, rfl, rfl, by rw [hr]; exact ⟨if_pos rfl, Stk.upd hv fun q hq => if_neg (by omega)⟩⟩) (by simp [lsub, nI_1, hr, ← Nat.add_assoc]) rfl
      · by_cases hcd : cd (a + j) = 2003
        · obtain ⟨x, r, hs, hr⟩ := one_of hF01 hcd ht'
          rw [hs] at hv hlen ⊢
          simp only [List.length_cons]
          have hlr : r.length + 1 = tj.length := hlen
          refine a_l4 rfl rfl rfl ?_
          refine a_l3 rfl rfl rfl ?_
          refine a_ic_ge rfl (fun c => absurd c (nI_ge (by omega) (by omega))) (fun c24 => ?_)
          refine a_l0 rfl rfl rfl ?_
          refine a_getq rfl gfX2_28_2 (kW0 hb) (rW6 hb) ?_
          refine a_l4 rfl rfl rfl ?_
          refine a_eSN1 rfl lX2_61 mo_X11_at ((sp_X11_at (n := 400) (kW5 hb)).cast (r' := some (.int (nI 2003))) (by rw [upr_row (by omega), atF_nI (by omega) (by decide), hc _ (by omega), hcd]) rfl) rfl rfl rfl rfl ?_
          refine a_s5 rfl rfl rfl rfl rfl rfl ?_
          refine a_l5 rfl rfl rfl ?_
          refine a_s rfl rfl ?_
          refine a_ic_ge rfl (fun c43 => ?_) (fun c => absurd (by decide) c)
          refine a_l5 rfl rfl rfl ?_
          refine a_s rfl rfl ?_
          refine a_ic_ne rfl (fun c => absurd c (fun z => z rfl)) (fun c91 => ?_)
          refine a_l0 rfl rfl rfl ?_
          refine a_getq rfl gfX2_34_2 (kW0 hb) (rW8 hb) ?_
          refine a_l2 rfl rfl rfl ?_
          refine a_s rfl rfl ?_
          refine a_s rfl rfl ?_
          refine a_top (nI_dec _) ?_
          refine a_s rfl rfl ?_
          refine a_l0 rfl rfl rfl ?_
          refine a_getq rfl gfX2_34_2 (kW0 hb) (rW8 hb) ?_
          refine a_l2 rfl rfl rfl ?_
          refine a_s rfl rfl ?_
          refine a_s rfl rfl ?_
          refine a_top (nI_dec _) ?_
          refine a_eSN1 rfl lX2_61 mo_X11_at ((sp_X11_at (n := 32) (kW7 hb)).cast (r' := some (.int (x))) (by rw [upr_at, atF_nI (by omega) (by decide)]; exact congrArg (fun z => some (Value.int z)) hv.1) rfl) rfl rfl rfl rfl ?_
          refine a_s rfl rfl ?_
          refine a_eSN0 rfl lX2_44 mo_X11_setAt (sp_X11_setAt (n := 32) (kW7 hb)) rfl rfl rfl rfl ?_
          rw [setF_nI (by omega) (by decide), up2_upr]
          refine a_goto rfl ?_
          refine a_i4 rfl rfl rfl ?_
          refine a_goto rfl ?_
          exact a_back (ih (mm - 1) _ _ (by omega) ⟨j + 1, _, by omega, rfl, rfl, by rw [hr]; exact ⟨if_pos rfl, Stk.upd hv.2 fun q hq => if_neg (by omega)⟩⟩) (by simp [lsub, nI_1, hr, ← Nat.add_assoc]) rfl
        · obtain ⟨x, y, r, hs, hr, -⟩ := two_of hF01 (c := cd (a + j)) rfl (by omega) hcd ht'
          rw [hs] at hv hlen ⊢
          simp only [List.length_cons]
          have hlr : r.length + 1 + 1 = tj.length := hlen
          obtain ⟨b0, b', r0, -, -, hcc⟩ := tyS_two (by omega) hcd hts
          have hkk : cd (a + j) = 2000 ∨ cd (a + j) = 2001 ∨ cd (a + j) = 2002 ∨ cd (a + j) = 2004 ∨ cd (a + j) = 2005 := by omega
          rcases hkk with hcd | hcd | hcd | hcd | hcd <;> rw [hcd] at hr
          · refine a_l4 rfl rfl rfl ?_
            refine a_l3 rfl rfl rfl ?_
            refine a_ic_ge rfl (fun c => absurd c (nI_ge (by omega) (by omega))) (fun c24 => ?_)
            refine a_l0 rfl rfl rfl ?_
            refine a_getq rfl gfX2_28_2 (kW0 hb) (rW6 hb) ?_
            refine a_l4 rfl rfl rfl ?_
            refine a_eSN1 rfl lX2_61 mo_X11_at ((sp_X11_at (n := 400) (kW5 hb)).cast (r' := some (.int (nI 2000))) (by rw [upr_row (by omega), atF_nI (by omega) (by decide), hc _ (by omega), hcd]) rfl) rfl rfl rfl rfl ?_
            refine a_s5 rfl rfl rfl rfl rfl rfl ?_
            refine a_l5 rfl rfl rfl ?_
            refine a_s rfl rfl ?_
            refine a_ic_ge rfl (fun c43 => ?_) (fun c => absurd (by decide) c)
            refine a_l5 rfl rfl rfl ?_
            refine a_s rfl rfl ?_
            refine a_ic_ne rfl (fun c91 => ?_) (fun c => absurd c (by decide))
            refine a_i2 rfl rfl rfl ?_
            rw [nI_decm]
            refine a_l0 rfl rfl rfl ?_
            refine a_getq rfl gfX2_34_2 (kW0 hb) (rW8 hb) ?_
            refine a_l2 rfl rfl rfl ?_
            refine a_s rfl rfl ?_
            refine a_s rfl rfl ?_
            refine a_top (nI_dec _) ?_
            refine a_l5 rfl rfl rfl ?_
            refine a_l0 rfl rfl rfl ?_
            refine a_getq rfl gfX2_34_2 (kW0 hb) (rW8 hb) ?_
            refine a_l2 rfl rfl rfl ?_
            refine a_s rfl rfl ?_
            refine a_s rfl rfl ?_
            refine a_top (nI_dec _) ?_
            refine a_eSN1 rfl lX2_61 mo_X11_at ((sp_X11_at (n := 32) (kW7 hb)).cast (r' := some (.int (x))) (by rw [upr_at, atF_nI (by omega) (by decide)]; exact congrArg (fun z => some (Value.int z)) hv.2.1) rfl) rfl rfl rfl rfl ?_
            refine a_l0 rfl rfl rfl ?_
            refine a_getq rfl gfX2_34_2 (kW0 hb) (rW8 hb) ?_
            refine a_l2 rfl rfl rfl ?_
            refine a_eSN1 rfl lX2_61 mo_X11_at ((sp_X11_at (n := 32) (kW7 hb)).cast (r' := some (.int (y))) (by rw [upr_at, atF_nI (by omega) (by decide)]; exact congrArg (fun z => some (Value.int z)) hv.1) rfl) rfl rfl rfl rfl ?_
            refine a_eS1 rfl lX2_108 mo_X2_joined (sp_X2_joined_2000) rfl rfl rfl rfl ?_
            refine a_eSN0 rfl lX2_44 mo_X11_setAt (sp_X11_setAt (n := 32) (kW7 hb)) rfl rfl rfl rfl ?_
            rw [setF_nI (by omega) (by decide), up2_upr]
            refine a_i4 rfl rfl rfl ?_
            refine a_goto rfl ?_
            exact a_back (ih (mm - 1) _ _ (by omega) ⟨j + 1, _, by omega, rfl, rfl, by rw [hr]; exact ⟨if_pos rfl, Stk.upd hv.2.2 fun q hq => if_neg (by omega)⟩⟩) (by simp [lsub, nI_1, hr, ← Nat.add_assoc]) rfl
          · refine a_l4 rfl rfl rfl ?_
            refine a_l3 rfl rfl rfl ?_
            refine a_ic_ge rfl (fun c => absurd c (nI_ge (by omega) (by omega))) (fun c24 => ?_)
            refine a_l0 rfl rfl rfl ?_
            refine a_getq rfl gfX2_28_2 (kW0 hb) (rW6 hb) ?_
            refine a_l4 rfl rfl rfl ?_
            refine a_eSN1 rfl lX2_61 mo_X11_at ((sp_X11_at (n := 400) (kW5 hb)).cast (r' := some (.int (nI 2001))) (by rw [upr_row (by omega), atF_nI (by omega) (by decide), hc _ (by omega), hcd]) rfl) rfl rfl rfl rfl ?_
            refine a_s5 rfl rfl rfl rfl rfl rfl ?_
            refine a_l5 rfl rfl rfl ?_
            refine a_s rfl rfl ?_
            refine a_ic_ge rfl (fun c43 => ?_) (fun c => absurd (by decide) c)
            refine a_l5 rfl rfl rfl ?_
            refine a_s rfl rfl ?_
            refine a_ic_ne rfl (fun c91 => ?_) (fun c => absurd c (by decide))
            refine a_i2 rfl rfl rfl ?_
            rw [nI_decm]
            refine a_l0 rfl rfl rfl ?_
            refine a_getq rfl gfX2_34_2 (kW0 hb) (rW8 hb) ?_
            refine a_l2 rfl rfl rfl ?_
            refine a_s rfl rfl ?_
            refine a_s rfl rfl ?_
            refine a_top (nI_dec _) ?_
            refine a_l5 rfl rfl rfl ?_
            refine a_l0 rfl rfl rfl ?_
            refine a_getq rfl gfX2_34_2 (kW0 hb) (rW8 hb) ?_
            refine a_l2 rfl rfl rfl ?_
            refine a_s rfl rfl ?_
            refine a_s rfl rfl ?_
            refine a_top (nI_dec _) ?_
            refine a_eSN1 rfl lX2_61 mo_X11_at ((sp_X11_at (n := 32) (kW7 hb)).cast (r' := some (.int (x))) (by rw [upr_at, atF_nI (by omega) (by decide)]; exact congrArg (fun z => some (Value.int z)) hv.2.1) rfl) rfl rfl rfl rfl ?_
            refine a_l0 rfl rfl rfl ?_
            refine a_getq rfl gfX2_34_2 (kW0 hb) (rW8 hb) ?_
            refine a_l2 rfl rfl rfl ?_
            refine a_eSN1 rfl lX2_61 mo_X11_at ((sp_X11_at (n := 32) (kW7 hb)).cast (r' := some (.int (y))) (by rw [upr_at, atF_nI (by omega) (by decide)]; exact congrArg (fun z => some (Value.int z)) hv.1) rfl) rfl rfl rfl rfl ?_
            refine a_eS1 rfl lX2_108 mo_X2_joined (sp_X2_joined_2001) rfl rfl rfl rfl ?_
            refine a_eSN0 rfl lX2_44 mo_X11_setAt (sp_X11_setAt (n := 32) (kW7 hb)) rfl rfl rfl rfl ?_
            rw [setF_nI (by omega) (by decide), up2_upr]
            refine a_i4 rfl rfl rfl ?_
            refine a_goto rfl ?_
            exact a_back (ih (mm - 1) _ _ (by omega) ⟨j + 1, _, by omega, rfl, rfl, by rw [hr]; exact ⟨if_pos rfl, Stk.upd hv.2.2 fun q hq => if_neg (by omega)⟩⟩) (by simp [lsub, nI_1, hr, ← Nat.add_assoc]) rfl
          · refine a_l4 rfl rfl rfl ?_
            refine a_l3 rfl rfl rfl ?_
            refine a_ic_ge rfl (fun c => absurd c (nI_ge (by omega) (by omega))) (fun c24 => ?_)
            refine a_l0 rfl rfl rfl ?_
            refine a_getq rfl gfX2_28_2 (kW0 hb) (rW6 hb) ?_
            refine a_l4 rfl rfl rfl ?_
            refine a_eSN1 rfl lX2_61 mo_X11_at ((sp_X11_at (n := 400) (kW5 hb)).cast (r' := some (.int (nI 2002))) (by rw [upr_row (by omega), atF_nI (by omega) (by decide), hc _ (by omega), hcd]) rfl) rfl rfl rfl rfl ?_
            refine a_s5 rfl rfl rfl rfl rfl rfl ?_
            refine a_l5 rfl rfl rfl ?_
            refine a_s rfl rfl ?_
            refine a_ic_ge rfl (fun c43 => ?_) (fun c => absurd (by decide) c)
            refine a_l5 rfl rfl rfl ?_
            refine a_s rfl rfl ?_
            refine a_ic_ne rfl (fun c91 => ?_) (fun c => absurd c (by decide))
            refine a_i2 rfl rfl rfl ?_
            rw [nI_decm]
            refine a_l0 rfl rfl rfl ?_
            refine a_getq rfl gfX2_34_2 (kW0 hb) (rW8 hb) ?_
            refine a_l2 rfl rfl rfl ?_
            refine a_s rfl rfl ?_
            refine a_s rfl rfl ?_
            refine a_top (nI_dec _) ?_
            refine a_l5 rfl rfl rfl ?_
            refine a_l0 rfl rfl rfl ?_
            refine a_getq rfl gfX2_34_2 (kW0 hb) (rW8 hb) ?_
            refine a_l2 rfl rfl rfl ?_
            refine a_s rfl rfl ?_
            refine a_s rfl rfl ?_
            refine a_top (nI_dec _) ?_
            refine a_eSN1 rfl lX2_61 mo_X11_at ((sp_X11_at (n := 32) (kW7 hb)).cast (r' := some (.int (x))) (by rw [upr_at, atF_nI (by omega) (by decide)]; exact congrArg (fun z => some (Value.int z)) hv.2.1) rfl) rfl rfl rfl rfl ?_
            refine a_l0 rfl rfl rfl ?_
            refine a_getq rfl gfX2_34_2 (kW0 hb) (rW8 hb) ?_
            refine a_l2 rfl rfl rfl ?_
            refine a_eSN1 rfl lX2_61 mo_X11_at ((sp_X11_at (n := 32) (kW7 hb)).cast (r' := some (.int (y))) (by rw [upr_at, atF_nI (by omega) (by decide)]; exact congrArg (fun z => some (Value.int z)) hv.1) rfl) rfl rfl rfl rfl ?_
            refine a_eS1 rfl lX2_108 mo_X2_joined (sp_X2_joined_2002) rfl rfl rfl rfl ?_
            refine a_eSN0 rfl lX2_44 mo_X11_setAt (sp_X11_setAt (n := 32) (kW7 hb)) rfl rfl rfl rfl ?_
            rw [setF_nI (by omega) (by decide), up2_upr]
            refine a_i4 rfl rfl rfl ?_
            refine a_goto rfl ?_
            exact a_back (ih (mm - 1) _ _ (by omega) ⟨j + 1, _, by omega, rfl, rfl, by rw [hr]; exact ⟨if_pos rfl, Stk.upd hv.2.2 fun q hq => if_neg (by omega)⟩⟩) (by simp [lsub, nI_1, hr, ← Nat.add_assoc]) rfl
          · refine a_l4 rfl rfl rfl ?_
            refine a_l3 rfl rfl rfl ?_
            refine a_ic_ge rfl (fun c => absurd c (nI_ge (by omega) (by omega))) (fun c24 => ?_)
            refine a_l0 rfl rfl rfl ?_
            refine a_getq rfl gfX2_28_2 (kW0 hb) (rW6 hb) ?_
            refine a_l4 rfl rfl rfl ?_
            refine a_eSN1 rfl lX2_61 mo_X11_at ((sp_X11_at (n := 400) (kW5 hb)).cast (r' := some (.int (nI 2004))) (by rw [upr_row (by omega), atF_nI (by omega) (by decide), hc _ (by omega), hcd]) rfl) rfl rfl rfl rfl ?_
            refine a_s5 rfl rfl rfl rfl rfl rfl ?_
            refine a_l5 rfl rfl rfl ?_
            refine a_s rfl rfl ?_
            refine a_ic_ge rfl (fun c43 => ?_) (fun c => absurd (by decide) c)
            refine a_l5 rfl rfl rfl ?_
            refine a_s rfl rfl ?_
            refine a_ic_ne rfl (fun c91 => ?_) (fun c => absurd c (by decide))
            refine a_i2 rfl rfl rfl ?_
            rw [nI_decm]
            refine a_l0 rfl rfl rfl ?_
            refine a_getq rfl gfX2_34_2 (kW0 hb) (rW8 hb) ?_
            refine a_l2 rfl rfl rfl ?_
            refine a_s rfl rfl ?_
            refine a_s rfl rfl ?_
            refine a_top (nI_dec _) ?_
            refine a_l5 rfl rfl rfl ?_
            refine a_l0 rfl rfl rfl ?_
            refine a_getq rfl gfX2_34_2 (kW0 hb) (rW8 hb) ?_
            refine a_l2 rfl rfl rfl ?_
            refine a_s rfl rfl ?_
            refine a_s rfl rfl ?_
            refine a_top (nI_dec _) ?_
            refine a_eSN1 rfl lX2_61 mo_X11_at ((sp_X11_at (n := 32) (kW7 hb)).cast (r' := some (.int (x))) (by rw [upr_at, atF_nI (by omega) (by decide)]; exact congrArg (fun z => some (Value.int z)) hv.2.1) rfl) rfl rfl rfl rfl ?_
            refine a_l0 rfl rfl rfl ?_
            refine a_getq rfl gfX2_34_2 (kW0 hb) (rW8 hb) ?_
            refine a_l2 rfl rfl rfl ?_
            refine a_eSN1 rfl lX2_61 mo_X11_at ((sp_X11_at (n := 32) (kW7 hb)).cast (r' := some (.int (y))) (by rw [upr_at, atF_nI (by omega) (by decide)]; exact congrArg (fun z => some (Value.int z)) hv.1) rfl) rfl rfl rfl rfl ?_
            refine a_eS1 rfl lX2_108 mo_X2_joined (sp_X2_joined_2004) rfl rfl rfl rfl ?_
            refine a_eSN0 rfl lX2_44 mo_X11_setAt (sp_X11_setAt (n := 32) (kW7 hb)) rfl rfl rfl rfl ?_
            rw [setF_nI (by omega) (by decide), up2_upr]
            refine a_i4 rfl rfl rfl ?_
            refine a_goto rfl ?_
            exact a_back (ih (mm - 1) _ _ (by omega) ⟨j + 1, _, by omega, rfl, rfl, by rw [hr]; exact ⟨if_pos rfl, Stk.upd hv.2.2 fun q hq => if_neg (by omega)⟩⟩) (by simp [lsub, nI_1, hr, ← Nat.add_assoc]) rfl
          · refine a_l4 rfl rfl rfl ?_
            refine a_l3 rfl rfl rfl ?_
            refine a_ic_ge rfl (fun c => absurd c (nI_ge (by omega) (by omega))) (fun c24 => ?_)
            refine a_l0 rfl rfl rfl ?_
            refine a_getq rfl gfX2_28_2 (kW0 hb) (rW6 hb) ?_
            refine a_l4 rfl rfl rfl ?_
            refine a_eSN1 rfl lX2_61 mo_X11_at ((sp_X11_at (n := 400) (kW5 hb)).cast (r' := some (.int (nI 2005))) (by rw [upr_row (by omega), atF_nI (by omega) (by decide), hc _ (by omega), hcd]) rfl) rfl rfl rfl rfl ?_
            refine a_s5 rfl rfl rfl rfl rfl rfl ?_
            refine a_l5 rfl rfl rfl ?_
            refine a_s rfl rfl ?_
            refine a_ic_ge rfl (fun c43 => ?_) (fun c => absurd (by decide) c)
            refine a_l5 rfl rfl rfl ?_
            refine a_s rfl rfl ?_
            refine a_ic_ne rfl (fun c91 => ?_) (fun c => absurd c (by decide))
            refine a_i2 rfl rfl rfl ?_
            rw [nI_decm]
            refine a_l0 rfl rfl rfl ?_
            refine a_getq rfl gfX2_34_2 (kW0 hb) (rW8 hb) ?_
            refine a_l2 rfl rfl rfl ?_
            refine a_s rfl rfl ?_
            refine a_s rfl rfl ?_
            refine a_top (nI_dec _) ?_
            refine a_l5 rfl rfl rfl ?_
            refine a_l0 rfl rfl rfl ?_
            refine a_getq rfl gfX2_34_2 (kW0 hb) (rW8 hb) ?_
            refine a_l2 rfl rfl rfl ?_
            refine a_s rfl rfl ?_
            refine a_s rfl rfl ?_
            refine a_top (nI_dec _) ?_
            refine a_eSN1 rfl lX2_61 mo_X11_at ((sp_X11_at (n := 32) (kW7 hb)).cast (r' := some (.int (x))) (by rw [upr_at, atF_nI (by omega) (by decide)]; exact congrArg (fun z => some (Value.int z)) hv.2.1) rfl) rfl rfl rfl rfl ?_
            refine a_l0 rfl rfl rfl ?_
            refine a_getq rfl gfX2_34_2 (kW0 hb) (rW8 hb) ?_
            refine a_l2 rfl rfl rfl ?_
            refine a_eSN1 rfl lX2_61 mo_X11_at ((sp_X11_at (n := 32) (kW7 hb)).cast (r' := some (.int (y))) (by rw [upr_at, atF_nI (by omega) (by decide)]; exact congrArg (fun z => some (Value.int z)) hv.1) rfl) rfl rfl rfl rfl ?_
            refine a_eS1 rfl lX2_108 mo_X2_joined (sp_X2_joined_2005) rfl rfl rfl rfl ?_
            refine a_eSN0 rfl lX2_44 mo_X11_setAt (sp_X11_setAt (n := 32) (kW7 hb)) rfl rfl rfl rfl ?_
            rw [setF_nI (by omega) (by decide), up2_upr]
            refine a_i4 rfl rfl rfl ?_
            refine a_goto rfl ?_
            exact a_back (ih (mm - 1) _ _ (by omega) ⟨j + 1, _, by omega, rfl, rfl, by rw [hr]; exact ⟨if_pos rfl, Stk.upd hv.2.2 fun q hq => if_neg (by omega)⟩⟩) (by simp [lsub, nI_1, hr, ← Nat.add_assoc]) rfl
end
section
/-! ===== the class: sums of lines, growth, shame ===== -/
/-- a law at b: nl lines (0 without one), their codes -/
def LawC (I : Nat → Nat → Int32) (b nl len : Nat) (cd fa fn : Nat → Nat) : Prop := ((I b 0 = -1 ∧ nl = 0) ∨ I b 0 = nI nl) ∧ nl ≤ 12 ∧ len ≤ 400 ∧ (∀ i, i < len → I (b + 5) i = nI (cd i)) ∧ ∀ n, n < nl → I (b + 3) n = nI (fa n) ∧ I (b + 4) n = nI (fa n + fn n) ∧ fa n + fn n ≤ len ∧ LineOk cd (fa n) (fn n)
def sumC (I : Nat → Nat → Int32) (b : Nat) (F : Nat → Int32) (cd fa fn : Nat → Nat) (nl : Nat) (kind : Int32) : Int32 := sumL F (I (b + 1)) (I (b + 2)) cd fa fn kind nl
def growC (I : Nat → Nat → Int32) (a b : Nat) (cd fa fn : Nat → Nat) (nl d : Nat) : Int32 := sumC I b (factC I a d) cd fa fn nl 0
def shameC (I : Nat → Nat → Int32) (a b : Nat) (cd fa fn : Nat → Nat) (nl d : Nat) : Int32 := mx0 (I (a + 5) d + sumC I b (factC I a d) cd fa fn nl 1 - sumC I b (factC I a d) cd fa fn nl 2)
set_option maxRecDepth 100000
theorem sp_X2_sumOfLines {S : aS} {I : Nat → Nat → Int32} {L : Nat → Nat → Int64} {w1 w2 t : Nat} {b nl len : Nat} {cd fa fn : Nat → Nat} {F : Nat → Int32} (hb : lwp b) (hw : LawC I b nl len cd fa fn) (hF : ∀ k, k < 9 → I (b + 6) k = F k) (hF01 : ∀ k, k = 7 ∨ k = 8 → F k = 0 ∨ F k = 1) {kind : Int32} : Sp S m_X2_sumOfLines 15 0 0 [.ref b, .int kind] (hp I L w1 w2 t) (fun v h' => v = some (.int (sumC I b F cd fa fn nl kind)) ∧ ∃ f, h' = hp (upr I (b + 7) f) L w1 w2 t) (fun _ _ => False) := by
  refine Sp_of ok_X2_sumOfLines rfl rfl ?_
  show AW S m_X2_sumOfLines 15 _ _ 0 0 0 [some (.ref b), some (.int kind), none, none] [] (hp I L w1 w2 t)
  refine a_s rfl rfl ?_
  refine a_s2 rfl rfl rfl rfl rfl rfl ?_
  refine a_s rfl rfl ?_
  refine a_s3 rfl rfl rfl rfl rfl rfl ?_
  skip
  refine a_inv (n := nl) (fun mm ls h => ∃ j v, j + mm = nl ∧ ls = [some (.ref b), some (.int kind), some (.int (sumL F (I (b + 1)) (I (b + 2)) cd fa fn kind j)), some (.int (nI j))] ∧ h = hp (upr I (b + 7) v) L w1 w2 t) ⟨0, I (b + 7), by omega, by rw [nI_0]; rfl, by rw [upr_self]⟩ ?_
  rintro mm _ _ ⟨j, v, hj, rfl, rfl⟩ ih
  obtain ⟨hlin, hnl, hlen, hcd, hw0⟩ := hw
  by_cases hjn : j = nl
  · subst hjn
    rcases hlin with ⟨hlin, rfl⟩ | hlin
    · refine a_l3 rfl rfl rfl ?_
      refine a_l0 rfl rfl rfl ?_
      refine a_geti rfl gfX2_11_2 (kW0 hb) ?_
      rw [upr_row (show b ≠ b + 7 by omega)]
      refine a_top hlin ?_
      refine a_ic_ge rfl (fun c9 => ?_) (fun c => absurd (by decide) c)
      refine a_l2 rfl rfl rfl ?_
      refine a_iret rfl rfl ⟨rfl, v, rfl⟩
    · refine a_l3 rfl rfl rfl ?_
      refine a_l0 rfl rfl rfl ?_
      refine a_geti rfl gfX2_11_2 (kW0 hb) ?_
      rw [upr_row (show b ≠ b + 7 by omega)]
      refine a_top hlin ?_
      refine a_ic_ge rfl (fun c9 => ?_) (fun c => absurd (Int32.le_refl _) c)
      refine a_l2 rfl rfl rfl ?_
      refine a_iret rfl rfl ⟨rfl, v, rfl⟩
  · obtain ⟨hw1, hw2, hw3, hw4⟩ := hw0 j (by omega)
    replace hlin := hlin.resolve_left (fun z => by omega)
    refine a_l3 rfl rfl rfl ?_
    refine a_l0 rfl rfl rfl ?_
    refine a_geti rfl gfX2_11_2 (kW0 hb) ?_
    rw [upr_row (show b ≠ b + 7 by omega)]
    refine a_top hlin ?_
    refine a_ic_ge rfl (fun c => absurd c (nI_ge (by omega) (by omega))) (fun c9 => ?_)
    refine a_l0 rfl rfl rfl ?_
    refine a_getq rfl gfX2_15_2 (kW0 hb) (rW2 hb) ?_
    refine a_l3 rfl rfl rfl ?_
    refine a_eSN1 rfl lX2_61 mo_X11_at ((sp_X11_at (n := 12) (kW1 hb)).cast (r' := some (.int (I (b + 1) j))) (by rw [upr_row (by omega), atF_nI (by omega) (by decide)]) rfl) rfl rfl rfl rfl ?_
    refine a_l1 rfl rfl rfl ?_
    refine a_ic_ne rfl (fun c21 => ?_) (fun c21 => ?_)
    · refine a_i3 rfl rfl rfl ?_
      refine a_goto rfl ?_
      exact a_back (ih (mm - 1) _ _ (by omega) ⟨j + 1, v, by omega, rfl, rfl⟩) (by simp [lsub, nI_1, sumL, c21]) rfl
    · refine a_l0 rfl rfl rfl ?_
      refine a_l3 rfl rfl rfl ?_
      refine a_callV rfl lX2_105 mo_X2_holds (sp_X2_holds (n := j) (a := fa j) (N := fn j) (cd := cd) (F := F) hb (by omega) (by rw [upr_row (by omega)]; exact hw1) (by rw [upr_row (by omega)]; exact hw2) (by omega) (fun i hi => by rw [upr_row (by omega)]; exact hcd i (by omega)) (fun k hk => by rw [upr_row (by omega)]; exact hF k hk) hF01 hw4) rfl rfl rfl ⟨2, _, kW0 hb, rfl, rfl⟩ rfl (fun v' h' hv => ?_) (fun E h' hx => False.elim hx)
      obtain ⟨rfl, f, rfl⟩ := hv
      rw [upr_upr]
      refine a_if_eq rfl (fun c29 => ?_) (fun c29 => ?_)
      · refine a_i3 rfl rfl rfl ?_
        refine a_goto rfl ?_
        exact a_back (ih (mm - 1) _ _ (by omega) ⟨j + 1, _, by omega, rfl, rfl⟩) (by simp [lsub, nI_1, sumL, c21, bI_f c29]) rfl
      · refine a_l2 rfl rfl rfl ?_
        refine a_l0 rfl rfl rfl ?_
        refine a_getq rfl gfX2_19_2 (kW0 hb) (rW3 hb) ?_
        refine a_l3 rfl rfl rfl ?_
        refine a_eSN1 rfl lX2_61 mo_X11_at ((sp_X11_at (n := 12) (kW2 hb)).cast (r' := some (.int (I (b + 2) j))) (by rw [upr_row (by omega), atF_nI (by omega) (by decide)]) rfl) rfl rfl rfl rfl ?_
        refine a_s rfl rfl ?_
        refine a_s2 rfl rfl rfl rfl rfl rfl ?_
        refine a_i3 rfl rfl rfl ?_
        refine a_goto rfl ?_
        exact a_back (ih (mm - 1) _ _ (by omega) ⟨j + 1, _, by omega, rfl, rfl⟩) (by simp [lsub, nI_1, sumL, c21, bI_t c29]) rfl
theorem LawC.keep {I I' : Nat → Nat → Int32} {b nl len : Nat} {cd fa fn : Nat → Nat} (h : LawC I b nl len cd fa fn) (hf : ∀ q, q ≠ b + 6 → I' q = I q) : LawC I' b nl len cd fa fn := by
  unfold LawC at h ⊢
  rw [hf b (by omega), hf (b + 5) (by omega), hf (b + 3) (by omega), hf (b + 4) (by omega)]
  exact h
theorem LawC.keep7 {I : Nat → Nat → Int32} {f : Nat → Int32} {b nl len : Nat} {cd fa fn : Nat → Nat} (h : LawC I b nl len cd fa fn) : LawC (upr I (b + 7) f) b nl len cd fa fn := by
  unfold LawC at h ⊢
  rw [upr_row (show b ≠ b + 7 by omega), upr_row (show b + 5 ≠ b + 7 by omega), upr_row (show b + 3 ≠ b + 7 by omega), upr_row (show b + 4 ≠ b + 7 by omega)]
  exact h
theorem sp_X2_growthOf {S : aS} {I : Nat → Nat → Int32} {L : Nat → Nat → Int64} {w1 w2 t : Nat} {a b d nl len : Nat} {cd fa fn : Nat → Nat} (ha : stp a) (hb : lwp b) (hd : d < 12) (hw : LawC I b nl len cd fa fn) : Sp S m_X2_growthOf 16 0 0 [.ref b, .ref a, .int (nI d)] (hp I L w1 w2 t) (fun v h' => v = some (.int (growC I a b cd fa fn nl d)) ∧ ∃ I', h' = hp I' L w1 w2 t ∧ ∀ q, q ≠ b + 6 → q ≠ b + 7 → I' q = I q) (fun _ _ => False) := by
  refine Sp_of ok_X2_growthOf rfl rfl ?_
  show AW S m_X2_growthOf 16 _ _ 0 0 0 [some (.ref b), some (.ref a), some (.int (nI d))] [] (hp I L w1 w2 t)
  refine a_l0 rfl rfl rfl ?_
  refine a_l1 rfl rfl rfl ?_
  refine a_l2 rfl rfl rfl ?_
  refine a_callV rfl lX2_48 mo_X2_takeParts (sp_X2_takeParts ha hb (by omega)) rfl rfl rfl ⟨2, _, kW0 hb, rfl, rfl⟩ rfl (fun v h' hv => ?_) (fun E h' hx => False.elim hx)
  obtain ⟨rfl, I1, rfl, hf, hp9⟩ := hv
  have hsep := stp_lwp a ha b hb
  have hw' : LawC I1 b nl len cd fa fn := hw.keep hf
  have e1 : I1 (b + 1) = I (b + 1) := hf _ (by omega)
  have e2 : I1 (b + 2) = I (b + 2) := hf _ (by omega)
  refine a_l0 rfl rfl rfl ?_
  refine a_s rfl rfl ?_
  refine a_callV rfl lX2_52 mo_X2_sumOfLines (sp_X2_sumOfLines (F := factC I a d) hb hw' hp9 (factC_01 I a d)) rfl rfl rfl ⟨2, _, kW0 hb, rfl, rfl⟩ rfl (fun v h' hv => ?_) (fun E h' hx => False.elim hx)
  obtain ⟨rfl, f, rfl⟩ := hv
  refine a_iret rfl rfl ⟨by unfold growC sumC; rw [e1, e2], _, rfl, fun q h6 h7 => (upr_row h7).trans (hf q h6)⟩
theorem sp_X2_shameOf {S : aS} {I : Nat → Nat → Int32} {L : Nat → Nat → Int64} {w1 w2 t : Nat} {a b d nl len : Nat} {cd fa fn : Nat → Nat} (ha : stp a) (hb : lwp b) (hd : d < 12) (hw : LawC I b nl len cd fa fn) : Sp S m_X2_shameOf 16 0 0 [.ref b, .ref a, .int (nI d)] (hp I L w1 w2 t) (fun v h' => v = some (.int (shameC I a b cd fa fn nl d)) ∧ ∃ I', h' = hp I' L w1 w2 t ∧ ∀ q, q ≠ b + 6 → q ≠ b + 7 → I' q = I q) (fun _ _ => False) := by
  refine Sp_of ok_X2_shameOf rfl rfl ?_
  show AW S m_X2_shameOf 16 _ _ 0 0 0 [some (.ref b), some (.ref a), some (.int (nI d))] [] (hp I L w1 w2 t)
  refine a_l0 rfl rfl rfl ?_
  refine a_l1 rfl rfl rfl ?_
  refine a_l2 rfl rfl rfl ?_
  refine a_callV rfl lX2_48 mo_X2_takeParts (sp_X2_takeParts ha hb (by omega)) rfl rfl rfl ⟨2, _, kW0 hb, rfl, rfl⟩ rfl (fun v h' hv => ?_) (fun E h' hx => False.elim hx)
  obtain ⟨rfl, I1, rfl, hf, hp9⟩ := hv
  have hsep := stp_lwp a ha b hb
  have hw' : LawC I1 b nl len cd fa fn := hw.keep hf
  have e1 : I1 (b + 1) = I (b + 1) := hf _ (by omega)
  have e2 : I1 (b + 2) = I (b + 2) := hf _ (by omega)
  refine a_s rfl rfl ?_
  refine a_l1 rfl rfl rfl ?_
  refine a_getq rfl gfX2_56_5 (kS0 ha) (rS6 ha) ?_
  refine a_l2 rfl rfl rfl ?_
  refine a_eSN1 rfl lX2_61 mo_X11_at ((sp_X11_at (n := 12) (kS5 ha)).cast (r' := some (.int (I (a + 5) d))) (by rw [hf _ (by omega), atF_nI (by omega) (by decide)]) rfl) rfl rfl rfl rfl ?_
  refine a_l0 rfl rfl rfl ?_
  refine a_s rfl rfl ?_
  refine a_callV rfl lX2_52 mo_X2_sumOfLines (sp_X2_sumOfLines (F := factC I a d) hb hw' hp9 (factC_01 I a d)) rfl rfl rfl ⟨2, _, kW0 hb, rfl, rfl⟩ rfl (fun v h' hv => ?_) (fun E h' hx => False.elim hx)
  obtain ⟨rfl, f, rfl⟩ := hv
  refine a_s rfl rfl ?_
  refine a_l0 rfl rfl rfl ?_
  refine a_s rfl rfl ?_
  refine a_callV rfl lX2_52 mo_X2_sumOfLines (sp_X2_sumOfLines (F := factC I a d) hb hw'.keep7 (fun k hk => by rw [upr_row (by omega)]; exact hp9 k hk) (factC_01 I a d)) rfl rfl rfl ⟨2, _, kW0 hb, rfl, rfl⟩ rfl (fun v h' hv => ?_) (fun E h' hx => False.elim hx)
  obtain ⟨rfl, f2, rfl⟩ := hv
  refine a_s rfl rfl ?_
  refine a_max rfl lX2_65 mj_max rfl rfl ?_
  refine a_iret rfl rfl ⟨by unfold shameC sumC mx0; rw [upr_row (show b + 1 ≠ b + 7 by omega), upr_row (show b + 2 ≠ b + 7 by omega), e1, e2], _, rfl, fun q h6 h7 => (upr_row h7).trans ((upr_row h7).trans (hf q h6))⟩
end
section
/-! ===== the class: shame of a set, needs ===== -/
theorem factC_keep {I I' : Nat → Nat → Int32} {a b d : Nat} (hs : a + 11 ≤ b ∨ b + 8 ≤ a) (hf : ∀ q, q ≠ b + 6 → q ≠ b + 7 → I' q = I q) : factC I' a d = factC I a d := by
  funext k
  unfold factC
  rw [hf a (by omega) (by omega), hf (a + 1) (by omega) (by omega), hf (a + 3) (by omega) (by omega), hf (a + 4) (by omega) (by omega), hf (a + 5) (by omega) (by omega), hf (a + 6) (by omega) (by omega), hf (a + 7) (by omega) (by omega), hf (a + 8) (by omega) (by omega)]
theorem sumC_keep {I I' : Nat → Nat → Int32} {b : Nat} {F : Nat → Int32} {cd fa fn : Nat → Nat} {nl : Nat} {kind : Int32} (hf : ∀ q, q ≠ b + 6 → q ≠ b + 7 → I' q = I q) : sumC I' b F cd fa fn nl kind = sumC I b F cd fa fn nl kind := by
  unfold sumC
  rw [hf (b + 1) (by omega) (by omega), hf (b + 2) (by omega) (by omega)]
theorem shameC_keep {I I' : Nat → Nat → Int32} {a b : Nat} {cd fa fn : Nat → Nat} {nl d : Nat} (hs : a + 11 ≤ b ∨ b + 8 ≤ a) (hf : ∀ q, q ≠ b + 6 → q ≠ b + 7 → I' q = I q) : shameC I' a b cd fa fn nl d = shameC I a b cd fa fn nl d := by
  unfold shameC
  rw [factC_keep hs hf, sumC_keep hf, sumC_keep hf, hf (a + 5) (by omega) (by omega)]
theorem LawC.keep67 {I I' : Nat → Nat → Int32} {b nl len : Nat} {cd fa fn : Nat → Nat} (h : LawC I b nl len cd fa fn) (hf : ∀ q, q ≠ b + 6 → q ≠ b + 7 → I' q = I q) : LawC I' b nl len cd fa fn := by
  unfold LawC at h ⊢
  rw [hf b (by omega) (by omega), hf (b + 5) (by omega) (by omega), hf (b + 3) (by omega) (by omega), hf (b + 4) (by omega) (by omega)]
  exact h
/-- has, by a set's bit and a shift -/
theorem shl_eq (d : Nat) : ∀ n : Nat, n < 12 → (1 : Int32) <<< (nI n &&& 31) = nI (2 ^ n) := by decide +kernel
set_option maxRecDepth 100000
def sumG (f : Nat → Int32) (s : Int32) : Nat → Int32
  | 0 => 0
  | n + 1 => if hasF s (nI n) then sumG f s n + f n else sumG f s n
theorem sp_X2_shameOfSet {S : aS} {I : Nat → Nat → Int32} {L : Nat → Nat → Int64} {w1 w2 t : Nat} {a b nd nl len : Nat} {cd fa fn : Nat → Nat} (ha : stp a) (hb : lwp b) (hdu : I a 3 = nI nd) (hn : nd ≤ 12) (hw : LawC I b nl len cd fa fn) {s : Int32} : Sp S m_X2_shameOfSet 17 0 0 [.ref b, .ref a, .int s] (hp I L w1 w2 t) (fun v h' => v = some (.int (sumG (shameC I a b cd fa fn nl) s nd)) ∧ ∃ I', h' = hp I' L w1 w2 t ∧ ∀ q, q ≠ b + 6 → q ≠ b + 7 → I' q = I q) (fun _ _ => False) := by
  have hsep := stp_lwp a ha b hb
  refine Sp_of ok_X2_shameOfSet rfl rfl ?_
  show AW S m_X2_shameOfSet 17 _ _ 0 0 0 [some (.ref b), some (.ref a), some (.int s), none, none] [] (hp I L w1 w2 t)
  refine a_s rfl rfl ?_
  refine a_s3 rfl rfl rfl rfl rfl rfl ?_
  refine a_s rfl rfl ?_
  refine a_s4 rfl rfl rfl rfl rfl rfl ?_
  skip
  refine a_inv (n := nd) (fun mm ls h => ∃ j I1, j + mm = nd ∧ ls = [some (.ref b), some (.ref a), some (.int s), some (.int (sumG (shameC I a b cd fa fn nl) s j)), some (.int (nI j))] ∧ h = hp I1 L w1 w2 t ∧ ∀ q, q ≠ b + 6 → q ≠ b + 7 → I1 q = I q) ⟨0, I, by omega, by rw [nI_0]; rfl, rfl, fun _ _ _ => rfl⟩ ?_
  rintro mm _ _ ⟨j, I1, hj, rfl, rfl, hf⟩ ih
  by_cases hjn : j < nd
  · refine a_l4 rfl rfl rfl ?_
    refine a_l1 rfl rfl rfl ?_
    refine a_geti rfl gfX2_71_5 (kS0 ha) ?_
    refine a_top (y := nI nd) ((congrFun (hf a (by omega) (by omega)) 3).trans hdu) ?_
    refine a_ic_ge rfl (fun c => absurd c (nI_ge (by omega) (by omega))) (fun c11 => ?_)
    refine a_l2 rfl rfl rfl ?_
    refine a_l4 rfl rfl rfl ?_
    refine a_eSN1 rfl lX2_74 mo_X11_has (sp_X11_has) rfl rfl rfl rfl ?_
    refine a_if_eq rfl (fun c20 => ?_) (fun c20 => ?_)
    · refine a_i4 rfl rfl rfl ?_
      refine a_goto rfl ?_
      exact a_back (ih (mm - 1) _ _ (by omega) ⟨j + 1, I1, by omega, rfl, rfl, hf⟩) (by simp [lsub, nI_1, sumG, bI_f c20]) rfl
    · refine a_l3 rfl rfl rfl ?_
      refine a_l0 rfl rfl rfl ?_
      refine a_l1 rfl rfl rfl ?_
      refine a_l4 rfl rfl rfl ?_
      refine a_callV rfl lX2_78 mo_X2_shameOf (sp_X2_shameOf (d := j) ha hb (by omega) (hw.keep67 hf)) rfl rfl rfl ⟨2, _, kW0 hb, rfl, rfl⟩ rfl (fun v' h' hv => ?_) (fun E h' hx => False.elim hx)
      obtain ⟨rfl, I2, rfl, hf2⟩ := hv
      rw [shameC_keep hsep hf]
      refine a_s rfl rfl ?_
      refine a_s3 rfl rfl rfl rfl rfl rfl ?_
      refine a_i4 rfl rfl rfl ?_
      refine a_goto rfl ?_
      exact a_back (ih (mm - 1) _ _ (by omega) ⟨j + 1, I2, by omega, rfl, rfl, fun q h6 h7 => (hf2 q h6 h7).trans (hf q h6 h7)⟩) (by simp [lsub, nI_1, sumG, bI_t c20]) rfl
  · obtain rfl : j = nd := by omega
    refine a_l4 rfl rfl rfl ?_
    refine a_l1 rfl rfl rfl ?_
    refine a_geti rfl gfX2_71_5 (kS0 ha) ?_
    refine a_top (y := nI j) ((congrFun (hf a (by omega) (by omega)) 3).trans hdu) ?_
    refine a_ic_ge rfl (fun c11 => ?_) (fun c => absurd (Int32.le_refl _) c)
    refine a_l3 rfl rfl rfl ?_
    refine a_iret rfl rfl ⟨rfl, I1, rfl, hf⟩
def needC (load free : Int32) : Int32 := if load = 0 then 0 else if 0 < free then (load + free - 1) / free else 1000
theorem sp_X11_needsOf {S : aS} {h : aH} {x y : Int32} : SpE S m_X11_needsOf 12 [.int x, .int y] (h) (some (.int (needC x y))) (h) := by
  refine SpE_of ok_X11_needsOf rfl rfl ?_
  show AW S m_X11_needsOf 12 _ _ 0 0 0 [some (.int x), some (.int y)] [] (h)
  refine a_l0 rfl rfl rfl ?_
  refine a_if_ne rfl (fun c1 => ?_) (fun c1 => ?_)
  · refine a_l1 rfl rfl rfl ?_
    refine a_if_le rfl (fun c7 => ?_) (fun c7 => ?_)
    · refine a_s rfl rfl ?_
      refine a_iret rfl rfl ⟨by simp_all [needC, le_nl, -Int32.not_lt, -Int32.not_le], rfl⟩
    · refine a_l0 rfl rfl rfl ?_
      refine a_l1 rfl rfl rfl ?_
      refine a_s rfl rfl ?_
      refine a_s rfl rfl ?_
      refine a_s rfl rfl ?_
      refine a_l1 rfl rfl rfl ?_
      refine a_idiv rfl ((fun z => by rw [z] at c7; exact absurd c7 (by decide))) ?_
      refine a_goto rfl ?_
      refine a_iret rfl rfl ⟨by simp_all [needC, le_nl, -Int32.not_lt, -Int32.not_le], rfl⟩
  · refine a_s rfl rfl ?_
    refine a_iret rfl rfl ⟨by simp [needC, *], rfl⟩
end
section
/-! ===== a day's work, pure: rows of left and state, hours, tools had, how many were finished ===== -/
abbrev WkT : Type := (Nat → Int32) × (Nat → Int32) × Int32 × Int32 × Nat
def rset (f : Nat → Int32) (d : Nat) (x : Int32) : Nat → Int32 := fun e => if e = d then x else f e
theorem rset_at {f : Nat → Int32} {d : Nat} {x : Int32} : rset f d x d = x := if_pos rfl
theorem rset_ne {f : Nat → Int32} {d e : Nat} {x : Int32} (h : e ≠ d) : rset f d x e = f e := if_neg h
def rdy (st le : Nat → Int32) (d : Nat) : Bool := decide (st d = 0) && decide (le d = -1 ∨ st (le d).toNatClampNeg = 1)
def mn (x y : Int32) : Int32 := if y < x then y else x
def wkS (ow tl le : Nat → Int32) (p taken : Int32) (s : WkT) (d : Nat) : WkT :=
  if 0 < s.2.2.1 ∧ ow d = p ∧ rdy s.2.1 le d = true ∧ hasF taken (tl d) = false then
    (if s.1 d - mn s.2.2.1 (s.1 d) = 0 then (rset s.1 d 0, rset s.2.1 d 1, s.2.2.1 - mn s.2.2.1 (s.1 d), s.2.2.2.1 ||| bitF (tl d), s.2.2.2.2 + 1)
     else (rset s.1 d (s.1 d - mn s.2.2.1 (s.1 d)), s.2.1, s.2.2.1 - mn s.2.2.1 (s.1 d), s.2.2.2.1 ||| bitF (tl d), s.2.2.2.2))
  else s
def wkF (ow tl le : Nat → Int32) (p taken : Int32) (s : WkT) : Nat → WkT
  | 0 => s
  | n + 1 => wkS ow tl le p taken (wkF ow tl le p taken s n) n
theorem wkF_stop {ow tl le : Nat → Int32} {p taken : Int32} {s : WkT} {j : Nat} (h : ¬ 0 < (wkF ow tl le p taken s j).2.2.1) : ∀ i, wkF ow tl le p taken s (j + i) = wkF ow tl le p taken s j := by
  intro i
  induction i with
  | zero => rfl
  | succ i ih =>
    show wkS ow tl le p taken (wkF ow tl le p taken s (j + i)) (j + i) = _
    rw [ih]
    unfold wkS
    rw [if_neg (fun z => h z.1)]
/-- hours 0 to 9; left 0 to 99, of a waiting one 1 at least; states 0 to 2 -/
def WkOk (nd : Nat) (s : WkT) : Prop := (∃ h, h ≤ 9 ∧ s.2.2.1 = nI h) ∧ ∀ d, d < nd → (∃ l, l ≤ 99 ∧ s.1 d = nI l ∧ (s.2.1 d = 0 → 1 ≤ l)) ∧ (s.2.1 d = 0 ∨ s.2.1 d = 1 ∨ s.2.1 d = 2)
theorem nI_subm {n j : Nat} (h : j ≤ n) : nI n - nI j = nI (n - j) := nI_sub h
theorem nI_lt_iff {a b : Nat} (ha : a < 2 ^ 31) (hb : b < 2 ^ 31) : nI a < nI b ↔ a < b := by
  rw [Int32.lt_iff_toInt_lt, nI_toInt ha, nI_toInt hb]
  omega
theorem nI_eq0 {a : Nat} (ha : a < 2 ^ 31) : nI a = 0 ↔ a = 0 := by
  constructor
  · intro h
    exact nI_inj ha (by decide) (h.trans nI_0.symm)
  · intro h
    rw [h, nI_0]
theorem mn_nI {a b : Nat} (ha : a < 2 ^ 31) (hb : b < 2 ^ 31) : mn (nI a) (nI b) = nI (min a b) := by
  unfold mn
  by_cases h : b < a
  · rw [if_pos ((nI_lt_iff hb ha).mpr h), Nat.min_eq_right (by omega)]
  · rw [if_neg (fun z => h ((nI_lt_iff hb ha).mp z)), Nat.min_eq_left (by omega)]
theorem rdy_st {st le : Nat → Int32} {d : Nat} (h : rdy st le d = true) : st d = 0 := by
  unfold rdy at h
  rw [Bool.and_eq_true] at h
  exact of_decide_eq_true h.1
theorem WkOk.step {nd : Nat} {s : WkT} {ow tl le : Nat → Int32} {p taken : Int32} {d : Nat} (h : WkOk nd s) (hd : d < nd) : WkOk nd (wkS ow tl le p taken s d) := by
  unfold wkS
  split
  · next c =>
    obtain ⟨⟨k, hk, ek⟩, h2⟩ := h
    obtain ⟨⟨l, hl, el, hl1⟩, -⟩ := h2 d hd
    have e1 : s.1 d - mn s.2.2.1 (s.1 d) = nI (l - min k l) := by
      rw [ek, el, mn_nI (by omega) (by omega), nI_sub (by omega)]
    have e2 : s.2.2.1 - mn s.2.2.1 (s.1 d) = nI (k - min k l) := by
      rw [ek, el, mn_nI (by omega) (by omega), nI_sub (by omega)]
    rw [e1, e2]
    split
    · refine ⟨⟨k - min k l, by omega, rfl⟩, fun e he => ?_⟩
      by_cases hed : e = d
      · subst hed
        refine ⟨⟨0, by omega, by rw [nI_0]; exact rset_at, fun z => ?_⟩, Or.inr (Or.inl rset_at)⟩
        exact absurd ((rset_at (f := s.2.1) (d := e) (x := 1)).symm.trans z) (by decide)
      · have := h2 e he
        refine ⟨?_, ?_⟩
        · obtain ⟨l', q1, q2, q3⟩ := this.1
          exact ⟨l', q1, (rset_ne hed).trans q2, fun z => q3 ((rset_ne hed).symm.trans z)⟩
        · show rset s.2.1 d 1 e = 0 ∨ rset s.2.1 d 1 e = 1 ∨ rset s.2.1 d 1 e = 2
          rw [rset_ne hed]
          exact this.2
    · next hn0 =>
      refine ⟨⟨k - min k l, by omega, rfl⟩, fun e he => ?_⟩
      by_cases hed : e = d
      · subst hed
        refine ⟨⟨l - min k l, by omega, rset_at, fun _ => ?_⟩, (h2 e he).2⟩
        have : ¬ l - min k l = 0 := fun z => hn0 (by rw [z, nI_0])
        omega
      · obtain ⟨⟨l', q1, q2, q3⟩, q4⟩ := h2 e he
        exact ⟨⟨l', q1, (rset_ne hed).trans q2, q3⟩, q4⟩
  · exact h
theorem WkOk.run {nd : Nat} {s : WkT} {ow tl le : Nat → Int32} {p taken : Int32} (h : WkOk nd s) : ∀ n, n ≤ nd → WkOk nd (wkF ow tl le p taken s n) := by
  intro n
  induction n with
  | zero => intro _; exact h
  | succ n ih => intro hn; exact (ih (by omega)).step (by omega)
end
section
/-! ===== safe walks: what may change, loops that count up, switches ===== -/
/-- of the heap's ints only those of s may have changed -/
def Fm (s : Nat → Nat → Bool) (I I' : Nat → Nat → Int32) : Prop := ∀ q k, s q k = false → I' q k = I q k
theorem Fm.rf {s : Nat → Nat → Bool} {I : Nat → Nat → Int32} : Fm s I I := fun _ _ _ => rfl
theorem Fm.tr {s : Nat → Nat → Bool} {I I' I'' : Nat → Nat → Int32} (h : Fm s I I') (h2 : Fm s I' I'') : Fm s I I'' := fun q k hq => (h2 q k hq).trans (h q k hq)
theorem Fm.mo {s s' : Nat → Nat → Bool} {I I' : Nat → Nat → Int32} (h : Fm s I I') (hs : ∀ q k, s q k = true → s' q k = true) : Fm s' I I' := fun q k hq => h q k (by
  cases h2 : s q k with
  | false => rfl
  | true => rw [hs q k h2] at hq; cases hq)
theorem Fm.up {s : Nat → Nat → Bool} {I I' : Nat → Nat → Int32} {p j : Nat} {v : Int32} (h : Fm s I I') (hs : s p j = true) : Fm s I (up2 I' p j v) := fun q k hq => by
  rw [up2_ne (by
    by_cases h1 : q = p
    · by_cases h2 : k = j
      · subst h1; subst h2; rw [hs] at hq; cases hq
      · exact Or.inr h2
    · exact Or.inl h1)]
  exact h q k hq
theorem Fm.row {s : Nat → Nat → Bool} {I I' : Nat → Nat → Int32} {p : Nat} {f : Nat → Int32} (h : Fm s I I') (hs : ∀ k, s p k = true) : Fm s I (upr I' p f) := fun q k hq => by
  rw [upr_row (by intro e; subst e; rw [hs] at hq; cases hq)]
  exact h q k hq
theorem Fm.of1 {s : Nat → Nat → Bool} {I I1 I' : Nat → Nat → Int32} {p : Nat} (h : Fm s I I1) (hf : ∀ q, q ≠ p → I' q = I1 q) (hs : ∀ k, s p k = true) : Fm s I I' := fun q k hq => by
  rw [hf q (by intro e; subst e; rw [hs] at hq; cases hq)]
  exact h q k hq
theorem setF_row {I : Nat → Nat → Int32} {p n q : Nat} {i v : Int32} (h : q ≠ p) : setF I p n i v q = I q := by
  unfold setF
  split
  · rfl
  · split
    · rfl
    · exact up2_row h
theorem Fm.st {s : Nat → Nat → Bool} {I I' : Nat → Nat → Int32} {p n : Nat} {i v : Int32} (h : Fm s I I') (hs : ∀ k, s p k = true) : Fm s I (setF I' p n i v) := h.of1 (fun _ hq => setF_row hq) hs
theorem Fm.cp {s : Nat → Nat → Bool} {I I' : Nat → Nat → Int32} {a b m : Nat} (h : Fm s I I') (hs : ∀ i k, i < m → s (a + i) k = true) : Fm s I (cpS I' a b m) := fun q k hq => by
  rw [cpS_out (by
    intro z
    have := hs (q - a) k (by omega)
    rw [show a + (q - a) = q by omega, hq] at this
    cases this)]
  exact h q k hq
abbrev isI : Option Value → Prop := fun v => ∃ x, v = some (.int x)
abbrev isZ : Option Value → Prop := fun v => ∃ b, v = some (.int (bI b))
abbrev isV : Option Value → Prop := fun v => v = none
abbrev isL : Option Value → Prop := fun v => ∃ x, v = some (.long x)
/-- it ends so, and nothing has changed -/
abbrev QE (z : Option Value → Prop) (h : aH) : Option Value → aH → Prop := fun v h' => z v ∧ h' = h
/-- it ends so, in a heap of which P holds -/
abbrev QR (P : (Nat → Nat → Int32) → Prop) (z : Option Value → Prop) (L : Nat → Nat → Int64) (w1 w2 t : Nat) : Option Value → aH → Prop := fun v h' => z v ∧ ∃ I', h' = hp I' L w1 w2 t ∧ P I'
abbrev nX : String → aH → Prop := fun _ _ => False
section A53
variable {S : aS} {C C' : aM} {d d' : Nat} {Q Q' : Option Value → aH → Prop} {X X' : String → aH → Prop} {k1 k2 j1 j2 pc np tgt n : Nat} {w : Int32} {ls ls' : List (Option Value)} {st st' st0 : List Value} {h h' : aH} {ins : Instr} {As : List Value} {v : Value}
variable {K : Nat → Nat × Nat} {I I' : Nat → Nat → Int32} {L : Nat → Nat → Int64} {R : Nat → Nat → Nat} {t : Nat}
/-- a name for a heap -/
theorem a_ren {w1 w2 : Nat} {P : (Nat → Nat → Int32) → Prop} (f : P I) (k : ∀ I', P I' → AW S C d Q X k1 k2 pc ls st (hp I' L w1 w2 t)) : AW S C d Q X k1 k2 pc ls st (hp I L w1 w2 t) := k I f
theorem nS (j : Nat) : some (Value.int (nI j + 1)) = some (Value.int (nI (j + 1))) := by rw [nI_succ]
theorem nI_b1 {b : Int32} {j : Nat} (hj : j < 2 ^ 31) (h : ¬ b ≤ nI j) : j + 1 < 2 ^ 31 := by
  rw [Int32.le_iff_toInt_le, nI_toInt hj] at h
  have := Int32.toInt_lt b
  omega
theorem nI_gt1 {a j : Nat} (ha : a + 1 < 2 ^ 31) (hj : j < 2 ^ 31) (h : ¬ nI a < nI j) : ¬ nI (a + 1) ≤ nI j := by
  rw [Int32.lt_iff_toInt_lt, nI_toInt (by omega), nI_toInt hj] at h
  rw [Int32.le_iff_toInt_le, nI_toInt ha, nI_toInt hj]
  omega
/-- a loop that counts up: a place's invariant -/
theorem a_cnt (P : Nat → List (Option Value) → aH → Prop) {j0 : Nat} {ls0 : List (Option Value)} (hj0 : j0 < 2 ^ 31) (h0 : P j0 ls0 h) (e : lsub ls0 ls)
    (hs : ∀ j ls h, j < 2 ^ 31 → P j ls h → (∀ b ls' ls'' h', ¬ b ≤ nI j → P (j + 1) ls' h' → lsub ls' ls'' → AW S C d Q X k1 k2 pc ls'' st h') → AW S C d Q X k1 k2 pc ls st h) : AW S C d Q X k1 k2 pc ls st h := by
  refine a_less (ls' := ls0) ?_ e
  have key : ∀ m j ls h, j + m = 2 ^ 31 → 0 < m → P j ls h → AW S C d Q X k1 k2 pc ls st h := by
    intro m
    induction m using Nat.strongRecOn with
    | _ m ih =>
      intro j ls h hm h0 hp
      refine hs j ls h (by omega) hp fun b ls' ls'' h' hb hp' hl => ?_
      have := nI_b1 (by omega) hb
      exact a_less (ih (m - 1) (by omega) (j + 1) ls' h' (by omega) (by omega) hp') hl
  exact key (2 ^ 31 - j0) j0 ls0 h (by omega) (by omega) h0
theorem i_succ {x b : Int32} (h : ¬ b ≤ x) : (x + 1).toInt = x.toInt + 1 := by
  have h1 : x.toInt < b.toInt := by
    rw [Int32.le_iff_toInt_le] at h
    omega
  have h2 := Int32.toInt_lt b
  have h3 := Int32.le_toInt x
  rw [Int32.toInt_add, show (1 : Int32).toInt = 1 from rfl]
  exact Int.bmod_eq_of_le (by omega) (by omega)
/-- the same, wherever it begins -/
theorem a_cntI (P : Int32 → List (Option Value) → aH → Prop) {x0 : Int32} {ls0 : List (Option Value)} (h0 : P x0 ls0 h) (e : lsub ls0 ls)
    (hs : ∀ x ls h, P x ls h → (∀ b ls' ls'' h', ¬ b ≤ x → P (x + 1) ls' h' → lsub ls' ls'' → AW S C d Q X k1 k2 pc ls'' st h') → AW S C d Q X k1 k2 pc ls st h) : AW S C d Q X k1 k2 pc ls st h := by
  refine a_less (ls' := ls0) ?_ e
  have key : ∀ (m : Nat) (x : Int32) ls h, x.toInt + m = 2 ^ 31 → P x ls h → AW S C d Q X k1 k2 pc ls st h := by
    intro m
    induction m using Nat.strongRecOn with
    | _ m ih =>
      intro x ls h hm hp
      refine hs x ls h hp fun b ls' ls'' h' hb hp' hl => ?_
      have h9 := i_succ hb
      have h8 := Int32.toInt_lt x
      exact a_less (ih (m - 1) (by omega) (x + 1) ls' h' (by omega) hp') hl
  have h7 := Int32.toInt_lt x0
  exact key (2 ^ 31 - x0.toInt).toNat x0 ls0 h (by omega) h0
/-- .. by twos, to a bound that is small -/
theorem a_cntI2 (P : Int32 → List (Option Value) → aH → Prop) {x0 : Int32} {ls0 : List (Option Value)} (h0 : P x0 ls0 h) (e : lsub ls0 ls)
    (hs : ∀ x ls h, P x ls h → (∀ b ls' ls'' h', (¬ b ≤ x ∧ ¬ 40 < b) → P (x + 2) ls' h' → lsub ls' ls'' → AW S C d Q X k1 k2 pc ls'' st h') → AW S C d Q X k1 k2 pc ls st h) : AW S C d Q X k1 k2 pc ls st h := by
  refine a_less (ls' := ls0) ?_ e
  have key : ∀ (m : Nat) (x : Int32) ls h, x.toInt + m = 2 ^ 31 → P x ls h → AW S C d Q X k1 k2 pc ls st h := by
    intro m
    induction m using Nat.strongRecOn with
    | _ m ih =>
      intro x ls h hm hp
      refine hs x ls h hp fun b ls' ls'' h' hb hp' hl => ?_
      obtain ⟨hb, hb4⟩ := hb
      have h9 : (x + 2).toInt = x.toInt + 2 := by
        have h1 : x.toInt < b.toInt := by
          rw [Int32.le_iff_toInt_le] at hb
          omega
        have h2 : b.toInt ≤ 40 := by
          rw [Int32.lt_iff_toInt_lt, show (40 : Int32).toInt = 40 from rfl] at hb4
          omega
        have h3 := Int32.le_toInt x
        rw [Int32.toInt_add, show (2 : Int32).toInt = 2 from rfl]
        exact Int.bmod_eq_of_le (by omega) (by omega)
      have h8 := Int32.toInt_lt x
      have h6 := Int32.toInt_lt (x + 2)
      exact a_less (ih (m - 2) (by omega) (x + 2) ls' h' (by omega) hp') hl
  have h7 := Int32.toInt_lt x0
  exact key (2 ^ 31 - x0.toInt).toNat x0 ls0 h (by omega) h0
theorem a_lsw2 {dflt a b oa ob : Int} {x : Int32} (hC : look C pc = some (.lookupswitch dflt #[(a, oa), (b, ob)], np, tgt, w)) (hab : a < b) (h0 : 0 ≤ (pc : Int) + oa ∧ 0 ≤ (pc : Int) + ob ∧ 0 ≤ (pc : Int) + dflt)
    (ka : x.toInt = a → AW S C d Q X k1 k2 ((pc : Int) + oa).toNat ls st h) (kb : x.toInt = b → AW S C d Q X k1 k2 ((pc : Int) + ob).toNat ls st h) (kd : ¬ x.toInt = a → ¬ x.toInt = b → AW S C d Q X k1 k2 ((pc : Int) + dflt).toNat ls st h) : AW S C d Q X k1 k2 pc ls (.int x :: st) h := by
  have hp : (#[(a, oa), (b, ob)].toList.zip (#[(a, oa), (b, ob)].toList.drop 1)).all (fun (a, next) => a.1 < next.1) = true := by simp [hab]
  by_cases e1 : x.toInt = a
  · refine a_lsw hC hp ?_ (ka e1)
    have : Op.lookupswitch.offset #[(a, oa), (b, ob)].toList dflt x.toInt = oa := by simp [Op.lookupswitch.offset, e1]
    rw [this]
    omega
  · by_cases e2 : x.toInt = b
    · refine a_lsw hC hp ?_ (kb e2)
      have : Op.lookupswitch.offset #[(a, oa), (b, ob)].toList dflt x.toInt = ob := by
        have e3 : ¬ a = x.toInt := fun z => e1 z.symm
        simp [Op.lookupswitch.offset, e2, e3]
        intro z
        exact absurd z (by omega)
      rw [this]
      omega
    · refine a_lsw hC hp ?_ (kd e1 e2)
      have : Op.lookupswitch.offset #[(a, oa), (b, ob)].toList dflt x.toInt = dflt := by
        have e3 : ¬ a = x.toInt := fun z => e1 z.symm
        have e4 : ¬ b = x.toInt := fun z => e2 z.symm
        simp [Op.lookupswitch.offset, e3, e4]
      rw [this]
      omega
theorem a_pc {pc' : Nat} (e : pc = pc') (k : AW S C d Q X k1 k2 pc' ls st h) : AW S C d Q X k1 k2 pc ls st h := by
  rw [e]
  exact k
/-- a switch over a number of which nothing is known -/
theorem a_tswA {dflt lo hi : Int} {offs : Array Int} {x : Int32} (hC : look C pc = some (.tableswitch dflt lo hi offs, np, tgt, w)) (hpos : 0 ≤ (pc : Int) + dflt ∧ ∀ o ∈ offs, 0 ≤ (pc : Int) + o) (hsz : (offs.size : Int) = hi - lo + 1)
    (kd : (x.toInt < lo ∨ hi < x.toInt) → AW S C d Q X k1 k2 ((pc : Int) + dflt).toNat ls st h) (ki : ∀ (i : Nat) o, offs[i]? = some o → x.toInt = lo + i → AW S C d Q X k1 k2 ((pc : Int) + o).toNat ls st h) : AW S C d Q X k1 k2 pc ls (.int x :: st) h := by
  by_cases hx : x.toInt < lo ∨ hi < x.toInt
  · exact a_tsw hC (by unfold swT; rw [if_pos hx]) hpos (kd hx)
  · have hi2 : (x.toInt - lo).toNat < offs.size := by omega
    have ho : offs[(x.toInt - lo).toNat]? = some offs[(x.toInt - lo).toNat] := Array.getElem?_eq_getElem hi2
    refine a_tsw hC (by unfold swT; rw [if_neg hx, ho]; rfl) hpos (ki _ _ ho ?_)
    omega
/-- calls whose end is known but not their answer -/
theorem a_gV {idx q : Nat} (hC : look C pc = some (.invokevirtual idx, np, tgt, w)) (hl : LK C.1.cls idx C') (hM : MOv C' n) (hs : Sp S C' d' 0 0 (.ref q :: As) h Q' nX) (hn : As.length = n) (h0 : st0 = As.reverse ++ .ref q :: st) (ho : cOk d d' 0 0 k1 k2 st = true) (hq : rcv h q C'.1.cls) (hh : C.2.2.2.2.1 = []) (kr : ∀ v h', Q' v h' → AW S C d Q X k1 k2 np ls (v.toList ++ st) h') : AW S C d Q X k1 k2 pc ls st0 h := a_callV hC hl hM hs hn h0 ho hq hh kr (fun _ _ z => False.elim z)
theorem a_gN {idx q : Nat} (hC : look C pc = some (.invokevirtual idx, np, tgt, w)) (hl : LKn C.1.cls idx C') (hM : MOv C' n) (hs : Sp S C' d' 0 0 (.ref q :: As) h Q' nX) (hn : As.length = n) (h0 : st0 = As.reverse ++ .ref q :: st) (ho : cOk d d' 0 0 k1 k2 st = true) (hq : rcv h q C'.1.cls) (hh : C.2.2.2.2.1 = []) (kr : ∀ v h', Q' v h' → AW S C d Q X k1 k2 np ls (v.toList ++ st) h') : AW S C d Q X k1 k2 pc ls st0 h := a_callN hC hl hM hs hn h0 ho hq hh kr (fun _ _ z => False.elim z)
theorem a_gS {idx : Nat} (hC : look C pc = some (.invokestatic idx, np, tgt, w)) (hl : LK C.1.cls idx C') (hM : MOs C' n) (hs : Sp S C' d' 0 0 As h Q' nX) (hn : As.length = n) (h0 : st0 = As.reverse ++ st) (ho : cOk d d' 0 0 k1 k2 st = true) (hh : C.2.2.2.2.1 = []) (kr : ∀ v h', Q' v h' → AW S C d Q X k1 k2 np ls (v.toList ++ st) h') : AW S C d Q X k1 k2 pc ls st0 h := a_callS hC hl hM hs hn h0 ho hh kr (fun _ _ z => False.elim z)
theorem a_gSN {idx : Nat} (hC : look C pc = some (.invokestatic idx, np, tgt, w)) (hl : LKn C.1.cls idx C') (hM : MOs C' n) (hs : Sp S C' d' 0 0 As h Q' nX) (hn : As.length = n) (h0 : st0 = As.reverse ++ st) (ho : cOk d d' 0 0 k1 k2 st = true) (hh : C.2.2.2.2.1 = []) (kr : ∀ v h', Q' v h' → AW S C d Q X k1 k2 np ls (v.toList ++ st) h') : AW S C d Q X k1 k2 pc ls st0 h := a_callSN hC hl hM hs hn h0 ho hh kr (fun _ _ z => False.elim z)
end A53
/-- the class's scratch: what a law's line is read in, what is chosen among, the street that goes ahead -/
def sQ (q _k : Nat) : Bool := Nat.beq q 252 || (Nat.beq q 253 || (Nat.beq q 255 || (Nat.beq q 256 || (Nat.ble 257 q && Nat.ble q 267))))
/-- exceptions by number: 0 no such thing, 1 a number is none, 2 it cannot be, 3 not supported, 4 no such element -/
def exN : Nat → String
  | 0 => "java/lang/IndexOutOfBoundsException"
  | 1 => "java/lang/IllegalArgumentException"
  | 2 => "java/lang/IllegalStateException"
  | 3 => "java/lang/UnsupportedOperationException"
  | _ => "java/util/NoSuchElementException"
def XR (P : (Nat → Nat → Int32) → Prop) (L : Nat → Nat → Int64) (w1 w2 : Nat) (ks : List Nat) : String → aH → Prop := fun E h' => (∃ k, k ∈ ks ∧ E = exN k) ∧ ∃ I', h' = hp I' L w1 w2 0 ∧ P I'
def XH (ks : List Nat) (h : aH) : String → aH → Prop := fun E h' => (∃ k, k ∈ ks ∧ E = exN k) ∧ h' = h
theorem XR.cm {P P' : (Nat → Nat → Int32) → Prop} {L : Nat → Nat → Int64} {w1 w2 : Nat} {ks ks' : List Nat} {E : String} {h' : aH} (h : XR P' L w1 w2 ks' E h') (hk : ∀ k ∈ ks', k ∈ ks) (f : ∀ I', P' I' → P I') : XR P L w1 w2 ks E h' := by
  obtain ⟨⟨k, h1, h2⟩, I', h3, h4⟩ := h
  exact ⟨⟨k, hk k h1, h2⟩, I', h3, f _ h4⟩
/-- what now may become: its rows, day, month, seed, log -/
def sN (q k : Nat) : Bool := sQ q k || ((Nat.beq q 235 && (Nat.beq k 10 || (Nat.beq k 11 || Nat.beq k 15))) || (Nat.ble 236 q && Nat.ble q 245))
theorem sQ_sN : ∀ q k, sQ q k = true → sN q k = true := fun q k h => by
  unfold sN
  rw [h]
  rfl
/-- the streets that stay: now, the draft, the image, the past: not more than 12 duties -/
def CI (I : Nat → Nat → Int32) : Prop := ∀ a, a ∈ stps → a ≠ 257 → ∃ nd, nd ≤ 12 ∧ I a 3 = nI nd
/-- the class alone has changed, the tape's length and whether there is an image have not -/
def Mt (I I' : Nat → Nat → Int32) : Prop := (∀ q, 420 ≤ q → I' q = I q) ∧ I' 201 1 = I 201 1 ∧ I' 200 10 = I 200 10 ∧ (CI I → CI I') ∧ I' 202 = I 202 ∧ I' 203 1 = I 203 1 ∧ I' 220 1 = I 220 1
theorem Mt.rf {I : Nat → Nat → Int32} : Mt I I := ⟨fun _ _ => rfl, rfl, rfl, id, rfl, rfl, rfl⟩
theorem Mt.tr {I I' I'' : Nat → Nat → Int32} (h : Mt I I') (h2 : Mt I' I'') : Mt I I'' := ⟨fun q hq => (h2.1 q hq).trans (h.1 q hq), h2.2.1.trans h.2.1, h2.2.2.1.trans h.2.2.1, fun z => h2.2.2.2.1 (h.2.2.2.1 z), h2.2.2.2.2.1.trans h.2.2.2.2.1, h2.2.2.2.2.2.1.trans h.2.2.2.2.2.1, h2.2.2.2.2.2.2.trans h.2.2.2.2.2.2⟩
/-- all of the class but these -/
def isSt (q : Nat) : Bool := Nat.beq q 209 || Nat.beq q 235 || (Nat.beq q 268 || stps.any (fun a => Nat.ble 288 a && Nat.beq q a))
def sM (q k : Nat) : Bool := Nat.blt q 420 && (!(Nat.beq q 201 && Nat.beq k 1) && (!(Nat.beq q 200 && Nat.beq k 10) && (!(isSt q && Nat.beq k 3) && (!(Nat.beq q 202) && !((Nat.beq q 203 || Nat.beq q 220) && Nat.beq k 1)))))
theorem sM_hi {q k : Nat} (h : 420 ≤ q) : sM q k = false := by
  have e : Nat.blt q 420 = false := by
    cases hb : Nat.blt q 420 with
    | false => rfl
    | true => exact absurd (Nat.le_of_ble_eq_true hb) (by omega)
  simp [sM, e]
theorem sM_st : ∀ a ∈ stps, a ≠ 257 → sM a 3 = false := by decide +kernel
theorem Mt.of {I I' : Nat → Nat → Int32} (f : Fm sM I I') : Mt I I' := ⟨fun q hq => funext fun k => f q k (sM_hi hq), f 201 1 rfl, f 200 10 rfl, (fun h a ha h2 => by
  rw [f a 3 (sM_st a ha h2)]
  exact h a ha h2), funext fun k => f 202 k rfl, f 203 1 rfl, f 220 1 rfl⟩
theorem Mt.fm {I I' I'' : Nat → Nat → Int32} (h : Mt I I') (f : Fm sM I' I'') : Mt I I'' := h.tr (Mt.of f)
theorem sN_lt {q k : Nat} (h : sN q k = true) : 235 ≤ q ∧ q < 268 ∧ (q = 235 → ¬ k = 3) := by
  simp only [sN, sQ, Bool.or_eq_true, Bool.and_eq_true] at h
  have B : ∀ {a b : Nat}, Nat.beq a b = true → a = b := fun z => Nat.eq_of_beq_eq_true z
  have E : ∀ {a b : Nat}, Nat.ble a b = true → a ≤ b := fun z => Nat.le_of_ble_eq_true z
  rcases h with (h | h | h | h | ⟨h, h'⟩) | ⟨h, h'⟩ | ⟨h, h'⟩
  · have := B h; omega
  · have := B h; omega
  · have := B h; omega
  · have := B h; omega
  · have := E h; have := E h'; omega
  · have := B h
    rcases h' with h' | h' | h' <;> (have := B h'; omega)
  · have := E h; have := E h'; omega
theorem sM_mid {q k : Nat} (h1 : 204 ≤ q ∧ q ≠ 220) (h2 : q < 420) (h3 : isSt q = true → ¬ k = 3) : sM q k = true := by
  have e1 : Nat.blt q 420 = true := blt_of h2
  have e2 : Nat.beq q 201 = false := beqF (by omega)
  have e3 : Nat.beq q 200 = false := beqF (by omega)
  have e6 : Nat.beq q 202 = false := beqF (by omega)
  have e7 : Nat.beq q 203 = false := beqF (by omega)
  have e8 : Nat.beq q 220 = false := beqF (by omega)
  cases h4 : isSt q with
  | false => simp [sM, e1, e2, e3, h4, e6, e7, e8]
  | true =>
    have e5 : Nat.beq k 3 = false := beqF (h3 h4)
    simp [sM, e1, e2, e3, h4, e5, e6, e7, e8]
theorem isSt_lt : ∀ q, q < 268 → isSt q = true → q = 209 ∨ q = 235 := by decide +kernel
theorem sN_sM : ∀ q k, sN q k = true → sM q k = true := fun q k h => by
  have h1 := sN_lt h
  exact sM_mid (by omega) (by omega) fun z => h1.2.2 ((isSt_lt q h1.2.1 z).resolve_left (by omega))
theorem sQ_sM : ∀ q k, sQ q k = true → sM q k = true := fun q k h => sN_sM q k (sQ_sN q k h)
theorem stp_220 : ∀ a ∈ stps, a + 11 ≤ 220 ∨ 220 < a := by decide +kernel
theorem stp_hi : ∀ a ∈ stps, 209 ≤ a ∧ a ≤ 409 := by decide +kernel
/-- one street into another -/
theorem Mt.cpM {I : Nat → Nat → Int32} {a b m : Nat} (ha : a ∈ stps) (hb : b ∈ stps) (h2 : b ≠ 257) (hm : m ≤ 11) (h0 : 0 < m) : Mt I (cpS I a b m) := by
  have ka := stp_hi a ha
  have kb := stp_220 a ha
  refine ⟨fun q hq => cpS_out (by omega), by rw [cpS_out (by omega)], by rw [cpS_out (by omega)], fun h s hs g2 => ?_, cpS_out (by omega), by rw [cpS_out (by omega)], by rw [cpS_out (by omega)]⟩
  by_cases e : s = a
  · subst e
    rw [cpS_in0 h0]
    exact h b hb h2
  · have := stp_apart s hs a ha e
    rw [cpS_out (by omega)]
    exact h s hs g2
theorem Mt.cpA {I : Nat → Nat → Int32} {a b : Nat} (ha : a ∈ stps) (hb : b ∈ stps) (h2 : b ≠ 257) : Mt I (cpS I a b 11) := Mt.cpM ha hb h2 (by omega) (by omega)
theorem Fm.cl {s : Nat → Nat → Bool} {I I' : Nat → Nat → Int32} {a b : Nat} (h : Fm s I I') (h0 : s a 0 = true) (hs : ∀ i k, i < 5 → s (a + 1 + i) k = true) : Fm s I (cpL I' a b) := by
  unfold cpL
  exact (h.cp hs).up h0
theorem Fm_l246 (i k : Nat) (h : i < 5) : sM (246 + 1 + i) k = true := sM_mid (by omega) (by omega) fun z => by
  have := isSt_lt _ (by omega) z
  omega
theorem isSt_l : ∀ i, i < 5 → isSt (279 + 1 + i) = false := by decide +kernel
theorem Fm_l279 (i k : Nat) (h : i < 5) : sM (279 + 1 + i) k = true := sM_mid (by omega) (by omega) fun z => by
  rw [isSt_l i h] at z
  cases z
/-- .. and the tape is used up -/
def Mt0 (I I' : Nat → Nat → Int32) : Prop := ∃ I1, Mt I I1 ∧ Mt (up2 I1 201 1 0) I'
theorem Mt0.mk {I I1 : Nat → Nat → Int32} (h : Mt I I1) : Mt0 I (up2 I1 201 1 0) := ⟨I1, h, Mt.rf⟩
theorem Mt0.tr {I I1 I2 : Nat → Nat → Int32} (h : Mt0 I I1) (h2 : Mt I1 I2) : Mt0 I I2 := by
  obtain ⟨J, h3, h4⟩ := h
  exact ⟨J, h3, h4.tr h2⟩
theorem Mt0.fm {I I1 I2 : Nat → Nat → Int32} (h : Mt0 I I1) (f : Fm sM I1 I2) : Mt0 I I2 := h.tr (Mt.of f)
theorem Mt0.all {I I' : Nat → Nat → Int32} (h : Mt0 I I') : (∀ q, 420 ≤ q → I' q = I q) ∧ I' 201 1 = 0 ∧ I' 200 10 = I 200 10 ∧ (CI I → CI I') ∧ I' 202 = I 202 ∧ I' 203 1 = I 203 1 ∧ I' 220 1 = I 220 1 := by
  obtain ⟨J, h1, h2⟩ := h
  refine ⟨fun q hq => ?_, ?_, ?_, fun z => h2.2.2.2.1 fun a ha g2 => ?_, ?_, ?_, ?_⟩
  · rw [h2.1 q hq, up2_row (by omega), h1.1 q hq]
  · rw [h2.2.1, up2_at]
  · rw [h2.2.2.1, up2_row (by decide), h1.2.2.1]
  · have ka := stp_hi a ha
    rw [up2_row (by omega)]
    exact h1.2.2.2.1 z a ha g2
  · rw [h2.2.2.2.2.1, up2_row (by decide), h1.2.2.2.2.1]
  · rw [h2.2.2.2.2.2.1, up2_row (by decide), h1.2.2.2.2.2.1]
  · rw [h2.2.2.2.2.2.2, up2_row (by decide), h1.2.2.2.2.2.2]
theorem inB_nI {a b : Nat} {x : Int32} (hb : a < 2 ^ 31 ∧ b < 2 ^ 31) (h : inB x (nI a) (nI b) = true) : ∃ m, a ≤ m ∧ m ≤ b ∧ x = nI m := by
  have h := of_decide_eq_true h
  obtain ⟨h1, h2⟩ := h
  rw [Int32.le_iff_toInt_le] at h1 h2
  rw [nI_toInt hb.2] at h2
  rw [nI_toInt hb.1] at h1
  refine ⟨x.toInt.toNat, by omega, by omega, ?_⟩
  rw [← Int32.toInt_inj, nI_toInt (by omega)]
  omega
theorem or_bit : ∀ n, n < 12 → ∀ m, m < 2 ^ n → nI m ||| bitF (nI n) = nI (m + 2 ^ n) := by
  intro n hn m hm
  have e : ∀ n, n < 12 → bitF (nI n) = nI (2 ^ n) := by decide +kernel
  have e2 : m + 2 ^ n = m ||| 2 ^ n := by
    have h := Nat.two_pow_add_eq_or_of_lt hm 1
    rw [Nat.mul_one] at h
    rw [Nat.add_comm, h, Nat.or_comm]
  rw [e n hn, e2]
  refine Int32.toBitVec_inj.mp (BitVec.eq_of_getLsbD_eq fun i hi => ?_)
  rw [Int32.toBitVec_or, BitVec.getLsbD_or]
  show ((BitVec.ofNat 32 m).getLsbD i || (BitVec.ofNat 32 (2 ^ n)).getLsbD i) = (BitVec.ofNat 32 (m ||| 2 ^ n)).getLsbD i
  rw [BitVec.getLsbD_ofNat, BitVec.getLsbD_ofNat, BitVec.getLsbD_ofNat, Nat.testBit_or]
  cases decide (i < 32) <;> simp
theorem bs_nI {n : Nat} {P : Nat → Bool} (hn : n ≤ 12) : ∃ m, m < 2 ^ n ∧ bs n P = nI m := by
  induction n with
  | zero => exact ⟨0, by decide, nI_0.symm⟩
  | succ n ih =>
    obtain ⟨m, hm, e⟩ := ih (by omega)
    unfold bs
    split
    · refine ⟨m + 2 ^ n, by rw [Nat.pow_succ]; omega, ?_⟩
      rw [e, or_bit n (by omega) m hm]
    · exact ⟨m, by rw [Nat.pow_succ]; omega, e⟩
theorem bs_nI12 {n : Nat} {P : Nat → Bool} (hn : n ≤ 12) : ∃ m, m < 4096 ∧ bs n P = nI m := by
  obtain ⟨m, h1, h2⟩ := bs_nI (P := P) hn
  exact ⟨m, Nat.lt_of_lt_of_le h1 (Nat.pow_le_pow_right (by decide) hn), h2⟩
theorem odd_nz {m j : Nat} (hm : m ≤ 6) (hj : j < 2 ^ 31) (h : ¬ nI m < nI j) : ¬ (nI j + 1).toInt64 = 0 := by
  have : j ≤ 6 := by
    have := nI_le_of h hj (by omega)
    omega
  rcases j with _ | _ | _ | _ | _ | _ | _ | j
  all_goals first | decide | omega
theorem q_needNumber {S : aS} {I : Nat → Nat → Int32} {L : Nat → Nat → Int64} {w1 w2 t : Nat} {x a b : Int32} : Sp S m_X11_needNumber 13 1 6 [.int x, .int a, .int b] (hp I L w1 w2 t) (fun v h' => v = none ∧ h' = hp I L w1 w2 t ∧ inB x a b = true) (XR (Fm sQ I) L w1 w2 [1]) := by
  refine Sp_of ok_X11_needNumber rfl rfl ?_
  show AW S m_X11_needNumber 13 _ _ 1 6 0 [some (.int x), some (.int a), some (.int b)] [] (hp I L w1 w2 t)
  refine a_l0 rfl rfl rfl ?_
  refine a_l1 rfl rfl rfl ?_
  refine a_ic_lt rfl (fun c2 => ?_) (fun c2 => ?_)
  · exact a_throw rfl rfl rfl rfl tX11_iae rfl rfl rfl rfl rfl ⟨⟨1, by decide, rfl⟩, _, rfl, Fm.rf⟩
  · refine a_l0 rfl rfl rfl ?_
    refine a_l2 rfl rfl rfl ?_
    refine a_ic_le rfl (fun c7 => ?_) (fun c7 => ?_)
    · exact a_vret rfl rfl ⟨rfl, rfl, decide_eq_true ⟨Int32.not_lt.mp c2, c7⟩⟩
    · exact a_throw rfl rfl rfl rfl tX11_iae rfl rfl rfl rfl rfl ⟨⟨1, by decide, rfl⟩, _, rfl, Fm.rf⟩
theorem sQ_257 (i k : Nat) (hi : i < 9) : sQ (257 + i) k = true := by
  have : ∀ i, i < 9 → sQ (257 + i) 0 = true := by decide
  exact this i hi
/-- the readers' tokens -/
def sT (q _k : Nat) : Bool := (Nat.ble 204 q && Nat.ble q 208) || (Nat.ble 221 q && Nat.ble q 225)
theorem sT_sM : ∀ q k, sT q k = true → sM q k = true := fun q k h => by
  simp only [sT, Bool.or_eq_true, Bool.and_eq_true] at h
  have E : ∀ {a b : Nat}, Nat.ble a b = true → a ≤ b := fun z => Nat.le_of_ble_eq_true z
  rcases h with ⟨h, h'⟩ | ⟨h, h'⟩
  · have := E h; have := E h'
    exact sM_mid (by omega) (by omega) fun z => by have := isSt_lt q (by omega) z; omega
  · have := E h; have := E h'
    exact sM_mid (by omega) (by omega) fun z => by have := isSt_lt q (by omega) z; omega
end
