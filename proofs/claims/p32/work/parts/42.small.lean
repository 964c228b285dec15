/-! ===== numbers in ranges, throwing, small things (general) ===== -/
abbrev eIO : String := "java/lang/IndexOutOfBoundsException"
theorem Sp.weaken {S : aS} {C : aM} {d k1 k2 : Nat} {args : List Value} {h : aH} {Q Q' : Option Value → aH → Prop} {X X' : String → aH → Prop} (k : Sp S C d k1 k2 args h Q X) (hQ : ∀ v h', Q v h' → Q' v h') (hX : ∀ E h', X E h' → X' E h') : Sp S C d k1 k2 args h Q' X' := by
  intro l G hl p e ha f1 f2 s m av below hfr hap hP hK
  obtain ⟨n, o, z1, z2, z3, z4⟩ := k l G hl p e ha f1 f2 s m av below hfr hap hP hK
  refine ⟨n, o, z1, z2, z3, ?_⟩
  rcases z4 with ⟨⟨v, h', e1, e2, e3⟩, z5⟩ | ⟨q, e1, E, ce, L, ⟨h', x1, x2⟩, rest⟩
  · exact Or.inl ⟨⟨v, h', e1, hQ v h' e2, e3⟩, z5⟩
  · exact Or.inr ⟨q, e1, E, ce, L, ⟨h', hX E h' x1, x2⟩, rest⟩
section U42
variable {S : aS} {C C' : aM} {d d' : Nat} {Q : Option Value → aH → Prop} {X : String → aH → Prop} {k1 k2 pc np tgt n : Nat} {w : Int32} {ls : List (Option Value)} {st st0 : List Value} {h h' : aH} {As : List Value} {v : Value}
theorem a_eU1 {idx q : Nat} {x : MethodName} {owner cn : String} (hC : look C pc = some (.invokevirtual idx, np, tgt, w)) (hl : ∀ z ∈ [Cond.methodLink C.1.cls idx x, .sameMethod x.cls owner x.name x.desc, .selects cn x C'.1, .instanceMethod C'.1], inT z) (hdc : ∀ (G : aG) (s : State), SW S G s → va_Decl s ⟨owner, x.name, x.desc⟩) (hM : MO C' n) (hx : owner ≠ "java/lang/invoke/MethodHandle" ∧ owner ≠ "java/lang/invoke/VarHandle" ∧ (parseMethodDescriptor x.desc).map (fun d => d.parameters.length) = some n) (hs : SpE S C' d' (.ref q :: As) h (some v) h') (hn : As.length = n) (h0 : st0 = As.reverse ++ .ref q :: st) (ho : cOk d d' 0 0 k1 k2 st = true) (hq : rcv h q cn) (hh : C.2.2.2.2.1 = []) (kk : AW S C d Q X k1 k2 np ls (v :: st) h') : AW S C d Q X k1 k2 pc ls st0 h := by
  refine a_callU hC hl hdc hM hx hs hn h0 ho hq hh (fun v h' hv => ?_) (fun E h' hx => False.elim hx)
  obtain ⟨rfl, rfl⟩ := hv
  exact kk
theorem all4 {α : Type} {P : α → Prop} {a b c e : α} (h1 : P a) (h2 : P b) (h3 : P c) (h4 : P e) : ∀ z ∈ [a, b, c, e], P z := by
  intro z hz
  simp only [List.mem_cons, List.not_mem_nil, or_false] at hz
  rcases hz with rfl | rfl | rfl | rfl <;> assumption
end U42
def cpW (I : Nat → Nat → Int32) (j : Nat) : Nat → Nat → Int32 := upr I 421 (fun k => if 335 ≤ k ∧ k < 335 + j then I 421 (k + 849) else I 421 k)
theorem cpW_0 {I : Nat → Nat → Int32} : cpW I 0 = I := by
  funext x
  unfold cpW upr
  split
  · next h =>
    subst h
    funext k
    rw [if_neg (by omega)]
  · rfl
theorem cpW_src {I : Nat → Nat → Int32} {j : Nat} (hj : j < 849) : cpW I j 421 (1184 + j) = I 421 (1184 + j) := by
  unfold cpW
  rw [upr_at, if_neg (by omega)]
theorem cpW_succ {I : Nat → Nat → Int32} {j : Nat} : up2 (cpW I j) 421 (335 + j) (I 421 (1184 + j)) = cpW I (j + 1) := by
  funext x k
  by_cases hx : x = 421
  · subst hx
    by_cases hk : k = 335 + j
    · subst hk
      rw [up2_at]
      unfold cpW
      rw [upr_at, if_pos (by omega), show 335 + j + 849 = 1184 + j by omega]
    · rw [up2_ne (Or.inr hk)]
      unfold cpW
      rw [upr_at, upr_at]
      by_cases h : 335 ≤ k ∧ k < 335 + j
      · rw [if_pos h, if_pos (by omega)]
      · rw [if_neg h, if_neg (by omega)]
  · rw [up2_row hx]
    unfold cpW
    rw [upr_row hx, upr_row hx]
def inB (x a b : Int32) : Bool := decide (a ≤ x ∧ x ≤ b)
set_option maxRecDepth 100000
theorem sp_X12_in {S : aS} {h : aH} {x a b : Int32} : SpE S m_X12_in 12 [.int x, .int a, .int b] (h) (some (.int (bI (inB x a b)))) (h) := by
  refine SpE_of ok_X12_in rfl rfl ?_
  show AW S m_X12_in 12 _ _ 0 0 0 [some (.int x), some (.int a), some (.int b)] [] (h)
  refine a_l0 rfl rfl rfl ?_
  refine a_l1 rfl rfl rfl ?_
  refine a_ic_lt rfl (fun c2 => ?_) (fun c2 => ?_)
  · refine a_s rfl rfl ?_
    refine a_zret rfl rfl rfl ⟨by simp_all [inB, bI, le_nl, -Int32.not_lt, -Int32.not_le], rfl⟩
  · refine a_l0 rfl rfl rfl ?_
    refine a_l2 rfl rfl rfl ?_
    refine a_ic_gt rfl (fun c7 => ?_) (fun c7 => ?_)
    · refine a_s rfl rfl ?_
      refine a_zret rfl rfl rfl ⟨by simp_all [inB, bI, le_nl, -Int32.not_lt, -Int32.not_le], rfl⟩
    · refine a_s rfl rfl ?_
      refine a_goto rfl ?_
      refine a_zret rfl rfl rfl ⟨by simp_all [inB, bI, le_nl, -Int32.not_lt, -Int32.not_le], rfl⟩
theorem sp_X12_noKerb {S : aS} {h : aH} {x : Int32} : SpE S m_X12_noKerb 13 [.int x] (h) (some (.int (bI (!inB x 0 15)))) (h) := by
  refine SpE_of ok_X12_noKerb rfl rfl ?_
  show AW S m_X12_noKerb 13 _ _ 0 0 0 [some (.int x)] [] (h)
  refine a_l0 rfl rfl rfl ?_
  refine a_s rfl rfl ?_
  refine a_s rfl rfl ?_
  refine a_eS1 rfl lX12_70 mo_X12_in (sp_X12_in) rfl rfl rfl rfl ?_
  refine a_if_ne rfl (fun c7 => ?_) (fun c7 => ?_)
  · refine a_s rfl rfl ?_
    refine a_zret rfl rfl rfl ⟨by simp_all [bI_0, bI], rfl⟩
  · refine a_s rfl rfl ?_
    refine a_goto rfl ?_
    refine a_zret rfl rfl rfl ⟨by simp_all [bI_0, bI], rfl⟩
theorem sp_X12_noHour {S : aS} {h : aH} {x : Int32} : SpE S m_X12_noHour 13 [.int x] (h) (some (.int (bI (!inB x 0 300)))) (h) := by
  refine SpE_of ok_X12_noHour rfl rfl ?_
  show AW S m_X12_noHour 13 _ _ 0 0 0 [some (.int x)] [] (h)
  refine a_l0 rfl rfl rfl ?_
  refine a_s rfl rfl ?_
  refine a_s rfl rfl ?_
  refine a_eS1 rfl lX12_70 mo_X12_in (sp_X12_in) rfl rfl rfl rfl ?_
  refine a_if_ne rfl (fun c8 => ?_) (fun c8 => ?_)
  · refine a_s rfl rfl ?_
    refine a_zret rfl rfl rfl ⟨by simp_all [bI_0, bI], rfl⟩
  · refine a_s rfl rfl ?_
    refine a_goto rfl ?_
    refine a_zret rfl rfl rfl ⟨by simp_all [bI_0, bI], rfl⟩
theorem sp_X12_noDays {S : aS} {h : aH} {x : Int32} : SpE S m_X12_noDays 13 [.int x] (h) (some (.int (bI (!inB x 0 90)))) (h) := by
  refine SpE_of ok_X12_noDays rfl rfl ?_
  show AW S m_X12_noDays 13 _ _ 0 0 0 [some (.int x)] [] (h)
  refine a_l0 rfl rfl rfl ?_
  refine a_s rfl rfl ?_
  refine a_s rfl rfl ?_
  refine a_eS1 rfl lX12_70 mo_X12_in (sp_X12_in) rfl rfl rfl rfl ?_
  refine a_if_ne rfl (fun c7 => ?_) (fun c7 => ?_)
  · refine a_s rfl rfl ?_
    refine a_zret rfl rfl rfl ⟨by simp_all [bI_0, bI], rfl⟩
  · refine a_s rfl rfl ?_
    refine a_goto rfl ?_
    refine a_zret rfl rfl rfl ⟨by simp_all [bI_0, bI], rfl⟩
theorem sp0_throwsIf {S : aS} {I : Nat → Nat → Int32} {L : Nat → Nat → Int64} {w1 w2 t : Nat} {x : Int32} : SpE S m_X12_throwsIf 12 [.ref 420, .int 0, .int x] (hp I L w1 w2 t) (some (.int 0)) (hp I L w1 w2 t) := by
  refine SpE_of ok_X12_throwsIf rfl rfl ?_
  show AW S m_X12_throwsIf 12 _ _ 0 0 0 [some (.ref 420), some (.int 0), some (.int x)] [] (hp I L w1 w2 t)
  refine a_l1 rfl rfl rfl ?_
  refine a_if_eq rfl (fun c1 => ?_) (fun c => absurd (rfl) c)
  refine a_l1 rfl rfl rfl ?_
  refine a_zret rfl rfl rfl ⟨rfl, rfl⟩
theorem sp_needNumber {S : aS} {h : aH} {x a b : Int32} (h1 : inB x a b = true) : SpE S m_X11_needNumber 12 [.int x, .int a, .int b] h none h := by
  have h1 := of_decide_eq_true h1
  refine SpE_of ok_X11_needNumber rfl rfl ?_
  show AW S m_X11_needNumber 12 _ _ 0 0 0 [some (.int x), some (.int a), some (.int b)] [] h
  refine a_l0 rfl rfl rfl ?_
  refine a_l1 rfl rfl rfl ?_
  refine a_ic_lt rfl (fun c => absurd c (Int32.not_lt.mpr h1.1)) (fun c2 => ?_)
  refine a_l0 rfl rfl rfl ?_
  refine a_l2 rfl rfl rfl ?_
  refine a_ic_le rfl (fun c7 => ?_) (fun c => absurd (h1.2) c)
  refine a_vret rfl rfl ⟨rfl, rfl⟩
theorem spx_needNumber {S : aS} {I : Nat → Nat → Int32} {L : Nat → Nat → Int64} {w1 w2 t : Nat} {x a b : Int32} (h1 : inB x a b = false) : SpX S m_X11_needNumber 12 [.int x, .int a, .int b] (hp I L w1 w2 t) "java/lang/IllegalArgumentException" (hp I L w1 w2 0) := by
  have h1 := of_decide_eq_false h1
  refine SpX_of ok_X11_needNumber rfl rfl ?_
  show AW S m_X11_needNumber 12 _ _ 1 6 0 [some (.int x), some (.int a), some (.int b)] [] (hp I L w1 w2 t)
  refine a_l0 rfl rfl rfl ?_
  refine a_l1 rfl rfl rfl ?_
  refine a_ic_lt rfl (fun c2 => ?_) (fun c2 => ?_)
  · exact a_throw rfl rfl rfl rfl tX11_iae rfl rfl rfl rfl rfl ⟨rfl, rfl⟩
  · refine a_l0 rfl rfl rfl ?_
    refine a_l2 rfl rfl rfl ?_
    refine a_ic_le rfl (fun c => absurd c (fun z => h1 ⟨Int32.not_lt.mp c2, z⟩)) (fun c7 => ?_)
    exact a_throw rfl rfl rfl rfl tX11_iae rfl rfl rfl rfl rfl ⟨rfl, rfl⟩
theorem sp_needKerb {S : aS} {h : aH} {x : Int32} (h1 : inB x 0 15 = true) : SpE S m_X11_needKerb 12 [.int x] h none h := by
  have h1 := of_decide_eq_true h1
  refine SpE_of ok_X11_needKerb rfl rfl ?_
  show AW S m_X11_needKerb 12 _ _ 0 0 0 [some (.int x)] [] h
  refine a_l0 rfl rfl rfl ?_
  refine a_if_lt rfl (fun c => absurd c (Int32.not_lt.mpr h1.1)) (fun c1 => ?_)
  refine a_l0 rfl rfl rfl ?_
  refine a_s rfl rfl ?_
  refine a_ic_le rfl (fun c7 => ?_) (fun c => absurd (h1.2) c)
  refine a_vret rfl rfl ⟨rfl, rfl⟩
theorem spx_needKerb {S : aS} {I : Nat → Nat → Int32} {L : Nat → Nat → Int64} {w1 w2 t : Nat} {x : Int32} (h1 : inB x 0 15 = false) : SpX S m_X11_needKerb 12 [.int x] (hp I L w1 w2 t) eIO (hp I L w1 w2 0) := by
  have h1 := of_decide_eq_false h1
  refine SpX_of ok_X11_needKerb rfl rfl ?_
  show AW S m_X11_needKerb 12 _ _ 1 6 0 [some (.int x)] [] (hp I L w1 w2 t)
  refine a_l0 rfl rfl rfl ?_
  refine a_if_lt rfl (fun c1 => ?_) (fun c1 => ?_)
  · exact a_throw rfl rfl rfl rfl tX11_ioobe rfl rfl rfl rfl rfl ⟨rfl, rfl⟩
  · refine a_l0 rfl rfl rfl ?_
    refine a_s rfl rfl ?_
    refine a_ic_le rfl (fun c => absurd c (fun z => h1 ⟨Int32.not_lt.mp c1, z⟩)) (fun c7 => ?_)
    exact a_throw rfl rfl rfl rfl tX11_ioobe rfl rfl rfl rfl rfl ⟨rfl, rfl⟩

theorem sp_X12_duties {S : aS} {I : Nat → Nat → Int32} {L : Nat → Nat → Int64} {w1 w2 t : Nat} : SpE S m_X12_duties 12 [.ref 420] (hp I L w1 w2 t) (some (.int (I 421 1))) (hp I L w1 w2 t) := by
  refine SpE_of ok_X12_duties rfl rfl ?_
  show AW S m_X12_duties 12 _ _ 0 0 0 [some (.ref 420)] [] (hp I L w1 w2 t)
  refine a_l0 rfl rfl rfl ?_
  refine a_getq rfl gfX12_13_12 rfl (rfl) ?_
  refine a_s rfl rfl ?_
  refine a_iald rfl (n := 2033) rfl (⟨by decide, by decide⟩) ?_
  refine a_iret rfl rfl ⟨rfl, rfl⟩
theorem sp_X12_people {S : aS} {I : Nat → Nat → Int32} {L : Nat → Nat → Int64} {w1 w2 t : Nat} : SpE S m_X12_people 12 [.ref 420] (hp I L w1 w2 t) (some (.int (I 421 0))) (hp I L w1 w2 t) := by
  refine SpE_of ok_X12_people rfl rfl ?_
  show AW S m_X12_people 12 _ _ 0 0 0 [some (.ref 420)] [] (hp I L w1 w2 t)
  refine a_l0 rfl rfl rfl ?_
  refine a_getq rfl gfX12_13_12 rfl (rfl) ?_
  refine a_s rfl rfl ?_
  refine a_iald rfl (n := 2033) rfl (⟨by decide, by decide⟩) ?_
  refine a_iret rfl rfl ⟨rfl, rfl⟩
theorem sp1_throwsIf {S : aS} {I : Nat → Nat → Int32} {L : Nat → Nat → Int64} {w1 w2 t : Nat} {x : Int32} : SpE S m_X12_throwsIf 12 [.ref 420, .int 1, .int x] (hp I L w1 w2 t) (some (.int 1)) (hp (up2 I 420 0 x) L w1 w2 t) := by
  refine SpE_of ok_X12_throwsIf rfl rfl ?_
  show AW S m_X12_throwsIf 12 _ _ 0 0 0 [some (.ref 420), some (.int 1), some (.int x)] [] (hp I L w1 w2 t)
  refine a_l1 rfl rfl rfl ?_
  refine a_if_eq rfl (fun c => absurd c (by decide)) (fun c1 => ?_)
  refine a_l0 rfl rfl rfl ?_
  refine a_l2 rfl rfl rfl ?_
  refine a_puti rfl pfX12_3_12 rfl ?_
  refine a_l1 rfl rfl rfl ?_
  refine a_zret rfl rfl rfl ⟨rfl, rfl⟩
