/-! ===== what is known between two operations; the law's wrappers (printed by program) ===== -/
set_option maxRecDepth 100000
/-- of the exceptions, which is none of which -/
def ncs : List (String × String) := [("java/lang/UnsupportedOperationException", "java/lang/IllegalArgumentException"), ("java/lang/IndexOutOfBoundsException", "java/lang/IllegalArgumentException"), ("java/util/NoSuchElementException", "java/lang/IllegalArgumentException"), ("java/lang/IllegalStateException", "java/lang/IllegalArgumentException"), ("java/lang/IllegalArgumentException", "java/lang/UnsupportedOperationException"), ("java/lang/IndexOutOfBoundsException", "java/lang/UnsupportedOperationException"), ("java/util/NoSuchElementException", "java/lang/UnsupportedOperationException"), ("java/lang/IllegalStateException", "java/lang/UnsupportedOperationException"), ("java/lang/IllegalArgumentException", "java/lang/IndexOutOfBoundsException"), ("java/lang/UnsupportedOperationException", "java/lang/IndexOutOfBoundsException"), ("java/util/NoSuchElementException", "java/lang/IndexOutOfBoundsException"), ("java/lang/IllegalStateException", "java/lang/IndexOutOfBoundsException"), ("java/lang/IllegalArgumentException", "java/util/NoSuchElementException"), ("java/lang/UnsupportedOperationException", "java/util/NoSuchElementException"), ("java/lang/IndexOutOfBoundsException", "java/util/NoSuchElementException"), ("java/lang/IllegalStateException", "java/util/NoSuchElementException"), ("java/lang/IllegalArgumentException", "java/lang/IllegalStateException"), ("java/lang/UnsupportedOperationException", "java/lang/IllegalStateException"), ("java/lang/IndexOutOfBoundsException", "java/lang/IllegalStateException"), ("java/util/NoSuchElementException", "java/lang/IllegalStateException")]
def HdS (S : aS) : Prop := WdS S ∧ ∀ r, r ∈ ncs → r ∈ S.2.2.2.2.2
theorem tk_13 {S : aS} {pc a b hpc : Nat} {rs : List (Nat × Nat × Nat × Nat)} {C : aM} (hC : C.1.cls = RL) (h1 : a ≤ pc) (h2 : pc < b) : hTake S C pc "java/lang/IllegalArgumentException" ((a, b, hpc, 13) :: rs) hpc := ⟨⟨h1, h2, by show (13 : Nat) ≠ 0; decide⟩, _, by rw [hC]; exact (inC3 (i := 203) rfl rfl), Or.inl ⟨⟨inD4 (i := 232) rfl, rfl⟩, rfl⟩⟩
theorem tn_13 {S : aS} {pc a b q hpc : Nat} {rs : List (Nat × Nat × Nat × Nat)} {C : aM} {E : String} (hC : C.1.cls = RL) (h1 : a ≤ pc) (h2 : pc < b) (hE : (E, "java/lang/IllegalArgumentException") ∈ S.2.2.2.2.2) (k : hTake S C pc E rs hpc) : hTake S C pc E ((a, b, q, 13) :: rs) hpc := ⟨⟨h1, h2, by show (13 : Nat) ≠ 0; decide⟩, _, by rw [hC]; exact (inC3 (i := 203) rfl rfl), Or.inr ⟨hE, k⟩⟩
theorem tk_15 {S : aS} {pc a b hpc : Nat} {rs : List (Nat × Nat × Nat × Nat)} {C : aM} (hC : C.1.cls = RL) (h1 : a ≤ pc) (h2 : pc < b) : hTake S C pc "java/lang/UnsupportedOperationException" ((a, b, hpc, 15) :: rs) hpc := ⟨⟨h1, h2, by show (15 : Nat) ≠ 0; decide⟩, _, by rw [hC]; exact (inC3 (i := 204) rfl rfl), Or.inl ⟨⟨inD5 (i := 57) rfl, rfl⟩, rfl⟩⟩
theorem tn_15 {S : aS} {pc a b q hpc : Nat} {rs : List (Nat × Nat × Nat × Nat)} {C : aM} {E : String} (hC : C.1.cls = RL) (h1 : a ≤ pc) (h2 : pc < b) (hE : (E, "java/lang/UnsupportedOperationException") ∈ S.2.2.2.2.2) (k : hTake S C pc E rs hpc) : hTake S C pc E ((a, b, q, 15) :: rs) hpc := ⟨⟨h1, h2, by show (15 : Nat) ≠ 0; decide⟩, _, by rw [hC]; exact (inC3 (i := 204) rfl rfl), Or.inr ⟨hE, k⟩⟩
theorem tk_24 {S : aS} {pc a b hpc : Nat} {rs : List (Nat × Nat × Nat × Nat)} {C : aM} (hC : C.1.cls = RL) (h1 : a ≤ pc) (h2 : pc < b) : hTake S C pc "java/lang/IndexOutOfBoundsException" ((a, b, hpc, 24) :: rs) hpc := ⟨⟨h1, h2, by show (24 : Nat) ≠ 0; decide⟩, _, by rw [hC]; exact (inC5 (i := 87) rfl rfl), Or.inl ⟨⟨inD5 (i := 99) rfl, rfl⟩, rfl⟩⟩
theorem tn_24 {S : aS} {pc a b q hpc : Nat} {rs : List (Nat × Nat × Nat × Nat)} {C : aM} {E : String} (hC : C.1.cls = RL) (h1 : a ≤ pc) (h2 : pc < b) (hE : (E, "java/lang/IndexOutOfBoundsException") ∈ S.2.2.2.2.2) (k : hTake S C pc E rs hpc) : hTake S C pc E ((a, b, q, 24) :: rs) hpc := ⟨⟨h1, h2, by show (24 : Nat) ≠ 0; decide⟩, _, by rw [hC]; exact (inC5 (i := 87) rfl rfl), Or.inr ⟨hE, k⟩⟩
theorem tk_26 {S : aS} {pc a b hpc : Nat} {rs : List (Nat × Nat × Nat × Nat)} {C : aM} (hC : C.1.cls = RL) (h1 : a ≤ pc) (h2 : pc < b) : hTake S C pc "java/util/NoSuchElementException" ((a, b, hpc, 26) :: rs) hpc := ⟨⟨h1, h2, by show (26 : Nat) ≠ 0; decide⟩, _, by rw [hC]; exact (inC5 (i := 88) rfl rfl), Or.inl ⟨⟨inD5 (i := 122) rfl, rfl⟩, rfl⟩⟩
theorem tn_26 {S : aS} {pc a b q hpc : Nat} {rs : List (Nat × Nat × Nat × Nat)} {C : aM} {E : String} (hC : C.1.cls = RL) (h1 : a ≤ pc) (h2 : pc < b) (hE : (E, "java/util/NoSuchElementException") ∈ S.2.2.2.2.2) (k : hTake S C pc E rs hpc) : hTake S C pc E ((a, b, q, 26) :: rs) hpc := ⟨⟨h1, h2, by show (26 : Nat) ≠ 0; decide⟩, _, by rw [hC]; exact (inC5 (i := 88) rfl rfl), Or.inr ⟨hE, k⟩⟩
theorem tk_35 {S : aS} {pc a b hpc : Nat} {rs : List (Nat × Nat × Nat × Nat)} {C : aM} (hC : C.1.cls = RL) (h1 : a ≤ pc) (h2 : pc < b) : hTake S C pc "java/lang/IllegalStateException" ((a, b, hpc, 35) :: rs) hpc := ⟨⟨h1, h2, by show (35 : Nat) ≠ 0; decide⟩, _, by rw [hC]; exact (inC5 (i := 153) rfl rfl), Or.inl ⟨⟨inD5 (i := 161) rfl, rfl⟩, rfl⟩⟩
theorem tn_35 {S : aS} {pc a b q hpc : Nat} {rs : List (Nat × Nat × Nat × Nat)} {C : aM} {E : String} (hC : C.1.cls = RL) (h1 : a ≤ pc) (h2 : pc < b) (hE : (E, "java/lang/IllegalStateException") ∈ S.2.2.2.2.2) (k : hTake S C pc E rs hpc) : hTake S C pc E ((a, b, q, 35) :: rs) hpc := ⟨⟨h1, h2, by show (35 : Nat) ≠ 0; decide⟩, _, by rw [hC]; exact (inC5 (i := 153) rfl rfl), Or.inr ⟨hE, k⟩⟩
def HdP (P : (Nat → Nat → Int32) → Prop) : Option Value → aH → Prop := fun v h' => isI v ∧ ∃ I' L' w1' w2' t', h' = hp I' L' w1' w2' t' ∧ P I' ∧ WK w1' ∧ WK w2'
section W80
variable {S : aS} {I : Nat → Nat → Int32} {L : Nat → Nat → Int64} {w1 w2 t : Nat}
theorem L_person (hS : HdS S) (hci : CI I) (hk1 : WK w1) (hk2 : WK w2) {x1 : Int32} {x2 : Int32} : Sp S m_L_person 20 2 12 [.ref 200, .int x1, .int x2, .ref 431] (hp I L w1 w2 t) (HdP (Fm sQ I)) nX := by
  refine Sp_of ok_L_person rfl rfl ?_
  show AW S m_L_person 20 _ _ 2 12 0 [some (.ref 200), some (.int x1), some (.int x2), some (.ref 431), none] [] (hp I L w1 w2 t)
  refine a_l3 rfl rfl rfl ?_
  refine a_s rfl rfl ?_
  refine a_l0 rfl rfl rfl ?_
  refine a_l1 rfl rfl rfl ?_
  refine a_l2 rfl rfl rfl ?_
  refine a_callVc rfl lL_20 mo_X11_person (q_X11_person_200) rfl rfl rfl ⟨11, _, rfl, rfl, rfl⟩ (fun v' h' hv => ?_) (fun E h' hx => ?_)
  · obtain ⟨⟨v, rfl⟩, I1, rfl, f⟩ := hv
    refine a_s rfl rfl ?_
    refine a_last rfl (n := 1) rfl ⟨by decide, by decide⟩ ?_
    refine a_goto rfl ?_
    refine a_s rfl rfl ?_
    exact a_iret rfl rfl ⟨⟨_, rfl⟩, _, _, _, _, _, rfl, f, hk1, hk2⟩
  · obtain ⟨⟨k, hk, rfl⟩, I1, rfl, f⟩ := hx
    simp only [List.mem_cons, List.not_mem_nil, or_false] at hk
    rcases hk with rfl | rfl
    · refine ⟨13, _, _, _, _, 4, tk_24 rfl (by decide) (by decide), rfl, rfl, by decide, ?_⟩
      refine a_s rfl rfl ?_
      exact a_iret rfl rfl ⟨⟨_, rfl⟩, _, _, _, _, _, rfl, f, hk1, hk2⟩
    · refine ⟨17, _, _, _, _, 4, tn_24 rfl (by decide) (by decide) (hS.2 ("java/util/NoSuchElementException", "java/lang/IndexOutOfBoundsException") (by decide +kernel)) (tk_26 rfl (by decide) (by decide)), rfl, rfl, by decide, ?_⟩
      refine a_s rfl rfl ?_
      exact a_iret rfl rfl ⟨⟨_, rfl⟩, _, _, _, _, _, rfl, f, hk1, hk2⟩
theorem L_duty (hS : HdS S) (hci : CI I) (hk1 : WK w1) (hk2 : WK w2) {x1 : Int32} {x2 : Int32} : Sp S m_L_duty 17 2 12 [.ref 200, .int x1, .int x2, .ref 431] (hp I L w1 w2 t) (HdP (Fm sQ I)) nX := by
  refine Sp_of ok_L_duty rfl rfl ?_
  show AW S m_L_duty 17 _ _ 2 12 0 [some (.ref 200), some (.int x1), some (.int x2), some (.ref 431), none] [] (hp I L w1 w2 t)
  refine a_l3 rfl rfl rfl ?_
  refine a_s rfl rfl ?_
  refine a_l0 rfl rfl rfl ?_
  refine a_l1 rfl rfl rfl ?_
  refine a_l2 rfl rfl rfl ?_
  refine a_callVc rfl lL_28 mo_X11_duty (q_X11_duty_200) rfl rfl rfl ⟨11, _, rfl, rfl, rfl⟩ (fun v' h' hv => ?_) (fun E h' hx => ?_)
  · obtain ⟨⟨v, rfl⟩, I1, rfl, f⟩ := hv
    refine a_s rfl rfl ?_
    refine a_last rfl (n := 1) rfl ⟨by decide, by decide⟩ ?_
    refine a_goto rfl ?_
    refine a_s rfl rfl ?_
    exact a_iret rfl rfl ⟨⟨_, rfl⟩, _, _, _, _, _, rfl, f, hk1, hk2⟩
  · obtain ⟨⟨k, hk, rfl⟩, I1, rfl, f⟩ := hx
    simp only [List.mem_cons, List.not_mem_nil, or_false] at hk
    rcases hk with rfl | rfl
    · refine ⟨13, _, _, _, _, 4, tk_24 rfl (by decide) (by decide), rfl, rfl, by decide, ?_⟩
      refine a_s rfl rfl ?_
      exact a_iret rfl rfl ⟨⟨_, rfl⟩, _, _, _, _, _, rfl, f, hk1, hk2⟩
    · refine ⟨17, _, _, _, _, 4, tn_24 rfl (by decide) (by decide) (hS.2 ("java/util/NoSuchElementException", "java/lang/IndexOutOfBoundsException") (by decide +kernel)) (tk_26 rfl (by decide) (by decide)), rfl, rfl, by decide, ?_⟩
      refine a_s rfl rfl ?_
      exact a_iret rfl rfl ⟨⟨_, rfl⟩, _, _, _, _, _, rfl, f, hk1, hk2⟩
theorem L_greets (hS : HdS S) (hci : CI I) (hk1 : WK w1) (hk2 : WK w2) {x1 : Int32} {x2 : Int32} : Sp S m_L_greets 16 2 12 [.ref 200, .int x1, .int x2, .ref 431] (hp I L w1 w2 t) (HdP (Fm sQ I)) nX := by
  refine Sp_of ok_L_greets rfl rfl ?_
  show AW S m_L_greets 16 _ _ 2 12 0 [some (.ref 200), some (.int x1), some (.int x2), some (.ref 431), none] [] (hp I L w1 w2 t)
  refine a_l3 rfl rfl rfl ?_
  refine a_s rfl rfl ?_
  refine a_l0 rfl rfl rfl ?_
  refine a_l1 rfl rfl rfl ?_
  refine a_l2 rfl rfl rfl ?_
  refine a_callVc rfl lL_58 mo_X11_greets (q_X11_greets_200) rfl rfl rfl ⟨11, _, rfl, rfl, rfl⟩ (fun v' h' hv => ?_) (fun E h' hx => ?_)
  · obtain ⟨⟨v, rfl⟩, rfl⟩ := hv
    refine a_s rfl rfl ?_
    refine a_last rfl (n := 1) rfl ⟨by decide, by decide⟩ ?_
    refine a_goto rfl ?_
    refine a_s rfl rfl ?_
    exact a_iret rfl rfl ⟨⟨_, rfl⟩, _, _, _, _, _, rfl, Fm.rf, hk1, hk2⟩
  · obtain ⟨⟨k, hk, rfl⟩, I1, rfl, f⟩ := hx
    simp only [List.mem_cons, List.not_mem_nil, or_false] at hk
    rcases hk with rfl
    · refine ⟨13, _, _, _, _, 4, tk_24 rfl (by decide) (by decide), rfl, rfl, by decide, ?_⟩
      refine a_s rfl rfl ?_
      exact a_iret rfl rfl ⟨⟨_, rfl⟩, _, _, _, _, _, rfl, f, hk1, hk2⟩
theorem L_where (hS : HdS S) (hci : CI I) (hk1 : WK w1) (hk2 : WK w2) {x1 : Int32} {x2 : Int32} : Sp S m_L_where 17 2 12 [.ref 200, .int x1, .int x2, .ref 431] (hp I L w1 w2 t) (HdP (Fm sQ I)) nX := by
  refine Sp_of ok_L_where rfl rfl ?_
  show AW S m_L_where 17 _ _ 2 12 0 [some (.ref 200), some (.int x1), some (.int x2), some (.ref 431), none] [] (hp I L w1 w2 t)
  refine a_l3 rfl rfl rfl ?_
  refine a_s rfl rfl ?_
  refine a_l0 rfl rfl rfl ?_
  refine a_l1 rfl rfl rfl ?_
  refine a_l2 rfl rfl rfl ?_
  refine a_callVc rfl lL_61 mo_X11_where (q_X11_where_200) rfl rfl rfl ⟨11, _, rfl, rfl, rfl⟩ (fun v' h' hv => ?_) (fun E h' hx => ?_)
  · obtain ⟨⟨v, rfl⟩, rfl⟩ := hv
    refine a_s rfl rfl ?_
    refine a_last rfl (n := 1) rfl ⟨by decide, by decide⟩ ?_
    refine a_goto rfl ?_
    refine a_s rfl rfl ?_
    exact a_iret rfl rfl ⟨⟨_, rfl⟩, _, _, _, _, _, rfl, Fm.rf, hk1, hk2⟩
  · obtain ⟨⟨k, hk, rfl⟩, I1, rfl, f⟩ := hx
    simp only [List.mem_cons, List.not_mem_nil, or_false] at hk
    rcases hk with rfl | rfl
    · refine ⟨13, _, _, _, _, 4, tk_24 rfl (by decide) (by decide), rfl, rfl, by decide, ?_⟩
      refine a_s rfl rfl ?_
      exact a_iret rfl rfl ⟨⟨_, rfl⟩, _, _, _, _, _, rfl, f, hk1, hk2⟩
    · refine ⟨17, _, _, _, _, 4, tn_24 rfl (by decide) (by decide) (hS.2 ("java/lang/IllegalArgumentException", "java/lang/IndexOutOfBoundsException") (by decide +kernel)) (tk_13 rfl (by decide) (by decide)), rfl, rfl, by decide, ?_⟩
      refine a_s rfl rfl ?_
      exact a_iret rfl rfl ⟨⟨_, rfl⟩, _, _, _, _, _, rfl, f, hk1, hk2⟩
theorem L_crowd (hS : HdS S) (hci : CI I) (hk1 : WK w1) (hk2 : WK w2) {x1 : Int32} {x2 : Int32} {x3 : Int32} : Sp S m_L_crowd 17 4 24 [.ref 200, .int x1, .int x2, .int x3, .ref 431] (hp I L w1 w2 t) (HdP (Fm sQ I)) nX := by
  refine Sp_of ok_L_crowd rfl rfl ?_
  show AW S m_L_crowd 17 _ _ 4 24 0 [some (.ref 200), some (.int x1), some (.int x2), some (.int x3), some (.ref 431), none] [] (hp I L w1 w2 t)
  refine a_l4 rfl rfl rfl ?_
  refine a_s rfl rfl ?_
  refine a_l0 rfl rfl rfl ?_
  refine a_l1 rfl rfl rfl ?_
  refine a_l2 rfl rfl rfl ?_
  refine a_l3 rfl rfl rfl ?_
  refine a_callVc rfl lL_64 mo_X11_crowd (q_X11_crowd_200) rfl rfl rfl ⟨11, _, rfl, rfl, rfl⟩ (fun v' h' hv => ?_) (fun E h' hx => ?_)
  · obtain ⟨⟨v, rfl⟩, rfl⟩ := hv
    refine a_s rfl rfl ?_
    refine a_last rfl (n := 1) rfl ⟨by decide, by decide⟩ ?_
    refine a_goto rfl ?_
    refine a_s rfl rfl ?_
    exact a_iret rfl rfl ⟨⟨_, rfl⟩, _, _, _, _, _, rfl, Fm.rf, hk1, hk2⟩
  · obtain ⟨⟨k, hk, rfl⟩, I1, rfl, f⟩ := hx
    simp only [List.mem_cons, List.not_mem_nil, or_false] at hk
    rcases hk with rfl | rfl
    · refine ⟨15, _, _, _, _, 5, tk_24 rfl (by decide) (by decide), rfl, rfl, by decide, ?_⟩
      refine a_s rfl rfl ?_
      exact a_iret rfl rfl ⟨⟨_, rfl⟩, _, _, _, _, _, rfl, f, hk1, hk2⟩
    · refine ⟨19, _, _, _, _, 5, tn_24 rfl (by decide) (by decide) (hS.2 ("java/lang/IllegalArgumentException", "java/lang/IndexOutOfBoundsException") (by decide +kernel)) (tk_13 rfl (by decide) (by decide)), rfl, rfl, by decide, ?_⟩
      refine a_s rfl rfl ?_
      exact a_iret rfl rfl ⟨⟨_, rfl⟩, _, _, _, _, _, rfl, f, hk1, hk2⟩
theorem L_does (hS : HdS S) (hci : CI I) (hk1 : WK w1) (hk2 : WK w2) {x1 : Int32} {b2 : Bool} : Sp S m_L_does 18 1 6 [.ref 200, .int x1, .int (bI b2), .ref 431] (hp I L w1 w2 t) (HdP (Fm sQ I)) nX := by
  obtain ⟨nd, hn, hd⟩ := hci 235 (by decide) (by decide)
  refine Sp_of ok_L_does rfl rfl ?_
  show AW S m_L_does 18 _ _ 1 6 0 [some (.ref 200), some (.int x1), some (.int (bI b2)), some (.ref 431), none] [] (hp I L w1 w2 t)
  refine a_l3 rfl rfl rfl ?_
  refine a_s rfl rfl ?_
  refine a_l0 rfl rfl rfl ?_
  refine a_l1 rfl rfl rfl ?_
  refine a_l2 rfl rfl rfl ?_
  refine a_callVc rfl lL_68 mo_X11_does (q_X11_does_200 hd hn) rfl rfl rfl ⟨11, _, rfl, rfl, rfl⟩ (fun v' h' hv => ?_) (fun E h' hx => ?_)
  · obtain ⟨⟨v, rfl⟩, I1, rfl, f⟩ := hv
    refine a_s rfl rfl ?_
    refine a_last rfl (n := 1) rfl ⟨by decide, by decide⟩ ?_
    refine a_goto rfl ?_
    refine a_s rfl rfl ?_
    exact a_iret rfl rfl ⟨⟨_, rfl⟩, _, _, _, _, _, rfl, f, hk1, hk2⟩
  · obtain ⟨⟨k, hk, rfl⟩, I1, rfl, f⟩ := hx
    simp only [List.mem_cons, List.not_mem_nil, or_false] at hk
    rcases hk with rfl
    · refine ⟨13, _, _, _, _, 4, tk_13 rfl (by decide) (by decide), rfl, rfl, by decide, ?_⟩
      refine a_s rfl rfl ?_
      exact a_iret rfl rfl ⟨⟨_, rfl⟩, _, _, _, _, _, rfl, f, hk1, hk2⟩
theorem L_soon (hS : HdS S) (hci : CI I) (hk1 : WK w1) (hk2 : WK w2) {x1 : Int32} : Sp S m_L_soon 18 1 6 [.ref 200, .int x1, .ref 431] (hp I L w1 w2 t) (HdP (Fm sQ I)) nX := by
  refine Sp_of ok_L_soon rfl rfl ?_
  show AW S m_L_soon 18 _ _ 1 6 0 [some (.ref 200), some (.int x1), some (.ref 431), none] [] (hp I L w1 w2 t)
  refine a_l2 rfl rfl rfl ?_
  refine a_s rfl rfl ?_
  refine a_l0 rfl rfl rfl ?_
  refine a_l1 rfl rfl rfl ?_
  refine a_callVc rfl lL_72 mo_X11_soon (q_X11_soon_200) rfl rfl rfl ⟨11, _, rfl, rfl, rfl⟩ (fun v' h' hv => ?_) (fun E h' hx => ?_)
  · obtain ⟨⟨v, rfl⟩, rfl⟩ := hv
    refine a_s rfl rfl ?_
    refine a_last rfl (n := 1) rfl ⟨by decide, by decide⟩ ?_
    refine a_goto rfl ?_
    refine a_s rfl rfl ?_
    exact a_iret rfl rfl ⟨⟨_, rfl⟩, _, _, _, _, _, rfl, Fm.rf, hk1, hk2⟩
  · obtain ⟨⟨k, hk, rfl⟩, I1, rfl, f⟩ := hx
    simp only [List.mem_cons, List.not_mem_nil, or_false] at hk
    rcases hk with rfl
    · refine ⟨12, _, _, _, _, 3, tk_24 rfl (by decide) (by decide), rfl, rfl, by decide, ?_⟩
      refine a_s rfl rfl ?_
      exact a_iret rfl rfl ⟨⟨_, rfl⟩, _, _, _, _, _, rfl, f, hk1, hk2⟩
theorem L_before (hS : HdS S) (hci : CI I) (hk1 : WK w1) (hk2 : WK w2) {x1 : Int32} : Sp S m_L_before 15 1 6 [.ref 200, .int x1, .ref 431] (hp I L w1 w2 t) (HdP (Fm sQ I)) nX := by
  refine Sp_of ok_L_before rfl rfl ?_
  show AW S m_L_before 15 _ _ 1 6 0 [some (.ref 200), some (.int x1), some (.ref 431), none] [] (hp I L w1 w2 t)
  refine a_l2 rfl rfl rfl ?_
  refine a_s rfl rfl ?_
  refine a_l0 rfl rfl rfl ?_
  refine a_l1 rfl rfl rfl ?_
  refine a_callVc rfl lL_75 mo_X11_before (q_X11_before_200) rfl rfl rfl ⟨11, _, rfl, rfl, rfl⟩ (fun v' h' hv => ?_) (fun E h' hx => ?_)
  · obtain ⟨⟨v, rfl⟩, rfl⟩ := hv
    refine a_s rfl rfl ?_
    refine a_last rfl (n := 1) rfl ⟨by decide, by decide⟩ ?_
    refine a_goto rfl ?_
    refine a_s rfl rfl ?_
    exact a_iret rfl rfl ⟨⟨_, rfl⟩, _, _, _, _, _, rfl, Fm.rf, hk1, hk2⟩
  · obtain ⟨⟨k, hk, rfl⟩, I1, rfl, f⟩ := hx
    simp only [List.mem_cons, List.not_mem_nil, or_false] at hk
    rcases hk with rfl
    · refine ⟨12, _, _, _, _, 3, tk_24 rfl (by decide) (by decide), rfl, rfl, by decide, ?_⟩
      refine a_s rfl rfl ?_
      exact a_iret rfl rfl ⟨⟨_, rfl⟩, _, _, _, _, _, rfl, f, hk1, hk2⟩
theorem L_after (hS : HdS S) (hci : CI I) (hk1 : WK w1) (hk2 : WK w2) {x1 : Int32} : Sp S m_L_after 16 1 6 [.ref 200, .int x1, .ref 431] (hp I L w1 w2 t) (HdP (Fm sQ I)) nX := by
  refine Sp_of ok_L_after rfl rfl ?_
  show AW S m_L_after 16 _ _ 1 6 0 [some (.ref 200), some (.int x1), some (.ref 431), none] [] (hp I L w1 w2 t)
  refine a_l2 rfl rfl rfl ?_
  refine a_s rfl rfl ?_
  refine a_l0 rfl rfl rfl ?_
  refine a_l1 rfl rfl rfl ?_
  refine a_callVc rfl lL_78 mo_X11_after (q_X11_after_200) rfl rfl rfl ⟨11, _, rfl, rfl, rfl⟩ (fun v' h' hv => ?_) (fun E h' hx => ?_)
  · obtain ⟨⟨v, rfl⟩, rfl⟩ := hv
    refine a_s rfl rfl ?_
    refine a_last rfl (n := 1) rfl ⟨by decide, by decide⟩ ?_
    refine a_goto rfl ?_
    refine a_s rfl rfl ?_
    exact a_iret rfl rfl ⟨⟨_, rfl⟩, _, _, _, _, _, rfl, Fm.rf, hk1, hk2⟩
  · obtain ⟨⟨k, hk, rfl⟩, I1, rfl, f⟩ := hx
    simp only [List.mem_cons, List.not_mem_nil, or_false] at hk
    rcases hk with rfl
    · refine ⟨12, _, _, _, _, 3, tk_24 rfl (by decide) (by decide), rfl, rfl, by decide, ?_⟩
      refine a_s rfl rfl ?_
      exact a_iret rfl rfl ⟨⟨_, rfl⟩, _, _, _, _, _, rfl, f, hk1, hk2⟩
theorem L_depth (hS : HdS S) (hci : CI I) (hk1 : WK w1) (hk2 : WK w2) {x1 : Int32} : Sp S m_L_depth 15 1 6 [.ref 200, .int x1, .ref 431] (hp I L w1 w2 t) (HdP (Fm sQ I)) nX := by
  refine Sp_of ok_L_depth rfl rfl ?_
  show AW S m_L_depth 15 _ _ 1 6 0 [some (.ref 200), some (.int x1), some (.ref 431), none] [] (hp I L w1 w2 t)
  refine a_l2 rfl rfl rfl ?_
  refine a_s rfl rfl ?_
  refine a_l0 rfl rfl rfl ?_
  refine a_l1 rfl rfl rfl ?_
  refine a_callVc rfl lL_81 mo_X11_depth (q_X11_depth_200) rfl rfl rfl ⟨11, _, rfl, rfl, rfl⟩ (fun v' h' hv => ?_) (fun E h' hx => ?_)
  · obtain ⟨⟨v, rfl⟩, rfl⟩ := hv
    refine a_s rfl rfl ?_
    refine a_last rfl (n := 1) rfl ⟨by decide, by decide⟩ ?_
    refine a_goto rfl ?_
    refine a_s rfl rfl ?_
    exact a_iret rfl rfl ⟨⟨_, rfl⟩, _, _, _, _, _, rfl, Fm.rf, hk1, hk2⟩
  · obtain ⟨⟨k, hk, rfl⟩, I1, rfl, f⟩ := hx
    simp only [List.mem_cons, List.not_mem_nil, or_false] at hk
    rcases hk with rfl
    · refine ⟨12, _, _, _, _, 3, tk_24 rfl (by decide) (by decide), rfl, rfl, by decide, ?_⟩
      refine a_s rfl rfl ?_
      exact a_iret rfl rfl ⟨⟨_, rfl⟩, _, _, _, _, _, rfl, f, hk1, hk2⟩
theorem L_young (hS : HdS S) (hci : CI I) (hk1 : WK w1) (hk2 : WK w2) {x1 : Int32} : Sp S m_L_young 18 1 6 [.ref 200, .int x1, .ref 431] (hp I L w1 w2 t) (HdP (Fm sQ I)) nX := by
  refine Sp_of ok_L_young rfl rfl ?_
  show AW S m_L_young 18 _ _ 1 6 0 [some (.ref 200), some (.int x1), some (.ref 431), none] [] (hp I L w1 w2 t)
  refine a_l2 rfl rfl rfl ?_
  refine a_s rfl rfl ?_
  refine a_l0 rfl rfl rfl ?_
  refine a_l1 rfl rfl rfl ?_
  refine a_callVc rfl lL_84 mo_X11_young (q_X11_young_200) rfl rfl rfl ⟨11, _, rfl, rfl, rfl⟩ (fun v' h' hv => ?_) (fun E h' hx => ?_)
  · obtain ⟨⟨v, rfl⟩, rfl⟩ := hv
    refine a_s rfl rfl ?_
    refine a_last rfl (n := 1) rfl ⟨by decide, by decide⟩ ?_
    refine a_goto rfl ?_
    refine a_s rfl rfl ?_
    exact a_iret rfl rfl ⟨⟨_, rfl⟩, _, _, _, _, _, rfl, Fm.rf, hk1, hk2⟩
  · obtain ⟨⟨k, hk, rfl⟩, I1, rfl, f⟩ := hx
    simp only [List.mem_cons, List.not_mem_nil, or_false] at hk
    rcases hk with rfl
    · refine ⟨12, _, _, _, _, 3, tk_13 rfl (by decide) (by decide), rfl, rfl, by decide, ?_⟩
      refine a_s rfl rfl ?_
      exact a_iret rfl rfl ⟨⟨_, rfl⟩, _, _, _, _, _, rfl, f, hk1, hk2⟩
theorem L_older (hS : HdS S) (hci : CI I) (hk1 : WK w1) (hk2 : WK w2) {x1 : Int32} : Sp S m_L_older 16 1 6 [.ref 200, .int x1, .ref 431] (hp I L w1 w2 t) (HdP (Fm sQ I)) nX := by
  refine Sp_of ok_L_older rfl rfl ?_
  show AW S m_L_older 16 _ _ 1 6 0 [some (.ref 200), some (.int x1), some (.ref 431), none] [] (hp I L w1 w2 t)
  refine a_l2 rfl rfl rfl ?_
  refine a_s rfl rfl ?_
  refine a_l0 rfl rfl rfl ?_
  refine a_l1 rfl rfl rfl ?_
  refine a_callVc rfl lL_87 mo_X11_older (q_X11_older_200) rfl rfl rfl ⟨11, _, rfl, rfl, rfl⟩ (fun v' h' hv => ?_) (fun E h' hx => ?_)
  · obtain ⟨⟨v, rfl⟩, rfl⟩ := hv
    refine a_s rfl rfl ?_
    refine a_last rfl (n := 1) rfl ⟨by decide, by decide⟩ ?_
    refine a_goto rfl ?_
    refine a_s rfl rfl ?_
    exact a_iret rfl rfl ⟨⟨_, rfl⟩, _, _, _, _, _, rfl, Fm.rf, hk1, hk2⟩
  · obtain ⟨⟨k, hk, rfl⟩, I1, rfl, f⟩ := hx
    simp only [List.mem_cons, List.not_mem_nil, or_false] at hk
    rcases hk with rfl
    · refine ⟨12, _, _, _, _, 3, tk_13 rfl (by decide) (by decide), rfl, rfl, by decide, ?_⟩
      refine a_s rfl rfl ?_
      exact a_iret rfl rfl ⟨⟨_, rfl⟩, _, _, _, _, _, rfl, f, hk1, hk2⟩
theorem L_whose (hS : HdS S) (hci : CI I) (hk1 : WK w1) (hk2 : WK w2) : Sp S m_L_whose 17 1 6 [.ref 200, .ref 431] (hp I L w1 w2 t) (HdP (fun J => J = up2 I 201 1 0)) nX := by
  refine Sp_of ok_L_whose rfl rfl ?_
  show AW S m_L_whose 17 _ _ 1 6 0 [some (.ref 200), some (.ref 431), none] [] (hp I L w1 w2 t)
  refine a_l1 rfl rfl rfl ?_
  refine a_s rfl rfl ?_
  refine a_l0 rfl rfl rfl ?_
  refine a_callVc rfl lL_90 mo_X11_whose (q_X11_whose_200) rfl rfl rfl ⟨11, _, rfl, rfl, rfl⟩ (fun v' h' hv => ?_) (fun E h' hx => ?_)
  · obtain ⟨⟨v, rfl⟩, rfl⟩ := hv
    refine a_s rfl rfl ?_
    refine a_last rfl (n := 1) rfl ⟨by decide, by decide⟩ ?_
    refine a_goto rfl ?_
    refine a_s rfl rfl ?_
    exact a_iret rfl rfl ⟨⟨_, rfl⟩, _, _, _, _, _, rfl, rfl, hk1, hk2⟩
  · obtain ⟨⟨k, hk, rfl⟩, rfl⟩ := hx
    simp only [List.mem_cons, List.not_mem_nil, or_false] at hk
    rcases hk with rfl
    · refine ⟨11, _, _, _, _, 2, tk_13 rfl (by decide) (by decide), rfl, rfl, by decide, ?_⟩
      refine a_s rfl rfl ?_
      exact a_iret rfl rfl ⟨⟨_, rfl⟩, _, _, _, _, _, rfl, rfl, hk1, hk2⟩
theorem L_ask (hS : HdS S) (hci : CI I) (hk1 : WK w1) (hk2 : WK w2) : Sp S m_L_ask 17 1 6 [.ref 200, .ref 431] (hp I L w1 w2 t) (HdP (fun J => J = up2 I 201 1 0)) nX := by
  refine Sp_of ok_L_ask rfl rfl ?_
  show AW S m_L_ask 17 _ _ 1 6 0 [some (.ref 200), some (.ref 431), none] [] (hp I L w1 w2 t)
  refine a_l1 rfl rfl rfl ?_
  refine a_s rfl rfl ?_
  refine a_l0 rfl rfl rfl ?_
  refine a_callVc rfl lL_93 mo_X11_ask (q_X11_ask_200) rfl rfl rfl ⟨11, _, rfl, rfl, rfl⟩ (fun v' h' hv => ?_) (fun E h' hx => ?_)
  · obtain ⟨⟨v, rfl⟩, rfl⟩ := hv
    refine a_s rfl rfl ?_
    refine a_last rfl (n := 1) rfl ⟨by decide, by decide⟩ ?_
    refine a_goto rfl ?_
    refine a_s rfl rfl ?_
    exact a_iret rfl rfl ⟨⟨_, rfl⟩, _, _, _, _, _, rfl, rfl, hk1, hk2⟩
  · obtain ⟨⟨k, hk, rfl⟩, rfl⟩ := hx
    simp only [List.mem_cons, List.not_mem_nil, or_false] at hk
    rcases hk with rfl
    · refine ⟨11, _, _, _, _, 2, tk_13 rfl (by decide) (by decide), rfl, rfl, by decide, ?_⟩
      refine a_s rfl rfl ?_
      exact a_iret rfl rfl ⟨⟨_, rfl⟩, _, _, _, _, _, rfl, rfl, hk1, hk2⟩
theorem L_swap (hS : HdS S) (hci : CI I) (hk1 : WK w1) (hk2 : WK w2) {x1 : Int32} {x2 : Int32} : Sp S m_L_swap 18 3 18 [.ref 200, .int x1, .int x2, .ref 431] (hp I L w1 w2 t) (HdP (Fm sQ I)) nX := by
  refine Sp_of ok_L_swap rfl rfl ?_
  show AW S m_L_swap 18 _ _ 3 18 0 [some (.ref 200), some (.int x1), some (.int x2), some (.ref 431), none] [] (hp I L w1 w2 t)
  refine a_l3 rfl rfl rfl ?_
  refine a_s rfl rfl ?_
  refine a_l0 rfl rfl rfl ?_
  refine a_l1 rfl rfl rfl ?_
  refine a_l2 rfl rfl rfl ?_
  refine a_callVc rfl lL_96 mo_X11_swap (q_X11_swap_200) rfl rfl rfl ⟨11, _, rfl, rfl, rfl⟩ (fun v' h' hv => ?_) (fun E h' hx => ?_)
  · obtain ⟨⟨v, rfl⟩, rfl⟩ := hv
    refine a_s rfl rfl ?_
    refine a_last rfl (n := 1) rfl ⟨by decide, by decide⟩ ?_
    refine a_goto rfl ?_
    refine a_s rfl rfl ?_
    exact a_iret rfl rfl ⟨⟨_, rfl⟩, _, _, _, _, _, rfl, Fm.rf, hk1, hk2⟩
  · obtain ⟨⟨k, hk, rfl⟩, I1, rfl, f⟩ := hx
    simp only [List.mem_cons, List.not_mem_nil, or_false] at hk
    rcases hk with rfl | rfl
    · refine ⟨13, _, _, _, _, 4, tk_24 rfl (by decide) (by decide), rfl, rfl, by decide, ?_⟩
      refine a_s rfl rfl ?_
      exact a_iret rfl rfl ⟨⟨_, rfl⟩, _, _, _, _, _, rfl, f, hk1, hk2⟩
    · refine ⟨17, _, _, _, _, 4, tn_24 rfl (by decide) (by decide) (hS.2 ("java/lang/IllegalArgumentException", "java/lang/IndexOutOfBoundsException") (by decide +kernel)) (tk_13 rfl (by decide) (by decide)), rfl, rfl, by decide, ?_⟩
      refine a_s rfl rfl ?_
      exact a_iret rfl rfl ⟨⟨_, rfl⟩, _, _, _, _, _, rfl, f, hk1, hk2⟩
theorem L_rests (hS : HdS S) (hci : CI I) (hk1 : WK w1) (hk2 : WK w2) {x1 : Int32} {x2 : Int32} {x3 : Int32} : Sp S m_L_rests 17 4 24 [.ref 200, .int x1, .int x2, .int x3, .ref 431] (hp I L w1 w2 t) (HdP (Fm sQ I)) nX := by
  refine Sp_of ok_L_rests rfl rfl ?_
  show AW S m_L_rests 17 _ _ 4 24 0 [some (.ref 200), some (.int x1), some (.int x2), some (.int x3), some (.ref 431), none] [] (hp I L w1 w2 t)
  refine a_l4 rfl rfl rfl ?_
  refine a_s rfl rfl ?_
  refine a_l0 rfl rfl rfl ?_
  refine a_l1 rfl rfl rfl ?_
  refine a_l2 rfl rfl rfl ?_
  refine a_l3 rfl rfl rfl ?_
  refine a_callVc rfl lL_99 mo_X11_rests (q_X11_rests_200) rfl rfl rfl ⟨11, _, rfl, rfl, rfl⟩ (fun v' h' hv => ?_) (fun E h' hx => ?_)
  · obtain ⟨⟨v, rfl⟩, I1, rfl, f⟩ := hv
    refine a_s rfl rfl ?_
    refine a_last rfl (n := 1) rfl ⟨by decide, by decide⟩ ?_
    refine a_goto rfl ?_
    refine a_s rfl rfl ?_
    exact a_iret rfl rfl ⟨⟨_, rfl⟩, _, _, _, _, _, rfl, f, hk1, hk2⟩
  · obtain ⟨⟨k, hk, rfl⟩, I1, rfl, f⟩ := hx
    simp only [List.mem_cons, List.not_mem_nil, or_false] at hk
    rcases hk with rfl | rfl
    · refine ⟨15, _, _, _, _, 5, tk_24 rfl (by decide) (by decide), rfl, rfl, by decide, ?_⟩
      refine a_s rfl rfl ?_
      exact a_iret rfl rfl ⟨⟨_, rfl⟩, _, _, _, _, _, rfl, f, hk1, hk2⟩
    · refine ⟨19, _, _, _, _, 5, tn_24 rfl (by decide) (by decide) (hS.2 ("java/lang/IllegalArgumentException", "java/lang/IndexOutOfBoundsException") (by decide +kernel)) (tk_13 rfl (by decide) (by decide)), rfl, rfl, by decide, ?_⟩
      refine a_s rfl rfl ?_
      exact a_iret rfl rfl ⟨⟨_, rfl⟩, _, _, _, _, _, rfl, f, hk1, hk2⟩
theorem L_odds (hS : HdS S) (hci : CI I) (hk1 : WK w1) (hk2 : WK w2) {x1 : Int32} {x2 : Int32} : Sp S m_L_odds 15 2 12 [.ref 200, .int x1, .int x2, .ref 431] (hp I L w1 w2 t) (HdP (Fm sQ I)) nX := by
  refine Sp_of ok_L_odds rfl rfl ?_
  show AW S m_L_odds 15 _ _ 2 12 0 [some (.ref 200), some (.int x1), some (.int x2), some (.ref 431), none] [] (hp I L w1 w2 t)
  refine a_l3 rfl rfl rfl ?_
  refine a_s rfl rfl ?_
  refine a_l0 rfl rfl rfl ?_
  refine a_l1 rfl rfl rfl ?_
  refine a_l2 rfl rfl rfl ?_
  refine a_callVc rfl lL_102 mo_X11_odds (q_X11_odds_200) rfl rfl rfl ⟨11, _, rfl, rfl, rfl⟩ (fun v' h' hv => ?_) (fun E h' hx => ?_)
  · obtain ⟨⟨v, rfl⟩, rfl⟩ := hv
    refine a_s rfl rfl ?_
    refine a_last rfl (n := 1) rfl ⟨by decide, by decide⟩ ?_
    refine a_goto rfl ?_
    refine a_s rfl rfl ?_
    exact a_iret rfl rfl ⟨⟨_, rfl⟩, _, _, _, _, _, rfl, Fm.rf, hk1, hk2⟩
  · obtain ⟨⟨k, hk, rfl⟩, I1, rfl, f⟩ := hx
    simp only [List.mem_cons, List.not_mem_nil, or_false] at hk
    rcases hk with rfl
    · refine ⟨13, _, _, _, _, 4, tk_13 rfl (by decide) (by decide), rfl, rfl, by decide, ?_⟩
      refine a_s rfl rfl ?_
      exact a_iret rfl rfl ⟨⟨_, rfl⟩, _, _, _, _, _, rfl, f, hk1, hk2⟩
theorem L_spare (hS : HdS S) (hci : CI I) (hk1 : WK w1) (hk2 : WK w2) {x1 : Int32} {x2 : Int32} : Sp S m_L_spare 16 2 12 [.ref 200, .int x1, .int x2, .ref 431] (hp I L w1 w2 t) (HdP (Fm sQ I)) nX := by
  refine Sp_of ok_L_spare rfl rfl ?_
  show AW S m_L_spare 16 _ _ 2 12 0 [some (.ref 200), some (.int x1), some (.int x2), some (.ref 431), none] [] (hp I L w1 w2 t)
  refine a_l3 rfl rfl rfl ?_
  refine a_s rfl rfl ?_
  refine a_l0 rfl rfl rfl ?_
  refine a_l1 rfl rfl rfl ?_
  refine a_l2 rfl rfl rfl ?_
  refine a_callVc rfl lL_105 mo_X11_spare (q_X11_spare_200) rfl rfl rfl ⟨11, _, rfl, rfl, rfl⟩ (fun v' h' hv => ?_) (fun E h' hx => ?_)
  · obtain ⟨⟨v, rfl⟩, rfl⟩ := hv
    refine a_s rfl rfl ?_
    refine a_last rfl (n := 1) rfl ⟨by decide, by decide⟩ ?_
    refine a_goto rfl ?_
    refine a_s rfl rfl ?_
    exact a_iret rfl rfl ⟨⟨_, rfl⟩, _, _, _, _, _, rfl, Fm.rf, hk1, hk2⟩
  · obtain ⟨⟨k, hk, rfl⟩, I1, rfl, f⟩ := hx
    simp only [List.mem_cons, List.not_mem_nil, or_false] at hk
    rcases hk with rfl | rfl
    · refine ⟨13, _, _, _, _, 4, tk_24 rfl (by decide) (by decide), rfl, rfl, by decide, ?_⟩
      refine a_s rfl rfl ?_
      exact a_iret rfl rfl ⟨⟨_, rfl⟩, _, _, _, _, _, rfl, f, hk1, hk2⟩
    · refine ⟨17, _, _, _, _, 4, tn_24 rfl (by decide) (by decide) (hS.2 ("java/lang/IllegalArgumentException", "java/lang/IndexOutOfBoundsException") (by decide +kernel)) (tk_13 rfl (by decide) (by decide)), rfl, rfl, by decide, ?_⟩
      refine a_s rfl rfl ?_
      exact a_iret rfl rfl ⟨⟨_, rfl⟩, _, _, _, _, _, rfl, f, hk1, hk2⟩
theorem L_done (hS : HdS S) (hci : CI I) (hk1 : WK w1) (hk2 : WK w2) {x1 : Int32} : Sp S m_L_done 20 1 6 [.ref 200, .int x1, .ref 431] (hp I L w1 w2 t) (HdP (Fm sQ I)) nX := by
  refine Sp_of ok_L_done rfl rfl ?_
  show AW S m_L_done 20 _ _ 1 6 0 [some (.ref 200), some (.int x1), some (.ref 431), none] [] (hp I L w1 w2 t)
  refine a_l2 rfl rfl rfl ?_
  refine a_s rfl rfl ?_
  refine a_l0 rfl rfl rfl ?_
  refine a_l1 rfl rfl rfl ?_
  refine a_callVc rfl lL_108 mo_X11_done (q_X11_done_200) rfl rfl rfl ⟨11, _, rfl, rfl, rfl⟩ (fun v' h' hv => ?_) (fun E h' hx => ?_)
  · obtain ⟨⟨v, rfl⟩, I1, rfl, f⟩ := hv
    refine a_s rfl rfl ?_
    refine a_last rfl (n := 1) rfl ⟨by decide, by decide⟩ ?_
    refine a_goto rfl ?_
    refine a_s rfl rfl ?_
    exact a_iret rfl rfl ⟨⟨_, rfl⟩, _, _, _, _, _, rfl, f, hk1, hk2⟩
  · obtain ⟨⟨k, hk, rfl⟩, I1, rfl, f⟩ := hx
    simp only [List.mem_cons, List.not_mem_nil, or_false] at hk
    rcases hk with rfl
    · refine ⟨12, _, _, _, _, 3, tk_24 rfl (by decide) (by decide), rfl, rfl, by decide, ?_⟩
      refine a_s rfl rfl ?_
      exact a_iret rfl rfl ⟨⟨_, rfl⟩, _, _, _, _, _, rfl, f, hk1, hk2⟩
theorem L_sick (hS : HdS S) (hci : CI I) (hk1 : WK w1) (hk2 : WK w2) {x1 : Int32} : Sp S m_L_sick 20 1 6 [.ref 200, .int x1, .ref 431] (hp I L w1 w2 t) (HdP (Fm sQ I)) nX := by
  refine Sp_of ok_L_sick rfl rfl ?_
  show AW S m_L_sick 20 _ _ 1 6 0 [some (.ref 200), some (.int x1), some (.ref 431), none] [] (hp I L w1 w2 t)
  refine a_l2 rfl rfl rfl ?_
  refine a_s rfl rfl ?_
  refine a_l0 rfl rfl rfl ?_
  refine a_l1 rfl rfl rfl ?_
  refine a_callVc rfl lL_111 mo_X11_sick (q_X11_sick_200) rfl rfl rfl ⟨11, _, rfl, rfl, rfl⟩ (fun v' h' hv => ?_) (fun E h' hx => ?_)
  · obtain ⟨⟨v, rfl⟩, I1, rfl, f⟩ := hv
    refine a_s rfl rfl ?_
    refine a_last rfl (n := 1) rfl ⟨by decide, by decide⟩ ?_
    refine a_goto rfl ?_
    refine a_s rfl rfl ?_
    exact a_iret rfl rfl ⟨⟨_, rfl⟩, _, _, _, _, _, rfl, f, hk1, hk2⟩
  · obtain ⟨⟨k, hk, rfl⟩, I1, rfl, f⟩ := hx
    simp only [List.mem_cons, List.not_mem_nil, or_false] at hk
    rcases hk with rfl
    · refine ⟨12, _, _, _, _, 3, tk_24 rfl (by decide) (by decide), rfl, rfl, by decide, ?_⟩
      refine a_s rfl rfl ?_
      exact a_iret rfl rfl ⟨⟨_, rfl⟩, _, _, _, _, _, rfl, f, hk1, hk2⟩
theorem L_ahead (hS : HdS S) (hci : CI I) (hk1 : WK w1) (hk2 : WK w2) {x1 : Int32} {x2 : Int32} {x3 : Int32} : Sp S m_L_ahead 19 3 18 [.ref 200, .int x1, .int x2, .int x3, .ref 431] (hp I L w1 w2 t) (HdP (Fm sQ I)) nX := by
  refine Sp_of ok_L_ahead rfl rfl ?_
  show AW S m_L_ahead 19 _ _ 3 18 0 [some (.ref 200), some (.int x1), some (.int x2), some (.int x3), some (.ref 431), none] [] (hp I L w1 w2 t)
  refine a_l4 rfl rfl rfl ?_
  refine a_s rfl rfl ?_
  refine a_l0 rfl rfl rfl ?_
  refine a_l1 rfl rfl rfl ?_
  refine a_l2 rfl rfl rfl ?_
  refine a_l3 rfl rfl rfl ?_
  refine a_callVc rfl lL_114 mo_X11_ahead (q_X11_ahead_200) rfl rfl rfl ⟨11, _, rfl, rfl, rfl⟩ (fun v' h' hv => ?_) (fun E h' hx => ?_)
  · obtain ⟨⟨v, rfl⟩, I1, rfl, f⟩ := hv
    refine a_s rfl rfl ?_
    refine a_last rfl (n := 1) rfl ⟨by decide, by decide⟩ ?_
    refine a_goto rfl ?_
    refine a_s rfl rfl ?_
    exact a_iret rfl rfl ⟨⟨_, rfl⟩, _, _, _, _, _, rfl, f, hk1, hk2⟩
  · obtain ⟨⟨k, hk, rfl⟩, I1, rfl, f⟩ := hx
    simp only [List.mem_cons, List.not_mem_nil, or_false] at hk
    rcases hk with rfl | rfl | rfl
    · refine ⟨15, _, _, _, _, 5, tk_24 rfl (by decide) (by decide), rfl, rfl, by decide, ?_⟩
      refine a_s rfl rfl ?_
      exact a_iret rfl rfl ⟨⟨_, rfl⟩, _, _, _, _, _, rfl, f, hk1, hk2⟩
    · refine ⟨19, _, _, _, _, 5, tn_24 rfl (by decide) (by decide) (hS.2 ("java/lang/IllegalArgumentException", "java/lang/IndexOutOfBoundsException") (by decide +kernel)) (tk_13 rfl (by decide) (by decide)), rfl, rfl, by decide, ?_⟩
      refine a_s rfl rfl ?_
      exact a_iret rfl rfl ⟨⟨_, rfl⟩, _, _, _, _, _, rfl, f, hk1, hk2⟩
    · refine ⟨23, _, _, _, _, 5, tn_24 rfl (by decide) (by decide) (hS.2 ("java/util/NoSuchElementException", "java/lang/IndexOutOfBoundsException") (by decide +kernel)) (tn_13 rfl (by decide) (by decide) (hS.2 ("java/util/NoSuchElementException", "java/lang/IllegalArgumentException") (by decide +kernel)) (tk_26 rfl (by decide) (by decide))), rfl, rfl, by decide, ?_⟩
      refine a_s rfl rfl ?_
      exact a_iret rfl rfl ⟨⟨_, rfl⟩, _, _, _, _, _, rfl, f, hk1, hk2⟩
theorem L_trial (hS : HdS S) (hci : CI I) (hk1 : WK w1) (hk2 : WK w2) {x1 : Int32} {b2 : Bool} : Sp S m_L_trial 20 1 6 [.ref 200, .int x1, .int (bI b2), .ref 431] (hp I L w1 w2 t) (HdP (Fm sQ I)) nX := by
  refine Sp_of ok_L_trial rfl rfl ?_
  show AW S m_L_trial 20 _ _ 1 6 0 [some (.ref 200), some (.int x1), some (.int (bI b2)), some (.ref 431), none] [] (hp I L w1 w2 t)
  refine a_l3 rfl rfl rfl ?_
  refine a_s rfl rfl ?_
  refine a_l0 rfl rfl rfl ?_
  refine a_l1 rfl rfl rfl ?_
  refine a_l2 rfl rfl rfl ?_
  refine a_callVc rfl lL_117 mo_X11_trial (q_X11_trial_200) rfl rfl rfl ⟨11, _, rfl, rfl, rfl⟩ (fun v' h' hv => ?_) (fun E h' hx => ?_)
  · obtain ⟨⟨v, rfl⟩, I1, rfl, f⟩ := hv
    refine a_s rfl rfl ?_
    refine a_last rfl (n := 1) rfl ⟨by decide, by decide⟩ ?_
    refine a_goto rfl ?_
    refine a_s rfl rfl ?_
    exact a_iret rfl rfl ⟨⟨_, rfl⟩, _, _, _, _, _, rfl, f, hk1, hk2⟩
  · obtain ⟨⟨k, hk, rfl⟩, I1, rfl, f⟩ := hx
    simp only [List.mem_cons, List.not_mem_nil, or_false] at hk
    rcases hk with rfl
    · refine ⟨13, _, _, _, _, 4, tk_13 rfl (by decide) (by decide), rfl, rfl, by decide, ?_⟩
      refine a_s rfl rfl ?_
      exact a_iret rfl rfl ⟨⟨_, rfl⟩, _, _, _, _, _, rfl, f, hk1, hk2⟩
theorem L_span (hS : HdS S) (hci : CI I) (hk1 : WK w1) (hk2 : WK w2) {x1 : Int32} {b2 : Bool} : Sp S m_L_span 20 1 6 [.ref 200, .int x1, .int (bI b2), .ref 431] (hp I L w1 w2 t) (HdP (Fm sQ I)) nX := by
  refine Sp_of ok_L_span rfl rfl ?_
  show AW S m_L_span 20 _ _ 1 6 0 [some (.ref 200), some (.int x1), some (.int (bI b2)), some (.ref 431), none] [] (hp I L w1 w2 t)
  refine a_l3 rfl rfl rfl ?_
  refine a_s rfl rfl ?_
  refine a_l0 rfl rfl rfl ?_
  refine a_l1 rfl rfl rfl ?_
  refine a_l2 rfl rfl rfl ?_
  refine a_callVc rfl lL_120 mo_X11_span (q_X11_span_200) rfl rfl rfl ⟨11, _, rfl, rfl, rfl⟩ (fun v' h' hv => ?_) (fun E h' hx => ?_)
  · obtain ⟨⟨v, rfl⟩, I1, rfl, f⟩ := hv
    refine a_s rfl rfl ?_
    refine a_last rfl (n := 1) rfl ⟨by decide, by decide⟩ ?_
    refine a_goto rfl ?_
    refine a_s rfl rfl ?_
    exact a_iret rfl rfl ⟨⟨_, rfl⟩, _, _, _, _, _, rfl, f, hk1, hk2⟩
  · obtain ⟨⟨k, hk, rfl⟩, I1, rfl, f⟩ := hx
    simp only [List.mem_cons, List.not_mem_nil, or_false] at hk
    rcases hk with rfl
    · refine ⟨13, _, _, _, _, 4, tk_13 rfl (by decide) (by decide), rfl, rfl, by decide, ?_⟩
      refine a_s rfl rfl ?_
      exact a_iret rfl rfl ⟨⟨_, rfl⟩, _, _, _, _, _, rfl, f, hk1, hk2⟩
theorem L_led (hS : HdS S) (hci : CI I) (hk1 : WK w1) (hk2 : WK w2) {x1 : Int32} {b2 : Bool} : Sp S m_L_led 16 1 6 [.ref 200, .int x1, .int (bI b2), .ref 431] (hp I L w1 w2 t) (HdP (Fm sQ I)) nX := by
  refine Sp_of ok_L_led rfl rfl ?_
  show AW S m_L_led 16 _ _ 1 6 0 [some (.ref 200), some (.int x1), some (.int (bI b2)), some (.ref 431), none] [] (hp I L w1 w2 t)
  refine a_l3 rfl rfl rfl ?_
  refine a_s rfl rfl ?_
  refine a_l0 rfl rfl rfl ?_
  refine a_l1 rfl rfl rfl ?_
  refine a_l2 rfl rfl rfl ?_
  refine a_callVc rfl lL_123 mo_X11_led (q_X11_led_200) rfl rfl rfl ⟨11, _, rfl, rfl, rfl⟩ (fun v' h' hv => ?_) (fun E h' hx => ?_)
  · obtain ⟨⟨v, rfl⟩, rfl⟩ := hv
    refine a_s rfl rfl ?_
    refine a_last rfl (n := 1) rfl ⟨by decide, by decide⟩ ?_
    refine a_goto rfl ?_
    refine a_s rfl rfl ?_
    exact a_iret rfl rfl ⟨⟨_, rfl⟩, _, _, _, _, _, rfl, Fm.rf, hk1, hk2⟩
  · obtain ⟨⟨k, hk, rfl⟩, I1, rfl, f⟩ := hx
    simp only [List.mem_cons, List.not_mem_nil, or_false] at hk
    rcases hk with rfl
    · refine ⟨13, _, _, _, _, 4, tk_24 rfl (by decide) (by decide), rfl, rfl, by decide, ?_⟩
      refine a_s rfl rfl ?_
      exact a_iret rfl rfl ⟨⟨_, rfl⟩, _, _, _, _, _, rfl, f, hk1, hk2⟩
theorem L_log (hS : HdS S) (hci : CI I) (hk1 : WK w1) (hk2 : WK w2) {x1 : Int32} {x2 : Int32} : Sp S m_L_log 15 1 6 [.ref 200, .int x1, .int x2, .ref 431] (hp I L w1 w2 t) (HdP (Fm sQ I)) nX := by
  refine Sp_of ok_L_log rfl rfl ?_
  show AW S m_L_log 15 _ _ 1 6 0 [some (.ref 200), some (.int x1), some (.int x2), some (.ref 431), none] [] (hp I L w1 w2 t)
  refine a_l3 rfl rfl rfl ?_
  refine a_s rfl rfl ?_
  refine a_l0 rfl rfl rfl ?_
  refine a_l1 rfl rfl rfl ?_
  refine a_l2 rfl rfl rfl ?_
  refine a_callVc rfl lL_126 mo_X11_log (q_X11_log_200) rfl rfl rfl ⟨11, _, rfl, rfl, rfl⟩ (fun v' h' hv => ?_) (fun E h' hx => ?_)
  · obtain ⟨⟨v, rfl⟩, rfl⟩ := hv
    refine a_s rfl rfl ?_
    refine a_last rfl (n := 1) rfl ⟨by decide, by decide⟩ ?_
    refine a_goto rfl ?_
    refine a_s rfl rfl ?_
    exact a_iret rfl rfl ⟨⟨_, rfl⟩, _, _, _, _, _, rfl, Fm.rf, hk1, hk2⟩
  · obtain ⟨⟨k, hk, rfl⟩, I1, rfl, f⟩ := hx
    simp only [List.mem_cons, List.not_mem_nil, or_false] at hk
    rcases hk with rfl
    · refine ⟨13, _, _, _, _, 4, tk_26 rfl (by decide) (by decide), rfl, rfl, by decide, ?_⟩
      refine a_s rfl rfl ?_
      exact a_iret rfl rfl ⟨⟨_, rfl⟩, _, _, _, _, _, rfl, f, hk1, hk2⟩
end W80
