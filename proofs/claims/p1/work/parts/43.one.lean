/-! ===== wrappers; operations of one result on the fresh heap ===== -/
set_option maxRecDepth 100000
theorem RefZ.at {I : Nat → Nat → Int32} (h : RefZ I) {q k : Nat} {c : Int32} (hq : Nat.ble 420 q = true) (e : I0 q k = c) : I q k = c := by
  rw [h q (Nat.le_of_ble_eq_true hq)]
  exact e
theorem RRet.of {S : aS} {C : aM} {d : Nat} {args : List Value} {r : Option Int32} {k : Int32} (f : (Nat → Nat → Int32) → Nat → Nat → Int32) (h : ∀ I L w1 w2 t, RefZ I → SpE S C d args (hp I L w1 w2 t) (r.map Value.int) (hp (f I) L w1 w2 t)) (hk : ∀ I, RefZ I → f I 420 0 = k) : RRet S C d args r k := fun I L w1 w2 t hz =>
  Sp.weaken (h I L w1 w2 t hz) (fun v h' ⟨e1, e2⟩ => ⟨e1, f I, L, w1, w2, t, e2, hk I hz, rfl⟩) (fun _ _ z => z)
theorem cpL_out {I : Nat → Nat → Int32} {a b q : Nat} (h : ¬ (a ≤ q ∧ q < a + 6)) : cpL I a b q = I q := by
  unfold cpL
  rw [up2_row (by omega), cpS_out (by omega)]
def QW (r : Int32) (v : Option Value) (h : aH) : Prop := v = some (.int 0) ∧ ∃ I w1 w2 t, h = hp I (up2 L0 431 0 r.toInt64) w1 w2 t ∧ RefZ I
def QX (k : Int32) (v : Option Value) (h : aH) : Prop := v = some (.int k) ∧ ∃ I w1 w2 t, h = hp I L0 w1 w2 t ∧ RefZ I
theorem cmp_self (x : Int64) : lg_cmp x x = 0 := by simp [lg_cmp]
theorem tk_13 {S : aS} {pc a b hpc : Nat} {rs : List (Nat × Nat × Nat × Nat)} {C : aM} (hC : C.1.cls = RL) (h1 : a ≤ pc) (h2 : pc < b) : hTake S C pc "java/lang/IllegalArgumentException" ((a, b, hpc, 13) :: rs) hpc := ⟨⟨h1, h2, by show (13 : Nat) ≠ 0; decide⟩, _, by rw [hC]; exact (inC3 (i := 203) rfl rfl), Or.inl ⟨⟨inD4 (i := 232) rfl, rfl⟩, rfl⟩⟩
theorem tn_13 {S : aS} {pc a b q hpc : Nat} {rs : List (Nat × Nat × Nat × Nat)} {C : aM} {E : String} (hC : C.1.cls = RL) (h1 : a ≤ pc) (h2 : pc < b) (hE : (E, "java/lang/IllegalArgumentException") ∈ S.2.2.2.2.2) (k : hTake S C pc E rs hpc) : hTake S C pc E ((a, b, q, 13) :: rs) hpc := ⟨⟨h1, h2, by show (13 : Nat) ≠ 0; decide⟩, _, by rw [hC]; exact (inC3 (i := 203) rfl rfl), Or.inr ⟨hE, k⟩⟩
theorem tk_15 {S : aS} {pc a b hpc : Nat} {rs : List (Nat × Nat × Nat × Nat)} {C : aM} (hC : C.1.cls = RL) (h1 : a ≤ pc) (h2 : pc < b) : hTake S C pc "java/lang/UnsupportedOperationException" ((a, b, hpc, 15) :: rs) hpc := ⟨⟨h1, h2, by show (15 : Nat) ≠ 0; decide⟩, _, by rw [hC]; exact (inC3 (i := 204) rfl rfl), Or.inl ⟨⟨inD5 (i := 57) rfl, rfl⟩, rfl⟩⟩
theorem tn_15 {S : aS} {pc a b q hpc : Nat} {rs : List (Nat × Nat × Nat × Nat)} {C : aM} {E : String} (hC : C.1.cls = RL) (h1 : a ≤ pc) (h2 : pc < b) (hE : (E, "java/lang/UnsupportedOperationException") ∈ S.2.2.2.2.2) (k : hTake S C pc E rs hpc) : hTake S C pc E ((a, b, q, 15) :: rs) hpc := ⟨⟨h1, h2, by show (15 : Nat) ≠ 0; decide⟩, _, by rw [hC]; exact (inC3 (i := 204) rfl rfl), Or.inr ⟨hE, k⟩⟩
theorem tk_24 {S : aS} {pc a b hpc : Nat} {rs : List (Nat × Nat × Nat × Nat)} {C : aM} (hC : C.1.cls = RL) (h1 : a ≤ pc) (h2 : pc < b) : hTake S C pc "java/lang/IndexOutOfBoundsException" ((a, b, hpc, 24) :: rs) hpc := ⟨⟨h1, h2, by show (24 : Nat) ≠ 0; decide⟩, _, by rw [hC]; exact (inC5 (i := 87) rfl rfl), Or.inl ⟨⟨inD5 (i := 99) rfl, rfl⟩, rfl⟩⟩
theorem tn_24 {S : aS} {pc a b q hpc : Nat} {rs : List (Nat × Nat × Nat × Nat)} {C : aM} {E : String} (hC : C.1.cls = RL) (h1 : a ≤ pc) (h2 : pc < b) (hE : (E, "java/lang/IndexOutOfBoundsException") ∈ S.2.2.2.2.2) (k : hTake S C pc E rs hpc) : hTake S C pc E ((a, b, q, 24) :: rs) hpc := ⟨⟨h1, h2, by show (24 : Nat) ≠ 0; decide⟩, _, by rw [hC]; exact (inC5 (i := 87) rfl rfl), Or.inr ⟨hE, k⟩⟩
theorem tk_26 {S : aS} {pc a b hpc : Nat} {rs : List (Nat × Nat × Nat × Nat)} {C : aM} (hC : C.1.cls = RL) (h1 : a ≤ pc) (h2 : pc < b) : hTake S C pc "java/util/NoSuchElementException" ((a, b, hpc, 26) :: rs) hpc := ⟨⟨h1, h2, by show (26 : Nat) ≠ 0; decide⟩, _, by rw [hC]; exact (inC5 (i := 88) rfl rfl), Or.inl ⟨⟨inD5 (i := 122) rfl, rfl⟩, rfl⟩⟩
theorem tn_26 {S : aS} {pc a b q hpc : Nat} {rs : List (Nat × Nat × Nat × Nat)} {C : aM} {E : String} (hC : C.1.cls = RL) (h1 : a ≤ pc) (h2 : pc < b) (hE : (E, "java/util/NoSuchElementException") ∈ S.2.2.2.2.2) (k : hTake S C pc E rs hpc) : hTake S C pc E ((a, b, q, 26) :: rs) hpc := ⟨⟨h1, h2, by show (26 : Nat) ≠ 0; decide⟩, _, by rw [hC]; exact (inC5 (i := 88) rfl rfl), Or.inr ⟨hE, k⟩⟩
theorem tk_35 {S : aS} {pc a b hpc : Nat} {rs : List (Nat × Nat × Nat × Nat)} {C : aM} (hC : C.1.cls = RL) (h1 : a ≤ pc) (h2 : pc < b) : hTake S C pc "java/lang/IllegalStateException" ((a, b, hpc, 35) :: rs) hpc := ⟨⟨h1, h2, by show (35 : Nat) ≠ 0; decide⟩, _, by rw [hC]; exact (inC5 (i := 153) rfl rfl), Or.inl ⟨⟨inD5 (i := 161) rfl, rfl⟩, rfl⟩⟩
theorem tn_35 {S : aS} {pc a b q hpc : Nat} {rs : List (Nat × Nat × Nat × Nat)} {C : aM} {E : String} (hC : C.1.cls = RL) (h1 : a ≤ pc) (h2 : pc < b) (hE : (E, "java/lang/IllegalStateException") ∈ S.2.2.2.2.2) (k : hTake S C pc E rs hpc) : hTake S C pc E ((a, b, q, 35) :: rs) hpc := ⟨⟨h1, h2, by show (35 : Nat) ≠ 0; decide⟩, _, by rw [hC]; exact (inC5 (i := 153) rfl rfl), Or.inr ⟨hE, k⟩⟩
theorem CRet.of0 {S : aS} {C : aM} {d : Nat} {args : List Value} {I : Nat → Nat → Int32} {w1 w2 t : Nat} (k : SpE S C d args (hp I0 L0 0 0 432) none (hp I L0 w1 w2 t)) (h : RefZ I) : CRet S C d args none :=
  Sp.weaken k (fun v h' ⟨e1, e2⟩ => ⟨e1, I, w1, w2, t, e2, h⟩) (fun _ _ z => z)
theorem sp_X12_image {S : aS} {I : Nat → Nat → Int32} {L : Nat → Nat → Int64} {w1 w2 t : Nat}  : SpE S m_X12_image 12 [.ref 420] (hp I L w1 w2 t) none (hp (up2 (cpP (up2 I 420 0 0) 422 421 1184) 420 6 1) L w1 w2 t) := by
  refine SpE_of ok_X12_image rfl rfl ?_
  show AW S m_X12_image 12 _ _ 0 0 0 [some (.ref 420), none] [] (hp I L w1 w2 t)
  refine a_l0 rfl rfl rfl ?_
  refine a_s rfl rfl ?_
  refine a_puti rfl pfX12_3_12 rfl ?_
  refine a_s rfl rfl ?_
  refine a_s1 rfl rfl rfl rfl rfl rfl ?_
  refine a_forE (n := 1184) (fun j => [some (.ref 420), some (.int (nI j))]) (fun j => hp (cpP (up2 I 420 0 0) 422 421 j) L w1 w2 t) (by simp [lsub, nI_0]) (by rw [cpP_0]) ?_ (fun j hj ih7 => ?_)
  · refine a_l1 rfl rfl rfl ?_
    refine a_s rfl rfl ?_
    refine a_ic_ge rfl (fun c11 => ?_) (fun c => absurd (Int32.le_refl _) c)
    refine a_l0 rfl rfl rfl ?_
    refine a_s rfl rfl ?_
    refine a_putz rfl pfX12_49_12 ⟨rfl, rfl⟩ rfl ?_
    refine a_vret rfl rfl ⟨rfl, rfl⟩
  · refine a_l1 rfl rfl rfl ?_
    refine a_s rfl rfl ?_
    refine a_ic_ge rfl (fun c => absurd c (nI_ge (b := 1184) hj (by omega))) (fun c11 => ?_)
    refine a_l0 rfl rfl rfl ?_
    refine a_getq rfl gfX12_17_12 rfl (rfl) ?_
    refine a_l1 rfl rfl rfl ?_
    refine a_l0 rfl rfl rfl ?_
    refine a_getq rfl gfX12_13_12 rfl (rfl) ?_
    refine a_l1 rfl rfl rfl ?_
    refine a_ialdv (v := (up2 I 420 0 0) 421 j) rfl (n := 2033) rfl (inI_nI (by omega) (by omega)) (by rw [nI_clamp (by omega), cpP_src (by decide)]) ?_
    refine a_iastv (k := j) rfl (n := 1184) rfl (inI_nI (by omega) (by omega)) (nI_clamp (by omega)) ?_
    rw [cpP_succ]
    refine a_i1 rfl rfl rfl ?_
    refine a_goto rfl ?_
    exact a_back ih7 (by simp [lsub, nI_1]) rfl
theorem I0_235_3 : I0 235 3 = 0 := by decide +kernel
theorem au_X5_bitsIn_1 {S : aS} {I : Nat → Nat → Int32} {L : Nat → Nat → Int64} {w1 w2 t : Nat} (h257_3 : I 257 3 = 0)  : SpE S m_X5_bitsIn 12 [.ref 257, .int 0] (hp I L w1 w2 t) (some (.int 0)) (hp I L w1 w2 t) := by
  refine SpE_of ok_X5_bitsIn rfl rfl ?_
  show AW S m_X5_bitsIn 12 _ _ 0 0 0 [some (.ref 257), some (.int 0), none, none] [] (hp I L w1 w2 t)
  refine a_s rfl rfl ?_
  refine a_s2 rfl rfl rfl rfl rfl rfl ?_
  refine a_s rfl rfl ?_
  refine a_s3 rfl rfl rfl rfl rfl rfl ?_
  refine a_l3 rfl rfl rfl ?_
  refine a_l0 rfl rfl rfl ?_
  refine a_getiv (v := 0) rfl gfX5_63_5 rfl h257_3 ?_
  refine a_ic_ge rfl (fun c9 => ?_) (fun c => absurd (by decide) c)
  refine a_l2 rfl rfl rfl ?_
  exact a_iret rfl rfl ⟨rfl, rfl⟩
theorem au_X5_daysTillNoneWaits_2 {S : aS} {I : Nat → Nat → Int32} {L : Nat → Nat → Int64} {w1 w2 t : Nat} (h257_3 : I 257 3 = 0)  : SpE S m_X5_daysTillNoneWaits 13 [.ref 257, .ref 246] (hp I L w1 w2 t) (some (.int 0)) (hp I L w1 w2 t) := by
  refine SpE_of ok_X5_daysTillNoneWaits rfl rfl ?_
  show AW S m_X5_daysTillNoneWaits 13 _ _ 0 0 0 [some (.ref 257), some (.ref 246), none] [] (hp I L w1 w2 t)
  refine a_s rfl rfl ?_
  refine a_s2 rfl rfl rfl rfl rfl rfl ?_
  refine a_l2 rfl rfl rfl ?_
  refine a_s rfl rfl ?_
  refine a_ic_gt rfl (fun c => absurd c (by decide)) (fun c5 => ?_)
  refine a_l0 rfl rfl rfl ?_
  refine a_s rfl rfl ?_
  refine a_eV1 rfl lX5_104 mo_X5_bitsIn (au_X5_bitsIn_1 h257_3 ) rfl rfl rfl ⟨5, _, rfl, rfl, rfl⟩ rfl ?_
  refine a_if_ne rfl (fun c => absurd c (by decide)) (fun c13 => ?_)
  refine a_l2 rfl rfl rfl ?_
  exact a_iret rfl rfl ⟨rfl, rfl⟩
theorem au_X11_all_3 {S : aS} {I : Nat → Nat → Int32} {L : Nat → Nat → Int64} {w1 w2 t : Nat} (h235_3 : I 235 3 = 0)  : SpE S m_X11_all 14 [.ref 200] (hp I L w1 w2 t) (some (.int 0)) (hp (cpS I 257 235 9) L w1 w2 t) := by
  refine SpE_of ok_X11_all rfl rfl ?_
  show AW S m_X11_all 14 _ _ 0 0 0 [some (.ref 200), none] [] (hp I L w1 w2 t)
  refine a_l0 rfl rfl rfl ?_
  refine a_getq rfl gfX11_55_11 rfl rfl ?_
  refine a_l0 rfl rfl rfl ?_
  refine a_getq rfl gfX11_37_11 rfl rfl ?_
  refine a_eV0 rfl lX11_78 mo_X5_copyFrom (sp_X5_copyFrom (a := 257) (b := 235) (by decide) (by decide) (by decide)) rfl rfl rfl ⟨5, _, rfl, rfl, rfl⟩ rfl ?_
  refine a_l0 rfl rfl rfl ?_
  refine a_getq rfl gfX11_55_11 rfl rfl ?_
  refine a_l0 rfl rfl rfl ?_
  refine a_getq rfl gfX11_44_11 rfl rfl ?_
  refine a_eV1 rfl lX11_346 mo_X5_daysTillNoneWaits (au_X5_daysTillNoneWaits_2 h235_3 ) rfl rfl rfl ⟨5, _, rfl, rfl, rfl⟩ rfl ?_
  refine a_s1 rfl rfl rfl rfl rfl rfl ?_
  refine a_l1 rfl rfl rfl ?_
  refine a_s rfl rfl ?_
  refine a_ic_ne rfl (fun c27 => ?_) (fun c => absurd c (by decide))
  refine a_l1 rfl rfl rfl ?_
  exact a_iret rfl rfl ⟨rfl, rfl⟩
theorem cr_X11_all {S : aS} : CRet S m_X11_all 14 [.ref 200] (some 0) := CRet.of (au_X11_all_3 I0_235_3 ) (fun q hq => by simp (disch := omega) only [up2_row, upr_row, cpS_out, cpL_out])
theorem I0_421_1 : I0 421 1 = 0 := by decide +kernel
theorem I0_421_0 : I0 421 0 = 0 := by decide +kernel
theorem I0_421_4 : I0 421 4 = 1 := by decide +kernel
theorem au_X12_duties_4 {S : aS} {I : Nat → Nat → Int32} {L : Nat → Nat → Int64} {w1 w2 t : Nat} (h421_1 : I 421 1 = 0)  : SpE S m_X12_duties 12 [.ref 420] (hp I L w1 w2 t) (some (.int 0)) (hp I L w1 w2 t) := by
  refine SpE_of ok_X12_duties rfl rfl ?_
  show AW S m_X12_duties 12 _ _ 0 0 0 [some (.ref 420)] [] (hp I L w1 w2 t)
  refine a_l0 rfl rfl rfl ?_
  refine a_getq rfl gfX12_13_12 rfl rfl ?_
  refine a_s rfl rfl ?_
  refine a_ialdv (v := 0) rfl (n := 2033) rfl ⟨by decide, by decide⟩ h421_1 ?_
  exact a_iret rfl rfl ⟨rfl, rfl⟩
theorem au_X12_allDuties_5 {S : aS} {I : Nat → Nat → Int32} {L : Nat → Nat → Int64} {w1 w2 t : Nat} (h421_1 : I 421 1 = 0)  : SpE S m_X12_allDuties 13 [.ref 420] (hp I L w1 w2 t) (some (.int 0)) (hp I L w1 w2 t) := by
  refine SpE_of ok_X12_allDuties rfl rfl ?_
  show AW S m_X12_allDuties 13 _ _ 0 0 0 [some (.ref 420)] [] (hp I L w1 w2 t)
  refine a_s rfl rfl ?_
  refine a_l0 rfl rfl rfl ?_
  refine a_eV1 rfl lX12_74 mo_X12_duties (au_X12_duties_4 h421_1 ) rfl rfl rfl ⟨12, _, rfl, rfl, rfl⟩ rfl ?_
  refine a_s rfl rfl ?_
  refine a_top (y := 1) (by decide) ?_
  refine a_s rfl rfl ?_
  refine a_s rfl rfl ?_
  refine a_top (y := 0) (by decide) ?_
  exact a_iret rfl rfl ⟨rfl, rfl⟩
theorem au_X12_ofState_6 {S : aS} {I : Nat → Nat → Int32} {L : Nat → Nat → Int64} {w1 w2 t : Nat} (h421_1 : I 421 1 = 0)  : SpE S m_X12_ofState 13 [.ref 420, .int 0] (hp I L w1 w2 t) (some (.int 0)) (hp I L w1 w2 t) := by
  refine SpE_of ok_X12_ofState rfl rfl ?_
  show AW S m_X12_ofState 13 _ _ 0 0 0 [some (.ref 420), some (.int 0), none, none] [] (hp I L w1 w2 t)
  refine a_s rfl rfl ?_
  refine a_s2 rfl rfl rfl rfl rfl rfl ?_
  refine a_s rfl rfl ?_
  refine a_s3 rfl rfl rfl rfl rfl rfl ?_
  refine a_l3 rfl rfl rfl ?_
  refine a_l0 rfl rfl rfl ?_
  refine a_eV1 rfl lX12_74 mo_X12_duties (au_X12_duties_4 h421_1 ) rfl rfl rfl ⟨12, _, rfl, rfl, rfl⟩ rfl ?_
  refine a_ic_ge rfl (fun c9 => ?_) (fun c => absurd (by decide) c)
  refine a_l2 rfl rfl rfl ?_
  exact a_iret rfl rfl ⟨rfl, rfl⟩
theorem au_X12_people_7 {S : aS} {I : Nat → Nat → Int32} {L : Nat → Nat → Int64} {w1 w2 t : Nat} (h421_0 : I 421 0 = 0)  : SpE S m_X12_people 12 [.ref 420] (hp I L w1 w2 t) (some (.int 0)) (hp I L w1 w2 t) := by
  refine SpE_of ok_X12_people rfl rfl ?_
  show AW S m_X12_people 12 _ _ 0 0 0 [some (.ref 420)] [] (hp I L w1 w2 t)
  refine a_l0 rfl rfl rfl ?_
  refine a_getq rfl gfX12_13_12 rfl rfl ?_
  refine a_s rfl rfl ?_
  refine a_ialdv (v := 0) rfl (n := 2033) rfl ⟨by decide, by decide⟩ h421_0 ?_
  exact a_iret rfl rfl ⟨rfl, rfl⟩
theorem au_X12_goesBy_8 {S : aS} {I : Nat → Nat → Int32} {L : Nat → Nat → Int64} {w1 w2 t : Nat} (h421_1 : I 421 1 = 0)  : SpE S m_X12_goesBy 13 [.ref 420] (hp I L w1 w2 t) none (hp I L w1 w2 t) := by
  refine SpE_of ok_X12_goesBy rfl rfl ?_
  show AW S m_X12_goesBy 13 _ _ 0 0 0 [some (.ref 420), none, none] [] (hp I L w1 w2 t)
  refine a_s rfl rfl ?_
  refine a_s1 rfl rfl rfl rfl rfl rfl ?_
  refine a_l1 rfl rfl rfl ?_
  refine a_l0 rfl rfl rfl ?_
  refine a_eV1 rfl lX12_74 mo_X12_duties (au_X12_duties_4 h421_1 ) rfl rfl rfl ⟨12, _, rfl, rfl, rfl⟩ rfl ?_
  refine a_ic_ge rfl (fun c7 => ?_) (fun c => absurd (by decide) c)
  exact a_vret rfl rfl ⟨rfl, rfl⟩
theorem au_X12_oneDay_9 {S : aS} {I : Nat → Nat → Int32} {L : Nat → Nat → Int64} {w1 w2 t : Nat} (h421_0 : I 421 0 = 0) (h421_4 : I 421 4 = 1) (h421_1 : I 421 1 = 0)  : SpE S m_X12_oneDay 14 [.ref 420, .int 1] (hp I L w1 w2 t) (some (.int 0)) (hp (up2 (up2 (up2 (up2 (up2 (up2 (up2 I 429 0 (-1)) 429 1 (-1)) 429 2 (-1)) 429 3 (-1)) 429 4 (-1)) 429 5 (-1)) 421 4 2) L w1 w2 t) := by
  refine SpE_of ok_X12_oneDay rfl rfl ?_
  show AW S m_X12_oneDay 14 _ _ 0 0 0 [some (.ref 420), some (.int 1), none, none] [] (hp I L w1 w2 t)
  refine a_s rfl rfl ?_
  refine a_s2 rfl rfl rfl rfl rfl rfl ?_
  refine a_s rfl rfl ?_
  refine a_s3 rfl rfl rfl rfl rfl rfl ?_
  refine a_l3 rfl rfl rfl ?_
  refine a_s rfl rfl ?_
  refine a_ic_ge rfl (fun c => absurd c (by decide)) (fun c7 => ?_)
  refine a_l0 rfl rfl rfl ?_
  refine a_getq rfl gfX12_42_12 rfl rfl ?_
  refine a_l3 rfl rfl rfl ?_
  refine a_s rfl rfl ?_
  refine a_iastv (k := 0) rfl (n := 6) rfl ⟨by decide, by decide⟩ (by decide) ?_
  refine a_iv3 (y := 1) rfl rfl rfl (by decide) ?_
  refine a_goto rfl ?_
  refine a_l3 rfl rfl rfl ?_
  refine a_s rfl rfl ?_
  refine a_ic_ge rfl (fun c => absurd c (by decide)) (fun c7 => ?_)
  refine a_l0 rfl rfl rfl ?_
  refine a_getq rfl gfX12_42_12 rfl rfl ?_
  refine a_l3 rfl rfl rfl ?_
  refine a_s rfl rfl ?_
  refine a_iastv (k := 1) rfl (n := 6) rfl ⟨by decide, by decide⟩ (by decide) ?_
  refine a_iv3 (y := 2) rfl rfl rfl (by decide) ?_
  refine a_goto rfl ?_
  refine a_l3 rfl rfl rfl ?_
  refine a_s rfl rfl ?_
  refine a_ic_ge rfl (fun c => absurd c (by decide)) (fun c7 => ?_)
  refine a_l0 rfl rfl rfl ?_
  refine a_getq rfl gfX12_42_12 rfl rfl ?_
  refine a_l3 rfl rfl rfl ?_
  refine a_s rfl rfl ?_
  refine a_iastv (k := 2) rfl (n := 6) rfl ⟨by decide, by decide⟩ (by decide) ?_
  refine a_iv3 (y := 3) rfl rfl rfl (by decide) ?_
  refine a_goto rfl ?_
  refine a_l3 rfl rfl rfl ?_
  refine a_s rfl rfl ?_
  refine a_ic_ge rfl (fun c => absurd c (by decide)) (fun c7 => ?_)
  refine a_l0 rfl rfl rfl ?_
  refine a_getq rfl gfX12_42_12 rfl rfl ?_
  refine a_l3 rfl rfl rfl ?_
  refine a_s rfl rfl ?_
  refine a_iastv (k := 3) rfl (n := 6) rfl ⟨by decide, by decide⟩ (by decide) ?_
  refine a_iv3 (y := 4) rfl rfl rfl (by decide) ?_
  refine a_goto rfl ?_
  refine a_l3 rfl rfl rfl ?_
  refine a_s rfl rfl ?_
  refine a_ic_ge rfl (fun c => absurd c (by decide)) (fun c7 => ?_)
  refine a_l0 rfl rfl rfl ?_
  refine a_getq rfl gfX12_42_12 rfl rfl ?_
  refine a_l3 rfl rfl rfl ?_
  refine a_s rfl rfl ?_
  refine a_iastv (k := 4) rfl (n := 6) rfl ⟨by decide, by decide⟩ (by decide) ?_
  refine a_iv3 (y := 5) rfl rfl rfl (by decide) ?_
  refine a_goto rfl ?_
  refine a_l3 rfl rfl rfl ?_
  refine a_s rfl rfl ?_
  refine a_ic_ge rfl (fun c => absurd c (by decide)) (fun c7 => ?_)
  refine a_l0 rfl rfl rfl ?_
  refine a_getq rfl gfX12_42_12 rfl rfl ?_
  refine a_l3 rfl rfl rfl ?_
  refine a_s rfl rfl ?_
  refine a_iastv (k := 5) rfl (n := 6) rfl ⟨by decide, by decide⟩ (by decide) ?_
  refine a_iv3 (y := 6) rfl rfl rfl (by decide) ?_
  refine a_goto rfl ?_
  refine a_l3 rfl rfl rfl ?_
  refine a_s rfl rfl ?_
  refine a_ic_ge rfl (fun c7 => ?_) (fun c => absurd (by decide) c)
  refine a_s rfl rfl ?_
  refine a_s3 rfl rfl rfl rfl rfl rfl ?_
  refine a_l3 rfl rfl rfl ?_
  refine a_l0 rfl rfl rfl ?_
  refine a_eV1 rfl lX12_66 mo_X12_people (au_X12_people_7 h421_0 ) rfl rfl rfl ⟨12, _, rfl, rfl, rfl⟩ rfl ?_
  refine a_ic_ge rfl (fun c30 => ?_) (fun c => absurd (by decide) c)
  refine a_l0 rfl rfl rfl ?_
  refine a_getq rfl gfX12_13_12 rfl rfl ?_
  refine a_s rfl rfl ?_
  refine a_s rfl rfl ?_
  refine a_ialdv (v := 1) rfl (n := 2033) rfl ⟨by decide, by decide⟩ h421_4 ?_
  refine a_s rfl rfl ?_
  refine a_s rfl rfl ?_
  refine a_top (y := 2) (by decide) ?_
  refine a_iastv (k := 4) rfl (n := 2033) rfl ⟨by decide, by decide⟩ (by decide) ?_
  refine a_l0 rfl rfl rfl ?_
  refine a_getq rfl gfX12_13_12 rfl rfl ?_
  refine a_s rfl rfl ?_
  refine a_ialdv (v := 2) rfl (n := 2033) rfl ⟨by decide, by decide⟩ rfl ?_
  refine a_s rfl rfl ?_
  refine a_ic_le rfl (fun c89 => ?_) (fun c => absurd (by decide) c)
  refine a_l0 rfl rfl rfl ?_
  refine a_getq rfl gfX12_13_12 rfl rfl ?_
  refine a_s rfl rfl ?_
  refine a_ialdv (v := 2) rfl (n := 2033) rfl ⟨by decide, by decide⟩ rfl ?_
  refine a_s rfl rfl ?_
  refine a_ic_ne rfl (fun c => absurd c (by decide)) (fun c147 => ?_)
  refine a_l0 rfl rfl rfl ?_
  refine a_eV0 rfl lX12_382 mo_X12_goesBy (au_X12_goesBy_8 h421_1 ) rfl rfl rfl ⟨12, _, rfl, rfl, rfl⟩ rfl ?_
  refine a_l2 rfl rfl rfl ?_
  exact a_iret rfl rfl ⟨rfl, rfl⟩
theorem au_X12_overIn_10 {S : aS} {I : Nat → Nat → Int32} {L : Nat → Nat → Int64} {w1 w2 t : Nat} (h421_1 : I 421 1 = 0) (h421_0 : I 421 0 = 0) (h421_4 : I 421 4 = 1)  : SpE S m_X12_overIn 15 [.ref 420, .int 0, .int 0] (hp I L w1 w2 t) (some (.int 0)) (hp (cpP (up2 (up2 (up2 (up2 (up2 (up2 (up2 I 429 0 (-1)) 429 1 (-1)) 429 2 (-1)) 429 3 (-1)) 429 4 (-1)) 429 5 (-1)) 421 4 2) 421 424 335) L w1 w2 t) := by
  refine SpE_of ok_X12_overIn rfl rfl ?_
  show AW S m_X12_overIn 15 _ _ 0 0 0 [some (.ref 420), some (.int 0), some (.int 0), none, none, none] [] (hp I L w1 w2 t)
  refine a_ldcw rfl kX12_401 ?_
  refine a_s3 rfl rfl rfl rfl rfl rfl ?_
  refine a_s rfl rfl ?_
  refine a_s4 rfl rfl rfl rfl rfl rfl ?_
  refine a_l4 rfl rfl rfl ?_
  refine a_s rfl rfl ?_
  refine a_ic_gt rfl (fun c => absurd c (by decide)) (fun c11 => ?_)
  refine a_l3 rfl rfl rfl ?_
  refine a_ldcw rfl kX12_401 ?_
  refine a_ic_ne rfl (fun c => absurd c (by decide)) (fun c18 => ?_)
  refine a_l2 rfl rfl rfl ?_
  refine a_if_eq rfl (fun c22 => ?_) (fun c => absurd (by decide) c)
  refine a_l1 rfl rfl rfl ?_
  refine a_l0 rfl rfl rfl ?_
  refine a_s rfl rfl ?_
  refine a_eV1 rfl lX12_324 mo_X12_ofState (au_X12_ofState_6 h421_1 ) rfl rfl rfl ⟨12, _, rfl, rfl, rfl⟩ rfl ?_
  refine a_s rfl rfl ?_
  refine a_top (y := 0) (by decide) ?_
  refine a_s5 rfl rfl rfl rfl rfl rfl ?_
  refine a_l5 rfl rfl rfl ?_
  refine a_if_ne rfl (fun c => absurd c (by decide)) (fun c48 => ?_)
  refine a_l4 rfl rfl rfl ?_
  refine a_goto rfl ?_
  refine a_s3 rfl rfl rfl rfl rfl rfl ?_
  refine a_l0 rfl rfl rfl ?_
  refine a_s rfl rfl ?_
  refine a_eV1 rfl lX12_385 mo_X12_oneDay (au_X12_oneDay_9 h421_0 h421_4 h421_1 ) rfl rfl rfl ⟨12, _, rfl, rfl, rfl⟩ rfl ?_
  refine a_s rfl rfl ?_
  refine a_iv4 (y := 1) rfl rfl rfl (by decide) ?_
  refine a_goto rfl ?_
  refine a_l4 rfl rfl rfl ?_
  refine a_s rfl rfl ?_
  refine a_ic_gt rfl (fun c => absurd c (by decide)) (fun c11 => ?_)
  refine a_l3 rfl rfl rfl ?_
  refine a_ldcw rfl kX12_401 ?_
  refine a_ic_ne rfl (fun c18 => ?_) (fun c => absurd c (by decide))
  refine a_l0 rfl rfl rfl ?_
  refine a_eV0 rfl lX12_398 mo_X12_bringsBack (sp_X12_bringsBack) rfl rfl rfl ⟨12, _, rfl, rfl, rfl⟩ rfl ?_
  refine a_l3 rfl rfl rfl ?_
  exact a_iret rfl rfl ⟨rfl, rfl⟩
theorem au_X12_allOver_11 {S : aS} {I : Nat → Nat → Int32} {L : Nat → Nat → Int64} {w1 w2 t : Nat} (h421_1 : I 421 1 = 0) (h421_0 : I 421 0 = 0) (h421_4 : I 421 4 = 1)  : SpE S m_X12_allOver 16 [.ref 420] (hp I L w1 w2 t) (some (.int 0)) (hp (cpP (up2 (up2 (up2 (up2 (up2 (up2 (up2 (cpP I 424 421 335) 429 0 (-1)) 429 1 (-1)) 429 2 (-1)) 429 3 (-1)) 429 4 (-1)) 429 5 (-1)) 421 4 2) 421 424 335) L w1 w2 t) := by
  refine SpE_of ok_X12_allOver rfl rfl ?_
  show AW S m_X12_allOver 16 _ _ 0 0 0 [some (.ref 420)] [] (hp I L w1 w2 t)
  refine a_l0 rfl rfl rfl ?_
  refine a_eV0 rfl lX12_395 mo_X12_keepsAll (sp_X12_keepsAll) rfl rfl rfl ⟨12, _, rfl, rfl, rfl⟩ rfl ?_
  refine a_l0 rfl rfl rfl ?_
  refine a_l0 rfl rfl rfl ?_
  refine a_eV1 rfl lX12_402 mo_X12_allDuties (au_X12_allDuties_5 h421_1 ) rfl rfl rfl ⟨12, _, rfl, rfl, rfl⟩ rfl ?_
  refine a_s rfl rfl ?_
  refine a_eV1 rfl lX12_405 mo_X12_overIn (au_X12_overIn_10 h421_1 h421_0 h421_4 ) rfl rfl rfl ⟨12, _, rfl, rfl, rfl⟩ rfl ?_
  exact a_iret rfl rfl ⟨rfl, rfl⟩
theorem au_X12_orNone_12 {S : aS} {I : Nat → Nat → Int32} {L : Nat → Nat → Int64} {w1 w2 t : Nat}   : SpE S m_X12_orNone 12 [.int 0] (hp I L w1 w2 t) (some (.int 0)) (hp I L w1 w2 t) := by
  refine SpE_of ok_X12_orNone rfl rfl ?_
  show AW S m_X12_orNone 12 _ _ 0 0 0 [some (.int 0)] [] (hp I L w1 w2 t)
  refine a_l0 rfl rfl rfl ?_
  refine a_ldcw rfl kX12_401 ?_
  refine a_ic_lt rfl (fun c4 => ?_) (fun c => absurd (by decide) c)
  refine a_l0 rfl rfl rfl ?_
  exact a_iret rfl rfl ⟨rfl, rfl⟩
theorem au_X12_all_13 {S : aS} {I : Nat → Nat → Int32} {L : Nat → Nat → Int64} {w1 w2 t : Nat} (h421_1 : I 421 1 = 0) (h421_0 : I 421 0 = 0) (h421_4 : I 421 4 = 1)  : SpE S m_X12_all 17 [.ref 420] (hp I L w1 w2 t) (some (.int 0)) (hp (cpP (up2 (up2 (up2 (up2 (up2 (up2 (up2 (cpP (up2 I 420 0 0) 424 421 335) 429 0 (-1)) 429 1 (-1)) 429 2 (-1)) 429 3 (-1)) 429 4 (-1)) 429 5 (-1)) 421 4 2) 421 424 335) L w1 w2 t) := by
  refine SpE_of ok_X12_all rfl rfl ?_
  show AW S m_X12_all 17 _ _ 0 0 0 [some (.ref 420)] [] (hp I L w1 w2 t)
  refine a_l0 rfl rfl rfl ?_
  refine a_s rfl rfl ?_
  refine a_puti rfl pfX12_3_12 rfl ?_
  refine a_l0 rfl rfl rfl ?_
  refine a_eV1 rfl lX12_411 mo_X12_allOver (au_X12_allOver_11 h421_1 h421_0 h421_4 ) rfl rfl rfl ⟨12, _, rfl, rfl, rfl⟩ rfl ?_
  refine a_eS1 rfl lX12_408 mo_X12_orNone (au_X12_orNone_12  ) rfl rfl rfl rfl ?_
  exact a_iret rfl rfl ⟨rfl, rfl⟩
theorem rr_X12_all {S : aS} : RRet S m_X12_all 17 [.ref 420] (some 0) 0 := RRet.of (fun I => cpP (up2 (up2 (up2 (up2 (up2 (up2 (up2 (cpP (up2 I 420 0 0) 424 421 335) 429 0 (-1)) 429 1 (-1)) 429 2 (-1)) 429 3 (-1)) 429 4 (-1)) 429 5 (-1)) 421 4 2) 421 424 335) (fun I L w1 w2 t hz => au_X12_all_13 (hz.at rfl I0_421_1) (hz.at rfl I0_421_0) (hz.at rfl I0_421_4) ) (fun I hz => rfl)
theorem op_43 {xs : Nat → Int32} : OpOk xs 2326 := by
  show AW (S1 6 xs) m_L_main 1050 QM XM 599770 7281900 2326 [some (.ref 199), some (.ref 200), some (.ref 420), some (.ref 431), some (.int 0), none, none] [] (hp I0 L0 0 0 432)
  refine a_l1 rfl rfl rfl ?_
  refine a_callV rfl lL_288 mo_X11_all (cr_X11_all) rfl rfl rfl ⟨11, _, rfl, rfl, rfl⟩ rfl (fun v h' hv => ?_) (fun E h' hx => False.elim hx)
  obtain ⟨rfl, I, w1, w2, t, rfl, hz⟩ := hv
  refine a_l2 rfl rfl rfl ?_
  refine a_callV rfl lL_291 mo_X12_all (rr_X12_all I _ w1 w2 t hz) rfl rfl rfl ⟨12, _, rfl, rfl, rfl⟩ rfl (fun v h' hv => ?_) (fun E h' hx => False.elim hx)
  obtain ⟨rfl, I', L', w1', w2', t', rfl, hk, hL⟩ := hv
  refine a_ic_eq rfl (fun c2334 => ?_) (fun c => absurd (rfl) c)
  exact fin_ok
theorem I0_235_0 : I0 235 0 = 0 := by decide +kernel
theorem au_X11_help_14 {S : aS} {I : Nat → Nat → Int32} {L : Nat → Nat → Int64} {w1 w2 t : Nat} (h235_3 : I 235 3 = 0) (h235_0 : I 235 0 = 0)  : SpE S m_X11_help 14 [.ref 200] (hp I L w1 w2 t) (some (.int (-1))) (hp (cpS I 257 235 9) L w1 w2 t) := by
  refine SpE_of ok_X11_help rfl rfl ?_
  show AW S m_X11_help 14 _ _ 0 0 0 [some (.ref 200), none, none, none, none] [] (hp I L w1 w2 t)
  refine a_l0 rfl rfl rfl ?_
  refine a_getq rfl gfX11_55_11 rfl rfl ?_
  refine a_l0 rfl rfl rfl ?_
  refine a_getq rfl gfX11_37_11 rfl rfl ?_
  refine a_eV0 rfl lX11_78 mo_X5_copyFrom (sp_X5_copyFrom (a := 257) (b := 235) (by decide) (by decide) (by decide)) rfl rfl rfl ⟨5, _, rfl, rfl, rfl⟩ rfl ?_
  refine a_l0 rfl rfl rfl ?_
  refine a_getq rfl gfX11_55_11 rfl rfl ?_
  refine a_l0 rfl rfl rfl ?_
  refine a_getq rfl gfX11_44_11 rfl rfl ?_
  refine a_eV1 rfl lX11_346 mo_X5_daysTillNoneWaits (au_X5_daysTillNoneWaits_2 h235_3 ) rfl rfl rfl ⟨5, _, rfl, rfl, rfl⟩ rfl ?_
  refine a_s1 rfl rfl rfl rfl rfl rfl ?_
  refine a_s rfl rfl ?_
  refine a_s2 rfl rfl rfl rfl rfl rfl ?_
  refine a_s rfl rfl ?_
  refine a_s3 rfl rfl rfl rfl rfl rfl ?_
  refine a_l3 rfl rfl rfl ?_
  refine a_l0 rfl rfl rfl ?_
  refine a_getq rfl gfX11_37_11 rfl rfl ?_
  refine a_getiv (v := 0) rfl gfX11_179_5 rfl h235_0 ?_
  refine a_ic_ge rfl (fun c35 => ?_) (fun c => absurd (by decide) c)
  refine a_l2 rfl rfl rfl ?_
  exact a_iret rfl rfl ⟨rfl, rfl⟩
theorem cr_X11_help {S : aS} : CRet S m_X11_help 14 [.ref 200] (some (-1)) := CRet.of (au_X11_help_14 I0_235_3 I0_235_0 ) (fun q hq => by simp (disch := omega) only [up2_row, upr_row, cpS_out, cpL_out])
theorem au_X12_help_15 {S : aS} {I : Nat → Nat → Int32} {L : Nat → Nat → Int64} {w1 w2 t : Nat} (h421_1 : I 421 1 = 0) (h421_0 : I 421 0 = 0) (h421_4 : I 421 4 = 1)  : SpE S m_X12_help 17 [.ref 420] (hp I L w1 w2 t) (some (.int (-1))) (hp (cpP (up2 (up2 (up2 (up2 (up2 (up2 (up2 (cpP (up2 I 420 0 0) 424 421 335) 429 0 (-1)) 429 1 (-1)) 429 2 (-1)) 429 3 (-1)) 429 4 (-1)) 429 5 (-1)) 421 4 2) 421 424 335) L w1 w2 t) := by
  refine SpE_of ok_X12_help rfl rfl ?_
  show AW S m_X12_help 17 _ _ 0 0 0 [some (.ref 420), none, none, none, none] [] (hp I L w1 w2 t)
  refine a_l0 rfl rfl rfl ?_
  refine a_s rfl rfl ?_
  refine a_puti rfl pfX12_3_12 rfl ?_
  refine a_s rfl rfl ?_
  refine a_s1 rfl rfl rfl rfl rfl rfl ?_
  refine a_l0 rfl rfl rfl ?_
  refine a_eV1 rfl lX12_411 mo_X12_allOver (au_X12_allOver_11 h421_1 h421_0 h421_4 ) rfl rfl rfl ⟨12, _, rfl, rfl, rfl⟩ rfl ?_
  refine a_s2 rfl rfl rfl rfl rfl rfl ?_
  refine a_s rfl rfl ?_
  refine a_s3 rfl rfl rfl rfl rfl rfl ?_
  refine a_l3 rfl rfl rfl ?_
  refine a_l0 rfl rfl rfl ?_
  refine a_eV1 rfl lX12_66 mo_X12_people (au_X12_people_7 h421_0 ) rfl rfl rfl ⟨12, _, rfl, rfl, rfl⟩ rfl ?_
  refine a_ic_ge rfl (fun c19 => ?_) (fun c => absurd (by decide) c)
  refine a_l1 rfl rfl rfl ?_
  exact a_iret rfl rfl ⟨rfl, rfl⟩
theorem rr_X12_help {S : aS} : RRet S m_X12_help 17 [.ref 420] (some (-1)) 0 := RRet.of (fun I => cpP (up2 (up2 (up2 (up2 (up2 (up2 (up2 (cpP (up2 I 420 0 0) 424 421 335) 429 0 (-1)) 429 1 (-1)) 429 2 (-1)) 429 3 (-1)) 429 4 (-1)) 429 5 (-1)) 421 4 2) 421 424 335) (fun I L w1 w2 t hz => au_X12_help_15 (hz.at rfl I0_421_1) (hz.at rfl I0_421_0) (hz.at rfl I0_421_4) ) (fun I hz => rfl)
theorem op_44 {xs : Nat → Int32} : OpOk xs 2339 := by
  show AW (S1 6 xs) m_L_main 1050 QM XM 599770 7281900 2339 [some (.ref 199), some (.ref 200), some (.ref 420), some (.ref 431), some (.int 0), none, none] [] (hp I0 L0 0 0 432)
  refine a_l1 rfl rfl rfl ?_
  refine a_callV rfl lL_292 mo_X11_help (cr_X11_help) rfl rfl rfl ⟨11, _, rfl, rfl, rfl⟩ rfl (fun v h' hv => ?_) (fun E h' hx => False.elim hx)
  obtain ⟨rfl, I, w1, w2, t, rfl, hz⟩ := hv
  refine a_l2 rfl rfl rfl ?_
  refine a_callV rfl lL_295 mo_X12_help (rr_X12_help I _ w1 w2 t hz) rfl rfl rfl ⟨12, _, rfl, rfl, rfl⟩ rfl (fun v h' hv => ?_) (fun E h' hx => False.elim hx)
  obtain ⟨rfl, I', L', w1', w2', t', rfl, hk, hL⟩ := hv
  refine a_ic_eq rfl (fun c2347 => ?_) (fun c => absurd (rfl) c)
  exact fin_ok
theorem au_X11_crux_16 {S : aS} {I : Nat → Nat → Int32} {L : Nat → Nat → Int64} {w1 w2 t : Nat} (h235_3 : I 235 3 = 0)  : SpE S m_X11_crux 14 [.ref 200] (hp I L w1 w2 t) (some (.int (-1))) (hp (cpS I 257 235 9) L w1 w2 t) := by
  refine SpE_of ok_X11_crux rfl rfl ?_
  show AW S m_X11_crux 14 _ _ 0 0 0 [some (.ref 200), none, none, none, none] [] (hp I L w1 w2 t)
  refine a_l0 rfl rfl rfl ?_
  refine a_getq rfl gfX11_55_11 rfl rfl ?_
  refine a_l0 rfl rfl rfl ?_
  refine a_getq rfl gfX11_37_11 rfl rfl ?_
  refine a_eV0 rfl lX11_78 mo_X5_copyFrom (sp_X5_copyFrom (a := 257) (b := 235) (by decide) (by decide) (by decide)) rfl rfl rfl ⟨5, _, rfl, rfl, rfl⟩ rfl ?_
  refine a_l0 rfl rfl rfl ?_
  refine a_getq rfl gfX11_55_11 rfl rfl ?_
  refine a_l0 rfl rfl rfl ?_
  refine a_getq rfl gfX11_44_11 rfl rfl ?_
  refine a_eV1 rfl lX11_346 mo_X5_daysTillNoneWaits (au_X5_daysTillNoneWaits_2 h235_3 ) rfl rfl rfl ⟨5, _, rfl, rfl, rfl⟩ rfl ?_
  refine a_s1 rfl rfl rfl rfl rfl rfl ?_
  refine a_s rfl rfl ?_
  refine a_s2 rfl rfl rfl rfl rfl rfl ?_
  refine a_s rfl rfl ?_
  refine a_s3 rfl rfl rfl rfl rfl rfl ?_
  refine a_l3 rfl rfl rfl ?_
  refine a_l0 rfl rfl rfl ?_
  refine a_getq rfl gfX11_37_11 rfl rfl ?_
  refine a_getiv (v := 0) rfl gfX11_182_5 rfl h235_3 ?_
  refine a_ic_ge rfl (fun c35 => ?_) (fun c => absurd (by decide) c)
  refine a_l2 rfl rfl rfl ?_
  exact a_iret rfl rfl ⟨rfl, rfl⟩
theorem cr_X11_crux {S : aS} : CRet S m_X11_crux 14 [.ref 200] (some (-1)) := CRet.of (au_X11_crux_16 I0_235_3 ) (fun q hq => by simp (disch := omega) only [up2_row, upr_row, cpS_out, cpL_out])
theorem au_X12_crux_17 {S : aS} {I : Nat → Nat → Int32} {L : Nat → Nat → Int64} {w1 w2 t : Nat} (h421_1 : I 421 1 = 0) (h421_0 : I 421 0 = 0) (h421_4 : I 421 4 = 1)  : SpE S m_X12_crux 17 [.ref 420] (hp I L w1 w2 t) (some (.int (-1))) (hp (cpP (up2 (up2 (up2 (up2 (up2 (up2 (up2 (cpP (up2 I 420 0 0) 424 421 335) 429 0 (-1)) 429 1 (-1)) 429 2 (-1)) 429 3 (-1)) 429 4 (-1)) 429 5 (-1)) 421 4 2) 421 424 335) L w1 w2 t) := by
  refine SpE_of ok_X12_crux rfl rfl ?_
  show AW S m_X12_crux 17 _ _ 0 0 0 [some (.ref 420), none, none, none, none] [] (hp I L w1 w2 t)
  refine a_l0 rfl rfl rfl ?_
  refine a_s rfl rfl ?_
  refine a_puti rfl pfX12_3_12 rfl ?_
  refine a_s rfl rfl ?_
  refine a_s1 rfl rfl rfl rfl rfl rfl ?_
  refine a_l0 rfl rfl rfl ?_
  refine a_eV1 rfl lX12_411 mo_X12_allOver (au_X12_allOver_11 h421_1 h421_0 h421_4 ) rfl rfl rfl ⟨12, _, rfl, rfl, rfl⟩ rfl ?_
  refine a_s2 rfl rfl rfl rfl rfl rfl ?_
  refine a_s rfl rfl ?_
  refine a_s3 rfl rfl rfl rfl rfl rfl ?_
  refine a_l3 rfl rfl rfl ?_
  refine a_l0 rfl rfl rfl ?_
  refine a_eV1 rfl lX12_74 mo_X12_duties (au_X12_duties_4 h421_1 ) rfl rfl rfl ⟨12, _, rfl, rfl, rfl⟩ rfl ?_
  refine a_ic_ge rfl (fun c19 => ?_) (fun c => absurd (by decide) c)
  refine a_l1 rfl rfl rfl ?_
  exact a_iret rfl rfl ⟨rfl, rfl⟩
theorem rr_X12_crux {S : aS} : RRet S m_X12_crux 17 [.ref 420] (some (-1)) 0 := RRet.of (fun I => cpP (up2 (up2 (up2 (up2 (up2 (up2 (up2 (cpP (up2 I 420 0 0) 424 421 335) 429 0 (-1)) 429 1 (-1)) 429 2 (-1)) 429 3 (-1)) 429 4 (-1)) 429 5 (-1)) 421 4 2) 421 424 335) (fun I L w1 w2 t hz => au_X12_crux_17 (hz.at rfl I0_421_1) (hz.at rfl I0_421_0) (hz.at rfl I0_421_4) ) (fun I hz => rfl)
theorem op_45 {xs : Nat → Int32} : OpOk xs 2352 := by
  show AW (S1 6 xs) m_L_main 1050 QM XM 599770 7281900 2352 [some (.ref 199), some (.ref 200), some (.ref 420), some (.ref 431), some (.int 0), none, none] [] (hp I0 L0 0 0 432)
  refine a_l1 rfl rfl rfl ?_
  refine a_callV rfl lL_296 mo_X11_crux (cr_X11_crux) rfl rfl rfl ⟨11, _, rfl, rfl, rfl⟩ rfl (fun v h' hv => ?_) (fun E h' hx => False.elim hx)
  obtain ⟨rfl, I, w1, w2, t, rfl, hz⟩ := hv
  refine a_l2 rfl rfl rfl ?_
  refine a_callV rfl lL_299 mo_X12_crux (rr_X12_crux I _ w1 w2 t hz) rfl rfl rfl ⟨12, _, rfl, rfl, rfl⟩ rfl (fun v h' hv => ?_) (fun E h' hx => False.elim hx)
  obtain ⟨rfl, I', L', w1', w2', t', rfl, hk, hL⟩ := hv
  refine a_ic_eq rfl (fun c2360 => ?_) (fun c => absurd (rfl) c)
  exact fin_ok
theorem I0_201_1 : I0 201 1 = 0 := by decide +kernel
theorem au_X7_append_18 {S : aS} {I : Nat → Nat → Int32} {L : Nat → Nat → Int64} {w1 w2 t : Nat} {x1 : Int32} (h201_1 : I 201 1 = 0)  : SpE S m_X7_append 12 [.ref 201, .int x1] (hp I L w1 w2 t) none (hp (up2 (up2 (up2 (up2 (up2 (up2 (up2 (up2 I 202 0 ((x1 >>> (24 &&& 31)).toInt8.toInt32)) 201 1 1) 202 1 ((x1 >>> (16 &&& 31)).toInt8.toInt32)) 201 1 2) 202 2 ((x1 >>> (8 &&& 31)).toInt8.toInt32)) 201 1 3) 202 3 ((x1 >>> (0 &&& 31)).toInt8.toInt32)) 201 1 4) L w1 w2 t) := by
  refine SpE_of ok_X7_append rfl rfl ?_
  show AW S m_X7_append 12 _ _ 0 0 0 [some (.ref 201), some (.int x1), none] [] (hp I L w1 w2 t)
  refine a_s rfl rfl ?_
  refine a_s2 rfl rfl rfl rfl rfl rfl ?_
  refine a_l2 rfl rfl rfl ?_
  refine a_if_lt rfl (fun c => absurd c (by decide)) (fun c4 => ?_)
  refine a_l0 rfl rfl rfl ?_
  refine a_getiv (v := 0) rfl gfX7_15_7 rfl h201_1 ?_
  refine a_if_lt rfl (fun c => absurd c (by decide)) (fun c11 => ?_)
  refine a_l0 rfl rfl rfl ?_
  refine a_getiv (v := 0) rfl gfX7_15_7 rfl h201_1 ?_
  refine a_l0 rfl rfl rfl ?_
  refine a_getq rfl gfX7_9_7 rfl rfl ?_
  refine a_len (x := 400) rfl rfl rfl (by decide) ?_
  refine a_ic_ge rfl (fun c => absurd c (by decide)) (fun c23 => ?_)
  refine a_l0 rfl rfl rfl ?_
  refine a_getq rfl gfX7_9_7 rfl rfl ?_
  refine a_l0 rfl rfl rfl ?_
  refine a_getiv (v := 0) rfl gfX7_15_7 rfl h201_1 ?_
  refine a_l1 rfl rfl rfl ?_
  refine a_l2 rfl rfl rfl ?_
  refine a_s rfl rfl ?_
  refine a_s rfl rfl ?_
  refine a_bastv (k := 0) rfl (n := 400) rfl ⟨by decide, by decide⟩ (i2b_id _) (by decide) ?_
  refine a_l0 rfl rfl rfl ?_
  refine a_s rfl rfl ?_
  refine a_getiv (v := 0) rfl gfX7_15_7 rfl h201_1 ?_
  refine a_s rfl rfl ?_
  refine a_s rfl rfl ?_
  refine a_top (y := 1) (by decide) ?_
  refine a_puti rfl pfX7_15_7 rfl ?_
  refine a_iv2 (y := 16) rfl rfl rfl (by decide) ?_
  refine a_goto rfl ?_
  refine a_l2 rfl rfl rfl ?_
  refine a_if_lt rfl (fun c => absurd c (by decide)) (fun c4 => ?_)
  refine a_l0 rfl rfl rfl ?_
  refine a_getiv (v := 1) rfl gfX7_15_7 rfl rfl ?_
  refine a_if_lt rfl (fun c => absurd c (by decide)) (fun c11 => ?_)
  refine a_l0 rfl rfl rfl ?_
  refine a_getiv (v := 1) rfl gfX7_15_7 rfl rfl ?_
  refine a_l0 rfl rfl rfl ?_
  refine a_getq rfl gfX7_9_7 rfl rfl ?_
  refine a_len (x := 400) rfl rfl rfl (by decide) ?_
  refine a_ic_ge rfl (fun c => absurd c (by decide)) (fun c23 => ?_)
  refine a_l0 rfl rfl rfl ?_
  refine a_getq rfl gfX7_9_7 rfl rfl ?_
  refine a_l0 rfl rfl rfl ?_
  refine a_getiv (v := 1) rfl gfX7_15_7 rfl rfl ?_
  refine a_l1 rfl rfl rfl ?_
  refine a_l2 rfl rfl rfl ?_
  refine a_s rfl rfl ?_
  refine a_s rfl rfl ?_
  refine a_bastv (k := 1) rfl (n := 400) rfl ⟨by decide, by decide⟩ (i2b_id _) (by decide) ?_
  refine a_l0 rfl rfl rfl ?_
  refine a_s rfl rfl ?_
  refine a_getiv (v := 1) rfl gfX7_15_7 rfl rfl ?_
  refine a_s rfl rfl ?_
  refine a_s rfl rfl ?_
  refine a_top (y := 2) (by decide) ?_
  refine a_puti rfl pfX7_15_7 rfl ?_
  refine a_iv2 (y := 8) rfl rfl rfl (by decide) ?_
  refine a_goto rfl ?_
  refine a_l2 rfl rfl rfl ?_
  refine a_if_lt rfl (fun c => absurd c (by decide)) (fun c4 => ?_)
  refine a_l0 rfl rfl rfl ?_
  refine a_getiv (v := 2) rfl gfX7_15_7 rfl rfl ?_
  refine a_if_lt rfl (fun c => absurd c (by decide)) (fun c11 => ?_)
  refine a_l0 rfl rfl rfl ?_
  refine a_getiv (v := 2) rfl gfX7_15_7 rfl rfl ?_
  refine a_l0 rfl rfl rfl ?_
  refine a_getq rfl gfX7_9_7 rfl rfl ?_
  refine a_len (x := 400) rfl rfl rfl (by decide) ?_
  refine a_ic_ge rfl (fun c => absurd c (by decide)) (fun c23 => ?_)
  refine a_l0 rfl rfl rfl ?_
  refine a_getq rfl gfX7_9_7 rfl rfl ?_
  refine a_l0 rfl rfl rfl ?_
  refine a_getiv (v := 2) rfl gfX7_15_7 rfl rfl ?_
  refine a_l1 rfl rfl rfl ?_
  refine a_l2 rfl rfl rfl ?_
  refine a_s rfl rfl ?_
  refine a_s rfl rfl ?_
  refine a_bastv (k := 2) rfl (n := 400) rfl ⟨by decide, by decide⟩ (i2b_id _) (by decide) ?_
  refine a_l0 rfl rfl rfl ?_
  refine a_s rfl rfl ?_
  refine a_getiv (v := 2) rfl gfX7_15_7 rfl rfl ?_
  refine a_s rfl rfl ?_
  refine a_s rfl rfl ?_
  refine a_top (y := 3) (by decide) ?_
  refine a_puti rfl pfX7_15_7 rfl ?_
  refine a_iv2 (y := 0) rfl rfl rfl (by decide) ?_
  refine a_goto rfl ?_
  refine a_l2 rfl rfl rfl ?_
  refine a_if_lt rfl (fun c => absurd c (by decide)) (fun c4 => ?_)
  refine a_l0 rfl rfl rfl ?_
  refine a_getiv (v := 3) rfl gfX7_15_7 rfl rfl ?_
  refine a_if_lt rfl (fun c => absurd c (by decide)) (fun c11 => ?_)
  refine a_l0 rfl rfl rfl ?_
  refine a_getiv (v := 3) rfl gfX7_15_7 rfl rfl ?_
  refine a_l0 rfl rfl rfl ?_
  refine a_getq rfl gfX7_9_7 rfl rfl ?_
  refine a_len (x := 400) rfl rfl rfl (by decide) ?_
  refine a_ic_ge rfl (fun c => absurd c (by decide)) (fun c23 => ?_)
  refine a_l0 rfl rfl rfl ?_
  refine a_getq rfl gfX7_9_7 rfl rfl ?_
  refine a_l0 rfl rfl rfl ?_
  refine a_getiv (v := 3) rfl gfX7_15_7 rfl rfl ?_
  refine a_l1 rfl rfl rfl ?_
  refine a_l2 rfl rfl rfl ?_
  refine a_s rfl rfl ?_
  refine a_s rfl rfl ?_
  refine a_bastv (k := 3) rfl (n := 400) rfl ⟨by decide, by decide⟩ (i2b_id _) (by decide) ?_
  refine a_l0 rfl rfl rfl ?_
  refine a_s rfl rfl ?_
  refine a_getiv (v := 3) rfl gfX7_15_7 rfl rfl ?_
  refine a_s rfl rfl ?_
  refine a_s rfl rfl ?_
  refine a_top (y := 4) (by decide) ?_
  refine a_puti rfl pfX7_15_7 rfl ?_
  refine a_iv2 (y := (-8)) rfl rfl rfl (by decide) ?_
  refine a_goto rfl ?_
  refine a_l2 rfl rfl rfl ?_
  refine a_if_lt rfl (fun c4 => ?_) (fun c => absurd (by decide) c)
  exact a_vret rfl rfl ⟨rfl, rfl⟩
theorem au_X7_append_19 {S : aS} {I : Nat → Nat → Int32} {L : Nat → Nat → Int64} {w1 w2 t : Nat} {x1 : Int32} (h201_1 : I 201 1 = 4)  : SpE S m_X7_append 12 [.ref 201, .int x1] (hp I L w1 w2 t) none (hp (up2 (up2 (up2 (up2 (up2 (up2 (up2 (up2 I 202 4 ((x1 >>> (24 &&& 31)).toInt8.toInt32)) 201 1 5) 202 5 ((x1 >>> (16 &&& 31)).toInt8.toInt32)) 201 1 6) 202 6 ((x1 >>> (8 &&& 31)).toInt8.toInt32)) 201 1 7) 202 7 ((x1 >>> (0 &&& 31)).toInt8.toInt32)) 201 1 8) L w1 w2 t) := by
  refine SpE_of ok_X7_append rfl rfl ?_
  show AW S m_X7_append 12 _ _ 0 0 0 [some (.ref 201), some (.int x1), none] [] (hp I L w1 w2 t)
  refine a_s rfl rfl ?_
  refine a_s2 rfl rfl rfl rfl rfl rfl ?_
  refine a_l2 rfl rfl rfl ?_
  refine a_if_lt rfl (fun c => absurd c (by decide)) (fun c4 => ?_)
  refine a_l0 rfl rfl rfl ?_
  refine a_getiv (v := 4) rfl gfX7_15_7 rfl h201_1 ?_
  refine a_if_lt rfl (fun c => absurd c (by decide)) (fun c11 => ?_)
  refine a_l0 rfl rfl rfl ?_
  refine a_getiv (v := 4) rfl gfX7_15_7 rfl h201_1 ?_
  refine a_l0 rfl rfl rfl ?_
  refine a_getq rfl gfX7_9_7 rfl rfl ?_
  refine a_len (x := 400) rfl rfl rfl (by decide) ?_
  refine a_ic_ge rfl (fun c => absurd c (by decide)) (fun c23 => ?_)
  refine a_l0 rfl rfl rfl ?_
  refine a_getq rfl gfX7_9_7 rfl rfl ?_
  refine a_l0 rfl rfl rfl ?_
  refine a_getiv (v := 4) rfl gfX7_15_7 rfl h201_1 ?_
  refine a_l1 rfl rfl rfl ?_
  refine a_l2 rfl rfl rfl ?_
  refine a_s rfl rfl ?_
  refine a_s rfl rfl ?_
  refine a_bastv (k := 4) rfl (n := 400) rfl ⟨by decide, by decide⟩ (i2b_id _) (by decide) ?_
  refine a_l0 rfl rfl rfl ?_
  refine a_s rfl rfl ?_
  refine a_getiv (v := 4) rfl gfX7_15_7 rfl h201_1 ?_
  refine a_s rfl rfl ?_
  refine a_s rfl rfl ?_
  refine a_top (y := 5) (by decide) ?_
  refine a_puti rfl pfX7_15_7 rfl ?_
  refine a_iv2 (y := 16) rfl rfl rfl (by decide) ?_
  refine a_goto rfl ?_
  refine a_l2 rfl rfl rfl ?_
  refine a_if_lt rfl (fun c => absurd c (by decide)) (fun c4 => ?_)
  refine a_l0 rfl rfl rfl ?_
  refine a_getiv (v := 5) rfl gfX7_15_7 rfl rfl ?_
  refine a_if_lt rfl (fun c => absurd c (by decide)) (fun c11 => ?_)
  refine a_l0 rfl rfl rfl ?_
  refine a_getiv (v := 5) rfl gfX7_15_7 rfl rfl ?_
  refine a_l0 rfl rfl rfl ?_
  refine a_getq rfl gfX7_9_7 rfl rfl ?_
  refine a_len (x := 400) rfl rfl rfl (by decide) ?_
  refine a_ic_ge rfl (fun c => absurd c (by decide)) (fun c23 => ?_)
  refine a_l0 rfl rfl rfl ?_
  refine a_getq rfl gfX7_9_7 rfl rfl ?_
  refine a_l0 rfl rfl rfl ?_
  refine a_getiv (v := 5) rfl gfX7_15_7 rfl rfl ?_
  refine a_l1 rfl rfl rfl ?_
  refine a_l2 rfl rfl rfl ?_
  refine a_s rfl rfl ?_
  refine a_s rfl rfl ?_
  refine a_bastv (k := 5) rfl (n := 400) rfl ⟨by decide, by decide⟩ (i2b_id _) (by decide) ?_
  refine a_l0 rfl rfl rfl ?_
  refine a_s rfl rfl ?_
  refine a_getiv (v := 5) rfl gfX7_15_7 rfl rfl ?_
  refine a_s rfl rfl ?_
  refine a_s rfl rfl ?_
  refine a_top (y := 6) (by decide) ?_
  refine a_puti rfl pfX7_15_7 rfl ?_
  refine a_iv2 (y := 8) rfl rfl rfl (by decide) ?_
  refine a_goto rfl ?_
  refine a_l2 rfl rfl rfl ?_
  refine a_if_lt rfl (fun c => absurd c (by decide)) (fun c4 => ?_)
  refine a_l0 rfl rfl rfl ?_
  refine a_getiv (v := 6) rfl gfX7_15_7 rfl rfl ?_
  refine a_if_lt rfl (fun c => absurd c (by decide)) (fun c11 => ?_)
  refine a_l0 rfl rfl rfl ?_
  refine a_getiv (v := 6) rfl gfX7_15_7 rfl rfl ?_
  refine a_l0 rfl rfl rfl ?_
  refine a_getq rfl gfX7_9_7 rfl rfl ?_
  refine a_len (x := 400) rfl rfl rfl (by decide) ?_
  refine a_ic_ge rfl (fun c => absurd c (by decide)) (fun c23 => ?_)
  refine a_l0 rfl rfl rfl ?_
  refine a_getq rfl gfX7_9_7 rfl rfl ?_
  refine a_l0 rfl rfl rfl ?_
  refine a_getiv (v := 6) rfl gfX7_15_7 rfl rfl ?_
  refine a_l1 rfl rfl rfl ?_
  refine a_l2 rfl rfl rfl ?_
  refine a_s rfl rfl ?_
  refine a_s rfl rfl ?_
  refine a_bastv (k := 6) rfl (n := 400) rfl ⟨by decide, by decide⟩ (i2b_id _) (by decide) ?_
  refine a_l0 rfl rfl rfl ?_
  refine a_s rfl rfl ?_
  refine a_getiv (v := 6) rfl gfX7_15_7 rfl rfl ?_
  refine a_s rfl rfl ?_
  refine a_s rfl rfl ?_
  refine a_top (y := 7) (by decide) ?_
  refine a_puti rfl pfX7_15_7 rfl ?_
  refine a_iv2 (y := 0) rfl rfl rfl (by decide) ?_
  refine a_goto rfl ?_
  refine a_l2 rfl rfl rfl ?_
  refine a_if_lt rfl (fun c => absurd c (by decide)) (fun c4 => ?_)
  refine a_l0 rfl rfl rfl ?_
  refine a_getiv (v := 7) rfl gfX7_15_7 rfl rfl ?_
  refine a_if_lt rfl (fun c => absurd c (by decide)) (fun c11 => ?_)
  refine a_l0 rfl rfl rfl ?_
  refine a_getiv (v := 7) rfl gfX7_15_7 rfl rfl ?_
  refine a_l0 rfl rfl rfl ?_
  refine a_getq rfl gfX7_9_7 rfl rfl ?_
  refine a_len (x := 400) rfl rfl rfl (by decide) ?_
  refine a_ic_ge rfl (fun c => absurd c (by decide)) (fun c23 => ?_)
  refine a_l0 rfl rfl rfl ?_
  refine a_getq rfl gfX7_9_7 rfl rfl ?_
  refine a_l0 rfl rfl rfl ?_
  refine a_getiv (v := 7) rfl gfX7_15_7 rfl rfl ?_
  refine a_l1 rfl rfl rfl ?_
  refine a_l2 rfl rfl rfl ?_
  refine a_s rfl rfl ?_
  refine a_s rfl rfl ?_
  refine a_bastv (k := 7) rfl (n := 400) rfl ⟨by decide, by decide⟩ (i2b_id _) (by decide) ?_
  refine a_l0 rfl rfl rfl ?_
  refine a_s rfl rfl ?_
  refine a_getiv (v := 7) rfl gfX7_15_7 rfl rfl ?_
  refine a_s rfl rfl ?_
  refine a_s rfl rfl ?_
  refine a_top (y := 8) (by decide) ?_
  refine a_puti rfl pfX7_15_7 rfl ?_
  refine a_iv2 (y := (-8)) rfl rfl rfl (by decide) ?_
  refine a_goto rfl ?_
  refine a_l2 rfl rfl rfl ?_
  refine a_if_lt rfl (fun c4 => ?_) (fun c => absurd (by decide) c)
  exact a_vret rfl rfl ⟨rfl, rfl⟩
theorem au_X7_append_20 {S : aS} {I : Nat → Nat → Int32} {L : Nat → Nat → Int64} {w1 w2 t : Nat} {x1 : Int32} (h201_1 : I 201 1 = 8)  : SpE S m_X7_append 12 [.ref 201, .int x1] (hp I L w1 w2 t) none (hp (up2 (up2 (up2 (up2 (up2 (up2 (up2 (up2 I 202 8 ((x1 >>> (24 &&& 31)).toInt8.toInt32)) 201 1 9) 202 9 ((x1 >>> (16 &&& 31)).toInt8.toInt32)) 201 1 10) 202 10 ((x1 >>> (8 &&& 31)).toInt8.toInt32)) 201 1 11) 202 11 ((x1 >>> (0 &&& 31)).toInt8.toInt32)) 201 1 12) L w1 w2 t) := by
  refine SpE_of ok_X7_append rfl rfl ?_
  show AW S m_X7_append 12 _ _ 0 0 0 [some (.ref 201), some (.int x1), none] [] (hp I L w1 w2 t)
  refine a_s rfl rfl ?_
  refine a_s2 rfl rfl rfl rfl rfl rfl ?_
  refine a_l2 rfl rfl rfl ?_
  refine a_if_lt rfl (fun c => absurd c (by decide)) (fun c4 => ?_)
  refine a_l0 rfl rfl rfl ?_
  refine a_getiv (v := 8) rfl gfX7_15_7 rfl h201_1 ?_
  refine a_if_lt rfl (fun c => absurd c (by decide)) (fun c11 => ?_)
  refine a_l0 rfl rfl rfl ?_
  refine a_getiv (v := 8) rfl gfX7_15_7 rfl h201_1 ?_
  refine a_l0 rfl rfl rfl ?_
  refine a_getq rfl gfX7_9_7 rfl rfl ?_
  refine a_len (x := 400) rfl rfl rfl (by decide) ?_
  refine a_ic_ge rfl (fun c => absurd c (by decide)) (fun c23 => ?_)
  refine a_l0 rfl rfl rfl ?_
  refine a_getq rfl gfX7_9_7 rfl rfl ?_
  refine a_l0 rfl rfl rfl ?_
  refine a_getiv (v := 8) rfl gfX7_15_7 rfl h201_1 ?_
  refine a_l1 rfl rfl rfl ?_
  refine a_l2 rfl rfl rfl ?_
  refine a_s rfl rfl ?_
  refine a_s rfl rfl ?_
  refine a_bastv (k := 8) rfl (n := 400) rfl ⟨by decide, by decide⟩ (i2b_id _) (by decide) ?_
  refine a_l0 rfl rfl rfl ?_
  refine a_s rfl rfl ?_
  refine a_getiv (v := 8) rfl gfX7_15_7 rfl h201_1 ?_
  refine a_s rfl rfl ?_
  refine a_s rfl rfl ?_
  refine a_top (y := 9) (by decide) ?_
  refine a_puti rfl pfX7_15_7 rfl ?_
  refine a_iv2 (y := 16) rfl rfl rfl (by decide) ?_
  refine a_goto rfl ?_
  refine a_l2 rfl rfl rfl ?_
  refine a_if_lt rfl (fun c => absurd c (by decide)) (fun c4 => ?_)
  refine a_l0 rfl rfl rfl ?_
  refine a_getiv (v := 9) rfl gfX7_15_7 rfl rfl ?_
  refine a_if_lt rfl (fun c => absurd c (by decide)) (fun c11 => ?_)
  refine a_l0 rfl rfl rfl ?_
  refine a_getiv (v := 9) rfl gfX7_15_7 rfl rfl ?_
  refine a_l0 rfl rfl rfl ?_
  refine a_getq rfl gfX7_9_7 rfl rfl ?_
  refine a_len (x := 400) rfl rfl rfl (by decide) ?_
  refine a_ic_ge rfl (fun c => absurd c (by decide)) (fun c23 => ?_)
  refine a_l0 rfl rfl rfl ?_
  refine a_getq rfl gfX7_9_7 rfl rfl ?_
  refine a_l0 rfl rfl rfl ?_
  refine a_getiv (v := 9) rfl gfX7_15_7 rfl rfl ?_
  refine a_l1 rfl rfl rfl ?_
  refine a_l2 rfl rfl rfl ?_
  refine a_s rfl rfl ?_
  refine a_s rfl rfl ?_
  refine a_bastv (k := 9) rfl (n := 400) rfl ⟨by decide, by decide⟩ (i2b_id _) (by decide) ?_
  refine a_l0 rfl rfl rfl ?_
  refine a_s rfl rfl ?_
  refine a_getiv (v := 9) rfl gfX7_15_7 rfl rfl ?_
  refine a_s rfl rfl ?_
  refine a_s rfl rfl ?_
  refine a_top (y := 10) (by decide) ?_
  refine a_puti rfl pfX7_15_7 rfl ?_
  refine a_iv2 (y := 8) rfl rfl rfl (by decide) ?_
  refine a_goto rfl ?_
  refine a_l2 rfl rfl rfl ?_
  refine a_if_lt rfl (fun c => absurd c (by decide)) (fun c4 => ?_)
  refine a_l0 rfl rfl rfl ?_
  refine a_getiv (v := 10) rfl gfX7_15_7 rfl rfl ?_
  refine a_if_lt rfl (fun c => absurd c (by decide)) (fun c11 => ?_)
  refine a_l0 rfl rfl rfl ?_
  refine a_getiv (v := 10) rfl gfX7_15_7 rfl rfl ?_
  refine a_l0 rfl rfl rfl ?_
  refine a_getq rfl gfX7_9_7 rfl rfl ?_
  refine a_len (x := 400) rfl rfl rfl (by decide) ?_
  refine a_ic_ge rfl (fun c => absurd c (by decide)) (fun c23 => ?_)
  refine a_l0 rfl rfl rfl ?_
  refine a_getq rfl gfX7_9_7 rfl rfl ?_
  refine a_l0 rfl rfl rfl ?_
  refine a_getiv (v := 10) rfl gfX7_15_7 rfl rfl ?_
  refine a_l1 rfl rfl rfl ?_
  refine a_l2 rfl rfl rfl ?_
  refine a_s rfl rfl ?_
  refine a_s rfl rfl ?_
  refine a_bastv (k := 10) rfl (n := 400) rfl ⟨by decide, by decide⟩ (i2b_id _) (by decide) ?_
  refine a_l0 rfl rfl rfl ?_
  refine a_s rfl rfl ?_
  refine a_getiv (v := 10) rfl gfX7_15_7 rfl rfl ?_
  refine a_s rfl rfl ?_
  refine a_s rfl rfl ?_
  refine a_top (y := 11) (by decide) ?_
  refine a_puti rfl pfX7_15_7 rfl ?_
  refine a_iv2 (y := 0) rfl rfl rfl (by decide) ?_
  refine a_goto rfl ?_
  refine a_l2 rfl rfl rfl ?_
  refine a_if_lt rfl (fun c => absurd c (by decide)) (fun c4 => ?_)
  refine a_l0 rfl rfl rfl ?_
  refine a_getiv (v := 11) rfl gfX7_15_7 rfl rfl ?_
  refine a_if_lt rfl (fun c => absurd c (by decide)) (fun c11 => ?_)
  refine a_l0 rfl rfl rfl ?_
  refine a_getiv (v := 11) rfl gfX7_15_7 rfl rfl ?_
  refine a_l0 rfl rfl rfl ?_
  refine a_getq rfl gfX7_9_7 rfl rfl ?_
  refine a_len (x := 400) rfl rfl rfl (by decide) ?_
  refine a_ic_ge rfl (fun c => absurd c (by decide)) (fun c23 => ?_)
  refine a_l0 rfl rfl rfl ?_
  refine a_getq rfl gfX7_9_7 rfl rfl ?_
  refine a_l0 rfl rfl rfl ?_
  refine a_getiv (v := 11) rfl gfX7_15_7 rfl rfl ?_
  refine a_l1 rfl rfl rfl ?_
  refine a_l2 rfl rfl rfl ?_
  refine a_s rfl rfl ?_
  refine a_s rfl rfl ?_
  refine a_bastv (k := 11) rfl (n := 400) rfl ⟨by decide, by decide⟩ (i2b_id _) (by decide) ?_
  refine a_l0 rfl rfl rfl ?_
  refine a_s rfl rfl ?_
  refine a_getiv (v := 11) rfl gfX7_15_7 rfl rfl ?_
  refine a_s rfl rfl ?_
  refine a_s rfl rfl ?_
  refine a_top (y := 12) (by decide) ?_
  refine a_puti rfl pfX7_15_7 rfl ?_
  refine a_iv2 (y := (-8)) rfl rfl rfl (by decide) ?_
  refine a_goto rfl ?_
  refine a_l2 rfl rfl rfl ?_
  refine a_if_lt rfl (fun c4 => ?_) (fun c => absurd (by decide) c)
  exact a_vret rfl rfl ⟨rfl, rfl⟩
theorem au_X7_append_21 {S : aS} {I : Nat → Nat → Int32} {L : Nat → Nat → Int64} {w1 w2 t : Nat} {x1 : Int32} (h201_1 : I 201 1 = 12)  : SpE S m_X7_append 12 [.ref 201, .int x1] (hp I L w1 w2 t) none (hp (up2 (up2 (up2 (up2 (up2 (up2 (up2 (up2 I 202 12 ((x1 >>> (24 &&& 31)).toInt8.toInt32)) 201 1 13) 202 13 ((x1 >>> (16 &&& 31)).toInt8.toInt32)) 201 1 14) 202 14 ((x1 >>> (8 &&& 31)).toInt8.toInt32)) 201 1 15) 202 15 ((x1 >>> (0 &&& 31)).toInt8.toInt32)) 201 1 16) L w1 w2 t) := by
  refine SpE_of ok_X7_append rfl rfl ?_
  show AW S m_X7_append 12 _ _ 0 0 0 [some (.ref 201), some (.int x1), none] [] (hp I L w1 w2 t)
  refine a_s rfl rfl ?_
  refine a_s2 rfl rfl rfl rfl rfl rfl ?_
  refine a_l2 rfl rfl rfl ?_
  refine a_if_lt rfl (fun c => absurd c (by decide)) (fun c4 => ?_)
  refine a_l0 rfl rfl rfl ?_
  refine a_getiv (v := 12) rfl gfX7_15_7 rfl h201_1 ?_
  refine a_if_lt rfl (fun c => absurd c (by decide)) (fun c11 => ?_)
  refine a_l0 rfl rfl rfl ?_
  refine a_getiv (v := 12) rfl gfX7_15_7 rfl h201_1 ?_
  refine a_l0 rfl rfl rfl ?_
  refine a_getq rfl gfX7_9_7 rfl rfl ?_
  refine a_len (x := 400) rfl rfl rfl (by decide) ?_
  refine a_ic_ge rfl (fun c => absurd c (by decide)) (fun c23 => ?_)
  refine a_l0 rfl rfl rfl ?_
  refine a_getq rfl gfX7_9_7 rfl rfl ?_
  refine a_l0 rfl rfl rfl ?_
  refine a_getiv (v := 12) rfl gfX7_15_7 rfl h201_1 ?_
  refine a_l1 rfl rfl rfl ?_
  refine a_l2 rfl rfl rfl ?_
  refine a_s rfl rfl ?_
  refine a_s rfl rfl ?_
  refine a_bastv (k := 12) rfl (n := 400) rfl ⟨by decide, by decide⟩ (i2b_id _) (by decide) ?_
  refine a_l0 rfl rfl rfl ?_
  refine a_s rfl rfl ?_
  refine a_getiv (v := 12) rfl gfX7_15_7 rfl h201_1 ?_
  refine a_s rfl rfl ?_
  refine a_s rfl rfl ?_
  refine a_top (y := 13) (by decide) ?_
  refine a_puti rfl pfX7_15_7 rfl ?_
  refine a_iv2 (y := 16) rfl rfl rfl (by decide) ?_
  refine a_goto rfl ?_
  refine a_l2 rfl rfl rfl ?_
  refine a_if_lt rfl (fun c => absurd c (by decide)) (fun c4 => ?_)
  refine a_l0 rfl rfl rfl ?_
  refine a_getiv (v := 13) rfl gfX7_15_7 rfl rfl ?_
  refine a_if_lt rfl (fun c => absurd c (by decide)) (fun c11 => ?_)
  refine a_l0 rfl rfl rfl ?_
  refine a_getiv (v := 13) rfl gfX7_15_7 rfl rfl ?_
  refine a_l0 rfl rfl rfl ?_
  refine a_getq rfl gfX7_9_7 rfl rfl ?_
  refine a_len (x := 400) rfl rfl rfl (by decide) ?_
  refine a_ic_ge rfl (fun c => absurd c (by decide)) (fun c23 => ?_)
  refine a_l0 rfl rfl rfl ?_
  refine a_getq rfl gfX7_9_7 rfl rfl ?_
  refine a_l0 rfl rfl rfl ?_
  refine a_getiv (v := 13) rfl gfX7_15_7 rfl rfl ?_
  refine a_l1 rfl rfl rfl ?_
  refine a_l2 rfl rfl rfl ?_
  refine a_s rfl rfl ?_
  refine a_s rfl rfl ?_
  refine a_bastv (k := 13) rfl (n := 400) rfl ⟨by decide, by decide⟩ (i2b_id _) (by decide) ?_
  refine a_l0 rfl rfl rfl ?_
  refine a_s rfl rfl ?_
  refine a_getiv (v := 13) rfl gfX7_15_7 rfl rfl ?_
  refine a_s rfl rfl ?_
  refine a_s rfl rfl ?_
  refine a_top (y := 14) (by decide) ?_
  refine a_puti rfl pfX7_15_7 rfl ?_
  refine a_iv2 (y := 8) rfl rfl rfl (by decide) ?_
  refine a_goto rfl ?_
  refine a_l2 rfl rfl rfl ?_
  refine a_if_lt rfl (fun c => absurd c (by decide)) (fun c4 => ?_)
  refine a_l0 rfl rfl rfl ?_
  refine a_getiv (v := 14) rfl gfX7_15_7 rfl rfl ?_
  refine a_if_lt rfl (fun c => absurd c (by decide)) (fun c11 => ?_)
  refine a_l0 rfl rfl rfl ?_
  refine a_getiv (v := 14) rfl gfX7_15_7 rfl rfl ?_
  refine a_l0 rfl rfl rfl ?_
  refine a_getq rfl gfX7_9_7 rfl rfl ?_
  refine a_len (x := 400) rfl rfl rfl (by decide) ?_
  refine a_ic_ge rfl (fun c => absurd c (by decide)) (fun c23 => ?_)
  refine a_l0 rfl rfl rfl ?_
  refine a_getq rfl gfX7_9_7 rfl rfl ?_
  refine a_l0 rfl rfl rfl ?_
  refine a_getiv (v := 14) rfl gfX7_15_7 rfl rfl ?_
  refine a_l1 rfl rfl rfl ?_
  refine a_l2 rfl rfl rfl ?_
  refine a_s rfl rfl ?_
  refine a_s rfl rfl ?_
  refine a_bastv (k := 14) rfl (n := 400) rfl ⟨by decide, by decide⟩ (i2b_id _) (by decide) ?_
  refine a_l0 rfl rfl rfl ?_
  refine a_s rfl rfl ?_
  refine a_getiv (v := 14) rfl gfX7_15_7 rfl rfl ?_
  refine a_s rfl rfl ?_
  refine a_s rfl rfl ?_
  refine a_top (y := 15) (by decide) ?_
  refine a_puti rfl pfX7_15_7 rfl ?_
  refine a_iv2 (y := 0) rfl rfl rfl (by decide) ?_
  refine a_goto rfl ?_
  refine a_l2 rfl rfl rfl ?_
  refine a_if_lt rfl (fun c => absurd c (by decide)) (fun c4 => ?_)
  refine a_l0 rfl rfl rfl ?_
  refine a_getiv (v := 15) rfl gfX7_15_7 rfl rfl ?_
  refine a_if_lt rfl (fun c => absurd c (by decide)) (fun c11 => ?_)
  refine a_l0 rfl rfl rfl ?_
  refine a_getiv (v := 15) rfl gfX7_15_7 rfl rfl ?_
  refine a_l0 rfl rfl rfl ?_
  refine a_getq rfl gfX7_9_7 rfl rfl ?_
  refine a_len (x := 400) rfl rfl rfl (by decide) ?_
  refine a_ic_ge rfl (fun c => absurd c (by decide)) (fun c23 => ?_)
  refine a_l0 rfl rfl rfl ?_
  refine a_getq rfl gfX7_9_7 rfl rfl ?_
  refine a_l0 rfl rfl rfl ?_
  refine a_getiv (v := 15) rfl gfX7_15_7 rfl rfl ?_
  refine a_l1 rfl rfl rfl ?_
  refine a_l2 rfl rfl rfl ?_
  refine a_s rfl rfl ?_
  refine a_s rfl rfl ?_
  refine a_bastv (k := 15) rfl (n := 400) rfl ⟨by decide, by decide⟩ (i2b_id _) (by decide) ?_
  refine a_l0 rfl rfl rfl ?_
  refine a_s rfl rfl ?_
  refine a_getiv (v := 15) rfl gfX7_15_7 rfl rfl ?_
  refine a_s rfl rfl ?_
  refine a_s rfl rfl ?_
  refine a_top (y := 16) (by decide) ?_
  refine a_puti rfl pfX7_15_7 rfl ?_
  refine a_iv2 (y := (-8)) rfl rfl rfl (by decide) ?_
  refine a_goto rfl ?_
  refine a_l2 rfl rfl rfl ?_
  refine a_if_lt rfl (fun c4 => ?_) (fun c => absurd (by decide) c)
  exact a_vret rfl rfl ⟨rfl, rfl⟩
theorem au_X7_append_22 {S : aS} {I : Nat → Nat → Int32} {L : Nat → Nat → Int64} {w1 w2 t : Nat} {x1 : Int32} (h201_1 : I 201 1 = 16)  : SpE S m_X7_append 12 [.ref 201, .int x1] (hp I L w1 w2 t) none (hp (up2 (up2 (up2 (up2 (up2 (up2 (up2 (up2 I 202 16 ((x1 >>> (24 &&& 31)).toInt8.toInt32)) 201 1 17) 202 17 ((x1 >>> (16 &&& 31)).toInt8.toInt32)) 201 1 18) 202 18 ((x1 >>> (8 &&& 31)).toInt8.toInt32)) 201 1 19) 202 19 ((x1 >>> (0 &&& 31)).toInt8.toInt32)) 201 1 20) L w1 w2 t) := by
  refine SpE_of ok_X7_append rfl rfl ?_
  show AW S m_X7_append 12 _ _ 0 0 0 [some (.ref 201), some (.int x1), none] [] (hp I L w1 w2 t)
  refine a_s rfl rfl ?_
  refine a_s2 rfl rfl rfl rfl rfl rfl ?_
  refine a_l2 rfl rfl rfl ?_
  refine a_if_lt rfl (fun c => absurd c (by decide)) (fun c4 => ?_)
  refine a_l0 rfl rfl rfl ?_
  refine a_getiv (v := 16) rfl gfX7_15_7 rfl h201_1 ?_
  refine a_if_lt rfl (fun c => absurd c (by decide)) (fun c11 => ?_)
  refine a_l0 rfl rfl rfl ?_
  refine a_getiv (v := 16) rfl gfX7_15_7 rfl h201_1 ?_
  refine a_l0 rfl rfl rfl ?_
  refine a_getq rfl gfX7_9_7 rfl rfl ?_
  refine a_len (x := 400) rfl rfl rfl (by decide) ?_
  refine a_ic_ge rfl (fun c => absurd c (by decide)) (fun c23 => ?_)
  refine a_l0 rfl rfl rfl ?_
  refine a_getq rfl gfX7_9_7 rfl rfl ?_
  refine a_l0 rfl rfl rfl ?_
  refine a_getiv (v := 16) rfl gfX7_15_7 rfl h201_1 ?_
  refine a_l1 rfl rfl rfl ?_
  refine a_l2 rfl rfl rfl ?_
  refine a_s rfl rfl ?_
  refine a_s rfl rfl ?_
  refine a_bastv (k := 16) rfl (n := 400) rfl ⟨by decide, by decide⟩ (i2b_id _) (by decide) ?_
  refine a_l0 rfl rfl rfl ?_
  refine a_s rfl rfl ?_
  refine a_getiv (v := 16) rfl gfX7_15_7 rfl h201_1 ?_
  refine a_s rfl rfl ?_
  refine a_s rfl rfl ?_
  refine a_top (y := 17) (by decide) ?_
  refine a_puti rfl pfX7_15_7 rfl ?_
  refine a_iv2 (y := 16) rfl rfl rfl (by decide) ?_
  refine a_goto rfl ?_
  refine a_l2 rfl rfl rfl ?_
  refine a_if_lt rfl (fun c => absurd c (by decide)) (fun c4 => ?_)
  refine a_l0 rfl rfl rfl ?_
  refine a_getiv (v := 17) rfl gfX7_15_7 rfl rfl ?_
  refine a_if_lt rfl (fun c => absurd c (by decide)) (fun c11 => ?_)
  refine a_l0 rfl rfl rfl ?_
  refine a_getiv (v := 17) rfl gfX7_15_7 rfl rfl ?_
  refine a_l0 rfl rfl rfl ?_
  refine a_getq rfl gfX7_9_7 rfl rfl ?_
  refine a_len (x := 400) rfl rfl rfl (by decide) ?_
  refine a_ic_ge rfl (fun c => absurd c (by decide)) (fun c23 => ?_)
  refine a_l0 rfl rfl rfl ?_
  refine a_getq rfl gfX7_9_7 rfl rfl ?_
  refine a_l0 rfl rfl rfl ?_
  refine a_getiv (v := 17) rfl gfX7_15_7 rfl rfl ?_
  refine a_l1 rfl rfl rfl ?_
  refine a_l2 rfl rfl rfl ?_
  refine a_s rfl rfl ?_
  refine a_s rfl rfl ?_
  refine a_bastv (k := 17) rfl (n := 400) rfl ⟨by decide, by decide⟩ (i2b_id _) (by decide) ?_
  refine a_l0 rfl rfl rfl ?_
  refine a_s rfl rfl ?_
  refine a_getiv (v := 17) rfl gfX7_15_7 rfl rfl ?_
  refine a_s rfl rfl ?_
  refine a_s rfl rfl ?_
  refine a_top (y := 18) (by decide) ?_
  refine a_puti rfl pfX7_15_7 rfl ?_
  refine a_iv2 (y := 8) rfl rfl rfl (by decide) ?_
  refine a_goto rfl ?_
  refine a_l2 rfl rfl rfl ?_
  refine a_if_lt rfl (fun c => absurd c (by decide)) (fun c4 => ?_)
  refine a_l0 rfl rfl rfl ?_
  refine a_getiv (v := 18) rfl gfX7_15_7 rfl rfl ?_
  refine a_if_lt rfl (fun c => absurd c (by decide)) (fun c11 => ?_)
  refine a_l0 rfl rfl rfl ?_
  refine a_getiv (v := 18) rfl gfX7_15_7 rfl rfl ?_
  refine a_l0 rfl rfl rfl ?_
  refine a_getq rfl gfX7_9_7 rfl rfl ?_
  refine a_len (x := 400) rfl rfl rfl (by decide) ?_
  refine a_ic_ge rfl (fun c => absurd c (by decide)) (fun c23 => ?_)
  refine a_l0 rfl rfl rfl ?_
  refine a_getq rfl gfX7_9_7 rfl rfl ?_
  refine a_l0 rfl rfl rfl ?_
  refine a_getiv (v := 18) rfl gfX7_15_7 rfl rfl ?_
  refine a_l1 rfl rfl rfl ?_
  refine a_l2 rfl rfl rfl ?_
  refine a_s rfl rfl ?_
  refine a_s rfl rfl ?_
  refine a_bastv (k := 18) rfl (n := 400) rfl ⟨by decide, by decide⟩ (i2b_id _) (by decide) ?_
  refine a_l0 rfl rfl rfl ?_
  refine a_s rfl rfl ?_
  refine a_getiv (v := 18) rfl gfX7_15_7 rfl rfl ?_
  refine a_s rfl rfl ?_
  refine a_s rfl rfl ?_
  refine a_top (y := 19) (by decide) ?_
  refine a_puti rfl pfX7_15_7 rfl ?_
  refine a_iv2 (y := 0) rfl rfl rfl (by decide) ?_
  refine a_goto rfl ?_
  refine a_l2 rfl rfl rfl ?_
  refine a_if_lt rfl (fun c => absurd c (by decide)) (fun c4 => ?_)
  refine a_l0 rfl rfl rfl ?_
  refine a_getiv (v := 19) rfl gfX7_15_7 rfl rfl ?_
  refine a_if_lt rfl (fun c => absurd c (by decide)) (fun c11 => ?_)
  refine a_l0 rfl rfl rfl ?_
  refine a_getiv (v := 19) rfl gfX7_15_7 rfl rfl ?_
  refine a_l0 rfl rfl rfl ?_
  refine a_getq rfl gfX7_9_7 rfl rfl ?_
  refine a_len (x := 400) rfl rfl rfl (by decide) ?_
  refine a_ic_ge rfl (fun c => absurd c (by decide)) (fun c23 => ?_)
  refine a_l0 rfl rfl rfl ?_
  refine a_getq rfl gfX7_9_7 rfl rfl ?_
  refine a_l0 rfl rfl rfl ?_
  refine a_getiv (v := 19) rfl gfX7_15_7 rfl rfl ?_
  refine a_l1 rfl rfl rfl ?_
  refine a_l2 rfl rfl rfl ?_
  refine a_s rfl rfl ?_
  refine a_s rfl rfl ?_
  refine a_bastv (k := 19) rfl (n := 400) rfl ⟨by decide, by decide⟩ (i2b_id _) (by decide) ?_
  refine a_l0 rfl rfl rfl ?_
  refine a_s rfl rfl ?_
  refine a_getiv (v := 19) rfl gfX7_15_7 rfl rfl ?_
  refine a_s rfl rfl ?_
  refine a_s rfl rfl ?_
  refine a_top (y := 20) (by decide) ?_
  refine a_puti rfl pfX7_15_7 rfl ?_
  refine a_iv2 (y := (-8)) rfl rfl rfl (by decide) ?_
  refine a_goto rfl ?_
  refine a_l2 rfl rfl rfl ?_
  refine a_if_lt rfl (fun c4 => ?_) (fun c => absurd (by decide) c)
  exact a_vret rfl rfl ⟨rfl, rfl⟩
theorem au_X11_feed_23 {S : aS} {I : Nat → Nat → Int32} {L : Nat → Nat → Int64} {w1 w2 t : Nat} {x1 x2 x3 x4 x5 : Int32} (h201_1 : I 201 1 = 0)  : SpE S m_X11_feed 13 [.ref 200, .int x1, .int x2, .int x3, .int x4, .int x5] (hp I L w1 w2 t) (some (.int 20)) (hp (up2 (up2 (up2 (up2 (up2 (up2 (up2 (up2 (up2 (up2 (up2 (up2 (up2 (up2 (up2 (up2 (up2 (up2 (up2 (up2 (up2 (up2 (up2 (up2 (up2 (up2 (up2 (up2 (up2 (up2 (up2 (up2 (up2 (up2 (up2 (up2 (up2 (up2 (up2 (up2 I 202 0 ((x1 >>> (24 &&& 31)).toInt8.toInt32)) 201 1 1) 202 1 ((x1 >>> (16 &&& 31)).toInt8.toInt32)) 201 1 2) 202 2 ((x1 >>> (8 &&& 31)).toInt8.toInt32)) 201 1 3) 202 3 ((x1 >>> (0 &&& 31)).toInt8.toInt32)) 201 1 4) 202 4 ((x2 >>> (24 &&& 31)).toInt8.toInt32)) 201 1 5) 202 5 ((x2 >>> (16 &&& 31)).toInt8.toInt32)) 201 1 6) 202 6 ((x2 >>> (8 &&& 31)).toInt8.toInt32)) 201 1 7) 202 7 ((x2 >>> (0 &&& 31)).toInt8.toInt32)) 201 1 8) 202 8 ((x3 >>> (24 &&& 31)).toInt8.toInt32)) 201 1 9) 202 9 ((x3 >>> (16 &&& 31)).toInt8.toInt32)) 201 1 10) 202 10 ((x3 >>> (8 &&& 31)).toInt8.toInt32)) 201 1 11) 202 11 ((x3 >>> (0 &&& 31)).toInt8.toInt32)) 201 1 12) 202 12 ((x4 >>> (24 &&& 31)).toInt8.toInt32)) 201 1 13) 202 13 ((x4 >>> (16 &&& 31)).toInt8.toInt32)) 201 1 14) 202 14 ((x4 >>> (8 &&& 31)).toInt8.toInt32)) 201 1 15) 202 15 ((x4 >>> (0 &&& 31)).toInt8.toInt32)) 201 1 16) 202 16 ((x5 >>> (24 &&& 31)).toInt8.toInt32)) 201 1 17) 202 17 ((x5 >>> (16 &&& 31)).toInt8.toInt32)) 201 1 18) 202 18 ((x5 >>> (8 &&& 31)).toInt8.toInt32)) 201 1 19) 202 19 ((x5 >>> (0 &&& 31)).toInt8.toInt32)) 201 1 20) L w1 w2 t) := by
  refine SpE_of ok_X11_feed rfl rfl ?_
  show AW S m_X11_feed 13 _ _ 0 0 0 [some (.ref 200), some (.int x1), some (.int x2), some (.int x3), some (.int x4), some (.int x5)] [] (hp I L w1 w2 t)
  refine a_l0 rfl rfl rfl ?_
  refine a_getq rfl gfX11_10_11 rfl rfl ?_
  refine a_getiv (v := 0) rfl gfX11_68_7 rfl h201_1 ?_
  refine a_s rfl rfl ?_
  refine a_s rfl rfl ?_
  refine a_top (y := 20) (by decide) ?_
  refine a_s rfl rfl ?_
  refine a_ic_le rfl (fun c13 => ?_) (fun c => absurd (by decide) c)
  refine a_l0 rfl rfl rfl ?_
  refine a_getq rfl gfX11_10_11 rfl rfl ?_
  refine a_l1 rfl rfl rfl ?_
  refine a_eV0 rfl lX11_71 mo_X7_append (au_X7_append_18 h201_1 ) rfl rfl rfl ⟨7, _, rfl, rfl, rfl⟩ rfl ?_
  refine a_l0 rfl rfl rfl ?_
  refine a_getq rfl gfX11_10_11 rfl rfl ?_
  refine a_l2 rfl rfl rfl ?_
  refine a_eV0 rfl lX11_71 mo_X7_append (au_X7_append_19 rfl ) rfl rfl rfl ⟨7, _, rfl, rfl, rfl⟩ rfl ?_
  refine a_l0 rfl rfl rfl ?_
  refine a_getq rfl gfX11_10_11 rfl rfl ?_
  refine a_l3 rfl rfl rfl ?_
  refine a_eV0 rfl lX11_71 mo_X7_append (au_X7_append_20 rfl ) rfl rfl rfl ⟨7, _, rfl, rfl, rfl⟩ rfl ?_
  refine a_l0 rfl rfl rfl ?_
  refine a_getq rfl gfX11_10_11 rfl rfl ?_
  refine a_l4 rfl rfl rfl ?_
  refine a_eV0 rfl lX11_71 mo_X7_append (au_X7_append_21 rfl ) rfl rfl rfl ⟨7, _, rfl, rfl, rfl⟩ rfl ?_
  refine a_l0 rfl rfl rfl ?_
  refine a_getq rfl gfX11_10_11 rfl rfl ?_
  refine a_l5 rfl rfl rfl ?_
  refine a_eV0 rfl lX11_71 mo_X7_append (au_X7_append_22 rfl ) rfl rfl rfl ⟨7, _, rfl, rfl, rfl⟩ rfl ?_
  refine a_l0 rfl rfl rfl ?_
  refine a_getq rfl gfX11_10_11 rfl rfl ?_
  refine a_getiv (v := 20) rfl gfX11_68_7 rfl rfl ?_
  exact a_iret rfl rfl ⟨rfl, rfl⟩
theorem cr_X11_feed {S : aS} {x0 x1 x2 x3 x4 : Int32} : CRet S m_X11_feed 13 [.ref 200, .int x0, .int x1, .int x2, .int x3, .int x4] (some 20) := CRet.of (au_X11_feed_23 I0_201_1 ) (fun q hq => by simp (disch := omega) only [up2_row, upr_row, cpS_out, cpL_out])
theorem I0_420_9 : I0 420 9 = 0 := by decide +kernel
theorem au_X12_feed_24 {S : aS} {I : Nat → Nat → Int32} {L : Nat → Nat → Int64} {w1 w2 t : Nat} {x1 x2 x3 x4 x5 : Int32} (h420_9 : I 420 9 = 0)  : SpE S m_X12_feed 12 [.ref 420, .int x1, .int x2, .int x3, .int x4, .int x5] (hp I L w1 w2 t) (some (.int 20)) (hp (up2 (up2 (up2 (up2 (up2 (up2 (up2 (up2 (up2 (up2 (up2 (up2 (up2 (up2 (up2 (up2 (up2 (up2 (up2 (up2 (up2 (up2 (up2 (up2 (up2 (up2 (up2 I 420 0 0) 427 0 x1) 427 1 x2) 427 2 x3) 427 3 x4) 427 4 x5) 426 0 ((x1 >>> (24 &&& 31)).toInt8.toInt32)) 426 1 ((x1 >>> (16 &&& 31)).toInt8.toInt32)) 426 2 ((x1 >>> (8 &&& 31)).toInt8.toInt32)) 426 3 ((x1 >>> (0 &&& 31)).toInt8.toInt32)) 426 4 ((x2 >>> (24 &&& 31)).toInt8.toInt32)) 426 5 ((x2 >>> (16 &&& 31)).toInt8.toInt32)) 426 6 ((x2 >>> (8 &&& 31)).toInt8.toInt32)) 426 7 ((x2 >>> (0 &&& 31)).toInt8.toInt32)) 426 8 ((x3 >>> (24 &&& 31)).toInt8.toInt32)) 426 9 ((x3 >>> (16 &&& 31)).toInt8.toInt32)) 426 10 ((x3 >>> (8 &&& 31)).toInt8.toInt32)) 426 11 ((x3 >>> (0 &&& 31)).toInt8.toInt32)) 426 12 ((x4 >>> (24 &&& 31)).toInt8.toInt32)) 426 13 ((x4 >>> (16 &&& 31)).toInt8.toInt32)) 426 14 ((x4 >>> (8 &&& 31)).toInt8.toInt32)) 426 15 ((x4 >>> (0 &&& 31)).toInt8.toInt32)) 426 16 ((x5 >>> (24 &&& 31)).toInt8.toInt32)) 426 17 ((x5 >>> (16 &&& 31)).toInt8.toInt32)) 426 18 ((x5 >>> (8 &&& 31)).toInt8.toInt32)) 426 19 ((x5 >>> (0 &&& 31)).toInt8.toInt32)) 420 9 20) L w1 w2 t) := by
  refine SpE_of ok_X12_feed rfl rfl ?_
  show AW S m_X12_feed 12 _ _ 0 0 0 [some (.ref 420), some (.int x1), some (.int x2), some (.int x3), some (.int x4), some (.int x5), none] [] (hp I L w1 w2 t)
  refine a_l0 rfl rfl rfl ?_
  refine a_s rfl rfl ?_
  refine a_puti rfl pfX12_3_12 rfl ?_
  refine a_l0 rfl rfl rfl ?_
  refine a_getiv (v := 0) rfl gfX12_78_12 rfl h420_9 ?_
  refine a_s rfl rfl ?_
  refine a_s rfl rfl ?_
  refine a_top (y := 20) (by decide) ?_
  refine a_s rfl rfl ?_
  refine a_ic_le rfl (fun c15 => ?_) (fun c => absurd (by decide) c)
  refine a_l0 rfl rfl rfl ?_
  refine a_getq rfl gfX12_36_12 rfl rfl ?_
  refine a_s rfl rfl ?_
  refine a_l1 rfl rfl rfl ?_
  refine a_iastv (k := 0) rfl (n := 5) rfl ⟨by decide, by decide⟩ (by decide) ?_
  refine a_l0 rfl rfl rfl ?_
  refine a_getq rfl gfX12_36_12 rfl rfl ?_
  refine a_s rfl rfl ?_
  refine a_l2 rfl rfl rfl ?_
  refine a_iastv (k := 1) rfl (n := 5) rfl ⟨by decide, by decide⟩ (by decide) ?_
  refine a_l0 rfl rfl rfl ?_
  refine a_getq rfl gfX12_36_12 rfl rfl ?_
  refine a_s rfl rfl ?_
  refine a_l3 rfl rfl rfl ?_
  refine a_iastv (k := 2) rfl (n := 5) rfl ⟨by decide, by decide⟩ (by decide) ?_
  refine a_l0 rfl rfl rfl ?_
  refine a_getq rfl gfX12_36_12 rfl rfl ?_
  refine a_s rfl rfl ?_
  refine a_l4 rfl rfl rfl ?_
  refine a_iastv (k := 3) rfl (n := 5) rfl ⟨by decide, by decide⟩ (by decide) ?_
  refine a_l0 rfl rfl rfl ?_
  refine a_getq rfl gfX12_36_12 rfl rfl ?_
  refine a_s rfl rfl ?_
  refine a_l5 rfl rfl rfl ?_
  refine a_iastv (k := 4) rfl (n := 5) rfl ⟨by decide, by decide⟩ (by decide) ?_
  refine a_s rfl rfl ?_
  refine a_s6 rfl rfl rfl rfl rfl rfl ?_
  refine a_l6 rfl rfl rfl ?_
  refine a_s rfl rfl ?_
  refine a_ic_ge rfl (fun c => absurd c (by decide)) (fun c64 => ?_)
  refine a_l0 rfl rfl rfl ?_
  refine a_getq rfl gfX12_29_12 rfl rfl ?_
  refine a_l0 rfl rfl rfl ?_
  refine a_getiv (v := 0) rfl gfX12_78_12 rfl h420_9 ?_
  refine a_l6 rfl rfl rfl ?_
  refine a_s rfl rfl ?_
  refine a_top (y := 0) (by decide) ?_
  refine a_l0 rfl rfl rfl ?_
  refine a_getq rfl gfX12_36_12 rfl rfl ?_
  refine a_l6 rfl rfl rfl ?_
  refine a_s rfl rfl ?_
  refine a_idiv rfl (by decide) ?_
  refine a_top (y := 0) (by decide) ?_
  refine a_ialdv (v := x1) rfl (n := 5) rfl ⟨by decide, by decide⟩ rfl ?_
  refine a_s rfl rfl ?_
  refine a_s rfl rfl ?_
  refine a_l6 rfl rfl rfl ?_
  refine a_s rfl rfl ?_
  refine a_irem rfl (by decide) ?_
  refine a_top (y := 0) (by decide) ?_
  refine a_s rfl rfl ?_
  refine a_top (y := 0) (by decide) ?_
  refine a_s rfl rfl ?_
  refine a_top (y := 24) (by decide) ?_
  refine a_s rfl rfl ?_
  refine a_s rfl rfl ?_
  refine a_bastv (k := 0) rfl (n := 400) rfl ⟨by decide, by decide⟩ (i2b_id _) (by decide) ?_
  refine a_iv6 (y := 1) rfl rfl rfl (by decide) ?_
  refine a_goto rfl ?_
  refine a_l6 rfl rfl rfl ?_
  refine a_s rfl rfl ?_
  refine a_ic_ge rfl (fun c => absurd c (by decide)) (fun c64 => ?_)
  refine a_l0 rfl rfl rfl ?_
  refine a_getq rfl gfX12_29_12 rfl rfl ?_
  refine a_l0 rfl rfl rfl ?_
  refine a_getiv (v := 0) rfl gfX12_78_12 rfl h420_9 ?_
  refine a_l6 rfl rfl rfl ?_
  refine a_s rfl rfl ?_
  refine a_top (y := 1) (by decide) ?_
  refine a_l0 rfl rfl rfl ?_
  refine a_getq rfl gfX12_36_12 rfl rfl ?_
  refine a_l6 rfl rfl rfl ?_
  refine a_s rfl rfl ?_
  refine a_idiv rfl (by decide) ?_
  refine a_top (y := 0) (by decide) ?_
  refine a_ialdv (v := x1) rfl (n := 5) rfl ⟨by decide, by decide⟩ rfl ?_
  refine a_s rfl rfl ?_
  refine a_s rfl rfl ?_
  refine a_l6 rfl rfl rfl ?_
  refine a_s rfl rfl ?_
  refine a_irem rfl (by decide) ?_
  refine a_top (y := 1) (by decide) ?_
  refine a_s rfl rfl ?_
  refine a_top (y := 8) (by decide) ?_
  refine a_s rfl rfl ?_
  refine a_top (y := 16) (by decide) ?_
  refine a_s rfl rfl ?_
  refine a_s rfl rfl ?_
  refine a_bastv (k := 1) rfl (n := 400) rfl ⟨by decide, by decide⟩ (i2b_id _) (by decide) ?_
  refine a_iv6 (y := 2) rfl rfl rfl (by decide) ?_
  refine a_goto rfl ?_
  refine a_l6 rfl rfl rfl ?_
  refine a_s rfl rfl ?_
  refine a_ic_ge rfl (fun c => absurd c (by decide)) (fun c64 => ?_)
  refine a_l0 rfl rfl rfl ?_
  refine a_getq rfl gfX12_29_12 rfl rfl ?_
  refine a_l0 rfl rfl rfl ?_
  refine a_getiv (v := 0) rfl gfX12_78_12 rfl h420_9 ?_
  refine a_l6 rfl rfl rfl ?_
  refine a_s rfl rfl ?_
  refine a_top (y := 2) (by decide) ?_
  refine a_l0 rfl rfl rfl ?_
  refine a_getq rfl gfX12_36_12 rfl rfl ?_
  refine a_l6 rfl rfl rfl ?_
  refine a_s rfl rfl ?_
  refine a_idiv rfl (by decide) ?_
  refine a_top (y := 0) (by decide) ?_
  refine a_ialdv (v := x1) rfl (n := 5) rfl ⟨by decide, by decide⟩ rfl ?_
  refine a_s rfl rfl ?_
  refine a_s rfl rfl ?_
  refine a_l6 rfl rfl rfl ?_
  refine a_s rfl rfl ?_
  refine a_irem rfl (by decide) ?_
  refine a_top (y := 2) (by decide) ?_
  refine a_s rfl rfl ?_
  refine a_top (y := 16) (by decide) ?_
  refine a_s rfl rfl ?_
  refine a_top (y := 8) (by decide) ?_
  refine a_s rfl rfl ?_
  refine a_s rfl rfl ?_
  refine a_bastv (k := 2) rfl (n := 400) rfl ⟨by decide, by decide⟩ (i2b_id _) (by decide) ?_
  refine a_iv6 (y := 3) rfl rfl rfl (by decide) ?_
  refine a_goto rfl ?_
  refine a_l6 rfl rfl rfl ?_
  refine a_s rfl rfl ?_
  refine a_ic_ge rfl (fun c => absurd c (by decide)) (fun c64 => ?_)
  refine a_l0 rfl rfl rfl ?_
  refine a_getq rfl gfX12_29_12 rfl rfl ?_
  refine a_l0 rfl rfl rfl ?_
  refine a_getiv (v := 0) rfl gfX12_78_12 rfl h420_9 ?_
  refine a_l6 rfl rfl rfl ?_
  refine a_s rfl rfl ?_
  refine a_top (y := 3) (by decide) ?_
  refine a_l0 rfl rfl rfl ?_
  refine a_getq rfl gfX12_36_12 rfl rfl ?_
  refine a_l6 rfl rfl rfl ?_
  refine a_s rfl rfl ?_
  refine a_idiv rfl (by decide) ?_
  refine a_top (y := 0) (by decide) ?_
  refine a_ialdv (v := x1) rfl (n := 5) rfl ⟨by decide, by decide⟩ rfl ?_
  refine a_s rfl rfl ?_
  refine a_s rfl rfl ?_
  refine a_l6 rfl rfl rfl ?_
  refine a_s rfl rfl ?_
  refine a_irem rfl (by decide) ?_
  refine a_top (y := 3) (by decide) ?_
  refine a_s rfl rfl ?_
  refine a_top (y := 24) (by decide) ?_
  refine a_s rfl rfl ?_
  refine a_top (y := 0) (by decide) ?_
  refine a_s rfl rfl ?_
  refine a_s rfl rfl ?_
  refine a_bastv (k := 3) rfl (n := 400) rfl ⟨by decide, by decide⟩ (i2b_id _) (by decide) ?_
  refine a_iv6 (y := 4) rfl rfl rfl (by decide) ?_
  refine a_goto rfl ?_
  refine a_l6 rfl rfl rfl ?_
  refine a_s rfl rfl ?_
  refine a_ic_ge rfl (fun c => absurd c (by decide)) (fun c64 => ?_)
  refine a_l0 rfl rfl rfl ?_
  refine a_getq rfl gfX12_29_12 rfl rfl ?_
  refine a_l0 rfl rfl rfl ?_
  refine a_getiv (v := 0) rfl gfX12_78_12 rfl h420_9 ?_
  refine a_l6 rfl rfl rfl ?_
  refine a_s rfl rfl ?_
  refine a_top (y := 4) (by decide) ?_
  refine a_l0 rfl rfl rfl ?_
  refine a_getq rfl gfX12_36_12 rfl rfl ?_
  refine a_l6 rfl rfl rfl ?_
  refine a_s rfl rfl ?_
  refine a_idiv rfl (by decide) ?_
  refine a_top (y := 1) (by decide) ?_
  refine a_ialdv (v := x2) rfl (n := 5) rfl ⟨by decide, by decide⟩ rfl ?_
  refine a_s rfl rfl ?_
  refine a_s rfl rfl ?_
  refine a_l6 rfl rfl rfl ?_
  refine a_s rfl rfl ?_
  refine a_irem rfl (by decide) ?_
  refine a_top (y := 0) (by decide) ?_
  refine a_s rfl rfl ?_
  refine a_top (y := 0) (by decide) ?_
  refine a_s rfl rfl ?_
  refine a_top (y := 24) (by decide) ?_
  refine a_s rfl rfl ?_
  refine a_s rfl rfl ?_
  refine a_bastv (k := 4) rfl (n := 400) rfl ⟨by decide, by decide⟩ (i2b_id _) (by decide) ?_
  refine a_iv6 (y := 5) rfl rfl rfl (by decide) ?_
  refine a_goto rfl ?_
  refine a_l6 rfl rfl rfl ?_
  refine a_s rfl rfl ?_
  refine a_ic_ge rfl (fun c => absurd c (by decide)) (fun c64 => ?_)
  refine a_l0 rfl rfl rfl ?_
  refine a_getq rfl gfX12_29_12 rfl rfl ?_
  refine a_l0 rfl rfl rfl ?_
  refine a_getiv (v := 0) rfl gfX12_78_12 rfl h420_9 ?_
  refine a_l6 rfl rfl rfl ?_
  refine a_s rfl rfl ?_
  refine a_top (y := 5) (by decide) ?_
  refine a_l0 rfl rfl rfl ?_
  refine a_getq rfl gfX12_36_12 rfl rfl ?_
  refine a_l6 rfl rfl rfl ?_
  refine a_s rfl rfl ?_
  refine a_idiv rfl (by decide) ?_
  refine a_top (y := 1) (by decide) ?_
  refine a_ialdv (v := x2) rfl (n := 5) rfl ⟨by decide, by decide⟩ rfl ?_
  refine a_s rfl rfl ?_
  refine a_s rfl rfl ?_
  refine a_l6 rfl rfl rfl ?_
  refine a_s rfl rfl ?_
  refine a_irem rfl (by decide) ?_
  refine a_top (y := 1) (by decide) ?_
  refine a_s rfl rfl ?_
  refine a_top (y := 8) (by decide) ?_
  refine a_s rfl rfl ?_
  refine a_top (y := 16) (by decide) ?_
  refine a_s rfl rfl ?_
  refine a_s rfl rfl ?_
  refine a_bastv (k := 5) rfl (n := 400) rfl ⟨by decide, by decide⟩ (i2b_id _) (by decide) ?_
  refine a_iv6 (y := 6) rfl rfl rfl (by decide) ?_
  refine a_goto rfl ?_
  refine a_l6 rfl rfl rfl ?_
  refine a_s rfl rfl ?_
  refine a_ic_ge rfl (fun c => absurd c (by decide)) (fun c64 => ?_)
  refine a_l0 rfl rfl rfl ?_
  refine a_getq rfl gfX12_29_12 rfl rfl ?_
  refine a_l0 rfl rfl rfl ?_
  refine a_getiv (v := 0) rfl gfX12_78_12 rfl h420_9 ?_
  refine a_l6 rfl rfl rfl ?_
  refine a_s rfl rfl ?_
  refine a_top (y := 6) (by decide) ?_
  refine a_l0 rfl rfl rfl ?_
  refine a_getq rfl gfX12_36_12 rfl rfl ?_
  refine a_l6 rfl rfl rfl ?_
  refine a_s rfl rfl ?_
  refine a_idiv rfl (by decide) ?_
  refine a_top (y := 1) (by decide) ?_
  refine a_ialdv (v := x2) rfl (n := 5) rfl ⟨by decide, by decide⟩ rfl ?_
  refine a_s rfl rfl ?_
  refine a_s rfl rfl ?_
  refine a_l6 rfl rfl rfl ?_
  refine a_s rfl rfl ?_
  refine a_irem rfl (by decide) ?_
  refine a_top (y := 2) (by decide) ?_
  refine a_s rfl rfl ?_
  refine a_top (y := 16) (by decide) ?_
  refine a_s rfl rfl ?_
  refine a_top (y := 8) (by decide) ?_
  refine a_s rfl rfl ?_
  refine a_s rfl rfl ?_
  refine a_bastv (k := 6) rfl (n := 400) rfl ⟨by decide, by decide⟩ (i2b_id _) (by decide) ?_
  refine a_iv6 (y := 7) rfl rfl rfl (by decide) ?_
  refine a_goto rfl ?_
  refine a_l6 rfl rfl rfl ?_
  refine a_s rfl rfl ?_
  refine a_ic_ge rfl (fun c => absurd c (by decide)) (fun c64 => ?_)
  refine a_l0 rfl rfl rfl ?_
  refine a_getq rfl gfX12_29_12 rfl rfl ?_
  refine a_l0 rfl rfl rfl ?_
  refine a_getiv (v := 0) rfl gfX12_78_12 rfl h420_9 ?_
  refine a_l6 rfl rfl rfl ?_
  refine a_s rfl rfl ?_
  refine a_top (y := 7) (by decide) ?_
  refine a_l0 rfl rfl rfl ?_
  refine a_getq rfl gfX12_36_12 rfl rfl ?_
  refine a_l6 rfl rfl rfl ?_
  refine a_s rfl rfl ?_
  refine a_idiv rfl (by decide) ?_
  refine a_top (y := 1) (by decide) ?_
  refine a_ialdv (v := x2) rfl (n := 5) rfl ⟨by decide, by decide⟩ rfl ?_
  refine a_s rfl rfl ?_
  refine a_s rfl rfl ?_
  refine a_l6 rfl rfl rfl ?_
  refine a_s rfl rfl ?_
  refine a_irem rfl (by decide) ?_
  refine a_top (y := 3) (by decide) ?_
  refine a_s rfl rfl ?_
  refine a_top (y := 24) (by decide) ?_
  refine a_s rfl rfl ?_
  refine a_top (y := 0) (by decide) ?_
  refine a_s rfl rfl ?_
  refine a_s rfl rfl ?_
  refine a_bastv (k := 7) rfl (n := 400) rfl ⟨by decide, by decide⟩ (i2b_id _) (by decide) ?_
  refine a_iv6 (y := 8) rfl rfl rfl (by decide) ?_
  refine a_goto rfl ?_
  refine a_l6 rfl rfl rfl ?_
  refine a_s rfl rfl ?_
  refine a_ic_ge rfl (fun c => absurd c (by decide)) (fun c64 => ?_)
  refine a_l0 rfl rfl rfl ?_
  refine a_getq rfl gfX12_29_12 rfl rfl ?_
  refine a_l0 rfl rfl rfl ?_
  refine a_getiv (v := 0) rfl gfX12_78_12 rfl h420_9 ?_
  refine a_l6 rfl rfl rfl ?_
  refine a_s rfl rfl ?_
  refine a_top (y := 8) (by decide) ?_
  refine a_l0 rfl rfl rfl ?_
  refine a_getq rfl gfX12_36_12 rfl rfl ?_
  refine a_l6 rfl rfl rfl ?_
  refine a_s rfl rfl ?_
  refine a_idiv rfl (by decide) ?_
  refine a_top (y := 2) (by decide) ?_
  refine a_ialdv (v := x3) rfl (n := 5) rfl ⟨by decide, by decide⟩ rfl ?_
  refine a_s rfl rfl ?_
  refine a_s rfl rfl ?_
  refine a_l6 rfl rfl rfl ?_
  refine a_s rfl rfl ?_
  refine a_irem rfl (by decide) ?_
  refine a_top (y := 0) (by decide) ?_
  refine a_s rfl rfl ?_
  refine a_top (y := 0) (by decide) ?_
  refine a_s rfl rfl ?_
  refine a_top (y := 24) (by decide) ?_
  refine a_s rfl rfl ?_
  refine a_s rfl rfl ?_
  refine a_bastv (k := 8) rfl (n := 400) rfl ⟨by decide, by decide⟩ (i2b_id _) (by decide) ?_
  refine a_iv6 (y := 9) rfl rfl rfl (by decide) ?_
  refine a_goto rfl ?_
  refine a_l6 rfl rfl rfl ?_
  refine a_s rfl rfl ?_
  refine a_ic_ge rfl (fun c => absurd c (by decide)) (fun c64 => ?_)
  refine a_l0 rfl rfl rfl ?_
  refine a_getq rfl gfX12_29_12 rfl rfl ?_
  refine a_l0 rfl rfl rfl ?_
  refine a_getiv (v := 0) rfl gfX12_78_12 rfl h420_9 ?_
  refine a_l6 rfl rfl rfl ?_
  refine a_s rfl rfl ?_
  refine a_top (y := 9) (by decide) ?_
  refine a_l0 rfl rfl rfl ?_
  refine a_getq rfl gfX12_36_12 rfl rfl ?_
  refine a_l6 rfl rfl rfl ?_
  refine a_s rfl rfl ?_
  refine a_idiv rfl (by decide) ?_
  refine a_top (y := 2) (by decide) ?_
  refine a_ialdv (v := x3) rfl (n := 5) rfl ⟨by decide, by decide⟩ rfl ?_
  refine a_s rfl rfl ?_
  refine a_s rfl rfl ?_
  refine a_l6 rfl rfl rfl ?_
  refine a_s rfl rfl ?_
  refine a_irem rfl (by decide) ?_
  refine a_top (y := 1) (by decide) ?_
  refine a_s rfl rfl ?_
  refine a_top (y := 8) (by decide) ?_
  refine a_s rfl rfl ?_
  refine a_top (y := 16) (by decide) ?_
  refine a_s rfl rfl ?_
  refine a_s rfl rfl ?_
  refine a_bastv (k := 9) rfl (n := 400) rfl ⟨by decide, by decide⟩ (i2b_id _) (by decide) ?_
  refine a_iv6 (y := 10) rfl rfl rfl (by decide) ?_
  refine a_goto rfl ?_
  refine a_l6 rfl rfl rfl ?_
  refine a_s rfl rfl ?_
  refine a_ic_ge rfl (fun c => absurd c (by decide)) (fun c64 => ?_)
  refine a_l0 rfl rfl rfl ?_
  refine a_getq rfl gfX12_29_12 rfl rfl ?_
  refine a_l0 rfl rfl rfl ?_
  refine a_getiv (v := 0) rfl gfX12_78_12 rfl h420_9 ?_
  refine a_l6 rfl rfl rfl ?_
  refine a_s rfl rfl ?_
  refine a_top (y := 10) (by decide) ?_
  refine a_l0 rfl rfl rfl ?_
  refine a_getq rfl gfX12_36_12 rfl rfl ?_
  refine a_l6 rfl rfl rfl ?_
  refine a_s rfl rfl ?_
  refine a_idiv rfl (by decide) ?_
  refine a_top (y := 2) (by decide) ?_
  refine a_ialdv (v := x3) rfl (n := 5) rfl ⟨by decide, by decide⟩ rfl ?_
  refine a_s rfl rfl ?_
  refine a_s rfl rfl ?_
  refine a_l6 rfl rfl rfl ?_
  refine a_s rfl rfl ?_
  refine a_irem rfl (by decide) ?_
  refine a_top (y := 2) (by decide) ?_
  refine a_s rfl rfl ?_
  refine a_top (y := 16) (by decide) ?_
  refine a_s rfl rfl ?_
  refine a_top (y := 8) (by decide) ?_
  refine a_s rfl rfl ?_
  refine a_s rfl rfl ?_
  refine a_bastv (k := 10) rfl (n := 400) rfl ⟨by decide, by decide⟩ (i2b_id _) (by decide) ?_
  refine a_iv6 (y := 11) rfl rfl rfl (by decide) ?_
  refine a_goto rfl ?_
  refine a_l6 rfl rfl rfl ?_
  refine a_s rfl rfl ?_
  refine a_ic_ge rfl (fun c => absurd c (by decide)) (fun c64 => ?_)
  refine a_l0 rfl rfl rfl ?_
  refine a_getq rfl gfX12_29_12 rfl rfl ?_
  refine a_l0 rfl rfl rfl ?_
  refine a_getiv (v := 0) rfl gfX12_78_12 rfl h420_9 ?_
  refine a_l6 rfl rfl rfl ?_
  refine a_s rfl rfl ?_
  refine a_top (y := 11) (by decide) ?_
  refine a_l0 rfl rfl rfl ?_
  refine a_getq rfl gfX12_36_12 rfl rfl ?_
  refine a_l6 rfl rfl rfl ?_
  refine a_s rfl rfl ?_
  refine a_idiv rfl (by decide) ?_
  refine a_top (y := 2) (by decide) ?_
  refine a_ialdv (v := x3) rfl (n := 5) rfl ⟨by decide, by decide⟩ rfl ?_
  refine a_s rfl rfl ?_
  refine a_s rfl rfl ?_
  refine a_l6 rfl rfl rfl ?_
  refine a_s rfl rfl ?_
  refine a_irem rfl (by decide) ?_
  refine a_top (y := 3) (by decide) ?_
  refine a_s rfl rfl ?_
  refine a_top (y := 24) (by decide) ?_
  refine a_s rfl rfl ?_
  refine a_top (y := 0) (by decide) ?_
  refine a_s rfl rfl ?_
  refine a_s rfl rfl ?_
  refine a_bastv (k := 11) rfl (n := 400) rfl ⟨by decide, by decide⟩ (i2b_id _) (by decide) ?_
  refine a_iv6 (y := 12) rfl rfl rfl (by decide) ?_
  refine a_goto rfl ?_
  refine a_l6 rfl rfl rfl ?_
  refine a_s rfl rfl ?_
  refine a_ic_ge rfl (fun c => absurd c (by decide)) (fun c64 => ?_)
  refine a_l0 rfl rfl rfl ?_
  refine a_getq rfl gfX12_29_12 rfl rfl ?_
  refine a_l0 rfl rfl rfl ?_
  refine a_getiv (v := 0) rfl gfX12_78_12 rfl h420_9 ?_
  refine a_l6 rfl rfl rfl ?_
  refine a_s rfl rfl ?_
  refine a_top (y := 12) (by decide) ?_
  refine a_l0 rfl rfl rfl ?_
  refine a_getq rfl gfX12_36_12 rfl rfl ?_
  refine a_l6 rfl rfl rfl ?_
  refine a_s rfl rfl ?_
  refine a_idiv rfl (by decide) ?_
  refine a_top (y := 3) (by decide) ?_
  refine a_ialdv (v := x4) rfl (n := 5) rfl ⟨by decide, by decide⟩ rfl ?_
  refine a_s rfl rfl ?_
  refine a_s rfl rfl ?_
  refine a_l6 rfl rfl rfl ?_
  refine a_s rfl rfl ?_
  refine a_irem rfl (by decide) ?_
  refine a_top (y := 0) (by decide) ?_
  refine a_s rfl rfl ?_
  refine a_top (y := 0) (by decide) ?_
  refine a_s rfl rfl ?_
  refine a_top (y := 24) (by decide) ?_
  refine a_s rfl rfl ?_
  refine a_s rfl rfl ?_
  refine a_bastv (k := 12) rfl (n := 400) rfl ⟨by decide, by decide⟩ (i2b_id _) (by decide) ?_
  refine a_iv6 (y := 13) rfl rfl rfl (by decide) ?_
  refine a_goto rfl ?_
  refine a_l6 rfl rfl rfl ?_
  refine a_s rfl rfl ?_
  refine a_ic_ge rfl (fun c => absurd c (by decide)) (fun c64 => ?_)
  refine a_l0 rfl rfl rfl ?_
  refine a_getq rfl gfX12_29_12 rfl rfl ?_
  refine a_l0 rfl rfl rfl ?_
  refine a_getiv (v := 0) rfl gfX12_78_12 rfl h420_9 ?_
  refine a_l6 rfl rfl rfl ?_
  refine a_s rfl rfl ?_
  refine a_top (y := 13) (by decide) ?_
  refine a_l0 rfl rfl rfl ?_
  refine a_getq rfl gfX12_36_12 rfl rfl ?_
  refine a_l6 rfl rfl rfl ?_
  refine a_s rfl rfl ?_
  refine a_idiv rfl (by decide) ?_
  refine a_top (y := 3) (by decide) ?_
  refine a_ialdv (v := x4) rfl (n := 5) rfl ⟨by decide, by decide⟩ rfl ?_
  refine a_s rfl rfl ?_
  refine a_s rfl rfl ?_
  refine a_l6 rfl rfl rfl ?_
  refine a_s rfl rfl ?_
  refine a_irem rfl (by decide) ?_
  refine a_top (y := 1) (by decide) ?_
  refine a_s rfl rfl ?_
  refine a_top (y := 8) (by decide) ?_
  refine a_s rfl rfl ?_
  refine a_top (y := 16) (by decide) ?_
  refine a_s rfl rfl ?_
  refine a_s rfl rfl ?_
  refine a_bastv (k := 13) rfl (n := 400) rfl ⟨by decide, by decide⟩ (i2b_id _) (by decide) ?_
  refine a_iv6 (y := 14) rfl rfl rfl (by decide) ?_
  refine a_goto rfl ?_
  refine a_l6 rfl rfl rfl ?_
  refine a_s rfl rfl ?_
  refine a_ic_ge rfl (fun c => absurd c (by decide)) (fun c64 => ?_)
  refine a_l0 rfl rfl rfl ?_
  refine a_getq rfl gfX12_29_12 rfl rfl ?_
  refine a_l0 rfl rfl rfl ?_
  refine a_getiv (v := 0) rfl gfX12_78_12 rfl h420_9 ?_
  refine a_l6 rfl rfl rfl ?_
  refine a_s rfl rfl ?_
  refine a_top (y := 14) (by decide) ?_
  refine a_l0 rfl rfl rfl ?_
  refine a_getq rfl gfX12_36_12 rfl rfl ?_
  refine a_l6 rfl rfl rfl ?_
  refine a_s rfl rfl ?_
  refine a_idiv rfl (by decide) ?_
  refine a_top (y := 3) (by decide) ?_
  refine a_ialdv (v := x4) rfl (n := 5) rfl ⟨by decide, by decide⟩ rfl ?_
  refine a_s rfl rfl ?_
  refine a_s rfl rfl ?_
  refine a_l6 rfl rfl rfl ?_
  refine a_s rfl rfl ?_
  refine a_irem rfl (by decide) ?_
  refine a_top (y := 2) (by decide) ?_
  refine a_s rfl rfl ?_
  refine a_top (y := 16) (by decide) ?_
  refine a_s rfl rfl ?_
  refine a_top (y := 8) (by decide) ?_
  refine a_s rfl rfl ?_
  refine a_s rfl rfl ?_
  refine a_bastv (k := 14) rfl (n := 400) rfl ⟨by decide, by decide⟩ (i2b_id _) (by decide) ?_
  refine a_iv6 (y := 15) rfl rfl rfl (by decide) ?_
  refine a_goto rfl ?_
  refine a_l6 rfl rfl rfl ?_
  refine a_s rfl rfl ?_
  refine a_ic_ge rfl (fun c => absurd c (by decide)) (fun c64 => ?_)
  refine a_l0 rfl rfl rfl ?_
  refine a_getq rfl gfX12_29_12 rfl rfl ?_
  refine a_l0 rfl rfl rfl ?_
  refine a_getiv (v := 0) rfl gfX12_78_12 rfl h420_9 ?_
  refine a_l6 rfl rfl rfl ?_
  refine a_s rfl rfl ?_
  refine a_top (y := 15) (by decide) ?_
  refine a_l0 rfl rfl rfl ?_
  refine a_getq rfl gfX12_36_12 rfl rfl ?_
  refine a_l6 rfl rfl rfl ?_
  refine a_s rfl rfl ?_
  refine a_idiv rfl (by decide) ?_
  refine a_top (y := 3) (by decide) ?_
  refine a_ialdv (v := x4) rfl (n := 5) rfl ⟨by decide, by decide⟩ rfl ?_
  refine a_s rfl rfl ?_
  refine a_s rfl rfl ?_
  refine a_l6 rfl rfl rfl ?_
  refine a_s rfl rfl ?_
  refine a_irem rfl (by decide) ?_
  refine a_top (y := 3) (by decide) ?_
  refine a_s rfl rfl ?_
  refine a_top (y := 24) (by decide) ?_
  refine a_s rfl rfl ?_
  refine a_top (y := 0) (by decide) ?_
  refine a_s rfl rfl ?_
  refine a_s rfl rfl ?_
  refine a_bastv (k := 15) rfl (n := 400) rfl ⟨by decide, by decide⟩ (i2b_id _) (by decide) ?_
  refine a_iv6 (y := 16) rfl rfl rfl (by decide) ?_
  refine a_goto rfl ?_
  refine a_l6 rfl rfl rfl ?_
  refine a_s rfl rfl ?_
  refine a_ic_ge rfl (fun c => absurd c (by decide)) (fun c64 => ?_)
  refine a_l0 rfl rfl rfl ?_
  refine a_getq rfl gfX12_29_12 rfl rfl ?_
  refine a_l0 rfl rfl rfl ?_
  refine a_getiv (v := 0) rfl gfX12_78_12 rfl h420_9 ?_
  refine a_l6 rfl rfl rfl ?_
  refine a_s rfl rfl ?_
  refine a_top (y := 16) (by decide) ?_
  refine a_l0 rfl rfl rfl ?_
  refine a_getq rfl gfX12_36_12 rfl rfl ?_
  refine a_l6 rfl rfl rfl ?_
  refine a_s rfl rfl ?_
  refine a_idiv rfl (by decide) ?_
  refine a_top (y := 4) (by decide) ?_
  refine a_ialdv (v := x5) rfl (n := 5) rfl ⟨by decide, by decide⟩ rfl ?_
  refine a_s rfl rfl ?_
  refine a_s rfl rfl ?_
  refine a_l6 rfl rfl rfl ?_
  refine a_s rfl rfl ?_
  refine a_irem rfl (by decide) ?_
  refine a_top (y := 0) (by decide) ?_
  refine a_s rfl rfl ?_
  refine a_top (y := 0) (by decide) ?_
  refine a_s rfl rfl ?_
  refine a_top (y := 24) (by decide) ?_
  refine a_s rfl rfl ?_
  refine a_s rfl rfl ?_
  refine a_bastv (k := 16) rfl (n := 400) rfl ⟨by decide, by decide⟩ (i2b_id _) (by decide) ?_
  refine a_iv6 (y := 17) rfl rfl rfl (by decide) ?_
  refine a_goto rfl ?_
  refine a_l6 rfl rfl rfl ?_
  refine a_s rfl rfl ?_
  refine a_ic_ge rfl (fun c => absurd c (by decide)) (fun c64 => ?_)
  refine a_l0 rfl rfl rfl ?_
  refine a_getq rfl gfX12_29_12 rfl rfl ?_
  refine a_l0 rfl rfl rfl ?_
  refine a_getiv (v := 0) rfl gfX12_78_12 rfl h420_9 ?_
  refine a_l6 rfl rfl rfl ?_
  refine a_s rfl rfl ?_
  refine a_top (y := 17) (by decide) ?_
  refine a_l0 rfl rfl rfl ?_
  refine a_getq rfl gfX12_36_12 rfl rfl ?_
  refine a_l6 rfl rfl rfl ?_
  refine a_s rfl rfl ?_
  refine a_idiv rfl (by decide) ?_
  refine a_top (y := 4) (by decide) ?_
  refine a_ialdv (v := x5) rfl (n := 5) rfl ⟨by decide, by decide⟩ rfl ?_
  refine a_s rfl rfl ?_
  refine a_s rfl rfl ?_
  refine a_l6 rfl rfl rfl ?_
  refine a_s rfl rfl ?_
  refine a_irem rfl (by decide) ?_
  refine a_top (y := 1) (by decide) ?_
  refine a_s rfl rfl ?_
  refine a_top (y := 8) (by decide) ?_
  refine a_s rfl rfl ?_
  refine a_top (y := 16) (by decide) ?_
  refine a_s rfl rfl ?_
  refine a_s rfl rfl ?_
  refine a_bastv (k := 17) rfl (n := 400) rfl ⟨by decide, by decide⟩ (i2b_id _) (by decide) ?_
  refine a_iv6 (y := 18) rfl rfl rfl (by decide) ?_
  refine a_goto rfl ?_
  refine a_l6 rfl rfl rfl ?_
  refine a_s rfl rfl ?_
  refine a_ic_ge rfl (fun c => absurd c (by decide)) (fun c64 => ?_)
  refine a_l0 rfl rfl rfl ?_
  refine a_getq rfl gfX12_29_12 rfl rfl ?_
  refine a_l0 rfl rfl rfl ?_
  refine a_getiv (v := 0) rfl gfX12_78_12 rfl h420_9 ?_
  refine a_l6 rfl rfl rfl ?_
  refine a_s rfl rfl ?_
  refine a_top (y := 18) (by decide) ?_
  refine a_l0 rfl rfl rfl ?_
  refine a_getq rfl gfX12_36_12 rfl rfl ?_
  refine a_l6 rfl rfl rfl ?_
  refine a_s rfl rfl ?_
  refine a_idiv rfl (by decide) ?_
  refine a_top (y := 4) (by decide) ?_
  refine a_ialdv (v := x5) rfl (n := 5) rfl ⟨by decide, by decide⟩ rfl ?_
  refine a_s rfl rfl ?_
  refine a_s rfl rfl ?_
  refine a_l6 rfl rfl rfl ?_
  refine a_s rfl rfl ?_
  refine a_irem rfl (by decide) ?_
  refine a_top (y := 2) (by decide) ?_
  refine a_s rfl rfl ?_
  refine a_top (y := 16) (by decide) ?_
  refine a_s rfl rfl ?_
  refine a_top (y := 8) (by decide) ?_
  refine a_s rfl rfl ?_
  refine a_s rfl rfl ?_
  refine a_bastv (k := 18) rfl (n := 400) rfl ⟨by decide, by decide⟩ (i2b_id _) (by decide) ?_
  refine a_iv6 (y := 19) rfl rfl rfl (by decide) ?_
  refine a_goto rfl ?_
  refine a_l6 rfl rfl rfl ?_
  refine a_s rfl rfl ?_
  refine a_ic_ge rfl (fun c => absurd c (by decide)) (fun c64 => ?_)
  refine a_l0 rfl rfl rfl ?_
  refine a_getq rfl gfX12_29_12 rfl rfl ?_
  refine a_l0 rfl rfl rfl ?_
  refine a_getiv (v := 0) rfl gfX12_78_12 rfl h420_9 ?_
  refine a_l6 rfl rfl rfl ?_
  refine a_s rfl rfl ?_
  refine a_top (y := 19) (by decide) ?_
  refine a_l0 rfl rfl rfl ?_
  refine a_getq rfl gfX12_36_12 rfl rfl ?_
  refine a_l6 rfl rfl rfl ?_
  refine a_s rfl rfl ?_
  refine a_idiv rfl (by decide) ?_
  refine a_top (y := 4) (by decide) ?_
  refine a_ialdv (v := x5) rfl (n := 5) rfl ⟨by decide, by decide⟩ rfl ?_
  refine a_s rfl rfl ?_
  refine a_s rfl rfl ?_
  refine a_l6 rfl rfl rfl ?_
  refine a_s rfl rfl ?_
  refine a_irem rfl (by decide) ?_
  refine a_top (y := 3) (by decide) ?_
  refine a_s rfl rfl ?_
  refine a_top (y := 24) (by decide) ?_
  refine a_s rfl rfl ?_
  refine a_top (y := 0) (by decide) ?_
  refine a_s rfl rfl ?_
  refine a_s rfl rfl ?_
  refine a_bastv (k := 19) rfl (n := 400) rfl ⟨by decide, by decide⟩ (i2b_id _) (by decide) ?_
  refine a_iv6 (y := 20) rfl rfl rfl (by decide) ?_
  refine a_goto rfl ?_
  refine a_l6 rfl rfl rfl ?_
  refine a_s rfl rfl ?_
  refine a_ic_ge rfl (fun c64 => ?_) (fun c => absurd (by decide) c)
  refine a_l0 rfl rfl rfl ?_
  refine a_s rfl rfl ?_
  refine a_getiv (v := 0) rfl gfX12_78_12 rfl h420_9 ?_
  refine a_s rfl rfl ?_
  refine a_s rfl rfl ?_
  refine a_top (y := 20) (by decide) ?_
  refine a_puti rfl pfX12_78_12 rfl ?_
  refine a_l0 rfl rfl rfl ?_
  refine a_getiv (v := 20) rfl gfX12_78_12 rfl rfl ?_
  exact a_iret rfl rfl ⟨rfl, rfl⟩
theorem rr_X12_feed {S : aS} {x0 x1 x2 x3 x4 : Int32} : RRet S m_X12_feed 12 [.ref 420, .int x0, .int x1, .int x2, .int x3, .int x4] (some 20) 0 := RRet.of (fun I => up2 (up2 (up2 (up2 (up2 (up2 (up2 (up2 (up2 (up2 (up2 (up2 (up2 (up2 (up2 (up2 (up2 (up2 (up2 (up2 (up2 (up2 (up2 (up2 (up2 (up2 (up2 I 420 0 0) 427 0 x0) 427 1 x1) 427 2 x2) 427 3 x3) 427 4 x4) 426 0 ((x0 >>> (24 &&& 31)).toInt8.toInt32)) 426 1 ((x0 >>> (16 &&& 31)).toInt8.toInt32)) 426 2 ((x0 >>> (8 &&& 31)).toInt8.toInt32)) 426 3 ((x0 >>> (0 &&& 31)).toInt8.toInt32)) 426 4 ((x1 >>> (24 &&& 31)).toInt8.toInt32)) 426 5 ((x1 >>> (16 &&& 31)).toInt8.toInt32)) 426 6 ((x1 >>> (8 &&& 31)).toInt8.toInt32)) 426 7 ((x1 >>> (0 &&& 31)).toInt8.toInt32)) 426 8 ((x2 >>> (24 &&& 31)).toInt8.toInt32)) 426 9 ((x2 >>> (16 &&& 31)).toInt8.toInt32)) 426 10 ((x2 >>> (8 &&& 31)).toInt8.toInt32)) 426 11 ((x2 >>> (0 &&& 31)).toInt8.toInt32)) 426 12 ((x3 >>> (24 &&& 31)).toInt8.toInt32)) 426 13 ((x3 >>> (16 &&& 31)).toInt8.toInt32)) 426 14 ((x3 >>> (8 &&& 31)).toInt8.toInt32)) 426 15 ((x3 >>> (0 &&& 31)).toInt8.toInt32)) 426 16 ((x4 >>> (24 &&& 31)).toInt8.toInt32)) 426 17 ((x4 >>> (16 &&& 31)).toInt8.toInt32)) 426 18 ((x4 >>> (8 &&& 31)).toInt8.toInt32)) 426 19 ((x4 >>> (0 &&& 31)).toInt8.toInt32)) 420 9 20) (fun I L w1 w2 t hz => au_X12_feed_24 (hz.at rfl I0_420_9) ) (fun I hz => rfl)
theorem op_0 {xs : Nat → Int32} : OpOk xs 288 := by
  show AW (S1 6 xs) m_L_main 1050 QM XM 599770 7281900 288 [some (.ref 199), some (.ref 200), some (.ref 420), some (.ref 431), some (.int 0), none, none] [] (hp I0 L0 0 0 432)
  refine a_l1 rfl rfl rfl ?_
  refine a_l0 rfl rfl rfl ?_
  refine a_l4 rfl rfl rfl ?_
  refine a_s rfl rfl ?_
  refine a_s rfl rfl ?_
  refine a_ialdc rfl scr_mem ⟨by decide, by decide⟩ ?_
  refine a_l0 rfl rfl rfl ?_
  refine a_l4 rfl rfl rfl ?_
  refine a_s rfl rfl ?_
  refine a_s rfl rfl ?_
  refine a_ialdc rfl scr_mem ⟨by decide, by decide⟩ ?_
  refine a_l0 rfl rfl rfl ?_
  refine a_l4 rfl rfl rfl ?_
  refine a_s rfl rfl ?_
  refine a_s rfl rfl ?_
  refine a_ialdc rfl scr_mem ⟨by decide, by decide⟩ ?_
  refine a_l0 rfl rfl rfl ?_
  refine a_l4 rfl rfl rfl ?_
  refine a_s rfl rfl ?_
  refine a_s rfl rfl ?_
  refine a_ialdc rfl scr_mem ⟨by decide, by decide⟩ ?_
  refine a_l0 rfl rfl rfl ?_
  refine a_l4 rfl rfl rfl ?_
  refine a_s rfl rfl ?_
  refine a_s rfl rfl ?_
  refine a_ialdc rfl scr_mem ⟨by decide, by decide⟩ ?_
  refine a_callV rfl lL_133 mo_X11_feed (cr_X11_feed) rfl rfl rfl ⟨11, _, rfl, rfl, rfl⟩ rfl (fun v h' hv => ?_) (fun E h' hx => False.elim hx)
  obtain ⟨rfl, I, w1, w2, t, rfl, hz⟩ := hv
  refine a_l2 rfl rfl rfl ?_
  refine a_l0 rfl rfl rfl ?_
  refine a_l4 rfl rfl rfl ?_
  refine a_s rfl rfl ?_
  refine a_s rfl rfl ?_
  refine a_ialdc rfl scr_mem ⟨by decide, by decide⟩ ?_
  refine a_l0 rfl rfl rfl ?_
  refine a_l4 rfl rfl rfl ?_
  refine a_s rfl rfl ?_
  refine a_s rfl rfl ?_
  refine a_ialdc rfl scr_mem ⟨by decide, by decide⟩ ?_
  refine a_l0 rfl rfl rfl ?_
  refine a_l4 rfl rfl rfl ?_
  refine a_s rfl rfl ?_
  refine a_s rfl rfl ?_
  refine a_ialdc rfl scr_mem ⟨by decide, by decide⟩ ?_
  refine a_l0 rfl rfl rfl ?_
  refine a_l4 rfl rfl rfl ?_
  refine a_s rfl rfl ?_
  refine a_s rfl rfl ?_
  refine a_ialdc rfl scr_mem ⟨by decide, by decide⟩ ?_
  refine a_l0 rfl rfl rfl ?_
  refine a_l4 rfl rfl rfl ?_
  refine a_s rfl rfl ?_
  refine a_s rfl rfl ?_
  refine a_ialdc rfl scr_mem ⟨by decide, by decide⟩ ?_
  refine a_callV rfl lL_137 mo_X12_feed (rr_X12_feed I _ w1 w2 t hz) rfl rfl rfl ⟨12, _, rfl, rfl, rfl⟩ rfl (fun v h' hv => ?_) (fun E h' hx => False.elim hx)
  obtain ⟨rfl, I', L', w1', w2', t', rfl, hk, hL⟩ := hv
  refine a_ic_eq rfl (fun c356 => ?_) (fun c => absurd (rfl) c)
  exact fin_ok
theorem au_X11_image_25 {S : aS} {I : Nat → Nat → Int32} {L : Nat → Nat → Int64} {w1 w2 t : Nat}   : SpE S m_X11_image 15 [.ref 200] (hp I L w1 w2 t) none (hp (up2 (cpL (cpS I 268 235 11) 279 246) 200 10 1) L w1 w2 t) := by
  refine SpE_of ok_X11_image rfl rfl ?_
  show AW S m_X11_image 15 _ _ 0 0 0 [some (.ref 200)] [] (hp I L w1 w2 t)
  refine a_l0 rfl rfl rfl ?_
  refine a_getq rfl gfX11_58_11 rfl rfl ?_
  refine a_l0 rfl rfl rfl ?_
  refine a_getq rfl gfX11_37_11 rfl rfl ?_
  refine a_eV0 rfl lX11_375 mo_X5_copyAll (sp_X5_copyAll (a := 268) (b := 235) (by decide) (by decide) (by decide)) rfl rfl rfl ⟨5, _, rfl, rfl, rfl⟩ rfl ?_
  refine a_l0 rfl rfl rfl ?_
  refine a_getq rfl gfX11_61_11 rfl rfl ?_
  refine a_l0 rfl rfl rfl ?_
  refine a_getq rfl gfX11_44_11 rfl rfl ?_
  refine a_eV0 rfl lX11_104 mo_X2_copyFrom (sp_X2_copyFrom (a := 279) (b := 246) (by decide) (by decide) (by decide)) rfl rfl rfl ⟨2, _, rfl, rfl, rfl⟩ rfl ?_
  refine a_l0 rfl rfl rfl ?_
  refine a_s rfl rfl ?_
  refine a_putz rfl pfX11_378_11 ⟨rfl, rfl⟩ rfl ?_
  exact a_vret rfl rfl ⟨rfl, rfl⟩
theorem cr_X11_image {S : aS} : CRet S m_X11_image 15 [.ref 200] none := CRet.of0 (au_X11_image_25  ) (fun q hq => by simp (disch := omega) only [up2_row, upr_row, cpS_out, cpL_out])
theorem rr_X12_image {S : aS} : RRet S m_X12_image 12 [.ref 420] none 0 := RRet.of (fun I => up2 (cpP (up2 I 420 0 0) 422 421 1184) 420 6 1) (fun I L w1 w2 t hz => sp_X12_image) (fun I hz => rfl)
theorem op_55 {xs : Nat → Int32} : OpOk xs 2872 := by
  show AW (S1 6 xs) m_L_main 1050 QM XM 599770 7281900 2872 [some (.ref 199), some (.ref 200), some (.ref 420), some (.ref 431), some (.int 0), none, none] [] (hp I0 L0 0 0 432)
  refine a_l1 rfl rfl rfl ?_
  refine a_callV rfl lL_331 mo_X11_image (cr_X11_image) rfl rfl rfl ⟨11, _, rfl, rfl, rfl⟩ rfl (fun v h' hv => ?_) (fun E h' hx => False.elim hx)
  obtain ⟨rfl, I, w1, w2, t, rfl, hz⟩ := hv
  refine a_l2 rfl rfl rfl ?_
  refine a_callV rfl lL_334 mo_X12_image (rr_X12_image I _ w1 w2 t hz) rfl rfl rfl ⟨12, _, rfl, rfl, rfl⟩ rfl (fun v h' hv => ?_) (fun E h' hx => False.elim hx)
  obtain ⟨rfl, I', L', w1', w2', t', rfl, hk, hL⟩ := hv
  refine a_goto rfl ?_
  exact fin_ok
theorem au_X11_bit_26 {S : aS} {I : Nat → Nat → Int32} {L : Nat → Nat → Int64} {w1 w2 t : Nat}   : SpE S m_X11_bit 12 [.int 0] (hp I L w1 w2 t) (some (.int 1)) (hp I L w1 w2 t) := by
  refine SpE_of ok_X11_bit rfl rfl ?_
  show AW S m_X11_bit 12 _ _ 0 0 0 [some (.int 0)] [] (hp I L w1 w2 t)
  refine a_l0 rfl rfl rfl ?_
  refine a_if_lt rfl (fun c => absurd c (by decide)) (fun c1 => ?_)
  refine a_l0 rfl rfl rfl ?_
  refine a_s rfl rfl ?_
  refine a_ic_ge rfl (fun c => absurd c (by decide)) (fun c7 => ?_)
  refine a_s rfl rfl ?_
  refine a_l0 rfl rfl rfl ?_
  refine a_s rfl rfl ?_
  refine a_top (y := 1) (by decide) ?_
  refine a_goto rfl ?_
  exact a_iret rfl rfl ⟨rfl, rfl⟩
theorem au_X11_whoFits_27 {S : aS} {I : Nat → Nat → Int32} {L : Nat → Nat → Int64} {w1 w2 t : Nat} (h201_1 : I 201 1 = 0) (h235_0 : I 235 0 = 0)  : SpE S m_X11_whoFits 13 [.ref 200] (hp I L w1 w2 t) (some (.int 0)) (hp I L w1 w2 t) := by
  refine SpE_of ok_X11_whoFits rfl rfl ?_
  show AW S m_X11_whoFits 13 _ _ 0 0 0 [some (.ref 200), none, none, none, none] [] (hp I L w1 w2 t)
  refine a_l0 rfl rfl rfl ?_
  refine a_getq rfl gfX11_10_11 rfl rfl ?_
  refine a_getiv (v := 0) rfl gfX11_68_7 rfl h201_1 ?_
  refine a_s rfl rfl ?_
  refine a_ic_gt rfl (fun c => absurd c (by decide)) (fun c9 => ?_)
  refine a_l0 rfl rfl rfl ?_
  refine a_getq rfl gfX11_10_11 rfl rfl ?_
  refine a_getiv (v := 0) rfl gfX11_68_7 rfl h201_1 ?_
  refine a_s rfl rfl ?_
  refine a_irem rfl (by decide) ?_
  refine a_top (y := 0) (by decide) ?_
  refine a_if_eq rfl (fun c21 => ?_) (fun c => absurd (by decide) c)
  refine a_l0 rfl rfl rfl ?_
  refine a_getq rfl gfX11_37_11 rfl rfl ?_
  refine a_getiv (v := 0) rfl gfX11_179_5 rfl h235_0 ?_
  refine a_eS1 rfl lX11_319 mo_X11_bit (au_X11_bit_26  ) rfl rfl rfl rfl ?_
  refine a_s rfl rfl ?_
  refine a_s rfl rfl ?_
  refine a_top (y := 0) (by decide) ?_
  refine a_s1 rfl rfl rfl rfl rfl rfl ?_
  refine a_s rfl rfl ?_
  refine a_s2 rfl rfl rfl rfl rfl rfl ?_
  refine a_l2 rfl rfl rfl ?_
  refine a_l0 rfl rfl rfl ?_
  refine a_getq rfl gfX11_10_11 rfl rfl ?_
  refine a_getiv (v := 0) rfl gfX11_68_7 rfl h201_1 ?_
  refine a_ic_ge rfl (fun c49 => ?_) (fun c => absurd (by decide) c)
  refine a_l1 rfl rfl rfl ?_
  exact a_iret rfl rfl ⟨rfl, rfl⟩
theorem au_X11_takeWhoFits_28 {S : aS} {I : Nat → Nat → Int32} {L : Nat → Nat → Int64} {w1 w2 t : Nat} (h201_1 : I 201 1 = 0) (h235_0 : I 235 0 = 0)  : SpE S m_X11_takeWhoFits 14 [.ref 200] (hp I L w1 w2 t) (some (.int 0)) (hp (up2 I 201 1 0) L w1 w2 t) := by
  refine SpE_of ok_X11_takeWhoFits rfl rfl ?_
  show AW S m_X11_takeWhoFits 14 _ _ 0 0 0 [some (.ref 200), none] [] (hp I L w1 w2 t)
  refine a_l0 rfl rfl rfl ?_
  refine a_eV1 rfl lX11_389 mo_X11_whoFits (au_X11_whoFits_27 h201_1 h235_0 ) rfl rfl rfl ⟨11, _, rfl, rfl, rfl⟩ rfl ?_
  refine a_s1 rfl rfl rfl rfl rfl rfl ?_
  refine a_l0 rfl rfl rfl ?_
  refine a_getq rfl gfX11_10_11 rfl rfl ?_
  refine a_s rfl rfl ?_
  refine a_puti rfl pfX11_68_7 rfl ?_
  refine a_l1 rfl rfl rfl ?_
  exact a_iret rfl rfl ⟨rfl, rfl⟩
theorem au_X11_whose_29 {S : aS} {I : Nat → Nat → Int32} {L : Nat → Nat → Int64} {w1 w2 t : Nat} (h201_1 : I 201 1 = 0) (h235_0 : I 235 0 = 0)  : SpE S m_X11_whose 15 [.ref 200] (hp I L w1 w2 t) (some (.int 0)) (hp (up2 I 201 1 0) L w1 w2 t) := by
  refine SpE_of ok_X11_whose rfl rfl ?_
  show AW S m_X11_whose 15 _ _ 0 0 0 [some (.ref 200), none] [] (hp I L w1 w2 t)
  refine a_l0 rfl rfl rfl ?_
  refine a_eV1 rfl lX11_310 mo_X11_takeWhoFits (au_X11_takeWhoFits_28 h201_1 h235_0 ) rfl rfl rfl ⟨11, _, rfl, rfl, rfl⟩ rfl ?_
  refine a_s1 rfl rfl rfl rfl rfl rfl ?_
  refine a_l1 rfl rfl rfl ?_
  refine a_s rfl rfl ?_
  refine a_ic_ne rfl (fun c7 => ?_) (fun c => absurd c (by decide))
  refine a_l1 rfl rfl rfl ?_
  exact a_iret rfl rfl ⟨rfl, rfl⟩
theorem cr_X11_whose {S : aS} : CRet S m_X11_whose 15 [.ref 200] (some 0) := CRet.of (au_X11_whose_29 I0_201_1 I0_235_0 ) (fun q hq => by simp (disch := omega) only [up2_row, upr_row, cpS_out, cpL_out])
theorem au_X12_uses_30 {S : aS} {I : Nat → Nat → Int32} {L : Nat → Nat → Int64} {w1 w2 t : Nat} (h420_9 : I 420 9 = 0)  : SpE S m_X12_uses 12 [.ref 420] (hp I L w1 w2 t) none (hp (up2 (up2 (up2 (up2 I 420 0 0) 420 11 0) 420 9 0) 420 10 0) L w1 w2 t) := by
  refine SpE_of ok_X12_uses rfl rfl ?_
  show AW S m_X12_uses 12 _ _ 0 0 0 [some (.ref 420)] [] (hp I L w1 w2 t)
  refine a_l0 rfl rfl rfl ?_
  refine a_s rfl rfl ?_
  refine a_puti rfl pfX12_3_12 rfl ?_
  refine a_l0 rfl rfl rfl ?_
  refine a_l0 rfl rfl rfl ?_
  refine a_getiv (v := 0) rfl gfX12_78_12 rfl h420_9 ?_
  refine a_puti rfl pfX12_84_12 rfl ?_
  refine a_l0 rfl rfl rfl ?_
  refine a_s rfl rfl ?_
  refine a_puti rfl pfX12_78_12 rfl ?_
  refine a_l0 rfl rfl rfl ?_
  refine a_s rfl rfl ?_
  refine a_puti rfl pfX12_81_12 rfl ?_
  exact a_vret rfl rfl ⟨rfl, rfl⟩
theorem au_X12_isTold_31 {S : aS} {I : Nat → Nat → Int32} {L : Nat → Nat → Int64} {w1 w2 t : Nat} (h420_11 : I 420 11 = 0)  : SpE S m_X12_isTold 12 [.ref 420] (hp I L w1 w2 t) (some (.int 1)) (hp I L w1 w2 t) := by
  refine SpE_of ok_X12_isTold rfl rfl ?_
  show AW S m_X12_isTold 12 _ _ 0 0 0 [some (.ref 420), none, none] [] (hp I L w1 w2 t)
  refine a_l0 rfl rfl rfl ?_
  refine a_getiv (v := 0) rfl gfX12_84_12 rfl h420_11 ?_
  refine a_s rfl rfl ?_
  refine a_irem rfl (by decide) ?_
  refine a_top (y := 0) (by decide) ?_
  refine a_if_ne rfl (fun c => absurd c (by decide)) (fun c6 => ?_)
  refine a_l0 rfl rfl rfl ?_
  refine a_getiv (v := 0) rfl gfX12_84_12 rfl h420_11 ?_
  refine a_s rfl rfl ?_
  refine a_ic_gt rfl (fun c => absurd c (by decide)) (fun c15 => ?_)
  refine a_s rfl rfl ?_
  refine a_goto rfl ?_
  refine a_s1 rfl rfl rfl rfl rfl rfl ?_
  refine a_s rfl rfl ?_
  refine a_s2 rfl rfl rfl rfl rfl rfl ?_
  refine a_l2 rfl rfl rfl ?_
  refine a_l0 rfl rfl rfl ?_
  refine a_getiv (v := 0) rfl gfX12_84_12 rfl h420_11 ?_
  refine a_ic_ge rfl (fun c31 => ?_) (fun c => absurd (by decide) c)
  refine a_l1 rfl rfl rfl ?_
  exact a_zret rfl rfl rfl ⟨rfl, rfl⟩
theorem au_X12_throwsIf_32 {S : aS} {I : Nat → Nat → Int32} {L : Nat → Nat → Int64} {w1 w2 t : Nat}   : SpE S m_X12_throwsIf 12 [.ref 420, .int 0, .int 1] (hp I L w1 w2 t) (some (.int 0)) (hp I L w1 w2 t) := by
  refine SpE_of ok_X12_throwsIf rfl rfl ?_
  show AW S m_X12_throwsIf 12 _ _ 0 0 0 [some (.ref 420), some (.int 0), some (.int 1)] [] (hp I L w1 w2 t)
  refine a_l1 rfl rfl rfl ?_
  refine a_if_eq rfl (fun c1 => ?_) (fun c => absurd (by decide) c)
  refine a_l1 rfl rfl rfl ?_
  exact a_zret rfl rfl rfl ⟨rfl, rfl⟩
theorem au_X12_allThatFit_33 {S : aS} {I : Nat → Nat → Int32} {L : Nat → Nat → Int64} {w1 w2 t : Nat} (h421_0 : I 421 0 = 0)  : SpE S m_X12_allThatFit 13 [.ref 420] (hp I L w1 w2 t) (some (.int 0)) (hp I L w1 w2 t) := by
  refine SpE_of ok_X12_allThatFit rfl rfl ?_
  show AW S m_X12_allThatFit 13 _ _ 0 0 0 [some (.ref 420), none, none, none, none] [] (hp I L w1 w2 t)
  refine a_s rfl rfl ?_
  refine a_s1 rfl rfl rfl rfl rfl rfl ?_
  refine a_s rfl rfl ?_
  refine a_s2 rfl rfl rfl rfl rfl rfl ?_
  refine a_l2 rfl rfl rfl ?_
  refine a_l0 rfl rfl rfl ?_
  refine a_eV1 rfl lX12_66 mo_X12_people (au_X12_people_7 h421_0 ) rfl rfl rfl ⟨12, _, rfl, rfl, rfl⟩ rfl ?_
  refine a_ic_ge rfl (fun c9 => ?_) (fun c => absurd (by decide) c)
  refine a_l1 rfl rfl rfl ?_
  exact a_iret rfl rfl ⟨rfl, rfl⟩
theorem au_X12_whose_34 {S : aS} {I : Nat → Nat → Int32} {L : Nat → Nat → Int64} {w1 w2 t : Nat} (h420_9 : I 420 9 = 0) (h421_0 : I 421 0 = 0)  : SpE S m_X12_whose 14 [.ref 420] (hp I L w1 w2 t) (some (.int 0)) (hp (up2 (up2 (up2 (up2 I 420 0 0) 420 11 0) 420 9 0) 420 10 0) L w1 w2 t) := by
  refine SpE_of ok_X12_whose rfl rfl ?_
  show AW S m_X12_whose 14 _ _ 0 0 0 [some (.ref 420)] [] (hp I L w1 w2 t)
  refine a_l0 rfl rfl rfl ?_
  refine a_eV0 rfl lX12_232 mo_X12_uses (au_X12_uses_30 h420_9 ) rfl rfl rfl ⟨12, _, rfl, rfl, rfl⟩ rfl ?_
  refine a_l0 rfl rfl rfl ?_
  refine a_l0 rfl rfl rfl ?_
  refine a_eV1 rfl lX12_438 mo_X12_isTold (au_X12_isTold_31 rfl ) rfl rfl rfl ⟨12, _, rfl, rfl, rfl⟩ rfl ?_
  refine a_if_ne rfl (fun c9 => ?_) (fun c => absurd c (by decide))
  refine a_s rfl rfl ?_
  refine a_s rfl rfl ?_
  refine a_eV1 rfl lX12_243 mo_X12_throwsIf (au_X12_throwsIf_32  ) rfl rfl rfl ⟨12, _, rfl, rfl, rfl⟩ rfl ?_
  refine a_if_eq rfl (fun c21 => ?_) (fun c => absurd (by decide) c)
  refine a_l0 rfl rfl rfl ?_
  refine a_eV1 rfl lX12_441 mo_X12_allThatFit (au_X12_allThatFit_33 h421_0 ) rfl rfl rfl ⟨12, _, rfl, rfl, rfl⟩ rfl ?_
  exact a_iret rfl rfl ⟨rfl, rfl⟩
theorem rr_X12_whose {S : aS} : RRet S m_X12_whose 14 [.ref 420] (some 0) 0 := RRet.of (fun I => up2 (up2 (up2 (up2 I 420 0 0) 420 11 0) 420 9 0) 420 10 0) (fun I L w1 w2 t hz => au_X12_whose_34 (hz.at rfl I0_420_9) (hz.at rfl I0_421_0) ) (fun I hz => rfl)
theorem w_whose {S : aS} {r : Int32} (h : CRet S m_X11_whose 15 [.ref 200] (some r)) : Sp S m_L_whose 16 0 0 [.ref 200, .ref 431] (hp I0 L0 0 0 432) (QW r) (fun _ _ => False) := by
  refine Sp_of ok_L_whose rfl rfl ?_
  show AW S m_L_whose 16 _ _ 0 0 0 [some (.ref 200), some (.ref 431), none] [] (hp I0 L0 0 0 432)
  refine a_l1 rfl rfl rfl ?_
  refine a_s rfl rfl ?_
  refine a_l0 rfl rfl rfl ?_
  refine a_callVc rfl lL_90 mo_X11_whose h rfl rfl rfl ⟨11, _, rfl, rfl, rfl⟩ (fun v h' hv => ?_) (fun E h' hx => False.elim hx)
  obtain ⟨rfl, I, w1, w2, t, rfl, hz⟩ := hv
  refine a_s rfl rfl ?_
  refine a_last rfl (n := 1) rfl ⟨by decide, by decide⟩ ?_
  refine a_goto rfl ?_
  refine a_s rfl rfl ?_
  exact a_iret rfl rfl ⟨rfl, I, w1, w2, t, rfl, hz⟩
theorem op_30 {xs : Nat → Int32} : OpOk xs 1820 := by
  show AW (S1 6 xs) m_L_main 1050 QM XM 599770 7281900 1820 [some (.ref 199), some (.ref 200), some (.ref 420), some (.ref 431), some (.int 0), none, none] [] (hp I0 L0 0 0 432)
  refine a_l1 rfl rfl rfl ?_
  refine a_l3 rfl rfl rfl ?_
  refine a_callW rfl lL_243 mo_L_whose (w_whose cr_X11_whose) rfl rfl rfl rfl (fun v h' hv => ?_) (fun E h' hx => False.elim hx)
  obtain ⟨rfl, I, w1, w2, t, rfl, hz⟩ := hv
  refine a_s5 rfl rfl rfl rfl rfl rfl ?_
  refine a_l2 rfl rfl rfl ?_
  refine a_callV rfl lL_245 mo_X12_whose (rr_X12_whose I _ w1 w2 t hz) rfl rfl rfl ⟨12, _, rfl, rfl, rfl⟩ rfl (fun v h' hv => ?_) (fun E h' hx => False.elim hx)
  obtain ⟨rfl, I', L', w1', w2', t', rfl, hk, hL⟩ := hv
  refine a_s6 rfl rfl rfl rfl rfl rfl ?_
  refine a_l2 rfl rfl rfl ?_
  refine a_eV1 rfl lL_149 mo_X12_thrown (sp_X12_thrown) rfl rfl rfl ⟨12, _, rfl, rfl, rfl⟩ rfl ?_
  refine a_l5 rfl rfl rfl ?_
  refine a_ic_eq rfl (fun c1839 => ?_) (fun c => absurd (hk) c)
  refine a_l5 rfl rfl rfl ?_
  refine a_if_ne rfl (fun c => absurd c (fun z => z rfl)) (fun c1846 => ?_)
  refine a_l3 rfl rfl rfl ?_
  refine a_s rfl rfl ?_
  refine a_lald rfl (n := 1) rfl ⟨by decide, by decide⟩ ?_
  rw [hL]
  refine a_l6 rfl rfl rfl ?_
  refine a_s rfl rfl ?_
  refine a_s rfl rfl ?_
  refine a_if_eq rfl (fun c1856 => ?_) (fun c => absurd (cmp_self _) c)
  refine a_goto rfl ?_
  exact fin_ok
theorem au_X11_kerbToAskFor_35 {S : aS} {I : Nat → Nat → Int32} {L : Nat → Nat → Int64} {w1 w2 t : Nat}   : SpE S m_X11_kerbToAskFor 13 [.ref 200, .int 0] (hp I L w1 w2 t) (some (.int (-1))) (hp I L w1 w2 t) := by
  refine SpE_of ok_X11_kerbToAskFor rfl rfl ?_
  show AW S m_X11_kerbToAskFor 13 _ _ 0 0 0 [some (.ref 200), some (.int 0), none, none, none, none, none, none] [] (hp I L w1 w2 t)
  refine a_l1 rfl rfl rfl ?_
  refine a_eS1 rfl lX11_261 mo_J6_bitCount_0f7a4 ((sp_bitCount (x := 0)).cast (r' := some (.int 0)) (by decide) rfl) rfl rfl rfl rfl ?_
  refine a_s2 rfl rfl rfl rfl rfl rfl ?_
  refine a_l2 rfl rfl rfl ?_
  refine a_s rfl rfl ?_
  refine a_ic_ge rfl (fun c => absurd c (by decide)) (fun c7 => ?_)
  refine a_s rfl rfl ?_
  exact a_iret rfl rfl ⟨rfl, rfl⟩
theorem au_X11_ask_36 {S : aS} {I : Nat → Nat → Int32} {L : Nat → Nat → Int64} {w1 w2 t : Nat} (h201_1 : I 201 1 = 0) (h235_0 : I 235 0 = 0)  : SpE S m_X11_ask 15 [.ref 200] (hp I L w1 w2 t) (some (.int (-1))) (hp (up2 I 201 1 0) L w1 w2 t) := by
  refine SpE_of ok_X11_ask rfl rfl ?_
  show AW S m_X11_ask 15 _ _ 0 0 0 [some (.ref 200), none] [] (hp I L w1 w2 t)
  refine a_l0 rfl rfl rfl ?_
  refine a_eV1 rfl lX11_310 mo_X11_takeWhoFits (au_X11_takeWhoFits_28 h201_1 h235_0 ) rfl rfl rfl ⟨11, _, rfl, rfl, rfl⟩ rfl ?_
  refine a_s1 rfl rfl rfl rfl rfl rfl ?_
  refine a_l1 rfl rfl rfl ?_
  refine a_s rfl rfl ?_
  refine a_ic_ne rfl (fun c7 => ?_) (fun c => absurd c (by decide))
  refine a_l0 rfl rfl rfl ?_
  refine a_l1 rfl rfl rfl ?_
  refine a_eV1 rfl lX11_313 mo_X11_kerbToAskFor (au_X11_kerbToAskFor_35  ) rfl rfl rfl ⟨11, _, rfl, rfl, rfl⟩ rfl ?_
  exact a_iret rfl rfl ⟨rfl, rfl⟩
theorem cr_X11_ask {S : aS} : CRet S m_X11_ask 15 [.ref 200] (some (-1)) := CRet.of (au_X11_ask_36 I0_201_1 I0_235_0 ) (fun q hq => by simp (disch := omega) only [up2_row, upr_row, cpS_out, cpL_out])
theorem au_X12_ask_37 {S : aS} {I : Nat → Nat → Int32} {L : Nat → Nat → Int64} {w1 w2 t : Nat} (h420_9 : I 420 9 = 0) (h421_0 : I 421 0 = 0)  : SpE S m_X12_ask 14 [.ref 420] (hp I L w1 w2 t) (some (.int (-1))) (hp (up2 (up2 (up2 (up2 I 420 0 0) 420 11 0) 420 9 0) 420 10 0) L w1 w2 t) := by
  refine SpE_of ok_X12_ask rfl rfl ?_
  show AW S m_X12_ask 14 _ _ 0 0 0 [some (.ref 420), none, none, none, none, none, none, none] [] (hp I L w1 w2 t)
  refine a_l0 rfl rfl rfl ?_
  refine a_eV0 rfl lX12_232 mo_X12_uses (au_X12_uses_30 h420_9 ) rfl rfl rfl ⟨12, _, rfl, rfl, rfl⟩ rfl ?_
  refine a_l0 rfl rfl rfl ?_
  refine a_l0 rfl rfl rfl ?_
  refine a_eV1 rfl lX12_438 mo_X12_isTold (au_X12_isTold_31 rfl ) rfl rfl rfl ⟨12, _, rfl, rfl, rfl⟩ rfl ?_
  refine a_if_ne rfl (fun c9 => ?_) (fun c => absurd c (by decide))
  refine a_s rfl rfl ?_
  refine a_s rfl rfl ?_
  refine a_eV1 rfl lX12_243 mo_X12_throwsIf (au_X12_throwsIf_32  ) rfl rfl rfl ⟨12, _, rfl, rfl, rfl⟩ rfl ?_
  refine a_if_eq rfl (fun c21 => ?_) (fun c => absurd (by decide) c)
  refine a_l0 rfl rfl rfl ?_
  refine a_eV1 rfl lX12_441 mo_X12_allThatFit (au_X12_allThatFit_33 h421_0 ) rfl rfl rfl ⟨12, _, rfl, rfl, rfl⟩ rfl ?_
  refine a_s1 rfl rfl rfl rfl rfl rfl ?_
  refine a_l1 rfl rfl rfl ?_
  refine a_eS1 rfl lX12_310 mo_J6_bitCount_0f7a4 ((sp_bitCount (x := 0)).cast (r' := some (.int 0)) (by decide) rfl) rfl rfl rfl rfl ?_
  refine a_s2 rfl rfl rfl rfl rfl rfl ?_
  refine a_s rfl rfl ?_
  refine a_s3 rfl rfl rfl rfl rfl rfl ?_
  refine a_ldcw rfl kX12_401 ?_
  refine a_s4 rfl rfl rfl rfl rfl rfl ?_
  refine a_s rfl rfl ?_
  refine a_s5 rfl rfl rfl rfl rfl rfl ?_
  refine a_l5 rfl rfl rfl ?_
  refine a_s rfl rfl ?_
  refine a_ic_ge rfl (fun c => absurd c (by decide)) (fun c50 => ?_)
  refine a_l2 rfl rfl rfl ?_
  refine a_s rfl rfl ?_
  refine a_ic_le rfl (fun c55 => ?_) (fun c => absurd (by decide) c)
  refine a_l3 rfl rfl rfl ?_
  exact a_iret rfl rfl ⟨rfl, rfl⟩
theorem rr_X12_ask {S : aS} : RRet S m_X12_ask 14 [.ref 420] (some (-1)) 0 := RRet.of (fun I => up2 (up2 (up2 (up2 I 420 0 0) 420 11 0) 420 9 0) 420 10 0) (fun I L w1 w2 t hz => au_X12_ask_37 (hz.at rfl I0_420_9) (hz.at rfl I0_421_0) ) (fun I hz => rfl)
theorem w_ask {S : aS} {r : Int32} (h : CRet S m_X11_ask 15 [.ref 200] (some r)) : Sp S m_L_ask 16 0 0 [.ref 200, .ref 431] (hp I0 L0 0 0 432) (QW r) (fun _ _ => False) := by
  refine Sp_of ok_L_ask rfl rfl ?_
  show AW S m_L_ask 16 _ _ 0 0 0 [some (.ref 200), some (.ref 431), none] [] (hp I0 L0 0 0 432)
  refine a_l1 rfl rfl rfl ?_
  refine a_s rfl rfl ?_
  refine a_l0 rfl rfl rfl ?_
  refine a_callVc rfl lL_93 mo_X11_ask h rfl rfl rfl ⟨11, _, rfl, rfl, rfl⟩ (fun v h' hv => ?_) (fun E h' hx => False.elim hx)
  obtain ⟨rfl, I, w1, w2, t, rfl, hz⟩ := hv
  refine a_s rfl rfl ?_
  refine a_last rfl (n := 1) rfl ⟨by decide, by decide⟩ ?_
  refine a_goto rfl ?_
  refine a_s rfl rfl ?_
  exact a_iret rfl rfl ⟨rfl, I, w1, w2, t, rfl, hz⟩
theorem op_31 {xs : Nat → Int32} : OpOk xs 1864 := by
  show AW (S1 6 xs) m_L_main 1050 QM XM 599770 7281900 1864 [some (.ref 199), some (.ref 200), some (.ref 420), some (.ref 431), some (.int 0), none, none] [] (hp I0 L0 0 0 432)
  refine a_l1 rfl rfl rfl ?_
  refine a_l3 rfl rfl rfl ?_
  refine a_callW rfl lL_246 mo_L_ask (w_ask cr_X11_ask) rfl rfl rfl rfl (fun v h' hv => ?_) (fun E h' hx => False.elim hx)
  obtain ⟨rfl, I, w1, w2, t, rfl, hz⟩ := hv
  refine a_s5 rfl rfl rfl rfl rfl rfl ?_
  refine a_l2 rfl rfl rfl ?_
  refine a_callV rfl lL_248 mo_X12_ask (rr_X12_ask I _ w1 w2 t hz) rfl rfl rfl ⟨12, _, rfl, rfl, rfl⟩ rfl (fun v h' hv => ?_) (fun E h' hx => False.elim hx)
  obtain ⟨rfl, I', L', w1', w2', t', rfl, hk, hL⟩ := hv
  refine a_s6 rfl rfl rfl rfl rfl rfl ?_
  refine a_l2 rfl rfl rfl ?_
  refine a_eV1 rfl lL_149 mo_X12_thrown (sp_X12_thrown) rfl rfl rfl ⟨12, _, rfl, rfl, rfl⟩ rfl ?_
  refine a_l5 rfl rfl rfl ?_
  refine a_ic_eq rfl (fun c1883 => ?_) (fun c => absurd (hk) c)
  refine a_l5 rfl rfl rfl ?_
  refine a_if_ne rfl (fun c => absurd c (fun z => z rfl)) (fun c1890 => ?_)
  refine a_l3 rfl rfl rfl ?_
  refine a_s rfl rfl ?_
  refine a_lald rfl (n := 1) rfl ⟨by decide, by decide⟩ ?_
  rw [hL]
  refine a_l6 rfl rfl rfl ?_
  refine a_s rfl rfl ?_
  refine a_s rfl rfl ?_
  refine a_if_eq rfl (fun c1900 => ?_) (fun c => absurd (cmp_self _) c)
  refine a_goto rfl ?_
  exact fin_ok
