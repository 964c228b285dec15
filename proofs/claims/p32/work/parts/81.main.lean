/-! ===== every operation of the law's round (printed by program) ===== -/
set_option maxRecDepth 100000
abbrev QM : Option Value → aH → Prop := fun v _ => v = some (.int 1)
abbrev XM : String → aH → Prop := fun _ _ => False
section M81
variable {S : aS} {C C' : aM} {d d' : Nat} {Q Q' : Option Value → aH → Prop} {X X' : String → aH → Prop} {k1 k2 j1 j2 pc np tgt n : Nat} {w : Int32} {ls ls' : List (Option Value)} {st st' st0 : List Value} {h h' : aH} {ins : Instr} {As : List Value}
theorem a_ialdc {q N : Nat} {f : Nat → Int32} {i : Int32} (hC : look C pc = some (.iaload, np, tgt, w)) (hs : (q, .int, N, fun j => Value.int (f j)) ∈ S.2.2.2.1) (hi : inI i N) (kk : AW S C d Q X k1 k2 np ls (.int (f i.toNatClampNeg) :: st) h) : AW S C d Q X k1 k2 pc ls (.int i :: .ref q :: st) h := by
  intro p l e s m args below meth c H la locs cells slots mc ms G CC hS hL hR hF g1 g2
  obtain ⟨hd, rfl, -⟩ := okd CC.2.2.2.2.2.2.2.2.2 hC rfl
  obtain ⟨cell, r1, r2, r3, r4, r5, r6, r7⟩ := hS.2.2.2.1.2.2.2.2 _ hs
  have hq : H[ad G q]? = some cell := by
    rw [hF.2.1 _ (Array.getElem?_eq_some_iff.mp r1).1 r7]
    exact r1
  exact W.iald CC.1 CC.2.1 hq r2 r3 (inI_not ⟨hi.1, Nat.lt_of_lt_of_le hi.2 r4⟩) (r6 _ hi.2) rfl rfl hd (kk p l e s m args below meth c H la locs cells slots mc ms G CC hS hL hR hF g1 g2)
/-- more room is as good -/
theorem a_rm {k1' k2' : Nat} (h1 : k1 ≤ k1') (h2 : k2 ≤ k2') (k : AW S C d Q X k1 k2 pc ls st h) : AW S C d Q X k1' k2' pc ls st h := by
  intro p l e s m args below meth c H la locs cells slots mc ms G CC hS hL hR hF g1 g2
  exact k p l e s m args below meth c H la locs cells slots mc ms G CC hS hL hR hF (by omega) (by omega)
theorem a_topB {b b' : Bool} (e : b = b') (kk : AW S C d Q X k1 k2 pc ls (.int (bI b') :: st) h) : AW S C d Q X k1 k2 pc ls (.int (bI b) :: st) h := by
  subst e
  exact kk
theorem ck4 (h1 : Nat.ble (d' + 1) d = true) (h2 : Nat.ble j1 4 = true) (h3 : Nat.ble j2 24 = true) (h4 : Nat.ble (st.map fun v => v.category).sum 8 = true) : cOk d d' j1 j2 (k1 + 4) (k2 + 24) st = true := by
  unfold cOk
  rw [h1, h4, Nat.ble_eq_true_of_le (show j1 ≤ k1 + 4 by have := Nat.le_of_ble_eq_true h2; omega), Nat.ble_eq_true_of_le (show j2 ≤ k2 + 24 by have := Nat.le_of_ble_eq_true h3; omega)]
  rfl
end M81
section O81
variable {S : aS} {LL i : Nat} {xs : Nat → Int32}
/-- behind an operation -/
def KM (S : aS) (i k1 k2 : Nat) : Prop := ∀ (u5 u6 : Option Value) (I : Nat → Nat → Int32) (L : Nat → Nat → Int64) (w1 w2 t : Nat), Sy I → WK w1 → WK w2 → AW S m_L_main 1050 QM XM k1 k2 1969 [some (.ref 199), some (.ref 200), some (.ref 420), some (.ref 431), some (.int (nI i)), u5, u6] [] (hp I L w1 w2 t)
def OpOk (S : aS) (i pc : Nat) : Prop := ∀ (k1 k2 : Nat) (u5 u6 : Option Value) (I : Nat → Nat → Int32) (L : Nat → Nat → Int64) (w1 w2 t : Nat), Sy I → WK w1 → WK w2 → KM S i k1 k2 → AW S m_L_main 1050 QM XM (k1 + 4) (k2 + 24) pc [some (.ref 199), some (.ref 200), some (.ref 420), some (.ref 431), some (.int (nI i)), u5, u6] [] (hp I L w1 w2 t)
def ScM (S : aS) (LL : Nat) (xs : Nat → Int32) : Prop := (199, FieldType.int, LL, fun j => Value.int (xs j)) ∈ S.2.2.2.1
theorem op_0 (hS : HdS S) (hx : ScM S LL xs) (h3 : LL ≤ 3072) (hi : i + 6 ≤ LL) : OpOk S i 288 := by
  intro k1 k2 u5 u6 I L w1 w2 t hs hk1 hk2 hK
  refine a_l1 rfl rfl rfl ?_
  refine a_l0 rfl rfl rfl ?_
  refine a_l4 rfl rfl rfl ?_
  refine a_s rfl rfl ?_
  refine a_s rfl rfl ?_
  refine a_top (y := nI (i + 1)) (nI_addl i 1) ?_
  refine a_ialdc rfl hx (inI_nI (by omega) (by omega)) ?_
  refine a_l0 rfl rfl rfl ?_
  refine a_l4 rfl rfl rfl ?_
  refine a_s rfl rfl ?_
  refine a_s rfl rfl ?_
  refine a_top (y := nI (i + 2)) (nI_addl i 2) ?_
  refine a_ialdc rfl hx (inI_nI (by omega) (by omega)) ?_
  refine a_l0 rfl rfl rfl ?_
  refine a_l4 rfl rfl rfl ?_
  refine a_s rfl rfl ?_
  refine a_s rfl rfl ?_
  refine a_top (y := nI (i + 3)) (nI_addl i 3) ?_
  refine a_ialdc rfl hx (inI_nI (by omega) (by omega)) ?_
  refine a_l0 rfl rfl rfl ?_
  refine a_l4 rfl rfl rfl ?_
  refine a_s rfl rfl ?_
  refine a_s rfl rfl ?_
  refine a_top (y := nI (i + 4)) (nI_addl i 4) ?_
  refine a_ialdc rfl hx (inI_nI (by omega) (by omega)) ?_
  refine a_l0 rfl rfl rfl ?_
  refine a_l4 rfl rfl rfl ?_
  refine a_s rfl rfl ?_
  refine a_s rfl rfl ?_
  refine a_top (y := nI (i + 5)) (nI_addl i 5) ?_
  refine a_ialdc rfl hx (inI_nI (by omega) (by omega)) ?_
  obtain ⟨l, hl4, e1, e2⟩ := hs.2.2
  refine a_eV1 rfl lL_133 mo_X11_feed (q_X11_feed e1 hl4) rfl rfl rfl ⟨11, _, rfl, rfl, rfl⟩ rfl ?_
  refine a_ren (P := Sf l _ _ _ _ _) (Sf.mk hs hl4 e1 e2) (fun I8 s8 => ?_)
  refine a_s rfl rfl ?_
  refine a_l2 rfl rfl rfl ?_
  refine a_l0 rfl rfl rfl ?_
  refine a_l4 rfl rfl rfl ?_
  refine a_s rfl rfl ?_
  refine a_s rfl rfl ?_
  refine a_top (y := nI (i + 1)) (nI_addl i 1) ?_
  refine a_ialdc rfl hx (inI_nI (by omega) (by omega)) ?_
  refine a_l0 rfl rfl rfl ?_
  refine a_l4 rfl rfl rfl ?_
  refine a_s rfl rfl ?_
  refine a_s rfl rfl ?_
  refine a_top (y := nI (i + 2)) (nI_addl i 2) ?_
  refine a_ialdc rfl hx (inI_nI (by omega) (by omega)) ?_
  refine a_l0 rfl rfl rfl ?_
  refine a_l4 rfl rfl rfl ?_
  refine a_s rfl rfl ?_
  refine a_s rfl rfl ?_
  refine a_top (y := nI (i + 3)) (nI_addl i 3) ?_
  refine a_ialdc rfl hx (inI_nI (by omega) (by omega)) ?_
  refine a_l0 rfl rfl rfl ?_
  refine a_l4 rfl rfl rfl ?_
  refine a_s rfl rfl ?_
  refine a_s rfl rfl ?_
  refine a_top (y := nI (i + 4)) (nI_addl i 4) ?_
  refine a_ialdc rfl hx (inI_nI (by omega) (by omega)) ?_
  refine a_l0 rfl rfl rfl ?_
  refine a_l4 rfl rfl rfl ?_
  refine a_s rfl rfl ?_
  refine a_s rfl rfl ?_
  refine a_top (y := nI (i + 5)) (nI_addl i 5) ?_
  refine a_ialdc rfl hx (inI_nI (by omega) (by omega)) ?_
  refine a_gV rfl lL_137 mo_X12_feed (h_feed s8.2.2.2.2 hl4) rfl rfl rfl ⟨12, _, rfl, rfl, rfl⟩ rfl (fun v' h' hv => ?_)
  obtain ⟨rfl, g9, rfl⟩ := hv
  refine a_ren (P := Sy) (Sf.sy s8) (fun I10 s10 => ?_)
  refine a_s rfl rfl ?_
  refine a_goto rfl ?_
  exact a_rm (by omega) (by omega) (hK _ _ _ _ _ _ _ s10 hk1 hk2)
theorem op_1 (hS : HdS S) (hx : ScM S LL xs) (h3 : LL ≤ 3072) (hi : i + 6 ≤ LL) : OpOk S i 361 := by
  intro k1 k2 u5 u6 I L w1 w2 t hs hk1 hk2 hK
  refine a_l1 rfl rfl rfl ?_
  refine a_l0 rfl rfl rfl ?_
  refine a_l4 rfl rfl rfl ?_
  refine a_s rfl rfl ?_
  refine a_s rfl rfl ?_
  refine a_top (y := nI (i + 1)) (nI_addl i 1) ?_
  refine a_ialdc rfl hx (inI_nI (by omega) (by omega)) ?_
  obtain ⟨l, hl4, e1, e2⟩ := hs.2.2
  refine a_eV1 rfl lL_138 mo_X11_end q_X11_end rfl rfl rfl ⟨11, _, rfl, rfl, rfl⟩ rfl ?_
  refine a_topB (congrArg (endB _) e1) ?_
  refine a_ren (P := fun J => Se l _ (endB _ (nI l)) J) (Se.mk hs hl4 e1 e2) (fun I8 s8 => ?_)
  refine a_s rfl rfl ?_
  refine a_l2 rfl rfl rfl ?_
  refine a_l0 rfl rfl rfl ?_
  refine a_l4 rfl rfl rfl ?_
  refine a_s rfl rfl ?_
  refine a_s rfl rfl ?_
  refine a_top (y := nI (i + 1)) (nI_addl i 1) ?_
  refine a_ialdc rfl hx (inI_nI (by omega) (by omega)) ?_
  refine a_eV1 rfl lL_142 mo_X12_end r_X12_end rfl rfl rfl ⟨12, _, rfl, rfl, rfl⟩ rfl ?_
  refine a_topB (congrArg (endB _) s8.2.2.2.1) ?_
  refine a_ren (P := Sy) (Se.sy s8) (fun I10 s10 => ?_)
  refine a_s rfl rfl ?_
  refine a_goto rfl ?_
  exact a_rm (by omega) (by omega) (hK _ _ _ _ _ _ _ s10 hk1 hk2)
theorem op_2 (hS : HdS S) (hx : ScM S LL xs) (h3 : LL ≤ 3072) (hi : i + 6 ≤ LL) : OpOk S i 386 := by
  intro k1 k2 u5 u6 I L w1 w2 t hs hk1 hk2 hK
  refine a_l1 rfl rfl rfl ?_
  refine a_l3 rfl rfl rfl ?_
  obtain ⟨l1, hl1, ea1, eb1⟩ := hs.2.2
  refine a_callW rfl lL_143 mo_L_street (fL_street (S := S) hS hs ea1 hl1) rfl rfl (ck4 rfl rfl rfl rfl) rfl (fun v' h' hv => ?_) (fun _ _ z => False.elim z)
  obtain ⟨v1, I1, L1, w1a, t1, rfl, rfl, kb1, ci1, f1, ec1, J1⟩ := hv
  refine a_s5 rfl rfl rfl rfl rfl rfl ?_
  refine a_l2 rfl rfl rfl ?_
  have e212 : I1 421 = I 421 := funext fun k => f1 421 k (sJ_hi (by decide))
  have e262 : I1 426 = I 202 := (funext fun k => f1 426 k (sJ_hi (by decide))).trans hs.1.2.1
  have hr2 : RI (dn (I 421)) (pn (I 421)) I1 := hs.ri.rows fun q hq => funext fun k => f1 q k (sJ_hi (by omega))
  refine a_gV rfl lL_148 mo_X12_street (h_streetR hS.1 hr2 hs.1.2.2.1 e262 ((f1 420 9 (sJ_hi (by decide))).trans eb1) hl1 (by rw [e212]; exact hs.nm.2.2)) rfl rfl rfl ⟨12, _, rfl, rfl, rfl⟩ rfl (fun v' h' hv => ?_)
  obtain ⟨I2, nd2, np2, rfl, us2, g22, g52, st2⟩ := hv
  rw [e212] at st2
  obtain ⟨s2, v2, rfl, ez2, ev2⟩ := Sy.street hs ci1 f1 ec1 J1 us2 g22 g52 st2
  refine a_s6 rfl rfl rfl rfl rfl rfl ?_
  refine a_goto rfl ?_
  exact a_rm (by omega) (by omega) (hK _ _ _ _ _ _ _ s2 kb1 hk2)
theorem op_3 (hS : HdS S) (hx : ScM S LL xs) (h3 : LL ≤ 3072) (hi : i + 6 ≤ LL) : OpOk S i 402 := by
  intro k1 k2 u5 u6 I L w1 w2 t hs hk1 hk2 hK
  refine a_l1 rfl rfl rfl ?_
  refine a_l3 rfl rfl rfl ?_
  obtain ⟨l1, hl1, ea1, eb1⟩ := hs.2.2
  refine a_callW rfl lL_149 mo_L_law (fL_law (S := S) hS hs ea1 hl1) rfl rfl (ck4 rfl rfl rfl rfl) rfl (fun v' h' hv => ?_) (fun _ _ z => False.elim z)
  obtain ⟨v1, I1, L1, w1a, t1, rfl, rfl, kb1, m1, J1⟩ := hv
  refine a_s5 rfl rfl rfl rfl rfl rfl ?_
  refine a_l2 rfl rfl rfl ?_
  have mm2 := Mt0.all m1
  have e262 : I1 426 = I 202 := (mm2.1 426 (by decide)).trans hs.1.2.1
  have hr2 : RI (dn (I 421)) (pn (I 421)) I1 := hs.ri.rows fun q hq => mm2.1 q hq
  refine a_gV rfl lL_151 mo_X12_law (h_lawS hS.1 hr2 hs.1.2.2.1 e262 ((congrFun (mm2.1 420 (by decide)) 9).trans eb1) hl1) rfl rfl rfl ⟨12, _, rfl, rfl, rfl⟩ rfl (fun v' h' hv => ?_)
  obtain ⟨rfl, I2, rfl, us2, a2a, a2b, a2c, a2d, a2e, a2f⟩ := hv
  obtain ⟨s2, ez2⟩ := Sy.law hs m1 J1 us2 a2a a2b a2c a2d a2e a2f
  refine a_s6 rfl rfl rfl rfl rfl rfl ?_
  refine a_goto rfl ?_
  exact a_rm (by omega) (by omega) (hK _ _ _ _ _ _ _ s2 hk1 kb1)
theorem op_4 (hS : HdS S) (hx : ScM S LL xs) (h3 : LL ≤ 3072) (hi : i + 6 ≤ LL) : OpOk S i 418 := by
  intro k1 k2 u5 u6 I L w1 w2 t hs hk1 hk2 hK
  refine a_l1 rfl rfl rfl ?_
  refine a_gV rfl lL_152 mo_X11_fault (q_X11_fault_200) rfl rfl rfl ⟨11, _, rfl, rfl, rfl⟩ rfl (fun v' h' hv => ?_)
  obtain ⟨⟨v1, rfl⟩, rfl⟩ := hv
  refine a_s rfl rfl ?_
  refine a_l2 rfl rfl rfl ?_
  have hr2 := hs.ri
  refine a_gV rfl lL_155 mo_X12_fault (r_X12_fault hr2.so hr2.lw hr2.lg) rfl rfl rfl ⟨12, _, rfl, rfl, rfl⟩ rfl (fun v' h' hv => ?_)
  obtain ⟨⟨v2, rfl⟩, I2, rfl, f2⟩ := hv
  have s2 := Sy.u hs f2
  clear f2
  refine a_s rfl rfl ?_
  refine a_goto rfl ?_
  exact a_rm (by omega) (by omega) (hK _ _ _ _ _ _ _ s2 hk1 hk2)
theorem op_5 (hS : HdS S) (hx : ScM S LL xs) (h3 : LL ≤ 3072) (hi : i + 6 ≤ LL) : OpOk S i 431 := by
  intro k1 k2 u5 u6 I L w1 w2 t hs hk1 hk2 hK
  refine a_l1 rfl rfl rfl ?_
  refine a_l0 rfl rfl rfl ?_
  refine a_l4 rfl rfl rfl ?_
  refine a_s rfl rfl ?_
  refine a_s rfl rfl ?_
  refine a_top (y := nI (i + 1)) (nI_addl i 1) ?_
  refine a_ialdc rfl hx (inI_nI (by omega) (by omega)) ?_
  refine a_l0 rfl rfl rfl ?_
  refine a_l4 rfl rfl rfl ?_
  refine a_s rfl rfl ?_
  refine a_s rfl rfl ?_
  refine a_top (y := nI (i + 2)) (nI_addl i 2) ?_
  refine a_ialdc rfl hx (inI_nI (by omega) (by omega)) ?_
  refine a_l3 rfl rfl rfl ?_
  refine a_callW rfl lL_156 mo_L_person (L_person (S := S) hS hs.1.1 hk1 hk2) rfl rfl (ck4 rfl rfl rfl rfl) rfl (fun v' h' hv => ?_) (fun _ _ z => False.elim z)
  obtain ⟨⟨v1, rfl⟩, I1, L1, a1, b1, t1, rfl, f1, ka1, kb1⟩ := hv
  have s1 := Sy.q hs f1
  clear f1
  refine a_s5 rfl rfl rfl rfl rfl rfl ?_
  refine a_l2 rfl rfl rfl ?_
  refine a_l0 rfl rfl rfl ?_
  refine a_l4 rfl rfl rfl ?_
  refine a_s rfl rfl ?_
  refine a_s rfl rfl ?_
  refine a_top (y := nI (i + 1)) (nI_addl i 1) ?_
  refine a_ialdc rfl hx (inI_nI (by omega) (by omega)) ?_
  refine a_l0 rfl rfl rfl ?_
  refine a_l4 rfl rfl rfl ?_
  refine a_s rfl rfl ?_
  refine a_s rfl rfl ?_
  refine a_top (y := nI (i + 2)) (nI_addl i 2) ?_
  refine a_ialdc rfl hx (inI_nI (by omega) (by omega)) ?_
  have hr2 := s1.ri
  refine a_gV rfl lL_159 mo_X12_person (r_X12_person hr2.so hr2.lw hr2.lg) rfl rfl rfl ⟨12, _, rfl, rfl, rfl⟩ rfl (fun v' h' hv => ?_)
  obtain ⟨⟨v2, rfl⟩, I2, rfl, f2⟩ := hv
  have s2 := Sy.u s1 f2
  clear f2
  refine a_s6 rfl rfl rfl rfl rfl rfl ?_
  refine a_goto rfl ?_
  exact a_rm (by omega) (by omega) (hK _ _ _ _ _ _ _ s2 ka1 kb1)
theorem op_6 (hS : HdS S) (hx : ScM S LL xs) (h3 : LL ≤ 3072) (hi : i + 6 ≤ LL) : OpOk S i 471 := by
  intro k1 k2 u5 u6 I L w1 w2 t hs hk1 hk2 hK
  refine a_l1 rfl rfl rfl ?_
  refine a_l0 rfl rfl rfl ?_
  refine a_l4 rfl rfl rfl ?_
  refine a_s rfl rfl ?_
  refine a_s rfl rfl ?_
  refine a_top (y := nI (i + 1)) (nI_addl i 1) ?_
  refine a_ialdc rfl hx (inI_nI (by omega) (by omega)) ?_
  refine a_l0 rfl rfl rfl ?_
  refine a_l4 rfl rfl rfl ?_
  refine a_s rfl rfl ?_
  refine a_s rfl rfl ?_
  refine a_top (y := nI (i + 2)) (nI_addl i 2) ?_
  refine a_ialdc rfl hx (inI_nI (by omega) (by omega)) ?_
  refine a_l3 rfl rfl rfl ?_
  refine a_callW rfl lL_160 mo_L_duty (L_duty (S := S) hS hs.1.1 hk1 hk2) rfl rfl (ck4 rfl rfl rfl rfl) rfl (fun v' h' hv => ?_) (fun _ _ z => False.elim z)
  obtain ⟨⟨v1, rfl⟩, I1, L1, a1, b1, t1, rfl, f1, ka1, kb1⟩ := hv
  have s1 := Sy.q hs f1
  clear f1
  refine a_s5 rfl rfl rfl rfl rfl rfl ?_
  refine a_l2 rfl rfl rfl ?_
  refine a_l0 rfl rfl rfl ?_
  refine a_l4 rfl rfl rfl ?_
  refine a_s rfl rfl ?_
  refine a_s rfl rfl ?_
  refine a_top (y := nI (i + 1)) (nI_addl i 1) ?_
  refine a_ialdc rfl hx (inI_nI (by omega) (by omega)) ?_
  refine a_l0 rfl rfl rfl ?_
  refine a_l4 rfl rfl rfl ?_
  refine a_s rfl rfl ?_
  refine a_s rfl rfl ?_
  refine a_top (y := nI (i + 2)) (nI_addl i 2) ?_
  refine a_ialdc rfl hx (inI_nI (by omega) (by omega)) ?_
  have hr2 := s1.ri
  refine a_gV rfl lL_162 mo_X12_duty (r_X12_duty hr2.so hr2.lw hr2.lg) rfl rfl rfl ⟨12, _, rfl, rfl, rfl⟩ rfl (fun v' h' hv => ?_)
  obtain ⟨⟨v2, rfl⟩, I2, rfl, f2⟩ := hv
  have s2 := Sy.u s1 f2
  clear f2
  refine a_s6 rfl rfl rfl rfl rfl rfl ?_
  refine a_goto rfl ?_
  exact a_rm (by omega) (by omega) (hK _ _ _ _ _ _ _ s2 ka1 kb1)
theorem op_7 (hS : HdS S) (hx : ScM S LL xs) (h3 : LL ≤ 3072) (hi : i + 6 ≤ LL) : OpOk S i 511 := by
  intro k1 k2 u5 u6 I L w1 w2 t hs hk1 hk2 hK
  refine a_l1 rfl rfl rfl ?_
  refine a_l0 rfl rfl rfl ?_
  refine a_l4 rfl rfl rfl ?_
  refine a_s rfl rfl ?_
  refine a_s rfl rfl ?_
  refine a_top (y := nI (i + 1)) (nI_addl i 1) ?_
  refine a_ialdc rfl hx (inI_nI (by omega) (by omega)) ?_
  refine a_l3 rfl rfl rfl ?_
  obtain ⟨n1, fa1, ps1⟩ := Sim.ps (Sy.sim hs)
  refine a_callW rfl lL_163 mo_L_call (fL_call (S := S) hS hs ps1) rfl rfl (ck4 rfl rfl rfl rfl) rfl (fun v' h' hv => ?_) (fun _ _ z => False.elim z)
  obtain ⟨v1, I1, L1, t1, rfl, rfl, u1, J1⟩ := hv
  refine a_s5 rfl rfl rfl rfl rfl rfl ?_
  refine a_l2 rfl rfl rfl ?_
  refine a_l0 rfl rfl rfl ?_
  refine a_l4 rfl rfl rfl ?_
  refine a_s rfl rfl ?_
  refine a_s rfl rfl ?_
  refine a_top (y := nI (i + 1)) (nI_addl i 1) ?_
  refine a_ialdc rfl hx (inI_nI (by omega) (by omega)) ?_
  have hr2 : SO (dn (I 421)) (pn (I 421)) (I1 421) := by rw [u1 421 (by decide)]; exact hs.ri.so
  have er2 : I1 420 7 = nI n1 := (congrFun (u1 420 (by decide)) 7).trans ps1.2.2.2.1
  refine a_gV rfl lL_166 mo_X12_call (h_call hr2 er2 ps1.1) rfl rfl rfl ⟨12, _, rfl, rfl, rfl⟩ rfl (fun v' h' hv => ?_)
  rw [u1 421 (by decide)] at hv
  obtain ⟨v2, I2, rfl, rfl, s2, ez2, ev2⟩ := Sy.call hs ps1 J1 hv
  refine a_s6 rfl rfl rfl rfl rfl rfl ?_
  refine a_goto rfl ?_
  exact a_rm (by omega) (by omega) (hK _ _ _ _ _ _ _ s2 hk1 hk2)
theorem op_8 (hS : HdS S) (hx : ScM S LL xs) (h3 : LL ≤ 3072) (hi : i + 6 ≤ LL) : OpOk S i 539 := by
  intro k1 k2 u5 u6 I L w1 w2 t hs hk1 hk2 hK
  refine a_l1 rfl rfl rfl ?_
  refine a_l0 rfl rfl rfl ?_
  refine a_l4 rfl rfl rfl ?_
  refine a_s rfl rfl ?_
  refine a_s rfl rfl ?_
  refine a_top (y := nI (i + 1)) (nI_addl i 1) ?_
  refine a_ialdc rfl hx (inI_nI (by omega) (by omega)) ?_
  refine a_l3 rfl rfl rfl ?_
  obtain ⟨n1, fa1, ps1⟩ := Sim.ps (Sy.sim hs)
  refine a_callW rfl lL_167 mo_L_put (fL_put (S := S) hS hs ps1) rfl rfl (ck4 rfl rfl rfl rfl) rfl (fun v' h' hv => ?_) (fun _ _ z => False.elim z)
  obtain ⟨v1, I1, L1, t1, rfl, rfl, u1, J1⟩ := hv
  refine a_s5 rfl rfl rfl rfl rfl rfl ?_
  refine a_l2 rfl rfl rfl ?_
  refine a_l0 rfl rfl rfl ?_
  refine a_l4 rfl rfl rfl ?_
  refine a_s rfl rfl ?_
  refine a_s rfl rfl ?_
  refine a_top (y := nI (i + 1)) (nI_addl i 1) ?_
  refine a_ialdc rfl hx (inI_nI (by omega) (by omega)) ?_
  have hr2 : SO (dn (I 421)) (pn (I 421)) (I1 421) := by rw [u1 421 (by decide)]; exact hs.ri.so
  have er2 : I1 420 7 = nI n1 := (congrFun (u1 420 (by decide)) 7).trans ps1.2.2.2.1
  refine a_gV rfl lL_169 mo_X12_put (h_put hr2 er2 ps1.1) rfl rfl rfl ⟨12, _, rfl, rfl, rfl⟩ rfl (fun v' h' hv => ?_)
  rw [u1 421 (by decide)] at hv
  obtain ⟨v2, I2, rfl, rfl, s2, ez2, ev2⟩ := Sy.put hs ps1 J1 hv
  refine a_s6 rfl rfl rfl rfl rfl rfl ?_
  refine a_goto rfl ?_
  exact a_rm (by omega) (by omega) (hK _ _ _ _ _ _ _ s2 hk1 hk2)
theorem op_9 (hS : HdS S) (hx : ScM S LL xs) (h3 : LL ≤ 3072) (hi : i + 6 ≤ LL) : OpOk S i 567 := by
  intro k1 k2 u5 u6 I L w1 w2 t hs hk1 hk2 hK
  refine a_l1 rfl rfl rfl ?_
  refine a_l0 rfl rfl rfl ?_
  refine a_l4 rfl rfl rfl ?_
  refine a_s rfl rfl ?_
  refine a_s rfl rfl ?_
  refine a_top (y := nI (i + 1)) (nI_addl i 1) ?_
  refine a_ialdc rfl hx (inI_nI (by omega) (by omega)) ?_
  refine a_l3 rfl rfl rfl ?_
  obtain ⟨n1, fa1, ps1⟩ := Sim.ps (Sy.sim hs)
  refine a_callW rfl lL_170 mo_L_forget (fL_forget (S := S) hS hs ps1) rfl rfl (ck4 rfl rfl rfl rfl) rfl (fun v' h' hv => ?_) (fun _ _ z => False.elim z)
  obtain ⟨v1, I1, L1, t1, rfl, rfl, u1, J1⟩ := hv
  refine a_s5 rfl rfl rfl rfl rfl rfl ?_
  refine a_l2 rfl rfl rfl ?_
  refine a_l0 rfl rfl rfl ?_
  refine a_l4 rfl rfl rfl ?_
  refine a_s rfl rfl ?_
  refine a_s rfl rfl ?_
  refine a_top (y := nI (i + 1)) (nI_addl i 1) ?_
  refine a_ialdc rfl hx (inI_nI (by omega) (by omega)) ?_
  have hr2 : SO (dn (I 421)) (pn (I 421)) (I1 421) := by rw [u1 421 (by decide)]; exact hs.ri.so
  have er2 : I1 420 7 = nI n1 := (congrFun (u1 420 (by decide)) 7).trans ps1.2.2.2.1
  refine a_gV rfl lL_172 mo_X12_forget (h_forget hr2 er2 ps1.1) rfl rfl rfl ⟨12, _, rfl, rfl, rfl⟩ rfl (fun v' h' hv => ?_)
  rw [u1 421 (by decide)] at hv
  obtain ⟨v2, I2, rfl, rfl, s2, ez2, ev2⟩ := Sy.stt (s := 2) hs ps1 (by decide) (by decide) (by decide) J1 hv
  refine a_s6 rfl rfl rfl rfl rfl rfl ?_
  refine a_goto rfl ?_
  exact a_rm (by omega) (by omega) (hK _ _ _ _ _ _ _ s2 hk1 hk2)
theorem op_10 (hS : HdS S) (hx : ScM S LL xs) (h3 : LL ≤ 3072) (hi : i + 6 ≤ LL) : OpOk S i 595 := by
  intro k1 k2 u5 u6 I L w1 w2 t hs hk1 hk2 hK
  refine a_l1 rfl rfl rfl ?_
  refine a_l0 rfl rfl rfl ?_
  refine a_l4 rfl rfl rfl ?_
  refine a_s rfl rfl ?_
  refine a_s rfl rfl ?_
  refine a_top (y := nI (i + 1)) (nI_addl i 1) ?_
  refine a_ialdc rfl hx (inI_nI (by omega) (by omega)) ?_
  refine a_l3 rfl rfl rfl ?_
  obtain ⟨n1, fa1, ps1⟩ := Sim.ps (Sy.sim hs)
  refine a_callW rfl lL_173 mo_L_recall (fL_recall (S := S) hS hs ps1) rfl rfl (ck4 rfl rfl rfl rfl) rfl (fun v' h' hv => ?_) (fun _ _ z => False.elim z)
  obtain ⟨v1, I1, L1, t1, rfl, rfl, u1, J1⟩ := hv
  refine a_s5 rfl rfl rfl rfl rfl rfl ?_
  refine a_l2 rfl rfl rfl ?_
  refine a_l0 rfl rfl rfl ?_
  refine a_l4 rfl rfl rfl ?_
  refine a_s rfl rfl ?_
  refine a_s rfl rfl ?_
  refine a_top (y := nI (i + 1)) (nI_addl i 1) ?_
  refine a_ialdc rfl hx (inI_nI (by omega) (by omega)) ?_
  have hr2 : SO (dn (I 421)) (pn (I 421)) (I1 421) := by rw [u1 421 (by decide)]; exact hs.ri.so
  have er2 : I1 420 7 = nI n1 := (congrFun (u1 420 (by decide)) 7).trans ps1.2.2.2.1
  refine a_gV rfl lL_175 mo_X12_recall (h_recall hr2 er2 ps1.1) rfl rfl rfl ⟨12, _, rfl, rfl, rfl⟩ rfl (fun v' h' hv => ?_)
  rw [u1 421 (by decide)] at hv
  obtain ⟨v2, I2, rfl, rfl, s2, ez2, ev2⟩ := Sy.stt (s := 0) hs ps1 (by decide) (by decide) (by decide) J1 hv
  refine a_s6 rfl rfl rfl rfl rfl rfl ?_
  refine a_goto rfl ?_
  exact a_rm (by omega) (by omega) (hK _ _ _ _ _ _ _ s2 hk1 hk2)
theorem op_11 (hS : HdS S) (hx : ScM S LL xs) (h3 : LL ≤ 3072) (hi : i + 6 ≤ LL) : OpOk S i 623 := by
  intro k1 k2 u5 u6 I L w1 w2 t hs hk1 hk2 hK
  refine a_l1 rfl rfl rfl ?_
  refine a_l0 rfl rfl rfl ?_
  refine a_l4 rfl rfl rfl ?_
  refine a_s rfl rfl ?_
  refine a_s rfl rfl ?_
  refine a_top (y := nI (i + 1)) (nI_addl i 1) ?_
  refine a_ialdc rfl hx (inI_nI (by omega) (by omega)) ?_
  refine a_l0 rfl rfl rfl ?_
  refine a_l4 rfl rfl rfl ?_
  refine a_s rfl rfl ?_
  refine a_s rfl rfl ?_
  refine a_top (y := nI (i + 2)) (nI_addl i 2) ?_
  refine a_ialdc rfl hx (inI_nI (by omega) (by omega)) ?_
  refine a_l3 rfl rfl rfl ?_
  obtain ⟨n1, fa1, ps1⟩ := Sim.ps (Sy.sim hs)
  refine a_callW rfl lL_176 mo_L_hand (fL_hand (S := S) hS hs ps1) rfl rfl (ck4 rfl rfl rfl rfl) rfl (fun v' h' hv => ?_) (fun _ _ z => False.elim z)
  obtain ⟨v1, I1, L1, t1, rfl, rfl, u1, J1⟩ := hv
  refine a_s5 rfl rfl rfl rfl rfl rfl ?_
  refine a_l2 rfl rfl rfl ?_
  refine a_l0 rfl rfl rfl ?_
  refine a_l4 rfl rfl rfl ?_
  refine a_s rfl rfl ?_
  refine a_s rfl rfl ?_
  refine a_top (y := nI (i + 1)) (nI_addl i 1) ?_
  refine a_ialdc rfl hx (inI_nI (by omega) (by omega)) ?_
  refine a_l0 rfl rfl rfl ?_
  refine a_l4 rfl rfl rfl ?_
  refine a_s rfl rfl ?_
  refine a_s rfl rfl ?_
  refine a_top (y := nI (i + 2)) (nI_addl i 2) ?_
  refine a_ialdc rfl hx (inI_nI (by omega) (by omega)) ?_
  have hr2 : SO (dn (I 421)) (pn (I 421)) (I1 421) := by rw [u1 421 (by decide)]; exact hs.ri.so
  have er2 : I1 420 7 = nI n1 := (congrFun (u1 420 (by decide)) 7).trans ps1.2.2.2.1
  refine a_gV rfl lL_178 mo_X12_hand (h_hand hr2 er2 ps1.1) rfl rfl rfl ⟨12, _, rfl, rfl, rfl⟩ rfl (fun v' h' hv => ?_)
  rw [u1 421 (by decide)] at hv
  obtain ⟨v2, I2, rfl, rfl, s2, ez2, ev2⟩ := Sy.hand hs ps1 J1 hv
  refine a_s6 rfl rfl rfl rfl rfl rfl ?_
  refine a_goto rfl ?_
  exact a_rm (by omega) (by omega) (hK _ _ _ _ _ _ _ s2 hk1 hk2)
theorem op_12 (hS : HdS S) (hx : ScM S LL xs) (h3 : LL ≤ 3072) (hi : i + 6 ≤ LL) : OpOk S i 663 := by
  intro k1 k2 u5 u6 I L w1 w2 t hs hk1 hk2 hK
  refine a_l1 rfl rfl rfl ?_
  refine a_l0 rfl rfl rfl ?_
  refine a_l4 rfl rfl rfl ?_
  refine a_s rfl rfl ?_
  refine a_s rfl rfl ?_
  refine a_top (y := nI (i + 1)) (nI_addl i 1) ?_
  refine a_ialdc rfl hx (inI_nI (by omega) (by omega)) ?_
  refine a_l0 rfl rfl rfl ?_
  refine a_l4 rfl rfl rfl ?_
  refine a_s rfl rfl ?_
  refine a_s rfl rfl ?_
  refine a_top (y := nI (i + 2)) (nI_addl i 2) ?_
  refine a_ialdc rfl hx (inI_nI (by omega) (by omega)) ?_
  refine a_l3 rfl rfl rfl ?_
  obtain ⟨n1, fa1, ps1⟩ := Sim.ps (Sy.sim hs)
  refine a_callW rfl lL_179 mo_L_lean (fL_lean (S := S) hS hs ps1) rfl rfl (ck4 rfl rfl rfl rfl) rfl (fun v' h' hv => ?_) (fun _ _ z => False.elim z)
  obtain ⟨v1, I1, L1, t1, rfl, rfl, u1, J1⟩ := hv
  refine a_s5 rfl rfl rfl rfl rfl rfl ?_
  refine a_l2 rfl rfl rfl ?_
  refine a_l0 rfl rfl rfl ?_
  refine a_l4 rfl rfl rfl ?_
  refine a_s rfl rfl ?_
  refine a_s rfl rfl ?_
  refine a_top (y := nI (i + 1)) (nI_addl i 1) ?_
  refine a_ialdc rfl hx (inI_nI (by omega) (by omega)) ?_
  refine a_l0 rfl rfl rfl ?_
  refine a_l4 rfl rfl rfl ?_
  refine a_s rfl rfl ?_
  refine a_s rfl rfl ?_
  refine a_top (y := nI (i + 2)) (nI_addl i 2) ?_
  refine a_ialdc rfl hx (inI_nI (by omega) (by omega)) ?_
  have hr2 : SO (dn (I 421)) (pn (I 421)) (I1 421) := by rw [u1 421 (by decide)]; exact hs.ri.so
  have er2 : I1 420 7 = nI n1 := (congrFun (u1 420 (by decide)) 7).trans ps1.2.2.2.1
  refine a_gV rfl lL_181 mo_X12_lean (h_lean hr2 er2 ps1.1) rfl rfl rfl ⟨12, _, rfl, rfl, rfl⟩ rfl (fun v' h' hv => ?_)
  rw [u1 421 (by decide)] at hv
  obtain ⟨v2, I2, rfl, rfl, s2, ez2, ev2⟩ := Sy.lean hs ps1 J1 hv
  refine a_s6 rfl rfl rfl rfl rfl rfl ?_
  refine a_goto rfl ?_
  exact a_rm (by omega) (by omega) (hK _ _ _ _ _ _ _ s2 hk1 hk2)
theorem op_13 (hS : HdS S) (hx : ScM S LL xs) (h3 : LL ≤ 3072) (hi : i + 6 ≤ LL) : OpOk S i 703 := by
  intro k1 k2 u5 u6 I L w1 w2 t hs hk1 hk2 hK
  refine a_l1 rfl rfl rfl ?_
  refine a_l0 rfl rfl rfl ?_
  refine a_l4 rfl rfl rfl ?_
  refine a_s rfl rfl ?_
  refine a_s rfl rfl ?_
  refine a_top (y := nI (i + 1)) (nI_addl i 1) ?_
  refine a_ialdc rfl hx (inI_nI (by omega) (by omega)) ?_
  refine a_l0 rfl rfl rfl ?_
  refine a_l4 rfl rfl rfl ?_
  refine a_s rfl rfl ?_
  refine a_s rfl rfl ?_
  refine a_top (y := nI (i + 2)) (nI_addl i 2) ?_
  refine a_ialdc rfl hx (inI_nI (by omega) (by omega)) ?_
  refine a_l3 rfl rfl rfl ?_
  obtain ⟨n1, fa1, ps1⟩ := Sim.ps (Sy.sim hs)
  refine a_callW rfl lL_182 mo_L_free (fL_free (S := S) hS hs ps1) rfl rfl (ck4 rfl rfl rfl rfl) rfl (fun v' h' hv => ?_) (fun _ _ z => False.elim z)
  obtain ⟨v1, I1, L1, t1, rfl, rfl, u1, J1⟩ := hv
  refine a_s5 rfl rfl rfl rfl rfl rfl ?_
  refine a_l2 rfl rfl rfl ?_
  refine a_l0 rfl rfl rfl ?_
  refine a_l4 rfl rfl rfl ?_
  refine a_s rfl rfl ?_
  refine a_s rfl rfl ?_
  refine a_top (y := nI (i + 1)) (nI_addl i 1) ?_
  refine a_ialdc rfl hx (inI_nI (by omega) (by omega)) ?_
  refine a_l0 rfl rfl rfl ?_
  refine a_l4 rfl rfl rfl ?_
  refine a_s rfl rfl ?_
  refine a_s rfl rfl ?_
  refine a_top (y := nI (i + 2)) (nI_addl i 2) ?_
  refine a_ialdc rfl hx (inI_nI (by omega) (by omega)) ?_
  have hr2 : SO (dn (I 421)) (pn (I 421)) (I1 421) := by rw [u1 421 (by decide)]; exact hs.ri.so
  have er2 : I1 420 7 = nI n1 := (congrFun (u1 420 (by decide)) 7).trans ps1.2.2.2.1
  refine a_gV rfl lL_184 mo_X12_free (h_free hr2 er2 ps1.1) rfl rfl rfl ⟨12, _, rfl, rfl, rfl⟩ rfl (fun v' h' hv => ?_)
  rw [u1 421 (by decide)] at hv
  obtain ⟨v2, I2, rfl, rfl, s2, ez2, ev2⟩ := Sy.free hs ps1 J1 hv
  refine a_s6 rfl rfl rfl rfl rfl rfl ?_
  refine a_goto rfl ?_
  exact a_rm (by omega) (by omega) (hK _ _ _ _ _ _ _ s2 hk1 hk2)
theorem op_14 (hS : HdS S) (hx : ScM S LL xs) (h3 : LL ≤ 3072) (hi : i + 6 ≤ LL) : OpOk S i 743 := by
  intro k1 k2 u5 u6 I L w1 w2 t hs hk1 hk2 hK
  refine a_l1 rfl rfl rfl ?_
  refine a_l0 rfl rfl rfl ?_
  refine a_l4 rfl rfl rfl ?_
  refine a_s rfl rfl ?_
  refine a_s rfl rfl ?_
  refine a_top (y := nI (i + 1)) (nI_addl i 1) ?_
  refine a_ialdc rfl hx (inI_nI (by omega) (by omega)) ?_
  refine a_l3 rfl rfl rfl ?_
  obtain ⟨n1, fa1, ps1⟩ := Sim.ps (Sy.sim hs)
  obtain ⟨nl1, len1, cd1, fc1, fn1, lw1, ln1⟩ := Sy.nl hs
  refine a_callW rfl lL_185 mo_L_days (fL_days (S := S) hS hs ps1 lw1 ln1) rfl rfl (ck4 rfl rfl rfl rfl) rfl (fun v' h' hv => ?_) (fun _ _ z => False.elim z)
  obtain ⟨v1, I1, L1, t1, rfl, rfl, u1, J1⟩ := hv
  refine a_s5 rfl rfl rfl rfl rfl rfl ?_
  refine a_l2 rfl rfl rfl ?_
  refine a_l0 rfl rfl rfl ?_
  refine a_l4 rfl rfl rfl ?_
  refine a_s rfl rfl ?_
  refine a_s rfl rfl ?_
  refine a_top (y := nI (i + 1)) (nI_addl i 1) ?_
  refine a_ialdc rfl hx (inI_nI (by omega) (by omega)) ?_
  have er2 : I1 420 7 = nI n1 := (congrFun (u1 420 (by decide)) 7).trans ps1.2.2.2.1
  refine a_gV rfl lL_187 mo_X12_days (h_days (nl := nl1) (len := len1) (cd := cd1) (fa' := fc1) (fn := fn1) (by rw [u1 421 (by decide)]; exact hs.nm.2.2) (by rw [u1 421 (by decide)]; exact lw1.2.1) (by rw [u1 421 (by decide)]; exact ln1) er2 ps1.1) rfl rfl rfl ⟨12, _, rfl, rfl, rfl⟩ rfl (fun v' h' hv => ?_)
  rw [u1 421 (by decide)] at hv
  obtain ⟨v2, I2, rfl, rfl, s2, ez2⟩ := Sy.days hs ps1 ln1 u1 J1 hv
  refine a_s6 rfl rfl rfl rfl rfl rfl ?_
  refine a_goto rfl ?_
  exact a_rm (by omega) (by omega) (hK _ _ _ _ _ _ _ s2 hk1 hk2)
theorem op_15 (hS : HdS S) (hx : ScM S LL xs) (h3 : LL ≤ 3072) (hi : i + 6 ≤ LL) : OpOk S i 771 := by
  intro k1 k2 u5 u6 I L w1 w2 t hs hk1 hk2 hK
  refine a_l1 rfl rfl rfl ?_
  refine a_l0 rfl rfl rfl ?_
  refine a_l4 rfl rfl rfl ?_
  refine a_s rfl rfl ?_
  refine a_s rfl rfl ?_
  refine a_top (y := nI (i + 1)) (nI_addl i 1) ?_
  refine a_ialdc rfl hx (inI_nI (by omega) (by omega)) ?_
  refine a_gV rfl lL_188 mo_X11_parade (q_X11_parade_200) rfl rfl rfl ⟨11, _, rfl, rfl, rfl⟩ rfl (fun v' h' hv => ?_)
  obtain ⟨⟨v1, rfl⟩, rfl⟩ := hv
  refine a_s rfl rfl ?_
  refine a_l2 rfl rfl rfl ?_
  refine a_l0 rfl rfl rfl ?_
  refine a_l4 rfl rfl rfl ?_
  refine a_s rfl rfl ?_
  refine a_s rfl rfl ?_
  refine a_top (y := nI (i + 1)) (nI_addl i 1) ?_
  refine a_ialdc rfl hx (inI_nI (by omega) (by omega)) ?_
  have hr2 := hs.ri
  refine a_gV rfl lL_191 mo_X12_parade (r_X12_parade hr2.so hr2.lw hr2.lg) rfl rfl rfl ⟨12, _, rfl, rfl, rfl⟩ rfl (fun v' h' hv => ?_)
  obtain ⟨⟨v2, rfl⟩, I2, rfl, f2⟩ := hv
  have s2 := Sy.u hs f2
  clear f2
  refine a_s rfl rfl ?_
  refine a_goto rfl ?_
  exact a_rm (by omega) (by omega) (hK _ _ _ _ _ _ _ s2 hk1 hk2)
theorem op_16 (hS : HdS S) (hx : ScM S LL xs) (h3 : LL ≤ 3072) (hi : i + 6 ≤ LL) : OpOk S i 796 := by
  intro k1 k2 u5 u6 I L w1 w2 t hs hk1 hk2 hK
  refine a_l1 rfl rfl rfl ?_
  refine a_gV rfl lL_192 mo_X11_can (q_X11_can_200) rfl rfl rfl ⟨11, _, rfl, rfl, rfl⟩ rfl (fun v' h' hv => ?_)
  obtain ⟨⟨v1, rfl⟩, rfl⟩ := hv
  refine a_s rfl rfl ?_
  refine a_l2 rfl rfl rfl ?_
  have hr2 := hs.ri
  refine a_gV rfl lL_195 mo_X12_can (r_X12_can hr2.so hr2.lw hr2.lg) rfl rfl rfl ⟨12, _, rfl, rfl, rfl⟩ rfl (fun v' h' hv => ?_)
  obtain ⟨⟨v2, rfl⟩, I2, rfl, f2⟩ := hv
  have s2 := Sy.u hs f2
  clear f2
  refine a_s rfl rfl ?_
  refine a_goto rfl ?_
  exact a_rm (by omega) (by omega) (hK _ _ _ _ _ _ _ s2 hk1 hk2)
theorem op_17 (hS : HdS S) (hx : ScM S LL xs) (h3 : LL ≤ 3072) (hi : i + 6 ≤ LL) : OpOk S i 809 := by
  intro k1 k2 u5 u6 I L w1 w2 t hs hk1 hk2 hK
  refine a_l1 rfl rfl rfl ?_
  refine a_l0 rfl rfl rfl ?_
  refine a_l4 rfl rfl rfl ?_
  refine a_s rfl rfl ?_
  refine a_s rfl rfl ?_
  refine a_top (y := nI (i + 1)) (nI_addl i 1) ?_
  refine a_ialdc rfl hx (inI_nI (by omega) (by omega)) ?_
  refine a_l0 rfl rfl rfl ?_
  refine a_l4 rfl rfl rfl ?_
  refine a_s rfl rfl ?_
  refine a_s rfl rfl ?_
  refine a_top (y := nI (i + 2)) (nI_addl i 2) ?_
  refine a_ialdc rfl hx (inI_nI (by omega) (by omega)) ?_
  refine a_l3 rfl rfl rfl ?_
  refine a_callW rfl lL_196 mo_L_greets (L_greets (S := S) hS hs.1.1 hk1 hk2) rfl rfl (ck4 rfl rfl rfl rfl) rfl (fun v' h' hv => ?_) (fun _ _ z => False.elim z)
  obtain ⟨⟨v1, rfl⟩, I1, L1, a1, b1, t1, rfl, f1, ka1, kb1⟩ := hv
  have s1 := Sy.q hs f1
  clear f1
  refine a_s5 rfl rfl rfl rfl rfl rfl ?_
  refine a_l2 rfl rfl rfl ?_
  refine a_l0 rfl rfl rfl ?_
  refine a_l4 rfl rfl rfl ?_
  refine a_s rfl rfl ?_
  refine a_s rfl rfl ?_
  refine a_top (y := nI (i + 1)) (nI_addl i 1) ?_
  refine a_ialdc rfl hx (inI_nI (by omega) (by omega)) ?_
  refine a_l0 rfl rfl rfl ?_
  refine a_l4 rfl rfl rfl ?_
  refine a_s rfl rfl ?_
  refine a_s rfl rfl ?_
  refine a_top (y := nI (i + 2)) (nI_addl i 2) ?_
  refine a_ialdc rfl hx (inI_nI (by omega) (by omega)) ?_
  have hr2 := s1.ri
  refine a_gV rfl lL_198 mo_X12_greets (r_X12_greets hr2.so hr2.lw hr2.lg) rfl rfl rfl ⟨12, _, rfl, rfl, rfl⟩ rfl (fun v' h' hv => ?_)
  obtain ⟨⟨v2, rfl⟩, I2, rfl, f2⟩ := hv
  have s2 := Sy.u s1 f2
  clear f2
  refine a_s6 rfl rfl rfl rfl rfl rfl ?_
  refine a_goto rfl ?_
  exact a_rm (by omega) (by omega) (hK _ _ _ _ _ _ _ s2 ka1 kb1)
theorem op_18 (hS : HdS S) (hx : ScM S LL xs) (h3 : LL ≤ 3072) (hi : i + 6 ≤ LL) : OpOk S i 849 := by
  intro k1 k2 u5 u6 I L w1 w2 t hs hk1 hk2 hK
  refine a_l1 rfl rfl rfl ?_
  refine a_l0 rfl rfl rfl ?_
  refine a_l4 rfl rfl rfl ?_
  refine a_s rfl rfl ?_
  refine a_s rfl rfl ?_
  refine a_top (y := nI (i + 1)) (nI_addl i 1) ?_
  refine a_ialdc rfl hx (inI_nI (by omega) (by omega)) ?_
  refine a_l0 rfl rfl rfl ?_
  refine a_l4 rfl rfl rfl ?_
  refine a_s rfl rfl ?_
  refine a_s rfl rfl ?_
  refine a_top (y := nI (i + 2)) (nI_addl i 2) ?_
  refine a_ialdc rfl hx (inI_nI (by omega) (by omega)) ?_
  refine a_l3 rfl rfl rfl ?_
  refine a_callW rfl lL_199 mo_L_where (L_where (S := S) hS hs.1.1 hk1 hk2) rfl rfl (ck4 rfl rfl rfl rfl) rfl (fun v' h' hv => ?_) (fun _ _ z => False.elim z)
  obtain ⟨⟨v1, rfl⟩, I1, L1, a1, b1, t1, rfl, f1, ka1, kb1⟩ := hv
  have s1 := Sy.q hs f1
  clear f1
  refine a_s5 rfl rfl rfl rfl rfl rfl ?_
  refine a_l2 rfl rfl rfl ?_
  refine a_l0 rfl rfl rfl ?_
  refine a_l4 rfl rfl rfl ?_
  refine a_s rfl rfl ?_
  refine a_s rfl rfl ?_
  refine a_top (y := nI (i + 1)) (nI_addl i 1) ?_
  refine a_ialdc rfl hx (inI_nI (by omega) (by omega)) ?_
  refine a_l0 rfl rfl rfl ?_
  refine a_l4 rfl rfl rfl ?_
  refine a_s rfl rfl ?_
  refine a_s rfl rfl ?_
  refine a_top (y := nI (i + 2)) (nI_addl i 2) ?_
  refine a_ialdc rfl hx (inI_nI (by omega) (by omega)) ?_
  have hr2 := s1.ri
  refine a_gV rfl lL_201 mo_X12_where (r_X12_where hr2.so hr2.lw hr2.lg) rfl rfl rfl ⟨12, _, rfl, rfl, rfl⟩ rfl (fun v' h' hv => ?_)
  obtain ⟨⟨v2, rfl⟩, I2, rfl, f2⟩ := hv
  have s2 := Sy.u s1 f2
  clear f2
  refine a_s6 rfl rfl rfl rfl rfl rfl ?_
  refine a_goto rfl ?_
  exact a_rm (by omega) (by omega) (hK _ _ _ _ _ _ _ s2 ka1 kb1)
theorem op_19 (hS : HdS S) (hx : ScM S LL xs) (h3 : LL ≤ 3072) (hi : i + 6 ≤ LL) : OpOk S i 889 := by
  intro k1 k2 u5 u6 I L w1 w2 t hs hk1 hk2 hK
  refine a_l1 rfl rfl rfl ?_
  refine a_l0 rfl rfl rfl ?_
  refine a_l4 rfl rfl rfl ?_
  refine a_s rfl rfl ?_
  refine a_s rfl rfl ?_
  refine a_top (y := nI (i + 1)) (nI_addl i 1) ?_
  refine a_ialdc rfl hx (inI_nI (by omega) (by omega)) ?_
  refine a_l0 rfl rfl rfl ?_
  refine a_l4 rfl rfl rfl ?_
  refine a_s rfl rfl ?_
  refine a_s rfl rfl ?_
  refine a_top (y := nI (i + 2)) (nI_addl i 2) ?_
  refine a_ialdc rfl hx (inI_nI (by omega) (by omega)) ?_
  refine a_l0 rfl rfl rfl ?_
  refine a_l4 rfl rfl rfl ?_
  refine a_s rfl rfl ?_
  refine a_s rfl rfl ?_
  refine a_top (y := nI (i + 3)) (nI_addl i 3) ?_
  refine a_ialdc rfl hx (inI_nI (by omega) (by omega)) ?_
  refine a_l3 rfl rfl rfl ?_
  refine a_callW rfl lL_202 mo_L_crowd (L_crowd (S := S) hS hs.1.1 hk1 hk2) rfl rfl (ck4 rfl rfl rfl rfl) rfl (fun v' h' hv => ?_) (fun _ _ z => False.elim z)
  obtain ⟨⟨v1, rfl⟩, I1, L1, a1, b1, t1, rfl, f1, ka1, kb1⟩ := hv
  have s1 := Sy.q hs f1
  clear f1
  refine a_s5 rfl rfl rfl rfl rfl rfl ?_
  refine a_l2 rfl rfl rfl ?_
  refine a_l0 rfl rfl rfl ?_
  refine a_l4 rfl rfl rfl ?_
  refine a_s rfl rfl ?_
  refine a_s rfl rfl ?_
  refine a_top (y := nI (i + 1)) (nI_addl i 1) ?_
  refine a_ialdc rfl hx (inI_nI (by omega) (by omega)) ?_
  refine a_l0 rfl rfl rfl ?_
  refine a_l4 rfl rfl rfl ?_
  refine a_s rfl rfl ?_
  refine a_s rfl rfl ?_
  refine a_top (y := nI (i + 2)) (nI_addl i 2) ?_
  refine a_ialdc rfl hx (inI_nI (by omega) (by omega)) ?_
  refine a_l0 rfl rfl rfl ?_
  refine a_l4 rfl rfl rfl ?_
  refine a_s rfl rfl ?_
  refine a_s rfl rfl ?_
  refine a_top (y := nI (i + 3)) (nI_addl i 3) ?_
  refine a_ialdc rfl hx (inI_nI (by omega) (by omega)) ?_
  have hr2 := s1.ri
  refine a_gV rfl lL_205 mo_X12_crowd (r_X12_crowd hr2.so hr2.lw hr2.lg) rfl rfl rfl ⟨12, _, rfl, rfl, rfl⟩ rfl (fun v' h' hv => ?_)
  obtain ⟨⟨v2, rfl⟩, I2, rfl, f2⟩ := hv
  have s2 := Sy.u s1 f2
  clear f2
  refine a_s6 rfl rfl rfl rfl rfl rfl ?_
  refine a_goto rfl ?_
  exact a_rm (by omega) (by omega) (hK _ _ _ _ _ _ _ s2 ka1 kb1)
theorem op_20 (hS : HdS S) (hx : ScM S LL xs) (h3 : LL ≤ 3072) (hi : i + 6 ≤ LL) : OpOk S i 941 := by
  intro k1 k2 u5 u6 I L w1 w2 t hs hk1 hk2 hK
  refine a_l1 rfl rfl rfl ?_
  obtain ⟨nd1, hn1, hd1⟩ := hs.1.1 235 (by decide) (by decide)
  refine a_gV rfl lL_206 mo_X11_most (q_X11_most_200 hd1 hn1) rfl rfl rfl ⟨11, _, rfl, rfl, rfl⟩ rfl (fun v' h' hv => ?_)
  obtain ⟨⟨v1, rfl⟩, I1, rfl, f1⟩ := hv
  have s1 := Sy.q hs f1
  clear f1
  refine a_s rfl rfl ?_
  refine a_l2 rfl rfl rfl ?_
  have hr2 := s1.ri
  refine a_gV rfl lL_209 mo_X12_most (r_X12_most hr2.so hr2.lw hr2.lg) rfl rfl rfl ⟨12, _, rfl, rfl, rfl⟩ rfl (fun v' h' hv => ?_)
  obtain ⟨⟨v2, rfl⟩, I2, rfl, f2⟩ := hv
  have s2 := Sy.u s1 f2
  clear f2
  refine a_s rfl rfl ?_
  refine a_goto rfl ?_
  exact a_rm (by omega) (by omega) (hK _ _ _ _ _ _ _ s2 hk1 hk2)
theorem op_21 (hS : HdS S) (hx : ScM S LL xs) (h3 : LL ≤ 3072) (hi : i + 6 ≤ LL) : OpOk S i 954 := by
  intro k1 k2 u5 u6 I L w1 w2 t hs hk1 hk2 hK
  refine a_l1 rfl rfl rfl ?_
  refine a_l0 rfl rfl rfl ?_
  refine a_l4 rfl rfl rfl ?_
  refine a_s rfl rfl ?_
  refine a_s rfl rfl ?_
  refine a_top (y := nI (i + 1)) (nI_addl i 1) ?_
  refine a_ialdc rfl hx (inI_nI (by omega) (by omega)) ?_
  refine a_l0 rfl rfl rfl ?_
  refine a_l4 rfl rfl rfl ?_
  refine a_s rfl rfl ?_
  refine a_s rfl rfl ?_
  refine a_top (y := nI (i + 2)) (nI_addl i 2) ?_
  refine a_ialdc rfl hx (inI_nI (by omega) (by omega)) ?_
  refine a_if_eq rfl (fun _ => ?_) (fun _ => ?_)
  · refine a_s rfl rfl ?_
    refine a_l3 rfl rfl rfl ?_
    refine a_callW rfl lL_210 mo_L_does (L_does (S := S) hS hs.1.1 hk1 hk2 (b2 := false)) rfl rfl (ck4 rfl rfl rfl rfl) rfl (fun v' h' hv => ?_) (fun _ _ z => False.elim z)
    obtain ⟨⟨v1, rfl⟩, I1, L1, a1, b1, t1, rfl, f1, ka1, kb1⟩ := hv
    have s1 := Sy.q hs f1
    clear f1
    refine a_s5 rfl rfl rfl rfl rfl rfl ?_
    refine a_l2 rfl rfl rfl ?_
    refine a_l0 rfl rfl rfl ?_
    refine a_l4 rfl rfl rfl ?_
    refine a_s rfl rfl ?_
    refine a_s rfl rfl ?_
    refine a_top (y := nI (i + 1)) (nI_addl i 1) ?_
    refine a_ialdc rfl hx (inI_nI (by omega) (by omega)) ?_
    refine a_l0 rfl rfl rfl ?_
    refine a_l4 rfl rfl rfl ?_
    refine a_s rfl rfl ?_
    refine a_s rfl rfl ?_
    refine a_top (y := nI (i + 2)) (nI_addl i 2) ?_
    refine a_ialdc rfl hx (inI_nI (by omega) (by omega)) ?_
    refine a_if_eq rfl (fun _ => ?_) (fun _ => ?_)
    · refine a_s rfl rfl ?_
      have hr2 := s1.ri
      refine a_gV rfl lL_213 mo_X12_does (r_X12_does hr2.so hr2.lw hr2.lg (b2 := false)) rfl rfl rfl ⟨12, _, rfl, rfl, rfl⟩ rfl (fun v' h' hv => ?_)
      obtain ⟨⟨v2, rfl⟩, I2, rfl, f2⟩ := hv
      have s2 := Sy.u s1 f2
      clear f2
      refine a_s6 rfl rfl rfl rfl rfl rfl ?_
      refine a_goto rfl ?_
      exact a_rm (by omega) (by omega) (hK _ _ _ _ _ _ _ s2 ka1 kb1)
    · refine a_s rfl rfl ?_
      refine a_goto rfl ?_
      have hr3 := s1.ri
      refine a_gV rfl lL_213 mo_X12_does (r_X12_does hr3.so hr3.lw hr3.lg (b2 := true)) rfl rfl rfl ⟨12, _, rfl, rfl, rfl⟩ rfl (fun v' h' hv => ?_)
      obtain ⟨⟨v3, rfl⟩, I3, rfl, f3⟩ := hv
      have s3 := Sy.u s1 f3
      clear f3
      refine a_s6 rfl rfl rfl rfl rfl rfl ?_
      refine a_goto rfl ?_
      exact a_rm (by omega) (by omega) (hK _ _ _ _ _ _ _ s3 ka1 kb1)
  · refine a_s rfl rfl ?_
    refine a_goto rfl ?_
    refine a_l3 rfl rfl rfl ?_
    refine a_callW rfl lL_210 mo_L_does (L_does (S := S) hS hs.1.1 hk1 hk2 (b2 := true)) rfl rfl (ck4 rfl rfl rfl rfl) rfl (fun v' h' hv => ?_) (fun _ _ z => False.elim z)
    obtain ⟨⟨v4, rfl⟩, I4, L4, a4, b4, t4, rfl, f4, ka4, kb4⟩ := hv
    have s4 := Sy.q hs f4
    clear f4
    refine a_s5 rfl rfl rfl rfl rfl rfl ?_
    refine a_l2 rfl rfl rfl ?_
    refine a_l0 rfl rfl rfl ?_
    refine a_l4 rfl rfl rfl ?_
    refine a_s rfl rfl ?_
    refine a_s rfl rfl ?_
    refine a_top (y := nI (i + 1)) (nI_addl i 1) ?_
    refine a_ialdc rfl hx (inI_nI (by omega) (by omega)) ?_
    refine a_l0 rfl rfl rfl ?_
    refine a_l4 rfl rfl rfl ?_
    refine a_s rfl rfl ?_
    refine a_s rfl rfl ?_
    refine a_top (y := nI (i + 2)) (nI_addl i 2) ?_
    refine a_ialdc rfl hx (inI_nI (by omega) (by omega)) ?_
    refine a_if_eq rfl (fun _ => ?_) (fun _ => ?_)
    · refine a_s rfl rfl ?_
      have hr5 := s4.ri
      refine a_gV rfl lL_213 mo_X12_does (r_X12_does hr5.so hr5.lw hr5.lg (b2 := false)) rfl rfl rfl ⟨12, _, rfl, rfl, rfl⟩ rfl (fun v' h' hv => ?_)
      obtain ⟨⟨v5, rfl⟩, I5, rfl, f5⟩ := hv
      have s5 := Sy.u s4 f5
      clear f5
      refine a_s6 rfl rfl rfl rfl rfl rfl ?_
      refine a_goto rfl ?_
      exact a_rm (by omega) (by omega) (hK _ _ _ _ _ _ _ s5 ka4 kb4)
    · refine a_s rfl rfl ?_
      refine a_goto rfl ?_
      have hr6 := s4.ri
      refine a_gV rfl lL_213 mo_X12_does (r_X12_does hr6.so hr6.lw hr6.lg (b2 := true)) rfl rfl rfl ⟨12, _, rfl, rfl, rfl⟩ rfl (fun v' h' hv => ?_)
      obtain ⟨⟨v6, rfl⟩, I6, rfl, f6⟩ := hv
      have s6 := Sy.u s4 f6
      clear f6
      refine a_s6 rfl rfl rfl rfl rfl rfl ?_
      refine a_goto rfl ?_
      exact a_rm (by omega) (by omega) (hK _ _ _ _ _ _ _ s6 ka4 kb4)
theorem op_22 (hS : HdS S) (hx : ScM S LL xs) (h3 : LL ≤ 3072) (hi : i + 6 ≤ LL) : OpOk S i 1010 := by
  intro k1 k2 u5 u6 I L w1 w2 t hs hk1 hk2 hK
  refine a_l1 rfl rfl rfl ?_
  refine a_l0 rfl rfl rfl ?_
  refine a_l4 rfl rfl rfl ?_
  refine a_s rfl rfl ?_
  refine a_s rfl rfl ?_
  refine a_top (y := nI (i + 1)) (nI_addl i 1) ?_
  refine a_ialdc rfl hx (inI_nI (by omega) (by omega)) ?_
  refine a_l3 rfl rfl rfl ?_
  refine a_callW rfl lL_214 mo_L_soon (L_soon (S := S) hS hs.1.1 hk1 hk2) rfl rfl (ck4 rfl rfl rfl rfl) rfl (fun v' h' hv => ?_) (fun _ _ z => False.elim z)
  obtain ⟨⟨v1, rfl⟩, I1, L1, a1, b1, t1, rfl, f1, ka1, kb1⟩ := hv
  have s1 := Sy.q hs f1
  clear f1
  refine a_s5 rfl rfl rfl rfl rfl rfl ?_
  refine a_l2 rfl rfl rfl ?_
  refine a_l0 rfl rfl rfl ?_
  refine a_l4 rfl rfl rfl ?_
  refine a_s rfl rfl ?_
  refine a_s rfl rfl ?_
  refine a_top (y := nI (i + 1)) (nI_addl i 1) ?_
  refine a_ialdc rfl hx (inI_nI (by omega) (by omega)) ?_
  have hr2 := s1.ri
  refine a_gV rfl lL_216 mo_X12_soon (r_X12_soon hr2.so hr2.lw hr2.lg) rfl rfl rfl ⟨12, _, rfl, rfl, rfl⟩ rfl (fun v' h' hv => ?_)
  obtain ⟨⟨v2, rfl⟩, I2, rfl, f2⟩ := hv
  have s2 := Sy.u s1 f2
  clear f2
  refine a_s6 rfl rfl rfl rfl rfl rfl ?_
  refine a_goto rfl ?_
  exact a_rm (by omega) (by omega) (hK _ _ _ _ _ _ _ s2 ka1 kb1)
theorem op_23 (hS : HdS S) (hx : ScM S LL xs) (h3 : LL ≤ 3072) (hi : i + 6 ≤ LL) : OpOk S i 1038 := by
  intro k1 k2 u5 u6 I L w1 w2 t hs hk1 hk2 hK
  refine a_l1 rfl rfl rfl ?_
  refine a_gV rfl lL_217 mo_X11_longest (q_X11_longest_200) rfl rfl rfl ⟨11, _, rfl, rfl, rfl⟩ rfl (fun v' h' hv => ?_)
  obtain ⟨⟨v1, rfl⟩, rfl⟩ := hv
  refine a_s rfl rfl ?_
  refine a_l2 rfl rfl rfl ?_
  have hr2 := hs.ri
  refine a_gV rfl lL_220 mo_X12_longest (r_X12_longest hr2.so hr2.lw hr2.lg) rfl rfl rfl ⟨12, _, rfl, rfl, rfl⟩ rfl (fun v' h' hv => ?_)
  obtain ⟨⟨v2, rfl⟩, I2, rfl, f2⟩ := hv
  have s2 := Sy.u hs f2
  clear f2
  refine a_s rfl rfl ?_
  refine a_goto rfl ?_
  exact a_rm (by omega) (by omega) (hK _ _ _ _ _ _ _ s2 hk1 hk2)
theorem op_24 (hS : HdS S) (hx : ScM S LL xs) (h3 : LL ≤ 3072) (hi : i + 6 ≤ LL) : OpOk S i 1051 := by
  intro k1 k2 u5 u6 I L w1 w2 t hs hk1 hk2 hK
  refine a_l1 rfl rfl rfl ?_
  refine a_gV rfl lL_221 mo_X11_ring (q_X11_ring_200) rfl rfl rfl ⟨11, _, rfl, rfl, rfl⟩ rfl (fun v' h' hv => ?_)
  obtain ⟨⟨v1, rfl⟩, rfl⟩ := hv
  refine a_s rfl rfl ?_
  refine a_l2 rfl rfl rfl ?_
  have hr2 := hs.ri
  refine a_gV rfl lL_224 mo_X12_ring (r_X12_ring hr2.so hr2.lw hr2.lg) rfl rfl rfl ⟨12, _, rfl, rfl, rfl⟩ rfl (fun v' h' hv => ?_)
  obtain ⟨⟨v2, rfl⟩, I2, rfl, f2⟩ := hv
  have s2 := Sy.u hs f2
  clear f2
  refine a_s rfl rfl ?_
  refine a_goto rfl ?_
  exact a_rm (by omega) (by omega) (hK _ _ _ _ _ _ _ s2 hk1 hk2)
theorem op_25 (hS : HdS S) (hx : ScM S LL xs) (h3 : LL ≤ 3072) (hi : i + 6 ≤ LL) : OpOk S i 1064 := by
  intro k1 k2 u5 u6 I L w1 w2 t hs hk1 hk2 hK
  refine a_l1 rfl rfl rfl ?_
  refine a_l0 rfl rfl rfl ?_
  refine a_l4 rfl rfl rfl ?_
  refine a_s rfl rfl ?_
  refine a_s rfl rfl ?_
  refine a_top (y := nI (i + 1)) (nI_addl i 1) ?_
  refine a_ialdc rfl hx (inI_nI (by omega) (by omega)) ?_
  refine a_l3 rfl rfl rfl ?_
  refine a_callW rfl lL_225 mo_L_before (L_before (S := S) hS hs.1.1 hk1 hk2) rfl rfl (ck4 rfl rfl rfl rfl) rfl (fun v' h' hv => ?_) (fun _ _ z => False.elim z)
  obtain ⟨⟨v1, rfl⟩, I1, L1, a1, b1, t1, rfl, f1, ka1, kb1⟩ := hv
  have s1 := Sy.q hs f1
  clear f1
  refine a_s5 rfl rfl rfl rfl rfl rfl ?_
  refine a_l2 rfl rfl rfl ?_
  refine a_l0 rfl rfl rfl ?_
  refine a_l4 rfl rfl rfl ?_
  refine a_s rfl rfl ?_
  refine a_s rfl rfl ?_
  refine a_top (y := nI (i + 1)) (nI_addl i 1) ?_
  refine a_ialdc rfl hx (inI_nI (by omega) (by omega)) ?_
  have hr2 := s1.ri
  refine a_gV rfl lL_227 mo_X12_before (r_X12_before hr2.so hr2.lw hr2.lg) rfl rfl rfl ⟨12, _, rfl, rfl, rfl⟩ rfl (fun v' h' hv => ?_)
  obtain ⟨⟨v2, rfl⟩, I2, rfl, f2⟩ := hv
  have s2 := Sy.u s1 f2
  clear f2
  refine a_s6 rfl rfl rfl rfl rfl rfl ?_
  refine a_goto rfl ?_
  exact a_rm (by omega) (by omega) (hK _ _ _ _ _ _ _ s2 ka1 kb1)
theorem op_26 (hS : HdS S) (hx : ScM S LL xs) (h3 : LL ≤ 3072) (hi : i + 6 ≤ LL) : OpOk S i 1092 := by
  intro k1 k2 u5 u6 I L w1 w2 t hs hk1 hk2 hK
  refine a_l1 rfl rfl rfl ?_
  refine a_l0 rfl rfl rfl ?_
  refine a_l4 rfl rfl rfl ?_
  refine a_s rfl rfl ?_
  refine a_s rfl rfl ?_
  refine a_top (y := nI (i + 1)) (nI_addl i 1) ?_
  refine a_ialdc rfl hx (inI_nI (by omega) (by omega)) ?_
  refine a_l3 rfl rfl rfl ?_
  refine a_callW rfl lL_228 mo_L_after (L_after (S := S) hS hs.1.1 hk1 hk2) rfl rfl (ck4 rfl rfl rfl rfl) rfl (fun v' h' hv => ?_) (fun _ _ z => False.elim z)
  obtain ⟨⟨v1, rfl⟩, I1, L1, a1, b1, t1, rfl, f1, ka1, kb1⟩ := hv
  have s1 := Sy.q hs f1
  clear f1
  refine a_s5 rfl rfl rfl rfl rfl rfl ?_
  refine a_l2 rfl rfl rfl ?_
  refine a_l0 rfl rfl rfl ?_
  refine a_l4 rfl rfl rfl ?_
  refine a_s rfl rfl ?_
  refine a_s rfl rfl ?_
  refine a_top (y := nI (i + 1)) (nI_addl i 1) ?_
  refine a_ialdc rfl hx (inI_nI (by omega) (by omega)) ?_
  have hr2 := s1.ri
  refine a_gV rfl lL_230 mo_X12_after (r_X12_after hr2.so hr2.lw hr2.lg) rfl rfl rfl ⟨12, _, rfl, rfl, rfl⟩ rfl (fun v' h' hv => ?_)
  obtain ⟨⟨v2, rfl⟩, I2, rfl, f2⟩ := hv
  have s2 := Sy.u s1 f2
  clear f2
  refine a_s6 rfl rfl rfl rfl rfl rfl ?_
  refine a_goto rfl ?_
  exact a_rm (by omega) (by omega) (hK _ _ _ _ _ _ _ s2 ka1 kb1)
theorem op_27 (hS : HdS S) (hx : ScM S LL xs) (h3 : LL ≤ 3072) (hi : i + 6 ≤ LL) : OpOk S i 1120 := by
  intro k1 k2 u5 u6 I L w1 w2 t hs hk1 hk2 hK
  refine a_l1 rfl rfl rfl ?_
  refine a_l0 rfl rfl rfl ?_
  refine a_l4 rfl rfl rfl ?_
  refine a_s rfl rfl ?_
  refine a_s rfl rfl ?_
  refine a_top (y := nI (i + 1)) (nI_addl i 1) ?_
  refine a_ialdc rfl hx (inI_nI (by omega) (by omega)) ?_
  refine a_l3 rfl rfl rfl ?_
  refine a_callW rfl lL_231 mo_L_depth (L_depth (S := S) hS hs.1.1 hk1 hk2) rfl rfl (ck4 rfl rfl rfl rfl) rfl (fun v' h' hv => ?_) (fun _ _ z => False.elim z)
  obtain ⟨⟨v1, rfl⟩, I1, L1, a1, b1, t1, rfl, f1, ka1, kb1⟩ := hv
  have s1 := Sy.q hs f1
  clear f1
  refine a_s5 rfl rfl rfl rfl rfl rfl ?_
  refine a_l2 rfl rfl rfl ?_
  refine a_l0 rfl rfl rfl ?_
  refine a_l4 rfl rfl rfl ?_
  refine a_s rfl rfl ?_
  refine a_s rfl rfl ?_
  refine a_top (y := nI (i + 1)) (nI_addl i 1) ?_
  refine a_ialdc rfl hx (inI_nI (by omega) (by omega)) ?_
  have hr2 := s1.ri
  refine a_gV rfl lL_233 mo_X12_depth (r_X12_depth hr2.so hr2.lw hr2.lg) rfl rfl rfl ⟨12, _, rfl, rfl, rfl⟩ rfl (fun v' h' hv => ?_)
  obtain ⟨⟨v2, rfl⟩, I2, rfl, f2⟩ := hv
  have s2 := Sy.u s1 f2
  clear f2
  refine a_s6 rfl rfl rfl rfl rfl rfl ?_
  refine a_goto rfl ?_
  exact a_rm (by omega) (by omega) (hK _ _ _ _ _ _ _ s2 ka1 kb1)
theorem op_28 (hS : HdS S) (hx : ScM S LL xs) (h3 : LL ≤ 3072) (hi : i + 6 ≤ LL) : OpOk S i 1148 := by
  intro k1 k2 u5 u6 I L w1 w2 t hs hk1 hk2 hK
  refine a_l1 rfl rfl rfl ?_
  refine a_l0 rfl rfl rfl ?_
  refine a_l4 rfl rfl rfl ?_
  refine a_s rfl rfl ?_
  refine a_s rfl rfl ?_
  refine a_top (y := nI (i + 1)) (nI_addl i 1) ?_
  refine a_ialdc rfl hx (inI_nI (by omega) (by omega)) ?_
  refine a_l3 rfl rfl rfl ?_
  refine a_callW rfl lL_234 mo_L_young (L_young (S := S) hS hs.1.1 hk1 hk2) rfl rfl (ck4 rfl rfl rfl rfl) rfl (fun v' h' hv => ?_) (fun _ _ z => False.elim z)
  obtain ⟨⟨v1, rfl⟩, I1, L1, a1, b1, t1, rfl, f1, ka1, kb1⟩ := hv
  have s1 := Sy.q hs f1
  clear f1
  refine a_s5 rfl rfl rfl rfl rfl rfl ?_
  refine a_l2 rfl rfl rfl ?_
  refine a_l0 rfl rfl rfl ?_
  refine a_l4 rfl rfl rfl ?_
  refine a_s rfl rfl ?_
  refine a_s rfl rfl ?_
  refine a_top (y := nI (i + 1)) (nI_addl i 1) ?_
  refine a_ialdc rfl hx (inI_nI (by omega) (by omega)) ?_
  have hr2 := s1.ri
  refine a_gV rfl lL_236 mo_X12_young (r_X12_young hr2.so hr2.lw hr2.lg) rfl rfl rfl ⟨12, _, rfl, rfl, rfl⟩ rfl (fun v' h' hv => ?_)
  obtain ⟨⟨v2, rfl⟩, I2, rfl, f2⟩ := hv
  have s2 := Sy.u s1 f2
  clear f2
  refine a_s6 rfl rfl rfl rfl rfl rfl ?_
  refine a_goto rfl ?_
  exact a_rm (by omega) (by omega) (hK _ _ _ _ _ _ _ s2 ka1 kb1)
theorem op_29 (hS : HdS S) (hx : ScM S LL xs) (h3 : LL ≤ 3072) (hi : i + 6 ≤ LL) : OpOk S i 1176 := by
  intro k1 k2 u5 u6 I L w1 w2 t hs hk1 hk2 hK
  refine a_l1 rfl rfl rfl ?_
  refine a_l0 rfl rfl rfl ?_
  refine a_l4 rfl rfl rfl ?_
  refine a_s rfl rfl ?_
  refine a_s rfl rfl ?_
  refine a_top (y := nI (i + 1)) (nI_addl i 1) ?_
  refine a_ialdc rfl hx (inI_nI (by omega) (by omega)) ?_
  refine a_l3 rfl rfl rfl ?_
  refine a_callW rfl lL_237 mo_L_older (L_older (S := S) hS hs.1.1 hk1 hk2) rfl rfl (ck4 rfl rfl rfl rfl) rfl (fun v' h' hv => ?_) (fun _ _ z => False.elim z)
  obtain ⟨⟨v1, rfl⟩, I1, L1, a1, b1, t1, rfl, f1, ka1, kb1⟩ := hv
  have s1 := Sy.q hs f1
  clear f1
  refine a_s5 rfl rfl rfl rfl rfl rfl ?_
  refine a_l2 rfl rfl rfl ?_
  refine a_l0 rfl rfl rfl ?_
  refine a_l4 rfl rfl rfl ?_
  refine a_s rfl rfl ?_
  refine a_s rfl rfl ?_
  refine a_top (y := nI (i + 1)) (nI_addl i 1) ?_
  refine a_ialdc rfl hx (inI_nI (by omega) (by omega)) ?_
  have hr2 := s1.ri
  refine a_gV rfl lL_239 mo_X12_older (r_X12_older hr2.so hr2.lw hr2.lg) rfl rfl rfl ⟨12, _, rfl, rfl, rfl⟩ rfl (fun v' h' hv => ?_)
  obtain ⟨⟨v2, rfl⟩, I2, rfl, f2⟩ := hv
  have s2 := Sy.u s1 f2
  clear f2
  refine a_s6 rfl rfl rfl rfl rfl rfl ?_
  refine a_goto rfl ?_
  exact a_rm (by omega) (by omega) (hK _ _ _ _ _ _ _ s2 ka1 kb1)
theorem op_30 (hS : HdS S) (hx : ScM S LL xs) (h3 : LL ≤ 3072) (hi : i + 6 ≤ LL) : OpOk S i 1204 := by
  intro k1 k2 u5 u6 I L w1 w2 t hs hk1 hk2 hK
  refine a_l1 rfl rfl rfl ?_
  refine a_l3 rfl rfl rfl ?_
  obtain ⟨e1, h41, ea1, eb1⟩ := hs.2.2
  refine a_callW rfl lL_240 mo_L_whose (fL_whose (S := S) hS hs ea1 h41) rfl rfl (ck4 rfl rfl rfl rfl) rfl (fun v' h' hv => ?_) (fun _ _ z => False.elim z)
  obtain ⟨v1, L1, t1, rfl, rfl, J1⟩ := hv
  have s1 := Sy.z1 hs
  refine a_s5 rfl rfl rfl rfl rfl rfl ?_
  refine a_l2 rfl rfl rfl ?_
  refine a_gV rfl lL_242 mo_X12_whose (hq_whose (T := I 202) (W := I 421) s1 (up2_row (by decide)) (up2_row (by decide)) ((congrFun (up2_row (by decide)) 9).trans eb1) h41) rfl rfl rfl ⟨12, _, rfl, rfl, rfl⟩ rfl (fun v' h' hv => ?_)
  obtain ⟨v2, I2, rfl, rfl, f2, ez2, ev2⟩ := hv
  have s2 := Sz.uz s1 f2
  refine a_s6 rfl rfl rfl rfl rfl rfl ?_
  refine a_l2 rfl rfl rfl ?_
  refine a_eV1 rfl lL_243 mo_X12_thrown h_thrown rfl rfl rfl ⟨12, _, rfl, rfl, rfl⟩ rfl ?_
  refine a_top (y := v1) (ez2.trans (AcQ.st J1).symm) ?_
  refine a_l5 rfl rfl rfl ?_
  refine a_ic_eq rfl (fun _ => ?_) (fun c => absurd rfl c)
  refine a_l5 rfl rfl rfl ?_
  rcases J1 with ⟨c0, rfl, l0⟩ | ⟨c1, e1⟩
  · obtain rfl := ev2 c0
    refine a_if_ne rfl (fun c => absurd rfl c) (fun _ => ?_)
    refine a_l3 rfl rfl rfl ?_
    refine a_s rfl rfl ?_
    refine a_laldv rfl (n := 1) rfl ⟨by decide, by decide⟩ l0 ?_
    refine a_l6 rfl rfl rfl ?_
    refine a_s rfl rfl ?_
    refine a_s rfl rfl ?_
    refine a_if_eq rfl (fun _ => ?_) (fun c => absurd lcmp_self c)
    refine a_goto rfl ?_
    exact a_rm (by omega) (by omega) (hK _ _ _ _ _ _ _ s2 hk1 hk2)
  · refine a_if_ne rfl (fun _ => ?_) (fun c => absurd (e1.symm.trans c) c1)
    refine a_goto rfl ?_
    exact a_rm (by omega) (by omega) (hK _ _ _ _ _ _ _ s2 hk1 hk2)
theorem op_31 (hS : HdS S) (hx : ScM S LL xs) (h3 : LL ≤ 3072) (hi : i + 6 ≤ LL) : OpOk S i 1248 := by
  intro k1 k2 u5 u6 I L w1 w2 t hs hk1 hk2 hK
  refine a_l1 rfl rfl rfl ?_
  refine a_l3 rfl rfl rfl ?_
  refine a_callW rfl lL_246 mo_L_ask (L_ask (S := S) hS hs.1.1 hk1 hk2) rfl rfl (ck4 rfl rfl rfl rfl) rfl (fun v' h' hv => ?_) (fun _ _ z => False.elim z)
  obtain ⟨⟨v1, rfl⟩, I1, L1, a1, b1, t1, rfl, f1, ka1, kb1⟩ := hv
  have s1 : Sz I1 := by
    have g : I1 = up2 I 201 1 0 := f1
    rw [g]
    exact Sy.z1 hs
  refine a_s5 rfl rfl rfl rfl rfl rfl ?_
  refine a_l2 rfl rfl rfl ?_
  have hr2 := s1.ri
  refine a_gV rfl lL_248 mo_X12_ask (h_askU hr2 s1.2.2.2) rfl rfl rfl ⟨12, _, rfl, rfl, rfl⟩ rfl (fun v' h' hv => ?_)
  obtain ⟨⟨v2, rfl⟩, I2, rfl, f2⟩ := hv
  have s2 := Sz.uz s1 f2
  clear f2
  refine a_s6 rfl rfl rfl rfl rfl rfl ?_
  refine a_goto rfl ?_
  exact a_rm (by omega) (by omega) (hK _ _ _ _ _ _ _ s2 ka1 kb1)
theorem op_32 (hS : HdS S) (hx : ScM S LL xs) (h3 : LL ≤ 3072) (hi : i + 6 ≤ LL) : OpOk S i 1264 := by
  intro k1 k2 u5 u6 I L w1 w2 t hs hk1 hk2 hK
  refine a_l1 rfl rfl rfl ?_
  refine a_gV rfl lL_249 mo_X11_gap (q_X11_gap_200) rfl rfl rfl ⟨11, _, rfl, rfl, rfl⟩ rfl (fun v' h' hv => ?_)
  obtain ⟨⟨v1, rfl⟩, rfl⟩ := hv
  refine a_s rfl rfl ?_
  refine a_l2 rfl rfl rfl ?_
  have hr2 := hs.ri
  refine a_gV rfl lL_252 mo_X12_gap (r_X12_gap hr2.so hr2.lw hr2.lg) rfl rfl rfl ⟨12, _, rfl, rfl, rfl⟩ rfl (fun v' h' hv => ?_)
  obtain ⟨⟨v2, rfl⟩, I2, rfl, f2⟩ := hv
  have s2 := Sy.u hs f2
  clear f2
  refine a_s rfl rfl ?_
  refine a_goto rfl ?_
  exact a_rm (by omega) (by omega) (hK _ _ _ _ _ _ _ s2 hk1 hk2)
theorem op_33 (hS : HdS S) (hx : ScM S LL xs) (h3 : LL ≤ 3072) (hi : i + 6 ≤ LL) : OpOk S i 1277 := by
  intro k1 k2 u5 u6 I L w1 w2 t hs hk1 hk2 hK
  refine a_l1 rfl rfl rfl ?_
  refine a_gV rfl lL_253 mo_X11_lost (q_X11_lost_200) rfl rfl rfl ⟨11, _, rfl, rfl, rfl⟩ rfl (fun v' h' hv => ?_)
  obtain ⟨⟨v1, rfl⟩, rfl⟩ := hv
  refine a_s rfl rfl ?_
  refine a_l2 rfl rfl rfl ?_
  have hr2 := hs.ri
  refine a_gV rfl lL_256 mo_X12_lost (r_X12_lost hr2.so hr2.lw hr2.lg) rfl rfl rfl ⟨12, _, rfl, rfl, rfl⟩ rfl (fun v' h' hv => ?_)
  obtain ⟨⟨v2, rfl⟩, I2, rfl, f2⟩ := hv
  have s2 := Sy.u hs f2
  clear f2
  refine a_s rfl rfl ?_
  refine a_goto rfl ?_
  exact a_rm (by omega) (by omega) (hK _ _ _ _ _ _ _ s2 hk1 hk2)
theorem op_34 (hS : HdS S) (hx : ScM S LL xs) (h3 : LL ≤ 3072) (hi : i + 6 ≤ LL) : OpOk S i 1290 := by
  intro k1 k2 u5 u6 I L w1 w2 t hs hk1 hk2 hK
  refine a_l1 rfl rfl rfl ?_
  refine a_gV rfl lL_257 mo_X11_missed (q_X11_missed_200) rfl rfl rfl ⟨11, _, rfl, rfl, rfl⟩ rfl (fun v' h' hv => ?_)
  obtain ⟨⟨v1, rfl⟩, rfl⟩ := hv
  refine a_s rfl rfl ?_
  refine a_l2 rfl rfl rfl ?_
  have hr2 := hs.ri
  refine a_gV rfl lL_260 mo_X12_missed (r_X12_missed hr2.so hr2.lw hr2.lg) rfl rfl rfl ⟨12, _, rfl, rfl, rfl⟩ rfl (fun v' h' hv => ?_)
  obtain ⟨⟨v2, rfl⟩, I2, rfl, f2⟩ := hv
  have s2 := Sy.u hs f2
  clear f2
  refine a_s rfl rfl ?_
  refine a_goto rfl ?_
  exact a_rm (by omega) (by omega) (hK _ _ _ _ _ _ _ s2 hk1 hk2)
theorem op_35 (hS : HdS S) (hx : ScM S LL xs) (h3 : LL ≤ 3072) (hi : i + 6 ≤ LL) : OpOk S i 1303 := by
  intro k1 k2 u5 u6 I L w1 w2 t hs hk1 hk2 hK
  refine a_l1 rfl rfl rfl ?_
  refine a_l0 rfl rfl rfl ?_
  refine a_l4 rfl rfl rfl ?_
  refine a_s rfl rfl ?_
  refine a_s rfl rfl ?_
  refine a_top (y := nI (i + 1)) (nI_addl i 1) ?_
  refine a_ialdc rfl hx (inI_nI (by omega) (by omega)) ?_
  refine a_l0 rfl rfl rfl ?_
  refine a_l4 rfl rfl rfl ?_
  refine a_s rfl rfl ?_
  refine a_s rfl rfl ?_
  refine a_top (y := nI (i + 2)) (nI_addl i 2) ?_
  refine a_ialdc rfl hx (inI_nI (by omega) (by omega)) ?_
  refine a_l3 rfl rfl rfl ?_
  refine a_callW rfl lL_261 mo_L_swap (L_swap (S := S) hS hs.1.1 hk1 hk2) rfl rfl (ck4 rfl rfl rfl rfl) rfl (fun v' h' hv => ?_) (fun _ _ z => False.elim z)
  obtain ⟨⟨v1, rfl⟩, I1, L1, a1, b1, t1, rfl, f1, ka1, kb1⟩ := hv
  have s1 := Sy.q hs f1
  clear f1
  refine a_s5 rfl rfl rfl rfl rfl rfl ?_
  refine a_l2 rfl rfl rfl ?_
  refine a_l0 rfl rfl rfl ?_
  refine a_l4 rfl rfl rfl ?_
  refine a_s rfl rfl ?_
  refine a_s rfl rfl ?_
  refine a_top (y := nI (i + 1)) (nI_addl i 1) ?_
  refine a_ialdc rfl hx (inI_nI (by omega) (by omega)) ?_
  refine a_l0 rfl rfl rfl ?_
  refine a_l4 rfl rfl rfl ?_
  refine a_s rfl rfl ?_
  refine a_s rfl rfl ?_
  refine a_top (y := nI (i + 2)) (nI_addl i 2) ?_
  refine a_ialdc rfl hx (inI_nI (by omega) (by omega)) ?_
  have hr2 := s1.ri
  refine a_gV rfl lL_263 mo_X12_swap (r_X12_swap hr2.so hr2.lw hr2.lg) rfl rfl rfl ⟨12, _, rfl, rfl, rfl⟩ rfl (fun v' h' hv => ?_)
  obtain ⟨⟨v2, rfl⟩, I2, rfl, f2⟩ := hv
  have s2 := Sy.u s1 f2
  clear f2
  refine a_s6 rfl rfl rfl rfl rfl rfl ?_
  refine a_goto rfl ?_
  exact a_rm (by omega) (by omega) (hK _ _ _ _ _ _ _ s2 ka1 kb1)
theorem op_36 (hS : HdS S) (hx : ScM S LL xs) (h3 : LL ≤ 3072) (hi : i + 6 ≤ LL) : OpOk S i 1343 := by
  intro k1 k2 u5 u6 I L w1 w2 t hs hk1 hk2 hK
  refine a_l1 rfl rfl rfl ?_
  refine a_l0 rfl rfl rfl ?_
  refine a_l4 rfl rfl rfl ?_
  refine a_s rfl rfl ?_
  refine a_s rfl rfl ?_
  refine a_top (y := nI (i + 1)) (nI_addl i 1) ?_
  refine a_ialdc rfl hx (inI_nI (by omega) (by omega)) ?_
  refine a_l0 rfl rfl rfl ?_
  refine a_l4 rfl rfl rfl ?_
  refine a_s rfl rfl ?_
  refine a_s rfl rfl ?_
  refine a_top (y := nI (i + 2)) (nI_addl i 2) ?_
  refine a_ialdc rfl hx (inI_nI (by omega) (by omega)) ?_
  refine a_l0 rfl rfl rfl ?_
  refine a_l4 rfl rfl rfl ?_
  refine a_s rfl rfl ?_
  refine a_s rfl rfl ?_
  refine a_top (y := nI (i + 3)) (nI_addl i 3) ?_
  refine a_ialdc rfl hx (inI_nI (by omega) (by omega)) ?_
  refine a_l3 rfl rfl rfl ?_
  refine a_callW rfl lL_264 mo_L_rests (L_rests (S := S) hS hs.1.1 hk1 hk2) rfl rfl (ck4 rfl rfl rfl rfl) rfl (fun v' h' hv => ?_) (fun _ _ z => False.elim z)
  obtain ⟨⟨v1, rfl⟩, I1, L1, a1, b1, t1, rfl, f1, ka1, kb1⟩ := hv
  have s1 := Sy.q hs f1
  clear f1
  refine a_s5 rfl rfl rfl rfl rfl rfl ?_
  refine a_l2 rfl rfl rfl ?_
  refine a_l0 rfl rfl rfl ?_
  refine a_l4 rfl rfl rfl ?_
  refine a_s rfl rfl ?_
  refine a_s rfl rfl ?_
  refine a_top (y := nI (i + 1)) (nI_addl i 1) ?_
  refine a_ialdc rfl hx (inI_nI (by omega) (by omega)) ?_
  refine a_l0 rfl rfl rfl ?_
  refine a_l4 rfl rfl rfl ?_
  refine a_s rfl rfl ?_
  refine a_s rfl rfl ?_
  refine a_top (y := nI (i + 2)) (nI_addl i 2) ?_
  refine a_ialdc rfl hx (inI_nI (by omega) (by omega)) ?_
  refine a_l0 rfl rfl rfl ?_
  refine a_l4 rfl rfl rfl ?_
  refine a_s rfl rfl ?_
  refine a_s rfl rfl ?_
  refine a_top (y := nI (i + 3)) (nI_addl i 3) ?_
  refine a_ialdc rfl hx (inI_nI (by omega) (by omega)) ?_
  have hr2 := s1.ri
  refine a_gV rfl lL_266 mo_X12_rests (r_X12_rests hr2.so hr2.lw hr2.lg) rfl rfl rfl ⟨12, _, rfl, rfl, rfl⟩ rfl (fun v' h' hv => ?_)
  obtain ⟨⟨v2, rfl⟩, I2, rfl, f2⟩ := hv
  have s2 := Sy.u s1 f2
  clear f2
  refine a_s6 rfl rfl rfl rfl rfl rfl ?_
  refine a_goto rfl ?_
  exact a_rm (by omega) (by omega) (hK _ _ _ _ _ _ _ s2 ka1 kb1)
theorem op_37 (hS : HdS S) (hx : ScM S LL xs) (h3 : LL ≤ 3072) (hi : i + 6 ≤ LL) : OpOk S i 1395 := by
  intro k1 k2 u5 u6 I L w1 w2 t hs hk1 hk2 hK
  refine a_l1 rfl rfl rfl ?_
  refine a_gV rfl lL_267 mo_X11_sponsor (q_X11_sponsor_200) rfl rfl rfl ⟨11, _, rfl, rfl, rfl⟩ rfl (fun v' h' hv => ?_)
  obtain ⟨⟨v1, rfl⟩, rfl⟩ := hv
  refine a_s rfl rfl ?_
  refine a_l2 rfl rfl rfl ?_
  have hr2 := hs.ri
  refine a_gV rfl lL_270 mo_X12_sponsor (r_X12_sponsor hr2.so hr2.lw hr2.lg) rfl rfl rfl ⟨12, _, rfl, rfl, rfl⟩ rfl (fun v' h' hv => ?_)
  obtain ⟨⟨v2, rfl⟩, I2, rfl, f2⟩ := hv
  have s2 := Sy.u hs f2
  clear f2
  refine a_s rfl rfl ?_
  refine a_goto rfl ?_
  exact a_rm (by omega) (by omega) (hK _ _ _ _ _ _ _ s2 hk1 hk2)
theorem op_38 (hS : HdS S) (hx : ScM S LL xs) (h3 : LL ≤ 3072) (hi : i + 6 ≤ LL) : OpOk S i 1408 := by
  intro k1 k2 u5 u6 I L w1 w2 t hs hk1 hk2 hK
  refine a_l1 rfl rfl rfl ?_
  refine a_gV rfl lL_271 mo_X11_idle (q_X11_idle_200) rfl rfl rfl ⟨11, _, rfl, rfl, rfl⟩ rfl (fun v' h' hv => ?_)
  obtain ⟨⟨v1, rfl⟩, rfl⟩ := hv
  refine a_s rfl rfl ?_
  refine a_l2 rfl rfl rfl ?_
  have hr2 := hs.ri
  refine a_gV rfl lL_274 mo_X12_idle (r_X12_idle hr2.so hr2.lw hr2.lg) rfl rfl rfl ⟨12, _, rfl, rfl, rfl⟩ rfl (fun v' h' hv => ?_)
  obtain ⟨⟨v2, rfl⟩, I2, rfl, f2⟩ := hv
  have s2 := Sy.u hs f2
  clear f2
  refine a_s rfl rfl ?_
  refine a_goto rfl ?_
  exact a_rm (by omega) (by omega) (hK _ _ _ _ _ _ _ s2 hk1 hk2)
theorem op_39 (hS : HdS S) (hx : ScM S LL xs) (h3 : LL ≤ 3072) (hi : i + 6 ≤ LL) : OpOk S i 1421 := by
  intro k1 k2 u5 u6 I L w1 w2 t hs hk1 hk2 hK
  refine a_l1 rfl rfl rfl ?_
  refine a_gV rfl lL_275 mo_X11_worst (q_X11_worst_200) rfl rfl rfl ⟨11, _, rfl, rfl, rfl⟩ rfl (fun v' h' hv => ?_)
  obtain ⟨⟨v1, rfl⟩, I1, rfl, f1⟩ := hv
  have s1 := Sy.q hs f1
  clear f1
  refine a_s rfl rfl ?_
  refine a_l2 rfl rfl rfl ?_
  have hr2 := s1.ri
  refine a_gV rfl lL_278 mo_X12_worst (r_X12_worst hr2.so hr2.lw hr2.lg) rfl rfl rfl ⟨12, _, rfl, rfl, rfl⟩ rfl (fun v' h' hv => ?_)
  obtain ⟨⟨v2, rfl⟩, I2, rfl, f2⟩ := hv
  have s2 := Sy.u s1 f2
  clear f2
  refine a_s rfl rfl ?_
  refine a_goto rfl ?_
  exact a_rm (by omega) (by omega) (hK _ _ _ _ _ _ _ s2 hk1 hk2)
theorem op_40 (hS : HdS S) (hx : ScM S LL xs) (h3 : LL ≤ 3072) (hi : i + 6 ≤ LL) : OpOk S i 1434 := by
  intro k1 k2 u5 u6 I L w1 w2 t hs hk1 hk2 hK
  refine a_l1 rfl rfl rfl ?_
  refine a_l0 rfl rfl rfl ?_
  refine a_l4 rfl rfl rfl ?_
  refine a_s rfl rfl ?_
  refine a_s rfl rfl ?_
  refine a_top (y := nI (i + 1)) (nI_addl i 1) ?_
  refine a_ialdc rfl hx (inI_nI (by omega) (by omega)) ?_
  refine a_l0 rfl rfl rfl ?_
  refine a_l4 rfl rfl rfl ?_
  refine a_s rfl rfl ?_
  refine a_s rfl rfl ?_
  refine a_top (y := nI (i + 2)) (nI_addl i 2) ?_
  refine a_ialdc rfl hx (inI_nI (by omega) (by omega)) ?_
  refine a_l3 rfl rfl rfl ?_
  refine a_callW rfl lL_279 mo_L_odds (L_odds (S := S) hS hs.1.1 hk1 hk2) rfl rfl (ck4 rfl rfl rfl rfl) rfl (fun v' h' hv => ?_) (fun _ _ z => False.elim z)
  obtain ⟨⟨v1, rfl⟩, I1, L1, a1, b1, t1, rfl, f1, ka1, kb1⟩ := hv
  have s1 := Sy.q hs f1
  clear f1
  refine a_s5 rfl rfl rfl rfl rfl rfl ?_
  refine a_l2 rfl rfl rfl ?_
  refine a_l0 rfl rfl rfl ?_
  refine a_l4 rfl rfl rfl ?_
  refine a_s rfl rfl ?_
  refine a_s rfl rfl ?_
  refine a_top (y := nI (i + 1)) (nI_addl i 1) ?_
  refine a_ialdc rfl hx (inI_nI (by omega) (by omega)) ?_
  refine a_l0 rfl rfl rfl ?_
  refine a_l4 rfl rfl rfl ?_
  refine a_s rfl rfl ?_
  refine a_s rfl rfl ?_
  refine a_top (y := nI (i + 2)) (nI_addl i 2) ?_
  refine a_ialdc rfl hx (inI_nI (by omega) (by omega)) ?_
  have hr2 := s1.ri
  refine a_gV rfl lL_281 mo_X12_odds (r_X12_odds hr2.so hr2.lw hr2.lg) rfl rfl rfl ⟨12, _, rfl, rfl, rfl⟩ rfl (fun v' h' hv => ?_)
  obtain ⟨⟨v2, rfl⟩, I2, L2, rfl, f2⟩ := hv
  have s2 := Sy.v s1 f2
  clear f2
  refine a_s6 rfl rfl rfl rfl rfl rfl ?_
  refine a_goto rfl ?_
  exact a_rm (by omega) (by omega) (hK _ _ _ _ _ _ _ s2 ka1 kb1)
theorem op_41 (hS : HdS S) (hx : ScM S LL xs) (h3 : LL ≤ 3072) (hi : i + 6 ≤ LL) : OpOk S i 1474 := by
  intro k1 k2 u5 u6 I L w1 w2 t hs hk1 hk2 hK
  refine a_l1 rfl rfl rfl ?_
  refine a_l0 rfl rfl rfl ?_
  refine a_l4 rfl rfl rfl ?_
  refine a_s rfl rfl ?_
  refine a_s rfl rfl ?_
  refine a_top (y := nI (i + 1)) (nI_addl i 1) ?_
  refine a_ialdc rfl hx (inI_nI (by omega) (by omega)) ?_
  refine a_l0 rfl rfl rfl ?_
  refine a_l4 rfl rfl rfl ?_
  refine a_s rfl rfl ?_
  refine a_s rfl rfl ?_
  refine a_top (y := nI (i + 2)) (nI_addl i 2) ?_
  refine a_ialdc rfl hx (inI_nI (by omega) (by omega)) ?_
  refine a_l3 rfl rfl rfl ?_
  refine a_callW rfl lL_282 mo_L_spare (L_spare (S := S) hS hs.1.1 hk1 hk2) rfl rfl (ck4 rfl rfl rfl rfl) rfl (fun v' h' hv => ?_) (fun _ _ z => False.elim z)
  obtain ⟨⟨v1, rfl⟩, I1, L1, a1, b1, t1, rfl, f1, ka1, kb1⟩ := hv
  have s1 := Sy.q hs f1
  clear f1
  refine a_s5 rfl rfl rfl rfl rfl rfl ?_
  refine a_l2 rfl rfl rfl ?_
  refine a_l0 rfl rfl rfl ?_
  refine a_l4 rfl rfl rfl ?_
  refine a_s rfl rfl ?_
  refine a_s rfl rfl ?_
  refine a_top (y := nI (i + 1)) (nI_addl i 1) ?_
  refine a_ialdc rfl hx (inI_nI (by omega) (by omega)) ?_
  refine a_l0 rfl rfl rfl ?_
  refine a_l4 rfl rfl rfl ?_
  refine a_s rfl rfl ?_
  refine a_s rfl rfl ?_
  refine a_top (y := nI (i + 2)) (nI_addl i 2) ?_
  refine a_ialdc rfl hx (inI_nI (by omega) (by omega)) ?_
  have hr2 := s1.ri
  refine a_gV rfl lL_284 mo_X12_spare (r_X12_spare hr2.so hr2.fr) rfl rfl rfl ⟨12, _, rfl, rfl, rfl⟩ rfl (fun v' h' hv => ?_)
  obtain ⟨⟨v2, rfl⟩, I2, L2, rfl, f2⟩ := hv
  have s2 := Sy.v s1 f2
  clear f2
  refine a_s6 rfl rfl rfl rfl rfl rfl ?_
  refine a_goto rfl ?_
  exact a_rm (by omega) (by omega) (hK _ _ _ _ _ _ _ s2 ka1 kb1)
theorem op_42 (hS : HdS S) (hx : ScM S LL xs) (h3 : LL ≤ 3072) (hi : i + 6 ≤ LL) : OpOk S i 1514 := by
  intro k1 k2 u5 u6 I L w1 w2 t hs hk1 hk2 hK
  refine a_l1 rfl rfl rfl ?_
  refine a_l0 rfl rfl rfl ?_
  refine a_l4 rfl rfl rfl ?_
  refine a_s rfl rfl ?_
  refine a_s rfl rfl ?_
  refine a_top (y := nI (i + 1)) (nI_addl i 1) ?_
  refine a_ialdc rfl hx (inI_nI (by omega) (by omega)) ?_
  refine a_l3 rfl rfl rfl ?_
  refine a_callW rfl lL_285 mo_L_done (L_done (S := S) hS hs.1.1 hk1 hk2) rfl rfl (ck4 rfl rfl rfl rfl) rfl (fun v' h' hv => ?_) (fun _ _ z => False.elim z)
  obtain ⟨⟨v1, rfl⟩, I1, L1, a1, b1, t1, rfl, f1, ka1, kb1⟩ := hv
  have s1 := Sy.q hs f1
  clear f1
  refine a_s5 rfl rfl rfl rfl rfl rfl ?_
  refine a_l2 rfl rfl rfl ?_
  refine a_l0 rfl rfl rfl ?_
  refine a_l4 rfl rfl rfl ?_
  refine a_s rfl rfl ?_
  refine a_s rfl rfl ?_
  refine a_top (y := nI (i + 1)) (nI_addl i 1) ?_
  refine a_ialdc rfl hx (inI_nI (by omega) (by omega)) ?_
  have hr2 := s1.ri
  refine a_gV rfl lL_287 mo_X12_done (r_X12_done hr2.so hr2.lw hr2.lg) rfl rfl rfl ⟨12, _, rfl, rfl, rfl⟩ rfl (fun v' h' hv => ?_)
  obtain ⟨⟨v2, rfl⟩, I2, rfl, f2⟩ := hv
  have s2 := Sy.v s1 f2
  clear f2
  refine a_s6 rfl rfl rfl rfl rfl rfl ?_
  refine a_goto rfl ?_
  exact a_rm (by omega) (by omega) (hK _ _ _ _ _ _ _ s2 ka1 kb1)
theorem op_43 (hS : HdS S) (hx : ScM S LL xs) (h3 : LL ≤ 3072) (hi : i + 6 ≤ LL) : OpOk S i 1542 := by
  intro k1 k2 u5 u6 I L w1 w2 t hs hk1 hk2 hK
  refine a_l1 rfl rfl rfl ?_
  refine a_gV rfl lL_288 mo_X11_all (q_X11_all_200) rfl rfl rfl ⟨11, _, rfl, rfl, rfl⟩ rfl (fun v' h' hv => ?_)
  obtain ⟨⟨v1, rfl⟩, I1, rfl, f1⟩ := hv
  have s1 := Sy.q hs f1
  clear f1
  refine a_s rfl rfl ?_
  refine a_l2 rfl rfl rfl ?_
  have hr2 := s1.ri
  refine a_gV rfl lL_291 mo_X12_all (r_X12_all hr2.so hr2.lw hr2.lg) rfl rfl rfl ⟨12, _, rfl, rfl, rfl⟩ rfl (fun v' h' hv => ?_)
  obtain ⟨⟨v2, rfl⟩, I2, rfl, f2⟩ := hv
  have s2 := Sy.v s1 f2
  clear f2
  refine a_s rfl rfl ?_
  refine a_goto rfl ?_
  exact a_rm (by omega) (by omega) (hK _ _ _ _ _ _ _ s2 hk1 hk2)
theorem op_44 (hS : HdS S) (hx : ScM S LL xs) (h3 : LL ≤ 3072) (hi : i + 6 ≤ LL) : OpOk S i 1555 := by
  intro k1 k2 u5 u6 I L w1 w2 t hs hk1 hk2 hK
  refine a_l1 rfl rfl rfl ?_
  refine a_gV rfl lL_292 mo_X11_help (q_X11_help_200) rfl rfl rfl ⟨11, _, rfl, rfl, rfl⟩ rfl (fun v' h' hv => ?_)
  obtain ⟨⟨v1, rfl⟩, I1, rfl, f1⟩ := hv
  have s1 := Sy.q hs f1
  clear f1
  refine a_s rfl rfl ?_
  refine a_l2 rfl rfl rfl ?_
  have hr2 := s1.ri
  refine a_gV rfl lL_295 mo_X12_help (r_X12_help hr2.so hr2.lw hr2.lg) rfl rfl rfl ⟨12, _, rfl, rfl, rfl⟩ rfl (fun v' h' hv => ?_)
  obtain ⟨⟨v2, rfl⟩, I2, rfl, f2⟩ := hv
  have s2 := Sy.v s1 f2
  clear f2
  refine a_s rfl rfl ?_
  refine a_goto rfl ?_
  exact a_rm (by omega) (by omega) (hK _ _ _ _ _ _ _ s2 hk1 hk2)
theorem op_45 (hS : HdS S) (hx : ScM S LL xs) (h3 : LL ≤ 3072) (hi : i + 6 ≤ LL) : OpOk S i 1568 := by
  intro k1 k2 u5 u6 I L w1 w2 t hs hk1 hk2 hK
  refine a_l1 rfl rfl rfl ?_
  refine a_gV rfl lL_296 mo_X11_crux (q_X11_crux_200) rfl rfl rfl ⟨11, _, rfl, rfl, rfl⟩ rfl (fun v' h' hv => ?_)
  obtain ⟨⟨v1, rfl⟩, I1, rfl, f1⟩ := hv
  have s1 := Sy.q hs f1
  clear f1
  refine a_s rfl rfl ?_
  refine a_l2 rfl rfl rfl ?_
  have hr2 := s1.ri
  refine a_gV rfl lL_299 mo_X12_crux (r_X12_crux hr2.so hr2.lw hr2.lg) rfl rfl rfl ⟨12, _, rfl, rfl, rfl⟩ rfl (fun v' h' hv => ?_)
  obtain ⟨⟨v2, rfl⟩, I2, rfl, f2⟩ := hv
  have s2 := Sy.v s1 f2
  clear f2
  refine a_s rfl rfl ?_
  refine a_goto rfl ?_
  exact a_rm (by omega) (by omega) (hK _ _ _ _ _ _ _ s2 hk1 hk2)
theorem op_46 (hS : HdS S) (hx : ScM S LL xs) (h3 : LL ≤ 3072) (hi : i + 6 ≤ LL) : OpOk S i 1581 := by
  intro k1 k2 u5 u6 I L w1 w2 t hs hk1 hk2 hK
  refine a_l1 rfl rfl rfl ?_
  refine a_l0 rfl rfl rfl ?_
  refine a_l4 rfl rfl rfl ?_
  refine a_s rfl rfl ?_
  refine a_s rfl rfl ?_
  refine a_top (y := nI (i + 1)) (nI_addl i 1) ?_
  refine a_ialdc rfl hx (inI_nI (by omega) (by omega)) ?_
  refine a_l3 rfl rfl rfl ?_
  refine a_callW rfl lL_300 mo_L_sick (L_sick (S := S) hS hs.1.1 hk1 hk2) rfl rfl (ck4 rfl rfl rfl rfl) rfl (fun v' h' hv => ?_) (fun _ _ z => False.elim z)
  obtain ⟨⟨v1, rfl⟩, I1, L1, a1, b1, t1, rfl, f1, ka1, kb1⟩ := hv
  have s1 := Sy.q hs f1
  clear f1
  refine a_s5 rfl rfl rfl rfl rfl rfl ?_
  refine a_l2 rfl rfl rfl ?_
  refine a_l0 rfl rfl rfl ?_
  refine a_l4 rfl rfl rfl ?_
  refine a_s rfl rfl ?_
  refine a_s rfl rfl ?_
  refine a_top (y := nI (i + 1)) (nI_addl i 1) ?_
  refine a_ialdc rfl hx (inI_nI (by omega) (by omega)) ?_
  have hr2 := s1.ri
  refine a_gV rfl lL_302 mo_X12_sick (r_X12_sick hr2.so hr2.lw hr2.lg) rfl rfl rfl ⟨12, _, rfl, rfl, rfl⟩ rfl (fun v' h' hv => ?_)
  obtain ⟨⟨v2, rfl⟩, I2, rfl, f2⟩ := hv
  have s2 := Sy.v s1 f2
  clear f2
  refine a_s6 rfl rfl rfl rfl rfl rfl ?_
  refine a_goto rfl ?_
  exact a_rm (by omega) (by omega) (hK _ _ _ _ _ _ _ s2 ka1 kb1)
theorem op_47 (hS : HdS S) (hx : ScM S LL xs) (h3 : LL ≤ 3072) (hi : i + 6 ≤ LL) : OpOk S i 1609 := by
  intro k1 k2 u5 u6 I L w1 w2 t hs hk1 hk2 hK
  refine a_l1 rfl rfl rfl ?_
  refine a_gV rfl lL_303 mo_X11_alike (q_X11_alike_200) rfl rfl rfl ⟨11, _, rfl, rfl, rfl⟩ rfl (fun v' h' hv => ?_)
  obtain ⟨⟨v1, rfl⟩, rfl⟩ := hv
  refine a_s rfl rfl ?_
  refine a_l2 rfl rfl rfl ?_
  have hr2 := hs.ri
  refine a_gV rfl lL_306 mo_X12_alike (r_X12_alike hr2.so hr2.lw hr2.lg) rfl rfl rfl ⟨12, _, rfl, rfl, rfl⟩ rfl (fun v' h' hv => ?_)
  obtain ⟨⟨v2, rfl⟩, I2, rfl, f2⟩ := hv
  have s2 := Sy.u hs f2
  clear f2
  refine a_s rfl rfl ?_
  refine a_goto rfl ?_
  exact a_rm (by omega) (by omega) (hK _ _ _ _ _ _ _ s2 hk1 hk2)
theorem op_48 (hS : HdS S) (hx : ScM S LL xs) (h3 : LL ≤ 3072) (hi : i + 6 ≤ LL) : OpOk S i 1622 := by
  intro k1 k2 u5 u6 I L w1 w2 t hs hk1 hk2 hK
  refine a_l1 rfl rfl rfl ?_
  refine a_l0 rfl rfl rfl ?_
  refine a_l4 rfl rfl rfl ?_
  refine a_s rfl rfl ?_
  refine a_s rfl rfl ?_
  refine a_top (y := nI (i + 1)) (nI_addl i 1) ?_
  refine a_ialdc rfl hx (inI_nI (by omega) (by omega)) ?_
  refine a_l0 rfl rfl rfl ?_
  refine a_l4 rfl rfl rfl ?_
  refine a_s rfl rfl ?_
  refine a_s rfl rfl ?_
  refine a_top (y := nI (i + 2)) (nI_addl i 2) ?_
  refine a_ialdc rfl hx (inI_nI (by omega) (by omega)) ?_
  refine a_l0 rfl rfl rfl ?_
  refine a_l4 rfl rfl rfl ?_
  refine a_s rfl rfl ?_
  refine a_s rfl rfl ?_
  refine a_top (y := nI (i + 3)) (nI_addl i 3) ?_
  refine a_ialdc rfl hx (inI_nI (by omega) (by omega)) ?_
  refine a_l3 rfl rfl rfl ?_
  refine a_callW rfl lL_307 mo_L_ahead (L_ahead (S := S) hS hs.1.1 hk1 hk2) rfl rfl (ck4 rfl rfl rfl rfl) rfl (fun v' h' hv => ?_) (fun _ _ z => False.elim z)
  obtain ⟨⟨v1, rfl⟩, I1, L1, a1, b1, t1, rfl, f1, ka1, kb1⟩ := hv
  have s1 := Sy.q hs f1
  clear f1
  refine a_s5 rfl rfl rfl rfl rfl rfl ?_
  refine a_l2 rfl rfl rfl ?_
  refine a_l0 rfl rfl rfl ?_
  refine a_l4 rfl rfl rfl ?_
  refine a_s rfl rfl ?_
  refine a_s rfl rfl ?_
  refine a_top (y := nI (i + 1)) (nI_addl i 1) ?_
  refine a_ialdc rfl hx (inI_nI (by omega) (by omega)) ?_
  refine a_l0 rfl rfl rfl ?_
  refine a_l4 rfl rfl rfl ?_
  refine a_s rfl rfl ?_
  refine a_s rfl rfl ?_
  refine a_top (y := nI (i + 2)) (nI_addl i 2) ?_
  refine a_ialdc rfl hx (inI_nI (by omega) (by omega)) ?_
  refine a_l0 rfl rfl rfl ?_
  refine a_l4 rfl rfl rfl ?_
  refine a_s rfl rfl ?_
  refine a_s rfl rfl ?_
  refine a_top (y := nI (i + 3)) (nI_addl i 3) ?_
  refine a_ialdc rfl hx (inI_nI (by omega) (by omega)) ?_
  have hr2 := s1.ri
  refine a_gV rfl lL_309 mo_X12_ahead (r_X12_ahead hr2.so hr2.lw hr2.lg) rfl rfl rfl ⟨12, _, rfl, rfl, rfl⟩ rfl (fun v' h' hv => ?_)
  obtain ⟨⟨v2, rfl⟩, I2, rfl, f2⟩ := hv
  have s2 := Sy.v s1 f2
  clear f2
  refine a_s6 rfl rfl rfl rfl rfl rfl ?_
  refine a_goto rfl ?_
  exact a_rm (by omega) (by omega) (hK _ _ _ _ _ _ _ s2 ka1 kb1)
theorem op_49 (hS : HdS S) (hx : ScM S LL xs) (h3 : LL ≤ 3072) (hi : i + 6 ≤ LL) : OpOk S i 1674 := by
  intro k1 k2 u5 u6 I L w1 w2 t hs hk1 hk2 hK
  refine a_l1 rfl rfl rfl ?_
  refine a_l0 rfl rfl rfl ?_
  refine a_l4 rfl rfl rfl ?_
  refine a_s rfl rfl ?_
  refine a_s rfl rfl ?_
  refine a_top (y := nI (i + 1)) (nI_addl i 1) ?_
  refine a_ialdc rfl hx (inI_nI (by omega) (by omega)) ?_
  refine a_l0 rfl rfl rfl ?_
  refine a_l4 rfl rfl rfl ?_
  refine a_s rfl rfl ?_
  refine a_s rfl rfl ?_
  refine a_top (y := nI (i + 2)) (nI_addl i 2) ?_
  refine a_ialdc rfl hx (inI_nI (by omega) (by omega)) ?_
  refine a_if_eq rfl (fun _ => ?_) (fun _ => ?_)
  · refine a_s rfl rfl ?_
    refine a_l3 rfl rfl rfl ?_
    refine a_callW rfl lL_310 mo_L_trial (L_trial (S := S) hS hs.1.1 hk1 hk2 (b2 := false)) rfl rfl (ck4 rfl rfl rfl rfl) rfl (fun v' h' hv => ?_) (fun _ _ z => False.elim z)
    obtain ⟨⟨v1, rfl⟩, I1, L1, a1, b1, t1, rfl, f1, ka1, kb1⟩ := hv
    have s1 := Sy.q hs f1
    clear f1
    refine a_s5 rfl rfl rfl rfl rfl rfl ?_
    refine a_l2 rfl rfl rfl ?_
    refine a_l0 rfl rfl rfl ?_
    refine a_l4 rfl rfl rfl ?_
    refine a_s rfl rfl ?_
    refine a_s rfl rfl ?_
    refine a_top (y := nI (i + 1)) (nI_addl i 1) ?_
    refine a_ialdc rfl hx (inI_nI (by omega) (by omega)) ?_
    refine a_l0 rfl rfl rfl ?_
    refine a_l4 rfl rfl rfl ?_
    refine a_s rfl rfl ?_
    refine a_s rfl rfl ?_
    refine a_top (y := nI (i + 2)) (nI_addl i 2) ?_
    refine a_ialdc rfl hx (inI_nI (by omega) (by omega)) ?_
    refine a_if_eq rfl (fun _ => ?_) (fun _ => ?_)
    · refine a_s rfl rfl ?_
      have hr2 := s1.ri
      refine a_gV rfl lL_312 mo_X12_trial (r_X12_trial hr2.so hr2.lw hr2.lg (b2 := false)) rfl rfl rfl ⟨12, _, rfl, rfl, rfl⟩ rfl (fun v' h' hv => ?_)
      obtain ⟨⟨v2, rfl⟩, I2, rfl, f2⟩ := hv
      have s2 := Sy.v s1 f2
      clear f2
      refine a_s6 rfl rfl rfl rfl rfl rfl ?_
      refine a_goto rfl ?_
      exact a_rm (by omega) (by omega) (hK _ _ _ _ _ _ _ s2 ka1 kb1)
    · refine a_s rfl rfl ?_
      refine a_goto rfl ?_
      have hr3 := s1.ri
      refine a_gV rfl lL_312 mo_X12_trial (r_X12_trial hr3.so hr3.lw hr3.lg (b2 := true)) rfl rfl rfl ⟨12, _, rfl, rfl, rfl⟩ rfl (fun v' h' hv => ?_)
      obtain ⟨⟨v3, rfl⟩, I3, rfl, f3⟩ := hv
      have s3 := Sy.v s1 f3
      clear f3
      refine a_s6 rfl rfl rfl rfl rfl rfl ?_
      refine a_goto rfl ?_
      exact a_rm (by omega) (by omega) (hK _ _ _ _ _ _ _ s3 ka1 kb1)
  · refine a_s rfl rfl ?_
    refine a_goto rfl ?_
    refine a_l3 rfl rfl rfl ?_
    refine a_callW rfl lL_310 mo_L_trial (L_trial (S := S) hS hs.1.1 hk1 hk2 (b2 := true)) rfl rfl (ck4 rfl rfl rfl rfl) rfl (fun v' h' hv => ?_) (fun _ _ z => False.elim z)
    obtain ⟨⟨v4, rfl⟩, I4, L4, a4, b4, t4, rfl, f4, ka4, kb4⟩ := hv
    have s4 := Sy.q hs f4
    clear f4
    refine a_s5 rfl rfl rfl rfl rfl rfl ?_
    refine a_l2 rfl rfl rfl ?_
    refine a_l0 rfl rfl rfl ?_
    refine a_l4 rfl rfl rfl ?_
    refine a_s rfl rfl ?_
    refine a_s rfl rfl ?_
    refine a_top (y := nI (i + 1)) (nI_addl i 1) ?_
    refine a_ialdc rfl hx (inI_nI (by omega) (by omega)) ?_
    refine a_l0 rfl rfl rfl ?_
    refine a_l4 rfl rfl rfl ?_
    refine a_s rfl rfl ?_
    refine a_s rfl rfl ?_
    refine a_top (y := nI (i + 2)) (nI_addl i 2) ?_
    refine a_ialdc rfl hx (inI_nI (by omega) (by omega)) ?_
    refine a_if_eq rfl (fun _ => ?_) (fun _ => ?_)
    · refine a_s rfl rfl ?_
      have hr5 := s4.ri
      refine a_gV rfl lL_312 mo_X12_trial (r_X12_trial hr5.so hr5.lw hr5.lg (b2 := false)) rfl rfl rfl ⟨12, _, rfl, rfl, rfl⟩ rfl (fun v' h' hv => ?_)
      obtain ⟨⟨v5, rfl⟩, I5, rfl, f5⟩ := hv
      have s5 := Sy.v s4 f5
      clear f5
      refine a_s6 rfl rfl rfl rfl rfl rfl ?_
      refine a_goto rfl ?_
      exact a_rm (by omega) (by omega) (hK _ _ _ _ _ _ _ s5 ka4 kb4)
    · refine a_s rfl rfl ?_
      refine a_goto rfl ?_
      have hr6 := s4.ri
      refine a_gV rfl lL_312 mo_X12_trial (r_X12_trial hr6.so hr6.lw hr6.lg (b2 := true)) rfl rfl rfl ⟨12, _, rfl, rfl, rfl⟩ rfl (fun v' h' hv => ?_)
      obtain ⟨⟨v6, rfl⟩, I6, rfl, f6⟩ := hv
      have s6 := Sy.v s4 f6
      clear f6
      refine a_s6 rfl rfl rfl rfl rfl rfl ?_
      refine a_goto rfl ?_
      exact a_rm (by omega) (by omega) (hK _ _ _ _ _ _ _ s6 ka4 kb4)
theorem op_50 (hS : HdS S) (hx : ScM S LL xs) (h3 : LL ≤ 3072) (hi : i + 6 ≤ LL) : OpOk S i 1730 := by
  intro k1 k2 u5 u6 I L w1 w2 t hs hk1 hk2 hK
  refine a_l1 rfl rfl rfl ?_
  refine a_l0 rfl rfl rfl ?_
  refine a_l4 rfl rfl rfl ?_
  refine a_s rfl rfl ?_
  refine a_s rfl rfl ?_
  refine a_top (y := nI (i + 1)) (nI_addl i 1) ?_
  refine a_ialdc rfl hx (inI_nI (by omega) (by omega)) ?_
  refine a_l0 rfl rfl rfl ?_
  refine a_l4 rfl rfl rfl ?_
  refine a_s rfl rfl ?_
  refine a_s rfl rfl ?_
  refine a_top (y := nI (i + 2)) (nI_addl i 2) ?_
  refine a_ialdc rfl hx (inI_nI (by omega) (by omega)) ?_
  refine a_if_eq rfl (fun _ => ?_) (fun _ => ?_)
  · refine a_s rfl rfl ?_
    refine a_l3 rfl rfl rfl ?_
    refine a_callW rfl lL_313 mo_L_span (L_span (S := S) hS hs.1.1 hk1 hk2 (b2 := false)) rfl rfl (ck4 rfl rfl rfl rfl) rfl (fun v' h' hv => ?_) (fun _ _ z => False.elim z)
    obtain ⟨⟨v1, rfl⟩, I1, L1, a1, b1, t1, rfl, f1, ka1, kb1⟩ := hv
    have s1 := Sy.q hs f1
    clear f1
    refine a_s5 rfl rfl rfl rfl rfl rfl ?_
    refine a_l2 rfl rfl rfl ?_
    refine a_l0 rfl rfl rfl ?_
    refine a_l4 rfl rfl rfl ?_
    refine a_s rfl rfl ?_
    refine a_s rfl rfl ?_
    refine a_top (y := nI (i + 1)) (nI_addl i 1) ?_
    refine a_ialdc rfl hx (inI_nI (by omega) (by omega)) ?_
    refine a_l0 rfl rfl rfl ?_
    refine a_l4 rfl rfl rfl ?_
    refine a_s rfl rfl ?_
    refine a_s rfl rfl ?_
    refine a_top (y := nI (i + 2)) (nI_addl i 2) ?_
    refine a_ialdc rfl hx (inI_nI (by omega) (by omega)) ?_
    refine a_if_eq rfl (fun _ => ?_) (fun _ => ?_)
    · refine a_s rfl rfl ?_
      have hr2 := s1.ri
      refine a_gV rfl lL_315 mo_X12_span (r_X12_span hr2.so hr2.lw hr2.lg (b2 := false)) rfl rfl rfl ⟨12, _, rfl, rfl, rfl⟩ rfl (fun v' h' hv => ?_)
      obtain ⟨⟨v2, rfl⟩, I2, rfl, f2⟩ := hv
      have s2 := Sy.v s1 f2
      clear f2
      refine a_s6 rfl rfl rfl rfl rfl rfl ?_
      refine a_goto rfl ?_
      exact a_rm (by omega) (by omega) (hK _ _ _ _ _ _ _ s2 ka1 kb1)
    · refine a_s rfl rfl ?_
      refine a_goto rfl ?_
      have hr3 := s1.ri
      refine a_gV rfl lL_315 mo_X12_span (r_X12_span hr3.so hr3.lw hr3.lg (b2 := true)) rfl rfl rfl ⟨12, _, rfl, rfl, rfl⟩ rfl (fun v' h' hv => ?_)
      obtain ⟨⟨v3, rfl⟩, I3, rfl, f3⟩ := hv
      have s3 := Sy.v s1 f3
      clear f3
      refine a_s6 rfl rfl rfl rfl rfl rfl ?_
      refine a_goto rfl ?_
      exact a_rm (by omega) (by omega) (hK _ _ _ _ _ _ _ s3 ka1 kb1)
  · refine a_s rfl rfl ?_
    refine a_goto rfl ?_
    refine a_l3 rfl rfl rfl ?_
    refine a_callW rfl lL_313 mo_L_span (L_span (S := S) hS hs.1.1 hk1 hk2 (b2 := true)) rfl rfl (ck4 rfl rfl rfl rfl) rfl (fun v' h' hv => ?_) (fun _ _ z => False.elim z)
    obtain ⟨⟨v4, rfl⟩, I4, L4, a4, b4, t4, rfl, f4, ka4, kb4⟩ := hv
    have s4 := Sy.q hs f4
    clear f4
    refine a_s5 rfl rfl rfl rfl rfl rfl ?_
    refine a_l2 rfl rfl rfl ?_
    refine a_l0 rfl rfl rfl ?_
    refine a_l4 rfl rfl rfl ?_
    refine a_s rfl rfl ?_
    refine a_s rfl rfl ?_
    refine a_top (y := nI (i + 1)) (nI_addl i 1) ?_
    refine a_ialdc rfl hx (inI_nI (by omega) (by omega)) ?_
    refine a_l0 rfl rfl rfl ?_
    refine a_l4 rfl rfl rfl ?_
    refine a_s rfl rfl ?_
    refine a_s rfl rfl ?_
    refine a_top (y := nI (i + 2)) (nI_addl i 2) ?_
    refine a_ialdc rfl hx (inI_nI (by omega) (by omega)) ?_
    refine a_if_eq rfl (fun _ => ?_) (fun _ => ?_)
    · refine a_s rfl rfl ?_
      have hr5 := s4.ri
      refine a_gV rfl lL_315 mo_X12_span (r_X12_span hr5.so hr5.lw hr5.lg (b2 := false)) rfl rfl rfl ⟨12, _, rfl, rfl, rfl⟩ rfl (fun v' h' hv => ?_)
      obtain ⟨⟨v5, rfl⟩, I5, rfl, f5⟩ := hv
      have s5 := Sy.v s4 f5
      clear f5
      refine a_s6 rfl rfl rfl rfl rfl rfl ?_
      refine a_goto rfl ?_
      exact a_rm (by omega) (by omega) (hK _ _ _ _ _ _ _ s5 ka4 kb4)
    · refine a_s rfl rfl ?_
      refine a_goto rfl ?_
      have hr6 := s4.ri
      refine a_gV rfl lL_315 mo_X12_span (r_X12_span hr6.so hr6.lw hr6.lg (b2 := true)) rfl rfl rfl ⟨12, _, rfl, rfl, rfl⟩ rfl (fun v' h' hv => ?_)
      obtain ⟨⟨v6, rfl⟩, I6, rfl, f6⟩ := hv
      have s6 := Sy.v s4 f6
      clear f6
      refine a_s6 rfl rfl rfl rfl rfl rfl ?_
      refine a_goto rfl ?_
      exact a_rm (by omega) (by omega) (hK _ _ _ _ _ _ _ s6 ka4 kb4)
theorem op_51 (hS : HdS S) (hx : ScM S LL xs) (h3 : LL ≤ 3072) (hi : i + 6 ≤ LL) : OpOk S i 1786 := by
  intro k1 k2 u5 u6 I L w1 w2 t hs hk1 hk2 hK
  refine a_l1 rfl rfl rfl ?_
  refine a_l0 rfl rfl rfl ?_
  refine a_l4 rfl rfl rfl ?_
  refine a_s rfl rfl ?_
  refine a_s rfl rfl ?_
  refine a_top (y := nI (i + 1)) (nI_addl i 1) ?_
  refine a_ialdc rfl hx (inI_nI (by omega) (by omega)) ?_
  refine a_l0 rfl rfl rfl ?_
  refine a_l4 rfl rfl rfl ?_
  refine a_s rfl rfl ?_
  refine a_s rfl rfl ?_
  refine a_top (y := nI (i + 2)) (nI_addl i 2) ?_
  refine a_ialdc rfl hx (inI_nI (by omega) (by omega)) ?_
  refine a_if_eq rfl (fun _ => ?_) (fun _ => ?_)
  · refine a_s rfl rfl ?_
    refine a_l3 rfl rfl rfl ?_
    refine a_callW rfl lL_316 mo_L_led (L_led (S := S) hS hs.1.1 hk1 hk2 (b2 := false)) rfl rfl (ck4 rfl rfl rfl rfl) rfl (fun v' h' hv => ?_) (fun _ _ z => False.elim z)
    obtain ⟨⟨v1, rfl⟩, I1, L1, a1, b1, t1, rfl, f1, ka1, kb1⟩ := hv
    have s1 := Sy.q hs f1
    clear f1
    refine a_s5 rfl rfl rfl rfl rfl rfl ?_
    refine a_l2 rfl rfl rfl ?_
    refine a_l0 rfl rfl rfl ?_
    refine a_l4 rfl rfl rfl ?_
    refine a_s rfl rfl ?_
    refine a_s rfl rfl ?_
    refine a_top (y := nI (i + 1)) (nI_addl i 1) ?_
    refine a_ialdc rfl hx (inI_nI (by omega) (by omega)) ?_
    refine a_l0 rfl rfl rfl ?_
    refine a_l4 rfl rfl rfl ?_
    refine a_s rfl rfl ?_
    refine a_s rfl rfl ?_
    refine a_top (y := nI (i + 2)) (nI_addl i 2) ?_
    refine a_ialdc rfl hx (inI_nI (by omega) (by omega)) ?_
    refine a_if_eq rfl (fun _ => ?_) (fun _ => ?_)
    · refine a_s rfl rfl ?_
      have hr2 := s1.ri
      refine a_gV rfl lL_318 mo_X12_led (r_X12_led hr2.so hr2.lw hr2.lg (b2 := false)) rfl rfl rfl ⟨12, _, rfl, rfl, rfl⟩ rfl (fun v' h' hv => ?_)
      obtain ⟨⟨v2, rfl⟩, I2, rfl, f2⟩ := hv
      have s2 := Sy.v s1 f2
      clear f2
      refine a_s6 rfl rfl rfl rfl rfl rfl ?_
      refine a_goto rfl ?_
      exact a_rm (by omega) (by omega) (hK _ _ _ _ _ _ _ s2 ka1 kb1)
    · refine a_s rfl rfl ?_
      refine a_goto rfl ?_
      have hr3 := s1.ri
      refine a_gV rfl lL_318 mo_X12_led (r_X12_led hr3.so hr3.lw hr3.lg (b2 := true)) rfl rfl rfl ⟨12, _, rfl, rfl, rfl⟩ rfl (fun v' h' hv => ?_)
      obtain ⟨⟨v3, rfl⟩, I3, rfl, f3⟩ := hv
      have s3 := Sy.v s1 f3
      clear f3
      refine a_s6 rfl rfl rfl rfl rfl rfl ?_
      refine a_goto rfl ?_
      exact a_rm (by omega) (by omega) (hK _ _ _ _ _ _ _ s3 ka1 kb1)
  · refine a_s rfl rfl ?_
    refine a_goto rfl ?_
    refine a_l3 rfl rfl rfl ?_
    refine a_callW rfl lL_316 mo_L_led (L_led (S := S) hS hs.1.1 hk1 hk2 (b2 := true)) rfl rfl (ck4 rfl rfl rfl rfl) rfl (fun v' h' hv => ?_) (fun _ _ z => False.elim z)
    obtain ⟨⟨v4, rfl⟩, I4, L4, a4, b4, t4, rfl, f4, ka4, kb4⟩ := hv
    have s4 := Sy.q hs f4
    clear f4
    refine a_s5 rfl rfl rfl rfl rfl rfl ?_
    refine a_l2 rfl rfl rfl ?_
    refine a_l0 rfl rfl rfl ?_
    refine a_l4 rfl rfl rfl ?_
    refine a_s rfl rfl ?_
    refine a_s rfl rfl ?_
    refine a_top (y := nI (i + 1)) (nI_addl i 1) ?_
    refine a_ialdc rfl hx (inI_nI (by omega) (by omega)) ?_
    refine a_l0 rfl rfl rfl ?_
    refine a_l4 rfl rfl rfl ?_
    refine a_s rfl rfl ?_
    refine a_s rfl rfl ?_
    refine a_top (y := nI (i + 2)) (nI_addl i 2) ?_
    refine a_ialdc rfl hx (inI_nI (by omega) (by omega)) ?_
    refine a_if_eq rfl (fun _ => ?_) (fun _ => ?_)
    · refine a_s rfl rfl ?_
      have hr5 := s4.ri
      refine a_gV rfl lL_318 mo_X12_led (r_X12_led hr5.so hr5.lw hr5.lg (b2 := false)) rfl rfl rfl ⟨12, _, rfl, rfl, rfl⟩ rfl (fun v' h' hv => ?_)
      obtain ⟨⟨v5, rfl⟩, I5, rfl, f5⟩ := hv
      have s5 := Sy.v s4 f5
      clear f5
      refine a_s6 rfl rfl rfl rfl rfl rfl ?_
      refine a_goto rfl ?_
      exact a_rm (by omega) (by omega) (hK _ _ _ _ _ _ _ s5 ka4 kb4)
    · refine a_s rfl rfl ?_
      refine a_goto rfl ?_
      have hr6 := s4.ri
      refine a_gV rfl lL_318 mo_X12_led (r_X12_led hr6.so hr6.lw hr6.lg (b2 := true)) rfl rfl rfl ⟨12, _, rfl, rfl, rfl⟩ rfl (fun v' h' hv => ?_)
      obtain ⟨⟨v6, rfl⟩, I6, rfl, f6⟩ := hv
      have s6 := Sy.v s4 f6
      clear f6
      refine a_s6 rfl rfl rfl rfl rfl rfl ?_
      refine a_goto rfl ?_
      exact a_rm (by omega) (by omega) (hK _ _ _ _ _ _ _ s6 ka4 kb4)
theorem op_52 (hS : HdS S) (hx : ScM S LL xs) (h3 : LL ≤ 3072) (hi : i + 6 ≤ LL) : OpOk S i 1842 := by
  intro k1 k2 u5 u6 I L w1 w2 t hs hk1 hk2 hK
  refine a_l1 rfl rfl rfl ?_
  refine a_l0 rfl rfl rfl ?_
  refine a_l4 rfl rfl rfl ?_
  refine a_s rfl rfl ?_
  refine a_s rfl rfl ?_
  refine a_top (y := nI (i + 1)) (nI_addl i 1) ?_
  refine a_ialdc rfl hx (inI_nI (by omega) (by omega)) ?_
  refine a_l0 rfl rfl rfl ?_
  refine a_l4 rfl rfl rfl ?_
  refine a_s rfl rfl ?_
  refine a_s rfl rfl ?_
  refine a_top (y := nI (i + 2)) (nI_addl i 2) ?_
  refine a_ialdc rfl hx (inI_nI (by omega) (by omega)) ?_
  refine a_l3 rfl rfl rfl ?_
  refine a_callW rfl lL_319 mo_L_log (L_log (S := S) hS hs.1.1 hk1 hk2) rfl rfl (ck4 rfl rfl rfl rfl) rfl (fun v' h' hv => ?_) (fun _ _ z => False.elim z)
  obtain ⟨⟨v1, rfl⟩, I1, L1, a1, b1, t1, rfl, f1, ka1, kb1⟩ := hv
  have s1 := Sy.q hs f1
  clear f1
  refine a_s5 rfl rfl rfl rfl rfl rfl ?_
  refine a_l2 rfl rfl rfl ?_
  refine a_l0 rfl rfl rfl ?_
  refine a_l4 rfl rfl rfl ?_
  refine a_s rfl rfl ?_
  refine a_s rfl rfl ?_
  refine a_top (y := nI (i + 1)) (nI_addl i 1) ?_
  refine a_ialdc rfl hx (inI_nI (by omega) (by omega)) ?_
  refine a_l0 rfl rfl rfl ?_
  refine a_l4 rfl rfl rfl ?_
  refine a_s rfl rfl ?_
  refine a_s rfl rfl ?_
  refine a_top (y := nI (i + 2)) (nI_addl i 2) ?_
  refine a_ialdc rfl hx (inI_nI (by omega) (by omega)) ?_
  have hr2 := s1.ri
  refine a_gV rfl lL_321 mo_X12_log (r_X12_log hr2.so hr2.lw hr2.lg) rfl rfl rfl ⟨12, _, rfl, rfl, rfl⟩ rfl (fun v' h' hv => ?_)
  obtain ⟨⟨v2, rfl⟩, I2, rfl, f2⟩ := hv
  have s2 := Sy.v s1 f2
  clear f2
  refine a_s6 rfl rfl rfl rfl rfl rfl ?_
  refine a_goto rfl ?_
  exact a_rm (by omega) (by omega) (hK _ _ _ _ _ _ _ s2 ka1 kb1)
theorem op_53 (hS : HdS S) (hx : ScM S LL xs) (h3 : LL ≤ 3072) (hi : i + 6 ≤ LL) : OpOk S i 1882 := by
  intro k1 k2 u5 u6 I L w1 w2 t hs hk1 hk2 hK
  refine a_l1 rfl rfl rfl ?_
  refine a_l0 rfl rfl rfl ?_
  refine a_l4 rfl rfl rfl ?_
  refine a_s rfl rfl ?_
  refine a_s rfl rfl ?_
  refine a_top (y := nI (i + 1)) (nI_addl i 1) ?_
  refine a_ialdc rfl hx (inI_nI (by omega) (by omega)) ?_
  refine a_eV1 rfl lL_322 mo_X11_seed f_seed rfl rfl rfl ⟨11, _, rfl, rfl, rfl⟩ rfl ?_
  refine a_s rfl rfl ?_
  refine a_l2 rfl rfl rfl ?_
  refine a_l0 rfl rfl rfl ?_
  refine a_l4 rfl rfl rfl ?_
  refine a_s rfl rfl ?_
  refine a_s rfl rfl ?_
  refine a_top (y := nI (i + 1)) (nI_addl i 1) ?_
  refine a_ialdc rfl hx (inI_nI (by omega) (by omega)) ?_
  refine a_eV1 rfl lL_325 mo_X12_seed h_seed rfl rfl rfl ⟨12, _, rfl, rfl, rfl⟩ rfl ?_
  have s2 := Sy.seed hs (x := xs (nI (i + 1)).toNatClampNeg)
  refine a_s rfl rfl ?_
  refine a_goto rfl ?_
  exact a_rm (by omega) (by omega) (hK _ _ _ _ _ _ _ s2 hk1 hk2)
theorem op_54 (hS : HdS S) (hx : ScM S LL xs) (h3 : LL ≤ 3072) (hi : i + 6 ≤ LL) : OpOk S i 1907 := by
  intro k1 k2 u5 u6 I L w1 w2 t hs hk1 hk2 hK
  refine a_l1 rfl rfl rfl ?_
  obtain ⟨n1, fa1, ps1⟩ := Sim.ps (Sy.sim hs)
  refine a_eV1 rfl lL_326 mo_X11_undo (f_undo ps1.2.2.1 ps1.1 ps1.2.2.2.2.1 ps1.2.1) rfl rfl rfl ⟨11, _, rfl, rfl, rfl⟩ rfl ?_
  refine a_s rfl rfl ?_
  refine a_l2 rfl rfl rfl ?_
  refine a_eV1 rfl lL_330 mo_X12_undo (h_undo ((congrFun (unS_hi (by decide)) 7).trans ps1.2.2.2.1) ps1.1) rfl rfl rfl ⟨12, _, rfl, rfl, rfl⟩ rfl ?_
  have s2 := Sy.undo hs ps1
  refine a_s rfl rfl ?_
  refine a_goto rfl ?_
  exact a_rm (by omega) (by omega) (hK _ _ _ _ _ _ _ s2 hk1 hk2)
theorem op_55 (hS : HdS S) (hx : ScM S LL xs) (h3 : LL ≤ 3072) (hi : i + 6 ≤ LL) : OpOk S i 1920 := by
  intro k1 k2 u5 u6 I L w1 w2 t hs hk1 hk2 hK
  refine a_l1 rfl rfl rfl ?_
  refine a_eV0 rfl lL_331 mo_X11_image f_image rfl rfl rfl ⟨11, _, rfl, rfl, rfl⟩ rfl ?_
  refine a_l2 rfl rfl rfl ?_
  refine a_eV0 rfl lL_334 mo_X12_image (r_X12_image (hs.ri.rows fun q hq => imS_hi hq)) rfl rfl rfl ⟨12, _, rfl, rfl, rfl⟩ rfl ?_
  have s2 := Sy.image hs
  refine a_goto rfl ?_
  exact a_rm (by omega) (by omega) (hK _ _ _ _ _ _ _ s2 hk1 hk2)
theorem op_56 (hS : HdS S) (hx : ScM S LL xs) (h3 : LL ≤ 3072) (hi : i + 6 ≤ LL) : OpOk S i 1931 := by
  intro k1 k2 u5 u6 I L w1 w2 t hs hk1 hk2 hK
  refine a_l1 rfl rfl rfl ?_
  refine a_eV1 rfl lL_335 mo_X11_back f_back rfl rfl rfl ⟨11, _, rfl, rfl, rfl⟩ rfl ?_
  refine a_s rfl rfl ?_
  refine a_l2 rfl rfl rfl ?_
  refine a_eV1 rfl lL_338 mo_X12_back h_back rfl rfl rfl ⟨12, _, rfl, rfl, rfl⟩ rfl ?_
  have s2 := Sy.back hs
  refine a_s rfl rfl ?_
  refine a_goto rfl ?_
  exact a_rm (by omega) (by omega) (hK _ _ _ _ _ _ _ s2 hk1 hk2)
theorem op_57 (hS : HdS S) (hx : ScM S LL xs) (h3 : LL ≤ 3072) (hi : i + 6 ≤ LL) : OpOk S i 1944 := by
  intro k1 k2 u5 u6 I L w1 w2 t hs hk1 hk2 hK
  refine a_l1 rfl rfl rfl ?_
  refine a_l0 rfl rfl rfl ?_
  refine a_l4 rfl rfl rfl ?_
  refine a_s rfl rfl ?_
  refine a_s rfl rfl ?_
  refine a_top (y := nI (i + 1)) (nI_addl i 1) ?_
  refine a_ialdc rfl hx (inI_nI (by omega) (by omega)) ?_
  refine a_gV rfl lL_339 mo_X11_count (q_X11_count_200) rfl rfl rfl ⟨11, _, rfl, rfl, rfl⟩ rfl (fun v' h' hv => ?_)
  obtain ⟨⟨v1, rfl⟩, I1, rfl, f1⟩ := hv
  have s1 := Sy.q hs f1
  clear f1
  refine a_s rfl rfl ?_
  refine a_l2 rfl rfl rfl ?_
  refine a_l0 rfl rfl rfl ?_
  refine a_l4 rfl rfl rfl ?_
  refine a_s rfl rfl ?_
  refine a_s rfl rfl ?_
  refine a_top (y := nI (i + 1)) (nI_addl i 1) ?_
  refine a_ialdc rfl hx (inI_nI (by omega) (by omega)) ?_
  have hr2 := s1.ri
  refine a_gV rfl lL_342 mo_X12_count (r_X12_count hr2.so hr2.lw hr2.lg) rfl rfl rfl ⟨12, _, rfl, rfl, rfl⟩ rfl (fun v' h' hv => ?_)
  obtain ⟨⟨v2, rfl⟩, I2, rfl, f2⟩ := hv
  have s2 := Sy.u s1 f2
  clear f2
  refine a_s rfl rfl ?_
  refine a_goto rfl ?_
  exact a_rm (by omega) (by omega) (hK _ _ _ _ _ _ _ s2 hk1 hk2)
end O81
