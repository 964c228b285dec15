/-! ===== questions exactly, on both sides, told by one row ===== -/
section T79zv
variable {S : aS} {I J : Nat → Nat → Int32} {L : Nat → Nat → Int64} {w1 w2 t d : Nat} {W : Nat → Int32} {c y val k x1 x2 ov : Int32} {l : Int64}
set_option maxRecDepth 100000
theorem Sy.d3 (h : Sy I) : I 235 3 = nI (dn (I 421)) := (Sd.fd h.nm.1 (f := 3) (g := 1) (by decide)).trans h.nm.2.2.1.2.2.2
theorem Sy.d0 (h : Sy I) : I 235 0 = nI (pn (I 421)) := (Sd.fd h.nm.1 (f := 0) (g := 0) (by decide)).trans h.nm.2.2.1.2.2.1
theorem Sy.n12 (h : Sy I) : dn (I 421) ≤ 12 := h.nm.2.2.1.2.1
theorem Sy.n6 (h : Sy I) : pn (I 421) ≤ 6 := h.nm.2.2.1.1
theorem Sy.s0 (h : Sy I) : SO (dn (I 421)) (pn (I 421)) (up2 I 420 0 0 421) := by
  rw [up2_row (by decide)]
  exact h.ri.so
/-- a question's answer: the class, what it throws; the reference -/
def Qc (I : Nat → Nat → Int32) (c val : Int32) (L : Nat → Nat → Int64) (w1 w2 t : Nat) : Option Value → aH → Prop := fun v h' => c = 0 ∧ v = some (.int val) ∧ ∃ J, h' = hp J L w1 w2 t ∧ Fm sQ I J
def Xc (I : Nat → Nat → Int32) (c : Int32) (ks : List (Int32 × Nat)) (L : Nat → Nat → Int64) (w1 w2 : Nat) : String → aH → Prop := fun E h' => (∃ x ∈ ks, c = x.1 ∧ E = exN x.2) ∧ ∃ J, h' = hp J L w1 w2 0 ∧ Fm sQ I J
def Qr (I : Nat → Nat → Int32) (c val : Int32) (L : Nat → Nat → Int64) (w1 w2 t : Nat) : Option Value → aH → Prop := fun v h' => ∃ y K, v = some (.int y) ∧ h' = hp K L w1 w2 t ∧ Fm sV I K ∧ K 420 0 = c ∧ (c = 0 → y = val)
def AcQ (c y : Int32) (l : Int64) (val : Int32) : Prop := (c = 0 ∧ y = 0 ∧ l = val.toInt64) ∨ (¬ c = 0 ∧ y = c)
theorem AcQ.st (h : AcQ c y l val) : y = c := by
  rcases h with ⟨c0, y0, _⟩ | ⟨_, y0⟩
  · rw [c0, y0]
  · exact y0
theorem Qc.yes (hc : c = 0) (hv : ov = val) : Qc I c val L w1 w2 t (some (.int ov)) (hp I L w1 w2 t) := ⟨hc, by rw [hv], I, rfl, Fm.rf⟩
theorem Qc.yesJ (hc : c = 0) (hv : ov = val) (f : Fm sQ I J) : Qc I c val L w1 w2 t (some (.int ov)) (hp J L w1 w2 t) := ⟨hc, by rw [hv], J, rfl, f⟩
theorem Xc.mk {ks : List (Int32 × Nat)} {E : String} (x : Int32 × Nat) (hx : x ∈ ks) (hc : c = x.1) (hE : E = exN x.2) : Xc I c ks L w1 w2 E (hp I L w1 w2 0) := ⟨⟨x, hx, hc, hE⟩, I, rfl, Fm.rf⟩
theorem Qr.no (hc : c = k) (hk : ¬ k = 0) : Qr I c val L w1 w2 t (some (.int 0)) (hp (up2 (up2 I 420 0 0) 420 0 k) L w1 w2 t) := ⟨0, _, rfl, rfl, Fm.up (Fm.up Fm.rf rfl) rfl, up2_at.trans hc.symm, fun z => absurd (hc.symm.trans z) hk⟩
theorem Qr.yes (hc : c = 0) (hv : ov = val) : Qr I c val L w1 w2 t (some (.int ov)) (hp (up2 I 420 0 0) L w1 w2 t) := ⟨ov, _, rfl, rfl, Fm.up Fm.rf rfl, up2_at.trans hc.symm, fun _ => hv⟩
/-! can -/
theorem fq_can (h : Sy I) : SpE S m_X11_can 18 [.ref 200] (hp I L w1 w2 t) (some (.int (bs (dn (I 421)) (canR (dn (I 421)) (I 421))))) (hp I L w1 w2 t) := by
  refine SpE_of ok_X11_can rfl rfl ?_
  show AW S m_X11_can 18 _ _ 0 0 0 [some (.ref 200)] [] (hp I L w1 w2 t)
  refine a_l0 rfl rfl rfl ?_
  refine a_getq rfl gfX11_37_11 rfl (rfl) ?_
  refine a_eV1 rfl lX11_220 mo_X5_canBits (sp_X5_canBits (nd := dn (I 421)) (a := 235) (by decide) h.d3 h.n12) rfl rfl rfl ⟨5, _, rfl, rfl, rfl⟩ rfl ?_
  rw [can_same h.nm.1 h.nm.2.2]
  exact a_iret rfl rfl ⟨rfl, rfl⟩
theorem hq_can (h : Sy I) : SpE S m_X12_can 19 [.ref 420] (hp I L w1 w2 t) (some (.int (bs (dn (I 421)) (canR (dn (I 421)) (I 421))))) (hp (up2 I 420 0 0) L w1 w2 t) := by
  refine SpE_of ok_X12_can rfl rfl ?_
  show AW S m_X12_can 19 _ _ 0 0 0 [some (.ref 420)] [] (hp I L w1 w2 t)
  refine a_l0 rfl rfl rfl ?_
  refine a_s rfl rfl ?_
  refine a_puti rfl pfX12_3_12 rfl ?_
  refine a_l0 rfl rfl rfl ?_
  refine a_eV1 rfl lX12_286 mo_X12_canOnes (sp_X12_canOnes h.n12 h.s0.du h.s0.l) rfl rfl rfl ⟨12, _, rfl, rfl, rfl⟩ rfl ?_
  rw [up2_row (p := 420) (q := 421) (by decide)]
  exact a_iret rfl rfl ⟨rfl, rfl⟩
/-! older -/
def vOl (x : Int32) : Int32 := if inB x 0 99 = true then 0 else 1
theorem fq_older (h : Sy I) : Sp S m_X11_older 17 1 6 [.ref 200, .int x1] (hp I L w1 w2 t) (Qc I (vOl x1) (bcF (oldF (dn (I 421)) (vd (I 421) 5) (vd (I 421) 2) x1)) L w1 w2 t) (Xc I (vOl x1) [(1, 1)] L w1 w2) := by
  refine Sp_of ok_X11_older rfl rfl ?_
  show AW S m_X11_older 17 _ _ 1 6 0 [some (.ref 200), some (.int x1)] [] (hp I L w1 w2 t)
  refine a_l1 rfl rfl rfl ?_
  refine a_s rfl rfl ?_
  refine a_s rfl rfl ?_
  refine a_callS rfl lX11_250 mo_X11_needNumber (f_needNumber) rfl rfl rfl rfl (fun v' h' hv => ?_) (fun E h' ex => ?_)
  rotate_left
  · obtain ⟨rfl, hz, rfl⟩ := ex
    exact Xc.mk (1, 1) List.mem_cons_self (if_neg (by rw [hz]; exact Bool.false_ne_true)) rfl
  obtain ⟨rfl, hz, rfl⟩ := hv
  refine a_l0 rfl rfl rfl ?_
  refine a_getq rfl gfX11_37_11 rfl (rfl) ?_
  refine a_l1 rfl rfl rfl ?_
  refine a_eV1 rfl lX11_307 mo_X5_olderThan (sp_X5_olderThan (nd := dn (I 421)) (a := 235) (by decide) h.d3 h.n12) rfl rfl rfl ⟨5, _, rfl, rfl, rfl⟩ rfl ?_
  rw [old_same h.nm.1 h.nm.2.2]
  refine a_eS1 rfl lX11_261 mo_J6_bitCount_0f7a4 (sp_bitCount) rfl rfl rfl rfl ?_
  exact a_iret rfl rfl (Qc.yes (if_pos hz) rfl)
theorem hq_older (h : Sy I) : Sp S m_X12_older 17 0 0 [.ref 420, .int x1] (hp I L w1 w2 t) (Qr I (vOl x1) (bcF (oldF (dn (I 421)) (vd (I 421) 5) (vd (I 421) 2) x1)) L w1 w2 t) nX := by
  refine Sp_of ok_X12_older rfl rfl ?_
  show AW S m_X12_older 17 _ _ 0 0 0 [some (.ref 420), some (.int x1)] [] (hp I L w1 w2 t)
  refine a_l0 rfl rfl rfl ?_
  refine a_s rfl rfl ?_
  refine a_puti rfl pfX12_3_12 rfl ?_
  refine a_l0 rfl rfl rfl ?_
  refine a_l1 rfl rfl rfl ?_
  refine a_s rfl rfl ?_
  refine a_s rfl rfl ?_
  refine a_eS1 rfl lX12_70 mo_X12_in sp_X12_in rfl rfl rfl rfl ?_
  obtain ⟨z, hz⟩ : ∃ z, inB x1 0 99 = z := ⟨_, rfl⟩
  rw [hz]
  cases z with
  | false =>
    refine a_if_ne rfl (fun c => absurd rfl c) (fun _ => ?_)
    refine a_s rfl rfl ?_
    refine a_goto rfl ?_
    refine a_s rfl rfl ?_
    refine a_eV1 rfl lX12_243 mo_X12_throwsIf (h_throwsIf (z := true)) rfl rfl rfl ⟨12, _, rfl, rfl, rfl⟩ rfl ?_
    rw [if_pos rfl]
    refine a_if_eq rfl (fun c => absurd c (by decide)) (fun _ => ?_)
    refine a_s rfl rfl ?_
    refine a_goto rfl ?_
    exact a_iret rfl rfl (Qr.no (if_neg (by rw [hz]; exact Bool.false_ne_true)) (by decide))
  | true =>
    refine a_if_ne rfl (fun _ => ?_) (fun c => absurd c (by decide))
    refine a_s rfl rfl ?_
    refine a_s rfl rfl ?_
    refine a_eV1 rfl lX12_243 mo_X12_throwsIf (h_throwsIf (z := false)) rfl rfl rfl ⟨12, _, rfl, rfl, rfl⟩ rfl ?_
    rw [if_neg Bool.false_ne_true]
    refine a_if_eq rfl (fun _ => ?_) (fun c => absurd rfl c)
    refine a_l0 rfl rfl rfl ?_
    refine a_l1 rfl rfl rfl ?_
    refine a_eV1 rfl lX12_429 mo_X12_olderOnes (sp_X12_olderOnes h.n12 h.s0.du) rfl rfl rfl ⟨12, _, rfl, rfl, rfl⟩ rfl ?_
    rw [up2_row (p := 420) (q := 421) (by decide)]
    refine a_eS1 rfl lX12_310 mo_J6_bitCount_0f7a4 (sp_bitCount) rfl rfl rfl rfl ?_
    exact a_iret rfl rfl (Qr.yes (if_pos hz) rfl)
/-! where -/
def vWh (nd : Nat) (x y : Int32) : Int32 := if inB x 0 (nI nd - 1) = true then (if inB y 0 300 = true then 0 else 2) else 1
theorem kerb_same {a : Nat} {x : Int32} (h : Sd I a W) (hG : Rg W) (hd : d < dn W) : kerbF (dn W) (I (a + 8)) (I (a + 5)) (I a 13) (nI d) x = whereR (dn W) W d x := by
  have h12 := hG.1.2.1
  have e13 : I a 13 = W 7 := Sd.fd h (by decide)
  obtain ⟨k7, k1, k9, e7⟩ := hG.2.1.2.2.2.2.1
  unfold kerbF whereR
  rw [place_same h hG hd, e13]
  by_cases cw : vd W 5 d = 0
  · have e : placeF (dn W) (vd W 5) (vd W 2) (nI d) = nI (cntF (dn W) (fun x => decide (vd W 5 x = 0 ∧ (vd W 2 x < vd W 2 d ∨ (vd W 2 x = vd W 2 d ∧ nI x < nI d))))) := pl_is h12 hd cw
    have hle := cntF_le (dn W) (fun x => decide (vd W 5 x = 0 ∧ (vd W 2 x < vd W 2 d ∨ (vd W 2 x = vd W 2 d ∧ nI x < nI d))))
    rw [if_neg (by rw [e]; exact nI_no (by omega)), if_pos (by rw [e7]; exact nI_leu k1 (by omega)), if_pos cw]
    generalize x / W 7 - placeF (dn W) (vd W 5) (vd W 2) (nI d) = v
    by_cases c0 : 0 ≤ v
    · rw [if_pos c0, if_pos c0]
      by_cases c1 : 16 < v
      · rw [if_pos c1, if_neg (fun z => Int32.lt_irrefl (Int32.lt_trans c1 z))]
      · rw [if_neg c1]
        by_cases c2 : v < 16
        · rw [if_pos c2]
        · rw [if_neg c2]
          exact Int32.le_antisymm (Int32.not_lt.mp c1) (Int32.not_lt.mp c2)
    · rw [if_neg c0, if_neg c0]
  · have e : placeF (dn W) (vd W 5) (vd W 2) (nI d) = -1 := pl_no h12 hd cw
    rw [if_pos e, if_neg cw]
theorem fq_where (h : Sy I) : Sp S m_X11_where 18 2 12 [.ref 200, .int x1, .int x2] (hp I L w1 w2 t) (Qc I (vWh (dn (I 421)) x1 x2) (whereR (dn (I 421)) (I 421) (ixN x1) x2) L w1 w2 t) (Xc I (vWh (dn (I 421)) x1 x2) [(1, 0), (2, 1)] L w1 w2) := by
  have hd12 := h.n12
  refine Sp_of ok_X11_where rfl rfl ?_
  show AW S m_X11_where 18 _ _ 2 12 0 [some (.ref 200), some (.int x1), some (.int x2)] [] (hp I L w1 w2 t)
  refine a_l0 rfl rfl rfl ?_
  refine a_l1 rfl rfl rfl ?_
  refine a_callV rfl lX11_141 mo_X11_needDuty (f_needDuty h.d3 (by omega)) rfl rfl rfl ⟨11, _, rfl, rfl, rfl⟩ rfl (fun v' h' hv => ?_) (fun E h' ex => ?_)
  rotate_left
  · obtain ⟨rfl, hz, rfl⟩ := ex
    exact Xc.mk (1, 0) List.mem_cons_self (if_neg (by rw [hz]; exact Bool.false_ne_true)) rfl
  obtain ⟨rfl, hz, rfl⟩ := hv
  refine a_l2 rfl rfl rfl ?_
  refine a_s rfl rfl ?_
  refine a_s rfl rfl ?_
  refine a_callS rfl lX11_250 mo_X11_needNumber (f_needNumber) rfl rfl rfl rfl (fun v' h' hv => ?_) (fun E h' ex => ?_)
  rotate_left
  · obtain ⟨rfl, hz2, rfl⟩ := ex
    exact Xc.mk (2, 1) (List.mem_cons_of_mem _ List.mem_cons_self) ((if_pos hz).trans (if_neg (by rw [hz2]; exact Bool.false_ne_true))) rfl
  obtain ⟨rfl, hz2, rfl⟩ := hv
  obtain ⟨i, hi, rfl⟩ := inB_ix (by omega) hz
  have hx := ixN_nI (i := i) (by omega)
  refine a_l0 rfl rfl rfl ?_
  refine a_getq rfl gfX11_37_11 rfl (rfl) ?_
  refine a_l1 rfl rfl rfl ?_
  refine a_l2 rfl rfl rfl ?_
  refine a_eV1 rfl lX11_272 mo_X5_kerbAt (sp_X5_kerbAt (nd := dn (I 421)) (a := 235) (by decide) h.d3 h.n12) rfl rfl rfl ⟨5, _, rfl, rfl, rfl⟩ rfl ?_
  rw [kerb_same h.nm.1 h.nm.2.2 hi]
  exact a_iret rfl rfl (Qc.yes ((if_pos hz).trans (if_pos hz2)) (by rw [hx]))
theorem hq_where (h : Sy I) : Sp S m_X12_where 18 0 0 [.ref 420, .int x1, .int x2] (hp I L w1 w2 t) (Qr I (vWh (dn (I 421)) x1 x2) (whereR (dn (I 421)) (I 421) (ixN x1) x2) L w1 w2 t) nX := by
  have hd12 := h.n12
  refine Sp_of ok_X12_where rfl rfl ?_
  show AW S m_X12_where 18 _ _ 0 0 0 [some (.ref 420), some (.int x1), some (.int x2)] [] (hp I L w1 w2 t)
  refine a_l0 rfl rfl rfl ?_
  refine a_s rfl rfl ?_
  refine a_puti rfl pfX12_3_12 rfl ?_
  refine a_l0 rfl rfl rfl ?_
  refine a_l0 rfl rfl rfl ?_
  refine a_l1 rfl rfl rfl ?_
  refine a_eV1 rfl lX12_289 mo_X12_noDuty (r_X12_noDuty h.s0) rfl rfl rfl ⟨12, _, rfl, rfl, rfl⟩ rfl ?_
  obtain ⟨z, hz⟩ : ∃ z, inB x1 0 (nI (dn (I 421)) - 1) = z := ⟨_, rfl⟩
  rw [hz]
  refine a_s rfl rfl ?_
  cases z with
  | false =>
    refine a_eV1 rfl lX12_243 mo_X12_throwsIf (h_throwsIf (z := true)) rfl rfl rfl ⟨12, _, rfl, rfl, rfl⟩ rfl ?_
    rw [if_pos rfl]
    refine a_if_ne rfl (fun _ => ?_) (fun c => absurd c (by decide))
    refine a_s rfl rfl ?_
    refine a_goto rfl ?_
    exact a_iret rfl rfl (Qr.no (if_neg (by rw [hz]; exact Bool.false_ne_true)) (by decide))
  | true =>
  refine a_eV1 rfl lX12_243 mo_X12_throwsIf (h_throwsIf (z := false)) rfl rfl rfl ⟨12, _, rfl, rfl, rfl⟩ rfl ?_
  rw [if_neg Bool.false_ne_true]
  refine a_if_ne rfl (fun c => absurd rfl c) (fun _ => ?_)
  refine a_l0 rfl rfl rfl ?_
  refine a_l2 rfl rfl rfl ?_
  refine a_eS1 rfl lX12_298 mo_X12_noHour sp_X12_noHour rfl rfl rfl rfl ?_
  obtain ⟨z2, hz2⟩ : ∃ z, inB x2 0 300 = z := ⟨_, rfl⟩
  rw [hz2]
  refine a_s rfl rfl ?_
  cases z2 with
  | false =>
    refine a_eV1 rfl lX12_243 mo_X12_throwsIf (h_throwsIf (z := true)) rfl rfl rfl ⟨12, _, rfl, rfl, rfl⟩ rfl ?_
    rw [if_pos rfl]
    refine a_if_eq rfl (fun c => absurd c (by decide)) (fun _ => ?_)
    refine a_s rfl rfl ?_
    refine a_goto rfl ?_
    exact a_iret rfl rfl (Qr.no ((if_pos hz).trans (if_neg (by rw [hz2]; exact Bool.false_ne_true))) (by decide))
  | true =>
  refine a_eV1 rfl lX12_243 mo_X12_throwsIf (h_throwsIf (z := false)) rfl rfl rfl ⟨12, _, rfl, rfl, rfl⟩ rfl ?_
  rw [if_neg Bool.false_ne_true]
  refine a_if_eq rfl (fun _ => ?_) (fun c => absurd rfl c)
  obtain ⟨i, hi, rfl⟩ := inB_ix (by omega) hz
  have hx := ixN_nI (i := i) (by omega)
  refine a_l0 rfl rfl rfl ?_
  refine a_l1 rfl rfl rfl ?_
  refine a_l2 rfl rfl rfl ?_
  refine a_eV1 rfl lX12_301 mo_X12_whereAt (sp_X12_whereAt h.n12 h.s0.du hi h.s0.h7) rfl rfl rfl ⟨12, _, rfl, rfl, rfl⟩ rfl ?_
  rw [up2_row (p := 420) (q := 421) (by decide)]
  exact a_iret rfl rfl (Qr.yes ((if_pos hz).trans (if_pos hz2)) (by rw [hx]))
/-! greets -/
def vGr (nd : Nat) (x y : Int32) : Int32 := if inB x 0 (nI nd - 1) = true ∧ inB y 0 15 = true then 0 else 1
def grW (W : Nat → Int32) (d : Nat) (x : Int32) : Int32 := if vd W 5 d = 0 then W 7 * (pl W d + x) else -1
theorem f_needKerb {x : Int32} : Sp S m_X11_needKerb 13 1 6 [.int x] (hp I L w1 w2 t) (fun v h' => v = none ∧ inB x 0 15 = true ∧ h' = hp I L w1 w2 t) (fun E h' => E = exN 0 ∧ inB x 0 15 = false ∧ h' = hp I L w1 w2 0) := by
  refine Sp_of ok_X11_needKerb rfl rfl ?_
  show AW S m_X11_needKerb 13 _ _ 1 6 0 [some (.int x)] [] (hp I L w1 w2 t)
  refine a_l0 rfl rfl rfl ?_
  refine a_if_lt rfl (fun c => ?_) (fun c => ?_)
  · exact a_throw rfl rfl rfl rfl tX11_ioobe rfl rfl rfl rfl rfl ⟨rfl, decide_eq_false fun q => absurd c (Int32.not_lt.mpr q.1), rfl⟩
  · refine a_l0 rfl rfl rfl ?_
    refine a_s rfl rfl ?_
    refine a_ic_le rfl (fun c2 => ?_) (fun c2 => ?_)
    · exact a_vret rfl rfl ⟨rfl, decide_eq_true ⟨Int32.not_lt.mp c, c2⟩, rfl⟩
    · exact a_throw rfl rfl rfl rfl tX11_ioobe rfl rfl rfl rfl rfl ⟨rfl, decide_eq_false fun q => c2 q.2, rfl⟩
theorem fq_greets (h : Sy I) : Sp S m_X11_greets 17 2 12 [.ref 200, .int x1, .int x2] (hp I L w1 w2 t) (Qc I (vGr (dn (I 421)) x1 x2) (grW (I 421) (ixN x1) x2) L w1 w2 t) (Xc I (vGr (dn (I 421)) x1 x2) [(1, 0)] L w1 w2) := by
  have hd12 := h.n12
  refine Sp_of ok_X11_greets rfl rfl ?_
  show AW S m_X11_greets 17 _ _ 2 12 0 [some (.ref 200), some (.int x1), some (.int x2), none] [] (hp I L w1 w2 t)
  refine a_l0 rfl rfl rfl ?_
  refine a_l1 rfl rfl rfl ?_
  refine a_callV rfl lX11_141 mo_X11_needDuty (f_needDuty h.d3 (by omega)) rfl rfl rfl ⟨11, _, rfl, rfl, rfl⟩ rfl (fun v' h' hv => ?_) (fun E h' ex => ?_)
  rotate_left
  · obtain ⟨rfl, hz, rfl⟩ := ex
    exact Xc.mk (1, 0) List.mem_cons_self (if_neg (fun q => by rw [hz] at q; exact Bool.false_ne_true q.1)) rfl
  obtain ⟨rfl, hz, rfl⟩ := hv
  refine a_l2 rfl rfl rfl ?_
  refine a_callS rfl lX11_269 mo_X11_needKerb (f_needKerb) rfl rfl rfl rfl (fun v' h' hv => ?_) (fun E h' ex => ?_)
  rotate_left
  · obtain ⟨rfl, hz2, rfl⟩ := ex
    exact Xc.mk (1, 0) List.mem_cons_self (if_neg (fun q => by rw [hz2] at q; exact Bool.false_ne_true q.2)) rfl
  obtain ⟨rfl, hz2, rfl⟩ := hv
  obtain ⟨i, hi, rfl⟩ := inB_ix (by omega) hz
  have hx := ixN_nI (i := i) (by omega)
  refine a_l0 rfl rfl rfl ?_
  refine a_getq rfl gfX11_37_11 rfl (rfl) ?_
  refine a_l1 rfl rfl rfl ?_
  refine a_eV1 rfl lX11_173 mo_X5_placeOf (sp_X5_placeOf (nd := dn (I 421)) (a := 235) (by decide) h.d3 h.n12) rfl rfl rfl ⟨5, _, rfl, rfl, rfl⟩ rfl ?_
  rw [place_same h.nm.1 h.nm.2.2 hi]
  refine a_s3 rfl rfl rfl rfl rfl rfl ?_
  refine a_l3 rfl rfl rfl ?_
  refine a_s rfl rfl ?_
  by_cases cw : vd (I 421) 5 i = 0
  · have e : placeF (dn (I 421)) (vd (I 421) 5) (vd (I 421) 2) (nI i) = nI (cntF (dn (I 421)) (fun x => decide (vd (I 421) 5 x = 0 ∧ (vd (I 421) 2 x < vd (I 421) 2 i ∨ (vd (I 421) 2 x = vd (I 421) 2 i ∧ nI x < nI i))))) := pl_is h.n12 hi cw
    have hle := cntF_le (dn (I 421)) (fun x => decide (vd (I 421) 5 x = 0 ∧ (vd (I 421) 2 x < vd (I 421) 2 i ∨ (vd (I 421) 2 x = vd (I 421) 2 i ∧ nI x < nI i))))
    refine a_ic_ne rfl (fun _ => ?_) (fun z => absurd (e.symm.trans z) (nI_no (by omega)))
    refine a_l0 rfl rfl rfl ?_
    refine a_getq rfl gfX11_37_11 rfl (rfl) ?_
    refine a_getiv (v := I 421 7) rfl gfX11_194_5 rfl (Sd.fd h.nm.1 (by decide)) ?_
    refine a_l3 rfl rfl rfl ?_
    refine a_l2 rfl rfl rfl ?_
    refine a_s rfl rfl ?_
    refine a_s rfl rfl ?_
    exact a_iret rfl rfl (Qc.yes (if_pos ⟨hz, hz2⟩) (by rw [hx]; exact (if_pos cw).symm))
  · have e : placeF (dn (I 421)) (vd (I 421) 5) (vd (I 421) 2) (nI i) = -1 := pl_no h.n12 hi cw
    refine a_ic_ne rfl (fun z => absurd e z) (fun _ => ?_)
    refine a_s rfl rfl ?_
    refine a_goto rfl ?_
    exact a_iret rfl rfl (Qc.yes (if_pos ⟨hz, hz2⟩) (by rw [hx]; exact (if_neg cw).symm))
theorem hq_greets (h : Sy I) : Sp S m_X12_greets 18 0 0 [.ref 420, .int x1, .int x2] (hp I L w1 w2 t) (Qr I (vGr (dn (I 421)) x1 x2) (grW (I 421) (ixN x1) x2) L w1 w2 t) nX := by
  have hd12 := h.n12
  refine Sp_of ok_X12_greets rfl rfl ?_
  show AW S m_X12_greets 18 _ _ 0 0 0 [some (.ref 420), some (.int x1), some (.int x2)] [] (hp I L w1 w2 t)
  refine a_l0 rfl rfl rfl ?_
  refine a_s rfl rfl ?_
  refine a_puti rfl pfX12_3_12 rfl ?_
  refine a_l0 rfl rfl rfl ?_
  refine a_l0 rfl rfl rfl ?_
  refine a_l1 rfl rfl rfl ?_
  refine a_eV1 rfl lX12_289 mo_X12_noDuty (r_X12_noDuty h.s0) rfl rfl rfl ⟨12, _, rfl, rfl, rfl⟩ rfl ?_
  obtain ⟨z, hz⟩ : ∃ z, inB x1 0 (nI (dn (I 421)) - 1) = z := ⟨_, rfl⟩
  rw [hz]
  cases z with
  | false =>
    refine a_if_ne rfl (fun _ => ?_) (fun c => absurd c (by decide))
    refine a_s rfl rfl ?_
    refine a_goto rfl ?_
    refine a_s rfl rfl ?_
    refine a_eV1 rfl lX12_243 mo_X12_throwsIf (h_throwsIf (z := true)) rfl rfl rfl ⟨12, _, rfl, rfl, rfl⟩ rfl ?_
    rw [if_pos rfl]
    refine a_if_eq rfl (fun c => absurd c (by decide)) (fun _ => ?_)
    refine a_s rfl rfl ?_
    exact a_iret rfl rfl (Qr.no (if_neg (fun q => by rw [hz] at q; exact Bool.false_ne_true q.1)) (by decide))
  | true =>
  refine a_if_ne rfl (fun c => absurd rfl c) (fun _ => ?_)
  refine a_l2 rfl rfl rfl ?_
  refine a_eS1 rfl lX12_292 mo_X12_noKerb sp_X12_noKerb rfl rfl rfl rfl ?_
  obtain ⟨z2, hz2⟩ : ∃ z, inB x2 0 15 = z := ⟨_, rfl⟩
  rw [hz2]
  cases z2 with
  | false =>
    refine a_if_eq rfl (fun c => absurd c (by decide)) (fun _ => ?_)
    refine a_s rfl rfl ?_
    refine a_goto rfl ?_
    refine a_s rfl rfl ?_
    refine a_eV1 rfl lX12_243 mo_X12_throwsIf (h_throwsIf (z := true)) rfl rfl rfl ⟨12, _, rfl, rfl, rfl⟩ rfl ?_
    rw [if_pos rfl]
    refine a_if_eq rfl (fun c => absurd c (by decide)) (fun _ => ?_)
    refine a_s rfl rfl ?_
    exact a_iret rfl rfl (Qr.no (if_neg (fun q => by rw [hz2] at q; exact Bool.false_ne_true q.2)) (by decide))
  | true =>
  refine a_if_eq rfl (fun _ => ?_) (fun c => absurd rfl c)
  refine a_s rfl rfl ?_
  refine a_s rfl rfl ?_
  refine a_eV1 rfl lX12_243 mo_X12_throwsIf (h_throwsIf (z := false)) rfl rfl rfl ⟨12, _, rfl, rfl, rfl⟩ rfl ?_
  rw [if_neg Bool.false_ne_true]
  refine a_if_eq rfl (fun _ => ?_) (fun c => absurd rfl c)
  obtain ⟨i, hi, rfl⟩ := inB_ix (by omega) hz
  have hx := ixN_nI (i := i) (by omega)
  refine a_l0 rfl rfl rfl ?_
  refine a_l1 rfl rfl rfl ?_
  refine a_eV1 rfl lX12_135 mo_X12_isWaiting (sp_X12_isWaiting (d := i) (by omega)) rfl rfl rfl ⟨12, _, rfl, rfl, rfl⟩ rfl ?_
  rw [up2_row (p := 420) (q := 421) (by decide)]
  by_cases cw : vd (I 421) 5 i = 0
  · rw [decide_eq_true cw]
    refine a_if_eq rfl (fun c => absurd c (by decide)) (fun _ => ?_)
    refine a_l0 rfl rfl rfl ?_
    refine a_getq rfl gfX12_13_12 rfl (rfl) ?_
    refine a_s rfl rfl ?_
    refine a_ialdv (v := I 421 7) rfl (n := 2033) rfl ⟨by decide, by decide⟩ (congrFun (up2_row (by decide)) 7) ?_
    refine a_l0 rfl rfl rfl ?_
    refine a_l1 rfl rfl rfl ?_
    refine a_eV1 rfl lX12_283 mo_X12_placeOf (sp_X12_placeOf h.n12 h.s0.du hi) rfl rfl rfl ⟨12, _, rfl, rfl, rfl⟩ rfl ?_
    rw [up2_row (p := 420) (q := 421) (by decide)]
    refine a_l2 rfl rfl rfl ?_
    refine a_s rfl rfl ?_
    refine a_s rfl rfl ?_
    refine a_goto rfl ?_
    exact a_iret rfl rfl (Qr.yes (if_pos ⟨hz, hz2⟩) (by rw [hx]; exact (if_pos cw).symm))
  · rw [decide_eq_false cw]
    refine a_if_eq rfl (fun _ => ?_) (fun c => absurd rfl c)
    refine a_s rfl rfl ?_
    exact a_iret rfl rfl (Qr.yes (if_pos ⟨hz, hz2⟩) (by rw [hx]; exact (if_neg cw).symm))
end T79zv
