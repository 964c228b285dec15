/-! ===== a duty, counts, the parade: exactly, on both sides ===== -/
section T79zx
variable {S : aS} {I J : Nat → Nat → Int32} {L : Nat → Nat → Int64} {w1 w2 t d p nl len : Nat} {cd fa fn : Nat → Nat} {W : Nat → Int32} {x x1 x2 s : Int32}
set_option maxRecDepth 100000
/-! duty -/
def dutW (W : Nat → Int32) (cd fa fn : Nat → Nat) (nl d : Nat) : Nat → Int32
  | 6 => bI (readyR W d)
  | 7 => sumR W cd fa fn nl d 0
  | 8 => shameR W cd fa fn nl d
  | 9 => pl W d
  | 10 => passR (dn W) W d
  | k => vd W k d
def vDu (nd : Nat) (x y : Int32) : Int32 := if inB x 0 (nI nd - 1) = true then (if inB y 0 10 = true then 0 else 2) else 1
theorem fq_duty (h : Sy I) (lw : LwS I 246 (I 421) nl len cd fa fn) (ln : LwN (I 421) nl) : Sp S m_X11_duty 19 2 12 [.ref 200, .int x1, .int x2] (hp I L w1 w2 t) (Qc I (vDu (dn (I 421)) x1 x2) (dutW (I 421) cd fa fn nl (ixN x1) (ixN x2)) L w1 w2 t) (Xc I (vDu (dn (I 421)) x1 x2) [(1, 0), (2, 4)] L w1 w2) := by
  have h12 := h.n12
  refine Sp_of ok_X11_duty rfl rfl ?_
  show AW S m_X11_duty 19 _ _ 2 12 0 [some (.ref 200), some (.int x1), some (.int x2)] [] (hp I L w1 w2 t)
  refine a_l0 rfl rfl rfl ?_
  refine a_l1 rfl rfl rfl ?_
  refine a_callV rfl lX11_141 mo_X11_needDuty (f_needDuty h.d3 (by omega)) rfl rfl rfl ⟨11, _, rfl, rfl, rfl⟩ rfl (fun v' h' hv => ?_) (fun E h' ex => ?_)
  rotate_left
  · obtain ⟨rfl, hz, rfl⟩ := ex
    exact Xc.mk (1, 0) List.mem_cons_self (if_neg (by rw [hz]; exact Bool.false_ne_true)) rfl
  obtain ⟨rfl, hz, rfl⟩ := hv
  obtain ⟨d, hd, rfl⟩ := inB_ix (by omega) hz
  have hx := ixN_nI (i := d) (by omega)
  rw [hx]
  refine a_l2 rfl rfl rfl ?_
  refine a_tswA rfl (by decide) (by decide) (fun hz2 => ?_) (fun i o ho hz2 => ?_)
  · refine a_pc (pc' := 197) (by decide) ?_
    refine a_throw rfl rfl rfl rfl tX11_nsee rfl rfl rfl rfl rfl (Xc.mk (2, 4) (List.mem_cons_of_mem _ List.mem_cons_self) ((if_pos hz).trans (if_neg fun q => ?_)) rfl)
    have := (inB_toInt (m := 10) (by decide)).mp q
    omega
  · have hi6 : i < 11 := by
      have := (Array.getElem?_eq_some_iff.mp ho).1
      exact this
    obtain rfl := nI_of0 (by omega) hz2
    have hx2 := ixN_nI (i := i) (by omega)
    have c0 : vDu (dn (I 421)) (nI d) (nI i) = 0 := (if_pos hz).trans (if_pos ((inB_toInt (m := 10) (by decide)).mpr (by rw [nI_toInt (by omega)]; omega)))
    rw [hx2]
    have ro : ∀ k, k < 6 → I (235 + 3 + k) d = vd (I 421) k d := fun k hk => h.nm.1.2.2 d (by omega) k hk
    rcases i with _ | _ | _ | _ | _ | _ | _ | _ | _ | _ | _ | i
    · cases ho
      refine a_pc (pc' := 64) (by decide) ?_
      refine a_l0 rfl rfl rfl ?_
      refine a_getq rfl gfX11_37_11 rfl (rfl) ?_
      refine a_getq rfl gfX11_144_5 rfl (rfl) ?_
      refine a_l1 rfl rfl rfl ?_
      refine a_eS1 rfl lX11_117 mo_X11_at (sp_X11_at rfl) rfl rfl rfl rfl ?_
      rw [atF_nI (show d < 12 by omega) (by decide)]
      exact a_iret rfl rfl (Qc.yes c0 (ro 0 (by decide)))
    · cases ho
      refine a_pc (pc' := 76) (by decide) ?_
      refine a_l0 rfl rfl rfl ?_
      refine a_getq rfl gfX11_37_11 rfl (rfl) ?_
      refine a_getq rfl gfX11_147_5 rfl (rfl) ?_
      refine a_l1 rfl rfl rfl ?_
      refine a_eS1 rfl lX11_117 mo_X11_at (sp_X11_at rfl) rfl rfl rfl rfl ?_
      rw [atF_nI (show d < 12 by omega) (by decide)]
      exact a_iret rfl rfl (Qc.yes c0 (ro 1 (by decide)))
    · cases ho
      refine a_pc (pc' := 88) (by decide) ?_
      refine a_l0 rfl rfl rfl ?_
      refine a_getq rfl gfX11_37_11 rfl (rfl) ?_
      refine a_getq rfl gfX11_150_5 rfl (rfl) ?_
      refine a_l1 rfl rfl rfl ?_
      refine a_eS1 rfl lX11_117 mo_X11_at (sp_X11_at rfl) rfl rfl rfl rfl ?_
      rw [atF_nI (show d < 12 by omega) (by decide)]
      exact a_iret rfl rfl (Qc.yes c0 (ro 2 (by decide)))
    · cases ho
      refine a_pc (pc' := 100) (by decide) ?_
      refine a_l0 rfl rfl rfl ?_
      refine a_getq rfl gfX11_37_11 rfl (rfl) ?_
      refine a_getq rfl gfX11_153_5 rfl (rfl) ?_
      refine a_l1 rfl rfl rfl ?_
      refine a_eS1 rfl lX11_117 mo_X11_at (sp_X11_at rfl) rfl rfl rfl rfl ?_
      rw [atF_nI (show d < 12 by omega) (by decide)]
      exact a_iret rfl rfl (Qc.yes c0 (ro 3 (by decide)))
    · cases ho
      refine a_pc (pc' := 112) (by decide) ?_
      refine a_l0 rfl rfl rfl ?_
      refine a_getq rfl gfX11_37_11 rfl (rfl) ?_
      refine a_getq rfl gfX11_156_5 rfl (rfl) ?_
      refine a_l1 rfl rfl rfl ?_
      refine a_eS1 rfl lX11_117 mo_X11_at (sp_X11_at rfl) rfl rfl rfl rfl ?_
      rw [atF_nI (show d < 12 by omega) (by decide)]
      exact a_iret rfl rfl (Qc.yes c0 (ro 4 (by decide)))
    · cases ho
      refine a_pc (pc' := 124) (by decide) ?_
      refine a_l0 rfl rfl rfl ?_
      refine a_getq rfl gfX11_37_11 rfl (rfl) ?_
      refine a_getq rfl gfX11_159_5 rfl (rfl) ?_
      refine a_l1 rfl rfl rfl ?_
      refine a_eS1 rfl lX11_117 mo_X11_at (sp_X11_at rfl) rfl rfl rfl rfl ?_
      rw [atF_nI (show d < 12 by omega) (by decide)]
      exact a_iret rfl rfl (Qc.yes c0 (ro 5 (by decide)))
    · cases ho
      refine a_pc (pc' := 136) (by decide) ?_
      refine a_l0 rfl rfl rfl ?_
      refine a_getq rfl gfX11_37_11 rfl (rfl) ?_
      refine a_l1 rfl rfl rfl ?_
      refine a_eV1 rfl lX11_162 mo_X5_isReady (sp_X5_isReady (nd := dn (I 421)) (a := 235) (by decide) h.d3 h.n12) rfl rfl rfl ⟨5, _, rfl, rfl, rfl⟩ rfl ?_
      rw [rd_same h.nm.1 h.nm.2.2 hd]
      show AW _ _ _ (Qc I _ (bI (readyR (I 421) d)) L w1 w2 t) _ _ _ _ _ _ _
      cases readyR (I 421) d with
      | false =>
        refine a_if_eq rfl (fun _ => ?_) (fun z => absurd rfl z)
        refine a_s rfl rfl ?_
        exact a_iret rfl rfl (Qc.yes c0 rfl)
      | true =>
        refine a_if_eq rfl (fun z => absurd z (by decide)) (fun _ => ?_)
        refine a_s rfl rfl ?_
        refine a_goto rfl ?_
        exact a_iret rfl rfl (Qc.yes c0 rfl)
    · cases ho
      refine a_pc (pc' := 153) (by decide) ?_
      refine a_l0 rfl rfl rfl ?_
      refine a_getq rfl gfX11_44_11 rfl (rfl) ?_
      refine a_l0 rfl rfl rfl ?_
      refine a_getq rfl gfX11_37_11 rfl (rfl) ?_
      refine a_l1 rfl rfl rfl ?_
      refine a_gV rfl lX11_166 mo_X2_growthOf (fq_grow h lw hd) rfl rfl rfl ⟨2, _, rfl, rfl, rfl⟩ rfl (fun v' h' hv => ?_)
      obtain ⟨rfl, J, rfl, f⟩ := hv
      exact a_iret rfl rfl (Qc.yesJ c0 rfl f)
    · cases ho
      refine a_pc (pc' := 166) (by decide) ?_
      refine a_l0 rfl rfl rfl ?_
      refine a_getq rfl gfX11_44_11 rfl (rfl) ?_
      refine a_l0 rfl rfl rfl ?_
      refine a_getq rfl gfX11_37_11 rfl (rfl) ?_
      refine a_l1 rfl rfl rfl ?_
      refine a_gV rfl lX11_170 mo_X2_shameOf (fq_shame h lw hd) rfl rfl rfl ⟨2, _, rfl, rfl, rfl⟩ rfl (fun v' h' hv => ?_)
      obtain ⟨rfl, J, rfl, f⟩ := hv
      exact a_iret rfl rfl (Qc.yesJ c0 rfl f)
    · cases ho
      refine a_pc (pc' := 179) (by decide) ?_
      refine a_l0 rfl rfl rfl ?_
      refine a_getq rfl gfX11_37_11 rfl (rfl) ?_
      refine a_l1 rfl rfl rfl ?_
      refine a_eV1 rfl lX11_173 mo_X5_placeOf (sp_X5_placeOf (nd := dn (I 421)) (a := 235) (by decide) h.d3 h.n12) rfl rfl rfl ⟨5, _, rfl, rfl, rfl⟩ rfl ?_
      rw [place_same h.nm.1 h.nm.2.2 hd]
      exact a_iret rfl rfl (Qc.yes c0 rfl)
    · cases ho
      refine a_pc (pc' := 188) (by decide) ?_
      refine a_l0 rfl rfl rfl ?_
      refine a_getq rfl gfX11_37_11 rfl (rfl) ?_
      refine a_l1 rfl rfl rfl ?_
      refine a_eV1 rfl lX11_176 mo_X5_passesOf (sp_X5_passesOf (nd := dn (I 421)) (a := 235) (by decide) h.d3 h.n12) rfl rfl rfl ⟨5, _, rfl, rfl, rfl⟩ rfl ?_
      rw [pass_same h.nm.1 h.nm.2.2 hd]
      exact a_iret rfl rfl (Qc.yes c0 rfl)
    · exact absurd hi6 (by omega)
theorem hq_duty (h : Sy I) (lw : LwS I 246 (I 421) nl len cd fa fn) : Sp S m_X12_duty 24 0 0 [.ref 420, .int x1, .int x2] (hp I L w1 w2 t) (Qr I (vDu (dn (I 421)) x1 x2) (dutW (I 421) cd fa fn nl (ixN x1) (ixN x2)) L w1 w2 t) nX := by
  have h12 := h.n12
  have e21 : up2 I 420 0 0 421 = I 421 := up2_row (by decide)
  have hL : LawR (up2 I 420 0 0 421) nl len cd fa fn := by rw [e21]; exact lw.2.1
  refine Sp_of ok_X12_duty rfl rfl ?_
  show AW S m_X12_duty 24 _ _ 0 0 0 [some (.ref 420), some (.int x1), some (.int x2)] [] (hp I L w1 w2 t)
  refine a_l0 rfl rfl rfl ?_
  refine a_s rfl rfl ?_
  refine a_puti rfl pfX12_3_12 rfl ?_
  refine a_l0 rfl rfl rfl ?_
  refine a_l0 rfl rfl rfl ?_
  refine a_l1 rfl rfl rfl ?_
  refine a_eV1 rfl lX12_289 mo_X12_noDuty (r_X12_noDuty h.s0) rfl rfl rfl ⟨12, _, rfl, rfl, rfl⟩ rfl ?_
  obtain ⟨z, hz⟩ : ∃ z, inB x1 0 (nI (dn (I 421)) - 1) = z := ⟨_, rfl⟩
  rw [hz]
  refine a_s rfl rfl ?_
  cases z with
  | false =>
    refine a_eV1 rfl lX12_243 mo_X12_throwsIf (h_throwsIf (z := true)) rfl rfl rfl ⟨12, _, rfl, rfl, rfl⟩ rfl ?_
    rw [if_pos rfl]
    refine a_if_ne rfl (fun _ => ?_) (fun c => absurd c (by decide))
    refine a_s rfl rfl ?_
    exact a_iret rfl rfl (Qr.no (if_neg (by rw [hz]; exact Bool.false_ne_true)) (by decide))
  | true =>
  refine a_eV1 rfl lX12_243 mo_X12_throwsIf (h_throwsIf (z := false)) rfl rfl rfl ⟨12, _, rfl, rfl, rfl⟩ rfl ?_
  rw [if_neg Bool.false_ne_true]
  refine a_if_ne rfl (fun c => absurd rfl c) (fun _ => ?_)
  refine a_l0 rfl rfl rfl ?_
  refine a_l2 rfl rfl rfl ?_
  refine a_s rfl rfl ?_
  refine a_s rfl rfl ?_
  refine a_eS1 rfl lX12_70 mo_X12_in sp_X12_in rfl rfl rfl rfl ?_
  obtain ⟨z2, hz2⟩ : ∃ z, inB x2 0 10 = z := ⟨_, rfl⟩
  rw [hz2]
  cases z2 with
  | false =>
    refine a_if_ne rfl (fun c => absurd rfl c) (fun _ => ?_)
    refine a_s rfl rfl ?_
    refine a_goto rfl ?_
    refine a_s rfl rfl ?_
    refine a_eV1 rfl lX12_243 mo_X12_throwsIf (h_throwsIf (z := true)) rfl rfl rfl ⟨12, _, rfl, rfl, rfl⟩ rfl ?_
    rw [if_pos rfl]
    refine a_if_eq rfl (fun c => absurd c (by decide)) (fun _ => ?_)
    refine a_s rfl rfl ?_
    exact a_iret rfl rfl (Qr.no ((if_pos hz).trans (if_neg (by rw [hz2]; exact Bool.false_ne_true))) (by decide))
  | true =>
  refine a_if_ne rfl (fun _ => ?_) (fun c => absurd c (by decide))
  refine a_s rfl rfl ?_
  refine a_s rfl rfl ?_
  refine a_eV1 rfl lX12_243 mo_X12_throwsIf (h_throwsIf (z := false)) rfl rfl rfl ⟨12, _, rfl, rfl, rfl⟩ rfl ?_
  rw [if_neg Bool.false_ne_true]
  refine a_if_eq rfl (fun _ => ?_) (fun c => absurd rfl c)
  have c0 : vDu (dn (I 421)) x1 x2 = 0 := (if_pos hz).trans (if_pos hz2)
  obtain ⟨d, hd, rfl⟩ := inB_ix (by omega) hz
  have hx := ixN_nI (i := d) (by omega)
  obtain ⟨i, -, hi5, rfl⟩ := inB_nI (a := 0) (b := 10) (by decide) hz2
  have hx2 := ixN_nI (i := i) (by omega)
  rw [hx, hx2]
  refine a_l2 rfl rfl rfl ?_
  refine a_tswA rfl (by decide) (by decide) (fun hz3 => ?_) (fun j o ho hz3 => ?_)
  · refine a_pc (pc' := 118) (by decide) ?_
    rw [nI_toInt (by omega)] at hz3
    refine a_l0 rfl rfl rfl ?_
    refine a_l1 rfl rfl rfl ?_
    refine a_l2 rfl rfl rfl ?_
    refine a_eV1 rfl lX12_63 mo_X12_of (sp_X12_of (d := d) (k := i) (by omega) (by omega)) rfl rfl rfl ⟨12, _, rfl, rfl, rfl⟩ rfl ?_
    rw [e21]
    refine a_iret rfl rfl (Qr.yes c0 ?_)
    rcases i with _ | _ | _ | _ | _ | _ | i
    · rfl
    · rfl
    · rfl
    · rfl
    · rfl
    · rfl
    · exact absurd hz3 (by omega)
  · have hj4 : j < 5 := (Array.getElem?_eq_some_iff.mp ho).1
    rw [nI_toInt (by omega)] at hz3
    obtain rfl : i = j + 6 := by omega
    rcases j with _ | _ | _ | _ | _ | j
    · cases ho
      refine a_pc (pc' := 80) (by decide) ?_
      refine a_l0 rfl rfl rfl ?_
      refine a_l1 rfl rfl rfl ?_
      refine a_eV1 rfl lX12_273 mo_X12_isReady (sp_X12_isReady h.n12 hd h.s0.l) rfl rfl rfl ⟨12, _, rfl, rfl, rfl⟩ rfl ?_
      rw [e21]
      show AW _ _ _ (Qr I _ (bI (readyR (I 421) d)) L w1 w2 t) _ _ _ _ _ (.int (bI (readyR (I 421) d)) :: _) _
      cases readyR (I 421) d with
      | false =>
        refine a_if_eq rfl (fun _ => ?_) (fun z => absurd rfl z)
        refine a_s rfl rfl ?_
        exact a_iret rfl rfl (Qr.yes c0 rfl)
      | true =>
        refine a_if_eq rfl (fun z => absurd z (by decide)) (fun _ => ?_)
        refine a_s rfl rfl ?_
        refine a_goto rfl ?_
        exact a_iret rfl rfl (Qr.yes c0 rfl)
    · cases ho
      refine a_pc (pc' := 94) (by decide) ?_
      refine a_l0 rfl rfl rfl ?_
      refine a_l1 rfl rfl rfl ?_
      refine a_gV rfl lX12_351 mo_X12_growsBy (sp_X12_growsBy h.n12 h.n6 hd h.s0.l h.s0.o hL) rfl rfl rfl ⟨12, _, rfl, rfl, rfl⟩ rfl (fun v' h' hv => ?_)
      obtain ⟨rfl, f, rfl⟩ := hv
      rw [e21]
      exact a_iret rfl rfl (Qr.yesL c0 rfl)
    · cases ho
      refine a_pc (pc' := 100) (by decide) ?_
      refine a_l0 rfl rfl rfl ?_
      refine a_l1 rfl rfl rfl ?_
      refine a_gV rfl lX12_318 mo_X12_shamesBy (sp_X12_shamesBy h.n12 h.n6 hd h.s0.l h.s0.o hL) rfl rfl rfl ⟨12, _, rfl, rfl, rfl⟩ rfl (fun v' h' hv => ?_)
      obtain ⟨rfl, f, rfl⟩ := hv
      rw [e21]
      exact a_iret rfl rfl (Qr.yesL c0 rfl)
    · cases ho
      refine a_pc (pc' := 106) (by decide) ?_
      refine a_l0 rfl rfl rfl ?_
      refine a_l1 rfl rfl rfl ?_
      refine a_eV1 rfl lX12_283 mo_X12_placeOf (sp_X12_placeOf h.n12 h.s0.du hd) rfl rfl rfl ⟨12, _, rfl, rfl, rfl⟩ rfl ?_
      rw [e21]
      exact a_iret rfl rfl (Qr.yes c0 rfl)
    · cases ho
      refine a_pc (pc' := 112) (by decide) ?_
      refine a_l0 rfl rfl rfl ?_
      refine a_l1 rfl rfl rfl ?_
      refine a_eV1 rfl lX12_276 mo_X12_passesBy (sp_X12_passesBy h.n12 h.s0.du hd) rfl rfl rfl ⟨12, _, rfl, rfl, rfl⟩ rfl ?_
      rw [e21]
      exact a_iret rfl rfl (Qr.yes c0 rfl)
    · exact absurd hj4 (by omega)
/-! parade -/
def dtx (W : Nat → Int32) (x : Int32) : Nat → Int32
  | 0 => -1
  | n + 1 => if dtx W x n = -1 then (if vd W 5 n = 0 ∧ pl W n = x then nI n else -1) else dtx W x n
theorem dtx_key {j : Nat} (h1 : dtx W x j = -1) (h2 : vd W 5 j = 0 ∧ pl W j = x) (hj : j < 2 ^ 31) : ∀ i, dtx W x (j + 1 + i) = nI j := by
  intro i
  induction i with
  | zero =>
    show dtx W x (j + 1) = nI j
    unfold dtx
    rw [if_pos h1]
    exact if_pos h2
  | succ i ih =>
    show dtx W x ((j + 1 + i) + 1) = nI j
    unfold dtx
    rw [ih, if_neg (nI_no hj)]
theorem dtx_skip {j : Nat} (h1 : dtx W x j = -1) (h2 : ¬ (vd W 5 j = 0 ∧ pl W j = x)) : dtx W x (j + 1) = -1 := by
  unfold dtx
  rw [if_pos h1, if_neg h2]
theorem f_dutyAtx (hD : Sd I 235 W) (hG : Rg W) : SpE S m_X5_dutyAt 16 [.ref 235, .int x] (hp I L w1 w2 t) (some (.int (dtx W x (dn W)))) (hp I L w1 w2 t) := by
  have h12 := hG.1.2.1
  have hd3 : I 235 3 = nI (dn W) := (Sd.fd hD (f := 3) (g := 1) (by decide)).trans hG.1.2.2.2
  refine SpE_of ok_X5_dutyAt rfl rfl ?_
  show AW S m_X5_dutyAt 16 _ _ 0 0 0 [some (.ref 235), some (.int x), none] [] (hp I L w1 w2 t)
  refine a_s rfl rfl ?_
  refine a_s2 rfl rfl rfl rfl rfl rfl ?_
  refine a_inv (n := dn W) (fun m ls h => ∃ j, ls = [some (.ref 235), some (.int x), some (.int (nI j))] ∧ h = hp I L w1 w2 t ∧ j ≤ dn W ∧ m = dn W - j ∧ dtx W x j = -1) ⟨0, rfl, rfl, Nat.zero_le _, rfl, rfl⟩ ?_
  rintro m _ _ ⟨j, rfl, rfl, hj, hm, hdt⟩ ih
  refine a_l2 rfl rfl rfl ?_
  refine a_l0 rfl rfl rfl ?_
  refine a_getiv (v := nI (dn W)) rfl gfX5_63_5 rfl (hd3) ?_
  refine a_ic_ge rfl (fun c => ?_) (fun c => ?_)
  · have hge := nI_ge_of c (by omega) (by omega)
    obtain rfl : j = dn W := by omega
    refine a_s rfl rfl ?_
    exact a_iret rfl rfl ⟨by rw [hdt], rfl⟩
  have hjn := nI_lt_of c (by omega) (by omega)
  have skip : ¬ (vd W 5 j = 0 ∧ pl W j = x) → AW S m_X5_dutyAt 16 (fun v h' => v = some (.int (dtx W x (dn W))) ∧ h' = hp I L w1 w2 t) (fun _ _ => False) 0 0 29 [some (.ref 235), some (.int x), some (.int (nI j))] [] (hp I L w1 w2 t) := by
    intro z
    refine a_iv2 (y := nI (j + 1)) rfl rfl rfl ((nI_succ j).symm) ?_
    refine a_goto rfl ?_
    exact ih (dn W - (j + 1)) _ _ (by omega) ⟨j + 1, rfl, rfl, by omega, rfl, dtx_skip hdt z⟩
  refine a_l0 rfl rfl rfl ?_
  refine a_l2 rfl rfl rfl ?_
  refine a_eV1 rfl lX5_90 mo_X5_isWaiting (sp_X5_isWaiting (nd := dn W) (a := 235) (by decide) hd3 h12) rfl rfl rfl ⟨5, _, rfl, rfl, rfl⟩ rfl ?_
  rw [wait_same hD hG hjn]
  by_cases c0 : vd W 5 j = 0
  rotate_left
  · rw [decide_eq_false c0]
    refine a_if_eq rfl (fun _ => ?_) (fun z => absurd rfl z)
    exact skip (fun z => c0 z.1)
  rw [decide_eq_true c0]
  refine a_if_eq rfl (fun z => absurd z (by decide)) (fun _ => ?_)
  refine a_l0 rfl rfl rfl ?_
  refine a_l2 rfl rfl rfl ?_
  refine a_eV1 rfl lX5_113 mo_X5_placeOf (sp_X5_placeOf (nd := dn W) (a := 235) (by decide) hd3 h12) rfl rfl rfl ⟨5, _, rfl, rfl, rfl⟩ rfl ?_
  rw [place_same hD hG hjn]
  refine a_l1 rfl rfl rfl ?_
  refine a_ic_ne rfl (fun c2 => skip (fun z => c2 z.2)) (fun c2 => ?_)
  refine a_l2 rfl rfl rfl ?_
  refine a_iret rfl rfl ⟨?_, rfl⟩
  have key := dtx_key hdt ⟨c0, c2⟩ (by omega) (dn W - (j + 1))
  rw [show j + 1 + (dn W - (j + 1)) = dn W by omega] at key
  rw [key]
theorem fq_parade (h : Sy I) : SpE S m_X11_parade 18 [.ref 200, .int x] (hp I L w1 w2 t) (some (.int (dtx (I 421) x (dn (I 421))))) (hp I L w1 w2 t) := by
  refine SpE_of ok_X11_parade rfl rfl ?_
  show AW S m_X11_parade 18 _ _ 0 0 0 [some (.ref 200), some (.int x)] [] (hp I L w1 w2 t)
  refine a_l0 rfl rfl rfl ?_
  refine a_getq rfl gfX11_37_11 rfl (rfl) ?_
  refine a_l1 rfl rfl rfl ?_
  refine a_eV1 rfl lX11_266 mo_X5_dutyAt (f_dutyAtx h.nm.1 h.nm.2.2) rfl rfl rfl ⟨5, _, rfl, rfl, rfl⟩ rfl ?_
  exact a_iret rfl rfl ⟨rfl, rfl⟩
theorem hq_parade (h : Sy I) : SpE S m_X12_parade 17 [.ref 420, .int x] (hp I L w1 w2 t) (some (.int (dtx (I 421) x (dn (I 421))))) (hp (up2 I 420 0 0) L w1 w2 t) := by
  have h12 := h.n12
  refine SpE_of ok_X12_parade rfl rfl ?_
  show AW S m_X12_parade 17 _ _ 0 0 0 [some (.ref 420), some (.int x), none] [] (hp I L w1 w2 t)
  refine a_l0 rfl rfl rfl ?_
  refine a_s rfl rfl ?_
  refine a_puti rfl pfX12_3_12 rfl ?_
  refine a_s rfl rfl ?_
  refine a_s2 rfl rfl rfl rfl rfl rfl ?_
  have hs := h.s0
  have e21 : up2 I 420 0 0 421 = I 421 := up2_row (by decide)
  generalize hW : I 421 = W at *
  generalize up2 I 420 0 0 = J at *
  refine a_inv (n := dn W) (fun m ls h => ∃ j, ls = [some (.ref 420), some (.int x), some (.int (nI j))] ∧ h = hp J L w1 w2 t ∧ j ≤ dn W ∧ m = dn W - j ∧ dtx W x j = -1) ⟨0, rfl, rfl, Nat.zero_le _, rfl, rfl⟩ ?_
  rintro m _ _ ⟨j, rfl, rfl, hj, hm, hdt⟩ ih
  refine a_l2 rfl rfl rfl ?_
  refine a_l0 rfl rfl rfl ?_
  refine a_eV1 rfl lX12_74 mo_X12_duties sp_X12_duties rfl rfl rfl ⟨12, _, rfl, rfl, rfl⟩ rfl ?_
  refine a_top (y := nI (dn W)) (hs.du) ?_
  refine a_ic_ge rfl (fun c => ?_) (fun c => ?_)
  · have hge := nI_ge_of c (by omega) (by omega)
    obtain rfl : j = dn W := by omega
    refine a_s rfl rfl ?_
    exact a_iret rfl rfl ⟨by rw [hdt], rfl⟩
  have hjn := nI_lt_of c (by omega) (by omega)
  have skip : ¬ (vd W 5 j = 0 ∧ pl W j = x) → AW S m_X12_parade 17 (fun v h' => v = some (.int (dtx W x (dn W))) ∧ h' = hp J L w1 w2 t) (fun _ _ => False) 0 0 30 [some (.ref 420), some (.int x), some (.int (nI j))] [] (hp J L w1 w2 t) := by
    intro z
    refine a_iv2 (y := nI (j + 1)) rfl rfl rfl ((nI_succ j).symm) ?_
    refine a_goto rfl ?_
    exact ih (dn W - (j + 1)) _ _ (by omega) ⟨j + 1, rfl, rfl, by omega, rfl, dtx_skip hdt z⟩
  refine a_l1 rfl rfl rfl ?_
  refine a_if_lt rfl (fun c1 => skip (fun z => ?_)) (fun c1 => ?_)
  · have e := pl_is h12 hjn z.1
    rw [z.2] at e
    rw [e] at c1
    exact absurd c1 (Int32.not_lt.mpr (nI_0le (by have := cntF_le (dn W) (fun x => decide (vd W 5 x = 0 ∧ (vd W 2 x < vd W 2 j ∨ (vd W 2 x = vd W 2 j ∧ nI x < nI j)))); omega)))
  refine a_l0 rfl rfl rfl ?_
  refine a_l2 rfl rfl rfl ?_
  refine a_eV1 rfl lX12_283 mo_X12_placeOf (sp_X12_placeOf h12 hs.du hjn) rfl rfl rfl ⟨12, _, rfl, rfl, rfl⟩ rfl ?_
  rw [e21]
  refine a_l1 rfl rfl rfl ?_
  refine a_ic_ne rfl (fun c2 => skip (fun z => c2 z.2)) (fun c2 => ?_)
  have c0 : vd W 5 j = 0 := by
    by_cases c0 : vd W 5 j = 0
    · exact c0
    · exfalso
      have e : pl W j = -1 := pl_no h12 hjn c0
      have c2 : pl W j = x := c2
      rw [e] at c2
      rw [← c2] at c1
      exact c1 (by decide)
  refine a_l2 rfl rfl rfl ?_
  refine a_iret rfl rfl ⟨?_, rfl⟩
  have key := dtx_key hdt ⟨c0, c2⟩ (by omega) (dn W - (j + 1))
  rw [show j + 1 + (dn W - (j + 1)) = dn W by omega] at key
  rw [key]
end T79zx
