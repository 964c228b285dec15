section
/-! ===== the reference: conditions (printed by program) ===== -/
section T72
variable {S : aS} {I : Nat → Nat → Int32} {L : Nat → Nat → Int64} {w1 w2 t : Nat} {e p a n c : Nat} {s : List Bool}
set_option maxRecDepth 100000
theorem Dq.up13 {J : Nat → Nat → Int32} {x : Int32} (h : Dq e p a n s c J) : Dq e p a n s c (up2 J 420 13 x) := by
  refine ⟨?_, (up2_ne (Or.inr (by decide))).trans h.2.1, h.2.2.1, ?_⟩
  · unfold Pp
    rw [up2_ne (Or.inr (by decide)), up2_ne (Or.inr (by decide))]
    exact h.1
  · rw [up2_row (by decide)]
    exact h.2.2.2
theorem Cs.deep {p0 n0 p' n' c' : Nat} {s' : List Bool} {x y : Int32} {J K : Nat → Nat → Int32} (h : Cs e p0 n0 a s c I J p n) (hd : I 420 13 = x) (f : Fm (sY n) (up2 J 420 13 y) K) (hp' : p ≤ p') (gn : n ≤ n') (g : Dq e p' a n' s' c' K) : Cs e p0 n0 a s' c' I (up2 K 420 13 x) p' n' := ⟨Fm.up (Cs.fr h (Fm.tr (Fm.up Fm.rf rfl) f)) rfl, Nat.le_trans h.2.1 hp', up2_at.trans hd.symm, Nat.le_trans h.2.2.2.1 gn, Dq.up13 g⟩
theorem Cs.cc {p0 n0 p' n' c' : Nat} {s' : List Bool} {J K : Nat → Nat → Int32} (h : Cs e p0 n0 a s c I J p n) (g : Cs e p n a s' c' J K p' n') : Cs e p0 n0 a s' c' I K p' n' := Cs.st h g.1 g.2.1 g.2.2
theorem Cs.ln {p0 n0 : Nat} {J : Nat → Nat → Int32} (h : Cs e p0 n0 a s c I J p n) : n + c ≤ 400 := Dq.le (Cs.dq h)
theorem Cs.d {p0 n0 : Nat} {x : Int32} {J : Nat → Nat → Int32} (h : Cs e p0 n0 a s c I J p n) (hd : I 420 13 = x) : J 420 13 = x := h.2.2.1.trans hd
theorem r_X12_readAtom_6 (hw : WdS S) (hc : 1 ≤ c) (hl : s.length + 3 ≤ 24) (hd : I 420 13 = nI 6) (h : Dq e p a n s c I) : Sp S m_X12_readAtom 20 0 0 [.ref 420] (hp I L w1 w2 t) (QC e p n a (true :: s) c I L w1 w2 t) nX := by
  refine Sp_of ok_X12_readAtom rfl rfl ?_
  show AW S m_X12_readAtom 20 _ _ 0 0 0 [some (.ref 420), none] [] (hp I L w1 w2 t)
  refine a_l0 rfl rfl rfl ?_
  refine a_s rfl rfl ?_
  refine a_gV rfl lX12_187 mo_X12_sign (r_X12_sign (Dq.pp h)) rfl rfl rfl ⟨12, _, rfl, rfl, rfl⟩ rfl (fun v' h' hv => ?_)
  obtain ⟨z, b1, p1, J1, rfl, rfl, h1, hz⟩ := hv
  have C1 := Cs.rd (Cs.rf h) h1
  clear hz
  refine a_if_eq rfl (fun _ => ?_) (fun cz => ?_)
  rotate_left
  · refine a_l0 rfl rfl rfl ?_
    refine a_geti rfl gfX12_194_12 rfl ?_
    refine a_top (y := nI 6) (Cs.d C1 hd) ?_
    refine a_s rfl rfl ?_
    refine a_ic_ne rfl (fun c => absurd rfl c) (fun _ => ?_)
    refine a_s rfl rfl ?_
    exact a_zret rfl rfl rfl (QC.f0 C1)
  refine a_l0 rfl rfl rfl ?_
  refine a_ldcs (q := 130 + 21) rfl (hw.ld (i := 21) (by decide)) ?_
  refine a_gV rfl lX12_128 mo_X12_passes (r_X12_passes (k := 21) hw (by decide) (Cs.pp C1)) rfl rfl rfl ⟨12, _, rfl, rfl, rfl⟩ rfl (fun v' h' hv => ?_)
  obtain ⟨z2, b2, p2, J2, rfl, rfl, h2, hz2⟩ := hv
  refine a_if_eq rfl (fun _ => ?_) (fun cz2 => ?_)
  rotate_left
  · have C2 := Cs.rd1 C1 h2 (hz2 (bI_t cz2))
    refine a_l0 rfl rfl rfl ?_
    refine a_geti rfl gfX12_194_12 rfl ?_
    refine a_top (y := nI 6) (Cs.d C2 hd) ?_
    refine a_s rfl rfl ?_
    refine a_ic_ne rfl (fun c => absurd rfl c) (fun _ => ?_)
    refine a_s rfl rfl ?_
    exact a_zret rfl rfl rfl (QC.f0 C2)
  have C2 := Cs.rd C1 h2
  clear hz2
  refine a_l0 rfl rfl rfl ?_
  refine a_gV rfl lX12_205 mo_X12_readTag (r_X12_readTag hw (by omega) (Cs.dq C2)) rfl rfl rfl ⟨12, _, rfl, rfl, rfl⟩ rfl (fun v' h' hv => ?_)
  obtain ⟨z3, J3, p3, n3, rfl, rfl, ht3, hf3⟩ := hv
  refine a_if_eq rfl (fun cz3 => ?_) (fun cz3 => ?_)
  rotate_left
  · refine a_s rfl rfl ?_
    exact a_zret rfl rfl rfl (QC.yes (Cs.cc C2 (ht3 (bI_t cz3))))
  have C3 := Cs.cc C2 (hf3 (bI_f cz3))
  refine a_l0 rfl rfl rfl ?_
  refine a_gV rfl lX12_208 mo_X12_readSum (r_X12_readSum hw hc (by omega) (Cs.dq C3)) rfl rfl rfl ⟨12, _, rfl, rfl, rfl⟩ rfl (fun v' h' hv => ?_)
  obtain ⟨z4, J4, p4, n4, rfl, rfl, f4, hp4, hq4, hz4⟩ := hv
  refine a_if_ne rfl (fun cz4 => ?_) (fun _ => ?_)
  rotate_left
  · refine a_s rfl rfl ?_
    exact a_zret rfl rfl rfl (QC.fc C3 f4 hp4 hq4)
  have C4 := Cs.st C3 f4 hp4 (hz4 (bI_t cz4))
  have key : ∀ {z5 : Bool} {p' n' : Nat} {J : Nat → Nat → Int32}, Cs e p n a (false :: s) (c + 1) I J p' n' → AW S m_X12_readAtom 20 (QC e p n a (true :: s) c I L w1 w2 t) nX 0 0 152 [some (.ref 420), some (.int (bI z5))] [] (hp J L w1 w2 t) := by
    intro z5 p' n' J C
    refine a_l0 rfl rfl rfl ?_
    refine a_gV rfl lX12_208 mo_X12_readSum (r_X12_readSum hw (by omega) (by simp only [List.length_cons]; omega) (Cs.dq C)) rfl rfl rfl ⟨12, _, rfl, rfl, rfl⟩ rfl (fun v' h' hv => ?_)
    obtain ⟨z6, J6, p6, n6, rfl, rfl, f6, hp6, hq6, hz6⟩ := hv
    refine a_if_ne rfl (fun cz6 => ?_) (fun _ => ?_)
    rotate_left
    · refine a_s rfl rfl ?_
      exact a_zret rfl rfl rfl (QC.fc C f6 hp6 hq6)
    have C6 := Cs.st C f6 hp6 (hz6 (bI_t cz6))
    have hle := Cs.ln C6
    refine a_l0 rfl rfl rfl ?_
    refine a_l1 rfl rfl rfl ?_
    cases z5 with
    | false =>
      refine a_if_eq rfl (fun _ => ?_) (fun c => absurd rfl c)
      refine a_s rfl rfl ?_
      refine a_s rfl rfl ?_
      refine a_eV0 rfl lX12_180 mo_X12_emits (r_X12_emits (Dq.st (Cs.dq C6)) (by omega)) rfl rfl rfl ⟨12, _, rfl, rfl, rfl⟩ rfl ?_
      refine a_s rfl rfl ?_
      exact a_zret rfl rfl rfl (QC.yes (Cs.em (k := 12) (m := 0) C6 (by decide) (by decide) rfl (by simp only [List.length_cons]; omega)))
    | true =>
      refine a_if_eq rfl (fun c => absurd c (by decide)) (fun _ => ?_)
      refine a_s rfl rfl ?_
      refine a_goto rfl ?_
      refine a_s rfl rfl ?_
      refine a_eV0 rfl lX12_180 mo_X12_emits (r_X12_emits (Dq.st (Cs.dq C6)) (by omega)) rfl rfl rfl ⟨12, _, rfl, rfl, rfl⟩ rfl ?_
      refine a_s rfl rfl ?_
      exact a_zret rfl rfl rfl (QC.yes (Cs.em (k := 11) (m := 0) C6 (by decide) (by decide) rfl (by simp only [List.length_cons]; omega)))
  refine a_l0 rfl rfl rfl ?_
  refine a_s rfl rfl ?_
  refine a_gV rfl lX12_187 mo_X12_sign (r_X12_sign (Cs.pp C4)) rfl rfl rfl ⟨12, _, rfl, rfl, rfl⟩ rfl (fun v' h' hv => ?_)
  obtain ⟨z5, b5, p5, J5, rfl, rfl, h5, hz5⟩ := hv
  refine a_s1 rfl rfl rfl rfl rfl rfl ?_
  refine a_l1 rfl rfl rfl ?_
  refine a_if_ne rfl (fun cz5 => ?_) (fun _ => ?_)
  · exact key (Cs.rd1 C4 h5 (hz5 (bI_t cz5)))
  have C5 := Cs.rd C4 h5
  refine a_l0 rfl rfl rfl ?_
  refine a_s rfl rfl ?_
  refine a_gV rfl lX12_187 mo_X12_sign (r_X12_sign (Cs.pp C5)) rfl rfl rfl ⟨12, _, rfl, rfl, rfl⟩ rfl (fun v' h' hv => ?_)
  obtain ⟨z7, b7, p7, J7, rfl, rfl, h7, hz7⟩ := hv
  refine a_if_eq rfl (fun _ => ?_) (fun cz7 => ?_)
  · refine a_s rfl rfl ?_
    exact a_zret rfl rfl rfl (QC.f0 (Cs.rd C5 h7))
  · exact key (Cs.rd1 C5 h7 (hz7 (bI_t cz7)))
theorem r_X12_readAllOf_6 (hw : WdS S) (hc : 1 ≤ c) (hl : s.length + 4 ≤ 24) (hd : I 420 13 = nI 6) (h : Dq e p a n s c I) : Sp S m_X12_readAllOf 21 0 0 [.ref 420] (hp I L w1 w2 t) (QC e p n a (true :: s) c I L w1 w2 t) nX := by
  refine Sp_of ok_X12_readAllOf rfl rfl ?_
  show AW S m_X12_readAllOf 21 _ _ 0 0 0 [some (.ref 420)] [] (hp I L w1 w2 t)
  refine a_l0 rfl rfl rfl ?_
  refine a_gV rfl lX12_202 mo_X12_readAtom (r_X12_readAtom_6 hw hc (by omega) hd h) rfl rfl rfl ⟨12, _, rfl, rfl, rfl⟩ rfl (fun v' h' hv => ?_)
  obtain ⟨z, J1, p1, n1, rfl, rfl, f1, hp1, hq1, hz1⟩ := hv
  refine a_if_ne rfl (fun cz => ?_) (fun _ => ?_)
  rotate_left
  · refine a_s rfl rfl ?_
    exact a_zret rfl rfl rfl (QC.no f1 hp1 hq1)
  have C1 := Cs.st (Cs.rf h) f1 hp1 (hz1 (bI_t cz))
  refine a_inv (n := e - p1) (fun m ls h => ls = [some (.ref 420)] ∧ ∃ J p' n', h = hp J L w1 w2 t ∧ Cs e p n a (true :: s) c I J p' n' ∧ m = e - p') ⟨rfl, J1, p1, n1, rfl, C1, rfl⟩ ?_
  rintro m _ _ ⟨rfl, J, p', n', rfl, C, hm⟩ ih
  refine a_l0 rfl rfl rfl ?_
  refine a_ldcs (q := 130 + 20) rfl (hw.ld (i := 20) (by decide)) ?_
  refine a_gV rfl lX12_128 mo_X12_passes (r_X12_passes (k := 20) hw (by decide) (Cs.pp C)) rfl rfl rfl ⟨12, _, rfl, rfl, rfl⟩ rfl (fun v' h' hv => ?_)
  obtain ⟨z2, b2, p2, J2, rfl, rfl, h2, hz2⟩ := hv
  refine a_if_eq rfl (fun _ => ?_) (fun cz2 => ?_)
  · refine a_s rfl rfl ?_
    exact a_zret rfl rfl rfl (QC.yes (Cs.rd C h2))
  have hlt := hz2 (bI_t cz2)
  have C2 := Cs.rd1 C h2 hlt
  have q2 := Rd.pb h2
  have q3 := Pp.le (Cs.pp C2)
  refine a_l0 rfl rfl rfl ?_
  refine a_gV rfl lX12_202 mo_X12_readAtom (r_X12_readAtom_6 hw (by omega) (by simp only [List.length_cons]; omega) (Cs.d C2 hd) (Cs.dq C2)) rfl rfl rfl ⟨12, _, rfl, rfl, rfl⟩ rfl (fun v' h' hv => ?_)
  obtain ⟨z3, J3, p3, n3, rfl, rfl, f3, hp3, hq3, hz3⟩ := hv
  refine a_if_ne rfl (fun cz3 => ?_) (fun _ => ?_)
  rotate_left
  · refine a_s rfl rfl ?_
    exact a_zret rfl rfl rfl (QC.fc C2 f3 hp3 hq3)
  have C3 := Cs.st C2 f3 hp3 (hz3 (bI_t cz3))
  have hle := Cs.ln C3
  refine a_l0 rfl rfl rfl ?_
  refine a_s rfl rfl ?_
  refine a_s rfl rfl ?_
  refine a_eV0 rfl lX12_180 mo_X12_emits (r_X12_emits (Dq.st (Cs.dq C3)) (by omega)) rfl rfl rfl ⟨12, _, rfl, rfl, rfl⟩ rfl ?_
  refine a_goto rfl ?_
  exact ih (e - p3) _ _ (by omega) ⟨rfl, _, p3, n3 + 1, rfl, Cs.em (k := 14) (m := 0) C3 (by decide) (by decide) rfl (by simp only [List.length_cons]; omega), rfl⟩
theorem r_X12_readCond_6 (hw : WdS S) (hc : 1 ≤ c) (hl : s.length + 5 ≤ 24) (hd : I 420 13 = nI 6) (h : Dq e p a n s c I) : Sp S m_X12_readCond 22 0 0 [.ref 420] (hp I L w1 w2 t) (QC e p n a (true :: s) c I L w1 w2 t) nX := by
  refine Sp_of ok_X12_readCond rfl rfl ?_
  show AW S m_X12_readCond 22 _ _ 0 0 0 [some (.ref 420)] [] (hp I L w1 w2 t)
  refine a_l0 rfl rfl rfl ?_
  refine a_gV rfl lX12_213 mo_X12_readAllOf (r_X12_readAllOf_6 hw hc (by omega) hd h) rfl rfl rfl ⟨12, _, rfl, rfl, rfl⟩ rfl (fun v' h' hv => ?_)
  obtain ⟨z, J1, p1, n1, rfl, rfl, f1, hp1, hq1, hz1⟩ := hv
  refine a_if_ne rfl (fun cz => ?_) (fun _ => ?_)
  rotate_left
  · refine a_s rfl rfl ?_
    exact a_zret rfl rfl rfl (QC.no f1 hp1 hq1)
  have C1 := Cs.st (Cs.rf h) f1 hp1 (hz1 (bI_t cz))
  refine a_inv (n := e - p1) (fun m ls h => ls = [some (.ref 420)] ∧ ∃ J p' n', h = hp J L w1 w2 t ∧ Cs e p n a (true :: s) c I J p' n' ∧ m = e - p') ⟨rfl, J1, p1, n1, rfl, C1, rfl⟩ ?_
  rintro m _ _ ⟨rfl, J, p', n', rfl, C, hm⟩ ih
  refine a_l0 rfl rfl rfl ?_
  refine a_ldcs (q := 130 + 19) rfl (hw.ld (i := 19) (by decide)) ?_
  refine a_gV rfl lX12_128 mo_X12_passes (r_X12_passes (k := 19) hw (by decide) (Cs.pp C)) rfl rfl rfl ⟨12, _, rfl, rfl, rfl⟩ rfl (fun v' h' hv => ?_)
  obtain ⟨z2, b2, p2, J2, rfl, rfl, h2, hz2⟩ := hv
  refine a_if_eq rfl (fun _ => ?_) (fun cz2 => ?_)
  · refine a_s rfl rfl ?_
    exact a_zret rfl rfl rfl (QC.yes (Cs.rd C h2))
  have hlt := hz2 (bI_t cz2)
  have C2 := Cs.rd1 C h2 hlt
  have q2 := Rd.pb h2
  have q3 := Pp.le (Cs.pp C2)
  refine a_l0 rfl rfl rfl ?_
  refine a_gV rfl lX12_213 mo_X12_readAllOf (r_X12_readAllOf_6 hw (by omega) (by simp only [List.length_cons]; omega) (Cs.d C2 hd) (Cs.dq C2)) rfl rfl rfl ⟨12, _, rfl, rfl, rfl⟩ rfl (fun v' h' hv => ?_)
  obtain ⟨z3, J3, p3, n3, rfl, rfl, f3, hp3, hq3, hz3⟩ := hv
  refine a_if_ne rfl (fun cz3 => ?_) (fun _ => ?_)
  rotate_left
  · refine a_s rfl rfl ?_
    exact a_zret rfl rfl rfl (QC.fc C2 f3 hp3 hq3)
  have C3 := Cs.st C2 f3 hp3 (hz3 (bI_t cz3))
  have hle := Cs.ln C3
  refine a_l0 rfl rfl rfl ?_
  refine a_s rfl rfl ?_
  refine a_s rfl rfl ?_
  refine a_eV0 rfl lX12_180 mo_X12_emits (r_X12_emits (Dq.st (Cs.dq C3)) (by omega)) rfl rfl rfl ⟨12, _, rfl, rfl, rfl⟩ rfl ?_
  refine a_goto rfl ?_
  exact ih (e - p3) _ _ (by omega) ⟨rfl, _, p3, n3 + 1, rfl, Cs.em (k := 15) (m := 0) C3 (by decide) (by decide) rfl (by simp only [List.length_cons]; omega), rfl⟩
theorem r_X12_readAtom_5 (hw : WdS S) (hc : 1 ≤ c) (hl : s.length + 5 ≤ 24) (hd : I 420 13 = nI 5) (h : Dq e p a n s c I) : Sp S m_X12_readAtom 23 0 0 [.ref 420] (hp I L w1 w2 t) (QC e p n a (true :: s) c I L w1 w2 t) nX := by
  refine Sp_of ok_X12_readAtom rfl rfl ?_
  show AW S m_X12_readAtom 23 _ _ 0 0 0 [some (.ref 420), none] [] (hp I L w1 w2 t)
  refine a_l0 rfl rfl rfl ?_
  refine a_s rfl rfl ?_
  refine a_gV rfl lX12_187 mo_X12_sign (r_X12_sign (Dq.pp h)) rfl rfl rfl ⟨12, _, rfl, rfl, rfl⟩ rfl (fun v' h' hv => ?_)
  obtain ⟨z, b1, p1, J1, rfl, rfl, h1, hz⟩ := hv
  have C1 := Cs.rd (Cs.rf h) h1
  clear hz
  refine a_if_eq rfl (fun _ => ?_) (fun cz => ?_)
  rotate_left
  · refine a_l0 rfl rfl rfl ?_
    refine a_geti rfl gfX12_194_12 rfl ?_
    refine a_top (y := nI 5) (Cs.d C1 hd) ?_
    refine a_s rfl rfl ?_
    refine a_ic_ne rfl (fun _ => ?_) (fun c => absurd c (by decide))
    refine a_l0 rfl rfl rfl ?_
    refine a_s rfl rfl ?_
    refine a_geti rfl gfX12_194_12 rfl ?_
    refine a_top (y := nI 5) (Cs.d C1 hd) ?_
    refine a_s rfl rfl ?_
    refine a_s rfl rfl ?_
    refine a_top (y := nI 6) (rfl) ?_
    refine a_puti rfl pfX12_194_12 rfl ?_
    refine a_l0 rfl rfl rfl ?_
    refine a_gV rfl lX12_197 mo_X12_readCond (r_X12_readCond_6 hw (by omega) (by omega) up2_at (Dq.up13 (Cs.dq C1))) rfl rfl rfl ⟨12, _, rfl, rfl, rfl⟩ rfl (fun v' h' hv => ?_)
    obtain ⟨z9, J9, p9, n9, rfl, rfl, f9, hp9, hq9, hz9⟩ := hv
    refine a_if_ne rfl (fun cz9 => ?_) (fun _ => ?_)
    rotate_left
    · refine a_s rfl rfl ?_
      exact a_zret rfl rfl rfl (QC.fc C1 (Fm.tr (Fm.up Fm.rf rfl) f9) hp9 hq9)
    obtain ⟨g13, gn, gq⟩ := hz9 (bI_t cz9)
    refine a_l0 rfl rfl rfl ?_
    refine a_s rfl rfl ?_
    refine a_geti rfl gfX12_194_12 rfl ?_
    refine a_top (y := nI 6) (g13.trans up2_at) ?_
    refine a_s rfl rfl ?_
    refine a_s rfl rfl ?_
    refine a_top (y := nI 5) (rfl) ?_
    refine a_puti rfl pfX12_194_12 rfl ?_
    have C9 := Cs.deep C1 hd f9 hp9 gn gq
    refine a_l0 rfl rfl rfl ?_
    refine a_s rfl rfl ?_
    refine a_gV rfl lX12_187 mo_X12_sign (r_X12_sign (Cs.pp C9)) rfl rfl rfl ⟨12, _, rfl, rfl, rfl⟩ rfl (fun v' h' hv => ?_)
    obtain ⟨z3, b3, p3, J3, rfl, rfl, h3, -⟩ := hv
    cases z3 with
    | false => exact a_zret rfl rfl rfl (QC.f0 (Cs.rd C9 h3))
    | true => exact a_zret rfl rfl rfl (QC.yes (Cs.rd C9 h3))
  refine a_l0 rfl rfl rfl ?_
  refine a_ldcs (q := 130 + 21) rfl (hw.ld (i := 21) (by decide)) ?_
  refine a_gV rfl lX12_128 mo_X12_passes (r_X12_passes (k := 21) hw (by decide) (Cs.pp C1)) rfl rfl rfl ⟨12, _, rfl, rfl, rfl⟩ rfl (fun v' h' hv => ?_)
  obtain ⟨z2, b2, p2, J2, rfl, rfl, h2, hz2⟩ := hv
  refine a_if_eq rfl (fun _ => ?_) (fun cz2 => ?_)
  rotate_left
  · have C2 := Cs.rd1 C1 h2 (hz2 (bI_t cz2))
    refine a_l0 rfl rfl rfl ?_
    refine a_geti rfl gfX12_194_12 rfl ?_
    refine a_top (y := nI 5) (Cs.d C2 hd) ?_
    refine a_s rfl rfl ?_
    refine a_ic_ne rfl (fun _ => ?_) (fun c => absurd c (by decide))
    refine a_l0 rfl rfl rfl ?_
    refine a_s rfl rfl ?_
    refine a_geti rfl gfX12_194_12 rfl ?_
    refine a_top (y := nI 5) (Cs.d C2 hd) ?_
    refine a_s rfl rfl ?_
    refine a_s rfl rfl ?_
    refine a_top (y := nI 6) (rfl) ?_
    refine a_puti rfl pfX12_194_12 rfl ?_
    refine a_l0 rfl rfl rfl ?_
    refine a_gV rfl lX12_202 mo_X12_readAtom (r_X12_readAtom_6 hw (by omega) (by omega) up2_at (Dq.up13 (Cs.dq C2))) rfl rfl rfl ⟨12, _, rfl, rfl, rfl⟩ rfl (fun v' h' hv => ?_)
    obtain ⟨z9, J9, p9, n9, rfl, rfl, f9, hp9, hq9, hz9⟩ := hv
    refine a_if_ne rfl (fun cz9 => ?_) (fun _ => ?_)
    rotate_left
    · refine a_s rfl rfl ?_
      exact a_zret rfl rfl rfl (QC.fc C2 (Fm.tr (Fm.up Fm.rf rfl) f9) hp9 hq9)
    obtain ⟨g13, gn, gq⟩ := hz9 (bI_t cz9)
    refine a_l0 rfl rfl rfl ?_
    refine a_s rfl rfl ?_
    refine a_geti rfl gfX12_194_12 rfl ?_
    refine a_top (y := nI 6) (g13.trans up2_at) ?_
    refine a_s rfl rfl ?_
    refine a_s rfl rfl ?_
    refine a_top (y := nI 5) (rfl) ?_
    refine a_puti rfl pfX12_194_12 rfl ?_
    have C9 := Cs.deep C2 hd f9 hp9 gn gq
    have hle := Cs.ln C9
    refine a_l0 rfl rfl rfl ?_
    refine a_s rfl rfl ?_
    refine a_s rfl rfl ?_
    refine a_eV0 rfl lX12_180 mo_X12_emits (r_X12_emits (Dq.st (Cs.dq C9)) (by omega)) rfl rfl rfl ⟨12, _, rfl, rfl, rfl⟩ rfl ?_
    refine a_s rfl rfl ?_
    exact a_zret rfl rfl rfl (QC.yes (Cs.em (k := 13) (m := 0) C9 (by decide) (by decide) rfl (by simp only [List.length_cons]; omega)))
  have C2 := Cs.rd C1 h2
  clear hz2
  refine a_l0 rfl rfl rfl ?_
  refine a_gV rfl lX12_205 mo_X12_readTag (r_X12_readTag hw (by omega) (Cs.dq C2)) rfl rfl rfl ⟨12, _, rfl, rfl, rfl⟩ rfl (fun v' h' hv => ?_)
  obtain ⟨z3, J3, p3, n3, rfl, rfl, ht3, hf3⟩ := hv
  refine a_if_eq rfl (fun cz3 => ?_) (fun cz3 => ?_)
  rotate_left
  · refine a_s rfl rfl ?_
    exact a_zret rfl rfl rfl (QC.yes (Cs.cc C2 (ht3 (bI_t cz3))))
  have C3 := Cs.cc C2 (hf3 (bI_f cz3))
  refine a_l0 rfl rfl rfl ?_
  refine a_gV rfl lX12_208 mo_X12_readSum (r_X12_readSum hw hc (by omega) (Cs.dq C3)) rfl rfl rfl ⟨12, _, rfl, rfl, rfl⟩ rfl (fun v' h' hv => ?_)
  obtain ⟨z4, J4, p4, n4, rfl, rfl, f4, hp4, hq4, hz4⟩ := hv
  refine a_if_ne rfl (fun cz4 => ?_) (fun _ => ?_)
  rotate_left
  · refine a_s rfl rfl ?_
    exact a_zret rfl rfl rfl (QC.fc C3 f4 hp4 hq4)
  have C4 := Cs.st C3 f4 hp4 (hz4 (bI_t cz4))
  have key : ∀ {z5 : Bool} {p' n' : Nat} {J : Nat → Nat → Int32}, Cs e p n a (false :: s) (c + 1) I J p' n' → AW S m_X12_readAtom 23 (QC e p n a (true :: s) c I L w1 w2 t) nX 0 0 152 [some (.ref 420), some (.int (bI z5))] [] (hp J L w1 w2 t) := by
    intro z5 p' n' J C
    refine a_l0 rfl rfl rfl ?_
    refine a_gV rfl lX12_208 mo_X12_readSum (r_X12_readSum hw (by omega) (by simp only [List.length_cons]; omega) (Cs.dq C)) rfl rfl rfl ⟨12, _, rfl, rfl, rfl⟩ rfl (fun v' h' hv => ?_)
    obtain ⟨z6, J6, p6, n6, rfl, rfl, f6, hp6, hq6, hz6⟩ := hv
    refine a_if_ne rfl (fun cz6 => ?_) (fun _ => ?_)
    rotate_left
    · refine a_s rfl rfl ?_
      exact a_zret rfl rfl rfl (QC.fc C f6 hp6 hq6)
    have C6 := Cs.st C f6 hp6 (hz6 (bI_t cz6))
    have hle := Cs.ln C6
    refine a_l0 rfl rfl rfl ?_
    refine a_l1 rfl rfl rfl ?_
    cases z5 with
    | false =>
      refine a_if_eq rfl (fun _ => ?_) (fun c => absurd rfl c)
      refine a_s rfl rfl ?_
      refine a_s rfl rfl ?_
      refine a_eV0 rfl lX12_180 mo_X12_emits (r_X12_emits (Dq.st (Cs.dq C6)) (by omega)) rfl rfl rfl ⟨12, _, rfl, rfl, rfl⟩ rfl ?_
      refine a_s rfl rfl ?_
      exact a_zret rfl rfl rfl (QC.yes (Cs.em (k := 12) (m := 0) C6 (by decide) (by decide) rfl (by simp only [List.length_cons]; omega)))
    | true =>
      refine a_if_eq rfl (fun c => absurd c (by decide)) (fun _ => ?_)
      refine a_s rfl rfl ?_
      refine a_goto rfl ?_
      refine a_s rfl rfl ?_
      refine a_eV0 rfl lX12_180 mo_X12_emits (r_X12_emits (Dq.st (Cs.dq C6)) (by omega)) rfl rfl rfl ⟨12, _, rfl, rfl, rfl⟩ rfl ?_
      refine a_s rfl rfl ?_
      exact a_zret rfl rfl rfl (QC.yes (Cs.em (k := 11) (m := 0) C6 (by decide) (by decide) rfl (by simp only [List.length_cons]; omega)))
  refine a_l0 rfl rfl rfl ?_
  refine a_s rfl rfl ?_
  refine a_gV rfl lX12_187 mo_X12_sign (r_X12_sign (Cs.pp C4)) rfl rfl rfl ⟨12, _, rfl, rfl, rfl⟩ rfl (fun v' h' hv => ?_)
  obtain ⟨z5, b5, p5, J5, rfl, rfl, h5, hz5⟩ := hv
  refine a_s1 rfl rfl rfl rfl rfl rfl ?_
  refine a_l1 rfl rfl rfl ?_
  refine a_if_ne rfl (fun cz5 => ?_) (fun _ => ?_)
  · exact key (Cs.rd1 C4 h5 (hz5 (bI_t cz5)))
  have C5 := Cs.rd C4 h5
  refine a_l0 rfl rfl rfl ?_
  refine a_s rfl rfl ?_
  refine a_gV rfl lX12_187 mo_X12_sign (r_X12_sign (Cs.pp C5)) rfl rfl rfl ⟨12, _, rfl, rfl, rfl⟩ rfl (fun v' h' hv => ?_)
  obtain ⟨z7, b7, p7, J7, rfl, rfl, h7, hz7⟩ := hv
  refine a_if_eq rfl (fun _ => ?_) (fun cz7 => ?_)
  · refine a_s rfl rfl ?_
    exact a_zret rfl rfl rfl (QC.f0 (Cs.rd C5 h7))
  · exact key (Cs.rd1 C5 h7 (hz7 (bI_t cz7)))
theorem r_X12_readAllOf_5 (hw : WdS S) (hc : 1 ≤ c) (hl : s.length + 6 ≤ 24) (hd : I 420 13 = nI 5) (h : Dq e p a n s c I) : Sp S m_X12_readAllOf 24 0 0 [.ref 420] (hp I L w1 w2 t) (QC e p n a (true :: s) c I L w1 w2 t) nX := by
  refine Sp_of ok_X12_readAllOf rfl rfl ?_
  show AW S m_X12_readAllOf 24 _ _ 0 0 0 [some (.ref 420)] [] (hp I L w1 w2 t)
  refine a_l0 rfl rfl rfl ?_
  refine a_gV rfl lX12_202 mo_X12_readAtom (r_X12_readAtom_5 hw hc (by omega) hd h) rfl rfl rfl ⟨12, _, rfl, rfl, rfl⟩ rfl (fun v' h' hv => ?_)
  obtain ⟨z, J1, p1, n1, rfl, rfl, f1, hp1, hq1, hz1⟩ := hv
  refine a_if_ne rfl (fun cz => ?_) (fun _ => ?_)
  rotate_left
  · refine a_s rfl rfl ?_
    exact a_zret rfl rfl rfl (QC.no f1 hp1 hq1)
  have C1 := Cs.st (Cs.rf h) f1 hp1 (hz1 (bI_t cz))
  refine a_inv (n := e - p1) (fun m ls h => ls = [some (.ref 420)] ∧ ∃ J p' n', h = hp J L w1 w2 t ∧ Cs e p n a (true :: s) c I J p' n' ∧ m = e - p') ⟨rfl, J1, p1, n1, rfl, C1, rfl⟩ ?_
  rintro m _ _ ⟨rfl, J, p', n', rfl, C, hm⟩ ih
  refine a_l0 rfl rfl rfl ?_
  refine a_ldcs (q := 130 + 20) rfl (hw.ld (i := 20) (by decide)) ?_
  refine a_gV rfl lX12_128 mo_X12_passes (r_X12_passes (k := 20) hw (by decide) (Cs.pp C)) rfl rfl rfl ⟨12, _, rfl, rfl, rfl⟩ rfl (fun v' h' hv => ?_)
  obtain ⟨z2, b2, p2, J2, rfl, rfl, h2, hz2⟩ := hv
  refine a_if_eq rfl (fun _ => ?_) (fun cz2 => ?_)
  · refine a_s rfl rfl ?_
    exact a_zret rfl rfl rfl (QC.yes (Cs.rd C h2))
  have hlt := hz2 (bI_t cz2)
  have C2 := Cs.rd1 C h2 hlt
  have q2 := Rd.pb h2
  have q3 := Pp.le (Cs.pp C2)
  refine a_l0 rfl rfl rfl ?_
  refine a_gV rfl lX12_202 mo_X12_readAtom (r_X12_readAtom_5 hw (by omega) (by simp only [List.length_cons]; omega) (Cs.d C2 hd) (Cs.dq C2)) rfl rfl rfl ⟨12, _, rfl, rfl, rfl⟩ rfl (fun v' h' hv => ?_)
  obtain ⟨z3, J3, p3, n3, rfl, rfl, f3, hp3, hq3, hz3⟩ := hv
  refine a_if_ne rfl (fun cz3 => ?_) (fun _ => ?_)
  rotate_left
  · refine a_s rfl rfl ?_
    exact a_zret rfl rfl rfl (QC.fc C2 f3 hp3 hq3)
  have C3 := Cs.st C2 f3 hp3 (hz3 (bI_t cz3))
  have hle := Cs.ln C3
  refine a_l0 rfl rfl rfl ?_
  refine a_s rfl rfl ?_
  refine a_s rfl rfl ?_
  refine a_eV0 rfl lX12_180 mo_X12_emits (r_X12_emits (Dq.st (Cs.dq C3)) (by omega)) rfl rfl rfl ⟨12, _, rfl, rfl, rfl⟩ rfl ?_
  refine a_goto rfl ?_
  exact ih (e - p3) _ _ (by omega) ⟨rfl, _, p3, n3 + 1, rfl, Cs.em (k := 14) (m := 0) C3 (by decide) (by decide) rfl (by simp only [List.length_cons]; omega), rfl⟩
theorem r_X12_readCond_5 (hw : WdS S) (hc : 1 ≤ c) (hl : s.length + 7 ≤ 24) (hd : I 420 13 = nI 5) (h : Dq e p a n s c I) : Sp S m_X12_readCond 25 0 0 [.ref 420] (hp I L w1 w2 t) (QC e p n a (true :: s) c I L w1 w2 t) nX := by
  refine Sp_of ok_X12_readCond rfl rfl ?_
  show AW S m_X12_readCond 25 _ _ 0 0 0 [some (.ref 420)] [] (hp I L w1 w2 t)
  refine a_l0 rfl rfl rfl ?_
  refine a_gV rfl lX12_213 mo_X12_readAllOf (r_X12_readAllOf_5 hw hc (by omega) hd h) rfl rfl rfl ⟨12, _, rfl, rfl, rfl⟩ rfl (fun v' h' hv => ?_)
  obtain ⟨z, J1, p1, n1, rfl, rfl, f1, hp1, hq1, hz1⟩ := hv
  refine a_if_ne rfl (fun cz => ?_) (fun _ => ?_)
  rotate_left
  · refine a_s rfl rfl ?_
    exact a_zret rfl rfl rfl (QC.no f1 hp1 hq1)
  have C1 := Cs.st (Cs.rf h) f1 hp1 (hz1 (bI_t cz))
  refine a_inv (n := e - p1) (fun m ls h => ls = [some (.ref 420)] ∧ ∃ J p' n', h = hp J L w1 w2 t ∧ Cs e p n a (true :: s) c I J p' n' ∧ m = e - p') ⟨rfl, J1, p1, n1, rfl, C1, rfl⟩ ?_
  rintro m _ _ ⟨rfl, J, p', n', rfl, C, hm⟩ ih
  refine a_l0 rfl rfl rfl ?_
  refine a_ldcs (q := 130 + 19) rfl (hw.ld (i := 19) (by decide)) ?_
  refine a_gV rfl lX12_128 mo_X12_passes (r_X12_passes (k := 19) hw (by decide) (Cs.pp C)) rfl rfl rfl ⟨12, _, rfl, rfl, rfl⟩ rfl (fun v' h' hv => ?_)
  obtain ⟨z2, b2, p2, J2, rfl, rfl, h2, hz2⟩ := hv
  refine a_if_eq rfl (fun _ => ?_) (fun cz2 => ?_)
  · refine a_s rfl rfl ?_
    exact a_zret rfl rfl rfl (QC.yes (Cs.rd C h2))
  have hlt := hz2 (bI_t cz2)
  have C2 := Cs.rd1 C h2 hlt
  have q2 := Rd.pb h2
  have q3 := Pp.le (Cs.pp C2)
  refine a_l0 rfl rfl rfl ?_
  refine a_gV rfl lX12_213 mo_X12_readAllOf (r_X12_readAllOf_5 hw (by omega) (by simp only [List.length_cons]; omega) (Cs.d C2 hd) (Cs.dq C2)) rfl rfl rfl ⟨12, _, rfl, rfl, rfl⟩ rfl (fun v' h' hv => ?_)
  obtain ⟨z3, J3, p3, n3, rfl, rfl, f3, hp3, hq3, hz3⟩ := hv
  refine a_if_ne rfl (fun cz3 => ?_) (fun _ => ?_)
  rotate_left
  · refine a_s rfl rfl ?_
    exact a_zret rfl rfl rfl (QC.fc C2 f3 hp3 hq3)
  have C3 := Cs.st C2 f3 hp3 (hz3 (bI_t cz3))
  have hle := Cs.ln C3
  refine a_l0 rfl rfl rfl ?_
  refine a_s rfl rfl ?_
  refine a_s rfl rfl ?_
  refine a_eV0 rfl lX12_180 mo_X12_emits (r_X12_emits (Dq.st (Cs.dq C3)) (by omega)) rfl rfl rfl ⟨12, _, rfl, rfl, rfl⟩ rfl ?_
  refine a_goto rfl ?_
  exact ih (e - p3) _ _ (by omega) ⟨rfl, _, p3, n3 + 1, rfl, Cs.em (k := 15) (m := 0) C3 (by decide) (by decide) rfl (by simp only [List.length_cons]; omega), rfl⟩
theorem r_X12_readAtom_4 (hw : WdS S) (hc : 1 ≤ c) (hl : s.length + 7 ≤ 24) (hd : I 420 13 = nI 4) (h : Dq e p a n s c I) : Sp S m_X12_readAtom 26 0 0 [.ref 420] (hp I L w1 w2 t) (QC e p n a (true :: s) c I L w1 w2 t) nX := by
  refine Sp_of ok_X12_readAtom rfl rfl ?_
  show AW S m_X12_readAtom 26 _ _ 0 0 0 [some (.ref 420), none] [] (hp I L w1 w2 t)
  refine a_l0 rfl rfl rfl ?_
  refine a_s rfl rfl ?_
  refine a_gV rfl lX12_187 mo_X12_sign (r_X12_sign (Dq.pp h)) rfl rfl rfl ⟨12, _, rfl, rfl, rfl⟩ rfl (fun v' h' hv => ?_)
  obtain ⟨z, b1, p1, J1, rfl, rfl, h1, hz⟩ := hv
  have C1 := Cs.rd (Cs.rf h) h1
  clear hz
  refine a_if_eq rfl (fun _ => ?_) (fun cz => ?_)
  rotate_left
  · refine a_l0 rfl rfl rfl ?_
    refine a_geti rfl gfX12_194_12 rfl ?_
    refine a_top (y := nI 4) (Cs.d C1 hd) ?_
    refine a_s rfl rfl ?_
    refine a_ic_ne rfl (fun _ => ?_) (fun c => absurd c (by decide))
    refine a_l0 rfl rfl rfl ?_
    refine a_s rfl rfl ?_
    refine a_geti rfl gfX12_194_12 rfl ?_
    refine a_top (y := nI 4) (Cs.d C1 hd) ?_
    refine a_s rfl rfl ?_
    refine a_s rfl rfl ?_
    refine a_top (y := nI 5) (rfl) ?_
    refine a_puti rfl pfX12_194_12 rfl ?_
    refine a_l0 rfl rfl rfl ?_
    refine a_gV rfl lX12_197 mo_X12_readCond (r_X12_readCond_5 hw (by omega) (by omega) up2_at (Dq.up13 (Cs.dq C1))) rfl rfl rfl ⟨12, _, rfl, rfl, rfl⟩ rfl (fun v' h' hv => ?_)
    obtain ⟨z9, J9, p9, n9, rfl, rfl, f9, hp9, hq9, hz9⟩ := hv
    refine a_if_ne rfl (fun cz9 => ?_) (fun _ => ?_)
    rotate_left
    · refine a_s rfl rfl ?_
      exact a_zret rfl rfl rfl (QC.fc C1 (Fm.tr (Fm.up Fm.rf rfl) f9) hp9 hq9)
    obtain ⟨g13, gn, gq⟩ := hz9 (bI_t cz9)
    refine a_l0 rfl rfl rfl ?_
    refine a_s rfl rfl ?_
    refine a_geti rfl gfX12_194_12 rfl ?_
    refine a_top (y := nI 5) (g13.trans up2_at) ?_
    refine a_s rfl rfl ?_
    refine a_s rfl rfl ?_
    refine a_top (y := nI 4) (rfl) ?_
    refine a_puti rfl pfX12_194_12 rfl ?_
    have C9 := Cs.deep C1 hd f9 hp9 gn gq
    refine a_l0 rfl rfl rfl ?_
    refine a_s rfl rfl ?_
    refine a_gV rfl lX12_187 mo_X12_sign (r_X12_sign (Cs.pp C9)) rfl rfl rfl ⟨12, _, rfl, rfl, rfl⟩ rfl (fun v' h' hv => ?_)
    obtain ⟨z3, b3, p3, J3, rfl, rfl, h3, -⟩ := hv
    cases z3 with
    | false => exact a_zret rfl rfl rfl (QC.f0 (Cs.rd C9 h3))
    | true => exact a_zret rfl rfl rfl (QC.yes (Cs.rd C9 h3))
  refine a_l0 rfl rfl rfl ?_
  refine a_ldcs (q := 130 + 21) rfl (hw.ld (i := 21) (by decide)) ?_
  refine a_gV rfl lX12_128 mo_X12_passes (r_X12_passes (k := 21) hw (by decide) (Cs.pp C1)) rfl rfl rfl ⟨12, _, rfl, rfl, rfl⟩ rfl (fun v' h' hv => ?_)
  obtain ⟨z2, b2, p2, J2, rfl, rfl, h2, hz2⟩ := hv
  refine a_if_eq rfl (fun _ => ?_) (fun cz2 => ?_)
  rotate_left
  · have C2 := Cs.rd1 C1 h2 (hz2 (bI_t cz2))
    refine a_l0 rfl rfl rfl ?_
    refine a_geti rfl gfX12_194_12 rfl ?_
    refine a_top (y := nI 4) (Cs.d C2 hd) ?_
    refine a_s rfl rfl ?_
    refine a_ic_ne rfl (fun _ => ?_) (fun c => absurd c (by decide))
    refine a_l0 rfl rfl rfl ?_
    refine a_s rfl rfl ?_
    refine a_geti rfl gfX12_194_12 rfl ?_
    refine a_top (y := nI 4) (Cs.d C2 hd) ?_
    refine a_s rfl rfl ?_
    refine a_s rfl rfl ?_
    refine a_top (y := nI 5) (rfl) ?_
    refine a_puti rfl pfX12_194_12 rfl ?_
    refine a_l0 rfl rfl rfl ?_
    refine a_gV rfl lX12_202 mo_X12_readAtom (r_X12_readAtom_5 hw (by omega) (by omega) up2_at (Dq.up13 (Cs.dq C2))) rfl rfl rfl ⟨12, _, rfl, rfl, rfl⟩ rfl (fun v' h' hv => ?_)
    obtain ⟨z9, J9, p9, n9, rfl, rfl, f9, hp9, hq9, hz9⟩ := hv
    refine a_if_ne rfl (fun cz9 => ?_) (fun _ => ?_)
    rotate_left
    · refine a_s rfl rfl ?_
      exact a_zret rfl rfl rfl (QC.fc C2 (Fm.tr (Fm.up Fm.rf rfl) f9) hp9 hq9)
    obtain ⟨g13, gn, gq⟩ := hz9 (bI_t cz9)
    refine a_l0 rfl rfl rfl ?_
    refine a_s rfl rfl ?_
    refine a_geti rfl gfX12_194_12 rfl ?_
    refine a_top (y := nI 5) (g13.trans up2_at) ?_
    refine a_s rfl rfl ?_
    refine a_s rfl rfl ?_
    refine a_top (y := nI 4) (rfl) ?_
    refine a_puti rfl pfX12_194_12 rfl ?_
    have C9 := Cs.deep C2 hd f9 hp9 gn gq
    have hle := Cs.ln C9
    refine a_l0 rfl rfl rfl ?_
    refine a_s rfl rfl ?_
    refine a_s rfl rfl ?_
    refine a_eV0 rfl lX12_180 mo_X12_emits (r_X12_emits (Dq.st (Cs.dq C9)) (by omega)) rfl rfl rfl ⟨12, _, rfl, rfl, rfl⟩ rfl ?_
    refine a_s rfl rfl ?_
    exact a_zret rfl rfl rfl (QC.yes (Cs.em (k := 13) (m := 0) C9 (by decide) (by decide) rfl (by simp only [List.length_cons]; omega)))
  have C2 := Cs.rd C1 h2
  clear hz2
  refine a_l0 rfl rfl rfl ?_
  refine a_gV rfl lX12_205 mo_X12_readTag (r_X12_readTag hw (by omega) (Cs.dq C2)) rfl rfl rfl ⟨12, _, rfl, rfl, rfl⟩ rfl (fun v' h' hv => ?_)
  obtain ⟨z3, J3, p3, n3, rfl, rfl, ht3, hf3⟩ := hv
  refine a_if_eq rfl (fun cz3 => ?_) (fun cz3 => ?_)
  rotate_left
  · refine a_s rfl rfl ?_
    exact a_zret rfl rfl rfl (QC.yes (Cs.cc C2 (ht3 (bI_t cz3))))
  have C3 := Cs.cc C2 (hf3 (bI_f cz3))
  refine a_l0 rfl rfl rfl ?_
  refine a_gV rfl lX12_208 mo_X12_readSum (r_X12_readSum hw hc (by omega) (Cs.dq C3)) rfl rfl rfl ⟨12, _, rfl, rfl, rfl⟩ rfl (fun v' h' hv => ?_)
  obtain ⟨z4, J4, p4, n4, rfl, rfl, f4, hp4, hq4, hz4⟩ := hv
  refine a_if_ne rfl (fun cz4 => ?_) (fun _ => ?_)
  rotate_left
  · refine a_s rfl rfl ?_
    exact a_zret rfl rfl rfl (QC.fc C3 f4 hp4 hq4)
  have C4 := Cs.st C3 f4 hp4 (hz4 (bI_t cz4))
  have key : ∀ {z5 : Bool} {p' n' : Nat} {J : Nat → Nat → Int32}, Cs e p n a (false :: s) (c + 1) I J p' n' → AW S m_X12_readAtom 26 (QC e p n a (true :: s) c I L w1 w2 t) nX 0 0 152 [some (.ref 420), some (.int (bI z5))] [] (hp J L w1 w2 t) := by
    intro z5 p' n' J C
    refine a_l0 rfl rfl rfl ?_
    refine a_gV rfl lX12_208 mo_X12_readSum (r_X12_readSum hw (by omega) (by simp only [List.length_cons]; omega) (Cs.dq C)) rfl rfl rfl ⟨12, _, rfl, rfl, rfl⟩ rfl (fun v' h' hv => ?_)
    obtain ⟨z6, J6, p6, n6, rfl, rfl, f6, hp6, hq6, hz6⟩ := hv
    refine a_if_ne rfl (fun cz6 => ?_) (fun _ => ?_)
    rotate_left
    · refine a_s rfl rfl ?_
      exact a_zret rfl rfl rfl (QC.fc C f6 hp6 hq6)
    have C6 := Cs.st C f6 hp6 (hz6 (bI_t cz6))
    have hle := Cs.ln C6
    refine a_l0 rfl rfl rfl ?_
    refine a_l1 rfl rfl rfl ?_
    cases z5 with
    | false =>
      refine a_if_eq rfl (fun _ => ?_) (fun c => absurd rfl c)
      refine a_s rfl rfl ?_
      refine a_s rfl rfl ?_
      refine a_eV0 rfl lX12_180 mo_X12_emits (r_X12_emits (Dq.st (Cs.dq C6)) (by omega)) rfl rfl rfl ⟨12, _, rfl, rfl, rfl⟩ rfl ?_
      refine a_s rfl rfl ?_
      exact a_zret rfl rfl rfl (QC.yes (Cs.em (k := 12) (m := 0) C6 (by decide) (by decide) rfl (by simp only [List.length_cons]; omega)))
    | true =>
      refine a_if_eq rfl (fun c => absurd c (by decide)) (fun _ => ?_)
      refine a_s rfl rfl ?_
      refine a_goto rfl ?_
      refine a_s rfl rfl ?_
      refine a_eV0 rfl lX12_180 mo_X12_emits (r_X12_emits (Dq.st (Cs.dq C6)) (by omega)) rfl rfl rfl ⟨12, _, rfl, rfl, rfl⟩ rfl ?_
      refine a_s rfl rfl ?_
      exact a_zret rfl rfl rfl (QC.yes (Cs.em (k := 11) (m := 0) C6 (by decide) (by decide) rfl (by simp only [List.length_cons]; omega)))
  refine a_l0 rfl rfl rfl ?_
  refine a_s rfl rfl ?_
  refine a_gV rfl lX12_187 mo_X12_sign (r_X12_sign (Cs.pp C4)) rfl rfl rfl ⟨12, _, rfl, rfl, rfl⟩ rfl (fun v' h' hv => ?_)
  obtain ⟨z5, b5, p5, J5, rfl, rfl, h5, hz5⟩ := hv
  refine a_s1 rfl rfl rfl rfl rfl rfl ?_
  refine a_l1 rfl rfl rfl ?_
  refine a_if_ne rfl (fun cz5 => ?_) (fun _ => ?_)
  · exact key (Cs.rd1 C4 h5 (hz5 (bI_t cz5)))
  have C5 := Cs.rd C4 h5
  refine a_l0 rfl rfl rfl ?_
  refine a_s rfl rfl ?_
  refine a_gV rfl lX12_187 mo_X12_sign (r_X12_sign (Cs.pp C5)) rfl rfl rfl ⟨12, _, rfl, rfl, rfl⟩ rfl (fun v' h' hv => ?_)
  obtain ⟨z7, b7, p7, J7, rfl, rfl, h7, hz7⟩ := hv
  refine a_if_eq rfl (fun _ => ?_) (fun cz7 => ?_)
  · refine a_s rfl rfl ?_
    exact a_zret rfl rfl rfl (QC.f0 (Cs.rd C5 h7))
  · exact key (Cs.rd1 C5 h7 (hz7 (bI_t cz7)))
theorem r_X12_readAllOf_4 (hw : WdS S) (hc : 1 ≤ c) (hl : s.length + 8 ≤ 24) (hd : I 420 13 = nI 4) (h : Dq e p a n s c I) : Sp S m_X12_readAllOf 27 0 0 [.ref 420] (hp I L w1 w2 t) (QC e p n a (true :: s) c I L w1 w2 t) nX := by
  refine Sp_of ok_X12_readAllOf rfl rfl ?_
  show AW S m_X12_readAllOf 27 _ _ 0 0 0 [some (.ref 420)] [] (hp I L w1 w2 t)
  refine a_l0 rfl rfl rfl ?_
  refine a_gV rfl lX12_202 mo_X12_readAtom (r_X12_readAtom_4 hw hc (by omega) hd h) rfl rfl rfl ⟨12, _, rfl, rfl, rfl⟩ rfl (fun v' h' hv => ?_)
  obtain ⟨z, J1, p1, n1, rfl, rfl, f1, hp1, hq1, hz1⟩ := hv
  refine a_if_ne rfl (fun cz => ?_) (fun _ => ?_)
  rotate_left
  · refine a_s rfl rfl ?_
    exact a_zret rfl rfl rfl (QC.no f1 hp1 hq1)
  have C1 := Cs.st (Cs.rf h) f1 hp1 (hz1 (bI_t cz))
  refine a_inv (n := e - p1) (fun m ls h => ls = [some (.ref 420)] ∧ ∃ J p' n', h = hp J L w1 w2 t ∧ Cs e p n a (true :: s) c I J p' n' ∧ m = e - p') ⟨rfl, J1, p1, n1, rfl, C1, rfl⟩ ?_
  rintro m _ _ ⟨rfl, J, p', n', rfl, C, hm⟩ ih
  refine a_l0 rfl rfl rfl ?_
  refine a_ldcs (q := 130 + 20) rfl (hw.ld (i := 20) (by decide)) ?_
  refine a_gV rfl lX12_128 mo_X12_passes (r_X12_passes (k := 20) hw (by decide) (Cs.pp C)) rfl rfl rfl ⟨12, _, rfl, rfl, rfl⟩ rfl (fun v' h' hv => ?_)
  obtain ⟨z2, b2, p2, J2, rfl, rfl, h2, hz2⟩ := hv
  refine a_if_eq rfl (fun _ => ?_) (fun cz2 => ?_)
  · refine a_s rfl rfl ?_
    exact a_zret rfl rfl rfl (QC.yes (Cs.rd C h2))
  have hlt := hz2 (bI_t cz2)
  have C2 := Cs.rd1 C h2 hlt
  have q2 := Rd.pb h2
  have q3 := Pp.le (Cs.pp C2)
  refine a_l0 rfl rfl rfl ?_
  refine a_gV rfl lX12_202 mo_X12_readAtom (r_X12_readAtom_4 hw (by omega) (by simp only [List.length_cons]; omega) (Cs.d C2 hd) (Cs.dq C2)) rfl rfl rfl ⟨12, _, rfl, rfl, rfl⟩ rfl (fun v' h' hv => ?_)
  obtain ⟨z3, J3, p3, n3, rfl, rfl, f3, hp3, hq3, hz3⟩ := hv
  refine a_if_ne rfl (fun cz3 => ?_) (fun _ => ?_)
  rotate_left
  · refine a_s rfl rfl ?_
    exact a_zret rfl rfl rfl (QC.fc C2 f3 hp3 hq3)
  have C3 := Cs.st C2 f3 hp3 (hz3 (bI_t cz3))
  have hle := Cs.ln C3
  refine a_l0 rfl rfl rfl ?_
  refine a_s rfl rfl ?_
  refine a_s rfl rfl ?_
  refine a_eV0 rfl lX12_180 mo_X12_emits (r_X12_emits (Dq.st (Cs.dq C3)) (by omega)) rfl rfl rfl ⟨12, _, rfl, rfl, rfl⟩ rfl ?_
  refine a_goto rfl ?_
  exact ih (e - p3) _ _ (by omega) ⟨rfl, _, p3, n3 + 1, rfl, Cs.em (k := 14) (m := 0) C3 (by decide) (by decide) rfl (by simp only [List.length_cons]; omega), rfl⟩
theorem r_X12_readCond_4 (hw : WdS S) (hc : 1 ≤ c) (hl : s.length + 9 ≤ 24) (hd : I 420 13 = nI 4) (h : Dq e p a n s c I) : Sp S m_X12_readCond 28 0 0 [.ref 420] (hp I L w1 w2 t) (QC e p n a (true :: s) c I L w1 w2 t) nX := by
  refine Sp_of ok_X12_readCond rfl rfl ?_
  show AW S m_X12_readCond 28 _ _ 0 0 0 [some (.ref 420)] [] (hp I L w1 w2 t)
  refine a_l0 rfl rfl rfl ?_
  refine a_gV rfl lX12_213 mo_X12_readAllOf (r_X12_readAllOf_4 hw hc (by omega) hd h) rfl rfl rfl ⟨12, _, rfl, rfl, rfl⟩ rfl (fun v' h' hv => ?_)
  obtain ⟨z, J1, p1, n1, rfl, rfl, f1, hp1, hq1, hz1⟩ := hv
  refine a_if_ne rfl (fun cz => ?_) (fun _ => ?_)
  rotate_left
  · refine a_s rfl rfl ?_
    exact a_zret rfl rfl rfl (QC.no f1 hp1 hq1)
  have C1 := Cs.st (Cs.rf h) f1 hp1 (hz1 (bI_t cz))
  refine a_inv (n := e - p1) (fun m ls h => ls = [some (.ref 420)] ∧ ∃ J p' n', h = hp J L w1 w2 t ∧ Cs e p n a (true :: s) c I J p' n' ∧ m = e - p') ⟨rfl, J1, p1, n1, rfl, C1, rfl⟩ ?_
  rintro m _ _ ⟨rfl, J, p', n', rfl, C, hm⟩ ih
  refine a_l0 rfl rfl rfl ?_
  refine a_ldcs (q := 130 + 19) rfl (hw.ld (i := 19) (by decide)) ?_
  refine a_gV rfl lX12_128 mo_X12_passes (r_X12_passes (k := 19) hw (by decide) (Cs.pp C)) rfl rfl rfl ⟨12, _, rfl, rfl, rfl⟩ rfl (fun v' h' hv => ?_)
  obtain ⟨z2, b2, p2, J2, rfl, rfl, h2, hz2⟩ := hv
  refine a_if_eq rfl (fun _ => ?_) (fun cz2 => ?_)
  · refine a_s rfl rfl ?_
    exact a_zret rfl rfl rfl (QC.yes (Cs.rd C h2))
  have hlt := hz2 (bI_t cz2)
  have C2 := Cs.rd1 C h2 hlt
  have q2 := Rd.pb h2
  have q3 := Pp.le (Cs.pp C2)
  refine a_l0 rfl rfl rfl ?_
  refine a_gV rfl lX12_213 mo_X12_readAllOf (r_X12_readAllOf_4 hw (by omega) (by simp only [List.length_cons]; omega) (Cs.d C2 hd) (Cs.dq C2)) rfl rfl rfl ⟨12, _, rfl, rfl, rfl⟩ rfl (fun v' h' hv => ?_)
  obtain ⟨z3, J3, p3, n3, rfl, rfl, f3, hp3, hq3, hz3⟩ := hv
  refine a_if_ne rfl (fun cz3 => ?_) (fun _ => ?_)
  rotate_left
  · refine a_s rfl rfl ?_
    exact a_zret rfl rfl rfl (QC.fc C2 f3 hp3 hq3)
  have C3 := Cs.st C2 f3 hp3 (hz3 (bI_t cz3))
  have hle := Cs.ln C3
  refine a_l0 rfl rfl rfl ?_
  refine a_s rfl rfl ?_
  refine a_s rfl rfl ?_
  refine a_eV0 rfl lX12_180 mo_X12_emits (r_X12_emits (Dq.st (Cs.dq C3)) (by omega)) rfl rfl rfl ⟨12, _, rfl, rfl, rfl⟩ rfl ?_
  refine a_goto rfl ?_
  exact ih (e - p3) _ _ (by omega) ⟨rfl, _, p3, n3 + 1, rfl, Cs.em (k := 15) (m := 0) C3 (by decide) (by decide) rfl (by simp only [List.length_cons]; omega), rfl⟩
theorem r_X12_readAtom_3 (hw : WdS S) (hc : 1 ≤ c) (hl : s.length + 9 ≤ 24) (hd : I 420 13 = nI 3) (h : Dq e p a n s c I) : Sp S m_X12_readAtom 29 0 0 [.ref 420] (hp I L w1 w2 t) (QC e p n a (true :: s) c I L w1 w2 t) nX := by
  refine Sp_of ok_X12_readAtom rfl rfl ?_
  show AW S m_X12_readAtom 29 _ _ 0 0 0 [some (.ref 420), none] [] (hp I L w1 w2 t)
  refine a_l0 rfl rfl rfl ?_
  refine a_s rfl rfl ?_
  refine a_gV rfl lX12_187 mo_X12_sign (r_X12_sign (Dq.pp h)) rfl rfl rfl ⟨12, _, rfl, rfl, rfl⟩ rfl (fun v' h' hv => ?_)
  obtain ⟨z, b1, p1, J1, rfl, rfl, h1, hz⟩ := hv
  have C1 := Cs.rd (Cs.rf h) h1
  clear hz
  refine a_if_eq rfl (fun _ => ?_) (fun cz => ?_)
  rotate_left
  · refine a_l0 rfl rfl rfl ?_
    refine a_geti rfl gfX12_194_12 rfl ?_
    refine a_top (y := nI 3) (Cs.d C1 hd) ?_
    refine a_s rfl rfl ?_
    refine a_ic_ne rfl (fun _ => ?_) (fun c => absurd c (by decide))
    refine a_l0 rfl rfl rfl ?_
    refine a_s rfl rfl ?_
    refine a_geti rfl gfX12_194_12 rfl ?_
    refine a_top (y := nI 3) (Cs.d C1 hd) ?_
    refine a_s rfl rfl ?_
    refine a_s rfl rfl ?_
    refine a_top (y := nI 4) (rfl) ?_
    refine a_puti rfl pfX12_194_12 rfl ?_
    refine a_l0 rfl rfl rfl ?_
    refine a_gV rfl lX12_197 mo_X12_readCond (r_X12_readCond_4 hw (by omega) (by omega) up2_at (Dq.up13 (Cs.dq C1))) rfl rfl rfl ⟨12, _, rfl, rfl, rfl⟩ rfl (fun v' h' hv => ?_)
    obtain ⟨z9, J9, p9, n9, rfl, rfl, f9, hp9, hq9, hz9⟩ := hv
    refine a_if_ne rfl (fun cz9 => ?_) (fun _ => ?_)
    rotate_left
    · refine a_s rfl rfl ?_
      exact a_zret rfl rfl rfl (QC.fc C1 (Fm.tr (Fm.up Fm.rf rfl) f9) hp9 hq9)
    obtain ⟨g13, gn, gq⟩ := hz9 (bI_t cz9)
    refine a_l0 rfl rfl rfl ?_
    refine a_s rfl rfl ?_
    refine a_geti rfl gfX12_194_12 rfl ?_
    refine a_top (y := nI 4) (g13.trans up2_at) ?_
    refine a_s rfl rfl ?_
    refine a_s rfl rfl ?_
    refine a_top (y := nI 3) (rfl) ?_
    refine a_puti rfl pfX12_194_12 rfl ?_
    have C9 := Cs.deep C1 hd f9 hp9 gn gq
    refine a_l0 rfl rfl rfl ?_
    refine a_s rfl rfl ?_
    refine a_gV rfl lX12_187 mo_X12_sign (r_X12_sign (Cs.pp C9)) rfl rfl rfl ⟨12, _, rfl, rfl, rfl⟩ rfl (fun v' h' hv => ?_)
    obtain ⟨z3, b3, p3, J3, rfl, rfl, h3, -⟩ := hv
    cases z3 with
    | false => exact a_zret rfl rfl rfl (QC.f0 (Cs.rd C9 h3))
    | true => exact a_zret rfl rfl rfl (QC.yes (Cs.rd C9 h3))
  refine a_l0 rfl rfl rfl ?_
  refine a_ldcs (q := 130 + 21) rfl (hw.ld (i := 21) (by decide)) ?_
  refine a_gV rfl lX12_128 mo_X12_passes (r_X12_passes (k := 21) hw (by decide) (Cs.pp C1)) rfl rfl rfl ⟨12, _, rfl, rfl, rfl⟩ rfl (fun v' h' hv => ?_)
  obtain ⟨z2, b2, p2, J2, rfl, rfl, h2, hz2⟩ := hv
  refine a_if_eq rfl (fun _ => ?_) (fun cz2 => ?_)
  rotate_left
  · have C2 := Cs.rd1 C1 h2 (hz2 (bI_t cz2))
    refine a_l0 rfl rfl rfl ?_
    refine a_geti rfl gfX12_194_12 rfl ?_
    refine a_top (y := nI 3) (Cs.d C2 hd) ?_
    refine a_s rfl rfl ?_
    refine a_ic_ne rfl (fun _ => ?_) (fun c => absurd c (by decide))
    refine a_l0 rfl rfl rfl ?_
    refine a_s rfl rfl ?_
    refine a_geti rfl gfX12_194_12 rfl ?_
    refine a_top (y := nI 3) (Cs.d C2 hd) ?_
    refine a_s rfl rfl ?_
    refine a_s rfl rfl ?_
    refine a_top (y := nI 4) (rfl) ?_
    refine a_puti rfl pfX12_194_12 rfl ?_
    refine a_l0 rfl rfl rfl ?_
    refine a_gV rfl lX12_202 mo_X12_readAtom (r_X12_readAtom_4 hw (by omega) (by omega) up2_at (Dq.up13 (Cs.dq C2))) rfl rfl rfl ⟨12, _, rfl, rfl, rfl⟩ rfl (fun v' h' hv => ?_)
    obtain ⟨z9, J9, p9, n9, rfl, rfl, f9, hp9, hq9, hz9⟩ := hv
    refine a_if_ne rfl (fun cz9 => ?_) (fun _ => ?_)
    rotate_left
    · refine a_s rfl rfl ?_
      exact a_zret rfl rfl rfl (QC.fc C2 (Fm.tr (Fm.up Fm.rf rfl) f9) hp9 hq9)
    obtain ⟨g13, gn, gq⟩ := hz9 (bI_t cz9)
    refine a_l0 rfl rfl rfl ?_
    refine a_s rfl rfl ?_
    refine a_geti rfl gfX12_194_12 rfl ?_
    refine a_top (y := nI 4) (g13.trans up2_at) ?_
    refine a_s rfl rfl ?_
    refine a_s rfl rfl ?_
    refine a_top (y := nI 3) (rfl) ?_
    refine a_puti rfl pfX12_194_12 rfl ?_
    have C9 := Cs.deep C2 hd f9 hp9 gn gq
    have hle := Cs.ln C9
    refine a_l0 rfl rfl rfl ?_
    refine a_s rfl rfl ?_
    refine a_s rfl rfl ?_
    refine a_eV0 rfl lX12_180 mo_X12_emits (r_X12_emits (Dq.st (Cs.dq C9)) (by omega)) rfl rfl rfl ⟨12, _, rfl, rfl, rfl⟩ rfl ?_
    refine a_s rfl rfl ?_
    exact a_zret rfl rfl rfl (QC.yes (Cs.em (k := 13) (m := 0) C9 (by decide) (by decide) rfl (by simp only [List.length_cons]; omega)))
  have C2 := Cs.rd C1 h2
  clear hz2
  refine a_l0 rfl rfl rfl ?_
  refine a_gV rfl lX12_205 mo_X12_readTag (r_X12_readTag hw (by omega) (Cs.dq C2)) rfl rfl rfl ⟨12, _, rfl, rfl, rfl⟩ rfl (fun v' h' hv => ?_)
  obtain ⟨z3, J3, p3, n3, rfl, rfl, ht3, hf3⟩ := hv
  refine a_if_eq rfl (fun cz3 => ?_) (fun cz3 => ?_)
  rotate_left
  · refine a_s rfl rfl ?_
    exact a_zret rfl rfl rfl (QC.yes (Cs.cc C2 (ht3 (bI_t cz3))))
  have C3 := Cs.cc C2 (hf3 (bI_f cz3))
  refine a_l0 rfl rfl rfl ?_
  refine a_gV rfl lX12_208 mo_X12_readSum (r_X12_readSum hw hc (by omega) (Cs.dq C3)) rfl rfl rfl ⟨12, _, rfl, rfl, rfl⟩ rfl (fun v' h' hv => ?_)
  obtain ⟨z4, J4, p4, n4, rfl, rfl, f4, hp4, hq4, hz4⟩ := hv
  refine a_if_ne rfl (fun cz4 => ?_) (fun _ => ?_)
  rotate_left
  · refine a_s rfl rfl ?_
    exact a_zret rfl rfl rfl (QC.fc C3 f4 hp4 hq4)
  have C4 := Cs.st C3 f4 hp4 (hz4 (bI_t cz4))
  have key : ∀ {z5 : Bool} {p' n' : Nat} {J : Nat → Nat → Int32}, Cs e p n a (false :: s) (c + 1) I J p' n' → AW S m_X12_readAtom 29 (QC e p n a (true :: s) c I L w1 w2 t) nX 0 0 152 [some (.ref 420), some (.int (bI z5))] [] (hp J L w1 w2 t) := by
    intro z5 p' n' J C
    refine a_l0 rfl rfl rfl ?_
    refine a_gV rfl lX12_208 mo_X12_readSum (r_X12_readSum hw (by omega) (by simp only [List.length_cons]; omega) (Cs.dq C)) rfl rfl rfl ⟨12, _, rfl, rfl, rfl⟩ rfl (fun v' h' hv => ?_)
    obtain ⟨z6, J6, p6, n6, rfl, rfl, f6, hp6, hq6, hz6⟩ := hv
    refine a_if_ne rfl (fun cz6 => ?_) (fun _ => ?_)
    rotate_left
    · refine a_s rfl rfl ?_
      exact a_zret rfl rfl rfl (QC.fc C f6 hp6 hq6)
    have C6 := Cs.st C f6 hp6 (hz6 (bI_t cz6))
    have hle := Cs.ln C6
    refine a_l0 rfl rfl rfl ?_
    refine a_l1 rfl rfl rfl ?_
    cases z5 with
    | false =>
      refine a_if_eq rfl (fun _ => ?_) (fun c => absurd rfl c)
      refine a_s rfl rfl ?_
      refine a_s rfl rfl ?_
      refine a_eV0 rfl lX12_180 mo_X12_emits (r_X12_emits (Dq.st (Cs.dq C6)) (by omega)) rfl rfl rfl ⟨12, _, rfl, rfl, rfl⟩ rfl ?_
      refine a_s rfl rfl ?_
      exact a_zret rfl rfl rfl (QC.yes (Cs.em (k := 12) (m := 0) C6 (by decide) (by decide) rfl (by simp only [List.length_cons]; omega)))
    | true =>
      refine a_if_eq rfl (fun c => absurd c (by decide)) (fun _ => ?_)
      refine a_s rfl rfl ?_
      refine a_goto rfl ?_
      refine a_s rfl rfl ?_
      refine a_eV0 rfl lX12_180 mo_X12_emits (r_X12_emits (Dq.st (Cs.dq C6)) (by omega)) rfl rfl rfl ⟨12, _, rfl, rfl, rfl⟩ rfl ?_
      refine a_s rfl rfl ?_
      exact a_zret rfl rfl rfl (QC.yes (Cs.em (k := 11) (m := 0) C6 (by decide) (by decide) rfl (by simp only [List.length_cons]; omega)))
  refine a_l0 rfl rfl rfl ?_
  refine a_s rfl rfl ?_
  refine a_gV rfl lX12_187 mo_X12_sign (r_X12_sign (Cs.pp C4)) rfl rfl rfl ⟨12, _, rfl, rfl, rfl⟩ rfl (fun v' h' hv => ?_)
  obtain ⟨z5, b5, p5, J5, rfl, rfl, h5, hz5⟩ := hv
  refine a_s1 rfl rfl rfl rfl rfl rfl ?_
  refine a_l1 rfl rfl rfl ?_
  refine a_if_ne rfl (fun cz5 => ?_) (fun _ => ?_)
  · exact key (Cs.rd1 C4 h5 (hz5 (bI_t cz5)))
  have C5 := Cs.rd C4 h5
  refine a_l0 rfl rfl rfl ?_
  refine a_s rfl rfl ?_
  refine a_gV rfl lX12_187 mo_X12_sign (r_X12_sign (Cs.pp C5)) rfl rfl rfl ⟨12, _, rfl, rfl, rfl⟩ rfl (fun v' h' hv => ?_)
  obtain ⟨z7, b7, p7, J7, rfl, rfl, h7, hz7⟩ := hv
  refine a_if_eq rfl (fun _ => ?_) (fun cz7 => ?_)
  · refine a_s rfl rfl ?_
    exact a_zret rfl rfl rfl (QC.f0 (Cs.rd C5 h7))
  · exact key (Cs.rd1 C5 h7 (hz7 (bI_t cz7)))
theorem r_X12_readAllOf_3 (hw : WdS S) (hc : 1 ≤ c) (hl : s.length + 10 ≤ 24) (hd : I 420 13 = nI 3) (h : Dq e p a n s c I) : Sp S m_X12_readAllOf 30 0 0 [.ref 420] (hp I L w1 w2 t) (QC e p n a (true :: s) c I L w1 w2 t) nX := by
  refine Sp_of ok_X12_readAllOf rfl rfl ?_
  show AW S m_X12_readAllOf 30 _ _ 0 0 0 [some (.ref 420)] [] (hp I L w1 w2 t)
  refine a_l0 rfl rfl rfl ?_
  refine a_gV rfl lX12_202 mo_X12_readAtom (r_X12_readAtom_3 hw hc (by omega) hd h) rfl rfl rfl ⟨12, _, rfl, rfl, rfl⟩ rfl (fun v' h' hv => ?_)
  obtain ⟨z, J1, p1, n1, rfl, rfl, f1, hp1, hq1, hz1⟩ := hv
  refine a_if_ne rfl (fun cz => ?_) (fun _ => ?_)
  rotate_left
  · refine a_s rfl rfl ?_
    exact a_zret rfl rfl rfl (QC.no f1 hp1 hq1)
  have C1 := Cs.st (Cs.rf h) f1 hp1 (hz1 (bI_t cz))
  refine a_inv (n := e - p1) (fun m ls h => ls = [some (.ref 420)] ∧ ∃ J p' n', h = hp J L w1 w2 t ∧ Cs e p n a (true :: s) c I J p' n' ∧ m = e - p') ⟨rfl, J1, p1, n1, rfl, C1, rfl⟩ ?_
  rintro m _ _ ⟨rfl, J, p', n', rfl, C, hm⟩ ih
  refine a_l0 rfl rfl rfl ?_
  refine a_ldcs (q := 130 + 20) rfl (hw.ld (i := 20) (by decide)) ?_
  refine a_gV rfl lX12_128 mo_X12_passes (r_X12_passes (k := 20) hw (by decide) (Cs.pp C)) rfl rfl rfl ⟨12, _, rfl, rfl, rfl⟩ rfl (fun v' h' hv => ?_)
  obtain ⟨z2, b2, p2, J2, rfl, rfl, h2, hz2⟩ := hv
  refine a_if_eq rfl (fun _ => ?_) (fun cz2 => ?_)
  · refine a_s rfl rfl ?_
    exact a_zret rfl rfl rfl (QC.yes (Cs.rd C h2))
  have hlt := hz2 (bI_t cz2)
  have C2 := Cs.rd1 C h2 hlt
  have q2 := Rd.pb h2
  have q3 := Pp.le (Cs.pp C2)
  refine a_l0 rfl rfl rfl ?_
  refine a_gV rfl lX12_202 mo_X12_readAtom (r_X12_readAtom_3 hw (by omega) (by simp only [List.length_cons]; omega) (Cs.d C2 hd) (Cs.dq C2)) rfl rfl rfl ⟨12, _, rfl, rfl, rfl⟩ rfl (fun v' h' hv => ?_)
  obtain ⟨z3, J3, p3, n3, rfl, rfl, f3, hp3, hq3, hz3⟩ := hv
  refine a_if_ne rfl (fun cz3 => ?_) (fun _ => ?_)
  rotate_left
  · refine a_s rfl rfl ?_
    exact a_zret rfl rfl rfl (QC.fc C2 f3 hp3 hq3)
  have C3 := Cs.st C2 f3 hp3 (hz3 (bI_t cz3))
  have hle := Cs.ln C3
  refine a_l0 rfl rfl rfl ?_
  refine a_s rfl rfl ?_
  refine a_s rfl rfl ?_
  refine a_eV0 rfl lX12_180 mo_X12_emits (r_X12_emits (Dq.st (Cs.dq C3)) (by omega)) rfl rfl rfl ⟨12, _, rfl, rfl, rfl⟩ rfl ?_
  refine a_goto rfl ?_
  exact ih (e - p3) _ _ (by omega) ⟨rfl, _, p3, n3 + 1, rfl, Cs.em (k := 14) (m := 0) C3 (by decide) (by decide) rfl (by simp only [List.length_cons]; omega), rfl⟩
theorem r_X12_readCond_3 (hw : WdS S) (hc : 1 ≤ c) (hl : s.length + 11 ≤ 24) (hd : I 420 13 = nI 3) (h : Dq e p a n s c I) : Sp S m_X12_readCond 31 0 0 [.ref 420] (hp I L w1 w2 t) (QC e p n a (true :: s) c I L w1 w2 t) nX := by
  refine Sp_of ok_X12_readCond rfl rfl ?_
  show AW S m_X12_readCond 31 _ _ 0 0 0 [some (.ref 420)] [] (hp I L w1 w2 t)
  refine a_l0 rfl rfl rfl ?_
  refine a_gV rfl lX12_213 mo_X12_readAllOf (r_X12_readAllOf_3 hw hc (by omega) hd h) rfl rfl rfl ⟨12, _, rfl, rfl, rfl⟩ rfl (fun v' h' hv => ?_)
  obtain ⟨z, J1, p1, n1, rfl, rfl, f1, hp1, hq1, hz1⟩ := hv
  refine a_if_ne rfl (fun cz => ?_) (fun _ => ?_)
  rotate_left
  · refine a_s rfl rfl ?_
    exact a_zret rfl rfl rfl (QC.no f1 hp1 hq1)
  have C1 := Cs.st (Cs.rf h) f1 hp1 (hz1 (bI_t cz))
  refine a_inv (n := e - p1) (fun m ls h => ls = [some (.ref 420)] ∧ ∃ J p' n', h = hp J L w1 w2 t ∧ Cs e p n a (true :: s) c I J p' n' ∧ m = e - p') ⟨rfl, J1, p1, n1, rfl, C1, rfl⟩ ?_
  rintro m _ _ ⟨rfl, J, p', n', rfl, C, hm⟩ ih
  refine a_l0 rfl rfl rfl ?_
  refine a_ldcs (q := 130 + 19) rfl (hw.ld (i := 19) (by decide)) ?_
  refine a_gV rfl lX12_128 mo_X12_passes (r_X12_passes (k := 19) hw (by decide) (Cs.pp C)) rfl rfl rfl ⟨12, _, rfl, rfl, rfl⟩ rfl (fun v' h' hv => ?_)
  obtain ⟨z2, b2, p2, J2, rfl, rfl, h2, hz2⟩ := hv
  refine a_if_eq rfl (fun _ => ?_) (fun cz2 => ?_)
  · refine a_s rfl rfl ?_
    exact a_zret rfl rfl rfl (QC.yes (Cs.rd C h2))
  have hlt := hz2 (bI_t cz2)
  have C2 := Cs.rd1 C h2 hlt
  have q2 := Rd.pb h2
  have q3 := Pp.le (Cs.pp C2)
  refine a_l0 rfl rfl rfl ?_
  refine a_gV rfl lX12_213 mo_X12_readAllOf (r_X12_readAllOf_3 hw (by omega) (by simp only [List.length_cons]; omega) (Cs.d C2 hd) (Cs.dq C2)) rfl rfl rfl ⟨12, _, rfl, rfl, rfl⟩ rfl (fun v' h' hv => ?_)
  obtain ⟨z3, J3, p3, n3, rfl, rfl, f3, hp3, hq3, hz3⟩ := hv
  refine a_if_ne rfl (fun cz3 => ?_) (fun _ => ?_)
  rotate_left
  · refine a_s rfl rfl ?_
    exact a_zret rfl rfl rfl (QC.fc C2 f3 hp3 hq3)
  have C3 := Cs.st C2 f3 hp3 (hz3 (bI_t cz3))
  have hle := Cs.ln C3
  refine a_l0 rfl rfl rfl ?_
  refine a_s rfl rfl ?_
  refine a_s rfl rfl ?_
  refine a_eV0 rfl lX12_180 mo_X12_emits (r_X12_emits (Dq.st (Cs.dq C3)) (by omega)) rfl rfl rfl ⟨12, _, rfl, rfl, rfl⟩ rfl ?_
  refine a_goto rfl ?_
  exact ih (e - p3) _ _ (by omega) ⟨rfl, _, p3, n3 + 1, rfl, Cs.em (k := 15) (m := 0) C3 (by decide) (by decide) rfl (by simp only [List.length_cons]; omega), rfl⟩
theorem r_X12_readAtom_2 (hw : WdS S) (hc : 1 ≤ c) (hl : s.length + 11 ≤ 24) (hd : I 420 13 = nI 2) (h : Dq e p a n s c I) : Sp S m_X12_readAtom 32 0 0 [.ref 420] (hp I L w1 w2 t) (QC e p n a (true :: s) c I L w1 w2 t) nX := by
  refine Sp_of ok_X12_readAtom rfl rfl ?_
  show AW S m_X12_readAtom 32 _ _ 0 0 0 [some (.ref 420), none] [] (hp I L w1 w2 t)
  refine a_l0 rfl rfl rfl ?_
  refine a_s rfl rfl ?_
  refine a_gV rfl lX12_187 mo_X12_sign (r_X12_sign (Dq.pp h)) rfl rfl rfl ⟨12, _, rfl, rfl, rfl⟩ rfl (fun v' h' hv => ?_)
  obtain ⟨z, b1, p1, J1, rfl, rfl, h1, hz⟩ := hv
  have C1 := Cs.rd (Cs.rf h) h1
  clear hz
  refine a_if_eq rfl (fun _ => ?_) (fun cz => ?_)
  rotate_left
  · refine a_l0 rfl rfl rfl ?_
    refine a_geti rfl gfX12_194_12 rfl ?_
    refine a_top (y := nI 2) (Cs.d C1 hd) ?_
    refine a_s rfl rfl ?_
    refine a_ic_ne rfl (fun _ => ?_) (fun c => absurd c (by decide))
    refine a_l0 rfl rfl rfl ?_
    refine a_s rfl rfl ?_
    refine a_geti rfl gfX12_194_12 rfl ?_
    refine a_top (y := nI 2) (Cs.d C1 hd) ?_
    refine a_s rfl rfl ?_
    refine a_s rfl rfl ?_
    refine a_top (y := nI 3) (rfl) ?_
    refine a_puti rfl pfX12_194_12 rfl ?_
    refine a_l0 rfl rfl rfl ?_
    refine a_gV rfl lX12_197 mo_X12_readCond (r_X12_readCond_3 hw (by omega) (by omega) up2_at (Dq.up13 (Cs.dq C1))) rfl rfl rfl ⟨12, _, rfl, rfl, rfl⟩ rfl (fun v' h' hv => ?_)
    obtain ⟨z9, J9, p9, n9, rfl, rfl, f9, hp9, hq9, hz9⟩ := hv
    refine a_if_ne rfl (fun cz9 => ?_) (fun _ => ?_)
    rotate_left
    · refine a_s rfl rfl ?_
      exact a_zret rfl rfl rfl (QC.fc C1 (Fm.tr (Fm.up Fm.rf rfl) f9) hp9 hq9)
    obtain ⟨g13, gn, gq⟩ := hz9 (bI_t cz9)
    refine a_l0 rfl rfl rfl ?_
    refine a_s rfl rfl ?_
    refine a_geti rfl gfX12_194_12 rfl ?_
    refine a_top (y := nI 3) (g13.trans up2_at) ?_
    refine a_s rfl rfl ?_
    refine a_s rfl rfl ?_
    refine a_top (y := nI 2) (rfl) ?_
    refine a_puti rfl pfX12_194_12 rfl ?_
    have C9 := Cs.deep C1 hd f9 hp9 gn gq
    refine a_l0 rfl rfl rfl ?_
    refine a_s rfl rfl ?_
    refine a_gV rfl lX12_187 mo_X12_sign (r_X12_sign (Cs.pp C9)) rfl rfl rfl ⟨12, _, rfl, rfl, rfl⟩ rfl (fun v' h' hv => ?_)
    obtain ⟨z3, b3, p3, J3, rfl, rfl, h3, -⟩ := hv
    cases z3 with
    | false => exact a_zret rfl rfl rfl (QC.f0 (Cs.rd C9 h3))
    | true => exact a_zret rfl rfl rfl (QC.yes (Cs.rd C9 h3))
  refine a_l0 rfl rfl rfl ?_
  refine a_ldcs (q := 130 + 21) rfl (hw.ld (i := 21) (by decide)) ?_
  refine a_gV rfl lX12_128 mo_X12_passes (r_X12_passes (k := 21) hw (by decide) (Cs.pp C1)) rfl rfl rfl ⟨12, _, rfl, rfl, rfl⟩ rfl (fun v' h' hv => ?_)
  obtain ⟨z2, b2, p2, J2, rfl, rfl, h2, hz2⟩ := hv
  refine a_if_eq rfl (fun _ => ?_) (fun cz2 => ?_)
  rotate_left
  · have C2 := Cs.rd1 C1 h2 (hz2 (bI_t cz2))
    refine a_l0 rfl rfl rfl ?_
    refine a_geti rfl gfX12_194_12 rfl ?_
    refine a_top (y := nI 2) (Cs.d C2 hd) ?_
    refine a_s rfl rfl ?_
    refine a_ic_ne rfl (fun _ => ?_) (fun c => absurd c (by decide))
    refine a_l0 rfl rfl rfl ?_
    refine a_s rfl rfl ?_
    refine a_geti rfl gfX12_194_12 rfl ?_
    refine a_top (y := nI 2) (Cs.d C2 hd) ?_
    refine a_s rfl rfl ?_
    refine a_s rfl rfl ?_
    refine a_top (y := nI 3) (rfl) ?_
    refine a_puti rfl pfX12_194_12 rfl ?_
    refine a_l0 rfl rfl rfl ?_
    refine a_gV rfl lX12_202 mo_X12_readAtom (r_X12_readAtom_3 hw (by omega) (by omega) up2_at (Dq.up13 (Cs.dq C2))) rfl rfl rfl ⟨12, _, rfl, rfl, rfl⟩ rfl (fun v' h' hv => ?_)
    obtain ⟨z9, J9, p9, n9, rfl, rfl, f9, hp9, hq9, hz9⟩ := hv
    refine a_if_ne rfl (fun cz9 => ?_) (fun _ => ?_)
    rotate_left
    · refine a_s rfl rfl ?_
      exact a_zret rfl rfl rfl (QC.fc C2 (Fm.tr (Fm.up Fm.rf rfl) f9) hp9 hq9)
    obtain ⟨g13, gn, gq⟩ := hz9 (bI_t cz9)
    refine a_l0 rfl rfl rfl ?_
    refine a_s rfl rfl ?_
    refine a_geti rfl gfX12_194_12 rfl ?_
    refine a_top (y := nI 3) (g13.trans up2_at) ?_
    refine a_s rfl rfl ?_
    refine a_s rfl rfl ?_
    refine a_top (y := nI 2) (rfl) ?_
    refine a_puti rfl pfX12_194_12 rfl ?_
    have C9 := Cs.deep C2 hd f9 hp9 gn gq
    have hle := Cs.ln C9
    refine a_l0 rfl rfl rfl ?_
    refine a_s rfl rfl ?_
    refine a_s rfl rfl ?_
    refine a_eV0 rfl lX12_180 mo_X12_emits (r_X12_emits (Dq.st (Cs.dq C9)) (by omega)) rfl rfl rfl ⟨12, _, rfl, rfl, rfl⟩ rfl ?_
    refine a_s rfl rfl ?_
    exact a_zret rfl rfl rfl (QC.yes (Cs.em (k := 13) (m := 0) C9 (by decide) (by decide) rfl (by simp only [List.length_cons]; omega)))
  have C2 := Cs.rd C1 h2
  clear hz2
  refine a_l0 rfl rfl rfl ?_
  refine a_gV rfl lX12_205 mo_X12_readTag (r_X12_readTag hw (by omega) (Cs.dq C2)) rfl rfl rfl ⟨12, _, rfl, rfl, rfl⟩ rfl (fun v' h' hv => ?_)
  obtain ⟨z3, J3, p3, n3, rfl, rfl, ht3, hf3⟩ := hv
  refine a_if_eq rfl (fun cz3 => ?_) (fun cz3 => ?_)
  rotate_left
  · refine a_s rfl rfl ?_
    exact a_zret rfl rfl rfl (QC.yes (Cs.cc C2 (ht3 (bI_t cz3))))
  have C3 := Cs.cc C2 (hf3 (bI_f cz3))
  refine a_l0 rfl rfl rfl ?_
  refine a_gV rfl lX12_208 mo_X12_readSum (r_X12_readSum hw hc (by omega) (Cs.dq C3)) rfl rfl rfl ⟨12, _, rfl, rfl, rfl⟩ rfl (fun v' h' hv => ?_)
  obtain ⟨z4, J4, p4, n4, rfl, rfl, f4, hp4, hq4, hz4⟩ := hv
  refine a_if_ne rfl (fun cz4 => ?_) (fun _ => ?_)
  rotate_left
  · refine a_s rfl rfl ?_
    exact a_zret rfl rfl rfl (QC.fc C3 f4 hp4 hq4)
  have C4 := Cs.st C3 f4 hp4 (hz4 (bI_t cz4))
  have key : ∀ {z5 : Bool} {p' n' : Nat} {J : Nat → Nat → Int32}, Cs e p n a (false :: s) (c + 1) I J p' n' → AW S m_X12_readAtom 32 (QC e p n a (true :: s) c I L w1 w2 t) nX 0 0 152 [some (.ref 420), some (.int (bI z5))] [] (hp J L w1 w2 t) := by
    intro z5 p' n' J C
    refine a_l0 rfl rfl rfl ?_
    refine a_gV rfl lX12_208 mo_X12_readSum (r_X12_readSum hw (by omega) (by simp only [List.length_cons]; omega) (Cs.dq C)) rfl rfl rfl ⟨12, _, rfl, rfl, rfl⟩ rfl (fun v' h' hv => ?_)
    obtain ⟨z6, J6, p6, n6, rfl, rfl, f6, hp6, hq6, hz6⟩ := hv
    refine a_if_ne rfl (fun cz6 => ?_) (fun _ => ?_)
    rotate_left
    · refine a_s rfl rfl ?_
      exact a_zret rfl rfl rfl (QC.fc C f6 hp6 hq6)
    have C6 := Cs.st C f6 hp6 (hz6 (bI_t cz6))
    have hle := Cs.ln C6
    refine a_l0 rfl rfl rfl ?_
    refine a_l1 rfl rfl rfl ?_
    cases z5 with
    | false =>
      refine a_if_eq rfl (fun _ => ?_) (fun c => absurd rfl c)
      refine a_s rfl rfl ?_
      refine a_s rfl rfl ?_
      refine a_eV0 rfl lX12_180 mo_X12_emits (r_X12_emits (Dq.st (Cs.dq C6)) (by omega)) rfl rfl rfl ⟨12, _, rfl, rfl, rfl⟩ rfl ?_
      refine a_s rfl rfl ?_
      exact a_zret rfl rfl rfl (QC.yes (Cs.em (k := 12) (m := 0) C6 (by decide) (by decide) rfl (by simp only [List.length_cons]; omega)))
    | true =>
      refine a_if_eq rfl (fun c => absurd c (by decide)) (fun _ => ?_)
      refine a_s rfl rfl ?_
      refine a_goto rfl ?_
      refine a_s rfl rfl ?_
      refine a_eV0 rfl lX12_180 mo_X12_emits (r_X12_emits (Dq.st (Cs.dq C6)) (by omega)) rfl rfl rfl ⟨12, _, rfl, rfl, rfl⟩ rfl ?_
      refine a_s rfl rfl ?_
      exact a_zret rfl rfl rfl (QC.yes (Cs.em (k := 11) (m := 0) C6 (by decide) (by decide) rfl (by simp only [List.length_cons]; omega)))
  refine a_l0 rfl rfl rfl ?_
  refine a_s rfl rfl ?_
  refine a_gV rfl lX12_187 mo_X12_sign (r_X12_sign (Cs.pp C4)) rfl rfl rfl ⟨12, _, rfl, rfl, rfl⟩ rfl (fun v' h' hv => ?_)
  obtain ⟨z5, b5, p5, J5, rfl, rfl, h5, hz5⟩ := hv
  refine a_s1 rfl rfl rfl rfl rfl rfl ?_
  refine a_l1 rfl rfl rfl ?_
  refine a_if_ne rfl (fun cz5 => ?_) (fun _ => ?_)
  · exact key (Cs.rd1 C4 h5 (hz5 (bI_t cz5)))
  have C5 := Cs.rd C4 h5
  refine a_l0 rfl rfl rfl ?_
  refine a_s rfl rfl ?_
  refine a_gV rfl lX12_187 mo_X12_sign (r_X12_sign (Cs.pp C5)) rfl rfl rfl ⟨12, _, rfl, rfl, rfl⟩ rfl (fun v' h' hv => ?_)
  obtain ⟨z7, b7, p7, J7, rfl, rfl, h7, hz7⟩ := hv
  refine a_if_eq rfl (fun _ => ?_) (fun cz7 => ?_)
  · refine a_s rfl rfl ?_
    exact a_zret rfl rfl rfl (QC.f0 (Cs.rd C5 h7))
  · exact key (Cs.rd1 C5 h7 (hz7 (bI_t cz7)))
theorem r_X12_readAllOf_2 (hw : WdS S) (hc : 1 ≤ c) (hl : s.length + 12 ≤ 24) (hd : I 420 13 = nI 2) (h : Dq e p a n s c I) : Sp S m_X12_readAllOf 33 0 0 [.ref 420] (hp I L w1 w2 t) (QC e p n a (true :: s) c I L w1 w2 t) nX := by
  refine Sp_of ok_X12_readAllOf rfl rfl ?_
  show AW S m_X12_readAllOf 33 _ _ 0 0 0 [some (.ref 420)] [] (hp I L w1 w2 t)
  refine a_l0 rfl rfl rfl ?_
  refine a_gV rfl lX12_202 mo_X12_readAtom (r_X12_readAtom_2 hw hc (by omega) hd h) rfl rfl rfl ⟨12, _, rfl, rfl, rfl⟩ rfl (fun v' h' hv => ?_)
  obtain ⟨z, J1, p1, n1, rfl, rfl, f1, hp1, hq1, hz1⟩ := hv
  refine a_if_ne rfl (fun cz => ?_) (fun _ => ?_)
  rotate_left
  · refine a_s rfl rfl ?_
    exact a_zret rfl rfl rfl (QC.no f1 hp1 hq1)
  have C1 := Cs.st (Cs.rf h) f1 hp1 (hz1 (bI_t cz))
  refine a_inv (n := e - p1) (fun m ls h => ls = [some (.ref 420)] ∧ ∃ J p' n', h = hp J L w1 w2 t ∧ Cs e p n a (true :: s) c I J p' n' ∧ m = e - p') ⟨rfl, J1, p1, n1, rfl, C1, rfl⟩ ?_
  rintro m _ _ ⟨rfl, J, p', n', rfl, C, hm⟩ ih
  refine a_l0 rfl rfl rfl ?_
  refine a_ldcs (q := 130 + 20) rfl (hw.ld (i := 20) (by decide)) ?_
  refine a_gV rfl lX12_128 mo_X12_passes (r_X12_passes (k := 20) hw (by decide) (Cs.pp C)) rfl rfl rfl ⟨12, _, rfl, rfl, rfl⟩ rfl (fun v' h' hv => ?_)
  obtain ⟨z2, b2, p2, J2, rfl, rfl, h2, hz2⟩ := hv
  refine a_if_eq rfl (fun _ => ?_) (fun cz2 => ?_)
  · refine a_s rfl rfl ?_
    exact a_zret rfl rfl rfl (QC.yes (Cs.rd C h2))
  have hlt := hz2 (bI_t cz2)
  have C2 := Cs.rd1 C h2 hlt
  have q2 := Rd.pb h2
  have q3 := Pp.le (Cs.pp C2)
  refine a_l0 rfl rfl rfl ?_
  refine a_gV rfl lX12_202 mo_X12_readAtom (r_X12_readAtom_2 hw (by omega) (by simp only [List.length_cons]; omega) (Cs.d C2 hd) (Cs.dq C2)) rfl rfl rfl ⟨12, _, rfl, rfl, rfl⟩ rfl (fun v' h' hv => ?_)
  obtain ⟨z3, J3, p3, n3, rfl, rfl, f3, hp3, hq3, hz3⟩ := hv
  refine a_if_ne rfl (fun cz3 => ?_) (fun _ => ?_)
  rotate_left
  · refine a_s rfl rfl ?_
    exact a_zret rfl rfl rfl (QC.fc C2 f3 hp3 hq3)
  have C3 := Cs.st C2 f3 hp3 (hz3 (bI_t cz3))
  have hle := Cs.ln C3
  refine a_l0 rfl rfl rfl ?_
  refine a_s rfl rfl ?_
  refine a_s rfl rfl ?_
  refine a_eV0 rfl lX12_180 mo_X12_emits (r_X12_emits (Dq.st (Cs.dq C3)) (by omega)) rfl rfl rfl ⟨12, _, rfl, rfl, rfl⟩ rfl ?_
  refine a_goto rfl ?_
  exact ih (e - p3) _ _ (by omega) ⟨rfl, _, p3, n3 + 1, rfl, Cs.em (k := 14) (m := 0) C3 (by decide) (by decide) rfl (by simp only [List.length_cons]; omega), rfl⟩
theorem r_X12_readCond_2 (hw : WdS S) (hc : 1 ≤ c) (hl : s.length + 13 ≤ 24) (hd : I 420 13 = nI 2) (h : Dq e p a n s c I) : Sp S m_X12_readCond 34 0 0 [.ref 420] (hp I L w1 w2 t) (QC e p n a (true :: s) c I L w1 w2 t) nX := by
  refine Sp_of ok_X12_readCond rfl rfl ?_
  show AW S m_X12_readCond 34 _ _ 0 0 0 [some (.ref 420)] [] (hp I L w1 w2 t)
  refine a_l0 rfl rfl rfl ?_
  refine a_gV rfl lX12_213 mo_X12_readAllOf (r_X12_readAllOf_2 hw hc (by omega) hd h) rfl rfl rfl ⟨12, _, rfl, rfl, rfl⟩ rfl (fun v' h' hv => ?_)
  obtain ⟨z, J1, p1, n1, rfl, rfl, f1, hp1, hq1, hz1⟩ := hv
  refine a_if_ne rfl (fun cz => ?_) (fun _ => ?_)
  rotate_left
  · refine a_s rfl rfl ?_
    exact a_zret rfl rfl rfl (QC.no f1 hp1 hq1)
  have C1 := Cs.st (Cs.rf h) f1 hp1 (hz1 (bI_t cz))
  refine a_inv (n := e - p1) (fun m ls h => ls = [some (.ref 420)] ∧ ∃ J p' n', h = hp J L w1 w2 t ∧ Cs e p n a (true :: s) c I J p' n' ∧ m = e - p') ⟨rfl, J1, p1, n1, rfl, C1, rfl⟩ ?_
  rintro m _ _ ⟨rfl, J, p', n', rfl, C, hm⟩ ih
  refine a_l0 rfl rfl rfl ?_
  refine a_ldcs (q := 130 + 19) rfl (hw.ld (i := 19) (by decide)) ?_
  refine a_gV rfl lX12_128 mo_X12_passes (r_X12_passes (k := 19) hw (by decide) (Cs.pp C)) rfl rfl rfl ⟨12, _, rfl, rfl, rfl⟩ rfl (fun v' h' hv => ?_)
  obtain ⟨z2, b2, p2, J2, rfl, rfl, h2, hz2⟩ := hv
  refine a_if_eq rfl (fun _ => ?_) (fun cz2 => ?_)
  · refine a_s rfl rfl ?_
    exact a_zret rfl rfl rfl (QC.yes (Cs.rd C h2))
  have hlt := hz2 (bI_t cz2)
  have C2 := Cs.rd1 C h2 hlt
  have q2 := Rd.pb h2
  have q3 := Pp.le (Cs.pp C2)
  refine a_l0 rfl rfl rfl ?_
  refine a_gV rfl lX12_213 mo_X12_readAllOf (r_X12_readAllOf_2 hw (by omega) (by simp only [List.length_cons]; omega) (Cs.d C2 hd) (Cs.dq C2)) rfl rfl rfl ⟨12, _, rfl, rfl, rfl⟩ rfl (fun v' h' hv => ?_)
  obtain ⟨z3, J3, p3, n3, rfl, rfl, f3, hp3, hq3, hz3⟩ := hv
  refine a_if_ne rfl (fun cz3 => ?_) (fun _ => ?_)
  rotate_left
  · refine a_s rfl rfl ?_
    exact a_zret rfl rfl rfl (QC.fc C2 f3 hp3 hq3)
  have C3 := Cs.st C2 f3 hp3 (hz3 (bI_t cz3))
  have hle := Cs.ln C3
  refine a_l0 rfl rfl rfl ?_
  refine a_s rfl rfl ?_
  refine a_s rfl rfl ?_
  refine a_eV0 rfl lX12_180 mo_X12_emits (r_X12_emits (Dq.st (Cs.dq C3)) (by omega)) rfl rfl rfl ⟨12, _, rfl, rfl, rfl⟩ rfl ?_
  refine a_goto rfl ?_
  exact ih (e - p3) _ _ (by omega) ⟨rfl, _, p3, n3 + 1, rfl, Cs.em (k := 15) (m := 0) C3 (by decide) (by decide) rfl (by simp only [List.length_cons]; omega), rfl⟩
theorem r_X12_readAtom_1 (hw : WdS S) (hc : 1 ≤ c) (hl : s.length + 13 ≤ 24) (hd : I 420 13 = nI 1) (h : Dq e p a n s c I) : Sp S m_X12_readAtom 35 0 0 [.ref 420] (hp I L w1 w2 t) (QC e p n a (true :: s) c I L w1 w2 t) nX := by
  refine Sp_of ok_X12_readAtom rfl rfl ?_
  show AW S m_X12_readAtom 35 _ _ 0 0 0 [some (.ref 420), none] [] (hp I L w1 w2 t)
  refine a_l0 rfl rfl rfl ?_
  refine a_s rfl rfl ?_
  refine a_gV rfl lX12_187 mo_X12_sign (r_X12_sign (Dq.pp h)) rfl rfl rfl ⟨12, _, rfl, rfl, rfl⟩ rfl (fun v' h' hv => ?_)
  obtain ⟨z, b1, p1, J1, rfl, rfl, h1, hz⟩ := hv
  have C1 := Cs.rd (Cs.rf h) h1
  clear hz
  refine a_if_eq rfl (fun _ => ?_) (fun cz => ?_)
  rotate_left
  · refine a_l0 rfl rfl rfl ?_
    refine a_geti rfl gfX12_194_12 rfl ?_
    refine a_top (y := nI 1) (Cs.d C1 hd) ?_
    refine a_s rfl rfl ?_
    refine a_ic_ne rfl (fun _ => ?_) (fun c => absurd c (by decide))
    refine a_l0 rfl rfl rfl ?_
    refine a_s rfl rfl ?_
    refine a_geti rfl gfX12_194_12 rfl ?_
    refine a_top (y := nI 1) (Cs.d C1 hd) ?_
    refine a_s rfl rfl ?_
    refine a_s rfl rfl ?_
    refine a_top (y := nI 2) (rfl) ?_
    refine a_puti rfl pfX12_194_12 rfl ?_
    refine a_l0 rfl rfl rfl ?_
    refine a_gV rfl lX12_197 mo_X12_readCond (r_X12_readCond_2 hw (by omega) (by omega) up2_at (Dq.up13 (Cs.dq C1))) rfl rfl rfl ⟨12, _, rfl, rfl, rfl⟩ rfl (fun v' h' hv => ?_)
    obtain ⟨z9, J9, p9, n9, rfl, rfl, f9, hp9, hq9, hz9⟩ := hv
    refine a_if_ne rfl (fun cz9 => ?_) (fun _ => ?_)
    rotate_left
    · refine a_s rfl rfl ?_
      exact a_zret rfl rfl rfl (QC.fc C1 (Fm.tr (Fm.up Fm.rf rfl) f9) hp9 hq9)
    obtain ⟨g13, gn, gq⟩ := hz9 (bI_t cz9)
    refine a_l0 rfl rfl rfl ?_
    refine a_s rfl rfl ?_
    refine a_geti rfl gfX12_194_12 rfl ?_
    refine a_top (y := nI 2) (g13.trans up2_at) ?_
    refine a_s rfl rfl ?_
    refine a_s rfl rfl ?_
    refine a_top (y := nI 1) (rfl) ?_
    refine a_puti rfl pfX12_194_12 rfl ?_
    have C9 := Cs.deep C1 hd f9 hp9 gn gq
    refine a_l0 rfl rfl rfl ?_
    refine a_s rfl rfl ?_
    refine a_gV rfl lX12_187 mo_X12_sign (r_X12_sign (Cs.pp C9)) rfl rfl rfl ⟨12, _, rfl, rfl, rfl⟩ rfl (fun v' h' hv => ?_)
    obtain ⟨z3, b3, p3, J3, rfl, rfl, h3, -⟩ := hv
    cases z3 with
    | false => exact a_zret rfl rfl rfl (QC.f0 (Cs.rd C9 h3))
    | true => exact a_zret rfl rfl rfl (QC.yes (Cs.rd C9 h3))
  refine a_l0 rfl rfl rfl ?_
  refine a_ldcs (q := 130 + 21) rfl (hw.ld (i := 21) (by decide)) ?_
  refine a_gV rfl lX12_128 mo_X12_passes (r_X12_passes (k := 21) hw (by decide) (Cs.pp C1)) rfl rfl rfl ⟨12, _, rfl, rfl, rfl⟩ rfl (fun v' h' hv => ?_)
  obtain ⟨z2, b2, p2, J2, rfl, rfl, h2, hz2⟩ := hv
  refine a_if_eq rfl (fun _ => ?_) (fun cz2 => ?_)
  rotate_left
  · have C2 := Cs.rd1 C1 h2 (hz2 (bI_t cz2))
    refine a_l0 rfl rfl rfl ?_
    refine a_geti rfl gfX12_194_12 rfl ?_
    refine a_top (y := nI 1) (Cs.d C2 hd) ?_
    refine a_s rfl rfl ?_
    refine a_ic_ne rfl (fun _ => ?_) (fun c => absurd c (by decide))
    refine a_l0 rfl rfl rfl ?_
    refine a_s rfl rfl ?_
    refine a_geti rfl gfX12_194_12 rfl ?_
    refine a_top (y := nI 1) (Cs.d C2 hd) ?_
    refine a_s rfl rfl ?_
    refine a_s rfl rfl ?_
    refine a_top (y := nI 2) (rfl) ?_
    refine a_puti rfl pfX12_194_12 rfl ?_
    refine a_l0 rfl rfl rfl ?_
    refine a_gV rfl lX12_202 mo_X12_readAtom (r_X12_readAtom_2 hw (by omega) (by omega) up2_at (Dq.up13 (Cs.dq C2))) rfl rfl rfl ⟨12, _, rfl, rfl, rfl⟩ rfl (fun v' h' hv => ?_)
    obtain ⟨z9, J9, p9, n9, rfl, rfl, f9, hp9, hq9, hz9⟩ := hv
    refine a_if_ne rfl (fun cz9 => ?_) (fun _ => ?_)
    rotate_left
    · refine a_s rfl rfl ?_
      exact a_zret rfl rfl rfl (QC.fc C2 (Fm.tr (Fm.up Fm.rf rfl) f9) hp9 hq9)
    obtain ⟨g13, gn, gq⟩ := hz9 (bI_t cz9)
    refine a_l0 rfl rfl rfl ?_
    refine a_s rfl rfl ?_
    refine a_geti rfl gfX12_194_12 rfl ?_
    refine a_top (y := nI 2) (g13.trans up2_at) ?_
    refine a_s rfl rfl ?_
    refine a_s rfl rfl ?_
    refine a_top (y := nI 1) (rfl) ?_
    refine a_puti rfl pfX12_194_12 rfl ?_
    have C9 := Cs.deep C2 hd f9 hp9 gn gq
    have hle := Cs.ln C9
    refine a_l0 rfl rfl rfl ?_
    refine a_s rfl rfl ?_
    refine a_s rfl rfl ?_
    refine a_eV0 rfl lX12_180 mo_X12_emits (r_X12_emits (Dq.st (Cs.dq C9)) (by omega)) rfl rfl rfl ⟨12, _, rfl, rfl, rfl⟩ rfl ?_
    refine a_s rfl rfl ?_
    exact a_zret rfl rfl rfl (QC.yes (Cs.em (k := 13) (m := 0) C9 (by decide) (by decide) rfl (by simp only [List.length_cons]; omega)))
  have C2 := Cs.rd C1 h2
  clear hz2
  refine a_l0 rfl rfl rfl ?_
  refine a_gV rfl lX12_205 mo_X12_readTag (r_X12_readTag hw (by omega) (Cs.dq C2)) rfl rfl rfl ⟨12, _, rfl, rfl, rfl⟩ rfl (fun v' h' hv => ?_)
  obtain ⟨z3, J3, p3, n3, rfl, rfl, ht3, hf3⟩ := hv
  refine a_if_eq rfl (fun cz3 => ?_) (fun cz3 => ?_)
  rotate_left
  · refine a_s rfl rfl ?_
    exact a_zret rfl rfl rfl (QC.yes (Cs.cc C2 (ht3 (bI_t cz3))))
  have C3 := Cs.cc C2 (hf3 (bI_f cz3))
  refine a_l0 rfl rfl rfl ?_
  refine a_gV rfl lX12_208 mo_X12_readSum (r_X12_readSum hw hc (by omega) (Cs.dq C3)) rfl rfl rfl ⟨12, _, rfl, rfl, rfl⟩ rfl (fun v' h' hv => ?_)
  obtain ⟨z4, J4, p4, n4, rfl, rfl, f4, hp4, hq4, hz4⟩ := hv
  refine a_if_ne rfl (fun cz4 => ?_) (fun _ => ?_)
  rotate_left
  · refine a_s rfl rfl ?_
    exact a_zret rfl rfl rfl (QC.fc C3 f4 hp4 hq4)
  have C4 := Cs.st C3 f4 hp4 (hz4 (bI_t cz4))
  have key : ∀ {z5 : Bool} {p' n' : Nat} {J : Nat → Nat → Int32}, Cs e p n a (false :: s) (c + 1) I J p' n' → AW S m_X12_readAtom 35 (QC e p n a (true :: s) c I L w1 w2 t) nX 0 0 152 [some (.ref 420), some (.int (bI z5))] [] (hp J L w1 w2 t) := by
    intro z5 p' n' J C
    refine a_l0 rfl rfl rfl ?_
    refine a_gV rfl lX12_208 mo_X12_readSum (r_X12_readSum hw (by omega) (by simp only [List.length_cons]; omega) (Cs.dq C)) rfl rfl rfl ⟨12, _, rfl, rfl, rfl⟩ rfl (fun v' h' hv => ?_)
    obtain ⟨z6, J6, p6, n6, rfl, rfl, f6, hp6, hq6, hz6⟩ := hv
    refine a_if_ne rfl (fun cz6 => ?_) (fun _ => ?_)
    rotate_left
    · refine a_s rfl rfl ?_
      exact a_zret rfl rfl rfl (QC.fc C f6 hp6 hq6)
    have C6 := Cs.st C f6 hp6 (hz6 (bI_t cz6))
    have hle := Cs.ln C6
    refine a_l0 rfl rfl rfl ?_
    refine a_l1 rfl rfl rfl ?_
    cases z5 with
    | false =>
      refine a_if_eq rfl (fun _ => ?_) (fun c => absurd rfl c)
      refine a_s rfl rfl ?_
      refine a_s rfl rfl ?_
      refine a_eV0 rfl lX12_180 mo_X12_emits (r_X12_emits (Dq.st (Cs.dq C6)) (by omega)) rfl rfl rfl ⟨12, _, rfl, rfl, rfl⟩ rfl ?_
      refine a_s rfl rfl ?_
      exact a_zret rfl rfl rfl (QC.yes (Cs.em (k := 12) (m := 0) C6 (by decide) (by decide) rfl (by simp only [List.length_cons]; omega)))
    | true =>
      refine a_if_eq rfl (fun c => absurd c (by decide)) (fun _ => ?_)
      refine a_s rfl rfl ?_
      refine a_goto rfl ?_
      refine a_s rfl rfl ?_
      refine a_eV0 rfl lX12_180 mo_X12_emits (r_X12_emits (Dq.st (Cs.dq C6)) (by omega)) rfl rfl rfl ⟨12, _, rfl, rfl, rfl⟩ rfl ?_
      refine a_s rfl rfl ?_
      exact a_zret rfl rfl rfl (QC.yes (Cs.em (k := 11) (m := 0) C6 (by decide) (by decide) rfl (by simp only [List.length_cons]; omega)))
  refine a_l0 rfl rfl rfl ?_
  refine a_s rfl rfl ?_
  refine a_gV rfl lX12_187 mo_X12_sign (r_X12_sign (Cs.pp C4)) rfl rfl rfl ⟨12, _, rfl, rfl, rfl⟩ rfl (fun v' h' hv => ?_)
  obtain ⟨z5, b5, p5, J5, rfl, rfl, h5, hz5⟩ := hv
  refine a_s1 rfl rfl rfl rfl rfl rfl ?_
  refine a_l1 rfl rfl rfl ?_
  refine a_if_ne rfl (fun cz5 => ?_) (fun _ => ?_)
  · exact key (Cs.rd1 C4 h5 (hz5 (bI_t cz5)))
  have C5 := Cs.rd C4 h5
  refine a_l0 rfl rfl rfl ?_
  refine a_s rfl rfl ?_
  refine a_gV rfl lX12_187 mo_X12_sign (r_X12_sign (Cs.pp C5)) rfl rfl rfl ⟨12, _, rfl, rfl, rfl⟩ rfl (fun v' h' hv => ?_)
  obtain ⟨z7, b7, p7, J7, rfl, rfl, h7, hz7⟩ := hv
  refine a_if_eq rfl (fun _ => ?_) (fun cz7 => ?_)
  · refine a_s rfl rfl ?_
    exact a_zret rfl rfl rfl (QC.f0 (Cs.rd C5 h7))
  · exact key (Cs.rd1 C5 h7 (hz7 (bI_t cz7)))
theorem r_X12_readAllOf_1 (hw : WdS S) (hc : 1 ≤ c) (hl : s.length + 14 ≤ 24) (hd : I 420 13 = nI 1) (h : Dq e p a n s c I) : Sp S m_X12_readAllOf 36 0 0 [.ref 420] (hp I L w1 w2 t) (QC e p n a (true :: s) c I L w1 w2 t) nX := by
  refine Sp_of ok_X12_readAllOf rfl rfl ?_
  show AW S m_X12_readAllOf 36 _ _ 0 0 0 [some (.ref 420)] [] (hp I L w1 w2 t)
  refine a_l0 rfl rfl rfl ?_
  refine a_gV rfl lX12_202 mo_X12_readAtom (r_X12_readAtom_1 hw hc (by omega) hd h) rfl rfl rfl ⟨12, _, rfl, rfl, rfl⟩ rfl (fun v' h' hv => ?_)
  obtain ⟨z, J1, p1, n1, rfl, rfl, f1, hp1, hq1, hz1⟩ := hv
  refine a_if_ne rfl (fun cz => ?_) (fun _ => ?_)
  rotate_left
  · refine a_s rfl rfl ?_
    exact a_zret rfl rfl rfl (QC.no f1 hp1 hq1)
  have C1 := Cs.st (Cs.rf h) f1 hp1 (hz1 (bI_t cz))
  refine a_inv (n := e - p1) (fun m ls h => ls = [some (.ref 420)] ∧ ∃ J p' n', h = hp J L w1 w2 t ∧ Cs e p n a (true :: s) c I J p' n' ∧ m = e - p') ⟨rfl, J1, p1, n1, rfl, C1, rfl⟩ ?_
  rintro m _ _ ⟨rfl, J, p', n', rfl, C, hm⟩ ih
  refine a_l0 rfl rfl rfl ?_
  refine a_ldcs (q := 130 + 20) rfl (hw.ld (i := 20) (by decide)) ?_
  refine a_gV rfl lX12_128 mo_X12_passes (r_X12_passes (k := 20) hw (by decide) (Cs.pp C)) rfl rfl rfl ⟨12, _, rfl, rfl, rfl⟩ rfl (fun v' h' hv => ?_)
  obtain ⟨z2, b2, p2, J2, rfl, rfl, h2, hz2⟩ := hv
  refine a_if_eq rfl (fun _ => ?_) (fun cz2 => ?_)
  · refine a_s rfl rfl ?_
    exact a_zret rfl rfl rfl (QC.yes (Cs.rd C h2))
  have hlt := hz2 (bI_t cz2)
  have C2 := Cs.rd1 C h2 hlt
  have q2 := Rd.pb h2
  have q3 := Pp.le (Cs.pp C2)
  refine a_l0 rfl rfl rfl ?_
  refine a_gV rfl lX12_202 mo_X12_readAtom (r_X12_readAtom_1 hw (by omega) (by simp only [List.length_cons]; omega) (Cs.d C2 hd) (Cs.dq C2)) rfl rfl rfl ⟨12, _, rfl, rfl, rfl⟩ rfl (fun v' h' hv => ?_)
  obtain ⟨z3, J3, p3, n3, rfl, rfl, f3, hp3, hq3, hz3⟩ := hv
  refine a_if_ne rfl (fun cz3 => ?_) (fun _ => ?_)
  rotate_left
  · refine a_s rfl rfl ?_
    exact a_zret rfl rfl rfl (QC.fc C2 f3 hp3 hq3)
  have C3 := Cs.st C2 f3 hp3 (hz3 (bI_t cz3))
  have hle := Cs.ln C3
  refine a_l0 rfl rfl rfl ?_
  refine a_s rfl rfl ?_
  refine a_s rfl rfl ?_
  refine a_eV0 rfl lX12_180 mo_X12_emits (r_X12_emits (Dq.st (Cs.dq C3)) (by omega)) rfl rfl rfl ⟨12, _, rfl, rfl, rfl⟩ rfl ?_
  refine a_goto rfl ?_
  exact ih (e - p3) _ _ (by omega) ⟨rfl, _, p3, n3 + 1, rfl, Cs.em (k := 14) (m := 0) C3 (by decide) (by decide) rfl (by simp only [List.length_cons]; omega), rfl⟩
theorem r_X12_readCond_1 (hw : WdS S) (hc : 1 ≤ c) (hl : s.length + 15 ≤ 24) (hd : I 420 13 = nI 1) (h : Dq e p a n s c I) : Sp S m_X12_readCond 37 0 0 [.ref 420] (hp I L w1 w2 t) (QC e p n a (true :: s) c I L w1 w2 t) nX := by
  refine Sp_of ok_X12_readCond rfl rfl ?_
  show AW S m_X12_readCond 37 _ _ 0 0 0 [some (.ref 420)] [] (hp I L w1 w2 t)
  refine a_l0 rfl rfl rfl ?_
  refine a_gV rfl lX12_213 mo_X12_readAllOf (r_X12_readAllOf_1 hw hc (by omega) hd h) rfl rfl rfl ⟨12, _, rfl, rfl, rfl⟩ rfl (fun v' h' hv => ?_)
  obtain ⟨z, J1, p1, n1, rfl, rfl, f1, hp1, hq1, hz1⟩ := hv
  refine a_if_ne rfl (fun cz => ?_) (fun _ => ?_)
  rotate_left
  · refine a_s rfl rfl ?_
    exact a_zret rfl rfl rfl (QC.no f1 hp1 hq1)
  have C1 := Cs.st (Cs.rf h) f1 hp1 (hz1 (bI_t cz))
  refine a_inv (n := e - p1) (fun m ls h => ls = [some (.ref 420)] ∧ ∃ J p' n', h = hp J L w1 w2 t ∧ Cs e p n a (true :: s) c I J p' n' ∧ m = e - p') ⟨rfl, J1, p1, n1, rfl, C1, rfl⟩ ?_
  rintro m _ _ ⟨rfl, J, p', n', rfl, C, hm⟩ ih
  refine a_l0 rfl rfl rfl ?_
  refine a_ldcs (q := 130 + 19) rfl (hw.ld (i := 19) (by decide)) ?_
  refine a_gV rfl lX12_128 mo_X12_passes (r_X12_passes (k := 19) hw (by decide) (Cs.pp C)) rfl rfl rfl ⟨12, _, rfl, rfl, rfl⟩ rfl (fun v' h' hv => ?_)
  obtain ⟨z2, b2, p2, J2, rfl, rfl, h2, hz2⟩ := hv
  refine a_if_eq rfl (fun _ => ?_) (fun cz2 => ?_)
  · refine a_s rfl rfl ?_
    exact a_zret rfl rfl rfl (QC.yes (Cs.rd C h2))
  have hlt := hz2 (bI_t cz2)
  have C2 := Cs.rd1 C h2 hlt
  have q2 := Rd.pb h2
  have q3 := Pp.le (Cs.pp C2)
  refine a_l0 rfl rfl rfl ?_
  refine a_gV rfl lX12_213 mo_X12_readAllOf (r_X12_readAllOf_1 hw (by omega) (by simp only [List.length_cons]; omega) (Cs.d C2 hd) (Cs.dq C2)) rfl rfl rfl ⟨12, _, rfl, rfl, rfl⟩ rfl (fun v' h' hv => ?_)
  obtain ⟨z3, J3, p3, n3, rfl, rfl, f3, hp3, hq3, hz3⟩ := hv
  refine a_if_ne rfl (fun cz3 => ?_) (fun _ => ?_)
  rotate_left
  · refine a_s rfl rfl ?_
    exact a_zret rfl rfl rfl (QC.fc C2 f3 hp3 hq3)
  have C3 := Cs.st C2 f3 hp3 (hz3 (bI_t cz3))
  have hle := Cs.ln C3
  refine a_l0 rfl rfl rfl ?_
  refine a_s rfl rfl ?_
  refine a_s rfl rfl ?_
  refine a_eV0 rfl lX12_180 mo_X12_emits (r_X12_emits (Dq.st (Cs.dq C3)) (by omega)) rfl rfl rfl ⟨12, _, rfl, rfl, rfl⟩ rfl ?_
  refine a_goto rfl ?_
  exact ih (e - p3) _ _ (by omega) ⟨rfl, _, p3, n3 + 1, rfl, Cs.em (k := 15) (m := 0) C3 (by decide) (by decide) rfl (by simp only [List.length_cons]; omega), rfl⟩
theorem r_X12_readAtom_0 (hw : WdS S) (hc : 1 ≤ c) (hl : s.length + 15 ≤ 24) (hd : I 420 13 = nI 0) (h : Dq e p a n s c I) : Sp S m_X12_readAtom 38 0 0 [.ref 420] (hp I L w1 w2 t) (QC e p n a (true :: s) c I L w1 w2 t) nX := by
  refine Sp_of ok_X12_readAtom rfl rfl ?_
  show AW S m_X12_readAtom 38 _ _ 0 0 0 [some (.ref 420), none] [] (hp I L w1 w2 t)
  refine a_l0 rfl rfl rfl ?_
  refine a_s rfl rfl ?_
  refine a_gV rfl lX12_187 mo_X12_sign (r_X12_sign (Dq.pp h)) rfl rfl rfl ⟨12, _, rfl, rfl, rfl⟩ rfl (fun v' h' hv => ?_)
  obtain ⟨z, b1, p1, J1, rfl, rfl, h1, hz⟩ := hv
  have C1 := Cs.rd (Cs.rf h) h1
  clear hz
  refine a_if_eq rfl (fun _ => ?_) (fun cz => ?_)
  rotate_left
  · refine a_l0 rfl rfl rfl ?_
    refine a_geti rfl gfX12_194_12 rfl ?_
    refine a_top (y := nI 0) (Cs.d C1 hd) ?_
    refine a_s rfl rfl ?_
    refine a_ic_ne rfl (fun _ => ?_) (fun c => absurd c (by decide))
    refine a_l0 rfl rfl rfl ?_
    refine a_s rfl rfl ?_
    refine a_geti rfl gfX12_194_12 rfl ?_
    refine a_top (y := nI 0) (Cs.d C1 hd) ?_
    refine a_s rfl rfl ?_
    refine a_s rfl rfl ?_
    refine a_top (y := nI 1) (rfl) ?_
    refine a_puti rfl pfX12_194_12 rfl ?_
    refine a_l0 rfl rfl rfl ?_
    refine a_gV rfl lX12_197 mo_X12_readCond (r_X12_readCond_1 hw (by omega) (by omega) up2_at (Dq.up13 (Cs.dq C1))) rfl rfl rfl ⟨12, _, rfl, rfl, rfl⟩ rfl (fun v' h' hv => ?_)
    obtain ⟨z9, J9, p9, n9, rfl, rfl, f9, hp9, hq9, hz9⟩ := hv
    refine a_if_ne rfl (fun cz9 => ?_) (fun _ => ?_)
    rotate_left
    · refine a_s rfl rfl ?_
      exact a_zret rfl rfl rfl (QC.fc C1 (Fm.tr (Fm.up Fm.rf rfl) f9) hp9 hq9)
    obtain ⟨g13, gn, gq⟩ := hz9 (bI_t cz9)
    refine a_l0 rfl rfl rfl ?_
    refine a_s rfl rfl ?_
    refine a_geti rfl gfX12_194_12 rfl ?_
    refine a_top (y := nI 1) (g13.trans up2_at) ?_
    refine a_s rfl rfl ?_
    refine a_s rfl rfl ?_
    refine a_top (y := nI 0) (rfl) ?_
    refine a_puti rfl pfX12_194_12 rfl ?_
    have C9 := Cs.deep C1 hd f9 hp9 gn gq
    refine a_l0 rfl rfl rfl ?_
    refine a_s rfl rfl ?_
    refine a_gV rfl lX12_187 mo_X12_sign (r_X12_sign (Cs.pp C9)) rfl rfl rfl ⟨12, _, rfl, rfl, rfl⟩ rfl (fun v' h' hv => ?_)
    obtain ⟨z3, b3, p3, J3, rfl, rfl, h3, -⟩ := hv
    cases z3 with
    | false => exact a_zret rfl rfl rfl (QC.f0 (Cs.rd C9 h3))
    | true => exact a_zret rfl rfl rfl (QC.yes (Cs.rd C9 h3))
  refine a_l0 rfl rfl rfl ?_
  refine a_ldcs (q := 130 + 21) rfl (hw.ld (i := 21) (by decide)) ?_
  refine a_gV rfl lX12_128 mo_X12_passes (r_X12_passes (k := 21) hw (by decide) (Cs.pp C1)) rfl rfl rfl ⟨12, _, rfl, rfl, rfl⟩ rfl (fun v' h' hv => ?_)
  obtain ⟨z2, b2, p2, J2, rfl, rfl, h2, hz2⟩ := hv
  refine a_if_eq rfl (fun _ => ?_) (fun cz2 => ?_)
  rotate_left
  · have C2 := Cs.rd1 C1 h2 (hz2 (bI_t cz2))
    refine a_l0 rfl rfl rfl ?_
    refine a_geti rfl gfX12_194_12 rfl ?_
    refine a_top (y := nI 0) (Cs.d C2 hd) ?_
    refine a_s rfl rfl ?_
    refine a_ic_ne rfl (fun _ => ?_) (fun c => absurd c (by decide))
    refine a_l0 rfl rfl rfl ?_
    refine a_s rfl rfl ?_
    refine a_geti rfl gfX12_194_12 rfl ?_
    refine a_top (y := nI 0) (Cs.d C2 hd) ?_
    refine a_s rfl rfl ?_
    refine a_s rfl rfl ?_
    refine a_top (y := nI 1) (rfl) ?_
    refine a_puti rfl pfX12_194_12 rfl ?_
    refine a_l0 rfl rfl rfl ?_
    refine a_gV rfl lX12_202 mo_X12_readAtom (r_X12_readAtom_1 hw (by omega) (by omega) up2_at (Dq.up13 (Cs.dq C2))) rfl rfl rfl ⟨12, _, rfl, rfl, rfl⟩ rfl (fun v' h' hv => ?_)
    obtain ⟨z9, J9, p9, n9, rfl, rfl, f9, hp9, hq9, hz9⟩ := hv
    refine a_if_ne rfl (fun cz9 => ?_) (fun _ => ?_)
    rotate_left
    · refine a_s rfl rfl ?_
      exact a_zret rfl rfl rfl (QC.fc C2 (Fm.tr (Fm.up Fm.rf rfl) f9) hp9 hq9)
    obtain ⟨g13, gn, gq⟩ := hz9 (bI_t cz9)
    refine a_l0 rfl rfl rfl ?_
    refine a_s rfl rfl ?_
    refine a_geti rfl gfX12_194_12 rfl ?_
    refine a_top (y := nI 1) (g13.trans up2_at) ?_
    refine a_s rfl rfl ?_
    refine a_s rfl rfl ?_
    refine a_top (y := nI 0) (rfl) ?_
    refine a_puti rfl pfX12_194_12 rfl ?_
    have C9 := Cs.deep C2 hd f9 hp9 gn gq
    have hle := Cs.ln C9
    refine a_l0 rfl rfl rfl ?_
    refine a_s rfl rfl ?_
    refine a_s rfl rfl ?_
    refine a_eV0 rfl lX12_180 mo_X12_emits (r_X12_emits (Dq.st (Cs.dq C9)) (by omega)) rfl rfl rfl ⟨12, _, rfl, rfl, rfl⟩ rfl ?_
    refine a_s rfl rfl ?_
    exact a_zret rfl rfl rfl (QC.yes (Cs.em (k := 13) (m := 0) C9 (by decide) (by decide) rfl (by simp only [List.length_cons]; omega)))
  have C2 := Cs.rd C1 h2
  clear hz2
  refine a_l0 rfl rfl rfl ?_
  refine a_gV rfl lX12_205 mo_X12_readTag (r_X12_readTag hw (by omega) (Cs.dq C2)) rfl rfl rfl ⟨12, _, rfl, rfl, rfl⟩ rfl (fun v' h' hv => ?_)
  obtain ⟨z3, J3, p3, n3, rfl, rfl, ht3, hf3⟩ := hv
  refine a_if_eq rfl (fun cz3 => ?_) (fun cz3 => ?_)
  rotate_left
  · refine a_s rfl rfl ?_
    exact a_zret rfl rfl rfl (QC.yes (Cs.cc C2 (ht3 (bI_t cz3))))
  have C3 := Cs.cc C2 (hf3 (bI_f cz3))
  refine a_l0 rfl rfl rfl ?_
  refine a_gV rfl lX12_208 mo_X12_readSum (r_X12_readSum hw hc (by omega) (Cs.dq C3)) rfl rfl rfl ⟨12, _, rfl, rfl, rfl⟩ rfl (fun v' h' hv => ?_)
  obtain ⟨z4, J4, p4, n4, rfl, rfl, f4, hp4, hq4, hz4⟩ := hv
  refine a_if_ne rfl (fun cz4 => ?_) (fun _ => ?_)
  rotate_left
  · refine a_s rfl rfl ?_
    exact a_zret rfl rfl rfl (QC.fc C3 f4 hp4 hq4)
  have C4 := Cs.st C3 f4 hp4 (hz4 (bI_t cz4))
  have key : ∀ {z5 : Bool} {p' n' : Nat} {J : Nat → Nat → Int32}, Cs e p n a (false :: s) (c + 1) I J p' n' → AW S m_X12_readAtom 38 (QC e p n a (true :: s) c I L w1 w2 t) nX 0 0 152 [some (.ref 420), some (.int (bI z5))] [] (hp J L w1 w2 t) := by
    intro z5 p' n' J C
    refine a_l0 rfl rfl rfl ?_
    refine a_gV rfl lX12_208 mo_X12_readSum (r_X12_readSum hw (by omega) (by simp only [List.length_cons]; omega) (Cs.dq C)) rfl rfl rfl ⟨12, _, rfl, rfl, rfl⟩ rfl (fun v' h' hv => ?_)
    obtain ⟨z6, J6, p6, n6, rfl, rfl, f6, hp6, hq6, hz6⟩ := hv
    refine a_if_ne rfl (fun cz6 => ?_) (fun _ => ?_)
    rotate_left
    · refine a_s rfl rfl ?_
      exact a_zret rfl rfl rfl (QC.fc C f6 hp6 hq6)
    have C6 := Cs.st C f6 hp6 (hz6 (bI_t cz6))
    have hle := Cs.ln C6
    refine a_l0 rfl rfl rfl ?_
    refine a_l1 rfl rfl rfl ?_
    cases z5 with
    | false =>
      refine a_if_eq rfl (fun _ => ?_) (fun c => absurd rfl c)
      refine a_s rfl rfl ?_
      refine a_s rfl rfl ?_
      refine a_eV0 rfl lX12_180 mo_X12_emits (r_X12_emits (Dq.st (Cs.dq C6)) (by omega)) rfl rfl rfl ⟨12, _, rfl, rfl, rfl⟩ rfl ?_
      refine a_s rfl rfl ?_
      exact a_zret rfl rfl rfl (QC.yes (Cs.em (k := 12) (m := 0) C6 (by decide) (by decide) rfl (by simp only [List.length_cons]; omega)))
    | true =>
      refine a_if_eq rfl (fun c => absurd c (by decide)) (fun _ => ?_)
      refine a_s rfl rfl ?_
      refine a_goto rfl ?_
      refine a_s rfl rfl ?_
      refine a_eV0 rfl lX12_180 mo_X12_emits (r_X12_emits (Dq.st (Cs.dq C6)) (by omega)) rfl rfl rfl ⟨12, _, rfl, rfl, rfl⟩ rfl ?_
      refine a_s rfl rfl ?_
      exact a_zret rfl rfl rfl (QC.yes (Cs.em (k := 11) (m := 0) C6 (by decide) (by decide) rfl (by simp only [List.length_cons]; omega)))
  refine a_l0 rfl rfl rfl ?_
  refine a_s rfl rfl ?_
  refine a_gV rfl lX12_187 mo_X12_sign (r_X12_sign (Cs.pp C4)) rfl rfl rfl ⟨12, _, rfl, rfl, rfl⟩ rfl (fun v' h' hv => ?_)
  obtain ⟨z5, b5, p5, J5, rfl, rfl, h5, hz5⟩ := hv
  refine a_s1 rfl rfl rfl rfl rfl rfl ?_
  refine a_l1 rfl rfl rfl ?_
  refine a_if_ne rfl (fun cz5 => ?_) (fun _ => ?_)
  · exact key (Cs.rd1 C4 h5 (hz5 (bI_t cz5)))
  have C5 := Cs.rd C4 h5
  refine a_l0 rfl rfl rfl ?_
  refine a_s rfl rfl ?_
  refine a_gV rfl lX12_187 mo_X12_sign (r_X12_sign (Cs.pp C5)) rfl rfl rfl ⟨12, _, rfl, rfl, rfl⟩ rfl (fun v' h' hv => ?_)
  obtain ⟨z7, b7, p7, J7, rfl, rfl, h7, hz7⟩ := hv
  refine a_if_eq rfl (fun _ => ?_) (fun cz7 => ?_)
  · refine a_s rfl rfl ?_
    exact a_zret rfl rfl rfl (QC.f0 (Cs.rd C5 h7))
  · exact key (Cs.rd1 C5 h7 (hz7 (bI_t cz7)))
theorem r_X12_readAllOf_0 (hw : WdS S) (hc : 1 ≤ c) (hl : s.length + 16 ≤ 24) (hd : I 420 13 = nI 0) (h : Dq e p a n s c I) : Sp S m_X12_readAllOf 39 0 0 [.ref 420] (hp I L w1 w2 t) (QC e p n a (true :: s) c I L w1 w2 t) nX := by
  refine Sp_of ok_X12_readAllOf rfl rfl ?_
  show AW S m_X12_readAllOf 39 _ _ 0 0 0 [some (.ref 420)] [] (hp I L w1 w2 t)
  refine a_l0 rfl rfl rfl ?_
  refine a_gV rfl lX12_202 mo_X12_readAtom (r_X12_readAtom_0 hw hc (by omega) hd h) rfl rfl rfl ⟨12, _, rfl, rfl, rfl⟩ rfl (fun v' h' hv => ?_)
  obtain ⟨z, J1, p1, n1, rfl, rfl, f1, hp1, hq1, hz1⟩ := hv
  refine a_if_ne rfl (fun cz => ?_) (fun _ => ?_)
  rotate_left
  · refine a_s rfl rfl ?_
    exact a_zret rfl rfl rfl (QC.no f1 hp1 hq1)
  have C1 := Cs.st (Cs.rf h) f1 hp1 (hz1 (bI_t cz))
  refine a_inv (n := e - p1) (fun m ls h => ls = [some (.ref 420)] ∧ ∃ J p' n', h = hp J L w1 w2 t ∧ Cs e p n a (true :: s) c I J p' n' ∧ m = e - p') ⟨rfl, J1, p1, n1, rfl, C1, rfl⟩ ?_
  rintro m _ _ ⟨rfl, J, p', n', rfl, C, hm⟩ ih
  refine a_l0 rfl rfl rfl ?_
  refine a_ldcs (q := 130 + 20) rfl (hw.ld (i := 20) (by decide)) ?_
  refine a_gV rfl lX12_128 mo_X12_passes (r_X12_passes (k := 20) hw (by decide) (Cs.pp C)) rfl rfl rfl ⟨12, _, rfl, rfl, rfl⟩ rfl (fun v' h' hv => ?_)
  obtain ⟨z2, b2, p2, J2, rfl, rfl, h2, hz2⟩ := hv
  refine a_if_eq rfl (fun _ => ?_) (fun cz2 => ?_)
  · refine a_s rfl rfl ?_
    exact a_zret rfl rfl rfl (QC.yes (Cs.rd C h2))
  have hlt := hz2 (bI_t cz2)
  have C2 := Cs.rd1 C h2 hlt
  have q2 := Rd.pb h2
  have q3 := Pp.le (Cs.pp C2)
  refine a_l0 rfl rfl rfl ?_
  refine a_gV rfl lX12_202 mo_X12_readAtom (r_X12_readAtom_0 hw (by omega) (by simp only [List.length_cons]; omega) (Cs.d C2 hd) (Cs.dq C2)) rfl rfl rfl ⟨12, _, rfl, rfl, rfl⟩ rfl (fun v' h' hv => ?_)
  obtain ⟨z3, J3, p3, n3, rfl, rfl, f3, hp3, hq3, hz3⟩ := hv
  refine a_if_ne rfl (fun cz3 => ?_) (fun _ => ?_)
  rotate_left
  · refine a_s rfl rfl ?_
    exact a_zret rfl rfl rfl (QC.fc C2 f3 hp3 hq3)
  have C3 := Cs.st C2 f3 hp3 (hz3 (bI_t cz3))
  have hle := Cs.ln C3
  refine a_l0 rfl rfl rfl ?_
  refine a_s rfl rfl ?_
  refine a_s rfl rfl ?_
  refine a_eV0 rfl lX12_180 mo_X12_emits (r_X12_emits (Dq.st (Cs.dq C3)) (by omega)) rfl rfl rfl ⟨12, _, rfl, rfl, rfl⟩ rfl ?_
  refine a_goto rfl ?_
  exact ih (e - p3) _ _ (by omega) ⟨rfl, _, p3, n3 + 1, rfl, Cs.em (k := 14) (m := 0) C3 (by decide) (by decide) rfl (by simp only [List.length_cons]; omega), rfl⟩
theorem r_X12_readCond_0 (hw : WdS S) (hc : 1 ≤ c) (hl : s.length + 17 ≤ 24) (hd : I 420 13 = nI 0) (h : Dq e p a n s c I) : Sp S m_X12_readCond 40 0 0 [.ref 420] (hp I L w1 w2 t) (QC e p n a (true :: s) c I L w1 w2 t) nX := by
  refine Sp_of ok_X12_readCond rfl rfl ?_
  show AW S m_X12_readCond 40 _ _ 0 0 0 [some (.ref 420)] [] (hp I L w1 w2 t)
  refine a_l0 rfl rfl rfl ?_
  refine a_gV rfl lX12_213 mo_X12_readAllOf (r_X12_readAllOf_0 hw hc (by omega) hd h) rfl rfl rfl ⟨12, _, rfl, rfl, rfl⟩ rfl (fun v' h' hv => ?_)
  obtain ⟨z, J1, p1, n1, rfl, rfl, f1, hp1, hq1, hz1⟩ := hv
  refine a_if_ne rfl (fun cz => ?_) (fun _ => ?_)
  rotate_left
  · refine a_s rfl rfl ?_
    exact a_zret rfl rfl rfl (QC.no f1 hp1 hq1)
  have C1 := Cs.st (Cs.rf h) f1 hp1 (hz1 (bI_t cz))
  refine a_inv (n := e - p1) (fun m ls h => ls = [some (.ref 420)] ∧ ∃ J p' n', h = hp J L w1 w2 t ∧ Cs e p n a (true :: s) c I J p' n' ∧ m = e - p') ⟨rfl, J1, p1, n1, rfl, C1, rfl⟩ ?_
  rintro m _ _ ⟨rfl, J, p', n', rfl, C, hm⟩ ih
  refine a_l0 rfl rfl rfl ?_
  refine a_ldcs (q := 130 + 19) rfl (hw.ld (i := 19) (by decide)) ?_
  refine a_gV rfl lX12_128 mo_X12_passes (r_X12_passes (k := 19) hw (by decide) (Cs.pp C)) rfl rfl rfl ⟨12, _, rfl, rfl, rfl⟩ rfl (fun v' h' hv => ?_)
  obtain ⟨z2, b2, p2, J2, rfl, rfl, h2, hz2⟩ := hv
  refine a_if_eq rfl (fun _ => ?_) (fun cz2 => ?_)
  · refine a_s rfl rfl ?_
    exact a_zret rfl rfl rfl (QC.yes (Cs.rd C h2))
  have hlt := hz2 (bI_t cz2)
  have C2 := Cs.rd1 C h2 hlt
  have q2 := Rd.pb h2
  have q3 := Pp.le (Cs.pp C2)
  refine a_l0 rfl rfl rfl ?_
  refine a_gV rfl lX12_213 mo_X12_readAllOf (r_X12_readAllOf_0 hw (by omega) (by simp only [List.length_cons]; omega) (Cs.d C2 hd) (Cs.dq C2)) rfl rfl rfl ⟨12, _, rfl, rfl, rfl⟩ rfl (fun v' h' hv => ?_)
  obtain ⟨z3, J3, p3, n3, rfl, rfl, f3, hp3, hq3, hz3⟩ := hv
  refine a_if_ne rfl (fun cz3 => ?_) (fun _ => ?_)
  rotate_left
  · refine a_s rfl rfl ?_
    exact a_zret rfl rfl rfl (QC.fc C2 f3 hp3 hq3)
  have C3 := Cs.st C2 f3 hp3 (hz3 (bI_t cz3))
  have hle := Cs.ln C3
  refine a_l0 rfl rfl rfl ?_
  refine a_s rfl rfl ?_
  refine a_s rfl rfl ?_
  refine a_eV0 rfl lX12_180 mo_X12_emits (r_X12_emits (Dq.st (Cs.dq C3)) (by omega)) rfl rfl rfl ⟨12, _, rfl, rfl, rfl⟩ rfl ?_
  refine a_goto rfl ?_
  exact ih (e - p3) _ _ (by omega) ⟨rfl, _, p3, n3 + 1, rfl, Cs.em (k := 15) (m := 0) C3 (by decide) (by decide) rfl (by simp only [List.length_cons]; omega), rfl⟩
end T72
end
section
/-! ===== the reference: a law's line, a law ===== -/
section T73
variable {S : aS} {I : Nat → Nat → Int32} {L : Nat → Nat → Int64} {w1 w2 t : Nat} {e p n nl : Nat}
set_option maxRecDepth 100000
/-- what a line of a law may change -/
def sZ (nl n q k : Nat) : Bool := sR q k || ((Nat.beq q 420 && (Nat.beq k 13 || Nat.beq k 16)) || (Nat.beq q 421 && (Nat.ble (1233 + 2 * n) k || (Nat.ble (1185 + 4 * nl) k && Nat.blt k 1233))))
theorem ble_f {a b : Nat} (h : b < a) : Nat.ble a b = false := by
  cases hb : Nat.ble a b with
  | false => rfl
  | true => exact absurd (Nat.le_of_ble_eq_true hb) (by omega)
theorem sZ_421 {k : Nat} : sZ nl n 421 k = (Nat.ble (1233 + 2 * n) k || (Nat.ble (1185 + 4 * nl) k && Nat.blt k 1233)) := by
  show (false || (false || (true && _))) = _
  rfl
theorem sZ_lo {k : Nat} (h : k < 1185 + 4 * nl) (h2 : k < 1233) : sZ nl n 421 k = false := by
  rw [sZ_421, ble_f (show k < 1233 + 2 * n by omega), ble_f (show k < 1185 + 4 * nl from h)]
  rfl
theorem sZ_mid {k : Nat} (h : 1233 ≤ k) (h2 : k < 1233 + 2 * n) : sZ nl n 421 k = false := by
  rw [sZ_421, ble_f h2, show Nat.blt k 1233 = false from ble_f (by omega)]
  cases Nat.ble (1185 + 4 * nl) k <;> rfl
theorem sZ_in {k : Nat} (h : 1185 + 4 * nl ≤ k) (h2 : k < 1233) : sZ nl n 421 k = true := by
  rw [sZ_421, Nat.ble_eq_true_of_le h, show Nat.blt k 1233 = true from Nat.ble_eq_true_of_le h2]
  cases Nat.ble (1233 + 2 * n) k <;> rfl
theorem sY_sZ : ∀ q k, sY n q k = true → sZ nl n q k = true := fun q k h => by
  by_cases c : q = 421
  · subst c
    have : ¬ k < 1233 + 2 * n := fun z => by
      rw [sY_lo z] at h
      cases h
    rw [sZ_421, Nat.ble_eq_true_of_le (show 1233 + 2 * n ≤ k by omega)]
    rfl
  · unfold sY at h
    unfold sZ
    rw [beqF c] at h ⊢
    exact h
theorem sR_sZ : ∀ q k, sR q k = true → sZ nl n q k = true := fun q k h => sY_sZ q k (sR_sY q k h)
def QW (e p nl n : Nat) (I : Nat → Nat → Int32) (L : Nat → Nat → Int64) (w1 w2 t : Nat) : Option Value → aH → Prop := fun v h' => ∃ z J p' n', v = some (.int (bI z)) ∧ h' = hp J L w1 w2 t ∧ Fm (sZ nl n) I J ∧ p ≤ p' ∧ Pp e p' J ∧ (z = true → J 420 16 = nI n' ∧ n' ≤ p' ∧ n ≤ n' ∧ GdW (J 421) n' ∧ J 421 (1185 + 4 * nl + 2) = nI n ∧ J 421 (1185 + 4 * nl + 3) = nI n' ∧ LineOk (cdD (J 421)) n (n' - n))
theorem QW.no {p' : Nat} {J : Nat → Nat → Int32} (f : Fm (sZ nl n) I J) (hpp : p ≤ p') (hq : Pp e p' J) : QW e p nl n I L w1 w2 t (some (.int (bI false))) (hp J L w1 w2 t) := ⟨false, J, p', 0, rfl, rfl, f, hpp, hq, fun z => by cases z⟩
theorem Pp.wd {J : Nat → Nat → Int32} {k : Nat} {x : Int32} (h : Pp e p J) : Pp e p (up2 J 421 k x) := by
  unfold Pp
  rw [up2_row (by decide)]
  exact h
theorem Pp.dp {J : Nat → Nat → Int32} {x : Int32} (h : Pp e p J) : Pp e p (up2 J 420 13 x) := by
  unfold Pp
  rw [up2_ne (Or.inr (by decide)), up2_ne (Or.inr (by decide))]
  exact h
theorem GdW.eq {W W' : Nat → Int32} (h : GdW W n) (e : ∀ k, 1233 ≤ k → k < 1233 + 2 * n → W' k = W k) : GdW W' n := by
  intro i hi
  obtain ⟨k, m, g1, g2, g3, g4⟩ := h i hi
  exact ⟨k, m, g1, g2, (e _ (by omega) (by omega)).trans g3, (e _ (by omega) (by omega)).trans g4⟩
theorem cdD_eq2 {W W' : Nat → Int32} (e : ∀ k, 1233 ≤ k → k < 1233 + 2 * n → W' k = W k) {i : Nat} (hi : i < n) : cdD W' i = cdD W i := by
  unfold cdD
  rw [e _ (by omega) (by omega), e _ (by omega) (by omega)]
theorem r_X12_readLawLine {b : Nat} (hw : WdS S) (hnl : nl < 12) (h12 : I 420 12 = nI b) (hbp : b ≤ p) (hq : Pp e p I) (hst : I 420 16 = nI n) (hnb : n ≤ b) (hg : GdW (I 421) n) : Sp S m_X12_readLawLine 41 0 0 [.ref 420, .int (nI nl)] (hp I L w1 w2 t) (QW e p nl n I L w1 w2 t) nX := by
  have hpe := Pp.le hq
  have he4 := Pp.e4 hq
  refine Sp_of ok_X12_readLawLine rfl rfl ?_
  show AW S m_X12_readLawLine 41 _ _ 0 0 0 [some (.ref 420), some (.int (nI nl)), none] [] (hp I L w1 w2 t)
  refine a_s rfl rfl ?_
  refine a_s rfl rfl ?_
  refine a_l1 rfl rfl rfl ?_
  refine a_s rfl rfl ?_
  refine a_top (y := nI (4 * nl)) (nI_mul 4 nl) ?_
  refine a_s rfl rfl ?_
  refine a_top (y := nI (1185 + 4 * nl)) (nI_addl 1185 (4 * nl)) ?_
  refine a_s2 rfl rfl rfl rfl rfl rfl ?_
  refine a_l0 rfl rfl rfl ?_
  refine a_getq rfl gfX12_13_12 rfl (rfl) ?_
  refine a_l2 rfl rfl rfl ?_
  have key : ∀ v : Int32, (v = -1 ∨ b < p) → AW S m_X12_readLawLine 41 (QW e p nl n I L w1 w2 t) nX 0 0 53 [some (.ref 420), some (.int (nI nl)), some (.int (nI (1185 + 4 * nl)))] [.int v, .int (nI (1185 + 4 * nl)), .ref 421] (hp I L w1 w2 t) := by
    intro v hv
    refine a_iastv (k := 1185 + 4 * nl) rfl (n := 2033) rfl (inI_nI (by omega) (by omega)) (nI_clamp (by omega)) ?_
    have f1 : Fm (sZ nl n) I (up2 I 421 (1185 + 4 * nl) v) := Fm.up Fm.rf (sZ_in (by omega) (by omega))
    refine a_l0 rfl rfl rfl ?_
    refine a_getq rfl gfX12_13_12 rfl (rfl) ?_
    refine a_l2 rfl rfl rfl ?_
    refine a_ialdv (v := v) rfl (n := 2033) rfl (inI_nI (by omega) (by omega)) (by rw [nI_clamp (by omega)]; exact up2_at) ?_
    refine a_if_ge rfl (fun c => ?_) (fun _ => ?_)
    rotate_left
    · refine a_s rfl rfl ?_
      exact a_zret rfl rfl rfl (QW.no f1 (Nat.le_refl _) (Pp.wd hq))
    have hlt := hv.resolve_left (fun z => by subst z; exact absurd c (by decide))
    refine a_l0 rfl rfl rfl ?_
    refine a_getq rfl gfX12_13_12 rfl (rfl) ?_
    refine a_l2 rfl rfl rfl ?_
    refine a_s rfl rfl ?_
    refine a_s rfl rfl ?_
    refine a_top (y := nI (1185 + 4 * nl + 1)) ((nI_succ _).symm) ?_
    refine a_l0 rfl rfl rfl ?_
    refine a_s rfl rfl ?_
    refine a_s rfl rfl ?_
    refine a_gV rfl lX12_113 mo_X12_number (r_X12_number (Pp.wd hq)) rfl rfl rfl ⟨12, _, rfl, rfl, rfl⟩ rfl (fun v' h' hv => ?_)
    obtain ⟨x, b2, p2, J2, rfl, rfl, h2, -⟩ := hv
    have hp2 := Nat.le_trans (Rd.pb h2) (Rd.bp h2)
    refine a_iastv (k := 1185 + 4 * nl + 1) rfl (n := 2033) rfl (inI_nI (by omega) (by omega)) (nI_clamp (by omega)) ?_
    have f3 : Fm (sZ nl n) I (up2 J2 421 (1185 + 4 * nl + 1) x) := Fm.up (Fm.tr f1 (Fm.mo (Rd.fm h2) sR_sZ)) (sZ_in (by omega) (by omega))
    refine a_l0 rfl rfl rfl ?_
    refine a_getq rfl gfX12_13_12 rfl (rfl) ?_
    refine a_l2 rfl rfl rfl ?_
    refine a_s rfl rfl ?_
    refine a_s rfl rfl ?_
    refine a_top (y := nI (1185 + 4 * nl + 1)) ((nI_succ _).symm) ?_
    refine a_iald rfl (n := 2033) rfl (inI_nI (by omega) (by omega)) ?_
    refine a_if_ge rfl (fun _ => ?_) (fun _ => ?_)
    rotate_left
    · refine a_s rfl rfl ?_
      exact a_zret rfl rfl rfl (QW.no f3 hp2 (Pp.wd (Rd.pp h2)))
    have s3 : up2 J2 421 (1185 + 4 * nl + 1) x 420 16 = nI n := ((congrFun (up2_row (by decide)) 16).trans (((Rd.fm h2 420 16 rfl).trans (congrFun (up2_row (by decide)) 16)).trans hst))
    refine a_l0 rfl rfl rfl ?_
    refine a_getq rfl gfX12_13_12 rfl (rfl) ?_
    refine a_l2 rfl rfl rfl ?_
    refine a_s rfl rfl ?_
    refine a_s rfl rfl ?_
    refine a_top (y := nI (1185 + 4 * nl + 2)) (nI_addl _ 2) ?_
    refine a_l0 rfl rfl rfl ?_
    refine a_geti rfl gfX12_168_12 rfl ?_
    refine a_top (y := nI n) (s3) ?_
    refine a_iastv (k := 1185 + 4 * nl + 2) rfl (n := 2033) rfl (inI_nI (by omega) (by omega)) (nI_clamp (by omega)) ?_
    refine a_l0 rfl rfl rfl ?_
    refine a_s rfl rfl ?_
    refine a_puti rfl pfX12_194_12 rfl ?_
    have f5 : Fm (sZ nl n) I (up2 (up2 (up2 J2 421 (1185 + 4 * nl + 1) x) 421 (1185 + 4 * nl + 2) (nI n)) 420 13 0) := Fm.up (Fm.up f3 (sZ_in (by omega) (by omega))) rfl
    refine a_ren (P := fun J => Fm (sZ nl n) I J ∧ Pp e p2 J ∧ J 420 16 = nI n ∧ J 420 13 = nI 0 ∧ J 421 (1185 + 4 * nl + 2) = nI n) ⟨f5, Pp.dp (Pp.wd (Pp.wd (Rd.pp h2))), ?_, up2_at, ?_⟩ (fun J5 hJ5 => ?_)
    · rw [up2_ne (Or.inr (by decide)), up2_row (by decide)]
      exact s3
    · rw [up2_row (by decide)]
      exact up2_at
    clear f5 f3 f1 s3
    obtain ⟨f5, q5, s5, d5, l5⟩ := hJ5
    have D5 : Dq e p2 n n [] 1 J5 := by
      refine ⟨q5, s5, by omega, Nat.le_refl _, GdW.eq hg (fun k k1 k2 => f5 421 k (sZ_mid k1 k2)), ?_, fun j hj => ?_⟩
      · rw [Nat.sub_self]
        rfl
      · rw [Nat.sub_self] at hj
        obtain rfl : j = 0 := by omega
        exact ⟨[], rfl, by decide⟩
    have key2 : ∀ {s' : List Bool} {J : Nat → Nat → Int32} {p' n' : Nat}, (s' = [] ∨ s' = [true]) → Cs e p2 n n s' 1 J5 J p' n' → AW S m_X12_readLawLine 41 (QW e p nl n I L w1 w2 t) nX 0 0 128 [some (.ref 420), some (.int (nI nl)), some (.int (nI (1185 + 4 * nl)))] [] (hp J L w1 w2 t) := by
      intro s' J p' n' hs' C
      obtain ⟨g1, g2, g3, g4, g5, g6, g7, g8, g9, g10, g11⟩ := C
      refine a_l0 rfl rfl rfl ?_
      refine a_getq rfl gfX12_13_12 rfl (rfl) ?_
      refine a_l2 rfl rfl rfl ?_
      refine a_s rfl rfl ?_
      refine a_s rfl rfl ?_
      refine a_top (y := nI (1185 + 4 * nl + 3)) (nI_addl _ 3) ?_
      refine a_l0 rfl rfl rfl ?_
      refine a_geti rfl gfX12_168_12 rfl ?_
      refine a_top (y := nI n') (g6) ?_
      refine a_iastv (k := 1185 + 4 * nl + 3) rfl (n := 2033) rfl (inI_nI (by omega) (by omega)) (nI_clamp (by omega)) ?_
      refine a_s rfl rfl ?_
      have ew : ∀ k, 1233 ≤ k → k < 1233 + 2 * n' → up2 J 421 (1185 + 4 * nl + 3) (nI n') 421 k = J 421 k := fun k k1 _ => u2_lo (by omega)
      refine a_zret rfl rfl rfl ⟨true, _, p', n', rfl, rfl, Fm.up (Fm.tr f5 (Fm.mo g1 sY_sZ)) (sZ_in (by omega) (by omega)), by omega, Pp.wd g5, fun _ => ⟨?_, by omega, g4, GdW.eq g9 ew, ?_, up2_at, ?_⟩⟩
      · rw [up2_row (by decide)]
        exact g6
      · rw [u2_lo (by omega), g1 421 _ (sY_lo (by omega))]
        exact l5
      · refine LineOk.congr (cd := cdD (J 421)) ⟨?_, g11⟩ (fun i hi => (cdD_eq2 ew (by omega)).symm)
        rcases hs' with rfl | rfl
        · exact Or.inl g10
        · exact Or.inr g10
    refine a_l0 rfl rfl rfl ?_
    refine a_ldcs (q := 130 + 18) rfl (hw.ld (i := 18) (by decide)) ?_
    refine a_gV rfl lX12_128 mo_X12_passes (r_X12_passes (k := 18) hw (by decide) (Dq.pp D5)) rfl rfl rfl ⟨12, _, rfl, rfl, rfl⟩ rfl (fun v' h' hv => ?_)
    obtain ⟨z6, b6, p6, J6, rfl, rfl, h6, -⟩ := hv
    have C6 := Cs.rd (Cs.rf D5) h6
    refine a_if_eq rfl (fun _ => key2 (Or.inl rfl) C6) (fun _ => ?_)
    refine a_l0 rfl rfl rfl ?_
    refine a_gV rfl lX12_197 mo_X12_readCond (r_X12_readCond_0 hw (Nat.le_refl 1) (by decide) (Cs.d C6 d5) (Cs.dq C6)) rfl rfl rfl ⟨12, _, rfl, rfl, rfl⟩ rfl (fun v' h' hv => ?_)
    obtain ⟨z7, J7, p7, n7, rfl, rfl, f7, hp7, hq7, hz7⟩ := hv
    refine a_if_ne rfl (fun cz7 => key2 (Or.inr rfl) (Cs.st C6 f7 hp7 (hz7 (bI_t cz7)))) (fun _ => ?_)
    refine a_s rfl rfl ?_
    have hp6 := C6.2.1
    exact a_zret rfl rfl rfl (QW.no (Fm.tr f5 (Fm.mo (Cs.fr C6 f7) sY_sZ)) (by omega) hq7)
  refine a_l0 rfl rfl rfl ?_
  refine a_ldcs (q := 130 + 15) rfl (hw.ld (i := 15) (by decide)) ?_
  refine a_gV rfl lX12_109 mo_X12_isWord (r_X12_isWord (k := 15) hw (by decide) h12 hbp hq) rfl rfl rfl ⟨12, _, rfl, rfl, rfl⟩ rfl (fun v' h' hv => ?_)
  obtain ⟨rfl, z, rfl, hz⟩ := hv
  refine a_if_eq rfl (fun _ => ?_) (fun cz => ?_)
  rotate_left
  · refine a_s rfl rfl ?_
    refine a_goto rfl ?_
    exact key 0 (Or.inr (hz (bI_t cz)))
  refine a_l0 rfl rfl rfl ?_
  refine a_ldcs (q := 130 + 16) rfl (hw.ld (i := 16) (by decide)) ?_
  refine a_gV rfl lX12_109 mo_X12_isWord (r_X12_isWord (k := 16) hw (by decide) h12 hbp hq) rfl rfl rfl ⟨12, _, rfl, rfl, rfl⟩ rfl (fun v' h' hv => ?_)
  obtain ⟨rfl, z2, rfl, hz2⟩ := hv
  refine a_if_eq rfl (fun _ => ?_) (fun cz => ?_)
  rotate_left
  · refine a_s rfl rfl ?_
    refine a_goto rfl ?_
    exact key 1 (Or.inr (hz2 (bI_t cz)))
  refine a_l0 rfl rfl rfl ?_
  refine a_ldcs (q := 130 + 17) rfl (hw.ld (i := 17) (by decide)) ?_
  refine a_gV rfl lX12_109 mo_X12_isWord (r_X12_isWord (k := 17) hw (by decide) h12 hbp hq) rfl rfl rfl ⟨12, _, rfl, rfl, rfl⟩ rfl (fun v' h' hv => ?_)
  obtain ⟨rfl, z3, rfl, hz3⟩ := hv
  refine a_if_eq rfl (fun _ => ?_) (fun cz => ?_)
  · refine a_s rfl rfl ?_
    exact key (-1) (Or.inl rfl)
  · refine a_s rfl rfl ?_
    refine a_goto rfl ?_
    exact key 2 (Or.inr (hz3 (bI_t cz)))
/-- a draft of so many lines -/
def LD (nl n : Nat) (W : Nat → Int32) : Prop := GdW W n ∧ ∀ i, i < nl → ∃ a b, W (1185 + 4 * i + 2) = nI a ∧ W (1185 + 4 * i + 3) = nI b ∧ a ≤ b ∧ b ≤ n ∧ LineOk (cdD W) a (b - a)
/-- what a law's text may change -/
def sL (q k : Nat) : Bool := sU q k || (sR q k || ((Nat.beq q 420 && (Nat.beq k 9 || (Nat.beq k 11 || (Nat.beq k 13 || (Nat.beq k 14 || Nat.beq k 16))))) || (Nat.beq q 421 && Nat.ble 1184 k)))
theorem sU_sL : ∀ q k, sU q k = true → sL q k = true := fun q k h => by
  unfold sL
  rw [h]
  rfl
theorem sR_sL : ∀ q k, sR q k = true → sL q k = true := fun q k h => by
  unfold sL
  rw [h]
  cases sU q k <;> rfl
theorem sL_lo {k : Nat} (h : k < 1184) : sL 421 k = false := by
  show (false || (false || (false || (true && Nat.ble 1184 k)))) = false
  rw [ble_f h]
  rfl
theorem sL_hi {k : Nat} (h : 1184 ≤ k) : sL 421 k = true := by
  show (false || (false || (false || (true && Nat.ble 1184 k)))) = true
  rw [Nat.ble_eq_true_of_le h]
  rfl
theorem sL_low {q k : Nat} (h : q < 420 ∨ q = 426) : sL q k = false := by
  have b : ∀ n, 420 ≤ n → n ≠ 426 → Nat.beq q n = false := fun n hn hn2 => beqF (by omega)
  simp [sL, sU, sR, b]
theorem sZ_sL : ∀ q k, sZ nl n q k = true → sL q k = true := fun q k h => by
  by_cases c : q = 421
  · subst c
    refine sL_hi ?_
    rcases Nat.lt_or_ge k 1184 with g | g
    · rw [sZ_lo (by omega) (by omega)] at h
      cases h
    · exact g
  · unfold sZ at h
    unfold sL
    rw [beqF c] at h ⊢
    cases hr : sR q k with
    | true => cases sU q k <;> rfl
    | false =>
      rw [hr] at h
      cases hq : Nat.beq q 420 with
      | false =>
        rw [hq] at h
        cases h
      | true =>
        rw [hq] at h
        cases h1 : Nat.beq k 13 with
        | true => cases sU q k <;> cases Nat.beq k 9 <;> cases Nat.beq k 11 <;> rfl
        | false =>
          rw [h1] at h
          cases h2 : Nat.beq k 16 with
          | true => cases sU q k <;> cases Nat.beq k 9 <;> cases Nat.beq k 11 <;> cases Nat.beq k 14 <;> rfl
          | false =>
            rw [h2] at h
            cases h
def GL (I J : Nat → Nat → Int32) : Prop := Fm sL I J ∧ J 420 9 = 0
theorem GL.tr {J K : Nat → Nat → Int32} {s : Nat → Nat → Bool} (h : GL I J) (f : Fm s J K) (hs : ∀ q k, s q k = true → sL q k = true) (h9 : s 420 9 = false) : GL I K := ⟨Fm.tr h.1 (Fm.mo f hs), (f 420 9 h9).trans h.2⟩
def PL (I : Nat → Nat → Int32) (e nl p : Nat) (J : Nat → Nat → Int32) : Prop := GL I J ∧ nl ≤ 12 ∧ Pp e p J ∧ ∃ n, J 420 16 = nI n ∧ n ≤ p ∧ LD nl n (J 421)
theorem r_X12_readLineL {I0 : Nat → Nat → Int32} (hw : WdS S) (h : PL I0 e nl p I) : Sp S m_X12_readLine 60 0 0 [.ref 420, .int (bI false), .int (nI nl)] (hp I L w1 w2 t) (fun v h' => ∃ zz p' J', v = some (.int (bI zz)) ∧ h' = hp J' L w1 w2 t ∧ GL I0 J' ∧ (zz = true → p ≤ p' ∧ PL I0 e (nl + 1) p' J')) nX := by
  obtain ⟨hG, h12, hq, n, hn, hnp, hD⟩ := h
  refine Sp_of ok_X12_readLine rfl rfl ?_
  show AW S m_X12_readLine 60 _ _ 0 0 0 [some (.ref 420), some (.int (bI false)), some (.int (nI nl))] [] (hp I L w1 w2 t)
  refine a_l0 rfl rfl rfl ?_
  refine a_gV rfl lX12_106 mo_X12_letters (r_X12_letters hq) rfl rfl rfl ⟨12, _, rfl, rfl, rfl⟩ rfl (fun v' h' hv => ?_)
  obtain ⟨rfl, J, b, p', rfl, h1⟩ := hv
  have g1 := GL.tr hG (Rd.fm h1) sR_sL rfl
  refine a_l2 rfl rfl rfl ?_
  refine a_l1 rfl rfl rfl ?_
  refine a_if_eq rfl (fun _ => ?_) (fun c => absurd rfl c)
  refine a_s rfl rfl ?_
  refine a_ic_ge rfl (fun _ => ?_) (fun c => ?_)
  · refine a_s rfl rfl ?_
    exact a_zret rfl rfl rfl ⟨false, p', J, rfl, rfl, g1, fun z => by cases z⟩
  have hnl : nl < 12 := nI_lt_of (b := 12) c (by omega) (by decide)
  refine a_l1 rfl rfl rfl ?_
  refine a_if_eq rfl (fun _ => ?_) (fun c => absurd rfl c)
  refine a_l0 rfl rfl rfl ?_
  refine a_l2 rfl rfl rfl ?_
  have hpb := Rd.pb h1
  refine a_gV rfl lX12_229 mo_X12_readLawLine (r_X12_readLawLine (n := n) hw hnl (Rd.be h1) (Rd.bp h1) (Rd.pp h1) ((Rd.fm h1 420 16 rfl).trans hn) (by omega) (by rw [Rd.w h1]; exact hD.1)) rfl rfl rfl ⟨12, _, rfl, rfl, rfl⟩ rfl (fun v' h' hv => ?_)
  obtain ⟨z, J2, p2, n2, rfl, rfl, f2, hp2, hq2, hz⟩ := hv
  have g2 := GL.tr g1 f2 sZ_sL rfl
  refine a_if_eq rfl (fun _ => ?_) (fun cz => ?_)
  · refine a_s rfl rfl ?_
    exact a_zret rfl rfl rfl ⟨false, p2, J2, rfl, rfl, g2, fun z => by cases z⟩
  obtain ⟨a1, a2, a3, a4, a5, a6, a7⟩ := hz (bI_t cz)
  refine a_s rfl rfl ?_
  refine a_goto rfl ?_
  have hbp := Rd.bp h1
  refine a_zret rfl rfl rfl ⟨true, p2, J2, rfl, rfl, g2, fun _ => ⟨by omega, g2, by omega, hq2, n2, a1, a2, a4, fun i hi => ?_⟩⟩
  by_cases ci : i = nl
  · subst ci
    exact ⟨n, n2, a5, a6, a3, Nat.le_refl _, a7⟩
  · obtain ⟨x, y, y1, y2, y3, y4, y5⟩ := hD.2 i (by omega)
    refine ⟨x, y, ?_, ?_, y3, by omega, LineOk.congr y5 (fun j hj => ?_)⟩
    · rw [f2 421 _ (sZ_lo (by omega) (by omega)), Rd.w h1]
      exact y1
    · rw [f2 421 _ (sZ_lo (by omega) (by omega)), Rd.w h1]
      exact y2
    · rw [cdD_eq2 (n := n) (fun k k1 k2 => f2 421 k (sZ_mid k1 k2)) (by omega), Rd.w h1]
end T73
end
section
/-! ===== the reference: the law taken ===== -/
section T74
variable {S : aS} {I : Nat → Nat → Int32} {L : Nat → Nat → Int64} {w1 w2 t : Nat} {nd np : Nat}
set_option maxRecDepth 100000
/-- the world's lower part, the image and the acts alone count -/
theorem RI.hi {J : Nat → Nat → Int32} (h : RI nd np I) (f : ∀ k, k < 1184 → J 421 k = I 421 k) (e2 : J 422 = I 422) (e5 : J 425 = I 425) (e6 : J 420 6 = I 420 6) (e7 : J 420 7 = I 420 7) : RI nd np J := by
  have hn := h.so.n
  have h6 := h.so.p
  refine ⟨h.so.eq (f 0 (by decide)) (f 1 (by decide)) (f 7 (by decide)) (fun d k hd hk => f _ (by omega)) (fun _ _ => trivial), fun p hp => ?_, h.lw.eq (f 3 (by decide)) (fun k _ h2 => f k h2), ?_, h.im.eq e6 e2, h.ac.eq e7 e5 (f 3 (by decide))⟩
  · obtain ⟨g, g1, g2⟩ := h.fr p hp
    exact ⟨g, g1, (f _ (by omega)).trans g2⟩
  · obtain ⟨k, k1, k2⟩ := h.lg
    exact ⟨k, k1, (f 9 (by decide)).trans k2⟩
theorem Us.same {J : Nat → Nat → Int32} (hr : RI nd np I) (h : GL I J) : Us nd np I J := by
  obtain ⟨f, h9⟩ := h
  exact ⟨fun q hq => funext fun k => f q k (sL_low hq), h9, f 420 6 rfl, hr.hi (fun k hk => f 421 k (sL_lo hk)) (funext fun k => f 422 k rfl) (funext fun k => f 425 k rfl) (f 420 6 rfl) (f 420 7 rfl)⟩
theorem LawR.of {W K : Nat → Int32} {nl n : Nat} (h3 : W 3 = 1) (h335 : W 335 = nI nl) (e : ∀ k, 1 ≤ k → k < 849 → W (335 + k) = K (1184 + k)) (hnl : nl ≤ 12) (hn : n ≤ 400) (hD : LD nl n K) : LwW W := by
  obtain ⟨hg, hl⟩ := hD
  have hn' : ∀ i, i < n → i < 400 := fun i hi => by omega
  refine ⟨nl, n, cdD K, fun m => (K (1185 + 4 * m + 2)).toNatClampNeg, fun m => (K (1185 + 4 * m + 3)).toNatClampNeg - (K (1185 + 4 * m + 2)).toNatClampNeg, Or.inr ⟨h3, h335⟩, hnl, hn, fun i hi => ?_, fun m hm => ?_⟩
  · obtain ⟨k, m, g1, g2, g3, g4⟩ := hg i hi
    have hi4 := hn' i hi
    refine ⟨k, m, g1, g2, ?_, ?_, ?_⟩
    · rw [show 384 + 2 * i = 335 + (49 + 2 * i) by omega, e _ (by omega) (by omega), show 1184 + (49 + 2 * i) = 1233 + 2 * i by omega]
      exact g3
    · rw [show 385 + 2 * i = 335 + (50 + 2 * i) by omega, e _ (by omega) (by omega), show 1184 + (50 + 2 * i) = 1233 + 2 * i + 1 by omega]
      exact g4
    · unfold cdD
      rw [g3, g4, nI_clamp (by omega), nI_clamp (by omega)]
  · obtain ⟨a, b, y1, y2, y3, y4, y5⟩ := hl m hm
    have e1 : (K (1185 + 4 * m + 2)).toNatClampNeg = a := by rw [y1, nI_clamp (by omega)]
    have e2 : (K (1185 + 4 * m + 3)).toNatClampNeg = b := by rw [y2, nI_clamp (by omega)]
    refine ⟨?_, ?_, ?_, ?_⟩
    · rw [show 336 + 4 * m + 2 = 335 + (3 + 4 * m) by omega, e _ (by omega) (by omega), show 1184 + (3 + 4 * m) = 1185 + 4 * m + 2 by omega]
      show _ = nI (K (1185 + 4 * m + 2)).toNatClampNeg
      rw [e1]
      exact y1
    · rw [show 336 + 4 * m + 3 = 335 + (4 + 4 * m) by omega, e _ (by omega) (by omega), show 1184 + (4 + 4 * m) = 1185 + 4 * m + 3 by omega]
      show _ = nI ((K (1185 + 4 * m + 2)).toNatClampNeg + ((K (1185 + 4 * m + 3)).toNatClampNeg - (K (1185 + 4 * m + 2)).toNatClampNeg))
      rw [e1, e2, show a + (b - a) = b by omega]
      exact y2
    · show (K (1185 + 4 * m + 2)).toNatClampNeg + ((K (1185 + 4 * m + 3)).toNatClampNeg - (K (1185 + 4 * m + 2)).toNatClampNeg) ≤ n
      rw [e1, e2]
      omega
    · show LineOk (cdD K) (K (1185 + 4 * m + 2)).toNatClampNeg ((K (1185 + 4 * m + 3)).toNatClampNeg - (K (1185 + 4 * m + 2)).toNatClampNeg)
      rw [e1, e2]
      exact y5
def lawH (K : Nat → Nat → Int32) (nl : Nat) : Nat → Nat → Int32 := up2 (up2 (cpR (up2 K 421 1184 (nI nl)) 421 335 421 1184 849) 421 3 1) 420 7 0
theorem Us.law {K : Nat → Nat → Int32} {nl n : Nat} (hr : RI nd np I) (h : GL I K) (hnl : nl ≤ 12) (hn : n ≤ 400) (hD : LD nl n (K 421)) : Us nd np I (lawH K nl) := by
  obtain ⟨f, h9⟩ := h
  have e0 : ∀ q, q ≠ 421 → q ≠ 420 → lawH K nl q = K q := fun q h1 h2 => by
    unfold lawH
    rw [up2_row h2, up2_row h1, cpR_row h1, up2_row h1]
  have e1 : ∀ k, k ≠ 7 → lawH K nl 420 k = K 420 k := fun k hk => by
    unfold lawH
    rw [up2_ne (Or.inr hk), up2_row (by decide), cpR_row (by decide), up2_row (by decide)]
  have e2 : ∀ k, k < 335 → k ≠ 3 → lawH K nl 421 k = I 421 k := fun k h1 h2 => by
    unfold lawH
    rw [up2_row (by decide), u2_lo h2, cpR_out (by omega), u2_lo (by omega)]
    exact f 421 k (sL_lo (by omega))
  have e3 : lawH K nl 421 3 = 1 := by
    unfold lawH
    rw [up2_row (by decide)]
    exact up2_at
  have e4 : lawH K nl 421 335 = nI nl := by
    unfold lawH
    rw [up2_row (by decide), u2_lo (by decide), show 335 = 335 + 0 by omega, cpR_in (by decide)]
    exact up2_at
  have e5 : ∀ k, 1 ≤ k → k < 849 → lawH K nl 421 (335 + k) = K 421 (1184 + k) := fun k h1 h2 => by
    unfold lawH
    rw [up2_row (by decide), u2_lo (by omega), cpR_in h2, u2_lo (by omega), Nat.add_comm]
  have hs := hr.so
  have hn12 := hs.n
  have h6 := hs.p
  refine ⟨fun q hq => ?_, (e1 9 (by decide)).trans h9, (e1 6 (by decide)).trans (f 420 6 rfl), ?_, fun p hp => ?_, LawR.of e3 e4 e5 hnl hn hD, ?_, ?_, ⟨0, by decide, ?_, fun i hi => absurd hi (Nat.not_lt_zero _)⟩⟩
  · rw [e0 q (by omega) (by omega)]
    exact funext fun k => f q k (sL_low hq)
  · exact hs.eq (e2 0 (by decide) (by decide)) (e2 1 (by decide) (by decide)) (e2 7 (by decide) (by decide)) (fun d k hd hk => e2 _ (by omega) (by omega)) (fun _ _ => trivial)
  · obtain ⟨g, g1, g2⟩ := hr.fr p hp
    exact ⟨g, g1, (e2 _ (by omega) (by omega)).trans g2⟩
  · obtain ⟨k, k1, k2⟩ := hr.lg
    exact ⟨k, k1, (e2 9 (by decide) (by decide)).trans k2⟩
  · exact hr.im.eq ((e1 6 (by decide)).trans (f 420 6 rfl)) ((e0 422 (by decide) (by decide)).trans (funext fun k => f 422 k rfl))
  · unfold lawH
    exact up2_at
theorem r_X12_law (hw : WdS S) (hr : RI nd np I) (ht : ∃ l, l ≤ 400 ∧ I 420 9 = nI l) : Sp S m_X12_law 62 0 0 [.ref 420] (hp I L w1 w2 t) (QY I w1 w2 t) nX := by
  obtain ⟨l, hl4, hl⟩ := ht
  refine Sp_of ok_X12_law rfl rfl ?_
  show AW S m_X12_law 62 _ _ 0 0 0 [some (.ref 420), none, none] [] (hp I L w1 w2 t)
  have h0 : PL I l 0 0 (up2 (usH I) 420 16 0) := by
    refine ⟨⟨Fm.up ?_ rfl, (up2_ne (Or.inr (by decide))).trans usH_9⟩, by decide, ⟨?_, ?_, Nat.zero_le _, hl4⟩, 0, up2_at, Nat.le_refl _, fun i hi => absurd hi (Nat.not_lt_zero _), fun i hi => absurd hi (Nat.not_lt_zero _)⟩
    · unfold usH
      exact Fm.up (Fm.up (Fm.up (Fm.up Fm.rf rfl) rfl) rfl) rfl
    · exact (up2_ne (Or.inr (by decide))).trans up2_at
    · rw [up2_ne (Or.inr (by decide)), usH_11]
      exact hl
  have hPp : ∀ n p J, PL I l n p J → Pp l p J := fun n p J h => h.2.2.1
  have hP : ∀ n p J b p' J', PL I l n p J → Rd l p b p' J J' → PL I l n p' J' := by
    rintro n p J b p' J' ⟨h1, h2, h3, m, h4, h5, h6⟩ r
    have := Rd.pb r
    have := Rd.bp r
    exact ⟨GL.tr h1 (Rd.fm r) sR_sL rfl, h2, Rd.pp r, m, (Rd.fm r 420 16 rfl).trans h4, by omega, by rw [Rd.w r]; exact h6⟩
  have hU : ∀ n p J, PL I l n p J → p < l → PL I l n (p + 1) (up2 J 420 10 (nI (p + 1))) := by
    rintro n p J ⟨h1, h2, h3, m, h4, h5, h6⟩ hlt
    exact ⟨⟨Fm.up h1.1 rfl, (up2_ne (Or.inr (by decide))).trans h1.2⟩, h2, Pp.to h3 (by omega), m, (up2_ne (Or.inr (by decide))).trans h4, by omega, by rw [up2_row (by decide)]; exact h6⟩
  have hF : ∀ n p J, PL I l n p J → GL I J := fun n p J h => h.1
  refine a_l0 rfl rfl rfl ?_
  refine a_s rfl rfl ?_
  refine a_gV rfl lX12_239 mo_X12_readAll (r_X12_readAll (z := false) (P := PL I l) (Fq := GL I) (e := l) hPp hP hU hF (fun n p J h => r_X12_readLineL hw h) h0) rfl rfl rfl ⟨12, _, rfl, rfl, rfl⟩ rfl (fun v' h' hv => ?_)
  obtain ⟨x, J, rfl, rfl, hg, hx⟩ := hv
  refine a_s1 rfl rfl rfl rfl rfl rfl ?_
  refine a_l0 rfl rfl rfl ?_
  refine a_l1 rfl rfl rfl ?_
  refine a_if_ge rfl (fun c => ?_) (fun c => ?_)
  rotate_left
  · refine a_l0 rfl rfl rfl ?_
    refine a_geti rfl gfX12_91_12 rfl ?_
    refine a_goto rfl ?_
    refine a_puti rfl pfX12_33_12 rfl ?_
    refine a_l0 rfl rfl rfl ?_
    refine a_l1 rfl rfl rfl ?_
    refine a_if_ge rfl (fun c2 => absurd c2 c) (fun _ => ?_)
    refine a_s rfl rfl ?_
    refine a_goto rfl ?_
    refine a_s rfl rfl ?_
    refine a_gV rfl lX12_243 mo_X12_throwsIf (r_X12_throwsIf (b := true)) rfl rfl rfl ⟨12, _, rfl, rfl, rfl⟩ rfl (fun v' h' hv => ?_)
    obtain ⟨rfl, K, rfl, fK⟩ := hv
    refine a_if_eq rfl (fun c => absurd c (by decide)) (fun _ => ?_)
    refine a_s rfl rfl ?_
    exact a_iret rfl rfl ⟨⟨_, rfl⟩, nd, np, _, _, rfl, Us.same hr (GL.tr ⟨Fm.up hg.1 rfl, (up2_ne (Or.inr (by decide))).trans hg.2⟩ fK sU_sL rfl)⟩
  obtain ⟨nl, p', rfl, h1, h2, h3, n, h4, h5, h6⟩ := hx.resolve_left (fun z => by subst z; exact absurd c (by decide))
  refine a_s rfl rfl ?_
  refine a_puti rfl pfX12_33_12 rfl ?_
  refine a_l0 rfl rfl rfl ?_
  refine a_l1 rfl rfl rfl ?_
  refine a_if_ge rfl (fun _ => ?_) (fun c2 => absurd c c2)
  refine a_s rfl rfl ?_
  refine a_s rfl rfl ?_
  refine a_gV rfl lX12_243 mo_X12_throwsIf (r_X12_throwsIf (b := false)) rfl rfl rfl ⟨12, _, rfl, rfl, rfl⟩ rfl (fun v' h' hv => ?_)
  obtain ⟨rfl, K, rfl, fK⟩ := hv
  have gK : GL I K := GL.tr ⟨Fm.up hg.1 rfl, (up2_ne (Or.inr (by decide))).trans hg.2⟩ fK sU_sL rfl
  have eK : K 421 = J 421 := funext fun k => fK 421 k rfl
  have hpl := Pp.le h3
  have fin := Us.law hr gK h2 (show n ≤ 400 by omega) (by rw [eK]; exact h6)
  refine a_if_eq rfl (fun _ => ?_) (fun c => absurd rfl c)
  refine a_l0 rfl rfl rfl ?_
  refine a_getq rfl gfX12_13_12 rfl (rfl) ?_
  refine a_s rfl rfl ?_
  refine a_l1 rfl rfl rfl ?_
  refine a_iastv (k := 1184) rfl (n := 2033) rfl ⟨by decide, by decide⟩ rfl ?_
  refine a_s rfl rfl ?_
  refine a_s2 rfl rfl rfl rfl rfl rfl ?_
  refine a_forE (n := 849) (fun j => [some (.ref 420), some (.int (nI nl)), some (.int (nI j))]) (fun j => hp (cpR (up2 K 421 1184 (nI nl)) 421 335 421 1184 j) L w1 w2 t) (by simp [lsub, nI_0]) (by rw [cpR_0]) ?_ (fun j hj ih => ?_)
  · refine a_l2 rfl rfl rfl ?_
    refine a_s rfl rfl ?_
    refine a_ic_ge rfl (fun _ => ?_) (fun c => absurd (Int32.le_refl _) c)
    refine a_l0 rfl rfl rfl ?_
    refine a_getq rfl gfX12_13_12 rfl (rfl) ?_
    refine a_s rfl rfl ?_
    refine a_s rfl rfl ?_
    refine a_iastv (k := 3) rfl (n := 2033) rfl ⟨by decide, by decide⟩ rfl ?_
    refine a_l0 rfl rfl rfl ?_
    refine a_s rfl rfl ?_
    refine a_puti rfl pfX12_53_12 rfl ?_
    refine a_l1 rfl rfl rfl ?_
    exact a_iret rfl rfl ⟨⟨_, rfl⟩, nd, np, _, _, rfl, fin⟩
  · refine a_l2 rfl rfl rfl ?_
    refine a_s rfl rfl ?_
    refine a_ic_ge rfl (fun c => absurd c (nI_ge (b := 849) hj (by omega))) (fun _ => ?_)
    refine a_l0 rfl rfl rfl ?_
    refine a_getq rfl gfX12_13_12 rfl (rfl) ?_
    refine a_s rfl rfl ?_
    refine a_l2 rfl rfl rfl ?_
    refine a_s rfl rfl ?_
    refine a_top (y := nI (335 + j)) (nI_addl 335 j) ?_
    refine a_l0 rfl rfl rfl ?_
    refine a_getq rfl gfX12_13_12 rfl (rfl) ?_
    refine a_s rfl rfl ?_
    refine a_l2 rfl rfl rfl ?_
    refine a_s rfl rfl ?_
    refine a_top (y := nI (1184 + j)) (nI_addl 1184 j) ?_
    refine a_ialdv (v := up2 K 421 1184 (nI nl) 421 (j + 1184)) rfl (n := 2033) rfl (inI_nI (by omega) (by omega)) (by rw [nI_clamp (by omega), cpR_out (by omega), Nat.add_comm]) ?_
    refine a_iastv (k := 335 + j) rfl (n := 2033) rfl (inI_nI (by omega) (by omega)) (nI_clamp (by omega)) ?_
    rw [cpR_succ]
    refine a_i2 rfl rfl rfl ?_
    refine a_goto rfl ?_
    exact a_back ih (by simp [lsub, nI_1]) rfl
end T74
end
section
/-! ===== texts as functions: signs, tokens, values ===== -/
section P75
/-- a sign's kind: 4 a blank, 1 a letter, 2 a digit, 3 another -/
def kcF (x : Int32) : Nat := if x = 32 then 4 else if 97 ≤ x ∧ x ≤ 122 then 1 else if 48 ≤ x ∧ x ≤ 57 then 2 else 3
def isK (T : Nat → Int32) (e k p : Nat) : Bool := decide (p < e ∧ kcF (T p) = k)
def rnA (T : Nat → Int32) (e k : Nat) : Nat → Nat → Nat
  | 0, p => p
  | m + 1, p => if isK T e k p = true then rnA T e k m (p + 1) else p
/-- as far as signs of a kind go on -/
def rn (T : Nat → Int32) (e k p : Nat) : Nat := rnA T e k (e - p) p
def kd (T : Nat → Int32) (e b : Nat) : Nat := if b < e then kcF (T b) else 0
def en (T : Nat → Int32) (e b : Nat) : Nat := if kd T e b = 0 then b else if kd T e b = 1 then rn T e 1 b else if kd T e b = 2 then rn T e 2 b else b + 1
/-- where the thing behind begins -/
def nx (T : Nat → Int32) (e b : Nat) : Nat := rn T e 4 (en T e b)
def bg (T : Nat → Int32) (e : Nat) : Nat → Nat
  | 0 => rn T e 4 0
  | j + 1 => nx T e (bg T e j)
variable {T : Nat → Int32} {e k p b : Nat}
theorem isK_t (h1 : p < e) (h2 : kcF (T p) = k) : isK T e k p = true := decide_eq_true ⟨h1, h2⟩
theorem isK_lt (h : isK T e k p = true) : p < e := (of_decide_eq_true h).1
theorem isK_kc (h : isK T e k p = true) : kcF (T p) = k := (of_decide_eq_true h).2
theorem isK_f (h : ¬ (p < e ∧ kcF (T p) = k)) : isK T e k p = false := decide_eq_false h
theorem rn_t (h : isK T e k p = true) : rn T e k p = rn T e k (p + 1) := by
  have hp := isK_lt h
  unfold rn
  obtain ⟨m, hm⟩ : ∃ m, e - p = m + 1 := ⟨e - p - 1, by omega⟩
  rw [hm, show e - (p + 1) = m by omega]
  exact if_pos h
theorem rn_f (h : isK T e k p = false) : rn T e k p = p := by
  unfold rn
  generalize e - p = m
  cases m with
  | zero => rfl
  | succ m => exact if_neg (by rw [h]; decide)
theorem rnA_ge : ∀ m p, p ≤ rnA T e k m p := by
  intro m
  induction m with
  | zero => exact fun p => Nat.le_refl p
  | succ m ih =>
    intro p
    by_cases c : isK T e k p = true
    · have h := ih (p + 1)
      rw [show rnA T e k (m + 1) p = rnA T e k m (p + 1) from if_pos c]
      omega
    · rw [show rnA T e k (m + 1) p = p from if_neg c]
      exact Nat.le_refl p
theorem rnA_le : ∀ m p, p ≤ e → rnA T e k m p ≤ e := by
  intro m
  induction m with
  | zero => exact fun p h => h
  | succ m ih =>
    intro p hp
    by_cases c : isK T e k p = true
    · rw [show rnA T e k (m + 1) p = rnA T e k m (p + 1) from if_pos c]
      exact ih (p + 1) (isK_lt c)
    · rw [show rnA T e k (m + 1) p = p from if_neg c]
      exact hp
theorem rnA_st : ∀ m p, e - p ≤ m → isK T e k (rnA T e k m p) = false := by
  intro m
  induction m with
  | zero =>
    intro p h
    exact isK_f (fun z => by have := z.1; have : p < e := z.1; omega)
  | succ m ih =>
    intro p h
    by_cases c : isK T e k p = true
    · rw [show rnA T e k (m + 1) p = rnA T e k m (p + 1) from if_pos c]
      exact ih (p + 1) (by omega)
    · rw [show rnA T e k (m + 1) p = p from if_neg c]
      exact Bool.eq_false_iff.mpr c
theorem rnA_all : ∀ m p q, p ≤ q → q < rnA T e k m p → isK T e k q = true := by
  intro m
  induction m with
  | zero =>
    intro p q h1 h2
    exact absurd h2 (Nat.not_lt.mpr h1)
  | succ m ih =>
    intro p q h1 h2
    by_cases c : isK T e k p = true
    · rw [show rnA T e k (m + 1) p = rnA T e k m (p + 1) from if_pos c] at h2
      by_cases c2 : q = p
      · rw [c2]
        exact c
      · exact ih (p + 1) q (by omega) h2
    · rw [show rnA T e k (m + 1) p = p from if_neg c] at h2
      exact absurd h2 (Nat.not_lt.mpr h1)
theorem rn_ge : p ≤ rn T e k p := rnA_ge _ _
theorem rn_le (h : p ≤ e) : rn T e k p ≤ e := rnA_le _ _ h
theorem rn_st : isK T e k (rn T e k p) = false := rnA_st _ _ (Nat.le_refl _)
theorem rn_all {q : Nat} (h1 : p ≤ q) (h2 : q < rn T e k p) : isK T e k q = true := rnA_all _ _ q h1 h2
theorem rn_rn : rn T e k (rn T e k p) = rn T e k p := rn_f rn_st
theorem rn_e (h : ¬ p < e) : rn T e k p = p := rn_f (isK_f fun z => h z.1)
theorem rn_nk {k2 : Nat} (h : isK T e k2 p = true) (hk : k ≠ k2) : rn T e k p = p := rn_f (isK_f fun z => hk (z.2.symm.trans (isK_kc h)))
theorem kc_cases (x : Int32) : kcF x = 1 ∨ kcF x = 2 ∨ kcF x = 3 ∨ kcF x = 4 := by
  unfold kcF
  by_cases c1 : x = 32
  · rw [if_pos c1]
    omega
  · rw [if_neg c1]
    by_cases c2 : 97 ≤ x ∧ x ≤ 122
    · rw [if_pos c2]
      omega
    · rw [if_neg c2]
      by_cases c3 : 48 ≤ x ∧ x ≤ 57
      · rw [if_pos c3]
        omega
      · rw [if_neg c3]
        omega
theorem kd_lt (h : b < e) : kd T e b = kcF (T b) := if_pos h
theorem kd_ge (h : ¬ b < e) : kd T e b = 0 := if_neg h
theorem kd_in (h : kd T e b ≠ 0) : b < e := by
  by_cases c : b < e
  · exact c
  · exact absurd (kd_ge c) h
theorem kd_0 (h : kd T e b = 0) : ¬ b < e := fun c => by
  rw [kd_lt c] at h
  rcases kc_cases (T b) with z | z | z | z <;> omega
theorem kd_isK (h0 : k ≠ 0) (h : kd T e b = k) : isK T e k b = true := by
  have hb := kd_in (T := T) (e := e) (b := b) (by omega)
  exact isK_t hb (by rw [← kd_lt hb]; exact h)
theorem en_0 (h : ¬ b < e) : en T e b = b := if_pos (kd_ge h)
theorem en_1 (h : kd T e b = 1) : en T e b = rn T e 1 b := by
  unfold en
  rw [h]
  rfl
theorem en_2 (h : kd T e b = 2) : en T e b = rn T e 2 b := by
  unfold en
  rw [h]
  rfl
theorem en_3 (h : kd T e b = 3) : en T e b = b + 1 := by
  unfold en
  rw [h]
  rfl
theorem en_lt (h : b < e) : b < en T e b := by
  rcases kc_cases (T b) with z | z | z | z <;> rw [← kd_lt h] at z
  · rw [en_1 z, rn_t (kd_isK (by decide) z)]
    exact rn_ge
  · rw [en_2 z, rn_t (kd_isK (by decide) z)]
    exact rn_ge
  · rw [en_3 z]
    omega
  · unfold en
    rw [z]
    exact Nat.lt_succ_self b
theorem en_ge : b ≤ en T e b := by
  by_cases c : b < e
  · exact Nat.le_of_lt (en_lt c)
  · rw [en_0 c]
    exact Nat.le_refl b
theorem en_le (h : b ≤ e) : en T e b ≤ e := by
  by_cases c : b < e
  · rcases kc_cases (T b) with z | z | z | z <;> rw [← kd_lt c] at z
    · rw [en_1 z]
      exact rn_le h
    · rw [en_2 z]
      exact rn_le h
    · rw [en_3 z]
      omega
    · unfold en
      rw [z]
      show b + 1 ≤ e
      omega
  · rw [en_0 c]
    exact h
theorem nx_lt (h : b < e) : b < nx T e b := Nat.lt_of_lt_of_le (en_lt h) rn_ge
theorem nx_ge : b ≤ nx T e b := Nat.le_trans en_ge rn_ge
theorem nx_le (h : b ≤ e) : nx T e b ≤ e := rn_le (en_le h)
theorem nx_e (h : ¬ b < e) : nx T e b = b := by
  unfold nx
  rw [en_0 h, rn_e h]
theorem nx_sk : rn T e 4 (nx T e b) = nx T e b := rn_rn
theorem bg_sk : ∀ j, rn T e 4 (bg T e j) = bg T e j := by
  intro j
  cases j with
  | zero => exact rn_rn
  | succ j => exact rn_rn
theorem bg_le : ∀ j, bg T e j ≤ e := by
  intro j
  induction j with
  | zero => exact rn_le (Nat.zero_le _)
  | succ j ih => exact nx_le ih
theorem bg_ge : ∀ j, (∀ i, i < j → bg T e i < e) → j ≤ bg T e j := by
  intro j
  induction j with
  | zero => exact fun _ => Nat.zero_le _
  | succ j ih =>
    intro h
    have h1 := ih fun i hi => h i (by omega)
    have h2 := nx_lt (T := T) (h j (by omega))
    show j + 1 ≤ nx T e (bg T e j)
    omega
/-- behind blanks there is none -/
theorem sk_kd (h : rn T e 4 b = b) : kd T e b ≠ 4 := fun z => by
  have h2 := rn_st (T := T) (e := e) (k := 4) (p := b)
  rw [h, kd_isK (by decide) z] at h2
  cases h2
/-- the text of a word stands there -/
def isW (T : Nat → Int32) (b l k : Nat) : Bool := decide (l = wLen k ∧ ∀ j, j < wLen k → T (b + j) = wC k j)
def srA (P : Nat → Bool) : Nat → Nat → Nat
  | 0, i => i
  | m + 1, i => if P i = true then i else srA P m (i + 1)
theorem srA_all (P : Nat → Bool) : ∀ m i, i ≤ srA P m i ∧ srA P m i ≤ i + m ∧ (srA P m i < i + m → P (srA P m i) = true) ∧ ∀ j, i ≤ j → j < srA P m i → P j = false := by
  intro m
  induction m with
  | zero => exact fun i => ⟨Nat.le_refl _, Nat.le_refl _, fun h => absurd h (Nat.lt_irrefl _), fun j h1 h2 => absurd h2 (Nat.not_lt.mpr h1)⟩
  | succ m ih =>
    intro i
    by_cases c : P i = true
    · rw [show srA P (m + 1) i = i from if_pos c]
      exact ⟨Nat.le_refl _, by omega, fun _ => c, fun j h1 h2 => absurd h2 (Nat.not_lt.mpr h1)⟩
    · rw [show srA P (m + 1) i = srA P m (i + 1) from if_neg c]
      obtain ⟨h1, h2, h3, h4⟩ := ih (i + 1)
      refine ⟨by omega, by omega, fun h => h3 (by omega), fun j g1 g2 => ?_⟩
      by_cases c2 : j = i
      · rw [c2]
        exact Bool.eq_false_iff.mpr c
      · exact h4 j (by omega) g2
/-- which word it is: 27 none -/
def wd (T : Nat → Int32) (e b : Nat) : Nat := srA (isW T b (en T e b - b)) 27 0
theorem wd_le : wd T e b ≤ 27 := by
  have := (srA_all (isW T b (en T e b - b)) 27 0).2.1
  unfold wd
  omega
theorem wd_is (h : wd T e b < 27) : isW T b (en T e b - b) (wd T e b) = true := (srA_all (isW T b (en T e b - b)) 27 0).2.2.1 (by unfold wd at h; omega)
theorem w_apart : ∀ k, k < 27 → ∀ k2, k2 < 27 → k ≠ k2 → wLen k = wLen k2 → ∃ j, j < 9 ∧ j < wLen k ∧ wC k j ≠ wC k2 j := by decide +kernel
theorem isW_one {l k2 : Nat} (hk : k < 27) (hk2 : k2 < 27) (h1 : isW T b l k = true) (h2 : isW T b l k2 = true) : k = k2 := by
  by_cases c : k = k2
  · exact c
  · obtain ⟨a1, a2⟩ := of_decide_eq_true h1
    obtain ⟨b1, b2⟩ := of_decide_eq_true h2
    obtain ⟨j, -, j2, j3⟩ := w_apart k hk k2 hk2 c (a1.symm.trans b1)
    exact absurd ((a2 j j2).symm.trans (b2 j (by rw [← b1, a1]; exact j2))) j3
theorem wd_eq (hk : k < 27) (h : isW T b (en T e b - b) k = true) : wd T e b = k := by
  have h1 := srA_all (isW T b (en T e b - b)) 27 0
  have h2 : wd T e b ≤ k := Nat.not_lt.mp fun z => by
    rw [h1.2.2.2 k (Nat.zero_le _) z] at h
    cases h
  exact isW_one (by omega) hk (wd_is (by omega)) h
def nuF (T : Nat → Int32) (b : Nat) : Nat → Int32
  | 0 => 0
  | j + 1 => nuF T b j * 10 + T (b + j) - 48
/-- what a thing is worth: a word's number, a number, a sign -/
def vl (T : Nat → Int32) (e b : Nat) : Int32 := if kd T e b = 0 then -1 else if kd T e b = 1 then (if wd T e b < 27 then nI (wd T e b) else -1) else if kd T e b = 2 then (if 3 < en T e b - b then -1 else nuF T b (en T e b - b)) else T b &&& 255
theorem vl_0 (h : kd T e b = 0) : vl T e b = -1 := if_pos h
theorem vl_1 (h : kd T e b = 1) : vl T e b = if wd T e b < 27 then nI (wd T e b) else -1 := by
  unfold vl
  rw [h]
  rfl
theorem vl_2 (h : kd T e b = 2) : vl T e b = if 3 < en T e b - b then -1 else nuF T b (en T e b - b) := by
  unfold vl
  rw [h]
  rfl
theorem vl_3 (h : kd T e b = 3) : vl T e b = T b &&& 255 := by
  unfold vl
  rw [h]
  rfl
def isWd (T : Nat → Int32) (e b k : Nat) : Bool := decide (kd T e b = 1 ∧ wd T e b = k)
def sg (T : Nat → Int32) (e b : Nat) (c : Int32) : Bool := decide (kd T e b = 3 ∧ vl T e b = c)
def nm (T : Nat → Int32) (e b : Nat) (lo hi : Int32) : Int32 := if kd T e b = 2 ∧ lo ≤ vl T e b ∧ vl T e b ≤ hi then vl T e b else -1
theorem isWd_lt (h : isWd T e b k = true) : b < e := kd_in (by rw [(of_decide_eq_true h).1]; decide)
theorem sg_lt {c : Int32} (h : sg T e b c = true) : b < e := kd_in (by rw [(of_decide_eq_true h).1]; decide)
theorem sg_wd {c : Int32} (h : sg T e b c = true) : isWd T e b k = false := decide_eq_false fun z => by
  have h1 := (of_decide_eq_true h).1
  rw [z.1] at h1
  cases h1
theorem wd_sg {c : Int32} (h : isWd T e b k = true) : sg T e b c = false := decide_eq_false fun z => by
  have h1 := (of_decide_eq_true h).1
  rw [z.1] at h1
  cases h1
theorem isWd_one {k2 : Nat} (h : isWd T e b k = true) (hn : k ≠ k2) : isWd T e b k2 = false := decide_eq_false fun z => hn ((of_decide_eq_true h).2.symm.trans z.2)
theorem sg_one {c c2 : Int32} (h : sg T e b c = true) (hn : c ≠ c2) : sg T e b c2 = false := decide_eq_false fun z => hn ((of_decide_eq_true h).2.symm.trans z.2)
/-- the row of a tape holds bytes -/
def BtT (T : Nat → Int32) : Prop := ∀ k, k < 400 → ∃ n, n < 256 ∧ T k = nI n - 128
theorem bt_kc : ∀ n, n < 256 → kcF ((nI n - 128) &&& 255) = kcF (nI n - 128) := by decide +kernel
theorem bt_dg : ∀ n, n < 256 → kcF (nI n - 128) = 2 → (nI n - 128) &&& 255 = nI n - 128 ∧ 48 ≤ nI n - 128 ∧ nI n - 128 ≤ 57 := by decide +kernel
theorem bt_lt : ∀ n, n < 256 → kcF (nI n - 128) = 1 → (nI n - 128) &&& 255 = nI n - 128 := by decide +kernel
theorem bt_sg : ∀ n, n < 256 → ∀ c, c ∈ [40, 41, 43, 59, 60, 62] → (((nI n - 128) &&& 255 = nI c ↔ nI n - 128 = nI c) ∧ (nI n - 128 = nI c → kcF (nI n - 128) = 3)) := by decide +kernel
end P75
end
section
/-! ===== sums and conditions of a law, as the reference reads them and as the class does ===== -/
section P76
/-- whether it stands, where it ends or what is wrong, what was emitted (the latest first) -/
abbrev PR : Type := Bool × Nat × List Int32
def prt (T : Nat → Int32) (e b : Nat) : Int32 := if kd T e b = 2 then vl T e b else if kd T e b = 1 then wPa (wd T e b) else -1
theorem prt_lt {T : Nat → Int32} {e b : Nat} (h : ¬ prt T e b = -1) : b < e := by
  by_cases c : b < e
  · exact c
  · exfalso
    apply h
    unfold prt
    rw [kd_ge c]
    rfl
def smL (T : Nat → Int32) (e b : Nat) (o : List Int32) : PR :=
  if h : sg T e b 43 = true then (if prt T e (nx T e b) = -1 then (false, nx T e b, []) else smL T e (nx T e (nx T e b)) (2000 :: prt T e (nx T e b) :: o)) else (true, b, o)
termination_by e - b
decreasing_by
  have h1 := sg_lt h
  have h2 := nx_lt (T := T) h1
  have h3 := nx_ge (T := T) (e := e) (b := nx T e b)
  omega
def sumP (T : Nat → Int32) (e b : Nat) (o : List Int32) : PR := if prt T e b = -1 then (false, b, []) else smL T e (nx T e b) (prt T e b :: o)
def cmpP (T : Nat → Int32) (e : Nat) (op : Int32) (b : Nat) (o : List Int32) : PR := if (sumP T e b o).1 = true then (true, (sumP T e b o).2.1, op :: (sumP T e b o).2.2) else (false, (sumP T e b o).2.1, [])
def baseP (T : Nat → Int32) (e b : Nat) (o : List Int32) : PR :=
  if isWd T e b 22 = true then (true, nx T e b, 1007 :: o) else if isWd T e b 23 = true then (true, nx T e b, 1008 :: o) else
  if (sumP T e b o).1 = true then
    (if sg T e (sumP T e b o).2.1 60 = true then cmpP T e 2001 (nx T e (sumP T e b o).2.1) (sumP T e b o).2.2 else
     if sg T e (sumP T e b o).2.1 62 = true then cmpP T e 2002 (nx T e (sumP T e b o).2.1) (sumP T e b o).2.2 else (false, (sumP T e b o).2.1, []))
  else (false, (sumP T e b o).2.1, [])
def loopP (T : Nat → Int32) (e : Nat) (item : Nat → List Int32 → PR) (k : Nat) (op : Int32) (b : Nat) (o : List Int32) : PR :=
  if h : isWd T e b k = true then
    (if g : b < (item (nx T e b) o).2.1 then
      (if (item (nx T e b) o).1 = true then loopP T e item k op (item (nx T e b) o).2.1 (op :: (item (nx T e b) o).2.2) else (false, (item (nx T e b) o).2.1, []))
     else (false, (item (nx T e b) o).2.1, []))
  else (true, b, o)
termination_by e - b
decreasing_by
  have h1 := isWd_lt h
  omega
def seqP (T : Nat → Int32) (e : Nat) (item : Nat → List Int32 → PR) (k : Nat) (op : Int32) (b : Nat) (o : List Int32) : PR :=
  if (item b o).1 = true then loopP T e item k op (item b o).2.1 (item b o).2.2 else (false, (item b o).2.1, [])
def cndP (T : Nat → Int32) (e : Nat) (item : Nat → List Int32 → PR) : Nat → List Int32 → PR := seqP T e (seqP T e item 20 2004) 19 2005
def opn (T : Nat → Int32) (e b : Nat) : Bool := isWd T e b 21 || sg T e b 40
/-- an atom, so many ( and not deep at most -/
def atomR (T : Nat → Int32) (e : Nat) : Nat → Nat → List Int32 → PR
  | 0, b, o => if opn T e b = true then (false, b, []) else baseP T e b o
  | D + 1, b, o =>
    if sg T e b 40 = true then
      (if (cndP T e (atomR T e D) (nx T e b) o).1 = true then
        (if sg T e (cndP T e (atomR T e D) (nx T e b) o).2.1 41 = true then (true, nx T e (cndP T e (atomR T e D) (nx T e b) o).2.1, (cndP T e (atomR T e D) (nx T e b) o).2.2) else (false, (cndP T e (atomR T e D) (nx T e b) o).2.1, []))
       else (false, (cndP T e (atomR T e D) (nx T e b) o).2.1, []))
    else if isWd T e b 21 = true then
      (if (atomR T e D (nx T e b) o).1 = true then (true, (atomR T e D (nx T e b) o).2.1, 2003 :: (atomR T e D (nx T e b) o).2.2) else (false, (atomR T e D (nx T e b) o).2.1, []))
    else baseP T e b o
def condR (T : Nat → Int32) (e D : Nat) : Nat → List Int32 → PR := cndP T e (atomR T e D)
/-- what waits and binds as strongly at least -/
def popF (op : Int32) : List Int32 → Int32 → List Int32 → List Int32 × Int32 × List Int32
  | [], d, o => ([], d, o)
  | x :: r, d, o => if x ≤ op then popF op r (if x = 2003 then d - 1 else d) (x :: o) else (x :: r, d, o)
def brk : List Int32 → Nat
  | [] => 0
  | x :: r => if x ≤ 2005 then brk r else brk r + 1
def ends (b : Nat) (p : List Int32 × Int32 × List Int32) : PR := match p.1 with
  | [] => (true, b, p.2.2)
  | _ :: _ => (false, b, [])
/-- the class's reader of conditions, a step at a time: an atom is wanted (false), or one has been read (true) -/
def run (T : Nat → Int32) (e : Nat) : Nat → Bool → Nat → List Int32 → Int32 → List Int32 → Option PR
  | 0, _, _, _, _, _ => none
  | f + 1, false, b, st, d, o => if 0 ≤ d ∧ st.length < 32 then
      (if opn T e b = true then (if 6 ≤ d then some (false, b, []) else run T e f false (nx T e b) ((if isWd T e b 21 = true then 2003 else 2006) :: st) (d + 1) o)
       else (if (baseP T e b o).1 = true then run T e f true (baseP T e b o).2.1 st d (baseP T e b o).2.2 else some (false, (baseP T e b o).2.1, []))) else none
  | f + 1, true, b, st, d, o => if brk st ≤ 6 ∧ st.length ≤ 32 then
      (if sg T e b 41 = true then (match (popF 2005 st d o).1 with
        | [] => some (true, b, (popF 2005 st d o).2.2)
        | _ :: r => run T e f true (nx T e b) r ((popF 2005 st d o).2.1 - 1) (popF 2005 st d o).2.2)
       else if isWd T e b 20 = true then run T e f false (nx T e b) (2004 :: (popF 2004 st d o).1) (popF 2004 st d o).2.1 (popF 2004 st d o).2.2
       else if isWd T e b 19 = true then run T e f false (nx T e b) (2005 :: (popF 2005 st d o).1) (popF 2005 st d o).2.1 (popF 2005 st d o).2.2
       else some (ends b (popF 2005 st d o))) else none
variable {T : Nat → Int32} {e b : Nat} {o : List Int32}
theorem smL_t (h : sg T e b 43 = true) (hp : ¬ prt T e (nx T e b) = -1) : smL T e b o = smL T e (nx T e (nx T e b)) (2000 :: prt T e (nx T e b) :: o) := by
  rw [smL, dif_pos h, if_neg hp]
theorem smL_n (h : sg T e b 43 = true) (hp : prt T e (nx T e b) = -1) : smL T e b o = (false, nx T e b, []) := by
  rw [smL, dif_pos h, if_pos hp]
theorem smL_f (h : sg T e b 43 = false) : smL T e b o = (true, b, o) := by
  rw [smL, dif_neg (by rw [h]; decide)]
theorem loopP_f {item : Nat → List Int32 → PR} {k : Nat} {op : Int32} (h : isWd T e b k = false) : loopP T e item k op b o = (true, b, o) := by
  rw [loopP, dif_neg (by rw [h]; decide)]
theorem loopP_t {item : Nat → List Int32 → PR} {k : Nat} {op : Int32} (h : isWd T e b k = true) (g : b < (item (nx T e b) o).2.1) (h1 : (item (nx T e b) o).1 = true) : loopP T e item k op b o = loopP T e item k op (item (nx T e b) o).2.1 (op :: (item (nx T e b) o).2.2) := by
  rw [loopP, dif_pos h, dif_pos g, if_pos h1]
theorem loopP_n {item : Nat → List Int32 → PR} {k : Nat} {op : Int32} (h : isWd T e b k = true) (h1 : ¬ (item (nx T e b) o).1 = true) : loopP T e item k op b o = (false, (item (nx T e b) o).2.1, []) := by
  rw [loopP, dif_pos h]
  by_cases g : b < (item (nx T e b) o).2.1
  · rw [dif_pos g, if_neg h1]
  · rw [dif_neg g]
/-- it goes on, within the text, and emits no more than it takes -/
def Gd (e b : Nat) (o : List Int32) (r : PR) : Prop := b ≤ r.2.1 ∧ r.2.1 ≤ e ∧ (r.1 = true → b < r.2.1 ∧ r.2.2.length + b ≤ o.length + r.2.1)
theorem Gd.no {b1 : Nat} (h : b ≤ b1) (h2 : b1 ≤ e) : Gd e b o (false, b1, []) := ⟨h, h2, fun z => by cases z⟩
theorem smL_gd : ∀ (n b : Nat) (o : List Int32), e - b ≤ n → b ≤ e → b ≤ (smL T e b o).2.1 ∧ (smL T e b o).2.1 ≤ e ∧ ((smL T e b o).1 = true → (smL T e b o).2.2.length + b ≤ o.length + (smL T e b o).2.1) := by
  intro n
  induction n with
  | zero =>
    intro b o h1 h2
    have hf : sg T e b 43 = false := by
      cases hs : sg T e b 43 with
      | false => rfl
      | true => have := sg_lt hs; omega
    rw [smL_f hf]
    exact ⟨Nat.le_refl _, h2, fun _ => Nat.le_refl _⟩
  | succ n ih =>
    intro b o h1 h2
    cases hs : sg T e b 43 with
    | false =>
      rw [smL_f hs]
      exact ⟨Nat.le_refl _, h2, fun _ => Nat.le_refl _⟩
    | true =>
      have hb := sg_lt hs
      have n1 := nx_lt (T := T) hb
      have n2 := nx_le (T := T) h2
      by_cases hp : prt T e (nx T e b) = -1
      · rw [smL_n hs hp]
        exact ⟨Nat.le_of_lt n1, n2, fun z => by cases z⟩
      · have n3 := nx_lt (T := T) (prt_lt hp)
        have n4 := nx_le (T := T) n2
        rw [smL_t hs hp]
        obtain ⟨g1, g2, g3⟩ := ih (nx T e (nx T e b)) (2000 :: prt T e (nx T e b) :: o) (by omega) n4
        refine ⟨by omega, g2, fun z => ?_⟩
        have := g3 z
        simp only [List.length_cons] at this
        omega
theorem sumP_gd (h : b ≤ e) : Gd e b o (sumP T e b o) := by
  unfold sumP
  by_cases hp : prt T e b = -1
  · rw [if_pos hp]
    exact Gd.no (Nat.le_refl _) h
  · rw [if_neg hp]
    have n1 := nx_lt (T := T) (prt_lt hp)
    obtain ⟨g1, g2, g3⟩ := smL_gd (T := T) _ (nx T e b) (prt T e b :: o) (Nat.le_refl _) (nx_le h)
    refine ⟨by omega, g2, fun z => ⟨by omega, ?_⟩⟩
    have := g3 z
    simp only [List.length_cons] at this
    omega
theorem cmpP_gd {op : Int32} {b0 : Nat} {o0 : List Int32} (hb : b0 < b) (h : b ≤ e) (ho : o.length + b0 < o0.length + b) : Gd e b0 o0 (cmpP T e op b o) := by
  obtain ⟨g1, g2, g3⟩ := sumP_gd (T := T) (o := o) h
  unfold cmpP
  by_cases c : (sumP T e b o).1 = true
  · rw [if_pos c]
    obtain ⟨g4, g5⟩ := g3 c
    refine ⟨by show b0 ≤ (sumP T e b o).2.1; omega, g2, fun _ => ⟨by show b0 < (sumP T e b o).2.1; omega, ?_⟩⟩
    show (op :: (sumP T e b o).2.2).length + b0 ≤ o0.length + (sumP T e b o).2.1
    simp only [List.length_cons]
    omega
  · rw [if_neg c]
    exact Gd.no (by omega) g2
theorem baseP_gd (h : b ≤ e) : Gd e b o (baseP T e b o) := by
  unfold baseP
  by_cases c1 : isWd T e b 22 = true
  · rw [if_pos c1]
    have n1 := nx_lt (T := T) (isWd_lt c1)
    exact ⟨Nat.le_of_lt n1, nx_le h, fun _ => ⟨n1, by show o.length + 1 + b ≤ o.length + nx T e b; omega⟩⟩
  rw [if_neg c1]
  by_cases c2 : isWd T e b 23 = true
  · rw [if_pos c2]
    have n1 := nx_lt (T := T) (isWd_lt c2)
    exact ⟨Nat.le_of_lt n1, nx_le h, fun _ => ⟨n1, by show o.length + 1 + b ≤ o.length + nx T e b; omega⟩⟩
  rw [if_neg c2]
  obtain ⟨g1, g2, g3⟩ := sumP_gd (T := T) (o := o) h
  by_cases c3 : (sumP T e b o).1 = true
  · rw [if_pos c3]
    obtain ⟨g4, g5⟩ := g3 c3
    by_cases c4 : sg T e (sumP T e b o).2.1 60 = true
    · rw [if_pos c4]
      have n1 := nx_lt (T := T) (sg_lt c4)
      exact cmpP_gd (by omega) (nx_le g2) (by omega)
    rw [if_neg c4]
    by_cases c5 : sg T e (sumP T e b o).2.1 62 = true
    · rw [if_pos c5]
      have n1 := nx_lt (T := T) (sg_lt c5)
      exact cmpP_gd (by omega) (nx_le g2) (by omega)
    rw [if_neg c5]
    exact Gd.no g1 g2
  · rw [if_neg c3]
    exact Gd.no g1 g2
theorem loopP_gd {item : Nat → List Int32 → PR} {k : Nat} {op : Int32} (hi : ∀ b o, b ≤ e → Gd e b o (item b o)) : ∀ (n b : Nat) (o : List Int32), e - b ≤ n → b ≤ e → b ≤ (loopP T e item k op b o).2.1 ∧ (loopP T e item k op b o).2.1 ≤ e ∧ ((loopP T e item k op b o).1 = true → (loopP T e item k op b o).2.2.length + b ≤ o.length + (loopP T e item k op b o).2.1) := by
  intro n
  induction n with
  | zero =>
    intro b o h1 h2
    have hf : isWd T e b k = false := by
      cases hs : isWd T e b k with
      | false => rfl
      | true => have := isWd_lt hs; omega
    rw [loopP_f hf]
    exact ⟨Nat.le_refl _, h2, fun _ => Nat.le_refl _⟩
  | succ n ih =>
    intro b o h1 h2
    cases hs : isWd T e b k with
    | false =>
      rw [loopP_f hs]
      exact ⟨Nat.le_refl _, h2, fun _ => Nat.le_refl _⟩
    | true =>
      have hb := isWd_lt hs
      have n1 := nx_lt (T := T) hb
      obtain ⟨g1, g2, g3⟩ := hi (nx T e b) o (nx_le h2)
      by_cases c : (item (nx T e b) o).1 = true
      · obtain ⟨g4, g5⟩ := g3 c
        rw [loopP_t hs (by omega) c]
        obtain ⟨q1, q2, q3⟩ := ih (item (nx T e b) o).2.1 (op :: (item (nx T e b) o).2.2) (by omega) g2
        refine ⟨by omega, q2, fun z => ?_⟩
        have := q3 z
        simp only [List.length_cons] at this
        omega
      · rw [loopP_n hs c]
        exact ⟨by show b ≤ (item (nx T e b) o).2.1; omega, g2, fun z => by cases z⟩
theorem seqP_gd {item : Nat → List Int32 → PR} {k : Nat} {op : Int32} (hi : ∀ b o, b ≤ e → Gd e b o (item b o)) (h : b ≤ e) : Gd e b o (seqP T e item k op b o) := by
  unfold seqP
  obtain ⟨g1, g2, g3⟩ := hi b o h
  by_cases c : (item b o).1 = true
  · rw [if_pos c]
    obtain ⟨g4, g5⟩ := g3 c
    obtain ⟨q1, q2, q3⟩ := loopP_gd (T := T) (k := k) (op := op) hi _ (item b o).2.1 (item b o).2.2 (Nat.le_refl _) g2
    exact ⟨by omega, q2, fun z => ⟨by omega, by have := q3 z; omega⟩⟩
  · rw [if_neg c]
    exact Gd.no g1 g2
theorem cndP_gd {item : Nat → List Int32 → PR} (hi : ∀ b o, b ≤ e → Gd e b o (item b o)) (h : b ≤ e) : Gd e b o (cndP T e item b o) := seqP_gd (fun _ _ h => seqP_gd hi h) h
theorem atomR_gd : ∀ (D b : Nat) (o : List Int32), b ≤ e → Gd e b o (atomR T e D b o) := by
  intro D
  induction D with
  | zero =>
    intro b o h
    unfold atomR
    by_cases c : opn T e b = true
    · rw [if_pos c]
      exact Gd.no (Nat.le_refl _) h
    · rw [if_neg c]
      exact baseP_gd h
  | succ D ih =>
    intro b o h
    unfold atomR
    by_cases c : sg T e b 40 = true
    · rw [if_pos c]
      have n1 := nx_lt (T := T) (sg_lt c)
      obtain ⟨g1, g2, g3⟩ := cndP_gd (T := T) (o := o) ih (nx_le (T := T) h)
      by_cases c1 : (cndP T e (atomR T e D) (nx T e b) o).1 = true
      · rw [if_pos c1]
        obtain ⟨g4, g5⟩ := g3 c1
        by_cases c2 : sg T e (cndP T e (atomR T e D) (nx T e b) o).2.1 41 = true
        · rw [if_pos c2]
          have n2 := nx_lt (T := T) (sg_lt c2)
          exact ⟨by show b ≤ nx T e _; omega, nx_le g2, fun _ => ⟨by show b < nx T e _; omega, by show (cndP T e (atomR T e D) (nx T e b) o).2.2.length + b ≤ o.length + nx T e _; omega⟩⟩
        · rw [if_neg c2]
          exact Gd.no (by omega) g2
      · rw [if_neg c1]
        exact Gd.no (by omega) g2
    · rw [if_neg c]
      by_cases c1 : isWd T e b 21 = true
      · rw [if_pos c1]
        have n1 := nx_lt (T := T) (isWd_lt c1)
        obtain ⟨g1, g2, g3⟩ := ih (nx T e b) o (nx_le h)
        by_cases c2 : (atomR T e D (nx T e b) o).1 = true
        · rw [if_pos c2]
          obtain ⟨g4, g5⟩ := g3 c2
          exact ⟨by show b ≤ (atomR T e D (nx T e b) o).2.1; omega, g2, fun _ => ⟨by show b < (atomR T e D (nx T e b) o).2.1; omega, by show (2003 :: (atomR T e D (nx T e b) o).2.2).length + b ≤ o.length + (atomR T e D (nx T e b) o).2.1; simp only [List.length_cons]; omega⟩⟩
        · rw [if_neg c2]
          exact Gd.no (by omega) g2
      · rw [if_neg c1]
        exact baseP_gd h
theorem condR_gd {D : Nat} (h : b ≤ e) : Gd e b o (condR T e D b o) := cndP_gd (fun b o h => atomR_gd D b o h) h
end P76
end
section
/-! ===== the class's reader of conditions reads what the reference reads ===== -/
section P77
variable {T : Nat → Int32} {e b : Nat} {o : List Int32} {st : List Int32} {d : Int32} {R : PR}
def Rn (T : Nat → Int32) (e : Nat) (md : Bool) (b : Nat) (st : List Int32) (d : Int32) (o : List Int32) (R : PR) : Prop := ∃ f, run T e f md b st d o = some R
theorem Rn_open (h0 : 0 ≤ d) (hl : st.length < 32) (ho : opn T e b = true) (h6 : ¬ 6 ≤ d) (hR : Rn T e false (nx T e b) ((if isWd T e b 21 = true then 2003 else 2006) :: st) (d + 1) o R) : Rn T e false b st d o R := by
  obtain ⟨f, hf⟩ := hR
  refine ⟨f + 1, ?_⟩
  unfold run
  rw [if_pos ⟨h0, hl⟩, if_pos ho, if_neg h6]
  exact hf
theorem Rn_deep (h0 : 0 ≤ d) (hl : st.length < 32) (ho : opn T e b = true) (h6 : 6 ≤ d) : Rn T e false b st d o (false, b, []) := by
  refine ⟨1, ?_⟩
  unfold run
  rw [if_pos ⟨h0, hl⟩, if_pos ho, if_pos h6]
theorem Rn_base (h0 : 0 ≤ d) (hl : st.length < 32) (ho : ¬ opn T e b = true) (h1 : (baseP T e b o).1 = true) (hR : Rn T e true (baseP T e b o).2.1 st d (baseP T e b o).2.2 R) : Rn T e false b st d o R := by
  obtain ⟨f, hf⟩ := hR
  refine ⟨f + 1, ?_⟩
  unfold run
  rw [if_pos ⟨h0, hl⟩, if_neg ho, if_pos h1]
  exact hf
theorem Rn_bad (h0 : 0 ≤ d) (hl : st.length < 32) (ho : ¬ opn T e b = true) (h1 : ¬ (baseP T e b o).1 = true) : Rn T e false b st d o (false, (baseP T e b o).2.1, []) := by
  refine ⟨1, ?_⟩
  unfold run
  rw [if_pos ⟨h0, hl⟩, if_neg ho, if_neg h1]
theorem Rn_close {x : Int32} {r : List Int32} {d1 : Int32} {o1 : List Int32} (hb : brk st ≤ 6 ∧ st.length ≤ 32) (hs : sg T e b 41 = true) (hp : popF 2005 st d o = (x :: r, d1, o1)) (hR : Rn T e true (nx T e b) r (d1 - 1) o1 R) : Rn T e true b st d o R := by
  obtain ⟨f, hf⟩ := hR
  refine ⟨f + 1, ?_⟩
  unfold run
  rw [if_pos hb, if_pos hs, hp]
  exact hf
theorem Rn_over {d1 : Int32} {o1 : List Int32} (hb : brk st ≤ 6 ∧ st.length ≤ 32) (hs : sg T e b 41 = true) (hp : popF 2005 st d o = ([], d1, o1)) : Rn T e true b st d o (true, b, o1) := by
  refine ⟨1, ?_⟩
  unfold run
  rw [if_pos hb, if_pos hs, hp]
theorem Rn_and (hb : brk st ≤ 6 ∧ st.length ≤ 32) (hw : isWd T e b 20 = true) (hR : Rn T e false (nx T e b) (2004 :: (popF 2004 st d o).1) (popF 2004 st d o).2.1 (popF 2004 st d o).2.2 R) : Rn T e true b st d o R := by
  obtain ⟨f, hf⟩ := hR
  refine ⟨f + 1, ?_⟩
  unfold run
  rw [if_pos hb, if_neg (by rw [wd_sg hw]; decide), if_pos hw]
  exact hf
theorem Rn_or (hb : brk st ≤ 6 ∧ st.length ≤ 32) (hw : isWd T e b 19 = true) (hR : Rn T e false (nx T e b) (2005 :: (popF 2005 st d o).1) (popF 2005 st d o).2.1 (popF 2005 st d o).2.2 R) : Rn T e true b st d o R := by
  obtain ⟨f, hf⟩ := hR
  refine ⟨f + 1, ?_⟩
  unfold run
  rw [if_pos hb, if_neg (by rw [wd_sg hw]; decide), if_neg (by rw [isWd_one hw (by decide)]; decide), if_pos hw]
  exact hf
theorem Rn_end (hb : brk st ≤ 6 ∧ st.length ≤ 32) (hs : sg T e b 41 = false) (h1 : isWd T e b 20 = false) (h2 : isWd T e b 19 = false) : Rn T e true b st d o (ends b (popF 2005 st d o)) := by
  refine ⟨1, ?_⟩
  unfold run
  rw [if_pos hb, if_neg (by rw [hs]; decide), if_neg (by rw [h1]; decide), if_neg (by rw [h2]; decide)]
def PopTo (m : Int32) (s : List Int32) (d1 : Int32) (o2 : List Int32) (d : Int32) (o1 : List Int32) : Prop := ∀ op st, m ≤ op → op ≤ 2005 → popF op (s ++ st) d1 o2 = popF op st d o1
def Top (tp : Int32) (st : List Int32) : Prop := ∀ x r, st = x :: r → ¬ x ≤ tp
theorem popF_top {op : Int32} (h : Top op st) : popF op st d o = (st, d, o) := by
  cases st with
  | nil => rfl
  | cons x r => exact if_neg (h x r rfl)
theorem popF_pop {op x : Int32} (h : x ≤ op) (h2 : x ≠ 2003) : popF op (x :: st) d o = popF op st d (x :: o) := by
  have e1 : popF op (x :: st) d o = popF op st (if x = 2003 then d - 1 else d) (x :: o) := if_pos h
  rw [e1, if_neg h2]
theorem popF_not {op : Int32} (h : 2003 ≤ op) : popF op (2003 :: st) d o = popF op st (d - 1) (2003 :: o) := if_pos h
theorem brk_app {s : List Int32} : brk (s ++ st) = brk s + brk st := by
  induction s with
  | nil => exact (Nat.zero_add _).symm
  | cons x r ih =>
    show (if x ≤ 2005 then brk (r ++ st) else brk (r ++ st) + 1) = (if x ≤ 2005 then brk r else brk r + 1) + brk st
    rw [ih]
    by_cases c : x ≤ 2005
    · rw [if_pos c, if_pos c]
    · rw [if_neg c, if_neg c]
      omega
theorem brk_in {x : Int32} (h : x ≤ 2005) : brk (x :: st) = brk st := if_pos h
theorem brk_out {x : Int32} (h : ¬ x ≤ 2005) : brk (x :: st) = brk st + 1 := if_neg h
/-- the class reads an item (D ( or not more may be open, L less than 20 wait) as it is read -/
def IOK (T : Nat → Int32) (e D L : Nat) (tp m : Int32) (Pb : Nat → Prop) (item : Nat → List Int32 → PR) : Prop := ∀ (b : Nat) (st o : List Int32), b ≤ e → st.length + L ≤ 20 → brk st + D ≤ 6 → Top tp st →
  ((item b o).1 = true → Pb (item b o).2.1 ∧ ∃ s d1 o2, (brk s = 0 ∧ s.length ≤ L) ∧ PopTo m s d1 o2 (nI (6 - D)) (item b o).2.2 ∧ ∀ R, Rn T e true (item b o).2.1 (s ++ st) d1 o2 R → Rn T e false b st (nI (6 - D)) o R) ∧
  (¬ (item b o).1 = true → Rn T e false b st (nI (6 - D)) o (false, (item b o).2.1, []))
theorem seq_ok {item : Nat → List Int32 → PR} {D L k : Nat} {tp m op : Int32} {Pb : Nat → Prop} (hg : ∀ b o, b ≤ e → Gd e b o (item b o)) (hi : IOK T e D L tp m Pb item) (h1 : ¬ op ≤ tp) (h2 : m ≤ op) (h3 : op ≤ 2005) (h4 : op ≠ 2003) (h5 : tp ≤ op)
    (hstep : ∀ b, isWd T e b k = true → ∀ st d o R, brk st ≤ 6 ∧ st.length ≤ 32 → Rn T e false (nx T e b) (op :: (popF op st d o).1) (popF op st d o).2.1 (popF op st d o).2.2 R → Rn T e true b st d o R) : IOK T e D (L + 1) op op (fun b => Pb b ∧ isWd T e b k = false) (seqP T e item k op) := by
  intro b st o hb hl hk ht
  have key : ∀ (n b : Nat) (s : List Int32) (d1 : Int32) (o2 o : List Int32), e - b ≤ n → b ≤ e → Pb b → brk s = 0 ∧ s.length ≤ L + 1 → PopTo op s d1 o2 (nI (6 - D)) o →
      ((loopP T e item k op b o).1 = true → (Pb (loopP T e item k op b o).2.1 ∧ isWd T e (loopP T e item k op b o).2.1 k = false) ∧ ∃ s' d' o', (brk s' = 0 ∧ s'.length ≤ L + 1) ∧ PopTo op s' d' o' (nI (6 - D)) (loopP T e item k op b o).2.2 ∧ ∀ R, Rn T e true (loopP T e item k op b o).2.1 (s' ++ st) d' o' R → Rn T e true b (s ++ st) d1 o2 R) ∧
      (¬ (loopP T e item k op b o).1 = true → Rn T e true b (s ++ st) d1 o2 (false, (loopP T e item k op b o).2.1, [])) := by
    intro n
    induction n with
    | zero =>
      intro b s d1 o2 o hn hb hPb hs0 hpt
      have hf : isWd T e b k = false := by
        cases hs : isWd T e b k with
        | false => rfl
        | true => have := isWd_lt hs; omega
      rw [loopP_f hf]
      exact ⟨fun _ => ⟨⟨hPb, hf⟩, s, d1, o2, hs0, hpt, fun R z => z⟩, fun z => absurd rfl z⟩
    | succ n ih =>
      intro b s d1 o2 o hn hb hPb hs0 hpt
      cases hs : isWd T e b k with
      | false =>
        rw [loopP_f hs]
        exact ⟨fun _ => ⟨⟨hPb, hs⟩, s, d1, o2, hs0, hpt, fun R z => z⟩, fun z => absurd rfl z⟩
      | true =>
        have hbe := isWd_lt hs
        have n1 := nx_lt (T := T) hbe
        have ep : popF op (s ++ st) d1 o2 = (st, nI (6 - D), o) := by rw [hpt op st (Int32.le_refl _) h3, popF_top ht]
        have st1 : ∀ R, Rn T e false (nx T e b) (op :: st) (nI (6 - D)) o R → Rn T e true b (s ++ st) d1 o2 R := fun R z => hstep b hs _ _ _ R ⟨by rw [brk_app, hs0.1]; omega, by rw [List.length_append]; have := hs0.2; omega⟩ (by rw [ep]; exact z)
        obtain ⟨i1, i2⟩ := hi (nx T e b) (op :: st) o (nx_le hb) (by simp only [List.length_cons]; omega) (by rw [brk_in h3]; exact hk) (fun x r z => by cases z; exact h1)
        obtain ⟨g1, g2, g3⟩ := hg (nx T e b) o (nx_le hb)
        by_cases c : (item (nx T e b) o).1 = true
        · obtain ⟨hP2, s1, d2, o3, q1, q2, q3⟩ := i1 c
          rw [loopP_t hs (by omega) c]
          have hpt2 : PopTo op (s1 ++ [op]) d2 o3 (nI (6 - D)) (op :: (item (nx T e b) o).2.2) := fun op2 st2 z1 z2 => by
            rw [List.append_assoc, List.singleton_append, q2 op2 (op :: st2) (Int32.le_trans h2 z1) z2, popF_pop z1 h4]
          obtain ⟨j1, j2⟩ := ih (item (nx T e b) o).2.1 (s1 ++ [op]) d2 o3 (op :: (item (nx T e b) o).2.2) (by omega) g2 hP2 ⟨by rw [brk_app, q1.1, brk_in h3]; rfl, by rw [List.length_append]; exact Nat.succ_le_succ q1.2⟩ hpt2
          have st2 : ∀ R, Rn T e true (item (nx T e b) o).2.1 ((s1 ++ [op]) ++ st) d2 o3 R → Rn T e true b (s ++ st) d1 o2 R := fun R z => st1 R (q3 R (by rw [List.append_assoc, List.singleton_append] at z; exact z))
          refine ⟨fun z => ?_, fun z => st2 _ (j2 z)⟩
          obtain ⟨k1, s3, d3, o4, k2, k3, k4⟩ := j1 z
          exact ⟨k1, s3, d3, o4, k2, k3, fun R z2 => st2 R (k4 R z2)⟩
        · rw [loopP_n hs c]
          exact ⟨fun z => (by cases z), fun _ => st1 _ (i2 c)⟩
  obtain ⟨i1, i2⟩ := hi b st o hb (by omega) hk (fun x r z y => ht x r z (Int32.le_trans y h5))
  obtain ⟨g1, g2, g3⟩ := hg b o hb
  unfold seqP
  by_cases c : (item b o).1 = true
  · rw [if_pos c]
    obtain ⟨hP2, s1, d2, o3, q1, q2, q3⟩ := i1 c
    obtain ⟨j1, j2⟩ := key _ (item b o).2.1 s1 d2 o3 (item b o).2.2 (Nat.le_refl _) g2 hP2 ⟨q1.1, Nat.le_succ_of_le q1.2⟩ (fun op2 st2 z1 z2 => q2 op2 st2 (Int32.le_trans h2 z1) z2)
    refine ⟨fun z => ?_, fun z => q3 _ (j2 z)⟩
    obtain ⟨k1, s3, d3, o4, k2, k3, k4⟩ := j1 z
    exact ⟨k1, s3, d3, o4, k2, k3, fun R z2 => q3 R (k4 R z2)⟩
  · rw [if_neg c]
    exact ⟨fun z => (by cases z), fun _ => i2 c⟩
theorem cnd_ok {item : Nat → List Int32 → PR} {D L : Nat} (hg : ∀ b o, b ≤ e → Gd e b o (item b o)) (hi : IOK T e D L 0 2003 (fun _ => True) item) : IOK T e D (L + 1 + 1) 2005 2005 (fun b => (True ∧ isWd T e b 20 = false) ∧ isWd T e b 19 = false) (cndP T e item) :=
  seq_ok (fun _ _ h => seqP_gd hg h) (seq_ok hg hi (by decide) (by decide) (by decide) (by decide) (by decide) (fun b h st d o R hb hR => Rn_and hb h hR)) (by decide) (by decide) (by decide) (by decide) (by decide) (fun b h st d o R hb hR => Rn_or hb h hR)
theorem nI_6 {D : Nat} (h : D + 1 ≤ 6) : nI (6 - (D + 1)) + 1 = nI (6 - D) := by
  rw [← nI_succ]
  congr 1
  omega
theorem nI_6s {D : Nat} (h : D + 1 ≤ 6) : nI (6 - D) - 1 = nI (6 - (D + 1)) := by
  rw [← nI_6 h, Int32.add_sub_cancel]
theorem nI_6b : ∀ D, D + 1 ≤ 6 → ¬ (6 : Int32) ≤ nI (6 - (D + 1)) := by
  intro D h
  have : ∀ k, k < 6 → ¬ (6 : Int32) ≤ nI k := by decide
  exact this _ (by omega)
theorem nI_0le {k : Nat} (h : k < 2 ^ 31) : (0 : Int32) ≤ nI k := by
  rw [Int32.le_iff_toInt_le, nI_toInt h]
  show (0 : Int) ≤ _
  omega
theorem base_ok {D L : Nat} (hD : D ≤ 6) (hb : b ≤ e) (hl : st.length + L ≤ 20) (ho : ¬ opn T e b = true) :
    ((baseP T e b o).1 = true → True ∧ ∃ s d1 o2, (brk s = 0 ∧ s.length ≤ L) ∧ PopTo 2003 s d1 o2 (nI (6 - D)) (baseP T e b o).2.2 ∧ ∀ R, Rn T e true (baseP T e b o).2.1 (s ++ st) d1 o2 R → Rn T e false b st (nI (6 - D)) o R) ∧
    (¬ (baseP T e b o).1 = true → Rn T e false b st (nI (6 - D)) o (false, (baseP T e b o).2.1, [])) := by
  refine ⟨fun z => ⟨trivial, [], nI (6 - D), (baseP T e b o).2.2, ⟨rfl, Nat.zero_le _⟩, fun op st _ _ => rfl, fun R hR => ?_⟩, fun z => ?_⟩
  · exact Rn_base (nI_0le (by omega)) (by omega) ho z hR
  · exact Rn_bad (nI_0le (by omega)) (by omega) ho z
theorem atom_ok : ∀ D, D ≤ 6 → IOK T e D (3 * D) 0 2003 (fun _ => True) (atomR T e D) := by
  intro D
  induction D with
  | zero =>
    intro hD b st o hb hl hk ht
    unfold atomR
    by_cases c : opn T e b = true
    · rw [if_pos c]
      exact ⟨fun z => (by cases z), fun _ => Rn_deep (by decide) (by omega) c (by decide)⟩
    · rw [if_neg c]
      exact base_ok hD hb hl c
  | succ D ih =>
    intro hD b st o hb hl hk ht
    have ih := ih (by omega)
    have d0 : (0 : Int32) ≤ nI (6 - (D + 1)) := nI_0le (by omega)
    unfold atomR
    by_cases c : sg T e b 40 = true
    · rw [if_pos c]
      have ho : opn T e b = true := by
        unfold opn
        rw [c]
        exact Bool.or_true _
      have op1 : ∀ R, Rn T e false (nx T e b) (2006 :: st) (nI (6 - D)) o R → Rn T e false b st (nI (6 - (D + 1))) o R := fun R z => Rn_open d0 (by omega) ho (nI_6b D hD) (by rw [if_neg (by rw [sg_wd c]; decide), nI_6 hD]; exact z)
      obtain ⟨i1, i2⟩ := cnd_ok (fun b o h => atomR_gd D b o h) ih (nx T e b) (2006 :: st) o (nx_le hb) (by simp only [List.length_cons]; omega) (by rw [brk_out (by decide)]; omega) (fun x r z => by cases z; decide)
      by_cases c1 : (cndP T e (atomR T e D) (nx T e b) o).1 = true
      · rw [if_pos c1]
        obtain ⟨⟨⟨-, hA⟩, hO⟩, s, d1, o2, q1, q2, q3⟩ := i1 c1
        have ep : popF 2005 (s ++ 2006 :: st) d1 o2 = (2006 :: st, nI (6 - D), (cndP T e (atomR T e D) (nx T e b) o).2.2) := by
          rw [q2 2005 (2006 :: st) (Int32.le_refl _) (Int32.le_refl _)]
          exact popF_top (fun x r z => by cases z; decide)
        have hbk : brk (s ++ 2006 :: st) ≤ 6 ∧ (s ++ 2006 :: st).length ≤ 32 := by
          rw [brk_app, q1.1, brk_out (by decide), List.length_append, List.length_cons]
          have := q1.2
          omega
        by_cases c2 : sg T e (cndP T e (atomR T e D) (nx T e b) o).2.1 41 = true
        · rw [if_pos c2]
          refine ⟨fun _ => ⟨trivial, [], nI (6 - (D + 1)), (cndP T e (atomR T e D) (nx T e b) o).2.2, ⟨rfl, Nat.zero_le _⟩, fun op st _ _ => rfl, fun R hR => ?_⟩, fun z => absurd rfl z⟩
          exact op1 R (q3 R (Rn_close hbk c2 ep (by rw [nI_6s hD]; exact hR)))
        · rw [if_neg c2]
          refine ⟨fun z => (by cases z), fun _ => ?_⟩
          have h9 := Rn_end (T := T) (e := e) (d := d1) (o := o2) hbk (Bool.eq_false_iff.mpr c2) hA hO
          rw [ep] at h9
          exact op1 _ (q3 _ h9)
      · rw [if_neg c1]
        exact ⟨fun z => (by cases z), fun _ => op1 _ (i2 c1)⟩
    · rw [if_neg c]
      by_cases c1 : isWd T e b 21 = true
      · rw [if_pos c1]
        have ho : opn T e b = true := by
          unfold opn
          rw [c1]
          exact Bool.true_or _
        have op1 : ∀ R, Rn T e false (nx T e b) (2003 :: st) (nI (6 - D)) o R → Rn T e false b st (nI (6 - (D + 1))) o R := fun R z => Rn_open d0 (by omega) ho (nI_6b D hD) (by rw [if_pos c1, nI_6 hD]; exact z)
        obtain ⟨i1, i2⟩ := ih (nx T e b) (2003 :: st) o (nx_le hb) (by simp only [List.length_cons]; omega) (by rw [brk_in (by decide)]; omega) (fun x r z => by cases z; decide)
        by_cases c2 : (atomR T e D (nx T e b) o).1 = true
        · rw [if_pos c2]
          obtain ⟨-, s, d1, o2, q1, q2, q3⟩ := i1 c2
          refine ⟨fun _ => ⟨trivial, s ++ [2003], d1, o2, ⟨by rw [brk_app, q1.1, brk_in (by decide)]; rfl, by rw [List.length_append]; have := q1.2; show s.length + 1 ≤ _; omega⟩, fun op st2 z1 z2 => ?_, fun R hR => op1 R (q3 R ?_)⟩, fun z => absurd rfl z⟩
          · rw [List.append_assoc, List.singleton_append, q2 op (2003 :: st2) z1 z2, popF_not z1, nI_6s hD]
          · rw [List.append_assoc, List.singleton_append] at hR
            exact hR
        · rw [if_neg c2]
          exact ⟨fun z => (by cases z), fun _ => op1 _ (i2 c2)⟩
      · rw [if_neg c1]
        have ho : ¬ opn T e b = true := by
          unfold opn
          rw [Bool.or_eq_true]
          exact fun z => z.elim c1 c
        exact base_ok hD hb hl ho
/-- a whole condition, six deep -/
theorem cond_run (hb : b ≤ e) : ∃ z b1 o1, condR T e 6 b o = (z, b1, o1) ∧ (z = false → Rn T e false b [] 0 o (false, b1, [])) ∧ (z = true → Rn T e false b [] 0 o (true, b1, o1)) := by
  obtain ⟨i1, i2⟩ := cnd_ok (fun b o h => atomR_gd 6 b o h) (atom_ok (T := T) (e := e) 6 (Nat.le_refl 6)) b [] o hb (by decide) (by decide) (fun x r z => by cases z)
  rw [show nI (6 - 6) = 0 from rfl] at i1 i2
  refine ⟨(condR T e 6 b o).1, (condR T e 6 b o).2.1, (condR T e 6 b o).2.2, rfl, fun z => i2 (by rw [show cndP T e (atomR T e 6) b o = condR T e 6 b o from rfl, z]; decide), fun z => ?_⟩
  obtain ⟨⟨⟨-, hA⟩, hO⟩, s, d1, o2, q1, q2, q3⟩ := i1 z
  refine q3 _ ?_
  have ep : popF 2005 (s ++ []) d1 o2 = ([], 0, (condR T e 6 b o).2.2) := by
    rw [q2 2005 [] (Int32.le_refl _) (Int32.le_refl _)]
    rfl
  have hbk : brk (s ++ []) ≤ 6 ∧ (s ++ []).length ≤ 32 := by
    have := q1.2
    rw [brk_app, q1.1, List.length_append]
    exact ⟨by decide, by show s.length + 0 ≤ 32; omega⟩
  by_cases c2 : sg T e (cndP T e (atomR T e 6) b o).2.1 41 = true
  · exact Rn_over hbk c2 ep
  · have h9 := Rn_end (T := T) (e := e) (d := d1) (o := o2) hbk (Bool.eq_false_iff.mpr c2) hA hO
    rw [ep] at h9
    exact h9
end P77
end
section
/-! ===== lines of a law ===== -/
section P78
/-- of a line: kind, number, where its condition begins and ends -/
abbrev LnT : Type := Int32 × Int32 × Nat × Nat
abbrev LRs : Type := Bool × Nat × List Int32 × List LnT
def kndP (T : Nat → Int32) (e b : Nat) : Int32 := if isWd T e b 15 = true then 0 else if isWd T e b 16 = true then 1 else if isWd T e b 17 = true then 2 else -1
def lnP (T : Nat → Int32) (e b : Nat) (o : List Int32) : PR :=
  if kndP T e b = -1 then (false, b, []) else if nm T e (nx T e b) 0 60 = -1 then (false, nx T e b, []) else
  if isWd T e (nx T e (nx T e b)) 18 = true then condR T e 6 (nx T e (nx T e (nx T e b))) o else (true, nx T e (nx T e b), o)
def lnV (T : Nat → Int32) (e b : Nat) (o o1 : List Int32) : LnT := (kndP T e b, nm T e (nx T e b) 0 60, o.length, o1.length)
def lnsP (T : Nat → Int32) (e : Nat) : Nat → Nat → List Int32 → List LnT → LRs
  | 0, b, _, _ => (false, b, [], [])
  | f + 1, b, o, ls =>
    if (lnP T e b o).1 = true then
      (if (lnP T e b o).2.1 < e then
        (if sg T e (lnP T e b o).2.1 59 = true then lnsP T e f (nx T e (lnP T e b o).2.1) (lnP T e b o).2.2 (lnV T e b o (lnP T e b o).2.2 :: ls) else (false, (lnP T e b o).2.1, [], []))
       else (true, (lnP T e b o).2.1, (lnP T e b o).2.2, lnV T e b o (lnP T e b o).2.2 :: ls))
    else (false, (lnP T e b o).2.1, [], [])
def lawP (T : Nat → Int32) (e : Nat) : LRs := if bg T e 0 < e then lnsP T e 12 (bg T e 0) [] [] else (true, bg T e 0, [], [])
/-- the heads of four rows of lines, the latest first -/
def LnL (f0 f1 f2 f3 : Nat → Int32) : List LnT → Prop
  | [] => True
  | x :: r => (f0 r.length = x.1 ∧ f1 r.length = x.2.1 ∧ f2 r.length = nI x.2.2.1 ∧ f3 r.length = nI x.2.2.2) ∧ LnL f0 f1 f2 f3 r
theorem LnL.eq {f0 f1 f2 f3 g0 g1 g2 g3 : Nat → Int32} : ∀ {ls : List LnT}, LnL f0 f1 f2 f3 ls → (∀ i, i < ls.length → g0 i = f0 i ∧ g1 i = f1 i ∧ g2 i = f2 i ∧ g3 i = f3 i) → LnL g0 g1 g2 g3 ls := by
  intro ls
  induction ls with
  | nil => exact fun _ _ => trivial
  | cons x r ih =>
    intro h f
    obtain ⟨a0, a1, a2, a3⟩ := f r.length (Nat.lt_succ_self _)
    exact ⟨⟨a0.trans h.1.1, a1.trans h.1.2.1, a2.trans h.1.2.2.1, a3.trans h.1.2.2.2⟩, ih h.2 fun i hi => f i (Nat.lt_succ_of_lt hi)⟩
variable {T : Nat → Int32} {e b : Nat} {o : List Int32}
theorem lnsP_s {f : Nat} {ls : List LnT} : lnsP T e (f + 1) b o ls = if (lnP T e b o).1 = true then
      (if (lnP T e b o).2.1 < e then
        (if sg T e (lnP T e b o).2.1 59 = true then lnsP T e f (nx T e (lnP T e b o).2.1) (lnP T e b o).2.2 (lnV T e b o (lnP T e b o).2.2 :: ls) else (false, (lnP T e b o).2.1, [], []))
       else (true, (lnP T e b o).2.1, (lnP T e b o).2.2, lnV T e b o (lnP T e b o).2.2 :: ls))
    else (false, (lnP T e b o).2.1, [], []) := rfl
theorem knd_lt (h : ¬ kndP T e b = -1) : b < e := by
  unfold kndP at h
  by_cases c1 : isWd T e b 15 = true
  · exact isWd_lt c1
  · rw [if_neg c1] at h
    by_cases c2 : isWd T e b 16 = true
    · exact isWd_lt c2
    · rw [if_neg c2] at h
      by_cases c3 : isWd T e b 17 = true
      · exact isWd_lt c3
      · rw [if_neg c3] at h
        exact absurd rfl h
theorem nm_lt {lo hi : Int32} (h : ¬ nm T e b lo hi = -1) : b < e := by
  by_cases c : b < e
  · exact c
  · exfalso
    apply h
    unfold nm
    rw [if_neg (fun z => by rw [kd_ge c] at z; exact absurd z.1 (by decide))]
theorem lnP_gd (h : b ≤ e) : Gd e b o (lnP T e b o) := by
  unfold lnP
  by_cases c1 : kndP T e b = -1
  · rw [if_pos c1]
    exact Gd.no (Nat.le_refl _) h
  rw [if_neg c1]
  have n1 := nx_lt (T := T) (knd_lt c1)
  have n1e := nx_le (T := T) h
  by_cases c2 : nm T e (nx T e b) 0 60 = -1
  · rw [if_pos c2]
    exact Gd.no (Nat.le_of_lt n1) n1e
  rw [if_neg c2]
  have n2 := nx_lt (T := T) (nm_lt c2)
  have n2e := nx_le (T := T) n1e
  by_cases c3 : isWd T e (nx T e (nx T e b)) 18 = true
  · rw [if_pos c3]
    have n3 := nx_lt (T := T) (isWd_lt c3)
    obtain ⟨g1, g2, g3⟩ := condR_gd (T := T) (D := 6) (o := o) (nx_le (T := T) n2e)
    exact ⟨by omega, g2, fun z => ⟨by have := (g3 z).1; omega, by have := (g3 z).2; omega⟩⟩
  · rw [if_neg c3]
    exact ⟨by show b ≤ nx T e (nx T e b); omega, n2e, fun _ => ⟨by show b < nx T e (nx T e b); omega, by show o.length + b ≤ o.length + nx T e (nx T e b); omega⟩⟩
theorem lnsP_le : ∀ (f b : Nat) (o : List Int32) (ls : List LnT), b ≤ e → (lnsP T e f b o ls).2.1 ≤ e := by
  intro f
  induction f with
  | zero => exact fun b o ls h => h
  | succ f ih =>
    intro b o ls h
    have g := (lnP_gd (T := T) (o := o) h).2.1
    rw [lnsP_s]
    by_cases c1 : (lnP T e b o).1 = true
    · rw [if_pos c1]
      by_cases c2 : (lnP T e b o).2.1 < e
      · rw [if_pos c2]
        by_cases c3 : sg T e (lnP T e b o).2.1 59 = true
        · rw [if_pos c3]
          exact ih _ _ _ (nx_le g)
        · rw [if_neg c3]
          exact g
      · rw [if_neg c2]
        exact g
    · rw [if_neg c1]
      exact g
theorem lawP_le : (lawP T e).2.1 ≤ e := by
  unfold lawP
  by_cases c : bg T e 0 < e
  · rw [if_pos c]
    exact lnsP_le _ _ _ _ (bg_le 0)
  · rw [if_neg c]
    exact bg_le 0
end P78
end
section
/-! ===== what a law's text emits is typed and never deep ===== -/
section P78b
/-- a code -/
def okC (x : Int32) : Prop := ∃ c : Nat, c < 2006 ∧ x = nI c ∧ (c < 1009 ∨ 2000 ≤ c)
theorem okC_st {x : Int32} (h : okC x) : ∃ k m, k ≤ 15 ∧ m < 1000 ∧ (if x < 1000 then (9 : Int32) else if x < 2000 then x - 1000 else x - 1990) = nI k ∧ (if x < 1000 then x else 0) = nI m ∧ x.toNatClampNeg = trN k m ∧ x = nI x.toNatClampNeg := by
  have key : ∀ c, c < 2006 → (c < 1009 ∨ 2000 ≤ c) → (if c < 1000 then 9 else if c < 2000 then c - 1000 else c - 1990) ≤ 15 ∧ (if c < 1000 then c else 0) < 1000 ∧ (if nI c < 1000 then (9 : Int32) else if nI c < 2000 then nI c - 1000 else nI c - 1990) = nI (if c < 1000 then 9 else if c < 2000 then c - 1000 else c - 1990) ∧ (if nI c < 1000 then nI c else 0) = nI (if c < 1000 then c else 0) ∧ c = trN (if c < 1000 then 9 else if c < 2000 then c - 1000 else c - 1990) (if c < 1000 then c else 0) := by
    intro c h1 h2
    have e1 : (nI c < 1000) = (c < 1000) := propext (nI_lt_iff (a := c) (b := 1000) (by omega) (by decide))
    have e2 : (nI c < 2000) = (c < 2000) := propext (nI_lt_iff (a := c) (b := 2000) (by omega) (by decide))
    simp only [e1, e2]
    by_cases c1 : c < 1000
    · rw [if_pos c1, if_pos c1, if_pos c1, if_pos c1]
      exact ⟨by decide, c1, rfl, rfl, by unfold trN; rw [if_pos rfl]⟩
    · rw [if_neg c1, if_neg c1, if_neg c1, if_neg c1]
      by_cases c2 : c < 2000
      · rw [if_pos c2, if_pos c2]
        refine ⟨by omega, by decide, ?_, rfl, ?_⟩
        · rw [show (1000 : Int32) = nI 1000 from rfl, nI_sub (by omega)]
        · unfold trN
          rw [if_neg (by omega), if_pos (by omega)]
          omega
      · rw [if_neg c2, if_neg c2]
        refine ⟨by omega, by decide, ?_, rfl, ?_⟩
        · rw [show (1990 : Int32) = nI 1990 from rfl, nI_sub (by omega)]
        · unfold trN
          rw [if_neg (by omega), if_neg (by omega)]
          omega
  obtain ⟨c, h1, rfl, h2⟩ := h
  obtain ⟨g1, g2, g3, g4, g5⟩ := key c h1 h2
  exact ⟨_, _, g1, g2, g3, g4, by rw [nI_clamp (by omega)]; exact g5, by rw [nI_clamp (by omega)]⟩
def tyN : List Int32 → List Bool → Option (List Bool)
  | [], s => some s
  | x :: r, s => (tyN r s).bind (tyS x.toNatClampNeg)
def okN : List Int32 → List Bool → Prop
  | [], s => s.length ≤ 24
  | x :: r, s => okN r s ∧ ∃ s', tyN (x :: r) s = some s' ∧ s'.length ≤ 24
theorem tyN_app {s s' : List Bool} {m : List Int32} : ∀ {n : List Int32}, tyN m s = some s' → tyN (n ++ m) s = tyN n s' := by
  intro n
  induction n with
  | nil => exact fun h => h
  | cons x r ih =>
    intro h
    show (tyN (r ++ m) s).bind _ = (tyN r s').bind _
    rw [ih h]
theorem okN_app {s s' : List Bool} {m : List Int32} : ∀ {n : List Int32}, tyN m s = some s' → okN m s → okN n s' → okN (n ++ m) s := by
  intro n
  induction n with
  | nil => exact fun _ h _ => h
  | cons x r ih =>
    intro h1 h2 h3
    refine ⟨ih h1 h2 h3.1, ?_⟩
    obtain ⟨t, e, l⟩ := h3.2
    exact ⟨t, (tyN_app (n := x :: r) h1).trans e, l⟩
/-- it emits, behind what is there, typed codes: so many deep at most -/
def Em (K : Nat) (s0 s1 : List Bool) (o o1 : List Int32) : Prop := ∃ n, o1 = n ++ o ∧ (∀ x ∈ n, okC x) ∧ ∀ s, s.length + K ≤ 24 → tyN n (s0 ++ s) = some (s1 ++ s) ∧ okN n (s0 ++ s)
theorem Em.rf {K : Nat} {s0 : List Bool} {o : List Int32} (h : s0.length ≤ K) : Em K s0 s0 o o := ⟨[], rfl, fun x hx => absurd hx List.not_mem_nil, fun s hs => ⟨rfl, by show (s0 ++ s).length ≤ 24; rw [List.length_append]; omega⟩⟩
theorem Em.tr {K : Nat} {s0 s1 s2 : List Bool} {o o1 o2 : List Int32} (h : Em K s0 s1 o o1) (h2 : Em K s1 s2 o1 o2) : Em K s0 s2 o o2 := by
  obtain ⟨n, rfl, c1, e1⟩ := h
  obtain ⟨m, rfl, c2, e2⟩ := h2
  refine ⟨m ++ n, (List.append_assoc _ _ _).symm, fun x hx => ?_, fun s hs => ?_⟩
  · rcases List.mem_append.mp hx with z | z
    · exact c2 x z
    · exact c1 x z
  · obtain ⟨a1, a2⟩ := e1 s hs
    obtain ⟨b1, b2⟩ := e2 s hs
    exact ⟨(tyN_app a1).trans b1, okN_app a1 a2 b2⟩
/-- over something that lies below -/
theorem Em.up {K : Nat} {s0 s1 q : List Bool} {o o1 : List Int32} (h : Em K s0 s1 o o1) : Em (K + q.length) (s0 ++ q) (s1 ++ q) o o1 := by
  obtain ⟨n, e, c, f⟩ := h
  refine ⟨n, e, c, fun s hs => ?_⟩
  rw [List.append_assoc, List.append_assoc]
  exact f (q ++ s) (by rw [List.length_append]; omega)
theorem Em.mo {K K2 : Nat} {s0 s1 : List Bool} {o o1 : List Int32} (h : Em K s0 s1 o o1) (hk : K ≤ K2) : Em K2 s0 s1 o o1 := by
  obtain ⟨n, e, c, f⟩ := h
  exact ⟨n, e, c, fun s hs => f s (by omega)⟩
theorem Em.one {K : Nat} {s0 s1 : List Bool} {o : List Int32} {x : Int32} (hx : okC x) (ht : ∀ s, tyS x.toNatClampNeg (s0 ++ s) = some (s1 ++ s)) (h0 : s0.length ≤ K) (h1 : s1.length ≤ K) : Em K s0 s1 o (x :: o) := by
  refine ⟨[x], rfl, fun y hy => ?_, fun s hs => ⟨ht s, ⟨?_, s1 ++ s, ht s, ?_⟩⟩⟩
  · rw [List.mem_singleton.mp hy]
    exact hx
  · show (s0 ++ s).length ≤ 24
    rw [List.length_append]
    omega
  · rw [List.length_append]
    omega
variable {T : Nat → Int32} {e b : Nat} {o : List Int32}
/-- the tape holds bytes, so a number of three digits is less than 1000 -/
theorem nu_rng (hk : kd T e b = 2) (hv : ¬ vl T e b = -1) : ∃ m, m < 1000 ∧ vl T e b = nI m := by
  rw [vl_2 hk] at hv ⊢
  by_cases c : 3 < en T e b - b
  · rw [if_pos c] at hv
    exact absurd rfl hv
  rw [if_neg c]
  have dg : ∀ q, b ≤ q → q < en T e b → ∃ m, m < 10 ∧ T q - 48 = nI m := by
    intro q h1 h2
    rw [en_2 hk] at h2
    have h3 : 48 ≤ T q ∧ T q ≤ 57 := by
      have h4 := isK_kc (rn_all (T := T) (e := e) (k := 2) h1 h2)
      unfold kcF at h4
      by_cases c1 : T q = 32
      · rw [if_pos c1] at h4
        cases h4
      · rw [if_neg c1] at h4
        by_cases c2 : 97 ≤ T q ∧ T q ≤ 122
        · rw [if_pos c2] at h4
          cases h4
        · rw [if_neg c2] at h4
          by_cases c3 : 48 ≤ T q ∧ T q ≤ 57
          · exact c3
          · rw [if_neg c3] at h4
            cases h4
    have a1 := Int32.le_iff_toInt_le.mp h3.1
    have a2 := Int32.le_iff_toInt_le.mp h3.2
    rw [show (48 : Int32).toInt = 48 from rfl] at a1
    rw [show (57 : Int32).toInt = 57 from rfl] at a2
    refine ⟨(T q).toInt.toNat - 48, by omega, ?_⟩
    rw [← Int32.toInt_inj, nI_toInt (by omega), Int32.toInt_sub, show (48 : Int32).toInt = 48 from rfl, Int.bmod_eq_of_le (by omega) (by omega)]
    omega
  have key : ∀ j, b + j ≤ en T e b → ∃ m, m < 10 ^ j ∧ nuF T b j = nI m := by
    intro j
    induction j with
    | zero => exact fun _ => ⟨0, by decide, nI_0.symm⟩
    | succ j ih =>
      intro h1
      obtain ⟨m, hm, em⟩ := ih (by omega)
      obtain ⟨x, hx, ex⟩ := dg (b + j) (by omega) (by omega)
      refine ⟨m * 10 + x, by rw [Nat.pow_succ]; omega, ?_⟩
      show nuF T b j * 10 + T (b + j) - 48 = _
      rw [Int32.sub_eq_add_neg, Int32.add_assoc, ← Int32.sub_eq_add_neg, em, ex, show (10 : Int32) = nI 10 from rfl, nI_mul, nI_addl]
  have hge := en_ge (T := T) (e := e) (b := b)
  obtain ⟨m, hm, em⟩ := key (en T e b - b) (by omega)
  have : 10 ^ (en T e b - b) ≤ 10 ^ 3 := Nat.pow_le_pow_right (by decide) (by omega)
  exact ⟨m, by omega, em⟩
theorem wPa_ok : ∀ i, i < 28 → ¬ wPa i = -1 → ∃ c, c < 7 ∧ wPa i = nI (1000 + c) := by decide +kernel
theorem prt_ok (h : ¬ prt T e b = -1) : ∃ c, c < 1007 ∧ prt T e b = nI c := by
  unfold prt at h ⊢
  by_cases c2 : kd T e b = 2
  · rw [if_pos c2] at h ⊢
    obtain ⟨m, hm, em⟩ := nu_rng c2 h
    exact ⟨m, by omega, em⟩
  · rw [if_neg c2] at h ⊢
    by_cases c1 : kd T e b = 1
    · rw [if_pos c1] at h ⊢
      have := wd_le (T := T) (e := e) (b := b)
      obtain ⟨c, hc, ec⟩ := wPa_ok _ (by omega) h
      exact ⟨1000 + c, by omega, ec⟩
    · rw [if_neg c1] at h
      exact absurd rfl h
theorem prt_em {K : Nat} {s0 : List Bool} (h : ¬ prt T e b = -1) (hK : s0.length + 1 ≤ K) : Em K s0 (false :: s0) o (prt T e b :: o) := by
  obtain ⟨c, hc, ec⟩ := prt_ok h
  refine Em.one ⟨c, by omega, ec, by omega⟩ (fun s => ?_) (by omega) (by simp only [List.length_cons]; omega)
  rw [ec, nI_clamp (by omega)]
  unfold tyS
  rw [if_pos hc]
  rfl
theorem op_ok {c : Nat} (h : c < 6) : okC (nI (2000 + c)) := ⟨2000 + c, by omega, rfl, by omega⟩
theorem smL_em : ∀ (n b : Nat) (o : List Int32), e - b ≤ n → (smL T e b o).1 = true → Em 2 [false] [false] o (smL T e b o).2.2 := by
  intro n
  induction n with
  | zero =>
    intro b o h1 _
    have hf : sg T e b 43 = false := by
      cases hs : sg T e b 43 with
      | false => rfl
      | true => have := sg_lt hs; omega
    rw [smL_f hf]
    exact Em.rf (by decide)
  | succ n ih =>
    intro b o h1 hz
    cases hs : sg T e b 43 with
    | false =>
      rw [smL_f hs]
      exact Em.rf (by decide)
    | true =>
      have n1 := nx_lt (T := T) (sg_lt hs)
      have hb := sg_lt hs
      by_cases hp : prt T e (nx T e b) = -1
      · rw [smL_n hs hp] at hz
        cases hz
      · rw [smL_t hs hp] at hz ⊢
        have n3 := nx_lt (T := T) (prt_lt hp)
        refine Em.tr (Em.tr (prt_em hp (by decide)) ?_) (ih _ _ (by omega) hz)
        exact Em.one (op_ok (c := 0) (by decide)) (fun s => rfl) (by decide) (by decide)
theorem sumP_em (hz : (sumP T e b o).1 = true) : Em 2 [] [false] o (sumP T e b o).2.2 := by
  unfold sumP at hz ⊢
  by_cases hp : prt T e b = -1
  · rw [if_pos hp] at hz
    cases hz
  · rw [if_neg hp] at hz ⊢
    exact Em.tr (prt_em hp (by decide)) (smL_em _ _ _ (Nat.le_refl _) hz)
theorem cmpP_em {x : Int32} (hx : x = nI 2001 ∨ x = nI 2002) (hz : (cmpP T e x b o).1 = true) : Em 3 [false] [true] o (cmpP T e x b o).2.2 := by
  unfold cmpP at hz ⊢
  by_cases c : (sumP T e b o).1 = true
  · rw [if_pos c]
    refine Em.tr (Em.up (q := [false]) (sumP_em c)) ?_
    rcases hx with rfl | rfl
    · exact Em.one (op_ok (c := 1) (by decide)) (fun s => rfl) (by decide) (by decide)
    · exact Em.one (op_ok (c := 2) (by decide)) (fun s => rfl) (by decide) (by decide)
  · rw [if_neg c] at hz
    cases hz
theorem baseP_em (hz : (baseP T e b o).1 = true) : Em 3 [] [true] o (baseP T e b o).2.2 := by
  unfold baseP at hz ⊢
  by_cases c1 : isWd T e b 22 = true
  · rw [if_pos c1]
    exact Em.one ⟨1007, by decide, rfl, by decide⟩ (fun s => rfl) (by decide) (by decide)
  rw [if_neg c1] at hz ⊢
  by_cases c2 : isWd T e b 23 = true
  · rw [if_pos c2]
    exact Em.one ⟨1008, by decide, rfl, by decide⟩ (fun s => rfl) (by decide) (by decide)
  rw [if_neg c2] at hz ⊢
  by_cases c3 : (sumP T e b o).1 = true
  · rw [if_pos c3] at hz ⊢
    have h1 := Em.mo (K2 := 3) (sumP_em c3) (by decide)
    by_cases c4 : sg T e (sumP T e b o).2.1 60 = true
    · rw [if_pos c4] at hz ⊢
      exact Em.tr h1 (cmpP_em (Or.inl rfl) hz)
    rw [if_neg c4] at hz ⊢
    by_cases c5 : sg T e (sumP T e b o).2.1 62 = true
    · rw [if_pos c5] at hz ⊢
      exact Em.tr h1 (cmpP_em (Or.inr rfl) hz)
    rw [if_neg c5] at hz
    cases hz
  · rw [if_neg c3] at hz
    cases hz
def ItE (K : Nat) (item : Nat → List Int32 → PR) : Prop := ∀ b o, (item b o).1 = true → Em K [] [true] o (item b o).2.2
theorem loopP_em {item : Nat → List Int32 → PR} {K k c : Nat} (hc : c = 2004 ∨ c = 2005) (hi : ItE K item) (hK : 1 ≤ K) : ∀ (n b : Nat) (o : List Int32), e - b ≤ n → (loopP T e item k (nI c) b o).1 = true → Em (K + 1) [true] [true] o (loopP T e item k (nI c) b o).2.2 := by
  intro n
  induction n with
  | zero =>
    intro b o h1 _
    have hf : isWd T e b k = false := by
      cases hs : isWd T e b k with
      | false => rfl
      | true => have := isWd_lt hs; omega
    rw [loopP_f hf]
    exact Em.rf (by show 1 ≤ K + 1; omega)
  | succ n ih =>
    intro b o h1 hz
    cases hs : isWd T e b k with
    | false =>
      rw [loopP_f hs]
      exact Em.rf (by show 1 ≤ K + 1; omega)
    | true =>
      by_cases c1 : (item (nx T e b) o).1 = true
      · by_cases g : b < (item (nx T e b) o).2.1
        · have hb := isWd_lt hs
          rw [loopP_t hs g c1] at hz ⊢
          refine Em.tr (Em.tr (Em.up (q := [true]) (hi _ _ c1)) ?_) (ih _ _ (by omega) hz)
          rcases hc with rfl | rfl
          · exact Em.one (op_ok (c := 4) (by decide)) (fun s => rfl) (by show 2 ≤ K + 1; omega) (by show 1 ≤ K + 1; omega)
          · exact Em.one (op_ok (c := 5) (by decide)) (fun s => rfl) (by show 2 ≤ K + 1; omega) (by show 1 ≤ K + 1; omega)
        · rw [loopP, dif_pos hs, dif_neg g] at hz
          cases hz
      · rw [loopP_n hs c1] at hz
        cases hz
theorem seqP_em {item : Nat → List Int32 → PR} {K k c : Nat} (hc : c = 2004 ∨ c = 2005) (hi : ItE K item) (hK : 1 ≤ K) : ItE (K + 1) (seqP T e item k (nI c)) := by
  intro b o hz
  unfold seqP at hz ⊢
  by_cases c1 : (item b o).1 = true
  · rw [if_pos c1] at hz ⊢
    exact Em.tr (Em.mo (hi b o c1) (by omega)) (loopP_em hc hi hK _ _ _ (Nat.le_refl _) hz)
  · rw [if_neg c1] at hz
    cases hz
theorem cndP_em {item : Nat → List Int32 → PR} {K : Nat} (hi : ItE K item) (hK : 1 ≤ K) : ItE (K + 2) (cndP T e item) := seqP_em (c := 2005) (Or.inr rfl) (seqP_em (c := 2004) (Or.inl rfl) hi hK) (by omega)
theorem atomR_em : ∀ D, ItE (3 + 2 * D) (atomR T e D) := by
  intro D
  induction D with
  | zero =>
    intro b o hz
    unfold atomR at hz ⊢
    by_cases c : opn T e b = true
    · rw [if_pos c] at hz
      cases hz
    · rw [if_neg c] at hz ⊢
      exact baseP_em hz
  | succ D ih =>
    intro b o hz
    unfold atomR at hz ⊢
    by_cases c : sg T e b 40 = true
    · rw [if_pos c] at hz ⊢
      by_cases c1 : (cndP T e (atomR T e D) (nx T e b) o).1 = true
      · rw [if_pos c1] at hz ⊢
        by_cases c2 : sg T e (cndP T e (atomR T e D) (nx T e b) o).2.1 41 = true
        · rw [if_pos c2]
          exact Em.mo (cndP_em ih (by omega) _ _ c1) (by omega)
        · rw [if_neg c2] at hz
          cases hz
      · rw [if_neg c1] at hz
        cases hz
    · rw [if_neg c] at hz ⊢
      by_cases c1 : isWd T e b 21 = true
      · rw [if_pos c1] at hz ⊢
        by_cases c2 : (atomR T e D (nx T e b) o).1 = true
        · rw [if_pos c2]
          refine Em.tr (Em.mo (ih _ _ c2) (by omega)) ?_
          exact Em.one (op_ok (c := 3) (by decide)) (fun s => rfl) (by show 1 ≤ _; omega) (by show 1 ≤ _; omega)
        · rw [if_neg c2] at hz
          cases hz
      · rw [if_neg c1] at hz ⊢
        exact Em.mo (baseP_em hz) (by omega)
theorem condR_em : ItE 17 (condR T e 6) := cndP_em (atomR_em 6) (by decide)
/-- the code at a place, the latest at the end -/
def cdL : List Int32 → Nat → Int32
  | [], _ => 0
  | x :: r, i => if i = r.length then x else cdL r i
def cdN (o : List Int32) (i : Nat) : Nat := (cdL o i).toNatClampNeg
theorem cdL_app {n o : List Int32} {i : Nat} (h : i < o.length) : cdL (n ++ o) i = cdL o i := by
  induction n with
  | nil => rfl
  | cons x r ih =>
    show (if i = (r ++ o).length then x else cdL (r ++ o) i) = _
    rw [if_neg (by rw [List.length_append]; omega), ih]
theorem cdL_ok {o : List Int32} (h : ∀ x ∈ o, okC x) : ∀ i, i < o.length → okC (cdL o i) := by
  induction o with
  | nil => exact fun i hi => absurd hi (Nat.not_lt_zero _)
  | cons x r ih =>
    intro i hi
    have hi : i < r.length + 1 := hi
    by_cases c : i = r.length
    · rw [show cdL (x :: r) i = x from if_pos c]
      exact h x List.mem_cons_self
    · rw [show cdL (x :: r) i = cdL r i from if_neg c]
      exact ih (fun y hy => h y (List.mem_cons_of_mem _ hy)) i (by omega)
/-- what was emitted, as a row read from its first -/
theorem tyR_of {m : List Int32} : ∀ {n : List Int32}, (∀ s', tyN n [] = some s' → tyR (cdN (n ++ m)) m.length n.length = some s') ∧ (okN n [] → ∀ j, j ≤ n.length → ∃ t, tyR (cdN (n ++ m)) m.length j = some t ∧ t.length ≤ 24) := by
  intro n
  induction n with
  | nil =>
    refine ⟨fun s' h => h, fun h j hj => ?_⟩
    have hj : j ≤ 0 := hj
    obtain rfl : j = 0 := by omega
    exact ⟨[], rfl, by decide⟩
  | cons x r ih =>
    obtain ⟨i1, i2⟩ := ih
    have ec : ∀ i, i < r.length → cdN (x :: r ++ m) (m.length + i) = cdN (r ++ m) (m.length + i) := fun i hi => by
      unfold cdN
      rw [show cdL (x :: r ++ m) (m.length + i) = cdL (r ++ m) (m.length + i) from if_neg (show ¬ m.length + i = (r ++ m).length from by rw [List.length_append]; omega)]
    have el : cdN (x :: r ++ m) (m.length + r.length) = x.toNatClampNeg := by
      unfold cdN
      rw [show cdL (x :: r ++ m) (m.length + r.length) = x from if_pos (show m.length + r.length = (r ++ m).length from by rw [List.length_append]; omega)]
    have key : ∀ s', tyN (x :: r) [] = some s' → tyR (cdN (x :: r ++ m)) m.length (r.length + 1) = some s' := by
      intro s' h
      show (tyR _ _ r.length).bind _ = _
      rw [tyR_congr r.length ec, el]
      have h : (tyN r []).bind (tyS x.toNatClampNeg) = some s' := h
      cases ht : tyN r [] with
      | none =>
        rw [ht] at h
        cases h
      | some t =>
        rw [i1 t ht, ← h, ht]
    refine ⟨key, fun h j hj => ?_⟩
    have hj : j ≤ r.length + 1 := hj
    by_cases c : j = r.length + 1
    · subst c
      obtain ⟨t, e1, l⟩ := h.2
      exact ⟨t, key t e1, l⟩
    · obtain ⟨t, e1, l⟩ := i2 h.1 j (by omega)
      exact ⟨t, by rw [tyR_congr j (fun i hi => ec i (by omega))]; exact e1, l⟩
/-- the line at a place -/
def lnAt : List LnT → Nat → LnT
  | [], _ => (0, 0, 0, 0)
  | x :: r, i => if i = r.length then x else lnAt r i
/-- lines whose conditions are typed -/
def LsOk (o : List Int32) (ls : List LnT) : Prop := (∀ x ∈ o, okC x) ∧ ∀ i, i < ls.length → (lnAt ls i).2.2.1 ≤ (lnAt ls i).2.2.2 ∧ (lnAt ls i).2.2.2 ≤ o.length ∧ LineOk (cdN o) (lnAt ls i).2.2.1 ((lnAt ls i).2.2.2 - (lnAt ls i).2.2.1)
theorem LineOk.cdc {cd cd' : Nat → Nat} {a m : Nat} (h : LineOk cd a m) (e : ∀ i, i < m → cd (a + i) = cd' (a + i)) : LineOk cd' a m := LineOk.congr h e
theorem lnP_em (hz : (lnP T e b o).1 = true) : Em 17 [] [] o (lnP T e b o).2.2 ∨ Em 17 [] [true] o (lnP T e b o).2.2 := by
  unfold lnP at hz ⊢
  by_cases c1 : kndP T e b = -1
  · rw [if_pos c1] at hz
    cases hz
  rw [if_neg c1] at hz ⊢
  by_cases c2 : nm T e (nx T e b) 0 60 = -1
  · rw [if_pos c2] at hz
    cases hz
  rw [if_neg c2] at hz ⊢
  by_cases c3 : isWd T e (nx T e (nx T e b)) 18 = true
  · rw [if_pos c3] at hz ⊢
    exact Or.inr (condR_em _ _ hz)
  · rw [if_neg c3]
    exact Or.inl (Em.rf (by decide))
theorem LsOk.ad {ls : List LnT} {k v : Int32} {o1 : List Int32} (h : LsOk o ls) (hz : Em 17 [] [] o o1 ∨ Em 17 [] [true] o o1) : LsOk o1 ((k, v, o.length, o1.length) :: ls) := by
  obtain ⟨n, e1, c1, t1⟩ : ∃ n, o1 = n ++ o ∧ (∀ x ∈ n, okC x) ∧ ((tyN n [] = some [] ∨ tyN n [] = some [true]) ∧ okN n []) := by
    rcases hz with ⟨n, e1, c1, t1⟩ | ⟨n, e1, c1, t1⟩
    · obtain ⟨a1, a2⟩ := t1 [] (by decide)
      exact ⟨n, e1, c1, Or.inl a1, a2⟩
    · obtain ⟨a1, a2⟩ := t1 [] (by decide)
      exact ⟨n, e1, c1, Or.inr a1, a2⟩
  subst e1
  obtain ⟨h1, h2⟩ := h
  refine ⟨fun x hx => ?_, fun i hi => ?_⟩
  · rcases List.mem_append.mp hx with z | z
    · exact c1 x z
    · exact h1 x z
  · have hi : i < ls.length + 1 := hi
    have hl : (n ++ o).length = n.length + o.length := List.length_append
    by_cases c : i = ls.length
    · rw [show lnAt ((k, v, o.length, (n ++ o).length) :: ls) i = (k, v, o.length, (n ++ o).length) from if_pos c]
      refine ⟨by show o.length ≤ (n ++ o).length; omega, Nat.le_refl _, ?_⟩
      show LineOk (cdN (n ++ o)) o.length ((n ++ o).length - o.length)
      rw [show (n ++ o).length - o.length = n.length by omega]
      obtain ⟨r1, r2⟩ := tyR_of (m := o) (n := n)
      exact ⟨t1.1.imp (r1 []) (r1 [true]), r2 t1.2⟩
    · rw [show lnAt ((k, v, o.length, (n ++ o).length) :: ls) i = lnAt ls i from if_neg c]
      obtain ⟨g1, g2, g3⟩ := h2 i (by omega)
      refine ⟨g1, by omega, LineOk.cdc g3 fun j hj => ?_⟩
      unfold cdN
      rw [cdL_app (by omega)]
theorem lnsP_ok : ∀ (f b : Nat) (o : List Int32) (ls : List LnT), LsOk o ls → (lnsP T e f b o ls).1 = true → LsOk (lnsP T e f b o ls).2.2.1 (lnsP T e f b o ls).2.2.2 := by
  intro f
  induction f with
  | zero => exact fun b o ls _ z => by cases z
  | succ f ih =>
    intro b o ls h hz
    rw [lnsP_s] at hz ⊢
    by_cases c1 : (lnP T e b o).1 = true
    · rw [if_pos c1] at hz ⊢
      have h2 := LsOk.ad (k := kndP T e b) (v := nm T e (nx T e b) 0 60) h (lnP_em c1)
      by_cases c2 : (lnP T e b o).2.1 < e
      · rw [if_pos c2] at hz ⊢
        by_cases c3 : sg T e (lnP T e b o).2.1 59 = true
        · rw [if_pos c3] at hz ⊢
          exact ih _ _ _ h2 hz
        · rw [if_neg c3] at hz
          cases hz
      · rw [if_neg c2]
        exact h2
    · rw [if_neg c1] at hz
      cases hz
theorem lawP_ok (hz : (lawP T e).1 = true) : LsOk (lawP T e).2.2.1 (lawP T e).2.2.2 := by
  have h0 : LsOk [] [] := ⟨fun x hx => absurd hx List.not_mem_nil, fun i hi => absurd hi (Nat.not_lt_zero _)⟩
  unfold lawP at hz ⊢
  by_cases c : bg T e 0 < e
  · rw [if_pos c] at hz ⊢
    exact lnsP_ok _ _ _ _ h0 hz
  · rw [if_neg c]
    exact h0
end P78b
end
section
/-! ===== the class's tokens, as functions of the tape ===== -/
section T79
variable {S : aS} {I : Nat → Nat → Int32} {L : Nat → Nat → Int64} {w1 w2 t : Nat} {e n j b : Nat}
set_option maxRecDepth 100000
theorem f_byteAt (he : I 201 1 = nI e) (h4 : e ≤ 400) {j : Nat} (hj : j < 2 ^ 31) : SpE S m_X7_byteAt 12 [.ref 201, .int (nI j)] (hp I L w1 w2 t) (some (.int (if j < e then I 202 j &&& 255 else -1))) (hp I L w1 w2 t) := by
  refine SpE_of ok_X7_byteAt rfl rfl ?_
  show AW S m_X7_byteAt 12 _ _ 0 0 0 [some (.ref 201), some (.int (nI j))] [] (hp I L w1 w2 t)
  refine a_l1 rfl rfl rfl ?_
  refine a_if_lt rfl (fun c => absurd c (nI_pos (by omega))) (fun _ => ?_)
  refine a_l1 rfl rfl rfl ?_
  refine a_l0 rfl rfl rfl ?_
  refine a_getiv (v := nI e) rfl gfX7_15_7 rfl (he) ?_
  refine a_ic_ge rfl (fun c => ?_) (fun c => ?_)
  · refine a_s rfl rfl ?_
    refine a_iret rfl rfl ⟨?_, rfl⟩
    rw [if_neg (Nat.not_lt.mpr (nI_ge_of c hj (by omega)))]
  · have hlt := nI_lt_of c hj (by omega)
    refine a_l1 rfl rfl rfl ?_
    refine a_l0 rfl rfl rfl ?_
    refine a_getq rfl gfX7_9_7 rfl (rfl) ?_
    refine a_len rfl (n := 400) rfl rfl rfl ?_
    refine a_ic_ge rfl (fun c => absurd c (nI_ge (b := 400) (by omega) (by omega))) (fun _ => ?_)
    refine a_l0 rfl rfl rfl ?_
    refine a_getq rfl gfX7_9_7 rfl (rfl) ?_
    refine a_l1 rfl rfl rfl ?_
    refine a_baldv (v := I 202 j) rfl (n := 400) rfl (inI_nI (by omega) (by omega)) (by rw [nI_clamp (by omega)]) ?_
    refine a_s rfl rfl ?_
    refine a_s rfl rfl ?_
    refine a_goto rfl ?_
    refine a_iret rfl rfl ⟨?_, rfl⟩
    rw [if_pos hlt]
theorem f_kindOf {h : aH} {x : Int32} : SpE S m_X9_kindOf 12 [.int x] h (some (.int (nI (kcF x)))) h := by
  refine SpE_of ok_X9_kindOf rfl rfl ?_
  show AW S m_X9_kindOf 12 _ _ 0 0 0 [some (.int x)] [] h
  refine a_l0 rfl rfl rfl ?_
  refine a_s rfl rfl ?_
  refine a_ic_ne rfl (fun c2 => ?_) (fun c2 => ?_)
  · have tail : ¬ (97 ≤ x ∧ x ≤ 122) → AW S m_X9_kindOf 12 (fun v h' => v = some (.int (nI (kcF x))) ∧ h' = h) (fun _ _ => False) 0 0 22 [some (.int x)] [] h := by
      intro hn
      refine a_l0 rfl rfl rfl ?_
      refine a_s rfl rfl ?_
      refine a_ic_lt rfl (fun c3 => ?_) (fun c3 => ?_)
      · refine a_s rfl rfl ?_
        refine a_iret rfl rfl ⟨?_, rfl⟩
        unfold kcF
        rw [if_neg c2, if_neg hn, if_neg (fun z => absurd c3 (Int32.not_lt.mpr z.1))]
        rfl
      · refine a_l0 rfl rfl rfl ?_
        refine a_s rfl rfl ?_
        refine a_ic_gt rfl (fun c4 => ?_) (fun c4 => ?_)
        · refine a_s rfl rfl ?_
          refine a_iret rfl rfl ⟨?_, rfl⟩
          unfold kcF
          rw [if_neg c2, if_neg hn, if_neg (fun z => absurd c4 (Int32.not_lt.mpr z.2))]
          rfl
        · refine a_s rfl rfl ?_
          refine a_goto rfl ?_
          refine a_iret rfl rfl ⟨?_, rfl⟩
          unfold kcF
          rw [if_neg c2, if_neg hn, if_pos ⟨Int32.not_lt.mp c3, Int32.not_lt.mp c4⟩]
          rfl
    refine a_l0 rfl rfl rfl ?_
    refine a_s rfl rfl ?_
    refine a_ic_lt rfl (fun c3 => tail (fun z => absurd c3 (Int32.not_lt.mpr z.1))) (fun c3 => ?_)
    refine a_l0 rfl rfl rfl ?_
    refine a_s rfl rfl ?_
    refine a_ic_gt rfl (fun c4 => tail (fun z => absurd c4 (Int32.not_lt.mpr z.2))) (fun c4 => ?_)
    refine a_s rfl rfl ?_
    refine a_iret rfl rfl ⟨?_, rfl⟩
    unfold kcF
    rw [if_neg c2, if_pos ⟨Int32.not_lt.mp c3, Int32.not_lt.mp c4⟩]
    rfl
  · refine a_s rfl rfl ?_
    refine a_iret rfl rfl ⟨?_, rfl⟩
    unfold kcF
    rw [if_pos c2]
    rfl
def opH (I : Nat → Nat → Int32) (n : Nat) (x y : Int32) : Nat → Nat → Int32 := up2 (up2 (up2 (up2 I 222 n x) 223 n y) 224 n y) 221 4 (nI (n + 1))
theorem f_open (h4 : I 221 4 = nI n) (hn : n < 401) {x y : Int32} : SpE S m_X9_open 13 [.ref 221, .int x, .int y] (hp I L w1 w2 t) none (hp (opH I n x y) L w1 w2 t) := by
  refine SpE_of ok_X9_open rfl rfl ?_
  show AW S m_X9_open 13 _ _ 0 0 0 [some (.ref 221), some (.int x), some (.int y)] [] (hp I L w1 w2 t)
  refine a_l0 rfl rfl rfl ?_
  refine a_getq rfl gfX9_9_9 rfl (rfl) ?_
  refine a_l0 rfl rfl rfl ?_
  refine a_getiv (v := nI n) rfl gfX9_24_9 rfl (h4) ?_
  refine a_l1 rfl rfl rfl ?_
  refine a_eSN0 rfl lX9_44 mo_X11_setAt (sp_X11_setAt rfl) rfl rfl rfl rfl ?_
  rw [setF_nI hn (by decide)]
  refine a_l0 rfl rfl rfl ?_
  refine a_getq rfl gfX9_15_9 rfl (rfl) ?_
  refine a_l0 rfl rfl rfl ?_
  refine a_getiv (v := nI n) rfl gfX9_24_9 rfl ((congrFun (up2_row (by decide)) 4).trans h4) ?_
  refine a_l2 rfl rfl rfl ?_
  refine a_eSN0 rfl lX9_44 mo_X11_setAt (sp_X11_setAt rfl) rfl rfl rfl rfl ?_
  rw [setF_nI hn (by decide)]
  refine a_l0 rfl rfl rfl ?_
  refine a_getq rfl gfX9_18_9 rfl (rfl) ?_
  refine a_l0 rfl rfl rfl ?_
  refine a_getiv (v := nI n) rfl gfX9_24_9 rfl ((congrFun (up2_row (by decide)) 4).trans ((congrFun (up2_row (by decide)) 4).trans h4)) ?_
  refine a_l2 rfl rfl rfl ?_
  refine a_eSN0 rfl lX9_44 mo_X11_setAt (sp_X11_setAt rfl) rfl rfl rfl rfl ?_
  rw [setF_nI hn (by decide)]
  refine a_l0 rfl rfl rfl ?_
  refine a_s rfl rfl ?_
  refine a_getiv (v := nI n) rfl gfX9_24_9 rfl ((congrFun (up2_row (by decide)) 4).trans ((congrFun (up2_row (by decide)) 4).trans ((congrFun (up2_row (by decide)) 4).trans h4))) ?_
  refine a_s rfl rfl ?_
  refine a_s rfl rfl ?_
  refine a_top (y := nI (n + 1)) ((nI_succ n).symm) ?_
  refine a_puti rfl pfX9_24_9 rfl ?_
  exact a_vret rfl rfl ⟨rfl, rfl⟩
/-- what a thing of the row is -/
def TkJ (I : Nat → Nat → Int32) (e j b : Nat) : Prop := I 222 j = nI (kd (I 202) e b) ∧ I 223 j = nI b ∧ I 224 j = nI (en (I 202) e b)
theorem f_isText (hw : WdS S) (he : I 201 1 = nI e) (h4 : e ≤ 400) (hbt : BtT (I 202)) (hj : j < 401) (hb : b < e) (hk : kd (I 202) e b = 1) (hT : TkJ I e j b) {k : Nat} (hk3 : k < 27) : SpE S m_X9_isText 16 [.ref 221, .ref 201, .int (nI j), .ref (130 + k)] (hp I L w1 w2 t) (some (.int (bI (isW (I 202) b (en (I 202) e b - b) k)))) (hp I L w1 w2 t) := by
  have h1 := en_ge (T := I 202) (e := e) (b := b)
  have h2 := en_le (T := I 202) (Nat.le_of_lt hb)
  have h3 := wLen_lt k hk3
  obtain ⟨-, t2, t3⟩ := hT
  refine SpE_of ok_X9_isText rfl rfl ?_
  show AW S m_X9_isText 16 _ _ 0 0 0 [some (.ref 221), some (.ref 201), some (.int (nI j)), some (.ref (130 + k)), none, none] [] (hp I L w1 w2 t)
  refine a_l0 rfl rfl rfl ?_
  refine a_getq rfl gfX9_15_9 rfl (rfl) ?_
  refine a_l2 rfl rfl rfl ?_
  refine a_eSN1 rfl lX9_58 mo_X11_at (sp_X11_at rfl) rfl rfl rfl rfl ?_
  refine a_top (y := nI b) ((atF_nI hj (by decide)).trans t2) ?_
  refine a_s4 rfl rfl rfl rfl rfl rfl ?_
  refine a_l0 rfl rfl rfl ?_
  refine a_getq rfl gfX9_18_9 rfl (rfl) ?_
  refine a_l2 rfl rfl rfl ?_
  refine a_eSN1 rfl lX9_58 mo_X11_at (sp_X11_at rfl) rfl rfl rfl rfl ?_
  refine a_top (y := nI (en (I 202) e b)) ((atF_nI hj (by decide)).trans t3) ?_
  refine a_l4 rfl rfl rfl ?_
  refine a_s rfl rfl ?_
  refine a_top (y := nI (en (I 202) e b - b)) (nI_sub h1) ?_
  refine a_l3 rfl rfl rfl ?_
  refine a_eK1 rfl lX9_82 mo_J0_length_8abf5 (q_strlen hw hk3) rfl rfl rfl (hw.so hk3) rfl ?_
  refine a_ic_eq rfl (fun c => ?_) (fun c => ?_)
  rotate_left
  · refine a_s rfl rfl ?_
    refine a_zret rfl rfl rfl ⟨?_, rfl⟩
    rw [show isW (I 202) b (en (I 202) e b - b) k = false from decide_eq_false fun z => c (congrArg nI z.1)]
    rfl
  have hl : en (I 202) e b - b = wLen k := nI_inj (by omega) h3 c
  refine a_s rfl rfl ?_
  refine a_s5 rfl rfl rfl rfl rfl rfl ?_
  refine a_inv (n := wLen k) (fun m ls h => ∃ i, ls = [some (.ref 221), some (.ref 201), some (.int (nI j)), some (.ref (130 + k)), some (.int (nI b)), some (.int (nI i))] ∧ h = hp I L w1 w2 t ∧ i ≤ wLen k ∧ m = wLen k - i ∧ ∀ q, q < i → I 202 (b + q) = wC k q) ⟨0, rfl, rfl, Nat.zero_le _, rfl, fun q hq => absurd hq (Nat.not_lt_zero _)⟩ ?_
  rintro m _ _ ⟨i, rfl, rfl, hi, hm, hq⟩ ih
  refine a_l5 rfl rfl rfl ?_
  refine a_l3 rfl rfl rfl ?_
  refine a_eK1 rfl lX9_82 mo_J0_length_8abf5 (q_strlen hw hk3) rfl rfl rfl (hw.so hk3) rfl ?_
  refine a_ic_ge rfl (fun c2 => ?_) (fun c2 => ?_)
  · have hge := nI_ge_of c2 (by omega) h3
    refine a_s rfl rfl ?_
    refine a_zret rfl rfl rfl ⟨?_, rfl⟩
    rw [show isW (I 202) b (en (I 202) e b - b) k = true from decide_eq_true ⟨hl, fun q hq2 => hq q (by omega)⟩]
    rfl
  have hil : i < wLen k := nI_lt_of c2 (by omega) h3
  refine a_l1 rfl rfl rfl ?_
  refine a_l4 rfl rfl rfl ?_
  refine a_l5 rfl rfl rfl ?_
  refine a_s rfl rfl ?_
  refine a_top (y := nI (b + i)) (nI_addl b i) ?_
  refine a_eV1 rfl lX9_33 mo_X7_byteAt (f_byteAt he h4 (by omega)) rfl rfl rfl ⟨7, _, rfl, rfl, rfl⟩ rfl ?_
  have hbi : b + i < e := by omega
  refine a_top (y := I 202 (b + i) &&& 255) (if_pos hbi) ?_
  have hkc : kcF (I 202 (b + i)) = 1 := by
    rw [en_1 hk] at hl
    exact isK_kc (rn_all (T := I 202) (e := e) (k := 1) (p := b) (Nat.le_add_right _ _) (by omega))
  obtain ⟨x, hx, ex⟩ := hbt (b + i) (by omega)
  have e255 : I 202 (b + i) &&& 255 = I 202 (b + i) := by
    rw [ex] at hkc ⊢
    exact bt_lt x hx hkc
  refine a_top (y := I 202 (b + i)) (e255) ?_
  refine a_l3 rfl rfl rfl ?_
  refine a_l5 rfl rfl rfl ?_
  refine a_eK1 rfl lX9_87 mo_J0_charAt_5068e (q_charAt hw hk3 hil) rfl rfl rfl (hw.so hk3) rfl ?_
  refine a_ic_eq rfl (fun c3 => ?_) (fun c3 => ?_)
  · refine a_iv5 (y := nI (i + 1)) rfl rfl rfl ((nI_succ i).symm) ?_
    refine a_goto rfl ?_
    refine ih (wLen k - (i + 1)) _ _ (by omega) ⟨i + 1, rfl, rfl, by omega, rfl, fun q hq2 => ?_⟩
    by_cases c4 : q = i
    · rw [c4]
      exact c3
    · exact hq q (by omega)
  · refine a_s rfl rfl ?_
    refine a_zret rfl rfl rfl ⟨?_, rfl⟩
    rw [show isW (I 202) b (en (I 202) e b - b) k = false from decide_eq_false fun z => c3 (z.2 i hil)]
    rfl
theorem f_wordOf (hw : WdS S) (he : I 201 1 = nI e) (h4 : e ≤ 400) (hbt : BtT (I 202)) (hj : j < 401) (hb : b < e) (hk : kd (I 202) e b = 1) (hT : TkJ I e j b) : SpE S m_X9_wordOf 17 [.ref 221, .ref 201, .int (nI j)] (hp I L w1 w2 t) (some (.int (if wd (I 202) e b < 27 then nI (wd (I 202) e b) else -1))) (hp I L w1 w2 t) := by
  have hs := srA_all (isW (I 202) b (en (I 202) e b - b)) 27 0
  refine SpE_of ok_X9_wordOf rfl rfl ?_
  show AW S m_X9_wordOf 17 _ _ 0 0 0 [some (.ref 221), some (.ref 201), some (.int (nI j)), none, none] [] (hp I L w1 w2 t)
  refine a_s rfl rfl ?_
  refine a_s3 rfl rfl rfl rfl rfl rfl ?_
  refine a_inv (n := 27) (fun m ls h => ∃ i, ls = [some (.ref 221), some (.ref 201), some (.int (nI j)), some (.int (nI i)), none] ∧ h = hp I L w1 w2 t ∧ i ≤ 27 ∧ m = 27 - i ∧ i ≤ wd (I 202) e b) ⟨0, rfl, rfl, Nat.zero_le _, rfl, Nat.zero_le _⟩ ?_
  rintro m _ _ ⟨i, rfl, rfl, hi, hm, hq⟩ ih
  refine a_l3 rfl rfl rfl ?_
  refine a_gets rfl (inC4 (i := 0) rfl rfl) hw.al ?_
  refine a_lenc rfl hw.ar rfl ?_
  refine a_ic_ge rfl (fun c2 => ?_) (fun c2 => ?_)
  · have hge := nI_ge_of (b := 27) c2 (by omega) (by decide)
    refine a_s rfl rfl ?_
    refine a_iret rfl rfl ⟨?_, rfl⟩
    rw [if_neg (by omega)]
  have hil : i < 27 := nI_lt_of (b := 27) c2 (by omega) (by decide)
  refine a_gets rfl (inC4 (i := 0) rfl rfl) hw.al ?_
  refine a_l3 rfl rfl rfl ?_
  refine a_aaldc rfl hw.ar rfl (inI_nI hil (by decide)) ?_
  refine a_pop1 (st := [.ref (100 + i)]) (by rw [nI_clamp (by omega)]) ?_
  refine a_s4 rfl rfl rfl rfl rfl rfl ?_
  refine a_l4 rfl rfl rfl ?_
  refine a_ifnull_f rfl ?_
  refine a_l0 rfl rfl rfl ?_
  refine a_l1 rfl rfl rfl ?_
  refine a_l2 rfl rfl rfl ?_
  refine a_l4 rfl rfl rfl ?_
  refine a_getc rfl (inC10 (i := 50) rfl rfl) (hw.tx hil) ?_
  refine a_eV1 rfl lX9_78 mo_X9_isText (f_isText hw he h4 hbt hj hb hk hT hil) rfl rfl rfl ⟨9, _, rfl, rfl, rfl⟩ rfl ?_
  cases c3 : isW (I 202) b (en (I 202) e b - b) i with
  | true =>
    refine a_if_eq rfl (fun c => absurd c (by decide)) (fun _ => ?_)
    refine a_l3 rfl rfl rfl ?_
    refine a_iret rfl rfl ⟨?_, rfl⟩
    rw [wd_eq hil c3, if_pos hil]
  | false =>
    refine a_if_eq rfl (fun _ => ?_) (fun c => absurd rfl c)
    refine a_iv3 (y := nI (i + 1)) rfl rfl rfl ((nI_succ i).symm) ?_
    refine a_goto rfl ?_
    refine a_less (ih (27 - (i + 1)) _ _ (by omega) ⟨i + 1, rfl, rfl, by omega, rfl, ?_⟩) ⟨rfl, rfl, rfl, rfl, trivial⟩
    rcases Nat.lt_or_ge (wd (I 202) e b) (i + 1) with z | z
    · exfalso
      have hwi : wd (I 202) e b = i := by omega
      have := wd_is (T := I 202) (e := e) (b := b) (by omega)
      rw [hwi, c3] at this
      cases this
    · exact z
theorem f_numberOf (he : I 201 1 = nI e) (h4 : e ≤ 400) (hbt : BtT (I 202)) (hj : j < 401) (hb : b < e) (hk : kd (I 202) e b = 2) (hT : TkJ I e j b) : SpE S m_X9_numberOf 13 [.ref 221, .ref 201, .int (nI j)] (hp I L w1 w2 t) (some (.int (if 3 < en (I 202) e b - b then -1 else nuF (I 202) b (en (I 202) e b - b)))) (hp I L w1 w2 t) := by
  have h1 := en_ge (T := I 202) (e := e) (b := b)
  have h2 := en_le (T := I 202) (Nat.le_of_lt hb)
  obtain ⟨-, t2, t3⟩ := hT
  refine SpE_of ok_X9_numberOf rfl rfl ?_
  show AW S m_X9_numberOf 13 _ _ 0 0 0 [some (.ref 221), some (.ref 201), some (.int (nI j)), none, none, none, none] [] (hp I L w1 w2 t)
  refine a_l0 rfl rfl rfl ?_
  refine a_getq rfl gfX9_15_9 rfl (rfl) ?_
  refine a_l2 rfl rfl rfl ?_
  refine a_eSN1 rfl lX9_58 mo_X11_at (sp_X11_at rfl) rfl rfl rfl rfl ?_
  refine a_top (y := nI b) ((atF_nI hj (by decide)).trans t2) ?_
  refine a_s3 rfl rfl rfl rfl rfl rfl ?_
  refine a_l0 rfl rfl rfl ?_
  refine a_getq rfl gfX9_18_9 rfl (rfl) ?_
  refine a_l2 rfl rfl rfl ?_
  refine a_eSN1 rfl lX9_58 mo_X11_at (sp_X11_at rfl) rfl rfl rfl rfl ?_
  refine a_top (y := nI (en (I 202) e b)) ((atF_nI hj (by decide)).trans t3) ?_
  refine a_s4 rfl rfl rfl rfl rfl rfl ?_
  refine a_l4 rfl rfl rfl ?_
  refine a_l3 rfl rfl rfl ?_
  refine a_s rfl rfl ?_
  refine a_top (y := nI (en (I 202) e b - b)) (nI_sub h1) ?_
  refine a_s rfl rfl ?_
  refine a_ic_le rfl (fun c => ?_) (fun c => ?_)
  rotate_left
  · refine a_s rfl rfl ?_
    refine a_iret rfl rfl ⟨?_, rfl⟩
    rw [if_pos (Nat.not_le.mp fun z => c (nI_leu (j := 3) z (by decide)))]
  have hle : ¬ 3 < en (I 202) e b - b := fun z => absurd (nI_ltu (n := 3) z (by omega)) (Int32.not_lt.mpr c)
  refine a_s rfl rfl ?_
  refine a_s5 rfl rfl rfl rfl rfl rfl ?_
  refine a_l3 rfl rfl rfl ?_
  refine a_s6 rfl rfl rfl rfl rfl rfl ?_
  refine a_inv (n := en (I 202) e b - b) (fun m ls h => ∃ i, ls = [some (.ref 221), some (.ref 201), some (.int (nI j)), some (.int (nI b)), some (.int (nI (en (I 202) e b))), some (.int (nuF (I 202) b i)), some (.int (nI (b + i)))] ∧ h = hp I L w1 w2 t ∧ b + i ≤ en (I 202) e b ∧ m = en (I 202) e b - b - i) ⟨0, rfl, rfl, h1, rfl⟩ ?_
  rintro m _ _ ⟨i, rfl, rfl, hi, hm⟩ ih
  refine a_l6 rfl rfl rfl ?_
  refine a_l4 rfl rfl rfl ?_
  refine a_ic_ge rfl (fun c2 => ?_) (fun c2 => ?_)
  · have hge := nI_ge_of c2 (by omega) (by omega)
    refine a_l5 rfl rfl rfl ?_
    refine a_iret rfl rfl ⟨?_, rfl⟩
    rw [if_neg hle, show en (I 202) e b - b = i by omega]
  have hil : b + i < en (I 202) e b := nI_lt_of c2 (by omega) (by omega)
  refine a_l5 rfl rfl rfl ?_
  refine a_s rfl rfl ?_
  refine a_s rfl rfl ?_
  refine a_l1 rfl rfl rfl ?_
  refine a_l6 rfl rfl rfl ?_
  refine a_eV1 rfl lX9_33 mo_X7_byteAt (f_byteAt he h4 (by omega)) rfl rfl rfl ⟨7, _, rfl, rfl, rfl⟩ rfl ?_
  refine a_top (y := I 202 (b + i) &&& 255) (if_pos (by omega)) ?_
  have hkc : kcF (I 202 (b + i)) = 2 := by
    rw [en_2 hk] at hil
    exact isK_kc (rn_all (T := I 202) (e := e) (k := 2) (p := b) (Nat.le_add_right _ _) hil)
  obtain ⟨x, hx, ex⟩ := hbt (b + i) (by omega)
  have e255 : I 202 (b + i) &&& 255 = I 202 (b + i) := by
    rw [ex] at hkc ⊢
    exact (bt_dg x hx hkc).1
  refine a_top (y := I 202 (b + i)) (e255) ?_
  refine a_s rfl rfl ?_
  refine a_s rfl rfl ?_
  refine a_s rfl rfl ?_
  refine a_s5 rfl rfl rfl rfl rfl rfl ?_
  refine a_iv6 (y := nI (b + (i + 1))) rfl rfl rfl ((nI_succ (b + i)).symm) ?_
  refine a_goto rfl ?_
  exact ih (en (I 202) e b - b - (i + 1)) _ _ (by omega) ⟨i + 1, rfl, rfl, by omega, rfl⟩
theorem f_valueOf (hw : WdS S) (he : I 201 1 = nI e) (h4 : e ≤ 400) (hbt : BtT (I 202)) (hj : j < 401) (hbe : b ≤ e) (hnb : kd (I 202) e b ≠ 4) (hT : TkJ I e j b) : SpE S m_X9_valueOf 18 [.ref 221, .ref 201, .int (nI j)] (hp I L w1 w2 t) (some (.int (vl (I 202) e b))) (hp I L w1 w2 t) := by
  refine SpE_of ok_X9_valueOf rfl rfl ?_
  show AW S m_X9_valueOf 18 _ _ 0 0 0 [some (.ref 221), some (.ref 201), some (.int (nI j))] [] (hp I L w1 w2 t)
  refine a_l0 rfl rfl rfl ?_
  refine a_getq rfl gfX9_9_9 rfl (rfl) ?_
  refine a_l2 rfl rfl rfl ?_
  refine a_eSN1 rfl lX9_58 mo_X11_at (sp_X11_at rfl) rfl rfl rfl rfl ?_
  refine a_top (y := nI (kd (I 202) e b)) ((atF_nI hj (by decide)).trans hT.1) ?_
  have hk5 : kd (I 202) e b < 5 := by
    by_cases c : b < e
    · rw [kd_lt c]
      rcases kc_cases (I 202 b) with z | z | z | z <;> omega
    · rw [kd_ge c]
      omega
  have hti : (nI (kd (I 202) e b)).toInt = (kd (I 202) e b : Int) := nI_toInt (by omega)
  refine a_lsw2 rfl (by decide) (by decide) (fun hx => ?_) (fun hx => ?_) (fun hx hx2 => ?_)
  · refine a_pc (pc' := 36) (by decide) ?_
    have hk : kd (I 202) e b = 1 := by rw [hti] at hx; omega
    refine a_l0 rfl rfl rfl ?_
    refine a_l1 rfl rfl rfl ?_
    refine a_l2 rfl rfl rfl ?_
    refine a_eV1 rfl lX9_62 mo_X9_wordOf (f_wordOf hw he h4 hbt hj (kd_in (by rw [hk]; decide)) hk hT) rfl rfl rfl ⟨9, _, rfl, rfl, rfl⟩ rfl ?_
    refine a_iret rfl rfl ⟨?_, rfl⟩
    rw [vl_1 hk]
  · refine a_pc (pc' := 43) (by decide) ?_
    have hk : kd (I 202) e b = 2 := by rw [hti] at hx; omega
    refine a_l0 rfl rfl rfl ?_
    refine a_l1 rfl rfl rfl ?_
    refine a_l2 rfl rfl rfl ?_
    refine a_eV1 rfl lX9_65 mo_X9_numberOf (f_numberOf he h4 hbt hj (kd_in (by rw [hk]; decide)) hk hT) rfl rfl rfl ⟨9, _, rfl, rfl, rfl⟩ rfl ?_
    refine a_iret rfl rfl ⟨?_, rfl⟩
    rw [vl_2 hk]
  · refine a_pc (pc' := 50) (by decide) ?_
    rw [hti] at hx hx2
    refine a_l1 rfl rfl rfl ?_
    refine a_l0 rfl rfl rfl ?_
    refine a_getq rfl gfX9_15_9 rfl (rfl) ?_
    refine a_l2 rfl rfl rfl ?_
    refine a_eSN1 rfl lX9_58 mo_X11_at (sp_X11_at rfl) rfl rfl rfl rfl ?_
    refine a_top (y := nI b) ((atF_nI hj (by decide)).trans hT.2.1) ?_
    refine a_eV1 rfl lX9_33 mo_X7_byteAt (f_byteAt he h4 (by omega)) rfl rfl rfl ⟨7, _, rfl, rfl, rfl⟩ rfl ?_
    refine a_iret rfl rfl ⟨?_, rfl⟩
    by_cases c : b < e
    · have hk : kd (I 202) e b = 3 := by
        have := kd_lt (T := I 202) c
        rcases kc_cases (I 202 b) with z | z | z | z <;> omega
      rw [vl_3 hk, if_pos c]
    · rw [vl_0 (kd_ge c), if_neg c]
end T79
end
section
/-! ===== the class's tokens: all at once, and one behind another ===== -/
section T79b
variable {S : aS} {I : Nat → Nat → Int32} {L : Nat → Nat → Int64} {w1 w2 t : Nat} {e n j b : Nat}
set_option maxRecDepth 100000
/-- all but the law's tokens is as it was -/
def Ft (I J : Nat → Nat → Int32) : Prop := ∀ q, ¬ (221 ≤ q ∧ q ≤ 225) → J q = I q
theorem Ft.rf : Ft I I := fun _ _ => rfl
theorem Ft.tr {J K : Nat → Nat → Int32} (h : Ft I J) (h2 : Ft J K) : Ft I K := fun q hq => (h2 q hq).trans (h q hq)
theorem Ft.up {J : Nat → Nat → Int32} {p k : Nat} {v : Int32} (h : Ft I J) (hp : 221 ≤ p ∧ p ≤ 225) : Ft I (up2 J p k v) := fun q hq => by
  rw [up2_row (by intro z; subst z; exact hq hp)]
  exact h q hq
/-- the things up to n, the last of them the end -/
def TkA (T : Nat → Int32) (e n : Nat) (I : Nat → Nat → Int32) : Prop := n ≤ 400 ∧ ¬ bg T e n < e ∧ I 221 4 = nI (n + 1) ∧ ∀ j, j ≤ n → I 222 j = nI (kd T e (bg T e j)) ∧ I 223 j = nI (bg T e j) ∧ I 225 j = vl T e (bg T e j)
def wrF (T : Nat → Int32) (e b : Nat) : Nat := if kd T e b = 1 ∧ wd T e b < 27 then 100 + wd T e b + 1 else 0
/-- what is at hand begins at b -/
def At (T : Nat → Int32) (e b w : Nat) (I : Nat → Nat → Int32) : Prop := (∃ n j, TkA T e n I ∧ j ≤ n ∧ I 221 5 = nI j ∧ b = bg T e j) ∧ I 221 6 = nI (kd T e b) ∧ I 221 7 = nI b ∧ I 221 8 = vl T e b ∧ w = wrF T e b
theorem At.ki {T : Nat → Int32} {w : Nat} (h : At T e b w I) : I 221 6 = nI (kd T e b) := h.2.1
theorem At.be {T : Nat → Int32} {w : Nat} (h : At T e b w I) : I 221 7 = nI b := h.2.2.1
theorem At.va {T : Nat → Int32} {w : Nat} (h : At T e b w I) : I 221 8 = vl T e b := h.2.2.2.1
theorem At.wo {T : Nat → Int32} {w : Nat} (h : At T e b w I) : w = wrF T e b := h.2.2.2.2
theorem At.le {T : Nat → Int32} {w : Nat} (h : At T e b w I) : b ≤ e := by
  obtain ⟨⟨n, j, -, -, -, rfl⟩, -⟩ := h
  exact bg_le j
theorem At.sk {T : Nat → Int32} {w : Nat} (h : At T e b w I) : rn T e 4 b = b := by
  obtain ⟨⟨n, j, -, -, -, rfl⟩, -⟩ := h
  exact bg_sk j
theorem At.eq {T : Nat → Int32} {w : Nat} {J : Nat → Nat → Int32} (h : At T e b w I) (f : ∀ q, 221 ≤ q → q ≤ 225 → J q = I q) : At T e b w J := by
  obtain ⟨⟨n, j, ⟨a1, a2, a3, a4⟩, h2, h3, h4⟩, h5, h6, h7, h8⟩ := h
  have e1 := f 221 (by decide) (by decide)
  refine ⟨⟨n, j, ⟨a1, a2, by rw [e1]; exact a3, fun i hi => ?_⟩, h2, by rw [e1]; exact h3, h4⟩, by rw [e1]; exact h5, by rw [e1]; exact h6, by rw [e1]; exact h7, h8⟩
  rw [f 222 (by decide) (by decide), f 223 (by decide) (by decide), f 225 (by decide) (by decide)]
  exact a4 i hi
theorem kd_4 {T : Nat → Int32} {k : Nat} (h : kd T e b = k) : k < 5 := by
  rw [← h]
  by_cases c : b < e
  · rw [kd_lt c]
    rcases kc_cases (T b) with z | z | z | z <;> omega
  · rw [kd_ge c]
    omega
theorem min_nI {a c : Nat} (ha : a < 2 ^ 31) (hc : c < 2 ^ 31) : (if nI c < nI a then nI c else nI a) = nI (if a ≤ c then a else c) := by
  by_cases h : a ≤ c
  · rw [if_pos h, if_neg (Int32.not_lt.mpr (nI_leu h hc))]
  · rw [if_neg h, if_pos (nI_ltu (by omega) ha)]
theorem vl_w {T : Nat → Int32} (h : kd T e b = 1) : (vl T e b < 0 ∧ ¬ wd T e b < 27) ∨ (¬ vl T e b < 0 ∧ wd T e b < 27 ∧ vl T e b = nI (wd T e b)) := by
  rw [vl_1 h]
  by_cases c : wd T e b < 27
  · rw [if_pos c]
    exact Or.inr ⟨nI_pos (by omega), c, rfl⟩
  · rw [if_neg c]
    exact Or.inl ⟨by decide, c⟩
/-- to the thing behind, or it stays at the end -/
theorem f_next {T : Nat → Int32} (hw : WdS S) {n i j : Nat} (hT : TkA T e n I) (h5 : I 221 5 + 1 = nI i) (hij : j = if i ≤ n then i else n) (hi : i ≤ 401) : Sp S m_X9_next 13 0 0 [.ref 221] (hp I L w1 w2 t) (fun v h' => v = none ∧ ∃ J w, h' = hp J L w1 w t ∧ At T e (bg T e j) w J ∧ ∀ q, q ≠ 221 → J q = I q) nX := by
  obtain ⟨a1, a2, a3, a4⟩ := id hT
  have hjn : j ≤ n := by
    rw [hij]
    by_cases c : i ≤ n
    · rw [if_pos c]
      exact c
    · rw [if_neg c]
      exact Nat.le_refl n
  obtain ⟨b1, b2, b3⟩ := a4 j hjn
  refine Sp_of ok_X9_next rfl rfl ?_
  show AW S m_X9_next 13 _ _ 0 0 0 [some (.ref 221)] [] (hp I L w1 w2 t)
  refine a_l0 rfl rfl rfl ?_
  refine a_l0 rfl rfl rfl ?_
  refine a_geti rfl gfX9_52_9 rfl ?_
  refine a_s rfl rfl ?_
  refine a_s rfl rfl ?_
  refine a_top (y := nI i) (h5) ?_
  refine a_l0 rfl rfl rfl ?_
  refine a_getiv (v := nI (n + 1)) rfl gfX9_24_9 rfl (a3) ?_
  refine a_s rfl rfl ?_
  refine a_s rfl rfl ?_
  refine a_top (y := nI n) (nI_dec n) ?_
  refine a_min rfl lX9_91 mj_min rfl rfl ?_
  refine a_top (y := nI j) ((min_nI (by omega) (by omega)).trans (congrArg nI hij.symm)) ?_
  refine a_puti rfl pfX9_52_9 rfl ?_
  refine a_l0 rfl rfl rfl ?_
  refine a_l0 rfl rfl rfl ?_
  refine a_getq rfl gfX9_9_9 rfl (rfl) ?_
  refine a_l0 rfl rfl rfl ?_
  refine a_getiv (v := nI j) rfl gfX9_52_9 rfl (up2_at) ?_
  refine a_eSN1 rfl lX9_58 mo_X11_at (sp_X11_at rfl) rfl rfl rfl rfl ?_
  refine a_top (y := nI (kd T e (bg T e j))) ((atF_nI (by omega) (by decide)).trans ((congrFun (up2_row (by decide)) j).trans b1)) ?_
  refine a_puti rfl pfX9_97_9 rfl ?_
  refine a_l0 rfl rfl rfl ?_
  refine a_l0 rfl rfl rfl ?_
  refine a_getq rfl gfX9_15_9 rfl (rfl) ?_
  refine a_l0 rfl rfl rfl ?_
  refine a_getiv (v := nI j) rfl gfX9_52_9 rfl ((up2_ne (Or.inr (by decide))).trans up2_at) ?_
  refine a_eSN1 rfl lX9_58 mo_X11_at (sp_X11_at rfl) rfl rfl rfl rfl ?_
  refine a_top (y := nI (bg T e j)) ((atF_nI (by omega) (by decide)).trans ((congrFun (up2_row (by decide)) j).trans ((congrFun (up2_row (by decide)) j).trans b2))) ?_
  refine a_puti rfl pfX9_100_9 rfl ?_
  refine a_l0 rfl rfl rfl ?_
  refine a_l0 rfl rfl rfl ?_
  refine a_getq rfl gfX9_21_9 rfl (rfl) ?_
  refine a_l0 rfl rfl rfl ?_
  refine a_getiv (v := nI j) rfl gfX9_52_9 rfl ((up2_ne (Or.inr (by decide))).trans ((up2_ne (Or.inr (by decide))).trans up2_at)) ?_
  refine a_eSN1 rfl lX9_58 mo_X11_at (sp_X11_at rfl) rfl rfl rfl rfl ?_
  refine a_top (y := vl T e (bg T e j)) ((atF_nI (by omega) (by decide)).trans ((congrFun (up2_row (by decide)) j).trans ((congrFun (up2_row (by decide)) j).trans ((congrFun (up2_row (by decide)) j).trans b3)))) ?_
  refine a_puti rfl pfX9_103_9 rfl ?_
  refine a_ren (P := fun J => (∀ q, q ≠ 221 → J q = I q) ∧ J 221 4 = nI (n + 1) ∧ J 221 5 = nI j ∧ J 221 6 = nI (kd T e (bg T e j)) ∧ J 221 7 = nI (bg T e j) ∧ J 221 8 = vl T e (bg T e j)) ⟨fun q hq => ?_, ?_, ?_, ?_, ?_, up2_at⟩ (fun J hJ => ?_)
  · rw [up2_row hq, up2_row hq, up2_row hq, up2_row hq]
  · exact (up2_ne (Or.inr (by decide))).trans ((up2_ne (Or.inr (by decide))).trans ((up2_ne (Or.inr (by decide))).trans ((up2_ne (Or.inr (by decide))).trans a3)))
  · exact (up2_ne (Or.inr (by decide))).trans ((up2_ne (Or.inr (by decide))).trans ((up2_ne (Or.inr (by decide))).trans up2_at))
  · exact (up2_ne (Or.inr (by decide))).trans ((up2_ne (Or.inr (by decide))).trans up2_at)
  · exact (up2_ne (Or.inr (by decide))).trans up2_at
  obtain ⟨f, g4, g5, g6, g7, g8⟩ := hJ
  have hTJ : TkA T e n J := ⟨a1, a2, g4, fun i hi => by
    rw [f 222 (by decide), f 223 (by decide), f 225 (by decide)]
    exact a4 i hi⟩
  have fin : ∀ q, q = wrF T e (bg T e j) → AW S m_X9_next 13 (fun v h' => v = none ∧ ∃ J w, h' = hp J L w1 w t ∧ At T e (bg T e j) w J ∧ ∀ q, q ≠ 221 → J q = I q) nX 0 0 103 [some (.ref 221)] [rv q, .ref 221] (hp J L w1 w2 t) := by
    intro q hq
    refine a_putw2 (q := q) rfl pfX9_106_9 ?_
    exact a_vret rfl rfl ⟨rfl, J, q, rfl, ⟨⟨n, j, hTJ, hjn, g5, rfl⟩, g6, g7, g8, hq⟩, f⟩
  refine a_l0 rfl rfl rfl ?_
  refine a_l0 rfl rfl rfl ?_
  refine a_getiv (v := nI (kd T e (bg T e j))) rfl gfX9_97_9 rfl (g6) ?_
  refine a_s rfl rfl ?_
  refine a_ic_ne rfl (fun c => ?_) (fun c => ?_)
  · refine a_s rfl rfl ?_
    exact fin 0 (if_neg (fun z => c (congrArg nI z.1))).symm
  have hk : kd T e (bg T e j) = 1 := nI_inj (a := kd T e (bg T e j)) (b := 1) (by have := kd_4 (T := T) (e := e) (b := bg T e j) rfl; omega) (by decide) c
  refine a_l0 rfl rfl rfl ?_
  refine a_getiv (v := vl T e (bg T e j)) rfl gfX9_103_9 rfl (g8) ?_
  rcases vl_w hk with ⟨v1, v2⟩ | ⟨v1, v2, v3⟩
  · refine a_if_lt rfl (fun _ => ?_) (fun c => absurd v1 c)
    refine a_s rfl rfl ?_
    exact fin 0 (if_neg (fun z => v2 z.2)).symm
  · refine a_if_lt rfl (fun c => absurd c v1) (fun _ => ?_)
    refine a_l0 rfl rfl rfl ?_
    refine a_getiv (v := nI (wd T e (bg T e j))) rfl gfX9_103_9 rfl (g8.trans v3) ?_
    refine a_gets rfl (inC4 (i := 0) rfl rfl) hw.al ?_
    refine a_lenc rfl hw.ar rfl ?_
    refine a_ic_ge rfl (fun c => absurd c (nI_ge (b := 27) v2 (by decide))) (fun _ => ?_)
    refine a_gets rfl (inC4 (i := 0) rfl rfl) hw.al ?_
    refine a_l0 rfl rfl rfl ?_
    refine a_getiv (v := nI (wd T e (bg T e j))) rfl gfX9_103_9 rfl (g8.trans v3) ?_
    refine a_aaldc rfl hw.ar rfl (inI_nI v2 (by decide)) ?_
    refine a_pop1 (st := [rv (100 + wd T e (bg T e j) + 1), .ref 221]) (by rw [nI_clamp (by omega)]; rfl) ?_
    refine a_goto rfl ?_
    exact fin _ (if_pos ⟨hk, v2⟩).symm
/-- so far: n things begun by i, the last of kind la (4, 3: none goes on) -/
def SI (T : Nat → Int32) (e n i la : Nat) (I : Nat → Nat → Int32) : Prop := n ≤ i ∧ i ≤ e ∧ I 221 4 = nI n ∧ (∀ j, j < n → bg T e j < e ∧ I 222 j = nI (kd T e (bg T e j)) ∧ I 223 j = nI (bg T e j)) ∧
  (((la = 4 ∨ la = 3) ∧ (∀ j, j < n → I 224 j = nI (en T e (bg T e j))) ∧ bg T e n = rn T e 4 i) ∨
   ∃ m, n = m + 1 ∧ (la = 1 ∨ la = 2) ∧ kd T e (bg T e m) = la ∧ (∀ j, j < m → I 224 j = nI (en T e (bg T e j))) ∧ I 224 m = nI i ∧ en T e (bg T e m) = rn T e la i)
/-- none goes on over a sign of another kind -/
theorem SI.cl {T : Nat → Int32} {i la : Nat} (h : SI T e n i la I) (hne : (la = 4 ∨ la = 3) ∨ ¬ isK T e la i = true) : (∀ j, j < n → I 224 j = nI (en T e (bg T e j))) ∧ bg T e n = rn T e 4 i := by
  obtain ⟨-, -, -, -, ⟨-, h2, h3⟩ | ⟨m, rfl, h2, h3, h4, h5, h6⟩⟩ := h
  · exact ⟨h2, h3⟩
  · have hne : ¬ isK T e la i = true := hne.resolve_left (by omega)
    have e1 : en T e (bg T e m) = i := h6.trans (rn_f (Bool.eq_false_iff.mpr hne))
    refine ⟨fun j hj => ?_, ?_⟩
    · by_cases c : j = m
      · rw [c, e1]
        exact h5
      · exact h4 j (by omega)
    · show rn T e 4 (en T e (bg T e m)) = _
      rw [e1]
theorem f_scan (hw : WdS S) (he : I 201 1 = nI e) (h4 : e ≤ 400) (hbt : BtT (I 202)) : Sp S m_X9_scan 19 0 0 [.ref 221, .ref 201] (hp I L w1 w2 t) (fun v h' => v = none ∧ ∃ J w, h' = hp J L w1 w t ∧ At (I 202) e (bg (I 202) e 0) w J ∧ Ft I J) nX := by
  refine Sp_of ok_X9_scan rfl rfl ?_
  show AW S m_X9_scan 19 _ _ 0 0 0 [some (.ref 221), some (.ref 201), none, none, none] [] (hp I L w1 w2 t)
  -- behind both loops
  have part2 : ∀ (n : Nat) (J : Nat → Nat → Int32), Ft I J → n ≤ e → J 221 4 = nI (n + 1) → ¬ bg (I 202) e n < e → (∀ j, j ≤ n → TkJ J e j (bg (I 202) e j)) → AW S m_X9_scan 19 (fun v h' => v = none ∧ ∃ J w, h' = hp J L w1 w t ∧ At (I 202) e (bg (I 202) e 0) w J ∧ Ft I J) nX 0 0 92 [some (.ref 221), some (.ref 201), none, none, none] [] (hp J L w1 w2 t) := by
    intro n J hF hne hs hend hall
    have hT2 : J 202 = I 202 := hF 202 (by omega)
    have he2 : J 201 1 = nI e := (congrFun (hF 201 (by omega)) 1).trans he
    refine a_s rfl rfl ?_
    refine a_s3 rfl rfl rfl rfl rfl rfl ?_
    refine a_inv (n := n + 1) (fun m ls h => ∃ q K, ls = [some (.ref 221), some (.ref 201), none, some (.int (nI q)), none] ∧ h = hp K L w1 w2 t ∧ q ≤ n + 1 ∧ m = n + 1 - q ∧ (∀ p, p ≠ 225 → K p = J p) ∧ ∀ j, j < q → K 225 j = vl (I 202) e (bg (I 202) e j)) ⟨0, J, rfl, rfl, Nat.zero_le _, rfl, fun _ _ => rfl, fun j hj => absurd hj (Nat.not_lt_zero _)⟩ ?_
    rintro m _ _ ⟨q, K, rfl, rfl, hq, hm, hK, hv5⟩ ih
    refine a_l3 rfl rfl rfl ?_
    refine a_l0 rfl rfl rfl ?_
    refine a_getiv (v := nI (n + 1)) rfl gfX9_24_9 rfl ((congrFun (hK 221 (by decide)) 4).trans hs) ?_
    refine a_ic_ge rfl (fun c => ?_) (fun c => ?_)
    · have hge := nI_ge_of c (by omega) (by omega)
      obtain rfl : q = n + 1 := by omega
      refine a_l0 rfl rfl rfl ?_
      refine a_s rfl rfl ?_
      refine a_puti rfl pfX9_52_9 rfl ?_
      refine a_l0 rfl rfl rfl ?_
      have hTA : TkA (I 202) e n (up2 K 221 5 (-1)) := by
        refine ⟨by omega, hend, (up2_ne (Or.inr (by decide))).trans ((congrFun (hK 221 (by decide)) 4).trans hs), fun j hj => ?_⟩
        obtain ⟨z1, z2, z3⟩ := hall j hj
        rw [hT2] at z1
        rw [up2_row (by decide), up2_row (by decide), up2_row (by decide), hK 222 (by decide), hK 223 (by decide)]
        exact ⟨z1, z2, hv5 j (by omega)⟩
      refine a_gV rfl lX9_55 mo_X9_next (f_next (i := 0) (j := 0) hw hTA (by rw [up2_at]; rfl) rfl (by omega)) rfl rfl rfl ⟨9, _, rfl, rfl, rfl⟩ rfl (fun v' h' hv => ?_)
      obtain ⟨rfl, J2, w, rfl, hA, hf⟩ := hv
      refine a_vret rfl rfl ⟨rfl, J2, w, rfl, hA, fun p hp => ?_⟩
      have p1 : p ≠ 221 := by omega
      have p2 : p ≠ 225 := by omega
      rw [hf p p1, up2_row p1, hK p p2]
      exact hF p hp
    · have hqn : q < n + 1 := nI_lt_of c (by omega) (by omega)
      refine a_l0 rfl rfl rfl ?_
      refine a_getq rfl gfX9_21_9 rfl (rfl) ?_
      refine a_l3 rfl rfl rfl ?_
      refine a_l0 rfl rfl rfl ?_
      refine a_l1 rfl rfl rfl ?_
      refine a_l3 rfl rfl rfl ?_
      have hKT : K 202 = I 202 := (hK 202 (by decide)).trans hT2
      have hTq : TkJ K e q (bg (I 202) e q) := by
        have := hall q (by omega)
        unfold TkJ at this ⊢
        rw [hK 222 (by decide), hK 223 (by decide), hK 224 (by decide), hK 202 (by decide)]
        exact this
      refine a_eV1 rfl lX9_48 mo_X9_valueOf (f_valueOf (b := bg (I 202) e q) hw ((congrFun (hK 201 (by decide)) 1).trans he2) h4 (by rw [hKT]; exact hbt) (by omega) (bg_le q) (by rw [hKT]; exact sk_kd (bg_sk q)) hTq) rfl rfl rfl ⟨9, _, rfl, rfl, rfl⟩ rfl ?_
      refine a_top (y := vl (I 202) e (bg (I 202) e q)) (by rw [hKT]) ?_
      refine a_eSN0 rfl lX9_44 mo_X11_setAt (sp_X11_setAt rfl) rfl rfl rfl rfl ?_
      rw [setF_nI (by omega) (by decide)]
      refine a_iv3 (y := nI (q + 1)) rfl rfl rfl ((nI_succ q).symm) ?_
      refine a_goto rfl ?_
      refine ih (n + 1 - (q + 1)) _ _ (by omega) ⟨q + 1, up2 K 225 q (vl (I 202) e (bg (I 202) e q)), rfl, rfl, by omega, rfl, fun p hp => (up2_row hp).trans (hK p hp), fun j hj => ?_⟩
      by_cases cj : j = q
      · rw [cj]
        exact up2_at
      · exact (up2_ne (Or.inr cj)).trans (hv5 j (by omega))
  refine a_l0 rfl rfl rfl ?_
  refine a_s rfl rfl ?_
  refine a_puti rfl pfX9_24_9 rfl ?_
  refine a_s rfl rfl ?_
  refine a_s2 rfl rfl rfl rfl rfl rfl ?_
  refine a_s rfl rfl ?_
  refine a_s3 rfl rfl rfl rfl rfl rfl ?_
  refine a_inv (n := e) (fun m ls h => ∃ n i la J, ls = [some (.ref 221), some (.ref 201), some (.int (nI la)), some (.int (nI i)), none] ∧ h = hp J L w1 w2 t ∧ m = e - i ∧ Ft I J ∧ SI (I 202) e n i la J) ⟨0, 0, 4, _, rfl, rfl, rfl, Ft.up Ft.rf (by omega), Nat.le_refl _, Nat.zero_le _, up2_at, fun j hj => absurd hj (Nat.not_lt_zero _), Or.inl ⟨Or.inl rfl, fun j hj => absurd hj (Nat.not_lt_zero _), rfl⟩⟩ ?_
  rintro m _ _ ⟨n, i, la, J, rfl, rfl, hm, hF, hSI⟩ ih
  have hT2 : J 202 = I 202 := hF 202 (by omega)
  have he2 : J 201 1 = nI e := (congrFun (hF 201 (by omega)) 1).trans he
  obtain ⟨s1, s2, s3, s4, s5⟩ := id hSI
  have hla : la < 5 := by
    rcases s5 with ⟨z | z, -⟩ | ⟨_, -, z | z, -⟩ <;> omega
  refine a_l3 rfl rfl rfl ?_
  refine a_l1 rfl rfl rfl ?_
  refine a_getiv (v := nI e) rfl gfX9_28_7 rfl (he2) ?_
  refine a_ic_ge rfl (fun c => ?_) (fun c => ?_)
  · have hge := nI_ge_of c (by omega) (by omega)
    obtain rfl : i = e := by omega
    obtain ⟨k1, k2⟩ := SI.cl hSI (Or.inr fun z => absurd (isK_lt z) (Nat.lt_irrefl _))
    rw [rn_e (Nat.lt_irrefl _)] at k2
    refine a_l0 rfl rfl rfl ?_
    refine a_s rfl rfl ?_
    refine a_l1 rfl rfl rfl ?_
    refine a_getiv (v := nI i) rfl gfX9_28_7 rfl (he2) ?_
    refine a_eV0 rfl lX9_40 mo_X9_open (f_open s3 (by omega)) rfl rfl rfl ⟨9, _, rfl, rfl, rfl⟩ rfl ?_
    refine a_less (part2 n (opH J n 0 (nI i)) (Ft.up (Ft.up (Ft.up (Ft.up hF (by omega)) (by omega)) (by omega)) (by omega)) (by omega) up2_at (by rw [k2]; exact Nat.lt_irrefl _) (fun j hj => ?_)) ⟨rfl, rfl, trivial⟩
    have r2 : ∀ q, opH J n 0 (nI i) 222 q = up2 J 222 n 0 222 q := fun q => by
      unfold opH
      rw [up2_row (by decide), up2_row (by decide), up2_row (by decide)]
    have r3 : ∀ q, opH J n 0 (nI i) 223 q = up2 J 223 n (nI i) 223 q := fun q => by
      unfold opH
      rw [up2_row (by decide), up2_row (by decide)]
      by_cases cq : q = n
      · rw [cq, up2_at, up2_at]
      · rw [up2_ne (Or.inr cq), up2_ne (Or.inr cq), up2_ne (Or.inr cq)]
    have r4 : ∀ q, opH J n 0 (nI i) 224 q = up2 J 224 n (nI i) 224 q := fun q => by
      unfold opH
      rw [up2_row (by decide)]
      by_cases cq : q = n
      · rw [cq, up2_at, up2_at]
      · rw [up2_ne (Or.inr cq), up2_ne (Or.inr cq), up2_ne (Or.inr cq), up2_ne (Or.inr cq)]
    have r0 : opH J n 0 (nI i) 202 = I 202 := by
      unfold opH
      rw [up2_row (by decide), up2_row (by decide), up2_row (by decide), up2_row (by decide)]
      exact hT2
    unfold TkJ
    rw [r0, r2, r3, r4]
    by_cases cj : j = n
    · rw [cj, up2_at, up2_at, up2_at, k2, kd_ge (Nat.lt_irrefl _), en_0 (Nat.lt_irrefl _)]
      exact ⟨nI_0.symm, rfl, rfl⟩
    · obtain ⟨z1, z2, z3⟩ := s4 j (by omega)
      rw [up2_ne (Or.inr cj), up2_ne (Or.inr cj), up2_ne (Or.inr cj)]
      exact ⟨z2, z3, k1 j (by omega)⟩
  have hie : i < e := nI_lt_of c (by omega) (by omega)
  refine a_l1 rfl rfl rfl ?_
  refine a_l3 rfl rfl rfl ?_
  refine a_eV1 rfl lX9_33 mo_X7_byteAt (f_byteAt he2 h4 (by omega)) rfl rfl rfl ⟨7, _, rfl, rfl, rfl⟩ rfl ?_
  refine a_top (y := I 202 i &&& 255) ((if_pos hie).trans (by rw [hT2])) ?_
  refine a_eS1 rfl lX9_37 mo_X9_kindOf f_kindOf rfl rfl rfl rfl ?_
  obtain ⟨x, hx, ex⟩ := hbt i (by omega)
  refine a_top (y := nI (kcF (I 202 i))) (by rw [ex, bt_kc x hx]) ?_
  refine a_s4 rfl rfl rfl rfl rfl rfl ?_
  have hkc := kc_cases (I 202 i)
  generalize hk0 : kcF (I 202 i) = kc at hkc
  have isK_of : ∀ k, isK (I 202) e k i = true ↔ kc = k := fun k => ⟨fun z => hk0.symm.trans (isK_kc z), fun z => isK_t hie (hk0.trans z)⟩
  -- the loop goes on
  have on : ∀ (n' : Nat) (K : Nat → Nat → Int32), Ft I K → SI (I 202) e n' (i + 1) kc K → AW S m_X9_scan 19 (fun v h' => v = none ∧ ∃ J w, h' = hp J L w1 w t ∧ At (I 202) e (bg (I 202) e 0) w J ∧ Ft I J) nX 0 0 74 [some (.ref 221), some (.ref 201), some (.int (nI la)), some (.int (nI i)), some (.int (nI kc))] [] (hp K L w1 w2 t) := by
    intro n' K hFK hSK
    refine a_l4 rfl rfl rfl ?_
    refine a_s2 rfl rfl rfl rfl rfl rfl ?_
    refine a_iv3 (y := nI (i + 1)) rfl rfl rfl ((nI_succ i).symm) ?_
    refine a_goto rfl ?_
    have lt : e - (i + 1) < m := by rw [hm]; exact Nat.sub_lt_sub_left hie (Nat.lt_succ_self i)
    exact a_less (ih (e - (i + 1)) [some (.ref 221), some (.ref 201), some (.int (nI kc)), some (.int (nI (i + 1))), none] (hp K L w1 w2 t) lt ⟨n', i + 1, kc, K, rfl, rfl, rfl, hFK, hSK⟩) ⟨rfl, rfl, rfl, rfl, trivial⟩
  -- where the latest ends
  have k52 : ∀ (m : Nat) (K : Nat → Nat → Int32), kc ≠ 4 → m < 401 → K 221 4 = nI (m + 1) → Ft I K → SI (I 202) e (m + 1) (i + 1) kc (up2 K 224 m (nI (i + 1))) → AW S m_X9_scan 19 (fun v h' => v = none ∧ ∃ J w, h' = hp J L w1 w t ∧ At (I 202) e (bg (I 202) e 0) w J ∧ Ft I J) nX 0 0 52 [some (.ref 221), some (.ref 201), some (.int (nI la)), some (.int (nI i)), some (.int (nI kc))] [] (hp K L w1 w2 t) := by
    intro m K h4 hm4 hK4 hFK hSK
    refine a_l4 rfl rfl rfl ?_
    refine a_s rfl rfl ?_
    refine a_ic_eq rfl (fun c => absurd (nI_inj (b := 4) (by omega) (by decide) c) h4) (fun _ => ?_)
    refine a_l0 rfl rfl rfl ?_
    refine a_getq rfl gfX9_18_9 rfl (rfl) ?_
    refine a_l0 rfl rfl rfl ?_
    refine a_getiv (v := nI (m + 1)) rfl gfX9_24_9 rfl (hK4) ?_
    refine a_s rfl rfl ?_
    refine a_s rfl rfl ?_
    refine a_top (y := nI m) (nI_dec m) ?_
    refine a_l3 rfl rfl rfl ?_
    refine a_s rfl rfl ?_
    refine a_s rfl rfl ?_
    refine a_top (y := nI (i + 1)) ((nI_succ i).symm) ?_
    refine a_eSN0 rfl lX9_44 mo_X11_setAt (sp_X11_setAt rfl) rfl rfl rfl rfl ?_
    rw [setF_nI hm4 (by decide)]
    exact on _ _ (Ft.up hFK (by omega)) hSK
  -- a new one begins here
  have k45 : kc ≠ 4 → ((la = 4 ∨ la = 3) ∨ kc ≠ la) → AW S m_X9_scan 19 (fun v h' => v = none ∧ ∃ J w, h' = hp J L w1 w t ∧ At (I 202) e (bg (I 202) e 0) w J ∧ Ft I J) nX 0 0 45 [some (.ref 221), some (.ref 201), some (.int (nI la)), some (.int (nI i)), some (.int (nI kc))] [] (hp J L w1 w2 t) := by
    intro n4 hne
    obtain ⟨k1, k2⟩ := SI.cl hSI (hne.imp id fun z y => z ((isK_of la).mp y))
    have kb : bg (I 202) e n = i := k2.trans (rn_f (Bool.eq_false_iff.mpr fun z => n4 ((isK_of 4).mp z)))
    have kk : kd (I 202) e i = kc := (kd_lt hie).trans hk0
    refine a_l0 rfl rfl rfl ?_
    refine a_l4 rfl rfl rfl ?_
    refine a_l3 rfl rfl rfl ?_
    refine a_eV0 rfl lX9_40 mo_X9_open (f_open s3 (by omega)) rfl rfl rfl ⟨9, _, rfl, rfl, rfl⟩ rfl ?_
    refine k52 n _ n4 (by omega) up2_at (Ft.up (Ft.up (Ft.up (Ft.up hF (by omega)) (by omega)) (by omega)) (by omega)) ?_
    have r2 : ∀ q, up2 (opH J n (nI kc) (nI i)) 224 n (nI (i + 1)) 222 q = up2 J 222 n (nI kc) 222 q := fun q => by
      unfold opH
      rw [up2_row (by decide), up2_row (by decide), up2_row (by decide), up2_row (by decide)]
    have r3 : ∀ q, up2 (opH J n (nI kc) (nI i)) 224 n (nI (i + 1)) 223 q = up2 J 223 n (nI i) 223 q := fun q => by
      unfold opH
      rw [up2_row (by decide), up2_row (by decide), up2_row (by decide)]
      by_cases cq : q = n
      · rw [cq, up2_at, up2_at]
      · rw [up2_ne (Or.inr cq), up2_ne (Or.inr cq), up2_ne (Or.inr cq)]
    have r4 : ∀ q, q ≠ n → up2 (opH J n (nI kc) (nI i)) 224 n (nI (i + 1)) 224 q = J 224 q := fun q hq => by
      rw [up2_ne (Or.inr hq)]
      unfold opH
      rw [up2_row (by decide), up2_ne (Or.inr hq), up2_row (by decide), up2_row (by decide)]
    have s4' : ∀ j, j < n + 1 → bg (I 202) e j < e ∧ up2 (opH J n (nI kc) (nI i)) 224 n (nI (i + 1)) 222 j = nI (kd (I 202) e (bg (I 202) e j)) ∧ up2 (opH J n (nI kc) (nI i)) 224 n (nI (i + 1)) 223 j = nI (bg (I 202) e j) := fun j hj => by
      rw [r2, r3]
      by_cases cj : j = n
      · rw [cj, kb, kk, up2_at, up2_at]
        exact ⟨hie, rfl, rfl⟩
      · rw [up2_ne (Or.inr cj), up2_ne (Or.inr cj)]
        exact s4 j (by omega)
    refine ⟨by omega, hie, (congrFun (up2_row (by decide)) 4).trans up2_at, s4', ?_⟩
    by_cases c3 : kc = 3
    · refine Or.inl ⟨Or.inr c3, fun j hj => ?_, ?_⟩
      · by_cases cj : j = n
        · rw [cj, up2_at, kb, en_3 (kk.trans c3)]
        · rw [r4 j cj]
          exact k1 j (by omega)
      · show rn (I 202) e 4 (en (I 202) e (bg (I 202) e n)) = _
        rw [kb, en_3 (kk.trans c3)]
    · refine Or.inr ⟨n, rfl, by omega, by rw [kb, kk], fun j hj => ?_, up2_at, ?_⟩
      · rw [r4 j (by omega)]
        exact k1 j hj
      · rw [kb]
        rcases hkc with z | z | z | z
        · rw [en_1 (kk.trans z), z, rn_t ((isK_of 1).mpr z)]
        · rw [en_2 (kk.trans z), z, rn_t ((isK_of 2).mpr z)]
        · exact absurd z c3
        · exact absurd z n4
  refine a_l4 rfl rfl rfl ?_
  refine a_s rfl rfl ?_
  refine a_ic_eq rfl (fun c => ?_) (fun c3 => ?_)
  · have c := nI_inj (b := 3) (by omega) (by decide) c
    exact k45 (by omega) (by omega)
  have c3 : kc ≠ 3 := fun z => c3 (congrArg nI z)
  refine a_l4 rfl rfl rfl ?_
  refine a_s rfl rfl ?_
  refine a_ic_eq rfl (fun c => ?_) (fun c4 => ?_)
  · have c := nI_inj (b := 4) (by omega) (by decide) c
    obtain ⟨k1, k2⟩ := SI.cl hSI (by
      rcases s5 with ⟨z, -⟩ | ⟨_, -, z, -⟩
      · exact Or.inl z
      · exact Or.inr fun y => by have := (isK_of la).mp y; omega)
    refine a_l4 rfl rfl rfl ?_
    refine a_s rfl rfl ?_
    refine a_ic_eq rfl (fun _ => ?_) (fun z => absurd (congrArg nI c) z)
    exact on n J hF ⟨by omega, hie, s3, s4, Or.inl ⟨Or.inl c, k1, k2.trans (rn_t ((isK_of 4).mpr c))⟩⟩
  have c4 : kc ≠ 4 := fun z => c4 (congrArg nI z)
  refine a_l4 rfl rfl rfl ?_
  refine a_l2 rfl rfl rfl ?_
  refine a_ic_eq rfl (fun c => ?_) (fun cl => ?_)
  · have c := nI_inj (by omega) (by omega) c
    rcases s5 with ⟨z, -⟩ | ⟨m, rfl, h2, h3, h4', h5, h6⟩
    · exfalso
      omega
    · refine k52 m J c4 (by omega) s3 hF ⟨by omega, hie, (congrFun (up2_row (by decide)) 4).trans s3, fun j hj => ?_, Or.inr ⟨m, rfl, by omega, h3.trans c.symm, fun j hj => ?_, up2_at, ?_⟩⟩
      · rw [up2_row (by decide), up2_row (by decide)]
        exact s4 j hj
      · rw [up2_ne (Or.inr (by omega))]
        exact h4' j hj
      · rw [h6, c, rn_t ((isK_of la).mpr c)]
  · exact k45 c4 (Or.inr fun z => cl (congrArg nI z))
end T79b
end
section
/-! ===== the class's tokens: what is at hand, and taking it ===== -/
section T79c
variable {S : aS} {I : Nat → Nat → Int32} {L : Nat → Nat → Int64} {w1 w2 t : Nat} {e b : Nat} {T : Nat → Int32}
set_option maxRecDepth 100000
theorem wr_of (h1 : kd T e b = 1) (h2 : wd T e b < 27) : wrF T e b = 100 + wd T e b + 1 := if_pos ⟨h1, h2⟩
theorem wr_no (h : ¬ (kd T e b = 1 ∧ wd T e b < 27)) : wrF T e b = 0 := if_neg h
theorem wr_wk : WK (wrF T e b) := by
  by_cases c : kd T e b = 1 ∧ wd T e b < 27
  · rw [wr_of c.1 c.2]
    exact WK.con c.2
  · rw [wr_no c]
    exact WK.nul
theorem wr_is {k : Nat} (hk : k < 27) : wrF T e b = 100 + k + 1 ↔ isWd T e b k = true := by
  unfold isWd
  by_cases c : kd T e b = 1 ∧ wd T e b < 27
  · rw [wr_of c.1 c.2]
    exact ⟨fun z => decide_eq_true ⟨c.1, by omega⟩, fun z => by have := (of_decide_eq_true z).2; omega⟩
  · rw [wr_no c]
    exact ⟨fun z => by omega, fun z => absurd ⟨(of_decide_eq_true z).1, by have := (of_decide_eq_true z).2; omega⟩ c⟩
theorem At.wk {w : Nat} (h : At T e b w I) : WK w := by
  rw [At.wo h]
  exact wr_wk
theorem g_next (hw : WdS S) (h : At T e b w2 I) : Sp S m_X9_next 13 0 0 [.ref 221] (hp I L w1 w2 t) (fun v h' => v = none ∧ ∃ J w, h' = hp J L w1 w t ∧ At T e (nx T e b) w J ∧ ∀ q, q ≠ 221 → J q = I q) nX := by
  obtain ⟨⟨n, j, hT, hj, h5, rfl⟩, -⟩ := h
  have hn := hT.1
  by_cases c : j + 1 ≤ n
  · exact f_next (i := j + 1) (j := j + 1) hw hT (by rw [h5, ← nI_succ]) (if_pos c).symm (by omega)
  · obtain rfl : j = n := by omega
    have e1 : nx T e (bg T e j) = bg T e j := nx_e hT.2.1
    rw [e1]
    exact f_next (i := j + 1) (j := j) hw hT (by rw [h5, ← nI_succ]) (if_neg c).symm (by omega)
theorem f_isEnd (h : At T e b w2 I) : SpE S m_X9_isEnd 12 [.ref 221] (hp I L w1 w2 t) (some (.int (bI (decide (¬ b < e))))) (hp I L w1 w2 t) := by
  refine SpE_of ok_X9_isEnd rfl rfl ?_
  show AW S m_X9_isEnd 12 _ _ 0 0 0 [some (.ref 221)] [] (hp I L w1 w2 t)
  refine a_l0 rfl rfl rfl ?_
  refine a_getiv (v := nI (kd T e b)) rfl gfX9_97_9 rfl (At.ki h) ?_
  have k4 := kd_4 (T := T) (e := e) (b := b) rfl
  refine a_if_ne rfl (fun c => ?_) (fun c => ?_)
  · refine a_s rfl rfl ?_
    refine a_zret rfl rfl rfl ⟨?_, rfl⟩
    rw [show decide (¬ b < e) = false from decide_eq_false fun z => c (by rw [kd_ge z]; rfl)]
    rfl
  · refine a_s rfl rfl ?_
    refine a_goto rfl ?_
    refine a_zret rfl rfl rfl ⟨?_, rfl⟩
    rw [show decide (¬ b < e) = true from decide_eq_true (kd_0 ((nI_eq0 (by omega)).mp c))]
    rfl
theorem f_isSign (h : At T e b w2 I) {x : Int32} : SpE S m_X9_isSign 12 [.ref 221, .int x] (hp I L w1 w2 t) (some (.int (bI (sg T e b x)))) (hp I L w1 w2 t) := by
  refine SpE_of ok_X9_isSign rfl rfl ?_
  show AW S m_X9_isSign 12 _ _ 0 0 0 [some (.ref 221), some (.int x)] [] (hp I L w1 w2 t)
  have k4 := kd_4 (T := T) (e := e) (b := b) rfl
  refine a_l0 rfl rfl rfl ?_
  refine a_getiv (v := nI (kd T e b)) rfl gfX9_97_9 rfl (At.ki h) ?_
  refine a_s rfl rfl ?_
  refine a_ic_ne rfl (fun c => ?_) (fun c => ?_)
  · refine a_s rfl rfl ?_
    refine a_zret rfl rfl rfl ⟨?_, rfl⟩
    rw [show sg T e b x = false from decide_eq_false fun z => c (congrArg nI z.1)]
    rfl
  have c := nI_inj (b := 3) (by omega) (by decide) c
  refine a_l0 rfl rfl rfl ?_
  refine a_getiv (v := vl T e b) rfl gfX9_103_9 rfl (At.va h) ?_
  refine a_l1 rfl rfl rfl ?_
  refine a_ic_ne rfl (fun c2 => ?_) (fun c2 => ?_)
  · refine a_s rfl rfl ?_
    refine a_zret rfl rfl rfl ⟨?_, rfl⟩
    rw [show sg T e b x = false from decide_eq_false fun z => c2 z.2]
    rfl
  · refine a_s rfl rfl ?_
    refine a_goto rfl ?_
    refine a_zret rfl rfl rfl ⟨?_, rfl⟩
    rw [show sg T e b x = true from decide_eq_true ⟨c, c2⟩]
    rfl
/-- taken, if it is that: what is at hand then -/
def Tk (T : Nat → Int32) (e b : Nat) (z : Bool) (I : Nat → Nat → Int32) (L : Nat → Nat → Int64) (w1 t : Nat) : Option Value → aH → Prop := fun v h' => v = some (.int (bI z)) ∧ ∃ J w, h' = hp J L w1 w t ∧ At T e (if z = true then nx T e b else b) w J ∧ ∀ q, q ≠ 221 → J q = I q
theorem f_takeSign (hw : WdS S) (h : At T e b w2 I) {x : Int32} : Sp S m_X9_takeSign 14 0 0 [.ref 221, .int x] (hp I L w1 w2 t) (Tk T e b (sg T e b x) I L w1 t) nX := by
  refine Sp_of ok_X9_takeSign rfl rfl ?_
  show AW S m_X9_takeSign 14 _ _ 0 0 0 [some (.ref 221), some (.int x), none] [] (hp I L w1 w2 t)
  refine a_l0 rfl rfl rfl ?_
  refine a_l1 rfl rfl rfl ?_
  refine a_eV1 rfl lX9_110 mo_X9_isSign (f_isSign h) rfl rfl rfl ⟨9, _, rfl, rfl, rfl⟩ rfl ?_
  refine a_s2 rfl rfl rfl rfl rfl rfl ?_
  refine a_l2 rfl rfl rfl ?_
  cases c : sg T e b x with
  | false =>
    refine a_if_eq rfl (fun _ => ?_) (fun z => absurd rfl z)
    refine a_l2 rfl rfl rfl ?_
    exact a_zret rfl rfl rfl ⟨rfl, I, w2, rfl, h, fun _ _ => rfl⟩
  | true =>
    refine a_if_eq rfl (fun z => absurd z (by decide)) (fun _ => ?_)
    refine a_l0 rfl rfl rfl ?_
    refine a_gV rfl lX9_55 mo_X9_next (g_next hw h) rfl rfl rfl ⟨9, _, rfl, rfl, rfl⟩ rfl (fun v' h' hv => ?_)
    obtain ⟨rfl, J, w, rfl, hA, hf⟩ := hv
    refine a_l2 rfl rfl rfl ?_
    exact a_zret rfl rfl rfl ⟨rfl, J, w, rfl, hA, hf⟩
theorem f_takeWord (hw : WdS S) (h : At T e b w2 I) {k : Nat} (hk : k < 27) : Sp S m_X9_takeWord 14 0 0 [.ref 221, .ref (100 + k)] (hp I L w1 w2 t) (Tk T e b (isWd T e b k) I L w1 t) nX := by
  refine Sp_of ok_X9_takeWord rfl rfl ?_
  show AW S m_X9_takeWord 14 _ _ 0 0 0 [some (.ref 221), some (.ref (100 + k)), none] [] (hp I L w1 w2 t)
  refine a_l0 rfl rfl rfl ?_
  refine a_getr rfl gfX9_106_9 rfl ?_
  refine a_pop1 (show _ = rv w2 :: _ from rfl) ?_
  refine a_l1 rfl rfl rfl ?_
  refine a_acmp_ne (rx := w2) (ry := 100 + k + 1) rfl ((At.wk h).ac hw) (WK.ck hw hk) (fun c => ?_) (fun c => ?_)
  · have c3 : isWd T e b k = false := Bool.eq_false_iff.mpr fun z => c ((At.wo h).trans ((wr_is hk).mpr z))
    refine a_s rfl rfl ?_
    refine a_s2 rfl rfl rfl rfl rfl rfl ?_
    refine a_l2 rfl rfl rfl ?_
    refine a_if_eq rfl (fun _ => ?_) (fun z => absurd rfl z)
    refine a_l2 rfl rfl rfl ?_
    exact a_zret rfl rfl rfl ⟨by rw [c3]; rfl, I, w2, rfl, by rw [c3]; exact h, fun _ _ => rfl⟩
  · have c3 : isWd T e b k = true := (wr_is hk).mp ((At.wo h).symm.trans c)
    refine a_s rfl rfl ?_
    refine a_goto rfl ?_
    refine a_s2 rfl rfl rfl rfl rfl rfl ?_
    refine a_l2 rfl rfl rfl ?_
    refine a_if_eq rfl (fun z => absurd z (by decide)) (fun _ => ?_)
    refine a_l0 rfl rfl rfl ?_
    refine a_gV rfl lX9_55 mo_X9_next (g_next hw h) rfl rfl rfl ⟨9, _, rfl, rfl, rfl⟩ rfl (fun v' h' hv => ?_)
    obtain ⟨rfl, J, w, rfl, hA, hf⟩ := hv
    refine a_l2 rfl rfl rfl ?_
    exact a_zret rfl rfl rfl ⟨by rw [c3]; rfl, J, w, rfl, by rw [c3]; exact hA, hf⟩
theorem f_takeNumber (hw : WdS S) (h : At T e b w2 I) {lo hi : Int32} (h0 : 0 ≤ lo) : Sp S m_X9_takeNumber 14 0 0 [.ref 221, .int lo, .int hi] (hp I L w1 w2 t) (fun v h' => v = some (.int (nm T e b lo hi)) ∧ ∃ J w, h' = hp J L w1 w t ∧ At T e (if nm T e b lo hi = -1 then b else nx T e b) w J ∧ ∀ q, q ≠ 221 → J q = I q) nX := by
  refine Sp_of ok_X9_takeNumber rfl rfl ?_
  show AW S m_X9_takeNumber 14 _ _ 0 0 0 [some (.ref 221), some (.int lo), some (.int hi), none] [] (hp I L w1 w2 t)
  have k4 := kd_4 (T := T) (e := e) (b := b) rfl
  have no : nm T e b lo hi = -1 → AW S m_X9_takeNumber 14 (fun v h' => v = some (.int (nm T e b lo hi)) ∧ ∃ J w, h' = hp J L w1 w t ∧ At T e (if nm T e b lo hi = -1 then b else nx T e b) w J ∧ ∀ q, q ≠ 221 → J q = I q) nX 0 0 23 [some (.ref 221), some (.int lo), some (.int hi), some (.int (vl T e b))] [] (hp I L w1 w2 t) := by
    intro hn
    refine a_s rfl rfl ?_
    exact a_iret rfl rfl ⟨by rw [hn], I, w2, rfl, by rw [if_pos hn]; exact h, fun _ _ => rfl⟩
  refine a_l0 rfl rfl rfl ?_
  refine a_getiv (v := vl T e b) rfl gfX9_103_9 rfl (At.va h) ?_
  refine a_s3 rfl rfl rfl rfl rfl rfl ?_
  refine a_l0 rfl rfl rfl ?_
  refine a_getiv (v := nI (kd T e b)) rfl gfX9_97_9 rfl (At.ki h) ?_
  refine a_s rfl rfl ?_
  refine a_ic_ne rfl (fun c => no (if_neg fun z => c (congrArg nI z.1))) (fun c => ?_)
  have c := nI_inj (b := 2) (by omega) (by decide) c
  refine a_l3 rfl rfl rfl ?_
  refine a_l1 rfl rfl rfl ?_
  refine a_ic_lt rfl (fun c2 => no (if_neg fun z => absurd c2 (Int32.not_lt.mpr z.2.1))) (fun c2 => ?_)
  refine a_l3 rfl rfl rfl ?_
  refine a_l2 rfl rfl rfl ?_
  refine a_ic_le rfl (fun c3 => ?_) (fun c3 => no (if_neg fun z => c3 z.2.2))
  have c2 := Int32.not_lt.mp c2
  have hn : nm T e b lo hi = vl T e b := if_pos ⟨c, c2, c3⟩
  have hne : ¬ nm T e b lo hi = -1 := fun z => by
    rw [hn] at z
    rw [z] at c2
    exact absurd (Int32.le_trans h0 c2) (by decide)
  refine a_l0 rfl rfl rfl ?_
  refine a_gV rfl lX9_55 mo_X9_next (g_next hw h) rfl rfl rfl ⟨9, _, rfl, rfl, rfl⟩ rfl (fun v' h' hv => ?_)
  obtain ⟨rfl, J, w, rfl, hA, hf⟩ := hv
  refine a_l3 rfl rfl rfl ?_
  exact a_iret rfl rfl ⟨by rw [hn], J, w, rfl, by rw [if_neg hne]; exact hA, hf⟩
end T79c
end
section
/-! ===== the class's reader of conditions ===== -/
section T79d
variable {S : aS} {I : Nat → Nat → Int32} {L : Nat → Nat → Int64} {w1 w2 t : Nat} {e b : Nat} {T : Nat → Int32} {st o : List Int32} {d : Int32} {R : PR}
set_option maxRecDepth 100000
/-- a row's head, the latest first -/
def RowL (f : Nat → Int32) : List Int32 → Prop
  | [] => True
  | x :: r => f r.length = x ∧ RowL f r
theorem RowL.up {J : Nat → Nat → Int32} {p k : Nat} {v : Int32} : ∀ {r : List Int32}, RowL (J p) r → r.length ≤ k → RowL (up2 J p k v p) r := by
  intro r
  induction r with
  | nil => exact fun _ _ => trivial
  | cons x r ih =>
    intro h hk
    have hk : r.length + 1 ≤ k := hk
    exact ⟨(up2_ne (Or.inr (by omega))).trans h.1, ih h.2 (by omega)⟩
theorem RowL.ad {J : Nat → Nat → Int32} {p : Nat} {v : Int32} {r : List Int32} (h : RowL (J p) r) : RowL (up2 J p r.length v p) (v :: r) := ⟨up2_at, RowL.up h (Nat.le_refl _)⟩
/-- what a condition may change -/
def sC (q k : Nat) : Bool := Nat.beq q 221 || (Nat.beq q 234 || (Nat.beq q 231 || ((Nat.beq q 220 && (Nat.beq k 4 || Nat.beq k 5)) || (Nat.beq q 226 && Nat.beq k 1))))
theorem sC_of {q k : Nat} (h : sC q k = false) : q ≠ 221 := fun z => by
  subst z
  cases h
theorem sC_tok : ∀ q, 222 ≤ q → q ≤ 225 → ∀ k, sC q k = false := by
  intro q h1 h2 k
  have e1 : Nat.beq q 221 = false := beqF (by omega)
  have e2 : Nat.beq q 234 = false := beqF (by omega)
  have e3 : Nat.beq q 231 = false := beqF (by omega)
  have e4 : Nat.beq q 220 = false := beqF (by omega)
  have e5 : Nat.beq q 226 = false := beqF (by omega)
  simp [sC, e1, e2, e3, e4, e5]
theorem Fm.nx {J J' : Nat → Nat → Int32} (h : Fm sC I J) (f : ∀ q, q ≠ 221 → J' q = J q) : Fm sC I J' := fun q k hq => by
  rw [f q (sC_of hq)]
  exact h q k hq
/-- the reader: what is at hand, what waits, how deep, what was emitted -/
def Lr (T : Nat → Int32) (e b w : Nat) (st : List Int32) (d : Int32) (o : List Int32) (J : Nat → Nat → Int32) : Prop := At T e b w J ∧ (J 220 4 = nI st.length ∧ J 220 5 = d ∧ RowL (J 234) st) ∧ (J 226 1 = nI o.length ∧ RowL (J 231) o) ∧ e ≤ 400
theorem Lr.at {w : Nat} {J : Nat → Nat → Int32} (h : Lr T e b w st d o J) : At T e b w J := h.1
theorem Lr.hd {w : Nat} {J : Nat → Nat → Int32} (h : Lr T e b w st d o J) : J 220 4 = nI st.length := h.2.1.1
theorem Lr.de {w : Nat} {J : Nat → Nat → Int32} (h : Lr T e b w st d o J) : J 220 5 = d := h.2.1.2.1
theorem Lr.ro {w : Nat} {J : Nat → Nat → Int32} (h : Lr T e b w st d o J) : RowL (J 234) st := h.2.1.2.2
theorem Lr.cl {w : Nat} {J : Nat → Nat → Int32} (h : Lr T e b w st d o J) : J 226 1 = nI o.length := h.2.2.1.1
theorem Lr.co {w : Nat} {J : Nat → Nat → Int32} (h : Lr T e b w st d o J) : RowL (J 231) o := h.2.2.1.2
theorem Lr.e4 {w : Nat} {J : Nat → Nat → Int32} (h : Lr T e b w st d o J) : e ≤ 400 := h.2.2.2
theorem Lr.be {w : Nat} {J : Nat → Nat → Int32} (h : Lr T e b w st d o J) : b ≤ 400 := Nat.le_trans (At.le (Lr.at h)) (Lr.e4 h)
theorem Lr.mv {w b2 w' : Nat} {J J' : Nat → Nat → Int32} (h : Lr T e b w st d o J) (hA : At T e b2 w' J') (f : ∀ q, q ≠ 221 → J' q = J q) : Lr T e b2 w' st d o J' := by
  obtain ⟨-, ⟨h1, h2, h3⟩, ⟨h4, h5⟩, h6⟩ := h
  refine ⟨hA, ⟨?_, ?_, ?_⟩, ⟨?_, ?_⟩, h6⟩
  · rw [f 220 (by decide)]; exact h1
  · rw [f 220 (by decide)]; exact h2
  · rw [f 234 (by decide)]; exact h3
  · rw [f 226 (by decide)]; exact h4
  · rw [f 231 (by decide)]; exact h5
theorem Lr.em {w : Nat} {J : Nat → Nat → Int32} {x : Int32} (h : Lr T e b w st d o J) : Lr T e b w st d (x :: o) (up2 (up2 J 231 o.length x) 226 1 (nI (o.length + 1))) := by
  obtain ⟨h0, ⟨h1, h2, h3⟩, ⟨h4, h5⟩, h6⟩ := h
  refine ⟨At.eq h0 (fun q g1 g2 => by rw [up2_row (by omega), up2_row (by omega)]), ⟨?_, ?_, ?_⟩, ⟨up2_at, ?_⟩, h6⟩
  · rw [up2_row (by decide), up2_row (by decide)]; exact h1
  · rw [up2_row (by decide), up2_row (by decide)]; exact h2
  · rw [up2_row (by decide), up2_row (by decide)]; exact h3
  · rw [up2_row (by decide)]; exact RowL.ad h5
theorem Lr.ho {w : Nat} {J : Nat → Nat → Int32} {x : Int32} (h : Lr T e b w st d o J) : Lr T e b w (x :: st) d o (up2 (up2 J 234 st.length x) 220 4 (nI (st.length + 1))) := by
  obtain ⟨h0, ⟨h1, h2, h3⟩, ⟨h4, h5⟩, h6⟩ := h
  refine ⟨At.eq h0 (fun q g1 g2 => by rw [up2_row (by omega), up2_row (by omega)]), ⟨up2_at, ?_, ?_⟩, ⟨?_, ?_⟩, h6⟩
  · rw [up2_ne (Or.inr (by decide)), up2_row (by decide)]; exact h2
  · rw [up2_row (by decide)]; exact RowL.ad h3
  · rw [up2_row (by decide), up2_row (by decide)]; exact h4
  · rw [up2_row (by decide), up2_row (by decide)]; exact h5
theorem Lr.dp {w : Nat} {J : Nat → Nat → Int32} {d2 : Int32} (h : Lr T e b w st d o J) : Lr T e b w st d2 o (up2 J 220 5 d2) := by
  obtain ⟨h0, ⟨h1, h2, h3⟩, ⟨h4, h5⟩, h6⟩ := h
  refine ⟨At.eq h0 (fun q g1 g2 => by rw [up2_row (by omega)]), ⟨?_, up2_at, ?_⟩, ⟨?_, ?_⟩, h6⟩
  · rw [up2_ne (Or.inr (by decide))]; exact h1
  · rw [up2_row (by decide)]; exact h3
  · rw [up2_row (by decide)]; exact h4
  · rw [up2_row (by decide)]; exact h5
theorem Lr.po {w : Nat} {J : Nat → Nat → Int32} {x : Int32} (h : Lr T e b w (x :: st) d o J) : Lr T e b w st d o (up2 J 220 4 (nI st.length)) := by
  obtain ⟨h0, ⟨h1, h2, h3⟩, ⟨h4, h5⟩, h6⟩ := h
  refine ⟨At.eq h0 (fun q g1 g2 => by rw [up2_row (by omega)]), ⟨up2_at, ?_, ?_⟩, ⟨?_, ?_⟩, h6⟩
  · rw [up2_ne (Or.inr (by decide))]; exact h2
  · rw [up2_row (by decide)]; exact h3.2
  · rw [up2_row (by decide)]; exact h4
  · rw [up2_row (by decide)]; exact h5
theorem emitH_eq {n : Nat} {x : Int32} (h : I 226 1 = nI n) (hn : n < 400) : emitH I x = up2 (up2 I 231 n x) 226 1 (nI (n + 1)) := by
  unfold emitH
  rw [h, setF_nI hn (by decide), ← nI_succ]
theorem emitH_sC {x : Int32} : Fm sC I (emitH I x) := by
  unfold emitH
  exact Fm.up (Fm.st Fm.rf (fun _ => rfl)) rfl
theorem At.emH {w : Nat} {x : Int32} (h : At T e b w I) : At T e b w (emitH I x) := At.eq h (fun q g1 g2 => by
  unfold emitH
  rw [up2_row (by omega), setF_row (by omega)])
theorem f_partAtHand (hw : WdS S) (h : At T e b w2 I) : SpE S m_X3_partAtHand 12 [.ref 220] (hp I L w1 w2 t) (some (.int (prt T e b))) (hp I L w1 w2 t) := by
  refine SpE_of ok_X3_partAtHand rfl rfl ?_
  show AW S m_X3_partAtHand 12 _ _ 0 0 0 [some (.ref 220), none] [] (hp I L w1 w2 t)
  have k4 := kd_4 (T := T) (e := e) (b := b) rfl
  refine a_l0 rfl rfl rfl ?_
  refine a_getq rfl gfX3_28_3 rfl (rfl) ?_
  refine a_getiv (v := nI (kd T e b)) rfl gfX3_138_9 rfl (At.ki h) ?_
  refine a_s rfl rfl ?_
  refine a_ic_ne rfl (fun c => ?_) (fun c => ?_)
  · have c : kd T e b ≠ 2 := fun z => c (congrArg nI z)
    refine a_l0 rfl rfl rfl ?_
    refine a_getq rfl gfX3_28_3 rfl (rfl) ?_
    refine a_getr rfl gfX3_96_9 rfl ?_
    refine a_pop1 (show _ = rv w2 :: _ from rfl) ?_
    by_cases c1 : kd T e b = 1 ∧ wd T e b < 27
    · have e2 : w2 = 100 + wd T e b + 1 := (At.wo h).trans (wr_of c1.1 c1.2)
      subst e2
      refine a_s1 rfl rfl rfl rfl rfl rfl ?_
      refine a_l1 rfl rfl rfl ?_
      refine a_ifnonnull_t rfl ?_
      refine a_l1 rfl rfl rfl ?_
      refine a_getc rfl (inC10 (i := 53) rfl rfl) (hw.pa c1.2) ?_
      refine a_iret rfl rfl ⟨?_, rfl⟩
      unfold prt
      rw [if_neg c, if_pos c1.1]
    · have e2 : w2 = 0 := (At.wo h).trans (wr_no c1)
      subst e2
      refine a_s1 rfl rfl rfl rfl rfl rfl ?_
      refine a_l1 rfl rfl rfl ?_
      refine a_ifnonnull_f rfl ?_
      refine a_s rfl rfl ?_
      refine a_goto rfl ?_
      refine a_iret rfl rfl ⟨?_, rfl⟩
      unfold prt
      rw [if_neg c]
      by_cases c2 : kd T e b = 1
      · have := wd_le (T := T) (e := e) (b := b)
        have e3 : wd T e b = 27 := by
          have : ¬ wd T e b < 27 := fun z => c1 ⟨c2, z⟩
          omega
        rw [if_pos c2, e3]
        rfl
      · rw [if_neg c2]
  · have c := nI_inj (b := 2) (by omega) (by decide) c
    refine a_l0 rfl rfl rfl ?_
    refine a_getq rfl gfX3_28_3 rfl (rfl) ?_
    refine a_getiv (v := vl T e b) rfl gfX3_141_9 rfl (At.va h) ?_
    refine a_iret rfl rfl ⟨?_, rfl⟩
    unfold prt
    rw [if_pos c]
def jn (T : Nat → Int32) (e b : Nat) : Int32 := if isWd T e b 20 = true then 2004 else if isWd T e b 19 = true then 2005 else -1
theorem f_joinAtHand (hw : WdS S) (h : At T e b w2 I) : SpE S m_X3_joinAtHand 12 [.ref 220] (hp I L w1 w2 t) (some (.int (jn T e b))) (hp I L w1 w2 t) := by
  have kk2 := At.wk h
  have hi : ∀ k, k < 27 → (w2 = 100 + k + 1 ↔ isWd T e b k = true) := fun k hk => by
    rw [At.wo h]
    exact wr_is hk
  refine SpE_of ok_X3_joinAtHand rfl rfl ?_
  show AW S m_X3_joinAtHand 12 _ _ 0 0 0 [some (.ref 220)] [] (hp I L w1 w2 t)
  refine a_l0 rfl rfl rfl ?_
  refine a_getq rfl gfX3_28_3 rfl (rfl) ?_
  refine a_getr rfl gfX3_96_9 rfl ?_
  refine a_pop1 (show _ = rv w2 :: _ from rfl) ?_
  refine a_gets rfl (inC4 (i := 155) rfl rfl) (hw.st (i := 20) (by decide)) ?_
  refine a_acmp_ne (rx := w2) (ry := 100 + 20 + 1) rfl (kk2.ac hw) (WK.ck hw (i := 20) (by decide)) (fun c10 => ?_) (fun c10 => ?_)
  · have d1 : ¬ isWd T e b 20 = true := fun z => c10 ((hi 20 (by decide)).mpr z)
    refine a_l0 rfl rfl rfl ?_
    refine a_getq rfl gfX3_28_3 rfl (rfl) ?_
    refine a_getr rfl gfX3_96_9 rfl ?_
    refine a_pop1 (show _ = rv w2 :: _ from rfl) ?_
    refine a_gets rfl (inC4 (i := 157) rfl rfl) (hw.st (i := 19) (by decide)) ?_
    refine a_acmp_ne (rx := w2) (ry := 100 + 19 + 1) rfl (kk2.ac hw) (WK.ck hw (i := 19) (by decide)) (fun c27 => ?_) (fun c27 => ?_)
    · have d2 : ¬ isWd T e b 19 = true := fun z => c27 ((hi 19 (by decide)).mpr z)
      refine a_s rfl rfl ?_
      refine a_iret rfl rfl ⟨?_, rfl⟩
      unfold jn
      rw [if_neg d1, if_neg d2]
    · have d2 := (hi 19 (by decide)).mp c27
      refine a_s rfl rfl ?_
      refine a_goto rfl ?_
      refine a_iret rfl rfl ⟨?_, rfl⟩
      unfold jn
      rw [if_neg d1, if_pos d2]
  · have d1 := (hi 20 (by decide)).mp c10
    refine a_s rfl rfl ?_
    refine a_iret rfl rfl ⟨?_, rfl⟩
    unfold jn
    rw [if_pos d1]
theorem f_hold {n : Nat} (hs : I 220 4 = nI n) (hn : n < 32) {x : Int32} : SpE S m_X3_hold 13 [.ref 220, .int x] (hp I L w1 w2 t) none (hp (up2 (up2 I 234 n x) 220 4 (nI (n + 1))) L w1 w2 t) := by
  refine SpE_of ok_X3_hold rfl rfl ?_
  show AW S m_X3_hold 13 _ _ 0 0 0 [some (.ref 220), some (.int x)] [] (hp I L w1 w2 t)
  refine a_l0 rfl rfl rfl ?_
  refine a_getq rfl gfX3_20_3 rfl (rfl) ?_
  refine a_l0 rfl rfl rfl ?_
  refine a_getiv (v := nI n) rfl gfX3_68_3 rfl (hs) ?_
  refine a_l1 rfl rfl rfl ?_
  refine a_eSN0 rfl lX3_112 mo_X11_setAt (sp_X11_setAt rfl) rfl rfl rfl rfl ?_
  rw [setF_nI hn (by decide)]
  refine a_l0 rfl rfl rfl ?_
  refine a_s rfl rfl ?_
  refine a_getiv (v := nI n) rfl gfX3_68_3 rfl ((congrFun (up2_row (by decide)) 4).trans hs) ?_
  refine a_s rfl rfl ?_
  refine a_s rfl rfl ?_
  refine a_top (y := nI (n + 1)) ((nI_succ n).symm) ?_
  refine a_puti rfl pfX3_68_3 rfl ?_
  exact a_vret rfl rfl ⟨rfl, rfl⟩
theorem popF_len {op : Int32} : ∀ (st : List Int32) (d : Int32) (o : List Int32), (popF op st d o).1.length + (popF op st d o).2.2.length = st.length + o.length := by
  intro st
  induction st with
  | nil => exact fun d o => rfl
  | cons x r ih =>
    intro d o
    by_cases c : x ≤ op
    · rw [show popF op (x :: r) d o = popF op r (if x = 2003 then d - 1 else d) (x :: o) from if_pos c, ih]
      simp only [List.length_cons]
      omega
    · rw [show popF op (x :: r) d o = (x :: r, d, o) from if_neg c]
theorem brk_popF : ∀ (st : List Int32) (d : Int32) (o : List Int32), brk (popF 2005 st d o).1 = brk st := by
  intro st
  induction st with
  | nil => exact fun d o => rfl
  | cons x r ih =>
    intro d o
    by_cases c : x ≤ 2005
    · rw [show popF 2005 (x :: r) d o = popF 2005 r (if x = 2003 then d - 1 else d) (x :: o) from if_pos c, ih, brk_in c]
    · rw [show popF 2005 (x :: r) d o = (x :: r, d, o) from if_neg c]
theorem popF_hd : ∀ (st : List Int32) (d : Int32) (o : List Int32) (x : Int32) (r : List Int32), (popF 2005 st d o).1 = x :: r → ¬ x ≤ 2005 := by
  intro st
  induction st with
  | nil => exact fun d o x r z => by cases z
  | cons y s ih =>
    intro d o x r z
    by_cases c : y ≤ 2005
    · rw [show popF 2005 (y :: s) d o = popF 2005 s (if y = 2003 then d - 1 else d) (y :: o) from if_pos c] at z
      exact ih _ _ x r z
    · rw [show popF 2005 (y :: s) d o = (y :: s, d, o) from if_neg c] at z
      cases z
      exact c
theorem f_emitHeld (h : Lr T e b w2 st d o I) (hB : o.length + st.length ≤ b) (h32 : st.length ≤ 32) {op : Int32} : Sp S m_X3_emitHeld 14 0 0 [.ref 220, .int op] (hp I L w1 w2 t) (fun v h' => v = none ∧ ∃ J, h' = hp J L w1 w2 t ∧ Fm sC I J ∧ Lr T e b w2 (popF op st d o).1 (popF op st d o).2.1 (popF op st d o).2.2 J) nX := by
  have hb4 := Lr.be h
  refine Sp_of ok_X3_emitHeld rfl rfl ?_
  show AW S m_X3_emitHeld 14 _ _ 0 0 0 [some (.ref 220), some (.int op), none] [] (hp I L w1 w2 t)
  refine a_inv (n := st.length) (fun m ls h => ∃ s' d' o' J, ls = [some (.ref 220), some (.int op), none] ∧ h = hp J L w1 w2 t ∧ Lr T e b w2 s' d' o' J ∧ Fm sC I J ∧ popF op s' d' o' = popF op st d o ∧ m = s'.length ∧ o'.length + s'.length ≤ b ∧ s'.length ≤ 32) ⟨st, d, o, I, rfl, rfl, h, Fm.rf, rfl, rfl, hB, h32⟩ ?_
  rintro m _ _ ⟨s', d', o', J, rfl, rfl, hL, hF, hp', hm, hB', h32'⟩ ih
  refine a_l0 rfl rfl rfl ?_
  refine a_getiv (v := nI s'.length) rfl gfX3_68_3 rfl (Lr.hd hL) ?_
  cases s' with
  | nil =>
    refine a_if_le rfl (fun _ => ?_) (fun c => absurd (by decide) c)
    refine a_vret rfl rfl ⟨rfl, J, rfl, hF, ?_⟩
    rw [← hp']
    exact hL
  | cons x r =>
    have hr : o'.length + (r.length + 1) ≤ b := hB'
    have hr32 : r.length + 1 ≤ 32 := h32'
    refine a_if_le rfl (fun c => ?_) (fun _ => ?_)
    · exfalso
      have z := Int32.le_iff_toInt_le.mp c
      rw [show (x :: r).length = r.length + 1 from rfl, nI_toInt (by omega), show (0 : Int32).toInt = 0 from rfl] at z
      omega
    refine a_l0 rfl rfl rfl ?_
    refine a_getq rfl gfX3_20_3 rfl (rfl) ?_
    refine a_l0 rfl rfl rfl ?_
    refine a_getiv (v := nI (r.length + 1)) rfl gfX3_68_3 rfl (Lr.hd hL) ?_
    refine a_s rfl rfl ?_
    refine a_s rfl rfl ?_
    refine a_top (y := nI r.length) (nI_dec r.length) ?_
    refine a_eSN1 rfl lX3_116 mo_X11_at (sp_X11_at rfl) rfl rfl rfl rfl ?_
    refine a_top (y := x) ((atF_nI (by omega) (by decide)).trans (Lr.ro hL).1) ?_
    refine a_l1 rfl rfl rfl ?_
    refine a_ic_gt rfl (fun c => ?_) (fun c => ?_)
    · refine a_vret rfl rfl ⟨rfl, J, rfl, hF, ?_⟩
      rw [← hp', show popF op (x :: r) d' o' = (x :: r, d', o') from if_neg (Int32.not_le.mpr c)]
      exact hL
    have hxo := Int32.not_lt.mp c
    have ep : popF op r (if x = 2003 then d' - 1 else d') (x :: o') = popF op st d o := by
      rw [← hp']
      exact (if_pos hxo).symm
    refine a_l0 rfl rfl rfl ?_
    refine a_s rfl rfl ?_
    refine a_getiv (v := nI (r.length + 1)) rfl gfX3_68_3 rfl (Lr.hd hL) ?_
    refine a_s rfl rfl ?_
    refine a_s rfl rfl ?_
    refine a_top (y := nI r.length) (nI_dec r.length) ?_
    refine a_puti rfl pfX3_68_3 rfl ?_
    have hL1 := Lr.po hL
    have hF1 : Fm sC I (up2 J 220 4 (nI r.length)) := Fm.up hF rfl
    refine a_l0 rfl rfl rfl ?_
    refine a_getq rfl gfX3_20_3 rfl (rfl) ?_
    refine a_l0 rfl rfl rfl ?_
    refine a_getiv (v := nI r.length) rfl gfX3_68_3 rfl (Lr.hd hL1) ?_
    refine a_eSN1 rfl lX3_116 mo_X11_at (sp_X11_at rfl) rfl rfl rfl rfl ?_
    refine a_top (y := x) ((atF_nI (by omega) (by decide)).trans ((congrFun (up2_row (by decide)) r.length).trans (Lr.ro hL).1)) ?_
    refine a_s2 rfl rfl rfl rfl rfl rfl ?_
    refine a_l2 rfl rfl rfl ?_
    refine a_s rfl rfl ?_
    have k63 : ∀ (d2 : Int32) (K : Nat → Nat → Int32), Lr T e b w2 r d2 o' K → Fm sC I K → d2 = (if x = 2003 then d' - 1 else d') → AW S m_X3_emitHeld 14 (fun v h' => v = none ∧ ∃ J, h' = hp J L w1 w2 t ∧ Fm sC I J ∧ Lr T e b w2 (popF op st d o).1 (popF op st d o).2.1 (popF op st d o).2.2 J) nX 0 0 63 [some (.ref 220), some (.int op), some (.int x)] [] (hp K L w1 w2 t) := by
      intro d2 K hK hFK hd2
      refine a_l0 rfl rfl rfl ?_
      refine a_getq rfl gfX3_14_3 rfl (rfl) ?_
      refine a_l2 rfl rfl rfl ?_
      refine a_eV0 rfl lX3_120 mo_X2_emit q_X2_emit rfl rfl rfl ⟨2, _, rfl, rfl, rfl⟩ rfl ?_
      rw [emitH_eq (Lr.cl hK) (by omega)]
      refine a_goto rfl ?_
      refine a_less (ih r.length _ _ (by rw [hm]; exact Nat.lt_succ_self _) ⟨r, d2, x :: o', _, rfl, rfl, Lr.em hK, Fm.up (Fm.up hFK rfl) rfl, by rw [hd2]; exact ep, rfl, by simp only [List.length_cons]; omega, by omega⟩) ⟨rfl, rfl, trivial⟩
    refine a_ic_ne rfl (fun c3 => ?_) (fun c3 => ?_)
    · exact k63 d' _ hL1 hF1 (if_neg c3).symm
    · refine a_l0 rfl rfl rfl ?_
      refine a_s rfl rfl ?_
      refine a_getiv (v := d') rfl gfX3_72_3 rfl (Lr.de hL1) ?_
      refine a_s rfl rfl ?_
      refine a_s rfl rfl ?_
      refine a_puti rfl pfX3_72_3 rfl ?_
      exact k63 (d' - 1) _ (Lr.dp hL1) (Fm.up hF1 rfl) (if_pos c3).symm
theorem f_readSum (hw : WdS S) (h : Lr T e b w2 st d o I) (hB : o.length + st.length ≤ b) : Sp S m_X3_readSum 14 0 0 [.ref 220] (hp I L w1 w2 t) (fun v h' => v = some (.int (bI (sumP T e b o).1)) ∧ ∃ J w, h' = hp J L w1 w t ∧ Fm sC I J ∧ At T e (sumP T e b o).2.1 w J ∧ ((sumP T e b o).1 = true → Lr T e (sumP T e b o).2.1 w st d (sumP T e b o).2.2 J)) nX := by
  have hb4 := Lr.be h
  have hbe := At.le (Lr.at h)
  refine Sp_of ok_X3_readSum rfl rfl ?_
  show AW S m_X3_readSum 14 _ _ 0 0 0 [some (.ref 220), none, none] [] (hp I L w1 w2 t)
  refine a_l0 rfl rfl rfl ?_
  refine a_eV1 rfl lX3_135 mo_X3_partAtHand (f_partAtHand hw (Lr.at h)) rfl rfl rfl ⟨3, _, rfl, rfl, rfl⟩ rfl ?_
  refine a_s1 rfl rfl rfl rfl rfl rfl ?_
  refine a_l1 rfl rfl rfl ?_
  refine a_s rfl rfl ?_
  refine a_ic_ne rfl (fun c => ?_) (fun c => ?_)
  rotate_left
  · refine a_s rfl rfl ?_
    have e1 : sumP T e b o = (false, b, []) := if_pos c
    rw [e1]
    exact a_zret rfl rfl rfl ⟨rfl, I, w2, rfl, Fm.rf, Lr.at h, fun z => by cases z⟩
  have e1 : sumP T e b o = smL T e (nx T e b) (prt T e b :: o) := if_neg c
  have n1 := nx_lt (T := T) (prt_lt c)
  have n1e := nx_le (T := T) hbe
  refine a_l0 rfl rfl rfl ?_
  refine a_getq rfl gfX3_28_3 rfl (rfl) ?_
  refine a_gV rfl lX3_93 mo_X9_next (g_next hw (Lr.at h)) rfl rfl rfl ⟨9, _, rfl, rfl, rfl⟩ rfl (fun v' h' hv => ?_)
  obtain ⟨rfl, J1, wa, rfl, hA1, hf1⟩ := hv
  have h1 := Lr.mv h hA1 hf1
  have hF1 : Fm sC I J1 := Fm.nx Fm.rf hf1
  have he4 := Lr.e4 h
  refine a_l0 rfl rfl rfl ?_
  refine a_getq rfl gfX3_14_3 rfl (rfl) ?_
  refine a_l1 rfl rfl rfl ?_
  refine a_eV0 rfl lX3_120 mo_X2_emit q_X2_emit rfl rfl rfl ⟨2, _, rfl, rfl, rfl⟩ rfl ?_
  rw [emitH_eq (Lr.cl h1) (by omega)]
  refine a_s rfl rfl ?_
  refine a_s2 rfl rfl rfl rfl rfl rfl ?_
  refine a_inv (n := e - nx T e b) (fun m ls h => ∃ i b' w' o' x J, ls = [some (.ref 220), some (.int x), some (.int (nI i))] ∧ h = hp J L w1 w' t ∧ Lr T e b' w' st d o' J ∧ Fm sC I J ∧ smL T e b' o' = sumP T e b o ∧ o'.length + st.length ≤ b' ∧ i < b' ∧ m = e - b') ⟨0, nx T e b, wa, prt T e b :: o, prt T e b, _, rfl, rfl, Lr.em h1, Fm.up (Fm.up hF1 rfl) rfl, e1.symm, by simp only [List.length_cons]; omega, by omega, rfl⟩ ?_
  rintro m _ _ ⟨i, b', w', o', x, J, rfl, rfl, hL, hF, es, hB', hib, hm⟩ ih
  have hb' := At.le (Lr.at hL)
  refine a_l2 rfl rfl rfl ?_
  refine a_s rfl rfl ?_
  refine a_ic_ge rfl (fun c => absurd c (nI_ge (b := 400) (by omega) (by omega))) (fun _ => ?_)
  refine a_l0 rfl rfl rfl ?_
  refine a_getq rfl gfX3_28_3 rfl (rfl) ?_
  refine a_s rfl rfl ?_
  refine a_eV1 rfl lX3_108 mo_X9_isSign (f_isSign (Lr.at hL)) rfl rfl rfl ⟨9, _, rfl, rfl, rfl⟩ rfl ?_
  cases cs : sg T e b' 43 with
  | false =>
    refine a_if_eq rfl (fun _ => ?_) (fun z => absurd rfl z)
    refine a_s rfl rfl ?_
    rw [smL_f cs] at es
    rw [← es]
    exact a_zret rfl rfl rfl ⟨rfl, J, w', rfl, hF, Lr.at hL, fun _ => hL⟩
  | true =>
    refine a_if_eq rfl (fun z => absurd z (by decide)) (fun _ => ?_)
    have n2 := nx_lt (T := T) (sg_lt cs)
    have n2e := nx_le (T := T) hb'
    refine a_l0 rfl rfl rfl ?_
    refine a_getq rfl gfX3_28_3 rfl (rfl) ?_
    refine a_gV rfl lX3_93 mo_X9_next (g_next hw (Lr.at hL)) rfl rfl rfl ⟨9, _, rfl, rfl, rfl⟩ rfl (fun v' h' hv => ?_)
    obtain ⟨rfl, J2, wb, rfl, hA2, hf2⟩ := hv
    have h2 := Lr.mv hL hA2 hf2
    have hF2 : Fm sC I J2 := Fm.nx hF hf2
    refine a_l0 rfl rfl rfl ?_
    refine a_eV1 rfl lX3_135 mo_X3_partAtHand (f_partAtHand hw hA2) rfl rfl rfl ⟨3, _, rfl, rfl, rfl⟩ rfl ?_
    refine a_s1 rfl rfl rfl rfl rfl rfl ?_
    refine a_l1 rfl rfl rfl ?_
    refine a_s rfl rfl ?_
    refine a_ic_ne rfl (fun cp => ?_) (fun cp => ?_)
    rotate_left
    · refine a_s rfl rfl ?_
      rw [smL_n cs cp] at es
      rw [← es]
      exact a_zret rfl rfl rfl ⟨rfl, J2, wb, rfl, hF2, hA2, fun z => by cases z⟩
    have n3 := nx_lt (T := T) (prt_lt cp)
    have n3e := nx_le (T := T) n2e
    rw [smL_t cs cp] at es
    refine a_l0 rfl rfl rfl ?_
    refine a_getq rfl gfX3_28_3 rfl (rfl) ?_
    refine a_gV rfl lX3_93 mo_X9_next (g_next hw hA2) rfl rfl rfl ⟨9, _, rfl, rfl, rfl⟩ rfl (fun v' h' hv => ?_)
    obtain ⟨rfl, J3, wc, rfl, hA3, hf3⟩ := hv
    have h3 := Lr.mv h2 hA3 hf3
    have hF3 : Fm sC I J3 := Fm.nx hF2 hf3
    refine a_l0 rfl rfl rfl ?_
    refine a_getq rfl gfX3_14_3 rfl (rfl) ?_
    refine a_l1 rfl rfl rfl ?_
    refine a_eV0 rfl lX3_120 mo_X2_emit q_X2_emit rfl rfl rfl ⟨2, _, rfl, rfl, rfl⟩ rfl ?_
    rw [emitH_eq (Lr.cl h3) (by omega)]
    have h4 := Lr.em (x := prt T e (nx T e b')) h3
    refine a_l0 rfl rfl rfl ?_
    refine a_getq rfl gfX3_14_3 rfl (rfl) ?_
    refine a_s rfl rfl ?_
    refine a_eV0 rfl lX3_120 mo_X2_emit q_X2_emit rfl rfl rfl ⟨2, _, rfl, rfl, rfl⟩ rfl ?_
    rw [emitH_eq (Lr.cl h4) (by simp only [List.length_cons]; omega)]
    refine a_iv2 (y := nI (i + 1)) rfl rfl rfl ((nI_succ i).symm) ?_
    refine a_goto rfl ?_
    exact ih (e - nx T e (nx T e b')) _ _ (by omega) ⟨i + 1, _, wc, _, _, _, rfl, rfl, Lr.em h4, Fm.up (Fm.up (Fm.up (Fm.up hF3 rfl) rfl) rfl) rfl, es, by simp only [List.length_cons]; omega, by omega, rfl⟩
end T79d
end
section
/-! ===== the class's reader of conditions: atoms, deeper, back, all ===== -/
section T79e
variable {S : aS} {I : Nat → Nat → Int32} {L : Nat → Nat → Int64} {w1 w2 t : Nat} {e b : Nat} {T : Nat → Int32} {st o : List Int32} {d : Int32} {R : PR}
set_option maxRecDepth 100000
theorem cmpP_t {x : Int32} {b1 : Nat} {o1 : List Int32} (h : sumP T e b o = (true, b1, o1)) : cmpP T e x b o = (true, b1, x :: o1) := by
  unfold cmpP
  rw [h]
  rfl
theorem cmpP_f {x : Int32} {b1 : Nat} {o1 : List Int32} (h : sumP T e b o = (false, b1, o1)) : cmpP T e x b o = (false, b1, []) := by
  unfold cmpP
  rw [h]
  rfl
theorem baseP_s {z : Bool} {b1 : Nat} {o1 : List Int32} (h22 : isWd T e b 22 = false) (h23 : isWd T e b 23 = false) (hr : sumP T e b o = (z, b1, o1)) : baseP T e b o = if z = true then (if sg T e b1 60 = true then cmpP T e 2001 (nx T e b1) o1 else if sg T e b1 62 = true then cmpP T e 2002 (nx T e b1) o1 else (false, b1, [])) else (false, b1, []) := by
  unfold baseP
  rw [if_neg (by rw [h22]; decide), if_neg (by rw [h23]; decide), hr]
/-- behind an atom -/
def QAt (T : Nat → Int32) (e : Nat) (st : List Int32) (d : Int32) (r : PR) (I : Nat → Nat → Int32) (L : Nat → Nat → Int64) (w1 t : Nat) : Option Value → aH → Prop := fun v h' => v = some (.int (bI r.1)) ∧ ∃ J w, h' = hp J L w1 w t ∧ Fm sC I J ∧ At T e r.2.1 w J ∧ (r.1 = true → Lr T e r.2.1 w st d r.2.2 J)
theorem f_readAtom (hw : WdS S) (h : Lr T e b w2 st d o I) (hB : o.length + st.length ≤ b) : Sp S m_X3_readAtom 15 0 0 [.ref 220] (hp I L w1 w2 t) (QAt T e st d (baseP T e b o) I L w1 t) nX := by
  have hb4 := Lr.be h
  have hbe := At.le (Lr.at h)
  have he4 := Lr.e4 h
  refine Sp_of ok_X3_readAtom rfl rfl ?_
  show AW S m_X3_readAtom 15 _ _ 0 0 0 [some (.ref 220), none, none] [] (hp I L w1 w2 t)
  refine a_l0 rfl rfl rfl ?_
  refine a_getq rfl gfX3_28_3 rfl (rfl) ?_
  refine a_gets rfl (inC4 (i := 121) rfl rfl) (hw.st (i := 22) (by decide)) ?_
  refine a_gV rfl lX3_48 mo_X9_takeWord (f_takeWord (k := 22) hw (Lr.at h) (by decide)) rfl rfl rfl ⟨9, _, rfl, rfl, rfl⟩ rfl (fun v' h' hv => ?_)
  obtain ⟨rfl, J1, wa, rfl, hA1, hf1⟩ := hv
  have hF1 : Fm sC I J1 := Fm.nx Fm.rf hf1
  have h1 := Lr.mv h hA1 hf1
  cases cr : isWd T e b 22 with
  | true =>
    refine a_if_eq rfl (fun z => absurd z (by decide)) (fun _ => ?_)
    rw [cr, if_pos rfl] at hA1 h1
    have n1 := nx_lt (T := T) (isWd_lt cr)
    have n1e := nx_le (T := T) hbe
    refine a_l0 rfl rfl rfl ?_
    refine a_getq rfl gfX3_14_3 rfl (rfl) ?_
    refine a_s rfl rfl ?_
    refine a_eV0 rfl lX3_120 mo_X2_emit q_X2_emit rfl rfl rfl ⟨2, _, rfl, rfl, rfl⟩ rfl ?_
    rw [emitH_eq (Lr.cl h1) (by omega)]
    refine a_s rfl rfl ?_
    rw [show baseP T e b o = (true, nx T e b, 1007 :: o) from if_pos cr]
    have h2 := Lr.em (x := 1007) h1
    exact a_zret rfl rfl rfl ⟨rfl, _, wa, rfl, Fm.up (Fm.up hF1 rfl) rfl, Lr.at h2, fun _ => h2⟩
  | false =>
  refine a_if_eq rfl (fun _ => ?_) (fun z => absurd rfl z)
  rw [cr, if_neg (by decide)] at hA1 h1
  refine a_l0 rfl rfl rfl ?_
  refine a_getq rfl gfX3_28_3 rfl (rfl) ?_
  refine a_gets rfl (inC4 (i := 127) rfl rfl) (hw.st (i := 23) (by decide)) ?_
  refine a_gV rfl lX3_48 mo_X9_takeWord (f_takeWord (k := 23) hw hA1 (by decide)) rfl rfl rfl ⟨9, _, rfl, rfl, rfl⟩ rfl (fun v' h' hv => ?_)
  obtain ⟨rfl, J2, wb, rfl, hA2, hf2⟩ := hv
  have hF2 : Fm sC I J2 := Fm.nx hF1 hf2
  have h2 := Lr.mv h1 hA2 hf2
  cases co : isWd T e b 23 with
  | true =>
    refine a_if_eq rfl (fun z => absurd z (by decide)) (fun _ => ?_)
    rw [co, if_pos rfl] at hA2 h2
    have n1 := nx_lt (T := T) (isWd_lt co)
    have n1e := nx_le (T := T) hbe
    refine a_l0 rfl rfl rfl ?_
    refine a_getq rfl gfX3_14_3 rfl (rfl) ?_
    refine a_s rfl rfl ?_
    refine a_eV0 rfl lX3_120 mo_X2_emit q_X2_emit rfl rfl rfl ⟨2, _, rfl, rfl, rfl⟩ rfl ?_
    rw [emitH_eq (Lr.cl h2) (by omega)]
    refine a_s rfl rfl ?_
    rw [show baseP T e b o = (true, nx T e b, 1008 :: o) from (if_neg (by rw [cr]; decide)).trans (if_pos co)]
    have h3 := Lr.em (x := 1008) h2
    exact a_zret rfl rfl rfl ⟨rfl, _, wb, rfl, Fm.up (Fm.up hF2 rfl) rfl, Lr.at h3, fun _ => h3⟩
  | false =>
  refine a_if_eq rfl (fun _ => ?_) (fun z => absurd rfl z)
  rw [co, if_neg (by decide)] at hA2 h2
  refine a_l0 rfl rfl rfl ?_
  refine a_gV rfl lX3_129 mo_X3_readSum (f_readSum hw h2 hB) rfl rfl rfl ⟨3, _, rfl, rfl, rfl⟩ rfl (fun v' h' hv => ?_)
  obtain ⟨rfl, J3, wc, rfl, f3, hA3, hz3⟩ := hv
  have hF3 : Fm sC I J3 := Fm.tr hF2 f3
  have g0 := sumP_gd (T := T) (o := o) hbe
  rcases hr : sumP T e b o with ⟨z, b1, o1⟩
  rw [baseP_s cr co hr]
  rw [hr] at hA3 hz3 g0
  obtain ⟨g1, g2, g3⟩ := g0
  have g2 : b1 ≤ e := g2
  cases z with
  | false =>
    refine a_if_ne rfl (fun z => absurd rfl z) (fun _ => ?_)
    refine a_s rfl rfl ?_
    rw [if_neg (by decide)]
    exact a_zret rfl rfl rfl ⟨rfl, J3, wc, rfl, hF3, hA3, fun z => by cases z⟩
  | true =>
  have h3 : Lr T e b1 wc st d o1 J3 := hz3 rfl
  have g3 : b < b1 ∧ o1.length + b ≤ o.length + b1 := g3 rfl
  rw [if_pos rfl]
  refine a_if_ne rfl (fun _ => ?_) (fun z => absurd (show (1 : Int32) = 0 from z) (by decide))
  have k107 : ∀ (x : Int32) (wx : Nat) (J : Nat → Nat → Int32), Fm sC I J → Lr T e (nx T e b1) wx st d o1 J → b1 < nx T e b1 → AW S m_X3_readAtom 15 (QAt T e st d (cmpP T e x (nx T e b1) o1) I L w1 t) nX 0 0 107 [some (.ref 220), some (.int x), none] [] (hp J L w1 wx t) := by
    intro x wx J hF hL hlt
    have hLe := At.le (Lr.at hL)
    refine a_l0 rfl rfl rfl ?_
    refine a_gV rfl lX3_129 mo_X3_readSum (f_readSum hw hL (by omega)) rfl rfl rfl ⟨3, _, rfl, rfl, rfl⟩ rfl (fun v' h' hv => ?_)
    obtain ⟨rfl, J4, wy, rfl, f4, hA4, hz4⟩ := hv
    have hF4 : Fm sC I J4 := Fm.tr hF f4
    have q0 := sumP_gd (T := T) (o := o1) hLe
    rcases hr2 : sumP T e (nx T e b1) o1 with ⟨z2, b2, o2⟩
    rw [hr2] at hA4 hz4 q0
    obtain ⟨q1, q2, q3⟩ := q0
    have q2 : b2 ≤ e := q2
    refine a_s2 rfl rfl rfl rfl rfl rfl ?_
    refine a_l0 rfl rfl rfl ?_
    refine a_getq rfl gfX3_14_3 rfl (rfl) ?_
    refine a_l1 rfl rfl rfl ?_
    refine a_eV0 rfl lX3_120 mo_X2_emit q_X2_emit rfl rfl rfl ⟨2, _, rfl, rfl, rfl⟩ rfl ?_
    refine a_l2 rfl rfl rfl ?_
    cases z2 with
    | false =>
      rw [cmpP_f hr2]
      exact a_zret rfl rfl (bI_nar _) ⟨rfl, _, wy, rfl, Fm.tr hF4 emitH_sC, At.emH hA4, fun z => by cases z⟩
    | true =>
      have h4 : Lr T e b2 wy st d o2 J4 := hz4 rfl
      have q3 : nx T e b1 < b2 ∧ o2.length + nx T e b1 ≤ o1.length + b2 := q3 rfl
      rw [cmpP_t hr2, emitH_eq (Lr.cl h4) (by omega)]
      have h5 := Lr.em (x := x) h4
      exact a_zret rfl rfl (bI_nar _) ⟨rfl, _, wy, rfl, Fm.up (Fm.up hF4 rfl) rfl, Lr.at h5, fun _ => h5⟩
  refine a_l0 rfl rfl rfl ?_
  refine a_getq rfl gfX3_28_3 rfl (rfl) ?_
  refine a_s rfl rfl ?_
  refine a_eV1 rfl lX3_108 mo_X9_isSign (f_isSign (Lr.at h3)) rfl rfl rfl ⟨9, _, rfl, rfl, rfl⟩ rfl ?_
  have k81 : ∀ x : Int32, (x = if sg T e b1 60 = true then 2001 else 2002) → AW S m_X3_readAtom 15 (QAt T e st d (if sg T e b1 60 = true then cmpP T e 2001 (nx T e b1) o1 else if sg T e b1 62 = true then cmpP T e 2002 (nx T e b1) o1 else (false, b1, [])) I L w1 t) nX 0 0 81 [some (.ref 220), some (.int x), none] [] (hp J3 L w1 wc t) := by
    intro x hx
    refine a_l0 rfl rfl rfl ?_
    refine a_getq rfl gfX3_28_3 rfl (rfl) ?_
    refine a_s rfl rfl ?_
    refine a_gV rfl lX3_132 mo_X9_takeSign (f_takeSign hw (Lr.at h3)) rfl rfl rfl ⟨9, _, rfl, rfl, rfl⟩ rfl (fun v' h' hv => ?_)
    obtain ⟨rfl, J5, wd5, rfl, hA5, hf5⟩ := hv
    have hF5 : Fm sC I J5 := Fm.nx hF3 hf5
    have h5 := Lr.mv h3 hA5 hf5
    cases c60 : sg T e b1 60 with
    | true =>
      refine a_if_ne rfl (fun _ => ?_) (fun z => absurd z (by decide))
      rw [c60, if_pos rfl] at h5
      rw [c60, if_pos rfl] at hx
      rw [if_pos rfl, hx]
      exact k107 2001 wd5 J5 hF5 h5 (nx_lt (sg_lt c60))
    | false =>
      refine a_if_ne rfl (fun z => absurd rfl z) (fun _ => ?_)
      rw [c60, if_neg (by decide)] at h5
      rw [c60, if_neg (by decide)] at hx
      rw [if_neg (by decide), hx]
      refine a_l0 rfl rfl rfl ?_
      refine a_getq rfl gfX3_28_3 rfl (rfl) ?_
      refine a_s rfl rfl ?_
      refine a_gV rfl lX3_132 mo_X9_takeSign (f_takeSign hw (Lr.at h5)) rfl rfl rfl ⟨9, _, rfl, rfl, rfl⟩ rfl (fun v' h' hv => ?_)
      obtain ⟨rfl, J6, wd6, rfl, hA6, hf6⟩ := hv
      have hF6 : Fm sC I J6 := Fm.nx hF5 hf6
      have h6 := Lr.mv h5 hA6 hf6
      cases c62 : sg T e b1 62 with
      | true =>
        refine a_if_ne rfl (fun _ => ?_) (fun z => absurd z (by decide))
        rw [c62, if_pos rfl] at h6
        rw [if_pos rfl]
        exact k107 2002 wd6 J6 hF6 h6 (nx_lt (sg_lt c62))
      | false =>
        refine a_if_ne rfl (fun z => absurd rfl z) (fun _ => ?_)
        rw [c62, if_neg (by decide)] at h6
        rw [if_neg (by decide)]
        refine a_s rfl rfl ?_
        exact a_zret rfl rfl rfl ⟨rfl, J6, wd6, rfl, hF6, Lr.at h6, fun z => by cases z⟩
  cases c60 : sg T e b1 60 with
  | true =>
    refine a_if_eq rfl (fun z => absurd z (by decide)) (fun _ => ?_)
    refine a_s rfl rfl ?_
    refine a_goto rfl ?_
    refine a_s1 rfl rfl rfl rfl rfl rfl ?_
    rw [c60] at k81
    exact k81 2001 rfl
  | false =>
    refine a_if_eq rfl (fun _ => ?_) (fun z => absurd rfl z)
    refine a_s rfl rfl ?_
    refine a_s1 rfl rfl rfl rfl rfl rfl ?_
    rw [c60] at k81
    exact k81 2002 rfl
theorem Rn_A (h : Rn T e false b st d o R) : 0 ≤ d ∧ st.length < 32 ∧ (opn T e b = true → (6 ≤ d → R = (false, b, [])) ∧ (¬ 6 ≤ d → Rn T e false (nx T e b) ((if isWd T e b 21 = true then 2003 else 2006) :: st) (d + 1) o R)) ∧ (¬ opn T e b = true → ((baseP T e b o).1 = true → Rn T e true (baseP T e b o).2.1 st d (baseP T e b o).2.2 R) ∧ (¬ (baseP T e b o).1 = true → R = (false, (baseP T e b o).2.1, []))) := by
  obtain ⟨f, hf⟩ := h
  cases f with
  | zero => cases hf
  | succ f =>
    unfold run at hf
    by_cases c : 0 ≤ d ∧ st.length < 32
    · rw [if_pos c] at hf
      refine ⟨c.1, c.2, fun h1 => ?_, fun h1 => ?_⟩
      · rw [if_pos h1] at hf
        refine ⟨fun h6 => ?_, fun h6 => ?_⟩
        · rw [if_pos h6] at hf
          exact (Option.some.inj hf).symm
        · rw [if_neg h6] at hf
          exact ⟨f, hf⟩
      · rw [if_neg h1] at hf
        refine ⟨fun h6 => ?_, fun h6 => ?_⟩
        · rw [if_pos h6] at hf
          exact ⟨f, hf⟩
        · rw [if_neg h6] at hf
          exact (Option.some.inj hf).symm
    · rw [if_neg c] at hf
      cases hf
/-- where no ) is to be closed -/
def FinB (T : Nat → Int32) (e b : Nat) (st : List Int32) (d : Int32) (o : List Int32) (R : PR) : Prop := st.length ≤ 32 ∧ (isWd T e b 20 = true → Rn T e false (nx T e b) (2004 :: (popF 2004 st d o).1) (popF 2004 st d o).2.1 (popF 2004 st d o).2.2 R) ∧ (isWd T e b 20 = false → isWd T e b 19 = true → Rn T e false (nx T e b) (2005 :: (popF 2005 st d o).1) (popF 2005 st d o).2.1 (popF 2005 st d o).2.2 R) ∧ (isWd T e b 20 = false → isWd T e b 19 = false → R = ends b (popF 2005 st d o))
theorem Rn_B (h : Rn T e true b st d o R) : (brk st ≤ 6 ∧ st.length ≤ 32) ∧ (sg T e b 41 = true → ((popF 2005 st d o).1 = [] → R = (true, b, (popF 2005 st d o).2.2)) ∧ (∀ x r, (popF 2005 st d o).1 = x :: r → Rn T e true (nx T e b) r ((popF 2005 st d o).2.1 - 1) (popF 2005 st d o).2.2 R)) ∧ (sg T e b 41 = false → FinB T e b st d o R) := by
  obtain ⟨f, hf⟩ := h
  cases f with
  | zero => cases hf
  | succ f =>
    unfold run at hf
    by_cases c : brk st ≤ 6 ∧ st.length ≤ 32
    · rw [if_pos c] at hf
      refine ⟨c, fun h1 => ?_, fun h1 => ?_⟩
      · rw [if_pos h1] at hf
        refine ⟨fun h2 => ?_, fun x r h2 => ?_⟩
        · rw [h2] at hf
          exact (Option.some.inj hf).symm
        · rw [h2] at hf
          exact ⟨f, hf⟩
      · rw [if_neg (by rw [h1]; decide)] at hf
        refine ⟨c.2, fun h2 => ?_, fun h2 h3 => ?_, fun h2 h3 => ?_⟩
        · rw [if_pos h2] at hf
          exact ⟨f, hf⟩
        · rw [if_neg (by rw [h2]; decide), if_pos h3] at hf
          exact ⟨f, hf⟩
        · rw [if_neg (by rw [h2]; decide), if_neg (by rw [h3]; decide)] at hf
          exact (Option.some.inj hf).symm
    · rw [if_neg c] at hf
      cases hf
theorem i6 {d : Int32} (h0 : 0 ≤ d) (h6 : d < 6) : ∃ k, k < 6 ∧ d = nI k := by
  rw [Int32.le_iff_toInt_le, show (0 : Int32).toInt = 0 from rfl] at h0
  rw [Int32.lt_iff_toInt_lt, show (6 : Int32).toInt = 6 from rfl] at h6
  refine ⟨d.toInt.toNat, by omega, ?_⟩
  rw [← Int32.toInt_inj, nI_toInt (by omega)]
  omega
theorem f_openDeeper (hw : WdS S) (h : Lr T e b w2 st d o I) (hB : o.length + st.length ≤ b) (hR : Rn T e false b st d o R) : Sp S m_X3_openDeeper 14 0 0 [.ref 220] (hp I L w1 w2 t) (fun v h' => ∃ z b' w' st' d' J, v = some (.int (bI z)) ∧ h' = hp J L w1 w' t ∧ Fm sC I J ∧ Lr T e b' w' st' d' o J ∧ b ≤ b' ∧ o.length + st'.length ≤ b' ∧ (z = false → R = (false, b', [])) ∧ (z = true → ¬ opn T e b' = true ∧ Rn T e false b' st' d' o R)) nX := by
  refine Sp_of ok_X3_openDeeper rfl rfl ?_
  show AW S m_X3_openDeeper 14 _ _ 0 0 0 [some (.ref 220), none, none] [] (hp I L w1 w2 t)
  refine a_s rfl rfl ?_
  refine a_s1 rfl rfl rfl rfl rfl rfl ?_
  refine a_inv (n := 7) (fun m ls h => ∃ i b' w' st' d' J, ls = [some (.ref 220), some (.int (nI i)), none] ∧ h = hp J L w1 w' t ∧ Fm sC I J ∧ Lr T e b' w' st' d' o J ∧ b ≤ b' ∧ o.length + st'.length ≤ b' ∧ Rn T e false b' st' d' o R ∧ i ≤ 6 ∧ nI i ≤ d' ∧ m = 7 - i) ⟨0, b, w2, st, d, I, rfl, rfl, Fm.rf, h, Nat.le_refl _, hB, hR, by decide, (Rn_A hR).1, rfl⟩ ?_
  rintro m _ _ ⟨i, b', w', st', d', J, rfl, rfl, hF, hL, hbb, hB', hR', hi, hid, hm⟩ ih
  obtain ⟨r1, r2, r3, r4⟩ := Rn_A hR'
  have hb4 := Lr.be hL
  have hbe := At.le (Lr.at hL)
  have kk2 := At.wk (Lr.at hL)
  refine a_l1 rfl rfl rfl ?_
  refine a_s rfl rfl ?_
  refine a_ic_gt rfl (fun c => absurd c (Int32.not_lt.mpr (nI_leu (j := 6) hi (by decide)))) (fun _ => ?_)
  have k45 : ∀ zn : Bool, zn = isWd T e b' 21 → opn T e b' = true → AW S m_X3_openDeeper 14 (fun v h' => ∃ z b' w' st' d' J, v = some (.int (bI z)) ∧ h' = hp J L w1 w' t ∧ Fm sC I J ∧ Lr T e b' w' st' d' o J ∧ b ≤ b' ∧ o.length + st'.length ≤ b' ∧ (z = false → R = (false, b', [])) ∧ (z = true → ¬ opn T e b' = true ∧ Rn T e false b' st' d' o R)) nX 0 0 45 [some (.ref 220), some (.int (nI i)), some (.int (bI zn))] [] (hp J L w1 w' t) := by
    intro zn hzn ho
    refine a_l0 rfl rfl rfl ?_
    refine a_getiv (v := d') rfl gfX3_72_3 rfl (Lr.de hL) ?_
    refine a_s rfl rfl ?_
    refine a_ic_lt rfl (fun c6 => ?_) (fun c6 => ?_)
    rotate_left
    · refine a_s rfl rfl ?_
      exact a_zret rfl rfl rfl ⟨false, b', w', st', d', J, rfl, rfl, hF, hL, hbb, hB', fun _ => (r3 ho).1 (Int32.not_lt.mp c6), fun z => by cases z⟩
    have r5 := (r3 ho).2 (Int32.not_le.mpr c6)
    obtain ⟨k, hk, rfl⟩ := i6 r1 c6
    have hik := nI_ge_of hid (by omega) (by omega)
    have n1 : b' < nx T e b' := nx_lt (by
      unfold opn at ho
      rcases Bool.or_eq_true_iff.mp ho with z | z
      · exact isWd_lt z
      · exact sg_lt z)
    refine a_l0 rfl rfl rfl ?_
    refine a_s rfl rfl ?_
    refine a_getiv (v := nI k) rfl gfX3_72_3 rfl (Lr.de hL) ?_
    refine a_s rfl rfl ?_
    refine a_s rfl rfl ?_
    refine a_top (y := nI (k + 1)) ((nI_succ k).symm) ?_
    refine a_puti rfl pfX3_72_3 rfl ?_
    have hL1 := Lr.dp (d2 := nI (k + 1)) hL
    have hF1 : Fm sC I (up2 J 220 5 (nI (k + 1))) := Fm.up hF rfl
    have k80 : ∀ x : Int32, x = (if isWd T e b' 21 = true then 2003 else 2006) → AW S m_X3_openDeeper 14 (fun v h' => ∃ z b' w' st' d' J, v = some (.int (bI z)) ∧ h' = hp J L w1 w' t ∧ Fm sC I J ∧ Lr T e b' w' st' d' o J ∧ b ≤ b' ∧ o.length + st'.length ≤ b' ∧ (z = false → R = (false, b', [])) ∧ (z = true → ¬ opn T e b' = true ∧ Rn T e false b' st' d' o R)) nX 0 0 80 [some (.ref 220), some (.int (nI i)), some (.int (bI zn))] [.int x, .ref 220] (hp (up2 J 220 5 (nI (k + 1))) L w1 w' t) := by
      intro x hx
      refine a_eV0 rfl lX3_90 mo_X3_hold (f_hold (Lr.hd hL1) r2) rfl rfl rfl ⟨3, _, rfl, rfl, rfl⟩ rfl ?_
      have hL2 := Lr.ho (x := x) hL1
      refine a_l0 rfl rfl rfl ?_
      refine a_getq rfl gfX3_28_3 rfl (rfl) ?_
      refine a_gV rfl lX3_93 mo_X9_next (g_next hw (Lr.at hL2)) rfl rfl rfl ⟨9, _, rfl, rfl, rfl⟩ rfl (fun v' h' hv => ?_)
      obtain ⟨rfl, J3, w3, rfl, hA3, hf3⟩ := hv
      refine a_iv1 (y := nI (i + 1)) rfl rfl rfl ((nI_succ i).symm) ?_
      refine a_goto rfl ?_
      rw [← hx, ← nI_succ] at r5
      exact a_less (ih (7 - (i + 1)) _ _ (by omega) ⟨i + 1, nx T e b', w3, x :: st', nI (k + 1), J3, rfl, rfl, Fm.nx (Fm.up (Fm.up hF1 rfl) rfl) hf3, Lr.mv hL2 hA3 hf3, by omega, by simp only [List.length_cons]; omega, r5, by omega, nI_leu (by omega) (by omega), rfl⟩) ⟨rfl, rfl, trivial⟩
    refine a_l0 rfl rfl rfl ?_
    refine a_l2 rfl rfl rfl ?_
    cases zn with
    | false =>
      refine a_if_eq rfl (fun _ => ?_) (fun z => absurd rfl z)
      refine a_s rfl rfl ?_
      exact k80 2006 (by rw [← hzn]; rfl)
    | true =>
      refine a_if_eq rfl (fun z => absurd z (by decide)) (fun _ => ?_)
      refine a_s rfl rfl ?_
      refine a_goto rfl ?_
      exact k80 2003 (by rw [← hzn]; rfl)
  refine a_l0 rfl rfl rfl ?_
  refine a_getq rfl gfX3_28_3 rfl (rfl) ?_
  refine a_getr rfl gfX3_96_9 rfl ?_
  refine a_pop1 (show _ = rv w' :: _ from rfl) ?_
  refine a_gets rfl (inC4 (i := 105) rfl rfl) (hw.st (i := 21) (by decide)) ?_
  refine a_acmp_ne (rx := w') (ry := 100 + 21 + 1) rfl (kk2.ac hw) (WK.ck hw (i := 21) (by decide)) (fun c => ?_) (fun c => ?_)
  · have c1 : isWd T e b' 21 = false := Bool.eq_false_iff.mpr fun z => c ((At.wo (Lr.at hL)).trans ((wr_is (by decide)).mpr z))
    refine a_s rfl rfl ?_
    refine a_s2 rfl rfl rfl rfl rfl rfl ?_
    refine a_l2 rfl rfl rfl ?_
    refine a_if_ne rfl (fun z => absurd rfl z) (fun _ => ?_)
    refine a_l0 rfl rfl rfl ?_
    refine a_getq rfl gfX3_28_3 rfl (rfl) ?_
    refine a_s rfl rfl ?_
    refine a_eV1 rfl lX3_108 mo_X9_isSign (f_isSign (Lr.at hL)) rfl rfl rfl ⟨9, _, rfl, rfl, rfl⟩ rfl ?_
    cases c2 : sg T e b' 40 with
    | true =>
      refine a_if_ne rfl (fun _ => ?_) (fun z => absurd z (by decide))
      exact k45 false c1.symm (by unfold opn; rw [c2]; exact Bool.or_true _)
    | false =>
      refine a_if_ne rfl (fun z => absurd rfl z) (fun _ => ?_)
      refine a_s rfl rfl ?_
      exact a_zret rfl rfl rfl ⟨true, b', w', st', d', J, rfl, rfl, hF, hL, hbb, hB', fun z => (by cases z), fun _ => ⟨by unfold opn; rw [c1, c2]; decide, hR'⟩⟩
  · have c1 : isWd T e b' 21 = true := (wr_is (by decide)).mp ((At.wo (Lr.at hL)).symm.trans c)
    refine a_s rfl rfl ?_
    refine a_goto rfl ?_
    refine a_s2 rfl rfl rfl rfl rfl rfl ?_
    refine a_l2 rfl rfl rfl ?_
    refine a_if_ne rfl (fun _ => ?_) (fun z => absurd z (by decide))
    exact k45 true c1.symm (by unfold opn; rw [c1]; exact Bool.true_or _)
theorem popF_0 : ∀ (st : List Int32) (d : Int32) (o : List Int32), brk st = 0 → (popF 2005 st d o).1 = [] := by
  intro st
  induction st with
  | nil => exact fun _ _ _ => rfl
  | cons x r ih =>
    intro d o h
    by_cases c : x ≤ 2005
    · rw [show popF 2005 (x :: r) d o = popF 2005 r (if x = 2003 then d - 1 else d) (x :: o) from if_pos c]
      exact ih _ _ (by rw [brk_in c] at h; exact h)
    · rw [brk_out c] at h
      cases h
theorem ends_nil {p : List Int32 × Int32 × List Int32} (h : p.1 = []) : ends b p = (true, b, p.2.2) := by
  unfold ends
  rw [h]
theorem ends_cons {p : List Int32 × Int32 × List Int32} {x : Int32} {r : List Int32} (h : p.1 = x :: r) : ends b p = (false, b, []) := by
  unfold ends
  rw [h]
theorem f_closeDeeper (hw : WdS S) (h : Lr T e b w2 st d o I) (hB : o.length + st.length ≤ b) (hR : Rn T e true b st d o R) : Sp S m_X3_closeDeeper 15 0 0 [.ref 220] (hp I L w1 w2 t) (fun v h' => v = none ∧ ∃ b' w' st' d' o' J, h' = hp J L w1 w' t ∧ Fm sC I J ∧ Lr T e b' w' st' d' o' J ∧ b ≤ b' ∧ o'.length + st'.length ≤ b' ∧ FinB T e b' st' d' o' R) nX := by
  refine Sp_of ok_X3_closeDeeper rfl rfl ?_
  show AW S m_X3_closeDeeper 15 _ _ 0 0 0 [some (.ref 220), none] [] (hp I L w1 w2 t)
  refine a_s rfl rfl ?_
  refine a_s1 rfl rfl rfl rfl rfl rfl ?_
  refine a_inv (n := 6) (fun m ls h => ∃ i b' w' st' d' o' J, ls = [some (.ref 220), some (.int (nI i))] ∧ h = hp J L w1 w' t ∧ Fm sC I J ∧ Lr T e b' w' st' d' o' J ∧ b ≤ b' ∧ o'.length + st'.length ≤ b' ∧ Rn T e true b' st' d' o' R ∧ i + brk st' ≤ 6 ∧ m = 6 - i) ⟨0, b, w2, st, d, o, I, rfl, rfl, Fm.rf, h, Nat.le_refl _, hB, hR, by have := (Rn_B hR).1.1; omega, rfl⟩ ?_
  rintro m _ _ ⟨i, b', w', st', d', o', J, rfl, rfl, hF, hL, hbb, hB', hR', hi, hm⟩ ih
  obtain ⟨r1, r2, r3⟩ := Rn_B hR'
  have hb4 := Lr.be hL
  have hbe := At.le (Lr.at hL)
  -- none is left to be closed
  have fin0 : (popF 2005 st' d' o').1 = [] → sg T e b' 41 = true → R = (true, b', (popF 2005 st' d' o').2.2) := fun z1 z2 => (r2 z2).1 z1
  refine a_l1 rfl rfl rfl ?_
  refine a_s rfl rfl ?_
  refine a_ic_ge rfl (fun c => ?_) (fun c => ?_)
  · have h6 := nI_ge_of (b := 6) c (by omega) (by decide)
    refine a_vret rfl rfl ⟨rfl, b', w', st', d', o', J, rfl, hF, hL, hbb, hB', ?_⟩
    cases cs : sg T e b' 41 with
    | false => exact r3 cs
    | true =>
      have e0 := popF_0 st' d' o' (by omega)
      refine ⟨r1.2, fun z => ?_, fun _ z => ?_, fun _ _ => ?_⟩
      · rw [sg_wd cs] at z
        cases z
      · rw [sg_wd cs] at z
        cases z
      · rw [ends_nil e0]
        exact fin0 e0 cs
  have hi6 : i < 6 := nI_lt_of (b := 6) c (by omega) (by decide)
  refine a_l0 rfl rfl rfl ?_
  refine a_getq rfl gfX3_28_3 rfl (rfl) ?_
  refine a_s rfl rfl ?_
  refine a_eV1 rfl lX3_108 mo_X9_isSign (f_isSign (Lr.at hL)) rfl rfl rfl ⟨9, _, rfl, rfl, rfl⟩ rfl ?_
  cases cs : sg T e b' 41 with
  | false =>
    refine a_if_eq rfl (fun _ => ?_) (fun z => absurd rfl z)
    exact a_vret rfl rfl ⟨rfl, b', w', st', d', o', J, rfl, hF, hL, hbb, hB', r3 cs⟩
  | true =>
  refine a_if_eq rfl (fun z => absurd z (by decide)) (fun _ => ?_)
  have n1 := nx_lt (T := T) (sg_lt cs)
  refine a_l0 rfl rfl rfl ?_
  refine a_s rfl rfl ?_
  refine a_gV rfl lX3_87 mo_X3_emitHeld (f_emitHeld (op := 2005) hL hB' r1.2) rfl rfl rfl ⟨3, _, rfl, rfl, rfl⟩ rfl (fun v' h' hv => ?_)
  obtain ⟨rfl, K, rfl, fK, hK⟩ := hv
  have hFK : Fm sC I K := Fm.tr hF fK
  have hlen := popF_len (op := 2005) st' d' o'
  have hbrk := brk_popF st' d' o'
  have hhd := popF_hd st' d' o'
  have r2 := r2 cs
  clear fin0
  generalize popF 2005 st' d' o' = p at hK hlen hbrk hhd r2
  obtain ⟨ps, pd, po⟩ := p
  refine a_l0 rfl rfl rfl ?_
  refine a_getiv (v := nI ps.length) rfl gfX3_68_3 rfl (Lr.hd hK) ?_
  cases ps with
  | nil =>
    refine a_if_ne rfl (fun z => absurd rfl z) (fun _ => ?_)
    refine a_vret rfl rfl ⟨rfl, b', w', [], pd, po, K, rfl, hFK, hK, hbb, by have : 0 + po.length = st'.length + o'.length := hlen; show po.length + 0 ≤ b'; omega, Nat.zero_le _, fun z => ?_, fun _ z => ?_, fun _ _ => ?_⟩
    · rw [sg_wd cs] at z
      cases z
    · rw [sg_wd cs] at z
      cases z
    · exact r2.1 rfl
  | cons x r =>
    have hlen : r.length + 1 + po.length = st'.length + o'.length := hlen
    have hbrk : brk r + 1 = brk st' := (brk_out (hhd x r rfl)).symm.trans hbrk
    refine a_if_ne rfl (fun _ => ?_) (fun c => ?_)
    rotate_left
    · exfalso
      have := (nI_eq0 (a := r.length + 1) (by omega)).mp c
      omega
    refine a_l0 rfl rfl rfl ?_
    refine a_s rfl rfl ?_
    refine a_getiv (v := nI (r.length + 1)) rfl gfX3_68_3 rfl (Lr.hd hK) ?_
    refine a_s rfl rfl ?_
    refine a_s rfl rfl ?_
    refine a_top (y := nI r.length) (nI_dec r.length) ?_
    refine a_puti rfl pfX3_68_3 rfl ?_
    have hK1 := Lr.po hK
    refine a_l0 rfl rfl rfl ?_
    refine a_s rfl rfl ?_
    refine a_getiv (v := pd) rfl gfX3_72_3 rfl (Lr.de hK1) ?_
    refine a_s rfl rfl ?_
    refine a_s rfl rfl ?_
    refine a_puti rfl pfX3_72_3 rfl ?_
    have hK2 := Lr.dp (d2 := pd - 1) hK1
    refine a_l0 rfl rfl rfl ?_
    refine a_getq rfl gfX3_28_3 rfl (rfl) ?_
    refine a_gV rfl lX3_93 mo_X9_next (g_next hw (Lr.at hK2)) rfl rfl rfl ⟨9, _, rfl, rfl, rfl⟩ rfl (fun v' h' hv => ?_)
    obtain ⟨rfl, J3, w3, rfl, hA3, hf3⟩ := hv
    refine a_iv1 (y := nI (i + 1)) rfl rfl rfl ((nI_succ i).symm) ?_
    refine a_goto rfl ?_
    exact ih (6 - (i + 1)) _ _ (by omega) ⟨i + 1, nx T e b', w3, r, pd - 1, po, J3, rfl, rfl, Fm.nx (Fm.up (Fm.up hFK rfl) rfl) hf3, Lr.mv hK2 hA3 hf3, by omega, by omega, r2.2 x r rfl, by omega, rfl⟩
theorem f_readCondition (hw : WdS S) (hA : At T e b w2 I) (hc1 : I 226 1 = nI o.length) (hc2 : RowL (I 231) o) (hB : o.length ≤ b) (h0 : 0 < b) (he : e ≤ 400) : Sp S m_X3_readCondition 16 0 0 [.ref 220] (hp I L w1 w2 t) (fun v h' => v = some (.int (bI (condR T e 6 b o).1)) ∧ ∃ J w, h' = hp J L w1 w t ∧ Fm sC I J ∧ At T e (condR T e 6 b o).2.1 w J ∧ ((condR T e 6 b o).1 = true → J 226 1 = nI (condR T e 6 b o).2.2.length ∧ RowL (J 231) (condR T e 6 b o).2.2)) nX := by
  obtain ⟨z, b1, o1, ec, ef, et⟩ := cond_run (T := T) (o := o) (At.le hA)
  rw [ec]
  have hR : Rn T e false b [] 0 o (z, b1, if z = true then o1 else []) := by
    cases z with
    | false => exact ef rfl
    | true => exact et rfl
  refine Sp_of ok_X3_readCondition rfl rfl ?_
  show AW S m_X3_readCondition 16 _ _ 0 0 0 [some (.ref 220), none, none] [] (hp I L w1 w2 t)
  refine a_l0 rfl rfl rfl ?_
  refine a_s rfl rfl ?_
  refine a_puti rfl pfX3_68_3 rfl ?_
  refine a_l0 rfl rfl rfl ?_
  refine a_s rfl rfl ?_
  refine a_puti rfl pfX3_72_3 rfl ?_
  refine a_s rfl rfl ?_
  refine a_s1 rfl rfl rfl rfl rfl rfl ?_
  have hL0 : Lr T e b w2 [] 0 o (up2 (up2 I 220 4 0) 220 5 0) := ⟨At.eq hA (fun q g1 g2 => by rw [up2_row (by omega), up2_row (by omega)]), ⟨(up2_ne (Or.inr (by decide))).trans up2_at, up2_at, trivial⟩, ⟨by rw [up2_row (by decide), up2_row (by decide)]; exact hc1, by rw [up2_row (by decide), up2_row (by decide)]; exact hc2⟩, he⟩
  refine a_inv (n := e - b) (fun m ls h => ∃ i b' w' st' d' o' J, ls = [some (.ref 220), some (.int (nI i)), none] ∧ h = hp J L w1 w' t ∧ Fm sC I J ∧ Lr T e b' w' st' d' o' J ∧ o'.length + st'.length ≤ b' ∧ Rn T e false b' st' d' o' (z, b1, if z = true then o1 else []) ∧ i < b' ∧ m = e - b') ⟨0, b, w2, [], 0, o, _, rfl, rfl, Fm.up (Fm.up Fm.rf rfl) rfl, hL0, hB, hR, h0, rfl⟩ ?_
  rintro m _ _ ⟨i, b', w', st', d', o', J, rfl, rfl, hF, hL, hB', hR', hib, hm⟩ ih
  have hb4 := Lr.be hL
  refine a_l1 rfl rfl rfl ?_
  refine a_s rfl rfl ?_
  refine a_ic_ge rfl (fun c => absurd c (nI_ge (b := 400) (by omega) (by omega))) (fun _ => ?_)
  refine a_l0 rfl rfl rfl ?_
  refine a_gV rfl lX3_75 mo_X3_openDeeper (f_openDeeper hw hL hB' hR') rfl rfl rfl ⟨3, _, rfl, rfl, rfl⟩ rfl (fun v' h' hv => ?_)
  obtain ⟨z2, b2, w3, st2, d2, J2, rfl, rfl, f2, hL2, hbb2, hB2, hz0, hz1⟩ := hv
  have hF2 : Fm sC I J2 := Fm.tr hF f2
  cases z2 with
  | false =>
    refine a_if_eq rfl (fun _ => ?_) (fun z => absurd rfl z)
    have e9 := hz0 rfl
    refine a_s rfl rfl ?_
    cases z with
    | true => cases e9
    | false =>
      have e9 : b1 = b2 := congrArg (fun r : PR => r.2.1) e9
      subst e9
      exact a_zret rfl rfl rfl ⟨rfl, J2, w3, rfl, hF2, Lr.at hL2, fun z => by cases z⟩
  | true =>
  refine a_if_eq rfl (fun z => absurd z (by decide)) (fun _ => ?_)
  obtain ⟨hno, hR2⟩ := hz1 rfl
  obtain ⟨-, -, -, r4⟩ := Rn_A hR2
  have r4 := r4 hno
  have g0 := baseP_gd (T := T) (o := o') (At.le (Lr.at hL2))
  refine a_l0 rfl rfl rfl ?_
  refine a_gV rfl lX3_78 mo_X3_readAtom (f_readAtom hw hL2 hB2) rfl rfl rfl ⟨3, _, rfl, rfl, rfl⟩ rfl (fun v' h' hv => ?_)
  obtain ⟨rfl, J3, w4, rfl, f3, hA3, hz3⟩ := hv
  have hF3 : Fm sC I J3 := Fm.tr hF2 f3
  generalize baseP T e b2 o' = r at r4 g0 hA3 hz3
  obtain ⟨zr, b3, o3⟩ := r
  cases zr with
  | false =>
    refine a_if_ne rfl (fun z => absurd rfl z) (fun _ => ?_)
    have e9 := r4.2 Bool.false_ne_true
    refine a_s rfl rfl ?_
    cases z with
    | true => cases e9
    | false =>
      have e9 : b1 = b3 := congrArg (fun r : PR => r.2.1) e9
      subst e9
      exact a_zret rfl rfl rfl ⟨rfl, J3, w4, rfl, hF3, hA3, fun z => by cases z⟩
  | true =>
  refine a_if_ne rfl (fun _ => ?_) (fun z => absurd (show (1 : Int32) = 0 from z) (by decide))
  have h3 : Lr T e b3 w4 st2 d2 o3 J3 := hz3 rfl
  obtain ⟨g1, g2, g3⟩ := g0
  have g3 : b2 < b3 ∧ o3.length + b2 ≤ o'.length + b3 := g3 rfl
  have hR3 := r4.1 rfl
  refine a_l0 rfl rfl rfl ?_
  refine a_gV rfl lX3_81 mo_X3_closeDeeper (f_closeDeeper hw h3 (by omega) hR3) rfl rfl rfl ⟨3, _, rfl, rfl, rfl⟩ rfl (fun v' h' hv => ?_)
  obtain ⟨rfl, b4, w5, st4, d4, o4, J4, rfl, f4, hL4, hbb4, hB4, hfin⟩ := hv
  have hF4 : Fm sC I J4 := Fm.tr hF3 f4
  refine a_l0 rfl rfl rfl ?_
  refine a_eV1 rfl lX3_84 mo_X3_joinAtHand (f_joinAtHand hw (Lr.at hL4)) rfl rfl rfl ⟨3, _, rfl, rfl, rfl⟩ rfl ?_
  have hbe4 := At.le (Lr.at hL4)
  have hb44 := Lr.be hL4
  -- a join
  have k69 : ∀ x : Int32, b4 < nx T e b4 → Rn T e false (nx T e b4) (x :: (popF x st4 d4 o4).1) (popF x st4 d4 o4).2.1 (popF x st4 d4 o4).2.2 (z, b1, if z = true then o1 else []) → AW S m_X3_readCondition 16 (fun v h' => v = some (.int (bI (z, b1, o1).1)) ∧ ∃ J w, h' = hp J L w1 w t ∧ Fm sC I J ∧ At T e (z, b1, o1).2.1 w J ∧ ((z, b1, o1).1 = true → J 226 1 = nI (z, b1, o1).2.2.length ∧ RowL (J 231) (z, b1, o1).2.2)) nX 0 0 69 [some (.ref 220), some (.int (nI i)), some (.int x)] [] (hp J4 L w1 w5 t) := by
    intro x hn hRx
    refine a_l0 rfl rfl rfl ?_
    refine a_l2 rfl rfl rfl ?_
    refine a_gV rfl lX3_87 mo_X3_emitHeld (f_emitHeld (op := x) hL4 hB4 hfin.1) rfl rfl rfl ⟨3, _, rfl, rfl, rfl⟩ rfl (fun v' h' hv => ?_)
    obtain ⟨rfl, K, rfl, fK, hK⟩ := hv
    have hlen := popF_len (op := x) st4 d4 o4
    have hl32 := (Rn_A hRx).2.1
    have hl32 : (popF x st4 d4 o4).1.length + 1 < 32 := hl32
    refine a_l0 rfl rfl rfl ?_
    refine a_l2 rfl rfl rfl ?_
    refine a_eV0 rfl lX3_90 mo_X3_hold (f_hold (Lr.hd hK) (by omega)) rfl rfl rfl ⟨3, _, rfl, rfl, rfl⟩ rfl ?_
    have hK1 := Lr.ho (x := x) hK
    refine a_l0 rfl rfl rfl ?_
    refine a_getq rfl gfX3_28_3 rfl (rfl) ?_
    refine a_gV rfl lX3_93 mo_X9_next (g_next hw (Lr.at hK1)) rfl rfl rfl ⟨9, _, rfl, rfl, rfl⟩ rfl (fun v' h' hv => ?_)
    obtain ⟨rfl, J6, w6, rfl, hA6, hf6⟩ := hv
    refine a_iv1 (y := nI (i + 1)) rfl rfl rfl ((nI_succ i).symm) ?_
    refine a_goto rfl ?_
    have hn6 := nx_le (T := T) hbe4
    exact a_less (ih (e - nx T e b4) _ _ (by omega) ⟨i + 1, nx T e b4, w6, x :: (popF x st4 d4 o4).1, (popF x st4 d4 o4).2.1, (popF x st4 d4 o4).2.2, J6, rfl, rfl, Fm.nx (Fm.up (Fm.up (Fm.tr hF4 fK) rfl) rfl) hf6, Lr.mv hK1 hA6 hf6, by simp only [List.length_cons]; omega, hRx, by omega, rfl⟩) ⟨rfl, rfl, trivial⟩
  cases c20 : isWd T e b4 20 with
  | true =>
    refine a_top (y := 2004) (if_pos c20) ?_
    refine a_s2 rfl rfl rfl rfl rfl rfl ?_
    refine a_l2 rfl rfl rfl ?_
    refine a_s rfl rfl ?_
    refine a_ic_ne rfl (fun _ => ?_) (fun c => absurd c (by decide))
    exact k69 2004 (nx_lt (isWd_lt c20)) (hfin.2.1 c20)
  | false =>
  cases c19 : isWd T e b4 19 with
  | true =>
    refine a_top (y := 2005) ((if_neg (by rw [c20]; decide)).trans (if_pos c19)) ?_
    refine a_s2 rfl rfl rfl rfl rfl rfl ?_
    refine a_l2 rfl rfl rfl ?_
    refine a_s rfl rfl ?_
    refine a_ic_ne rfl (fun _ => ?_) (fun c => absurd c (by decide))
    exact k69 2005 (nx_lt (isWd_lt c19)) (hfin.2.2.1 c20 c19)
  | false =>
    refine a_top (y := (-1)) ((if_neg (by rw [c20]; decide)).trans (if_neg (by rw [c19]; decide))) ?_
    refine a_s2 rfl rfl rfl rfl rfl rfl ?_
    refine a_l2 rfl rfl rfl ?_
    refine a_s rfl rfl ?_
    refine a_ic_ne rfl (fun c => absurd rfl c) (fun _ => ?_)
    have hE := hfin.2.2.2 c20 c19
    refine a_l0 rfl rfl rfl ?_
    refine a_s rfl rfl ?_
    refine a_gV rfl lX3_87 mo_X3_emitHeld (f_emitHeld (op := 2005) hL4 hB4 hfin.1) rfl rfl rfl ⟨3, _, rfl, rfl, rfl⟩ rfl (fun v' h' hv => ?_)
    obtain ⟨rfl, K, rfl, fK, hK⟩ := hv
    have hFK : Fm sC I K := Fm.tr hF4 fK
    have hlen := popF_len (op := 2005) st4 d4 o4
    generalize popF 2005 st4 d4 o4 = p at hK hE hlen
    obtain ⟨ps, pd, po⟩ := p
    refine a_l0 rfl rfl rfl ?_
    refine a_getiv (v := nI ps.length) rfl gfX3_68_3 rfl (Lr.hd hK) ?_
    cases ps with
    | nil =>
      refine a_if_ne rfl (fun z => absurd rfl z) (fun _ => ?_)
      refine a_s rfl rfl ?_
      refine a_goto rfl ?_
      have hE : (z, b1, if z = true then o1 else []) = (true, b4, po) := hE
      cases z with
      | false => cases hE
      | true =>
        have e1 : b1 = b4 := congrArg (fun r : PR => r.2.1) hE
        have e2 : o1 = po := congrArg (fun r : PR => r.2.2) hE
        subst e1
        subst e2
        exact a_zret rfl rfl rfl ⟨rfl, K, w5, rfl, hFK, Lr.at hK, fun _ => ⟨Lr.cl hK, Lr.co hK⟩⟩
    | cons x r =>
      have hlen : r.length + 1 + po.length = st4.length + o4.length := hlen
      refine a_if_ne rfl (fun _ => ?_) (fun c => ?_)
      · refine a_s rfl rfl ?_
        have hE : (z, b1, if z = true then o1 else []) = (false, b4, []) := hE
        cases z with
        | true => cases hE
        | false =>
          have e1 : b1 = b4 := congrArg (fun r : PR => r.2.1) hE
          subst e1
          exact a_zret rfl rfl rfl ⟨rfl, K, w5, rfl, hFK, Lr.at hK, fun z => by cases z⟩
      · exfalso
        have := (nI_eq0 (a := r.length + 1) (by omega)).mp c
        omega
end T79e
end
section
/-! ===== the class's reader of laws: a line, all lines, a law ===== -/
section T79f
variable {S : aS} {I : Nat → Nat → Int32} {L : Nat → Nat → Int64} {w1 w2 t : Nat} {e b : Nat} {T : Nat → Int32} {o : List Int32} {ls : List LnT}
set_option maxRecDepth 100000
theorem f_takeKind (hw : WdS S) (h : At T e b w2 I) : Sp S m_X3_takeKind 15 0 0 [.ref 220] (hp I L w1 w2 t) (fun v h' => v = some (.int (kndP T e b)) ∧ ∃ J w, h' = hp J L w1 w t ∧ At T e (if kndP T e b = -1 then b else nx T e b) w J ∧ ∀ q, q ≠ 221 → J q = I q) nX := by
  refine Sp_of ok_X3_takeKind rfl rfl ?_
  show AW S m_X3_takeKind 15 _ _ 0 0 0 [some (.ref 220)] [] (hp I L w1 w2 t)
  refine a_l0 rfl rfl rfl ?_
  refine a_getq rfl gfX3_28_3 rfl (rfl) ?_
  refine a_gets rfl (inC4 (i := 77) rfl rfl) (hw.st (i := 15) (by decide)) ?_
  refine a_gV rfl lX3_48 mo_X9_takeWord (f_takeWord (k := 15) hw h (by decide)) rfl rfl rfl ⟨9, _, rfl, rfl, rfl⟩ rfl (fun v' h' hv => ?_)
  obtain ⟨rfl, J1, wa, rfl, hA1, hf1⟩ := hv
  cases c1 : isWd T e b 15 with
  | true =>
    refine a_if_eq rfl (fun z => absurd z (by decide)) (fun _ => ?_)
    rw [c1, if_pos rfl] at hA1
    have ek : kndP T e b = 0 := if_pos c1
    rw [ek, if_neg (by decide)]
    refine a_s rfl rfl ?_
    exact a_iret rfl rfl ⟨rfl, J1, wa, rfl, hA1, hf1⟩
  | false =>
  refine a_if_eq rfl (fun _ => ?_) (fun z => absurd rfl z)
  rw [c1, if_neg (by decide)] at hA1
  refine a_l0 rfl rfl rfl ?_
  refine a_getq rfl gfX3_28_3 rfl (rfl) ?_
  refine a_gets rfl (inC4 (i := 83) rfl rfl) (hw.st (i := 16) (by decide)) ?_
  refine a_gV rfl lX3_48 mo_X9_takeWord (f_takeWord (k := 16) hw hA1 (by decide)) rfl rfl rfl ⟨9, _, rfl, rfl, rfl⟩ rfl (fun v' h' hv => ?_)
  obtain ⟨rfl, J2, wb, rfl, hA2, hf2⟩ := hv
  cases c2 : isWd T e b 16 with
  | true =>
    refine a_if_eq rfl (fun z => absurd z (by decide)) (fun _ => ?_)
    rw [c2, if_pos rfl] at hA2
    have ek : kndP T e b = 1 := (if_neg (by rw [c1]; decide)).trans (if_pos c2)
    rw [ek, if_neg (by decide)]
    refine a_s rfl rfl ?_
    exact a_iret rfl rfl ⟨rfl, J2, wb, rfl, hA2, fun q hq => (hf2 q hq).trans (hf1 q hq)⟩
  | false =>
  refine a_if_eq rfl (fun _ => ?_) (fun z => absurd rfl z)
  rw [c2, if_neg (by decide)] at hA2
  refine a_l0 rfl rfl rfl ?_
  refine a_getq rfl gfX3_28_3 rfl (rfl) ?_
  refine a_gets rfl (inC4 (i := 85) rfl rfl) (hw.st (i := 17) (by decide)) ?_
  refine a_gV rfl lX3_48 mo_X9_takeWord (f_takeWord (k := 17) hw hA2 (by decide)) rfl rfl rfl ⟨9, _, rfl, rfl, rfl⟩ rfl (fun v' h' hv => ?_)
  obtain ⟨rfl, J3, wc, rfl, hA3, hf3⟩ := hv
  have hf : ∀ q, q ≠ 221 → J3 q = I q := fun q hq => (hf3 q hq).trans ((hf2 q hq).trans (hf1 q hq))
  cases c3 : isWd T e b 17 with
  | true =>
    refine a_if_eq rfl (fun z => absurd z (by decide)) (fun _ => ?_)
    rw [c3, if_pos rfl] at hA3
    have ek : kndP T e b = 2 := (if_neg (by rw [c1]; decide)).trans ((if_neg (by rw [c2]; decide)).trans (if_pos c3))
    rw [ek, if_neg (by decide)]
    refine a_s rfl rfl ?_
    refine a_goto rfl ?_
    exact a_iret rfl rfl ⟨rfl, J3, wc, rfl, hA3, hf⟩
  | false =>
    refine a_if_eq rfl (fun _ => ?_) (fun z => absurd rfl z)
    rw [c3, if_neg (by decide)] at hA3
    have ek : kndP T e b = -1 := (if_neg (by rw [c1]; decide)).trans ((if_neg (by rw [c2]; decide)).trans (if_neg (by rw [c3]; decide)))
    rw [ek, if_pos rfl]
    refine a_s rfl rfl ?_
    exact a_iret rfl rfl ⟨rfl, J3, wc, rfl, hA3, hf⟩
theorem f_openLine {k n : Nat} (h0 : I 226 0 = nI k) (hk : k < 12) (h1 : I 226 1 = nI n) {x y : Int32} : SpE S m_X2_openLine 13 [.ref 226, .int x, .int y] (hp I L w1 w2 t) none (hp (up2 (up2 (up2 I 227 k x) 228 k y) 229 k (nI n)) L w1 w2 t) := by
  refine SpE_of ok_X2_openLine rfl rfl ?_
  show AW S m_X2_openLine 13 _ _ 0 0 0 [some (.ref 226), some (.int x), some (.int y)] [] (hp I L w1 w2 t)
  refine a_l0 rfl rfl rfl ?_
  refine a_getq rfl gfX2_15_2 rfl (rfl) ?_
  refine a_l0 rfl rfl rfl ?_
  refine a_getiv (v := nI k) rfl gfX2_11_2 rfl (h0) ?_
  refine a_l1 rfl rfl rfl ?_
  refine a_eSN0 rfl lX2_44 mo_X11_setAt (sp_X11_setAt rfl) rfl rfl rfl rfl ?_
  rw [setF_nI hk (by decide)]
  refine a_l0 rfl rfl rfl ?_
  refine a_getq rfl gfX2_19_2 rfl (rfl) ?_
  refine a_l0 rfl rfl rfl ?_
  refine a_getiv (v := nI k) rfl gfX2_11_2 rfl ((congrFun (up2_row (by decide)) 0).trans h0) ?_
  refine a_l2 rfl rfl rfl ?_
  refine a_eSN0 rfl lX2_44 mo_X11_setAt (sp_X11_setAt rfl) rfl rfl rfl rfl ?_
  rw [setF_nI hk (by decide)]
  refine a_l0 rfl rfl rfl ?_
  refine a_getq rfl gfX2_22_2 rfl (rfl) ?_
  refine a_l0 rfl rfl rfl ?_
  refine a_getiv (v := nI k) rfl gfX2_11_2 rfl ((congrFun (up2_row (by decide)) 0).trans ((congrFun (up2_row (by decide)) 0).trans h0)) ?_
  refine a_l0 rfl rfl rfl ?_
  refine a_getiv (v := nI n) rfl gfX2_41_2 rfl ((congrFun (up2_row (by decide)) 1).trans ((congrFun (up2_row (by decide)) 1).trans h1)) ?_
  refine a_eSN0 rfl lX2_44 mo_X11_setAt (sp_X11_setAt rfl) rfl rfl rfl rfl ?_
  rw [setF_nI hk (by decide)]
  exact a_vret rfl rfl ⟨rfl, rfl⟩
theorem f_closeLine {k n : Nat} (h0 : I 226 0 = nI k) (hk : k < 12) (h1 : I 226 1 = nI n) : SpE S m_X2_closeLine 13 [.ref 226] (hp I L w1 w2 t) none (hp (up2 (up2 I 230 k (nI n)) 226 0 (nI (k + 1))) L w1 w2 t) := by
  refine SpE_of ok_X2_closeLine rfl rfl ?_
  show AW S m_X2_closeLine 13 _ _ 0 0 0 [some (.ref 226)] [] (hp I L w1 w2 t)
  refine a_l0 rfl rfl rfl ?_
  refine a_getq rfl gfX2_25_2 rfl (rfl) ?_
  refine a_l0 rfl rfl rfl ?_
  refine a_getiv (v := nI k) rfl gfX2_11_2 rfl (h0) ?_
  refine a_l0 rfl rfl rfl ?_
  refine a_getiv (v := nI n) rfl gfX2_41_2 rfl (h1) ?_
  refine a_eSN0 rfl lX2_44 mo_X11_setAt (sp_X11_setAt rfl) rfl rfl rfl rfl ?_
  rw [setF_nI hk (by decide)]
  refine a_l0 rfl rfl rfl ?_
  refine a_s rfl rfl ?_
  refine a_getiv (v := nI k) rfl gfX2_11_2 rfl ((congrFun (up2_row (by decide)) 0).trans h0) ?_
  refine a_s rfl rfl ?_
  refine a_s rfl rfl ?_
  refine a_top (y := nI (k + 1)) ((nI_succ k).symm) ?_
  refine a_puti rfl pfX2_11_2 rfl ?_
  exact a_vret rfl rfl ⟨rfl, rfl⟩
/-- what a law's lines may change -/
def sW (q k : Nat) : Bool := sC q k || ((Nat.ble 227 q && Nat.ble q 230) || ((Nat.ble 222 q && Nat.ble q 225) || (Nat.beq q 226 && Nat.beq k 0)))
theorem sC_sW : ∀ q k, sC q k = true → sW q k = true := fun q k h => by
  unfold sW
  rw [h]
  rfl
/-- the draft of a law, lines and codes so far -/
def Ld (T : Nat → Int32) (e b w : Nat) (o : List Int32) (ls : List LnT) (J : Nat → Nat → Int32) : Prop := At T e b w J ∧ J 226 1 = nI o.length ∧ RowL (J 231) o ∧ J 226 0 = nI ls.length ∧ LnL (J 227) (J 228) (J 229) (J 230) ls ∧ o.length ≤ b ∧ e ≤ 400
theorem f_readLine (hw : WdS S) (h : Ld T e b w2 o ls I) (h12 : ls.length < 12) : Sp S m_X3_readLine 17 0 0 [.ref 220] (hp I L w1 w2 t) (fun v h' => v = some (.int (bI (lnP T e b o).1)) ∧ ∃ J w, h' = hp J L w1 w t ∧ Fm sW I J ∧ At T e (lnP T e b o).2.1 w J ∧ ((lnP T e b o).1 = true → Ld T e (lnP T e b o).2.1 w (lnP T e b o).2.2 (lnV T e b o (lnP T e b o).2.2 :: ls) J)) nX := by
  obtain ⟨hA, l1, l2, l3, l4, l5, l6⟩ := h
  have hbe := At.le hA
  have gd := lnP_gd (T := T) (o := o) hbe
  refine Sp_of ok_X3_readLine rfl rfl ?_
  show AW S m_X3_readLine 17 _ _ 0 0 0 [some (.ref 220), none, none] [] (hp I L w1 w2 t)
  have fmx : ∀ {J J' : Nat → Nat → Int32}, Fm sW I J → (∀ q, q ≠ 221 → J' q = J q) → Fm sW I J' := fun {J J'} h f q k hq => by
    rw [f q (by intro z; subst z; cases hq)]
    exact h q k hq
  refine a_l0 rfl rfl rfl ?_
  refine a_gV rfl lX3_24 mo_X3_takeKind (f_takeKind hw hA) rfl rfl rfl ⟨3, _, rfl, rfl, rfl⟩ rfl (fun v' h' hv => ?_)
  obtain ⟨rfl, J1, wa, rfl, hA1, hf1⟩ := hv
  have hF1 : Fm sW I J1 := fmx Fm.rf hf1
  refine a_s1 rfl rfl rfl rfl rfl rfl ?_
  refine a_l1 rfl rfl rfl ?_
  refine a_s rfl rfl ?_
  refine a_ic_ne rfl (fun c1 => ?_) (fun c1 => ?_)
  rotate_left
  · have el : lnP T e b o = (false, b, []) := if_pos c1
    rw [c1, if_pos rfl] at hA1
    rw [el]
    refine a_s rfl rfl ?_
    exact a_zret rfl rfl rfl ⟨rfl, J1, wa, rfl, hF1, hA1, fun z => by cases z⟩
  rw [if_neg c1] at hA1
  have n1 := nx_lt (T := T) (knd_lt c1)
  refine a_l0 rfl rfl rfl ?_
  refine a_getq rfl gfX3_28_3 rfl (rfl) ?_
  refine a_s rfl rfl ?_
  refine a_s rfl rfl ?_
  refine a_gV rfl lX3_32 mo_X9_takeNumber (f_takeNumber (lo := 0) (hi := 60) hw hA1 (by decide)) rfl rfl rfl ⟨9, _, rfl, rfl, rfl⟩ rfl (fun v' h' hv => ?_)
  obtain ⟨rfl, J2, wb, rfl, hA2, hf2⟩ := hv
  have hF2 : Fm sW I J2 := fmx hF1 hf2
  refine a_s2 rfl rfl rfl rfl rfl rfl ?_
  refine a_l2 rfl rfl rfl ?_
  refine a_s rfl rfl ?_
  refine a_ic_ne rfl (fun c2 => ?_) (fun c2 => ?_)
  rotate_left
  · have el : lnP T e b o = (false, nx T e b, []) := (if_neg c1).trans (if_pos c2)
    rw [c2, if_pos rfl] at hA2
    rw [el]
    refine a_s rfl rfl ?_
    exact a_zret rfl rfl rfl ⟨rfl, J2, wb, rfl, hF2, hA2, fun z => by cases z⟩
  rw [if_neg c2] at hA2
  have n2 := nx_lt (T := T) (nm_lt c2)
  have f12 : ∀ q, q ≠ 221 → J2 q = I q := fun q hq => (hf2 q hq).trans (hf1 q hq)
  refine a_l0 rfl rfl rfl ?_
  refine a_getq rfl gfX3_14_3 rfl (rfl) ?_
  refine a_l1 rfl rfl rfl ?_
  refine a_l2 rfl rfl rfl ?_
  refine a_eV0 rfl lX3_38 mo_X2_openLine (f_openLine ((congrFun (f12 226 (by decide)) 0).trans l3) h12 ((congrFun (f12 226 (by decide)) 1).trans l1)) rfl rfl rfl ⟨2, _, rfl, rfl, rfl⟩ rfl ?_
  refine a_ren (P := fun J => Fm sW I J ∧ At T e (nx T e (nx T e b)) wb J ∧ J 226 1 = nI o.length ∧ RowL (J 231) o ∧ J 226 0 = nI ls.length ∧ J 227 ls.length = kndP T e b ∧ J 228 ls.length = nm T e (nx T e b) 0 60 ∧ J 229 ls.length = nI o.length ∧ LnL (J 227) (J 228) (J 229) (J 230) ls) ⟨Fm.up (Fm.up (Fm.up hF2 rfl) rfl) rfl, At.eq hA2 (fun q g1 g2 => by rw [up2_row (by omega), up2_row (by omega), up2_row (by omega)]), ?_, ?_, ?_, ?_, ?_, ?_, ?_⟩ (fun J3 hJ3 => ?_)
  · rw [up2_row (by decide), up2_row (by decide), up2_row (by decide), f12 226 (by decide)]
    exact l1
  · rw [up2_row (by decide), up2_row (by decide), up2_row (by decide), f12 231 (by decide)]
    exact l2
  · rw [up2_row (by decide), up2_row (by decide), up2_row (by decide), f12 226 (by decide)]
    exact l3
  · rw [up2_row (by decide), up2_row (by decide)]
    exact up2_at
  · rw [up2_row (by decide)]
    exact up2_at
  · exact up2_at
  · refine LnL.eq l4 (fun i hi => ⟨?_, ?_, ?_, ?_⟩)
    · rw [up2_row (by decide), up2_row (by decide), up2_ne (Or.inr (by omega)), f12 227 (by decide)]
    · rw [up2_row (by decide), up2_ne (Or.inr (by omega)), up2_row (by decide), f12 228 (by decide)]
    · rw [up2_ne (Or.inr (by omega)), up2_row (by decide), up2_row (by decide), f12 229 (by decide)]
    · rw [up2_row (by decide), up2_row (by decide), up2_row (by decide), f12 230 (by decide)]
  obtain ⟨hF3, hA3, m1, m2, m3, m4, m5, m6, m7⟩ := hJ3
  -- the line is closed
  have k61 : ∀ (b1 : Nat) (o1 : List Int32) (J : Nat → Nat → Int32) (w : Nat), lnP T e b o = (true, b1, o1) → Fm sW I J → At T e b1 w J → J 226 1 = nI o1.length → RowL (J 231) o1 → J 226 0 = nI ls.length → (∀ q, 227 ≤ q → q ≤ 230 → J q = J3 q) → AW S m_X3_readLine 17 (fun v h' => v = some (.int (bI (lnP T e b o).1)) ∧ ∃ J w, h' = hp J L w1 w t ∧ Fm sW I J ∧ At T e (lnP T e b o).2.1 w J ∧ ((lnP T e b o).1 = true → Ld T e (lnP T e b o).2.1 w (lnP T e b o).2.2 (lnV T e b o (lnP T e b o).2.2 :: ls) J)) nX 0 0 61 [some (.ref 220), some (.int (kndP T e b)), some (.int (nm T e (nx T e b) 0 60))] [] (hp J L w1 w t) := by
    intro b1 o1 J w el hF hAb p1 p2 p3 p4
    rw [el] at gd ⊢
    obtain ⟨-, g2, g3⟩ := gd
    have g3 : b < b1 ∧ o1.length + b ≤ o.length + b1 := g3 rfl
    refine a_l0 rfl rfl rfl ?_
    refine a_getq rfl gfX3_14_3 rfl (rfl) ?_
    refine a_eV0 rfl lX3_56 mo_X2_closeLine (f_closeLine p3 h12 p1) rfl rfl rfl ⟨2, _, rfl, rfl, rfl⟩ rfl ?_
    refine a_s rfl rfl ?_
    refine a_zret rfl rfl rfl ⟨rfl, _, w, rfl, Fm.up (Fm.up hF rfl) rfl, At.eq hAb (fun q g1 g2 => by rw [up2_row (by omega), up2_row (by omega)]), fun _ => ⟨At.eq hAb (fun q g1 g2 => by rw [up2_row (by omega), up2_row (by omega)]), ?_, ?_, up2_at, ⟨⟨?_, ?_, ?_, ?_⟩, ?_⟩, by show o1.length ≤ b1; omega, l6⟩⟩
    · rw [up2_ne (Or.inr (by decide)), up2_row (by decide)]
      exact p1
    · rw [up2_row (by decide), up2_row (by decide)]
      exact p2
    · rw [up2_row (by decide), up2_row (by decide), p4 227 (by decide) (by decide)]
      exact m4
    · rw [up2_row (by decide), up2_row (by decide), p4 228 (by decide) (by decide)]
      exact m5
    · rw [up2_row (by decide), up2_row (by decide), p4 229 (by decide) (by decide)]
      exact m6
    · rw [up2_row (by decide)]
      exact up2_at
    · refine LnL.eq m7 (fun i hi => ⟨?_, ?_, ?_, ?_⟩)
      · rw [up2_row (by decide), up2_row (by decide), p4 227 (by decide) (by decide)]
      · rw [up2_row (by decide), up2_row (by decide), p4 228 (by decide) (by decide)]
      · rw [up2_row (by decide), up2_row (by decide), p4 229 (by decide) (by decide)]
      · rw [up2_row (by decide), up2_ne (Or.inr (by omega)), p4 230 (by decide) (by decide)]
  refine a_l0 rfl rfl rfl ?_
  refine a_getq rfl gfX3_28_3 rfl (rfl) ?_
  refine a_gets rfl (inC4 (i := 95) rfl rfl) (hw.st (i := 18) (by decide)) ?_
  refine a_gV rfl lX3_48 mo_X9_takeWord (f_takeWord (k := 18) hw hA3 (by decide)) rfl rfl rfl ⟨9, _, rfl, rfl, rfl⟩ rfl (fun v' h' hv => ?_)
  obtain ⟨rfl, J4, wd4, rfl, hA4, hf4⟩ := hv
  have hF4 : Fm sW I J4 := fmx hF3 hf4
  have q1 : J4 226 1 = nI o.length := (congrFun (hf4 226 (by decide)) 1).trans m1
  have q2 : RowL (J4 231) o := by
    rw [hf4 231 (by decide)]
    exact m2
  have q3 : J4 226 0 = nI ls.length := (congrFun (hf4 226 (by decide)) 0).trans m3
  have n2e := nx_le (T := T) (nx_le (T := T) hbe)
  cases c3 : isWd T e (nx T e (nx T e b)) 18 with
  | false =>
    refine a_if_eq rfl (fun _ => ?_) (fun z => absurd rfl z)
    rw [c3, if_neg (by decide)] at hA4
    exact k61 _ _ J4 wd4 ((if_neg c1).trans ((if_neg c2).trans (if_neg (by rw [c3]; decide)))) hF4 hA4 q1 q2 q3 (fun q g1 g2 => hf4 q (by omega))
  | true =>
    refine a_if_eq rfl (fun z => absurd z (by decide)) (fun _ => ?_)
    rw [c3, if_pos rfl] at hA4
    have n3 := nx_lt (T := T) (isWd_lt c3)
    have el : lnP T e b o = condR T e 6 (nx T e (nx T e (nx T e b))) o := (if_neg c1).trans ((if_neg c2).trans (if_pos c3))
    refine a_l0 rfl rfl rfl ?_
    refine a_gV rfl lX3_52 mo_X3_readCondition (f_readCondition hw hA4 q1 q2 (by omega) (by omega) l6) rfl rfl rfl ⟨3, _, rfl, rfl, rfl⟩ rfl (fun v' h' hv => ?_)
    obtain ⟨rfl, J5, w5, rfl, f5, hA5, hz5⟩ := hv
    have hF5 : Fm sW I J5 := Fm.tr hF4 (Fm.mo f5 sC_sW)
    rw [← el] at hA5 hz5 ⊢
    rcases er : lnP T e b o with ⟨z, b1, o1⟩
    rw [er] at hA5 hz5
    cases z with
    | false =>
      refine a_if_ne rfl (fun z => absurd rfl z) (fun _ => ?_)
      refine a_s rfl rfl ?_
      exact a_zret rfl rfl rfl ⟨rfl, J5, w5, rfl, hF5, hA5, fun z => by cases z⟩
    | true =>
      refine a_if_ne rfl (fun _ => ?_) (fun z => absurd (show (1 : Int32) = 0 from z) (by decide))
      obtain ⟨y1, y2⟩ := hz5 rfl
      rw [er] at k61
      exact k61 b1 o1 J5 w5 rfl hF5 hA5 y1 y2 ((f5 226 0 rfl).trans q3) (fun q g1 g2 => by
        have e1 : Nat.beq q 221 = false := beqF (by omega)
        have e2 : Nat.beq q 234 = false := beqF (by omega)
        have e3 : Nat.beq q 231 = false := beqF (by omega)
        have e4 : Nat.beq q 220 = false := beqF (by omega)
        have e5 : Nat.beq q 226 = false := beqF (by omega)
        rw [show J5 q = J4 q from funext fun k => f5 q k (by simp [sC, e1, e2, e3, e4, e5]), hf4 q (by omega)])
/-- what is known behind the lines of a law -/
def LwD (r : LRs) (J : Nat → Nat → Int32) : Prop := J 226 1 = nI r.2.2.1.length ∧ RowL (J 231) r.2.2.1 ∧ J 226 0 = nI r.2.2.2.length ∧ LnL (J 227) (J 228) (J 229) (J 230) r.2.2.2 ∧ r.2.2.2.length ≤ 12 ∧ r.2.2.1.length ≤ 400
theorem f_readLines (hw : WdS S) (he : I 201 1 = nI e) (h4 : e ≤ 400) (hbt : BtT (I 202)) (hm0 : I 220 1 = 12) (h0 : I 226 0 = 0) (h1 : I 226 1 = 0) : Sp S m_X8_readLines 20 0 0 [.ref 220, .ref 201] (hp I L w1 w2 t) (fun v h' => v = some (.int (if (lawP (I 202) e).1 = true then -1 else nI (lawP (I 202) e).2.1)) ∧ ∃ J w, h' = hp J L w1 w t ∧ WK w ∧ Fm sW I J ∧ ((lawP (I 202) e).1 = true → LwD (lawP (I 202) e) J)) nX := by
  refine Sp_of ok_X8_readLines rfl rfl ?_
  show AW S m_X8_readLines 20 _ _ 0 0 0 [some (.ref 220), some (.ref 201), none] [] (hp I L w1 w2 t)
  generalize hT : I 202 = T at hbt ⊢
  refine a_l0 rfl rfl rfl ?_
  refine a_getq rfl gfX8_12_3 rfl (rfl) ?_
  refine a_l1 rfl rfl rfl ?_
  refine a_gV rfl lX8_22 mo_X9_scan (f_scan hw he h4 (by rw [hT]; exact hbt)) rfl rfl rfl ⟨9, _, rfl, rfl, rfl⟩ rfl (fun v' h' hv => ?_)
  obtain ⟨rfl, J1, wa, rfl, hA1, hf1⟩ := hv
  rw [hT] at hA1
  have hF1 : Fm sW I J1 := fun q k hq => by
    by_cases c : 221 ≤ q ∧ q ≤ 225
    · exfalso
      rcases Nat.eq_or_lt_of_le c.1 with z | z
      · subst z
        cases hq
      · unfold sW at hq
        rw [Nat.ble_eq_true_of_le (show 222 ≤ q from z), Nat.ble_eq_true_of_le c.2] at hq
        simp at hq
    · rw [hf1 q c]
  have hL1 : Ld T e (bg T e 0) wa [] [] J1 := ⟨hA1, (congrFun (hf1 226 (by omega)) 1).trans (h1.trans nI_0.symm), trivial, (congrFun (hf1 226 (by omega)) 0).trans (h0.trans nI_0.symm), trivial, Nat.zero_le _, h4⟩
  refine a_l0 rfl rfl rfl ?_
  refine a_getq rfl gfX8_12_3 rfl (rfl) ?_
  refine a_eV1 rfl lX8_26 mo_X9_isEnd (f_isEnd hA1) rfl rfl rfl ⟨9, _, rfl, rfl, rfl⟩ rfl ?_
  by_cases c0 : bg T e 0 < e
  rotate_left
  · rw [show decide (¬ bg T e 0 < e) = true from decide_eq_true c0]
    refine a_if_eq rfl (fun z => absurd z (by decide)) (fun _ => ?_)
    have el : lawP T e = (true, bg T e 0, [], []) := if_neg c0
    rw [el, if_pos rfl]
    refine a_s rfl rfl ?_
    exact a_iret rfl rfl ⟨rfl, J1, wa, rfl, At.wk hA1, hF1, fun _ => ⟨hL1.2.1, trivial, hL1.2.2.2.1, trivial, Nat.zero_le _, Nat.zero_le _⟩⟩
  rw [show decide (¬ bg T e 0 < e) = false from decide_eq_false (fun z => z c0)]
  refine a_if_eq rfl (fun _ => ?_) (fun z => absurd rfl z)
  refine a_s rfl rfl ?_
  refine a_s2 rfl rfl rfl rfl rfl rfl ?_
  refine a_inv (n := 12) (fun m ls h => ∃ i b' w' o' ls' J, ls = [some (.ref 220), some (.ref 201), some (.int (nI i))] ∧ h = hp J L w1 w' t ∧ Ld T e b' w' o' ls' J ∧ Fm sW I J ∧ ls'.length = i ∧ i ≤ 12 ∧ lnsP T e (12 - i) b' o' ls' = lawP T e ∧ m = 12 - i) ⟨0, bg T e 0, wa, [], [], J1, rfl, rfl, hL1, hF1, rfl, by decide, (if_pos c0).symm, rfl⟩ ?_
  rintro m _ _ ⟨i, b', w', o', ls', J, rfl, rfl, hL, hF, hli, hi, es, hm⟩ ih
  refine a_l2 rfl rfl rfl ?_
  refine a_l0 rfl rfl rfl ?_
  refine a_getiv (v := 12) rfl gfX8_18_3 rfl ((hF 220 1 rfl).trans hm0) ?_
  refine a_ic_ge rfl (fun c => ?_) (fun c => ?_)
  · have h12 := nI_ge_of (b := 12) c (by omega) (by decide)
    obtain rfl : i = 12 := by omega
    have es : lawP T e = (false, b', [], []) := es.symm
    rw [es, if_neg Bool.false_ne_true]
    refine a_l0 rfl rfl rfl ?_
    refine a_getq rfl gfX8_12_3 rfl (rfl) ?_
    refine a_getiv (v := nI b') rfl gfX8_33_9 rfl (At.be hL.1) ?_
    exact a_iret rfl rfl ⟨rfl, J, w', rfl, At.wk hL.1, hF, fun z => by cases z⟩
  have hi12 : i < 12 := nI_lt_of (b := 12) c (by omega) (by decide)
  obtain ⟨f, hf⟩ : ∃ f, 12 - i = f + 1 := ⟨12 - i - 1, by omega⟩
  rw [hf, lnsP_s] at es
  have gd := lnP_gd (T := T) (o := o') (At.le hL.1)
  have hlen : ls'.length < 12 := by omega
  refine a_l0 rfl rfl rfl ?_
  refine a_callU rfl lu_30_3 dc_readLine mo_X3_readLine hx_rl0 (f_readLine hw hL hlen) rfl rfl rfl ⟨3, _, rfl, rfl, rfl⟩ rfl (fun v' h' hv => ?_) (fun _ _ z => False.elim z)
  obtain ⟨rfl, J2, wb, rfl, f2, hA2, hz2⟩ := hv
  have hF2 : Fm sW I J2 := Fm.tr hF f2
  rcases er : lnP T e b' o' with ⟨z, b1, o1⟩
  rw [er] at es hA2 hz2 gd
  cases z with
  | false =>
    refine a_if_ne rfl (fun z => absurd rfl z) (fun _ => ?_)
    have es : lawP T e = (false, b1, [], []) := es.symm
    rw [es, if_neg Bool.false_ne_true]
    refine a_l0 rfl rfl rfl ?_
    refine a_getq rfl gfX8_12_3 rfl (rfl) ?_
    refine a_getiv (v := nI b1) rfl gfX8_33_9 rfl (At.be hA2) ?_
    exact a_iret rfl rfl ⟨rfl, J2, wb, rfl, At.wk hA2, hF2, fun z => by cases z⟩
  | true =>
  refine a_if_ne rfl (fun _ => ?_) (fun z => absurd (show (1 : Int32) = 0 from z) (by decide))
  have hL2 := hz2 rfl
  obtain ⟨-, g2, g3⟩ := gd
  have g2 : b1 ≤ e := g2
  rw [if_pos rfl] at es
  refine a_l0 rfl rfl rfl ?_
  refine a_getq rfl gfX8_12_3 rfl (rfl) ?_
  refine a_eV1 rfl lX8_26 mo_X9_isEnd (f_isEnd hA2) rfl rfl rfl ⟨9, _, rfl, rfl, rfl⟩ rfl ?_
  by_cases c1 : b1 < e
  rotate_left
  · rw [show decide (¬ b1 < e) = true from decide_eq_true c1]
    refine a_if_eq rfl (fun z => absurd z (by decide)) (fun _ => ?_)
    have es : lawP T e = (true, b1, o1, lnV T e b' o' o1 :: ls') := es.symm.trans (if_neg c1)
    rw [es, if_pos rfl]
    refine a_s rfl rfl ?_
    obtain ⟨-, x1, x2, x3, x4, x5, -⟩ := hL2
    exact a_iret rfl rfl ⟨rfl, J2, wb, rfl, At.wk hA2, hF2, fun _ => ⟨x1, x2, x3, x4, by show ls'.length + 1 ≤ 12; omega, by have x5 : o1.length ≤ b1 := x5; show o1.length ≤ 400; omega⟩⟩
  rw [show decide (¬ b1 < e) = false from decide_eq_false (fun z => z c1)]
  refine a_if_eq rfl (fun _ => ?_) (fun z => absurd rfl z)
  have es := (if_pos c1).symm.trans es
  refine a_l0 rfl rfl rfl ?_
  refine a_getq rfl gfX8_12_3 rfl (rfl) ?_
  refine a_s rfl rfl ?_
  refine a_gV rfl lX8_36 mo_X9_takeSign (f_takeSign hw hA2) rfl rfl rfl ⟨9, _, rfl, rfl, rfl⟩ rfl (fun v' h' hv => ?_)
  obtain ⟨rfl, J3, wc, rfl, hA3, hf3⟩ := hv
  have hF3 : Fm sW I J3 := fun q k hq => by
    rw [hf3 q (by intro z; subst z; cases hq)]
    exact hF2 q k hq
  cases c59 : sg T e b1 59 with
  | false =>
    refine a_if_ne rfl (fun z => absurd rfl z) (fun _ => ?_)
    rw [c59, if_neg (by decide)] at hA3
    have es : lawP T e = (false, b1, [], []) := es.symm.trans (if_neg (by rw [c59]; decide))
    rw [es, if_neg Bool.false_ne_true]
    refine a_l0 rfl rfl rfl ?_
    refine a_getq rfl gfX8_12_3 rfl (rfl) ?_
    refine a_getiv (v := nI b1) rfl gfX8_33_9 rfl (At.be hA3) ?_
    exact a_iret rfl rfl ⟨rfl, J3, wc, rfl, At.wk hA3, hF3, fun z => by cases z⟩
  | true =>
    refine a_if_ne rfl (fun _ => ?_) (fun z => absurd (show (1 : Int32) = 0 from z) (by decide))
    rw [c59, if_pos rfl] at hA3
    have es := (if_pos c59).symm.trans es
    obtain ⟨-, x1, x2, x3, x4, x5, x6⟩ := hL2
    have x5 : o1.length ≤ b1 := x5
    have n1 := nx_lt (T := T) c1
    refine a_iv2 (y := nI (i + 1)) rfl rfl rfl ((nI_succ i).symm) ?_
    refine a_goto rfl ?_
    refine ih (12 - (i + 1)) _ _ (by omega) ⟨i + 1, nx T e b1, wc, o1, lnV T e b' o' o1 :: ls', J3, rfl, rfl, ⟨hA3, ?_, ?_, ?_, ?_, by omega, x6⟩, hF3, by show ls'.length + 1 = i + 1; omega, by omega, by rw [show 12 - (i + 1) = f by omega]; exact es, rfl⟩
    · rw [hf3 226 (by decide)]
      exact x1
    · rw [hf3 231 (by decide)]
      exact x2
    · rw [hf3 226 (by decide)]
      exact x3
    · rw [hf3 227 (by decide), hf3 228 (by decide), hf3 229 (by decide), hf3 230 (by decide)]
      exact x4
end T79f
end
section
/-! ===== the reference's signs, words, numbers, as functions of the tape ===== -/
section T79g
variable {S : aS} {I : Nat → Nat → Int32} {L : Nat → Nat → Int64} {w1 w2 t : Nat} {e p b : Nat}
set_option maxRecDepth 100000
theorem kc4 {x : Int32} : kcF x = 4 ↔ x = 32 := by
  unfold kcF
  by_cases c : x = 32
  · rw [if_pos c]
    exact ⟨fun _ => c, fun _ => rfl⟩
  · rw [if_neg c]
    refine ⟨fun z => ?_, fun z => absurd z c⟩
    by_cases c2 : 97 ≤ x ∧ x ≤ 122
    · rw [if_pos c2] at z
      cases z
    · rw [if_neg c2] at z
      by_cases c3 : 48 ≤ x ∧ x ≤ 57
      · rw [if_pos c3] at z
        cases z
      · rw [if_neg c3] at z
        cases z
theorem kc1 {x : Int32} : kcF x = 1 ↔ 97 ≤ x ∧ x ≤ 122 := by
  unfold kcF
  by_cases c : x = 32
  · rw [if_pos c]
    refine ⟨fun z => (by cases z), fun z => ?_⟩
    rw [c] at z
    exact absurd z.1 (by decide)
  · rw [if_neg c]
    by_cases c2 : 97 ≤ x ∧ x ≤ 122
    · rw [if_pos c2]
      exact ⟨fun _ => c2, fun _ => rfl⟩
    · rw [if_neg c2]
      refine ⟨fun z => ?_, fun z => absurd z c2⟩
      by_cases c3 : 48 ≤ x ∧ x ≤ 57
      · rw [if_pos c3] at z
        cases z
      · rw [if_neg c3] at z
        cases z
theorem kc2 {x : Int32} : kcF x = 2 ↔ 48 ≤ x ∧ x ≤ 57 := by
  unfold kcF
  by_cases c : x = 32
  · rw [if_pos c]
    refine ⟨fun z => (by cases z), fun z => ?_⟩
    rw [c] at z
    exact absurd z.1 (by decide)
  · rw [if_neg c]
    by_cases c2 : 97 ≤ x ∧ x ≤ 122
    · rw [if_pos c2]
      refine ⟨fun z => (by cases z), fun z => absurd (Int32.le_trans c2.1 z.2) (by decide)⟩
    · rw [if_neg c2]
      by_cases c3 : 48 ≤ x ∧ x ≤ 57
      · rw [if_pos c3]
        exact ⟨fun _ => c3, fun _ => rfl⟩
      · rw [if_neg c3]
        exact ⟨fun z => (by cases z), fun z => absurd z c3⟩
def atB (T : Nat → Int32) (e p : Nat) (x y : Int32) : Bool := decide (p < e ∧ x ≤ T p ∧ T p ≤ y)
theorem at_b {T : Nat → Int32} : atB T e p 32 32 = isK T e 4 p := by
  unfold atB isK
  congr 1
  refine propext ⟨fun z => ⟨z.1, kc4.mpr (Int32.le_antisymm z.2.2 z.2.1)⟩, fun z => ?_⟩
  have := kc4.mp z.2
  rw [this]
  exact ⟨z.1, by decide, by decide⟩
theorem at_l {T : Nat → Int32} : atB T e p 97 122 = isK T e 1 p := by
  unfold atB isK
  congr 1
  exact propext ⟨fun z => ⟨z.1, kc1.mpr z.2⟩, fun z => ⟨z.1, kc1.mp z.2⟩⟩
theorem at_d {T : Nat → Int32} : atB T e p 48 57 = isK T e 2 p := by
  unfold atB isK
  congr 1
  exact propext ⟨fun z => ⟨z.1, kc2.mpr z.2⟩, fun z => ⟨z.1, kc2.mp z.2⟩⟩
theorem at_s {T : Nat → Int32} {c : Nat} (hbt : BtT T) (he : e ≤ 400) (hc : c ∈ [40, 41, 43, 59, 60, 62]) : atB T e p (nI c) (nI c) = sg T e p (nI c) := by
  unfold atB sg
  congr 1
  by_cases hp : p < e
  · obtain ⟨n, hn, en⟩ := hbt p (by omega)
    obtain ⟨g1, g2⟩ := bt_sg n hn c hc
    rw [← en] at g1 g2
    refine propext ⟨fun z => ?_, fun z => ?_⟩
    · have e1 := Int32.le_antisymm z.2.2 z.2.1
      have k3 := (kd_lt hp).trans (g2 e1)
      exact ⟨k3, (vl_3 k3).trans (g1.mpr e1)⟩
    · have e1 := g1.mp ((vl_3 z.1).symm.trans z.2)
      rw [e1]
      exact ⟨hp, Int32.le_refl _, Int32.le_refl _⟩
  · refine propext ⟨fun z => absurd z.1 hp, fun z => absurd (kd_in (by rw [z.1]; decide)) hp⟩
theorem Rd.T {b p' : Nat} {J : Nat → Nat → Int32} (h : Rd e p b p' I J) : J 426 = I 426 := funext fun k => Rd.fm h 426 k rfl
theorem isW_wd {T : Nat → Int32} {k : Nat} (hk : k < 27) : isW T b (rn T e 1 b - b) k = isWd T e b k := by
  by_cases c : kd T e b = 1
  · rw [← en_1 c]
    cases h : isW T b (en T e b - b) k with
    | true => exact (decide_eq_true ⟨c, wd_eq hk h⟩).symm
    | false =>
      refine (decide_eq_false fun z => ?_).symm
      have h2 := wd_is (T := T) (e := e) (b := b) (by rw [z.2]; exact hk)
      rw [z.2, h] at h2
      cases h2
  · have e1 : rn T e 1 b = b := rn_f (Bool.eq_false_iff.mpr fun z => c ((kd_lt (isK_lt z)).trans (isK_kc z)))
    have := wLen_pos k hk
    rw [e1, show isWd T e b k = false from decide_eq_false fun z => c z.1]
    exact decide_eq_false fun z => by have := z.1; omega
theorem h_isAt (hq : Pp e p I) {x y : Int32} : SpE S m_X12_isAt 12 [.ref 420, .int x, .int y] (hp I L w1 w2 t) (some (.int (bI (atB (I 426) e p x y)))) (hp I L w1 w2 t) := by
  obtain ⟨h1, h2, h3, h4⟩ := hq
  refine SpE_of ok_X12_isAt rfl rfl ?_
  show AW S m_X12_isAt 12 _ _ 0 0 0 [some (.ref 420), some (.int x), some (.int y)] [] (hp I L w1 w2 t)
  have no : ¬ (p < e ∧ x ≤ I 426 p ∧ I 426 p ≤ y) → AW S m_X12_isAt 12 (fun v h' => v = some (.int (bI (atB (I 426) e p x y))) ∧ h' = hp I L w1 w2 t) (fun _ _ => False) 0 0 41 [some (.ref 420), some (.int x), some (.int y)] [] (hp I L w1 w2 t) := by
    intro hn
    refine a_s rfl rfl ?_
    refine a_zret rfl rfl rfl ⟨?_, rfl⟩
    rw [show atB (I 426) e p x y = false from decide_eq_false hn]
    rfl
  refine a_l0 rfl rfl rfl ?_
  refine a_geti rfl gfX12_81_12 rfl ?_
  refine a_top (y := nI p) (h1) ?_
  refine a_l0 rfl rfl rfl ?_
  refine a_geti rfl gfX12_84_12 rfl ?_
  refine a_top (y := nI e) (h2) ?_
  refine a_ic_ge rfl (fun c => no fun z => absurd (nI_ge_of c (by omega) (by omega)) (Nat.not_le.mpr z.1)) (fun c => ?_)
  have hlt : p < e := nI_lt_of c (by omega) (by omega)
  refine a_l0 rfl rfl rfl ?_
  refine a_getq rfl gfX12_29_12 rfl (rfl) ?_
  refine a_l0 rfl rfl rfl ?_
  refine a_geti rfl gfX12_81_12 rfl ?_
  refine a_top (y := nI p) (h1) ?_
  refine a_baldv (v := I 426 p) rfl (n := 400) rfl (inI_nI (by omega) (by omega)) (by rw [nI_clamp (by omega)]) ?_
  refine a_l1 rfl rfl rfl ?_
  refine a_ic_lt rfl (fun c => no fun z => absurd c (Int32.not_lt.mpr z.2.1)) (fun c1 => ?_)
  refine a_l0 rfl rfl rfl ?_
  refine a_getq rfl gfX12_29_12 rfl (rfl) ?_
  refine a_l0 rfl rfl rfl ?_
  refine a_geti rfl gfX12_81_12 rfl ?_
  refine a_top (y := nI p) (h1) ?_
  refine a_baldv (v := I 426 p) rfl (n := 400) rfl (inI_nI (by omega) (by omega)) (by rw [nI_clamp (by omega)]) ?_
  refine a_l2 rfl rfl rfl ?_
  refine a_ic_gt rfl (fun c => no fun z => absurd c (Int32.not_lt.mpr z.2.2)) (fun c2 => ?_)
  refine a_s rfl rfl ?_
  refine a_goto rfl ?_
  refine a_zret rfl rfl rfl ⟨?_, rfl⟩
  rw [show atB (I 426) e p x y = true from decide_eq_true ⟨hlt, Int32.not_lt.mp c1, Int32.not_lt.mp c2⟩]
  rfl
theorem h_blanks (hq : Pp e p I) : Sp S m_X12_blanks 13 0 0 [.ref 420] (hp I L w1 w2 t) (fun v h' => v = none ∧ ∃ J, h' = hp J L w1 w2 t ∧ Rd e p (rn (I 426) e 4 p) (rn (I 426) e 4 p) I J) nX := by
  refine Sp_of ok_X12_blanks rfl rfl ?_
  show AW S m_X12_blanks 13 _ _ 0 0 0 [some (.ref 420)] [] (hp I L w1 w2 t)
  refine a_inv (n := e - p) (fun m ls h => ls = [some (.ref 420)] ∧ ∃ J p', h = hp J L w1 w2 t ∧ Fm sR I J ∧ p ≤ p' ∧ Pp e p' J ∧ rn (I 426) e 4 p = rn (I 426) e 4 p' ∧ m = e - p') ⟨rfl, I, p, rfl, Fm.rf, Nat.le_refl _, hq, rfl, rfl⟩ ?_
  rintro m _ _ ⟨rfl, J, p', rfl, f, hpp, hq', hr, hm⟩ ih
  have eT : J 426 = I 426 := funext fun k => f 426 k rfl
  refine a_l0 rfl rfl rfl ?_
  refine a_s rfl rfl ?_
  refine a_s rfl rfl ?_
  refine a_eV1 rfl lX12_87 mo_X12_isAt (h_isAt hq') rfl rfl rfl ⟨12, _, rfl, rfl, rfl⟩ rfl ?_
  refine a_top (y := bI (isK (I 426) e 4 p')) (by rw [eT]; exact congrArg bI at_b) ?_
  cases c : isK (I 426) e 4 p' with
  | false =>
    refine a_if_eq rfl (fun _ => ?_) (fun z => absurd rfl z)
    rw [hr, rn_f c]
    refine a_l0 rfl rfl rfl ?_
    refine a_l0 rfl rfl rfl ?_
    refine a_geti rfl gfX12_81_12 rfl ?_
    refine a_top (y := nI p') (Pp.pu hq') ?_
    refine a_puti rfl pfX12_91_12 rfl ?_
    exact a_vret rfl rfl ⟨rfl, _, rfl, Fm.up f rfl, hpp, Nat.le_refl _, up2_at, Pp.bg hq'⟩
  | true =>
    refine a_if_eq rfl (fun z => absurd z (by decide)) (fun _ => ?_)
    have hb' := isK_lt c
    refine a_l0 rfl rfl rfl ?_
    refine a_s rfl rfl ?_
    refine a_geti rfl gfX12_81_12 rfl ?_
    refine a_top (y := nI p') (Pp.pu hq') ?_
    refine a_s rfl rfl ?_
    refine a_s rfl rfl ?_
    refine a_top (y := nI (p' + 1)) ((nI_succ _).symm) ?_
    refine a_puti rfl pfX12_81_12 rfl ?_
    refine a_goto rfl ?_
    exact ih (e - (p' + 1)) _ _ (by omega) ⟨rfl, _, p' + 1, rfl, Fm.up f rfl, by omega, Pp.to hq' hb', hr.trans (rn_t c), rfl⟩
theorem h_letters (hq : Pp e p I) : Sp S m_X12_letters 14 0 0 [.ref 420] (hp I L w1 w2 t) (fun v h' => v = none ∧ ∃ J, h' = hp J L w1 w2 t ∧ Rd e p (rn (I 426) e 4 p) (rn (I 426) e 1 (rn (I 426) e 4 p)) I J) nX := by
  refine Sp_of ok_X12_letters rfl rfl ?_
  show AW S m_X12_letters 14 _ _ 0 0 0 [some (.ref 420)] [] (hp I L w1 w2 t)
  refine a_l0 rfl rfl rfl ?_
  refine a_gV rfl lX12_94 mo_X12_blanks (h_blanks hq) rfl rfl rfl ⟨12, _, rfl, rfl, rfl⟩ rfl (fun v' h' hv => ?_)
  obtain ⟨rfl, J1, rfl, h1⟩ := hv
  generalize rn (I 426) e 4 p = b at h1 ⊢
  refine a_inv (n := e - b) (fun m ls h => ls = [some (.ref 420)] ∧ ∃ J p', h = hp J L w1 w2 t ∧ Rd e p b p' I J ∧ rn (I 426) e 1 b = rn (I 426) e 1 p' ∧ m = e - p') ⟨rfl, J1, b, rfl, h1, rfl, rfl⟩ ?_
  rintro m _ _ ⟨rfl, J, p', rfl, h, hr, hm⟩ ih
  refine a_l0 rfl rfl rfl ?_
  refine a_s rfl rfl ?_
  refine a_s rfl rfl ?_
  refine a_eV1 rfl lX12_87 mo_X12_isAt (h_isAt (Rd.pp h)) rfl rfl rfl ⟨12, _, rfl, rfl, rfl⟩ rfl ?_
  refine a_top (y := bI (isK (I 426) e 1 p')) (by rw [Rd.T h]; exact congrArg bI at_l) ?_
  cases c : isK (I 426) e 1 p' with
  | false =>
    refine a_if_eq rfl (fun _ => ?_) (fun z => absurd rfl z)
    rw [hr, rn_f c]
    exact a_vret rfl rfl ⟨rfl, _, rfl, h⟩
  | true =>
    refine a_if_eq rfl (fun z => absurd z (by decide)) (fun _ => ?_)
    have hb' := isK_lt c
    refine a_l0 rfl rfl rfl ?_
    refine a_s rfl rfl ?_
    refine a_geti rfl gfX12_81_12 rfl ?_
    refine a_top (y := nI p') (Pp.pu (Rd.pp h)) ?_
    refine a_s rfl rfl ?_
    refine a_s rfl rfl ?_
    refine a_top (y := nI (p' + 1)) ((nI_succ _).symm) ?_
    refine a_puti rfl pfX12_81_12 rfl ?_
    refine a_goto rfl ?_
    exact ih (e - (p' + 1)) _ _ (by omega) ⟨rfl, _, p' + 1, rfl, Rd.up h hb', hr.trans (rn_t c), rfl⟩
theorem h_isWord {k : Nat} (hw : WdS S) (hk : k < 27) (h12 : I 420 12 = nI b) (hbp : b ≤ p) (hq : Pp e p I) : SpE S m_X12_isWord 16 [.ref 420, .ref (130 + k)] (hp I L w1 w2 t) (some (.int (bI (isW (I 426) b (p - b) k)))) (hp I L w1 w2 t) := by
  obtain ⟨h1, h2, h3, h4⟩ := hq
  have hl1 := wLen_pos k hk
  have hl2 := wLen_lt k hk
  refine SpE_of ok_X12_isWord rfl rfl ?_
  show AW S m_X12_isWord 16 _ _ 0 0 0 [some (.ref 420), some (.ref (130 + k)), none, none] [] (hp I L w1 w2 t)
  have key : ∀ z : Bool, (z = true ↔ p - b = wLen k) → AW S m_X12_isWord 16 (fun v h' => v = some (.int (bI (isW (I 426) b (p - b) k))) ∧ h' = hp I L w1 w2 t) (fun _ _ => False) 0 0 21 [some (.ref 420), some (.ref (130 + k)), none, none] [.int (bI z)] (hp I L w1 w2 t) := by
    intro z hz
    refine a_s2 rfl rfl rfl rfl rfl rfl ?_
    refine a_s rfl rfl ?_
    refine a_s3 rfl rfl rfl rfl rfl rfl ?_
    refine a_inv (n := wLen k + 1) (fun m ls h => ∃ z i, ls = [some (.ref 420), some (.ref (130 + k)), some (.int (bI z)), some (.int (nI i))] ∧ h = hp I L w1 w2 t ∧ i ≤ wLen k ∧ m = wLen k + 1 - i ∧ (z = true ↔ (p - b = wLen k ∧ ∀ q, q < i → I 426 (b + q) = wC k q))) ⟨z, 0, rfl, rfl, Nat.zero_le _, rfl, hz.trans ⟨fun y => ⟨y, fun q hq => absurd hq (Nat.not_lt_zero _)⟩, fun y => y.1⟩⟩ ?_
    rintro m _ _ ⟨z, i, rfl, rfl, hi, hm, hz⟩ ih
    have out : isW (I 426) b (p - b) k = z → AW S m_X12_isWord 16 (fun v h' => v = some (.int (bI (isW (I 426) b (p - b) k))) ∧ h' = hp I L w1 w2 t) (fun _ _ => False) 0 0 67 [some (.ref 420), some (.ref (130 + k)), some (.int (bI z)), some (.int (nI i))] [] (hp I L w1 w2 t) := by
      intro ez
      refine a_l2 rfl rfl rfl ?_
      exact a_zret rfl rfl (bI_nar _) ⟨by rw [ez], rfl⟩
    refine a_l2 rfl rfl rfl ?_
    cases z with
    | false =>
      refine a_if_eq rfl (fun _ => out (decide_eq_false fun y => ?_)) (fun y => absurd rfl y)
      have := hz.mpr ⟨y.1, fun q hq => y.2 q (by omega)⟩
      cases this
    | true =>
    refine a_if_eq rfl (fun y => absurd y (by decide)) (fun _ => ?_)
    obtain ⟨hpb, hq⟩ := hz.mp rfl
    refine a_l3 rfl rfl rfl ?_
    refine a_l1 rfl rfl rfl ?_
    refine a_eK1 rfl lX12_97 mo_J0_length_8abf5 (q_strlen hw hk) rfl rfl rfl (hw.so hk) rfl ?_
    refine a_ic_ge rfl (fun c2 => ?_) (fun c2 => ?_)
    · have := nI_ge_of c2 (by omega) hl2
      exact out (decide_eq_true ⟨hpb, fun q hq2 => hq q (by omega)⟩)
    have hjl : i < wLen k := nI_lt_of c2 (by omega) hl2
    refine a_l0 rfl rfl rfl ?_
    refine a_getq rfl gfX12_29_12 rfl (rfl) ?_
    refine a_l0 rfl rfl rfl ?_
    refine a_geti rfl gfX12_91_12 rfl ?_
    refine a_top (y := nI b) (h12) ?_
    refine a_l3 rfl rfl rfl ?_
    refine a_s rfl rfl ?_
    refine a_top (y := nI (b + i)) (nI_addl _ _) ?_
    refine a_baldv (v := I 426 (b + i)) rfl (n := 400) rfl (inI_nI (by omega) (by omega)) (by rw [nI_clamp (by omega)]) ?_
    refine a_l1 rfl rfl rfl ?_
    refine a_l3 rfl rfl rfl ?_
    refine a_eK1 rfl lX12_102 mo_J0_charAt_5068e (q_charAt hw hk hjl) rfl rfl rfl (hw.so hk) rfl ?_
    have back : ∀ z' : Bool, (z' = true ↔ I 426 (b + i) = wC k i) → AW S m_X12_isWord 16 (fun v h' => v = some (.int (bI (isW (I 426) b (p - b) k))) ∧ h' = hp I L w1 w2 t) (fun _ _ => False) 0 0 60 [some (.ref 420), some (.ref (130 + k)), some (.int (bI true)), some (.int (nI i))] [.int (bI z')] (hp I L w1 w2 t) := by
      intro z' hz'
      refine a_s2 rfl rfl rfl rfl rfl rfl ?_
      refine a_iv3 (y := nI (i + 1)) rfl rfl rfl ((nI_succ i).symm) ?_
      refine a_goto rfl ?_
      refine ih (wLen k + 1 - (i + 1)) _ _ (by omega) ⟨z', i + 1, rfl, rfl, by omega, rfl, ?_⟩
      refine hz'.trans ⟨fun y => ⟨hpb, fun q hq2 => ?_⟩, fun y => y.2 i (Nat.lt_succ_self i)⟩
      by_cases cq : q = i
      · rw [cq]
        exact y
      · exact hq q (by omega)
    refine a_ic_ne rfl (fun c3 => ?_) (fun c3 => ?_)
    · refine a_s rfl rfl ?_
      exact back false ⟨fun y => (by cases y), fun y => absurd y c3⟩
    · refine a_s rfl rfl ?_
      refine a_goto rfl ?_
      exact back true ⟨fun _ => c3, fun _ => rfl⟩
  refine a_l0 rfl rfl rfl ?_
  refine a_geti rfl gfX12_81_12 rfl ?_
  refine a_top (y := nI p) (h1) ?_
  refine a_l0 rfl rfl rfl ?_
  refine a_geti rfl gfX12_91_12 rfl ?_
  refine a_top (y := nI b) (h12) ?_
  refine a_s rfl rfl ?_
  refine a_top (y := nI (p - b)) (nI_sub hbp) ?_
  refine a_l1 rfl rfl rfl ?_
  refine a_eK1 rfl lX12_97 mo_J0_length_8abf5 (q_strlen hw hk) rfl rfl rfl (hw.so hk) rfl ?_
  refine a_ic_ne rfl (fun c => ?_) (fun c => ?_)
  · refine a_s rfl rfl ?_
    exact key false ⟨fun z => (by cases z), fun z => absurd (congrArg nI z) c⟩
  · refine a_s rfl rfl ?_
    refine a_goto rfl ?_
    exact key true ⟨fun _ => nI_inj (by omega) hl2 c, fun _ => rfl⟩
theorem h_passes {k : Nat} (hw : WdS S) (hk : k < 27) (hq : Pp e p I) (hb : rn (I 426) e 4 p = b) : Sp S m_X12_passes 17 0 0 [.ref 420, .ref (130 + k)] (hp I L w1 w2 t) (fun v h' => v = some (.int (bI (isWd (I 426) e b k))) ∧ ∃ J, h' = hp J L w1 w2 t ∧ Rd e p b (if isWd (I 426) e b k = true then en (I 426) e b else b) I J) nX := by
  refine Sp_of ok_X12_passes rfl rfl ?_
  show AW S m_X12_passes 17 _ _ 0 0 0 [some (.ref 420), some (.ref (130 + k))] [] (hp I L w1 w2 t)
  refine a_l0 rfl rfl rfl ?_
  refine a_gV rfl lX12_106 mo_X12_letters (h_letters hq) rfl rfl rfl ⟨12, _, rfl, rfl, rfl⟩ rfl (fun v' h' hv => ?_)
  obtain ⟨rfl, J, rfl, h⟩ := hv
  rw [hb] at h
  refine a_l0 rfl rfl rfl ?_
  refine a_l1 rfl rfl rfl ?_
  refine a_eV1 rfl lX12_109 mo_X12_isWord (h_isWord hw hk (Rd.be h) (Rd.bp h) (Rd.pp h)) rfl rfl rfl ⟨12, _, rfl, rfl, rfl⟩ rfl ?_
  refine a_top (y := bI (isWd (I 426) e b k)) (by rw [Rd.T h]; exact congrArg bI (isW_wd hk)) ?_
  cases c : isWd (I 426) e b k with
  | false =>
    refine a_if_eq rfl (fun _ => ?_) (fun z => absurd rfl z)
    refine a_l0 rfl rfl rfl ?_
    refine a_l0 rfl rfl rfl ?_
    refine a_geti rfl gfX12_91_12 rfl ?_
    refine a_top (y := nI b) (Rd.be h) ?_
    refine a_puti rfl pfX12_81_12 rfl ?_
    refine a_s rfl rfl ?_
    exact a_zret rfl rfl rfl ⟨rfl, _, rfl, Rd.rs h⟩
  | true =>
    refine a_if_eq rfl (fun z => absurd z (by decide)) (fun _ => ?_)
    refine a_s rfl rfl ?_
    refine a_zret rfl rfl rfl ⟨rfl, J, rfl, ?_⟩
    rw [if_pos rfl, en_1 (of_decide_eq_true c).1]
    exact h
theorem h_sign {c : Nat} (hbt : BtT (I 426)) (hc : c ∈ [40, 41, 43, 59, 60, 62]) (hq : Pp e p I) (hb : rn (I 426) e 4 p = b) : Sp S m_X12_sign 14 0 0 [.ref 420, .int (nI c)] (hp I L w1 w2 t) (fun v h' => v = some (.int (bI (sg (I 426) e b (nI c)))) ∧ ∃ J, h' = hp J L w1 w2 t ∧ Rd e p b (if sg (I 426) e b (nI c) = true then en (I 426) e b else b) I J) nX := by
  have he4 := Pp.e4 hq
  refine Sp_of ok_X12_sign rfl rfl ?_
  show AW S m_X12_sign 14 _ _ 0 0 0 [some (.ref 420), some (.int (nI c))] [] (hp I L w1 w2 t)
  refine a_l0 rfl rfl rfl ?_
  refine a_gV rfl lX12_94 mo_X12_blanks (h_blanks hq) rfl rfl rfl ⟨12, _, rfl, rfl, rfl⟩ rfl (fun v' h' hv => ?_)
  obtain ⟨rfl, J, rfl, h⟩ := hv
  rw [hb] at h
  refine a_l0 rfl rfl rfl ?_
  refine a_l1 rfl rfl rfl ?_
  refine a_l1 rfl rfl rfl ?_
  refine a_eV1 rfl lX12_87 mo_X12_isAt (h_isAt (Rd.pp h)) rfl rfl rfl ⟨12, _, rfl, rfl, rfl⟩ rfl ?_
  refine a_top (y := bI (sg (I 426) e b (nI c))) (by rw [Rd.T h]; exact congrArg bI (at_s hbt he4 hc)) ?_
  cases cs : sg (I 426) e b (nI c) with
  | true =>
    refine a_if_ne rfl (fun _ => ?_) (fun z => absurd z (by decide))
    refine a_l0 rfl rfl rfl ?_
    refine a_s rfl rfl ?_
    refine a_geti rfl gfX12_81_12 rfl ?_
    refine a_top (y := nI b) (Pp.pu (Rd.pp h)) ?_
    refine a_s rfl rfl ?_
    refine a_s rfl rfl ?_
    refine a_top (y := nI (b + 1)) ((nI_succ _).symm) ?_
    refine a_puti rfl pfX12_81_12 rfl ?_
    refine a_s rfl rfl ?_
    refine a_zret rfl rfl rfl ⟨rfl, _, rfl, ?_⟩
    rw [if_pos rfl, en_3 (of_decide_eq_true cs).1]
    exact Rd.up h (sg_lt cs)
  | false =>
    refine a_if_ne rfl (fun z => absurd rfl z) (fun _ => ?_)
    refine a_s rfl rfl ?_
    exact a_zret rfl rfl rfl ⟨rfl, J, rfl, h⟩
theorem h_number (hq : Pp e p I) (hb : rn (I 426) e 4 p = b) {x y : Int32} (h0 : 0 ≤ x) : Sp S m_X12_number 14 0 0 [.ref 420, .int x, .int y] (hp I L w1 w2 t) (fun v h' => v = some (.int (nm (I 426) e b x y)) ∧ ∃ J, h' = hp J L w1 w2 t ∧ Rd e p b (rn (I 426) e 2 b) I J) nX := by
  refine Sp_of ok_X12_number rfl rfl ?_
  show AW S m_X12_number 14 _ _ 0 0 0 [some (.ref 420), some (.int x), some (.int y), none] [] (hp I L w1 w2 t)
  refine a_l0 rfl rfl rfl ?_
  refine a_gV rfl lX12_94 mo_X12_blanks (h_blanks hq) rfl rfl rfl ⟨12, _, rfl, rfl, rfl⟩ rfl (fun v' h' hv => ?_)
  obtain ⟨rfl, J1, rfl, h1⟩ := hv
  rw [hb] at h1
  refine a_s rfl rfl ?_
  refine a_s3 rfl rfl rfl rfl rfl rfl ?_
  refine a_inv (n := e - b) (fun m ls h => ∃ J p', ls = [some (.ref 420), some (.int x), some (.int y), some (.int (nuF (I 426) b (if p' - b < 3 then p' - b else 3)))] ∧ h = hp J L w1 w2 t ∧ Rd e p b p' I J ∧ rn (I 426) e 2 b = rn (I 426) e 2 p' ∧ m = e - p') ⟨J1, b, by rw [Nat.sub_self]; rfl, rfl, h1, rfl, rfl⟩ ?_
  rintro m _ _ ⟨J, p', rfl, rfl, h, hr, hm⟩ ih
  have hbp := Rd.bp h
  have hpe := Pp.le (Rd.pp h)
  have he4 := Pp.e4 (Rd.pp h)
  refine a_l0 rfl rfl rfl ?_
  refine a_s rfl rfl ?_
  refine a_s rfl rfl ?_
  refine a_eV1 rfl lX12_87 mo_X12_isAt (h_isAt (Rd.pp h)) rfl rfl rfl ⟨12, _, rfl, rfl, rfl⟩ rfl ?_
  refine a_top (y := bI (isK (I 426) e 2 p')) (by rw [Rd.T h]; exact congrArg bI at_d) ?_
  cases ck : isK (I 426) e 2 p' with
  | false =>
    refine a_if_eq rfl (fun _ => ?_) (fun z => absurd rfl z)
    rw [rn_f ck] at hr
    have no : nm (I 426) e b x y = -1 → AW S m_X12_number 14 (fun v h' => v = some (.int (nm (I 426) e b x y)) ∧ ∃ J, h' = hp J L w1 w2 t ∧ Rd e p b (rn (I 426) e 2 b) I J) nX 0 0 99 [some (.ref 420), some (.int x), some (.int y), some (.int (nuF (I 426) b (if p' - b < 3 then p' - b else 3)))] [] (hp J L w1 w2 t) := by
      intro hn
      refine a_s rfl rfl ?_
      refine a_goto rfl ?_
      refine a_iret rfl rfl ⟨by rw [hn], J, rfl, ?_⟩
      rw [hr]
      exact h
    refine a_l0 rfl rfl rfl ?_
    refine a_geti rfl gfX12_81_12 rfl ?_
    refine a_top (y := nI p') (Pp.pu (Rd.pp h)) ?_
    refine a_l0 rfl rfl rfl ?_
    refine a_geti rfl gfX12_91_12 rfl ?_
    refine a_top (y := nI b) (Rd.be h) ?_
    refine a_ic_eq rfl (fun c => no (if_neg fun z => ?_)) (fun cne => ?_)
    · have c := nI_inj (by omega) (by omega) c
      have := rn_t (kd_isK (by decide) z.1)
      have h9 := rn_ge (T := I 426) (e := e) (k := 2) (p := b + 1)
      omega
    have hlt : b < p' := by
      rcases Nat.lt_or_ge b p' with g | g
      · exact g
      · exact absurd (congrArg nI (show p' = b by omega)) cne
    have hk2 : kd (I 426) e b = 2 := by
      have h9 := rn_all (T := I 426) (e := e) (k := 2) (p := b) (q := b) (Nat.le_refl _) (by omega)
      exact (kd_lt (isK_lt h9)).trans (isK_kc h9)
    have een : en (I 426) e b = p' := (en_2 hk2).trans hr
    refine a_l0 rfl rfl rfl ?_
    refine a_geti rfl gfX12_81_12 rfl ?_
    refine a_top (y := nI p') (Pp.pu (Rd.pp h)) ?_
    refine a_l0 rfl rfl rfl ?_
    refine a_geti rfl gfX12_91_12 rfl ?_
    refine a_top (y := nI b) (Rd.be h) ?_
    refine a_s rfl rfl ?_
    refine a_top (y := nI (p' - b)) (nI_sub hbp) ?_
    refine a_s rfl rfl ?_
    refine a_ic_gt rfl (fun c => no (if_neg fun z => ?_)) (fun c3 => ?_)
    · have c := (nI_lt_iff (a := 3) (b := p' - b) (by decide) (by omega)).mp c
      have z2 := z.2.1
      rw [vl_2 hk2, een, if_pos c] at z2
      exact absurd (Int32.le_trans h0 z2) (by decide)
    have h3 : p' - b ≤ 3 := Nat.not_lt.mp fun z => c3 ((nI_lt_iff (a := 3) (b := p' - b) (by decide) (by omega)).mpr z)
    have ev : vl (I 426) e b = nuF (I 426) b (if p' - b < 3 then p' - b else 3) := by
      rw [vl_2 hk2, een, if_neg (by omega)]
      by_cases c : p' - b < 3
      · rw [if_pos c]
      · rw [if_neg c, show p' - b = 3 by omega]
    rw [← ev]
    rw [← ev] at no
    refine a_l3 rfl rfl rfl ?_
    refine a_l1 rfl rfl rfl ?_
    refine a_ic_lt rfl (fun c => no (if_neg fun z => absurd c (Int32.not_lt.mpr z.2.1))) (fun c1 => ?_)
    refine a_l3 rfl rfl rfl ?_
    refine a_l2 rfl rfl rfl ?_
    refine a_ic_le rfl (fun c2 => ?_) (fun c2 => no (if_neg fun z => c2 z.2.2))
    refine a_l3 rfl rfl rfl ?_
    refine a_iret rfl rfl ⟨?_, J, rfl, ?_⟩
    · rw [show nm (I 426) e b x y = vl (I 426) e b from if_pos ⟨hk2, Int32.not_lt.mp c1, c2⟩]
    · rw [hr]
      exact h
  | true =>
    refine a_if_eq rfl (fun z => absurd z (by decide)) (fun _ => ?_)
    have hb' := isK_lt ck
    have back : ∀ a' : Int32, a' = nuF (I 426) b (if p' + 1 - b < 3 then p' + 1 - b else 3) → AW S m_X12_number 14 (fun v h' => v = some (.int (nm (I 426) e b x y)) ∧ ∃ J, h' = hp J L w1 w2 t ∧ Rd e p b (rn (I 426) e 2 b) I J) nX 0 0 51 [some (.ref 420), some (.int x), some (.int y), some (.int (nuF (I 426) b (if p' - b < 3 then p' - b else 3)))] [.int a'] (hp J L w1 w2 t) := by
      intro a' ha'
      refine a_s3 rfl rfl rfl rfl rfl rfl ?_
      refine a_l0 rfl rfl rfl ?_
      refine a_s rfl rfl ?_
      refine a_geti rfl gfX12_81_12 rfl ?_
      refine a_top (y := nI p') (Pp.pu (Rd.pp h)) ?_
      refine a_s rfl rfl ?_
      refine a_s rfl rfl ?_
      refine a_top (y := nI (p' + 1)) ((nI_succ _).symm) ?_
      refine a_puti rfl pfX12_81_12 rfl ?_
      refine a_goto rfl ?_
      rw [ha']
      exact ih (e - (p' + 1)) _ _ (by omega) ⟨_, p' + 1, rfl, rfl, Rd.up h hb', hr.trans (rn_t ck), rfl⟩
    refine a_l0 rfl rfl rfl ?_
    refine a_geti rfl gfX12_81_12 rfl ?_
    refine a_top (y := nI p') (Pp.pu (Rd.pp h)) ?_
    refine a_l0 rfl rfl rfl ?_
    refine a_geti rfl gfX12_91_12 rfl ?_
    refine a_top (y := nI b) (Rd.be h) ?_
    refine a_s rfl rfl ?_
    refine a_top (y := nI (p' - b)) (nI_sub hbp) ?_
    refine a_s rfl rfl ?_
    refine a_ic_ge rfl (fun c => ?_) (fun c => ?_)
    · have h3 := nI_ge_of (b := 3) c (by omega) (by decide)
      refine a_l3 rfl rfl rfl ?_
      exact back _ (by rw [if_neg (by omega), if_neg (by omega)])
    · have h3 := nI_lt_of (b := 3) c (by omega) (by decide)
      refine a_s rfl rfl ?_
      refine a_l3 rfl rfl rfl ?_
      refine a_s rfl rfl ?_
      refine a_l0 rfl rfl rfl ?_
      refine a_getq rfl gfX12_29_12 rfl (rfl) ?_
      refine a_l0 rfl rfl rfl ?_
      refine a_geti rfl gfX12_81_12 rfl ?_
      refine a_top (y := nI p') (Pp.pu (Rd.pp h)) ?_
      refine a_baldv (v := I 426 p') rfl (n := 400) rfl (inI_nI (by omega) (by omega)) (by rw [nI_clamp (by omega), Rd.T h]) ?_
      refine a_s rfl rfl ?_
      refine a_s rfl rfl ?_
      refine a_s rfl rfl ?_
      refine a_goto rfl ?_
      refine back _ ?_
      rw [if_pos h3]
      have e1 : (if p' + 1 - b < 3 then p' + 1 - b else 3) = (p' - b) + 1 := by
        by_cases c4 : p' + 1 - b < 3
        · rw [if_pos c4]
          omega
        · rw [if_neg c4]
          omega
      rw [e1]
      show _ = nuF (I 426) b (p' - b) * 10 + I 426 (b + (p' - b)) - 48
      rw [show b + (p' - b) = p' by omega, Int32.mul_comm]
end T79g
end
