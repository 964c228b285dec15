/-! ===== the reference: conditions (printed by program) ===== -/
section T72
variable {S : aS} {I : Nat → Nat → Int32} {L : Nat → Nat → Int64} {w1 w2 t : Nat} {e p a n c : Nat} {s : List Bool}
set_option maxRecDepth 100000
theorem Dq.up13 {J : Nat → Nat → Int32} {x : Int32} (h : Dq e p a n s c J) : Dq e p a n s c (up2 J 420 13 x) := by
  refine ⟨?_, (up2_ne (Or.inr (by decide))).trans h.2.1, h.2.2.1, ?_⟩
  · unfold Pp
    rw [up2_ne (Or.inr (by decide)), up2_ne (Or.inr (by decide))]
    exact h.1
  · rw [up2_row (by decide)]
    exact h.2.2.2
theorem Cs.deep {p0 n0 p' n' c' : Nat} {s' : List Bool} {x y : Int32} {J K : Nat → Nat → Int32} (h : Cs e p0 n0 a s c I J p n) (hd : I 420 13 = x) (f : Fm (sY n) (up2 J 420 13 y) K) (hp' : p ≤ p') (gn : n ≤ n') (g : Dq e p' a n' s' c' K) : Cs e p0 n0 a s' c' I (up2 K 420 13 x) p' n' := ⟨Fm.up (Cs.fr h (Fm.tr (Fm.up Fm.rf rfl) f)) rfl, Nat.le_trans h.2.1 hp', up2_at.trans hd.symm, Nat.le_trans h.2.2.2.1 gn, Dq.up13 g⟩
theorem Cs.cc {p0 n0 p' n' c' : Nat} {s' : List Bool} {J K : Nat → Nat → Int32} (h : Cs e p0 n0 a s c I J p n) (g : Cs e p n a s' c' J K p' n') : Cs e p0 n0 a s' c' I K p' n' := Cs.st h g.1 g.2.1 g.2.2
theorem Cs.ln {p0 n0 : Nat} {J : Nat → Nat → Int32} (h : Cs e p0 n0 a s c I J p n) : n + c ≤ 400 := Dq.le (Cs.dq h)
theorem Cs.d {p0 n0 : Nat} {x : Int32} {J : Nat → Nat → Int32} (h : Cs e p0 n0 a s c I J p n) (hd : I 420 13 = x) : J 420 13 = x := h.2.2.1.trans hd
theorem r_X12_readAtom_6 (hw : WdS S) (hc : 1 ≤ c) (hl : s.length + 3 ≤ 24) (hd : I 420 13 = nI 6) (h : Dq e p a n s c I) : Sp S m_X12_readAtom 20 0 0 [.ref 420] (hp I L w1 w2 t) (QC e p n a (true :: s) c I L w1 w2 t) nX := by
  refine Sp_of ok_X12_readAtom rfl rfl ?_
  show AW S m_X12_readAtom 20 _ _ 0 0 0 [some (.ref 420), none] [] (hp I L w1 w2 t)
  refine a_l0 rfl rfl rfl ?_
  refine a_s rfl rfl ?_
  refine a_gV rfl lX12_187 mo_X12_sign (r_X12_sign (Dq.pp h)) rfl rfl rfl ⟨12, _, rfl, rfl, rfl⟩ rfl (fun v' h' hv => ?_)
  obtain ⟨z, b1, p1, J1, rfl, rfl, h1, hz⟩ := hv
  have C1 := Cs.rd (Cs.rf h) h1
  clear hz
  refine a_if_eq rfl (fun _ => ?_) (fun cz => ?_)
  rotate_left
  · refine a_l0 rfl rfl rfl ?_
    refine a_geti rfl gfX12_194_12 rfl ?_
    refine a_top (y := nI 6) (Cs.d C1 hd) ?_
    refine a_s rfl rfl ?_
    refine a_ic_ne rfl (fun c => absurd rfl c) (fun _ => ?_)
    refine a_s rfl rfl ?_
    exact a_zret rfl rfl rfl (QC.f0 C1)
  refine a_l0 rfl rfl rfl ?_
  refine a_ldcs (q := 130 + 21) rfl (hw.ld (i := 21) (by decide)) ?_
  refine a_gV rfl lX12_128 mo_X12_passes (r_X12_passes (k := 21) hw (by decide) (Cs.pp C1)) rfl rfl rfl ⟨12, _, rfl, rfl, rfl⟩ rfl (fun v' h' hv => ?_)
  obtain ⟨z2, b2, p2, J2, rfl, rfl, h2, hz2⟩ := hv
  refine a_if_eq rfl (fun _ => ?_) (fun cz2 => ?_)
  rotate_left
  · have C2 := Cs.rd1 C1 h2 (hz2 (bI_t cz2))
    refine a_l0 rfl rfl rfl ?_
    refine a_geti rfl gfX12_194_12 rfl ?_
    refine a_top (y := nI 6) (Cs.d C2 hd) ?_
    refine a_s rfl rfl ?_
    refine a_ic_ne rfl (fun c => absurd rfl c) (fun _ => ?_)
    refine a_s rfl rfl ?_
    exact a_zret rfl rfl rfl (QC.f0 C2)
  have C2 := Cs.rd C1 h2
  clear hz2
  refine a_l0 rfl rfl rfl ?_
  refine a_gV rfl lX12_205 mo_X12_readTag (r_X12_readTag hw (by omega) (Cs.dq C2)) rfl rfl rfl ⟨12, _, rfl, rfl, rfl⟩ rfl (fun v' h' hv => ?_)
  obtain ⟨z3, J3, p3, n3, rfl, rfl, ht3, hf3⟩ := hv
  refine a_if_eq rfl (fun cz3 => ?_) (fun cz3 => ?_)
  rotate_left
  · refine a_s rfl rfl ?_
    exact a_zret rfl rfl rfl (QC.yes (Cs.cc C2 (ht3 (bI_t cz3))))
  have C3 := Cs.cc C2 (hf3 (bI_f cz3))
  refine a_l0 rfl rfl rfl ?_
  refine a_gV rfl lX12_208 mo_X12_readSum (r_X12_readSum hw hc (by omega) (Cs.dq C3)) rfl rfl rfl ⟨12, _, rfl, rfl, rfl⟩ rfl (fun v' h' hv => ?_)
  obtain ⟨z4, J4, p4, n4, rfl, rfl, f4, hp4, hq4, hz4⟩ := hv
  refine a_if_ne rfl (fun cz4 => ?_) (fun _ => ?_)
  rotate_left
  · refine a_s rfl rfl ?_
    exact a_zret rfl rfl rfl (QC.fc C3 f4 hp4 hq4)
  have C4 := Cs.st C3 f4 hp4 (hz4 (bI_t cz4))
  have key : ∀ {z5 : Bool} {p' n' : Nat} {J : Nat → Nat → Int32}, Cs e p n a (false :: s) (c + 1) I J p' n' → AW S m_X12_readAtom 20 (QC e p n a (true :: s) c I L w1 w2 t) nX 0 0 152 [some (.ref 420), some (.int (bI z5))] [] (hp J L w1 w2 t) := by
    intro z5 p' n' J C
    refine a_l0 rfl rfl rfl ?_
    refine a_gV rfl lX12_208 mo_X12_readSum (r_X12_readSum hw (by omega) (by simp only [List.length_cons]; omega) (Cs.dq C)) rfl rfl rfl ⟨12, _, rfl, rfl, rfl⟩ rfl (fun v' h' hv => ?_)
    obtain ⟨z6, J6, p6, n6, rfl, rfl, f6, hp6, hq6, hz6⟩ := hv
    refine a_if_ne rfl (fun cz6 => ?_) (fun _ => ?_)
    rotate_left
    · refine a_s rfl rfl ?_
      exact a_zret rfl rfl rfl (QC.fc C f6 hp6 hq6)
    have C6 := Cs.st C f6 hp6 (hz6 (bI_t cz6))
    have hle := Cs.ln C6
    refine a_l0 rfl rfl rfl ?_
    refine a_l1 rfl rfl rfl ?_
    cases z5 with
    | false =>
      refine a_if_eq rfl (fun _ => ?_) (fun c => absurd rfl c)
      refine a_s rfl rfl ?_
      refine a_s rfl rfl ?_
      refine a_eV0 rfl lX12_180 mo_X12_emits (r_X12_emits (Dq.st (Cs.dq C6)) (by omega)) rfl rfl rfl ⟨12, _, rfl, rfl, rfl⟩ rfl ?_
      refine a_s rfl rfl ?_
      exact a_zret rfl rfl rfl (QC.yes (Cs.em (k := 12) (m := 0) C6 (by decide) (by decide) rfl (by simp only [List.length_cons]; omega)))
    | true =>
      refine a_if_eq rfl (fun c => absurd c (by decide)) (fun _ => ?_)
      refine a_s rfl rfl ?_
      refine a_goto rfl ?_
      refine a_s rfl rfl ?_
      refine a_eV0 rfl lX12_180 mo_X12_emits (r_X12_emits (Dq.st (Cs.dq C6)) (by omega)) rfl rfl rfl ⟨12, _, rfl, rfl, rfl⟩ rfl ?_
      refine a_s rfl rfl ?_
      exact a_zret rfl rfl rfl (QC.yes (Cs.em (k := 11) (m := 0) C6 (by decide) (by decide) rfl (by simp only [List.length_cons]; omega)))
  refine a_l0 rfl rfl rfl ?_
  refine a_s rfl rfl ?_
  refine a_gV rfl lX12_187 mo_X12_sign (r_X12_sign (Cs.pp C4)) rfl rfl rfl ⟨12, _, rfl, rfl, rfl⟩ rfl (fun v' h' hv => ?_)
  obtain ⟨z5, b5, p5, J5, rfl, rfl, h5, hz5⟩ := hv
  refine a_s1 rfl rfl rfl rfl rfl rfl ?_
  refine a_l1 rfl rfl rfl ?_
  refine a_if_ne rfl (fun cz5 => ?_) (fun _ => ?_)
  · exact key (Cs.rd1 C4 h5 (hz5 (bI_t cz5)))
  have C5 := Cs.rd C4 h5
  refine a_l0 rfl rfl rfl ?_
  refine a_s rfl rfl ?_
  refine a_gV rfl lX12_187 mo_X12_sign (r_X12_sign (Cs.pp C5)) rfl rfl rfl ⟨12, _, rfl, rfl, rfl⟩ rfl (fun v' h' hv => ?_)
  obtain ⟨z7, b7, p7, J7, rfl, rfl, h7, hz7⟩ := hv
  refine a_if_eq rfl (fun _ => ?_) (fun cz7 => ?_)
  · refine a_s rfl rfl ?_
    exact a_zret rfl rfl rfl (QC.f0 (Cs.rd C5 h7))
  · exact key (Cs.rd1 C5 h7 (hz7 (bI_t cz7)))
theorem r_X12_readAllOf_6 (hw : WdS S) (hc : 1 ≤ c) (hl : s.length + 4 ≤ 24) (hd : I 420 13 = nI 6) (h : Dq e p a n s c I) : Sp S m_X12_readAllOf 21 0 0 [.ref 420] (hp I L w1 w2 t) (QC e p n a (true :: s) c I L w1 w2 t) nX := by
  refine Sp_of ok_X12_readAllOf rfl rfl ?_
  show AW S m_X12_readAllOf 21 _ _ 0 0 0 [some (.ref 420)] [] (hp I L w1 w2 t)
  refine a_l0 rfl rfl rfl ?_
  refine a_gV rfl lX12_202 mo_X12_readAtom (r_X12_readAtom_6 hw hc (by omega) hd h) rfl rfl rfl ⟨12, _, rfl, rfl, rfl⟩ rfl (fun v' h' hv => ?_)
  obtain ⟨z, J1, p1, n1, rfl, rfl, f1, hp1, hq1, hz1⟩ := hv
  refine a_if_ne rfl (fun cz => ?_) (fun _ => ?_)
  rotate_left
  · refine a_s rfl rfl ?_
    exact a_zret rfl rfl rfl (QC.no f1 hp1 hq1)
  have C1 := Cs.st (Cs.rf h) f1 hp1 (hz1 (bI_t cz))
  refine a_inv (n := e - p1) (fun m ls h => ls = [some (.ref 420)] ∧ ∃ J p' n', h = hp J L w1 w2 t ∧ Cs e p n a (true :: s) c I J p' n' ∧ m = e - p') ⟨rfl, J1, p1, n1, rfl, C1, rfl⟩ ?_
  rintro m _ _ ⟨rfl, J, p', n', rfl, C, hm⟩ ih
  refine a_l0 rfl rfl rfl ?_
  refine a_ldcs (q := 130 + 20) rfl (hw.ld (i := 20) (by decide)) ?_
  refine a_gV rfl lX12_128 mo_X12_passes (r_X12_passes (k := 20) hw (by decide) (Cs.pp C)) rfl rfl rfl ⟨12, _, rfl, rfl, rfl⟩ rfl (fun v' h' hv => ?_)
  obtain ⟨z2, b2, p2, J2, rfl, rfl, h2, hz2⟩ := hv
  refine a_if_eq rfl (fun _ => ?_) (fun cz2 => ?_)
  · refine a_s rfl rfl ?_
    exact a_zret rfl rfl rfl (QC.yes (Cs.rd C h2))
  have hlt := hz2 (bI_t cz2)
  have C2 := Cs.rd1 C h2 hlt
  have q2 := Rd.pb h2
  have q3 := Pp.le (Cs.pp C2)
  refine a_l0 rfl rfl rfl ?_
  refine a_gV rfl lX12_202 mo_X12_readAtom (r_X12_readAtom_6 hw (by omega) (by simp only [List.length_cons]; omega) (Cs.d C2 hd) (Cs.dq C2)) rfl rfl rfl ⟨12, _, rfl, rfl, rfl⟩ rfl (fun v' h' hv => ?_)
  obtain ⟨z3, J3, p3, n3, rfl, rfl, f3, hp3, hq3, hz3⟩ := hv
  refine a_if_ne rfl (fun cz3 => ?_) (fun _ => ?_)
  rotate_left
  · refine a_s rfl rfl ?_
    exact a_zret rfl rfl rfl (QC.fc C2 f3 hp3 hq3)
  have C3 := Cs.st C2 f3 hp3 (hz3 (bI_t cz3))
  have hle := Cs.ln C3
  refine a_l0 rfl rfl rfl ?_
  refine a_s rfl rfl ?_
  refine a_s rfl rfl ?_
  refine a_eV0 rfl lX12_180 mo_X12_emits (r_X12_emits (Dq.st (Cs.dq C3)) (by omega)) rfl rfl rfl ⟨12, _, rfl, rfl, rfl⟩ rfl ?_
  refine a_goto rfl ?_
  exact ih (e - p3) _ _ (by omega) ⟨rfl, _, p3, n3 + 1, rfl, Cs.em (k := 14) (m := 0) C3 (by decide) (by decide) rfl (by simp only [List.length_cons]; omega), rfl⟩
theorem r_X12_readCond_6 (hw : WdS S) (hc : 1 ≤ c) (hl : s.length + 5 ≤ 24) (hd : I 420 13 = nI 6) (h : Dq e p a n s c I) : Sp S m_X12_readCond 22 0 0 [.ref 420] (hp I L w1 w2 t) (QC e p n a (true :: s) c I L w1 w2 t) nX := by
  refine Sp_of ok_X12_readCond rfl rfl ?_
  show AW S m_X12_readCond 22 _ _ 0 0 0 [some (.ref 420)] [] (hp I L w1 w2 t)
  refine a_l0 rfl rfl rfl ?_
  refine a_gV rfl lX12_213 mo_X12_readAllOf (r_X12_readAllOf_6 hw hc (by omega) hd h) rfl rfl rfl ⟨12, _, rfl, rfl, rfl⟩ rfl (fun v' h' hv => ?_)
  obtain ⟨z, J1, p1, n1, rfl, rfl, f1, hp1, hq1, hz1⟩ := hv
  refine a_if_ne rfl (fun cz => ?_) (fun _ => ?_)
  rotate_left
  · refine a_s rfl rfl ?_
    exact a_zret rfl rfl rfl (QC.no f1 hp1 hq1)
  have C1 := Cs.st (Cs.rf h) f1 hp1 (hz1 (bI_t cz))
  refine a_inv (n := e - p1) (fun m ls h => ls = [some (.ref 420)] ∧ ∃ J p' n', h = hp J L w1 w2 t ∧ Cs e p n a (true :: s) c I J p' n' ∧ m = e - p') ⟨rfl, J1, p1, n1, rfl, C1, rfl⟩ ?_
  rintro m _ _ ⟨rfl, J, p', n', rfl, C, hm⟩ ih
  refine a_l0 rfl rfl rfl ?_
  refine a_ldcs (q := 130 + 19) rfl (hw.ld (i := 19) (by decide)) ?_
  refine a_gV rfl lX12_128 mo_X12_passes (r_X12_passes (k := 19) hw (by decide) (Cs.pp C)) rfl rfl rfl ⟨12, _, rfl, rfl, rfl⟩ rfl (fun v' h' hv => ?_)
  obtain ⟨z2, b2, p2, J2, rfl, rfl, h2, hz2⟩ := hv
  refine a_if_eq rfl (fun _ => ?_) (fun cz2 => ?_)
  · refine a_s rfl rfl ?_
    exact a_zret rfl rfl rfl (QC.yes (Cs.rd C h2))
  have hlt := hz2 (bI_t cz2)
  have C2 := Cs.rd1 C h2 hlt
  have q2 := Rd.pb h2
  have q3 := Pp.le (Cs.pp C2)
  refine a_l0 rfl rfl rfl ?_
  refine a_gV rfl lX12_213 mo_X12_readAllOf (r_X12_readAllOf_6 hw (by omega) (by simp only [List.length_cons]; omega) (Cs.d C2 hd) (Cs.dq C2)) rfl rfl rfl ⟨12, _, rfl, rfl, rfl⟩ rfl (fun v' h' hv => ?_)
  obtain ⟨z3, J3, p3, n3, rfl, rfl, f3, hp3, hq3, hz3⟩ := hv
  refine a_if_ne rfl (fun cz3 => ?_) (fun _ => ?_)
  rotate_left
  · refine a_s rfl rfl ?_
    exact a_zret rfl rfl rfl (QC.fc C2 f3 hp3 hq3)
  have C3 := Cs.st C2 f3 hp3 (hz3 (bI_t cz3))
  have hle := Cs.ln C3
  refine a_l0 rfl rfl rfl ?_
  refine a_s rfl rfl ?_
  refine a_s rfl rfl ?_
  refine a_eV0 rfl lX12_180 mo_X12_emits (r_X12_emits (Dq.st (Cs.dq C3)) (by omega)) rfl rfl rfl ⟨12, _, rfl, rfl, rfl⟩ rfl ?_
  refine a_goto rfl ?_
  exact ih (e - p3) _ _ (by omega) ⟨rfl, _, p3, n3 + 1, rfl, Cs.em (k := 15) (m := 0) C3 (by decide) (by decide) rfl (by simp only [List.length_cons]; omega), rfl⟩
theorem r_X12_readAtom_5 (hw : WdS S) (hc : 1 ≤ c) (hl : s.length + 5 ≤ 24) (hd : I 420 13 = nI 5) (h : Dq e p a n s c I) : Sp S m_X12_readAtom 23 0 0 [.ref 420] (hp I L w1 w2 t) (QC e p n a (true :: s) c I L w1 w2 t) nX := by
  refine Sp_of ok_X12_readAtom rfl rfl ?_
  show AW S m_X12_readAtom 23 _ _ 0 0 0 [some (.ref 420), none] [] (hp I L w1 w2 t)
  refine a_l0 rfl rfl rfl ?_
  refine a_s rfl rfl ?_
  refine a_gV rfl lX12_187 mo_X12_sign (r_X12_sign (Dq.pp h)) rfl rfl rfl ⟨12, _, rfl, rfl, rfl⟩ rfl (fun v' h' hv => ?_)
  obtain ⟨z, b1, p1, J1, rfl, rfl, h1, hz⟩ := hv
  have C1 := Cs.rd (Cs.rf h) h1
  clear hz
  refine a_if_eq rfl (fun _ => ?_) (fun cz => ?_)
  rotate_left
  · refine a_l0 rfl rfl rfl ?_
    refine a_geti rfl gfX12_194_12 rfl ?_
    refine a_top (y := nI 5) (Cs.d C1 hd) ?_
    refine a_s rfl rfl ?_
    refine a_ic_ne rfl (fun _ => ?_) (fun c => absurd c (by decide))
    refine a_l0 rfl rfl rfl ?_
    refine a_s rfl rfl ?_
    refine a_geti rfl gfX12_194_12 rfl ?_
    refine a_top (y := nI 5) (Cs.d C1 hd) ?_
    refine a_s rfl rfl ?_
    refine a_s rfl rfl ?_
    refine a_top (y := nI 6) (rfl) ?_
    refine a_puti rfl pfX12_194_12 rfl ?_
    refine a_l0 rfl rfl rfl ?_
    refine a_gV rfl lX12_197 mo_X12_readCond (r_X12_readCond_6 hw (by omega) (by omega) up2_at (Dq.up13 (Cs.dq C1))) rfl rfl rfl ⟨12, _, rfl, rfl, rfl⟩ rfl (fun v' h' hv => ?_)
    obtain ⟨z9, J9, p9, n9, rfl, rfl, f9, hp9, hq9, hz9⟩ := hv
    refine a_if_ne rfl (fun cz9 => ?_) (fun _ => ?_)
    rotate_left
    · refine a_s rfl rfl ?_
      exact a_zret rfl rfl rfl (QC.fc C1 (Fm.tr (Fm.up Fm.rf rfl) f9) hp9 hq9)
    obtain ⟨g13, gn, gq⟩ := hz9 (bI_t cz9)
    refine a_l0 rfl rfl rfl ?_
    refine a_s rfl rfl ?_
    refine a_geti rfl gfX12_194_12 rfl ?_
    refine a_top (y := nI 6) (g13.trans up2_at) ?_
    refine a_s rfl rfl ?_
    refine a_s rfl rfl ?_
    refine a_top (y := nI 5) (rfl) ?_
    refine a_puti rfl pfX12_194_12 rfl ?_
    have C9 := Cs.deep C1 hd f9 hp9 gn gq
    refine a_l0 rfl rfl rfl ?_
    refine a_s rfl rfl ?_
    refine a_gV rfl lX12_187 mo_X12_sign (r_X12_sign (Cs.pp C9)) rfl rfl rfl ⟨12, _, rfl, rfl, rfl⟩ rfl (fun v' h' hv => ?_)
    obtain ⟨z3, b3, p3, J3, rfl, rfl, h3, -⟩ := hv
    cases z3 with
    | false => exact a_zret rfl rfl rfl (QC.f0 (Cs.rd C9 h3))
    | true => exact a_zret rfl rfl rfl (QC.yes (Cs.rd C9 h3))
  refine a_l0 rfl rfl rfl ?_
  refine a_ldcs (q := 130 + 21) rfl (hw.ld (i := 21) (by decide)) ?_
  refine a_gV rfl lX12_128 mo_X12_passes (r_X12_passes (k := 21) hw (by decide) (Cs.pp C1)) rfl rfl rfl ⟨12, _, rfl, rfl, rfl⟩ rfl (fun v' h' hv => ?_)
  obtain ⟨z2, b2, p2, J2, rfl, rfl, h2, hz2⟩ := hv
  refine a_if_eq rfl (fun _ => ?_) (fun cz2 => ?_)
  rotate_left
  · have C2 := Cs.rd1 C1 h2 (hz2 (bI_t cz2))
    refine a_l0 rfl rfl rfl ?_
    refine a_geti rfl gfX12_194_12 rfl ?_
    refine a_top (y := nI 5) (Cs.d C2 hd) ?_
    refine a_s rfl rfl ?_
    refine a_ic_ne rfl (fun _ => ?_) (fun c => absurd c (by decide))
    refine a_l0 rfl rfl rfl ?_
    refine a_s rfl rfl ?_
    refine a_geti rfl gfX12_194_12 rfl ?_
    refine a_top (y := nI 5) (Cs.d C2 hd) ?_
    refine a_s rfl rfl ?_
    refine a_s rfl rfl ?_
    refine a_top (y := nI 6) (rfl) ?_
    refine a_puti rfl pfX12_194_12 rfl ?_
    refine a_l0 rfl rfl rfl ?_
    refine a_gV rfl lX12_202 mo_X12_readAtom (r_X12_readAtom_6 hw (by omega) (by omega) up2_at (Dq.up13 (Cs.dq C2))) rfl rfl rfl ⟨12, _, rfl, rfl, rfl⟩ rfl (fun v' h' hv => ?_)
    obtain ⟨z9, J9, p9, n9, rfl, rfl, f9, hp9, hq9, hz9⟩ := hv
    refine a_if_ne rfl (fun cz9 => ?_) (fun _ => ?_)
    rotate_left
    · refine a_s rfl rfl ?_
      exact a_zret rfl rfl rfl (QC.fc C2 (Fm.tr (Fm.up Fm.rf rfl) f9) hp9 hq9)
    obtain ⟨g13, gn, gq⟩ := hz9 (bI_t cz9)
    refine a_l0 rfl rfl rfl ?_
    refine a_s rfl rfl ?_
    refine a_geti rfl gfX12_194_12 rfl ?_
    refine a_top (y := nI 6) (g13.trans up2_at) ?_
    refine a_s rfl rfl ?_
    refine a_s rfl rfl ?_
    refine a_top (y := nI 5) (rfl) ?_
    refine a_puti rfl pfX12_194_12 rfl ?_
    have C9 := Cs.deep C2 hd f9 hp9 gn gq
    have hle := Cs.ln C9
    refine a_l0 rfl rfl rfl ?_
    refine a_s rfl rfl ?_
    refine a_s rfl rfl ?_
    refine a_eV0 rfl lX12_180 mo_X12_emits (r_X12_emits (Dq.st (Cs.dq C9)) (by omega)) rfl rfl rfl ⟨12, _, rfl, rfl, rfl⟩ rfl ?_
    refine a_s rfl rfl ?_
    exact a_zret rfl rfl rfl (QC.yes (Cs.em (k := 13) (m := 0) C9 (by decide) (by decide) rfl (by simp only [List.length_cons]; omega)))
  have C2 := Cs.rd C1 h2
  clear hz2
  refine a_l0 rfl rfl rfl ?_
  refine a_gV rfl lX12_205 mo_X12_readTag (r_X12_readTag hw (by omega) (Cs.dq C2)) rfl rfl rfl ⟨12, _, rfl, rfl, rfl⟩ rfl (fun v' h' hv => ?_)
  obtain ⟨z3, J3, p3, n3, rfl, rfl, ht3, hf3⟩ := hv
  refine a_if_eq rfl (fun cz3 => ?_) (fun cz3 => ?_)
  rotate_left
  · refine a_s rfl rfl ?_
    exact a_zret rfl rfl rfl (QC.yes (Cs.cc C2 (ht3 (bI_t cz3))))
  have C3 := Cs.cc C2 (hf3 (bI_f cz3))
  refine a_l0 rfl rfl rfl ?_
  refine a_gV rfl lX12_208 mo_X12_readSum (r_X12_readSum hw hc (by omega) (Cs.dq C3)) rfl rfl rfl ⟨12, _, rfl, rfl, rfl⟩ rfl (fun v' h' hv => ?_)
  obtain ⟨z4, J4, p4, n4, rfl, rfl, f4, hp4, hq4, hz4⟩ := hv
  refine a_if_ne rfl (fun cz4 => ?_) (fun _ => ?_)
  rotate_left
  · refine a_s rfl rfl ?_
    exact a_zret rfl rfl rfl (QC.fc C3 f4 hp4 hq4)
  have C4 := Cs.st C3 f4 hp4 (hz4 (bI_t cz4))
  have key : ∀ {z5 : Bool} {p' n' : Nat} {J : Nat → Nat → Int32}, Cs e p n a (false :: s) (c + 1) I J p' n' → AW S m_X12_readAtom 23 (QC e p n a (true :: s) c I L w1 w2 t) nX 0 0 152 [some (.ref 420), some (.int (bI z5))] [] (hp J L w1 w2 t) := by
    intro z5 p' n' J C
    refine a_l0 rfl rfl rfl ?_
    refine a_gV rfl lX12_208 mo_X12_readSum (r_X12_readSum hw (by omega) (by simp only [List.length_cons]; omega) (Cs.dq C)) rfl rfl rfl ⟨12, _, rfl, rfl, rfl⟩ rfl (fun v' h' hv => ?_)
    obtain ⟨z6, J6, p6, n6, rfl, rfl, f6, hp6, hq6, hz6⟩ := hv
    refine a_if_ne rfl (fun cz6 => ?_) (fun _ => ?_)
    rotate_left
    · refine a_s rfl rfl ?_
      exact a_zret rfl rfl rfl (QC.fc C f6 hp6 hq6)
    have C6 := Cs.st C f6 hp6 (hz6 (bI_t cz6))
    have hle := Cs.ln C6
    refine a_l0 rfl rfl rfl ?_
    refine a_l1 rfl rfl rfl ?_
    cases z5 with
    | false =>
      refine a_if_eq rfl (fun _ => ?_) (fun c => absurd rfl c)
      refine a_s rfl rfl ?_
      refine a_s rfl rfl ?_
      refine a_eV0 rfl lX12_180 mo_X12_emits (r_X12_emits (Dq.st (Cs.dq C6)) (by omega)) rfl rfl rfl ⟨12, _, rfl, rfl, rfl⟩ rfl ?_
      refine a_s rfl rfl ?_
      exact a_zret rfl rfl rfl (QC.yes (Cs.em (k := 12) (m := 0) C6 (by decide) (by decide) rfl (by simp only [List.length_cons]; omega)))
    | true =>
      refine a_if_eq rfl (fun c => absurd c (by decide)) (fun _ => ?_)
      refine a_s rfl rfl ?_
      refine a_goto rfl ?_
      refine a_s rfl rfl ?_
      refine a_eV0 rfl lX12_180 mo_X12_emits (r_X12_emits (Dq.st (Cs.dq C6)) (by omega)) rfl rfl rfl ⟨12, _, rfl, rfl, rfl⟩ rfl ?_
      refine a_s rfl rfl ?_
      exact a_zret rfl rfl rfl (QC.yes (Cs.em (k := 11) (m := 0) C6 (by decide) (by decide) rfl (by simp only [List.length_cons]; omega)))
  refine a_l0 rfl rfl rfl ?_
  refine a_s rfl rfl ?_
  refine a_gV rfl lX12_187 mo_X12_sign (r_X12_sign (Cs.pp C4)) rfl rfl rfl ⟨12, _, rfl, rfl, rfl⟩ rfl (fun v' h' hv => ?_)
  obtain ⟨z5, b5, p5, J5, rfl, rfl, h5, hz5⟩ := hv
  refine a_s1 rfl rfl rfl rfl rfl rfl ?_
  refine a_l1 rfl rfl rfl ?_
  refine a_if_ne rfl (fun cz5 => ?_) (fun _ => ?_)
  · exact key (Cs.rd1 C4 h5 (hz5 (bI_t cz5)))
  have C5 := Cs.rd C4 h5
  refine a_l0 rfl rfl rfl ?_
  refine a_s rfl rfl ?_
  refine a_gV rfl lX12_187 mo_X12_sign (r_X12_sign (Cs.pp C5)) rfl rfl rfl ⟨12, _, rfl, rfl, rfl⟩ rfl (fun v' h' hv => ?_)
  obtain ⟨z7, b7, p7, J7, rfl, rfl, h7, hz7⟩ := hv
  refine a_if_eq rfl (fun _ => ?_) (fun cz7 => ?_)
  · refine a_s rfl rfl ?_
    exact a_zret rfl rfl rfl (QC.f0 (Cs.rd C5 h7))
  · exact key (Cs.rd1 C5 h7 (hz7 (bI_t cz7)))
theorem r_X12_readAllOf_5 (hw : WdS S) (hc : 1 ≤ c) (hl : s.length + 6 ≤ 24) (hd : I 420 13 = nI 5) (h : Dq e p a n s c I) : Sp S m_X12_readAllOf 24 0 0 [.ref 420] (hp I L w1 w2 t) (QC e p n a (true :: s) c I L w1 w2 t) nX := by
  refine Sp_of ok_X12_readAllOf rfl rfl ?_
  show AW S m_X12_readAllOf 24 _ _ 0 0 0 [some (.ref 420)] [] (hp I L w1 w2 t)
  refine a_l0 rfl rfl rfl ?_
  refine a_gV rfl lX12_202 mo_X12_readAtom (r_X12_readAtom_5 hw hc (by omega) hd h) rfl rfl rfl ⟨12, _, rfl, rfl, rfl⟩ rfl (fun v' h' hv => ?_)
  obtain ⟨z, J1, p1, n1, rfl, rfl, f1, hp1, hq1, hz1⟩ := hv
  refine a_if_ne rfl (fun cz => ?_) (fun _ => ?_)
  rotate_left
  · refine a_s rfl rfl ?_
    exact a_zret rfl rfl rfl (QC.no f1 hp1 hq1)
  have C1 := Cs.st (Cs.rf h) f1 hp1 (hz1 (bI_t cz))
  refine a_inv (n := e - p1) (fun m ls h => ls = [some (.ref 420)] ∧ ∃ J p' n', h = hp J L w1 w2 t ∧ Cs e p n a (true :: s) c I J p' n' ∧ m = e - p') ⟨rfl, J1, p1, n1, rfl, C1, rfl⟩ ?_
  rintro m _ _ ⟨rfl, J, p', n', rfl, C, hm⟩ ih
  refine a_l0 rfl rfl rfl ?_
  refine a_ldcs (q := 130 + 20) rfl (hw.ld (i := 20) (by decide)) ?_
  refine a_gV rfl lX12_128 mo_X12_passes (r_X12_passes (k := 20) hw (by decide) (Cs.pp C)) rfl rfl rfl ⟨12, _, rfl, rfl, rfl⟩ rfl (fun v' h' hv => ?_)
  obtain ⟨z2, b2, p2, J2, rfl, rfl, h2, hz2⟩ := hv
  refine a_if_eq rfl (fun _ => ?_) (fun cz2 => ?_)
  · refine a_s rfl rfl ?_
    exact a_zret rfl rfl rfl (QC.yes (Cs.rd C h2))
  have hlt := hz2 (bI_t cz2)
  have C2 := Cs.rd1 C h2 hlt
  have q2 := Rd.pb h2
  have q3 := Pp.le (Cs.pp C2)
  refine a_l0 rfl rfl rfl ?_
  refine a_gV rfl lX12_202 mo_X12_readAtom (r_X12_readAtom_5 hw (by omega) (by simp only [List.length_cons]; omega) (Cs.d C2 hd) (Cs.dq C2)) rfl rfl rfl ⟨12, _, rfl, rfl, rfl⟩ rfl (fun v' h' hv => ?_)
  obtain ⟨z3, J3, p3, n3, rfl, rfl, f3, hp3, hq3, hz3⟩ := hv
  refine a_if_ne rfl (fun cz3 => ?_) (fun _ => ?_)
  rotate_left
  · refine a_s rfl rfl ?_
    exact a_zret rfl rfl rfl (QC.fc C2 f3 hp3 hq3)
  have C3 := Cs.st C2 f3 hp3 (hz3 (bI_t cz3))
  have hle := Cs.ln C3
  refine a_l0 rfl rfl rfl ?_
  refine a_s rfl rfl ?_
  refine a_s rfl rfl ?_
  refine a_eV0 rfl lX12_180 mo_X12_emits (r_X12_emits (Dq.st (Cs.dq C3)) (by omega)) rfl rfl rfl ⟨12, _, rfl, rfl, rfl⟩ rfl ?_
  refine a_goto rfl ?_
  exact ih (e - p3) _ _ (by omega) ⟨rfl, _, p3, n3 + 1, rfl, Cs.em (k := 14) (m := 0) C3 (by decide) (by decide) rfl (by simp only [List.length_cons]; omega), rfl⟩
theorem r_X12_readCond_5 (hw : WdS S) (hc : 1 ≤ c) (hl : s.length + 7 ≤ 24) (hd : I 420 13 = nI 5) (h : Dq e p a n s c I) : Sp S m_X12_readCond 25 0 0 [.ref 420] (hp I L w1 w2 t) (QC e p n a (true :: s) c I L w1 w2 t) nX := by
  refine Sp_of ok_X12_readCond rfl rfl ?_
  show AW S m_X12_readCond 25 _ _ 0 0 0 [some (.ref 420)] [] (hp I L w1 w2 t)
  refine a_l0 rfl rfl rfl ?_
  refine a_gV rfl lX12_213 mo_X12_readAllOf (r_X12_readAllOf_5 hw hc (by omega) hd h) rfl rfl rfl ⟨12, _, rfl, rfl, rfl⟩ rfl (fun v' h' hv => ?_)
  obtain ⟨z, J1, p1, n1, rfl, rfl, f1, hp1, hq1, hz1⟩ := hv
  refine a_if_ne rfl (fun cz => ?_) (fun _ => ?_)
  rotate_left
  · refine a_s rfl rfl ?_
    exact a_zret rfl rfl rfl (QC.no f1 hp1 hq1)
  have C1 := Cs.st (Cs.rf h) f1 hp1 (hz1 (bI_t cz))
  refine a_inv (n := e - p1) (fun m ls h => ls = [some (.ref 420)] ∧ ∃ J p' n', h = hp J L w1 w2 t ∧ Cs e p n a (true :: s) c I J p' n' ∧ m = e - p') ⟨rfl, J1, p1, n1, rfl, C1, rfl⟩ ?_
  rintro m _ _ ⟨rfl, J, p', n', rfl, C, hm⟩ ih
  refine a_l0 rfl rfl rfl ?_
  refine a_ldcs (q := 130 + 19) rfl (hw.ld (i := 19) (by decide)) ?_
  refine a_gV rfl lX12_128 mo_X12_passes (r_X12_passes (k := 19) hw (by decide) (Cs.pp C)) rfl rfl rfl ⟨12, _, rfl, rfl, rfl⟩ rfl (fun v' h' hv => ?_)
  obtain ⟨z2, b2, p2, J2, rfl, rfl, h2, hz2⟩ := hv
  refine a_if_eq rfl (fun _ => ?_) (fun cz2 => ?_)
  · refine a_s rfl rfl ?_
    exact a_zret rfl rfl rfl (QC.yes (Cs.rd C h2))
  have hlt := hz2 (bI_t cz2)
  have C2 := Cs.rd1 C h2 hlt
  have q2 := Rd.pb h2
  have q3 := Pp.le (Cs.pp C2)
  refine a_l0 rfl rfl rfl ?_
  refine a_gV rfl lX12_213 mo_X12_readAllOf (r_X12_readAllOf_5 hw (by omega) (by simp only [List.length_cons]; omega) (Cs.d C2 hd) (Cs.dq C2)) rfl rfl rfl ⟨12, _, rfl, rfl, rfl⟩ rfl (fun v' h' hv => ?_)
  obtain ⟨z3, J3, p3, n3, rfl, rfl, f3, hp3, hq3, hz3⟩ := hv
  refine a_if_ne rfl (fun cz3 => ?_) (fun _ => ?_)
  rotate_left
  · refine a_s rfl rfl ?_
    exact a_zret rfl rfl rfl (QC.fc C2 f3 hp3 hq3)
  have C3 := Cs.st C2 f3 hp3 (hz3 (bI_t cz3))
  have hle := Cs.ln C3
  refine a_l0 rfl rfl rfl ?_
  refine a_s rfl rfl ?_
  refine a_s rfl rfl ?_
  refine a_eV0 rfl lX12_180 mo_X12_emits (r_X12_emits (Dq.st (Cs.dq C3)) (by omega)) rfl rfl rfl ⟨12, _, rfl, rfl, rfl⟩ rfl ?_
  refine a_goto rfl ?_
  exact ih (e - p3) _ _ (by omega) ⟨rfl, _, p3, n3 + 1, rfl, Cs.em (k := 15) (m := 0) C3 (by decide) (by decide) rfl (by simp only [List.length_cons]; omega), rfl⟩
theorem r_X12_readAtom_4 (hw : WdS S) (hc : 1 ≤ c) (hl : s.length + 7 ≤ 24) (hd : I 420 13 = nI 4) (h : Dq e p a n s c I) : Sp S m_X12_readAtom 26 0 0 [.ref 420] (hp I L w1 w2 t) (QC e p n a (true :: s) c I L w1 w2 t) nX := by
  refine Sp_of ok_X12_readAtom rfl rfl ?_
  show AW S m_X12_readAtom 26 _ _ 0 0 0 [some (.ref 420), none] [] (hp I L w1 w2 t)
  refine a_l0 rfl rfl rfl ?_
  refine a_s rfl rfl ?_
  refine a_gV rfl lX12_187 mo_X12_sign (r_X12_sign (Dq.pp h)) rfl rfl rfl ⟨12, _, rfl, rfl, rfl⟩ rfl (fun v' h' hv => ?_)
  obtain ⟨z, b1, p1, J1, rfl, rfl, h1, hz⟩ := hv
  have C1 := Cs.rd (Cs.rf h) h1
  clear hz
  refine a_if_eq rfl (fun _ => ?_) (fun cz => ?_)
  rotate_left
  · refine a_l0 rfl rfl rfl ?_
    refine a_geti rfl gfX12_194_12 rfl ?_
    refine a_top (y := nI 4) (Cs.d C1 hd) ?_
    refine a_s rfl rfl ?_
    refine a_ic_ne rfl (fun _ => ?_) (fun c => absurd c (by decide))
    refine a_l0 rfl rfl rfl ?_
    refine a_s rfl rfl ?_
    refine a_geti rfl gfX12_194_12 rfl ?_
    refine a_top (y := nI 4) (Cs.d C1 hd) ?_
    refine a_s rfl rfl ?_
    refine a_s rfl rfl ?_
    refine a_top (y := nI 5) (rfl) ?_
    refine a_puti rfl pfX12_194_12 rfl ?_
    refine a_l0 rfl rfl rfl ?_
    refine a_gV rfl lX12_197 mo_X12_readCond (r_X12_readCond_5 hw (by omega) (by omega) up2_at (Dq.up13 (Cs.dq C1))) rfl rfl rfl ⟨12, _, rfl, rfl, rfl⟩ rfl (fun v' h' hv => ?_)
    obtain ⟨z9, J9, p9, n9, rfl, rfl, f9, hp9, hq9, hz9⟩ := hv
    refine a_if_ne rfl (fun cz9 => ?_) (fun _ => ?_)
    rotate_left
    · refine a_s rfl rfl ?_
      exact a_zret rfl rfl rfl (QC.fc C1 (Fm.tr (Fm.up Fm.rf rfl) f9) hp9 hq9)
    obtain ⟨g13, gn, gq⟩ := hz9 (bI_t cz9)
    refine a_l0 rfl rfl rfl ?_
    refine a_s rfl rfl ?_
    refine a_geti rfl gfX12_194_12 rfl ?_
    refine a_top (y := nI 5) (g13.trans up2_at) ?_
    refine a_s rfl rfl ?_
    refine a_s rfl rfl ?_
    refine a_top (y := nI 4) (rfl) ?_
    refine a_puti rfl pfX12_194_12 rfl ?_
    have C9 := Cs.deep C1 hd f9 hp9 gn gq
    refine a_l0 rfl rfl rfl ?_
    refine a_s rfl rfl ?_
    refine a_gV rfl lX12_187 mo_X12_sign (r_X12_sign (Cs.pp C9)) rfl rfl rfl ⟨12, _, rfl, rfl, rfl⟩ rfl (fun v' h' hv => ?_)
    obtain ⟨z3, b3, p3, J3, rfl, rfl, h3, -⟩ := hv
    cases z3 with
    | false => exact a_zret rfl rfl rfl (QC.f0 (Cs.rd C9 h3))
    | true => exact a_zret rfl rfl rfl (QC.yes (Cs.rd C9 h3))
  refine a_l0 rfl rfl rfl ?_
  refine a_ldcs (q := 130 + 21) rfl (hw.ld (i := 21) (by decide)) ?_
  refine a_gV rfl lX12_128 mo_X12_passes (r_X12_passes (k := 21) hw (by decide) (Cs.pp C1)) rfl rfl rfl ⟨12, _, rfl, rfl, rfl⟩ rfl (fun v' h' hv => ?_)
  obtain ⟨z2, b2, p2, J2, rfl, rfl, h2, hz2⟩ := hv
  refine a_if_eq rfl (fun _ => ?_) (fun cz2 => ?_)
  rotate_left
  · have C2 := Cs.rd1 C1 h2 (hz2 (bI_t cz2))
    refine a_l0 rfl rfl rfl ?_
    refine a_geti rfl gfX12_194_12 rfl ?_
    refine a_top (y := nI 4) (Cs.d C2 hd) ?_
    refine a_s rfl rfl ?_
    refine a_ic_ne rfl (fun _ => ?_) (fun c => absurd c (by decide))
    refine a_l0 rfl rfl rfl ?_
    refine a_s rfl rfl ?_
    refine a_geti rfl gfX12_194_12 rfl ?_
    refine a_top (y := nI 4) (Cs.d C2 hd) ?_
    refine a_s rfl rfl ?_
    refine a_s rfl rfl ?_
    refine a_top (y := nI 5) (rfl) ?_
    refine a_puti rfl pfX12_194_12 rfl ?_
    refine a_l0 rfl rfl rfl ?_
    refine a_gV rfl lX12_202 mo_X12_readAtom (r_X12_readAtom_5 hw (by omega) (by omega) up2_at (Dq.up13 (Cs.dq C2))) rfl rfl rfl ⟨12, _, rfl, rfl, rfl⟩ rfl (fun v' h' hv => ?_)
    obtain ⟨z9, J9, p9, n9, rfl, rfl, f9, hp9, hq9, hz9⟩ := hv
    refine a_if_ne rfl (fun cz9 => ?_) (fun _ => ?_)
    rotate_left
    · refine a_s rfl rfl ?_
      exact a_zret rfl rfl rfl (QC.fc C2 (Fm.tr (Fm.up Fm.rf rfl) f9) hp9 hq9)
    obtain ⟨g13, gn, gq⟩ := hz9 (bI_t cz9)
    refine a_l0 rfl rfl rfl ?_
    refine a_s rfl rfl ?_
    refine a_geti rfl gfX12_194_12 rfl ?_
    refine a_top (y := nI 5) (g13.trans up2_at) ?_
    refine a_s rfl rfl ?_
    refine a_s rfl rfl ?_
    refine a_top (y := nI 4) (rfl) ?_
    refine a_puti rfl pfX12_194_12 rfl ?_
    have C9 := Cs.deep C2 hd f9 hp9 gn gq
    have hle := Cs.ln C9
    refine a_l0 rfl rfl rfl ?_
    refine a_s rfl rfl ?_
    refine a_s rfl rfl ?_
    refine a_eV0 rfl lX12_180 mo_X12_emits (r_X12_emits (Dq.st (Cs.dq C9)) (by omega)) rfl rfl rfl ⟨12, _, rfl, rfl, rfl⟩ rfl ?_
    refine a_s rfl rfl ?_
    exact a_zret rfl rfl rfl (QC.yes (Cs.em (k := 13) (m := 0) C9 (by decide) (by decide) rfl (by simp only [List.length_cons]; omega)))
  have C2 := Cs.rd C1 h2
  clear hz2
  refine a_l0 rfl rfl rfl ?_
  refine a_gV rfl lX12_205 mo_X12_readTag (r_X12_readTag hw (by omega) (Cs.dq C2)) rfl rfl rfl ⟨12, _, rfl, rfl, rfl⟩ rfl (fun v' h' hv => ?_)
  obtain ⟨z3, J3, p3, n3, rfl, rfl, ht3, hf3⟩ := hv
  refine a_if_eq rfl (fun cz3 => ?_) (fun cz3 => ?_)
  rotate_left
  · refine a_s rfl rfl ?_
    exact a_zret rfl rfl rfl (QC.yes (Cs.cc C2 (ht3 (bI_t cz3))))
  have C3 := Cs.cc C2 (hf3 (bI_f cz3))
  refine a_l0 rfl rfl rfl ?_
  refine a_gV rfl lX12_208 mo_X12_readSum (r_X12_readSum hw hc (by omega) (Cs.dq C3)) rfl rfl rfl ⟨12, _, rfl, rfl, rfl⟩ rfl (fun v' h' hv => ?_)
  obtain ⟨z4, J4, p4, n4, rfl, rfl, f4, hp4, hq4, hz4⟩ := hv
  refine a_if_ne rfl (fun cz4 => ?_) (fun _ => ?_)
  rotate_left
  · refine a_s rfl rfl ?_
    exact a_zret rfl rfl rfl (QC.fc C3 f4 hp4 hq4)
  have C4 := Cs.st C3 f4 hp4 (hz4 (bI_t cz4))
  have key : ∀ {z5 : Bool} {p' n' : Nat} {J : Nat → Nat → Int32}, Cs e p n a (false :: s) (c + 1) I J p' n' → AW S m_X12_readAtom 26 (QC e p n a (true :: s) c I L w1 w2 t) nX 0 0 152 [some (.ref 420), some (.int (bI z5))] [] (hp J L w1 w2 t) := by
    intro z5 p' n' J C
    refine a_l0 rfl rfl rfl ?_
    refine a_gV rfl lX12_208 mo_X12_readSum (r_X12_readSum hw (by omega) (by simp only [List.length_cons]; omega) (Cs.dq C)) rfl rfl rfl ⟨12, _, rfl, rfl, rfl⟩ rfl (fun v' h' hv => ?_)
    obtain ⟨z6, J6, p6, n6, rfl, rfl, f6, hp6, hq6, hz6⟩ := hv
    refine a_if_ne rfl (fun cz6 => ?_) (fun _ => ?_)
    rotate_left
    · refine a_s rfl rfl ?_
      exact a_zret rfl rfl rfl (QC.fc C f6 hp6 hq6)
    have C6 := Cs.st C f6 hp6 (hz6 (bI_t cz6))
    have hle := Cs.ln C6
    refine a_l0 rfl rfl rfl ?_
    refine a_l1 rfl rfl rfl ?_
    cases z5 with
    | false =>
      refine a_if_eq rfl (fun _ => ?_) (fun c => absurd rfl c)
      refine a_s rfl rfl ?_
      refine a_s rfl rfl ?_
      refine a_eV0 rfl lX12_180 mo_X12_emits (r_X12_emits (Dq.st (Cs.dq C6)) (by omega)) rfl rfl rfl ⟨12, _, rfl, rfl, rfl⟩ rfl ?_
      refine a_s rfl rfl ?_
      exact a_zret rfl rfl rfl (QC.yes (Cs.em (k := 12) (m := 0) C6 (by decide) (by decide) rfl (by simp only [List.length_cons]; omega)))
    | true =>
      refine a_if_eq rfl (fun c => absurd c (by decide)) (fun _ => ?_)
      refine a_s rfl rfl ?_
      refine a_goto rfl ?_
      refine a_s rfl rfl ?_
      refine a_eV0 rfl lX12_180 mo_X12_emits (r_X12_emits (Dq.st (Cs.dq C6)) (by omega)) rfl rfl rfl ⟨12, _, rfl, rfl, rfl⟩ rfl ?_
      refine a_s rfl rfl ?_
      exact a_zret rfl rfl rfl (QC.yes (Cs.em (k := 11) (m := 0) C6 (by decide) (by decide) rfl (by simp only [List.length_cons]; omega)))
  refine a_l0 rfl rfl rfl ?_
  refine a_s rfl rfl ?_
  refine a_gV rfl lX12_187 mo_X12_sign (r_X12_sign (Cs.pp C4)) rfl rfl rfl ⟨12, _, rfl, rfl, rfl⟩ rfl (fun v' h' hv => ?_)
  obtain ⟨z5, b5, p5, J5, rfl, rfl, h5, hz5⟩ := hv
  refine a_s1 rfl rfl rfl rfl rfl rfl ?_
  refine a_l1 rfl rfl rfl ?_
  refine a_if_ne rfl (fun cz5 => ?_) (fun _ => ?_)
  · exact key (Cs.rd1 C4 h5 (hz5 (bI_t cz5)))
  have C5 := Cs.rd C4 h5
  refine a_l0 rfl rfl rfl ?_
  refine a_s rfl rfl ?_
  refine a_gV rfl lX12_187 mo_X12_sign (r_X12_sign (Cs.pp C5)) rfl rfl rfl ⟨12, _, rfl, rfl, rfl⟩ rfl (fun v' h' hv => ?_)
  obtain ⟨z7, b7, p7, J7, rfl, rfl, h7, hz7⟩ := hv
  refine a_if_eq rfl (fun _ => ?_) (fun cz7 => ?_)
  · refine a_s rfl rfl ?_
    exact a_zret rfl rfl rfl (QC.f0 (Cs.rd C5 h7))
  · exact key (Cs.rd1 C5 h7 (hz7 (bI_t cz7)))
theorem r_X12_readAllOf_4 (hw : WdS S) (hc : 1 ≤ c) (hl : s.length + 8 ≤ 24) (hd : I 420 13 = nI 4) (h : Dq e p a n s c I) : Sp S m_X12_readAllOf 27 0 0 [.ref 420] (hp I L w1 w2 t) (QC e p n a (true :: s) c I L w1 w2 t) nX := by
  refine Sp_of ok_X12_readAllOf rfl rfl ?_
  show AW S m_X12_readAllOf 27 _ _ 0 0 0 [some (.ref 420)] [] (hp I L w1 w2 t)
  refine a_l0 rfl rfl rfl ?_
  refine a_gV rfl lX12_202 mo_X12_readAtom (r_X12_readAtom_4 hw hc (by omega) hd h) rfl rfl rfl ⟨12, _, rfl, rfl, rfl⟩ rfl (fun v' h' hv => ?_)
  obtain ⟨z, J1, p1, n1, rfl, rfl, f1, hp1, hq1, hz1⟩ := hv
  refine a_if_ne rfl (fun cz => ?_) (fun _ => ?_)
  rotate_left
  · refine a_s rfl rfl ?_
    exact a_zret rfl rfl rfl (QC.no f1 hp1 hq1)
  have C1 := Cs.st (Cs.rf h) f1 hp1 (hz1 (bI_t cz))
  refine a_inv (n := e - p1) (fun m ls h => ls = [some (.ref 420)] ∧ ∃ J p' n', h = hp J L w1 w2 t ∧ Cs e p n a (true :: s) c I J p' n' ∧ m = e - p') ⟨rfl, J1, p1, n1, rfl, C1, rfl⟩ ?_
  rintro m _ _ ⟨rfl, J, p', n', rfl, C, hm⟩ ih
  refine a_l0 rfl rfl rfl ?_
  refine a_ldcs (q := 130 + 20) rfl (hw.ld (i := 20) (by decide)) ?_
  refine a_gV rfl lX12_128 mo_X12_passes (r_X12_passes (k := 20) hw (by decide) (Cs.pp C)) rfl rfl rfl ⟨12, _, rfl, rfl, rfl⟩ rfl (fun v' h' hv => ?_)
  obtain ⟨z2, b2, p2, J2, rfl, rfl, h2, hz2⟩ := hv
  refine a_if_eq rfl (fun _ => ?_) (fun cz2 => ?_)
  · refine a_s rfl rfl ?_
    exact a_zret rfl rfl rfl (QC.yes (Cs.rd C h2))
  have hlt := hz2 (bI_t cz2)
  have C2 := Cs.rd1 C h2 hlt
  have q2 := Rd.pb h2
  have q3 := Pp.le (Cs.pp C2)
  refine a_l0 rfl rfl rfl ?_
  refine a_gV rfl lX12_202 mo_X12_readAtom (r_X12_readAtom_4 hw (by omega) (by simp only [List.length_cons]; omega) (Cs.d C2 hd) (Cs.dq C2)) rfl rfl rfl ⟨12, _, rfl, rfl, rfl⟩ rfl (fun v' h' hv => ?_)
  obtain ⟨z3, J3, p3, n3, rfl, rfl, f3, hp3, hq3, hz3⟩ := hv
  refine a_if_ne rfl (fun cz3 => ?_) (fun _ => ?_)
  rotate_left
  · refine a_s rfl rfl ?_
    exact a_zret rfl rfl rfl (QC.fc C2 f3 hp3 hq3)
  have C3 := Cs.st C2 f3 hp3 (hz3 (bI_t cz3))
  have hle := Cs.ln C3
  refine a_l0 rfl rfl rfl ?_
  refine a_s rfl rfl ?_
  refine a_s rfl rfl ?_
  refine a_eV0 rfl lX12_180 mo_X12_emits (r_X12_emits (Dq.st (Cs.dq C3)) (by omega)) rfl rfl rfl ⟨12, _, rfl, rfl, rfl⟩ rfl ?_
  refine a_goto rfl ?_
  exact ih (e - p3) _ _ (by omega) ⟨rfl, _, p3, n3 + 1, rfl, Cs.em (k := 14) (m := 0) C3 (by decide) (by decide) rfl (by simp only [List.length_cons]; omega), rfl⟩
theorem r_X12_readCond_4 (hw : WdS S) (hc : 1 ≤ c) (hl : s.length + 9 ≤ 24) (hd : I 420 13 = nI 4) (h : Dq e p a n s c I) : Sp S m_X12_readCond 28 0 0 [.ref 420] (hp I L w1 w2 t) (QC e p n a (true :: s) c I L w1 w2 t) nX := by
  refine Sp_of ok_X12_readCond rfl rfl ?_
  show AW S m_X12_readCond 28 _ _ 0 0 0 [some (.ref 420)] [] (hp I L w1 w2 t)
  refine a_l0 rfl rfl rfl ?_
  refine a_gV rfl lX12_213 mo_X12_readAllOf (r_X12_readAllOf_4 hw hc (by omega) hd h) rfl rfl rfl ⟨12, _, rfl, rfl, rfl⟩ rfl (fun v' h' hv => ?_)
  obtain ⟨z, J1, p1, n1, rfl, rfl, f1, hp1, hq1, hz1⟩ := hv
  refine a_if_ne rfl (fun cz => ?_) (fun _ => ?_)
  rotate_left
  · refine a_s rfl rfl ?_
    exact a_zret rfl rfl rfl (QC.no f1 hp1 hq1)
  have C1 := Cs.st (Cs.rf h) f1 hp1 (hz1 (bI_t cz))
  refine a_inv (n := e - p1) (fun m ls h => ls = [some (.ref 420)] ∧ ∃ J p' n', h = hp J L w1 w2 t ∧ Cs e p n a (true :: s) c I J p' n' ∧ m = e - p') ⟨rfl, J1, p1, n1, rfl, C1, rfl⟩ ?_
  rintro m _ _ ⟨rfl, J, p', n', rfl, C, hm⟩ ih
  refine a_l0 rfl rfl rfl ?_
  refine a_ldcs (q := 130 + 19) rfl (hw.ld (i := 19) (by decide)) ?_
  refine a_gV rfl lX12_128 mo_X12_passes (r_X12_passes (k := 19) hw (by decide) (Cs.pp C)) rfl rfl rfl ⟨12, _, rfl, rfl, rfl⟩ rfl (fun v' h' hv => ?_)
  obtain ⟨z2, b2, p2, J2, rfl, rfl, h2, hz2⟩ := hv
  refine a_if_eq rfl (fun _ => ?_) (fun cz2 => ?_)
  · refine a_s rfl rfl ?_
    exact a_zret rfl rfl rfl (QC.yes (Cs.rd C h2))
  have hlt := hz2 (bI_t cz2)
  have C2 := Cs.rd1 C h2 hlt
  have q2 := Rd.pb h2
  have q3 := Pp.le (Cs.pp C2)
  refine a_l0 rfl rfl rfl ?_
  refine a_gV rfl lX12_213 mo_X12_readAllOf (r_X12_readAllOf_4 hw (by omega) (by simp only [List.length_cons]; omega) (Cs.d C2 hd) (Cs.dq C2)) rfl rfl rfl ⟨12, _, rfl, rfl, rfl⟩ rfl (fun v' h' hv => ?_)
  obtain ⟨z3, J3, p3, n3, rfl, rfl, f3, hp3, hq3, hz3⟩ := hv
  refine a_if_ne rfl (fun cz3 => ?_) (fun _ => ?_)
  rotate_left
  · refine a_s rfl rfl ?_
    exact a_zret rfl rfl rfl (QC.fc C2 f3 hp3 hq3)
  have C3 := Cs.st C2 f3 hp3 (hz3 (bI_t cz3))
  have hle := Cs.ln C3
  refine a_l0 rfl rfl rfl ?_
  refine a_s rfl rfl ?_
  refine a_s rfl rfl ?_
  refine a_eV0 rfl lX12_180 mo_X12_emits (r_X12_emits (Dq.st (Cs.dq C3)) (by omega)) rfl rfl rfl ⟨12, _, rfl, rfl, rfl⟩ rfl ?_
  refine a_goto rfl ?_
  exact ih (e - p3) _ _ (by omega) ⟨rfl, _, p3, n3 + 1, rfl, Cs.em (k := 15) (m := 0) C3 (by decide) (by decide) rfl (by simp only [List.length_cons]; omega), rfl⟩
theorem r_X12_readAtom_3 (hw : WdS S) (hc : 1 ≤ c) (hl : s.length + 9 ≤ 24) (hd : I 420 13 = nI 3) (h : Dq e p a n s c I) : Sp S m_X12_readAtom 29 0 0 [.ref 420] (hp I L w1 w2 t) (QC e p n a (true :: s) c I L w1 w2 t) nX := by
  refine Sp_of ok_X12_readAtom rfl rfl ?_
  show AW S m_X12_readAtom 29 _ _ 0 0 0 [some (.ref 420), none] [] (hp I L w1 w2 t)
  refine a_l0 rfl rfl rfl ?_
  refine a_s rfl rfl ?_
  refine a_gV rfl lX12_187 mo_X12_sign (r_X12_sign (Dq.pp h)) rfl rfl rfl ⟨12, _, rfl, rfl, rfl⟩ rfl (fun v' h' hv => ?_)
  obtain ⟨z, b1, p1, J1, rfl, rfl, h1, hz⟩ := hv
  have C1 := Cs.rd (Cs.rf h) h1
  clear hz
  refine a_if_eq rfl (fun _ => ?_) (fun cz => ?_)
  rotate_left
  · refine a_l0 rfl rfl rfl ?_
    refine a_geti rfl gfX12_194_12 rfl ?_
    refine a_top (y := nI 3) (Cs.d C1 hd) ?_
    refine a_s rfl rfl ?_
    refine a_ic_ne rfl (fun _ => ?_) (fun c => absurd c (by decide))
    refine a_l0 rfl rfl rfl ?_
    refine a_s rfl rfl ?_
    refine a_geti rfl gfX12_194_12 rfl ?_
    refine a_top (y := nI 3) (Cs.d C1 hd) ?_
    refine a_s rfl rfl ?_
    refine a_s rfl rfl ?_
    refine a_top (y := nI 4) (rfl) ?_
    refine a_puti rfl pfX12_194_12 rfl ?_
    refine a_l0 rfl rfl rfl ?_
    refine a_gV rfl lX12_197 mo_X12_readCond (r_X12_readCond_4 hw (by omega) (by omega) up2_at (Dq.up13 (Cs.dq C1))) rfl rfl rfl ⟨12, _, rfl, rfl, rfl⟩ rfl (fun v' h' hv => ?_)
    obtain ⟨z9, J9, p9, n9, rfl, rfl, f9, hp9, hq9, hz9⟩ := hv
    refine a_if_ne rfl (fun cz9 => ?_) (fun _ => ?_)
    rotate_left
    · refine a_s rfl rfl ?_
      exact a_zret rfl rfl rfl (QC.fc C1 (Fm.tr (Fm.up Fm.rf rfl) f9) hp9 hq9)
    obtain ⟨g13, gn, gq⟩ := hz9 (bI_t cz9)
    refine a_l0 rfl rfl rfl ?_
    refine a_s rfl rfl ?_
    refine a_geti rfl gfX12_194_12 rfl ?_
    refine a_top (y := nI 4) (g13.trans up2_at) ?_
    refine a_s rfl rfl ?_
    refine a_s rfl rfl ?_
    refine a_top (y := nI 3) (rfl) ?_
    refine a_puti rfl pfX12_194_12 rfl ?_
    have C9 := Cs.deep C1 hd f9 hp9 gn gq
    refine a_l0 rfl rfl rfl ?_
    refine a_s rfl rfl ?_
    refine a_gV rfl lX12_187 mo_X12_sign (r_X12_sign (Cs.pp C9)) rfl rfl rfl ⟨12, _, rfl, rfl, rfl⟩ rfl (fun v' h' hv => ?_)
    obtain ⟨z3, b3, p3, J3, rfl, rfl, h3, -⟩ := hv
    cases z3 with
    | false => exact a_zret rfl rfl rfl (QC.f0 (Cs.rd C9 h3))
    | true => exact a_zret rfl rfl rfl (QC.yes (Cs.rd C9 h3))
  refine a_l0 rfl rfl rfl ?_
  refine a_ldcs (q := 130 + 21) rfl (hw.ld (i := 21) (by decide)) ?_
  refine a_gV rfl lX12_128 mo_X12_passes (r_X12_passes (k := 21) hw (by decide) (Cs.pp C1)) rfl rfl rfl ⟨12, _, rfl, rfl, rfl⟩ rfl (fun v' h' hv => ?_)
  obtain ⟨z2, b2, p2, J2, rfl, rfl, h2, hz2⟩ := hv
  refine a_if_eq rfl (fun _ => ?_) (fun cz2 => ?_)
  rotate_left
  · have C2 := Cs.rd1 C1 h2 (hz2 (bI_t cz2))
    refine a_l0 rfl rfl rfl ?_
    refine a_geti rfl gfX12_194_12 rfl ?_
    refine a_top (y := nI 3) (Cs.d C2 hd) ?_
    refine a_s rfl rfl ?_
    refine a_ic_ne rfl (fun _ => ?_) (fun c => absurd c (by decide))
    refine a_l0 rfl rfl rfl ?_
    refine a_s rfl rfl ?_
    refine a_geti rfl gfX12_194_12 rfl ?_
    refine a_top (y := nI 3) (Cs.d C2 hd) ?_
    refine a_s rfl rfl ?_
    refine a_s rfl rfl ?_
    refine a_top (y := nI 4) (rfl) ?_
    refine a_puti rfl pfX12_194_12 rfl ?_
    refine a_l0 rfl rfl rfl ?_
    refine a_gV rfl lX12_202 mo_X12_readAtom (r_X12_readAtom_4 hw (by omega) (by omega) up2_at (Dq.up13 (Cs.dq C2))) rfl rfl rfl ⟨12, _, rfl, rfl, rfl⟩ rfl (fun v' h' hv => ?_)
    obtain ⟨z9, J9, p9, n9, rfl, rfl, f9, hp9, hq9, hz9⟩ := hv
    refine a_if_ne rfl (fun cz9 => ?_) (fun _ => ?_)
    rotate_left
    · refine a_s rfl rfl ?_
      exact a_zret rfl rfl rfl (QC.fc C2 (Fm.tr (Fm.up Fm.rf rfl) f9) hp9 hq9)
    obtain ⟨g13, gn, gq⟩ := hz9 (bI_t cz9)
    refine a_l0 rfl rfl rfl ?_
    refine a_s rfl rfl ?_
    refine a_geti rfl gfX12_194_12 rfl ?_
    refine a_top (y := nI 4) (g13.trans up2_at) ?_
    refine a_s rfl rfl ?_
    refine a_s rfl rfl ?_
    refine a_top (y := nI 3) (rfl) ?_
    refine a_puti rfl pfX12_194_12 rfl ?_
    have C9 := Cs.deep C2 hd f9 hp9 gn gq
    have hle := Cs.ln C9
    refine a_l0 rfl rfl rfl ?_
    refine a_s rfl rfl ?_
    refine a_s rfl rfl ?_
    refine a_eV0 rfl lX12_180 mo_X12_emits (r_X12_emits (Dq.st (Cs.dq C9)) (by omega)) rfl rfl rfl ⟨12, _, rfl, rfl, rfl⟩ rfl ?_
    refine a_s rfl rfl ?_
    exact a_zret rfl rfl rfl (QC.yes (Cs.em (k := 13) (m := 0) C9 (by decide) (by decide) rfl (by simp only [List.length_cons]; omega)))
  have C2 := Cs.rd C1 h2
  clear hz2
  refine a_l0 rfl rfl rfl ?_
  refine a_gV rfl lX12_205 mo_X12_readTag (r_X12_readTag hw (by omega) (Cs.dq C2)) rfl rfl rfl ⟨12, _, rfl, rfl, rfl⟩ rfl (fun v' h' hv => ?_)
  obtain ⟨z3, J3, p3, n3, rfl, rfl, ht3, hf3⟩ := hv
  refine a_if_eq rfl (fun cz3 => ?_) (fun cz3 => ?_)
  rotate_left
  · refine a_s rfl rfl ?_
    exact a_zret rfl rfl rfl (QC.yes (Cs.cc C2 (ht3 (bI_t cz3))))
  have C3 := Cs.cc C2 (hf3 (bI_f cz3))
  refine a_l0 rfl rfl rfl ?_
  refine a_gV rfl lX12_208 mo_X12_readSum (r_X12_readSum hw hc (by omega) (Cs.dq C3)) rfl rfl rfl ⟨12, _, rfl, rfl, rfl⟩ rfl (fun v' h' hv => ?_)
  obtain ⟨z4, J4, p4, n4, rfl, rfl, f4, hp4, hq4, hz4⟩ := hv
  refine a_if_ne rfl (fun cz4 => ?_) (fun _ => ?_)
  rotate_left
  · refine a_s rfl rfl ?_
    exact a_zret rfl rfl rfl (QC.fc C3 f4 hp4 hq4)
  have C4 := Cs.st C3 f4 hp4 (hz4 (bI_t cz4))
  have key : ∀ {z5 : Bool} {p' n' : Nat} {J : Nat → Nat → Int32}, Cs e p n a (false :: s) (c + 1) I J p' n' → AW S m_X12_readAtom 29 (QC e p n a (true :: s) c I L w1 w2 t) nX 0 0 152 [some (.ref 420), some (.int (bI z5))] [] (hp J L w1 w2 t) := by
    intro z5 p' n' J C
    refine a_l0 rfl rfl rfl ?_
    refine a_gV rfl lX12_208 mo_X12_readSum (r_X12_readSum hw (by omega) (by simp only [List.length_cons]; omega) (Cs.dq C)) rfl rfl rfl ⟨12, _, rfl, rfl, rfl⟩ rfl (fun v' h' hv => ?_)
    obtain ⟨z6, J6, p6, n6, rfl, rfl, f6, hp6, hq6, hz6⟩ := hv
    refine a_if_ne rfl (fun cz6 => ?_) (fun _ => ?_)
    rotate_left
    · refine a_s rfl rfl ?_
      exact a_zret rfl rfl rfl (QC.fc C f6 hp6 hq6)
    have C6 := Cs.st C f6 hp6 (hz6 (bI_t cz6))
    have hle := Cs.ln C6
    refine a_l0 rfl rfl rfl ?_
    refine a_l1 rfl rfl rfl ?_
    cases z5 with
    | false =>
      refine a_if_eq rfl (fun _ => ?_) (fun c => absurd rfl c)
      refine a_s rfl rfl ?_
      refine a_s rfl rfl ?_
      refine a_eV0 rfl lX12_180 mo_X12_emits (r_X12_emits (Dq.st (Cs.dq C6)) (by omega)) rfl rfl rfl ⟨12, _, rfl, rfl, rfl⟩ rfl ?_
      refine a_s rfl rfl ?_
      exact a_zret rfl rfl rfl (QC.yes (Cs.em (k := 12) (m := 0) C6 (by decide) (by decide) rfl (by simp only [List.length_cons]; omega)))
    | true =>
      refine a_if_eq rfl (fun c => absurd c (by decide)) (fun _ => ?_)
      refine a_s rfl rfl ?_
      refine a_goto rfl ?_
      refine a_s rfl rfl ?_
      refine a_eV0 rfl lX12_180 mo_X12_emits (r_X12_emits (Dq.st (Cs.dq C6)) (by omega)) rfl rfl rfl ⟨12, _, rfl, rfl, rfl⟩ rfl ?_
      refine a_s rfl rfl ?_
      exact a_zret rfl rfl rfl (QC.yes (Cs.em (k := 11) (m := 0) C6 (by decide) (by decide) rfl (by simp only [List.length_cons]; omega)))
  refine a_l0 rfl rfl rfl ?_
  refine a_s rfl rfl ?_
  refine a_gV rfl lX12_187 mo_X12_sign (r_X12_sign (Cs.pp C4)) rfl rfl rfl ⟨12, _, rfl, rfl, rfl⟩ rfl (fun v' h' hv => ?_)
  obtain ⟨z5, b5, p5, J5, rfl, rfl, h5, hz5⟩ := hv
  refine a_s1 rfl rfl rfl rfl rfl rfl ?_
  refine a_l1 rfl rfl rfl ?_
  refine a_if_ne rfl (fun cz5 => ?_) (fun _ => ?_)
  · exact key (Cs.rd1 C4 h5 (hz5 (bI_t cz5)))
  have C5 := Cs.rd C4 h5
  refine a_l0 rfl rfl rfl ?_
  refine a_s rfl rfl ?_
  refine a_gV rfl lX12_187 mo_X12_sign (r_X12_sign (Cs.pp C5)) rfl rfl rfl ⟨12, _, rfl, rfl, rfl⟩ rfl (fun v' h' hv => ?_)
  obtain ⟨z7, b7, p7, J7, rfl, rfl, h7, hz7⟩ := hv
  refine a_if_eq rfl (fun _ => ?_) (fun cz7 => ?_)
  · refine a_s rfl rfl ?_
    exact a_zret rfl rfl rfl (QC.f0 (Cs.rd C5 h7))
  · exact key (Cs.rd1 C5 h7 (hz7 (bI_t cz7)))
theorem r_X12_readAllOf_3 (hw : WdS S) (hc : 1 ≤ c) (hl : s.length + 10 ≤ 24) (hd : I 420 13 = nI 3) (h : Dq e p a n s c I) : Sp S m_X12_readAllOf 30 0 0 [.ref 420] (hp I L w1 w2 t) (QC e p n a (true :: s) c I L w1 w2 t) nX := by
  refine Sp_of ok_X12_readAllOf rfl rfl ?_
  show AW S m_X12_readAllOf 30 _ _ 0 0 0 [some (.ref 420)] [] (hp I L w1 w2 t)
  refine a_l0 rfl rfl rfl ?_
  refine a_gV rfl lX12_202 mo_X12_readAtom (r_X12_readAtom_3 hw hc (by omega) hd h) rfl rfl rfl ⟨12, _, rfl, rfl, rfl⟩ rfl (fun v' h' hv => ?_)
  obtain ⟨z, J1, p1, n1, rfl, rfl, f1, hp1, hq1, hz1⟩ := hv
  refine a_if_ne rfl (fun cz => ?_) (fun _ => ?_)
  rotate_left
  · refine a_s rfl rfl ?_
    exact a_zret rfl rfl rfl (QC.no f1 hp1 hq1)
  have C1 := Cs.st (Cs.rf h) f1 hp1 (hz1 (bI_t cz))
  refine a_inv (n := e - p1) (fun m ls h => ls = [some (.ref 420)] ∧ ∃ J p' n', h = hp J L w1 w2 t ∧ Cs e p n a (true :: s) c I J p' n' ∧ m = e - p') ⟨rfl, J1, p1, n1, rfl, C1, rfl⟩ ?_
  rintro m _ _ ⟨rfl, J, p', n', rfl, C, hm⟩ ih
  refine a_l0 rfl rfl rfl ?_
  refine a_ldcs (q := 130 + 20) rfl (hw.ld (i := 20) (by decide)) ?_
  refine a_gV rfl lX12_128 mo_X12_passes (r_X12_passes (k := 20) hw (by decide) (Cs.pp C)) rfl rfl rfl ⟨12, _, rfl, rfl, rfl⟩ rfl (fun v' h' hv => ?_)
  obtain ⟨z2, b2, p2, J2, rfl, rfl, h2, hz2⟩ := hv
  refine a_if_eq rfl (fun _ => ?_) (fun cz2 => ?_)
  · refine a_s rfl rfl ?_
    exact a_zret rfl rfl rfl (QC.yes (Cs.rd C h2))
  have hlt := hz2 (bI_t cz2)
  have C2 := Cs.rd1 C h2 hlt
  have q2 := Rd.pb h2
  have q3 := Pp.le (Cs.pp C2)
  refine a_l0 rfl rfl rfl ?_
  refine a_gV rfl lX12_202 mo_X12_readAtom (r_X12_readAtom_3 hw (by omega) (by simp only [List.length_cons]; omega) (Cs.d C2 hd) (Cs.dq C2)) rfl rfl rfl ⟨12, _, rfl, rfl, rfl⟩ rfl (fun v' h' hv => ?_)
  obtain ⟨z3, J3, p3, n3, rfl, rfl, f3, hp3, hq3, hz3⟩ := hv
  refine a_if_ne rfl (fun cz3 => ?_) (fun _ => ?_)
  rotate_left
  · refine a_s rfl rfl ?_
    exact a_zret rfl rfl rfl (QC.fc C2 f3 hp3 hq3)
  have C3 := Cs.st C2 f3 hp3 (hz3 (bI_t cz3))
  have hle := Cs.ln C3
  refine a_l0 rfl rfl rfl ?_
  refine a_s rfl rfl ?_
  refine a_s rfl rfl ?_
  refine a_eV0 rfl lX12_180 mo_X12_emits (r_X12_emits (Dq.st (Cs.dq C3)) (by omega)) rfl rfl rfl ⟨12, _, rfl, rfl, rfl⟩ rfl ?_
  refine a_goto rfl ?_
  exact ih (e - p3) _ _ (by omega) ⟨rfl, _, p3, n3 + 1, rfl, Cs.em (k := 14) (m := 0) C3 (by decide) (by decide) rfl (by simp only [List.length_cons]; omega), rfl⟩
theorem r_X12_readCond_3 (hw : WdS S) (hc : 1 ≤ c) (hl : s.length + 11 ≤ 24) (hd : I 420 13 = nI 3) (h : Dq e p a n s c I) : Sp S m_X12_readCond 31 0 0 [.ref 420] (hp I L w1 w2 t) (QC e p n a (true :: s) c I L w1 w2 t) nX := by
  refine Sp_of ok_X12_readCond rfl rfl ?_
  show AW S m_X12_readCond 31 _ _ 0 0 0 [some (.ref 420)] [] (hp I L w1 w2 t)
  refine a_l0 rfl rfl rfl ?_
  refine a_gV rfl lX12_213 mo_X12_readAllOf (r_X12_readAllOf_3 hw hc (by omega) hd h) rfl rfl rfl ⟨12, _, rfl, rfl, rfl⟩ rfl (fun v' h' hv => ?_)
  obtain ⟨z, J1, p1, n1, rfl, rfl, f1, hp1, hq1, hz1⟩ := hv
  refine a_if_ne rfl (fun cz => ?_) (fun _ => ?_)
  rotate_left
  · refine a_s rfl rfl ?_
    exact a_zret rfl rfl rfl (QC.no f1 hp1 hq1)
  have C1 := Cs.st (Cs.rf h) f1 hp1 (hz1 (bI_t cz))
  refine a_inv (n := e - p1) (fun m ls h => ls = [some (.ref 420)] ∧ ∃ J p' n', h = hp J L w1 w2 t ∧ Cs e p n a (true :: s) c I J p' n' ∧ m = e - p') ⟨rfl, J1, p1, n1, rfl, C1, rfl⟩ ?_
  rintro m _ _ ⟨rfl, J, p', n', rfl, C, hm⟩ ih
  refine a_l0 rfl rfl rfl ?_
  refine a_ldcs (q := 130 + 19) rfl (hw.ld (i := 19) (by decide)) ?_
  refine a_gV rfl lX12_128 mo_X12_passes (r_X12_passes (k := 19) hw (by decide) (Cs.pp C)) rfl rfl rfl ⟨12, _, rfl, rfl, rfl⟩ rfl (fun v' h' hv => ?_)
  obtain ⟨z2, b2, p2, J2, rfl, rfl, h2, hz2⟩ := hv
  refine a_if_eq rfl (fun _ => ?_) (fun cz2 => ?_)
  · refine a_s rfl rfl ?_
    exact a_zret rfl rfl rfl (QC.yes (Cs.rd C h2))
  have hlt := hz2 (bI_t cz2)
  have C2 := Cs.rd1 C h2 hlt
  have q2 := Rd.pb h2
  have q3 := Pp.le (Cs.pp C2)
  refine a_l0 rfl rfl rfl ?_
  refine a_gV rfl lX12_213 mo_X12_readAllOf (r_X12_readAllOf_3 hw (by omega) (by simp only [List.length_cons]; omega) (Cs.d C2 hd) (Cs.dq C2)) rfl rfl rfl ⟨12, _, rfl, rfl, rfl⟩ rfl (fun v' h' hv => ?_)
  obtain ⟨z3, J3, p3, n3, rfl, rfl, f3, hp3, hq3, hz3⟩ := hv
  refine a_if_ne rfl (fun cz3 => ?_) (fun _ => ?_)
  rotate_left
  · refine a_s rfl rfl ?_
    exact a_zret rfl rfl rfl (QC.fc C2 f3 hp3 hq3)
  have C3 := Cs.st C2 f3 hp3 (hz3 (bI_t cz3))
  have hle := Cs.ln C3
  refine a_l0 rfl rfl rfl ?_
  refine a_s rfl rfl ?_
  refine a_s rfl rfl ?_
  refine a_eV0 rfl lX12_180 mo_X12_emits (r_X12_emits (Dq.st (Cs.dq C3)) (by omega)) rfl rfl rfl ⟨12, _, rfl, rfl, rfl⟩ rfl ?_
  refine a_goto rfl ?_
  exact ih (e - p3) _ _ (by omega) ⟨rfl, _, p3, n3 + 1, rfl, Cs.em (k := 15) (m := 0) C3 (by decide) (by decide) rfl (by simp only [List.length_cons]; omega), rfl⟩
theorem r_X12_readAtom_2 (hw : WdS S) (hc : 1 ≤ c) (hl : s.length + 11 ≤ 24) (hd : I 420 13 = nI 2) (h : Dq e p a n s c I) : Sp S m_X12_readAtom 32 0 0 [.ref 420] (hp I L w1 w2 t) (QC e p n a (true :: s) c I L w1 w2 t) nX := by
  refine Sp_of ok_X12_readAtom rfl rfl ?_
  show AW S m_X12_readAtom 32 _ _ 0 0 0 [some (.ref 420), none] [] (hp I L w1 w2 t)
  refine a_l0 rfl rfl rfl ?_
  refine a_s rfl rfl ?_
  refine a_gV rfl lX12_187 mo_X12_sign (r_X12_sign (Dq.pp h)) rfl rfl rfl ⟨12, _, rfl, rfl, rfl⟩ rfl (fun v' h' hv => ?_)
  obtain ⟨z, b1, p1, J1, rfl, rfl, h1, hz⟩ := hv
  have C1 := Cs.rd (Cs.rf h) h1
  clear hz
  refine a_if_eq rfl (fun _ => ?_) (fun cz => ?_)
  rotate_left
  · refine a_l0 rfl rfl rfl ?_
    refine a_geti rfl gfX12_194_12 rfl ?_
    refine a_top (y := nI 2) (Cs.d C1 hd) ?_
    refine a_s rfl rfl ?_
    refine a_ic_ne rfl (fun _ => ?_) (fun c => absurd c (by decide))
    refine a_l0 rfl rfl rfl ?_
    refine a_s rfl rfl ?_
    refine a_geti rfl gfX12_194_12 rfl ?_
    refine a_top (y := nI 2) (Cs.d C1 hd) ?_
    refine a_s rfl rfl ?_
    refine a_s rfl rfl ?_
    refine a_top (y := nI 3) (rfl) ?_
    refine a_puti rfl pfX12_194_12 rfl ?_
    refine a_l0 rfl rfl rfl ?_
    refine a_gV rfl lX12_197 mo_X12_readCond (r_X12_readCond_3 hw (by omega) (by omega) up2_at (Dq.up13 (Cs.dq C1))) rfl rfl rfl ⟨12, _, rfl, rfl, rfl⟩ rfl (fun v' h' hv => ?_)
    obtain ⟨z9, J9, p9, n9, rfl, rfl, f9, hp9, hq9, hz9⟩ := hv
    refine a_if_ne rfl (fun cz9 => ?_) (fun _ => ?_)
    rotate_left
    · refine a_s rfl rfl ?_
      exact a_zret rfl rfl rfl (QC.fc C1 (Fm.tr (Fm.up Fm.rf rfl) f9) hp9 hq9)
    obtain ⟨g13, gn, gq⟩ := hz9 (bI_t cz9)
    refine a_l0 rfl rfl rfl ?_
    refine a_s rfl rfl ?_
    refine a_geti rfl gfX12_194_12 rfl ?_
    refine a_top (y := nI 3) (g13.trans up2_at) ?_
    refine a_s rfl rfl ?_
    refine a_s rfl rfl ?_
    refine a_top (y := nI 2) (rfl) ?_
    refine a_puti rfl pfX12_194_12 rfl ?_
    have C9 := Cs.deep C1 hd f9 hp9 gn gq
    refine a_l0 rfl rfl rfl ?_
    refine a_s rfl rfl ?_
    refine a_gV rfl lX12_187 mo_X12_sign (r_X12_sign (Cs.pp C9)) rfl rfl rfl ⟨12, _, rfl, rfl, rfl⟩ rfl (fun v' h' hv => ?_)
    obtain ⟨z3, b3, p3, J3, rfl, rfl, h3, -⟩ := hv
    cases z3 with
    | false => exact a_zret rfl rfl rfl (QC.f0 (Cs.rd C9 h3))
    | true => exact a_zret rfl rfl rfl (QC.yes (Cs.rd C9 h3))
  refine a_l0 rfl rfl rfl ?_
  refine a_ldcs (q := 130 + 21) rfl (hw.ld (i := 21) (by decide)) ?_
  refine a_gV rfl lX12_128 mo_X12_passes (r_X12_passes (k := 21) hw (by decide) (Cs.pp C1)) rfl rfl rfl ⟨12, _, rfl, rfl, rfl⟩ rfl (fun v' h' hv => ?_)
  obtain ⟨z2, b2, p2, J2, rfl, rfl, h2, hz2⟩ := hv
  refine a_if_eq rfl (fun _ => ?_) (fun cz2 => ?_)
  rotate_left
  · have C2 := Cs.rd1 C1 h2 (hz2 (bI_t cz2))
    refine a_l0 rfl rfl rfl ?_
    refine a_geti rfl gfX12_194_12 rfl ?_
    refine a_top (y := nI 2) (Cs.d C2 hd) ?_
    refine a_s rfl rfl ?_
    refine a_ic_ne rfl (fun _ => ?_) (fun c => absurd c (by decide))
    refine a_l0 rfl rfl rfl ?_
    refine a_s rfl rfl ?_
    refine a_geti rfl gfX12_194_12 rfl ?_
    refine a_top (y := nI 2) (Cs.d C2 hd) ?_
    refine a_s rfl rfl ?_
    refine a_s rfl rfl ?_
    refine a_top (y := nI 3) (rfl) ?_
    refine a_puti rfl pfX12_194_12 rfl ?_
    refine a_l0 rfl rfl rfl ?_
    refine a_gV rfl lX12_202 mo_X12_readAtom (r_X12_readAtom_3 hw (by omega) (by omega) up2_at (Dq.up13 (Cs.dq C2))) rfl rfl rfl ⟨12, _, rfl, rfl, rfl⟩ rfl (fun v' h' hv => ?_)
    obtain ⟨z9, J9, p9, n9, rfl, rfl, f9, hp9, hq9, hz9⟩ := hv
    refine a_if_ne rfl (fun cz9 => ?_) (fun _ => ?_)
    rotate_left
    · refine a_s rfl rfl ?_
      exact a_zret rfl rfl rfl (QC.fc C2 (Fm.tr (Fm.up Fm.rf rfl) f9) hp9 hq9)
    obtain ⟨g13, gn, gq⟩ := hz9 (bI_t cz9)
    refine a_l0 rfl rfl rfl ?_
    refine a_s rfl rfl ?_
    refine a_geti rfl gfX12_194_12 rfl ?_
    refine a_top (y := nI 3) (g13.trans up2_at) ?_
    refine a_s rfl rfl ?_
    refine a_s rfl rfl ?_
    refine a_top (y := nI 2) (rfl) ?_
    refine a_puti rfl pfX12_194_12 rfl ?_
    have C9 := Cs.deep C2 hd f9 hp9 gn gq
    have hle := Cs.ln C9
    refine a_l0 rfl rfl rfl ?_
    refine a_s rfl rfl ?_
    refine a_s rfl rfl ?_
    refine a_eV0 rfl lX12_180 mo_X12_emits (r_X12_emits (Dq.st (Cs.dq C9)) (by omega)) rfl rfl rfl ⟨12, _, rfl, rfl, rfl⟩ rfl ?_
    refine a_s rfl rfl ?_
    exact a_zret rfl rfl rfl (QC.yes (Cs.em (k := 13) (m := 0) C9 (by decide) (by decide) rfl (by simp only [List.length_cons]; omega)))
  have C2 := Cs.rd C1 h2
  clear hz2
  refine a_l0 rfl rfl rfl ?_
  refine a_gV rfl lX12_205 mo_X12_readTag (r_X12_readTag hw (by omega) (Cs.dq C2)) rfl rfl rfl ⟨12, _, rfl, rfl, rfl⟩ rfl (fun v' h' hv => ?_)
  obtain ⟨z3, J3, p3, n3, rfl, rfl, ht3, hf3⟩ := hv
  refine a_if_eq rfl (fun cz3 => ?_) (fun cz3 => ?_)
  rotate_left
  · refine a_s rfl rfl ?_
    exact a_zret rfl rfl rfl (QC.yes (Cs.cc C2 (ht3 (bI_t cz3))))
  have C3 := Cs.cc C2 (hf3 (bI_f cz3))
  refine a_l0 rfl rfl rfl ?_
  refine a_gV rfl lX12_208 mo_X12_readSum (r_X12_readSum hw hc (by omega) (Cs.dq C3)) rfl rfl rfl ⟨12, _, rfl, rfl, rfl⟩ rfl (fun v' h' hv => ?_)
  obtain ⟨z4, J4, p4, n4, rfl, rfl, f4, hp4, hq4, hz4⟩ := hv
  refine a_if_ne rfl (fun cz4 => ?_) (fun _ => ?_)
  rotate_left
  · refine a_s rfl rfl ?_
    exact a_zret rfl rfl rfl (QC.fc C3 f4 hp4 hq4)
  have C4 := Cs.st C3 f4 hp4 (hz4 (bI_t cz4))
  have key : ∀ {z5 : Bool} {p' n' : Nat} {J : Nat → Nat → Int32}, Cs e p n a (false :: s) (c + 1) I J p' n' → AW S m_X12_readAtom 32 (QC e p n a (true :: s) c I L w1 w2 t) nX 0 0 152 [some (.ref 420), some (.int (bI z5))] [] (hp J L w1 w2 t) := by
    intro z5 p' n' J C
    refine a_l0 rfl rfl rfl ?_
    refine a_gV rfl lX12_208 mo_X12_readSum (r_X12_readSum hw (by omega) (by simp only [List.length_cons]; omega) (Cs.dq C)) rfl rfl rfl ⟨12, _, rfl, rfl, rfl⟩ rfl (fun v' h' hv => ?_)
    obtain ⟨z6, J6, p6, n6, rfl, rfl, f6, hp6, hq6, hz6⟩ := hv
    refine a_if_ne rfl (fun cz6 => ?_) (fun _ => ?_)
    rotate_left
    · refine a_s rfl rfl ?_
      exact a_zret rfl rfl rfl (QC.fc C f6 hp6 hq6)
    have C6 := Cs.st C f6 hp6 (hz6 (bI_t cz6))
    have hle := Cs.ln C6
    refine a_l0 rfl rfl rfl ?_
    refine a_l1 rfl rfl rfl ?_
    cases z5 with
    | false =>
      refine a_if_eq rfl (fun _ => ?_) (fun c => absurd rfl c)
      refine a_s rfl rfl ?_
      refine a_s rfl rfl ?_
      refine a_eV0 rfl lX12_180 mo_X12_emits (r_X12_emits (Dq.st (Cs.dq C6)) (by omega)) rfl rfl rfl ⟨12, _, rfl, rfl, rfl⟩ rfl ?_
      refine a_s rfl rfl ?_
      exact a_zret rfl rfl rfl (QC.yes (Cs.em (k := 12) (m := 0) C6 (by decide) (by decide) rfl (by simp only [List.length_cons]; omega)))
    | true =>
      refine a_if_eq rfl (fun c => absurd c (by decide)) (fun _ => ?_)
      refine a_s rfl rfl ?_
      refine a_goto rfl ?_
      refine a_s rfl rfl ?_
      refine a_eV0 rfl lX12_180 mo_X12_emits (r_X12_emits (Dq.st (Cs.dq C6)) (by omega)) rfl rfl rfl ⟨12, _, rfl, rfl, rfl⟩ rfl ?_
      refine a_s rfl rfl ?_
      exact a_zret rfl rfl rfl (QC.yes (Cs.em (k := 11) (m := 0) C6 (by decide) (by decide) rfl (by simp only [List.length_cons]; omega)))
  refine a_l0 rfl rfl rfl ?_
  refine a_s rfl rfl ?_
  refine a_gV rfl lX12_187 mo_X12_sign (r_X12_sign (Cs.pp C4)) rfl rfl rfl ⟨12, _, rfl, rfl, rfl⟩ rfl (fun v' h' hv => ?_)
  obtain ⟨z5, b5, p5, J5, rfl, rfl, h5, hz5⟩ := hv
  refine a_s1 rfl rfl rfl rfl rfl rfl ?_
  refine a_l1 rfl rfl rfl ?_
  refine a_if_ne rfl (fun cz5 => ?_) (fun _ => ?_)
  · exact key (Cs.rd1 C4 h5 (hz5 (bI_t cz5)))
  have C5 := Cs.rd C4 h5
  refine a_l0 rfl rfl rfl ?_
  refine a_s rfl rfl ?_
  refine a_gV rfl lX12_187 mo_X12_sign (r_X12_sign (Cs.pp C5)) rfl rfl rfl ⟨12, _, rfl, rfl, rfl⟩ rfl (fun v' h' hv => ?_)
  obtain ⟨z7, b7, p7, J7, rfl, rfl, h7, hz7⟩ := hv
  refine a_if_eq rfl (fun _ => ?_) (fun cz7 => ?_)
  · refine a_s rfl rfl ?_
    exact a_zret rfl rfl rfl (QC.f0 (Cs.rd C5 h7))
  · exact key (Cs.rd1 C5 h7 (hz7 (bI_t cz7)))
theorem r_X12_readAllOf_2 (hw : WdS S) (hc : 1 ≤ c) (hl : s.length + 12 ≤ 24) (hd : I 420 13 = nI 2) (h : Dq e p a n s c I) : Sp S m_X12_readAllOf 33 0 0 [.ref 420] (hp I L w1 w2 t) (QC e p n a (true :: s) c I L w1 w2 t) nX := by
  refine Sp_of ok_X12_readAllOf rfl rfl ?_
  show AW S m_X12_readAllOf 33 _ _ 0 0 0 [some (.ref 420)] [] (hp I L w1 w2 t)
  refine a_l0 rfl rfl rfl ?_
  refine a_gV rfl lX12_202 mo_X12_readAtom (r_X12_readAtom_2 hw hc (by omega) hd h) rfl rfl rfl ⟨12, _, rfl, rfl, rfl⟩ rfl (fun v' h' hv => ?_)
  obtain ⟨z, J1, p1, n1, rfl, rfl, f1, hp1, hq1, hz1⟩ := hv
  refine a_if_ne rfl (fun cz => ?_) (fun _ => ?_)
  rotate_left
  · refine a_s rfl rfl ?_
    exact a_zret rfl rfl rfl (QC.no f1 hp1 hq1)
  have C1 := Cs.st (Cs.rf h) f1 hp1 (hz1 (bI_t cz))
  refine a_inv (n := e - p1) (fun m ls h => ls = [some (.ref 420)] ∧ ∃ J p' n', h = hp J L w1 w2 t ∧ Cs e p n a (true :: s) c I J p' n' ∧ m = e - p') ⟨rfl, J1, p1, n1, rfl, C1, rfl⟩ ?_
  rintro m _ _ ⟨rfl, J, p', n', rfl, C, hm⟩ ih
  refine a_l0 rfl rfl rfl ?_
  refine a_ldcs (q := 130 + 20) rfl (hw.ld (i := 20) (by decide)) ?_
  refine a_gV rfl lX12_128 mo_X12_passes (r_X12_passes (k := 20) hw (by decide) (Cs.pp C)) rfl rfl rfl ⟨12, _, rfl, rfl, rfl⟩ rfl (fun v' h' hv => ?_)
  obtain ⟨z2, b2, p2, J2, rfl, rfl, h2, hz2⟩ := hv
  refine a_if_eq rfl (fun _ => ?_) (fun cz2 => ?_)
  · refine a_s rfl rfl ?_
    exact a_zret rfl rfl rfl (QC.yes (Cs.rd C h2))
  have hlt := hz2 (bI_t cz2)
  have C2 := Cs.rd1 C h2 hlt
  have q2 := Rd.pb h2
  have q3 := Pp.le (Cs.pp C2)
  refine a_l0 rfl rfl rfl ?_
  refine a_gV rfl lX12_202 mo_X12_readAtom (r_X12_readAtom_2 hw (by omega) (by simp only [List.length_cons]; omega) (Cs.d C2 hd) (Cs.dq C2)) rfl rfl rfl ⟨12, _, rfl, rfl, rfl⟩ rfl (fun v' h' hv => ?_)
  obtain ⟨z3, J3, p3, n3, rfl, rfl, f3, hp3, hq3, hz3⟩ := hv
  refine a_if_ne rfl (fun cz3 => ?_) (fun _ => ?_)
  rotate_left
  · refine a_s rfl rfl ?_
    exact a_zret rfl rfl rfl (QC.fc C2 f3 hp3 hq3)
  have C3 := Cs.st C2 f3 hp3 (hz3 (bI_t cz3))
  have hle := Cs.ln C3
  refine a_l0 rfl rfl rfl ?_
  refine a_s rfl rfl ?_
  refine a_s rfl rfl ?_
  refine a_eV0 rfl lX12_180 mo_X12_emits (r_X12_emits (Dq.st (Cs.dq C3)) (by omega)) rfl rfl rfl ⟨12, _, rfl, rfl, rfl⟩ rfl ?_
  refine a_goto rfl ?_
  exact ih (e - p3) _ _ (by omega) ⟨rfl, _, p3, n3 + 1, rfl, Cs.em (k := 14) (m := 0) C3 (by decide) (by decide) rfl (by simp only [List.length_cons]; omega), rfl⟩
theorem r_X12_readCond_2 (hw : WdS S) (hc : 1 ≤ c) (hl : s.length + 13 ≤ 24) (hd : I 420 13 = nI 2) (h : Dq e p a n s c I) : Sp S m_X12_readCond 34 0 0 [.ref 420] (hp I L w1 w2 t) (QC e p n a (true :: s) c I L w1 w2 t) nX := by
  refine Sp_of ok_X12_readCond rfl rfl ?_
  show AW S m_X12_readCond 34 _ _ 0 0 0 [some (.ref 420)] [] (hp I L w1 w2 t)
  refine a_l0 rfl rfl rfl ?_
  refine a_gV rfl lX12_213 mo_X12_readAllOf (r_X12_readAllOf_2 hw hc (by omega) hd h) rfl rfl rfl ⟨12, _, rfl, rfl, rfl⟩ rfl (fun v' h' hv => ?_)
  obtain ⟨z, J1, p1, n1, rfl, rfl, f1, hp1, hq1, hz1⟩ := hv
  refine a_if_ne rfl (fun cz => ?_) (fun _ => ?_)
  rotate_left
  · refine a_s rfl rfl ?_
    exact a_zret rfl rfl rfl (QC.no f1 hp1 hq1)
  have C1 := Cs.st (Cs.rf h) f1 hp1 (hz1 (bI_t cz))
  refine a_inv (n := e - p1) (fun m ls h => ls = [some (.ref 420)] ∧ ∃ J p' n', h = hp J L w1 w2 t ∧ Cs e p n a (true :: s) c I J p' n' ∧ m = e - p') ⟨rfl, J1, p1, n1, rfl, C1, rfl⟩ ?_
  rintro m _ _ ⟨rfl, J, p', n', rfl, C, hm⟩ ih
  refine a_l0 rfl rfl rfl ?_
  refine a_ldcs (q := 130 + 19) rfl (hw.ld (i := 19) (by decide)) ?_
  refine a_gV rfl lX12_128 mo_X12_passes (r_X12_passes (k := 19) hw (by decide) (Cs.pp C)) rfl rfl rfl ⟨12, _, rfl, rfl, rfl⟩ rfl (fun v' h' hv => ?_)
  obtain ⟨z2, b2, p2, J2, rfl, rfl, h2, hz2⟩ := hv
  refine a_if_eq rfl (fun _ => ?_) (fun cz2 => ?_)
  · refine a_s rfl rfl ?_
    exact a_zret rfl rfl rfl (QC.yes (Cs.rd C h2))
  have hlt := hz2 (bI_t cz2)
  have C2 := Cs.rd1 C h2 hlt
  have q2 := Rd.pb h2
  have q3 := Pp.le (Cs.pp C2)
  refine a_l0 rfl rfl rfl ?_
  refine a_gV rfl lX12_213 mo_X12_readAllOf (r_X12_readAllOf_2 hw (by omega) (by simp only [List.length_cons]; omega) (Cs.d C2 hd) (Cs.dq C2)) rfl rfl rfl ⟨12, _, rfl, rfl, rfl⟩ rfl (fun v' h' hv => ?_)
  obtain ⟨z3, J3, p3, n3, rfl, rfl, f3, hp3, hq3, hz3⟩ := hv
  refine a_if_ne rfl (fun cz3 => ?_) (fun _ => ?_)
  rotate_left
  · refine a_s rfl rfl ?_
    exact a_zret rfl rfl rfl (QC.fc C2 f3 hp3 hq3)
  have C3 := Cs.st C2 f3 hp3 (hz3 (bI_t cz3))
  have hle := Cs.ln C3
  refine a_l0 rfl rfl rfl ?_
  refine a_s rfl rfl ?_
  refine a_s rfl rfl ?_
  refine a_eV0 rfl lX12_180 mo_X12_emits (r_X12_emits (Dq.st (Cs.dq C3)) (by omega)) rfl rfl rfl ⟨12, _, rfl, rfl, rfl⟩ rfl ?_
  refine a_goto rfl ?_
  exact ih (e - p3) _ _ (by omega) ⟨rfl, _, p3, n3 + 1, rfl, Cs.em (k := 15) (m := 0) C3 (by decide) (by decide) rfl (by simp only [List.length_cons]; omega), rfl⟩
theorem r_X12_readAtom_1 (hw : WdS S) (hc : 1 ≤ c) (hl : s.length + 13 ≤ 24) (hd : I 420 13 = nI 1) (h : Dq e p a n s c I) : Sp S m_X12_readAtom 35 0 0 [.ref 420] (hp I L w1 w2 t) (QC e p n a (true :: s) c I L w1 w2 t) nX := by
  refine Sp_of ok_X12_readAtom rfl rfl ?_
  show AW S m_X12_readAtom 35 _ _ 0 0 0 [some (.ref 420), none] [] (hp I L w1 w2 t)
  refine a_l0 rfl rfl rfl ?_
  refine a_s rfl rfl ?_
  refine a_gV rfl lX12_187 mo_X12_sign (r_X12_sign (Dq.pp h)) rfl rfl rfl ⟨12, _, rfl, rfl, rfl⟩ rfl (fun v' h' hv => ?_)
  obtain ⟨z, b1, p1, J1, rfl, rfl, h1, hz⟩ := hv
  have C1 := Cs.rd (Cs.rf h) h1
  clear hz
  refine a_if_eq rfl (fun _ => ?_) (fun cz => ?_)
  rotate_left
  · refine a_l0 rfl rfl rfl ?_
    refine a_geti rfl gfX12_194_12 rfl ?_
    refine a_top (y := nI 1) (Cs.d C1 hd) ?_
    refine a_s rfl rfl ?_
    refine a_ic_ne rfl (fun _ => ?_) (fun c => absurd c (by decide))
    refine a_l0 rfl rfl rfl ?_
    refine a_s rfl rfl ?_
    refine a_geti rfl gfX12_194_12 rfl ?_
    refine a_top (y := nI 1) (Cs.d C1 hd) ?_
    refine a_s rfl rfl ?_
    refine a_s rfl rfl ?_
    refine a_top (y := nI 2) (rfl) ?_
    refine a_puti rfl pfX12_194_12 rfl ?_
    refine a_l0 rfl rfl rfl ?_
    refine a_gV rfl lX12_197 mo_X12_readCond (r_X12_readCond_2 hw (by omega) (by omega) up2_at (Dq.up13 (Cs.dq C1))) rfl rfl rfl ⟨12, _, rfl, rfl, rfl⟩ rfl (fun v' h' hv => ?_)
    obtain ⟨z9, J9, p9, n9, rfl, rfl, f9, hp9, hq9, hz9⟩ := hv
    refine a_if_ne rfl (fun cz9 => ?_) (fun _ => ?_)
    rotate_left
    · refine a_s rfl rfl ?_
      exact a_zret rfl rfl rfl (QC.fc C1 (Fm.tr (Fm.up Fm.rf rfl) f9) hp9 hq9)
    obtain ⟨g13, gn, gq⟩ := hz9 (bI_t cz9)
    refine a_l0 rfl rfl rfl ?_
    refine a_s rfl rfl ?_
    refine a_geti rfl gfX12_194_12 rfl ?_
    refine a_top (y := nI 2) (g13.trans up2_at) ?_
    refine a_s rfl rfl ?_
    refine a_s rfl rfl ?_
    refine a_top (y := nI 1) (rfl) ?_
    refine a_puti rfl pfX12_194_12 rfl ?_
    have C9 := Cs.deep C1 hd f9 hp9 gn gq
    refine a_l0 rfl rfl rfl ?_
    refine a_s rfl rfl ?_
    refine a_gV rfl lX12_187 mo_X12_sign (r_X12_sign (Cs.pp C9)) rfl rfl rfl ⟨12, _, rfl, rfl, rfl⟩ rfl (fun v' h' hv => ?_)
    obtain ⟨z3, b3, p3, J3, rfl, rfl, h3, -⟩ := hv
    cases z3 with
    | false => exact a_zret rfl rfl rfl (QC.f0 (Cs.rd C9 h3))
    | true => exact a_zret rfl rfl rfl (QC.yes (Cs.rd C9 h3))
  refine a_l0 rfl rfl rfl ?_
  refine a_ldcs (q := 130 + 21) rfl (hw.ld (i := 21) (by decide)) ?_
  refine a_gV rfl lX12_128 mo_X12_passes (r_X12_passes (k := 21) hw (by decide) (Cs.pp C1)) rfl rfl rfl ⟨12, _, rfl, rfl, rfl⟩ rfl (fun v' h' hv => ?_)
  obtain ⟨z2, b2, p2, J2, rfl, rfl, h2, hz2⟩ := hv
  refine a_if_eq rfl (fun _ => ?_) (fun cz2 => ?_)
  rotate_left
  · have C2 := Cs.rd1 C1 h2 (hz2 (bI_t cz2))
    refine a_l0 rfl rfl rfl ?_
    refine a_geti rfl gfX12_194_12 rfl ?_
    refine a_top (y := nI 1) (Cs.d C2 hd) ?_
    refine a_s rfl rfl ?_
    refine a_ic_ne rfl (fun _ => ?_) (fun c => absurd c (by decide))
    refine a_l0 rfl rfl rfl ?_
    refine a_s rfl rfl ?_
    refine a_geti rfl gfX12_194_12 rfl ?_
    refine a_top (y := nI 1) (Cs.d C2 hd) ?_
    refine a_s rfl rfl ?_
    refine a_s rfl rfl ?_
    refine a_top (y := nI 2) (rfl) ?_
    refine a_puti rfl pfX12_194_12 rfl ?_
    refine a_l0 rfl rfl rfl ?_
    refine a_gV rfl lX12_202 mo_X12_readAtom (r_X12_readAtom_2 hw (by omega) (by omega) up2_at (Dq.up13 (Cs.dq C2))) rfl rfl rfl ⟨12, _, rfl, rfl, rfl⟩ rfl (fun v' h' hv => ?_)
    obtain ⟨z9, J9, p9, n9, rfl, rfl, f9, hp9, hq9, hz9⟩ := hv
    refine a_if_ne rfl (fun cz9 => ?_) (fun _ => ?_)
    rotate_left
    · refine a_s rfl rfl ?_
      exact a_zret rfl rfl rfl (QC.fc C2 (Fm.tr (Fm.up Fm.rf rfl) f9) hp9 hq9)
    obtain ⟨g13, gn, gq⟩ := hz9 (bI_t cz9)
    refine a_l0 rfl rfl rfl ?_
    refine a_s rfl rfl ?_
    refine a_geti rfl gfX12_194_12 rfl ?_
    refine a_top (y := nI 2) (g13.trans up2_at) ?_
    refine a_s rfl rfl ?_
    refine a_s rfl rfl ?_
    refine a_top (y := nI 1) (rfl) ?_
    refine a_puti rfl pfX12_194_12 rfl ?_
    have C9 := Cs.deep C2 hd f9 hp9 gn gq
    have hle := Cs.ln C9
    refine a_l0 rfl rfl rfl ?_
    refine a_s rfl rfl ?_
    refine a_s rfl rfl ?_
    refine a_eV0 rfl lX12_180 mo_X12_emits (r_X12_emits (Dq.st (Cs.dq C9)) (by omega)) rfl rfl rfl ⟨12, _, rfl, rfl, rfl⟩ rfl ?_
    refine a_s rfl rfl ?_
    exact a_zret rfl rfl rfl (QC.yes (Cs.em (k := 13) (m := 0) C9 (by decide) (by decide) rfl (by simp only [List.length_cons]; omega)))
  have C2 := Cs.rd C1 h2
  clear hz2
  refine a_l0 rfl rfl rfl ?_
  refine a_gV rfl lX12_205 mo_X12_readTag (r_X12_readTag hw (by omega) (Cs.dq C2)) rfl rfl rfl ⟨12, _, rfl, rfl, rfl⟩ rfl (fun v' h' hv => ?_)
  obtain ⟨z3, J3, p3, n3, rfl, rfl, ht3, hf3⟩ := hv
  refine a_if_eq rfl (fun cz3 => ?_) (fun cz3 => ?_)
  rotate_left
  · refine a_s rfl rfl ?_
    exact a_zret rfl rfl rfl (QC.yes (Cs.cc C2 (ht3 (bI_t cz3))))
  have C3 := Cs.cc C2 (hf3 (bI_f cz3))
  refine a_l0 rfl rfl rfl ?_
  refine a_gV rfl lX12_208 mo_X12_readSum (r_X12_readSum hw hc (by omega) (Cs.dq C3)) rfl rfl rfl ⟨12, _, rfl, rfl, rfl⟩ rfl (fun v' h' hv => ?_)
  obtain ⟨z4, J4, p4, n4, rfl, rfl, f4, hp4, hq4, hz4⟩ := hv
  refine a_if_ne rfl (fun cz4 => ?_) (fun _ => ?_)
  rotate_left
  · refine a_s rfl rfl ?_
    exact a_zret rfl rfl rfl (QC.fc C3 f4 hp4 hq4)
  have C4 := Cs.st C3 f4 hp4 (hz4 (bI_t cz4))
  have key : ∀ {z5 : Bool} {p' n' : Nat} {J : Nat → Nat → Int32}, Cs e p n a (false :: s) (c + 1) I J p' n' → AW S m_X12_readAtom 35 (QC e p n a (true :: s) c I L w1 w2 t) nX 0 0 152 [some (.ref 420), some (.int (bI z5))] [] (hp J L w1 w2 t) := by
    intro z5 p' n' J C
    refine a_l0 rfl rfl rfl ?_
    refine a_gV rfl lX12_208 mo_X12_readSum (r_X12_readSum hw (by omega) (by simp only [List.length_cons]; omega) (Cs.dq C)) rfl rfl rfl ⟨12, _, rfl, rfl, rfl⟩ rfl (fun v' h' hv => ?_)
    obtain ⟨z6, J6, p6, n6, rfl, rfl, f6, hp6, hq6, hz6⟩ := hv
    refine a_if_ne rfl (fun cz6 => ?_) (fun _ => ?_)
    rotate_left
    · refine a_s rfl rfl ?_
      exact a_zret rfl rfl rfl (QC.fc C f6 hp6 hq6)
    have C6 := Cs.st C f6 hp6 (hz6 (bI_t cz6))
    have hle := Cs.ln C6
    refine a_l0 rfl rfl rfl ?_
    refine a_l1 rfl rfl rfl ?_
    cases z5 with
    | false =>
      refine a_if_eq rfl (fun _ => ?_) (fun c => absurd rfl c)
      refine a_s rfl rfl ?_
      refine a_s rfl rfl ?_
      refine a_eV0 rfl lX12_180 mo_X12_emits (r_X12_emits (Dq.st (Cs.dq C6)) (by omega)) rfl rfl rfl ⟨12, _, rfl, rfl, rfl⟩ rfl ?_
      refine a_s rfl rfl ?_
      exact a_zret rfl rfl rfl (QC.yes (Cs.em (k := 12) (m := 0) C6 (by decide) (by decide) rfl (by simp only [List.length_cons]; omega)))
    | true =>
      refine a_if_eq rfl (fun c => absurd c (by decide)) (fun _ => ?_)
      refine a_s rfl rfl ?_
      refine a_goto rfl ?_
      refine a_s rfl rfl ?_
      refine a_eV0 rfl lX12_180 mo_X12_emits (r_X12_emits (Dq.st (Cs.dq C6)) (by omega)) rfl rfl rfl ⟨12, _, rfl, rfl, rfl⟩ rfl ?_
      refine a_s rfl rfl ?_
      exact a_zret rfl rfl rfl (QC.yes (Cs.em (k := 11) (m := 0) C6 (by decide) (by decide) rfl (by simp only [List.length_cons]; omega)))
  refine a_l0 rfl rfl rfl ?_
  refine a_s rfl rfl ?_
  refine a_gV rfl lX12_187 mo_X12_sign (r_X12_sign (Cs.pp C4)) rfl rfl rfl ⟨12, _, rfl, rfl, rfl⟩ rfl (fun v' h' hv => ?_)
  obtain ⟨z5, b5, p5, J5, rfl, rfl, h5, hz5⟩ := hv
  refine a_s1 rfl rfl rfl rfl rfl rfl ?_
  refine a_l1 rfl rfl rfl ?_
  refine a_if_ne rfl (fun cz5 => ?_) (fun _ => ?_)
  · exact key (Cs.rd1 C4 h5 (hz5 (bI_t cz5)))
  have C5 := Cs.rd C4 h5
  refine a_l0 rfl rfl rfl ?_
  refine a_s rfl rfl ?_
  refine a_gV rfl lX12_187 mo_X12_sign (r_X12_sign (Cs.pp C5)) rfl rfl rfl ⟨12, _, rfl, rfl, rfl⟩ rfl (fun v' h' hv => ?_)
  obtain ⟨z7, b7, p7, J7, rfl, rfl, h7, hz7⟩ := hv
  refine a_if_eq rfl (fun _ => ?_) (fun cz7 => ?_)
  · refine a_s rfl rfl ?_
    exact a_zret rfl rfl rfl (QC.f0 (Cs.rd C5 h7))
  · exact key (Cs.rd1 C5 h7 (hz7 (bI_t cz7)))
theorem r_X12_readAllOf_1 (hw : WdS S) (hc : 1 ≤ c) (hl : s.length + 14 ≤ 24) (hd : I 420 13 = nI 1) (h : Dq e p a n s c I) : Sp S m_X12_readAllOf 36 0 0 [.ref 420] (hp I L w1 w2 t) (QC e p n a (true :: s) c I L w1 w2 t) nX := by
  refine Sp_of ok_X12_readAllOf rfl rfl ?_
  show AW S m_X12_readAllOf 36 _ _ 0 0 0 [some (.ref 420)] [] (hp I L w1 w2 t)
  refine a_l0 rfl rfl rfl ?_
  refine a_gV rfl lX12_202 mo_X12_readAtom (r_X12_readAtom_1 hw hc (by omega) hd h) rfl rfl rfl ⟨12, _, rfl, rfl, rfl⟩ rfl (fun v' h' hv => ?_)
  obtain ⟨z, J1, p1, n1, rfl, rfl, f1, hp1, hq1, hz1⟩ := hv
  refine a_if_ne rfl (fun cz => ?_) (fun _ => ?_)
  rotate_left
  · refine a_s rfl rfl ?_
    exact a_zret rfl rfl rfl (QC.no f1 hp1 hq1)
  have C1 := Cs.st (Cs.rf h) f1 hp1 (hz1 (bI_t cz))
  refine a_inv (n := e - p1) (fun m ls h => ls = [some (.ref 420)] ∧ ∃ J p' n', h = hp J L w1 w2 t ∧ Cs e p n a (true :: s) c I J p' n' ∧ m = e - p') ⟨rfl, J1, p1, n1, rfl, C1, rfl⟩ ?_
  rintro m _ _ ⟨rfl, J, p', n', rfl, C, hm⟩ ih
  refine a_l0 rfl rfl rfl ?_
  refine a_ldcs (q := 130 + 20) rfl (hw.ld (i := 20) (by decide)) ?_
  refine a_gV rfl lX12_128 mo_X12_passes (r_X12_passes (k := 20) hw (by decide) (Cs.pp C)) rfl rfl rfl ⟨12, _, rfl, rfl, rfl⟩ rfl (fun v' h' hv => ?_)
  obtain ⟨z2, b2, p2, J2, rfl, rfl, h2, hz2⟩ := hv
  refine a_if_eq rfl (fun _ => ?_) (fun cz2 => ?_)
  · refine a_s rfl rfl ?_
    exact a_zret rfl rfl rfl (QC.yes (Cs.rd C h2))
  have hlt := hz2 (bI_t cz2)
  have C2 := Cs.rd1 C h2 hlt
  have q2 := Rd.pb h2
  have q3 := Pp.le (Cs.pp C2)
  refine a_l0 rfl rfl rfl ?_
  refine a_gV rfl lX12_202 mo_X12_readAtom (r_X12_readAtom_1 hw (by omega) (by simp only [List.length_cons]; omega) (Cs.d C2 hd) (Cs.dq C2)) rfl rfl rfl ⟨12, _, rfl, rfl, rfl⟩ rfl (fun v' h' hv => ?_)
  obtain ⟨z3, J3, p3, n3, rfl, rfl, f3, hp3, hq3, hz3⟩ := hv
  refine a_if_ne rfl (fun cz3 => ?_) (fun _ => ?_)
  rotate_left
  · refine a_s rfl rfl ?_
    exact a_zret rfl rfl rfl (QC.fc C2 f3 hp3 hq3)
  have C3 := Cs.st C2 f3 hp3 (hz3 (bI_t cz3))
  have hle := Cs.ln C3
  refine a_l0 rfl rfl rfl ?_
  refine a_s rfl rfl ?_
  refine a_s rfl rfl ?_
  refine a_eV0 rfl lX12_180 mo_X12_emits (r_X12_emits (Dq.st (Cs.dq C3)) (by omega)) rfl rfl rfl ⟨12, _, rfl, rfl, rfl⟩ rfl ?_
  refine a_goto rfl ?_
  exact ih (e - p3) _ _ (by omega) ⟨rfl, _, p3, n3 + 1, rfl, Cs.em (k := 14) (m := 0) C3 (by decide) (by decide) rfl (by simp only [List.length_cons]; omega), rfl⟩
theorem r_X12_readCond_1 (hw : WdS S) (hc : 1 ≤ c) (hl : s.length + 15 ≤ 24) (hd : I 420 13 = nI 1) (h : Dq e p a n s c I) : Sp S m_X12_readCond 37 0 0 [.ref 420] (hp I L w1 w2 t) (QC e p n a (true :: s) c I L w1 w2 t) nX := by
  refine Sp_of ok_X12_readCond rfl rfl ?_
  show AW S m_X12_readCond 37 _ _ 0 0 0 [some (.ref 420)] [] (hp I L w1 w2 t)
  refine a_l0 rfl rfl rfl ?_
  refine a_gV rfl lX12_213 mo_X12_readAllOf (r_X12_readAllOf_1 hw hc (by omega) hd h) rfl rfl rfl ⟨12, _, rfl, rfl, rfl⟩ rfl (fun v' h' hv => ?_)
  obtain ⟨z, J1, p1, n1, rfl, rfl, f1, hp1, hq1, hz1⟩ := hv
  refine a_if_ne rfl (fun cz => ?_) (fun _ => ?_)
  rotate_left
  · refine a_s rfl rfl ?_
    exact a_zret rfl rfl rfl (QC.no f1 hp1 hq1)
  have C1 := Cs.st (Cs.rf h) f1 hp1 (hz1 (bI_t cz))
  refine a_inv (n := e - p1) (fun m ls h => ls = [some (.ref 420)] ∧ ∃ J p' n', h = hp J L w1 w2 t ∧ Cs e p n a (true :: s) c I J p' n' ∧ m = e - p') ⟨rfl, J1, p1, n1, rfl, C1, rfl⟩ ?_
  rintro m _ _ ⟨rfl, J, p', n', rfl, C, hm⟩ ih
  refine a_l0 rfl rfl rfl ?_
  refine a_ldcs (q := 130 + 19) rfl (hw.ld (i := 19) (by decide)) ?_
  refine a_gV rfl lX12_128 mo_X12_passes (r_X12_passes (k := 19) hw (by decide) (Cs.pp C)) rfl rfl rfl ⟨12, _, rfl, rfl, rfl⟩ rfl (fun v' h' hv => ?_)
  obtain ⟨z2, b2, p2, J2, rfl, rfl, h2, hz2⟩ := hv
  refine a_if_eq rfl (fun _ => ?_) (fun cz2 => ?_)
  · refine a_s rfl rfl ?_
    exact a_zret rfl rfl rfl (QC.yes (Cs.rd C h2))
  have hlt := hz2 (bI_t cz2)
  have C2 := Cs.rd1 C h2 hlt
  have q2 := Rd.pb h2
  have q3 := Pp.le (Cs.pp C2)
  refine a_l0 rfl rfl rfl ?_
  refine a_gV rfl lX12_213 mo_X12_readAllOf (r_X12_readAllOf_1 hw (by omega) (by simp only [List.length_cons]; omega) (Cs.d C2 hd) (Cs.dq C2)) rfl rfl rfl ⟨12, _, rfl, rfl, rfl⟩ rfl (fun v' h' hv => ?_)
  obtain ⟨z3, J3, p3, n3, rfl, rfl, f3, hp3, hq3, hz3⟩ := hv
  refine a_if_ne rfl (fun cz3 => ?_) (fun _ => ?_)
  rotate_left
  · refine a_s rfl rfl ?_
    exact a_zret rfl rfl rfl (QC.fc C2 f3 hp3 hq3)
  have C3 := Cs.st C2 f3 hp3 (hz3 (bI_t cz3))
  have hle := Cs.ln C3
  refine a_l0 rfl rfl rfl ?_
  refine a_s rfl rfl ?_
  refine a_s rfl rfl ?_
  refine a_eV0 rfl lX12_180 mo_X12_emits (r_X12_emits (Dq.st (Cs.dq C3)) (by omega)) rfl rfl rfl ⟨12, _, rfl, rfl, rfl⟩ rfl ?_
  refine a_goto rfl ?_
  exact ih (e - p3) _ _ (by omega) ⟨rfl, _, p3, n3 + 1, rfl, Cs.em (k := 15) (m := 0) C3 (by decide) (by decide) rfl (by simp only [List.length_cons]; omega), rfl⟩
theorem r_X12_readAtom_0 (hw : WdS S) (hc : 1 ≤ c) (hl : s.length + 15 ≤ 24) (hd : I 420 13 = nI 0) (h : Dq e p a n s c I) : Sp S m_X12_readAtom 38 0 0 [.ref 420] (hp I L w1 w2 t) (QC e p n a (true :: s) c I L w1 w2 t) nX := by
  refine Sp_of ok_X12_readAtom rfl rfl ?_
  show AW S m_X12_readAtom 38 _ _ 0 0 0 [some (.ref 420), none] [] (hp I L w1 w2 t)
  refine a_l0 rfl rfl rfl ?_
  refine a_s rfl rfl ?_
  refine a_gV rfl lX12_187 mo_X12_sign (r_X12_sign (Dq.pp h)) rfl rfl rfl ⟨12, _, rfl, rfl, rfl⟩ rfl (fun v' h' hv => ?_)
  obtain ⟨z, b1, p1, J1, rfl, rfl, h1, hz⟩ := hv
  have C1 := Cs.rd (Cs.rf h) h1
  clear hz
  refine a_if_eq rfl (fun _ => ?_) (fun cz => ?_)
  rotate_left
  · refine a_l0 rfl rfl rfl ?_
    refine a_geti rfl gfX12_194_12 rfl ?_
    refine a_top (y := nI 0) (Cs.d C1 hd) ?_
    refine a_s rfl rfl ?_
    refine a_ic_ne rfl (fun _ => ?_) (fun c => absurd c (by decide))
    refine a_l0 rfl rfl rfl ?_
    refine a_s rfl rfl ?_
    refine a_geti rfl gfX12_194_12 rfl ?_
    refine a_top (y := nI 0) (Cs.d C1 hd) ?_
    refine a_s rfl rfl ?_
    refine a_s rfl rfl ?_
    refine a_top (y := nI 1) (rfl) ?_
    refine a_puti rfl pfX12_194_12 rfl ?_
    refine a_l0 rfl rfl rfl ?_
    refine a_gV rfl lX12_197 mo_X12_readCond (r_X12_readCond_1 hw (by omega) (by omega) up2_at (Dq.up13 (Cs.dq C1))) rfl rfl rfl ⟨12, _, rfl, rfl, rfl⟩ rfl (fun v' h' hv => ?_)
    obtain ⟨z9, J9, p9, n9, rfl, rfl, f9, hp9, hq9, hz9⟩ := hv
    refine a_if_ne rfl (fun cz9 => ?_) (fun _ => ?_)
    rotate_left
    · refine a_s rfl rfl ?_
      exact a_zret rfl rfl rfl (QC.fc C1 (Fm.tr (Fm.up Fm.rf rfl) f9) hp9 hq9)
    obtain ⟨g13, gn, gq⟩ := hz9 (bI_t cz9)
    refine a_l0 rfl rfl rfl ?_
    refine a_s rfl rfl ?_
    refine a_geti rfl gfX12_194_12 rfl ?_
    refine a_top (y := nI 1) (g13.trans up2_at) ?_
    refine a_s rfl rfl ?_
    refine a_s rfl rfl ?_
    refine a_top (y := nI 0) (rfl) ?_
    refine a_puti rfl pfX12_194_12 rfl ?_
    have C9 := Cs.deep C1 hd f9 hp9 gn gq
    refine a_l0 rfl rfl rfl ?_
    refine a_s rfl rfl ?_
    refine a_gV rfl lX12_187 mo_X12_sign (r_X12_sign (Cs.pp C9)) rfl rfl rfl ⟨12, _, rfl, rfl, rfl⟩ rfl (fun v' h' hv => ?_)
    obtain ⟨z3, b3, p3, J3, rfl, rfl, h3, -⟩ := hv
    cases z3 with
    | false => exact a_zret rfl rfl rfl (QC.f0 (Cs.rd C9 h3))
    | true => exact a_zret rfl rfl rfl (QC.yes (Cs.rd C9 h3))
  refine a_l0 rfl rfl rfl ?_
  refine a_ldcs (q := 130 + 21) rfl (hw.ld (i := 21) (by decide)) ?_
  refine a_gV rfl lX12_128 mo_X12_passes (r_X12_passes (k := 21) hw (by decide) (Cs.pp C1)) rfl rfl rfl ⟨12, _, rfl, rfl, rfl⟩ rfl (fun v' h' hv => ?_)
  obtain ⟨z2, b2, p2, J2, rfl, rfl, h2, hz2⟩ := hv
  refine a_if_eq rfl (fun _ => ?_) (fun cz2 => ?_)
  rotate_left
  · have C2 := Cs.rd1 C1 h2 (hz2 (bI_t cz2))
    refine a_l0 rfl rfl rfl ?_
    refine a_geti rfl gfX12_194_12 rfl ?_
    refine a_top (y := nI 0) (Cs.d C2 hd) ?_
    refine a_s rfl rfl ?_
    refine a_ic_ne rfl (fun _ => ?_) (fun c => absurd c (by decide))
    refine a_l0 rfl rfl rfl ?_
    refine a_s rfl rfl ?_
    refine a_geti rfl gfX12_194_12 rfl ?_
    refine a_top (y := nI 0) (Cs.d C2 hd) ?_
    refine a_s rfl rfl ?_
    refine a_s rfl rfl ?_
    refine a_top (y := nI 1) (rfl) ?_
    refine a_puti rfl pfX12_194_12 rfl ?_
    refine a_l0 rfl rfl rfl ?_
    refine a_gV rfl lX12_202 mo_X12_readAtom (r_X12_readAtom_1 hw (by omega) (by omega) up2_at (Dq.up13 (Cs.dq C2))) rfl rfl rfl ⟨12, _, rfl, rfl, rfl⟩ rfl (fun v' h' hv => ?_)
    obtain ⟨z9, J9, p9, n9, rfl, rfl, f9, hp9, hq9, hz9⟩ := hv
    refine a_if_ne rfl (fun cz9 => ?_) (fun _ => ?_)
    rotate_left
    · refine a_s rfl rfl ?_
      exact a_zret rfl rfl rfl (QC.fc C2 (Fm.tr (Fm.up Fm.rf rfl) f9) hp9 hq9)
    obtain ⟨g13, gn, gq⟩ := hz9 (bI_t cz9)
    refine a_l0 rfl rfl rfl ?_
    refine a_s rfl rfl ?_
    refine a_geti rfl gfX12_194_12 rfl ?_
    refine a_top (y := nI 1) (g13.trans up2_at) ?_
    refine a_s rfl rfl ?_
    refine a_s rfl rfl ?_
    refine a_top (y := nI 0) (rfl) ?_
    refine a_puti rfl pfX12_194_12 rfl ?_
    have C9 := Cs.deep C2 hd f9 hp9 gn gq
    have hle := Cs.ln C9
    refine a_l0 rfl rfl rfl ?_
    refine a_s rfl rfl ?_
    refine a_s rfl rfl ?_
    refine a_eV0 rfl lX12_180 mo_X12_emits (r_X12_emits (Dq.st (Cs.dq C9)) (by omega)) rfl rfl rfl ⟨12, _, rfl, rfl, rfl⟩ rfl ?_
    refine a_s rfl rfl ?_
    exact a_zret rfl rfl rfl (QC.yes (Cs.em (k := 13) (m := 0) C9 (by decide) (by decide) rfl (by simp only [List.length_cons]; omega)))
  have C2 := Cs.rd C1 h2
  clear hz2
  refine a_l0 rfl rfl rfl ?_
  refine a_gV rfl lX12_205 mo_X12_readTag (r_X12_readTag hw (by omega) (Cs.dq C2)) rfl rfl rfl ⟨12, _, rfl, rfl, rfl⟩ rfl (fun v' h' hv => ?_)
  obtain ⟨z3, J3, p3, n3, rfl, rfl, ht3, hf3⟩ := hv
  refine a_if_eq rfl (fun cz3 => ?_) (fun cz3 => ?_)
  rotate_left
  · refine a_s rfl rfl ?_
    exact a_zret rfl rfl rfl (QC.yes (Cs.cc C2 (ht3 (bI_t cz3))))
  have C3 := Cs.cc C2 (hf3 (bI_f cz3))
  refine a_l0 rfl rfl rfl ?_
  refine a_gV rfl lX12_208 mo_X12_readSum (r_X12_readSum hw hc (by omega) (Cs.dq C3)) rfl rfl rfl ⟨12, _, rfl, rfl, rfl⟩ rfl (fun v' h' hv => ?_)
  obtain ⟨z4, J4, p4, n4, rfl, rfl, f4, hp4, hq4, hz4⟩ := hv
  refine a_if_ne rfl (fun cz4 => ?_) (fun _ => ?_)
  rotate_left
  · refine a_s rfl rfl ?_
    exact a_zret rfl rfl rfl (QC.fc C3 f4 hp4 hq4)
  have C4 := Cs.st C3 f4 hp4 (hz4 (bI_t cz4))
  have key : ∀ {z5 : Bool} {p' n' : Nat} {J : Nat → Nat → Int32}, Cs e p n a (false :: s) (c + 1) I J p' n' → AW S m_X12_readAtom 38 (QC e p n a (true :: s) c I L w1 w2 t) nX 0 0 152 [some (.ref 420), some (.int (bI z5))] [] (hp J L w1 w2 t) := by
    intro z5 p' n' J C
    refine a_l0 rfl rfl rfl ?_
    refine a_gV rfl lX12_208 mo_X12_readSum (r_X12_readSum hw (by omega) (by simp only [List.length_cons]; omega) (Cs.dq C)) rfl rfl rfl ⟨12, _, rfl, rfl, rfl⟩ rfl (fun v' h' hv => ?_)
    obtain ⟨z6, J6, p6, n6, rfl, rfl, f6, hp6, hq6, hz6⟩ := hv
    refine a_if_ne rfl (fun cz6 => ?_) (fun _ => ?_)
    rotate_left
    · refine a_s rfl rfl ?_
      exact a_zret rfl rfl rfl (QC.fc C f6 hp6 hq6)
    have C6 := Cs.st C f6 hp6 (hz6 (bI_t cz6))
    have hle := Cs.ln C6
    refine a_l0 rfl rfl rfl ?_
    refine a_l1 rfl rfl rfl ?_
    cases z5 with
    | false =>
      refine a_if_eq rfl (fun _ => ?_) (fun c => absurd rfl c)
      refine a_s rfl rfl ?_
      refine a_s rfl rfl ?_
      refine a_eV0 rfl lX12_180 mo_X12_emits (r_X12_emits (Dq.st (Cs.dq C6)) (by omega)) rfl rfl rfl ⟨12, _, rfl, rfl, rfl⟩ rfl ?_
      refine a_s rfl rfl ?_
      exact a_zret rfl rfl rfl (QC.yes (Cs.em (k := 12) (m := 0) C6 (by decide) (by decide) rfl (by simp only [List.length_cons]; omega)))
    | true =>
      refine a_if_eq rfl (fun c => absurd c (by decide)) (fun _ => ?_)
      refine a_s rfl rfl ?_
      refine a_goto rfl ?_
      refine a_s rfl rfl ?_
      refine a_eV0 rfl lX12_180 mo_X12_emits (r_X12_emits (Dq.st (Cs.dq C6)) (by omega)) rfl rfl rfl ⟨12, _, rfl, rfl, rfl⟩ rfl ?_
      refine a_s rfl rfl ?_
      exact a_zret rfl rfl rfl (QC.yes (Cs.em (k := 11) (m := 0) C6 (by decide) (by decide) rfl (by simp only [List.length_cons]; omega)))
  refine a_l0 rfl rfl rfl ?_
  refine a_s rfl rfl ?_
  refine a_gV rfl lX12_187 mo_X12_sign (r_X12_sign (Cs.pp C4)) rfl rfl rfl ⟨12, _, rfl, rfl, rfl⟩ rfl (fun v' h' hv => ?_)
  obtain ⟨z5, b5, p5, J5, rfl, rfl, h5, hz5⟩ := hv
  refine a_s1 rfl rfl rfl rfl rfl rfl ?_
  refine a_l1 rfl rfl rfl ?_
  refine a_if_ne rfl (fun cz5 => ?_) (fun _ => ?_)
  · exact key (Cs.rd1 C4 h5 (hz5 (bI_t cz5)))
  have C5 := Cs.rd C4 h5
  refine a_l0 rfl rfl rfl ?_
  refine a_s rfl rfl ?_
  refine a_gV rfl lX12_187 mo_X12_sign (r_X12_sign (Cs.pp C5)) rfl rfl rfl ⟨12, _, rfl, rfl, rfl⟩ rfl (fun v' h' hv => ?_)
  obtain ⟨z7, b7, p7, J7, rfl, rfl, h7, hz7⟩ := hv
  refine a_if_eq rfl (fun _ => ?_) (fun cz7 => ?_)
  · refine a_s rfl rfl ?_
    exact a_zret rfl rfl rfl (QC.f0 (Cs.rd C5 h7))
  · exact key (Cs.rd1 C5 h7 (hz7 (bI_t cz7)))
theorem r_X12_readAllOf_0 (hw : WdS S) (hc : 1 ≤ c) (hl : s.length + 16 ≤ 24) (hd : I 420 13 = nI 0) (h : Dq e p a n s c I) : Sp S m_X12_readAllOf 39 0 0 [.ref 420] (hp I L w1 w2 t) (QC e p n a (true :: s) c I L w1 w2 t) nX := by
  refine Sp_of ok_X12_readAllOf rfl rfl ?_
  show AW S m_X12_readAllOf 39 _ _ 0 0 0 [some (.ref 420)] [] (hp I L w1 w2 t)
  refine a_l0 rfl rfl rfl ?_
  refine a_gV rfl lX12_202 mo_X12_readAtom (r_X12_readAtom_0 hw hc (by omega) hd h) rfl rfl rfl ⟨12, _, rfl, rfl, rfl⟩ rfl (fun v' h' hv => ?_)
  obtain ⟨z, J1, p1, n1, rfl, rfl, f1, hp1, hq1, hz1⟩ := hv
  refine a_if_ne rfl (fun cz => ?_) (fun _ => ?_)
  rotate_left
  · refine a_s rfl rfl ?_
    exact a_zret rfl rfl rfl (QC.no f1 hp1 hq1)
  have C1 := Cs.st (Cs.rf h) f1 hp1 (hz1 (bI_t cz))
  refine a_inv (n := e - p1) (fun m ls h => ls = [some (.ref 420)] ∧ ∃ J p' n', h = hp J L w1 w2 t ∧ Cs e p n a (true :: s) c I J p' n' ∧ m = e - p') ⟨rfl, J1, p1, n1, rfl, C1, rfl⟩ ?_
  rintro m _ _ ⟨rfl, J, p', n', rfl, C, hm⟩ ih
  refine a_l0 rfl rfl rfl ?_
  refine a_ldcs (q := 130 + 20) rfl (hw.ld (i := 20) (by decide)) ?_
  refine a_gV rfl lX12_128 mo_X12_passes (r_X12_passes (k := 20) hw (by decide) (Cs.pp C)) rfl rfl rfl ⟨12, _, rfl, rfl, rfl⟩ rfl (fun v' h' hv => ?_)
  obtain ⟨z2, b2, p2, J2, rfl, rfl, h2, hz2⟩ := hv
  refine a_if_eq rfl (fun _ => ?_) (fun cz2 => ?_)
  · refine a_s rfl rfl ?_
    exact a_zret rfl rfl rfl (QC.yes (Cs.rd C h2))
  have hlt := hz2 (bI_t cz2)
  have C2 := Cs.rd1 C h2 hlt
  have q2 := Rd.pb h2
  have q3 := Pp.le (Cs.pp C2)
  refine a_l0 rfl rfl rfl ?_
  refine a_gV rfl lX12_202 mo_X12_readAtom (r_X12_readAtom_0 hw (by omega) (by simp only [List.length_cons]; omega) (Cs.d C2 hd) (Cs.dq C2)) rfl rfl rfl ⟨12, _, rfl, rfl, rfl⟩ rfl (fun v' h' hv => ?_)
  obtain ⟨z3, J3, p3, n3, rfl, rfl, f3, hp3, hq3, hz3⟩ := hv
  refine a_if_ne rfl (fun cz3 => ?_) (fun _ => ?_)
  rotate_left
  · refine a_s rfl rfl ?_
    exact a_zret rfl rfl rfl (QC.fc C2 f3 hp3 hq3)
  have C3 := Cs.st C2 f3 hp3 (hz3 (bI_t cz3))
  have hle := Cs.ln C3
  refine a_l0 rfl rfl rfl ?_
  refine a_s rfl rfl ?_
  refine a_s rfl rfl ?_
  refine a_eV0 rfl lX12_180 mo_X12_emits (r_X12_emits (Dq.st (Cs.dq C3)) (by omega)) rfl rfl rfl ⟨12, _, rfl, rfl, rfl⟩ rfl ?_
  refine a_goto rfl ?_
  exact ih (e - p3) _ _ (by omega) ⟨rfl, _, p3, n3 + 1, rfl, Cs.em (k := 14) (m := 0) C3 (by decide) (by decide) rfl (by simp only [List.length_cons]; omega), rfl⟩
theorem r_X12_readCond_0 (hw : WdS S) (hc : 1 ≤ c) (hl : s.length + 17 ≤ 24) (hd : I 420 13 = nI 0) (h : Dq e p a n s c I) : Sp S m_X12_readCond 40 0 0 [.ref 420] (hp I L w1 w2 t) (QC e p n a (true :: s) c I L w1 w2 t) nX := by
  refine Sp_of ok_X12_readCond rfl rfl ?_
  show AW S m_X12_readCond 40 _ _ 0 0 0 [some (.ref 420)] [] (hp I L w1 w2 t)
  refine a_l0 rfl rfl rfl ?_
  refine a_gV rfl lX12_213 mo_X12_readAllOf (r_X12_readAllOf_0 hw hc (by omega) hd h) rfl rfl rfl ⟨12, _, rfl, rfl, rfl⟩ rfl (fun v' h' hv => ?_)
  obtain ⟨z, J1, p1, n1, rfl, rfl, f1, hp1, hq1, hz1⟩ := hv
  refine a_if_ne rfl (fun cz => ?_) (fun _ => ?_)
  rotate_left
  · refine a_s rfl rfl ?_
    exact a_zret rfl rfl rfl (QC.no f1 hp1 hq1)
  have C1 := Cs.st (Cs.rf h) f1 hp1 (hz1 (bI_t cz))
  refine a_inv (n := e - p1) (fun m ls h => ls = [some (.ref 420)] ∧ ∃ J p' n', h = hp J L w1 w2 t ∧ Cs e p n a (true :: s) c I J p' n' ∧ m = e - p') ⟨rfl, J1, p1, n1, rfl, C1, rfl⟩ ?_
  rintro m _ _ ⟨rfl, J, p', n', rfl, C, hm⟩ ih
  refine a_l0 rfl rfl rfl ?_
  refine a_ldcs (q := 130 + 19) rfl (hw.ld (i := 19) (by decide)) ?_
  refine a_gV rfl lX12_128 mo_X12_passes (r_X12_passes (k := 19) hw (by decide) (Cs.pp C)) rfl rfl rfl ⟨12, _, rfl, rfl, rfl⟩ rfl (fun v' h' hv => ?_)
  obtain ⟨z2, b2, p2, J2, rfl, rfl, h2, hz2⟩ := hv
  refine a_if_eq rfl (fun _ => ?_) (fun cz2 => ?_)
  · refine a_s rfl rfl ?_
    exact a_zret rfl rfl rfl (QC.yes (Cs.rd C h2))
  have hlt := hz2 (bI_t cz2)
  have C2 := Cs.rd1 C h2 hlt
  have q2 := Rd.pb h2
  have q3 := Pp.le (Cs.pp C2)
  refine a_l0 rfl rfl rfl ?_
  refine a_gV rfl lX12_213 mo_X12_readAllOf (r_X12_readAllOf_0 hw (by omega) (by simp only [List.length_cons]; omega) (Cs.d C2 hd) (Cs.dq C2)) rfl rfl rfl ⟨12, _, rfl, rfl, rfl⟩ rfl (fun v' h' hv => ?_)
  obtain ⟨z3, J3, p3, n3, rfl, rfl, f3, hp3, hq3, hz3⟩ := hv
  refine a_if_ne rfl (fun cz3 => ?_) (fun _ => ?_)
  rotate_left
  · refine a_s rfl rfl ?_
    exact a_zret rfl rfl rfl (QC.fc C2 f3 hp3 hq3)
  have C3 := Cs.st C2 f3 hp3 (hz3 (bI_t cz3))
  have hle := Cs.ln C3
  refine a_l0 rfl rfl rfl ?_
  refine a_s rfl rfl ?_
  refine a_s rfl rfl ?_
  refine a_eV0 rfl lX12_180 mo_X12_emits (r_X12_emits (Dq.st (Cs.dq C3)) (by omega)) rfl rfl rfl ⟨12, _, rfl, rfl, rfl⟩ rfl ?_
  refine a_goto rfl ?_
  exact ih (e - p3) _ _ (by omega) ⟨rfl, _, p3, n3 + 1, rfl, Cs.em (k := 15) (m := 0) C3 (by decide) (by decide) rfl (by simp only [List.length_cons]; omega), rfl⟩
end T72
