/-! ===== the reference: the street's lines ===== -/
section T68
variable {S : aS} {I : Nat → Nat → Int32} {L : Nat → Nat → Int64} {w1 w2 t : Nat} {e p nd np : Nat}
set_option maxRecDepth 100000
def stC (k : Nat) : Bool := Nat.blt k 95 && !(Nat.beq k 3 || Nat.beq k 9)
/-- what reading a street may change -/
def sS (q k : Nat) : Bool := sR q k || (Nat.beq q 421 && stC k)
theorem sR_sS : ∀ q k, sR q k = true → sS q k = true := fun q k h => by
  unfold sS
  rw [h]
  rfl
theorem sS_at {k : Nat} (h : stC k = true) : sS 421 k = true := by
  unfold sS
  rw [h]
  rfl
theorem stC_of : ∀ k, k < 95 → k ≠ 3 → k ≠ 9 → stC k = true := by decide +kernel
/-- ranges that a street's lines keep -/
def SF (nd np : Nat) (J : Nat → Nat → Int32) : Prop := SO nd np (J 421) ∧ FrW np (J 421)
def Rs (e p p' : Nat) (I J : Nat → Nat → Int32) : Prop := Fm sS I J ∧ (∃ nd np, SF nd np J) ∧ p ≤ p' ∧ Pp e p' J
theorem Rd.w {b p' : Nat} {J : Nat → Nat → Int32} (h : Rd e p b p' I J) : J 421 = I 421 := funext fun k => Rd.fm h 421 k rfl
theorem SF.eq {J : Nat → Nat → Int32} (h : SF nd np I) (e : J 421 = I 421) : SF nd np J := by
  unfold SF
  rw [e]
  exact h
theorem Rs.of {b p' : Nat} {J : Nat → Nat → Int32} (h : Rd e p b p' I J) (s : SF nd np I) : Rs e p p' I J := ⟨Fm.mo (Rd.fm h) sR_sS, ⟨nd, np, SF.eq s (Rd.w h)⟩, Nat.le_trans (Rd.pb h) (Rd.bp h), Rd.pp h⟩
theorem Rs.tr {p1 p' : Nat} {J K : Nat → Nat → Int32} (h : Rs e p p1 I J) (h2 : Rs e p1 p' J K) : Rs e p p' I K := ⟨Fm.tr h.1 h2.1, h2.2.1, Nat.le_trans h.2.2.1 h2.2.2.1, h2.2.2.2⟩
theorem Rs.td {b p1 p' : Nat} {J K : Nat → Nat → Int32} (h : Rd e p b p1 I J) (h2 : Rs e p1 p' J K) : Rs e p p' I K := ⟨Fm.tr (Fm.mo (Rd.fm h) sR_sS) h2.1, h2.2.1, Nat.le_trans (Nat.le_trans (Rd.pb h) (Rd.bp h)) h2.2.2.1, h2.2.2.2⟩
/-- the world is written at some places; the tape is not -/
theorem Rs.wr {J : Nat → Nat → Int32} (hq : Pp e p I) (f : Fm sS I J) (h0 : J 420 = I 420) (s : ∃ nd np, SF nd np J) : Rs e p p I J := ⟨f, s, Nat.le_refl _, by unfold Pp; rw [h0]; exact hq⟩
theorem le0 {x y : Int32} (h1 : 0 ≤ x) (h2 : x ≤ y) : inB x 0 y = true := decide_eq_true ⟨h1, h2⟩
theorem nmN {x : Int32} {b p' m : Nat} (hm : m < 2 ^ 31) (h : x = -1 ∨ (b < p' ∧ 0 ≤ x ∧ x ≤ nI m)) : x = -1 ∨ ∃ k, k ≤ m ∧ x = nI k := by
  rcases h with h | ⟨-, h1, h2⟩
  · exact Or.inl h
  · obtain ⟨k, -, hk, rfl⟩ := inB_nI (a := 0) (b := m) ⟨by decide, hm⟩ (le0 h1 h2)
    exact Or.inr ⟨k, hk, rfl⟩
theorem nmI {x : Int32} {b p' n : Nat} (hn : n < 2 ^ 31) (h : x = -1 ∨ (b < p' ∧ 0 ≤ x ∧ x ≤ nI n - 1)) : x = -1 ∨ ∃ k, k < n ∧ x = nI k := by
  rcases h with h | ⟨-, h1, h2⟩
  · exact Or.inl h
  · refine Or.inr (isIx hn ?_)
    rw [le0 h1 h2]
    rfl
theorem SO.pers {W W' : Nat → Int32} (h : SO nd np W) (hf : FrW np W) (h6 : np < 6) {f : Nat} (hf9 : f ≤ 9) (e0 : W' 0 = nI (np + 1)) (e1 : W' (11 + 2 * np + 1) = nI f) (eo : ∀ k, k ≠ 0 → k ≠ 11 + 2 * np → k ≠ 11 + 2 * np + 1 → W' k = W k) : SO nd (np + 1) W' ∧ FrW (np + 1) W' := by
  have hn := h.n
  refine ⟨⟨h.n, by omega, (eo 1 (by omega) (by omega) (by omega)).trans h.du, e0, fun d hd => ?_, fun d hd => ?_, fun d hd => ?_, fun z => h.h7 ((eo 7 (by omega) (by omega) (by omega)).symm.trans z)⟩, fun q hq => ?_⟩
  · rw [show vd W' 4 d = vd W 4 d from eo _ (by omega) (by omega) (by omega)]
    exact h.l d hd
  · rw [show vd W' 0 d = vd W 0 d from eo _ (by omega) (by omega) (by omega)]
    obtain ⟨p, g1, g2⟩ := h.o d hd
    exact ⟨p, by omega, g2⟩
  · rw [show vd W' 3 d = vd W 3 d from eo _ (by omega) (by omega) (by omega)]
    exact h.t d hd
  · by_cases c : q = np
    · subst c
      exact ⟨f, hf9, e1⟩
    · obtain ⟨g, g1, g2⟩ := hf q (by omega)
      exact ⟨g, g1, (eo _ (by omega) (by omega) (by omega)).trans g2⟩
theorem SO.duty {W W' : Nat → Int32} (h : SO nd np W) (hf : FrW np W) (h12 : nd < 12) {j : Nat} {x3 x4 : Int32} (hj : j < np) (h3 : x3 = -1 ∨ ∃ k, k < 6 ∧ x3 = nI k) (h4 : x4 = -1 ∨ ∃ k, k < nd ∧ x4 = nI k) (e1 : W' 1 = nI (nd + 1)) (d0 : W' (23 + 6 * nd + 0) = nI j) (d3 : W' (23 + 6 * nd + 3) = x3) (d4 : W' (23 + 6 * nd + 4) = x4) (eo : ∀ k, k ≠ 1 → k < 23 + 6 * nd → W' k = W k) : SO (nd + 1) np W' ∧ FrW np W' := by
  have hn := h.n
  have h6 := h.p
  refine ⟨⟨by omega, h.p, e1, (eo 0 (by omega) (by omega)).trans h.pu, fun d hd => ?_, fun d hd => ?_, fun d hd => ?_, fun z => h.h7 ((eo 7 (by omega) (by omega)).symm.trans z)⟩, fun q hq => ?_⟩
  · by_cases c : d = nd
    · subst c
      rcases h4 with z | ⟨k, k1, k2⟩
      · exact Or.inl (d4.trans z)
      · exact Or.inr ⟨k, by omega, d4.trans k2⟩
    · rw [show vd W' 4 d = vd W 4 d from eo _ (by omega) (by omega)]
      rcases h.l d (by omega) with z | ⟨k, k1, k2⟩
      · exact Or.inl z
      · exact Or.inr ⟨k, by omega, k2⟩
  · by_cases c : d = nd
    · subst c
      exact ⟨j, hj, d0⟩
    · rw [show vd W' 0 d = vd W 0 d from eo _ (by omega) (by omega)]
      exact h.o d (by omega)
  · by_cases c : d = nd
    · subst c
      rw [show vd W' 3 d = x3 from d3]
      exact h3
    · rw [show vd W' 3 d = vd W 3 d from eo _ (by omega) (by omega)]
      exact h.t d (by omega)
  · obtain ⟨g, g1, g2⟩ := hf q hq
    exact ⟨g, g1, (eo _ (by omega) (by omega)).trans g2⟩
/-- a line of the street: read, well or not -/
def QL (e p : Nat) (I : Nat → Nat → Int32) (L : Nat → Nat → Int64) (w1 w2 t : Nat) : Option Value → aH → Prop := fun v h' => ∃ z p' J, v = some (.int (bI z)) ∧ h' = hp J L w1 w2 t ∧ Rs e p p' I J
theorem QL.td {b p1 : Nat} {J : Nat → Nat → Int32} (h : Rd e p b p1 I J) {v : Option Value} {h' : aH} (h2 : QL e p1 J L w1 w2 t v h') : QL e p I L w1 w2 t v h' := by
  obtain ⟨z, p', K, e1, e2, e3⟩ := h2
  exact ⟨z, p', K, e1, e2, Rs.td h e3⟩
theorem QL.re (hq : Pp e p I) (s : SF nd np I) {z : Bool} : QL e p I L w1 w2 t (some (.int (bI z))) (hp I L w1 w2 t) := ⟨z, p, I, rfl, rfl, Rs.wr hq Fm.rf rfl ⟨nd, np, s⟩⟩
theorem QL.rd {b p' : Nat} {J : Nat → Nat → Int32} (h : Rd e p b p' I J) (s : SF nd np I) {z : Bool} : QL e p I L w1 w2 t (some (.int (bI z))) (hp J L w1 w2 t) := ⟨z, p', J, rfl, rfl, Rs.of h s⟩
theorem r_X12_readPerson (hw : WdS S) (s : SF nd np I) (hq : Pp e p I) : Sp S m_X12_readPerson 18 0 0 [.ref 420] (hp I L w1 w2 t) (QL e p I L w1 w2 t) nX := by
  have hs := s.1
  have h6 := hs.p
  refine Sp_of ok_X12_readPerson rfl rfl ?_
  show AW S m_X12_readPerson 18 _ _ 0 0 0 [some (.ref 420), none, none, none] [] (hp I L w1 w2 t)
  refine a_l0 rfl rfl rfl ?_
  refine a_eV1 rfl lX12_66 mo_X12_people sp_X12_people rfl rfl rfl ⟨12, _, rfl, rfl, rfl⟩ rfl ?_
  refine a_top (y := nI np) (hs.pu) ?_
  refine a_s1 rfl rfl rfl rfl rfl rfl ?_
  refine a_l1 rfl rfl rfl ?_
  refine a_s rfl rfl ?_
  refine a_ic_ne rfl (fun c => ?_) (fun _ => ?_)
  · have hlt : np < 6 := by
      rcases Nat.lt_or_ge np 6 with g | g
      · exact g
      · exact absurd (congrArg nI (show np = 6 by omega)) c
    refine a_l0 rfl rfl rfl ?_
    refine a_ldcs (q := 130 + 1) rfl (hw.ld (i := 1) (by decide)) ?_
    refine a_s rfl rfl ?_
    refine a_s rfl rfl ?_
    refine a_gV rfl lX12_117 mo_X12_numberBehind (r_X12_numberBehind (k := 1) hw (by decide) hq) rfl rfl rfl ⟨12, _, rfl, rfl, rfl⟩ rfl (fun v' h' hv => ?_)
    obtain ⟨n, b1, p1, J1, rfl, rfl, h1, -⟩ := hv
    refine a_s2 rfl rfl rfl rfl rfl rfl ?_
    refine a_l2 rfl rfl rfl ?_
    have key : ∀ {y : Int32} {b p' : Nat} {J : Nat → Nat → Int32}, Rd e p b p' I J → (y = -1 ∨ ∃ k, k ≤ 9 ∧ y = nI k) → AW S m_X12_readPerson 18 (QL e p I L w1 w2 t) nX 0 0 40 [some (.ref 420), some (.int (nI np)), some (.int n), none] [.int y] (hp J L w1 w2 t) := by
      intro y b p' J h hy
      refine a_s3 rfl rfl rfl rfl rfl rfl ?_
      refine a_l3 rfl rfl rfl ?_
      refine a_if_ge rfl (fun c => ?_) (fun _ => ?_)
      · obtain ⟨f, hf, rfl⟩ := hy.resolve_left (fun z => by subst z; exact absurd c (by decide))
        refine a_l0 rfl rfl rfl ?_
        refine a_getq rfl gfX12_13_12 rfl (rfl) ?_
        refine a_l1 rfl rfl rfl ?_
        refine a_s rfl rfl ?_
        refine a_eS1 rfl lX12_56 mo_X12_personAt (sp_X12_personAt (d := np) (k := 0)) rfl rfl rfl rfl ?_
        refine a_l2 rfl rfl rfl ?_
        refine a_iastv (k := 11 + 2 * np) rfl (n := 2033) rfl (inI_nI (by omega) (by omega)) (nI_clamp (by omega)) ?_
        refine a_l0 rfl rfl rfl ?_
        refine a_getq rfl gfX12_13_12 rfl (rfl) ?_
        refine a_l1 rfl rfl rfl ?_
        refine a_s rfl rfl ?_
        refine a_eS1 rfl lX12_56 mo_X12_personAt (sp_X12_personAt (d := np) (k := 1)) rfl rfl rfl rfl ?_
        refine a_l3 rfl rfl rfl ?_
        refine a_iastv (k := 11 + 2 * np + 1) rfl (n := 2033) rfl (inI_nI (by omega) (by omega)) (nI_clamp (by omega)) ?_
        refine a_l0 rfl rfl rfl ?_
        refine a_getq rfl gfX12_13_12 rfl (rfl) ?_
        refine a_s rfl rfl ?_
        refine a_s rfl rfl ?_
        refine a_ialdv (v := nI np) rfl (n := 2033) rfl ⟨by decide, by decide⟩ ?_ ?_
        · show up2 (up2 J 421 (11 + 2 * np) n) 421 (11 + 2 * np + 1) (nI f) 421 0 = nI np
          rw [u2_lo (by omega), u2_lo (by omega), Rd.w h]
          exact hs.pu
        · refine a_s rfl rfl ?_
          refine a_s rfl rfl ?_
          refine a_top (y := nI (np + 1)) ((nI_succ _).symm) ?_
          refine a_iastv (k := 0) rfl (n := 2033) rfl ⟨by decide, by decide⟩ rfl ?_
          refine a_s rfl rfl ?_
          have sp := SO.pers (W' := up2 (up2 (up2 J 421 (11 + 2 * np) n) 421 (11 + 2 * np + 1) (nI f)) 421 0 (nI (np + 1)) 421) hs s.2 hlt hf up2_at ((u2_lo (by omega)).trans up2_at) (fun k k0 k1 k2 => by
            rw [u2_lo k0, u2_lo k2, u2_lo k1, Rd.w h])
          have f1 : Fm sS I (up2 (up2 (up2 J 421 (11 + 2 * np) n) 421 (11 + 2 * np + 1) (nI f)) 421 0 (nI (np + 1))) := Fm.up (Fm.up (Fm.up (Fm.mo (Rd.fm h) sR_sS) (sS_at (stC_of _ (by omega) (by omega) (by omega)))) (sS_at (stC_of _ (by omega) (by omega) (by omega)))) (sS_at rfl)
          have hle := Nat.le_trans (Rd.pb h) (Rd.bp h)
          refine a_zret rfl rfl rfl ⟨true, p', _, rfl, rfl, f1, ⟨nd, np + 1, sp⟩, hle, ?_⟩
          unfold Pp
          rw [up2_row (by decide), up2_row (by decide), up2_row (by decide)]
          exact Rd.pp h
      · refine a_s rfl rfl ?_
        exact a_zret rfl rfl rfl (QL.rd (z := false) h s)
    refine a_if_ge rfl (fun _ => ?_) (fun _ => ?_)
    · refine a_l0 rfl rfl rfl ?_
      refine a_ldcs (q := 130 + 2) rfl (hw.ld (i := 2) (by decide)) ?_
      refine a_s rfl rfl ?_
      refine a_s rfl rfl ?_
      refine a_gV rfl lX12_117 mo_X12_numberBehind (r_X12_numberBehind (k := 2) hw (by decide) (Rd.pp h1)) rfl rfl rfl ⟨12, _, rfl, rfl, rfl⟩ rfl (fun v' h' hv => ?_)
      obtain ⟨y, b2, p2, J2, rfl, rfl, h2, hy⟩ := hv
      exact key (Rd.tr h1 h2) (nmN (m := 9) (by decide) hy)
    · refine a_s rfl rfl ?_
      refine a_goto rfl ?_
      exact key h1 (Or.inl rfl)
  · refine a_s rfl rfl ?_
    exact a_zret rfl rfl rfl (QL.re (z := false) hq s)
theorem r_X12_readNumber {i : Nat} (h4 : 4 ≤ i) (h8 : i ≤ 8) {x y : Int32} (h7 : i = 7 → 0 < x) (s : SF nd np I) (hq : Pp e p I) : Sp S m_X12_readNumber 15 0 0 [.ref 420, .int (nI i), .int x, .int y] (hp I L w1 w2 t) (QL e p I L w1 w2 t) nX := by
  have hs := s.1
  have hn := hs.n
  have h6 := hs.p
  refine Sp_of ok_X12_readNumber rfl rfl ?_
  show AW S m_X12_readNumber 15 _ _ 0 0 0 [some (.ref 420), some (.int (nI i)), some (.int x), some (.int y), none] [] (hp I L w1 w2 t)
  refine a_l0 rfl rfl rfl ?_
  refine a_l2 rfl rfl rfl ?_
  refine a_l3 rfl rfl rfl ?_
  refine a_gV rfl lX12_113 mo_X12_number (r_X12_number hq) rfl rfl rfl ⟨12, _, rfl, rfl, rfl⟩ rfl (fun v' h' hv => ?_)
  obtain ⟨n, b, p', J, rfl, rfl, h, hv⟩ := hv
  refine a_s4 rfl rfl rfl rfl rfl rfl ?_
  refine a_l0 rfl rfl rfl ?_
  refine a_getq rfl gfX12_13_12 rfl (rfl) ?_
  refine a_l1 rfl rfl rfl ?_
  refine a_l4 rfl rfl rfl ?_
  have key : ∀ v : Int32, (i = 7 → ¬ v = 0) → AW S m_X12_readNumber 15 (QL e p I L w1 w2 t) nX 0 0 29 [some (.ref 420), some (.int (nI i)), some (.int x), some (.int y), some (.int n)] [.int v, .int (nI i), .ref 421] (hp J L w1 w2 t) := by
    intro v hv7
    refine a_iastv (k := i) rfl (n := 2033) rfl (inI_nI (by omega) (by omega)) (nI_clamp (by omega)) ?_
    have hle := Nat.le_trans (Rd.pb h) (Rd.bp h)
    have fin : ∀ z : Bool, QL e p I L w1 w2 t (some (.int (bI z))) (hp (up2 J 421 i v) L w1 w2 t) := by
      intro z
      refine ⟨z, p', _, rfl, rfl, Fm.up (Fm.mo (Rd.fm h) sR_sS) (sS_at (stC_of _ (by omega) (by omega) (by omega))), ⟨nd, np, ?_, ?_⟩, hle, ?_⟩
      · have eo : ∀ k, k ≠ i → up2 J 421 i v 421 k = I 421 k := fun k hk => by rw [u2_lo hk, Rd.w h]
        refine ⟨hs.n, hs.p, (eo 1 (by omega)).trans hs.du, (eo 0 (by omega)).trans hs.pu, fun d hd => ?_, fun d hd => ?_, fun d hd => ?_, fun z => ?_⟩
        · rw [show vd (up2 J 421 i v 421) 4 d = vd (I 421) 4 d from eo _ (by omega)]
          exact hs.l d hd
        · rw [show vd (up2 J 421 i v 421) 0 d = vd (I 421) 0 d from eo _ (by omega)]
          exact hs.o d hd
        · rw [show vd (up2 J 421 i v 421) 3 d = vd (I 421) 3 d from eo _ (by omega)]
          exact hs.t d hd
        · by_cases c : i = 7
          · subst c
            rw [up2_at] at z
            exact hv7 rfl z
          · exact hs.h7 ((eo 7 (by omega)).symm.trans z)
      · intro q hq'
        obtain ⟨g, g1, g2⟩ := s.2 q hq'
        exact ⟨g, g1, ((u2_lo (by omega)).trans (congrFun (Rd.w h) _)).trans g2⟩
      · unfold Pp
        rw [up2_row (by decide)]
        exact Rd.pp h
    refine a_l4 rfl rfl rfl ?_
    refine a_if_lt rfl (fun _ => ?_) (fun _ => ?_)
    · refine a_s rfl rfl ?_
      exact a_zret rfl rfl rfl (fin false)
    · refine a_s rfl rfl ?_
      refine a_goto rfl ?_
      exact a_zret rfl rfl rfl (fin true)
  refine a_if_ge rfl (fun c => ?_) (fun _ => ?_)
  · refine a_l4 rfl rfl rfl ?_
    refine key n (fun h7' z => ?_)
    subst z
    rcases hv with g | ⟨-, g, -⟩
    · exact absurd g (by decide)
    · exact absurd (h7 h7') (Int32.not_lt.mpr g)
  · refine a_l0 rfl rfl rfl ?_
    refine a_getq rfl gfX12_13_12 rfl (rfl) ?_
    refine a_l1 rfl rfl rfl ?_
    refine a_ialdv (v := I 421 i) rfl (n := 2033) rfl (inI_nI (by omega) (by omega)) (by rw [nI_clamp (by omega), Rd.w h]) ?_
    refine a_goto rfl ?_
    exact key _ (fun h7' z => by subst h7'; exact hs.h7 z)
theorem r_X12_readForgotten (s : SF nd np I) (hq : Pp e p I) : Sp S m_X12_readForgotten 15 0 0 [.ref 420] (hp I L w1 w2 t) (QL e p I L w1 w2 t) nX := by
  have hs := s.1
  have hn := hs.n
  have h6 := hs.p
  refine Sp_of ok_X12_readForgotten rfl rfl ?_
  show AW S m_X12_readForgotten 15 _ _ 0 0 0 [some (.ref 420), none] [] (hp I L w1 w2 t)
  refine a_l0 rfl rfl rfl ?_
  refine a_s rfl rfl ?_
  refine a_l0 rfl rfl rfl ?_
  refine a_eV1 rfl lX12_74 mo_X12_duties sp_X12_duties rfl rfl rfl ⟨12, _, rfl, rfl, rfl⟩ rfl ?_
  refine a_top (y := nI nd) (hs.du) ?_
  refine a_s rfl rfl ?_
  refine a_s rfl rfl ?_
  refine a_gV rfl lX12_113 mo_X12_number (r_X12_number hq) rfl rfl rfl ⟨12, _, rfl, rfl, rfl⟩ rfl (fun v' h' hv => ?_)
  obtain ⟨n, b, p', J, rfl, rfl, h, hv⟩ := hv
  replace hv := nmI (by omega) hv
  have hle := Nat.le_trans (Rd.pb h) (Rd.bp h)
  have no : AW S m_X12_readForgotten 15 (QL e p I L w1 w2 t) nX 0 0 24 [some (.ref 420), some (.int n)] [] (hp J L w1 w2 t) := by
    refine a_s rfl rfl ?_
    exact a_zret rfl rfl rfl (QL.rd (z := false) h s)
  refine a_s1 rfl rfl rfl rfl rfl rfl ?_
  refine a_l1 rfl rfl rfl ?_
  refine a_if_lt rfl (fun _ => no) (fun c => ?_)
  obtain ⟨j, hj, rfl⟩ := hv.resolve_left (fun z => c (by rw [z]; decide))
  refine a_l0 rfl rfl rfl ?_
  refine a_l1 rfl rfl rfl ?_
  refine a_eV1 rfl lX12_135 mo_X12_isWaiting (sp_X12_isWaiting (d := j) (by omega)) rfl rfl rfl ⟨12, _, rfl, rfl, rfl⟩ rfl ?_
  refine a_if_ne rfl (fun _ => ?_) (fun _ => no)
  refine a_l0 rfl rfl rfl ?_
  refine a_getq rfl gfX12_13_12 rfl (rfl) ?_
  refine a_l1 rfl rfl rfl ?_
  refine a_s rfl rfl ?_
  refine a_eS1 rfl lX12_60 mo_X12_at (sp_X12_at (d := j) (k := 5)) rfl rfl rfl rfl ?_
  refine a_s rfl rfl ?_
  refine a_iastv (k := 23 + 6 * j + 5) rfl (n := 2033) rfl (inI_nI (by omega) (by omega)) (nI_clamp (by omega)) ?_
  refine a_s rfl rfl ?_
  refine a_zret rfl rfl rfl ⟨true, p', _, rfl, rfl, Fm.up (Fm.mo (Rd.fm h) sR_sS) (sS_at (stC_of _ (by omega) (by omega) (by omega))), ⟨nd, np, ?_, ?_⟩, hle, ?_⟩
  · have eo : ∀ k, k ≠ 23 + 6 * j + 5 → up2 J 421 (23 + 6 * j + 5) 2 421 k = I 421 k := fun k hk => by rw [u2_lo hk, Rd.w h]
    exact hs.eq (eo 0 (by omega)) (eo 1 (by omega)) (eo 7 (by omega)) (fun d k hd hk => eo _ (by omega)) (fun _ _ => trivial)
  · intro q hq'
    obtain ⟨g, g1, g2⟩ := s.2 q hq'
    exact ⟨g, g1, ((u2_lo (by omega)).trans (congrFun (Rd.w h) _)).trans g2⟩
  · unfold Pp
    rw [up2_row (by decide)]
    exact Rd.pp h
end T68
