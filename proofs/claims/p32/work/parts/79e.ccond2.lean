/-! ===== the class's reader of conditions: atoms, deeper, back, all ===== -/
section T79e
variable {S : aS} {I : Nat → Nat → Int32} {L : Nat → Nat → Int64} {w1 w2 t : Nat} {e b : Nat} {T : Nat → Int32} {st o : List Int32} {d : Int32} {R : PR}
set_option maxRecDepth 100000
theorem cmpP_t {x : Int32} {b1 : Nat} {o1 : List Int32} (h : sumP T e b o = (true, b1, o1)) : cmpP T e x b o = (true, b1, x :: o1) := by
  unfold cmpP
  rw [h]
  rfl
theorem cmpP_f {x : Int32} {b1 : Nat} {o1 : List Int32} (h : sumP T e b o = (false, b1, o1)) : cmpP T e x b o = (false, b1, []) := by
  unfold cmpP
  rw [h]
  rfl
theorem baseP_s {z : Bool} {b1 : Nat} {o1 : List Int32} (h22 : isWd T e b 22 = false) (h23 : isWd T e b 23 = false) (hr : sumP T e b o = (z, b1, o1)) : baseP T e b o = if z = true then (if sg T e b1 60 = true then cmpP T e 2001 (nx T e b1) o1 else if sg T e b1 62 = true then cmpP T e 2002 (nx T e b1) o1 else (false, b1, [])) else (false, b1, []) := by
  unfold baseP
  rw [if_neg (by rw [h22]; decide), if_neg (by rw [h23]; decide), hr]
/-- behind an atom -/
def QAt (T : Nat → Int32) (e : Nat) (st : List Int32) (d : Int32) (r : PR) (I : Nat → Nat → Int32) (L : Nat → Nat → Int64) (w1 t : Nat) : Option Value → aH → Prop := fun v h' => v = some (.int (bI r.1)) ∧ ∃ J w, h' = hp J L w1 w t ∧ Fm sC I J ∧ At T e r.2.1 w J ∧ (r.1 = true → Lr T e r.2.1 w st d r.2.2 J)
theorem f_readAtom (hw : WdS S) (h : Lr T e b w2 st d o I) (hB : o.length + st.length ≤ b) : Sp S m_X3_readAtom 15 0 0 [.ref 220] (hp I L w1 w2 t) (QAt T e st d (baseP T e b o) I L w1 t) nX := by
  have hb4 := Lr.be h
  have hbe := At.le (Lr.at h)
  have he4 := Lr.e4 h
  refine Sp_of ok_X3_readAtom rfl rfl ?_
  show AW S m_X3_readAtom 15 _ _ 0 0 0 [some (.ref 220), none, none] [] (hp I L w1 w2 t)
  refine a_l0 rfl rfl rfl ?_
  refine a_getq rfl gfX3_28_3 rfl (rfl) ?_
  refine a_gets rfl (inC4 (i := 121) rfl rfl) (hw.st (i := 22) (by decide)) ?_
  refine a_gV rfl lX3_48 mo_X9_takeWord (f_takeWord (k := 22) hw (Lr.at h) (by decide)) rfl rfl rfl ⟨9, _, rfl, rfl, rfl⟩ rfl (fun v' h' hv => ?_)
  obtain ⟨rfl, J1, wa, rfl, hA1, hf1⟩ := hv
  have hF1 : Fm sC I J1 := Fm.nx Fm.rf hf1
  have h1 := Lr.mv h hA1 hf1
  cases cr : isWd T e b 22 with
  | true =>
    refine a_if_eq rfl (fun z => absurd z (by decide)) (fun _ => ?_)
    rw [cr, if_pos rfl] at hA1 h1
    have n1 := nx_lt (T := T) (isWd_lt cr)
    have n1e := nx_le (T := T) hbe
    refine a_l0 rfl rfl rfl ?_
    refine a_getq rfl gfX3_14_3 rfl (rfl) ?_
    refine a_s rfl rfl ?_
    refine a_eV0 rfl lX3_120 mo_X2_emit q_X2_emit rfl rfl rfl ⟨2, _, rfl, rfl, rfl⟩ rfl ?_
    rw [emitH_eq (Lr.cl h1) (by omega)]
    refine a_s rfl rfl ?_
    rw [show baseP T e b o = (true, nx T e b, 1007 :: o) from if_pos cr]
    have h2 := Lr.em (x := 1007) h1
    exact a_zret rfl rfl rfl ⟨rfl, _, wa, rfl, Fm.up (Fm.up hF1 rfl) rfl, Lr.at h2, fun _ => h2⟩
  | false =>
  refine a_if_eq rfl (fun _ => ?_) (fun z => absurd rfl z)
  rw [cr, if_neg (by decide)] at hA1 h1
  refine a_l0 rfl rfl rfl ?_
  refine a_getq rfl gfX3_28_3 rfl (rfl) ?_
  refine a_gets rfl (inC4 (i := 127) rfl rfl) (hw.st (i := 23) (by decide)) ?_
  refine a_gV rfl lX3_48 mo_X9_takeWord (f_takeWord (k := 23) hw hA1 (by decide)) rfl rfl rfl ⟨9, _, rfl, rfl, rfl⟩ rfl (fun v' h' hv => ?_)
  obtain ⟨rfl, J2, wb, rfl, hA2, hf2⟩ := hv
  have hF2 : Fm sC I J2 := Fm.nx hF1 hf2
  have h2 := Lr.mv h1 hA2 hf2
  cases co : isWd T e b 23 with
  | true =>
    refine a_if_eq rfl (fun z => absurd z (by decide)) (fun _ => ?_)
    rw [co, if_pos rfl] at hA2 h2
    have n1 := nx_lt (T := T) (isWd_lt co)
    have n1e := nx_le (T := T) hbe
    refine a_l0 rfl rfl rfl ?_
    refine a_getq rfl gfX3_14_3 rfl (rfl) ?_
    refine a_s rfl rfl ?_
    refine a_eV0 rfl lX3_120 mo_X2_emit q_X2_emit rfl rfl rfl ⟨2, _, rfl, rfl, rfl⟩ rfl ?_
    rw [emitH_eq (Lr.cl h2) (by omega)]
    refine a_s rfl rfl ?_
    rw [show baseP T e b o = (true, nx T e b, 1008 :: o) from (if_neg (by rw [cr]; decide)).trans (if_pos co)]
    have h3 := Lr.em (x := 1008) h2
    exact a_zret rfl rfl rfl ⟨rfl, _, wb, rfl, Fm.up (Fm.up hF2 rfl) rfl, Lr.at h3, fun _ => h3⟩
  | false =>
  refine a_if_eq rfl (fun _ => ?_) (fun z => absurd rfl z)
  rw [co, if_neg (by decide)] at hA2 h2
  refine a_l0 rfl rfl rfl ?_
  refine a_gV rfl lX3_129 mo_X3_readSum (f_readSum hw h2 hB) rfl rfl rfl ⟨3, _, rfl, rfl, rfl⟩ rfl (fun v' h' hv => ?_)
  obtain ⟨rfl, J3, wc, rfl, f3, hA3, hz3⟩ := hv
  have hF3 : Fm sC I J3 := Fm.tr hF2 f3
  have g0 := sumP_gd (T := T) (o := o) hbe
  rcases hr : sumP T e b o with ⟨z, b1, o1⟩
  rw [baseP_s cr co hr]
  rw [hr] at hA3 hz3 g0
  obtain ⟨g1, g2, g3⟩ := g0
  have g2 : b1 ≤ e := g2
  cases z with
  | false =>
    refine a_if_ne rfl (fun z => absurd rfl z) (fun _ => ?_)
    refine a_s rfl rfl ?_
    rw [if_neg (by decide)]
    exact a_zret rfl rfl rfl ⟨rfl, J3, wc, rfl, hF3, hA3, fun z => by cases z⟩
  | true =>
  have h3 : Lr T e b1 wc st d o1 J3 := hz3 rfl
  have g3 : b < b1 ∧ o1.length + b ≤ o.length + b1 := g3 rfl
  rw [if_pos rfl]
  refine a_if_ne rfl (fun _ => ?_) (fun z => absurd (show (1 : Int32) = 0 from z) (by decide))
  have k107 : ∀ (x : Int32) (wx : Nat) (J : Nat → Nat → Int32), Fm sC I J → Lr T e (nx T e b1) wx st d o1 J → b1 < nx T e b1 → AW S m_X3_readAtom 15 (QAt T e st d (cmpP T e x (nx T e b1) o1) I L w1 t) nX 0 0 107 [some (.ref 220), some (.int x), none] [] (hp J L w1 wx t) := by
    intro x wx J hF hL hlt
    have hLe := At.le (Lr.at hL)
    refine a_l0 rfl rfl rfl ?_
    refine a_gV rfl lX3_129 mo_X3_readSum (f_readSum hw hL (by omega)) rfl rfl rfl ⟨3, _, rfl, rfl, rfl⟩ rfl (fun v' h' hv => ?_)
    obtain ⟨rfl, J4, wy, rfl, f4, hA4, hz4⟩ := hv
    have hF4 : Fm sC I J4 := Fm.tr hF f4
    have q0 := sumP_gd (T := T) (o := o1) hLe
    rcases hr2 : sumP T e (nx T e b1) o1 with ⟨z2, b2, o2⟩
    rw [hr2] at hA4 hz4 q0
    obtain ⟨q1, q2, q3⟩ := q0
    have q2 : b2 ≤ e := q2
    refine a_s2 rfl rfl rfl rfl rfl rfl ?_
    refine a_l0 rfl rfl rfl ?_
    refine a_getq rfl gfX3_14_3 rfl (rfl) ?_
    refine a_l1 rfl rfl rfl ?_
    refine a_eV0 rfl lX3_120 mo_X2_emit q_X2_emit rfl rfl rfl ⟨2, _, rfl, rfl, rfl⟩ rfl ?_
    refine a_l2 rfl rfl rfl ?_
    cases z2 with
    | false =>
      rw [cmpP_f hr2]
      exact a_zret rfl rfl (bI_nar _) ⟨rfl, _, wy, rfl, Fm.tr hF4 emitH_sC, At.emH hA4, fun z => by cases z⟩
    | true =>
      have h4 : Lr T e b2 wy st d o2 J4 := hz4 rfl
      have q3 : nx T e b1 < b2 ∧ o2.length + nx T e b1 ≤ o1.length + b2 := q3 rfl
      rw [cmpP_t hr2, emitH_eq (Lr.cl h4) (by omega)]
      have h5 := Lr.em (x := x) h4
      exact a_zret rfl rfl (bI_nar _) ⟨rfl, _, wy, rfl, Fm.up (Fm.up hF4 rfl) rfl, Lr.at h5, fun _ => h5⟩
  refine a_l0 rfl rfl rfl ?_
  refine a_getq rfl gfX3_28_3 rfl (rfl) ?_
  refine a_s rfl rfl ?_
  refine a_eV1 rfl lX3_108 mo_X9_isSign (f_isSign (Lr.at h3)) rfl rfl rfl ⟨9, _, rfl, rfl, rfl⟩ rfl ?_
  have k81 : ∀ x : Int32, (x = if sg T e b1 60 = true then 2001 else 2002) → AW S m_X3_readAtom 15 (QAt T e st d (if sg T e b1 60 = true then cmpP T e 2001 (nx T e b1) o1 else if sg T e b1 62 = true then cmpP T e 2002 (nx T e b1) o1 else (false, b1, [])) I L w1 t) nX 0 0 81 [some (.ref 220), some (.int x), none] [] (hp J3 L w1 wc t) := by
    intro x hx
    refine a_l0 rfl rfl rfl ?_
    refine a_getq rfl gfX3_28_3 rfl (rfl) ?_
    refine a_s rfl rfl ?_
    refine a_gV rfl lX3_132 mo_X9_takeSign (f_takeSign hw (Lr.at h3)) rfl rfl rfl ⟨9, _, rfl, rfl, rfl⟩ rfl (fun v' h' hv => ?_)
    obtain ⟨rfl, J5, wd5, rfl, hA5, hf5⟩ := hv
    have hF5 : Fm sC I J5 := Fm.nx hF3 hf5
    have h5 := Lr.mv h3 hA5 hf5
    cases c60 : sg T e b1 60 with
    | true =>
      refine a_if_ne rfl (fun _ => ?_) (fun z => absurd z (by decide))
      rw [c60, if_pos rfl] at h5
      rw [c60, if_pos rfl] at hx
      rw [if_pos rfl, hx]
      exact k107 2001 wd5 J5 hF5 h5 (nx_lt (sg_lt c60))
    | false =>
      refine a_if_ne rfl (fun z => absurd rfl z) (fun _ => ?_)
      rw [c60, if_neg (by decide)] at h5
      rw [c60, if_neg (by decide)] at hx
      rw [if_neg (by decide), hx]
      refine a_l0 rfl rfl rfl ?_
      refine a_getq rfl gfX3_28_3 rfl (rfl) ?_
      refine a_s rfl rfl ?_
      refine a_gV rfl lX3_132 mo_X9_takeSign (f_takeSign hw (Lr.at h5)) rfl rfl rfl ⟨9, _, rfl, rfl, rfl⟩ rfl (fun v' h' hv => ?_)
      obtain ⟨rfl, J6, wd6, rfl, hA6, hf6⟩ := hv
      have hF6 : Fm sC I J6 := Fm.nx hF5 hf6
      have h6 := Lr.mv h5 hA6 hf6
      cases c62 : sg T e b1 62 with
      | true =>
        refine a_if_ne rfl (fun _ => ?_) (fun z => absurd z (by decide))
        rw [c62, if_pos rfl] at h6
        rw [if_pos rfl]
        exact k107 2002 wd6 J6 hF6 h6 (nx_lt (sg_lt c62))
      | false =>
        refine a_if_ne rfl (fun z => absurd rfl z) (fun _ => ?_)
        rw [c62, if_neg (by decide)] at h6
        rw [if_neg (by decide)]
        refine a_s rfl rfl ?_
        exact a_zret rfl rfl rfl ⟨rfl, J6, wd6, rfl, hF6, Lr.at h6, fun z => by cases z⟩
  cases c60 : sg T e b1 60 with
  | true =>
    refine a_if_eq rfl (fun z => absurd z (by decide)) (fun _ => ?_)
    refine a_s rfl rfl ?_
    refine a_goto rfl ?_
    refine a_s1 rfl rfl rfl rfl rfl rfl ?_
    rw [c60] at k81
    exact k81 2001 rfl
  | false =>
    refine a_if_eq rfl (fun _ => ?_) (fun z => absurd rfl z)
    refine a_s rfl rfl ?_
    refine a_s1 rfl rfl rfl rfl rfl rfl ?_
    rw [c60] at k81
    exact k81 2002 rfl
theorem Rn_A (h : Rn T e false b st d o R) : 0 ≤ d ∧ st.length < 32 ∧ (opn T e b = true → (6 ≤ d → R = (false, b, [])) ∧ (¬ 6 ≤ d → Rn T e false (nx T e b) ((if isWd T e b 21 = true then 2003 else 2006) :: st) (d + 1) o R)) ∧ (¬ opn T e b = true → ((baseP T e b o).1 = true → Rn T e true (baseP T e b o).2.1 st d (baseP T e b o).2.2 R) ∧ (¬ (baseP T e b o).1 = true → R = (false, (baseP T e b o).2.1, []))) := by
  obtain ⟨f, hf⟩ := h
  cases f with
  | zero => cases hf
  | succ f =>
    unfold run at hf
    by_cases c : 0 ≤ d ∧ st.length < 32
    · rw [if_pos c] at hf
      refine ⟨c.1, c.2, fun h1 => ?_, fun h1 => ?_⟩
      · rw [if_pos h1] at hf
        refine ⟨fun h6 => ?_, fun h6 => ?_⟩
        · rw [if_pos h6] at hf
          exact (Option.some.inj hf).symm
        · rw [if_neg h6] at hf
          exact ⟨f, hf⟩
      · rw [if_neg h1] at hf
        refine ⟨fun h6 => ?_, fun h6 => ?_⟩
        · rw [if_pos h6] at hf
          exact ⟨f, hf⟩
        · rw [if_neg h6] at hf
          exact (Option.some.inj hf).symm
    · rw [if_neg c] at hf
      cases hf
/-- where no ) is to be closed -/
def FinB (T : Nat → Int32) (e b : Nat) (st : List Int32) (d : Int32) (o : List Int32) (R : PR) : Prop := st.length ≤ 32 ∧ (isWd T e b 20 = true → Rn T e false (nx T e b) (2004 :: (popF 2004 st d o).1) (popF 2004 st d o).2.1 (popF 2004 st d o).2.2 R) ∧ (isWd T e b 20 = false → isWd T e b 19 = true → Rn T e false (nx T e b) (2005 :: (popF 2005 st d o).1) (popF 2005 st d o).2.1 (popF 2005 st d o).2.2 R) ∧ (isWd T e b 20 = false → isWd T e b 19 = false → R = ends b (popF 2005 st d o))
theorem Rn_B (h : Rn T e true b st d o R) : (brk st ≤ 6 ∧ st.length ≤ 32) ∧ (sg T e b 41 = true → ((popF 2005 st d o).1 = [] → R = (true, b, (popF 2005 st d o).2.2)) ∧ (∀ x r, (popF 2005 st d o).1 = x :: r → Rn T e true (nx T e b) r ((popF 2005 st d o).2.1 - 1) (popF 2005 st d o).2.2 R)) ∧ (sg T e b 41 = false → FinB T e b st d o R) := by
  obtain ⟨f, hf⟩ := h
  cases f with
  | zero => cases hf
  | succ f =>
    unfold run at hf
    by_cases c : brk st ≤ 6 ∧ st.length ≤ 32
    · rw [if_pos c] at hf
      refine ⟨c, fun h1 => ?_, fun h1 => ?_⟩
      · rw [if_pos h1] at hf
        refine ⟨fun h2 => ?_, fun x r h2 => ?_⟩
        · rw [h2] at hf
          exact (Option.some.inj hf).symm
        · rw [h2] at hf
          exact ⟨f, hf⟩
      · rw [if_neg (by rw [h1]; decide)] at hf
        refine ⟨c.2, fun h2 => ?_, fun h2 h3 => ?_, fun h2 h3 => ?_⟩
        · rw [if_pos h2] at hf
          exact ⟨f, hf⟩
        · rw [if_neg (by rw [h2]; decide), if_pos h3] at hf
          exact ⟨f, hf⟩
        · rw [if_neg (by rw [h2]; decide), if_neg (by rw [h3]; decide)] at hf
          exact (Option.some.inj hf).symm
    · rw [if_neg c] at hf
      cases hf
theorem i6 {d : Int32} (h0 : 0 ≤ d) (h6 : d < 6) : ∃ k, k < 6 ∧ d = nI k := by
  rw [Int32.le_iff_toInt_le, show (0 : Int32).toInt = 0 from rfl] at h0
  rw [Int32.lt_iff_toInt_lt, show (6 : Int32).toInt = 6 from rfl] at h6
  refine ⟨d.toInt.toNat, by omega, ?_⟩
  rw [← Int32.toInt_inj, nI_toInt (by omega)]
  omega
theorem f_openDeeper (hw : WdS S) (h : Lr T e b w2 st d o I) (hB : o.length + st.length ≤ b) (hR : Rn T e false b st d o R) : Sp S m_X3_openDeeper 14 0 0 [.ref 220] (hp I L w1 w2 t) (fun v h' => ∃ z b' w' st' d' J, v = some (.int (bI z)) ∧ h' = hp J L w1 w' t ∧ Fm sC I J ∧ Lr T e b' w' st' d' o J ∧ b ≤ b' ∧ o.length + st'.length ≤ b' ∧ (z = false → R = (false, b', [])) ∧ (z = true → ¬ opn T e b' = true ∧ Rn T e false b' st' d' o R)) nX := by
  refine Sp_of ok_X3_openDeeper rfl rfl ?_
  show AW S m_X3_openDeeper 14 _ _ 0 0 0 [some (.ref 220), none, none] [] (hp I L w1 w2 t)
  refine a_s rfl rfl ?_
  refine a_s1 rfl rfl rfl rfl rfl rfl ?_
  refine a_inv (n := 7) (fun m ls h => ∃ i b' w' st' d' J, ls = [some (.ref 220), some (.int (nI i)), none] ∧ h = hp J L w1 w' t ∧ Fm sC I J ∧ Lr T e b' w' st' d' o J ∧ b ≤ b' ∧ o.length + st'.length ≤ b' ∧ Rn T e false b' st' d' o R ∧ i ≤ 6 ∧ nI i ≤ d' ∧ m = 7 - i) ⟨0, b, w2, st, d, I, rfl, rfl, Fm.rf, h, Nat.le_refl _, hB, hR, by decide, (Rn_A hR).1, rfl⟩ ?_
  rintro m _ _ ⟨i, b', w', st', d', J, rfl, rfl, hF, hL, hbb, hB', hR', hi, hid, hm⟩ ih
  obtain ⟨r1, r2, r3, r4⟩ := Rn_A hR'
  have hb4 := Lr.be hL
  have hbe := At.le (Lr.at hL)
  have kk2 := At.wk (Lr.at hL)
  refine a_l1 rfl rfl rfl ?_
  refine a_s rfl rfl ?_
  refine a_ic_gt rfl (fun c => absurd c (Int32.not_lt.mpr (nI_leu (j := 6) hi (by decide)))) (fun _ => ?_)
  have k45 : ∀ zn : Bool, zn = isWd T e b' 21 → opn T e b' = true → AW S m_X3_openDeeper 14 (fun v h' => ∃ z b' w' st' d' J, v = some (.int (bI z)) ∧ h' = hp J L w1 w' t ∧ Fm sC I J ∧ Lr T e b' w' st' d' o J ∧ b ≤ b' ∧ o.length + st'.length ≤ b' ∧ (z = false → R = (false, b', [])) ∧ (z = true → ¬ opn T e b' = true ∧ Rn T e false b' st' d' o R)) nX 0 0 45 [some (.ref 220), some (.int (nI i)), some (.int (bI zn))] [] (hp J L w1 w' t) := by
    intro zn hzn ho
    refine a_l0 rfl rfl rfl ?_
    refine a_getiv (v := d') rfl gfX3_72_3 rfl (Lr.de hL) ?_
    refine a_s rfl rfl ?_
    refine a_ic_lt rfl (fun c6 => ?_) (fun c6 => ?_)
    rotate_left
    · refine a_s rfl rfl ?_
      exact a_zret rfl rfl rfl ⟨false, b', w', st', d', J, rfl, rfl, hF, hL, hbb, hB', fun _ => (r3 ho).1 (Int32.not_lt.mp c6), fun z => by cases z⟩
    have r5 := (r3 ho).2 (Int32.not_le.mpr c6)
    obtain ⟨k, hk, rfl⟩ := i6 r1 c6
    have hik := nI_ge_of hid (by omega) (by omega)
    have n1 : b' < nx T e b' := nx_lt (by
      unfold opn at ho
      rcases Bool.or_eq_true_iff.mp ho with z | z
      · exact isWd_lt z
      · exact sg_lt z)
    refine a_l0 rfl rfl rfl ?_
    refine a_s rfl rfl ?_
    refine a_getiv (v := nI k) rfl gfX3_72_3 rfl (Lr.de hL) ?_
    refine a_s rfl rfl ?_
    refine a_s rfl rfl ?_
    refine a_top (y := nI (k + 1)) ((nI_succ k).symm) ?_
    refine a_puti rfl pfX3_72_3 rfl ?_
    have hL1 := Lr.dp (d2 := nI (k + 1)) hL
    have hF1 : Fm sC I (up2 J 220 5 (nI (k + 1))) := Fm.up hF rfl
    have k80 : ∀ x : Int32, x = (if isWd T e b' 21 = true then 2003 else 2006) → AW S m_X3_openDeeper 14 (fun v h' => ∃ z b' w' st' d' J, v = some (.int (bI z)) ∧ h' = hp J L w1 w' t ∧ Fm sC I J ∧ Lr T e b' w' st' d' o J ∧ b ≤ b' ∧ o.length + st'.length ≤ b' ∧ (z = false → R = (false, b', [])) ∧ (z = true → ¬ opn T e b' = true ∧ Rn T e false b' st' d' o R)) nX 0 0 80 [some (.ref 220), some (.int (nI i)), some (.int (bI zn))] [.int x, .ref 220] (hp (up2 J 220 5 (nI (k + 1))) L w1 w' t) := by
      intro x hx
      refine a_eV0 rfl lX3_90 mo_X3_hold (f_hold (Lr.hd hL1) r2) rfl rfl rfl ⟨3, _, rfl, rfl, rfl⟩ rfl ?_
      have hL2 := Lr.ho (x := x) hL1
      refine a_l0 rfl rfl rfl ?_
      refine a_getq rfl gfX3_28_3 rfl (rfl) ?_
      refine a_gV rfl lX3_93 mo_X9_next (g_next hw (Lr.at hL2)) rfl rfl rfl ⟨9, _, rfl, rfl, rfl⟩ rfl (fun v' h' hv => ?_)
      obtain ⟨rfl, J3, w3, rfl, hA3, hf3⟩ := hv
      refine a_iv1 (y := nI (i + 1)) rfl rfl rfl ((nI_succ i).symm) ?_
      refine a_goto rfl ?_
      rw [← hx, ← nI_succ] at r5
      exact a_less (ih (7 - (i + 1)) _ _ (by omega) ⟨i + 1, nx T e b', w3, x :: st', nI (k + 1), J3, rfl, rfl, Fm.nx (Fm.up (Fm.up hF1 rfl) rfl) hf3, Lr.mv hL2 hA3 hf3, by omega, by simp only [List.length_cons]; omega, r5, by omega, nI_leu (by omega) (by omega), rfl⟩) ⟨rfl, rfl, trivial⟩
    refine a_l0 rfl rfl rfl ?_
    refine a_l2 rfl rfl rfl ?_
    cases zn with
    | false =>
      refine a_if_eq rfl (fun _ => ?_) (fun z => absurd rfl z)
      refine a_s rfl rfl ?_
      exact k80 2006 (by rw [← hzn]; rfl)
    | true =>
      refine a_if_eq rfl (fun z => absurd z (by decide)) (fun _ => ?_)
      refine a_s rfl rfl ?_
      refine a_goto rfl ?_
      exact k80 2003 (by rw [← hzn]; rfl)
  refine a_l0 rfl rfl rfl ?_
  refine a_getq rfl gfX3_28_3 rfl (rfl) ?_
  refine a_getr rfl gfX3_96_9 rfl ?_
  refine a_pop1 (show _ = rv w' :: _ from rfl) ?_
  refine a_gets rfl (inC4 (i := 105) rfl rfl) (hw.st (i := 21) (by decide)) ?_
  refine a_acmp_ne (rx := w') (ry := 100 + 21 + 1) rfl (kk2.ac hw) (WK.ck hw (i := 21) (by decide)) (fun c => ?_) (fun c => ?_)
  · have c1 : isWd T e b' 21 = false := Bool.eq_false_iff.mpr fun z => c ((At.wo (Lr.at hL)).trans ((wr_is (by decide)).mpr z))
    refine a_s rfl rfl ?_
    refine a_s2 rfl rfl rfl rfl rfl rfl ?_
    refine a_l2 rfl rfl rfl ?_
    refine a_if_ne rfl (fun z => absurd rfl z) (fun _ => ?_)
    refine a_l0 rfl rfl rfl ?_
    refine a_getq rfl gfX3_28_3 rfl (rfl) ?_
    refine a_s rfl rfl ?_
    refine a_eV1 rfl lX3_108 mo_X9_isSign (f_isSign (Lr.at hL)) rfl rfl rfl ⟨9, _, rfl, rfl, rfl⟩ rfl ?_
    cases c2 : sg T e b' 40 with
    | true =>
      refine a_if_ne rfl (fun _ => ?_) (fun z => absurd z (by decide))
      exact k45 false c1.symm (by unfold opn; rw [c2]; exact Bool.or_true _)
    | false =>
      refine a_if_ne rfl (fun z => absurd rfl z) (fun _ => ?_)
      refine a_s rfl rfl ?_
      exact a_zret rfl rfl rfl ⟨true, b', w', st', d', J, rfl, rfl, hF, hL, hbb, hB', fun z => (by cases z), fun _ => ⟨by unfold opn; rw [c1, c2]; decide, hR'⟩⟩
  · have c1 : isWd T e b' 21 = true := (wr_is (by decide)).mp ((At.wo (Lr.at hL)).symm.trans c)
    refine a_s rfl rfl ?_
    refine a_goto rfl ?_
    refine a_s2 rfl rfl rfl rfl rfl rfl ?_
    refine a_l2 rfl rfl rfl ?_
    refine a_if_ne rfl (fun _ => ?_) (fun z => absurd z (by decide))
    exact k45 true c1.symm (by unfold opn; rw [c1]; exact Bool.true_or _)
theorem popF_0 : ∀ (st : List Int32) (d : Int32) (o : List Int32), brk st = 0 → (popF 2005 st d o).1 = [] := by
  intro st
  induction st with
  | nil => exact fun _ _ _ => rfl
  | cons x r ih =>
    intro d o h
    by_cases c : x ≤ 2005
    · rw [show popF 2005 (x :: r) d o = popF 2005 r (if x = 2003 then d - 1 else d) (x :: o) from if_pos c]
      exact ih _ _ (by rw [brk_in c] at h; exact h)
    · rw [brk_out c] at h
      cases h
theorem ends_nil {p : List Int32 × Int32 × List Int32} (h : p.1 = []) : ends b p = (true, b, p.2.2) := by
  unfold ends
  rw [h]
theorem ends_cons {p : List Int32 × Int32 × List Int32} {x : Int32} {r : List Int32} (h : p.1 = x :: r) : ends b p = (false, b, []) := by
  unfold ends
  rw [h]
theorem f_closeDeeper (hw : WdS S) (h : Lr T e b w2 st d o I) (hB : o.length + st.length ≤ b) (hR : Rn T e true b st d o R) : Sp S m_X3_closeDeeper 15 0 0 [.ref 220] (hp I L w1 w2 t) (fun v h' => v = none ∧ ∃ b' w' st' d' o' J, h' = hp J L w1 w' t ∧ Fm sC I J ∧ Lr T e b' w' st' d' o' J ∧ b ≤ b' ∧ o'.length + st'.length ≤ b' ∧ FinB T e b' st' d' o' R) nX := by
  refine Sp_of ok_X3_closeDeeper rfl rfl ?_
  show AW S m_X3_closeDeeper 15 _ _ 0 0 0 [some (.ref 220), none] [] (hp I L w1 w2 t)
  refine a_s rfl rfl ?_
  refine a_s1 rfl rfl rfl rfl rfl rfl ?_
  refine a_inv (n := 6) (fun m ls h => ∃ i b' w' st' d' o' J, ls = [some (.ref 220), some (.int (nI i))] ∧ h = hp J L w1 w' t ∧ Fm sC I J ∧ Lr T e b' w' st' d' o' J ∧ b ≤ b' ∧ o'.length + st'.length ≤ b' ∧ Rn T e true b' st' d' o' R ∧ i + brk st' ≤ 6 ∧ m = 6 - i) ⟨0, b, w2, st, d, o, I, rfl, rfl, Fm.rf, h, Nat.le_refl _, hB, hR, by have := (Rn_B hR).1.1; omega, rfl⟩ ?_
  rintro m _ _ ⟨i, b', w', st', d', o', J, rfl, rfl, hF, hL, hbb, hB', hR', hi, hm⟩ ih
  obtain ⟨r1, r2, r3⟩ := Rn_B hR'
  have hb4 := Lr.be hL
  have hbe := At.le (Lr.at hL)
  -- none is left to be closed
  have fin0 : (popF 2005 st' d' o').1 = [] → sg T e b' 41 = true → R = (true, b', (popF 2005 st' d' o').2.2) := fun z1 z2 => (r2 z2).1 z1
  refine a_l1 rfl rfl rfl ?_
  refine a_s rfl rfl ?_
  refine a_ic_ge rfl (fun c => ?_) (fun c => ?_)
  · have h6 := nI_ge_of (b := 6) c (by omega) (by decide)
    refine a_vret rfl rfl ⟨rfl, b', w', st', d', o', J, rfl, hF, hL, hbb, hB', ?_⟩
    cases cs : sg T e b' 41 with
    | false => exact r3 cs
    | true =>
      have e0 := popF_0 st' d' o' (by omega)
      refine ⟨r1.2, fun z => ?_, fun _ z => ?_, fun _ _ => ?_⟩
      · rw [sg_wd cs] at z
        cases z
      · rw [sg_wd cs] at z
        cases z
      · rw [ends_nil e0]
        exact fin0 e0 cs
  have hi6 : i < 6 := nI_lt_of (b := 6) c (by omega) (by decide)
  refine a_l0 rfl rfl rfl ?_
  refine a_getq rfl gfX3_28_3 rfl (rfl) ?_
  refine a_s rfl rfl ?_
  refine a_eV1 rfl lX3_108 mo_X9_isSign (f_isSign (Lr.at hL)) rfl rfl rfl ⟨9, _, rfl, rfl, rfl⟩ rfl ?_
  cases cs : sg T e b' 41 with
  | false =>
    refine a_if_eq rfl (fun _ => ?_) (fun z => absurd rfl z)
    exact a_vret rfl rfl ⟨rfl, b', w', st', d', o', J, rfl, hF, hL, hbb, hB', r3 cs⟩
  | true =>
  refine a_if_eq rfl (fun z => absurd z (by decide)) (fun _ => ?_)
  have n1 := nx_lt (T := T) (sg_lt cs)
  refine a_l0 rfl rfl rfl ?_
  refine a_s rfl rfl ?_
  refine a_gV rfl lX3_87 mo_X3_emitHeld (f_emitHeld (op := 2005) hL hB' r1.2) rfl rfl rfl ⟨3, _, rfl, rfl, rfl⟩ rfl (fun v' h' hv => ?_)
  obtain ⟨rfl, K, rfl, fK, hK⟩ := hv
  have hFK : Fm sC I K := Fm.tr hF fK
  have hlen := popF_len (op := 2005) st' d' o'
  have hbrk := brk_popF st' d' o'
  have hhd := popF_hd st' d' o'
  have r2 := r2 cs
  clear fin0
  generalize popF 2005 st' d' o' = p at hK hlen hbrk hhd r2
  obtain ⟨ps, pd, po⟩ := p
  refine a_l0 rfl rfl rfl ?_
  refine a_getiv (v := nI ps.length) rfl gfX3_68_3 rfl (Lr.hd hK) ?_
  cases ps with
  | nil =>
    refine a_if_ne rfl (fun z => absurd rfl z) (fun _ => ?_)
    refine a_vret rfl rfl ⟨rfl, b', w', [], pd, po, K, rfl, hFK, hK, hbb, by have : 0 + po.length = st'.length + o'.length := hlen; show po.length + 0 ≤ b'; omega, Nat.zero_le _, fun z => ?_, fun _ z => ?_, fun _ _ => ?_⟩
    · rw [sg_wd cs] at z
      cases z
    · rw [sg_wd cs] at z
      cases z
    · exact r2.1 rfl
  | cons x r =>
    have hlen : r.length + 1 + po.length = st'.length + o'.length := hlen
    have hbrk : brk r + 1 = brk st' := (brk_out (hhd x r rfl)).symm.trans hbrk
    refine a_if_ne rfl (fun _ => ?_) (fun c => ?_)
    rotate_left
    · exfalso
      have := (nI_eq0 (a := r.length + 1) (by omega)).mp c
      omega
    refine a_l0 rfl rfl rfl ?_
    refine a_s rfl rfl ?_
    refine a_getiv (v := nI (r.length + 1)) rfl gfX3_68_3 rfl (Lr.hd hK) ?_
    refine a_s rfl rfl ?_
    refine a_s rfl rfl ?_
    refine a_top (y := nI r.length) (nI_dec r.length) ?_
    refine a_puti rfl pfX3_68_3 rfl ?_
    have hK1 := Lr.po hK
    refine a_l0 rfl rfl rfl ?_
    refine a_s rfl rfl ?_
    refine a_getiv (v := pd) rfl gfX3_72_3 rfl (Lr.de hK1) ?_
    refine a_s rfl rfl ?_
    refine a_s rfl rfl ?_
    refine a_puti rfl pfX3_72_3 rfl ?_
    have hK2 := Lr.dp (d2 := pd - 1) hK1
    refine a_l0 rfl rfl rfl ?_
    refine a_getq rfl gfX3_28_3 rfl (rfl) ?_
    refine a_gV rfl lX3_93 mo_X9_next (g_next hw (Lr.at hK2)) rfl rfl rfl ⟨9, _, rfl, rfl, rfl⟩ rfl (fun v' h' hv => ?_)
    obtain ⟨rfl, J3, w3, rfl, hA3, hf3⟩ := hv
    refine a_iv1 (y := nI (i + 1)) rfl rfl rfl ((nI_succ i).symm) ?_
    refine a_goto rfl ?_
    exact ih (6 - (i + 1)) _ _ (by omega) ⟨i + 1, nx T e b', w3, r, pd - 1, po, J3, rfl, rfl, Fm.nx (Fm.up (Fm.up hFK rfl) rfl) hf3, Lr.mv hK2 hA3 hf3, by omega, by omega, r2.2 x r rfl, by omega, rfl⟩
theorem f_readCondition (hw : WdS S) (hA : At T e b w2 I) (hc1 : I 226 1 = nI o.length) (hc2 : RowL (I 231) o) (hB : o.length ≤ b) (h0 : 0 < b) (he : e ≤ 400) : Sp S m_X3_readCondition 16 0 0 [.ref 220] (hp I L w1 w2 t) (fun v h' => v = some (.int (bI (condR T e 6 b o).1)) ∧ ∃ J w, h' = hp J L w1 w t ∧ Fm sC I J ∧ At T e (condR T e 6 b o).2.1 w J ∧ ((condR T e 6 b o).1 = true → J 226 1 = nI (condR T e 6 b o).2.2.length ∧ RowL (J 231) (condR T e 6 b o).2.2)) nX := by
  obtain ⟨z, b1, o1, ec, ef, et⟩ := cond_run (T := T) (o := o) (At.le hA)
  rw [ec]
  have hR : Rn T e false b [] 0 o (z, b1, if z = true then o1 else []) := by
    cases z with
    | false => exact ef rfl
    | true => exact et rfl
  refine Sp_of ok_X3_readCondition rfl rfl ?_
  show AW S m_X3_readCondition 16 _ _ 0 0 0 [some (.ref 220), none, none] [] (hp I L w1 w2 t)
  refine a_l0 rfl rfl rfl ?_
  refine a_s rfl rfl ?_
  refine a_puti rfl pfX3_68_3 rfl ?_
  refine a_l0 rfl rfl rfl ?_
  refine a_s rfl rfl ?_
  refine a_puti rfl pfX3_72_3 rfl ?_
  refine a_s rfl rfl ?_
  refine a_s1 rfl rfl rfl rfl rfl rfl ?_
  have hL0 : Lr T e b w2 [] 0 o (up2 (up2 I 220 4 0) 220 5 0) := ⟨At.eq hA (fun q g1 g2 => by rw [up2_row (by omega), up2_row (by omega)]), ⟨(up2_ne (Or.inr (by decide))).trans up2_at, up2_at, trivial⟩, ⟨by rw [up2_row (by decide), up2_row (by decide)]; exact hc1, by rw [up2_row (by decide), up2_row (by decide)]; exact hc2⟩, he⟩
  refine a_inv (n := e - b) (fun m ls h => ∃ i b' w' st' d' o' J, ls = [some (.ref 220), some (.int (nI i)), none] ∧ h = hp J L w1 w' t ∧ Fm sC I J ∧ Lr T e b' w' st' d' o' J ∧ o'.length + st'.length ≤ b' ∧ Rn T e false b' st' d' o' (z, b1, if z = true then o1 else []) ∧ i < b' ∧ m = e - b') ⟨0, b, w2, [], 0, o, _, rfl, rfl, Fm.up (Fm.up Fm.rf rfl) rfl, hL0, hB, hR, h0, rfl⟩ ?_
  rintro m _ _ ⟨i, b', w', st', d', o', J, rfl, rfl, hF, hL, hB', hR', hib, hm⟩ ih
  have hb4 := Lr.be hL
  refine a_l1 rfl rfl rfl ?_
  refine a_s rfl rfl ?_
  refine a_ic_ge rfl (fun c => absurd c (nI_ge (b := 400) (by omega) (by omega))) (fun _ => ?_)
  refine a_l0 rfl rfl rfl ?_
  refine a_gV rfl lX3_75 mo_X3_openDeeper (f_openDeeper hw hL hB' hR') rfl rfl rfl ⟨3, _, rfl, rfl, rfl⟩ rfl (fun v' h' hv => ?_)
  obtain ⟨z2, b2, w3, st2, d2, J2, rfl, rfl, f2, hL2, hbb2, hB2, hz0, hz1⟩ := hv
  have hF2 : Fm sC I J2 := Fm.tr hF f2
  cases z2 with
  | false =>
    refine a_if_eq rfl (fun _ => ?_) (fun z => absurd rfl z)
    have e9 := hz0 rfl
    refine a_s rfl rfl ?_
    cases z with
    | true => cases e9
    | false =>
      have e9 : b1 = b2 := congrArg (fun r : PR => r.2.1) e9
      subst e9
      exact a_zret rfl rfl rfl ⟨rfl, J2, w3, rfl, hF2, Lr.at hL2, fun z => by cases z⟩
  | true =>
  refine a_if_eq rfl (fun z => absurd z (by decide)) (fun _ => ?_)
  obtain ⟨hno, hR2⟩ := hz1 rfl
  obtain ⟨-, -, -, r4⟩ := Rn_A hR2
  have r4 := r4 hno
  have g0 := baseP_gd (T := T) (o := o') (At.le (Lr.at hL2))
  refine a_l0 rfl rfl rfl ?_
  refine a_gV rfl lX3_78 mo_X3_readAtom (f_readAtom hw hL2 hB2) rfl rfl rfl ⟨3, _, rfl, rfl, rfl⟩ rfl (fun v' h' hv => ?_)
  obtain ⟨rfl, J3, w4, rfl, f3, hA3, hz3⟩ := hv
  have hF3 : Fm sC I J3 := Fm.tr hF2 f3
  generalize baseP T e b2 o' = r at r4 g0 hA3 hz3
  obtain ⟨zr, b3, o3⟩ := r
  cases zr with
  | false =>
    refine a_if_ne rfl (fun z => absurd rfl z) (fun _ => ?_)
    have e9 := r4.2 Bool.false_ne_true
    refine a_s rfl rfl ?_
    cases z with
    | true => cases e9
    | false =>
      have e9 : b1 = b3 := congrArg (fun r : PR => r.2.1) e9
      subst e9
      exact a_zret rfl rfl rfl ⟨rfl, J3, w4, rfl, hF3, hA3, fun z => by cases z⟩
  | true =>
  refine a_if_ne rfl (fun _ => ?_) (fun z => absurd (show (1 : Int32) = 0 from z) (by decide))
  have h3 : Lr T e b3 w4 st2 d2 o3 J3 := hz3 rfl
  obtain ⟨g1, g2, g3⟩ := g0
  have g3 : b2 < b3 ∧ o3.length + b2 ≤ o'.length + b3 := g3 rfl
  have hR3 := r4.1 rfl
  refine a_l0 rfl rfl rfl ?_
  refine a_gV rfl lX3_81 mo_X3_closeDeeper (f_closeDeeper hw h3 (by omega) hR3) rfl rfl rfl ⟨3, _, rfl, rfl, rfl⟩ rfl (fun v' h' hv => ?_)
  obtain ⟨rfl, b4, w5, st4, d4, o4, J4, rfl, f4, hL4, hbb4, hB4, hfin⟩ := hv
  have hF4 : Fm sC I J4 := Fm.tr hF3 f4
  refine a_l0 rfl rfl rfl ?_
  refine a_eV1 rfl lX3_84 mo_X3_joinAtHand (f_joinAtHand hw (Lr.at hL4)) rfl rfl rfl ⟨3, _, rfl, rfl, rfl⟩ rfl ?_
  have hbe4 := At.le (Lr.at hL4)
  have hb44 := Lr.be hL4
  -- a join
  have k69 : ∀ x : Int32, b4 < nx T e b4 → Rn T e false (nx T e b4) (x :: (popF x st4 d4 o4).1) (popF x st4 d4 o4).2.1 (popF x st4 d4 o4).2.2 (z, b1, if z = true then o1 else []) → AW S m_X3_readCondition 16 (fun v h' => v = some (.int (bI (z, b1, o1).1)) ∧ ∃ J w, h' = hp J L w1 w t ∧ Fm sC I J ∧ At T e (z, b1, o1).2.1 w J ∧ ((z, b1, o1).1 = true → J 226 1 = nI (z, b1, o1).2.2.length ∧ RowL (J 231) (z, b1, o1).2.2)) nX 0 0 69 [some (.ref 220), some (.int (nI i)), some (.int x)] [] (hp J4 L w1 w5 t) := by
    intro x hn hRx
    refine a_l0 rfl rfl rfl ?_
    refine a_l2 rfl rfl rfl ?_
    refine a_gV rfl lX3_87 mo_X3_emitHeld (f_emitHeld (op := x) hL4 hB4 hfin.1) rfl rfl rfl ⟨3, _, rfl, rfl, rfl⟩ rfl (fun v' h' hv => ?_)
    obtain ⟨rfl, K, rfl, fK, hK⟩ := hv
    have hlen := popF_len (op := x) st4 d4 o4
    have hl32 := (Rn_A hRx).2.1
    have hl32 : (popF x st4 d4 o4).1.length + 1 < 32 := hl32
    refine a_l0 rfl rfl rfl ?_
    refine a_l2 rfl rfl rfl ?_
    refine a_eV0 rfl lX3_90 mo_X3_hold (f_hold (Lr.hd hK) (by omega)) rfl rfl rfl ⟨3, _, rfl, rfl, rfl⟩ rfl ?_
    have hK1 := Lr.ho (x := x) hK
    refine a_l0 rfl rfl rfl ?_
    refine a_getq rfl gfX3_28_3 rfl (rfl) ?_
    refine a_gV rfl lX3_93 mo_X9_next (g_next hw (Lr.at hK1)) rfl rfl rfl ⟨9, _, rfl, rfl, rfl⟩ rfl (fun v' h' hv => ?_)
    obtain ⟨rfl, J6, w6, rfl, hA6, hf6⟩ := hv
    refine a_iv1 (y := nI (i + 1)) rfl rfl rfl ((nI_succ i).symm) ?_
    refine a_goto rfl ?_
    have hn6 := nx_le (T := T) hbe4
    exact a_less (ih (e - nx T e b4) _ _ (by omega) ⟨i + 1, nx T e b4, w6, x :: (popF x st4 d4 o4).1, (popF x st4 d4 o4).2.1, (popF x st4 d4 o4).2.2, J6, rfl, rfl, Fm.nx (Fm.up (Fm.up (Fm.tr hF4 fK) rfl) rfl) hf6, Lr.mv hK1 hA6 hf6, by simp only [List.length_cons]; omega, hRx, by omega, rfl⟩) ⟨rfl, rfl, trivial⟩
  cases c20 : isWd T e b4 20 with
  | true =>
    refine a_top (y := 2004) (if_pos c20) ?_
    refine a_s2 rfl rfl rfl rfl rfl rfl ?_
    refine a_l2 rfl rfl rfl ?_
    refine a_s rfl rfl ?_
    refine a_ic_ne rfl (fun _ => ?_) (fun c => absurd c (by decide))
    exact k69 2004 (nx_lt (isWd_lt c20)) (hfin.2.1 c20)
  | false =>
  cases c19 : isWd T e b4 19 with
  | true =>
    refine a_top (y := 2005) ((if_neg (by rw [c20]; decide)).trans (if_pos c19)) ?_
    refine a_s2 rfl rfl rfl rfl rfl rfl ?_
    refine a_l2 rfl rfl rfl ?_
    refine a_s rfl rfl ?_
    refine a_ic_ne rfl (fun _ => ?_) (fun c => absurd c (by decide))
    exact k69 2005 (nx_lt (isWd_lt c19)) (hfin.2.2.1 c20 c19)
  | false =>
    refine a_top (y := (-1)) ((if_neg (by rw [c20]; decide)).trans (if_neg (by rw [c19]; decide))) ?_
    refine a_s2 rfl rfl rfl rfl rfl rfl ?_
    refine a_l2 rfl rfl rfl ?_
    refine a_s rfl rfl ?_
    refine a_ic_ne rfl (fun c => absurd rfl c) (fun _ => ?_)
    have hE := hfin.2.2.2 c20 c19
    refine a_l0 rfl rfl rfl ?_
    refine a_s rfl rfl ?_
    refine a_gV rfl lX3_87 mo_X3_emitHeld (f_emitHeld (op := 2005) hL4 hB4 hfin.1) rfl rfl rfl ⟨3, _, rfl, rfl, rfl⟩ rfl (fun v' h' hv => ?_)
    obtain ⟨rfl, K, rfl, fK, hK⟩ := hv
    have hFK : Fm sC I K := Fm.tr hF4 fK
    have hlen := popF_len (op := 2005) st4 d4 o4
    generalize popF 2005 st4 d4 o4 = p at hK hE hlen
    obtain ⟨ps, pd, po⟩ := p
    refine a_l0 rfl rfl rfl ?_
    refine a_getiv (v := nI ps.length) rfl gfX3_68_3 rfl (Lr.hd hK) ?_
    cases ps with
    | nil =>
      refine a_if_ne rfl (fun z => absurd rfl z) (fun _ => ?_)
      refine a_s rfl rfl ?_
      refine a_goto rfl ?_
      have hE : (z, b1, if z = true then o1 else []) = (true, b4, po) := hE
      cases z with
      | false => cases hE
      | true =>
        have e1 : b1 = b4 := congrArg (fun r : PR => r.2.1) hE
        have e2 : o1 = po := congrArg (fun r : PR => r.2.2) hE
        subst e1
        subst e2
        exact a_zret rfl rfl rfl ⟨rfl, K, w5, rfl, hFK, Lr.at hK, fun _ => ⟨Lr.cl hK, Lr.co hK⟩⟩
    | cons x r =>
      have hlen : r.length + 1 + po.length = st4.length + o4.length := hlen
      refine a_if_ne rfl (fun _ => ?_) (fun c => ?_)
      · refine a_s rfl rfl ?_
        have hE : (z, b1, if z = true then o1 else []) = (false, b4, []) := hE
        cases z with
        | true => cases hE
        | false =>
          have e1 : b1 = b4 := congrArg (fun r : PR => r.2.1) hE
          subst e1
          exact a_zret rfl rfl rfl ⟨rfl, K, w5, rfl, hFK, Lr.at hK, fun z => by cases z⟩
      · exfalso
        have := (nI_eq0 (a := r.length + 1) (by omega)).mp c
        omega
end T79e
