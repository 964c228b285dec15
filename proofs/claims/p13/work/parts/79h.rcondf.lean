section
/-! ===== the reference: parts, sums, tags, conditions, as functions (printed by program) ===== -/
section T79h
variable {S : aS} {I : Nat → Nat → Int32} {L : Nat → Nat → Int64} {w1 w2 t : Nat} {e p b n0 : Nat} {T : Nat → Int32} {o : List Int32}
set_option maxRecDepth 100000
/-- a code as the reference keeps it: its step, its number -/
def stF (x : Int32) : Int32 := if x < 1000 then 9 else if x < 2000 then x - 1000 else x - 1990
def snF (x : Int32) : Int32 := if x < 1000 then x else 0
def RowS (W : Nat → Int32) : List Int32 → Prop
  | [] => True
  | x :: r => (W (1233 + 2 * r.length) = stF x ∧ W (1233 + 2 * r.length + 1) = snF x) ∧ RowS W r
theorem RowS.eq {W W' : Nat → Int32} : ∀ {r : List Int32}, RowS W r → (∀ k, 1233 ≤ k → k < 1233 + 2 * r.length → W' k = W k) → RowS W' r := by
  intro r
  induction r with
  | nil => exact fun _ _ => trivial
  | cons x r ih =>
    intro h f
    have f : ∀ k, 1233 ≤ k → k < 1233 + 2 * (r.length + 1) → W' k = W k := f
    exact ⟨⟨(f _ (by omega) (by omega)).trans h.1.1, (f _ (by omega) (by omega)).trans h.1.2⟩, ih h.2 fun k g1 g2 => f k g1 (by omega)⟩
theorem RowS.em {J : Nat → Nat → Int32} {x y z : Int32} {r : List Int32} (h : RowS (J 421) r) (hx : x = stF z) (hy : y = snF z) : RowS (emH J r.length x y 421) (z :: r) := ⟨⟨emH_0.trans hx, emH_1.trans hy⟩, RowS.eq h fun _ _ g2 => emH_lo g2⟩
/-- from I (n0 steps) to J: at p, what is next begins at b, emitted is o -/
def Cf (T : Nat → Int32) (e n0 b : Nat) (o : List Int32) (I J : Nat → Nat → Int32) (p : Nat) : Prop := Fm (sY n0) I J ∧ J 420 13 = I 420 13 ∧ Pp e p J ∧ rn T e 4 p = b ∧ J 420 16 = nI o.length ∧ RowS (J 421) o ∧ n0 ≤ o.length
theorem Cf.pp {J : Nat → Nat → Int32} (h : Cf T e n0 b o I J p) : Pp e p J := h.2.2.1
theorem Cf.nb {J : Nat → Nat → Int32} (h : Cf T e n0 b o I J p) : rn T e 4 p = b := h.2.2.2.1
theorem Cf.st {J : Nat → Nat → Int32} (h : Cf T e n0 b o I J p) : J 420 16 = nI o.length := h.2.2.2.2.1
theorem Cf.d {J : Nat → Nat → Int32} {x : Int32} (h : Cf T e n0 b o I J p) (hd : I 420 13 = x) : J 420 13 = x := h.2.1.trans hd
theorem Cf.tt {J : Nat → Nat → Int32} (h : Cf T e n0 b o I J p) (hT : I 426 = T) : J 426 = T := (funext fun k => h.1 426 k rfl).trans hT
theorem Cf.le {J : Nat → Nat → Int32} (h : Cf T e n0 b o I J p) : b ≤ e := by
  rw [← Cf.nb h]
  exact rn_le (Pp.le (Cf.pp h))
theorem Cf.e4 {J : Nat → Nat → Int32} (h : Cf T e n0 b o I J p) : e ≤ 400 := Pp.e4 (Cf.pp h)
theorem Cf.sk {J : Nat → Nat → Int32} (h : Cf T e n0 b o I J p) : rn T e 4 b = b := by
  rw [← Cf.nb h]
  exact rn_rn
theorem Cf.rd {J K : Nat → Nat → Int32} {b2 p' b' : Nat} (h : Cf T e n0 b o I J p) (r : Rd e p b2 p' J K) (hb : rn T e 4 p' = b') : Cf T e n0 b' o I K p' := ⟨Fm.tr h.1 (Fm.mo (Rd.fm r) sR_sY), (Rd.fm r 420 13 rfl).trans h.2.1, Rd.pp r, hb, (Rd.fm r 420 16 rfl).trans h.2.2.2.2.1, by rw [Rd.w r]; exact h.2.2.2.2.2.1, h.2.2.2.2.2.2⟩
theorem Cf.em {J : Nat → Nat → Int32} {x y z : Int32} (h : Cf T e n0 b o I J p) (hx : x = stF z) (hy : y = snF z) : Cf T e n0 b (z :: o) I (emH J o.length x y) p := ⟨Fm.tr h.1 (Fm.mo emH_fm (sY_mono h.2.2.2.2.2.2)), (emH_f (by decide)).trans h.2.1, Pp.em h.2.2.1, h.2.2.2.1, up2_at, RowS.em h.2.2.2.2.2.1 hx hy, by have := h.2.2.2.2.2.2; show n0 ≤ o.length + 1; omega⟩
theorem Cf.ef {J : Nat → Nat → Int32} {x y : Int32} (h : Cf T e n0 b o I J p) : Fm (sY n0) I (emH J o.length x y) := Fm.tr h.1 (Fm.mo emH_fm (sY_mono h.2.2.2.2.2.2))
theorem Cf.cc {K J : Nat → Nat → Int32} {b' p' : Nat} {o' : List Int32} (h : Cf T e n0 b o I J p) (g : Cf T e n0 b' o' J K p') : Cf T e n0 b' o' I K p' := ⟨Fm.tr h.1 g.1, g.2.1.trans h.2.1, g.2.2⟩
theorem Cf.rf {J : Nat → Nat → Int32} (h : Cf T e n0 b o I J p) : Cf T e n0 b o J J p := ⟨Fm.rf, rfl, h.2.2⟩
theorem Cf.up13 {J : Nat → Nat → Int32} {x : Int32} (h : Cf T e n0 b o I J p) : Cf T e n0 b o (up2 J 420 13 x) (up2 J 420 13 x) p := by
  obtain ⟨-, -, g1, g2, g3, g4, g5⟩ := h
  refine ⟨Fm.rf, rfl, ?_, g2, (up2_ne (Or.inr (by decide))).trans g3, ?_, g5⟩
  · unfold Pp
    rw [up2_ne (Or.inr (by decide)), up2_ne (Or.inr (by decide))]
    exact g1
  · rw [up2_row (by decide)]
    exact g4
theorem Cf.deep {J K : Nat → Nat → Int32} {b' p' : Nat} {o' : List Int32} {x y : Int32} (h : Cf T e n0 b o I J p) (hd : I 420 13 = x) (g : Cf T e n0 b' o' (up2 J 420 13 y) K p') : Cf T e n0 b' o' I (up2 K 420 13 x) p' := by
  obtain ⟨f, -, g1, g2, g3, g4, g5⟩ := g
  refine ⟨Fm.up (Fm.tr h.1 (Fm.tr (Fm.up Fm.rf rfl) f)) rfl, up2_at.trans hd.symm, ?_, g2, (up2_ne (Or.inr (by decide))).trans g3, ?_, g5⟩
  · unfold Pp
    rw [up2_ne (Or.inr (by decide)), up2_ne (Or.inr (by decide))]
    exact g1
  · rw [up2_row (by decide)]
    exact g4
/-- read as the function says -/
def QF (T : Nat → Int32) (e n0 : Nat) (r : PR) (I : Nat → Nat → Int32) (L : Nat → Nat → Int64) (w1 w2 t : Nat) : Option Value → aH → Prop := fun v h' => v = some (.int (bI r.1)) ∧ ∃ J p, h' = hp J L w1 w2 t ∧ (r.1 = true → Cf T e n0 r.2.1 r.2.2 I J p) ∧ (r.1 = false → Fm (sY n0) I J ∧ J 420 12 = nI r.2.1)
theorem QF.yes {J : Nat → Nat → Int32} (h : Cf T e n0 b o I J p) : QF T e n0 (true, b, o) I L w1 w2 t (some (.int (bI true))) (hp J L w1 w2 t) := ⟨rfl, J, p, rfl, fun _ => h, fun z => by cases z⟩
theorem QF.no {J : Nat → Nat → Int32} (f : Fm (sY n0) I J) (hb : J 420 12 = nI b) : QF T e n0 (false, b, o) I L w1 w2 t (some (.int (bI false))) (hp J L w1 w2 t) := ⟨rfl, J, 0, rfl, fun z => (by cases z), fun _ => ⟨f, hb⟩⟩
theorem Cf.no {J K : Nat → Nat → Int32} {b1 p1 : Nat} {o1 : List Int32} (h : Cf T e n0 b1 o1 I J p1) (f : Fm (sY n0) J K) (hb : K 420 12 = nI b) : QF T e n0 (false, b, o) I L w1 w2 t (some (.int (bI false))) (hp K L w1 w2 t) := QF.no (Fm.tr h.1 f) hb
theorem nx_of {b : Nat} : rn T e 4 (en T e b) = nx T e b := rfl
theorem atomR_gdo {D : Nat} {b : Nat} {o : List Int32} (h : b ≤ e) : Gd e b o (atomR T e D b o) := atomR_gd D b o h
theorem seqA_gd {D : Nat} {b : Nat} {o : List Int32} (h : b ≤ e) : Gd e b o (seqP T e (atomR T e D) 20 2004 b o) := seqP_gd (fun b o h => atomR_gd D b o h) h
/-- a part's number among the parts -/
def wpF (i : Nat) : Int32 := if i = 3 then 0 else if i = 24 then 1 else if i = 6 then 2 else if i = 7 then 3 else if i = 25 then 4 else if i = 26 then 5 else if i = 13 then 6 else -1
theorem wp_ok : ∀ i, i < 28 → (wpF i = -1 ∧ wPa i = -1) ∨ (¬ wpF i < 0 ∧ ¬ wPa i = -1 ∧ wpF i = stF (wPa i) ∧ 0 = snF (wPa i)) := by decide +kernel
theorem h_wordOfPart (hw : WdS S) (h12 : I 420 12 = nI b) (hbp : b ≤ p) (hq : Pp e p I) (hp1 : p = rn (I 426) e 1 b) : SpE S m_X12_wordOfPart 17 [.ref 420] (hp I L w1 w2 t) (some (.int (if kd (I 426) e b = 1 then wpF (wd (I 426) e b) else -1))) (hp I L w1 w2 t) := by
  have hi : ∀ k, k < 27 → isW (I 426) b (p - b) k = isWd (I 426) e b k := fun k hk => by
    rw [hp1]
    exact isW_wd hk
  refine SpE_of ok_X12_wordOfPart rfl rfl ?_
  show AW S m_X12_wordOfPart 17 _ _ 0 0 0 [some (.ref 420)] [] (hp I L w1 w2 t)
  refine a_l0 rfl rfl rfl ?_
  refine a_ldcs (q := 130 + 3) rfl (hw.ld (i := 3) (by decide)) ?_
  refine a_eV1 rfl lX12_109 mo_X12_isWord (h_isWord (k := 3) hw (by decide) h12 hbp hq) rfl rfl rfl ⟨12, _, rfl, rfl, rfl⟩ rfl ?_
  refine a_top (y := bI (isWd (I 426) e b 3)) (congrArg bI (hi 3 (by decide))) ?_
  cases c3 : isWd (I 426) e b 3 with
  | true =>
    refine a_if_eq rfl (fun z => absurd z (by decide)) (fun _ => ?_)
    refine a_s rfl rfl ?_
    refine a_iret rfl rfl ⟨?_, rfl⟩
    rw [if_pos (of_decide_eq_true c3).1, (of_decide_eq_true c3).2]
    rfl
  | false =>
  refine a_if_eq rfl (fun _ => ?_) (fun z => absurd rfl z)
  refine a_l0 rfl rfl rfl ?_
  refine a_ldcs (q := 130 + 24) rfl (hw.ld (i := 24) (by decide)) ?_
  refine a_eV1 rfl lX12_109 mo_X12_isWord (h_isWord (k := 24) hw (by decide) h12 hbp hq) rfl rfl rfl ⟨12, _, rfl, rfl, rfl⟩ rfl ?_
  refine a_top (y := bI (isWd (I 426) e b 24)) (congrArg bI (hi 24 (by decide))) ?_
  cases c24 : isWd (I 426) e b 24 with
  | true =>
    refine a_if_eq rfl (fun z => absurd z (by decide)) (fun _ => ?_)
    refine a_s rfl rfl ?_
    refine a_iret rfl rfl ⟨?_, rfl⟩
    rw [if_pos (of_decide_eq_true c24).1, (of_decide_eq_true c24).2]
    rfl
  | false =>
  refine a_if_eq rfl (fun _ => ?_) (fun z => absurd rfl z)
  refine a_l0 rfl rfl rfl ?_
  refine a_ldcs (q := 130 + 6) rfl (hw.ld (i := 6) (by decide)) ?_
  refine a_eV1 rfl lX12_109 mo_X12_isWord (h_isWord (k := 6) hw (by decide) h12 hbp hq) rfl rfl rfl ⟨12, _, rfl, rfl, rfl⟩ rfl ?_
  refine a_top (y := bI (isWd (I 426) e b 6)) (congrArg bI (hi 6 (by decide))) ?_
  cases c6 : isWd (I 426) e b 6 with
  | true =>
    refine a_if_eq rfl (fun z => absurd z (by decide)) (fun _ => ?_)
    refine a_s rfl rfl ?_
    refine a_iret rfl rfl ⟨?_, rfl⟩
    rw [if_pos (of_decide_eq_true c6).1, (of_decide_eq_true c6).2]
    rfl
  | false =>
  refine a_if_eq rfl (fun _ => ?_) (fun z => absurd rfl z)
  refine a_l0 rfl rfl rfl ?_
  refine a_ldcs (q := 130 + 7) rfl (hw.ld (i := 7) (by decide)) ?_
  refine a_eV1 rfl lX12_109 mo_X12_isWord (h_isWord (k := 7) hw (by decide) h12 hbp hq) rfl rfl rfl ⟨12, _, rfl, rfl, rfl⟩ rfl ?_
  refine a_top (y := bI (isWd (I 426) e b 7)) (congrArg bI (hi 7 (by decide))) ?_
  cases c7 : isWd (I 426) e b 7 with
  | true =>
    refine a_if_eq rfl (fun z => absurd z (by decide)) (fun _ => ?_)
    refine a_s rfl rfl ?_
    refine a_iret rfl rfl ⟨?_, rfl⟩
    rw [if_pos (of_decide_eq_true c7).1, (of_decide_eq_true c7).2]
    rfl
  | false =>
  refine a_if_eq rfl (fun _ => ?_) (fun z => absurd rfl z)
  refine a_l0 rfl rfl rfl ?_
  refine a_ldcs (q := 130 + 25) rfl (hw.ld (i := 25) (by decide)) ?_
  refine a_eV1 rfl lX12_109 mo_X12_isWord (h_isWord (k := 25) hw (by decide) h12 hbp hq) rfl rfl rfl ⟨12, _, rfl, rfl, rfl⟩ rfl ?_
  refine a_top (y := bI (isWd (I 426) e b 25)) (congrArg bI (hi 25 (by decide))) ?_
  cases c25 : isWd (I 426) e b 25 with
  | true =>
    refine a_if_eq rfl (fun z => absurd z (by decide)) (fun _ => ?_)
    refine a_s rfl rfl ?_
    refine a_iret rfl rfl ⟨?_, rfl⟩
    rw [if_pos (of_decide_eq_true c25).1, (of_decide_eq_true c25).2]
    rfl
  | false =>
  refine a_if_eq rfl (fun _ => ?_) (fun z => absurd rfl z)
  refine a_l0 rfl rfl rfl ?_
  refine a_ldcs (q := 130 + 26) rfl (hw.ld (i := 26) (by decide)) ?_
  refine a_eV1 rfl lX12_109 mo_X12_isWord (h_isWord (k := 26) hw (by decide) h12 hbp hq) rfl rfl rfl ⟨12, _, rfl, rfl, rfl⟩ rfl ?_
  refine a_top (y := bI (isWd (I 426) e b 26)) (congrArg bI (hi 26 (by decide))) ?_
  cases c26 : isWd (I 426) e b 26 with
  | true =>
    refine a_if_eq rfl (fun z => absurd z (by decide)) (fun _ => ?_)
    refine a_s rfl rfl ?_
    refine a_iret rfl rfl ⟨?_, rfl⟩
    rw [if_pos (of_decide_eq_true c26).1, (of_decide_eq_true c26).2]
    rfl
  | false =>
  refine a_if_eq rfl (fun _ => ?_) (fun z => absurd rfl z)
  refine a_l0 rfl rfl rfl ?_
  refine a_ldcs (q := 130 + 13) rfl (hw.ld (i := 13) (by decide)) ?_
  refine a_eV1 rfl lX12_109 mo_X12_isWord (h_isWord (k := 13) hw (by decide) h12 hbp hq) rfl rfl rfl ⟨12, _, rfl, rfl, rfl⟩ rfl ?_
  refine a_top (y := bI (isWd (I 426) e b 13)) (congrArg bI (hi 13 (by decide))) ?_
  cases c13 : isWd (I 426) e b 13 with
  | true =>
    refine a_if_eq rfl (fun z => absurd z (by decide)) (fun _ => ?_)
    refine a_s rfl rfl ?_
    refine a_goto rfl ?_
    refine a_iret rfl rfl ⟨?_, rfl⟩
    rw [if_pos (of_decide_eq_true c13).1, (of_decide_eq_true c13).2]
    rfl
  | false =>
  refine a_if_eq rfl (fun _ => ?_) (fun z => absurd rfl z)
  refine a_s rfl rfl ?_
  refine a_iret rfl rfl ⟨?_, rfl⟩
  by_cases c : kd (I 426) e b = 1
  · rw [if_pos c]
    have ne : ∀ k, isWd (I 426) e b k = false → wd (I 426) e b ≠ k := fun k hk z => by
      rw [show isWd (I 426) e b k = true from decide_eq_true ⟨c, z⟩] at hk
      cases hk
    unfold wpF
    rw [if_neg (ne 3 c3), if_neg (ne 24 c24), if_neg (ne 6 c6), if_neg (ne 7 c7), if_neg (ne 25 c25), if_neg (ne 26 c26), if_neg (ne 13 c13)]
  · rw [if_neg c]
def prtP (T : Nat → Int32) (e b : Nat) (o : List Int32) : PR := if prt T e b = -1 then (false, b, []) else (true, nx T e b, prt T e b :: o)
theorem nI_st : ∀ m, m < 1000 → (9 = stF (nI m) ∧ nI m = snF (nI m)) := by decide +kernel
theorem h_readPart (hw : WdS S) (hT : I 426 = T) (h : Cf T e n0 b o I I p) (hB : o.length < b) : Sp S m_X12_readPart 18 0 0 [.ref 420] (hp I L w1 w2 t) (QF T e n0 (prtP T e b o) I L w1 w2 t) nX := by
  have hbe := Cf.le h
  have he4 := Cf.e4 h
  have hskb := Cf.sk h
  refine Sp_of ok_X12_readPart rfl rfl ?_
  show AW S m_X12_readPart 18 _ _ 0 0 0 [some (.ref 420), none, none] [] (hp I L w1 w2 t)
  have bad : ∀ {z : Bool} {b' p' : Nat} {J : Nat → Nat → Int32}, prt T e b = -1 → Cf T e n0 b' o I J p' → o.length < 400 → J 420 12 = nI b → AW S m_X12_readPart 18 (QF T e n0 (prtP T e b o) I L w1 w2 t) nX 0 0 40 [some (.ref 420), some (.int (bI z)), none] [.int (-1)] (hp J L w1 w2 t) := by
    intro z b' p' J hp1 h2 ho4 hbeg
    rw [show prtP T e b o = (false, b, []) from if_pos hp1]
    have fin : ∀ {x y : Int32}, AW S m_X12_readPart 18 (QF T e n0 (false, b, []) I L w1 w2 t) nX 0 0 61 [some (.ref 420), some (.int (bI z)), some (.int (-1))] [.int y, .int x, .ref 420] (hp J L w1 w2 t) := by
      intro x y
      refine a_eV0 rfl lX12_180 mo_X12_emits (r_X12_emits (Cf.st h2) (by omega)) rfl rfl rfl ⟨12, _, rfl, rfl, rfl⟩ rfl ?_
      refine a_l2 rfl rfl rfl ?_
      refine a_if_lt rfl (fun _ => ?_) (fun c => absurd (by decide) c)
      refine a_s rfl rfl ?_
      exact a_zret rfl rfl rfl (QF.no (Cf.ef h2) ((emH_f (by decide)).trans hbeg))
    refine a_s2 rfl rfl rfl rfl rfl rfl ?_
    refine a_l0 rfl rfl rfl ?_
    refine a_l1 rfl rfl rfl ?_
    cases z with
    | false =>
      refine a_if_eq rfl (fun _ => ?_) (fun c => absurd rfl c)
      refine a_l2 rfl rfl rfl ?_
      refine a_l1 rfl rfl rfl ?_
      refine a_if_eq rfl (fun _ => ?_) (fun c => absurd rfl c)
      refine a_s rfl rfl ?_
      exact fin
    | true =>
      refine a_if_eq rfl (fun c => absurd c (by decide)) (fun _ => ?_)
      refine a_s rfl rfl ?_
      refine a_goto rfl ?_
      refine a_l1 rfl rfl rfl ?_
      refine a_if_eq rfl (fun c => absurd c (by decide)) (fun _ => ?_)
      refine a_l2 rfl rfl rfl ?_
      refine a_goto rfl ?_
      exact fin
  have good : ∀ {p' : Nat} {x y v : Int32} {J : Nat → Nat → Int32}, ¬ prt T e b = -1 → Cf T e n0 (nx T e b) o I J p' → x = stF (prt T e b) → y = snF (prt T e b) → ¬ v < 0 → AW S m_X12_readPart 18 (QF T e n0 (prtP T e b o) I L w1 w2 t) nX 0 0 61 [some (.ref 420), none, some (.int v)] [.int y, .int x, .ref 420] (hp J L w1 w2 t) := by
    intro p' x y v J hp1 h2 hx hy hv
    rw [show prtP T e b o = (true, nx T e b, prt T e b :: o) from if_neg hp1]
    have n1 := nx_lt (T := T) (prt_lt hp1)
    have n2 := Cf.le h2
    refine a_eV0 rfl lX12_180 mo_X12_emits (r_X12_emits (Cf.st h2) (by omega)) rfl rfl rfl ⟨12, _, rfl, rfl, rfl⟩ rfl ?_
    refine a_l2 rfl rfl rfl ?_
    refine a_if_lt rfl (fun c => absurd c hv) (fun _ => ?_)
    refine a_s rfl rfl ?_
    refine a_goto rfl ?_
    exact a_zret rfl rfl rfl (QF.yes (Cf.em h2 hx hy))
  refine a_l0 rfl rfl rfl ?_
  refine a_gV rfl lX12_106 mo_X12_letters (h_letters (Cf.pp h)) rfl rfl rfl ⟨12, _, rfl, rfl, rfl⟩ rfl (fun v' h' hv => ?_)
  obtain ⟨rfl, J1, rfl, h1⟩ := hv
  rw [hT, Cf.nb h] at h1
  have eT1 : J1 426 = T := (Rd.T h1).trans hT
  refine a_l0 rfl rfl rfl ?_
  refine a_geti rfl gfX12_81_12 rfl ?_
  refine a_top (y := nI (rn T e 1 b)) (Pp.pu (Rd.pp h1)) ?_
  refine a_l0 rfl rfl rfl ?_
  refine a_geti rfl gfX12_91_12 rfl ?_
  refine a_top (y := nI b) (Rd.be h1) ?_
  have hr1 := rn_le (T := T) (k := 1) hbe
  refine a_ic_ne rfl (fun c => ?_) (fun c => ?_)
  · have k1 : kd T e b = 1 := by
      have hne : ¬ rn T e 1 b = b := fun z => c (congrArg nI z)
      cases ck : isK T e 1 b with
      | true => exact (kd_lt (isK_lt ck)).trans (isK_kc ck)
      | false => exact absurd (rn_f ck) hne
    have hlt := kd_in (T := T) (e := e) (b := b) (by rw [k1]; decide)
    have C1 : Cf T e n0 (nx T e b) o I J1 (rn T e 1 b) := Cf.rd h h1 (by rw [← en_1 k1]; rfl)
    have ep : prt T e b = wPa (wd T e b) := (if_neg (by rw [k1]; decide)).trans (if_pos k1)
    refine a_s rfl rfl ?_
    refine a_s1 rfl rfl rfl rfl rfl rfl ?_
    refine a_l1 rfl rfl rfl ?_
    refine a_if_eq rfl (fun _ => ?_) (fun c => absurd rfl c)
    refine a_l0 rfl rfl rfl ?_
    refine a_eV1 rfl lX12_177 mo_X12_wordOfPart (h_wordOfPart hw (Rd.be h1) (Rd.bp h1) (Rd.pp h1) (by rw [eT1])) rfl rfl rfl ⟨12, _, rfl, rfl, rfl⟩ rfl ?_
    refine a_top (y := wpF (wd T e b)) (by rw [eT1]; exact if_pos k1) ?_
    have hw27 := wd_le (T := T) (e := e) (b := b)
    rcases wp_ok (wd T e b) (by omega) with ⟨z1, z2⟩ | ⟨z1, z2, z3, z4⟩
    · rw [z1]
      exact bad (z := false) (ep.trans z2) C1 (by omega) (Rd.be h1)
    · refine a_s2 rfl rfl rfl rfl rfl rfl ?_
      refine a_l0 rfl rfl rfl ?_
      refine a_l1 rfl rfl rfl ?_
      refine a_if_eq rfl (fun _ => ?_) (fun c => absurd rfl c)
      refine a_l2 rfl rfl rfl ?_
      refine a_l1 rfl rfl rfl ?_
      refine a_if_eq rfl (fun _ => ?_) (fun c => absurd rfl c)
      refine a_s rfl rfl ?_
      exact a_less (good (by rw [ep]; exact z2) C1 (by rw [ep]; exact z3) (by rw [ep]; exact z4) z1) ⟨rfl, rfl, trivial⟩
  · have er : rn T e 1 b = b := nI_inj (by omega) (by omega) c
    rw [er] at h1
    have k1 : kd T e b ≠ 1 := fun z => by
      have := rn_t (kd_isK (by decide) z)
      have h9 := rn_ge (T := T) (e := e) (k := 1) (p := b + 1)
      omega
    refine a_s rfl rfl ?_
    refine a_goto rfl ?_
    refine a_s1 rfl rfl rfl rfl rfl rfl ?_
    refine a_l1 rfl rfl rfl ?_
    refine a_if_eq rfl (fun c => absurd c (by decide)) (fun _ => ?_)
    refine a_l0 rfl rfl rfl ?_
    refine a_s rfl rfl ?_
    refine a_s rfl rfl ?_
    refine a_gV rfl lX12_113 mo_X12_number (h_number (b := b) (x := 0) (y := 999) (Rd.pp h1) (by rw [eT1]; exact hskb) (by decide)) rfl rfl rfl ⟨12, _, rfl, rfl, rfl⟩ rfl (fun v' h' hv => ?_)
    obtain ⟨rfl, J2, rfl, h2⟩ := hv
    rw [eT1] at h2 ⊢
    refine a_goto rfl ?_
    have ep : prt T e b = if kd T e b = 2 then vl T e b else -1 := by
      unfold prt
      by_cases c2 : kd T e b = 2
      · rw [if_pos c2, if_pos c2]
      · rw [if_neg c2, if_neg c2, if_neg k1]
    have C1 := Cf.rd h h1 hskb
    by_cases cv : prt T e b = -1
    · have en1 : nm T e b 0 999 = -1 := if_neg fun z => by
        rw [ep, if_pos z.1] at cv
        rw [cv] at z
        exact absurd z.2.1 (by decide)
      rw [en1]
      exact bad (z := true) cv (Cf.rd (b' := rn T e 4 (rn T e 2 b)) C1 h2 rfl) (by omega) (Rd.be h2)
    · have k2 : kd T e b = 2 := by
        by_cases c2 : kd T e b = 2
        · exact c2
        · rw [ep, if_neg c2] at cv
          exact absurd rfl cv
      rw [if_pos k2] at ep
      obtain ⟨m, hm, em⟩ := nu_rng k2 (by rw [← ep]; exact cv)
      have en1 : nm T e b 0 999 = nI m := by
        rw [← em]
        refine if_pos ⟨k2, ?_, ?_⟩
        · rw [em]
          exact nI_0le (by omega)
        · rw [em]
          exact nI_leu (j := 999) (by omega) (by decide)
      rw [en1]
      obtain ⟨s9, sn⟩ := nI_st m hm
      have C2 : Cf T e n0 (nx T e b) o I J2 (rn T e 2 b) := Cf.rd C1 h2 (by rw [← en_2 k2]; rfl)
      refine a_s2 rfl rfl rfl rfl rfl rfl ?_
      refine a_l0 rfl rfl rfl ?_
      refine a_l1 rfl rfl rfl ?_
      refine a_if_eq rfl (fun c => absurd c (by decide)) (fun _ => ?_)
      refine a_s rfl rfl ?_
      refine a_goto rfl ?_
      refine a_l1 rfl rfl rfl ?_
      refine a_if_eq rfl (fun c => absurd c (by decide)) (fun _ => ?_)
      refine a_l2 rfl rfl rfl ?_
      refine a_goto rfl ?_
      exact a_less (good cv C2 (by rw [ep, em]; exact s9) (by rw [ep, em]; exact sn) (nI_pos (by omega))) ⟨rfl, rfl, trivial⟩
theorem h_readSum (hw : WdS S) (hbt : BtT T) (hT : I 426 = T) (h : Cf T e n0 b o I I p) (hB : o.length < b) : Sp S m_X12_readSum 19 0 0 [.ref 420] (hp I L w1 w2 t) (QF T e n0 (sumP T e b o) I L w1 w2 t) nX := by
  have he4 := Cf.e4 h
  refine Sp_of ok_X12_readSum rfl rfl ?_
  show AW S m_X12_readSum 19 _ _ 0 0 0 [some (.ref 420)] [] (hp I L w1 w2 t)
  refine a_l0 rfl rfl rfl ?_
  refine a_gV rfl lX12_184 mo_X12_readPart (h_readPart hw hT h hB) rfl rfl rfl ⟨12, _, rfl, rfl, rfl⟩ rfl (fun v' h' hv => ?_)
  obtain ⟨rfl, J1, p1, rfl, hz1, hf1⟩ := hv
  by_cases c : prt T e b = -1
  · rw [show prtP T e b o = (false, b, []) from if_pos c] at hf1 ⊢
    rw [show sumP T e b o = (false, b, []) from if_pos c]
    refine a_if_ne rfl (fun z => absurd rfl z) (fun _ => ?_)
    refine a_s rfl rfl ?_
    exact a_zret rfl rfl rfl (QF.no (hf1 rfl).1 (hf1 rfl).2)
  rw [show prtP T e b o = (true, nx T e b, prt T e b :: o) from if_neg c] at hz1 ⊢
  have es0 : sumP T e b o = smL T e (nx T e b) (prt T e b :: o) := if_neg c
  have n1 := nx_lt (T := T) (prt_lt c)
  refine a_if_ne rfl (fun _ => ?_) (fun z => absurd (show (1 : Int32) = 0 from z) (by decide))
  refine a_inv (n := e - nx T e b) (fun m ls h => ls = [some (.ref 420)] ∧ ∃ J p' b' o', h = hp J L w1 w2 t ∧ Cf T e n0 b' o' I J p' ∧ o'.length < b' ∧ smL T e b' o' = sumP T e b o ∧ m = e - b') ⟨rfl, J1, p1, _, _, rfl, hz1 rfl, by show o.length + 1 < nx T e b; omega, es0.symm, rfl⟩ ?_
  rintro m _ _ ⟨rfl, J, p', b', o', rfl, C, hB', es, hm⟩ ih
  have eT := Cf.tt C hT
  refine a_l0 rfl rfl rfl ?_
  refine a_s rfl rfl ?_
  refine a_gV rfl lX12_187 mo_X12_sign (h_sign (b := b') (c := 43) (by rw [eT]; exact hbt) (by decide) (Cf.pp C) (by rw [eT]; exact Cf.nb C)) rfl rfl rfl ⟨12, _, rfl, rfl, rfl⟩ rfl (fun v' h' hv => ?_)
  obtain ⟨rfl, J2, rfl, h2⟩ := hv
  rw [eT] at h2 ⊢
  cases cs : sg T e b' (nI 43) with
  | false =>
    have cs : sg T e b' 43 = false := cs
    refine a_if_eq rfl (fun _ => ?_) (fun z => absurd rfl z)
    rw [if_neg (by rw [show sg T e b' (nI 43) = false from cs]; decide)] at h2
    refine a_s rfl rfl ?_
    rw [← es, smL_f cs]
    exact a_zret rfl rfl rfl (QF.yes (Cf.rd C h2 (Cf.sk C)))
  | true =>
    have cs : sg T e b' 43 = true := cs
    refine a_if_eq rfl (fun z => absurd z (by decide)) (fun _ => ?_)
    rw [if_pos (show sg T e b' (nI 43) = true from cs)] at h2
    have n2 := nx_lt (T := T) (sg_lt cs)
    have C2 : Cf T e n0 (nx T e b') o' I J2 (en T e b') := Cf.rd C h2 rfl
    have n2e := Cf.le C2
    refine a_l0 rfl rfl rfl ?_
    refine a_gV rfl lX12_184 mo_X12_readPart (h_readPart hw (Cf.tt C2 hT) (Cf.rf C2) (by omega)) rfl rfl rfl ⟨12, _, rfl, rfl, rfl⟩ rfl (fun v' h' hv => ?_)
    obtain ⟨rfl, J3, p3, rfl, hz3, hf3⟩ := hv
    by_cases cp : prt T e (nx T e b') = -1
    · rw [show prtP T e (nx T e b') o' = (false, nx T e b', []) from if_pos cp] at hf3 ⊢
      refine a_if_ne rfl (fun z => absurd rfl z) (fun _ => ?_)
      refine a_s rfl rfl ?_
      rw [← es, smL_n cs cp]
      exact a_zret rfl rfl rfl (Cf.no C2 (hf3 rfl).1 (hf3 rfl).2)
    · rw [show prtP T e (nx T e b') o' = (true, nx T e (nx T e b'), prt T e (nx T e b') :: o') from if_neg cp] at hz3 ⊢
      refine a_if_ne rfl (fun _ => ?_) (fun z => absurd (show (1 : Int32) = 0 from z) (by decide))
      rw [smL_t cs cp] at es
      have n3 := nx_lt (T := T) (prt_lt cp)
      have C3 := Cf.cc C2 (hz3 rfl)
      have n3e : nx T e (nx T e b') ≤ e := Cf.le C3
      refine a_l0 rfl rfl rfl ?_
      refine a_s rfl rfl ?_
      refine a_s rfl rfl ?_
      refine a_eV0 rfl lX12_180 mo_X12_emits (r_X12_emits (Cf.st C3) (by show o'.length + 1 ≤ 399; omega)) rfl rfl rfl ⟨12, _, rfl, rfl, rfl⟩ rfl ?_
      refine a_goto rfl ?_
      exact ih (e - nx T e (nx T e b')) _ _ (by omega) ⟨rfl, _, p3, _, _, rfl, Cf.em (z := 2000) C3 (by decide) (by decide), by show o'.length + 1 + 1 < nx T e (nx T e b'); omega, es, rfl⟩
theorem h_readTag (hw : WdS S) (hT : I 426 = T) (h : Cf T e n0 b o I I p) (hB : o.length < b) : Sp S m_X12_readTag 17 0 0 [.ref 420] (hp I L w1 w2 t) (fun v h' => ∃ z x J p', v = some (.int (bI z)) ∧ h' = hp J L w1 w2 t ∧ (z = true → ((isWd T e b 22 = true ∧ x = 1007) ∨ (isWd T e b 22 = false ∧ isWd T e b 23 = true ∧ x = 1008)) ∧ Cf T e n0 (nx T e b) (x :: o) I J p') ∧ (z = false → (isWd T e b 22 = false ∧ isWd T e b 23 = false) ∧ Cf T e n0 b o I J p')) nX := by
  have hbe := Cf.le h
  have he4 := Cf.e4 h
  refine Sp_of ok_X12_readTag rfl rfl ?_
  show AW S m_X12_readTag 17 _ _ 0 0 0 [some (.ref 420), none] [] (hp I L w1 w2 t)
  refine a_l0 rfl rfl rfl ?_
  refine a_gV rfl lX12_106 mo_X12_letters (h_letters (Cf.pp h)) rfl rfl rfl ⟨12, _, rfl, rfl, rfl⟩ rfl (fun v' h' hv => ?_)
  obtain ⟨rfl, J1, rfl, h1⟩ := hv
  rw [hT, Cf.nb h] at h1
  have eT1 : J1 426 = T := (Rd.T h1).trans hT
  have good : ∀ (k : Nat) (x : Int32), nI k = stF x → 0 = snF x → k < 100 → kd T e b = 1 → ((isWd T e b 22 = true ∧ x = 1007) ∨ (isWd T e b 22 = false ∧ isWd T e b 23 = true ∧ x = 1008)) → AW S m_X12_readTag 17 (fun v h' => ∃ z x J p', v = some (.int (bI z)) ∧ h' = hp J L w1 w2 t ∧ (z = true → ((isWd T e b 22 = true ∧ x = 1007) ∨ (isWd T e b 22 = false ∧ isWd T e b 23 = true ∧ x = 1008)) ∧ Cf T e n0 (nx T e b) (x :: o) I J p') ∧ (z = false → (isWd T e b 22 = false ∧ isWd T e b 23 = false) ∧ Cf T e n0 b o I J p')) nX 0 0 33 [some (.ref 420), none] [.int (nI k)] (hp J1 L w1 w2 t) := by
    intro k x hk1 hk2 hk k1 hx
    have C1 : Cf T e n0 (nx T e b) o I J1 (rn T e 1 b) := Cf.rd h h1 (by rw [← en_1 k1]; rfl)
    refine a_s1 rfl rfl rfl rfl rfl rfl ?_
    refine a_l1 rfl rfl rfl ?_
    refine a_if_lt rfl (fun c => absurd c (nI_pos (by omega))) (fun _ => ?_)
    refine a_l0 rfl rfl rfl ?_
    refine a_l1 rfl rfl rfl ?_
    refine a_s rfl rfl ?_
    refine a_eV0 rfl lX12_180 mo_X12_emits (r_X12_emits (Cf.st C1) (by omega)) rfl rfl rfl ⟨12, _, rfl, rfl, rfl⟩ rfl ?_
    refine a_goto rfl ?_
    refine a_l1 rfl rfl rfl ?_
    refine a_if_lt rfl (fun c => absurd c (nI_pos (by omega))) (fun _ => ?_)
    refine a_s rfl rfl ?_
    refine a_goto rfl ?_
    exact a_zret rfl rfl rfl ⟨true, x, _, _, rfl, rfl, fun _ => ⟨hx, Cf.em C1 hk1 hk2⟩, fun z => by cases z⟩
  refine a_l0 rfl rfl rfl ?_
  refine a_ldcs (q := 130 + 22) rfl (hw.ld (i := 22) (by decide)) ?_
  refine a_eV1 rfl lX12_109 mo_X12_isWord (h_isWord (k := 22) hw (by decide) (Rd.be h1) (Rd.bp h1) (Rd.pp h1)) rfl rfl rfl ⟨12, _, rfl, rfl, rfl⟩ rfl ?_
  obtain ⟨z22, c22⟩ : ∃ z, isWd T e b 22 = z := ⟨_, rfl⟩
  refine a_top (y := bI z22) (by rw [eT1]; exact congrArg bI ((isW_wd (by decide)).trans c22)) ?_
  cases z22 with
  | true =>
    refine a_if_eq rfl (fun z => absurd z (by decide)) (fun _ => ?_)
    refine a_s rfl rfl ?_
    refine a_goto rfl ?_
    exact good 7 1007 (by decide) (by decide) (by decide) (of_decide_eq_true c22).1 (Or.inl ⟨c22, rfl⟩)
  | false =>
  refine a_if_eq rfl (fun _ => ?_) (fun z => absurd rfl z)
  refine a_l0 rfl rfl rfl ?_
  refine a_ldcs (q := 130 + 23) rfl (hw.ld (i := 23) (by decide)) ?_
  refine a_eV1 rfl lX12_109 mo_X12_isWord (h_isWord (k := 23) hw (by decide) (Rd.be h1) (Rd.bp h1) (Rd.pp h1)) rfl rfl rfl ⟨12, _, rfl, rfl, rfl⟩ rfl ?_
  obtain ⟨z23, c23⟩ : ∃ z, isWd T e b 23 = z := ⟨_, rfl⟩
  refine a_top (y := bI z23) (by rw [eT1]; exact congrArg bI ((isW_wd (by decide)).trans c23)) ?_
  cases z23 with
  | true =>
    refine a_if_eq rfl (fun z => absurd z (by decide)) (fun _ => ?_)
    refine a_s rfl rfl ?_
    refine a_goto rfl ?_
    exact good 8 1008 (by decide) (by decide) (by decide) (of_decide_eq_true c23).1 (Or.inr ⟨c22, c23, rfl⟩)
  | false =>
  refine a_if_eq rfl (fun _ => ?_) (fun z => absurd rfl z)
  refine a_s rfl rfl ?_
  refine a_s1 rfl rfl rfl rfl rfl rfl ?_
  refine a_l1 rfl rfl rfl ?_
  refine a_if_lt rfl (fun _ => ?_) (fun c => absurd (by decide) c)
  refine a_l0 rfl rfl rfl ?_
  refine a_l0 rfl rfl rfl ?_
  refine a_geti rfl gfX12_91_12 rfl ?_
  refine a_top (y := nI b) (Rd.be h1) ?_
  refine a_puti rfl pfX12_81_12 rfl ?_
  refine a_l1 rfl rfl rfl ?_
  refine a_if_lt rfl (fun _ => ?_) (fun c => absurd (by decide) c)
  refine a_s rfl rfl ?_
  exact a_zret rfl rfl rfl ⟨false, 0, _, b, rfl, rfl, (fun z => by cases z), fun _ => ⟨⟨c22, c23⟩, Cf.rd h (Rd.rs h1) (Cf.sk h)⟩⟩
theorem seqP_of {item : Nat → List Int32 → PR} {k : Nat} {op : Int32} {z : Bool} {b1 : Nat} {o1 : List Int32} (hr : item b o = (z, b1, o1)) : seqP T e item k op b o = if z = true then loopP T e item k op b1 o1 else (false, b1, []) := by
  unfold seqP
  rw [hr]
theorem atomR_p {D : Nat} {z : Bool} {b1 : Nat} {o1 : List Int32} (h : sg T e b 40 = true) (hr : cndP T e (atomR T e D) (nx T e b) o = (z, b1, o1)) : atomR T e (D + 1) b o = if z = true then (if sg T e b1 41 = true then (true, nx T e b1, o1) else (false, b1, [])) else (false, b1, []) := by
  unfold atomR
  rw [if_pos h, hr]
theorem atomR_n {D : Nat} {z : Bool} {b1 : Nat} {o1 : List Int32} (h : sg T e b 40 = false) (h2 : isWd T e b 21 = true) (hr : atomR T e D (nx T e b) o = (z, b1, o1)) : atomR T e (D + 1) b o = if z = true then (true, b1, 2003 :: o1) else (false, b1, []) := by
  rw [show atomR T e (D + 1) b o = (if (atomR T e D (nx T e b) o).1 = true then (true, (atomR T e D (nx T e b) o).2.1, 2003 :: (atomR T e D (nx T e b) o).2.2) else (false, (atomR T e D (nx T e b) o).2.1, [])) from (if_neg (by rw [h]; decide)).trans (if_pos h2), hr]
theorem atomR_b {D : Nat} (h : sg T e b 40 = false) (h2 : isWd T e b 21 = false) : atomR T e D b o = baseP T e b o := by
  cases D with
  | zero =>
    unfold atomR
    rw [if_neg (by unfold opn; rw [h, h2]; decide)]
  | succ D =>
    unfold atomR
    rw [if_neg (by rw [h]; decide), if_neg (by rw [h2]; decide)]
theorem atomR_0 (h : opn T e b = true) : atomR T e 0 b o = (false, b, []) := by
  unfold atomR
  rw [if_pos h]

theorem h_readAtom_6 (hw : WdS S) (hbt : BtT T) (hT : I 426 = T) (hd : I 420 13 = nI 6) (h : Cf T e n0 b o I I p) (hB : o.length < b) : Sp S m_X12_readAtom 20 0 0 [.ref 420] (hp I L w1 w2 t) (QF T e n0 (atomR T e 0 b o) I L w1 w2 t) nX := by
  have he4 := Cf.e4 h
  have hbe := Cf.le h
  refine Sp_of ok_X12_readAtom rfl rfl ?_
  show AW S m_X12_readAtom 20 _ _ 0 0 0 [some (.ref 420), none] [] (hp I L w1 w2 t)
  refine a_l0 rfl rfl rfl ?_
  refine a_s rfl rfl ?_
  refine a_gV rfl lX12_187 mo_X12_sign (h_sign (b := b) (c := 40) (by rw [hT]; exact hbt) (by decide) (Cf.pp h) (by rw [hT]; exact Cf.nb h)) rfl rfl rfl ⟨12, _, rfl, rfl, rfl⟩ rfl (fun v' h' hv => ?_)
  obtain ⟨rfl, J1, rfl, h1⟩ := hv
  rw [hT] at h1 ⊢
  cases c40 : sg T e b (nI 40) with
  | true =>
    have c40 : sg T e b 40 = true := c40
    refine a_if_eq rfl (fun z => absurd z (by decide)) (fun _ => ?_)
    rw [if_pos (show sg T e b (nI 40) = true from c40)] at h1
    have n1 := nx_lt (T := T) (sg_lt c40)
    have C1 : Cf T e n0 (nx T e b) o I J1 (en T e b) := Cf.rd h h1 rfl
    refine a_l0 rfl rfl rfl ?_
    refine a_geti rfl gfX12_194_12 rfl ?_
    refine a_top (y := nI 6) (Cf.d C1 hd) ?_
    refine a_s rfl rfl ?_
    refine a_ic_ne rfl (fun c => absurd rfl c) (fun _ => ?_)
    refine a_s rfl rfl ?_
    rw [atomR_0 (by unfold opn; rw [c40]; exact Bool.or_true _)]
    exact a_zret rfl rfl rfl (QF.no C1.1 (Rd.be h1))
  | false =>
  have c40 : sg T e b 40 = false := c40
  refine a_if_eq rfl (fun _ => ?_) (fun z => absurd rfl z)
  rw [if_neg (by rw [show sg T e b (nI 40) = false from c40]; decide)] at h1
  have C0 : Cf T e n0 b o I J1 b := Cf.rd h h1 (Cf.sk h)
  have eT0 := Cf.tt C0 hT
  refine a_l0 rfl rfl rfl ?_
  refine a_ldcs (q := 130 + 21) rfl (hw.ld (i := 21) (by decide)) ?_
  refine a_gV rfl lX12_128 mo_X12_passes (h_passes (b := b) (k := 21) hw (by decide) (Cf.pp C0) (by rw [eT0]; exact Cf.nb C0)) rfl rfl rfl ⟨12, _, rfl, rfl, rfl⟩ rfl (fun v' h' hv => ?_)
  obtain ⟨rfl, J2, rfl, h2⟩ := hv
  rw [eT0] at h2 ⊢
  cases c21 : isWd T e b 21 with
  | true =>
    refine a_if_eq rfl (fun z => absurd z (by decide)) (fun _ => ?_)
    rw [if_pos c21] at h2
    have n1 := nx_lt (T := T) (isWd_lt c21)
    have C2 : Cf T e n0 (nx T e b) o I J2 (en T e b) := Cf.rd C0 h2 rfl
    refine a_l0 rfl rfl rfl ?_
    refine a_geti rfl gfX12_194_12 rfl ?_
    refine a_top (y := nI 6) (Cf.d C2 hd) ?_
    refine a_s rfl rfl ?_
    refine a_ic_ne rfl (fun c => absurd rfl c) (fun _ => ?_)
    refine a_s rfl rfl ?_
    rw [atomR_0 (by unfold opn; rw [c21]; exact Bool.true_or _)]
    exact a_zret rfl rfl rfl (QF.no C2.1 (Rd.be h2))
  | false =>
  refine a_if_eq rfl (fun _ => ?_) (fun z => absurd rfl z)
  rw [if_neg (by rw [c21]; decide)] at h2
  have C2 : Cf T e n0 b o I J2 b := Cf.rd C0 h2 (Cf.sk C0)
  rw [atomR_b c40 c21]
  refine a_l0 rfl rfl rfl ?_
  refine a_gV rfl lX12_205 mo_X12_readTag (h_readTag hw (Cf.tt C2 hT) (Cf.rf C2) hB) rfl rfl rfl ⟨12, _, rfl, rfl, rfl⟩ rfl (fun v' h' hv => ?_)
  obtain ⟨z3, x3, J3, p3, rfl, rfl, ht3, hf3⟩ := hv
  cases z3 with
  | true =>
    refine a_if_eq rfl (fun z => absurd z (by decide)) (fun _ => ?_)
    refine a_s rfl rfl ?_
    obtain ⟨hx, D3⟩ := ht3 rfl
    rcases hx with ⟨c22, rfl⟩ | ⟨c22, c23, rfl⟩
    · rw [show baseP T e b o = (true, nx T e b, 1007 :: o) from if_pos c22]
      exact a_zret rfl rfl rfl (QF.yes (Cf.cc C2 D3))
    · rw [show baseP T e b o = (true, nx T e b, 1008 :: o) from (if_neg (by rw [c22]; decide)).trans (if_pos c23)]
      exact a_zret rfl rfl rfl (QF.yes (Cf.cc C2 D3))
  | false =>
  refine a_if_eq rfl (fun _ => ?_) (fun z => absurd rfl z)
  obtain ⟨⟨c22, c23⟩, D3⟩ := hf3 rfl
  have C3 := Cf.cc C2 D3
  have g4 := sumP_gd (T := T) (o := o) hbe
  refine a_l0 rfl rfl rfl ?_
  refine a_gV rfl lX12_208 mo_X12_readSum (h_readSum hw hbt (Cf.tt C3 hT) (Cf.rf C3) hB) rfl rfl rfl ⟨12, _, rfl, rfl, rfl⟩ rfl (fun v' h' hv => ?_)
  obtain ⟨rfl, J4, p4, rfl, hz4, hf4⟩ := hv
  rcases hr4 : sumP T e b o with ⟨z4, b4, o4⟩
  rw [baseP_s c22 c23 hr4]
  rw [hr4] at hz4 hf4 g4
  cases z4 with
  | false =>
    refine a_if_ne rfl (fun z => absurd rfl z) (fun _ => ?_)
    refine a_s rfl rfl ?_
    rw [if_neg (by decide)]
    exact a_zret rfl rfl rfl (Cf.no C3 (hf4 rfl).1 (hf4 rfl).2)
  | true =>
  refine a_if_ne rfl (fun _ => ?_) (fun z => absurd (show (1 : Int32) = 0 from z) (by decide))
  rw [if_pos rfl]
  have C4 : Cf T e n0 b4 o4 I J4 p4 := Cf.cc C3 (hz4 rfl)
  obtain ⟨-, -, g4⟩ := g4
  have g4 : b < b4 ∧ o4.length + b ≤ o.length + b4 := g4 rfl
  have key : ∀ {z5 : Bool} {x : Int32} {p' : Nat} {J : Nat → Nat → Int32}, b4 < nx T e b4 → x = (if z5 = true then 2001 else 2002) → Cf T e n0 (nx T e b4) o4 I J p' → AW S m_X12_readAtom 20 (QF T e n0 (cmpP T e x (nx T e b4) o4) I L w1 w2 t) nX 0 0 152 [some (.ref 420), some (.int (bI z5))] [] (hp J L w1 w2 t) := by
    intro z5 x p' J n4 hx C
    have g6 := sumP_gd (T := T) (o := o4) (Cf.le C)
    refine a_l0 rfl rfl rfl ?_
    refine a_gV rfl lX12_208 mo_X12_readSum (h_readSum hw hbt (Cf.tt C hT) (Cf.rf C) (by omega)) rfl rfl rfl ⟨12, _, rfl, rfl, rfl⟩ rfl (fun v' h' hv => ?_)
    obtain ⟨rfl, J6, p6, rfl, hz6, hf6⟩ := hv
    rcases hr6 : sumP T e (nx T e b4) o4 with ⟨z6, b6, o6⟩
    rw [hr6] at hz6 hf6 g6
    cases z6 with
    | false =>
      refine a_if_ne rfl (fun z => absurd rfl z) (fun _ => ?_)
      refine a_s rfl rfl ?_
      rw [cmpP_f hr6]
      exact a_zret rfl rfl rfl (Cf.no C (hf6 rfl).1 (hf6 rfl).2)
    | true =>
      refine a_if_ne rfl (fun _ => ?_) (fun z => absurd (show (1 : Int32) = 0 from z) (by decide))
      rw [cmpP_t hr6]
      have C6 : Cf T e n0 b6 o6 I J6 p6 := Cf.cc C (hz6 rfl)
      have c6e := Cf.le C6
      obtain ⟨-, -, g6⟩ := g6
      have g6 : nx T e b4 < b6 ∧ o6.length + nx T e b4 ≤ o4.length + b6 := g6 rfl
      refine a_l0 rfl rfl rfl ?_
      refine a_l1 rfl rfl rfl ?_
      cases z5 with
      | false =>
        rw [if_neg (by decide)] at hx
        subst hx
        refine a_if_eq rfl (fun _ => ?_) (fun c => absurd rfl c)
        refine a_s rfl rfl ?_
        refine a_s rfl rfl ?_
        refine a_eV0 rfl lX12_180 mo_X12_emits (r_X12_emits (Cf.st C6) (by omega)) rfl rfl rfl ⟨12, _, rfl, rfl, rfl⟩ rfl ?_
        refine a_s rfl rfl ?_
        exact a_zret rfl rfl rfl (QF.yes (Cf.em (z := 2002) C6 (by decide) (by decide)))
      | true =>
        rw [if_pos rfl] at hx
        subst hx
        refine a_if_eq rfl (fun c => absurd c (by decide)) (fun _ => ?_)
        refine a_s rfl rfl ?_
        refine a_goto rfl ?_
        refine a_s rfl rfl ?_
        refine a_eV0 rfl lX12_180 mo_X12_emits (r_X12_emits (Cf.st C6) (by omega)) rfl rfl rfl ⟨12, _, rfl, rfl, rfl⟩ rfl ?_
        refine a_s rfl rfl ?_
        exact a_zret rfl rfl rfl (QF.yes (Cf.em (z := 2001) C6 (by decide) (by decide)))
  have eT4 := Cf.tt C4 hT
  refine a_l0 rfl rfl rfl ?_
  refine a_s rfl rfl ?_
  refine a_gV rfl lX12_187 mo_X12_sign (h_sign (b := b4) (c := 60) (by rw [eT4]; exact hbt) (by decide) (Cf.pp C4) (by rw [eT4]; exact Cf.nb C4)) rfl rfl rfl ⟨12, _, rfl, rfl, rfl⟩ rfl (fun v' h' hv => ?_)
  obtain ⟨rfl, J5, rfl, h5⟩ := hv
  rw [eT4] at h5 ⊢
  refine a_s1 rfl rfl rfl rfl rfl rfl ?_
  refine a_l1 rfl rfl rfl ?_
  cases c60 : sg T e b4 (nI 60) with
  | true =>
    have c60 : sg T e b4 60 = true := c60
    refine a_if_ne rfl (fun _ => ?_) (fun z => absurd (show (1 : Int32) = 0 from z) (by decide))
    rw [if_pos (show sg T e b4 (nI 60) = true from c60)] at h5
    rw [if_pos c60]
    exact key (z5 := true) (nx_lt (sg_lt c60)) rfl (Cf.rd C4 h5 rfl)
  | false =>
  have c60 : sg T e b4 60 = false := c60
  refine a_if_ne rfl (fun z => absurd rfl z) (fun _ => ?_)
  rw [if_neg (by rw [show sg T e b4 (nI 60) = false from c60]; decide)] at h5
  rw [if_neg (by rw [c60]; decide)]
  have C5 : Cf T e n0 b4 o4 I J5 b4 := Cf.rd C4 h5 (Cf.sk C4)
  have eT5 := Cf.tt C5 hT
  refine a_l0 rfl rfl rfl ?_
  refine a_s rfl rfl ?_
  refine a_gV rfl lX12_187 mo_X12_sign (h_sign (b := b4) (c := 62) (by rw [eT5]; exact hbt) (by decide) (Cf.pp C5) (by rw [eT5]; exact Cf.nb C5)) rfl rfl rfl ⟨12, _, rfl, rfl, rfl⟩ rfl (fun v' h' hv => ?_)
  obtain ⟨rfl, J7, rfl, h7⟩ := hv
  rw [eT5] at h7 ⊢
  cases c62 : sg T e b4 (nI 62) with
  | false =>
    have c62 : sg T e b4 62 = false := c62
    refine a_if_eq rfl (fun _ => ?_) (fun z => absurd rfl z)
    rw [if_neg (by rw [show sg T e b4 (nI 62) = false from c62]; decide)] at h7
    rw [if_neg (by rw [c62]; decide)]
    refine a_s rfl rfl ?_
    exact a_zret rfl rfl rfl (QF.no (Fm.tr C5.1 (Fm.mo (Rd.fm h7) sR_sY)) (Rd.be h7))
  | true =>
    have c62 : sg T e b4 62 = true := c62
    refine a_if_eq rfl (fun z => absurd z (by decide)) (fun _ => ?_)
    rw [if_pos (show sg T e b4 (nI 62) = true from c62)] at h7
    rw [if_pos c62]
    exact key (z5 := false) (nx_lt (sg_lt c62)) rfl (Cf.rd C5 h7 rfl)
theorem h_readAllOf_6 (hw : WdS S) (hbt : BtT T) (hT : I 426 = T) (hd : I 420 13 = nI 6) (h : Cf T e n0 b o I I p) (hB : o.length < b) : Sp S m_X12_readAllOf 21 0 0 [.ref 420] (hp I L w1 w2 t) (QF T e n0 (seqP T e (atomR T e 0) 20 2004 b o) I L w1 w2 t) nX := by
  have he4 := Cf.e4 h
  have g0 := atomR_gdo (T := T) (D := 0) (o := o) (Cf.le h)
  refine Sp_of ok_X12_readAllOf rfl rfl ?_
  show AW S m_X12_readAllOf 21 _ _ 0 0 0 [some (.ref 420)] [] (hp I L w1 w2 t)
  refine a_l0 rfl rfl rfl ?_
  refine a_gV rfl lX12_202 mo_X12_readAtom (h_readAtom_6 hw hbt hT hd h hB) rfl rfl rfl ⟨12, _, rfl, rfl, rfl⟩ rfl (fun v' h' hv => ?_)
  obtain ⟨rfl, J1, p1, rfl, hz1, hf1⟩ := hv
  rcases hr : (atomR T e 0) b o with ⟨z, b1, o1⟩
  rw [seqP_of hr]
  rw [hr] at hz1 hf1 g0
  cases z with
  | false =>
    refine a_if_ne rfl (fun z => absurd rfl z) (fun _ => ?_)
    refine a_s rfl rfl ?_
    rw [if_neg (by decide)]
    exact a_zret rfl rfl rfl (QF.no (hf1 rfl).1 (hf1 rfl).2)
  | true =>
  refine a_if_ne rfl (fun _ => ?_) (fun z => absurd (show (1 : Int32) = 0 from z) (by decide))
  rw [if_pos rfl]
  obtain ⟨-, -, g3⟩ := g0
  have g3 : b < b1 ∧ o1.length + b ≤ o.length + b1 := g3 rfl
  generalize hR : loopP T e (atomR T e 0) 20 2004 b1 o1 = R
  refine a_inv (n := e - b1) (fun m ls h => ls = [some (.ref 420)] ∧ ∃ J p' b' o', h = hp J L w1 w2 t ∧ Cf T e n0 b' o' I J p' ∧ o'.length < b' ∧ loopP T e (atomR T e 0) 20 2004 b' o' = R ∧ m = e - b') ⟨rfl, J1, p1, _, _, rfl, hz1 rfl, by show o1.length < b1; omega, hR, rfl⟩ ?_
  rintro m _ _ ⟨rfl, J, p', b', o', rfl, C, hB', es, hm⟩ ih
  have eT := Cf.tt C hT
  refine a_l0 rfl rfl rfl ?_
  refine a_ldcs (q := 130 + 20) rfl (hw.ld (i := 20) (by decide)) ?_
  refine a_gV rfl lX12_128 mo_X12_passes (h_passes (b := b') (k := 20) hw (by decide) (Cf.pp C) (by rw [eT]; exact Cf.nb C)) rfl rfl rfl ⟨12, _, rfl, rfl, rfl⟩ rfl (fun v' h' hv => ?_)
  obtain ⟨rfl, J2, rfl, h2⟩ := hv
  rw [eT] at h2 ⊢
  cases cw : isWd T e b' 20 with
  | false =>
    refine a_if_eq rfl (fun _ => ?_) (fun z => absurd rfl z)
    rw [if_neg (by rw [cw]; decide)] at h2
    refine a_s rfl rfl ?_
    rw [← es, loopP_f cw]
    exact a_zret rfl rfl rfl (QF.yes (Cf.rd C h2 (Cf.sk C)))
  | true =>
    refine a_if_eq rfl (fun z => absurd z (by decide)) (fun _ => ?_)
    rw [if_pos cw] at h2
    have n2 := nx_lt (T := T) (isWd_lt cw)
    have C2 : Cf T e n0 (nx T e b') o' I J2 (en T e b') := Cf.rd C h2 rfl
    have n2e := Cf.le C2
    have g4 := atomR_gdo (T := T) (D := 0) (o := o') n2e
    refine a_l0 rfl rfl rfl ?_
    refine a_gV rfl lX12_202 mo_X12_readAtom (h_readAtom_6 hw hbt (Cf.tt C2 hT) (Cf.d C2 hd) (Cf.rf C2) (by omega)) rfl rfl rfl ⟨12, _, rfl, rfl, rfl⟩ rfl (fun v' h' hv => ?_)
    obtain ⟨rfl, J3, p3, rfl, hz3, hf3⟩ := hv
    have el := fun g => loopP_t (op := 2004) (o := o') (item := atomR T e 0) cw g
    have en' := loopP_n (op := 2004) (o := o') (item := atomR T e 0) cw
    rcases hr2 : (atomR T e 0) (nx T e b') o' with ⟨z2, b2, o2⟩
    rw [hr2] at hz3 hf3 g4 el en'
    cases z2 with
    | false =>
      refine a_if_ne rfl (fun z => absurd rfl z) (fun _ => ?_)
      refine a_s rfl rfl ?_
      rw [← es, en' Bool.false_ne_true]
      exact a_zret rfl rfl rfl (Cf.no C2 (hf3 rfl).1 (hf3 rfl).2)
    | true =>
      refine a_if_ne rfl (fun _ => ?_) (fun z => absurd (show (1 : Int32) = 0 from z) (by decide))
      have C3 : Cf T e n0 b2 o2 I J3 p3 := Cf.cc C2 (hz3 rfl)
      have c3e := Cf.le C3
      obtain ⟨-, -, g5⟩ := g4
      have g5 : nx T e b' < b2 ∧ o2.length + nx T e b' ≤ o'.length + b2 := g5 rfl
      have es2 : loopP T e (atomR T e 0) 20 2004 b2 (2004 :: o2) = R := (el (by show b' < b2; omega) rfl).symm.trans es
      refine a_l0 rfl rfl rfl ?_
      refine a_s rfl rfl ?_
      refine a_s rfl rfl ?_
      refine a_eV0 rfl lX12_180 mo_X12_emits (r_X12_emits (Cf.st C3) (by omega)) rfl rfl rfl ⟨12, _, rfl, rfl, rfl⟩ rfl ?_
      refine a_goto rfl ?_
      exact ih (e - b2) _ _ (by omega) ⟨rfl, _, p3, b2, _, rfl, Cf.em (z := 2004) C3 (by decide) (by decide), by show o2.length + 1 < b2; omega, es2, rfl⟩
theorem h_readCond_6 (hw : WdS S) (hbt : BtT T) (hT : I 426 = T) (hd : I 420 13 = nI 6) (h : Cf T e n0 b o I I p) (hB : o.length < b) : Sp S m_X12_readCond 22 0 0 [.ref 420] (hp I L w1 w2 t) (QF T e n0 (seqP T e (seqP T e (atomR T e 0) 20 2004) 19 2005 b o) I L w1 w2 t) nX := by
  have he4 := Cf.e4 h
  have g0 := seqA_gd (T := T) (D := 0) (o := o) (Cf.le h)
  refine Sp_of ok_X12_readCond rfl rfl ?_
  show AW S m_X12_readCond 22 _ _ 0 0 0 [some (.ref 420)] [] (hp I L w1 w2 t)
  refine a_l0 rfl rfl rfl ?_
  refine a_gV rfl lX12_213 mo_X12_readAllOf (h_readAllOf_6 hw hbt hT hd h hB) rfl rfl rfl ⟨12, _, rfl, rfl, rfl⟩ rfl (fun v' h' hv => ?_)
  obtain ⟨rfl, J1, p1, rfl, hz1, hf1⟩ := hv
  rcases hr : (seqP T e (atomR T e 0) 20 2004) b o with ⟨z, b1, o1⟩
  rw [seqP_of hr]
  rw [hr] at hz1 hf1 g0
  cases z with
  | false =>
    refine a_if_ne rfl (fun z => absurd rfl z) (fun _ => ?_)
    refine a_s rfl rfl ?_
    rw [if_neg (by decide)]
    exact a_zret rfl rfl rfl (QF.no (hf1 rfl).1 (hf1 rfl).2)
  | true =>
  refine a_if_ne rfl (fun _ => ?_) (fun z => absurd (show (1 : Int32) = 0 from z) (by decide))
  rw [if_pos rfl]
  obtain ⟨-, -, g3⟩ := g0
  have g3 : b < b1 ∧ o1.length + b ≤ o.length + b1 := g3 rfl
  generalize hR : loopP T e (seqP T e (atomR T e 0) 20 2004) 19 2005 b1 o1 = R
  refine a_inv (n := e - b1) (fun m ls h => ls = [some (.ref 420)] ∧ ∃ J p' b' o', h = hp J L w1 w2 t ∧ Cf T e n0 b' o' I J p' ∧ o'.length < b' ∧ loopP T e (seqP T e (atomR T e 0) 20 2004) 19 2005 b' o' = R ∧ m = e - b') ⟨rfl, J1, p1, _, _, rfl, hz1 rfl, by show o1.length < b1; omega, hR, rfl⟩ ?_
  rintro m _ _ ⟨rfl, J, p', b', o', rfl, C, hB', es, hm⟩ ih
  have eT := Cf.tt C hT
  refine a_l0 rfl rfl rfl ?_
  refine a_ldcs (q := 130 + 19) rfl (hw.ld (i := 19) (by decide)) ?_
  refine a_gV rfl lX12_128 mo_X12_passes (h_passes (b := b') (k := 19) hw (by decide) (Cf.pp C) (by rw [eT]; exact Cf.nb C)) rfl rfl rfl ⟨12, _, rfl, rfl, rfl⟩ rfl (fun v' h' hv => ?_)
  obtain ⟨rfl, J2, rfl, h2⟩ := hv
  rw [eT] at h2 ⊢
  cases cw : isWd T e b' 19 with
  | false =>
    refine a_if_eq rfl (fun _ => ?_) (fun z => absurd rfl z)
    rw [if_neg (by rw [cw]; decide)] at h2
    refine a_s rfl rfl ?_
    rw [← es, loopP_f cw]
    exact a_zret rfl rfl rfl (QF.yes (Cf.rd C h2 (Cf.sk C)))
  | true =>
    refine a_if_eq rfl (fun z => absurd z (by decide)) (fun _ => ?_)
    rw [if_pos cw] at h2
    have n2 := nx_lt (T := T) (isWd_lt cw)
    have C2 : Cf T e n0 (nx T e b') o' I J2 (en T e b') := Cf.rd C h2 rfl
    have n2e := Cf.le C2
    have g4 := seqA_gd (T := T) (D := 0) (o := o') n2e
    refine a_l0 rfl rfl rfl ?_
    refine a_gV rfl lX12_213 mo_X12_readAllOf (h_readAllOf_6 hw hbt (Cf.tt C2 hT) (Cf.d C2 hd) (Cf.rf C2) (by omega)) rfl rfl rfl ⟨12, _, rfl, rfl, rfl⟩ rfl (fun v' h' hv => ?_)
    obtain ⟨rfl, J3, p3, rfl, hz3, hf3⟩ := hv
    have el := fun g => loopP_t (op := 2005) (o := o') (item := seqP T e (atomR T e 0) 20 2004) cw g
    have en' := loopP_n (op := 2005) (o := o') (item := seqP T e (atomR T e 0) 20 2004) cw
    rcases hr2 : (seqP T e (atomR T e 0) 20 2004) (nx T e b') o' with ⟨z2, b2, o2⟩
    rw [hr2] at hz3 hf3 g4 el en'
    cases z2 with
    | false =>
      refine a_if_ne rfl (fun z => absurd rfl z) (fun _ => ?_)
      refine a_s rfl rfl ?_
      rw [← es, en' Bool.false_ne_true]
      exact a_zret rfl rfl rfl (Cf.no C2 (hf3 rfl).1 (hf3 rfl).2)
    | true =>
      refine a_if_ne rfl (fun _ => ?_) (fun z => absurd (show (1 : Int32) = 0 from z) (by decide))
      have C3 : Cf T e n0 b2 o2 I J3 p3 := Cf.cc C2 (hz3 rfl)
      have c3e := Cf.le C3
      obtain ⟨-, -, g5⟩ := g4
      have g5 : nx T e b' < b2 ∧ o2.length + nx T e b' ≤ o'.length + b2 := g5 rfl
      have es2 : loopP T e (seqP T e (atomR T e 0) 20 2004) 19 2005 b2 (2005 :: o2) = R := (el (by show b' < b2; omega) rfl).symm.trans es
      refine a_l0 rfl rfl rfl ?_
      refine a_s rfl rfl ?_
      refine a_s rfl rfl ?_
      refine a_eV0 rfl lX12_180 mo_X12_emits (r_X12_emits (Cf.st C3) (by omega)) rfl rfl rfl ⟨12, _, rfl, rfl, rfl⟩ rfl ?_
      refine a_goto rfl ?_
      exact ih (e - b2) _ _ (by omega) ⟨rfl, _, p3, b2, _, rfl, Cf.em (z := 2005) C3 (by decide) (by decide), by show o2.length + 1 < b2; omega, es2, rfl⟩
theorem h_readAtom_5 (hw : WdS S) (hbt : BtT T) (hT : I 426 = T) (hd : I 420 13 = nI 5) (h : Cf T e n0 b o I I p) (hB : o.length < b) : Sp S m_X12_readAtom 23 0 0 [.ref 420] (hp I L w1 w2 t) (QF T e n0 (atomR T e 1 b o) I L w1 w2 t) nX := by
  have he4 := Cf.e4 h
  have hbe := Cf.le h
  refine Sp_of ok_X12_readAtom rfl rfl ?_
  show AW S m_X12_readAtom 23 _ _ 0 0 0 [some (.ref 420), none] [] (hp I L w1 w2 t)
  refine a_l0 rfl rfl rfl ?_
  refine a_s rfl rfl ?_
  refine a_gV rfl lX12_187 mo_X12_sign (h_sign (b := b) (c := 40) (by rw [hT]; exact hbt) (by decide) (Cf.pp h) (by rw [hT]; exact Cf.nb h)) rfl rfl rfl ⟨12, _, rfl, rfl, rfl⟩ rfl (fun v' h' hv => ?_)
  obtain ⟨rfl, J1, rfl, h1⟩ := hv
  rw [hT] at h1 ⊢
  cases c40 : sg T e b (nI 40) with
  | true =>
    have c40 : sg T e b 40 = true := c40
    refine a_if_eq rfl (fun z => absurd z (by decide)) (fun _ => ?_)
    rw [if_pos (show sg T e b (nI 40) = true from c40)] at h1
    have n1 := nx_lt (T := T) (sg_lt c40)
    have C1 : Cf T e n0 (nx T e b) o I J1 (en T e b) := Cf.rd h h1 rfl
    refine a_l0 rfl rfl rfl ?_
    refine a_geti rfl gfX12_194_12 rfl ?_
    refine a_top (y := nI 5) (Cf.d C1 hd) ?_
    refine a_s rfl rfl ?_
    refine a_ic_ne rfl (fun _ => ?_) (fun c => absurd c (by decide))
    refine a_l0 rfl rfl rfl ?_
    refine a_s rfl rfl ?_
    refine a_geti rfl gfX12_194_12 rfl ?_
    refine a_top (y := nI 5) (Cf.d C1 hd) ?_
    refine a_s rfl rfl ?_
    refine a_s rfl rfl ?_
    refine a_top (y := nI 6) (rfl) ?_
    refine a_puti rfl pfX12_194_12 rfl ?_
    refine a_l0 rfl rfl rfl ?_
    have g4 := cndP_gd (T := T) (fun b o h => atomR_gd (T := T) 0 b o h) (o := o) (Cf.le C1)
    refine a_gV rfl lX12_197 mo_X12_readCond (h_readCond_6 hw hbt ((up2_row (by decide)).trans (Cf.tt C1 hT)) up2_at (Cf.up13 C1) (by omega)) rfl rfl rfl ⟨12, _, rfl, rfl, rfl⟩ rfl (fun v' h' hv => ?_)
    obtain ⟨rfl, J9, p9, rfl, hz9, hf9⟩ := hv
    rw [show seqP T e (seqP T e (atomR T e 0) 20 2004) 19 2005 = cndP T e (atomR T e 0) from rfl] at hz9 hf9 ⊢
    rcases hr9 : cndP T e (atomR T e 0) (nx T e b) o with ⟨z9, b9, o9⟩
    rw [hr9] at hz9 hf9 g4
    rw [atomR_p c40 hr9]
    cases z9 with
    | false =>
      refine a_if_ne rfl (fun z => absurd rfl z) (fun _ => ?_)
      refine a_s rfl rfl ?_
      rw [if_neg (by decide)]
      exact a_zret rfl rfl rfl (QF.no (Fm.tr C1.1 (Fm.tr (Fm.up Fm.rf rfl) (hf9 rfl).1)) (hf9 rfl).2)
    | true =>
      refine a_if_ne rfl (fun _ => ?_) (fun z => absurd (show (1 : Int32) = 0 from z) (by decide))
      rw [if_pos rfl]
      have D9 : Cf T e n0 b9 o9 (up2 J1 420 13 (nI 6)) J9 p9 := hz9 rfl
      refine a_l0 rfl rfl rfl ?_
      refine a_s rfl rfl ?_
      refine a_geti rfl gfX12_194_12 rfl ?_
      refine a_top (y := nI 6) (D9.2.1.trans up2_at) ?_
      refine a_s rfl rfl ?_
      refine a_s rfl rfl ?_
      refine a_top (y := nI 5) (rfl) ?_
      refine a_puti rfl pfX12_194_12 rfl ?_
      have C9 := Cf.deep C1 hd D9
      have eT9 := Cf.tt C9 hT
      refine a_l0 rfl rfl rfl ?_
      refine a_s rfl rfl ?_
      refine a_gV rfl lX12_187 mo_X12_sign (h_sign (b := b9) (c := 41) (by rw [eT9]; exact hbt) (by decide) (Cf.pp C9) (by rw [eT9]; exact Cf.nb C9)) rfl rfl rfl ⟨12, _, rfl, rfl, rfl⟩ rfl (fun v' h' hv => ?_)
      obtain ⟨rfl, J3, rfl, h3⟩ := hv
      rw [eT9] at h3 ⊢
      cases c41 : sg T e b9 (nI 41) with
      | false =>
        have c41 : sg T e b9 41 = false := c41
        rw [if_neg (by rw [show sg T e b9 (nI 41) = false from c41]; decide)] at h3
        rw [if_neg (by rw [c41]; decide)]
        exact a_zret rfl rfl rfl (QF.no (Fm.tr C9.1 (Fm.mo (Rd.fm h3) sR_sY)) (Rd.be h3))
      | true =>
        have c41 : sg T e b9 41 = true := c41
        rw [if_pos (show sg T e b9 (nI 41) = true from c41)] at h3
        rw [if_pos c41]
        exact a_zret rfl rfl rfl (QF.yes (Cf.rd C9 h3 rfl))
  | false =>
  have c40 : sg T e b 40 = false := c40
  refine a_if_eq rfl (fun _ => ?_) (fun z => absurd rfl z)
  rw [if_neg (by rw [show sg T e b (nI 40) = false from c40]; decide)] at h1
  have C0 : Cf T e n0 b o I J1 b := Cf.rd h h1 (Cf.sk h)
  have eT0 := Cf.tt C0 hT
  refine a_l0 rfl rfl rfl ?_
  refine a_ldcs (q := 130 + 21) rfl (hw.ld (i := 21) (by decide)) ?_
  refine a_gV rfl lX12_128 mo_X12_passes (h_passes (b := b) (k := 21) hw (by decide) (Cf.pp C0) (by rw [eT0]; exact Cf.nb C0)) rfl rfl rfl ⟨12, _, rfl, rfl, rfl⟩ rfl (fun v' h' hv => ?_)
  obtain ⟨rfl, J2, rfl, h2⟩ := hv
  rw [eT0] at h2 ⊢
  cases c21 : isWd T e b 21 with
  | true =>
    refine a_if_eq rfl (fun z => absurd z (by decide)) (fun _ => ?_)
    rw [if_pos c21] at h2
    have n1 := nx_lt (T := T) (isWd_lt c21)
    have C2 : Cf T e n0 (nx T e b) o I J2 (en T e b) := Cf.rd C0 h2 rfl
    refine a_l0 rfl rfl rfl ?_
    refine a_geti rfl gfX12_194_12 rfl ?_
    refine a_top (y := nI 5) (Cf.d C2 hd) ?_
    refine a_s rfl rfl ?_
    refine a_ic_ne rfl (fun _ => ?_) (fun c => absurd c (by decide))
    refine a_l0 rfl rfl rfl ?_
    refine a_s rfl rfl ?_
    refine a_geti rfl gfX12_194_12 rfl ?_
    refine a_top (y := nI 5) (Cf.d C2 hd) ?_
    refine a_s rfl rfl ?_
    refine a_s rfl rfl ?_
    refine a_top (y := nI 6) (rfl) ?_
    refine a_puti rfl pfX12_194_12 rfl ?_
    refine a_l0 rfl rfl rfl ?_
    have g4 := atomR_gdo (T := T) (D := 0) (o := o) (Cf.le C2)
    refine a_gV rfl lX12_202 mo_X12_readAtom (h_readAtom_6 hw hbt ((up2_row (by decide)).trans (Cf.tt C2 hT)) up2_at (Cf.up13 C2) (by omega)) rfl rfl rfl ⟨12, _, rfl, rfl, rfl⟩ rfl (fun v' h' hv => ?_)
    obtain ⟨rfl, J9, p9, rfl, hz9, hf9⟩ := hv
    rcases hr9 : atomR T e 0 (nx T e b) o with ⟨z9, b9, o9⟩
    rw [hr9] at hz9 hf9 g4
    rw [atomR_n c40 c21 hr9]
    cases z9 with
    | false =>
      refine a_if_ne rfl (fun z => absurd rfl z) (fun _ => ?_)
      refine a_s rfl rfl ?_
      rw [if_neg (by decide)]
      exact a_zret rfl rfl rfl (QF.no (Fm.tr C2.1 (Fm.tr (Fm.up Fm.rf rfl) (hf9 rfl).1)) (hf9 rfl).2)
    | true =>
      refine a_if_ne rfl (fun _ => ?_) (fun z => absurd (show (1 : Int32) = 0 from z) (by decide))
      rw [if_pos rfl]
      have D9 : Cf T e n0 b9 o9 (up2 J2 420 13 (nI 6)) J9 p9 := hz9 rfl
      obtain ⟨-, -, g5⟩ := g4
      have g5 : nx T e b < b9 ∧ o9.length + nx T e b ≤ o.length + b9 := g5 rfl
      have c9e := Cf.le D9
      refine a_l0 rfl rfl rfl ?_
      refine a_s rfl rfl ?_
      refine a_geti rfl gfX12_194_12 rfl ?_
      refine a_top (y := nI 6) (D9.2.1.trans up2_at) ?_
      refine a_s rfl rfl ?_
      refine a_s rfl rfl ?_
      refine a_top (y := nI 5) (rfl) ?_
      refine a_puti rfl pfX12_194_12 rfl ?_
      have C9 := Cf.deep C2 hd D9
      refine a_l0 rfl rfl rfl ?_
      refine a_s rfl rfl ?_
      refine a_s rfl rfl ?_
      refine a_eV0 rfl lX12_180 mo_X12_emits (r_X12_emits (Cf.st C9) (by omega)) rfl rfl rfl ⟨12, _, rfl, rfl, rfl⟩ rfl ?_
      refine a_s rfl rfl ?_
      exact a_zret rfl rfl rfl (QF.yes (Cf.em (z := 2003) C9 (by decide) (by decide)))
  | false =>
  refine a_if_eq rfl (fun _ => ?_) (fun z => absurd rfl z)
  rw [if_neg (by rw [c21]; decide)] at h2
  have C2 : Cf T e n0 b o I J2 b := Cf.rd C0 h2 (Cf.sk C0)
  rw [atomR_b c40 c21]
  refine a_l0 rfl rfl rfl ?_
  refine a_gV rfl lX12_205 mo_X12_readTag (h_readTag hw (Cf.tt C2 hT) (Cf.rf C2) hB) rfl rfl rfl ⟨12, _, rfl, rfl, rfl⟩ rfl (fun v' h' hv => ?_)
  obtain ⟨z3, x3, J3, p3, rfl, rfl, ht3, hf3⟩ := hv
  cases z3 with
  | true =>
    refine a_if_eq rfl (fun z => absurd z (by decide)) (fun _ => ?_)
    refine a_s rfl rfl ?_
    obtain ⟨hx, D3⟩ := ht3 rfl
    rcases hx with ⟨c22, rfl⟩ | ⟨c22, c23, rfl⟩
    · rw [show baseP T e b o = (true, nx T e b, 1007 :: o) from if_pos c22]
      exact a_zret rfl rfl rfl (QF.yes (Cf.cc C2 D3))
    · rw [show baseP T e b o = (true, nx T e b, 1008 :: o) from (if_neg (by rw [c22]; decide)).trans (if_pos c23)]
      exact a_zret rfl rfl rfl (QF.yes (Cf.cc C2 D3))
  | false =>
  refine a_if_eq rfl (fun _ => ?_) (fun z => absurd rfl z)
  obtain ⟨⟨c22, c23⟩, D3⟩ := hf3 rfl
  have C3 := Cf.cc C2 D3
  have g4 := sumP_gd (T := T) (o := o) hbe
  refine a_l0 rfl rfl rfl ?_
  refine a_gV rfl lX12_208 mo_X12_readSum (h_readSum hw hbt (Cf.tt C3 hT) (Cf.rf C3) hB) rfl rfl rfl ⟨12, _, rfl, rfl, rfl⟩ rfl (fun v' h' hv => ?_)
  obtain ⟨rfl, J4, p4, rfl, hz4, hf4⟩ := hv
  rcases hr4 : sumP T e b o with ⟨z4, b4, o4⟩
  rw [baseP_s c22 c23 hr4]
  rw [hr4] at hz4 hf4 g4
  cases z4 with
  | false =>
    refine a_if_ne rfl (fun z => absurd rfl z) (fun _ => ?_)
    refine a_s rfl rfl ?_
    rw [if_neg (by decide)]
    exact a_zret rfl rfl rfl (Cf.no C3 (hf4 rfl).1 (hf4 rfl).2)
  | true =>
  refine a_if_ne rfl (fun _ => ?_) (fun z => absurd (show (1 : Int32) = 0 from z) (by decide))
  rw [if_pos rfl]
  have C4 : Cf T e n0 b4 o4 I J4 p4 := Cf.cc C3 (hz4 rfl)
  obtain ⟨-, -, g4⟩ := g4
  have g4 : b < b4 ∧ o4.length + b ≤ o.length + b4 := g4 rfl
  have key : ∀ {z5 : Bool} {x : Int32} {p' : Nat} {J : Nat → Nat → Int32}, b4 < nx T e b4 → x = (if z5 = true then 2001 else 2002) → Cf T e n0 (nx T e b4) o4 I J p' → AW S m_X12_readAtom 23 (QF T e n0 (cmpP T e x (nx T e b4) o4) I L w1 w2 t) nX 0 0 152 [some (.ref 420), some (.int (bI z5))] [] (hp J L w1 w2 t) := by
    intro z5 x p' J n4 hx C
    have g6 := sumP_gd (T := T) (o := o4) (Cf.le C)
    refine a_l0 rfl rfl rfl ?_
    refine a_gV rfl lX12_208 mo_X12_readSum (h_readSum hw hbt (Cf.tt C hT) (Cf.rf C) (by omega)) rfl rfl rfl ⟨12, _, rfl, rfl, rfl⟩ rfl (fun v' h' hv => ?_)
    obtain ⟨rfl, J6, p6, rfl, hz6, hf6⟩ := hv
    rcases hr6 : sumP T e (nx T e b4) o4 with ⟨z6, b6, o6⟩
    rw [hr6] at hz6 hf6 g6
    cases z6 with
    | false =>
      refine a_if_ne rfl (fun z => absurd rfl z) (fun _ => ?_)
      refine a_s rfl rfl ?_
      rw [cmpP_f hr6]
      exact a_zret rfl rfl rfl (Cf.no C (hf6 rfl).1 (hf6 rfl).2)
    | true =>
      refine a_if_ne rfl (fun _ => ?_) (fun z => absurd (show (1 : Int32) = 0 from z) (by decide))
      rw [cmpP_t hr6]
      have C6 : Cf T e n0 b6 o6 I J6 p6 := Cf.cc C (hz6 rfl)
      have c6e := Cf.le C6
      obtain ⟨-, -, g6⟩ := g6
      have g6 : nx T e b4 < b6 ∧ o6.length + nx T e b4 ≤ o4.length + b6 := g6 rfl
      refine a_l0 rfl rfl rfl ?_
      refine a_l1 rfl rfl rfl ?_
      cases z5 with
      | false =>
        rw [if_neg (by decide)] at hx
        subst hx
        refine a_if_eq rfl (fun _ => ?_) (fun c => absurd rfl c)
        refine a_s rfl rfl ?_
        refine a_s rfl rfl ?_
        refine a_eV0 rfl lX12_180 mo_X12_emits (r_X12_emits (Cf.st C6) (by omega)) rfl rfl rfl ⟨12, _, rfl, rfl, rfl⟩ rfl ?_
        refine a_s rfl rfl ?_
        exact a_zret rfl rfl rfl (QF.yes (Cf.em (z := 2002) C6 (by decide) (by decide)))
      | true =>
        rw [if_pos rfl] at hx
        subst hx
        refine a_if_eq rfl (fun c => absurd c (by decide)) (fun _ => ?_)
        refine a_s rfl rfl ?_
        refine a_goto rfl ?_
        refine a_s rfl rfl ?_
        refine a_eV0 rfl lX12_180 mo_X12_emits (r_X12_emits (Cf.st C6) (by omega)) rfl rfl rfl ⟨12, _, rfl, rfl, rfl⟩ rfl ?_
        refine a_s rfl rfl ?_
        exact a_zret rfl rfl rfl (QF.yes (Cf.em (z := 2001) C6 (by decide) (by decide)))
  have eT4 := Cf.tt C4 hT
  refine a_l0 rfl rfl rfl ?_
  refine a_s rfl rfl ?_
  refine a_gV rfl lX12_187 mo_X12_sign (h_sign (b := b4) (c := 60) (by rw [eT4]; exact hbt) (by decide) (Cf.pp C4) (by rw [eT4]; exact Cf.nb C4)) rfl rfl rfl ⟨12, _, rfl, rfl, rfl⟩ rfl (fun v' h' hv => ?_)
  obtain ⟨rfl, J5, rfl, h5⟩ := hv
  rw [eT4] at h5 ⊢
  refine a_s1 rfl rfl rfl rfl rfl rfl ?_
  refine a_l1 rfl rfl rfl ?_
  cases c60 : sg T e b4 (nI 60) with
  | true =>
    have c60 : sg T e b4 60 = true := c60
    refine a_if_ne rfl (fun _ => ?_) (fun z => absurd (show (1 : Int32) = 0 from z) (by decide))
    rw [if_pos (show sg T e b4 (nI 60) = true from c60)] at h5
    rw [if_pos c60]
    exact key (z5 := true) (nx_lt (sg_lt c60)) rfl (Cf.rd C4 h5 rfl)
  | false =>
  have c60 : sg T e b4 60 = false := c60
  refine a_if_ne rfl (fun z => absurd rfl z) (fun _ => ?_)
  rw [if_neg (by rw [show sg T e b4 (nI 60) = false from c60]; decide)] at h5
  rw [if_neg (by rw [c60]; decide)]
  have C5 : Cf T e n0 b4 o4 I J5 b4 := Cf.rd C4 h5 (Cf.sk C4)
  have eT5 := Cf.tt C5 hT
  refine a_l0 rfl rfl rfl ?_
  refine a_s rfl rfl ?_
  refine a_gV rfl lX12_187 mo_X12_sign (h_sign (b := b4) (c := 62) (by rw [eT5]; exact hbt) (by decide) (Cf.pp C5) (by rw [eT5]; exact Cf.nb C5)) rfl rfl rfl ⟨12, _, rfl, rfl, rfl⟩ rfl (fun v' h' hv => ?_)
  obtain ⟨rfl, J7, rfl, h7⟩ := hv
  rw [eT5] at h7 ⊢
  cases c62 : sg T e b4 (nI 62) with
  | false =>
    have c62 : sg T e b4 62 = false := c62
    refine a_if_eq rfl (fun _ => ?_) (fun z => absurd rfl z)
    rw [if_neg (by rw [show sg T e b4 (nI 62) = false from c62]; decide)] at h7
    rw [if_neg (by rw [c62]; decide)]
    refine a_s rfl rfl ?_
    exact a_zret rfl rfl rfl (QF.no (Fm.tr C5.1 (Fm.mo (Rd.fm h7) sR_sY)) (Rd.be h7))
  | true =>
    have c62 : sg T e b4 62 = true := c62
    refine a_if_eq rfl (fun z => absurd z (by decide)) (fun _ => ?_)
    rw [if_pos (show sg T e b4 (nI 62) = true from c62)] at h7
    rw [if_pos c62]
    exact key (z5 := false) (nx_lt (sg_lt c62)) rfl (Cf.rd C5 h7 rfl)
theorem h_readAllOf_5 (hw : WdS S) (hbt : BtT T) (hT : I 426 = T) (hd : I 420 13 = nI 5) (h : Cf T e n0 b o I I p) (hB : o.length < b) : Sp S m_X12_readAllOf 24 0 0 [.ref 420] (hp I L w1 w2 t) (QF T e n0 (seqP T e (atomR T e 1) 20 2004 b o) I L w1 w2 t) nX := by
  have he4 := Cf.e4 h
  have g0 := atomR_gdo (T := T) (D := 1) (o := o) (Cf.le h)
  refine Sp_of ok_X12_readAllOf rfl rfl ?_
  show AW S m_X12_readAllOf 24 _ _ 0 0 0 [some (.ref 420)] [] (hp I L w1 w2 t)
  refine a_l0 rfl rfl rfl ?_
  refine a_gV rfl lX12_202 mo_X12_readAtom (h_readAtom_5 hw hbt hT hd h hB) rfl rfl rfl ⟨12, _, rfl, rfl, rfl⟩ rfl (fun v' h' hv => ?_)
  obtain ⟨rfl, J1, p1, rfl, hz1, hf1⟩ := hv
  rcases hr : (atomR T e 1) b o with ⟨z, b1, o1⟩
  rw [seqP_of hr]
  rw [hr] at hz1 hf1 g0
  cases z with
  | false =>
    refine a_if_ne rfl (fun z => absurd rfl z) (fun _ => ?_)
    refine a_s rfl rfl ?_
    rw [if_neg (by decide)]
    exact a_zret rfl rfl rfl (QF.no (hf1 rfl).1 (hf1 rfl).2)
  | true =>
  refine a_if_ne rfl (fun _ => ?_) (fun z => absurd (show (1 : Int32) = 0 from z) (by decide))
  rw [if_pos rfl]
  obtain ⟨-, -, g3⟩ := g0
  have g3 : b < b1 ∧ o1.length + b ≤ o.length + b1 := g3 rfl
  generalize hR : loopP T e (atomR T e 1) 20 2004 b1 o1 = R
  refine a_inv (n := e - b1) (fun m ls h => ls = [some (.ref 420)] ∧ ∃ J p' b' o', h = hp J L w1 w2 t ∧ Cf T e n0 b' o' I J p' ∧ o'.length < b' ∧ loopP T e (atomR T e 1) 20 2004 b' o' = R ∧ m = e - b') ⟨rfl, J1, p1, _, _, rfl, hz1 rfl, by show o1.length < b1; omega, hR, rfl⟩ ?_
  rintro m _ _ ⟨rfl, J, p', b', o', rfl, C, hB', es, hm⟩ ih
  have eT := Cf.tt C hT
  refine a_l0 rfl rfl rfl ?_
  refine a_ldcs (q := 130 + 20) rfl (hw.ld (i := 20) (by decide)) ?_
  refine a_gV rfl lX12_128 mo_X12_passes (h_passes (b := b') (k := 20) hw (by decide) (Cf.pp C) (by rw [eT]; exact Cf.nb C)) rfl rfl rfl ⟨12, _, rfl, rfl, rfl⟩ rfl (fun v' h' hv => ?_)
  obtain ⟨rfl, J2, rfl, h2⟩ := hv
  rw [eT] at h2 ⊢
  cases cw : isWd T e b' 20 with
  | false =>
    refine a_if_eq rfl (fun _ => ?_) (fun z => absurd rfl z)
    rw [if_neg (by rw [cw]; decide)] at h2
    refine a_s rfl rfl ?_
    rw [← es, loopP_f cw]
    exact a_zret rfl rfl rfl (QF.yes (Cf.rd C h2 (Cf.sk C)))
  | true =>
    refine a_if_eq rfl (fun z => absurd z (by decide)) (fun _ => ?_)
    rw [if_pos cw] at h2
    have n2 := nx_lt (T := T) (isWd_lt cw)
    have C2 : Cf T e n0 (nx T e b') o' I J2 (en T e b') := Cf.rd C h2 rfl
    have n2e := Cf.le C2
    have g4 := atomR_gdo (T := T) (D := 1) (o := o') n2e
    refine a_l0 rfl rfl rfl ?_
    refine a_gV rfl lX12_202 mo_X12_readAtom (h_readAtom_5 hw hbt (Cf.tt C2 hT) (Cf.d C2 hd) (Cf.rf C2) (by omega)) rfl rfl rfl ⟨12, _, rfl, rfl, rfl⟩ rfl (fun v' h' hv => ?_)
    obtain ⟨rfl, J3, p3, rfl, hz3, hf3⟩ := hv
    have el := fun g => loopP_t (op := 2004) (o := o') (item := atomR T e 1) cw g
    have en' := loopP_n (op := 2004) (o := o') (item := atomR T e 1) cw
    rcases hr2 : (atomR T e 1) (nx T e b') o' with ⟨z2, b2, o2⟩
    rw [hr2] at hz3 hf3 g4 el en'
    cases z2 with
    | false =>
      refine a_if_ne rfl (fun z => absurd rfl z) (fun _ => ?_)
      refine a_s rfl rfl ?_
      rw [← es, en' Bool.false_ne_true]
      exact a_zret rfl rfl rfl (Cf.no C2 (hf3 rfl).1 (hf3 rfl).2)
    | true =>
      refine a_if_ne rfl (fun _ => ?_) (fun z => absurd (show (1 : Int32) = 0 from z) (by decide))
      have C3 : Cf T e n0 b2 o2 I J3 p3 := Cf.cc C2 (hz3 rfl)
      have c3e := Cf.le C3
      obtain ⟨-, -, g5⟩ := g4
      have g5 : nx T e b' < b2 ∧ o2.length + nx T e b' ≤ o'.length + b2 := g5 rfl
      have es2 : loopP T e (atomR T e 1) 20 2004 b2 (2004 :: o2) = R := (el (by show b' < b2; omega) rfl).symm.trans es
      refine a_l0 rfl rfl rfl ?_
      refine a_s rfl rfl ?_
      refine a_s rfl rfl ?_
      refine a_eV0 rfl lX12_180 mo_X12_emits (r_X12_emits (Cf.st C3) (by omega)) rfl rfl rfl ⟨12, _, rfl, rfl, rfl⟩ rfl ?_
      refine a_goto rfl ?_
      exact ih (e - b2) _ _ (by omega) ⟨rfl, _, p3, b2, _, rfl, Cf.em (z := 2004) C3 (by decide) (by decide), by show o2.length + 1 < b2; omega, es2, rfl⟩
theorem h_readCond_5 (hw : WdS S) (hbt : BtT T) (hT : I 426 = T) (hd : I 420 13 = nI 5) (h : Cf T e n0 b o I I p) (hB : o.length < b) : Sp S m_X12_readCond 25 0 0 [.ref 420] (hp I L w1 w2 t) (QF T e n0 (seqP T e (seqP T e (atomR T e 1) 20 2004) 19 2005 b o) I L w1 w2 t) nX := by
  have he4 := Cf.e4 h
  have g0 := seqA_gd (T := T) (D := 1) (o := o) (Cf.le h)
  refine Sp_of ok_X12_readCond rfl rfl ?_
  show AW S m_X12_readCond 25 _ _ 0 0 0 [some (.ref 420)] [] (hp I L w1 w2 t)
  refine a_l0 rfl rfl rfl ?_
  refine a_gV rfl lX12_213 mo_X12_readAllOf (h_readAllOf_5 hw hbt hT hd h hB) rfl rfl rfl ⟨12, _, rfl, rfl, rfl⟩ rfl (fun v' h' hv => ?_)
  obtain ⟨rfl, J1, p1, rfl, hz1, hf1⟩ := hv
  rcases hr : (seqP T e (atomR T e 1) 20 2004) b o with ⟨z, b1, o1⟩
  rw [seqP_of hr]
  rw [hr] at hz1 hf1 g0
  cases z with
  | false =>
    refine a_if_ne rfl (fun z => absurd rfl z) (fun _ => ?_)
    refine a_s rfl rfl ?_
    rw [if_neg (by decide)]
    exact a_zret rfl rfl rfl (QF.no (hf1 rfl).1 (hf1 rfl).2)
  | true =>
  refine a_if_ne rfl (fun _ => ?_) (fun z => absurd (show (1 : Int32) = 0 from z) (by decide))
  rw [if_pos rfl]
  obtain ⟨-, -, g3⟩ := g0
  have g3 : b < b1 ∧ o1.length + b ≤ o.length + b1 := g3 rfl
  generalize hR : loopP T e (seqP T e (atomR T e 1) 20 2004) 19 2005 b1 o1 = R
  refine a_inv (n := e - b1) (fun m ls h => ls = [some (.ref 420)] ∧ ∃ J p' b' o', h = hp J L w1 w2 t ∧ Cf T e n0 b' o' I J p' ∧ o'.length < b' ∧ loopP T e (seqP T e (atomR T e 1) 20 2004) 19 2005 b' o' = R ∧ m = e - b') ⟨rfl, J1, p1, _, _, rfl, hz1 rfl, by show o1.length < b1; omega, hR, rfl⟩ ?_
  rintro m _ _ ⟨rfl, J, p', b', o', rfl, C, hB', es, hm⟩ ih
  have eT := Cf.tt C hT
  refine a_l0 rfl rfl rfl ?_
  refine a_ldcs (q := 130 + 19) rfl (hw.ld (i := 19) (by decide)) ?_
  refine a_gV rfl lX12_128 mo_X12_passes (h_passes (b := b') (k := 19) hw (by decide) (Cf.pp C) (by rw [eT]; exact Cf.nb C)) rfl rfl rfl ⟨12, _, rfl, rfl, rfl⟩ rfl (fun v' h' hv => ?_)
  obtain ⟨rfl, J2, rfl, h2⟩ := hv
  rw [eT] at h2 ⊢
  cases cw : isWd T e b' 19 with
  | false =>
    refine a_if_eq rfl (fun _ => ?_) (fun z => absurd rfl z)
    rw [if_neg (by rw [cw]; decide)] at h2
    refine a_s rfl rfl ?_
    rw [← es, loopP_f cw]
    exact a_zret rfl rfl rfl (QF.yes (Cf.rd C h2 (Cf.sk C)))
  | true =>
    refine a_if_eq rfl (fun z => absurd z (by decide)) (fun _ => ?_)
    rw [if_pos cw] at h2
    have n2 := nx_lt (T := T) (isWd_lt cw)
    have C2 : Cf T e n0 (nx T e b') o' I J2 (en T e b') := Cf.rd C h2 rfl
    have n2e := Cf.le C2
    have g4 := seqA_gd (T := T) (D := 1) (o := o') n2e
    refine a_l0 rfl rfl rfl ?_
    refine a_gV rfl lX12_213 mo_X12_readAllOf (h_readAllOf_5 hw hbt (Cf.tt C2 hT) (Cf.d C2 hd) (Cf.rf C2) (by omega)) rfl rfl rfl ⟨12, _, rfl, rfl, rfl⟩ rfl (fun v' h' hv => ?_)
    obtain ⟨rfl, J3, p3, rfl, hz3, hf3⟩ := hv
    have el := fun g => loopP_t (op := 2005) (o := o') (item := seqP T e (atomR T e 1) 20 2004) cw g
    have en' := loopP_n (op := 2005) (o := o') (item := seqP T e (atomR T e 1) 20 2004) cw
    rcases hr2 : (seqP T e (atomR T e 1) 20 2004) (nx T e b') o' with ⟨z2, b2, o2⟩
    rw [hr2] at hz3 hf3 g4 el en'
    cases z2 with
    | false =>
      refine a_if_ne rfl (fun z => absurd rfl z) (fun _ => ?_)
      refine a_s rfl rfl ?_
      rw [← es, en' Bool.false_ne_true]
      exact a_zret rfl rfl rfl (Cf.no C2 (hf3 rfl).1 (hf3 rfl).2)
    | true =>
      refine a_if_ne rfl (fun _ => ?_) (fun z => absurd (show (1 : Int32) = 0 from z) (by decide))
      have C3 : Cf T e n0 b2 o2 I J3 p3 := Cf.cc C2 (hz3 rfl)
      have c3e := Cf.le C3
      obtain ⟨-, -, g5⟩ := g4
      have g5 : nx T e b' < b2 ∧ o2.length + nx T e b' ≤ o'.length + b2 := g5 rfl
      have es2 : loopP T e (seqP T e (atomR T e 1) 20 2004) 19 2005 b2 (2005 :: o2) = R := (el (by show b' < b2; omega) rfl).symm.trans es
      refine a_l0 rfl rfl rfl ?_
      refine a_s rfl rfl ?_
      refine a_s rfl rfl ?_
      refine a_eV0 rfl lX12_180 mo_X12_emits (r_X12_emits (Cf.st C3) (by omega)) rfl rfl rfl ⟨12, _, rfl, rfl, rfl⟩ rfl ?_
      refine a_goto rfl ?_
      exact ih (e - b2) _ _ (by omega) ⟨rfl, _, p3, b2, _, rfl, Cf.em (z := 2005) C3 (by decide) (by decide), by show o2.length + 1 < b2; omega, es2, rfl⟩
theorem h_readAtom_4 (hw : WdS S) (hbt : BtT T) (hT : I 426 = T) (hd : I 420 13 = nI 4) (h : Cf T e n0 b o I I p) (hB : o.length < b) : Sp S m_X12_readAtom 26 0 0 [.ref 420] (hp I L w1 w2 t) (QF T e n0 (atomR T e 2 b o) I L w1 w2 t) nX := by
  have he4 := Cf.e4 h
  have hbe := Cf.le h
  refine Sp_of ok_X12_readAtom rfl rfl ?_
  show AW S m_X12_readAtom 26 _ _ 0 0 0 [some (.ref 420), none] [] (hp I L w1 w2 t)
  refine a_l0 rfl rfl rfl ?_
  refine a_s rfl rfl ?_
  refine a_gV rfl lX12_187 mo_X12_sign (h_sign (b := b) (c := 40) (by rw [hT]; exact hbt) (by decide) (Cf.pp h) (by rw [hT]; exact Cf.nb h)) rfl rfl rfl ⟨12, _, rfl, rfl, rfl⟩ rfl (fun v' h' hv => ?_)
  obtain ⟨rfl, J1, rfl, h1⟩ := hv
  rw [hT] at h1 ⊢
  cases c40 : sg T e b (nI 40) with
  | true =>
    have c40 : sg T e b 40 = true := c40
    refine a_if_eq rfl (fun z => absurd z (by decide)) (fun _ => ?_)
    rw [if_pos (show sg T e b (nI 40) = true from c40)] at h1
    have n1 := nx_lt (T := T) (sg_lt c40)
    have C1 : Cf T e n0 (nx T e b) o I J1 (en T e b) := Cf.rd h h1 rfl
    refine a_l0 rfl rfl rfl ?_
    refine a_geti rfl gfX12_194_12 rfl ?_
    refine a_top (y := nI 4) (Cf.d C1 hd) ?_
    refine a_s rfl rfl ?_
    refine a_ic_ne rfl (fun _ => ?_) (fun c => absurd c (by decide))
    refine a_l0 rfl rfl rfl ?_
    refine a_s rfl rfl ?_
    refine a_geti rfl gfX12_194_12 rfl ?_
    refine a_top (y := nI 4) (Cf.d C1 hd) ?_
    refine a_s rfl rfl ?_
    refine a_s rfl rfl ?_
    refine a_top (y := nI 5) (rfl) ?_
    refine a_puti rfl pfX12_194_12 rfl ?_
    refine a_l0 rfl rfl rfl ?_
    have g4 := cndP_gd (T := T) (fun b o h => atomR_gd (T := T) 1 b o h) (o := o) (Cf.le C1)
    refine a_gV rfl lX12_197 mo_X12_readCond (h_readCond_5 hw hbt ((up2_row (by decide)).trans (Cf.tt C1 hT)) up2_at (Cf.up13 C1) (by omega)) rfl rfl rfl ⟨12, _, rfl, rfl, rfl⟩ rfl (fun v' h' hv => ?_)
    obtain ⟨rfl, J9, p9, rfl, hz9, hf9⟩ := hv
    rw [show seqP T e (seqP T e (atomR T e 1) 20 2004) 19 2005 = cndP T e (atomR T e 1) from rfl] at hz9 hf9 ⊢
    rcases hr9 : cndP T e (atomR T e 1) (nx T e b) o with ⟨z9, b9, o9⟩
    rw [hr9] at hz9 hf9 g4
    rw [atomR_p c40 hr9]
    cases z9 with
    | false =>
      refine a_if_ne rfl (fun z => absurd rfl z) (fun _ => ?_)
      refine a_s rfl rfl ?_
      rw [if_neg (by decide)]
      exact a_zret rfl rfl rfl (QF.no (Fm.tr C1.1 (Fm.tr (Fm.up Fm.rf rfl) (hf9 rfl).1)) (hf9 rfl).2)
    | true =>
      refine a_if_ne rfl (fun _ => ?_) (fun z => absurd (show (1 : Int32) = 0 from z) (by decide))
      rw [if_pos rfl]
      have D9 : Cf T e n0 b9 o9 (up2 J1 420 13 (nI 5)) J9 p9 := hz9 rfl
      refine a_l0 rfl rfl rfl ?_
      refine a_s rfl rfl ?_
      refine a_geti rfl gfX12_194_12 rfl ?_
      refine a_top (y := nI 5) (D9.2.1.trans up2_at) ?_
      refine a_s rfl rfl ?_
      refine a_s rfl rfl ?_
      refine a_top (y := nI 4) (rfl) ?_
      refine a_puti rfl pfX12_194_12 rfl ?_
      have C9 := Cf.deep C1 hd D9
      have eT9 := Cf.tt C9 hT
      refine a_l0 rfl rfl rfl ?_
      refine a_s rfl rfl ?_
      refine a_gV rfl lX12_187 mo_X12_sign (h_sign (b := b9) (c := 41) (by rw [eT9]; exact hbt) (by decide) (Cf.pp C9) (by rw [eT9]; exact Cf.nb C9)) rfl rfl rfl ⟨12, _, rfl, rfl, rfl⟩ rfl (fun v' h' hv => ?_)
      obtain ⟨rfl, J3, rfl, h3⟩ := hv
      rw [eT9] at h3 ⊢
      cases c41 : sg T e b9 (nI 41) with
      | false =>
        have c41 : sg T e b9 41 = false := c41
        rw [if_neg (by rw [show sg T e b9 (nI 41) = false from c41]; decide)] at h3
        rw [if_neg (by rw [c41]; decide)]
        exact a_zret rfl rfl rfl (QF.no (Fm.tr C9.1 (Fm.mo (Rd.fm h3) sR_sY)) (Rd.be h3))
      | true =>
        have c41 : sg T e b9 41 = true := c41
        rw [if_pos (show sg T e b9 (nI 41) = true from c41)] at h3
        rw [if_pos c41]
        exact a_zret rfl rfl rfl (QF.yes (Cf.rd C9 h3 rfl))
  | false =>
  have c40 : sg T e b 40 = false := c40
  refine a_if_eq rfl (fun _ => ?_) (fun z => absurd rfl z)
  rw [if_neg (by rw [show sg T e b (nI 40) = false from c40]; decide)] at h1
  have C0 : Cf T e n0 b o I J1 b := Cf.rd h h1 (Cf.sk h)
  have eT0 := Cf.tt C0 hT
  refine a_l0 rfl rfl rfl ?_
  refine a_ldcs (q := 130 + 21) rfl (hw.ld (i := 21) (by decide)) ?_
  refine a_gV rfl lX12_128 mo_X12_passes (h_passes (b := b) (k := 21) hw (by decide) (Cf.pp C0) (by rw [eT0]; exact Cf.nb C0)) rfl rfl rfl ⟨12, _, rfl, rfl, rfl⟩ rfl (fun v' h' hv => ?_)
  obtain ⟨rfl, J2, rfl, h2⟩ := hv
  rw [eT0] at h2 ⊢
  cases c21 : isWd T e b 21 with
  | true =>
    refine a_if_eq rfl (fun z => absurd z (by decide)) (fun _ => ?_)
    rw [if_pos c21] at h2
    have n1 := nx_lt (T := T) (isWd_lt c21)
    have C2 : Cf T e n0 (nx T e b) o I J2 (en T e b) := Cf.rd C0 h2 rfl
    refine a_l0 rfl rfl rfl ?_
    refine a_geti rfl gfX12_194_12 rfl ?_
    refine a_top (y := nI 4) (Cf.d C2 hd) ?_
    refine a_s rfl rfl ?_
    refine a_ic_ne rfl (fun _ => ?_) (fun c => absurd c (by decide))
    refine a_l0 rfl rfl rfl ?_
    refine a_s rfl rfl ?_
    refine a_geti rfl gfX12_194_12 rfl ?_
    refine a_top (y := nI 4) (Cf.d C2 hd) ?_
    refine a_s rfl rfl ?_
    refine a_s rfl rfl ?_
    refine a_top (y := nI 5) (rfl) ?_
    refine a_puti rfl pfX12_194_12 rfl ?_
    refine a_l0 rfl rfl rfl ?_
    have g4 := atomR_gdo (T := T) (D := 1) (o := o) (Cf.le C2)
    refine a_gV rfl lX12_202 mo_X12_readAtom (h_readAtom_5 hw hbt ((up2_row (by decide)).trans (Cf.tt C2 hT)) up2_at (Cf.up13 C2) (by omega)) rfl rfl rfl ⟨12, _, rfl, rfl, rfl⟩ rfl (fun v' h' hv => ?_)
    obtain ⟨rfl, J9, p9, rfl, hz9, hf9⟩ := hv
    rcases hr9 : atomR T e 1 (nx T e b) o with ⟨z9, b9, o9⟩
    rw [hr9] at hz9 hf9 g4
    rw [atomR_n c40 c21 hr9]
    cases z9 with
    | false =>
      refine a_if_ne rfl (fun z => absurd rfl z) (fun _ => ?_)
      refine a_s rfl rfl ?_
      rw [if_neg (by decide)]
      exact a_zret rfl rfl rfl (QF.no (Fm.tr C2.1 (Fm.tr (Fm.up Fm.rf rfl) (hf9 rfl).1)) (hf9 rfl).2)
    | true =>
      refine a_if_ne rfl (fun _ => ?_) (fun z => absurd (show (1 : Int32) = 0 from z) (by decide))
      rw [if_pos rfl]
      have D9 : Cf T e n0 b9 o9 (up2 J2 420 13 (nI 5)) J9 p9 := hz9 rfl
      obtain ⟨-, -, g5⟩ := g4
      have g5 : nx T e b < b9 ∧ o9.length + nx T e b ≤ o.length + b9 := g5 rfl
      have c9e := Cf.le D9
      refine a_l0 rfl rfl rfl ?_
      refine a_s rfl rfl ?_
      refine a_geti rfl gfX12_194_12 rfl ?_
      refine a_top (y := nI 5) (D9.2.1.trans up2_at) ?_
      refine a_s rfl rfl ?_
      refine a_s rfl rfl ?_
      refine a_top (y := nI 4) (rfl) ?_
      refine a_puti rfl pfX12_194_12 rfl ?_
      have C9 := Cf.deep C2 hd D9
      refine a_l0 rfl rfl rfl ?_
      refine a_s rfl rfl ?_
      refine a_s rfl rfl ?_
      refine a_eV0 rfl lX12_180 mo_X12_emits (r_X12_emits (Cf.st C9) (by omega)) rfl rfl rfl ⟨12, _, rfl, rfl, rfl⟩ rfl ?_
      refine a_s rfl rfl ?_
      exact a_zret rfl rfl rfl (QF.yes (Cf.em (z := 2003) C9 (by decide) (by decide)))
  | false =>
  refine a_if_eq rfl (fun _ => ?_) (fun z => absurd rfl z)
  rw [if_neg (by rw [c21]; decide)] at h2
  have C2 : Cf T e n0 b o I J2 b := Cf.rd C0 h2 (Cf.sk C0)
  rw [atomR_b c40 c21]
  refine a_l0 rfl rfl rfl ?_
  refine a_gV rfl lX12_205 mo_X12_readTag (h_readTag hw (Cf.tt C2 hT) (Cf.rf C2) hB) rfl rfl rfl ⟨12, _, rfl, rfl, rfl⟩ rfl (fun v' h' hv => ?_)
  obtain ⟨z3, x3, J3, p3, rfl, rfl, ht3, hf3⟩ := hv
  cases z3 with
  | true =>
    refine a_if_eq rfl (fun z => absurd z (by decide)) (fun _ => ?_)
    refine a_s rfl rfl ?_
    obtain ⟨hx, D3⟩ := ht3 rfl
    rcases hx with ⟨c22, rfl⟩ | ⟨c22, c23, rfl⟩
    · rw [show baseP T e b o = (true, nx T e b, 1007 :: o) from if_pos c22]
      exact a_zret rfl rfl rfl (QF.yes (Cf.cc C2 D3))
    · rw [show baseP T e b o = (true, nx T e b, 1008 :: o) from (if_neg (by rw [c22]; decide)).trans (if_pos c23)]
      exact a_zret rfl rfl rfl (QF.yes (Cf.cc C2 D3))
  | false =>
  refine a_if_eq rfl (fun _ => ?_) (fun z => absurd rfl z)
  obtain ⟨⟨c22, c23⟩, D3⟩ := hf3 rfl
  have C3 := Cf.cc C2 D3
  have g4 := sumP_gd (T := T) (o := o) hbe
  refine a_l0 rfl rfl rfl ?_
  refine a_gV rfl lX12_208 mo_X12_readSum (h_readSum hw hbt (Cf.tt C3 hT) (Cf.rf C3) hB) rfl rfl rfl ⟨12, _, rfl, rfl, rfl⟩ rfl (fun v' h' hv => ?_)
  obtain ⟨rfl, J4, p4, rfl, hz4, hf4⟩ := hv
  rcases hr4 : sumP T e b o with ⟨z4, b4, o4⟩
  rw [baseP_s c22 c23 hr4]
  rw [hr4] at hz4 hf4 g4
  cases z4 with
  | false =>
    refine a_if_ne rfl (fun z => absurd rfl z) (fun _ => ?_)
    refine a_s rfl rfl ?_
    rw [if_neg (by decide)]
    exact a_zret rfl rfl rfl (Cf.no C3 (hf4 rfl).1 (hf4 rfl).2)
  | true =>
  refine a_if_ne rfl (fun _ => ?_) (fun z => absurd (show (1 : Int32) = 0 from z) (by decide))
  rw [if_pos rfl]
  have C4 : Cf T e n0 b4 o4 I J4 p4 := Cf.cc C3 (hz4 rfl)
  obtain ⟨-, -, g4⟩ := g4
  have g4 : b < b4 ∧ o4.length + b ≤ o.length + b4 := g4 rfl
  have key : ∀ {z5 : Bool} {x : Int32} {p' : Nat} {J : Nat → Nat → Int32}, b4 < nx T e b4 → x = (if z5 = true then 2001 else 2002) → Cf T e n0 (nx T e b4) o4 I J p' → AW S m_X12_readAtom 26 (QF T e n0 (cmpP T e x (nx T e b4) o4) I L w1 w2 t) nX 0 0 152 [some (.ref 420), some (.int (bI z5))] [] (hp J L w1 w2 t) := by
    intro z5 x p' J n4 hx C
    have g6 := sumP_gd (T := T) (o := o4) (Cf.le C)
    refine a_l0 rfl rfl rfl ?_
    refine a_gV rfl lX12_208 mo_X12_readSum (h_readSum hw hbt (Cf.tt C hT) (Cf.rf C) (by omega)) rfl rfl rfl ⟨12, _, rfl, rfl, rfl⟩ rfl (fun v' h' hv => ?_)
    obtain ⟨rfl, J6, p6, rfl, hz6, hf6⟩ := hv
    rcases hr6 : sumP T e (nx T e b4) o4 with ⟨z6, b6, o6⟩
    rw [hr6] at hz6 hf6 g6
    cases z6 with
    | false =>
      refine a_if_ne rfl (fun z => absurd rfl z) (fun _ => ?_)
      refine a_s rfl rfl ?_
      rw [cmpP_f hr6]
      exact a_zret rfl rfl rfl (Cf.no C (hf6 rfl).1 (hf6 rfl).2)
    | true =>
      refine a_if_ne rfl (fun _ => ?_) (fun z => absurd (show (1 : Int32) = 0 from z) (by decide))
      rw [cmpP_t hr6]
      have C6 : Cf T e n0 b6 o6 I J6 p6 := Cf.cc C (hz6 rfl)
      have c6e := Cf.le C6
      obtain ⟨-, -, g6⟩ := g6
      have g6 : nx T e b4 < b6 ∧ o6.length + nx T e b4 ≤ o4.length + b6 := g6 rfl
      refine a_l0 rfl rfl rfl ?_
      refine a_l1 rfl rfl rfl ?_
      cases z5 with
      | false =>
        rw [if_neg (by decide)] at hx
        subst hx
        refine a_if_eq rfl (fun _ => ?_) (fun c => absurd rfl c)
        refine a_s rfl rfl ?_
        refine a_s rfl rfl ?_
        refine a_eV0 rfl lX12_180 mo_X12_emits (r_X12_emits (Cf.st C6) (by omega)) rfl rfl rfl ⟨12, _, rfl, rfl, rfl⟩ rfl ?_
        refine a_s rfl rfl ?_
        exact a_zret rfl rfl rfl (QF.yes (Cf.em (z := 2002) C6 (by decide) (by decide)))
      | true =>
        rw [if_pos rfl] at hx
        subst hx
        refine a_if_eq rfl (fun c => absurd c (by decide)) (fun _ => ?_)
        refine a_s rfl rfl ?_
        refine a_goto rfl ?_
        refine a_s rfl rfl ?_
        refine a_eV0 rfl lX12_180 mo_X12_emits (r_X12_emits (Cf.st C6) (by omega)) rfl rfl rfl ⟨12, _, rfl, rfl, rfl⟩ rfl ?_
        refine a_s rfl rfl ?_
        exact a_zret rfl rfl rfl (QF.yes (Cf.em (z := 2001) C6 (by decide) (by decide)))
  have eT4 := Cf.tt C4 hT
  refine a_l0 rfl rfl rfl ?_
  refine a_s rfl rfl ?_
  refine a_gV rfl lX12_187 mo_X12_sign (h_sign (b := b4) (c := 60) (by rw [eT4]; exact hbt) (by decide) (Cf.pp C4) (by rw [eT4]; exact Cf.nb C4)) rfl rfl rfl ⟨12, _, rfl, rfl, rfl⟩ rfl (fun v' h' hv => ?_)
  obtain ⟨rfl, J5, rfl, h5⟩ := hv
  rw [eT4] at h5 ⊢
  refine a_s1 rfl rfl rfl rfl rfl rfl ?_
  refine a_l1 rfl rfl rfl ?_
  cases c60 : sg T e b4 (nI 60) with
  | true =>
    have c60 : sg T e b4 60 = true := c60
    refine a_if_ne rfl (fun _ => ?_) (fun z => absurd (show (1 : Int32) = 0 from z) (by decide))
    rw [if_pos (show sg T e b4 (nI 60) = true from c60)] at h5
    rw [if_pos c60]
    exact key (z5 := true) (nx_lt (sg_lt c60)) rfl (Cf.rd C4 h5 rfl)
  | false =>
  have c60 : sg T e b4 60 = false := c60
  refine a_if_ne rfl (fun z => absurd rfl z) (fun _ => ?_)
  rw [if_neg (by rw [show sg T e b4 (nI 60) = false from c60]; decide)] at h5
  rw [if_neg (by rw [c60]; decide)]
  have C5 : Cf T e n0 b4 o4 I J5 b4 := Cf.rd C4 h5 (Cf.sk C4)
  have eT5 := Cf.tt C5 hT
  refine a_l0 rfl rfl rfl ?_
  refine a_s rfl rfl ?_
  refine a_gV rfl lX12_187 mo_X12_sign (h_sign (b := b4) (c := 62) (by rw [eT5]; exact hbt) (by decide) (Cf.pp C5) (by rw [eT5]; exact Cf.nb C5)) rfl rfl rfl ⟨12, _, rfl, rfl, rfl⟩ rfl (fun v' h' hv => ?_)
  obtain ⟨rfl, J7, rfl, h7⟩ := hv
  rw [eT5] at h7 ⊢
  cases c62 : sg T e b4 (nI 62) with
  | false =>
    have c62 : sg T e b4 62 = false := c62
    refine a_if_eq rfl (fun _ => ?_) (fun z => absurd rfl z)
    rw [if_neg (by rw [show sg T e b4 (nI 62) = false from c62]; decide)] at h7
    rw [if_neg (by rw [c62]; decide)]
    refine a_s rfl rfl ?_
    exact a_zret rfl rfl rfl (QF.no (Fm.tr C5.1 (Fm.mo (Rd.fm h7) sR_sY)) (Rd.be h7))
  | true =>
    have c62 : sg T e b4 62 = true := c62
    refine a_if_eq rfl (fun z => absurd z (by decide)) (fun _ => ?_)
    rw [if_pos (show sg T e b4 (nI 62) = true from c62)] at h7
    rw [if_pos c62]
    exact key (z5 := false) (nx_lt (sg_lt c62)) rfl (Cf.rd C5 h7 rfl)
theorem h_readAllOf_4 (hw : WdS S) (hbt : BtT T) (hT : I 426 = T) (hd : I 420 13 = nI 4) (h : Cf T e n0 b o I I p) (hB : o.length < b) : Sp S m_X12_readAllOf 27 0 0 [.ref 420] (hp I L w1 w2 t) (QF T e n0 (seqP T e (atomR T e 2) 20 2004 b o) I L w1 w2 t) nX := by
  have he4 := Cf.e4 h
  have g0 := atomR_gdo (T := T) (D := 2) (o := o) (Cf.le h)
  refine Sp_of ok_X12_readAllOf rfl rfl ?_
  show AW S m_X12_readAllOf 27 _ _ 0 0 0 [some (.ref 420)] [] (hp I L w1 w2 t)
  refine a_l0 rfl rfl rfl ?_
  refine a_gV rfl lX12_202 mo_X12_readAtom (h_readAtom_4 hw hbt hT hd h hB) rfl rfl rfl ⟨12, _, rfl, rfl, rfl⟩ rfl (fun v' h' hv => ?_)
  obtain ⟨rfl, J1, p1, rfl, hz1, hf1⟩ := hv
  rcases hr : (atomR T e 2) b o with ⟨z, b1, o1⟩
  rw [seqP_of hr]
  rw [hr] at hz1 hf1 g0
  cases z with
  | false =>
    refine a_if_ne rfl (fun z => absurd rfl z) (fun _ => ?_)
    refine a_s rfl rfl ?_
    rw [if_neg (by decide)]
    exact a_zret rfl rfl rfl (QF.no (hf1 rfl).1 (hf1 rfl).2)
  | true =>
  refine a_if_ne rfl (fun _ => ?_) (fun z => absurd (show (1 : Int32) = 0 from z) (by decide))
  rw [if_pos rfl]
  obtain ⟨-, -, g3⟩ := g0
  have g3 : b < b1 ∧ o1.length + b ≤ o.length + b1 := g3 rfl
  generalize hR : loopP T e (atomR T e 2) 20 2004 b1 o1 = R
  refine a_inv (n := e - b1) (fun m ls h => ls = [some (.ref 420)] ∧ ∃ J p' b' o', h = hp J L w1 w2 t ∧ Cf T e n0 b' o' I J p' ∧ o'.length < b' ∧ loopP T e (atomR T e 2) 20 2004 b' o' = R ∧ m = e - b') ⟨rfl, J1, p1, _, _, rfl, hz1 rfl, by show o1.length < b1; omega, hR, rfl⟩ ?_
  rintro m _ _ ⟨rfl, J, p', b', o', rfl, C, hB', es, hm⟩ ih
  have eT := Cf.tt C hT
  refine a_l0 rfl rfl rfl ?_
  refine a_ldcs (q := 130 + 20) rfl (hw.ld (i := 20) (by decide)) ?_
  refine a_gV rfl lX12_128 mo_X12_passes (h_passes (b := b') (k := 20) hw (by decide) (Cf.pp C) (by rw [eT]; exact Cf.nb C)) rfl rfl rfl ⟨12, _, rfl, rfl, rfl⟩ rfl (fun v' h' hv => ?_)
  obtain ⟨rfl, J2, rfl, h2⟩ := hv
  rw [eT] at h2 ⊢
  cases cw : isWd T e b' 20 with
  | false =>
    refine a_if_eq rfl (fun _ => ?_) (fun z => absurd rfl z)
    rw [if_neg (by rw [cw]; decide)] at h2
    refine a_s rfl rfl ?_
    rw [← es, loopP_f cw]
    exact a_zret rfl rfl rfl (QF.yes (Cf.rd C h2 (Cf.sk C)))
  | true =>
    refine a_if_eq rfl (fun z => absurd z (by decide)) (fun _ => ?_)
    rw [if_pos cw] at h2
    have n2 := nx_lt (T := T) (isWd_lt cw)
    have C2 : Cf T e n0 (nx T e b') o' I J2 (en T e b') := Cf.rd C h2 rfl
    have n2e := Cf.le C2
    have g4 := atomR_gdo (T := T) (D := 2) (o := o') n2e
    refine a_l0 rfl rfl rfl ?_
    refine a_gV rfl lX12_202 mo_X12_readAtom (h_readAtom_4 hw hbt (Cf.tt C2 hT) (Cf.d C2 hd) (Cf.rf C2) (by omega)) rfl rfl rfl ⟨12, _, rfl, rfl, rfl⟩ rfl (fun v' h' hv => ?_)
    obtain ⟨rfl, J3, p3, rfl, hz3, hf3⟩ := hv
    have el := fun g => loopP_t (op := 2004) (o := o') (item := atomR T e 2) cw g
    have en' := loopP_n (op := 2004) (o := o') (item := atomR T e 2) cw
    rcases hr2 : (atomR T e 2) (nx T e b') o' with ⟨z2, b2, o2⟩
    rw [hr2] at hz3 hf3 g4 el en'
    cases z2 with
    | false =>
      refine a_if_ne rfl (fun z => absurd rfl z) (fun _ => ?_)
      refine a_s rfl rfl ?_
      rw [← es, en' Bool.false_ne_true]
      exact a_zret rfl rfl rfl (Cf.no C2 (hf3 rfl).1 (hf3 rfl).2)
    | true =>
      refine a_if_ne rfl (fun _ => ?_) (fun z => absurd (show (1 : Int32) = 0 from z) (by decide))
      have C3 : Cf T e n0 b2 o2 I J3 p3 := Cf.cc C2 (hz3 rfl)
      have c3e := Cf.le C3
      obtain ⟨-, -, g5⟩ := g4
      have g5 : nx T e b' < b2 ∧ o2.length + nx T e b' ≤ o'.length + b2 := g5 rfl
      have es2 : loopP T e (atomR T e 2) 20 2004 b2 (2004 :: o2) = R := (el (by show b' < b2; omega) rfl).symm.trans es
      refine a_l0 rfl rfl rfl ?_
      refine a_s rfl rfl ?_
      refine a_s rfl rfl ?_
      refine a_eV0 rfl lX12_180 mo_X12_emits (r_X12_emits (Cf.st C3) (by omega)) rfl rfl rfl ⟨12, _, rfl, rfl, rfl⟩ rfl ?_
      refine a_goto rfl ?_
      exact ih (e - b2) _ _ (by omega) ⟨rfl, _, p3, b2, _, rfl, Cf.em (z := 2004) C3 (by decide) (by decide), by show o2.length + 1 < b2; omega, es2, rfl⟩
theorem h_readCond_4 (hw : WdS S) (hbt : BtT T) (hT : I 426 = T) (hd : I 420 13 = nI 4) (h : Cf T e n0 b o I I p) (hB : o.length < b) : Sp S m_X12_readCond 28 0 0 [.ref 420] (hp I L w1 w2 t) (QF T e n0 (seqP T e (seqP T e (atomR T e 2) 20 2004) 19 2005 b o) I L w1 w2 t) nX := by
  have he4 := Cf.e4 h
  have g0 := seqA_gd (T := T) (D := 2) (o := o) (Cf.le h)
  refine Sp_of ok_X12_readCond rfl rfl ?_
  show AW S m_X12_readCond 28 _ _ 0 0 0 [some (.ref 420)] [] (hp I L w1 w2 t)
  refine a_l0 rfl rfl rfl ?_
  refine a_gV rfl lX12_213 mo_X12_readAllOf (h_readAllOf_4 hw hbt hT hd h hB) rfl rfl rfl ⟨12, _, rfl, rfl, rfl⟩ rfl (fun v' h' hv => ?_)
  obtain ⟨rfl, J1, p1, rfl, hz1, hf1⟩ := hv
  rcases hr : (seqP T e (atomR T e 2) 20 2004) b o with ⟨z, b1, o1⟩
  rw [seqP_of hr]
  rw [hr] at hz1 hf1 g0
  cases z with
  | false =>
    refine a_if_ne rfl (fun z => absurd rfl z) (fun _ => ?_)
    refine a_s rfl rfl ?_
    rw [if_neg (by decide)]
    exact a_zret rfl rfl rfl (QF.no (hf1 rfl).1 (hf1 rfl).2)
  | true =>
  refine a_if_ne rfl (fun _ => ?_) (fun z => absurd (show (1 : Int32) = 0 from z) (by decide))
  rw [if_pos rfl]
  obtain ⟨-, -, g3⟩ := g0
  have g3 : b < b1 ∧ o1.length + b ≤ o.length + b1 := g3 rfl
  generalize hR : loopP T e (seqP T e (atomR T e 2) 20 2004) 19 2005 b1 o1 = R
  refine a_inv (n := e - b1) (fun m ls h => ls = [some (.ref 420)] ∧ ∃ J p' b' o', h = hp J L w1 w2 t ∧ Cf T e n0 b' o' I J p' ∧ o'.length < b' ∧ loopP T e (seqP T e (atomR T e 2) 20 2004) 19 2005 b' o' = R ∧ m = e - b') ⟨rfl, J1, p1, _, _, rfl, hz1 rfl, by show o1.length < b1; omega, hR, rfl⟩ ?_
  rintro m _ _ ⟨rfl, J, p', b', o', rfl, C, hB', es, hm⟩ ih
  have eT := Cf.tt C hT
  refine a_l0 rfl rfl rfl ?_
  refine a_ldcs (q := 130 + 19) rfl (hw.ld (i := 19) (by decide)) ?_
  refine a_gV rfl lX12_128 mo_X12_passes (h_passes (b := b') (k := 19) hw (by decide) (Cf.pp C) (by rw [eT]; exact Cf.nb C)) rfl rfl rfl ⟨12, _, rfl, rfl, rfl⟩ rfl (fun v' h' hv => ?_)
  obtain ⟨rfl, J2, rfl, h2⟩ := hv
  rw [eT] at h2 ⊢
  cases cw : isWd T e b' 19 with
  | false =>
    refine a_if_eq rfl (fun _ => ?_) (fun z => absurd rfl z)
    rw [if_neg (by rw [cw]; decide)] at h2
    refine a_s rfl rfl ?_
    rw [← es, loopP_f cw]
    exact a_zret rfl rfl rfl (QF.yes (Cf.rd C h2 (Cf.sk C)))
  | true =>
    refine a_if_eq rfl (fun z => absurd z (by decide)) (fun _ => ?_)
    rw [if_pos cw] at h2
    have n2 := nx_lt (T := T) (isWd_lt cw)
    have C2 : Cf T e n0 (nx T e b') o' I J2 (en T e b') := Cf.rd C h2 rfl
    have n2e := Cf.le C2
    have g4 := seqA_gd (T := T) (D := 2) (o := o') n2e
    refine a_l0 rfl rfl rfl ?_
    refine a_gV rfl lX12_213 mo_X12_readAllOf (h_readAllOf_4 hw hbt (Cf.tt C2 hT) (Cf.d C2 hd) (Cf.rf C2) (by omega)) rfl rfl rfl ⟨12, _, rfl, rfl, rfl⟩ rfl (fun v' h' hv => ?_)
    obtain ⟨rfl, J3, p3, rfl, hz3, hf3⟩ := hv
    have el := fun g => loopP_t (op := 2005) (o := o') (item := seqP T e (atomR T e 2) 20 2004) cw g
    have en' := loopP_n (op := 2005) (o := o') (item := seqP T e (atomR T e 2) 20 2004) cw
    rcases hr2 : (seqP T e (atomR T e 2) 20 2004) (nx T e b') o' with ⟨z2, b2, o2⟩
    rw [hr2] at hz3 hf3 g4 el en'
    cases z2 with
    | false =>
      refine a_if_ne rfl (fun z => absurd rfl z) (fun _ => ?_)
      refine a_s rfl rfl ?_
      rw [← es, en' Bool.false_ne_true]
      exact a_zret rfl rfl rfl (Cf.no C2 (hf3 rfl).1 (hf3 rfl).2)
    | true =>
      refine a_if_ne rfl (fun _ => ?_) (fun z => absurd (show (1 : Int32) = 0 from z) (by decide))
      have C3 : Cf T e n0 b2 o2 I J3 p3 := Cf.cc C2 (hz3 rfl)
      have c3e := Cf.le C3
      obtain ⟨-, -, g5⟩ := g4
      have g5 : nx T e b' < b2 ∧ o2.length + nx T e b' ≤ o'.length + b2 := g5 rfl
      have es2 : loopP T e (seqP T e (atomR T e 2) 20 2004) 19 2005 b2 (2005 :: o2) = R := (el (by show b' < b2; omega) rfl).symm.trans es
      refine a_l0 rfl rfl rfl ?_
      refine a_s rfl rfl ?_
      refine a_s rfl rfl ?_
      refine a_eV0 rfl lX12_180 mo_X12_emits (r_X12_emits (Cf.st C3) (by omega)) rfl rfl rfl ⟨12, _, rfl, rfl, rfl⟩ rfl ?_
      refine a_goto rfl ?_
      exact ih (e - b2) _ _ (by omega) ⟨rfl, _, p3, b2, _, rfl, Cf.em (z := 2005) C3 (by decide) (by decide), by show o2.length + 1 < b2; omega, es2, rfl⟩
theorem h_readAtom_3 (hw : WdS S) (hbt : BtT T) (hT : I 426 = T) (hd : I 420 13 = nI 3) (h : Cf T e n0 b o I I p) (hB : o.length < b) : Sp S m_X12_readAtom 29 0 0 [.ref 420] (hp I L w1 w2 t) (QF T e n0 (atomR T e 3 b o) I L w1 w2 t) nX := by
  have he4 := Cf.e4 h
  have hbe := Cf.le h
  refine Sp_of ok_X12_readAtom rfl rfl ?_
  show AW S m_X12_readAtom 29 _ _ 0 0 0 [some (.ref 420), none] [] (hp I L w1 w2 t)
  refine a_l0 rfl rfl rfl ?_
  refine a_s rfl rfl ?_
  refine a_gV rfl lX12_187 mo_X12_sign (h_sign (b := b) (c := 40) (by rw [hT]; exact hbt) (by decide) (Cf.pp h) (by rw [hT]; exact Cf.nb h)) rfl rfl rfl ⟨12, _, rfl, rfl, rfl⟩ rfl (fun v' h' hv => ?_)
  obtain ⟨rfl, J1, rfl, h1⟩ := hv
  rw [hT] at h1 ⊢
  cases c40 : sg T e b (nI 40) with
  | true =>
    have c40 : sg T e b 40 = true := c40
    refine a_if_eq rfl (fun z => absurd z (by decide)) (fun _ => ?_)
    rw [if_pos (show sg T e b (nI 40) = true from c40)] at h1
    have n1 := nx_lt (T := T) (sg_lt c40)
    have C1 : Cf T e n0 (nx T e b) o I J1 (en T e b) := Cf.rd h h1 rfl
    refine a_l0 rfl rfl rfl ?_
    refine a_geti rfl gfX12_194_12 rfl ?_
    refine a_top (y := nI 3) (Cf.d C1 hd) ?_
    refine a_s rfl rfl ?_
    refine a_ic_ne rfl (fun _ => ?_) (fun c => absurd c (by decide))
    refine a_l0 rfl rfl rfl ?_
    refine a_s rfl rfl ?_
    refine a_geti rfl gfX12_194_12 rfl ?_
    refine a_top (y := nI 3) (Cf.d C1 hd) ?_
    refine a_s rfl rfl ?_
    refine a_s rfl rfl ?_
    refine a_top (y := nI 4) (rfl) ?_
    refine a_puti rfl pfX12_194_12 rfl ?_
    refine a_l0 rfl rfl rfl ?_
    have g4 := cndP_gd (T := T) (fun b o h => atomR_gd (T := T) 2 b o h) (o := o) (Cf.le C1)
    refine a_gV rfl lX12_197 mo_X12_readCond (h_readCond_4 hw hbt ((up2_row (by decide)).trans (Cf.tt C1 hT)) up2_at (Cf.up13 C1) (by omega)) rfl rfl rfl ⟨12, _, rfl, rfl, rfl⟩ rfl (fun v' h' hv => ?_)
    obtain ⟨rfl, J9, p9, rfl, hz9, hf9⟩ := hv
    rw [show seqP T e (seqP T e (atomR T e 2) 20 2004) 19 2005 = cndP T e (atomR T e 2) from rfl] at hz9 hf9 ⊢
    rcases hr9 : cndP T e (atomR T e 2) (nx T e b) o with ⟨z9, b9, o9⟩
    rw [hr9] at hz9 hf9 g4
    rw [atomR_p c40 hr9]
    cases z9 with
    | false =>
      refine a_if_ne rfl (fun z => absurd rfl z) (fun _ => ?_)
      refine a_s rfl rfl ?_
      rw [if_neg (by decide)]
      exact a_zret rfl rfl rfl (QF.no (Fm.tr C1.1 (Fm.tr (Fm.up Fm.rf rfl) (hf9 rfl).1)) (hf9 rfl).2)
    | true =>
      refine a_if_ne rfl (fun _ => ?_) (fun z => absurd (show (1 : Int32) = 0 from z) (by decide))
      rw [if_pos rfl]
      have D9 : Cf T e n0 b9 o9 (up2 J1 420 13 (nI 4)) J9 p9 := hz9 rfl
      refine a_l0 rfl rfl rfl ?_
      refine a_s rfl rfl ?_
      refine a_geti rfl gfX12_194_12 rfl ?_
      refine a_top (y := nI 4) (D9.2.1.trans up2_at) ?_
      refine a_s rfl rfl ?_
      refine a_s rfl rfl ?_
      refine a_top (y := nI 3) (rfl) ?_
      refine a_puti rfl pfX12_194_12 rfl ?_
      have C9 := Cf.deep C1 hd D9
      have eT9 := Cf.tt C9 hT
      refine a_l0 rfl rfl rfl ?_
      refine a_s rfl rfl ?_
      refine a_gV rfl lX12_187 mo_X12_sign (h_sign (b := b9) (c := 41) (by rw [eT9]; exact hbt) (by decide) (Cf.pp C9) (by rw [eT9]; exact Cf.nb C9)) rfl rfl rfl ⟨12, _, rfl, rfl, rfl⟩ rfl (fun v' h' hv => ?_)
      obtain ⟨rfl, J3, rfl, h3⟩ := hv
      rw [eT9] at h3 ⊢
      cases c41 : sg T e b9 (nI 41) with
      | false =>
        have c41 : sg T e b9 41 = false := c41
        rw [if_neg (by rw [show sg T e b9 (nI 41) = false from c41]; decide)] at h3
        rw [if_neg (by rw [c41]; decide)]
        exact a_zret rfl rfl rfl (QF.no (Fm.tr C9.1 (Fm.mo (Rd.fm h3) sR_sY)) (Rd.be h3))
      | true =>
        have c41 : sg T e b9 41 = true := c41
        rw [if_pos (show sg T e b9 (nI 41) = true from c41)] at h3
        rw [if_pos c41]
        exact a_zret rfl rfl rfl (QF.yes (Cf.rd C9 h3 rfl))
  | false =>
  have c40 : sg T e b 40 = false := c40
  refine a_if_eq rfl (fun _ => ?_) (fun z => absurd rfl z)
  rw [if_neg (by rw [show sg T e b (nI 40) = false from c40]; decide)] at h1
  have C0 : Cf T e n0 b o I J1 b := Cf.rd h h1 (Cf.sk h)
  have eT0 := Cf.tt C0 hT
  refine a_l0 rfl rfl rfl ?_
  refine a_ldcs (q := 130 + 21) rfl (hw.ld (i := 21) (by decide)) ?_
  refine a_gV rfl lX12_128 mo_X12_passes (h_passes (b := b) (k := 21) hw (by decide) (Cf.pp C0) (by rw [eT0]; exact Cf.nb C0)) rfl rfl rfl ⟨12, _, rfl, rfl, rfl⟩ rfl (fun v' h' hv => ?_)
  obtain ⟨rfl, J2, rfl, h2⟩ := hv
  rw [eT0] at h2 ⊢
  cases c21 : isWd T e b 21 with
  | true =>
    refine a_if_eq rfl (fun z => absurd z (by decide)) (fun _ => ?_)
    rw [if_pos c21] at h2
    have n1 := nx_lt (T := T) (isWd_lt c21)
    have C2 : Cf T e n0 (nx T e b) o I J2 (en T e b) := Cf.rd C0 h2 rfl
    refine a_l0 rfl rfl rfl ?_
    refine a_geti rfl gfX12_194_12 rfl ?_
    refine a_top (y := nI 3) (Cf.d C2 hd) ?_
    refine a_s rfl rfl ?_
    refine a_ic_ne rfl (fun _ => ?_) (fun c => absurd c (by decide))
    refine a_l0 rfl rfl rfl ?_
    refine a_s rfl rfl ?_
    refine a_geti rfl gfX12_194_12 rfl ?_
    refine a_top (y := nI 3) (Cf.d C2 hd) ?_
    refine a_s rfl rfl ?_
    refine a_s rfl rfl ?_
    refine a_top (y := nI 4) (rfl) ?_
    refine a_puti rfl pfX12_194_12 rfl ?_
    refine a_l0 rfl rfl rfl ?_
    have g4 := atomR_gdo (T := T) (D := 2) (o := o) (Cf.le C2)
    refine a_gV rfl lX12_202 mo_X12_readAtom (h_readAtom_4 hw hbt ((up2_row (by decide)).trans (Cf.tt C2 hT)) up2_at (Cf.up13 C2) (by omega)) rfl rfl rfl ⟨12, _, rfl, rfl, rfl⟩ rfl (fun v' h' hv => ?_)
    obtain ⟨rfl, J9, p9, rfl, hz9, hf9⟩ := hv
    rcases hr9 : atomR T e 2 (nx T e b) o with ⟨z9, b9, o9⟩
    rw [hr9] at hz9 hf9 g4
    rw [atomR_n c40 c21 hr9]
    cases z9 with
    | false =>
      refine a_if_ne rfl (fun z => absurd rfl z) (fun _ => ?_)
      refine a_s rfl rfl ?_
      rw [if_neg (by decide)]
      exact a_zret rfl rfl rfl (QF.no (Fm.tr C2.1 (Fm.tr (Fm.up Fm.rf rfl) (hf9 rfl).1)) (hf9 rfl).2)
    | true =>
      refine a_if_ne rfl (fun _ => ?_) (fun z => absurd (show (1 : Int32) = 0 from z) (by decide))
      rw [if_pos rfl]
      have D9 : Cf T e n0 b9 o9 (up2 J2 420 13 (nI 4)) J9 p9 := hz9 rfl
      obtain ⟨-, -, g5⟩ := g4
      have g5 : nx T e b < b9 ∧ o9.length + nx T e b ≤ o.length + b9 := g5 rfl
      have c9e := Cf.le D9
      refine a_l0 rfl rfl rfl ?_
      refine a_s rfl rfl ?_
      refine a_geti rfl gfX12_194_12 rfl ?_
      refine a_top (y := nI 4) (D9.2.1.trans up2_at) ?_
      refine a_s rfl rfl ?_
      refine a_s rfl rfl ?_
      refine a_top (y := nI 3) (rfl) ?_
      refine a_puti rfl pfX12_194_12 rfl ?_
      have C9 := Cf.deep C2 hd D9
      refine a_l0 rfl rfl rfl ?_
      refine a_s rfl rfl ?_
      refine a_s rfl rfl ?_
      refine a_eV0 rfl lX12_180 mo_X12_emits (r_X12_emits (Cf.st C9) (by omega)) rfl rfl rfl ⟨12, _, rfl, rfl, rfl⟩ rfl ?_
      refine a_s rfl rfl ?_
      exact a_zret rfl rfl rfl (QF.yes (Cf.em (z := 2003) C9 (by decide) (by decide)))
  | false =>
  refine a_if_eq rfl (fun _ => ?_) (fun z => absurd rfl z)
  rw [if_neg (by rw [c21]; decide)] at h2
  have C2 : Cf T e n0 b o I J2 b := Cf.rd C0 h2 (Cf.sk C0)
  rw [atomR_b c40 c21]
  refine a_l0 rfl rfl rfl ?_
  refine a_gV rfl lX12_205 mo_X12_readTag (h_readTag hw (Cf.tt C2 hT) (Cf.rf C2) hB) rfl rfl rfl ⟨12, _, rfl, rfl, rfl⟩ rfl (fun v' h' hv => ?_)
  obtain ⟨z3, x3, J3, p3, rfl, rfl, ht3, hf3⟩ := hv
  cases z3 with
  | true =>
    refine a_if_eq rfl (fun z => absurd z (by decide)) (fun _ => ?_)
    refine a_s rfl rfl ?_
    obtain ⟨hx, D3⟩ := ht3 rfl
    rcases hx with ⟨c22, rfl⟩ | ⟨c22, c23, rfl⟩
    · rw [show baseP T e b o = (true, nx T e b, 1007 :: o) from if_pos c22]
      exact a_zret rfl rfl rfl (QF.yes (Cf.cc C2 D3))
    · rw [show baseP T e b o = (true, nx T e b, 1008 :: o) from (if_neg (by rw [c22]; decide)).trans (if_pos c23)]
      exact a_zret rfl rfl rfl (QF.yes (Cf.cc C2 D3))
  | false =>
  refine a_if_eq rfl (fun _ => ?_) (fun z => absurd rfl z)
  obtain ⟨⟨c22, c23⟩, D3⟩ := hf3 rfl
  have C3 := Cf.cc C2 D3
  have g4 := sumP_gd (T := T) (o := o) hbe
  refine a_l0 rfl rfl rfl ?_
  refine a_gV rfl lX12_208 mo_X12_readSum (h_readSum hw hbt (Cf.tt C3 hT) (Cf.rf C3) hB) rfl rfl rfl ⟨12, _, rfl, rfl, rfl⟩ rfl (fun v' h' hv => ?_)
  obtain ⟨rfl, J4, p4, rfl, hz4, hf4⟩ := hv
  rcases hr4 : sumP T e b o with ⟨z4, b4, o4⟩
  rw [baseP_s c22 c23 hr4]
  rw [hr4] at hz4 hf4 g4
  cases z4 with
  | false =>
    refine a_if_ne rfl (fun z => absurd rfl z) (fun _ => ?_)
    refine a_s rfl rfl ?_
    rw [if_neg (by decide)]
    exact a_zret rfl rfl rfl (Cf.no C3 (hf4 rfl).1 (hf4 rfl).2)
  | true =>
  refine a_if_ne rfl (fun _ => ?_) (fun z => absurd (show (1 : Int32) = 0 from z) (by decide))
  rw [if_pos rfl]
  have C4 : Cf T e n0 b4 o4 I J4 p4 := Cf.cc C3 (hz4 rfl)
  obtain ⟨-, -, g4⟩ := g4
  have g4 : b < b4 ∧ o4.length + b ≤ o.length + b4 := g4 rfl
  have key : ∀ {z5 : Bool} {x : Int32} {p' : Nat} {J : Nat → Nat → Int32}, b4 < nx T e b4 → x = (if z5 = true then 2001 else 2002) → Cf T e n0 (nx T e b4) o4 I J p' → AW S m_X12_readAtom 29 (QF T e n0 (cmpP T e x (nx T e b4) o4) I L w1 w2 t) nX 0 0 152 [some (.ref 420), some (.int (bI z5))] [] (hp J L w1 w2 t) := by
    intro z5 x p' J n4 hx C
    have g6 := sumP_gd (T := T) (o := o4) (Cf.le C)
    refine a_l0 rfl rfl rfl ?_
    refine a_gV rfl lX12_208 mo_X12_readSum (h_readSum hw hbt (Cf.tt C hT) (Cf.rf C) (by omega)) rfl rfl rfl ⟨12, _, rfl, rfl, rfl⟩ rfl (fun v' h' hv => ?_)
    obtain ⟨rfl, J6, p6, rfl, hz6, hf6⟩ := hv
    rcases hr6 : sumP T e (nx T e b4) o4 with ⟨z6, b6, o6⟩
    rw [hr6] at hz6 hf6 g6
    cases z6 with
    | false =>
      refine a_if_ne rfl (fun z => absurd rfl z) (fun _ => ?_)
      refine a_s rfl rfl ?_
      rw [cmpP_f hr6]
      exact a_zret rfl rfl rfl (Cf.no C (hf6 rfl).1 (hf6 rfl).2)
    | true =>
      refine a_if_ne rfl (fun _ => ?_) (fun z => absurd (show (1 : Int32) = 0 from z) (by decide))
      rw [cmpP_t hr6]
      have C6 : Cf T e n0 b6 o6 I J6 p6 := Cf.cc C (hz6 rfl)
      have c6e := Cf.le C6
      obtain ⟨-, -, g6⟩ := g6
      have g6 : nx T e b4 < b6 ∧ o6.length + nx T e b4 ≤ o4.length + b6 := g6 rfl
      refine a_l0 rfl rfl rfl ?_
      refine a_l1 rfl rfl rfl ?_
      cases z5 with
      | false =>
        rw [if_neg (by decide)] at hx
        subst hx
        refine a_if_eq rfl (fun _ => ?_) (fun c => absurd rfl c)
        refine a_s rfl rfl ?_
        refine a_s rfl rfl ?_
        refine a_eV0 rfl lX12_180 mo_X12_emits (r_X12_emits (Cf.st C6) (by omega)) rfl rfl rfl ⟨12, _, rfl, rfl, rfl⟩ rfl ?_
        refine a_s rfl rfl ?_
        exact a_zret rfl rfl rfl (QF.yes (Cf.em (z := 2002) C6 (by decide) (by decide)))
      | true =>
        rw [if_pos rfl] at hx
        subst hx
        refine a_if_eq rfl (fun c => absurd c (by decide)) (fun _ => ?_)
        refine a_s rfl rfl ?_
        refine a_goto rfl ?_
        refine a_s rfl rfl ?_
        refine a_eV0 rfl lX12_180 mo_X12_emits (r_X12_emits (Cf.st C6) (by omega)) rfl rfl rfl ⟨12, _, rfl, rfl, rfl⟩ rfl ?_
        refine a_s rfl rfl ?_
        exact a_zret rfl rfl rfl (QF.yes (Cf.em (z := 2001) C6 (by decide) (by decide)))
  have eT4 := Cf.tt C4 hT
  refine a_l0 rfl rfl rfl ?_
  refine a_s rfl rfl ?_
  refine a_gV rfl lX12_187 mo_X12_sign (h_sign (b := b4) (c := 60) (by rw [eT4]; exact hbt) (by decide) (Cf.pp C4) (by rw [eT4]; exact Cf.nb C4)) rfl rfl rfl ⟨12, _, rfl, rfl, rfl⟩ rfl (fun v' h' hv => ?_)
  obtain ⟨rfl, J5, rfl, h5⟩ := hv
  rw [eT4] at h5 ⊢
  refine a_s1 rfl rfl rfl rfl rfl rfl ?_
  refine a_l1 rfl rfl rfl ?_
  cases c60 : sg T e b4 (nI 60) with
  | true =>
    have c60 : sg T e b4 60 = true := c60
    refine a_if_ne rfl (fun _ => ?_) (fun z => absurd (show (1 : Int32) = 0 from z) (by decide))
    rw [if_pos (show sg T e b4 (nI 60) = true from c60)] at h5
    rw [if_pos c60]
    exact key (z5 := true) (nx_lt (sg_lt c60)) rfl (Cf.rd C4 h5 rfl)
  | false =>
  have c60 : sg T e b4 60 = false := c60
  refine a_if_ne rfl (fun z => absurd rfl z) (fun _ => ?_)
  rw [if_neg (by rw [show sg T e b4 (nI 60) = false from c60]; decide)] at h5
  rw [if_neg (by rw [c60]; decide)]
  have C5 : Cf T e n0 b4 o4 I J5 b4 := Cf.rd C4 h5 (Cf.sk C4)
  have eT5 := Cf.tt C5 hT
  refine a_l0 rfl rfl rfl ?_
  refine a_s rfl rfl ?_
  refine a_gV rfl lX12_187 mo_X12_sign (h_sign (b := b4) (c := 62) (by rw [eT5]; exact hbt) (by decide) (Cf.pp C5) (by rw [eT5]; exact Cf.nb C5)) rfl rfl rfl ⟨12, _, rfl, rfl, rfl⟩ rfl (fun v' h' hv => ?_)
  obtain ⟨rfl, J7, rfl, h7⟩ := hv
  rw [eT5] at h7 ⊢
  cases c62 : sg T e b4 (nI 62) with
  | false =>
    have c62 : sg T e b4 62 = false := c62
    refine a_if_eq rfl (fun _ => ?_) (fun z => absurd rfl z)
    rw [if_neg (by rw [show sg T e b4 (nI 62) = false from c62]; decide)] at h7
    rw [if_neg (by rw [c62]; decide)]
    refine a_s rfl rfl ?_
    exact a_zret rfl rfl rfl (QF.no (Fm.tr C5.1 (Fm.mo (Rd.fm h7) sR_sY)) (Rd.be h7))
  | true =>
    have c62 : sg T e b4 62 = true := c62
    refine a_if_eq rfl (fun z => absurd z (by decide)) (fun _ => ?_)
    rw [if_pos (show sg T e b4 (nI 62) = true from c62)] at h7
    rw [if_pos c62]
    exact key (z5 := false) (nx_lt (sg_lt c62)) rfl (Cf.rd C5 h7 rfl)
theorem h_readAllOf_3 (hw : WdS S) (hbt : BtT T) (hT : I 426 = T) (hd : I 420 13 = nI 3) (h : Cf T e n0 b o I I p) (hB : o.length < b) : Sp S m_X12_readAllOf 30 0 0 [.ref 420] (hp I L w1 w2 t) (QF T e n0 (seqP T e (atomR T e 3) 20 2004 b o) I L w1 w2 t) nX := by
  have he4 := Cf.e4 h
  have g0 := atomR_gdo (T := T) (D := 3) (o := o) (Cf.le h)
  refine Sp_of ok_X12_readAllOf rfl rfl ?_
  show AW S m_X12_readAllOf 30 _ _ 0 0 0 [some (.ref 420)] [] (hp I L w1 w2 t)
  refine a_l0 rfl rfl rfl ?_
  refine a_gV rfl lX12_202 mo_X12_readAtom (h_readAtom_3 hw hbt hT hd h hB) rfl rfl rfl ⟨12, _, rfl, rfl, rfl⟩ rfl (fun v' h' hv => ?_)
  obtain ⟨rfl, J1, p1, rfl, hz1, hf1⟩ := hv
  rcases hr : (atomR T e 3) b o with ⟨z, b1, o1⟩
  rw [seqP_of hr]
  rw [hr] at hz1 hf1 g0
  cases z with
  | false =>
    refine a_if_ne rfl (fun z => absurd rfl z) (fun _ => ?_)
    refine a_s rfl rfl ?_
    rw [if_neg (by decide)]
    exact a_zret rfl rfl rfl (QF.no (hf1 rfl).1 (hf1 rfl).2)
  | true =>
  refine a_if_ne rfl (fun _ => ?_) (fun z => absurd (show (1 : Int32) = 0 from z) (by decide))
  rw [if_pos rfl]
  obtain ⟨-, -, g3⟩ := g0
  have g3 : b < b1 ∧ o1.length + b ≤ o.length + b1 := g3 rfl
  generalize hR : loopP T e (atomR T e 3) 20 2004 b1 o1 = R
  refine a_inv (n := e - b1) (fun m ls h => ls = [some (.ref 420)] ∧ ∃ J p' b' o', h = hp J L w1 w2 t ∧ Cf T e n0 b' o' I J p' ∧ o'.length < b' ∧ loopP T e (atomR T e 3) 20 2004 b' o' = R ∧ m = e - b') ⟨rfl, J1, p1, _, _, rfl, hz1 rfl, by show o1.length < b1; omega, hR, rfl⟩ ?_
  rintro m _ _ ⟨rfl, J, p', b', o', rfl, C, hB', es, hm⟩ ih
  have eT := Cf.tt C hT
  refine a_l0 rfl rfl rfl ?_
  refine a_ldcs (q := 130 + 20) rfl (hw.ld (i := 20) (by decide)) ?_
  refine a_gV rfl lX12_128 mo_X12_passes (h_passes (b := b') (k := 20) hw (by decide) (Cf.pp C) (by rw [eT]; exact Cf.nb C)) rfl rfl rfl ⟨12, _, rfl, rfl, rfl⟩ rfl (fun v' h' hv => ?_)
  obtain ⟨rfl, J2, rfl, h2⟩ := hv
  rw [eT] at h2 ⊢
  cases cw : isWd T e b' 20 with
  | false =>
    refine a_if_eq rfl (fun _ => ?_) (fun z => absurd rfl z)
    rw [if_neg (by rw [cw]; decide)] at h2
    refine a_s rfl rfl ?_
    rw [← es, loopP_f cw]
    exact a_zret rfl rfl rfl (QF.yes (Cf.rd C h2 (Cf.sk C)))
  | true =>
    refine a_if_eq rfl (fun z => absurd z (by decide)) (fun _ => ?_)
    rw [if_pos cw] at h2
    have n2 := nx_lt (T := T) (isWd_lt cw)
    have C2 : Cf T e n0 (nx T e b') o' I J2 (en T e b') := Cf.rd C h2 rfl
    have n2e := Cf.le C2
    have g4 := atomR_gdo (T := T) (D := 3) (o := o') n2e
    refine a_l0 rfl rfl rfl ?_
    refine a_gV rfl lX12_202 mo_X12_readAtom (h_readAtom_3 hw hbt (Cf.tt C2 hT) (Cf.d C2 hd) (Cf.rf C2) (by omega)) rfl rfl rfl ⟨12, _, rfl, rfl, rfl⟩ rfl (fun v' h' hv => ?_)
    obtain ⟨rfl, J3, p3, rfl, hz3, hf3⟩ := hv
    have el := fun g => loopP_t (op := 2004) (o := o') (item := atomR T e 3) cw g
    have en' := loopP_n (op := 2004) (o := o') (item := atomR T e 3) cw
    rcases hr2 : (atomR T e 3) (nx T e b') o' with ⟨z2, b2, o2⟩
    rw [hr2] at hz3 hf3 g4 el en'
    cases z2 with
    | false =>
      refine a_if_ne rfl (fun z => absurd rfl z) (fun _ => ?_)
      refine a_s rfl rfl ?_
      rw [← es, en' Bool.false_ne_true]
      exact a_zret rfl rfl rfl (Cf.no C2 (hf3 rfl).1 (hf3 rfl).2)
    | true =>
      refine a_if_ne rfl (fun _ => ?_) (fun z => absurd (show (1 : Int32) = 0 from z) (by decide))
      have C3 : Cf T e n0 b2 o2 I J3 p3 := Cf.cc C2 (hz3 rfl)
      have c3e := Cf.le C3
      obtain ⟨-, -, g5⟩ := g4
      have g5 : nx T e b' < b2 ∧ o2.length + nx T e b' ≤ o'.length + b2 := g5 rfl
      have es2 : loopP T e (atomR T e 3) 20 2004 b2 (2004 :: o2) = R := (el (by show b' < b2; omega) rfl).symm.trans es
      refine a_l0 rfl rfl rfl ?_
      refine a_s rfl rfl ?_
      refine a_s rfl rfl ?_
      refine a_eV0 rfl lX12_180 mo_X12_emits (r_X12_emits (Cf.st C3) (by omega)) rfl rfl rfl ⟨12, _, rfl, rfl, rfl⟩ rfl ?_
      refine a_goto rfl ?_
      exact ih (e - b2) _ _ (by omega) ⟨rfl, _, p3, b2, _, rfl, Cf.em (z := 2004) C3 (by decide) (by decide), by show o2.length + 1 < b2; omega, es2, rfl⟩
theorem h_readCond_3 (hw : WdS S) (hbt : BtT T) (hT : I 426 = T) (hd : I 420 13 = nI 3) (h : Cf T e n0 b o I I p) (hB : o.length < b) : Sp S m_X12_readCond 31 0 0 [.ref 420] (hp I L w1 w2 t) (QF T e n0 (seqP T e (seqP T e (atomR T e 3) 20 2004) 19 2005 b o) I L w1 w2 t) nX := by
  have he4 := Cf.e4 h
  have g0 := seqA_gd (T := T) (D := 3) (o := o) (Cf.le h)
  refine Sp_of ok_X12_readCond rfl rfl ?_
  show AW S m_X12_readCond 31 _ _ 0 0 0 [some (.ref 420)] [] (hp I L w1 w2 t)
  refine a_l0 rfl rfl rfl ?_
  refine a_gV rfl lX12_213 mo_X12_readAllOf (h_readAllOf_3 hw hbt hT hd h hB) rfl rfl rfl ⟨12, _, rfl, rfl, rfl⟩ rfl (fun v' h' hv => ?_)
  obtain ⟨rfl, J1, p1, rfl, hz1, hf1⟩ := hv
  rcases hr : (seqP T e (atomR T e 3) 20 2004) b o with ⟨z, b1, o1⟩
  rw [seqP_of hr]
  rw [hr] at hz1 hf1 g0
  cases z with
  | false =>
    refine a_if_ne rfl (fun z => absurd rfl z) (fun _ => ?_)
    refine a_s rfl rfl ?_
    rw [if_neg (by decide)]
    exact a_zret rfl rfl rfl (QF.no (hf1 rfl).1 (hf1 rfl).2)
  | true =>
  refine a_if_ne rfl (fun _ => ?_) (fun z => absurd (show (1 : Int32) = 0 from z) (by decide))
  rw [if_pos rfl]
  obtain ⟨-, -, g3⟩ := g0
  have g3 : b < b1 ∧ o1.length + b ≤ o.length + b1 := g3 rfl
  generalize hR : loopP T e (seqP T e (atomR T e 3) 20 2004) 19 2005 b1 o1 = R
  refine a_inv (n := e - b1) (fun m ls h => ls = [some (.ref 420)] ∧ ∃ J p' b' o', h = hp J L w1 w2 t ∧ Cf T e n0 b' o' I J p' ∧ o'.length < b' ∧ loopP T e (seqP T e (atomR T e 3) 20 2004) 19 2005 b' o' = R ∧ m = e - b') ⟨rfl, J1, p1, _, _, rfl, hz1 rfl, by show o1.length < b1; omega, hR, rfl⟩ ?_
  rintro m _ _ ⟨rfl, J, p', b', o', rfl, C, hB', es, hm⟩ ih
  have eT := Cf.tt C hT
  refine a_l0 rfl rfl rfl ?_
  refine a_ldcs (q := 130 + 19) rfl (hw.ld (i := 19) (by decide)) ?_
  refine a_gV rfl lX12_128 mo_X12_passes (h_passes (b := b') (k := 19) hw (by decide) (Cf.pp C) (by rw [eT]; exact Cf.nb C)) rfl rfl rfl ⟨12, _, rfl, rfl, rfl⟩ rfl (fun v' h' hv => ?_)
  obtain ⟨rfl, J2, rfl, h2⟩ := hv
  rw [eT] at h2 ⊢
  cases cw : isWd T e b' 19 with
  | false =>
    refine a_if_eq rfl (fun _ => ?_) (fun z => absurd rfl z)
    rw [if_neg (by rw [cw]; decide)] at h2
    refine a_s rfl rfl ?_
    rw [← es, loopP_f cw]
    exact a_zret rfl rfl rfl (QF.yes (Cf.rd C h2 (Cf.sk C)))
  | true =>
    refine a_if_eq rfl (fun z => absurd z (by decide)) (fun _ => ?_)
    rw [if_pos cw] at h2
    have n2 := nx_lt (T := T) (isWd_lt cw)
    have C2 : Cf T e n0 (nx T e b') o' I J2 (en T e b') := Cf.rd C h2 rfl
    have n2e := Cf.le C2
    have g4 := seqA_gd (T := T) (D := 3) (o := o') n2e
    refine a_l0 rfl rfl rfl ?_
    refine a_gV rfl lX12_213 mo_X12_readAllOf (h_readAllOf_3 hw hbt (Cf.tt C2 hT) (Cf.d C2 hd) (Cf.rf C2) (by omega)) rfl rfl rfl ⟨12, _, rfl, rfl, rfl⟩ rfl (fun v' h' hv => ?_)
    obtain ⟨rfl, J3, p3, rfl, hz3, hf3⟩ := hv
    have el := fun g => loopP_t (op := 2005) (o := o') (item := seqP T e (atomR T e 3) 20 2004) cw g
    have en' := loopP_n (op := 2005) (o := o') (item := seqP T e (atomR T e 3) 20 2004) cw
    rcases hr2 : (seqP T e (atomR T e 3) 20 2004) (nx T e b') o' with ⟨z2, b2, o2⟩
    rw [hr2] at hz3 hf3 g4 el en'
    cases z2 with
    | false =>
      refine a_if_ne rfl (fun z => absurd rfl z) (fun _ => ?_)
      refine a_s rfl rfl ?_
      rw [← es, en' Bool.false_ne_true]
      exact a_zret rfl rfl rfl (Cf.no C2 (hf3 rfl).1 (hf3 rfl).2)
    | true =>
      refine a_if_ne rfl (fun _ => ?_) (fun z => absurd (show (1 : Int32) = 0 from z) (by decide))
      have C3 : Cf T e n0 b2 o2 I J3 p3 := Cf.cc C2 (hz3 rfl)
      have c3e := Cf.le C3
      obtain ⟨-, -, g5⟩ := g4
      have g5 : nx T e b' < b2 ∧ o2.length + nx T e b' ≤ o'.length + b2 := g5 rfl
      have es2 : loopP T e (seqP T e (atomR T e 3) 20 2004) 19 2005 b2 (2005 :: o2) = R := (el (by show b' < b2; omega) rfl).symm.trans es
      refine a_l0 rfl rfl rfl ?_
      refine a_s rfl rfl ?_
      refine a_s rfl rfl ?_
      refine a_eV0 rfl lX12_180 mo_X12_emits (r_X12_emits (Cf.st C3) (by omega)) rfl rfl rfl ⟨12, _, rfl, rfl, rfl⟩ rfl ?_
      refine a_goto rfl ?_
      exact ih (e - b2) _ _ (by omega) ⟨rfl, _, p3, b2, _, rfl, Cf.em (z := 2005) C3 (by decide) (by decide), by show o2.length + 1 < b2; omega, es2, rfl⟩
theorem h_readAtom_2 (hw : WdS S) (hbt : BtT T) (hT : I 426 = T) (hd : I 420 13 = nI 2) (h : Cf T e n0 b o I I p) (hB : o.length < b) : Sp S m_X12_readAtom 32 0 0 [.ref 420] (hp I L w1 w2 t) (QF T e n0 (atomR T e 4 b o) I L w1 w2 t) nX := by
  have he4 := Cf.e4 h
  have hbe := Cf.le h
  refine Sp_of ok_X12_readAtom rfl rfl ?_
  show AW S m_X12_readAtom 32 _ _ 0 0 0 [some (.ref 420), none] [] (hp I L w1 w2 t)
  refine a_l0 rfl rfl rfl ?_
  refine a_s rfl rfl ?_
  refine a_gV rfl lX12_187 mo_X12_sign (h_sign (b := b) (c := 40) (by rw [hT]; exact hbt) (by decide) (Cf.pp h) (by rw [hT]; exact Cf.nb h)) rfl rfl rfl ⟨12, _, rfl, rfl, rfl⟩ rfl (fun v' h' hv => ?_)
  obtain ⟨rfl, J1, rfl, h1⟩ := hv
  rw [hT] at h1 ⊢
  cases c40 : sg T e b (nI 40) with
  | true =>
    have c40 : sg T e b 40 = true := c40
    refine a_if_eq rfl (fun z => absurd z (by decide)) (fun _ => ?_)
    rw [if_pos (show sg T e b (nI 40) = true from c40)] at h1
    have n1 := nx_lt (T := T) (sg_lt c40)
    have C1 : Cf T e n0 (nx T e b) o I J1 (en T e b) := Cf.rd h h1 rfl
    refine a_l0 rfl rfl rfl ?_
    refine a_geti rfl gfX12_194_12 rfl ?_
    refine a_top (y := nI 2) (Cf.d C1 hd) ?_
    refine a_s rfl rfl ?_
    refine a_ic_ne rfl (fun _ => ?_) (fun c => absurd c (by decide))
    refine a_l0 rfl rfl rfl ?_
    refine a_s rfl rfl ?_
    refine a_geti rfl gfX12_194_12 rfl ?_
    refine a_top (y := nI 2) (Cf.d C1 hd) ?_
    refine a_s rfl rfl ?_
    refine a_s rfl rfl ?_
    refine a_top (y := nI 3) (rfl) ?_
    refine a_puti rfl pfX12_194_12 rfl ?_
    refine a_l0 rfl rfl rfl ?_
    have g4 := cndP_gd (T := T) (fun b o h => atomR_gd (T := T) 3 b o h) (o := o) (Cf.le C1)
    refine a_gV rfl lX12_197 mo_X12_readCond (h_readCond_3 hw hbt ((up2_row (by decide)).trans (Cf.tt C1 hT)) up2_at (Cf.up13 C1) (by omega)) rfl rfl rfl ⟨12, _, rfl, rfl, rfl⟩ rfl (fun v' h' hv => ?_)
    obtain ⟨rfl, J9, p9, rfl, hz9, hf9⟩ := hv
    rw [show seqP T e (seqP T e (atomR T e 3) 20 2004) 19 2005 = cndP T e (atomR T e 3) from rfl] at hz9 hf9 ⊢
    rcases hr9 : cndP T e (atomR T e 3) (nx T e b) o with ⟨z9, b9, o9⟩
    rw [hr9] at hz9 hf9 g4
    rw [atomR_p c40 hr9]
    cases z9 with
    | false =>
      refine a_if_ne rfl (fun z => absurd rfl z) (fun _ => ?_)
      refine a_s rfl rfl ?_
      rw [if_neg (by decide)]
      exact a_zret rfl rfl rfl (QF.no (Fm.tr C1.1 (Fm.tr (Fm.up Fm.rf rfl) (hf9 rfl).1)) (hf9 rfl).2)
    | true =>
      refine a_if_ne rfl (fun _ => ?_) (fun z => absurd (show (1 : Int32) = 0 from z) (by decide))
      rw [if_pos rfl]
      have D9 : Cf T e n0 b9 o9 (up2 J1 420 13 (nI 3)) J9 p9 := hz9 rfl
      refine a_l0 rfl rfl rfl ?_
      refine a_s rfl rfl ?_
      refine a_geti rfl gfX12_194_12 rfl ?_
      refine a_top (y := nI 3) (D9.2.1.trans up2_at) ?_
      refine a_s rfl rfl ?_
      refine a_s rfl rfl ?_
      refine a_top (y := nI 2) (rfl) ?_
      refine a_puti rfl pfX12_194_12 rfl ?_
      have C9 := Cf.deep C1 hd D9
      have eT9 := Cf.tt C9 hT
      refine a_l0 rfl rfl rfl ?_
      refine a_s rfl rfl ?_
      refine a_gV rfl lX12_187 mo_X12_sign (h_sign (b := b9) (c := 41) (by rw [eT9]; exact hbt) (by decide) (Cf.pp C9) (by rw [eT9]; exact Cf.nb C9)) rfl rfl rfl ⟨12, _, rfl, rfl, rfl⟩ rfl (fun v' h' hv => ?_)
      obtain ⟨rfl, J3, rfl, h3⟩ := hv
      rw [eT9] at h3 ⊢
      cases c41 : sg T e b9 (nI 41) with
      | false =>
        have c41 : sg T e b9 41 = false := c41
        rw [if_neg (by rw [show sg T e b9 (nI 41) = false from c41]; decide)] at h3
        rw [if_neg (by rw [c41]; decide)]
        exact a_zret rfl rfl rfl (QF.no (Fm.tr C9.1 (Fm.mo (Rd.fm h3) sR_sY)) (Rd.be h3))
      | true =>
        have c41 : sg T e b9 41 = true := c41
        rw [if_pos (show sg T e b9 (nI 41) = true from c41)] at h3
        rw [if_pos c41]
        exact a_zret rfl rfl rfl (QF.yes (Cf.rd C9 h3 rfl))
  | false =>
  have c40 : sg T e b 40 = false := c40
  refine a_if_eq rfl (fun _ => ?_) (fun z => absurd rfl z)
  rw [if_neg (by rw [show sg T e b (nI 40) = false from c40]; decide)] at h1
  have C0 : Cf T e n0 b o I J1 b := Cf.rd h h1 (Cf.sk h)
  have eT0 := Cf.tt C0 hT
  refine a_l0 rfl rfl rfl ?_
  refine a_ldcs (q := 130 + 21) rfl (hw.ld (i := 21) (by decide)) ?_
  refine a_gV rfl lX12_128 mo_X12_passes (h_passes (b := b) (k := 21) hw (by decide) (Cf.pp C0) (by rw [eT0]; exact Cf.nb C0)) rfl rfl rfl ⟨12, _, rfl, rfl, rfl⟩ rfl (fun v' h' hv => ?_)
  obtain ⟨rfl, J2, rfl, h2⟩ := hv
  rw [eT0] at h2 ⊢
  cases c21 : isWd T e b 21 with
  | true =>
    refine a_if_eq rfl (fun z => absurd z (by decide)) (fun _ => ?_)
    rw [if_pos c21] at h2
    have n1 := nx_lt (T := T) (isWd_lt c21)
    have C2 : Cf T e n0 (nx T e b) o I J2 (en T e b) := Cf.rd C0 h2 rfl
    refine a_l0 rfl rfl rfl ?_
    refine a_geti rfl gfX12_194_12 rfl ?_
    refine a_top (y := nI 2) (Cf.d C2 hd) ?_
    refine a_s rfl rfl ?_
    refine a_ic_ne rfl (fun _ => ?_) (fun c => absurd c (by decide))
    refine a_l0 rfl rfl rfl ?_
    refine a_s rfl rfl ?_
    refine a_geti rfl gfX12_194_12 rfl ?_
    refine a_top (y := nI 2) (Cf.d C2 hd) ?_
    refine a_s rfl rfl ?_
    refine a_s rfl rfl ?_
    refine a_top (y := nI 3) (rfl) ?_
    refine a_puti rfl pfX12_194_12 rfl ?_
    refine a_l0 rfl rfl rfl ?_
    have g4 := atomR_gdo (T := T) (D := 3) (o := o) (Cf.le C2)
    refine a_gV rfl lX12_202 mo_X12_readAtom (h_readAtom_3 hw hbt ((up2_row (by decide)).trans (Cf.tt C2 hT)) up2_at (Cf.up13 C2) (by omega)) rfl rfl rfl ⟨12, _, rfl, rfl, rfl⟩ rfl (fun v' h' hv => ?_)
    obtain ⟨rfl, J9, p9, rfl, hz9, hf9⟩ := hv
    rcases hr9 : atomR T e 3 (nx T e b) o with ⟨z9, b9, o9⟩
    rw [hr9] at hz9 hf9 g4
    rw [atomR_n c40 c21 hr9]
    cases z9 with
    | false =>
      refine a_if_ne rfl (fun z => absurd rfl z) (fun _ => ?_)
      refine a_s rfl rfl ?_
      rw [if_neg (by decide)]
      exact a_zret rfl rfl rfl (QF.no (Fm.tr C2.1 (Fm.tr (Fm.up Fm.rf rfl) (hf9 rfl).1)) (hf9 rfl).2)
    | true =>
      refine a_if_ne rfl (fun _ => ?_) (fun z => absurd (show (1 : Int32) = 0 from z) (by decide))
      rw [if_pos rfl]
      have D9 : Cf T e n0 b9 o9 (up2 J2 420 13 (nI 3)) J9 p9 := hz9 rfl
      obtain ⟨-, -, g5⟩ := g4
      have g5 : nx T e b < b9 ∧ o9.length + nx T e b ≤ o.length + b9 := g5 rfl
      have c9e := Cf.le D9
      refine a_l0 rfl rfl rfl ?_
      refine a_s rfl rfl ?_
      refine a_geti rfl gfX12_194_12 rfl ?_
      refine a_top (y := nI 3) (D9.2.1.trans up2_at) ?_
      refine a_s rfl rfl ?_
      refine a_s rfl rfl ?_
      refine a_top (y := nI 2) (rfl) ?_
      refine a_puti rfl pfX12_194_12 rfl ?_
      have C9 := Cf.deep C2 hd D9
      refine a_l0 rfl rfl rfl ?_
      refine a_s rfl rfl ?_
      refine a_s rfl rfl ?_
      refine a_eV0 rfl lX12_180 mo_X12_emits (r_X12_emits (Cf.st C9) (by omega)) rfl rfl rfl ⟨12, _, rfl, rfl, rfl⟩ rfl ?_
      refine a_s rfl rfl ?_
      exact a_zret rfl rfl rfl (QF.yes (Cf.em (z := 2003) C9 (by decide) (by decide)))
  | false =>
  refine a_if_eq rfl (fun _ => ?_) (fun z => absurd rfl z)
  rw [if_neg (by rw [c21]; decide)] at h2
  have C2 : Cf T e n0 b o I J2 b := Cf.rd C0 h2 (Cf.sk C0)
  rw [atomR_b c40 c21]
  refine a_l0 rfl rfl rfl ?_
  refine a_gV rfl lX12_205 mo_X12_readTag (h_readTag hw (Cf.tt C2 hT) (Cf.rf C2) hB) rfl rfl rfl ⟨12, _, rfl, rfl, rfl⟩ rfl (fun v' h' hv => ?_)
  obtain ⟨z3, x3, J3, p3, rfl, rfl, ht3, hf3⟩ := hv
  cases z3 with
  | true =>
    refine a_if_eq rfl (fun z => absurd z (by decide)) (fun _ => ?_)
    refine a_s rfl rfl ?_
    obtain ⟨hx, D3⟩ := ht3 rfl
    rcases hx with ⟨c22, rfl⟩ | ⟨c22, c23, rfl⟩
    · rw [show baseP T e b o = (true, nx T e b, 1007 :: o) from if_pos c22]
      exact a_zret rfl rfl rfl (QF.yes (Cf.cc C2 D3))
    · rw [show baseP T e b o = (true, nx T e b, 1008 :: o) from (if_neg (by rw [c22]; decide)).trans (if_pos c23)]
      exact a_zret rfl rfl rfl (QF.yes (Cf.cc C2 D3))
  | false =>
  refine a_if_eq rfl (fun _ => ?_) (fun z => absurd rfl z)
  obtain ⟨⟨c22, c23⟩, D3⟩ := hf3 rfl
  have C3 := Cf.cc C2 D3
  have g4 := sumP_gd (T := T) (o := o) hbe
  refine a_l0 rfl rfl rfl ?_
  refine a_gV rfl lX12_208 mo_X12_readSum (h_readSum hw hbt (Cf.tt C3 hT) (Cf.rf C3) hB) rfl rfl rfl ⟨12, _, rfl, rfl, rfl⟩ rfl (fun v' h' hv => ?_)
  obtain ⟨rfl, J4, p4, rfl, hz4, hf4⟩ := hv
  rcases hr4 : sumP T e b o with ⟨z4, b4, o4⟩
  rw [baseP_s c22 c23 hr4]
  rw [hr4] at hz4 hf4 g4
  cases z4 with
  | false =>
    refine a_if_ne rfl (fun z => absurd rfl z) (fun _ => ?_)
    refine a_s rfl rfl ?_
    rw [if_neg (by decide)]
    exact a_zret rfl rfl rfl (Cf.no C3 (hf4 rfl).1 (hf4 rfl).2)
  | true =>
  refine a_if_ne rfl (fun _ => ?_) (fun z => absurd (show (1 : Int32) = 0 from z) (by decide))
  rw [if_pos rfl]
  have C4 : Cf T e n0 b4 o4 I J4 p4 := Cf.cc C3 (hz4 rfl)
  obtain ⟨-, -, g4⟩ := g4
  have g4 : b < b4 ∧ o4.length + b ≤ o.length + b4 := g4 rfl
  have key : ∀ {z5 : Bool} {x : Int32} {p' : Nat} {J : Nat → Nat → Int32}, b4 < nx T e b4 → x = (if z5 = true then 2001 else 2002) → Cf T e n0 (nx T e b4) o4 I J p' → AW S m_X12_readAtom 32 (QF T e n0 (cmpP T e x (nx T e b4) o4) I L w1 w2 t) nX 0 0 152 [some (.ref 420), some (.int (bI z5))] [] (hp J L w1 w2 t) := by
    intro z5 x p' J n4 hx C
    have g6 := sumP_gd (T := T) (o := o4) (Cf.le C)
    refine a_l0 rfl rfl rfl ?_
    refine a_gV rfl lX12_208 mo_X12_readSum (h_readSum hw hbt (Cf.tt C hT) (Cf.rf C) (by omega)) rfl rfl rfl ⟨12, _, rfl, rfl, rfl⟩ rfl (fun v' h' hv => ?_)
    obtain ⟨rfl, J6, p6, rfl, hz6, hf6⟩ := hv
    rcases hr6 : sumP T e (nx T e b4) o4 with ⟨z6, b6, o6⟩
    rw [hr6] at hz6 hf6 g6
    cases z6 with
    | false =>
      refine a_if_ne rfl (fun z => absurd rfl z) (fun _ => ?_)
      refine a_s rfl rfl ?_
      rw [cmpP_f hr6]
      exact a_zret rfl rfl rfl (Cf.no C (hf6 rfl).1 (hf6 rfl).2)
    | true =>
      refine a_if_ne rfl (fun _ => ?_) (fun z => absurd (show (1 : Int32) = 0 from z) (by decide))
      rw [cmpP_t hr6]
      have C6 : Cf T e n0 b6 o6 I J6 p6 := Cf.cc C (hz6 rfl)
      have c6e := Cf.le C6
      obtain ⟨-, -, g6⟩ := g6
      have g6 : nx T e b4 < b6 ∧ o6.length + nx T e b4 ≤ o4.length + b6 := g6 rfl
      refine a_l0 rfl rfl rfl ?_
      refine a_l1 rfl rfl rfl ?_
      cases z5 with
      | false =>
        rw [if_neg (by decide)] at hx
        subst hx
        refine a_if_eq rfl (fun _ => ?_) (fun c => absurd rfl c)
        refine a_s rfl rfl ?_
        refine a_s rfl rfl ?_
        refine a_eV0 rfl lX12_180 mo_X12_emits (r_X12_emits (Cf.st C6) (by omega)) rfl rfl rfl ⟨12, _, rfl, rfl, rfl⟩ rfl ?_
        refine a_s rfl rfl ?_
        exact a_zret rfl rfl rfl (QF.yes (Cf.em (z := 2002) C6 (by decide) (by decide)))
      | true =>
        rw [if_pos rfl] at hx
        subst hx
        refine a_if_eq rfl (fun c => absurd c (by decide)) (fun _ => ?_)
        refine a_s rfl rfl ?_
        refine a_goto rfl ?_
        refine a_s rfl rfl ?_
        refine a_eV0 rfl lX12_180 mo_X12_emits (r_X12_emits (Cf.st C6) (by omega)) rfl rfl rfl ⟨12, _, rfl, rfl, rfl⟩ rfl ?_
        refine a_s rfl rfl ?_
        exact a_zret rfl rfl rfl (QF.yes (Cf.em (z := 2001) C6 (by decide) (by decide)))
  have eT4 := Cf.tt C4 hT
  refine a_l0 rfl rfl rfl ?_
  refine a_s rfl rfl ?_
  refine a_gV rfl lX12_187 mo_X12_sign (h_sign (b := b4) (c := 60) (by rw [eT4]; exact hbt) (by decide) (Cf.pp C4) (by rw [eT4]; exact Cf.nb C4)) rfl rfl rfl ⟨12, _, rfl, rfl, rfl⟩ rfl (fun v' h' hv => ?_)
  obtain ⟨rfl, J5, rfl, h5⟩ := hv
  rw [eT4] at h5 ⊢
  refine a_s1 rfl rfl rfl rfl rfl rfl ?_
  refine a_l1 rfl rfl rfl ?_
  cases c60 : sg T e b4 (nI 60) with
  | true =>
    have c60 : sg T e b4 60 = true := c60
    refine a_if_ne rfl (fun _ => ?_) (fun z => absurd (show (1 : Int32) = 0 from z) (by decide))
    rw [if_pos (show sg T e b4 (nI 60) = true from c60)] at h5
    rw [if_pos c60]
    exact key (z5 := true) (nx_lt (sg_lt c60)) rfl (Cf.rd C4 h5 rfl)
  | false =>
  have c60 : sg T e b4 60 = false := c60
  refine a_if_ne rfl (fun z => absurd rfl z) (fun _ => ?_)
  rw [if_neg (by rw [show sg T e b4 (nI 60) = false from c60]; decide)] at h5
  rw [if_neg (by rw [c60]; decide)]
  have C5 : Cf T e n0 b4 o4 I J5 b4 := Cf.rd C4 h5 (Cf.sk C4)
  have eT5 := Cf.tt C5 hT
  refine a_l0 rfl rfl rfl ?_
  refine a_s rfl rfl ?_
  refine a_gV rfl lX12_187 mo_X12_sign (h_sign (b := b4) (c := 62) (by rw [eT5]; exact hbt) (by decide) (Cf.pp C5) (by rw [eT5]; exact Cf.nb C5)) rfl rfl rfl ⟨12, _, rfl, rfl, rfl⟩ rfl (fun v' h' hv => ?_)
  obtain ⟨rfl, J7, rfl, h7⟩ := hv
  rw [eT5] at h7 ⊢
  cases c62 : sg T e b4 (nI 62) with
  | false =>
    have c62 : sg T e b4 62 = false := c62
    refine a_if_eq rfl (fun _ => ?_) (fun z => absurd rfl z)
    rw [if_neg (by rw [show sg T e b4 (nI 62) = false from c62]; decide)] at h7
    rw [if_neg (by rw [c62]; decide)]
    refine a_s rfl rfl ?_
    exact a_zret rfl rfl rfl (QF.no (Fm.tr C5.1 (Fm.mo (Rd.fm h7) sR_sY)) (Rd.be h7))
  | true =>
    have c62 : sg T e b4 62 = true := c62
    refine a_if_eq rfl (fun z => absurd z (by decide)) (fun _ => ?_)
    rw [if_pos (show sg T e b4 (nI 62) = true from c62)] at h7
    rw [if_pos c62]
    exact key (z5 := false) (nx_lt (sg_lt c62)) rfl (Cf.rd C5 h7 rfl)
theorem h_readAllOf_2 (hw : WdS S) (hbt : BtT T) (hT : I 426 = T) (hd : I 420 13 = nI 2) (h : Cf T e n0 b o I I p) (hB : o.length < b) : Sp S m_X12_readAllOf 33 0 0 [.ref 420] (hp I L w1 w2 t) (QF T e n0 (seqP T e (atomR T e 4) 20 2004 b o) I L w1 w2 t) nX := by
  have he4 := Cf.e4 h
  have g0 := atomR_gdo (T := T) (D := 4) (o := o) (Cf.le h)
  refine Sp_of ok_X12_readAllOf rfl rfl ?_
  show AW S m_X12_readAllOf 33 _ _ 0 0 0 [some (.ref 420)] [] (hp I L w1 w2 t)
  refine a_l0 rfl rfl rfl ?_
  refine a_gV rfl lX12_202 mo_X12_readAtom (h_readAtom_2 hw hbt hT hd h hB) rfl rfl rfl ⟨12, _, rfl, rfl, rfl⟩ rfl (fun v' h' hv => ?_)
  obtain ⟨rfl, J1, p1, rfl, hz1, hf1⟩ := hv
  rcases hr : (atomR T e 4) b o with ⟨z, b1, o1⟩
  rw [seqP_of hr]
  rw [hr] at hz1 hf1 g0
  cases z with
  | false =>
    refine a_if_ne rfl (fun z => absurd rfl z) (fun _ => ?_)
    refine a_s rfl rfl ?_
    rw [if_neg (by decide)]
    exact a_zret rfl rfl rfl (QF.no (hf1 rfl).1 (hf1 rfl).2)
  | true =>
  refine a_if_ne rfl (fun _ => ?_) (fun z => absurd (show (1 : Int32) = 0 from z) (by decide))
  rw [if_pos rfl]
  obtain ⟨-, -, g3⟩ := g0
  have g3 : b < b1 ∧ o1.length + b ≤ o.length + b1 := g3 rfl
  generalize hR : loopP T e (atomR T e 4) 20 2004 b1 o1 = R
  refine a_inv (n := e - b1) (fun m ls h => ls = [some (.ref 420)] ∧ ∃ J p' b' o', h = hp J L w1 w2 t ∧ Cf T e n0 b' o' I J p' ∧ o'.length < b' ∧ loopP T e (atomR T e 4) 20 2004 b' o' = R ∧ m = e - b') ⟨rfl, J1, p1, _, _, rfl, hz1 rfl, by show o1.length < b1; omega, hR, rfl⟩ ?_
  rintro m _ _ ⟨rfl, J, p', b', o', rfl, C, hB', es, hm⟩ ih
  have eT := Cf.tt C hT
  refine a_l0 rfl rfl rfl ?_
  refine a_ldcs (q := 130 + 20) rfl (hw.ld (i := 20) (by decide)) ?_
  refine a_gV rfl lX12_128 mo_X12_passes (h_passes (b := b') (k := 20) hw (by decide) (Cf.pp C) (by rw [eT]; exact Cf.nb C)) rfl rfl rfl ⟨12, _, rfl, rfl, rfl⟩ rfl (fun v' h' hv => ?_)
  obtain ⟨rfl, J2, rfl, h2⟩ := hv
  rw [eT] at h2 ⊢
  cases cw : isWd T e b' 20 with
  | false =>
    refine a_if_eq rfl (fun _ => ?_) (fun z => absurd rfl z)
    rw [if_neg (by rw [cw]; decide)] at h2
    refine a_s rfl rfl ?_
    rw [← es, loopP_f cw]
    exact a_zret rfl rfl rfl (QF.yes (Cf.rd C h2 (Cf.sk C)))
  | true =>
    refine a_if_eq rfl (fun z => absurd z (by decide)) (fun _ => ?_)
    rw [if_pos cw] at h2
    have n2 := nx_lt (T := T) (isWd_lt cw)
    have C2 : Cf T e n0 (nx T e b') o' I J2 (en T e b') := Cf.rd C h2 rfl
    have n2e := Cf.le C2
    have g4 := atomR_gdo (T := T) (D := 4) (o := o') n2e
    refine a_l0 rfl rfl rfl ?_
    refine a_gV rfl lX12_202 mo_X12_readAtom (h_readAtom_2 hw hbt (Cf.tt C2 hT) (Cf.d C2 hd) (Cf.rf C2) (by omega)) rfl rfl rfl ⟨12, _, rfl, rfl, rfl⟩ rfl (fun v' h' hv => ?_)
    obtain ⟨rfl, J3, p3, rfl, hz3, hf3⟩ := hv
    have el := fun g => loopP_t (op := 2004) (o := o') (item := atomR T e 4) cw g
    have en' := loopP_n (op := 2004) (o := o') (item := atomR T e 4) cw
    rcases hr2 : (atomR T e 4) (nx T e b') o' with ⟨z2, b2, o2⟩
    rw [hr2] at hz3 hf3 g4 el en'
    cases z2 with
    | false =>
      refine a_if_ne rfl (fun z => absurd rfl z) (fun _ => ?_)
      refine a_s rfl rfl ?_
      rw [← es, en' Bool.false_ne_true]
      exact a_zret rfl rfl rfl (Cf.no C2 (hf3 rfl).1 (hf3 rfl).2)
    | true =>
      refine a_if_ne rfl (fun _ => ?_) (fun z => absurd (show (1 : Int32) = 0 from z) (by decide))
      have C3 : Cf T e n0 b2 o2 I J3 p3 := Cf.cc C2 (hz3 rfl)
      have c3e := Cf.le C3
      obtain ⟨-, -, g5⟩ := g4
      have g5 : nx T e b' < b2 ∧ o2.length + nx T e b' ≤ o'.length + b2 := g5 rfl
      have es2 : loopP T e (atomR T e 4) 20 2004 b2 (2004 :: o2) = R := (el (by show b' < b2; omega) rfl).symm.trans es
      refine a_l0 rfl rfl rfl ?_
      refine a_s rfl rfl ?_
      refine a_s rfl rfl ?_
      refine a_eV0 rfl lX12_180 mo_X12_emits (r_X12_emits (Cf.st C3) (by omega)) rfl rfl rfl ⟨12, _, rfl, rfl, rfl⟩ rfl ?_
      refine a_goto rfl ?_
      exact ih (e - b2) _ _ (by omega) ⟨rfl, _, p3, b2, _, rfl, Cf.em (z := 2004) C3 (by decide) (by decide), by show o2.length + 1 < b2; omega, es2, rfl⟩
theorem h_readCond_2 (hw : WdS S) (hbt : BtT T) (hT : I 426 = T) (hd : I 420 13 = nI 2) (h : Cf T e n0 b o I I p) (hB : o.length < b) : Sp S m_X12_readCond 34 0 0 [.ref 420] (hp I L w1 w2 t) (QF T e n0 (seqP T e (seqP T e (atomR T e 4) 20 2004) 19 2005 b o) I L w1 w2 t) nX := by
  have he4 := Cf.e4 h
  have g0 := seqA_gd (T := T) (D := 4) (o := o) (Cf.le h)
  refine Sp_of ok_X12_readCond rfl rfl ?_
  show AW S m_X12_readCond 34 _ _ 0 0 0 [some (.ref 420)] [] (hp I L w1 w2 t)
  refine a_l0 rfl rfl rfl ?_
  refine a_gV rfl lX12_213 mo_X12_readAllOf (h_readAllOf_2 hw hbt hT hd h hB) rfl rfl rfl ⟨12, _, rfl, rfl, rfl⟩ rfl (fun v' h' hv => ?_)
  obtain ⟨rfl, J1, p1, rfl, hz1, hf1⟩ := hv
  rcases hr : (seqP T e (atomR T e 4) 20 2004) b o with ⟨z, b1, o1⟩
  rw [seqP_of hr]
  rw [hr] at hz1 hf1 g0
  cases z with
  | false =>
    refine a_if_ne rfl (fun z => absurd rfl z) (fun _ => ?_)
    refine a_s rfl rfl ?_
    rw [if_neg (by decide)]
    exact a_zret rfl rfl rfl (QF.no (hf1 rfl).1 (hf1 rfl).2)
  | true =>
  refine a_if_ne rfl (fun _ => ?_) (fun z => absurd (show (1 : Int32) = 0 from z) (by decide))
  rw [if_pos rfl]
  obtain ⟨-, -, g3⟩ := g0
  have g3 : b < b1 ∧ o1.length + b ≤ o.length + b1 := g3 rfl
  generalize hR : loopP T e (seqP T e (atomR T e 4) 20 2004) 19 2005 b1 o1 = R
  refine a_inv (n := e - b1) (fun m ls h => ls = [some (.ref 420)] ∧ ∃ J p' b' o', h = hp J L w1 w2 t ∧ Cf T e n0 b' o' I J p' ∧ o'.length < b' ∧ loopP T e (seqP T e (atomR T e 4) 20 2004) 19 2005 b' o' = R ∧ m = e - b') ⟨rfl, J1, p1, _, _, rfl, hz1 rfl, by show o1.length < b1; omega, hR, rfl⟩ ?_
  rintro m _ _ ⟨rfl, J, p', b', o', rfl, C, hB', es, hm⟩ ih
  have eT := Cf.tt C hT
  refine a_l0 rfl rfl rfl ?_
  refine a_ldcs (q := 130 + 19) rfl (hw.ld (i := 19) (by decide)) ?_
  refine a_gV rfl lX12_128 mo_X12_passes (h_passes (b := b') (k := 19) hw (by decide) (Cf.pp C) (by rw [eT]; exact Cf.nb C)) rfl rfl rfl ⟨12, _, rfl, rfl, rfl⟩ rfl (fun v' h' hv => ?_)
  obtain ⟨rfl, J2, rfl, h2⟩ := hv
  rw [eT] at h2 ⊢
  cases cw : isWd T e b' 19 with
  | false =>
    refine a_if_eq rfl (fun _ => ?_) (fun z => absurd rfl z)
    rw [if_neg (by rw [cw]; decide)] at h2
    refine a_s rfl rfl ?_
    rw [← es, loopP_f cw]
    exact a_zret rfl rfl rfl (QF.yes (Cf.rd C h2 (Cf.sk C)))
  | true =>
    refine a_if_eq rfl (fun z => absurd z (by decide)) (fun _ => ?_)
    rw [if_pos cw] at h2
    have n2 := nx_lt (T := T) (isWd_lt cw)
    have C2 : Cf T e n0 (nx T e b') o' I J2 (en T e b') := Cf.rd C h2 rfl
    have n2e := Cf.le C2
    have g4 := seqA_gd (T := T) (D := 4) (o := o') n2e
    refine a_l0 rfl rfl rfl ?_
    refine a_gV rfl lX12_213 mo_X12_readAllOf (h_readAllOf_2 hw hbt (Cf.tt C2 hT) (Cf.d C2 hd) (Cf.rf C2) (by omega)) rfl rfl rfl ⟨12, _, rfl, rfl, rfl⟩ rfl (fun v' h' hv => ?_)
    obtain ⟨rfl, J3, p3, rfl, hz3, hf3⟩ := hv
    have el := fun g => loopP_t (op := 2005) (o := o') (item := seqP T e (atomR T e 4) 20 2004) cw g
    have en' := loopP_n (op := 2005) (o := o') (item := seqP T e (atomR T e 4) 20 2004) cw
    rcases hr2 : (seqP T e (atomR T e 4) 20 2004) (nx T e b') o' with ⟨z2, b2, o2⟩
    rw [hr2] at hz3 hf3 g4 el en'
    cases z2 with
    | false =>
      refine a_if_ne rfl (fun z => absurd rfl z) (fun _ => ?_)
      refine a_s rfl rfl ?_
      rw [← es, en' Bool.false_ne_true]
      exact a_zret rfl rfl rfl (Cf.no C2 (hf3 rfl).1 (hf3 rfl).2)
    | true =>
      refine a_if_ne rfl (fun _ => ?_) (fun z => absurd (show (1 : Int32) = 0 from z) (by decide))
      have C3 : Cf T e n0 b2 o2 I J3 p3 := Cf.cc C2 (hz3 rfl)
      have c3e := Cf.le C3
      obtain ⟨-, -, g5⟩ := g4
      have g5 : nx T e b' < b2 ∧ o2.length + nx T e b' ≤ o'.length + b2 := g5 rfl
      have es2 : loopP T e (seqP T e (atomR T e 4) 20 2004) 19 2005 b2 (2005 :: o2) = R := (el (by show b' < b2; omega) rfl).symm.trans es
      refine a_l0 rfl rfl rfl ?_
      refine a_s rfl rfl ?_
      refine a_s rfl rfl ?_
      refine a_eV0 rfl lX12_180 mo_X12_emits (r_X12_emits (Cf.st C3) (by omega)) rfl rfl rfl ⟨12, _, rfl, rfl, rfl⟩ rfl ?_
      refine a_goto rfl ?_
      exact ih (e - b2) _ _ (by omega) ⟨rfl, _, p3, b2, _, rfl, Cf.em (z := 2005) C3 (by decide) (by decide), by show o2.length + 1 < b2; omega, es2, rfl⟩
theorem h_readAtom_1 (hw : WdS S) (hbt : BtT T) (hT : I 426 = T) (hd : I 420 13 = nI 1) (h : Cf T e n0 b o I I p) (hB : o.length < b) : Sp S m_X12_readAtom 35 0 0 [.ref 420] (hp I L w1 w2 t) (QF T e n0 (atomR T e 5 b o) I L w1 w2 t) nX := by
  have he4 := Cf.e4 h
  have hbe := Cf.le h
  refine Sp_of ok_X12_readAtom rfl rfl ?_
  show AW S m_X12_readAtom 35 _ _ 0 0 0 [some (.ref 420), none] [] (hp I L w1 w2 t)
  refine a_l0 rfl rfl rfl ?_
  refine a_s rfl rfl ?_
  refine a_gV rfl lX12_187 mo_X12_sign (h_sign (b := b) (c := 40) (by rw [hT]; exact hbt) (by decide) (Cf.pp h) (by rw [hT]; exact Cf.nb h)) rfl rfl rfl ⟨12, _, rfl, rfl, rfl⟩ rfl (fun v' h' hv => ?_)
  obtain ⟨rfl, J1, rfl, h1⟩ := hv
  rw [hT] at h1 ⊢
  cases c40 : sg T e b (nI 40) with
  | true =>
    have c40 : sg T e b 40 = true := c40
    refine a_if_eq rfl (fun z => absurd z (by decide)) (fun _ => ?_)
    rw [if_pos (show sg T e b (nI 40) = true from c40)] at h1
    have n1 := nx_lt (T := T) (sg_lt c40)
    have C1 : Cf T e n0 (nx T e b) o I J1 (en T e b) := Cf.rd h h1 rfl
    refine a_l0 rfl rfl rfl ?_
    refine a_geti rfl gfX12_194_12 rfl ?_
    refine a_top (y := nI 1) (Cf.d C1 hd) ?_
    refine a_s rfl rfl ?_
    refine a_ic_ne rfl (fun _ => ?_) (fun c => absurd c (by decide))
    refine a_l0 rfl rfl rfl ?_
    refine a_s rfl rfl ?_
    refine a_geti rfl gfX12_194_12 rfl ?_
    refine a_top (y := nI 1) (Cf.d C1 hd) ?_
    refine a_s rfl rfl ?_
    refine a_s rfl rfl ?_
    refine a_top (y := nI 2) (rfl) ?_
    refine a_puti rfl pfX12_194_12 rfl ?_
    refine a_l0 rfl rfl rfl ?_
    have g4 := cndP_gd (T := T) (fun b o h => atomR_gd (T := T) 4 b o h) (o := o) (Cf.le C1)
    refine a_gV rfl lX12_197 mo_X12_readCond (h_readCond_2 hw hbt ((up2_row (by decide)).trans (Cf.tt C1 hT)) up2_at (Cf.up13 C1) (by omega)) rfl rfl rfl ⟨12, _, rfl, rfl, rfl⟩ rfl (fun v' h' hv => ?_)
    obtain ⟨rfl, J9, p9, rfl, hz9, hf9⟩ := hv
    rw [show seqP T e (seqP T e (atomR T e 4) 20 2004) 19 2005 = cndP T e (atomR T e 4) from rfl] at hz9 hf9 ⊢
    rcases hr9 : cndP T e (atomR T e 4) (nx T e b) o with ⟨z9, b9, o9⟩
    rw [hr9] at hz9 hf9 g4
    rw [atomR_p c40 hr9]
    cases z9 with
    | false =>
      refine a_if_ne rfl (fun z => absurd rfl z) (fun _ => ?_)
      refine a_s rfl rfl ?_
      rw [if_neg (by decide)]
      exact a_zret rfl rfl rfl (QF.no (Fm.tr C1.1 (Fm.tr (Fm.up Fm.rf rfl) (hf9 rfl).1)) (hf9 rfl).2)
    | true =>
      refine a_if_ne rfl (fun _ => ?_) (fun z => absurd (show (1 : Int32) = 0 from z) (by decide))
      rw [if_pos rfl]
      have D9 : Cf T e n0 b9 o9 (up2 J1 420 13 (nI 2)) J9 p9 := hz9 rfl
      refine a_l0 rfl rfl rfl ?_
      refine a_s rfl rfl ?_
      refine a_geti rfl gfX12_194_12 rfl ?_
      refine a_top (y := nI 2) (D9.2.1.trans up2_at) ?_
      refine a_s rfl rfl ?_
      refine a_s rfl rfl ?_
      refine a_top (y := nI 1) (rfl) ?_
      refine a_puti rfl pfX12_194_12 rfl ?_
      have C9 := Cf.deep C1 hd D9
      have eT9 := Cf.tt C9 hT
      refine a_l0 rfl rfl rfl ?_
      refine a_s rfl rfl ?_
      refine a_gV rfl lX12_187 mo_X12_sign (h_sign (b := b9) (c := 41) (by rw [eT9]; exact hbt) (by decide) (Cf.pp C9) (by rw [eT9]; exact Cf.nb C9)) rfl rfl rfl ⟨12, _, rfl, rfl, rfl⟩ rfl (fun v' h' hv => ?_)
      obtain ⟨rfl, J3, rfl, h3⟩ := hv
      rw [eT9] at h3 ⊢
      cases c41 : sg T e b9 (nI 41) with
      | false =>
        have c41 : sg T e b9 41 = false := c41
        rw [if_neg (by rw [show sg T e b9 (nI 41) = false from c41]; decide)] at h3
        rw [if_neg (by rw [c41]; decide)]
        exact a_zret rfl rfl rfl (QF.no (Fm.tr C9.1 (Fm.mo (Rd.fm h3) sR_sY)) (Rd.be h3))
      | true =>
        have c41 : sg T e b9 41 = true := c41
        rw [if_pos (show sg T e b9 (nI 41) = true from c41)] at h3
        rw [if_pos c41]
        exact a_zret rfl rfl rfl (QF.yes (Cf.rd C9 h3 rfl))
  | false =>
  have c40 : sg T e b 40 = false := c40
  refine a_if_eq rfl (fun _ => ?_) (fun z => absurd rfl z)
  rw [if_neg (by rw [show sg T e b (nI 40) = false from c40]; decide)] at h1
  have C0 : Cf T e n0 b o I J1 b := Cf.rd h h1 (Cf.sk h)
  have eT0 := Cf.tt C0 hT
  refine a_l0 rfl rfl rfl ?_
  refine a_ldcs (q := 130 + 21) rfl (hw.ld (i := 21) (by decide)) ?_
  refine a_gV rfl lX12_128 mo_X12_passes (h_passes (b := b) (k := 21) hw (by decide) (Cf.pp C0) (by rw [eT0]; exact Cf.nb C0)) rfl rfl rfl ⟨12, _, rfl, rfl, rfl⟩ rfl (fun v' h' hv => ?_)
  obtain ⟨rfl, J2, rfl, h2⟩ := hv
  rw [eT0] at h2 ⊢
  cases c21 : isWd T e b 21 with
  | true =>
    refine a_if_eq rfl (fun z => absurd z (by decide)) (fun _ => ?_)
    rw [if_pos c21] at h2
    have n1 := nx_lt (T := T) (isWd_lt c21)
    have C2 : Cf T e n0 (nx T e b) o I J2 (en T e b) := Cf.rd C0 h2 rfl
    refine a_l0 rfl rfl rfl ?_
    refine a_geti rfl gfX12_194_12 rfl ?_
    refine a_top (y := nI 1) (Cf.d C2 hd) ?_
    refine a_s rfl rfl ?_
    refine a_ic_ne rfl (fun _ => ?_) (fun c => absurd c (by decide))
    refine a_l0 rfl rfl rfl ?_
    refine a_s rfl rfl ?_
    refine a_geti rfl gfX12_194_12 rfl ?_
    refine a_top (y := nI 1) (Cf.d C2 hd) ?_
    refine a_s rfl rfl ?_
    refine a_s rfl rfl ?_
    refine a_top (y := nI 2) (rfl) ?_
    refine a_puti rfl pfX12_194_12 rfl ?_
    refine a_l0 rfl rfl rfl ?_
    have g4 := atomR_gdo (T := T) (D := 4) (o := o) (Cf.le C2)
    refine a_gV rfl lX12_202 mo_X12_readAtom (h_readAtom_2 hw hbt ((up2_row (by decide)).trans (Cf.tt C2 hT)) up2_at (Cf.up13 C2) (by omega)) rfl rfl rfl ⟨12, _, rfl, rfl, rfl⟩ rfl (fun v' h' hv => ?_)
    obtain ⟨rfl, J9, p9, rfl, hz9, hf9⟩ := hv
    rcases hr9 : atomR T e 4 (nx T e b) o with ⟨z9, b9, o9⟩
    rw [hr9] at hz9 hf9 g4
    rw [atomR_n c40 c21 hr9]
    cases z9 with
    | false =>
      refine a_if_ne rfl (fun z => absurd rfl z) (fun _ => ?_)
      refine a_s rfl rfl ?_
      rw [if_neg (by decide)]
      exact a_zret rfl rfl rfl (QF.no (Fm.tr C2.1 (Fm.tr (Fm.up Fm.rf rfl) (hf9 rfl).1)) (hf9 rfl).2)
    | true =>
      refine a_if_ne rfl (fun _ => ?_) (fun z => absurd (show (1 : Int32) = 0 from z) (by decide))
      rw [if_pos rfl]
      have D9 : Cf T e n0 b9 o9 (up2 J2 420 13 (nI 2)) J9 p9 := hz9 rfl
      obtain ⟨-, -, g5⟩ := g4
      have g5 : nx T e b < b9 ∧ o9.length + nx T e b ≤ o.length + b9 := g5 rfl
      have c9e := Cf.le D9
      refine a_l0 rfl rfl rfl ?_
      refine a_s rfl rfl ?_
      refine a_geti rfl gfX12_194_12 rfl ?_
      refine a_top (y := nI 2) (D9.2.1.trans up2_at) ?_
      refine a_s rfl rfl ?_
      refine a_s rfl rfl ?_
      refine a_top (y := nI 1) (rfl) ?_
      refine a_puti rfl pfX12_194_12 rfl ?_
      have C9 := Cf.deep C2 hd D9
      refine a_l0 rfl rfl rfl ?_
      refine a_s rfl rfl ?_
      refine a_s rfl rfl ?_
      refine a_eV0 rfl lX12_180 mo_X12_emits (r_X12_emits (Cf.st C9) (by omega)) rfl rfl rfl ⟨12, _, rfl, rfl, rfl⟩ rfl ?_
      refine a_s rfl rfl ?_
      exact a_zret rfl rfl rfl (QF.yes (Cf.em (z := 2003) C9 (by decide) (by decide)))
  | false =>
  refine a_if_eq rfl (fun _ => ?_) (fun z => absurd rfl z)
  rw [if_neg (by rw [c21]; decide)] at h2
  have C2 : Cf T e n0 b o I J2 b := Cf.rd C0 h2 (Cf.sk C0)
  rw [atomR_b c40 c21]
  refine a_l0 rfl rfl rfl ?_
  refine a_gV rfl lX12_205 mo_X12_readTag (h_readTag hw (Cf.tt C2 hT) (Cf.rf C2) hB) rfl rfl rfl ⟨12, _, rfl, rfl, rfl⟩ rfl (fun v' h' hv => ?_)
  obtain ⟨z3, x3, J3, p3, rfl, rfl, ht3, hf3⟩ := hv
  cases z3 with
  | true =>
    refine a_if_eq rfl (fun z => absurd z (by decide)) (fun _ => ?_)
    refine a_s rfl rfl ?_
    obtain ⟨hx, D3⟩ := ht3 rfl
    rcases hx with ⟨c22, rfl⟩ | ⟨c22, c23, rfl⟩
    · rw [show baseP T e b o = (true, nx T e b, 1007 :: o) from if_pos c22]
      exact a_zret rfl rfl rfl (QF.yes (Cf.cc C2 D3))
    · rw [show baseP T e b o = (true, nx T e b, 1008 :: o) from (if_neg (by rw [c22]; decide)).trans (if_pos c23)]
      exact a_zret rfl rfl rfl (QF.yes (Cf.cc C2 D3))
  | false =>
  refine a_if_eq rfl (fun _ => ?_) (fun z => absurd rfl z)
  obtain ⟨⟨c22, c23⟩, D3⟩ := hf3 rfl
  have C3 := Cf.cc C2 D3
  have g4 := sumP_gd (T := T) (o := o) hbe
  refine a_l0 rfl rfl rfl ?_
  refine a_gV rfl lX12_208 mo_X12_readSum (h_readSum hw hbt (Cf.tt C3 hT) (Cf.rf C3) hB) rfl rfl rfl ⟨12, _, rfl, rfl, rfl⟩ rfl (fun v' h' hv => ?_)
  obtain ⟨rfl, J4, p4, rfl, hz4, hf4⟩ := hv
  rcases hr4 : sumP T e b o with ⟨z4, b4, o4⟩
  rw [baseP_s c22 c23 hr4]
  rw [hr4] at hz4 hf4 g4
  cases z4 with
  | false =>
    refine a_if_ne rfl (fun z => absurd rfl z) (fun _ => ?_)
    refine a_s rfl rfl ?_
    rw [if_neg (by decide)]
    exact a_zret rfl rfl rfl (Cf.no C3 (hf4 rfl).1 (hf4 rfl).2)
  | true =>
  refine a_if_ne rfl (fun _ => ?_) (fun z => absurd (show (1 : Int32) = 0 from z) (by decide))
  rw [if_pos rfl]
  have C4 : Cf T e n0 b4 o4 I J4 p4 := Cf.cc C3 (hz4 rfl)
  obtain ⟨-, -, g4⟩ := g4
  have g4 : b < b4 ∧ o4.length + b ≤ o.length + b4 := g4 rfl
  have key : ∀ {z5 : Bool} {x : Int32} {p' : Nat} {J : Nat → Nat → Int32}, b4 < nx T e b4 → x = (if z5 = true then 2001 else 2002) → Cf T e n0 (nx T e b4) o4 I J p' → AW S m_X12_readAtom 35 (QF T e n0 (cmpP T e x (nx T e b4) o4) I L w1 w2 t) nX 0 0 152 [some (.ref 420), some (.int (bI z5))] [] (hp J L w1 w2 t) := by
    intro z5 x p' J n4 hx C
    have g6 := sumP_gd (T := T) (o := o4) (Cf.le C)
    refine a_l0 rfl rfl rfl ?_
    refine a_gV rfl lX12_208 mo_X12_readSum (h_readSum hw hbt (Cf.tt C hT) (Cf.rf C) (by omega)) rfl rfl rfl ⟨12, _, rfl, rfl, rfl⟩ rfl (fun v' h' hv => ?_)
    obtain ⟨rfl, J6, p6, rfl, hz6, hf6⟩ := hv
    rcases hr6 : sumP T e (nx T e b4) o4 with ⟨z6, b6, o6⟩
    rw [hr6] at hz6 hf6 g6
    cases z6 with
    | false =>
      refine a_if_ne rfl (fun z => absurd rfl z) (fun _ => ?_)
      refine a_s rfl rfl ?_
      rw [cmpP_f hr6]
      exact a_zret rfl rfl rfl (Cf.no C (hf6 rfl).1 (hf6 rfl).2)
    | true =>
      refine a_if_ne rfl (fun _ => ?_) (fun z => absurd (show (1 : Int32) = 0 from z) (by decide))
      rw [cmpP_t hr6]
      have C6 : Cf T e n0 b6 o6 I J6 p6 := Cf.cc C (hz6 rfl)
      have c6e := Cf.le C6
      obtain ⟨-, -, g6⟩ := g6
      have g6 : nx T e b4 < b6 ∧ o6.length + nx T e b4 ≤ o4.length + b6 := g6 rfl
      refine a_l0 rfl rfl rfl ?_
      refine a_l1 rfl rfl rfl ?_
      cases z5 with
      | false =>
        rw [if_neg (by decide)] at hx
        subst hx
        refine a_if_eq rfl (fun _ => ?_) (fun c => absurd rfl c)
        refine a_s rfl rfl ?_
        refine a_s rfl rfl ?_
        refine a_eV0 rfl lX12_180 mo_X12_emits (r_X12_emits (Cf.st C6) (by omega)) rfl rfl rfl ⟨12, _, rfl, rfl, rfl⟩ rfl ?_
        refine a_s rfl rfl ?_
        exact a_zret rfl rfl rfl (QF.yes (Cf.em (z := 2002) C6 (by decide) (by decide)))
      | true =>
        rw [if_pos rfl] at hx
        subst hx
        refine a_if_eq rfl (fun c => absurd c (by decide)) (fun _ => ?_)
        refine a_s rfl rfl ?_
        refine a_goto rfl ?_
        refine a_s rfl rfl ?_
        refine a_eV0 rfl lX12_180 mo_X12_emits (r_X12_emits (Cf.st C6) (by omega)) rfl rfl rfl ⟨12, _, rfl, rfl, rfl⟩ rfl ?_
        refine a_s rfl rfl ?_
        exact a_zret rfl rfl rfl (QF.yes (Cf.em (z := 2001) C6 (by decide) (by decide)))
  have eT4 := Cf.tt C4 hT
  refine a_l0 rfl rfl rfl ?_
  refine a_s rfl rfl ?_
  refine a_gV rfl lX12_187 mo_X12_sign (h_sign (b := b4) (c := 60) (by rw [eT4]; exact hbt) (by decide) (Cf.pp C4) (by rw [eT4]; exact Cf.nb C4)) rfl rfl rfl ⟨12, _, rfl, rfl, rfl⟩ rfl (fun v' h' hv => ?_)
  obtain ⟨rfl, J5, rfl, h5⟩ := hv
  rw [eT4] at h5 ⊢
  refine a_s1 rfl rfl rfl rfl rfl rfl ?_
  refine a_l1 rfl rfl rfl ?_
  cases c60 : sg T e b4 (nI 60) with
  | true =>
    have c60 : sg T e b4 60 = true := c60
    refine a_if_ne rfl (fun _ => ?_) (fun z => absurd (show (1 : Int32) = 0 from z) (by decide))
    rw [if_pos (show sg T e b4 (nI 60) = true from c60)] at h5
    rw [if_pos c60]
    exact key (z5 := true) (nx_lt (sg_lt c60)) rfl (Cf.rd C4 h5 rfl)
  | false =>
  have c60 : sg T e b4 60 = false := c60
  refine a_if_ne rfl (fun z => absurd rfl z) (fun _ => ?_)
  rw [if_neg (by rw [show sg T e b4 (nI 60) = false from c60]; decide)] at h5
  rw [if_neg (by rw [c60]; decide)]
  have C5 : Cf T e n0 b4 o4 I J5 b4 := Cf.rd C4 h5 (Cf.sk C4)
  have eT5 := Cf.tt C5 hT
  refine a_l0 rfl rfl rfl ?_
  refine a_s rfl rfl ?_
  refine a_gV rfl lX12_187 mo_X12_sign (h_sign (b := b4) (c := 62) (by rw [eT5]; exact hbt) (by decide) (Cf.pp C5) (by rw [eT5]; exact Cf.nb C5)) rfl rfl rfl ⟨12, _, rfl, rfl, rfl⟩ rfl (fun v' h' hv => ?_)
  obtain ⟨rfl, J7, rfl, h7⟩ := hv
  rw [eT5] at h7 ⊢
  cases c62 : sg T e b4 (nI 62) with
  | false =>
    have c62 : sg T e b4 62 = false := c62
    refine a_if_eq rfl (fun _ => ?_) (fun z => absurd rfl z)
    rw [if_neg (by rw [show sg T e b4 (nI 62) = false from c62]; decide)] at h7
    rw [if_neg (by rw [c62]; decide)]
    refine a_s rfl rfl ?_
    exact a_zret rfl rfl rfl (QF.no (Fm.tr C5.1 (Fm.mo (Rd.fm h7) sR_sY)) (Rd.be h7))
  | true =>
    have c62 : sg T e b4 62 = true := c62
    refine a_if_eq rfl (fun z => absurd z (by decide)) (fun _ => ?_)
    rw [if_pos (show sg T e b4 (nI 62) = true from c62)] at h7
    rw [if_pos c62]
    exact key (z5 := false) (nx_lt (sg_lt c62)) rfl (Cf.rd C5 h7 rfl)
theorem h_readAllOf_1 (hw : WdS S) (hbt : BtT T) (hT : I 426 = T) (hd : I 420 13 = nI 1) (h : Cf T e n0 b o I I p) (hB : o.length < b) : Sp S m_X12_readAllOf 36 0 0 [.ref 420] (hp I L w1 w2 t) (QF T e n0 (seqP T e (atomR T e 5) 20 2004 b o) I L w1 w2 t) nX := by
  have he4 := Cf.e4 h
  have g0 := atomR_gdo (T := T) (D := 5) (o := o) (Cf.le h)
  refine Sp_of ok_X12_readAllOf rfl rfl ?_
  show AW S m_X12_readAllOf 36 _ _ 0 0 0 [some (.ref 420)] [] (hp I L w1 w2 t)
  refine a_l0 rfl rfl rfl ?_
  refine a_gV rfl lX12_202 mo_X12_readAtom (h_readAtom_1 hw hbt hT hd h hB) rfl rfl rfl ⟨12, _, rfl, rfl, rfl⟩ rfl (fun v' h' hv => ?_)
  obtain ⟨rfl, J1, p1, rfl, hz1, hf1⟩ := hv
  rcases hr : (atomR T e 5) b o with ⟨z, b1, o1⟩
  rw [seqP_of hr]
  rw [hr] at hz1 hf1 g0
  cases z with
  | false =>
    refine a_if_ne rfl (fun z => absurd rfl z) (fun _ => ?_)
    refine a_s rfl rfl ?_
    rw [if_neg (by decide)]
    exact a_zret rfl rfl rfl (QF.no (hf1 rfl).1 (hf1 rfl).2)
  | true =>
  refine a_if_ne rfl (fun _ => ?_) (fun z => absurd (show (1 : Int32) = 0 from z) (by decide))
  rw [if_pos rfl]
  obtain ⟨-, -, g3⟩ := g0
  have g3 : b < b1 ∧ o1.length + b ≤ o.length + b1 := g3 rfl
  generalize hR : loopP T e (atomR T e 5) 20 2004 b1 o1 = R
  refine a_inv (n := e - b1) (fun m ls h => ls = [some (.ref 420)] ∧ ∃ J p' b' o', h = hp J L w1 w2 t ∧ Cf T e n0 b' o' I J p' ∧ o'.length < b' ∧ loopP T e (atomR T e 5) 20 2004 b' o' = R ∧ m = e - b') ⟨rfl, J1, p1, _, _, rfl, hz1 rfl, by show o1.length < b1; omega, hR, rfl⟩ ?_
  rintro m _ _ ⟨rfl, J, p', b', o', rfl, C, hB', es, hm⟩ ih
  have eT := Cf.tt C hT
  refine a_l0 rfl rfl rfl ?_
  refine a_ldcs (q := 130 + 20) rfl (hw.ld (i := 20) (by decide)) ?_
  refine a_gV rfl lX12_128 mo_X12_passes (h_passes (b := b') (k := 20) hw (by decide) (Cf.pp C) (by rw [eT]; exact Cf.nb C)) rfl rfl rfl ⟨12, _, rfl, rfl, rfl⟩ rfl (fun v' h' hv => ?_)
  obtain ⟨rfl, J2, rfl, h2⟩ := hv
  rw [eT] at h2 ⊢
  cases cw : isWd T e b' 20 with
  | false =>
    refine a_if_eq rfl (fun _ => ?_) (fun z => absurd rfl z)
    rw [if_neg (by rw [cw]; decide)] at h2
    refine a_s rfl rfl ?_
    rw [← es, loopP_f cw]
    exact a_zret rfl rfl rfl (QF.yes (Cf.rd C h2 (Cf.sk C)))
  | true =>
    refine a_if_eq rfl (fun z => absurd z (by decide)) (fun _ => ?_)
    rw [if_pos cw] at h2
    have n2 := nx_lt (T := T) (isWd_lt cw)
    have C2 : Cf T e n0 (nx T e b') o' I J2 (en T e b') := Cf.rd C h2 rfl
    have n2e := Cf.le C2
    have g4 := atomR_gdo (T := T) (D := 5) (o := o') n2e
    refine a_l0 rfl rfl rfl ?_
    refine a_gV rfl lX12_202 mo_X12_readAtom (h_readAtom_1 hw hbt (Cf.tt C2 hT) (Cf.d C2 hd) (Cf.rf C2) (by omega)) rfl rfl rfl ⟨12, _, rfl, rfl, rfl⟩ rfl (fun v' h' hv => ?_)
    obtain ⟨rfl, J3, p3, rfl, hz3, hf3⟩ := hv
    have el := fun g => loopP_t (op := 2004) (o := o') (item := atomR T e 5) cw g
    have en' := loopP_n (op := 2004) (o := o') (item := atomR T e 5) cw
    rcases hr2 : (atomR T e 5) (nx T e b') o' with ⟨z2, b2, o2⟩
    rw [hr2] at hz3 hf3 g4 el en'
    cases z2 with
    | false =>
      refine a_if_ne rfl (fun z => absurd rfl z) (fun _ => ?_)
      refine a_s rfl rfl ?_
      rw [← es, en' Bool.false_ne_true]
      exact a_zret rfl rfl rfl (Cf.no C2 (hf3 rfl).1 (hf3 rfl).2)
    | true =>
      refine a_if_ne rfl (fun _ => ?_) (fun z => absurd (show (1 : Int32) = 0 from z) (by decide))
      have C3 : Cf T e n0 b2 o2 I J3 p3 := Cf.cc C2 (hz3 rfl)
      have c3e := Cf.le C3
      obtain ⟨-, -, g5⟩ := g4
      have g5 : nx T e b' < b2 ∧ o2.length + nx T e b' ≤ o'.length + b2 := g5 rfl
      have es2 : loopP T e (atomR T e 5) 20 2004 b2 (2004 :: o2) = R := (el (by show b' < b2; omega) rfl).symm.trans es
      refine a_l0 rfl rfl rfl ?_
      refine a_s rfl rfl ?_
      refine a_s rfl rfl ?_
      refine a_eV0 rfl lX12_180 mo_X12_emits (r_X12_emits (Cf.st C3) (by omega)) rfl rfl rfl ⟨12, _, rfl, rfl, rfl⟩ rfl ?_
      refine a_goto rfl ?_
      exact ih (e - b2) _ _ (by omega) ⟨rfl, _, p3, b2, _, rfl, Cf.em (z := 2004) C3 (by decide) (by decide), by show o2.length + 1 < b2; omega, es2, rfl⟩
theorem h_readCond_1 (hw : WdS S) (hbt : BtT T) (hT : I 426 = T) (hd : I 420 13 = nI 1) (h : Cf T e n0 b o I I p) (hB : o.length < b) : Sp S m_X12_readCond 37 0 0 [.ref 420] (hp I L w1 w2 t) (QF T e n0 (seqP T e (seqP T e (atomR T e 5) 20 2004) 19 2005 b o) I L w1 w2 t) nX := by
  have he4 := Cf.e4 h
  have g0 := seqA_gd (T := T) (D := 5) (o := o) (Cf.le h)
  refine Sp_of ok_X12_readCond rfl rfl ?_
  show AW S m_X12_readCond 37 _ _ 0 0 0 [some (.ref 420)] [] (hp I L w1 w2 t)
  refine a_l0 rfl rfl rfl ?_
  refine a_gV rfl lX12_213 mo_X12_readAllOf (h_readAllOf_1 hw hbt hT hd h hB) rfl rfl rfl ⟨12, _, rfl, rfl, rfl⟩ rfl (fun v' h' hv => ?_)
  obtain ⟨rfl, J1, p1, rfl, hz1, hf1⟩ := hv
  rcases hr : (seqP T e (atomR T e 5) 20 2004) b o with ⟨z, b1, o1⟩
  rw [seqP_of hr]
  rw [hr] at hz1 hf1 g0
  cases z with
  | false =>
    refine a_if_ne rfl (fun z => absurd rfl z) (fun _ => ?_)
    refine a_s rfl rfl ?_
    rw [if_neg (by decide)]
    exact a_zret rfl rfl rfl (QF.no (hf1 rfl).1 (hf1 rfl).2)
  | true =>
  refine a_if_ne rfl (fun _ => ?_) (fun z => absurd (show (1 : Int32) = 0 from z) (by decide))
  rw [if_pos rfl]
  obtain ⟨-, -, g3⟩ := g0
  have g3 : b < b1 ∧ o1.length + b ≤ o.length + b1 := g3 rfl
  generalize hR : loopP T e (seqP T e (atomR T e 5) 20 2004) 19 2005 b1 o1 = R
  refine a_inv (n := e - b1) (fun m ls h => ls = [some (.ref 420)] ∧ ∃ J p' b' o', h = hp J L w1 w2 t ∧ Cf T e n0 b' o' I J p' ∧ o'.length < b' ∧ loopP T e (seqP T e (atomR T e 5) 20 2004) 19 2005 b' o' = R ∧ m = e - b') ⟨rfl, J1, p1, _, _, rfl, hz1 rfl, by show o1.length < b1; omega, hR, rfl⟩ ?_
  rintro m _ _ ⟨rfl, J, p', b', o', rfl, C, hB', es, hm⟩ ih
  have eT := Cf.tt C hT
  refine a_l0 rfl rfl rfl ?_
  refine a_ldcs (q := 130 + 19) rfl (hw.ld (i := 19) (by decide)) ?_
  refine a_gV rfl lX12_128 mo_X12_passes (h_passes (b := b') (k := 19) hw (by decide) (Cf.pp C) (by rw [eT]; exact Cf.nb C)) rfl rfl rfl ⟨12, _, rfl, rfl, rfl⟩ rfl (fun v' h' hv => ?_)
  obtain ⟨rfl, J2, rfl, h2⟩ := hv
  rw [eT] at h2 ⊢
  cases cw : isWd T e b' 19 with
  | false =>
    refine a_if_eq rfl (fun _ => ?_) (fun z => absurd rfl z)
    rw [if_neg (by rw [cw]; decide)] at h2
    refine a_s rfl rfl ?_
    rw [← es, loopP_f cw]
    exact a_zret rfl rfl rfl (QF.yes (Cf.rd C h2 (Cf.sk C)))
  | true =>
    refine a_if_eq rfl (fun z => absurd z (by decide)) (fun _ => ?_)
    rw [if_pos cw] at h2
    have n2 := nx_lt (T := T) (isWd_lt cw)
    have C2 : Cf T e n0 (nx T e b') o' I J2 (en T e b') := Cf.rd C h2 rfl
    have n2e := Cf.le C2
    have g4 := seqA_gd (T := T) (D := 5) (o := o') n2e
    refine a_l0 rfl rfl rfl ?_
    refine a_gV rfl lX12_213 mo_X12_readAllOf (h_readAllOf_1 hw hbt (Cf.tt C2 hT) (Cf.d C2 hd) (Cf.rf C2) (by omega)) rfl rfl rfl ⟨12, _, rfl, rfl, rfl⟩ rfl (fun v' h' hv => ?_)
    obtain ⟨rfl, J3, p3, rfl, hz3, hf3⟩ := hv
    have el := fun g => loopP_t (op := 2005) (o := o') (item := seqP T e (atomR T e 5) 20 2004) cw g
    have en' := loopP_n (op := 2005) (o := o') (item := seqP T e (atomR T e 5) 20 2004) cw
    rcases hr2 : (seqP T e (atomR T e 5) 20 2004) (nx T e b') o' with ⟨z2, b2, o2⟩
    rw [hr2] at hz3 hf3 g4 el en'
    cases z2 with
    | false =>
      refine a_if_ne rfl (fun z => absurd rfl z) (fun _ => ?_)
      refine a_s rfl rfl ?_
      rw [← es, en' Bool.false_ne_true]
      exact a_zret rfl rfl rfl (Cf.no C2 (hf3 rfl).1 (hf3 rfl).2)
    | true =>
      refine a_if_ne rfl (fun _ => ?_) (fun z => absurd (show (1 : Int32) = 0 from z) (by decide))
      have C3 : Cf T e n0 b2 o2 I J3 p3 := Cf.cc C2 (hz3 rfl)
      have c3e := Cf.le C3
      obtain ⟨-, -, g5⟩ := g4
      have g5 : nx T e b' < b2 ∧ o2.length + nx T e b' ≤ o'.length + b2 := g5 rfl
      have es2 : loopP T e (seqP T e (atomR T e 5) 20 2004) 19 2005 b2 (2005 :: o2) = R := (el (by show b' < b2; omega) rfl).symm.trans es
      refine a_l0 rfl rfl rfl ?_
      refine a_s rfl rfl ?_
      refine a_s rfl rfl ?_
      refine a_eV0 rfl lX12_180 mo_X12_emits (r_X12_emits (Cf.st C3) (by omega)) rfl rfl rfl ⟨12, _, rfl, rfl, rfl⟩ rfl ?_
      refine a_goto rfl ?_
      exact ih (e - b2) _ _ (by omega) ⟨rfl, _, p3, b2, _, rfl, Cf.em (z := 2005) C3 (by decide) (by decide), by show o2.length + 1 < b2; omega, es2, rfl⟩
theorem h_readAtom_0 (hw : WdS S) (hbt : BtT T) (hT : I 426 = T) (hd : I 420 13 = nI 0) (h : Cf T e n0 b o I I p) (hB : o.length < b) : Sp S m_X12_readAtom 38 0 0 [.ref 420] (hp I L w1 w2 t) (QF T e n0 (atomR T e 6 b o) I L w1 w2 t) nX := by
  have he4 := Cf.e4 h
  have hbe := Cf.le h
  refine Sp_of ok_X12_readAtom rfl rfl ?_
  show AW S m_X12_readAtom 38 _ _ 0 0 0 [some (.ref 420), none] [] (hp I L w1 w2 t)
  refine a_l0 rfl rfl rfl ?_
  refine a_s rfl rfl ?_
  refine a_gV rfl lX12_187 mo_X12_sign (h_sign (b := b) (c := 40) (by rw [hT]; exact hbt) (by decide) (Cf.pp h) (by rw [hT]; exact Cf.nb h)) rfl rfl rfl ⟨12, _, rfl, rfl, rfl⟩ rfl (fun v' h' hv => ?_)
  obtain ⟨rfl, J1, rfl, h1⟩ := hv
  rw [hT] at h1 ⊢
  cases c40 : sg T e b (nI 40) with
  | true =>
    have c40 : sg T e b 40 = true := c40
    refine a_if_eq rfl (fun z => absurd z (by decide)) (fun _ => ?_)
    rw [if_pos (show sg T e b (nI 40) = true from c40)] at h1
    have n1 := nx_lt (T := T) (sg_lt c40)
    have C1 : Cf T e n0 (nx T e b) o I J1 (en T e b) := Cf.rd h h1 rfl
    refine a_l0 rfl rfl rfl ?_
    refine a_geti rfl gfX12_194_12 rfl ?_
    refine a_top (y := nI 0) (Cf.d C1 hd) ?_
    refine a_s rfl rfl ?_
    refine a_ic_ne rfl (fun _ => ?_) (fun c => absurd c (by decide))
    refine a_l0 rfl rfl rfl ?_
    refine a_s rfl rfl ?_
    refine a_geti rfl gfX12_194_12 rfl ?_
    refine a_top (y := nI 0) (Cf.d C1 hd) ?_
    refine a_s rfl rfl ?_
    refine a_s rfl rfl ?_
    refine a_top (y := nI 1) (rfl) ?_
    refine a_puti rfl pfX12_194_12 rfl ?_
    refine a_l0 rfl rfl rfl ?_
    have g4 := cndP_gd (T := T) (fun b o h => atomR_gd (T := T) 5 b o h) (o := o) (Cf.le C1)
    refine a_gV rfl lX12_197 mo_X12_readCond (h_readCond_1 hw hbt ((up2_row (by decide)).trans (Cf.tt C1 hT)) up2_at (Cf.up13 C1) (by omega)) rfl rfl rfl ⟨12, _, rfl, rfl, rfl⟩ rfl (fun v' h' hv => ?_)
    obtain ⟨rfl, J9, p9, rfl, hz9, hf9⟩ := hv
    rw [show seqP T e (seqP T e (atomR T e 5) 20 2004) 19 2005 = cndP T e (atomR T e 5) from rfl] at hz9 hf9 ⊢
    rcases hr9 : cndP T e (atomR T e 5) (nx T e b) o with ⟨z9, b9, o9⟩
    rw [hr9] at hz9 hf9 g4
    rw [atomR_p c40 hr9]
    cases z9 with
    | false =>
      refine a_if_ne rfl (fun z => absurd rfl z) (fun _ => ?_)
      refine a_s rfl rfl ?_
      rw [if_neg (by decide)]
      exact a_zret rfl rfl rfl (QF.no (Fm.tr C1.1 (Fm.tr (Fm.up Fm.rf rfl) (hf9 rfl).1)) (hf9 rfl).2)
    | true =>
      refine a_if_ne rfl (fun _ => ?_) (fun z => absurd (show (1 : Int32) = 0 from z) (by decide))
      rw [if_pos rfl]
      have D9 : Cf T e n0 b9 o9 (up2 J1 420 13 (nI 1)) J9 p9 := hz9 rfl
      refine a_l0 rfl rfl rfl ?_
      refine a_s rfl rfl ?_
      refine a_geti rfl gfX12_194_12 rfl ?_
      refine a_top (y := nI 1) (D9.2.1.trans up2_at) ?_
      refine a_s rfl rfl ?_
      refine a_s rfl rfl ?_
      refine a_top (y := nI 0) (rfl) ?_
      refine a_puti rfl pfX12_194_12 rfl ?_
      have C9 := Cf.deep C1 hd D9
      have eT9 := Cf.tt C9 hT
      refine a_l0 rfl rfl rfl ?_
      refine a_s rfl rfl ?_
      refine a_gV rfl lX12_187 mo_X12_sign (h_sign (b := b9) (c := 41) (by rw [eT9]; exact hbt) (by decide) (Cf.pp C9) (by rw [eT9]; exact Cf.nb C9)) rfl rfl rfl ⟨12, _, rfl, rfl, rfl⟩ rfl (fun v' h' hv => ?_)
      obtain ⟨rfl, J3, rfl, h3⟩ := hv
      rw [eT9] at h3 ⊢
      cases c41 : sg T e b9 (nI 41) with
      | false =>
        have c41 : sg T e b9 41 = false := c41
        rw [if_neg (by rw [show sg T e b9 (nI 41) = false from c41]; decide)] at h3
        rw [if_neg (by rw [c41]; decide)]
        exact a_zret rfl rfl rfl (QF.no (Fm.tr C9.1 (Fm.mo (Rd.fm h3) sR_sY)) (Rd.be h3))
      | true =>
        have c41 : sg T e b9 41 = true := c41
        rw [if_pos (show sg T e b9 (nI 41) = true from c41)] at h3
        rw [if_pos c41]
        exact a_zret rfl rfl rfl (QF.yes (Cf.rd C9 h3 rfl))
  | false =>
  have c40 : sg T e b 40 = false := c40
  refine a_if_eq rfl (fun _ => ?_) (fun z => absurd rfl z)
  rw [if_neg (by rw [show sg T e b (nI 40) = false from c40]; decide)] at h1
  have C0 : Cf T e n0 b o I J1 b := Cf.rd h h1 (Cf.sk h)
  have eT0 := Cf.tt C0 hT
  refine a_l0 rfl rfl rfl ?_
  refine a_ldcs (q := 130 + 21) rfl (hw.ld (i := 21) (by decide)) ?_
  refine a_gV rfl lX12_128 mo_X12_passes (h_passes (b := b) (k := 21) hw (by decide) (Cf.pp C0) (by rw [eT0]; exact Cf.nb C0)) rfl rfl rfl ⟨12, _, rfl, rfl, rfl⟩ rfl (fun v' h' hv => ?_)
  obtain ⟨rfl, J2, rfl, h2⟩ := hv
  rw [eT0] at h2 ⊢
  cases c21 : isWd T e b 21 with
  | true =>
    refine a_if_eq rfl (fun z => absurd z (by decide)) (fun _ => ?_)
    rw [if_pos c21] at h2
    have n1 := nx_lt (T := T) (isWd_lt c21)
    have C2 : Cf T e n0 (nx T e b) o I J2 (en T e b) := Cf.rd C0 h2 rfl
    refine a_l0 rfl rfl rfl ?_
    refine a_geti rfl gfX12_194_12 rfl ?_
    refine a_top (y := nI 0) (Cf.d C2 hd) ?_
    refine a_s rfl rfl ?_
    refine a_ic_ne rfl (fun _ => ?_) (fun c => absurd c (by decide))
    refine a_l0 rfl rfl rfl ?_
    refine a_s rfl rfl ?_
    refine a_geti rfl gfX12_194_12 rfl ?_
    refine a_top (y := nI 0) (Cf.d C2 hd) ?_
    refine a_s rfl rfl ?_
    refine a_s rfl rfl ?_
    refine a_top (y := nI 1) (rfl) ?_
    refine a_puti rfl pfX12_194_12 rfl ?_
    refine a_l0 rfl rfl rfl ?_
    have g4 := atomR_gdo (T := T) (D := 5) (o := o) (Cf.le C2)
    refine a_gV rfl lX12_202 mo_X12_readAtom (h_readAtom_1 hw hbt ((up2_row (by decide)).trans (Cf.tt C2 hT)) up2_at (Cf.up13 C2) (by omega)) rfl rfl rfl ⟨12, _, rfl, rfl, rfl⟩ rfl (fun v' h' hv => ?_)
    obtain ⟨rfl, J9, p9, rfl, hz9, hf9⟩ := hv
    rcases hr9 : atomR T e 5 (nx T e b) o with ⟨z9, b9, o9⟩
    rw [hr9] at hz9 hf9 g4
    rw [atomR_n c40 c21 hr9]
    cases z9 with
    | false =>
      refine a_if_ne rfl (fun z => absurd rfl z) (fun _ => ?_)
      refine a_s rfl rfl ?_
      rw [if_neg (by decide)]
      exact a_zret rfl rfl rfl (QF.no (Fm.tr C2.1 (Fm.tr (Fm.up Fm.rf rfl) (hf9 rfl).1)) (hf9 rfl).2)
    | true =>
      refine a_if_ne rfl (fun _ => ?_) (fun z => absurd (show (1 : Int32) = 0 from z) (by decide))
      rw [if_pos rfl]
      have D9 : Cf T e n0 b9 o9 (up2 J2 420 13 (nI 1)) J9 p9 := hz9 rfl
      obtain ⟨-, -, g5⟩ := g4
      have g5 : nx T e b < b9 ∧ o9.length + nx T e b ≤ o.length + b9 := g5 rfl
      have c9e := Cf.le D9
      refine a_l0 rfl rfl rfl ?_
      refine a_s rfl rfl ?_
      refine a_geti rfl gfX12_194_12 rfl ?_
      refine a_top (y := nI 1) (D9.2.1.trans up2_at) ?_
      refine a_s rfl rfl ?_
      refine a_s rfl rfl ?_
      refine a_top (y := nI 0) (rfl) ?_
      refine a_puti rfl pfX12_194_12 rfl ?_
      have C9 := Cf.deep C2 hd D9
      refine a_l0 rfl rfl rfl ?_
      refine a_s rfl rfl ?_
      refine a_s rfl rfl ?_
      refine a_eV0 rfl lX12_180 mo_X12_emits (r_X12_emits (Cf.st C9) (by omega)) rfl rfl rfl ⟨12, _, rfl, rfl, rfl⟩ rfl ?_
      refine a_s rfl rfl ?_
      exact a_zret rfl rfl rfl (QF.yes (Cf.em (z := 2003) C9 (by decide) (by decide)))
  | false =>
  refine a_if_eq rfl (fun _ => ?_) (fun z => absurd rfl z)
  rw [if_neg (by rw [c21]; decide)] at h2
  have C2 : Cf T e n0 b o I J2 b := Cf.rd C0 h2 (Cf.sk C0)
  rw [atomR_b c40 c21]
  refine a_l0 rfl rfl rfl ?_
  refine a_gV rfl lX12_205 mo_X12_readTag (h_readTag hw (Cf.tt C2 hT) (Cf.rf C2) hB) rfl rfl rfl ⟨12, _, rfl, rfl, rfl⟩ rfl (fun v' h' hv => ?_)
  obtain ⟨z3, x3, J3, p3, rfl, rfl, ht3, hf3⟩ := hv
  cases z3 with
  | true =>
    refine a_if_eq rfl (fun z => absurd z (by decide)) (fun _ => ?_)
    refine a_s rfl rfl ?_
    obtain ⟨hx, D3⟩ := ht3 rfl
    rcases hx with ⟨c22, rfl⟩ | ⟨c22, c23, rfl⟩
    · rw [show baseP T e b o = (true, nx T e b, 1007 :: o) from if_pos c22]
      exact a_zret rfl rfl rfl (QF.yes (Cf.cc C2 D3))
    · rw [show baseP T e b o = (true, nx T e b, 1008 :: o) from (if_neg (by rw [c22]; decide)).trans (if_pos c23)]
      exact a_zret rfl rfl rfl (QF.yes (Cf.cc C2 D3))
  | false =>
  refine a_if_eq rfl (fun _ => ?_) (fun z => absurd rfl z)
  obtain ⟨⟨c22, c23⟩, D3⟩ := hf3 rfl
  have C3 := Cf.cc C2 D3
  have g4 := sumP_gd (T := T) (o := o) hbe
  refine a_l0 rfl rfl rfl ?_
  refine a_gV rfl lX12_208 mo_X12_readSum (h_readSum hw hbt (Cf.tt C3 hT) (Cf.rf C3) hB) rfl rfl rfl ⟨12, _, rfl, rfl, rfl⟩ rfl (fun v' h' hv => ?_)
  obtain ⟨rfl, J4, p4, rfl, hz4, hf4⟩ := hv
  rcases hr4 : sumP T e b o with ⟨z4, b4, o4⟩
  rw [baseP_s c22 c23 hr4]
  rw [hr4] at hz4 hf4 g4
  cases z4 with
  | false =>
    refine a_if_ne rfl (fun z => absurd rfl z) (fun _ => ?_)
    refine a_s rfl rfl ?_
    rw [if_neg (by decide)]
    exact a_zret rfl rfl rfl (Cf.no C3 (hf4 rfl).1 (hf4 rfl).2)
  | true =>
  refine a_if_ne rfl (fun _ => ?_) (fun z => absurd (show (1 : Int32) = 0 from z) (by decide))
  rw [if_pos rfl]
  have C4 : Cf T e n0 b4 o4 I J4 p4 := Cf.cc C3 (hz4 rfl)
  obtain ⟨-, -, g4⟩ := g4
  have g4 : b < b4 ∧ o4.length + b ≤ o.length + b4 := g4 rfl
  have key : ∀ {z5 : Bool} {x : Int32} {p' : Nat} {J : Nat → Nat → Int32}, b4 < nx T e b4 → x = (if z5 = true then 2001 else 2002) → Cf T e n0 (nx T e b4) o4 I J p' → AW S m_X12_readAtom 38 (QF T e n0 (cmpP T e x (nx T e b4) o4) I L w1 w2 t) nX 0 0 152 [some (.ref 420), some (.int (bI z5))] [] (hp J L w1 w2 t) := by
    intro z5 x p' J n4 hx C
    have g6 := sumP_gd (T := T) (o := o4) (Cf.le C)
    refine a_l0 rfl rfl rfl ?_
    refine a_gV rfl lX12_208 mo_X12_readSum (h_readSum hw hbt (Cf.tt C hT) (Cf.rf C) (by omega)) rfl rfl rfl ⟨12, _, rfl, rfl, rfl⟩ rfl (fun v' h' hv => ?_)
    obtain ⟨rfl, J6, p6, rfl, hz6, hf6⟩ := hv
    rcases hr6 : sumP T e (nx T e b4) o4 with ⟨z6, b6, o6⟩
    rw [hr6] at hz6 hf6 g6
    cases z6 with
    | false =>
      refine a_if_ne rfl (fun z => absurd rfl z) (fun _ => ?_)
      refine a_s rfl rfl ?_
      rw [cmpP_f hr6]
      exact a_zret rfl rfl rfl (Cf.no C (hf6 rfl).1 (hf6 rfl).2)
    | true =>
      refine a_if_ne rfl (fun _ => ?_) (fun z => absurd (show (1 : Int32) = 0 from z) (by decide))
      rw [cmpP_t hr6]
      have C6 : Cf T e n0 b6 o6 I J6 p6 := Cf.cc C (hz6 rfl)
      have c6e := Cf.le C6
      obtain ⟨-, -, g6⟩ := g6
      have g6 : nx T e b4 < b6 ∧ o6.length + nx T e b4 ≤ o4.length + b6 := g6 rfl
      refine a_l0 rfl rfl rfl ?_
      refine a_l1 rfl rfl rfl ?_
      cases z5 with
      | false =>
        rw [if_neg (by decide)] at hx
        subst hx
        refine a_if_eq rfl (fun _ => ?_) (fun c => absurd rfl c)
        refine a_s rfl rfl ?_
        refine a_s rfl rfl ?_
        refine a_eV0 rfl lX12_180 mo_X12_emits (r_X12_emits (Cf.st C6) (by omega)) rfl rfl rfl ⟨12, _, rfl, rfl, rfl⟩ rfl ?_
        refine a_s rfl rfl ?_
        exact a_zret rfl rfl rfl (QF.yes (Cf.em (z := 2002) C6 (by decide) (by decide)))
      | true =>
        rw [if_pos rfl] at hx
        subst hx
        refine a_if_eq rfl (fun c => absurd c (by decide)) (fun _ => ?_)
        refine a_s rfl rfl ?_
        refine a_goto rfl ?_
        refine a_s rfl rfl ?_
        refine a_eV0 rfl lX12_180 mo_X12_emits (r_X12_emits (Cf.st C6) (by omega)) rfl rfl rfl ⟨12, _, rfl, rfl, rfl⟩ rfl ?_
        refine a_s rfl rfl ?_
        exact a_zret rfl rfl rfl (QF.yes (Cf.em (z := 2001) C6 (by decide) (by decide)))
  have eT4 := Cf.tt C4 hT
  refine a_l0 rfl rfl rfl ?_
  refine a_s rfl rfl ?_
  refine a_gV rfl lX12_187 mo_X12_sign (h_sign (b := b4) (c := 60) (by rw [eT4]; exact hbt) (by decide) (Cf.pp C4) (by rw [eT4]; exact Cf.nb C4)) rfl rfl rfl ⟨12, _, rfl, rfl, rfl⟩ rfl (fun v' h' hv => ?_)
  obtain ⟨rfl, J5, rfl, h5⟩ := hv
  rw [eT4] at h5 ⊢
  refine a_s1 rfl rfl rfl rfl rfl rfl ?_
  refine a_l1 rfl rfl rfl ?_
  cases c60 : sg T e b4 (nI 60) with
  | true =>
    have c60 : sg T e b4 60 = true := c60
    refine a_if_ne rfl (fun _ => ?_) (fun z => absurd (show (1 : Int32) = 0 from z) (by decide))
    rw [if_pos (show sg T e b4 (nI 60) = true from c60)] at h5
    rw [if_pos c60]
    exact key (z5 := true) (nx_lt (sg_lt c60)) rfl (Cf.rd C4 h5 rfl)
  | false =>
  have c60 : sg T e b4 60 = false := c60
  refine a_if_ne rfl (fun z => absurd rfl z) (fun _ => ?_)
  rw [if_neg (by rw [show sg T e b4 (nI 60) = false from c60]; decide)] at h5
  rw [if_neg (by rw [c60]; decide)]
  have C5 : Cf T e n0 b4 o4 I J5 b4 := Cf.rd C4 h5 (Cf.sk C4)
  have eT5 := Cf.tt C5 hT
  refine a_l0 rfl rfl rfl ?_
  refine a_s rfl rfl ?_
  refine a_gV rfl lX12_187 mo_X12_sign (h_sign (b := b4) (c := 62) (by rw [eT5]; exact hbt) (by decide) (Cf.pp C5) (by rw [eT5]; exact Cf.nb C5)) rfl rfl rfl ⟨12, _, rfl, rfl, rfl⟩ rfl (fun v' h' hv => ?_)
  obtain ⟨rfl, J7, rfl, h7⟩ := hv
  rw [eT5] at h7 ⊢
  cases c62 : sg T e b4 (nI 62) with
  | false =>
    have c62 : sg T e b4 62 = false := c62
    refine a_if_eq rfl (fun _ => ?_) (fun z => absurd rfl z)
    rw [if_neg (by rw [show sg T e b4 (nI 62) = false from c62]; decide)] at h7
    rw [if_neg (by rw [c62]; decide)]
    refine a_s rfl rfl ?_
    exact a_zret rfl rfl rfl (QF.no (Fm.tr C5.1 (Fm.mo (Rd.fm h7) sR_sY)) (Rd.be h7))
  | true =>
    have c62 : sg T e b4 62 = true := c62
    refine a_if_eq rfl (fun z => absurd z (by decide)) (fun _ => ?_)
    rw [if_pos (show sg T e b4 (nI 62) = true from c62)] at h7
    rw [if_pos c62]
    exact key (z5 := false) (nx_lt (sg_lt c62)) rfl (Cf.rd C5 h7 rfl)
theorem h_readAllOf_0 (hw : WdS S) (hbt : BtT T) (hT : I 426 = T) (hd : I 420 13 = nI 0) (h : Cf T e n0 b o I I p) (hB : o.length < b) : Sp S m_X12_readAllOf 39 0 0 [.ref 420] (hp I L w1 w2 t) (QF T e n0 (seqP T e (atomR T e 6) 20 2004 b o) I L w1 w2 t) nX := by
  have he4 := Cf.e4 h
  have g0 := atomR_gdo (T := T) (D := 6) (o := o) (Cf.le h)
  refine Sp_of ok_X12_readAllOf rfl rfl ?_
  show AW S m_X12_readAllOf 39 _ _ 0 0 0 [some (.ref 420)] [] (hp I L w1 w2 t)
  refine a_l0 rfl rfl rfl ?_
  refine a_gV rfl lX12_202 mo_X12_readAtom (h_readAtom_0 hw hbt hT hd h hB) rfl rfl rfl ⟨12, _, rfl, rfl, rfl⟩ rfl (fun v' h' hv => ?_)
  obtain ⟨rfl, J1, p1, rfl, hz1, hf1⟩ := hv
  rcases hr : (atomR T e 6) b o with ⟨z, b1, o1⟩
  rw [seqP_of hr]
  rw [hr] at hz1 hf1 g0
  cases z with
  | false =>
    refine a_if_ne rfl (fun z => absurd rfl z) (fun _ => ?_)
    refine a_s rfl rfl ?_
    rw [if_neg (by decide)]
    exact a_zret rfl rfl rfl (QF.no (hf1 rfl).1 (hf1 rfl).2)
  | true =>
  refine a_if_ne rfl (fun _ => ?_) (fun z => absurd (show (1 : Int32) = 0 from z) (by decide))
  rw [if_pos rfl]
  obtain ⟨-, -, g3⟩ := g0
  have g3 : b < b1 ∧ o1.length + b ≤ o.length + b1 := g3 rfl
  generalize hR : loopP T e (atomR T e 6) 20 2004 b1 o1 = R
  refine a_inv (n := e - b1) (fun m ls h => ls = [some (.ref 420)] ∧ ∃ J p' b' o', h = hp J L w1 w2 t ∧ Cf T e n0 b' o' I J p' ∧ o'.length < b' ∧ loopP T e (atomR T e 6) 20 2004 b' o' = R ∧ m = e - b') ⟨rfl, J1, p1, _, _, rfl, hz1 rfl, by show o1.length < b1; omega, hR, rfl⟩ ?_
  rintro m _ _ ⟨rfl, J, p', b', o', rfl, C, hB', es, hm⟩ ih
  have eT := Cf.tt C hT
  refine a_l0 rfl rfl rfl ?_
  refine a_ldcs (q := 130 + 20) rfl (hw.ld (i := 20) (by decide)) ?_
  refine a_gV rfl lX12_128 mo_X12_passes (h_passes (b := b') (k := 20) hw (by decide) (Cf.pp C) (by rw [eT]; exact Cf.nb C)) rfl rfl rfl ⟨12, _, rfl, rfl, rfl⟩ rfl (fun v' h' hv => ?_)
  obtain ⟨rfl, J2, rfl, h2⟩ := hv
  rw [eT] at h2 ⊢
  cases cw : isWd T e b' 20 with
  | false =>
    refine a_if_eq rfl (fun _ => ?_) (fun z => absurd rfl z)
    rw [if_neg (by rw [cw]; decide)] at h2
    refine a_s rfl rfl ?_
    rw [← es, loopP_f cw]
    exact a_zret rfl rfl rfl (QF.yes (Cf.rd C h2 (Cf.sk C)))
  | true =>
    refine a_if_eq rfl (fun z => absurd z (by decide)) (fun _ => ?_)
    rw [if_pos cw] at h2
    have n2 := nx_lt (T := T) (isWd_lt cw)
    have C2 : Cf T e n0 (nx T e b') o' I J2 (en T e b') := Cf.rd C h2 rfl
    have n2e := Cf.le C2
    have g4 := atomR_gdo (T := T) (D := 6) (o := o') n2e
    refine a_l0 rfl rfl rfl ?_
    refine a_gV rfl lX12_202 mo_X12_readAtom (h_readAtom_0 hw hbt (Cf.tt C2 hT) (Cf.d C2 hd) (Cf.rf C2) (by omega)) rfl rfl rfl ⟨12, _, rfl, rfl, rfl⟩ rfl (fun v' h' hv => ?_)
    obtain ⟨rfl, J3, p3, rfl, hz3, hf3⟩ := hv
    have el := fun g => loopP_t (op := 2004) (o := o') (item := atomR T e 6) cw g
    have en' := loopP_n (op := 2004) (o := o') (item := atomR T e 6) cw
    rcases hr2 : (atomR T e 6) (nx T e b') o' with ⟨z2, b2, o2⟩
    rw [hr2] at hz3 hf3 g4 el en'
    cases z2 with
    | false =>
      refine a_if_ne rfl (fun z => absurd rfl z) (fun _ => ?_)
      refine a_s rfl rfl ?_
      rw [← es, en' Bool.false_ne_true]
      exact a_zret rfl rfl rfl (Cf.no C2 (hf3 rfl).1 (hf3 rfl).2)
    | true =>
      refine a_if_ne rfl (fun _ => ?_) (fun z => absurd (show (1 : Int32) = 0 from z) (by decide))
      have C3 : Cf T e n0 b2 o2 I J3 p3 := Cf.cc C2 (hz3 rfl)
      have c3e := Cf.le C3
      obtain ⟨-, -, g5⟩ := g4
      have g5 : nx T e b' < b2 ∧ o2.length + nx T e b' ≤ o'.length + b2 := g5 rfl
      have es2 : loopP T e (atomR T e 6) 20 2004 b2 (2004 :: o2) = R := (el (by show b' < b2; omega) rfl).symm.trans es
      refine a_l0 rfl rfl rfl ?_
      refine a_s rfl rfl ?_
      refine a_s rfl rfl ?_
      refine a_eV0 rfl lX12_180 mo_X12_emits (r_X12_emits (Cf.st C3) (by omega)) rfl rfl rfl ⟨12, _, rfl, rfl, rfl⟩ rfl ?_
      refine a_goto rfl ?_
      exact ih (e - b2) _ _ (by omega) ⟨rfl, _, p3, b2, _, rfl, Cf.em (z := 2004) C3 (by decide) (by decide), by show o2.length + 1 < b2; omega, es2, rfl⟩
theorem h_readCond_0 (hw : WdS S) (hbt : BtT T) (hT : I 426 = T) (hd : I 420 13 = nI 0) (h : Cf T e n0 b o I I p) (hB : o.length < b) : Sp S m_X12_readCond 40 0 0 [.ref 420] (hp I L w1 w2 t) (QF T e n0 (seqP T e (seqP T e (atomR T e 6) 20 2004) 19 2005 b o) I L w1 w2 t) nX := by
  have he4 := Cf.e4 h
  have g0 := seqA_gd (T := T) (D := 6) (o := o) (Cf.le h)
  refine Sp_of ok_X12_readCond rfl rfl ?_
  show AW S m_X12_readCond 40 _ _ 0 0 0 [some (.ref 420)] [] (hp I L w1 w2 t)
  refine a_l0 rfl rfl rfl ?_
  refine a_gV rfl lX12_213 mo_X12_readAllOf (h_readAllOf_0 hw hbt hT hd h hB) rfl rfl rfl ⟨12, _, rfl, rfl, rfl⟩ rfl (fun v' h' hv => ?_)
  obtain ⟨rfl, J1, p1, rfl, hz1, hf1⟩ := hv
  rcases hr : (seqP T e (atomR T e 6) 20 2004) b o with ⟨z, b1, o1⟩
  rw [seqP_of hr]
  rw [hr] at hz1 hf1 g0
  cases z with
  | false =>
    refine a_if_ne rfl (fun z => absurd rfl z) (fun _ => ?_)
    refine a_s rfl rfl ?_
    rw [if_neg (by decide)]
    exact a_zret rfl rfl rfl (QF.no (hf1 rfl).1 (hf1 rfl).2)
  | true =>
  refine a_if_ne rfl (fun _ => ?_) (fun z => absurd (show (1 : Int32) = 0 from z) (by decide))
  rw [if_pos rfl]
  obtain ⟨-, -, g3⟩ := g0
  have g3 : b < b1 ∧ o1.length + b ≤ o.length + b1 := g3 rfl
  generalize hR : loopP T e (seqP T e (atomR T e 6) 20 2004) 19 2005 b1 o1 = R
  refine a_inv (n := e - b1) (fun m ls h => ls = [some (.ref 420)] ∧ ∃ J p' b' o', h = hp J L w1 w2 t ∧ Cf T e n0 b' o' I J p' ∧ o'.length < b' ∧ loopP T e (seqP T e (atomR T e 6) 20 2004) 19 2005 b' o' = R ∧ m = e - b') ⟨rfl, J1, p1, _, _, rfl, hz1 rfl, by show o1.length < b1; omega, hR, rfl⟩ ?_
  rintro m _ _ ⟨rfl, J, p', b', o', rfl, C, hB', es, hm⟩ ih
  have eT := Cf.tt C hT
  refine a_l0 rfl rfl rfl ?_
  refine a_ldcs (q := 130 + 19) rfl (hw.ld (i := 19) (by decide)) ?_
  refine a_gV rfl lX12_128 mo_X12_passes (h_passes (b := b') (k := 19) hw (by decide) (Cf.pp C) (by rw [eT]; exact Cf.nb C)) rfl rfl rfl ⟨12, _, rfl, rfl, rfl⟩ rfl (fun v' h' hv => ?_)
  obtain ⟨rfl, J2, rfl, h2⟩ := hv
  rw [eT] at h2 ⊢
  cases cw : isWd T e b' 19 with
  | false =>
    refine a_if_eq rfl (fun _ => ?_) (fun z => absurd rfl z)
    rw [if_neg (by rw [cw]; decide)] at h2
    refine a_s rfl rfl ?_
    rw [← es, loopP_f cw]
    exact a_zret rfl rfl rfl (QF.yes (Cf.rd C h2 (Cf.sk C)))
  | true =>
    refine a_if_eq rfl (fun z => absurd z (by decide)) (fun _ => ?_)
    rw [if_pos cw] at h2
    have n2 := nx_lt (T := T) (isWd_lt cw)
    have C2 : Cf T e n0 (nx T e b') o' I J2 (en T e b') := Cf.rd C h2 rfl
    have n2e := Cf.le C2
    have g4 := seqA_gd (T := T) (D := 6) (o := o') n2e
    refine a_l0 rfl rfl rfl ?_
    refine a_gV rfl lX12_213 mo_X12_readAllOf (h_readAllOf_0 hw hbt (Cf.tt C2 hT) (Cf.d C2 hd) (Cf.rf C2) (by omega)) rfl rfl rfl ⟨12, _, rfl, rfl, rfl⟩ rfl (fun v' h' hv => ?_)
    obtain ⟨rfl, J3, p3, rfl, hz3, hf3⟩ := hv
    have el := fun g => loopP_t (op := 2005) (o := o') (item := seqP T e (atomR T e 6) 20 2004) cw g
    have en' := loopP_n (op := 2005) (o := o') (item := seqP T e (atomR T e 6) 20 2004) cw
    rcases hr2 : (seqP T e (atomR T e 6) 20 2004) (nx T e b') o' with ⟨z2, b2, o2⟩
    rw [hr2] at hz3 hf3 g4 el en'
    cases z2 with
    | false =>
      refine a_if_ne rfl (fun z => absurd rfl z) (fun _ => ?_)
      refine a_s rfl rfl ?_
      rw [← es, en' Bool.false_ne_true]
      exact a_zret rfl rfl rfl (Cf.no C2 (hf3 rfl).1 (hf3 rfl).2)
    | true =>
      refine a_if_ne rfl (fun _ => ?_) (fun z => absurd (show (1 : Int32) = 0 from z) (by decide))
      have C3 : Cf T e n0 b2 o2 I J3 p3 := Cf.cc C2 (hz3 rfl)
      have c3e := Cf.le C3
      obtain ⟨-, -, g5⟩ := g4
      have g5 : nx T e b' < b2 ∧ o2.length + nx T e b' ≤ o'.length + b2 := g5 rfl
      have es2 : loopP T e (seqP T e (atomR T e 6) 20 2004) 19 2005 b2 (2005 :: o2) = R := (el (by show b' < b2; omega) rfl).symm.trans es
      refine a_l0 rfl rfl rfl ?_
      refine a_s rfl rfl ?_
      refine a_s rfl rfl ?_
      refine a_eV0 rfl lX12_180 mo_X12_emits (r_X12_emits (Cf.st C3) (by omega)) rfl rfl rfl ⟨12, _, rfl, rfl, rfl⟩ rfl ?_
      refine a_goto rfl ?_
      exact ih (e - b2) _ _ (by omega) ⟨rfl, _, p3, b2, _, rfl, Cf.em (z := 2005) C3 (by decide) (by decide), by show o2.length + 1 < b2; omega, es2, rfl⟩
end T79h
end
section
/-! ===== the reference: a law's line, all lines, a law, as functions ===== -/
section T79i
variable {S : aS} {I : Nat → Nat → Int32} {L : Nat → Nat → Int64} {w1 w2 t : Nat} {e p b n0 nd np : Nat} {T : Nat → Int32} {o : List Int32} {ls : List LnT}
set_option maxRecDepth 100000
/-- lines of the draft, the latest first -/
def LnW (W : Nat → Int32) : List LnT → Prop
  | [] => True
  | x :: r => (W (1185 + 4 * r.length) = x.1 ∧ W (1185 + 4 * r.length + 1) = x.2.1 ∧ W (1185 + 4 * r.length + 2) = nI x.2.2.1 ∧ W (1185 + 4 * r.length + 3) = nI x.2.2.2) ∧ LnW W r
theorem LnW.eq {W W' : Nat → Int32} : ∀ {r : List LnT}, LnW W r → (∀ k, 1185 ≤ k → k < 1185 + 4 * r.length → W' k = W k) → LnW W' r := by
  intro r
  induction r with
  | nil => exact fun _ _ => trivial
  | cons x r ih =>
    intro h f
    have f : ∀ k, 1185 ≤ k → k < 1185 + 4 * (r.length + 1) → W' k = W k := f
    obtain ⟨⟨h1, h2, h3, h4⟩, h5⟩ := h
    exact ⟨⟨(f _ (by omega) (by omega)).trans h1, (f _ (by omega) (by omega)).trans h2, (f _ (by omega) (by omega)).trans h3, (f _ (by omega) (by omega)).trans h4⟩, ih h5 fun k g1 g2 => f k g1 (by omega)⟩
theorem LnW.at {W : Nat → Int32} : ∀ {r : List LnT}, LnW W r → ∀ i, i < r.length → W (1185 + 4 * i) = (lnAt r i).1 ∧ W (1185 + 4 * i + 1) = (lnAt r i).2.1 ∧ W (1185 + 4 * i + 2) = nI (lnAt r i).2.2.1 ∧ W (1185 + 4 * i + 3) = nI (lnAt r i).2.2.2 := by
  intro r
  induction r with
  | nil => exact fun _ i hi => absurd hi (Nat.not_lt_zero _)
  | cons x r ih =>
    intro h i hi
    have hi : i < r.length + 1 := hi
    by_cases c : i = r.length
    · rw [show lnAt (x :: r) i = x from if_pos c, c]
      exact h.1
    · rw [show lnAt (x :: r) i = lnAt r i from if_neg c]
      exact ih h.2 i (by omega)
theorem RowS.at {W : Nat → Int32} : ∀ {r : List Int32}, RowS W r → ∀ i, i < r.length → W (1233 + 2 * i) = stF (cdL r i) ∧ W (1233 + 2 * i + 1) = snF (cdL r i) := by
  intro r
  induction r with
  | nil => exact fun _ i hi => absurd hi (Nat.not_lt_zero _)
  | cons x r ih =>
    intro h i hi
    have hi : i < r.length + 1 := hi
    by_cases c : i = r.length
    · rw [show cdL (x :: r) i = x from if_pos c, c]
      exact h.1
    · rw [show cdL (x :: r) i = cdL r i from if_neg c]
      exact ih h.2 i (by omega)
theorem LD_of {W : Nat → Int32} (h1 : RowS W o) (h2 : LnW W ls) (h3 : LsOk o ls) : LD ls.length o.length W := by
  obtain ⟨g1, g2⟩ := h3
  have hc : ∀ i, i < o.length → ∃ k m, k ≤ 15 ∧ m < 1000 ∧ W (1233 + 2 * i) = nI k ∧ W (1233 + 2 * i + 1) = nI m ∧ cdN o i = trN k m := fun i hi => by
    obtain ⟨k, m, a1, a2, a3, a4, a5, -⟩ := okC_st (cdL_ok g1 i hi)
    obtain ⟨r1, r2⟩ := RowS.at h1 i hi
    exact ⟨k, m, a1, a2, r1.trans a3, r2.trans a4, a5⟩
  refine ⟨fun i hi => ?_, fun i hi => ?_⟩
  · obtain ⟨k, m, a1, a2, a3, a4, -⟩ := hc i hi
    exact ⟨k, m, a1, a2, a3, a4⟩
  · obtain ⟨-, -, l3, l4⟩ := LnW.at h2 i hi
    obtain ⟨b1, b2, b3⟩ := g2 i hi
    refine ⟨_, _, l3, l4, b1, b2, LineOk.congr b3 fun j hj => ?_⟩
    obtain ⟨k, m, a1, a2, a3, a4, a5⟩ := hc ((lnAt ls i).2.2.1 + j) (by omega)
    rw [a5]
    unfold cdD
    rw [a3, a4, nI_clamp (by omega), nI_clamp (by omega)]
/-- a draft's state between two lines: so many lines, so many codes -/
def Dl (T : Nat → Int32) (e b : Nat) (o : List Int32) (ls : List LnT) (J : Nat → Nat → Int32) (p : Nat) : Prop := Pp e p J ∧ rn T e 4 p = b ∧ J 420 16 = nI o.length ∧ RowS (J 421) o ∧ LnW (J 421) ls ∧ o.length ≤ b
theorem h_readLawLine (hw : WdS S) (hbt : BtT T) (hT : I 426 = T) (hnl : ls.length < 12) (h12 : I 420 12 = nI b) (hq : Pp e p I) (hp1 : p = rn T e 1 b) (hsk : rn T e 4 b = b) (hst : I 420 16 = nI o.length) (hrs : RowS (I 421) o) (hrl : LnW (I 421) ls) (hB : o.length ≤ b) (hbe : b ≤ e) : Sp S m_X12_readLawLine 41 0 0 [.ref 420, .int (nI ls.length)] (hp I L w1 w2 t) (fun v h' => v = some (.int (bI (lnP T e b o).1)) ∧ ∃ J p', h' = hp J L w1 w2 t ∧ Fm (sZ ls.length o.length) I J ∧ ((lnP T e b o).1 = false → J 420 12 = nI (lnP T e b o).2.1) ∧ ((lnP T e b o).1 = true → Dl T e (lnP T e b o).2.1 (lnP T e b o).2.2 (lnV T e b o (lnP T e b o).2.2 :: ls) J p')) nX := by
  have he4 := Pp.e4 hq
  have gd := lnP_gd (T := T) (o := o) hbe
  have hi : ∀ k, k < 27 → isW T b (p - b) k = isWd T e b k := fun k hk => by
    rw [hp1]
    exact isW_wd hk
  have hbp : b ≤ p := by
    rw [hp1]
    exact rn_ge
  refine Sp_of ok_X12_readLawLine rfl rfl ?_
  show AW S m_X12_readLawLine 41 _ _ 0 0 0 [some (.ref 420), some (.int (nI ls.length)), none] [] (hp I L w1 w2 t)
  refine a_s rfl rfl ?_
  refine a_s rfl rfl ?_
  refine a_l1 rfl rfl rfl ?_
  refine a_s rfl rfl ?_
  refine a_top (y := nI (4 * ls.length)) (nI_mul 4 ls.length) ?_
  refine a_s rfl rfl ?_
  refine a_top (y := nI (1185 + 4 * ls.length)) (nI_addl 1185 (4 * ls.length)) ?_
  refine a_s2 rfl rfl rfl rfl rfl rfl ?_
  refine a_l0 rfl rfl rfl ?_
  refine a_getq rfl gfX12_13_12 rfl (rfl) ?_
  refine a_l2 rfl rfl rfl ?_
  have key : AW S m_X12_readLawLine 41 (fun v h' => v = some (.int (bI (lnP T e b o).1)) ∧ ∃ J p', h' = hp J L w1 w2 t ∧ Fm (sZ ls.length o.length) I J ∧ ((lnP T e b o).1 = false → J 420 12 = nI (lnP T e b o).2.1) ∧ ((lnP T e b o).1 = true → Dl T e (lnP T e b o).2.1 (lnP T e b o).2.2 (lnV T e b o (lnP T e b o).2.2 :: ls) J p')) nX 0 0 53 [some (.ref 420), some (.int (nI ls.length)), some (.int (nI (1185 + 4 * ls.length)))] [.int (kndP T e b), .int (nI (1185 + 4 * ls.length)), .ref 421] (hp I L w1 w2 t) := by
    refine a_iastv (k := 1185 + 4 * ls.length) rfl (n := 2033) rfl (inI_nI (by omega) (by omega)) (nI_clamp (by omega)) ?_
    have f1 : Fm (sZ ls.length o.length) I (up2 I 421 (1185 + 4 * ls.length) (kndP T e b)) := Fm.up Fm.rf (sZ_in (by omega) (by omega))
    refine a_l0 rfl rfl rfl ?_
    refine a_getq rfl gfX12_13_12 rfl (rfl) ?_
    refine a_l2 rfl rfl rfl ?_
    refine a_ialdv (v := kndP T e b) rfl (n := 2033) rfl (inI_nI (by omega) (by omega)) (by rw [nI_clamp (by omega)]; exact up2_at) ?_
    by_cases c1 : kndP T e b = -1
    · rw [show lnP T e b o = (false, b, []) from if_pos c1, c1]
      refine a_if_ge rfl (fun c => absurd c (by decide)) (fun _ => ?_)
      refine a_s rfl rfl ?_
      rw [c1] at f1
      exact a_zret rfl rfl rfl ⟨rfl, _, 0, rfl, f1, fun _ => (congrFun (up2_row (by decide)) 12).trans h12, fun z => by cases z⟩
    have k1 : kd T e b = 1 ∧ ¬ kndP T e b < 0 := by
      unfold kndP at c1 ⊢
      by_cases d1 : isWd T e b 15 = true
      · rw [if_pos d1]
        exact ⟨(of_decide_eq_true d1).1, by decide⟩
      · rw [if_neg d1] at c1 ⊢
        by_cases d2 : isWd T e b 16 = true
        · rw [if_pos d2]
          exact ⟨(of_decide_eq_true d2).1, by decide⟩
        · rw [if_neg d2] at c1 ⊢
          by_cases d3 : isWd T e b 17 = true
          · rw [if_pos d3]
            exact ⟨(of_decide_eq_true d3).1, by decide⟩
          · rw [if_neg d3] at c1
            exact absurd rfl c1
    have n1 := nx_lt (T := T) (knd_lt c1)
    have n1e := nx_le (T := T) hbe
    have hpn : rn T e 4 p = nx T e b := by
      rw [hp1, ← en_1 k1.1]
      rfl
    refine a_if_ge rfl (fun _ => ?_) (fun c => absurd (Int32.not_lt.mp k1.2) c)
    refine a_l0 rfl rfl rfl ?_
    refine a_getq rfl gfX12_13_12 rfl (rfl) ?_
    refine a_l2 rfl rfl rfl ?_
    refine a_s rfl rfl ?_
    refine a_s rfl rfl ?_
    refine a_top (y := nI (1185 + 4 * ls.length + 1)) ((nI_succ _).symm) ?_
    refine a_l0 rfl rfl rfl ?_
    refine a_s rfl rfl ?_
    refine a_s rfl rfl ?_
    refine a_gV rfl lX12_113 mo_X12_number (h_number (b := nx T e b) (x := 0) (y := 60) (Pp.wd hq) (by rw [up2_row (by decide), hT]; exact hpn) (by decide)) rfl rfl rfl ⟨12, _, rfl, rfl, rfl⟩ rfl (fun v' h' hv => ?_)
    obtain ⟨rfl, J2, rfl, h2⟩ := hv
    rw [show up2 I 421 (1185 + 4 * ls.length) (kndP T e b) 426 = T from (up2_row (by decide)).trans hT] at h2 ⊢
    refine a_iastv (k := 1185 + 4 * ls.length + 1) rfl (n := 2033) rfl (inI_nI (by omega) (by omega)) (nI_clamp (by omega)) ?_
    have f3 : Fm (sZ ls.length o.length) I (up2 J2 421 (1185 + 4 * ls.length + 1) (nm T e (nx T e b) 0 60)) := Fm.up (Fm.tr f1 (Fm.mo (Rd.fm h2) sR_sZ)) (sZ_in (by omega) (by omega))
    refine a_l0 rfl rfl rfl ?_
    refine a_getq rfl gfX12_13_12 rfl (rfl) ?_
    refine a_l2 rfl rfl rfl ?_
    refine a_s rfl rfl ?_
    refine a_s rfl rfl ?_
    refine a_top (y := nI (1185 + 4 * ls.length + 1)) ((nI_succ _).symm) ?_
    refine a_ialdv (v := nm T e (nx T e b) 0 60) rfl (n := 2033) rfl (inI_nI (by omega) (by omega)) (by rw [nI_clamp (by omega)]; exact up2_at) ?_
    by_cases c2 : nm T e (nx T e b) 0 60 = -1
    · rw [show lnP T e b o = (false, nx T e b, []) from (if_neg c1).trans (if_pos c2), c2]
      refine a_if_ge rfl (fun c => absurd c (by decide)) (fun _ => ?_)
      refine a_s rfl rfl ?_
      rw [c2] at f3
      exact a_zret rfl rfl rfl ⟨rfl, _, 0, rfl, f3, fun _ => (congrFun (up2_row (by decide)) 12).trans (Rd.be h2), fun z => by cases z⟩
    have k2 : kd T e (nx T e b) = 2 ∧ ¬ nm T e (nx T e b) 0 60 < 0 := by
      unfold nm at c2 ⊢
      by_cases d1 : kd T e (nx T e b) = 2 ∧ 0 ≤ vl T e (nx T e b) ∧ vl T e (nx T e b) ≤ 60
      · rw [if_pos d1]
        exact ⟨d1.1, Int32.not_lt.mpr d1.2.1⟩
      · rw [if_neg d1] at c2
        exact absurd rfl c2
    refine a_if_ge rfl (fun _ => ?_) (fun c => absurd (Int32.not_lt.mp k2.2) c)
    have n2 := nx_lt (T := T) (nm_lt c2)
    have n2e := nx_le (T := T) n1e
    have hpn2 : rn T e 4 (rn T e 2 (nx T e b)) = nx T e (nx T e b) := by
      rw [← en_2 k2.1]
      rfl
    have s3 : up2 J2 421 (1185 + 4 * ls.length + 1) (nm T e (nx T e b) 0 60) 420 16 = nI o.length := ((congrFun (up2_row (by decide)) 16).trans (((Rd.fm h2 420 16 rfl).trans (congrFun (up2_row (by decide)) 16)).trans hst))
    refine a_l0 rfl rfl rfl ?_
    refine a_getq rfl gfX12_13_12 rfl (rfl) ?_
    refine a_l2 rfl rfl rfl ?_
    refine a_s rfl rfl ?_
    refine a_s rfl rfl ?_
    refine a_top (y := nI (1185 + 4 * ls.length + 2)) (nI_addl _ 2) ?_
    refine a_l0 rfl rfl rfl ?_
    refine a_geti rfl gfX12_168_12 rfl ?_
    refine a_top (y := nI o.length) (s3) ?_
    refine a_iastv (k := 1185 + 4 * ls.length + 2) rfl (n := 2033) rfl (inI_nI (by omega) (by omega)) (nI_clamp (by omega)) ?_
    refine a_l0 rfl rfl rfl ?_
    refine a_s rfl rfl ?_
    refine a_puti rfl pfX12_194_12 rfl ?_
    have f5 : Fm (sZ ls.length o.length) I (up2 (up2 (up2 J2 421 (1185 + 4 * ls.length + 1) (nm T e (nx T e b) 0 60)) 421 (1185 + 4 * ls.length + 2) (nI o.length)) 420 13 0) := Fm.up (Fm.up f3 (sZ_in (by omega) (by omega))) rfl
    have w2 : J2 421 (1185 + 4 * ls.length) = kndP T e b := (Rd.fm h2 421 _ rfl).trans up2_at
    refine a_ren (P := fun J => Fm (sZ ls.length o.length) I J ∧ Pp e (rn T e 2 (nx T e b)) J ∧ J 420 16 = nI o.length ∧ J 420 13 = nI 0 ∧ J 421 (1185 + 4 * ls.length) = kndP T e b ∧ J 421 (1185 + 4 * ls.length + 1) = nm T e (nx T e b) 0 60 ∧ J 421 (1185 + 4 * ls.length + 2) = nI o.length) ⟨f5, Pp.dp (Pp.wd (Pp.wd (Rd.pp h2))), ?_, up2_at, ?_, ?_, ?_⟩ (fun J5 hJ5 => ?_)
    · rw [up2_ne (Or.inr (by decide)), up2_row (by decide)]
      exact s3
    · rw [up2_row (by decide), u2_lo (by omega), u2_lo (by omega)]
      exact w2
    · rw [up2_row (by decide), u2_lo (by omega)]
      exact up2_at
    · rw [up2_row (by decide)]
      exact up2_at
    clear f5 f3 f1 s3 w2
    obtain ⟨f5, q5, s5, d5, l50, l51, l52⟩ := hJ5
    have rs5 : RowS (J5 421) o := RowS.eq hrs fun k g1 g2 => f5 421 k (sZ_mid g1 g2)
    have rl5 : LnW (J5 421) ls := LnW.eq hrl fun k g1 g2 => f5 421 k (sZ_lo (by omega) (by omega))
    have T5 : J5 426 = T := (funext fun k => f5 426 k rfl).trans hT
    have C5 : Cf T e o.length (nx T e (nx T e b)) o J5 J5 (rn T e 2 (nx T e b)) := ⟨Fm.rf, rfl, q5, hpn2, s5, rs5, Nat.le_refl _⟩
    -- the line ends here
    have key2 : ∀ {b1 p' : Nat} {o1 : List Int32} {J : Nat → Nat → Int32}, lnP T e b o = (true, b1, o1) → Cf T e o.length b1 o1 J5 J p' → AW S m_X12_readLawLine 41 (fun v h' => v = some (.int (bI (lnP T e b o).1)) ∧ ∃ J p', h' = hp J L w1 w2 t ∧ Fm (sZ ls.length o.length) I J ∧ ((lnP T e b o).1 = false → J 420 12 = nI (lnP T e b o).2.1) ∧ ((lnP T e b o).1 = true → Dl T e (lnP T e b o).2.1 (lnP T e b o).2.2 (lnV T e b o (lnP T e b o).2.2 :: ls) J p')) nX 0 0 128 [some (.ref 420), some (.int (nI ls.length)), some (.int (nI (1185 + 4 * ls.length)))] [] (hp J L w1 w2 t) := by
      intro b1 p' o1 J el C
      rw [el] at gd ⊢
      obtain ⟨-, g2, g3⟩ := gd
      have g3 : b < b1 ∧ o1.length + b ≤ o.length + b1 := g3 rfl
      refine a_l0 rfl rfl rfl ?_
      refine a_getq rfl gfX12_13_12 rfl (rfl) ?_
      refine a_l2 rfl rfl rfl ?_
      refine a_s rfl rfl ?_
      refine a_s rfl rfl ?_
      refine a_top (y := nI (1185 + 4 * ls.length + 3)) (nI_addl _ 3) ?_
      refine a_l0 rfl rfl rfl ?_
      refine a_geti rfl gfX12_168_12 rfl ?_
      refine a_top (y := nI o1.length) (Cf.st C) ?_
      refine a_iastv (k := 1185 + 4 * ls.length + 3) rfl (n := 2033) rfl (inI_nI (by omega) (by omega)) (nI_clamp (by omega)) ?_
      refine a_s rfl rfl ?_
      have lo : ∀ k, k < 1233 → J 421 k = J5 421 k := fun k hk => C.1 421 k (sY_lo (by omega))
      refine a_zret rfl rfl rfl ⟨rfl, _, p', rfl, Fm.up (Fm.tr f5 (Fm.mo C.1 sY_sZ)) (sZ_in (by omega) (by omega)), (fun z => by cases z), fun _ => ⟨Pp.wd (Cf.pp C), Cf.nb C, ?_, ?_, ⟨⟨?_, ?_, ?_, up2_at⟩, ?_⟩, by show o1.length ≤ b1; omega⟩⟩
      · rw [up2_row (by decide)]
        exact Cf.st C
      · exact RowS.eq C.2.2.2.2.2.1 fun k g1 _ => u2_lo (by omega)
      · rw [u2_lo (by omega), lo _ (by omega)]
        exact l50
      · rw [u2_lo (by omega), lo _ (by omega)]
        exact l51
      · rw [u2_lo (by omega), lo _ (by omega)]
        exact l52
      · refine LnW.eq rl5 fun k g1 g2 => ?_
        rw [u2_lo (by omega), lo _ (by omega)]
    refine a_l0 rfl rfl rfl ?_
    refine a_ldcs (q := 130 + 18) rfl (hw.ld (i := 18) (by decide)) ?_
    refine a_gV rfl lX12_128 mo_X12_passes (h_passes (b := nx T e (nx T e b)) (k := 18) hw (by decide) q5 (by rw [T5]; exact hpn2)) rfl rfl rfl ⟨12, _, rfl, rfl, rfl⟩ rfl (fun v' h' hv => ?_)
    obtain ⟨rfl, J6, rfl, h6⟩ := hv
    rw [T5] at h6 ⊢
    cases c3 : isWd T e (nx T e (nx T e b)) 18 with
    | false =>
      refine a_if_eq rfl (fun _ => ?_) (fun z => absurd rfl z)
      rw [if_neg (by rw [c3]; decide)] at h6
      exact key2 ((if_neg c1).trans ((if_neg c2).trans (if_neg (by rw [c3]; decide)))) (Cf.rd C5 h6 (Cf.sk C5))
    | true =>
      refine a_if_eq rfl (fun z => absurd z (by decide)) (fun _ => ?_)
      rw [if_pos c3] at h6
      have n3 := nx_lt (T := T) (isWd_lt c3)
      have C6 : Cf T e o.length (nx T e (nx T e (nx T e b))) o J5 J6 (en T e (nx T e (nx T e b))) := Cf.rd C5 h6 rfl
      have el : lnP T e b o = condR T e 6 (nx T e (nx T e (nx T e b))) o := (if_neg c1).trans ((if_neg c2).trans (if_pos c3))
      refine a_l0 rfl rfl rfl ?_
      refine a_gV rfl lX12_197 mo_X12_readCond (h_readCond_0 hw hbt (Cf.tt C6 T5) (Cf.d C6 d5) (Cf.rf C6) (by omega)) rfl rfl rfl ⟨12, _, rfl, rfl, rfl⟩ rfl (fun v' h' hv => ?_)
      obtain ⟨rfl, J7, p7, rfl, hz7, hf7⟩ := hv
      rw [show seqP T e (seqP T e (atomR T e 6) 20 2004) 19 2005 (nx T e (nx T e (nx T e b))) o = lnP T e b o from el.symm] at hz7 hf7 ⊢
      rcases er : lnP T e b o with ⟨z, b1, o1⟩
      rw [er] at hz7 hf7
      cases z with
      | false =>
        refine a_if_ne rfl (fun z => absurd rfl z) (fun _ => ?_)
        refine a_s rfl rfl ?_
        exact a_zret rfl rfl rfl ⟨rfl, J7, 0, rfl, Fm.tr f5 (Fm.mo (Fm.tr C6.1 (hf7 rfl).1) sY_sZ), fun _ => (hf7 rfl).2, fun z => by cases z⟩
      | true =>
        refine a_if_ne rfl (fun _ => ?_) (fun z => absurd (show (1 : Int32) = 0 from z) (by decide))
        rw [er] at key2
        exact key2 rfl (Cf.cc C6 (hz7 rfl))
  refine a_l0 rfl rfl rfl ?_
  refine a_ldcs (q := 130 + 15) rfl (hw.ld (i := 15) (by decide)) ?_
  refine a_eV1 rfl lX12_109 mo_X12_isWord (h_isWord (k := 15) hw (by decide) h12 hbp hq) rfl rfl rfl ⟨12, _, rfl, rfl, rfl⟩ rfl ?_
  refine a_top (y := bI (isWd T e b 15)) (by rw [hT]; exact congrArg bI (hi 15 (by decide))) ?_
  cases c15 : isWd T e b 15 with
  | true =>
    refine a_if_eq rfl (fun z => absurd z (by decide)) (fun _ => ?_)
    rw [show kndP T e b = 0 from if_pos c15] at key
    refine a_s rfl rfl ?_
    refine a_goto rfl ?_
    exact key
  | false =>
  refine a_if_eq rfl (fun _ => ?_) (fun z => absurd rfl z)
  refine a_l0 rfl rfl rfl ?_
  refine a_ldcs (q := 130 + 16) rfl (hw.ld (i := 16) (by decide)) ?_
  refine a_eV1 rfl lX12_109 mo_X12_isWord (h_isWord (k := 16) hw (by decide) h12 hbp hq) rfl rfl rfl ⟨12, _, rfl, rfl, rfl⟩ rfl ?_
  refine a_top (y := bI (isWd T e b 16)) (by rw [hT]; exact congrArg bI (hi 16 (by decide))) ?_
  cases c16 : isWd T e b 16 with
  | true =>
    refine a_if_eq rfl (fun z => absurd z (by decide)) (fun _ => ?_)
    rw [show kndP T e b = 1 from (if_neg (by rw [c15]; decide)).trans (if_pos c16)] at key
    refine a_s rfl rfl ?_
    refine a_goto rfl ?_
    exact key
  | false =>
  refine a_if_eq rfl (fun _ => ?_) (fun z => absurd rfl z)
  refine a_l0 rfl rfl rfl ?_
  refine a_ldcs (q := 130 + 17) rfl (hw.ld (i := 17) (by decide)) ?_
  refine a_eV1 rfl lX12_109 mo_X12_isWord (h_isWord (k := 17) hw (by decide) h12 hbp hq) rfl rfl rfl ⟨12, _, rfl, rfl, rfl⟩ rfl ?_
  refine a_top (y := bI (isWd T e b 17)) (by rw [hT]; exact congrArg bI (hi 17 (by decide))) ?_
  cases c17 : isWd T e b 17 with
  | false =>
    refine a_if_eq rfl (fun _ => ?_) (fun z => absurd rfl z)
    rw [show kndP T e b = -1 from (if_neg (by rw [c15]; decide)).trans ((if_neg (by rw [c16]; decide)).trans (if_neg (by rw [c17]; decide)))] at key
    refine a_s rfl rfl ?_
    exact key
  | true =>
    refine a_if_eq rfl (fun z => absurd z (by decide)) (fun _ => ?_)
    rw [show kndP T e b = 2 from (if_neg (by rw [c15]; decide)).trans ((if_neg (by rw [c16]; decide)).trans (if_pos c17))] at key
    refine a_s rfl rfl ?_
    refine a_goto rfl ?_
    exact key
/-- what reading a law's text may change, behind its beginning -/
def sG (q k : Nat) : Bool := sR q k || ((Nat.beq q 420 && (Nat.beq k 13 || Nat.beq k 16)) || (Nat.beq q 421 && Nat.ble 1184 k))
theorem sG_hi {k : Nat} (h : 1184 ≤ k) : sG 421 k = true := by
  show (false || (false || (true && Nat.ble 1184 k))) = true
  rw [Nat.ble_eq_true_of_le h]
  rfl
theorem sG_lo {k : Nat} (h : k < 1184) : sG 421 k = false := by
  show (false || (false || (true && Nat.ble 1184 k))) = false
  rw [ble_f h]
  rfl
theorem sR_sG : ∀ q k, sR q k = true → sG q k = true := fun q k h => by
  unfold sG
  rw [h]
  rfl
theorem sZ_sG {nl n : Nat} : ∀ q k, sZ nl n q k = true → sG q k = true := fun q k h => by
  by_cases c : q = 421
  · subst c
    refine sG_hi ?_
    rcases Nat.lt_or_ge k 1184 with g | g
    · rw [sZ_lo (by omega) (by omega)] at h
      cases h
    · exact g
  · unfold sZ at h
    unfold sG
    rw [beqF c] at h ⊢
    exact h
theorem sG_sL : ∀ q k, sG q k = true → sL q k = true := fun q k h => by
  by_cases c : q = 421
  · subst c
    refine sL_hi ?_
    rcases Nat.lt_or_ge k 1184 with g | g
    · rw [sG_lo g] at h
      cases h
    · exact g
  · refine sZ_sL (nl := 0) (n := 0) q k ?_
    unfold sG at h
    unfold sZ
    rw [beqF c] at h ⊢
    exact h
theorem Dl.rd {J : Nat → Nat → Int32} {b2 p' : Nat} (h : Dl T e b o ls I p) (r : Rd e p b2 p' I J) (hb : rn T e 4 p' = b) : Dl T e b o ls J p' := by
  obtain ⟨-, -, h3, h4, h5, h6⟩ := h
  exact ⟨Rd.pp r, hb, (Rd.fm r 420 16 rfl).trans h3, by rw [Rd.w r]; exact h4, by rw [Rd.w r]; exact h5, h6⟩
theorem h_readLineL (hw : WdS S) (hbt : BtT T) (hT : I 426 = T) (h : Dl T e b o ls I p) (hl : ls.length ≤ 12) : Sp S m_X12_readLine 60 0 0 [.ref 420, .int (bI false), .int (nI ls.length)] (hp I L w1 w2 t) (fun v h' => v = some (.int (bI (decide (ls.length < 12) && (lnP T e b o).1))) ∧ ∃ J p', h' = hp J L w1 w2 t ∧ Fm sG I J ∧ (ls.length < 12 → (lnP T e b o).1 = false → J 420 12 = nI (lnP T e b o).2.1) ∧ (¬ ls.length < 12 → J 420 12 = nI b) ∧ (ls.length < 12 → (lnP T e b o).1 = true → Dl T e (lnP T e b o).2.1 (lnP T e b o).2.2 (lnV T e b o (lnP T e b o).2.2 :: ls) J p')) nX := by
  obtain ⟨hq, hnb, hst, hrs, hrl, hB⟩ := h
  refine Sp_of ok_X12_readLine rfl rfl ?_
  show AW S m_X12_readLine 60 _ _ 0 0 0 [some (.ref 420), some (.int (bI false)), some (.int (nI ls.length))] [] (hp I L w1 w2 t)
  refine a_l0 rfl rfl rfl ?_
  refine a_gV rfl lX12_106 mo_X12_letters (h_letters hq) rfl rfl rfl ⟨12, _, rfl, rfl, rfl⟩ rfl (fun v' h' hv => ?_)
  obtain ⟨rfl, J, rfl, h1⟩ := hv
  rw [hT, hnb] at h1
  have f1 : Fm sG I J := Fm.mo (Rd.fm h1) sR_sG
  have hbe : b ≤ e := by
    rw [← hnb]
    exact rn_le (Pp.le hq)
  refine a_l2 rfl rfl rfl ?_
  refine a_l1 rfl rfl rfl ?_
  refine a_if_eq rfl (fun _ => ?_) (fun c => absurd rfl c)
  refine a_s rfl rfl ?_
  refine a_ic_ge rfl (fun c => ?_) (fun c => ?_)
  · have h12 := nI_ge_of (b := 12) c (by omega) (by decide)
    have n12 : ¬ ls.length < 12 := by omega
    rw [show decide (ls.length < 12) = false from decide_eq_false n12]
    refine a_s rfl rfl ?_
    exact a_zret rfl rfl rfl ⟨rfl, J, 0, rfl, f1, fun z => absurd z n12, fun _ => Rd.be h1, fun z => absurd z n12⟩
  have hnl : ls.length < 12 := nI_lt_of (b := 12) c (by omega) (by decide)
  rw [show decide (ls.length < 12) = true from decide_eq_true hnl]
  refine a_l1 rfl rfl rfl ?_
  refine a_if_eq rfl (fun _ => ?_) (fun c => absurd rfl c)
  refine a_l0 rfl rfl rfl ?_
  refine a_l2 rfl rfl rfl ?_
  have eT : J 426 = T := (Rd.T h1).trans hT
  refine a_gV rfl lX12_229 mo_X12_readLawLine (h_readLawLine hw hbt eT hnl (Rd.be h1) (Rd.pp h1) rfl (by rw [← hnb]; exact rn_rn) ((Rd.fm h1 420 16 rfl).trans hst) (by rw [Rd.w h1]; exact hrs) (by rw [Rd.w h1]; exact hrl) hB hbe) rfl rfl rfl ⟨12, _, rfl, rfl, rfl⟩ rfl (fun v' h' hv => ?_)
  obtain ⟨rfl, J2, p2, rfl, f2, hn2, hy2⟩ := hv
  have f3 : Fm sG I J2 := Fm.tr f1 (Fm.mo f2 sZ_sG)
  cases c3 : (lnP T e b o).1 with
  | false =>
    refine a_if_eq rfl (fun _ => ?_) (fun z => absurd rfl z)
    refine a_s rfl rfl ?_
    exact a_zret rfl rfl rfl ⟨rfl, J2, 0, rfl, f3, fun _ _ => hn2 c3, fun z => absurd hnl z, fun _ z => by cases z⟩
  | true =>
    refine a_if_eq rfl (fun z => absurd z (by decide)) (fun _ => ?_)
    refine a_s rfl rfl ?_
    refine a_goto rfl ?_
    exact a_zret rfl rfl rfl ⟨rfl, J2, p2, rfl, f3, fun _ z => (by cases z), fun z => absurd hnl z, fun _ _ => hy2 c3⟩
/-- behind all lines -/
def LwR (r : LRs) (J : Nat → Nat → Int32) : Prop := J 420 16 = nI r.2.2.1.length ∧ RowS (J 421) r.2.2.1 ∧ LnW (J 421) r.2.2.2 ∧ r.2.2.2.length ≤ 12 ∧ r.2.2.1.length ≤ 400
theorem h_readAllL (hw : WdS S) (hbt : BtT T) (hT : I 426 = T) (h9 : I 420 9 = nI e) (h4 : e ≤ 400) : Sp S m_X12_readAll 61 0 0 [.ref 420, .int (bI false)] (hp I L w1 w2 t) (fun v h' => v = some (.int (if (lawP T e).1 = true then nI (lawP T e).2.2.2.length else -1)) ∧ ∃ J, h' = hp J L w1 w2 t ∧ Fm sG (usH I) J ∧ ((lawP T e).1 = false → J 420 12 = nI (lawP T e).2.1) ∧ ((lawP T e).1 = true → LwR (lawP T e) J)) nX := by
  refine Sp_of ok_X12_readAll rfl rfl ?_
  show AW S m_X12_readAll 61 _ _ 0 0 0 [some (.ref 420), some (.int (bI false)), none] [] (hp I L w1 w2 t)
  have T0 : up2 (usH I) 420 16 0 426 = T := ((up2_row (by decide)).trans (usH_row (by decide))).trans hT
  have P0 : Pp e 0 (up2 (usH I) 420 16 0) := ⟨(up2_ne (Or.inr (by decide))).trans up2_at, ((up2_ne (Or.inr (by decide))).trans usH_11).trans h9, Nat.zero_le _, h4⟩
  have F0 : Fm sG (usH I) (up2 (usH I) 420 16 0) := Fm.up Fm.rf rfl
  refine a_l0 rfl rfl rfl ?_
  refine a_eV0 rfl lX12_232 mo_X12_uses r_X12_uses rfl rfl rfl ⟨12, _, rfl, rfl, rfl⟩ rfl ?_
  refine a_l0 rfl rfl rfl ?_
  refine a_s rfl rfl ?_
  refine a_puti rfl pfX12_168_12 rfl ?_
  refine a_l0 rfl rfl rfl ?_
  refine a_gV rfl lX12_94 mo_X12_blanks (h_blanks (I := up2 (usH I) 420 16 0) P0) rfl rfl rfl ⟨12, _, rfl, rfl, rfl⟩ rfl (fun v' h' hv => ?_)
  obtain ⟨rfl, J1, rfl, h1⟩ := hv
  rw [T0] at h1
  have h1 : Rd e 0 (bg T e 0) (bg T e 0) (up2 (usH I) 420 16 0) J1 := h1
  have F1 : Fm sG (usH I) J1 := Fm.tr F0 (Fm.mo (Rd.fm h1) sR_sG)
  have D1 : Dl T e (bg T e 0) [] [] J1 (bg T e 0) := ⟨Rd.pp h1, bg_sk 0, (Rd.fm h1 420 16 rfl).trans (up2_at.trans nI_0.symm), trivial, trivial, Nat.zero_le _⟩
  have hb0 := bg_le (T := T) (e := e) 0
  refine a_l0 rfl rfl rfl ?_
  refine a_geti rfl gfX12_81_12 rfl ?_
  refine a_top (y := nI (bg T e 0)) (Pp.pu (Rd.pp h1)) ?_
  refine a_l0 rfl rfl rfl ?_
  refine a_geti rfl gfX12_84_12 rfl ?_
  refine a_top (y := nI e) (Pp.en (Rd.pp h1)) ?_
  refine a_ic_ne rfl (fun c0 => ?_) (fun c0 => ?_)
  rotate_left
  · have c0 := nI_inj (by omega) (by omega) c0
    have el : lawP T e = (true, bg T e 0, [], []) := if_neg (by omega)
    rw [el, if_pos rfl]
    refine a_s rfl rfl ?_
    exact a_iret rfl rfl ⟨nI_0 ▸ rfl, J1, rfl, F1, fun z => (by cases z), fun _ => ⟨D1.2.2.1, trivial, trivial, Nat.zero_le _, Nat.zero_le _⟩⟩
  have c0 : bg T e 0 < e := by
    rcases Nat.lt_or_ge (bg T e 0) e with g | g
    · exact g
    · exact absurd (congrArg nI (show bg T e 0 = e by omega)) c0
  refine a_s rfl rfl ?_
  refine a_s2 rfl rfl rfl rfl rfl rfl ?_
  refine a_inv (n := 12) (fun m ls h => ∃ b' o' ls' p' J, ls = [some (.ref 420), some (.int (bI false)), some (.int (nI ls'.length))] ∧ h = hp J L w1 w2 t ∧ Dl T e b' o' ls' J p' ∧ Fm sG (usH I) J ∧ lnsP T e (12 - ls'.length) b' o' ls' = lawP T e ∧ ls'.length ≤ 12 ∧ m = 12 - ls'.length) ⟨bg T e 0, [], [], bg T e 0, J1, rfl, rfl, D1, F1, (if_pos c0).symm, by decide, rfl⟩ ?_
  rintro m _ _ ⟨b', o', ls', p', J, rfl, rfl, hD, hF, es, hl, hm⟩ ih
  have eT : J 426 = T := ((funext fun k => hF 426 k rfl).trans (usH_row (by decide))).trans hT
  refine a_l0 rfl rfl rfl ?_
  refine a_l1 rfl rfl rfl ?_
  refine a_l2 rfl rfl rfl ?_
  refine a_gV rfl lX12_235 mo_X12_readLine (h_readLineL hw hbt eT hD hl) rfl rfl rfl ⟨12, _, rfl, rfl, rfl⟩ rfl (fun v' h' hv => ?_)
  obtain ⟨rfl, J2, p2, rfl, f2, hn2, hx2, hy2⟩ := hv
  have hF2 : Fm sG (usH I) J2 := Fm.tr hF f2
  have hb' : b' ≤ e := by
    rw [← hD.2.1]
    exact rn_le (Pp.le hD.1)
  have gd := lnP_gd (T := T) (o := o') hb'
  by_cases c12 : ls'.length < 12
  rotate_left
  · rw [show 12 - ls'.length = 0 by omega] at es
    have es : lawP T e = (false, b', [], []) := es.symm
    rw [show decide (ls'.length < 12) = false from decide_eq_false c12]
    refine a_if_ne rfl (fun z => absurd rfl z) (fun _ => ?_)
    refine a_s rfl rfl ?_
    rw [es, if_neg Bool.false_ne_true]
    exact a_iret rfl rfl ⟨rfl, J2, rfl, hF2, fun _ => hx2 c12, fun z => by cases z⟩
  obtain ⟨f, hf⟩ : ∃ f, 12 - ls'.length = f + 1 := ⟨12 - ls'.length - 1, by omega⟩
  rw [hf, lnsP_s] at es
  rw [show decide (ls'.length < 12) = true from decide_eq_true c12]
  have hn2 := hn2 c12
  have hy2 := hy2 c12
  clear hx2
  rcases er : lnP T e b' o' with ⟨z, b1, o1⟩
  rw [er] at es hn2 hy2 gd
  cases z with
  | false =>
    refine a_if_ne rfl (fun z => absurd rfl z) (fun _ => ?_)
    have es : lawP T e = (false, b1, [], []) := es.symm
    refine a_s rfl rfl ?_
    rw [es, if_neg Bool.false_ne_true]
    exact a_iret rfl rfl ⟨rfl, J2, rfl, hF2, fun _ => hn2 rfl, fun z => by cases z⟩
  | true =>
  refine a_if_ne rfl (fun _ => ?_) (fun z => absurd (show (1 : Int32) = 0 from z) (by decide))
  rw [if_pos rfl] at es
  have D2 : Dl T e b1 o1 (lnV T e b' o' o1 :: ls') J2 p2 := hy2 rfl
  obtain ⟨-, g2, g3⟩ := gd
  have g2 : b1 ≤ e := g2
  have eT2 : J2 426 = T := (funext fun k => f2 426 k rfl).trans eT
  refine a_l0 rfl rfl rfl ?_
  refine a_gV rfl lX12_94 mo_X12_blanks (h_blanks D2.1) rfl rfl rfl ⟨12, _, rfl, rfl, rfl⟩ rfl (fun v' h' hv => ?_)
  obtain ⟨rfl, J3, rfl, h3⟩ := hv
  rw [eT2, D2.2.1] at h3
  have hF3 : Fm sG (usH I) J3 := Fm.tr hF2 (Fm.mo (Rd.fm h3) sR_sG)
  have D3 := Dl.rd D2 h3 (by rw [← D2.2.1]; exact rn_rn)
  have eT3 : J3 426 = T := (Rd.T h3).trans eT2
  refine a_l0 rfl rfl rfl ?_
  refine a_geti rfl gfX12_81_12 rfl ?_
  refine a_top (y := nI b1) (Pp.pu (Rd.pp h3)) ?_
  refine a_l0 rfl rfl rfl ?_
  refine a_geti rfl gfX12_84_12 rfl ?_
  refine a_top (y := nI e) (Pp.en (Rd.pp h3)) ?_
  refine a_ic_ne rfl (fun c1 => ?_) (fun c1 => ?_)
  rotate_left
  · have c1 := nI_inj (by omega) (by omega) c1
    have es : lawP T e = (true, b1, o1, lnV T e b' o' o1 :: ls') := es.symm.trans (if_neg (show ¬ b1 < e by omega))
    refine a_l2 rfl rfl rfl ?_
    refine a_s rfl rfl ?_
    refine a_s rfl rfl ?_
    refine a_top (y := nI (ls'.length + 1)) ((nI_succ _).symm) ?_
    rw [es, if_pos rfl]
    obtain ⟨-, -, x1, x2, x3, x4⟩ := D3
    exact a_iret rfl rfl ⟨rfl, J3, rfl, hF3, fun z => (by cases z), fun _ => ⟨x1, x2, x3, by show ls'.length + 1 ≤ 12; omega, by show o1.length ≤ 400; omega⟩⟩
  have c1 : b1 < e := by
    rcases Nat.lt_or_ge b1 e with g | g
    · exact g
    · exact absurd (congrArg nI (show b1 = e by omega)) c1
  have es := (if_pos c1).symm.trans es
  refine a_l0 rfl rfl rfl ?_
  refine a_s rfl rfl ?_
  refine a_s rfl rfl ?_
  refine a_eV1 rfl lX12_87 mo_X12_isAt (h_isAt (Rd.pp h3)) rfl rfl rfl ⟨12, _, rfl, rfl, rfl⟩ rfl ?_
  refine a_top (y := bI (sg T e b1 59)) (by rw [eT3]; exact congrArg bI (at_s (c := 59) hbt h4 (by decide))) ?_
  cases c59 : sg T e b1 59 with
  | true =>
    refine a_if_ne rfl (fun _ => ?_) (fun z => absurd (show (1 : Int32) = 0 from z) (by decide))
    have es := (if_pos c59).symm.trans es
    refine a_l0 rfl rfl rfl ?_
    refine a_s rfl rfl ?_
    refine a_geti rfl gfX12_81_12 rfl ?_
    refine a_top (y := nI b1) (Pp.pu (Rd.pp h3)) ?_
    refine a_s rfl rfl ?_
    refine a_s rfl rfl ?_
    refine a_top (y := nI (b1 + 1)) ((nI_succ _).symm) ?_
    refine a_puti rfl pfX12_81_12 rfl ?_
    refine a_iv2 (y := nI (ls'.length + 1)) rfl rfl rfl ((nI_succ _).symm) ?_
    refine a_goto rfl ?_
    have n1 := nx_lt (T := T) c1
    have e3 := en_3 (of_decide_eq_true c59).1
    obtain ⟨-, -, x1, x2, x3, x4⟩ := D3
    exact ih (12 - (ls'.length + 1)) _ _ (by omega) ⟨nx T e b1, o1, lnV T e b' o' o1 :: ls', b1 + 1, _, rfl, rfl, ⟨Pp.to (Rd.pp h3) (by omega), by rw [← e3]; rfl, (up2_ne (Or.inr (by decide))).trans x1, by rw [up2_row (by decide)]; exact x2, by rw [up2_row (by decide)]; exact x3, by omega⟩, Fm.up hF3 rfl, by rw [show 12 - (lnV T e b' o' o1 :: ls').length = f from (by show 12 - (ls'.length + 1) = f; omega)]; exact es, by show ls'.length + 1 ≤ 12; omega, rfl⟩
  | false =>
    refine a_if_ne rfl (fun z => absurd rfl z) (fun _ => ?_)
    have es : lawP T e = (false, b1, [], []) := es.symm.trans (if_neg (by rw [c59]; decide))
    refine a_s rfl rfl ?_
    rw [es, if_neg Bool.false_ne_true]
    exact a_iret rfl rfl ⟨rfl, J3, rfl, hF3, fun _ => Rd.be h3, fun z => by cases z⟩
theorem h_throwsIf {z : Bool} {x : Int32} : SpE S m_X12_throwsIf 12 [.ref 420, .int (bI z), .int x] (hp I L w1 w2 t) (some (.int (bI z))) (hp (if z = true then up2 I 420 0 x else I) L w1 w2 t) := by
  refine SpE_of ok_X12_throwsIf rfl rfl ?_
  show AW S m_X12_throwsIf 12 _ _ 0 0 0 [some (.ref 420), some (.int (bI z)), some (.int x)] [] (hp I L w1 w2 t)
  refine a_l1 rfl rfl rfl ?_
  cases z with
  | false =>
    refine a_if_eq rfl (fun _ => ?_) (fun c => absurd rfl c)
    refine a_l1 rfl rfl rfl ?_
    exact a_zret rfl rfl rfl ⟨rfl, rfl⟩
  | true =>
    refine a_if_eq rfl (fun c => absurd c (by decide)) (fun _ => ?_)
    refine a_l0 rfl rfl rfl ?_
    refine a_l2 rfl rfl rfl ?_
    refine a_puti rfl pfX12_3_12 rfl ?_
    refine a_l1 rfl rfl rfl ?_
    exact a_zret rfl rfl rfl ⟨rfl, rfl⟩
/-- behind a law's text: what stands in the world -/
def LwJ (r : LRs) (I J : Nat → Nat → Int32) : Prop := (r.1 = true → J 421 3 = 1 ∧ J 421 335 = nI r.2.2.2.length ∧ ∃ K, RowS K r.2.2.1 ∧ LnW K r.2.2.2 ∧ ∀ k, 1 ≤ k → k < 849 → J 421 (335 + k) = K (1184 + k)) ∧ (r.1 = false → ∀ k, k < 1184 → J 421 k = I 421 k)
theorem h_law (hw : WdS S) (hr : RI nd np I) (hbt : BtT T) (hT : I 426 = T) (h9 : I 420 9 = nI e) (h4 : e ≤ 400) : Sp S m_X12_law 62 0 0 [.ref 420] (hp I L w1 w2 t) (fun v h' => v = some (.int (if (lawP T e).1 = true then nI (lawP T e).2.2.2.length else 0)) ∧ ∃ J, h' = hp J L w1 w2 t ∧ Us nd np I J ∧ J 420 0 = (if (lawP T e).1 = true then 0 else 1) ∧ J 420 14 = (if (lawP T e).1 = true then -1 else nI (lawP T e).2.1) ∧ (∀ q, q ≠ 420 → q ≠ 421 → J q = I q) ∧ LwJ (lawP T e) I J) nX := by
  refine Sp_of ok_X12_law rfl rfl ?_
  show AW S m_X12_law 62 _ _ 0 0 0 [some (.ref 420), none, none] [] (hp I L w1 w2 t)
  have fU : Fm sL I (usH I) := by
    unfold usH
    exact Fm.up (Fm.up (Fm.up (Fm.up Fm.rf rfl) rfl) rfl) rfl
  have u0 : usH I 420 0 = 0 := by
    unfold usH
    rw [up2_ne (Or.inr (by decide)), up2_ne (Or.inr (by decide)), up2_ne (Or.inr (by decide))]
    exact up2_at
  refine a_l0 rfl rfl rfl ?_
  refine a_s rfl rfl ?_
  refine a_gV rfl lX12_239 mo_X12_readAll (h_readAllL hw hbt hT h9 h4) rfl rfl rfl ⟨12, _, rfl, rfl, rfl⟩ rfl (fun v' h' hv => ?_)
  obtain ⟨rfl, J, rfl, hF, hn, hy⟩ := hv
  have hG : GL I J := ⟨Fm.tr fU (Fm.mo hF sG_sL), (hF 420 9 rfl).trans usH_9⟩
  have j0 : J 420 0 = 0 := (hF 420 0 rfl).trans u0
  have other : ∀ q, q ≠ 420 → q ≠ 421 → J q = I q := fun q g1 g2 => by
    rw [show J q = usH I q from funext fun k => hF q k (by unfold sG sR; rw [beqF g1, beqF g2]; rfl), usH_row g1]
  rcases er : lawP T e with ⟨z, b1, o1, l1⟩
  rw [er] at hn hy
  have lok := lawP_ok (T := T) (e := e)
  rw [er] at lok
  cases z with
  | false =>
    refine a_top (y := (-1)) (rfl) ?_
    refine a_s1 rfl rfl rfl rfl rfl rfl ?_
    refine a_l0 rfl rfl rfl ?_
    refine a_l1 rfl rfl rfl ?_
    refine a_if_ge rfl (fun c => absurd c (by decide)) (fun _ => ?_)
    refine a_l0 rfl rfl rfl ?_
    refine a_getiv (v := nI b1) rfl gfX12_91_12 rfl (hn rfl) ?_
    refine a_goto rfl ?_
    refine a_puti rfl pfX12_33_12 rfl ?_
    refine a_l0 rfl rfl rfl ?_
    refine a_l1 rfl rfl rfl ?_
    refine a_if_ge rfl (fun c => absurd c (by decide)) (fun _ => ?_)
    refine a_s rfl rfl ?_
    refine a_goto rfl ?_
    refine a_s rfl rfl ?_
    refine a_eV1 rfl lX12_243 mo_X12_throwsIf (h_throwsIf (z := true)) rfl rfl rfl ⟨12, _, rfl, rfl, rfl⟩ rfl ?_
    rw [if_pos rfl]
    refine a_if_eq rfl (fun c => absurd c (by decide)) (fun _ => ?_)
    refine a_s rfl rfl ?_
    have g2 : GL I (up2 (up2 J 420 14 (nI b1)) 420 0 1) := ⟨Fm.up (Fm.up hG.1 rfl) rfl, (up2_ne (Or.inr (by decide))).trans ((up2_ne (Or.inr (by decide))).trans hG.2)⟩
    refine a_iret rfl rfl ⟨rfl, _, rfl, Us.same hr g2, ?_, ?_, ?_, ?_, ?_⟩
    · exact up2_at
    · exact (up2_ne (Or.inr (by decide))).trans up2_at
    · intro q g1 g3
      rw [up2_row g1, up2_row g1]
      exact other q g1 g3
    · exact fun z => by cases z
    · intro _ k hk
      rw [up2_row (by decide), up2_row (by decide), hF 421 k (sG_lo hk), usH_row (by decide)]
  | true =>
    refine a_top (y := nI l1.length) (rfl) ?_
    obtain ⟨x1, x2, x3, x4, x5⟩ := hy rfl
    have x4 : l1.length ≤ 12 := x4
    have x5 : o1.length ≤ 400 := x5
    refine a_s1 rfl rfl rfl rfl rfl rfl ?_
    refine a_l0 rfl rfl rfl ?_
    refine a_l1 rfl rfl rfl ?_
    refine a_if_ge rfl (fun _ => ?_) (fun c => absurd (nI_0le (k := l1.length) (by omega)) c)
    refine a_s rfl rfl ?_
    refine a_puti rfl pfX12_33_12 rfl ?_
    refine a_l0 rfl rfl rfl ?_
    refine a_l1 rfl rfl rfl ?_
    refine a_if_ge rfl (fun _ => ?_) (fun c => absurd (nI_0le (k := l1.length) (by omega)) c)
    refine a_s rfl rfl ?_
    refine a_s rfl rfl ?_
    refine a_eV1 rfl lX12_243 mo_X12_throwsIf (h_throwsIf (z := false)) rfl rfl rfl ⟨12, _, rfl, rfl, rfl⟩ rfl ?_
    rw [if_neg Bool.false_ne_true]
    generalize hK : up2 J 420 14 (-1) = K
    have gK : GL I K := by
      subst hK
      exact ⟨Fm.up hG.1 rfl, (up2_ne (Or.inr (by decide))).trans hG.2⟩
    have eK : K 421 = J 421 := by
      subst hK
      exact up2_row (by decide)
    have k0 : K 420 0 = 0 := by
      subst hK
      exact (up2_ne (Or.inr (by decide))).trans j0
    have k14 : K 420 14 = -1 := by
      subst hK
      exact up2_at
    have kother : ∀ q, q ≠ 420 → q ≠ 421 → K q = I q := fun q g1 g2 => by
      subst hK
      rw [up2_row g1]
      exact other q g1 g2
    have fin := Us.law (nl := l1.length) hr gK x4 x5 (by rw [eK]; exact LD_of x2 x3 (lok rfl))
    refine a_if_eq rfl (fun _ => ?_) (fun c => absurd rfl c)
    refine a_l0 rfl rfl rfl ?_
    refine a_getq rfl gfX12_13_12 rfl (rfl) ?_
    refine a_s rfl rfl ?_
    refine a_l1 rfl rfl rfl ?_
    refine a_iastv (k := 1184) rfl (n := 2033) rfl ⟨by decide, by decide⟩ rfl ?_
    refine a_s rfl rfl ?_
    refine a_s2 rfl rfl rfl rfl rfl rfl ?_
    refine a_forE (n := 849) (fun j => [some (.ref 420), some (.int (nI l1.length)), some (.int (nI j))]) (fun j => hp (cpR (up2 K 421 1184 (nI l1.length)) 421 335 421 1184 j) L w1 w2 t) (by simp [lsub, nI_0]) (by rw [cpR_0]) ?_ (fun j hj ih => ?_)
    · refine a_l2 rfl rfl rfl ?_
      refine a_s rfl rfl ?_
      refine a_ic_ge rfl (fun _ => ?_) (fun c => absurd (Int32.le_refl _) c)
      refine a_l0 rfl rfl rfl ?_
      refine a_getq rfl gfX12_13_12 rfl (rfl) ?_
      refine a_s rfl rfl ?_
      refine a_s rfl rfl ?_
      refine a_iastv (k := 3) rfl (n := 2033) rfl ⟨by decide, by decide⟩ rfl ?_
      refine a_l0 rfl rfl rfl ?_
      refine a_s rfl rfl ?_
      refine a_puti rfl pfX12_53_12 rfl ?_
      refine a_l1 rfl rfl rfl ?_
      have r0 : ∀ k, k ≠ 7 → lawH K l1.length 420 k = K 420 k := fun k hk => by
        unfold lawH
        rw [up2_ne (Or.inr hk), up2_row (by decide), cpR_row (by decide), up2_row (by decide)]
      refine a_iret rfl rfl ⟨rfl, _, rfl, fin, ?_, ?_, ?_, ?_, ?_⟩
      · exact (r0 0 (by decide)).trans k0
      · exact (r0 14 (by decide)).trans k14
      · intro q g1 g2
        show lawH K l1.length q = I q
        unfold lawH
        rw [up2_row g1, up2_row g2, cpR_row g2, up2_row g2]
        exact kother q g1 g2
      · refine fun _ => ⟨?_, ?_, J 421, x2, x3, fun k k1 k2 => ?_⟩
        · show lawH K l1.length 421 3 = 1
          unfold lawH
          rw [up2_row (by decide)]
          exact up2_at
        · show lawH K l1.length 421 335 = nI l1.length
          unfold lawH
          rw [up2_row (by decide), u2_lo (by decide), show 335 = 335 + 0 by omega, cpR_in (by decide)]
          exact up2_at
        · show lawH K l1.length 421 (335 + k) = _
          unfold lawH
          rw [up2_row (by decide), u2_lo (by omega), cpR_in k2, u2_lo (by omega), eK, Nat.add_comm]
      · exact fun z => by cases z
    · refine a_l2 rfl rfl rfl ?_
      refine a_s rfl rfl ?_
      refine a_ic_ge rfl (fun c => absurd c (nI_ge (b := 849) hj (by omega))) (fun _ => ?_)
      refine a_l0 rfl rfl rfl ?_
      refine a_getq rfl gfX12_13_12 rfl (rfl) ?_
      refine a_s rfl rfl ?_
      refine a_l2 rfl rfl rfl ?_
      refine a_s rfl rfl ?_
      refine a_top (y := nI (335 + j)) (nI_addl 335 j) ?_
      refine a_l0 rfl rfl rfl ?_
      refine a_getq rfl gfX12_13_12 rfl (rfl) ?_
      refine a_s rfl rfl ?_
      refine a_l2 rfl rfl rfl ?_
      refine a_s rfl rfl ?_
      refine a_top (y := nI (1184 + j)) (nI_addl 1184 j) ?_
      refine a_ialdv (v := up2 K 421 1184 (nI l1.length) 421 (j + 1184)) rfl (n := 2033) rfl (inI_nI (by omega) (by omega)) (by rw [nI_clamp (by omega), cpR_out (by omega), Nat.add_comm]) ?_
      refine a_iastv (k := 335 + j) rfl (n := 2033) rfl (inI_nI (by omega) (by omega)) (nI_clamp (by omega)) ?_
      rw [cpR_succ]
      refine a_i2 rfl rfl rfl ?_
      refine a_goto rfl ?_
      exact a_back ih (by simp [lsub, nI_1]) rfl
end T79i
end
section
/-! ===== what a feed writes, on both sides ===== -/
section T79j
variable {S : aS} {I : Nat → Nat → Int32} {L : Nat → Nat → Int64} {w1 w2 t : Nat} {l : Nat} {x1 x2 x3 x4 x5 : Int32}
set_option maxRecDepth 100000
def gvF (x1 x2 x3 x4 x5 : Int32) (q : Nat) : Int32 := if q = 0 then x1 else if q = 1 then x2 else if q = 2 then x3 else if q = 3 then x4 else x5
/-- the j-th of twenty bytes -/
def fbF (x1 x2 x3 x4 x5 : Int32) (j : Nat) : Int32 := byA (gvF x1 x2 x3 x4 x5 (j / 4)) (nI (24 - 8 * (j % 4)))
/-- a tape's row behind j of them -/
def tpF (f : Nat → Int32) (l j : Nat) (x1 x2 x3 x4 x5 : Int32) : Nat → Int32 := fun k => if l ≤ k ∧ k < l + j then fbF x1 x2 x3 x4 x5 (k - l) else f k
theorem tpF_0 {f : Nat → Int32} : tpF f l 0 x1 x2 x3 x4 x5 = f := by
  funext k
  exact if_neg (by omega)
theorem by_ok : ∀ n, n < 256 → (nI n - 128).toInt8.toInt32 = nI n - 128 := by decide +kernel
theorem i8_rng (x : Int8) : ∃ n, n < 256 ∧ x.toInt32 = nI n - 128 := by
  have h1 := Int8.le_toInt x
  have h2 := Int8.toInt_lt x
  refine ⟨(x.toInt + 128).toNat, by omega, ?_⟩
  rw [← Int32.toInt_inj, Int8.toInt_toInt32, Int32.toInt_sub, nI_toInt (by omega), show (128 : Int32).toInt = 128 from rfl, Int.bmod_eq_of_le (by omega) (by omega)]
  omega
theorem tpF_bt {f : Nat → Int32} {j : Nat} (h : BtT f) : BtT (tpF f l j x1 x2 x3 x4 x5) := fun k hk => by
  unfold tpF
  by_cases c : l ≤ k ∧ k < l + j
  · rw [if_pos c]
    exact i8_rng _
  · rw [if_neg c]
    exact h k hk
theorem apH_at {x : Int32} {i : Nat} (hi : i < 4) : apH I l x 202 (l + i) = byA x (nI (24 - 8 * i)) := by
  unfold apH
  rcases i with _ | _ | _ | _ | i
  · rw [up2_row (by decide), up2_ne (Or.inr (by omega)), up2_row (by decide), up2_ne (Or.inr (by omega)), up2_row (by decide), up2_ne (Or.inr (by omega)), up2_row (by decide)]
    exact up2_at
  · rw [up2_row (by decide), up2_ne (Or.inr (by omega)), up2_row (by decide), up2_ne (Or.inr (by omega)), up2_row (by decide)]
    exact up2_at
  · rw [up2_row (by decide), up2_ne (Or.inr (by omega)), up2_row (by decide)]
    exact up2_at
  · rw [up2_row (by decide)]
    exact up2_at
  · omega
theorem apH_out {x : Int32} {k : Nat} (h : k < l ∨ l + 4 ≤ k) : apH I l x 202 k = I 202 k := by
  unfold apH
  rw [up2_row (by decide), up2_ne (Or.inr (by omega)), up2_row (by decide), up2_ne (Or.inr (by omega)), up2_row (by decide), up2_ne (Or.inr (by omega)), up2_row (by decide), up2_ne (Or.inr (by omega))]
/-- a block of four -/
theorem fbF_4 {q i : Nat} (hi : i < 4) : fbF x1 x2 x3 x4 x5 (4 * q + i) = byA (gvF x1 x2 x3 x4 x5 q) (nI (24 - 8 * i)) := by
  unfold fbF
  rw [show (4 * q + i) / 4 = q by omega, show (4 * q + i) % 4 = i by omega]
theorem fdH_202 : fdH I l x1 x2 x3 x4 x5 202 = tpF (I 202) l 20 x1 x2 x3 x4 x5 := by
  funext k
  unfold tpF
  by_cases c : l ≤ k ∧ k < l + 20
  · rw [if_pos c]
    obtain ⟨q, i, hq, hi, e⟩ : ∃ q i, q < 5 ∧ i < 4 ∧ k - l = 4 * q + i := ⟨(k - l) / 4, (k - l) % 4, by omega, by omega, by omega⟩
    rw [e, fbF_4 hi]
    unfold fdH
    rcases q with _ | _ | _ | _ | _ | q
    · rw [apH_out (by omega), apH_out (by omega), apH_out (by omega), apH_out (by omega), show k = l + i by omega, apH_at hi]
      rfl
    · rw [apH_out (by omega), apH_out (by omega), apH_out (by omega), show k = l + 4 + i by omega, apH_at hi]
      rfl
    · rw [apH_out (by omega), apH_out (by omega), show k = l + 8 + i by omega, apH_at hi]
      rfl
    · rw [apH_out (by omega), show k = l + 12 + i by omega, apH_at hi]
      rfl
    · rw [show k = l + 16 + i by omega, apH_at hi]
      rfl
    · omega
  · rw [if_neg c]
    unfold fdH
    rw [apH_out (by omega), apH_out (by omega), apH_out (by omega), apH_out (by omega), apH_out (by omega)]
theorem up_tp {J : Nat → Nat → Int32} {f g : Nat → Int32} {j : Nat} : up2 (upr (upr J 427 g) 426 (tpF f l j x1 x2 x3 x4 x5)) 426 (l + j) (fbF x1 x2 x3 x4 x5 j) = upr (upr J 427 g) 426 (tpF f l (j + 1) x1 x2 x3 x4 x5) := by
  funext q k
  by_cases hq : q = 426
  · subst hq
    rw [upr_at]
    unfold tpF
    by_cases hk : k = l + j
    · subst hk
      rw [up2_at, if_pos (by omega), show l + j - l = j by omega]
    · rw [up2_ne (Or.inr hk), upr_at]
      by_cases c5 : l ≤ k ∧ k < l + j
      · rw [if_pos c5, if_pos (by omega)]
      · rw [if_neg c5, if_neg (by omega)]
  · rw [upr_row hq, up2_row hq, upr_row hq]
theorem sh_ok : ∀ j, j < 20 → 24 - 8 * (nI j - nI j / 4 * 4) = nI (24 - 8 * (j % 4)) := by decide +kernel
theorem h_feed (hl : I 420 9 = nI l) (h4 : l ≤ 400) : Sp S m_X12_feed 12 0 0 [.ref 420, .int x1, .int x2, .int x3, .int x4, .int x5] (hp I L w1 w2 t) (fun v h' => v = some (.int (if l + 20 ≤ 400 then nI (l + 20) else -1)) ∧ ∃ g, h' = hp (if l + 20 ≤ 400 then up2 (upr (upr (up2 I 420 0 0) 427 g) 426 (tpF (I 426) l 20 x1 x2 x3 x4 x5)) 420 9 (nI (l + 20)) else up2 I 420 0 0) L w1 w2 t) nX := by
  refine Sp_of ok_X12_feed rfl rfl ?_
  show AW S m_X12_feed 12 _ _ 0 0 0 [some (.ref 420), some (.int x1), some (.int x2), some (.int x3), some (.int x4), some (.int x5), none] [] (hp I L w1 w2 t)
  refine a_l0 rfl rfl rfl ?_
  refine a_s rfl rfl ?_
  refine a_puti rfl pfX12_3_12 rfl ?_
  refine a_l0 rfl rfl rfl ?_
  refine a_geti rfl gfX12_78_12 rfl ?_
  refine a_top (y := nI l) ((up2_ne (Or.inr (by decide))).trans hl) ?_
  refine a_s rfl rfl ?_
  refine a_s rfl rfl ?_
  refine a_top (y := nI (l + 20)) (nI_addl l 20) ?_
  refine a_s rfl rfl ?_
  refine a_ic_le rfl (fun c => ?_) (fun c => ?_)
  · have hc : l + 20 ≤ 400 := nI_ge_of (a := 400) (b := l + 20) c (by decide) (by omega)
    simp only [if_pos hc]
    refine a_l0 rfl rfl rfl ?_
    refine a_getq rfl gfX12_36_12 rfl (rfl) ?_
    refine a_s rfl rfl ?_
    refine a_l1 rfl rfl rfl ?_
    refine a_iastv (k := 0) rfl (n := 5) rfl ⟨by decide, by decide⟩ rfl ?_
    refine a_l0 rfl rfl rfl ?_
    refine a_getq rfl gfX12_36_12 rfl (rfl) ?_
    refine a_s rfl rfl ?_
    refine a_l2 rfl rfl rfl ?_
    refine a_iastv (k := 1) rfl (n := 5) rfl ⟨by decide, by decide⟩ rfl ?_
    refine a_l0 rfl rfl rfl ?_
    refine a_getq rfl gfX12_36_12 rfl (rfl) ?_
    refine a_s rfl rfl ?_
    refine a_l3 rfl rfl rfl ?_
    refine a_iastv (k := 2) rfl (n := 5) rfl ⟨by decide, by decide⟩ rfl ?_
    refine a_l0 rfl rfl rfl ?_
    refine a_getq rfl gfX12_36_12 rfl (rfl) ?_
    refine a_s rfl rfl ?_
    refine a_l4 rfl rfl rfl ?_
    refine a_iastv (k := 3) rfl (n := 5) rfl ⟨by decide, by decide⟩ rfl ?_
    refine a_l0 rfl rfl rfl ?_
    refine a_getq rfl gfX12_36_12 rfl (rfl) ?_
    refine a_s rfl rfl ?_
    refine a_l5 rfl rfl rfl ?_
    refine a_iastv (k := 4) rfl (n := 5) rfl ⟨by decide, by decide⟩ rfl ?_
    obtain ⟨g, eg, hg⟩ : ∃ g, up2 (up2 (up2 (up2 (up2 (up2 I 420 0 0) 427 0 x1) 427 1 x2) 427 2 x3) 427 3 x4) 427 4 x5 = upr (up2 I 420 0 0) 427 g ∧ ∀ q, q < 5 → g q = gvF x1 x2 x3 x4 x5 q := ⟨up2 (up2 (up2 (up2 (up2 (up2 I 420 0 0) 427 0 x1) 427 1 x2) 427 2 x3) 427 3 x4) 427 4 x5 427, by
      funext q
      by_cases hq : q = 427
      · subst hq
        rw [upr_at]
      · rw [upr_row hq, up2_row hq, up2_row hq, up2_row hq, up2_row hq, up2_row hq], fun q hq => by
      rcases q with _ | _ | _ | _ | _ | q
      · rw [up2_ne (Or.inr (by decide)), up2_ne (Or.inr (by decide)), up2_ne (Or.inr (by decide)), up2_ne (Or.inr (by decide)), up2_at]
        rfl
      · rw [up2_ne (Or.inr (by decide)), up2_ne (Or.inr (by decide)), up2_ne (Or.inr (by decide)), up2_at]
        rfl
      · rw [up2_ne (Or.inr (by decide)), up2_ne (Or.inr (by decide)), up2_at]
        rfl
      · rw [up2_ne (Or.inr (by decide)), up2_at]
        rfl
      · rw [up2_at]
        rfl
      · omega⟩
    rw [eg]
    refine a_s rfl rfl ?_
    refine a_s6 rfl rfl rfl rfl rfl rfl ?_
    refine a_inv (n := 20) (fun m ls h => ∃ j, j + m = 20 ∧ ls = [some (.ref 420), some (.int x1), some (.int x2), some (.int x3), some (.int x4), some (.int x5), some (.int (nI j))] ∧ h = hp (upr (upr (up2 I 420 0 0) 427 g) 426 (tpF (I 426) l j x1 x2 x3 x4 x5)) L w1 w2 t) ⟨0, rfl, rfl, by
      rw [tpF_0]
      congr 1
      congr 1
      funext q
      by_cases hq : q = 426
      · subst hq
        rw [upr_at, upr_row (by decide), up2_row (by decide)]
      · rw [upr_row hq]⟩ ?_
    rintro m _ _ ⟨j, hj, rfl, rfl⟩ ih
    refine a_l6 rfl rfl rfl ?_
    refine a_s rfl rfl ?_
    refine a_ic_ge rfl (fun c2 => ?_) (fun c2 => ?_)
    · refine a_l0 rfl rfl rfl ?_
      refine a_s rfl rfl ?_
      refine a_geti rfl gfX12_78_12 rfl ?_
      refine a_top (y := nI l) (by rw [upr_row (by decide), upr_row (by decide)]; exact (up2_ne (Or.inr (by decide))).trans hl) ?_
      refine a_s rfl rfl ?_
      refine a_s rfl rfl ?_
      refine a_top (y := nI (l + 20)) (nI_addl l 20) ?_
      refine a_puti rfl pfX12_78_12 rfl ?_
      refine a_l0 rfl rfl rfl ?_
      refine a_geti rfl gfX12_78_12 rfl ?_
      refine a_top (y := nI (l + 20)) up2_at ?_
      have hge := nI_ge_of (b := 20) c2 (by omega) (by decide)
      obtain rfl : j = 20 := by omega
      exact a_iret rfl rfl ⟨rfl, g, rfl⟩
    · have hj2 : j < 20 := nI_lt_of (b := 20) c2 (by omega) (by decide)
      refine a_l0 rfl rfl rfl ?_
      refine a_getq rfl gfX12_29_12 rfl (rfl) ?_
      refine a_l0 rfl rfl rfl ?_
      refine a_geti rfl gfX12_78_12 rfl ?_
      refine a_top (y := nI l) (by rw [upr_row (by decide), upr_row (by decide)]; exact (up2_ne (Or.inr (by decide))).trans hl) ?_
      refine a_l6 rfl rfl rfl ?_
      refine a_s rfl rfl ?_
      refine a_top (y := nI (l + j)) (nI_addl l j) ?_
      refine a_l0 rfl rfl rfl ?_
      refine a_getq rfl gfX12_36_12 rfl (rfl) ?_
      refine a_l6 rfl rfl rfl ?_
      refine a_s rfl rfl ?_
      refine a_idiv rfl (by decide) ?_
      refine a_top (y := nI (j / 4)) (nI_div4 j hj2).1 ?_
      refine a_iald rfl (n := 5) rfl (inI_nI (by omega) (by omega)) ?_
      refine a_s rfl rfl ?_
      refine a_s rfl rfl ?_
      refine a_l6 rfl rfl rfl ?_
      refine a_s rfl rfl ?_
      refine a_irem rfl (by decide) ?_
      refine a_s rfl rfl ?_
      refine a_s rfl rfl ?_
      refine a_s rfl rfl ?_
      refine a_s rfl rfl ?_
      refine a_top (y := fbF x1 x2 x3 x4 x5 j) (by rw [upr_row (by decide), upr_at, nI_clamp (by omega), hg (j / 4) (by omega), sh_ok j hj2]; rfl) ?_
      refine a_bastv (k := l + j) rfl (n := 400) rfl (inI_nI (by omega) (by omega)) (by unfold fbF byA; exact i2b_id _) (nI_clamp (by omega)) ?_
      rw [up_tp]
      refine a_i6 rfl rfl rfl ?_
      refine a_goto rfl ?_
      exact a_less (ih (m - 1) _ _ (by omega) ⟨j + 1, by omega, rfl, rfl⟩) ⟨rfl, rfl, rfl, rfl, rfl, rfl, nS _, trivial⟩
  · have hc : ¬ l + 20 ≤ 400 := fun z => c (nI_leu z (by decide))
    simp only [if_neg hc]
    refine a_s rfl rfl ?_
    exact a_iret rfl rfl ⟨rfl, I 427, rfl⟩
end T79j
end
section
/-! ===== law, on both sides, as the law's round calls it ===== -/
section T79k
variable {S : aS} {I : Nat → Nat → Int32} {L : Nat → Nat → Int64} {w1 w2 t : Nat} {e : Nat} {T : Nat → Int32}
set_option maxRecDepth 100000
theorem f_clear : SpE S m_X2_clear 12 [.ref 226] (hp I L w1 w2 t) none (hp (up2 (up2 I 226 0 0) 226 1 0) L w1 w2 t) := by
  refine SpE_of ok_X2_clear rfl rfl ?_
  show AW S m_X2_clear 12 _ _ 0 0 0 [some (.ref 226)] [] (hp I L w1 w2 t)
  refine a_l0 rfl rfl rfl ?_
  refine a_s rfl rfl ?_
  refine a_puti rfl pfX2_11_2 rfl ?_
  refine a_l0 rfl rfl rfl ?_
  refine a_s rfl rfl ?_
  refine a_puti rfl pfX2_41_2 rfl ?_
  exact a_vret rfl rfl ⟨rfl, rfl⟩
theorem sW_sM : ∀ q k, sW q k = true → sM q k = true := fun q k h => by
  have B : ∀ {a b : Nat}, Nat.beq a b = true → a = b := fun z => Nat.eq_of_beq_eq_true z
  have E : ∀ {a b : Nat}, Nat.ble a b = true → a ≤ b := fun z => Nat.le_of_ble_eq_true z
  have hq : (221 ≤ q ∧ q ≤ 234) ∨ (q = 220 ∧ (k = 4 ∨ k = 5)) := by
    simp only [sW, sC, Bool.or_eq_true, Bool.and_eq_true] at h
    rcases h with (h | h | h | ⟨h, h' | h'⟩ | ⟨h, h'⟩) | ⟨h, h'⟩ | ⟨h, h'⟩ | ⟨h, h'⟩
    · have := B h; omega
    · have := B h; omega
    · have := B h; omega
    · have := B h; have := B h'; omega
    · have := B h; have := B h'; omega
    · have := B h; omega
    · have := E h; have := E h'; omega
    · have := E h; have := E h'; omega
    · have := B h; omega
  rcases hq with hq | ⟨rfl, rfl | rfl⟩
  · exact sM_mid (by omega) (by omega) fun z => by have := isSt_lt q (by omega) z; omega
  · rfl
  · rfl
/-- the class's law behind a text -/
def LwC (r : LRs) (J : Nat → Nat → Int32) : Prop := J 200 3 = -1 ∧ J 200 13 = 0 ∧ J 246 0 = nI r.2.2.2.length ∧ LnL (J 247) (J 248) (J 249) (J 250) r.2.2.2 ∧ RowL (J 251) r.2.2.1
theorem f_lawC (hw : WdS S) (he : I 201 1 = nI e) (h4 : e ≤ 400) (hbt : BtT T) (hT : I 202 = T) (hm : I 220 1 = 12) : Sp S m_X11_law 21 1 6 [.ref 200] (hp I L w1 w2 t) (fun v h' => v = some (.int (nI (lawP T e).2.2.2.length)) ∧ (lawP T e).1 = true ∧ ∃ J w, h' = hp J L w1 w t ∧ WK w ∧ Mt0 I J ∧ LwC (lawP T e) J) (fun E h' => E = exN 1 ∧ (lawP T e).1 = false ∧ ∃ J w, h' = hp J L w1 w 0 ∧ WK w ∧ Mt0 I J ∧ J 200 3 = nI (lawP T e).2.1) := by
  refine Sp_of ok_X11_law rfl rfl ?_
  show AW S m_X11_law 21 _ _ 1 6 0 [some (.ref 200)] [] (hp I L w1 w2 t)
  refine a_l0 rfl rfl rfl ?_
  refine a_getq rfl gfX11_26_11 rfl (rfl) ?_
  refine a_getq rfl gfX11_98_3 rfl (rfl) ?_
  refine a_eV0 rfl lX11_100 mo_X2_clear f_clear rfl rfl rfl ⟨2, _, rfl, rfl, rfl⟩ rfl ?_
  refine a_l0 rfl rfl rfl ?_
  refine a_l0 rfl rfl rfl ?_
  refine a_getq rfl gfX11_26_11 rfl (rfl) ?_
  refine a_l0 rfl rfl rfl ?_
  refine a_getq rfl gfX11_10_11 rfl (rfl) ?_
  have g1 : ∀ q, q ≠ 226 → up2 (up2 I 226 0 0) 226 1 0 q = I q := fun q hq => by rw [up2_row hq, up2_row hq]
  refine a_callU rfl lu_103 dc_readLines mo_X8_readLines hx_rl (f_readLines hw ((congrFun (g1 201 (by decide)) 1).trans he) h4 (by rw [g1 202 (by decide), hT]; exact hbt) ((congrFun (g1 220 (by decide)) 1).trans hm) ((up2_ne (Or.inr (by decide))).trans up2_at) up2_at) rfl rfl rfl ⟨3, _, rfl, rfl, rfl⟩ rfl (fun v' h' hv => ?_) (fun _ _ z => False.elim z)
  rw [g1 202 (by decide), hT] at hv
  obtain ⟨rfl, J, w, rfl, hww, hF, hy⟩ := hv
  have fM : Mt I J := Mt.of (Fm.tr (Fm.up (Fm.up Fm.rf rfl) rfl) (Fm.mo hF sW_sM))
  rcases er : lawP T e with ⟨z, b1, o1, l1⟩
  rw [er] at hy
  cases z with
  | false =>
    rw [if_neg Bool.false_ne_true]
    refine a_puti rfl pfX11_30_11 rfl ?_
    refine a_l0 rfl rfl rfl ?_
    refine a_getq rfl gfX11_10_11 rfl (rfl) ?_
    refine a_s rfl rfl ?_
    refine a_puti rfl pfX11_68_7 rfl ?_
    have fM0 : Mt0 I (up2 (up2 J 200 3 (nI b1)) 201 1 0) := Mt0.mk (Mt.fm fM (Fm.up Fm.rf rfl))
    have e3 : up2 (up2 J 200 3 (nI b1)) 201 1 0 200 3 = nI b1 := (congrFun (up2_row (by decide)) 3).trans up2_at
    refine a_l0 rfl rfl rfl ?_
    refine a_getiv (v := nI b1) rfl gfX11_30_11 rfl (e3) ?_
    refine a_s rfl rfl ?_
    have hb1 : b1 < 2 ^ 31 := by
      have := lawP_le (T := T) (e := e)
      rw [er] at this
      have this : b1 ≤ e := this
      omega
    refine a_ic_eq rfl (fun c => absurd c ?_) (fun _ => ?_)
    · intro z
      have := nI_pos hb1
      rw [z] at this
      exact this (by decide)
    exact a_throw rfl rfl rfl rfl tX11_iae rfl rfl rfl rfl rfl ⟨rfl, rfl, _, w, rfl, hww, fM0, e3⟩
  | true =>
    rw [if_pos rfl]
    obtain ⟨y1, y2, y3, y4, -, -⟩ := hy rfl
    refine a_puti rfl pfX11_30_11 rfl ?_
    refine a_l0 rfl rfl rfl ?_
    refine a_getq rfl gfX11_10_11 rfl (rfl) ?_
    refine a_s rfl rfl ?_
    refine a_puti rfl pfX11_68_7 rfl ?_
    have fM0 : Mt0 I (up2 (up2 J 200 3 (-1)) 201 1 0) := Mt0.mk (Mt.fm fM (Fm.up Fm.rf rfl))
    refine a_l0 rfl rfl rfl ?_
    refine a_getiv (v := (-1)) rfl gfX11_30_11 rfl ((congrFun (up2_row (by decide)) 3).trans up2_at) ?_
    refine a_s rfl rfl ?_
    refine a_ic_eq rfl (fun _ => ?_) (fun c => absurd rfl c)
    refine a_l0 rfl rfl rfl ?_
    refine a_getq rfl gfX11_44_11 rfl (rfl) ?_
    refine a_l0 rfl rfl rfl ?_
    refine a_getq rfl gfX11_26_11 rfl (rfl) ?_
    refine a_getq rfl gfX11_98_3 rfl (rfl) ?_
    refine a_eV0 rfl lX11_104 mo_X2_copyFrom (sp_X2_copyFrom (a := 246) (b := 226) (by decide) (by decide) (by decide)) rfl rfl rfl ⟨2, _, rfl, rfl, rfl⟩ rfl ?_
    refine a_l0 rfl rfl rfl ?_
    refine a_s rfl rfl ?_
    refine a_puti rfl pfX11_95_11 rfl ?_
    have fM1 : Mt0 I (up2 (cpL (up2 (up2 J 200 3 (-1)) 201 1 0) 246 226) 200 13 0) := Mt0.fm (Mt0.fm fM0 (Fm.cl (Fm.rf (s := sM)) (by decide) Fm_l246)) (Fm.up Fm.rf rfl)
    have r0 : ∀ k, up2 (cpL (up2 (up2 J 200 3 (-1)) 201 1 0) 246 226) 200 13 0 246 k = cpL (up2 (up2 J 200 3 (-1)) 201 1 0) 246 226 246 k := fun k => congrFun (up2_row (by decide)) k
    have e0 : up2 (cpL (up2 (up2 J 200 3 (-1)) 201 1 0) 246 226) 200 13 0 246 0 = nI l1.length := by
      rw [r0]
      unfold cpL
      rw [up2_at, up2_row (by decide), up2_row (by decide)]
      exact y3
    have ri : ∀ i, i < 5 → up2 (cpL (up2 (up2 J 200 3 (-1)) 201 1 0) 246 226) 200 13 0 (247 + i) = J (227 + i) := fun i hi => by
      rw [up2_row (by omega)]
      unfold cpL
      rw [up2_row (by omega), show 247 + i = 246 + 1 + i from rfl, cpS_in hi, up2_row (by omega), up2_row (by omega)]
    refine a_l0 rfl rfl rfl ?_
    refine a_getq rfl gfX11_44_11 rfl (rfl) ?_
    refine a_getiv (v := nI l1.length) rfl gfX11_107_2 rfl (e0) ?_
    refine a_iret rfl rfl ⟨rfl, rfl, _, w, rfl, hww, fM1, ?_, up2_at, e0, ?_, ?_⟩
    · rw [up2_ne (Or.inr (by decide))]
      unfold cpL
      rw [up2_row (by decide), cpS_out (by decide), up2_row (by decide)]
      exact up2_at
    · rw [show (247 : Nat) = 247 + 0 from rfl, show (248 : Nat) = 247 + 1 from rfl, show (249 : Nat) = 247 + 2 from rfl, show (250 : Nat) = 247 + 3 from rfl, ri 0 (by decide), ri 1 (by decide), ri 2 (by decide), ri 3 (by decide)]
      exact y4
    · rw [show (251 : Nat) = 247 + 4 from rfl, ri 4 (by decide)]
      exact y2
theorem h_thrown : SpE S m_X12_thrown 12 [.ref 420] (hp I L w1 w2 t) (some (.int (I 420 0))) (hp I L w1 w2 t) := by
  refine SpE_of ok_X12_thrown rfl rfl ?_
  show AW S m_X12_thrown 12 _ _ 0 0 0 [some (.ref 420)] [] (hp I L w1 w2 t)
  refine a_l0 rfl rfl rfl ?_
  refine a_geti rfl gfX12_3_12 rfl ?_
  exact a_iret rfl rfl ⟨rfl, rfl⟩
/-- both tapes hold the same, bytes; the readers' bounds are what they were made -/
def Tp (I : Nat → Nat → Int32) : Prop := I 426 = I 202 ∧ BtT (I 202) ∧ I 203 1 = 14 ∧ I 220 1 = 12
theorem Tp.eq {J : Nat → Nat → Int32} (h : Tp I) (e6 : J 426 = I 426) (e2 : J 202 = I 202) (a : J 203 1 = I 203 1) (b : J 220 1 = I 220 1) : Tp J := ⟨e6.trans (h.1.trans e2.symm), by rw [e2]; exact h.2.1, a.trans h.2.2.1, b.trans h.2.2.2⟩
theorem Tp.m {J : Nat → Nat → Int32} (h : Tp I) (f : Mt I J) : Tp J := h.eq (f.1 426 (by decide)) f.2.2.2.2.1 f.2.2.2.2.2.1 f.2.2.2.2.2.2
theorem Tp.r {J : Nat → Nat → Int32} (h : Tp I) (g : ∀ q, (q < 420 ∨ q = 426) → J q = I q) : Tp J := h.eq (g 426 (Or.inr rfl)) (g 202 (by decide)) (by rw [g 203 (by decide)]) (by rw [g 220 (by decide)])
theorem Tp.f {J : Nat → Nat → Int32} (h : Tp I) (g : ∀ q, q ≠ 201 → q ≠ 420 → J q = I q) : Tp J := h.eq (g 426 (by decide) (by decide)) (g 202 (by decide) (by decide)) (by rw [g 203 (by decide) (by decide)]) (by rw [g 220 (by decide) (by decide)])
end T79k
end
section
/-! ===== the class's tokens of the street's reader (printed by program) ===== -/
section T79l
variable {S : aS} {I : Nat → Nat → Int32} {L : Nat → Nat → Int64} {w1 w2 t : Nat} {e n j b : Nat} {T : Nat → Int32}
set_option maxRecDepth 100000
def opHs (I : Nat → Nat → Int32) (n : Nat) (x y : Int32) : Nat → Nat → Int32 := up2 (up2 (up2 (up2 I 205 n x) 206 n y) 207 n y) 204 4 (nI (n + 1))
theorem s_open (h4 : I 204 4 = nI n) (hn : n < 401) {x y : Int32} : SpE S m_X9_open 13 [.ref 204, .int x, .int y] (hp I L w1 w2 t) none (hp (opHs I n x y) L w1 w2 t) := by
  refine SpE_of ok_X9_open rfl rfl ?_
  show AW S m_X9_open 13 _ _ 0 0 0 [some (.ref 204), some (.int x), some (.int y)] [] (hp I L w1 w2 t)
  refine a_l0 rfl rfl rfl ?_
  refine a_getq rfl gfX9_9_9 rfl (rfl) ?_
  refine a_l0 rfl rfl rfl ?_
  refine a_getiv (v := nI n) rfl gfX9_24_9 rfl (h4) ?_
  refine a_l1 rfl rfl rfl ?_
  refine a_eSN0 rfl lX9_44 mo_X11_setAt (sp_X11_setAt rfl) rfl rfl rfl rfl ?_
  rw [setF_nI hn (by decide)]
  refine a_l0 rfl rfl rfl ?_
  refine a_getq rfl gfX9_15_9 rfl (rfl) ?_
  refine a_l0 rfl rfl rfl ?_
  refine a_getiv (v := nI n) rfl gfX9_24_9 rfl ((congrFun (up2_row (by decide)) 4).trans h4) ?_
  refine a_l2 rfl rfl rfl ?_
  refine a_eSN0 rfl lX9_44 mo_X11_setAt (sp_X11_setAt rfl) rfl rfl rfl rfl ?_
  rw [setF_nI hn (by decide)]
  refine a_l0 rfl rfl rfl ?_
  refine a_getq rfl gfX9_18_9 rfl (rfl) ?_
  refine a_l0 rfl rfl rfl ?_
  refine a_getiv (v := nI n) rfl gfX9_24_9 rfl ((congrFun (up2_row (by decide)) 4).trans ((congrFun (up2_row (by decide)) 4).trans h4)) ?_
  refine a_l2 rfl rfl rfl ?_
  refine a_eSN0 rfl lX9_44 mo_X11_setAt (sp_X11_setAt rfl) rfl rfl rfl rfl ?_
  rw [setF_nI hn (by decide)]
  refine a_l0 rfl rfl rfl ?_
  refine a_s rfl rfl ?_
  refine a_getiv (v := nI n) rfl gfX9_24_9 rfl ((congrFun (up2_row (by decide)) 4).trans ((congrFun (up2_row (by decide)) 4).trans ((congrFun (up2_row (by decide)) 4).trans h4))) ?_
  refine a_s rfl rfl ?_
  refine a_s rfl rfl ?_
  refine a_top (y := nI (n + 1)) ((nI_succ n).symm) ?_
  refine a_puti rfl pfX9_24_9 rfl ?_
  exact a_vret rfl rfl ⟨rfl, rfl⟩
def TkJs (I : Nat → Nat → Int32) (e j b : Nat) : Prop := I 205 j = nI (kd (I 202) e b) ∧ I 206 j = nI b ∧ I 207 j = nI (en (I 202) e b)
theorem s_isText (hw : WdS S) (he : I 201 1 = nI e) (h4 : e ≤ 400) (hbt : BtT (I 202)) (hj : j < 401) (hb : b < e) (hk : kd (I 202) e b = 1) (hT : TkJs I e j b) {k : Nat} (hk3 : k < 27) : SpE S m_X9_isText 16 [.ref 204, .ref 201, .int (nI j), .ref (130 + k)] (hp I L w1 w2 t) (some (.int (bI (isW (I 202) b (en (I 202) e b - b) k)))) (hp I L w1 w2 t) := by
  have h1 := en_ge (T := I 202) (e := e) (b := b)
  have h2 := en_le (T := I 202) (Nat.le_of_lt hb)
  have h3 := wLen_lt k hk3
  obtain ⟨-, t2, t3⟩ := hT
  refine SpE_of ok_X9_isText rfl rfl ?_
  show AW S m_X9_isText 16 _ _ 0 0 0 [some (.ref 204), some (.ref 201), some (.int (nI j)), some (.ref (130 + k)), none, none] [] (hp I L w1 w2 t)
  refine a_l0 rfl rfl rfl ?_
  refine a_getq rfl gfX9_15_9 rfl (rfl) ?_
  refine a_l2 rfl rfl rfl ?_
  refine a_eSN1 rfl lX9_58 mo_X11_at (sp_X11_at rfl) rfl rfl rfl rfl ?_
  refine a_top (y := nI b) ((atF_nI hj (by decide)).trans t2) ?_
  refine a_s4 rfl rfl rfl rfl rfl rfl ?_
  refine a_l0 rfl rfl rfl ?_
  refine a_getq rfl gfX9_18_9 rfl (rfl) ?_
  refine a_l2 rfl rfl rfl ?_
  refine a_eSN1 rfl lX9_58 mo_X11_at (sp_X11_at rfl) rfl rfl rfl rfl ?_
  refine a_top (y := nI (en (I 202) e b)) ((atF_nI hj (by decide)).trans t3) ?_
  refine a_l4 rfl rfl rfl ?_
  refine a_s rfl rfl ?_
  refine a_top (y := nI (en (I 202) e b - b)) (nI_sub h1) ?_
  refine a_l3 rfl rfl rfl ?_
  refine a_eK1 rfl lX9_82 mo_J0_length_8abf5 (q_strlen hw hk3) rfl rfl rfl (hw.so hk3) rfl ?_
  refine a_ic_eq rfl (fun c => ?_) (fun c => ?_)
  rotate_left
  · refine a_s rfl rfl ?_
    refine a_zret rfl rfl rfl ⟨?_, rfl⟩
    rw [show isW (I 202) b (en (I 202) e b - b) k = false from decide_eq_false fun z => c (congrArg nI z.1)]
    rfl
  have hl : en (I 202) e b - b = wLen k := nI_inj (by omega) h3 c
  refine a_s rfl rfl ?_
  refine a_s5 rfl rfl rfl rfl rfl rfl ?_
  refine a_inv (n := wLen k) (fun m ls h => ∃ i, ls = [some (.ref 204), some (.ref 201), some (.int (nI j)), some (.ref (130 + k)), some (.int (nI b)), some (.int (nI i))] ∧ h = hp I L w1 w2 t ∧ i ≤ wLen k ∧ m = wLen k - i ∧ ∀ q, q < i → I 202 (b + q) = wC k q) ⟨0, rfl, rfl, Nat.zero_le _, rfl, fun q hq => absurd hq (Nat.not_lt_zero _)⟩ ?_
  rintro m _ _ ⟨i, rfl, rfl, hi, hm, hq⟩ ih
  refine a_l5 rfl rfl rfl ?_
  refine a_l3 rfl rfl rfl ?_
  refine a_eK1 rfl lX9_82 mo_J0_length_8abf5 (q_strlen hw hk3) rfl rfl rfl (hw.so hk3) rfl ?_
  refine a_ic_ge rfl (fun c2 => ?_) (fun c2 => ?_)
  · have hge := nI_ge_of c2 (by omega) h3
    refine a_s rfl rfl ?_
    refine a_zret rfl rfl rfl ⟨?_, rfl⟩
    rw [show isW (I 202) b (en (I 202) e b - b) k = true from decide_eq_true ⟨hl, fun q hq2 => hq q (by omega)⟩]
    rfl
  have hil : i < wLen k := nI_lt_of c2 (by omega) h3
  refine a_l1 rfl rfl rfl ?_
  refine a_l4 rfl rfl rfl ?_
  refine a_l5 rfl rfl rfl ?_
  refine a_s rfl rfl ?_
  refine a_top (y := nI (b + i)) (nI_addl b i) ?_
  refine a_eV1 rfl lX9_33 mo_X7_byteAt (f_byteAt he h4 (by omega)) rfl rfl rfl ⟨7, _, rfl, rfl, rfl⟩ rfl ?_
  have hbi : b + i < e := by omega
  refine a_top (y := I 202 (b + i) &&& 255) (if_pos hbi) ?_
  have hkc : kcF (I 202 (b + i)) = 1 := by
    rw [en_1 hk] at hl
    exact isK_kc (rn_all (T := I 202) (e := e) (k := 1) (p := b) (Nat.le_add_right _ _) (by omega))
  obtain ⟨x, hx, ex⟩ := hbt (b + i) (by omega)
  have e255 : I 202 (b + i) &&& 255 = I 202 (b + i) := by
    rw [ex] at hkc ⊢
    exact bt_lt x hx hkc
  refine a_top (y := I 202 (b + i)) (e255) ?_
  refine a_l3 rfl rfl rfl ?_
  refine a_l5 rfl rfl rfl ?_
  refine a_eK1 rfl lX9_87 mo_J0_charAt_5068e (q_charAt hw hk3 hil) rfl rfl rfl (hw.so hk3) rfl ?_
  refine a_ic_eq rfl (fun c3 => ?_) (fun c3 => ?_)
  · refine a_iv5 (y := nI (i + 1)) rfl rfl rfl ((nI_succ i).symm) ?_
    refine a_goto rfl ?_
    refine ih (wLen k - (i + 1)) _ _ (by omega) ⟨i + 1, rfl, rfl, by omega, rfl, fun q hq2 => ?_⟩
    by_cases c4 : q = i
    · rw [c4]
      exact c3
    · exact hq q (by omega)
  · refine a_s rfl rfl ?_
    refine a_zret rfl rfl rfl ⟨?_, rfl⟩
    rw [show isW (I 202) b (en (I 202) e b - b) k = false from decide_eq_false fun z => c3 (z.2 i hil)]
    rfl
theorem s_wordOf (hw : WdS S) (he : I 201 1 = nI e) (h4 : e ≤ 400) (hbt : BtT (I 202)) (hj : j < 401) (hb : b < e) (hk : kd (I 202) e b = 1) (hT : TkJs I e j b) : SpE S m_X9_wordOf 17 [.ref 204, .ref 201, .int (nI j)] (hp I L w1 w2 t) (some (.int (if wd (I 202) e b < 27 then nI (wd (I 202) e b) else -1))) (hp I L w1 w2 t) := by
  have hs := srA_all (isW (I 202) b (en (I 202) e b - b)) 27 0
  refine SpE_of ok_X9_wordOf rfl rfl ?_
  show AW S m_X9_wordOf 17 _ _ 0 0 0 [some (.ref 204), some (.ref 201), some (.int (nI j)), none, none] [] (hp I L w1 w2 t)
  refine a_s rfl rfl ?_
  refine a_s3 rfl rfl rfl rfl rfl rfl ?_
  refine a_inv (n := 27) (fun m ls h => ∃ i, ls = [some (.ref 204), some (.ref 201), some (.int (nI j)), some (.int (nI i)), none] ∧ h = hp I L w1 w2 t ∧ i ≤ 27 ∧ m = 27 - i ∧ i ≤ wd (I 202) e b) ⟨0, rfl, rfl, Nat.zero_le _, rfl, Nat.zero_le _⟩ ?_
  rintro m _ _ ⟨i, rfl, rfl, hi, hm, hq⟩ ih
  refine a_l3 rfl rfl rfl ?_
  refine a_gets rfl (inC4 (i := 0) rfl rfl) hw.al ?_
  refine a_lenc rfl hw.ar rfl ?_
  refine a_ic_ge rfl (fun c2 => ?_) (fun c2 => ?_)
  · have hge := nI_ge_of (b := 27) c2 (by omega) (by decide)
    refine a_s rfl rfl ?_
    refine a_iret rfl rfl ⟨?_, rfl⟩
    rw [if_neg (by omega)]
  have hil : i < 27 := nI_lt_of (b := 27) c2 (by omega) (by decide)
  refine a_gets rfl (inC4 (i := 0) rfl rfl) hw.al ?_
  refine a_l3 rfl rfl rfl ?_
  refine a_aaldc rfl hw.ar rfl (inI_nI hil (by decide)) ?_
  refine a_pop1 (st := [.ref (100 + i)]) (by rw [nI_clamp (by omega)]) ?_
  refine a_s4 rfl rfl rfl rfl rfl rfl ?_
  refine a_l4 rfl rfl rfl ?_
  refine a_ifnull_f rfl ?_
  refine a_l0 rfl rfl rfl ?_
  refine a_l1 rfl rfl rfl ?_
  refine a_l2 rfl rfl rfl ?_
  refine a_l4 rfl rfl rfl ?_
  refine a_getc rfl (inC10 (i := 50) rfl rfl) (hw.tx hil) ?_
  refine a_eV1 rfl lX9_78 mo_X9_isText (s_isText hw he h4 hbt hj hb hk hT hil) rfl rfl rfl ⟨9, _, rfl, rfl, rfl⟩ rfl ?_
  cases c3 : isW (I 202) b (en (I 202) e b - b) i with
  | true =>
    refine a_if_eq rfl (fun c => absurd c (by decide)) (fun _ => ?_)
    refine a_l3 rfl rfl rfl ?_
    refine a_iret rfl rfl ⟨?_, rfl⟩
    rw [wd_eq hil c3, if_pos hil]
  | false =>
    refine a_if_eq rfl (fun _ => ?_) (fun c => absurd rfl c)
    refine a_iv3 (y := nI (i + 1)) rfl rfl rfl ((nI_succ i).symm) ?_
    refine a_goto rfl ?_
    refine a_less (ih (27 - (i + 1)) _ _ (by omega) ⟨i + 1, rfl, rfl, by omega, rfl, ?_⟩) ⟨rfl, rfl, rfl, rfl, trivial⟩
    rcases Nat.lt_or_ge (wd (I 202) e b) (i + 1) with z | z
    · exfalso
      have hwi : wd (I 202) e b = i := by omega
      have := wd_is (T := I 202) (e := e) (b := b) (by omega)
      rw [hwi, c3] at this
      cases this
    · exact z
theorem s_numberOf (he : I 201 1 = nI e) (h4 : e ≤ 400) (hbt : BtT (I 202)) (hj : j < 401) (hb : b < e) (hk : kd (I 202) e b = 2) (hT : TkJs I e j b) : SpE S m_X9_numberOf 13 [.ref 204, .ref 201, .int (nI j)] (hp I L w1 w2 t) (some (.int (if 3 < en (I 202) e b - b then -1 else nuF (I 202) b (en (I 202) e b - b)))) (hp I L w1 w2 t) := by
  have h1 := en_ge (T := I 202) (e := e) (b := b)
  have h2 := en_le (T := I 202) (Nat.le_of_lt hb)
  obtain ⟨-, t2, t3⟩ := hT
  refine SpE_of ok_X9_numberOf rfl rfl ?_
  show AW S m_X9_numberOf 13 _ _ 0 0 0 [some (.ref 204), some (.ref 201), some (.int (nI j)), none, none, none, none] [] (hp I L w1 w2 t)
  refine a_l0 rfl rfl rfl ?_
  refine a_getq rfl gfX9_15_9 rfl (rfl) ?_
  refine a_l2 rfl rfl rfl ?_
  refine a_eSN1 rfl lX9_58 mo_X11_at (sp_X11_at rfl) rfl rfl rfl rfl ?_
  refine a_top (y := nI b) ((atF_nI hj (by decide)).trans t2) ?_
  refine a_s3 rfl rfl rfl rfl rfl rfl ?_
  refine a_l0 rfl rfl rfl ?_
  refine a_getq rfl gfX9_18_9 rfl (rfl) ?_
  refine a_l2 rfl rfl rfl ?_
  refine a_eSN1 rfl lX9_58 mo_X11_at (sp_X11_at rfl) rfl rfl rfl rfl ?_
  refine a_top (y := nI (en (I 202) e b)) ((atF_nI hj (by decide)).trans t3) ?_
  refine a_s4 rfl rfl rfl rfl rfl rfl ?_
  refine a_l4 rfl rfl rfl ?_
  refine a_l3 rfl rfl rfl ?_
  refine a_s rfl rfl ?_
  refine a_top (y := nI (en (I 202) e b - b)) (nI_sub h1) ?_
  refine a_s rfl rfl ?_
  refine a_ic_le rfl (fun c => ?_) (fun c => ?_)
  rotate_left
  · refine a_s rfl rfl ?_
    refine a_iret rfl rfl ⟨?_, rfl⟩
    rw [if_pos (Nat.not_le.mp fun z => c (nI_leu (j := 3) z (by decide)))]
  have hle : ¬ 3 < en (I 202) e b - b := fun z => absurd (nI_ltu (n := 3) z (by omega)) (Int32.not_lt.mpr c)
  refine a_s rfl rfl ?_
  refine a_s5 rfl rfl rfl rfl rfl rfl ?_
  refine a_l3 rfl rfl rfl ?_
  refine a_s6 rfl rfl rfl rfl rfl rfl ?_
  refine a_inv (n := en (I 202) e b - b) (fun m ls h => ∃ i, ls = [some (.ref 204), some (.ref 201), some (.int (nI j)), some (.int (nI b)), some (.int (nI (en (I 202) e b))), some (.int (nuF (I 202) b i)), some (.int (nI (b + i)))] ∧ h = hp I L w1 w2 t ∧ b + i ≤ en (I 202) e b ∧ m = en (I 202) e b - b - i) ⟨0, rfl, rfl, h1, rfl⟩ ?_
  rintro m _ _ ⟨i, rfl, rfl, hi, hm⟩ ih
  refine a_l6 rfl rfl rfl ?_
  refine a_l4 rfl rfl rfl ?_
  refine a_ic_ge rfl (fun c2 => ?_) (fun c2 => ?_)
  · have hge := nI_ge_of c2 (by omega) (by omega)
    refine a_l5 rfl rfl rfl ?_
    refine a_iret rfl rfl ⟨?_, rfl⟩
    rw [if_neg hle, show en (I 202) e b - b = i by omega]
  have hil : b + i < en (I 202) e b := nI_lt_of c2 (by omega) (by omega)
  refine a_l5 rfl rfl rfl ?_
  refine a_s rfl rfl ?_
  refine a_s rfl rfl ?_
  refine a_l1 rfl rfl rfl ?_
  refine a_l6 rfl rfl rfl ?_
  refine a_eV1 rfl lX9_33 mo_X7_byteAt (f_byteAt he h4 (by omega)) rfl rfl rfl ⟨7, _, rfl, rfl, rfl⟩ rfl ?_
  refine a_top (y := I 202 (b + i) &&& 255) (if_pos (by omega)) ?_
  have hkc : kcF (I 202 (b + i)) = 2 := by
    rw [en_2 hk] at hil
    exact isK_kc (rn_all (T := I 202) (e := e) (k := 2) (p := b) (Nat.le_add_right _ _) hil)
  obtain ⟨x, hx, ex⟩ := hbt (b + i) (by omega)
  have e255 : I 202 (b + i) &&& 255 = I 202 (b + i) := by
    rw [ex] at hkc ⊢
    exact (bt_dg x hx hkc).1
  refine a_top (y := I 202 (b + i)) (e255) ?_
  refine a_s rfl rfl ?_
  refine a_s rfl rfl ?_
  refine a_s rfl rfl ?_
  refine a_s5 rfl rfl rfl rfl rfl rfl ?_
  refine a_iv6 (y := nI (b + (i + 1))) rfl rfl rfl ((nI_succ (b + i)).symm) ?_
  refine a_goto rfl ?_
  exact ih (en (I 202) e b - b - (i + 1)) _ _ (by omega) ⟨i + 1, rfl, rfl, by omega, rfl⟩
theorem s_valueOf (hw : WdS S) (he : I 201 1 = nI e) (h4 : e ≤ 400) (hbt : BtT (I 202)) (hj : j < 401) (hbe : b ≤ e) (hnb : kd (I 202) e b ≠ 4) (hT : TkJs I e j b) : SpE S m_X9_valueOf 18 [.ref 204, .ref 201, .int (nI j)] (hp I L w1 w2 t) (some (.int (vl (I 202) e b))) (hp I L w1 w2 t) := by
  refine SpE_of ok_X9_valueOf rfl rfl ?_
  show AW S m_X9_valueOf 18 _ _ 0 0 0 [some (.ref 204), some (.ref 201), some (.int (nI j))] [] (hp I L w1 w2 t)
  refine a_l0 rfl rfl rfl ?_
  refine a_getq rfl gfX9_9_9 rfl (rfl) ?_
  refine a_l2 rfl rfl rfl ?_
  refine a_eSN1 rfl lX9_58 mo_X11_at (sp_X11_at rfl) rfl rfl rfl rfl ?_
  refine a_top (y := nI (kd (I 202) e b)) ((atF_nI hj (by decide)).trans hT.1) ?_
  have hk5 : kd (I 202) e b < 5 := by
    by_cases c : b < e
    · rw [kd_lt c]
      rcases kc_cases (I 202 b) with z | z | z | z <;> omega
    · rw [kd_ge c]
      omega
  have hti : (nI (kd (I 202) e b)).toInt = (kd (I 202) e b : Int) := nI_toInt (by omega)
  refine a_lsw2 rfl (by decide) (by decide) (fun hx => ?_) (fun hx => ?_) (fun hx hx2 => ?_)
  · refine a_pc (pc' := 36) (by decide) ?_
    have hk : kd (I 202) e b = 1 := by rw [hti] at hx; omega
    refine a_l0 rfl rfl rfl ?_
    refine a_l1 rfl rfl rfl ?_
    refine a_l2 rfl rfl rfl ?_
    refine a_eV1 rfl lX9_62 mo_X9_wordOf (s_wordOf hw he h4 hbt hj (kd_in (by rw [hk]; decide)) hk hT) rfl rfl rfl ⟨9, _, rfl, rfl, rfl⟩ rfl ?_
    refine a_iret rfl rfl ⟨?_, rfl⟩
    rw [vl_1 hk]
  · refine a_pc (pc' := 43) (by decide) ?_
    have hk : kd (I 202) e b = 2 := by rw [hti] at hx; omega
    refine a_l0 rfl rfl rfl ?_
    refine a_l1 rfl rfl rfl ?_
    refine a_l2 rfl rfl rfl ?_
    refine a_eV1 rfl lX9_65 mo_X9_numberOf (s_numberOf he h4 hbt hj (kd_in (by rw [hk]; decide)) hk hT) rfl rfl rfl ⟨9, _, rfl, rfl, rfl⟩ rfl ?_
    refine a_iret rfl rfl ⟨?_, rfl⟩
    rw [vl_2 hk]
  · refine a_pc (pc' := 50) (by decide) ?_
    rw [hti] at hx hx2
    refine a_l1 rfl rfl rfl ?_
    refine a_l0 rfl rfl rfl ?_
    refine a_getq rfl gfX9_15_9 rfl (rfl) ?_
    refine a_l2 rfl rfl rfl ?_
    refine a_eSN1 rfl lX9_58 mo_X11_at (sp_X11_at rfl) rfl rfl rfl rfl ?_
    refine a_top (y := nI b) ((atF_nI hj (by decide)).trans hT.2.1) ?_
    refine a_eV1 rfl lX9_33 mo_X7_byteAt (f_byteAt he h4 (by omega)) rfl rfl rfl ⟨7, _, rfl, rfl, rfl⟩ rfl ?_
    refine a_iret rfl rfl ⟨?_, rfl⟩
    by_cases c : b < e
    · have hk : kd (I 202) e b = 3 := by
        have := kd_lt (T := I 202) c
        rcases kc_cases (I 202 b) with z | z | z | z <;> omega
      rw [vl_3 hk, if_pos c]
    · rw [vl_0 (kd_ge c), if_neg c]
def Fts (I J : Nat → Nat → Int32) : Prop := ∀ q, ¬ (204 ≤ q ∧ q ≤ 208) → J q = I q
theorem Fts.rf : Fts I I := fun _ _ => rfl
theorem Fts.tr {J K : Nat → Nat → Int32} (h : Fts I J) (h2 : Fts J K) : Fts I K := fun q hq => (h2 q hq).trans (h q hq)
theorem Fts.up {J : Nat → Nat → Int32} {p k : Nat} {v : Int32} (h : Fts I J) (hp     : 204 ≤ p ∧ p ≤ 208) : Fts I (up2 J p k v) := fun q hq => by
  rw [up2_row (by intro z; subst z; exact hq hp)]
  exact h q hq
def TkAs (T : Nat → Int32) (e n : Nat) (I : Nat → Nat → Int32) : Prop := n ≤ 400 ∧ ¬ bg T e n < e ∧ I 204 4 = nI (n + 1) ∧ ∀ j, j ≤ n → I 205 j = nI (kd T e (bg T e j)) ∧ I 206 j = nI (bg T e j) ∧ I 208 j = vl T e (bg T e j)
def Ats (T : Nat → Int32) (e b w : Nat) (I : Nat → Nat → Int32) : Prop := (∃ n j, TkAs T e n I ∧ j ≤ n ∧ I 204 5 = nI j ∧ b = bg T e j) ∧ I 204 6 = nI (kd T e b) ∧ I 204 7 = nI b ∧ I 204 8 = vl T e b ∧ w = wrF T e b
theorem Ats.ki {T : Nat → Int32} {w : Nat} (h : Ats T e b w I) : I 204 6 = nI (kd T e b) := h.2.1
theorem Ats.be {T : Nat → Int32} {w : Nat} (h : Ats T e b w I) : I 204 7 = nI b := h.2.2.1
theorem Ats.va {T : Nat → Int32} {w : Nat} (h : Ats T e b w I) : I 204 8 = vl T e b := h.2.2.2.1
theorem Ats.wo {T : Nat → Int32} {w : Nat} (h : Ats T e b w I) : w = wrF T e b := h.2.2.2.2
theorem Ats.le {T : Nat → Int32} {w : Nat} (h : Ats T e b w I) : b ≤ e := by
  obtain ⟨⟨n, j, -, -, -, rfl⟩, -⟩ := h
  exact bg_le j
theorem Ats.sk {T : Nat → Int32} {w : Nat} (h : Ats T e b w I) : rn T e 4 b = b := by
  obtain ⟨⟨n, j, -, -, -, rfl⟩, -⟩ := h
  exact bg_sk j
theorem Ats.eq {T : Nat → Int32} {w : Nat} {J : Nat → Nat → Int32} (h : Ats T e b w I) (f : ∀ q, 204 ≤ q → q ≤ 208 → J q = I q) : Ats T e b w J := by
  obtain ⟨⟨n, j, ⟨a1, a2, a3, a4⟩, h2, h3, h4⟩, h5, h6, h7, h8⟩ := h
  have e1 := f 204 (by decide) (by decide)
  refine ⟨⟨n, j, ⟨a1, a2, by rw [e1]; exact a3, fun i hi => ?_⟩, h2, by rw [e1]; exact h3, h4⟩, by rw [e1]; exact h5, by rw [e1]; exact h6, by rw [e1]; exact h7, h8⟩
  rw [f 205 (by decide) (by decide), f 206 (by decide) (by decide), f 208 (by decide) (by decide)]
  exact a4 i hi
theorem s_next {T : Nat → Int32} (hw : WdS S) {n i j : Nat} (hT : TkAs T e n I) (h5 : I 204 5 + 1 = nI i) (hij : j = if i ≤ n then i else n) (hi : i ≤ 401) : Sp S m_X9_next 13 0 0 [.ref 204] (hp I L w1 w2 t) (fun v h' => v = none ∧ ∃ J w, h' = hp J L w w2 t ∧ Ats T e (bg T e j) w J ∧ ∀ q, q ≠ 204 → J q = I q) nX := by
  obtain ⟨a1, a2, a3, a4⟩ := id hT
  have hjn : j ≤ n := by
    rw [hij]
    by_cases c : i ≤ n
    · rw [if_pos c]
      exact c
    · rw [if_neg c]
      exact Nat.le_refl n
  obtain ⟨b1, b2, b3⟩ := a4 j hjn
  refine Sp_of ok_X9_next rfl rfl ?_
  show AW S m_X9_next 13 _ _ 0 0 0 [some (.ref 204)] [] (hp I L w1 w2 t)
  refine a_l0 rfl rfl rfl ?_
  refine a_l0 rfl rfl rfl ?_
  refine a_geti rfl gfX9_52_9 rfl ?_
  refine a_s rfl rfl ?_
  refine a_s rfl rfl ?_
  refine a_top (y := nI i) (h5) ?_
  refine a_l0 rfl rfl rfl ?_
  refine a_getiv (v := nI (n + 1)) rfl gfX9_24_9 rfl (a3) ?_
  refine a_s rfl rfl ?_
  refine a_s rfl rfl ?_
  refine a_top (y := nI n) (nI_dec n) ?_
  refine a_min rfl lX9_91 mj_min rfl rfl ?_
  refine a_top (y := nI j) ((min_nI (by omega) (by omega)).trans (congrArg nI hij.symm)) ?_
  refine a_puti rfl pfX9_52_9 rfl ?_
  refine a_l0 rfl rfl rfl ?_
  refine a_l0 rfl rfl rfl ?_
  refine a_getq rfl gfX9_9_9 rfl (rfl) ?_
  refine a_l0 rfl rfl rfl ?_
  refine a_getiv (v := nI j) rfl gfX9_52_9 rfl (up2_at) ?_
  refine a_eSN1 rfl lX9_58 mo_X11_at (sp_X11_at rfl) rfl rfl rfl rfl ?_
  refine a_top (y := nI (kd T e (bg T e j))) ((atF_nI (by omega) (by decide)).trans ((congrFun (up2_row (by decide)) j).trans b1)) ?_
  refine a_puti rfl pfX9_97_9 rfl ?_
  refine a_l0 rfl rfl rfl ?_
  refine a_l0 rfl rfl rfl ?_
  refine a_getq rfl gfX9_15_9 rfl (rfl) ?_
  refine a_l0 rfl rfl rfl ?_
  refine a_getiv (v := nI j) rfl gfX9_52_9 rfl ((up2_ne (Or.inr (by decide))).trans up2_at) ?_
  refine a_eSN1 rfl lX9_58 mo_X11_at (sp_X11_at rfl) rfl rfl rfl rfl ?_
  refine a_top (y := nI (bg T e j)) ((atF_nI (by omega) (by decide)).trans ((congrFun (up2_row (by decide)) j).trans ((congrFun (up2_row (by decide)) j).trans b2))) ?_
  refine a_puti rfl pfX9_100_9 rfl ?_
  refine a_l0 rfl rfl rfl ?_
  refine a_l0 rfl rfl rfl ?_
  refine a_getq rfl gfX9_21_9 rfl (rfl) ?_
  refine a_l0 rfl rfl rfl ?_
  refine a_getiv (v := nI j) rfl gfX9_52_9 rfl ((up2_ne (Or.inr (by decide))).trans ((up2_ne (Or.inr (by decide))).trans up2_at)) ?_
  refine a_eSN1 rfl lX9_58 mo_X11_at (sp_X11_at rfl) rfl rfl rfl rfl ?_
  refine a_top (y := vl T e (bg T e j)) ((atF_nI (by omega) (by decide)).trans ((congrFun (up2_row (by decide)) j).trans ((congrFun (up2_row (by decide)) j).trans ((congrFun (up2_row (by decide)) j).trans b3)))) ?_
  refine a_puti rfl pfX9_103_9 rfl ?_
  refine a_ren (P := fun J => (∀ q, q ≠ 204 → J q = I q) ∧ J 204 4 = nI (n + 1) ∧ J 204 5 = nI j ∧ J 204 6 = nI (kd T e (bg T e j)) ∧ J 204 7 = nI (bg T e j) ∧ J 204 8 = vl T e (bg T e j)) ⟨fun q hq => ?_, ?_, ?_, ?_, ?_, up2_at⟩ (fun J hJ => ?_)
  · rw [up2_row hq, up2_row hq, up2_row hq, up2_row hq]
  · exact (up2_ne (Or.inr (by decide))).trans ((up2_ne (Or.inr (by decide))).trans ((up2_ne (Or.inr (by decide))).trans ((up2_ne (Or.inr (by decide))).trans a3)))
  · exact (up2_ne (Or.inr (by decide))).trans ((up2_ne (Or.inr (by decide))).trans ((up2_ne (Or.inr (by decide))).trans up2_at))
  · exact (up2_ne (Or.inr (by decide))).trans ((up2_ne (Or.inr (by decide))).trans up2_at)
  · exact (up2_ne (Or.inr (by decide))).trans up2_at
  obtain ⟨f, g4, g5, g6, g7, g8⟩ := hJ
  have hTJ : TkAs T e n J := ⟨a1, a2, g4, fun i hi => by
    rw [f 205 (by decide), f 206 (by decide), f 208 (by decide)]
    exact a4 i hi⟩
  have fin : ∀ q, q = wrF T e (bg T e j) → AW S m_X9_next 13 (fun v h' => v = none ∧ ∃ J w, h' = hp J L w w2 t ∧ Ats T e (bg T e j) w J ∧ ∀ q, q ≠ 204 → J q = I q) nX 0 0 103 [some (.ref 204)] [rv q, .ref 204] (hp J L w1 w2 t) := by
    intro q hq
    refine a_putw1 (q := q) rfl pfX9_106_9 ?_
    exact a_vret rfl rfl ⟨rfl, J, q, rfl, ⟨⟨n, j, hTJ, hjn, g5, rfl⟩, g6, g7, g8, hq⟩, f⟩
  refine a_l0 rfl rfl rfl ?_
  refine a_l0 rfl rfl rfl ?_
  refine a_getiv (v := nI (kd T e (bg T e j))) rfl gfX9_97_9 rfl (g6) ?_
  refine a_s rfl rfl ?_
  refine a_ic_ne rfl (fun c => ?_) (fun c => ?_)
  · refine a_s rfl rfl ?_
    exact fin 0 (if_neg (fun z => c (congrArg nI z.1))).symm
  have hk : kd T e (bg T e j) = 1 := nI_inj (a := kd T e (bg T e j)) (b := 1) (by have := kd_4 (T := T) (e := e) (b := bg T e j) rfl; omega) (by decide) c
  refine a_l0 rfl rfl rfl ?_
  refine a_getiv (v := vl T e (bg T e j)) rfl gfX9_103_9 rfl (g8) ?_
  rcases vl_w hk with ⟨v1, v2⟩ | ⟨v1, v2, v3⟩
  · refine a_if_lt rfl (fun _ => ?_) (fun c => absurd v1 c)
    refine a_s rfl rfl ?_
    exact fin 0 (if_neg (fun z => v2 z.2)).symm
  · refine a_if_lt rfl (fun c => absurd c v1) (fun _ => ?_)
    refine a_l0 rfl rfl rfl ?_
    refine a_getiv (v := nI (wd T e (bg T e j))) rfl gfX9_103_9 rfl (g8.trans v3) ?_
    refine a_gets rfl (inC4 (i := 0) rfl rfl) hw.al ?_
    refine a_lenc rfl hw.ar rfl ?_
    refine a_ic_ge rfl (fun c => absurd c (nI_ge (b := 27) v2 (by decide))) (fun _ => ?_)
    refine a_gets rfl (inC4 (i := 0) rfl rfl) hw.al ?_
    refine a_l0 rfl rfl rfl ?_
    refine a_getiv (v := nI (wd T e (bg T e j))) rfl gfX9_103_9 rfl (g8.trans v3) ?_
    refine a_aaldc rfl hw.ar rfl (inI_nI v2 (by decide)) ?_
    refine a_pop1 (st := [rv (100 + wd T e (bg T e j) + 1), .ref 204]) (by rw [nI_clamp (by omega)]; rfl) ?_
    refine a_goto rfl ?_
    exact fin _ (if_pos ⟨hk, v2⟩).symm
def SIs (T : Nat → Int32) (e n i la : Nat) (I : Nat → Nat → Int32) : Prop := n ≤ i ∧ i ≤ e ∧ I 204 4 = nI n ∧ (∀ j, j < n → bg T e j < e ∧ I 205 j = nI (kd T e (bg T e j)) ∧ I 206 j = nI (bg T e j)) ∧
  (((la = 4 ∨ la = 3) ∧ (∀ j, j < n → I 207 j = nI (en T e (bg T e j))) ∧ bg T e n = rn T e 4 i) ∨
   ∃ m, n = m + 1 ∧ (la = 1 ∨ la = 2) ∧ kd T e (bg T e m) = la ∧ (∀ j, j < m → I 207 j = nI (en T e (bg T e j))) ∧ I 207 m = nI i ∧ en T e (bg T e m) = rn T e la i)
theorem SIs.cl {T : Nat → Int32} {i la : Nat} (h : SIs T e n i la I) (hne : (la = 4 ∨ la = 3) ∨ ¬ isK T e la i = true) : (∀ j, j < n → I 207 j = nI (en T e (bg T e j))) ∧ bg T e n = rn T e 4 i := by
  obtain ⟨-, -, -, -, ⟨-, h2, h3⟩ | ⟨m, rfl, h2, h3, h4, h5, h6⟩⟩ := h
  · exact ⟨h2, h3⟩
  · have hne : ¬ isK T e la i = true := hne.resolve_left (by omega)
    have e1 : en T e (bg T e m) = i := h6.trans (rn_f (Bool.eq_false_iff.mpr hne))
    refine ⟨fun j hj => ?_, ?_⟩
    · by_cases c : j = m
      · rw [c, e1]
        exact h5
      · exact h4 j (by omega)
    · show rn T e 4 (en T e (bg T e m)) = _
      rw [e1]
theorem s_scan (hw : WdS S) (he : I 201 1 = nI e) (h4 : e ≤ 400) (hbt : BtT (I 202)) : Sp S m_X9_scan 19 0 0 [.ref 204, .ref 201] (hp I L w1 w2 t) (fun v h' => v = none ∧ ∃ J w, h' = hp J L w w2 t ∧ Ats (I 202) e (bg (I 202) e 0) w J ∧ Fts I J) nX := by
  refine Sp_of ok_X9_scan rfl rfl ?_
  show AW S m_X9_scan 19 _ _ 0 0 0 [some (.ref 204), some (.ref 201), none, none, none] [] (hp I L w1 w2 t)
  -- behind both loops
  have part2 : ∀ (n : Nat) (J : Nat → Nat → Int32), Fts I J → n ≤ e → J 204 4 = nI (n + 1) → ¬ bg (I 202) e n < e → (∀ j, j ≤ n → TkJs J e j (bg (I 202) e j)) → AW S m_X9_scan 19 (fun v h' => v = none ∧ ∃ J w, h' = hp J L w w2 t ∧ Ats (I 202) e (bg (I 202) e 0) w J ∧ Fts I J) nX 0 0 92 [some (.ref 204), some (.ref 201), none, none, none] [] (hp J L w1 w2 t) := by
    intro n J hF hne hs hend hall
    have hT2 : J 202 = I 202 := hF 202 (by omega)
    have he2 : J 201 1 = nI e := (congrFun (hF 201 (by omega)) 1).trans he
    refine a_s rfl rfl ?_
    refine a_s3 rfl rfl rfl rfl rfl rfl ?_
    refine a_inv (n := n + 1) (fun m ls h => ∃ q K, ls = [some (.ref 204), some (.ref 201), none, some (.int (nI q)), none] ∧ h = hp K L w1 w2 t ∧ q ≤ n + 1 ∧ m = n + 1 - q ∧ (∀ p, p ≠ 208 → K p = J p) ∧ ∀ j, j < q → K 208 j = vl (I 202) e (bg (I 202) e j)) ⟨0, J, rfl, rfl, Nat.zero_le _, rfl, fun _ _ => rfl, fun j hj => absurd hj (Nat.not_lt_zero _)⟩ ?_
    rintro m _ _ ⟨q, K, rfl, rfl, hq, hm, hK, hv5⟩ ih
    refine a_l3 rfl rfl rfl ?_
    refine a_l0 rfl rfl rfl ?_
    refine a_getiv (v := nI (n + 1)) rfl gfX9_24_9 rfl ((congrFun (hK 204 (by decide)) 4).trans hs) ?_
    refine a_ic_ge rfl (fun c => ?_) (fun c => ?_)
    · have hge := nI_ge_of c (by omega) (by omega)
      obtain rfl : q = n + 1 := by omega
      refine a_l0 rfl rfl rfl ?_
      refine a_s rfl rfl ?_
      refine a_puti rfl pfX9_52_9 rfl ?_
      refine a_l0 rfl rfl rfl ?_
      have hTA : TkAs (I 202) e n (up2 K 204 5 (-1)) := by
        refine ⟨by omega, hend, (up2_ne (Or.inr (by decide))).trans ((congrFun (hK 204 (by decide)) 4).trans hs), fun j hj => ?_⟩
        obtain ⟨z1, z2, z3⟩ := hall j hj
        rw [hT2] at z1
        rw [up2_row (by decide), up2_row (by decide), up2_row (by decide), hK 205 (by decide), hK 206 (by decide)]
        exact ⟨z1, z2, hv5 j (by omega)⟩
      refine a_gV rfl lX9_55 mo_X9_next (s_next (i := 0) (j := 0) hw hTA (by rw [up2_at]; rfl) rfl (by omega)) rfl rfl rfl ⟨9, _, rfl, rfl, rfl⟩ rfl (fun v' h' hv => ?_)
      obtain ⟨rfl, J2, w, rfl, hA, hf⟩ := hv
      refine a_vret rfl rfl ⟨rfl, J2, w, rfl, hA, fun p hp     => ?_⟩
      have p1 : p ≠ 204 := by omega
      have p2 : p ≠ 208 := by omega
      rw [hf p p1, up2_row p1, hK p p2]
      exact hF p hp
    · have hqn : q < n + 1 := nI_lt_of c (by omega) (by omega)
      refine a_l0 rfl rfl rfl ?_
      refine a_getq rfl gfX9_21_9 rfl (rfl) ?_
      refine a_l3 rfl rfl rfl ?_
      refine a_l0 rfl rfl rfl ?_
      refine a_l1 rfl rfl rfl ?_
      refine a_l3 rfl rfl rfl ?_
      have hKT : K 202 = I 202 := (hK 202 (by decide)).trans hT2
      have hTq : TkJs K e q (bg (I 202) e q) := by
        have := hall q (by omega)
        unfold TkJs at this ⊢
        rw [hK 205 (by decide), hK 206 (by decide), hK 207 (by decide), hK 202 (by decide)]
        exact this
      refine a_eV1 rfl lX9_48 mo_X9_valueOf (s_valueOf (b := bg (I 202) e q) hw ((congrFun (hK 201 (by decide)) 1).trans he2) h4 (by rw [hKT]; exact hbt) (by omega) (bg_le q) (by rw [hKT]; exact sk_kd (bg_sk q)) hTq) rfl rfl rfl ⟨9, _, rfl, rfl, rfl⟩ rfl ?_
      refine a_top (y := vl (I 202) e (bg (I 202) e q)) (by rw [hKT]) ?_
      refine a_eSN0 rfl lX9_44 mo_X11_setAt (sp_X11_setAt rfl) rfl rfl rfl rfl ?_
      rw [setF_nI (by omega) (by decide)]
      refine a_iv3 (y := nI (q + 1)) rfl rfl rfl ((nI_succ q).symm) ?_
      refine a_goto rfl ?_
      refine ih (n + 1 - (q + 1)) _ _ (by omega) ⟨q + 1, up2 K 208 q (vl (I 202) e (bg (I 202) e q)), rfl, rfl, by omega, rfl, fun p hp     => (up2_row hp).trans (hK p hp), fun j hj => ?_⟩
      by_cases cj : j = q
      · rw [cj]
        exact up2_at
      · exact (up2_ne (Or.inr cj)).trans (hv5 j (by omega))
  refine a_l0 rfl rfl rfl ?_
  refine a_s rfl rfl ?_
  refine a_puti rfl pfX9_24_9 rfl ?_
  refine a_s rfl rfl ?_
  refine a_s2 rfl rfl rfl rfl rfl rfl ?_
  refine a_s rfl rfl ?_
  refine a_s3 rfl rfl rfl rfl rfl rfl ?_
  refine a_inv (n := e) (fun m ls h => ∃ n i la J, ls = [some (.ref 204), some (.ref 201), some (.int (nI la)), some (.int (nI i)), none] ∧ h = hp J L w1 w2 t ∧ m = e - i ∧ Fts I J ∧ SIs (I 202) e n i la J) ⟨0, 0, 4, _, rfl, rfl, rfl, Fts.up Fts.rf (by omega), Nat.le_refl _, Nat.zero_le _, up2_at, fun j hj => absurd hj (Nat.not_lt_zero _), Or.inl ⟨Or.inl rfl, fun j hj => absurd hj (Nat.not_lt_zero _), rfl⟩⟩ ?_
  rintro m _ _ ⟨n, i, la, J, rfl, rfl, hm, hF, hSI⟩ ih
  have hT2 : J 202 = I 202 := hF 202 (by omega)
  have he2 : J 201 1 = nI e := (congrFun (hF 201 (by omega)) 1).trans he
  obtain ⟨s1, s2, s3, s4, s5⟩ := id hSI
  have hla : la < 5 := by
    rcases s5 with ⟨z | z, -⟩ | ⟨_, -, z | z, -⟩ <;> omega
  refine a_l3 rfl rfl rfl ?_
  refine a_l1 rfl rfl rfl ?_
  refine a_getiv (v := nI e) rfl gfX9_28_7 rfl (he2) ?_
  refine a_ic_ge rfl (fun c => ?_) (fun c => ?_)
  · have hge := nI_ge_of c (by omega) (by omega)
    obtain rfl : i = e := by omega
    obtain ⟨k1, k2⟩ := SIs.cl hSI (Or.inr fun z => absurd (isK_lt z) (Nat.lt_irrefl _))
    rw [rn_e (Nat.lt_irrefl _)] at k2
    refine a_l0 rfl rfl rfl ?_
    refine a_s rfl rfl ?_
    refine a_l1 rfl rfl rfl ?_
    refine a_getiv (v := nI i) rfl gfX9_28_7 rfl (he2) ?_
    refine a_eV0 rfl lX9_40 mo_X9_open (s_open s3 (by omega)) rfl rfl rfl ⟨9, _, rfl, rfl, rfl⟩ rfl ?_
    refine a_less (part2 n (opHs J n 0 (nI i)) (Fts.up (Fts.up (Fts.up (Fts.up hF (by omega)) (by omega)) (by omega)) (by omega)) (by omega) up2_at (by rw [k2]; exact Nat.lt_irrefl _) (fun j hj => ?_)) ⟨rfl, rfl, trivial⟩
    have r2 : ∀ q, opHs J n 0 (nI i) 205 q = up2 J 205 n 0 205 q := fun q => by
      unfold opHs
      rw [up2_row (by decide), up2_row (by decide), up2_row (by decide)]
    have r3 : ∀ q, opHs J n 0 (nI i) 206 q = up2 J 206 n (nI i) 206 q := fun q => by
      unfold opHs
      rw [up2_row (by decide), up2_row (by decide)]
      by_cases cq : q = n
      · rw [cq, up2_at, up2_at]
      · rw [up2_ne (Or.inr cq), up2_ne (Or.inr cq), up2_ne (Or.inr cq)]
    have r4 : ∀ q, opHs J n 0 (nI i) 207 q = up2 J 207 n (nI i) 207 q := fun q => by
      unfold opHs
      rw [up2_row (by decide)]
      by_cases cq : q = n
      · rw [cq, up2_at, up2_at]
      · rw [up2_ne (Or.inr cq), up2_ne (Or.inr cq), up2_ne (Or.inr cq), up2_ne (Or.inr cq)]
    have r0 : opHs J n 0 (nI i) 202 = I 202 := by
      unfold opHs
      rw [up2_row (by decide), up2_row (by decide), up2_row (by decide), up2_row (by decide)]
      exact hT2
    unfold TkJs
    rw [r0, r2, r3, r4]
    by_cases cj : j = n
    · rw [cj, up2_at, up2_at, up2_at, k2, kd_ge (Nat.lt_irrefl _), en_0 (Nat.lt_irrefl _)]
      exact ⟨nI_0.symm, rfl, rfl⟩
    · obtain ⟨z1, z2, z3⟩ := s4 j (by omega)
      rw [up2_ne (Or.inr cj), up2_ne (Or.inr cj), up2_ne (Or.inr cj)]
      exact ⟨z2, z3, k1 j (by omega)⟩
  have hie : i < e := nI_lt_of c (by omega) (by omega)
  refine a_l1 rfl rfl rfl ?_
  refine a_l3 rfl rfl rfl ?_
  refine a_eV1 rfl lX9_33 mo_X7_byteAt (f_byteAt he2 h4 (by omega)) rfl rfl rfl ⟨7, _, rfl, rfl, rfl⟩ rfl ?_
  refine a_top (y := I 202 i &&& 255) ((if_pos hie).trans (by rw [hT2])) ?_
  refine a_eS1 rfl lX9_37 mo_X9_kindOf f_kindOf rfl rfl rfl rfl ?_
  obtain ⟨x, hx, ex⟩ := hbt i (by omega)
  refine a_top (y := nI (kcF (I 202 i))) (by rw [ex, bt_kc x hx]) ?_
  refine a_s4 rfl rfl rfl rfl rfl rfl ?_
  have hkc := kc_cases (I 202 i)
  generalize hk0 : kcF (I 202 i) = kc at hkc
  have isK_of : ∀ k, isK (I 202) e k i = true ↔ kc = k := fun k => ⟨fun z => hk0.symm.trans (isK_kc z), fun z => isK_t hie (hk0.trans z)⟩
  -- the loop goes on
  have on : ∀ (n' : Nat) (K : Nat → Nat → Int32), Fts I K → SIs (I 202) e n' (i + 1) kc K → AW S m_X9_scan 19 (fun v h' => v = none ∧ ∃ J w, h' = hp J L w w2 t ∧ Ats (I 202) e (bg (I 202) e 0) w J ∧ Fts I J) nX 0 0 74 [some (.ref 204), some (.ref 201), some (.int (nI la)), some (.int (nI i)), some (.int (nI kc))] [] (hp K L w1 w2 t) := by
    intro n' K hFK hSK
    refine a_l4 rfl rfl rfl ?_
    refine a_s2 rfl rfl rfl rfl rfl rfl ?_
    refine a_iv3 (y := nI (i + 1)) rfl rfl rfl ((nI_succ i).symm) ?_
    refine a_goto rfl ?_
    have lt : e - (i + 1) < m := by rw [hm]; exact Nat.sub_lt_sub_left hie (Nat.lt_succ_self i)
    exact a_less (ih (e - (i + 1)) [some (.ref 204), some (.ref 201), some (.int (nI kc)), some (.int (nI (i + 1))), none] (hp K L w1 w2 t) lt ⟨n', i + 1, kc, K, rfl, rfl, rfl, hFK, hSK⟩) ⟨rfl, rfl, rfl, rfl, trivial⟩
  -- where the latest ends
  have k52 : ∀ (m : Nat) (K : Nat → Nat → Int32), kc ≠ 4 → m < 401 → K 204 4 = nI (m + 1) → Fts I K → SIs (I 202) e (m + 1) (i + 1) kc (up2 K 207 m (nI (i + 1))) → AW S m_X9_scan 19 (fun v h' => v = none ∧ ∃ J w, h' = hp J L w w2 t ∧ Ats (I 202) e (bg (I 202) e 0) w J ∧ Fts I J) nX 0 0 52 [some (.ref 204), some (.ref 201), some (.int (nI la)), some (.int (nI i)), some (.int (nI kc))] [] (hp K L w1 w2 t) := by
    intro m K h4 hm4 hK4 hFK hSK
    refine a_l4 rfl rfl rfl ?_
    refine a_s rfl rfl ?_
    refine a_ic_eq rfl (fun c => absurd (nI_inj (b := 4) (by omega) (by decide) c) h4) (fun _ => ?_)
    refine a_l0 rfl rfl rfl ?_
    refine a_getq rfl gfX9_18_9 rfl (rfl) ?_
    refine a_l0 rfl rfl rfl ?_
    refine a_getiv (v := nI (m + 1)) rfl gfX9_24_9 rfl (hK4) ?_
    refine a_s rfl rfl ?_
    refine a_s rfl rfl ?_
    refine a_top (y := nI m) (nI_dec m) ?_
    refine a_l3 rfl rfl rfl ?_
    refine a_s rfl rfl ?_
    refine a_s rfl rfl ?_
    refine a_top (y := nI (i + 1)) ((nI_succ i).symm) ?_
    refine a_eSN0 rfl lX9_44 mo_X11_setAt (sp_X11_setAt rfl) rfl rfl rfl rfl ?_
    rw [setF_nI hm4 (by decide)]
    exact on _ _ (Fts.up hFK (by omega)) hSK
  -- a new one begins here
  have k45 : kc ≠ 4 → ((la = 4 ∨ la = 3) ∨ kc ≠ la) → AW S m_X9_scan 19 (fun v h' => v = none ∧ ∃ J w, h' = hp J L w w2 t ∧ Ats (I 202) e (bg (I 202) e 0) w J ∧ Fts I J) nX 0 0 45 [some (.ref 204), some (.ref 201), some (.int (nI la)), some (.int (nI i)), some (.int (nI kc))] [] (hp J L w1 w2 t) := by
    intro n4 hne
    obtain ⟨k1, k2⟩ := SIs.cl hSI (hne.imp id fun z y => z ((isK_of la).mp y))
    have kb : bg (I 202) e n = i := k2.trans (rn_f (Bool.eq_false_iff.mpr fun z => n4 ((isK_of 4).mp z)))
    have kk : kd (I 202) e i = kc := (kd_lt hie).trans hk0
    refine a_l0 rfl rfl rfl ?_
    refine a_l4 rfl rfl rfl ?_
    refine a_l3 rfl rfl rfl ?_
    refine a_eV0 rfl lX9_40 mo_X9_open (s_open s3 (by omega)) rfl rfl rfl ⟨9, _, rfl, rfl, rfl⟩ rfl ?_
    refine k52 n _ n4 (by omega) up2_at (Fts.up (Fts.up (Fts.up (Fts.up hF (by omega)) (by omega)) (by omega)) (by omega)) ?_
    have r2 : ∀ q, up2 (opHs J n (nI kc) (nI i)) 207 n (nI (i + 1)) 205 q = up2 J 205 n (nI kc) 205 q := fun q => by
      unfold opHs
      rw [up2_row (by decide), up2_row (by decide), up2_row (by decide), up2_row (by decide)]
    have r3 : ∀ q, up2 (opHs J n (nI kc) (nI i)) 207 n (nI (i + 1)) 206 q = up2 J 206 n (nI i) 206 q := fun q => by
      unfold opHs
      rw [up2_row (by decide), up2_row (by decide), up2_row (by decide)]
      by_cases cq : q = n
      · rw [cq, up2_at, up2_at]
      · rw [up2_ne (Or.inr cq), up2_ne (Or.inr cq), up2_ne (Or.inr cq)]
    have r4 : ∀ q, q ≠ n → up2 (opHs J n (nI kc) (nI i)) 207 n (nI (i + 1)) 207 q = J 207 q := fun q hq => by
      rw [up2_ne (Or.inr hq)]
      unfold opHs
      rw [up2_row (by decide), up2_ne (Or.inr hq), up2_row (by decide), up2_row (by decide)]
    have s4' : ∀ j, j < n + 1 → bg (I 202) e j < e ∧ up2 (opHs J n (nI kc) (nI i)) 207 n (nI (i + 1)) 205 j = nI (kd (I 202) e (bg (I 202) e j)) ∧ up2 (opHs J n (nI kc) (nI i)) 207 n (nI (i + 1)) 206 j = nI (bg (I 202) e j) := fun j hj => by
      rw [r2, r3]
      by_cases cj : j = n
      · rw [cj, kb, kk, up2_at, up2_at]
        exact ⟨hie, rfl, rfl⟩
      · rw [up2_ne (Or.inr cj), up2_ne (Or.inr cj)]
        exact s4 j (by omega)
    refine ⟨by omega, hie, (congrFun (up2_row (by decide)) 4).trans up2_at, s4', ?_⟩
    by_cases c3 : kc = 3
    · refine Or.inl ⟨Or.inr c3, fun j hj => ?_, ?_⟩
      · by_cases cj : j = n
        · rw [cj, up2_at, kb, en_3 (kk.trans c3)]
        · rw [r4 j cj]
          exact k1 j (by omega)
      · show rn (I 202) e 4 (en (I 202) e (bg (I 202) e n)) = _
        rw [kb, en_3 (kk.trans c3)]
    · refine Or.inr ⟨n, rfl, by omega, by rw [kb, kk], fun j hj => ?_, up2_at, ?_⟩
      · rw [r4 j (by omega)]
        exact k1 j hj
      · rw [kb]
        rcases hkc with z | z | z | z
        · rw [en_1 (kk.trans z), z, rn_t ((isK_of 1).mpr z)]
        · rw [en_2 (kk.trans z), z, rn_t ((isK_of 2).mpr z)]
        · exact absurd z c3
        · exact absurd z n4
  refine a_l4 rfl rfl rfl ?_
  refine a_s rfl rfl ?_
  refine a_ic_eq rfl (fun c => ?_) (fun c3 => ?_)
  · have c := nI_inj (b := 3) (by omega) (by decide) c
    exact k45 (by omega) (by omega)
  have c3 : kc ≠ 3 := fun z => c3 (congrArg nI z)
  refine a_l4 rfl rfl rfl ?_
  refine a_s rfl rfl ?_
  refine a_ic_eq rfl (fun c => ?_) (fun c4 => ?_)
  · have c := nI_inj (b := 4) (by omega) (by decide) c
    obtain ⟨k1, k2⟩ := SIs.cl hSI (by
      rcases s5 with ⟨z, -⟩ | ⟨_, -, z, -⟩
      · exact Or.inl z
      · exact Or.inr fun y => by have := (isK_of la).mp y; omega)
    refine a_l4 rfl rfl rfl ?_
    refine a_s rfl rfl ?_
    refine a_ic_eq rfl (fun _ => ?_) (fun z => absurd (congrArg nI c) z)
    exact on n J hF ⟨by omega, hie, s3, s4, Or.inl ⟨Or.inl c, k1, k2.trans (rn_t ((isK_of 4).mpr c))⟩⟩
  have c4 : kc ≠ 4 := fun z => c4 (congrArg nI z)
  refine a_l4 rfl rfl rfl ?_
  refine a_l2 rfl rfl rfl ?_
  refine a_ic_eq rfl (fun c => ?_) (fun cl => ?_)
  · have c := nI_inj (by omega) (by omega) c
    rcases s5 with ⟨z, -⟩ | ⟨m, rfl, h2, h3, h4', h5, h6⟩
    · exfalso
      omega
    · refine k52 m J c4 (by omega) s3 hF ⟨by omega, hie, (congrFun (up2_row (by decide)) 4).trans s3, fun j hj => ?_, Or.inr ⟨m, rfl, by omega, h3.trans c.symm, fun j hj => ?_, up2_at, ?_⟩⟩
      · rw [up2_row (by decide), up2_row (by decide)]
        exact s4 j hj
      · rw [up2_ne (Or.inr (by omega))]
        exact h4' j hj
      · rw [h6, c, rn_t ((isK_of la).mpr c)]
  · exact k45 c4 (Or.inr fun z => cl (congrArg nI z))
theorem Ats.wk {w : Nat} (h : Ats T e b w I) : WK w := by
  rw [Ats.wo h]
  exact wr_wk
theorem sg_next (hw : WdS S) (h : Ats T e b w1 I) : Sp S m_X9_next 13 0 0 [.ref 204] (hp I L w1 w2 t) (fun v h' => v = none ∧ ∃ J w, h' = hp J L w w2 t ∧ Ats T e (nx T e b) w J ∧ ∀ q, q ≠ 204 → J q = I q) nX := by
  obtain ⟨⟨n, j, hT, hj, h5, rfl⟩, -⟩ := h
  have hn := hT.1
  by_cases c : j + 1 ≤ n
  · exact s_next (i := j + 1) (j := j + 1) hw hT (by rw [h5, ← nI_succ]) (if_pos c).symm (by omega)
  · obtain rfl : j = n := by omega
    have e1 : nx T e (bg T e j) = bg T e j := nx_e hT.2.1
    rw [e1]
    exact s_next (i := j + 1) (j := j) hw hT (by rw [h5, ← nI_succ]) (if_neg c).symm (by omega)
theorem s_isEnd (h : Ats T e b w1 I) : SpE S m_X9_isEnd 12 [.ref 204] (hp I L w1 w2 t) (some (.int (bI (decide (¬ b < e))))) (hp I L w1 w2 t) := by
  refine SpE_of ok_X9_isEnd rfl rfl ?_
  show AW S m_X9_isEnd 12 _ _ 0 0 0 [some (.ref 204)] [] (hp I L w1 w2 t)
  refine a_l0 rfl rfl rfl ?_
  refine a_getiv (v := nI (kd T e b)) rfl gfX9_97_9 rfl (Ats.ki h) ?_
  have k4 := kd_4 (T := T) (e := e) (b := b) rfl
  refine a_if_ne rfl (fun c => ?_) (fun c => ?_)
  · refine a_s rfl rfl ?_
    refine a_zret rfl rfl rfl ⟨?_, rfl⟩
    rw [show decide (¬ b < e) = false from decide_eq_false fun z => c (by rw [kd_ge z]; rfl)]
    rfl
  · refine a_s rfl rfl ?_
    refine a_goto rfl ?_
    refine a_zret rfl rfl rfl ⟨?_, rfl⟩
    rw [show decide (¬ b < e) = true from decide_eq_true (kd_0 ((nI_eq0 (by omega)).mp c))]
    rfl
theorem s_isSign (h : Ats T e b w1 I) {x : Int32} : SpE S m_X9_isSign 12 [.ref 204, .int x] (hp I L w1 w2 t) (some (.int (bI (sg T e b x)))) (hp I L w1 w2 t) := by
  refine SpE_of ok_X9_isSign rfl rfl ?_
  show AW S m_X9_isSign 12 _ _ 0 0 0 [some (.ref 204), some (.int x)] [] (hp I L w1 w2 t)
  have k4 := kd_4 (T := T) (e := e) (b := b) rfl
  refine a_l0 rfl rfl rfl ?_
  refine a_getiv (v := nI (kd T e b)) rfl gfX9_97_9 rfl (Ats.ki h) ?_
  refine a_s rfl rfl ?_
  refine a_ic_ne rfl (fun c => ?_) (fun c => ?_)
  · refine a_s rfl rfl ?_
    refine a_zret rfl rfl rfl ⟨?_, rfl⟩
    rw [show sg T e b x = false from decide_eq_false fun z => c (congrArg nI z.1)]
    rfl
  have c := nI_inj (b := 3) (by omega) (by decide) c
  refine a_l0 rfl rfl rfl ?_
  refine a_getiv (v := vl T e b) rfl gfX9_103_9 rfl (Ats.va h) ?_
  refine a_l1 rfl rfl rfl ?_
  refine a_ic_ne rfl (fun c2 => ?_) (fun c2 => ?_)
  · refine a_s rfl rfl ?_
    refine a_zret rfl rfl rfl ⟨?_, rfl⟩
    rw [show sg T e b x = false from decide_eq_false fun z => c2 z.2]
    rfl
  · refine a_s rfl rfl ?_
    refine a_goto rfl ?_
    refine a_zret rfl rfl rfl ⟨?_, rfl⟩
    rw [show sg T e b x = true from decide_eq_true ⟨c, c2⟩]
    rfl
def Tks (T : Nat → Int32) (e b : Nat) (z : Bool) (I : Nat → Nat → Int32) (L : Nat → Nat → Int64) (w2 t : Nat) : Option Value → aH → Prop := fun v h' => v = some (.int (bI z)) ∧ ∃ J w, h' = hp J L w w2 t ∧ Ats T e (if z = true then nx T e b else b) w J ∧ ∀ q, q ≠ 204 → J q = I q
theorem s_takeSign (hw : WdS S) (h : Ats T e b w1 I) {x : Int32} : Sp S m_X9_takeSign 14 0 0 [.ref 204, .int x] (hp I L w1 w2 t) (Tks T e b (sg T e b x) I L w2 t) nX := by
  refine Sp_of ok_X9_takeSign rfl rfl ?_
  show AW S m_X9_takeSign 14 _ _ 0 0 0 [some (.ref 204), some (.int x), none] [] (hp I L w1 w2 t)
  refine a_l0 rfl rfl rfl ?_
  refine a_l1 rfl rfl rfl ?_
  refine a_eV1 rfl lX9_110 mo_X9_isSign (s_isSign h) rfl rfl rfl ⟨9, _, rfl, rfl, rfl⟩ rfl ?_
  refine a_s2 rfl rfl rfl rfl rfl rfl ?_
  refine a_l2 rfl rfl rfl ?_
  cases c : sg T e b x with
  | false =>
    refine a_if_eq rfl (fun _ => ?_) (fun z => absurd rfl z)
    refine a_l2 rfl rfl rfl ?_
    exact a_zret rfl rfl rfl ⟨rfl, I, w1, rfl, h, fun _ _ => rfl⟩
  | true =>
    refine a_if_eq rfl (fun z => absurd z (by decide)) (fun _ => ?_)
    refine a_l0 rfl rfl rfl ?_
    refine a_gV rfl lX9_55 mo_X9_next (sg_next hw h) rfl rfl rfl ⟨9, _, rfl, rfl, rfl⟩ rfl (fun v' h' hv => ?_)
    obtain ⟨rfl, J, w, rfl, hA, hf⟩ := hv
    refine a_l2 rfl rfl rfl ?_
    exact a_zret rfl rfl rfl ⟨rfl, J, w, rfl, hA, hf⟩
theorem s_takeWord (hw : WdS S) (h : Ats T e b w1 I) {k : Nat} (hk : k < 27) : Sp S m_X9_takeWord 14 0 0 [.ref 204, .ref (100 + k)] (hp I L w1 w2 t) (Tks T e b (isWd T e b k) I L w2 t) nX := by
  refine Sp_of ok_X9_takeWord rfl rfl ?_
  show AW S m_X9_takeWord 14 _ _ 0 0 0 [some (.ref 204), some (.ref (100 + k)), none] [] (hp I L w1 w2 t)
  refine a_l0 rfl rfl rfl ?_
  refine a_getr rfl gfX9_106_9 rfl ?_
  refine a_pop1 (show _ = rv w1 :: _ from rfl) ?_
  refine a_l1 rfl rfl rfl ?_
  refine a_acmp_ne (rx := w1) (ry := 100 + k + 1) rfl ((Ats.wk h).ac hw) (WK.ck hw hk) (fun c => ?_) (fun c => ?_)
  · have c3 : isWd T e b k = false := Bool.eq_false_iff.mpr fun z => c ((Ats.wo h).trans ((wr_is hk).mpr z))
    refine a_s rfl rfl ?_
    refine a_s2 rfl rfl rfl rfl rfl rfl ?_
    refine a_l2 rfl rfl rfl ?_
    refine a_if_eq rfl (fun _ => ?_) (fun z => absurd rfl z)
    refine a_l2 rfl rfl rfl ?_
    exact a_zret rfl rfl rfl ⟨by rw [c3]; rfl, I, w1, rfl, by rw [c3]; exact h, fun _ _ => rfl⟩
  · have c3 : isWd T e b k = true := (wr_is hk).mp ((Ats.wo h).symm.trans c)
    refine a_s rfl rfl ?_
    refine a_goto rfl ?_
    refine a_s2 rfl rfl rfl rfl rfl rfl ?_
    refine a_l2 rfl rfl rfl ?_
    refine a_if_eq rfl (fun z => absurd z (by decide)) (fun _ => ?_)
    refine a_l0 rfl rfl rfl ?_
    refine a_gV rfl lX9_55 mo_X9_next (sg_next hw h) rfl rfl rfl ⟨9, _, rfl, rfl, rfl⟩ rfl (fun v' h' hv => ?_)
    obtain ⟨rfl, J, w, rfl, hA, hf⟩ := hv
    refine a_l2 rfl rfl rfl ?_
    exact a_zret rfl rfl rfl ⟨by rw [c3]; rfl, J, w, rfl, by rw [c3]; exact hA, hf⟩
theorem s_takeNumber (hw : WdS S) (h : Ats T e b w1 I) {lo hi : Int32} (h0 : 0 ≤ lo) : Sp S m_X9_takeNumber 14 0 0 [.ref 204, .int lo, .int hi] (hp I L w1 w2 t) (fun v h' => v = some (.int (nm T e b lo hi)) ∧ ∃ J w, h' = hp J L w w2 t ∧ Ats T e (if nm T e b lo hi = -1 then b else nx T e b) w J ∧ ∀ q, q ≠ 204 → J q = I q) nX := by
  refine Sp_of ok_X9_takeNumber rfl rfl ?_
  show AW S m_X9_takeNumber 14 _ _ 0 0 0 [some (.ref 204), some (.int lo), some (.int hi), none] [] (hp I L w1 w2 t)
  have k4 := kd_4 (T := T) (e := e) (b := b) rfl
  have no : nm T e b lo hi = -1 → AW S m_X9_takeNumber 14 (fun v h' => v = some (.int (nm T e b lo hi)) ∧ ∃ J w, h' = hp J L w w2 t ∧ Ats T e (if nm T e b lo hi = -1 then b else nx T e b) w J ∧ ∀ q, q ≠ 204 → J q = I q) nX 0 0 23 [some (.ref 204), some (.int lo), some (.int hi), some (.int (vl T e b))] [] (hp I L w1 w2 t) := by
    intro hn
    refine a_s rfl rfl ?_
    exact a_iret rfl rfl ⟨by rw [hn], I, w1, rfl, by rw [if_pos hn]; exact h, fun _ _ => rfl⟩
  refine a_l0 rfl rfl rfl ?_
  refine a_getiv (v := vl T e b) rfl gfX9_103_9 rfl (Ats.va h) ?_
  refine a_s3 rfl rfl rfl rfl rfl rfl ?_
  refine a_l0 rfl rfl rfl ?_
  refine a_getiv (v := nI (kd T e b)) rfl gfX9_97_9 rfl (Ats.ki h) ?_
  refine a_s rfl rfl ?_
  refine a_ic_ne rfl (fun c => no (if_neg fun z => c (congrArg nI z.1))) (fun c => ?_)
  have c := nI_inj (b := 2) (by omega) (by decide) c
  refine a_l3 rfl rfl rfl ?_
  refine a_l1 rfl rfl rfl ?_
  refine a_ic_lt rfl (fun c2 => no (if_neg fun z => absurd c2 (Int32.not_lt.mpr z.2.1))) (fun c2 => ?_)
  refine a_l3 rfl rfl rfl ?_
  refine a_l2 rfl rfl rfl ?_
  refine a_ic_le rfl (fun c3 => ?_) (fun c3 => no (if_neg fun z => c3 z.2.2))
  have c2 := Int32.not_lt.mp c2
  have hn : nm T e b lo hi = vl T e b := if_pos ⟨c, c2, c3⟩
  have hne : ¬ nm T e b lo hi = -1 := fun z => by
    rw [hn] at z
    rw [z] at c2
    exact absurd (Int32.le_trans h0 c2) (by decide)
  refine a_l0 rfl rfl rfl ?_
  refine a_gV rfl lX9_55 mo_X9_next (sg_next hw h) rfl rfl rfl ⟨9, _, rfl, rfl, rfl⟩ rfl (fun v' h' hv => ?_)
  obtain ⟨rfl, J, w, rfl, hA, hf⟩ := hv
  refine a_l3 rfl rfl rfl ?_
  exact a_iret rfl rfl ⟨by rw [hn], J, w, rfl, by rw [if_neg hne]; exact hA, hf⟩
end T79l
end
section
/-! ===== a street as a row of numbers; what a text of the street says ===== -/
section P79m
def ud (W : Nat → Int32) (k : Nat) (v : Int32) : Nat → Int32 := fun j => if j = k then v else W j
theorem ud_at {W : Nat → Int32} {k : Nat} {v : Int32} : ud W k v k = v := if_pos rfl
theorem ud_ne {W : Nat → Int32} {k j : Nat} {v : Int32} (h : j ≠ k) : ud W k v j = W j := if_neg h
theorem up2_ud {I : Nat → Nat → Int32} {p k : Nat} {v : Int32} : up2 I p k v p = ud (I p) k v := by
  funext j
  by_cases c : j = k
  · rw [c, up2_at, ud_at]
  · rw [up2_ne (Or.inr c), ud_ne c]
/-- a street's own fields: where they lie in the row -/
def flds : List (Nat × Nat) := [(0, 0), (3, 1), (16, 2), (10, 4), (11, 5), (12, 6), (13, 7), (14, 8), (15, 10)]
theorem flds_in : ∀ x ∈ flds, x.2 < 11 ∧ ∀ y ∈ flds, x.1 = y.1 → x.2 = y.2 := by decide
theorem flds_ni : ∀ x ∈ flds, ∀ y ∈ flds, x.2 = y.2 → x.1 = y.1 := by decide
/-- the street at a is the one that the row tells -/
def Sd (I : Nat → Nat → Int32) (a : Nat) (W : Nat → Int32) : Prop := (∀ x ∈ flds, I a x.1 = W x.2) ∧ (∀ p, p < 6 → I (a + 1) p = W (11 + 2 * p) ∧ I (a + 2) p = W (11 + 2 * p + 1)) ∧ ∀ d, d < 12 → ∀ k, k < 6 → I (a + 3 + k) d = W (23 + 6 * d + k)
theorem Sd.fd {I : Nat → Nat → Int32} {a : Nat} {W : Nat → Int32} (h : Sd I a W) {f g : Nat} (hm : (f, g) ∈ flds) : I a f = W g := h.1 (f, g) hm
theorem Sd.eq {I J : Nat → Nat → Int32} {a : Nat} {W : Nat → Int32} (h : Sd I a W) (f : ∀ q, a ≤ q → q ≤ a + 8 → J q = I q) : Sd J a W := by
  obtain ⟨h1, h2, h3⟩ := h
  refine ⟨fun x hx => ?_, fun p hp => ?_, fun d hd k hk => ?_⟩
  · rw [f a (by omega) (by omega)]
    exact h1 x hx
  · rw [f (a + 1) (by omega) (by omega), f (a + 2) (by omega) (by omega)]
    exact h2 p hp
  · rw [f (a + 3 + k) (by omega) (by omega)]
    exact h3 d hd k hk
theorem Sd.pu {I : Nat → Nat → Int32} {a f g : Nat} {W : Nat → Int32} {v : Int32} (h : Sd I a W) (hm : (f, g) ∈ flds) : Sd (up2 I a f v) a (ud W g v) := by
  obtain ⟨h1, h2, h3⟩ := h
  have hg : g < 11 := (flds_in _ hm).1
  refine ⟨fun x hx => ?_, fun p hp => ?_, fun d hd k hk => ?_⟩
  · by_cases c : x.1 = f
    · rw [c, up2_at, show x.2 = g from (flds_in x hx).2 _ hm c, ud_at]
    · rw [up2_ne (Or.inr c), ud_ne (fun z => c (flds_ni x hx _ hm z))]
      exact h1 x hx
  · rw [up2_row (by omega), up2_row (by omega), ud_ne (by omega), ud_ne (by omega)]
    exact h2 p hp
  · rw [up2_row (by omega), ud_ne (by omega)]
    exact h3 d hd k hk
theorem Sd.kb {I : Nat → Nat → Int32} {a p : Nat} {W : Nat → Int32} {v : Int32} (h : Sd I a W) (hp : p < 6) : Sd (up2 I (a + 1) p v) a (ud W (11 + 2 * p) v) := by
  obtain ⟨h1, h2, h3⟩ := h
  refine ⟨fun x hx => ?_, fun q hq => ?_, fun d hd k hk => ?_⟩
  · have := (flds_in x hx).1
    rw [up2_row (by omega), ud_ne (by omega)]
    exact h1 x hx
  · rw [up2_row (p := a + 1) (q := a + 2) (by omega), ud_ne (j := 11 + 2 * q + 1) (by omega)]
    refine ⟨?_, (h2 q hq).2⟩
    by_cases c : q = p
    · rw [c, up2_at, ud_at]
    · rw [up2_ne (Or.inr c), ud_ne (by omega)]
      exact (h2 q hq).1
  · rw [up2_row (by omega), ud_ne (by omega)]
    exact h3 d hd k hk
theorem Sd.fr {I : Nat → Nat → Int32} {a p : Nat} {W : Nat → Int32} {v : Int32} (h : Sd I a W) (hp : p < 6) : Sd (up2 I (a + 2) p v) a (ud W (11 + 2 * p + 1) v) := by
  obtain ⟨h1, h2, h3⟩ := h
  refine ⟨fun x hx => ?_, fun q hq => ?_, fun d hd k hk => ?_⟩
  · have := (flds_in x hx).1
    rw [up2_row (by omega), ud_ne (by omega)]
    exact h1 x hx
  · rw [up2_row (p := a + 2) (q := a + 1) (by omega), ud_ne (j := 11 + 2 * q) (by omega)]
    refine ⟨(h2 q hq).1, ?_⟩
    by_cases c : q = p
    · rw [c, up2_at, ud_at]
    · rw [up2_ne (Or.inr c), ud_ne (by omega)]
      exact (h2 q hq).2
  · rw [up2_row (by omega), ud_ne (by omega)]
    exact h3 d hd k hk
theorem Sd.ro {I : Nat → Nat → Int32} {a d k : Nat} {W : Nat → Int32} {v : Int32} (h : Sd I a W) (hd : d < 12) (hk : k < 6) : Sd (up2 I (a + 3 + k) d v) a (ud W (23 + 6 * d + k) v) := by
  obtain ⟨h1, h2, h3⟩ := h
  refine ⟨fun x hx => ?_, fun q hq => ?_, fun d' hd' k' hk' => ?_⟩
  · have := (flds_in x hx).1
    rw [up2_row (by omega), ud_ne (by omega)]
    exact h1 x hx
  · rw [up2_row (by omega), up2_row (by omega), ud_ne (by omega), ud_ne (by omega)]
    exact h2 q hq
  · by_cases c : d' = d ∧ k' = k
    · rw [c.1, c.2, up2_at, ud_at]
    · rw [up2_ne (by omega), ud_ne (by omega)]
      exact h3 d' hd' k' hk'
/-- how many -/
def pn (W : Nat → Int32) : Nat := (W 0).toNatClampNeg
def dn (W : Nat → Int32) : Nat := (W 1).toNatClampNeg
def WOk (W : Nat → Int32) : Prop := pn W ≤ 6 ∧ dn W ≤ 12 ∧ W 0 = nI (pn W) ∧ W 1 = nI (dn W)
theorem WOk.of {W : Nat → Int32} {np nd : Nat} (hp : np ≤ 6) (hd : nd ≤ 12) (h0 : W 0 = nI np) (h1 : W 1 = nI nd) : WOk W ∧ pn W = np ∧ dn W = nd := by
  have e0 : pn W = np := by unfold pn; rw [h0, nI_clamp (by omega)]
  have e1 : dn W = nd := by unfold dn; rw [h1, nI_clamp (by omega)]
  exact ⟨⟨by omega, by omega, by rw [e0]; exact h0, by rw [e1]; exact h1⟩, e0, e1⟩
theorem WOk.eq {W W' : Nat → Int32} (h : WOk W) (e0 : W' 0 = W 0) (e1 : W' 1 = W 1) : WOk W' := by
  obtain ⟨h1, h2, h3, h4⟩ := h
  exact (WOk.of h1 h2 (e0.trans h3) (e1.trans h4)).1
abbrev SR : Type := Bool × Nat × (Nat → Int32)
/-- a number behind a word; where what is next begins then, or what is wrong -/
def nbP (T : Nat → Int32) (e k : Nat) (lo hi : Int32) (b : Nat) : Int32 × Nat := if isWd T e b k = true then (if nm T e (nx T e b) lo hi = -1 then (-1, nx T e b) else (nm T e (nx T e b) lo hi, nx T e (nx T e b))) else (-1, b)
def optP (T : Nat → Int32) (e k : Nat) (lo hi d : Int32) (b : Nat) : Bool × Int32 × Nat := if isWd T e b k = true then (if nm T e (nx T e b) lo hi = -1 then (false, -1, nx T e b) else (true, nm T e (nx T e b) lo hi, nx T e (nx T e b))) else (true, d, b)
def addPs (W : Nat → Int32) (x y : Int32) : Nat → Int32 := ud (ud (ud W (11 + 2 * pn W) x) (11 + 2 * pn W + 1) y) 0 (nI (pn W + 1))
def addDt (W : Nat → Int32) (o l a t n : Int32) : Nat → Int32 := ud (ud (ud (ud (ud (ud (ud W (23 + 6 * dn W + 0) o) (23 + 6 * dn W + 1) l) (23 + 6 * dn W + 2) a) (23 + 6 * dn W + 3) t) (23 + 6 * dn W + 4) n) (23 + 6 * dn W + 5) 0) 1 (nI (dn W + 1))
def perC (W : Nat → Int32) (k : Int32) (y : Int32 × Nat) : SR := if y.1 = -1 then (false, y.2, W) else (true, y.2, addPs W k y.1)
def perB (T : Nat → Int32) (e : Nat) (W : Nat → Int32) (x : Int32 × Nat) : SR := if x.1 = -1 then (false, x.2, W) else perC W x.1 (nbP T e 2 0 9 x.2)
def perP (T : Nat → Int32) (e b : Nat) (W : Nat → Int32) : SR := if W 0 = 6 then (false, b, W) else perB T e W (nbP T e 1 0 15 (nx T e b))
def duE (W : Nat → Int32) (o l a t : Int32) (y : Bool × Int32 × Nat) : SR := if y.1 = true then (true, y.2.2, addDt W o l a t y.2.1) else (false, y.2.2, W)
def duD (T : Nat → Int32) (e : Nat) (W : Nat → Int32) (o l a : Int32) (y : Bool × Int32 × Nat) : SR := if y.1 = true then duE W o l a y.2.1 (optP T e 8 0 (W 1 - 1) (-1) y.2.2) else (false, y.2.2, W)
def duC (T : Nat → Int32) (e : Nat) (W : Nat → Int32) (o l : Int32) (y : Bool × Int32 × Nat) : SR := if y.1 = true then duD T e W o l y.2.1 (optP T e 7 0 5 (-1) y.2.2) else (false, y.2.2, W)
def duB (T : Nat → Int32) (e : Nat) (W : Nat → Int32) (o : Int32) (x : Int32 × Nat) : SR := if x.1 = -1 then (false, x.2, W) else duC T e W o x.1 (optP T e 6 0 99 0 x.2)
def duA (T : Nat → Int32) (e : Nat) (W : Nat → Int32) (x : Int32 × Nat) : SR := if x.1 = -1 then (false, x.2, W) else duB T e W x.1 (nbP T e 5 1 99 x.2)
def dutP (T : Nat → Int32) (e b : Nat) (W : Nat → Int32) : SR := if W 1 = 12 then (false, b, W) else duA T e W (nbP T e 4 0 (W 0 - 1) (nx T e b))
def forP (T : Nat → Int32) (e b : Nat) (W : Nat → Int32) : SR := if nm T e b 0 (W 1 - 1) = -1 then (false, b, W) else if W (23 + 6 * (nm T e b 0 (W 1 - 1)).toNatClampNeg + 5) = 0 then (true, nx T e b, ud W (23 + 6 * (nm T e b 0 (W 1 - 1)).toNatClampNeg + 5) 2) else (false, b, W)
def setP (T : Nat → Int32) (e b : Nat) (W : Nat → Int32) (g : Nat) (lo hi : Int32) : SR := if nm T e b lo hi = -1 then (false, b, W) else (true, nx T e b, ud W g (nm T e b lo hi))
def stgP (T : Nat → Int32) (e b : Nat) (W : Nat → Int32) : SR :=
  if isWd T e b 10 = true then setP T e (nx T e b) W 6 0 100 else if isWd T e b 11 = true then setP T e (nx T e b) W 7 1 9 else if isWd T e b 12 = true then setP T e (nx T e b) W 8 0 50 else
  if isWd T e b 13 = true then setP T e (nx T e b) W 4 1 30 else if isWd T e b 14 = true then setP T e (nx T e b) W 5 0 999 else (false, b, W)
def linP (T : Nat → Int32) (e b : Nat) (W : Nat → Int32) : SR :=
  if isWd T e b 0 = true then perP T e b W else if isWd T e b 3 = true then dutP T e b W else if isWd T e b 9 = true then forP T e (nx T e b) W else
  stgP T e b W
def strsP (T : Nat → Int32) (e : Nat) : Nat → Nat → (Nat → Int32) → SR
  | 0, b, W => (false, b, W)
  | f + 1, b, W =>
    if (linP T e b W).1 = true then
      (if (linP T e b W).2.1 < e then
        (if sg T e (linP T e b W).2.1 59 = true then strsP T e f (nx T e (linP T e b W).2.1) (linP T e b W).2.2 else (false, (linP T e b W).2.1, W))
       else (true, (linP T e b W).2.1, (linP T e b W).2.2))
    else (false, (linP T e b W).2.1, W)
def strP (T : Nat → Int32) (e : Nat) (W : Nat → Int32) : SR := if bg T e 0 < e then strsP T e 14 (bg T e 0) W else (true, bg T e 0, W)
variable {T : Nat → Int32} {e b : Nat} {W : Nat → Int32}
theorem strsP_s {f : Nat} : strsP T e (f + 1) b W =
    if (linP T e b W).1 = true then
      (if (linP T e b W).2.1 < e then
        (if sg T e (linP T e b W).2.1 59 = true then strsP T e f (nx T e (linP T e b W).2.1) (linP T e b W).2.2 else (false, (linP T e b W).2.1, W))
       else (true, (linP T e b W).2.1, (linP T e b W).2.2))
    else (false, (linP T e b W).2.1, W) := rfl
theorem nm_in {lo hi : Int32} (h : ¬ nm T e b lo hi = -1) : lo ≤ nm T e b lo hi ∧ nm T e b lo hi ≤ hi ∧ kd T e b = 2 ∧ nm T e b lo hi = vl T e b := by
  unfold nm at h ⊢
  by_cases c : kd T e b = 2 ∧ lo ≤ vl T e b ∧ vl T e b ≤ hi
  · rw [if_pos c]
    exact ⟨c.2.1, c.2.2, c.1, rfl⟩
  · rw [if_neg c] at h
    exact absurd rfl h
/-- a number below so many -/
theorem nm_ix {n : Nat} (hn : n ≤ 12) (h : ¬ nm T e b 0 (nI n - 1) = -1) : ∃ j, j < n ∧ nm T e b 0 (nI n - 1) = nI j := by
  obtain ⟨h1, h2, -, -⟩ := nm_in h
  generalize nm T e b 0 (nI n - 1) = v at h1 h2
  rcases n with _ | n
  · exfalso
    exact absurd (Int32.le_trans h1 h2) (by decide)
  · rw [nI_dec, Int32.le_iff_toInt_le, nI_toInt (by omega)] at h2
    rw [Int32.le_iff_toInt_le, show (0 : Int32).toInt = 0 from rfl] at h1
    refine ⟨v.toInt.toNat, by omega, ?_⟩
    rw [← Int32.toInt_inj, nI_toInt (by omega)]
    omega
theorem nbP_t {k : Nat} {lo hi : Int32} (h : isWd T e b k = true) : nbP T e k lo hi b = if nm T e (nx T e b) lo hi = -1 then (-1, nx T e b) else (nm T e (nx T e b) lo hi, nx T e (nx T e b)) := if_pos h
theorem nbP_f {k : Nat} {lo hi : Int32} (h : isWd T e b k = false) : nbP T e k lo hi b = (-1, b) := if_neg (by rw [h]; exact Bool.false_ne_true)
theorem addPs_ok (h : WOk W) (h6 : ¬ W 0 = 6) {x y : Int32} : WOk (addPs W x y) := by
  obtain ⟨h1, h2, h3, h4⟩ := h
  have : pn W ≠ 6 := fun z => h6 (by rw [h3, z]; rfl)
  refine (WOk.of (np := pn W + 1) (nd := dn W) (by omega) h2 ud_at ?_).1
  show ud (ud (ud W (11 + 2 * pn W) x) (11 + 2 * pn W + 1) y) 0 (nI (pn W + 1)) 1 = _
  rw [ud_ne (by decide), ud_ne (by omega), ud_ne (by omega)]
  exact h4
theorem addDt_ok (h : WOk W) (h6 : ¬ W 1 = 12) {o l a t n : Int32} : WOk (addDt W o l a t n) := by
  obtain ⟨h1, h2, h3, h4⟩ := h
  have : dn W ≠ 12 := fun z => h6 (by rw [h4, z]; rfl)
  refine (WOk.of (np := pn W) (nd := dn W + 1) h1 (by omega) ?_ ud_at).1
  rw [ud_ne (by decide), ud_ne (by omega), ud_ne (by omega), ud_ne (by omega), ud_ne (by omega), ud_ne (by omega), ud_ne (by omega)]
  exact h3
theorem ud_ok (h : WOk W) {g : Nat} {v : Int32} (hg : 2 ≤ g) : WOk (ud W g v) := h.eq (ud_ne (by omega)) (ud_ne (by omega))
theorem perP_ok (h : WOk W) (hz : (perP T e b W).1 = true) : WOk (perP T e b W).2.2 := by
  unfold perP at hz ⊢
  by_cases c : W 0 = 6
  · rw [if_pos c] at hz
    cases hz
  rw [if_neg c] at hz ⊢
  unfold perB at hz ⊢
  by_cases c2 : (nbP T e 1 0 15 (nx T e b)).1 = -1
  · rw [if_pos c2] at hz
    cases hz
  rw [if_neg c2] at hz ⊢
  unfold perC at hz ⊢
  by_cases c3 : (nbP T e 2 0 9 (nbP T e 1 0 15 (nx T e b)).2).1 = -1
  · rw [if_pos c3] at hz
    cases hz
  rw [if_neg c3] at hz ⊢
  exact addPs_ok h c
theorem dutP_ok (h : WOk W) (hz : (dutP T e b W).1 = true) : WOk (dutP T e b W).2.2 := by
  unfold dutP at hz ⊢
  by_cases c : W 1 = 12
  · rw [if_pos c] at hz
    cases hz
  rw [if_neg c] at hz ⊢
  generalize nbP T e 4 0 (W 0 - 1) (nx T e b) = x at hz ⊢
  unfold duA at hz ⊢
  by_cases c2 : x.1 = -1
  · rw [if_pos c2] at hz
    cases hz
  rw [if_neg c2] at hz ⊢
  generalize nbP T e 5 1 99 x.2 = y at hz ⊢
  unfold duB at hz ⊢
  by_cases c3 : y.1 = -1
  · rw [if_pos c3] at hz
    cases hz
  rw [if_neg c3] at hz ⊢
  generalize optP T e 6 0 99 0 y.2 = u at hz ⊢
  unfold duC at hz ⊢
  by_cases c4 : u.1 = true
  · rw [if_pos c4] at hz ⊢
    generalize optP T e 7 0 5 (-1) u.2.2 = v at hz ⊢
    unfold duD at hz ⊢
    by_cases c5 : v.1 = true
    · rw [if_pos c5] at hz ⊢
      generalize optP T e 8 0 (W 1 - 1) (-1) v.2.2 = w at hz ⊢
      unfold duE at hz ⊢
      by_cases c6 : w.1 = true
      · rw [if_pos c6] at hz ⊢
        exact addDt_ok h c
      · rw [if_neg c6] at hz
        cases hz
    · rw [if_neg c5] at hz
      cases hz
  · rw [if_neg c4] at hz
    cases hz
theorem forP_ok (h : WOk W) (hz : (forP T e b W).1 = true) : WOk (forP T e b W).2.2 := by
  unfold forP at hz ⊢
  by_cases c : nm T e b 0 (W 1 - 1) = -1
  · rw [if_pos c] at hz
    cases hz
  rw [if_neg c] at hz ⊢
  by_cases c2 : W (23 + 6 * (nm T e b 0 (W 1 - 1)).toNatClampNeg + 5) = 0
  · rw [if_pos c2]
    exact ud_ok h (by omega)
  · rw [if_neg c2] at hz
    cases hz
theorem setP_ok (h : WOk W) {g : Nat} {lo hi : Int32} (hg : 2 ≤ g) (hz : (setP T e b W g lo hi).1 = true) : WOk (setP T e b W g lo hi).2.2 := by
  unfold setP at hz ⊢
  by_cases c : nm T e b lo hi = -1
  · rw [if_pos c] at hz
    cases hz
  rw [if_neg c]
  exact ud_ok h hg
theorem stgP_ok (h : WOk W) (hz : (stgP T e b W).1 = true) : WOk (stgP T e b W).2.2 := by
  unfold stgP at hz ⊢
  by_cases c : isWd T e b 10 = true
  · rw [if_pos c] at hz ⊢; exact setP_ok h (by decide) hz
  rw [if_neg c] at hz ⊢
  by_cases c : isWd T e b 11 = true
  · rw [if_pos c] at hz ⊢; exact setP_ok h (by decide) hz
  rw [if_neg c] at hz ⊢
  by_cases c : isWd T e b 12 = true
  · rw [if_pos c] at hz ⊢; exact setP_ok h (by decide) hz
  rw [if_neg c] at hz ⊢
  by_cases c : isWd T e b 13 = true
  · rw [if_pos c] at hz ⊢; exact setP_ok h (by decide) hz
  rw [if_neg c] at hz ⊢
  by_cases c : isWd T e b 14 = true
  · rw [if_pos c] at hz ⊢; exact setP_ok h (by decide) hz
  rw [if_neg c] at hz
  cases hz
theorem linP_ok (h : WOk W) (hz : (linP T e b W).1 = true) : WOk (linP T e b W).2.2 := by
  unfold linP at hz ⊢
  by_cases c : isWd T e b 0 = true
  · rw [if_pos c] at hz ⊢; exact perP_ok h hz
  rw [if_neg c] at hz ⊢
  by_cases c : isWd T e b 3 = true
  · rw [if_pos c] at hz ⊢; exact dutP_ok h hz
  rw [if_neg c] at hz ⊢
  by_cases c : isWd T e b 9 = true
  · rw [if_pos c] at hz ⊢; exact forP_ok h hz
  rw [if_neg c] at hz ⊢
  exact stgP_ok h hz
end P79m
end
section
/-! ===== the class: a text of the street (printed by program) ===== -/
section T79n
variable {S : aS} {I : Nat → Nat → Int32} {L : Nat → Nat → Int64} {w1 w2 t : Nat} {e b : Nat} {T W : Nat → Int32}
set_option maxRecDepth 100000
def sO (q k : Nat) : Bool := Nat.ble 204 q && Nat.ble q 217
theorem sO_in {q k : Nat} (h : sO q k = false) : q < 204 ∨ 217 < q := by
  unfold sO at h
  by_cases c1 : 204 ≤ q
  · rw [Nat.ble_eq_true_of_le c1] at h
    by_cases c2 : q ≤ 217
    · rw [Nat.ble_eq_true_of_le c2] at h
      cases h
    · omega
  · omega
theorem Fms {J J' : Nat → Nat → Int32} (h : Fm sO I J) (f : ∀ q, q ≠ 204 → J' q = J q) : Fm sO I J' := fun q k hq => by
  rw [f q (by have := sO_in hq; omega)]
  exact h q k hq
theorem Sd.nx {J : Nat → Nat → Int32} (h : Sd I 209 W) (f : ∀ q, q ≠ 204 → J q = I q) : Sd J 209 W := Sd.eq h fun q g1 g2 => f q (by omega)
theorem Fms.d {J J' : Nat → Nat → Int32} (h : Fm sO I J) (f : ∀ q, ¬ (204 ≤ q ∧ q ≤ 208) → J' q = J q) : Fm sO I J' := fun q k hq => by
  rw [f q (by have := sO_in hq; omega)]
  exact h q k hq
theorem s_addPerson {np : Nat} (h0 : I 209 0 = nI np) (h6 : np < 6) {x y : Int32} : SpE S m_X5_addPerson 13 [.ref 209, .int x, .int y] (hp I L w1 w2 t) none (hp (up2 (up2 (up2 I 210 np x) 211 np y) 209 0 (nI (np + 1))) L w1 w2 t) := by
  refine SpE_of ok_X5_addPerson rfl rfl ?_
  show AW S m_X5_addPerson 13 _ _ 0 0 0 [some (.ref 209), some (.int x), some (.int y)] [] (hp I L w1 w2 t)
  refine a_l0 rfl rfl rfl ?_
  refine a_getq rfl gfX5_9_5 rfl (rfl) ?_
  refine a_l0 rfl rfl rfl ?_
  refine a_getiv (v := nI np) rfl gfX5_56_5 rfl (h0) ?_
  refine a_l1 rfl rfl rfl ?_
  refine a_eSN0 rfl lX5_82 mo_X11_setAt (sp_X11_setAt rfl) rfl rfl rfl rfl ?_
  rw [setF_nI h6 (by decide)]
  refine a_l0 rfl rfl rfl ?_
  refine a_getq rfl gfX5_15_5 rfl (rfl) ?_
  refine a_l0 rfl rfl rfl ?_
  refine a_getiv (v := nI np) rfl gfX5_56_5 rfl ((congrFun (up2_row (by decide)) 0).trans h0) ?_
  refine a_l2 rfl rfl rfl ?_
  refine a_eSN0 rfl lX5_82 mo_X11_setAt (sp_X11_setAt rfl) rfl rfl rfl rfl ?_
  rw [setF_nI h6 (by decide)]
  refine a_l0 rfl rfl rfl ?_
  refine a_s rfl rfl ?_
  refine a_getiv (v := nI np) rfl gfX5_56_5 rfl ((congrFun (up2_row (by decide)) 0).trans ((congrFun (up2_row (by decide)) 0).trans h0)) ?_
  refine a_s rfl rfl ?_
  refine a_s rfl rfl ?_
  refine a_top (y := nI (np + 1)) ((nI_succ np).symm) ?_
  refine a_puti rfl pfX5_56_5 rfl ?_
  exact a_vret rfl rfl ⟨rfl, rfl⟩
def adH (I : Nat → Nat → Int32) (nd : Nat) (x0 x1 x2 x3 x4 : Int32) : Nat → Nat → Int32 := up2 (up2 (up2 (up2 (up2 (up2 (up2 I 212 nd x0) 213 nd x1) 214 nd x2) 215 nd x3) 216 nd x4) 217 nd 0) 209 3 (nI (nd + 1))
theorem s_addDuty {nd : Nat} (h0 : I 209 3 = nI nd) (h6 : nd < 12) {x0 x1 x2 x3 x4 : Int32} : SpE S m_X5_addDuty 13 [.ref 209, .int x0, .int x1, .int x2, .int x3, .int x4] (hp I L w1 w2 t) none (hp (adH I nd x0 x1 x2 x3 x4) L w1 w2 t) := by
  refine SpE_of ok_X5_addDuty rfl rfl ?_
  show AW S m_X5_addDuty 13 _ _ 0 0 0 [some (.ref 209), some (.int x0), some (.int x1), some (.int x2), some (.int x3), some (.int x4)] [] (hp I L w1 w2 t)
  refine a_l0 rfl rfl rfl ?_
  refine a_getq rfl gfX5_18_5 rfl (rfl) ?_
  refine a_l0 rfl rfl rfl ?_
  refine a_getiv (v := nI nd) rfl gfX5_63_5 rfl (h0) ?_
  refine a_l1 rfl rfl rfl ?_
  refine a_eSN0 rfl lX5_82 mo_X11_setAt (sp_X11_setAt rfl) rfl rfl rfl rfl ?_
  rw [setF_nI h6 (by decide)]
  refine a_l0 rfl rfl rfl ?_
  refine a_getq rfl gfX5_21_5 rfl (rfl) ?_
  refine a_l0 rfl rfl rfl ?_
  refine a_getiv (v := nI nd) rfl gfX5_63_5 rfl ((congrFun (up2_row (by decide)) 3).trans (h0)) ?_
  refine a_l2 rfl rfl rfl ?_
  refine a_eSN0 rfl lX5_82 mo_X11_setAt (sp_X11_setAt rfl) rfl rfl rfl rfl ?_
  rw [setF_nI h6 (by decide)]
  refine a_l0 rfl rfl rfl ?_
  refine a_getq rfl gfX5_24_5 rfl (rfl) ?_
  refine a_l0 rfl rfl rfl ?_
  refine a_getiv (v := nI nd) rfl gfX5_63_5 rfl ((congrFun (up2_row (by decide)) 3).trans ((congrFun (up2_row (by decide)) 3).trans (h0))) ?_
  refine a_l3 rfl rfl rfl ?_
  refine a_eSN0 rfl lX5_82 mo_X11_setAt (sp_X11_setAt rfl) rfl rfl rfl rfl ?_
  rw [setF_nI h6 (by decide)]
  refine a_l0 rfl rfl rfl ?_
  refine a_getq rfl gfX5_27_5 rfl (rfl) ?_
  refine a_l0 rfl rfl rfl ?_
  refine a_getiv (v := nI nd) rfl gfX5_63_5 rfl ((congrFun (up2_row (by decide)) 3).trans ((congrFun (up2_row (by decide)) 3).trans ((congrFun (up2_row (by decide)) 3).trans (h0)))) ?_
  refine a_l4 rfl rfl rfl ?_
  refine a_eSN0 rfl lX5_82 mo_X11_setAt (sp_X11_setAt rfl) rfl rfl rfl rfl ?_
  rw [setF_nI h6 (by decide)]
  refine a_l0 rfl rfl rfl ?_
  refine a_getq rfl gfX5_30_5 rfl (rfl) ?_
  refine a_l0 rfl rfl rfl ?_
  refine a_getiv (v := nI nd) rfl gfX5_63_5 rfl ((congrFun (up2_row (by decide)) 3).trans ((congrFun (up2_row (by decide)) 3).trans ((congrFun (up2_row (by decide)) 3).trans ((congrFun (up2_row (by decide)) 3).trans (h0))))) ?_
  refine a_l5 rfl rfl rfl ?_
  refine a_eSN0 rfl lX5_82 mo_X11_setAt (sp_X11_setAt rfl) rfl rfl rfl rfl ?_
  rw [setF_nI h6 (by decide)]
  refine a_l0 rfl rfl rfl ?_
  refine a_getq rfl gfX5_33_5 rfl (rfl) ?_
  refine a_l0 rfl rfl rfl ?_
  refine a_getiv (v := nI nd) rfl gfX5_63_5 rfl ((congrFun (up2_row (by decide)) 3).trans ((congrFun (up2_row (by decide)) 3).trans ((congrFun (up2_row (by decide)) 3).trans ((congrFun (up2_row (by decide)) 3).trans ((congrFun (up2_row (by decide)) 3).trans (h0)))))) ?_
  refine a_s rfl rfl ?_
  refine a_eSN0 rfl lX5_82 mo_X11_setAt (sp_X11_setAt rfl) rfl rfl rfl rfl ?_
  rw [setF_nI h6 (by decide)]
  refine a_l0 rfl rfl rfl ?_
  refine a_s rfl rfl ?_
  refine a_getiv (v := nI nd) rfl gfX5_63_5 rfl ((congrFun (up2_row (by decide)) 3).trans ((congrFun (up2_row (by decide)) 3).trans ((congrFun (up2_row (by decide)) 3).trans ((congrFun (up2_row (by decide)) 3).trans ((congrFun (up2_row (by decide)) 3).trans ((congrFun (up2_row (by decide)) 3).trans (h0))))))) ?_
  refine a_s rfl rfl ?_
  refine a_s rfl rfl ?_
  refine a_top (y := nI (nd + 1)) ((nI_succ nd).symm) ?_
  refine a_puti rfl pfX5_63_5 rfl ?_
  exact a_vret rfl rfl ⟨rfl, rfl⟩
theorem adH_fm {J : Nat → Nat → Int32} {nd : Nat} {x0 x1 x2 x3 x4 : Int32} (h : Fm sO I J) : Fm sO I (adH J nd x0 x1 x2 x3 x4) := Fm.up (Fm.up (Fm.up (Fm.up (Fm.up (Fm.up (Fm.up h rfl) rfl) rfl) rfl) rfl) rfl) rfl
theorem Sd.ad {nd : Nat} {x0 x1 x2 x3 x4 : Int32} (h : Sd I 209 W) (hn : dn W = nd) (h6 : nd < 12) : Sd (adH I nd x0 x1 x2 x3 x4) 209 (addDt W x0 x1 x2 x3 x4) := by
  subst hn
  exact Sd.pu (f := 3) (g := 1) (Sd.ro (k := 5) (Sd.ro (k := 4) (Sd.ro (k := 3) (Sd.ro (k := 2) (Sd.ro (k := 1) (Sd.ro (k := 0) h h6 (by decide)) h6 (by decide)) h6 (by decide)) h6 (by decide)) h6 (by decide)) h6 (by decide)) (by decide)
theorem s_readNumberOf (hw : WdS S) (h : Ats T e b w1 I) {k : Nat} (hk : k < 27) {lo hi : Int32} (h0 : 0 ≤ lo) : Sp S m_X6_readNumberOf 15 0 0 [.ref 203, .ref (100 + k), .int lo, .int hi] (hp I L w1 w2 t) (fun v h' => v = some (.int (nbP T e k lo hi b).1) ∧ ∃ J w, h' = hp J L w w2 t ∧ Ats T e (nbP T e k lo hi b).2 w J ∧ ∀ q, q ≠ 204 → J q = I q) nX := by
  refine Sp_of ok_X6_readNumberOf rfl rfl ?_
  show AW S m_X6_readNumberOf 15 _ _ 0 0 0 [some (.ref 203), some (.ref (100 + k)), some (.int lo), some (.int hi)] [] (hp I L w1 w2 t)
  refine a_l0 rfl rfl rfl ?_
  refine a_getq rfl gfX6_20_6 rfl (rfl) ?_
  refine a_l1 rfl rfl rfl ?_
  refine a_gV rfl lX6_55 mo_X9_takeWord (s_takeWord (k := k) hw h hk) rfl rfl rfl ⟨9, _, rfl, rfl, rfl⟩ rfl (fun v' h' hv => ?_)
  obtain ⟨rfl, J, w, rfl, hA, hf⟩ := hv
  cases c : isWd T e b k with
  | false =>
    rw [c, if_neg Bool.false_ne_true] at hA
    refine a_if_eq rfl (fun _ => ?_) (fun z => absurd rfl z)
    refine a_s rfl rfl ?_
    rw [nbP_f c]
    exact a_iret rfl rfl ⟨rfl, J, w, rfl, hA, hf⟩
  | true =>
    rw [c, if_pos rfl] at hA
    refine a_if_eq rfl (fun z => absurd z (by decide)) (fun _ => ?_)
    refine a_l0 rfl rfl rfl ?_
    refine a_getq rfl gfX6_20_6 rfl (rfl) ?_
    refine a_l2 rfl rfl rfl ?_
    refine a_l3 rfl rfl rfl ?_
    refine a_gV rfl lX6_149 mo_X9_takeNumber (s_takeNumber hw hA h0) rfl rfl rfl ⟨9, _, rfl, rfl, rfl⟩ rfl (fun v' h' hv => ?_)
    obtain ⟨rfl, J2, w3, rfl, hA2, hf2⟩ := hv
    refine a_goto rfl ?_
    rw [nbP_t c]
    by_cases cn : nm T e (nx T e b) lo hi = -1
    · rw [if_pos cn] at hA2 ⊢
      exact a_iret rfl rfl ⟨by rw [cn], J2, w3, rfl, hA2, fun q hq => (hf2 q hq).trans (hf q hq)⟩
    · rw [if_neg cn] at hA2 ⊢
      exact a_iret rfl rfl ⟨rfl, J2, w3, rfl, hA2, fun q hq => (hf2 q hq).trans (hf q hq)⟩
/-- of the draft, where a text is wrong -/
def Dk (J : Nat → Nat → Int32) : Prop := ∃ nd, nd ≤ 12 ∧ J 209 3 = nI nd
theorem Dk.sd {J : Nat → Nat → Int32} (h : Sd J 209 W) (hW : WOk W) : Dk J := ⟨dn W, hW.2.1, (Sd.fd h (f := 3) (g := 1) (by decide)).trans hW.2.2.2⟩
theorem Dk.nx {J : Nat → Nat → Int32} (h : Dk I) (f : ∀ q, q ≠ 204 → J q = I q) : Dk J := by
  obtain ⟨nd, h1, h2⟩ := h
  exact ⟨nd, h1, (congrFun (f 209 (by decide)) 3).trans h2⟩
theorem Dk.up {f : Nat} {v : Int32} (h : Dk I) (hf : 3 ≠ f) : Dk (up2 I 209 f v) := by
  obtain ⟨nd, h1, h2⟩ := h
  exact ⟨nd, h1, (up2_ne (Or.inr hf)).trans h2⟩
/-- a piece of a line, read as the function says -/
def QLs (T : Nat → Int32) (e : Nat) (r : SR) (I : Nat → Nat → Int32) (L : Nat → Nat → Int64) (w2 t : Nat) : Option Value → aH → Prop := fun v h' => v = some (.int (bI r.1)) ∧ ∃ J w, h' = hp J L w w2 t ∧ Fm sO I J ∧ Ats T e r.2.1 w J ∧ (r.1 = false → Dk J) ∧ (r.1 = true → Sd J 209 r.2.2)
theorem QLs.no {J : Nat → Nat → Int32} {p w : Nat} {W' : Nat → Int32} (F : Fm sO I J) (hA : Ats T e p w J) (hk : Dk J) : QLs T e (false, p, W') I L w2 t (some (.int 0)) (hp J L w w2 t) := ⟨rfl, J, w, rfl, F, hA, fun _ => hk, fun z => by cases z⟩
theorem QLs.yes {J : Nat → Nat → Int32} {p w : Nat} {W' : Nat → Int32} (F : Fm sO I J) (hA : Ats T e p w J) (hD : Sd J 209 W') : QLs T e (true, p, W') I L w2 t (some (.int 1)) (hp J L w w2 t) := ⟨rfl, J, w, rfl, F, hA, fun z => (by cases z), fun _ => hD⟩
theorem s_readPerson (hw : WdS S) (h : Ats T e b w1 I) (hD : Sd I 209 W) (hW : WOk W) (h6 : ¬ W 0 = 6) : Sp S m_X6_readPerson 17 0 0 [.ref 203] (hp I L w1 w2 t) (QLs T e (perB T e W (nbP T e 1 0 15 (nx T e b))) I L w2 t) nX := by
  have hp6 : pn W < 6 := by
    have := hW.1
    have : pn W ≠ 6 := fun z => h6 (by rw [hW.2.2.1, z]; rfl)
    omega
  refine Sp_of ok_X6_readPerson rfl rfl ?_
  show AW S m_X6_readPerson 17 _ _ 0 0 0 [some (.ref 203), none, none] [] (hp I L w1 w2 t)
  refine a_l0 rfl rfl rfl ?_
  refine a_getq rfl gfX6_20_6 rfl (rfl) ?_
  refine a_gV rfl lX6_65 mo_X9_next (sg_next hw h) rfl rfl rfl ⟨9, _, rfl, rfl, rfl⟩ rfl (fun v' h' hv => ?_)
  obtain ⟨rfl, J1, wa, rfl, hA1, hf1⟩ := hv
  refine a_l0 rfl rfl rfl ?_
  refine a_gets rfl (inC4 (i := 173) rfl rfl) (hw.st (i := 1) (by decide)) ?_
  refine a_s rfl rfl ?_
  refine a_s rfl rfl ?_
  refine a_gV rfl lX6_71 mo_X6_readNumberOf (s_readNumberOf (k := 1) (lo := 0) (hi := 15) hw hA1 (by decide) (by decide)) rfl rfl rfl ⟨6, _, rfl, rfl, rfl⟩ rfl (fun v' h' hv => ?_)
  obtain ⟨rfl, J2, wb, rfl, hA2, hf2⟩ := hv
  have F2 : Fm sO I J2 := Fms (Fms Fm.rf hf1) hf2
  generalize nbP T e 1 0 15 (nx T e b) = x at hA2 ⊢
  refine a_s1 rfl rfl rfl rfl rfl rfl ?_
  refine a_l1 rfl rfl rfl ?_
  refine a_s rfl rfl ?_
  refine a_ic_ne rfl (fun c1 => ?_) (fun c1 => ?_)
  rotate_left
  · refine a_s rfl rfl ?_
    rw [show perB T e W x = (false, x.2, W) from if_pos c1]
    exact a_zret rfl rfl rfl (QLs.no F2 hA2 (Dk.nx (Dk.nx (Dk.sd hD hW) hf1) hf2))
  rw [show perB T e W x = perC W x.1 (nbP T e 2 0 9 x.2) from if_neg c1]
  refine a_l0 rfl rfl rfl ?_
  refine a_gets rfl (inC4 (i := 181) rfl rfl) (hw.st (i := 2) (by decide)) ?_
  refine a_s rfl rfl ?_
  refine a_s rfl rfl ?_
  refine a_gV rfl lX6_71 mo_X6_readNumberOf (s_readNumberOf (k := 2) (lo := 0) (hi := 9) hw hA2 (by decide) (by decide)) rfl rfl rfl ⟨6, _, rfl, rfl, rfl⟩ rfl (fun v' h' hv => ?_)
  obtain ⟨rfl, J3, wc, rfl, hA3, hf3⟩ := hv
  have F3 : Fm sO I J3 := Fms F2 hf3
  have D3 : Sd J3 209 W := Sd.nx (Sd.nx (Sd.nx hD hf1) hf2) hf3
  generalize nbP T e 2 0 9 x.2 = y at hA3 ⊢
  refine a_s2 rfl rfl rfl rfl rfl rfl ?_
  refine a_l2 rfl rfl rfl ?_
  refine a_s rfl rfl ?_
  refine a_ic_ne rfl (fun c2 => ?_) (fun c2 => ?_)
  rotate_left
  · refine a_s rfl rfl ?_
    rw [show perC W x.1 y = (false, y.2, W) from if_pos c2]
    exact a_zret rfl rfl rfl (QLs.no F3 hA3 (Dk.sd D3 hW))
  rw [show perC W x.1 y = (true, y.2, addPs W x.1 y.1) from if_neg c2]
  refine a_l0 rfl rfl rfl ?_
  refine a_getq rfl gfX6_16_6 rfl (rfl) ?_
  refine a_l1 rfl rfl rfl ?_
  refine a_l2 rfl rfl rfl ?_
  refine a_eV0 rfl lX6_78 mo_X5_addPerson (s_addPerson ((Sd.fd D3 (f := 0) (g := 0) (by decide)).trans hW.2.2.1) hp6) rfl rfl rfl ⟨5, _, rfl, rfl, rfl⟩ rfl ?_
  refine a_s rfl rfl ?_
  exact a_zret rfl rfl rfl (QLs.yes (Fm.up (Fm.up (Fm.up F3 rfl) rfl) rfl) (Ats.eq hA3 fun q g1 g2 => by rw [up2_row (by omega), up2_row (by omega), up2_row (by omega)]) (Sd.pu (f := 0) (g := 0) (Sd.fr (Sd.kb D3 hp6) hp6) (by decide)))
theorem s_du161 (hW : WOk W) (h12 : ¬ W 1 = 12) {x0 x1 x2 x3 x4 : Int32} {p w : Nat} {J : Nat → Nat → Int32} (F : Fm sO I J) (hA : Ats T e p w J) (hD : Sd J 209 W) : AW S m_X6_readDuty 17 (QLs T e (true, p, addDt W x0 x1 x2 x3 x4) I L w2 t) nX 0 0 161 [some (.ref 203), some (.int x0), some (.int x1), some (.int x2), some (.int x3), some (.int x4)] [] (hp J L w w2 t) := by
  have hp6 : dn W < 12 := by
    have := hW.2.1
    have : dn W ≠ 12 := fun z => h12 (by rw [hW.2.2.2, z]; rfl)
    omega
  refine a_l0 rfl rfl rfl ?_
  refine a_getq rfl gfX6_16_6 rfl (rfl) ?_
  refine a_l1 rfl rfl rfl ?_
  refine a_l2 rfl rfl rfl ?_
  refine a_l3 rfl rfl rfl ?_
  refine a_l4 rfl rfl rfl ?_
  refine a_l5 rfl rfl rfl ?_
  refine a_eV0 rfl lX6_97 mo_X5_addDuty (s_addDuty ((Sd.fd hD (f := 3) (g := 1) (by decide)).trans hW.2.2.2) hp6) rfl rfl rfl ⟨5, _, rfl, rfl, rfl⟩ rfl ?_
  refine a_s rfl rfl ?_
  exact a_zret rfl rfl rfl (QLs.yes (adH_fm F) (Ats.eq hA fun q g1 g2 => by unfold adH; rw [up2_row (by omega), up2_row (by omega), up2_row (by omega), up2_row (by omega), up2_row (by omega), up2_row (by omega), up2_row (by omega)]) (Sd.ad hD rfl hp6))
theorem s_du118 (hw : WdS S) (hW : WOk W) (h12 : ¬ W 1 = 12) {x0 x1 x2 x3 : Int32} {p w : Nat} {J : Nat → Nat → Int32} (F : Fm sO I J) (hA : Ats T e p w J) (hD : Sd J 209 W) : AW S m_X6_readDuty 17 (QLs T e (duE W x0 x1 x2 x3 (optP T e 8 0 (W 1 - 1) (-1) p)) I L w2 t) nX 0 0 118 [some (.ref 203), some (.int x0), some (.int x1), some (.int x2), some (.int x3), none] [] (hp J L w w2 t) := by
  refine a_s rfl rfl ?_
  refine a_s5 rfl rfl rfl rfl rfl rfl ?_
  refine a_l0 rfl rfl rfl ?_
  refine a_getq rfl gfX6_20_6 rfl (rfl) ?_
  refine a_getr rfl gfX6_24_9 rfl ?_
  refine a_pop1 (show _ = rv w :: _ from rfl) ?_
  refine a_gets rfl (inC4 (i := 201) rfl rfl) (hw.st (i := 8) (by decide)) ?_
  refine a_acmp_ne (rx := w) (ry := 100 + 8 + 1) rfl ((Ats.wk hA).ac hw) (WK.ck hw (i := 8) (by decide)) (fun c => ?_) (fun c => ?_)
  · have d1 : isWd T e p 8 = false := Bool.eq_false_iff.mpr fun z => c ((Ats.wo hA).trans ((wr_is (by decide)).mpr z))
    rw [show optP T e 8 0 (W 1 - 1) (-1) p = (true, (-1), p) from if_neg (by rw [d1]; exact Bool.false_ne_true)]
    rw [show duE W x0 x1 x2 x3 (true, (-1), p) = (true, p, addDt W x0 x1 x2 x3 (-1)) from if_pos rfl]
    exact s_du161 hW h12 F hA hD
  · have d1 : isWd T e p 8 = true := (wr_is (by decide)).mp ((Ats.wo hA).symm.trans c)
    refine a_l0 rfl rfl rfl ?_
    refine a_gets rfl (inC4 (i := 201) rfl rfl) (hw.st (i := 8) (by decide)) ?_
    refine a_s rfl rfl ?_
    refine a_l0 rfl rfl rfl ?_
    refine a_getq rfl gfX6_16_6 rfl (rfl) ?_
    refine a_getiv (v := nI (dn W)) rfl gfX6_46_5 rfl ((Sd.fd hD (f := 3) (g := 1) (by decide)).trans hW.2.2.2) ?_
    refine a_s rfl rfl ?_
    refine a_s rfl rfl ?_
    refine a_top (y := W 1 - 1) (by rw [hW.2.2.2]) ?_
    refine a_gV rfl lX6_71 mo_X6_readNumberOf (s_readNumberOf (k := 8) (lo := 0) (hi := (W 1 - 1)) hw hA (by decide) (by decide)) rfl rfl rfl ⟨6, _, rfl, rfl, rfl⟩ rfl (fun v' h' hv => ?_)
    obtain ⟨rfl, J2, w', rfl, hA2, hf2⟩ := hv
    rw [nbP_t d1] at hA2 ⊢
    by_cases cn : nm T e (nx T e p) 0 (W 1 - 1) = -1
    · rw [if_pos cn] at hA2 ⊢
      rw [show optP T e 8 0 (W 1 - 1) (-1) p = (false, -1, nx T e p) from (if_pos d1).trans (if_pos cn)]
      refine a_s5 rfl rfl rfl rfl rfl rfl ?_
      refine a_l5 rfl rfl rfl ?_
      refine a_s rfl rfl ?_
      refine a_ic_ne rfl (fun z => absurd rfl z) (fun _ => ?_)
      refine a_s rfl rfl ?_
      rw [show duE W x0 x1 x2 x3 (false, -1, nx T e p) = (false, nx T e p, W) from if_neg Bool.false_ne_true]
      exact a_zret rfl rfl rfl (QLs.no (Fms F hf2) hA2 (Dk.nx (Dk.sd hD hW) hf2))
    · rw [if_neg cn] at hA2 ⊢
      rw [show optP T e 8 0 (W 1 - 1) (-1) p = (true, nm T e (nx T e p) 0 (W 1 - 1), nx T e (nx T e p)) from (if_pos d1).trans (if_neg cn)]
      refine a_s5 rfl rfl rfl rfl rfl rfl ?_
      refine a_l5 rfl rfl rfl ?_
      refine a_s rfl rfl ?_
      refine a_ic_ne rfl (fun _ => ?_) (fun z => absurd z cn)
      rw [show duE W x0 x1 x2 x3 (true, nm T e (nx T e p) 0 (W 1 - 1), nx T e (nx T e p)) = (true, nx T e (nx T e p), addDt W x0 x1 x2 x3 (nm T e (nx T e p) 0 (W 1 - 1))) from if_pos rfl]
      exact s_du161 hW h12 (Fms F hf2) hA2 (Sd.nx hD hf2)
theorem s_du83 (hw : WdS S) (hW : WOk W) (h12 : ¬ W 1 = 12) {x0 x1 x2 : Int32} {p w : Nat} {J : Nat → Nat → Int32} (F : Fm sO I J) (hA : Ats T e p w J) (hD : Sd J 209 W) : AW S m_X6_readDuty 17 (QLs T e (duD T e W x0 x1 x2 (optP T e 7 0 5 (-1) p)) I L w2 t) nX 0 0 83 [some (.ref 203), some (.int x0), some (.int x1), some (.int x2), none, none] [] (hp J L w w2 t) := by
  refine a_s rfl rfl ?_
  refine a_s4 rfl rfl rfl rfl rfl rfl ?_
  refine a_l0 rfl rfl rfl ?_
  refine a_getq rfl gfX6_20_6 rfl (rfl) ?_
  refine a_getr rfl gfX6_24_9 rfl ?_
  refine a_pop1 (show _ = rv w :: _ from rfl) ?_
  refine a_gets rfl (inC4 (i := 199) rfl rfl) (hw.st (i := 7) (by decide)) ?_
  refine a_acmp_ne (rx := w) (ry := 100 + 7 + 1) rfl ((Ats.wk hA).ac hw) (WK.ck hw (i := 7) (by decide)) (fun c => ?_) (fun c => ?_)
  · have d1 : isWd T e p 7 = false := Bool.eq_false_iff.mpr fun z => c ((Ats.wo hA).trans ((wr_is (by decide)).mpr z))
    rw [show optP T e 7 0 5 (-1) p = (true, (-1), p) from if_neg (by rw [d1]; exact Bool.false_ne_true)]
    rw [show duD T e W x0 x1 x2 (true, (-1), p) = duE W x0 x1 x2 (-1) (optP T e 8 0 (W 1 - 1) (-1) (p)) from if_pos rfl]
    exact s_du118 hw hW h12 F hA hD
  · have d1 : isWd T e p 7 = true := (wr_is (by decide)).mp ((Ats.wo hA).symm.trans c)
    refine a_l0 rfl rfl rfl ?_
    refine a_gets rfl (inC4 (i := 199) rfl rfl) (hw.st (i := 7) (by decide)) ?_
    refine a_s rfl rfl ?_
    refine a_s rfl rfl ?_
    refine a_gV rfl lX6_71 mo_X6_readNumberOf (s_readNumberOf (k := 7) (lo := 0) (hi := 5) hw hA (by decide) (by decide)) rfl rfl rfl ⟨6, _, rfl, rfl, rfl⟩ rfl (fun v' h' hv => ?_)
    obtain ⟨rfl, J2, w', rfl, hA2, hf2⟩ := hv
    rw [nbP_t d1] at hA2 ⊢
    by_cases cn : nm T e (nx T e p) 0 5 = -1
    · rw [if_pos cn] at hA2 ⊢
      rw [show optP T e 7 0 5 (-1) p = (false, -1, nx T e p) from (if_pos d1).trans (if_pos cn)]
      refine a_s4 rfl rfl rfl rfl rfl rfl ?_
      refine a_l4 rfl rfl rfl ?_
      refine a_s rfl rfl ?_
      refine a_ic_ne rfl (fun z => absurd rfl z) (fun _ => ?_)
      refine a_s rfl rfl ?_
      rw [show duD T e W x0 x1 x2 (false, -1, nx T e p) = (false, nx T e p, W) from if_neg Bool.false_ne_true]
      exact a_zret rfl rfl rfl (QLs.no (Fms F hf2) hA2 (Dk.nx (Dk.sd hD hW) hf2))
    · rw [if_neg cn] at hA2 ⊢
      rw [show optP T e 7 0 5 (-1) p = (true, nm T e (nx T e p) 0 5, nx T e (nx T e p)) from (if_pos d1).trans (if_neg cn)]
      refine a_s4 rfl rfl rfl rfl rfl rfl ?_
      refine a_l4 rfl rfl rfl ?_
      refine a_s rfl rfl ?_
      refine a_ic_ne rfl (fun _ => ?_) (fun z => absurd z cn)
      rw [show duD T e W x0 x1 x2 (true, nm T e (nx T e p) 0 5, nx T e (nx T e p)) = duE W x0 x1 x2 (nm T e (nx T e p) 0 5) (optP T e 8 0 (W 1 - 1) (-1) (nx T e (nx T e p))) from if_pos rfl]
      exact s_du118 hw hW h12 (Fms F hf2) hA2 (Sd.nx hD hf2)
theorem s_du50 (hw : WdS S) (hW : WOk W) (h12 : ¬ W 1 = 12) {x0 x1 : Int32} {p w : Nat} {J : Nat → Nat → Int32} (F : Fm sO I J) (hA : Ats T e p w J) (hD : Sd J 209 W) : AW S m_X6_readDuty 17 (QLs T e (duC T e W x0 x1 (optP T e 6 0 99 0 p)) I L w2 t) nX 0 0 50 [some (.ref 203), some (.int x0), some (.int x1), none, none, none] [] (hp J L w w2 t) := by
  refine a_s rfl rfl ?_
  refine a_s3 rfl rfl rfl rfl rfl rfl ?_
  refine a_l0 rfl rfl rfl ?_
  refine a_getq rfl gfX6_20_6 rfl (rfl) ?_
  refine a_getr rfl gfX6_24_9 rfl ?_
  refine a_pop1 (show _ = rv w :: _ from rfl) ?_
  refine a_gets rfl (inC4 (i := 197) rfl rfl) (hw.st (i := 6) (by decide)) ?_
  refine a_acmp_ne (rx := w) (ry := 100 + 6 + 1) rfl ((Ats.wk hA).ac hw) (WK.ck hw (i := 6) (by decide)) (fun c => ?_) (fun c => ?_)
  · have d1 : isWd T e p 6 = false := Bool.eq_false_iff.mpr fun z => c ((Ats.wo hA).trans ((wr_is (by decide)).mpr z))
    rw [show optP T e 6 0 99 0 p = (true, 0, p) from if_neg (by rw [d1]; exact Bool.false_ne_true)]
    rw [show duC T e W x0 x1 (true, 0, p) = duD T e W x0 x1 (0) (optP T e 7 0 5 (-1) (p)) from if_pos rfl]
    exact s_du83 hw hW h12 F hA hD
  · have d1 : isWd T e p 6 = true := (wr_is (by decide)).mp ((Ats.wo hA).symm.trans c)
    refine a_l0 rfl rfl rfl ?_
    refine a_gets rfl (inC4 (i := 197) rfl rfl) (hw.st (i := 6) (by decide)) ?_
    refine a_s rfl rfl ?_
    refine a_s rfl rfl ?_
    refine a_gV rfl lX6_71 mo_X6_readNumberOf (s_readNumberOf (k := 6) (lo := 0) (hi := 99) hw hA (by decide) (by decide)) rfl rfl rfl ⟨6, _, rfl, rfl, rfl⟩ rfl (fun v' h' hv => ?_)
    obtain ⟨rfl, J2, w', rfl, hA2, hf2⟩ := hv
    rw [nbP_t d1] at hA2 ⊢
    by_cases cn : nm T e (nx T e p) 0 99 = -1
    · rw [if_pos cn] at hA2 ⊢
      rw [show optP T e 6 0 99 0 p = (false, -1, nx T e p) from (if_pos d1).trans (if_pos cn)]
      refine a_s3 rfl rfl rfl rfl rfl rfl ?_
      refine a_l3 rfl rfl rfl ?_
      refine a_s rfl rfl ?_
      refine a_ic_ne rfl (fun z => absurd rfl z) (fun _ => ?_)
      refine a_s rfl rfl ?_
      rw [show duC T e W x0 x1 (false, -1, nx T e p) = (false, nx T e p, W) from if_neg Bool.false_ne_true]
      exact a_zret rfl rfl rfl (QLs.no (Fms F hf2) hA2 (Dk.nx (Dk.sd hD hW) hf2))
    · rw [if_neg cn] at hA2 ⊢
      rw [show optP T e 6 0 99 0 p = (true, nm T e (nx T e p) 0 99, nx T e (nx T e p)) from (if_pos d1).trans (if_neg cn)]
      refine a_s3 rfl rfl rfl rfl rfl rfl ?_
      refine a_l3 rfl rfl rfl ?_
      refine a_s rfl rfl ?_
      refine a_ic_ne rfl (fun _ => ?_) (fun z => absurd z cn)
      rw [show duC T e W x0 x1 (true, nm T e (nx T e p) 0 99, nx T e (nx T e p)) = duD T e W x0 x1 (nm T e (nx T e p) 0 99) (optP T e 7 0 5 (-1) (nx T e (nx T e p))) from if_pos rfl]
      exact s_du83 hw hW h12 (Fms F hf2) hA2 (Sd.nx hD hf2)
theorem s_readDuty (hw : WdS S) (h : Ats T e b w1 I) (hD : Sd I 209 W) (hW : WOk W) (h12 : ¬ W 1 = 12) : Sp S m_X6_readDuty 17 0 0 [.ref 203] (hp I L w1 w2 t) (QLs T e (duA T e W (nbP T e 4 0 (W 0 - 1) (nx T e b))) I L w2 t) nX := by
  refine Sp_of ok_X6_readDuty rfl rfl ?_
  show AW S m_X6_readDuty 17 _ _ 0 0 0 [some (.ref 203), none, none, none, none, none] [] (hp I L w1 w2 t)
  refine a_l0 rfl rfl rfl ?_
  refine a_getq rfl gfX6_20_6 rfl (rfl) ?_
  refine a_gV rfl lX6_65 mo_X9_next (sg_next hw h) rfl rfl rfl ⟨9, _, rfl, rfl, rfl⟩ rfl (fun v' h' hv => ?_)
  obtain ⟨rfl, J1, wa, rfl, hA1, hf1⟩ := hv
  refine a_l0 rfl rfl rfl ?_
  refine a_gets rfl (inC4 (i := 193) rfl rfl) (hw.st (i := 4) (by decide)) ?_
  refine a_s rfl rfl ?_
  refine a_l0 rfl rfl rfl ?_
  refine a_getq rfl gfX6_16_6 rfl (rfl) ?_
  refine a_getiv (v := nI (pn W)) rfl gfX6_35_5 rfl ((Sd.fd (Sd.nx hD hf1) (f := 0) (g := 0) (by decide)).trans hW.2.2.1) ?_
  refine a_s rfl rfl ?_
  refine a_s rfl rfl ?_
  refine a_top (y := W 0 - 1) (by rw [hW.2.2.1]) ?_
  refine a_gV rfl lX6_71 mo_X6_readNumberOf (s_readNumberOf (k := 4) (lo := 0) (hi := W 0 - 1) hw hA1 (by decide) (by decide)) rfl rfl rfl ⟨6, _, rfl, rfl, rfl⟩ rfl (fun v' h' hv => ?_)
  obtain ⟨rfl, J2, wb, rfl, hA2, hf2⟩ := hv
  have F2 : Fm sO I J2 := Fms (Fms Fm.rf hf1) hf2
  generalize nbP T e 4 0 (W 0 - 1) (nx T e b) = x at hA2 ⊢
  refine a_s1 rfl rfl rfl rfl rfl rfl ?_
  refine a_l1 rfl rfl rfl ?_
  refine a_s rfl rfl ?_
  refine a_ic_ne rfl (fun c1 => ?_) (fun c1 => ?_)
  rotate_left
  · refine a_s rfl rfl ?_
    rw [show duA T e W x = (false, x.2, W) from if_pos c1]
    exact a_zret rfl rfl rfl (QLs.no F2 hA2 (Dk.nx (Dk.nx (Dk.sd hD hW) hf1) hf2))
  rw [show duA T e W x = duB T e W x.1 (nbP T e 5 1 99 x.2) from if_neg c1]
  refine a_l0 rfl rfl rfl ?_
  refine a_gets rfl (inC4 (i := 195) rfl rfl) (hw.st (i := 5) (by decide)) ?_
  refine a_s rfl rfl ?_
  refine a_s rfl rfl ?_
  refine a_gV rfl lX6_71 mo_X6_readNumberOf (s_readNumberOf (k := 5) (lo := 1) (hi := 99) hw hA2 (by decide) (by decide)) rfl rfl rfl ⟨6, _, rfl, rfl, rfl⟩ rfl (fun v' h' hv => ?_)
  obtain ⟨rfl, J3, wc, rfl, hA3, hf3⟩ := hv
  have F3 : Fm sO I J3 := Fms F2 hf3
  have D3 : Sd J3 209 W := Sd.nx (Sd.nx (Sd.nx hD hf1) hf2) hf3
  generalize nbP T e 5 1 99 x.2 = y at hA3 ⊢
  refine a_s2 rfl rfl rfl rfl rfl rfl ?_
  refine a_l2 rfl rfl rfl ?_
  refine a_s rfl rfl ?_
  refine a_ic_ne rfl (fun c2 => ?_) (fun c2 => ?_)
  rotate_left
  · refine a_s rfl rfl ?_
    rw [show duB T e W x.1 y = (false, y.2, W) from if_pos c2]
    exact a_zret rfl rfl rfl (QLs.no F3 hA3 (Dk.sd D3 hW))
  rw [show duB T e W x.1 y = duC T e W x.1 y.1 (optP T e 6 0 99 0 y.2) from if_neg c2]
  exact s_du50 hw hW h12 F3 hA3 D3
theorem waitF_out {nd : Nat} {st : Nat → Int32} {v : Int32} (hn : nd ≤ 12) (h : ¬ (0 ≤ v ∧ v ≤ nI nd - 1)) : waitF nd st v = false := by
  refine decide_eq_false fun z => h ?_
  obtain ⟨z1, z2, -⟩ := z
  have z1 := Int32.not_lt.mp z1
  refine ⟨z1, ?_⟩
  have z2 := Int32.not_le.mp z2
  rcases nd with _ | n
  · exact absurd (Int32.lt_of_le_of_lt z1 z2) (by decide)
  · rw [nI_dec, Int32.le_iff_toInt_le, nI_toInt (by omega)]
    rw [Int32.lt_iff_toInt_lt, nI_toInt (by omega)] at z2
    omega
theorem s_readForgotten (hw : WdS S) (h : Ats T e b w1 I) (hD : Sd I 209 W) (hW : WOk W) : Sp S m_X6_readForgotten 16 0 0 [.ref 203] (hp I L w1 w2 t) (QLs T e (forP T e b W) I L w2 t) nX := by
  have hnd : I 209 3 = nI (dn W) := (Sd.fd hD (f := 3) (g := 1) (by decide)).trans hW.2.2.2
  have h12 := hW.2.1
  have k4 := kd_4 (T := T) (e := e) (b := b) rfl
  refine Sp_of ok_X6_readForgotten rfl rfl ?_
  show AW S m_X6_readForgotten 16 _ _ 0 0 0 [some (.ref 203)] [] (hp I L w1 w2 t)
  refine a_l0 rfl rfl rfl ?_
  refine a_getq rfl gfX6_20_6 rfl (rfl) ?_
  refine a_getiv (v := nI (kd T e b)) rfl gfX6_101_9 rfl (Ats.ki h) ?_
  refine a_s rfl rfl ?_
  have no : forP T e b W = (false, b, W) → AW S m_X6_readForgotten 16 (QLs T e (forP T e b W) I L w2 t) nX 0 0 28 [some (.ref 203)] [] (hp I L w1 w2 t) := fun ef => by
    rw [ef]
    refine a_s rfl rfl ?_
    exact a_zret rfl rfl rfl (QLs.no Fm.rf h (Dk.sd hD hW))
  refine a_ic_ne rfl (fun c => ?_) (fun c => ?_)
  · exact no (if_pos (if_neg fun z => c (congrArg nI z.1)))
  have hk : kd T e b = 2 := nI_inj (by omega) (by decide) c
  refine a_l0 rfl rfl rfl ?_
  refine a_getq rfl gfX6_16_6 rfl (rfl) ?_
  refine a_l0 rfl rfl rfl ?_
  refine a_getq rfl gfX6_20_6 rfl (rfl) ?_
  refine a_getiv (v := vl T e b) rfl gfX6_104_9 rfl (Ats.va h) ?_
  refine a_eV1 rfl lX6_107 mo_X5_isWaiting (sp_X5_isWaiting (a := 209) (by decide) hnd h12) rfl rfl rfl ⟨5, _, rfl, rfl, rfl⟩ rfl ?_
  by_cases cn : nm T e b 0 (W 1 - 1) = -1
  · have cw : waitF (dn W) (I (209 + 8)) (vl T e b) = false := waitF_out h12 fun z => by
      rw [← hW.2.2.2] at z
      have e9 : nm T e b 0 (W 1 - 1) = vl T e b := if_pos ⟨hk, z⟩
      rw [← e9, cn] at z
      exact absurd z.1 (by decide)
    rw [cw]
    refine a_if_ne rfl (fun z => absurd rfl z) (fun _ => ?_)
    exact no (if_pos cn)
  · obtain ⟨j, hj, ej⟩ := nm_ix h12 (by rw [← hW.2.2.2]; exact cn)
    rw [← hW.2.2.2] at ej
    have ev : vl T e b = nI j := (nm_in cn).2.2.2.symm.trans ej
    have es : I (209 + 8) j = W (23 + 6 * j + 5) := hD.2.2 j (by omega) 5 (by decide)
    rw [show waitF (dn W) (I (209 + 8)) (vl T e b) = decide (W (23 + 6 * j + 5) = 0) by rw [ev, waitF_nI hj h12, es]]
    by_cases cw : W (23 + 6 * j + 5) = 0
    · rw [decide_eq_true cw]
      refine a_if_ne rfl (fun _ => ?_) (fun z => absurd z (by decide))
      have ef : forP T e b W = (true, nx T e b, ud W (23 + 6 * j + 5) 2) := by
        unfold forP
        rw [if_neg cn, ej, nI_clamp (by omega), if_pos cw]
      rw [ef]
      refine a_l0 rfl rfl rfl ?_
      refine a_getq rfl gfX6_16_6 rfl (rfl) ?_
      refine a_getq rfl gfX6_111_5 rfl (rfl) ?_
      refine a_l0 rfl rfl rfl ?_
      refine a_getq rfl gfX6_20_6 rfl (rfl) ?_
      refine a_getiv (v := nI j) rfl gfX6_104_9 rfl ((Ats.va h).trans ev) ?_
      refine a_s rfl rfl ?_
      refine a_eSN0 rfl lX6_115 mo_X11_setAt (sp_X11_setAt rfl) rfl rfl rfl rfl ?_
      rw [setF_nI (show j < 12 by omega) (by decide)]
      refine a_l0 rfl rfl rfl ?_
      refine a_getq rfl gfX6_20_6 rfl (rfl) ?_
      refine a_gV rfl lX6_65 mo_X9_next (sg_next hw (Ats.eq (J := up2 I 217 j 2) h fun q g1 g2 => up2_row (by omega))) rfl rfl rfl ⟨9, _, rfl, rfl, rfl⟩ rfl (fun v' h' hv => ?_)
      obtain ⟨rfl, J, w, rfl, hA1, hf1⟩ := hv
      refine a_s rfl rfl ?_
      exact a_zret rfl rfl rfl (QLs.yes (Fms (Fm.up Fm.rf rfl) hf1) hA1 (Sd.nx (Sd.ro (k := 5) hD (by omega) (by decide)) hf1))
    · rw [decide_eq_false cw]
      refine a_if_ne rfl (fun z => absurd rfl z) (fun _ => ?_)
      refine no ?_
      unfold forP
      rw [if_neg cn, ej, nI_clamp (by omega), if_neg cw]
theorem s_readSetting (hw : WdS S) (h : Ats T e b w1 I) (hD : Sd I 209 W) (hW : WOk W) : Sp S m_X6_readSetting 16 0 0 [.ref 203] (hp I L w1 w2 t) (QLs T e (stgP T e b W) I L w2 t) nX := by
  refine Sp_of ok_X6_readSetting rfl rfl ?_
  show AW S m_X6_readSetting 16 _ _ 0 0 0 [some (.ref 203)] [] (hp I L w1 w2 t)
  unfold stgP
  refine a_l0 rfl rfl rfl ?_
  refine a_getq rfl gfX6_20_6 rfl (rfl) ?_
  refine a_getr rfl gfX6_24_9 rfl ?_
  refine a_pop1 (show _ = rv w1 :: _ from rfl) ?_
  refine a_gets rfl (inC4 (i := 219) rfl rfl) (hw.st (i := 10) (by decide)) ?_
  refine a_acmp_ne (rx := w1) (ry := 100 + 10 + 1) rfl ((Ats.wk h).ac hw) (WK.ck hw (i := 10) (by decide)) (fun c => ?_) (fun c => ?_)
  rotate_left
  · have d1 : isWd T e b 10 = true := (wr_is (by decide)).mp ((Ats.wo h).symm.trans c)
    rw [if_pos d1]
    refine a_l0 rfl rfl rfl ?_
    refine a_getq rfl gfX6_16_6 rfl (rfl) ?_
    refine a_l0 rfl rfl rfl ?_
    refine a_gets rfl (inC4 (i := 219) rfl rfl) (hw.st (i := 10) (by decide)) ?_
    refine a_s rfl rfl ?_
    refine a_s rfl rfl ?_
    refine a_gV rfl lX6_71 mo_X6_readNumberOf (s_readNumberOf (k := 10) (lo := 0) (hi := 100) hw h (by decide) (by decide)) rfl rfl rfl ⟨6, _, rfl, rfl, rfl⟩ rfl (fun v' h' hv => ?_)
    obtain ⟨rfl, J, w, rfl, hA, hf⟩ := hv
    rw [nbP_t d1] at hA ⊢
    by_cases cn : nm T e (nx T e b) 0 100 = -1
    · rw [if_pos cn] at hA ⊢
      refine a_puti rfl pfX6_122_5 rfl ?_
      refine a_l0 rfl rfl rfl ?_
      refine a_getq rfl gfX6_16_6 rfl (rfl) ?_
      refine a_getiv (v := (-1)) rfl gfX6_122_5 rfl (up2_at) ?_
      refine a_s rfl rfl ?_
      refine a_ic_eq rfl (fun _ => ?_) (fun z => absurd rfl z)
      refine a_s rfl rfl ?_
      rw [show setP T e (nx T e b) W 6 0 100 = (false, nx T e b, W) from if_pos cn]
      exact a_zret rfl rfl rfl (QLs.no (Fm.up (Fms Fm.rf hf) rfl) (Ats.eq hA fun q g1 g2 => up2_row (by omega)) (Dk.up (Dk.nx (Dk.sd hD hW) hf) (by decide)))
    · rw [if_neg cn] at hA ⊢
      refine a_puti rfl pfX6_122_5 rfl ?_
      refine a_l0 rfl rfl rfl ?_
      refine a_getq rfl gfX6_16_6 rfl (rfl) ?_
      refine a_getiv (v := nm T e (nx T e b) 0 100) rfl gfX6_122_5 rfl (up2_at) ?_
      refine a_s rfl rfl ?_
      refine a_ic_eq rfl (fun z => absurd z cn) (fun _ => ?_)
      refine a_s rfl rfl ?_
      refine a_goto rfl ?_
      rw [show setP T e (nx T e b) W 6 0 100 = (true, nx T e (nx T e b), ud W 6 (nm T e (nx T e b) 0 100)) from if_neg cn]
      exact a_zret rfl rfl rfl (QLs.yes (Fm.up (Fms Fm.rf hf) rfl) (Ats.eq hA fun q g1 g2 => up2_row (by omega)) (Sd.pu (f := 12) (g := 6) (Sd.nx hD hf) (by decide)))
  rw [if_neg (c := isWd T e b 10 = true) (fun z => c ((Ats.wo h).trans ((wr_is (by decide)).mpr z)))]
  refine a_l0 rfl rfl rfl ?_
  refine a_getq rfl gfX6_20_6 rfl (rfl) ?_
  refine a_getr rfl gfX6_24_9 rfl ?_
  refine a_pop1 (show _ = rv w1 :: _ from rfl) ?_
  refine a_gets rfl (inC4 (i := 221) rfl rfl) (hw.st (i := 11) (by decide)) ?_
  refine a_acmp_ne (rx := w1) (ry := 100 + 11 + 1) rfl ((Ats.wk h).ac hw) (WK.ck hw (i := 11) (by decide)) (fun c => ?_) (fun c => ?_)
  rotate_left
  · have d1 : isWd T e b 11 = true := (wr_is (by decide)).mp ((Ats.wo h).symm.trans c)
    rw [if_pos d1]
    refine a_l0 rfl rfl rfl ?_
    refine a_getq rfl gfX6_16_6 rfl (rfl) ?_
    refine a_l0 rfl rfl rfl ?_
    refine a_gets rfl (inC4 (i := 221) rfl rfl) (hw.st (i := 11) (by decide)) ?_
    refine a_s rfl rfl ?_
    refine a_s rfl rfl ?_
    refine a_gV rfl lX6_71 mo_X6_readNumberOf (s_readNumberOf (k := 11) (lo := 1) (hi := 9) hw h (by decide) (by decide)) rfl rfl rfl ⟨6, _, rfl, rfl, rfl⟩ rfl (fun v' h' hv => ?_)
    obtain ⟨rfl, J, w, rfl, hA, hf⟩ := hv
    rw [nbP_t d1] at hA ⊢
    by_cases cn : nm T e (nx T e b) 1 9 = -1
    · rw [if_pos cn] at hA ⊢
      refine a_puti rfl pfX6_128_5 rfl ?_
      refine a_l0 rfl rfl rfl ?_
      refine a_getq rfl gfX6_16_6 rfl (rfl) ?_
      refine a_getiv (v := (-1)) rfl gfX6_128_5 rfl (up2_at) ?_
      refine a_s rfl rfl ?_
      refine a_ic_eq rfl (fun _ => ?_) (fun z => absurd rfl z)
      refine a_s rfl rfl ?_
      rw [show setP T e (nx T e b) W 7 1 9 = (false, nx T e b, W) from if_pos cn]
      exact a_zret rfl rfl rfl (QLs.no (Fm.up (Fms Fm.rf hf) rfl) (Ats.eq hA fun q g1 g2 => up2_row (by omega)) (Dk.up (Dk.nx (Dk.sd hD hW) hf) (by decide)))
    · rw [if_neg cn] at hA ⊢
      refine a_puti rfl pfX6_128_5 rfl ?_
      refine a_l0 rfl rfl rfl ?_
      refine a_getq rfl gfX6_16_6 rfl (rfl) ?_
      refine a_getiv (v := nm T e (nx T e b) 1 9) rfl gfX6_128_5 rfl (up2_at) ?_
      refine a_s rfl rfl ?_
      refine a_ic_eq rfl (fun z => absurd z cn) (fun _ => ?_)
      refine a_s rfl rfl ?_
      refine a_goto rfl ?_
      rw [show setP T e (nx T e b) W 7 1 9 = (true, nx T e (nx T e b), ud W 7 (nm T e (nx T e b) 1 9)) from if_neg cn]
      exact a_zret rfl rfl rfl (QLs.yes (Fm.up (Fms Fm.rf hf) rfl) (Ats.eq hA fun q g1 g2 => up2_row (by omega)) (Sd.pu (f := 13) (g := 7) (Sd.nx hD hf) (by decide)))
  rw [if_neg (c := isWd T e b 11 = true) (fun z => c ((Ats.wo h).trans ((wr_is (by decide)).mpr z)))]
  refine a_l0 rfl rfl rfl ?_
  refine a_getq rfl gfX6_20_6 rfl (rfl) ?_
  refine a_getr rfl gfX6_24_9 rfl ?_
  refine a_pop1 (show _ = rv w1 :: _ from rfl) ?_
  refine a_gets rfl (inC4 (i := 223) rfl rfl) (hw.st (i := 12) (by decide)) ?_
  refine a_acmp_ne (rx := w1) (ry := 100 + 12 + 1) rfl ((Ats.wk h).ac hw) (WK.ck hw (i := 12) (by decide)) (fun c => ?_) (fun c => ?_)
  rotate_left
  · have d1 : isWd T e b 12 = true := (wr_is (by decide)).mp ((Ats.wo h).symm.trans c)
    rw [if_pos d1]
    refine a_l0 rfl rfl rfl ?_
    refine a_getq rfl gfX6_16_6 rfl (rfl) ?_
    refine a_l0 rfl rfl rfl ?_
    refine a_gets rfl (inC4 (i := 223) rfl rfl) (hw.st (i := 12) (by decide)) ?_
    refine a_s rfl rfl ?_
    refine a_s rfl rfl ?_
    refine a_gV rfl lX6_71 mo_X6_readNumberOf (s_readNumberOf (k := 12) (lo := 0) (hi := 50) hw h (by decide) (by decide)) rfl rfl rfl ⟨6, _, rfl, rfl, rfl⟩ rfl (fun v' h' hv => ?_)
    obtain ⟨rfl, J, w, rfl, hA, hf⟩ := hv
    rw [nbP_t d1] at hA ⊢
    by_cases cn : nm T e (nx T e b) 0 50 = -1
    · rw [if_pos cn] at hA ⊢
      refine a_puti rfl pfX6_134_5 rfl ?_
      refine a_l0 rfl rfl rfl ?_
      refine a_getq rfl gfX6_16_6 rfl (rfl) ?_
      refine a_getiv (v := (-1)) rfl gfX6_134_5 rfl (up2_at) ?_
      refine a_s rfl rfl ?_
      refine a_ic_eq rfl (fun _ => ?_) (fun z => absurd rfl z)
      refine a_s rfl rfl ?_
      rw [show setP T e (nx T e b) W 8 0 50 = (false, nx T e b, W) from if_pos cn]
      exact a_zret rfl rfl rfl (QLs.no (Fm.up (Fms Fm.rf hf) rfl) (Ats.eq hA fun q g1 g2 => up2_row (by omega)) (Dk.up (Dk.nx (Dk.sd hD hW) hf) (by decide)))
    · rw [if_neg cn] at hA ⊢
      refine a_puti rfl pfX6_134_5 rfl ?_
      refine a_l0 rfl rfl rfl ?_
      refine a_getq rfl gfX6_16_6 rfl (rfl) ?_
      refine a_getiv (v := nm T e (nx T e b) 0 50) rfl gfX6_134_5 rfl (up2_at) ?_
      refine a_s rfl rfl ?_
      refine a_ic_eq rfl (fun z => absurd z cn) (fun _ => ?_)
      refine a_s rfl rfl ?_
      refine a_goto rfl ?_
      rw [show setP T e (nx T e b) W 8 0 50 = (true, nx T e (nx T e b), ud W 8 (nm T e (nx T e b) 0 50)) from if_neg cn]
      exact a_zret rfl rfl rfl (QLs.yes (Fm.up (Fms Fm.rf hf) rfl) (Ats.eq hA fun q g1 g2 => up2_row (by omega)) (Sd.pu (f := 14) (g := 8) (Sd.nx hD hf) (by decide)))
  rw [if_neg (c := isWd T e b 12 = true) (fun z => c ((Ats.wo h).trans ((wr_is (by decide)).mpr z)))]
  refine a_l0 rfl rfl rfl ?_
  refine a_getq rfl gfX6_20_6 rfl (rfl) ?_
  refine a_getr rfl gfX6_24_9 rfl ?_
  refine a_pop1 (show _ = rv w1 :: _ from rfl) ?_
  refine a_gets rfl (inC4 (i := 225) rfl rfl) (hw.st (i := 13) (by decide)) ?_
  refine a_acmp_ne (rx := w1) (ry := 100 + 13 + 1) rfl ((Ats.wk h).ac hw) (WK.ck hw (i := 13) (by decide)) (fun c => ?_) (fun c => ?_)
  rotate_left
  · have d1 : isWd T e b 13 = true := (wr_is (by decide)).mp ((Ats.wo h).symm.trans c)
    rw [if_pos d1]
    refine a_l0 rfl rfl rfl ?_
    refine a_getq rfl gfX6_16_6 rfl (rfl) ?_
    refine a_l0 rfl rfl rfl ?_
    refine a_gets rfl (inC4 (i := 225) rfl rfl) (hw.st (i := 13) (by decide)) ?_
    refine a_s rfl rfl ?_
    refine a_s rfl rfl ?_
    refine a_gV rfl lX6_71 mo_X6_readNumberOf (s_readNumberOf (k := 13) (lo := 1) (hi := 30) hw h (by decide) (by decide)) rfl rfl rfl ⟨6, _, rfl, rfl, rfl⟩ rfl (fun v' h' hv => ?_)
    obtain ⟨rfl, J, w, rfl, hA, hf⟩ := hv
    rw [nbP_t d1] at hA ⊢
    by_cases cn : nm T e (nx T e b) 1 30 = -1
    · rw [if_pos cn] at hA ⊢
      refine a_puti rfl pfX6_140_5 rfl ?_
      refine a_l0 rfl rfl rfl ?_
      refine a_getq rfl gfX6_16_6 rfl (rfl) ?_
      refine a_getiv (v := (-1)) rfl gfX6_140_5 rfl (up2_at) ?_
      refine a_s rfl rfl ?_
      refine a_ic_eq rfl (fun _ => ?_) (fun z => absurd rfl z)
      refine a_s rfl rfl ?_
      rw [show setP T e (nx T e b) W 4 1 30 = (false, nx T e b, W) from if_pos cn]
      exact a_zret rfl rfl rfl (QLs.no (Fm.up (Fms Fm.rf hf) rfl) (Ats.eq hA fun q g1 g2 => up2_row (by omega)) (Dk.up (Dk.nx (Dk.sd hD hW) hf) (by decide)))
    · rw [if_neg cn] at hA ⊢
      refine a_puti rfl pfX6_140_5 rfl ?_
      refine a_l0 rfl rfl rfl ?_
      refine a_getq rfl gfX6_16_6 rfl (rfl) ?_
      refine a_getiv (v := nm T e (nx T e b) 1 30) rfl gfX6_140_5 rfl (up2_at) ?_
      refine a_s rfl rfl ?_
      refine a_ic_eq rfl (fun z => absurd z cn) (fun _ => ?_)
      refine a_s rfl rfl ?_
      refine a_goto rfl ?_
      rw [show setP T e (nx T e b) W 4 1 30 = (true, nx T e (nx T e b), ud W 4 (nm T e (nx T e b) 1 30)) from if_neg cn]
      exact a_zret rfl rfl rfl (QLs.yes (Fm.up (Fms Fm.rf hf) rfl) (Ats.eq hA fun q g1 g2 => up2_row (by omega)) (Sd.pu (f := 10) (g := 4) (Sd.nx hD hf) (by decide)))
  rw [if_neg (c := isWd T e b 13 = true) (fun z => c ((Ats.wo h).trans ((wr_is (by decide)).mpr z)))]
  cases d1 : isWd T e b 14 with
  | true =>
    rw [if_pos rfl]
    refine a_l0 rfl rfl rfl ?_
    refine a_getq rfl gfX6_16_6 rfl (rfl) ?_
    refine a_l0 rfl rfl rfl ?_
    refine a_gets rfl (inC4 (i := 227) rfl rfl) (hw.st (i := 14) (by decide)) ?_
    refine a_s rfl rfl ?_
    refine a_s rfl rfl ?_
    refine a_gV rfl lX6_71 mo_X6_readNumberOf (s_readNumberOf (k := 14) (lo := 0) (hi := 999) hw h (by decide) (by decide)) rfl rfl rfl ⟨6, _, rfl, rfl, rfl⟩ rfl (fun v' h' hv => ?_)
    obtain ⟨rfl, J, w, rfl, hA, hf⟩ := hv
    rw [nbP_t d1] at hA ⊢
    by_cases cn : nm T e (nx T e b) 0 999 = -1
    · rw [if_pos cn] at hA ⊢
      refine a_puti rfl pfX6_146_5 rfl ?_
      refine a_l0 rfl rfl rfl ?_
      refine a_getq rfl gfX6_16_6 rfl (rfl) ?_
      refine a_getiv (v := (-1)) rfl gfX6_146_5 rfl (up2_at) ?_
      refine a_s rfl rfl ?_
      refine a_ic_eq rfl (fun _ => ?_) (fun z => absurd rfl z)
      refine a_s rfl rfl ?_
      rw [show setP T e (nx T e b) W 5 0 999 = (false, nx T e b, W) from if_pos cn]
      exact a_zret rfl rfl rfl (QLs.no (Fm.up (Fms Fm.rf hf) rfl) (Ats.eq hA fun q g1 g2 => up2_row (by omega)) (Dk.up (Dk.nx (Dk.sd hD hW) hf) (by decide)))
    · rw [if_neg cn] at hA ⊢
      refine a_puti rfl pfX6_146_5 rfl ?_
      refine a_l0 rfl rfl rfl ?_
      refine a_getq rfl gfX6_16_6 rfl (rfl) ?_
      refine a_getiv (v := nm T e (nx T e b) 0 999) rfl gfX6_146_5 rfl (up2_at) ?_
      refine a_s rfl rfl ?_
      refine a_ic_eq rfl (fun z => absurd z cn) (fun _ => ?_)
      refine a_s rfl rfl ?_
      refine a_goto rfl ?_
      rw [show setP T e (nx T e b) W 5 0 999 = (true, nx T e (nx T e b), ud W 5 (nm T e (nx T e b) 0 999)) from if_neg cn]
      exact a_zret rfl rfl rfl (QLs.yes (Fm.up (Fms Fm.rf hf) rfl) (Ats.eq hA fun q g1 g2 => up2_row (by omega)) (Sd.pu (f := 11) (g := 5) (Sd.nx hD hf) (by decide)))
  | false =>
    rw [if_neg Bool.false_ne_true]
    refine a_l0 rfl rfl rfl ?_
    refine a_getq rfl gfX6_16_6 rfl (rfl) ?_
    refine a_l0 rfl rfl rfl ?_
    refine a_gets rfl (inC4 (i := 227) rfl rfl) (hw.st (i := 14) (by decide)) ?_
    refine a_s rfl rfl ?_
    refine a_s rfl rfl ?_
    refine a_gV rfl lX6_71 mo_X6_readNumberOf (s_readNumberOf (k := 14) (lo := 0) (hi := 999) hw h (by decide) (by decide)) rfl rfl rfl ⟨6, _, rfl, rfl, rfl⟩ rfl (fun v' h' hv => ?_)
    obtain ⟨rfl, J, w, rfl, hA, hf⟩ := hv
    rw [nbP_f d1] at hA ⊢
    refine a_puti rfl pfX6_146_5 rfl ?_
    refine a_l0 rfl rfl rfl ?_
    refine a_getq rfl gfX6_16_6 rfl (rfl) ?_
    refine a_getiv (v := (-1)) rfl gfX6_146_5 rfl (up2_at) ?_
    refine a_s rfl rfl ?_
    refine a_ic_eq rfl (fun _ => ?_) (fun z => absurd rfl z)
    refine a_s rfl rfl ?_
    exact a_zret rfl rfl rfl (QLs.no (Fm.up (Fms Fm.rf hf) rfl) (Ats.eq hA fun q g1 g2 => up2_row (by omega)) (Dk.up (Dk.nx (Dk.sd hD hW) hf) (by decide)))
theorem s_readLine (hw : WdS S) (h : Ats T e b w1 I) (hD : Sd I 209 W) (hW : WOk W) : Sp S m_X6_readLine 18 0 0 [.ref 203] (hp I L w1 w2 t) (QLs T e (linP T e b W) I L w2 t) nX := by
  have hp6 := hW.1
  have hd12 := hW.2.1
  refine Sp_of ok_X6_readLine rfl rfl ?_
  show AW S m_X6_readLine 18 _ _ 0 0 0 [some (.ref 203)] [] (hp I L w1 w2 t)
  refine a_l0 rfl rfl rfl ?_
  refine a_getq rfl gfX6_20_6 rfl (rfl) ?_
  refine a_getr rfl gfX6_24_9 rfl ?_
  refine a_pop1 (show _ = rv w1 :: _ from rfl) ?_
  refine a_gets rfl (inC4 (i := 166) rfl rfl) (hw.st (i := 0) (by decide)) ?_
  refine a_acmp_ne (rx := w1) (ry := 100 + 0 + 1) rfl ((Ats.wk h).ac hw) (WK.ck hw (i := 0) (by decide)) (fun c => ?_) (fun c => ?_)
  rotate_left
  · have d1 : isWd T e b 0 = true := (wr_is (by decide)).mp ((Ats.wo h).symm.trans c)
    rw [show linP T e b W = perP T e b W from if_pos d1]
    refine a_l0 rfl rfl rfl ?_
    refine a_getq rfl gfX6_16_6 rfl (rfl) ?_
    refine a_getiv (v := nI (pn W)) rfl gfX6_35_5 rfl ((Sd.fd hD (f := 0) (g := 0) (by decide)).trans hW.2.2.1) ?_
    refine a_s rfl rfl ?_
    refine a_ic_ge rfl (fun c6 => ?_) (fun c6 => ?_)
    · have c6 := nI_ge_of (b := 6) c6 (by omega) (by decide)
      rw [show perP T e b W = (false, b, W) from if_pos (by rw [hW.2.2.1, show pn W = 6 by omega]; rfl)]
      refine a_s rfl rfl ?_
      exact a_zret rfl rfl rfl (QLs.no Fm.rf h (Dk.sd hD hW))
    have c6 := nI_lt_of (b := 6) c6 (by omega) (by decide)
    have h6 : ¬ W 0 = 6 := fun z => by
      rw [hW.2.2.1] at z
      have := nI_inj (b := 6) (by omega) (by decide) z
      omega
    rw [show perP T e b W = perB T e W (nbP T e 1 0 15 (nx T e b)) from if_neg h6]
    refine a_l0 rfl rfl rfl ?_
    refine a_gV rfl lX6_39 mo_X6_readPerson (s_readPerson hw h hD hW h6) rfl rfl rfl ⟨6, _, rfl, rfl, rfl⟩ rfl (fun v' h' hv => ?_)
    obtain ⟨rfl, J, w, rfl, F, hA, hk, hz⟩ := hv
    generalize perB T e W (nbP T e 1 0 15 (nx T e b)) = r at hA hk hz ⊢
    obtain ⟨z, p, W'⟩ := r
    cases z with
    | false =>
      refine a_if_eq rfl (fun _ => ?_) (fun z => absurd rfl z)
      refine a_s rfl rfl ?_
      exact a_zret rfl rfl rfl ⟨rfl, J, w, rfl, F, hA, hk, hz⟩
    | true =>
      refine a_if_eq rfl (fun z => absurd (show (1 : Int32) = 0 from z) (by decide)) (fun _ => ?_)
      refine a_s rfl rfl ?_
      refine a_goto rfl ?_
      exact a_zret rfl rfl rfl ⟨rfl, J, w, rfl, F, hA, hk, hz⟩
  have n0 : ¬ isWd T e b 0 = true := fun z => c ((Ats.wo h).trans ((wr_is (by decide)).mpr z))
  clear c
  refine a_l0 rfl rfl rfl ?_
  refine a_getq rfl gfX6_20_6 rfl (rfl) ?_
  refine a_getr rfl gfX6_24_9 rfl ?_
  refine a_pop1 (show _ = rv w1 :: _ from rfl) ?_
  refine a_gets rfl (inC4 (i := 187) rfl rfl) (hw.st (i := 3) (by decide)) ?_
  refine a_acmp_ne (rx := w1) (ry := 100 + 3 + 1) rfl ((Ats.wk h).ac hw) (WK.ck hw (i := 3) (by decide)) (fun c => ?_) (fun c => ?_)
  rotate_left
  · have d1 : isWd T e b 3 = true := (wr_is (by decide)).mp ((Ats.wo h).symm.trans c)
    rw [show linP T e b W = dutP T e b W from (if_neg n0).trans (if_pos d1)]
    refine a_l0 rfl rfl rfl ?_
    refine a_getq rfl gfX6_16_6 rfl (rfl) ?_
    refine a_getiv (v := nI (dn W)) rfl gfX6_46_5 rfl ((Sd.fd hD (f := 3) (g := 1) (by decide)).trans hW.2.2.2) ?_
    refine a_s rfl rfl ?_
    refine a_ic_ge rfl (fun c6 => ?_) (fun c6 => ?_)
    · have c6 := nI_ge_of (b := 12) c6 (by omega) (by decide)
      rw [show dutP T e b W = (false, b, W) from if_pos (by rw [hW.2.2.2, show dn W = 12 by omega]; rfl)]
      refine a_s rfl rfl ?_
      exact a_zret rfl rfl rfl (QLs.no Fm.rf h (Dk.sd hD hW))
    have c6 := nI_lt_of (b := 12) c6 (by omega) (by decide)
    have h6 : ¬ W 1 = 12 := fun z => by
      rw [hW.2.2.2] at z
      have := nI_inj (b := 12) (by omega) (by decide) z
      omega
    rw [show dutP T e b W = duA T e W (nbP T e 4 0 (W 0 - 1) (nx T e b)) from if_neg h6]
    refine a_l0 rfl rfl rfl ?_
    refine a_gV rfl lX6_49 mo_X6_readDuty (s_readDuty hw h hD hW h6) rfl rfl rfl ⟨6, _, rfl, rfl, rfl⟩ rfl (fun v' h' hv => ?_)
    obtain ⟨rfl, J, w, rfl, F, hA, hk, hz⟩ := hv
    generalize duA T e W (nbP T e 4 0 (W 0 - 1) (nx T e b)) = r at hA hk hz ⊢
    obtain ⟨z, p, W'⟩ := r
    cases z with
    | false =>
      refine a_if_eq rfl (fun _ => ?_) (fun z => absurd rfl z)
      refine a_s rfl rfl ?_
      exact a_zret rfl rfl rfl ⟨rfl, J, w, rfl, F, hA, hk, hz⟩
    | true =>
      refine a_if_eq rfl (fun z => absurd (show (1 : Int32) = 0 from z) (by decide)) (fun _ => ?_)
      refine a_s rfl rfl ?_
      refine a_goto rfl ?_
      exact a_zret rfl rfl rfl ⟨rfl, J, w, rfl, F, hA, hk, hz⟩
  have n3 : ¬ isWd T e b 3 = true := fun z => c ((Ats.wo h).trans ((wr_is (by decide)).mpr z))
  clear c
  refine a_l0 rfl rfl rfl ?_
  refine a_getq rfl gfX6_20_6 rfl (rfl) ?_
  refine a_gets rfl (inC4 (i := 207) rfl rfl) (hw.st (i := 9) (by decide)) ?_
  refine a_gV rfl lX6_55 mo_X9_takeWord (s_takeWord (k := 9) hw h (by decide)) rfl rfl rfl ⟨9, _, rfl, rfl, rfl⟩ rfl (fun v' h' hv => ?_)
  obtain ⟨rfl, J, w, rfl, hA, hf⟩ := hv
  cases c9 : isWd T e b 9 with
  | true =>
    rw [c9, if_pos rfl] at hA
    refine a_if_eq rfl (fun z => absurd z (by decide)) (fun _ => ?_)
    rw [show linP T e b W = forP T e (nx T e b) W from (if_neg n0).trans ((if_neg n3).trans (if_pos c9))]
    refine a_l0 rfl rfl rfl ?_
    refine a_gV rfl lX6_59 mo_X6_readForgotten (s_readForgotten hw hA (Sd.nx hD hf) hW) rfl rfl rfl ⟨6, _, rfl, rfl, rfl⟩ rfl (fun v' h' hv => ?_)
    obtain ⟨rfl, J2, w3, rfl, F, hA2, hk, hz⟩ := hv
    exact a_zret rfl rfl (bI_nar _) ⟨rfl, J2, w3, rfl, Fm.tr (Fms Fm.rf hf) F, hA2, hk, hz⟩
  | false =>
    rw [c9, if_neg Bool.false_ne_true] at hA
    refine a_if_eq rfl (fun _ => ?_) (fun z => absurd rfl z)
    rw [show linP T e b W = stgP T e b W from (if_neg n0).trans ((if_neg n3).trans (if_neg (by rw [c9]; exact Bool.false_ne_true)))]
    refine a_l0 rfl rfl rfl ?_
    refine a_gV rfl lX6_62 mo_X6_readSetting (s_readSetting hw hA (Sd.nx hD hf) hW) rfl rfl rfl ⟨6, _, rfl, rfl, rfl⟩ rfl (fun v' h' hv => ?_)
    obtain ⟨rfl, J2, w3, rfl, F, hA2, hk, hz⟩ := hv
    exact a_zret rfl rfl (bI_nar _) ⟨rfl, J2, w3, rfl, Fm.tr (Fms Fm.rf hf) F, hA2, hk, hz⟩
theorem s_readLines (hw : WdS S) (he : I 201 1 = nI e) (h4 : e ≤ 400) (hbt : BtT (I 202)) (hm0 : I 203 1 = 14) (hD : Sd I 209 W) (hW : WOk W) : Sp S m_X8_readLines 20 0 0 [.ref 203, .ref 201] (hp I L w1 w2 t) (fun v h' => v = some (.int (if (strP (I 202) e W).1 = true then -1 else nI (strP (I 202) e W).2.1)) ∧ ∃ J w, h' = hp J L w w2 t ∧ WK w ∧ (strP (I 202) e W).2.1 ≤ e ∧ Fm sO I J ∧ ((strP (I 202) e W).1 = false → Dk J) ∧ ((strP (I 202) e W).1 = true → Sd J 209 (strP (I 202) e W).2.2)) nX := by
  refine Sp_of ok_X8_readLines rfl rfl ?_
  show AW S m_X8_readLines 20 _ _ 0 0 0 [some (.ref 203), some (.ref 201), none] [] (hp I L w1 w2 t)
  generalize hT : I 202 = T at hbt ⊢
  refine a_l0 rfl rfl rfl ?_
  refine a_getq rfl gfX8_12_6 rfl (rfl) ?_
  refine a_l1 rfl rfl rfl ?_
  refine a_gV rfl lX8_22 mo_X9_scan (s_scan hw he h4 (by rw [hT]; exact hbt)) rfl rfl rfl ⟨9, _, rfl, rfl, rfl⟩ rfl (fun v' h' hv => ?_)
  obtain ⟨rfl, J1, wa, rfl, hA1, hf1⟩ := hv
  rw [hT] at hA1
  have hF1 : Fm sO I J1 := Fms.d Fm.rf hf1
  have hD1 : Sd J1 209 W := Sd.eq hD fun q g1 g2 => hf1 q (by omega)
  refine a_l0 rfl rfl rfl ?_
  refine a_getq rfl gfX8_12_6 rfl (rfl) ?_
  refine a_eV1 rfl lX8_26 mo_X9_isEnd (s_isEnd hA1) rfl rfl rfl ⟨9, _, rfl, rfl, rfl⟩ rfl ?_
  by_cases c0 : bg T e 0 < e
  rotate_left
  · rw [show decide (¬ bg T e 0 < e) = true from decide_eq_true c0]
    refine a_if_eq rfl (fun z => absurd z (by decide)) (fun _ => ?_)
    have el : strP T e W = (true, bg T e 0, W) := if_neg c0
    rw [el, if_pos rfl]
    refine a_s rfl rfl ?_
    exact a_iret rfl rfl ⟨rfl, J1, wa, rfl, Ats.wk hA1, Ats.le hA1, hF1, fun z => (by cases z), fun _ => hD1⟩
  rw [show decide (¬ bg T e 0 < e) = false from decide_eq_false (fun z => z c0)]
  refine a_if_eq rfl (fun _ => ?_) (fun z => absurd rfl z)
  refine a_s rfl rfl ?_
  refine a_s2 rfl rfl rfl rfl rfl rfl ?_
  refine a_inv (n := 14) (fun m ls h => ∃ i b' w' W' J, ls = [some (.ref 203), some (.ref 201), some (.int (nI i))] ∧ h = hp J L w' w2 t ∧ Ats T e b' w' J ∧ Sd J 209 W' ∧ WOk W' ∧ Fm sO I J ∧ i ≤ 14 ∧ strsP T e (14 - i) b' W' = strP T e W ∧ m = 14 - i) ⟨0, bg T e 0, wa, W, J1, rfl, rfl, hA1, hD1, hW, hF1, by decide, (if_pos c0).symm, rfl⟩ ?_
  rintro m _ _ ⟨i, b', w', W', J, rfl, rfl, hA, hD', hW', hF, hi, es, hm⟩ ih
  refine a_l2 rfl rfl rfl ?_
  refine a_l0 rfl rfl rfl ?_
  refine a_getiv (v := 14) rfl gfX8_18_6 rfl ((hF 203 1 rfl).trans hm0) ?_
  refine a_ic_ge rfl (fun c => ?_) (fun c => ?_)
  · have h12 := nI_ge_of (b := 14) c (by omega) (by decide)
    obtain rfl : i = 14 := by omega
    have es : strP T e W = (false, b', W') := es.symm
    rw [es, if_neg Bool.false_ne_true]
    refine a_l0 rfl rfl rfl ?_
    refine a_getq rfl gfX8_12_6 rfl (rfl) ?_
    refine a_getiv (v := nI b') rfl gfX8_33_9 rfl (Ats.be hA) ?_
    exact a_iret rfl rfl ⟨rfl, J, w', rfl, Ats.wk hA, Ats.le hA, hF, fun _ => Dk.sd hD' hW', fun z => by cases z⟩
  have hi12 : i < 14 := nI_lt_of (b := 14) c (by omega) (by decide)
  obtain ⟨f, hf⟩ : ∃ f, 14 - i = f + 1 := ⟨14 - i - 1, by omega⟩
  rw [hf, strsP_s] at es
  have lok := linP_ok (T := T) (e := e) (b := b') hW'
  refine a_l0 rfl rfl rfl ?_
  refine a_callU rfl lu_30_6 dc_readLine mo_X6_readLine hx_rl0 (s_readLine hw hA hD' hW') rfl rfl rfl ⟨6, _, rfl, rfl, rfl⟩ rfl (fun v' h' hv => ?_) (fun _ _ z => False.elim z)
  obtain ⟨rfl, J2, wb, rfl, f2, hA2, hk2, hz2⟩ := hv
  have hF2 : Fm sO I J2 := Fm.tr hF f2
  generalize linP T e b' W' = r at es hA2 hk2 hz2 lok ⊢
  obtain ⟨z, b1, W1⟩ := r
  cases z with
  | false =>
    refine a_if_ne rfl (fun z => absurd rfl z) (fun _ => ?_)
    have es : strP T e W = (false, b1, W') := es.symm
    rw [es, if_neg Bool.false_ne_true]
    refine a_l0 rfl rfl rfl ?_
    refine a_getq rfl gfX8_12_6 rfl (rfl) ?_
    refine a_getiv (v := nI b1) rfl gfX8_33_9 rfl (Ats.be hA2) ?_
    exact a_iret rfl rfl ⟨rfl, J2, wb, rfl, Ats.wk hA2, Ats.le hA2, hF2, fun _ => hk2 rfl, fun z => by cases z⟩
  | true =>
  refine a_if_ne rfl (fun _ => ?_) (fun z => absurd (show (1 : Int32) = 0 from z) (by decide))
  have hD2 : Sd J2 209 W1 := hz2 rfl
  have hW2 : WOk W1 := lok rfl
  rw [if_pos rfl] at es
  refine a_l0 rfl rfl rfl ?_
  refine a_getq rfl gfX8_12_6 rfl (rfl) ?_
  refine a_eV1 rfl lX8_26 mo_X9_isEnd (s_isEnd hA2) rfl rfl rfl ⟨9, _, rfl, rfl, rfl⟩ rfl ?_
  by_cases c1 : b1 < e
  rotate_left
  · rw [show decide (¬ b1 < e) = true from decide_eq_true c1]
    refine a_if_eq rfl (fun z => absurd z (by decide)) (fun _ => ?_)
    have es : strP T e W = (true, b1, W1) := es.symm.trans (if_neg c1)
    rw [es, if_pos rfl]
    refine a_s rfl rfl ?_
    exact a_iret rfl rfl ⟨rfl, J2, wb, rfl, Ats.wk hA2, Ats.le hA2, hF2, fun z => (by cases z), fun _ => hD2⟩
  rw [show decide (¬ b1 < e) = false from decide_eq_false (fun z => z c1)]
  refine a_if_eq rfl (fun _ => ?_) (fun z => absurd rfl z)
  have es := (if_pos c1).symm.trans es
  refine a_l0 rfl rfl rfl ?_
  refine a_getq rfl gfX8_12_6 rfl (rfl) ?_
  refine a_s rfl rfl ?_
  refine a_gV rfl lX8_36 mo_X9_takeSign (s_takeSign hw hA2) rfl rfl rfl ⟨9, _, rfl, rfl, rfl⟩ rfl (fun v' h' hv => ?_)
  obtain ⟨rfl, J3, wc, rfl, hA3, hf3⟩ := hv
  have hF3 : Fm sO I J3 := Fms hF2 hf3
  cases c59 : sg T e b1 59 with
  | false =>
    rw [c59, if_neg Bool.false_ne_true] at hA3
    refine a_if_ne rfl (fun z => absurd rfl z) (fun _ => ?_)
    have es : strP T e W = (false, b1, W') := es.symm.trans (if_neg (by show ¬ sg T e b1 59 = true; rw [c59]; exact Bool.false_ne_true))
    rw [es, if_neg Bool.false_ne_true]
    refine a_l0 rfl rfl rfl ?_
    refine a_getq rfl gfX8_12_6 rfl (rfl) ?_
    refine a_getiv (v := nI b1) rfl gfX8_33_9 rfl (Ats.be hA3) ?_
    exact a_iret rfl rfl ⟨rfl, J3, wc, rfl, Ats.wk hA3, Ats.le hA3, hF3, fun _ => Dk.nx (Dk.sd hD2 hW2) hf3, fun z => by cases z⟩
  | true =>
    rw [c59, if_pos rfl] at hA3
    refine a_if_ne rfl (fun _ => ?_) (fun z => absurd z (by decide))
    have es := es.symm.trans (if_pos c59)
    refine a_iv2 (y := nI (i + 1)) rfl rfl rfl ((nI_succ i).symm) ?_
    refine a_goto rfl ?_
    exact ih (14 - (i + 1)) _ _ (by omega) ⟨i + 1, nx T e b1, wc, W1, J3, rfl, rfl, hA3, Sd.nx hD2 hf3, hW2, hF3, by omega, by rw [show 14 - (i + 1) = f by omega]; exact es.symm, rfl⟩
end T79n
end
section
/-! ===== the reference: a text of the street, as a function (printed by program) ===== -/
section T79o
variable {S : aS} {I : Nat → Nat → Int32} {L : Nat → Nat → Int64} {w1 w2 t : Nat} {e p b : Nat} {T W : Nat → Int32}
set_option maxRecDepth 100000
/-- from I to J: at p, what is next begins at b, the world is W -/
def Hf (T : Nat → Int32) (e b : Nat) (W : Nat → Int32) (I J : Nat → Nat → Int32) (p : Nat) : Prop := Fm sS I J ∧ Pp e p J ∧ rn T e 4 p = b ∧ J 421 = W
theorem Hf.pp {J : Nat → Nat → Int32} (h : Hf T e b W I J p) : Pp e p J := h.2.1
theorem Hf.nb {J : Nat → Nat → Int32} (h : Hf T e b W I J p) : rn T e 4 p = b := h.2.2.1
theorem Hf.wd {J : Nat → Nat → Int32} (h : Hf T e b W I J p) : J 421 = W := h.2.2.2
theorem Hf.tt {J : Nat → Nat → Int32} (h : Hf T e b W I J p) (hT : I 426 = T) : J 426 = T := (funext fun k => h.1 426 k rfl).trans hT
theorem Hf.sk {J : Nat → Nat → Int32} (h : Hf T e b W I J p) : rn T e 4 b = b := by
  rw [← Hf.nb h]
  exact rn_rn
theorem Hf.le {J : Nat → Nat → Int32} (h : Hf T e b W I J p) : b ≤ e := by
  rw [← Hf.nb h]
  exact rn_le (Pp.le (Hf.pp h))
theorem Hf.rd {J K : Nat → Nat → Int32} {b2 p' b' : Nat} (h : Hf T e b W I J p) (r : Rd e p b2 p' J K) (hb : rn T e 4 p' = b') : Hf T e b' W I K p' := ⟨Fm.tr h.1 (Fm.mo (Rd.fm r) sR_sS), Rd.pp r, hb, (Rd.w r).trans h.2.2.2⟩
theorem Hf.ot {J K : Nat → Nat → Int32} {p' b' : Nat} (h : Hf T e b W I J p) (f : Fm sR J K) (hq : Pp e p' K) (hb : rn T e 4 p' = b') : Hf T e b' W I K p' := ⟨Fm.tr h.1 (Fm.mo f sR_sS), hq, hb, (funext fun k => f 421 k rfl).trans h.2.2.2⟩
def QH (T : Nat → Int32) (e : Nat) (r : SR) (I : Nat → Nat → Int32) (L : Nat → Nat → Int64) (w1 w2 t : Nat) : Option Value → aH → Prop := fun v h' => v = some (.int (bI r.1)) ∧ ∃ J p, h' = hp J L w1 w2 t ∧ (r.1 = true → Hf T e r.2.1 r.2.2 I J p) ∧ (r.1 = false → Fm sS I J ∧ J 420 12 = nI r.2.1)
theorem QH.yes {J : Nat → Nat → Int32} (h : Hf T e b W I J p) : QH T e (true, b, W) I L w1 w2 t (some (.int 1)) (hp J L w1 w2 t) := ⟨rfl, J, p, rfl, fun _ => h, fun z => by cases z⟩
theorem QH.no {J : Nat → Nat → Int32} (f : Fm sS I J) (hb : J 420 12 = nI b) : QH T e (false, b, W) I L w1 w2 t (some (.int 0)) (hp J L w1 w2 t) := ⟨rfl, J, 0, rfl, fun z => (by cases z), fun _ => ⟨f, hb⟩⟩
theorem QH.be {J : Nat → Nat → Int32} {r : SR} {v : Option Value} {h' : aH} (f : Fm sS I J) (h : QH T e r J L w1 w2 t v h') : QH T e r I L w1 w2 t v h' := by
  obtain ⟨e1, K, p', e2, y, n⟩ := h
  exact ⟨e1, K, p', e2, fun z => ⟨Fm.tr f (y z).1, (y z).2⟩, fun z => ⟨Fm.tr f (n z).1, (n z).2⟩⟩
theorem nm_ge0 {lo hi : Int32} (h0 : 0 ≤ lo) : nm T e b lo hi = -1 ∨ 0 ≤ nm T e b lo hi := by
  by_cases c : nm T e b lo hi = -1
  · exact Or.inl c
  · exact Or.inr (Int32.le_trans h0 (nm_in c).1)
theorem nbP_ge0 {k : Nat} {lo hi : Int32} (h0 : 0 ≤ lo) : (nbP T e k lo hi b).1 = -1 ∨ 0 ≤ (nbP T e k lo hi b).1 := by
  unfold nbP
  by_cases c : isWd T e b k = true
  · rw [if_pos c]
    by_cases c2 : nm T e (nx T e b) lo hi = -1
    · rw [if_pos c2]
      exact Or.inl rfl
    · rw [if_neg c2]
      exact nm_ge0 h0
  · rw [if_neg c]
    exact Or.inl rfl
theorem h_numberBehind (hw : WdS S) (hT : I 426 = T) {k : Nat} (hk : k < 27) (hq : Pp e p I) (hb : rn T e 4 p = b) {lo hi : Int32} (h0 : 0 ≤ lo) : Sp S m_X12_numberBehind 18 0 0 [.ref 420, .ref (130 + k), .int lo, .int hi] (hp I L w1 w2 t) (fun v h' => v = some (.int (nbP T e k lo hi b).1) ∧ ∃ J p', h' = hp J L w1 w2 t ∧ Fm sR I J ∧ (¬ (nbP T e k lo hi b).1 = -1 → Pp e p' J ∧ rn T e 4 p' = (nbP T e k lo hi b).2) ∧ ((nbP T e k lo hi b).1 = -1 → J 420 12 = nI (nbP T e k lo hi b).2)) nX := by
  refine Sp_of ok_X12_numberBehind rfl rfl ?_
  show AW S m_X12_numberBehind 18 _ _ 0 0 0 [some (.ref 420), some (.ref (130 + k)), some (.int lo), some (.int hi)] [] (hp I L w1 w2 t)
  refine a_l0 rfl rfl rfl ?_
  refine a_gV rfl lX12_106 mo_X12_letters (h_letters hq) rfl rfl rfl ⟨12, _, rfl, rfl, rfl⟩ rfl (fun v' h' hv => ?_)
  obtain ⟨rfl, J1, rfl, h1⟩ := hv
  rw [hT, hb] at h1
  have eT1 : J1 426 = T := (Rd.T h1).trans hT
  refine a_l0 rfl rfl rfl ?_
  refine a_l1 rfl rfl rfl ?_
  refine a_eV1 rfl lX12_109 mo_X12_isWord (h_isWord (k := k) hw hk (Rd.be h1) (Rd.bp h1) (Rd.pp h1)) rfl rfl rfl ⟨12, _, rfl, rfl, rfl⟩ rfl ?_
  obtain ⟨z, cz⟩ : ∃ z, isWd T e b k = z := ⟨_, rfl⟩
  refine a_top (y := bI z) (by rw [eT1]; exact congrArg bI ((isW_wd hk).trans cz)) ?_
  cases z with
  | true =>
    refine a_if_eq rfl (fun z => absurd z (by decide)) (fun _ => ?_)
    have k1 := (of_decide_eq_true cz).1
    refine a_l0 rfl rfl rfl ?_
    refine a_l2 rfl rfl rfl ?_
    refine a_l3 rfl rfl rfl ?_
    refine a_gV rfl lX12_113 mo_X12_number (h_number (b := nx T e b) (x := lo) (y := hi) (Rd.pp h1) (by rw [eT1, ← en_1 k1]; rfl) h0) rfl rfl rfl ⟨12, _, rfl, rfl, rfl⟩ rfl (fun v' h' hv => ?_)
    obtain ⟨rfl, J2, rfl, h2⟩ := hv
    rw [eT1] at h2 ⊢
    refine a_goto rfl ?_
    rw [nbP_t cz]
    by_cases c2 : nm T e (nx T e b) lo hi = -1
    · rw [if_pos c2, c2]
      exact a_iret rfl rfl ⟨rfl, J2, 0, rfl, Fm.tr (Rd.fm h1) (Rd.fm h2), fun z => absurd rfl z, fun _ => Rd.be h2⟩
    · rw [if_neg c2]
      exact a_iret rfl rfl ⟨rfl, J2, _, rfl, Fm.tr (Rd.fm h1) (Rd.fm h2), fun _ => ⟨Rd.pp h2, by rw [← en_2 (nm_in c2).2.2.1]; rfl⟩, fun z => absurd z c2⟩
  | false =>
    refine a_if_eq rfl (fun _ => ?_) (fun z => absurd rfl z)
    refine a_s rfl rfl ?_
    rw [nbP_f cz]
    exact a_iret rfl rfl ⟨rfl, J1, 0, rfl, Rd.fm h1, fun z => absurd rfl z, fun _ => Rd.be h1⟩
theorem h_readNumber (hT : I 426 = T) (hq : Pp e p I) (hb : rn T e 4 p = b) (h421 : I 421 = W) {i : Nat} (h4 : 4 ≤ i) (h8 : i ≤ 8) {x y : Int32} (h0 : 0 ≤ x) : Sp S m_X12_readNumber 16 0 0 [.ref 420, .int (nI i), .int x, .int y] (hp I L w1 w2 t) (QH T e (setP T e b W i x y) I L w1 w2 t) nX := by
  refine Sp_of ok_X12_readNumber rfl rfl ?_
  show AW S m_X12_readNumber 16 _ _ 0 0 0 [some (.ref 420), some (.int (nI i)), some (.int x), some (.int y), none] [] (hp I L w1 w2 t)
  refine a_l0 rfl rfl rfl ?_
  refine a_l2 rfl rfl rfl ?_
  refine a_l3 rfl rfl rfl ?_
  refine a_gV rfl lX12_113 mo_X12_number (h_number (b := b) hq (by rw [hT]; exact hb) h0) rfl rfl rfl ⟨12, _, rfl, rfl, rfl⟩ rfl (fun v' h' hv => ?_)
  obtain ⟨rfl, J, rfl, h⟩ := hv
  rw [hT] at h ⊢
  refine a_s4 rfl rfl rfl rfl rfl rfl ?_
  refine a_l0 rfl rfl rfl ?_
  refine a_getq rfl gfX12_13_12 rfl (rfl) ?_
  refine a_l1 rfl rfl rfl ?_
  refine a_l4 rfl rfl rfl ?_
  have fs : ∀ v, Fm sS I (up2 J 421 i v) := fun v => Fm.up (Fm.mo (Rd.fm h) sR_sS) (sS_at (stC_of _ (by omega) (by omega) (by omega)))
  by_cases c : nm T e b x y = -1
  · rw [show setP T e b W i x y = (false, b, W) from if_pos c, c]
    refine a_if_ge rfl (fun z => absurd z (by decide)) (fun _ => ?_)
    refine a_l0 rfl rfl rfl ?_
    refine a_getq rfl gfX12_13_12 rfl (rfl) ?_
    refine a_l1 rfl rfl rfl ?_
    refine a_ialdv (v := J 421 i) rfl (n := 2033) rfl (inI_nI (by omega) (by omega)) (by rw [nI_clamp (by omega)]) ?_
    refine a_goto rfl ?_
    refine a_iastv (k := i) rfl (n := 2033) rfl (inI_nI (by omega) (by omega)) (nI_clamp (by omega)) ?_
    refine a_l4 rfl rfl rfl ?_
    refine a_if_lt rfl (fun _ => ?_) (fun z => absurd (by decide) z)
    refine a_s rfl rfl ?_
    exact a_zret rfl rfl rfl (QH.no (fs _) ((congrFun (up2_row (by decide)) 12).trans (Rd.be h)))
  · rw [show setP T e b W i x y = (true, nx T e b, ud W i (nm T e b x y)) from if_neg c]
    have g0 := Int32.le_trans h0 (nm_in c).1
    refine a_if_ge rfl (fun _ => ?_) (fun z => absurd g0 z)
    refine a_l4 rfl rfl rfl ?_
    refine a_iastv (k := i) rfl (n := 2033) rfl (inI_nI (by omega) (by omega)) (nI_clamp (by omega)) ?_
    refine a_l4 rfl rfl rfl ?_
    refine a_if_lt rfl (fun z => absurd z (Int32.not_lt.mpr g0)) (fun _ => ?_)
    refine a_s rfl rfl ?_
    refine a_goto rfl ?_
    refine a_zret rfl rfl rfl (QH.yes ⟨fs _, ?_, (by rw [← en_2 (nm_in c).2.2.1]; rfl : rn T e 4 (rn T e 2 b) = nx T e b), ?_⟩)
    · unfold Pp
      rw [up2_row (by decide)]
      exact Rd.pp h
    · rw [up2_ud, Rd.w h, h421]
theorem h_readForgotten (hT : I 426 = T) (hq : Pp e p I) (hb : rn T e 4 p = b) (h421 : I 421 = W) (hW : WOk W) : Sp S m_X12_readForgotten 16 0 0 [.ref 420] (hp I L w1 w2 t) (QH T e (forP T e b W) I L w1 w2 t) nX := by
  have h12 := hW.2.1
  refine Sp_of ok_X12_readForgotten rfl rfl ?_
  show AW S m_X12_readForgotten 16 _ _ 0 0 0 [some (.ref 420), none] [] (hp I L w1 w2 t)
  refine a_l0 rfl rfl rfl ?_
  refine a_s rfl rfl ?_
  refine a_l0 rfl rfl rfl ?_
  refine a_eV1 rfl lX12_74 mo_X12_duties sp_X12_duties rfl rfl rfl ⟨12, _, rfl, rfl, rfl⟩ rfl ?_
  refine a_s rfl rfl ?_
  refine a_s rfl rfl ?_
  refine a_top (y := W 1 - 1) (by rw [h421]) ?_
  refine a_gV rfl lX12_113 mo_X12_number (h_number (b := b) (x := 0) (y := W 1 - 1) hq (by rw [hT]; exact hb) (by decide)) rfl rfl rfl ⟨12, _, rfl, rfl, rfl⟩ rfl (fun v' h' hv => ?_)
  obtain ⟨rfl, J, rfl, h⟩ := hv
  rw [hT] at h ⊢
  have no : ∀ {v : Int32}, forP T e b W = (false, b, W) → AW S m_X12_readForgotten 16 (QH T e (forP T e b W) I L w1 w2 t) nX 0 0 24 [some (.ref 420), some (.int v)] [] (hp J L w1 w2 t) := by
    intro v ef
    rw [ef]
    refine a_s rfl rfl ?_
    exact a_zret rfl rfl rfl (QH.no (Fm.mo (Rd.fm h) sR_sS) (Rd.be h))
  refine a_s1 rfl rfl rfl rfl rfl rfl ?_
  refine a_l1 rfl rfl rfl ?_
  by_cases c : nm T e b 0 (W 1 - 1) = -1
  · refine a_if_lt rfl (fun _ => no (if_pos c)) (fun z => absurd (by rw [c]; decide) z)
  obtain ⟨j, hj, ej⟩ := nm_ix h12 (by rw [← hW.2.2.2]; exact c)
  rw [← hW.2.2.2] at ej
  refine a_if_lt rfl (fun z => absurd z (by rw [ej]; exact nI_pos (by omega))) (fun _ => ?_)
  rw [ej]
  refine a_l0 rfl rfl rfl ?_
  refine a_l1 rfl rfl rfl ?_
  refine a_eV1 rfl lX12_135 mo_X12_isWaiting (sp_X12_isWaiting (d := j) (by omega)) rfl rfl rfl ⟨12, _, rfl, rfl, rfl⟩ rfl ?_
  have e5 : vd (J 421) 5 j = W (23 + 6 * j + 5) := by rw [Rd.w h, h421]
  rw [e5]
  by_cases cw : W (23 + 6 * j + 5) = 0
  · rw [decide_eq_true cw]
    refine a_if_ne rfl (fun _ => ?_) (fun z => absurd z (by decide))
    rw [show forP T e b W = (true, nx T e b, ud W (23 + 6 * j + 5) 2) by unfold forP; rw [if_neg c, ej, nI_clamp (by omega), if_pos cw]]
    refine a_l0 rfl rfl rfl ?_
    refine a_getq rfl gfX12_13_12 rfl (rfl) ?_
    refine a_l1 rfl rfl rfl ?_
    refine a_s rfl rfl ?_
    refine a_eS1 rfl lX12_60 mo_X12_at (sp_X12_at (d := j) (k := 5)) rfl rfl rfl rfl ?_
    refine a_s rfl rfl ?_
    refine a_iastv (k := 23 + 6 * j + 5) rfl (n := 2033) rfl (inI_nI (by omega) (by omega)) (nI_clamp (by omega)) ?_
    refine a_s rfl rfl ?_
    refine a_zret rfl rfl rfl (QH.yes ⟨Fm.up (Fm.mo (Rd.fm h) sR_sS) (sS_at (stC_of _ (by omega) (by omega) (by omega))), ?_, (by rw [← en_2 (nm_in c).2.2.1]; rfl : rn T e 4 (rn T e 2 b) = nx T e b), ?_⟩)
    · unfold Pp
      rw [up2_row (by decide)]
      exact Rd.pp h
    · rw [up2_ud, Rd.w h, h421]
  · rw [decide_eq_false cw]
    refine a_if_ne rfl (fun z => absurd rfl z) (fun _ => no ?_)
    unfold forP
    rw [if_neg c, ej, nI_clamp (by omega), if_neg cw]
theorem h_readPerson (hw : WdS S) (hT : I 426 = T) (hq : Pp e p I) (hn : rn T e 4 p = nx T e b) (h12 : I 420 12 = nI b) (h421 : I 421 = W) (hW : WOk W) : Sp S m_X12_readPerson 20 0 0 [.ref 420] (hp I L w1 w2 t) (QH T e (perP T e b W) I L w1 w2 t) nX := by
  have hp6 := hW.1
  refine Sp_of ok_X12_readPerson rfl rfl ?_
  show AW S m_X12_readPerson 20 _ _ 0 0 0 [some (.ref 420), none, none, none] [] (hp I L w1 w2 t)
  refine a_l0 rfl rfl rfl ?_
  refine a_eV1 rfl lX12_66 mo_X12_people sp_X12_people rfl rfl rfl ⟨12, _, rfl, rfl, rfl⟩ rfl ?_
  refine a_top (y := nI (pn W)) (by rw [h421]; exact hW.2.2.1) ?_
  refine a_s1 rfl rfl rfl rfl rfl rfl ?_
  refine a_l1 rfl rfl rfl ?_
  refine a_s rfl rfl ?_
  refine a_ic_ne rfl (fun c => ?_) (fun c => ?_)
  rotate_left
  · rw [show perP T e b W = (false, b, W) from if_pos (hW.2.2.1.trans c)]
    refine a_s rfl rfl ?_
    exact a_zret rfl rfl rfl (QH.no Fm.rf h12)
  have n6 : ¬ pn W = 6 := fun z => c (congrArg nI z)
  rw [show perP T e b W = perB T e W (nbP T e 1 0 15 (nx T e b)) from if_neg fun z => c (hW.2.2.1.symm.trans z)]
  refine a_l0 rfl rfl rfl ?_
  refine a_ldcs (q := 130 + 1) rfl (hw.ld (i := 1) (by decide)) ?_
  refine a_s rfl rfl ?_
  refine a_s rfl rfl ?_
  refine a_gV rfl lX12_117 mo_X12_numberBehind (h_numberBehind (k := 1) (lo := 0) (hi := 15) hw hT (by decide) hq hn (by decide)) rfl rfl rfl ⟨12, _, rfl, rfl, rfl⟩ rfl (fun v' h' hv => ?_)
  obtain ⟨rfl, J1, p1, rfl, f1, g1, z1⟩ := hv
  have hx := nbP_ge0 (T := T) (e := e) (b := nx T e b) (k := 1) (lo := 0) (hi := 15) (by decide)
  generalize nbP T e 1 0 15 (nx T e b) = x at g1 z1 hx ⊢
  refine a_s2 rfl rfl rfl rfl rfl rfl ?_
  refine a_l2 rfl rfl rfl ?_
  refine a_if_ge rfl (fun c1 => ?_) (fun c1 => ?_)
  rotate_left
  · have e1 := hx.resolve_right c1
    rw [show perB T e W x = (false, x.2, W) from if_pos e1]
    refine a_s rfl rfl ?_
    refine a_goto rfl ?_
    refine a_s3 rfl rfl rfl rfl rfl rfl ?_
    refine a_l3 rfl rfl rfl ?_
    refine a_if_ge rfl (fun c => absurd c (by decide)) (fun _ => ?_)
    refine a_s rfl rfl ?_
    exact a_zret rfl rfl rfl (QH.no (Fm.mo f1 sR_sS) (z1 e1))
  have n1 : ¬ x.1 = -1 := fun z => by
    rw [z] at c1
    exact absurd c1 (by decide)
  obtain ⟨q1, b1⟩ := g1 n1
  rw [show perB T e W x = perC W x.1 (nbP T e 2 0 9 x.2) from if_neg n1]
  have eT1 : J1 426 = T := (funext fun k => f1 426 k rfl).trans hT
  refine a_l0 rfl rfl rfl ?_
  refine a_ldcs (q := 130 + 2) rfl (hw.ld (i := 2) (by decide)) ?_
  refine a_s rfl rfl ?_
  refine a_s rfl rfl ?_
  refine a_gV rfl lX12_117 mo_X12_numberBehind (h_numberBehind (k := 2) (lo := 0) (hi := 9) hw eT1 (by decide) q1 b1 (by decide)) rfl rfl rfl ⟨12, _, rfl, rfl, rfl⟩ rfl (fun v' h' hv => ?_)
  obtain ⟨rfl, J2, p2, rfl, f2, g2, z2⟩ := hv
  have hy := nbP_ge0 (T := T) (e := e) (b := x.2) (k := 2) (lo := 0) (hi := 9) (by decide)
  generalize nbP T e 2 0 9 x.2 = y at g2 z2 hy ⊢
  have f12 : Fm sS I J2 := Fm.mo (Fm.tr f1 f2) sR_sS
  refine a_s3 rfl rfl rfl rfl rfl rfl ?_
  refine a_l3 rfl rfl rfl ?_
  refine a_if_ge rfl (fun c2 => ?_) (fun c2 => ?_)
  rotate_left
  · have e2 := hy.resolve_right c2
    rw [show perC W x.1 y = (false, y.2, W) from if_pos e2]
    refine a_s rfl rfl ?_
    exact a_zret rfl rfl rfl (QH.no f12 (z2 e2))
  have n2 : ¬ y.1 = -1 := fun z => by
    rw [z] at c2
    exact absurd c2 (by decide)
  obtain ⟨q2, b2⟩ := g2 n2
  rw [show perC W x.1 y = (true, y.2, addPs W x.1 y.1) from if_neg n2]
  have w2' : J2 421 = W := (funext fun k => (Fm.tr f1 f2) 421 k rfl).trans h421
  refine a_l0 rfl rfl rfl ?_
  refine a_getq rfl gfX12_13_12 rfl (rfl) ?_
  refine a_l1 rfl rfl rfl ?_
  refine a_s rfl rfl ?_
  refine a_eS1 rfl lX12_56 mo_X12_personAt (sp_X12_personAt (d := pn W) (k := 0)) rfl rfl rfl rfl ?_
  refine a_l2 rfl rfl rfl ?_
  refine a_iastv (k := 11 + 2 * pn W) rfl (n := 2033) rfl (inI_nI (by omega) (by omega)) (nI_clamp (by omega)) ?_
  refine a_l0 rfl rfl rfl ?_
  refine a_getq rfl gfX12_13_12 rfl (rfl) ?_
  refine a_l1 rfl rfl rfl ?_
  refine a_s rfl rfl ?_
  refine a_eS1 rfl lX12_56 mo_X12_personAt (sp_X12_personAt (d := pn W) (k := 1)) rfl rfl rfl rfl ?_
  refine a_l3 rfl rfl rfl ?_
  refine a_iastv (k := 11 + 2 * pn W + 1) rfl (n := 2033) rfl (inI_nI (by omega) (by omega)) (nI_clamp (by omega)) ?_
  refine a_l0 rfl rfl rfl ?_
  refine a_getq rfl gfX12_13_12 rfl (rfl) ?_
  refine a_s rfl rfl ?_
  refine a_s rfl rfl ?_
  refine a_ialdv (v := nI (pn W)) rfl (n := 2033) rfl ⟨by decide, by decide⟩ ?_ ?_
  · show up2 (up2 J2 421 (11 + 2 * pn W) x.1) 421 (11 + 2 * pn W + 1) y.1 421 0 = nI (pn W)
    rw [u2_lo (by omega), u2_lo (by omega), w2']
    exact hW.2.2.1
  refine a_s rfl rfl ?_
  refine a_s rfl rfl ?_
  refine a_top (y := nI (pn W + 1)) ((nI_succ _).symm) ?_
  refine a_iastv (k := 0) rfl (n := 2033) rfl ⟨by decide, by decide⟩ rfl ?_
  refine a_s rfl rfl ?_
  refine a_zret rfl rfl rfl (QH.yes (p := p2) ⟨Fm.up (Fm.up (Fm.up f12 (sS_at (stC_of _ (by omega) (by omega) (by omega)))) (sS_at (stC_of _ (by omega) (by omega) (by omega)))) (sS_at rfl), ?_, b2, ?_⟩)
  · unfold Pp
    rw [up2_row (by decide), up2_row (by decide), up2_row (by decide)]
    exact q2
  · rw [up2_ud, up2_ud, up2_ud, w2']
    rfl
theorem h_du156 (hW : WOk W) (h12 : ¬ W 1 = 12) {x0 x1 x2 x3 x4 : Int32} {u5 u7 : Option Value} {J : Nat → Nat → Int32} (C : Hf T e b W I J p) : AW S m_X12_readDuty 21 (QH T e (true, b, addDt W x0 x1 x2 x3 x4) I L w1 w2 t) nX 0 0 156 [some (.ref 420), some (.int (nI (dn W))), some (.int x0), some (.int x1), some (.int x2), u5, some (.int x3), u7, some (.int x4)] [] (hp J L w1 w2 t) := by
  have hlt : dn W < 12 := by
    have := hW.2.1
    have : dn W ≠ 12 := fun z => h12 (by rw [hW.2.2.2, z]; rfl)
    omega
  refine a_l0 rfl rfl rfl ?_
  refine a_getq rfl gfX12_13_12 rfl (rfl) ?_
  refine a_l1 rfl rfl rfl ?_
  refine a_s rfl rfl ?_
  refine a_eS1 rfl lX12_60 mo_X12_at (sp_X12_at (d := dn W) (k := 0)) rfl rfl rfl rfl ?_
  refine a_l2 rfl rfl rfl ?_
  refine a_iastv (k := 23 + 6 * dn W + 0) rfl (n := 2033) rfl (inI_nI (by omega) (by omega)) (nI_clamp (by omega)) ?_
  refine a_l0 rfl rfl rfl ?_
  refine a_getq rfl gfX12_13_12 rfl (rfl) ?_
  refine a_l1 rfl rfl rfl ?_
  refine a_s rfl rfl ?_
  refine a_eS1 rfl lX12_60 mo_X12_at (sp_X12_at (d := dn W) (k := 1)) rfl rfl rfl rfl ?_
  refine a_l3 rfl rfl rfl ?_
  refine a_iastv (k := 23 + 6 * dn W + 1) rfl (n := 2033) rfl (inI_nI (by omega) (by omega)) (nI_clamp (by omega)) ?_
  refine a_l0 rfl rfl rfl ?_
  refine a_getq rfl gfX12_13_12 rfl (rfl) ?_
  refine a_l1 rfl rfl rfl ?_
  refine a_s rfl rfl ?_
  refine a_eS1 rfl lX12_60 mo_X12_at (sp_X12_at (d := dn W) (k := 2)) rfl rfl rfl rfl ?_
  refine a_l4 rfl rfl rfl ?_
  refine a_iastv (k := 23 + 6 * dn W + 2) rfl (n := 2033) rfl (inI_nI (by omega) (by omega)) (nI_clamp (by omega)) ?_
  refine a_l0 rfl rfl rfl ?_
  refine a_getq rfl gfX12_13_12 rfl (rfl) ?_
  refine a_l1 rfl rfl rfl ?_
  refine a_s rfl rfl ?_
  refine a_eS1 rfl lX12_60 mo_X12_at (sp_X12_at (d := dn W) (k := 3)) rfl rfl rfl rfl ?_
  refine a_l6 rfl rfl rfl ?_
  refine a_iastv (k := 23 + 6 * dn W + 3) rfl (n := 2033) rfl (inI_nI (by omega) (by omega)) (nI_clamp (by omega)) ?_
  refine a_l0 rfl rfl rfl ?_
  refine a_getq rfl gfX12_13_12 rfl (rfl) ?_
  refine a_l1 rfl rfl rfl ?_
  refine a_s rfl rfl ?_
  refine a_eS1 rfl lX12_60 mo_X12_at (sp_X12_at (d := dn W) (k := 4)) rfl rfl rfl rfl ?_
  refine a_l8 rfl rfl rfl ?_
  refine a_iastv (k := 23 + 6 * dn W + 4) rfl (n := 2033) rfl (inI_nI (by omega) (by omega)) (nI_clamp (by omega)) ?_
  refine a_l0 rfl rfl rfl ?_
  refine a_getq rfl gfX12_13_12 rfl (rfl) ?_
  refine a_l1 rfl rfl rfl ?_
  refine a_s rfl rfl ?_
  refine a_eS1 rfl lX12_60 mo_X12_at (sp_X12_at (d := dn W) (k := 5)) rfl rfl rfl rfl ?_
  refine a_s rfl rfl ?_
  refine a_iastv (k := 23 + 6 * dn W + 5) rfl (n := 2033) rfl (inI_nI (by omega) (by omega)) (nI_clamp (by omega)) ?_
  refine a_l0 rfl rfl rfl ?_
  refine a_getq rfl gfX12_13_12 rfl (rfl) ?_
  refine a_s rfl rfl ?_
  refine a_s rfl rfl ?_
  refine a_ialdv (v := nI (dn W)) rfl (n := 2033) rfl ⟨by decide, by decide⟩ ?_ ?_
  · show up2 (up2 (up2 (up2 (up2 (up2 J 421 (23 + 6 * dn W + 0) _) 421 (23 + 6 * dn W + 1) _) 421 (23 + 6 * dn W + 2) _) 421 (23 + 6 * dn W + 3) _) 421 (23 + 6 * dn W + 4) _) 421 (23 + 6 * dn W + 5) _ 421 1 = nI (dn W)
    rw [u2_lo (by omega), u2_lo (by omega), u2_lo (by omega), u2_lo (by omega), u2_lo (by omega), u2_lo (by omega), Hf.wd C]
    exact hW.2.2.2
  refine a_s rfl rfl ?_
  refine a_s rfl rfl ?_
  refine a_top (y := nI (dn W + 1)) ((nI_succ _).symm) ?_
  refine a_iastv (k := 1) rfl (n := 2033) rfl ⟨by decide, by decide⟩ rfl ?_
  refine a_s rfl rfl ?_
  refine a_zret rfl rfl rfl (QH.yes (p := p) ⟨dutH_fm hlt C.1, ?_, Hf.nb C, ?_⟩)
  · unfold Pp
    rw [up2_row (by decide), up2_row (by decide), up2_row (by decide), up2_row (by decide), up2_row (by decide), up2_row (by decide), up2_row (by decide)]
    exact Hf.pp C
  · rw [up2_ud, up2_ud, up2_ud, up2_ud, up2_ud, up2_ud, up2_ud, Hf.wd C]
    rfl
theorem h_du117 (hw : WdS S) (hW : WOk W) (h12 : ¬ W 1 = 12) (hT : I 426 = T) {x0 x1 x2 x3 : Int32} {u5 : Option Value} {J : Nat → Nat → Int32} (C : Hf T e b W I J p) : AW S m_X12_readDuty 21 (QH T e (duE W x0 x1 x2 x3 (optP T e 8 0 (W 1 - 1) (-1) b)) I L w1 w2 t) nX 0 0 117 [some (.ref 420), some (.int (nI (dn W))), some (.int x0), some (.int x1), some (.int x2), u5, some (.int x3), none, none] [] (hp J L w1 w2 t) := by
  have eT := Hf.tt C hT
  refine a_l0 rfl rfl rfl ?_
  refine a_ldcs (q := 130 + 8) rfl (hw.ld (i := 8) (by decide)) ?_
  refine a_gV rfl lX12_128 mo_X12_passes (h_passes (b := b) (k := 8) hw (by decide) (Hf.pp C) (by rw [eT]; exact Hf.nb C)) rfl rfl rfl ⟨12, _, rfl, rfl, rfl⟩ rfl (fun v' h' hv => ?_)
  obtain ⟨rfl, K, rfl, h2⟩ := hv
  rw [eT] at h2 ⊢
  obtain ⟨z, cz⟩ : ∃ z, isWd T e b 8 = z := ⟨_, rfl⟩
  rw [cz] at h2 ⊢
  refine a_s7 rfl rfl rfl rfl rfl rfl ?_
  refine a_l7 rfl rfl rfl ?_
  cases z with
  | false =>
    rw [if_neg Bool.false_ne_true] at h2
    rw [show optP T e 8 0 (W 1 - 1) (-1) b = (true, (-1), b) from if_neg (by rw [cz]; exact Bool.false_ne_true), show duE W x0 x1 x2 x3 (true, (-1), b) = (true, b, addDt W x0 x1 x2 x3 (-1)) from if_pos rfl]
    refine a_if_eq rfl (fun _ => ?_) (fun z => absurd rfl z)
    refine a_s rfl rfl ?_
    refine a_s8 rfl rfl rfl rfl rfl rfl ?_
    refine a_l7 rfl rfl rfl ?_
    refine a_if_eq rfl (fun _ => ?_) (fun z => absurd rfl z)
    exact h_du156 hW h12 (Hf.rd C h2 (Hf.sk C))
  | true =>
    rw [if_pos rfl] at h2
    refine a_if_eq rfl (fun z => absurd z (by decide)) (fun _ => ?_)
    have C2 : Hf T e (nx T e b) W I K (en T e b) := Hf.rd C h2 rfl
    have eT2 := Hf.tt C2 hT
    refine a_l0 rfl rfl rfl ?_
    refine a_s rfl rfl ?_
    refine a_l1 rfl rfl rfl ?_
    refine a_s rfl rfl ?_
    refine a_s rfl rfl ?_
    refine a_top (y := W 1 - 1) (by rw [hW.2.2.2]) ?_
    refine a_gV rfl lX12_113 mo_X12_number (h_number (b := nx T e b) (x := 0) (y := (W 1 - 1)) (Hf.pp C2) (by rw [eT2]; exact Hf.nb C2) (by decide)) rfl rfl rfl ⟨12, _, rfl, rfl, rfl⟩ rfl (fun v' h' hv => ?_)
    obtain ⟨rfl, K2, rfl, h3⟩ := hv
    rw [eT2] at h3 ⊢
    refine a_goto rfl ?_
    refine a_s8 rfl rfl rfl rfl rfl rfl ?_
    refine a_l7 rfl rfl rfl ?_
    refine a_if_eq rfl (fun z => absurd z (by decide)) (fun _ => ?_)
    refine a_l8 rfl rfl rfl ?_
    by_cases cn : nm T e (nx T e b) 0 (W 1 - 1) = -1
    · rw [show optP T e 8 0 (W 1 - 1) (-1) b = (false, -1, nx T e b) from (if_pos cz).trans (if_pos cn), show duE W x0 x1 x2 x3 (false, -1, nx T e b) = (false, nx T e b, W) from if_neg Bool.false_ne_true, cn]
      refine a_if_ge rfl (fun c => absurd c (by decide)) (fun _ => ?_)
      refine a_s rfl rfl ?_
      exact a_zret rfl rfl rfl (QH.no (Fm.tr C2.1 (Fm.mo (Rd.fm h3) sR_sS)) (Rd.be h3))
    · rw [show optP T e 8 0 (W 1 - 1) (-1) b = (true, nm T e (nx T e b) 0 (W 1 - 1), nx T e (nx T e b)) from (if_pos cz).trans (if_neg cn), show duE W x0 x1 x2 x3 (true, nm T e (nx T e b) 0 (W 1 - 1), nx T e (nx T e b)) = (true, (nx T e (nx T e b)), addDt W x0 x1 x2 x3 (nm T e (nx T e b) 0 (W 1 - 1))) from if_pos rfl]
      refine a_if_ge rfl (fun _ => ?_) (fun c => absurd (nm_in cn).1 c)
      exact h_du156 hW h12 (Hf.rd C2 h3 (by rw [← en_2 (nm_in cn).2.2.1]; rfl))
theorem h_du80 (hw : WdS S) (hW : WOk W) (h12 : ¬ W 1 = 12) (hT : I 426 = T) {x0 x1 x2 : Int32} {J : Nat → Nat → Int32} (C : Hf T e b W I J p) : AW S m_X12_readDuty 21 (QH T e (duD T e W x0 x1 x2 (optP T e 7 0 5 (-1) b)) I L w1 w2 t) nX 0 0 80 [some (.ref 420), some (.int (nI (dn W))), some (.int x0), some (.int x1), some (.int x2), none, none, none, none] [] (hp J L w1 w2 t) := by
  have eT := Hf.tt C hT
  refine a_l0 rfl rfl rfl ?_
  refine a_ldcs (q := 130 + 7) rfl (hw.ld (i := 7) (by decide)) ?_
  refine a_gV rfl lX12_128 mo_X12_passes (h_passes (b := b) (k := 7) hw (by decide) (Hf.pp C) (by rw [eT]; exact Hf.nb C)) rfl rfl rfl ⟨12, _, rfl, rfl, rfl⟩ rfl (fun v' h' hv => ?_)
  obtain ⟨rfl, K, rfl, h2⟩ := hv
  rw [eT] at h2 ⊢
  obtain ⟨z, cz⟩ : ∃ z, isWd T e b 7 = z := ⟨_, rfl⟩
  rw [cz] at h2 ⊢
  refine a_s5 rfl rfl rfl rfl rfl rfl ?_
  refine a_l5 rfl rfl rfl ?_
  cases z with
  | false =>
    rw [if_neg Bool.false_ne_true] at h2
    rw [show optP T e 7 0 5 (-1) b = (true, (-1), b) from if_neg (by rw [cz]; exact Bool.false_ne_true), show duD T e W x0 x1 x2 (true, (-1), b) = duE W x0 x1 x2 (-1) (optP T e 8 0 (W 1 - 1) (-1) b) from if_pos rfl]
    refine a_if_eq rfl (fun _ => ?_) (fun z => absurd rfl z)
    refine a_s rfl rfl ?_
    refine a_s6 rfl rfl rfl rfl rfl rfl ?_
    refine a_l5 rfl rfl rfl ?_
    refine a_if_eq rfl (fun _ => ?_) (fun z => absurd rfl z)
    exact h_du117 hw hW h12 hT (Hf.rd C h2 (Hf.sk C))
  | true =>
    rw [if_pos rfl] at h2
    refine a_if_eq rfl (fun z => absurd z (by decide)) (fun _ => ?_)
    have C2 : Hf T e (nx T e b) W I K (en T e b) := Hf.rd C h2 rfl
    have eT2 := Hf.tt C2 hT
    refine a_l0 rfl rfl rfl ?_
    refine a_s rfl rfl ?_
    refine a_s rfl rfl ?_
    refine a_gV rfl lX12_113 mo_X12_number (h_number (b := nx T e b) (x := 0) (y := 5) (Hf.pp C2) (by rw [eT2]; exact Hf.nb C2) (by decide)) rfl rfl rfl ⟨12, _, rfl, rfl, rfl⟩ rfl (fun v' h' hv => ?_)
    obtain ⟨rfl, K2, rfl, h3⟩ := hv
    rw [eT2] at h3 ⊢
    refine a_goto rfl ?_
    refine a_s6 rfl rfl rfl rfl rfl rfl ?_
    refine a_l5 rfl rfl rfl ?_
    refine a_if_eq rfl (fun z => absurd z (by decide)) (fun _ => ?_)
    refine a_l6 rfl rfl rfl ?_
    by_cases cn : nm T e (nx T e b) 0 5 = -1
    · rw [show optP T e 7 0 5 (-1) b = (false, -1, nx T e b) from (if_pos cz).trans (if_pos cn), show duD T e W x0 x1 x2 (false, -1, nx T e b) = (false, nx T e b, W) from if_neg Bool.false_ne_true, cn]
      refine a_if_ge rfl (fun c => absurd c (by decide)) (fun _ => ?_)
      refine a_s rfl rfl ?_
      exact a_zret rfl rfl rfl (QH.no (Fm.tr C2.1 (Fm.mo (Rd.fm h3) sR_sS)) (Rd.be h3))
    · rw [show optP T e 7 0 5 (-1) b = (true, nm T e (nx T e b) 0 5, nx T e (nx T e b)) from (if_pos cz).trans (if_neg cn), show duD T e W x0 x1 x2 (true, nm T e (nx T e b) 0 5, nx T e (nx T e b)) = duE W x0 x1 x2 (nm T e (nx T e b) 0 5) (optP T e 8 0 (W 1 - 1) (-1) (nx T e (nx T e b))) from if_pos rfl]
      refine a_if_ge rfl (fun _ => ?_) (fun c => absurd (nm_in cn).1 c)
      exact h_du117 hw hW h12 hT (Hf.rd C2 h3 (by rw [← en_2 (nm_in cn).2.2.1]; rfl))
theorem h_du51 (hw : WdS S) (hW : WOk W) (h12 : ¬ W 1 = 12) (hT : I 426 = T) {x0 x1 : Int32} {J : Nat → Nat → Int32} (C : Hf T e b W I J p) : AW S m_X12_readDuty 21 (QH T e (duC T e W x0 x1 (optP T e 6 0 99 0 b)) I L w1 w2 t) nX 0 0 51 [some (.ref 420), some (.int (nI (dn W))), some (.int x0), some (.int x1), none, none, none, none, none] [] (hp J L w1 w2 t) := by
  have eT := Hf.tt C hT
  refine a_l0 rfl rfl rfl ?_
  refine a_ldcs (q := 130 + 6) rfl (hw.ld (i := 6) (by decide)) ?_
  refine a_gV rfl lX12_128 mo_X12_passes (h_passes (b := b) (k := 6) hw (by decide) (Hf.pp C) (by rw [eT]; exact Hf.nb C)) rfl rfl rfl ⟨12, _, rfl, rfl, rfl⟩ rfl (fun v' h' hv => ?_)
  obtain ⟨rfl, K, rfl, h2⟩ := hv
  rw [eT] at h2 ⊢
  obtain ⟨z, cz⟩ : ∃ z, isWd T e b 6 = z := ⟨_, rfl⟩
  rw [cz] at h2 ⊢
  cases z with
  | false =>
    rw [if_neg Bool.false_ne_true] at h2
    rw [show optP T e 6 0 99 0 b = (true, 0, b) from if_neg (by rw [cz]; exact Bool.false_ne_true), show duC T e W x0 x1 (true, 0, b) = duD T e W x0 x1 0 (optP T e 7 0 5 (-1) b) from if_pos rfl]
    refine a_if_eq rfl (fun _ => ?_) (fun z => absurd rfl z)
    refine a_s rfl rfl ?_
    refine a_s4 rfl rfl rfl rfl rfl rfl ?_
    refine a_l4 rfl rfl rfl ?_
    refine a_if_ge rfl (fun _ => ?_) (fun z => absurd (by decide) z)
    exact h_du80 hw hW h12 hT (Hf.rd C h2 (Hf.sk C))
  | true =>
    rw [if_pos rfl] at h2
    refine a_if_eq rfl (fun z => absurd z (by decide)) (fun _ => ?_)
    have C2 : Hf T e (nx T e b) W I K (en T e b) := Hf.rd C h2 rfl
    have eT2 := Hf.tt C2 hT
    refine a_l0 rfl rfl rfl ?_
    refine a_s rfl rfl ?_
    refine a_s rfl rfl ?_
    refine a_gV rfl lX12_113 mo_X12_number (h_number (b := nx T e b) (x := 0) (y := 99) (Hf.pp C2) (by rw [eT2]; exact Hf.nb C2) (by decide)) rfl rfl rfl ⟨12, _, rfl, rfl, rfl⟩ rfl (fun v' h' hv => ?_)
    obtain ⟨rfl, K2, rfl, h3⟩ := hv
    rw [eT2] at h3 ⊢
    refine a_goto rfl ?_
    refine a_s4 rfl rfl rfl rfl rfl rfl ?_
    refine a_l4 rfl rfl rfl ?_
    by_cases cn : nm T e (nx T e b) 0 99 = -1
    · rw [show optP T e 6 0 99 0 b = (false, -1, nx T e b) from (if_pos cz).trans (if_pos cn), show duC T e W x0 x1 (false, -1, nx T e b) = (false, nx T e b, W) from if_neg Bool.false_ne_true, cn]
      refine a_if_ge rfl (fun c => absurd c (by decide)) (fun _ => ?_)
      refine a_s rfl rfl ?_
      exact a_zret rfl rfl rfl (QH.no (Fm.tr C2.1 (Fm.mo (Rd.fm h3) sR_sS)) (Rd.be h3))
    · rw [show optP T e 6 0 99 0 b = (true, nm T e (nx T e b) 0 99, nx T e (nx T e b)) from (if_pos cz).trans (if_neg cn), show duC T e W x0 x1 (true, nm T e (nx T e b) 0 99, nx T e (nx T e b)) = duD T e W x0 x1 (nm T e (nx T e b) 0 99) (optP T e 7 0 5 (-1) (nx T e (nx T e b))) from if_pos rfl]
      refine a_if_ge rfl (fun _ => ?_) (fun c => absurd (nm_in cn).1 c)
      exact h_du80 hw hW h12 hT (Hf.rd C2 h3 (by rw [← en_2 (nm_in cn).2.2.1]; rfl))
theorem h_readDuty (hw : WdS S) (hT : I 426 = T) (hq : Pp e p I) (hn : rn T e 4 p = nx T e b) (h12 : I 420 12 = nI b) (h421 : I 421 = W) (hW : WOk W) : Sp S m_X12_readDuty 21 0 0 [.ref 420] (hp I L w1 w2 t) (QH T e (dutP T e b W) I L w1 w2 t) nX := by
  have hd12 := hW.2.1
  refine Sp_of ok_X12_readDuty rfl rfl ?_
  show AW S m_X12_readDuty 21 _ _ 0 0 0 [some (.ref 420), none, none, none, none, none, none, none, none] [] (hp I L w1 w2 t)
  refine a_l0 rfl rfl rfl ?_
  refine a_eV1 rfl lX12_74 mo_X12_duties sp_X12_duties rfl rfl rfl ⟨12, _, rfl, rfl, rfl⟩ rfl ?_
  refine a_top (y := nI (dn W)) (by rw [h421]; exact hW.2.2.2) ?_
  refine a_s1 rfl rfl rfl rfl rfl rfl ?_
  refine a_l1 rfl rfl rfl ?_
  refine a_s rfl rfl ?_
  refine a_ic_ne rfl (fun c => ?_) (fun c => ?_)
  rotate_left
  · rw [show dutP T e b W = (false, b, W) from if_pos (hW.2.2.2.trans c)]
    refine a_s rfl rfl ?_
    exact a_zret rfl rfl rfl (QH.no Fm.rf h12)
  have h12' : ¬ W 1 = 12 := fun z => c (hW.2.2.2.symm.trans z)
  rw [show dutP T e b W = duA T e W (nbP T e 4 0 (W 0 - 1) (nx T e b)) from if_neg h12']
  refine a_l0 rfl rfl rfl ?_
  refine a_ldcs (q := 130 + 4) rfl (hw.ld (i := 4) (by decide)) ?_
  refine a_s rfl rfl ?_
  refine a_l0 rfl rfl rfl ?_
  refine a_eV1 rfl lX12_66 mo_X12_people sp_X12_people rfl rfl rfl ⟨12, _, rfl, rfl, rfl⟩ rfl ?_
  refine a_s rfl rfl ?_
  refine a_s rfl rfl ?_
  refine a_top (y := W 0 - 1) (by rw [h421]) ?_
  refine a_gV rfl lX12_117 mo_X12_numberBehind (h_numberBehind (k := 4) (lo := 0) (hi := W 0 - 1) hw hT (by decide) hq hn (by decide)) rfl rfl rfl ⟨12, _, rfl, rfl, rfl⟩ rfl (fun v' h' hv => ?_)
  obtain ⟨rfl, J1, p1, rfl, f1, g1, z1⟩ := hv
  have hx := nbP_ge0 (T := T) (e := e) (b := nx T e b) (k := 4) (lo := 0) (hi := W 0 - 1) (by decide)
  generalize nbP T e 4 0 (W 0 - 1) (nx T e b) = x at g1 z1 hx ⊢
  refine a_s2 rfl rfl rfl rfl rfl rfl ?_
  refine a_l2 rfl rfl rfl ?_
  refine a_if_ge rfl (fun c1 => ?_) (fun c1 => ?_)
  rotate_left
  · have e1 := hx.resolve_right c1
    rw [show duA T e W x = (false, x.2, W) from if_pos e1]
    refine a_s rfl rfl ?_
    refine a_goto rfl ?_
    refine a_s3 rfl rfl rfl rfl rfl rfl ?_
    refine a_l3 rfl rfl rfl ?_
    refine a_if_ge rfl (fun c => absurd c (by decide)) (fun _ => ?_)
    refine a_s rfl rfl ?_
    exact a_zret rfl rfl rfl (QH.no (Fm.mo f1 sR_sS) (z1 e1))
  have n1 : ¬ x.1 = -1 := fun z => by
    rw [z] at c1
    exact absurd c1 (by decide)
  obtain ⟨q1, b1⟩ := g1 n1
  rw [show duA T e W x = duB T e W x.1 (nbP T e 5 1 99 x.2) from if_neg n1]
  have eT1 : J1 426 = T := (funext fun k => f1 426 k rfl).trans hT
  refine a_l0 rfl rfl rfl ?_
  refine a_ldcs (q := 130 + 5) rfl (hw.ld (i := 5) (by decide)) ?_
  refine a_s rfl rfl ?_
  refine a_s rfl rfl ?_
  refine a_gV rfl lX12_117 mo_X12_numberBehind (h_numberBehind (k := 5) (lo := 1) (hi := 99) hw eT1 (by decide) q1 b1 (by decide)) rfl rfl rfl ⟨12, _, rfl, rfl, rfl⟩ rfl (fun v' h' hv => ?_)
  obtain ⟨rfl, J2, p2, rfl, f2, g2, z2⟩ := hv
  have hy := nbP_ge0 (T := T) (e := e) (b := x.2) (k := 5) (lo := 1) (hi := 99) (by decide)
  generalize nbP T e 5 1 99 x.2 = y at g2 z2 hy ⊢
  have f12 : Fm sS I J2 := Fm.mo (Fm.tr f1 f2) sR_sS
  refine a_s3 rfl rfl rfl rfl rfl rfl ?_
  refine a_l3 rfl rfl rfl ?_
  refine a_if_ge rfl (fun c2 => ?_) (fun c2 => ?_)
  rotate_left
  · have e2 := hy.resolve_right c2
    rw [show duB T e W x.1 y = (false, y.2, W) from if_pos e2]
    refine a_s rfl rfl ?_
    exact a_zret rfl rfl rfl (QH.no f12 (z2 e2))
  have n2 : ¬ y.1 = -1 := fun z => by
    rw [z] at c2
    exact absurd c2 (by decide)
  obtain ⟨q2, b2⟩ := g2 n2
  rw [show duB T e W x.1 y = duC T e W x.1 y.1 (optP T e 6 0 99 0 y.2) from if_neg n2]
  exact h_du51 hw hW h12' hT ⟨f12, q2, b2, (funext fun k => (Fm.tr f1 f2) 421 k rfl).trans h421⟩
theorem h_readStreetLine (hw : WdS S) (hT : I 426 = T) (h12 : I 420 12 = nI b) (hbp : b ≤ p) (hq : Pp e p I) (hp1 : p = rn T e 1 b) (h421 : I 421 = W) (hW : WOk W) : Sp S m_X12_readStreetLine 22 0 0 [.ref 420] (hp I L w1 w2 t) (QH T e (linP T e b W) I L w1 w2 t) nX := by
  have hi : ∀ k, k < 27 → isW (I 426) b (p - b) k = isWd T e b k := fun k hk => by
    rw [hT, hp1]
    exact isW_wd hk
  have hn : ∀ {k}, isWd T e b k = true → rn T e 4 p = nx T e b := fun {k} z => by
    rw [hp1, ← en_1 (of_decide_eq_true z).1]
    rfl
  refine Sp_of ok_X12_readStreetLine rfl rfl ?_
  show AW S m_X12_readStreetLine 22 _ _ 0 0 0 [some (.ref 420)] [] (hp I L w1 w2 t)
  refine a_l0 rfl rfl rfl ?_
  refine a_ldcs (q := 130 + 0) rfl (hw.ld (i := 0) (by decide)) ?_
  refine a_eV1 rfl lX12_109 mo_X12_isWord (h_isWord (k := 0) hw (by decide) h12 hbp hq) rfl rfl rfl ⟨12, _, rfl, rfl, rfl⟩ rfl ?_
  obtain ⟨z, cz⟩ : ∃ z, isWd T e b 0 = z := ⟨_, rfl⟩
  refine a_top (y := bI z) (congrArg bI ((hi 0 (by decide)).trans cz)) ?_
  cases z with
  | true =>
    refine a_if_eq rfl (fun z => absurd z (by decide)) (fun _ => ?_)
    rw [show linP T e b W = perP T e b W from if_pos cz]
    refine a_l0 rfl rfl rfl ?_
    refine a_gV rfl lX12_141 mo_X12_readPerson (h_readPerson hw hT hq (hn cz) h12 h421 hW) rfl rfl rfl ⟨12, _, rfl, rfl, rfl⟩ rfl (fun v' h' hv => ?_)
    obtain ⟨rfl, J, p', rfl, y, n⟩ := hv
    exact a_zret rfl rfl (bI_nar _) ⟨rfl, J, p', rfl, y, n⟩
  | false =>
  have n0 : ¬ isWd T e b 0 = true := by rw [cz]; exact Bool.false_ne_true
  clear cz
  refine a_if_eq rfl (fun _ => ?_) (fun z => absurd rfl z)
  refine a_l0 rfl rfl rfl ?_
  refine a_ldcs (q := 130 + 3) rfl (hw.ld (i := 3) (by decide)) ?_
  refine a_eV1 rfl lX12_109 mo_X12_isWord (h_isWord (k := 3) hw (by decide) h12 hbp hq) rfl rfl rfl ⟨12, _, rfl, rfl, rfl⟩ rfl ?_
  obtain ⟨z, cz⟩ : ∃ z, isWd T e b 3 = z := ⟨_, rfl⟩
  refine a_top (y := bI z) (congrArg bI ((hi 3 (by decide)).trans cz)) ?_
  cases z with
  | true =>
    refine a_if_eq rfl (fun z => absurd z (by decide)) (fun _ => ?_)
    rw [show linP T e b W = dutP T e b W from (if_neg n0).trans (if_pos cz)]
    refine a_l0 rfl rfl rfl ?_
    refine a_gV rfl lX12_147 mo_X12_readDuty (h_readDuty hw hT hq (hn cz) h12 h421 hW) rfl rfl rfl ⟨12, _, rfl, rfl, rfl⟩ rfl (fun v' h' hv => ?_)
    obtain ⟨rfl, J, p', rfl, y, n⟩ := hv
    exact a_zret rfl rfl (bI_nar _) ⟨rfl, J, p', rfl, y, n⟩
  | false =>
  have n3 : ¬ isWd T e b 3 = true := by rw [cz]; exact Bool.false_ne_true
  clear cz
  refine a_if_eq rfl (fun _ => ?_) (fun z => absurd rfl z)
  refine a_l0 rfl rfl rfl ?_
  refine a_ldcs (q := 130 + 9) rfl (hw.ld (i := 9) (by decide)) ?_
  refine a_eV1 rfl lX12_109 mo_X12_isWord (h_isWord (k := 9) hw (by decide) h12 hbp hq) rfl rfl rfl ⟨12, _, rfl, rfl, rfl⟩ rfl ?_
  obtain ⟨z, cz⟩ : ∃ z, isWd T e b 9 = z := ⟨_, rfl⟩
  refine a_top (y := bI z) (congrArg bI ((hi 9 (by decide)).trans cz)) ?_
  cases z with
  | true =>
    refine a_if_eq rfl (fun z => absurd z (by decide)) (fun _ => ?_)
    rw [show linP T e b W = forP T e (nx T e b) W from (if_neg n0).trans ((if_neg n3).trans (if_pos cz))]
    refine a_l0 rfl rfl rfl ?_
    refine a_gV rfl lX12_152 mo_X12_readForgotten (h_readForgotten (b := nx T e b) hT hq (hn cz) h421 hW) rfl rfl rfl ⟨12, _, rfl, rfl, rfl⟩ rfl (fun v' h' hv => ?_)
    obtain ⟨rfl, J, p', rfl, y, n⟩ := hv
    exact a_zret rfl rfl (bI_nar _) ⟨rfl, J, p', rfl, y, n⟩
  | false =>
  have n9 : ¬ isWd T e b 9 = true := by rw [cz]; exact Bool.false_ne_true
  clear cz
  refine a_if_eq rfl (fun _ => ?_) (fun z => absurd rfl z)
  refine a_l0 rfl rfl rfl ?_
  refine a_ldcs (q := 130 + 10) rfl (hw.ld (i := 10) (by decide)) ?_
  refine a_eV1 rfl lX12_109 mo_X12_isWord (h_isWord (k := 10) hw (by decide) h12 hbp hq) rfl rfl rfl ⟨12, _, rfl, rfl, rfl⟩ rfl ?_
  obtain ⟨z, cz⟩ : ∃ z, isWd T e b 10 = z := ⟨_, rfl⟩
  refine a_top (y := bI z) (congrArg bI ((hi 10 (by decide)).trans cz)) ?_
  cases z with
  | true =>
    refine a_if_eq rfl (fun z => absurd z (by decide)) (fun _ => ?_)
    rw [show linP T e b W = setP T e (nx T e b) W 6 0 100 from (if_neg n0).trans ((if_neg n3).trans ((if_neg n9).trans (if_pos cz)))]
    refine a_l0 rfl rfl rfl ?_
    refine a_s rfl rfl ?_
    refine a_s rfl rfl ?_
    refine a_s rfl rfl ?_
    refine a_gV rfl lX12_157 mo_X12_readNumber (h_readNumber (i := 6) (b := nx T e b) hT hq (hn cz) h421 (by decide) (by decide) (by decide)) rfl rfl rfl ⟨12, _, rfl, rfl, rfl⟩ rfl (fun v' h' hv => ?_)
    obtain ⟨rfl, J, p', rfl, y, n⟩ := hv
    exact a_zret rfl rfl (bI_nar _) ⟨rfl, J, p', rfl, y, n⟩
  | false =>
  have n10 : ¬ isWd T e b 10 = true := by rw [cz]; exact Bool.false_ne_true
  clear cz
  refine a_if_eq rfl (fun _ => ?_) (fun z => absurd rfl z)
  refine a_l0 rfl rfl rfl ?_
  refine a_ldcs (q := 130 + 11) rfl (hw.ld (i := 11) (by decide)) ?_
  refine a_eV1 rfl lX12_109 mo_X12_isWord (h_isWord (k := 11) hw (by decide) h12 hbp hq) rfl rfl rfl ⟨12, _, rfl, rfl, rfl⟩ rfl ?_
  obtain ⟨z, cz⟩ : ∃ z, isWd T e b 11 = z := ⟨_, rfl⟩
  refine a_top (y := bI z) (congrArg bI ((hi 11 (by decide)).trans cz)) ?_
  cases z with
  | true =>
    refine a_if_eq rfl (fun z => absurd z (by decide)) (fun _ => ?_)
    rw [show linP T e b W = setP T e (nx T e b) W 7 1 9 from (if_neg n0).trans ((if_neg n3).trans ((if_neg n9).trans ((if_neg n10).trans (if_pos cz))))]
    refine a_l0 rfl rfl rfl ?_
    refine a_s rfl rfl ?_
    refine a_s rfl rfl ?_
    refine a_s rfl rfl ?_
    refine a_gV rfl lX12_157 mo_X12_readNumber (h_readNumber (i := 7) (b := nx T e b) hT hq (hn cz) h421 (by decide) (by decide) (by decide)) rfl rfl rfl ⟨12, _, rfl, rfl, rfl⟩ rfl (fun v' h' hv => ?_)
    obtain ⟨rfl, J, p', rfl, y, n⟩ := hv
    exact a_zret rfl rfl (bI_nar _) ⟨rfl, J, p', rfl, y, n⟩
  | false =>
  have n11 : ¬ isWd T e b 11 = true := by rw [cz]; exact Bool.false_ne_true
  clear cz
  refine a_if_eq rfl (fun _ => ?_) (fun z => absurd rfl z)
  refine a_l0 rfl rfl rfl ?_
  refine a_ldcs (q := 130 + 12) rfl (hw.ld (i := 12) (by decide)) ?_
  refine a_eV1 rfl lX12_109 mo_X12_isWord (h_isWord (k := 12) hw (by decide) h12 hbp hq) rfl rfl rfl ⟨12, _, rfl, rfl, rfl⟩ rfl ?_
  obtain ⟨z, cz⟩ : ∃ z, isWd T e b 12 = z := ⟨_, rfl⟩
  refine a_top (y := bI z) (congrArg bI ((hi 12 (by decide)).trans cz)) ?_
  cases z with
  | true =>
    refine a_if_eq rfl (fun z => absurd z (by decide)) (fun _ => ?_)
    rw [show linP T e b W = setP T e (nx T e b) W 8 0 50 from (if_neg n0).trans ((if_neg n3).trans ((if_neg n9).trans ((if_neg n10).trans ((if_neg n11).trans (if_pos cz)))))]
    refine a_l0 rfl rfl rfl ?_
    refine a_s rfl rfl ?_
    refine a_s rfl rfl ?_
    refine a_s rfl rfl ?_
    refine a_gV rfl lX12_157 mo_X12_readNumber (h_readNumber (i := 8) (b := nx T e b) hT hq (hn cz) h421 (by decide) (by decide) (by decide)) rfl rfl rfl ⟨12, _, rfl, rfl, rfl⟩ rfl (fun v' h' hv => ?_)
    obtain ⟨rfl, J, p', rfl, y, n⟩ := hv
    exact a_zret rfl rfl (bI_nar _) ⟨rfl, J, p', rfl, y, n⟩
  | false =>
  have n12 : ¬ isWd T e b 12 = true := by rw [cz]; exact Bool.false_ne_true
  clear cz
  refine a_if_eq rfl (fun _ => ?_) (fun z => absurd rfl z)
  refine a_l0 rfl rfl rfl ?_
  refine a_ldcs (q := 130 + 13) rfl (hw.ld (i := 13) (by decide)) ?_
  refine a_eV1 rfl lX12_109 mo_X12_isWord (h_isWord (k := 13) hw (by decide) h12 hbp hq) rfl rfl rfl ⟨12, _, rfl, rfl, rfl⟩ rfl ?_
  obtain ⟨z, cz⟩ : ∃ z, isWd T e b 13 = z := ⟨_, rfl⟩
  refine a_top (y := bI z) (congrArg bI ((hi 13 (by decide)).trans cz)) ?_
  cases z with
  | true =>
    refine a_if_eq rfl (fun z => absurd z (by decide)) (fun _ => ?_)
    rw [show linP T e b W = setP T e (nx T e b) W 4 1 30 from (if_neg n0).trans ((if_neg n3).trans ((if_neg n9).trans ((if_neg n10).trans ((if_neg n11).trans ((if_neg n12).trans (if_pos cz))))))]
    refine a_l0 rfl rfl rfl ?_
    refine a_s rfl rfl ?_
    refine a_s rfl rfl ?_
    refine a_s rfl rfl ?_
    refine a_gV rfl lX12_157 mo_X12_readNumber (h_readNumber (i := 4) (b := nx T e b) hT hq (hn cz) h421 (by decide) (by decide) (by decide)) rfl rfl rfl ⟨12, _, rfl, rfl, rfl⟩ rfl (fun v' h' hv => ?_)
    obtain ⟨rfl, J, p', rfl, y, n⟩ := hv
    exact a_zret rfl rfl (bI_nar _) ⟨rfl, J, p', rfl, y, n⟩
  | false =>
  have n13 : ¬ isWd T e b 13 = true := by rw [cz]; exact Bool.false_ne_true
  clear cz
  refine a_if_eq rfl (fun _ => ?_) (fun z => absurd rfl z)
  refine a_l0 rfl rfl rfl ?_
  refine a_ldcs (q := 130 + 14) rfl (hw.ld (i := 14) (by decide)) ?_
  refine a_eV1 rfl lX12_109 mo_X12_isWord (h_isWord (k := 14) hw (by decide) h12 hbp hq) rfl rfl rfl ⟨12, _, rfl, rfl, rfl⟩ rfl ?_
  obtain ⟨z, cz⟩ : ∃ z, isWd T e b 14 = z := ⟨_, rfl⟩
  refine a_top (y := bI z) (congrArg bI ((hi 14 (by decide)).trans cz)) ?_
  cases z with
  | true =>
    refine a_if_eq rfl (fun z => absurd z (by decide)) (fun _ => ?_)
    rw [show linP T e b W = setP T e (nx T e b) W 5 0 999 from (if_neg n0).trans ((if_neg n3).trans ((if_neg n9).trans ((if_neg n10).trans ((if_neg n11).trans ((if_neg n12).trans ((if_neg n13).trans (if_pos cz)))))))]
    refine a_l0 rfl rfl rfl ?_
    refine a_s rfl rfl ?_
    refine a_s rfl rfl ?_
    refine a_s rfl rfl ?_
    refine a_gV rfl lX12_157 mo_X12_readNumber (h_readNumber (i := 5) (b := nx T e b) hT hq (hn cz) h421 (by decide) (by decide) (by decide)) rfl rfl rfl ⟨12, _, rfl, rfl, rfl⟩ rfl (fun v' h' hv => ?_)
    obtain ⟨rfl, J, p', rfl, y, n⟩ := hv
    generalize setP T e (nx T e b) W 5 0 999 = r at y n ⊢
    obtain ⟨z, b', W'⟩ := r
    cases z with
    | false =>
      refine a_if_eq rfl (fun _ => ?_) (fun z => absurd rfl z)
      refine a_s rfl rfl ?_
      exact a_zret rfl rfl rfl ⟨rfl, J, p', rfl, y, n⟩
    | true =>
      refine a_if_eq rfl (fun z => absurd (show (1 : Int32) = 0 from z) (by decide)) (fun _ => ?_)
      refine a_s rfl rfl ?_
      refine a_goto rfl ?_
      exact a_zret rfl rfl rfl ⟨rfl, J, p', rfl, y, n⟩
  | false =>
  have n14 : ¬ isWd T e b 14 = true := by rw [cz]; exact Bool.false_ne_true
  clear cz
  refine a_if_eq rfl (fun _ => ?_) (fun z => absurd rfl z)
  refine a_s rfl rfl ?_
  rw [show linP T e b W = (false, b, W) from (if_neg n0).trans ((if_neg n3).trans ((if_neg n9).trans ((if_neg n10).trans ((if_neg n11).trans ((if_neg n12).trans ((if_neg n13).trans (if_neg n14)))))))]
  exact a_zret rfl rfl rfl (QH.no Fm.rf h12)
theorem h_readLineS (hw : WdS S) (hT : I 426 = T) (hq : Pp e p I) (hb : rn T e 4 p = b) (h421 : I 421 = W) (hW : WOk W) {i : Nat} (hi : i ≤ 14) : Sp S m_X12_readLine 60 0 0 [.ref 420, .int (bI true), .int (nI i)] (hp I L w1 w2 t) (QH T e (if i < 14 then linP T e b W else (false, b, W)) I L w1 w2 t) nX := by
  refine Sp_of ok_X12_readLine rfl rfl ?_
  show AW S m_X12_readLine 60 _ _ 0 0 0 [some (.ref 420), some (.int (bI true)), some (.int (nI i))] [] (hp I L w1 w2 t)
  refine a_l0 rfl rfl rfl ?_
  refine a_gV rfl lX12_106 mo_X12_letters (h_letters hq) rfl rfl rfl ⟨12, _, rfl, rfl, rfl⟩ rfl (fun v' h' hv => ?_)
  obtain ⟨rfl, J, rfl, h1⟩ := hv
  rw [hT, hb] at h1
  have f1 : Fm sS I J := Fm.mo (Rd.fm h1) sR_sS
  refine a_l2 rfl rfl rfl ?_
  refine a_l1 rfl rfl rfl ?_
  refine a_if_eq rfl (fun c => absurd c (by decide)) (fun _ => ?_)
  refine a_s rfl rfl ?_
  refine a_goto rfl ?_
  refine a_ic_ge rfl (fun c => ?_) (fun c => ?_)
  · have n14 := nI_ge_of (b := 14) c (by omega) (by decide)
    rw [if_neg (Nat.not_lt.mpr n14)]
    refine a_s rfl rfl ?_
    exact a_zret rfl rfl rfl (QH.no f1 (Rd.be h1))
  have i14 := nI_lt_of (b := 14) c (by omega) (by decide)
  rw [if_pos i14]
  refine a_l1 rfl rfl rfl ?_
  refine a_if_eq rfl (fun c => absurd c (by decide)) (fun _ => ?_)
  refine a_l0 rfl rfl rfl ?_
  refine a_gV rfl lX12_226 mo_X12_readStreetLine (h_readStreetLine hw ((Rd.T h1).trans hT) (Rd.be h1) (Rd.bp h1) (Rd.pp h1) rfl ((Rd.w h1).trans h421) hW) rfl rfl rfl ⟨12, _, rfl, rfl, rfl⟩ rfl (fun v' h' hv => ?_)
  replace hv := QH.be f1 hv
  obtain ⟨rfl, J2, p2, rfl, y, n⟩ := hv
  generalize linP T e b W = r at y n ⊢
  obtain ⟨z, b', W'⟩ := r
  cases z with
  | false =>
    refine a_if_eq rfl (fun _ => ?_) (fun z => absurd rfl z)
    refine a_s rfl rfl ?_
    exact a_zret rfl rfl rfl ⟨rfl, J2, p2, rfl, y, n⟩
  | true =>
    refine a_if_eq rfl (fun z => absurd (show (1 : Int32) = 0 from z) (by decide)) (fun _ => ?_)
    refine a_goto rfl ?_
    refine a_s rfl rfl ?_
    refine a_goto rfl ?_
    exact a_zret rfl rfl rfl ⟨rfl, J2, p2, rfl, y, n⟩
end T79o
end
section
/-! ===== the ranges of a street's numbers; lines of a text keep them ===== -/
section P79p
def Nb (x : Int32) (m : Nat) : Prop := ∃ k, k ≤ m ∧ x = nI k
def Nc (x : Int32) (l m : Nat) : Prop := ∃ k, l ≤ k ∧ k ≤ m ∧ x = nI k
/-- a person -/
def RgP (W : Nat → Int32) (p : Nat) : Prop := Nb (W (11 + 2 * p)) 15 ∧ Nb (W (11 + 2 * p + 1)) 9
/-- a duty: done, if none is left -/
def RgD (np nd : Nat) (W : Nat → Int32) (d : Nat) : Prop := (∃ j, j < np ∧ W (23 + 6 * d + 0) = nI j) ∧ (∃ l, l ≤ 99 ∧ W (23 + 6 * d + 1) = nI l ∧ (W (23 + 6 * d + 5) = 1 ↔ l = 0)) ∧ Nb (W (23 + 6 * d + 2)) 99 ∧ (W (23 + 6 * d + 3) = -1 ∨ Nb (W (23 + 6 * d + 3)) 5) ∧ (W (23 + 6 * d + 4) = -1 ∨ ∃ k, k < nd ∧ W (23 + 6 * d + 4) = nI k) ∧ Nb (W (23 + 6 * d + 5)) 2
def RgF (W : Nat → Int32) : Prop := Nb (W 2) 12 ∧ Nc (W 4) 1 30 ∧ Nb (W 5) 9999 ∧ Nb (W 6) 100 ∧ Nc (W 7) 1 9 ∧ Nb (W 8) 50
def Rg (W : Nat → Int32) : Prop := WOk W ∧ RgF W ∧ (∀ p, p < pn W → RgP W p) ∧ ∀ d, d < dn W → RgD (pn W) (dn W) W d
variable {T : Nat → Int32} {e b : Nat} {W : Nat → Int32}
theorem RgP.eq {W' : Nat → Int32} {p : Nat} (h : RgP W p) (e0 : W' (11 + 2 * p) = W (11 + 2 * p)) (e1 : W' (11 + 2 * p + 1) = W (11 + 2 * p + 1)) : RgP W' p := by
  unfold RgP
  rw [e0, e1]
  exact h
theorem RgD.eq {W' : Nat → Int32} {np nd d : Nat} (h : RgD np nd W d) (f : ∀ k, k < 6 → W' (23 + 6 * d + k) = W (23 + 6 * d + k)) : RgD np nd W' d := by
  unfold RgD
  rw [f 0 (by decide), f 1 (by decide), f 2 (by decide), f 3 (by decide), f 4 (by decide), f 5 (by decide)]
  exact h
theorem RgD.mo {np nd np' nd' d : Nat} (h : RgD np nd W d) (h1 : np ≤ np') (h2 : nd ≤ nd') : RgD np' nd' W d := by
  obtain ⟨⟨j, a1, a2⟩, a3, a4, a5, a6, a7⟩ := h
  refine ⟨⟨j, by omega, a2⟩, a3, a4, a5, ?_, a7⟩
  rcases a6 with z | ⟨k, z1, z2⟩
  · exact Or.inl z
  · exact Or.inr ⟨k, by omega, z2⟩
theorem RgF.eq {W' : Nat → Int32} (h : RgF W) (f : ∀ k, k < 9 → 2 ≤ k → W' k = W k) : RgF W' := by
  unfold RgF
  rw [f 2 (by decide) (by decide), f 4 (by decide) (by decide), f 5 (by decide) (by decide), f 6 (by decide) (by decide), f 7 (by decide) (by decide), f 8 (by decide) (by decide)]
  exact h
theorem Rg.of {np nd : Nat} (h1 : np ≤ 6) (h2 : nd ≤ 12) (h3 : W 0 = nI np) (h4 : W 1 = nI nd) (h5 : RgF W) (h6 : ∀ p, p < np → RgP W p) (h7 : ∀ d, d < nd → RgD np nd W d) : Rg W := by
  obtain ⟨w, e0, e1⟩ := WOk.of h1 h2 h3 h4
  refine ⟨w, h5, fun p hp => h6 p (by omega), fun d hd => ?_⟩
  rw [e0, e1]
  exact h7 d (by omega)
theorem Rg.so (h : Rg W) : SO (dn W) (pn W) W := by
  obtain ⟨⟨h1, h2, h3, h4⟩, ⟨-, -, -, -, ⟨k7, k71, k79, k7e⟩, -⟩, -, h7⟩ := h
  refine ⟨h2, h1, h4, h3, fun d hd => (h7 d hd).2.2.2.2.1, fun d hd => (h7 d hd).1, fun d hd => ?_, fun z => ?_⟩
  · rcases (h7 d hd).2.2.2.1 with z | ⟨k, z1, z2⟩
    · exact Or.inl z
    · exact Or.inr ⟨k, by omega, z2⟩
  · rw [k7e] at z
    have := (nI_eq0 (a := k7) (by omega)).mp z
    omega
theorem Rg.fr (h : Rg W) : FrW (pn W) W := fun p hp => by
  obtain ⟨k, k1, k2⟩ := (h.2.2.1 p hp).2
  exact ⟨k, k1, k2⟩
theorem nm_rg {l m : Nat} (hm : m < 2 ^ 31) (hl : l ≤ m) (h : ¬ nm T e b (nI l) (nI m) = -1) : Nc (nm T e b (nI l) (nI m)) l m := by
  obtain ⟨h1, h2, -, -⟩ := nm_in h
  generalize nm T e b (nI l) (nI m) = v at h1 h2 ⊢
  rw [Int32.le_iff_toInt_le, nI_toInt (by omega)] at h1 h2
  refine ⟨v.toInt.toNat, by omega, by omega, ?_⟩
  rw [← Int32.toInt_inj, nI_toInt (by omega)]
  omega
theorem Nc.nb {x : Int32} {l m : Nat} (h : Nc x l m) : Nb x m := by
  obtain ⟨k, -, k2, k3⟩ := h
  exact ⟨k, k2, k3⟩
theorem nbP_in {k : Nat} {lo hi : Int32} (h : ¬ (nbP T e k lo hi b).1 = -1) : (nbP T e k lo hi b).1 = nm T e (nx T e b) lo hi ∧ ¬ nm T e (nx T e b) lo hi = -1 := by
  unfold nbP at h ⊢
  by_cases c : isWd T e b k = true
  · rw [if_pos c] at h ⊢
    by_cases c2 : nm T e (nx T e b) lo hi = -1
    · rw [if_pos c2] at h
      exact absurd rfl h
    · rw [if_neg c2]
      exact ⟨rfl, c2⟩
  · rw [if_neg c] at h
    exact absurd rfl h
theorem optP_in {k : Nat} {lo hi d : Int32} (h : (optP T e k lo hi d b).1 = true) : (optP T e k lo hi d b).2.1 = d ∨ ((optP T e k lo hi d b).2.1 = nm T e (nx T e b) lo hi ∧ ¬ nm T e (nx T e b) lo hi = -1) := by
  unfold optP at h ⊢
  by_cases c : isWd T e b k = true
  · rw [if_pos c] at h ⊢
    by_cases c2 : nm T e (nx T e b) lo hi = -1
    · rw [if_pos c2] at h
      cases h
    · rw [if_neg c2]
      exact Or.inr ⟨rfl, c2⟩
  · rw [if_neg c]
    exact Or.inl rfl
theorem addPs_rg (h : Rg W) (h6 : ¬ W 0 = 6) {x y : Int32} (hx : Nb x 15) (hy : Nb y 9) : Rg (addPs W x y) := by
  obtain ⟨⟨h1, h2, h3, h4⟩, hf, hp, hd⟩ := h
  have n6 : pn W ≠ 6 := fun z => h6 (by rw [h3, z]; rfl)
  have e : ∀ k, k ≠ 0 → k ≠ 11 + 2 * pn W → k ≠ 11 + 2 * pn W + 1 → addPs W x y k = W k := fun k z0 z1 z2 => by
    show ud (ud (ud W (11 + 2 * pn W) x) (11 + 2 * pn W + 1) y) 0 (nI (pn W + 1)) k = _
    rw [ud_ne z0, ud_ne z2, ud_ne z1]
  refine Rg.of (np := pn W + 1) (nd := dn W) (by omega) h2 ud_at ((e 1 (by decide) (by omega) (by omega)).trans h4) (hf.eq fun k z1 z2 => e k (by omega) (by omega) (by omega)) (fun p z => ?_) (fun d z => ?_)
  · by_cases c : p = pn W
    · subst c
      refine ⟨?_, ?_⟩
      · rw [show addPs W x y (11 + 2 * pn W) = x by show ud (ud (ud W (11 + 2 * pn W) x) (11 + 2 * pn W + 1) y) 0 (nI (pn W + 1)) _ = _; rw [ud_ne (by omega), ud_ne (by omega), ud_at]]
        exact hx
      · rw [show addPs W x y (11 + 2 * pn W + 1) = y by show ud (ud (ud W (11 + 2 * pn W) x) (11 + 2 * pn W + 1) y) 0 (nI (pn W + 1)) _ = _; rw [ud_ne (by omega), ud_at]]
        exact hy
    · exact (hp p (by omega)).eq (e _ (by omega) (by omega) (by omega)) (e _ (by omega) (by omega) (by omega))
  · exact ((hd d z).eq fun k hk => e _ (by omega) (by omega) (by omega)).mo (by omega) (Nat.le_refl _)
theorem addDt_rg (h : Rg W) (h12 : ¬ W 1 = 12) {o l a t n : Int32} (ho : ∃ j, j < pn W ∧ o = nI j) (hl : Nc l 1 99) (ha : Nb a 99) (ht : t = -1 ∨ Nb t 5) (hn : n = -1 ∨ ∃ k, k < dn W ∧ n = nI k) : Rg (addDt W o l a t n) := by
  obtain ⟨⟨h1, h2, h3, h4⟩, hf, hp, hd⟩ := h
  have n12 : dn W ≠ 12 := fun z => h12 (by rw [h4, z]; rfl)
  have e : ∀ k, k ≠ 1 → (∀ i, i < 6 → k ≠ 23 + 6 * dn W + i) → addDt W o l a t n k = W k := fun k z0 z => by
    have z1 := z 0 (by decide)
    have z2 := z 1 (by decide)
    have z3 := z 2 (by decide)
    have z4 := z 3 (by decide)
    have z5 := z 4 (by decide)
    have z6 := z 5 (by decide)
    unfold addDt
    rw [ud_ne z0, ud_ne z6, ud_ne z5, ud_ne z4, ud_ne z3, ud_ne z2, ud_ne z1]
  refine Rg.of (np := pn W) (nd := dn W + 1) h1 (by omega) ((e 0 (by decide) (fun i hi => by omega)).trans h3) ud_at (hf.eq fun k z1 z2 => e k (by omega) (fun i hi => by omega)) (fun p z => ?_) (fun d z => ?_)
  · exact (hp p z).eq (e _ (by omega) (fun i hi => by omega)) (e _ (by omega) (fun i hi => by omega))
  · by_cases c : d = dn W
    · subst c
      have f0 : addDt W o l a t n (23 + 6 * dn W + 0) = o := by unfold addDt; rw [ud_ne (by omega), ud_ne (by omega), ud_ne (by omega), ud_ne (by omega), ud_ne (by omega), ud_ne (by omega), ud_at]
      have f1 : addDt W o l a t n (23 + 6 * dn W + 1) = l := by unfold addDt; rw [ud_ne (by omega), ud_ne (by omega), ud_ne (by omega), ud_ne (by omega), ud_ne (by omega), ud_at]
      have f2 : addDt W o l a t n (23 + 6 * dn W + 2) = a := by unfold addDt; rw [ud_ne (by omega), ud_ne (by omega), ud_ne (by omega), ud_ne (by omega), ud_at]
      have f3 : addDt W o l a t n (23 + 6 * dn W + 3) = t := by unfold addDt; rw [ud_ne (by omega), ud_ne (by omega), ud_ne (by omega), ud_at]
      have f4 : addDt W o l a t n (23 + 6 * dn W + 4) = n := by unfold addDt; rw [ud_ne (by omega), ud_ne (by omega), ud_at]
      have f5 : addDt W o l a t n (23 + 6 * dn W + 5) = 0 := by unfold addDt; rw [ud_ne (by omega), ud_at]
      unfold RgD
      rw [f0, f1, f2, f3, f4, f5]
      obtain ⟨k, k1, k2, k3⟩ := hl
      refine ⟨ho, ⟨k, k2, k3, ⟨fun z => absurd z (by decide), fun z => by omega⟩⟩, ha, ht, ?_, ⟨0, by decide, rfl⟩⟩
      rcases hn with z | ⟨k, z1, z2⟩
      · exact Or.inl z
      · exact Or.inr ⟨k, by omega, z2⟩
    · exact ((hd d (by omega)).eq fun k hk => e _ (by omega) (fun i hi => by omega)).mo (Nat.le_refl _) (by omega)
theorem perP_rg (h : Rg W) (hz : (perP T e b W).1 = true) : Rg (perP T e b W).2.2 := by
  unfold perP at hz ⊢
  by_cases c : W 0 = 6
  · rw [if_pos c] at hz
    cases hz
  rw [if_neg c] at hz ⊢
  unfold perB at hz ⊢
  by_cases c2 : (nbP T e 1 0 15 (nx T e b)).1 = -1
  · rw [if_pos c2] at hz
    cases hz
  rw [if_neg c2] at hz ⊢
  unfold perC at hz ⊢
  by_cases c3 : (nbP T e 2 0 9 (nbP T e 1 0 15 (nx T e b)).2).1 = -1
  · rw [if_pos c3] at hz
    cases hz
  rw [if_neg c3] at hz ⊢
  obtain ⟨i1, i2⟩ := nbP_in c2
  obtain ⟨j1, j2⟩ := nbP_in c3
  refine addPs_rg h c ?_ ?_
  · rw [i1]
    exact Nc.nb (nm_rg (l := 0) (m := 15) (by decide) (by decide) i2)
  · rw [j1]
    exact Nc.nb (nm_rg (l := 0) (m := 9) (by decide) (by decide) j2)
theorem dutP_rg (h : Rg W) (hz : (dutP T e b W).1 = true) : Rg (dutP T e b W).2.2 := by
  have hw := h.1
  unfold dutP at hz ⊢
  by_cases c : W 1 = 12
  · rw [if_pos c] at hz
    cases hz
  rw [if_neg c] at hz ⊢
  have i1 := nbP_in (T := T) (e := e) (b := nx T e b) (k := 4) (lo := 0) (hi := W 0 - 1)
  have i2 := nm_ix (T := T) (e := e) (b := nx T e (nx T e b)) (n := pn W) (by have := hw.1; omega)
  rw [← hw.2.2.1] at i2
  generalize nbP T e 4 0 (W 0 - 1) (nx T e b) = x at hz i1 ⊢
  unfold duA at hz ⊢
  by_cases c2 : x.1 = -1
  · rw [if_pos c2] at hz
    cases hz
  rw [if_neg c2] at hz ⊢
  obtain ⟨i3, i4⟩ := i1 c2
  have j1 := nbP_in (T := T) (e := e) (b := x.2) (k := 5) (lo := 1) (hi := 99)
  have j2 := nm_rg (T := T) (e := e) (b := nx T e x.2) (l := 1) (m := 99) (by decide) (by decide)
  generalize nbP T e 5 1 99 x.2 = y at hz j1 ⊢
  unfold duB at hz ⊢
  by_cases c3 : y.1 = -1
  · rw [if_pos c3] at hz
    cases hz
  rw [if_neg c3] at hz ⊢
  obtain ⟨j3, j4⟩ := j1 c3
  have k1 := optP_in (T := T) (e := e) (b := y.2) (k := 6) (lo := 0) (hi := 99) (d := 0)
  have k2 := nm_rg (T := T) (e := e) (b := nx T e y.2) (l := 0) (m := 99) (by decide) (by decide)
  generalize optP T e 6 0 99 0 y.2 = u at hz k1 ⊢
  unfold duC at hz ⊢
  by_cases c4 : u.1 = true
  rotate_left
  · rw [if_neg c4] at hz
    cases hz
  rw [if_pos c4] at hz ⊢
  have l1 := optP_in (T := T) (e := e) (b := u.2.2) (k := 7) (lo := 0) (hi := 5) (d := -1)
  have l2 := nm_rg (T := T) (e := e) (b := nx T e u.2.2) (l := 0) (m := 5) (by decide) (by decide)
  generalize optP T e 7 0 5 (-1) u.2.2 = v at hz l1 ⊢
  unfold duD at hz ⊢
  by_cases c5 : v.1 = true
  rotate_left
  · rw [if_neg c5] at hz
    cases hz
  rw [if_pos c5] at hz ⊢
  have m1 := optP_in (T := T) (e := e) (b := v.2.2) (k := 8) (lo := 0) (hi := W 1 - 1) (d := -1)
  have m2 := nm_ix (T := T) (e := e) (b := nx T e v.2.2) (n := dn W) hw.2.1
  rw [← hw.2.2.2] at m2
  generalize optP T e 8 0 (W 1 - 1) (-1) v.2.2 = w at hz m1 ⊢
  unfold duE at hz ⊢
  by_cases c6 : w.1 = true
  rotate_left
  · rw [if_neg c6] at hz
    cases hz
  rw [if_pos c6] at hz ⊢
  refine addDt_rg h c ?_ ?_ ?_ ?_ ?_
  · rw [i3]
    exact i2 i4
  · rw [j3]
    exact j2 j4
  · rcases k1 c4 with z | ⟨z1, z2⟩
    · exact ⟨0, by decide, z⟩
    · rw [z1]
      exact Nc.nb (k2 z2)
  · rcases l1 c5 with z | ⟨z1, z2⟩
    · exact Or.inl z
    · rw [z1]
      exact Or.inr (Nc.nb (l2 z2))
  · rcases m1 c6 with z | ⟨z1, z2⟩
    · exact Or.inl z
    · rw [z1]
      exact Or.inr (m2 z2)
theorem forP_rg (h : Rg W) (hz : (forP T e b W).1 = true) : Rg (forP T e b W).2.2 := by
  unfold forP at hz ⊢
  by_cases c : nm T e b 0 (W 1 - 1) = -1
  · rw [if_pos c] at hz
    cases hz
  rw [if_neg c] at hz ⊢
  obtain ⟨⟨h1, h2, h3, h4⟩, hf, hp, hd⟩ := h
  obtain ⟨j, hj, ej⟩ := nm_ix h2 (by rw [← h4]; exact c)
  rw [← h4] at ej
  rw [ej, nI_clamp (by omega)] at hz ⊢
  by_cases c2 : W (23 + 6 * j + 5) = 0
  rotate_left
  · rw [if_neg c2] at hz
    cases hz
  rw [if_pos c2] at hz ⊢
  have e : ∀ k, k ≠ 23 + 6 * j + 5 → ud W (23 + 6 * j + 5) 2 k = W k := fun k hk => ud_ne hk
  refine Rg.of h1 h2 ((e 0 (by omega)).trans h3) ((e 1 (by omega)).trans h4) (hf.eq fun k z1 z2 => e k (by omega)) (fun p z => (hp p z).eq (e _ (by omega)) (e _ (by omega))) (fun d z => ?_)
  by_cases cd : d = j
  · subst cd
    obtain ⟨a1, ⟨l, a2, a3, a4⟩, a5, a6, a7, a8⟩ := hd d hj
    show RgD (pn W) (dn W) (ud W (23 + 6 * d + 5) 2) d
    unfold RgD
    rw [e (23 + 6 * d + 0) (by omega), e (23 + 6 * d + 1) (by omega), e (23 + 6 * d + 2) (by omega), e (23 + 6 * d + 3) (by omega), e (23 + 6 * d + 4) (by omega)]
    show _ ∧ (∃ l, l ≤ 99 ∧ _ ∧ (ud W (23 + 6 * d + 5) 2 (23 + 6 * d + 5) = 1 ↔ l = 0)) ∧ _ ∧ _ ∧ _ ∧ Nb (ud W (23 + 6 * d + 5) 2 (23 + 6 * d + 5)) 2
    rw [ud_at]
    refine ⟨a1, ⟨l, a2, a3, ⟨fun z => absurd z (by decide), fun z => ?_⟩⟩, a5, a6, a7, ⟨2, Nat.le_refl _, rfl⟩⟩
    have := a4.mpr z
    rw [c2] at this
    exact absurd this (by decide)
  · exact (hd d z).eq fun k hk => e _ (by omega)
theorem setP_rg (h : Rg W) {g : Nat} {l m : Nat} (hm : m < 2 ^ 31) (hl : l ≤ m) (hg : 2 ≤ g) (hg2 : g < 9) (hr : ∀ v, Nc v l m → RgF (ud W g v)) (hz : (setP T e b W g (nI l) (nI m)).1 = true) : Rg (setP T e b W g (nI l) (nI m)).2.2 := by
  unfold setP at hz ⊢
  by_cases c : nm T e b (nI l) (nI m) = -1
  · rw [if_pos c] at hz
    cases hz
  rw [if_neg c]
  obtain ⟨⟨h1, h2, h3, h4⟩, hf, hp, hd⟩ := h
  have e : ∀ k, k ≠ g → ud W g (nm T e b (nI l) (nI m)) k = W k := fun k hk => ud_ne hk
  exact Rg.of h1 h2 ((e 0 (by omega)).trans h3) ((e 1 (by omega)).trans h4) (hr _ (nm_rg hm hl c)) (fun p z => (hp p z).eq (e _ (by omega)) (e _ (by omega))) (fun d z => (hd d z).eq fun k hk => e _ (by omega))
theorem stgP_rg (h : Rg W) (hz : (stgP T e b W).1 = true) : Rg (stgP T e b W).2.2 := by
  obtain ⟨f2, f4, f5, f6, f7, f8⟩ := h.2.1
  have u : ∀ {g k : Nat} {v : Int32}, k ≠ g → ud W g v k = W k := fun z => ud_ne z
  unfold stgP at hz ⊢
  by_cases c : isWd T e b 10 = true
  · rw [if_pos c] at hz ⊢
    refine setP_rg (l := 0) (m := 100) h (by decide) (by decide) (by decide) (by decide) (fun v hv => ?_) hz
    unfold RgF
    rw [u (show 2 ≠ 6 by decide), u (show 4 ≠ 6 by decide), u (show 5 ≠ 6 by decide), ud_at, u (show 7 ≠ 6 by decide), u (show 8 ≠ 6 by decide)]
    exact ⟨f2, f4, f5, Nc.nb hv, f7, f8⟩
  rw [if_neg c] at hz ⊢
  by_cases c : isWd T e b 11 = true
  · rw [if_pos c] at hz ⊢
    refine setP_rg (l := 1) (m := 9) h (by decide) (by decide) (by decide) (by decide) (fun v hv => ?_) hz
    unfold RgF
    rw [u (show 2 ≠ 7 by decide), u (show 4 ≠ 7 by decide), u (show 5 ≠ 7 by decide), u (show 6 ≠ 7 by decide), ud_at, u (show 8 ≠ 7 by decide)]
    exact ⟨f2, f4, f5, f6, hv, f8⟩
  rw [if_neg c] at hz ⊢
  by_cases c : isWd T e b 12 = true
  · rw [if_pos c] at hz ⊢
    refine setP_rg (l := 0) (m := 50) h (by decide) (by decide) (by decide) (by decide) (fun v hv => ?_) hz
    unfold RgF
    rw [u (show 2 ≠ 8 by decide), u (show 4 ≠ 8 by decide), u (show 5 ≠ 8 by decide), u (show 6 ≠ 8 by decide), u (show 7 ≠ 8 by decide), ud_at]
    exact ⟨f2, f4, f5, f6, f7, Nc.nb hv⟩
  rw [if_neg c] at hz ⊢
  by_cases c : isWd T e b 13 = true
  · rw [if_pos c] at hz ⊢
    refine setP_rg (l := 1) (m := 30) h (by decide) (by decide) (by decide) (by decide) (fun v hv => ?_) hz
    unfold RgF
    rw [u (show 2 ≠ 4 by decide), ud_at, u (show 5 ≠ 4 by decide), u (show 6 ≠ 4 by decide), u (show 7 ≠ 4 by decide), u (show 8 ≠ 4 by decide)]
    exact ⟨f2, hv, f5, f6, f7, f8⟩
  rw [if_neg c] at hz ⊢
  by_cases c : isWd T e b 14 = true
  · rw [if_pos c] at hz ⊢
    refine setP_rg (l := 0) (m := 999) h (by decide) (by decide) (by decide) (by decide) (fun v hv => ?_) hz
    unfold RgF
    rw [u (show 2 ≠ 5 by decide), u (show 4 ≠ 5 by decide), ud_at, u (show 6 ≠ 5 by decide), u (show 7 ≠ 5 by decide), u (show 8 ≠ 5 by decide)]
    obtain ⟨k, k1, k2, k3⟩ := hv
    exact ⟨f2, f4, ⟨k, by omega, k3⟩, f6, f7, f8⟩
  rw [if_neg c] at hz
  cases hz
theorem linP_rg (h : Rg W) (hz : (linP T e b W).1 = true) : Rg (linP T e b W).2.2 := by
  unfold linP at hz ⊢
  by_cases c : isWd T e b 0 = true
  · rw [if_pos c] at hz ⊢; exact perP_rg h hz
  rw [if_neg c] at hz ⊢
  by_cases c : isWd T e b 3 = true
  · rw [if_pos c] at hz ⊢; exact dutP_rg h hz
  rw [if_neg c] at hz ⊢
  by_cases c : isWd T e b 9 = true
  · rw [if_pos c] at hz ⊢; exact forP_rg h hz
  rw [if_neg c] at hz ⊢
  exact stgP_rg h hz
theorem strsP_rg : ∀ (f b : Nat) (W : Nat → Int32), Rg W → (strsP T e f b W).1 = true → Rg (strsP T e f b W).2.2 := by
  intro f
  induction f with
  | zero => exact fun b W h hz => by cases hz
  | succ f ih =>
    intro b W h hz
    rw [strsP_s] at hz ⊢
    have hl := linP_rg (T := T) (e := e) (b := b) h
    generalize linP T e b W = r at hz hl ⊢
    by_cases c1 : r.1 = true
    · rw [if_pos c1] at hz ⊢
      by_cases c2 : r.2.1 < e
      · rw [if_pos c2] at hz ⊢
        by_cases c3 : sg T e r.2.1 59 = true
        · rw [if_pos c3] at hz ⊢
          exact ih _ _ (hl c1) hz
        · rw [if_neg c3] at hz
          cases hz
      · rw [if_neg c2]
        exact hl c1
    · rw [if_neg c1] at hz
      cases hz
theorem strP_rg (h : Rg W) (hz : (strP T e W).1 = true) : Rg (strP T e W).2.2 := by
  unfold strP at hz ⊢
  by_cases c : bg T e 0 < e
  · rw [if_pos c] at hz ⊢
    exact strsP_rg _ _ _ h hz
  · rw [if_neg c]
    exact h
end P79p
end
section
/-! ===== street, whole, on both sides ===== -/
section T79q
variable {S : aS} {I : Nat → Nat → Int32} {L : Nat → Nat → Int64} {w1 w2 t : Nat} {e b : Nat} {T W : Nat → Int32}
set_option maxRecDepth 100000
theorem perP_2 (hz : (perP T e b W).1 = true) : (perP T e b W).2.2 2 = W 2 := by
  unfold perP at hz ⊢
  by_cases c : W 0 = 6
  · rw [if_pos c] at hz
    cases hz
  rw [if_neg c] at hz ⊢
  generalize nbP T e 1 0 15 (nx T e b) = x at hz ⊢
  unfold perB at hz ⊢
  by_cases c2 : x.1 = -1
  · rw [if_pos c2] at hz
    cases hz
  rw [if_neg c2] at hz ⊢
  generalize nbP T e 2 0 9 x.2 = y at hz ⊢
  unfold perC at hz ⊢
  by_cases c3 : y.1 = -1
  · rw [if_pos c3] at hz
    cases hz
  rw [if_neg c3]
  show ud (ud (ud W (11 + 2 * pn W) x.1) (11 + 2 * pn W + 1) y.1) 0 (nI (pn W + 1)) 2 = W 2
  rw [ud_ne (by decide), ud_ne (by omega), ud_ne (by omega)]
theorem addDt_2 {o l a t n : Int32} : addDt W o l a t n 2 = W 2 := by
  unfold addDt
  rw [ud_ne (by decide), ud_ne (by omega), ud_ne (by omega), ud_ne (by omega), ud_ne (by omega), ud_ne (by omega), ud_ne (by omega)]
theorem dutP_2 (hz : (dutP T e b W).1 = true) : (dutP T e b W).2.2 2 = W 2 := by
  unfold dutP at hz ⊢
  by_cases c : W 1 = 12
  · rw [if_pos c] at hz
    cases hz
  rw [if_neg c] at hz ⊢
  generalize nbP T e 4 0 (W 0 - 1) (nx T e b) = x at hz ⊢
  unfold duA at hz ⊢
  by_cases c2 : x.1 = -1
  · rw [if_pos c2] at hz
    cases hz
  rw [if_neg c2] at hz ⊢
  generalize nbP T e 5 1 99 x.2 = y at hz ⊢
  unfold duB at hz ⊢
  by_cases c3 : y.1 = -1
  · rw [if_pos c3] at hz
    cases hz
  rw [if_neg c3] at hz ⊢
  generalize optP T e 6 0 99 0 y.2 = u at hz ⊢
  unfold duC at hz ⊢
  by_cases c4 : u.1 = true
  rotate_left
  · rw [if_neg c4] at hz
    cases hz
  rw [if_pos c4] at hz ⊢
  generalize optP T e 7 0 5 (-1) u.2.2 = v at hz ⊢
  unfold duD at hz ⊢
  by_cases c5 : v.1 = true
  rotate_left
  · rw [if_neg c5] at hz
    cases hz
  rw [if_pos c5] at hz ⊢
  generalize optP T e 8 0 (W 1 - 1) (-1) v.2.2 = w at hz ⊢
  unfold duE at hz ⊢
  by_cases c6 : w.1 = true
  rotate_left
  · rw [if_neg c6] at hz
    cases hz
  rw [if_pos c6]
  exact addDt_2 (t := v.2.1) (n := w.2.1)
theorem forP_2 (hz : (forP T e b W).1 = true) : (forP T e b W).2.2 2 = W 2 := by
  unfold forP at hz ⊢
  by_cases c : nm T e b 0 (W 1 - 1) = -1
  · rw [if_pos c] at hz
    cases hz
  rw [if_neg c] at hz ⊢
  by_cases c2 : W (23 + 6 * (nm T e b 0 (W 1 - 1)).toNatClampNeg + 5) = 0
  · rw [if_pos c2]
    show ud W (23 + 6 * (nm T e b 0 (W 1 - 1)).toNatClampNeg + 5) 2 2 = W 2
    exact ud_ne (by omega)
  · rw [if_neg c2] at hz
    cases hz
theorem setP_2 {g : Nat} {lo hi : Int32} (hg : 2 < g) (hz : (setP T e b W g lo hi).1 = true) : (setP T e b W g lo hi).2.2 2 = W 2 := by
  unfold setP at hz ⊢
  by_cases c : nm T e b lo hi = -1
  · rw [if_pos c] at hz
    cases hz
  rw [if_neg c]
  exact ud_ne (by omega)
theorem stgP_2 (hz : (stgP T e b W).1 = true) : (stgP T e b W).2.2 2 = W 2 := by
  unfold stgP at hz ⊢
  by_cases c : isWd T e b 10 = true
  · rw [if_pos c] at hz ⊢; exact setP_2 (by decide) hz
  rw [if_neg c] at hz ⊢
  by_cases c : isWd T e b 11 = true
  · rw [if_pos c] at hz ⊢; exact setP_2 (by decide) hz
  rw [if_neg c] at hz ⊢
  by_cases c : isWd T e b 12 = true
  · rw [if_pos c] at hz ⊢; exact setP_2 (by decide) hz
  rw [if_neg c] at hz ⊢
  by_cases c : isWd T e b 13 = true
  · rw [if_pos c] at hz ⊢; exact setP_2 (by decide) hz
  rw [if_neg c] at hz ⊢
  by_cases c : isWd T e b 14 = true
  · rw [if_pos c] at hz ⊢; exact setP_2 (by decide) hz
  rw [if_neg c] at hz
  cases hz
theorem linP_2 (hz : (linP T e b W).1 = true) : (linP T e b W).2.2 2 = W 2 := by
  unfold linP at hz ⊢
  by_cases c : isWd T e b 0 = true
  · rw [if_pos c] at hz ⊢; exact perP_2 hz
  rw [if_neg c] at hz ⊢
  by_cases c : isWd T e b 3 = true
  · rw [if_pos c] at hz ⊢; exact dutP_2 hz
  rw [if_neg c] at hz ⊢
  by_cases c : isWd T e b 9 = true
  · rw [if_pos c] at hz ⊢; exact forP_2 hz
  rw [if_neg c] at hz ⊢
  exact stgP_2 hz
theorem strsP_2 : ∀ (f b : Nat) (W : Nat → Int32), (strsP T e f b W).1 = true → (strsP T e f b W).2.2 2 = W 2 := by
  intro f
  induction f with
  | zero => exact fun b W hz => by cases hz
  | succ f ih =>
    intro b W hz
    rw [strsP_s] at hz ⊢
    have hl := linP_2 (T := T) (e := e) (b := b) (W := W)
    generalize linP T e b W = r at hz hl ⊢
    by_cases c1 : r.1 = true
    · rw [if_pos c1] at hz ⊢
      by_cases c2 : r.2.1 < e
      · rw [if_pos c2] at hz ⊢
        by_cases c3 : sg T e r.2.1 59 = true
        · rw [if_pos c3] at hz ⊢
          exact (ih _ _ hz).trans (hl c1)
        · rw [if_neg c3] at hz
          cases hz
      · rw [if_neg c2]
        exact hl c1
    · rw [if_neg c1] at hz
      cases hz
theorem strP_2 (hz : (strP T e W).1 = true) : (strP T e W).2.2 2 = W 2 := by
  unfold strP at hz ⊢
  by_cases c : bg T e 0 < e
  · rw [if_pos c] at hz ⊢
    exact strsP_2 _ _ _ hz
  · rw [if_neg c]
theorem strsP_ok : ∀ (f b : Nat) (W : Nat → Int32), WOk W → (strsP T e f b W).1 = true → WOk (strsP T e f b W).2.2 := by
  intro f
  induction f with
  | zero => exact fun b W _ hz => by cases hz
  | succ f ih =>
    intro b W h hz
    rw [strsP_s] at hz ⊢
    have hl := linP_ok (T := T) (e := e) (b := b) h
    generalize linP T e b W = r at hz hl ⊢
    by_cases c1 : r.1 = true
    · rw [if_pos c1] at hz ⊢
      by_cases c2 : r.2.1 < e
      · rw [if_pos c2] at hz ⊢
        by_cases c3 : sg T e r.2.1 59 = true
        · rw [if_pos c3] at hz ⊢
          exact ih _ _ (hl c1) hz
        · rw [if_neg c3] at hz
          cases hz
      · rw [if_neg c2]
        exact hl c1
    · rw [if_neg c1] at hz
      cases hz
theorem strP_ok (h : WOk W) (hz : (strP T e W).1 = true) : WOk (strP T e W).2.2 := by
  unfold strP at hz ⊢
  by_cases c : bg T e 0 < e
  · rw [if_pos c] at hz ⊢
    exact strsP_ok _ _ _ h hz
  · rw [if_neg c]
    exact h
theorem Sd.cp {a b m : Nat} (h : Sd I b W) (hm : 9 ≤ m) : Sd (cpS I a b m) a W := by
  obtain ⟨h1, h2, h3⟩ := h
  refine ⟨fun x hx => ?_, fun p hp => ?_, fun d hd k hk => ?_⟩
  · rw [cpS_in0 (by omega)]
    exact h1 x hx
  · rw [cpS_in (i := 1) (by omega), cpS_in (i := 2) (by omega)]
    exact h2 p hp
  · rw [show a + 3 + k = a + (3 + k) by omega, cpS_in (i := 3 + k) (by omega), show b + (3 + k) = b + 3 + k by omega]
    exact h3 d hd k hk
/-- what street may change in the class -/
def sJ (q k : Nat) : Bool := sO q k || ((Nat.beq q 200 && (Nat.beq k 3 || Nat.beq k 13)) || ((Nat.beq q 201 && Nat.beq k 1) || (Nat.ble 235 q && Nat.ble q 243)))
theorem sO_sJ : ∀ q k, sO q k = true → sJ q k = true := fun q k h => by
  unfold sJ
  rw [h]
  rfl
theorem sJ_hi {q k : Nat} (h : 244 ≤ q) : sJ q k = false := by
  have e1 : Nat.ble q 217 = false := by
    cases hb : Nat.ble q 217 with
    | false => rfl
    | true => exact absurd (Nat.le_of_ble_eq_true hb) (by omega)
  have e2 : Nat.ble q 243 = false := by
    cases hb : Nat.ble q 243 with
    | false => rfl
    | true => exact absurd (Nat.le_of_ble_eq_true hb) (by omega)
  simp [sJ, sO, e1, e2, beqF (show q ≠ 200 by omega), beqF (show q ≠ 201 by omega)]
theorem CI.st {J : Nat → Nat → Int32} (h : CI I) (f : Fm sJ I J) (k : Dk J) (k2 : ∃ nd, nd ≤ 12 ∧ J 235 3 = nI nd) : CI J := fun a ha h2 => by
  by_cases c1 : a = 209
  · rw [c1]
    exact k
  · by_cases c2 : a = 235
    · rw [c2]
      exact k2
    · rw [f a 3 (sJ_hi (by simp only [stp, stps, List.mem_cons, List.not_mem_nil, or_false] at ha; omega))]
      exact h a ha h2
theorem f_streetC (hw : WdS S) (he : I 201 1 = nI e) (h4 : e ≤ 400) (hbt : BtT T) (hT : I 202 = T) (hm : I 203 1 = 14) (hci : CI I) (hD : Sd I 235 W) (hW : WOk W) (h2 : ∃ k, k ≤ 12 ∧ W 2 = nI k) : Sp S m_X11_street 21 1 6 [.ref 200] (hp I L w1 w2 t) (fun v h' => v = some (.int (W 2 + 1)) ∧ (strP T e W).1 = true ∧ ¬ W 2 = 12 ∧ ∃ J w, h' = hp J L w w2 t ∧ WK w ∧ CI J ∧ Fm sJ I J ∧ J 201 1 = 0 ∧ J 200 3 = -1 ∧ J 200 13 = 0 ∧ Sd J 235 (ud (strP T e W).2.2 2 (W 2 + 1))) (fun E h' => ∃ J w, h' = hp J L w w2 0 ∧ WK w ∧ CI J ∧ Fm sJ I J ∧ J 201 1 = 0 ∧ J 200 13 = I 200 13 ∧ Sd J 235 W ∧ ((E = exN 1 ∧ (strP T e W).1 = false ∧ J 200 3 = nI (strP T e W).2.1) ∨ (E = exN 3 ∧ (strP T e W).1 = true ∧ W 2 = 12 ∧ J 200 3 = -1))) := by
  obtain ⟨tx, tx12, etx⟩ := h2
  refine Sp_of ok_X11_street rfl rfl ?_
  show AW S m_X11_street 21 _ _ 1 6 0 [some (.ref 200)] [] (hp I L w1 w2 t)
  refine a_l0 rfl rfl rfl ?_
  refine a_getq rfl gfX11_19_11 rfl (rfl) ?_
  refine a_getq rfl gfX11_75_6 rfl (rfl) ?_
  refine a_l0 rfl rfl rfl ?_
  refine a_getq rfl gfX11_37_11 rfl (rfl) ?_
  refine a_eV0 rfl lX11_78 mo_X5_copyFrom (sp_X5_copyFrom (a := 209) (b := 235) (by decide) (by decide) (by decide)) rfl rfl rfl ⟨5, _, rfl, rfl, rfl⟩ rfl ?_
  refine a_l0 rfl rfl rfl ?_
  refine a_l0 rfl rfl rfl ?_
  refine a_getq rfl gfX11_19_11 rfl (rfl) ?_
  refine a_l0 rfl rfl rfl ?_
  refine a_getq rfl gfX11_10_11 rfl (rfl) ?_
  have g1 : ∀ q, ¬ (209 ≤ q ∧ q < 209 + 9) → cpS I 209 235 9 q = I q := fun q hq => cpS_out hq
  refine a_callU rfl lu_82 dc_readLines mo_X8_readLines hx_rl (s_readLines hw ((congrFun (g1 201 (by decide)) 1).trans he) h4 (by rw [g1 202 (by decide), hT]; exact hbt) ((congrFun (g1 203 (by decide)) 1).trans hm) (Sd.cp hD (Nat.le_refl _)) hW) rfl rfl rfl ⟨6, _, rfl, rfl, rfl⟩ rfl (fun v' h' hv => ?_) (fun _ _ z => False.elim z)
  rw [g1 202 (by decide), hT] at hv
  obtain ⟨rfl, J, w, rfl, hww, hle, hF, hk, hy⟩ := hv
  have fJ : Fm sJ I J := fun q k hq => by
    have hq' : sO q k = false := by
      cases hb : sO q k with
      | false => rfl
      | true => rw [sO_sJ q k hb] at hq; cases hq
    rw [hF q k hq', g1 q (by have := sO_in hq'; omega)]
  have rowJ : ∀ q, 218 ≤ q → J q = I q := fun q hq => by
    rw [show J q = cpS I 209 235 9 q from funext fun k => hF q k (by unfold sO; rw [show Nat.ble q 217 = false by (cases hb : Nat.ble q 217 with | false => rfl | true => exact absurd (Nat.le_of_ble_eq_true hb) (by omega)), Bool.and_false]), g1 q (by omega)]
  have o2 := strP_2 (T := T) (e := e) (W := W)
  have ok2 := strP_ok (T := T) (e := e) hW
  rcases er : strP T e W with ⟨z, b1, W1⟩
  rw [er] at hle hk hy o2 ok2
  have DJ : Sd J 235 W := Sd.eq hD fun q g _ => rowJ q (by omega)
  have r13 : J 200 13 = I 200 13 := (hF 200 13 rfl).trans (congrFun (g1 200 (by decide)) 13)
  cases z with
  | false =>
    refine a_top (y := nI b1) (rfl) ?_
    refine a_puti rfl pfX11_30_11 rfl ?_
    refine a_l0 rfl rfl rfl ?_
    refine a_getq rfl gfX11_10_11 rfl (rfl) ?_
    refine a_s rfl rfl ?_
    refine a_puti rfl pfX11_68_7 rfl ?_
    have fK : Fm sJ I (up2 (up2 J 200 3 (nI b1)) 201 1 0) := Fm.up (Fm.up fJ rfl) rfl
    have e3 : up2 (up2 J 200 3 (nI b1)) 201 1 0 200 3 = nI b1 := (congrFun (up2_row (by decide)) 3).trans up2_at
    have DK : Sd (up2 (up2 J 200 3 (nI b1)) 201 1 0) 235 W := Sd.eq DJ fun q g1 g2 => by rw [up2_row (by omega), up2_row (by omega)]
    refine a_l0 rfl rfl rfl ?_
    refine a_getiv (v := nI b1) rfl gfX11_30_11 rfl (e3) ?_
    refine a_s rfl rfl ?_
    have hb1 : b1 ≤ e := hle
    refine a_ic_eq rfl (fun c => absurd c ?_) (fun _ => ?_)
    · intro z
      have := nI_pos (show b1 < 2 ^ 31 by omega)
      rw [z] at this
      exact this (by decide)
    obtain ⟨nd, n1, n2⟩ := hk rfl
    exact a_throw rfl rfl rfl rfl tX11_iae rfl rfl rfl rfl rfl ⟨_, w, rfl, hww, CI.st hci fK ⟨nd, n1, (congrFun ((up2_row (p := 201) (q := 209) (by decide)).trans (up2_row (p := 200) (q := 209) (by decide))) 3).trans n2⟩ ⟨dn W, hW.2.1, (Sd.fd DK (f := 3) (g := 1) (by decide)).trans hW.2.2.2⟩, fK, up2_at, (congrFun (up2_row (p := 201) (q := 200) (by decide)) 13).trans ((up2_ne (Or.inr (by decide))).trans r13), DK, Or.inl ⟨rfl, rfl, e3⟩⟩
  | true =>
    refine a_top (y := (-1)) (rfl) ?_
    have D1 : Sd J 209 W1 := hy rfl
    have W1k : WOk W1 := ok2 rfl
    have o2 : W1 2 = W 2 := o2 rfl
    refine a_puti rfl pfX11_30_11 rfl ?_
    refine a_l0 rfl rfl rfl ?_
    refine a_getq rfl gfX11_10_11 rfl (rfl) ?_
    refine a_s rfl rfl ?_
    refine a_puti rfl pfX11_68_7 rfl ?_
    generalize hK : up2 (up2 J 200 3 (-1)) 201 1 0 = K
    have fK : Fm sJ I K := by
      subst hK
      exact Fm.up (Fm.up fJ rfl) rfl
    have rK : ∀ q, q ≠ 200 → q ≠ 201 → K q = J q := fun q h1 h2 => by
      subst hK
      rw [up2_row h2, up2_row h1]
    have e3 : K 200 3 = -1 := by
      subst hK
      exact (congrFun (up2_row (by decide)) 3).trans up2_at
    have e1 : K 201 1 = 0 := by
      subst hK
      exact up2_at
    have e13 : K 200 13 = J 200 13 := by
      subst hK
      exact (congrFun (up2_row (by decide)) 13).trans (up2_ne (Or.inr (by decide)))
    have DK : Sd K 235 W := Sd.eq DJ fun q g1 g2 => rK q (by omega) (by omega)
    have DK2 : Sd K 209 W1 := Sd.eq D1 fun q g1 g2 => rK q (by omega) (by omega)
    have d3 : K 209 3 = nI (dn W1) := (Sd.fd DK2 (f := 3) (g := 1) (by decide)).trans W1k.2.2.2
    clear hK
    refine a_l0 rfl rfl rfl ?_
    refine a_getiv (v := (-1)) rfl gfX11_30_11 rfl (e3) ?_
    refine a_s rfl rfl ?_
    refine a_ic_eq rfl (fun _ => ?_) (fun c => absurd rfl c)
    refine a_l0 rfl rfl rfl ?_
    refine a_getq rfl gfX11_37_11 rfl (rfl) ?_
    refine a_getiv (v := nI tx) rfl gfX11_89_5 rfl ((Sd.fd DK (f := 16) (g := 2) (by decide)).trans etx) ?_
    refine a_s rfl rfl ?_
    refine a_ic_lt rfl (fun c => ?_) (fun c => ?_)
    rotate_left
    · have t12 : tx = 12 := by
        have := nI_ge_of (a := tx) (b := 12) (Int32.not_lt.mp c) (by omega) (by decide)
        omega
      exact a_throw rfl rfl rfl rfl tX11_uoe rfl rfl rfl rfl rfl ⟨K, w, rfl, hww, CI.st hci fK ⟨dn W1, W1k.2.1, d3⟩ ⟨dn W, hW.2.1, (Sd.fd DK (f := 3) (g := 1) (by decide)).trans hW.2.2.2⟩, fK, e1, e13.trans r13, DK, Or.inr ⟨rfl, rfl, by rw [etx, t12]; rfl, e3⟩⟩
    have t12 : tx < 12 := nI_lt_of (b := 12) (Int32.not_le.mpr c) (by omega) (by decide)
    refine a_l0 rfl rfl rfl ?_
    refine a_getq rfl gfX11_37_11 rfl (rfl) ?_
    refine a_l0 rfl rfl rfl ?_
    refine a_getq rfl gfX11_19_11 rfl (rfl) ?_
    refine a_getq rfl gfX11_75_6 rfl (rfl) ?_
    refine a_eV0 rfl lX11_78 mo_X5_copyFrom (sp_X5_copyFrom (a := 235) (b := 209) (by decide) (by decide) (by decide)) rfl rfl rfl ⟨5, _, rfl, rfl, rfl⟩ rfl ?_
    have D9 : Sd (cpS K 235 209 9) 235 W1 := Sd.cp DK2 (Nat.le_refl _)
    have r9 : ∀ q, ¬ (235 ≤ q ∧ q < 235 + 9) → cpS K 235 209 9 q = K q := fun q hq => cpS_out hq
    generalize hM : cpS K 235 209 9 = M at D9 r9
    refine a_l0 rfl rfl rfl ?_
    refine a_getq rfl gfX11_37_11 rfl (rfl) ?_
    refine a_s rfl rfl ?_
    refine a_getiv (v := W 2) rfl gfX11_89_5 rfl ((Sd.fd D9 (f := 16) (g := 2) (by decide)).trans o2) ?_
    refine a_s rfl rfl ?_
    refine a_s rfl rfl ?_
    refine a_puti rfl pfX11_89_5 rfl ?_
    refine a_l0 rfl rfl rfl ?_
    refine a_s rfl rfl ?_
    refine a_puti rfl pfX11_95_11 rfl ?_
    refine a_l0 rfl rfl rfl ?_
    refine a_getq rfl gfX11_37_11 rfl (rfl) ?_
    refine a_getiv (v := W 2 + 1) rfl gfX11_89_5 rfl ((congrFun (up2_row (by decide)) 16).trans up2_at) ?_
    have fM : Fm sJ I (up2 (up2 M 235 16 (W 2 + 1)) 200 13 0) := Fm.up (Fm.up (fun q k hq => by
      by_cases c9 : 235 ≤ q ∧ q < 235 + 9
      · exfalso
        have e5 : Nat.ble 235 q = true := Nat.ble_eq_true_of_le c9.1
        have e6 : Nat.ble q 243 = true := Nat.ble_eq_true_of_le (by omega)
        simp [sJ, e5, e6] at hq
      · rw [r9 q c9]
        exact fK q k hq) rfl) rfl
    have D8 : Sd (up2 (up2 M 235 16 (W 2 + 1)) 200 13 0) 235 (ud W1 2 (W 2 + 1)) := Sd.eq (Sd.pu (f := 16) (g := 2) D9 (by decide)) fun q g1 g2 => up2_row (by omega)
    refine a_iret rfl rfl ⟨rfl, rfl, fun z => ?_, _, w, rfl, hww, CI.st hci fM ?_ ?_, fM, ?_, ?_, up2_at, D8⟩
    · rw [etx] at z
      have := nI_inj (b := 12) (by omega) (by decide) z
      omega
    · refine ⟨dn W1, W1k.2.1, ?_⟩
      rw [up2_row (by decide), up2_row (by decide), r9 209 (by decide)]
      exact d3
    · refine ⟨dn W1, W1k.2.1, ?_⟩
      rw [up2_row (by decide), up2_ne (Or.inr (by decide))]
      exact (Sd.fd D9 (f := 3) (g := 1) (by decide)).trans W1k.2.2.2
    · rw [up2_row (by decide), up2_row (by decide), r9 201 (by decide)]
      exact e1
    · rw [up2_ne (Or.inr (by decide)), up2_row (by decide), r9 200 (by decide)]
      exact e3
end T79q
end
section
/-! ===== street, whole, of the reference ===== -/
section T79r
variable {S : aS} {I : Nat → Nat → Int32} {L : Nat → Nat → Int64} {w1 w2 t : Nat} {e b nd np : Nat} {T W : Nat → Int32}
set_option maxRecDepth 100000
theorem usH_0 : usH I 420 0 = 0 := by
  unfold usH
  rw [up2_ne (Or.inr (by decide)), up2_ne (Or.inr (by decide)), up2_ne (Or.inr (by decide)), up2_at]
theorem h_readAllS (hw : WdS S) (hbt : BtT T) (hT : I 426 = T) (h9 : I 420 9 = nI e) (h4 : e ≤ 400) (h421 : I 421 = W) (hW : WOk W) : Sp S m_X12_readAll 61 0 0 [.ref 420, .int (bI true)] (hp I L w1 w2 t) (fun v h' => ∃ x, v = some (.int x) ∧ ((strP T e W).1 = false → x = -1) ∧ ((strP T e W).1 = true → 0 ≤ x) ∧ ∃ J, h' = hp J L w1 w2 t ∧ Fm sS (up2 (usH I) 420 16 0) J ∧ ((strP T e W).1 = false → J 420 12 = nI (strP T e W).2.1) ∧ ((strP T e W).1 = true → J 421 = (strP T e W).2.2)) nX := by
  refine Sp_of ok_X12_readAll rfl rfl ?_
  show AW S m_X12_readAll 61 _ _ 0 0 0 [some (.ref 420), some (.int (bI true)), none] [] (hp I L w1 w2 t)
  have T0 : up2 (usH I) 420 16 0 426 = T := ((up2_row (by decide)).trans (usH_row (by decide))).trans hT
  have P0 : Pp e 0 (up2 (usH I) 420 16 0) := ⟨(up2_ne (Or.inr (by decide))).trans up2_at, ((up2_ne (Or.inr (by decide))).trans usH_11).trans h9, Nat.zero_le _, h4⟩
  have W0 : up2 (usH I) 420 16 0 421 = W := ((up2_row (by decide)).trans (usH_row (by decide))).trans h421
  refine a_l0 rfl rfl rfl ?_
  refine a_eV0 rfl lX12_232 mo_X12_uses r_X12_uses rfl rfl rfl ⟨12, _, rfl, rfl, rfl⟩ rfl ?_
  refine a_l0 rfl rfl rfl ?_
  refine a_s rfl rfl ?_
  refine a_puti rfl pfX12_168_12 rfl ?_
  refine a_l0 rfl rfl rfl ?_
  refine a_gV rfl lX12_94 mo_X12_blanks (h_blanks (I := up2 (usH I) 420 16 0) P0) rfl rfl rfl ⟨12, _, rfl, rfl, rfl⟩ rfl (fun v' h' hv => ?_)
  obtain ⟨rfl, J1, rfl, h1⟩ := hv
  rw [T0] at h1
  have h1 : Rd e 0 (bg T e 0) (bg T e 0) (up2 (usH I) 420 16 0) J1 := h1
  have C1 : Hf T e (bg T e 0) W (up2 (usH I) 420 16 0) J1 (bg T e 0) := ⟨Fm.mo (Rd.fm h1) sR_sS, Rd.pp h1, bg_sk 0, (Rd.w h1).trans W0⟩
  have hb0 := bg_le (T := T) (e := e) 0
  refine a_l0 rfl rfl rfl ?_
  refine a_geti rfl gfX12_81_12 rfl ?_
  refine a_top (y := nI (bg T e 0)) (Pp.pu (Rd.pp h1)) ?_
  refine a_l0 rfl rfl rfl ?_
  refine a_geti rfl gfX12_84_12 rfl ?_
  refine a_top (y := nI e) (Pp.en (Rd.pp h1)) ?_
  refine a_ic_ne rfl (fun c0 => ?_) (fun c0 => ?_)
  rotate_left
  · have c0 := nI_inj (by omega) (by omega) c0
    have el : strP T e W = (true, bg T e 0, W) := if_neg (by omega)
    rw [el]
    refine a_s rfl rfl ?_
    exact a_iret rfl rfl ⟨0, rfl, fun z => (by cases z), fun _ => Int32.le_refl _, J1, rfl, C1.1, fun z => (by cases z), fun _ => Hf.wd C1⟩
  have c0 : bg T e 0 < e := by
    rcases Nat.lt_or_ge (bg T e 0) e with g | g
    · exact g
    · exact absurd (congrArg nI (show bg T e 0 = e by omega)) c0
  refine a_s rfl rfl ?_
  refine a_s2 rfl rfl rfl rfl rfl rfl ?_
  refine a_inv (n := 14) (fun m ls h => ∃ i b' W' p' J, ls = [some (.ref 420), some (.int (bI true)), some (.int (nI i))] ∧ h = hp J L w1 w2 t ∧ Hf T e b' W' (up2 (usH I) 420 16 0) J p' ∧ WOk W' ∧ strsP T e (14 - i) b' W' = strP T e W ∧ i ≤ 14 ∧ m = 14 - i) ⟨0, bg T e 0, W, bg T e 0, J1, rfl, rfl, C1, hW, (if_pos c0).symm, by decide, rfl⟩ ?_
  rintro m _ _ ⟨i, b', W', p', J, rfl, rfl, C, hW', es, hi, hm⟩ ih
  have eT : J 426 = T := Hf.tt C T0
  refine a_l0 rfl rfl rfl ?_
  refine a_l1 rfl rfl rfl ?_
  refine a_l2 rfl rfl rfl ?_
  refine a_gV rfl lX12_235 mo_X12_readLine (h_readLineS hw eT (Hf.pp C) (Hf.nb C) (Hf.wd C) hW' hi) rfl rfl rfl ⟨12, _, rfl, rfl, rfl⟩ rfl (fun v' h' hv => ?_)
  replace hv := QH.be C.1 hv
  by_cases c14 : i < 14
  rotate_left
  · rw [if_neg c14] at hv
    obtain ⟨rfl, J2, p2, rfl, y, n⟩ := hv
    rw [show 14 - i = 0 by omega] at es
    have es : strP T e W = (false, b', W') := es.symm
    refine a_if_ne rfl (fun z => absurd rfl z) (fun _ => ?_)
    refine a_s rfl rfl ?_
    rw [es]
    exact a_iret rfl rfl ⟨-1, rfl, fun _ => rfl, fun z => (by cases z), J2, rfl, (n rfl).1, fun _ => (n rfl).2, fun z => by cases z⟩
  rw [if_pos c14] at hv
  obtain ⟨rfl, J2, p2, rfl, y, n⟩ := hv
  obtain ⟨f, hf⟩ : ∃ f, 14 - i = f + 1 := ⟨14 - i - 1, by omega⟩
  rw [hf, strsP_s] at es
  have lok := linP_ok (T := T) (e := e) (b := b') hW'
  generalize linP T e b' W' = r at es y n lok ⊢
  obtain ⟨z, b1, W1⟩ := r
  cases z with
  | false =>
    refine a_if_ne rfl (fun z => absurd rfl z) (fun _ => ?_)
    have es : strP T e W = (false, b1, W') := es.symm
    refine a_s rfl rfl ?_
    rw [es]
    exact a_iret rfl rfl ⟨-1, rfl, fun _ => rfl, fun z => (by cases z), J2, rfl, (n rfl).1, fun _ => (n rfl).2, fun z => by cases z⟩
  | true =>
  refine a_if_ne rfl (fun _ => ?_) (fun z => absurd (show (1 : Int32) = 0 from z) (by decide))
  rw [if_pos rfl] at es
  have C2 : Hf T e b1 W1 (up2 (usH I) 420 16 0) J2 p2 := y rfl
  have W1k : WOk W1 := lok rfl
  have g2 := Hf.le C2
  have eT2 : J2 426 = T := Hf.tt C2 T0
  refine a_l0 rfl rfl rfl ?_
  refine a_gV rfl lX12_94 mo_X12_blanks (h_blanks (Hf.pp C2)) rfl rfl rfl ⟨12, _, rfl, rfl, rfl⟩ rfl (fun v' h' hv => ?_)
  obtain ⟨rfl, J3, rfl, h3⟩ := hv
  rw [eT2, Hf.nb C2] at h3
  have C3 : Hf T e b1 W1 (up2 (usH I) 420 16 0) J3 b1 := Hf.rd C2 h3 (Hf.sk C2)
  have eT3 : J3 426 = T := Hf.tt C3 T0
  have h4' := Pp.e4 (Hf.pp C3)
  refine a_l0 rfl rfl rfl ?_
  refine a_geti rfl gfX12_81_12 rfl ?_
  refine a_top (y := nI b1) (Pp.pu (Rd.pp h3)) ?_
  refine a_l0 rfl rfl rfl ?_
  refine a_geti rfl gfX12_84_12 rfl ?_
  refine a_top (y := nI e) (Pp.en (Rd.pp h3)) ?_
  refine a_ic_ne rfl (fun c1 => ?_) (fun c1 => ?_)
  rotate_left
  · have c1 := nI_inj (by omega) (by omega) c1
    have es : strP T e W = (true, b1, W1) := es.symm.trans (if_neg (show ¬ b1 < e by omega))
    refine a_l2 rfl rfl rfl ?_
    refine a_s rfl rfl ?_
    refine a_s rfl rfl ?_
    refine a_top (y := nI (i + 1)) ((nI_succ _).symm) ?_
    rw [es]
    exact a_iret rfl rfl ⟨nI (i + 1), rfl, fun z => (by cases z), fun _ => nI_0le (by omega), J3, rfl, C3.1, fun z => (by cases z), fun _ => Hf.wd C3⟩
  have c1 : b1 < e := by
    rcases Nat.lt_or_ge b1 e with g | g
    · exact g
    · exact absurd (congrArg nI (show b1 = e by omega)) c1
  have es := (if_pos c1).symm.trans es
  refine a_l0 rfl rfl rfl ?_
  refine a_s rfl rfl ?_
  refine a_s rfl rfl ?_
  refine a_eV1 rfl lX12_87 mo_X12_isAt (h_isAt (Rd.pp h3)) rfl rfl rfl ⟨12, _, rfl, rfl, rfl⟩ rfl ?_
  refine a_top (y := bI (sg T e b1 59)) (by rw [eT3]; exact congrArg bI (at_s (c := 59) hbt h4 (by decide))) ?_
  cases c59 : sg T e b1 59 with
  | true =>
    refine a_if_ne rfl (fun _ => ?_) (fun z => absurd (show (1 : Int32) = 0 from z) (by decide))
    have es := (if_pos c59).symm.trans es
    refine a_l0 rfl rfl rfl ?_
    refine a_s rfl rfl ?_
    refine a_geti rfl gfX12_81_12 rfl ?_
    refine a_top (y := nI b1) (Pp.pu (Rd.pp h3)) ?_
    refine a_s rfl rfl ?_
    refine a_s rfl rfl ?_
    refine a_top (y := nI (b1 + 1)) ((nI_succ _).symm) ?_
    refine a_puti rfl pfX12_81_12 rfl ?_
    refine a_iv2 (y := nI (i + 1)) rfl rfl rfl ((nI_succ _).symm) ?_
    refine a_goto rfl ?_
    have e3 := en_3 (of_decide_eq_true c59).1
    exact ih (14 - (i + 1)) _ _ (by omega) ⟨i + 1, nx T e b1, W1, b1 + 1, _, rfl, rfl, ⟨Fm.up C3.1 rfl, Pp.to (Rd.pp h3) (by omega), by rw [← e3]; rfl, (up2_row (by decide)).trans (Hf.wd C3)⟩, W1k, by rw [show 14 - (i + 1) = f by omega]; exact es, by omega, rfl⟩
  | false =>
    refine a_if_ne rfl (fun z => absurd rfl z) (fun _ => ?_)
    have es : strP T e W = (false, b1, W') := es.symm.trans (if_neg (by show ¬ sg T e b1 59 = true; rw [c59]; exact Bool.false_ne_true))
    refine a_s rfl rfl ?_
    rw [es]
    exact a_iret rfl rfl ⟨-1, rfl, fun _ => rfl, fun z => (by cases z), J3, rfl, C3.1, fun _ => Rd.be h3, fun z => by cases z⟩
/-- street of the reference: as it was, or the new one -/
def StN (r : SR) (I J : Nat → Nat → Int32) (v : Option Value) : Prop :=
  (r.1 = false ∧ v = some (.int 0) ∧ J 420 0 = 1 ∧ J 420 14 = nI r.2.1 ∧ J 421 = I 421 ∧ J 420 7 = I 420 7) ∨
  (r.1 = true ∧ I 421 2 = 12 ∧ v = some (.int 0) ∧ J 420 0 = 2 ∧ J 420 14 = -1 ∧ J 421 = I 421 ∧ J 420 7 = I 420 7) ∨
  (r.1 = true ∧ ¬ I 421 2 = 12 ∧ v = some (.int (I 421 2 + 1)) ∧ J 420 0 = 0 ∧ J 420 14 = -1 ∧ J 421 = ud r.2.2 2 (I 421 2 + 1) ∧ J 420 7 = 0)
theorem h_streetR (hw : WdS S) (hr : RI nd np I) (hbt : BtT T) (hT : I 426 = T) (h9 : I 420 9 = nI e) (h4 : e ≤ 400) (hG : Rg (I 421)) : Sp S m_X12_street 62 0 0 [.ref 420] (hp I L w1 w2 t) (fun v h' => ∃ J nd' np', h' = hp J L w1 w2 t ∧ Us nd' np' I J ∧ J 422 = I 422 ∧ J 425 = I 425 ∧ StN (strP T e (I 421)) I J v) nX := by
  refine Sp_of ok_X12_street rfl rfl ?_
  show AW S m_X12_street 62 _ _ 0 0 0 [some (.ref 420), none, none] [] (hp I L w1 w2 t)
  have restore : ∀ {x : Int32} {J : Nat → Nat → Int32}, GX I J → (∀ K, K 421 = I 421 → (∀ k, K 420 k = J 420 k) → StN (strP T e (I 421)) I K (some (.int 0))) → AW S m_X12_street 62 (fun v h' => ∃ J nd' np', h' = hp J L w1 w2 t ∧ Us nd' np' I J ∧ J 422 = I 422 ∧ J 425 = I 425 ∧ StN (strP T e (I 421)) I J v) nX 0 0 90 [some (.ref 420), some (.int x), none] [] (hp J L w1 w2 t) := by
    intro x J hg hst
    refine a_s rfl rfl ?_
    refine a_s2 rfl rfl rfl rfl rfl rfl ?_
    refine a_forE (n := 1184) (fun j => [some (.ref 420), some (.int x), some (.int (nI j))]) (fun j => hp (cpR J 421 0 423 0 j) L w1 w2 t) (by simp [lsub, nI_0]) (by rw [cpR_0]) ?_ (fun j hj ih => ?_)
    · refine a_l2 rfl rfl rfl ?_
      refine a_s rfl rfl ?_
      refine a_ic_ge rfl (fun _ => ?_) (fun c => absurd (Int32.le_refl _) c)
      refine a_s rfl rfl ?_
      have e0 : ∀ q, q ≠ 421 → cpR J 421 0 423 0 1184 q = J q := fun q hq => cpR_row hq
      refine a_iret rfl rfl ⟨_, nd, np, rfl, Us.rest hr hg, (e0 422 (by decide)).trans (funext fun k => hg.1 422 k rfl), (e0 425 (by decide)).trans (funext fun k => hg.1 425 k rfl), hst _ (funext fun k => ?_) (fun k => congrFun (e0 420 (by decide)) k)⟩
      by_cases c : k < 1184
      · rw [show k = 0 + k by omega, cpR_in c]
        rw [show k + 0 = k by omega, hg.2.2 k c]
        congr 1
        omega
      · rw [cpR_out (by omega)]
        exact hg.1 421 k (sX_hi (by omega))
    · refine a_l2 rfl rfl rfl ?_
      refine a_s rfl rfl ?_
      refine a_ic_ge rfl (fun c => absurd c (nI_ge (b := 1184) hj (by omega))) (fun _ => ?_)
      refine a_l0 rfl rfl rfl ?_
      refine a_getq rfl gfX12_13_12 rfl (rfl) ?_
      refine a_l2 rfl rfl rfl ?_
      refine a_l0 rfl rfl rfl ?_
      refine a_getq rfl gfX12_20_12 rfl (rfl) ?_
      refine a_l2 rfl rfl rfl ?_
      refine a_ialdv (v := J 423 (j + 0)) rfl (n := 1184) rfl (inI_nI (by omega) (by omega)) (by rw [nI_clamp (by omega), cpR_row (by decide)]; rfl) ?_
      refine a_iastv (k := 0 + j) rfl (n := 2033) rfl (inI_nI (by omega) (by omega)) (by rw [nI_clamp (by omega)]; omega) ?_
      rw [cpR_succ]
      refine a_i2 rfl rfl rfl ?_
      refine a_goto rfl ?_
      exact a_back ih (by simp [lsub, nI_1]) rfl
  have k27 : AW S m_X12_street 62 (fun v h' => ∃ J nd' np', h' = hp J L w1 w2 t ∧ Us nd' np' I J ∧ J 422 = I 422 ∧ J 425 = I 425 ∧ StN (strP T e (I 421)) I J v) nX 0 0 27 [some (.ref 420), some (.int (nI 1184)), none] [] (hp (cpR I 423 0 421 0 1184) L w1 w2 t) := by
    have e0 : ∀ q, q ≠ 423 → cpR I 423 0 421 0 1184 q = I q := fun q hq => cpR_row hq
    refine a_l0 rfl rfl rfl ?_
    refine a_s rfl rfl ?_
    refine a_gV rfl lX12_239 mo_X12_readAll (h_readAllS (T := T) (e := e) (W := I 421) hw hbt ((e0 426 (by decide)).trans hT) ((congrFun (e0 420 (by decide)) 9).trans h9) h4 (e0 421 (by decide)) hG.1) rfl rfl rfl ⟨12, _, rfl, rfl, rfl⟩ rfl (fun v' h' hv => ?_)
    obtain ⟨x, rfl, xf, xt, J, rfl, hF, n, y⟩ := hv
    have hg : GX I J := GX.sS (GX.beg h9) hF
    have o2 := strP_2 (T := T) (e := e) (W := I 421)
    have org := strP_rg (T := T) (e := e) hG
    have j0 : J 420 0 = 0 := (hF 420 0 rfl).trans ((up2_ne (Or.inr (by decide))).trans (usH_0))
    have j7 : J 420 7 = I 420 7 := (hF 420 7 rfl).trans ((up2_ne (Or.inr (by decide))).trans ((usH_f (by decide) (by decide) (by decide) (by decide)).trans (congrFun (e0 420 (by decide)) 7)))
    refine a_s1 rfl rfl rfl rfl rfl rfl ?_
    refine a_l0 rfl rfl rfl ?_
    refine a_l1 rfl rfl rfl ?_
    rcases er : strP T e (I 421) with ⟨z, b1, W1⟩
    rw [er] at xf xt n y o2 org restore
    cases z with
    | false =>
      have xf : x = -1 := xf rfl
      subst xf
      refine a_if_ge rfl (fun z => absurd z (by decide)) (fun _ => ?_)
      refine a_l0 rfl rfl rfl ?_
      refine a_getiv (v := nI b1) rfl gfX12_91_12 rfl (n rfl) ?_
      refine a_goto rfl ?_
      refine a_puti rfl pfX12_33_12 rfl ?_
      refine a_l0 rfl rfl rfl ?_
      refine a_l1 rfl rfl rfl ?_
      refine a_if_ge rfl (fun z => absurd z (by decide)) (fun _ => ?_)
      refine a_s rfl rfl ?_
      refine a_goto rfl ?_
      refine a_s rfl rfl ?_
      refine a_eV1 rfl lX12_243 mo_X12_throwsIf (h_throwsIf (z := true)) rfl rfl rfl ⟨12, _, rfl, rfl, rfl⟩ rfl ?_
      rw [if_pos rfl]
      refine a_if_ne rfl (fun _ => ?_) (fun z => absurd z (by decide))
      refine restore (GX.up (GX.up hg rfl (by decide)) rfl (by decide)) (fun K k1 k2 => Or.inl ⟨rfl, rfl, (k2 0).trans up2_at, ?_, k1, ?_⟩)
      · rw [k2 14, up2_ne (Or.inr (by decide))]
        exact up2_at
      · rw [k2 7, up2_ne (Or.inr (by decide)), up2_ne (Or.inr (by decide))]
        exact j7
    | true =>
      have xt : 0 ≤ x := xt rfl
      have y : J 421 = W1 := y rfl
      have o2 : W1 2 = I 421 2 := o2 rfl
      have org : Rg W1 := org rfl
      refine a_if_ge rfl (fun _ => ?_) (fun z => absurd xt z)
      refine a_s rfl rfl ?_
      refine a_puti rfl pfX12_33_12 rfl ?_
      refine a_l0 rfl rfl rfl ?_
      refine a_l1 rfl rfl rfl ?_
      refine a_if_ge rfl (fun _ => ?_) (fun z => absurd xt z)
      refine a_s rfl rfl ?_
      refine a_s rfl rfl ?_
      refine a_eV1 rfl lX12_243 mo_X12_throwsIf (h_throwsIf (z := false)) rfl rfl rfl ⟨12, _, rfl, rfl, rfl⟩ rfl ?_
      rw [if_neg Bool.false_ne_true]
      refine a_if_ne rfl (fun z => absurd rfl z) (fun _ => ?_)
      have hg1 : GX I (up2 J 420 14 (-1)) := GX.up hg rfl (by decide)
      have t2 : up2 J 420 14 (-1) 421 2 = I 421 2 := (congrFun (up2_row (by decide)) 2).trans ((congrFun y 2).trans o2)
      refine a_l0 rfl rfl rfl ?_
      refine a_l0 rfl rfl rfl ?_
      refine a_getq rfl gfX12_13_12 rfl (rfl) ?_
      refine a_s rfl rfl ?_
      refine a_ialdv (v := I 421 2) rfl (n := 2033) rfl ⟨by decide, by decide⟩ t2 ?_
      refine a_s rfl rfl ?_
      refine a_ic_ne rfl (fun c12 => ?_) (fun c12 => ?_)
      rotate_left
      · refine a_s rfl rfl ?_
        refine a_goto rfl ?_
        refine a_s rfl rfl ?_
        refine a_eV1 rfl lX12_243 mo_X12_throwsIf (h_throwsIf (z := true)) rfl rfl rfl ⟨12, _, rfl, rfl, rfl⟩ rfl ?_
        rw [if_pos rfl]
        refine a_if_eq rfl (fun z => absurd z (by decide)) (fun _ => ?_)
        refine restore (GX.up hg1 rfl (by decide)) (fun K k1 k2 => Or.inr (Or.inl ⟨rfl, c12, rfl, (k2 0).trans up2_at, ?_, k1, ?_⟩))
        · rw [k2 14, up2_ne (Or.inr (by decide))]
          exact up2_at
        · rw [k2 7, up2_ne (Or.inr (by decide)), up2_ne (Or.inr (by decide))]
          exact j7
      refine a_s rfl rfl ?_
      refine a_s rfl rfl ?_
      refine a_eV1 rfl lX12_243 mo_X12_throwsIf (h_throwsIf (z := false)) rfl rfl rfl ⟨12, _, rfl, rfl, rfl⟩ rfl ?_
      rw [if_neg Bool.false_ne_true]
      refine a_if_eq rfl (fun _ => ?_) (fun z => absurd rfl z)
      have sf : SF (dn W1) (pn W1) (up2 J 420 14 (-1)) := by
        unfold SF
        rw [up2_row (by decide), y]
        exact ⟨org.so, org.fr⟩
      generalize hM : up2 J 420 14 (-1) = M at hg1 t2 sf
      have m421 : M 421 = W1 := by
        subst hM
        rw [up2_row (by decide)]
        exact y
      have m0 : M 420 0 = 0 := by
        subst hM
        exact (up2_ne (Or.inr (by decide))).trans j0
      have m14 : M 420 14 = -1 := by
        subst hM
        exact up2_at
      refine a_l0 rfl rfl rfl ?_
      refine a_getq rfl gfX12_13_12 rfl (rfl) ?_
      refine a_s rfl rfl ?_
      refine a_s rfl rfl ?_
      refine a_ialdv (v := I 421 2) rfl (n := 2033) rfl ⟨by decide, by decide⟩ t2 ?_
      refine a_s rfl rfl ?_
      refine a_s rfl rfl ?_
      refine a_iastv (k := 2) rfl (n := 2033) rfl ⟨by decide, by decide⟩ rfl ?_
      refine a_l0 rfl rfl rfl ?_
      refine a_s rfl rfl ?_
      refine a_puti rfl pfX12_53_12 rfl ?_
      refine a_l0 rfl rfl rfl ?_
      refine a_getq rfl gfX12_13_12 rfl (rfl) ?_
      refine a_s rfl rfl ?_
      refine a_ialdv (v := I 421 2 + 1) rfl (n := 2033) rfl ⟨by decide, by decide⟩ ((congrFun (up2_row (by decide)) 2).trans up2_at) ?_
      have e9 : ∀ q, q ≠ 421 → q ≠ 420 → up2 (up2 M 421 2 (I 421 2 + 1)) 420 7 0 q = M q := fun q h1 h2 => by rw [up2_row h2, up2_row h1]
      refine a_iret rfl rfl ⟨_, _, _, rfl, Us.done hr hg1 sf, (e9 422 (by decide) (by decide)).trans (funext fun k => hg1.1 422 k rfl), (e9 425 (by decide) (by decide)).trans (funext fun k => hg1.1 425 k rfl), Or.inr (Or.inr ⟨rfl, c12, rfl, ?_, ?_, ?_, up2_at⟩)⟩
      · rw [up2_ne (Or.inr (by decide)), up2_row (by decide)]
        exact m0
      · rw [up2_ne (Or.inr (by decide)), up2_row (by decide)]
        exact m14
      · rw [up2_row (by decide), up2_ud, m421]
  refine a_s rfl rfl ?_
  refine a_s1 rfl rfl rfl rfl rfl rfl ?_
  refine a_forE (n := 1184) (fun j => [some (.ref 420), some (.int (nI j)), none]) (fun j => hp (cpR I 423 0 421 0 j) L w1 w2 t) (by simp [lsub, nI_0]) (by rw [cpR_0]) ?_ (fun j hj ih => ?_)
  · refine a_l1 rfl rfl rfl ?_
    refine a_s rfl rfl ?_
    refine a_ic_ge rfl (fun _ => k27) (fun c => absurd (Int32.le_refl _) c)
  · refine a_l1 rfl rfl rfl ?_
    refine a_s rfl rfl ?_
    refine a_ic_ge rfl (fun c => absurd c (nI_ge (b := 1184) hj (by omega))) (fun _ => ?_)
    refine a_l0 rfl rfl rfl ?_
    refine a_getq rfl gfX12_20_12 rfl (rfl) ?_
    refine a_l1 rfl rfl rfl ?_
    refine a_l0 rfl rfl rfl ?_
    refine a_getq rfl gfX12_13_12 rfl (rfl) ?_
    refine a_l1 rfl rfl rfl ?_
    refine a_ialdv (v := I 421 (j + 0)) rfl (n := 2033) rfl (inI_nI (by omega) (by omega)) (by rw [nI_clamp (by omega), cpR_row (by decide)]; rfl) ?_
    refine a_iastv (k := 0 + j) rfl (n := 1184) rfl (inI_nI (by omega) (by omega)) (by rw [nI_clamp (by omega)]; omega) ?_
    rw [cpR_succ]
    refine a_i1 rfl rfl rfl ?_
    refine a_goto rfl ?_
    exact a_back ih (by simp [lsub, nI_1]) rfl
end T79r
end
section
/-! ===== the reference's acts, exactly (printed by program) ===== -/
section T79s
variable {S : aS} {I : Nat → Nat → Int32} {L : Nat → Nat → Int64} {w1 w2 t : Nat} {nd np r : Nat}
set_option maxRecDepth 100000
def ixN (x : Int32) : Nat := x.toNatClampNeg
theorem ixN_nI {i : Nat} (h : i < 2 ^ 31) : ixN (nI i) = i := nI_clamp h
theorem inB_ix {n : Nat} {x : Int32} (hn : n < 2 ^ 31) (h : inB x 0 (nI n - 1) = true) : ∃ j, j < n ∧ x = nI j := isIx hn (by rw [h]; rfl)
theorem h_remembers (er : I 420 7 = nI r) (hr12 : r ≤ 12) : SpE S m_X12_remembers 12 [.ref 420] (hp I L w1 w2 t) none (hp (remH I r) L w1 w2 t) := by
  refine SpE_of ok_X12_remembers rfl rfl ?_
  show AW S m_X12_remembers 12 _ _ 0 0 0 [some (.ref 420), none] [] (hp I L w1 w2 t)
  refine a_l0 rfl rfl rfl ?_
  refine a_geti rfl gfX12_53_12 rfl ?_
  refine a_top (y := nI r) (er) ?_
  refine a_s rfl rfl ?_
  refine a_ic_ne rfl (fun c => ?_) (fun c => ?_)
  · have h12 : ¬ r = 12 := fun z => c (by rw [z]; rfl)
    unfold remH
    rw [if_neg h12]
    refine a_l0 rfl rfl rfl ?_
    refine a_s rfl rfl ?_
    refine a_geti rfl gfX12_53_12 rfl ?_
    refine a_top (y := nI r) (er) ?_
    refine a_s rfl rfl ?_
    refine a_s rfl rfl ?_
    refine a_top (y := nI (r + 1)) ((nI_succ _).symm) ?_
    refine a_puti rfl pfX12_53_12 rfl ?_
    exact rem2 (by omega) up2_at ⟨rfl, rfl⟩
  · have h12 : r = 12 := nI_inj (by omega) (by decide) c
    subst h12
    unfold remH
    rw [if_pos rfl]
    refine a_s rfl rfl ?_
    refine a_s1 rfl rfl rfl rfl rfl rfl ?_
    refine a_forE (n := 3685) (fun j => [some (.ref 420), some (.int (nI j))]) (fun j => hp (cpR I 425 0 425 335 j) L w1 w2 t) (by simp [lsub, nI_0]) (by rw [cpR_0]) ?_ (fun j hj ih => ?_)
    · refine a_l1 rfl rfl rfl ?_
      refine a_s rfl rfl ?_
      refine a_ic_ge rfl (fun _ => ?_) (fun c => absurd (Int32.le_refl _) c)
      refine a_goto rfl ?_
      exact rem2 (m := 11) (by decide) ((congrFun (cpR_row (by decide)) 7).trans er) ⟨rfl, rfl⟩
    · refine a_l1 rfl rfl rfl ?_
      refine a_s rfl rfl ?_
      refine a_ic_ge rfl (fun c => absurd c (nI_ge (b := 3685) hj (by omega))) (fun _ => ?_)
      refine a_l0 rfl rfl rfl ?_
      refine a_getq rfl gfX12_26_12 rfl (rfl) ?_
      refine a_l1 rfl rfl rfl ?_
      refine a_l0 rfl rfl rfl ?_
      refine a_getq rfl gfX12_26_12 rfl (rfl) ?_
      refine a_l1 rfl rfl rfl ?_
      refine a_s rfl rfl ?_
      refine a_s rfl rfl ?_
      refine a_top (y := nI (j + 335)) (nI_addl j 335) ?_
      refine a_ialdv (v := I 425 (j + 335)) rfl (n := 4020) rfl (inI_nI (by omega) (by omega)) (by rw [nI_clamp (by omega)]; exact cpR_out (by omega)) ?_
      refine a_iastv (k := 0 + j) rfl (n := 4020) rfl (inI_nI (by omega) (by omega)) (by rw [nI_clamp (by omega)]; omega) ?_
      rw [cpR_succ]
      refine a_i1 rfl rfl rfl ?_
      refine a_goto rfl ?_
      exact a_back ih (by simp [lsub, nI_1]) rfl
theorem remH_421 : remH I r 421 = I 421 := by
  unfold remH
  by_cases c : r = 12
  · rw [if_pos c, cpR_row (by decide), cpR_row (by decide)]
  · rw [if_neg c, cpR_row (by decide), up2_row (by decide)]
/-- an act: refused, or done behind its being remembered -/
def QA (I : Nat → Nat → Int32) (r : Nat) (c v : Int32) (f : (Nat → Nat → Int32) → Nat → Nat → Int32) (L : Nat → Nat → Int64) (w1 w2 t : Nat) : Option Value → aH → Prop := fun v' h' => (c = 0 ∧ v' = some (.int v) ∧ h' = hp (f (remH (up2 I 420 0 0) r)) L w1 w2 t) ∨ (¬ c = 0 ∧ v' = some (.int 0) ∧ h' = hp (up2 (up2 I 420 0 0) 420 0 c) L w1 w2 t)
theorem QA.no {c v k : Int32} {f : (Nat → Nat → Int32) → Nat → Nat → Int32} (hc : c = k) (hk : ¬ k = 0) : QA I r c v f L w1 w2 t (some (.int 0)) (hp (up2 (up2 I 420 0 0) 420 0 k) L w1 w2 t) := by
  subst hc
  exact Or.inr ⟨hk, rfl, rfl⟩
theorem QA.yes {c v x : Int32} {f : (Nat → Nat → Int32) → Nat → Nat → Int32} {J : Nat → Nat → Int32} (hc : c = 0) (hx : x = v) (hJ : J = f (remH (up2 I 420 0 0) r)) : QA I r c v f L w1 w2 t (some (.int x)) (hp J L w1 w2 t) := Or.inl ⟨hc, by rw [hx], by rw [hJ]⟩
def vS (nd : Nat) (W : Nat → Int32) (k x : Int32) : Int32 := if inB x 0 (nI nd - 1) = true then (if W (23 + 6 * ixN x + 5) = k then 0 else 2) else 1
def vC (nd : Nat) (W : Nat → Int32) (x : Int32) : Int32 := if inB x 0 (nI nd - 1) = true then (if canR nd W (ixN x) = true then 0 else 2) else 1
def vH (nd np : Nat) (W : Nat → Int32) (x y : Int32) : Int32 := if inB x 0 (nI nd - 1) = true ∧ inB y 0 (nI np - 1) = true then (if W (23 + 6 * ixN x + 0) = y then 2 else if W (23 + 6 * ixN x + 5) = 1 then 3 else 0) else 1
def vL (nd : Nat) (x y : Int32) : Int32 := if inB x 0 (nI nd - 1) = true ∧ (y = -1 ∨ inB y 0 (nI nd - 1) = true) then (if x = y then 2 else 0) else 1
def vF (np : Nat) (x y : Int32) : Int32 := if inB x 0 (nI np - 1) = true then (if inB y 0 9 = true then 0 else 2) else 1
theorem h_isNow {i : Nat} (hi : i < 12) {x : Int32} : SpE S m_X12_isNow 13 [.ref 420, .int (nI i), .int x] (hp I L w1 w2 t) none (hp (up2 I 421 (23 + 6 * i + 5) x) L w1 w2 t) := by
  refine SpE_of ok_X12_isNow rfl rfl ?_
  show AW S m_X12_isNow 13 _ _ 0 0 0 [some (.ref 420), some (.int (nI i)), some (.int x)] [] (hp I L w1 w2 t)
  refine a_l0 rfl rfl rfl ?_
  refine a_getq rfl gfX12_13_12 rfl (rfl) ?_
  refine a_l1 rfl rfl rfl ?_
  refine a_s rfl rfl ?_
  refine a_eS1 rfl lX12_60 mo_X12_at (sp_X12_at (d := i) (k := 5)) rfl rfl rfl rfl ?_
  refine a_l2 rfl rfl rfl ?_
  refine a_iastv (k := 23 + 6 * i + 5) rfl (n := 2033) rfl (inI_nI (by omega) (by omega)) (nI_clamp (by omega)) ?_
  exact a_vret rfl rfl ⟨rfl, rfl⟩
theorem h_finishes {i : Nat} (hi : i < 12) : SpE S m_X12_finishes 14 [.ref 420, .int (nI i)] (hp I L w1 w2 t) none (hp (up2 (up2 I 421 (23 + 6 * i + 1) 0) 421 (23 + 6 * i + 5) 1) L w1 w2 t) := by
  refine SpE_of ok_X12_finishes rfl rfl ?_
  show AW S m_X12_finishes 14 _ _ 0 0 0 [some (.ref 420), some (.int (nI i))] [] (hp I L w1 w2 t)
  refine a_l0 rfl rfl rfl ?_
  refine a_getq rfl gfX12_13_12 rfl (rfl) ?_
  refine a_l1 rfl rfl rfl ?_
  refine a_s rfl rfl ?_
  refine a_eS1 rfl lX12_60 mo_X12_at (sp_X12_at (d := i) (k := 1)) rfl rfl rfl rfl ?_
  refine a_s rfl rfl ?_
  refine a_iastv (k := 23 + 6 * i + 1) rfl (n := 2033) rfl (inI_nI (by omega) (by omega)) (nI_clamp (by omega)) ?_
  refine a_l0 rfl rfl rfl ?_
  refine a_l1 rfl rfl rfl ?_
  refine a_s rfl rfl ?_
  refine a_eV0 rfl lX12_354 mo_X12_isNow (h_isNow hi) rfl rfl rfl ⟨12, _, rfl, rfl, rfl⟩ rfl ?_
  exact a_vret rfl rfl ⟨rfl, rfl⟩
theorem h_put (hs : SO nd np (I 421)) (er : I 420 7 = nI r) (hr12 : r ≤ 12) {x1 : Int32} : Sp S m_X12_put 16 0 0 [.ref 420, .int x1] (hp I L w1 w2 t) (QA I r (vS nd (I 421) 0 x1) (mn 99 (I 421 (23 + 6 * ixN x1 + 2) + 1)) (fun J => up2 J 421 (23 + 6 * ixN x1 + 2) (mn 99 (I 421 (23 + 6 * ixN x1 + 2) + 1))) L w1 w2 t) nX := by
  have hn := hs.n
  have hp6 := hs.p
  have e21 : up2 I 420 0 0 421 = I 421 := up2_row (by decide)
  have er0 : up2 I 420 0 0 420 7 = nI r := (up2_ne (Or.inr (by decide))).trans er
  have s0 : SO nd np (up2 I 420 0 0 421) := by rw [e21]; exact hs
  have s1 : SO nd np (remH (up2 I 420 0 0) r 421) := by rw [remH_421]; exact s0
  have e22 : remH (up2 I 420 0 0) r 421 = I 421 := remH_421.trans e21
  refine Sp_of ok_X12_put rfl rfl ?_
  show AW S m_X12_put 16 _ _ 0 0 0 [some (.ref 420), some (.int x1)] [] (hp I L w1 w2 t)
  refine a_l0 rfl rfl rfl ?_
  refine a_s rfl rfl ?_
  refine a_puti rfl pfX12_3_12 rfl ?_
  refine a_l0 rfl rfl rfl ?_
  refine a_l0 rfl rfl rfl ?_
  refine a_l1 rfl rfl rfl ?_
  refine a_eV1 rfl lX12_289 mo_X12_noDuty (r_X12_noDuty s0) rfl rfl rfl ⟨12, _, rfl, rfl, rfl⟩ rfl ?_
  obtain ⟨z, hz⟩ : ∃ z, inB x1 0 (nI nd - 1) = z := ⟨_, rfl⟩
  rw [hz]
  refine a_s rfl rfl ?_
  cases z with
  | false =>
    refine a_eV1 rfl lX12_243 mo_X12_throwsIf (h_throwsIf (z := true)) rfl rfl rfl ⟨12, _, rfl, rfl, rfl⟩ rfl ?_
    rw [if_pos rfl]
    refine a_if_ne rfl (fun _ => ?_) (fun c => absurd c (by decide))
    refine a_s rfl rfl ?_
    exact a_iret rfl rfl (QA.no (if_neg (by rw [hz]; exact Bool.false_ne_true)) (by decide))
  | true =>
    refine a_eV1 rfl lX12_243 mo_X12_throwsIf (h_throwsIf (z := false)) rfl rfl rfl ⟨12, _, rfl, rfl, rfl⟩ rfl ?_
    rw [if_neg Bool.false_ne_true]
    refine a_if_ne rfl (fun c => absurd rfl c) (fun _ => ?_)
    obtain ⟨i, hi, rfl⟩ := inB_ix (by omega) hz
    have hx := ixN_nI (i := i) (by omega)
    refine a_l0 rfl rfl rfl ?_
    refine a_l0 rfl rfl rfl ?_
    refine a_l1 rfl rfl rfl ?_
    refine a_eV1 rfl lX12_135 mo_X12_isWaiting (sp_X12_isWaiting (d := i) (by omega)) rfl rfl rfl ⟨12, _, rfl, rfl, rfl⟩ rfl ?_
    rw [show vd (up2 I 420 0 0 421) 5 i = I 421 (23 + 6 * i + 5) from congrFun e21 _]
    by_cases cw : I 421 (23 + 6 * i + 5) = 0
    · rw [decide_eq_true cw]
      refine a_if_ne rfl (fun _ => ?_) (fun c => absurd c (by decide))
      refine a_s rfl rfl ?_
      refine a_s rfl rfl ?_
      refine a_eV1 rfl lX12_243 mo_X12_throwsIf (h_throwsIf (z := false)) rfl rfl rfl ⟨12, _, rfl, rfl, rfl⟩ rfl ?_
      rw [if_neg Bool.false_ne_true]
      refine a_if_eq rfl (fun _ => ?_) (fun c => absurd rfl c)
      refine a_l0 rfl rfl rfl ?_
      refine a_eV0 rfl lX12_357 mo_X12_remembers (h_remembers er0 hr12) rfl rfl rfl ⟨12, _, rfl, rfl, rfl⟩ rfl ?_
      refine a_l0 rfl rfl rfl ?_
      refine a_getq rfl gfX12_13_12 rfl (rfl) ?_
      refine a_l1 rfl rfl rfl ?_
      refine a_s rfl rfl ?_
      refine a_eS1 rfl lX12_60 mo_X12_at (sp_X12_at (d := i) (k := 2)) rfl rfl rfl rfl ?_
      refine a_s rfl rfl ?_
      refine a_l0 rfl rfl rfl ?_
      refine a_l1 rfl rfl rfl ?_
      refine a_s rfl rfl ?_
      refine a_eV1 rfl lX12_63 mo_X12_of (sp_X12_of (d := i) (k := 2) (by omega) (by decide)) rfl rfl rfl ⟨12, _, rfl, rfl, rfl⟩ rfl ?_
      rw [show vd (remH (up2 I 420 0 0) r 421) 2 i = I 421 (23 + 6 * i + 2) from congrFun e22 _]
      refine a_s rfl rfl ?_
      refine a_s rfl rfl ?_
      refine a_min rfl lX12_295 mj_min rfl rfl ?_
      refine a_iastv (k := (23 + 6 * i + 2)) rfl (n := 2033) rfl (inI_nI (by omega) (by omega)) (nI_clamp (by omega)) ?_
      refine a_l0 rfl rfl rfl ?_
      refine a_l1 rfl rfl rfl ?_
      refine a_s rfl rfl ?_
      refine a_eV1 rfl lX12_63 mo_X12_of (sp_X12_of (d := i) (k := 2) (by omega) (by decide)) rfl rfl rfl ⟨12, _, rfl, rfl, rfl⟩ rfl ?_
      exact a_iret rfl rfl (QA.yes ((if_pos hz).trans (if_pos (by rw [hx]; exact cw))) (by rw [hx]; exact up2_at) (by rw [hx]; rfl))
    · rw [decide_eq_false cw]
      refine a_if_ne rfl (fun c => absurd rfl c) (fun _ => ?_)
      refine a_s rfl rfl ?_
      refine a_goto rfl ?_
      refine a_s rfl rfl ?_
      refine a_eV1 rfl lX12_243 mo_X12_throwsIf (h_throwsIf (z := true)) rfl rfl rfl ⟨12, _, rfl, rfl, rfl⟩ rfl ?_
      rw [if_pos rfl]
      refine a_if_eq rfl (fun c => absurd c (by decide)) (fun _ => ?_)
      refine a_s rfl rfl ?_
      exact a_iret rfl rfl (QA.no ((if_pos hz).trans (if_neg (by rw [hx]; exact cw))) (by decide))
theorem h_forget (hs : SO nd np (I 421)) (er : I 420 7 = nI r) (hr12 : r ≤ 12) {x1 : Int32} : Sp S m_X12_forget 16 0 0 [.ref 420, .int x1] (hp I L w1 w2 t) (QA I r (vS nd (I 421) 0 x1) (I 421 (23 + 6 * ixN x1 + 1)) (fun J => up2 J 421 (23 + 6 * ixN x1 + 5) 2) L w1 w2 t) nX := by
  have hn := hs.n
  have hp6 := hs.p
  have e21 : up2 I 420 0 0 421 = I 421 := up2_row (by decide)
  have er0 : up2 I 420 0 0 420 7 = nI r := (up2_ne (Or.inr (by decide))).trans er
  have s0 : SO nd np (up2 I 420 0 0 421) := by rw [e21]; exact hs
  have s1 : SO nd np (remH (up2 I 420 0 0) r 421) := by rw [remH_421]; exact s0
  have e22 : remH (up2 I 420 0 0) r 421 = I 421 := remH_421.trans e21
  refine Sp_of ok_X12_forget rfl rfl ?_
  show AW S m_X12_forget 16 _ _ 0 0 0 [some (.ref 420), some (.int x1)] [] (hp I L w1 w2 t)
  refine a_l0 rfl rfl rfl ?_
  refine a_s rfl rfl ?_
  refine a_puti rfl pfX12_3_12 rfl ?_
  refine a_l0 rfl rfl rfl ?_
  refine a_l0 rfl rfl rfl ?_
  refine a_l1 rfl rfl rfl ?_
  refine a_eV1 rfl lX12_289 mo_X12_noDuty (r_X12_noDuty s0) rfl rfl rfl ⟨12, _, rfl, rfl, rfl⟩ rfl ?_
  obtain ⟨z, hz⟩ : ∃ z, inB x1 0 (nI nd - 1) = z := ⟨_, rfl⟩
  rw [hz]
  refine a_s rfl rfl ?_
  cases z with
  | false =>
    refine a_eV1 rfl lX12_243 mo_X12_throwsIf (h_throwsIf (z := true)) rfl rfl rfl ⟨12, _, rfl, rfl, rfl⟩ rfl ?_
    rw [if_pos rfl]
    refine a_if_ne rfl (fun _ => ?_) (fun c => absurd c (by decide))
    refine a_s rfl rfl ?_
    exact a_iret rfl rfl (QA.no (if_neg (by rw [hz]; exact Bool.false_ne_true)) (by decide))
  | true =>
    refine a_eV1 rfl lX12_243 mo_X12_throwsIf (h_throwsIf (z := false)) rfl rfl rfl ⟨12, _, rfl, rfl, rfl⟩ rfl ?_
    rw [if_neg Bool.false_ne_true]
    refine a_if_ne rfl (fun c => absurd rfl c) (fun _ => ?_)
    obtain ⟨i, hi, rfl⟩ := inB_ix (by omega) hz
    have hx := ixN_nI (i := i) (by omega)
    refine a_l0 rfl rfl rfl ?_
    refine a_l0 rfl rfl rfl ?_
    refine a_l1 rfl rfl rfl ?_
    refine a_eV1 rfl lX12_135 mo_X12_isWaiting (sp_X12_isWaiting (d := i) (by omega)) rfl rfl rfl ⟨12, _, rfl, rfl, rfl⟩ rfl ?_
    rw [show vd (up2 I 420 0 0 421) 5 i = I 421 (23 + 6 * i + 5) from congrFun e21 _]
    by_cases cw : I 421 (23 + 6 * i + 5) = 0
    · rw [decide_eq_true cw]
      refine a_if_ne rfl (fun _ => ?_) (fun c => absurd c (by decide))
      refine a_s rfl rfl ?_
      refine a_s rfl rfl ?_
      refine a_eV1 rfl lX12_243 mo_X12_throwsIf (h_throwsIf (z := false)) rfl rfl rfl ⟨12, _, rfl, rfl, rfl⟩ rfl ?_
      rw [if_neg Bool.false_ne_true]
      refine a_if_eq rfl (fun _ => ?_) (fun c => absurd rfl c)
      refine a_l0 rfl rfl rfl ?_
      refine a_eV0 rfl lX12_357 mo_X12_remembers (h_remembers er0 hr12) rfl rfl rfl ⟨12, _, rfl, rfl, rfl⟩ rfl ?_
      refine a_l0 rfl rfl rfl ?_
      refine a_l1 rfl rfl rfl ?_
      refine a_s rfl rfl ?_
      refine a_eV0 rfl lX12_354 mo_X12_isNow (h_isNow (i := i) (by omega)) rfl rfl rfl ⟨12, _, rfl, rfl, rfl⟩ rfl ?_
      refine a_l0 rfl rfl rfl ?_
      refine a_l1 rfl rfl rfl ?_
      refine a_s rfl rfl ?_
      refine a_eV1 rfl lX12_63 mo_X12_of (sp_X12_of (d := i) (k := 1) (by omega) (by decide)) rfl rfl rfl ⟨12, _, rfl, rfl, rfl⟩ rfl ?_
      exact a_iret rfl rfl (QA.yes ((if_pos hz).trans (if_pos (by rw [hx]; exact cw))) (by rw [hx, show vd (up2 (remH (up2 I 420 0 0) r) 421 (23 + 6 * i + 5) 2 421) 1 i = remH (up2 I 420 0 0) r 421 (23 + 6 * i + 1) from up2_ne (Or.inr (by omega)), e22]) (by rw [hx]))
    · rw [decide_eq_false cw]
      refine a_if_ne rfl (fun c => absurd rfl c) (fun _ => ?_)
      refine a_s rfl rfl ?_
      refine a_goto rfl ?_
      refine a_s rfl rfl ?_
      refine a_eV1 rfl lX12_243 mo_X12_throwsIf (h_throwsIf (z := true)) rfl rfl rfl ⟨12, _, rfl, rfl, rfl⟩ rfl ?_
      rw [if_pos rfl]
      refine a_if_eq rfl (fun c => absurd c (by decide)) (fun _ => ?_)
      refine a_s rfl rfl ?_
      exact a_iret rfl rfl (QA.no ((if_pos hz).trans (if_neg (by rw [hx]; exact cw))) (by decide))
theorem h_recall (hs : SO nd np (I 421)) (er : I 420 7 = nI r) (hr12 : r ≤ 12) {x1 : Int32} : Sp S m_X12_recall 16 0 0 [.ref 420, .int x1] (hp I L w1 w2 t) (QA I r (vS nd (I 421) 2 x1) (I 421 (23 + 6 * ixN x1 + 2)) (fun J => up2 J 421 (23 + 6 * ixN x1 + 5) 0) L w1 w2 t) nX := by
  have hn := hs.n
  have hp6 := hs.p
  have e21 : up2 I 420 0 0 421 = I 421 := up2_row (by decide)
  have er0 : up2 I 420 0 0 420 7 = nI r := (up2_ne (Or.inr (by decide))).trans er
  have s0 : SO nd np (up2 I 420 0 0 421) := by rw [e21]; exact hs
  have s1 : SO nd np (remH (up2 I 420 0 0) r 421) := by rw [remH_421]; exact s0
  have e22 : remH (up2 I 420 0 0) r 421 = I 421 := remH_421.trans e21
  refine Sp_of ok_X12_recall rfl rfl ?_
  show AW S m_X12_recall 16 _ _ 0 0 0 [some (.ref 420), some (.int x1)] [] (hp I L w1 w2 t)
  refine a_l0 rfl rfl rfl ?_
  refine a_s rfl rfl ?_
  refine a_puti rfl pfX12_3_12 rfl ?_
  refine a_l0 rfl rfl rfl ?_
  refine a_l0 rfl rfl rfl ?_
  refine a_l1 rfl rfl rfl ?_
  refine a_eV1 rfl lX12_289 mo_X12_noDuty (r_X12_noDuty s0) rfl rfl rfl ⟨12, _, rfl, rfl, rfl⟩ rfl ?_
  obtain ⟨z, hz⟩ : ∃ z, inB x1 0 (nI nd - 1) = z := ⟨_, rfl⟩
  rw [hz]
  refine a_s rfl rfl ?_
  cases z with
  | false =>
    refine a_eV1 rfl lX12_243 mo_X12_throwsIf (h_throwsIf (z := true)) rfl rfl rfl ⟨12, _, rfl, rfl, rfl⟩ rfl ?_
    rw [if_pos rfl]
    refine a_if_ne rfl (fun _ => ?_) (fun c => absurd c (by decide))
    refine a_s rfl rfl ?_
    exact a_iret rfl rfl (QA.no (if_neg (by rw [hz]; exact Bool.false_ne_true)) (by decide))
  | true =>
    refine a_eV1 rfl lX12_243 mo_X12_throwsIf (h_throwsIf (z := false)) rfl rfl rfl ⟨12, _, rfl, rfl, rfl⟩ rfl ?_
    rw [if_neg Bool.false_ne_true]
    refine a_if_ne rfl (fun c => absurd rfl c) (fun _ => ?_)
    obtain ⟨i, hi, rfl⟩ := inB_ix (by omega) hz
    have hx := ixN_nI (i := i) (by omega)
    refine a_l0 rfl rfl rfl ?_
    refine a_l0 rfl rfl rfl ?_
    refine a_l1 rfl rfl rfl ?_
    refine a_eV1 rfl lX12_364 mo_X12_isForgotten (sp_X12_isForgotten (d := i) (by omega)) rfl rfl rfl ⟨12, _, rfl, rfl, rfl⟩ rfl ?_
    rw [show vd (up2 I 420 0 0 421) 5 i = I 421 (23 + 6 * i + 5) from congrFun e21 _]
    by_cases cw : I 421 (23 + 6 * i + 5) = 2
    · rw [decide_eq_true cw]
      refine a_if_ne rfl (fun _ => ?_) (fun c => absurd c (by decide))
      refine a_s rfl rfl ?_
      refine a_s rfl rfl ?_
      refine a_eV1 rfl lX12_243 mo_X12_throwsIf (h_throwsIf (z := false)) rfl rfl rfl ⟨12, _, rfl, rfl, rfl⟩ rfl ?_
      rw [if_neg Bool.false_ne_true]
      refine a_if_eq rfl (fun _ => ?_) (fun c => absurd rfl c)
      refine a_l0 rfl rfl rfl ?_
      refine a_eV0 rfl lX12_357 mo_X12_remembers (h_remembers er0 hr12) rfl rfl rfl ⟨12, _, rfl, rfl, rfl⟩ rfl ?_
      refine a_l0 rfl rfl rfl ?_
      refine a_l1 rfl rfl rfl ?_
      refine a_s rfl rfl ?_
      refine a_eV0 rfl lX12_354 mo_X12_isNow (h_isNow (i := i) (by omega)) rfl rfl rfl ⟨12, _, rfl, rfl, rfl⟩ rfl ?_
      refine a_l0 rfl rfl rfl ?_
      refine a_l1 rfl rfl rfl ?_
      refine a_s rfl rfl ?_
      refine a_eV1 rfl lX12_63 mo_X12_of (sp_X12_of (d := i) (k := 2) (by omega) (by decide)) rfl rfl rfl ⟨12, _, rfl, rfl, rfl⟩ rfl ?_
      exact a_iret rfl rfl (QA.yes ((if_pos hz).trans (if_pos (by rw [hx]; exact cw))) (by rw [hx, show vd (up2 (remH (up2 I 420 0 0) r) 421 (23 + 6 * i + 5) 0 421) 2 i = remH (up2 I 420 0 0) r 421 (23 + 6 * i + 2) from up2_ne (Or.inr (by omega)), e22]) (by rw [hx]))
    · rw [decide_eq_false cw]
      refine a_if_ne rfl (fun c => absurd rfl c) (fun _ => ?_)
      refine a_s rfl rfl ?_
      refine a_goto rfl ?_
      refine a_s rfl rfl ?_
      refine a_eV1 rfl lX12_243 mo_X12_throwsIf (h_throwsIf (z := true)) rfl rfl rfl ⟨12, _, rfl, rfl, rfl⟩ rfl ?_
      rw [if_pos rfl]
      refine a_if_eq rfl (fun c => absurd c (by decide)) (fun _ => ?_)
      refine a_s rfl rfl ?_
      exact a_iret rfl rfl (QA.no ((if_pos hz).trans (if_neg (by rw [hx]; exact cw))) (by decide))
theorem h_call (hs : SO nd np (I 421)) (er : I 420 7 = nI r) (hr12 : r ≤ 12) {x1 : Int32} : Sp S m_X12_call 19 0 0 [.ref 420, .int x1] (hp I L w1 w2 t) (QA I r (vC nd (I 421) x1) (passR nd (I 421) (ixN x1)) (fun J => up2 (up2 J 421 (23 + 6 * ixN x1 + 1) 0) 421 (23 + 6 * ixN x1 + 5) 1) L w1 w2 t) nX := by
  have hn := hs.n
  have hp6 := hs.p
  have e21 : up2 I 420 0 0 421 = I 421 := up2_row (by decide)
  have er0 : up2 I 420 0 0 420 7 = nI r := (up2_ne (Or.inr (by decide))).trans er
  have s0 : SO nd np (up2 I 420 0 0 421) := by rw [e21]; exact hs
  have s1 : SO nd np (remH (up2 I 420 0 0) r 421) := by rw [remH_421]; exact s0
  have e22 : remH (up2 I 420 0 0) r 421 = I 421 := remH_421.trans e21
  refine Sp_of ok_X12_call rfl rfl ?_
  show AW S m_X12_call 19 _ _ 0 0 0 [some (.ref 420), some (.int x1), none] [] (hp I L w1 w2 t)
  refine a_l0 rfl rfl rfl ?_
  refine a_s rfl rfl ?_
  refine a_puti rfl pfX12_3_12 rfl ?_
  refine a_l0 rfl rfl rfl ?_
  refine a_l0 rfl rfl rfl ?_
  refine a_l1 rfl rfl rfl ?_
  refine a_eV1 rfl lX12_289 mo_X12_noDuty (r_X12_noDuty s0) rfl rfl rfl ⟨12, _, rfl, rfl, rfl⟩ rfl ?_
  obtain ⟨z, hz⟩ : ∃ z, inB x1 0 (nI nd - 1) = z := ⟨_, rfl⟩
  rw [hz]
  refine a_s rfl rfl ?_
  cases z with
  | false =>
    refine a_eV1 rfl lX12_243 mo_X12_throwsIf (h_throwsIf (z := true)) rfl rfl rfl ⟨12, _, rfl, rfl, rfl⟩ rfl ?_
    rw [if_pos rfl]
    refine a_if_ne rfl (fun _ => ?_) (fun c => absurd c (by decide))
    refine a_s rfl rfl ?_
    exact a_iret rfl rfl (QA.no (if_neg (by rw [hz]; exact Bool.false_ne_true)) (by decide))
  | true =>
    refine a_eV1 rfl lX12_243 mo_X12_throwsIf (h_throwsIf (z := false)) rfl rfl rfl ⟨12, _, rfl, rfl, rfl⟩ rfl ?_
    rw [if_neg Bool.false_ne_true]
    refine a_if_ne rfl (fun c => absurd rfl c) (fun _ => ?_)
    obtain ⟨i, hi, rfl⟩ := inB_ix (by omega) hz
    have hx := ixN_nI (i := i) (by omega)
    refine a_l0 rfl rfl rfl ?_
    refine a_l0 rfl rfl rfl ?_
    refine a_l1 rfl rfl rfl ?_
    refine a_eV1 rfl lX12_280 mo_X12_canBeCalled (sp_X12_canBeCalled (nd := nd) hn s0.du s0.l hi) rfl rfl rfl ⟨12, _, rfl, rfl, rfl⟩ rfl ?_
    rw [e21]
    by_cases cw : canR nd (I 421) i = true
    · rw [cw]
      refine a_if_ne rfl (fun _ => ?_) (fun c => absurd c (by decide))
      refine a_s rfl rfl ?_
      refine a_s rfl rfl ?_
      refine a_eV1 rfl lX12_243 mo_X12_throwsIf (h_throwsIf (z := false)) rfl rfl rfl ⟨12, _, rfl, rfl, rfl⟩ rfl ?_
      rw [if_neg Bool.false_ne_true]
      refine a_if_eq rfl (fun _ => ?_) (fun c => absurd rfl c)
      refine a_l0 rfl rfl rfl ?_
      refine a_eV0 rfl lX12_357 mo_X12_remembers (h_remembers er0 hr12) rfl rfl rfl ⟨12, _, rfl, rfl, rfl⟩ rfl ?_
      refine a_l0 rfl rfl rfl ?_
      refine a_l1 rfl rfl rfl ?_
      refine a_eV1 rfl lX12_276 mo_X12_passesBy (sp_X12_passesBy (nd := nd) hn s1.du hi) rfl rfl rfl ⟨12, _, rfl, rfl, rfl⟩ rfl ?_
      refine a_s2 rfl rfl rfl rfl rfl rfl ?_
      refine a_l0 rfl rfl rfl ?_
      refine a_l1 rfl rfl rfl ?_
      refine a_eV0 rfl lX12_360 mo_X12_finishes (h_finishes (i := i) (by omega)) rfl rfl rfl ⟨12, _, rfl, rfl, rfl⟩ rfl ?_
      refine a_l2 rfl rfl rfl ?_
      exact a_iret rfl rfl (QA.yes ((if_pos hz).trans (if_pos (by rw [hx]; exact cw))) (by rw [hx, e22]) (by rw [hx]))
    · rw [Bool.eq_false_iff.mpr cw]
      refine a_if_ne rfl (fun c => absurd rfl c) (fun _ => ?_)
      refine a_s rfl rfl ?_
      refine a_goto rfl ?_
      refine a_s rfl rfl ?_
      refine a_eV1 rfl lX12_243 mo_X12_throwsIf (h_throwsIf (z := true)) rfl rfl rfl ⟨12, _, rfl, rfl, rfl⟩ rfl ?_
      rw [if_pos rfl]
      refine a_if_eq rfl (fun c => absurd c (by decide)) (fun _ => ?_)
      refine a_s rfl rfl ?_
      exact a_iret rfl rfl (QA.no ((if_pos hz).trans (if_neg (by rw [hx]; exact cw))) (by decide))
theorem h_hand (hs : SO nd np (I 421)) (er : I 420 7 = nI r) (hr12 : r ≤ 12) {x1 x2 : Int32} : Sp S m_X12_hand 16 0 0 [.ref 420, .int x1, .int x2] (hp I L w1 w2 t) (QA I r (vH nd np (I 421) x1 x2) (I 421 (23 + 6 * ixN x1 + 0)) (fun J => up2 J 421 (23 + 6 * ixN x1 + 0) x2) L w1 w2 t) nX := by
  have hn := hs.n
  have hp6 := hs.p
  have e21 : up2 I 420 0 0 421 = I 421 := up2_row (by decide)
  have er0 : up2 I 420 0 0 420 7 = nI r := (up2_ne (Or.inr (by decide))).trans er
  have s0 : SO nd np (up2 I 420 0 0 421) := by rw [e21]; exact hs
  have s1 : SO nd np (remH (up2 I 420 0 0) r 421) := by rw [remH_421]; exact s0
  have e22 : remH (up2 I 420 0 0) r 421 = I 421 := remH_421.trans e21
  refine Sp_of ok_X12_hand rfl rfl ?_
  show AW S m_X12_hand 16 _ _ 0 0 0 [some (.ref 420), some (.int x1), some (.int x2), none] [] (hp I L w1 w2 t)
  refine a_l0 rfl rfl rfl ?_
  refine a_s rfl rfl ?_
  refine a_puti rfl pfX12_3_12 rfl ?_
  refine a_l0 rfl rfl rfl ?_
  refine a_l0 rfl rfl rfl ?_
  refine a_l1 rfl rfl rfl ?_
  refine a_eV1 rfl lX12_289 mo_X12_noDuty (r_X12_noDuty s0) rfl rfl rfl ⟨12, _, rfl, rfl, rfl⟩ rfl ?_
  obtain ⟨z, hz⟩ : ∃ z, inB x1 0 (nI nd - 1) = z := ⟨_, rfl⟩
  rw [hz]
  cases z with
  | false =>
    refine a_if_ne rfl (fun _ => ?_) (fun c => absurd c (by decide))
    refine a_s rfl rfl ?_
    refine a_goto rfl ?_
    refine a_s rfl rfl ?_
    refine a_eV1 rfl lX12_243 mo_X12_throwsIf (h_throwsIf (z := true)) rfl rfl rfl ⟨12, _, rfl, rfl, rfl⟩ rfl ?_
    rw [if_pos rfl]
    refine a_if_ne rfl (fun _ => ?_) (fun c => absurd c (by decide))
    refine a_s rfl rfl ?_
    exact a_iret rfl rfl (QA.no (if_neg (fun z => by rw [hz] at z; exact Bool.false_ne_true z.1)) (by decide))
  | true =>
  refine a_if_ne rfl (fun c => absurd rfl c) (fun _ => ?_)
  refine a_l0 rfl rfl rfl ?_
  refine a_l2 rfl rfl rfl ?_
  refine a_eV1 rfl lX12_342 mo_X12_noPerson (r_X12_noPerson s0) rfl rfl rfl ⟨12, _, rfl, rfl, rfl⟩ rfl ?_
  obtain ⟨z2, hz2⟩ : ∃ z, inB x2 0 (nI np - 1) = z := ⟨_, rfl⟩
  rw [hz2]
  cases z2 with
  | false =>
    refine a_if_eq rfl (fun c => absurd c (by decide)) (fun _ => ?_)
    refine a_s rfl rfl ?_
    refine a_goto rfl ?_
    refine a_s rfl rfl ?_
    refine a_eV1 rfl lX12_243 mo_X12_throwsIf (h_throwsIf (z := true)) rfl rfl rfl ⟨12, _, rfl, rfl, rfl⟩ rfl ?_
    rw [if_pos rfl]
    refine a_if_ne rfl (fun _ => ?_) (fun c => absurd c (by decide))
    refine a_s rfl rfl ?_
    exact a_iret rfl rfl (QA.no (if_neg (fun z => by rw [hz2] at z; exact Bool.false_ne_true z.2)) (by decide))
  | true =>
  refine a_if_eq rfl (fun _ => ?_) (fun c => absurd rfl c)
  refine a_s rfl rfl ?_
  refine a_s rfl rfl ?_
  refine a_eV1 rfl lX12_243 mo_X12_throwsIf (h_throwsIf (z := false)) rfl rfl rfl ⟨12, _, rfl, rfl, rfl⟩ rfl ?_
  rw [if_neg Bool.false_ne_true]
  refine a_if_ne rfl (fun c => absurd rfl c) (fun _ => ?_)
  obtain ⟨i, hi, rfl⟩ := inB_ix (by omega) hz
  have hx := ixN_nI (i := i) (by omega)
  refine a_l0 rfl rfl rfl ?_
  refine a_l0 rfl rfl rfl ?_
  refine a_l1 rfl rfl rfl ?_
  refine a_s rfl rfl ?_
  refine a_eV1 rfl lX12_63 mo_X12_of (sp_X12_of (d := i) (k := 0) (by omega) (by decide)) rfl rfl rfl ⟨12, _, rfl, rfl, rfl⟩ rfl ?_
  rw [show vd (up2 I 420 0 0 421) 0 i = I 421 (23 + 6 * i + 0) from congrFun e21 _]
  refine a_l2 rfl rfl rfl ?_
  refine a_ic_ne rfl (fun c => ?_) (fun c => ?_)
  rotate_left
  · refine a_s rfl rfl ?_
    refine a_goto rfl ?_
    refine a_s rfl rfl ?_
    refine a_eV1 rfl lX12_243 mo_X12_throwsIf (h_throwsIf (z := true)) rfl rfl rfl ⟨12, _, rfl, rfl, rfl⟩ rfl ?_
    rw [if_pos rfl]
    refine a_if_ne rfl (fun _ => ?_) (fun c => absurd c (by decide))
    refine a_s rfl rfl ?_
    exact a_iret rfl rfl (QA.no ((if_pos ⟨hz, hz2⟩).trans (if_pos (by rw [hx]; exact c))) (by decide))
  refine a_s rfl rfl ?_
  refine a_s rfl rfl ?_
  refine a_eV1 rfl lX12_243 mo_X12_throwsIf (h_throwsIf (z := false)) rfl rfl rfl ⟨12, _, rfl, rfl, rfl⟩ rfl ?_
  rw [if_neg Bool.false_ne_true]
  refine a_if_ne rfl (fun c => absurd rfl c) (fun _ => ?_)
  refine a_l0 rfl rfl rfl ?_
  refine a_l0 rfl rfl rfl ?_
  refine a_l1 rfl rfl rfl ?_
  refine a_eV1 rfl lX12_246 mo_X12_isDone (sp_X12_isDone (d := i) (by omega)) rfl rfl rfl ⟨12, _, rfl, rfl, rfl⟩ rfl ?_
  rw [show vd (up2 I 420 0 0 421) 5 i = I 421 (23 + 6 * i + 5) from congrFun e21 _]
  refine a_s rfl rfl ?_
  by_cases cw : I 421 (23 + 6 * i + 5) = 1
  · rw [decide_eq_true cw]
    refine a_eV1 rfl lX12_243 mo_X12_throwsIf (h_throwsIf (z := true)) rfl rfl rfl ⟨12, _, rfl, rfl, rfl⟩ rfl ?_
    rw [if_pos rfl]
    refine a_if_eq rfl (fun c => absurd c (by decide)) (fun _ => ?_)
    refine a_s rfl rfl ?_
    exact a_iret rfl rfl (QA.no ((if_pos ⟨hz, hz2⟩).trans ((if_neg (by rw [hx]; exact c)).trans (if_pos (by rw [hx]; exact cw)))) (by decide))
  · rw [decide_eq_false cw]
    refine a_eV1 rfl lX12_243 mo_X12_throwsIf (h_throwsIf (z := false)) rfl rfl rfl ⟨12, _, rfl, rfl, rfl⟩ rfl ?_
    rw [if_neg Bool.false_ne_true]
    refine a_if_eq rfl (fun _ => ?_) (fun c => absurd rfl c)
    refine a_l0 rfl rfl rfl ?_
    refine a_eV0 rfl lX12_357 mo_X12_remembers (h_remembers er0 hr12) rfl rfl rfl ⟨12, _, rfl, rfl, rfl⟩ rfl ?_
    refine a_l0 rfl rfl rfl ?_
    refine a_l1 rfl rfl rfl ?_
    refine a_s rfl rfl ?_
    refine a_eV1 rfl lX12_63 mo_X12_of (sp_X12_of (d := i) (k := 0) (by omega) (by decide)) rfl rfl rfl ⟨12, _, rfl, rfl, rfl⟩ rfl ?_
    refine a_s3 rfl rfl rfl rfl rfl rfl ?_
    refine a_l0 rfl rfl rfl ?_
    refine a_getq rfl gfX12_13_12 rfl (rfl) ?_
    refine a_l1 rfl rfl rfl ?_
    refine a_s rfl rfl ?_
    refine a_eS1 rfl lX12_60 mo_X12_at (sp_X12_at (d := i) (k := 0)) rfl rfl rfl rfl ?_
    refine a_l2 rfl rfl rfl ?_
    refine a_iastv (k := (23 + 6 * i + 0)) rfl (n := 2033) rfl (inI_nI (by omega) (by omega)) (nI_clamp (by omega)) ?_
    refine a_l3 rfl rfl rfl ?_
    exact a_iret rfl rfl (QA.yes ((if_pos ⟨hz, hz2⟩).trans ((if_neg (by rw [hx]; exact c)).trans (if_neg (by rw [hx]; exact cw)))) (by rw [hx]; exact congrFun e22 _) (by rw [hx]))
theorem h_lean (hs : SO nd np (I 421)) (er : I 420 7 = nI r) (hr12 : r ≤ 12) {x1 x2 : Int32} : Sp S m_X12_lean 16 0 0 [.ref 420, .int x1, .int x2] (hp I L w1 w2 t) (QA I r (vL nd x1 x2) (I 421 (23 + 6 * ixN x1 + 4)) (fun J => up2 J 421 (23 + 6 * ixN x1 + 4) x2) L w1 w2 t) nX := by
  have hn := hs.n
  have hp6 := hs.p
  have e21 : up2 I 420 0 0 421 = I 421 := up2_row (by decide)
  have er0 : up2 I 420 0 0 420 7 = nI r := (up2_ne (Or.inr (by decide))).trans er
  have s0 : SO nd np (up2 I 420 0 0 421) := by rw [e21]; exact hs
  have s1 : SO nd np (remH (up2 I 420 0 0) r 421) := by rw [remH_421]; exact s0
  have e22 : remH (up2 I 420 0 0) r 421 = I 421 := remH_421.trans e21
  refine Sp_of ok_X12_lean rfl rfl ?_
  show AW S m_X12_lean 16 _ _ 0 0 0 [some (.ref 420), some (.int x1), some (.int x2), none] [] (hp I L w1 w2 t)
  refine a_l0 rfl rfl rfl ?_
  refine a_s rfl rfl ?_
  refine a_puti rfl pfX12_3_12 rfl ?_
  refine a_l0 rfl rfl rfl ?_
  refine a_l0 rfl rfl rfl ?_
  refine a_l1 rfl rfl rfl ?_
  refine a_eV1 rfl lX12_289 mo_X12_noDuty (r_X12_noDuty s0) rfl rfl rfl ⟨12, _, rfl, rfl, rfl⟩ rfl ?_
  obtain ⟨z, hz⟩ : ∃ z, inB x1 0 (nI nd - 1) = z := ⟨_, rfl⟩
  rw [hz]
  cases z with
  | false =>
    refine a_if_ne rfl (fun _ => ?_) (fun c => absurd c (by decide))
    refine a_s rfl rfl ?_
    refine a_goto rfl ?_
    refine a_s rfl rfl ?_
    refine a_eV1 rfl lX12_243 mo_X12_throwsIf (h_throwsIf (z := true)) rfl rfl rfl ⟨12, _, rfl, rfl, rfl⟩ rfl ?_
    rw [if_pos rfl]
    refine a_if_ne rfl (fun _ => ?_) (fun c => absurd c (by decide))
    refine a_s rfl rfl ?_
    exact a_iret rfl rfl (QA.no (if_neg (fun z => by rw [hz] at z; exact Bool.false_ne_true z.1)) (by decide))
  | true =>
  refine a_if_ne rfl (fun c => absurd rfl c) (fun _ => ?_)
  obtain ⟨i, hi, rfl⟩ := inB_ix (by omega) hz
  have hx := ixN_nI (i := i) (by omega)
  -- both are there
  have k31 : (x2 = -1 ∨ inB x2 0 (nI nd - 1) = true) → AW S m_X12_lean 16 (QA I r (vL nd (nI i) x2) (I 421 (23 + 6 * ixN (nI i) + 4)) (fun J => up2 J 421 (23 + 6 * ixN (nI i) + 4) x2) L w1 w2 t) nX 0 0 31 [some (.ref 420), some (.int (nI i)), some (.int x2), none] [.ref 420] (hp (up2 I 420 0 0) L w1 w2 t) := by
    intro hy
    refine a_s rfl rfl ?_
    refine a_s rfl rfl ?_
    refine a_eV1 rfl lX12_243 mo_X12_throwsIf (h_throwsIf (z := false)) rfl rfl rfl ⟨12, _, rfl, rfl, rfl⟩ rfl ?_
    rw [if_neg Bool.false_ne_true]
    refine a_if_ne rfl (fun c => absurd rfl c) (fun _ => ?_)
    refine a_l0 rfl rfl rfl ?_
    refine a_l1 rfl rfl rfl ?_
    refine a_l2 rfl rfl rfl ?_
    refine a_ic_ne rfl (fun c => ?_) (fun c => ?_)
    rotate_left
    · refine a_s rfl rfl ?_
      refine a_goto rfl ?_
      refine a_s rfl rfl ?_
      refine a_eV1 rfl lX12_243 mo_X12_throwsIf (h_throwsIf (z := true)) rfl rfl rfl ⟨12, _, rfl, rfl, rfl⟩ rfl ?_
      rw [if_pos rfl]
      refine a_if_eq rfl (fun c => absurd c (by decide)) (fun _ => ?_)
      refine a_s rfl rfl ?_
      exact a_iret rfl rfl (QA.no ((if_pos ⟨hz, hy⟩).trans (if_pos c)) (by decide))
    refine a_s rfl rfl ?_
    refine a_s rfl rfl ?_
    refine a_eV1 rfl lX12_243 mo_X12_throwsIf (h_throwsIf (z := false)) rfl rfl rfl ⟨12, _, rfl, rfl, rfl⟩ rfl ?_
    rw [if_neg Bool.false_ne_true]
    refine a_if_eq rfl (fun _ => ?_) (fun c => absurd rfl c)
    refine a_l0 rfl rfl rfl ?_
    refine a_eV0 rfl lX12_357 mo_X12_remembers (h_remembers er0 hr12) rfl rfl rfl ⟨12, _, rfl, rfl, rfl⟩ rfl ?_
    refine a_l0 rfl rfl rfl ?_
    refine a_l1 rfl rfl rfl ?_
    refine a_s rfl rfl ?_
    refine a_eV1 rfl lX12_63 mo_X12_of (sp_X12_of (d := i) (k := 4) (by omega) (by decide)) rfl rfl rfl ⟨12, _, rfl, rfl, rfl⟩ rfl ?_
    refine a_s3 rfl rfl rfl rfl rfl rfl ?_
    refine a_l0 rfl rfl rfl ?_
    refine a_getq rfl gfX12_13_12 rfl (rfl) ?_
    refine a_l1 rfl rfl rfl ?_
    refine a_s rfl rfl ?_
    refine a_eS1 rfl lX12_60 mo_X12_at (sp_X12_at (d := i) (k := 4)) rfl rfl rfl rfl ?_
    refine a_l2 rfl rfl rfl ?_
    refine a_iastv (k := (23 + 6 * i + 4)) rfl (n := 2033) rfl (inI_nI (by omega) (by omega)) (nI_clamp (by omega)) ?_
    refine a_l3 rfl rfl rfl ?_
    exact a_iret rfl rfl (QA.yes ((if_pos ⟨hz, hy⟩).trans (if_neg c)) (by rw [hx]; exact congrFun e22 _) (by rw [hx]))
  refine a_l2 rfl rfl rfl ?_
  refine a_s rfl rfl ?_
  refine a_ic_eq rfl (fun c => k31 (Or.inl c)) (fun c => ?_)
  refine a_l0 rfl rfl rfl ?_
  refine a_l2 rfl rfl rfl ?_
  refine a_eV1 rfl lX12_289 mo_X12_noDuty (r_X12_noDuty s0) rfl rfl rfl ⟨12, _, rfl, rfl, rfl⟩ rfl ?_
  obtain ⟨z2, hz2⟩ : ∃ z, inB x2 0 (nI nd - 1) = z := ⟨_, rfl⟩
  rw [hz2]
  cases z2 with
  | false =>
    refine a_if_eq rfl (fun c => absurd c (by decide)) (fun _ => ?_)
    refine a_s rfl rfl ?_
    refine a_goto rfl ?_
    refine a_s rfl rfl ?_
    refine a_eV1 rfl lX12_243 mo_X12_throwsIf (h_throwsIf (z := true)) rfl rfl rfl ⟨12, _, rfl, rfl, rfl⟩ rfl ?_
    rw [if_pos rfl]
    refine a_if_ne rfl (fun _ => ?_) (fun c => absurd c (by decide))
    refine a_s rfl rfl ?_
    exact a_iret rfl rfl (QA.no (if_neg (fun z => z.2.elim c (fun y => by rw [hz2] at y; exact Bool.false_ne_true y))) (by decide))
  | true =>
    exact a_if_eq rfl (fun _ => k31 (Or.inr hz2)) (fun c => absurd rfl c)
theorem h_free (hs : SO nd np (I 421)) (er : I 420 7 = nI r) (hr12 : r ≤ 12) {x1 x2 : Int32} : Sp S m_X12_free 16 0 0 [.ref 420, .int x1, .int x2] (hp I L w1 w2 t) (QA I r (vF np x1 x2) (I 421 (11 + 2 * ixN x1 + 1)) (fun J => up2 J 421 (11 + 2 * ixN x1 + 1) x2) L w1 w2 t) nX := by
  have hn := hs.n
  have hp6 := hs.p
  have e21 : up2 I 420 0 0 421 = I 421 := up2_row (by decide)
  have er0 : up2 I 420 0 0 420 7 = nI r := (up2_ne (Or.inr (by decide))).trans er
  have s0 : SO nd np (up2 I 420 0 0 421) := by rw [e21]; exact hs
  have s1 : SO nd np (remH (up2 I 420 0 0) r 421) := by rw [remH_421]; exact s0
  have e22 : remH (up2 I 420 0 0) r 421 = I 421 := remH_421.trans e21
  refine Sp_of ok_X12_free rfl rfl ?_
  show AW S m_X12_free 16 _ _ 0 0 0 [some (.ref 420), some (.int x1), some (.int x2), none] [] (hp I L w1 w2 t)
  refine a_l0 rfl rfl rfl ?_
  refine a_s rfl rfl ?_
  refine a_puti rfl pfX12_3_12 rfl ?_
  refine a_l0 rfl rfl rfl ?_
  refine a_l0 rfl rfl rfl ?_
  refine a_l1 rfl rfl rfl ?_
  refine a_eV1 rfl lX12_342 mo_X12_noPerson (r_X12_noPerson s0) rfl rfl rfl ⟨12, _, rfl, rfl, rfl⟩ rfl ?_
  obtain ⟨z, hz⟩ : ∃ z, inB x1 0 (nI np - 1) = z := ⟨_, rfl⟩
  rw [hz]
  refine a_s rfl rfl ?_
  cases z with
  | false =>
    refine a_eV1 rfl lX12_243 mo_X12_throwsIf (h_throwsIf (z := true)) rfl rfl rfl ⟨12, _, rfl, rfl, rfl⟩ rfl ?_
    rw [if_pos rfl]
    refine a_if_ne rfl (fun _ => ?_) (fun c => absurd c (by decide))
    refine a_s rfl rfl ?_
    exact a_iret rfl rfl (QA.no (if_neg (by rw [hz]; exact Bool.false_ne_true)) (by decide))
  | true =>
  refine a_eV1 rfl lX12_243 mo_X12_throwsIf (h_throwsIf (z := false)) rfl rfl rfl ⟨12, _, rfl, rfl, rfl⟩ rfl ?_
  rw [if_neg Bool.false_ne_true]
  refine a_if_ne rfl (fun c => absurd rfl c) (fun _ => ?_)
  obtain ⟨i, hi, rfl⟩ := inB_ix (by omega) hz
  have hx := ixN_nI (i := i) (by omega)
  refine a_l0 rfl rfl rfl ?_
  refine a_l2 rfl rfl rfl ?_
  refine a_s rfl rfl ?_
  refine a_s rfl rfl ?_
  refine a_eS1 rfl lX12_70 mo_X12_in sp_X12_in rfl rfl rfl rfl ?_
  obtain ⟨z2, hz2⟩ : ∃ z, inB x2 0 9 = z := ⟨_, rfl⟩
  rw [hz2]
  cases z2 with
  | false =>
    refine a_if_ne rfl (fun c => absurd rfl c) (fun _ => ?_)
    refine a_s rfl rfl ?_
    refine a_goto rfl ?_
    refine a_s rfl rfl ?_
    refine a_eV1 rfl lX12_243 mo_X12_throwsIf (h_throwsIf (z := true)) rfl rfl rfl ⟨12, _, rfl, rfl, rfl⟩ rfl ?_
    rw [if_pos rfl]
    refine a_if_eq rfl (fun c => absurd c (by decide)) (fun _ => ?_)
    refine a_s rfl rfl ?_
    exact a_iret rfl rfl (QA.no ((if_pos hz).trans (if_neg (by rw [hz2]; exact Bool.false_ne_true))) (by decide))
  | true =>
    refine a_if_ne rfl (fun _ => ?_) (fun c => absurd c (by decide))
    refine a_s rfl rfl ?_
    refine a_s rfl rfl ?_
    refine a_eV1 rfl lX12_243 mo_X12_throwsIf (h_throwsIf (z := false)) rfl rfl rfl ⟨12, _, rfl, rfl, rfl⟩ rfl ?_
    rw [if_neg Bool.false_ne_true]
    refine a_if_eq rfl (fun _ => ?_) (fun c => absurd rfl c)
    refine a_l0 rfl rfl rfl ?_
    refine a_eV0 rfl lX12_357 mo_X12_remembers (h_remembers er0 hr12) rfl rfl rfl ⟨12, _, rfl, rfl, rfl⟩ rfl ?_
    refine a_l0 rfl rfl rfl ?_
    refine a_l1 rfl rfl rfl ?_
    refine a_s rfl rfl ?_
    refine a_eV1 rfl lX12_252 mo_X12_ofPerson (sp_X12_ofPerson (d := i) (k := 1) (by omega) (by decide)) rfl rfl rfl ⟨12, _, rfl, rfl, rfl⟩ rfl ?_
    refine a_s3 rfl rfl rfl rfl rfl rfl ?_
    refine a_l0 rfl rfl rfl ?_
    refine a_getq rfl gfX12_13_12 rfl (rfl) ?_
    refine a_l1 rfl rfl rfl ?_
    refine a_s rfl rfl ?_
    refine a_eS1 rfl lX12_56 mo_X12_personAt (sp_X12_personAt (d := i) (k := 1)) rfl rfl rfl rfl ?_
    refine a_l2 rfl rfl rfl ?_
    refine a_iastv (k := (11 + 2 * i + 1)) rfl (n := 2033) rfl (inI_nI (by omega) (by omega)) (nI_clamp (by omega)) ?_
    refine a_l3 rfl rfl rfl ?_
    exact a_iret rfl rfl (QA.yes ((if_pos hz).trans (if_pos hz2)) (by rw [hx]; exact congrFun e22 _) (by rw [hx]))
end T79s
end
section
/-! ===== the class's acts, exactly (printed by program) ===== -/
section T79t
variable {S : aS} {I : Nat → Nat → Int32} {L : Nat → Nat → Int64} {w1 w2 t : Nat} {nd np n fa : Nat} {W : Nat → Int32}
set_option maxRecDepth 100000
theorem a_bud {C : aM} {d k1 k2 j1 j2 pc : Nat} {Q : Option Value → aH → Prop} {X : String → aH → Prop} {ls : List (Option Value)} {st : List Value} {h : aH} (h1 : j1 ≤ k1) (h2 : j2 ≤ k2) (k : AW S C d Q X j1 j2 pc ls st h) : AW S C d Q X k1 k2 pc ls st h := by
  intro p l e s m args below meth c H la locs cells slots mc ms G CC hS hL hR hF g1 g2
  exact k p l e s m args below meth c H la locs cells slots mc ms G CC hS hL hR hF (by omega) (by omega)
theorem le_m1 {n : Nat} (hn : n ≤ 12) {x : Int32} : x ≤ nI n - 1 ↔ x < nI n := by
  rcases n with _ | n
  · rw [Int32.le_iff_toInt_le, Int32.lt_iff_toInt_lt]
    show x.toInt ≤ -1 ↔ x.toInt < 0
    omega
  · rw [nI_dec, Int32.le_iff_toInt_le, Int32.lt_iff_toInt_lt, nI_toInt (by omega), nI_toInt (by omega)]
    omega
theorem inB_t {n : Nat} (hn : n ≤ 12) {x : Int32} (h1 : ¬ x < 0) (h2 : x < nI n) : inB x 0 (nI n - 1) = true := decide_eq_true ⟨Int32.not_lt.mp h1, (le_m1 hn).mpr h2⟩
theorem inB_f1 {y x : Int32} (h1 : x < 0) : inB x 0 y = false := decide_eq_false fun z => absurd h1 (Int32.not_lt.mpr z.1)
theorem inB_f2 {n : Nat} (hn : n ≤ 12) {x : Int32} (h2 : ¬ x < nI n) : inB x 0 (nI n - 1) = false := decide_eq_false fun z => h2 ((le_m1 hn).mp z.2)
theorem f_needDuty (h3 : I 235 3 = nI nd) (hn : nd ≤ 12) {x : Int32} : Sp S m_X11_needDuty 13 1 6 [.ref 200, .int x] (hp I L w1 w2 t) (fun v h' => v = none ∧ inB x 0 (nI nd - 1) = true ∧ h' = hp I L w1 w2 t) (fun E h' => E = exN 0 ∧ inB x 0 (nI nd - 1) = false ∧ h' = hp I L w1 w2 0) := by
  refine Sp_of ok_X11_needDuty rfl rfl ?_
  show AW S m_X11_needDuty 13 _ _ 1 6 0 [some (.ref 200), some (.int x)] [] (hp I L w1 w2 t)
  refine a_l1 rfl rfl rfl ?_
  refine a_if_lt rfl (fun c => ?_) (fun c => ?_)
  · exact a_throw rfl rfl rfl rfl tX11_ioobe rfl rfl rfl rfl rfl ⟨rfl, inB_f1 c, rfl⟩
  · refine a_l1 rfl rfl rfl ?_
    refine a_l0 rfl rfl rfl ?_
    refine a_getq rfl gfX11_37_11 rfl (rfl) ?_
    refine a_getiv (v := nI nd) rfl gfX11_182_5 rfl (h3) ?_
    refine a_ic_lt rfl (fun c2 => ?_) (fun c2 => ?_)
    · exact a_vret rfl rfl ⟨rfl, inB_t hn c c2, rfl⟩
    · exact a_throw rfl rfl rfl rfl tX11_ioobe rfl rfl rfl rfl rfl ⟨rfl, inB_f2 hn c2, rfl⟩
theorem f_needPerson (h3 : I 235 0 = nI np) (hn : np ≤ 12) {x : Int32} : Sp S m_X11_needPerson 13 1 6 [.ref 200, .int x] (hp I L w1 w2 t) (fun v h' => v = none ∧ inB x 0 (nI np - 1) = true ∧ h' = hp I L w1 w2 t) (fun E h' => E = exN 0 ∧ inB x 0 (nI np - 1) = false ∧ h' = hp I L w1 w2 0) := by
  refine Sp_of ok_X11_needPerson rfl rfl ?_
  show AW S m_X11_needPerson 13 _ _ 1 6 0 [some (.ref 200), some (.int x)] [] (hp I L w1 w2 t)
  refine a_l1 rfl rfl rfl ?_
  refine a_if_lt rfl (fun c => ?_) (fun c => ?_)
  · exact a_throw rfl rfl rfl rfl tX11_ioobe rfl rfl rfl rfl rfl ⟨rfl, inB_f1 c, rfl⟩
  · refine a_l1 rfl rfl rfl ?_
    refine a_l0 rfl rfl rfl ?_
    refine a_getq rfl gfX11_37_11 rfl (rfl) ?_
    refine a_getiv (v := nI np) rfl gfX11_179_5 rfl (h3) ?_
    refine a_ic_lt rfl (fun c2 => ?_) (fun c2 => ?_)
    · exact a_vret rfl rfl ⟨rfl, inB_t hn c c2, rfl⟩
    · exact a_throw rfl rfl rfl rfl tX11_ioobe rfl rfl rfl rfl rfl ⟨rfl, inB_f2 hn c2, rfl⟩
theorem f_needTwo {x y : Int32} : Sp S m_X11_needTwo 13 1 6 [.int x, .int y] (hp I L w1 w2 t) (fun v h' => v = none ∧ ¬ x = y ∧ h' = hp I L w1 w2 t) (fun E h' => E = exN 1 ∧ x = y ∧ h' = hp I L w1 w2 0) := by
  refine Sp_of ok_X11_needTwo rfl rfl ?_
  show AW S m_X11_needTwo 13 _ _ 1 6 0 [some (.int x), some (.int y)] [] (hp I L w1 w2 t)
  refine a_l0 rfl rfl rfl ?_
  refine a_l1 rfl rfl rfl ?_
  refine a_ic_ne rfl (fun c => ?_) (fun c => ?_)
  · exact a_vret rfl rfl ⟨rfl, c, rfl⟩
  · exact a_throw rfl rfl rfl rfl tX11_iae rfl rfl rfl rfl rfl ⟨rfl, c, rfl⟩
theorem f_needNumber {x y z : Int32} : Sp S m_X11_needNumber 13 1 6 [.int x, .int y, .int z] (hp I L w1 w2 t) (fun v h' => v = none ∧ inB x y z = true ∧ h' = hp I L w1 w2 t) (fun E h' => E = exN 1 ∧ inB x y z = false ∧ h' = hp I L w1 w2 0) := by
  refine Sp_of ok_X11_needNumber rfl rfl ?_
  show AW S m_X11_needNumber 13 _ _ 1 6 0 [some (.int x), some (.int y), some (.int z)] [] (hp I L w1 w2 t)
  refine a_l0 rfl rfl rfl ?_
  refine a_l1 rfl rfl rfl ?_
  refine a_ic_lt rfl (fun c => ?_) (fun c => ?_)
  · exact a_throw rfl rfl rfl rfl tX11_iae rfl rfl rfl rfl rfl ⟨rfl, decide_eq_false fun q => absurd c (Int32.not_lt.mpr q.1), rfl⟩
  · refine a_l0 rfl rfl rfl ?_
    refine a_l2 rfl rfl rfl ?_
    refine a_ic_le rfl (fun c2 => ?_) (fun c2 => ?_)
    · exact a_vret rfl rfl ⟨rfl, decide_eq_true ⟨Int32.not_lt.mp c, c2⟩, rfl⟩
    · exact a_throw rfl rfl rfl rfl tX11_iae rfl rfl rfl rfl rfl ⟨rfl, decide_eq_false fun q => c2 q.2, rfl⟩
theorem f_needState {i : Nat} (hi : i < 12) {y : Int32} : Sp S m_X11_needState 13 1 6 [.ref 200, .int (nI i), .int y] (hp I L w1 w2 t) (fun v h' => v = none ∧ I 243 i = y ∧ h' = hp I L w1 w2 t) (fun E h' => E = exN 2 ∧ ¬ I 243 i = y ∧ h' = hp I L w1 w2 0) := by
  refine Sp_of ok_X11_needState rfl rfl ?_
  show AW S m_X11_needState 13 _ _ 1 6 0 [some (.ref 200), some (.int (nI i)), some (.int y)] [] (hp I L w1 w2 t)
  refine a_l0 rfl rfl rfl ?_
  refine a_getq rfl gfX11_37_11 rfl (rfl) ?_
  refine a_getq rfl gfX11_159_5 rfl (rfl) ?_
  refine a_l1 rfl rfl rfl ?_
  refine a_eS1 rfl lX11_117 mo_X11_at (sp_X11_at rfl) rfl rfl rfl rfl ?_
  rw [atF_nI hi (by decide)]
  refine a_l2 rfl rfl rfl ?_
  refine a_ic_eq rfl (fun c => ?_) (fun c => ?_)
  · exact a_vret rfl rfl ⟨rfl, c, rfl⟩
  · exact a_throw rfl rfl rfl rfl tX11_ise rfl rfl rfl rfl rfl ⟨rfl, c, rfl⟩
theorem rem12 : ∀ k, k < 24 → nI k - nI k / 12 * 12 = nI (k % 12) := by decide +kernel
theorem f_pastAt {k : Nat} (hk : k < 24) : SpE S m_X11_pastAt 12 [.ref 200, .int (nI k)] (hp I L w1 w2 t) (some (.ref (288 + 11 * (k % 12)))) (hp I L w1 w2 t) := by
  have hm : k % 12 < 12 := Nat.mod_lt _ (by decide)
  refine SpE_of ok_X11_pastAt rfl rfl ?_
  show AW S m_X11_pastAt 12 _ _ 0 0 0 [some (.ref 200), some (.int (nI k)), none] [] (hp I L w1 w2 t)
  refine a_l1 rfl rfl rfl ?_
  refine a_s rfl rfl ?_
  refine a_irem rfl (by decide) ?_
  refine a_top (y := nI (k % 12)) (rem12 k hk) ?_
  refine a_s2 rfl rfl rfl rfl rfl rfl ?_
  refine a_l2 rfl rfl rfl ?_
  refine a_if_lt rfl (fun c => absurd c (nI_pos (by omega))) (fun _ => ?_)
  refine a_l2 rfl rfl rfl ?_
  refine a_l0 rfl rfl rfl ?_
  refine a_getq rfl gfX11_64_11 rfl (rfl) ?_
  refine a_len rfl rfl rfl rfl ?_
  refine a_ic_ge rfl (fun c => absurd c (nI_ge (b := 12) hm (by omega))) (fun _ => ?_)
  refine a_l0 rfl rfl rfl ?_
  refine a_getq rfl gfX11_64_11 rfl (rfl) ?_
  refine a_l2 rfl rfl rfl ?_
  refine a_aald (q := 288 + 11 * (k % 12) + 1) rfl rfl (inI_nI hm (by decide)) (by rw [nI_clamp (by omega)]; exact past_R _ hm) ?_
  refine a_goto rfl ?_
  exact a_aret (q := 288 + 11 * (k % 12) + 1) rfl rfl rfl ⟨rfl, rfl⟩
/-- now is kept as the latest of twelve at most -/
def reS (I : Nat → Nat → Int32) (n fa : Nat) : Nat → Nat → Int32 := if n = 12 then up2 (cpS (up2 (up2 I 200 12 (nI ((fa + 1) % 12))) 200 13 (nI 11)) (288 + 11 * (((fa + 1) % 12 + 11) % 12)) 235 11) 200 13 (nI 12) else up2 (cpS I (288 + 11 * ((fa + n) % 12)) 235 11) 200 13 (nI (n + 1))
theorem f_remember2 {J : Nat → Nat → Int32} {f m : Nat} (h12 : J 200 12 = nI f) (hf : f < 12) (h13 : J 200 13 = nI m) (hm : m < 12) {Q : Option Value → aH → Prop} {X : String → aH → Prop} {u : Option Value} (k : Q none (hp (up2 (cpS J (288 + 11 * ((f + m) % 12)) 235 11) 200 13 (nI (m + 1))) L w1 w2 t)) : AW S m_X11_rememberAct 15 Q X 0 0 32 [some (.ref 200), u] [] (hp J L w1 w2 t) := by
  have hi : (f + m) % 12 < 12 := Nat.mod_lt _ (by decide)
  refine a_l0 rfl rfl rfl ?_
  refine a_l0 rfl rfl rfl ?_
  refine a_getiv (v := nI f) rfl gfX11_368_11 rfl (h12) ?_
  refine a_l0 rfl rfl rfl ?_
  refine a_getiv (v := nI m) rfl gfX11_95_11 rfl (h13) ?_
  refine a_s rfl rfl ?_
  refine a_top (y := nI (f + m)) (nI_addl f m) ?_
  refine a_eV1 rfl lX11_371 mo_X11_pastAt (f_pastAt (k := f + m) (by omega)) rfl rfl rfl ⟨11, _, rfl, rfl, rfl⟩ rfl ?_
  refine a_s1 rfl rfl rfl rfl rfl rfl ?_
  refine a_l1 rfl rfl rfl ?_
  refine a_ifnull_f rfl ?_
  refine a_l1 rfl rfl rfl ?_
  refine a_l0 rfl rfl rfl ?_
  refine a_getq rfl gfX11_37_11 rfl (rfl) ?_
  refine a_eV0 rfl lX11_375 mo_X5_copyAll (sp_X5_copyAll (a := 288 + 11 * ((f + m) % 12)) (b := 235) (past_st _ hi) (by decide) (by omega)) rfl rfl rfl ⟨5, _, kS0 (past_st _ hi), rfl, rfl⟩ rfl ?_
  refine a_l0 rfl rfl rfl ?_
  refine a_s rfl rfl ?_
  refine a_getiv (v := nI m) rfl gfX11_95_11 rfl ((congrFun (cpS_out (by omega)) 13).trans h13) ?_
  refine a_s rfl rfl ?_
  refine a_s rfl rfl ?_
  refine a_top (y := nI (m + 1)) ((nI_succ m).symm) ?_
  refine a_puti rfl pfX11_95_11 rfl ?_
  exact a_vret rfl rfl k
theorem f_remember (h13 : I 200 13 = nI n) (hn : n ≤ 12) (h12 : I 200 12 = nI fa) (hf : fa < 12) : SpE S m_X11_rememberAct 15 [.ref 200] (hp I L w1 w2 t) none (hp (reS I n fa) L w1 w2 t) := by
  refine SpE_of ok_X11_rememberAct rfl rfl ?_
  show AW S m_X11_rememberAct 15 _ _ 0 0 0 [some (.ref 200), none] [] (hp I L w1 w2 t)
  refine a_l0 rfl rfl rfl ?_
  refine a_getiv (v := nI n) rfl gfX11_95_11 rfl (h13) ?_
  refine a_s rfl rfl ?_
  refine a_ic_ne rfl (fun c => ?_) (fun c => ?_)
  · have n12 : ¬ n = 12 := fun z => c (by rw [z]; rfl)
    unfold reS
    rw [if_neg n12]
    exact f_remember2 h12 hf h13 (by omega) ⟨rfl, rfl⟩
  · have n12 : n = 12 := nI_inj (by omega) (by decide) c
    unfold reS
    rw [if_pos n12]
    refine a_l0 rfl rfl rfl ?_
    refine a_l0 rfl rfl rfl ?_
    refine a_getiv (v := nI fa) rfl gfX11_368_11 rfl (h12) ?_
    refine a_s rfl rfl ?_
    refine a_s rfl rfl ?_
    refine a_top (y := nI (fa + 1)) ((nI_succ fa).symm) ?_
    refine a_s rfl rfl ?_
    refine a_irem rfl (by decide) ?_
    refine a_top (y := nI ((fa + 1) % 12)) (rem12 (fa + 1) (by omega)) ?_
    refine a_puti rfl pfX11_368_11 rfl ?_
    refine a_l0 rfl rfl rfl ?_
    refine a_s rfl rfl ?_
    refine a_getiv (v := nI 12) rfl gfX11_95_11 rfl ((up2_ne (Or.inr (by decide))).trans (h13.trans (by rw [n12]))) ?_
    refine a_s rfl rfl ?_
    refine a_s rfl rfl ?_
    refine a_top (y := nI 11) (rfl) ?_
    refine a_puti rfl pfX11_95_11 rfl ?_
    exact f_remember2 (f := (fa + 1) % 12) (m := 11) ((up2_ne (Or.inr (by decide))).trans up2_at) (Nat.mod_lt _ (by decide)) up2_at (by decide) ⟨rfl, rfl⟩
theorem reS_row {q : Nat} (h0 : q ≠ 200) (h1 : q < 288 ∨ 420 ≤ q) : reS I n fa q = I q := by
  have m1 : ((fa + 1) % 12 + 11) % 12 < 12 := Nat.mod_lt _ (by decide)
  have m2 : (fa + n) % 12 < 12 := Nat.mod_lt _ (by decide)
  unfold reS
  by_cases c : n = 12
  · rw [if_pos c, up2_row h0, cpS_out (by omega), up2_row h0, up2_row h0]
  · rw [if_neg c, up2_row h0, cpS_out (by omega)]
def QAc (I : Nat → Nat → Int32) (n fa : Nat) (c v : Int32) (f : (Nat → Nat → Int32) → Nat → Nat → Int32) (L : Nat → Nat → Int64) (w1 w2 t : Nat) : Option Value → aH → Prop := fun v' h' => c = 0 ∧ v' = some (.int v) ∧ h' = hp (f (reS I n fa)) L w1 w2 t
def XAc (I : Nat → Nat → Int32) (c : Int32) (ks : List (Int32 × Nat)) (L : Nat → Nat → Int64) (w1 w2 : Nat) : String → aH → Prop := fun E h' => (∃ x ∈ ks, c = x.1 ∧ E = exN x.2) ∧ h' = hp I L w1 w2 0
theorem QAc.yes {c v x : Int32} {f : (Nat → Nat → Int32) → Nat → Nat → Int32} {J : Nat → Nat → Int32} (hc : c = 0) (hx : x = v) (hJ : J = f (reS I n fa)) : QAc I n fa c v f L w1 w2 t (some (.int x)) (hp J L w1 w2 t) := ⟨hc, by rw [hx], by rw [hJ]⟩
theorem f_put (hD : Sd I 235 W) (hW : WOk W) (h13 : I 200 13 = nI n) (hn : n ≤ 12) (h12 : I 200 12 = nI fa) (hf : fa < 12) {x1 : Int32} : Sp S m_X11_put 16 2 12 [.ref 200, .int x1] (hp I L w1 w2 t) (QAc I n fa (vS (dn W) W 0 x1) (mn 99 (W (23 + 6 * ixN x1 + 2) + 1)) (fun J => up2 J 240 (ixN x1) (mn 99 (W (23 + 6 * ixN x1 + 2) + 1))) L w1 w2 t) (XAc I (vS (dn W) W 0 x1) [(1, 0), (2, 2)] L w1 w2) := by
  have hd3 : I 235 3 = nI (dn W) := (Sd.fd hD (f := 3) (g := 1) (by decide)).trans hW.2.2.2
  have hp0 : I 235 0 = nI (pn W) := (Sd.fd hD (f := 0) (g := 0) (by decide)).trans hW.2.2.1
  have hd12 := hW.2.1
  have hp6 := hW.1
  refine Sp_of ok_X11_put rfl rfl ?_
  show AW S m_X11_put 16 _ _ 2 12 0 [some (.ref 200), some (.int x1)] [] (hp I L w1 w2 t)
  refine a_l0 rfl rfl rfl ?_
  refine a_l1 rfl rfl rfl ?_
  refine a_callV rfl lX11_141 mo_X11_needDuty (f_needDuty hd3 (by omega)) rfl rfl rfl ⟨11, _, rfl, rfl, rfl⟩ rfl (fun v' h' hv => ?_) (fun E h' ex => ?_)
  rotate_left
  · obtain ⟨rfl, hz, rfl⟩ := ex
    exact ⟨⟨_, List.mem_cons_self, (if_neg (by rw [hz]; exact Bool.false_ne_true)), rfl⟩, rfl⟩
  obtain ⟨rfl, hz, rfl⟩ := hv
  obtain ⟨i, hi, rfl⟩ := inB_ix (by omega) hz
  have hx := ixN_nI (i := i) (by omega)
  have e5 : I 243 i = W (23 + 6 * i + 5) := hD.2.2 i (by omega) 5 (by decide)
  refine a_l0 rfl rfl rfl ?_
  refine a_l1 rfl rfl rfl ?_
  refine a_s rfl rfl ?_
  refine a_callV rfl lX11_236 mo_X11_needState (f_needState (i := i) (y := 0) (by omega)) rfl rfl rfl ⟨11, _, rfl, rfl, rfl⟩ rfl (fun v' h' hv => ?_) (fun E h' ex => ?_)
  rotate_left
  · obtain ⟨rfl, hz2, rfl⟩ := ex
    exact ⟨⟨_, (List.mem_cons_of_mem _ List.mem_cons_self), ((if_pos hz).trans (if_neg (by rw [hx, ← e5]; exact hz2))), rfl⟩, rfl⟩
  obtain ⟨rfl, hz2, rfl⟩ := hv
  have vy : vS (dn W) W 0 (nI i) = 0 := (if_pos hz).trans (if_pos (by rw [hx, ← e5]; exact hz2))
  refine a_l0 rfl rfl rfl ?_
  refine a_eV0 rfl lX11_230 mo_X11_rememberAct (f_remember h13 hn h12 hf) rfl rfl rfl ⟨11, _, rfl, rfl, rfl⟩ rfl ?_
  have e2 : reS I n fa 240 i = W (23 + 6 * i + 2) := (congrFun (reS_row (by decide) (by decide)) i).trans (hD.2.2 i (by omega) 2 (by decide))
  refine a_l0 rfl rfl rfl ?_
  refine a_getq rfl gfX11_37_11 rfl (rfl) ?_
  refine a_l1 rfl rfl rfl ?_
  refine a_eV0 rfl lX11_240 mo_X5_growOlder (sp_X5_growOlder (a := 235) (by decide)) rfl rfl rfl ⟨5, _, rfl, rfl, rfl⟩ rfl ?_
  have eg : growF (reS I n fa) 235 (nI i) = up2 (reS I n fa) 240 i (mn 99 (W (23 + 6 * i + 2) + 1)) := by
    unfold growF
    rw [setF_nI (show i < 12 by omega) (by decide), atF_nI (show i < 12 by omega) (by decide), show reS I n fa (235 + 5) i = W (23 + 6 * i + 2) from e2]
    rfl
  rw [eg]
  refine a_l0 rfl rfl rfl ?_
  refine a_getq rfl gfX11_37_11 rfl (rfl) ?_
  refine a_getq rfl gfX11_150_5 rfl (rfl) ?_
  refine a_l1 rfl rfl rfl ?_
  refine a_eS1 rfl lX11_117 mo_X11_at (sp_X11_at rfl) rfl rfl rfl rfl ?_
  exact a_iret rfl rfl (QAc.yes vy (by rw [atF_nI (show i < 12 by omega) (by decide), hx]; exact up2_at) (by rw [hx]))
theorem f_forget (hD : Sd I 235 W) (hW : WOk W) (h13 : I 200 13 = nI n) (hn : n ≤ 12) (h12 : I 200 12 = nI fa) (hf : fa < 12) {x1 : Int32} : Sp S m_X11_forget 16 2 12 [.ref 200, .int x1] (hp I L w1 w2 t) (QAc I n fa (vS (dn W) W 0 x1) (W (23 + 6 * ixN x1 + 1)) (fun J => up2 J 243 (ixN x1) 2) L w1 w2 t) (XAc I (vS (dn W) W 0 x1) [(1, 0), (2, 2)] L w1 w2) := by
  have hd3 : I 235 3 = nI (dn W) := (Sd.fd hD (f := 3) (g := 1) (by decide)).trans hW.2.2.2
  have hp0 : I 235 0 = nI (pn W) := (Sd.fd hD (f := 0) (g := 0) (by decide)).trans hW.2.2.1
  have hd12 := hW.2.1
  have hp6 := hW.1
  refine Sp_of ok_X11_forget rfl rfl ?_
  show AW S m_X11_forget 16 _ _ 2 12 0 [some (.ref 200), some (.int x1)] [] (hp I L w1 w2 t)
  refine a_l0 rfl rfl rfl ?_
  refine a_l1 rfl rfl rfl ?_
  refine a_callV rfl lX11_141 mo_X11_needDuty (f_needDuty hd3 (by omega)) rfl rfl rfl ⟨11, _, rfl, rfl, rfl⟩ rfl (fun v' h' hv => ?_) (fun E h' ex => ?_)
  rotate_left
  · obtain ⟨rfl, hz, rfl⟩ := ex
    exact ⟨⟨_, List.mem_cons_self, (if_neg (by rw [hz]; exact Bool.false_ne_true)), rfl⟩, rfl⟩
  obtain ⟨rfl, hz, rfl⟩ := hv
  obtain ⟨i, hi, rfl⟩ := inB_ix (by omega) hz
  have hx := ixN_nI (i := i) (by omega)
  have e5 : I 243 i = W (23 + 6 * i + 5) := hD.2.2 i (by omega) 5 (by decide)
  refine a_l0 rfl rfl rfl ?_
  refine a_l1 rfl rfl rfl ?_
  refine a_s rfl rfl ?_
  refine a_callV rfl lX11_236 mo_X11_needState (f_needState (i := i) (y := 0) (by omega)) rfl rfl rfl ⟨11, _, rfl, rfl, rfl⟩ rfl (fun v' h' hv => ?_) (fun E h' ex => ?_)
  rotate_left
  · obtain ⟨rfl, hz2, rfl⟩ := ex
    exact ⟨⟨_, (List.mem_cons_of_mem _ List.mem_cons_self), ((if_pos hz).trans (if_neg (by rw [hx, ← e5]; exact hz2))), rfl⟩, rfl⟩
  obtain ⟨rfl, hz2, rfl⟩ := hv
  have vy : vS (dn W) W 0 (nI i) = 0 := (if_pos hz).trans (if_pos (by rw [hx, ← e5]; exact hz2))
  refine a_l0 rfl rfl rfl ?_
  refine a_eV0 rfl lX11_230 mo_X11_rememberAct (f_remember h13 hn h12 hf) rfl rfl rfl ⟨11, _, rfl, rfl, rfl⟩ rfl ?_
  refine a_l0 rfl rfl rfl ?_
  refine a_getq rfl gfX11_37_11 rfl (rfl) ?_
  refine a_getq rfl gfX11_159_5 rfl (rfl) ?_
  refine a_l1 rfl rfl rfl ?_
  refine a_s rfl rfl ?_
  refine a_eS0 rfl lX11_243 mo_X11_setAt (sp_X11_setAt rfl) rfl rfl rfl rfl ?_
  rw [setF_nI (show i < 12 by omega) (by decide)]
  refine a_l0 rfl rfl rfl ?_
  refine a_getq rfl gfX11_37_11 rfl (rfl) ?_
  refine a_getq rfl gfX11_147_5 rfl (rfl) ?_
  refine a_l1 rfl rfl rfl ?_
  refine a_eS1 rfl lX11_117 mo_X11_at (sp_X11_at rfl) rfl rfl rfl rfl ?_
  exact a_iret rfl rfl (QAc.yes vy (by rw [atF_nI (show i < 12 by omega) (by decide), hx, up2_row (by decide), reS_row (by decide) (by decide)]; exact hD.2.2 i (by omega) 1 (by decide)) (by rw [hx]))
theorem f_recall (hD : Sd I 235 W) (hW : WOk W) (h13 : I 200 13 = nI n) (hn : n ≤ 12) (h12 : I 200 12 = nI fa) (hf : fa < 12) {x1 : Int32} : Sp S m_X11_recall 16 2 12 [.ref 200, .int x1] (hp I L w1 w2 t) (QAc I n fa (vS (dn W) W 2 x1) (W (23 + 6 * ixN x1 + 2)) (fun J => up2 J 243 (ixN x1) 0) L w1 w2 t) (XAc I (vS (dn W) W 2 x1) [(1, 0), (2, 2)] L w1 w2) := by
  have hd3 : I 235 3 = nI (dn W) := (Sd.fd hD (f := 3) (g := 1) (by decide)).trans hW.2.2.2
  have hp0 : I 235 0 = nI (pn W) := (Sd.fd hD (f := 0) (g := 0) (by decide)).trans hW.2.2.1
  have hd12 := hW.2.1
  have hp6 := hW.1
  refine Sp_of ok_X11_recall rfl rfl ?_
  show AW S m_X11_recall 16 _ _ 2 12 0 [some (.ref 200), some (.int x1)] [] (hp I L w1 w2 t)
  refine a_l0 rfl rfl rfl ?_
  refine a_l1 rfl rfl rfl ?_
  refine a_callV rfl lX11_141 mo_X11_needDuty (f_needDuty hd3 (by omega)) rfl rfl rfl ⟨11, _, rfl, rfl, rfl⟩ rfl (fun v' h' hv => ?_) (fun E h' ex => ?_)
  rotate_left
  · obtain ⟨rfl, hz, rfl⟩ := ex
    exact ⟨⟨_, List.mem_cons_self, (if_neg (by rw [hz]; exact Bool.false_ne_true)), rfl⟩, rfl⟩
  obtain ⟨rfl, hz, rfl⟩ := hv
  obtain ⟨i, hi, rfl⟩ := inB_ix (by omega) hz
  have hx := ixN_nI (i := i) (by omega)
  have e5 : I 243 i = W (23 + 6 * i + 5) := hD.2.2 i (by omega) 5 (by decide)
  refine a_l0 rfl rfl rfl ?_
  refine a_l1 rfl rfl rfl ?_
  refine a_s rfl rfl ?_
  refine a_callV rfl lX11_236 mo_X11_needState (f_needState (i := i) (y := 2) (by omega)) rfl rfl rfl ⟨11, _, rfl, rfl, rfl⟩ rfl (fun v' h' hv => ?_) (fun E h' ex => ?_)
  rotate_left
  · obtain ⟨rfl, hz2, rfl⟩ := ex
    exact ⟨⟨_, (List.mem_cons_of_mem _ List.mem_cons_self), ((if_pos hz).trans (if_neg (by rw [hx, ← e5]; exact hz2))), rfl⟩, rfl⟩
  obtain ⟨rfl, hz2, rfl⟩ := hv
  have vy : vS (dn W) W 2 (nI i) = 0 := (if_pos hz).trans (if_pos (by rw [hx, ← e5]; exact hz2))
  refine a_l0 rfl rfl rfl ?_
  refine a_eV0 rfl lX11_230 mo_X11_rememberAct (f_remember h13 hn h12 hf) rfl rfl rfl ⟨11, _, rfl, rfl, rfl⟩ rfl ?_
  refine a_l0 rfl rfl rfl ?_
  refine a_getq rfl gfX11_37_11 rfl (rfl) ?_
  refine a_getq rfl gfX11_159_5 rfl (rfl) ?_
  refine a_l1 rfl rfl rfl ?_
  refine a_s rfl rfl ?_
  refine a_eS0 rfl lX11_243 mo_X11_setAt (sp_X11_setAt rfl) rfl rfl rfl rfl ?_
  rw [setF_nI (show i < 12 by omega) (by decide)]
  refine a_l0 rfl rfl rfl ?_
  refine a_getq rfl gfX11_37_11 rfl (rfl) ?_
  refine a_getq rfl gfX11_150_5 rfl (rfl) ?_
  refine a_l1 rfl rfl rfl ?_
  refine a_eS1 rfl lX11_117 mo_X11_at (sp_X11_at rfl) rfl rfl rfl rfl ?_
  exact a_iret rfl rfl (QAc.yes vy (by rw [atF_nI (show i < 12 by omega) (by decide), hx, up2_row (by decide), reS_row (by decide) (by decide)]; exact hD.2.2 i (by omega) 2 (by decide)) (by rw [hx]))
theorem f_hand (hD : Sd I 235 W) (hW : WOk W) (h13 : I 200 13 = nI n) (hn : n ≤ 12) (h12 : I 200 12 = nI fa) (hf : fa < 12) {x1 x2 : Int32} : Sp S m_X11_hand 16 4 24 [.ref 200, .int x1, .int x2] (hp I L w1 w2 t) (QAc I n fa (vH (dn W) (pn W) W x1 x2) (W (23 + 6 * ixN x1 + 0)) (fun J => up2 J 238 (ixN x1) x2) L w1 w2 t) (XAc I (vH (dn W) (pn W) W x1 x2) [(1, 0), (2, 1), (3, 2)] L w1 w2) := by
  have hd3 : I 235 3 = nI (dn W) := (Sd.fd hD (f := 3) (g := 1) (by decide)).trans hW.2.2.2
  have hp0 : I 235 0 = nI (pn W) := (Sd.fd hD (f := 0) (g := 0) (by decide)).trans hW.2.2.1
  have hd12 := hW.2.1
  have hp6 := hW.1
  refine Sp_of ok_X11_hand rfl rfl ?_
  show AW S m_X11_hand 16 _ _ 4 24 0 [some (.ref 200), some (.int x1), some (.int x2), none] [] (hp I L w1 w2 t)
  refine a_l0 rfl rfl rfl ?_
  refine a_l1 rfl rfl rfl ?_
  refine a_callV rfl lX11_141 mo_X11_needDuty (f_needDuty hd3 (by omega)) rfl rfl rfl ⟨11, _, rfl, rfl, rfl⟩ rfl (fun v' h' hv => ?_) (fun E h' ex => ?_)
  rotate_left
  · obtain ⟨rfl, hz, rfl⟩ := ex
    exact ⟨⟨_, List.mem_cons_self, (if_neg (fun z => by rw [hz] at z; exact Bool.false_ne_true z.1)), rfl⟩, rfl⟩
  obtain ⟨rfl, hz, rfl⟩ := hv
  obtain ⟨i, hi, rfl⟩ := inB_ix (by omega) hz
  have hx := ixN_nI (i := i) (by omega)
  have e0 : I 238 i = W (23 + 6 * i + 0) := hD.2.2 i (by omega) 0 (by decide)
  have e5 : I 243 i = W (23 + 6 * i + 5) := hD.2.2 i (by omega) 5 (by decide)
  refine a_l0 rfl rfl rfl ?_
  refine a_l2 rfl rfl rfl ?_
  refine a_callV rfl lX11_110 mo_X11_needPerson (f_needPerson hp0 (by omega)) rfl rfl rfl ⟨11, _, rfl, rfl, rfl⟩ rfl (fun v' h' hv => ?_) (fun E h' ex => ?_)
  rotate_left
  · obtain ⟨rfl, hz2, rfl⟩ := ex
    exact ⟨⟨_, List.mem_cons_self, (if_neg (fun z => by rw [hz2] at z; exact Bool.false_ne_true z.2)), rfl⟩, rfl⟩
  obtain ⟨rfl, hz2, rfl⟩ := hv
  refine a_l0 rfl rfl rfl ?_
  refine a_getq rfl gfX11_37_11 rfl (rfl) ?_
  refine a_getq rfl gfX11_144_5 rfl (rfl) ?_
  refine a_l1 rfl rfl rfl ?_
  refine a_eS1 rfl lX11_117 mo_X11_at (sp_X11_at rfl) rfl rfl rfl rfl ?_
  refine a_top (y := W (23 + 6 * i + 0)) ((atF_nI (show i < 12 by omega) (by decide)).trans e0) ?_
  refine a_s3 rfl rfl rfl rfl rfl rfl ?_
  refine a_l3 rfl rfl rfl ?_
  refine a_l2 rfl rfl rfl ?_
  refine a_callS rfl lX11_247 mo_X11_needTwo (f_needTwo) rfl rfl rfl rfl (fun v' h' hv => ?_) (fun E h' ex => ?_)
  rotate_left
  · obtain ⟨rfl, hz3, rfl⟩ := ex
    exact ⟨⟨_, (List.mem_cons_of_mem _ List.mem_cons_self), ((if_pos ⟨hz, hz2⟩).trans (if_pos (by rw [hx]; exact hz3))), rfl⟩, rfl⟩
  obtain ⟨rfl, hz3, rfl⟩ := hv
  refine a_l0 rfl rfl rfl ?_
  refine a_getq rfl gfX11_37_11 rfl (rfl) ?_
  refine a_getq rfl gfX11_159_5 rfl (rfl) ?_
  refine a_l1 rfl rfl rfl ?_
  refine a_eS1 rfl lX11_117 mo_X11_at (sp_X11_at rfl) rfl rfl rfl rfl ?_
  refine a_top (y := W (23 + 6 * i + 5)) ((atF_nI (show i < 12 by omega) (by decide)).trans e5) ?_
  refine a_s rfl rfl ?_
  refine a_ic_ne rfl (fun c => ?_) (fun c => ?_)
  rotate_left
  · exact a_throw rfl rfl rfl rfl tX11_ise rfl rfl rfl rfl rfl ⟨⟨_, (List.mem_cons_of_mem _ (List.mem_cons_of_mem _ List.mem_cons_self)), (if_pos ⟨hz, hz2⟩).trans ((if_neg (by rw [hx]; exact hz3)).trans (if_pos (by rw [hx]; exact c))), rfl⟩, rfl⟩
  refine a_l0 rfl rfl rfl ?_
  refine a_eV0 rfl lX11_230 mo_X11_rememberAct (f_remember h13 hn h12 hf) rfl rfl rfl ⟨11, _, rfl, rfl, rfl⟩ rfl ?_
  refine a_l0 rfl rfl rfl ?_
  refine a_getq rfl gfX11_37_11 rfl (rfl) ?_
  refine a_getq rfl gfX11_144_5 rfl (rfl) ?_
  refine a_l1 rfl rfl rfl ?_
  refine a_l2 rfl rfl rfl ?_
  refine a_eS0 rfl lX11_243 mo_X11_setAt (sp_X11_setAt rfl) rfl rfl rfl rfl ?_
  rw [setF_nI (show i < 12 by omega) (by decide)]
  refine a_l3 rfl rfl rfl ?_
  exact a_iret rfl rfl (QAc.yes ((if_pos ⟨hz, hz2⟩).trans ((if_neg (by rw [hx]; exact hz3)).trans (if_neg (by rw [hx]; exact c)))) (by rw [hx]) (by rw [hx]))
theorem f_lean (hD : Sd I 235 W) (hW : WOk W) (h13 : I 200 13 = nI n) (hn : n ≤ 12) (h12 : I 200 12 = nI fa) (hf : fa < 12) {x1 x2 : Int32} : Sp S m_X11_lean 16 3 18 [.ref 200, .int x1, .int x2] (hp I L w1 w2 t) (QAc I n fa (vL (dn W) x1 x2) (W (23 + 6 * ixN x1 + 4)) (fun J => up2 J 242 (ixN x1) x2) L w1 w2 t) (XAc I (vL (dn W) x1 x2) [(1, 0), (2, 1)] L w1 w2) := by
  have hd3 : I 235 3 = nI (dn W) := (Sd.fd hD (f := 3) (g := 1) (by decide)).trans hW.2.2.2
  have hp0 : I 235 0 = nI (pn W) := (Sd.fd hD (f := 0) (g := 0) (by decide)).trans hW.2.2.1
  have hd12 := hW.2.1
  have hp6 := hW.1
  refine Sp_of ok_X11_lean rfl rfl ?_
  show AW S m_X11_lean 16 _ _ 3 18 0 [some (.ref 200), some (.int x1), some (.int x2), none] [] (hp I L w1 w2 t)
  refine a_l0 rfl rfl rfl ?_
  refine a_l1 rfl rfl rfl ?_
  refine a_callV rfl lX11_141 mo_X11_needDuty (f_needDuty hd3 (by omega)) rfl rfl rfl ⟨11, _, rfl, rfl, rfl⟩ rfl (fun v' h' hv => ?_) (fun E h' ex => ?_)
  rotate_left
  · obtain ⟨rfl, hz, rfl⟩ := ex
    exact ⟨⟨_, List.mem_cons_self, (if_neg (fun z => by rw [hz] at z; exact Bool.false_ne_true z.1)), rfl⟩, rfl⟩
  obtain ⟨rfl, hz, rfl⟩ := hv
  obtain ⟨i, hi, rfl⟩ := inB_ix (by omega) hz
  have hx := ixN_nI (i := i) (by omega)
  have e4 : I 242 i = W (23 + 6 * i + 4) := hD.2.2 i (by omega) 4 (by decide)
  have k15 : (x2 = -1 ∨ inB x2 0 (nI (dn W) - 1) = true) → AW S m_X11_lean 16 (QAc I n fa (vL (dn W) (nI i) x2) (W (23 + 6 * ixN (nI i) + 4)) (fun J => up2 J 242 (ixN (nI i)) x2) L w1 w2 t) (XAc I (vL (dn W) (nI i) x2) [(1, 0), (2, 1)] L w1 w2) 1 6 15 [some (.ref 200), some (.int (nI i)), some (.int x2), none] [] (hp I L w1 w2 t) := by
    intro hy
    refine a_l1 rfl rfl rfl ?_
    refine a_l2 rfl rfl rfl ?_
    refine a_callS rfl lX11_247 mo_X11_needTwo (f_needTwo) rfl rfl rfl rfl (fun v' h' hv => ?_) (fun E h' ex => ?_)
    rotate_left
    · obtain ⟨rfl, hz3, rfl⟩ := ex
      exact ⟨⟨_, (List.mem_cons_of_mem _ List.mem_cons_self), (if_pos ⟨hz, hy⟩).trans (if_pos hz3), rfl⟩, rfl⟩
    obtain ⟨rfl, hz3, rfl⟩ := hv
    refine a_l0 rfl rfl rfl ?_
    refine a_getq rfl gfX11_37_11 rfl (rfl) ?_
    refine a_getq rfl gfX11_156_5 rfl (rfl) ?_
    refine a_l1 rfl rfl rfl ?_
    refine a_eS1 rfl lX11_117 mo_X11_at (sp_X11_at rfl) rfl rfl rfl rfl ?_
    refine a_top (y := W (23 + 6 * i + 4)) ((atF_nI (show i < 12 by omega) (by decide)).trans e4) ?_
    refine a_s3 rfl rfl rfl rfl rfl rfl ?_
    refine a_l0 rfl rfl rfl ?_
    refine a_eV0 rfl lX11_230 mo_X11_rememberAct (f_remember h13 hn h12 hf) rfl rfl rfl ⟨11, _, rfl, rfl, rfl⟩ rfl ?_
    refine a_l0 rfl rfl rfl ?_
    refine a_getq rfl gfX11_37_11 rfl (rfl) ?_
    refine a_getq rfl gfX11_156_5 rfl (rfl) ?_
    refine a_l1 rfl rfl rfl ?_
    refine a_l2 rfl rfl rfl ?_
    refine a_eS0 rfl lX11_243 mo_X11_setAt (sp_X11_setAt rfl) rfl rfl rfl rfl ?_
    rw [setF_nI (show i < 12 by omega) (by decide)]
    refine a_l3 rfl rfl rfl ?_
    exact a_iret rfl rfl (QAc.yes ((if_pos ⟨hz, hy⟩).trans (if_neg hz3)) (by rw [hx]) (by rw [hx]))
  refine a_l2 rfl rfl rfl ?_
  refine a_s rfl rfl ?_
  refine a_ic_eq rfl (fun c => ?_) (fun c => ?_)
  · exact a_bud (by decide) (by decide) (k15 (Or.inl c))
  refine a_l0 rfl rfl rfl ?_
  refine a_l2 rfl rfl rfl ?_
  refine a_callV rfl lX11_141 mo_X11_needDuty (f_needDuty hd3 (by omega)) rfl rfl rfl ⟨11, _, rfl, rfl, rfl⟩ rfl (fun v' h' hv => ?_) (fun E h' ex => ?_)
  rotate_left
  · obtain ⟨rfl, hz2, rfl⟩ := ex
    exact ⟨⟨_, List.mem_cons_self, (if_neg (fun z => z.2.elim c (fun y => by rw [hz2] at y; exact Bool.false_ne_true y))), rfl⟩, rfl⟩
  obtain ⟨rfl, hz2, rfl⟩ := hv
  exact k15 (Or.inr hz2)
theorem f_free (hD : Sd I 235 W) (hW : WOk W) (h13 : I 200 13 = nI n) (hn : n ≤ 12) (h12 : I 200 12 = nI fa) (hf : fa < 12) {x1 x2 : Int32} : Sp S m_X11_free 16 2 12 [.ref 200, .int x1, .int x2] (hp I L w1 w2 t) (QAc I n fa (vF (pn W) x1 x2) (W (11 + 2 * ixN x1 + 1)) (fun J => up2 J 237 (ixN x1) x2) L w1 w2 t) (XAc I (vF (pn W) x1 x2) [(1, 0), (2, 1)] L w1 w2) := by
  have hd3 : I 235 3 = nI (dn W) := (Sd.fd hD (f := 3) (g := 1) (by decide)).trans hW.2.2.2
  have hp0 : I 235 0 = nI (pn W) := (Sd.fd hD (f := 0) (g := 0) (by decide)).trans hW.2.2.1
  have hd12 := hW.2.1
  have hp6 := hW.1
  refine Sp_of ok_X11_free rfl rfl ?_
  show AW S m_X11_free 16 _ _ 2 12 0 [some (.ref 200), some (.int x1), some (.int x2), none] [] (hp I L w1 w2 t)
  refine a_l0 rfl rfl rfl ?_
  refine a_l1 rfl rfl rfl ?_
  refine a_callV rfl lX11_110 mo_X11_needPerson (f_needPerson hp0 (by omega)) rfl rfl rfl ⟨11, _, rfl, rfl, rfl⟩ rfl (fun v' h' hv => ?_) (fun E h' ex => ?_)
  rotate_left
  · obtain ⟨rfl, hz, rfl⟩ := ex
    exact ⟨⟨_, List.mem_cons_self, (if_neg (by rw [hz]; exact Bool.false_ne_true)), rfl⟩, rfl⟩
  obtain ⟨rfl, hz, rfl⟩ := hv
  obtain ⟨i, hi, rfl⟩ := inB_ix (by omega) hz
  have hx := ixN_nI (i := i) (by omega)
  refine a_l2 rfl rfl rfl ?_
  refine a_s rfl rfl ?_
  refine a_s rfl rfl ?_
  refine a_callS rfl lX11_250 mo_X11_needNumber (f_needNumber) rfl rfl rfl rfl (fun v' h' hv => ?_) (fun E h' ex => ?_)
  rotate_left
  · obtain ⟨rfl, hz2, rfl⟩ := ex
    exact ⟨⟨_, (List.mem_cons_of_mem _ List.mem_cons_self), ((if_pos hz).trans (if_neg (by rw [hz2]; exact Bool.false_ne_true))), rfl⟩, rfl⟩
  obtain ⟨rfl, hz2, rfl⟩ := hv
  refine a_l0 rfl rfl rfl ?_
  refine a_getq rfl gfX11_37_11 rfl (rfl) ?_
  refine a_getq rfl gfX11_121_5 rfl (rfl) ?_
  refine a_l1 rfl rfl rfl ?_
  refine a_eS1 rfl lX11_117 mo_X11_at (sp_X11_at rfl) rfl rfl rfl rfl ?_
  refine a_top (y := W (11 + 2 * i + 1)) ((atF_nI (show i < 6 by omega) (by decide)).trans (hD.2.1 i (by omega)).2) ?_
  refine a_s3 rfl rfl rfl rfl rfl rfl ?_
  refine a_l0 rfl rfl rfl ?_
  refine a_eV0 rfl lX11_230 mo_X11_rememberAct (f_remember h13 hn h12 hf) rfl rfl rfl ⟨11, _, rfl, rfl, rfl⟩ rfl ?_
  refine a_l0 rfl rfl rfl ?_
  refine a_getq rfl gfX11_37_11 rfl (rfl) ?_
  refine a_getq rfl gfX11_121_5 rfl (rfl) ?_
  refine a_l1 rfl rfl rfl ?_
  refine a_l2 rfl rfl rfl ?_
  refine a_eS0 rfl lX11_243 mo_X11_setAt (sp_X11_setAt rfl) rfl rfl rfl rfl ?_
  rw [setF_nI (show i < 6 by omega) (by decide)]
  refine a_l3 rfl rfl rfl ?_
  exact a_iret rfl rfl (QAc.yes ((if_pos hz).trans (if_pos hz2)) (by rw [hx]) (by rw [hx]))
end T79t
end
section
/-! ===== undo, the image, the seed: exactly, on both sides ===== -/
section T79u
variable {S : aS} {I : Nat → Nat → Int32} {L : Nat → Nat → Int64} {w1 w2 t : Nat} {n fa r : Nat}
set_option maxRecDepth 100000
def unH (I : Nat → Nat → Int32) (r : Nat) : Nat → Nat → Int32 := if r = 0 then up2 I 420 0 0 else cpR (up2 (up2 I 420 0 0) 420 7 (nI (r - 1))) 421 0 425 (335 * (r - 1)) 335
theorem h_undo (er : I 420 7 = nI r) (hr12 : r ≤ 12) : SpE S m_X12_undo 12 [.ref 420] (hp I L w1 w2 t) (some (.int (bI (decide (¬ r = 0))))) (hp (unH I r) L w1 w2 t) := by
  refine SpE_of ok_X12_undo rfl rfl ?_
  show AW S m_X12_undo 12 _ _ 0 0 0 [some (.ref 420), none] [] (hp I L w1 w2 t)
  refine a_l0 rfl rfl rfl ?_
  refine a_s rfl rfl ?_
  refine a_puti rfl pfX12_3_12 rfl ?_
  refine a_l0 rfl rfl rfl ?_
  refine a_geti rfl gfX12_53_12 rfl ?_
  refine a_top (y := nI r) ((up2_ne (Or.inr (by decide))).trans er) ?_
  refine a_if_ne rfl (fun c => ?_) (fun c => ?_)
  · rcases r with _ | m
    · exact absurd rfl c
    · refine a_l0 rfl rfl rfl ?_
      refine a_s rfl rfl ?_
      refine a_geti rfl gfX12_53_12 rfl ?_
      refine a_top (y := nI (m + 1)) ((up2_ne (Or.inr (by decide))).trans er) ?_
      refine a_s rfl rfl ?_
      refine a_s rfl rfl ?_
      refine a_top (y := nI m) (nI_dec m) ?_
      refine a_puti rfl pfX12_53_12 rfl ?_
      refine a_s rfl rfl ?_
      refine a_s1 rfl rfl rfl rfl rfl rfl ?_
      refine a_forE (n := 335) (fun j => [some (.ref 420), some (.int (nI j))]) (fun j => hp (cpR (up2 (up2 I 420 0 0) 420 7 (nI m)) 421 0 425 (335 * m) j) L w1 w2 t) (by simp [lsub, nI_0]) (by rw [cpR_0]) ?_ (fun j hj ih => ?_)
      · refine a_l1 rfl rfl rfl ?_
        refine a_s rfl rfl ?_
        refine a_ic_ge rfl (fun _ => ?_) (fun c => absurd (Int32.le_refl _) c)
        refine a_s rfl rfl ?_
        exact a_zret rfl rfl rfl ⟨by rw [decide_eq_true (Nat.succ_ne_zero m)]; rfl, by unfold unH; rw [if_neg (Nat.succ_ne_zero m)]; rfl⟩
      · refine a_l1 rfl rfl rfl ?_
        refine a_s rfl rfl ?_
        refine a_ic_ge rfl (fun c => absurd c (nI_ge (b := 335) hj (by omega))) (fun _ => ?_)
        refine a_l0 rfl rfl rfl ?_
        refine a_getq rfl gfX12_13_12 rfl (rfl) ?_
        refine a_l1 rfl rfl rfl ?_
        refine a_l0 rfl rfl rfl ?_
        refine a_getq rfl gfX12_26_12 rfl (rfl) ?_
        refine a_s rfl rfl ?_
        refine a_l0 rfl rfl rfl ?_
        refine a_geti rfl gfX12_53_12 rfl ?_
        refine a_top (y := nI m) ((congrFun (cpR_row (by decide)) 7).trans up2_at) ?_
        refine a_s rfl rfl ?_
        refine a_top (y := nI (335 * m)) (nI_mul 335 m) ?_
        refine a_l1 rfl rfl rfl ?_
        refine a_s rfl rfl ?_
        refine a_top (y := nI (335 * m + j)) (nI_addl _ _) ?_
        refine a_ialdv (v := up2 (up2 I 420 0 0) 420 7 (nI m) 425 (j + 335 * m)) rfl (n := 4020) rfl (inI_nI (by omega) (by omega)) (by rw [nI_clamp (by omega), cpR_row (by decide), Nat.add_comm j (335 * m)]) ?_
        refine a_iastv (k := 0 + j) rfl (n := 2033) rfl (inI_nI (by omega) (by omega)) (by rw [nI_clamp (by omega)]; omega) ?_
        rw [cpR_succ]
        refine a_i1 rfl rfl rfl ?_
        refine a_goto rfl ?_
        exact a_back ih (by simp [lsub, nI_1]) rfl
  · have r0 : r = 0 := (nI_eq0 (by omega)).mp c
    refine a_s rfl rfl ?_
    exact a_zret rfl rfl rfl ⟨by rw [r0]; rfl, by unfold unH; rw [if_pos r0]⟩
theorem h_back : SpE S m_X12_back 12 [.ref 420] (hp I L w1 w2 t) (some (.int (bI (decide (¬ I 420 6 = 0))))) (hp (if I 420 6 = 0 then up2 I 420 0 0 else bkH I) L w1 w2 t) := by
  refine SpE_of ok_X12_back rfl rfl ?_
  show AW S m_X12_back 12 _ _ 0 0 0 [some (.ref 420), none] [] (hp I L w1 w2 t)
  refine a_l0 rfl rfl rfl ?_
  refine a_s rfl rfl ?_
  refine a_puti rfl pfX12_3_12 rfl ?_
  refine a_l0 rfl rfl rfl ?_
  refine a_geti rfl gfX12_49_12 rfl ?_
  refine a_top (y := I 420 6) (up2_ne (Or.inr (by decide))) ?_
  refine a_if_ne rfl (fun c => ?_) (fun c => ?_)
  · rw [if_neg c]
    refine a_s rfl rfl ?_
    refine a_s1 rfl rfl rfl rfl rfl rfl ?_
    refine a_forE (n := 1184) (fun j => [some (.ref 420), some (.int (nI j))]) (fun j => hp (cpR (up2 I 420 0 0) 421 0 422 0 j) L w1 w2 t) (by simp [lsub, nI_0]) (by rw [cpR_0]) ?_ (fun j hj ih => ?_)
    · refine a_l1 rfl rfl rfl ?_
      refine a_s rfl rfl ?_
      refine a_ic_ge rfl (fun _ => ?_) (fun c => absurd (Int32.le_refl _) c)
      refine a_l0 rfl rfl rfl ?_
      refine a_s rfl rfl ?_
      refine a_puti rfl pfX12_53_12 rfl ?_
      refine a_s rfl rfl ?_
      exact a_zret rfl rfl rfl ⟨by rw [decide_eq_true c]; rfl, rfl⟩
    · refine a_l1 rfl rfl rfl ?_
      refine a_s rfl rfl ?_
      refine a_ic_ge rfl (fun c => absurd c (nI_ge (b := 1184) hj (by omega))) (fun _ => ?_)
      refine a_l0 rfl rfl rfl ?_
      refine a_getq rfl gfX12_13_12 rfl (rfl) ?_
      refine a_l1 rfl rfl rfl ?_
      refine a_l0 rfl rfl rfl ?_
      refine a_getq rfl gfX12_17_12 rfl (rfl) ?_
      refine a_l1 rfl rfl rfl ?_
      refine a_ialdv (v := (up2 I 420 0 0) 422 (j + 0)) rfl (n := 1184) rfl (inI_nI (by omega) (by omega)) (by rw [nI_clamp (by omega), cpR_row (by decide)]; rfl) ?_
      refine a_iastv (k := 0 + j) rfl (n := 2033) rfl (inI_nI (by omega) (by omega)) (by rw [nI_clamp (by omega)]; omega) ?_
      rw [cpR_succ]
      refine a_i1 rfl rfl rfl ?_
      refine a_goto rfl ?_
      exact a_back ih (by simp [lsub, nI_1]) rfl
  · rw [if_pos c]
    refine a_s rfl rfl ?_
    exact a_zret rfl rfl rfl ⟨by rw [decide_eq_false (fun z => z c)]; rfl, rfl⟩
theorem h_seed {x : Int32} : SpE S m_X12_seed 12 [.ref 420, .int x] (hp I L w1 w2 t) (some (.int (I 421 10))) (hp (up2 (up2 I 420 0 0) 421 10 x) L w1 w2 t) := by
  refine SpE_of ok_X12_seed rfl rfl ?_
  show AW S m_X12_seed 12 _ _ 0 0 0 [some (.ref 420), some (.int x), none] [] (hp I L w1 w2 t)
  refine a_l0 rfl rfl rfl ?_
  refine a_s rfl rfl ?_
  refine a_puti rfl pfX12_3_12 rfl ?_
  refine a_l0 rfl rfl rfl ?_
  refine a_getq rfl gfX12_13_12 rfl (rfl) ?_
  refine a_s rfl rfl ?_
  refine a_ialdv (v := I 421 10) rfl (n := 2033) rfl ⟨by decide, by decide⟩ (congrFun (up2_row (by decide)) 10) ?_
  refine a_s2 rfl rfl rfl rfl rfl rfl ?_
  refine a_l0 rfl rfl rfl ?_
  refine a_getq rfl gfX12_13_12 rfl (rfl) ?_
  refine a_s rfl rfl ?_
  refine a_l1 rfl rfl rfl ?_
  refine a_iastv (k := 10) rfl (n := 2033) rfl ⟨by decide, by decide⟩ rfl ?_
  refine a_l2 rfl rfl rfl ?_
  exact a_iret rfl rfl ⟨rfl, rfl⟩
def unS (I : Nat → Nat → Int32) (n fa : Nat) : Nat → Nat → Int32 := if n = 0 then I else cpS (up2 I 200 13 (nI (n - 1))) 235 (288 + 11 * ((fa + (n - 1)) % 12)) 11
theorem f_undo (h13 : I 200 13 = nI n) (hn : n ≤ 12) (h12 : I 200 12 = nI fa) (hf : fa < 12) : SpE S m_X11_undo 15 [.ref 200] (hp I L w1 w2 t) (some (.int (bI (decide (¬ n = 0))))) (hp (unS I n fa) L w1 w2 t) := by
  refine SpE_of ok_X11_undo rfl rfl ?_
  show AW S m_X11_undo 15 _ _ 0 0 0 [some (.ref 200), none] [] (hp I L w1 w2 t)
  refine a_l0 rfl rfl rfl ?_
  refine a_getiv (v := nI n) rfl gfX11_95_11 rfl (h13) ?_
  refine a_s rfl rfl ?_
  rcases n with _ | m
  · refine a_ic_ge rfl (fun c => absurd c (by decide)) (fun _ => ?_)
    refine a_s rfl rfl ?_
    exact a_zret rfl rfl rfl ⟨rfl, rfl⟩
  · have hi : (fa + m) % 12 < 12 := Nat.mod_lt _ (by decide)
    refine a_ic_ge rfl (fun _ => ?_) (fun c => absurd (nI_leu (n := 1) (j := m + 1) (by omega) (by omega)) c)
    refine a_l0 rfl rfl rfl ?_
    refine a_s rfl rfl ?_
    refine a_getiv (v := nI (m + 1)) rfl gfX11_95_11 rfl (h13) ?_
    refine a_s rfl rfl ?_
    refine a_s rfl rfl ?_
    refine a_top (y := nI m) (nI_dec m) ?_
    refine a_puti rfl pfX11_95_11 rfl ?_
    refine a_l0 rfl rfl rfl ?_
    refine a_l0 rfl rfl rfl ?_
    refine a_getiv (v := nI fa) rfl gfX11_368_11 rfl ((up2_ne (Or.inr (by decide))).trans h12) ?_
    refine a_l0 rfl rfl rfl ?_
    refine a_getiv (v := nI m) rfl gfX11_95_11 rfl (up2_at) ?_
    refine a_s rfl rfl ?_
    refine a_top (y := nI (fa + m)) (nI_addl fa m) ?_
    refine a_eV1 rfl lX11_371 mo_X11_pastAt (f_pastAt (k := fa + m) (by omega)) rfl rfl rfl ⟨11, _, rfl, rfl, rfl⟩ rfl ?_
    refine a_s1 rfl rfl rfl rfl rfl rfl ?_
    refine a_l1 rfl rfl rfl ?_
    refine a_ifnull_f rfl ?_
    refine a_l0 rfl rfl rfl ?_
    refine a_getq rfl gfX11_37_11 rfl (rfl) ?_
    refine a_l1 rfl rfl rfl ?_
    refine a_eV0 rfl lX11_375 mo_X5_copyAll (sp_X5_copyAll (a := 235) (b := 288 + 11 * ((fa + m) % 12)) (by decide) (past_st _ hi) (by omega)) rfl rfl rfl ⟨5, _, rfl, rfl, rfl⟩ rfl ?_
    refine a_s rfl rfl ?_
    exact a_zret rfl rfl rfl ⟨by rw [decide_eq_true (Nat.succ_ne_zero m)]; rfl, by unfold unS; rw [if_neg (Nat.succ_ne_zero m)]; rfl⟩
def bkS (I : Nat → Nat → Int32) : Nat → Nat → Int32 := up2 (cpL (cpS I 235 268 11) 246 279) 200 13 0
theorem f_back : SpE S m_X11_back 15 [.ref 200] (hp I L w1 w2 t) (some (.int (bI (decide (¬ I 200 10 = 0))))) (hp (if I 200 10 = 0 then I else bkS I) L w1 w2 t) := by
  refine SpE_of ok_X11_back rfl rfl ?_
  show AW S m_X11_back 15 _ _ 0 0 0 [some (.ref 200)] [] (hp I L w1 w2 t)
  refine a_l0 rfl rfl rfl ?_
  refine a_geti rfl gfX11_378_11 rfl ?_
  refine a_if_ne rfl (fun c => ?_) (fun c => ?_)
  · rw [if_neg c]
    refine a_l0 rfl rfl rfl ?_
    refine a_getq rfl gfX11_37_11 rfl (rfl) ?_
    refine a_l0 rfl rfl rfl ?_
    refine a_getq rfl gfX11_58_11 rfl (rfl) ?_
    refine a_eV0 rfl lX11_375 mo_X5_copyAll (sp_X5_copyAll (a := 235) (b := 268) (by decide) (by decide) (by decide)) rfl rfl rfl ⟨5, _, rfl, rfl, rfl⟩ rfl ?_
    refine a_l0 rfl rfl rfl ?_
    refine a_getq rfl gfX11_44_11 rfl (rfl) ?_
    refine a_l0 rfl rfl rfl ?_
    refine a_getq rfl gfX11_61_11 rfl (rfl) ?_
    refine a_eV0 rfl lX11_104 mo_X2_copyFrom (sp_X2_copyFrom (a := 246) (b := 279) (by decide) (by decide) (by decide)) rfl rfl rfl ⟨2, _, rfl, rfl, rfl⟩ rfl ?_
    refine a_l0 rfl rfl rfl ?_
    refine a_s rfl rfl ?_
    refine a_puti rfl pfX11_95_11 rfl ?_
    refine a_s rfl rfl ?_
    exact a_zret rfl rfl rfl ⟨by rw [decide_eq_true c]; rfl, rfl⟩
  · rw [if_pos c]
    refine a_s rfl rfl ?_
    exact a_zret rfl rfl rfl ⟨by rw [decide_eq_false (fun z => z c)]; rfl, rfl⟩
def imS (I : Nat → Nat → Int32) : Nat → Nat → Int32 := up2 (cpL (cpS I 268 235 11) 279 246) 200 10 1
theorem f_image : SpE S m_X11_image 15 [.ref 200] (hp I L w1 w2 t) none (hp (imS I) L w1 w2 t) := by
  refine SpE_of ok_X11_image rfl rfl ?_
  show AW S m_X11_image 15 _ _ 0 0 0 [some (.ref 200)] [] (hp I L w1 w2 t)
  refine a_l0 rfl rfl rfl ?_
  refine a_getq rfl gfX11_58_11 rfl (rfl) ?_
  refine a_l0 rfl rfl rfl ?_
  refine a_getq rfl gfX11_37_11 rfl (rfl) ?_
  refine a_eV0 rfl lX11_375 mo_X5_copyAll (sp_X5_copyAll (a := 268) (b := 235) (by decide) (by decide) (by decide)) rfl rfl rfl ⟨5, _, rfl, rfl, rfl⟩ rfl ?_
  refine a_l0 rfl rfl rfl ?_
  refine a_getq rfl gfX11_61_11 rfl (rfl) ?_
  refine a_l0 rfl rfl rfl ?_
  refine a_getq rfl gfX11_44_11 rfl (rfl) ?_
  refine a_eV0 rfl lX11_104 mo_X2_copyFrom (sp_X2_copyFrom (a := 279) (b := 246) (by decide) (by decide) (by decide)) rfl rfl rfl ⟨2, _, rfl, rfl, rfl⟩ rfl ?_
  refine a_l0 rfl rfl rfl ?_
  refine a_s rfl rfl ?_
  refine a_putz rfl pfX11_378_11 ⟨rfl, rfl⟩ rfl ?_
  exact a_vret rfl rfl ⟨rfl, rfl⟩
theorem f_seed {x : Int32} : SpE S m_X11_seed 12 [.ref 200, .int x] (hp I L w1 w2 t) (some (.int (I 235 15))) (hp (up2 I 235 15 x) L w1 w2 t) := by
  refine SpE_of ok_X11_seed rfl rfl ?_
  show AW S m_X11_seed 12 _ _ 0 0 0 [some (.ref 200), some (.int x), none] [] (hp I L w1 w2 t)
  refine a_l0 rfl rfl rfl ?_
  refine a_getq rfl gfX11_37_11 rfl (rfl) ?_
  refine a_getiv (v := I 235 15) rfl gfX11_353_5 rfl (rfl) ?_
  refine a_s2 rfl rfl rfl rfl rfl rfl ?_
  refine a_l0 rfl rfl rfl ?_
  refine a_getq rfl gfX11_37_11 rfl (rfl) ?_
  refine a_l1 rfl rfl rfl ?_
  refine a_puti rfl pfX11_353_5 rfl ?_
  refine a_l2 rfl rfl rfl ?_
  exact a_iret rfl rfl ⟨rfl, rfl⟩
end T79u
end
section
section T58c
set_option maxRecDepth 100000
/-- the steps of a count of bits, on numbers -/
def bcA (x : Int32) : Int32 := x - (((x.toUInt32 >>> ((1 : Int32).toUInt32 &&& Int32.toUInt32 31)).toInt32) &&& 1431655765)
def bcB (a : Int32) : Int32 := (a &&& 858993459) + ((a.toUInt32 >>> ((2 : Int32).toUInt32 &&& Int32.toUInt32 31)).toInt32 &&& 858993459)
def bcC (b : Int32) : Int32 := (b + (b.toUInt32 >>> ((4 : Int32).toUInt32 &&& Int32.toUInt32 31)).toInt32) &&& 252645135
def bcD (c : Int32) : Int32 := c + (c.toUInt32 >>> ((8 : Int32).toUInt32 &&& Int32.toUInt32 31)).toInt32
def bcE (e : Int32) : Int32 := e + (e.toUInt32 >>> ((16 : Int32).toUInt32 &&& Int32.toUInt32 31)).toInt32
def bnA (m : Nat) : Nat := m - (m >>> 1 &&& 1431655765)
def bnB (a : Nat) : Nat := (a &&& 858993459) + (a >>> 2 &&& 858993459)
def bnC (b : Nat) : Nat := (b + b >>> 4) &&& 252645135
def bnD (c : Nat) : Nat := c + c >>> 8
def bnE (e : Nat) : Nat := e + e >>> 16
variable {a k m : Nat}
theorem nI_bt {i : Nat} (hi : i < 32) : bt (nI m) i = m.testBit i := by
  show (BitVec.ofNat 32 m).getLsbD i = _
  rw [BitVec.getLsbD_ofNat, decide_eq_true hi, Bool.true_and]
theorem nI_and {b : Nat} : nI a &&& nI b = nI (a &&& b) := b_ext fun i hi => by rw [b_and, nI_bt hi, nI_bt hi, nI_bt hi, Nat.testBit_and]
theorem nI_shr (k : Nat) (hk : k < 32) (hm : m < 2 ^ 31) : ((nI m).toUInt32 >>> ((nI k).toUInt32 &&& Int32.toUInt32 31)).toInt32 = nI (m >>> k) := b_ext fun i hi => by
  rw [b_ushr k hk, nI_bt hi, Nat.testBit_shiftRight]
  by_cases c : k + i < 32
  · exact nI_bt c
  · rw [b_big (by omega), Nat.testBit_lt_two_pow (Nat.lt_of_lt_of_le hm (Nat.pow_le_pow_right (by decide) (by omega)))]
theorem bcA_n (hm : m < 2 ^ 20) : bcA (nI m) = nI (bnA m) ∧ bnA m ≤ m := by
  refine ⟨?_, Nat.sub_le _ _⟩
  unfold bcA bnA
  rw [show ((nI m).toUInt32 >>> ((1 : Int32).toUInt32 &&& Int32.toUInt32 31)).toInt32 = nI (m >>> 1) from nI_shr 1 (by decide) (by omega), show (1431655765 : Int32) = nI 1431655765 from rfl, nI_and, nI_sub]
  exact Nat.le_trans Nat.and_le_left (Nat.shiftRight_le m 1)
theorem bcB_n (hm : m < 2 ^ 20) : bcB (nI m) = nI (bnB m) ∧ bnB m ≤ m + m := by
  refine ⟨?_, Nat.add_le_add Nat.and_le_left (Nat.le_trans Nat.and_le_left (Nat.shiftRight_le m 2))⟩
  unfold bcB bnB
  rw [show ((nI m).toUInt32 >>> ((2 : Int32).toUInt32 &&& Int32.toUInt32 31)).toInt32 = nI (m >>> 2) from nI_shr 2 (by decide) (by omega), show (858993459 : Int32) = nI 858993459 from rfl, nI_and, nI_and, nI_addl]
theorem bcC_n (hm : m < 2 ^ 20) : bcC (nI m) = nI (bnC m) ∧ bnC m ≤ m + m := by
  refine ⟨?_, Nat.le_trans Nat.and_le_left (Nat.add_le_add_left (Nat.shiftRight_le m 4) m)⟩
  unfold bcC bnC
  rw [show ((nI m).toUInt32 >>> ((4 : Int32).toUInt32 &&& Int32.toUInt32 31)).toInt32 = nI (m >>> 4) from nI_shr 4 (by decide) (by omega), nI_addl, show (252645135 : Int32) = nI 252645135 from rfl, nI_and]
theorem bcD_n (hm : m < 2 ^ 20) : bcD (nI m) = nI (bnD m) ∧ bnD m ≤ m + m := by
  refine ⟨?_, Nat.add_le_add_left (Nat.shiftRight_le m 8) m⟩
  unfold bcD bnD
  rw [show ((nI m).toUInt32 >>> ((8 : Int32).toUInt32 &&& Int32.toUInt32 31)).toInt32 = nI (m >>> 8) from nI_shr 8 (by decide) (by omega), nI_addl]
theorem bcE_n (hm : m < 2 ^ 20) : bcE (nI m) = nI (bnE m) := by
  unfold bcE bnE
  rw [show ((nI m).toUInt32 >>> ((16 : Int32).toUInt32 &&& Int32.toUInt32 31)).toInt32 = nI (m >>> 16) from nI_shr 16 (by decide) (by omega), nI_addl]
def bcN (m : Nat) : Nat := bnE (bnD (bnC (bnB (bnA m)))) &&& 63
theorem bc_nI (hm : m < 4096) : bcF (nI m) = nI (bcN m) := by
  show bcE (bcD (bcC (bcB (bcA (nI m))))) &&& 63 = _
  obtain ⟨e1, l1⟩ := bcA_n (m := m) (by omega)
  obtain ⟨e2, l2⟩ := bcB_n (m := bnA m) (by omega)
  obtain ⟨e3, l3⟩ := bcC_n (m := bnB (bnA m)) (by omega)
  obtain ⟨e4, l4⟩ := bcD_n (m := bnC (bnB (bnA m))) (by omega)
  rw [e1, e2, e3, e4, bcE_n (by omega), show (63 : Int32) = nI 63 from rfl, nI_and]
  rfl
theorem bcN_add : ∀ n, n < 12 → ∀ m, m < 2 ^ n → bcN (m + 2 ^ n) = bcN m + 1 := by decide +kernel
theorem bc_add : ∀ n, n < 12 → ∀ m, m < 2 ^ n → bcF (nI (m + 2 ^ n)) = bcF (nI m) + 1 := by
  intro n hn m hm
  have h : 2 ^ n ≤ 2 ^ 11 := Nat.pow_le_pow_right (by decide) (by omega)
  rw [bc_nI (by omega), bc_nI (by omega), bcN_add n hn m hm, nI_succ]
end T58c
/-! ===== sets by their bits; the class's queries on a street are those on its row ===== -/
section P79v
variable {nd np d : Nat} {W : Nat → Int32} {I : Nat → Nat → Int32} {a : Nat}
set_option maxRecDepth 100000
theorem bt_bitF {e i : Nat} (he : e < 31) (hi : i < 32) : bt (bitF (nI e)) i = decide (i = e) := by
  unfold bitF
  rw [if_neg (nI_pos (by omega)), if_neg (fun z => by have := nI_ge_of (a := e) (b := 31) z (by omega) (by decide); omega)]
  exact bt_sh (by omega) hi
theorem bt_bs {P : Nat → Bool} : ∀ {n : Nat}, n ≤ 12 → ∀ i, i < 32 → bt (bs n P) i = (decide (i < n) && P i) := by
  intro n
  induction n with
  | zero =>
    intro _ i _
    exact b_0 i
  | succ n ih =>
    intro hn i hi
    have ih := ih (by omega) i hi
    show bt (if P n then bs n P ||| bitF (nI n) else bs n P) i = _
    by_cases c : P n = true
    · rw [if_pos c, b_or, ih, bt_bitF (by omega) hi]
      by_cases ci : i = n
      · subst ci
        simp [c]
      · simp only [ci, decide_false, Bool.or_false]
        congr 1
        exact decide_eq_decide.mpr ⟨fun z => by omega, fun z => by omega⟩
    · rw [if_neg c, ih]
      by_cases ci : i = n
      · subst ci
        simp [c]
      · congr 1
        exact decide_eq_decide.mpr ⟨fun z => by omega, fun z => by omega⟩
theorem hasF_bt {s : Int32} {e : Nat} (he : e < 31) : hasF s (nI e) = bt s e := by
  unfold hasF
  have key : (s &&& bitF (nI e)) = 0 ↔ bt s e = false := by
    constructor
    · intro z
      have := congrArg (fun x => bt x e) z
      simp only [b_and, b_0, bt_bitF he (show e < 32 by omega), decide_true, Bool.and_true] at this
      exact this
    · intro z
      refine b_ext fun i hi => ?_
      rw [b_and, b_0, bt_bitF he hi]
      by_cases c : i = e
      · subst c
        simp [z]
      · simp [c]
  cases hb : bt s e with
  | false => exact decide_eq_false (fun z => z (key.mpr hb))
  | true => exact decide_eq_true (fun z => by rw [key.mp z] at hb; cases hb)
theorem shb_is {s : Int32} {e : Nat} (he : e < 31) : shb s e = bt s e := by
  unfold shb
  have key : ((s >>> (nI e &&& 31)) &&& 1) = 0 ↔ bt s e = false := by
    constructor
    · intro z
      have := congrArg (fun x => bt x 0) z
      simp only [b_and, b_0, bt_1 0 (by decide), b_sshr e (show e < 32 by omega) s (show 0 < 32 by decide), Nat.add_zero, decide_true, Bool.and_true] at this
      rw [if_pos (by omega)] at this
      exact this
    · intro z
      refine b_ext fun i hi => ?_
      rw [b_and, b_0, bt_1 i hi, b_sshr e (by omega) s hi]
      by_cases c : i = 0
      · subst c
        rw [Nat.add_zero, if_pos (by omega), z]
        rfl
      · simp [c]
  cases hb : bt s e with
  | false => exact decide_eq_false (fun z => z (key.mpr hb))
  | true => exact decide_eq_true (fun z => by rw [key.mp z] at hb; cases hb)
theorem hasF_or {x y : Int32} {e : Nat} (he : e < 31) : hasF (x ||| y) (nI e) = (hasF x (nI e) || hasF y (nI e)) := by rw [hasF_bt he, hasF_bt he, hasF_bt he, b_or]
theorem hasF_bit {e i : Nat} (he : e < 31) (hi : i < 31) : hasF (bitF (nI e)) (nI i) = decide (i = e) := by rw [hasF_bt hi, bt_bitF he (by omega)]
theorem hasF_0 {i : Nat} (hi : i < 31) : hasF 0 (nI i) = false := by rw [hasF_bt hi, b_0]
theorem hasF_bs {P : Nat → Bool} (hn : nd ≤ 12) (hd : d < nd) : hasF (bs nd P) (nI d) = P d := by
  rw [hasF_bt (by omega), bt_bs hn d (by omega), decide_eq_true hd, Bool.true_and]
theorem shb_bs {P : Nat → Bool} (hn : nd ≤ 12) (hd : d < 31) : shb (bs nd P) d = (decide (d < nd) && P d) := by
  rw [shb_is hd, bt_bs hn d (by omega)]
theorem bs_and {P Q : Nat → Bool} (hn : nd ≤ 12) : bs nd P &&& bs nd Q = bs nd (fun d => P d && Q d) := by
  refine b_ext fun i hi => ?_
  rw [b_and, bt_bs hn i hi, bt_bs hn i hi, bt_bs hn i hi]
  cases decide (i < nd) <;> simp
theorem bs_andn {P Q : Nat → Bool} (hn : nd ≤ 12) : bs nd P &&& (bs nd Q ^^^ (-1)) = bs nd (fun d => P d && !Q d) := by
  refine b_ext fun i hi => ?_
  rw [b_and, b_xor, b_m1 i hi, bt_bs hn i hi, bt_bs hn i hi, bt_bs hn i hi]
  cases decide (i < nd) <;> simp
theorem bc_bs {P : Nat → Bool} : ∀ {n : Nat}, n ≤ 12 → bcF (bs n P) = nI (cntF n P) := by
  intro n
  induction n with
  | zero =>
    intro _
    show bcF 0 = nI 0
    decide
  | succ n ih =>
    intro hn
    have ih := ih (by omega)
    obtain ⟨m, hm, em⟩ := bs_nI (n := n) (P := P) (by omega)
    show bcF (if P n then bs n P ||| bitF (nI n) else bs n P) = nI (if P n then cntF n P + 1 else cntF n P)
    by_cases c : P n = true
    · rw [if_pos c, if_pos c, em, or_bit n (by omega) m hm, bc_add n (by omega) m hm, ← em, ih, ← nI_succ]
    · rw [if_neg c, if_neg c, ih]
theorem Sd.row {k : Nat} (h : Sd I a W) (hd : d < 12) (hk : k < 6) : I (a + (3 + k)) d = vd W k d := by
  rw [← Nat.add_assoc]
  exact h.2.2 d hd k hk
theorem lf_same (h : Sd I a W) (hG : Rg W) (hd : d < dn W) : lfF (I (a + 7)) (I (a + 8)) (nI d) = lwF W d := by
  have h12 := hG.1.2.1
  have e4 : I (a + 7) d = vd W 4 d := Sd.row (k := 4) h (by omega) (by decide)
  unfold lfF lwF
  rw [atF_nI (show d < 12 by omega) (by decide), e4]
  rcases (hG.2.2.2 d hd).2.2.2.2.1 with z | ⟨j, hj, z⟩
  · have z : vd W 4 d = -1 := z
    rw [z]
    simp
  · have z : vd W 4 d = nI j := z
    rw [z, atF_nI (show j < 12 by omega) (by decide), nI_clamp (by omega), show I (a + 8) j = vd W 5 j from Sd.row (k := 5) h (by omega) (by decide)]
theorem wait_same (h : Sd I a W) (hG : Rg W) (hd : d < dn W) : waitF (dn W) (I (a + 8)) (nI d) = decide (vd W 5 d = 0) := by
  have h12 := hG.1.2.1
  rw [waitF_nI hd h12, show I (a + 8) d = vd W 5 d from Sd.row (k := 5) h (by omega) (by decide)]
theorem rd_same (h : Sd I a W) (hG : Rg W) (hd : d < dn W) : rdF (dn W) (I (a + 8)) (I (a + 7)) (nI d) = readyR W d := by
  unfold rdF readyR
  rw [wait_same h hG hd, lf_same h hG hd]
theorem inS_same (h : Sd I a W) (hG : Rg W) {x : Int32} : inS (dn W) (I (a + 8)) x = inS (dn W) (vd W 5) x := by
  have h12 := hG.1.2.1
  exact bs_congr fun e he => by rw [show I (a + 8) e = vd W 5 e from Sd.row (k := 5) h (by omega) (by decide)]
theorem old_same (h : Sd I a W) (hG : Rg W) {x : Int32} : oldF (dn W) (I (a + 8)) (I (a + 5)) x = oldF (dn W) (vd W 5) (vd W 2) x := by
  have h12 := hG.1.2.1
  exact bs_congr fun e he => by rw [show I (a + 8) e = vd W 5 e from Sd.row (k := 5) h (by omega) (by decide), show I (a + 5) e = vd W 2 e from Sd.row (k := 2) h (by omega) (by decide)]
theorem own_same (h : Sd I a W) (hG : Rg W) {x : Int32} : ownF (dn W) (I (a + 3)) x = ownF (dn W) (vd W 0) x := by
  have h12 := hG.1.2.1
  exact bs_congr fun e he => by rw [show I (a + 3) e = vd W 0 e from Sd.row (k := 0) h (by omega) (by decide)]
theorem place_same (h : Sd I a W) (hG : Rg W) (hd : d < dn W) : placeF (dn W) (I (a + 8)) (I (a + 5)) (nI d) = placeF (dn W) (vd W 5) (vd W 2) (nI d) := by
  have h12 := hG.1.2.1
  have e2 : ∀ e, e < dn W → I (a + 5) e = vd W 2 e := fun e he => Sd.row (k := 2) h (by omega) (by decide)
  have e5 : ∀ e, e < dn W → I (a + 8) e = vd W 5 e := fun e he => Sd.row (k := 5) h (by omega) (by decide)
  unfold placeF placeC
  rw [wait_same h hG hd, waitF_nI hd h12, atF_nI (show d < 12 by omega) (by decide), atF_nI (show d < 12 by omega) (by decide), e2 d hd]
  rw [cntF_congr (P' := fun e => decide (vd W 5 e = 0 ∧ (vd W 2 e < vd W 2 d ∨ (vd W 2 e = vd W 2 d ∧ nI e < nI d)))) fun e he => by rw [e5 e he, e2 e he]]
theorem pass_same (h : Sd I a W) (hG : Rg W) (hd : d < dn W) : passF (dn W) (I (a + 8)) (I (a + 5)) (I a 13) (nI d) = passR (dn W) W d := by
  have h12 := hG.1.2.1
  unfold passF passR
  rw [wait_same h hG hd, inS_same h hG, old_same h hG, show I a 13 = W 7 from Sd.fd h (by decide), atF_nI (show d < 12 by omega) (by decide), show I (a + 5) d = vd W 2 d from Sd.row (k := 2) h (by omega) (by decide)]
  have e1 : bcF (inS (dn W) (vd W 5) 0 &&& (oldF (dn W) (vd W 5) (vd W 2) (vd W 2 d) ^^^ (-1))) = nI (cntF (dn W) (fun e => decide (vd W 5 e = 0 ∧ vd W 2 e ≤ vd W 2 d))) := by
    unfold inS oldF
    rw [bs_andn h12, bc_bs h12]
    congr 1
    refine cntF_congr fun e _ => ?_
    by_cases c5 : vd W 5 e = 0
    · by_cases c2 : vd W 2 e ≤ vd W 2 d
      · simp [c5, c2, Int32.not_lt.mpr c2]
      · simp [c5, c2, Int32.not_le.mp c2]
    · simp [c5]
  rw [e1]
  by_cases c : vd W 5 d = 0
  · rw [decide_eq_true c, if_pos rfl, if_pos c]
  · rw [decide_eq_false c, if_neg Bool.false_ne_true, if_neg c]
theorem can_same (h : Sd I a W) (hG : Rg W) : canF (dn W) (I (a + 8)) (I (a + 7)) (I (a + 4)) (I (a + 5)) (I a 13) = bs (dn W) (canR (dn W) W) := by
  have h12 := hG.1.2.1
  refine bs_congr fun e he => ?_
  unfold canR
  rw [rd_same h hG he, pass_same h hG he, show I (a + 4) e = vd W 1 e from Sd.row (k := 1) h (by omega) (by decide)]
theorem fact_5 (h : Sd I a W) (hG : Rg W) (hd : d < dn W) : atF (I (a + 1)) 6 (vd W 0 d) = W (11 + 2 * (vd W 0 d).toNatClampNeg) := by
  have h6 := hG.1.1
  obtain ⟨⟨j, hj, ej⟩, -⟩ := hG.2.2.2 d hd
  have ej : vd W 0 d = nI j := ej
  rw [ej, atF_nI (show j < 6 by omega) (by decide), nI_clamp (by omega)]
  exact (h.2.1 j (by omega)).1
theorem fact_same (h : Sd I a W) (hG : Rg W) (hd : d < dn W) : factC I a d = factW W d := by
  have h12 := hG.1.2.1
  have e0 : I (a + 3) d = vd W 0 d := Sd.row (k := 0) h (by omega) (by decide)
  have e1 : I (a + 4) d = vd W 1 d := Sd.row (k := 1) h (by omega) (by decide)
  have e2 : I (a + 5) d = vd W 2 d := Sd.row (k := 2) h (by omega) (by decide)
  have e3 : I (a + 6) d = vd W 3 d := Sd.row (k := 3) h (by omega) (by decide)
  have e4 : I a 10 = W 4 := Sd.fd h (by decide)
  have e5 := fact_5 h hG hd
  have e7 := lf_same h hG hd
  funext k
  rcases k with _ | _ | _ | _ | _ | _ | _ | _ | _ | n
  all_goals simp only [factC, factW, e0, e1, e2, e3, e4, e5, e7]
/-- both laws are alike -/
def LwS (I : Nat → Nat → Int32) (b : Nat) (W : Nat → Int32) (nl len : Nat) (cd fa fn : Nat → Nat) : Prop := LawC I b nl len cd fa fn ∧ LawR W nl len cd fa fn ∧ (∀ n, n < nl → I (b + 1) n = kiW W n ∧ I (b + 2) n = nuW W n) ∧ (I b 0 = -1 ↔ W 3 = 0)
theorem sumL_congr {F ki ki' nu nu' : Nat → Int32} {cd fa fn : Nat → Nat} {kind : Int32} : ∀ {n : Nat}, (∀ i, i < n → ki i = ki' i ∧ nu i = nu' i) → sumL F ki nu cd fa fn kind n = sumL F ki' nu' cd fa fn kind n := by
  intro n
  induction n with
  | zero => exact fun _ => rfl
  | succ n ih =>
    intro h
    have e := h n (Nat.lt_succ_self n)
    unfold sumL
    rw [ih fun i hi => h i (Nat.lt_succ_of_lt hi), e.1, e.2]
theorem sum_same {b nl len : Nat} {cd fa fn : Nat → Nat} {kind : Int32} (h : Sd I a W) (hG : Rg W) (hL : LwS I b W nl len cd fa fn) (hd : d < dn W) : sumC I b (factC I a d) cd fa fn nl kind = sumR W cd fa fn nl d kind := by
  unfold sumC sumR
  rw [fact_same h hG hd]
  exact sumL_congr hL.2.2.1
theorem grow_same {b nl len : Nat} {cd fa fn : Nat → Nat} (h : Sd I a W) (hG : Rg W) (hL : LwS I b W nl len cd fa fn) (hd : d < dn W) : growC I a b cd fa fn nl d = sumR W cd fa fn nl d 0 := sum_same h hG hL hd
end P79v
end
section
/-! ===== a day's work, on the row; the class does it so ===== -/
section T79w
variable {S : aS} {I : Nat → Nat → Int32} {L : Nat → Nat → Int64} {w1 w2 t : Nat} {n fa a d p : Nat} {W : Nat → Int32}
set_option maxRecDepth 100000
abbrev WdT : Type := (Nat → Int32) × Int32 × Int32
/-- a duty's turn: the row, hours that are left, tools had -/
def wdS (p taken : Int32) (s : WdT) (d : Nat) : WdT :=
  if 0 < s.2.1 ∧ s.1 (23 + 6 * d + 0) = p ∧ readyR s.1 d = true ∧ hasF taken (s.1 (23 + 6 * d + 3)) = false then
    (if s.1 (23 + 6 * d + 1) - mn s.2.1 (s.1 (23 + 6 * d + 1)) = 0 then ud (ud (ud s.1 (23 + 6 * d + 1) (s.1 (23 + 6 * d + 1) - mn s.2.1 (s.1 (23 + 6 * d + 1)))) (23 + 6 * d + 1) 0) (23 + 6 * d + 5) 1
     else ud s.1 (23 + 6 * d + 1) (s.1 (23 + 6 * d + 1) - mn s.2.1 (s.1 (23 + 6 * d + 1))), s.2.1 - mn s.2.1 (s.1 (23 + 6 * d + 1)), s.2.2 ||| bitF (s.1 (23 + 6 * d + 3)))
  else s
def wdF (p taken : Int32) (s : WdT) : Nat → WdT
  | 0 => s
  | n + 1 => wdS p taken (wdF p taken s n) n
theorem wdF_stop {p taken : Int32} {s : WdT} {j : Nat} (h : ¬ 0 < (wdF p taken s j).2.1) : ∀ i, wdF p taken s (j + i) = wdF p taken s j := by
  intro i
  induction i with
  | zero => rfl
  | succ i ih =>
    show wdS p taken (wdF p taken s (j + i)) (j + i) = _
    rw [ih]
    unfold wdS
    rw [if_neg (fun z => h z.1)]
/-- what holds on the way: ranges, how many, hours 0 to 9; but for left and state all as it was -/
def WdOk (W : Nat → Int32) (s : WdT) : Prop := Rg s.1 ∧ pn s.1 = pn W ∧ dn s.1 = dn W ∧ (∃ h, h ≤ 9 ∧ s.2.1 = nI h) ∧ ∀ k, (∀ d, d < 12 → k ≠ 23 + 6 * d + 1 ∧ k ≠ 23 + 6 * d + 5) → s.1 k = W k
theorem readyR_0 (h : readyR W d = true) : W (23 + 6 * d + 5) = 0 := by
  unfold readyR at h
  rw [Bool.and_eq_true] at h
  exact of_decide_eq_true h.1
theorem Rg.upd {W' : Nat → Int32} (h : Rg W) (hd : d < dn W) (f : ∀ k, k ≠ 23 + 6 * d + 1 → k ≠ 23 + 6 * d + 5 → W' k = W k) {l s : Nat} (hl : l ≤ 99) (e1 : W' (23 + 6 * d + 1) = nI l) (hs : s ≤ 2) (e5 : W' (23 + 6 * d + 5) = nI s) (e : s = 1 ↔ l = 0) : Rg W' ∧ pn W' = pn W ∧ dn W' = dn W := by
  obtain ⟨⟨h1, h2, h3, h4⟩, hf, hp, hdd⟩ := h
  have r : Rg W' := by
    refine Rg.of h1 h2 ((f 0 (by omega) (by omega)).trans h3) ((f 1 (by omega) (by omega)).trans h4) (hf.eq fun k z1 z2 => f k (by omega) (by omega)) (fun p z => (hp p z).eq (f _ (by omega) (by omega)) (f _ (by omega) (by omega))) (fun e' z => ?_)
    by_cases c : e' = d
    · subst c
      obtain ⟨a1, -, a3, a4, a5, -⟩ := hdd e' hd
      unfold RgD
      rw [f (23 + 6 * e' + 0) (by omega) (by omega), f (23 + 6 * e' + 2) (by omega) (by omega), f (23 + 6 * e' + 3) (by omega) (by omega), f (23 + 6 * e' + 4) (by omega) (by omega), e1, e5]
      refine ⟨a1, ⟨l, hl, rfl, ⟨fun z => e.mp (nI_inj (b := 1) (by omega) (by decide) z), fun z => by rw [e.mpr z]; rfl⟩⟩, a3, a4, a5, ⟨s, hs, rfl⟩⟩
    · exact (hdd e' z).eq fun k hk => f _ (by omega) (by omega)
  refine ⟨r, ?_, ?_⟩
  · unfold pn
    rw [f 0 (by omega) (by omega)]
  · unfold dn
    rw [f 1 (by omega) (by omega)]
theorem WdOk.step {s : WdT} {p taken : Int32} (h : WdOk W s) (hd : d < dn W) : WdOk W (wdS p taken s d) := by
  have hd12 := h.1.1.2.1
  unfold wdS
  by_cases c : 0 < s.2.1 ∧ s.1 (23 + 6 * d + 0) = p ∧ readyR s.1 d = true ∧ hasF taken (s.1 (23 + 6 * d + 3)) = false
  rotate_left
  · rw [if_neg c]
    exact h
  rw [if_pos c]
  obtain ⟨hG, hp, hdn, ⟨k, hk, ek⟩, hr⟩ := h
  obtain ⟨-, ⟨l, hl, el, e1⟩, -⟩ := hG.2.2.2 d (by omega)
  have st0 := readyR_0 c.2.2.1
  have l1 : 1 ≤ l := by
    rcases l with _ | l
    · have := e1.mpr rfl
      rw [st0] at this
      exact absurd this (by decide)
    · omega
  have em : mn s.2.1 (s.1 (23 + 6 * d + 1)) = nI (min k l) := by rw [ek, el, mn_nI (by omega) (by omega)]
  have ex : s.1 (23 + 6 * d + 1) - mn s.2.1 (s.1 (23 + 6 * d + 1)) = nI (l - min k l) := by rw [em, el, nI_sub (by omega)]
  have eh : s.2.1 - mn s.2.1 (s.1 (23 + 6 * d + 1)) = nI (k - min k l) := by rw [em, ek, nI_sub (by omega)]
  rw [ex, eh]
  by_cases c0 : nI (l - min k l) = 0
  · rw [if_pos c0]
    have f : ∀ j, j ≠ 23 + 6 * d + 1 → j ≠ 23 + 6 * d + 5 → ud (ud (ud s.1 (23 + 6 * d + 1) (nI (l - min k l))) (23 + 6 * d + 1) 0) (23 + 6 * d + 5) 1 j = s.1 j := fun j j1 j2 => by rw [ud_ne j2, ud_ne j1, ud_ne j1]
    obtain ⟨g1, g2, g3⟩ := Rg.upd (l := 0) (s := 1) hG (by omega) f (by decide) (by rw [ud_ne (by omega), ud_at]; rfl) (by decide) ud_at (by decide)
    refine ⟨g1, g2.trans hp, g3.trans hdn, ⟨k - min k l, by omega, rfl⟩, fun j hj => ?_⟩
    exact (f j (hj d (by omega)).1 (hj d (by omega)).2).trans (hr j hj)
  · rw [if_neg c0]
    have f : ∀ j, j ≠ 23 + 6 * d + 1 → j ≠ 23 + 6 * d + 5 → ud s.1 (23 + 6 * d + 1) (nI (l - min k l)) j = s.1 j := fun j j1 _ => ud_ne j1
    obtain ⟨g1, g2, g3⟩ := Rg.upd (l := l - min k l) (s := 0) hG (by omega) f (by omega) ud_at (by decide) (by rw [ud_ne (by omega), st0]; rfl) ⟨fun z => by omega, fun z => absurd (by rw [z]; rfl) c0⟩
    refine ⟨g1, g2.trans hp, g3.trans hdn, ⟨k - min k l, by omega, rfl⟩, fun j hj => ?_⟩
    exact (f j (hj d (by omega)).1 (hj d (by omega)).2).trans (hr j hj)
theorem WdOk.run {s : WdT} {p taken : Int32} (h : WdOk W s) : ∀ n, n ≤ dn W → WdOk W (wdF p taken s n) := by
  intro n
  induction n with
  | zero => exact fun _ => h
  | succ n ih => exact fun hn => (ih (by omega)).step (by omega)
theorem f_work (hs : stp a) (hD : Sd I a W) (hG : Rg W) {taken : Int32} (hq : p < pn W) : Sp S m_X5_work 17 0 0 [.ref a, .int (nI p), .int taken] (hp I L w1 w2 t) (fun v h' => v = some (.int (wdF (nI p) taken (W, W (11 + 2 * p + 1), 0) (dn W)).2.2) ∧ ∃ J, h' = hp J L w1 w2 t ∧ (∀ q, q ≠ a + 4 → q ≠ a + 8 → J q = I q) ∧ Sd J a (wdF (nI p) taken (W, W (11 + 2 * p + 1), 0) (dn W)).1) nX := by
  have h12 := hG.1.2.1
  have h6 := hG.1.1
  have e0 : (fun q => I (a + 2) q) p = W (11 + 2 * p + 1) := (hD.2.1 p (by omega)).2
  have fr := (hG.2.2.1 p hq).2
  have ok0 : WdOk W (W, W (11 + 2 * p + 1), 0) := ⟨hG, rfl, rfl, fr, fun _ _ => rfl⟩
  refine Sp_of ok_X5_work rfl rfl ?_
  show AW S m_X5_work 17 _ _ 0 0 0 [some (.ref a), some (.int (nI p)), some (.int taken), none, none, none, none] [] (hp I L w1 w2 t)
  refine a_s rfl rfl ?_
  refine a_s3 rfl rfl rfl rfl rfl rfl ?_
  refine a_l0 rfl rfl rfl ?_
  refine a_getq rfl gfX5_15_5 (kS0 hs) (rS2 hs) ?_
  refine a_l1 rfl rfl rfl ?_
  refine a_eSN1 rfl lX5_86 mo_X11_at (sp_X11_at (kS2 hs)) rfl rfl rfl rfl ?_
  refine a_top (y := W (11 + 2 * p + 1)) ((atF_nI (show p < 6 by omega) (by decide)).trans e0) ?_
  refine a_s4 rfl rfl rfl rfl rfl rfl ?_
  refine a_s rfl rfl ?_
  refine a_s5 rfl rfl rfl rfl rfl rfl ?_
  generalize hs0 : ((W, W (11 + 2 * p + 1), 0) : WdT) = s0 at ok0 ⊢
  refine a_inv (n := dn W) (fun m ls h => ∃ j J, ls = [some (.ref a), some (.int (nI p)), some (.int taken), some (.int (wdF (nI p) taken s0 j).2.2), some (.int (wdF (nI p) taken s0 j).2.1), some (.int (nI j)), none] ∧ h = hp J L w1 w2 t ∧ j ≤ dn W ∧ m = dn W - j ∧ Sd J a (wdF (nI p) taken s0 j).1 ∧ ∀ q, q ≠ a + 4 → q ≠ a + 8 → J q = I q) ⟨0, I, by rw [← hs0]; rfl, rfl, Nat.zero_le _, rfl, by rw [← hs0]; exact hD, fun _ _ _ => rfl⟩ ?_
  rintro m _ _ ⟨j, J, rfl, rfl, hj, hm, hDJ, hf⟩ ih
  have okj := ok0.run (p := nI p) (taken := taken) j hj
  have hdj : J a 3 = nI (dn W) := ((Sd.fd hDJ (f := 3) (g := 1) (by decide)).trans okj.1.1.2.2.2).trans (by rw [okj.2.2.1])
  refine a_l5 rfl rfl rfl ?_
  refine a_l0 rfl rfl rfl ?_
  refine a_getiv (v := nI (dn W)) rfl gfX5_63_5 (kS0 hs) hdj ?_
  refine a_ic_ge rfl (fun c => ?_) (fun c => ?_)
  · have hge := nI_ge_of c (by omega) (by omega)
    obtain rfl : j = dn W := by omega
    refine a_l3 rfl rfl rfl ?_
    exact a_iret rfl rfl ⟨rfl, J, rfl, hf, hDJ⟩
  have hjn := nI_lt_of c (by omega) (by omega)
  refine a_l4 rfl rfl rfl ?_
  refine a_if_le rfl (fun c2 => ?_) (fun c2 => ?_)
  · have e := wdF_stop (p := nI p) (taken := taken) (s := s0) (j := j) (Int32.not_lt.mpr c2) (dn W - j)
    rw [show j + (dn W - j) = dn W by omega] at e
    refine a_l3 rfl rfl rfl ?_
    rw [e]
    exact a_iret rfl rfl ⟨rfl, J, rfl, hf, hDJ⟩
  have hpos := Int32.not_le.mp c2
  have es : wdF (nI p) taken s0 (j + 1) = wdS (nI p) taken (wdF (nI p) taken s0 j) j := rfl
  -- the loop goes on
  have on : ∀ (K : Nat → Nat → Int32) (v : Option Value), Sd K a (wdF (nI p) taken s0 (j + 1)).1 → (∀ q, q ≠ a + 4 → q ≠ a + 8 → K q = I q) → AW S m_X5_work 17 (fun v h' => v = some (.int (wdF (nI p) taken s0 (dn W)).2.2) ∧ ∃ J, h' = hp J L w1 w2 t ∧ (∀ q, q ≠ a + 4 → q ≠ a + 8 → J q = I q) ∧ Sd J a (wdF (nI p) taken s0 (dn W)).1) nX 0 0 144 [some (.ref a), some (.int (nI p)), some (.int taken), some (.int (wdF (nI p) taken s0 (j + 1)).2.2), some (.int (wdF (nI p) taken s0 (j + 1)).2.1), some (.int (nI j)), v] [] (hp K L w1 w2 t) := by
    intro K v hK hfK
    refine a_iv5 (y := nI (j + 1)) rfl rfl rfl ((nI_succ j).symm) ?_
    refine a_goto rfl ?_
    exact a_less (ih (dn W - (j + 1)) _ _ (by omega) ⟨j + 1, K, rfl, rfl, by omega, rfl, hK, hfK⟩) ⟨rfl, rfl, rfl, rfl, rfl, rfl, trivial⟩
  have skip : (¬ (0 < (wdF (nI p) taken s0 j).2.1 ∧ (wdF (nI p) taken s0 j).1 (23 + 6 * j + 0) = nI p ∧ readyR (wdF (nI p) taken s0 j).1 j = true ∧ hasF taken ((wdF (nI p) taken s0 j).1 (23 + 6 * j + 3)) = false)) → wdF (nI p) taken s0 (j + 1) = wdF (nI p) taken s0 j := fun z => if_neg z
  generalize hsj : wdF (nI p) taken s0 j = sj at hDJ okj hpos es skip on ⊢
  have row : ∀ k, k < 6 → J (a + 3 + k) j = sj.1 (23 + 6 * j + k) := fun k hk => hDJ.2.2 j (by omega) k hk
  refine a_l0 rfl rfl rfl ?_
  refine a_getq rfl gfX5_18_5 (kS0 hs) (rS4 hs) ?_
  refine a_l5 rfl rfl rfl ?_
  refine a_eSN1 rfl lX5_86 mo_X11_at (sp_X11_at (kS3 hs)) rfl rfl rfl rfl ?_
  refine a_top (y := sj.1 (23 + 6 * j + 0)) ((atF_nI (show j < 12 by omega) (by decide)).trans (row 0 (by decide))) ?_
  refine a_l1 rfl rfl rfl ?_
  refine a_ic_ne rfl (fun c3 => ?_) (fun c3 => ?_)
  · have e := skip (fun z => c3 z.2.1)
    have on := on J none (by rw [e]; exact hDJ) hf
    rw [e] at on
    exact on
  refine a_l0 rfl rfl rfl ?_
  refine a_l5 rfl rfl rfl ?_
  refine a_eV1 rfl lX5_101 mo_X5_isReady (sp_X5_isReady (nd := dn W) hs hdj h12) rfl rfl rfl ⟨5, _, kS0 hs, rfl, rfl⟩ rfl ?_
  rw [show rdF (dn W) (J (a + 8)) (J (a + 7)) (nI j) = readyR sj.1 j by rw [← okj.2.2.1]; exact rd_same hDJ okj.1 (by rw [okj.2.2.1]; exact hjn)]
  obtain ⟨z, hz⟩ : ∃ z, readyR sj.1 j = z := ⟨_, rfl⟩
  rw [hz]
  cases z with
  | false =>
    refine a_if_eq rfl (fun _ => ?_) (fun c => absurd rfl c)
    have e := skip (fun y => by rw [hz] at y; exact Bool.false_ne_true y.2.2.1)
    have on := on J none (by rw [e]; exact hDJ) hf
    rw [e] at on
    exact on
  | true =>
  refine a_if_eq rfl (fun c => absurd c (by decide)) (fun _ => ?_)
  refine a_l2 rfl rfl rfl ?_
  refine a_l0 rfl rfl rfl ?_
  refine a_getq rfl gfX5_27_5 (kS0 hs) (rS7 hs) ?_
  refine a_l5 rfl rfl rfl ?_
  refine a_eSN1 rfl lX5_86 mo_X11_at (sp_X11_at (kS6 hs)) rfl rfl rfl rfl ?_
  refine a_top (y := sj.1 (23 + 6 * j + 3)) ((atF_nI (show j < 12 by omega) (by decide)).trans (row 3 (by decide))) ?_
  refine a_eSN1 rfl lX5_149 mo_X11_has sp_X11_has rfl rfl rfl rfl ?_
  obtain ⟨z2, hz2⟩ : ∃ z, hasF taken (sj.1 (23 + 6 * j + 3)) = z := ⟨_, rfl⟩
  rw [hz2]
  cases z2 with
  | true =>
    refine a_if_ne rfl (fun _ => ?_) (fun c => absurd c (by decide))
    have e := skip (fun y => by rw [hz2] at y; exact absurd y.2.2.2 (by decide))
    have on := on J none (by rw [e]; exact hDJ) hf
    rw [e] at on
    exact on
  | false =>
  refine a_if_ne rfl (fun c => absurd rfl c) (fun _ => ?_)
  have ec : 0 < sj.2.1 ∧ sj.1 (23 + 6 * j + 0) = nI p ∧ readyR sj.1 j = true ∧ hasF taken (sj.1 (23 + 6 * j + 3)) = false := ⟨hpos, c3, hz, hz2⟩
  refine a_l4 rfl rfl rfl ?_
  refine a_l0 rfl rfl rfl ?_
  refine a_getq rfl gfX5_21_5 (kS0 hs) (rS5 hs) ?_
  refine a_l5 rfl rfl rfl ?_
  refine a_eSN1 rfl lX5_86 mo_X11_at (sp_X11_at (kS4 hs)) rfl rfl rfl rfl ?_
  refine a_top (y := sj.1 (23 + 6 * j + 1)) ((atF_nI (show j < 12 by omega) (by decide)).trans (row 1 (by decide))) ?_
  refine a_min rfl lX5_127 mj_min rfl rfl ?_
  refine a_top (y := mn sj.2.1 (sj.1 (23 + 6 * j + 1))) (rfl) ?_
  refine a_s6 rfl rfl rfl rfl rfl rfl ?_
  refine a_l4 rfl rfl rfl ?_
  refine a_l6 rfl rfl rfl ?_
  refine a_s rfl rfl ?_
  refine a_s4 rfl rfl rfl rfl rfl rfl ?_
  refine a_l3 rfl rfl rfl ?_
  refine a_l0 rfl rfl rfl ?_
  refine a_getq rfl gfX5_27_5 (kS0 hs) (rS7 hs) ?_
  refine a_l5 rfl rfl rfl ?_
  refine a_eSN1 rfl lX5_86 mo_X11_at (sp_X11_at (kS6 hs)) rfl rfl rfl rfl ?_
  refine a_top (y := sj.1 (23 + 6 * j + 3)) ((atF_nI (show j < 12 by omega) (by decide)).trans (row 3 (by decide))) ?_
  refine a_eSN1 rfl lX5_97 mo_X11_bit sp_X11_bit rfl rfl rfl rfl ?_
  refine a_s rfl rfl ?_
  refine a_s3 rfl rfl rfl rfl rfl rfl ?_
  refine a_l0 rfl rfl rfl ?_
  refine a_getq rfl gfX5_21_5 (kS0 hs) (rS5 hs) ?_
  refine a_l5 rfl rfl rfl ?_
  refine a_l0 rfl rfl rfl ?_
  refine a_getq rfl gfX5_21_5 (kS0 hs) (rS5 hs) ?_
  refine a_l5 rfl rfl rfl ?_
  refine a_eSN1 rfl lX5_86 mo_X11_at (sp_X11_at (kS4 hs)) rfl rfl rfl rfl ?_
  refine a_top (y := sj.1 (23 + 6 * j + 1)) ((atF_nI (show j < 12 by omega) (by decide)).trans (row 1 (by decide))) ?_
  refine a_l6 rfl rfl rfl ?_
  refine a_s rfl rfl ?_
  refine a_eSN0 rfl lX5_82 mo_X11_setAt (sp_X11_setAt (kS4 hs)) rfl rfl rfl rfl ?_
  rw [setF_nI (show j < 12 by omega) (by decide)]
  have D1 : Sd (up2 J (a + 4) j (sj.1 (23 + 6 * j + 1) - mn sj.2.1 (sj.1 (23 + 6 * j + 1)))) a (ud sj.1 (23 + 6 * j + 1) (sj.1 (23 + 6 * j + 1) - mn sj.2.1 (sj.1 (23 + 6 * j + 1)))) := Sd.ro (k := 1) hDJ (by omega) (by decide)
  refine a_l0 rfl rfl rfl ?_
  refine a_getq rfl gfX5_21_5 (kS0 hs) (rS5 hs) ?_
  refine a_l5 rfl rfl rfl ?_
  refine a_eSN1 rfl lX5_86 mo_X11_at (sp_X11_at (kS4 hs)) rfl rfl rfl rfl ?_
  refine a_top (y := sj.1 (23 + 6 * j + 1) - mn sj.2.1 (sj.1 (23 + 6 * j + 1))) ((atF_nI (show j < 12 by omega) (by decide)).trans up2_at) ?_
  by_cases c0 : sj.1 (23 + 6 * j + 1) - mn sj.2.1 (sj.1 (23 + 6 * j + 1)) = 0
  · refine a_if_ne rfl (fun c => absurd c0 c) (fun _ => ?_)
    have ew : wdF (nI p) taken s0 (j + 1) = (ud (ud (ud sj.1 (23 + 6 * j + 1) (sj.1 (23 + 6 * j + 1) - mn sj.2.1 (sj.1 (23 + 6 * j + 1)))) (23 + 6 * j + 1) 0) (23 + 6 * j + 5) 1, sj.2.1 - mn sj.2.1 (sj.1 (23 + 6 * j + 1)), sj.2.2 ||| bitF (sj.1 (23 + 6 * j + 3))) := by
      rw [es]
      unfold wdS
      rw [if_pos ec, if_pos c0]
    rw [ew] at on
    refine a_l0 rfl rfl rfl ?_
    refine a_l5 rfl rfl rfl ?_
    refine a_eV0 rfl lX5_153 mo_X5_finish (sp_X5_finish hs) rfl rfl rfl ⟨5, _, kS0 hs, rfl, rfl⟩ rfl ?_
    unfold finF
    rw [setF_nI (show j < 12 by omega) (by decide), setF_nI (show j < 12 by omega) (by decide)]
    exact on _ _ (Sd.ro (k := 5) (Sd.ro (k := 1) D1 (by omega) (by decide)) (by omega) (by decide)) (fun q h4 h8 => by rw [up2_row h8, up2_row h4, up2_row h4]; exact hf q h4 h8)
  · refine a_if_ne rfl (fun _ => ?_) (fun c => absurd c c0)
    have ew : wdF (nI p) taken s0 (j + 1) = (ud sj.1 (23 + 6 * j + 1) (sj.1 (23 + 6 * j + 1) - mn sj.2.1 (sj.1 (23 + 6 * j + 1))), sj.2.1 - mn sj.2.1 (sj.1 (23 + 6 * j + 1)), sj.2.2 ||| bitF (sj.1 (23 + 6 * j + 3))) := by
      rw [es]
      unfold wdS
      rw [if_pos ec, if_neg c0]
    rw [ew] at on
    exact on _ _ D1 (fun q h4 h8 => by rw [up2_row h4]; exact hf q h4 h8)
end T79w
end
section
/-! ===== a day's work: the reference ===== -/
section T79x
variable {S : aS} {I : Nat → Nat → Int32} {L : Nat → Nat → Int64} {w1 w2 t : Nat} {d p : Nat} {W : Nat → Int32} {taken had : Int32}
set_option maxRecDepth 100000
/-- who has which tool -/
def HHd (H : Nat → Int32) (taken had : Int32) (p : Nat) : Prop := ∀ k, k < 6 → (hasF taken (nI k) = true → ∃ q, q < p ∧ H k = nI q) ∧ (hasF taken (nI k) = false → hasF had (nI k) = true → H k = nI p) ∧ (hasF taken (nI k) = false → hasF had (nI k) = false → H k = -1)
theorem hasF_no {s : Int32} : hasF s (-1) = false := by
  unfold hasF bitF
  rw [if_pos (by decide)]
  refine decide_eq_false fun z => z (b_ext fun i hi => ?_)
  rw [b_and, b_0, Bool.and_false]
theorem bitF_no : bitF (-1) = 0 := if_pos (by decide)
theorem or_0 {s : Int32} : s ||| 0 = s := b_ext fun i hi => by rw [b_or, b_0, Bool.or_false]
theorem h_hasTool (h421 : I 421 = W) (hd : d < 12) (hH : HHd (I 429) taken had p) (ht : W (23 + 6 * d + 3) = -1 ∨ Nb (W (23 + 6 * d + 3)) 5) (h6 : p < 6) : SpE S m_X12_hasTool 14 [.ref 420, .int (nI d), .int (nI p)] (hp I L w1 w2 t) (some (.int (bI (!hasF taken (W (23 + 6 * d + 3)))))) (hp I L w1 w2 t) := by
  refine SpE_of ok_X12_hasTool rfl rfl ?_
  show AW S m_X12_hasTool 14 _ _ 0 0 0 [some (.ref 420), some (.int (nI d)), some (.int (nI p)), none] [] (hp I L w1 w2 t)
  refine a_l0 rfl rfl rfl ?_
  refine a_l1 rfl rfl rfl ?_
  refine a_s rfl rfl ?_
  refine a_eV1 rfl lX12_63 mo_X12_of (sp_X12_of (d := d) (k := 3) hd (by decide)) rfl rfl rfl ⟨12, _, rfl, rfl, rfl⟩ rfl ?_
  refine a_top (y := W (23 + 6 * d + 3)) (congrFun h421 _) ?_
  refine a_s3 rfl rfl rfl rfl rfl rfl ?_
  refine a_l3 rfl rfl rfl ?_
  refine a_s rfl rfl ?_
  refine a_ic_eq rfl (fun c => ?_) (fun c => ?_)
  · rw [c, hasF_no]
    refine a_s rfl rfl ?_
    refine a_goto rfl ?_
    exact a_zret rfl rfl rfl ⟨rfl, rfl⟩
  obtain ⟨k, hk, ek⟩ := ht.resolve_left c
  obtain ⟨g1, g2, g3⟩ := hH k (by omega)
  rw [ek]
  refine a_l0 rfl rfl rfl ?_
  refine a_getq rfl gfX12_42_12 rfl (rfl) ?_
  refine a_l3 rfl rfl rfl ?_
  refine a_ialdv (v := I 429 k) rfl (n := 6) rfl (inI_nI (by omega) (by decide)) (by rw [nI_clamp (by omega)]) ?_
  refine a_s rfl rfl ?_
  cases ht : hasF taken (nI k) with
  | true =>
    obtain ⟨q, hq, eq⟩ := g1 ht
    refine a_ic_eq rfl (fun c => ?_) (fun _ => ?_)
    · exfalso
      rw [eq] at c
      have := nI_pos (show q < 2 ^ 31 by omega)
      rw [c] at this
      exact this (by decide)
    refine a_l0 rfl rfl rfl ?_
    refine a_getq rfl gfX12_42_12 rfl (rfl) ?_
    refine a_l3 rfl rfl rfl ?_
    refine a_ialdv (v := I 429 k) rfl (n := 6) rfl (inI_nI (by omega) (by decide)) (by rw [nI_clamp (by omega)]) ?_
    refine a_l2 rfl rfl rfl ?_
    refine a_ic_ne rfl (fun _ => ?_) (fun c => ?_)
    · refine a_s rfl rfl ?_
      exact a_zret rfl rfl rfl ⟨rfl, rfl⟩
    · exfalso
      rw [eq] at c
      have := nI_inj (by omega) (by omega) c
      omega
  | false =>
    cases hh : hasF had (nI k) with
    | false =>
      refine a_ic_eq rfl (fun _ => ?_) (fun c => absurd (g3 ht hh) c)
      refine a_s rfl rfl ?_
      refine a_goto rfl ?_
      exact a_zret rfl rfl rfl ⟨rfl, rfl⟩
    | true =>
      have e := g2 ht hh
      refine a_ic_eq rfl (fun _ => ?_) (fun _ => ?_)
      · refine a_s rfl rfl ?_
        refine a_goto rfl ?_
        exact a_zret rfl rfl rfl ⟨rfl, rfl⟩
      refine a_l0 rfl rfl rfl ?_
      refine a_getq rfl gfX12_42_12 rfl (rfl) ?_
      refine a_l3 rfl rfl rfl ?_
      refine a_ialdv (v := I 429 k) rfl (n := 6) rfl (inI_nI (by omega) (by decide)) (by rw [nI_clamp (by omega)]) ?_
      refine a_l2 rfl rfl rfl ?_
      refine a_ic_ne rfl (fun c => absurd e c) (fun _ => ?_)
      refine a_s rfl rfl ?_
      refine a_goto rfl ?_
      exact a_zret rfl rfl rfl ⟨rfl, rfl⟩
theorem ud_same {k : Nat} : ud W k (W k) = W := by
  funext j
  by_cases c : j = k
  · rw [c, ud_at]
  · rw [ud_ne c]
theorem HHd.tk {H : Nat → Int32} {k : Nat} (h : HHd H taken had p) (hk : k < 6) (ht : hasF taken (nI k) = false) : HHd (fun j => if j = k then nI p else H j) taken (had ||| bitF (nI k)) p := fun j hj => by
  obtain ⟨g1, g2, g3⟩ := h j hj
  rw [hasF_or (show j < 31 by omega), hasF_bit (show k < 31 by omega) (show j < 31 by omega)]
  by_cases c : j = k
  · subst c
    refine ⟨fun z => ?_, fun _ _ => if_pos rfl, fun _ z => ?_⟩
    · rw [ht] at z
      cases z
    · rw [decide_eq_true rfl, Bool.or_true] at z
      cases z
  · rw [decide_eq_false c, Bool.or_false]
    refine ⟨fun z => ?_, fun z1 z2 => ?_, fun z1 z2 => ?_⟩
    · obtain ⟨q, q1, q2⟩ := g1 z
      exact ⟨q, q1, (if_neg c).trans q2⟩
    · exact (if_neg c).trans (g2 z1 z2)
    · exact (if_neg c).trans (g3 z1 z2)
theorem h_works (hG : Rg (I 421)) (hq : p < pn (I 421)) (hH : HHd (I 429) taken 0 p) : Sp S m_X12_works 18 0 0 [.ref 420, .int (nI p)] (hp I L w1 w2 t) (fun v h' => ∃ x, v = some (.int x) ∧ ∃ J, h' = hp J L w1 w2 t ∧ (∀ q, q ≠ 421 → q ≠ 429 → J q = I q) ∧ J 421 = (wdF (nI p) taken (I 421, I 421 (11 + 2 * p + 1), 0) (dn (I 421))).1 ∧ HHd (J 429) taken (wdF (nI p) taken (I 421, I 421 (11 + 2 * p + 1), 0) (dn (I 421))).2.2 p) nX := by
  generalize hW : I 421 = W at hG hq ⊢
  have h12 := hG.1.2.1
  have h6 := hG.1.1
  have ok0 : WdOk W (W, W (11 + 2 * p + 1), 0) := ⟨hG, rfl, rfl, (hG.2.2.1 p hq).2, fun _ _ => rfl⟩
  refine Sp_of ok_X12_works rfl rfl ?_
  show AW S m_X12_works 18 _ _ 0 0 0 [some (.ref 420), some (.int (nI p)), none, none, none, none] [] (hp I L w1 w2 t)
  refine a_l0 rfl rfl rfl ?_
  refine a_l1 rfl rfl rfl ?_
  refine a_s rfl rfl ?_
  refine a_eV1 rfl lX12_252 mo_X12_ofPerson (sp_X12_ofPerson (d := p) (k := 1) (by omega) (by decide)) rfl rfl rfl ⟨12, _, rfl, rfl, rfl⟩ rfl ?_
  refine a_top (y := W (11 + 2 * p + 1)) (congrFun hW _) ?_
  refine a_s2 rfl rfl rfl rfl rfl rfl ?_
  refine a_s rfl rfl ?_
  refine a_s3 rfl rfl rfl rfl rfl rfl ?_
  refine a_s rfl rfl ?_
  refine a_s4 rfl rfl rfl rfl rfl rfl ?_
  generalize hs0 : ((W, W (11 + 2 * p + 1), 0) : WdT) = s0 at ok0 ⊢
  refine a_inv (n := dn W) (fun m ls h => ∃ j y J, ls = [some (.ref 420), some (.int (nI p)), some (.int (wdF (nI p) taken s0 j).2.1), some (.int y), some (.int (nI j)), none] ∧ h = hp J L w1 w2 t ∧ j ≤ dn W ∧ m = dn W - j ∧ J 421 = (wdF (nI p) taken s0 j).1 ∧ HHd (J 429) taken (wdF (nI p) taken s0 j).2.2 p ∧ ∀ q, q ≠ 421 → q ≠ 429 → J q = I q) ⟨0, 0, I, by rw [← hs0]; rfl, rfl, Nat.zero_le _, rfl, by rw [← hs0]; exact hW, by rw [← hs0]; exact hH, fun _ _ _ => rfl⟩ ?_
  rintro m _ _ ⟨j, y, J, rfl, rfl, hj, hm, eJ, hHJ, hf⟩ ih
  have okj := ok0.run (p := nI p) (taken := taken) j hj
  refine a_l4 rfl rfl rfl ?_
  refine a_l0 rfl rfl rfl ?_
  refine a_eV1 rfl lX12_74 mo_X12_duties sp_X12_duties rfl rfl rfl ⟨12, _, rfl, rfl, rfl⟩ rfl ?_
  refine a_top (y := nI (dn W)) (by rw [eJ, okj.1.1.2.2.2, okj.2.2.1]) ?_
  refine a_ic_ge rfl (fun c => ?_) (fun c => ?_)
  · have hge := nI_ge_of c (by omega) (by omega)
    obtain rfl : j = dn W := by omega
    refine a_l3 rfl rfl rfl ?_
    exact a_iret rfl rfl ⟨_, rfl, J, rfl, hf, eJ, hHJ⟩
  have hjn := nI_lt_of c (by omega) (by omega)
  have es : wdF (nI p) taken s0 (j + 1) = wdS (nI p) taken (wdF (nI p) taken s0 j) j := rfl
  -- the loop goes on
  have on : ∀ (K : Nat → Nat → Int32) (v : Option Value) (y : Int32), K 421 = (wdF (nI p) taken s0 (j + 1)).1 → HHd (K 429) taken (wdF (nI p) taken s0 (j + 1)).2.2 p → (∀ q, q ≠ 421 → q ≠ 429 → K q = I q) → AW S m_X12_works 18 (fun v h' => ∃ x, v = some (.int x) ∧ ∃ J, h' = hp J L w1 w2 t ∧ (∀ q, q ≠ 421 → q ≠ 429 → J q = I q) ∧ J 421 = (wdF (nI p) taken s0 (dn W)).1 ∧ HHd (J 429) taken (wdF (nI p) taken s0 (dn W)).2.2 p) nX 0 0 139 [some (.ref 420), some (.int (nI p)), some (.int (wdF (nI p) taken s0 (j + 1)).2.1), some (.int y), some (.int (nI j)), v] [] (hp K L w1 w2 t) := by
    intro K v y hK hHK hfK
    refine a_iv4 (y := nI (j + 1)) rfl rfl rfl ((nI_succ j).symm) ?_
    refine a_goto rfl ?_
    exact a_less (ih (dn W - (j + 1)) _ _ (by omega) ⟨j + 1, y, K, rfl, rfl, by omega, rfl, hK, hHK, hfK⟩) ⟨rfl, rfl, rfl, rfl, rfl, trivial⟩
  have skip : (¬ (0 < (wdF (nI p) taken s0 j).2.1 ∧ (wdF (nI p) taken s0 j).1 (23 + 6 * j + 0) = nI p ∧ readyR (wdF (nI p) taken s0 j).1 j = true ∧ hasF taken ((wdF (nI p) taken s0 j).1 (23 + 6 * j + 3)) = false)) → wdF (nI p) taken s0 (j + 1) = wdF (nI p) taken s0 j := fun z => if_neg z
  generalize hsj : wdF (nI p) taken s0 j = sj at eJ hHJ okj es skip on ⊢
  have gj : ∀ k, J 421 k = sj.1 k := fun k => congrFun eJ k
  have nj : dn sj.1 = dn W := okj.2.2.1
  have dj := okj.1.2.2.2 j (by omega)
  have next : ∀ v, wdF (nI p) taken s0 (j + 1) = sj → AW S m_X12_works 18 (fun v h' => ∃ x, v = some (.int x) ∧ ∃ J, h' = hp J L w1 w2 t ∧ (∀ q, q ≠ 421 → q ≠ 429 → J q = I q) ∧ J 421 = (wdF (nI p) taken s0 (dn W)).1 ∧ HHd (J 429) taken (wdF (nI p) taken s0 (dn W)).2.2 p) nX 0 0 139 [some (.ref 420), some (.int (nI p)), some (.int sj.2.1), some (.int y), some (.int (nI j)), v] [] (hp J L w1 w2 t) := fun v e => by
    have on := on J v y (by rw [e]; exact eJ) (by rw [e]; exact hHJ) hf
    rw [e] at on
    exact on
  refine a_l0 rfl rfl rfl ?_
  refine a_l4 rfl rfl rfl ?_
  refine a_s rfl rfl ?_
  refine a_eV1 rfl lX12_63 mo_X12_of (sp_X12_of (d := j) (k := 0) (by omega) (by decide)) rfl rfl rfl ⟨12, _, rfl, rfl, rfl⟩ rfl ?_
  refine a_top (y := sj.1 (23 + 6 * j + 0)) (gj _) ?_
  refine a_l1 rfl rfl rfl ?_
  refine a_ic_ne rfl (fun c3 => ?_) (fun c3 => ?_)
  · exact next _ (skip fun z => c3 z.2.1)
  refine a_l0 rfl rfl rfl ?_
  refine a_l4 rfl rfl rfl ?_
  refine a_eV1 rfl lX12_273 mo_X12_isReady (sp_X12_isReady (nd := dn W) h12 hjn (by rw [eJ, ← nj]; exact okj.1.so.l)) rfl rfl rfl ⟨12, _, rfl, rfl, rfl⟩ rfl ?_
  obtain ⟨z, hz⟩ : ∃ z, readyR sj.1 j = z := ⟨_, rfl⟩
  refine a_top (y := bI z) (by rw [eJ, ← hz]; rfl) ?_
  cases z with
  | false =>
    refine a_if_eq rfl (fun _ => ?_) (fun c => absurd rfl c)
    exact next _ (skip fun y => by rw [hz] at y; exact Bool.false_ne_true y.2.2.1)
  | true =>
  refine a_if_eq rfl (fun c => absurd c (by decide)) (fun _ => ?_)
  refine a_l0 rfl rfl rfl ?_
  refine a_l4 rfl rfl rfl ?_
  refine a_l1 rfl rfl rfl ?_
  refine a_eV1 rfl lX12_367 mo_X12_hasTool (h_hasTool (W := sj.1) (had := sj.2.2) eJ (by omega) hHJ dj.2.2.2.1 (by omega)) rfl rfl rfl ⟨12, _, rfl, rfl, rfl⟩ rfl ?_
  obtain ⟨z2, hz2⟩ : ∃ z, hasF taken (sj.1 (23 + 6 * j + 3)) = z := ⟨_, rfl⟩
  rw [hz2]
  cases z2 with
  | true =>
    refine a_if_ne rfl (fun c => absurd rfl c) (fun _ => ?_)
    refine a_goto rfl ?_
    exact next _ (skip fun y => by rw [hz2] at y; exact absurd y.2.2.2 (by decide))
  | false =>
  refine a_if_ne rfl (fun _ => ?_) (fun c => absurd c (by decide))
  obtain ⟨hh, hh9, eh⟩ := okj.2.2.2.1
  obtain ⟨-, ⟨l, hl, el, e1⟩, -, htl, -⟩ := dj
  have st0 := readyR_0 hz
  have l1 : 1 ≤ l := by
    rcases l with _ | l
    · have := e1.mpr rfl
      rw [st0] at this
      exact absurd this (by decide)
    · omega
  have em : mn sj.2.1 (sj.1 (23 + 6 * j + 1)) = nI (min hh l) := by rw [eh, el, mn_nI (by omega) (by omega)]
  refine a_l2 rfl rfl rfl ?_
  refine a_l0 rfl rfl rfl ?_
  refine a_l4 rfl rfl rfl ?_
  refine a_s rfl rfl ?_
  refine a_eV1 rfl lX12_63 mo_X12_of (sp_X12_of (d := j) (k := 1) (by omega) (by decide)) rfl rfl rfl ⟨12, _, rfl, rfl, rfl⟩ rfl ?_
  refine a_top (y := sj.1 (23 + 6 * j + 1)) (gj _) ?_
  refine a_min rfl lX12_295 mj_min rfl rfl ?_
  refine a_top (y := nI (min hh l)) (em) ?_
  refine a_s5 rfl rfl rfl rfl rfl rfl ?_
  -- behind the tool: hours, left, perhaps done
  have k96 : ∀ (K : Nat → Nat → Int32), K 421 = sj.1 → (∀ q, q ≠ 421 → q ≠ 429 → K q = I q) → (hh = 0 → HHd (K 429) taken sj.2.2 p) → (¬ hh = 0 → HHd (K 429) taken (sj.2.2 ||| bitF (sj.1 (23 + 6 * j + 3))) p) → AW S m_X12_works 18 (fun v h' => ∃ x, v = some (.int x) ∧ ∃ J, h' = hp J L w1 w2 t ∧ (∀ q, q ≠ 421 → q ≠ 429 → J q = I q) ∧ J 421 = (wdF (nI p) taken s0 (dn W)).1 ∧ HHd (J 429) taken (wdF (nI p) taken s0 (dn W)).2.2 p) nX 0 0 96 [some (.ref 420), some (.int (nI p)), some (.int sj.2.1), some (.int y), some (.int (nI j)), some (.int (nI (min hh l)))] [] (hp K L w1 w2 t) := by
    intro K eK hfK hH0 hH1
    refine a_l2 rfl rfl rfl ?_
    refine a_l5 rfl rfl rfl ?_
    refine a_s rfl rfl ?_
    refine a_top (y := nI (hh - min hh l)) (by rw [eh, nI_sub (by omega)]) ?_
    refine a_s2 rfl rfl rfl rfl rfl rfl ?_
    refine a_l0 rfl rfl rfl ?_
    refine a_getq rfl gfX12_13_12 rfl (rfl) ?_
    refine a_l4 rfl rfl rfl ?_
    refine a_s rfl rfl ?_
    refine a_eS1 rfl lX12_60 mo_X12_at (sp_X12_at (d := j) (k := 1)) rfl rfl rfl rfl ?_
    refine a_s rfl rfl ?_
    refine a_ialdv (v := nI l) rfl (n := 2033) rfl (inI_nI (by omega) (by omega)) (by rw [nI_clamp (by omega), eK, el]) ?_
    refine a_l5 rfl rfl rfl ?_
    refine a_s rfl rfl ?_
    refine a_top (y := nI (l - min hh l)) (nI_sub (by omega)) ?_
    refine a_iastv (k := 23 + 6 * j + 1) rfl (n := 2033) rfl (inI_nI (by omega) (by omega)) (nI_clamp (by omega)) ?_
    have eK1 : up2 K 421 (23 + 6 * j + 1) (nI (l - min hh l)) 421 = ud sj.1 (23 + 6 * j + 1) (nI (l - min hh l)) := by rw [up2_ud, eK]
    refine a_l0 rfl rfl rfl ?_
    refine a_l4 rfl rfl rfl ?_
    refine a_s rfl rfl ?_
    refine a_eV1 rfl lX12_63 mo_X12_of (sp_X12_of (d := j) (k := 1) (by omega) (by decide)) rfl rfl rfl ⟨12, _, rfl, rfl, rfl⟩ rfl ?_
    refine a_top (y := nI (l - min hh l)) (up2_at) ?_
    by_cases h0 : hh = 0
    · -- no hours: nothing
      have ec : ¬ (0 < sj.2.1 ∧ sj.1 (23 + 6 * j + 0) = nI p ∧ readyR sj.1 j = true ∧ hasF taken (sj.1 (23 + 6 * j + 3)) = false) := fun z => by
        have := z.1
        rw [eh, h0] at this
        exact absurd this (by decide)
      have e := skip ec
      refine a_if_le rfl (fun c => ?_) (fun _ => ?_)
      · exfalso
        have := Int32.le_iff_toInt_le.mp c
        rw [nI_toInt (by omega), show (0 : Int32).toInt = 0 from rfl] at this
        omega
      have on := on (up2 K 421 (23 + 6 * j + 1) (nI (l - min hh l))) (some (.int (nI (min hh l)))) y (by rw [eK1, e, show l - min hh l = l by omega, ← el]; exact ud_same) (by rw [e, up2_row (by decide)]; exact hH0 h0) (fun q h1 h2 => by rw [up2_row h1]; exact hfK q h1 h2)
      rw [e, eh, show nI hh = nI (hh - min hh l) by rw [h0]; rfl] at on
      refine a_goto rfl ?_
      exact on
    have ec : 0 < sj.2.1 ∧ sj.1 (23 + 6 * j + 0) = nI p ∧ readyR sj.1 j = true ∧ hasF taken (sj.1 (23 + 6 * j + 3)) = false := ⟨by
      rw [eh, Int32.lt_iff_toInt_lt, nI_toInt (by omega)]
      show (0 : Int) < _
      omega, c3, hz, hz2⟩
    have ex : sj.1 (23 + 6 * j + 1) - mn sj.2.1 (sj.1 (23 + 6 * j + 1)) = nI (l - min hh l) := by rw [em, el, nI_sub (by omega)]
    have eh2 : sj.2.1 - mn sj.2.1 (sj.1 (23 + 6 * j + 1)) = nI (hh - min hh l) := by rw [em, eh, nI_sub (by omega)]
    by_cases c0 : nI (l - min hh l) = 0
    · refine a_if_le rfl (fun _ => ?_) (fun c => absurd (by rw [c0]; exact Int32.le_refl _) c)
      have ew : wdF (nI p) taken s0 (j + 1) = (ud (ud (ud sj.1 (23 + 6 * j + 1) (nI (l - min hh l))) (23 + 6 * j + 1) 0) (23 + 6 * j + 5) 1, nI (hh - min hh l), sj.2.2 ||| bitF (sj.1 (23 + 6 * j + 3))) := by
        rw [es]
        unfold wdS
        rw [if_pos ec, ex, eh2, if_pos c0]
      rw [ew] at on
      refine a_l0 rfl rfl rfl ?_
      refine a_l4 rfl rfl rfl ?_
      refine a_eV0 rfl lX12_360 mo_X12_finishes (h_finishes (i := j) (by omega)) rfl rfl rfl ⟨12, _, rfl, rfl, rfl⟩ rfl ?_
      refine a_i3 rfl rfl rfl ?_
      exact on _ _ _ (by rw [up2_ud, up2_ud, eK1]) (by rw [up2_row (by decide), up2_row (by decide), up2_row (by decide)]; exact hH1 h0) (fun q h1 h2 => by rw [up2_row h1, up2_row h1, up2_row h1]; exact hfK q h1 h2)
    · refine a_if_le rfl (fun c => ?_) (fun _ => ?_)
      · exfalso
        have := Int32.le_iff_toInt_le.mp c
        rw [nI_toInt (by omega), show (0 : Int32).toInt = 0 from rfl] at this
        exact c0 (by rw [show l - min hh l = 0 by omega]; rfl)
      have ew : wdF (nI p) taken s0 (j + 1) = (ud sj.1 (23 + 6 * j + 1) (nI (l - min hh l)), nI (hh - min hh l), sj.2.2 ||| bitF (sj.1 (23 + 6 * j + 3))) := by
        rw [es]
        unfold wdS
        rw [if_pos ec, ex, eh2, if_neg c0]
      rw [ew] at on
      refine a_goto rfl ?_
      exact on _ _ _ eK1 (by rw [up2_row (by decide)]; exact hH1 h0) (fun q h1 h2 => by rw [up2_row h1]; exact hfK q h1 h2)
  refine a_l5 rfl rfl rfl ?_
  refine a_if_le rfl (fun c4 => ?_) (fun c4 => ?_)
  · have h0 : hh = 0 := by
      have := Int32.le_iff_toInt_le.mp c4
      rw [nI_toInt (by omega), show (0 : Int32).toInt = 0 from rfl] at this
      omega
    exact k96 J eJ hf (fun _ => hHJ) (fun z => absurd h0 z)
  have h0 : ¬ hh = 0 := fun z => c4 (by rw [z, Nat.zero_min]; decide)
  refine a_l0 rfl rfl rfl ?_
  refine a_l4 rfl rfl rfl ?_
  refine a_s rfl rfl ?_
  refine a_eV1 rfl lX12_63 mo_X12_of (sp_X12_of (d := j) (k := 3) (by omega) (by decide)) rfl rfl rfl ⟨12, _, rfl, rfl, rfl⟩ rfl ?_
  refine a_top (y := sj.1 (23 + 6 * j + 3)) (gj _) ?_
  refine a_s rfl rfl ?_
  refine a_ic_eq rfl (fun c5 => ?_) (fun c5 => ?_)
  · exact k96 J eJ hf (fun z => absurd z h0) (fun _ => by rw [c5, bitF_no, or_0]; exact hHJ)
  obtain ⟨k, hk, ek⟩ := htl.resolve_left c5
  refine a_l0 rfl rfl rfl ?_
  refine a_getq rfl gfX12_42_12 rfl (rfl) ?_
  refine a_l0 rfl rfl rfl ?_
  refine a_l4 rfl rfl rfl ?_
  refine a_s rfl rfl ?_
  refine a_eV1 rfl lX12_63 mo_X12_of (sp_X12_of (d := j) (k := 3) (by omega) (by decide)) rfl rfl rfl ⟨12, _, rfl, rfl, rfl⟩ rfl ?_
  refine a_top (y := nI k) ((gj _).trans ek) ?_
  refine a_l1 rfl rfl rfl ?_
  refine a_iastv (k := k) rfl (n := 6) rfl (inI_nI (by omega) (by omega)) (nI_clamp (by omega)) ?_
  refine k96 _ ((up2_row (by decide)).trans eJ) (fun q h1 h2 => by rw [up2_row h2]; exact hf q h1 h2) (fun z => absurd z h0) (fun _ => ?_)
  rw [up2_ud, ek]
  exact HHd.tk hHJ (by omega) (by rw [← ek]; exact hz2)
end T79x
end
section
/-! ===== a month more, on the row; both sides do it so ===== -/
section T79y
variable {S : aS} {I : Nat → Nat → Int32} {L : Nat → Nat → Int64} {w1 w2 t : Nat} {a b d nl len : Nat} {cd fa fn : Nat → Nat} {W : Nat → Int32}
set_option maxRecDepth 100000
/-- a duty grows older -/
def gwS (g : (Nat → Int32) → Nat → Int32) (W : Nat → Int32) (d : Nat) : Nat → Int32 :=
  if W (23 + 6 * d + 5) = 1 then W else ud (ud W (23 + 6 * d + 2) (mn 99 (W (23 + 6 * d + 2) + 1))) (23 + 6 * d + 1) (mn 99 (W (23 + 6 * d + 1) + (if W (23 + 6 * d + 5) = 0 then g W d else 0)))
def gwF (g : (Nat → Int32) → Nat → Int32) (W : Nat → Int32) : Nat → Nat → Int32
  | 0 => W
  | n + 1 => gwS g (gwF g W n) n
def gwL (cd fa fn : Nat → Nat) (nl : Nat) (W : Nat → Int32) (d : Nat) : Int32 := sumR W cd fa fn nl d 0
def LwN (W : Nat → Int32) (nl : Nat) : Prop := nl ≤ 12 ∧ ∀ n, n < nl → Nb (nuW W n) 60
theorem sumL_nb {F ki nu : Nat → Int32} {kind : Int32} : ∀ {n : Nat}, n ≤ 12 → (∀ i, i < n → Nb (nu i) 60) → Nb (sumL F ki nu cd fa fn kind n) (60 * n) := by
  intro n
  induction n with
  | zero => exact fun _ _ => ⟨0, Nat.le_refl _, rfl⟩
  | succ n ih =>
    intro hn h
    obtain ⟨k, k1, k2⟩ := ih (by omega) fun i hi => h i (by omega)
    obtain ⟨m, m1, m2⟩ := h n (by omega)
    unfold sumL
    by_cases c : ki n = kind ∧ lineF F cd (fa n) (fn n) = true
    · rw [if_pos c, k2, m2, nI_addl]
      exact ⟨k + m, by omega, rfl⟩
    · rw [if_neg c, k2]
      exact ⟨k, by omega, rfl⟩
theorem gwL_nb (h : LwN W nl) : Nb (gwL cd fa fn nl W d) 720 := by
  obtain ⟨k, k1, k2⟩ := sumL_nb (cd := cd) (fa := fa) (fn := fn) (F := factW W d) (ki := kiW W) (nu := nuW W) (kind := 0) h.1 h.2
  exact ⟨k, by have := h.1; omega, k2⟩
theorem ud_comm {i j : Nat} {x y : Int32} (h : i ≠ j) : ud (ud W i x) j y = ud (ud W j y) i x := by
  funext k
  by_cases c1 : k = i
  · subst c1
    rw [ud_ne h, ud_at, ud_at]
  · rw [ud_ne (W := ud W j y) c1]
    by_cases c2 : k = j
    · subst c2
      rw [ud_at, ud_at]
    · rw [ud_ne c2, ud_ne c2, ud_ne c1]
/-- what holds on the way -/
def GwOk (nl : Nat) (W s : Nat → Int32) : Prop := Rg s ∧ pn s = pn W ∧ dn s = dn W ∧ LwN s nl ∧ ∀ k, (∀ d, d < 12 → k ≠ 23 + 6 * d + 1 ∧ k ≠ 23 + 6 * d + 2) → s k = W k
theorem GwOk.step {s : Nat → Int32} (h : GwOk nl W s) (hd : d < dn W) : GwOk nl W (gwS (gwL cd fa fn nl) s d) := by
  obtain ⟨hG, hp, hdn, hL, hr⟩ := h
  have h12 := hG.1.2.1
  unfold gwS
  by_cases c : s (23 + 6 * d + 5) = 1
  · rw [if_pos c]
    exact ⟨hG, hp, hdn, hL, hr⟩
  rw [if_neg c]
  obtain ⟨⟨h1, h2, h3, h4⟩, hf, hpp, hdd⟩ := id hG
  obtain ⟨b0, ⟨l, hl, el, e1⟩, ⟨ag, ha, ea⟩, b3, b4, b5⟩ := hdd d (by omega)
  have l1 : 1 ≤ l := by
    rcases l with _ | l
    · exact absurd (e1.mpr rfl) c
    · omega
  obtain ⟨g, hg, eg⟩ : ∃ g, g ≤ 720 ∧ (if s (23 + 6 * d + 5) = 0 then gwL cd fa fn nl s d else 0) = nI g := by
    by_cases c0 : s (23 + 6 * d + 5) = 0
    · rw [if_pos c0]
      exact gwL_nb hL
    · rw [if_neg c0]
      exact ⟨0, by decide, rfl⟩
  have ex : mn 99 (s (23 + 6 * d + 1) + (if s (23 + 6 * d + 5) = 0 then gwL cd fa fn nl s d else 0)) = nI (min 99 (l + g)) := by
    rw [eg, el, nI_addl, show (99 : Int32) = nI 99 from rfl, mn_nI (by decide) (by omega)]
  have ey : mn 99 (s (23 + 6 * d + 2) + 1) = nI (min 99 (ag + 1)) := by
    rw [ea, ← nI_succ, show (99 : Int32) = nI 99 from rfl, mn_nI (by decide) (by omega)]
  rw [ex, ey]
  have f : ∀ k, k ≠ 23 + 6 * d + 1 → k ≠ 23 + 6 * d + 2 → ud (ud s (23 + 6 * d + 2) (nI (min 99 (ag + 1)))) (23 + 6 * d + 1) (nI (min 99 (l + g))) k = s k := fun k k1 k2 => by rw [ud_ne k1, ud_ne k2]
  generalize hs' : ud (ud s (23 + 6 * d + 2) (nI (min 99 (ag + 1)))) (23 + 6 * d + 1) (nI (min 99 (l + g))) = s' at f
  have f1 : s' (23 + 6 * d + 1) = nI (min 99 (l + g)) := by rw [← hs', ud_at]
  have f2 : s' (23 + 6 * d + 2) = nI (min 99 (ag + 1)) := by rw [← hs', ud_ne (by omega), ud_at]
  have r : Rg s' := by
    refine Rg.of h1 h2 ((f 0 (by omega) (by omega)).trans h3) ((f 1 (by omega) (by omega)).trans h4) (hf.eq fun k z1 z2 => f k (by omega) (by omega)) (fun p z => (hpp p z).eq (f _ (by omega) (by omega)) (f _ (by omega) (by omega))) (fun e' z => ?_)
    by_cases ce : e' = d
    · subst ce
      unfold RgD
      rw [f (23 + 6 * e' + 0) (by omega) (by omega), f (23 + 6 * e' + 3) (by omega) (by omega), f (23 + 6 * e' + 4) (by omega) (by omega), f (23 + 6 * e' + 5) (by omega) (by omega), f1, f2]
      exact ⟨b0, ⟨min 99 (l + g), by omega, rfl, ⟨fun z => absurd z c, fun z => by omega⟩⟩, ⟨min 99 (ag + 1), by omega, rfl⟩, b3, b4, b5⟩
    · exact (hdd e' z).eq fun k hk => f _ (by omega) (by omega)
  refine ⟨r, ?_, ?_, ⟨hL.1, fun n hn => ?_⟩, fun k hk => (f k (hk d (by omega)).1 (hk d (by omega)).2).trans (hr k hk)⟩
  · rw [← hp]
    unfold pn
    rw [f 0 (by omega) (by omega)]
  · rw [← hdn]
    unfold dn
    rw [f 1 (by omega) (by omega)]
  · rw [show nuW s' n = nuW s n from f _ (by omega) (by omega)]
    exact hL.2 n hn
theorem GwOk.run {s : Nat → Int32} (h : GwOk nl W s) : ∀ n, n ≤ dn W → GwOk nl W (gwF (gwL cd fa fn nl) s n) := by
  intro n
  induction n with
  | zero => exact fun _ => h
  | succ n ih => exact fun hn => (ih (by omega)).step (by omega)
theorem LawR.eq {W' : Nat → Int32} (h : LawR W nl len cd fa fn) (e3 : W' 3 = W 3) (e : ∀ k, 335 ≤ k → W' k = W k) : LawR W' nl len cd fa fn := by
  obtain ⟨h1, h2, h3, h4, h5⟩ := h
  refine ⟨?_, h2, h3, fun i hi => ?_, fun n hn => ?_⟩
  · rw [e3, e 335 (Nat.le_refl _)]
    exact h1
  · rw [e _ (by omega), e _ (by omega)]
    exact h4 i hi
  · rw [e _ (by omega), e _ (by omega)]
    exact h5 n hn
theorem LawC.eq {J : Nat → Nat → Int32} (h : LawC I b nl len cd fa fn) (f : ∀ q, b ≤ q → q ≤ b + 5 → J q = I q) : LawC J b nl len cd fa fn := by
  unfold LawC
  rw [f b (by omega) (by omega), f (b + 3) (by omega) (by omega), f (b + 4) (by omega) (by omega), f (b + 5) (by omega) (by omega)]
  exact h
theorem LwS.eq {J : Nat → Nat → Int32} {W' : Nat → Int32} (h : LwS I b W nl len cd fa fn) (f : ∀ q, b ≤ q → q ≤ b + 5 → J q = I q) (e3 : W' 3 = W 3) (e : ∀ k, 335 ≤ k → W' k = W k) : LwS J b W' nl len cd fa fn := by
  obtain ⟨h1, h2, h3, h4⟩ := h
  refine ⟨LawC.eq h1 f, LawR.eq h2 e3 e, fun n hn => ?_, ?_⟩
  · rw [f (b + 1) (by omega) (by omega), f (b + 2) (by omega) (by omega), show kiW W' n = kiW W n from e _ (by omega), show nuW W' n = nuW W n from e _ (by omega)]
    exact h3 n hn
  · rw [f b (by omega) (by omega), e3]
    exact h4
theorem h_growsOlder (hG : Rg (I 421)) (hd : d < dn (I 421)) (hL : LawR (I 421) nl len cd fa fn) : Sp S m_X12_growsOlder 20 0 0 [.ref 420, .int (nI d)] (hp I L w1 w2 t) (fun v h' => v = none ∧ ∃ J, h' = hp J L w1 w2 t ∧ (∀ q, q ≠ 421 → q ≠ 428 → J q = I q) ∧ J 421 = gwS (gwL cd fa fn nl) (I 421) d) nX := by
  generalize hW : I 421 = W at hG hd hL ⊢
  have h12 := hG.1.2.1
  have h6 := hG.1.1
  refine Sp_of ok_X12_growsOlder rfl rfl ?_
  show AW S m_X12_growsOlder 20 _ _ 0 0 0 [some (.ref 420), some (.int (nI d)), none] [] (hp I L w1 w2 t)
  refine a_l0 rfl rfl rfl ?_
  refine a_l1 rfl rfl rfl ?_
  refine a_eV1 rfl lX12_246 mo_X12_isDone (sp_X12_isDone (d := d) (by omega)) rfl rfl rfl ⟨12, _, rfl, rfl, rfl⟩ rfl ?_
  rw [show vd (I 421) 5 d = W (23 + 6 * d + 5) from congrFun hW _]
  by_cases c : W (23 + 6 * d + 5) = 1
  · rw [decide_eq_true c]
    refine a_if_eq rfl (fun z => absurd z (by decide)) (fun _ => ?_)
    exact a_vret rfl rfl ⟨rfl, I, rfl, fun _ _ _ => rfl, by unfold gwS; rw [if_pos c]; exact hW⟩
  rw [decide_eq_false c]
  refine a_if_eq rfl (fun _ => ?_) (fun z => absurd rfl z)
  have fin : ∀ (K : Nat → Nat → Int32) (g : Int32), K 421 = W → (∀ q, q ≠ 421 → q ≠ 428 → K q = I q) → g = (if W (23 + 6 * d + 5) = 0 then gwL cd fa fn nl W d else 0) → AW S m_X12_growsOlder 20 (fun v h' => v = none ∧ ∃ J, h' = hp J L w1 w2 t ∧ (∀ q, q ≠ 421 → q ≠ 428 → J q = I q) ∧ J 421 = gwS (gwL cd fa fn nl) W d) nX 0 0 26 [some (.ref 420), some (.int (nI d)), none] [.int g] (hp K L w1 w2 t) := by
    intro K g eK hf hg
    refine a_s2 rfl rfl rfl rfl rfl rfl ?_
    refine a_l0 rfl rfl rfl ?_
    refine a_getq rfl gfX12_13_12 rfl (rfl) ?_
    refine a_l1 rfl rfl rfl ?_
    refine a_s rfl rfl ?_
    refine a_eS1 rfl lX12_60 mo_X12_at (sp_X12_at (d := d) (k := 2)) rfl rfl rfl rfl ?_
    refine a_s rfl rfl ?_
    refine a_l0 rfl rfl rfl ?_
    refine a_l1 rfl rfl rfl ?_
    refine a_s rfl rfl ?_
    refine a_eV1 rfl lX12_63 mo_X12_of (sp_X12_of (d := d) (k := 2) (by omega) (by decide)) rfl rfl rfl ⟨12, _, rfl, rfl, rfl⟩ rfl ?_
    refine a_top (y := W (23 + 6 * d + 2)) (congrFun eK _) ?_
    refine a_s rfl rfl ?_
    refine a_s rfl rfl ?_
    refine a_min rfl lX12_295 mj_min rfl rfl ?_
    refine a_top (y := mn 99 (W (23 + 6 * d + 2) + 1)) (rfl) ?_
    refine a_iastv (k := 23 + 6 * d + 2) rfl (n := 2033) rfl (inI_nI (by omega) (by omega)) (nI_clamp (by omega)) ?_
    refine a_l0 rfl rfl rfl ?_
    refine a_getq rfl gfX12_13_12 rfl (rfl) ?_
    refine a_l1 rfl rfl rfl ?_
    refine a_s rfl rfl ?_
    refine a_eS1 rfl lX12_60 mo_X12_at (sp_X12_at (d := d) (k := 1)) rfl rfl rfl rfl ?_
    refine a_s rfl rfl ?_
    refine a_l0 rfl rfl rfl ?_
    refine a_l1 rfl rfl rfl ?_
    refine a_s rfl rfl ?_
    refine a_eV1 rfl lX12_63 mo_X12_of (sp_X12_of (d := d) (k := 1) (by omega) (by decide)) rfl rfl rfl ⟨12, _, rfl, rfl, rfl⟩ rfl ?_
    refine a_top (y := W (23 + 6 * d + 1)) ((up2_ne (Or.inr (by omega))).trans (congrFun eK _)) ?_
    refine a_l2 rfl rfl rfl ?_
    refine a_s rfl rfl ?_
    refine a_min rfl lX12_295 mj_min rfl rfl ?_
    refine a_top (y := mn 99 (W (23 + 6 * d + 1) + g)) (rfl) ?_
    refine a_iastv (k := 23 + 6 * d + 1) rfl (n := 2033) rfl (inI_nI (by omega) (by omega)) (nI_clamp (by omega)) ?_
    exact a_vret rfl rfl ⟨rfl, _, rfl, fun q h1 h2 => by rw [up2_row h1, up2_row h1]; exact hf q h1 h2, by unfold gwS; rw [if_neg c, up2_ud, up2_ud, eK, hg]⟩
  refine a_l0 rfl rfl rfl ?_
  refine a_l1 rfl rfl rfl ?_
  refine a_eV1 rfl lX12_135 mo_X12_isWaiting (sp_X12_isWaiting (d := d) (by omega)) rfl rfl rfl ⟨12, _, rfl, rfl, rfl⟩ rfl ?_
  rw [show vd (I 421) 5 d = W (23 + 6 * d + 5) from congrFun hW _]
  by_cases c0 : W (23 + 6 * d + 5) = 0
  · rw [decide_eq_true c0]
    refine a_if_eq rfl (fun z => absurd z (by decide)) (fun _ => ?_)
    refine a_l0 rfl rfl rfl ?_
    refine a_l1 rfl rfl rfl ?_
    refine a_gV rfl lX12_351 mo_X12_growsBy (sp_X12_growsBy (nd := dn W) (np := pn W) h12 h6 hd (by rw [hW]; exact hG.so.l) (by rw [hW]; exact hG.so.o) (by rw [hW]; exact hL)) rfl rfl rfl ⟨12, _, rfl, rfl, rfl⟩ rfl (fun v' h' hv => ?_)
    obtain ⟨rfl, f, rfl⟩ := hv
    refine a_goto rfl ?_
    exact fin _ _ ((upr_row (by decide)).trans hW) (fun q h1 h2 => upr_row h2) (by rw [if_pos c0, hW]; rfl)
  · rw [decide_eq_false c0]
    refine a_if_eq rfl (fun _ => ?_) (fun z => absurd rfl z)
    refine a_s rfl rfl ?_
    exact fin I 0 hW (fun _ _ _ => rfl) (by rw [if_neg c0])
end T79y
end
section
/-! ===== a month more: the class ===== -/
section T79y2
variable {S : aS} {I : Nat → Nat → Int32} {L : Nat → Nat → Int64} {w1 w2 t : Nat} {a b d nl len : Nat} {cd fa fn : Nat → Nat} {W : Nat → Int32}
set_option maxRecDepth 100000
theorem f_passMonth (ha : stp a) (hb : lwp b) (hD : Sd I a W) (hG : Rg W) (hL : LwS I b W nl len cd fa fn) (hN : LwN W nl) : Sp S m_X5_passMonth 18 0 0 [.ref a, .ref b] (hp I L w1 w2 t) (fun v h' => v = none ∧ ∃ J, h' = hp J L w1 w2 t ∧ (∀ q, q ≠ a + 4 → q ≠ a + 5 → q ≠ b + 6 → q ≠ b + 7 → J q = I q) ∧ Sd J a (gwF (gwL cd fa fn nl) W (dn W))) nX := by
  have h12 := hG.1.2.1
  have h6 := hG.1.1
  have hab := stp_lwp a ha b hb
  have ok0 : GwOk nl W W := ⟨hG, rfl, rfl, hN, fun _ _ => rfl⟩
  refine Sp_of ok_X5_passMonth rfl rfl ?_
  show AW S m_X5_passMonth 18 _ _ 0 0 0 [some (.ref a), some (.ref b), none, none] [] (hp I L w1 w2 t)
  refine a_s rfl rfl ?_
  refine a_s2 rfl rfl rfl rfl rfl rfl ?_
  refine a_inv (n := dn W) (fun m ls h => ∃ j J, ls = [some (.ref a), some (.ref b), some (.int (nI j)), none] ∧ h = hp J L w1 w2 t ∧ j ≤ dn W ∧ m = dn W - j ∧ Sd J a (gwF (gwL cd fa fn nl) W j) ∧ ∀ q, q ≠ a + 4 → q ≠ a + 5 → q ≠ b + 6 → q ≠ b + 7 → J q = I q) ⟨0, I, rfl, rfl, Nat.zero_le _, rfl, hD, fun _ _ _ _ _ => rfl⟩ ?_
  rintro m _ _ ⟨j, J, rfl, rfl, hj, hm, hDJ, hf⟩ ih
  have okj := ok0.run (cd := cd) (fa := fa) (fn := fn) j hj
  have hdj : J a 3 = nI (dn W) := ((Sd.fd hDJ (f := 3) (g := 1) (by decide)).trans okj.1.1.2.2.2).trans (by rw [okj.2.2.1])
  refine a_l2 rfl rfl rfl ?_
  refine a_l0 rfl rfl rfl ?_
  refine a_getiv (v := nI (dn W)) rfl gfX5_63_5 (kS0 ha) hdj ?_
  refine a_ic_ge rfl (fun c => ?_) (fun c => ?_)
  · have hge := nI_ge_of c (by omega) (by omega)
    obtain rfl : j = dn W := by omega
    exact a_vret rfl rfl ⟨rfl, J, rfl, hf, hDJ⟩
  have hjn := nI_lt_of c (by omega) (by omega)
  have es : gwF (gwL cd fa fn nl) W (j + 1) = gwS (gwL cd fa fn nl) (gwF (gwL cd fa fn nl) W j) j := rfl
  have hLj : LwS J b (gwF (gwL cd fa fn nl) W j) nl len cd fa fn := LwS.eq hL (fun q g1 g2 => hf q (by omega) (by omega) (by omega) (by omega)) (okj.2.2.2.2 3 (fun d hd => by omega)) (fun k hk => okj.2.2.2.2 k (fun d hd => by omega))
  -- the loop goes on
  have on : ∀ (K : Nat → Nat → Int32) (v : Option Value), Sd K a (gwF (gwL cd fa fn nl) W (j + 1)) → (∀ q, q ≠ a + 4 → q ≠ a + 5 → q ≠ b + 6 → q ≠ b + 7 → K q = I q) → AW S m_X5_passMonth 18 (fun v h' => v = none ∧ ∃ J, h' = hp J L w1 w2 t ∧ (∀ q, q ≠ a + 4 → q ≠ a + 5 → q ≠ b + 6 → q ≠ b + 7 → J q = I q) ∧ Sd J a (gwF (gwL cd fa fn nl) W (dn W))) nX 0 0 65 [some (.ref a), some (.ref b), some (.int (nI j)), v] [] (hp K L w1 w2 t) := by
    intro K v hK hfK
    refine a_iv2 (y := nI (j + 1)) rfl rfl rfl ((nI_succ j).symm) ?_
    refine a_goto rfl ?_
    exact a_less (ih (dn W - (j + 1)) _ _ (by omega) ⟨j + 1, K, rfl, rfl, by omega, rfl, hK, hfK⟩) ⟨rfl, rfl, rfl, trivial⟩
  generalize hsj : gwF (gwL cd fa fn nl) W j = sj at hDJ okj es hLj on ⊢
  have nj : dn sj = dn W := okj.2.2.1
  have row : ∀ k, k < 6 → J (a + 3 + k) j = sj (23 + 6 * j + k) := fun k hk => hDJ.2.2 j (by omega) k hk
  obtain ⟨-, ⟨l, hl, el, e1⟩, -⟩ := okj.1.2.2.2 j (by omega)
  -- behind the hours: perhaps older
  have k48 : ∀ (K : Nat → Nat → Int32) (x : Int32) (v : Option Value), Sd K a (ud sj (23 + 6 * j + 1) x) → (∀ q, q ≠ a + 4 → q ≠ a + 5 → q ≠ b + 6 → q ≠ b + 7 → K q = I q) → (¬ sj (23 + 6 * j + 5) = 1 → x = mn 99 (sj (23 + 6 * j + 1) + (if sj (23 + 6 * j + 5) = 0 then gwL cd fa fn nl sj j else 0))) → (sj (23 + 6 * j + 5) = 1 → x = sj (23 + 6 * j + 1)) → AW S m_X5_passMonth 18 (fun v h' => v = none ∧ ∃ J, h' = hp J L w1 w2 t ∧ (∀ q, q ≠ a + 4 → q ≠ a + 5 → q ≠ b + 6 → q ≠ b + 7 → J q = I q) ∧ Sd J a (gwF (gwL cd fa fn nl) W (dn W))) nX 0 0 48 [some (.ref a), some (.ref b), some (.int (nI j)), v] [] (hp K L w1 w2 t) := by
    intro K x v hK hfK hx hx1
    refine a_l0 rfl rfl rfl ?_
    refine a_getq rfl gfX5_33_5 (kS0 ha) (rS9 ha) ?_
    refine a_l2 rfl rfl rfl ?_
    refine a_eSN1 rfl lX5_86 mo_X11_at (sp_X11_at (kS8 ha)) rfl rfl rfl rfl ?_
    refine a_top (y := sj (23 + 6 * j + 5)) ((atF_nI (show j < 12 by omega) (by decide)).trans ((hK.2.2 j (by omega) 5 (by decide)).trans (ud_ne (by omega)))) ?_
    refine a_s rfl rfl ?_
    refine a_ic_eq rfl (fun c1 => ?_) (fun c1 => ?_)
    · refine on K v ?_ hfK
      rw [es]
      unfold gwS
      rw [if_pos c1]
      rw [hx1 c1, ud_same] at hK
      exact hK
    refine a_l0 rfl rfl rfl ?_
    refine a_l2 rfl rfl rfl ?_
    refine a_eV0 rfl lX5_163 mo_X5_growOlder (sp_X5_growOlder ha) rfl rfl rfl ⟨5, _, kS0 ha, rfl, rfl⟩ rfl ?_
    have e2 : K (a + 5) j = sj (23 + 6 * j + 2) := (hK.2.2 j (by omega) 2 (by decide)).trans (ud_ne (by omega))
    have eg : growF K a (nI j) = up2 K (a + 5) j (mn 99 (sj (23 + 6 * j + 2) + 1)) := by
      unfold growF
      rw [setF_nI (show j < 12 by omega) (by decide), atF_nI (show j < 12 by omega) (by decide), e2]
      rfl
    rw [eg]
    refine on _ v ?_ (fun q h4 h5 h6 h7 => by rw [up2_row h5]; exact hfK q h4 h5 h6 h7)
    rw [es]
    unfold gwS
    rw [if_neg c1, ud_comm (show 23 + 6 * j + 2 ≠ 23 + 6 * j + 1 by omega), ← hx c1]
    exact Sd.ro (k := 2) hK (by omega) (by decide)
  refine a_l0 rfl rfl rfl ?_
  refine a_l2 rfl rfl rfl ?_
  refine a_eV1 rfl lX5_90 mo_X5_isWaiting (sp_X5_isWaiting (nd := dn W) ha hdj h12) rfl rfl rfl ⟨5, _, kS0 ha, rfl, rfl⟩ rfl ?_
  rw [show waitF (dn W) (J (a + 8)) (nI j) = decide (sj (23 + 6 * j + 5) = 0) by rw [waitF_nI hjn h12]; congr 1; rw [show J (a + 8) j = sj (23 + 6 * j + 5) from row 5 (by decide)]]
  by_cases c0 : sj (23 + 6 * j + 5) = 0
  rotate_left
  · rw [decide_eq_false c0]
    refine a_if_eq rfl (fun _ => ?_) (fun z => absurd rfl z)
    refine k48 J (sj (23 + 6 * j + 1)) none (by rw [ud_same]; exact hDJ) hf (fun _ => ?_) (fun _ => rfl)
    rw [if_neg c0, el, show nI l + 0 = nI (l + 0) from nI_addl l 0, show (99 : Int32) = nI 99 from rfl, mn_nI (by decide) (by omega)]
    congr 1
    omega
  rw [decide_eq_true c0]
  refine a_if_eq rfl (fun z => absurd z (by decide)) (fun _ => ?_)
  refine a_l0 rfl rfl rfl ?_
  refine a_getq rfl gfX5_21_5 (kS0 ha) (rS5 ha) ?_
  refine a_l2 rfl rfl rfl ?_
  refine a_eSN1 rfl lX5_86 mo_X11_at (sp_X11_at (kS4 ha)) rfl rfl rfl rfl ?_
  refine a_top (y := sj (23 + 6 * j + 1)) ((atF_nI (show j < 12 by omega) (by decide)).trans (row 1 (by decide))) ?_
  refine a_l1 rfl rfl rfl ?_
  refine a_l0 rfl rfl rfl ?_
  refine a_l2 rfl rfl rfl ?_
  refine a_gV rfl lX5_157 mo_X2_growthOf (sp_X2_growthOf (d := j) ha hb (by omega) hLj.1) rfl rfl rfl ⟨2, _, kW0 hb, rfl, rfl⟩ rfl (fun v' h' hv => ?_)
  obtain ⟨rfl, K, rfl, hfK⟩ := hv
  refine a_top (y := gwL cd fa fn nl sj j) (grow_same hDJ okj.1 hLj (by rw [nj]; exact hjn)) ?_
  refine a_s rfl rfl ?_
  refine a_s3 rfl rfl rfl rfl rfl rfl ?_
  refine a_l0 rfl rfl rfl ?_
  refine a_getq rfl gfX5_21_5 (kS0 ha) (rS5 ha) ?_
  refine a_l2 rfl rfl rfl ?_
  refine a_s rfl rfl ?_
  refine a_l3 rfl rfl rfl ?_
  refine a_min rfl lX5_127 mj_min rfl rfl ?_
  refine a_top (y := mn 99 (sj (23 + 6 * j + 1) + gwL cd fa fn nl sj j)) (rfl) ?_
  refine a_eSN0 rfl lX5_82 mo_X11_setAt (sp_X11_setAt (kS4 ha)) rfl rfl rfl rfl ?_
  rw [setF_nI (show j < 12 by omega) (by decide)]
  have DK : Sd K a sj := Sd.eq hDJ fun q g1 g2 => hfK q (by omega) (by omega)
  exact k48 _ _ _ (Sd.ro (k := 1) DK (by omega) (by decide)) (fun q h4 h5 h6 h7 => by rw [up2_row h4, hfK q h6 h7]; exact hf q h4 h5 h6 h7) (fun _ => by rw [if_pos c0]) (fun z => by rw [c0] at z; exact absurd z (by decide))
end T79y2
end
section
/-! ===== a day more, on the row; the class does it so ===== -/
section T79z
variable {S : aS} {I : Nat → Nat → Int32} {L : Nat → Nat → Int64} {w1 w2 t : Nat} {a b d nl len : Nat} {cd fa fn : Nat → Nat} {W : Nat → Int32} {taken had : Int32}
set_option maxRecDepth 100000
def rm100 (x : Int32) : Int32 := x - x / 100 * 100
abbrev PsT : Type := (Nat → Int32) × Int32
/-- a person's turn; calm: without draws -/
def psW (calm : Bool) (W : Nat → Int32) : Nat → Int32 := if calm = true then W else ud W 10 (seedF (W 10))
def psS (calm : Bool) (s : PsT) (p : Nat) : PsT :=
  if calm = false ∧ rm100 (drawV (seedF (s.1 10))) < s.1 6 then (psW calm s.1, s.2)
  else ((wdF (nI p) s.2 (psW calm s.1, psW calm s.1 (11 + 2 * p + 1), 0) (dn (psW calm s.1))).1, s.2 ||| (wdF (nI p) s.2 (psW calm s.1, psW calm s.1 (11 + 2 * p + 1), 0) (dn (psW calm s.1))).2.2)
def psF (calm : Bool) (W : Nat → Int32) : Nat → PsT
  | 0 => (W, 0)
  | n + 1 => psS calm (psF calm W n) n
def nwD (g : (Nat → Int32) → Nat → Int32) (W : Nat → Int32) : Nat → Int32 := if 30 < W 4 + 1 then gwF g (ud (ud (ud W 4 (W 4 + 1)) 4 1) 5 (mn 9999 (W 5 + 1))) (dn W) else ud W 4 (W 4 + 1)
def dayW (calm : Bool) (g : (Nat → Int32) → Nat → Int32) (W : Nat → Int32) : Nat → Int32 := nwD g (psF calm W (pn W)).1
/-- ranges, and what a day never changes -/
def DyOk (nl : Nat) (W s : Nat → Int32) : Prop := Rg s ∧ pn s = pn W ∧ dn s = dn W ∧ LwN s nl ∧ s 3 = W 3 ∧ ∀ k, 335 ≤ k → s k = W k
theorem LwN.eq {s : Nat → Int32} (h : LwN W nl) (e : ∀ k, 335 ≤ k → s k = W k) : LwN s nl := ⟨h.1, fun n hn => by
  rw [show nuW s n = nuW W n from e _ (by omega)]
  exact h.2 n hn⟩
theorem Rg.hi (h : Rg W) {k : Nat} {v : Int32} (hk : k = 10) : Rg (ud W k v) ∧ pn (ud W k v) = pn W ∧ dn (ud W k v) = dn W := by
  subst hk
  obtain ⟨⟨h1, h2, h3, h4⟩, hf, hp, hdd⟩ := h
  have f : ∀ j, j ≠ 10 → ud W 10 v j = W j := fun j hj => ud_ne hj
  exact ⟨Rg.of h1 h2 ((f 0 (by omega)).trans h3) ((f 1 (by omega)).trans h4) (hf.eq fun k z1 z2 => f k (by omega)) (fun p z => (hp p z).eq (f _ (by omega)) (f _ (by omega))) (fun e' z => (hdd e' z).eq fun k hk => f _ (by omega)), by unfold pn; rw [f 0 (by omega)], by unfold dn; rw [f 1 (by omega)]⟩
theorem psW_ok {calm : Bool} {s : Nat → Int32} (h : DyOk nl W s) : DyOk nl W (psW calm s) := by
  unfold psW
  by_cases c : calm = true
  · rw [if_pos c]
    exact h
  rw [if_neg c]
  obtain ⟨hG, hp, hd, hL, h3, hk⟩ := h
  obtain ⟨g1, g2, g3⟩ := Rg.hi (v := seedF (s 10)) hG rfl
  exact ⟨g1, g2.trans hp, g3.trans hd, LwN.eq hL fun k hk => ud_ne (by omega), (ud_ne (by omega)).trans h3, fun k z => (ud_ne (by omega)).trans (hk k z)⟩
theorem wd_ok {s : Nat → Int32} {p : Nat} (h : DyOk nl W s) (hp : p < pn W) : DyOk nl W (wdF (nI p) taken (s, s (11 + 2 * p + 1), 0) (dn s)).1 := by
  obtain ⟨hG, hpn, hd, hL, h3, hk⟩ := h
  obtain ⟨g1, g2, g3, -, g5⟩ := WdOk.run (p := nI p) (taken := taken) (W := s) (s := (s, s (11 + 2 * p + 1), 0)) ⟨hG, rfl, rfl, (hG.2.2.1 p (by omega)).2, fun _ _ => rfl⟩ (dn s) (Nat.le_refl _)
  exact ⟨g1, g2.trans hpn, g3.trans hd, LwN.eq hL fun k hk => g5 k (fun d hd => by omega), (g5 3 (fun d hd => by omega)).trans h3, fun k z => (g5 k (fun d hd => by omega)).trans (hk k z)⟩
theorem psF_ok {calm : Bool} (h : DyOk nl W W) : ∀ n, n ≤ pn W → DyOk nl W (psF calm W n).1 := by
  intro n
  induction n with
  | zero => exact fun _ => h
  | succ n ih =>
    intro hn
    have ih := ih (by omega)
    show DyOk nl W (psS calm (psF calm W n) n).1
    unfold psS
    by_cases c : calm = false ∧ rm100 (drawV (seedF ((psF calm W n).1 10))) < (psF calm W n).1 6
    · rw [if_pos c]
      exact psW_ok ih
    · rw [if_neg c]
      exact wd_ok (psW_ok ih) (by omega)
theorem Rg.day (h : Rg W) {x y : Nat} (hx1 : 1 ≤ x) (hx : x ≤ 30) (hy : y ≤ 9999) {W' : Nat → Int32} (e4 : W' 4 = nI x) (e5 : W' 5 = nI y) (f : ∀ k, k ≠ 4 → k ≠ 5 → W' k = W k) : Rg W' ∧ pn W' = pn W ∧ dn W' = dn W := by
  obtain ⟨⟨h1, h2, h3, h4⟩, ⟨f2, f4, f5, f6, f7, f8⟩, hp, hdd⟩ := h
  refine ⟨Rg.of h1 h2 ((f 0 (by omega) (by omega)).trans h3) ((f 1 (by omega) (by omega)).trans h4) ?_ (fun p z => (hp p z).eq (f _ (by omega) (by omega)) (f _ (by omega) (by omega))) (fun e' z => (hdd e' z).eq fun k hk => f _ (by omega) (by omega)), by unfold pn; rw [f 0 (by omega) (by omega)], by unfold dn; rw [f 1 (by omega) (by omega)]⟩
  unfold RgF
  rw [f 2 (by decide) (by decide), e4, e5, f 6 (by decide) (by decide), f 7 (by decide) (by decide), f 8 (by decide) (by decide)]
  exact ⟨f2, ⟨x, hx1, hx, rfl⟩, ⟨y, hy, rfl⟩, f6, f7, f8⟩
theorem mth_ok {s : Nat → Int32} (h : DyOk nl W s) : DyOk nl W (ud (ud (ud s 4 (s 4 + 1)) 4 1) 5 (mn 9999 (s 5 + 1))) := by
  obtain ⟨hG, hp, hd, hL, h3, hk⟩ := h
  obtain ⟨m, m1, m2⟩ := hG.2.1.2.2.1
  have f : ∀ k, k ≠ 4 → k ≠ 5 → ud (ud (ud s 4 (s 4 + 1)) 4 1) 5 (mn 9999 (s 5 + 1)) k = s k := fun k k4 k5 => by rw [ud_ne k5, ud_ne k4, ud_ne k4]
  obtain ⟨g1, g2, g3⟩ := Rg.day (x := 1) (y := min 9999 (m + 1)) hG (by decide) (by decide) (by omega) (by rw [ud_ne (by decide), ud_at]; rfl) (by rw [ud_at, m2, ← nI_succ, show (9999 : Int32) = nI 9999 from rfl, mn_nI (by decide) (by omega)]) f
  exact ⟨g1, g2.trans hp, g3.trans hd, LwN.eq hL fun k hk => f k (by omega) (by omega), (f 3 (by decide) (by decide)).trans h3, fun k z => (f k (by omega) (by omega)).trans (hk k z)⟩
theorem nwD_ok {s : Nat → Int32} (h : DyOk nl W s) : DyOk nl W (nwD (gwL cd fa fn nl) s) := by
  unfold nwD
  by_cases c : 30 < s 4 + 1
  · rw [if_pos c]
    obtain ⟨hG, hp, hd, hL, h3, hk⟩ := mth_ok h
    obtain ⟨g1, g2, g3, g4, g5⟩ := GwOk.run (cd := cd) (fa := fa) (fn := fn) (nl := nl) ⟨hG, rfl, rfl, hL, fun _ _ => rfl⟩ (dn s) (by rw [hd, h.2.2.1]; exact Nat.le_refl _)
    exact ⟨g1, g2.trans hp, g3.trans hd, g4, (g5 3 (fun d hd => by omega)).trans h3, fun k z => (g5 k (fun d hd => by omega)).trans (hk k z)⟩
  · rw [if_neg c]
    obtain ⟨hG, hp, hd, hL, h3, hk⟩ := h
    obtain ⟨x, x1, x2, x3⟩ := hG.2.1.2.1
    obtain ⟨m, m1, m2⟩ := hG.2.1.2.2.1
    have f : ∀ k, k ≠ 4 → k ≠ 5 → ud s 4 (s 4 + 1) k = s k := fun k k4 k5 => ud_ne k4
    have x30 : x + 1 ≤ 30 := by
      have c := Int32.not_lt.mp c
      rw [x3, ← nI_succ, Int32.le_iff_toInt_le, nI_toInt (by omega)] at c
      have c : ((x + 1 : Nat) : Int) ≤ 30 := c
      omega
    obtain ⟨g1, g2, g3⟩ := Rg.day (x := x + 1) (y := m) hG (by omega) x30 m1 (by rw [ud_at, x3, ← nI_succ]) (by rw [ud_ne (by decide)]; exact m2) f
    exact ⟨g1, g2.trans hp, g3.trans hd, LwN.eq hL fun k hk => f k (by omega) (by omega), (f 3 (by decide) (by decide)).trans h3, fun k z => (f k (by omega) (by omega)).trans (hk k z)⟩
theorem dayW_ok {calm : Bool} (h : DyOk nl W W) : DyOk nl W (dayW calm (gwL cd fa fn nl) W) := nwD_ok (psF_ok h _ (Nat.le_refl _))
theorem f_passDay (ha : stp a) (hb : lwp b) (hD : Sd I a W) (hG : Rg W) (hL : LwS I b W nl len cd fa fn) (hN : LwN W nl) {dr : Bool} : Sp S m_X5_passDay 19 0 0 [.ref a, .ref b, .int (bI dr)] (hp I L w1 w2 t) (fun v h' => v = none ∧ ∃ J, h' = hp J L w1 w2 t ∧ (∀ q, (q < a ∨ a + 8 < q) → q ≠ b + 6 → q ≠ b + 7 → J q = I q) ∧ Sd J a (dayW (!dr) (gwL cd fa fn nl) W)) nX := by
  have h12 := hG.1.2.1
  have h6 := hG.1.1
  have hab := stp_lwp a ha b hb
  have ok0 : DyOk nl W W := ⟨hG, rfl, rfl, hN, rfl, fun _ _ => rfl⟩
  refine Sp_of ok_X5_passDay rfl rfl ?_
  show AW S m_X5_passDay 19 _ _ 0 0 0 [some (.ref a), some (.ref b), some (.int (bI dr)), none, none, none] [] (hp I L w1 w2 t)
  refine a_s rfl rfl ?_
  refine a_s3 rfl rfl rfl rfl rfl rfl ?_
  refine a_s rfl rfl ?_
  refine a_s4 rfl rfl rfl rfl rfl rfl ?_
  refine a_inv (n := pn W) (fun m ls h => ∃ j J, ls = [some (.ref a), some (.ref b), some (.int (bI dr)), some (.int (psF (!dr) W j).2), some (.int (nI j)), none] ∧ h = hp J L w1 w2 t ∧ j ≤ pn W ∧ m = pn W - j ∧ Sd J a (psF (!dr) W j).1 ∧ ∀ q, (q < a ∨ a + 8 < q) → q ≠ b + 6 → q ≠ b + 7 → J q = I q) ⟨0, I, rfl, rfl, Nat.zero_le _, rfl, hD, fun _ _ _ _ => rfl⟩ ?_
  rintro m _ _ ⟨j, J, rfl, rfl, hj, hm, hDJ, hf⟩ ih
  have okj := psF_ok (calm := !dr) ok0 j hj
  have hpj : J a 0 = nI (pn W) := ((Sd.fd hDJ (f := 0) (g := 0) (by decide)).trans okj.1.1.2.2.1).trans (by rw [okj.2.1])
  refine a_l4 rfl rfl rfl ?_
  refine a_l0 rfl rfl rfl ?_
  refine a_getiv (v := nI (pn W)) rfl gfX5_56_5 (kS0 ha) hpj ?_
  refine a_ic_ge rfl (fun c => ?_) (fun c => ?_)
  · have hge := nI_ge_of c (by omega) (by omega)
    obtain rfl : j = pn W := by omega
    show AW S m_X5_passDay 19 (fun v h' => v = none ∧ ∃ J, h' = hp J L w1 w2 t ∧ (∀ q, (q < a ∨ a + 8 < q) → q ≠ b + 6 → q ≠ b + 7 → J q = I q) ∧ Sd J a (nwD (gwL cd fa fn nl) (psF (!dr) W (pn W)).1)) nX 0 0 60 _ _ _
    generalize psF (!dr) W (pn W) = sj at hDJ okj
    have e4 : J a 10 = sj.1 4 := Sd.fd hDJ (by decide)
    have e5 : J a 11 = sj.1 5 := Sd.fd hDJ (by decide)
    refine a_l0 rfl rfl rfl ?_
    refine a_s rfl rfl ?_
    refine a_getiv (v := sj.1 4) rfl gfX5_36_5 (kS0 ha) e4 ?_
    refine a_s rfl rfl ?_
    refine a_s rfl rfl ?_
    refine a_puti rfl pfX5_36_5 (kS0 ha) ?_
    have D1 : Sd (up2 J a 10 (sj.1 4 + 1)) a (ud sj.1 4 (sj.1 4 + 1)) := Sd.pu hDJ (by decide)
    refine a_l0 rfl rfl rfl ?_
    refine a_getiv (v := sj.1 4 + 1) rfl gfX5_36_5 (kS0 ha) up2_at ?_
    refine a_s rfl rfl ?_
    refine a_ic_le rfl (fun c2 => ?_) (fun c2 => ?_)
    · refine a_vret rfl rfl ⟨rfl, _, rfl, fun q g1 g2 g3 => by rw [up2_row (by omega)]; exact hf q g1 g2 g3, ?_⟩
      unfold nwD
      rw [if_neg (Int32.not_lt.mpr c2)]
      exact D1
    refine a_l0 rfl rfl rfl ?_
    refine a_s rfl rfl ?_
    refine a_puti rfl pfX5_36_5 (kS0 ha) ?_
    refine a_l0 rfl rfl rfl ?_
    refine a_s rfl rfl ?_
    refine a_l0 rfl rfl rfl ?_
    refine a_getiv (v := sj.1 5) rfl gfX5_66_5 (kS0 ha) ((up2_ne (Or.inr (by decide))).trans ((up2_ne (Or.inr (by decide))).trans e5)) ?_
    refine a_s rfl rfl ?_
    refine a_s rfl rfl ?_
    refine a_min rfl lX5_127 mj_min rfl rfl ?_
    refine a_top (y := mn 9999 (sj.1 5 + 1)) (rfl) ?_
    refine a_puti rfl pfX5_66_5 (kS0 ha) ?_
    have D3 : Sd (up2 (up2 (up2 J a 10 (sj.1 4 + 1)) a 10 1) a 11 (mn 9999 (sj.1 5 + 1))) a (ud (ud (ud sj.1 4 (sj.1 4 + 1)) 4 1) 5 (mn 9999 (sj.1 5 + 1))) := Sd.pu (Sd.pu D1 (by decide)) (by decide)
    have ok3 := mth_ok okj
    refine a_l0 rfl rfl rfl ?_
    refine a_l1 rfl rfl rfl ?_
    refine a_gV rfl lX5_140 mo_X5_passMonth (f_passMonth ha hb D3 ok3.1 (LwS.eq hL (fun q g1 g2 => by rw [up2_row (by omega), up2_row (by omega), up2_row (by omega)]; exact hf q (by omega) (by omega) (by omega)) ok3.2.2.2.2.1 ok3.2.2.2.2.2) ok3.2.2.2.1) rfl rfl rfl ⟨5, _, kS0 ha, rfl, rfl⟩ rfl (fun v' h' hv => ?_)
    obtain ⟨rfl, K, rfl, hfK, hDK⟩ := hv
    refine a_vret rfl rfl ⟨rfl, K, rfl, fun q g1 g2 g3 => by rw [hfK q (by omega) (by omega) g2 g3, up2_row (by omega), up2_row (by omega), up2_row (by omega)]; exact hf q g1 g2 g3, ?_⟩
    unfold nwD
    rw [if_pos (Int32.not_le.mp c2)]
    rw [ok3.2.2.1, ← okj.2.2.1] at hDK
    exact hDK
  have hjn := nI_lt_of c (by omega) (by omega)
  have es : psF (!dr) W (j + 1) = psS (!dr) (psF (!dr) W j) j := rfl
  -- the loop goes on
  have on : ∀ (K : Nat → Nat → Int32) (v : Option Value), Sd K a (psF (!dr) W (j + 1)).1 → (∀ q, (q < a ∨ a + 8 < q) → q ≠ b + 6 → q ≠ b + 7 → K q = I q) → AW S m_X5_passDay 19 (fun v h' => v = none ∧ ∃ J, h' = hp J L w1 w2 t ∧ (∀ q, (q < a ∨ a + 8 < q) → q ≠ b + 6 → q ≠ b + 7 → J q = I q) ∧ Sd J a (dayW (!dr) (gwL cd fa fn nl) W)) nX 0 0 54 [some (.ref a), some (.ref b), some (.int (bI dr)), some (.int (psF (!dr) W (j + 1)).2), some (.int (nI j)), v] [] (hp K L w1 w2 t) := by
    intro K v hK hfK
    refine a_iv4 (y := nI (j + 1)) rfl rfl rfl ((nI_succ j).symm) ?_
    refine a_goto rfl ?_
    exact a_less (ih (pn W - (j + 1)) _ _ (by omega) ⟨j + 1, K, rfl, rfl, by omega, rfl, hK, hfK⟩) ⟨rfl, rfl, rfl, rfl, rfl, trivial⟩
  generalize hsj : psF (!dr) W j = sj at hDJ okj es on ⊢
  have okw := psW_ok (calm := !dr) okj
  -- it works
  have wk : ∀ (K : Nat → Nat → Int32), Sd K a (psW (!dr) sj.1) → (∀ q, (q < a ∨ a + 8 < q) → q ≠ b + 6 → q ≠ b + 7 → K q = I q) → ¬ ((!dr) = false ∧ rm100 (drawV (seedF (sj.1 10))) < sj.1 6) → AW S m_X5_passDay 19 (fun v h' => v = none ∧ ∃ J, h' = hp J L w1 w2 t ∧ (∀ q, (q < a ∨ a + 8 < q) → q ≠ b + 6 → q ≠ b + 7 → J q = I q) ∧ Sd J a (dayW (!dr) (gwL cd fa fn nl) W)) nX 0 0 36 [some (.ref a), some (.ref b), some (.int (bI dr)), some (.int sj.2), some (.int (nI j)), none] [] (hp K L w1 w2 t) := by
    intro K hK hfK hc
    refine a_s rfl rfl ?_
    refine a_s5 rfl rfl rfl rfl rfl rfl ?_
    refine a_l5 rfl rfl rfl ?_
    refine a_if_ne rfl (fun z => absurd rfl z) (fun _ => ?_)
    refine a_l3 rfl rfl rfl ?_
    refine a_l0 rfl rfl rfl ?_
    refine a_l4 rfl rfl rfl ?_
    refine a_l3 rfl rfl rfl ?_
    refine a_gV rfl lX5_137 mo_X5_work (f_work (taken := sj.2) ha hK okw.1 (by rw [okw.2.1]; exact hjn)) rfl rfl rfl ⟨5, _, kS0 ha, rfl, rfl⟩ rfl (fun v' h' hv => ?_)
    obtain ⟨rfl, K2, rfl, hfK2, hDK2⟩ := hv
    rw [show psF (!dr) W (j + 1) = ((wdF (nI j) sj.2 (psW (!dr) sj.1, psW (!dr) sj.1 (11 + 2 * j + 1), 0) (dn (psW (!dr) sj.1))).1, sj.2 ||| (wdF (nI j) sj.2 (psW (!dr) sj.1, psW (!dr) sj.1 (11 + 2 * j + 1), 0) (dn (psW (!dr) sj.1))).2.2) from es.trans (if_neg hc)] at on
    refine a_s rfl rfl ?_
    refine a_s3 rfl rfl rfl rfl rfl rfl ?_
    exact on K2 _ hDK2 (fun q g1 g2 g3 => (hfK2 q (by omega) (by omega)).trans (hfK q g1 g2 g3))
  refine a_l2 rfl rfl rfl ?_
  cases dr with
  | false =>
    refine a_if_eq rfl (fun _ => ?_) (fun z => absurd rfl z)
    exact wk J hDJ hf (fun z => by cases z.1)
  | true =>
    refine a_if_eq rfl (fun z => absurd z (by decide)) (fun _ => ?_)
    refine a_l0 rfl rfl rfl ?_
    refine a_eV1 rfl lX5_133 mo_X5_draw (sp_X5_draw ha) rfl rfl rfl ⟨5, _, kS0 ha, rfl, rfl⟩ rfl ?_
    have e15 : J a 15 = sj.1 10 := Sd.fd hDJ (by decide)
    rw [e15]
    have DK : Sd (up2 J a 15 (seedF (sj.1 10))) a (psW (!true) sj.1) := Sd.pu hDJ (by decide)
    have hfK : ∀ q, (q < a ∨ a + 8 < q) → q ≠ b + 6 → q ≠ b + 7 → up2 J a 15 (seedF (sj.1 10)) q = I q := fun q g1 g2 g3 => by rw [up2_row (by omega)]; exact hf q g1 g2 g3
    refine a_s rfl rfl ?_
    refine a_irem rfl (by decide) ?_
    refine a_top (y := rm100 (drawV (seedF (sj.1 10)))) (rfl) ?_
    refine a_l0 rfl rfl rfl ?_
    refine a_getiv (v := sj.1 6) rfl gfX5_69_5 (kS0 ha) ((up2_ne (Or.inr (by decide))).trans (Sd.fd hDJ (by decide))) ?_
    refine a_ic_ge rfl (fun c2 => ?_) (fun c2 => ?_)
    · exact wk _ DK hfK (fun z => absurd z.2 (Int32.not_lt.mpr c2))
    · refine a_s rfl rfl ?_
      refine a_goto rfl ?_
      refine a_s5 rfl rfl rfl rfl rfl rfl ?_
      refine a_l5 rfl rfl rfl ?_
      refine a_if_ne rfl (fun _ => ?_) (fun z => absurd z (by decide))
      rw [show psF (!true) W (j + 1) = (psW (!true) sj.1, sj.2) from es.trans (if_pos ⟨rfl, Int32.not_le.mp c2⟩)] at on
      exact on _ _ DK hfK
end T79z
end
section
/-! ===== a day more: the reference, but for the parade ===== -/
section T79za
variable {S : aS} {I : Nat → Nat → Int32} {L : Nat → Nat → Int64} {w1 w2 t : Nat} {nl len : Nat} {cd fa fn : Nat → Nat} {W : Nat → Int32} {taken had : Int32}
set_option maxRecDepth 100000
theorem bt_32767 : ∀ i, i < 32 → bt 32767 i = decide (i < 15) := by decide +kernel
theorem dr_same {s : Int32} : (s >>> ((16 : Int32) &&& 31)) &&& 32767 = drawV s := by
  unfold drawV
  refine b_ext fun i hi => ?_
  rw [b_and, b_and, bt_32767 i hi]
  by_cases c : i < 15
  · rw [show ((16 : Int32) &&& 31) = (nI 16 &&& 31) from rfl, b_sshr 16 (by decide) s hi, if_pos (by omega), show ((16 : Int32).toUInt32 &&& Int32.toUInt32 31) = ((nI 16).toUInt32 &&& Int32.toUInt32 31) from rfl, b_ushr 16 (by decide) s i]
  · rw [decide_eq_false c, Bool.and_false, Bool.and_false]
theorem sd_same {s : Int32} : (1103515245 : Int32) * s + 12345 = seedF s := by
  unfold seedF
  rw [Int32.mul_comm]
theorem h_drawn : SpE S m_X12_drawn 12 [.ref 420, .int 100] (hp I L w1 w2 t) (some (.int (rm100 (drawV (seedF (I 421 10)))))) (hp (up2 I 421 10 (seedF (I 421 10))) L w1 w2 t) := by
  refine SpE_of ok_X12_drawn rfl rfl ?_
  show AW S m_X12_drawn 12 _ _ 0 0 0 [some (.ref 420), some (.int 100)] [] (hp I L w1 w2 t)
  refine a_l0 rfl rfl rfl ?_
  refine a_getq rfl gfX12_13_12 rfl (rfl) ?_
  refine a_s rfl rfl ?_
  refine a_ldc rfl kX12_77 ?_
  refine a_l0 rfl rfl rfl ?_
  refine a_getq rfl gfX12_13_12 rfl (rfl) ?_
  refine a_s rfl rfl ?_
  refine a_ialdv (v := I 421 10) rfl (n := 2033) rfl ⟨by decide, by decide⟩ rfl ?_
  refine a_s rfl rfl ?_
  refine a_s rfl rfl ?_
  refine a_s rfl rfl ?_
  refine a_top (y := seedF (I 421 10)) (sd_same) ?_
  refine a_iastv (k := 10) rfl (n := 2033) rfl ⟨by decide, by decide⟩ rfl ?_
  refine a_l0 rfl rfl rfl ?_
  refine a_getq rfl gfX12_13_12 rfl (rfl) ?_
  refine a_s rfl rfl ?_
  refine a_ialdv (v := seedF (I 421 10)) rfl (n := 2033) rfl ⟨by decide, by decide⟩ up2_at ?_
  refine a_s rfl rfl ?_
  refine a_s rfl rfl ?_
  refine a_s rfl rfl ?_
  refine a_s rfl rfl ?_
  refine a_top (y := drawV (seedF (I 421 10))) (dr_same) ?_
  refine a_l1 rfl rfl rfl ?_
  refine a_irem rfl (by decide) ?_
  exact a_iret rfl rfl ⟨rfl, rfl⟩
theorem HHd.nx {H : Nat → Int32} {p : Nat} (h : HHd H taken had p) : HHd H (taken ||| had) 0 (p + 1) := fun k hk => by
  obtain ⟨g1, g2, g3⟩ := h k hk
  rw [hasF_or (show k < 31 by omega), hasF_0 (show k < 31 by omega)]
  refine ⟨fun z => ?_, fun _ z => (by cases z), fun z _ => ?_⟩
  · cases ht : hasF taken (nI k) with
    | true =>
      obtain ⟨q, q1, q2⟩ := g1 ht
      exact ⟨q, by omega, q2⟩
    | false =>
      rw [ht, Bool.false_or] at z
      exact ⟨p, by omega, g2 ht z⟩
  · cases ht : hasF taken (nI k) with
    | true =>
      rw [ht, Bool.true_or] at z
      cases z
    | false =>
      rw [ht, Bool.false_or] at z
      exact g3 ht z
theorem HHd.sk {H : Nat → Int32} {p : Nat} (h : HHd H taken 0 p) : HHd H taken 0 (p + 1) := fun k hk => by
  obtain ⟨g1, g2, g3⟩ := h k hk
  refine ⟨fun z => ?_, fun _ z => ?_, g3⟩
  · obtain ⟨q, q1, q2⟩ := g1 z
    exact ⟨q, by omega, q2⟩
  · rw [hasF_0 (show k < 31 by omega)] at z
    cases z
theorem h_oneDay140 (h421 : I 421 = W) (hG : Rg W) (hL : LawR W nl len cd fa fn) (hN : LwN W nl) {calm : Bool} {Q : Option Value → aH → Prop} {X : String → aH → Prop} (kk : ∀ (J : Nat → Nat → Int32) (y : Int32) (u : Option Value), (∀ q, q ≠ 421 → q ≠ 428 → q ≠ 429 → J q = I q) → J 421 = dayW calm (gwL cd fa fn nl) W → AW S m_X12_oneDay 23 Q X 0 0 140 [some (.ref 420), some (.int (bI calm)), some (.int y), u] [] (hp J L w1 w2 t)) : AW S m_X12_oneDay 23 Q X 0 0 0 [some (.ref 420), some (.int (bI calm)), none, none] [] (hp I L w1 w2 t) := by
  have h12 := hG.1.2.1
  have h6 := hG.1.1
  have ok0 : DyOk nl W W := ⟨hG, rfl, rfl, hN, rfl, fun _ _ => rfl⟩
  refine a_s rfl rfl ?_
  refine a_s2 rfl rfl rfl rfl rfl rfl ?_
  refine a_s rfl rfl ?_
  refine a_s3 rfl rfl rfl rfl rfl rfl ?_
  -- nobody has a tool
  refine a_inv (n := 6) (fun m ls h => ∃ j J, ls = [some (.ref 420), some (.int (bI calm)), some (.int 0), some (.int (nI j))] ∧ h = hp J L w1 w2 t ∧ j ≤ 6 ∧ m = 6 - j ∧ (∀ k, k < j → J 429 k = -1) ∧ ∀ q, q ≠ 429 → J q = I q) ⟨0, I, rfl, rfl, by decide, rfl, fun k hk => absurd hk (Nat.not_lt_zero _), fun _ _ => rfl⟩ ?_
  rintro m _ _ ⟨j, J, rfl, rfl, hj, hm, h429, hf⟩ ih
  refine a_l3 rfl rfl rfl ?_
  refine a_s rfl rfl ?_
  refine a_ic_ge rfl (fun c => ?_) (fun c => ?_)
  rotate_left
  · have hj6 := nI_lt_of (b := 6) c (by omega) (by decide)
    refine a_l0 rfl rfl rfl ?_
    refine a_getq rfl gfX12_42_12 rfl (rfl) ?_
    refine a_l3 rfl rfl rfl ?_
    refine a_s rfl rfl ?_
    refine a_iastv (k := j) rfl (n := 6) rfl (inI_nI hj6 (by decide)) (nI_clamp (by omega)) ?_
    refine a_iv3 (y := nI (j + 1)) rfl rfl rfl ((nI_succ j).symm) ?_
    refine a_goto rfl ?_
    refine ih (6 - (j + 1)) _ _ (by omega) ⟨j + 1, _, rfl, rfl, by omega, rfl, fun k hk => ?_, fun q hq => by rw [up2_row hq]; exact hf q hq⟩
    by_cases ck : k = j
    · rw [ck, up2_at]
    · rw [up2_ne (Or.inr ck)]
      exact h429 k (by omega)
  have hge := nI_ge_of (b := 6) c (by omega) (by decide)
  obtain rfl : j = 6 := by omega
  clear ih c hge
  have z0 : ∀ k, k < 6 → hasF 0 (nI k) = false := fun k hk => hasF_0 (by omega)
  have H0 : HHd (J 429) 0 0 0 := fun k hk => ⟨fun z => absurd z (by rw [z0 k hk]; exact Bool.false_ne_true), fun _ z => absurd z (by rw [z0 k hk]; exact Bool.false_ne_true), fun _ _ => h429 k hk⟩
  have J421 : J 421 = W := (hf 421 (by decide)).trans h421
  refine a_s rfl rfl ?_
  refine a_s3 rfl rfl rfl rfl rfl rfl ?_
  refine a_inv (n := pn W) (fun m ls h => ∃ j y K, ls = [some (.ref 420), some (.int (bI calm)), some (.int y), some (.int (nI j))] ∧ h = hp K L w1 w2 t ∧ j ≤ pn W ∧ m = pn W - j ∧ K 421 = (psF calm W j).1 ∧ HHd (K 429) (psF calm W j).2 0 j ∧ ∀ q, q ≠ 421 → q ≠ 428 → q ≠ 429 → K q = I q) ⟨0, 0, J, rfl, rfl, Nat.zero_le _, rfl, J421, H0, fun q _ _ h3 => hf q h3⟩ ?_
  clear hm h429 hj
  rintro m _ _ ⟨j, y, K, rfl, rfl, hj, hm, eK, hHK, hfK⟩ ih
  have okj := psF_ok (calm := calm) ok0 j hj
  refine a_l3 rfl rfl rfl ?_
  refine a_l0 rfl rfl rfl ?_
  refine a_eV1 rfl lX12_66 mo_X12_people sp_X12_people rfl rfl rfl ⟨12, _, rfl, rfl, rfl⟩ rfl ?_
  refine a_top (y := nI (pn W)) (by rw [eK, okj.1.1.2.2.1, okj.2.1]) ?_
  refine a_ic_ge rfl (fun c => ?_) (fun c => ?_)
  · have hge := nI_ge_of c (by omega) (by omega)
    obtain rfl : j = pn W := by omega
    clear ih
    have fin : dayW calm (gwL cd fa fn nl) W = nwD (gwL cd fa fn nl) (psF calm W (pn W)).1 := rfl
    generalize psF calm W (pn W) = sj at eK okj fin
    refine a_l0 rfl rfl rfl ?_
    refine a_getq rfl gfX12_13_12 rfl (rfl) ?_
    refine a_s rfl rfl ?_
    refine a_s rfl rfl ?_
    refine a_ialdv (v := sj.1 4) rfl (n := 2033) rfl ⟨by decide, by decide⟩ (congrFun eK 4) ?_
    refine a_s rfl rfl ?_
    refine a_s rfl rfl ?_
    refine a_iastv (k := 4) rfl (n := 2033) rfl ⟨by decide, by decide⟩ rfl ?_
    refine a_l0 rfl rfl rfl ?_
    refine a_getq rfl gfX12_13_12 rfl (rfl) ?_
    refine a_s rfl rfl ?_
    refine a_ialdv (v := sj.1 4 + 1) rfl (n := 2033) rfl ⟨by decide, by decide⟩ up2_at ?_
    refine a_s rfl rfl ?_
    refine a_ic_le rfl (fun c2 => ?_) (fun c2 => ?_)
    · refine kk _ _ _ (fun q h1 h2 h3 => by rw [up2_row h1]; exact hfK q h1 h2 h3) ?_
      rw [fin]
      unfold nwD
      rw [if_neg (Int32.not_lt.mpr c2), up2_ud, eK]
    refine a_l0 rfl rfl rfl ?_
    refine a_getq rfl gfX12_13_12 rfl (rfl) ?_
    refine a_s rfl rfl ?_
    refine a_s rfl rfl ?_
    refine a_iastv (k := 4) rfl (n := 2033) rfl ⟨by decide, by decide⟩ rfl ?_
    refine a_l0 rfl rfl rfl ?_
    refine a_getq rfl gfX12_13_12 rfl (rfl) ?_
    refine a_s rfl rfl ?_
    refine a_s rfl rfl ?_
    refine a_l0 rfl rfl rfl ?_
    refine a_getq rfl gfX12_13_12 rfl (rfl) ?_
    refine a_s rfl rfl ?_
    refine a_ialdv (v := sj.1 5) rfl (n := 2033) rfl ⟨by decide, by decide⟩ ((up2_ne (Or.inr (by decide))).trans ((up2_ne (Or.inr (by decide))).trans (congrFun eK 5))) ?_
    refine a_s rfl rfl ?_
    refine a_s rfl rfl ?_
    refine a_min rfl lX12_295 mj_min rfl rfl ?_
    refine a_top (y := mn 9999 (sj.1 5 + 1)) (rfl) ?_
    refine a_iastv (k := 5) rfl (n := 2033) rfl ⟨by decide, by decide⟩ rfl ?_
    have ok3 := mth_ok okj
    generalize hM : up2 (up2 (up2 K 421 4 (sj.1 4 + 1)) 421 4 1) 421 5 (mn 9999 (sj.1 5 + 1)) = M
    have eM : M 421 = ud (ud (ud sj.1 4 (sj.1 4 + 1)) 4 1) 5 (mn 9999 (sj.1 5 + 1)) := by
      rw [← hM, up2_ud, up2_ud, up2_ud, eK]
    have fM : ∀ q, q ≠ 421 → M q = K q := fun q hq => by rw [← hM, up2_row hq, up2_row hq, up2_row hq]
    have e9 : nwD (gwL cd fa fn nl) sj.1 = gwF (gwL cd fa fn nl) (ud (ud (ud sj.1 4 (sj.1 4 + 1)) 4 1) 5 (mn 9999 (sj.1 5 + 1))) (dn W) := by
      unfold nwD
      rw [if_pos (Int32.not_le.mp c2), okj.2.2.1]
    generalize ud (ud (ud sj.1 4 (sj.1 4 + 1)) 4 1) 5 (mn 9999 (sj.1 5 + 1)) = V at eM e9 ok3
    clear hM
    have okV : GwOk nl V V := ⟨ok3.1, rfl, rfl, ok3.2.2.2.1, fun _ _ => rfl⟩
    have nV : dn V = dn W := ok3.2.2.1
    refine a_s rfl rfl ?_
    refine a_s3 rfl rfl rfl rfl rfl rfl ?_
    refine a_inv (n := dn W) (fun m ls h => ∃ j N, ls = [some (.ref 420), some (.int (bI calm)), some (.int y), some (.int (nI j))] ∧ h = hp N L w1 w2 t ∧ j ≤ dn W ∧ m = dn W - j ∧ N 421 = gwF (gwL cd fa fn nl) V j ∧ ∀ q, q ≠ 421 → q ≠ 428 → q ≠ 429 → N q = I q) ⟨0, M, rfl, rfl, Nat.zero_le _, rfl, eM, fun q h1 h2 h3 => (fM q h1).trans (hfK q h1 h2 h3)⟩ ?_
    clear hm hj
    rintro m _ _ ⟨j, N, rfl, rfl, hj, hm, eN, hfN⟩ ih
    have okg := okV.run (cd := cd) (fa := fa) (fn := fn) j (by omega)
    refine a_l3 rfl rfl rfl ?_
    refine a_l0 rfl rfl rfl ?_
    refine a_eV1 rfl lX12_74 mo_X12_duties sp_X12_duties rfl rfl rfl ⟨12, _, rfl, rfl, rfl⟩ rfl ?_
    refine a_top (y := nI (dn W)) (by rw [eN, okg.1.1.2.2.2, okg.2.2.1, nV]) ?_
    refine a_ic_ge rfl (fun c => ?_) (fun c => ?_)
    · have hge := nI_ge_of c (by omega) (by omega)
      obtain rfl : j = dn W := by omega
      exact kk N y _ hfN (by rw [fin, e9]; exact eN)
    have hjn := nI_lt_of c (by omega) (by omega)
    have lawN : LawR (gwF (gwL cd fa fn nl) V j) nl len cd fa fn := LawR.eq hL ((okg.2.2.2.2 3 (fun d hd => by omega)).trans ok3.2.2.2.2.1) (fun k hk => (okg.2.2.2.2 k (fun d hd => by omega)).trans (ok3.2.2.2.2.2 k hk))
    refine a_l0 rfl rfl rfl ?_
    refine a_l3 rfl rfl rfl ?_
    refine a_gV rfl lX12_379 mo_X12_growsOlder (h_growsOlder (d := j) (nl := nl) (len := len) (cd := cd) (fa := fa) (fn := fn) (by rw [eN]; exact okg.1) (by rw [eN, okg.2.2.1, nV]; exact hjn) (by rw [eN]; exact lawN)) rfl rfl rfl ⟨12, _, rfl, rfl, rfl⟩ rfl (fun v' h' hv => ?_)
    obtain ⟨rfl, N2, rfl, hf2, eN2⟩ := hv
    refine a_iv3 (y := nI (j + 1)) rfl rfl rfl ((nI_succ j).symm) ?_
    refine a_goto rfl ?_
    exact ih (dn W - (j + 1)) _ _ (by omega) ⟨j + 1, N2, rfl, rfl, by omega, rfl, by rw [eN2, eN]; rfl, fun q h1 h2 h3 => (hf2 q h1 h2).trans (hfN q h1 h2 h3)⟩
  have hjn := nI_lt_of c (by omega) (by omega)
  have es : psF calm W (j + 1) = psS calm (psF calm W j) j := rfl
  -- the loop goes on
  have on : ∀ (N : Nat → Nat → Int32) (z : Int32), N 421 = (psF calm W (j + 1)).1 → HHd (N 429) (psF calm W (j + 1)).2 0 (j + 1) → (∀ q, q ≠ 421 → q ≠ 428 → q ≠ 429 → N q = I q) → AW S m_X12_oneDay 23 Q X 0 0 63 [some (.ref 420), some (.int (bI calm)), some (.int y), some (.int (nI j))] [.int z, .int y] (hp N L w1 w2 t) := by
    intro N z hN hHN hfN
    refine a_s rfl rfl ?_
    refine a_s2 rfl rfl rfl rfl rfl rfl ?_
    refine a_iv3 (y := nI (j + 1)) rfl rfl rfl ((nI_succ j).symm) ?_
    refine a_goto rfl ?_
    exact ih (pn W - (j + 1)) _ _ (by omega) ⟨j + 1, _, N, rfl, rfl, by omega, rfl, hN, hHN, hfN⟩
  generalize hsj : psF calm W j = sj at eK hHK okj es on ⊢
  have okw := psW_ok (calm := calm) okj
  -- it works
  have wk : ∀ (N : Nat → Nat → Int32), N 421 = psW calm sj.1 → N 429 = K 429 → (∀ q, q ≠ 421 → q ≠ 428 → q ≠ 429 → N q = I q) → ¬ (calm = false ∧ rm100 (drawV (seedF (sj.1 10))) < sj.1 6) → AW S m_X12_oneDay 23 Q X 0 0 58 [some (.ref 420), some (.int (bI calm)), some (.int y), some (.int (nI j))] [.int y] (hp N L w1 w2 t) := by
    intro N hN h9 hfN hc
    refine a_l0 rfl rfl rfl ?_
    refine a_l3 rfl rfl rfl ?_
    refine a_gV rfl lX12_376 mo_X12_works (h_works (taken := sj.2) (p := j) (by rw [hN]; exact okw.1) (by rw [hN, okw.2.1]; exact hjn) (by rw [h9]; exact hHK)) rfl rfl rfl ⟨12, _, rfl, rfl, rfl⟩ rfl (fun v' h' hv => ?_)
    obtain ⟨x, rfl, N2, rfl, hf2, eN2, hH2⟩ := hv
    rw [hN] at eN2 hH2
    rw [show psF calm W (j + 1) = ((wdF (nI j) sj.2 (psW calm sj.1, psW calm sj.1 (11 + 2 * j + 1), 0) (dn (psW calm sj.1))).1, sj.2 ||| (wdF (nI j) sj.2 (psW calm sj.1, psW calm sj.1 (11 + 2 * j + 1), 0) (dn (psW calm sj.1))).2.2) from es.trans (if_neg hc)] at on
    exact on N2 x eN2 (HHd.nx hH2) (fun q h1 h2 h3 => (hf2 q h1 h3).trans (hfN q h1 h2 h3))
  refine a_l2 rfl rfl rfl ?_
  refine a_l1 rfl rfl rfl ?_
  cases calm with
  | true =>
    refine a_if_ne rfl (fun _ => ?_) (fun z => absurd z (by decide))
    exact wk K eK rfl hfK (fun z => by cases z.1)
  | false =>
    refine a_if_ne rfl (fun z => absurd rfl z) (fun _ => ?_)
    refine a_l0 rfl rfl rfl ?_
    refine a_s rfl rfl ?_
    refine a_eV1 rfl lX12_373 mo_X12_drawn h_drawn rfl rfl rfl ⟨12, _, rfl, rfl, rfl⟩ rfl ?_
    have e10 : K 421 10 = sj.1 10 := congrFun eK 10
    rw [e10]
    have eN : up2 K 421 10 (seedF (sj.1 10)) 421 = psW false sj.1 := by rw [up2_ud, eK]; rfl
    refine a_l0 rfl rfl rfl ?_
    refine a_getq rfl gfX12_13_12 rfl (rfl) ?_
    refine a_s rfl rfl ?_
    refine a_ialdv (v := sj.1 6) rfl (n := 2033) rfl ⟨by decide, by decide⟩ ((up2_ne (Or.inr (by decide))).trans (congrFun eK 6)) ?_
    refine a_ic_ge rfl (fun c2 => ?_) (fun c2 => ?_)
    · exact wk _ eN (up2_row (by decide)) (fun q h1 h2 h3 => by rw [up2_row h1]; exact hfK q h1 h2 h3) (fun z => absurd z.2 (Int32.not_lt.mpr c2))
    · refine a_s rfl rfl ?_
      refine a_goto rfl ?_
      rw [show psF false W (j + 1) = (psW false sj.1, sj.2) from es.trans (if_pos ⟨rfl, Int32.not_le.mp c2⟩)] at on
      exact on _ 0 eN (by rw [up2_row (by decide)]; exact HHd.sk hHK) (fun q h1 h2 h3 => by rw [up2_row h1]; exact hfK q h1 h2 h3)
end T79za
end
section
/-! ===== the log: a ring of the class, rows moved on by the reference ===== -/
section T79zb
variable {S : aS} {I : Nat → Nat → Int32} {L : Nat → Nat → Int64} {w1 w2 t : Nat} {a nl len : Nat} {cd fa fn : Nat → Nat} {W : Nat → Int32}
set_option maxRecDepth 100000
/-- the latest rows of both -/
def Lg (I : Nat → Nat → Int32) (a : Nat) (W : Nat → Int32) : Prop := ∃ r n, r ≤ 60 ∧ n < 60 ∧ I (a + 9) 0 = nI r ∧ I (a + 9) 1 = nI n ∧ W 9 = nI r ∧ ∀ k, k < r → ∀ j, j < 4 → I (a + 10) (4 * ((n + 59 - k) % 60) + j) = W (95 + 4 * k + j)
/-- a row more -/
def tell (W : Nat → Int32) (x0 x1 x2 x3 : Int32) : Nat → Int32 := fun j => if 99 ≤ j ∧ j < 335 then W (j - 4) else if j = 95 then x0 else if j = 96 then x1 else if j = 97 then x2 else if j = 98 then x3 else if j = 9 then mn 60 (W 9 + 1) else W j
def adL (I : Nat → Nat → Int32) (n r : Nat) (x0 x1 x2 x3 : Int32) : Nat → Nat → Int32 := up2 (up2 (up2 (up2 (up2 (up2 I 245 (4 * n) x0) 245 (4 * n + 1) x1) 245 (4 * n + 2) x2) 245 (4 * n + 3) x3) 244 1 (nI ((n + 1) % 60))) 244 0 (mn 60 (nI r + 1))
theorem rem60 : ∀ k, k < 61 → nI k - nI k / 60 * 60 = nI (k % 60) := by decide +kernel
theorem f_add {n r : Nat} (h0 : I 244 0 = nI r) (h1 : I 244 1 = nI n) (hn : n < 60) {x0 x1 x2 x3 : Int32} : SpE S m_X1_add 13 [.ref 244, .int x0, .int x1, .int x2, .int x3] (hp I L w1 w2 t) none (hp (adL I n r x0 x1 x2 x3) L w1 w2 t) := by
  refine SpE_of ok_X1_add rfl rfl ?_
  show AW S m_X1_add 13 _ _ 0 0 0 [some (.ref 244), some (.int x0), some (.int x1), some (.int x2), some (.int x3), none] [] (hp I L w1 w2 t)
  refine a_l0 rfl rfl rfl ?_
  refine a_getiv (v := nI n) rfl gfX1_19_1 rfl (h1) ?_
  refine a_s rfl rfl ?_
  refine a_s rfl rfl ?_
  refine a_top (y := nI (4 * n)) (by rw [Nat.mul_comm]; exact nI_mul n 4) ?_
  refine a_s5 rfl rfl rfl rfl rfl rfl ?_
  refine a_l0 rfl rfl rfl ?_
  refine a_getq rfl gfX1_11_1 rfl (rfl) ?_
  refine a_l5 rfl rfl rfl ?_
  refine a_l1 rfl rfl rfl ?_
  refine a_eSN0 rfl lX1_26 mo_X11_setAt (sp_X11_setAt rfl) rfl rfl rfl rfl ?_
  rw [setF_nI (show 4 * n < 240 by omega) (by decide)]
  refine a_l0 rfl rfl rfl ?_
  refine a_getq rfl gfX1_11_1 rfl (rfl) ?_
  refine a_l5 rfl rfl rfl ?_
  refine a_s rfl rfl ?_
  refine a_s rfl rfl ?_
  refine a_top (y := nI (4 * n + 1)) (nI_addl (4 * n) 1) ?_
  refine a_l2 rfl rfl rfl ?_
  refine a_eSN0 rfl lX1_26 mo_X11_setAt (sp_X11_setAt rfl) rfl rfl rfl rfl ?_
  rw [setF_nI (show 4 * n + 1 < 240 by omega) (by decide)]
  refine a_l0 rfl rfl rfl ?_
  refine a_getq rfl gfX1_11_1 rfl (rfl) ?_
  refine a_l5 rfl rfl rfl ?_
  refine a_s rfl rfl ?_
  refine a_s rfl rfl ?_
  refine a_top (y := nI (4 * n + 2)) (nI_addl (4 * n) 2) ?_
  refine a_l3 rfl rfl rfl ?_
  refine a_eSN0 rfl lX1_26 mo_X11_setAt (sp_X11_setAt rfl) rfl rfl rfl rfl ?_
  rw [setF_nI (show 4 * n + 2 < 240 by omega) (by decide)]
  refine a_l0 rfl rfl rfl ?_
  refine a_getq rfl gfX1_11_1 rfl (rfl) ?_
  refine a_l5 rfl rfl rfl ?_
  refine a_s rfl rfl ?_
  refine a_s rfl rfl ?_
  refine a_top (y := nI (4 * n + 3)) (nI_addl (4 * n) 3) ?_
  refine a_l4 rfl rfl rfl ?_
  refine a_eSN0 rfl lX1_26 mo_X11_setAt (sp_X11_setAt rfl) rfl rfl rfl rfl ?_
  rw [setF_nI (show 4 * n + 3 < 240 by omega) (by decide)]
  have g : ∀ q, q ≠ 245 → up2 (up2 (up2 (up2 I 245 (4 * n) x0) 245 (4 * n + 1) x1) 245 (4 * n + 2) x2) 245 (4 * n + 3) x3 q = I q := fun q hq => by rw [up2_row hq, up2_row hq, up2_row hq, up2_row hq]
  refine a_l0 rfl rfl rfl ?_
  refine a_l0 rfl rfl rfl ?_
  refine a_getiv (v := nI n) rfl gfX1_19_1 rfl ((congrFun (g 244 (by decide)) 1).trans h1) ?_
  refine a_s rfl rfl ?_
  refine a_s rfl rfl ?_
  refine a_top (y := nI (n + 1)) ((nI_succ n).symm) ?_
  refine a_s rfl rfl ?_
  refine a_irem rfl (by decide) ?_
  refine a_top (y := nI ((n + 1) % 60)) (rem60 (n + 1) (by omega)) ?_
  refine a_puti rfl pfX1_19_1 rfl ?_
  refine a_l0 rfl rfl rfl ?_
  refine a_s rfl rfl ?_
  refine a_l0 rfl rfl rfl ?_
  refine a_getiv (v := nI r) rfl gfX1_15_1 rfl ((up2_ne (Or.inr (by decide))).trans ((congrFun (g 244 (by decide)) 0).trans h0)) ?_
  refine a_s rfl rfl ?_
  refine a_s rfl rfl ?_
  refine a_min rfl lX1_30 mj_min rfl rfl ?_
  refine a_top (y := mn 60 (nI r + 1)) (rfl) ?_
  refine a_puti rfl pfX1_15_1 rfl ?_
  exact a_vret rfl rfl ⟨rfl, rfl⟩
theorem Lg.add {n r : Nat} {x0 x1 x2 x3 : Int32} (hr : r ≤ 60) (hn : n < 60) (h9 : W 9 = nI r) (hrow : ∀ k, k < r → ∀ j, j < 4 → I 245 (4 * ((n + 59 - k) % 60) + j) = W (95 + 4 * k + j)) : Lg (adL I n r x0 x1 x2 x3) 235 (tell W x0 x1 x2 x3) := by
  have em : mn 60 (nI r + 1) = nI (min 60 (r + 1)) := by rw [← nI_succ, show (60 : Int32) = nI 60 from rfl, mn_nI (by decide) (by omega)]
  refine ⟨min 60 (r + 1), (n + 1) % 60, by omega, Nat.mod_lt _ (by decide), ?_, ?_, ?_, fun k hk j hj => ?_⟩
  · show adL I n r x0 x1 x2 x3 244 0 = _
    unfold adL
    rw [up2_at, em]
  · show adL I n r x0 x1 x2 x3 244 1 = _
    unfold adL
    rw [up2_ne (Or.inr (by decide)), up2_at]
  · unfold tell
    rw [if_neg (by omega), if_neg (by decide), if_neg (by decide), if_neg (by decide), if_neg (by decide), if_pos rfl, h9, em]
  · show adL I n r x0 x1 x2 x3 245 (4 * (((n + 1) % 60 + 59 - k) % 60) + j) = _
    unfold adL
    rw [up2_row (by decide), up2_row (by decide)]
    rcases k with _ | k
    · rw [show ((n + 1) % 60 + 59 - 0) % 60 = n by omega]
      unfold tell
      rcases j with _ | _ | _ | _ | j
      · rw [up2_ne (Or.inr (by omega)), up2_ne (Or.inr (by omega)), up2_ne (Or.inr (by omega))]
        exact up2_at
      · rw [up2_ne (Or.inr (by omega)), up2_ne (Or.inr (by omega))]
        exact up2_at
      · rw [up2_ne (Or.inr (by omega))]
        exact up2_at
      · exact up2_at
      · omega
    · have e : ((n + 1) % 60 + 59 - (k + 1)) % 60 = (n + 59 - k) % 60 := by omega
      have ne : (n + 59 - k) % 60 ≠ n := by omega
      rw [e, up2_ne (Or.inr (by omega)), up2_ne (Or.inr (by omega)), up2_ne (Or.inr (by omega)), up2_ne (Or.inr (by omega)), hrow k (by omega) j hj]
      unfold tell
      rw [if_pos ⟨by omega, by omega⟩]
      congr 1
      omega
theorem Lg.eq {J : Nat → Nat → Int32} {W' : Nat → Int32} (h : Lg I a W) (e9 : J (a + 9) = I (a + 9)) (e10 : J (a + 10) = I (a + 10)) (f9 : W' 9 = W 9) (f : ∀ k, 95 ≤ k → k < 335 → W' k = W k) : Lg J a W' := by
  obtain ⟨r, n, h1, h2, h3, h4, h5, h6⟩ := h
  refine ⟨r, n, h1, h2, by rw [e9]; exact h3, by rw [e9]; exact h4, f9.trans h5, fun k hk j hj => ?_⟩
  rw [e10, f _ (by omega) (by omega)]
  exact h6 k hk j hj
theorem tell_lo {x0 x1 x2 x3 : Int32} {k : Nat} (h : k < 95 ∨ 335 ≤ k) (h9 : k ≠ 9) : tell W x0 x1 x2 x3 k = W k := by
  unfold tell
  rw [if_neg (by omega), if_neg (by omega), if_neg (by omega), if_neg (by omega), if_neg (by omega), if_neg h9]
theorem Sd.tell {x0 x1 x2 x3 : Int32} (h : Sd I a W) : Sd I a (tell W x0 x1 x2 x3) := by
  obtain ⟨h1, h2, h3⟩ := h
  refine ⟨fun x hx => ?_, fun p hp => ?_, fun d hd k hk => ?_⟩
  · have g : ∀ y ∈ flds, y.2 < 11 ∧ y.2 ≠ 9 := by decide
    rw [tell_lo (Or.inl (by have := (g x hx).1; omega)) (g x hx).2]
    exact h1 x hx
  · rw [tell_lo (Or.inl (by omega)) (by omega), tell_lo (Or.inl (by omega)) (by omega)]
    exact h2 p hp
  · rw [tell_lo (Or.inl (by omega)) (by omega)]
    exact h3 d hd k hk
end T79zb
end
section
/-! ===== a row of the log: the reference ===== -/
section T79zc
variable {S : aS} {I : Nat → Nat → Int32} {L : Nat → Nat → Int64} {w1 w2 t : Nat} {d nl len : Nat} {cd fa fn : Nat → Nat} {W V : Nat → Int32}
set_option maxRecDepth 100000
/-- the log's rows don't count for anything but the log -/
theorem Rg.log (h : Rg W) (f : ∀ k, k < 95 → k ≠ 9 → V k = W k) : Rg V ∧ pn V = pn W ∧ dn V = dn W := by
  obtain ⟨⟨h1, h2, h3, h4⟩, hf, hp, hdd⟩ := h
  exact ⟨Rg.of h1 h2 ((f 0 (by omega) (by omega)).trans h3) ((f 1 (by omega) (by omega)).trans h4) (hf.eq fun k z1 z2 => f k (by omega) (by omega)) (fun p z => (hp p z).eq (f _ (by omega) (by omega)) (f _ (by omega) (by omega))) (fun e' z => (hdd e' z).eq fun k hk => f _ (by omega) (by omega)), by unfold pn; rw [f 0 (by omega) (by omega)], by unfold dn; rw [f 1 (by omega) (by omega)]⟩
theorem factW_log (h : Rg W) (hd : d < dn W) (f : ∀ k, k < 95 → k ≠ 9 → V k = W k) : factW V d = factW W d := by
  have h12 := h.1.2.1
  have h6 := h.1.1
  have e : ∀ k, k < 6 → ∀ i, i < 12 → vd V k i = vd W k i := fun k hk i hi => f _ (by omega) (by omega)
  obtain ⟨⟨j, hj, ej⟩, -, -, -, hl, -⟩ := h.2.2.2 d hd
  have ej : vd W 0 d = nI j := ej
  have e5 : V (11 + 2 * (vd W 0 d).toNatClampNeg) = W (11 + 2 * (vd W 0 d).toNatClampNeg) := by
    rw [ej, nI_clamp (by omega)]
    exact f _ (by omega) (by omega)
  have e7 : lwF V d = lwF W d := by
    unfold lwF
    rw [e 4 (by decide) d (by omega)]
    rcases hl with z | ⟨i, hi, z⟩
    · have z : vd W 4 d = -1 := z
      rw [z]
      simp
    · have z : vd W 4 d = nI i := z
      rw [z, nI_clamp (by omega), e 5 (by decide) i (by omega)]
  have e0 := e 0 (by decide) d (by omega)
  have e1 := e 1 (by decide) d (by omega)
  have e2 := e 2 (by decide) d (by omega)
  have e3 := e 3 (by decide) d (by omega)
  have e4 : V 4 = W 4 := f 4 (by decide) (by decide)
  funext k
  rcases k with _ | _ | _ | _ | _ | _ | _ | _ | _ | n
  all_goals simp only [factW, e0, e1, e2, e3, e4, e5, e7]
theorem sumR_log {kind : Int32} (h : Rg W) (hd : d < dn W) (f : ∀ k, k < 95 → k ≠ 9 → V k = W k) (g : ∀ k, 335 ≤ k → V k = W k) : sumR V cd fa fn nl d kind = sumR W cd fa fn nl d kind := by
  unfold sumR
  rw [factW_log h hd f]
  exact sumL_congr fun i _ => ⟨g _ (by omega), g _ (by omega)⟩
theorem shameR_log (h : Rg W) (hd : d < dn W) (f : ∀ k, k < 95 → k ≠ 9 → V k = W k) (g : ∀ k, 335 ≤ k → V k = W k) : shameR V cd fa fn nl d = shameR W cd fa fn nl d := by
  have h12 := h.1.2.1
  unfold shameR
  rw [sumR_log h hd f g, sumR_log h hd f g, show vd V 2 d = vd W 2 d from f _ (by omega) (by omega)]
def shf (W : Nat → Int32) (b : Nat) : Nat → Int32 := fun j => if b < j ∧ j < 335 then W (j - 4) else W j
theorem shf_s {b : Nat} (h : 99 ≤ b) (h2 : b < 335) : ud (shf W b) b (shf W b (b - 4)) = shf W (b - 1) := by
  funext j
  unfold shf
  by_cases c : j = b
  · subst c
    rw [ud_at, if_neg (by omega), if_pos ⟨by omega, h2⟩]
  · rw [ud_ne c]
    by_cases c2 : b < j ∧ j < 335
    · rw [if_pos c2, if_pos ⟨by omega, c2.2⟩]
    · rw [if_neg c2, if_neg (fun z => c2 ⟨by omega, z.2⟩)]
theorem h_tells (hG : Rg (I 421)) (hd : d < dn (I 421)) (hL : LawR (I 421) nl len cd fa fn) {x : Int32} : Sp S m_X12_tells 21 0 0 [.ref 420, .int (nI d), .int x] (hp I L w1 w2 t) (fun v h' => v = none ∧ ∃ J, h' = hp J L w1 w2 t ∧ (∀ q, q ≠ 421 → q ≠ 428 → J q = I q) ∧ J 421 = tell (I 421) (I 421 5) (nI d) x (shameR (I 421) cd fa fn nl d)) nX := by
  generalize hW : I 421 = W at hG hd hL ⊢
  have h12 := hG.1.2.1
  have h6 := hG.1.1
  refine Sp_of ok_X12_tells rfl rfl ?_
  show AW S m_X12_tells 21 _ _ 0 0 0 [some (.ref 420), some (.int (nI d)), some (.int x), none] [] (hp I L w1 w2 t)
  refine a_s rfl rfl ?_
  refine a_s3 rfl rfl rfl rfl rfl rfl ?_
  refine a_inv (n := 236) (fun m ls h => ∃ I', ls = [some (.ref 420), some (.int (nI d)), some (.int x), some (.int (nI (m + 3)))] ∧ h = hp I' L w1 w2 t ∧ I' 421 = shf W (95 + (m + 3)) ∧ (∀ q, q ≠ 421 → I' q = I q) ∧ m ≤ 236) ⟨_, rfl, rfl, ?_, fun _ _ => rfl, by decide⟩ ?_
  · rw [hW]
    funext j
    unfold shf
    rw [if_neg (by omega)]
  rintro m _ _ ⟨I1, rfl, rfl, e1, hf, hm⟩ ih
  refine a_l3 rfl rfl rfl ?_
  refine a_s rfl rfl ?_
  refine a_ic_lt rfl (fun c => ?_) (fun c => ?_)
  rotate_left
  · have h4 : 4 ≤ m + 3 := nI_le_of (a := 4) (b := m + 3) c (by decide) (by omega)
    refine a_l0 rfl rfl rfl ?_
    refine a_getq rfl gfX12_13_12 rfl (rfl) ?_
    refine a_s rfl rfl ?_
    refine a_l3 rfl rfl rfl ?_
    refine a_s rfl rfl ?_
    refine a_top (y := nI (95 + (m + 3))) (nI_addl 95 (m + 3)) ?_
    refine a_l0 rfl rfl rfl ?_
    refine a_getq rfl gfX12_13_12 rfl (rfl) ?_
    refine a_s rfl rfl ?_
    refine a_l3 rfl rfl rfl ?_
    refine a_s rfl rfl ?_
    refine a_s rfl rfl ?_
    refine a_s rfl rfl ?_
    refine a_top (y := nI (95 + (m + 3) - 4)) (by rw [show (95 : Int32) + nI (m + 3) = nI (95 + (m + 3)) from nI_addl 95 (m + 3)]; exact nI_sub (j := 4) (by omega)) ?_
    refine a_ialdv (v := shf W (95 + (m + 3)) (95 + (m + 3) - 4)) rfl (n := 2033) rfl (inI_nI (by omega) (by omega)) (by rw [nI_clamp (by omega), e1]) ?_
    refine a_iastv (k := 95 + (m + 3)) rfl (n := 2033) rfl (inI_nI (by omega) (by omega)) (nI_clamp (by omega)) ?_
    refine a_i3 rfl rfl rfl ?_
    refine a_goto rfl ?_
    refine a_less (ih (m - 1) _ _ (by omega) ⟨_, rfl, rfl, ?_, fun q hq => by rw [up2_row hq]; exact hf q hq, by omega⟩) ⟨rfl, rfl, rfl, ?_, trivial⟩
    · rw [up2_ud, e1, shf_s (by omega) (by omega)]
      congr 1
      omega
    · rw [show m + 3 = m - 1 + 3 + 1 by omega, nI_decm]
  have m0 : m = 0 := by
    have := nI_lt_of (a := m + 3) (b := 4) (Int32.not_le.mpr c) (by omega) (by decide)
    omega
  subst m0
  have e1 : I1 421 = shf W 98 := e1
  have lo : ∀ k, k < 99 → shf W 98 k = W k := fun k hk => by unfold shf; rw [if_neg (by omega)]
  refine a_l0 rfl rfl rfl ?_
  refine a_getq rfl gfX12_13_12 rfl (rfl) ?_
  refine a_s rfl rfl ?_
  refine a_l0 rfl rfl rfl ?_
  refine a_getq rfl gfX12_13_12 rfl (rfl) ?_
  refine a_s rfl rfl ?_
  refine a_ialdv (v := W 5) rfl (n := 2033) rfl ⟨by decide, by decide⟩ ((congrFun e1 5).trans (lo 5 (by decide))) ?_
  refine a_iastv (k := 95) rfl (n := 2033) rfl ⟨by decide, by decide⟩ rfl ?_
  refine a_l0 rfl rfl rfl ?_
  refine a_getq rfl gfX12_13_12 rfl (rfl) ?_
  refine a_s rfl rfl ?_
  refine a_l1 rfl rfl rfl ?_
  refine a_iastv (k := 96) rfl (n := 2033) rfl ⟨by decide, by decide⟩ rfl ?_
  refine a_l0 rfl rfl rfl ?_
  refine a_getq rfl gfX12_13_12 rfl (rfl) ?_
  refine a_s rfl rfl ?_
  refine a_l2 rfl rfl rfl ?_
  refine a_iastv (k := 97) rfl (n := 2033) rfl ⟨by decide, by decide⟩ rfl ?_
  generalize hM : up2 (up2 (up2 I1 421 95 (W 5)) 421 96 (nI d)) 421 97 x = M
  have eM : M 421 = ud (ud (ud (shf W 98) 95 (W 5)) 96 (nI d)) 97 x := by rw [← hM, up2_ud, up2_ud, up2_ud, e1]
  have fM : ∀ q, q ≠ 421 → M q = I q := fun q hq => by rw [← hM, up2_row hq, up2_row hq, up2_row hq]; exact hf q hq
  have lM : ∀ k, k < 95 → k ≠ 9 → M 421 k = W k := fun k hk _ => by rw [eM, ud_ne (by omega), ud_ne (by omega), ud_ne (by omega)]; exact lo k (by omega)
  have hMi : ∀ k, 335 ≤ k → M 421 k = W k := fun k hk => by
    rw [eM, ud_ne (by omega), ud_ne (by omega), ud_ne (by omega)]
    unfold shf
    rw [if_neg (by omega)]
  obtain ⟨gM, pM, dM⟩ := Rg.log hG lM
  refine a_l0 rfl rfl rfl ?_
  refine a_getq rfl gfX12_13_12 rfl (rfl) ?_
  refine a_s rfl rfl ?_
  refine a_l0 rfl rfl rfl ?_
  refine a_l1 rfl rfl rfl ?_
  refine a_gV rfl lX12_318 mo_X12_shamesBy (sp_X12_shamesBy (nd := dn W) (np := pn W) h12 h6 hd (by rw [← dM]; exact gM.so.l) (by rw [← dM, ← pM]; exact gM.so.o) (LawR.eq hL (lM 3 (by decide) (by decide)) hMi)) rfl rfl rfl ⟨12, _, rfl, rfl, rfl⟩ rfl (fun v' h' hv => ?_)
  obtain ⟨rfl, f, rfl⟩ := hv
  refine a_top (y := shameR W cd fa fn nl d) (shameR_log hG hd lM hMi) ?_
  refine a_iastv (k := 98) rfl (n := 2033) rfl ⟨by decide, by decide⟩ rfl ?_
  refine a_l0 rfl rfl rfl ?_
  refine a_getq rfl gfX12_13_12 rfl (rfl) ?_
  refine a_s rfl rfl ?_
  refine a_s rfl rfl ?_
  refine a_l0 rfl rfl rfl ?_
  refine a_getq rfl gfX12_13_12 rfl (rfl) ?_
  refine a_s rfl rfl ?_
  refine a_ialdv (v := W 9) rfl (n := 2033) rfl ⟨by decide, by decide⟩ ?_ ?_
  · show up2 (upr M 428 f) 421 98 (shameR W cd fa fn nl d) 421 9 = W 9
    rw [up2_ne (Or.inr (by decide)), upr_row (by decide), eM, ud_ne (by decide), ud_ne (by decide), ud_ne (by decide)]
    exact lo 9 (by decide)
  refine a_s rfl rfl ?_
  refine a_s rfl rfl ?_
  refine a_min rfl lX12_295 mj_min rfl rfl ?_
  refine a_top (y := mn 60 (W 9 + 1)) (rfl) ?_
  refine a_iastv (k := 9) rfl (n := 2033) rfl ⟨by decide, by decide⟩ rfl ?_
  refine a_vret rfl rfl ⟨rfl, _, rfl, fun q h1 h2 => by rw [up2_row h1, up2_row h1, upr_row h2]; exact fM q h1, ?_⟩
  rw [up2_ud, up2_ud, upr_row (by decide), eM]
  funext j
  unfold tell
  by_cases c99 : 99 ≤ j ∧ j < 335
  · rw [if_pos c99, ud_ne (by omega), ud_ne (by omega), ud_ne (by omega), ud_ne (by omega), ud_ne (by omega)]
    unfold shf
    rw [if_pos ⟨by omega, c99.2⟩]
  rw [if_neg c99]
  by_cases c9 : j = 9
  · subst c9
    rw [ud_at, if_neg (by decide), if_neg (by decide), if_neg (by decide), if_neg (by decide), if_pos rfl]
  rw [ud_ne c9]
  by_cases c8 : j = 98
  · subst c8
    rw [ud_at, if_neg (by decide), if_neg (by decide), if_neg (by decide), if_pos rfl]
  rw [ud_ne c8]
  by_cases c7 : j = 97
  · subst c7
    rw [ud_at, if_neg (by decide), if_neg (by decide), if_pos rfl]
  rw [ud_ne c7]
  by_cases c6 : j = 96
  · subst c6
    rw [ud_at, if_neg (by decide), if_pos rfl]
  rw [ud_ne c6]
  by_cases c5 : j = 95
  · subst c5
    rw [ud_at, if_pos rfl]
  rw [ud_ne c5, if_neg c5, if_neg c6, if_neg c7, if_neg c8, if_neg c9]
  unfold shf
  rw [if_neg (by omega)]
end T79zc
end
section
/-! ===== the parade: each place has one duty at most ===== -/
section T79zd
variable {S : aS} {I : Nat → Nat → Int32} {L : Nat → Nat → Int64} {w1 w2 t : Nat} {d e k nl len : Nat} {cd fa fn : Nat → Nat} {W V : Nat → Int32}
set_option maxRecDepth 100000
def pl (W : Nat → Int32) (d : Nat) : Int32 := placeF (dn W) (vd W 5) (vd W 2) (nI d)
theorem cnt_le {P Q : Nat → Bool} : ∀ {n : Nat}, (∀ x, x < n → P x = true → Q x = true) → cntF n P ≤ cntF n Q := by
  intro n
  induction n with
  | zero => exact fun _ => Nat.le_refl _
  | succ n ih =>
    intro h
    have ih := ih fun x hx => h x (by omega)
    cases hp : P n with
    | false =>
      rw [cntF_f hp]
      cases hq : Q n with
      | false => rw [cntF_f hq]; exact ih
      | true => rw [cntF_t hq]; omega
    | true =>
      rw [cntF_t hp, cntF_t (h n (Nat.lt_succ_self n) hp)]
      omega
theorem cnt_lt {P Q : Nat → Bool} : ∀ {n : Nat}, (∀ x, x < n → P x = true → Q x = true) → (∃ x, x < n ∧ Q x = true ∧ P x = false) → cntF n P < cntF n Q := by
  intro n
  induction n with
  | zero =>
    rintro _ ⟨x, hx, -⟩
    exact absurd hx (Nat.not_lt_zero _)
  | succ n ih =>
    rintro h ⟨x, hx, q, p⟩
    have hl := cnt_le (n := n) fun y hy => h y (by omega)
    by_cases c : x = n
    · subst c
      rw [cntF_f p, cntF_t q]
      omega
    · have ih := ih (fun y hy => h y (by omega)) ⟨x, by omega, q, p⟩
      cases hp : P n with
      | false =>
        rw [cntF_f hp]
        cases hq : Q n with
        | false => rw [cntF_f hq]; exact ih
        | true => rw [cntF_t hq]; omega
      | true =>
        rw [cntF_t hp, cntF_t (h n (Nat.lt_succ_self n) hp)]
        omega
theorem pl_no (h12 : dn W ≤ 12) (hd : d < dn W) (h : ¬ vd W 5 d = 0) : pl W d = -1 := by
  unfold pl placeF
  rw [waitF_nI hd h12, decide_eq_false h, if_neg Bool.false_ne_true]
theorem pl_is (h12 : dn W ≤ 12) (hd : d < dn W) (h : vd W 5 d = 0) : pl W d = nI (cntF (dn W) (fun x => decide (vd W 5 x = 0 ∧ (vd W 2 x < vd W 2 d ∨ (vd W 2 x = vd W 2 d ∧ nI x < nI d))))) := by
  unfold pl placeF placeC
  rw [waitF_nI hd h12, decide_eq_true h, if_pos rfl, atF_nI (show d < 12 by omega) (by decide)]
theorem nI_no {m : Nat} (h : m < 2 ^ 31) : ¬ nI m = -1 := fun z => by
  have := nI_pos h
  rw [z] at this
  exact this (by decide)
theorem bf_irr {x : Int32} : ¬ (x < x) := fun z => Int32.lt_irrefl z
/-- who goes ahead has the lesser place -/
theorem pl_lt (h12 : dn W ≤ 12) (hd : d < dn W) (he : e < dn W) (h1 : vd W 5 d = 0) (h : vd W 2 d < vd W 2 e ∨ (vd W 2 d = vd W 2 e ∧ d < e)) : cntF (dn W) (fun x => decide (vd W 5 x = 0 ∧ (vd W 2 x < vd W 2 d ∨ (vd W 2 x = vd W 2 d ∧ nI x < nI d)))) < cntF (dn W) (fun x => decide (vd W 5 x = 0 ∧ (vd W 2 x < vd W 2 e ∨ (vd W 2 x = vd W 2 e ∧ nI x < nI e)))) := by
  have ix : ∀ {x y : Nat}, x < 12 → y < 12 → (nI x < nI y ↔ x < y) := fun hx hy => nI_lt_iff (by omega) (by omega)
  refine cnt_lt (fun x hx z => ?_) ⟨d, hd, ?_, ?_⟩
  · obtain ⟨z1, z2⟩ := of_decide_eq_true z
    refine decide_eq_true ⟨z1, ?_⟩
    rcases z2 with z2 | ⟨z2, z3⟩
    · rcases h with h | ⟨h, h'⟩
      · exact Or.inl (Int32.lt_trans z2 h)
      · exact Or.inl (h ▸ z2)
    · rcases h with h | ⟨h, h'⟩
      · exact Or.inl (z2 ▸ h)
      · exact Or.inr ⟨z2.trans h, (ix (by omega) (by omega)).mpr (by have := (ix (by omega) (by omega)).mp z3; omega)⟩
  · refine decide_eq_true ⟨h1, ?_⟩
    rcases h with h | ⟨h, h'⟩
    · exact Or.inl h
    · exact Or.inr ⟨h, (ix (by omega) (by omega)).mpr h'⟩
  · refine decide_eq_false fun z => ?_
    rcases z.2 with z | ⟨-, z⟩
    · exact bf_irr z
    · exact bf_irr z
theorem pl_inj (h12 : dn W ≤ 12) (hd : d < dn W) (he : e < dn W) (h1 : vd W 5 d = 0) (h2 : vd W 5 e = 0) (h : pl W d = pl W e) : d = e := by
  rw [pl_is h12 hd h1, pl_is h12 he h2] at h
  have c1 := cntF_le (dn W) (fun x => decide (vd W 5 x = 0 ∧ (vd W 2 x < vd W 2 d ∨ (vd W 2 x = vd W 2 d ∧ nI x < nI d))))
  have c2 := cntF_le (dn W) (fun x => decide (vd W 5 x = 0 ∧ (vd W 2 x < vd W 2 e ∨ (vd W 2 x = vd W 2 e ∧ nI x < nI e))))
  have h := nI_inj (by omega) (by omega) h
  by_cases c : d = e
  · exact c
  exfalso
  by_cases a1 : vd W 2 d < vd W 2 e
  · have := pl_lt h12 hd he h1 (Or.inl a1)
    omega
  by_cases a2 : vd W 2 e < vd W 2 d
  · have := pl_lt h12 he hd h2 (Or.inl a2)
    omega
  have a3 : vd W 2 d = vd W 2 e := Int32.le_antisymm (Int32.not_lt.mp a2) (Int32.not_lt.mp a1)
  rcases Nat.lt_or_gt_of_ne c with g | g
  · have := pl_lt h12 hd he h1 (Or.inr ⟨a3, g⟩)
    omega
  · have := pl_lt h12 he hd h2 (Or.inr ⟨a3.symm, g⟩)
    omega
theorem pl_bd (h12 : dn W ≤ 12) (hd : d < dn W) {k : Nat} (hk : k < 2 ^ 31) (h : pl W d = nI k) : vd W 5 d = 0 ∧ k < dn W := by
  by_cases h1 : vd W 5 d = 0
  · refine ⟨h1, ?_⟩
    have c2 := cntF_le (dn W) (fun x => decide (vd W 5 x = 0 ∧ (vd W 2 x < vd W 2 d ∨ (vd W 2 x = vd W 2 d ∧ nI x < nI d))))
    rw [pl_is h12 hd h1] at h
    have h := nI_inj (by omega) hk h
    have c3 : cntF (dn W) (fun x => decide (vd W 5 x = 0 ∧ (vd W 2 x < vd W 2 d ∨ (vd W 2 x = vd W 2 d ∧ nI x < nI d)))) < cntF (dn W) (fun _ => true) := by
      refine cnt_lt (fun _ _ _ => rfl) ⟨d, hd, rfl, decide_eq_false fun z => ?_⟩
      rcases z.2 with z | ⟨-, z⟩
      · exact bf_irr z
      · exact bf_irr z
    have c4 := cntF_le (dn W) (fun _ => true)
    omega
  · rw [pl_no h12 hd h1] at h
    exact absurd h.symm (nI_no hk)
theorem pl_log (hG : Rg W) (hd : d < dn W) (f : ∀ k, k < 95 → k ≠ 9 → V k = W k) : pl V d = pl W d := by
  have h12 := hG.1.2.1
  obtain ⟨-, -, eV⟩ := Rg.log hG f
  have e5 : ∀ x, x < dn W → vd V 5 x = vd W 5 x := fun x hx => f _ (by omega) (by omega)
  have e2 : ∀ x, x < dn W → vd V 2 x = vd W 2 x := fun x hx => f _ (by omega) (by omega)
  by_cases c : vd W 5 d = 0
  · rw [pl_is h12 hd c, pl_is (by rw [eV]; exact h12) (by rw [eV]; exact hd) (by rw [e5 d hd]; exact c), eV]
    congr 1
    refine cntF_congr fun x hx => ?_
    rw [e5 x hx, e2 x hx, e2 d hd]
  · rw [pl_no h12 hd c, pl_no (by rw [eV]; exact h12) (by rw [eV]; exact hd) (by rw [e5 d hd]; exact c)]
/-- the duty at a place -/
def dtF (W : Nat → Int32) (k : Nat) : Nat → Int32
  | 0 => -1
  | n + 1 => if dtF W k n = -1 then (if pl W n = nI k then nI n else -1) else dtF W k n
theorem dtF_ix {k : Nat} : ∀ n, n ≤ 12 → dtF W k n = -1 ∨ ∃ d, d < n ∧ dtF W k n = nI d ∧ pl W d = nI k := by
  intro n
  induction n with
  | zero => exact fun _ => Or.inl rfl
  | succ n ih =>
    intro hn
    unfold dtF
    rcases ih (by omega) with z | ⟨d, d1, d2, d3⟩
    · rw [if_pos z]
      by_cases c : pl W n = nI k
      · rw [if_pos c]
        exact Or.inr ⟨n, Nat.lt_succ_self n, rfl, c⟩
      · rw [if_neg c]
        exact Or.inl rfl
    · rw [d2, if_neg (nI_no (by omega))]
      exact Or.inr ⟨d, by omega, rfl, d3⟩
/-- a place goes by -/
def lt1 (cd fa fn : Nat → Nat) (nl : Nat) (W : Nat → Int32) (k : Nat) : Nat → Int32 := if dtF W k (dn W) = -1 then W else tell W (W 5) (dtF W k (dn W)) (nI k) (shameR W cd fa fn nl (ixN (dtF W k (dn W))))
def ltF (cd fa fn : Nat → Nat) (nl : Nat) (W : Nat → Int32) : Nat → Nat → Int32
  | 0 => W
  | n + 1 => lt1 cd fa fn nl (ltF cd fa fn nl W n) n
theorem lt1_lo {k j : Nat} (h : j < 95 ∨ 335 ≤ j) (h9 : j ≠ 9) : lt1 cd fa fn nl W k j = W j := by
  unfold lt1
  by_cases c : dtF W k (dn W) = -1
  · rw [if_pos c]
  · rw [if_neg c, tell_lo h h9]
theorem ltF_lo {n j : Nat} (h : j < 95 ∨ 335 ≤ j) (h9 : j ≠ 9) : ltF cd fa fn nl W n j = W j := by
  induction n with
  | zero => rfl
  | succ n ih =>
    show lt1 cd fa fn nl (ltF cd fa fn nl W n) n j = W j
    rw [lt1_lo h h9, ih]
theorem f_dutyAt (hD : Sd I 235 W) (hG : Rg W) {k : Nat} (hk : k < 2 ^ 31) : SpE S m_X5_dutyAt 16 [.ref 235, .int (nI k)] (hp I L w1 w2 t) (some (.int (dtF W k (dn W)))) (hp I L w1 w2 t) := by
  have h12 := hG.1.2.1
  have hd3 : I 235 3 = nI (dn W) := (Sd.fd hD (f := 3) (g := 1) (by decide)).trans hG.1.2.2.2
  refine SpE_of ok_X5_dutyAt rfl rfl ?_
  show AW S m_X5_dutyAt 16 _ _ 0 0 0 [some (.ref 235), some (.int (nI k)), none] [] (hp I L w1 w2 t)
  refine a_s rfl rfl ?_
  refine a_s2 rfl rfl rfl rfl rfl rfl ?_
  refine a_inv (n := dn W) (fun m ls h => ∃ j, ls = [some (.ref 235), some (.int (nI k)), some (.int (nI j))] ∧ h = hp I L w1 w2 t ∧ j ≤ dn W ∧ m = dn W - j ∧ dtF W k j = -1) ⟨0, rfl, rfl, Nat.zero_le _, rfl, rfl⟩ ?_
  rintro m _ _ ⟨j, rfl, rfl, hj, hm, hdt⟩ ih
  refine a_l2 rfl rfl rfl ?_
  refine a_l0 rfl rfl rfl ?_
  refine a_getiv (v := nI (dn W)) rfl gfX5_63_5 rfl (hd3) ?_
  refine a_ic_ge rfl (fun c => ?_) (fun c => ?_)
  · have hge := nI_ge_of c (by omega) (by omega)
    obtain rfl : j = dn W := by omega
    refine a_s rfl rfl ?_
    exact a_iret rfl rfl ⟨by rw [hdt], rfl⟩
  have hjn := nI_lt_of c (by omega) (by omega)
  have skip : ¬ pl W j = nI k → AW S m_X5_dutyAt 16 (fun v h' => v = some (.int (dtF W k (dn W))) ∧ h' = hp I L w1 w2 t) (fun _ _ => False) 0 0 29 [some (.ref 235), some (.int (nI k)), some (.int (nI j))] [] (hp I L w1 w2 t) := by
    intro z
    refine a_iv2 (y := nI (j + 1)) rfl rfl rfl ((nI_succ j).symm) ?_
    refine a_goto rfl ?_
    refine ih (dn W - (j + 1)) _ _ (by omega) ⟨j + 1, rfl, rfl, by omega, rfl, ?_⟩
    unfold dtF
    rw [if_pos hdt, if_neg z]
  refine a_l0 rfl rfl rfl ?_
  refine a_l2 rfl rfl rfl ?_
  refine a_eV1 rfl lX5_90 mo_X5_isWaiting (sp_X5_isWaiting (nd := dn W) (a := 235) (by decide) hd3 h12) rfl rfl rfl ⟨5, _, rfl, rfl, rfl⟩ rfl ?_
  rw [wait_same hD hG hjn]
  by_cases c0 : vd W 5 j = 0
  rotate_left
  · rw [decide_eq_false c0]
    refine a_if_eq rfl (fun _ => ?_) (fun z => absurd rfl z)
    exact skip (fun z => by rw [pl_no h12 hjn c0] at z; exact nI_no hk z.symm)
  rw [decide_eq_true c0]
  refine a_if_eq rfl (fun z => absurd z (by decide)) (fun _ => ?_)
  refine a_l0 rfl rfl rfl ?_
  refine a_l2 rfl rfl rfl ?_
  refine a_eV1 rfl lX5_113 mo_X5_placeOf (sp_X5_placeOf (nd := dn W) (a := 235) (by decide) hd3 h12) rfl rfl rfl ⟨5, _, rfl, rfl, rfl⟩ rfl ?_
  rw [place_same hD hG hjn]
  refine a_l1 rfl rfl rfl ?_
  refine a_ic_ne rfl (fun c2 => skip c2) (fun c2 => ?_)
  refine a_l2 rfl rfl rfl ?_
  refine a_iret rfl rfl ⟨?_, rfl⟩
  have key : ∀ i, dtF W k (j + 1 + i) = nI j := by
    intro i
    induction i with
    | zero =>
      show dtF W k (j + 1) = nI j
      unfold dtF
      rw [if_pos hdt]
      exact if_pos c2
    | succ i ih =>
      show dtF W k ((j + 1 + i) + 1) = nI j
      unfold dtF
      rw [ih, if_neg (nI_no (by omega))]
  rw [show dn W = j + 1 + (dn W - (j + 1)) by omega, key]
end T79zd
end
section
/-! ===== the parade goes by, on both sides ===== -/
section T79ze
variable {S : aS} {I : Nat → Nat → Int32} {L : Nat → Nat → Int64} {w1 w2 t : Nat} {nl len : Nat} {cd fa fn : Nat → Nat} {W : Nat → Int32}
set_option maxRecDepth 100000
def inG (cd fa fn : Nat → Nat) (nl : Nat) (W : Nat → Int32) (k n : Nat) : Nat → Int32 := if dtF W k n = -1 then W else tell W (W 5) (dtF W k n) (nI k) (shameR W cd fa fn nl (ixN (dtF W k n)))
theorem inG_lo {k n j : Nat} (h : j < 95 ∨ 335 ≤ j) (h9 : j ≠ 9) : inG cd fa fn nl W k n j = W j := by
  unfold inG
  by_cases c : dtF W k n = -1
  · rw [if_pos c]
  · rw [if_neg c, tell_lo h h9]
theorem ltF_rg (hG : Rg W) {n : Nat} : Rg (ltF cd fa fn nl W n) ∧ pn (ltF cd fa fn nl W n) = pn W ∧ dn (ltF cd fa fn nl W n) = dn W := Rg.log hG fun k h1 h9 => ltF_lo (Or.inl h1) h9
theorem lt1_no (hG : Rg W) {k : Nat} (hk : dn W ≤ k) (h2 : k < 2 ^ 31) : lt1 cd fa fn nl W k = W := by
  have h12 := hG.1.2.1
  unfold lt1
  rcases dtF_ix (W := W) (k := k) (dn W) h12 with z | ⟨d, d1, d2, d3⟩
  · rw [if_pos z]
  · have := (pl_bd h12 d1 h2 d3).2
    omega
theorem ltF_all (hG : Rg W) : ∀ i, dn W + i ≤ 12 → ltF cd fa fn nl W (dn W + i) = ltF cd fa fn nl W (dn W) := by
  intro i
  induction i with
  | zero => exact fun _ => rfl
  | succ i ih =>
    intro h
    have ih := ih (by omega)
    show lt1 cd fa fn nl (ltF cd fa fn nl W (dn W + i)) (dn W + i) = _
    obtain ⟨g1, -, g3⟩ := ltF_rg (cd := cd) (fa := fa) (fn := fn) (nl := nl) hG (n := dn W + i)
    rw [lt1_no g1 (by rw [g3]; omega) (by omega), ih]
theorem h_goesBy (hG : Rg (I 421)) (hL : LawR (I 421) nl len cd fa fn) : Sp S m_X12_goesBy 22 0 0 [.ref 420] (hp I L w1 w2 t) (fun v h' => v = none ∧ ∃ J, h' = hp J L w1 w2 t ∧ (∀ q, q ≠ 421 → q ≠ 428 → J q = I q) ∧ J 421 = ltF cd fa fn nl (I 421) (dn (I 421))) nX := by
  generalize hW : I 421 = W at hG hL ⊢
  have h12 := hG.1.2.1
  refine Sp_of ok_X12_goesBy rfl rfl ?_
  show AW S m_X12_goesBy 22 _ _ 0 0 0 [some (.ref 420), none, none] [] (hp I L w1 w2 t)
  refine a_s rfl rfl ?_
  refine a_s1 rfl rfl rfl rfl rfl rfl ?_
  refine a_inv (n := dn W) (fun m ls h => ∃ k J, ls = [some (.ref 420), some (.int (nI k)), none] ∧ h = hp J L w1 w2 t ∧ k ≤ dn W ∧ m = dn W - k ∧ J 421 = ltF cd fa fn nl W k ∧ ∀ q, q ≠ 421 → q ≠ 428 → J q = I q) ⟨0, I, rfl, rfl, Nat.zero_le _, rfl, hW, fun _ _ _ => rfl⟩ ?_
  rintro m _ _ ⟨k, J, rfl, rfl, hk, hm, eJ, hf⟩ ih
  obtain ⟨gV, pV, dV⟩ := ltF_rg (cd := cd) (fa := fa) (fn := fn) (nl := nl) hG (n := k)
  have lawV : LawR (ltF cd fa fn nl W k) nl len cd fa fn := LawR.eq hL (ltF_lo (Or.inl (by decide)) (by decide)) (fun j hj => ltF_lo (Or.inr hj) (by omega))
  have es : ltF cd fa fn nl W (k + 1) = lt1 cd fa fn nl (ltF cd fa fn nl W k) k := rfl
  refine a_l1 rfl rfl rfl ?_
  refine a_l0 rfl rfl rfl ?_
  refine a_eV1 rfl lX12_74 mo_X12_duties sp_X12_duties rfl rfl rfl ⟨12, _, rfl, rfl, rfl⟩ rfl ?_
  refine a_top (y := nI (dn W)) (by rw [eJ, gV.1.2.2.2, dV]) ?_
  refine a_ic_ge rfl (fun c => ?_) (fun c => ?_)
  · have hge := nI_ge_of c (by omega) (by omega)
    obtain rfl : k = dn W := by omega
    exact a_vret rfl rfl ⟨rfl, J, rfl, hf, eJ⟩
  have hkn := nI_lt_of c (by omega) (by omega)
  have on : ∀ (K : Nat → Nat → Int32) (v : Option Value), K 421 = ltF cd fa fn nl W (k + 1) → (∀ q, q ≠ 421 → q ≠ 428 → K q = I q) → AW S m_X12_goesBy 22 (fun v h' => v = none ∧ ∃ J, h' = hp J L w1 w2 t ∧ (∀ q, q ≠ 421 → q ≠ 428 → J q = I q) ∧ J 421 = ltF cd fa fn nl W (dn W)) nX 0 0 41 [some (.ref 420), some (.int (nI k)), v] [] (hp K L w1 w2 t) := by
    intro K v hK hfK
    refine a_iv1 (y := nI (k + 1)) rfl rfl rfl ((nI_succ k).symm) ?_
    refine a_goto rfl ?_
    exact a_less (ih (dn W - (k + 1)) _ _ (by omega) ⟨k + 1, K, rfl, rfl, by omega, rfl, hK, hfK⟩) ⟨rfl, rfl, trivial⟩
  generalize ltF cd fa fn nl W k = V at eJ gV pV dV lawV es
  clear ih hm
  refine a_s rfl rfl ?_
  refine a_s2 rfl rfl rfl rfl rfl rfl ?_
  refine a_inv (n := dn W) (fun m ls h => ∃ d K, ls = [some (.ref 420), some (.int (nI k)), some (.int (nI d))] ∧ h = hp K L w1 w2 t ∧ d ≤ dn W ∧ m = dn W - d ∧ K 421 = inG cd fa fn nl V k d ∧ ∀ q, q ≠ 421 → q ≠ 428 → K q = I q) ⟨0, J, rfl, rfl, Nat.zero_le _, rfl, eJ, hf⟩ ?_
  rintro m _ _ ⟨d, K, rfl, rfl, hd, hm, eK, hfK⟩ ih
  have lo : ∀ j, j < 95 → j ≠ 9 → K 421 j = V j := fun j h1 h9 => by rw [eK]; exact inG_lo (Or.inl h1) h9
  have hi : ∀ j, 335 ≤ j → K 421 j = V j := fun j h1 => by rw [eK]; exact inG_lo (Or.inr h1) (by omega)
  obtain ⟨gK, pK, dK⟩ := Rg.log gV lo
  refine a_l2 rfl rfl rfl ?_
  refine a_l0 rfl rfl rfl ?_
  refine a_eV1 rfl lX12_74 mo_X12_duties sp_X12_duties rfl rfl rfl ⟨12, _, rfl, rfl, rfl⟩ rfl ?_
  refine a_top (y := nI (dn W)) (by rw [gK.1.2.2.2, dK, dV]) ?_
  refine a_ic_ge rfl (fun c => ?_) (fun c => ?_)
  · have hge := nI_ge_of c (by omega) (by omega)
    obtain rfl : d = dn W := by omega
    refine on K _ ?_ hfK
    rw [es, eK]
    unfold inG lt1
    rw [dV]
  have hdn := nI_lt_of c (by omega) (by omega)
  have eds : dtF V k (d + 1) = if dtF V k d = -1 then (if pl V d = nI k then nI d else -1) else dtF V k d := rfl
  refine a_l0 rfl rfl rfl ?_
  refine a_l2 rfl rfl rfl ?_
  refine a_eV1 rfl lX12_283 mo_X12_placeOf (sp_X12_placeOf (nd := dn W) h12 (by rw [gK.1.2.2.2, dK, dV]) hdn) rfl rfl rfl ⟨12, _, rfl, rfl, rfl⟩ rfl ?_
  refine a_top (y := pl V d) (by rw [← pl_log gV (by rw [dV]; exact hdn) lo]; unfold pl; rw [dK, dV]) ?_
  refine a_l1 rfl rfl rfl ?_
  refine a_ic_ne rfl (fun c2 => ?_) (fun c2 => ?_)
  · refine a_iv2 (y := nI (d + 1)) rfl rfl rfl ((nI_succ d).symm) ?_
    refine a_goto rfl ?_
    refine ih (dn W - (d + 1)) _ _ (by omega) ⟨d + 1, K, rfl, rfl, by omega, rfl, ?_, hfK⟩
    have ed : dtF V k (d + 1) = dtF V k d := by
      rw [eds, if_neg c2]
      by_cases cz : dtF V k d = -1
      · rw [if_pos cz, cz]
      · rw [if_neg cz]
    rw [eK]
    unfold inG
    rw [ed]
  have hpd := pl_bd (by rw [dV]; exact h12) (by rw [dV]; exact hdn) (show k < 2 ^ 31 by omega) c2
  have cz : dtF V k d = -1 := by
    rcases dtF_ix (W := V) (k := k) d (by omega) with z | ⟨e, e1, e2, e3⟩
    · exact z
    · exfalso
      have hpe := pl_bd (W := V) (d := e) (by rw [dV]; exact h12) (by rw [dV]; omega) (show k < 2 ^ 31 by omega) e3
      have := pl_inj (by rw [dV]; exact h12) (by rw [dV]; omega) (by rw [dV]; exact hdn) hpe.1 hpd.1 (e3.trans c2.symm)
      omega
  have eKV : K 421 = V := by
    rw [eK]
    unfold inG
    rw [if_pos cz]
  refine a_l0 rfl rfl rfl ?_
  refine a_l2 rfl rfl rfl ?_
  refine a_l1 rfl rfl rfl ?_
  refine a_gV rfl lX12_370 mo_X12_tells (h_tells (d := d) (nl := nl) (len := len) (cd := cd) (fa := fa) (fn := fn) (by rw [eKV]; exact gV) (by rw [eKV, dV]; exact hdn) (by rw [eKV]; exact lawV)) rfl rfl rfl ⟨12, _, rfl, rfl, rfl⟩ rfl (fun v' h' hv => ?_)
  obtain ⟨rfl, K2, rfl, hf2, eK2⟩ := hv
  refine a_iv2 (y := nI (d + 1)) rfl rfl rfl ((nI_succ d).symm) ?_
  refine a_goto rfl ?_
  refine ih (dn W - (d + 1)) _ _ (by omega) ⟨d + 1, K2, rfl, rfl, by omega, rfl, ?_, fun q h1 h2 => (hf2 q h1 h2).trans (hfK q h1 h2)⟩
  rw [eK2, eKV]
  unfold inG
  rw [eds, if_pos cz, if_pos c2, if_neg (nI_no (by omega)), ixN_nI (by omega)]
theorem f_parade (hD : Sd I 235 W) (hLg : Lg I 235 W) (hG : Rg W) (hL : LwS I 246 W nl len cd fa fn) : Sp S m_X11_letParadeGoBy 18 0 0 [.ref 200] (hp I L w1 w2 t) (fun v h' => v = none ∧ ∃ J, h' = hp J L w1 w2 t ∧ (∀ q, q ≠ 244 → q ≠ 245 → q ≠ 252 → q ≠ 253 → J q = I q) ∧ Sd J 235 (ltF cd fa fn nl W (dn W)) ∧ Lg J 235 (ltF cd fa fn nl W (dn W))) nX := by
  have h12 := hG.1.2.1
  refine Sp_of ok_X11_letParadeGoBy rfl rfl ?_
  show AW S m_X11_letParadeGoBy 18 _ _ 0 0 0 [some (.ref 200), none, none] [] (hp I L w1 w2 t)
  refine a_s rfl rfl ?_
  refine a_s1 rfl rfl rfl rfl rfl rfl ?_
  refine a_inv (n := 12) (fun m ls h => ∃ k J, ls = [some (.ref 200), some (.int (nI k)), none] ∧ h = hp J L w1 w2 t ∧ k ≤ 12 ∧ m = 12 - k ∧ Sd J 235 (ltF cd fa fn nl W k) ∧ Lg J 235 (ltF cd fa fn nl W k) ∧ ∀ q, q ≠ 244 → q ≠ 245 → q ≠ 252 → q ≠ 253 → J q = I q) ⟨0, I, rfl, rfl, Nat.zero_le _, rfl, hD, hLg, fun _ _ _ _ _ => rfl⟩ ?_
  rintro m _ _ ⟨k, J, rfl, rfl, hk, hm, DJ, LJ, hf⟩ ih
  refine a_l1 rfl rfl rfl ?_
  refine a_s rfl rfl ?_
  refine a_ic_ge rfl (fun c => ?_) (fun c => ?_)
  · have hge := nI_ge_of (b := 12) c (by omega) (by decide)
    obtain rfl : k = 12 := by omega
    have e := ltF_all (cd := cd) (fa := fa) (fn := fn) (nl := nl) hG (12 - dn W) (by omega)
    rw [show dn W + (12 - dn W) = 12 by omega] at e
    rw [e] at DJ LJ
    exact a_vret rfl rfl ⟨rfl, J, rfl, hf, DJ, LJ⟩
  have hk12 := nI_lt_of (b := 12) c (by omega) (by decide)
  obtain ⟨gV, pV, dV⟩ := ltF_rg (cd := cd) (fa := fa) (fn := fn) (nl := nl) hG (n := k)
  have lawV : LwS J 246 (ltF cd fa fn nl W k) nl len cd fa fn := LwS.eq hL (fun q g1 g2 => hf q (by omega) (by omega) (by omega) (by omega)) (ltF_lo (Or.inl (by decide)) (by decide)) (fun j hj => ltF_lo (Or.inr hj) (by omega))
  have es : ltF cd fa fn nl W (k + 1) = lt1 cd fa fn nl (ltF cd fa fn nl W k) k := rfl
  have on : ∀ (K : Nat → Nat → Int32) (v : Option Value), Sd K 235 (ltF cd fa fn nl W (k + 1)) → Lg K 235 (ltF cd fa fn nl W (k + 1)) → (∀ q, q ≠ 244 → q ≠ 245 → q ≠ 252 → q ≠ 253 → K q = I q) → AW S m_X11_letParadeGoBy 18 (fun v h' => v = none ∧ ∃ J, h' = hp J L w1 w2 t ∧ (∀ q, q ≠ 244 → q ≠ 245 → q ≠ 252 → q ≠ 253 → J q = I q) ∧ Sd J 235 (ltF cd fa fn nl W (dn W)) ∧ Lg J 235 (ltF cd fa fn nl W (dn W))) nX 0 0 53 [some (.ref 200), some (.int (nI k)), v] [] (hp K L w1 w2 t) := by
    intro K v hK hLK hfK
    refine a_iv1 (y := nI (k + 1)) rfl rfl rfl ((nI_succ k).symm) ?_
    refine a_goto rfl ?_
    exact a_less (ih (12 - (k + 1)) _ _ (by omega) ⟨k + 1, K, rfl, rfl, by omega, rfl, hK, hLK, hfK⟩) ⟨rfl, rfl, trivial⟩
  generalize ltF cd fa fn nl W k = V at DJ LJ gV pV dV lawV es
  have v12 : dn V ≤ 12 := gV.1.2.1
  refine a_l0 rfl rfl rfl ?_
  refine a_getq rfl gfX11_37_11 rfl (rfl) ?_
  refine a_l1 rfl rfl rfl ?_
  refine a_eV1 rfl lX11_266 mo_X5_dutyAt (f_dutyAt (k := k) DJ gV (by omega)) rfl rfl rfl ⟨5, _, rfl, rfl, rfl⟩ rfl ?_
  refine a_s2 rfl rfl rfl rfl rfl rfl ?_
  refine a_l2 rfl rfl rfl ?_
  refine a_s rfl rfl ?_
  rcases dtF_ix (W := V) (k := k) (dn V) v12 with z | ⟨d, d1, d2, d3⟩
  · refine a_ic_eq rfl (fun _ => ?_) (fun c => absurd z c)
    have e : ltF cd fa fn nl W (k + 1) = V := by
      rw [es]
      unfold lt1
      rw [if_pos z]
    exact on J _ (by rw [e]; exact DJ) (by rw [e]; exact LJ) hf
  rw [d2]
  refine a_ic_eq rfl (fun c => absurd c (nI_no (by omega))) (fun _ => ?_)
  refine a_l0 rfl rfl rfl ?_
  refine a_getq rfl gfX11_37_11 rfl (rfl) ?_
  refine a_getq rfl gfX11_211_5 rfl (rfl) ?_
  refine a_l0 rfl rfl rfl ?_
  refine a_getq rfl gfX11_37_11 rfl (rfl) ?_
  refine a_getiv (v := V 5) rfl gfX11_188_5 rfl (Sd.fd DJ (by decide)) ?_
  refine a_l2 rfl rfl rfl ?_
  refine a_l1 rfl rfl rfl ?_
  refine a_l0 rfl rfl rfl ?_
  refine a_getq rfl gfX11_44_11 rfl (rfl) ?_
  refine a_l0 rfl rfl rfl ?_
  refine a_getq rfl gfX11_37_11 rfl (rfl) ?_
  refine a_l2 rfl rfl rfl ?_
  refine a_gV rfl lX11_170 mo_X2_shameOf (sp_X2_shameOf (a := 235) (b := 246) (d := d) (by decide) (by decide) (by omega) lawV.1) rfl rfl rfl ⟨2, _, rfl, rfl, rfl⟩ rfl (fun v' h' hv => ?_)
  obtain ⟨rfl, K, rfl, hfK⟩ := hv
  refine a_top (y := shameR V cd fa fn nl d) (by unfold shameC shameR; rw [sum_same DJ gV lawV d1, sum_same DJ gV lawV d1, show J (235 + 5) d = vd V 2 d from Sd.row (k := 2) DJ (by omega) (by decide)]) ?_
  obtain ⟨r, n, r60, n60, l0, l1, l9, lr⟩ := LJ
  have k244 : K 244 = J 244 := hfK 244 (by decide) (by decide)
  have k245 : K 245 = J 245 := hfK 245 (by decide) (by decide)
  refine a_eV0 rfl lX11_385 mo_X1_add (f_add (r := r) (n := n) ((congrFun k244 0).trans l0) ((congrFun k244 1).trans l1) n60) rfl rfl rfl ⟨1, _, rfl, rfl, rfl⟩ rfl ?_
  have e : ltF cd fa fn nl W (k + 1) = tell V (V 5) (nI d) (nI k) (shameR V cd fa fn nl d) := by
    rw [es]
    unfold lt1
    rw [d2, if_neg (nI_no (by omega)), ixN_nI (by omega)]
  have fr : ∀ q, q ≠ 244 → q ≠ 245 → adL K n r (V 5) (nI d) (nI k) (shameR V cd fa fn nl d) q = K q := fun q h1 h2 => by
    unfold adL
    rw [up2_row h1, up2_row h1, up2_row h2, up2_row h2, up2_row h2, up2_row h2]
  refine on _ _ ?_ ?_ (fun q h1 h2 h3 h4 => by rw [fr q h1 h2, hfK q h3 h4]; exact hf q h1 h2 h3 h4)
  · rw [e]
    refine Sd.tell (Sd.eq DJ fun q g1 g2 => ?_)
    rw [fr q (by omega) (by omega), hfK q (by omega) (by omega)]
  · rw [e]
    refine Lg.add r60 n60 l9 (fun k' hk' j hj => ?_)
    rw [k245]
    exact lr k' hk' j hj
end T79ze
end
section
/-! ===== days, on both sides ===== -/
section T79zf
variable {S : aS} {I : Nat → Nat → Int32} {L : Nat → Nat → Int64} {w1 w2 t : Nat} {nl len nd np n fa r : Nat} {cd fa' fn : Nat → Nat} {W : Nat → Int32}
set_option maxRecDepth 100000
theorem psF_lg {calm : Bool} (h : DyOk nl W W) {k : Nat} (hk : k = 9 ∨ 95 ≤ k) : ∀ n, n ≤ pn W → (psF calm W n).1 k = W k := by
  intro n
  induction n with
  | zero => exact fun _ => rfl
  | succ n ih =>
    intro hn
    have ih := ih (by omega)
    have ok := psF_ok (calm := calm) h n (by omega)
    have e1 : psW calm (psF calm W n).1 k = (psF calm W n).1 k := by
      unfold psW
      by_cases c : calm = true
      · rw [if_pos c]
      · rw [if_neg c, ud_ne (by omega)]
    show (psS calm (psF calm W n) n).1 k = W k
    unfold psS
    by_cases c : calm = false ∧ rm100 (drawV (seedF ((psF calm W n).1 10))) < (psF calm W n).1 6
    · rw [if_pos c]
      exact e1.trans ih
    · rw [if_neg c]
      have okw := psW_ok (calm := calm) ok
      obtain ⟨-, -, -, -, g5⟩ := WdOk.run (p := nI n) (taken := (psF calm W n).2) (W := psW calm (psF calm W n).1) (s := (psW calm (psF calm W n).1, psW calm (psF calm W n).1 (11 + 2 * n + 1), 0)) ⟨okw.1, rfl, rfl, (okw.1.2.2.1 n (by rw [okw.2.1]; omega)).2, fun _ _ => rfl⟩ (dn (psW calm (psF calm W n).1)) (Nat.le_refl _)
      exact (g5 k (fun d hd => by omega)).trans (e1.trans ih)
theorem nwD_lg {s : Nat → Int32} (h : DyOk nl W s) {k : Nat} (hk : k = 9 ∨ 95 ≤ k) : nwD (gwL cd fa' fn nl) s k = s k := by
  unfold nwD
  by_cases c : 30 < s 4 + 1
  · rw [if_pos c]
    obtain ⟨hG, hp, hd, hL, h3, -⟩ := mth_ok h
    obtain ⟨-, -, -, -, g5⟩ := GwOk.run (cd := cd) (fa := fa') (fn := fn) (nl := nl) ⟨hG, rfl, rfl, hL, fun _ _ => rfl⟩ (dn s) (by rw [hd, h.2.2.1]; exact Nat.le_refl _)
    rw [g5 k (fun d hd => by omega), ud_ne (by omega), ud_ne (by omega), ud_ne (by omega)]
  · rw [if_neg c, ud_ne (by omega)]
theorem dayW_lg {calm : Bool} (h : DyOk nl W W) {k : Nat} (hk : k = 9 ∨ 95 ≤ k) : dayW calm (gwL cd fa' fn nl) W k = W k := (nwD_lg (psF_ok h _ (Nat.le_refl _)) hk).trans (psF_lg h hk _ (Nat.le_refl _))
/-- a day, and the parade on the second -/
def dyP (cd fa fn : Nat → Nat) (nl : Nat) (V : Nat → Int32) : Nat → Int32 := if V 4 = 2 then ltF cd fa fn nl V (dn V) else V
def dsW (calm : Bool) (cd fa fn : Nat → Nat) (nl : Nat) (W : Nat → Int32) : Nat → Nat → Int32
  | 0 => W
  | n + 1 => dyP cd fa fn nl (dayW calm (gwL cd fa fn nl) (dsW calm cd fa fn nl W n))
/-- ranges, and what days never change -/
def DsOk (nl : Nat) (W s : Nat → Int32) : Prop := Rg s ∧ pn s = pn W ∧ dn s = dn W ∧ LwN s nl ∧ s 3 = W 3 ∧ ∀ k, 335 ≤ k → s k = W k
theorem DsOk.dy {s : Nat → Int32} (h : DsOk nl W s) : DyOk nl s s := ⟨h.1, rfl, rfl, h.2.2.2.1, rfl, fun _ _ => rfl⟩
theorem dyP_ok {s V : Nat → Int32} (h : DsOk nl W s) (hV : DyOk nl s V) : DsOk nl W (dyP cd fa' fn nl V) := by
  obtain ⟨g1, g2, g3, g4, g5, g6⟩ := hV
  unfold dyP
  by_cases c : V 4 = 2
  · rw [if_pos c]
    obtain ⟨l1, l2, l3⟩ := ltF_rg (cd := cd) (fa := fa') (fn := fn) (nl := nl) g1 (n := dn V)
    exact ⟨l1, l2.trans (g2.trans h.2.1), l3.trans (g3.trans h.2.2.1), LwN.eq g4 fun k hk => ltF_lo (Or.inr hk) (by omega), (ltF_lo (Or.inl (by decide)) (by decide)).trans (g5.trans h.2.2.2.2.1), fun k hk => (ltF_lo (Or.inr hk) (by omega)).trans ((g6 k hk).trans (h.2.2.2.2.2 k hk))⟩
  · rw [if_neg c]
    exact ⟨g1, g2.trans h.2.1, g3.trans h.2.2.1, g4, g5.trans h.2.2.2.2.1, fun k hk => (g6 k hk).trans (h.2.2.2.2.2 k hk)⟩
theorem dsW_ok {calm : Bool} (h : DsOk nl W W) : ∀ n, DsOk nl W (dsW calm cd fa' fn nl W n) := by
  intro n
  induction n with
  | zero => exact h
  | succ n ih => exact dyP_ok ih (dayW_ok ih.dy)
theorem h_oneDay (h421 : I 421 = W) (hG : Rg W) (hL : LawR W nl len cd fa' fn) (hN : LwN W nl) {calm : Bool} : Sp S m_X12_oneDay 23 0 0 [.ref 420, .int (bI calm)] (hp I L w1 w2 t) (fun v h' => ∃ y, v = some (.int y) ∧ ∃ J, h' = hp J L w1 w2 t ∧ (∀ q, q ≠ 421 → q ≠ 428 → q ≠ 429 → J q = I q) ∧ J 421 = dyP cd fa' fn nl (dayW calm (gwL cd fa' fn nl) W)) nX := by
  refine Sp_of ok_X12_oneDay rfl rfl ?_
  show AW S m_X12_oneDay 23 _ _ 0 0 0 [some (.ref 420), some (.int (bI calm)), none, none] [] (hp I L w1 w2 t)
  refine h_oneDay140 h421 hG hL hN (fun J y u hf eJ => ?_)
  have ok : DyOk nl W (dayW calm (gwL cd fa' fn nl) W) := dayW_ok ⟨hG, rfl, rfl, hN, rfl, fun _ _ => rfl⟩
  generalize dayW calm (gwL cd fa' fn nl) W = V at eJ ok ⊢
  refine a_l0 rfl rfl rfl ?_
  refine a_getq rfl gfX12_13_12 rfl (rfl) ?_
  refine a_s rfl rfl ?_
  refine a_ialdv (v := V 4) rfl (n := 2033) rfl ⟨by decide, by decide⟩ (congrFun eJ 4) ?_
  refine a_s rfl rfl ?_
  refine a_ic_ne rfl (fun c => ?_) (fun c => ?_)
  · refine a_l2 rfl rfl rfl ?_
    exact a_iret rfl rfl ⟨y, rfl, J, rfl, hf, by unfold dyP; rw [if_neg c]; exact eJ⟩
  refine a_l0 rfl rfl rfl ?_
  refine a_gV rfl lX12_382 mo_X12_goesBy (h_goesBy (nl := nl) (len := len) (cd := cd) (fa := fa') (fn := fn) (by rw [eJ]; exact ok.1) (by rw [eJ]; exact LawR.eq hL ok.2.2.2.2.1 ok.2.2.2.2.2)) rfl rfl rfl ⟨12, _, rfl, rfl, rfl⟩ rfl (fun v' h' hv => ?_)
  obtain ⟨rfl, K, rfl, hfK, eK⟩ := hv
  refine a_l2 rfl rfl rfl ?_
  exact a_iret rfl rfl ⟨y, rfl, K, rfl, fun q h1 h2 h3 => (hfK q h1 h2).trans (hf q h1 h2 h3), by unfold dyP; rw [if_pos c, eK, eJ]⟩
theorem h_goesOn (h421 : I 421 = W) (hG : Rg W) (hL : LawR W nl len cd fa' fn) (hN : LwN W nl) {calm : Bool} {m : Nat} (hm : m ≤ 90) : Sp S m_X12_goesOn 24 0 0 [.ref 420, .int (nI m), .int (bI calm)] (hp I L w1 w2 t) (fun v h' => ∃ y, v = some (.int y) ∧ ∃ J, h' = hp J L w1 w2 t ∧ (∀ q, q ≠ 421 → q ≠ 428 → q ≠ 429 → J q = I q) ∧ J 421 = dsW calm cd fa' fn nl W m) nX := by
  have ok0 : DsOk nl W W := ⟨hG, rfl, rfl, hN, rfl, fun _ _ => rfl⟩
  refine Sp_of ok_X12_goesOn rfl rfl ?_
  show AW S m_X12_goesOn 24 _ _ 0 0 0 [some (.ref 420), some (.int (nI m)), some (.int (bI calm)), none, none] [] (hp I L w1 w2 t)
  refine a_s rfl rfl ?_
  refine a_s3 rfl rfl rfl rfl rfl rfl ?_
  refine a_s rfl rfl ?_
  refine a_s4 rfl rfl rfl rfl rfl rfl ?_
  refine a_inv (n := m) (fun i ls h => ∃ j y J, ls = [some (.ref 420), some (.int (nI m)), some (.int (bI calm)), some (.int y), some (.int (nI j))] ∧ h = hp J L w1 w2 t ∧ j ≤ m ∧ i = m - j ∧ J 421 = dsW calm cd fa' fn nl W j ∧ ∀ q, q ≠ 421 → q ≠ 428 → q ≠ 429 → J q = I q) ⟨0, 0, I, rfl, rfl, Nat.zero_le _, rfl, h421, fun _ _ _ _ => rfl⟩ ?_
  rintro i _ _ ⟨j, y, J, rfl, rfl, hj, hi, eJ, hf⟩ ih
  refine a_l4 rfl rfl rfl ?_
  refine a_l1 rfl rfl rfl ?_
  refine a_ic_ge rfl (fun c => ?_) (fun c => ?_)
  · have hge := nI_ge_of c (by omega) (by omega)
    obtain rfl : j = m := by omega
    refine a_l3 rfl rfl rfl ?_
    exact a_iret rfl rfl ⟨y, rfl, J, rfl, hf, eJ⟩
  have hjm := nI_lt_of c (by omega) (by omega)
  have okj := dsW_ok (calm := calm) (cd := cd) (fa' := fa') (fn := fn) ok0 j
  refine a_l3 rfl rfl rfl ?_
  refine a_l0 rfl rfl rfl ?_
  refine a_l2 rfl rfl rfl ?_
  refine a_gV rfl lX12_385 mo_X12_oneDay (h_oneDay (calm := calm) eJ okj.1 (LawR.eq hL okj.2.2.2.2.1 okj.2.2.2.2.2) okj.2.2.2.1) rfl rfl rfl ⟨12, _, rfl, rfl, rfl⟩ rfl (fun v' h' hv => ?_)
  obtain ⟨z, rfl, K, rfl, hfK, eK⟩ := hv
  refine a_s rfl rfl ?_
  refine a_s3 rfl rfl rfl rfl rfl rfl ?_
  refine a_iv4 (y := nI (j + 1)) rfl rfl rfl ((nI_succ j).symm) ?_
  refine a_goto rfl ?_
  exact ih (m - (j + 1)) _ _ (by omega) ⟨j + 1, _, K, rfl, rfl, by omega, rfl, eK, fun q h1 h2 h3 => (hfK q h1 h2 h3).trans (hf q h1 h2 h3)⟩
theorem h_days (hG : Rg (I 421)) (hL : LawR (I 421) nl len cd fa' fn) (hN : LwN (I 421) nl) (er : I 420 7 = nI r) (hr12 : r ≤ 12) {x : Int32} : Sp S m_X12_days 25 0 0 [.ref 420, .int x] (hp I L w1 w2 t) (fun v h' => ∃ y, v = some (.int y) ∧ ((inB x 1 90 = false ∧ h' = hp (up2 (up2 I 420 0 0) 420 0 1) L w1 w2 t) ∨ ∃ m, 1 ≤ m ∧ m ≤ 90 ∧ x = nI m ∧ ∃ J, h' = hp J L w1 w2 t ∧ (∀ q, q ≠ 421 → q ≠ 428 → q ≠ 429 → J q = remH (up2 I 420 0 0) r q) ∧ J 421 = dsW false cd fa' fn nl (I 421) m)) nX := by
  have e21 : up2 I 420 0 0 421 = I 421 := up2_row (by decide)
  have er0 : up2 I 420 0 0 420 7 = nI r := (up2_ne (Or.inr (by decide))).trans er
  refine Sp_of ok_X12_days rfl rfl ?_
  show AW S m_X12_days 25 _ _ 0 0 0 [some (.ref 420), some (.int x)] [] (hp I L w1 w2 t)
  refine a_l0 rfl rfl rfl ?_
  refine a_s rfl rfl ?_
  refine a_puti rfl pfX12_3_12 rfl ?_
  refine a_l0 rfl rfl rfl ?_
  refine a_l1 rfl rfl rfl ?_
  refine a_s rfl rfl ?_
  refine a_s rfl rfl ?_
  refine a_eS1 rfl lX12_70 mo_X12_in sp_X12_in rfl rfl rfl rfl ?_
  obtain ⟨z, hz⟩ : ∃ z, inB x 1 90 = z := ⟨_, rfl⟩
  rw [hz]
  cases z with
  | false =>
    refine a_if_ne rfl (fun c => absurd rfl c) (fun _ => ?_)
    refine a_s rfl rfl ?_
    refine a_goto rfl ?_
    refine a_s rfl rfl ?_
    refine a_eV1 rfl lX12_243 mo_X12_throwsIf (h_throwsIf (z := true)) rfl rfl rfl ⟨12, _, rfl, rfl, rfl⟩ rfl ?_
    rw [if_pos rfl]
    refine a_if_eq rfl (fun c => absurd c (by decide)) (fun _ => ?_)
    refine a_s rfl rfl ?_
    exact a_iret rfl rfl ⟨0, rfl, Or.inl ⟨rfl, rfl⟩⟩
  | true =>
    refine a_if_ne rfl (fun _ => ?_) (fun c => absurd c (by decide))
    refine a_s rfl rfl ?_
    refine a_s rfl rfl ?_
    refine a_eV1 rfl lX12_243 mo_X12_throwsIf (h_throwsIf (z := false)) rfl rfl rfl ⟨12, _, rfl, rfl, rfl⟩ rfl ?_
    rw [if_neg Bool.false_ne_true]
    refine a_if_eq rfl (fun _ => ?_) (fun c => absurd rfl c)
    obtain ⟨z1, z2⟩ := of_decide_eq_true hz
    obtain ⟨m, m1, m2, em⟩ : ∃ m, 1 ≤ m ∧ m ≤ 90 ∧ x = nI m := by
      rw [Int32.le_iff_toInt_le] at z1 z2
      have z1 : (1 : Int) ≤ x.toInt := z1
      have z2 : x.toInt ≤ 90 := z2
      refine ⟨x.toInt.toNat, by omega, by omega, ?_⟩
      rw [← Int32.toInt_inj, nI_toInt (by omega)]
      omega
    subst em
    refine a_l0 rfl rfl rfl ?_
    refine a_eV0 rfl lX12_357 mo_X12_remembers (h_remembers er0 hr12) rfl rfl rfl ⟨12, _, rfl, rfl, rfl⟩ rfl ?_
    have e22 : remH (up2 I 420 0 0) r 421 = I 421 := remH_421.trans e21
    refine a_l0 rfl rfl rfl ?_
    refine a_l1 rfl rfl rfl ?_
    refine a_s rfl rfl ?_
    refine a_gV rfl lX12_388 mo_X12_goesOn (h_goesOn (calm := false) (m := m) e22 hG hL hN m2) rfl rfl rfl ⟨12, _, rfl, rfl, rfl⟩ rfl (fun v' h' hv => ?_)
    obtain ⟨y, rfl, J, rfl, hf, eJ⟩ := hv
    exact a_iret rfl rfl ⟨y, rfl, Or.inr ⟨m, m1, m2, rfl, J, rfl, hf, eJ⟩⟩
end T79zf
end
section
/-! ===== days and call of the class ===== -/
section T79zg
variable {S : aS} {I : Nat → Nat → Int32} {L : Nat → Nat → Int64} {w1 w2 t : Nat} {nl len n fa : Nat} {cd fa' fn : Nat → Nat} {W : Nat → Int32}
set_option maxRecDepth 100000
theorem f_days (hD : Sd I 235 W) (hLg : Lg I 235 W) (hG : Rg W) (hL : LwS I 246 W nl len cd fa' fn) (hN : LwN W nl) (h13 : I 200 13 = nI n) (hn : n ≤ 12) (h12 : I 200 12 = nI fa) (hf : fa < 12) {x : Int32} : Sp S m_X11_days 20 1 6 [.ref 200, .int x] (hp I L w1 w2 t) (fun v h' => ∃ y, v = some (.int y) ∧ ∃ m, 1 ≤ m ∧ m ≤ 90 ∧ x = nI m ∧ ∃ J, h' = hp J L w1 w2 t ∧ (∀ q, (q < 235 ∨ 245 < q) → q ≠ 252 → q ≠ 253 → J q = reS I n fa q) ∧ Sd J 235 (dsW false cd fa' fn nl W m) ∧ Lg J 235 (dsW false cd fa' fn nl W m)) (fun E h' => E = exN 1 ∧ inB x 1 90 = false ∧ h' = hp I L w1 w2 0) := by
  have ok0 : DsOk nl W W := ⟨hG, rfl, rfl, hN, rfl, fun _ _ => rfl⟩
  refine Sp_of ok_X11_days rfl rfl ?_
  show AW S m_X11_days 20 _ _ 1 6 0 [some (.ref 200), some (.int x), none, none] [] (hp I L w1 w2 t)
  refine a_l1 rfl rfl rfl ?_
  refine a_s rfl rfl ?_
  refine a_s rfl rfl ?_
  refine a_callS rfl lX11_250 mo_X11_needNumber (f_needNumber) rfl rfl rfl rfl (fun v' h' hv => ?_) (fun E h' ex => ex)
  obtain ⟨rfl, hz, rfl⟩ := hv
  obtain ⟨z1, z2⟩ := of_decide_eq_true hz
  obtain ⟨m, m1, m2, em⟩ : ∃ m, 1 ≤ m ∧ m ≤ 90 ∧ x = nI m := by
    rw [Int32.le_iff_toInt_le] at z1 z2
    have z1 : (1 : Int) ≤ x.toInt := z1
    have z2 : x.toInt ≤ 90 := z2
    refine ⟨x.toInt.toNat, by omega, by omega, ?_⟩
    rw [← Int32.toInt_inj, nI_toInt (by omega)]
    omega
  subst em
  refine a_l0 rfl rfl rfl ?_
  refine a_eV0 rfl lX11_230 mo_X11_rememberAct (f_remember h13 hn h12 hf) rfl rfl rfl ⟨11, _, rfl, rfl, rfl⟩ rfl ?_
  have rr : ∀ q, q ≠ 200 → q < 288 → reS I n fa q = I q := fun q h1 h2 => reS_row h1 (Or.inl h2)
  have D0 : Sd (reS I n fa) 235 W := Sd.eq hD fun q g1 g2 => rr q (by omega) (by omega)
  have L0 : Lg (reS I n fa) 235 W := Lg.eq hLg (rr 244 (by decide) (by decide)) (rr 245 (by decide) (by decide)) rfl fun _ _ _ => rfl
  have hd3 : reS I n fa 235 3 = nI (dn W) := (Sd.fd D0 (f := 3) (g := 1) (by decide)).trans hG.1.2.2.2
  refine a_l0 rfl rfl rfl ?_
  refine a_getq rfl gfX11_37_11 rfl (rfl) ?_
  refine a_s rfl rfl ?_
  refine a_eV1 rfl lX11_200 mo_X5_bitsIn (sp_X5_bitsIn (nd := dn W) (a := 235) (by decide) hd3 hG.1.2.1) rfl rfl rfl ⟨5, _, rfl, rfl, rfl⟩ rfl ?_
  refine a_s2 rfl rfl rfl rfl rfl rfl ?_
  refine a_s rfl rfl ?_
  refine a_s3 rfl rfl rfl rfl rfl rfl ?_
  generalize hB : inS (dn W) (reS I n fa (235 + 8)) 1 = B
  refine a_inv (n := m) (fun i ls h => ∃ j J, ls = [some (.ref 200), some (.int (nI m)), some (.int B), some (.int (nI j))] ∧ h = hp J L w1 w2 t ∧ j ≤ m ∧ i = m - j ∧ Sd J 235 (dsW false cd fa' fn nl W j) ∧ Lg J 235 (dsW false cd fa' fn nl W j) ∧ ∀ q, (q < 235 ∨ 245 < q) → q ≠ 252 → q ≠ 253 → J q = reS I n fa q) ⟨0, _, rfl, rfl, Nat.zero_le _, rfl, D0, L0, fun _ _ _ _ => rfl⟩ ?_
  rintro i _ _ ⟨j, J, rfl, rfl, hj, hi, DJ, LJ, hfJ⟩ ih
  have okj := dsW_ok (calm := false) (cd := cd) (fa' := fa') (fn := fn) ok0 j
  refine a_l3 rfl rfl rfl ?_
  refine a_l1 rfl rfl rfl ?_
  refine a_ic_ge rfl (fun c => ?_) (fun c => ?_)
  · have hge := nI_ge_of c (by omega) (by omega)
    obtain rfl : j = m := by omega
    have hd9 : J 235 3 = nI (dn W) := ((Sd.fd DJ (f := 3) (g := 1) (by decide)).trans okj.1.1.2.2.2).trans (by rw [okj.2.2.1])
    refine a_l0 rfl rfl rfl ?_
    refine a_getq rfl gfX11_37_11 rfl (rfl) ?_
    refine a_s rfl rfl ?_
    refine a_eV1 rfl lX11_200 mo_X5_bitsIn (sp_X5_bitsIn (nd := dn W) (a := 235) (by decide) hd9 hG.1.2.1) rfl rfl rfl ⟨5, _, rfl, rfl, rfl⟩ rfl ?_
    refine a_l2 rfl rfl rfl ?_
    refine a_s rfl rfl ?_
    refine a_s rfl rfl ?_
    refine a_s rfl rfl ?_
    refine a_eS1 rfl lX11_261 mo_J6_bitCount_0f7a4 (sp_bitCount) rfl rfl rfl rfl ?_
    exact a_iret rfl rfl ⟨_, rfl, j, m1, m2, rfl, J, rfl, hfJ, DJ, LJ⟩
  have hjm := nI_lt_of c (by omega) (by omega)
  have es : dsW false cd fa' fn nl W (j + 1) = dyP cd fa' fn nl (dayW false (gwL cd fa' fn nl) (dsW false cd fa' fn nl W j)) := rfl
  have on : ∀ (K : Nat → Nat → Int32), Sd K 235 (dsW false cd fa' fn nl W (j + 1)) → Lg K 235 (dsW false cd fa' fn nl W (j + 1)) → (∀ q, (q < 235 ∨ 245 < q) → q ≠ 252 → q ≠ 253 → K q = reS I n fa q) → AW S m_X11_days 20 (fun v h' => ∃ y, v = some (.int y) ∧ ∃ m', 1 ≤ m' ∧ m' ≤ 90 ∧ nI m = nI m' ∧ ∃ J, h' = hp J L w1 w2 t ∧ (∀ q, (q < 235 ∨ 245 < q) → q ≠ 252 → q ≠ 253 → J q = reS I n fa q) ∧ Sd J 235 (dsW false cd fa' fn nl W m') ∧ Lg J 235 (dsW false cd fa' fn nl W m')) (fun E h' => E = exN 1 ∧ inB (nI m) 1 90 = false ∧ h' = hp I L w1 w2 0) 0 0 54 [some (.ref 200), some (.int (nI m)), some (.int B), some (.int (nI j))] [] (hp K L w1 w2 t) := by
    intro K hK hLK hfK
    refine a_iv3 (y := nI (j + 1)) rfl rfl rfl ((nI_succ j).symm) ?_
    refine a_goto rfl ?_
    exact ih (m - (j + 1)) _ _ (by omega) ⟨j + 1, K, rfl, rfl, by omega, rfl, hK, hLK, hfK⟩
  generalize dsW false cd fa' fn nl W j = V at DJ LJ okj es
  have lawJ : LwS J 246 V nl len cd fa' fn := LwS.eq hL (fun q g1 g2 => (hfJ q (by omega) (by omega) (by omega)).trans (rr q (by omega) (by omega))) okj.2.2.2.2.1 okj.2.2.2.2.2
  refine a_l0 rfl rfl rfl ?_
  refine a_getq rfl gfX11_37_11 rfl (rfl) ?_
  refine a_l0 rfl rfl rfl ?_
  refine a_getq rfl gfX11_44_11 rfl (rfl) ?_
  refine a_s rfl rfl ?_
  refine a_gV rfl lX11_254 mo_X5_passDay (f_passDay (a := 235) (b := 246) (dr := true) (by decide) (by decide) DJ okj.1 lawJ okj.2.2.2.1) rfl rfl rfl ⟨5, _, rfl, rfl, rfl⟩ rfl (fun v' h' hv => ?_)
  obtain ⟨rfl, K, rfl, hfK, DK⟩ := hv
  have DK : Sd K 235 (dayW false (gwL cd fa' fn nl) V) := DK
  have ok1 : DyOk nl V (dayW false (gwL cd fa' fn nl) V) := dayW_ok okj.dy
  have LK : Lg K 235 (dayW false (gwL cd fa' fn nl) V) := Lg.eq LJ (hfK 244 (by decide) (by decide) (by decide)) (hfK 245 (by decide) (by decide) (by decide)) (dayW_lg okj.dy (Or.inl rfl)) fun k h1 _ => dayW_lg okj.dy (Or.inr h1)
  have lawK : LwS K 246 (dayW false (gwL cd fa' fn nl) V) nl len cd fa' fn := LwS.eq lawJ (fun q g1 g2 => hfK q (by omega) (by omega) (by omega)) ok1.2.2.2.2.1 ok1.2.2.2.2.2
  have hfK2 : ∀ q, (q < 235 ∨ 245 < q) → q ≠ 252 → q ≠ 253 → K q = reS I n fa q := fun q g1 g2 g3 => (hfK q (by omega) g2 g3).trans (hfJ q g1 g2 g3)
  generalize dayW false (gwL cd fa' fn nl) V = U at DK ok1 LK lawK es
  refine a_l0 rfl rfl rfl ?_
  refine a_getq rfl gfX11_37_11 rfl (rfl) ?_
  refine a_getiv (v := U 4) rfl gfX11_185_5 rfl (Sd.fd DK (by decide)) ?_
  refine a_s rfl rfl ?_
  refine a_ic_ne rfl (fun c2 => ?_) (fun c2 => ?_)
  · have e : dsW false cd fa' fn nl W (j + 1) = U := by
      rw [es]
      unfold dyP
      rw [if_neg c2]
    exact on K (by rw [e]; exact DK) (by rw [e]; exact LK) hfK2
  have e : dsW false cd fa' fn nl W (j + 1) = ltF cd fa' fn nl U (dn U) := by
    rw [es]
    unfold dyP
    rw [if_pos c2]
  refine a_l0 rfl rfl rfl ?_
  refine a_gV rfl lX11_258 mo_X11_letParadeGoBy (f_parade DK LK ok1.1 lawK) rfl rfl rfl ⟨11, _, rfl, rfl, rfl⟩ rfl (fun v' h' hv => ?_)
  obtain ⟨rfl, N, rfl, hfN, DN, LN⟩ := hv
  exact on N (by rw [e]; exact DN) (by rw [e]; exact LN) (fun q g1 g2 g3 => (hfN q (by omega) (by omega) g2 g3).trans (hfK2 q g1 g2 g3))
theorem f_call (hD : Sd I 235 W) (hG : Rg W) (h13 : I 200 13 = nI n) (hn : n ≤ 12) (h12 : I 200 12 = nI fa) (hf : fa < 12) {x1 : Int32} : Sp S m_X11_call 19 2 12 [.ref 200, .int x1] (hp I L w1 w2 t) (QAc I n fa (vC (dn W) W x1) (passR (dn W) W (ixN x1)) (fun J => up2 (up2 J 239 (ixN x1) 0) 243 (ixN x1) 1) L w1 w2 t) (XAc I (vC (dn W) W x1) [(1, 0), (2, 2)] L w1 w2) := by
  have hd12 := hG.1.2.1
  have hd3 : I 235 3 = nI (dn W) := (Sd.fd hD (f := 3) (g := 1) (by decide)).trans hG.1.2.2.2
  refine Sp_of ok_X11_call rfl rfl ?_
  show AW S m_X11_call 19 _ _ 2 12 0 [some (.ref 200), some (.int x1), none] [] (hp I L w1 w2 t)
  refine a_l0 rfl rfl rfl ?_
  refine a_l1 rfl rfl rfl ?_
  refine a_callV rfl lX11_141 mo_X11_needDuty (f_needDuty hd3 (by omega)) rfl rfl rfl ⟨11, _, rfl, rfl, rfl⟩ rfl (fun v' h' hv => ?_) (fun E h' ex => ?_)
  rotate_left
  · obtain ⟨rfl, hz, rfl⟩ := ex
    exact ⟨⟨_, List.mem_cons_self, (if_neg (by rw [hz]; exact Bool.false_ne_true)), rfl⟩, rfl⟩
  obtain ⟨rfl, hz, rfl⟩ := hv
  obtain ⟨i, hi, rfl⟩ := inB_ix (by omega) hz
  have hx := ixN_nI (i := i) (by omega)
  refine a_l0 rfl rfl rfl ?_
  refine a_getq rfl gfX11_37_11 rfl (rfl) ?_
  refine a_eV1 rfl lX11_220 mo_X5_canBits (sp_X5_canBits (nd := dn W) (a := 235) (by decide) hd3 hd12) rfl rfl rfl ⟨5, _, rfl, rfl, rfl⟩ rfl ?_
  rw [can_same hD hG]
  refine a_l1 rfl rfl rfl ?_
  refine a_eS1 rfl lX11_223 mo_X11_has sp_X11_has rfl rfl rfl rfl ?_
  rw [hasF_bs hd12 hi]
  by_cases cw : canR (dn W) W i = true
  rotate_left
  · rw [Bool.eq_false_iff.mpr cw]
    refine a_if_ne rfl (fun c => absurd rfl c) (fun _ => ?_)
    exact a_throw rfl rfl rfl rfl tX11_ise rfl rfl rfl rfl rfl ⟨⟨_, (List.mem_cons_of_mem _ List.mem_cons_self), ((if_pos hz).trans (if_neg (by rw [hx]; exact cw))), rfl⟩, rfl⟩
  rw [cw]
  refine a_if_ne rfl (fun _ => ?_) (fun c => absurd c (by decide))
  refine a_l0 rfl rfl rfl ?_
  refine a_getq rfl gfX11_37_11 rfl (rfl) ?_
  refine a_l1 rfl rfl rfl ?_
  refine a_eV1 rfl lX11_176 mo_X5_passesOf (sp_X5_passesOf (nd := dn W) (a := 235) (by decide) hd3 hd12) rfl rfl rfl ⟨5, _, rfl, rfl, rfl⟩ rfl ?_
  rw [pass_same hD hG hi]
  refine a_s2 rfl rfl rfl rfl rfl rfl ?_
  refine a_l0 rfl rfl rfl ?_
  refine a_eV0 rfl lX11_230 mo_X11_rememberAct (f_remember h13 hn h12 hf) rfl rfl rfl ⟨11, _, rfl, rfl, rfl⟩ rfl ?_
  refine a_l0 rfl rfl rfl ?_
  refine a_getq rfl gfX11_37_11 rfl (rfl) ?_
  refine a_l1 rfl rfl rfl ?_
  refine a_eV0 rfl lX11_233 mo_X5_finish (sp_X5_finish (a := 235) (by decide)) rfl rfl rfl ⟨5, _, rfl, rfl, rfl⟩ rfl ?_
  have eg : finF (reS I n fa) 235 (nI i) = up2 (up2 (reS I n fa) 239 i 0) 243 i 1 := by
    unfold finF
    rw [setF_nI (show i < 12 by omega) (by decide), setF_nI (show i < 12 by omega) (by decide)]
  rw [eg]
  refine a_l2 rfl rfl rfl ?_
  exact a_iret rfl rfl (QAc.yes ((if_pos hz).trans (if_pos (by rw [hx]; exact cw))) (by rw [hx]) (by rw [hx]))
end T79zg
end
section
/-! ===== what holds of both states between two operations ===== -/
section T79zh
variable {I J : Nat → Nat → Int32} {a b : Nat} {W V : Nat → Int32}
set_option maxRecDepth 100000
/-- the street and the log at a are those that W tells, and W keeps its ranges -/
def Nm (I : Nat → Nat → Int32) (a : Nat) (W : Nat → Int32) : Prop := Sd I a W ∧ Lg I a W ∧ Rg W
/-- the law at b is the one that W tells -/
def Nl (I : Nat → Nat → Int32) (b : Nat) (W : Nat → Int32) : Prop := ∃ nl len cd fa fn, LwS I b W nl len cd fa fn ∧ LwN W nl
def ImS (I : Nat → Nat → Int32) : Prop := (I 200 10 = 0 ∧ I 420 6 = 0) ∨ (¬ I 200 10 = 0 ∧ ¬ I 420 6 = 0 ∧ Nm I 268 (I 422) ∧ Nl I 279 (I 422))
def PsS (I : Nat → Nat → Int32) : Prop := ∃ n fa, n ≤ 12 ∧ fa < 12 ∧ I 200 13 = nI n ∧ I 420 7 = nI n ∧ I 200 12 = nI fa ∧ ∀ i, i < n → Nm I (288 + 11 * ((fa + i) % 12)) (fun k => I 425 (335 * i + k)) ∧ I 425 (335 * i + 3) = I 421 3
def Sim (I : Nat → Nat → Int32) : Prop := Nm I 235 (I 421) ∧ Nl I 246 (I 421) ∧ ImS I ∧ PsS I
theorem Nm.eq (h : Nm I a W) (f : ∀ q, a ≤ q → q ≤ a + 10 → J q = I q) : Nm J a W :=
  ⟨h.1.eq fun q g1 g2 => f q g1 (by omega), h.2.1.eq (f _ (by omega) (by omega)) (f _ (by omega) (by omega)) rfl fun _ _ _ => rfl, h.2.2⟩
theorem Nl.eq (h : Nl I b W) (f : ∀ q, b ≤ q → q ≤ b + 5 → J q = I q) (e3 : V 3 = W 3) (e : ∀ k, 335 ≤ k → V k = W k) : Nl J b V := by
  obtain ⟨nl, len, cd, fa, fn, h1, h2, h3⟩ := h
  refine ⟨nl, len, cd, fa, fn, h1.eq f e3 e, h2, fun n hn => ?_⟩
  rw [show nuW V n = nuW W n from e _ (by omega)]
  exact h3 n hn
theorem Nm.lg (h : Nm I a W) : LgW W := by
  obtain ⟨r, _, h1, _, _, _, h5, _⟩ := h.2.1
  exact ⟨r, h1, h5⟩
theorem Nm.st (h : Nm I a W) : StW W := ⟨_, _, h.2.2.so, h.2.2.fr, h.lg⟩
theorem Nl.lw (h : Nl I b W) : LwW W := by
  obtain ⟨nl, len, cd, fa, fn, h1, _⟩ := h
  exact ⟨nl, len, cd, fa, fn, h1.2.1⟩
theorem Sim.ri (h : Sim I) : RI (dn (I 421)) (pn (I 421)) I := by
  obtain ⟨h1, h2, h3, n, fa, hn, hf, e1, e2, e3, h4⟩ := h
  refine ⟨h1.2.2.so, h1.2.2.fr, h2.lw, h1.lg, ?_, n, hn, e2, fun i hi => ⟨(h4 i hi).1.st, (h4 i hi).2⟩⟩
  rcases h3 with h3 | h3
  · exact Or.inl h3.2
  · exact Or.inr ⟨h3.2.2.1.st, h3.2.2.2.lw⟩
/-- what the relation reads -/
theorem Sim.eq (h : Sim I) (f : ∀ q, 235 ≤ q → q < 420 → (q < 252 ∨ 268 ≤ q) → J q = I q) (f1 : J 421 = I 421) (f2 : J 422 = I 422) (f5 : J 425 = I 425) (g1 : J 200 10 = I 200 10) (g2 : J 200 12 = I 200 12) (g3 : J 200 13 = I 200 13) (g4 : J 420 6 = I 420 6) (g5 : J 420 7 = I 420 7) : Sim J := by
  obtain ⟨h1, h2, h3, n, fa, hn, hf, e1, e2, e3, h4⟩ := h
  unfold Sim ImS PsS
  rw [f1, f2, f5, g1, g2, g3, g4, g5]
  refine ⟨h1.eq fun q k1 k2 => f q (by omega) (by omega) (by omega), h2.eq (fun q k1 k2 => f q (by omega) (by omega) (by omega)) rfl fun _ _ => rfl, ?_, n, fa, hn, hf, e1, e2, e3, fun i hi => ⟨(h4 i hi).1.eq fun q k1 k2 => f q (by omega) (by omega) (by omega), (h4 i hi).2⟩⟩
  rcases h3 with h3 | ⟨k1, k2, k3, k4⟩
  · exact Or.inl h3
  · exact Or.inr ⟨k1, k2, k3.eq fun q k1 k2 => f q (by omega) (by omega) (by omega), k4.eq (fun q k1 k2 => f q (by omega) (by omega) (by omega)) rfl fun _ _ => rfl⟩
end T79zh
end
section
/-! ===== the relation's past: an act remembers on both sides ===== -/
section T79zi
variable {I J : Nat → Nat → Int32} {a b n fa : Nat} {W V : Nat → Int32}
set_option maxRecDepth 100000
theorem Sd.eqW (h : Sd I a W) (e : ∀ k, k < 95 → V k = W k) : Sd I a V := by
  obtain ⟨h1, h2, h3⟩ := h
  have hb : ∀ x ∈ flds, x.2 < 95 := by decide
  refine ⟨fun x hx => ?_, fun p hp => ?_, fun d hd k hk => ?_⟩
  · rw [e _ (hb x hx)]
    exact h1 x hx
  · rw [e _ (by omega), e _ (by omega)]
    exact h2 p hp
  · rw [e _ (by omega)]
    exact h3 d hd k hk
theorem Nm.eqW (h : Nm I a W) (e : ∀ k, k < 335 → V k = W k) : Nm I a V :=
  ⟨h.1.eqW fun k hk => e k (by omega), h.2.1.eq rfl rfl (e 9 (by decide)) fun k _ hk => e k hk, (h.2.2.log fun k hk _ => e k (by omega)).1⟩
theorem Nm.at (h : Nm I b W) (f : ∀ i, i ≤ 10 → J (a + i) = I (b + i)) : Nm J a W := by
  refine ⟨?_, ?_, h.2.2⟩
  · obtain ⟨h1, h2, h3⟩ := h.1
    refine ⟨fun x hx => ?_, fun p hp => ?_, fun d hd k hk => ?_⟩
    · rw [show J a = I b from f 0 (by decide)]
      exact h1 x hx
    · rw [f 1 (by decide), f 2 (by decide)]
      exact h2 p hp
    · rw [Nat.add_assoc, f (3 + k) (by omega), ← Nat.add_assoc]
      exact h3 d hd k hk
  · obtain ⟨r, m, h1, h2, h3, h4, h5, h6⟩ := h.2.1
    refine ⟨r, m, h1, h2, by rw [f 9 (by decide)]; exact h3, by rw [f 9 (by decide)]; exact h4, h5, fun k hk j hj => ?_⟩
    rw [f 10 (by decide)]
    exact h6 k hk j hj
def PsN (I : Nat → Nat → Int32) (n fa : Nat) : Prop := n ≤ 12 ∧ fa < 12 ∧ I 200 13 = nI n ∧ I 420 7 = nI n ∧ I 200 12 = nI fa ∧ ∀ i, i < n → Nm I (288 + 11 * ((fa + i) % 12)) (fun k => I 425 (335 * i + k)) ∧ I 425 (335 * i + 3) = I 421 3
theorem remH_7 : remH I n 420 7 = (if n = 12 then I 420 7 else nI (n + 1)) := by
  unfold remH
  by_cases e : n = 12
  · rw [if_pos e, if_pos e, cpR_row (by decide), cpR_row (by decide)]
  · rw [if_neg e, if_neg e, cpR_row (by decide), up2_at]
theorem PsN.rem (h : PsN I n fa) (hn : Nm I 235 (I 421)) (f : ∀ q, 288 ≤ q → q < 420 → J q = reS I n fa q) (g2 : J 200 12 = reS I n fa 200 12) (g3 : J 200 13 = reS I n fa 200 13) (f5 : J 425 = remH I n 425) (g7 : J 420 7 = remH I n 420 7) (f3 : J 421 3 = I 421 3) : PsS J := by
  obtain ⟨h1, h2, e1, e2, e3, h4⟩ := h
  rw [remH_7] at g7
  by_cases e : n = 12
  · subst e
    rw [if_pos rfl, e2] at g7
    unfold reS at g2 g3 f
    rw [if_pos rfl] at g2 g3
    unfold remH at f5
    rw [if_pos rfl] at f5
    refine ⟨12, (fa + 1) % 12, by decide, by omega, g3.trans (up2_at), g7, ?_, fun i hi => ?_⟩
    · rw [g2, up2_ne (by decide), cpS_out (by omega), up2_ne (by decide), up2_at]
    have hb : ∀ k, k < 335 → J 425 (335 * i + k) = if i < 11 then I 425 (335 * (i + 1) + k) else I 421 k := by
      intro k hk
      rw [f5]
      by_cases h11 : i < 11
      · rw [if_pos h11, cpR_out (by omega), show 335 * i + k = 0 + (335 * i + k) by omega, cpR_in (by omega), show 335 * i + k + 335 = 335 * (i + 1) + k by omega]
      · obtain rfl : i = 11 := by omega
        rw [if_neg h11, cpR_in (by omega), cpR_row (by decide)]
        rfl
    by_cases h11 : i < 11
    · have ha := h4 (i + 1) (by omega)
      refine ⟨?_, ?_⟩
      · refine Nm.eqW (W := fun k => I 425 (335 * (i + 1) + k)) ?_ fun k hk => by rw [hb k hk, if_pos h11]
        refine ha.1.at fun j hj => ?_
        rw [f _ (by omega) (by omega), if_pos rfl, up2_row (by omega), cpS_out (by omega), up2_row (by omega), up2_row (by omega)]
        congr 1
        omega
      · rw [hb 3 (by decide), if_pos h11, f3]
        exact ha.2
    · obtain rfl : i = 11 := by omega
      refine ⟨?_, ?_⟩
      · refine Nm.eqW (W := I 421) ?_ fun k hk => by rw [hb k hk, if_neg h11]
        refine hn.at fun j hj => ?_
        rw [f _ (by omega) (by omega), if_pos rfl, up2_row (by omega), cpS_in (by omega), up2_row (by omega), up2_row (by omega)]
      · rw [hb 3 (by decide), if_neg h11, f3]
  · rw [if_neg e] at g7
    unfold reS at g2 g3 f
    rw [if_neg e] at g2 g3
    unfold remH at f5
    rw [if_neg e] at f5
    refine ⟨n + 1, fa, by omega, h2, g3.trans (up2_at), g7, ?_, fun i hi => ?_⟩
    · rw [g2, up2_ne (by decide), cpS_out (by omega), e3]
    have hb : ∀ k, k < 335 → J 425 (335 * i + k) = if i < n then I 425 (335 * i + k) else I 421 k := by
      intro k hk
      rw [f5]
      by_cases h11 : i < n
      · rw [if_pos h11, cpR_out (by omega), up2_row (by decide)]
      · obtain rfl : i = n := by omega
        rw [if_neg h11, cpR_in (by omega), up2_row (by decide)]
        rfl
    by_cases h11 : i < n
    · have ha := h4 i h11
      refine ⟨?_, ?_⟩
      · refine Nm.eqW (W := fun k => I 425 (335 * i + k)) ?_ fun k hk => by rw [hb k hk, if_pos h11]
        refine ha.1.at fun j hj => ?_
        rw [f _ (by omega) (by omega), if_neg e, up2_row (by omega), cpS_out (by omega)]
      · rw [hb 3 (by decide), if_pos h11, f3]
        exact ha.2
    · obtain rfl : i = n := by omega
      refine ⟨?_, ?_⟩
      · refine Nm.eqW (W := I 421) ?_ fun k hk => by rw [hb k hk, if_neg h11]
        refine hn.at fun j hj => ?_
        rw [f _ (by omega) (by omega), if_neg e, up2_row (by omega), cpS_in (by omega)]
      · rw [hb 3 (by decide), if_neg h11, f3]
end T79zi
end
section
/-! ===== the relation is kept by undo, back, image, seed ===== -/
section T79zj
variable {I J : Nat → Nat → Int32} {a b n fa : Nat} {W V : Nat → Int32}
set_option maxRecDepth 100000
theorem ImS.eq (h : ImS I) (f : ∀ q, 268 ≤ q → q < 285 → J q = I q) (f2 : J 422 = I 422) (g1 : J 200 10 = I 200 10) (g4 : J 420 6 = I 420 6) : ImS J := by
  unfold ImS
  rw [f2, g1, g4]
  rcases h with h3 | ⟨k1, k2, k3, k4⟩
  · exact Or.inl h3
  · exact Or.inr ⟨k1, k2, k3.eq fun q k1 k2 => f q (by omega) (by omega), k4.eq (fun q k1 k2 => f q (by omega) (by omega)) rfl fun _ _ => rfl⟩
theorem Sim.thr (h : Sim I) {x : Int32} : Sim (up2 I 420 0 x) := h.eq (fun q _ _ _ => up2_row (by omega)) (up2_row (by decide)) (up2_row (by decide)) (up2_row (by decide)) (up2_ne (by decide)) (up2_ne (by decide)) (up2_ne (by decide)) (up2_ne (by decide)) (up2_ne (by decide))
theorem Sim.undo (h : Sim I) (hp : PsN I n fa) : Sim (unH (unS I n fa) n) := by
  unfold unH unS
  by_cases e : n = 0
  · rw [if_pos e, if_pos e]
    exact h.thr
  rw [if_neg e, if_neg e]
  obtain ⟨h1, h2, h3, _⟩ := h
  obtain ⟨hn, hf, e1, e2, e3, h4⟩ := hp
  have hl := h4 (n - 1) (by omega)
  generalize hK : cpR (up2 (up2 (cpS (up2 I 200 13 (nI (n - 1))) 235 (288 + 11 * ((fa + (n - 1)) % 12)) 11) 420 0 0) 420 7 (nI (n - 1))) 421 0 425 (335 * (n - 1)) 335 = K
  have row : ∀ q, q ≠ 200 → q ≠ 420 → q ≠ 421 → (q < 235 ∨ 245 < q) → K q = I q := by
    intro q k1 k2 k3 k4
    rw [← hK, cpR_row k3, up2_row k2, up2_row k2, cpS_out (by omega), up2_row k1]
  have now : ∀ i, i ≤ 10 → K (235 + i) = I (288 + 11 * ((fa + (n - 1)) % 12) + i) := by
    intro i hi
    rw [← hK, cpR_row (by omega), up2_row (by omega), up2_row (by omega), cpS_in (by omega), up2_row (by omega)]
  have lo : ∀ k, k < 335 → K 421 k = I 425 (335 * (n - 1) + k) := by
    intro k hk
    have := cpR_in (I := up2 (up2 (cpS (up2 I 200 13 (nI (n - 1))) 235 (288 + 11 * ((fa + (n - 1)) % 12)) 11) 420 0 0) 420 7 (nI (n - 1))) (p := 421) (a := 0) (q := 425) (b := 335 * (n - 1)) (n := 335) hk
    rw [Nat.zero_add, hK] at this
    rw [this, up2_row (by decide), up2_row (by decide), cpS_out (by omega), up2_row (by decide), Nat.add_comm]
  have hi : ∀ k, 335 ≤ k → K 421 k = I 421 k := by
    intro k hk
    rw [← hK, cpR_out (by omega), up2_row (by decide), up2_row (by decide), cpS_out (by omega), up2_row (by decide)]
  have k3 : K 421 3 = I 421 3 := (lo 3 (by decide)).trans hl.2
  refine ⟨(hl.1.at now).eqW lo, h2.eq (fun q g1 g2 => row q (by omega) (by omega) (by omega) (by omega)) k3 hi, h3.eq (fun q g1 g2 => row q (by omega) (by omega) (by omega) (by omega)) (row _ (by decide) (by decide) (by decide) (by decide)) ?_ ?_, n - 1, fa, by omega, hf, ?_, ?_, ?_, fun i hi => ?_⟩
  · rw [← hK, cpR_row (by decide), up2_row (by decide), up2_row (by decide), cpS_out (by omega), up2_ne (by decide)]
  · rw [← hK, cpR_row (by decide), up2_ne (by decide), up2_ne (by decide), cpS_out (by omega), up2_row (by decide)]
  · rw [← hK, cpR_row (by decide), up2_row (by decide), up2_row (by decide), cpS_out (by omega), up2_at]
  · rw [← hK, cpR_row (by decide), up2_at]
  · rw [← hK, cpR_row (by decide), up2_row (by decide), up2_row (by decide), cpS_out (by omega), up2_ne (by decide), e3]
  · have ha := h4 i (by omega)
    rw [row 425 (by decide) (by decide) (by decide) (by decide), k3]
    exact ⟨ha.1.eq fun q g1 g2 => row q (by omega) (by omega) (by omega) (by omega), ha.2⟩
theorem Sim.seed (h : Sim I) {x : Int32} : Sim (up2 (up2 (up2 I 235 15 x) 420 0 0) 421 10 x) := by
  obtain ⟨h1, h2, h3, n, fa, hn, hf, e1, e2, e3, h4⟩ := h
  have row : ∀ q, q ≠ 235 → q ≠ 420 → q ≠ 421 → up2 (up2 (up2 I 235 15 x) 420 0 0) 421 10 x q = I q := fun q g1 g2 g3 => by rw [up2_row g3, up2_row g2, up2_row g1]
  have e : up2 (up2 (up2 I 235 15 x) 420 0 0) 421 10 x 421 = ud (I 421) 10 x := by rw [up2_ud, up2_row (by decide), up2_row (by decide)]
  refine ⟨⟨?_, ?_, ?_⟩, ?_, h3.eq (fun q _ _ => row q (by omega) (by omega) (by omega)) (row _ (by decide) (by decide) (by decide)) ?_ ?_, n, fa, hn, hf, ?_, ?_, ?_, fun i hi => ?_⟩
  · rw [e]
    refine Sd.eq ?_ (fun q g1 g2 => by rw [up2_row (by omega), up2_row (by omega)]) (I := up2 I 235 15 x)
    exact Sd.pu h1.1 (f := 15) (g := 10) (by decide)
  · rw [e]
    exact h1.2.1.eq (row _ (by decide) (by decide) (by decide)) (row _ (by decide) (by decide) (by decide)) (if_neg (by decide)) fun k g1 g2 => if_neg (by omega)
  · rw [e]
    exact (h1.2.2.hi rfl).1
  · rw [e]
    exact h2.eq (fun q g1 g2 => row q (by omega) (by omega) (by omega)) (if_neg (by decide)) fun k g => if_neg (by omega)
  · rw [row 200 (by decide) (by decide) (by decide)]
  · rw [up2_row (by decide), up2_ne (by decide), up2_row (by decide)]
  · rw [row 200 (by decide) (by decide) (by decide)]; exact e1
  · rw [up2_row (by decide), up2_ne (by decide), up2_row (by decide)]; exact e2
  · rw [row 200 (by decide) (by decide) (by decide)]; exact e3
  · rw [e, row 425 (by decide) (by decide) (by decide)]
    refine ⟨(h4 i hi).1.eq fun q g1 g2 => row q (by omega) (by omega) (by omega), ?_⟩
    rw [show ud (I 421) 10 x 3 = I 421 3 from if_neg (by decide)]
    exact (h4 i hi).2
end T79zj
end
section
/-! ===== the relation is kept by image and back ===== -/
section T79zk
variable {I J : Nat → Nat → Int32} {a b n fa : Nat} {W V : Nat → Int32}
set_option maxRecDepth 100000
theorem Nl.at (h : Nl I b W) (f0 : J a 0 = I b 0) (f : ∀ i, 1 ≤ i → i ≤ 5 → J (a + i) = I (b + i)) (e3 : V 3 = W 3) (e : ∀ k, 335 ≤ k → k < 1184 → V k = W k) : Nl J a V := by
  obtain ⟨nl, len, cd, fa, fn, ⟨⟨c1, c2, c3, c4, c5⟩, ⟨r1, _, _, r4, r5⟩, h3, h4⟩, g1, g2⟩ := h
  refine ⟨nl, len, cd, fa, fn, ⟨⟨?_, c2, c3, fun i hi => ?_, fun n hn => ?_⟩, ⟨?_, c2, c3, fun i hi => ?_, fun n hn => ?_⟩, fun n hn => ?_, ?_⟩, g1, fun n hn => ?_⟩
  · rw [f0]
    exact c1
  · rw [f 5 (by decide) (by decide)]
    exact c4 i hi
  · rw [f 3 (by decide) (by decide), f 4 (by decide) (by decide)]
    exact c5 n hn
  · rw [e3, e 335 (by decide) (by decide)]
    exact r1
  · rw [e _ (by omega) (by omega), e _ (by omega) (by omega)]
    exact r4 i hi
  · rw [e _ (by omega) (by omega), e _ (by omega) (by omega)]
    exact r5 n hn
  · rw [f 1 (by decide) (by decide), f 2 (by decide) (by decide), show kiW V n = kiW W n from e _ (by omega) (by omega), show nuW V n = nuW W n from e _ (by omega) (by omega)]
    exact h3 n hn
  · rw [f0, e3]
    exact h4
  · rw [show nuW V n = nuW W n from e _ (by omega) (by omega)]
    exact g2 n hn
theorem Sim.image (h : Sim I) : Sim (imH (imS I)) := by
  obtain ⟨h1, h2, _, n, fa, hn, hf, e1, e2, e3, h4⟩ := h
  generalize hK : imH (imS I) = K
  have row : ∀ q, q ≠ 200 → q ≠ 420 → q ≠ 422 → (q < 268 ∨ 284 < q) → K q = I q := by
    intro q k1 k2 k3 k4
    rw [← hK]
    unfold imH imS cpL
    rw [up2_row k2, cpR_row k3, up2_row k2, up2_row k1, up2_row (by omega), cpS_out (by omega), cpS_out (by omega)]
  have r2 : ∀ k, k ≠ 10 → K 200 k = I 200 k := by
    intro k hk
    rw [← hK]
    unfold imH imS cpL
    rw [up2_row (by decide), cpR_row (by decide), up2_row (by decide), up2_ne (Or.inr hk), up2_row (by decide), cpS_out (by omega), cpS_out (by omega)]
  have r4 : ∀ k, k ≠ 0 → k ≠ 6 → K 420 k = I 420 k := by
    intro k hk h6
    rw [← hK]
    unfold imH imS cpL
    rw [up2_ne (Or.inr h6), cpR_row (by decide), up2_ne (Or.inr hk), up2_row (by decide), up2_row (by decide), cpS_out (by omega), cpS_out (by omega)]
  have lo : ∀ k, k < 1184 → K 422 k = I 421 k := by
    intro k hk
    have hh := cpR_in (I := up2 (imS I) 420 0 0) (p := 422) (a := 0) (q := 421) (b := 0) (n := 1184) hk
    rw [Nat.zero_add] at hh
    rw [← hK]
    unfold imH
    rw [up2_row (by decide), hh, up2_row (by decide)]
    unfold imS cpL
    rw [up2_row (by decide), up2_row (by decide), cpS_out (by omega), cpS_out (by omega)]
    rfl
  have now : ∀ i, i ≤ 10 → K (268 + i) = I (235 + i) := by
    intro i hi
    rw [← hK]
    unfold imH imS cpL
    rw [up2_row (by omega), cpR_row (by omega), up2_row (by omega), up2_row (by omega), up2_row (by omega), cpS_out (by omega), cpS_in (by omega)]
  have law : ∀ i, 1 ≤ i → i ≤ 5 → K (279 + i) = I (246 + i) := by
    intro i h1 hi
    rw [← hK]
    unfold imH imS cpL
    rw [up2_row (by omega), cpR_row (by omega), up2_row (by omega), up2_row (by omega), up2_row (by omega), show 279 + i = 279 + 1 + (i - 1) by omega, cpS_in (by omega), cpS_out (by omega)]
    congr 1
    omega
  have law0 : K 279 0 = I 246 0 := by
    rw [← hK]
    unfold imH imS cpL
    rw [up2_row (by decide), cpR_row (by decide), up2_row (by decide), up2_row (by decide), up2_at, cpS_out (by omega)]
  refine ⟨?_, ?_, Or.inr ⟨?_, ?_, ?_, ?_⟩, n, fa, hn, hf, ?_, ?_, ?_, fun i hi => ?_⟩
  · rw [row 421 (by decide) (by decide) (by decide) (by decide)]
    exact h1.eq fun q g1 g2 => row q (by omega) (by omega) (by omega) (by omega)
  · rw [row 421 (by decide) (by decide) (by decide) (by decide)]
    exact h2.eq (fun q g1 g2 => row q (by omega) (by omega) (by omega) (by omega)) rfl fun _ _ => rfl
  · rw [← hK]
    unfold imH imS
    rw [up2_row (by decide), cpR_row (by decide), up2_row (by decide), up2_at]
    decide
  · rw [← hK]
    unfold imH
    rw [up2_at]
    decide
  · exact (h1.at now).eqW fun k hk => lo k (by omega)
  · exact h2.at law0 law (lo 3 (by decide)) fun k _ hk => lo k hk
  · rw [r2 _ (by decide)]; exact e1
  · rw [r4 _ (by decide) (by decide)]; exact e2
  · rw [r2 _ (by decide)]; exact e3
  · rw [row 421 (by decide) (by decide) (by decide) (by decide), row 425 (by decide) (by decide) (by decide) (by decide)]
    exact ⟨(h4 i hi).1.eq fun q g1 g2 => row q (by omega) (by omega) (by omega) (by omega), (h4 i hi).2⟩
end T79zk
end
section
/-! ===== the relation is kept by back ===== -/
section T79zl
variable {I J : Nat → Nat → Int32} {a b n fa : Nat} {W V : Nat → Int32}
set_option maxRecDepth 100000
theorem Sim.back (h : Sim I) (c : ¬ I 200 10 = 0) : ¬ I 420 6 = 0 ∧ Sim (bkH (bkS I)) := by
  obtain ⟨_, _, h3, n, fa, hn, hf, e1, e2, e3, h4⟩ := h
  rcases h3 with h3 | ⟨_, c6, m1, m2⟩
  · exact absurd h3.1 c
  refine ⟨c6, ?_⟩
  generalize hK : bkH (bkS I) = K
  have row : ∀ q, q ≠ 200 → q ≠ 420 → q ≠ 421 → (q < 235 ∨ 251 < q) → K q = I q := by
    intro q k1 k2 k3 k4
    rw [← hK]
    unfold bkH bkS cpL
    rw [up2_row k2, cpR_row k3, up2_row k2, up2_row k1, up2_row (by omega), cpS_out (by omega), cpS_out (by omega)]
  have r2 : ∀ k, k ≠ 13 → K 200 k = I 200 k := by
    intro k hk
    rw [← hK]
    unfold bkH bkS cpL
    rw [up2_row (by decide), cpR_row (by decide), up2_row (by decide), up2_ne (Or.inr hk), up2_row (by decide), cpS_out (by omega), cpS_out (by omega)]
  have r4 : ∀ k, k ≠ 0 → k ≠ 7 → K 420 k = I 420 k := by
    intro k hk h6
    rw [← hK]
    unfold bkH bkS cpL
    rw [up2_ne (Or.inr h6), cpR_row (by decide), up2_ne (Or.inr hk), up2_row (by decide), up2_row (by decide), cpS_out (by omega), cpS_out (by omega)]
  have lo : ∀ k, k < 1184 → K 421 k = I 422 k := by
    intro k hk
    have hh := cpR_in (I := up2 (bkS I) 420 0 0) (p := 421) (a := 0) (q := 422) (b := 0) (n := 1184) hk
    rw [Nat.zero_add] at hh
    rw [← hK]
    unfold bkH
    rw [up2_row (by decide), hh, up2_row (by decide)]
    unfold bkS cpL
    rw [up2_row (by decide), up2_row (by decide), cpS_out (by omega), cpS_out (by omega)]
    rfl
  have now : ∀ i, i ≤ 10 → K (235 + i) = I (268 + i) := by
    intro i hi
    rw [← hK]
    unfold bkH bkS cpL
    rw [up2_row (by omega), cpR_row (by omega), up2_row (by omega), up2_row (by omega), up2_row (by omega), cpS_out (by omega), cpS_in (by omega)]
  have law : ∀ i, 1 ≤ i → i ≤ 5 → K (246 + i) = I (279 + i) := by
    intro i h1 hi
    rw [← hK]
    unfold bkH bkS cpL
    rw [up2_row (by omega), cpR_row (by omega), up2_row (by omega), up2_row (by omega), up2_row (by omega), show 246 + i = 246 + 1 + (i - 1) by omega, cpS_in (by omega), cpS_out (by omega)]
    congr 1
    omega
  have law0 : K 246 0 = I 279 0 := by
    rw [← hK]
    unfold bkH bkS cpL
    rw [up2_row (by decide), cpR_row (by decide), up2_row (by decide), up2_row (by decide), up2_at, cpS_out (by omega)]
  refine ⟨(m1.at now).eqW fun k hk => lo k (by omega), m2.at law0 law (lo 3 (by decide)) fun k _ hk => lo k hk, Or.inr ⟨?_, ?_, ?_, ?_⟩, 0, fa, by decide, hf, ?_, ?_, ?_, fun i hi => absurd hi (by omega)⟩
  · rw [r2 _ (by decide)]; exact c
  · rw [r4 _ (by decide) (by decide)]; exact c6
  · rw [row 422 (by decide) (by decide) (by decide) (by decide)]
    exact m1.eq fun q g1 g2 => row q (by omega) (by omega) (by omega) (by omega)
  · rw [row 422 (by decide) (by decide) (by decide) (by decide)]
    exact m2.eq (fun q g1 g2 => row q (by omega) (by omega) (by omega) (by omega)) rfl fun _ _ => rfl
  · rw [← hK]
    unfold bkH bkS
    rw [up2_row (by decide), cpR_row (by decide), up2_row (by decide), up2_at]
    decide
  · rw [← hK]
    unfold bkH
    rw [up2_at]
    decide
  · rw [r2 _ (by decide)]; exact e3
end T79zl
end
section
/-! ===== the relation is kept by an act ===== -/
section T79zm
variable {I J K : Nat → Nat → Int32} {a b n fa : Nat} {W V : Nat → Int32}
set_option maxRecDepth 100000
theorem remH_row {q : Nat} (h1 : q ≠ 420) (h2 : q ≠ 425) : remH I n q = I q := by
  unfold remH
  by_cases e : n = 12
  · rw [if_pos e, cpR_row h2, cpR_row h2]
  · rw [if_neg e, cpR_row h2, up2_row h1]
theorem remH_el {k : Nat} (h : k ≠ 7) : remH I n 420 k = I 420 k := by
  unfold remH
  by_cases e : n = 12
  · rw [if_pos e, cpR_row (by decide), cpR_row (by decide)]
  · rw [if_neg e, cpR_row (by decide), up2_ne (Or.inr h)]
theorem remH_425 (h5 : J 425 = I 425) (h1 : J 421 = I 421) : remH J n 425 = remH I n 425 := by
  unfold remH
  by_cases e : n = 12
  · rw [if_pos e, if_pos e]
    unfold cpR upr
    rw [if_pos rfl, if_pos rfl, if_pos rfl, if_pos rfl, if_neg (by decide), if_neg (by decide), h5, h1]
  · rw [if_neg e, if_neg e]
    unfold cpR upr
    rw [if_pos rfl, if_pos rfl, up2_row (by decide), up2_row (by decide), up2_row (by decide), up2_row (by decide), h5, h1]
theorem reS_el {k : Nat} (h1 : k ≠ 12) (h2 : k ≠ 13) : reS I n fa 200 k = I 200 k := by
  unfold reS
  by_cases e : n = 12
  · rw [if_pos e, up2_ne (Or.inr h2), cpS_out (by omega), up2_ne (Or.inr h2), up2_ne (Or.inr h1)]
  · rw [if_neg e, up2_ne (Or.inr h2), cpS_out (by omega)]
theorem Sim.act (h : Sim I) (hp : PsN I n fa) (f : ∀ q, (q < 235 ∨ 245 < q) → q ≠ 252 → q ≠ 253 → J q = reS I n fa q) (g : ∀ q, q ≠ 421 → q ≠ 428 → q ≠ 429 → K q = remH (up2 J 420 0 0) n q) (D : Nm J 235 (K 421)) (e3 : K 421 3 = I 421 3) (e : ∀ k, 335 ≤ k → K 421 k = I 421 k) : Sim K := by
  obtain ⟨h1, h2, h3, _⟩ := h
  have kj : ∀ q, q < 420 → K q = J q := fun q hq => by rw [g q (by omega) (by omega) (by omega), remH_row (by omega) (by omega), up2_row (by omega)]
  have ji : ∀ q, q ≠ 200 → (q < 235 ∨ 245 < q) → q ≠ 252 → q ≠ 253 → (q < 288 ∨ 420 ≤ q) → J q = I q := fun q k1 k2 k3 k4 k5 => by rw [f q k2 k3 k4, reS_row k1 k5]
  have ki : ∀ q, q ≠ 200 → (q < 235 ∨ 245 < q) → q ≠ 252 → q ≠ 253 → q < 288 → K q = I q := fun q k1 k2 k3 k4 k5 => by rw [kj q (by omega), ji q k1 k2 k3 k4 (Or.inl k5)]
  refine ⟨D.eq fun q g1 g2 => kj q (by omega), h2.eq (fun q g1 g2 => ki q (by omega) (by omega) (by omega) (by omega) (by omega)) e3 e, h3.eq (fun q g1 g2 => ki q (by omega) (by omega) (by omega) (by omega) (by omega)) ?_ ?_ ?_, ?_⟩
  · rw [g 422 (by decide) (by decide) (by decide), remH_row (by decide) (by decide), up2_row (by decide), ji 422 (by decide) (by decide) (by decide) (by decide) (by decide)]
  · rw [kj 200 (by decide), f 200 (by decide) (by decide) (by decide), reS_el (by decide) (by decide)]
  · rw [g 420 (by decide) (by decide) (by decide), remH_el (by decide), up2_ne (by decide), ji 420 (by decide) (by decide) (by decide) (by decide) (by decide)]
  · refine hp.rem h1 (fun q g1 g2 => by rw [kj q g2, f q (by omega) (by omega) (by omega)]) (by rw [kj 200 (by decide), f 200 (by decide) (by decide) (by decide)]) (by rw [kj 200 (by decide), f 200 (by decide) (by decide) (by decide)]) ?_ ?_ e3
    · rw [g 425 (by decide) (by decide) (by decide)]
      exact remH_425 (by rw [up2_row (by decide), ji 425 (by decide) (by decide) (by decide) (by decide) (by decide)]) (by rw [up2_row (by decide), ji 421 (by decide) (by decide) (by decide) (by decide) (by decide)])
    · rw [g 420 (by decide) (by decide) (by decide), remH_7, remH_7, up2_ne (by decide), ji 420 (by decide) (by decide) (by decide) (by decide) (by decide)]
end T79zm
end
section
/-! ===== the acts keep the ranges ===== -/
section T79zn
variable {I J K : Nat → Nat → Int32} {a b n fa d p : Nat} {W V : Nat → Int32}
set_option maxRecDepth 100000
theorem Rg.du (h : Rg W) (hd : d < dn W) (f : ∀ k, (k < 23 + 6 * d ∨ 23 + 6 * d + 6 ≤ k) → V k = W k) (hv : RgD (pn W) (dn W) V d) : Rg V := by
  obtain ⟨⟨h1, h2, h3, h4⟩, hf, hp, hdd⟩ := h
  refine Rg.of h1 h2 ((f 0 (by omega)).trans h3) ((f 1 (by omega)).trans h4) (hf.eq fun k z1 z2 => f k (by omega)) (fun p z => (hp p z).eq (f _ (by omega)) (f _ (by omega))) (fun e' z => ?_)
  by_cases c : e' = d
  · rw [c]
    exact hv
  · exact (hdd e' z).eq fun k hk => f _ (by omega)
theorem Rg.pu (h : Rg W) (hp : p < pn W) (f : ∀ k, k ≠ 11 + 2 * p + 1 → V k = W k) (hv : Nb (V (11 + 2 * p + 1)) 9) : Rg V := by
  obtain ⟨⟨h1, h2, h3, h4⟩, hf, hpp, hdd⟩ := h
  refine Rg.of h1 h2 ((f 0 (by omega)).trans h3) ((f 1 (by omega)).trans h4) (hf.eq fun k z1 z2 => f k (by omega)) (fun p' z => ?_) (fun e' z => (hdd e' z).eq fun k hk => f _ (by omega))
  by_cases c : p' = p
  · subst c
    have h2 := (hpp p' z).1
    unfold RgP
    rw [f (11 + 2 * p') (by omega)]
    exact ⟨h2, hv⟩
  · exact (hpp p' z).eq (f _ (by omega)) (f _ (by omega))
theorem ix_of {m : Nat} (hm : m ≤ 12) {x : Int32} (h : inB x 0 (nI m - 1) = true) : ixN x < m ∧ x = nI (ixN x) := by
  obtain ⟨j, h1, rfl⟩ := inB_ix (by omega) h
  have e : ixN (nI j) = j := ixN_nI (by omega)
  rw [e]
  exact ⟨h1, rfl⟩
theorem vS_ix {nd : Nat} (hn : nd ≤ 12) {k x : Int32} (h : vS nd W k x = 0) : ixN x < nd ∧ W (23 + 6 * ixN x + 5) = k := by
  unfold vS at h
  by_cases c : inB x 0 (nI nd - 1) = true
  · rw [if_pos c] at h
    by_cases c2 : W (23 + 6 * ixN x + 5) = k
    · exact ⟨(ix_of hn c).1, c2⟩
    · rw [if_neg c2] at h
      exact absurd h (by decide)
  · rw [if_neg c] at h
    exact absurd h (by decide)
theorem mn99_nb {x : Int32} (h : Nb x 99) : Nb (mn 99 (x + 1)) 99 := by
  obtain ⟨k, hk, rfl⟩ := h
  by_cases e : k = 99
  · subst e
    exact ⟨99, by decide, by decide⟩
  · have t : ∀ j, j < 99 → mn 99 (nI j + 1) = nI (j + 1) := by decide +kernel
    exact ⟨k + 1, by omega, t k (by omega)⟩
theorem Nm.put (h : Nm I 235 W) {x : Int32} (c : vS (dn W) W 0 x = 0) : Nm (up2 I 240 (ixN x) (mn 99 (W (23 + 6 * ixN x + 2) + 1))) 235 (ud W (23 + 6 * ixN x + 2) (mn 99 (W (23 + 6 * ixN x + 2) + 1))) := by
  have hG := h.2.2
  have hd := (vS_ix hG.1.2.1 c).1
  have h12 : ixN x < 12 := Nat.lt_of_lt_of_le hd hG.1.2.1
  generalize ixN x = d at *
  refine ⟨Sd.ro (a := 235) (k := 2) h.1 h12 (by decide), h.2.1.eq (up2_row (by decide)) (up2_row (by decide)) (if_neg (by omega)) fun k g1 g2 => if_neg (by omega), hG.du hd (fun k hk => if_neg (by omega)) ?_⟩
  obtain ⟨a0, a1, a2, a3, a4, a5⟩ := hG.2.2.2 d hd
  unfold RgD ud
  rw [if_neg (by omega), if_neg (by omega), if_pos rfl, if_neg (by omega), if_neg (by omega), if_neg (by omega)]
  exact ⟨a0, a1, mn99_nb a2, a3, a4, a5⟩
end T79zn
end
section
/-! ===== forget, recall, hand, lean, free keep the ranges ===== -/
section T79zo
variable {I J K : Nat → Nat → Int32} {a b n fa d p : Nat} {W V : Nat → Int32}
set_option maxRecDepth 100000
theorem RgD.st {np nd : Nat} (h : RgD np nd W d) (c : ¬ W (23 + 6 * d + 5) = 1) {s : Nat} (hs : s ≤ 2) (h1 : s ≠ 1) : RgD np nd (ud W (23 + 6 * d + 5) (nI s)) d := by
  obtain ⟨a0, ⟨l, hl, e, f⟩, a2, a3, a4, a5⟩ := h
  unfold RgD ud
  rw [if_pos rfl, if_neg (by omega), if_neg (by omega), if_neg (by omega), if_neg (by omega), if_neg (by omega)]
  refine ⟨a0, ⟨l, hl, e, ⟨fun z => absurd (nI_inj (b := 1) (by omega) (by decide) z) h1, fun z => absurd (f.mpr z) c⟩⟩, a2, a3, a4, ⟨s, hs, rfl⟩⟩
theorem Nm.stt (h : Nm I 235 W) {k x : Int32} (hk : ¬ k = 1) (c : vS (dn W) W k x = 0) {s : Nat} (hs : s ≤ 2) (h1 : s ≠ 1) : Nm (up2 I 243 (ixN x) (nI s)) 235 (ud W (23 + 6 * ixN x + 5) (nI s)) := by
  have hG := h.2.2
  have hd := (vS_ix hG.1.2.1 c).1
  have hc := (vS_ix hG.1.2.1 c).2
  have h12 : ixN x < 12 := Nat.lt_of_lt_of_le hd hG.1.2.1
  generalize ixN x = d at *
  refine ⟨Sd.ro (a := 235) (k := 5) h.1 h12 (by decide), h.2.1.eq (up2_row (by decide)) (up2_row (by decide)) (if_neg (by omega)) fun k g1 g2 => if_neg (by omega), hG.du hd (fun k hk => if_neg (by omega)) ?_⟩
  exact (hG.2.2.2 d hd).st (by rw [hc]; exact hk) hs h1
theorem Nm.hand (h : Nm I 235 W) {x y : Int32} (c : vH (dn W) (pn W) W x y = 0) : Nm (up2 I 238 (ixN x) y) 235 (ud W (23 + 6 * ixN x + 0) y) := by
  have hG := h.2.2
  have hn := hG.1.2.1
  have hm := hG.1.1
  unfold vH at c
  by_cases c0 : inB x 0 (nI (dn W) - 1) = true ∧ inB y 0 (nI (pn W) - 1) = true
  · have hd := (ix_of hn c0.1).1
    obtain ⟨j, hj, ey⟩ := inB_ix (by omega) c0.2
    have h12 : ixN x < 12 := Nat.lt_of_lt_of_le hd hn
    clear c c0
    generalize ixN x = d at *
    refine ⟨Sd.ro (a := 235) (k := 0) h.1 h12 (by decide), h.2.1.eq (up2_row (by decide)) (up2_row (by decide)) (if_neg (by omega)) fun k g1 g2 => if_neg (by omega), hG.du hd (fun k hk => if_neg (by omega)) ?_⟩
    obtain ⟨a0, a1, a2, a3, a4, a5⟩ := hG.2.2.2 d hd
    unfold RgD ud
    rw [if_pos rfl, if_neg (by omega), if_neg (by omega), if_neg (by omega), if_neg (by omega), if_neg (by omega)]
    exact ⟨⟨j, hj, ey⟩, a1, a2, a3, a4, a5⟩
  · rw [if_neg c0] at c
    exact absurd c (by decide)
theorem Nm.lean (h : Nm I 235 W) {x y : Int32} (c : vL (dn W) x y = 0) : Nm (up2 I 242 (ixN x) y) 235 (ud W (23 + 6 * ixN x + 4) y) := by
  have hG := h.2.2
  have hn := hG.1.2.1
  unfold vL at c
  by_cases c0 : inB x 0 (nI (dn W) - 1) = true ∧ (y = -1 ∨ inB y 0 (nI (dn W) - 1) = true)
  · have hd := (ix_of hn c0.1).1
    have ey : y = -1 ∨ ∃ k, k < dn W ∧ y = nI k := c0.2.imp id fun z => inB_ix (by omega) z
    have h12 : ixN x < 12 := Nat.lt_of_lt_of_le hd hn
    clear c c0
    generalize ixN x = d at *
    refine ⟨Sd.ro (a := 235) (k := 4) h.1 h12 (by decide), h.2.1.eq (up2_row (by decide)) (up2_row (by decide)) (if_neg (by omega)) fun k g1 g2 => if_neg (by omega), hG.du hd (fun k hk => if_neg (by omega)) ?_⟩
    obtain ⟨a0, a1, a2, a3, a4, a5⟩ := hG.2.2.2 d hd
    unfold RgD ud
    rw [if_pos rfl, if_neg (by omega), if_neg (by omega), if_neg (by omega), if_neg (by omega), if_neg (by omega)]
    exact ⟨a0, a1, a2, a3, ey, a5⟩
  · rw [if_neg c0] at c
    exact absurd c (by decide)
theorem Nm.free (h : Nm I 235 W) {x y : Int32} (c : vF (pn W) x y = 0) : Nm (up2 I 237 (ixN x) y) 235 (ud W (11 + 2 * ixN x + 1) y) := by
  have hG := h.2.2
  have hm := hG.1.1
  unfold vF at c
  by_cases c0 : inB x 0 (nI (pn W) - 1) = true
  · rw [if_pos c0] at c
    by_cases c1 : inB y 0 9 = true
    · have hp := (ix_of (Nat.le_trans hm (by decide)) c0).1
      obtain ⟨j, _, hj, ey⟩ := inB_nI (a := 0) (b := 9) (by decide) c1
      have h6 : ixN x < 6 := Nat.lt_of_lt_of_le hp hm
      clear c c0 c1
      generalize ixN x = p at *
      refine ⟨Sd.fr (a := 235) h.1 h6, h.2.1.eq (up2_row (by decide)) (up2_row (by decide)) (if_neg (by omega)) fun k g1 g2 => if_neg (by omega), hG.pu hp (fun k hk => if_neg (by omega)) ?_⟩
      unfold ud
      rw [if_pos rfl]
      exact ⟨j, hj, ey⟩
    · rw [if_neg c1] at c
      exact absurd c (by decide)
  · rw [if_neg c0] at c
    exact absurd c (by decide)
end T79zo
end
section
/-! ===== call, days keep the relation ===== -/
section T79zp
variable {I J K : Nat → Nat → Int32} {a b n fa d p nl len m : Nat} {cd fc fn : Nat → Nat} {W V : Nat → Int32}
set_option maxRecDepth 100000
theorem Nm.call (h : Nm I 235 W) {x : Int32} (c : vC (dn W) W x = 0) : Nm (up2 (up2 I 239 (ixN x) 0) 243 (ixN x) 1) 235 (ud (ud W (23 + 6 * ixN x + 1) 0) (23 + 6 * ixN x + 5) 1) := by
  have hG := h.2.2
  have hn := hG.1.2.1
  unfold vC at c
  by_cases c0 : inB x 0 (nI (dn W) - 1) = true
  · have hd := (ix_of hn c0).1
    have h12 : ixN x < 12 := Nat.lt_of_lt_of_le hd hn
    clear c c0
    generalize ixN x = d at *
    refine ⟨Sd.ro (a := 235) (k := 5) (Sd.ro (a := 235) (k := 1) h.1 h12 (by decide)) h12 (by decide), h.2.1.eq ?_ ?_ ?_ fun k g1 g2 => ?_, (hG.upd hd (fun k k1 k5 => ?_) (l := 0) (s := 1) (by decide) ?_ (by decide) ?_ (by decide)).1⟩
    · rw [up2_row (by decide), up2_row (by decide)]
    · rw [up2_row (by decide), up2_row (by decide)]
    · unfold ud
      rw [if_neg (by omega), if_neg (by omega)]
    · unfold ud
      rw [if_neg (by omega), if_neg (by omega)]
    · unfold ud
      rw [if_neg k5, if_neg k1]
    · unfold ud
      rw [if_neg (by omega), if_pos rfl]
      rfl
    · unfold ud
      rw [if_pos rfl]
      rfl
  · rw [if_neg c0] at c
    exact absurd c (by decide)
/-- the days of both sides keep the relation -/
theorem Sim.days (h : Sim I) (hp : PsN I n fa) (ok : DsOk nl (I 421) (dsW false cd fc fn nl (I 421) m)) (f : ∀ q, (q < 235 ∨ 245 < q) → q ≠ 252 → q ≠ 253 → J q = reS I n fa q) (D : Sd J 235 (dsW false cd fc fn nl (I 421) m)) (G : Lg J 235 (dsW false cd fc fn nl (I 421) m)) (g : ∀ q, q ≠ 421 → q ≠ 428 → q ≠ 429 → K q = remH (up2 J 420 0 0) n q) (g1 : K 421 = dsW false cd fc fn nl (I 421) m) : Sim K := by
  refine h.act hp f g ?_ ?_ ?_
  · rw [g1]
    exact ⟨D, G, ok.1⟩
  · rw [g1]
    exact ok.2.2.2.2.1
  · rw [g1]
    exact ok.2.2.2.2.2
end T79zp
end
section
/-! ===== law of both sides with finer frames; both laws alike behind a text (printed by program) ===== -/
section T79zq
variable {S : aS} {I J : Nat → Nat → Int32} {L : Nat → Nat → Int64} {w1 w2 t : Nat} {e b nd np : Nat} {T W K : Nat → Int32} {o : List Int32} {ls : List LnT}
set_option maxRecDepth 100000
/-- what law may change in the class -/
def sLf (q k : Nat) : Bool := sW q k || ((Nat.beq q 200 && Nat.beq k 3) || (Nat.beq q 201 && Nat.beq k 1))
def sLw (q k : Nat) : Bool := sLf q k || ((Nat.beq q 200 && Nat.beq k 13) || (Nat.ble 246 q && Nat.ble q 251))
theorem sW_sLf : ∀ q k, sW q k = true → sLf q k = true := fun q k h => by
  unfold sLf
  rw [h]
  rfl
theorem sLf_sLw : ∀ q k, sLf q k = true → sLw q k = true := fun q k h => by
  unfold sLw
  rw [h]
  rfl
theorem sLw_l {q k : Nat} (h1 : 246 ≤ q) (h2 : q ≤ 251) : sLw q k = true := by
  unfold sLw
  rw [Nat.ble_eq_true_of_le h1, Nat.ble_eq_true_of_le h2]
  cases sLf q k <;> cases (Nat.beq q 200 && Nat.beq k 13) <;> rfl
theorem sLf_hi {q k : Nat} (h : 235 ≤ q) : sLf q k = false := by
  have n : ∀ {x : Nat}, x < 235 → Nat.beq q x = false := fun hx => beqF (by omega)
  have m : ∀ {x : Nat}, x < 235 → Nat.ble q x = false := fun {x} hx => by
    cases hb : Nat.ble q x with
    | false => rfl
    | true => exact absurd (Nat.le_of_ble_eq_true hb) (by omega)
  simp [sLf, sW, sC, n, m]
theorem sLw_hi {q k : Nat} (h : 235 ≤ q) (h2 : q < 246 ∨ 251 < q) : sLw q k = false := by
  unfold sLw
  rw [sLf_hi h, beqF (show q ≠ 200 by omega)]
  rcases h2 with h2 | h2
  · have e1 : Nat.ble 246 q = false := by
      cases hb : Nat.ble 246 q with
      | false => rfl
      | true => exact absurd (Nat.le_of_ble_eq_true hb) (by omega)
    rw [e1]
    rfl
  · have e1 : Nat.ble q 251 = false := by
      cases hb : Nat.ble q 251 with
      | false => rfl
      | true => exact absurd (Nat.le_of_ble_eq_true hb) (by omega)
    rw [e1]
    cases Nat.ble 246 q <;> rfl
theorem h_lawS (hw : WdS S) (hr : RI nd np I) (hbt : BtT T) (hT : I 426 = T) (h9 : I 420 9 = nI e) (h4 : e ≤ 400) : Sp S m_X12_law 62 0 0 [.ref 420] (hp I L w1 w2 t) (fun v h' => v = some (.int (if (lawP T e).1 = true then nI (lawP T e).2.2.2.length else 0)) ∧ ∃ J, h' = hp J L w1 w2 t ∧ Us nd np I J ∧ J 420 0 = (if (lawP T e).1 = true then 0 else 1) ∧ J 420 14 = (if (lawP T e).1 = true then -1 else nI (lawP T e).2.1) ∧ (∀ q, q ≠ 420 → q ≠ 421 → J q = I q) ∧ LwJ (lawP T e) I J ∧ ((lawP T e).1 = true → J 420 7 = 0 ∧ ∀ k, k < 335 → k ≠ 3 → J 421 k = I 421 k) ∧ ((lawP T e).1 = false → J 420 7 = I 420 7)) nX := by
  refine Sp_of ok_X12_law rfl rfl ?_
  show AW S m_X12_law 62 _ _ 0 0 0 [some (.ref 420), none, none] [] (hp I L w1 w2 t)
  have fU : Fm sL I (usH I) := by
    unfold usH
    exact Fm.up (Fm.up (Fm.up (Fm.up Fm.rf rfl) rfl) rfl) rfl
  have u0 : usH I 420 0 = 0 := by
    unfold usH
    rw [up2_ne (Or.inr (by decide)), up2_ne (Or.inr (by decide)), up2_ne (Or.inr (by decide))]
    exact up2_at
  refine a_l0 rfl rfl rfl ?_
  refine a_s rfl rfl ?_
  refine a_gV rfl lX12_239 mo_X12_readAll (h_readAllL hw hbt hT h9 h4) rfl rfl rfl ⟨12, _, rfl, rfl, rfl⟩ rfl (fun v' h' hv => ?_)
  obtain ⟨rfl, J, rfl, hF, hn, hy⟩ := hv
  have hG : GL I J := ⟨Fm.tr fU (Fm.mo hF sG_sL), (hF 420 9 rfl).trans usH_9⟩
  have j0 : J 420 0 = 0 := (hF 420 0 rfl).trans u0
  have other : ∀ q, q ≠ 420 → q ≠ 421 → J q = I q := fun q g1 g2 => by
    rw [show J q = usH I q from funext fun k => hF q k (by unfold sG sR; rw [beqF g1, beqF g2]; rfl), usH_row g1]
  rcases er : lawP T e with ⟨z, b1, o1, l1⟩
  rw [er] at hn hy
  have lok := lawP_ok (T := T) (e := e)
  rw [er] at lok
  cases z with
  | false =>
    refine a_top (y := (-1)) (rfl) ?_
    refine a_s1 rfl rfl rfl rfl rfl rfl ?_
    refine a_l0 rfl rfl rfl ?_
    refine a_l1 rfl rfl rfl ?_
    refine a_if_ge rfl (fun c => absurd c (by decide)) (fun _ => ?_)
    refine a_l0 rfl rfl rfl ?_
    refine a_getiv (v := nI b1) rfl gfX12_91_12 rfl (hn rfl) ?_
    refine a_goto rfl ?_
    refine a_puti rfl pfX12_33_12 rfl ?_
    refine a_l0 rfl rfl rfl ?_
    refine a_l1 rfl rfl rfl ?_
    refine a_if_ge rfl (fun c => absurd c (by decide)) (fun _ => ?_)
    refine a_s rfl rfl ?_
    refine a_goto rfl ?_
    refine a_s rfl rfl ?_
    refine a_eV1 rfl lX12_243 mo_X12_throwsIf (h_throwsIf (z := true)) rfl rfl rfl ⟨12, _, rfl, rfl, rfl⟩ rfl ?_
    rw [if_pos rfl]
    refine a_if_eq rfl (fun c => absurd c (by decide)) (fun _ => ?_)
    refine a_s rfl rfl ?_
    have g2 : GL I (up2 (up2 J 420 14 (nI b1)) 420 0 1) := ⟨Fm.up (Fm.up hG.1 rfl) rfl, (up2_ne (Or.inr (by decide))).trans ((up2_ne (Or.inr (by decide))).trans hG.2)⟩
    refine a_iret rfl rfl ⟨rfl, _, rfl, Us.same hr g2, ?_, ?_, ?_, ⟨?_, ?_⟩, (fun z => by cases z), fun _ => ?_⟩
    · exact up2_at
    · exact (up2_ne (Or.inr (by decide))).trans up2_at
    · intro q g1 g3
      rw [up2_row g1, up2_row g1]
      exact other q g1 g3
    · exact fun z => by cases z
    · intro _ k hk
      rw [up2_row (by decide), up2_row (by decide), hF 421 k (sG_lo hk), usH_row (by decide)]
    · exact (up2_ne (Or.inr (by decide))).trans ((up2_ne (Or.inr (by decide))).trans (hG.1 420 7 rfl))
  | true =>
    refine a_top (y := nI l1.length) (rfl) ?_
    obtain ⟨x1, x2, x3, x4, x5⟩ := hy rfl
    have x4 : l1.length ≤ 12 := x4
    have x5 : o1.length ≤ 400 := x5
    refine a_s1 rfl rfl rfl rfl rfl rfl ?_
    refine a_l0 rfl rfl rfl ?_
    refine a_l1 rfl rfl rfl ?_
    refine a_if_ge rfl (fun _ => ?_) (fun c => absurd (nI_0le (k := l1.length) (by omega)) c)
    refine a_s rfl rfl ?_
    refine a_puti rfl pfX12_33_12 rfl ?_
    refine a_l0 rfl rfl rfl ?_
    refine a_l1 rfl rfl rfl ?_
    refine a_if_ge rfl (fun _ => ?_) (fun c => absurd (nI_0le (k := l1.length) (by omega)) c)
    refine a_s rfl rfl ?_
    refine a_s rfl rfl ?_
    refine a_eV1 rfl lX12_243 mo_X12_throwsIf (h_throwsIf (z := false)) rfl rfl rfl ⟨12, _, rfl, rfl, rfl⟩ rfl ?_
    rw [if_neg Bool.false_ne_true]
    generalize hK : up2 J 420 14 (-1) = K
    have gK : GL I K := by
      subst hK
      exact ⟨Fm.up hG.1 rfl, (up2_ne (Or.inr (by decide))).trans hG.2⟩
    have eK : K 421 = J 421 := by
      subst hK
      exact up2_row (by decide)
    have k0 : K 420 0 = 0 := by
      subst hK
      exact (up2_ne (Or.inr (by decide))).trans j0
    have k14 : K 420 14 = -1 := by
      subst hK
      exact up2_at
    have kother : ∀ q, q ≠ 420 → q ≠ 421 → K q = I q := fun q g1 g2 => by
      subst hK
      rw [up2_row g1]
      exact other q g1 g2
    have fin := Us.law (nl := l1.length) hr gK x4 x5 (by rw [eK]; exact LD_of x2 x3 (lok rfl))
    refine a_if_eq rfl (fun _ => ?_) (fun c => absurd rfl c)
    refine a_l0 rfl rfl rfl ?_
    refine a_getq rfl gfX12_13_12 rfl (rfl) ?_
    refine a_s rfl rfl ?_
    refine a_l1 rfl rfl rfl ?_
    refine a_iastv (k := 1184) rfl (n := 2033) rfl ⟨by decide, by decide⟩ rfl ?_
    refine a_s rfl rfl ?_
    refine a_s2 rfl rfl rfl rfl rfl rfl ?_
    refine a_forE (n := 849) (fun j => [some (.ref 420), some (.int (nI l1.length)), some (.int (nI j))]) (fun j => hp (cpR (up2 K 421 1184 (nI l1.length)) 421 335 421 1184 j) L w1 w2 t) (by simp [lsub, nI_0]) (by rw [cpR_0]) ?_ (fun j hj ih => ?_)
    · refine a_l2 rfl rfl rfl ?_
      refine a_s rfl rfl ?_
      refine a_ic_ge rfl (fun _ => ?_) (fun c => absurd (Int32.le_refl _) c)
      refine a_l0 rfl rfl rfl ?_
      refine a_getq rfl gfX12_13_12 rfl (rfl) ?_
      refine a_s rfl rfl ?_
      refine a_s rfl rfl ?_
      refine a_iastv (k := 3) rfl (n := 2033) rfl ⟨by decide, by decide⟩ rfl ?_
      refine a_l0 rfl rfl rfl ?_
      refine a_s rfl rfl ?_
      refine a_puti rfl pfX12_53_12 rfl ?_
      refine a_l1 rfl rfl rfl ?_
      have r0 : ∀ k, k ≠ 7 → lawH K l1.length 420 k = K 420 k := fun k hk => by
        unfold lawH
        rw [up2_ne (Or.inr hk), up2_row (by decide), cpR_row (by decide), up2_row (by decide)]
      refine a_iret rfl rfl ⟨rfl, _, rfl, fin, ?_, ?_, ?_, ⟨?_, ?_⟩, (fun _ => ⟨?_, fun k k1 k2 => ?_⟩), (fun z => by cases z)⟩
      · exact (r0 0 (by decide)).trans k0
      · exact (r0 14 (by decide)).trans k14
      · intro q g1 g2
        show lawH K l1.length q = I q
        unfold lawH
        rw [up2_row g1, up2_row g2, cpR_row g2, up2_row g2]
        exact kother q g1 g2
      · refine fun _ => ⟨?_, ?_, J 421, x2, x3, fun k k1 k2 => ?_⟩
        · show lawH K l1.length 421 3 = 1
          unfold lawH
          rw [up2_row (by decide)]
          exact up2_at
        · show lawH K l1.length 421 335 = nI l1.length
          unfold lawH
          rw [up2_row (by decide), u2_lo (by decide), show 335 = 335 + 0 by omega, cpR_in (by decide)]
          exact up2_at
        · show lawH K l1.length 421 (335 + k) = _
          unfold lawH
          rw [up2_row (by decide), u2_lo (by omega), cpR_in k2, u2_lo (by omega), eK, Nat.add_comm]
      · exact fun z => by cases z
      · show lawH K l1.length 420 7 = 0
        unfold lawH
        exact up2_at
      · show lawH K l1.length 421 k = I 421 k
        unfold lawH
        rw [up2_row (by decide), u2_lo k2, cpR_out (by omega), u2_lo (by omega), eK]
        exact hG.1 421 k (sL_lo (by omega))
    · refine a_l2 rfl rfl rfl ?_
      refine a_s rfl rfl ?_
      refine a_ic_ge rfl (fun c => absurd c (nI_ge (b := 849) hj (by omega))) (fun _ => ?_)
      refine a_l0 rfl rfl rfl ?_
      refine a_getq rfl gfX12_13_12 rfl (rfl) ?_
      refine a_s rfl rfl ?_
      refine a_l2 rfl rfl rfl ?_
      refine a_s rfl rfl ?_
      refine a_top (y := nI (335 + j)) (nI_addl 335 j) ?_
      refine a_l0 rfl rfl rfl ?_
      refine a_getq rfl gfX12_13_12 rfl (rfl) ?_
      refine a_s rfl rfl ?_
      refine a_l2 rfl rfl rfl ?_
      refine a_s rfl rfl ?_
      refine a_top (y := nI (1184 + j)) (nI_addl 1184 j) ?_
      refine a_ialdv (v := up2 K 421 1184 (nI l1.length) 421 (j + 1184)) rfl (n := 2033) rfl (inI_nI (by omega) (by omega)) (by rw [nI_clamp (by omega), cpR_out (by omega), Nat.add_comm]) ?_
      refine a_iastv (k := 335 + j) rfl (n := 2033) rfl (inI_nI (by omega) (by omega)) (nI_clamp (by omega)) ?_
      rw [cpR_succ]
      refine a_i2 rfl rfl rfl ?_
      refine a_goto rfl ?_
      exact a_back ih (by simp [lsub, nI_1]) rfl
theorem f_lawS (hw : WdS S) (he : I 201 1 = nI e) (h4 : e ≤ 400) (hbt : BtT T) (hT : I 202 = T) (hm : I 220 1 = 12) : Sp S m_X11_law 21 1 6 [.ref 200] (hp I L w1 w2 t) (fun v h' => v = some (.int (nI (lawP T e).2.2.2.length)) ∧ (lawP T e).1 = true ∧ ∃ J w, h' = hp J L w1 w t ∧ WK w ∧ Mt0 I J ∧ LwC (lawP T e) J ∧ Fm sLw I J ∧ (lawP T e).2.2.2.length ≤ 12 ∧ (lawP T e).2.2.1.length ≤ 400) (fun E h' => E = exN 1 ∧ (lawP T e).1 = false ∧ ∃ J w, h' = hp J L w1 w 0 ∧ WK w ∧ Mt0 I J ∧ J 200 3 = nI (lawP T e).2.1 ∧ Fm sLf I J) := by
  refine Sp_of ok_X11_law rfl rfl ?_
  show AW S m_X11_law 21 _ _ 1 6 0 [some (.ref 200)] [] (hp I L w1 w2 t)
  refine a_l0 rfl rfl rfl ?_
  refine a_getq rfl gfX11_26_11 rfl (rfl) ?_
  refine a_getq rfl gfX11_98_3 rfl (rfl) ?_
  refine a_eV0 rfl lX11_100 mo_X2_clear f_clear rfl rfl rfl ⟨2, _, rfl, rfl, rfl⟩ rfl ?_
  refine a_l0 rfl rfl rfl ?_
  refine a_l0 rfl rfl rfl ?_
  refine a_getq rfl gfX11_26_11 rfl (rfl) ?_
  refine a_l0 rfl rfl rfl ?_
  refine a_getq rfl gfX11_10_11 rfl (rfl) ?_
  have g1 : ∀ q, q ≠ 226 → up2 (up2 I 226 0 0) 226 1 0 q = I q := fun q hq => by rw [up2_row hq, up2_row hq]
  refine a_callU rfl lu_103 dc_readLines mo_X8_readLines hx_rl (f_readLines hw ((congrFun (g1 201 (by decide)) 1).trans he) h4 (by rw [g1 202 (by decide), hT]; exact hbt) ((congrFun (g1 220 (by decide)) 1).trans hm) ((up2_ne (Or.inr (by decide))).trans up2_at) up2_at) rfl rfl rfl ⟨3, _, rfl, rfl, rfl⟩ rfl (fun v' h' hv => ?_) (fun _ _ z => False.elim z)
  rw [g1 202 (by decide), hT] at hv
  obtain ⟨rfl, J, w, rfl, hww, hF, hy⟩ := hv
  have f0 : Fm sLf I J := Fm.tr (Fm.up (Fm.up Fm.rf rfl) rfl) (Fm.mo hF sW_sLf)
  have fM : Mt I J := Mt.of (Fm.tr (Fm.up (Fm.up Fm.rf rfl) rfl) (Fm.mo hF sW_sM))
  rcases er : lawP T e with ⟨z, b1, o1, l1⟩
  rw [er] at hy
  cases z with
  | false =>
    rw [if_neg Bool.false_ne_true]
    refine a_puti rfl pfX11_30_11 rfl ?_
    refine a_l0 rfl rfl rfl ?_
    refine a_getq rfl gfX11_10_11 rfl (rfl) ?_
    refine a_s rfl rfl ?_
    refine a_puti rfl pfX11_68_7 rfl ?_
    have fM0 : Mt0 I (up2 (up2 J 200 3 (nI b1)) 201 1 0) := Mt0.mk (Mt.fm fM (Fm.up Fm.rf rfl))
    have e3 : up2 (up2 J 200 3 (nI b1)) 201 1 0 200 3 = nI b1 := (congrFun (up2_row (by decide)) 3).trans up2_at
    refine a_l0 rfl rfl rfl ?_
    refine a_getiv (v := nI b1) rfl gfX11_30_11 rfl (e3) ?_
    refine a_s rfl rfl ?_
    have hb1 : b1 < 2 ^ 31 := by
      have := lawP_le (T := T) (e := e)
      rw [er] at this
      have this : b1 ≤ e := this
      omega
    refine a_ic_eq rfl (fun c => absurd c ?_) (fun _ => ?_)
    · intro z
      have := nI_pos hb1
      rw [z] at this
      exact this (by decide)
    exact a_throw rfl rfl rfl rfl tX11_iae rfl rfl rfl rfl rfl ⟨rfl, rfl, _, w, rfl, hww, fM0, e3, Fm.up (Fm.up f0 rfl) rfl⟩
  | true =>
    rw [if_pos rfl]
    obtain ⟨y1, y2, y3, y4, y5, y6⟩ := hy rfl
    refine a_puti rfl pfX11_30_11 rfl ?_
    refine a_l0 rfl rfl rfl ?_
    refine a_getq rfl gfX11_10_11 rfl (rfl) ?_
    refine a_s rfl rfl ?_
    refine a_puti rfl pfX11_68_7 rfl ?_
    have fM0 : Mt0 I (up2 (up2 J 200 3 (-1)) 201 1 0) := Mt0.mk (Mt.fm fM (Fm.up Fm.rf rfl))
    refine a_l0 rfl rfl rfl ?_
    refine a_getiv (v := (-1)) rfl gfX11_30_11 rfl ((congrFun (up2_row (by decide)) 3).trans up2_at) ?_
    refine a_s rfl rfl ?_
    refine a_ic_eq rfl (fun _ => ?_) (fun c => absurd rfl c)
    refine a_l0 rfl rfl rfl ?_
    refine a_getq rfl gfX11_44_11 rfl (rfl) ?_
    refine a_l0 rfl rfl rfl ?_
    refine a_getq rfl gfX11_26_11 rfl (rfl) ?_
    refine a_getq rfl gfX11_98_3 rfl (rfl) ?_
    refine a_eV0 rfl lX11_104 mo_X2_copyFrom (sp_X2_copyFrom (a := 246) (b := 226) (by decide) (by decide) (by decide)) rfl rfl rfl ⟨2, _, rfl, rfl, rfl⟩ rfl ?_
    refine a_l0 rfl rfl rfl ?_
    refine a_s rfl rfl ?_
    refine a_puti rfl pfX11_95_11 rfl ?_
    have fM1 : Mt0 I (up2 (cpL (up2 (up2 J 200 3 (-1)) 201 1 0) 246 226) 200 13 0) := Mt0.fm (Mt0.fm fM0 (Fm.cl (Fm.rf (s := sM)) (by decide) Fm_l246)) (Fm.up Fm.rf rfl)
    have r0 : ∀ k, up2 (cpL (up2 (up2 J 200 3 (-1)) 201 1 0) 246 226) 200 13 0 246 k = cpL (up2 (up2 J 200 3 (-1)) 201 1 0) 246 226 246 k := fun k => congrFun (up2_row (by decide)) k
    have e0 : up2 (cpL (up2 (up2 J 200 3 (-1)) 201 1 0) 246 226) 200 13 0 246 0 = nI l1.length := by
      rw [r0]
      unfold cpL
      rw [up2_at, up2_row (by decide), up2_row (by decide)]
      exact y3
    have ri : ∀ i, i < 5 → up2 (cpL (up2 (up2 J 200 3 (-1)) 201 1 0) 246 226) 200 13 0 (247 + i) = J (227 + i) := fun i hi => by
      rw [up2_row (by omega)]
      unfold cpL
      rw [up2_row (by omega), show 247 + i = 246 + 1 + i from rfl, cpS_in hi, up2_row (by omega), up2_row (by omega)]
    refine a_l0 rfl rfl rfl ?_
    refine a_getq rfl gfX11_44_11 rfl (rfl) ?_
    refine a_getiv (v := nI l1.length) rfl gfX11_107_2 rfl (e0) ?_
    have f1 : Fm sLw I (up2 (cpL (up2 (up2 J 200 3 (-1)) 201 1 0) 246 226) 200 13 0) := Fm.up (Fm.cl (Fm.mo (Fm.up (Fm.up f0 rfl) rfl) sLf_sLw) rfl fun i k hi => sLw_l (by omega) (by omega)) rfl
    refine a_iret rfl rfl ⟨rfl, rfl, _, w, rfl, hww, fM1, ⟨?_, up2_at, e0, ?_, ?_⟩, f1, y5, y6⟩
    · rw [up2_ne (Or.inr (by decide))]
      unfold cpL
      rw [up2_row (by decide), cpS_out (by decide), up2_row (by decide)]
      exact up2_at
    · rw [show (247 : Nat) = 247 + 0 from rfl, show (248 : Nat) = 247 + 1 from rfl, show (249 : Nat) = 247 + 2 from rfl, show (250 : Nat) = 247 + 3 from rfl, ri 0 (by decide), ri 1 (by decide), ri 2 (by decide), ri 3 (by decide)]
      exact y4
    · rw [show (251 : Nat) = 247 + 4 from rfl, ri 4 (by decide)]
      exact y2
/-- the numbers of a law's lines -/
def LnB (ls : List LnT) : Prop := ∀ i, i < ls.length → Nb (lnAt ls i).2.1 60
theorem LnB.ad {k v : Int32} {x y : Nat} (h : LnB ls) (hv : Nb v 60) : LnB ((k, v, x, y) :: ls) := fun i hi => by
  have hi : i < ls.length + 1 := hi
  by_cases c : i = ls.length
  · rw [show lnAt ((k, v, x, y) :: ls) i = (k, v, x, y) from if_pos c]
    exact hv
  · rw [show lnAt ((k, v, x, y) :: ls) i = lnAt ls i from if_neg c]
    exact h i (by omega)
theorem lnP_nb (hz : (lnP T e b o).1 = true) : Nb (nm T e (nx T e b) 0 60) 60 := by
  unfold lnP at hz
  by_cases c1 : kndP T e b = -1
  · rw [if_pos c1] at hz
    cases hz
  rw [if_neg c1] at hz
  by_cases c2 : nm T e (nx T e b) 0 60 = -1
  · rw [if_pos c2] at hz
    cases hz
  exact Nc.nb (nm_rg (T := T) (e := e) (b := nx T e b) (l := 0) (m := 60) (by decide) (by decide) c2)
theorem lnsP_nb : ∀ (f b : Nat) (o : List Int32) (ls : List LnT), LnB ls → (lnsP T e f b o ls).1 = true → LnB (lnsP T e f b o ls).2.2.2 := by
  intro f
  induction f with
  | zero => exact fun b o ls _ z => by cases z
  | succ f ih =>
    intro b o ls h hz
    rw [lnsP_s] at hz ⊢
    by_cases c1 : (lnP T e b o).1 = true
    · rw [if_pos c1] at hz ⊢
      have h2 : LnB (lnV T e b o (lnP T e b o).2.2 :: ls) := LnB.ad h (lnP_nb c1)
      by_cases c2 : (lnP T e b o).2.1 < e
      · rw [if_pos c2] at hz ⊢
        by_cases c3 : sg T e (lnP T e b o).2.1 59 = true
        · rw [if_pos c3] at hz ⊢
          exact ih _ _ _ h2 hz
        · rw [if_neg c3] at hz
          cases hz
      · rw [if_neg c2]
        exact h2
    · rw [if_neg c1] at hz
      cases hz
theorem lawP_nb (hz : (lawP T e).1 = true) : LnB (lawP T e).2.2.2 := by
  have h0 : LnB [] := fun i hi => absurd hi (Nat.not_lt_zero _)
  unfold lawP at hz ⊢
  by_cases c : bg T e 0 < e
  · rw [if_pos c] at hz ⊢
    exact lnsP_nb _ _ _ _ h0 hz
  · rw [if_neg c]
    exact h0
theorem LnL.at {f0 f1 f2 f3 : Nat → Int32} : ∀ {r : List LnT}, LnL f0 f1 f2 f3 r → ∀ i, i < r.length → f0 i = (lnAt r i).1 ∧ f1 i = (lnAt r i).2.1 ∧ f2 i = nI (lnAt r i).2.2.1 ∧ f3 i = nI (lnAt r i).2.2.2 := by
  intro r
  induction r with
  | nil => exact fun _ i hi => absurd hi (Nat.not_lt_zero _)
  | cons x r ih =>
    intro h i hi
    have hi : i < r.length + 1 := hi
    by_cases c : i = r.length
    · rw [show lnAt (x :: r) i = x from if_pos c, c]
      exact h.1
    · rw [show lnAt (x :: r) i = lnAt r i from if_neg c]
      exact ih h.2 i (by omega)
theorem RowL.at {f : Nat → Int32} : ∀ {r : List Int32}, RowL f r → ∀ i, i < r.length → f i = cdL r i := by
  intro r
  induction r with
  | nil => exact fun _ i hi => absurd hi (Nat.not_lt_zero _)
  | cons x r ih =>
    intro h i hi
    have hi : i < r.length + 1 := hi
    by_cases c : i = r.length
    · rw [show cdL (x :: r) i = x from if_pos c, c]
      exact h.1
    · rw [show cdL (x :: r) i = cdL r i from if_neg c]
      exact ih h.2 i (by omega)
/-- both laws are alike behind the same text -/
theorem Nl.of (hk : LsOk o ls) (h12 : ls.length ≤ 12) (h400 : o.length ≤ 400) (hB : LnB ls) (c0 : J 246 0 = nI ls.length) (c1 : LnL (J 247) (J 248) (J 249) (J 250) ls) (c2 : RowL (J 251) o) (w3 : W 3 = 1) (w335 : W 335 = nI ls.length) (k1 : RowS K o) (k2 : LnW K ls) (ek : ∀ k, 1 ≤ k → k < 849 → W (335 + k) = K (1184 + k)) : Nl J 246 W := by
  obtain ⟨g1, g2⟩ := hk
  have ln : ∀ n, n < ls.length → W (336 + 4 * n) = (lnAt ls n).1 ∧ W (336 + 4 * n + 1) = (lnAt ls n).2.1 ∧ W (336 + 4 * n + 2) = nI (lnAt ls n).2.2.1 ∧ W (336 + 4 * n + 3) = nI (lnAt ls n).2.2.2 := fun n hn => by
    obtain ⟨l1, l2, l3, l4⟩ := LnW.at k2 n hn
    refine ⟨?_, ?_, ?_, ?_⟩
    · rw [show 336 + 4 * n = 335 + (1 + 4 * n) by omega, ek _ (by omega) (by omega), show 1184 + (1 + 4 * n) = 1185 + 4 * n by omega]
      exact l1
    · rw [show 336 + 4 * n + 1 = 335 + (2 + 4 * n) by omega, ek _ (by omega) (by omega), show 1184 + (2 + 4 * n) = 1185 + 4 * n + 1 by omega]
      exact l2
    · rw [show 336 + 4 * n + 2 = 335 + (3 + 4 * n) by omega, ek _ (by omega) (by omega), show 1184 + (3 + 4 * n) = 1185 + 4 * n + 2 by omega]
      exact l3
    · rw [show 336 + 4 * n + 3 = 335 + (4 + 4 * n) by omega, ek _ (by omega) (by omega), show 1184 + (4 + 4 * n) = 1185 + 4 * n + 3 by omega]
      exact l4
  have hj : ∀ n, n < ls.length → (lnAt ls n).2.2.1 + ((lnAt ls n).2.2.2 - (lnAt ls n).2.2.1) = (lnAt ls n).2.2.2 := fun n hn => by
    have := (g2 n hn).1
    omega
  refine ⟨ls.length, o.length, cdN o, fun n => (lnAt ls n).2.2.1, fun n => (lnAt ls n).2.2.2 - (lnAt ls n).2.2.1, ⟨⟨Or.inr c0, h12, h400, fun i hi => ?_, fun n hn => ?_⟩, ⟨Or.inr ⟨w3, w335⟩, h12, h400, fun i hi => ?_, fun n hn => ?_⟩, fun n hn => ?_, ⟨fun z => ?_, fun z => ?_⟩⟩, h12, fun n hn => ?_⟩
  · obtain ⟨k, m, -, -, -, -, -, a6⟩ := okC_st (cdL_ok g1 i hi)
    exact (RowL.at c2 i hi).trans a6
  · obtain ⟨-, -, a3, a4⟩ := LnL.at c1 n hn
    refine ⟨a3, ?_, ?_, (g2 n hn).2.2⟩
    · show J 250 n = nI ((lnAt ls n).2.2.1 + ((lnAt ls n).2.2.2 - (lnAt ls n).2.2.1))
      rw [hj n hn]
      exact a4
    · show (lnAt ls n).2.2.1 + ((lnAt ls n).2.2.2 - (lnAt ls n).2.2.1) ≤ o.length
      rw [hj n hn]
      exact (g2 n hn).2.1
  · obtain ⟨k, m, a1, a2, a3, a4, a5, -⟩ := okC_st (cdL_ok g1 i hi)
    obtain ⟨r1, r2⟩ := RowS.at k1 i hi
    refine ⟨k, m, a1, a2, ?_, ?_, a5⟩
    · rw [show 384 + 2 * i = 335 + (49 + 2 * i) by omega, ek _ (by omega) (by omega), show 1184 + (49 + 2 * i) = 1233 + 2 * i by omega]
      exact r1.trans a3
    · rw [show 385 + 2 * i = 335 + (50 + 2 * i) by omega, ek _ (by omega) (by omega), show 1184 + (50 + 2 * i) = 1233 + 2 * i + 1 by omega]
      exact r2.trans a4
  · obtain ⟨-, -, a3, a4⟩ := ln n hn
    refine ⟨a3, ?_, ?_, (g2 n hn).2.2⟩
    · show W (336 + 4 * n + 3) = nI ((lnAt ls n).2.2.1 + ((lnAt ls n).2.2.2 - (lnAt ls n).2.2.1))
      rw [hj n hn]
      exact a4
    · show (lnAt ls n).2.2.1 + ((lnAt ls n).2.2.2 - (lnAt ls n).2.2.1) ≤ o.length
      rw [hj n hn]
      exact (g2 n hn).2.1
  · obtain ⟨a1, a2, -, -⟩ := LnL.at c1 n hn
    obtain ⟨b1, b2, -, -⟩ := ln n hn
    exact ⟨a1.trans b1.symm, a2.trans b2.symm⟩
  · exfalso
    have := nI_pos (show ls.length < 2 ^ 31 by omega)
    rw [← c0, z] at this
    exact this (by decide)
  · rw [w3] at z
    exact absurd z (by decide)
  · obtain ⟨-, b2, -, -⟩ := ln n hn
    rw [show nuW W n = (lnAt ls n).2.1 from b2]
    exact hB n hn
end T79zq
end
section
/-! ===== the relation is kept by street, by law; whose, ask with finer frames (printed by program) ===== -/
section T79zr
variable {S : aS} {I J K : Nat → Nat → Int32} {L : Nat → Nat → Int64} {w1 w2 t : Nat} {e b a n fa nd np : Nat} {T W V : Nat → Int32}
set_option maxRecDepth 100000
/-- what a text with no street changes in the reference -/
def sU9 (q k : Nat) : Bool := sU q k || (Nat.beq q 420 && (Nat.beq k 9 || (Nat.beq k 10 || Nat.beq k 11)))
theorem sU_sU9 : ∀ q k, sU q k = true → sU9 q k = true := fun q k h => by
  unfold sU9
  rw [h]
  rfl
def Uz (nd np : Nat) (I J : Nat → Nat → Int32) : Prop := Us nd np I J ∧ Fm sU9 I J
theorem Uz.mk (hr : RI nd np I) : Uz nd np I (usH I) := ⟨Us.mk hr, by
  unfold usH
  exact Fm.up (Fm.up (Fm.up (Fm.up Fm.rf rfl) rfl) rfl) rfl⟩
theorem Uz.fm {I1 I2 : Nat → Nat → Int32} (h : Uz nd np I I1) (f : Fm sU I1 I2) : Uz nd np I I2 := ⟨h.1.fm f, Fm.tr h.2 (Fm.mo f sU_sU9)⟩
theorem h_whoseU (hr : RI nd np I) (ht : ∃ l, l ≤ 400 ∧ I 420 9 = nI l) : Sp S m_X12_whose 15 0 0 [.ref 420] (hp I L w1 w2 t) (QR (Uz nd np I) isI L w1 w2 t) nX := by
  obtain ⟨l, hl4, hl⟩ := ht
  refine Sp_of ok_X12_whose rfl rfl ?_
  show AW S m_X12_whose 15 _ _ 0 0 0 [some (.ref 420)] [] (hp I L w1 w2 t)
  have f0 : Uz nd np I (usH I) := Uz.mk hr
  refine a_l0 rfl rfl rfl ?_
  refine a_eV0 rfl lX12_232 mo_X12_uses r_X12_uses rfl rfl rfl ⟨12, _, rfl, rfl, rfl⟩ rfl ?_
  refine a_ren (P := fun J => Uz nd np I J ∧ J 420 11 = nI l) ⟨f0, usH_11.trans hl⟩ (fun I1 hI1 => ?_)
  clear f0
  obtain ⟨f1, he⟩ := hI1
  refine a_l0 rfl rfl rfl ?_
  refine a_l0 rfl rfl rfl ?_
  refine a_gV rfl lX12_438 mo_X12_isTold (r_X12_isTold he hl4) rfl rfl rfl ⟨12, _, rfl, rfl, rfl⟩ rfl (fun v' h' hv => ?_)
  obtain ⟨⟨b, rfl⟩, rfl⟩ := hv
  refine a_if_ne rfl (fun _ => ?_) (fun _ => ?_)
  · refine a_s rfl rfl ?_
    refine a_s rfl rfl ?_
    refine a_gV rfl lX12_243 mo_X12_throwsIf (r_X12_throwsIf (b := false)) rfl rfl rfl ⟨12, _, rfl, rfl, rfl⟩ rfl (fun v' h' hv => ?_)
    obtain ⟨rfl, I2, rfl, f2⟩ := hv
    refine a_if_eq rfl (fun _ => ?_) (fun c => absurd (by decide) c)
    refine a_l0 rfl rfl rfl ?_
    refine a_gV rfl lX12_441 mo_X12_allThatFit (r_X12_allThatFit (f1.fm f2).1.2.2.2.so ((f2 420 11 rfl).trans he) hl4) rfl rfl rfl ⟨12, _, rfl, rfl, rfl⟩ rfl (fun v' h' hv => ?_)
    obtain ⟨⟨v, rfl⟩, rfl⟩ := hv
    exact a_iret rfl rfl ⟨⟨_, rfl⟩, _, rfl, f1.fm f2⟩
  · refine a_s rfl rfl ?_
    refine a_goto rfl ?_
    refine a_s rfl rfl ?_
    refine a_gV rfl lX12_243 mo_X12_throwsIf (r_X12_throwsIf (b := true)) rfl rfl rfl ⟨12, _, rfl, rfl, rfl⟩ rfl (fun v' h' hv => ?_)
    obtain ⟨rfl, I2, rfl, f2⟩ := hv
    refine a_if_eq rfl (fun c => absurd c (by decide)) (fun _ => ?_)
    refine a_s rfl rfl ?_
    refine a_goto rfl ?_
    exact a_iret rfl rfl ⟨⟨_, rfl⟩, _, rfl, f1.fm f2⟩
theorem h_askU (hr : RI nd np I) (ht : ∃ l, l ≤ 400 ∧ I 420 9 = nI l) : Sp S m_X12_ask 15 0 0 [.ref 420] (hp I L w1 w2 t) (QR (Uz nd np I) isI L w1 w2 t) nX := by
  obtain ⟨l, hl4, hl⟩ := ht
  refine Sp_of ok_X12_ask rfl rfl ?_
  show AW S m_X12_ask 15 _ _ 0 0 0 [some (.ref 420), none, none, none, none, none, none, none] [] (hp I L w1 w2 t)
  have f0 : Uz nd np I (usH I) := Uz.mk hr
  refine a_l0 rfl rfl rfl ?_
  refine a_eV0 rfl lX12_232 mo_X12_uses r_X12_uses rfl rfl rfl ⟨12, _, rfl, rfl, rfl⟩ rfl ?_
  refine a_ren (P := fun J => Uz nd np I J ∧ J 420 11 = nI l) ⟨f0, usH_11.trans hl⟩ (fun I1 hI1 => ?_)
  clear f0
  obtain ⟨f1, he⟩ := hI1
  refine a_l0 rfl rfl rfl ?_
  refine a_l0 rfl rfl rfl ?_
  refine a_gV rfl lX12_438 mo_X12_isTold (r_X12_isTold he hl4) rfl rfl rfl ⟨12, _, rfl, rfl, rfl⟩ rfl (fun v' h' hv => ?_)
  obtain ⟨⟨b, rfl⟩, rfl⟩ := hv
  refine a_if_ne rfl (fun _ => ?_) (fun _ => ?_)
  · refine a_s rfl rfl ?_
    refine a_s rfl rfl ?_
    refine a_gV rfl lX12_243 mo_X12_throwsIf (r_X12_throwsIf (b := false)) rfl rfl rfl ⟨12, _, rfl, rfl, rfl⟩ rfl (fun v' h' hv => ?_)
    obtain ⟨rfl, I2, rfl, f2⟩ := hv
    refine a_if_eq rfl (fun _ => ?_) (fun c => absurd (by decide) c)
    have hs2 := (f1.fm f2).1.2.2.2.so
    have h6 := hs2.p
    refine a_l0 rfl rfl rfl ?_
    refine a_gV rfl lX12_441 mo_X12_allThatFit (r_X12_allThatFit hs2 ((f2 420 11 rfl).trans he) hl4) rfl rfl rfl ⟨12, _, rfl, rfl, rfl⟩ rfl (fun v' h' hv => ?_)
    obtain ⟨⟨v, rfl⟩, rfl⟩ := hv
    refine a_s1 rfl rfl rfl rfl rfl rfl ?_
    refine a_l1 rfl rfl rfl ?_
    refine a_eS1 rfl lX12_310 mo_J6_bitCount_0f7a4 (sp_bitCount) rfl rfl rfl rfl ?_
    refine a_s2 rfl rfl rfl rfl rfl rfl ?_
    refine a_s rfl rfl ?_
    refine a_s3 rfl rfl rfl rfl rfl rfl ?_
    refine a_ldcw rfl kX12_401 ?_
    refine a_s4 rfl rfl rfl rfl rfl rfl ?_
    refine a_s rfl rfl ?_
    refine a_s5 rfl rfl rfl rfl rfl rfl ?_
    refine a_cnt (j0 := 0) (fun j ls h => ∃ a b, ls = [some (.ref 420), some (.int v), some (.int (bcF v)), some (.int a), some (.int b), some (.int (nI j)), none, none] ∧ h = hp I2 L w1 w2 t) (by decide) ⟨_, _, rfl, rfl⟩ ⟨rfl, rfl, rfl, rfl, rfl, rfl, trivial⟩ ?_
    rintro j _ _ hj ⟨a, b, rfl, rfl⟩ ih
    have out : ∀ {y6 y7 : Option Value} {a b c : Int32}, AW S m_X12_ask 15 (QR (Uz nd np I) isI L w1 w2 t) nX 0 0 150 [some (.ref 420), some (.int v), some (.int (bcF v)), some (.int a), some (.int b), some (.int c), y6, y7] [] (hp I2 L w1 w2 t) := by
      intro y6 y7 a b c
      refine a_l3 rfl rfl rfl ?_
      exact a_iret rfl rfl ⟨⟨_, rfl⟩, _, rfl, f1.fm f2⟩
    refine a_l5 rfl rfl rfl ?_
    refine a_s rfl rfl ?_
    refine a_ic_ge rfl (fun _ => out) (fun c15 => ?_)
    refine a_l2 rfl rfl rfl ?_
    refine a_s rfl rfl ?_
    refine a_ic_le rfl (fun _ => out) (fun _ => ?_)
    refine a_s rfl rfl ?_
    refine a_s6 rfl rfl rfl rfl rfl rfl ?_
    refine a_s rfl rfl ?_
    refine a_s7 rfl rfl rfl rfl rfl rfl ?_
    refine a_cnt (j0 := 0) (fun p ls h => ∃ y, ls = [some (.ref 420), some (.int v), some (.int (bcF v)), some (.int a), some (.int b), some (.int (nI j)), some (.int y), some (.int (nI p))] ∧ h = hp I2 L w1 w2 t) (by decide) ⟨_, rfl, rfl⟩ ⟨rfl, rfl, rfl, rfl, rfl, rfl, rfl, rfl, trivial⟩ ?_
    rintro p _ _ hp4 ⟨y, rfl, rfl⟩ ih2
    refine a_l7 rfl rfl rfl ?_
    refine a_l0 rfl rfl rfl ?_
    refine a_eV1 rfl lX12_66 mo_X12_people sp_X12_people rfl rfl rfl ⟨12, _, rfl, rfl, rfl⟩ rfl ?_
    refine a_top (y := nI np) hs2.pu ?_
    refine a_ic_ge rfl (fun c => ?_) (fun c => ?_)
    · refine a_l6 rfl rfl rfl ?_
      refine a_l2 rfl rfl rfl ?_
      refine a_l6 rfl rfl rfl ?_
      refine a_s rfl rfl ?_
      refine a_max rfl lX12_265 mj_max rfl rfl ?_
      refine a_s7 rfl rfl rfl rfl rfl rfl ?_
      refine a_l7 rfl rfl rfl ?_
      refine a_l4 rfl rfl rfl ?_
      have fin : ∀ {x z : Int32}, AW S m_X12_ask 15 (QR (Uz nd np I) isI L w1 w2 t) nX 0 0 134 [some (.ref 420), some (.int v), some (.int (bcF v)), some (.int a), some (.int b), some (.int (nI j)), some (.int y), some (.int x)] [.int z] (hp I2 L w1 w2 t) := by
        intro x z
        refine a_s3 rfl rfl rfl rfl rfl rfl ?_
        refine a_l4 rfl rfl rfl ?_
        refine a_l7 rfl rfl rfl ?_
        refine a_min rfl lX12_295 mj_min rfl rfl ?_
        refine a_s4 rfl rfl rfl rfl rfl rfl ?_
        refine a_i5 rfl rfl rfl ?_
        refine a_goto rfl ?_
        exact ih _ _ _ _ c15 ⟨_, _, rfl, rfl⟩ ⟨rfl, rfl, rfl, rfl, rfl, nS _, trivial⟩
      refine a_ic_ge rfl (fun _ => ?_) (fun _ => ?_)
      · refine a_l3 rfl rfl rfl ?_
        exact fin
      · refine a_l5 rfl rfl rfl ?_
        refine a_goto rfl ?_
        exact fin
    · have hpp : p < np := nI_lt_of c hp4 (by omega)
      have fin : ∀ {x : Int32}, AW S m_X12_ask 15 (QR (Uz nd np I) isI L w1 w2 t) nX 0 0 101 [some (.ref 420), some (.int v), some (.int (bcF v)), some (.int a), some (.int b), some (.int (nI j)), some (.int y), some (.int (nI p))] [.int x, .int y] (hp I2 L w1 w2 t) := by
        intro x
        refine a_s rfl rfl ?_
        refine a_s6 rfl rfl rfl rfl rfl rfl ?_
        refine a_i7 rfl rfl rfl ?_
        refine a_goto rfl ?_
        exact ih2 _ _ _ _ c ⟨_, rfl, rfl⟩ ⟨rfl, rfl, rfl, rfl, rfl, rfl, rfl, nS _, trivial⟩
      refine a_l6 rfl rfl rfl ?_
      refine a_l1 rfl rfl rfl ?_
      refine a_l7 rfl rfl rfl ?_
      refine a_eS1 rfl lX12_304 mo_X12_has (sp_X12_has) rfl rfl rfl rfl ?_
      refine a_if_eq rfl (fun _ => ?_) (fun _ => ?_)
      · refine a_s rfl rfl ?_
        exact fin
      · refine a_l0 rfl rfl rfl ?_
        refine a_l7 rfl rfl rfl ?_
        refine a_s rfl rfl ?_
        refine a_eV1 rfl lX12_252 mo_X12_ofPerson (sp_X12_ofPerson (d := p) (k := 0) (by omega) (by decide)) rfl rfl rfl ⟨12, _, rfl, rfl, rfl⟩ rfl ?_
        refine a_l5 rfl rfl rfl ?_
        refine a_ic_gt rfl (fun _ => ?_) (fun _ => ?_)
        · refine a_s rfl rfl ?_
          exact fin
        · refine a_s rfl rfl ?_
          refine a_goto rfl ?_
          exact fin
  · refine a_s rfl rfl ?_
    refine a_goto rfl ?_
    refine a_s rfl rfl ?_
    refine a_gV rfl lX12_243 mo_X12_throwsIf (r_X12_throwsIf (b := true)) rfl rfl rfl ⟨12, _, rfl, rfl, rfl⟩ rfl (fun v' h' hv => ?_)
    obtain ⟨rfl, I2, rfl, f2⟩ := hv
    refine a_if_eq rfl (fun c => absurd c (by decide)) (fun _ => ?_)
    refine a_s rfl rfl ?_
    exact a_iret rfl rfl ⟨⟨_, rfl⟩, _, rfl, f1.fm f2⟩
theorem Nm.eq3 (h : Nm I a W) (f : ∀ k, k < 335 → k ≠ 3 → V k = W k) : Nm I a V := by
  obtain ⟨⟨h1, h2, h3⟩, hl, ⟨⟨r1, r2, r3, r4⟩, hf, hp, hd⟩⟩ := h
  have hb : ∀ x ∈ flds, x.2 < 95 ∧ x.2 ≠ 3 := by decide
  refine ⟨⟨fun x hx => ?_, fun p hp => ?_, fun d hd k hk => ?_⟩, hl.eq rfl rfl (f 9 (by decide) (by decide)) fun k g1 g2 => f k g2 (by omega), (Rg.of r1 r2 ((f 0 (by decide) (by decide)).trans r3) ((f 1 (by decide) (by decide)).trans r4) ?_ (fun p z => (hp p z).eq (f _ (by omega) (by omega)) (f _ (by omega) (by omega))) (fun d z => (hd d z).eq fun k hk => f _ (by omega) (by omega)))⟩
  · have := hb x hx
    rw [f _ (by omega) (by omega)]
    exact h1 x hx
  · rw [f _ (by omega) (by omega), f _ (by omega) (by omega)]
    exact h2 p hp
  · rw [f _ (by omega) (by omega)]
    exact h3 d hd k hk
  · unfold RgF
    rw [f 2 (by decide) (by decide), f 4 (by decide) (by decide), f 5 (by decide) (by decide), f 6 (by decide) (by decide), f 7 (by decide) (by decide), f 8 (by decide) (by decide)]
    exact hf
/-- behind a law: the same but for the law, no acts -/
theorem Sim.law {r : LRs} (h : Sim I) (f : Fm sLw I J) (c : LwC r J) (h12 : r.2.2.2.length ≤ 12) (h400 : r.2.2.1.length ≤ 400) (ok : LsOk r.2.2.1 r.2.2.2) (nb : LnB r.2.2.2) (us : Us nd np J K) (g : ∀ q, q ≠ 420 → q ≠ 421 → K q = J q) (e7 : K 420 7 = 0) (elo : ∀ k, k < 335 → k ≠ 3 → K 421 k = J 421 k) (lj : LwJ r J K) (hz : r.1 = true) : Sim K := by
  obtain ⟨h1, _, h3, n, fa, hn, hf, e1, e2, e3, _⟩ := h
  obtain ⟨_, c13, c0, c1, c2⟩ := c
  obtain ⟨w3, w335, M, m1, m2, m3⟩ := lj.1 hz
  have row : ∀ q, 235 ≤ q → (q < 246 ∨ 251 < q) → J q = I q := fun q g1 g2 => funext fun k => f q k (sLw_hi g1 g2)
  have e21 : J 421 = I 421 := row 421 (by decide) (by decide)
  refine ⟨(h1.eq3 (V := K 421) fun k g1 g2 => by rw [elo k g1 g2, e21]).eq fun q g1 g2 => by rw [g q (by omega) (by omega), row q (by omega) (by omega)], Nl.of ok h12 h400 nb ?_ ?_ ?_ w3 w335 m1 m2 m3, h3.eq (fun q g1 g2 => by rw [g q (by omega) (by omega), row q (by omega) (by omega)]) ?_ ?_ ?_, 0, fa, by decide, hf, ?_, e7, ?_, fun i hi => absurd hi (Nat.not_lt_zero _)⟩
  · rw [g 246 (by decide) (by decide)]
    exact c0
  · rw [g 247 (by decide) (by decide), g 248 (by decide) (by decide), g 249 (by decide) (by decide), g 250 (by decide) (by decide)]
    exact c1
  · rw [g 251 (by decide) (by decide)]
    exact c2
  · rw [g 422 (by decide) (by decide), row 422 (by decide) (by decide)]
  · rw [g 200 (by decide) (by decide)]
    exact f 200 10 rfl
  · rw [us.2.2.1, row 420 (by decide) (by decide)]
  · rw [g 200 (by decide) (by decide)]
    exact c13
  · rw [g 200 (by decide) (by decide)]
    exact (f 200 12 rfl).trans e3
/-- what the relation reads, and no draft -/
theorem Sim.lo (h : Sim I) (f : ∀ q, 235 ≤ q → q < 420 → (q < 252 ∨ 268 ≤ q) → J q = I q) (f1 : ∀ k, k < 1184 → J 421 k = I 421 k) (f2 : J 422 = I 422) (f5 : J 425 = I 425) (g1 : J 200 10 = I 200 10) (g2 : J 200 12 = I 200 12) (g3 : J 200 13 = I 200 13) (g4 : J 420 6 = I 420 6) (g5 : J 420 7 = I 420 7) : Sim J := by
  obtain ⟨h1, h2, h3, n, fa, hn, hf, e1, e2, e3, h4⟩ := h
  refine ⟨(h1.eqW fun k hk => f1 k (by omega)).eq fun q k1 k2 => f q (by omega) (by omega) (by omega), h2.at (congrFun (f 246 (by decide) (by decide) (by decide)) 0) (fun i k1 k2 => f _ (by omega) (by omega) (by omega)) (f1 3 (by decide)) (fun k _ hk => f1 k hk), h3.eq (fun q k1 k2 => f q (by omega) (by omega) (by omega)) f2 g1 g4, n, fa, hn, hf, g3.trans e1, g5.trans e2, g2.trans e3, fun i hi => ?_⟩
  rw [f5, f1 3 (by decide)]
  exact ⟨(h4 i hi).1.eq fun q k1 k2 => f q (by omega) (by omega) (by omega), (h4 i hi).2⟩
theorem Sim.lawNo {r : LRs} (h : Sim I) (f : Fm sLf I J) (us : Us nd np J K) (g : ∀ q, q ≠ 420 → q ≠ 421 → K q = J q) (e7 : K 420 7 = J 420 7) (lj : LwJ r J K) (hz : r.1 = false) : Sim K := by
  have row : ∀ q, 235 ≤ q → J q = I q := fun q g1 => funext fun k => f q k (sLf_hi g1)
  refine h.lo (fun q g1 g2 g3 => by rw [g q (by omega) (by omega), row q g1]) (fun k hk => by rw [lj.2 hz k hk, row 421 (by decide)]) (by rw [g 422 (by decide) (by decide), row 422 (by decide)]) (by rw [g 425 (by decide) (by decide), row 425 (by decide)]) ?_ ?_ ?_ (by rw [us.2.2.1, row 420 (by decide)]) (by rw [e7, row 420 (by decide)])
  · rw [g 200 (by decide) (by decide)]
    exact f 200 10 rfl
  · rw [g 200 (by decide) (by decide)]
    exact f 200 12 rfl
  · rw [g 200 (by decide) (by decide)]
    exact f 200 13 rfl
/-- what a text of the street leaves as it is -/
def Ky (k : Nat) : Prop := 95 ≤ k ∨ k = 3 ∨ k = 9
theorem perP_hi (h : WOk W) {k : Nat} (hk : Ky k) (hz : (perP T e b W).1 = true) : (perP T e b W).2.2 k = W k := by
  obtain ⟨w1, w2, w3, w4⟩ := h
  unfold Ky at hk
  unfold perP at hz ⊢
  by_cases c : W 0 = 6
  · rw [if_pos c] at hz
    cases hz
  have n6 : pn W ≠ 6 := fun z => c (by rw [w3, z]; rfl)
  rw [if_neg c] at hz ⊢
  generalize nbP T e 1 0 15 (nx T e b) = x at hz ⊢
  unfold perB at hz ⊢
  by_cases c2 : x.1 = -1
  · rw [if_pos c2] at hz
    cases hz
  rw [if_neg c2] at hz ⊢
  generalize nbP T e 2 0 9 x.2 = y at hz ⊢
  unfold perC at hz ⊢
  by_cases c3 : y.1 = -1
  · rw [if_pos c3] at hz
    cases hz
  rw [if_neg c3]
  show ud (ud (ud W (11 + 2 * pn W) x.1) (11 + 2 * pn W + 1) y.1) 0 (nI (pn W + 1)) k = W k
  rw [ud_ne (by omega), ud_ne (by omega), ud_ne (by omega)]
theorem dutP_hi (h : WOk W) {k : Nat} (hk : Ky k) (hz : (dutP T e b W).1 = true) : (dutP T e b W).2.2 k = W k := by
  obtain ⟨w1, w2, w3, w4⟩ := h
  unfold Ky at hk
  unfold dutP at hz ⊢
  by_cases c : W 1 = 12
  · rw [if_pos c] at hz
    cases hz
  have n12 : dn W ≠ 12 := fun z => c (by rw [w4, z]; rfl)
  rw [if_neg c] at hz ⊢
  generalize nbP T e 4 0 (W 0 - 1) (nx T e b) = x at hz ⊢
  unfold duA at hz ⊢
  by_cases c2 : x.1 = -1
  · rw [if_pos c2] at hz
    cases hz
  rw [if_neg c2] at hz ⊢
  generalize nbP T e 5 1 99 x.2 = y at hz ⊢
  unfold duB at hz ⊢
  by_cases c3 : y.1 = -1
  · rw [if_pos c3] at hz
    cases hz
  rw [if_neg c3] at hz ⊢
  generalize optP T e 6 0 99 0 y.2 = u at hz ⊢
  unfold duC at hz ⊢
  by_cases c4 : u.1 = true
  rotate_left
  · rw [if_neg c4] at hz
    cases hz
  rw [if_pos c4] at hz ⊢
  generalize optP T e 7 0 5 (-1) u.2.2 = v at hz ⊢
  unfold duD at hz ⊢
  by_cases c5 : v.1 = true
  rotate_left
  · rw [if_neg c5] at hz
    cases hz
  rw [if_pos c5] at hz ⊢
  generalize optP T e 8 0 (W 1 - 1) (-1) v.2.2 = w at hz ⊢
  unfold duE at hz ⊢
  by_cases c6 : w.1 = true
  rotate_left
  · rw [if_neg c6] at hz
    cases hz
  rw [if_pos c6]
  show addDt W x.1 y.1 u.2.1 v.2.1 w.2.1 k = W k
  unfold addDt
  rw [ud_ne (by omega), ud_ne (by omega), ud_ne (by omega), ud_ne (by omega), ud_ne (by omega), ud_ne (by omega), ud_ne (by omega)]
theorem forP_hi (h : WOk W) {k : Nat} (hk : Ky k) (hz : (forP T e b W).1 = true) : (forP T e b W).2.2 k = W k := by
  obtain ⟨w1, w2, w3, w4⟩ := h
  unfold Ky at hk
  unfold forP at hz ⊢
  by_cases c : nm T e b 0 (W 1 - 1) = -1
  · rw [if_pos c] at hz
    cases hz
  rw [if_neg c] at hz ⊢
  by_cases c2 : W (23 + 6 * (nm T e b 0 (W 1 - 1)).toNatClampNeg + 5) = 0
  · rw [if_pos c2]
    show ud W (23 + 6 * (nm T e b 0 (W 1 - 1)).toNatClampNeg + 5) 2 k = W k
    rw [w4] at c ⊢
    obtain ⟨j, hj, ej⟩ := nm_ix w2 c
    rw [ej, nI_clamp (by omega)]
    exact ud_ne (by omega)
  · rw [if_neg c2] at hz
    cases hz
theorem setP_hi {g : Nat} {lo hi : Int32} (hg : g < 9 ∧ g ≠ 3) {k : Nat} (hk : Ky k) (hz : (setP T e b W g lo hi).1 = true) : (setP T e b W g lo hi).2.2 k = W k := by
  unfold Ky at hk
  unfold setP at hz ⊢
  by_cases c : nm T e b lo hi = -1
  · rw [if_pos c] at hz
    cases hz
  rw [if_neg c]
  exact ud_ne (by omega)
theorem stgP_hi {k : Nat} (hk : Ky k) (hz : (stgP T e b W).1 = true) : (stgP T e b W).2.2 k = W k := by
  unfold stgP at hz ⊢
  by_cases c : isWd T e b 10 = true
  · rw [if_pos c] at hz ⊢; exact setP_hi (by decide) hk hz
  rw [if_neg c] at hz ⊢
  by_cases c : isWd T e b 11 = true
  · rw [if_pos c] at hz ⊢; exact setP_hi (by decide) hk hz
  rw [if_neg c] at hz ⊢
  by_cases c : isWd T e b 12 = true
  · rw [if_pos c] at hz ⊢; exact setP_hi (by decide) hk hz
  rw [if_neg c] at hz ⊢
  by_cases c : isWd T e b 13 = true
  · rw [if_pos c] at hz ⊢; exact setP_hi (by decide) hk hz
  rw [if_neg c] at hz ⊢
  by_cases c : isWd T e b 14 = true
  · rw [if_pos c] at hz ⊢; exact setP_hi (by decide) hk hz
  rw [if_neg c] at hz
  cases hz
theorem linP_hi (h : WOk W) {k : Nat} (hk : Ky k) (hz : (linP T e b W).1 = true) : (linP T e b W).2.2 k = W k := by
  unfold linP at hz ⊢
  by_cases c : isWd T e b 0 = true
  · rw [if_pos c] at hz ⊢; exact perP_hi h hk hz
  rw [if_neg c] at hz ⊢
  by_cases c : isWd T e b 3 = true
  · rw [if_pos c] at hz ⊢; exact dutP_hi h hk hz
  rw [if_neg c] at hz ⊢
  by_cases c : isWd T e b 9 = true
  · rw [if_pos c] at hz ⊢; exact forP_hi h hk hz
  rw [if_neg c] at hz ⊢
  exact stgP_hi hk hz
theorem strsP_hi {k : Nat} (hk : Ky k) : ∀ (f b : Nat) (W : Nat → Int32), WOk W → (strsP T e f b W).1 = true → (strsP T e f b W).2.2 k = W k := by
  intro f
  induction f with
  | zero => exact fun b W _ hz => by cases hz
  | succ f ih =>
    intro b W h hz
    rw [strsP_s] at hz ⊢
    have hl := linP_hi (T := T) (e := e) (b := b) h hk
    have ho := linP_ok (T := T) (e := e) (b := b) h
    generalize linP T e b W = r at hz hl ho ⊢
    by_cases c1 : r.1 = true
    · rw [if_pos c1] at hz ⊢
      by_cases c2 : r.2.1 < e
      · rw [if_pos c2] at hz ⊢
        by_cases c3 : sg T e r.2.1 59 = true
        · rw [if_pos c3] at hz ⊢
          exact (ih _ _ (ho c1) hz).trans (hl c1)
        · rw [if_neg c3] at hz
          cases hz
      · rw [if_neg c2]
        exact hl c1
    · rw [if_neg c1] at hz
      cases hz
theorem strP_hi (h : WOk W) {k : Nat} (hk : Ky k) (hz : (strP T e W).1 = true) : (strP T e W).2.2 k = W k := by
  unfold strP at hz ⊢
  by_cases c : bg T e 0 < e
  · rw [if_pos c] at hz ⊢
    exact strsP_hi hk _ _ _ h hz
  · rw [if_neg c]
theorem Rg.tx (h : Rg W) {x : Int32} (hx : Nb x 12) : Rg (ud W 2 x) := by
  obtain ⟨⟨r1, r2, r3, r4⟩, ⟨_, f4, f5, f6, f7, f8⟩, hp, hd⟩ := h
  refine (Rg.of r1 r2 ((ud_ne (by decide)).trans r3) ((ud_ne (by decide)).trans r4) ?_ (fun p z => (hp p z).eq (ud_ne (by omega)) (ud_ne (by omega))) (fun d z => (hd d z).eq fun k hk => ud_ne (by omega)))
  unfold RgF
  rw [ud_at, ud_ne (show 4 ≠ 2 by decide), ud_ne (show 5 ≠ 2 by decide), ud_ne (show 6 ≠ 2 by decide), ud_ne (show 7 ≠ 2 by decide), ud_ne (show 8 ≠ 2 by decide)]
  exact ⟨hx, f4, f5, f6, f7, f8⟩
/-- behind a street that was read -/
theorem Sim.street (h : Sim I) (hz : (strP T e (I 421)).1 = true) (h2 : ¬ I 421 2 = 12) (f : Fm sJ I J) (c13 : J 200 13 = 0) (D : Sd J 235 (ud (strP T e (I 421)).2.2 2 (I 421 2 + 1))) (g : ∀ q, q < 420 → K q = J q) (g6 : K 420 6 = J 420 6) (k2 : K 422 = J 422) (e1 : K 421 = ud (strP T e (I 421)).2.2 2 (I 421 2 + 1)) (e7 : K 420 7 = 0) : Sim K := by
  obtain ⟨h1, hl, h3, n, fa, hn, hf, _, _, e3, _⟩ := h
  have row : ∀ q, 244 ≤ q → J q = I q := fun q g1 => funext fun k => f q k (sJ_hi g1)
  have hG := h1.2.2
  have hi : ∀ k, Ky k → K 421 k = I 421 k := fun k hk => by
    rw [e1, ud_ne (by unfold Ky at hk; omega)]
    exact strP_hi hG.1 hk hz
  have hRG : Rg (K 421) := by
    rw [e1]
    refine (strP_rg hG hz).tx ?_
    obtain ⟨k, k12, ek⟩ := hG.2.1.1
    rw [ek] at h2 ⊢
    refine ⟨k + 1, ?_, (nI_succ k).symm⟩
    have : k ≠ 12 := fun z => h2 (by rw [z]; rfl)
    omega
  refine ⟨⟨?_, h1.2.1.eq ?_ ?_ ?_ ?_, hRG⟩, hl.eq (fun q g1 g2 => by rw [g q (by omega), row q (by omega)]) (hi 3 (Or.inr (Or.inl rfl))) (fun k hk => hi k (Or.inl (by omega))), h3.eq (fun q g1 g2 => by rw [g q (by omega), row q (by omega)]) ?_ ?_ ?_, 0, fa, by decide, hf, ?_, e7, ?_, fun i hi => absurd hi (Nat.not_lt_zero _)⟩
  · rw [e1]
    exact D.eq fun q g1 g2 => g q (by omega)
  · exact (g 244 (by decide)).trans (row 244 (by decide))
  · exact (g 245 (by decide)).trans (row 245 (by decide))
  · exact hi 9 (Or.inr (Or.inr rfl))
  · exact fun k g1 g2 => hi k (Or.inl g1)
  · rw [k2, row 422 (by decide)]
  · rw [g 200 (by decide)]
    exact f 200 10 rfl
  · rw [g6, row 420 (by decide)]
  · rw [g 200 (by decide)]
    exact c13
  · rw [g 200 (by decide)]
    exact (f 200 12 rfl).trans e3
/-- behind one that was not -/
theorem Sim.streetNo (h : Sim I) (f : Fm sJ I J) (c13 : J 200 13 = I 200 13) (D : Sd J 235 (I 421)) (g : ∀ q, q < 420 → K q = J q) (g6 : K 420 6 = J 420 6) (k2 : K 422 = J 422) (k5 : K 425 = J 425) (e1 : K 421 = J 421) (e7 : K 420 7 = J 420 7) : Sim K := by
  obtain ⟨h1, hl, h3, n, fa, hn, hf, e1', e2, e3, h4⟩ := h
  have row : ∀ q, 244 ≤ q → J q = I q := fun q g1 => funext fun k => f q k (sJ_hi g1)
  have w : K 421 = I 421 := e1.trans (row 421 (by decide))
  refine ⟨⟨?_, h1.2.1.eq ?_ ?_ ?_ ?_, ?_⟩, hl.eq (fun q g1 g2 => by rw [g q (by omega), row q (by omega)]) (congrFun w 3) (fun k _ => congrFun w k), h3.eq (fun q g1 g2 => by rw [g q (by omega), row q (by omega)]) ?_ ?_ ?_, n, fa, hn, hf, ?_, ?_, ?_, fun i hi => ?_⟩
  · rw [w]
    exact D.eq fun q g1 g2 => g q (by omega)
  · exact (g 244 (by decide)).trans (row 244 (by decide))
  · exact (g 245 (by decide)).trans (row 245 (by decide))
  · exact congrFun w 9
  · exact fun k _ _ => congrFun w k
  · rw [w]
    exact h1.2.2
  · rw [k2, row 422 (by decide)]
  · rw [g 200 (by decide)]
    exact f 200 10 rfl
  · rw [g6, row 420 (by decide)]
  · rw [g 200 (by decide), c13]
    exact e1'
  · rw [e7, row 420 (by decide)]
    exact e2
  · rw [g 200 (by decide)]
    exact (f 200 12 rfl).trans e3
  · rw [k5, row 425 (by decide), w]
    exact ⟨(h4 i hi).1.eq fun q g1 g2 => by rw [g q (by omega), row q (by omega)], (h4 i hi).2⟩
end T79zr
end
section
/-! ===== all that is known of both between two operations, with the relation ===== -/
section T79zs
variable {I J K : Nat → Nat → Int32} {L : Nat → Nat → Int64} {w1 w2 t n fa nd np : Nat} {W : Nat → Int32} {c y val : Int32} {l : Int64} {ov : Option Value} {h' : aH}
set_option maxRecDepth 100000
def Sy (I : Nat → Nat → Int32) : Prop := (CI I ∧ Tp I) ∧ (Sim I ∧ I 200 3 = I 420 14) ∧ ∃ l, l ≤ 400 ∧ I 201 1 = nI l ∧ I 420 9 = nI l
/-- the class has used its tape up, the reference not yet -/
def Sz (I : Nat → Nat → Int32) : Prop := (CI I ∧ Tp I) ∧ (Sim I ∧ I 200 3 = I 420 14) ∧ I 201 1 = 0 ∧ ∃ l, l ≤ 400 ∧ I 420 9 = nI l
theorem Sim.ps (h : Sim I) : ∃ n fa, PsN I n fa := h.2.2.2
theorem Sy.sim (h : Sy I) : Sim I := h.2.1.1
theorem Sy.nm (h : Sy I) : Nm I 235 (I 421) := h.2.1.1.1
theorem Sy.nl (h : Sy I) : Nl I 246 (I 421) := h.2.1.1.2.1
theorem Sy.ri (h : Sy I) : RI (dn (I 421)) (pn (I 421)) I := h.2.1.1.ri
theorem Sz.ri (h : Sz I) : RI (dn (I 421)) (pn (I 421)) I := h.2.1.1.ri
theorem RI.rows (h : RI nd np I) (e : ∀ q, 420 ≤ q → J q = I q) : RI nd np J := h.eq (e 421 (by decide)) (e 422 (by decide)) (e 425 (by decide)) (congrFun (e 420 (by decide)) 6) (congrFun (e 420 (by decide)) 7)
theorem CI.rows (h : CI I) (e : ∀ q, q < 420 → J q = I q) : CI J := fun a ha h2 => by
  rw [e a (by have := stp_hi a ha; omega)]
  exact h a ha h2
theorem sQ_no {q k : Nat} (h : q < 252 ∨ 268 ≤ q) : sQ q k = false := by
  unfold sQ
  rw [beqF (show q ≠ 252 by omega), beqF (show q ≠ 253 by omega), beqF (show q ≠ 255 by omega), beqF (show q ≠ 256 by omega)]
  rcases h with h | h
  · have e : Nat.ble 257 q = false := by
      cases hb : Nat.ble 257 q with
      | false => rfl
      | true => exact absurd (Nat.le_of_ble_eq_true hb) (by omega)
    rw [e]
    rfl
  · have e : Nat.ble q 267 = false := by
      cases hb : Nat.ble q 267 with
      | false => rfl
      | true => exact absurd (Nat.le_of_ble_eq_true hb) (by omega)
    rw [e]
    cases Nat.ble 257 q <;> rfl
theorem sV_lo4 {q k : Nat} (h : q < 420) : sV q k = false := by
  unfold sV sU
  rw [beqF (show q ≠ 428 by omega), beqF (show q ≠ 429 by omega), beqF (show q ≠ 420 by omega), beqF (show q ≠ 424 by omega)]
  rfl
/-- a question to the class -/
theorem Sy.q (h : Sy I) (f : Fm sQ I J) : Sy J := by
  have m := Mt.of (Fm.mo f sQ_sM)
  obtain ⟨⟨h1, h2⟩, ⟨h3, h6⟩, l, h4, h5, h7⟩ := h
  have row : ∀ q, (q < 252 ∨ 268 ≤ q) → J q = I q := fun q hq => funext fun k => f q k (sQ_no hq)
  have r2 := row 200 (by decide)
  have r4 := row 420 (by decide)
  refine ⟨⟨m.2.2.2.1 h1, h2.m m⟩, ⟨h3.eq (fun q _ _ g3 => row q g3) (row 421 (by decide)) (row 422 (by decide)) (row 425 (by decide)) (congrFun r2 10) (congrFun r2 12) (congrFun r2 13) (congrFun r4 6) (congrFun r4 7), ?_⟩, l, h4, (congrFun (row 201 (by decide)) 1).trans h5, (congrFun r4 9).trans h7⟩
  rw [r2, r4]
  exact h6
/-- a question to the reference -/
theorem Sy.v (h : Sy I) (f : Fm sV I J) : Sy J := by
  obtain ⟨⟨h1, h2⟩, ⟨h3, h6⟩, l, h4, h5, h7⟩ := h
  have row : ∀ q, q < 420 → J q = I q := fun q hq => funext fun k => f q k (sV_lo4 hq)
  have r2 := row 200 (by decide)
  refine ⟨⟨h1.rows row, h2.r fun q hq => ?_⟩, ⟨h3.eq (fun q _ g2 _ => row q g2) (funext fun k => f 421 k rfl) (funext fun k => f 422 k rfl) (funext fun k => f 425 k rfl) (congrFun r2 10) (congrFun r2 12) (congrFun r2 13) (f 420 6 rfl) (f 420 7 rfl), ?_⟩, l, h4, (congrFun (row 201 (by decide)) 1).trans h5, (f 420 9 rfl).trans h7⟩
  · rcases hq with hq | hq
    · exact row q hq
    · rw [hq]
      exact funext fun k => f 426 k rfl
  · rw [r2, show J 420 14 = I 420 14 from f 420 14 rfl]
    exact h6
theorem Sy.u (h : Sy I) (f : Fm sU I J) : Sy J := Sy.v h (Fm.mo f sU_sV)
/-- a text with no street: the class uses it up, the reference too -/
theorem Sy.z1 (h : Sy I) : Sz (up2 I 201 1 0) := by
  have m := Mt0.all (Mt0.mk (Mt.rf (I := I)))
  obtain ⟨⟨h1, h2⟩, ⟨h3, h6⟩, l, h4, h5, h7⟩ := h
  have row : ∀ q, q ≠ 201 → up2 I 201 1 0 q = I q := fun q hq => up2_row hq
  have r2 := row 200 (by decide)
  have r4 := row 420 (by decide)
  refine ⟨⟨m.2.2.2.1 h1, h2.eq (row 426 (by decide)) (row 202 (by decide)) (congrFun (row 203 (by decide)) 1) (congrFun (row 220 (by decide)) 1)⟩, ⟨h3.eq (fun q g1 _ _ => row q (by omega)) (row 421 (by decide)) (row 422 (by decide)) (row 425 (by decide)) (congrFun r2 10) (congrFun r2 12) (congrFun r2 13) (congrFun r4 6) (congrFun r4 7), ?_⟩, m.2.1, l, h4, (congrFun r4 9).trans h7⟩
  rw [r2, r4]
  exact h6
theorem Sz.uz (h : Sz I) (f : Uz nd np I J) : Sy J := by
  obtain ⟨⟨h1, h2⟩, ⟨h3, h6⟩, h5, -⟩ := h
  obtain ⟨⟨g1, g2, g3, -⟩, f⟩ := f
  have r2 := g1 200 (by decide)
  refine ⟨⟨h1.rows fun q hq => g1 q (Or.inl hq), h2.r g1⟩, ⟨h3.eq (fun q _ g2 _ => g1 q (Or.inl g2)) (funext fun k => f 421 k rfl) (funext fun k => f 422 k rfl) (funext fun k => f 425 k rfl) (congrFun r2 10) (congrFun r2 12) (congrFun r2 13) g3 (f 420 7 rfl), ?_⟩, 0, by decide, (congrFun (g1 201 (by decide)) 1).trans h5, g2⟩
  rw [r2, show J 420 14 = I 420 14 from f 420 14 rfl]
  exact h6
theorem stp_past : ∀ i, i < 12 → 288 + 11 * i ∈ stps := by decide +kernel
theorem stp_far2 : ∀ a ∈ stps, a ≠ 235 → (a < 235 ∨ 245 < a) ∧ a ≠ 252 ∧ a ≠ 253 ∧ a < 420 := by decide +kernel
theorem Mt_reS : Mt I (reS I n fa) := by
  unfold reS
  by_cases e : n = 12
  · rw [if_pos e]
    exact Mt.fm (Mt.tr (Mt.of (Fm.up (Fm.up Fm.rf rfl) rfl)) (Mt.cpA (stp_past _ (Nat.mod_lt _ (by decide))) (by decide) (by decide))) (Fm.up Fm.rf rfl)
  · rw [if_neg e]
    exact Mt.fm (Mt.cpA (stp_past _ (Nat.mod_lt _ (by decide))) (by decide) (by decide)) (Fm.up Fm.rf rfl)
/-- behind an act of both, or days -/
theorem Sy.of (h : Sy I) (hs : Sim K) (f : ∀ q, q < 420 → (q < 235 ∨ 245 < q) → q ≠ 252 → q ≠ 253 → K q = reS I n fa q) (e6 : K 426 = I 426) (e14 : K 420 14 = I 420 14) (e9 : K 420 9 = I 420 9) : Sy K := by
  obtain ⟨⟨h1, h2⟩, ⟨h3, h6⟩, l, h4, h5, h7⟩ := h
  have m : Mt I (reS I n fa) := Mt_reS
  have hn := hs.1
  refine ⟨⟨fun a ha h8 => ?_, ?_⟩, ⟨hs, ?_⟩, l, h4, ?_, e9.trans h7⟩
  · by_cases e : a = 235
    · subst e
      exact ⟨dn (K 421), hn.2.2.1.2.1, (Sd.fd hn.1 (f := 3) (g := 1) (by decide)).trans hn.2.2.1.2.2.2⟩
    · obtain ⟨a1, a2, a3, a4⟩ := stp_far2 a ha e
      rw [f a a4 a1 a2 a3]
      exact m.2.2.2.1 h1 a ha h8
  · exact h2.eq e6 ((f 202 (by decide) (by decide) (by decide) (by decide)).trans m.2.2.2.2.1) ((congrFun (f 203 (by decide) (by decide) (by decide) (by decide)) 1).trans m.2.2.2.2.2.1) ((congrFun (f 220 (by decide) (by decide) (by decide) (by decide)) 1).trans m.2.2.2.2.2.2)
  · rw [f 200 (by decide) (by decide) (by decide) (by decide), reS_el (by decide) (by decide), e14]
    exact h6
  · rw [f 201 (by decide) (by decide) (by decide) (by decide)]
    exact m.2.1.trans h5
/-- what an act of the class did: c what it threw -/
def AcJ (c y : Int32) (l : Int64) (val : Int32) (J F I : Nat → Nat → Int32) : Prop := (c = 0 ∧ y = 0 ∧ l = val.toInt64 ∧ J = F) ∨ (¬ c = 0 ∧ y = c ∧ J = I)
theorem AcJ.up {F : Nat → Nat → Int32} (h : AcJ c y l val J F I) (f : ∀ q, 420 ≤ q → F q = I q) : ∀ q, 420 ≤ q → J q = I q := by
  rcases h with ⟨_, _, _, rfl⟩ | ⟨_, _, rfl⟩
  · exact f
  · exact fun _ _ => rfl
theorem AcJ.st {F : Nat → Nat → Int32} (h : AcJ c y l val J F I) : y = c := by
  rcases h with ⟨c0, y0, _, _⟩ | ⟨_, y0, _⟩
  · rw [c0, y0]
  · exact y0
theorem Sy.qa {fc fh : (Nat → Nat → Int32) → Nat → Nat → Int32} (h : Sy I) (hps : PsN I n fa) (kc : ∀ M q, (q < 235 ∨ 245 < q) → fc M q = M q) (kh : ∀ M q, q ≠ 421 → fh M q = M q) (kk : c = 0 → ∀ M k, (k = 3 ∨ 335 ≤ k) → fh M 421 k = M 421 k) (D : c = 0 → ∀ R M, Nm R 235 (I 421) → M 421 = I 421 → Nm (fc R) 235 (fh M 421)) (hJ : AcJ c y l val J (fc (reS I n fa)) I) (hv : QA J n c val fh L w1 w2 t ov h') : ∃ y2 K, ov = some (.int y2) ∧ h' = hp K L w1 w2 t ∧ Sy K ∧ K 420 0 = c ∧ (c = 0 → y2 = val) := by
  rcases hJ with ⟨c0, _, _, rfl⟩ | ⟨c0, _, rfl⟩
  · rcases hv with ⟨_, e1, e2⟩ | ⟨c1, _, _⟩
    · have r0 : ∀ q, 420 ≤ q → fc (reS I n fa) q = I q := fun q hq => by rw [kc _ q (by omega), reS_row (by omega) (by omega)]
      have r1 : ∀ q, q ≠ 420 → q ≠ 425 → remH (up2 (fc (reS I n fa)) 420 0 0) n q = fc (reS I n fa) q := fun q g1 g2 => by rw [remH_row g1 g2, up2_row g1]
      have r21 : remH (up2 (fc (reS I n fa)) 420 0 0) n 421 = I 421 := (r1 421 (by decide) (by decide)).trans (r0 421 (by decide))
      have hn0 : Nm (reS I n fa) 235 (I 421) := h.nm.eq fun q g1 g2 => reS_row (by omega) (by omega)
      have el : ∀ k, k ≠ 0 → k ≠ 7 → fh (remH (up2 (fc (reS I n fa)) 420 0 0) n) 420 k = I 420 k := fun k g1 g2 => by rw [kh _ 420 (by decide), remH_el g2, up2_ne (Or.inr g1), r0 420 (by decide)]
      refine ⟨val, _, e1, e2, Sy.of (n := n) (fa := fa) h (Sim.act (J := fc (reS I n fa)) h.sim hps (fun q g1 _ _ => kc _ q g1) (fun q g1 _ _ => kh _ q g1) (D c0 _ _ hn0 r21) ?_ fun k hk => ?_) (fun q g1 g2 _ _ => ?_) ?_ (el 14 (by decide) (by decide)) (el 9 (by decide) (by decide)), ?_, fun _ => rfl⟩
      · rw [kk c0 _ 3 (Or.inl rfl), r21]
      · rw [kk c0 _ k (Or.inr hk), r21]
      · rw [kh _ q (by omega), r1 q (by omega) (by omega), kc _ q g2]
      · rw [kh _ 426 (by decide), r1 426 (by decide) (by decide), r0 426 (by decide)]
      · rw [kh _ 420 (by decide), remH_el (by decide), up2_at, c0]
    · exact absurd c0 c1
  · rcases hv with ⟨c1, _, _⟩ | ⟨_, e1, e2⟩
    · exact absurd c1 c0
    · exact ⟨0, _, e1, e2, h.u (Fm.up (Fm.up Fm.rf rfl) rfl), up2_at, fun z => absurd z c0⟩
theorem vC_ix (hn : nd ≤ 12) {x : Int32} (h : vC nd W x = 0) : ixN x < nd := by
  unfold vC at h
  by_cases c : inB x 0 (nI nd - 1) = true
  · exact (ix_of hn c).1
  · rw [if_neg c] at h
    exact absurd h (by decide)
theorem vH_ix (hn : nd ≤ 12) {x y : Int32} (h : vH nd np W x y = 0) : ixN x < nd := by
  unfold vH at h
  by_cases c : inB x 0 (nI nd - 1) = true ∧ inB y 0 (nI np - 1) = true
  · exact (ix_of hn c.1).1
  · rw [if_neg c] at h
    exact absurd h (by decide)
theorem vL_ix (hn : nd ≤ 12) {x y : Int32} (h : vL nd x y = 0) : ixN x < nd := by
  unfold vL at h
  by_cases c : inB x 0 (nI nd - 1) = true ∧ (y = -1 ∨ inB y 0 (nI nd - 1) = true)
  · exact (ix_of hn c.1).1
  · rw [if_neg c] at h
    exact absurd h (by decide)
theorem vF_ix (hn : np ≤ 12) {x y : Int32} (h : vF np x y = 0) : ixN x < np := by
  unfold vF at h
  by_cases c : inB x 0 (nI np - 1) = true
  · exact (ix_of hn c).1
  · rw [if_neg c] at h
    exact absurd h (by decide)
theorem Sy.put (h : Sy I) (hps : PsN I n fa) {x : Int32} (hJ : AcJ (vS (dn (I 421)) (I 421) 0 x) y l (mn 99 (I 421 (23 + 6 * ixN x + 2) + 1)) J (up2 (reS I n fa) 240 (ixN x) (mn 99 (I 421 (23 + 6 * ixN x + 2) + 1))) I) (hv : QA J n (vS (dn (I 421)) (I 421) 0 x) (mn 99 (I 421 (23 + 6 * ixN x + 2) + 1)) (fun M => up2 M 421 (23 + 6 * ixN x + 2) (mn 99 (I 421 (23 + 6 * ixN x + 2) + 1))) L w1 w2 t ov h') : ∃ y2 K, ov = some (.int y2) ∧ h' = hp K L w1 w2 t ∧ Sy K ∧ K 420 0 = vS (dn (I 421)) (I 421) 0 x ∧ (vS (dn (I 421)) (I 421) 0 x = 0 → y2 = mn 99 (I 421 (23 + 6 * ixN x + 2) + 1)) := by
  have h12 := h.nm.2.2.1.2.1
  refine h.qa hps (fc := fun M => up2 M 240 (ixN x) (mn 99 (I 421 (23 + 6 * ixN x + 2) + 1))) (fun M q g => up2_row (by omega)) (fun M q g => up2_row g) (fun c0 M k g => up2_ne (Or.inr ?_)) (fun c0 R M hR hM => ?_) hJ hv
  · have := (vS_ix h12 c0).1
    omega
  · show Nm (up2 R 240 (ixN x) _) 235 (up2 M 421 (23 + 6 * ixN x + 2) _ 421)
    rw [up2_ud, hM]
    exact hR.put c0
theorem Sy.stt (h : Sy I) (hps : PsN I n fa) {x k val : Int32} {s : Nat} (hk : ¬ k = 1) (hs : s ≤ 2) (h1 : s ≠ 1) (hJ : AcJ (vS (dn (I 421)) (I 421) k x) y l val J (up2 (reS I n fa) 243 (ixN x) (nI s)) I) (hv : QA J n (vS (dn (I 421)) (I 421) k x) val (fun M => up2 M 421 (23 + 6 * ixN x + 5) (nI s)) L w1 w2 t ov h') : ∃ y2 K, ov = some (.int y2) ∧ h' = hp K L w1 w2 t ∧ Sy K ∧ K 420 0 = vS (dn (I 421)) (I 421) k x ∧ (vS (dn (I 421)) (I 421) k x = 0 → y2 = val) := by
  have h12 := h.nm.2.2.1.2.1
  refine h.qa hps (fc := fun M => up2 M 243 (ixN x) (nI s)) (fun M q g => up2_row (by omega)) (fun M q g => up2_row g) (fun c0 M k g => up2_ne (Or.inr ?_)) (fun c0 R M hR hM => ?_) hJ hv
  · have := (vS_ix h12 c0).1
    omega
  · show Nm (up2 R 243 (ixN x) _) 235 (up2 M 421 (23 + 6 * ixN x + 5) _ 421)
    rw [up2_ud, hM]
    exact hR.stt hk c0 hs h1
theorem Sy.hand (h : Sy I) (hps : PsN I n fa) {x z val : Int32} (hJ : AcJ (vH (dn (I 421)) (pn (I 421)) (I 421) x z) y l val J (up2 (reS I n fa) 238 (ixN x) z) I) (hv : QA J n (vH (dn (I 421)) (pn (I 421)) (I 421) x z) val (fun M => up2 M 421 (23 + 6 * ixN x + 0) z) L w1 w2 t ov h') : ∃ y2 K, ov = some (.int y2) ∧ h' = hp K L w1 w2 t ∧ Sy K ∧ K 420 0 = vH (dn (I 421)) (pn (I 421)) (I 421) x z ∧ (vH (dn (I 421)) (pn (I 421)) (I 421) x z = 0 → y2 = val) := by
  have h12 := h.nm.2.2.1.2.1
  refine h.qa hps (fc := fun M => up2 M 238 (ixN x) z) (fun M q g => up2_row (by omega)) (fun M q g => up2_row g) (fun c0 M k g => up2_ne (Or.inr ?_)) (fun c0 R M hR hM => ?_) hJ hv
  · have := vH_ix h12 c0
    omega
  · show Nm (up2 R 238 (ixN x) _) 235 (up2 M 421 (23 + 6 * ixN x + 0) _ 421)
    rw [up2_ud, hM]
    exact hR.hand c0
theorem Sy.lean (h : Sy I) (hps : PsN I n fa) {x z val : Int32} (hJ : AcJ (vL (dn (I 421)) x z) y l val J (up2 (reS I n fa) 242 (ixN x) z) I) (hv : QA J n (vL (dn (I 421)) x z) val (fun M => up2 M 421 (23 + 6 * ixN x + 4) z) L w1 w2 t ov h') : ∃ y2 K, ov = some (.int y2) ∧ h' = hp K L w1 w2 t ∧ Sy K ∧ K 420 0 = vL (dn (I 421)) x z ∧ (vL (dn (I 421)) x z = 0 → y2 = val) := by
  have h12 := h.nm.2.2.1.2.1
  refine h.qa hps (fc := fun M => up2 M 242 (ixN x) z) (fun M q g => up2_row (by omega)) (fun M q g => up2_row g) (fun c0 M k g => up2_ne (Or.inr ?_)) (fun c0 R M hR hM => ?_) hJ hv
  · have := vL_ix h12 c0
    omega
  · show Nm (up2 R 242 (ixN x) _) 235 (up2 M 421 (23 + 6 * ixN x + 4) _ 421)
    rw [up2_ud, hM]
    exact hR.lean c0
theorem Sy.free (h : Sy I) (hps : PsN I n fa) {x z val : Int32} (hJ : AcJ (vF (pn (I 421)) x z) y l val J (up2 (reS I n fa) 237 (ixN x) z) I) (hv : QA J n (vF (pn (I 421)) x z) val (fun M => up2 M 421 (11 + 2 * ixN x + 1) z) L w1 w2 t ov h') : ∃ y2 K, ov = some (.int y2) ∧ h' = hp K L w1 w2 t ∧ Sy K ∧ K 420 0 = vF (pn (I 421)) x z ∧ (vF (pn (I 421)) x z = 0 → y2 = val) := by
  have h6 := h.nm.2.2.1.1
  refine h.qa hps (fc := fun M => up2 M 237 (ixN x) z) (fun M q g => up2_row (by omega)) (fun M q g => up2_row g) (fun c0 M k g => up2_ne (Or.inr ?_)) (fun c0 R M hR hM => ?_) hJ hv
  · have := vF_ix (Nat.le_trans h6 (by decide)) c0
    omega
  · show Nm (up2 R 237 (ixN x) _) 235 (up2 M 421 (11 + 2 * ixN x + 1) _ 421)
    rw [up2_ud, hM]
    exact hR.free c0
theorem Sy.call (h : Sy I) (hps : PsN I n fa) {x val : Int32} (hJ : AcJ (vC (dn (I 421)) (I 421) x) y l val J (up2 (up2 (reS I n fa) 239 (ixN x) 0) 243 (ixN x) 1) I) (hv : QA J n (vC (dn (I 421)) (I 421) x) val (fun M => up2 (up2 M 421 (23 + 6 * ixN x + 1) 0) 421 (23 + 6 * ixN x + 5) 1) L w1 w2 t ov h') : ∃ y2 K, ov = some (.int y2) ∧ h' = hp K L w1 w2 t ∧ Sy K ∧ K 420 0 = vC (dn (I 421)) (I 421) x ∧ (vC (dn (I 421)) (I 421) x = 0 → y2 = val) := by
  have h12 := h.nm.2.2.1.2.1
  refine h.qa hps (fc := fun M => up2 (up2 M 239 (ixN x) 0) 243 (ixN x) 1) (fun M q g => ?_) (fun M q g => ?_) (fun c0 M k g => ?_) (fun c0 R M hR hM => ?_) hJ hv
  · show up2 (up2 M 239 (ixN x) 0) 243 (ixN x) 1 q = M q
    rw [up2_row (by omega), up2_row (by omega)]
  · show up2 (up2 M 421 (23 + 6 * ixN x + 1) 0) 421 (23 + 6 * ixN x + 5) 1 q = M q
    rw [up2_row g, up2_row g]
  · have := vC_ix h12 c0
    show up2 (up2 M 421 (23 + 6 * ixN x + 1) 0) 421 (23 + 6 * ixN x + 5) 1 421 k = M 421 k
    rw [up2_ne (Or.inr (by omega)), up2_ne (Or.inr (by omega))]
  · show Nm (up2 (up2 R 239 (ixN x) 0) 243 (ixN x) 1) 235 (up2 (up2 M 421 (23 + 6 * ixN x + 1) 0) 421 (23 + 6 * ixN x + 5) 1 421)
    rw [up2_ud, up2_ud, hM]
    exact hR.call c0
end T79zs
end
section
/-! ===== what is known stays: days, undo, back, image, seed, feed, end, street, law ===== -/
section T79zt
variable {I J K : Nat → Nat → Int32} {L : Nat → Nat → Int64} {w1 w2 t n fa nd np nl len e : Nat} {cd fc fn : Nat → Nat} {W T : Nat → Int32} {c y val : Int32} {l : Int64} {ov : Option Value} {h' : aH}
set_option maxRecDepth 100000
theorem inB90 : ∀ m, m < 91 → 1 ≤ m → inB (nI m) 1 90 = true := by decide +kernel
theorem Sy.days (h : Sy I) (hps : PsN I n fa) (ln : LwN (I 421) nl) {x y : Int32} (u : ∀ q, 420 ≤ q → J q = I q) (hJ : (∃ m, 1 ≤ m ∧ m ≤ 90 ∧ x = nI m ∧ y = 0 ∧ (∀ q, (q < 235 ∨ 245 < q) → q ≠ 252 → q ≠ 253 → J q = reS I n fa q) ∧ Sd J 235 (dsW false cd fc fn nl (I 421) m) ∧ Lg J 235 (dsW false cd fc fn nl (I 421) m)) ∨ (inB x 1 90 = false ∧ y = 1 ∧ J = I)) (hv : ∃ z, ov = some (.int z) ∧ ((inB x 1 90 = false ∧ h' = hp (up2 (up2 J 420 0 0) 420 0 1) L w1 w2 t) ∨ ∃ m, 1 ≤ m ∧ m ≤ 90 ∧ x = nI m ∧ ∃ K, h' = hp K L w1 w2 t ∧ (∀ q, q ≠ 421 → q ≠ 428 → q ≠ 429 → K q = remH (up2 J 420 0 0) n q) ∧ K 421 = dsW false cd fc fn nl (I 421) m)) : ∃ z K, ov = some (.int z) ∧ h' = hp K L w1 w2 t ∧ Sy K ∧ K 420 0 = y := by
  obtain ⟨z, rfl, hv⟩ := hv
  rcases hJ with ⟨m, m1, m2, rfl, rfl, f, D, G⟩ | ⟨c, rfl, rfl⟩
  · rcases hv with ⟨c, _⟩ | ⟨m', p1, p2, ex, K, rfl, g, e21⟩
    · rw [inB90 m (by omega) m1] at c
      cases c
    · obtain rfl := nI_inj (by omega) (by omega) ex
      have ok : DsOk nl (I 421) (dsW false cd fc fn nl (I 421) m) := dsW_ok ⟨h.nm.2.2, rfl, rfl, ln, rfl, fun _ _ => rfl⟩ m
      refine ⟨z, K, rfl, rfl, Sy.of (n := n) (fa := fa) h (Sim.days h.sim hps ok f D G g e21) (fun q g1 g2 g3 g4 => ?_) ?_ ?_ ?_, ?_⟩
      · rw [g q (by omega) (by omega) (by omega), remH_row (by omega) (by omega), up2_row (by omega)]
        exact f q g2 g3 g4
      · rw [g 426 (by decide) (by decide) (by decide), remH_row (by decide) (by decide), up2_row (by decide), u 426 (by decide)]
      · rw [g 420 (by decide) (by decide) (by decide), remH_el (by decide), up2_ne (by decide), u 420 (by decide)]
      · rw [g 420 (by decide) (by decide) (by decide), remH_el (by decide), up2_ne (by decide), u 420 (by decide)]
      · rw [g 420 (by decide) (by decide) (by decide), remH_el (by decide), up2_at]
  · rcases hv with ⟨_, rfl⟩ | ⟨m', p1, p2, rfl, _⟩
    · exact ⟨z, _, rfl, rfl, h.u (Fm.up (Fm.up Fm.rf rfl) rfl), up2_at⟩
    · rw [inB90 m' (by omega) p1] at c
      cases c
/-- a mutator of the class and what the reference did -/
theorem Sy.mt (h : Sy I) (m : Mt I J) (e3 : J 200 3 = I 200 3) (g : ∀ q, (q < 420 ∨ q = 426) → K q = J q) (e9 : K 420 9 = J 420 9) (e14 : K 420 14 = J 420 14) (hs : Sim K) : Sy K := by
  obtain ⟨⟨h1, h2⟩, ⟨_, h6⟩, l, h4, h5, h7⟩ := h
  have r4 := m.1 420 (by decide)
  refine ⟨⟨(m.2.2.2.1 h1).rows fun q hq => g q (Or.inl hq), (h2.m m).r g⟩, ⟨hs, ?_⟩, l, h4, ?_, ?_⟩
  · rw [g 200 (by decide), e3, e14, r4]
    exact h6
  · rw [g 201 (by decide)]
    exact m.2.1.trans h5
  · rw [e9, r4]
    exact h7
theorem Mt_unS : Mt I (unS I n fa) := by
  unfold unS
  by_cases e : n = 0
  · rw [if_pos e]
    exact Mt.rf
  · rw [if_neg e]
    exact Mt.tr (Mt.of (Fm.up Fm.rf rfl)) (Mt.cpA (by decide) (stp_past _ (Nat.mod_lt _ (by decide))) (by omega))
theorem unS_el {k : Nat} (hk : k ≠ 13) : unS I n fa 200 k = I 200 k := by
  unfold unS
  by_cases e : n = 0
  · rw [if_pos e]
  · rw [if_neg e, cpS_out (by omega), up2_ne (Or.inr hk)]
theorem unS_hi {q : Nat} (hq : 420 ≤ q) : unS I n fa q = I q := by
  unfold unS
  by_cases e : n = 0
  · rw [if_pos e]
  · rw [if_neg e, cpS_out (by omega), up2_row (by omega)]
theorem unH_row {q : Nat} (h1 : q ≠ 420) (h2 : q ≠ 421) : unH I n q = I q := by
  unfold unH
  by_cases e : n = 0
  · rw [if_pos e, up2_row h1]
  · rw [if_neg e, cpR_row h2, up2_row h1, up2_row h1]
theorem unH_el {k : Nat} (h1 : k ≠ 0) (h2 : k ≠ 7) : unH I n 420 k = I 420 k := by
  unfold unH
  by_cases e : n = 0
  · rw [if_pos e, up2_ne (Or.inr h1)]
  · rw [if_neg e, cpR_row (by decide), up2_ne (Or.inr h2), up2_ne (Or.inr h1)]
theorem Sy.undo (h : Sy I) (hps : PsN I n fa) : Sy (unH (unS I n fa) n) := h.mt Mt_unS (unS_el (by decide)) (fun q hq => unH_row (by omega) (by omega)) (unH_el (by decide) (by decide)) (unH_el (by decide) (by decide)) (h.sim.undo hps)
theorem Mt_bkS : Mt I (bkS I) := by
  unfold bkS
  exact Mt.fm (Mt.fm (Mt.cpA (by decide) (by decide) (by decide)) (Fm.cl (Fm.rf (s := sM)) (by decide) Fm_l246)) (Fm.up Fm.rf rfl)
theorem bkH_row {q : Nat} (h1 : q ≠ 420) (h2 : q ≠ 421) : bkH I q = I q := by
  unfold bkH
  rw [up2_row h1, cpR_row h2, up2_row h1]
theorem bkH_el {k : Nat} (h1 : k ≠ 0) (h2 : k ≠ 7) : bkH I 420 k = I 420 k := by
  unfold bkH
  rw [up2_ne (Or.inr h2), cpR_row (by decide), up2_ne (Or.inr h1)]
theorem bkS_el {k : Nat} (hk : k ≠ 13) : bkS I 200 k = I 200 k := by
  unfold bkS cpL
  rw [up2_ne (Or.inr hk), up2_row (by decide), cpS_out (by omega), cpS_out (by omega)]
theorem Sy.im6 (h : Sy I) : I 200 10 = 0 ↔ I 420 6 = 0 := by
  rcases h.sim.2.2.1 with ⟨a, b⟩ | ⟨a, b, _⟩
  · exact ⟨fun _ => b, fun _ => a⟩
  · exact ⟨fun z => absurd z a, fun z => absurd z b⟩
theorem bkS_6 : (if I 200 10 = 0 then I else bkS I) 420 6 = I 420 6 := by
  by_cases c : I 200 10 = 0
  · rw [if_pos c]
  · rw [if_neg c]
    exact congrFun (Mt_bkS.1 420 (by decide)) 6
theorem Sy.back (h : Sy I) : Sy (if (if I 200 10 = 0 then I else bkS I) 420 6 = 0 then up2 (if I 200 10 = 0 then I else bkS I) 420 0 0 else bkH (if I 200 10 = 0 then I else bkS I)) := by
  rw [bkS_6]
  by_cases c : I 200 10 = 0
  · rw [if_pos c, if_pos (h.im6.mp c)]
    exact h.u (Fm.up Fm.rf rfl)
  · obtain ⟨c6, hs⟩ := h.sim.back c
    rw [if_neg c, if_neg c6]
    exact h.mt Mt_bkS (bkS_el (by decide)) (fun q hq => bkH_row (by omega) (by omega)) (bkH_el (by decide) (by decide)) (bkH_el (by decide) (by decide)) hs
theorem imS_hi {q : Nat} (hq : 420 ≤ q) : imS I q = I q := by
  unfold imS cpL
  rw [up2_row (by omega), up2_row (by omega), cpS_out (by omega), cpS_out (by omega)]
theorem imH_el {k : Nat} (h1 : k ≠ 0) (h2 : k ≠ 6) : imH I 420 k = I 420 k := by
  unfold imH
  rw [up2_ne (Or.inr h2), cpR_row (by decide), up2_ne (Or.inr h1)]
theorem Sy.image (h : Sy I) : Sy (imH (imS I)) := by
  have hs := h.sim.image
  have m : Mt I (cpL (cpS I 268 235 11) 279 246) := Mt.fm (Mt.cpA (by decide) (by decide) (by decide)) (Fm.cl (Fm.rf (s := sM)) (by decide) Fm_l279)
  obtain ⟨⟨h1, h2⟩, ⟨_, h6⟩, l, h4, h5, h7⟩ := h
  have row : ∀ q, q ≠ 420 → q ≠ 422 → q ≠ 200 → imH (imS I) q = cpL (cpS I 268 235 11) 279 246 q := fun q g1 g2 g3 => by
    rw [imH_row g2 g1]
    unfold imS
    rw [up2_row g3]
  have r4 : ∀ k, k ≠ 0 → k ≠ 6 → imH (imS I) 420 k = I 420 k := fun k g1 g2 => by
    rw [imH_el g1 g2]
    unfold imS
    rw [up2_row (by decide), m.1 420 (by decide)]
  refine ⟨⟨fun a ha g2 => ?_, ?_⟩, ⟨hs, ?_⟩, l, h4, ?_, (r4 9 (by decide) (by decide)).trans h7⟩
  · have := stp_hi a ha
    rw [row a (by omega) (by omega) (by omega)]
    exact m.2.2.2.1 h1 a ha g2
  · exact (h2.m m).eq (row 426 (by decide) (by decide) (by decide)) (row 202 (by decide) (by decide) (by decide)) (congrFun (row 203 (by decide) (by decide) (by decide)) 1) (congrFun (row 220 (by decide) (by decide) (by decide)) 1)
  · rw [r4 14 (by decide) (by decide), imH_row (by decide) (by decide)]
    unfold imS cpL
    rw [up2_ne (by decide), up2_row (by decide), cpS_out (by omega), cpS_out (by omega)]
    exact h6
  · rw [row 201 (by decide) (by decide) (by decide)]
    exact m.2.1.trans h5
theorem Sy.seed (h : Sy I) {x : Int32} : Sy (up2 (up2 (up2 I 235 15 x) 420 0 0) 421 10 x) := Sy.mt (J := up2 I 235 15 x) h (Mt.of (Fm.up Fm.rf rfl)) (congrFun (up2_row (p := 235) (q := 200) (by decide)) 3) (fun q hq => by rw [up2_row (by omega), up2_row (by omega)]) (by rw [up2_row (by decide), up2_ne (by decide)]) (by rw [up2_row (by decide), up2_ne (by decide)]) h.sim.seed
theorem Sim.fr (h : Sim I) (g : ∀ q, q ≠ 201 → q ≠ 202 → q ≠ 420 → q ≠ 426 → q ≠ 427 → J q = I q) (g6 : J 420 6 = I 420 6) (g7 : J 420 7 = I 420 7) : Sim J := by
  have r2 := g 200 (by decide) (by decide) (by decide) (by decide) (by decide)
  exact h.eq (fun q _ _ _ => g q (by omega) (by omega) (by omega) (by omega) (by omega)) (g 421 (by decide) (by decide) (by decide) (by decide) (by decide)) (g 422 (by decide) (by decide) (by decide) (by decide) (by decide)) (g 425 (by decide) (by decide) (by decide) (by decide) (by decide)) (congrFun r2 10) (congrFun r2 12) (congrFun r2 13) g6 g7
/-- between both ends of a tape -/
def Se (l : Nat) (x : Int32) (b : Bool) (J : Nat → Nat → Int32) : Prop := (CI J ∧ Tp J) ∧ (Sim J ∧ J 200 3 = J 420 14) ∧ l ≤ 400 ∧ J 420 9 = nI l ∧ J 201 1 = (if b then x else nI l) ∧ b = endB x (nI l)
theorem Se.mk {l : Nat} {x : Int32} (h : Sy I) (hl : l ≤ 400) (e1 : I 201 1 = nI l) (e2 : I 420 9 = nI l) : Se l x (endB x (nI l)) (if endB x (I 201 1) = true then up2 I 201 1 x else I) := by
  obtain ⟨⟨h1, ht⟩, ⟨hs, h6⟩, -⟩ := h
  rw [e1]
  cases hb : endB x (nI l) with
  | false =>
    exact ⟨⟨h1, ht⟩, ⟨hs, h6⟩, hl, e2, e1, hb.symm⟩
  | true =>
    rw [if_pos rfl]
    exact ⟨⟨fun a ha g2 => by rw [up2_row (by intro z; subst z; exact absurd ha (by decide))]; exact h1 a ha g2, ht.f fun q g1 _ => up2_row g1⟩, ⟨hs.fr (fun q g1 _ _ _ _ => up2_row g1) (congrFun (up2_row (by decide)) 6) (congrFun (up2_row (by decide)) 7), by rw [up2_row (by decide), up2_row (by decide)]; exact h6⟩, hl, (congrFun (up2_row (by decide)) 9).trans e2, up2_at, hb.symm⟩
theorem Se.sy {l : Nat} {x : Int32} {b : Bool} (h : Se l x b J) : Sy (if endB x (J 420 9) = true then up2 (up2 J 420 0 0) 420 9 x else up2 J 420 0 0) := by
  obtain ⟨⟨h1, ht⟩, ⟨hs, hf⟩, h3, h4, h5, h6⟩ := h
  rw [h4]
  cases hb : endB x (nI l) with
  | false =>
    rw [h6, hb] at h5
    rw [if_neg (by decide)]
    exact ⟨⟨h1.rows fun q hq => up2_row (by omega), ht.f fun q _ g => up2_row g⟩, ⟨hs.thr, by rw [up2_row (by decide), up2_ne (Or.inr (by decide))]; exact hf⟩, l, h3, (congrFun (up2_row (by decide)) 1).trans h5, (up2_ne (Or.inr (by decide))).trans h4⟩
  | true =>
    rw [h6, hb] at h5
    rw [if_pos rfl]
    obtain ⟨g1, g2⟩ := of_decide_eq_true hb
    obtain ⟨m, -, hm, rfl⟩ := inB_nI (a := 0) (b := l) ⟨by decide, by omega⟩ (le0 (Int32.not_lt.mp g1) g2)
    exact ⟨⟨h1.rows fun q hq => by rw [up2_row (by omega), up2_row (by omega)], ht.f fun q _ g => by rw [up2_row g, up2_row g]⟩, ⟨hs.fr (fun q _ _ g _ _ => by rw [up2_row g, up2_row g]) (by rw [up2_ne (by decide), up2_ne (by decide)]) (by rw [up2_ne (by decide), up2_ne (by decide)]), by rw [up2_row (by decide), up2_row (by decide), up2_ne (by decide), up2_ne (by decide)]; exact hf⟩, m, by omega, by rw [up2_row (by decide), up2_row (by decide)]; exact h5, up2_at⟩
theorem fdH_row {l q : Nat} {x1 x2 x3 x4 x5 : Int32} (h1 : q ≠ 201) (h2 : q ≠ 202) : fdH I l x1 x2 x3 x4 x5 q = I q := by
  unfold fdH
  rw [apH_row h1 h2, apH_row h1 h2, apH_row h1 h2, apH_row h1 h2, apH_row h1 h2]
/-- between both feeds -/
def Sf (l : Nat) (y1 y2 y3 y4 y5 : Int32) (J : Nat → Nat → Int32) : Prop := (CI J ∧ (J 203 1 = 14 ∧ J 220 1 = 12 ∧ BtT (J 426) ∧ J 202 = (if l + 20 ≤ 400 then tpF (J 426) l 20 y1 y2 y3 y4 y5 else J 426))) ∧ (Sim J ∧ J 200 3 = J 420 14) ∧ l ≤ 400 ∧ J 201 1 = (if l + 20 ≤ 400 then nI (l + 20) else nI l) ∧ J 420 9 = nI l
theorem Sf.mk {l : Nat} {x1 x2 x3 x4 x5 : Int32} (h : Sy I) (hl : l ≤ 400) (e1 : I 201 1 = nI l) (e2 : I 420 9 = nI l) : Sf l x1 x2 x3 x4 x5 (if l + 20 ≤ 400 then fdH I l x1 x2 x3 x4 x5 else I) := by
  obtain ⟨⟨h1, t1, t2, t3, t4⟩, ⟨hs, h6⟩, -⟩ := h
  by_cases c : l + 20 ≤ 400
  · rw [if_pos c]
    have r : ∀ q, q ≠ 201 → q ≠ 202 → fdH I l x1 x2 x3 x4 x5 q = I q := fun q g1 g2 => fdH_row g1 g2
    refine ⟨⟨fun a ha g2 => ?_, ?_, ?_, ?_, ?_⟩, ⟨hs.fr (fun q g1 g2 _ _ _ => r q g1 g2) (congrFun (r 420 (by decide) (by decide)) 6) (congrFun (r 420 (by decide) (by decide)) 7), ?_⟩, hl, ?_, (congrFun (fdH_row (by decide) (by decide)) 9).trans e2⟩
    · rw [fdH_row (by intro z; subst z; exact absurd ha (by decide)) (by intro z; subst z; exact absurd ha (by decide))]
      exact h1 a ha g2
    · rw [fdH_row (by decide) (by decide)]
      exact t3
    · rw [fdH_row (by decide) (by decide)]
      exact t4
    · rw [fdH_row (by decide) (by decide), t1]
      exact t2
    · rw [if_pos c, fdH_202, fdH_row (q := 426) (by decide) (by decide), t1]
    · rw [r 200 (by decide) (by decide), r 420 (by decide) (by decide)]
      exact h6
    · rw [if_pos c]
      unfold fdH
      exact apH_len
  · rw [if_neg c]
    exact ⟨⟨h1, t3, t4, by rw [t1]; exact t2, by rw [if_neg c]; exact t1.symm⟩, ⟨hs, h6⟩, hl, by rw [if_neg c]; exact e1, e2⟩
theorem Sf.sy {l : Nat} {y1 y2 y3 y4 y5 : Int32} {g : Nat → Int32} (h : Sf l y1 y2 y3 y4 y5 J) : Sy (if l + 20 ≤ 400 then up2 (upr (upr (up2 J 420 0 0) 427 g) 426 (tpF (J 426) l 20 y1 y2 y3 y4 y5)) 420 9 (nI (l + 20)) else up2 J 420 0 0) := by
  obtain ⟨⟨h1, t1, t2, t3, t4⟩, ⟨hs, h6⟩, h3, h4, h5⟩ := h
  by_cases c : l + 20 ≤ 400
  · rw [if_pos c]
    rw [if_pos c] at h4 t4
    have e0 : ∀ q, q ≠ 420 → q ≠ 426 → q ≠ 427 → up2 (upr (upr (up2 J 420 0 0) 427 g) 426 (tpF (J 426) l 20 y1 y2 y3 y4 y5)) 420 9 (nI (l + 20)) q = J q := fun q g1 g2 g3 => by
      rw [up2_row g1, upr_row g2, upr_row g3, up2_row g1]
    have e1 : ∀ k, k ≠ 9 → k ≠ 0 → up2 (upr (upr (up2 J 420 0 0) 427 g) 426 (tpF (J 426) l 20 y1 y2 y3 y4 y5)) 420 9 (nI (l + 20)) 420 k = J 420 k := fun k hk h0 => by
      rw [up2_ne (Or.inr hk), upr_row (by decide), upr_row (by decide), up2_ne (Or.inr h0)]
    have e6 : up2 (upr (upr (up2 J 420 0 0) 427 g) 426 (tpF (J 426) l 20 y1 y2 y3 y4 y5)) 420 9 (nI (l + 20)) 426 = tpF (J 426) l 20 y1 y2 y3 y4 y5 := by
      rw [up2_row (by decide)]
      exact upr_at
    exact ⟨⟨h1.rows fun q hq => e0 q (by omega) (by omega) (by omega), e6.trans (t4.symm.trans (e0 202 (by decide) (by decide) (by decide)).symm), by rw [e0 202 (by decide) (by decide) (by decide), t4]; exact tpF_bt t3, by rw [e0 203 (by decide) (by decide) (by decide)]; exact t1, by rw [e0 220 (by decide) (by decide) (by decide)]; exact t2⟩, ⟨hs.fr (fun q _ _ g3 g4 g5 => e0 q g3 g4 g5) (e1 6 (by decide) (by decide)) (e1 7 (by decide) (by decide)), by rw [e0 200 (by decide) (by decide) (by decide), e1 14 (by decide) (by decide)]; exact h6⟩, l + 20, c, (congrFun (e0 201 (by decide) (by decide) (by decide)) 1).trans h4, up2_at⟩
  · rw [if_neg c]
    rw [if_neg c] at h4 t4
    exact ⟨⟨h1.rows fun q hq => up2_row (by omega), by rw [up2_row (by decide), up2_row (by decide)]; exact t4.symm, by rw [up2_row (by decide), t4]; exact t3, by rw [up2_row (by decide)]; exact t1, by rw [up2_row (by decide)]; exact t2⟩, ⟨hs.thr, by rw [up2_row (by decide), up2_ne (by decide)]; exact h6⟩, l, h3, (congrFun (up2_row (by decide)) 1).trans h4, (up2_ne (Or.inr (by decide))).trans h5⟩
/-- the class's street, read or not -/
def StC (r : SR) (I J : Nat → Nat → Int32) (y : Int32) (l : Int64) : Prop :=
  (r.1 = true ∧ ¬ I 421 2 = 12 ∧ y = 0 ∧ l = (I 421 2 + 1).toInt64 ∧ J 200 3 = -1 ∧ J 200 13 = 0 ∧ Sd J 235 (ud r.2.2 2 (I 421 2 + 1))) ∨
  (r.1 = false ∧ y = 1 ∧ J 200 3 = nI r.2.1 ∧ J 200 13 = I 200 13 ∧ Sd J 235 (I 421)) ∨
  (r.1 = true ∧ I 421 2 = 12 ∧ y = 2 ∧ J 200 3 = -1 ∧ J 200 13 = I 200 13 ∧ Sd J 235 (I 421))
theorem Sy.street (h : Sy I) (hci : CI J) (f : Fm sJ I J) (c1 : J 201 1 = 0) (hC : StC (strP T e (I 421)) I J y l) (us : Us nd np J K) (k2 : K 422 = J 422) (k5 : K 425 = J 425) (hN : StN (strP T e (I 421)) J K ov) : Sy K ∧ ∃ z, ov = some (.int z) ∧ K 420 0 = y ∧ (y = 0 → l = z.toInt64) := by
  have e21 : J 421 = I 421 := funext fun k => f 421 k (sJ_hi (by decide))
  have g : ∀ q, q < 420 → K q = J q := fun q hq => us.1 q (Or.inl hq)
  have g6 : K 420 6 = J 420 6 := us.2.2.1
  have all : Sim K → K 200 3 = K 420 14 → Sy K := fun hs hf => ⟨⟨hci.rows g, h.1.2.eq ((us.1 426 (Or.inr rfl)).trans (funext fun k => f 426 k (sJ_hi (by decide)))) ((g 202 (by decide)).trans (funext fun k => f 202 k rfl)) ((congrFun (g 203 (by decide)) 1).trans (f 203 1 rfl)) ((congrFun (g 220 (by decide)) 1).trans (f 220 1 rfl))⟩, ⟨hs, hf⟩, 0, by decide, (congrFun (g 201 (by decide)) 1).trans c1, us.2.1⟩
  have g3 : K 200 3 = J 200 3 := congrFun (g 200 (by decide)) 3
  unfold StN at hN
  rw [e21] at hN
  rcases hC with ⟨a1, a2, a3, a4, a5, a6, a7⟩ | ⟨a1, a3, a5, a6, a7⟩ | ⟨a1, a2, a3, a5, a6, a7⟩
  · rcases hN with ⟨b1, _⟩ | ⟨_, b2, _⟩ | ⟨b1, b2, b3, b4, b5, b6, b7⟩
    · rw [a1] at b1
      cases b1
    · exact absurd b2 a2
    · exact ⟨all (h.sim.street a1 a2 f a6 a7 g g6 k2 b6 b7) (by rw [g3, a5, b5]), _, b3, by rw [b4, a3], fun _ => a4⟩
  · rcases hN with ⟨b1, b3, b4, b5, b6, b7⟩ | ⟨b1, _⟩ | ⟨b1, _⟩
    · exact ⟨all (h.sim.streetNo f a6 a7 g g6 k2 k5 (b6.trans e21.symm) b7) (by rw [g3, a5, b5]), _, b3, by rw [b4, a3], fun z => by rw [a3] at z; exact absurd z (by decide)⟩
    · rw [a1] at b1
      cases b1
    · rw [a1] at b1
      cases b1
  · rcases hN with ⟨b1, _⟩ | ⟨b1, b2, b3, b4, b5, b6, b7⟩ | ⟨_, b2, _⟩
    · rw [a1] at b1
      cases b1
    · exact ⟨all (h.sim.streetNo f a6 a7 g g6 k2 k5 (b6.trans e21.symm) b7) (by rw [g3, a5, b5]), _, b3, by rw [b4, a3], fun z => by rw [a3] at z; exact absurd z (by decide)⟩
    · exact absurd a2 b2
/-- the class's law, read or not -/
def LaC (r : LRs) (I J : Nat → Nat → Int32) (y : Int32) (l : Int64) : Prop :=
  (r.1 = true ∧ y = 0 ∧ l = (nI r.2.2.2.length).toInt64 ∧ LwC r J ∧ Fm sLw I J ∧ r.2.2.2.length ≤ 12 ∧ r.2.2.1.length ≤ 400) ∨
  (r.1 = false ∧ y = 1 ∧ J 200 3 = nI r.2.1 ∧ Fm sLf I J)
theorem Sy.law (h : Sy I) (m : Mt0 I J) (hC : LaC (lawP T e) I J y l) (us : Us nd np J K) (k0 : K 420 0 = (if (lawP T e).1 = true then 0 else 1)) (k14 : K 420 14 = (if (lawP T e).1 = true then -1 else nI (lawP T e).2.1)) (g : ∀ q, q ≠ 420 → q ≠ 421 → K q = J q) (lj : LwJ (lawP T e) J K) (k7 : (lawP T e).1 = true → K 420 7 = 0 ∧ ∀ k, k < 335 → k ≠ 3 → K 421 k = J 421 k) (k8 : (lawP T e).1 = false → K 420 7 = J 420 7) : Sy K ∧ K 420 0 = y := by
  obtain ⟨m1, m2, _, m4, m5, m6, m7⟩ := Mt0.all m
  have all : Sim K → K 200 3 = K 420 14 → Sy K := fun hs hf => ⟨⟨(m4 h.1.1).rows fun q hq => g q (by omega) (by omega), h.1.2.eq ((g 426 (by decide) (by decide)).trans (m1 426 (by decide))) ((g 202 (by decide) (by decide)).trans m5) ((congrFun (g 203 (by decide) (by decide)) 1).trans m6) ((congrFun (g 220 (by decide) (by decide)) 1).trans m7)⟩, ⟨hs, hf⟩, 0, by decide, (congrFun (g 201 (by decide) (by decide)) 1).trans m2, us.2.1⟩
  have g3 : K 200 3 = J 200 3 := congrFun (g 200 (by decide) (by decide)) 3
  rcases hC with ⟨a1, a2, a3, a4, a5, a6, a7⟩ | ⟨a1, a2, a3, a4⟩
  · obtain ⟨k7a, k7b⟩ := k7 a1
    rw [if_pos a1] at k0 k14
    exact ⟨all (h.sim.law a5 a4 a6 a7 (lawP_ok a1) (lawP_nb a1) us g k7a k7b lj a1) (by rw [g3, k14]; exact a4.1), by rw [k0, a2]⟩
  · rw [if_neg (by rw [a1]; decide)] at k0 k14
    exact ⟨all (h.sim.lawNo a4 us g (k8 a1) lj a1) (by rw [g3, k14, a3]), by rw [k0, a2]⟩
end T79zt
end
section
/-! ===== what is known between two operations; the law's wrappers (printed by program) ===== -/
set_option maxRecDepth 100000
/-- of the exceptions, which is none of which -/
def ncs : List (String × String) := [("java/lang/UnsupportedOperationException", "java/lang/IllegalArgumentException"), ("java/lang/IndexOutOfBoundsException", "java/lang/IllegalArgumentException"), ("java/util/NoSuchElementException", "java/lang/IllegalArgumentException"), ("java/lang/IllegalStateException", "java/lang/IllegalArgumentException"), ("java/lang/IllegalArgumentException", "java/lang/UnsupportedOperationException"), ("java/lang/IndexOutOfBoundsException", "java/lang/UnsupportedOperationException"), ("java/util/NoSuchElementException", "java/lang/UnsupportedOperationException"), ("java/lang/IllegalStateException", "java/lang/UnsupportedOperationException"), ("java/lang/IllegalArgumentException", "java/lang/IndexOutOfBoundsException"), ("java/lang/UnsupportedOperationException", "java/lang/IndexOutOfBoundsException"), ("java/util/NoSuchElementException", "java/lang/IndexOutOfBoundsException"), ("java/lang/IllegalStateException", "java/lang/IndexOutOfBoundsException"), ("java/lang/IllegalArgumentException", "java/util/NoSuchElementException"), ("java/lang/UnsupportedOperationException", "java/util/NoSuchElementException"), ("java/lang/IndexOutOfBoundsException", "java/util/NoSuchElementException"), ("java/lang/IllegalStateException", "java/util/NoSuchElementException"), ("java/lang/IllegalArgumentException", "java/lang/IllegalStateException"), ("java/lang/UnsupportedOperationException", "java/lang/IllegalStateException"), ("java/lang/IndexOutOfBoundsException", "java/lang/IllegalStateException"), ("java/util/NoSuchElementException", "java/lang/IllegalStateException")]
def HdS (S : aS) : Prop := WdS S ∧ ∀ r, r ∈ ncs → r ∈ S.2.2.2.2.2
theorem tk_13 {S : aS} {pc a b hpc : Nat} {rs : List (Nat × Nat × Nat × Nat)} {C : aM} (hC : C.1.cls = RL) (h1 : a ≤ pc) (h2 : pc < b) : hTake S C pc "java/lang/IllegalArgumentException" ((a, b, hpc, 13) :: rs) hpc := ⟨⟨h1, h2, by show (13 : Nat) ≠ 0; decide⟩, _, by rw [hC]; exact (inC3 (i := 203) rfl rfl), Or.inl ⟨⟨inD4 (i := 232) rfl, rfl⟩, rfl⟩⟩
theorem tn_13 {S : aS} {pc a b q hpc : Nat} {rs : List (Nat × Nat × Nat × Nat)} {C : aM} {E : String} (hC : C.1.cls = RL) (h1 : a ≤ pc) (h2 : pc < b) (hE : (E, "java/lang/IllegalArgumentException") ∈ S.2.2.2.2.2) (k : hTake S C pc E rs hpc) : hTake S C pc E ((a, b, q, 13) :: rs) hpc := ⟨⟨h1, h2, by show (13 : Nat) ≠ 0; decide⟩, _, by rw [hC]; exact (inC3 (i := 203) rfl rfl), Or.inr ⟨hE, k⟩⟩
theorem tk_15 {S : aS} {pc a b hpc : Nat} {rs : List (Nat × Nat × Nat × Nat)} {C : aM} (hC : C.1.cls = RL) (h1 : a ≤ pc) (h2 : pc < b) : hTake S C pc "java/lang/UnsupportedOperationException" ((a, b, hpc, 15) :: rs) hpc := ⟨⟨h1, h2, by show (15 : Nat) ≠ 0; decide⟩, _, by rw [hC]; exact (inC3 (i := 204) rfl rfl), Or.inl ⟨⟨inD5 (i := 57) rfl, rfl⟩, rfl⟩⟩
theorem tn_15 {S : aS} {pc a b q hpc : Nat} {rs : List (Nat × Nat × Nat × Nat)} {C : aM} {E : String} (hC : C.1.cls = RL) (h1 : a ≤ pc) (h2 : pc < b) (hE : (E, "java/lang/UnsupportedOperationException") ∈ S.2.2.2.2.2) (k : hTake S C pc E rs hpc) : hTake S C pc E ((a, b, q, 15) :: rs) hpc := ⟨⟨h1, h2, by show (15 : Nat) ≠ 0; decide⟩, _, by rw [hC]; exact (inC3 (i := 204) rfl rfl), Or.inr ⟨hE, k⟩⟩
theorem tk_24 {S : aS} {pc a b hpc : Nat} {rs : List (Nat × Nat × Nat × Nat)} {C : aM} (hC : C.1.cls = RL) (h1 : a ≤ pc) (h2 : pc < b) : hTake S C pc "java/lang/IndexOutOfBoundsException" ((a, b, hpc, 24) :: rs) hpc := ⟨⟨h1, h2, by show (24 : Nat) ≠ 0; decide⟩, _, by rw [hC]; exact (inC5 (i := 87) rfl rfl), Or.inl ⟨⟨inD5 (i := 99) rfl, rfl⟩, rfl⟩⟩
theorem tn_24 {S : aS} {pc a b q hpc : Nat} {rs : List (Nat × Nat × Nat × Nat)} {C : aM} {E : String} (hC : C.1.cls = RL) (h1 : a ≤ pc) (h2 : pc < b) (hE : (E, "java/lang/IndexOutOfBoundsException") ∈ S.2.2.2.2.2) (k : hTake S C pc E rs hpc) : hTake S C pc E ((a, b, q, 24) :: rs) hpc := ⟨⟨h1, h2, by show (24 : Nat) ≠ 0; decide⟩, _, by rw [hC]; exact (inC5 (i := 87) rfl rfl), Or.inr ⟨hE, k⟩⟩
theorem tk_26 {S : aS} {pc a b hpc : Nat} {rs : List (Nat × Nat × Nat × Nat)} {C : aM} (hC : C.1.cls = RL) (h1 : a ≤ pc) (h2 : pc < b) : hTake S C pc "java/util/NoSuchElementException" ((a, b, hpc, 26) :: rs) hpc := ⟨⟨h1, h2, by show (26 : Nat) ≠ 0; decide⟩, _, by rw [hC]; exact (inC5 (i := 88) rfl rfl), Or.inl ⟨⟨inD5 (i := 122) rfl, rfl⟩, rfl⟩⟩
theorem tn_26 {S : aS} {pc a b q hpc : Nat} {rs : List (Nat × Nat × Nat × Nat)} {C : aM} {E : String} (hC : C.1.cls = RL) (h1 : a ≤ pc) (h2 : pc < b) (hE : (E, "java/util/NoSuchElementException") ∈ S.2.2.2.2.2) (k : hTake S C pc E rs hpc) : hTake S C pc E ((a, b, q, 26) :: rs) hpc := ⟨⟨h1, h2, by show (26 : Nat) ≠ 0; decide⟩, _, by rw [hC]; exact (inC5 (i := 88) rfl rfl), Or.inr ⟨hE, k⟩⟩
theorem tk_35 {S : aS} {pc a b hpc : Nat} {rs : List (Nat × Nat × Nat × Nat)} {C : aM} (hC : C.1.cls = RL) (h1 : a ≤ pc) (h2 : pc < b) : hTake S C pc "java/lang/IllegalStateException" ((a, b, hpc, 35) :: rs) hpc := ⟨⟨h1, h2, by show (35 : Nat) ≠ 0; decide⟩, _, by rw [hC]; exact (inC5 (i := 153) rfl rfl), Or.inl ⟨⟨inD5 (i := 161) rfl, rfl⟩, rfl⟩⟩
theorem tn_35 {S : aS} {pc a b q hpc : Nat} {rs : List (Nat × Nat × Nat × Nat)} {C : aM} {E : String} (hC : C.1.cls = RL) (h1 : a ≤ pc) (h2 : pc < b) (hE : (E, "java/lang/IllegalStateException") ∈ S.2.2.2.2.2) (k : hTake S C pc E rs hpc) : hTake S C pc E ((a, b, q, 35) :: rs) hpc := ⟨⟨h1, h2, by show (35 : Nat) ≠ 0; decide⟩, _, by rw [hC]; exact (inC5 (i := 153) rfl rfl), Or.inr ⟨hE, k⟩⟩
def HdP (P : (Nat → Nat → Int32) → Prop) : Option Value → aH → Prop := fun v h' => isI v ∧ ∃ I' L' w1' w2' t', h' = hp I' L' w1' w2' t' ∧ P I' ∧ WK w1' ∧ WK w2'
section W80
variable {S : aS} {I : Nat → Nat → Int32} {L : Nat → Nat → Int64} {w1 w2 t : Nat}
theorem L_person (hS : HdS S) (hci : CI I) (hk1 : WK w1) (hk2 : WK w2) {x1 : Int32} {x2 : Int32} : Sp S m_L_person 20 2 12 [.ref 200, .int x1, .int x2, .ref 431] (hp I L w1 w2 t) (HdP (Fm sQ I)) nX := by
  refine Sp_of ok_L_person rfl rfl ?_
  show AW S m_L_person 20 _ _ 2 12 0 [some (.ref 200), some (.int x1), some (.int x2), some (.ref 431), none] [] (hp I L w1 w2 t)
  refine a_l3 rfl rfl rfl ?_
  refine a_s rfl rfl ?_
  refine a_l0 rfl rfl rfl ?_
  refine a_l1 rfl rfl rfl ?_
  refine a_l2 rfl rfl rfl ?_
  refine a_callVc rfl lL_20 mo_X11_person (q_X11_person_200) rfl rfl rfl ⟨11, _, rfl, rfl, rfl⟩ (fun v' h' hv => ?_) (fun E h' hx => ?_)
  · obtain ⟨⟨v, rfl⟩, I1, rfl, f⟩ := hv
    refine a_s rfl rfl ?_
    refine a_last rfl (n := 1) rfl ⟨by decide, by decide⟩ ?_
    refine a_goto rfl ?_
    refine a_s rfl rfl ?_
    exact a_iret rfl rfl ⟨⟨_, rfl⟩, _, _, _, _, _, rfl, f, hk1, hk2⟩
  · obtain ⟨⟨k, hk, rfl⟩, I1, rfl, f⟩ := hx
    simp only [List.mem_cons, List.not_mem_nil, or_false] at hk
    rcases hk with rfl | rfl
    · refine ⟨13, _, _, _, _, 4, tk_24 rfl (by decide) (by decide), rfl, rfl, by decide, ?_⟩
      refine a_s rfl rfl ?_
      exact a_iret rfl rfl ⟨⟨_, rfl⟩, _, _, _, _, _, rfl, f, hk1, hk2⟩
    · refine ⟨17, _, _, _, _, 4, tn_24 rfl (by decide) (by decide) (hS.2 ("java/util/NoSuchElementException", "java/lang/IndexOutOfBoundsException") (by decide +kernel)) (tk_26 rfl (by decide) (by decide)), rfl, rfl, by decide, ?_⟩
      refine a_s rfl rfl ?_
      exact a_iret rfl rfl ⟨⟨_, rfl⟩, _, _, _, _, _, rfl, f, hk1, hk2⟩
theorem L_duty (hS : HdS S) (hci : CI I) (hk1 : WK w1) (hk2 : WK w2) {x1 : Int32} {x2 : Int32} : Sp S m_L_duty 17 2 12 [.ref 200, .int x1, .int x2, .ref 431] (hp I L w1 w2 t) (HdP (Fm sQ I)) nX := by
  refine Sp_of ok_L_duty rfl rfl ?_
  show AW S m_L_duty 17 _ _ 2 12 0 [some (.ref 200), some (.int x1), some (.int x2), some (.ref 431), none] [] (hp I L w1 w2 t)
  refine a_l3 rfl rfl rfl ?_
  refine a_s rfl rfl ?_
  refine a_l0 rfl rfl rfl ?_
  refine a_l1 rfl rfl rfl ?_
  refine a_l2 rfl rfl rfl ?_
  refine a_callVc rfl lL_28 mo_X11_duty (q_X11_duty_200) rfl rfl rfl ⟨11, _, rfl, rfl, rfl⟩ (fun v' h' hv => ?_) (fun E h' hx => ?_)
  · obtain ⟨⟨v, rfl⟩, I1, rfl, f⟩ := hv
    refine a_s rfl rfl ?_
    refine a_last rfl (n := 1) rfl ⟨by decide, by decide⟩ ?_
    refine a_goto rfl ?_
    refine a_s rfl rfl ?_
    exact a_iret rfl rfl ⟨⟨_, rfl⟩, _, _, _, _, _, rfl, f, hk1, hk2⟩
  · obtain ⟨⟨k, hk, rfl⟩, I1, rfl, f⟩ := hx
    simp only [List.mem_cons, List.not_mem_nil, or_false] at hk
    rcases hk with rfl | rfl
    · refine ⟨13, _, _, _, _, 4, tk_24 rfl (by decide) (by decide), rfl, rfl, by decide, ?_⟩
      refine a_s rfl rfl ?_
      exact a_iret rfl rfl ⟨⟨_, rfl⟩, _, _, _, _, _, rfl, f, hk1, hk2⟩
    · refine ⟨17, _, _, _, _, 4, tn_24 rfl (by decide) (by decide) (hS.2 ("java/util/NoSuchElementException", "java/lang/IndexOutOfBoundsException") (by decide +kernel)) (tk_26 rfl (by decide) (by decide)), rfl, rfl, by decide, ?_⟩
      refine a_s rfl rfl ?_
      exact a_iret rfl rfl ⟨⟨_, rfl⟩, _, _, _, _, _, rfl, f, hk1, hk2⟩
theorem L_greets (hS : HdS S) (hci : CI I) (hk1 : WK w1) (hk2 : WK w2) {x1 : Int32} {x2 : Int32} : Sp S m_L_greets 16 2 12 [.ref 200, .int x1, .int x2, .ref 431] (hp I L w1 w2 t) (HdP (Fm sQ I)) nX := by
  refine Sp_of ok_L_greets rfl rfl ?_
  show AW S m_L_greets 16 _ _ 2 12 0 [some (.ref 200), some (.int x1), some (.int x2), some (.ref 431), none] [] (hp I L w1 w2 t)
  refine a_l3 rfl rfl rfl ?_
  refine a_s rfl rfl ?_
  refine a_l0 rfl rfl rfl ?_
  refine a_l1 rfl rfl rfl ?_
  refine a_l2 rfl rfl rfl ?_
  refine a_callVc rfl lL_58 mo_X11_greets (q_X11_greets_200) rfl rfl rfl ⟨11, _, rfl, rfl, rfl⟩ (fun v' h' hv => ?_) (fun E h' hx => ?_)
  · obtain ⟨⟨v, rfl⟩, rfl⟩ := hv
    refine a_s rfl rfl ?_
    refine a_last rfl (n := 1) rfl ⟨by decide, by decide⟩ ?_
    refine a_goto rfl ?_
    refine a_s rfl rfl ?_
    exact a_iret rfl rfl ⟨⟨_, rfl⟩, _, _, _, _, _, rfl, Fm.rf, hk1, hk2⟩
  · obtain ⟨⟨k, hk, rfl⟩, I1, rfl, f⟩ := hx
    simp only [List.mem_cons, List.not_mem_nil, or_false] at hk
    rcases hk with rfl
    · refine ⟨13, _, _, _, _, 4, tk_24 rfl (by decide) (by decide), rfl, rfl, by decide, ?_⟩
      refine a_s rfl rfl ?_
      exact a_iret rfl rfl ⟨⟨_, rfl⟩, _, _, _, _, _, rfl, f, hk1, hk2⟩
theorem L_where (hS : HdS S) (hci : CI I) (hk1 : WK w1) (hk2 : WK w2) {x1 : Int32} {x2 : Int32} : Sp S m_L_where 17 2 12 [.ref 200, .int x1, .int x2, .ref 431] (hp I L w1 w2 t) (HdP (Fm sQ I)) nX := by
  refine Sp_of ok_L_where rfl rfl ?_
  show AW S m_L_where 17 _ _ 2 12 0 [some (.ref 200), some (.int x1), some (.int x2), some (.ref 431), none] [] (hp I L w1 w2 t)
  refine a_l3 rfl rfl rfl ?_
  refine a_s rfl rfl ?_
  refine a_l0 rfl rfl rfl ?_
  refine a_l1 rfl rfl rfl ?_
  refine a_l2 rfl rfl rfl ?_
  refine a_callVc rfl lL_61 mo_X11_where (q_X11_where_200) rfl rfl rfl ⟨11, _, rfl, rfl, rfl⟩ (fun v' h' hv => ?_) (fun E h' hx => ?_)
  · obtain ⟨⟨v, rfl⟩, rfl⟩ := hv
    refine a_s rfl rfl ?_
    refine a_last rfl (n := 1) rfl ⟨by decide, by decide⟩ ?_
    refine a_goto rfl ?_
    refine a_s rfl rfl ?_
    exact a_iret rfl rfl ⟨⟨_, rfl⟩, _, _, _, _, _, rfl, Fm.rf, hk1, hk2⟩
  · obtain ⟨⟨k, hk, rfl⟩, I1, rfl, f⟩ := hx
    simp only [List.mem_cons, List.not_mem_nil, or_false] at hk
    rcases hk with rfl | rfl
    · refine ⟨13, _, _, _, _, 4, tk_24 rfl (by decide) (by decide), rfl, rfl, by decide, ?_⟩
      refine a_s rfl rfl ?_
      exact a_iret rfl rfl ⟨⟨_, rfl⟩, _, _, _, _, _, rfl, f, hk1, hk2⟩
    · refine ⟨17, _, _, _, _, 4, tn_24 rfl (by decide) (by decide) (hS.2 ("java/lang/IllegalArgumentException", "java/lang/IndexOutOfBoundsException") (by decide +kernel)) (tk_13 rfl (by decide) (by decide)), rfl, rfl, by decide, ?_⟩
      refine a_s rfl rfl ?_
      exact a_iret rfl rfl ⟨⟨_, rfl⟩, _, _, _, _, _, rfl, f, hk1, hk2⟩
theorem L_crowd (hS : HdS S) (hci : CI I) (hk1 : WK w1) (hk2 : WK w2) {x1 : Int32} {x2 : Int32} {x3 : Int32} : Sp S m_L_crowd 17 4 24 [.ref 200, .int x1, .int x2, .int x3, .ref 431] (hp I L w1 w2 t) (HdP (Fm sQ I)) nX := by
  refine Sp_of ok_L_crowd rfl rfl ?_
  show AW S m_L_crowd 17 _ _ 4 24 0 [some (.ref 200), some (.int x1), some (.int x2), some (.int x3), some (.ref 431), none] [] (hp I L w1 w2 t)
  refine a_l4 rfl rfl rfl ?_
  refine a_s rfl rfl ?_
  refine a_l0 rfl rfl rfl ?_
  refine a_l1 rfl rfl rfl ?_
  refine a_l2 rfl rfl rfl ?_
  refine a_l3 rfl rfl rfl ?_
  refine a_callVc rfl lL_64 mo_X11_crowd (q_X11_crowd_200) rfl rfl rfl ⟨11, _, rfl, rfl, rfl⟩ (fun v' h' hv => ?_) (fun E h' hx => ?_)
  · obtain ⟨⟨v, rfl⟩, rfl⟩ := hv
    refine a_s rfl rfl ?_
    refine a_last rfl (n := 1) rfl ⟨by decide, by decide⟩ ?_
    refine a_goto rfl ?_
    refine a_s rfl rfl ?_
    exact a_iret rfl rfl ⟨⟨_, rfl⟩, _, _, _, _, _, rfl, Fm.rf, hk1, hk2⟩
  · obtain ⟨⟨k, hk, rfl⟩, I1, rfl, f⟩ := hx
    simp only [List.mem_cons, List.not_mem_nil, or_false] at hk
    rcases hk with rfl | rfl
    · refine ⟨15, _, _, _, _, 5, tk_24 rfl (by decide) (by decide), rfl, rfl, by decide, ?_⟩
      refine a_s rfl rfl ?_
      exact a_iret rfl rfl ⟨⟨_, rfl⟩, _, _, _, _, _, rfl, f, hk1, hk2⟩
    · refine ⟨19, _, _, _, _, 5, tn_24 rfl (by decide) (by decide) (hS.2 ("java/lang/IllegalArgumentException", "java/lang/IndexOutOfBoundsException") (by decide +kernel)) (tk_13 rfl (by decide) (by decide)), rfl, rfl, by decide, ?_⟩
      refine a_s rfl rfl ?_
      exact a_iret rfl rfl ⟨⟨_, rfl⟩, _, _, _, _, _, rfl, f, hk1, hk2⟩
theorem L_does (hS : HdS S) (hci : CI I) (hk1 : WK w1) (hk2 : WK w2) {x1 : Int32} {b2 : Bool} : Sp S m_L_does 18 1 6 [.ref 200, .int x1, .int (bI b2), .ref 431] (hp I L w1 w2 t) (HdP (Fm sQ I)) nX := by
  obtain ⟨nd, hn, hd⟩ := hci 235 (by decide) (by decide)
  refine Sp_of ok_L_does rfl rfl ?_
  show AW S m_L_does 18 _ _ 1 6 0 [some (.ref 200), some (.int x1), some (.int (bI b2)), some (.ref 431), none] [] (hp I L w1 w2 t)
  refine a_l3 rfl rfl rfl ?_
  refine a_s rfl rfl ?_
  refine a_l0 rfl rfl rfl ?_
  refine a_l1 rfl rfl rfl ?_
  refine a_l2 rfl rfl rfl ?_
  refine a_callVc rfl lL_68 mo_X11_does (q_X11_does_200 hd hn) rfl rfl rfl ⟨11, _, rfl, rfl, rfl⟩ (fun v' h' hv => ?_) (fun E h' hx => ?_)
  · obtain ⟨⟨v, rfl⟩, I1, rfl, f⟩ := hv
    refine a_s rfl rfl ?_
    refine a_last rfl (n := 1) rfl ⟨by decide, by decide⟩ ?_
    refine a_goto rfl ?_
    refine a_s rfl rfl ?_
    exact a_iret rfl rfl ⟨⟨_, rfl⟩, _, _, _, _, _, rfl, f, hk1, hk2⟩
  · obtain ⟨⟨k, hk, rfl⟩, I1, rfl, f⟩ := hx
    simp only [List.mem_cons, List.not_mem_nil, or_false] at hk
    rcases hk with rfl
    · refine ⟨13, _, _, _, _, 4, tk_13 rfl (by decide) (by decide), rfl, rfl, by decide, ?_⟩
      refine a_s rfl rfl ?_
      exact a_iret rfl rfl ⟨⟨_, rfl⟩, _, _, _, _, _, rfl, f, hk1, hk2⟩
theorem L_soon (hS : HdS S) (hci : CI I) (hk1 : WK w1) (hk2 : WK w2) {x1 : Int32} : Sp S m_L_soon 18 1 6 [.ref 200, .int x1, .ref 431] (hp I L w1 w2 t) (HdP (Fm sQ I)) nX := by
  refine Sp_of ok_L_soon rfl rfl ?_
  show AW S m_L_soon 18 _ _ 1 6 0 [some (.ref 200), some (.int x1), some (.ref 431), none] [] (hp I L w1 w2 t)
  refine a_l2 rfl rfl rfl ?_
  refine a_s rfl rfl ?_
  refine a_l0 rfl rfl rfl ?_
  refine a_l1 rfl rfl rfl ?_
  refine a_callVc rfl lL_72 mo_X11_soon (q_X11_soon_200) rfl rfl rfl ⟨11, _, rfl, rfl, rfl⟩ (fun v' h' hv => ?_) (fun E h' hx => ?_)
  · obtain ⟨⟨v, rfl⟩, rfl⟩ := hv
    refine a_s rfl rfl ?_
    refine a_last rfl (n := 1) rfl ⟨by decide, by decide⟩ ?_
    refine a_goto rfl ?_
    refine a_s rfl rfl ?_
    exact a_iret rfl rfl ⟨⟨_, rfl⟩, _, _, _, _, _, rfl, Fm.rf, hk1, hk2⟩
  · obtain ⟨⟨k, hk, rfl⟩, I1, rfl, f⟩ := hx
    simp only [List.mem_cons, List.not_mem_nil, or_false] at hk
    rcases hk with rfl
    · refine ⟨12, _, _, _, _, 3, tk_24 rfl (by decide) (by decide), rfl, rfl, by decide, ?_⟩
      refine a_s rfl rfl ?_
      exact a_iret rfl rfl ⟨⟨_, rfl⟩, _, _, _, _, _, rfl, f, hk1, hk2⟩
theorem L_before (hS : HdS S) (hci : CI I) (hk1 : WK w1) (hk2 : WK w2) {x1 : Int32} : Sp S m_L_before 15 1 6 [.ref 200, .int x1, .ref 431] (hp I L w1 w2 t) (HdP (Fm sQ I)) nX := by
  refine Sp_of ok_L_before rfl rfl ?_
  show AW S m_L_before 15 _ _ 1 6 0 [some (.ref 200), some (.int x1), some (.ref 431), none] [] (hp I L w1 w2 t)
  refine a_l2 rfl rfl rfl ?_
  refine a_s rfl rfl ?_
  refine a_l0 rfl rfl rfl ?_
  refine a_l1 rfl rfl rfl ?_
  refine a_callVc rfl lL_75 mo_X11_before (q_X11_before_200) rfl rfl rfl ⟨11, _, rfl, rfl, rfl⟩ (fun v' h' hv => ?_) (fun E h' hx => ?_)
  · obtain ⟨⟨v, rfl⟩, rfl⟩ := hv
    refine a_s rfl rfl ?_
    refine a_last rfl (n := 1) rfl ⟨by decide, by decide⟩ ?_
    refine a_goto rfl ?_
    refine a_s rfl rfl ?_
    exact a_iret rfl rfl ⟨⟨_, rfl⟩, _, _, _, _, _, rfl, Fm.rf, hk1, hk2⟩
  · obtain ⟨⟨k, hk, rfl⟩, I1, rfl, f⟩ := hx
    simp only [List.mem_cons, List.not_mem_nil, or_false] at hk
    rcases hk with rfl
    · refine ⟨12, _, _, _, _, 3, tk_24 rfl (by decide) (by decide), rfl, rfl, by decide, ?_⟩
      refine a_s rfl rfl ?_
      exact a_iret rfl rfl ⟨⟨_, rfl⟩, _, _, _, _, _, rfl, f, hk1, hk2⟩
theorem L_after (hS : HdS S) (hci : CI I) (hk1 : WK w1) (hk2 : WK w2) {x1 : Int32} : Sp S m_L_after 16 1 6 [.ref 200, .int x1, .ref 431] (hp I L w1 w2 t) (HdP (Fm sQ I)) nX := by
  refine Sp_of ok_L_after rfl rfl ?_
  show AW S m_L_after 16 _ _ 1 6 0 [some (.ref 200), some (.int x1), some (.ref 431), none] [] (hp I L w1 w2 t)
  refine a_l2 rfl rfl rfl ?_
  refine a_s rfl rfl ?_
  refine a_l0 rfl rfl rfl ?_
  refine a_l1 rfl rfl rfl ?_
  refine a_callVc rfl lL_78 mo_X11_after (q_X11_after_200) rfl rfl rfl ⟨11, _, rfl, rfl, rfl⟩ (fun v' h' hv => ?_) (fun E h' hx => ?_)
  · obtain ⟨⟨v, rfl⟩, rfl⟩ := hv
    refine a_s rfl rfl ?_
    refine a_last rfl (n := 1) rfl ⟨by decide, by decide⟩ ?_
    refine a_goto rfl ?_
    refine a_s rfl rfl ?_
    exact a_iret rfl rfl ⟨⟨_, rfl⟩, _, _, _, _, _, rfl, Fm.rf, hk1, hk2⟩
  · obtain ⟨⟨k, hk, rfl⟩, I1, rfl, f⟩ := hx
    simp only [List.mem_cons, List.not_mem_nil, or_false] at hk
    rcases hk with rfl
    · refine ⟨12, _, _, _, _, 3, tk_24 rfl (by decide) (by decide), rfl, rfl, by decide, ?_⟩
      refine a_s rfl rfl ?_
      exact a_iret rfl rfl ⟨⟨_, rfl⟩, _, _, _, _, _, rfl, f, hk1, hk2⟩
theorem L_depth (hS : HdS S) (hci : CI I) (hk1 : WK w1) (hk2 : WK w2) {x1 : Int32} : Sp S m_L_depth 15 1 6 [.ref 200, .int x1, .ref 431] (hp I L w1 w2 t) (HdP (Fm sQ I)) nX := by
  refine Sp_of ok_L_depth rfl rfl ?_
  show AW S m_L_depth 15 _ _ 1 6 0 [some (.ref 200), some (.int x1), some (.ref 431), none] [] (hp I L w1 w2 t)
  refine a_l2 rfl rfl rfl ?_
  refine a_s rfl rfl ?_
  refine a_l0 rfl rfl rfl ?_
  refine a_l1 rfl rfl rfl ?_
  refine a_callVc rfl lL_81 mo_X11_depth (q_X11_depth_200) rfl rfl rfl ⟨11, _, rfl, rfl, rfl⟩ (fun v' h' hv => ?_) (fun E h' hx => ?_)
  · obtain ⟨⟨v, rfl⟩, rfl⟩ := hv
    refine a_s rfl rfl ?_
    refine a_last rfl (n := 1) rfl ⟨by decide, by decide⟩ ?_
    refine a_goto rfl ?_
    refine a_s rfl rfl ?_
    exact a_iret rfl rfl ⟨⟨_, rfl⟩, _, _, _, _, _, rfl, Fm.rf, hk1, hk2⟩
  · obtain ⟨⟨k, hk, rfl⟩, I1, rfl, f⟩ := hx
    simp only [List.mem_cons, List.not_mem_nil, or_false] at hk
    rcases hk with rfl
    · refine ⟨12, _, _, _, _, 3, tk_24 rfl (by decide) (by decide), rfl, rfl, by decide, ?_⟩
      refine a_s rfl rfl ?_
      exact a_iret rfl rfl ⟨⟨_, rfl⟩, _, _, _, _, _, rfl, f, hk1, hk2⟩
theorem L_young (hS : HdS S) (hci : CI I) (hk1 : WK w1) (hk2 : WK w2) {x1 : Int32} : Sp S m_L_young 18 1 6 [.ref 200, .int x1, .ref 431] (hp I L w1 w2 t) (HdP (Fm sQ I)) nX := by
  refine Sp_of ok_L_young rfl rfl ?_
  show AW S m_L_young 18 _ _ 1 6 0 [some (.ref 200), some (.int x1), some (.ref 431), none] [] (hp I L w1 w2 t)
  refine a_l2 rfl rfl rfl ?_
  refine a_s rfl rfl ?_
  refine a_l0 rfl rfl rfl ?_
  refine a_l1 rfl rfl rfl ?_
  refine a_callVc rfl lL_84 mo_X11_young (q_X11_young_200) rfl rfl rfl ⟨11, _, rfl, rfl, rfl⟩ (fun v' h' hv => ?_) (fun E h' hx => ?_)
  · obtain ⟨⟨v, rfl⟩, rfl⟩ := hv
    refine a_s rfl rfl ?_
    refine a_last rfl (n := 1) rfl ⟨by decide, by decide⟩ ?_
    refine a_goto rfl ?_
    refine a_s rfl rfl ?_
    exact a_iret rfl rfl ⟨⟨_, rfl⟩, _, _, _, _, _, rfl, Fm.rf, hk1, hk2⟩
  · obtain ⟨⟨k, hk, rfl⟩, I1, rfl, f⟩ := hx
    simp only [List.mem_cons, List.not_mem_nil, or_false] at hk
    rcases hk with rfl
    · refine ⟨12, _, _, _, _, 3, tk_13 rfl (by decide) (by decide), rfl, rfl, by decide, ?_⟩
      refine a_s rfl rfl ?_
      exact a_iret rfl rfl ⟨⟨_, rfl⟩, _, _, _, _, _, rfl, f, hk1, hk2⟩
theorem L_older (hS : HdS S) (hci : CI I) (hk1 : WK w1) (hk2 : WK w2) {x1 : Int32} : Sp S m_L_older 16 1 6 [.ref 200, .int x1, .ref 431] (hp I L w1 w2 t) (HdP (Fm sQ I)) nX := by
  refine Sp_of ok_L_older rfl rfl ?_
  show AW S m_L_older 16 _ _ 1 6 0 [some (.ref 200), some (.int x1), some (.ref 431), none] [] (hp I L w1 w2 t)
  refine a_l2 rfl rfl rfl ?_
  refine a_s rfl rfl ?_
  refine a_l0 rfl rfl rfl ?_
  refine a_l1 rfl rfl rfl ?_
  refine a_callVc rfl lL_87 mo_X11_older (q_X11_older_200) rfl rfl rfl ⟨11, _, rfl, rfl, rfl⟩ (fun v' h' hv => ?_) (fun E h' hx => ?_)
  · obtain ⟨⟨v, rfl⟩, rfl⟩ := hv
    refine a_s rfl rfl ?_
    refine a_last rfl (n := 1) rfl ⟨by decide, by decide⟩ ?_
    refine a_goto rfl ?_
    refine a_s rfl rfl ?_
    exact a_iret rfl rfl ⟨⟨_, rfl⟩, _, _, _, _, _, rfl, Fm.rf, hk1, hk2⟩
  · obtain ⟨⟨k, hk, rfl⟩, I1, rfl, f⟩ := hx
    simp only [List.mem_cons, List.not_mem_nil, or_false] at hk
    rcases hk with rfl
    · refine ⟨12, _, _, _, _, 3, tk_13 rfl (by decide) (by decide), rfl, rfl, by decide, ?_⟩
      refine a_s rfl rfl ?_
      exact a_iret rfl rfl ⟨⟨_, rfl⟩, _, _, _, _, _, rfl, f, hk1, hk2⟩
theorem L_whose (hS : HdS S) (hci : CI I) (hk1 : WK w1) (hk2 : WK w2) : Sp S m_L_whose 17 1 6 [.ref 200, .ref 431] (hp I L w1 w2 t) (HdP (fun J => J = up2 I 201 1 0)) nX := by
  refine Sp_of ok_L_whose rfl rfl ?_
  show AW S m_L_whose 17 _ _ 1 6 0 [some (.ref 200), some (.ref 431), none] [] (hp I L w1 w2 t)
  refine a_l1 rfl rfl rfl ?_
  refine a_s rfl rfl ?_
  refine a_l0 rfl rfl rfl ?_
  refine a_callVc rfl lL_90 mo_X11_whose (q_X11_whose_200) rfl rfl rfl ⟨11, _, rfl, rfl, rfl⟩ (fun v' h' hv => ?_) (fun E h' hx => ?_)
  · obtain ⟨⟨v, rfl⟩, rfl⟩ := hv
    refine a_s rfl rfl ?_
    refine a_last rfl (n := 1) rfl ⟨by decide, by decide⟩ ?_
    refine a_goto rfl ?_
    refine a_s rfl rfl ?_
    exact a_iret rfl rfl ⟨⟨_, rfl⟩, _, _, _, _, _, rfl, rfl, hk1, hk2⟩
  · obtain ⟨⟨k, hk, rfl⟩, rfl⟩ := hx
    simp only [List.mem_cons, List.not_mem_nil, or_false] at hk
    rcases hk with rfl
    · refine ⟨11, _, _, _, _, 2, tk_13 rfl (by decide) (by decide), rfl, rfl, by decide, ?_⟩
      refine a_s rfl rfl ?_
      exact a_iret rfl rfl ⟨⟨_, rfl⟩, _, _, _, _, _, rfl, rfl, hk1, hk2⟩
theorem L_ask (hS : HdS S) (hci : CI I) (hk1 : WK w1) (hk2 : WK w2) : Sp S m_L_ask 17 1 6 [.ref 200, .ref 431] (hp I L w1 w2 t) (HdP (fun J => J = up2 I 201 1 0)) nX := by
  refine Sp_of ok_L_ask rfl rfl ?_
  show AW S m_L_ask 17 _ _ 1 6 0 [some (.ref 200), some (.ref 431), none] [] (hp I L w1 w2 t)
  refine a_l1 rfl rfl rfl ?_
  refine a_s rfl rfl ?_
  refine a_l0 rfl rfl rfl ?_
  refine a_callVc rfl lL_93 mo_X11_ask (q_X11_ask_200) rfl rfl rfl ⟨11, _, rfl, rfl, rfl⟩ (fun v' h' hv => ?_) (fun E h' hx => ?_)
  · obtain ⟨⟨v, rfl⟩, rfl⟩ := hv
    refine a_s rfl rfl ?_
    refine a_last rfl (n := 1) rfl ⟨by decide, by decide⟩ ?_
    refine a_goto rfl ?_
    refine a_s rfl rfl ?_
    exact a_iret rfl rfl ⟨⟨_, rfl⟩, _, _, _, _, _, rfl, rfl, hk1, hk2⟩
  · obtain ⟨⟨k, hk, rfl⟩, rfl⟩ := hx
    simp only [List.mem_cons, List.not_mem_nil, or_false] at hk
    rcases hk with rfl
    · refine ⟨11, _, _, _, _, 2, tk_13 rfl (by decide) (by decide), rfl, rfl, by decide, ?_⟩
      refine a_s rfl rfl ?_
      exact a_iret rfl rfl ⟨⟨_, rfl⟩, _, _, _, _, _, rfl, rfl, hk1, hk2⟩
theorem L_swap (hS : HdS S) (hci : CI I) (hk1 : WK w1) (hk2 : WK w2) {x1 : Int32} {x2 : Int32} : Sp S m_L_swap 18 3 18 [.ref 200, .int x1, .int x2, .ref 431] (hp I L w1 w2 t) (HdP (Fm sQ I)) nX := by
  refine Sp_of ok_L_swap rfl rfl ?_
  show AW S m_L_swap 18 _ _ 3 18 0 [some (.ref 200), some (.int x1), some (.int x2), some (.ref 431), none] [] (hp I L w1 w2 t)
  refine a_l3 rfl rfl rfl ?_
  refine a_s rfl rfl ?_
  refine a_l0 rfl rfl rfl ?_
  refine a_l1 rfl rfl rfl ?_
  refine a_l2 rfl rfl rfl ?_
  refine a_callVc rfl lL_96 mo_X11_swap (q_X11_swap_200) rfl rfl rfl ⟨11, _, rfl, rfl, rfl⟩ (fun v' h' hv => ?_) (fun E h' hx => ?_)
  · obtain ⟨⟨v, rfl⟩, rfl⟩ := hv
    refine a_s rfl rfl ?_
    refine a_last rfl (n := 1) rfl ⟨by decide, by decide⟩ ?_
    refine a_goto rfl ?_
    refine a_s rfl rfl ?_
    exact a_iret rfl rfl ⟨⟨_, rfl⟩, _, _, _, _, _, rfl, Fm.rf, hk1, hk2⟩
  · obtain ⟨⟨k, hk, rfl⟩, I1, rfl, f⟩ := hx
    simp only [List.mem_cons, List.not_mem_nil, or_false] at hk
    rcases hk with rfl | rfl
    · refine ⟨13, _, _, _, _, 4, tk_24 rfl (by decide) (by decide), rfl, rfl, by decide, ?_⟩
      refine a_s rfl rfl ?_
      exact a_iret rfl rfl ⟨⟨_, rfl⟩, _, _, _, _, _, rfl, f, hk1, hk2⟩
    · refine ⟨17, _, _, _, _, 4, tn_24 rfl (by decide) (by decide) (hS.2 ("java/lang/IllegalArgumentException", "java/lang/IndexOutOfBoundsException") (by decide +kernel)) (tk_13 rfl (by decide) (by decide)), rfl, rfl, by decide, ?_⟩
      refine a_s rfl rfl ?_
      exact a_iret rfl rfl ⟨⟨_, rfl⟩, _, _, _, _, _, rfl, f, hk1, hk2⟩
theorem L_rests (hS : HdS S) (hci : CI I) (hk1 : WK w1) (hk2 : WK w2) {x1 : Int32} {x2 : Int32} {x3 : Int32} : Sp S m_L_rests 17 4 24 [.ref 200, .int x1, .int x2, .int x3, .ref 431] (hp I L w1 w2 t) (HdP (Fm sQ I)) nX := by
  refine Sp_of ok_L_rests rfl rfl ?_
  show AW S m_L_rests 17 _ _ 4 24 0 [some (.ref 200), some (.int x1), some (.int x2), some (.int x3), some (.ref 431), none] [] (hp I L w1 w2 t)
  refine a_l4 rfl rfl rfl ?_
  refine a_s rfl rfl ?_
  refine a_l0 rfl rfl rfl ?_
  refine a_l1 rfl rfl rfl ?_
  refine a_l2 rfl rfl rfl ?_
  refine a_l3 rfl rfl rfl ?_
  refine a_callVc rfl lL_99 mo_X11_rests (q_X11_rests_200) rfl rfl rfl ⟨11, _, rfl, rfl, rfl⟩ (fun v' h' hv => ?_) (fun E h' hx => ?_)
  · obtain ⟨⟨v, rfl⟩, I1, rfl, f⟩ := hv
    refine a_s rfl rfl ?_
    refine a_last rfl (n := 1) rfl ⟨by decide, by decide⟩ ?_
    refine a_goto rfl ?_
    refine a_s rfl rfl ?_
    exact a_iret rfl rfl ⟨⟨_, rfl⟩, _, _, _, _, _, rfl, f, hk1, hk2⟩
  · obtain ⟨⟨k, hk, rfl⟩, I1, rfl, f⟩ := hx
    simp only [List.mem_cons, List.not_mem_nil, or_false] at hk
    rcases hk with rfl | rfl
    · refine ⟨15, _, _, _, _, 5, tk_24 rfl (by decide) (by decide), rfl, rfl, by decide, ?_⟩
      refine a_s rfl rfl ?_
      exact a_iret rfl rfl ⟨⟨_, rfl⟩, _, _, _, _, _, rfl, f, hk1, hk2⟩
    · refine ⟨19, _, _, _, _, 5, tn_24 rfl (by decide) (by decide) (hS.2 ("java/lang/IllegalArgumentException", "java/lang/IndexOutOfBoundsException") (by decide +kernel)) (tk_13 rfl (by decide) (by decide)), rfl, rfl, by decide, ?_⟩
      refine a_s rfl rfl ?_
      exact a_iret rfl rfl ⟨⟨_, rfl⟩, _, _, _, _, _, rfl, f, hk1, hk2⟩
theorem L_odds (hS : HdS S) (hci : CI I) (hk1 : WK w1) (hk2 : WK w2) {x1 : Int32} {x2 : Int32} : Sp S m_L_odds 15 2 12 [.ref 200, .int x1, .int x2, .ref 431] (hp I L w1 w2 t) (HdP (Fm sQ I)) nX := by
  refine Sp_of ok_L_odds rfl rfl ?_
  show AW S m_L_odds 15 _ _ 2 12 0 [some (.ref 200), some (.int x1), some (.int x2), some (.ref 431), none] [] (hp I L w1 w2 t)
  refine a_l3 rfl rfl rfl ?_
  refine a_s rfl rfl ?_
  refine a_l0 rfl rfl rfl ?_
  refine a_l1 rfl rfl rfl ?_
  refine a_l2 rfl rfl rfl ?_
  refine a_callVc rfl lL_102 mo_X11_odds (q_X11_odds_200) rfl rfl rfl ⟨11, _, rfl, rfl, rfl⟩ (fun v' h' hv => ?_) (fun E h' hx => ?_)
  · obtain ⟨⟨v, rfl⟩, rfl⟩ := hv
    refine a_s rfl rfl ?_
    refine a_last rfl (n := 1) rfl ⟨by decide, by decide⟩ ?_
    refine a_goto rfl ?_
    refine a_s rfl rfl ?_
    exact a_iret rfl rfl ⟨⟨_, rfl⟩, _, _, _, _, _, rfl, Fm.rf, hk1, hk2⟩
  · obtain ⟨⟨k, hk, rfl⟩, I1, rfl, f⟩ := hx
    simp only [List.mem_cons, List.not_mem_nil, or_false] at hk
    rcases hk with rfl
    · refine ⟨13, _, _, _, _, 4, tk_13 rfl (by decide) (by decide), rfl, rfl, by decide, ?_⟩
      refine a_s rfl rfl ?_
      exact a_iret rfl rfl ⟨⟨_, rfl⟩, _, _, _, _, _, rfl, f, hk1, hk2⟩
theorem L_spare (hS : HdS S) (hci : CI I) (hk1 : WK w1) (hk2 : WK w2) {x1 : Int32} {x2 : Int32} : Sp S m_L_spare 16 2 12 [.ref 200, .int x1, .int x2, .ref 431] (hp I L w1 w2 t) (HdP (Fm sQ I)) nX := by
  refine Sp_of ok_L_spare rfl rfl ?_
  show AW S m_L_spare 16 _ _ 2 12 0 [some (.ref 200), some (.int x1), some (.int x2), some (.ref 431), none] [] (hp I L w1 w2 t)
  refine a_l3 rfl rfl rfl ?_
  refine a_s rfl rfl ?_
  refine a_l0 rfl rfl rfl ?_
  refine a_l1 rfl rfl rfl ?_
  refine a_l2 rfl rfl rfl ?_
  refine a_callVc rfl lL_105 mo_X11_spare (q_X11_spare_200) rfl rfl rfl ⟨11, _, rfl, rfl, rfl⟩ (fun v' h' hv => ?_) (fun E h' hx => ?_)
  · obtain ⟨⟨v, rfl⟩, rfl⟩ := hv
    refine a_s rfl rfl ?_
    refine a_last rfl (n := 1) rfl ⟨by decide, by decide⟩ ?_
    refine a_goto rfl ?_
    refine a_s rfl rfl ?_
    exact a_iret rfl rfl ⟨⟨_, rfl⟩, _, _, _, _, _, rfl, Fm.rf, hk1, hk2⟩
  · obtain ⟨⟨k, hk, rfl⟩, I1, rfl, f⟩ := hx
    simp only [List.mem_cons, List.not_mem_nil, or_false] at hk
    rcases hk with rfl | rfl
    · refine ⟨13, _, _, _, _, 4, tk_24 rfl (by decide) (by decide), rfl, rfl, by decide, ?_⟩
      refine a_s rfl rfl ?_
      exact a_iret rfl rfl ⟨⟨_, rfl⟩, _, _, _, _, _, rfl, f, hk1, hk2⟩
    · refine ⟨17, _, _, _, _, 4, tn_24 rfl (by decide) (by decide) (hS.2 ("java/lang/IllegalArgumentException", "java/lang/IndexOutOfBoundsException") (by decide +kernel)) (tk_13 rfl (by decide) (by decide)), rfl, rfl, by decide, ?_⟩
      refine a_s rfl rfl ?_
      exact a_iret rfl rfl ⟨⟨_, rfl⟩, _, _, _, _, _, rfl, f, hk1, hk2⟩
theorem L_done (hS : HdS S) (hci : CI I) (hk1 : WK w1) (hk2 : WK w2) {x1 : Int32} : Sp S m_L_done 20 1 6 [.ref 200, .int x1, .ref 431] (hp I L w1 w2 t) (HdP (Fm sQ I)) nX := by
  refine Sp_of ok_L_done rfl rfl ?_
  show AW S m_L_done 20 _ _ 1 6 0 [some (.ref 200), some (.int x1), some (.ref 431), none] [] (hp I L w1 w2 t)
  refine a_l2 rfl rfl rfl ?_
  refine a_s rfl rfl ?_
  refine a_l0 rfl rfl rfl ?_
  refine a_l1 rfl rfl rfl ?_
  refine a_callVc rfl lL_108 mo_X11_done (q_X11_done_200) rfl rfl rfl ⟨11, _, rfl, rfl, rfl⟩ (fun v' h' hv => ?_) (fun E h' hx => ?_)
  · obtain ⟨⟨v, rfl⟩, I1, rfl, f⟩ := hv
    refine a_s rfl rfl ?_
    refine a_last rfl (n := 1) rfl ⟨by decide, by decide⟩ ?_
    refine a_goto rfl ?_
    refine a_s rfl rfl ?_
    exact a_iret rfl rfl ⟨⟨_, rfl⟩, _, _, _, _, _, rfl, f, hk1, hk2⟩
  · obtain ⟨⟨k, hk, rfl⟩, I1, rfl, f⟩ := hx
    simp only [List.mem_cons, List.not_mem_nil, or_false] at hk
    rcases hk with rfl
    · refine ⟨12, _, _, _, _, 3, tk_24 rfl (by decide) (by decide), rfl, rfl, by decide, ?_⟩
      refine a_s rfl rfl ?_
      exact a_iret rfl rfl ⟨⟨_, rfl⟩, _, _, _, _, _, rfl, f, hk1, hk2⟩
theorem L_sick (hS : HdS S) (hci : CI I) (hk1 : WK w1) (hk2 : WK w2) {x1 : Int32} : Sp S m_L_sick 20 1 6 [.ref 200, .int x1, .ref 431] (hp I L w1 w2 t) (HdP (Fm sQ I)) nX := by
  refine Sp_of ok_L_sick rfl rfl ?_
  show AW S m_L_sick 20 _ _ 1 6 0 [some (.ref 200), some (.int x1), some (.ref 431), none] [] (hp I L w1 w2 t)
  refine a_l2 rfl rfl rfl ?_
  refine a_s rfl rfl ?_
  refine a_l0 rfl rfl rfl ?_
  refine a_l1 rfl rfl rfl ?_
  refine a_callVc rfl lL_111 mo_X11_sick (q_X11_sick_200) rfl rfl rfl ⟨11, _, rfl, rfl, rfl⟩ (fun v' h' hv => ?_) (fun E h' hx => ?_)
  · obtain ⟨⟨v, rfl⟩, I1, rfl, f⟩ := hv
    refine a_s rfl rfl ?_
    refine a_last rfl (n := 1) rfl ⟨by decide, by decide⟩ ?_
    refine a_goto rfl ?_
    refine a_s rfl rfl ?_
    exact a_iret rfl rfl ⟨⟨_, rfl⟩, _, _, _, _, _, rfl, f, hk1, hk2⟩
  · obtain ⟨⟨k, hk, rfl⟩, I1, rfl, f⟩ := hx
    simp only [List.mem_cons, List.not_mem_nil, or_false] at hk
    rcases hk with rfl
    · refine ⟨12, _, _, _, _, 3, tk_24 rfl (by decide) (by decide), rfl, rfl, by decide, ?_⟩
      refine a_s rfl rfl ?_
      exact a_iret rfl rfl ⟨⟨_, rfl⟩, _, _, _, _, _, rfl, f, hk1, hk2⟩
theorem L_ahead (hS : HdS S) (hci : CI I) (hk1 : WK w1) (hk2 : WK w2) {x1 : Int32} {x2 : Int32} {x3 : Int32} : Sp S m_L_ahead 19 3 18 [.ref 200, .int x1, .int x2, .int x3, .ref 431] (hp I L w1 w2 t) (HdP (Fm sQ I)) nX := by
  refine Sp_of ok_L_ahead rfl rfl ?_
  show AW S m_L_ahead 19 _ _ 3 18 0 [some (.ref 200), some (.int x1), some (.int x2), some (.int x3), some (.ref 431), none] [] (hp I L w1 w2 t)
  refine a_l4 rfl rfl rfl ?_
  refine a_s rfl rfl ?_
  refine a_l0 rfl rfl rfl ?_
  refine a_l1 rfl rfl rfl ?_
  refine a_l2 rfl rfl rfl ?_
  refine a_l3 rfl rfl rfl ?_
  refine a_callVc rfl lL_114 mo_X11_ahead (q_X11_ahead_200) rfl rfl rfl ⟨11, _, rfl, rfl, rfl⟩ (fun v' h' hv => ?_) (fun E h' hx => ?_)
  · obtain ⟨⟨v, rfl⟩, I1, rfl, f⟩ := hv
    refine a_s rfl rfl ?_
    refine a_last rfl (n := 1) rfl ⟨by decide, by decide⟩ ?_
    refine a_goto rfl ?_
    refine a_s rfl rfl ?_
    exact a_iret rfl rfl ⟨⟨_, rfl⟩, _, _, _, _, _, rfl, f, hk1, hk2⟩
  · obtain ⟨⟨k, hk, rfl⟩, I1, rfl, f⟩ := hx
    simp only [List.mem_cons, List.not_mem_nil, or_false] at hk
    rcases hk with rfl | rfl | rfl
    · refine ⟨15, _, _, _, _, 5, tk_24 rfl (by decide) (by decide), rfl, rfl, by decide, ?_⟩
      refine a_s rfl rfl ?_
      exact a_iret rfl rfl ⟨⟨_, rfl⟩, _, _, _, _, _, rfl, f, hk1, hk2⟩
    · refine ⟨19, _, _, _, _, 5, tn_24 rfl (by decide) (by decide) (hS.2 ("java/lang/IllegalArgumentException", "java/lang/IndexOutOfBoundsException") (by decide +kernel)) (tk_13 rfl (by decide) (by decide)), rfl, rfl, by decide, ?_⟩
      refine a_s rfl rfl ?_
      exact a_iret rfl rfl ⟨⟨_, rfl⟩, _, _, _, _, _, rfl, f, hk1, hk2⟩
    · refine ⟨23, _, _, _, _, 5, tn_24 rfl (by decide) (by decide) (hS.2 ("java/util/NoSuchElementException", "java/lang/IndexOutOfBoundsException") (by decide +kernel)) (tn_13 rfl (by decide) (by decide) (hS.2 ("java/util/NoSuchElementException", "java/lang/IllegalArgumentException") (by decide +kernel)) (tk_26 rfl (by decide) (by decide))), rfl, rfl, by decide, ?_⟩
      refine a_s rfl rfl ?_
      exact a_iret rfl rfl ⟨⟨_, rfl⟩, _, _, _, _, _, rfl, f, hk1, hk2⟩
theorem L_trial (hS : HdS S) (hci : CI I) (hk1 : WK w1) (hk2 : WK w2) {x1 : Int32} {b2 : Bool} : Sp S m_L_trial 20 1 6 [.ref 200, .int x1, .int (bI b2), .ref 431] (hp I L w1 w2 t) (HdP (Fm sQ I)) nX := by
  refine Sp_of ok_L_trial rfl rfl ?_
  show AW S m_L_trial 20 _ _ 1 6 0 [some (.ref 200), some (.int x1), some (.int (bI b2)), some (.ref 431), none] [] (hp I L w1 w2 t)
  refine a_l3 rfl rfl rfl ?_
  refine a_s rfl rfl ?_
  refine a_l0 rfl rfl rfl ?_
  refine a_l1 rfl rfl rfl ?_
  refine a_l2 rfl rfl rfl ?_
  refine a_callVc rfl lL_117 mo_X11_trial (q_X11_trial_200) rfl rfl rfl ⟨11, _, rfl, rfl, rfl⟩ (fun v' h' hv => ?_) (fun E h' hx => ?_)
  · obtain ⟨⟨v, rfl⟩, I1, rfl, f⟩ := hv
    refine a_s rfl rfl ?_
    refine a_last rfl (n := 1) rfl ⟨by decide, by decide⟩ ?_
    refine a_goto rfl ?_
    refine a_s rfl rfl ?_
    exact a_iret rfl rfl ⟨⟨_, rfl⟩, _, _, _, _, _, rfl, f, hk1, hk2⟩
  · obtain ⟨⟨k, hk, rfl⟩, I1, rfl, f⟩ := hx
    simp only [List.mem_cons, List.not_mem_nil, or_false] at hk
    rcases hk with rfl
    · refine ⟨13, _, _, _, _, 4, tk_13 rfl (by decide) (by decide), rfl, rfl, by decide, ?_⟩
      refine a_s rfl rfl ?_
      exact a_iret rfl rfl ⟨⟨_, rfl⟩, _, _, _, _, _, rfl, f, hk1, hk2⟩
theorem L_span (hS : HdS S) (hci : CI I) (hk1 : WK w1) (hk2 : WK w2) {x1 : Int32} {b2 : Bool} : Sp S m_L_span 20 1 6 [.ref 200, .int x1, .int (bI b2), .ref 431] (hp I L w1 w2 t) (HdP (Fm sQ I)) nX := by
  refine Sp_of ok_L_span rfl rfl ?_
  show AW S m_L_span 20 _ _ 1 6 0 [some (.ref 200), some (.int x1), some (.int (bI b2)), some (.ref 431), none] [] (hp I L w1 w2 t)
  refine a_l3 rfl rfl rfl ?_
  refine a_s rfl rfl ?_
  refine a_l0 rfl rfl rfl ?_
  refine a_l1 rfl rfl rfl ?_
  refine a_l2 rfl rfl rfl ?_
  refine a_callVc rfl lL_120 mo_X11_span (q_X11_span_200) rfl rfl rfl ⟨11, _, rfl, rfl, rfl⟩ (fun v' h' hv => ?_) (fun E h' hx => ?_)
  · obtain ⟨⟨v, rfl⟩, I1, rfl, f⟩ := hv
    refine a_s rfl rfl ?_
    refine a_last rfl (n := 1) rfl ⟨by decide, by decide⟩ ?_
    refine a_goto rfl ?_
    refine a_s rfl rfl ?_
    exact a_iret rfl rfl ⟨⟨_, rfl⟩, _, _, _, _, _, rfl, f, hk1, hk2⟩
  · obtain ⟨⟨k, hk, rfl⟩, I1, rfl, f⟩ := hx
    simp only [List.mem_cons, List.not_mem_nil, or_false] at hk
    rcases hk with rfl
    · refine ⟨13, _, _, _, _, 4, tk_13 rfl (by decide) (by decide), rfl, rfl, by decide, ?_⟩
      refine a_s rfl rfl ?_
      exact a_iret rfl rfl ⟨⟨_, rfl⟩, _, _, _, _, _, rfl, f, hk1, hk2⟩
theorem L_led (hS : HdS S) (hci : CI I) (hk1 : WK w1) (hk2 : WK w2) {x1 : Int32} {b2 : Bool} : Sp S m_L_led 16 1 6 [.ref 200, .int x1, .int (bI b2), .ref 431] (hp I L w1 w2 t) (HdP (Fm sQ I)) nX := by
  refine Sp_of ok_L_led rfl rfl ?_
  show AW S m_L_led 16 _ _ 1 6 0 [some (.ref 200), some (.int x1), some (.int (bI b2)), some (.ref 431), none] [] (hp I L w1 w2 t)
  refine a_l3 rfl rfl rfl ?_
  refine a_s rfl rfl ?_
  refine a_l0 rfl rfl rfl ?_
  refine a_l1 rfl rfl rfl ?_
  refine a_l2 rfl rfl rfl ?_
  refine a_callVc rfl lL_123 mo_X11_led (q_X11_led_200) rfl rfl rfl ⟨11, _, rfl, rfl, rfl⟩ (fun v' h' hv => ?_) (fun E h' hx => ?_)
  · obtain ⟨⟨v, rfl⟩, rfl⟩ := hv
    refine a_s rfl rfl ?_
    refine a_last rfl (n := 1) rfl ⟨by decide, by decide⟩ ?_
    refine a_goto rfl ?_
    refine a_s rfl rfl ?_
    exact a_iret rfl rfl ⟨⟨_, rfl⟩, _, _, _, _, _, rfl, Fm.rf, hk1, hk2⟩
  · obtain ⟨⟨k, hk, rfl⟩, I1, rfl, f⟩ := hx
    simp only [List.mem_cons, List.not_mem_nil, or_false] at hk
    rcases hk with rfl
    · refine ⟨13, _, _, _, _, 4, tk_24 rfl (by decide) (by decide), rfl, rfl, by decide, ?_⟩
      refine a_s rfl rfl ?_
      exact a_iret rfl rfl ⟨⟨_, rfl⟩, _, _, _, _, _, rfl, f, hk1, hk2⟩
theorem L_log (hS : HdS S) (hci : CI I) (hk1 : WK w1) (hk2 : WK w2) {x1 : Int32} {x2 : Int32} : Sp S m_L_log 15 1 6 [.ref 200, .int x1, .int x2, .ref 431] (hp I L w1 w2 t) (HdP (Fm sQ I)) nX := by
  refine Sp_of ok_L_log rfl rfl ?_
  show AW S m_L_log 15 _ _ 1 6 0 [some (.ref 200), some (.int x1), some (.int x2), some (.ref 431), none] [] (hp I L w1 w2 t)
  refine a_l3 rfl rfl rfl ?_
  refine a_s rfl rfl ?_
  refine a_l0 rfl rfl rfl ?_
  refine a_l1 rfl rfl rfl ?_
  refine a_l2 rfl rfl rfl ?_
  refine a_callVc rfl lL_126 mo_X11_log (q_X11_log_200) rfl rfl rfl ⟨11, _, rfl, rfl, rfl⟩ (fun v' h' hv => ?_) (fun E h' hx => ?_)
  · obtain ⟨⟨v, rfl⟩, rfl⟩ := hv
    refine a_s rfl rfl ?_
    refine a_last rfl (n := 1) rfl ⟨by decide, by decide⟩ ?_
    refine a_goto rfl ?_
    refine a_s rfl rfl ?_
    exact a_iret rfl rfl ⟨⟨_, rfl⟩, _, _, _, _, _, rfl, Fm.rf, hk1, hk2⟩
  · obtain ⟨⟨k, hk, rfl⟩, I1, rfl, f⟩ := hx
    simp only [List.mem_cons, List.not_mem_nil, or_false] at hk
    rcases hk with rfl
    · refine ⟨13, _, _, _, _, 4, tk_26 rfl (by decide) (by decide), rfl, rfl, by decide, ?_⟩
      refine a_s rfl rfl ?_
      exact a_iret rfl rfl ⟨⟨_, rfl⟩, _, _, _, _, _, rfl, f, hk1, hk2⟩
end W80
end
section
/-! ===== the law's wrappers of what changes both (printed by program) ===== -/
section T80b
variable {S : aS} {I : Nat → Nat → Int32} {L : Nat → Nat → Int64} {w1 w2 t n fa nl len e : Nat} {cd fc fn : Nat → Nat} {T : Nat → Int32}
set_option maxRecDepth 100000
theorem lcmp_self {x : Int64} : lg_cmp x x = 0 := by
  unfold lg_cmp
  simp
theorem fL_put (hS : HdS S) (h : Sy I) (ps : PsN I n fa) {x1 : Int32} : Sp S m_L_put 17 2 12 [.ref 200, .int x1, .ref 431] (hp I L w1 w2 t) (fun v h' => ∃ y J L' t', v = some (.int y) ∧ h' = hp J L' w1 w2 t' ∧ (∀ q, 420 ≤ q → J q = I q) ∧ AcJ (vS (dn (I 421)) (I 421) 0 x1) y (L' 431 0) (mn 99 (I 421 (23 + 6 * ixN x1 + 2) + 1)) J (up2 (reS I n fa) 240 (ixN x1) (mn 99 (I 421 (23 + 6 * ixN x1 + 2) + 1))) I) nX := by
  refine Sp_of ok_L_put rfl rfl ?_
  show AW S m_L_put 17 _ _ 2 12 0 [some (.ref 200), some (.int x1), some (.ref 431), none] [] (hp I L w1 w2 t)
  refine a_l2 rfl rfl rfl ?_
  refine a_s rfl rfl ?_
  refine a_l0 rfl rfl rfl ?_
  refine a_l1 rfl rfl rfl ?_
  refine a_callVc rfl lL_37 mo_X11_put (f_put h.nm.1 h.nm.2.2.1 ps.2.2.1 ps.1 ps.2.2.2.2.1 ps.2.1) rfl rfl rfl ⟨11, _, rfl, rfl, rfl⟩ (fun v' h' hv => ?_) (fun E h' hx => ?_)
  · obtain ⟨c0, rfl, rfl⟩ := hv
    refine a_s rfl rfl ?_
    refine a_lastv (k := 0) rfl (n := 1) rfl ⟨by decide, by decide⟩ rfl ?_
    refine a_goto rfl ?_
    refine a_s rfl rfl ?_
    exact a_iret rfl rfl ⟨0, _, _, _, rfl, rfl, (fun q hq => by show up2 (reS I n fa) 240 (ixN x1) (mn 99 (I 421 (23 + 6 * ixN x1 + 2) + 1)) q = I q; rw [up2_row (by omega), reS_row (by omega) (by omega)]), Or.inl ⟨c0, rfl, up2_at, rfl⟩⟩
  · obtain ⟨⟨x, hx, hc, rfl⟩, rfl⟩ := hx
    simp only [List.mem_cons, List.not_mem_nil, or_false] at hx
    rcases hx with rfl | rfl
    · have hc : vS (dn (I 421)) (I 421) 0 x1 = 1 := hc
      refine ⟨12, _, _, _, _, 3, tk_24 rfl (by decide) (by decide), rfl, rfl, by decide, ?_⟩
      refine a_s rfl rfl ?_
      exact a_iret rfl rfl ⟨1, _, _, _, rfl, rfl, fun _ _ => rfl, Or.inr ⟨(fun z => absurd (hc.symm.trans z) (by decide)), hc.symm, rfl⟩⟩
    · have hc : vS (dn (I 421)) (I 421) 0 x1 = 2 := hc
      refine ⟨15, _, _, _, _, 3, tn_24 rfl (by decide) (by decide) (hS.2 ("java/lang/IllegalStateException", "java/lang/IndexOutOfBoundsException") (by decide +kernel)) (tk_35 rfl (by decide) (by decide)), rfl, rfl, by decide, ?_⟩
      refine a_s rfl rfl ?_
      exact a_iret rfl rfl ⟨2, _, _, _, rfl, rfl, fun _ _ => rfl, Or.inr ⟨(fun z => absurd (hc.symm.trans z) (by decide)), hc.symm, rfl⟩⟩
theorem fL_forget (hS : HdS S) (h : Sy I) (ps : PsN I n fa) {x1 : Int32} : Sp S m_L_forget 17 2 12 [.ref 200, .int x1, .ref 431] (hp I L w1 w2 t) (fun v h' => ∃ y J L' t', v = some (.int y) ∧ h' = hp J L' w1 w2 t' ∧ (∀ q, 420 ≤ q → J q = I q) ∧ AcJ (vS (dn (I 421)) (I 421) 0 x1) y (L' 431 0) (I 421 (23 + 6 * ixN x1 + 1)) J (up2 (reS I n fa) 243 (ixN x1) 2) I) nX := by
  refine Sp_of ok_L_forget rfl rfl ?_
  show AW S m_L_forget 17 _ _ 2 12 0 [some (.ref 200), some (.int x1), some (.ref 431), none] [] (hp I L w1 w2 t)
  refine a_l2 rfl rfl rfl ?_
  refine a_s rfl rfl ?_
  refine a_l0 rfl rfl rfl ?_
  refine a_l1 rfl rfl rfl ?_
  refine a_callVc rfl lL_40 mo_X11_forget (f_forget h.nm.1 h.nm.2.2.1 ps.2.2.1 ps.1 ps.2.2.2.2.1 ps.2.1) rfl rfl rfl ⟨11, _, rfl, rfl, rfl⟩ (fun v' h' hv => ?_) (fun E h' hx => ?_)
  · obtain ⟨c0, rfl, rfl⟩ := hv
    refine a_s rfl rfl ?_
    refine a_lastv (k := 0) rfl (n := 1) rfl ⟨by decide, by decide⟩ rfl ?_
    refine a_goto rfl ?_
    refine a_s rfl rfl ?_
    exact a_iret rfl rfl ⟨0, _, _, _, rfl, rfl, (fun q hq => by show up2 (reS I n fa) 243 (ixN x1) 2 q = I q; rw [up2_row (by omega), reS_row (by omega) (by omega)]), Or.inl ⟨c0, rfl, up2_at, rfl⟩⟩
  · obtain ⟨⟨x, hx, hc, rfl⟩, rfl⟩ := hx
    simp only [List.mem_cons, List.not_mem_nil, or_false] at hx
    rcases hx with rfl | rfl
    · have hc : vS (dn (I 421)) (I 421) 0 x1 = 1 := hc
      refine ⟨12, _, _, _, _, 3, tk_24 rfl (by decide) (by decide), rfl, rfl, by decide, ?_⟩
      refine a_s rfl rfl ?_
      exact a_iret rfl rfl ⟨1, _, _, _, rfl, rfl, fun _ _ => rfl, Or.inr ⟨(fun z => absurd (hc.symm.trans z) (by decide)), hc.symm, rfl⟩⟩
    · have hc : vS (dn (I 421)) (I 421) 0 x1 = 2 := hc
      refine ⟨15, _, _, _, _, 3, tn_24 rfl (by decide) (by decide) (hS.2 ("java/lang/IllegalStateException", "java/lang/IndexOutOfBoundsException") (by decide +kernel)) (tk_35 rfl (by decide) (by decide)), rfl, rfl, by decide, ?_⟩
      refine a_s rfl rfl ?_
      exact a_iret rfl rfl ⟨2, _, _, _, rfl, rfl, fun _ _ => rfl, Or.inr ⟨(fun z => absurd (hc.symm.trans z) (by decide)), hc.symm, rfl⟩⟩
theorem fL_recall (hS : HdS S) (h : Sy I) (ps : PsN I n fa) {x1 : Int32} : Sp S m_L_recall 17 2 12 [.ref 200, .int x1, .ref 431] (hp I L w1 w2 t) (fun v h' => ∃ y J L' t', v = some (.int y) ∧ h' = hp J L' w1 w2 t' ∧ (∀ q, 420 ≤ q → J q = I q) ∧ AcJ (vS (dn (I 421)) (I 421) 2 x1) y (L' 431 0) (I 421 (23 + 6 * ixN x1 + 2)) J (up2 (reS I n fa) 243 (ixN x1) 0) I) nX := by
  refine Sp_of ok_L_recall rfl rfl ?_
  show AW S m_L_recall 17 _ _ 2 12 0 [some (.ref 200), some (.int x1), some (.ref 431), none] [] (hp I L w1 w2 t)
  refine a_l2 rfl rfl rfl ?_
  refine a_s rfl rfl ?_
  refine a_l0 rfl rfl rfl ?_
  refine a_l1 rfl rfl rfl ?_
  refine a_callVc rfl lL_43 mo_X11_recall (f_recall h.nm.1 h.nm.2.2.1 ps.2.2.1 ps.1 ps.2.2.2.2.1 ps.2.1) rfl rfl rfl ⟨11, _, rfl, rfl, rfl⟩ (fun v' h' hv => ?_) (fun E h' hx => ?_)
  · obtain ⟨c0, rfl, rfl⟩ := hv
    refine a_s rfl rfl ?_
    refine a_lastv (k := 0) rfl (n := 1) rfl ⟨by decide, by decide⟩ rfl ?_
    refine a_goto rfl ?_
    refine a_s rfl rfl ?_
    exact a_iret rfl rfl ⟨0, _, _, _, rfl, rfl, (fun q hq => by show up2 (reS I n fa) 243 (ixN x1) 0 q = I q; rw [up2_row (by omega), reS_row (by omega) (by omega)]), Or.inl ⟨c0, rfl, up2_at, rfl⟩⟩
  · obtain ⟨⟨x, hx, hc, rfl⟩, rfl⟩ := hx
    simp only [List.mem_cons, List.not_mem_nil, or_false] at hx
    rcases hx with rfl | rfl
    · have hc : vS (dn (I 421)) (I 421) 2 x1 = 1 := hc
      refine ⟨12, _, _, _, _, 3, tk_24 rfl (by decide) (by decide), rfl, rfl, by decide, ?_⟩
      refine a_s rfl rfl ?_
      exact a_iret rfl rfl ⟨1, _, _, _, rfl, rfl, fun _ _ => rfl, Or.inr ⟨(fun z => absurd (hc.symm.trans z) (by decide)), hc.symm, rfl⟩⟩
    · have hc : vS (dn (I 421)) (I 421) 2 x1 = 2 := hc
      refine ⟨15, _, _, _, _, 3, tn_24 rfl (by decide) (by decide) (hS.2 ("java/lang/IllegalStateException", "java/lang/IndexOutOfBoundsException") (by decide +kernel)) (tk_35 rfl (by decide) (by decide)), rfl, rfl, by decide, ?_⟩
      refine a_s rfl rfl ?_
      exact a_iret rfl rfl ⟨2, _, _, _, rfl, rfl, fun _ _ => rfl, Or.inr ⟨(fun z => absurd (hc.symm.trans z) (by decide)), hc.symm, rfl⟩⟩
theorem fL_call (hS : HdS S) (h : Sy I) (ps : PsN I n fa) {x1 : Int32} : Sp S m_L_call 20 2 12 [.ref 200, .int x1, .ref 431] (hp I L w1 w2 t) (fun v h' => ∃ y J L' t', v = some (.int y) ∧ h' = hp J L' w1 w2 t' ∧ (∀ q, 420 ≤ q → J q = I q) ∧ AcJ (vC (dn (I 421)) (I 421) x1) y (L' 431 0) (passR (dn (I 421)) (I 421) (ixN x1)) J (up2 (up2 (reS I n fa) 239 (ixN x1) 0) 243 (ixN x1) 1) I) nX := by
  refine Sp_of ok_L_call rfl rfl ?_
  show AW S m_L_call 20 _ _ 2 12 0 [some (.ref 200), some (.int x1), some (.ref 431), none] [] (hp I L w1 w2 t)
  refine a_l2 rfl rfl rfl ?_
  refine a_s rfl rfl ?_
  refine a_l0 rfl rfl rfl ?_
  refine a_l1 rfl rfl rfl ?_
  refine a_callVc rfl lL_31 mo_X11_call (f_call h.nm.1 h.nm.2.2 ps.2.2.1 ps.1 ps.2.2.2.2.1 ps.2.1) rfl rfl rfl ⟨11, _, rfl, rfl, rfl⟩ (fun v' h' hv => ?_) (fun E h' hx => ?_)
  · obtain ⟨c0, rfl, rfl⟩ := hv
    refine a_s rfl rfl ?_
    refine a_lastv (k := 0) rfl (n := 1) rfl ⟨by decide, by decide⟩ rfl ?_
    refine a_goto rfl ?_
    refine a_s rfl rfl ?_
    exact a_iret rfl rfl ⟨0, _, _, _, rfl, rfl, (fun q hq => by show up2 (up2 (reS I n fa) 239 (ixN x1) 0) 243 (ixN x1) 1 q = I q; rw [up2_row (by omega), up2_row (by omega), reS_row (by omega) (by omega)]), Or.inl ⟨c0, rfl, up2_at, rfl⟩⟩
  · obtain ⟨⟨x, hx, hc, rfl⟩, rfl⟩ := hx
    simp only [List.mem_cons, List.not_mem_nil, or_false] at hx
    rcases hx with rfl | rfl
    · have hc : vC (dn (I 421)) (I 421) x1 = 1 := hc
      refine ⟨12, _, _, _, _, 3, tk_24 rfl (by decide) (by decide), rfl, rfl, by decide, ?_⟩
      refine a_s rfl rfl ?_
      exact a_iret rfl rfl ⟨1, _, _, _, rfl, rfl, fun _ _ => rfl, Or.inr ⟨(fun z => absurd (hc.symm.trans z) (by decide)), hc.symm, rfl⟩⟩
    · have hc : vC (dn (I 421)) (I 421) x1 = 2 := hc
      refine ⟨15, _, _, _, _, 3, tn_24 rfl (by decide) (by decide) (hS.2 ("java/lang/IllegalStateException", "java/lang/IndexOutOfBoundsException") (by decide +kernel)) (tk_35 rfl (by decide) (by decide)), rfl, rfl, by decide, ?_⟩
      refine a_s rfl rfl ?_
      exact a_iret rfl rfl ⟨2, _, _, _, rfl, rfl, fun _ _ => rfl, Or.inr ⟨(fun z => absurd (hc.symm.trans z) (by decide)), hc.symm, rfl⟩⟩
theorem fL_hand (hS : HdS S) (h : Sy I) (ps : PsN I n fa) {x1 x2 : Int32} : Sp S m_L_hand 17 4 24 [.ref 200, .int x1, .int x2, .ref 431] (hp I L w1 w2 t) (fun v h' => ∃ y J L' t', v = some (.int y) ∧ h' = hp J L' w1 w2 t' ∧ (∀ q, 420 ≤ q → J q = I q) ∧ AcJ (vH (dn (I 421)) (pn (I 421)) (I 421) x1 x2) y (L' 431 0) (I 421 (23 + 6 * ixN x1 + 0)) J (up2 (reS I n fa) 238 (ixN x1) x2) I) nX := by
  refine Sp_of ok_L_hand rfl rfl ?_
  show AW S m_L_hand 17 _ _ 4 24 0 [some (.ref 200), some (.int x1), some (.int x2), some (.ref 431), none] [] (hp I L w1 w2 t)
  refine a_l3 rfl rfl rfl ?_
  refine a_s rfl rfl ?_
  refine a_l0 rfl rfl rfl ?_
  refine a_l1 rfl rfl rfl ?_
  refine a_l2 rfl rfl rfl ?_
  refine a_callVc rfl lL_46 mo_X11_hand (f_hand h.nm.1 h.nm.2.2.1 ps.2.2.1 ps.1 ps.2.2.2.2.1 ps.2.1) rfl rfl rfl ⟨11, _, rfl, rfl, rfl⟩ (fun v' h' hv => ?_) (fun E h' hx => ?_)
  · obtain ⟨c0, rfl, rfl⟩ := hv
    refine a_s rfl rfl ?_
    refine a_lastv (k := 0) rfl (n := 1) rfl ⟨by decide, by decide⟩ rfl ?_
    refine a_goto rfl ?_
    refine a_s rfl rfl ?_
    exact a_iret rfl rfl ⟨0, _, _, _, rfl, rfl, (fun q hq => by show up2 (reS I n fa) 238 (ixN x1) x2 q = I q; rw [up2_row (by omega), reS_row (by omega) (by omega)]), Or.inl ⟨c0, rfl, up2_at, rfl⟩⟩
  · obtain ⟨⟨x, hx, hc, rfl⟩, rfl⟩ := hx
    simp only [List.mem_cons, List.not_mem_nil, or_false] at hx
    rcases hx with rfl | rfl | rfl
    · have hc : vH (dn (I 421)) (pn (I 421)) (I 421) x1 x2 = 1 := hc
      refine ⟨13, _, _, _, _, 4, tk_24 rfl (by decide) (by decide), rfl, rfl, by decide, ?_⟩
      refine a_s rfl rfl ?_
      exact a_iret rfl rfl ⟨1, _, _, _, rfl, rfl, fun _ _ => rfl, Or.inr ⟨(fun z => absurd (hc.symm.trans z) (by decide)), hc.symm, rfl⟩⟩
    · have hc : vH (dn (I 421)) (pn (I 421)) (I 421) x1 x2 = 2 := hc
      refine ⟨17, _, _, _, _, 4, tn_24 rfl (by decide) (by decide) (hS.2 ("java/lang/IllegalArgumentException", "java/lang/IndexOutOfBoundsException") (by decide +kernel)) (tk_13 rfl (by decide) (by decide)), rfl, rfl, by decide, ?_⟩
      refine a_s rfl rfl ?_
      exact a_iret rfl rfl ⟨2, _, _, _, rfl, rfl, fun _ _ => rfl, Or.inr ⟨(fun z => absurd (hc.symm.trans z) (by decide)), hc.symm, rfl⟩⟩
    · have hc : vH (dn (I 421)) (pn (I 421)) (I 421) x1 x2 = 3 := hc
      refine ⟨21, _, _, _, _, 4, tn_24 rfl (by decide) (by decide) (hS.2 ("java/lang/IllegalStateException", "java/lang/IndexOutOfBoundsException") (by decide +kernel)) (tn_13 rfl (by decide) (by decide) (hS.2 ("java/lang/IllegalStateException", "java/lang/IllegalArgumentException") (by decide +kernel)) (tk_35 rfl (by decide) (by decide))), rfl, rfl, by decide, ?_⟩
      refine a_s rfl rfl ?_
      exact a_iret rfl rfl ⟨3, _, _, _, rfl, rfl, fun _ _ => rfl, Or.inr ⟨(fun z => absurd (hc.symm.trans z) (by decide)), hc.symm, rfl⟩⟩
theorem fL_lean (hS : HdS S) (h : Sy I) (ps : PsN I n fa) {x1 x2 : Int32} : Sp S m_L_lean 17 3 18 [.ref 200, .int x1, .int x2, .ref 431] (hp I L w1 w2 t) (fun v h' => ∃ y J L' t', v = some (.int y) ∧ h' = hp J L' w1 w2 t' ∧ (∀ q, 420 ≤ q → J q = I q) ∧ AcJ (vL (dn (I 421)) x1 x2) y (L' 431 0) (I 421 (23 + 6 * ixN x1 + 4)) J (up2 (reS I n fa) 242 (ixN x1) x2) I) nX := by
  refine Sp_of ok_L_lean rfl rfl ?_
  show AW S m_L_lean 17 _ _ 3 18 0 [some (.ref 200), some (.int x1), some (.int x2), some (.ref 431), none] [] (hp I L w1 w2 t)
  refine a_l3 rfl rfl rfl ?_
  refine a_s rfl rfl ?_
  refine a_l0 rfl rfl rfl ?_
  refine a_l1 rfl rfl rfl ?_
  refine a_l2 rfl rfl rfl ?_
  refine a_callVc rfl lL_49 mo_X11_lean (f_lean h.nm.1 h.nm.2.2.1 ps.2.2.1 ps.1 ps.2.2.2.2.1 ps.2.1) rfl rfl rfl ⟨11, _, rfl, rfl, rfl⟩ (fun v' h' hv => ?_) (fun E h' hx => ?_)
  · obtain ⟨c0, rfl, rfl⟩ := hv
    refine a_s rfl rfl ?_
    refine a_lastv (k := 0) rfl (n := 1) rfl ⟨by decide, by decide⟩ rfl ?_
    refine a_goto rfl ?_
    refine a_s rfl rfl ?_
    exact a_iret rfl rfl ⟨0, _, _, _, rfl, rfl, (fun q hq => by show up2 (reS I n fa) 242 (ixN x1) x2 q = I q; rw [up2_row (by omega), reS_row (by omega) (by omega)]), Or.inl ⟨c0, rfl, up2_at, rfl⟩⟩
  · obtain ⟨⟨x, hx, hc, rfl⟩, rfl⟩ := hx
    simp only [List.mem_cons, List.not_mem_nil, or_false] at hx
    rcases hx with rfl | rfl
    · have hc : vL (dn (I 421)) x1 x2 = 1 := hc
      refine ⟨13, _, _, _, _, 4, tk_24 rfl (by decide) (by decide), rfl, rfl, by decide, ?_⟩
      refine a_s rfl rfl ?_
      exact a_iret rfl rfl ⟨1, _, _, _, rfl, rfl, fun _ _ => rfl, Or.inr ⟨(fun z => absurd (hc.symm.trans z) (by decide)), hc.symm, rfl⟩⟩
    · have hc : vL (dn (I 421)) x1 x2 = 2 := hc
      refine ⟨17, _, _, _, _, 4, tn_24 rfl (by decide) (by decide) (hS.2 ("java/lang/IllegalArgumentException", "java/lang/IndexOutOfBoundsException") (by decide +kernel)) (tk_13 rfl (by decide) (by decide)), rfl, rfl, by decide, ?_⟩
      refine a_s rfl rfl ?_
      exact a_iret rfl rfl ⟨2, _, _, _, rfl, rfl, fun _ _ => rfl, Or.inr ⟨(fun z => absurd (hc.symm.trans z) (by decide)), hc.symm, rfl⟩⟩
theorem fL_free (hS : HdS S) (h : Sy I) (ps : PsN I n fa) {x1 x2 : Int32} : Sp S m_L_free 17 2 12 [.ref 200, .int x1, .int x2, .ref 431] (hp I L w1 w2 t) (fun v h' => ∃ y J L' t', v = some (.int y) ∧ h' = hp J L' w1 w2 t' ∧ (∀ q, 420 ≤ q → J q = I q) ∧ AcJ (vF (pn (I 421)) x1 x2) y (L' 431 0) (I 421 (11 + 2 * ixN x1 + 1)) J (up2 (reS I n fa) 237 (ixN x1) x2) I) nX := by
  refine Sp_of ok_L_free rfl rfl ?_
  show AW S m_L_free 17 _ _ 2 12 0 [some (.ref 200), some (.int x1), some (.int x2), some (.ref 431), none] [] (hp I L w1 w2 t)
  refine a_l3 rfl rfl rfl ?_
  refine a_s rfl rfl ?_
  refine a_l0 rfl rfl rfl ?_
  refine a_l1 rfl rfl rfl ?_
  refine a_l2 rfl rfl rfl ?_
  refine a_callVc rfl lL_52 mo_X11_free (f_free h.nm.1 h.nm.2.2.1 ps.2.2.1 ps.1 ps.2.2.2.2.1 ps.2.1) rfl rfl rfl ⟨11, _, rfl, rfl, rfl⟩ (fun v' h' hv => ?_) (fun E h' hx => ?_)
  · obtain ⟨c0, rfl, rfl⟩ := hv
    refine a_s rfl rfl ?_
    refine a_lastv (k := 0) rfl (n := 1) rfl ⟨by decide, by decide⟩ rfl ?_
    refine a_goto rfl ?_
    refine a_s rfl rfl ?_
    exact a_iret rfl rfl ⟨0, _, _, _, rfl, rfl, (fun q hq => by show up2 (reS I n fa) 237 (ixN x1) x2 q = I q; rw [up2_row (by omega), reS_row (by omega) (by omega)]), Or.inl ⟨c0, rfl, up2_at, rfl⟩⟩
  · obtain ⟨⟨x, hx, hc, rfl⟩, rfl⟩ := hx
    simp only [List.mem_cons, List.not_mem_nil, or_false] at hx
    rcases hx with rfl | rfl
    · have hc : vF (pn (I 421)) x1 x2 = 1 := hc
      refine ⟨13, _, _, _, _, 4, tk_24 rfl (by decide) (by decide), rfl, rfl, by decide, ?_⟩
      refine a_s rfl rfl ?_
      exact a_iret rfl rfl ⟨1, _, _, _, rfl, rfl, fun _ _ => rfl, Or.inr ⟨(fun z => absurd (hc.symm.trans z) (by decide)), hc.symm, rfl⟩⟩
    · have hc : vF (pn (I 421)) x1 x2 = 2 := hc
      refine ⟨17, _, _, _, _, 4, tn_24 rfl (by decide) (by decide) (hS.2 ("java/lang/IllegalArgumentException", "java/lang/IndexOutOfBoundsException") (by decide +kernel)) (tk_13 rfl (by decide) (by decide)), rfl, rfl, by decide, ?_⟩
      refine a_s rfl rfl ?_
      exact a_iret rfl rfl ⟨2, _, _, _, rfl, rfl, fun _ _ => rfl, Or.inr ⟨(fun z => absurd (hc.symm.trans z) (by decide)), hc.symm, rfl⟩⟩
theorem fL_days (hS : HdS S) (h : Sy I) (ps : PsN I n fa) (hL : LwS I 246 (I 421) nl len cd fc fn) (hN : LwN (I 421) nl) {x1 : Int32} : Sp S m_L_days 21 1 6 [.ref 200, .int x1, .ref 431] (hp I L w1 w2 t) (fun v h' => ∃ y J L' t', v = some (.int y) ∧ h' = hp J L' w1 w2 t' ∧ (∀ q, 420 ≤ q → J q = I q) ∧ ((∃ m, 1 ≤ m ∧ m ≤ 90 ∧ x1 = nI m ∧ y = 0 ∧ (∀ q, (q < 235 ∨ 245 < q) → q ≠ 252 → q ≠ 253 → J q = reS I n fa q) ∧ Sd J 235 (dsW false cd fc fn nl (I 421) m) ∧ Lg J 235 (dsW false cd fc fn nl (I 421) m)) ∨ (inB x1 1 90 = false ∧ y = 1 ∧ J = I))) nX := by
  refine Sp_of ok_L_days rfl rfl ?_
  show AW S m_L_days 21 _ _ 1 6 0 [some (.ref 200), some (.int x1), some (.ref 431), none] [] (hp I L w1 w2 t)
  refine a_l2 rfl rfl rfl ?_
  refine a_s rfl rfl ?_
  refine a_l0 rfl rfl rfl ?_
  refine a_l1 rfl rfl rfl ?_
  refine a_callVc rfl lL_55 mo_X11_days (f_days h.nm.1 h.nm.2.1 h.nm.2.2 hL hN ps.2.2.1 ps.1 ps.2.2.2.2.1 ps.2.1) rfl rfl rfl ⟨11, _, rfl, rfl, rfl⟩ (fun v' h' hv => ?_) (fun E h' hx => ?_)
  · obtain ⟨y, rfl, m, m1, m2, rfl, J, rfl, f, D, G⟩ := hv
    refine a_s rfl rfl ?_
    refine a_lastv (k := 0) rfl (n := 1) rfl ⟨by decide, by decide⟩ rfl ?_
    refine a_goto rfl ?_
    refine a_s rfl rfl ?_
    exact a_iret rfl rfl ⟨0, J, _, _, rfl, rfl, (fun q hq => by rw [f q (by omega) (by omega) (by omega), reS_row (by omega) (by omega)]), Or.inl ⟨m, m1, m2, rfl, rfl, f, D, G⟩⟩
  · obtain ⟨rfl, hc, rfl⟩ := hx
    refine ⟨12, _, _, _, _, 3, tk_13 rfl (by decide) (by decide), rfl, rfl, by decide, ?_⟩
    refine a_s rfl rfl ?_
    exact a_iret rfl rfl ⟨1, I, _, _, rfl, rfl, fun _ _ => rfl, Or.inr ⟨hc, rfl, rfl⟩⟩
theorem fL_street (hS : HdS S) (h : Sy I) (he : I 201 1 = nI e) (h4 : e ≤ 400) : Sp S m_L_street 22 1 6 [.ref 200, .ref 431] (hp I L w1 w2 t) (fun v h' => ∃ y J L' w t', v = some (.int y) ∧ h' = hp J L' w w2 t' ∧ WK w ∧ CI J ∧ Fm sJ I J ∧ J 201 1 = 0 ∧ StC (strP (I 202) e (I 421)) I J y (L' 431 0)) nX := by
  refine Sp_of ok_L_street rfl rfl ?_
  show AW S m_L_street 22 _ _ 1 6 0 [some (.ref 200), some (.ref 431), none] [] (hp I L w1 w2 t)
  refine a_l1 rfl rfl rfl ?_
  refine a_s rfl rfl ?_
  refine a_l0 rfl rfl rfl ?_
  refine a_callVc rfl lL_7 mo_X11_street (f_streetC hS.1 he h4 h.1.2.2.1 rfl h.1.2.2.2.1 h.1.1 h.nm.1 h.nm.2.2.1 h.nm.2.2.2.1.1) rfl rfl rfl ⟨11, _, rfl, rfl, rfl⟩ (fun v' h' hv => ?_) (fun E h' hx => ?_)
  · obtain ⟨rfl, hz, h2, J, w, rfl, hww, ci, f, c1, c3, c13, D⟩ := hv
    refine a_s rfl rfl ?_
    refine a_lastv (k := 0) rfl (n := 1) rfl ⟨by decide, by decide⟩ rfl ?_
    refine a_goto rfl ?_
    refine a_s rfl rfl ?_
    exact a_iret rfl rfl ⟨0, J, _, w, _, rfl, rfl, hww, ci, f, c1, Or.inl ⟨hz, h2, rfl, up2_at, c3, c13, D⟩⟩
  · obtain ⟨J, w, rfl, hww, ci, f, c1, c13, D, hc⟩ := hx
    rcases hc with ⟨rfl, hz, c3⟩ | ⟨rfl, hz, h2, c3⟩
    · refine ⟨11, _, _, _, _, 2, tk_13 rfl (by decide) (by decide), rfl, rfl, by decide, ?_⟩
      refine a_s rfl rfl ?_
      exact a_iret rfl rfl ⟨1, J, _, w, _, rfl, rfl, hww, ci, f, c1, Or.inr (Or.inl ⟨hz, rfl, c3, c13, D⟩)⟩
    · refine ⟨14, _, _, _, _, 2, tn_13 rfl (by decide) (by decide) (hS.2 ("java/lang/UnsupportedOperationException", "java/lang/IllegalArgumentException") (by decide +kernel)) (tk_15 rfl (by decide) (by decide)), rfl, rfl, by decide, ?_⟩
      refine a_s rfl rfl ?_
      exact a_iret rfl rfl ⟨2, J, _, w, _, rfl, rfl, hww, ci, f, c1, Or.inr (Or.inr ⟨hz, h2, rfl, c3, c13, D⟩)⟩
theorem fL_law (hS : HdS S) (h : Sy I) (he : I 201 1 = nI e) (h4 : e ≤ 400) : Sp S m_L_law 22 1 6 [.ref 200, .ref 431] (hp I L w1 w2 t) (fun v h' => ∃ y J L' w t', v = some (.int y) ∧ h' = hp J L' w1 w t' ∧ WK w ∧ Mt0 I J ∧ LaC (lawP (I 202) e) I J y (L' 431 0)) nX := by
  refine Sp_of ok_L_law rfl rfl ?_
  show AW S m_L_law 22 _ _ 1 6 0 [some (.ref 200), some (.ref 431), none] [] (hp I L w1 w2 t)
  refine a_l1 rfl rfl rfl ?_
  refine a_s rfl rfl ?_
  refine a_l0 rfl rfl rfl ?_
  refine a_callVc rfl lL_17 mo_X11_law (f_lawS hS.1 he h4 h.1.2.2.1 rfl h.1.2.2.2.2) rfl rfl rfl ⟨11, _, rfl, rfl, rfl⟩ (fun v' h' hv => ?_) (fun E h' hx => ?_)
  · obtain ⟨rfl, hz, J, w, rfl, hww, m, c, f, c12, c400⟩ := hv
    refine a_s rfl rfl ?_
    refine a_lastv (k := 0) rfl (n := 1) rfl ⟨by decide, by decide⟩ rfl ?_
    refine a_goto rfl ?_
    refine a_s rfl rfl ?_
    exact a_iret rfl rfl ⟨0, J, _, w, _, rfl, rfl, hww, m, Or.inl ⟨hz, rfl, up2_at, c, f, c12, c400⟩⟩
  · obtain ⟨rfl, hz, J, w, rfl, hww, m, c3, f⟩ := hx
    refine ⟨11, _, _, _, _, 2, tk_13 rfl (by decide) (by decide), rfl, rfl, by decide, ?_⟩
    refine a_s rfl rfl ?_
    exact a_iret rfl rfl ⟨1, J, _, w, _, rfl, rfl, hww, m, Or.inr ⟨hz, rfl, c3, f⟩⟩
end T80b
end
