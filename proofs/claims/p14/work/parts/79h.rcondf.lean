section
/-! ===== the reference: parts, sums, tags, conditions, as functions (printed by program) ===== -/
section T79h
variable {S : aS} {I : Nat → Nat → Int32} {L : Nat → Nat → Int64} {w1 w2 t : Nat} {e p b n0 : Nat} {T : Nat → Int32} {o : List Int32}
set_option maxRecDepth 100000
/-- a code as the reference keeps it: its step, its number -/
def stF (x : Int32) : Int32 := if x < 1000 then 9 else if x < 2000 then x - 1000 else x - 1990
def snF (x : Int32) : Int32 := if x < 1000 then x else 0
def RowS (W : Nat → Int32) : List Int32 → Prop
  | [] => True
  | x :: r => (W (1233 + 2 * r.length) = stF x ∧ W (1233 + 2 * r.length + 1) = snF x) ∧ RowS W r
theorem RowS.eq {W W' : Nat → Int32} : ∀ {r : List Int32}, RowS W r → (∀ k, 1233 ≤ k → k < 1233 + 2 * r.length → W' k = W k) → RowS W' r := by
  intro r
  induction r with
  | nil => exact fun _ _ => trivial
  | cons x r ih =>
    intro h f
    have f : ∀ k, 1233 ≤ k → k < 1233 + 2 * (r.length + 1) → W' k = W k := f
    exact ⟨⟨(f _ (by omega) (by omega)).trans h.1.1, (f _ (by omega) (by omega)).trans h.1.2⟩, ih h.2 fun k g1 g2 => f k g1 (by omega)⟩
theorem RowS.em {J : Nat → Nat → Int32} {x y z : Int32} {r : List Int32} (h : RowS (J 421) r) (hx : x = stF z) (hy : y = snF z) : RowS (emH J r.length x y 421) (z :: r) := ⟨⟨emH_0.trans hx, emH_1.trans hy⟩, RowS.eq h fun _ _ g2 => emH_lo g2⟩
/-- from I (n0 steps) to J: at p, what is next begins at b, emitted is o -/
def Cf (T : Nat → Int32) (e n0 b : Nat) (o : List Int32) (I J : Nat → Nat → Int32) (p : Nat) : Prop := Fm (sY n0) I J ∧ J 420 13 = I 420 13 ∧ Pp e p J ∧ rn T e 4 p = b ∧ J 420 16 = nI o.length ∧ RowS (J 421) o ∧ n0 ≤ o.length
theorem Cf.pp {J : Nat → Nat → Int32} (h : Cf T e n0 b o I J p) : Pp e p J := h.2.2.1
theorem Cf.nb {J : Nat → Nat → Int32} (h : Cf T e n0 b o I J p) : rn T e 4 p = b := h.2.2.2.1
theorem Cf.st {J : Nat → Nat → Int32} (h : Cf T e n0 b o I J p) : J 420 16 = nI o.length := h.2.2.2.2.1
theorem Cf.d {J : Nat → Nat → Int32} {x : Int32} (h : Cf T e n0 b o I J p) (hd : I 420 13 = x) : J 420 13 = x := h.2.1.trans hd
theorem Cf.tt {J : Nat → Nat → Int32} (h : Cf T e n0 b o I J p) (hT : I 426 = T) : J 426 = T := (funext fun k => h.1 426 k rfl).trans hT
theorem Cf.le {J : Nat → Nat → Int32} (h : Cf T e n0 b o I J p) : b ≤ e := by
  rw [← Cf.nb h]
  exact rn_le (Pp.le (Cf.pp h))
theorem Cf.e4 {J : Nat → Nat → Int32} (h : Cf T e n0 b o I J p) : e ≤ 400 := Pp.e4 (Cf.pp h)
theorem Cf.sk {J : Nat → Nat → Int32} (h : Cf T e n0 b o I J p) : rn T e 4 b = b := by
  rw [← Cf.nb h]
  exact rn_rn
theorem Cf.rd {J K : Nat → Nat → Int32} {b2 p' b' : Nat} (h : Cf T e n0 b o I J p) (r : Rd e p b2 p' J K) (hb : rn T e 4 p' = b') : Cf T e n0 b' o I K p' := ⟨Fm.tr h.1 (Fm.mo (Rd.fm r) sR_sY), (Rd.fm r 420 13 rfl).trans h.2.1, Rd.pp r, hb, (Rd.fm r 420 16 rfl).trans h.2.2.2.2.1, by rw [Rd.w r]; exact h.2.2.2.2.2.1, h.2.2.2.2.2.2⟩
theorem Cf.em {J : Nat → Nat → Int32} {x y z : Int32} (h : Cf T e n0 b o I J p) (hx : x = stF z) (hy : y = snF z) : Cf T e n0 b (z :: o) I (emH J o.length x y) p := ⟨Fm.tr h.1 (Fm.mo emH_fm (sY_mono h.2.2.2.2.2.2)), (emH_f (by decide)).trans h.2.1, Pp.em h.2.2.1, h.2.2.2.1, up2_at, RowS.em h.2.2.2.2.2.1 hx hy, by have := h.2.2.2.2.2.2; show n0 ≤ o.length + 1; omega⟩
theorem Cf.ef {J : Nat → Nat → Int32} {x y : Int32} (h : Cf T e n0 b o I J p) : Fm (sY n0) I (emH J o.length x y) := Fm.tr h.1 (Fm.mo emH_fm (sY_mono h.2.2.2.2.2.2))
theorem Cf.cc {K J : Nat → Nat → Int32} {b' p' : Nat} {o' : List Int32} (h : Cf T e n0 b o I J p) (g : Cf T e n0 b' o' J K p') : Cf T e n0 b' o' I K p' := ⟨Fm.tr h.1 g.1, g.2.1.trans h.2.1, g.2.2⟩
theorem Cf.rf {J : Nat → Nat → Int32} (h : Cf T e n0 b o I J p) : Cf T e n0 b o J J p := ⟨Fm.rf, rfl, h.2.2⟩
theorem Cf.up13 {J : Nat → Nat → Int32} {x : Int32} (h : Cf T e n0 b o I J p) : Cf T e n0 b o (up2 J 420 13 x) (up2 J 420 13 x) p := by
  obtain ⟨-, -, g1, g2, g3, g4, g5⟩ := h
  refine ⟨Fm.rf, rfl, ?_, g2, (up2_ne (Or.inr (by decide))).trans g3, ?_, g5⟩
  · unfold Pp
    rw [up2_ne (Or.inr (by decide)), up2_ne (Or.inr (by decide))]
    exact g1
  · rw [up2_row (by decide)]
    exact g4
theorem Cf.deep {J K : Nat → Nat → Int32} {b' p' : Nat} {o' : List Int32} {x y : Int32} (h : Cf T e n0 b o I J p) (hd : I 420 13 = x) (g : Cf T e n0 b' o' (up2 J 420 13 y) K p') : Cf T e n0 b' o' I (up2 K 420 13 x) p' := by
  obtain ⟨f, -, g1, g2, g3, g4, g5⟩ := g
  refine ⟨Fm.up (Fm.tr h.1 (Fm.tr (Fm.up Fm.rf rfl) f)) rfl, up2_at.trans hd.symm, ?_, g2, (up2_ne (Or.inr (by decide))).trans g3, ?_, g5⟩
  · unfold Pp
    rw [up2_ne (Or.inr (by decide)), up2_ne (Or.inr (by decide))]
    exact g1
  · rw [up2_row (by decide)]
    exact g4
/-- read as the function says -/
def QF (T : Nat → Int32) (e n0 : Nat) (r : PR) (I : Nat → Nat → Int32) (L : Nat → Nat → Int64) (w1 w2 t : Nat) : Option Value → aH → Prop := fun v h' => v = some (.int (bI r.1)) ∧ ∃ J p, h' = hp J L w1 w2 t ∧ (r.1 = true → Cf T e n0 r.2.1 r.2.2 I J p) ∧ (r.1 = false → Fm (sY n0) I J ∧ J 420 12 = nI r.2.1)
theorem QF.yes {J : Nat → Nat → Int32} (h : Cf T e n0 b o I J p) : QF T e n0 (true, b, o) I L w1 w2 t (some (.int (bI true))) (hp J L w1 w2 t) := ⟨rfl, J, p, rfl, fun _ => h, fun z => by cases z⟩
theorem QF.no {J : Nat → Nat → Int32} (f : Fm (sY n0) I J) (hb : J 420 12 = nI b) : QF T e n0 (false, b, o) I L w1 w2 t (some (.int (bI false))) (hp J L w1 w2 t) := ⟨rfl, J, 0, rfl, fun z => (by cases z), fun _ => ⟨f, hb⟩⟩
theorem Cf.no {J K : Nat → Nat → Int32} {b1 p1 : Nat} {o1 : List Int32} (h : Cf T e n0 b1 o1 I J p1) (f : Fm (sY n0) J K) (hb : K 420 12 = nI b) : QF T e n0 (false, b, o) I L w1 w2 t (some (.int (bI false))) (hp K L w1 w2 t) := QF.no (Fm.tr h.1 f) hb
theorem nx_of {b : Nat} : rn T e 4 (en T e b) = nx T e b := rfl
theorem atomR_gdo {D : Nat} {b : Nat} {o : List Int32} (h : b ≤ e) : Gd e b o (atomR T e D b o) := atomR_gd D b o h
theorem seqA_gd {D : Nat} {b : Nat} {o : List Int32} (h : b ≤ e) : Gd e b o (seqP T e (atomR T e D) 20 2004 b o) := seqP_gd (fun b o h => atomR_gd D b o h) h
/-- a part's number among the parts -/
def wpF (i : Nat) : Int32 := if i = 3 then 0 else if i = 24 then 1 else if i = 6 then 2 else if i = 7 then 3 else if i = 25 then 4 else if i = 26 then 5 else if i = 13 then 6 else -1
theorem wp_ok : ∀ i, i < 28 → (wpF i = -1 ∧ wPa i = -1) ∨ (¬ wpF i < 0 ∧ ¬ wPa i = -1 ∧ wpF i = stF (wPa i) ∧ 0 = snF (wPa i)) := by decide +kernel
theorem h_wordOfPart (hw : WdS S) (h12 : I 420 12 = nI b) (hbp : b ≤ p) (hq : Pp e p I) (hp1 : p = rn (I 426) e 1 b) : SpE S m_X12_wordOfPart 17 [.ref 420] (hp I L w1 w2 t) (some (.int (if kd (I 426) e b = 1 then wpF (wd (I 426) e b) else -1))) (hp I L w1 w2 t) := by
  have hi : ∀ k, k < 27 → isW (I 426) b (p - b) k = isWd (I 426) e b k := fun k hk => by
    rw [hp1]
    exact isW_wd hk
  refine SpE_of ok_X12_wordOfPart rfl rfl ?_
  show AW S m_X12_wordOfPart 17 _ _ 0 0 0 [some (.ref 420)] [] (hp I L w1 w2 t)
  refine a_l0 rfl rfl rfl ?_
  refine a_ldcs (q := 130 + 3) rfl (hw.ld (i := 3) (by decide)) ?_
  refine a_eV1 rfl lX12_109 mo_X12_isWord (h_isWord (k := 3) hw (by decide) h12 hbp hq) rfl rfl rfl ⟨12, _, rfl, rfl, rfl⟩ rfl ?_
  refine a_top (y := bI (isWd (I 426) e b 3)) (congrArg bI (hi 3 (by decide))) ?_
  cases c3 : isWd (I 426) e b 3 with
  | true =>
    refine a_if_eq rfl (fun z => absurd z (by decide)) (fun _ => ?_)
    refine a_s rfl rfl ?_
    refine a_iret rfl rfl ⟨?_, rfl⟩
    rw [if_pos (of_decide_eq_true c3).1, (of_decide_eq_true c3).2]
    rfl
  | false =>
  refine a_if_eq rfl (fun _ => ?_) (fun z => absurd rfl z)
  refine a_l0 rfl rfl rfl ?_
  refine a_ldcs (q := 130 + 24) rfl (hw.ld (i := 24) (by decide)) ?_
  refine a_eV1 rfl lX12_109 mo_X12_isWord (h_isWord (k := 24) hw (by decide) h12 hbp hq) rfl rfl rfl ⟨12, _, rfl, rfl, rfl⟩ rfl ?_
  refine a_top (y := bI (isWd (I 426) e b 24)) (congrArg bI (hi 24 (by decide))) ?_
  cases c24 : isWd (I 426) e b 24 with
  | true =>
    refine a_if_eq rfl (fun z => absurd z (by decide)) (fun _ => ?_)
    refine a_s rfl rfl ?_
    refine a_iret rfl rfl ⟨?_, rfl⟩
    rw [if_pos (of_decide_eq_true c24).1, (of_decide_eq_true c24).2]
    rfl
  | false =>
  refine a_if_eq rfl (fun _ => ?_) (fun z => absurd rfl z)
  refine a_l0 rfl rfl rfl ?_
  refine a_ldcs (q := 130 + 6) rfl (hw.ld (i := 6) (by decide)) ?_
  refine a_eV1 rfl lX12_109 mo_X12_isWord (h_isWord (k := 6) hw (by decide) h12 hbp hq) rfl rfl rfl ⟨12, _, rfl, rfl, rfl⟩ rfl ?_
  refine a_top (y := bI (isWd (I 426) e b 6)) (congrArg bI (hi 6 (by decide))) ?_
  cases c6 : isWd (I 426) e b 6 with
  | true =>
    refine a_if_eq rfl (fun z => absurd z (by decide)) (fun _ => ?_)
    refine a_s rfl rfl ?_
    refine a_iret rfl rfl ⟨?_, rfl⟩
    rw [if_pos (of_decide_eq_true c6).1, (of_decide_eq_true c6).2]
    rfl
  | false =>
  refine a_if_eq rfl (fun _ => ?_) (fun z => absurd rfl z)
  refine a_l0 rfl rfl rfl ?_
  refine a_ldcs (q := 130 + 7) rfl (hw.ld (i := 7) (by decide)) ?_
  refine a_eV1 rfl lX12_109 mo_X12_isWord (h_isWord (k := 7) hw (by decide) h12 hbp hq) rfl rfl rfl ⟨12, _, rfl, rfl, rfl⟩ rfl ?_
  refine a_top (y := bI (isWd (I 426) e b 7)) (congrArg bI (hi 7 (by decide))) ?_
  cases c7 : isWd (I 426) e b 7 with
  | true =>
    refine a_if_eq rfl (fun z => absurd z (by decide)) (fun _ => ?_)
    refine a_s rfl rfl ?_
    refine a_iret rfl rfl ⟨?_, rfl⟩
    rw [if_pos (of_decide_eq_true c7).1, (of_decide_eq_true c7).2]
    rfl
  | false =>
  refine a_if_eq rfl (fun _ => ?_) (fun z => absurd rfl z)
  refine a_l0 rfl rfl rfl ?_
  refine a_ldcs (q := 130 + 25) rfl (hw.ld (i := 25) (by decide)) ?_
  refine a_eV1 rfl lX12_109 mo_X12_isWord (h_isWord (k := 25) hw (by decide) h12 hbp hq) rfl rfl rfl ⟨12, _, rfl, rfl, rfl⟩ rfl ?_
  refine a_top (y := bI (isWd (I 426) e b 25)) (congrArg bI (hi 25 (by decide))) ?_
  cases c25 : isWd (I 426) e b 25 with
  | true =>
    refine a_if_eq rfl (fun z => absurd z (by decide)) (fun _ => ?_)
    refine a_s rfl rfl ?_
    refine a_iret rfl rfl ⟨?_, rfl⟩
    rw [if_pos (of_decide_eq_true c25).1, (of_decide_eq_true c25).2]
    rfl
  | false =>
  refine a_if_eq rfl (fun _ => ?_) (fun z => absurd rfl z)
  refine a_l0 rfl rfl rfl ?_
  refine a_ldcs (q := 130 + 26) rfl (hw.ld (i := 26) (by decide)) ?_
  refine a_eV1 rfl lX12_109 mo_X12_isWord (h_isWord (k := 26) hw (by decide) h12 hbp hq) rfl rfl rfl ⟨12, _, rfl, rfl, rfl⟩ rfl ?_
  refine a_top (y := bI (isWd (I 426) e b 26)) (congrArg bI (hi 26 (by decide))) ?_
  cases c26 : isWd (I 426) e b 26 with
  | true =>
    refine a_if_eq rfl (fun z => absurd z (by decide)) (fun _ => ?_)
    refine a_s rfl rfl ?_
    refine a_iret rfl rfl ⟨?_, rfl⟩
    rw [if_pos (of_decide_eq_true c26).1, (of_decide_eq_true c26).2]
    rfl
  | false =>
  refine a_if_eq rfl (fun _ => ?_) (fun z => absurd rfl z)
  refine a_l0 rfl rfl rfl ?_
  refine a_ldcs (q := 130 + 13) rfl (hw.ld (i := 13) (by decide)) ?_
  refine a_eV1 rfl lX12_109 mo_X12_isWord (h_isWord (k := 13) hw (by decide) h12 hbp hq) rfl rfl rfl ⟨12, _, rfl, rfl, rfl⟩ rfl ?_
  refine a_top (y := bI (isWd (I 426) e b 13)) (congrArg bI (hi 13 (by decide))) ?_
  cases c13 : isWd (I 426) e b 13 with
  | true =>
    refine a_if_eq rfl (fun z => absurd z (by decide)) (fun _ => ?_)
    refine a_s rfl rfl ?_
    refine a_goto rfl ?_
    refine a_iret rfl rfl ⟨?_, rfl⟩
    rw [if_pos (of_decide_eq_true c13).1, (of_decide_eq_true c13).2]
    rfl
  | false =>
  refine a_if_eq rfl (fun _ => ?_) (fun z => absurd rfl z)
  refine a_s rfl rfl ?_
  refine a_iret rfl rfl ⟨?_, rfl⟩
  by_cases c : kd (I 426) e b = 1
  · rw [if_pos c]
    have ne : ∀ k, isWd (I 426) e b k = false → wd (I 426) e b ≠ k := fun k hk z => by
      rw [show isWd (I 426) e b k = true from decide_eq_true ⟨c, z⟩] at hk
      cases hk
    unfold wpF
    rw [if_neg (ne 3 c3), if_neg (ne 24 c24), if_neg (ne 6 c6), if_neg (ne 7 c7), if_neg (ne 25 c25), if_neg (ne 26 c26), if_neg (ne 13 c13)]
  · rw [if_neg c]
def prtP (T : Nat → Int32) (e b : Nat) (o : List Int32) : PR := if prt T e b = -1 then (false, b, []) else (true, nx T e b, prt T e b :: o)
theorem nI_st : ∀ m, m < 1000 → (9 = stF (nI m) ∧ nI m = snF (nI m)) := by decide +kernel
theorem h_readPart (hw : WdS S) (hT : I 426 = T) (h : Cf T e n0 b o I I p) (hB : o.length < b) : Sp S m_X12_readPart 18 0 0 [.ref 420] (hp I L w1 w2 t) (QF T e n0 (prtP T e b o) I L w1 w2 t) nX := by
  have hbe := Cf.le h
  have he4 := Cf.e4 h
  have hskb := Cf.sk h
  refine Sp_of ok_X12_readPart rfl rfl ?_
  show AW S m_X12_readPart 18 _ _ 0 0 0 [some (.ref 420), none, none] [] (hp I L w1 w2 t)
  have bad : ∀ {z : Bool} {b' p' : Nat} {J : Nat → Nat → Int32}, prt T e b = -1 → Cf T e n0 b' o I J p' → o.length < 400 → J 420 12 = nI b → AW S m_X12_readPart 18 (QF T e n0 (prtP T e b o) I L w1 w2 t) nX 0 0 40 [some (.ref 420), some (.int (bI z)), none] [.int (-1)] (hp J L w1 w2 t) := by
    intro z b' p' J hp1 h2 ho4 hbeg
    rw [show prtP T e b o = (false, b, []) from if_pos hp1]
    have fin : ∀ {x y : Int32}, AW S m_X12_readPart 18 (QF T e n0 (false, b, []) I L w1 w2 t) nX 0 0 61 [some (.ref 420), some (.int (bI z)), some (.int (-1))] [.int y, .int x, .ref 420] (hp J L w1 w2 t) := by
      intro x y
      refine a_eV0 rfl lX12_180 mo_X12_emits (r_X12_emits (Cf.st h2) (by omega)) rfl rfl rfl ⟨12, _, rfl, rfl, rfl⟩ rfl ?_
      refine a_l2 rfl rfl rfl ?_
      refine a_if_lt rfl (fun _ => ?_) (fun c => absurd (by decide) c)
      refine a_s rfl rfl ?_
      exact a_zret rfl rfl rfl (QF.no (Cf.ef h2) ((emH_f (by decide)).trans hbeg))
    refine a_s2 rfl rfl rfl rfl rfl rfl ?_
    refine a_l0 rfl rfl rfl ?_
    refine a_l1 rfl rfl rfl ?_
    cases z with
    | false =>
      refine a_if_eq rfl (fun _ => ?_) (fun c => absurd rfl c)
      refine a_l2 rfl rfl rfl ?_
      refine a_l1 rfl rfl rfl ?_
      refine a_if_eq rfl (fun _ => ?_) (fun c => absurd rfl c)
      refine a_s rfl rfl ?_
      exact fin
    | true =>
      refine a_if_eq rfl (fun c => absurd c (by decide)) (fun _ => ?_)
      refine a_s rfl rfl ?_
      refine a_goto rfl ?_
      refine a_l1 rfl rfl rfl ?_
      refine a_if_eq rfl (fun c => absurd c (by decide)) (fun _ => ?_)
      refine a_l2 rfl rfl rfl ?_
      refine a_goto rfl ?_
      exact fin
  have good : ∀ {p' : Nat} {x y v : Int32} {J : Nat → Nat → Int32}, ¬ prt T e b = -1 → Cf T e n0 (nx T e b) o I J p' → x = stF (prt T e b) → y = snF (prt T e b) → ¬ v < 0 → AW S m_X12_readPart 18 (QF T e n0 (prtP T e b o) I L w1 w2 t) nX 0 0 61 [some (.ref 420), none, some (.int v)] [.int y, .int x, .ref 420] (hp J L w1 w2 t) := by
    intro p' x y v J hp1 h2 hx hy hv
    rw [show prtP T e b o = (true, nx T e b, prt T e b :: o) from if_neg hp1]
    have n1 := nx_lt (T := T) (prt_lt hp1)
    have n2 := Cf.le h2
    refine a_eV0 rfl lX12_180 mo_X12_emits (r_X12_emits (Cf.st h2) (by omega)) rfl rfl rfl ⟨12, _, rfl, rfl, rfl⟩ rfl ?_
    refine a_l2 rfl rfl rfl ?_
    refine a_if_lt rfl (fun c => absurd c hv) (fun _ => ?_)
    refine a_s rfl rfl ?_
    refine a_goto rfl ?_
    exact a_zret rfl rfl rfl (QF.yes (Cf.em h2 hx hy))
  refine a_l0 rfl rfl rfl ?_
  refine a_gV rfl lX12_106 mo_X12_letters (h_letters (Cf.pp h)) rfl rfl rfl ⟨12, _, rfl, rfl, rfl⟩ rfl (fun v' h' hv => ?_)
  obtain ⟨rfl, J1, rfl, h1⟩ := hv
  rw [hT, Cf.nb h] at h1
  have eT1 : J1 426 = T := (Rd.T h1).trans hT
  refine a_l0 rfl rfl rfl ?_
  refine a_geti rfl gfX12_81_12 rfl ?_
  refine a_top (y := nI (rn T e 1 b)) (Pp.pu (Rd.pp h1)) ?_
  refine a_l0 rfl rfl rfl ?_
  refine a_geti rfl gfX12_91_12 rfl ?_
  refine a_top (y := nI b) (Rd.be h1) ?_
  have hr1 := rn_le (T := T) (k := 1) hbe
  refine a_ic_ne rfl (fun c => ?_) (fun c => ?_)
  · have k1 : kd T e b = 1 := by
      have hne : ¬ rn T e 1 b = b := fun z => c (congrArg nI z)
      cases ck : isK T e 1 b with
      | true => exact (kd_lt (isK_lt ck)).trans (isK_kc ck)
      | false => exact absurd (rn_f ck) hne
    have hlt := kd_in (T := T) (e := e) (b := b) (by rw [k1]; decide)
    have C1 : Cf T e n0 (nx T e b) o I J1 (rn T e 1 b) := Cf.rd h h1 (by rw [← en_1 k1]; rfl)
    have ep : prt T e b = wPa (wd T e b) := (if_neg (by rw [k1]; decide)).trans (if_pos k1)
    refine a_s rfl rfl ?_
    refine a_s1 rfl rfl rfl rfl rfl rfl ?_
    refine a_l1 rfl rfl rfl ?_
    refine a_if_eq rfl (fun _ => ?_) (fun c => absurd rfl c)
    refine a_l0 rfl rfl rfl ?_
    refine a_eV1 rfl lX12_177 mo_X12_wordOfPart (h_wordOfPart hw (Rd.be h1) (Rd.bp h1) (Rd.pp h1) (by rw [eT1])) rfl rfl rfl ⟨12, _, rfl, rfl, rfl⟩ rfl ?_
    refine a_top (y := wpF (wd T e b)) (by rw [eT1]; exact if_pos k1) ?_
    have hw27 := wd_le (T := T) (e := e) (b := b)
    rcases wp_ok (wd T e b) (by omega) with ⟨z1, z2⟩ | ⟨z1, z2, z3, z4⟩
    · rw [z1]
      exact bad (z := false) (ep.trans z2) C1 (by omega) (Rd.be h1)
    · refine a_s2 rfl rfl rfl rfl rfl rfl ?_
      refine a_l0 rfl rfl rfl ?_
      refine a_l1 rfl rfl rfl ?_
      refine a_if_eq rfl (fun _ => ?_) (fun c => absurd rfl c)
      refine a_l2 rfl rfl rfl ?_
      refine a_l1 rfl rfl rfl ?_
      refine a_if_eq rfl (fun _ => ?_) (fun c => absurd rfl c)
      refine a_s rfl rfl ?_
      exact a_less (good (by rw [ep]; exact z2) C1 (by rw [ep]; exact z3) (by rw [ep]; exact z4) z1) ⟨rfl, rfl, trivial⟩
  · have er : rn T e 1 b = b := nI_inj (by omega) (by omega) c
    rw [er] at h1
    have k1 : kd T e b ≠ 1 := fun z => by
      have := rn_t (kd_isK (by decide) z)
      have h9 := rn_ge (T := T) (e := e) (k := 1) (p := b + 1)
      omega
    refine a_s rfl rfl ?_
    refine a_goto rfl ?_
    refine a_s1 rfl rfl rfl rfl rfl rfl ?_
    refine a_l1 rfl rfl rfl ?_
    refine a_if_eq rfl (fun c => absurd c (by decide)) (fun _ => ?_)
    refine a_l0 rfl rfl rfl ?_
    refine a_s rfl rfl ?_
    refine a_s rfl rfl ?_
    refine a_gV rfl lX12_113 mo_X12_number (h_number (b := b) (x := 0) (y := 999) (Rd.pp h1) (by rw [eT1]; exact hskb) (by decide)) rfl rfl rfl ⟨12, _, rfl, rfl, rfl⟩ rfl (fun v' h' hv => ?_)
    obtain ⟨rfl, J2, rfl, h2⟩ := hv
    rw [eT1] at h2 ⊢
    refine a_goto rfl ?_
    have ep : prt T e b = if kd T e b = 2 then vl T e b else -1 := by
      unfold prt
      by_cases c2 : kd T e b = 2
      · rw [if_pos c2, if_pos c2]
      · rw [if_neg c2, if_neg c2, if_neg k1]
    have C1 := Cf.rd h h1 hskb
    by_cases cv : prt T e b = -1
    · have en1 : nm T e b 0 999 = -1 := if_neg fun z => by
        rw [ep, if_pos z.1] at cv
        rw [cv] at z
        exact absurd z.2.1 (by decide)
      rw [en1]
      exact bad (z := true) cv (Cf.rd (b' := rn T e 4 (rn T e 2 b)) C1 h2 rfl) (by omega) (Rd.be h2)
    · have k2 : kd T e b = 2 := by
        by_cases c2 : kd T e b = 2
        · exact c2
        · rw [ep, if_neg c2] at cv
          exact absurd rfl cv
      rw [if_pos k2] at ep
      obtain ⟨m, hm, em⟩ := nu_rng k2 (by rw [← ep]; exact cv)
      have en1 : nm T e b 0 999 = nI m := by
        rw [← em]
        refine if_pos ⟨k2, ?_, ?_⟩
        · rw [em]
          exact nI_0le (by omega)
        · rw [em]
          exact nI_leu (j := 999) (by omega) (by decide)
      rw [en1]
      obtain ⟨s9, sn⟩ := nI_st m hm
      have C2 : Cf T e n0 (nx T e b) o I J2 (rn T e 2 b) := Cf.rd C1 h2 (by rw [← en_2 k2]; rfl)
      refine a_s2 rfl rfl rfl rfl rfl rfl ?_
      refine a_l0 rfl rfl rfl ?_
      refine a_l1 rfl rfl rfl ?_
      refine a_if_eq rfl (fun c => absurd c (by decide)) (fun _ => ?_)
      refine a_s rfl rfl ?_
      refine a_goto rfl ?_
      refine a_l1 rfl rfl rfl ?_
      refine a_if_eq rfl (fun c => absurd c (by decide)) (fun _ => ?_)
      refine a_l2 rfl rfl rfl ?_
      refine a_goto rfl ?_
      exact a_less (good cv C2 (by rw [ep, em]; exact s9) (by rw [ep, em]; exact sn) (nI_pos (by omega))) ⟨rfl, rfl, trivial⟩
theorem h_readSum (hw : WdS S) (hbt : BtT T) (hT : I 426 = T) (h : Cf T e n0 b o I I p) (hB : o.length < b) : Sp S m_X12_readSum 19 0 0 [.ref 420] (hp I L w1 w2 t) (QF T e n0 (sumP T e b o) I L w1 w2 t) nX := by
  have he4 := Cf.e4 h
  refine Sp_of ok_X12_readSum rfl rfl ?_
  show AW S m_X12_readSum 19 _ _ 0 0 0 [some (.ref 420)] [] (hp I L w1 w2 t)
  refine a_l0 rfl rfl rfl ?_
  refine a_gV rfl lX12_184 mo_X12_readPart (h_readPart hw hT h hB) rfl rfl rfl ⟨12, _, rfl, rfl, rfl⟩ rfl (fun v' h' hv => ?_)
  obtain ⟨rfl, J1, p1, rfl, hz1, hf1⟩ := hv
  by_cases c : prt T e b = -1
  · rw [show prtP T e b o = (false, b, []) from if_pos c] at hf1 ⊢
    rw [show sumP T e b o = (false, b, []) from if_pos c]
    refine a_if_ne rfl (fun z => absurd rfl z) (fun _ => ?_)
    refine a_s rfl rfl ?_
    exact a_zret rfl rfl rfl (QF.no (hf1 rfl).1 (hf1 rfl).2)
  rw [show prtP T e b o = (true, nx T e b, prt T e b :: o) from if_neg c] at hz1 ⊢
  have es0 : sumP T e b o = smL T e (nx T e b) (prt T e b :: o) := if_neg c
  have n1 := nx_lt (T := T) (prt_lt c)
  refine a_if_ne rfl (fun _ => ?_) (fun z => absurd (show (1 : Int32) = 0 from z) (by decide))
  refine a_inv (n := e - nx T e b) (fun m ls h => ls = [some (.ref 420)] ∧ ∃ J p' b' o', h = hp J L w1 w2 t ∧ Cf T e n0 b' o' I J p' ∧ o'.length < b' ∧ smL T e b' o' = sumP T e b o ∧ m = e - b') ⟨rfl, J1, p1, _, _, rfl, hz1 rfl, by show o.length + 1 < nx T e b; omega, es0.symm, rfl⟩ ?_
  rintro m _ _ ⟨rfl, J, p', b', o', rfl, C, hB', es, hm⟩ ih
  have eT := Cf.tt C hT
  refine a_l0 rfl rfl rfl ?_
  refine a_s rfl rfl ?_
  refine a_gV rfl lX12_187 mo_X12_sign (h_sign (b := b') (c := 43) (by rw [eT]; exact hbt) (by decide) (Cf.pp C) (by rw [eT]; exact Cf.nb C)) rfl rfl rfl ⟨12, _, rfl, rfl, rfl⟩ rfl (fun v' h' hv => ?_)
  obtain ⟨rfl, J2, rfl, h2⟩ := hv
  rw [eT] at h2 ⊢
  cases cs : sg T e b' (nI 43) with
  | false =>
    have cs : sg T e b' 43 = false := cs
    refine a_if_eq rfl (fun _ => ?_) (fun z => absurd rfl z)
    rw [if_neg (by rw [show sg T e b' (nI 43) = false from cs]; decide)] at h2
    refine a_s rfl rfl ?_
    rw [← es, smL_f cs]
    exact a_zret rfl rfl rfl (QF.yes (Cf.rd C h2 (Cf.sk C)))
  | true =>
    have cs : sg T e b' 43 = true := cs
    refine a_if_eq rfl (fun z => absurd z (by decide)) (fun _ => ?_)
    rw [if_pos (show sg T e b' (nI 43) = true from cs)] at h2
    have n2 := nx_lt (T := T) (sg_lt cs)
    have C2 : Cf T e n0 (nx T e b') o' I J2 (en T e b') := Cf.rd C h2 rfl
    have n2e := Cf.le C2
    refine a_l0 rfl rfl rfl ?_
    refine a_gV rfl lX12_184 mo_X12_readPart (h_readPart hw (Cf.tt C2 hT) (Cf.rf C2) (by omega)) rfl rfl rfl ⟨12, _, rfl, rfl, rfl⟩ rfl (fun v' h' hv => ?_)
    obtain ⟨rfl, J3, p3, rfl, hz3, hf3⟩ := hv
    by_cases cp : prt T e (nx T e b') = -1
    · rw [show prtP T e (nx T e b') o' = (false, nx T e b', []) from if_pos cp] at hf3 ⊢
      refine a_if_ne rfl (fun z => absurd rfl z) (fun _ => ?_)
      refine a_s rfl rfl ?_
      rw [← es, smL_n cs cp]
      exact a_zret rfl rfl rfl (Cf.no C2 (hf3 rfl).1 (hf3 rfl).2)
    · rw [show prtP T e (nx T e b') o' = (true, nx T e (nx T e b'), prt T e (nx T e b') :: o') from if_neg cp] at hz3 ⊢
      refine a_if_ne rfl (fun _ => ?_) (fun z => absurd (show (1 : Int32) = 0 from z) (by decide))
      rw [smL_t cs cp] at es
      have n3 := nx_lt (T := T) (prt_lt cp)
      have C3 := Cf.cc C2 (hz3 rfl)
      have n3e : nx T e (nx T e b') ≤ e := Cf.le C3
      refine a_l0 rfl rfl rfl ?_
      refine a_s rfl rfl ?_
      refine a_s rfl rfl ?_
      refine a_eV0 rfl lX12_180 mo_X12_emits (r_X12_emits (Cf.st C3) (by show o'.length + 1 ≤ 399; omega)) rfl rfl rfl ⟨12, _, rfl, rfl, rfl⟩ rfl ?_
      refine a_goto rfl ?_
      exact ih (e - nx T e (nx T e b')) _ _ (by omega) ⟨rfl, _, p3, _, _, rfl, Cf.em (z := 2000) C3 (by decide) (by decide), by show o'.length + 1 + 1 < nx T e (nx T e b'); omega, es, rfl⟩
theorem h_readTag (hw : WdS S) (hT : I 426 = T) (h : Cf T e n0 b o I I p) (hB : o.length < b) : Sp S m_X12_readTag 17 0 0 [.ref 420] (hp I L w1 w2 t) (fun v h' => ∃ z x J p', v = some (.int (bI z)) ∧ h' = hp J L w1 w2 t ∧ (z = true → ((isWd T e b 22 = true ∧ x = 1007) ∨ (isWd T e b 22 = false ∧ isWd T e b 23 = true ∧ x = 1008)) ∧ Cf T e n0 (nx T e b) (x :: o) I J p') ∧ (z = false → (isWd T e b 22 = false ∧ isWd T e b 23 = false) ∧ Cf T e n0 b o I J p')) nX := by
  have hbe := Cf.le h
  have he4 := Cf.e4 h
  refine Sp_of ok_X12_readTag rfl rfl ?_
  show AW S m_X12_readTag 17 _ _ 0 0 0 [some (.ref 420), none] [] (hp I L w1 w2 t)
  refine a_l0 rfl rfl rfl ?_
  refine a_gV rfl lX12_106 mo_X12_letters (h_letters (Cf.pp h)) rfl rfl rfl ⟨12, _, rfl, rfl, rfl⟩ rfl (fun v' h' hv => ?_)
  obtain ⟨rfl, J1, rfl, h1⟩ := hv
  rw [hT, Cf.nb h] at h1
  have eT1 : J1 426 = T := (Rd.T h1).trans hT
  have good : ∀ (k : Nat) (x : Int32), nI k = stF x → 0 = snF x → k < 100 → kd T e b = 1 → ((isWd T e b 22 = true ∧ x = 1007) ∨ (isWd T e b 22 = false ∧ isWd T e b 23 = true ∧ x = 1008)) → AW S m_X12_readTag 17 (fun v h' => ∃ z x J p', v = some (.int (bI z)) ∧ h' = hp J L w1 w2 t ∧ (z = true → ((isWd T e b 22 = true ∧ x = 1007) ∨ (isWd T e b 22 = false ∧ isWd T e b 23 = true ∧ x = 1008)) ∧ Cf T e n0 (nx T e b) (x :: o) I J p') ∧ (z = false → (isWd T e b 22 = false ∧ isWd T e b 23 = false) ∧ Cf T e n0 b o I J p')) nX 0 0 33 [some (.ref 420), none] [.int (nI k)] (hp J1 L w1 w2 t) := by
    intro k x hk1 hk2 hk k1 hx
    have C1 : Cf T e n0 (nx T e b) o I J1 (rn T e 1 b) := Cf.rd h h1 (by rw [← en_1 k1]; rfl)
    refine a_s1 rfl rfl rfl rfl rfl rfl ?_
    refine a_l1 rfl rfl rfl ?_
    refine a_if_lt rfl (fun c => absurd c (nI_pos (by omega))) (fun _ => ?_)
    refine a_l0 rfl rfl rfl ?_
    refine a_l1 rfl rfl rfl ?_
    refine a_s rfl rfl ?_
    refine a_eV0 rfl lX12_180 mo_X12_emits (r_X12_emits (Cf.st C1) (by omega)) rfl rfl rfl ⟨12, _, rfl, rfl, rfl⟩ rfl ?_
    refine a_goto rfl ?_
    refine a_l1 rfl rfl rfl ?_
    refine a_if_lt rfl (fun c => absurd c (nI_pos (by omega))) (fun _ => ?_)
    refine a_s rfl rfl ?_
    refine a_goto rfl ?_
    exact a_zret rfl rfl rfl ⟨true, x, _, _, rfl, rfl, fun _ => ⟨hx, Cf.em C1 hk1 hk2⟩, fun z => by cases z⟩
  refine a_l0 rfl rfl rfl ?_
  refine a_ldcs (q := 130 + 22) rfl (hw.ld (i := 22) (by decide)) ?_
  refine a_eV1 rfl lX12_109 mo_X12_isWord (h_isWord (k := 22) hw (by decide) (Rd.be h1) (Rd.bp h1) (Rd.pp h1)) rfl rfl rfl ⟨12, _, rfl, rfl, rfl⟩ rfl ?_
  obtain ⟨z22, c22⟩ : ∃ z, isWd T e b 22 = z := ⟨_, rfl⟩
  refine a_top (y := bI z22) (by rw [eT1]; exact congrArg bI ((isW_wd (by decide)).trans c22)) ?_
  cases z22 with
  | true =>
    refine a_if_eq rfl (fun z => absurd z (by decide)) (fun _ => ?_)
    refine a_s rfl rfl ?_
    refine a_goto rfl ?_
    exact good 7 1007 (by decide) (by decide) (by decide) (of_decide_eq_true c22).1 (Or.inl ⟨c22, rfl⟩)
  | false =>
  refine a_if_eq rfl (fun _ => ?_) (fun z => absurd rfl z)
  refine a_l0 rfl rfl rfl ?_
  refine a_ldcs (q := 130 + 23) rfl (hw.ld (i := 23) (by decide)) ?_
  refine a_eV1 rfl lX12_109 mo_X12_isWord (h_isWord (k := 23) hw (by decide) (Rd.be h1) (Rd.bp h1) (Rd.pp h1)) rfl rfl rfl ⟨12, _, rfl, rfl, rfl⟩ rfl ?_
  obtain ⟨z23, c23⟩ : ∃ z, isWd T e b 23 = z := ⟨_, rfl⟩
  refine a_top (y := bI z23) (by rw [eT1]; exact congrArg bI ((isW_wd (by decide)).trans c23)) ?_
  cases z23 with
  | true =>
    refine a_if_eq rfl (fun z => absurd z (by decide)) (fun _ => ?_)
    refine a_s rfl rfl ?_
    refine a_goto rfl ?_
    exact good 8 1008 (by decide) (by decide) (by decide) (of_decide_eq_true c23).1 (Or.inr ⟨c22, c23, rfl⟩)
  | false =>
  refine a_if_eq rfl (fun _ => ?_) (fun z => absurd rfl z)
  refine a_s rfl rfl ?_
  refine a_s1 rfl rfl rfl rfl rfl rfl ?_
  refine a_l1 rfl rfl rfl ?_
  refine a_if_lt rfl (fun _ => ?_) (fun c => absurd (by decide) c)
  refine a_l0 rfl rfl rfl ?_
  refine a_l0 rfl rfl rfl ?_
  refine a_geti rfl gfX12_91_12 rfl ?_
  refine a_top (y := nI b) (Rd.be h1) ?_
  refine a_puti rfl pfX12_81_12 rfl ?_
  refine a_l1 rfl rfl rfl ?_
  refine a_if_lt rfl (fun _ => ?_) (fun c => absurd (by decide) c)
  refine a_s rfl rfl ?_
  exact a_zret rfl rfl rfl ⟨false, 0, _, b, rfl, rfl, (fun z => by cases z), fun _ => ⟨⟨c22, c23⟩, Cf.rd h (Rd.rs h1) (Cf.sk h)⟩⟩
theorem seqP_of {item : Nat → List Int32 → PR} {k : Nat} {op : Int32} {z : Bool} {b1 : Nat} {o1 : List Int32} (hr : item b o = (z, b1, o1)) : seqP T e item k op b o = if z = true then loopP T e item k op b1 o1 else (false, b1, []) := by
  unfold seqP
  rw [hr]
theorem atomR_p {D : Nat} {z : Bool} {b1 : Nat} {o1 : List Int32} (h : sg T e b 40 = true) (hr : cndP T e (atomR T e D) (nx T e b) o = (z, b1, o1)) : atomR T e (D + 1) b o = if z = true then (if sg T e b1 41 = true then (true, nx T e b1, o1) else (false, b1, [])) else (false, b1, []) := by
  unfold atomR
  rw [if_pos h, hr]
theorem atomR_n {D : Nat} {z : Bool} {b1 : Nat} {o1 : List Int32} (h : sg T e b 40 = false) (h2 : isWd T e b 21 = true) (hr : atomR T e D (nx T e b) o = (z, b1, o1)) : atomR T e (D + 1) b o = if z = true then (true, b1, 2003 :: o1) else (false, b1, []) := by
  rw [show atomR T e (D + 1) b o = (if (atomR T e D (nx T e b) o).1 = true then (true, (atomR T e D (nx T e b) o).2.1, 2003 :: (atomR T e D (nx T e b) o).2.2) else (false, (atomR T e D (nx T e b) o).2.1, [])) from (if_neg (by rw [h]; decide)).trans (if_pos h2), hr]
theorem atomR_b {D : Nat} (h : sg T e b 40 = false) (h2 : isWd T e b 21 = false) : atomR T e D b o = baseP T e b o := by
  cases D with
  | zero =>
    unfold atomR
    rw [if_neg (by unfold opn; rw [h, h2]; decide)]
  | succ D =>
    unfold atomR
    rw [if_neg (by rw [h]; decide), if_neg (by rw [h2]; decide)]
theorem atomR_0 (h : opn T e b = true) : atomR T e 0 b o = (false, b, []) := by
  unfold atomR
  rw [if_pos h]

theorem h_readAtom_6 (hw : WdS S) (hbt : BtT T) (hT : I 426 = T) (hd : I 420 13 = nI 6) (h : Cf T e n0 b o I I p) (hB : o.length < b) : Sp S m_X12_readAtom 20 0 0 [.ref 420] (hp I L w1 w2 t) (QF T e n0 (atomR T e 0 b o) I L w1 w2 t) nX := by
  have he4 := Cf.e4 h
  have hbe := Cf.le h
  refine Sp_of ok_X12_readAtom rfl rfl ?_
  show AW S m_X12_readAtom 20 _ _ 0 0 0 [some (.ref 420), none] [] (hp I L w1 w2 t)
  refine a_l0 rfl rfl rfl ?_
  refine a_s rfl rfl ?_
  refine a_gV rfl lX12_187 mo_X12_sign (h_sign (b := b) (c := 40) (by rw [hT]; exact hbt) (by decide) (Cf.pp h) (by rw [hT]; exact Cf.nb h)) rfl rfl rfl ⟨12, _, rfl, rfl, rfl⟩ rfl (fun v' h' hv => ?_)
  obtain ⟨rfl, J1, rfl, h1⟩ := hv
  rw [hT] at h1 ⊢
  cases c40 : sg T e b (nI 40) with
  | true =>
    have c40 : sg T e b 40 = true := c40
    refine a_if_eq rfl (fun z => absurd z (by decide)) (fun _ => ?_)
    rw [if_pos (show sg T e b (nI 40) = true from c40)] at h1
    have n1 := nx_lt (T := T) (sg_lt c40)
    have C1 : Cf T e n0 (nx T e b) o I J1 (en T e b) := Cf.rd h h1 rfl
    refine a_l0 rfl rfl rfl ?_
    refine a_geti rfl gfX12_194_12 rfl ?_
    refine a_top (y := nI 6) (Cf.d C1 hd) ?_
    refine a_s rfl rfl ?_
    refine a_ic_ne rfl (fun c => absurd rfl c) (fun _ => ?_)
    refine a_s rfl rfl ?_
    rw [atomR_0 (by unfold opn; rw [c40]; exact Bool.or_true _)]
    exact a_zret rfl rfl rfl (QF.no C1.1 (Rd.be h1))
  | false =>
  have c40 : sg T e b 40 = false := c40
  refine a_if_eq rfl (fun _ => ?_) (fun z => absurd rfl z)
  rw [if_neg (by rw [show sg T e b (nI 40) = false from c40]; decide)] at h1
  have C0 : Cf T e n0 b o I J1 b := Cf.rd h h1 (Cf.sk h)
  have eT0 := Cf.tt C0 hT
  refine a_l0 rfl rfl rfl ?_
  refine a_ldcs (q := 130 + 21) rfl (hw.ld (i := 21) (by decide)) ?_
  refine a_gV rfl lX12_128 mo_X12_passes (h_passes (b := b) (k := 21) hw (by decide) (Cf.pp C0) (by rw [eT0]; exact Cf.nb C0)) rfl rfl rfl ⟨12, _, rfl, rfl, rfl⟩ rfl (fun v' h' hv => ?_)
  obtain ⟨rfl, J2, rfl, h2⟩ := hv
  rw [eT0] at h2 ⊢
  cases c21 : isWd T e b 21 with
  | true =>
    refine a_if_eq rfl (fun z => absurd z (by decide)) (fun _ => ?_)
    rw [if_pos c21] at h2
    have n1 := nx_lt (T := T) (isWd_lt c21)
    have C2 : Cf T e n0 (nx T e b) o I J2 (en T e b) := Cf.rd C0 h2 rfl
    refine a_l0 rfl rfl rfl ?_
    refine a_geti rfl gfX12_194_12 rfl ?_
    refine a_top (y := nI 6) (Cf.d C2 hd) ?_
    refine a_s rfl rfl ?_
    refine a_ic_ne rfl (fun c => absurd rfl c) (fun _ => ?_)
    refine a_s rfl rfl ?_
    rw [atomR_0 (by unfold opn; rw [c21]; exact Bool.true_or _)]
    exact a_zret rfl rfl rfl (QF.no C2.1 (Rd.be h2))
  | false =>
  refine a_if_eq rfl (fun _ => ?_) (fun z => absurd rfl z)
  rw [if_neg (by rw [c21]; decide)] at h2
  have C2 : Cf T e n0 b o I J2 b := Cf.rd C0 h2 (Cf.sk C0)
  rw [atomR_b c40 c21]
  refine a_l0 rfl rfl rfl ?_
  refine a_gV rfl lX12_205 mo_X12_readTag (h_readTag hw (Cf.tt C2 hT) (Cf.rf C2) hB) rfl rfl rfl ⟨12, _, rfl, rfl, rfl⟩ rfl (fun v' h' hv => ?_)
  obtain ⟨z3, x3, J3, p3, rfl, rfl, ht3, hf3⟩ := hv
  cases z3 with
  | true =>
    refine a_if_eq rfl (fun z => absurd z (by decide)) (fun _ => ?_)
    refine a_s rfl rfl ?_
    obtain ⟨hx, D3⟩ := ht3 rfl
    rcases hx with ⟨c22, rfl⟩ | ⟨c22, c23, rfl⟩
    · rw [show baseP T e b o = (true, nx T e b, 1007 :: o) from if_pos c22]
      exact a_zret rfl rfl rfl (QF.yes (Cf.cc C2 D3))
    · rw [show baseP T e b o = (true, nx T e b, 1008 :: o) from (if_neg (by rw [c22]; decide)).trans (if_pos c23)]
      exact a_zret rfl rfl rfl (QF.yes (Cf.cc C2 D3))
  | false =>
  refine a_if_eq rfl (fun _ => ?_) (fun z => absurd rfl z)
  obtain ⟨⟨c22, c23⟩, D3⟩ := hf3 rfl
  have C3 := Cf.cc C2 D3
  have g4 := sumP_gd (T := T) (o := o) hbe
  refine a_l0 rfl rfl rfl ?_
  refine a_gV rfl lX12_208 mo_X12_readSum (h_readSum hw hbt (Cf.tt C3 hT) (Cf.rf C3) hB) rfl rfl rfl ⟨12, _, rfl, rfl, rfl⟩ rfl (fun v' h' hv => ?_)
  obtain ⟨rfl, J4, p4, rfl, hz4, hf4⟩ := hv
  rcases hr4 : sumP T e b o with ⟨z4, b4, o4⟩
  rw [baseP_s c22 c23 hr4]
  rw [hr4] at hz4 hf4 g4
  cases z4 with
  | false =>
    refine a_if_ne rfl (fun z => absurd rfl z) (fun _ => ?_)
    refine a_s rfl rfl ?_
    rw [if_neg (by decide)]
    exact a_zret rfl rfl rfl (Cf.no C3 (hf4 rfl).1 (hf4 rfl).2)
  | true =>
  refine a_if_ne rfl (fun _ => ?_) (fun z => absurd (show (1 : Int32) = 0 from z) (by decide))
  rw [if_pos rfl]
  have C4 : Cf T e n0 b4 o4 I J4 p4 := Cf.cc C3 (hz4 rfl)
  obtain ⟨-, -, g4⟩ := g4
  have g4 : b < b4 ∧ o4.length + b ≤ o.length + b4 := g4 rfl
  have key : ∀ {z5 : Bool} {x : Int32} {p' : Nat} {J : Nat → Nat → Int32}, b4 < nx T e b4 → x = (if z5 = true then 2001 else 2002) → Cf T e n0 (nx T e b4) o4 I J p' → AW S m_X12_readAtom 20 (QF T e n0 (cmpP T e x (nx T e b4) o4) I L w1 w2 t) nX 0 0 152 [some (.ref 420), some (.int (bI z5))] [] (hp J L w1 w2 t) := by
    intro z5 x p' J n4 hx C
    have g6 := sumP_gd (T := T) (o := o4) (Cf.le C)
    refine a_l0 rfl rfl rfl ?_
    refine a_gV rfl lX12_208 mo_X12_readSum (h_readSum hw hbt (Cf.tt C hT) (Cf.rf C) (by omega)) rfl rfl rfl ⟨12, _, rfl, rfl, rfl⟩ rfl (fun v' h' hv => ?_)
    obtain ⟨rfl, J6, p6, rfl, hz6, hf6⟩ := hv
    rcases hr6 : sumP T e (nx T e b4) o4 with ⟨z6, b6, o6⟩
    rw [hr6] at hz6 hf6 g6
    cases z6 with
    | false =>
      refine a_if_ne rfl (fun z => absurd rfl z) (fun _ => ?_)
      refine a_s rfl rfl ?_
      rw [cmpP_f hr6]
      exact a_zret rfl rfl rfl (Cf.no C (hf6 rfl).1 (hf6 rfl).2)
    | true =>
      refine a_if_ne rfl (fun _ => ?_) (fun z => absurd (show (1 : Int32) = 0 from z) (by decide))
      rw [cmpP_t hr6]
      have C6 : Cf T e n0 b6 o6 I J6 p6 := Cf.cc C (hz6 rfl)
      have c6e := Cf.le C6
      obtain ⟨-, -, g6⟩ := g6
      have g6 : nx T e b4 < b6 ∧ o6.length + nx T e b4 ≤ o4.length + b6 := g6 rfl
      refine a_l0 rfl rfl rfl ?_
      refine a_l1 rfl rfl rfl ?_
      cases z5 with
      | false =>
        rw [if_neg (by decide)] at hx
        subst hx
        refine a_if_eq rfl (fun _ => ?_) (fun c => absurd rfl c)
        refine a_s rfl rfl ?_
        refine a_s rfl rfl ?_
        refine a_eV0 rfl lX12_180 mo_X12_emits (r_X12_emits (Cf.st C6) (by omega)) rfl rfl rfl ⟨12, _, rfl, rfl, rfl⟩ rfl ?_
        refine a_s rfl rfl ?_
        exact a_zret rfl rfl rfl (QF.yes (Cf.em (z := 2002) C6 (by decide) (by decide)))
      | true =>
        rw [if_pos rfl] at hx
        subst hx
        refine a_if_eq rfl (fun c => absurd c (by decide)) (fun _ => ?_)
        refine a_s rfl rfl ?_
        refine a_goto rfl ?_
        refine a_s rfl rfl ?_
        refine a_eV0 rfl lX12_180 mo_X12_emits (r_X12_emits (Cf.st C6) (by omega)) rfl rfl rfl ⟨12, _, rfl, rfl, rfl⟩ rfl ?_
        refine a_s rfl rfl ?_
        exact a_zret rfl rfl rfl (QF.yes (Cf.em (z := 2001) C6 (by decide) (by decide)))
  have eT4 := Cf.tt C4 hT
  refine a_l0 rfl rfl rfl ?_
  refine a_s rfl rfl ?_
  refine a_gV rfl lX12_187 mo_X12_sign (h_sign (b := b4) (c := 60) (by rw [eT4]; exact hbt) (by decide) (Cf.pp C4) (by rw [eT4]; exact Cf.nb C4)) rfl rfl rfl ⟨12, _, rfl, rfl, rfl⟩ rfl (fun v' h' hv => ?_)
  obtain ⟨rfl, J5, rfl, h5⟩ := hv
  rw [eT4] at h5 ⊢
  refine a_s1 rfl rfl rfl rfl rfl rfl ?_
  refine a_l1 rfl rfl rfl ?_
  cases c60 : sg T e b4 (nI 60) with
  | true =>
    have c60 : sg T e b4 60 = true := c60
    refine a_if_ne rfl (fun _ => ?_) (fun z => absurd (show (1 : Int32) = 0 from z) (by decide))
    rw [if_pos (show sg T e b4 (nI 60) = true from c60)] at h5
    rw [if_pos c60]
    exact key (z5 := true) (nx_lt (sg_lt c60)) rfl (Cf.rd C4 h5 rfl)
  | false =>
  have c60 : sg T e b4 60 = false := c60
  refine a_if_ne rfl (fun z => absurd rfl z) (fun _ => ?_)
  rw [if_neg (by rw [show sg T e b4 (nI 60) = false from c60]; decide)] at h5
  rw [if_neg (by rw [c60]; decide)]
  have C5 : Cf T e n0 b4 o4 I J5 b4 := Cf.rd C4 h5 (Cf.sk C4)
  have eT5 := Cf.tt C5 hT
  refine a_l0 rfl rfl rfl ?_
  refine a_s rfl rfl ?_
  refine a_gV rfl lX12_187 mo_X12_sign (h_sign (b := b4) (c := 62) (by rw [eT5]; exact hbt) (by decide) (Cf.pp C5) (by rw [eT5]; exact Cf.nb C5)) rfl rfl rfl ⟨12, _, rfl, rfl, rfl⟩ rfl (fun v' h' hv => ?_)
  obtain ⟨rfl, J7, rfl, h7⟩ := hv
  rw [eT5] at h7 ⊢
  cases c62 : sg T e b4 (nI 62) with
  | false =>
    have c62 : sg T e b4 62 = false := c62
    refine a_if_eq rfl (fun _ => ?_) (fun z => absurd rfl z)
    rw [if_neg (by rw [show sg T e b4 (nI 62) = false from c62]; decide)] at h7
    rw [if_neg (by rw [c62]; decide)]
    refine a_s rfl rfl ?_
    exact a_zret rfl rfl rfl (QF.no (Fm.tr C5.1 (Fm.mo (Rd.fm h7) sR_sY)) (Rd.be h7))
  | true =>
    have c62 : sg T e b4 62 = true := c62
    refine a_if_eq rfl (fun z => absurd z (by decide)) (fun _ => ?_)
    rw [if_pos (show sg T e b4 (nI 62) = true from c62)] at h7
    rw [if_pos c62]
    exact key (z5 := false) (nx_lt (sg_lt c62)) rfl (Cf.rd C5 h7 rfl)
theorem h_readAllOf_6 (hw : WdS S) (hbt : BtT T) (hT : I 426 = T) (hd : I 420 13 = nI 6) (h : Cf T e n0 b o I I p) (hB : o.length < b) : Sp S m_X12_readAllOf 21 0 0 [.ref 420] (hp I L w1 w2 t) (QF T e n0 (seqP T e (atomR T e 0) 20 2004 b o) I L w1 w2 t) nX := by
  have he4 := Cf.e4 h
  have g0 := atomR_gdo (T := T) (D := 0) (o := o) (Cf.le h)
  refine Sp_of ok_X12_readAllOf rfl rfl ?_
  show AW S m_X12_readAllOf 21 _ _ 0 0 0 [some (.ref 420)] [] (hp I L w1 w2 t)
  refine a_l0 rfl rfl rfl ?_
  refine a_gV rfl lX12_202 mo_X12_readAtom (h_readAtom_6 hw hbt hT hd h hB) rfl rfl rfl ⟨12, _, rfl, rfl, rfl⟩ rfl (fun v' h' hv => ?_)
  obtain ⟨rfl, J1, p1, rfl, hz1, hf1⟩ := hv
  rcases hr : (atomR T e 0) b o with ⟨z, b1, o1⟩
  rw [seqP_of hr]
  rw [hr] at hz1 hf1 g0
  cases z with
  | false =>
    refine a_if_ne rfl (fun z => absurd rfl z) (fun _ => ?_)
    refine a_s rfl rfl ?_
    rw [if_neg (by decide)]
    exact a_zret rfl rfl rfl (QF.no (hf1 rfl).1 (hf1 rfl).2)
  | true =>
  refine a_if_ne rfl (fun _ => ?_) (fun z => absurd (show (1 : Int32) = 0 from z) (by decide))
  rw [if_pos rfl]
  obtain ⟨-, -, g3⟩ := g0
  have g3 : b < b1 ∧ o1.length + b ≤ o.length + b1 := g3 rfl
  generalize hR : loopP T e (atomR T e 0) 20 2004 b1 o1 = R
  refine a_inv (n := e - b1) (fun m ls h => ls = [some (.ref 420)] ∧ ∃ J p' b' o', h = hp J L w1 w2 t ∧ Cf T e n0 b' o' I J p' ∧ o'.length < b' ∧ loopP T e (atomR T e 0) 20 2004 b' o' = R ∧ m = e - b') ⟨rfl, J1, p1, _, _, rfl, hz1 rfl, by show o1.length < b1; omega, hR, rfl⟩ ?_
  rintro m _ _ ⟨rfl, J, p', b', o', rfl, C, hB', es, hm⟩ ih
  have eT := Cf.tt C hT
  refine a_l0 rfl rfl rfl ?_
  refine a_ldcs (q := 130 + 20) rfl (hw.ld (i := 20) (by decide)) ?_
  refine a_gV rfl lX12_128 mo_X12_passes (h_passes (b := b') (k := 20) hw (by decide) (Cf.pp C) (by rw [eT]; exact Cf.nb C)) rfl rfl rfl ⟨12, _, rfl, rfl, rfl⟩ rfl (fun v' h' hv => ?_)
  obtain ⟨rfl, J2, rfl, h2⟩ := hv
  rw [eT] at h2 ⊢
  cases cw : isWd T e b' 20 with
  | false =>
    refine a_if_eq rfl (fun _ => ?_) (fun z => absurd rfl z)
    rw [if_neg (by rw [cw]; decide)] at h2
    refine a_s rfl rfl ?_
    rw [← es, loopP_f cw]
    exact a_zret rfl rfl rfl (QF.yes (Cf.rd C h2 (Cf.sk C)))
  | true =>
    refine a_if_eq rfl (fun z => absurd z (by decide)) (fun _ => ?_)
    rw [if_pos cw] at h2
    have n2 := nx_lt (T := T) (isWd_lt cw)
    have C2 : Cf T e n0 (nx T e b') o' I J2 (en T e b') := Cf.rd C h2 rfl
    have n2e := Cf.le C2
    have g4 := atomR_gdo (T := T) (D := 0) (o := o') n2e
    refine a_l0 rfl rfl rfl ?_
    refine a_gV rfl lX12_202 mo_X12_readAtom (h_readAtom_6 hw hbt (Cf.tt C2 hT) (Cf.d C2 hd) (Cf.rf C2) (by omega)) rfl rfl rfl ⟨12, _, rfl, rfl, rfl⟩ rfl (fun v' h' hv => ?_)
    obtain ⟨rfl, J3, p3, rfl, hz3, hf3⟩ := hv
    have el := fun g => loopP_t (op := 2004) (o := o') (item := atomR T e 0) cw g
    have en' := loopP_n (op := 2004) (o := o') (item := atomR T e 0) cw
    rcases hr2 : (atomR T e 0) (nx T e b') o' with ⟨z2, b2, o2⟩
    rw [hr2] at hz3 hf3 g4 el en'
    cases z2 with
    | false =>
      refine a_if_ne rfl (fun z => absurd rfl z) (fun _ => ?_)
      refine a_s rfl rfl ?_
      rw [← es, en' Bool.false_ne_true]
      exact a_zret rfl rfl rfl (Cf.no C2 (hf3 rfl).1 (hf3 rfl).2)
    | true =>
      refine a_if_ne rfl (fun _ => ?_) (fun z => absurd (show (1 : Int32) = 0 from z) (by decide))
      have C3 : Cf T e n0 b2 o2 I J3 p3 := Cf.cc C2 (hz3 rfl)
      have c3e := Cf.le C3
      obtain ⟨-, -, g5⟩ := g4
      have g5 : nx T e b' < b2 ∧ o2.length + nx T e b' ≤ o'.length + b2 := g5 rfl
      have es2 : loopP T e (atomR T e 0) 20 2004 b2 (2004 :: o2) = R := (el (by show b' < b2; omega) rfl).symm.trans es
      refine a_l0 rfl rfl rfl ?_
      refine a_s rfl rfl ?_
      refine a_s rfl rfl ?_
      refine a_eV0 rfl lX12_180 mo_X12_emits (r_X12_emits (Cf.st C3) (by omega)) rfl rfl rfl ⟨12, _, rfl, rfl, rfl⟩ rfl ?_
      refine a_goto rfl ?_
      exact ih (e - b2) _ _ (by omega) ⟨rfl, _, p3, b2, _, rfl, Cf.em (z := 2004) C3 (by decide) (by decide), by show o2.length + 1 < b2; omega, es2, rfl⟩
theorem h_readCond_6 (hw : WdS S) (hbt : BtT T) (hT : I 426 = T) (hd : I 420 13 = nI 6) (h : Cf T e n0 b o I I p) (hB : o.length < b) : Sp S m_X12_readCond 22 0 0 [.ref 420] (hp I L w1 w2 t) (QF T e n0 (seqP T e (seqP T e (atomR T e 0) 20 2004) 19 2005 b o) I L w1 w2 t) nX := by
  have he4 := Cf.e4 h
  have g0 := seqA_gd (T := T) (D := 0) (o := o) (Cf.le h)
  refine Sp_of ok_X12_readCond rfl rfl ?_
  show AW S m_X12_readCond 22 _ _ 0 0 0 [some (.ref 420)] [] (hp I L w1 w2 t)
  refine a_l0 rfl rfl rfl ?_
  refine a_gV rfl lX12_213 mo_X12_readAllOf (h_readAllOf_6 hw hbt hT hd h hB) rfl rfl rfl ⟨12, _, rfl, rfl, rfl⟩ rfl (fun v' h' hv => ?_)
  obtain ⟨rfl, J1, p1, rfl, hz1, hf1⟩ := hv
  rcases hr : (seqP T e (atomR T e 0) 20 2004) b o with ⟨z, b1, o1⟩
  rw [seqP_of hr]
  rw [hr] at hz1 hf1 g0
  cases z with
  | false =>
    refine a_if_ne rfl (fun z => absurd rfl z) (fun _ => ?_)
    refine a_s rfl rfl ?_
    rw [if_neg (by decide)]
    exact a_zret rfl rfl rfl (QF.no (hf1 rfl).1 (hf1 rfl).2)
  | true =>
  refine a_if_ne rfl (fun _ => ?_) (fun z => absurd (show (1 : Int32) = 0 from z) (by decide))
  rw [if_pos rfl]
  obtain ⟨-, -, g3⟩ := g0
  have g3 : b < b1 ∧ o1.length + b ≤ o.length + b1 := g3 rfl
  generalize hR : loopP T e (seqP T e (atomR T e 0) 20 2004) 19 2005 b1 o1 = R
  refine a_inv (n := e - b1) (fun m ls h => ls = [some (.ref 420)] ∧ ∃ J p' b' o', h = hp J L w1 w2 t ∧ Cf T e n0 b' o' I J p' ∧ o'.length < b' ∧ loopP T e (seqP T e (atomR T e 0) 20 2004) 19 2005 b' o' = R ∧ m = e - b') ⟨rfl, J1, p1, _, _, rfl, hz1 rfl, by show o1.length < b1; omega, hR, rfl⟩ ?_
  rintro m _ _ ⟨rfl, J, p', b', o', rfl, C, hB', es, hm⟩ ih
  have eT := Cf.tt C hT
  refine a_l0 rfl rfl rfl ?_
  refine a_ldcs (q := 130 + 19) rfl (hw.ld (i := 19) (by decide)) ?_
  refine a_gV rfl lX12_128 mo_X12_passes (h_passes (b := b') (k := 19) hw (by decide) (Cf.pp C) (by rw [eT]; exact Cf.nb C)) rfl rfl rfl ⟨12, _, rfl, rfl, rfl⟩ rfl (fun v' h' hv => ?_)
  obtain ⟨rfl, J2, rfl, h2⟩ := hv
  rw [eT] at h2 ⊢
  cases cw : isWd T e b' 19 with
  | false =>
    refine a_if_eq rfl (fun _ => ?_) (fun z => absurd rfl z)
    rw [if_neg (by rw [cw]; decide)] at h2
    refine a_s rfl rfl ?_
    rw [← es, loopP_f cw]
    exact a_zret rfl rfl rfl (QF.yes (Cf.rd C h2 (Cf.sk C)))
  | true =>
    refine a_if_eq rfl (fun z => absurd z (by decide)) (fun _ => ?_)
    rw [if_pos cw] at h2
    have n2 := nx_lt (T := T) (isWd_lt cw)
    have C2 : Cf T e n0 (nx T e b') o' I J2 (en T e b') := Cf.rd C h2 rfl
    have n2e := Cf.le C2
    have g4 := seqA_gd (T := T) (D := 0) (o := o') n2e
    refine a_l0 rfl rfl rfl ?_
    refine a_gV rfl lX12_213 mo_X12_readAllOf (h_readAllOf_6 hw hbt (Cf.tt C2 hT) (Cf.d C2 hd) (Cf.rf C2) (by omega)) rfl rfl rfl ⟨12, _, rfl, rfl, rfl⟩ rfl (fun v' h' hv => ?_)
    obtain ⟨rfl, J3, p3, rfl, hz3, hf3⟩ := hv
    have el := fun g => loopP_t (op := 2005) (o := o') (item := seqP T e (atomR T e 0) 20 2004) cw g
    have en' := loopP_n (op := 2005) (o := o') (item := seqP T e (atomR T e 0) 20 2004) cw
    rcases hr2 : (seqP T e (atomR T e 0) 20 2004) (nx T e b') o' with ⟨z2, b2, o2⟩
    rw [hr2] at hz3 hf3 g4 el en'
    cases z2 with
    | false =>
      refine a_if_ne rfl (fun z => absurd rfl z) (fun _ => ?_)
      refine a_s rfl rfl ?_
      rw [← es, en' Bool.false_ne_true]
      exact a_zret rfl rfl rfl (Cf.no C2 (hf3 rfl).1 (hf3 rfl).2)
    | true =>
      refine a_if_ne rfl (fun _ => ?_) (fun z => absurd (show (1 : Int32) = 0 from z) (by decide))
      have C3 : Cf T e n0 b2 o2 I J3 p3 := Cf.cc C2 (hz3 rfl)
      have c3e := Cf.le C3
      obtain ⟨-, -, g5⟩ := g4
      have g5 : nx T e b' < b2 ∧ o2.length + nx T e b' ≤ o'.length + b2 := g5 rfl
      have es2 : loopP T e (seqP T e (atomR T e 0) 20 2004) 19 2005 b2 (2005 :: o2) = R := (el (by show b' < b2; omega) rfl).symm.trans es
      refine a_l0 rfl rfl rfl ?_
      refine a_s rfl rfl ?_
      refine a_s rfl rfl ?_
      refine a_eV0 rfl lX12_180 mo_X12_emits (r_X12_emits (Cf.st C3) (by omega)) rfl rfl rfl ⟨12, _, rfl, rfl, rfl⟩ rfl ?_
      refine a_goto rfl ?_
      exact ih (e - b2) _ _ (by omega) ⟨rfl, _, p3, b2, _, rfl, Cf.em (z := 2005) C3 (by decide) (by decide), by show o2.length + 1 < b2; omega, es2, rfl⟩
theorem h_readAtom_5 (hw : WdS S) (hbt : BtT T) (hT : I 426 = T) (hd : I 420 13 = nI 5) (h : Cf T e n0 b o I I p) (hB : o.length < b) : Sp S m_X12_readAtom 23 0 0 [.ref 420] (hp I L w1 w2 t) (QF T e n0 (atomR T e 1 b o) I L w1 w2 t) nX := by
  have he4 := Cf.e4 h
  have hbe := Cf.le h
  refine Sp_of ok_X12_readAtom rfl rfl ?_
  show AW S m_X12_readAtom 23 _ _ 0 0 0 [some (.ref 420), none] [] (hp I L w1 w2 t)
  refine a_l0 rfl rfl rfl ?_
  refine a_s rfl rfl ?_
  refine a_gV rfl lX12_187 mo_X12_sign (h_sign (b := b) (c := 40) (by rw [hT]; exact hbt) (by decide) (Cf.pp h) (by rw [hT]; exact Cf.nb h)) rfl rfl rfl ⟨12, _, rfl, rfl, rfl⟩ rfl (fun v' h' hv => ?_)
  obtain ⟨rfl, J1, rfl, h1⟩ := hv
  rw [hT] at h1 ⊢
  cases c40 : sg T e b (nI 40) with
  | true =>
    have c40 : sg T e b 40 = true := c40
    refine a_if_eq rfl (fun z => absurd z (by decide)) (fun _ => ?_)
    rw [if_pos (show sg T e b (nI 40) = true from c40)] at h1
    have n1 := nx_lt (T := T) (sg_lt c40)
    have C1 : Cf T e n0 (nx T e b) o I J1 (en T e b) := Cf.rd h h1 rfl
    refine a_l0 rfl rfl rfl ?_
    refine a_geti rfl gfX12_194_12 rfl ?_
    refine a_top (y := nI 5) (Cf.d C1 hd) ?_
    refine a_s rfl rfl ?_
    refine a_ic_ne rfl (fun _ => ?_) (fun c => absurd c (by decide))
    refine a_l0 rfl rfl rfl ?_
    refine a_s rfl rfl ?_
    refine a_geti rfl gfX12_194_12 rfl ?_
    refine a_top (y := nI 5) (Cf.d C1 hd) ?_
    refine a_s rfl rfl ?_
    refine a_s rfl rfl ?_
    refine a_top (y := nI 6) (rfl) ?_
    refine a_puti rfl pfX12_194_12 rfl ?_
    refine a_l0 rfl rfl rfl ?_
    have g4 := cndP_gd (T := T) (fun b o h => atomR_gd (T := T) 0 b o h) (o := o) (Cf.le C1)
    refine a_gV rfl lX12_197 mo_X12_readCond (h_readCond_6 hw hbt ((up2_row (by decide)).trans (Cf.tt C1 hT)) up2_at (Cf.up13 C1) (by omega)) rfl rfl rfl ⟨12, _, rfl, rfl, rfl⟩ rfl (fun v' h' hv => ?_)
    obtain ⟨rfl, J9, p9, rfl, hz9, hf9⟩ := hv
    rw [show seqP T e (seqP T e (atomR T e 0) 20 2004) 19 2005 = cndP T e (atomR T e 0) from rfl] at hz9 hf9 ⊢
    rcases hr9 : cndP T e (atomR T e 0) (nx T e b) o with ⟨z9, b9, o9⟩
    rw [hr9] at hz9 hf9 g4
    rw [atomR_p c40 hr9]
    cases z9 with
    | false =>
      refine a_if_ne rfl (fun z => absurd rfl z) (fun _ => ?_)
      refine a_s rfl rfl ?_
      rw [if_neg (by decide)]
      exact a_zret rfl rfl rfl (QF.no (Fm.tr C1.1 (Fm.tr (Fm.up Fm.rf rfl) (hf9 rfl).1)) (hf9 rfl).2)
    | true =>
      refine a_if_ne rfl (fun _ => ?_) (fun z => absurd (show (1 : Int32) = 0 from z) (by decide))
      rw [if_pos rfl]
      have D9 : Cf T e n0 b9 o9 (up2 J1 420 13 (nI 6)) J9 p9 := hz9 rfl
      refine a_l0 rfl rfl rfl ?_
      refine a_s rfl rfl ?_
      refine a_geti rfl gfX12_194_12 rfl ?_
      refine a_top (y := nI 6) (D9.2.1.trans up2_at) ?_
      refine a_s rfl rfl ?_
      refine a_s rfl rfl ?_
      refine a_top (y := nI 5) (rfl) ?_
      refine a_puti rfl pfX12_194_12 rfl ?_
      have C9 := Cf.deep C1 hd D9
      have eT9 := Cf.tt C9 hT
      refine a_l0 rfl rfl rfl ?_
      refine a_s rfl rfl ?_
      refine a_gV rfl lX12_187 mo_X12_sign (h_sign (b := b9) (c := 41) (by rw [eT9]; exact hbt) (by decide) (Cf.pp C9) (by rw [eT9]; exact Cf.nb C9)) rfl rfl rfl ⟨12, _, rfl, rfl, rfl⟩ rfl (fun v' h' hv => ?_)
      obtain ⟨rfl, J3, rfl, h3⟩ := hv
      rw [eT9] at h3 ⊢
      cases c41 : sg T e b9 (nI 41) with
      | false =>
        have c41 : sg T e b9 41 = false := c41
        rw [if_neg (by rw [show sg T e b9 (nI 41) = false from c41]; decide)] at h3
        rw [if_neg (by rw [c41]; decide)]
        exact a_zret rfl rfl rfl (QF.no (Fm.tr C9.1 (Fm.mo (Rd.fm h3) sR_sY)) (Rd.be h3))
      | true =>
        have c41 : sg T e b9 41 = true := c41
        rw [if_pos (show sg T e b9 (nI 41) = true from c41)] at h3
        rw [if_pos c41]
        exact a_zret rfl rfl rfl (QF.yes (Cf.rd C9 h3 rfl))
  | false =>
  have c40 : sg T e b 40 = false := c40
  refine a_if_eq rfl (fun _ => ?_) (fun z => absurd rfl z)
  rw [if_neg (by rw [show sg T e b (nI 40) = false from c40]; decide)] at h1
  have C0 : Cf T e n0 b o I J1 b := Cf.rd h h1 (Cf.sk h)
  have eT0 := Cf.tt C0 hT
  refine a_l0 rfl rfl rfl ?_
  refine a_ldcs (q := 130 + 21) rfl (hw.ld (i := 21) (by decide)) ?_
  refine a_gV rfl lX12_128 mo_X12_passes (h_passes (b := b) (k := 21) hw (by decide) (Cf.pp C0) (by rw [eT0]; exact Cf.nb C0)) rfl rfl rfl ⟨12, _, rfl, rfl, rfl⟩ rfl (fun v' h' hv => ?_)
  obtain ⟨rfl, J2, rfl, h2⟩ := hv
  rw [eT0] at h2 ⊢
  cases c21 : isWd T e b 21 with
  | true =>
    refine a_if_eq rfl (fun z => absurd z (by decide)) (fun _ => ?_)
    rw [if_pos c21] at h2
    have n1 := nx_lt (T := T) (isWd_lt c21)
    have C2 : Cf T e n0 (nx T e b) o I J2 (en T e b) := Cf.rd C0 h2 rfl
    refine a_l0 rfl rfl rfl ?_
    refine a_geti rfl gfX12_194_12 rfl ?_
    refine a_top (y := nI 5) (Cf.d C2 hd) ?_
    refine a_s rfl rfl ?_
    refine a_ic_ne rfl (fun _ => ?_) (fun c => absurd c (by decide))
    refine a_l0 rfl rfl rfl ?_
    refine a_s rfl rfl ?_
    refine a_geti rfl gfX12_194_12 rfl ?_
    refine a_top (y := nI 5) (Cf.d C2 hd) ?_
    refine a_s rfl rfl ?_
    refine a_s rfl rfl ?_
    refine a_top (y := nI 6) (rfl) ?_
    refine a_puti rfl pfX12_194_12 rfl ?_
    refine a_l0 rfl rfl rfl ?_
    have g4 := atomR_gdo (T := T) (D := 0) (o := o) (Cf.le C2)
    refine a_gV rfl lX12_202 mo_X12_readAtom (h_readAtom_6 hw hbt ((up2_row (by decide)).trans (Cf.tt C2 hT)) up2_at (Cf.up13 C2) (by omega)) rfl rfl rfl ⟨12, _, rfl, rfl, rfl⟩ rfl (fun v' h' hv => ?_)
    obtain ⟨rfl, J9, p9, rfl, hz9, hf9⟩ := hv
    rcases hr9 : atomR T e 0 (nx T e b) o with ⟨z9, b9, o9⟩
    rw [hr9] at hz9 hf9 g4
    rw [atomR_n c40 c21 hr9]
    cases z9 with
    | false =>
      refine a_if_ne rfl (fun z => absurd rfl z) (fun _ => ?_)
      refine a_s rfl rfl ?_
      rw [if_neg (by decide)]
      exact a_zret rfl rfl rfl (QF.no (Fm.tr C2.1 (Fm.tr (Fm.up Fm.rf rfl) (hf9 rfl).1)) (hf9 rfl).2)
    | true =>
      refine a_if_ne rfl (fun _ => ?_) (fun z => absurd (show (1 : Int32) = 0 from z) (by decide))
      rw [if_pos rfl]
      have D9 : Cf T e n0 b9 o9 (up2 J2 420 13 (nI 6)) J9 p9 := hz9 rfl
      obtain ⟨-, -, g5⟩ := g4
      have g5 : nx T e b < b9 ∧ o9.length + nx T e b ≤ o.length + b9 := g5 rfl
      have c9e := Cf.le D9
      refine a_l0 rfl rfl rfl ?_
      refine a_s rfl rfl ?_
      refine a_geti rfl gfX12_194_12 rfl ?_
      refine a_top (y := nI 6) (D9.2.1.trans up2_at) ?_
      refine a_s rfl rfl ?_
      refine a_s rfl rfl ?_
      refine a_top (y := nI 5) (rfl) ?_
      refine a_puti rfl pfX12_194_12 rfl ?_
      have C9 := Cf.deep C2 hd D9
      refine a_l0 rfl rfl rfl ?_
      refine a_s rfl rfl ?_
      refine a_s rfl rfl ?_
      refine a_eV0 rfl lX12_180 mo_X12_emits (r_X12_emits (Cf.st C9) (by omega)) rfl rfl rfl ⟨12, _, rfl, rfl, rfl⟩ rfl ?_
      refine a_s rfl rfl ?_
      exact a_zret rfl rfl rfl (QF.yes (Cf.em (z := 2003) C9 (by decide) (by decide)))
  | false =>
  refine a_if_eq rfl (fun _ => ?_) (fun z => absurd rfl z)
  rw [if_neg (by rw [c21]; decide)] at h2
  have C2 : Cf T e n0 b o I J2 b := Cf.rd C0 h2 (Cf.sk C0)
  rw [atomR_b c40 c21]
  refine a_l0 rfl rfl rfl ?_
  refine a_gV rfl lX12_205 mo_X12_readTag (h_readTag hw (Cf.tt C2 hT) (Cf.rf C2) hB) rfl rfl rfl ⟨12, _, rfl, rfl, rfl⟩ rfl (fun v' h' hv => ?_)
  obtain ⟨z3, x3, J3, p3, rfl, rfl, ht3, hf3⟩ := hv
  cases z3 with
  | true =>
    refine a_if_eq rfl (fun z => absurd z (by decide)) (fun _ => ?_)
    refine a_s rfl rfl ?_
    obtain ⟨hx, D3⟩ := ht3 rfl
    rcases hx with ⟨c22, rfl⟩ | ⟨c22, c23, rfl⟩
    · rw [show baseP T e b o = (true, nx T e b, 1007 :: o) from if_pos c22]
      exact a_zret rfl rfl rfl (QF.yes (Cf.cc C2 D3))
    · rw [show baseP T e b o = (true, nx T e b, 1008 :: o) from (if_neg (by rw [c22]; decide)).trans (if_pos c23)]
      exact a_zret rfl rfl rfl (QF.yes (Cf.cc C2 D3))
  | false =>
  refine a_if_eq rfl (fun _ => ?_) (fun z => absurd rfl z)
  obtain ⟨⟨c22, c23⟩, D3⟩ := hf3 rfl
  have C3 := Cf.cc C2 D3
  have g4 := sumP_gd (T := T) (o := o) hbe
  refine a_l0 rfl rfl rfl ?_
  refine a_gV rfl lX12_208 mo_X12_readSum (h_readSum hw hbt (Cf.tt C3 hT) (Cf.rf C3) hB) rfl rfl rfl ⟨12, _, rfl, rfl, rfl⟩ rfl (fun v' h' hv => ?_)
  obtain ⟨rfl, J4, p4, rfl, hz4, hf4⟩ := hv
  rcases hr4 : sumP T e b o with ⟨z4, b4, o4⟩
  rw [baseP_s c22 c23 hr4]
  rw [hr4] at hz4 hf4 g4
  cases z4 with
  | false =>
    refine a_if_ne rfl (fun z => absurd rfl z) (fun _ => ?_)
    refine a_s rfl rfl ?_
    rw [if_neg (by decide)]
    exact a_zret rfl rfl rfl (Cf.no C3 (hf4 rfl).1 (hf4 rfl).2)
  | true =>
  refine a_if_ne rfl (fun _ => ?_) (fun z => absurd (show (1 : Int32) = 0 from z) (by decide))
  rw [if_pos rfl]
  have C4 : Cf T e n0 b4 o4 I J4 p4 := Cf.cc C3 (hz4 rfl)
  obtain ⟨-, -, g4⟩ := g4
  have g4 : b < b4 ∧ o4.length + b ≤ o.length + b4 := g4 rfl
  have key : ∀ {z5 : Bool} {x : Int32} {p' : Nat} {J : Nat → Nat → Int32}, b4 < nx T e b4 → x = (if z5 = true then 2001 else 2002) → Cf T e n0 (nx T e b4) o4 I J p' → AW S m_X12_readAtom 23 (QF T e n0 (cmpP T e x (nx T e b4) o4) I L w1 w2 t) nX 0 0 152 [some (.ref 420), some (.int (bI z5))] [] (hp J L w1 w2 t) := by
    intro z5 x p' J n4 hx C
    have g6 := sumP_gd (T := T) (o := o4) (Cf.le C)
    refine a_l0 rfl rfl rfl ?_
    refine a_gV rfl lX12_208 mo_X12_readSum (h_readSum hw hbt (Cf.tt C hT) (Cf.rf C) (by omega)) rfl rfl rfl ⟨12, _, rfl, rfl, rfl⟩ rfl (fun v' h' hv => ?_)
    obtain ⟨rfl, J6, p6, rfl, hz6, hf6⟩ := hv
    rcases hr6 : sumP T e (nx T e b4) o4 with ⟨z6, b6, o6⟩
    rw [hr6] at hz6 hf6 g6
    cases z6 with
    | false =>
      refine a_if_ne rfl (fun z => absurd rfl z) (fun _ => ?_)
      refine a_s rfl rfl ?_
      rw [cmpP_f hr6]
      exact a_zret rfl rfl rfl (Cf.no C (hf6 rfl).1 (hf6 rfl).2)
    | true =>
      refine a_if_ne rfl (fun _ => ?_) (fun z => absurd (show (1 : Int32) = 0 from z) (by decide))
      rw [cmpP_t hr6]
      have C6 : Cf T e n0 b6 o6 I J6 p6 := Cf.cc C (hz6 rfl)
      have c6e := Cf.le C6
      obtain ⟨-, -, g6⟩ := g6
      have g6 : nx T e b4 < b6 ∧ o6.length + nx T e b4 ≤ o4.length + b6 := g6 rfl
      refine a_l0 rfl rfl rfl ?_
      refine a_l1 rfl rfl rfl ?_
      cases z5 with
      | false =>
        rw [if_neg (by decide)] at hx
        subst hx
        refine a_if_eq rfl (fun _ => ?_) (fun c => absurd rfl c)
        refine a_s rfl rfl ?_
        refine a_s rfl rfl ?_
        refine a_eV0 rfl lX12_180 mo_X12_emits (r_X12_emits (Cf.st C6) (by omega)) rfl rfl rfl ⟨12, _, rfl, rfl, rfl⟩ rfl ?_
        refine a_s rfl rfl ?_
        exact a_zret rfl rfl rfl (QF.yes (Cf.em (z := 2002) C6 (by decide) (by decide)))
      | true =>
        rw [if_pos rfl] at hx
        subst hx
        refine a_if_eq rfl (fun c => absurd c (by decide)) (fun _ => ?_)
        refine a_s rfl rfl ?_
        refine a_goto rfl ?_
        refine a_s rfl rfl ?_
        refine a_eV0 rfl lX12_180 mo_X12_emits (r_X12_emits (Cf.st C6) (by omega)) rfl rfl rfl ⟨12, _, rfl, rfl, rfl⟩ rfl ?_
        refine a_s rfl rfl ?_
        exact a_zret rfl rfl rfl (QF.yes (Cf.em (z := 2001) C6 (by decide) (by decide)))
  have eT4 := Cf.tt C4 hT
  refine a_l0 rfl rfl rfl ?_
  refine a_s rfl rfl ?_
  refine a_gV rfl lX12_187 mo_X12_sign (h_sign (b := b4) (c := 60) (by rw [eT4]; exact hbt) (by decide) (Cf.pp C4) (by rw [eT4]; exact Cf.nb C4)) rfl rfl rfl ⟨12, _, rfl, rfl, rfl⟩ rfl (fun v' h' hv => ?_)
  obtain ⟨rfl, J5, rfl, h5⟩ := hv
  rw [eT4] at h5 ⊢
  refine a_s1 rfl rfl rfl rfl rfl rfl ?_
  refine a_l1 rfl rfl rfl ?_
  cases c60 : sg T e b4 (nI 60) with
  | true =>
    have c60 : sg T e b4 60 = true := c60
    refine a_if_ne rfl (fun _ => ?_) (fun z => absurd (show (1 : Int32) = 0 from z) (by decide))
    rw [if_pos (show sg T e b4 (nI 60) = true from c60)] at h5
    rw [if_pos c60]
    exact key (z5 := true) (nx_lt (sg_lt c60)) rfl (Cf.rd C4 h5 rfl)
  | false =>
  have c60 : sg T e b4 60 = false := c60
  refine a_if_ne rfl (fun z => absurd rfl z) (fun _ => ?_)
  rw [if_neg (by rw [show sg T e b4 (nI 60) = false from c60]; decide)] at h5
  rw [if_neg (by rw [c60]; decide)]
  have C5 : Cf T e n0 b4 o4 I J5 b4 := Cf.rd C4 h5 (Cf.sk C4)
  have eT5 := Cf.tt C5 hT
  refine a_l0 rfl rfl rfl ?_
  refine a_s rfl rfl ?_
  refine a_gV rfl lX12_187 mo_X12_sign (h_sign (b := b4) (c := 62) (by rw [eT5]; exact hbt) (by decide) (Cf.pp C5) (by rw [eT5]; exact Cf.nb C5)) rfl rfl rfl ⟨12, _, rfl, rfl, rfl⟩ rfl (fun v' h' hv => ?_)
  obtain ⟨rfl, J7, rfl, h7⟩ := hv
  rw [eT5] at h7 ⊢
  cases c62 : sg T e b4 (nI 62) with
  | false =>
    have c62 : sg T e b4 62 = false := c62
    refine a_if_eq rfl (fun _ => ?_) (fun z => absurd rfl z)
    rw [if_neg (by rw [show sg T e b4 (nI 62) = false from c62]; decide)] at h7
    rw [if_neg (by rw [c62]; decide)]
    refine a_s rfl rfl ?_
    exact a_zret rfl rfl rfl (QF.no (Fm.tr C5.1 (Fm.mo (Rd.fm h7) sR_sY)) (Rd.be h7))
  | true =>
    have c62 : sg T e b4 62 = true := c62
    refine a_if_eq rfl (fun z => absurd z (by decide)) (fun _ => ?_)
    rw [if_pos (show sg T e b4 (nI 62) = true from c62)] at h7
    rw [if_pos c62]
    exact key (z5 := false) (nx_lt (sg_lt c62)) rfl (Cf.rd C5 h7 rfl)
theorem h_readAllOf_5 (hw : WdS S) (hbt : BtT T) (hT : I 426 = T) (hd : I 420 13 = nI 5) (h : Cf T e n0 b o I I p) (hB : o.length < b) : Sp S m_X12_readAllOf 24 0 0 [.ref 420] (hp I L w1 w2 t) (QF T e n0 (seqP T e (atomR T e 1) 20 2004 b o) I L w1 w2 t) nX := by
  have he4 := Cf.e4 h
  have g0 := atomR_gdo (T := T) (D := 1) (o := o) (Cf.le h)
  refine Sp_of ok_X12_readAllOf rfl rfl ?_
  show AW S m_X12_readAllOf 24 _ _ 0 0 0 [some (.ref 420)] [] (hp I L w1 w2 t)
  refine a_l0 rfl rfl rfl ?_
  refine a_gV rfl lX12_202 mo_X12_readAtom (h_readAtom_5 hw hbt hT hd h hB) rfl rfl rfl ⟨12, _, rfl, rfl, rfl⟩ rfl (fun v' h' hv => ?_)
  obtain ⟨rfl, J1, p1, rfl, hz1, hf1⟩ := hv
  rcases hr : (atomR T e 1) b o with ⟨z, b1, o1⟩
  rw [seqP_of hr]
  rw [hr] at hz1 hf1 g0
  cases z with
  | false =>
    refine a_if_ne rfl (fun z => absurd rfl z) (fun _ => ?_)
    refine a_s rfl rfl ?_
    rw [if_neg (by decide)]
    exact a_zret rfl rfl rfl (QF.no (hf1 rfl).1 (hf1 rfl).2)
  | true =>
  refine a_if_ne rfl (fun _ => ?_) (fun z => absurd (show (1 : Int32) = 0 from z) (by decide))
  rw [if_pos rfl]
  obtain ⟨-, -, g3⟩ := g0
  have g3 : b < b1 ∧ o1.length + b ≤ o.length + b1 := g3 rfl
  generalize hR : loopP T e (atomR T e 1) 20 2004 b1 o1 = R
  refine a_inv (n := e - b1) (fun m ls h => ls = [some (.ref 420)] ∧ ∃ J p' b' o', h = hp J L w1 w2 t ∧ Cf T e n0 b' o' I J p' ∧ o'.length < b' ∧ loopP T e (atomR T e 1) 20 2004 b' o' = R ∧ m = e - b') ⟨rfl, J1, p1, _, _, rfl, hz1 rfl, by show o1.length < b1; omega, hR, rfl⟩ ?_
  rintro m _ _ ⟨rfl, J, p', b', o', rfl, C, hB', es, hm⟩ ih
  have eT := Cf.tt C hT
  refine a_l0 rfl rfl rfl ?_
  refine a_ldcs (q := 130 + 20) rfl (hw.ld (i := 20) (by decide)) ?_
  refine a_gV rfl lX12_128 mo_X12_passes (h_passes (b := b') (k := 20) hw (by decide) (Cf.pp C) (by rw [eT]; exact Cf.nb C)) rfl rfl rfl ⟨12, _, rfl, rfl, rfl⟩ rfl (fun v' h' hv => ?_)
  obtain ⟨rfl, J2, rfl, h2⟩ := hv
  rw [eT] at h2 ⊢
  cases cw : isWd T e b' 20 with
  | false =>
    refine a_if_eq rfl (fun _ => ?_) (fun z => absurd rfl z)
    rw [if_neg (by rw [cw]; decide)] at h2
    refine a_s rfl rfl ?_
    rw [← es, loopP_f cw]
    exact a_zret rfl rfl rfl (QF.yes (Cf.rd C h2 (Cf.sk C)))
  | true =>
    refine a_if_eq rfl (fun z => absurd z (by decide)) (fun _ => ?_)
    rw [if_pos cw] at h2
    have n2 := nx_lt (T := T) (isWd_lt cw)
    have C2 : Cf T e n0 (nx T e b') o' I J2 (en T e b') := Cf.rd C h2 rfl
    have n2e := Cf.le C2
    have g4 := atomR_gdo (T := T) (D := 1) (o := o') n2e
    refine a_l0 rfl rfl rfl ?_
    refine a_gV rfl lX12_202 mo_X12_readAtom (h_readAtom_5 hw hbt (Cf.tt C2 hT) (Cf.d C2 hd) (Cf.rf C2) (by omega)) rfl rfl rfl ⟨12, _, rfl, rfl, rfl⟩ rfl (fun v' h' hv => ?_)
    obtain ⟨rfl, J3, p3, rfl, hz3, hf3⟩ := hv
    have el := fun g => loopP_t (op := 2004) (o := o') (item := atomR T e 1) cw g
    have en' := loopP_n (op := 2004) (o := o') (item := atomR T e 1) cw
    rcases hr2 : (atomR T e 1) (nx T e b') o' with ⟨z2, b2, o2⟩
    rw [hr2] at hz3 hf3 g4 el en'
    cases z2 with
    | false =>
      refine a_if_ne rfl (fun z => absurd rfl z) (fun _ => ?_)
      refine a_s rfl rfl ?_
      rw [← es, en' Bool.false_ne_true]
      exact a_zret rfl rfl rfl (Cf.no C2 (hf3 rfl).1 (hf3 rfl).2)
    | true =>
      refine a_if_ne rfl (fun _ => ?_) (fun z => absurd (show (1 : Int32) = 0 from z) (by decide))
      have C3 : Cf T e n0 b2 o2 I J3 p3 := Cf.cc C2 (hz3 rfl)
      have c3e := Cf.le C3
      obtain ⟨-, -, g5⟩ := g4
      have g5 : nx T e b' < b2 ∧ o2.length + nx T e b' ≤ o'.length + b2 := g5 rfl
      have es2 : loopP T e (atomR T e 1) 20 2004 b2 (2004 :: o2) = R := (el (by show b' < b2; omega) rfl).symm.trans es
      refine a_l0 rfl rfl rfl ?_
      refine a_s rfl rfl ?_
      refine a_s rfl rfl ?_
      refine a_eV0 rfl lX12_180 mo_X12_emits (r_X12_emits (Cf.st C3) (by omega)) rfl rfl rfl ⟨12, _, rfl, rfl, rfl⟩ rfl ?_
      refine a_goto rfl ?_
      exact ih (e - b2) _ _ (by omega) ⟨rfl, _, p3, b2, _, rfl, Cf.em (z := 2004) C3 (by decide) (by decide), by show o2.length + 1 < b2; omega, es2, rfl⟩
theorem h_readCond_5 (hw : WdS S) (hbt : BtT T) (hT : I 426 = T) (hd : I 420 13 = nI 5) (h : Cf T e n0 b o I I p) (hB : o.length < b) : Sp S m_X12_readCond 25 0 0 [.ref 420] (hp I L w1 w2 t) (QF T e n0 (seqP T e (seqP T e (atomR T e 1) 20 2004) 19 2005 b o) I L w1 w2 t) nX := by
  have he4 := Cf.e4 h
  have g0 := seqA_gd (T := T) (D := 1) (o := o) (Cf.le h)
  refine Sp_of ok_X12_readCond rfl rfl ?_
  show AW S m_X12_readCond 25 _ _ 0 0 0 [some (.ref 420)] [] (hp I L w1 w2 t)
  refine a_l0 rfl rfl rfl ?_
  refine a_gV rfl lX12_213 mo_X12_readAllOf (h_readAllOf_5 hw hbt hT hd h hB) rfl rfl rfl ⟨12, _, rfl, rfl, rfl⟩ rfl (fun v' h' hv => ?_)
  obtain ⟨rfl, J1, p1, rfl, hz1, hf1⟩ := hv
  rcases hr : (seqP T e (atomR T e 1) 20 2004) b o with ⟨z, b1, o1⟩
  rw [seqP_of hr]
  rw [hr] at hz1 hf1 g0
  cases z with
  | false =>
    refine a_if_ne rfl (fun z => absurd rfl z) (fun _ => ?_)
    refine a_s rfl rfl ?_
    rw [if_neg (by decide)]
    exact a_zret rfl rfl rfl (QF.no (hf1 rfl).1 (hf1 rfl).2)
  | true =>
  refine a_if_ne rfl (fun _ => ?_) (fun z => absurd (show (1 : Int32) = 0 from z) (by decide))
  rw [if_pos rfl]
  obtain ⟨-, -, g3⟩ := g0
  have g3 : b < b1 ∧ o1.length + b ≤ o.length + b1 := g3 rfl
  generalize hR : loopP T e (seqP T e (atomR T e 1) 20 2004) 19 2005 b1 o1 = R
  refine a_inv (n := e - b1) (fun m ls h => ls = [some (.ref 420)] ∧ ∃ J p' b' o', h = hp J L w1 w2 t ∧ Cf T e n0 b' o' I J p' ∧ o'.length < b' ∧ loopP T e (seqP T e (atomR T e 1) 20 2004) 19 2005 b' o' = R ∧ m = e - b') ⟨rfl, J1, p1, _, _, rfl, hz1 rfl, by show o1.length < b1; omega, hR, rfl⟩ ?_
  rintro m _ _ ⟨rfl, J, p', b', o', rfl, C, hB', es, hm⟩ ih
  have eT := Cf.tt C hT
  refine a_l0 rfl rfl rfl ?_
  refine a_ldcs (q := 130 + 19) rfl (hw.ld (i := 19) (by decide)) ?_
  refine a_gV rfl lX12_128 mo_X12_passes (h_passes (b := b') (k := 19) hw (by decide) (Cf.pp C) (by rw [eT]; exact Cf.nb C)) rfl rfl rfl ⟨12, _, rfl, rfl, rfl⟩ rfl (fun v' h' hv => ?_)
  obtain ⟨rfl, J2, rfl, h2⟩ := hv
  rw [eT] at h2 ⊢
  cases cw : isWd T e b' 19 with
  | false =>
    refine a_if_eq rfl (fun _ => ?_) (fun z => absurd rfl z)
    rw [if_neg (by rw [cw]; decide)] at h2
    refine a_s rfl rfl ?_
    rw [← es, loopP_f cw]
    exact a_zret rfl rfl rfl (QF.yes (Cf.rd C h2 (Cf.sk C)))
  | true =>
    refine a_if_eq rfl (fun z => absurd z (by decide)) (fun _ => ?_)
    rw [if_pos cw] at h2
    have n2 := nx_lt (T := T) (isWd_lt cw)
    have C2 : Cf T e n0 (nx T e b') o' I J2 (en T e b') := Cf.rd C h2 rfl
    have n2e := Cf.le C2
    have g4 := seqA_gd (T := T) (D := 1) (o := o') n2e
    refine a_l0 rfl rfl rfl ?_
    refine a_gV rfl lX12_213 mo_X12_readAllOf (h_readAllOf_5 hw hbt (Cf.tt C2 hT) (Cf.d C2 hd) (Cf.rf C2) (by omega)) rfl rfl rfl ⟨12, _, rfl, rfl, rfl⟩ rfl (fun v' h' hv => ?_)
    obtain ⟨rfl, J3, p3, rfl, hz3, hf3⟩ := hv
    have el := fun g => loopP_t (op := 2005) (o := o') (item := seqP T e (atomR T e 1) 20 2004) cw g
    have en' := loopP_n (op := 2005) (o := o') (item := seqP T e (atomR T e 1) 20 2004) cw
    rcases hr2 : (seqP T e (atomR T e 1) 20 2004) (nx T e b') o' with ⟨z2, b2, o2⟩
    rw [hr2] at hz3 hf3 g4 el en'
    cases z2 with
    | false =>
      refine a_if_ne rfl (fun z => absurd rfl z) (fun _ => ?_)
      refine a_s rfl rfl ?_
      rw [← es, en' Bool.false_ne_true]
      exact a_zret rfl rfl rfl (Cf.no C2 (hf3 rfl).1 (hf3 rfl).2)
    | true =>
      refine a_if_ne rfl (fun _ => ?_) (fun z => absurd (show (1 : Int32) = 0 from z) (by decide))
      have C3 : Cf T e n0 b2 o2 I J3 p3 := Cf.cc C2 (hz3 rfl)
      have c3e := Cf.le C3
      obtain ⟨-, -, g5⟩ := g4
      have g5 : nx T e b' < b2 ∧ o2.length + nx T e b' ≤ o'.length + b2 := g5 rfl
      have es2 : loopP T e (seqP T e (atomR T e 1) 20 2004) 19 2005 b2 (2005 :: o2) = R := (el (by show b' < b2; omega) rfl).symm.trans es
      refine a_l0 rfl rfl rfl ?_
      refine a_s rfl rfl ?_
      refine a_s rfl rfl ?_
      refine a_eV0 rfl lX12_180 mo_X12_emits (r_X12_emits (Cf.st C3) (by omega)) rfl rfl rfl ⟨12, _, rfl, rfl, rfl⟩ rfl ?_
      refine a_goto rfl ?_
      exact ih (e - b2) _ _ (by omega) ⟨rfl, _, p3, b2, _, rfl, Cf.em (z := 2005) C3 (by decide) (by decide), by show o2.length + 1 < b2; omega, es2, rfl⟩
theorem h_readAtom_4 (hw : WdS S) (hbt : BtT T) (hT : I 426 = T) (hd : I 420 13 = nI 4) (h : Cf T e n0 b o I I p) (hB : o.length < b) : Sp S m_X12_readAtom 26 0 0 [.ref 420] (hp I L w1 w2 t) (QF T e n0 (atomR T e 2 b o) I L w1 w2 t) nX := by
  have he4 := Cf.e4 h
  have hbe := Cf.le h
  refine Sp_of ok_X12_readAtom rfl rfl ?_
  show AW S m_X12_readAtom 26 _ _ 0 0 0 [some (.ref 420), none] [] (hp I L w1 w2 t)
  refine a_l0 rfl rfl rfl ?_
  refine a_s rfl rfl ?_
  refine a_gV rfl lX12_187 mo_X12_sign (h_sign (b := b) (c := 40) (by rw [hT]; exact hbt) (by decide) (Cf.pp h) (by rw [hT]; exact Cf.nb h)) rfl rfl rfl ⟨12, _, rfl, rfl, rfl⟩ rfl (fun v' h' hv => ?_)
  obtain ⟨rfl, J1, rfl, h1⟩ := hv
  rw [hT] at h1 ⊢
  cases c40 : sg T e b (nI 40) with
  | true =>
    have c40 : sg T e b 40 = true := c40
    refine a_if_eq rfl (fun z => absurd z (by decide)) (fun _ => ?_)
    rw [if_pos (show sg T e b (nI 40) = true from c40)] at h1
    have n1 := nx_lt (T := T) (sg_lt c40)
    have C1 : Cf T e n0 (nx T e b) o I J1 (en T e b) := Cf.rd h h1 rfl
    refine a_l0 rfl rfl rfl ?_
    refine a_geti rfl gfX12_194_12 rfl ?_
    refine a_top (y := nI 4) (Cf.d C1 hd) ?_
    refine a_s rfl rfl ?_
    refine a_ic_ne rfl (fun _ => ?_) (fun c => absurd c (by decide))
    refine a_l0 rfl rfl rfl ?_
    refine a_s rfl rfl ?_
    refine a_geti rfl gfX12_194_12 rfl ?_
    refine a_top (y := nI 4) (Cf.d C1 hd) ?_
    refine a_s rfl rfl ?_
    refine a_s rfl rfl ?_
    refine a_top (y := nI 5) (rfl) ?_
    refine a_puti rfl pfX12_194_12 rfl ?_
    refine a_l0 rfl rfl rfl ?_
    have g4 := cndP_gd (T := T) (fun b o h => atomR_gd (T := T) 1 b o h) (o := o) (Cf.le C1)
    refine a_gV rfl lX12_197 mo_X12_readCond (h_readCond_5 hw hbt ((up2_row (by decide)).trans (Cf.tt C1 hT)) up2_at (Cf.up13 C1) (by omega)) rfl rfl rfl ⟨12, _, rfl, rfl, rfl⟩ rfl (fun v' h' hv => ?_)
    obtain ⟨rfl, J9, p9, rfl, hz9, hf9⟩ := hv
    rw [show seqP T e (seqP T e (atomR T e 1) 20 2004) 19 2005 = cndP T e (atomR T e 1) from rfl] at hz9 hf9 ⊢
    rcases hr9 : cndP T e (atomR T e 1) (nx T e b) o with ⟨z9, b9, o9⟩
    rw [hr9] at hz9 hf9 g4
    rw [atomR_p c40 hr9]
    cases z9 with
    | false =>
      refine a_if_ne rfl (fun z => absurd rfl z) (fun _ => ?_)
      refine a_s rfl rfl ?_
      rw [if_neg (by decide)]
      exact a_zret rfl rfl rfl (QF.no (Fm.tr C1.1 (Fm.tr (Fm.up Fm.rf rfl) (hf9 rfl).1)) (hf9 rfl).2)
    | true =>
      refine a_if_ne rfl (fun _ => ?_) (fun z => absurd (show (1 : Int32) = 0 from z) (by decide))
      rw [if_pos rfl]
      have D9 : Cf T e n0 b9 o9 (up2 J1 420 13 (nI 5)) J9 p9 := hz9 rfl
      refine a_l0 rfl rfl rfl ?_
      refine a_s rfl rfl ?_
      refine a_geti rfl gfX12_194_12 rfl ?_
      refine a_top (y := nI 5) (D9.2.1.trans up2_at) ?_
      refine a_s rfl rfl ?_
      refine a_s rfl rfl ?_
      refine a_top (y := nI 4) (rfl) ?_
      refine a_puti rfl pfX12_194_12 rfl ?_
      have C9 := Cf.deep C1 hd D9
      have eT9 := Cf.tt C9 hT
      refine a_l0 rfl rfl rfl ?_
      refine a_s rfl rfl ?_
      refine a_gV rfl lX12_187 mo_X12_sign (h_sign (b := b9) (c := 41) (by rw [eT9]; exact hbt) (by decide) (Cf.pp C9) (by rw [eT9]; exact Cf.nb C9)) rfl rfl rfl ⟨12, _, rfl, rfl, rfl⟩ rfl (fun v' h' hv => ?_)
      obtain ⟨rfl, J3, rfl, h3⟩ := hv
      rw [eT9] at h3 ⊢
      cases c41 : sg T e b9 (nI 41) with
      | false =>
        have c41 : sg T e b9 41 = false := c41
        rw [if_neg (by rw [show sg T e b9 (nI 41) = false from c41]; decide)] at h3
        rw [if_neg (by rw [c41]; decide)]
        exact a_zret rfl rfl rfl (QF.no (Fm.tr C9.1 (Fm.mo (Rd.fm h3) sR_sY)) (Rd.be h3))
      | true =>
        have c41 : sg T e b9 41 = true := c41
        rw [if_pos (show sg T e b9 (nI 41) = true from c41)] at h3
        rw [if_pos c41]
        exact a_zret rfl rfl rfl (QF.yes (Cf.rd C9 h3 rfl))
  | false =>
  have c40 : sg T e b 40 = false := c40
  refine a_if_eq rfl (fun _ => ?_) (fun z => absurd rfl z)
  rw [if_neg (by rw [show sg T e b (nI 40) = false from c40]; decide)] at h1
  have C0 : Cf T e n0 b o I J1 b := Cf.rd h h1 (Cf.sk h)
  have eT0 := Cf.tt C0 hT
  refine a_l0 rfl rfl rfl ?_
  refine a_ldcs (q := 130 + 21) rfl (hw.ld (i := 21) (by decide)) ?_
  refine a_gV rfl lX12_128 mo_X12_passes (h_passes (b := b) (k := 21) hw (by decide) (Cf.pp C0) (by rw [eT0]; exact Cf.nb C0)) rfl rfl rfl ⟨12, _, rfl, rfl, rfl⟩ rfl (fun v' h' hv => ?_)
  obtain ⟨rfl, J2, rfl, h2⟩ := hv
  rw [eT0] at h2 ⊢
  cases c21 : isWd T e b 21 with
  | true =>
    refine a_if_eq rfl (fun z => absurd z (by decide)) (fun _ => ?_)
    rw [if_pos c21] at h2
    have n1 := nx_lt (T := T) (isWd_lt c21)
    have C2 : Cf T e n0 (nx T e b) o I J2 (en T e b) := Cf.rd C0 h2 rfl
    refine a_l0 rfl rfl rfl ?_
    refine a_geti rfl gfX12_194_12 rfl ?_
    refine a_top (y := nI 4) (Cf.d C2 hd) ?_
    refine a_s rfl rfl ?_
    refine a_ic_ne rfl (fun _ => ?_) (fun c => absurd c (by decide))
    refine a_l0 rfl rfl rfl ?_
    refine a_s rfl rfl ?_
    refine a_geti rfl gfX12_194_12 rfl ?_
    refine a_top (y := nI 4) (Cf.d C2 hd) ?_
    refine a_s rfl rfl ?_
    refine a_s rfl rfl ?_
    refine a_top (y := nI 5) (rfl) ?_
    refine a_puti rfl pfX12_194_12 rfl ?_
    refine a_l0 rfl rfl rfl ?_
    have g4 := atomR_gdo (T := T) (D := 1) (o := o) (Cf.le C2)
    refine a_gV rfl lX12_202 mo_X12_readAtom (h_readAtom_5 hw hbt ((up2_row (by decide)).trans (Cf.tt C2 hT)) up2_at (Cf.up13 C2) (by omega)) rfl rfl rfl ⟨12, _, rfl, rfl, rfl⟩ rfl (fun v' h' hv => ?_)
    obtain ⟨rfl, J9, p9, rfl, hz9, hf9⟩ := hv
    rcases hr9 : atomR T e 1 (nx T e b) o with ⟨z9, b9, o9⟩
    rw [hr9] at hz9 hf9 g4
    rw [atomR_n c40 c21 hr9]
    cases z9 with
    | false =>
      refine a_if_ne rfl (fun z => absurd rfl z) (fun _ => ?_)
      refine a_s rfl rfl ?_
      rw [if_neg (by decide)]
      exact a_zret rfl rfl rfl (QF.no (Fm.tr C2.1 (Fm.tr (Fm.up Fm.rf rfl) (hf9 rfl).1)) (hf9 rfl).2)
    | true =>
      refine a_if_ne rfl (fun _ => ?_) (fun z => absurd (show (1 : Int32) = 0 from z) (by decide))
      rw [if_pos rfl]
      have D9 : Cf T e n0 b9 o9 (up2 J2 420 13 (nI 5)) J9 p9 := hz9 rfl
      obtain ⟨-, -, g5⟩ := g4
      have g5 : nx T e b < b9 ∧ o9.length + nx T e b ≤ o.length + b9 := g5 rfl
      have c9e := Cf.le D9
      refine a_l0 rfl rfl rfl ?_
      refine a_s rfl rfl ?_
      refine a_geti rfl gfX12_194_12 rfl ?_
      refine a_top (y := nI 5) (D9.2.1.trans up2_at) ?_
      refine a_s rfl rfl ?_
      refine a_s rfl rfl ?_
      refine a_top (y := nI 4) (rfl) ?_
      refine a_puti rfl pfX12_194_12 rfl ?_
      have C9 := Cf.deep C2 hd D9
      refine a_l0 rfl rfl rfl ?_
      refine a_s rfl rfl ?_
      refine a_s rfl rfl ?_
      refine a_eV0 rfl lX12_180 mo_X12_emits (r_X12_emits (Cf.st C9) (by omega)) rfl rfl rfl ⟨12, _, rfl, rfl, rfl⟩ rfl ?_
      refine a_s rfl rfl ?_
      exact a_zret rfl rfl rfl (QF.yes (Cf.em (z := 2003) C9 (by decide) (by decide)))
  | false =>
  refine a_if_eq rfl (fun _ => ?_) (fun z => absurd rfl z)
  rw [if_neg (by rw [c21]; decide)] at h2
  have C2 : Cf T e n0 b o I J2 b := Cf.rd C0 h2 (Cf.sk C0)
  rw [atomR_b c40 c21]
  refine a_l0 rfl rfl rfl ?_
  refine a_gV rfl lX12_205 mo_X12_readTag (h_readTag hw (Cf.tt C2 hT) (Cf.rf C2) hB) rfl rfl rfl ⟨12, _, rfl, rfl, rfl⟩ rfl (fun v' h' hv => ?_)
  obtain ⟨z3, x3, J3, p3, rfl, rfl, ht3, hf3⟩ := hv
  cases z3 with
  | true =>
    refine a_if_eq rfl (fun z => absurd z (by decide)) (fun _ => ?_)
    refine a_s rfl rfl ?_
    obtain ⟨hx, D3⟩ := ht3 rfl
    rcases hx with ⟨c22, rfl⟩ | ⟨c22, c23, rfl⟩
    · rw [show baseP T e b o = (true, nx T e b, 1007 :: o) from if_pos c22]
      exact a_zret rfl rfl rfl (QF.yes (Cf.cc C2 D3))
    · rw [show baseP T e b o = (true, nx T e b, 1008 :: o) from (if_neg (by rw [c22]; decide)).trans (if_pos c23)]
      exact a_zret rfl rfl rfl (QF.yes (Cf.cc C2 D3))
  | false =>
  refine a_if_eq rfl (fun _ => ?_) (fun z => absurd rfl z)
  obtain ⟨⟨c22, c23⟩, D3⟩ := hf3 rfl
  have C3 := Cf.cc C2 D3
  have g4 := sumP_gd (T := T) (o := o) hbe
  refine a_l0 rfl rfl rfl ?_
  refine a_gV rfl lX12_208 mo_X12_readSum (h_readSum hw hbt (Cf.tt C3 hT) (Cf.rf C3) hB) rfl rfl rfl ⟨12, _, rfl, rfl, rfl⟩ rfl (fun v' h' hv => ?_)
  obtain ⟨rfl, J4, p4, rfl, hz4, hf4⟩ := hv
  rcases hr4 : sumP T e b o with ⟨z4, b4, o4⟩
  rw [baseP_s c22 c23 hr4]
  rw [hr4] at hz4 hf4 g4
  cases z4 with
  | false =>
    refine a_if_ne rfl (fun z => absurd rfl z) (fun _ => ?_)
    refine a_s rfl rfl ?_
    rw [if_neg (by decide)]
    exact a_zret rfl rfl rfl (Cf.no C3 (hf4 rfl).1 (hf4 rfl).2)
  | true =>
  refine a_if_ne rfl (fun _ => ?_) (fun z => absurd (show (1 : Int32) = 0 from z) (by decide))
  rw [if_pos rfl]
  have C4 : Cf T e n0 b4 o4 I J4 p4 := Cf.cc C3 (hz4 rfl)
  obtain ⟨-, -, g4⟩ := g4
  have g4 : b < b4 ∧ o4.length + b ≤ o.length + b4 := g4 rfl
  have key : ∀ {z5 : Bool} {x : Int32} {p' : Nat} {J : Nat → Nat → Int32}, b4 < nx T e b4 → x = (if z5 = true then 2001 else 2002) → Cf T e n0 (nx T e b4) o4 I J p' → AW S m_X12_readAtom 26 (QF T e n0 (cmpP T e x (nx T e b4) o4) I L w1 w2 t) nX 0 0 152 [some (.ref 420), some (.int (bI z5))] [] (hp J L w1 w2 t) := by
    intro z5 x p' J n4 hx C
    have g6 := sumP_gd (T := T) (o := o4) (Cf.le C)
    refine a_l0 rfl rfl rfl ?_
    refine a_gV rfl lX12_208 mo_X12_readSum (h_readSum hw hbt (Cf.tt C hT) (Cf.rf C) (by omega)) rfl rfl rfl ⟨12, _, rfl, rfl, rfl⟩ rfl (fun v' h' hv => ?_)
    obtain ⟨rfl, J6, p6, rfl, hz6, hf6⟩ := hv
    rcases hr6 : sumP T e (nx T e b4) o4 with ⟨z6, b6, o6⟩
    rw [hr6] at hz6 hf6 g6
    cases z6 with
    | false =>
      refine a_if_ne rfl (fun z => absurd rfl z) (fun _ => ?_)
      refine a_s rfl rfl ?_
      rw [cmpP_f hr6]
      exact a_zret rfl rfl rfl (Cf.no C (hf6 rfl).1 (hf6 rfl).2)
    | true =>
      refine a_if_ne rfl (fun _ => ?_) (fun z => absurd (show (1 : Int32) = 0 from z) (by decide))
      rw [cmpP_t hr6]
      have C6 : Cf T e n0 b6 o6 I J6 p6 := Cf.cc C (hz6 rfl)
      have c6e := Cf.le C6
      obtain ⟨-, -, g6⟩ := g6
      have g6 : nx T e b4 < b6 ∧ o6.length + nx T e b4 ≤ o4.length + b6 := g6 rfl
      refine a_l0 rfl rfl rfl ?_
      refine a_l1 rfl rfl rfl ?_
      cases z5 with
      | false =>
        rw [if_neg (by decide)] at hx
        subst hx
        refine a_if_eq rfl (fun _ => ?_) (fun c => absurd rfl c)
        refine a_s rfl rfl ?_
        refine a_s rfl rfl ?_
        refine a_eV0 rfl lX12_180 mo_X12_emits (r_X12_emits (Cf.st C6) (by omega)) rfl rfl rfl ⟨12, _, rfl, rfl, rfl⟩ rfl ?_
        refine a_s rfl rfl ?_
        exact a_zret rfl rfl rfl (QF.yes (Cf.em (z := 2002) C6 (by decide) (by decide)))
      | true =>
        rw [if_pos rfl] at hx
        subst hx
        refine a_if_eq rfl (fun c => absurd c (by decide)) (fun _ => ?_)
        refine a_s rfl rfl ?_
        refine a_goto rfl ?_
        refine a_s rfl rfl ?_
        refine a_eV0 rfl lX12_180 mo_X12_emits (r_X12_emits (Cf.st C6) (by omega)) rfl rfl rfl ⟨12, _, rfl, rfl, rfl⟩ rfl ?_
        refine a_s rfl rfl ?_
        exact a_zret rfl rfl rfl (QF.yes (Cf.em (z := 2001) C6 (by decide) (by decide)))
  have eT4 := Cf.tt C4 hT
  refine a_l0 rfl rfl rfl ?_
  refine a_s rfl rfl ?_
  refine a_gV rfl lX12_187 mo_X12_sign (h_sign (b := b4) (c := 60) (by rw [eT4]; exact hbt) (by decide) (Cf.pp C4) (by rw [eT4]; exact Cf.nb C4)) rfl rfl rfl ⟨12, _, rfl, rfl, rfl⟩ rfl (fun v' h' hv => ?_)
  obtain ⟨rfl, J5, rfl, h5⟩ := hv
  rw [eT4] at h5 ⊢
  refine a_s1 rfl rfl rfl rfl rfl rfl ?_
  refine a_l1 rfl rfl rfl ?_
  cases c60 : sg T e b4 (nI 60) with
  | true =>
    have c60 : sg T e b4 60 = true := c60
    refine a_if_ne rfl (fun _ => ?_) (fun z => absurd (show (1 : Int32) = 0 from z) (by decide))
    rw [if_pos (show sg T e b4 (nI 60) = true from c60)] at h5
    rw [if_pos c60]
    exact key (z5 := true) (nx_lt (sg_lt c60)) rfl (Cf.rd C4 h5 rfl)
  | false =>
  have c60 : sg T e b4 60 = false := c60
  refine a_if_ne rfl (fun z => absurd rfl z) (fun _ => ?_)
  rw [if_neg (by rw [show sg T e b4 (nI 60) = false from c60]; decide)] at h5
  rw [if_neg (by rw [c60]; decide)]
  have C5 : Cf T e n0 b4 o4 I J5 b4 := Cf.rd C4 h5 (Cf.sk C4)
  have eT5 := Cf.tt C5 hT
  refine a_l0 rfl rfl rfl ?_
  refine a_s rfl rfl ?_
  refine a_gV rfl lX12_187 mo_X12_sign (h_sign (b := b4) (c := 62) (by rw [eT5]; exact hbt) (by decide) (Cf.pp C5) (by rw [eT5]; exact Cf.nb C5)) rfl rfl rfl ⟨12, _, rfl, rfl, rfl⟩ rfl (fun v' h' hv => ?_)
  obtain ⟨rfl, J7, rfl, h7⟩ := hv
  rw [eT5] at h7 ⊢
  cases c62 : sg T e b4 (nI 62) with
  | false =>
    have c62 : sg T e b4 62 = false := c62
    refine a_if_eq rfl (fun _ => ?_) (fun z => absurd rfl z)
    rw [if_neg (by rw [show sg T e b4 (nI 62) = false from c62]; decide)] at h7
    rw [if_neg (by rw [c62]; decide)]
    refine a_s rfl rfl ?_
    exact a_zret rfl rfl rfl (QF.no (Fm.tr C5.1 (Fm.mo (Rd.fm h7) sR_sY)) (Rd.be h7))
  | true =>
    have c62 : sg T e b4 62 = true := c62
    refine a_if_eq rfl (fun z => absurd z (by decide)) (fun _ => ?_)
    rw [if_pos (show sg T e b4 (nI 62) = true from c62)] at h7
    rw [if_pos c62]
    exact key (z5 := false) (nx_lt (sg_lt c62)) rfl (Cf.rd C5 h7 rfl)
theorem h_readAllOf_4 (hw : WdS S) (hbt : BtT T) (hT : I 426 = T) (hd : I 420 13 = nI 4) (h : Cf T e n0 b o I I p) (hB : o.length < b) : Sp S m_X12_readAllOf 27 0 0 [.ref 420] (hp I L w1 w2 t) (QF T e n0 (seqP T e (atomR T e 2) 20 2004 b o) I L w1 w2 t) nX := by
  have he4 := Cf.e4 h
  have g0 := atomR_gdo (T := T) (D := 2) (o := o) (Cf.le h)
  refine Sp_of ok_X12_readAllOf rfl rfl ?_
  show AW S m_X12_readAllOf 27 _ _ 0 0 0 [some (.ref 420)] [] (hp I L w1 w2 t)
  refine a_l0 rfl rfl rfl ?_
  refine a_gV rfl lX12_202 mo_X12_readAtom (h_readAtom_4 hw hbt hT hd h hB) rfl rfl rfl ⟨12, _, rfl, rfl, rfl⟩ rfl (fun v' h' hv => ?_)
  obtain ⟨rfl, J1, p1, rfl, hz1, hf1⟩ := hv
  rcases hr : (atomR T e 2) b o with ⟨z, b1, o1⟩
  rw [seqP_of hr]
  rw [hr] at hz1 hf1 g0
  cases z with
  | false =>
    refine a_if_ne rfl (fun z => absurd rfl z) (fun _ => ?_)
    refine a_s rfl rfl ?_
    rw [if_neg (by decide)]
    exact a_zret rfl rfl rfl (QF.no (hf1 rfl).1 (hf1 rfl).2)
  | true =>
  refine a_if_ne rfl (fun _ => ?_) (fun z => absurd (show (1 : Int32) = 0 from z) (by decide))
  rw [if_pos rfl]
  obtain ⟨-, -, g3⟩ := g0
  have g3 : b < b1 ∧ o1.length + b ≤ o.length + b1 := g3 rfl
  generalize hR : loopP T e (atomR T e 2) 20 2004 b1 o1 = R
  refine a_inv (n := e - b1) (fun m ls h => ls = [some (.ref 420)] ∧ ∃ J p' b' o', h = hp J L w1 w2 t ∧ Cf T e n0 b' o' I J p' ∧ o'.length < b' ∧ loopP T e (atomR T e 2) 20 2004 b' o' = R ∧ m = e - b') ⟨rfl, J1, p1, _, _, rfl, hz1 rfl, by show o1.length < b1; omega, hR, rfl⟩ ?_
  rintro m _ _ ⟨rfl, J, p', b', o', rfl, C, hB', es, hm⟩ ih
  have eT := Cf.tt C hT
  refine a_l0 rfl rfl rfl ?_
  refine a_ldcs (q := 130 + 20) rfl (hw.ld (i := 20) (by decide)) ?_
  refine a_gV rfl lX12_128 mo_X12_passes (h_passes (b := b') (k := 20) hw (by decide) (Cf.pp C) (by rw [eT]; exact Cf.nb C)) rfl rfl rfl ⟨12, _, rfl, rfl, rfl⟩ rfl (fun v' h' hv => ?_)
  obtain ⟨rfl, J2, rfl, h2⟩ := hv
  rw [eT] at h2 ⊢
  cases cw : isWd T e b' 20 with
  | false =>
    refine a_if_eq rfl (fun _ => ?_) (fun z => absurd rfl z)
    rw [if_neg (by rw [cw]; decide)] at h2
    refine a_s rfl rfl ?_
    rw [← es, loopP_f cw]
    exact a_zret rfl rfl rfl (QF.yes (Cf.rd C h2 (Cf.sk C)))
  | true =>
    refine a_if_eq rfl (fun z => absurd z (by decide)) (fun _ => ?_)
    rw [if_pos cw] at h2
    have n2 := nx_lt (T := T) (isWd_lt cw)
    have C2 : Cf T e n0 (nx T e b') o' I J2 (en T e b') := Cf.rd C h2 rfl
    have n2e := Cf.le C2
    have g4 := atomR_gdo (T := T) (D := 2) (o := o') n2e
    refine a_l0 rfl rfl rfl ?_
    refine a_gV rfl lX12_202 mo_X12_readAtom (h_readAtom_4 hw hbt (Cf.tt C2 hT) (Cf.d C2 hd) (Cf.rf C2) (by omega)) rfl rfl rfl ⟨12, _, rfl, rfl, rfl⟩ rfl (fun v' h' hv => ?_)
    obtain ⟨rfl, J3, p3, rfl, hz3, hf3⟩ := hv
    have el := fun g => loopP_t (op := 2004) (o := o') (item := atomR T e 2) cw g
    have en' := loopP_n (op := 2004) (o := o') (item := atomR T e 2) cw
    rcases hr2 : (atomR T e 2) (nx T e b') o' with ⟨z2, b2, o2⟩
    rw [hr2] at hz3 hf3 g4 el en'
    cases z2 with
    | false =>
      refine a_if_ne rfl (fun z => absurd rfl z) (fun _ => ?_)
      refine a_s rfl rfl ?_
      rw [← es, en' Bool.false_ne_true]
      exact a_zret rfl rfl rfl (Cf.no C2 (hf3 rfl).1 (hf3 rfl).2)
    | true =>
      refine a_if_ne rfl (fun _ => ?_) (fun z => absurd (show (1 : Int32) = 0 from z) (by decide))
      have C3 : Cf T e n0 b2 o2 I J3 p3 := Cf.cc C2 (hz3 rfl)
      have c3e := Cf.le C3
      obtain ⟨-, -, g5⟩ := g4
      have g5 : nx T e b' < b2 ∧ o2.length + nx T e b' ≤ o'.length + b2 := g5 rfl
      have es2 : loopP T e (atomR T e 2) 20 2004 b2 (2004 :: o2) = R := (el (by show b' < b2; omega) rfl).symm.trans es
      refine a_l0 rfl rfl rfl ?_
      refine a_s rfl rfl ?_
      refine a_s rfl rfl ?_
      refine a_eV0 rfl lX12_180 mo_X12_emits (r_X12_emits (Cf.st C3) (by omega)) rfl rfl rfl ⟨12, _, rfl, rfl, rfl⟩ rfl ?_
      refine a_goto rfl ?_
      exact ih (e - b2) _ _ (by omega) ⟨rfl, _, p3, b2, _, rfl, Cf.em (z := 2004) C3 (by decide) (by decide), by show o2.length + 1 < b2; omega, es2, rfl⟩
theorem h_readCond_4 (hw : WdS S) (hbt : BtT T) (hT : I 426 = T) (hd : I 420 13 = nI 4) (h : Cf T e n0 b o I I p) (hB : o.length < b) : Sp S m_X12_readCond 28 0 0 [.ref 420] (hp I L w1 w2 t) (QF T e n0 (seqP T e (seqP T e (atomR T e 2) 20 2004) 19 2005 b o) I L w1 w2 t) nX := by
  have he4 := Cf.e4 h
  have g0 := seqA_gd (T := T) (D := 2) (o := o) (Cf.le h)
  refine Sp_of ok_X12_readCond rfl rfl ?_
  show AW S m_X12_readCond 28 _ _ 0 0 0 [some (.ref 420)] [] (hp I L w1 w2 t)
  refine a_l0 rfl rfl rfl ?_
  refine a_gV rfl lX12_213 mo_X12_readAllOf (h_readAllOf_4 hw hbt hT hd h hB) rfl rfl rfl ⟨12, _, rfl, rfl, rfl⟩ rfl (fun v' h' hv => ?_)
  obtain ⟨rfl, J1, p1, rfl, hz1, hf1⟩ := hv
  rcases hr : (seqP T e (atomR T e 2) 20 2004) b o with ⟨z, b1, o1⟩
  rw [seqP_of hr]
  rw [hr] at hz1 hf1 g0
  cases z with
  | false =>
    refine a_if_ne rfl (fun z => absurd rfl z) (fun _ => ?_)
    refine a_s rfl rfl ?_
    rw [if_neg (by decide)]
    exact a_zret rfl rfl rfl (QF.no (hf1 rfl).1 (hf1 rfl).2)
  | true =>
  refine a_if_ne rfl (fun _ => ?_) (fun z => absurd (show (1 : Int32) = 0 from z) (by decide))
  rw [if_pos rfl]
  obtain ⟨-, -, g3⟩ := g0
  have g3 : b < b1 ∧ o1.length + b ≤ o.length + b1 := g3 rfl
  generalize hR : loopP T e (seqP T e (atomR T e 2) 20 2004) 19 2005 b1 o1 = R
  refine a_inv (n := e - b1) (fun m ls h => ls = [some (.ref 420)] ∧ ∃ J p' b' o', h = hp J L w1 w2 t ∧ Cf T e n0 b' o' I J p' ∧ o'.length < b' ∧ loopP T e (seqP T e (atomR T e 2) 20 2004) 19 2005 b' o' = R ∧ m = e - b') ⟨rfl, J1, p1, _, _, rfl, hz1 rfl, by show o1.length < b1; omega, hR, rfl⟩ ?_
  rintro m _ _ ⟨rfl, J, p', b', o', rfl, C, hB', es, hm⟩ ih
  have eT := Cf.tt C hT
  refine a_l0 rfl rfl rfl ?_
  refine a_ldcs (q := 130 + 19) rfl (hw.ld (i := 19) (by decide)) ?_
  refine a_gV rfl lX12_128 mo_X12_passes (h_passes (b := b') (k := 19) hw (by decide) (Cf.pp C) (by rw [eT]; exact Cf.nb C)) rfl rfl rfl ⟨12, _, rfl, rfl, rfl⟩ rfl (fun v' h' hv => ?_)
  obtain ⟨rfl, J2, rfl, h2⟩ := hv
  rw [eT] at h2 ⊢
  cases cw : isWd T e b' 19 with
  | false =>
    refine a_if_eq rfl (fun _ => ?_) (fun z => absurd rfl z)
    rw [if_neg (by rw [cw]; decide)] at h2
    refine a_s rfl rfl ?_
    rw [← es, loopP_f cw]
    exact a_zret rfl rfl rfl (QF.yes (Cf.rd C h2 (Cf.sk C)))
  | true =>
    refine a_if_eq rfl (fun z => absurd z (by decide)) (fun _ => ?_)
    rw [if_pos cw] at h2
    have n2 := nx_lt (T := T) (isWd_lt cw)
    have C2 : Cf T e n0 (nx T e b') o' I J2 (en T e b') := Cf.rd C h2 rfl
    have n2e := Cf.le C2
    have g4 := seqA_gd (T := T) (D := 2) (o := o') n2e
    refine a_l0 rfl rfl rfl ?_
    refine a_gV rfl lX12_213 mo_X12_readAllOf (h_readAllOf_4 hw hbt (Cf.tt C2 hT) (Cf.d C2 hd) (Cf.rf C2) (by omega)) rfl rfl rfl ⟨12, _, rfl, rfl, rfl⟩ rfl (fun v' h' hv => ?_)
    obtain ⟨rfl, J3, p3, rfl, hz3, hf3⟩ := hv
    have el := fun g => loopP_t (op := 2005) (o := o') (item := seqP T e (atomR T e 2) 20 2004) cw g
    have en' := loopP_n (op := 2005) (o := o') (item := seqP T e (atomR T e 2) 20 2004) cw
    rcases hr2 : (seqP T e (atomR T e 2) 20 2004) (nx T e b') o' with ⟨z2, b2, o2⟩
    rw [hr2] at hz3 hf3 g4 el en'
    cases z2 with
    | false =>
      refine a_if_ne rfl (fun z => absurd rfl z) (fun _ => ?_)
      refine a_s rfl rfl ?_
      rw [← es, en' Bool.false_ne_true]
      exact a_zret rfl rfl rfl (Cf.no C2 (hf3 rfl).1 (hf3 rfl).2)
    | true =>
      refine a_if_ne rfl (fun _ => ?_) (fun z => absurd (show (1 : Int32) = 0 from z) (by decide))
      have C3 : Cf T e n0 b2 o2 I J3 p3 := Cf.cc C2 (hz3 rfl)
      have c3e := Cf.le C3
      obtain ⟨-, -, g5⟩ := g4
      have g5 : nx T e b' < b2 ∧ o2.length + nx T e b' ≤ o'.length + b2 := g5 rfl
      have es2 : loopP T e (seqP T e (atomR T e 2) 20 2004) 19 2005 b2 (2005 :: o2) = R := (el (by show b' < b2; omega) rfl).symm.trans es
      refine a_l0 rfl rfl rfl ?_
      refine a_s rfl rfl ?_
      refine a_s rfl rfl ?_
      refine a_eV0 rfl lX12_180 mo_X12_emits (r_X12_emits (Cf.st C3) (by omega)) rfl rfl rfl ⟨12, _, rfl, rfl, rfl⟩ rfl ?_
      refine a_goto rfl ?_
      exact ih (e - b2) _ _ (by omega) ⟨rfl, _, p3, b2, _, rfl, Cf.em (z := 2005) C3 (by decide) (by decide), by show o2.length + 1 < b2; omega, es2, rfl⟩
theorem h_readAtom_3 (hw : WdS S) (hbt : BtT T) (hT : I 426 = T) (hd : I 420 13 = nI 3) (h : Cf T e n0 b o I I p) (hB : o.length < b) : Sp S m_X12_readAtom 29 0 0 [.ref 420] (hp I L w1 w2 t) (QF T e n0 (atomR T e 3 b o) I L w1 w2 t) nX := by
  have he4 := Cf.e4 h
  have hbe := Cf.le h
  refine Sp_of ok_X12_readAtom rfl rfl ?_
  show AW S m_X12_readAtom 29 _ _ 0 0 0 [some (.ref 420), none] [] (hp I L w1 w2 t)
  refine a_l0 rfl rfl rfl ?_
  refine a_s rfl rfl ?_
  refine a_gV rfl lX12_187 mo_X12_sign (h_sign (b := b) (c := 40) (by rw [hT]; exact hbt) (by decide) (Cf.pp h) (by rw [hT]; exact Cf.nb h)) rfl rfl rfl ⟨12, _, rfl, rfl, rfl⟩ rfl (fun v' h' hv => ?_)
  obtain ⟨rfl, J1, rfl, h1⟩ := hv
  rw [hT] at h1 ⊢
  cases c40 : sg T e b (nI 40) with
  | true =>
    have c40 : sg T e b 40 = true := c40
    refine a_if_eq rfl (fun z => absurd z (by decide)) (fun _ => ?_)
    rw [if_pos (show sg T e b (nI 40) = true from c40)] at h1
    have n1 := nx_lt (T := T) (sg_lt c40)
    have C1 : Cf T e n0 (nx T e b) o I J1 (en T e b) := Cf.rd h h1 rfl
    refine a_l0 rfl rfl rfl ?_
    refine a_geti rfl gfX12_194_12 rfl ?_
    refine a_top (y := nI 3) (Cf.d C1 hd) ?_
    refine a_s rfl rfl ?_
    refine a_ic_ne rfl (fun _ => ?_) (fun c => absurd c (by decide))
    refine a_l0 rfl rfl rfl ?_
    refine a_s rfl rfl ?_
    refine a_geti rfl gfX12_194_12 rfl ?_
    refine a_top (y := nI 3) (Cf.d C1 hd) ?_
    refine a_s rfl rfl ?_
    refine a_s rfl rfl ?_
    refine a_top (y := nI 4) (rfl) ?_
    refine a_puti rfl pfX12_194_12 rfl ?_
    refine a_l0 rfl rfl rfl ?_
    have g4 := cndP_gd (T := T) (fun b o h => atomR_gd (T := T) 2 b o h) (o := o) (Cf.le C1)
    refine a_gV rfl lX12_197 mo_X12_readCond (h_readCond_4 hw hbt ((up2_row (by decide)).trans (Cf.tt C1 hT)) up2_at (Cf.up13 C1) (by omega)) rfl rfl rfl ⟨12, _, rfl, rfl, rfl⟩ rfl (fun v' h' hv => ?_)
    obtain ⟨rfl, J9, p9, rfl, hz9, hf9⟩ := hv
    rw [show seqP T e (seqP T e (atomR T e 2) 20 2004) 19 2005 = cndP T e (atomR T e 2) from rfl] at hz9 hf9 ⊢
    rcases hr9 : cndP T e (atomR T e 2) (nx T e b) o with ⟨z9, b9, o9⟩
    rw [hr9] at hz9 hf9 g4
    rw [atomR_p c40 hr9]
    cases z9 with
    | false =>
      refine a_if_ne rfl (fun z => absurd rfl z) (fun _ => ?_)
      refine a_s rfl rfl ?_
      rw [if_neg (by decide)]
      exact a_zret rfl rfl rfl (QF.no (Fm.tr C1.1 (Fm.tr (Fm.up Fm.rf rfl) (hf9 rfl).1)) (hf9 rfl).2)
    | true =>
      refine a_if_ne rfl (fun _ => ?_) (fun z => absurd (show (1 : Int32) = 0 from z) (by decide))
      rw [if_pos rfl]
      have D9 : Cf T e n0 b9 o9 (up2 J1 420 13 (nI 4)) J9 p9 := hz9 rfl
      refine a_l0 rfl rfl rfl ?_
      refine a_s rfl rfl ?_
      refine a_geti rfl gfX12_194_12 rfl ?_
      refine a_top (y := nI 4) (D9.2.1.trans up2_at) ?_
      refine a_s rfl rfl ?_
      refine a_s rfl rfl ?_
      refine a_top (y := nI 3) (rfl) ?_
      refine a_puti rfl pfX12_194_12 rfl ?_
      have C9 := Cf.deep C1 hd D9
      have eT9 := Cf.tt C9 hT
      refine a_l0 rfl rfl rfl ?_
      refine a_s rfl rfl ?_
      refine a_gV rfl lX12_187 mo_X12_sign (h_sign (b := b9) (c := 41) (by rw [eT9]; exact hbt) (by decide) (Cf.pp C9) (by rw [eT9]; exact Cf.nb C9)) rfl rfl rfl ⟨12, _, rfl, rfl, rfl⟩ rfl (fun v' h' hv => ?_)
      obtain ⟨rfl, J3, rfl, h3⟩ := hv
      rw [eT9] at h3 ⊢
      cases c41 : sg T e b9 (nI 41) with
      | false =>
        have c41 : sg T e b9 41 = false := c41
        rw [if_neg (by rw [show sg T e b9 (nI 41) = false from c41]; decide)] at h3
        rw [if_neg (by rw [c41]; decide)]
        exact a_zret rfl rfl rfl (QF.no (Fm.tr C9.1 (Fm.mo (Rd.fm h3) sR_sY)) (Rd.be h3))
      | true =>
        have c41 : sg T e b9 41 = true := c41
        rw [if_pos (show sg T e b9 (nI 41) = true from c41)] at h3
        rw [if_pos c41]
        exact a_zret rfl rfl rfl (QF.yes (Cf.rd C9 h3 rfl))
  | false =>
  have c40 : sg T e b 40 = false := c40
  refine a_if_eq rfl (fun _ => ?_) (fun z => absurd rfl z)
  rw [if_neg (by rw [show sg T e b (nI 40) = false from c40]; decide)] at h1
  have C0 : Cf T e n0 b o I J1 b := Cf.rd h h1 (Cf.sk h)
  have eT0 := Cf.tt C0 hT
  refine a_l0 rfl rfl rfl ?_
  refine a_ldcs (q := 130 + 21) rfl (hw.ld (i := 21) (by decide)) ?_
  refine a_gV rfl lX12_128 mo_X12_passes (h_passes (b := b) (k := 21) hw (by decide) (Cf.pp C0) (by rw [eT0]; exact Cf.nb C0)) rfl rfl rfl ⟨12, _, rfl, rfl, rfl⟩ rfl (fun v' h' hv => ?_)
  obtain ⟨rfl, J2, rfl, h2⟩ := hv
  rw [eT0] at h2 ⊢
  cases c21 : isWd T e b 21 with
  | true =>
    refine a_if_eq rfl (fun z => absurd z (by decide)) (fun _ => ?_)
    rw [if_pos c21] at h2
    have n1 := nx_lt (T := T) (isWd_lt c21)
    have C2 : Cf T e n0 (nx T e b) o I J2 (en T e b) := Cf.rd C0 h2 rfl
    refine a_l0 rfl rfl rfl ?_
    refine a_geti rfl gfX12_194_12 rfl ?_
    refine a_top (y := nI 3) (Cf.d C2 hd) ?_
    refine a_s rfl rfl ?_
    refine a_ic_ne rfl (fun _ => ?_) (fun c => absurd c (by decide))
    refine a_l0 rfl rfl rfl ?_
    refine a_s rfl rfl ?_
    refine a_geti rfl gfX12_194_12 rfl ?_
    refine a_top (y := nI 3) (Cf.d C2 hd) ?_
    refine a_s rfl rfl ?_
    refine a_s rfl rfl ?_
    refine a_top (y := nI 4) (rfl) ?_
    refine a_puti rfl pfX12_194_12 rfl ?_
    refine a_l0 rfl rfl rfl ?_
    have g4 := atomR_gdo (T := T) (D := 2) (o := o) (Cf.le C2)
    refine a_gV rfl lX12_202 mo_X12_readAtom (h_readAtom_4 hw hbt ((up2_row (by decide)).trans (Cf.tt C2 hT)) up2_at (Cf.up13 C2) (by omega)) rfl rfl rfl ⟨12, _, rfl, rfl, rfl⟩ rfl (fun v' h' hv => ?_)
    obtain ⟨rfl, J9, p9, rfl, hz9, hf9⟩ := hv
    rcases hr9 : atomR T e 2 (nx T e b) o with ⟨z9, b9, o9⟩
    rw [hr9] at hz9 hf9 g4
    rw [atomR_n c40 c21 hr9]
    cases z9 with
    | false =>
      refine a_if_ne rfl (fun z => absurd rfl z) (fun _ => ?_)
      refine a_s rfl rfl ?_
      rw [if_neg (by decide)]
      exact a_zret rfl rfl rfl (QF.no (Fm.tr C2.1 (Fm.tr (Fm.up Fm.rf rfl) (hf9 rfl).1)) (hf9 rfl).2)
    | true =>
      refine a_if_ne rfl (fun _ => ?_) (fun z => absurd (show (1 : Int32) = 0 from z) (by decide))
      rw [if_pos rfl]
      have D9 : Cf T e n0 b9 o9 (up2 J2 420 13 (nI 4)) J9 p9 := hz9 rfl
      obtain ⟨-, -, g5⟩ := g4
      have g5 : nx T e b < b9 ∧ o9.length + nx T e b ≤ o.length + b9 := g5 rfl
      have c9e := Cf.le D9
      refine a_l0 rfl rfl rfl ?_
      refine a_s rfl rfl ?_
      refine a_geti rfl gfX12_194_12 rfl ?_
      refine a_top (y := nI 4) (D9.2.1.trans up2_at) ?_
      refine a_s rfl rfl ?_
      refine a_s rfl rfl ?_
      refine a_top (y := nI 3) (rfl) ?_
      refine a_puti rfl pfX12_194_12 rfl ?_
      have C9 := Cf.deep C2 hd D9
      refine a_l0 rfl rfl rfl ?_
      refine a_s rfl rfl ?_
      refine a_s rfl rfl ?_
      refine a_eV0 rfl lX12_180 mo_X12_emits (r_X12_emits (Cf.st C9) (by omega)) rfl rfl rfl ⟨12, _, rfl, rfl, rfl⟩ rfl ?_
      refine a_s rfl rfl ?_
      exact a_zret rfl rfl rfl (QF.yes (Cf.em (z := 2003) C9 (by decide) (by decide)))
  | false =>
  refine a_if_eq rfl (fun _ => ?_) (fun z => absurd rfl z)
  rw [if_neg (by rw [c21]; decide)] at h2
  have C2 : Cf T e n0 b o I J2 b := Cf.rd C0 h2 (Cf.sk C0)
  rw [atomR_b c40 c21]
  refine a_l0 rfl rfl rfl ?_
  refine a_gV rfl lX12_205 mo_X12_readTag (h_readTag hw (Cf.tt C2 hT) (Cf.rf C2) hB) rfl rfl rfl ⟨12, _, rfl, rfl, rfl⟩ rfl (fun v' h' hv => ?_)
  obtain ⟨z3, x3, J3, p3, rfl, rfl, ht3, hf3⟩ := hv
  cases z3 with
  | true =>
    refine a_if_eq rfl (fun z => absurd z (by decide)) (fun _ => ?_)
    refine a_s rfl rfl ?_
    obtain ⟨hx, D3⟩ := ht3 rfl
    rcases hx with ⟨c22, rfl⟩ | ⟨c22, c23, rfl⟩
    · rw [show baseP T e b o = (true, nx T e b, 1007 :: o) from if_pos c22]
      exact a_zret rfl rfl rfl (QF.yes (Cf.cc C2 D3))
    · rw [show baseP T e b o = (true, nx T e b, 1008 :: o) from (if_neg (by rw [c22]; decide)).trans (if_pos c23)]
      exact a_zret rfl rfl rfl (QF.yes (Cf.cc C2 D3))
  | false =>
  refine a_if_eq rfl (fun _ => ?_) (fun z => absurd rfl z)
  obtain ⟨⟨c22, c23⟩, D3⟩ := hf3 rfl
  have C3 := Cf.cc C2 D3
  have g4 := sumP_gd (T := T) (o := o) hbe
  refine a_l0 rfl rfl rfl ?_
  refine a_gV rfl lX12_208 mo_X12_readSum (h_readSum hw hbt (Cf.tt C3 hT) (Cf.rf C3) hB) rfl rfl rfl ⟨12, _, rfl, rfl, rfl⟩ rfl (fun v' h' hv => ?_)
  obtain ⟨rfl, J4, p4, rfl, hz4, hf4⟩ := hv
  rcases hr4 : sumP T e b o with ⟨z4, b4, o4⟩
  rw [baseP_s c22 c23 hr4]
  rw [hr4] at hz4 hf4 g4
  cases z4 with
  | false =>
    refine a_if_ne rfl (fun z => absurd rfl z) (fun _ => ?_)
    refine a_s rfl rfl ?_
    rw [if_neg (by decide)]
    exact a_zret rfl rfl rfl (Cf.no C3 (hf4 rfl).1 (hf4 rfl).2)
  | true =>
  refine a_if_ne rfl (fun _ => ?_) (fun z => absurd (show (1 : Int32) = 0 from z) (by decide))
  rw [if_pos rfl]
  have C4 : Cf T e n0 b4 o4 I J4 p4 := Cf.cc C3 (hz4 rfl)
  obtain ⟨-, -, g4⟩ := g4
  have g4 : b < b4 ∧ o4.length + b ≤ o.length + b4 := g4 rfl
  have key : ∀ {z5 : Bool} {x : Int32} {p' : Nat} {J : Nat → Nat → Int32}, b4 < nx T e b4 → x = (if z5 = true then 2001 else 2002) → Cf T e n0 (nx T e b4) o4 I J p' → AW S m_X12_readAtom 29 (QF T e n0 (cmpP T e x (nx T e b4) o4) I L w1 w2 t) nX 0 0 152 [some (.ref 420), some (.int (bI z5))] [] (hp J L w1 w2 t) := by
    intro z5 x p' J n4 hx C
    have g6 := sumP_gd (T := T) (o := o4) (Cf.le C)
    refine a_l0 rfl rfl rfl ?_
    refine a_gV rfl lX12_208 mo_X12_readSum (h_readSum hw hbt (Cf.tt C hT) (Cf.rf C) (by omega)) rfl rfl rfl ⟨12, _, rfl, rfl, rfl⟩ rfl (fun v' h' hv => ?_)
    obtain ⟨rfl, J6, p6, rfl, hz6, hf6⟩ := hv
    rcases hr6 : sumP T e (nx T e b4) o4 with ⟨z6, b6, o6⟩
    rw [hr6] at hz6 hf6 g6
    cases z6 with
    | false =>
      refine a_if_ne rfl (fun z => absurd rfl z) (fun _ => ?_)
      refine a_s rfl rfl ?_
      rw [cmpP_f hr6]
      exact a_zret rfl rfl rfl (Cf.no C (hf6 rfl).1 (hf6 rfl).2)
    | true =>
      refine a_if_ne rfl (fun _ => ?_) (fun z => absurd (show (1 : Int32) = 0 from z) (by decide))
      rw [cmpP_t hr6]
      have C6 : Cf T e n0 b6 o6 I J6 p6 := Cf.cc C (hz6 rfl)
      have c6e := Cf.le C6
      obtain ⟨-, -, g6⟩ := g6
      have g6 : nx T e b4 < b6 ∧ o6.length + nx T e b4 ≤ o4.length + b6 := g6 rfl
      refine a_l0 rfl rfl rfl ?_
      refine a_l1 rfl rfl rfl ?_
      cases z5 with
      | false =>
        rw [if_neg (by decide)] at hx
        subst hx
        refine a_if_eq rfl (fun _ => ?_) (fun c => absurd rfl c)
        refine a_s rfl rfl ?_
        refine a_s rfl rfl ?_
        refine a_eV0 rfl lX12_180 mo_X12_emits (r_X12_emits (Cf.st C6) (by omega)) rfl rfl rfl ⟨12, _, rfl, rfl, rfl⟩ rfl ?_
        refine a_s rfl rfl ?_
        exact a_zret rfl rfl rfl (QF.yes (Cf.em (z := 2002) C6 (by decide) (by decide)))
      | true =>
        rw [if_pos rfl] at hx
        subst hx
        refine a_if_eq rfl (fun c => absurd c (by decide)) (fun _ => ?_)
        refine a_s rfl rfl ?_
        refine a_goto rfl ?_
        refine a_s rfl rfl ?_
        refine a_eV0 rfl lX12_180 mo_X12_emits (r_X12_emits (Cf.st C6) (by omega)) rfl rfl rfl ⟨12, _, rfl, rfl, rfl⟩ rfl ?_
        refine a_s rfl rfl ?_
        exact a_zret rfl rfl rfl (QF.yes (Cf.em (z := 2001) C6 (by decide) (by decide)))
  have eT4 := Cf.tt C4 hT
  refine a_l0 rfl rfl rfl ?_
  refine a_s rfl rfl ?_
  refine a_gV rfl lX12_187 mo_X12_sign (h_sign (b := b4) (c := 60) (by rw [eT4]; exact hbt) (by decide) (Cf.pp C4) (by rw [eT4]; exact Cf.nb C4)) rfl rfl rfl ⟨12, _, rfl, rfl, rfl⟩ rfl (fun v' h' hv => ?_)
  obtain ⟨rfl, J5, rfl, h5⟩ := hv
  rw [eT4] at h5 ⊢
  refine a_s1 rfl rfl rfl rfl rfl rfl ?_
  refine a_l1 rfl rfl rfl ?_
  cases c60 : sg T e b4 (nI 60) with
  | true =>
    have c60 : sg T e b4 60 = true := c60
    refine a_if_ne rfl (fun _ => ?_) (fun z => absurd (show (1 : Int32) = 0 from z) (by decide))
    rw [if_pos (show sg T e b4 (nI 60) = true from c60)] at h5
    rw [if_pos c60]
    exact key (z5 := true) (nx_lt (sg_lt c60)) rfl (Cf.rd C4 h5 rfl)
  | false =>
  have c60 : sg T e b4 60 = false := c60
  refine a_if_ne rfl (fun z => absurd rfl z) (fun _ => ?_)
  rw [if_neg (by rw [show sg T e b4 (nI 60) = false from c60]; decide)] at h5
  rw [if_neg (by rw [c60]; decide)]
  have C5 : Cf T e n0 b4 o4 I J5 b4 := Cf.rd C4 h5 (Cf.sk C4)
  have eT5 := Cf.tt C5 hT
  refine a_l0 rfl rfl rfl ?_
  refine a_s rfl rfl ?_
  refine a_gV rfl lX12_187 mo_X12_sign (h_sign (b := b4) (c := 62) (by rw [eT5]; exact hbt) (by decide) (Cf.pp C5) (by rw [eT5]; exact Cf.nb C5)) rfl rfl rfl ⟨12, _, rfl, rfl, rfl⟩ rfl (fun v' h' hv => ?_)
  obtain ⟨rfl, J7, rfl, h7⟩ := hv
  rw [eT5] at h7 ⊢
  cases c62 : sg T e b4 (nI 62) with
  | false =>
    have c62 : sg T e b4 62 = false := c62
    refine a_if_eq rfl (fun _ => ?_) (fun z => absurd rfl z)
    rw [if_neg (by rw [show sg T e b4 (nI 62) = false from c62]; decide)] at h7
    rw [if_neg (by rw [c62]; decide)]
    refine a_s rfl rfl ?_
    exact a_zret rfl rfl rfl (QF.no (Fm.tr C5.1 (Fm.mo (Rd.fm h7) sR_sY)) (Rd.be h7))
  | true =>
    have c62 : sg T e b4 62 = true := c62
    refine a_if_eq rfl (fun z => absurd z (by decide)) (fun _ => ?_)
    rw [if_pos (show sg T e b4 (nI 62) = true from c62)] at h7
    rw [if_pos c62]
    exact key (z5 := false) (nx_lt (sg_lt c62)) rfl (Cf.rd C5 h7 rfl)
theorem h_readAllOf_3 (hw : WdS S) (hbt : BtT T) (hT : I 426 = T) (hd : I 420 13 = nI 3) (h : Cf T e n0 b o I I p) (hB : o.length < b) : Sp S m_X12_readAllOf 30 0 0 [.ref 420] (hp I L w1 w2 t) (QF T e n0 (seqP T e (atomR T e 3) 20 2004 b o) I L w1 w2 t) nX := by
  have he4 := Cf.e4 h
  have g0 := atomR_gdo (T := T) (D := 3) (o := o) (Cf.le h)
  refine Sp_of ok_X12_readAllOf rfl rfl ?_
  show AW S m_X12_readAllOf 30 _ _ 0 0 0 [some (.ref 420)] [] (hp I L w1 w2 t)
  refine a_l0 rfl rfl rfl ?_
  refine a_gV rfl lX12_202 mo_X12_readAtom (h_readAtom_3 hw hbt hT hd h hB) rfl rfl rfl ⟨12, _, rfl, rfl, rfl⟩ rfl (fun v' h' hv => ?_)
  obtain ⟨rfl, J1, p1, rfl, hz1, hf1⟩ := hv
  rcases hr : (atomR T e 3) b o with ⟨z, b1, o1⟩
  rw [seqP_of hr]
  rw [hr] at hz1 hf1 g0
  cases z with
  | false =>
    refine a_if_ne rfl (fun z => absurd rfl z) (fun _ => ?_)
    refine a_s rfl rfl ?_
    rw [if_neg (by decide)]
    exact a_zret rfl rfl rfl (QF.no (hf1 rfl).1 (hf1 rfl).2)
  | true =>
  refine a_if_ne rfl (fun _ => ?_) (fun z => absurd (show (1 : Int32) = 0 from z) (by decide))
  rw [if_pos rfl]
  obtain ⟨-, -, g3⟩ := g0
  have g3 : b < b1 ∧ o1.length + b ≤ o.length + b1 := g3 rfl
  generalize hR : loopP T e (atomR T e 3) 20 2004 b1 o1 = R
  refine a_inv (n := e - b1) (fun m ls h => ls = [some (.ref 420)] ∧ ∃ J p' b' o', h = hp J L w1 w2 t ∧ Cf T e n0 b' o' I J p' ∧ o'.length < b' ∧ loopP T e (atomR T e 3) 20 2004 b' o' = R ∧ m = e - b') ⟨rfl, J1, p1, _, _, rfl, hz1 rfl, by show o1.length < b1; omega, hR, rfl⟩ ?_
  rintro m _ _ ⟨rfl, J, p', b', o', rfl, C, hB', es, hm⟩ ih
  have eT := Cf.tt C hT
  refine a_l0 rfl rfl rfl ?_
  refine a_ldcs (q := 130 + 20) rfl (hw.ld (i := 20) (by decide)) ?_
  refine a_gV rfl lX12_128 mo_X12_passes (h_passes (b := b') (k := 20) hw (by decide) (Cf.pp C) (by rw [eT]; exact Cf.nb C)) rfl rfl rfl ⟨12, _, rfl, rfl, rfl⟩ rfl (fun v' h' hv => ?_)
  obtain ⟨rfl, J2, rfl, h2⟩ := hv
  rw [eT] at h2 ⊢
  cases cw : isWd T e b' 20 with
  | false =>
    refine a_if_eq rfl (fun _ => ?_) (fun z => absurd rfl z)
    rw [if_neg (by rw [cw]; decide)] at h2
    refine a_s rfl rfl ?_
    rw [← es, loopP_f cw]
    exact a_zret rfl rfl rfl (QF.yes (Cf.rd C h2 (Cf.sk C)))
  | true =>
    refine a_if_eq rfl (fun z => absurd z (by decide)) (fun _ => ?_)
    rw [if_pos cw] at h2
    have n2 := nx_lt (T := T) (isWd_lt cw)
    have C2 : Cf T e n0 (nx T e b') o' I J2 (en T e b') := Cf.rd C h2 rfl
    have n2e := Cf.le C2
    have g4 := atomR_gdo (T := T) (D := 3) (o := o') n2e
    refine a_l0 rfl rfl rfl ?_
    refine a_gV rfl lX12_202 mo_X12_readAtom (h_readAtom_3 hw hbt (Cf.tt C2 hT) (Cf.d C2 hd) (Cf.rf C2) (by omega)) rfl rfl rfl ⟨12, _, rfl, rfl, rfl⟩ rfl (fun v' h' hv => ?_)
    obtain ⟨rfl, J3, p3, rfl, hz3, hf3⟩ := hv
    have el := fun g => loopP_t (op := 2004) (o := o') (item := atomR T e 3) cw g
    have en' := loopP_n (op := 2004) (o := o') (item := atomR T e 3) cw
    rcases hr2 : (atomR T e 3) (nx T e b') o' with ⟨z2, b2, o2⟩
    rw [hr2] at hz3 hf3 g4 el en'
    cases z2 with
    | false =>
      refine a_if_ne rfl (fun z => absurd rfl z) (fun _ => ?_)
      refine a_s rfl rfl ?_
      rw [← es, en' Bool.false_ne_true]
      exact a_zret rfl rfl rfl (Cf.no C2 (hf3 rfl).1 (hf3 rfl).2)
    | true =>
      refine a_if_ne rfl (fun _ => ?_) (fun z => absurd (show (1 : Int32) = 0 from z) (by decide))
      have C3 : Cf T e n0 b2 o2 I J3 p3 := Cf.cc C2 (hz3 rfl)
      have c3e := Cf.le C3
      obtain ⟨-, -, g5⟩ := g4
      have g5 : nx T e b' < b2 ∧ o2.length + nx T e b' ≤ o'.length + b2 := g5 rfl
      have es2 : loopP T e (atomR T e 3) 20 2004 b2 (2004 :: o2) = R := (el (by show b' < b2; omega) rfl).symm.trans es
      refine a_l0 rfl rfl rfl ?_
      refine a_s rfl rfl ?_
      refine a_s rfl rfl ?_
      refine a_eV0 rfl lX12_180 mo_X12_emits (r_X12_emits (Cf.st C3) (by omega)) rfl rfl rfl ⟨12, _, rfl, rfl, rfl⟩ rfl ?_
      refine a_goto rfl ?_
      exact ih (e - b2) _ _ (by omega) ⟨rfl, _, p3, b2, _, rfl, Cf.em (z := 2004) C3 (by decide) (by decide), by show o2.length + 1 < b2; omega, es2, rfl⟩
theorem h_readCond_3 (hw : WdS S) (hbt : BtT T) (hT : I 426 = T) (hd : I 420 13 = nI 3) (h : Cf T e n0 b o I I p) (hB : o.length < b) : Sp S m_X12_readCond 31 0 0 [.ref 420] (hp I L w1 w2 t) (QF T e n0 (seqP T e (seqP T e (atomR T e 3) 20 2004) 19 2005 b o) I L w1 w2 t) nX := by
  have he4 := Cf.e4 h
  have g0 := seqA_gd (T := T) (D := 3) (o := o) (Cf.le h)
  refine Sp_of ok_X12_readCond rfl rfl ?_
  show AW S m_X12_readCond 31 _ _ 0 0 0 [some (.ref 420)] [] (hp I L w1 w2 t)
  refine a_l0 rfl rfl rfl ?_
  refine a_gV rfl lX12_213 mo_X12_readAllOf (h_readAllOf_3 hw hbt hT hd h hB) rfl rfl rfl ⟨12, _, rfl, rfl, rfl⟩ rfl (fun v' h' hv => ?_)
  obtain ⟨rfl, J1, p1, rfl, hz1, hf1⟩ := hv
  rcases hr : (seqP T e (atomR T e 3) 20 2004) b o with ⟨z, b1, o1⟩
  rw [seqP_of hr]
  rw [hr] at hz1 hf1 g0
  cases z with
  | false =>
    refine a_if_ne rfl (fun z => absurd rfl z) (fun _ => ?_)
    refine a_s rfl rfl ?_
    rw [if_neg (by decide)]
    exact a_zret rfl rfl rfl (QF.no (hf1 rfl).1 (hf1 rfl).2)
  | true =>
  refine a_if_ne rfl (fun _ => ?_) (fun z => absurd (show (1 : Int32) = 0 from z) (by decide))
  rw [if_pos rfl]
  obtain ⟨-, -, g3⟩ := g0
  have g3 : b < b1 ∧ o1.length + b ≤ o.length + b1 := g3 rfl
  generalize hR : loopP T e (seqP T e (atomR T e 3) 20 2004) 19 2005 b1 o1 = R
  refine a_inv (n := e - b1) (fun m ls h => ls = [some (.ref 420)] ∧ ∃ J p' b' o', h = hp J L w1 w2 t ∧ Cf T e n0 b' o' I J p' ∧ o'.length < b' ∧ loopP T e (seqP T e (atomR T e 3) 20 2004) 19 2005 b' o' = R ∧ m = e - b') ⟨rfl, J1, p1, _, _, rfl, hz1 rfl, by show o1.length < b1; omega, hR, rfl⟩ ?_
  rintro m _ _ ⟨rfl, J, p', b', o', rfl, C, hB', es, hm⟩ ih
  have eT := Cf.tt C hT
  refine a_l0 rfl rfl rfl ?_
  refine a_ldcs (q := 130 + 19) rfl (hw.ld (i := 19) (by decide)) ?_
  refine a_gV rfl lX12_128 mo_X12_passes (h_passes (b := b') (k := 19) hw (by decide) (Cf.pp C) (by rw [eT]; exact Cf.nb C)) rfl rfl rfl ⟨12, _, rfl, rfl, rfl⟩ rfl (fun v' h' hv => ?_)
  obtain ⟨rfl, J2, rfl, h2⟩ := hv
  rw [eT] at h2 ⊢
  cases cw : isWd T e b' 19 with
  | false =>
    refine a_if_eq rfl (fun _ => ?_) (fun z => absurd rfl z)
    rw [if_neg (by rw [cw]; decide)] at h2
    refine a_s rfl rfl ?_
    rw [← es, loopP_f cw]
    exact a_zret rfl rfl rfl (QF.yes (Cf.rd C h2 (Cf.sk C)))
  | true =>
    refine a_if_eq rfl (fun z => absurd z (by decide)) (fun _ => ?_)
    rw [if_pos cw] at h2
    have n2 := nx_lt (T := T) (isWd_lt cw)
    have C2 : Cf T e n0 (nx T e b') o' I J2 (en T e b') := Cf.rd C h2 rfl
    have n2e := Cf.le C2
    have g4 := seqA_gd (T := T) (D := 3) (o := o') n2e
    refine a_l0 rfl rfl rfl ?_
    refine a_gV rfl lX12_213 mo_X12_readAllOf (h_readAllOf_3 hw hbt (Cf.tt C2 hT) (Cf.d C2 hd) (Cf.rf C2) (by omega)) rfl rfl rfl ⟨12, _, rfl, rfl, rfl⟩ rfl (fun v' h' hv => ?_)
    obtain ⟨rfl, J3, p3, rfl, hz3, hf3⟩ := hv
    have el := fun g => loopP_t (op := 2005) (o := o') (item := seqP T e (atomR T e 3) 20 2004) cw g
    have en' := loopP_n (op := 2005) (o := o') (item := seqP T e (atomR T e 3) 20 2004) cw
    rcases hr2 : (seqP T e (atomR T e 3) 20 2004) (nx T e b') o' with ⟨z2, b2, o2⟩
    rw [hr2] at hz3 hf3 g4 el en'
    cases z2 with
    | false =>
      refine a_if_ne rfl (fun z => absurd rfl z) (fun _ => ?_)
      refine a_s rfl rfl ?_
      rw [← es, en' Bool.false_ne_true]
      exact a_zret rfl rfl rfl (Cf.no C2 (hf3 rfl).1 (hf3 rfl).2)
    | true =>
      refine a_if_ne rfl (fun _ => ?_) (fun z => absurd (show (1 : Int32) = 0 from z) (by decide))
      have C3 : Cf T e n0 b2 o2 I J3 p3 := Cf.cc C2 (hz3 rfl)
      have c3e := Cf.le C3
      obtain ⟨-, -, g5⟩ := g4
      have g5 : nx T e b' < b2 ∧ o2.length + nx T e b' ≤ o'.length + b2 := g5 rfl
      have es2 : loopP T e (seqP T e (atomR T e 3) 20 2004) 19 2005 b2 (2005 :: o2) = R := (el (by show b' < b2; omega) rfl).symm.trans es
      refine a_l0 rfl rfl rfl ?_
      refine a_s rfl rfl ?_
      refine a_s rfl rfl ?_
      refine a_eV0 rfl lX12_180 mo_X12_emits (r_X12_emits (Cf.st C3) (by omega)) rfl rfl rfl ⟨12, _, rfl, rfl, rfl⟩ rfl ?_
      refine a_goto rfl ?_
      exact ih (e - b2) _ _ (by omega) ⟨rfl, _, p3, b2, _, rfl, Cf.em (z := 2005) C3 (by decide) (by decide), by show o2.length + 1 < b2; omega, es2, rfl⟩
theorem h_readAtom_2 (hw : WdS S) (hbt : BtT T) (hT : I 426 = T) (hd : I 420 13 = nI 2) (h : Cf T e n0 b o I I p) (hB : o.length < b) : Sp S m_X12_readAtom 32 0 0 [.ref 420] (hp I L w1 w2 t) (QF T e n0 (atomR T e 4 b o) I L w1 w2 t) nX := by
  have he4 := Cf.e4 h
  have hbe := Cf.le h
  refine Sp_of ok_X12_readAtom rfl rfl ?_
  show AW S m_X12_readAtom 32 _ _ 0 0 0 [some (.ref 420), none] [] (hp I L w1 w2 t)
  refine a_l0 rfl rfl rfl ?_
  refine a_s rfl rfl ?_
  refine a_gV rfl lX12_187 mo_X12_sign (h_sign (b := b) (c := 40) (by rw [hT]; exact hbt) (by decide) (Cf.pp h) (by rw [hT]; exact Cf.nb h)) rfl rfl rfl ⟨12, _, rfl, rfl, rfl⟩ rfl (fun v' h' hv => ?_)
  obtain ⟨rfl, J1, rfl, h1⟩ := hv
  rw [hT] at h1 ⊢
  cases c40 : sg T e b (nI 40) with
  | true =>
    have c40 : sg T e b 40 = true := c40
    refine a_if_eq rfl (fun z => absurd z (by decide)) (fun _ => ?_)
    rw [if_pos (show sg T e b (nI 40) = true from c40)] at h1
    have n1 := nx_lt (T := T) (sg_lt c40)
    have C1 : Cf T e n0 (nx T e b) o I J1 (en T e b) := Cf.rd h h1 rfl
    refine a_l0 rfl rfl rfl ?_
    refine a_geti rfl gfX12_194_12 rfl ?_
    refine a_top (y := nI 2) (Cf.d C1 hd) ?_
    refine a_s rfl rfl ?_
    refine a_ic_ne rfl (fun _ => ?_) (fun c => absurd c (by decide))
    refine a_l0 rfl rfl rfl ?_
    refine a_s rfl rfl ?_
    refine a_geti rfl gfX12_194_12 rfl ?_
    refine a_top (y := nI 2) (Cf.d C1 hd) ?_
    refine a_s rfl rfl ?_
    refine a_s rfl rfl ?_
    refine a_top (y := nI 3) (rfl) ?_
    refine a_puti rfl pfX12_194_12 rfl ?_
    refine a_l0 rfl rfl rfl ?_
    have g4 := cndP_gd (T := T) (fun b o h => atomR_gd (T := T) 3 b o h) (o := o) (Cf.le C1)
    refine a_gV rfl lX12_197 mo_X12_readCond (h_readCond_3 hw hbt ((up2_row (by decide)).trans (Cf.tt C1 hT)) up2_at (Cf.up13 C1) (by omega)) rfl rfl rfl ⟨12, _, rfl, rfl, rfl⟩ rfl (fun v' h' hv => ?_)
    obtain ⟨rfl, J9, p9, rfl, hz9, hf9⟩ := hv
    rw [show seqP T e (seqP T e (atomR T e 3) 20 2004) 19 2005 = cndP T e (atomR T e 3) from rfl] at hz9 hf9 ⊢
    rcases hr9 : cndP T e (atomR T e 3) (nx T e b) o with ⟨z9, b9, o9⟩
    rw [hr9] at hz9 hf9 g4
    rw [atomR_p c40 hr9]
    cases z9 with
    | false =>
      refine a_if_ne rfl (fun z => absurd rfl z) (fun _ => ?_)
      refine a_s rfl rfl ?_
      rw [if_neg (by decide)]
      exact a_zret rfl rfl rfl (QF.no (Fm.tr C1.1 (Fm.tr (Fm.up Fm.rf rfl) (hf9 rfl).1)) (hf9 rfl).2)
    | true =>
      refine a_if_ne rfl (fun _ => ?_) (fun z => absurd (show (1 : Int32) = 0 from z) (by decide))
      rw [if_pos rfl]
      have D9 : Cf T e n0 b9 o9 (up2 J1 420 13 (nI 3)) J9 p9 := hz9 rfl
      refine a_l0 rfl rfl rfl ?_
      refine a_s rfl rfl ?_
      refine a_geti rfl gfX12_194_12 rfl ?_
      refine a_top (y := nI 3) (D9.2.1.trans up2_at) ?_
      refine a_s rfl rfl ?_
      refine a_s rfl rfl ?_
      refine a_top (y := nI 2) (rfl) ?_
      refine a_puti rfl pfX12_194_12 rfl ?_
      have C9 := Cf.deep C1 hd D9
      have eT9 := Cf.tt C9 hT
      refine a_l0 rfl rfl rfl ?_
      refine a_s rfl rfl ?_
      refine a_gV rfl lX12_187 mo_X12_sign (h_sign (b := b9) (c := 41) (by rw [eT9]; exact hbt) (by decide) (Cf.pp C9) (by rw [eT9]; exact Cf.nb C9)) rfl rfl rfl ⟨12, _, rfl, rfl, rfl⟩ rfl (fun v' h' hv => ?_)
      obtain ⟨rfl, J3, rfl, h3⟩ := hv
      rw [eT9] at h3 ⊢
      cases c41 : sg T e b9 (nI 41) with
      | false =>
        have c41 : sg T e b9 41 = false := c41
        rw [if_neg (by rw [show sg T e b9 (nI 41) = false from c41]; decide)] at h3
        rw [if_neg (by rw [c41]; decide)]
        exact a_zret rfl rfl rfl (QF.no (Fm.tr C9.1 (Fm.mo (Rd.fm h3) sR_sY)) (Rd.be h3))
      | true =>
        have c41 : sg T e b9 41 = true := c41
        rw [if_pos (show sg T e b9 (nI 41) = true from c41)] at h3
        rw [if_pos c41]
        exact a_zret rfl rfl rfl (QF.yes (Cf.rd C9 h3 rfl))
  | false =>
  have c40 : sg T e b 40 = false := c40
  refine a_if_eq rfl (fun _ => ?_) (fun z => absurd rfl z)
  rw [if_neg (by rw [show sg T e b (nI 40) = false from c40]; decide)] at h1
  have C0 : Cf T e n0 b o I J1 b := Cf.rd h h1 (Cf.sk h)
  have eT0 := Cf.tt C0 hT
  refine a_l0 rfl rfl rfl ?_
  refine a_ldcs (q := 130 + 21) rfl (hw.ld (i := 21) (by decide)) ?_
  refine a_gV rfl lX12_128 mo_X12_passes (h_passes (b := b) (k := 21) hw (by decide) (Cf.pp C0) (by rw [eT0]; exact Cf.nb C0)) rfl rfl rfl ⟨12, _, rfl, rfl, rfl⟩ rfl (fun v' h' hv => ?_)
  obtain ⟨rfl, J2, rfl, h2⟩ := hv
  rw [eT0] at h2 ⊢
  cases c21 : isWd T e b 21 with
  | true =>
    refine a_if_eq rfl (fun z => absurd z (by decide)) (fun _ => ?_)
    rw [if_pos c21] at h2
    have n1 := nx_lt (T := T) (isWd_lt c21)
    have C2 : Cf T e n0 (nx T e b) o I J2 (en T e b) := Cf.rd C0 h2 rfl
    refine a_l0 rfl rfl rfl ?_
    refine a_geti rfl gfX12_194_12 rfl ?_
    refine a_top (y := nI 2) (Cf.d C2 hd) ?_
    refine a_s rfl rfl ?_
    refine a_ic_ne rfl (fun _ => ?_) (fun c => absurd c (by decide))
    refine a_l0 rfl rfl rfl ?_
    refine a_s rfl rfl ?_
    refine a_geti rfl gfX12_194_12 rfl ?_
    refine a_top (y := nI 2) (Cf.d C2 hd) ?_
    refine a_s rfl rfl ?_
    refine a_s rfl rfl ?_
    refine a_top (y := nI 3) (rfl) ?_
    refine a_puti rfl pfX12_194_12 rfl ?_
    refine a_l0 rfl rfl rfl ?_
    have g4 := atomR_gdo (T := T) (D := 3) (o := o) (Cf.le C2)
    refine a_gV rfl lX12_202 mo_X12_readAtom (h_readAtom_3 hw hbt ((up2_row (by decide)).trans (Cf.tt C2 hT)) up2_at (Cf.up13 C2) (by omega)) rfl rfl rfl ⟨12, _, rfl, rfl, rfl⟩ rfl (fun v' h' hv => ?_)
    obtain ⟨rfl, J9, p9, rfl, hz9, hf9⟩ := hv
    rcases hr9 : atomR T e 3 (nx T e b) o with ⟨z9, b9, o9⟩
    rw [hr9] at hz9 hf9 g4
    rw [atomR_n c40 c21 hr9]
    cases z9 with
    | false =>
      refine a_if_ne rfl (fun z => absurd rfl z) (fun _ => ?_)
      refine a_s rfl rfl ?_
      rw [if_neg (by decide)]
      exact a_zret rfl rfl rfl (QF.no (Fm.tr C2.1 (Fm.tr (Fm.up Fm.rf rfl) (hf9 rfl).1)) (hf9 rfl).2)
    | true =>
      refine a_if_ne rfl (fun _ => ?_) (fun z => absurd (show (1 : Int32) = 0 from z) (by decide))
      rw [if_pos rfl]
      have D9 : Cf T e n0 b9 o9 (up2 J2 420 13 (nI 3)) J9 p9 := hz9 rfl
      obtain ⟨-, -, g5⟩ := g4
      have g5 : nx T e b < b9 ∧ o9.length + nx T e b ≤ o.length + b9 := g5 rfl
      have c9e := Cf.le D9
      refine a_l0 rfl rfl rfl ?_
      refine a_s rfl rfl ?_
      refine a_geti rfl gfX12_194_12 rfl ?_
      refine a_top (y := nI 3) (D9.2.1.trans up2_at) ?_
      refine a_s rfl rfl ?_
      refine a_s rfl rfl ?_
      refine a_top (y := nI 2) (rfl) ?_
      refine a_puti rfl pfX12_194_12 rfl ?_
      have C9 := Cf.deep C2 hd D9
      refine a_l0 rfl rfl rfl ?_
      refine a_s rfl rfl ?_
      refine a_s rfl rfl ?_
      refine a_eV0 rfl lX12_180 mo_X12_emits (r_X12_emits (Cf.st C9) (by omega)) rfl rfl rfl ⟨12, _, rfl, rfl, rfl⟩ rfl ?_
      refine a_s rfl rfl ?_
      exact a_zret rfl rfl rfl (QF.yes (Cf.em (z := 2003) C9 (by decide) (by decide)))
  | false =>
  refine a_if_eq rfl (fun _ => ?_) (fun z => absurd rfl z)
  rw [if_neg (by rw [c21]; decide)] at h2
  have C2 : Cf T e n0 b o I J2 b := Cf.rd C0 h2 (Cf.sk C0)
  rw [atomR_b c40 c21]
  refine a_l0 rfl rfl rfl ?_
  refine a_gV rfl lX12_205 mo_X12_readTag (h_readTag hw (Cf.tt C2 hT) (Cf.rf C2) hB) rfl rfl rfl ⟨12, _, rfl, rfl, rfl⟩ rfl (fun v' h' hv => ?_)
  obtain ⟨z3, x3, J3, p3, rfl, rfl, ht3, hf3⟩ := hv
  cases z3 with
  | true =>
    refine a_if_eq rfl (fun z => absurd z (by decide)) (fun _ => ?_)
    refine a_s rfl rfl ?_
    obtain ⟨hx, D3⟩ := ht3 rfl
    rcases hx with ⟨c22, rfl⟩ | ⟨c22, c23, rfl⟩
    · rw [show baseP T e b o = (true, nx T e b, 1007 :: o) from if_pos c22]
      exact a_zret rfl rfl rfl (QF.yes (Cf.cc C2 D3))
    · rw [show baseP T e b o = (true, nx T e b, 1008 :: o) from (if_neg (by rw [c22]; decide)).trans (if_pos c23)]
      exact a_zret rfl rfl rfl (QF.yes (Cf.cc C2 D3))
  | false =>
  refine a_if_eq rfl (fun _ => ?_) (fun z => absurd rfl z)
  obtain ⟨⟨c22, c23⟩, D3⟩ := hf3 rfl
  have C3 := Cf.cc C2 D3
  have g4 := sumP_gd (T := T) (o := o) hbe
  refine a_l0 rfl rfl rfl ?_
  refine a_gV rfl lX12_208 mo_X12_readSum (h_readSum hw hbt (Cf.tt C3 hT) (Cf.rf C3) hB) rfl rfl rfl ⟨12, _, rfl, rfl, rfl⟩ rfl (fun v' h' hv => ?_)
  obtain ⟨rfl, J4, p4, rfl, hz4, hf4⟩ := hv
  rcases hr4 : sumP T e b o with ⟨z4, b4, o4⟩
  rw [baseP_s c22 c23 hr4]
  rw [hr4] at hz4 hf4 g4
  cases z4 with
  | false =>
    refine a_if_ne rfl (fun z => absurd rfl z) (fun _ => ?_)
    refine a_s rfl rfl ?_
    rw [if_neg (by decide)]
    exact a_zret rfl rfl rfl (Cf.no C3 (hf4 rfl).1 (hf4 rfl).2)
  | true =>
  refine a_if_ne rfl (fun _ => ?_) (fun z => absurd (show (1 : Int32) = 0 from z) (by decide))
  rw [if_pos rfl]
  have C4 : Cf T e n0 b4 o4 I J4 p4 := Cf.cc C3 (hz4 rfl)
  obtain ⟨-, -, g4⟩ := g4
  have g4 : b < b4 ∧ o4.length + b ≤ o.length + b4 := g4 rfl
  have key : ∀ {z5 : Bool} {x : Int32} {p' : Nat} {J : Nat → Nat → Int32}, b4 < nx T e b4 → x = (if z5 = true then 2001 else 2002) → Cf T e n0 (nx T e b4) o4 I J p' → AW S m_X12_readAtom 32 (QF T e n0 (cmpP T e x (nx T e b4) o4) I L w1 w2 t) nX 0 0 152 [some (.ref 420), some (.int (bI z5))] [] (hp J L w1 w2 t) := by
    intro z5 x p' J n4 hx C
    have g6 := sumP_gd (T := T) (o := o4) (Cf.le C)
    refine a_l0 rfl rfl rfl ?_
    refine a_gV rfl lX12_208 mo_X12_readSum (h_readSum hw hbt (Cf.tt C hT) (Cf.rf C) (by omega)) rfl rfl rfl ⟨12, _, rfl, rfl, rfl⟩ rfl (fun v' h' hv => ?_)
    obtain ⟨rfl, J6, p6, rfl, hz6, hf6⟩ := hv
    rcases hr6 : sumP T e (nx T e b4) o4 with ⟨z6, b6, o6⟩
    rw [hr6] at hz6 hf6 g6
    cases z6 with
    | false =>
      refine a_if_ne rfl (fun z => absurd rfl z) (fun _ => ?_)
      refine a_s rfl rfl ?_
      rw [cmpP_f hr6]
      exact a_zret rfl rfl rfl (Cf.no C (hf6 rfl).1 (hf6 rfl).2)
    | true =>
      refine a_if_ne rfl (fun _ => ?_) (fun z => absurd (show (1 : Int32) = 0 from z) (by decide))
      rw [cmpP_t hr6]
      have C6 : Cf T e n0 b6 o6 I J6 p6 := Cf.cc C (hz6 rfl)
      have c6e := Cf.le C6
      obtain ⟨-, -, g6⟩ := g6
      have g6 : nx T e b4 < b6 ∧ o6.length + nx T e b4 ≤ o4.length + b6 := g6 rfl
      refine a_l0 rfl rfl rfl ?_
      refine a_l1 rfl rfl rfl ?_
      cases z5 with
      | false =>
        rw [if_neg (by decide)] at hx
        subst hx
        refine a_if_eq rfl (fun _ => ?_) (fun c => absurd rfl c)
        refine a_s rfl rfl ?_
        refine a_s rfl rfl ?_
        refine a_eV0 rfl lX12_180 mo_X12_emits (r_X12_emits (Cf.st C6) (by omega)) rfl rfl rfl ⟨12, _, rfl, rfl, rfl⟩ rfl ?_
        refine a_s rfl rfl ?_
        exact a_zret rfl rfl rfl (QF.yes (Cf.em (z := 2002) C6 (by decide) (by decide)))
      | true =>
        rw [if_pos rfl] at hx
        subst hx
        refine a_if_eq rfl (fun c => absurd c (by decide)) (fun _ => ?_)
        refine a_s rfl rfl ?_
        refine a_goto rfl ?_
        refine a_s rfl rfl ?_
        refine a_eV0 rfl lX12_180 mo_X12_emits (r_X12_emits (Cf.st C6) (by omega)) rfl rfl rfl ⟨12, _, rfl, rfl, rfl⟩ rfl ?_
        refine a_s rfl rfl ?_
        exact a_zret rfl rfl rfl (QF.yes (Cf.em (z := 2001) C6 (by decide) (by decide)))
  have eT4 := Cf.tt C4 hT
  refine a_l0 rfl rfl rfl ?_
  refine a_s rfl rfl ?_
  refine a_gV rfl lX12_187 mo_X12_sign (h_sign (b := b4) (c := 60) (by rw [eT4]; exact hbt) (by decide) (Cf.pp C4) (by rw [eT4]; exact Cf.nb C4)) rfl rfl rfl ⟨12, _, rfl, rfl, rfl⟩ rfl (fun v' h' hv => ?_)
  obtain ⟨rfl, J5, rfl, h5⟩ := hv
  rw [eT4] at h5 ⊢
  refine a_s1 rfl rfl rfl rfl rfl rfl ?_
  refine a_l1 rfl rfl rfl ?_
  cases c60 : sg T e b4 (nI 60) with
  | true =>
    have c60 : sg T e b4 60 = true := c60
    refine a_if_ne rfl (fun _ => ?_) (fun z => absurd (show (1 : Int32) = 0 from z) (by decide))
    rw [if_pos (show sg T e b4 (nI 60) = true from c60)] at h5
    rw [if_pos c60]
    exact key (z5 := true) (nx_lt (sg_lt c60)) rfl (Cf.rd C4 h5 rfl)
  | false =>
  have c60 : sg T e b4 60 = false := c60
  refine a_if_ne rfl (fun z => absurd rfl z) (fun _ => ?_)
  rw [if_neg (by rw [show sg T e b4 (nI 60) = false from c60]; decide)] at h5
  rw [if_neg (by rw [c60]; decide)]
  have C5 : Cf T e n0 b4 o4 I J5 b4 := Cf.rd C4 h5 (Cf.sk C4)
  have eT5 := Cf.tt C5 hT
  refine a_l0 rfl rfl rfl ?_
  refine a_s rfl rfl ?_
  refine a_gV rfl lX12_187 mo_X12_sign (h_sign (b := b4) (c := 62) (by rw [eT5]; exact hbt) (by decide) (Cf.pp C5) (by rw [eT5]; exact Cf.nb C5)) rfl rfl rfl ⟨12, _, rfl, rfl, rfl⟩ rfl (fun v' h' hv => ?_)
  obtain ⟨rfl, J7, rfl, h7⟩ := hv
  rw [eT5] at h7 ⊢
  cases c62 : sg T e b4 (nI 62) with
  | false =>
    have c62 : sg T e b4 62 = false := c62
    refine a_if_eq rfl (fun _ => ?_) (fun z => absurd rfl z)
    rw [if_neg (by rw [show sg T e b4 (nI 62) = false from c62]; decide)] at h7
    rw [if_neg (by rw [c62]; decide)]
    refine a_s rfl rfl ?_
    exact a_zret rfl rfl rfl (QF.no (Fm.tr C5.1 (Fm.mo (Rd.fm h7) sR_sY)) (Rd.be h7))
  | true =>
    have c62 : sg T e b4 62 = true := c62
    refine a_if_eq rfl (fun z => absurd z (by decide)) (fun _ => ?_)
    rw [if_pos (show sg T e b4 (nI 62) = true from c62)] at h7
    rw [if_pos c62]
    exact key (z5 := false) (nx_lt (sg_lt c62)) rfl (Cf.rd C5 h7 rfl)
theorem h_readAllOf_2 (hw : WdS S) (hbt : BtT T) (hT : I 426 = T) (hd : I 420 13 = nI 2) (h : Cf T e n0 b o I I p) (hB : o.length < b) : Sp S m_X12_readAllOf 33 0 0 [.ref 420] (hp I L w1 w2 t) (QF T e n0 (seqP T e (atomR T e 4) 20 2004 b o) I L w1 w2 t) nX := by
  have he4 := Cf.e4 h
  have g0 := atomR_gdo (T := T) (D := 4) (o := o) (Cf.le h)
  refine Sp_of ok_X12_readAllOf rfl rfl ?_
  show AW S m_X12_readAllOf 33 _ _ 0 0 0 [some (.ref 420)] [] (hp I L w1 w2 t)
  refine a_l0 rfl rfl rfl ?_
  refine a_gV rfl lX12_202 mo_X12_readAtom (h_readAtom_2 hw hbt hT hd h hB) rfl rfl rfl ⟨12, _, rfl, rfl, rfl⟩ rfl (fun v' h' hv => ?_)
  obtain ⟨rfl, J1, p1, rfl, hz1, hf1⟩ := hv
  rcases hr : (atomR T e 4) b o with ⟨z, b1, o1⟩
  rw [seqP_of hr]
  rw [hr] at hz1 hf1 g0
  cases z with
  | false =>
    refine a_if_ne rfl (fun z => absurd rfl z) (fun _ => ?_)
    refine a_s rfl rfl ?_
    rw [if_neg (by decide)]
    exact a_zret rfl rfl rfl (QF.no (hf1 rfl).1 (hf1 rfl).2)
  | true =>
  refine a_if_ne rfl (fun _ => ?_) (fun z => absurd (show (1 : Int32) = 0 from z) (by decide))
  rw [if_pos rfl]
  obtain ⟨-, -, g3⟩ := g0
  have g3 : b < b1 ∧ o1.length + b ≤ o.length + b1 := g3 rfl
  generalize hR : loopP T e (atomR T e 4) 20 2004 b1 o1 = R
  refine a_inv (n := e - b1) (fun m ls h => ls = [some (.ref 420)] ∧ ∃ J p' b' o', h = hp J L w1 w2 t ∧ Cf T e n0 b' o' I J p' ∧ o'.length < b' ∧ loopP T e (atomR T e 4) 20 2004 b' o' = R ∧ m = e - b') ⟨rfl, J1, p1, _, _, rfl, hz1 rfl, by show o1.length < b1; omega, hR, rfl⟩ ?_
  rintro m _ _ ⟨rfl, J, p', b', o', rfl, C, hB', es, hm⟩ ih
  have eT := Cf.tt C hT
  refine a_l0 rfl rfl rfl ?_
  refine a_ldcs (q := 130 + 20) rfl (hw.ld (i := 20) (by decide)) ?_
  refine a_gV rfl lX12_128 mo_X12_passes (h_passes (b := b') (k := 20) hw (by decide) (Cf.pp C) (by rw [eT]; exact Cf.nb C)) rfl rfl rfl ⟨12, _, rfl, rfl, rfl⟩ rfl (fun v' h' hv => ?_)
  obtain ⟨rfl, J2, rfl, h2⟩ := hv
  rw [eT] at h2 ⊢
  cases cw : isWd T e b' 20 with
  | false =>
    refine a_if_eq rfl (fun _ => ?_) (fun z => absurd rfl z)
    rw [if_neg (by rw [cw]; decide)] at h2
    refine a_s rfl rfl ?_
    rw [← es, loopP_f cw]
    exact a_zret rfl rfl rfl (QF.yes (Cf.rd C h2 (Cf.sk C)))
  | true =>
    refine a_if_eq rfl (fun z => absurd z (by decide)) (fun _ => ?_)
    rw [if_pos cw] at h2
    have n2 := nx_lt (T := T) (isWd_lt cw)
    have C2 : Cf T e n0 (nx T e b') o' I J2 (en T e b') := Cf.rd C h2 rfl
    have n2e := Cf.le C2
    have g4 := atomR_gdo (T := T) (D := 4) (o := o') n2e
    refine a_l0 rfl rfl rfl ?_
    refine a_gV rfl lX12_202 mo_X12_readAtom (h_readAtom_2 hw hbt (Cf.tt C2 hT) (Cf.d C2 hd) (Cf.rf C2) (by omega)) rfl rfl rfl ⟨12, _, rfl, rfl, rfl⟩ rfl (fun v' h' hv => ?_)
    obtain ⟨rfl, J3, p3, rfl, hz3, hf3⟩ := hv
    have el := fun g => loopP_t (op := 2004) (o := o') (item := atomR T e 4) cw g
    have en' := loopP_n (op := 2004) (o := o') (item := atomR T e 4) cw
    rcases hr2 : (atomR T e 4) (nx T e b') o' with ⟨z2, b2, o2⟩
    rw [hr2] at hz3 hf3 g4 el en'
    cases z2 with
    | false =>
      refine a_if_ne rfl (fun z => absurd rfl z) (fun _ => ?_)
      refine a_s rfl rfl ?_
      rw [← es, en' Bool.false_ne_true]
      exact a_zret rfl rfl rfl (Cf.no C2 (hf3 rfl).1 (hf3 rfl).2)
    | true =>
      refine a_if_ne rfl (fun _ => ?_) (fun z => absurd (show (1 : Int32) = 0 from z) (by decide))
      have C3 : Cf T e n0 b2 o2 I J3 p3 := Cf.cc C2 (hz3 rfl)
      have c3e := Cf.le C3
      obtain ⟨-, -, g5⟩ := g4
      have g5 : nx T e b' < b2 ∧ o2.length + nx T e b' ≤ o'.length + b2 := g5 rfl
      have es2 : loopP T e (atomR T e 4) 20 2004 b2 (2004 :: o2) = R := (el (by show b' < b2; omega) rfl).symm.trans es
      refine a_l0 rfl rfl rfl ?_
      refine a_s rfl rfl ?_
      refine a_s rfl rfl ?_
      refine a_eV0 rfl lX12_180 mo_X12_emits (r_X12_emits (Cf.st C3) (by omega)) rfl rfl rfl ⟨12, _, rfl, rfl, rfl⟩ rfl ?_
      refine a_goto rfl ?_
      exact ih (e - b2) _ _ (by omega) ⟨rfl, _, p3, b2, _, rfl, Cf.em (z := 2004) C3 (by decide) (by decide), by show o2.length + 1 < b2; omega, es2, rfl⟩
theorem h_readCond_2 (hw : WdS S) (hbt : BtT T) (hT : I 426 = T) (hd : I 420 13 = nI 2) (h : Cf T e n0 b o I I p) (hB : o.length < b) : Sp S m_X12_readCond 34 0 0 [.ref 420] (hp I L w1 w2 t) (QF T e n0 (seqP T e (seqP T e (atomR T e 4) 20 2004) 19 2005 b o) I L w1 w2 t) nX := by
  have he4 := Cf.e4 h
  have g0 := seqA_gd (T := T) (D := 4) (o := o) (Cf.le h)
  refine Sp_of ok_X12_readCond rfl rfl ?_
  show AW S m_X12_readCond 34 _ _ 0 0 0 [some (.ref 420)] [] (hp I L w1 w2 t)
  refine a_l0 rfl rfl rfl ?_
  refine a_gV rfl lX12_213 mo_X12_readAllOf (h_readAllOf_2 hw hbt hT hd h hB) rfl rfl rfl ⟨12, _, rfl, rfl, rfl⟩ rfl (fun v' h' hv => ?_)
  obtain ⟨rfl, J1, p1, rfl, hz1, hf1⟩ := hv
  rcases hr : (seqP T e (atomR T e 4) 20 2004) b o with ⟨z, b1, o1⟩
  rw [seqP_of hr]
  rw [hr] at hz1 hf1 g0
  cases z with
  | false =>
    refine a_if_ne rfl (fun z => absurd rfl z) (fun _ => ?_)
    refine a_s rfl rfl ?_
    rw [if_neg (by decide)]
    exact a_zret rfl rfl rfl (QF.no (hf1 rfl).1 (hf1 rfl).2)
  | true =>
  refine a_if_ne rfl (fun _ => ?_) (fun z => absurd (show (1 : Int32) = 0 from z) (by decide))
  rw [if_pos rfl]
  obtain ⟨-, -, g3⟩ := g0
  have g3 : b < b1 ∧ o1.length + b ≤ o.length + b1 := g3 rfl
  generalize hR : loopP T e (seqP T e (atomR T e 4) 20 2004) 19 2005 b1 o1 = R
  refine a_inv (n := e - b1) (fun m ls h => ls = [some (.ref 420)] ∧ ∃ J p' b' o', h = hp J L w1 w2 t ∧ Cf T e n0 b' o' I J p' ∧ o'.length < b' ∧ loopP T e (seqP T e (atomR T e 4) 20 2004) 19 2005 b' o' = R ∧ m = e - b') ⟨rfl, J1, p1, _, _, rfl, hz1 rfl, by show o1.length < b1; omega, hR, rfl⟩ ?_
  rintro m _ _ ⟨rfl, J, p', b', o', rfl, C, hB', es, hm⟩ ih
  have eT := Cf.tt C hT
  refine a_l0 rfl rfl rfl ?_
  refine a_ldcs (q := 130 + 19) rfl (hw.ld (i := 19) (by decide)) ?_
  refine a_gV rfl lX12_128 mo_X12_passes (h_passes (b := b') (k := 19) hw (by decide) (Cf.pp C) (by rw [eT]; exact Cf.nb C)) rfl rfl rfl ⟨12, _, rfl, rfl, rfl⟩ rfl (fun v' h' hv => ?_)
  obtain ⟨rfl, J2, rfl, h2⟩ := hv
  rw [eT] at h2 ⊢
  cases cw : isWd T e b' 19 with
  | false =>
    refine a_if_eq rfl (fun _ => ?_) (fun z => absurd rfl z)
    rw [if_neg (by rw [cw]; decide)] at h2
    refine a_s rfl rfl ?_
    rw [← es, loopP_f cw]
    exact a_zret rfl rfl rfl (QF.yes (Cf.rd C h2 (Cf.sk C)))
  | true =>
    refine a_if_eq rfl (fun z => absurd z (by decide)) (fun _ => ?_)
    rw [if_pos cw] at h2
    have n2 := nx_lt (T := T) (isWd_lt cw)
    have C2 : Cf T e n0 (nx T e b') o' I J2 (en T e b') := Cf.rd C h2 rfl
    have n2e := Cf.le C2
    have g4 := seqA_gd (T := T) (D := 4) (o := o') n2e
    refine a_l0 rfl rfl rfl ?_
    refine a_gV rfl lX12_213 mo_X12_readAllOf (h_readAllOf_2 hw hbt (Cf.tt C2 hT) (Cf.d C2 hd) (Cf.rf C2) (by omega)) rfl rfl rfl ⟨12, _, rfl, rfl, rfl⟩ rfl (fun v' h' hv => ?_)
    obtain ⟨rfl, J3, p3, rfl, hz3, hf3⟩ := hv
    have el := fun g => loopP_t (op := 2005) (o := o') (item := seqP T e (atomR T e 4) 20 2004) cw g
    have en' := loopP_n (op := 2005) (o := o') (item := seqP T e (atomR T e 4) 20 2004) cw
    rcases hr2 : (seqP T e (atomR T e 4) 20 2004) (nx T e b') o' with ⟨z2, b2, o2⟩
    rw [hr2] at hz3 hf3 g4 el en'
    cases z2 with
    | false =>
      refine a_if_ne rfl (fun z => absurd rfl z) (fun _ => ?_)
      refine a_s rfl rfl ?_
      rw [← es, en' Bool.false_ne_true]
      exact a_zret rfl rfl rfl (Cf.no C2 (hf3 rfl).1 (hf3 rfl).2)
    | true =>
      refine a_if_ne rfl (fun _ => ?_) (fun z => absurd (show (1 : Int32) = 0 from z) (by decide))
      have C3 : Cf T e n0 b2 o2 I J3 p3 := Cf.cc C2 (hz3 rfl)
      have c3e := Cf.le C3
      obtain ⟨-, -, g5⟩ := g4
      have g5 : nx T e b' < b2 ∧ o2.length + nx T e b' ≤ o'.length + b2 := g5 rfl
      have es2 : loopP T e (seqP T e (atomR T e 4) 20 2004) 19 2005 b2 (2005 :: o2) = R := (el (by show b' < b2; omega) rfl).symm.trans es
      refine a_l0 rfl rfl rfl ?_
      refine a_s rfl rfl ?_
      refine a_s rfl rfl ?_
      refine a_eV0 rfl lX12_180 mo_X12_emits (r_X12_emits (Cf.st C3) (by omega)) rfl rfl rfl ⟨12, _, rfl, rfl, rfl⟩ rfl ?_
      refine a_goto rfl ?_
      exact ih (e - b2) _ _ (by omega) ⟨rfl, _, p3, b2, _, rfl, Cf.em (z := 2005) C3 (by decide) (by decide), by show o2.length + 1 < b2; omega, es2, rfl⟩
theorem h_readAtom_1 (hw : WdS S) (hbt : BtT T) (hT : I 426 = T) (hd : I 420 13 = nI 1) (h : Cf T e n0 b o I I p) (hB : o.length < b) : Sp S m_X12_readAtom 35 0 0 [.ref 420] (hp I L w1 w2 t) (QF T e n0 (atomR T e 5 b o) I L w1 w2 t) nX := by
  have he4 := Cf.e4 h
  have hbe := Cf.le h
  refine Sp_of ok_X12_readAtom rfl rfl ?_
  show AW S m_X12_readAtom 35 _ _ 0 0 0 [some (.ref 420), none] [] (hp I L w1 w2 t)
  refine a_l0 rfl rfl rfl ?_
  refine a_s rfl rfl ?_
  refine a_gV rfl lX12_187 mo_X12_sign (h_sign (b := b) (c := 40) (by rw [hT]; exact hbt) (by decide) (Cf.pp h) (by rw [hT]; exact Cf.nb h)) rfl rfl rfl ⟨12, _, rfl, rfl, rfl⟩ rfl (fun v' h' hv => ?_)
  obtain ⟨rfl, J1, rfl, h1⟩ := hv
  rw [hT] at h1 ⊢
  cases c40 : sg T e b (nI 40) with
  | true =>
    have c40 : sg T e b 40 = true := c40
    refine a_if_eq rfl (fun z => absurd z (by decide)) (fun _ => ?_)
    rw [if_pos (show sg T e b (nI 40) = true from c40)] at h1
    have n1 := nx_lt (T := T) (sg_lt c40)
    have C1 : Cf T e n0 (nx T e b) o I J1 (en T e b) := Cf.rd h h1 rfl
    refine a_l0 rfl rfl rfl ?_
    refine a_geti rfl gfX12_194_12 rfl ?_
    refine a_top (y := nI 1) (Cf.d C1 hd) ?_
    refine a_s rfl rfl ?_
    refine a_ic_ne rfl (fun _ => ?_) (fun c => absurd c (by decide))
    refine a_l0 rfl rfl rfl ?_
    refine a_s rfl rfl ?_
    refine a_geti rfl gfX12_194_12 rfl ?_
    refine a_top (y := nI 1) (Cf.d C1 hd) ?_
    refine a_s rfl rfl ?_
    refine a_s rfl rfl ?_
    refine a_top (y := nI 2) (rfl) ?_
    refine a_puti rfl pfX12_194_12 rfl ?_
    refine a_l0 rfl rfl rfl ?_
    have g4 := cndP_gd (T := T) (fun b o h => atomR_gd (T := T) 4 b o h) (o := o) (Cf.le C1)
    refine a_gV rfl lX12_197 mo_X12_readCond (h_readCond_2 hw hbt ((up2_row (by decide)).trans (Cf.tt C1 hT)) up2_at (Cf.up13 C1) (by omega)) rfl rfl rfl ⟨12, _, rfl, rfl, rfl⟩ rfl (fun v' h' hv => ?_)
    obtain ⟨rfl, J9, p9, rfl, hz9, hf9⟩ := hv
    rw [show seqP T e (seqP T e (atomR T e 4) 20 2004) 19 2005 = cndP T e (atomR T e 4) from rfl] at hz9 hf9 ⊢
    rcases hr9 : cndP T e (atomR T e 4) (nx T e b) o with ⟨z9, b9, o9⟩
    rw [hr9] at hz9 hf9 g4
    rw [atomR_p c40 hr9]
    cases z9 with
    | false =>
      refine a_if_ne rfl (fun z => absurd rfl z) (fun _ => ?_)
      refine a_s rfl rfl ?_
      rw [if_neg (by decide)]
      exact a_zret rfl rfl rfl (QF.no (Fm.tr C1.1 (Fm.tr (Fm.up Fm.rf rfl) (hf9 rfl).1)) (hf9 rfl).2)
    | true =>
      refine a_if_ne rfl (fun _ => ?_) (fun z => absurd (show (1 : Int32) = 0 from z) (by decide))
      rw [if_pos rfl]
      have D9 : Cf T e n0 b9 o9 (up2 J1 420 13 (nI 2)) J9 p9 := hz9 rfl
      refine a_l0 rfl rfl rfl ?_
      refine a_s rfl rfl ?_
      refine a_geti rfl gfX12_194_12 rfl ?_
      refine a_top (y := nI 2) (D9.2.1.trans up2_at) ?_
      refine a_s rfl rfl ?_
      refine a_s rfl rfl ?_
      refine a_top (y := nI 1) (rfl) ?_
      refine a_puti rfl pfX12_194_12 rfl ?_
      have C9 := Cf.deep C1 hd D9
      have eT9 := Cf.tt C9 hT
      refine a_l0 rfl rfl rfl ?_
      refine a_s rfl rfl ?_
      refine a_gV rfl lX12_187 mo_X12_sign (h_sign (b := b9) (c := 41) (by rw [eT9]; exact hbt) (by decide) (Cf.pp C9) (by rw [eT9]; exact Cf.nb C9)) rfl rfl rfl ⟨12, _, rfl, rfl, rfl⟩ rfl (fun v' h' hv => ?_)
      obtain ⟨rfl, J3, rfl, h3⟩ := hv
      rw [eT9] at h3 ⊢
      cases c41 : sg T e b9 (nI 41) with
      | false =>
        have c41 : sg T e b9 41 = false := c41
        rw [if_neg (by rw [show sg T e b9 (nI 41) = false from c41]; decide)] at h3
        rw [if_neg (by rw [c41]; decide)]
        exact a_zret rfl rfl rfl (QF.no (Fm.tr C9.1 (Fm.mo (Rd.fm h3) sR_sY)) (Rd.be h3))
      | true =>
        have c41 : sg T e b9 41 = true := c41
        rw [if_pos (show sg T e b9 (nI 41) = true from c41)] at h3
        rw [if_pos c41]
        exact a_zret rfl rfl rfl (QF.yes (Cf.rd C9 h3 rfl))
  | false =>
  have c40 : sg T e b 40 = false := c40
  refine a_if_eq rfl (fun _ => ?_) (fun z => absurd rfl z)
  rw [if_neg (by rw [show sg T e b (nI 40) = false from c40]; decide)] at h1
  have C0 : Cf T e n0 b o I J1 b := Cf.rd h h1 (Cf.sk h)
  have eT0 := Cf.tt C0 hT
  refine a_l0 rfl rfl rfl ?_
  refine a_ldcs (q := 130 + 21) rfl (hw.ld (i := 21) (by decide)) ?_
  refine a_gV rfl lX12_128 mo_X12_passes (h_passes (b := b) (k := 21) hw (by decide) (Cf.pp C0) (by rw [eT0]; exact Cf.nb C0)) rfl rfl rfl ⟨12, _, rfl, rfl, rfl⟩ rfl (fun v' h' hv => ?_)
  obtain ⟨rfl, J2, rfl, h2⟩ := hv
  rw [eT0] at h2 ⊢
  cases c21 : isWd T e b 21 with
  | true =>
    refine a_if_eq rfl (fun z => absurd z (by decide)) (fun _ => ?_)
    rw [if_pos c21] at h2
    have n1 := nx_lt (T := T) (isWd_lt c21)
    have C2 : Cf T e n0 (nx T e b) o I J2 (en T e b) := Cf.rd C0 h2 rfl
    refine a_l0 rfl rfl rfl ?_
    refine a_geti rfl gfX12_194_12 rfl ?_
    refine a_top (y := nI 1) (Cf.d C2 hd) ?_
    refine a_s rfl rfl ?_
    refine a_ic_ne rfl (fun _ => ?_) (fun c => absurd c (by decide))
    refine a_l0 rfl rfl rfl ?_
    refine a_s rfl rfl ?_
    refine a_geti rfl gfX12_194_12 rfl ?_
    refine a_top (y := nI 1) (Cf.d C2 hd) ?_
    refine a_s rfl rfl ?_
    refine a_s rfl rfl ?_
    refine a_top (y := nI 2) (rfl) ?_
    refine a_puti rfl pfX12_194_12 rfl ?_
    refine a_l0 rfl rfl rfl ?_
    have g4 := atomR_gdo (T := T) (D := 4) (o := o) (Cf.le C2)
    refine a_gV rfl lX12_202 mo_X12_readAtom (h_readAtom_2 hw hbt ((up2_row (by decide)).trans (Cf.tt C2 hT)) up2_at (Cf.up13 C2) (by omega)) rfl rfl rfl ⟨12, _, rfl, rfl, rfl⟩ rfl (fun v' h' hv => ?_)
    obtain ⟨rfl, J9, p9, rfl, hz9, hf9⟩ := hv
    rcases hr9 : atomR T e 4 (nx T e b) o with ⟨z9, b9, o9⟩
    rw [hr9] at hz9 hf9 g4
    rw [atomR_n c40 c21 hr9]
    cases z9 with
    | false =>
      refine a_if_ne rfl (fun z => absurd rfl z) (fun _ => ?_)
      refine a_s rfl rfl ?_
      rw [if_neg (by decide)]
      exact a_zret rfl rfl rfl (QF.no (Fm.tr C2.1 (Fm.tr (Fm.up Fm.rf rfl) (hf9 rfl).1)) (hf9 rfl).2)
    | true =>
      refine a_if_ne rfl (fun _ => ?_) (fun z => absurd (show (1 : Int32) = 0 from z) (by decide))
      rw [if_pos rfl]
      have D9 : Cf T e n0 b9 o9 (up2 J2 420 13 (nI 2)) J9 p9 := hz9 rfl
      obtain ⟨-, -, g5⟩ := g4
      have g5 : nx T e b < b9 ∧ o9.length + nx T e b ≤ o.length + b9 := g5 rfl
      have c9e := Cf.le D9
      refine a_l0 rfl rfl rfl ?_
      refine a_s rfl rfl ?_
      refine a_geti rfl gfX12_194_12 rfl ?_
      refine a_top (y := nI 2) (D9.2.1.trans up2_at) ?_
      refine a_s rfl rfl ?_
      refine a_s rfl rfl ?_
      refine a_top (y := nI 1) (rfl) ?_
      refine a_puti rfl pfX12_194_12 rfl ?_
      have C9 := Cf.deep C2 hd D9
      refine a_l0 rfl rfl rfl ?_
      refine a_s rfl rfl ?_
      refine a_s rfl rfl ?_
      refine a_eV0 rfl lX12_180 mo_X12_emits (r_X12_emits (Cf.st C9) (by omega)) rfl rfl rfl ⟨12, _, rfl, rfl, rfl⟩ rfl ?_
      refine a_s rfl rfl ?_
      exact a_zret rfl rfl rfl (QF.yes (Cf.em (z := 2003) C9 (by decide) (by decide)))
  | false =>
  refine a_if_eq rfl (fun _ => ?_) (fun z => absurd rfl z)
  rw [if_neg (by rw [c21]; decide)] at h2
  have C2 : Cf T e n0 b o I J2 b := Cf.rd C0 h2 (Cf.sk C0)
  rw [atomR_b c40 c21]
  refine a_l0 rfl rfl rfl ?_
  refine a_gV rfl lX12_205 mo_X12_readTag (h_readTag hw (Cf.tt C2 hT) (Cf.rf C2) hB) rfl rfl rfl ⟨12, _, rfl, rfl, rfl⟩ rfl (fun v' h' hv => ?_)
  obtain ⟨z3, x3, J3, p3, rfl, rfl, ht3, hf3⟩ := hv
  cases z3 with
  | true =>
    refine a_if_eq rfl (fun z => absurd z (by decide)) (fun _ => ?_)
    refine a_s rfl rfl ?_
    obtain ⟨hx, D3⟩ := ht3 rfl
    rcases hx with ⟨c22, rfl⟩ | ⟨c22, c23, rfl⟩
    · rw [show baseP T e b o = (true, nx T e b, 1007 :: o) from if_pos c22]
      exact a_zret rfl rfl rfl (QF.yes (Cf.cc C2 D3))
    · rw [show baseP T e b o = (true, nx T e b, 1008 :: o) from (if_neg (by rw [c22]; decide)).trans (if_pos c23)]
      exact a_zret rfl rfl rfl (QF.yes (Cf.cc C2 D3))
  | false =>
  refine a_if_eq rfl (fun _ => ?_) (fun z => absurd rfl z)
  obtain ⟨⟨c22, c23⟩, D3⟩ := hf3 rfl
  have C3 := Cf.cc C2 D3
  have g4 := sumP_gd (T := T) (o := o) hbe
  refine a_l0 rfl rfl rfl ?_
  refine a_gV rfl lX12_208 mo_X12_readSum (h_readSum hw hbt (Cf.tt C3 hT) (Cf.rf C3) hB) rfl rfl rfl ⟨12, _, rfl, rfl, rfl⟩ rfl (fun v' h' hv => ?_)
  obtain ⟨rfl, J4, p4, rfl, hz4, hf4⟩ := hv
  rcases hr4 : sumP T e b o with ⟨z4, b4, o4⟩
  rw [baseP_s c22 c23 hr4]
  rw [hr4] at hz4 hf4 g4
  cases z4 with
  | false =>
    refine a_if_ne rfl (fun z => absurd rfl z) (fun _ => ?_)
    refine a_s rfl rfl ?_
    rw [if_neg (by decide)]
    exact a_zret rfl rfl rfl (Cf.no C3 (hf4 rfl).1 (hf4 rfl).2)
  | true =>
  refine a_if_ne rfl (fun _ => ?_) (fun z => absurd (show (1 : Int32) = 0 from z) (by decide))
  rw [if_pos rfl]
  have C4 : Cf T e n0 b4 o4 I J4 p4 := Cf.cc C3 (hz4 rfl)
  obtain ⟨-, -, g4⟩ := g4
  have g4 : b < b4 ∧ o4.length + b ≤ o.length + b4 := g4 rfl
  have key : ∀ {z5 : Bool} {x : Int32} {p' : Nat} {J : Nat → Nat → Int32}, b4 < nx T e b4 → x = (if z5 = true then 2001 else 2002) → Cf T e n0 (nx T e b4) o4 I J p' → AW S m_X12_readAtom 35 (QF T e n0 (cmpP T e x (nx T e b4) o4) I L w1 w2 t) nX 0 0 152 [some (.ref 420), some (.int (bI z5))] [] (hp J L w1 w2 t) := by
    intro z5 x p' J n4 hx C
    have g6 := sumP_gd (T := T) (o := o4) (Cf.le C)
    refine a_l0 rfl rfl rfl ?_
    refine a_gV rfl lX12_208 mo_X12_readSum (h_readSum hw hbt (Cf.tt C hT) (Cf.rf C) (by omega)) rfl rfl rfl ⟨12, _, rfl, rfl, rfl⟩ rfl (fun v' h' hv => ?_)
    obtain ⟨rfl, J6, p6, rfl, hz6, hf6⟩ := hv
    rcases hr6 : sumP T e (nx T e b4) o4 with ⟨z6, b6, o6⟩
    rw [hr6] at hz6 hf6 g6
    cases z6 with
    | false =>
      refine a_if_ne rfl (fun z => absurd rfl z) (fun _ => ?_)
      refine a_s rfl rfl ?_
      rw [cmpP_f hr6]
      exact a_zret rfl rfl rfl (Cf.no C (hf6 rfl).1 (hf6 rfl).2)
    | true =>
      refine a_if_ne rfl (fun _ => ?_) (fun z => absurd (show (1 : Int32) = 0 from z) (by decide))
      rw [cmpP_t hr6]
      have C6 : Cf T e n0 b6 o6 I J6 p6 := Cf.cc C (hz6 rfl)
      have c6e := Cf.le C6
      obtain ⟨-, -, g6⟩ := g6
      have g6 : nx T e b4 < b6 ∧ o6.length + nx T e b4 ≤ o4.length + b6 := g6 rfl
      refine a_l0 rfl rfl rfl ?_
      refine a_l1 rfl rfl rfl ?_
      cases z5 with
      | false =>
        rw [if_neg (by decide)] at hx
        subst hx
        refine a_if_eq rfl (fun _ => ?_) (fun c => absurd rfl c)
        refine a_s rfl rfl ?_
        refine a_s rfl rfl ?_
        refine a_eV0 rfl lX12_180 mo_X12_emits (r_X12_emits (Cf.st C6) (by omega)) rfl rfl rfl ⟨12, _, rfl, rfl, rfl⟩ rfl ?_
        refine a_s rfl rfl ?_
        exact a_zret rfl rfl rfl (QF.yes (Cf.em (z := 2002) C6 (by decide) (by decide)))
      | true =>
        rw [if_pos rfl] at hx
        subst hx
        refine a_if_eq rfl (fun c => absurd c (by decide)) (fun _ => ?_)
        refine a_s rfl rfl ?_
        refine a_goto rfl ?_
        refine a_s rfl rfl ?_
        refine a_eV0 rfl lX12_180 mo_X12_emits (r_X12_emits (Cf.st C6) (by omega)) rfl rfl rfl ⟨12, _, rfl, rfl, rfl⟩ rfl ?_
        refine a_s rfl rfl ?_
        exact a_zret rfl rfl rfl (QF.yes (Cf.em (z := 2001) C6 (by decide) (by decide)))
  have eT4 := Cf.tt C4 hT
  refine a_l0 rfl rfl rfl ?_
  refine a_s rfl rfl ?_
  refine a_gV rfl lX12_187 mo_X12_sign (h_sign (b := b4) (c := 60) (by rw [eT4]; exact hbt) (by decide) (Cf.pp C4) (by rw [eT4]; exact Cf.nb C4)) rfl rfl rfl ⟨12, _, rfl, rfl, rfl⟩ rfl (fun v' h' hv => ?_)
  obtain ⟨rfl, J5, rfl, h5⟩ := hv
  rw [eT4] at h5 ⊢
  refine a_s1 rfl rfl rfl rfl rfl rfl ?_
  refine a_l1 rfl rfl rfl ?_
  cases c60 : sg T e b4 (nI 60) with
  | true =>
    have c60 : sg T e b4 60 = true := c60
    refine a_if_ne rfl (fun _ => ?_) (fun z => absurd (show (1 : Int32) = 0 from z) (by decide))
    rw [if_pos (show sg T e b4 (nI 60) = true from c60)] at h5
    rw [if_pos c60]
    exact key (z5 := true) (nx_lt (sg_lt c60)) rfl (Cf.rd C4 h5 rfl)
  | false =>
  have c60 : sg T e b4 60 = false := c60
  refine a_if_ne rfl (fun z => absurd rfl z) (fun _ => ?_)
  rw [if_neg (by rw [show sg T e b4 (nI 60) = false from c60]; decide)] at h5
  rw [if_neg (by rw [c60]; decide)]
  have C5 : Cf T e n0 b4 o4 I J5 b4 := Cf.rd C4 h5 (Cf.sk C4)
  have eT5 := Cf.tt C5 hT
  refine a_l0 rfl rfl rfl ?_
  refine a_s rfl rfl ?_
  refine a_gV rfl lX12_187 mo_X12_sign (h_sign (b := b4) (c := 62) (by rw [eT5]; exact hbt) (by decide) (Cf.pp C5) (by rw [eT5]; exact Cf.nb C5)) rfl rfl rfl ⟨12, _, rfl, rfl, rfl⟩ rfl (fun v' h' hv => ?_)
  obtain ⟨rfl, J7, rfl, h7⟩ := hv
  rw [eT5] at h7 ⊢
  cases c62 : sg T e b4 (nI 62) with
  | false =>
    have c62 : sg T e b4 62 = false := c62
    refine a_if_eq rfl (fun _ => ?_) (fun z => absurd rfl z)
    rw [if_neg (by rw [show sg T e b4 (nI 62) = false from c62]; decide)] at h7
    rw [if_neg (by rw [c62]; decide)]
    refine a_s rfl rfl ?_
    exact a_zret rfl rfl rfl (QF.no (Fm.tr C5.1 (Fm.mo (Rd.fm h7) sR_sY)) (Rd.be h7))
  | true =>
    have c62 : sg T e b4 62 = true := c62
    refine a_if_eq rfl (fun z => absurd z (by decide)) (fun _ => ?_)
    rw [if_pos (show sg T e b4 (nI 62) = true from c62)] at h7
    rw [if_pos c62]
    exact key (z5 := false) (nx_lt (sg_lt c62)) rfl (Cf.rd C5 h7 rfl)
theorem h_readAllOf_1 (hw : WdS S) (hbt : BtT T) (hT : I 426 = T) (hd : I 420 13 = nI 1) (h : Cf T e n0 b o I I p) (hB : o.length < b) : Sp S m_X12_readAllOf 36 0 0 [.ref 420] (hp I L w1 w2 t) (QF T e n0 (seqP T e (atomR T e 5) 20 2004 b o) I L w1 w2 t) nX := by
  have he4 := Cf.e4 h
  have g0 := atomR_gdo (T := T) (D := 5) (o := o) (Cf.le h)
  refine Sp_of ok_X12_readAllOf rfl rfl ?_
  show AW S m_X12_readAllOf 36 _ _ 0 0 0 [some (.ref 420)] [] (hp I L w1 w2 t)
  refine a_l0 rfl rfl rfl ?_
  refine a_gV rfl lX12_202 mo_X12_readAtom (h_readAtom_1 hw hbt hT hd h hB) rfl rfl rfl ⟨12, _, rfl, rfl, rfl⟩ rfl (fun v' h' hv => ?_)
  obtain ⟨rfl, J1, p1, rfl, hz1, hf1⟩ := hv
  rcases hr : (atomR T e 5) b o with ⟨z, b1, o1⟩
  rw [seqP_of hr]
  rw [hr] at hz1 hf1 g0
  cases z with
  | false =>
    refine a_if_ne rfl (fun z => absurd rfl z) (fun _ => ?_)
    refine a_s rfl rfl ?_
    rw [if_neg (by decide)]
    exact a_zret rfl rfl rfl (QF.no (hf1 rfl).1 (hf1 rfl).2)
  | true =>
  refine a_if_ne rfl (fun _ => ?_) (fun z => absurd (show (1 : Int32) = 0 from z) (by decide))
  rw [if_pos rfl]
  obtain ⟨-, -, g3⟩ := g0
  have g3 : b < b1 ∧ o1.length + b ≤ o.length + b1 := g3 rfl
  generalize hR : loopP T e (atomR T e 5) 20 2004 b1 o1 = R
  refine a_inv (n := e - b1) (fun m ls h => ls = [some (.ref 420)] ∧ ∃ J p' b' o', h = hp J L w1 w2 t ∧ Cf T e n0 b' o' I J p' ∧ o'.length < b' ∧ loopP T e (atomR T e 5) 20 2004 b' o' = R ∧ m = e - b') ⟨rfl, J1, p1, _, _, rfl, hz1 rfl, by show o1.length < b1; omega, hR, rfl⟩ ?_
  rintro m _ _ ⟨rfl, J, p', b', o', rfl, C, hB', es, hm⟩ ih
  have eT := Cf.tt C hT
  refine a_l0 rfl rfl rfl ?_
  refine a_ldcs (q := 130 + 20) rfl (hw.ld (i := 20) (by decide)) ?_
  refine a_gV rfl lX12_128 mo_X12_passes (h_passes (b := b') (k := 20) hw (by decide) (Cf.pp C) (by rw [eT]; exact Cf.nb C)) rfl rfl rfl ⟨12, _, rfl, rfl, rfl⟩ rfl (fun v' h' hv => ?_)
  obtain ⟨rfl, J2, rfl, h2⟩ := hv
  rw [eT] at h2 ⊢
  cases cw : isWd T e b' 20 with
  | false =>
    refine a_if_eq rfl (fun _ => ?_) (fun z => absurd rfl z)
    rw [if_neg (by rw [cw]; decide)] at h2
    refine a_s rfl rfl ?_
    rw [← es, loopP_f cw]
    exact a_zret rfl rfl rfl (QF.yes (Cf.rd C h2 (Cf.sk C)))
  | true =>
    refine a_if_eq rfl (fun z => absurd z (by decide)) (fun _ => ?_)
    rw [if_pos cw] at h2
    have n2 := nx_lt (T := T) (isWd_lt cw)
    have C2 : Cf T e n0 (nx T e b') o' I J2 (en T e b') := Cf.rd C h2 rfl
    have n2e := Cf.le C2
    have g4 := atomR_gdo (T := T) (D := 5) (o := o') n2e
    refine a_l0 rfl rfl rfl ?_
    refine a_gV rfl lX12_202 mo_X12_readAtom (h_readAtom_1 hw hbt (Cf.tt C2 hT) (Cf.d C2 hd) (Cf.rf C2) (by omega)) rfl rfl rfl ⟨12, _, rfl, rfl, rfl⟩ rfl (fun v' h' hv => ?_)
    obtain ⟨rfl, J3, p3, rfl, hz3, hf3⟩ := hv
    have el := fun g => loopP_t (op := 2004) (o := o') (item := atomR T e 5) cw g
    have en' := loopP_n (op := 2004) (o := o') (item := atomR T e 5) cw
    rcases hr2 : (atomR T e 5) (nx T e b') o' with ⟨z2, b2, o2⟩
    rw [hr2] at hz3 hf3 g4 el en'
    cases z2 with
    | false =>
      refine a_if_ne rfl (fun z => absurd rfl z) (fun _ => ?_)
      refine a_s rfl rfl ?_
      rw [← es, en' Bool.false_ne_true]
      exact a_zret rfl rfl rfl (Cf.no C2 (hf3 rfl).1 (hf3 rfl).2)
    | true =>
      refine a_if_ne rfl (fun _ => ?_) (fun z => absurd (show (1 : Int32) = 0 from z) (by decide))
      have C3 : Cf T e n0 b2 o2 I J3 p3 := Cf.cc C2 (hz3 rfl)
      have c3e := Cf.le C3
      obtain ⟨-, -, g5⟩ := g4
      have g5 : nx T e b' < b2 ∧ o2.length + nx T e b' ≤ o'.length + b2 := g5 rfl
      have es2 : loopP T e (atomR T e 5) 20 2004 b2 (2004 :: o2) = R := (el (by show b' < b2; omega) rfl).symm.trans es
      refine a_l0 rfl rfl rfl ?_
      refine a_s rfl rfl ?_
      refine a_s rfl rfl ?_
      refine a_eV0 rfl lX12_180 mo_X12_emits (r_X12_emits (Cf.st C3) (by omega)) rfl rfl rfl ⟨12, _, rfl, rfl, rfl⟩ rfl ?_
      refine a_goto rfl ?_
      exact ih (e - b2) _ _ (by omega) ⟨rfl, _, p3, b2, _, rfl, Cf.em (z := 2004) C3 (by decide) (by decide), by show o2.length + 1 < b2; omega, es2, rfl⟩
theorem h_readCond_1 (hw : WdS S) (hbt : BtT T) (hT : I 426 = T) (hd : I 420 13 = nI 1) (h : Cf T e n0 b o I I p) (hB : o.length < b) : Sp S m_X12_readCond 37 0 0 [.ref 420] (hp I L w1 w2 t) (QF T e n0 (seqP T e (seqP T e (atomR T e 5) 20 2004) 19 2005 b o) I L w1 w2 t) nX := by
  have he4 := Cf.e4 h
  have g0 := seqA_gd (T := T) (D := 5) (o := o) (Cf.le h)
  refine Sp_of ok_X12_readCond rfl rfl ?_
  show AW S m_X12_readCond 37 _ _ 0 0 0 [some (.ref 420)] [] (hp I L w1 w2 t)
  refine a_l0 rfl rfl rfl ?_
  refine a_gV rfl lX12_213 mo_X12_readAllOf (h_readAllOf_1 hw hbt hT hd h hB) rfl rfl rfl ⟨12, _, rfl, rfl, rfl⟩ rfl (fun v' h' hv => ?_)
  obtain ⟨rfl, J1, p1, rfl, hz1, hf1⟩ := hv
  rcases hr : (seqP T e (atomR T e 5) 20 2004) b o with ⟨z, b1, o1⟩
  rw [seqP_of hr]
  rw [hr] at hz1 hf1 g0
  cases z with
  | false =>
    refine a_if_ne rfl (fun z => absurd rfl z) (fun _ => ?_)
    refine a_s rfl rfl ?_
    rw [if_neg (by decide)]
    exact a_zret rfl rfl rfl (QF.no (hf1 rfl).1 (hf1 rfl).2)
  | true =>
  refine a_if_ne rfl (fun _ => ?_) (fun z => absurd (show (1 : Int32) = 0 from z) (by decide))
  rw [if_pos rfl]
  obtain ⟨-, -, g3⟩ := g0
  have g3 : b < b1 ∧ o1.length + b ≤ o.length + b1 := g3 rfl
  generalize hR : loopP T e (seqP T e (atomR T e 5) 20 2004) 19 2005 b1 o1 = R
  refine a_inv (n := e - b1) (fun m ls h => ls = [some (.ref 420)] ∧ ∃ J p' b' o', h = hp J L w1 w2 t ∧ Cf T e n0 b' o' I J p' ∧ o'.length < b' ∧ loopP T e (seqP T e (atomR T e 5) 20 2004) 19 2005 b' o' = R ∧ m = e - b') ⟨rfl, J1, p1, _, _, rfl, hz1 rfl, by show o1.length < b1; omega, hR, rfl⟩ ?_
  rintro m _ _ ⟨rfl, J, p', b', o', rfl, C, hB', es, hm⟩ ih
  have eT := Cf.tt C hT
  refine a_l0 rfl rfl rfl ?_
  refine a_ldcs (q := 130 + 19) rfl (hw.ld (i := 19) (by decide)) ?_
  refine a_gV rfl lX12_128 mo_X12_passes (h_passes (b := b') (k := 19) hw (by decide) (Cf.pp C) (by rw [eT]; exact Cf.nb C)) rfl rfl rfl ⟨12, _, rfl, rfl, rfl⟩ rfl (fun v' h' hv => ?_)
  obtain ⟨rfl, J2, rfl, h2⟩ := hv
  rw [eT] at h2 ⊢
  cases cw : isWd T e b' 19 with
  | false =>
    refine a_if_eq rfl (fun _ => ?_) (fun z => absurd rfl z)
    rw [if_neg (by rw [cw]; decide)] at h2
    refine a_s rfl rfl ?_
    rw [← es, loopP_f cw]
    exact a_zret rfl rfl rfl (QF.yes (Cf.rd C h2 (Cf.sk C)))
  | true =>
    refine a_if_eq rfl (fun z => absurd z (by decide)) (fun _ => ?_)
    rw [if_pos cw] at h2
    have n2 := nx_lt (T := T) (isWd_lt cw)
    have C2 : Cf T e n0 (nx T e b') o' I J2 (en T e b') := Cf.rd C h2 rfl
    have n2e := Cf.le C2
    have g4 := seqA_gd (T := T) (D := 5) (o := o') n2e
    refine a_l0 rfl rfl rfl ?_
    refine a_gV rfl lX12_213 mo_X12_readAllOf (h_readAllOf_1 hw hbt (Cf.tt C2 hT) (Cf.d C2 hd) (Cf.rf C2) (by omega)) rfl rfl rfl ⟨12, _, rfl, rfl, rfl⟩ rfl (fun v' h' hv => ?_)
    obtain ⟨rfl, J3, p3, rfl, hz3, hf3⟩ := hv
    have el := fun g => loopP_t (op := 2005) (o := o') (item := seqP T e (atomR T e 5) 20 2004) cw g
    have en' := loopP_n (op := 2005) (o := o') (item := seqP T e (atomR T e 5) 20 2004) cw
    rcases hr2 : (seqP T e (atomR T e 5) 20 2004) (nx T e b') o' with ⟨z2, b2, o2⟩
    rw [hr2] at hz3 hf3 g4 el en'
    cases z2 with
    | false =>
      refine a_if_ne rfl (fun z => absurd rfl z) (fun _ => ?_)
      refine a_s rfl rfl ?_
      rw [← es, en' Bool.false_ne_true]
      exact a_zret rfl rfl rfl (Cf.no C2 (hf3 rfl).1 (hf3 rfl).2)
    | true =>
      refine a_if_ne rfl (fun _ => ?_) (fun z => absurd (show (1 : Int32) = 0 from z) (by decide))
      have C3 : Cf T e n0 b2 o2 I J3 p3 := Cf.cc C2 (hz3 rfl)
      have c3e := Cf.le C3
      obtain ⟨-, -, g5⟩ := g4
      have g5 : nx T e b' < b2 ∧ o2.length + nx T e b' ≤ o'.length + b2 := g5 rfl
      have es2 : loopP T e (seqP T e (atomR T e 5) 20 2004) 19 2005 b2 (2005 :: o2) = R := (el (by show b' < b2; omega) rfl).symm.trans es
      refine a_l0 rfl rfl rfl ?_
      refine a_s rfl rfl ?_
      refine a_s rfl rfl ?_
      refine a_eV0 rfl lX12_180 mo_X12_emits (r_X12_emits (Cf.st C3) (by omega)) rfl rfl rfl ⟨12, _, rfl, rfl, rfl⟩ rfl ?_
      refine a_goto rfl ?_
      exact ih (e - b2) _ _ (by omega) ⟨rfl, _, p3, b2, _, rfl, Cf.em (z := 2005) C3 (by decide) (by decide), by show o2.length + 1 < b2; omega, es2, rfl⟩
theorem h_readAtom_0 (hw : WdS S) (hbt : BtT T) (hT : I 426 = T) (hd : I 420 13 = nI 0) (h : Cf T e n0 b o I I p) (hB : o.length < b) : Sp S m_X12_readAtom 38 0 0 [.ref 420] (hp I L w1 w2 t) (QF T e n0 (atomR T e 6 b o) I L w1 w2 t) nX := by
  have he4 := Cf.e4 h
  have hbe := Cf.le h
  refine Sp_of ok_X12_readAtom rfl rfl ?_
  show AW S m_X12_readAtom 38 _ _ 0 0 0 [some (.ref 420), none] [] (hp I L w1 w2 t)
  refine a_l0 rfl rfl rfl ?_
  refine a_s rfl rfl ?_
  refine a_gV rfl lX12_187 mo_X12_sign (h_sign (b := b) (c := 40) (by rw [hT]; exact hbt) (by decide) (Cf.pp h) (by rw [hT]; exact Cf.nb h)) rfl rfl rfl ⟨12, _, rfl, rfl, rfl⟩ rfl (fun v' h' hv => ?_)
  obtain ⟨rfl, J1, rfl, h1⟩ := hv
  rw [hT] at h1 ⊢
  cases c40 : sg T e b (nI 40) with
  | true =>
    have c40 : sg T e b 40 = true := c40
    refine a_if_eq rfl (fun z => absurd z (by decide)) (fun _ => ?_)
    rw [if_pos (show sg T e b (nI 40) = true from c40)] at h1
    have n1 := nx_lt (T := T) (sg_lt c40)
    have C1 : Cf T e n0 (nx T e b) o I J1 (en T e b) := Cf.rd h h1 rfl
    refine a_l0 rfl rfl rfl ?_
    refine a_geti rfl gfX12_194_12 rfl ?_
    refine a_top (y := nI 0) (Cf.d C1 hd) ?_
    refine a_s rfl rfl ?_
    refine a_ic_ne rfl (fun _ => ?_) (fun c => absurd c (by decide))
    refine a_l0 rfl rfl rfl ?_
    refine a_s rfl rfl ?_
    refine a_geti rfl gfX12_194_12 rfl ?_
    refine a_top (y := nI 0) (Cf.d C1 hd) ?_
    refine a_s rfl rfl ?_
    refine a_s rfl rfl ?_
    refine a_top (y := nI 1) (rfl) ?_
    refine a_puti rfl pfX12_194_12 rfl ?_
    refine a_l0 rfl rfl rfl ?_
    have g4 := cndP_gd (T := T) (fun b o h => atomR_gd (T := T) 5 b o h) (o := o) (Cf.le C1)
    refine a_gV rfl lX12_197 mo_X12_readCond (h_readCond_1 hw hbt ((up2_row (by decide)).trans (Cf.tt C1 hT)) up2_at (Cf.up13 C1) (by omega)) rfl rfl rfl ⟨12, _, rfl, rfl, rfl⟩ rfl (fun v' h' hv => ?_)
    obtain ⟨rfl, J9, p9, rfl, hz9, hf9⟩ := hv
    rw [show seqP T e (seqP T e (atomR T e 5) 20 2004) 19 2005 = cndP T e (atomR T e 5) from rfl] at hz9 hf9 ⊢
    rcases hr9 : cndP T e (atomR T e 5) (nx T e b) o with ⟨z9, b9, o9⟩
    rw [hr9] at hz9 hf9 g4
    rw [atomR_p c40 hr9]
    cases z9 with
    | false =>
      refine a_if_ne rfl (fun z => absurd rfl z) (fun _ => ?_)
      refine a_s rfl rfl ?_
      rw [if_neg (by decide)]
      exact a_zret rfl rfl rfl (QF.no (Fm.tr C1.1 (Fm.tr (Fm.up Fm.rf rfl) (hf9 rfl).1)) (hf9 rfl).2)
    | true =>
      refine a_if_ne rfl (fun _ => ?_) (fun z => absurd (show (1 : Int32) = 0 from z) (by decide))
      rw [if_pos rfl]
      have D9 : Cf T e n0 b9 o9 (up2 J1 420 13 (nI 1)) J9 p9 := hz9 rfl
      refine a_l0 rfl rfl rfl ?_
      refine a_s rfl rfl ?_
      refine a_geti rfl gfX12_194_12 rfl ?_
      refine a_top (y := nI 1) (D9.2.1.trans up2_at) ?_
      refine a_s rfl rfl ?_
      refine a_s rfl rfl ?_
      refine a_top (y := nI 0) (rfl) ?_
      refine a_puti rfl pfX12_194_12 rfl ?_
      have C9 := Cf.deep C1 hd D9
      have eT9 := Cf.tt C9 hT
      refine a_l0 rfl rfl rfl ?_
      refine a_s rfl rfl ?_
      refine a_gV rfl lX12_187 mo_X12_sign (h_sign (b := b9) (c := 41) (by rw [eT9]; exact hbt) (by decide) (Cf.pp C9) (by rw [eT9]; exact Cf.nb C9)) rfl rfl rfl ⟨12, _, rfl, rfl, rfl⟩ rfl (fun v' h' hv => ?_)
      obtain ⟨rfl, J3, rfl, h3⟩ := hv
      rw [eT9] at h3 ⊢
      cases c41 : sg T e b9 (nI 41) with
      | false =>
        have c41 : sg T e b9 41 = false := c41
        rw [if_neg (by rw [show sg T e b9 (nI 41) = false from c41]; decide)] at h3
        rw [if_neg (by rw [c41]; decide)]
        exact a_zret rfl rfl rfl (QF.no (Fm.tr C9.1 (Fm.mo (Rd.fm h3) sR_sY)) (Rd.be h3))
      | true =>
        have c41 : sg T e b9 41 = true := c41
        rw [if_pos (show sg T e b9 (nI 41) = true from c41)] at h3
        rw [if_pos c41]
        exact a_zret rfl rfl rfl (QF.yes (Cf.rd C9 h3 rfl))
  | false =>
  have c40 : sg T e b 40 = false := c40
  refine a_if_eq rfl (fun _ => ?_) (fun z => absurd rfl z)
  rw [if_neg (by rw [show sg T e b (nI 40) = false from c40]; decide)] at h1
  have C0 : Cf T e n0 b o I J1 b := Cf.rd h h1 (Cf.sk h)
  have eT0 := Cf.tt C0 hT
  refine a_l0 rfl rfl rfl ?_
  refine a_ldcs (q := 130 + 21) rfl (hw.ld (i := 21) (by decide)) ?_
  refine a_gV rfl lX12_128 mo_X12_passes (h_passes (b := b) (k := 21) hw (by decide) (Cf.pp C0) (by rw [eT0]; exact Cf.nb C0)) rfl rfl rfl ⟨12, _, rfl, rfl, rfl⟩ rfl (fun v' h' hv => ?_)
  obtain ⟨rfl, J2, rfl, h2⟩ := hv
  rw [eT0] at h2 ⊢
  cases c21 : isWd T e b 21 with
  | true =>
    refine a_if_eq rfl (fun z => absurd z (by decide)) (fun _ => ?_)
    rw [if_pos c21] at h2
    have n1 := nx_lt (T := T) (isWd_lt c21)
    have C2 : Cf T e n0 (nx T e b) o I J2 (en T e b) := Cf.rd C0 h2 rfl
    refine a_l0 rfl rfl rfl ?_
    refine a_geti rfl gfX12_194_12 rfl ?_
    refine a_top (y := nI 0) (Cf.d C2 hd) ?_
    refine a_s rfl rfl ?_
    refine a_ic_ne rfl (fun _ => ?_) (fun c => absurd c (by decide))
    refine a_l0 rfl rfl rfl ?_
    refine a_s rfl rfl ?_
    refine a_geti rfl gfX12_194_12 rfl ?_
    refine a_top (y := nI 0) (Cf.d C2 hd) ?_
    refine a_s rfl rfl ?_
    refine a_s rfl rfl ?_
    refine a_top (y := nI 1) (rfl) ?_
    refine a_puti rfl pfX12_194_12 rfl ?_
    refine a_l0 rfl rfl rfl ?_
    have g4 := atomR_gdo (T := T) (D := 5) (o := o) (Cf.le C2)
    refine a_gV rfl lX12_202 mo_X12_readAtom (h_readAtom_1 hw hbt ((up2_row (by decide)).trans (Cf.tt C2 hT)) up2_at (Cf.up13 C2) (by omega)) rfl rfl rfl ⟨12, _, rfl, rfl, rfl⟩ rfl (fun v' h' hv => ?_)
    obtain ⟨rfl, J9, p9, rfl, hz9, hf9⟩ := hv
    rcases hr9 : atomR T e 5 (nx T e b) o with ⟨z9, b9, o9⟩
    rw [hr9] at hz9 hf9 g4
    rw [atomR_n c40 c21 hr9]
    cases z9 with
    | false =>
      refine a_if_ne rfl (fun z => absurd rfl z) (fun _ => ?_)
      refine a_s rfl rfl ?_
      rw [if_neg (by decide)]
      exact a_zret rfl rfl rfl (QF.no (Fm.tr C2.1 (Fm.tr (Fm.up Fm.rf rfl) (hf9 rfl).1)) (hf9 rfl).2)
    | true =>
      refine a_if_ne rfl (fun _ => ?_) (fun z => absurd (show (1 : Int32) = 0 from z) (by decide))
      rw [if_pos rfl]
      have D9 : Cf T e n0 b9 o9 (up2 J2 420 13 (nI 1)) J9 p9 := hz9 rfl
      obtain ⟨-, -, g5⟩ := g4
      have g5 : nx T e b < b9 ∧ o9.length + nx T e b ≤ o.length + b9 := g5 rfl
      have c9e := Cf.le D9
      refine a_l0 rfl rfl rfl ?_
      refine a_s rfl rfl ?_
      refine a_geti rfl gfX12_194_12 rfl ?_
      refine a_top (y := nI 1) (D9.2.1.trans up2_at) ?_
      refine a_s rfl rfl ?_
      refine a_s rfl rfl ?_
      refine a_top (y := nI 0) (rfl) ?_
      refine a_puti rfl pfX12_194_12 rfl ?_
      have C9 := Cf.deep C2 hd D9
      refine a_l0 rfl rfl rfl ?_
      refine a_s rfl rfl ?_
      refine a_s rfl rfl ?_
      refine a_eV0 rfl lX12_180 mo_X12_emits (r_X12_emits (Cf.st C9) (by omega)) rfl rfl rfl ⟨12, _, rfl, rfl, rfl⟩ rfl ?_
      refine a_s rfl rfl ?_
      exact a_zret rfl rfl rfl (QF.yes (Cf.em (z := 2003) C9 (by decide) (by decide)))
  | false =>
  refine a_if_eq rfl (fun _ => ?_) (fun z => absurd rfl z)
  rw [if_neg (by rw [c21]; decide)] at h2
  have C2 : Cf T e n0 b o I J2 b := Cf.rd C0 h2 (Cf.sk C0)
  rw [atomR_b c40 c21]
  refine a_l0 rfl rfl rfl ?_
  refine a_gV rfl lX12_205 mo_X12_readTag (h_readTag hw (Cf.tt C2 hT) (Cf.rf C2) hB) rfl rfl rfl ⟨12, _, rfl, rfl, rfl⟩ rfl (fun v' h' hv => ?_)
  obtain ⟨z3, x3, J3, p3, rfl, rfl, ht3, hf3⟩ := hv
  cases z3 with
  | true =>
    refine a_if_eq rfl (fun z => absurd z (by decide)) (fun _ => ?_)
    refine a_s rfl rfl ?_
    obtain ⟨hx, D3⟩ := ht3 rfl
    rcases hx with ⟨c22, rfl⟩ | ⟨c22, c23, rfl⟩
    · rw [show baseP T e b o = (true, nx T e b, 1007 :: o) from if_pos c22]
      exact a_zret rfl rfl rfl (QF.yes (Cf.cc C2 D3))
    · rw [show baseP T e b o = (true, nx T e b, 1008 :: o) from (if_neg (by rw [c22]; decide)).trans (if_pos c23)]
      exact a_zret rfl rfl rfl (QF.yes (Cf.cc C2 D3))
  | false =>
  refine a_if_eq rfl (fun _ => ?_) (fun z => absurd rfl z)
  obtain ⟨⟨c22, c23⟩, D3⟩ := hf3 rfl
  have C3 := Cf.cc C2 D3
  have g4 := sumP_gd (T := T) (o := o) hbe
  refine a_l0 rfl rfl rfl ?_
  refine a_gV rfl lX12_208 mo_X12_readSum (h_readSum hw hbt (Cf.tt C3 hT) (Cf.rf C3) hB) rfl rfl rfl ⟨12, _, rfl, rfl, rfl⟩ rfl (fun v' h' hv => ?_)
  obtain ⟨rfl, J4, p4, rfl, hz4, hf4⟩ := hv
  rcases hr4 : sumP T e b o with ⟨z4, b4, o4⟩
  rw [baseP_s c22 c23 hr4]
  rw [hr4] at hz4 hf4 g4
  cases z4 with
  | false =>
    refine a_if_ne rfl (fun z => absurd rfl z) (fun _ => ?_)
    refine a_s rfl rfl ?_
    rw [if_neg (by decide)]
    exact a_zret rfl rfl rfl (Cf.no C3 (hf4 rfl).1 (hf4 rfl).2)
  | true =>
  refine a_if_ne rfl (fun _ => ?_) (fun z => absurd (show (1 : Int32) = 0 from z) (by decide))
  rw [if_pos rfl]
  have C4 : Cf T e n0 b4 o4 I J4 p4 := Cf.cc C3 (hz4 rfl)
  obtain ⟨-, -, g4⟩ := g4
  have g4 : b < b4 ∧ o4.length + b ≤ o.length + b4 := g4 rfl
  have key : ∀ {z5 : Bool} {x : Int32} {p' : Nat} {J : Nat → Nat → Int32}, b4 < nx T e b4 → x = (if z5 = true then 2001 else 2002) → Cf T e n0 (nx T e b4) o4 I J p' → AW S m_X12_readAtom 38 (QF T e n0 (cmpP T e x (nx T e b4) o4) I L w1 w2 t) nX 0 0 152 [some (.ref 420), some (.int (bI z5))] [] (hp J L w1 w2 t) := by
    intro z5 x p' J n4 hx C
    have g6 := sumP_gd (T := T) (o := o4) (Cf.le C)
    refine a_l0 rfl rfl rfl ?_
    refine a_gV rfl lX12_208 mo_X12_readSum (h_readSum hw hbt (Cf.tt C hT) (Cf.rf C) (by omega)) rfl rfl rfl ⟨12, _, rfl, rfl, rfl⟩ rfl (fun v' h' hv => ?_)
    obtain ⟨rfl, J6, p6, rfl, hz6, hf6⟩ := hv
    rcases hr6 : sumP T e (nx T e b4) o4 with ⟨z6, b6, o6⟩
    rw [hr6] at hz6 hf6 g6
    cases z6 with
    | false =>
      refine a_if_ne rfl (fun z => absurd rfl z) (fun _ => ?_)
      refine a_s rfl rfl ?_
      rw [cmpP_f hr6]
      exact a_zret rfl rfl rfl (Cf.no C (hf6 rfl).1 (hf6 rfl).2)
    | true =>
      refine a_if_ne rfl (fun _ => ?_) (fun z => absurd (show (1 : Int32) = 0 from z) (by decide))
      rw [cmpP_t hr6]
      have C6 : Cf T e n0 b6 o6 I J6 p6 := Cf.cc C (hz6 rfl)
      have c6e := Cf.le C6
      obtain ⟨-, -, g6⟩ := g6
      have g6 : nx T e b4 < b6 ∧ o6.length + nx T e b4 ≤ o4.length + b6 := g6 rfl
      refine a_l0 rfl rfl rfl ?_
      refine a_l1 rfl rfl rfl ?_
      cases z5 with
      | false =>
        rw [if_neg (by decide)] at hx
        subst hx
        refine a_if_eq rfl (fun _ => ?_) (fun c => absurd rfl c)
        refine a_s rfl rfl ?_
        refine a_s rfl rfl ?_
        refine a_eV0 rfl lX12_180 mo_X12_emits (r_X12_emits (Cf.st C6) (by omega)) rfl rfl rfl ⟨12, _, rfl, rfl, rfl⟩ rfl ?_
        refine a_s rfl rfl ?_
        exact a_zret rfl rfl rfl (QF.yes (Cf.em (z := 2002) C6 (by decide) (by decide)))
      | true =>
        rw [if_pos rfl] at hx
        subst hx
        refine a_if_eq rfl (fun c => absurd c (by decide)) (fun _ => ?_)
        refine a_s rfl rfl ?_
        refine a_goto rfl ?_
        refine a_s rfl rfl ?_
        refine a_eV0 rfl lX12_180 mo_X12_emits (r_X12_emits (Cf.st C6) (by omega)) rfl rfl rfl ⟨12, _, rfl, rfl, rfl⟩ rfl ?_
        refine a_s rfl rfl ?_
        exact a_zret rfl rfl rfl (QF.yes (Cf.em (z := 2001) C6 (by decide) (by decide)))
  have eT4 := Cf.tt C4 hT
  refine a_l0 rfl rfl rfl ?_
  refine a_s rfl rfl ?_
  refine a_gV rfl lX12_187 mo_X12_sign (h_sign (b := b4) (c := 60) (by rw [eT4]; exact hbt) (by decide) (Cf.pp C4) (by rw [eT4]; exact Cf.nb C4)) rfl rfl rfl ⟨12, _, rfl, rfl, rfl⟩ rfl (fun v' h' hv => ?_)
  obtain ⟨rfl, J5, rfl, h5⟩ := hv
  rw [eT4] at h5 ⊢
  refine a_s1 rfl rfl rfl rfl rfl rfl ?_
  refine a_l1 rfl rfl rfl ?_
  cases c60 : sg T e b4 (nI 60) with
  | true =>
    have c60 : sg T e b4 60 = true := c60
    refine a_if_ne rfl (fun _ => ?_) (fun z => absurd (show (1 : Int32) = 0 from z) (by decide))
    rw [if_pos (show sg T e b4 (nI 60) = true from c60)] at h5
    rw [if_pos c60]
    exact key (z5 := true) (nx_lt (sg_lt c60)) rfl (Cf.rd C4 h5 rfl)
  | false =>
  have c60 : sg T e b4 60 = false := c60
  refine a_if_ne rfl (fun z => absurd rfl z) (fun _ => ?_)
  rw [if_neg (by rw [show sg T e b4 (nI 60) = false from c60]; decide)] at h5
  rw [if_neg (by rw [c60]; decide)]
  have C5 : Cf T e n0 b4 o4 I J5 b4 := Cf.rd C4 h5 (Cf.sk C4)
  have eT5 := Cf.tt C5 hT
  refine a_l0 rfl rfl rfl ?_
  refine a_s rfl rfl ?_
  refine a_gV rfl lX12_187 mo_X12_sign (h_sign (b := b4) (c := 62) (by rw [eT5]; exact hbt) (by decide) (Cf.pp C5) (by rw [eT5]; exact Cf.nb C5)) rfl rfl rfl ⟨12, _, rfl, rfl, rfl⟩ rfl (fun v' h' hv => ?_)
  obtain ⟨rfl, J7, rfl, h7⟩ := hv
  rw [eT5] at h7 ⊢
  cases c62 : sg T e b4 (nI 62) with
  | false =>
    have c62 : sg T e b4 62 = false := c62
    refine a_if_eq rfl (fun _ => ?_) (fun z => absurd rfl z)
    rw [if_neg (by rw [show sg T e b4 (nI 62) = false from c62]; decide)] at h7
    rw [if_neg (by rw [c62]; decide)]
    refine a_s rfl rfl ?_
    exact a_zret rfl rfl rfl (QF.no (Fm.tr C5.1 (Fm.mo (Rd.fm h7) sR_sY)) (Rd.be h7))
  | true =>
    have c62 : sg T e b4 62 = true := c62
    refine a_if_eq rfl (fun z => absurd z (by decide)) (fun _ => ?_)
    rw [if_pos (show sg T e b4 (nI 62) = true from c62)] at h7
    rw [if_pos c62]
    exact key (z5 := false) (nx_lt (sg_lt c62)) rfl (Cf.rd C5 h7 rfl)
theorem h_readAllOf_0 (hw : WdS S) (hbt : BtT T) (hT : I 426 = T) (hd : I 420 13 = nI 0) (h : Cf T e n0 b o I I p) (hB : o.length < b) : Sp S m_X12_readAllOf 39 0 0 [.ref 420] (hp I L w1 w2 t) (QF T e n0 (seqP T e (atomR T e 6) 20 2004 b o) I L w1 w2 t) nX := by
  have he4 := Cf.e4 h
  have g0 := atomR_gdo (T := T) (D := 6) (o := o) (Cf.le h)
  refine Sp_of ok_X12_readAllOf rfl rfl ?_
  show AW S m_X12_readAllOf 39 _ _ 0 0 0 [some (.ref 420)] [] (hp I L w1 w2 t)
  refine a_l0 rfl rfl rfl ?_
  refine a_gV rfl lX12_202 mo_X12_readAtom (h_readAtom_0 hw hbt hT hd h hB) rfl rfl rfl ⟨12, _, rfl, rfl, rfl⟩ rfl (fun v' h' hv => ?_)
  obtain ⟨rfl, J1, p1, rfl, hz1, hf1⟩ := hv
  rcases hr : (atomR T e 6) b o with ⟨z, b1, o1⟩
  rw [seqP_of hr]
  rw [hr] at hz1 hf1 g0
  cases z with
  | false =>
    refine a_if_ne rfl (fun z => absurd rfl z) (fun _ => ?_)
    refine a_s rfl rfl ?_
    rw [if_neg (by decide)]
    exact a_zret rfl rfl rfl (QF.no (hf1 rfl).1 (hf1 rfl).2)
  | true =>
  refine a_if_ne rfl (fun _ => ?_) (fun z => absurd (show (1 : Int32) = 0 from z) (by decide))
  rw [if_pos rfl]
  obtain ⟨-, -, g3⟩ := g0
  have g3 : b < b1 ∧ o1.length + b ≤ o.length + b1 := g3 rfl
  generalize hR : loopP T e (atomR T e 6) 20 2004 b1 o1 = R
  refine a_inv (n := e - b1) (fun m ls h => ls = [some (.ref 420)] ∧ ∃ J p' b' o', h = hp J L w1 w2 t ∧ Cf T e n0 b' o' I J p' ∧ o'.length < b' ∧ loopP T e (atomR T e 6) 20 2004 b' o' = R ∧ m = e - b') ⟨rfl, J1, p1, _, _, rfl, hz1 rfl, by show o1.length < b1; omega, hR, rfl⟩ ?_
  rintro m _ _ ⟨rfl, J, p', b', o', rfl, C, hB', es, hm⟩ ih
  have eT := Cf.tt C hT
  refine a_l0 rfl rfl rfl ?_
  refine a_ldcs (q := 130 + 20) rfl (hw.ld (i := 20) (by decide)) ?_
  refine a_gV rfl lX12_128 mo_X12_passes (h_passes (b := b') (k := 20) hw (by decide) (Cf.pp C) (by rw [eT]; exact Cf.nb C)) rfl rfl rfl ⟨12, _, rfl, rfl, rfl⟩ rfl (fun v' h' hv => ?_)
  obtain ⟨rfl, J2, rfl, h2⟩ := hv
  rw [eT] at h2 ⊢
  cases cw : isWd T e b' 20 with
  | false =>
    refine a_if_eq rfl (fun _ => ?_) (fun z => absurd rfl z)
    rw [if_neg (by rw [cw]; decide)] at h2
    refine a_s rfl rfl ?_
    rw [← es, loopP_f cw]
    exact a_zret rfl rfl rfl (QF.yes (Cf.rd C h2 (Cf.sk C)))
  | true =>
    refine a_if_eq rfl (fun z => absurd z (by decide)) (fun _ => ?_)
    rw [if_pos cw] at h2
    have n2 := nx_lt (T := T) (isWd_lt cw)
    have C2 : Cf T e n0 (nx T e b') o' I J2 (en T e b') := Cf.rd C h2 rfl
    have n2e := Cf.le C2
    have g4 := atomR_gdo (T := T) (D := 6) (o := o') n2e
    refine a_l0 rfl rfl rfl ?_
    refine a_gV rfl lX12_202 mo_X12_readAtom (h_readAtom_0 hw hbt (Cf.tt C2 hT) (Cf.d C2 hd) (Cf.rf C2) (by omega)) rfl rfl rfl ⟨12, _, rfl, rfl, rfl⟩ rfl (fun v' h' hv => ?_)
    obtain ⟨rfl, J3, p3, rfl, hz3, hf3⟩ := hv
    have el := fun g => loopP_t (op := 2004) (o := o') (item := atomR T e 6) cw g
    have en' := loopP_n (op := 2004) (o := o') (item := atomR T e 6) cw
    rcases hr2 : (atomR T e 6) (nx T e b') o' with ⟨z2, b2, o2⟩
    rw [hr2] at hz3 hf3 g4 el en'
    cases z2 with
    | false =>
      refine a_if_ne rfl (fun z => absurd rfl z) (fun _ => ?_)
      refine a_s rfl rfl ?_
      rw [← es, en' Bool.false_ne_true]
      exact a_zret rfl rfl rfl (Cf.no C2 (hf3 rfl).1 (hf3 rfl).2)
    | true =>
      refine a_if_ne rfl (fun _ => ?_) (fun z => absurd (show (1 : Int32) = 0 from z) (by decide))
      have C3 : Cf T e n0 b2 o2 I J3 p3 := Cf.cc C2 (hz3 rfl)
      have c3e := Cf.le C3
      obtain ⟨-, -, g5⟩ := g4
      have g5 : nx T e b' < b2 ∧ o2.length + nx T e b' ≤ o'.length + b2 := g5 rfl
      have es2 : loopP T e (atomR T e 6) 20 2004 b2 (2004 :: o2) = R := (el (by show b' < b2; omega) rfl).symm.trans es
      refine a_l0 rfl rfl rfl ?_
      refine a_s rfl rfl ?_
      refine a_s rfl rfl ?_
      refine a_eV0 rfl lX12_180 mo_X12_emits (r_X12_emits (Cf.st C3) (by omega)) rfl rfl rfl ⟨12, _, rfl, rfl, rfl⟩ rfl ?_
      refine a_goto rfl ?_
      exact ih (e - b2) _ _ (by omega) ⟨rfl, _, p3, b2, _, rfl, Cf.em (z := 2004) C3 (by decide) (by decide), by show o2.length + 1 < b2; omega, es2, rfl⟩
theorem h_readCond_0 (hw : WdS S) (hbt : BtT T) (hT : I 426 = T) (hd : I 420 13 = nI 0) (h : Cf T e n0 b o I I p) (hB : o.length < b) : Sp S m_X12_readCond 40 0 0 [.ref 420] (hp I L w1 w2 t) (QF T e n0 (seqP T e (seqP T e (atomR T e 6) 20 2004) 19 2005 b o) I L w1 w2 t) nX := by
  have he4 := Cf.e4 h
  have g0 := seqA_gd (T := T) (D := 6) (o := o) (Cf.le h)
  refine Sp_of ok_X12_readCond rfl rfl ?_
  show AW S m_X12_readCond 40 _ _ 0 0 0 [some (.ref 420)] [] (hp I L w1 w2 t)
  refine a_l0 rfl rfl rfl ?_
  refine a_gV rfl lX12_213 mo_X12_readAllOf (h_readAllOf_0 hw hbt hT hd h hB) rfl rfl rfl ⟨12, _, rfl, rfl, rfl⟩ rfl (fun v' h' hv => ?_)
  obtain ⟨rfl, J1, p1, rfl, hz1, hf1⟩ := hv
  rcases hr : (seqP T e (atomR T e 6) 20 2004) b o with ⟨z, b1, o1⟩
  rw [seqP_of hr]
  rw [hr] at hz1 hf1 g0
  cases z with
  | false =>
    refine a_if_ne rfl (fun z => absurd rfl z) (fun _ => ?_)
    refine a_s rfl rfl ?_
    rw [if_neg (by decide)]
    exact a_zret rfl rfl rfl (QF.no (hf1 rfl).1 (hf1 rfl).2)
  | true =>
  refine a_if_ne rfl (fun _ => ?_) (fun z => absurd (show (1 : Int32) = 0 from z) (by decide))
  rw [if_pos rfl]
  obtain ⟨-, -, g3⟩ := g0
  have g3 : b < b1 ∧ o1.length + b ≤ o.length + b1 := g3 rfl
  generalize hR : loopP T e (seqP T e (atomR T e 6) 20 2004) 19 2005 b1 o1 = R
  refine a_inv (n := e - b1) (fun m ls h => ls = [some (.ref 420)] ∧ ∃ J p' b' o', h = hp J L w1 w2 t ∧ Cf T e n0 b' o' I J p' ∧ o'.length < b' ∧ loopP T e (seqP T e (atomR T e 6) 20 2004) 19 2005 b' o' = R ∧ m = e - b') ⟨rfl, J1, p1, _, _, rfl, hz1 rfl, by show o1.length < b1; omega, hR, rfl⟩ ?_
  rintro m _ _ ⟨rfl, J, p', b', o', rfl, C, hB', es, hm⟩ ih
  have eT := Cf.tt C hT
  refine a_l0 rfl rfl rfl ?_
  refine a_ldcs (q := 130 + 19) rfl (hw.ld (i := 19) (by decide)) ?_
  refine a_gV rfl lX12_128 mo_X12_passes (h_passes (b := b') (k := 19) hw (by decide) (Cf.pp C) (by rw [eT]; exact Cf.nb C)) rfl rfl rfl ⟨12, _, rfl, rfl, rfl⟩ rfl (fun v' h' hv => ?_)
  obtain ⟨rfl, J2, rfl, h2⟩ := hv
  rw [eT] at h2 ⊢
  cases cw : isWd T e b' 19 with
  | false =>
    refine a_if_eq rfl (fun _ => ?_) (fun z => absurd rfl z)
    rw [if_neg (by rw [cw]; decide)] at h2
    refine a_s rfl rfl ?_
    rw [← es, loopP_f cw]
    exact a_zret rfl rfl rfl (QF.yes (Cf.rd C h2 (Cf.sk C)))
  | true =>
    refine a_if_eq rfl (fun z => absurd z (by decide)) (fun _ => ?_)
    rw [if_pos cw] at h2
    have n2 := nx_lt (T := T) (isWd_lt cw)
    have C2 : Cf T e n0 (nx T e b') o' I J2 (en T e b') := Cf.rd C h2 rfl
    have n2e := Cf.le C2
    have g4 := seqA_gd (T := T) (D := 6) (o := o') n2e
    refine a_l0 rfl rfl rfl ?_
    refine a_gV rfl lX12_213 mo_X12_readAllOf (h_readAllOf_0 hw hbt (Cf.tt C2 hT) (Cf.d C2 hd) (Cf.rf C2) (by omega)) rfl rfl rfl ⟨12, _, rfl, rfl, rfl⟩ rfl (fun v' h' hv => ?_)
    obtain ⟨rfl, J3, p3, rfl, hz3, hf3⟩ := hv
    have el := fun g => loopP_t (op := 2005) (o := o') (item := seqP T e (atomR T e 6) 20 2004) cw g
    have en' := loopP_n (op := 2005) (o := o') (item := seqP T e (atomR T e 6) 20 2004) cw
    rcases hr2 : (seqP T e (atomR T e 6) 20 2004) (nx T e b') o' with ⟨z2, b2, o2⟩
    rw [hr2] at hz3 hf3 g4 el en'
    cases z2 with
    | false =>
      refine a_if_ne rfl (fun z => absurd rfl z) (fun _ => ?_)
      refine a_s rfl rfl ?_
      rw [← es, en' Bool.false_ne_true]
      exact a_zret rfl rfl rfl (Cf.no C2 (hf3 rfl).1 (hf3 rfl).2)
    | true =>
      refine a_if_ne rfl (fun _ => ?_) (fun z => absurd (show (1 : Int32) = 0 from z) (by decide))
      have C3 : Cf T e n0 b2 o2 I J3 p3 := Cf.cc C2 (hz3 rfl)
      have c3e := Cf.le C3
      obtain ⟨-, -, g5⟩ := g4
      have g5 : nx T e b' < b2 ∧ o2.length + nx T e b' ≤ o'.length + b2 := g5 rfl
      have es2 : loopP T e (seqP T e (atomR T e 6) 20 2004) 19 2005 b2 (2005 :: o2) = R := (el (by show b' < b2; omega) rfl).symm.trans es
      refine a_l0 rfl rfl rfl ?_
      refine a_s rfl rfl ?_
      refine a_s rfl rfl ?_
      refine a_eV0 rfl lX12_180 mo_X12_emits (r_X12_emits (Cf.st C3) (by omega)) rfl rfl rfl ⟨12, _, rfl, rfl, rfl⟩ rfl ?_
      refine a_goto rfl ?_
      exact ih (e - b2) _ _ (by omega) ⟨rfl, _, p3, b2, _, rfl, Cf.em (z := 2005) C3 (by decide) (by decide), by show o2.length + 1 < b2; omega, es2, rfl⟩
end T79h
end
section
/-! ===== the reference: a law's line, all lines, a law, as functions ===== -/
section T79i
variable {S : aS} {I : Nat → Nat → Int32} {L : Nat → Nat → Int64} {w1 w2 t : Nat} {e p b n0 nd np : Nat} {T : Nat → Int32} {o : List Int32} {ls : List LnT}
set_option maxRecDepth 100000
/-- lines of the draft, the latest first -/
def LnW (W : Nat → Int32) : List LnT → Prop
  | [] => True
  | x :: r => (W (1185 + 4 * r.length) = x.1 ∧ W (1185 + 4 * r.length + 1) = x.2.1 ∧ W (1185 + 4 * r.length + 2) = nI x.2.2.1 ∧ W (1185 + 4 * r.length + 3) = nI x.2.2.2) ∧ LnW W r
theorem LnW.eq {W W' : Nat → Int32} : ∀ {r : List LnT}, LnW W r → (∀ k, 1185 ≤ k → k < 1185 + 4 * r.length → W' k = W k) → LnW W' r := by
  intro r
  induction r with
  | nil => exact fun _ _ => trivial
  | cons x r ih =>
    intro h f
    have f : ∀ k, 1185 ≤ k → k < 1185 + 4 * (r.length + 1) → W' k = W k := f
    obtain ⟨⟨h1, h2, h3, h4⟩, h5⟩ := h
    exact ⟨⟨(f _ (by omega) (by omega)).trans h1, (f _ (by omega) (by omega)).trans h2, (f _ (by omega) (by omega)).trans h3, (f _ (by omega) (by omega)).trans h4⟩, ih h5 fun k g1 g2 => f k g1 (by omega)⟩
theorem LnW.at {W : Nat → Int32} : ∀ {r : List LnT}, LnW W r → ∀ i, i < r.length → W (1185 + 4 * i) = (lnAt r i).1 ∧ W (1185 + 4 * i + 1) = (lnAt r i).2.1 ∧ W (1185 + 4 * i + 2) = nI (lnAt r i).2.2.1 ∧ W (1185 + 4 * i + 3) = nI (lnAt r i).2.2.2 := by
  intro r
  induction r with
  | nil => exact fun _ i hi => absurd hi (Nat.not_lt_zero _)
  | cons x r ih =>
    intro h i hi
    have hi : i < r.length + 1 := hi
    by_cases c : i = r.length
    · rw [show lnAt (x :: r) i = x from if_pos c, c]
      exact h.1
    · rw [show lnAt (x :: r) i = lnAt r i from if_neg c]
      exact ih h.2 i (by omega)
theorem RowS.at {W : Nat → Int32} : ∀ {r : List Int32}, RowS W r → ∀ i, i < r.length → W (1233 + 2 * i) = stF (cdL r i) ∧ W (1233 + 2 * i + 1) = snF (cdL r i) := by
  intro r
  induction r with
  | nil => exact fun _ i hi => absurd hi (Nat.not_lt_zero _)
  | cons x r ih =>
    intro h i hi
    have hi : i < r.length + 1 := hi
    by_cases c : i = r.length
    · rw [show cdL (x :: r) i = x from if_pos c, c]
      exact h.1
    · rw [show cdL (x :: r) i = cdL r i from if_neg c]
      exact ih h.2 i (by omega)
theorem LD_of {W : Nat → Int32} (h1 : RowS W o) (h2 : LnW W ls) (h3 : LsOk o ls) : LD ls.length o.length W := by
  obtain ⟨g1, g2⟩ := h3
  have hc : ∀ i, i < o.length → ∃ k m, k ≤ 15 ∧ m < 1000 ∧ W (1233 + 2 * i) = nI k ∧ W (1233 + 2 * i + 1) = nI m ∧ cdN o i = trN k m := fun i hi => by
    obtain ⟨k, m, a1, a2, a3, a4, a5, -⟩ := okC_st (cdL_ok g1 i hi)
    obtain ⟨r1, r2⟩ := RowS.at h1 i hi
    exact ⟨k, m, a1, a2, r1.trans a3, r2.trans a4, a5⟩
  refine ⟨fun i hi => ?_, fun i hi => ?_⟩
  · obtain ⟨k, m, a1, a2, a3, a4, -⟩ := hc i hi
    exact ⟨k, m, a1, a2, a3, a4⟩
  · obtain ⟨-, -, l3, l4⟩ := LnW.at h2 i hi
    obtain ⟨b1, b2, b3⟩ := g2 i hi
    refine ⟨_, _, l3, l4, b1, b2, LineOk.congr b3 fun j hj => ?_⟩
    obtain ⟨k, m, a1, a2, a3, a4, a5⟩ := hc ((lnAt ls i).2.2.1 + j) (by omega)
    rw [a5]
    unfold cdD
    rw [a3, a4, nI_clamp (by omega), nI_clamp (by omega)]
/-- a draft's state between two lines: so many lines, so many codes -/
def Dl (T : Nat → Int32) (e b : Nat) (o : List Int32) (ls : List LnT) (J : Nat → Nat → Int32) (p : Nat) : Prop := Pp e p J ∧ rn T e 4 p = b ∧ J 420 16 = nI o.length ∧ RowS (J 421) o ∧ LnW (J 421) ls ∧ o.length ≤ b
theorem h_readLawLine (hw : WdS S) (hbt : BtT T) (hT : I 426 = T) (hnl : ls.length < 12) (h12 : I 420 12 = nI b) (hq : Pp e p I) (hp1 : p = rn T e 1 b) (hsk : rn T e 4 b = b) (hst : I 420 16 = nI o.length) (hrs : RowS (I 421) o) (hrl : LnW (I 421) ls) (hB : o.length ≤ b) (hbe : b ≤ e) : Sp S m_X12_readLawLine 41 0 0 [.ref 420, .int (nI ls.length)] (hp I L w1 w2 t) (fun v h' => v = some (.int (bI (lnP T e b o).1)) ∧ ∃ J p', h' = hp J L w1 w2 t ∧ Fm (sZ ls.length o.length) I J ∧ ((lnP T e b o).1 = false → J 420 12 = nI (lnP T e b o).2.1) ∧ ((lnP T e b o).1 = true → Dl T e (lnP T e b o).2.1 (lnP T e b o).2.2 (lnV T e b o (lnP T e b o).2.2 :: ls) J p')) nX := by
  have he4 := Pp.e4 hq
  have gd := lnP_gd (T := T) (o := o) hbe
  have hi : ∀ k, k < 27 → isW T b (p - b) k = isWd T e b k := fun k hk => by
    rw [hp1]
    exact isW_wd hk
  have hbp : b ≤ p := by
    rw [hp1]
    exact rn_ge
  refine Sp_of ok_X12_readLawLine rfl rfl ?_
  show AW S m_X12_readLawLine 41 _ _ 0 0 0 [some (.ref 420), some (.int (nI ls.length)), none] [] (hp I L w1 w2 t)
  refine a_s rfl rfl ?_
  refine a_s rfl rfl ?_
  refine a_l1 rfl rfl rfl ?_
  refine a_s rfl rfl ?_
  refine a_top (y := nI (4 * ls.length)) (nI_mul 4 ls.length) ?_
  refine a_s rfl rfl ?_
  refine a_top (y := nI (1185 + 4 * ls.length)) (nI_addl 1185 (4 * ls.length)) ?_
  refine a_s2 rfl rfl rfl rfl rfl rfl ?_
  refine a_l0 rfl rfl rfl ?_
  refine a_getq rfl gfX12_13_12 rfl (rfl) ?_
  refine a_l2 rfl rfl rfl ?_
  have key : AW S m_X12_readLawLine 41 (fun v h' => v = some (.int (bI (lnP T e b o).1)) ∧ ∃ J p', h' = hp J L w1 w2 t ∧ Fm (sZ ls.length o.length) I J ∧ ((lnP T e b o).1 = false → J 420 12 = nI (lnP T e b o).2.1) ∧ ((lnP T e b o).1 = true → Dl T e (lnP T e b o).2.1 (lnP T e b o).2.2 (lnV T e b o (lnP T e b o).2.2 :: ls) J p')) nX 0 0 53 [some (.ref 420), some (.int (nI ls.length)), some (.int (nI (1185 + 4 * ls.length)))] [.int (kndP T e b), .int (nI (1185 + 4 * ls.length)), .ref 421] (hp I L w1 w2 t) := by
    refine a_iastv (k := 1185 + 4 * ls.length) rfl (n := 2033) rfl (inI_nI (by omega) (by omega)) (nI_clamp (by omega)) ?_
    have f1 : Fm (sZ ls.length o.length) I (up2 I 421 (1185 + 4 * ls.length) (kndP T e b)) := Fm.up Fm.rf (sZ_in (by omega) (by omega))
    refine a_l0 rfl rfl rfl ?_
    refine a_getq rfl gfX12_13_12 rfl (rfl) ?_
    refine a_l2 rfl rfl rfl ?_
    refine a_ialdv (v := kndP T e b) rfl (n := 2033) rfl (inI_nI (by omega) (by omega)) (by rw [nI_clamp (by omega)]; exact up2_at) ?_
    by_cases c1 : kndP T e b = -1
    · rw [show lnP T e b o = (false, b, []) from if_pos c1, c1]
      refine a_if_ge rfl (fun c => absurd c (by decide)) (fun _ => ?_)
      refine a_s rfl rfl ?_
      rw [c1] at f1
      exact a_zret rfl rfl rfl ⟨rfl, _, 0, rfl, f1, fun _ => (congrFun (up2_row (by decide)) 12).trans h12, fun z => by cases z⟩
    have k1 : kd T e b = 1 ∧ ¬ kndP T e b < 0 := by
      unfold kndP at c1 ⊢
      by_cases d1 : isWd T e b 15 = true
      · rw [if_pos d1]
        exact ⟨(of_decide_eq_true d1).1, by decide⟩
      · rw [if_neg d1] at c1 ⊢
        by_cases d2 : isWd T e b 16 = true
        · rw [if_pos d2]
          exact ⟨(of_decide_eq_true d2).1, by decide⟩
        · rw [if_neg d2] at c1 ⊢
          by_cases d3 : isWd T e b 17 = true
          · rw [if_pos d3]
            exact ⟨(of_decide_eq_true d3).1, by decide⟩
          · rw [if_neg d3] at c1
            exact absurd rfl c1
    have n1 := nx_lt (T := T) (knd_lt c1)
    have n1e := nx_le (T := T) hbe
    have hpn : rn T e 4 p = nx T e b := by
      rw [hp1, ← en_1 k1.1]
      rfl
    refine a_if_ge rfl (fun _ => ?_) (fun c => absurd (Int32.not_lt.mp k1.2) c)
    refine a_l0 rfl rfl rfl ?_
    refine a_getq rfl gfX12_13_12 rfl (rfl) ?_
    refine a_l2 rfl rfl rfl ?_
    refine a_s rfl rfl ?_
    refine a_s rfl rfl ?_
    refine a_top (y := nI (1185 + 4 * ls.length + 1)) ((nI_succ _).symm) ?_
    refine a_l0 rfl rfl rfl ?_
    refine a_s rfl rfl ?_
    refine a_s rfl rfl ?_
    refine a_gV rfl lX12_113 mo_X12_number (h_number (b := nx T e b) (x := 0) (y := 60) (Pp.wd hq) (by rw [up2_row (by decide), hT]; exact hpn) (by decide)) rfl rfl rfl ⟨12, _, rfl, rfl, rfl⟩ rfl (fun v' h' hv => ?_)
    obtain ⟨rfl, J2, rfl, h2⟩ := hv
    rw [show up2 I 421 (1185 + 4 * ls.length) (kndP T e b) 426 = T from (up2_row (by decide)).trans hT] at h2 ⊢
    refine a_iastv (k := 1185 + 4 * ls.length + 1) rfl (n := 2033) rfl (inI_nI (by omega) (by omega)) (nI_clamp (by omega)) ?_
    have f3 : Fm (sZ ls.length o.length) I (up2 J2 421 (1185 + 4 * ls.length + 1) (nm T e (nx T e b) 0 60)) := Fm.up (Fm.tr f1 (Fm.mo (Rd.fm h2) sR_sZ)) (sZ_in (by omega) (by omega))
    refine a_l0 rfl rfl rfl ?_
    refine a_getq rfl gfX12_13_12 rfl (rfl) ?_
    refine a_l2 rfl rfl rfl ?_
    refine a_s rfl rfl ?_
    refine a_s rfl rfl ?_
    refine a_top (y := nI (1185 + 4 * ls.length + 1)) ((nI_succ _).symm) ?_
    refine a_ialdv (v := nm T e (nx T e b) 0 60) rfl (n := 2033) rfl (inI_nI (by omega) (by omega)) (by rw [nI_clamp (by omega)]; exact up2_at) ?_
    by_cases c2 : nm T e (nx T e b) 0 60 = -1
    · rw [show lnP T e b o = (false, nx T e b, []) from (if_neg c1).trans (if_pos c2), c2]
      refine a_if_ge rfl (fun c => absurd c (by decide)) (fun _ => ?_)
      refine a_s rfl rfl ?_
      rw [c2] at f3
      exact a_zret rfl rfl rfl ⟨rfl, _, 0, rfl, f3, fun _ => (congrFun (up2_row (by decide)) 12).trans (Rd.be h2), fun z => by cases z⟩
    have k2 : kd T e (nx T e b) = 2 ∧ ¬ nm T e (nx T e b) 0 60 < 0 := by
      unfold nm at c2 ⊢
      by_cases d1 : kd T e (nx T e b) = 2 ∧ 0 ≤ vl T e (nx T e b) ∧ vl T e (nx T e b) ≤ 60
      · rw [if_pos d1]
        exact ⟨d1.1, Int32.not_lt.mpr d1.2.1⟩
      · rw [if_neg d1] at c2
        exact absurd rfl c2
    refine a_if_ge rfl (fun _ => ?_) (fun c => absurd (Int32.not_lt.mp k2.2) c)
    have n2 := nx_lt (T := T) (nm_lt c2)
    have n2e := nx_le (T := T) n1e
    have hpn2 : rn T e 4 (rn T e 2 (nx T e b)) = nx T e (nx T e b) := by
      rw [← en_2 k2.1]
      rfl
    have s3 : up2 J2 421 (1185 + 4 * ls.length + 1) (nm T e (nx T e b) 0 60) 420 16 = nI o.length := ((congrFun (up2_row (by decide)) 16).trans (((Rd.fm h2 420 16 rfl).trans (congrFun (up2_row (by decide)) 16)).trans hst))
    refine a_l0 rfl rfl rfl ?_
    refine a_getq rfl gfX12_13_12 rfl (rfl) ?_
    refine a_l2 rfl rfl rfl ?_
    refine a_s rfl rfl ?_
    refine a_s rfl rfl ?_
    refine a_top (y := nI (1185 + 4 * ls.length + 2)) (nI_addl _ 2) ?_
    refine a_l0 rfl rfl rfl ?_
    refine a_geti rfl gfX12_168_12 rfl ?_
    refine a_top (y := nI o.length) (s3) ?_
    refine a_iastv (k := 1185 + 4 * ls.length + 2) rfl (n := 2033) rfl (inI_nI (by omega) (by omega)) (nI_clamp (by omega)) ?_
    refine a_l0 rfl rfl rfl ?_
    refine a_s rfl rfl ?_
    refine a_puti rfl pfX12_194_12 rfl ?_
    have f5 : Fm (sZ ls.length o.length) I (up2 (up2 (up2 J2 421 (1185 + 4 * ls.length + 1) (nm T e (nx T e b) 0 60)) 421 (1185 + 4 * ls.length + 2) (nI o.length)) 420 13 0) := Fm.up (Fm.up f3 (sZ_in (by omega) (by omega))) rfl
    have w2 : J2 421 (1185 + 4 * ls.length) = kndP T e b := (Rd.fm h2 421 _ rfl).trans up2_at
    refine a_ren (P := fun J => Fm (sZ ls.length o.length) I J ∧ Pp e (rn T e 2 (nx T e b)) J ∧ J 420 16 = nI o.length ∧ J 420 13 = nI 0 ∧ J 421 (1185 + 4 * ls.length) = kndP T e b ∧ J 421 (1185 + 4 * ls.length + 1) = nm T e (nx T e b) 0 60 ∧ J 421 (1185 + 4 * ls.length + 2) = nI o.length) ⟨f5, Pp.dp (Pp.wd (Pp.wd (Rd.pp h2))), ?_, up2_at, ?_, ?_, ?_⟩ (fun J5 hJ5 => ?_)
    · rw [up2_ne (Or.inr (by decide)), up2_row (by decide)]
      exact s3
    · rw [up2_row (by decide), u2_lo (by omega), u2_lo (by omega)]
      exact w2
    · rw [up2_row (by decide), u2_lo (by omega)]
      exact up2_at
    · rw [up2_row (by decide)]
      exact up2_at
    clear f5 f3 f1 s3 w2
    obtain ⟨f5, q5, s5, d5, l50, l51, l52⟩ := hJ5
    have rs5 : RowS (J5 421) o := RowS.eq hrs fun k g1 g2 => f5 421 k (sZ_mid g1 g2)
    have rl5 : LnW (J5 421) ls := LnW.eq hrl fun k g1 g2 => f5 421 k (sZ_lo (by omega) (by omega))
    have T5 : J5 426 = T := (funext fun k => f5 426 k rfl).trans hT
    have C5 : Cf T e o.length (nx T e (nx T e b)) o J5 J5 (rn T e 2 (nx T e b)) := ⟨Fm.rf, rfl, q5, hpn2, s5, rs5, Nat.le_refl _⟩
    -- the line ends here
    have key2 : ∀ {b1 p' : Nat} {o1 : List Int32} {J : Nat → Nat → Int32}, lnP T e b o = (true, b1, o1) → Cf T e o.length b1 o1 J5 J p' → AW S m_X12_readLawLine 41 (fun v h' => v = some (.int (bI (lnP T e b o).1)) ∧ ∃ J p', h' = hp J L w1 w2 t ∧ Fm (sZ ls.length o.length) I J ∧ ((lnP T e b o).1 = false → J 420 12 = nI (lnP T e b o).2.1) ∧ ((lnP T e b o).1 = true → Dl T e (lnP T e b o).2.1 (lnP T e b o).2.2 (lnV T e b o (lnP T e b o).2.2 :: ls) J p')) nX 0 0 128 [some (.ref 420), some (.int (nI ls.length)), some (.int (nI (1185 + 4 * ls.length)))] [] (hp J L w1 w2 t) := by
      intro b1 p' o1 J el C
      rw [el] at gd ⊢
      obtain ⟨-, g2, g3⟩ := gd
      have g3 : b < b1 ∧ o1.length + b ≤ o.length + b1 := g3 rfl
      refine a_l0 rfl rfl rfl ?_
      refine a_getq rfl gfX12_13_12 rfl (rfl) ?_
      refine a_l2 rfl rfl rfl ?_
      refine a_s rfl rfl ?_
      refine a_s rfl rfl ?_
      refine a_top (y := nI (1185 + 4 * ls.length + 3)) (nI_addl _ 3) ?_
      refine a_l0 rfl rfl rfl ?_
      refine a_geti rfl gfX12_168_12 rfl ?_
      refine a_top (y := nI o1.length) (Cf.st C) ?_
      refine a_iastv (k := 1185 + 4 * ls.length + 3) rfl (n := 2033) rfl (inI_nI (by omega) (by omega)) (nI_clamp (by omega)) ?_
      refine a_s rfl rfl ?_
      have lo : ∀ k, k < 1233 → J 421 k = J5 421 k := fun k hk => C.1 421 k (sY_lo (by omega))
      refine a_zret rfl rfl rfl ⟨rfl, _, p', rfl, Fm.up (Fm.tr f5 (Fm.mo C.1 sY_sZ)) (sZ_in (by omega) (by omega)), (fun z => by cases z), fun _ => ⟨Pp.wd (Cf.pp C), Cf.nb C, ?_, ?_, ⟨⟨?_, ?_, ?_, up2_at⟩, ?_⟩, by show o1.length ≤ b1; omega⟩⟩
      · rw [up2_row (by decide)]
        exact Cf.st C
      · exact RowS.eq C.2.2.2.2.2.1 fun k g1 _ => u2_lo (by omega)
      · rw [u2_lo (by omega), lo _ (by omega)]
        exact l50
      · rw [u2_lo (by omega), lo _ (by omega)]
        exact l51
      · rw [u2_lo (by omega), lo _ (by omega)]
        exact l52
      · refine LnW.eq rl5 fun k g1 g2 => ?_
        rw [u2_lo (by omega), lo _ (by omega)]
    refine a_l0 rfl rfl rfl ?_
    refine a_ldcs (q := 130 + 18) rfl (hw.ld (i := 18) (by decide)) ?_
    refine a_gV rfl lX12_128 mo_X12_passes (h_passes (b := nx T e (nx T e b)) (k := 18) hw (by decide) q5 (by rw [T5]; exact hpn2)) rfl rfl rfl ⟨12, _, rfl, rfl, rfl⟩ rfl (fun v' h' hv => ?_)
    obtain ⟨rfl, J6, rfl, h6⟩ := hv
    rw [T5] at h6 ⊢
    cases c3 : isWd T e (nx T e (nx T e b)) 18 with
    | false =>
      refine a_if_eq rfl (fun _ => ?_) (fun z => absurd rfl z)
      rw [if_neg (by rw [c3]; decide)] at h6
      exact key2 ((if_neg c1).trans ((if_neg c2).trans (if_neg (by rw [c3]; decide)))) (Cf.rd C5 h6 (Cf.sk C5))
    | true =>
      refine a_if_eq rfl (fun z => absurd z (by decide)) (fun _ => ?_)
      rw [if_pos c3] at h6
      have n3 := nx_lt (T := T) (isWd_lt c3)
      have C6 : Cf T e o.length (nx T e (nx T e (nx T e b))) o J5 J6 (en T e (nx T e (nx T e b))) := Cf.rd C5 h6 rfl
      have el : lnP T e b o = condR T e 6 (nx T e (nx T e (nx T e b))) o := (if_neg c1).trans ((if_neg c2).trans (if_pos c3))
      refine a_l0 rfl rfl rfl ?_
      refine a_gV rfl lX12_197 mo_X12_readCond (h_readCond_0 hw hbt (Cf.tt C6 T5) (Cf.d C6 d5) (Cf.rf C6) (by omega)) rfl rfl rfl ⟨12, _, rfl, rfl, rfl⟩ rfl (fun v' h' hv => ?_)
      obtain ⟨rfl, J7, p7, rfl, hz7, hf7⟩ := hv
      rw [show seqP T e (seqP T e (atomR T e 6) 20 2004) 19 2005 (nx T e (nx T e (nx T e b))) o = lnP T e b o from el.symm] at hz7 hf7 ⊢
      rcases er : lnP T e b o with ⟨z, b1, o1⟩
      rw [er] at hz7 hf7
      cases z with
      | false =>
        refine a_if_ne rfl (fun z => absurd rfl z) (fun _ => ?_)
        refine a_s rfl rfl ?_
        exact a_zret rfl rfl rfl ⟨rfl, J7, 0, rfl, Fm.tr f5 (Fm.mo (Fm.tr C6.1 (hf7 rfl).1) sY_sZ), fun _ => (hf7 rfl).2, fun z => by cases z⟩
      | true =>
        refine a_if_ne rfl (fun _ => ?_) (fun z => absurd (show (1 : Int32) = 0 from z) (by decide))
        rw [er] at key2
        exact key2 rfl (Cf.cc C6 (hz7 rfl))
  refine a_l0 rfl rfl rfl ?_
  refine a_ldcs (q := 130 + 15) rfl (hw.ld (i := 15) (by decide)) ?_
  refine a_eV1 rfl lX12_109 mo_X12_isWord (h_isWord (k := 15) hw (by decide) h12 hbp hq) rfl rfl rfl ⟨12, _, rfl, rfl, rfl⟩ rfl ?_
  refine a_top (y := bI (isWd T e b 15)) (by rw [hT]; exact congrArg bI (hi 15 (by decide))) ?_
  cases c15 : isWd T e b 15 with
  | true =>
    refine a_if_eq rfl (fun z => absurd z (by decide)) (fun _ => ?_)
    rw [show kndP T e b = 0 from if_pos c15] at key
    refine a_s rfl rfl ?_
    refine a_goto rfl ?_
    exact key
  | false =>
  refine a_if_eq rfl (fun _ => ?_) (fun z => absurd rfl z)
  refine a_l0 rfl rfl rfl ?_
  refine a_ldcs (q := 130 + 16) rfl (hw.ld (i := 16) (by decide)) ?_
  refine a_eV1 rfl lX12_109 mo_X12_isWord (h_isWord (k := 16) hw (by decide) h12 hbp hq) rfl rfl rfl ⟨12, _, rfl, rfl, rfl⟩ rfl ?_
  refine a_top (y := bI (isWd T e b 16)) (by rw [hT]; exact congrArg bI (hi 16 (by decide))) ?_
  cases c16 : isWd T e b 16 with
  | true =>
    refine a_if_eq rfl (fun z => absurd z (by decide)) (fun _ => ?_)
    rw [show kndP T e b = 1 from (if_neg (by rw [c15]; decide)).trans (if_pos c16)] at key
    refine a_s rfl rfl ?_
    refine a_goto rfl ?_
    exact key
  | false =>
  refine a_if_eq rfl (fun _ => ?_) (fun z => absurd rfl z)
  refine a_l0 rfl rfl rfl ?_
  refine a_ldcs (q := 130 + 17) rfl (hw.ld (i := 17) (by decide)) ?_
  refine a_eV1 rfl lX12_109 mo_X12_isWord (h_isWord (k := 17) hw (by decide) h12 hbp hq) rfl rfl rfl ⟨12, _, rfl, rfl, rfl⟩ rfl ?_
  refine a_top (y := bI (isWd T e b 17)) (by rw [hT]; exact congrArg bI (hi 17 (by decide))) ?_
  cases c17 : isWd T e b 17 with
  | false =>
    refine a_if_eq rfl (fun _ => ?_) (fun z => absurd rfl z)
    rw [show kndP T e b = -1 from (if_neg (by rw [c15]; decide)).trans ((if_neg (by rw [c16]; decide)).trans (if_neg (by rw [c17]; decide)))] at key
    refine a_s rfl rfl ?_
    exact key
  | true =>
    refine a_if_eq rfl (fun z => absurd z (by decide)) (fun _ => ?_)
    rw [show kndP T e b = 2 from (if_neg (by rw [c15]; decide)).trans ((if_neg (by rw [c16]; decide)).trans (if_pos c17))] at key
    refine a_s rfl rfl ?_
    refine a_goto rfl ?_
    exact key
/-- what reading a law's text may change, behind its beginning -/
def sG (q k : Nat) : Bool := sR q k || ((Nat.beq q 420 && (Nat.beq k 13 || Nat.beq k 16)) || (Nat.beq q 421 && Nat.ble 1184 k))
theorem sG_hi {k : Nat} (h : 1184 ≤ k) : sG 421 k = true := by
  show (false || (false || (true && Nat.ble 1184 k))) = true
  rw [Nat.ble_eq_true_of_le h]
  rfl
theorem sG_lo {k : Nat} (h : k < 1184) : sG 421 k = false := by
  show (false || (false || (true && Nat.ble 1184 k))) = false
  rw [ble_f h]
  rfl
theorem sR_sG : ∀ q k, sR q k = true → sG q k = true := fun q k h => by
  unfold sG
  rw [h]
  rfl
theorem sZ_sG {nl n : Nat} : ∀ q k, sZ nl n q k = true → sG q k = true := fun q k h => by
  by_cases c : q = 421
  · subst c
    refine sG_hi ?_
    rcases Nat.lt_or_ge k 1184 with g | g
    · rw [sZ_lo (by omega) (by omega)] at h
      cases h
    · exact g
  · unfold sZ at h
    unfold sG
    rw [beqF c] at h ⊢
    exact h
theorem sG_sL : ∀ q k, sG q k = true → sL q k = true := fun q k h => by
  by_cases c : q = 421
  · subst c
    refine sL_hi ?_
    rcases Nat.lt_or_ge k 1184 with g | g
    · rw [sG_lo g] at h
      cases h
    · exact g
  · refine sZ_sL (nl := 0) (n := 0) q k ?_
    unfold sG at h
    unfold sZ
    rw [beqF c] at h ⊢
    exact h
theorem Dl.rd {J : Nat → Nat → Int32} {b2 p' : Nat} (h : Dl T e b o ls I p) (r : Rd e p b2 p' I J) (hb : rn T e 4 p' = b) : Dl T e b o ls J p' := by
  obtain ⟨-, -, h3, h4, h5, h6⟩ := h
  exact ⟨Rd.pp r, hb, (Rd.fm r 420 16 rfl).trans h3, by rw [Rd.w r]; exact h4, by rw [Rd.w r]; exact h5, h6⟩
theorem h_readLineL (hw : WdS S) (hbt : BtT T) (hT : I 426 = T) (h : Dl T e b o ls I p) (hl : ls.length ≤ 12) : Sp S m_X12_readLine 60 0 0 [.ref 420, .int (bI false), .int (nI ls.length)] (hp I L w1 w2 t) (fun v h' => v = some (.int (bI (decide (ls.length < 12) && (lnP T e b o).1))) ∧ ∃ J p', h' = hp J L w1 w2 t ∧ Fm sG I J ∧ (ls.length < 12 → (lnP T e b o).1 = false → J 420 12 = nI (lnP T e b o).2.1) ∧ (¬ ls.length < 12 → J 420 12 = nI b) ∧ (ls.length < 12 → (lnP T e b o).1 = true → Dl T e (lnP T e b o).2.1 (lnP T e b o).2.2 (lnV T e b o (lnP T e b o).2.2 :: ls) J p')) nX := by
  obtain ⟨hq, hnb, hst, hrs, hrl, hB⟩ := h
  refine Sp_of ok_X12_readLine rfl rfl ?_
  show AW S m_X12_readLine 60 _ _ 0 0 0 [some (.ref 420), some (.int (bI false)), some (.int (nI ls.length))] [] (hp I L w1 w2 t)
  refine a_l0 rfl rfl rfl ?_
  refine a_gV rfl lX12_106 mo_X12_letters (h_letters hq) rfl rfl rfl ⟨12, _, rfl, rfl, rfl⟩ rfl (fun v' h' hv => ?_)
  obtain ⟨rfl, J, rfl, h1⟩ := hv
  rw [hT, hnb] at h1
  have f1 : Fm sG I J := Fm.mo (Rd.fm h1) sR_sG
  have hbe : b ≤ e := by
    rw [← hnb]
    exact rn_le (Pp.le hq)
  refine a_l2 rfl rfl rfl ?_
  refine a_l1 rfl rfl rfl ?_
  refine a_if_eq rfl (fun _ => ?_) (fun c => absurd rfl c)
  refine a_s rfl rfl ?_
  refine a_ic_ge rfl (fun c => ?_) (fun c => ?_)
  · have h12 := nI_ge_of (b := 12) c (by omega) (by decide)
    have n12 : ¬ ls.length < 12 := by omega
    rw [show decide (ls.length < 12) = false from decide_eq_false n12]
    refine a_s rfl rfl ?_
    exact a_zret rfl rfl rfl ⟨rfl, J, 0, rfl, f1, fun z => absurd z n12, fun _ => Rd.be h1, fun z => absurd z n12⟩
  have hnl : ls.length < 12 := nI_lt_of (b := 12) c (by omega) (by decide)
  rw [show decide (ls.length < 12) = true from decide_eq_true hnl]
  refine a_l1 rfl rfl rfl ?_
  refine a_if_eq rfl (fun _ => ?_) (fun c => absurd rfl c)
  refine a_l0 rfl rfl rfl ?_
  refine a_l2 rfl rfl rfl ?_
  have eT : J 426 = T := (Rd.T h1).trans hT
  refine a_gV rfl lX12_229 mo_X12_readLawLine (h_readLawLine hw hbt eT hnl (Rd.be h1) (Rd.pp h1) rfl (by rw [← hnb]; exact rn_rn) ((Rd.fm h1 420 16 rfl).trans hst) (by rw [Rd.w h1]; exact hrs) (by rw [Rd.w h1]; exact hrl) hB hbe) rfl rfl rfl ⟨12, _, rfl, rfl, rfl⟩ rfl (fun v' h' hv => ?_)
  obtain ⟨rfl, J2, p2, rfl, f2, hn2, hy2⟩ := hv
  have f3 : Fm sG I J2 := Fm.tr f1 (Fm.mo f2 sZ_sG)
  cases c3 : (lnP T e b o).1 with
  | false =>
    refine a_if_eq rfl (fun _ => ?_) (fun z => absurd rfl z)
    refine a_s rfl rfl ?_
    exact a_zret rfl rfl rfl ⟨rfl, J2, 0, rfl, f3, fun _ _ => hn2 c3, fun z => absurd hnl z, fun _ z => by cases z⟩
  | true =>
    refine a_if_eq rfl (fun z => absurd z (by decide)) (fun _ => ?_)
    refine a_s rfl rfl ?_
    refine a_goto rfl ?_
    exact a_zret rfl rfl rfl ⟨rfl, J2, p2, rfl, f3, fun _ z => (by cases z), fun z => absurd hnl z, fun _ _ => hy2 c3⟩
/-- behind all lines -/
def LwR (r : LRs) (J : Nat → Nat → Int32) : Prop := J 420 16 = nI r.2.2.1.length ∧ RowS (J 421) r.2.2.1 ∧ LnW (J 421) r.2.2.2 ∧ r.2.2.2.length ≤ 12 ∧ r.2.2.1.length ≤ 400
theorem h_readAllL (hw : WdS S) (hbt : BtT T) (hT : I 426 = T) (h9 : I 420 9 = nI e) (h4 : e ≤ 400) : Sp S m_X12_readAll 61 0 0 [.ref 420, .int (bI false)] (hp I L w1 w2 t) (fun v h' => v = some (.int (if (lawP T e).1 = true then nI (lawP T e).2.2.2.length else -1)) ∧ ∃ J, h' = hp J L w1 w2 t ∧ Fm sG (usH I) J ∧ ((lawP T e).1 = false → J 420 12 = nI (lawP T e).2.1) ∧ ((lawP T e).1 = true → LwR (lawP T e) J)) nX := by
  refine Sp_of ok_X12_readAll rfl rfl ?_
  show AW S m_X12_readAll 61 _ _ 0 0 0 [some (.ref 420), some (.int (bI false)), none] [] (hp I L w1 w2 t)
  have T0 : up2 (usH I) 420 16 0 426 = T := ((up2_row (by decide)).trans (usH_row (by decide))).trans hT
  have P0 : Pp e 0 (up2 (usH I) 420 16 0) := ⟨(up2_ne (Or.inr (by decide))).trans up2_at, ((up2_ne (Or.inr (by decide))).trans usH_11).trans h9, Nat.zero_le _, h4⟩
  have F0 : Fm sG (usH I) (up2 (usH I) 420 16 0) := Fm.up Fm.rf rfl
  refine a_l0 rfl rfl rfl ?_
  refine a_eV0 rfl lX12_232 mo_X12_uses r_X12_uses rfl rfl rfl ⟨12, _, rfl, rfl, rfl⟩ rfl ?_
  refine a_l0 rfl rfl rfl ?_
  refine a_s rfl rfl ?_
  refine a_puti rfl pfX12_168_12 rfl ?_
  refine a_l0 rfl rfl rfl ?_
  refine a_gV rfl lX12_94 mo_X12_blanks (h_blanks (I := up2 (usH I) 420 16 0) P0) rfl rfl rfl ⟨12, _, rfl, rfl, rfl⟩ rfl (fun v' h' hv => ?_)
  obtain ⟨rfl, J1, rfl, h1⟩ := hv
  rw [T0] at h1
  have h1 : Rd e 0 (bg T e 0) (bg T e 0) (up2 (usH I) 420 16 0) J1 := h1
  have F1 : Fm sG (usH I) J1 := Fm.tr F0 (Fm.mo (Rd.fm h1) sR_sG)
  have D1 : Dl T e (bg T e 0) [] [] J1 (bg T e 0) := ⟨Rd.pp h1, bg_sk 0, (Rd.fm h1 420 16 rfl).trans (up2_at.trans nI_0.symm), trivial, trivial, Nat.zero_le _⟩
  have hb0 := bg_le (T := T) (e := e) 0
  refine a_l0 rfl rfl rfl ?_
  refine a_geti rfl gfX12_81_12 rfl ?_
  refine a_top (y := nI (bg T e 0)) (Pp.pu (Rd.pp h1)) ?_
  refine a_l0 rfl rfl rfl ?_
  refine a_geti rfl gfX12_84_12 rfl ?_
  refine a_top (y := nI e) (Pp.en (Rd.pp h1)) ?_
  refine a_ic_ne rfl (fun c0 => ?_) (fun c0 => ?_)
  rotate_left
  · have c0 := nI_inj (by omega) (by omega) c0
    have el : lawP T e = (true, bg T e 0, [], []) := if_neg (by omega)
    rw [el, if_pos rfl]
    refine a_s rfl rfl ?_
    exact a_iret rfl rfl ⟨nI_0 ▸ rfl, J1, rfl, F1, fun z => (by cases z), fun _ => ⟨D1.2.2.1, trivial, trivial, Nat.zero_le _, Nat.zero_le _⟩⟩
  have c0 : bg T e 0 < e := by
    rcases Nat.lt_or_ge (bg T e 0) e with g | g
    · exact g
    · exact absurd (congrArg nI (show bg T e 0 = e by omega)) c0
  refine a_s rfl rfl ?_
  refine a_s2 rfl rfl rfl rfl rfl rfl ?_
  refine a_inv (n := 12) (fun m ls h => ∃ b' o' ls' p' J, ls = [some (.ref 420), some (.int (bI false)), some (.int (nI ls'.length))] ∧ h = hp J L w1 w2 t ∧ Dl T e b' o' ls' J p' ∧ Fm sG (usH I) J ∧ lnsP T e (12 - ls'.length) b' o' ls' = lawP T e ∧ ls'.length ≤ 12 ∧ m = 12 - ls'.length) ⟨bg T e 0, [], [], bg T e 0, J1, rfl, rfl, D1, F1, (if_pos c0).symm, by decide, rfl⟩ ?_
  rintro m _ _ ⟨b', o', ls', p', J, rfl, rfl, hD, hF, es, hl, hm⟩ ih
  have eT : J 426 = T := ((funext fun k => hF 426 k rfl).trans (usH_row (by decide))).trans hT
  refine a_l0 rfl rfl rfl ?_
  refine a_l1 rfl rfl rfl ?_
  refine a_l2 rfl rfl rfl ?_
  refine a_gV rfl lX12_235 mo_X12_readLine (h_readLineL hw hbt eT hD hl) rfl rfl rfl ⟨12, _, rfl, rfl, rfl⟩ rfl (fun v' h' hv => ?_)
  obtain ⟨rfl, J2, p2, rfl, f2, hn2, hx2, hy2⟩ := hv
  have hF2 : Fm sG (usH I) J2 := Fm.tr hF f2
  have hb' : b' ≤ e := by
    rw [← hD.2.1]
    exact rn_le (Pp.le hD.1)
  have gd := lnP_gd (T := T) (o := o') hb'
  by_cases c12 : ls'.length < 12
  rotate_left
  · rw [show 12 - ls'.length = 0 by omega] at es
    have es : lawP T e = (false, b', [], []) := es.symm
    rw [show decide (ls'.length < 12) = false from decide_eq_false c12]
    refine a_if_ne rfl (fun z => absurd rfl z) (fun _ => ?_)
    refine a_s rfl rfl ?_
    rw [es, if_neg Bool.false_ne_true]
    exact a_iret rfl rfl ⟨rfl, J2, rfl, hF2, fun _ => hx2 c12, fun z => by cases z⟩
  obtain ⟨f, hf⟩ : ∃ f, 12 - ls'.length = f + 1 := ⟨12 - ls'.length - 1, by omega⟩
  rw [hf, lnsP_s] at es
  rw [show decide (ls'.length < 12) = true from decide_eq_true c12]
  have hn2 := hn2 c12
  have hy2 := hy2 c12
  clear hx2
  rcases er : lnP T e b' o' with ⟨z, b1, o1⟩
  rw [er] at es hn2 hy2 gd
  cases z with
  | false =>
    refine a_if_ne rfl (fun z => absurd rfl z) (fun _ => ?_)
    have es : lawP T e = (false, b1, [], []) := es.symm
    refine a_s rfl rfl ?_
    rw [es, if_neg Bool.false_ne_true]
    exact a_iret rfl rfl ⟨rfl, J2, rfl, hF2, fun _ => hn2 rfl, fun z => by cases z⟩
  | true =>
  refine a_if_ne rfl (fun _ => ?_) (fun z => absurd (show (1 : Int32) = 0 from z) (by decide))
  rw [if_pos rfl] at es
  have D2 : Dl T e b1 o1 (lnV T e b' o' o1 :: ls') J2 p2 := hy2 rfl
  obtain ⟨-, g2, g3⟩ := gd
  have g2 : b1 ≤ e := g2
  have eT2 : J2 426 = T := (funext fun k => f2 426 k rfl).trans eT
  refine a_l0 rfl rfl rfl ?_
  refine a_gV rfl lX12_94 mo_X12_blanks (h_blanks D2.1) rfl rfl rfl ⟨12, _, rfl, rfl, rfl⟩ rfl (fun v' h' hv => ?_)
  obtain ⟨rfl, J3, rfl, h3⟩ := hv
  rw [eT2, D2.2.1] at h3
  have hF3 : Fm sG (usH I) J3 := Fm.tr hF2 (Fm.mo (Rd.fm h3) sR_sG)
  have D3 := Dl.rd D2 h3 (by rw [← D2.2.1]; exact rn_rn)
  have eT3 : J3 426 = T := (Rd.T h3).trans eT2
  refine a_l0 rfl rfl rfl ?_
  refine a_geti rfl gfX12_81_12 rfl ?_
  refine a_top (y := nI b1) (Pp.pu (Rd.pp h3)) ?_
  refine a_l0 rfl rfl rfl ?_
  refine a_geti rfl gfX12_84_12 rfl ?_
  refine a_top (y := nI e) (Pp.en (Rd.pp h3)) ?_
  refine a_ic_ne rfl (fun c1 => ?_) (fun c1 => ?_)
  rotate_left
  · have c1 := nI_inj (by omega) (by omega) c1
    have es : lawP T e = (true, b1, o1, lnV T e b' o' o1 :: ls') := es.symm.trans (if_neg (show ¬ b1 < e by omega))
    refine a_l2 rfl rfl rfl ?_
    refine a_s rfl rfl ?_
    refine a_s rfl rfl ?_
    refine a_top (y := nI (ls'.length + 1)) ((nI_succ _).symm) ?_
    rw [es, if_pos rfl]
    obtain ⟨-, -, x1, x2, x3, x4⟩ := D3
    exact a_iret rfl rfl ⟨rfl, J3, rfl, hF3, fun z => (by cases z), fun _ => ⟨x1, x2, x3, by show ls'.length + 1 ≤ 12; omega, by show o1.length ≤ 400; omega⟩⟩
  have c1 : b1 < e := by
    rcases Nat.lt_or_ge b1 e with g | g
    · exact g
    · exact absurd (congrArg nI (show b1 = e by omega)) c1
  have es := (if_pos c1).symm.trans es
  refine a_l0 rfl rfl rfl ?_
  refine a_s rfl rfl ?_
  refine a_s rfl rfl ?_
  refine a_eV1 rfl lX12_87 mo_X12_isAt (h_isAt (Rd.pp h3)) rfl rfl rfl ⟨12, _, rfl, rfl, rfl⟩ rfl ?_
  refine a_top (y := bI (sg T e b1 59)) (by rw [eT3]; exact congrArg bI (at_s (c := 59) hbt h4 (by decide))) ?_
  cases c59 : sg T e b1 59 with
  | true =>
    refine a_if_ne rfl (fun _ => ?_) (fun z => absurd (show (1 : Int32) = 0 from z) (by decide))
    have es := (if_pos c59).symm.trans es
    refine a_l0 rfl rfl rfl ?_
    refine a_s rfl rfl ?_
    refine a_geti rfl gfX12_81_12 rfl ?_
    refine a_top (y := nI b1) (Pp.pu (Rd.pp h3)) ?_
    refine a_s rfl rfl ?_
    refine a_s rfl rfl ?_
    refine a_top (y := nI (b1 + 1)) ((nI_succ _).symm) ?_
    refine a_puti rfl pfX12_81_12 rfl ?_
    refine a_iv2 (y := nI (ls'.length + 1)) rfl rfl rfl ((nI_succ _).symm) ?_
    refine a_goto rfl ?_
    have n1 := nx_lt (T := T) c1
    have e3 := en_3 (of_decide_eq_true c59).1
    obtain ⟨-, -, x1, x2, x3, x4⟩ := D3
    exact ih (12 - (ls'.length + 1)) _ _ (by omega) ⟨nx T e b1, o1, lnV T e b' o' o1 :: ls', b1 + 1, _, rfl, rfl, ⟨Pp.to (Rd.pp h3) (by omega), by rw [← e3]; rfl, (up2_ne (Or.inr (by decide))).trans x1, by rw [up2_row (by decide)]; exact x2, by rw [up2_row (by decide)]; exact x3, by omega⟩, Fm.up hF3 rfl, by rw [show 12 - (lnV T e b' o' o1 :: ls').length = f from (by show 12 - (ls'.length + 1) = f; omega)]; exact es, by show ls'.length + 1 ≤ 12; omega, rfl⟩
  | false =>
    refine a_if_ne rfl (fun z => absurd rfl z) (fun _ => ?_)
    have es : lawP T e = (false, b1, [], []) := es.symm.trans (if_neg (by rw [c59]; decide))
    refine a_s rfl rfl ?_
    rw [es, if_neg Bool.false_ne_true]
    exact a_iret rfl rfl ⟨rfl, J3, rfl, hF3, fun _ => Rd.be h3, fun z => by cases z⟩
theorem h_throwsIf {z : Bool} {x : Int32} : SpE S m_X12_throwsIf 12 [.ref 420, .int (bI z), .int x] (hp I L w1 w2 t) (some (.int (bI z))) (hp (if z = true then up2 I 420 0 x else I) L w1 w2 t) := by
  refine SpE_of ok_X12_throwsIf rfl rfl ?_
  show AW S m_X12_throwsIf 12 _ _ 0 0 0 [some (.ref 420), some (.int (bI z)), some (.int x)] [] (hp I L w1 w2 t)
  refine a_l1 rfl rfl rfl ?_
  cases z with
  | false =>
    refine a_if_eq rfl (fun _ => ?_) (fun c => absurd rfl c)
    refine a_l1 rfl rfl rfl ?_
    exact a_zret rfl rfl rfl ⟨rfl, rfl⟩
  | true =>
    refine a_if_eq rfl (fun c => absurd c (by decide)) (fun _ => ?_)
    refine a_l0 rfl rfl rfl ?_
    refine a_l2 rfl rfl rfl ?_
    refine a_puti rfl pfX12_3_12 rfl ?_
    refine a_l1 rfl rfl rfl ?_
    exact a_zret rfl rfl rfl ⟨rfl, rfl⟩
/-- behind a law's text: what stands in the world -/
def LwJ (r : LRs) (I J : Nat → Nat → Int32) : Prop := (r.1 = true → J 421 3 = 1 ∧ J 421 335 = nI r.2.2.2.length ∧ ∃ K, RowS K r.2.2.1 ∧ LnW K r.2.2.2 ∧ ∀ k, 1 ≤ k → k < 849 → J 421 (335 + k) = K (1184 + k)) ∧ (r.1 = false → ∀ k, k < 1184 → J 421 k = I 421 k)
theorem h_law (hw : WdS S) (hr : RI nd np I) (hbt : BtT T) (hT : I 426 = T) (h9 : I 420 9 = nI e) (h4 : e ≤ 400) : Sp S m_X12_law 62 0 0 [.ref 420] (hp I L w1 w2 t) (fun v h' => v = some (.int (if (lawP T e).1 = true then nI (lawP T e).2.2.2.length else 0)) ∧ ∃ J, h' = hp J L w1 w2 t ∧ Us nd np I J ∧ J 420 0 = (if (lawP T e).1 = true then 0 else 1) ∧ J 420 14 = (if (lawP T e).1 = true then -1 else nI (lawP T e).2.1) ∧ (∀ q, q ≠ 420 → q ≠ 421 → J q = I q) ∧ LwJ (lawP T e) I J) nX := by
  refine Sp_of ok_X12_law rfl rfl ?_
  show AW S m_X12_law 62 _ _ 0 0 0 [some (.ref 420), none, none] [] (hp I L w1 w2 t)
  have fU : Fm sL I (usH I) := by
    unfold usH
    exact Fm.up (Fm.up (Fm.up (Fm.up Fm.rf rfl) rfl) rfl) rfl
  have u0 : usH I 420 0 = 0 := by
    unfold usH
    rw [up2_ne (Or.inr (by decide)), up2_ne (Or.inr (by decide)), up2_ne (Or.inr (by decide))]
    exact up2_at
  refine a_l0 rfl rfl rfl ?_
  refine a_s rfl rfl ?_
  refine a_gV rfl lX12_239 mo_X12_readAll (h_readAllL hw hbt hT h9 h4) rfl rfl rfl ⟨12, _, rfl, rfl, rfl⟩ rfl (fun v' h' hv => ?_)
  obtain ⟨rfl, J, rfl, hF, hn, hy⟩ := hv
  have hG : GL I J := ⟨Fm.tr fU (Fm.mo hF sG_sL), (hF 420 9 rfl).trans usH_9⟩
  have j0 : J 420 0 = 0 := (hF 420 0 rfl).trans u0
  have other : ∀ q, q ≠ 420 → q ≠ 421 → J q = I q := fun q g1 g2 => by
    rw [show J q = usH I q from funext fun k => hF q k (by unfold sG sR; rw [beqF g1, beqF g2]; rfl), usH_row g1]
  rcases er : lawP T e with ⟨z, b1, o1, l1⟩
  rw [er] at hn hy
  have lok := lawP_ok (T := T) (e := e)
  rw [er] at lok
  cases z with
  | false =>
    refine a_top (y := (-1)) (rfl) ?_
    refine a_s1 rfl rfl rfl rfl rfl rfl ?_
    refine a_l0 rfl rfl rfl ?_
    refine a_l1 rfl rfl rfl ?_
    refine a_if_ge rfl (fun c => absurd c (by decide)) (fun _ => ?_)
    refine a_l0 rfl rfl rfl ?_
    refine a_getiv (v := nI b1) rfl gfX12_91_12 rfl (hn rfl) ?_
    refine a_goto rfl ?_
    refine a_puti rfl pfX12_33_12 rfl ?_
    refine a_l0 rfl rfl rfl ?_
    refine a_l1 rfl rfl rfl ?_
    refine a_if_ge rfl (fun c => absurd c (by decide)) (fun _ => ?_)
    refine a_s rfl rfl ?_
    refine a_goto rfl ?_
    refine a_s rfl rfl ?_
    refine a_eV1 rfl lX12_243 mo_X12_throwsIf (h_throwsIf (z := true)) rfl rfl rfl ⟨12, _, rfl, rfl, rfl⟩ rfl ?_
    rw [if_pos rfl]
    refine a_if_eq rfl (fun c => absurd c (by decide)) (fun _ => ?_)
    refine a_s rfl rfl ?_
    have g2 : GL I (up2 (up2 J 420 14 (nI b1)) 420 0 1) := ⟨Fm.up (Fm.up hG.1 rfl) rfl, (up2_ne (Or.inr (by decide))).trans ((up2_ne (Or.inr (by decide))).trans hG.2)⟩
    refine a_iret rfl rfl ⟨rfl, _, rfl, Us.same hr g2, ?_, ?_, ?_, ?_, ?_⟩
    · exact up2_at
    · exact (up2_ne (Or.inr (by decide))).trans up2_at
    · intro q g1 g3
      rw [up2_row g1, up2_row g1]
      exact other q g1 g3
    · exact fun z => by cases z
    · intro _ k hk
      rw [up2_row (by decide), up2_row (by decide), hF 421 k (sG_lo hk), usH_row (by decide)]
  | true =>
    refine a_top (y := nI l1.length) (rfl) ?_
    obtain ⟨x1, x2, x3, x4, x5⟩ := hy rfl
    have x4 : l1.length ≤ 12 := x4
    have x5 : o1.length ≤ 400 := x5
    refine a_s1 rfl rfl rfl rfl rfl rfl ?_
    refine a_l0 rfl rfl rfl ?_
    refine a_l1 rfl rfl rfl ?_
    refine a_if_ge rfl (fun _ => ?_) (fun c => absurd (nI_0le (k := l1.length) (by omega)) c)
    refine a_s rfl rfl ?_
    refine a_puti rfl pfX12_33_12 rfl ?_
    refine a_l0 rfl rfl rfl ?_
    refine a_l1 rfl rfl rfl ?_
    refine a_if_ge rfl (fun _ => ?_) (fun c => absurd (nI_0le (k := l1.length) (by omega)) c)
    refine a_s rfl rfl ?_
    refine a_s rfl rfl ?_
    refine a_eV1 rfl lX12_243 mo_X12_throwsIf (h_throwsIf (z := false)) rfl rfl rfl ⟨12, _, rfl, rfl, rfl⟩ rfl ?_
    rw [if_neg Bool.false_ne_true]
    generalize hK : up2 J 420 14 (-1) = K
    have gK : GL I K := by
      subst hK
      exact ⟨Fm.up hG.1 rfl, (up2_ne (Or.inr (by decide))).trans hG.2⟩
    have eK : K 421 = J 421 := by
      subst hK
      exact up2_row (by decide)
    have k0 : K 420 0 = 0 := by
      subst hK
      exact (up2_ne (Or.inr (by decide))).trans j0
    have k14 : K 420 14 = -1 := by
      subst hK
      exact up2_at
    have kother : ∀ q, q ≠ 420 → q ≠ 421 → K q = I q := fun q g1 g2 => by
      subst hK
      rw [up2_row g1]
      exact other q g1 g2
    have fin := Us.law (nl := l1.length) hr gK x4 x5 (by rw [eK]; exact LD_of x2 x3 (lok rfl))
    refine a_if_eq rfl (fun _ => ?_) (fun c => absurd rfl c)
    refine a_l0 rfl rfl rfl ?_
    refine a_getq rfl gfX12_13_12 rfl (rfl) ?_
    refine a_s rfl rfl ?_
    refine a_l1 rfl rfl rfl ?_
    refine a_iastv (k := 1184) rfl (n := 2033) rfl ⟨by decide, by decide⟩ rfl ?_
    refine a_s rfl rfl ?_
    refine a_s2 rfl rfl rfl rfl rfl rfl ?_
    refine a_forE (n := 849) (fun j => [some (.ref 420), some (.int (nI l1.length)), some (.int (nI j))]) (fun j => hp (cpR (up2 K 421 1184 (nI l1.length)) 421 335 421 1184 j) L w1 w2 t) (by simp [lsub, nI_0]) (by rw [cpR_0]) ?_ (fun j hj ih => ?_)
    · refine a_l2 rfl rfl rfl ?_
      refine a_s rfl rfl ?_
      refine a_ic_ge rfl (fun _ => ?_) (fun c => absurd (Int32.le_refl _) c)
      refine a_l0 rfl rfl rfl ?_
      refine a_getq rfl gfX12_13_12 rfl (rfl) ?_
      refine a_s rfl rfl ?_
      refine a_s rfl rfl ?_
      refine a_iastv (k := 3) rfl (n := 2033) rfl ⟨by decide, by decide⟩ rfl ?_
      refine a_l0 rfl rfl rfl ?_
      refine a_s rfl rfl ?_
      refine a_puti rfl pfX12_53_12 rfl ?_
      refine a_l1 rfl rfl rfl ?_
      have r0 : ∀ k, k ≠ 7 → lawH K l1.length 420 k = K 420 k := fun k hk => by
        unfold lawH
        rw [up2_ne (Or.inr hk), up2_row (by decide), cpR_row (by decide), up2_row (by decide)]
      refine a_iret rfl rfl ⟨rfl, _, rfl, fin, ?_, ?_, ?_, ?_, ?_⟩
      · exact (r0 0 (by decide)).trans k0
      · exact (r0 14 (by decide)).trans k14
      · intro q g1 g2
        show lawH K l1.length q = I q
        unfold lawH
        rw [up2_row g1, up2_row g2, cpR_row g2, up2_row g2]
        exact kother q g1 g2
      · refine fun _ => ⟨?_, ?_, J 421, x2, x3, fun k k1 k2 => ?_⟩
        · show lawH K l1.length 421 3 = 1
          unfold lawH
          rw [up2_row (by decide)]
          exact up2_at
        · show lawH K l1.length 421 335 = nI l1.length
          unfold lawH
          rw [up2_row (by decide), u2_lo (by decide), show 335 = 335 + 0 by omega, cpR_in (by decide)]
          exact up2_at
        · show lawH K l1.length 421 (335 + k) = _
          unfold lawH
          rw [up2_row (by decide), u2_lo (by omega), cpR_in k2, u2_lo (by omega), eK, Nat.add_comm]
      · exact fun z => by cases z
    · refine a_l2 rfl rfl rfl ?_
      refine a_s rfl rfl ?_
      refine a_ic_ge rfl (fun c => absurd c (nI_ge (b := 849) hj (by omega))) (fun _ => ?_)
      refine a_l0 rfl rfl rfl ?_
      refine a_getq rfl gfX12_13_12 rfl (rfl) ?_
      refine a_s rfl rfl ?_
      refine a_l2 rfl rfl rfl ?_
      refine a_s rfl rfl ?_
      refine a_top (y := nI (335 + j)) (nI_addl 335 j) ?_
      refine a_l0 rfl rfl rfl ?_
      refine a_getq rfl gfX12_13_12 rfl (rfl) ?_
      refine a_s rfl rfl ?_
      refine a_l2 rfl rfl rfl ?_
      refine a_s rfl rfl ?_
      refine a_top (y := nI (1184 + j)) (nI_addl 1184 j) ?_
      refine a_ialdv (v := up2 K 421 1184 (nI l1.length) 421 (j + 1184)) rfl (n := 2033) rfl (inI_nI (by omega) (by omega)) (by rw [nI_clamp (by omega), cpR_out (by omega), Nat.add_comm]) ?_
      refine a_iastv (k := 335 + j) rfl (n := 2033) rfl (inI_nI (by omega) (by omega)) (nI_clamp (by omega)) ?_
      rw [cpR_succ]
      refine a_i2 rfl rfl rfl ?_
      refine a_goto rfl ?_
      exact a_back ih (by simp [lsub, nI_1]) rfl
end T79i
end
section
/-! ===== what a feed writes, on both sides ===== -/
section T79j
variable {S : aS} {I : Nat → Nat → Int32} {L : Nat → Nat → Int64} {w1 w2 t : Nat} {l : Nat} {x1 x2 x3 x4 x5 : Int32}
set_option maxRecDepth 100000
def gvF (x1 x2 x3 x4 x5 : Int32) (q : Nat) : Int32 := if q = 0 then x1 else if q = 1 then x2 else if q = 2 then x3 else if q = 3 then x4 else x5
/-- the j-th of twenty bytes -/
def fbF (x1 x2 x3 x4 x5 : Int32) (j : Nat) : Int32 := byA (gvF x1 x2 x3 x4 x5 (j / 4)) (nI (24 - 8 * (j % 4)))
/-- a tape's row behind j of them -/
def tpF (f : Nat → Int32) (l j : Nat) (x1 x2 x3 x4 x5 : Int32) : Nat → Int32 := fun k => if l ≤ k ∧ k < l + j then fbF x1 x2 x3 x4 x5 (k - l) else f k
theorem tpF_0 {f : Nat → Int32} : tpF f l 0 x1 x2 x3 x4 x5 = f := by
  funext k
  exact if_neg (by omega)
theorem by_ok : ∀ n, n < 256 → (nI n - 128).toInt8.toInt32 = nI n - 128 := by decide +kernel
theorem i8_rng (x : Int8) : ∃ n, n < 256 ∧ x.toInt32 = nI n - 128 := by
  have h1 := Int8.le_toInt x
  have h2 := Int8.toInt_lt x
  refine ⟨(x.toInt + 128).toNat, by omega, ?_⟩
  rw [← Int32.toInt_inj, Int8.toInt_toInt32, Int32.toInt_sub, nI_toInt (by omega), show (128 : Int32).toInt = 128 from rfl, Int.bmod_eq_of_le (by omega) (by omega)]
  omega
theorem tpF_bt {f : Nat → Int32} {j : Nat} (h : BtT f) : BtT (tpF f l j x1 x2 x3 x4 x5) := fun k hk => by
  unfold tpF
  by_cases c : l ≤ k ∧ k < l + j
  · rw [if_pos c]
    exact i8_rng _
  · rw [if_neg c]
    exact h k hk
theorem apH_at {x : Int32} {i : Nat} (hi : i < 4) : apH I l x 202 (l + i) = byA x (nI (24 - 8 * i)) := by
  unfold apH
  rcases i with _ | _ | _ | _ | i
  · rw [up2_row (by decide), up2_ne (Or.inr (by omega)), up2_row (by decide), up2_ne (Or.inr (by omega)), up2_row (by decide), up2_ne (Or.inr (by omega)), up2_row (by decide)]
    exact up2_at
  · rw [up2_row (by decide), up2_ne (Or.inr (by omega)), up2_row (by decide), up2_ne (Or.inr (by omega)), up2_row (by decide)]
    exact up2_at
  · rw [up2_row (by decide), up2_ne (Or.inr (by omega)), up2_row (by decide)]
    exact up2_at
  · rw [up2_row (by decide)]
    exact up2_at
  · omega
theorem apH_out {x : Int32} {k : Nat} (h : k < l ∨ l + 4 ≤ k) : apH I l x 202 k = I 202 k := by
  unfold apH
  rw [up2_row (by decide), up2_ne (Or.inr (by omega)), up2_row (by decide), up2_ne (Or.inr (by omega)), up2_row (by decide), up2_ne (Or.inr (by omega)), up2_row (by decide), up2_ne (Or.inr (by omega))]
/-- a block of four -/
theorem fbF_4 {q i : Nat} (hi : i < 4) : fbF x1 x2 x3 x4 x5 (4 * q + i) = byA (gvF x1 x2 x3 x4 x5 q) (nI (24 - 8 * i)) := by
  unfold fbF
  rw [show (4 * q + i) / 4 = q by omega, show (4 * q + i) % 4 = i by omega]
theorem fdH_202 : fdH I l x1 x2 x3 x4 x5 202 = tpF (I 202) l 20 x1 x2 x3 x4 x5 := by
  funext k
  unfold tpF
  by_cases c : l ≤ k ∧ k < l + 20
  · rw [if_pos c]
    obtain ⟨q, i, hq, hi, e⟩ : ∃ q i, q < 5 ∧ i < 4 ∧ k - l = 4 * q + i := ⟨(k - l) / 4, (k - l) % 4, by omega, by omega, by omega⟩
    rw [e, fbF_4 hi]
    unfold fdH
    rcases q with _ | _ | _ | _ | _ | q
    · rw [apH_out (by omega), apH_out (by omega), apH_out (by omega), apH_out (by omega), show k = l + i by omega, apH_at hi]
      rfl
    · rw [apH_out (by omega), apH_out (by omega), apH_out (by omega), show k = l + 4 + i by omega, apH_at hi]
      rfl
    · rw [apH_out (by omega), apH_out (by omega), show k = l + 8 + i by omega, apH_at hi]
      rfl
    · rw [apH_out (by omega), show k = l + 12 + i by omega, apH_at hi]
      rfl
    · rw [show k = l + 16 + i by omega, apH_at hi]
      rfl
    · omega
  · rw [if_neg c]
    unfold fdH
    rw [apH_out (by omega), apH_out (by omega), apH_out (by omega), apH_out (by omega), apH_out (by omega)]
theorem up_tp {J : Nat → Nat → Int32} {f g : Nat → Int32} {j : Nat} : up2 (upr (upr J 427 g) 426 (tpF f l j x1 x2 x3 x4 x5)) 426 (l + j) (fbF x1 x2 x3 x4 x5 j) = upr (upr J 427 g) 426 (tpF f l (j + 1) x1 x2 x3 x4 x5) := by
  funext q k
  by_cases hq : q = 426
  · subst hq
    rw [upr_at]
    unfold tpF
    by_cases hk : k = l + j
    · subst hk
      rw [up2_at, if_pos (by omega), show l + j - l = j by omega]
    · rw [up2_ne (Or.inr hk), upr_at]
      by_cases c5 : l ≤ k ∧ k < l + j
      · rw [if_pos c5, if_pos (by omega)]
      · rw [if_neg c5, if_neg (by omega)]
  · rw [upr_row hq, up2_row hq, upr_row hq]
theorem sh_ok : ∀ j, j < 20 → 24 - 8 * (nI j - nI j / 4 * 4) = nI (24 - 8 * (j % 4)) := by decide +kernel
theorem h_feed (hl : I 420 9 = nI l) (h4 : l ≤ 400) : Sp S m_X12_feed 12 0 0 [.ref 420, .int x1, .int x2, .int x3, .int x4, .int x5] (hp I L w1 w2 t) (fun v h' => v = some (.int (if l + 20 ≤ 400 then nI (l + 20) else -1)) ∧ ∃ g, h' = hp (if l + 20 ≤ 400 then up2 (upr (upr (up2 I 420 0 0) 427 g) 426 (tpF (I 426) l 20 x1 x2 x3 x4 x5)) 420 9 (nI (l + 20)) else up2 I 420 0 0) L w1 w2 t) nX := by
  refine Sp_of ok_X12_feed rfl rfl ?_
  show AW S m_X12_feed 12 _ _ 0 0 0 [some (.ref 420), some (.int x1), some (.int x2), some (.int x3), some (.int x4), some (.int x5), none] [] (hp I L w1 w2 t)
  refine a_l0 rfl rfl rfl ?_
  refine a_s rfl rfl ?_
  refine a_puti rfl pfX12_3_12 rfl ?_
  refine a_l0 rfl rfl rfl ?_
  refine a_geti rfl gfX12_78_12 rfl ?_
  refine a_top (y := nI l) ((up2_ne (Or.inr (by decide))).trans hl) ?_
  refine a_s rfl rfl ?_
  refine a_s rfl rfl ?_
  refine a_top (y := nI (l + 20)) (nI_addl l 20) ?_
  refine a_s rfl rfl ?_
  refine a_ic_le rfl (fun c => ?_) (fun c => ?_)
  · have hc : l + 20 ≤ 400 := nI_ge_of (a := 400) (b := l + 20) c (by decide) (by omega)
    simp only [if_pos hc]
    refine a_l0 rfl rfl rfl ?_
    refine a_getq rfl gfX12_36_12 rfl (rfl) ?_
    refine a_s rfl rfl ?_
    refine a_l1 rfl rfl rfl ?_
    refine a_iastv (k := 0) rfl (n := 5) rfl ⟨by decide, by decide⟩ rfl ?_
    refine a_l0 rfl rfl rfl ?_
    refine a_getq rfl gfX12_36_12 rfl (rfl) ?_
    refine a_s rfl rfl ?_
    refine a_l2 rfl rfl rfl ?_
    refine a_iastv (k := 1) rfl (n := 5) rfl ⟨by decide, by decide⟩ rfl ?_
    refine a_l0 rfl rfl rfl ?_
    refine a_getq rfl gfX12_36_12 rfl (rfl) ?_
    refine a_s rfl rfl ?_
    refine a_l3 rfl rfl rfl ?_
    refine a_iastv (k := 2) rfl (n := 5) rfl ⟨by decide, by decide⟩ rfl ?_
    refine a_l0 rfl rfl rfl ?_
    refine a_getq rfl gfX12_36_12 rfl (rfl) ?_
    refine a_s rfl rfl ?_
    refine a_l4 rfl rfl rfl ?_
    refine a_iastv (k := 3) rfl (n := 5) rfl ⟨by decide, by decide⟩ rfl ?_
    refine a_l0 rfl rfl rfl ?_
    refine a_getq rfl gfX12_36_12 rfl (rfl) ?_
    refine a_s rfl rfl ?_
    refine a_l5 rfl rfl rfl ?_
    refine a_iastv (k := 4) rfl (n := 5) rfl ⟨by decide, by decide⟩ rfl ?_
    obtain ⟨g, eg, hg⟩ : ∃ g, up2 (up2 (up2 (up2 (up2 (up2 I 420 0 0) 427 0 x1) 427 1 x2) 427 2 x3) 427 3 x4) 427 4 x5 = upr (up2 I 420 0 0) 427 g ∧ ∀ q, q < 5 → g q = gvF x1 x2 x3 x4 x5 q := ⟨up2 (up2 (up2 (up2 (up2 (up2 I 420 0 0) 427 0 x1) 427 1 x2) 427 2 x3) 427 3 x4) 427 4 x5 427, by
      funext q
      by_cases hq : q = 427
      · subst hq
        rw [upr_at]
      · rw [upr_row hq, up2_row hq, up2_row hq, up2_row hq, up2_row hq, up2_row hq], fun q hq => by
      rcases q with _ | _ | _ | _ | _ | q
      · rw [up2_ne (Or.inr (by decide)), up2_ne (Or.inr (by decide)), up2_ne (Or.inr (by decide)), up2_ne (Or.inr (by decide)), up2_at]
        rfl
      · rw [up2_ne (Or.inr (by decide)), up2_ne (Or.inr (by decide)), up2_ne (Or.inr (by decide)), up2_at]
        rfl
      · rw [up2_ne (Or.inr (by decide)), up2_ne (Or.inr (by decide)), up2_at]
        rfl
      · rw [up2_ne (Or.inr (by decide)), up2_at]
        rfl
      · rw [up2_at]
        rfl
      · omega⟩
    rw [eg]
    refine a_s rfl rfl ?_
    refine a_s6 rfl rfl rfl rfl rfl rfl ?_
    refine a_inv (n := 20) (fun m ls h => ∃ j, j + m = 20 ∧ ls = [some (.ref 420), some (.int x1), some (.int x2), some (.int x3), some (.int x4), some (.int x5), some (.int (nI j))] ∧ h = hp (upr (upr (up2 I 420 0 0) 427 g) 426 (tpF (I 426) l j x1 x2 x3 x4 x5)) L w1 w2 t) ⟨0, rfl, rfl, by
      rw [tpF_0]
      congr 1
      congr 1
      funext q
      by_cases hq : q = 426
      · subst hq
        rw [upr_at, upr_row (by decide), up2_row (by decide)]
      · rw [upr_row hq]⟩ ?_
    rintro m _ _ ⟨j, hj, rfl, rfl⟩ ih
    refine a_l6 rfl rfl rfl ?_
    refine a_s rfl rfl ?_
    refine a_ic_ge rfl (fun c2 => ?_) (fun c2 => ?_)
    · refine a_l0 rfl rfl rfl ?_
      refine a_s rfl rfl ?_
      refine a_geti rfl gfX12_78_12 rfl ?_
      refine a_top (y := nI l) (by rw [upr_row (by decide), upr_row (by decide)]; exact (up2_ne (Or.inr (by decide))).trans hl) ?_
      refine a_s rfl rfl ?_
      refine a_s rfl rfl ?_
      refine a_top (y := nI (l + 20)) (nI_addl l 20) ?_
      refine a_puti rfl pfX12_78_12 rfl ?_
      refine a_l0 rfl rfl rfl ?_
      refine a_geti rfl gfX12_78_12 rfl ?_
      refine a_top (y := nI (l + 20)) up2_at ?_
      have hge := nI_ge_of (b := 20) c2 (by omega) (by decide)
      obtain rfl : j = 20 := by omega
      exact a_iret rfl rfl ⟨rfl, g, rfl⟩
    · have hj2 : j < 20 := nI_lt_of (b := 20) c2 (by omega) (by decide)
      refine a_l0 rfl rfl rfl ?_
      refine a_getq rfl gfX12_29_12 rfl (rfl) ?_
      refine a_l0 rfl rfl rfl ?_
      refine a_geti rfl gfX12_78_12 rfl ?_
      refine a_top (y := nI l) (by rw [upr_row (by decide), upr_row (by decide)]; exact (up2_ne (Or.inr (by decide))).trans hl) ?_
      refine a_l6 rfl rfl rfl ?_
      refine a_s rfl rfl ?_
      refine a_top (y := nI (l + j)) (nI_addl l j) ?_
      refine a_l0 rfl rfl rfl ?_
      refine a_getq rfl gfX12_36_12 rfl (rfl) ?_
      refine a_l6 rfl rfl rfl ?_
      refine a_s rfl rfl ?_
      refine a_idiv rfl (by decide) ?_
      refine a_top (y := nI (j / 4)) (nI_div4 j hj2).1 ?_
      refine a_iald rfl (n := 5) rfl (inI_nI (by omega) (by omega)) ?_
      refine a_s rfl rfl ?_
      refine a_s rfl rfl ?_
      refine a_l6 rfl rfl rfl ?_
      refine a_s rfl rfl ?_
      refine a_irem rfl (by decide) ?_
      refine a_s rfl rfl ?_
      refine a_s rfl rfl ?_
      refine a_s rfl rfl ?_
      refine a_s rfl rfl ?_
      refine a_top (y := fbF x1 x2 x3 x4 x5 j) (by rw [upr_row (by decide), upr_at, nI_clamp (by omega), hg (j / 4) (by omega), sh_ok j hj2]; rfl) ?_
      refine a_bastv (k := l + j) rfl (n := 400) rfl (inI_nI (by omega) (by omega)) (by unfold fbF byA; exact i2b_id _) (nI_clamp (by omega)) ?_
      rw [up_tp]
      refine a_i6 rfl rfl rfl ?_
      refine a_goto rfl ?_
      exact a_less (ih (m - 1) _ _ (by omega) ⟨j + 1, by omega, rfl, rfl⟩) ⟨rfl, rfl, rfl, rfl, rfl, rfl, nS _, trivial⟩
  · have hc : ¬ l + 20 ≤ 400 := fun z => c (nI_leu z (by decide))
    simp only [if_neg hc]
    refine a_s rfl rfl ?_
    exact a_iret rfl rfl ⟨rfl, I 427, rfl⟩
end T79j
end
section
/-! ===== law, on both sides, as the law's round calls it ===== -/
section T79k
variable {S : aS} {I : Nat → Nat → Int32} {L : Nat → Nat → Int64} {w1 w2 t : Nat} {e : Nat} {T : Nat → Int32}
set_option maxRecDepth 100000
theorem f_clear : SpE S m_X2_clear 12 [.ref 226] (hp I L w1 w2 t) none (hp (up2 (up2 I 226 0 0) 226 1 0) L w1 w2 t) := by
  refine SpE_of ok_X2_clear rfl rfl ?_
  show AW S m_X2_clear 12 _ _ 0 0 0 [some (.ref 226)] [] (hp I L w1 w2 t)
  refine a_l0 rfl rfl rfl ?_
  refine a_s rfl rfl ?_
  refine a_puti rfl pfX2_11_2 rfl ?_
  refine a_l0 rfl rfl rfl ?_
  refine a_s rfl rfl ?_
  refine a_puti rfl pfX2_41_2 rfl ?_
  exact a_vret rfl rfl ⟨rfl, rfl⟩
theorem sW_sM : ∀ q k, sW q k = true → sM q k = true := fun q k h => by
  have B : ∀ {a b : Nat}, Nat.beq a b = true → a = b := fun z => Nat.eq_of_beq_eq_true z
  have E : ∀ {a b : Nat}, Nat.ble a b = true → a ≤ b := fun z => Nat.le_of_ble_eq_true z
  have hq : (221 ≤ q ∧ q ≤ 234) ∨ (q = 220 ∧ (k = 4 ∨ k = 5)) := by
    simp only [sW, sC, Bool.or_eq_true, Bool.and_eq_true] at h
    rcases h with (h | h | h | ⟨h, h' | h'⟩ | ⟨h, h'⟩) | ⟨h, h'⟩ | ⟨h, h'⟩ | ⟨h, h'⟩
    · have := B h; omega
    · have := B h; omega
    · have := B h; omega
    · have := B h; have := B h'; omega
    · have := B h; have := B h'; omega
    · have := B h; omega
    · have := E h; have := E h'; omega
    · have := E h; have := E h'; omega
    · have := B h; omega
  rcases hq with hq | ⟨rfl, rfl | rfl⟩
  · exact sM_mid (by omega) (by omega) fun z => by have := isSt_lt q (by omega) z; omega
  · rfl
  · rfl
/-- the class's law behind a text -/
def LwC (r : LRs) (J : Nat → Nat → Int32) : Prop := J 200 3 = -1 ∧ J 200 13 = 0 ∧ J 246 0 = nI r.2.2.2.length ∧ LnL (J 247) (J 248) (J 249) (J 250) r.2.2.2 ∧ RowL (J 251) r.2.2.1
theorem f_lawC (hw : WdS S) (he : I 201 1 = nI e) (h4 : e ≤ 400) (hbt : BtT T) (hT : I 202 = T) (hm : I 220 1 = 12) : Sp S m_X11_law 21 1 6 [.ref 200] (hp I L w1 w2 t) (fun v h' => v = some (.int (nI (lawP T e).2.2.2.length)) ∧ (lawP T e).1 = true ∧ ∃ J w, h' = hp J L w1 w t ∧ WK w ∧ Mt0 I J ∧ LwC (lawP T e) J) (fun E h' => E = exN 1 ∧ (lawP T e).1 = false ∧ ∃ J w, h' = hp J L w1 w 0 ∧ WK w ∧ Mt0 I J ∧ J 200 3 = nI (lawP T e).2.1) := by
  refine Sp_of ok_X11_law rfl rfl ?_
  show AW S m_X11_law 21 _ _ 1 6 0 [some (.ref 200)] [] (hp I L w1 w2 t)
  refine a_l0 rfl rfl rfl ?_
  refine a_getq rfl gfX11_26_11 rfl (rfl) ?_
  refine a_getq rfl gfX11_98_3 rfl (rfl) ?_
  refine a_eV0 rfl lX11_100 mo_X2_clear f_clear rfl rfl rfl ⟨2, _, rfl, rfl, rfl⟩ rfl ?_
  refine a_l0 rfl rfl rfl ?_
  refine a_l0 rfl rfl rfl ?_
  refine a_getq rfl gfX11_26_11 rfl (rfl) ?_
  refine a_l0 rfl rfl rfl ?_
  refine a_getq rfl gfX11_10_11 rfl (rfl) ?_
  have g1 : ∀ q, q ≠ 226 → up2 (up2 I 226 0 0) 226 1 0 q = I q := fun q hq => by rw [up2_row hq, up2_row hq]
  refine a_callU rfl lu_103 dc_readLines mo_X8_readLines hx_rl (f_readLines hw ((congrFun (g1 201 (by decide)) 1).trans he) h4 (by rw [g1 202 (by decide), hT]; exact hbt) ((congrFun (g1 220 (by decide)) 1).trans hm) ((up2_ne (Or.inr (by decide))).trans up2_at) up2_at) rfl rfl rfl ⟨3, _, rfl, rfl, rfl⟩ rfl (fun v' h' hv => ?_) (fun _ _ z => False.elim z)
  rw [g1 202 (by decide), hT] at hv
  obtain ⟨rfl, J, w, rfl, hww, hF, hy⟩ := hv
  have fM : Mt I J := Mt.of (Fm.tr (Fm.up (Fm.up Fm.rf rfl) rfl) (Fm.mo hF sW_sM))
  rcases er : lawP T e with ⟨z, b1, o1, l1⟩
  rw [er] at hy
  cases z with
  | false =>
    rw [if_neg Bool.false_ne_true]
    refine a_puti rfl pfX11_30_11 rfl ?_
    refine a_l0 rfl rfl rfl ?_
    refine a_getq rfl gfX11_10_11 rfl (rfl) ?_
    refine a_s rfl rfl ?_
    refine a_puti rfl pfX11_68_7 rfl ?_
    have fM0 : Mt0 I (up2 (up2 J 200 3 (nI b1)) 201 1 0) := Mt0.mk (Mt.fm fM (Fm.up Fm.rf rfl))
    have e3 : up2 (up2 J 200 3 (nI b1)) 201 1 0 200 3 = nI b1 := (congrFun (up2_row (by decide)) 3).trans up2_at
    refine a_l0 rfl rfl rfl ?_
    refine a_getiv (v := nI b1) rfl gfX11_30_11 rfl (e3) ?_
    refine a_s rfl rfl ?_
    have hb1 : b1 < 2 ^ 31 := by
      have := lawP_le (T := T) (e := e)
      rw [er] at this
      have this : b1 ≤ e := this
      omega
    refine a_ic_eq rfl (fun c => absurd c ?_) (fun _ => ?_)
    · intro z
      have := nI_pos hb1
      rw [z] at this
      exact this (by decide)
    exact a_throw rfl rfl rfl rfl tX11_iae rfl rfl rfl rfl rfl ⟨rfl, rfl, _, w, rfl, hww, fM0, e3⟩
  | true =>
    rw [if_pos rfl]
    obtain ⟨y1, y2, y3, y4, -, -⟩ := hy rfl
    refine a_puti rfl pfX11_30_11 rfl ?_
    refine a_l0 rfl rfl rfl ?_
    refine a_getq rfl gfX11_10_11 rfl (rfl) ?_
    refine a_s rfl rfl ?_
    refine a_puti rfl pfX11_68_7 rfl ?_
    have fM0 : Mt0 I (up2 (up2 J 200 3 (-1)) 201 1 0) := Mt0.mk (Mt.fm fM (Fm.up Fm.rf rfl))
    refine a_l0 rfl rfl rfl ?_
    refine a_getiv (v := (-1)) rfl gfX11_30_11 rfl ((congrFun (up2_row (by decide)) 3).trans up2_at) ?_
    refine a_s rfl rfl ?_
    refine a_ic_eq rfl (fun _ => ?_) (fun c => absurd rfl c)
    refine a_l0 rfl rfl rfl ?_
    refine a_getq rfl gfX11_44_11 rfl (rfl) ?_
    refine a_l0 rfl rfl rfl ?_
    refine a_getq rfl gfX11_26_11 rfl (rfl) ?_
    refine a_getq rfl gfX11_98_3 rfl (rfl) ?_
    refine a_eV0 rfl lX11_104 mo_X2_copyFrom (sp_X2_copyFrom (a := 246) (b := 226) (by decide) (by decide) (by decide)) rfl rfl rfl ⟨2, _, rfl, rfl, rfl⟩ rfl ?_
    refine a_l0 rfl rfl rfl ?_
    refine a_s rfl rfl ?_
    refine a_puti rfl pfX11_95_11 rfl ?_
    have fM1 : Mt0 I (up2 (cpL (up2 (up2 J 200 3 (-1)) 201 1 0) 246 226) 200 13 0) := Mt0.fm (Mt0.fm fM0 (Fm.cl (Fm.rf (s := sM)) (by decide) Fm_l246)) (Fm.up Fm.rf rfl)
    have r0 : ∀ k, up2 (cpL (up2 (up2 J 200 3 (-1)) 201 1 0) 246 226) 200 13 0 246 k = cpL (up2 (up2 J 200 3 (-1)) 201 1 0) 246 226 246 k := fun k => congrFun (up2_row (by decide)) k
    have e0 : up2 (cpL (up2 (up2 J 200 3 (-1)) 201 1 0) 246 226) 200 13 0 246 0 = nI l1.length := by
      rw [r0]
      unfold cpL
      rw [up2_at, up2_row (by decide), up2_row (by decide)]
      exact y3
    have ri : ∀ i, i < 5 → up2 (cpL (up2 (up2 J 200 3 (-1)) 201 1 0) 246 226) 200 13 0 (247 + i) = J (227 + i) := fun i hi => by
      rw [up2_row (by omega)]
      unfold cpL
      rw [up2_row (by omega), show 247 + i = 246 + 1 + i from rfl, cpS_in hi, up2_row (by omega), up2_row (by omega)]
    refine a_l0 rfl rfl rfl ?_
    refine a_getq rfl gfX11_44_11 rfl (rfl) ?_
    refine a_getiv (v := nI l1.length) rfl gfX11_107_2 rfl (e0) ?_
    refine a_iret rfl rfl ⟨rfl, rfl, _, w, rfl, hww, fM1, ?_, up2_at, e0, ?_, ?_⟩
    · rw [up2_ne (Or.inr (by decide))]
      unfold cpL
      rw [up2_row (by decide), cpS_out (by decide), up2_row (by decide)]
      exact up2_at
    · rw [show (247 : Nat) = 247 + 0 from rfl, show (248 : Nat) = 247 + 1 from rfl, show (249 : Nat) = 247 + 2 from rfl, show (250 : Nat) = 247 + 3 from rfl, ri 0 (by decide), ri 1 (by decide), ri 2 (by decide), ri 3 (by decide)]
      exact y4
    · rw [show (251 : Nat) = 247 + 4 from rfl, ri 4 (by decide)]
      exact y2
theorem h_thrown : SpE S m_X12_thrown 12 [.ref 420] (hp I L w1 w2 t) (some (.int (I 420 0))) (hp I L w1 w2 t) := by
  refine SpE_of ok_X12_thrown rfl rfl ?_
  show AW S m_X12_thrown 12 _ _ 0 0 0 [some (.ref 420)] [] (hp I L w1 w2 t)
  refine a_l0 rfl rfl rfl ?_
  refine a_geti rfl gfX12_3_12 rfl ?_
  exact a_iret rfl rfl ⟨rfl, rfl⟩
/-- both tapes hold the same, bytes; the readers' bounds are what they were made -/
def Tp (I : Nat → Nat → Int32) : Prop := I 426 = I 202 ∧ BtT (I 202) ∧ I 203 1 = 14 ∧ I 220 1 = 12
theorem Tp.eq {J : Nat → Nat → Int32} (h : Tp I) (e6 : J 426 = I 426) (e2 : J 202 = I 202) (a : J 203 1 = I 203 1) (b : J 220 1 = I 220 1) : Tp J := ⟨e6.trans (h.1.trans e2.symm), by rw [e2]; exact h.2.1, a.trans h.2.2.1, b.trans h.2.2.2⟩
theorem Tp.m {J : Nat → Nat → Int32} (h : Tp I) (f : Mt I J) : Tp J := h.eq (f.1 426 (by decide)) f.2.2.2.2.1 f.2.2.2.2.2.1 f.2.2.2.2.2.2
theorem Tp.r {J : Nat → Nat → Int32} (h : Tp I) (g : ∀ q, (q < 420 ∨ q = 426) → J q = I q) : Tp J := h.eq (g 426 (Or.inr rfl)) (g 202 (by decide)) (by rw [g 203 (by decide)]) (by rw [g 220 (by decide)])
theorem Tp.f {J : Nat → Nat → Int32} (h : Tp I) (g : ∀ q, q ≠ 201 → q ≠ 420 → J q = I q) : Tp J := h.eq (g 426 (by decide) (by decide)) (g 202 (by decide) (by decide)) (by rw [g 203 (by decide) (by decide)]) (by rw [g 220 (by decide) (by decide)])
end T79k
end
